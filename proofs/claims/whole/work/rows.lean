section
-- ===== PART A: goes FIRST, ahead of the names: the tables' words, and 'selects' of the private methods out of them =====
/-- a private method of a class that the tables say can be made, by its rows of tables_1 -/
def lw_okq (q : MethodName × Nat) : Prop := (q.1.cls ≠ "java/lang/invoke/MethodHandle" ∧ q.1.cls ≠ "java/lang/invoke/VarHandle") ∧ Cond.instantiable q.1.cls q.2 ∈ tables_1 ∧ Cond.privateMethod q.1 ∈ tables_1 ∧ Cond.instanceMethod q.1 ∈ tables_1
theorem lw_p0 : lw_okq (⟨"YardStacks", "hasBoxOfAnotherShip", "(II)Z"⟩, 6) := ⟨⟨by decide +kernel, by decide +kernel⟩, List.mem_of_getElem? (i := 15) (by decide +kernel), List.mem_of_getElem? (i := 157) (by decide +kernel), List.mem_of_getElem? (i := 158) (by decide +kernel)⟩
theorem lw_p1 : lw_okq (⟨"YardStacks$Stacks", "lift", "(I)V"⟩, 6) := ⟨⟨by decide +kernel, by decide +kernel⟩, List.mem_of_getElem? (i := 64) (by decide +kernel), List.mem_of_getElem? (i := 177) (by decide +kernel), List.mem_of_getElem? (i := 178) (by decide +kernel)⟩
theorem lw_p2 : lw_okq (⟨"YardStacks$Stacks", "lay", "(II)V"⟩, 6) := ⟨⟨by decide +kernel, by decide +kernel⟩, List.mem_of_getElem? (i := 64) (by decide +kernel), List.mem_of_getElem? (i := 181) (by decide +kernel), List.mem_of_getElem? (i := 182) (by decide +kernel)⟩
theorem lw_p3 : lw_okq (⟨"YardStacks", "standingBoxes", "()I"⟩, 6) := ⟨⟨by decide +kernel, by decide +kernel⟩, List.mem_of_getElem? (i := 15) (by decide +kernel), List.mem_of_getElem? (i := 189) (by decide +kernel), List.mem_of_getElem? (i := 190) (by decide +kernel)⟩
theorem lw_p4 : lw_okq (⟨"YardStacks", "boxesInTheWay", "()I"⟩, 6) := ⟨⟨by decide +kernel, by decide +kernel⟩, List.mem_of_getElem? (i := 15) (by decide +kernel), List.mem_of_getElem? (i := 193) (by decide +kernel), List.mem_of_getElem? (i := 194) (by decide +kernel)⟩
theorem lw_p5 : lw_okq (⟨"YardStacks", "isInTheWay", "(I)Z"⟩, 6) := ⟨⟨by decide +kernel, by decide +kernel⟩, List.mem_of_getElem? (i := 15) (by decide +kernel), List.mem_of_getElem? (i := 197) (by decide +kernel), List.mem_of_getElem? (i := 198) (by decide +kernel)⟩
theorem lw_p6 : lw_okq (⟨"YardStacks", "soonerBelow", "(III)I"⟩, 6) := ⟨⟨by decide +kernel, by decide +kernel⟩, List.mem_of_getElem? (i := 15) (by decide +kernel), List.mem_of_getElem? (i := 202) (by decide +kernel), List.mem_of_getElem? (i := 203) (by decide +kernel)⟩
theorem lw_p7 : lw_okq (⟨"YardStacks", "countOfRow", "(I)I"⟩, 6) := ⟨⟨by decide +kernel, by decide +kernel⟩, List.mem_of_getElem? (i := 15) (by decide +kernel), List.mem_of_getElem? (i := 206) (by decide +kernel), List.mem_of_getElem? (i := 207) (by decide +kernel)⟩
theorem lw_p8 : lw_okq (⟨"YardStacks", "weightOn", "(I)I"⟩, 6) := ⟨⟨by decide +kernel, by decide +kernel⟩, List.mem_of_getElem? (i := 15) (by decide +kernel), List.mem_of_getElem? (i := 210) (by decide +kernel), List.mem_of_getElem? (i := 211) (by decide +kernel)⟩
theorem lw_p9 : lw_okq (⟨"java/lang/Throwable", "fillInStackTrace", "(I)Ljava/lang/Throwable;"⟩, 6) := ⟨⟨by decide +kernel, by decide +kernel⟩, List.mem_of_getElem? (i := 264) (by decide +kernel), List.mem_of_getElem? (i := 262) (by decide +kernel), List.mem_of_getElem? (i := 263) (by decide +kernel)⟩
theorem lw_p10 : lw_okq (⟨"YardStacks", "requireBox", "(I)V"⟩, 6) := ⟨⟨by decide +kernel, by decide +kernel⟩, List.mem_of_getElem? (i := 15) (by decide +kernel), List.mem_of_getElem? (i := 322) (by decide +kernel), List.mem_of_getElem? (i := 323) (by decide +kernel)⟩
theorem lw_p11 : lw_okq (⟨"YardStacks", "requireRow", "(I)V"⟩, 6) := ⟨⟨by decide +kernel, by decide +kernel⟩, List.mem_of_getElem? (i := 15) (by decide +kernel), List.mem_of_getElem? (i := 346) (by decide +kernel), List.mem_of_getElem? (i := 347) (by decide +kernel)⟩
theorem lw_p12 : lw_okq (⟨"YardStacks", "ruleBrokenByPut", "(II)I"⟩, 6) := ⟨⟨by decide +kernel, by decide +kernel⟩, List.mem_of_getElem? (i := 15) (by decide +kernel), List.mem_of_getElem? (i := 351) (by decide +kernel), List.mem_of_getElem? (i := 352) (by decide +kernel)⟩
theorem lw_p13 : lw_okq (⟨"YardStacks", "ruleBrokenOnTop", "(II)I"⟩, 6) := ⟨⟨by decide +kernel, by decide +kernel⟩, List.mem_of_getElem? (i := 15) (by decide +kernel), List.mem_of_getElem? (i := 355) (by decide +kernel), List.mem_of_getElem? (i := 356) (by decide +kernel)⟩
theorem lw_p14 : lw_okq (⟨"YardStacks", "move", "(II)V"⟩, 6) := ⟨⟨by decide +kernel, by decide +kernel⟩, List.mem_of_getElem? (i := 15) (by decide +kernel), List.mem_of_getElem? (i := 366) (by decide +kernel), List.mem_of_getElem? (i := 367) (by decide +kernel)⟩
theorem lw_p15 : lw_okq (⟨"YardStacks", "ruleBrokenByShift", "(II)I"⟩, 6) := ⟨⟨by decide +kernel, by decide +kernel⟩, List.mem_of_getElem? (i := 15) (by decide +kernel), List.mem_of_getElem? (i := 397) (by decide +kernel), List.mem_of_getElem? (i := 398) (by decide +kernel)⟩
def lw_privs_1 : List (MethodName × Nat) := [(⟨"YardStacks", "hasBoxOfAnotherShip", "(II)Z"⟩, 6), (⟨"YardStacks$Stacks", "lift", "(I)V"⟩, 6), (⟨"YardStacks$Stacks", "lay", "(II)V"⟩, 6), (⟨"YardStacks", "standingBoxes", "()I"⟩, 6), (⟨"YardStacks", "boxesInTheWay", "()I"⟩, 6), (⟨"YardStacks", "isInTheWay", "(I)Z"⟩, 6), (⟨"YardStacks", "soonerBelow", "(III)I"⟩, 6), (⟨"YardStacks", "countOfRow", "(I)I"⟩, 6), (⟨"YardStacks", "weightOn", "(I)I"⟩, 6), (⟨"java/lang/Throwable", "fillInStackTrace", "(I)Ljava/lang/Throwable;"⟩, 6), (⟨"YardStacks", "requireBox", "(I)V"⟩, 6), (⟨"YardStacks", "requireRow", "(I)V"⟩, 6), (⟨"YardStacks", "ruleBrokenByPut", "(II)I"⟩, 6), (⟨"YardStacks", "ruleBrokenOnTop", "(II)I"⟩, 6), (⟨"YardStacks", "move", "(II)V"⟩, 6), (⟨"YardStacks", "ruleBrokenByShift", "(II)I"⟩, 6)]
theorem lw_r1 : ∀ q ∈ lw_privs_1, lw_okq q := List.forall_mem_cons.mpr ⟨lw_p0, List.forall_mem_cons.mpr ⟨lw_p1, List.forall_mem_cons.mpr ⟨lw_p2, List.forall_mem_cons.mpr ⟨lw_p3, List.forall_mem_cons.mpr ⟨lw_p4, List.forall_mem_cons.mpr ⟨lw_p5, List.forall_mem_cons.mpr ⟨lw_p6, List.forall_mem_cons.mpr ⟨lw_p7, List.forall_mem_cons.mpr ⟨lw_p8, List.forall_mem_cons.mpr ⟨lw_p9, List.forall_mem_cons.mpr ⟨lw_p10, List.forall_mem_cons.mpr ⟨lw_p11, List.forall_mem_cons.mpr ⟨lw_p12, List.forall_mem_cons.mpr ⟨lw_p13, List.forall_mem_cons.mpr ⟨lw_p14, List.forall_mem_cons.mpr ⟨lw_p15, fun _ h => absurd h List.not_mem_nil⟩⟩⟩⟩⟩⟩⟩⟩⟩⟩⟩⟩⟩⟩⟩⟩
theorem lw_p16 : lw_okq (⟨"YardStacks", "bestRow", "(IZ)I"⟩, 6) := ⟨⟨by decide +kernel, by decide +kernel⟩, List.mem_of_getElem? (i := 15) (by decide +kernel), List.mem_of_getElem? (i := 408) (by decide +kernel), List.mem_of_getElem? (i := 409) (by decide +kernel)⟩
theorem lw_p17 : lw_okq (⟨"YardStacks", "wouldBeInTheWay", "(II)Z"⟩, 6) := ⟨⟨by decide +kernel, by decide +kernel⟩, List.mem_of_getElem? (i := 15) (by decide +kernel), List.mem_of_getElem? (i := 412) (by decide +kernel), List.mem_of_getElem? (i := 413) (by decide +kernel)⟩
theorem lw_p18 : lw_okq (⟨"YardStacks", "scoreOn", "(II)I"⟩, 6) := ⟨⟨by decide +kernel, by decide +kernel⟩, List.mem_of_getElem? (i := 15) (by decide +kernel), List.mem_of_getElem? (i := 416) (by decide +kernel), List.mem_of_getElem? (i := 417) (by decide +kernel)⟩
theorem lw_p19 : lw_okq (⟨"YardStacks", "moveOneAside", "()Z"⟩, 6) := ⟨⟨by decide +kernel, by decide +kernel⟩, List.mem_of_getElem? (i := 15) (by decide +kernel), List.mem_of_getElem? (i := 436) (by decide +kernel), List.mem_of_getElem? (i := 437) (by decide +kernel)⟩
theorem lw_p20 : lw_okq (⟨"YardStacksModel", "fails", "(I)I"⟩, 18) := ⟨⟨by decide +kernel, by decide +kernel⟩, List.mem_of_getElem? (i := 457) (by decide +kernel), List.mem_of_getElem? (i := 532) (by decide +kernel), List.mem_of_getElem? (i := 533) (by decide +kernel)⟩
theorem lw_p21 : lw_okq (⟨"YardStacksModel", "isRow", "(I)Z"⟩, 18) := ⟨⟨by decide +kernel, by decide +kernel⟩, List.mem_of_getElem? (i := 457) (by decide +kernel), List.mem_of_getElem? (i := 540) (by decide +kernel), List.mem_of_getElem? (i := 541) (by decide +kernel)⟩
theorem lw_p22 : lw_okq (⟨"YardStacksModel", "heightOf", "(I)I"⟩, 18) := ⟨⟨by decide +kernel, by decide +kernel⟩, List.mem_of_getElem? (i := 457) (by decide +kernel), List.mem_of_getElem? (i := 544) (by decide +kernel), List.mem_of_getElem? (i := 545) (by decide +kernel)⟩
theorem lw_p23 : lw_okq (⟨"YardStacksModel", "isBox", "(I)Z"⟩, 18) := ⟨⟨by decide +kernel, by decide +kernel⟩, List.mem_of_getElem? (i := 457) (by decide +kernel), List.mem_of_getElem? (i := 556) (by decide +kernel), List.mem_of_getElem? (i := 557) (by decide +kernel)⟩
theorem lw_p24 : lw_okq (⟨"YardStacksModel", "broken", "(II)I"⟩, 18) := ⟨⟨by decide +kernel, by decide +kernel⟩, List.mem_of_getElem? (i := 457) (by decide +kernel), List.mem_of_getElem? (i := 560) (by decide +kernel), List.mem_of_getElem? (i := 561) (by decide +kernel)⟩
theorem lw_p25 : lw_okq (⟨"YardStacksModel", "boxAt", "(II)I"⟩, 18) := ⟨⟨by decide +kernel, by decide +kernel⟩, List.mem_of_getElem? (i := 457) (by decide +kernel), List.mem_of_getElem? (i := 564) (by decide +kernel), List.mem_of_getElem? (i := 565) (by decide +kernel)⟩
theorem lw_p26 : lw_okq (⟨"YardStacksModel", "weightOf", "(I)I"⟩, 18) := ⟨⟨by decide +kernel, by decide +kernel⟩, List.mem_of_getElem? (i := 457) (by decide +kernel), List.mem_of_getElem? (i := 568) (by decide +kernel), List.mem_of_getElem? (i := 569) (by decide +kernel)⟩
theorem lw_p27 : lw_okq (⟨"YardStacksModel", "hasOtherSize", "(II)Z"⟩, 18) := ⟨⟨by decide +kernel, by decide +kernel⟩, List.mem_of_getElem? (i := 457) (by decide +kernel), List.mem_of_getElem? (i := 572) (by decide +kernel), List.mem_of_getElem? (i := 573) (by decide +kernel)⟩
theorem lw_p28 : lw_okq (⟨"YardStacksModel", "moves", "(II)V"⟩, 18) := ⟨⟨by decide +kernel, by decide +kernel⟩, List.mem_of_getElem? (i := 457) (by decide +kernel), List.mem_of_getElem? (i := 576) (by decide +kernel), List.mem_of_getElem? (i := 577) (by decide +kernel)⟩
theorem lw_p29 : lw_okq (⟨"YardStacksModel", "goes", "(II)V"⟩, 18) := ⟨⟨by decide +kernel, by decide +kernel⟩, List.mem_of_getElem? (i := 457) (by decide +kernel), List.mem_of_getElem? (i := 580) (by decide +kernel), List.mem_of_getElem? (i := 581) (by decide +kernel)⟩
theorem lw_p30 : lw_okq (⟨"YardStacksModel", "isTop", "(I)Z"⟩, 18) := ⟨⟨by decide +kernel, by decide +kernel⟩, List.mem_of_getElem? (i := 457) (by decide +kernel), List.mem_of_getElem? (i := 588) (by decide +kernel), List.mem_of_getElem? (i := 589) (by decide +kernel)⟩
theorem lw_p31 : lw_okq (⟨"YardStacksModel", "scoreOf", "(II)I"⟩, 18) := ⟨⟨by decide +kernel, by decide +kernel⟩, List.mem_of_getElem? (i := 457) (by decide +kernel), List.mem_of_getElem? (i := 600) (by decide +kernel), List.mem_of_getElem? (i := 601) (by decide +kernel)⟩
def lw_privs_2 : List (MethodName × Nat) := [(⟨"YardStacks", "bestRow", "(IZ)I"⟩, 6), (⟨"YardStacks", "wouldBeInTheWay", "(II)Z"⟩, 6), (⟨"YardStacks", "scoreOn", "(II)I"⟩, 6), (⟨"YardStacks", "moveOneAside", "()Z"⟩, 6), (⟨"YardStacksModel", "fails", "(I)I"⟩, 18), (⟨"YardStacksModel", "isRow", "(I)Z"⟩, 18), (⟨"YardStacksModel", "heightOf", "(I)I"⟩, 18), (⟨"YardStacksModel", "isBox", "(I)Z"⟩, 18), (⟨"YardStacksModel", "broken", "(II)I"⟩, 18), (⟨"YardStacksModel", "boxAt", "(II)I"⟩, 18), (⟨"YardStacksModel", "weightOf", "(I)I"⟩, 18), (⟨"YardStacksModel", "hasOtherSize", "(II)Z"⟩, 18), (⟨"YardStacksModel", "moves", "(II)V"⟩, 18), (⟨"YardStacksModel", "goes", "(II)V"⟩, 18), (⟨"YardStacksModel", "isTop", "(I)Z"⟩, 18), (⟨"YardStacksModel", "scoreOf", "(II)I"⟩, 18)]
theorem lw_r2 : ∀ q ∈ lw_privs_2, lw_okq q := List.forall_mem_cons.mpr ⟨lw_p16, List.forall_mem_cons.mpr ⟨lw_p17, List.forall_mem_cons.mpr ⟨lw_p18, List.forall_mem_cons.mpr ⟨lw_p19, List.forall_mem_cons.mpr ⟨lw_p20, List.forall_mem_cons.mpr ⟨lw_p21, List.forall_mem_cons.mpr ⟨lw_p22, List.forall_mem_cons.mpr ⟨lw_p23, List.forall_mem_cons.mpr ⟨lw_p24, List.forall_mem_cons.mpr ⟨lw_p25, List.forall_mem_cons.mpr ⟨lw_p26, List.forall_mem_cons.mpr ⟨lw_p27, List.forall_mem_cons.mpr ⟨lw_p28, List.forall_mem_cons.mpr ⟨lw_p29, List.forall_mem_cons.mpr ⟨lw_p30, List.forall_mem_cons.mpr ⟨lw_p31, fun _ h => absurd h List.not_mem_nil⟩⟩⟩⟩⟩⟩⟩⟩⟩⟩⟩⟩⟩⟩⟩⟩
theorem lw_p32 : lw_okq (⟨"YardStacksModel", "sooner", "(III)I"⟩, 18) := ⟨⟨by decide +kernel, by decide +kernel⟩, List.mem_of_getElem? (i := 457) (by decide +kernel), List.mem_of_getElem? (i := 604) (by decide +kernel), List.mem_of_getElem? (i := 605) (by decide +kernel)⟩
theorem lw_p33 : lw_okq (⟨"YardStacksModel", "worst", "()I"⟩, 18) := ⟨⟨by decide +kernel, by decide +kernel⟩, List.mem_of_getElem? (i := 457) (by decide +kernel), List.mem_of_getElem? (i := 616) (by decide +kernel), List.mem_of_getElem? (i := 617) (by decide +kernel)⟩
theorem lw_p34 : lw_okq (⟨"YardStacksModel", "aside", "(I)I"⟩, 18) := ⟨⟨by decide +kernel, by decide +kernel⟩, List.mem_of_getElem? (i := 457) (by decide +kernel), List.mem_of_getElem? (i := 620) (by decide +kernel), List.mem_of_getElem? (i := 621) (by decide +kernel)⟩
def lw_privs_3 : List (MethodName × Nat) := [(⟨"YardStacksModel", "sooner", "(III)I"⟩, 18), (⟨"YardStacksModel", "worst", "()I"⟩, 18), (⟨"YardStacksModel", "aside", "(I)I"⟩, 18)]
theorem lw_r3 : ∀ q ∈ lw_privs_3, lw_okq q := List.forall_mem_cons.mpr ⟨lw_p32, List.forall_mem_cons.mpr ⟨lw_p33, List.forall_mem_cons.mpr ⟨lw_p34, fun _ h => absurd h List.not_mem_nil⟩⟩⟩
def lw_privs : List (MethodName × Nat) := lw_privs_1 ++ (lw_privs_2 ++ (lw_privs_3))
def lw_tbl : List Cond := k2_sels lw_privs ++ tables_1
theorem lw_privs_ok : ∀ q ∈ lw_privs, lw_okq q := by
  show ∀ q ∈ lw_privs_1 ++ (lw_privs_2 ++ (lw_privs_3)), lw_okq q
  exact List.forall_mem_append.mpr ⟨lw_r1, List.forall_mem_append.mpr ⟨lw_r2, lw_r3⟩⟩
end
section
/-! ===== BEGIN words of one list among another's, by their places ===== -/
theorem goodIn_r {big : List Cond} (ws : List Cond) (ps : List Nat) (hp : ws = ps.filterMap (fun i => big[i]?)) (h : ws.all goodWord = true) : GoodIn big ws := by
  intro w hw
  have h1 := List.all_eq_true.mp h w hw
  rw [hp] at hw
  obtain ⟨i, -, hi⟩ := List.mem_filterMap.mp hw
  have hm : w ∈ big := by first | exact List.mem_of_getElem? hi | exact List.getElem?_mem hi
  exact ⟨hm, good_of_word h1⟩
theorem goodIn_app {big a b : List Cond} (ha : GoodIn big a) (hb : GoodIn big b) : GoodIn big (a ++ b) := fun w h => (List.mem_append.mp h).elim (ha w) (hb w)
theorem goodIn_ca {big a b : List Cond} {c : Cond} (ha : GoodIn big (c :: a)) (hb : GoodIn big b) : GoodIn big (c :: (a ++ b)) := fun w h => (List.mem_cons.mp h).elim (fun e => ha w (List.mem_cons.mpr (Or.inl e))) (fun h => (List.mem_append.mp h).elim (fun h => ha w (List.mem_cons.mpr (Or.inr h))) (hb w))
theorem goodIn_sub {big ws : List Cond} (hm : ∀ w ∈ ws, w ∈ big) (h : ws.all goodWord = true) : GoodIn big ws := fun w hw => ⟨hm w hw, good_of_word (List.all_eq_true.mp h w hw)⟩
/-! ===== END ===== -/

/-! ===== BEGIN new T[n][m]: the outer array a place, the inner ones among the pooled ===== -/
/-- f, but v at every address of l -/
def vr_up {α : Type} (f : Nat → α) (l : List Nat) (v : α) : Nat → α := fun a => if a ∈ l then v else f a
theorem vr_up_in {α : Type} {f : Nat → α} {l : List Nat} {v : α} {a : Nat} (h : a ∈ l) : vr_up f l v a = v := if_pos h
theorem vr_up_ne {α : Type} {f : Nat → α} {l : List Nat} {v : α} {a : Nat} (h : a ∉ l) : vr_up f l v a = f a := if_neg h
theorem vr_rows {L l : List Nat} {f : Nat → va_E} {e : va_E} (h : ∀ a, a ∈ l → a ∉ L) : va_pl L f ++ l.map (fun a => (a, e)) = va_pl (L ++ l) (vr_up f l e) := by
  unfold va_pl
  rw [List.map_append]
  congr 1
  · apply List.map_congr_left
    intro a ha
    rw [vr_up_ne (fun q => h a q ha)]
  · apply List.map_congr_left
    intro a ha
    rw [vr_up_in ha]
theorem vr_lay {X rows : va_W} {x : Nat × va_E} {pl : va_W} {D : va_G} {cl : List vw_C} {H : Heap} (hP : va_P D cl (((X ++ pl) ++ [x]) ++ rows) H) : va_P D cl ((X ++ [x]) ++ (pl ++ rows)) H := by
  rw [List.append_assoc (X ++ pl)] at hP
  have h := va_P.swap hP
  rw [← List.append_assoc X] at h
  have h2 := va_P.swap h
  rw [List.append_assoc (X ++ [x])] at h2
  exact h2
theorem vr_layD {X rows : va_W} {x : Nat × va_E} {pl : va_W} {A : Nat → Prop} (hD : va_D A (((X ++ pl) ++ [x]) ++ rows)) : va_D A ((X ++ [x]) ++ (pl ++ rows)) := by
  rw [List.append_assoc (X ++ pl)] at hD
  have h := va_D.swap hD
  rw [← List.append_assoc X] at h
  have h2 := va_D.swap h
  rw [List.append_assoc (X ++ [x])] at h2
  exact h2
theorem vr_outer (c : ClassId) (N h0 : Nat) : ∀ i : Nat, Jvm.Free.Multi.outerC c N h0 i = arrV c N (fun j => va_rf (if j < i then some (h0 + 1 + j) else none))
  | 0 => by
    show ({ cls := c, slots := Array.replicate N .null, vm := .none } : Cell) = _
    rw [arrV_new]
    refine congrArg (arrV c N) (funext fun j => ?_)
    simp [va_rf]
  | i + 1 => by
    show (Jvm.Free.Multi.outerC c N h0 i).setSlot i (.ref (h0 + 1 + i)) = _
    rw [vr_outer c N h0 i, arrV_store]
    refine congrArg (arrV c N) (funext fun j => ?_)
    by_cases e : j = i
    · subst e
      simp [updV, va_rf]
    · by_cases h : j < i
      · simp [updV, e, h, Nat.lt_succ_of_lt h]
      · simp [updV, e, h, show ¬ j < i + 1 by omega]
section VGM
variable {p : Program} {l : Launch} {e : Env} {R : Room} {s : State} {m : MethodId} {args : Array Value} {below : List Frame} {meth : Method} {c : Code} {H : Heap} {locs : List Loc} {cells slots : Nat} {Q : State → Prop}
variable {cc : ByteArray} {pc : Nat} {ls : Array Slot} {rest : List Value} {D : va_G} {cl : List vw_C} {A : Nat → Prop} {a : Nat} {tys : List (ClassId × FieldType)} {ws : va_W} {H0 : Heap}
theorem va_mna {X : va_W} {L : List Nat} {f : Nat → va_E} {cc : ByteArray} (hexec : p.tables.exec = Jvm.exec) (hb : c.code = cc) {own : String} {index : Nat} {ty : FieldType} {cy : ClassId} (hown : s.vm.findClass own = some m.cls) (hclink : (Cond.classLink own index ("[" ++ (FieldType.array ty).toString)).before args s = true) (hover : (Cond.arrayOver (.array ty)).before args s = true) (harr : (Cond.arrayClass ty).before args s = true) (hcy : s.vm.findClass (FieldType.array ty).toString = some cy)
    (hK : va_K D cl tys s) (hP : va_P D cl (X ++ va_pl L f) H) (hD : va_D A (X ++ va_pl L f)) (hS : va_S A H0 H locs) (hA : ∀ q, H0.size ≤ q → A q) {n k : Int32} {N' K' : Nat} {z : vp_A} (hn : ¬ n < 0) (hk : ¬ k < 0) (hN : n.toNatClampNeg = N') (hM : k.toNatClampNeg = K')
    (hb1 : N' * 4 ≤ 536870912) (hb2 : K' * componentBytes ty ≤ 536870912) (hb3 : K' ≤ 536870912) (hdf : fits ty (defaultValue ty) = true) (hdd : (defaultValue ty).isDefault = true) (hcells : cells + (1 + N') ≤ R.cells) (hslots : slots + (N' + N' * K') ≤ R.slots) (hz : ∀ c : ClassId, Jvm.Free.Multi.innerC c K' (defaultValue ty) = vp_cell c z) (hdg : decode cc pc = .ok (.multianewarray index 2, 4))
    (kk : ∀ (q : Nat) (r : Nat → Nat) (cA : ClassId) (H1 : Heap), (∀ i j : Nat, i < N' → j < N' → r i = r j → i = j) → (∀ i : Nat, i < N' → r i ∉ L) → va_K D cl (tys ++ [(cA, .array ty)]) s →
      va_P D cl ((X ++ [(q, .inl (cA, N', .inr (.inr (.inr (.inr (fun i => if i < N' then some (r i) else none))))))]) ++ va_pl (L ++ (List.range N').map r) (vr_up f ((List.range N').map r) (.inl (cy, z)))) H1 → va_D A ((X ++ [(q, .inl (cA, N', .inr (.inr (.inr (.inr (fun i => if i < N' then some (r i) else none))))))]) ++ va_pl (L ++ (List.range N').map r) (vr_up f ((List.range N').map r) (.inl (cy, z)))) → va_S A H0 H1 locs →
      W p l e R s m args below meth c H1 locs (cells + 1 + N') (slots + N' + N' * K') Q (F0 m (pc + 4) ls (.ref q :: rest))) : W p l e R s m args below meth c H locs cells slots Q (F0 m pc ls (.int k :: .int n :: rest)) := by
  subst hN
  subst hM
  intro T hT Xs
  obtain ⟨vm₁, cA, comp, -, fA, fC, hO, -, X', step⟩ := Xs.multianewarray2F hexec hown hclink hover harr (g := F0 m pc ls (.int k :: .int n :: rest)) rfl (by rw [hb]; exact hdg) rfl hn hk hb1 hb2 hb3 hdf hdd hcells hslots
  have ec : some cy = some comp := hcy.symm.trans fC
  cases ec
  generalize hF : Jvm.Free.Multi.fill (T.setVm vm₁) cA cy n.toNatClampNeg k.toNatClampNeg (defaultValue ty) n.toNatClampNeg = F at X' step
  have hTh : (T.setVm vm₁).heap = H := hT
  obtain ⟨f1, f2, -, -⟩ := Jvm.Free.Multi.fill_facts (T.setVm vm₁) cA cy n.toNatClampNeg k.toNatClampNeg (defaultValue ty) n.toNatClampNeg
  rw [hF, hTh] at f1 f2
  have hold : ∀ x : Nat, x < H.size → F.heap[x]? = H[x]? := fun x hx => by
    have := Jvm.Free.Multi.fill_old (T.setVm vm₁) cA cy n.toNatClampNeg k.toNatClampNeg (defaultValue ty) (a := x) (by rw [hTh]; exact hx) n.toNatClampNeg
    rw [hF, hTh] at this
    exact this
  have hrow : ∀ j : Nat, j < n.toNatClampNeg → F.heap[H.size + 1 + j]? = some (vp_cell cy z) := fun j hj => by
    have := Jvm.Free.Multi.fill_inner (T.setVm vm₁) cA cy n.toNatClampNeg k.toNatClampNeg (defaultValue ty) n.toNatClampNeg j hj
    rw [hF, hTh, hz] at this
    exact this
  have hout : Jvm.Free.Multi.outerC cA n.toNatClampNeg H.size n.toNatClampNeg = vp_cell cA (n.toNatClampNeg, .inr (.inr (.inr (.inr (fun i => if i < n.toNatClampNeg then some (H.size + 1 + i) else none))))) := by
    rw [vp_cell_q]
    exact vr_outer cA n.toNatClampNeg H.size n.toNatClampNeg
  rw [hout] at f2
  have hlt : ∀ a, a ∈ L → a < H.size := fun a ha => by
    obtain ⟨k9, hk9⟩ := va_pl_get (X := X) (f := f) ha
    exact (hP k9 _ hk9).lt
  have hnl : ∀ i : Nat, i < n.toNatClampNeg → H.size + 1 + i ∉ L := fun i _ h => by
    have := hlt _ h
    omega
  have hnm : ∀ a, a ∈ (List.range n.toNatClampNeg).map (fun i => H.size + 1 + i) → a ∉ L := fun a ha h => by
    obtain ⟨i, -, rfl⟩ := List.mem_map.mp ha
    have := hlt _ h
    omega
  have hP0 : va_P D cl (X ++ va_pl L f) F.heap := hP.kept (fun k9 x hx => hold x.1 ((hP k9 x hx).lt))
  have hP1 : va_P D cl ((X ++ va_pl L f) ++ [(H.size, .inl (cA, n.toNatClampNeg, .inr (.inr (.inr (.inr (fun i => if i < n.toNatClampNeg then some (H.size + 1 + i) else none))))))]) F.heap := hP0.app (fun k9 x hx => by
    have h0 : k9 < 1 := (List.getElem?_eq_some_iff.mp hx).1
    rw [show k9 = 0 by omega] at hx
    cases hx
    exact f2)
  have hP2 : va_P D cl (((X ++ va_pl L f) ++ [(H.size, .inl (cA, n.toNatClampNeg, .inr (.inr (.inr (.inr (fun i => if i < n.toNatClampNeg then some (H.size + 1 + i) else none))))))]) ++ ((List.range n.toNatClampNeg).map (fun i => H.size + 1 + i)).map (fun a => (a, .inl (cy, z)))) F.heap := hP1.app (fun k9 x hx => by
    obtain ⟨a, ha, rfl⟩ := List.mem_map.mp (List.mem_of_getElem? hx)
    obtain ⟨i, hi, rfl⟩ := List.mem_map.mp ha
    exact hrow i (List.mem_range.mp hi))
  have hD2 : va_D A (((X ++ va_pl L f) ++ [(H.size, .inl (cA, n.toNatClampNeg, .inr (.inr (.inr (.inr (fun i => if i < n.toNatClampNeg then some (H.size + 1 + i) else none))))))]) ++ ((List.range n.toNatClampNeg).map (fun i => H.size + 1 + i)).map (fun a => (a, .inl (cy, z)))) := by
    have hD1 := hD.push (e := .inl (cA, n.toNatClampNeg, .inr (.inr (.inr (.inr (fun i => if i < n.toNatClampNeg then some (H.size + 1 + i) else none)))))) hP rfl (hA _ hS.1)
    generalize hW1 : (X ++ va_pl L f) ++ [(H.size, .inl (cA, n.toNatClampNeg, .inr (.inr (.inr (.inr (fun i => if i < n.toNatClampNeg then some (H.size + 1 + i) else none))))))] = W1 at hD1 hP1 ⊢
    have hle : ∀ (k9 : Nat) (x : Nat × va_E), W1[k9]? = some x → x.1 ≤ H.size := fun k9 x hx => by
      rw [← hW1] at hx
      by_cases hl : k9 < (X ++ va_pl L f).length
      · rw [List.getElem?_append_left hl] at hx
        exact Nat.le_of_lt ((hP k9 x hx).lt)
      · rw [List.getElem?_append_right (by omega)] at hx
        have h0 : k9 - (X ++ va_pl L f).length < 1 := (List.getElem?_eq_some_iff.mp hx).1
        rw [show k9 - (X ++ va_pl L f).length = 0 by omega] at hx
        cases hx
        exact Nat.le_refl _
    have hr : ∀ (k9 : Nat) (x : Nat × va_E), (((List.range n.toNatClampNeg).map (fun i => H.size + 1 + i)).map (fun a => ((a, .inl (cy, z)) : Nat × va_E)))[k9]? = some x → x.1 = H.size + 1 + k9 := fun k9 x hx => by
      rw [List.getElem?_map, List.getElem?_map] at hx
      by_cases h9 : k9 < n.toNatClampNeg
      · rw [List.getElem?_range h9] at hx
        cases hx
        rfl
      · have hn0 : (List.range n.toNatClampNeg)[k9]? = none := List.getElem?_eq_none (by rw [List.length_range]; omega)
        rw [hn0] at hx
        cases hx
    refine ⟨fun i j x y hi hj hxy => ?_, fun k9 x hx => ?_⟩
    · by_cases h1 : i < W1.length <;> by_cases h2 : j < W1.length
      · rw [List.getElem?_append_left h1] at hi
        rw [List.getElem?_append_left h2] at hj
        exact hD1.1 i j x y hi hj hxy
      · rw [List.getElem?_append_left h1] at hi
        rw [List.getElem?_append_right (by omega)] at hj
        have := hle _ _ hi
        have := hr _ _ hj
        omega
      · rw [List.getElem?_append_right (by omega)] at hi
        rw [List.getElem?_append_left h2] at hj
        have := hle _ _ hj
        have := hr _ _ hi
        omega
      · rw [List.getElem?_append_right (by omega)] at hi hj
        have := hr _ _ hi
        have := hr _ _ hj
        omega
    · by_cases h1 : k9 < W1.length
      · rw [List.getElem?_append_left h1] at hx
        exact hD1.2 k9 x hx
      · rw [List.getElem?_append_right (by omega)] at hx
        have := hr _ _ hx
        exact hA _ (by have := hS.1; omega)
  have hAr : ArrOfT s cA (.array ty) := fun N9 z9 => by
    obtain ⟨-, k9, hk9, cm9, hkk9⟩ := (hO 0 0 0).1
    exact ⟨(fun q hq => by cases hq), k9, hk9, cm9, hkk9⟩
  have hK2 : va_K D cl (tys ++ [(cA, .array ty)]) s := ⟨hK.1, fun k9 x hx => by
    by_cases hl : k9 < tys.length
    · rw [List.getElem?_append_left hl] at hx
      exact hK.2 k9 x hx
    · rw [List.getElem?_append_right (by omega)] at hx
      have h0 : k9 - tys.length < 1 := (List.getElem?_eq_some_iff.mp hx).1
      rw [show k9 - tys.length = 0 by omega] at hx
      cases hx
      exact ⟨hAr, fA⟩⟩
  obtain ⟨t, a1, b1⟩ := kk H.size (fun i => H.size + 1 + i) cA F.heap (fun i j _ _ h => by have h9 : H.size + 1 + i = H.size + 1 + j := h; omega) hnl hK2 (by rw [← vr_rows hnm]; exact vr_lay hP2) (by rw [← vr_rows hnm]; exact vr_layD hD2) ⟨by rw [f1]; have := hS.1; omega, fun x h1 h2 => (hold x (Nat.lt_of_lt_of_le h1 hS.1)).trans (hS.2.1 x h1 h2), hS.2.2⟩ F rfl X'
  refine ⟨t, step t ?_, b1⟩
  have e : T.heap.size = H.size := by rw [hT]
  rw [e]
  exact a1
end VGM
/-! ===== END ===== -/

/-! ===== BEGIN exceptions that leave a method, and their catching by the caller (launches without stack traces) ===== -/
section VXA
/-! The laws vx_back, vx_callV, vx_callS, vx_callSW, vx_throw0, vx_throwS follow proofs of the library, with one case more: JvmDerived/Free/Laws.lean (Back.of_free), Shelf42/LK1.lean (callV, callS), Shelf/KitTraced.lean (throwNew0V, throwNewS). -/
/-- where a method has thrown q: the class by its name, the cell, what was written, the world -/
def vx_T (XC : String → State → State → Prop) (st : State) (q : Addr) (t : State) (mc ms : Nat) (free : Addr → Prop) : Prop :=
  ∃ (E : String) (ce : Cell) (L : List Loc), XC E st t ∧ t.heap[q]? = some ce ∧ ce.vm = .none ∧ st.vm.findClass E = some ce.cls ∧ st.WarmedH t.vm ∧ st.sameButNew ({ t with vm := st.vm } : State) L mc ms ∧ ∀ z ∈ L, free z.base
def vx_Q (Qc : Array Value → State → Outcome → State → Prop) (XC : String → State → State → Prop) (mc ms : Nat) (free : Addr → Prop) : Array Value → State → Outcome → State → Prop := fun a st o t =>
  (Qc a st o t ∧ ∃ L, FrameEnd st o t L mc ms ∧ ∀ q ∈ L, free q.base) ∨ ∃ q, o = .threw q ∧ vx_T XC st q t mc ms free
/-- a callee that returns or throws -/
def vx_Met (l : Launch) (y : MethodName) (ws : List Cond) (rm : Room) (Pc : Array Value → State → Prop) (Qc : Array Value → State → Outcome → State → Prop) (XC : String → State → State → Prop) (mc ms : Nat) (free : Addr → Prop) : Prop :=
  MetFree l y (headSpec ws rm) Pc (fun _ _ _ _ _ => True) (vx_Q Qc XC mc ms free)
def vx_Post (XC : String → State → State → Prop) (mc ms : Nat) (free : Addr → Prop) : Pt → Array Value → Addr → Pt → Prop := fun A a q B =>
  ∃ (g : JFrame) (mk : MethodId) (t : State) (L : List Loc) (E : String) (ce : Cell), B.U.heap = t.heap ∧ B.U.vm = t.vm ∧ XC E (A.U.calling g mk a) t ∧ t.heap[q]? = some ce ∧ ce.vm = .none ∧ A.U.vm.findClass E = some ce.cls ∧ B.locs = A.locs ++ L ∧ (∀ z ∈ L, free z.base) ∧ B.cells = A.cells + mc ∧ B.slots = A.slots + ms
def vx_Back (l : Launch) (R : Room) (p : Program) (e : Env) (below : List Frame) (s : State) (sargs : Array Value) (y : MethodName) (len W9 : Nat)
    (Pre : Pt → Array Value → Prop) (Post : Pt → Array Value → Option Value → Pt → Prop) (PostX : Pt → Array Value → Addr → Pt → Prop) : Prop :=
  ∀ (m : MethodId) (meth : Method) (c : Code) (A : Pt) (g : JFrame) (ig : Instr) (mk : MethodId) (a : Array Value),
    Stand p l e R s m sargs below meth c A.U A.locs A.cells A.slots → g.method = m → g.locals.size = c.maxLocals → decode c.code g.pc = .ok (ig, len) →
    2 * g.monitorRoom + (g.stack.map fun v => v.category).sum ≤ W9 → A.U.methodNamed? y = some mk → Pre A a →
    (∃ (v : Option Value) (B : Pt), Stand p l e R s m sargs below meth c B.U B.locs B.cells B.slots ∧ Post A a v B ∧
      Steps p.tables e below (doInvoke e (A.U.setTop g) [] mk a).1 (B.U.setTop { g with pc := g.pc + len, stack := v.toList ++ g.stack })) ∨
    (∃ (q : Addr) (B : Pt), Stand p l e R s m sargs below meth c B.U B.locs B.cells B.slots ∧ PostX A a q B ∧
      Steps p.tables e below (doInvoke e (A.U.setTop g) [] mk a).1 ((B.U.setTop g).pushFrame (.throwing q)))
section Payer
variable {l : Launch} {R : Room} {p : Program} {e : Env} {below : List Frame} {s : State} {sargs : Array Value} {y : MethodName} {len W9 : Nat}
theorem vx_back {ws : List Cond} {rm : Room} {Pc : Array Value → State → Prop} {Qc : Array Value → State → Outcome → State → Prop} {XC : String → State → State → Prop} {mc ms : Nat} {free : Addr → Prop} {bytes : ByteArray} {maxL : Nat} {ret : Option FieldType}
    (hM : vx_Met l y ws rm Pc Qc XC mc ms free) (hblind : FrameBlind Pc) (hrc : rm.cells = mc) (hrs : rm.slots = ms)
    (hframes : rm.frames + 1 ≤ R.frames) (hlocals : W9 + (maxL + 11) + rm.locals ≤ R.locals)
    (hws : ∀ w ∈ ws, ∀ a' U, s.WarmedH U.vm → w.before a' U = true) (hcode : Cond.code y bytes maxL ret ∈ ws) (hinit : ∀ a' U, s.WarmedH U.vm → (Cond.initialized y.cls).before a' U = true) :
    vx_Back l R p e below s sargs y len W9 (PreOf R mc ms Pc) (PostOf Qc mc ms free) (vx_Post XC mc ms free) := by
  intro m meth c A g ig mk a X hg hsize hdg hW hn hp
  have h1 : (headSpec ws rm).pre.before a A.U = true := atoms_intro fun w hw => hws w hw _ _ X.warmed
  have h2 : (Cond.code y bytes maxL ret).before a A.U = true := hws _ hcode _ _ X.warmed
  have h3 : (Cond.initialized y.cls).before a A.U = true := hinit _ _ X.warmed
  have h4 : A.cells + (headSpec ws rm).room.cells ≤ R.cells := by rw [show (headSpec ws rm).room.cells = mc from hrc]; exact hp.1
  have h5 : A.slots + (headSpec ws rm).room.slots ≤ R.slots := by rw [show (headSpec ws rm).room.slots = ms from hrs]; exact hp.2.1
  have hPc : Pc a (A.U.calling g mk a) := hblind _ _ _ _ hp.2.2
  obtain ⟨U, Ls, c0, s0⟩ := A
  dsimp only [Pt.U, Pt.locs, Pt.cells, Pt.slots] at h1 h2 h3 h4 h5 X hn hPc ⊢
  obtain ⟨methY, cY, hmY, hcY, -, hlY, -, -, -, -⟩ := Cond.code_spec hn h2
  obtain ⟨kY, hkY, -⟩ := className_of_methodNamed hn
  have hinitY : kY.init = .initialized := Cond.initialized_spec (findClass_of_methodNamed hn) hkY h3
  have h : At U g.method c below := by rw [hg]; exact X.here
  have hlocals9 : W9 + (maxL + 11) + (headSpec ws rm).room.locals ≤ R.locals := hlocals
  have happ : (headSpec ws rm).appliesLoose y e.platform (U.calling g mk a) = true :=
    Spec.appliesLoose_calling (g := g) h hdg hn hkY hinitY
      (X.room_calling (g := g) (R' := (headSpec ws rm).room) hsize hmY hcY hframes (by rw [hlY]; omega) h4 h5) h1
  obtain ⟨mid, hmid⟩ := h.above
  have hfr : (U.setTop g).frames = (.java g :: mid) ++ below := by rw [State.frames_setTop' g h.top, hmid]; rfl
  obtain ⟨o, s₂, hsteps, -, hend, hq⟩ := Steps.callFree hM p X.admits X.cas X.clock (acts := []) hfr happ hPc trivial
  have hq' : vx_Q Qc XC mc ms free a (U.calling g mk a) o s₂ := hq
  rw [State.frames_setTop' g h.top] at hend
  obtain ⟨g₀, hg0⟩ := Option.isSome_iff_exists.mp h.top
  obtain ⟨r, hr⟩ := State.topJava?_eq_some.mp hg0
  have hr' : (({ U with heap := s₂.heap, slotsUsed := s₂.slotsUsed } : State).setVm s₂.vm).frames = .java g₀ :: r := hr
  rcases hq' with ⟨hqc, L, hfe, hL⟩ | ⟨q, rfl, E, ce, L, hx, hce, hcv, hcl, hW₂, hsm, hL⟩
  · obtain ⟨⟨v, rfl⟩, hW₂, e2, q2, q3, q4, q5, q6⟩ := id hfe
    have e3 : s₂ = ({ (U.calling g mk a).setFrames s₂.frames with heap := s₂.heap, slotsUsed := s₂.slotsUsed } : State).setVm s₂.vm := by
      have : s₂ = ({ s₂ with vm := (U.calling g mk a).vm } : State).setVm s₂.vm := rfl
      rw [e2] at this
      exact this
    obtain ⟨c₂, i₂, len₂, hc₂, hd₂, hf₂⟩ := hend
    have hW' : U.WarmedH s₂.vm := hW₂
    have hcc : c₂ = c := by
      have h1 : s₂.code? g.method = U.code? g.method := by
        rw [State.code?_eq, State.code?_eq, hW'.alike.method?]
      exact Option.some.inj (hc₂.symm.trans (h1.trans h.code))
    subst hcc
    have hlen : len₂ = len := by rw [hdg] at hd₂; cases hd₂; rfl
    subst hlen
    have hs₂ : s₂ = (({ U with heap := s₂.heap, slotsUsed := s₂.slotsUsed } : State).setVm s₂.vm).setTop { g with pc := g.pc + len₂, stack := v.toList ++ g.stack } := by
      refine e3.trans ?_
      rw [hf₂, State.calling_eq h.top, State.setFrames_setFrames, State.setTop_of_frames _ hr', hr]
      rfl
    have hsame : U.sameButNew ({ U with heap := s₂.heap, slotsUsed := s₂.slotsUsed } : State) L mc ms := by
      refine ⟨?_, q2, q3, q4, q5, q6⟩
      obtain ⟨t, ht, -⟩ := State.frames_cons hr
      show ({ U with heap := s₂.heap, slotsUsed := s₂.slotsUsed } : State) = { U.setFrames U.frames with heap := s₂.heap, slotsUsed := s₂.slotsUsed }
      rw [State.setFrames_self ht]
    subst hg
    refine Or.inl ⟨v, ⟨(({ U with heap := s₂.heap, slotsUsed := s₂.slotsUsed } : State).setVm s₂.vm), Ls ++ L, c0 + mc, s0 + ms⟩,
      ⟨X.admits, X.cas, X.clock, X.frames, X.room, X.hears, X.method, X.code, (X.here.setHeapUsed s₂.heap s₂.slotsUsed).setVm hW'.alike, X.tail, State.WarmedH.trans X.warmed hW', X.limits, X.bytes, X.same.trans (hsame.setVm s.vm)⟩,
      ⟨g, mk, s₂, L, rfl, rfl, hqc, rfl, hL, rfl, rfl⟩, ?_⟩
    show Steps p.tables e below _ ((({ U with heap := s₂.heap, slotsUsed := s₂.slotsUsed } : State).setVm s₂.vm).setTop { g with pc := g.pc + len₂, stack := v.toList ++ g.stack })
    rw [← hs₂]
    exact hsteps
  · obtain ⟨e2, q2, q3, q4, q5, q6⟩ := id hsm
    have e3 : s₂ = ({ (U.calling g mk a).setFrames s₂.frames with heap := s₂.heap, slotsUsed := s₂.slotsUsed } : State).setVm s₂.vm := by
      have : s₂ = ({ s₂ with vm := (U.calling g mk a).vm } : State).setVm s₂.vm := rfl
      rw [e2] at this
      exact this
    have hf₂ : s₂.frames = .throwing q :: .java g :: U.frames.tail := hend
    have hW' : U.WarmedH s₂.vm := hW₂
    have hs₂ : s₂ = ((({ U with heap := s₂.heap, slotsUsed := s₂.slotsUsed } : State).setVm s₂.vm).setTop g).pushFrame (.throwing q) := by
      refine e3.trans ?_
      rw [hf₂, State.calling_eq h.top, State.setFrames_setFrames, State.pushFrame, State.frames_setTop _ hr', State.setTop_of_frames _ hr', State.setFrames_setFrames, hr]
      rfl
    have hsame : U.sameButNew ({ U with heap := s₂.heap, slotsUsed := s₂.slotsUsed } : State) L mc ms := by
      refine ⟨?_, q2, q3, q4, q5, q6⟩
      obtain ⟨t, ht, -⟩ := State.frames_cons hr
      show ({ U with heap := s₂.heap, slotsUsed := s₂.slotsUsed } : State) = { U.setFrames U.frames with heap := s₂.heap, slotsUsed := s₂.slotsUsed }
      rw [State.setFrames_self ht]
    subst hg
    refine Or.inr ⟨q, ⟨(({ U with heap := s₂.heap, slotsUsed := s₂.slotsUsed } : State).setVm s₂.vm), Ls ++ L, c0 + mc, s0 + ms⟩,
      ⟨X.admits, X.cas, X.clock, X.frames, X.room, X.hears, X.method, X.code, (X.here.setHeapUsed s₂.heap s₂.slotsUsed).setVm hW'.alike, X.tail, State.WarmedH.trans X.warmed hW', X.limits, X.bytes, X.same.trans (hsame.setVm s.vm)⟩,
      ⟨g, mk, s₂, L, E, ce, rfl, rfl, hx, hce, hcv, hcl, rfl, hL, rfl, rfl⟩, ?_⟩
    show Steps p.tables e below _ (((({ U with heap := s₂.heap, slotsUsed := s₂.slotsUsed } : State).setVm s₂.vm).setTop g).pushFrame (.throwing q))
    rw [← hs₂]
    exact hsteps
end Payer
section Calls
variable {p : Program} {l : Launch} {e : Env} {R : Room} {s : State} {m : MethodId} {args : Array Value} {below : List Frame} {meth : Method} {c : Code} {T : State} {locs : List Loc} {cells slots : Nat}
theorem vx_callV (X : Stand p l e R s m args below meth c T locs cells slots) (hexec : p.tables.exec = Jvm.exec) {own C : String} {index : Nat} {y : MethodName} {bytes : ByteArray} {maxL : Nat} {ret : Option FieldType}
    (hown : s.vm.findClass own = some m.cls) (hlink : (Cond.methodLink own index y).before args s = true) (hinst : (Cond.instanceMethod y).before args s = true) (hsel : (Cond.selects C y y).before args s = true)
    (hcode : (Cond.code y bytes maxL ret).before args s = true) (hy : y.cls ≠ "java/lang/invoke/MethodHandle" ∧ y.cls ≠ "java/lang/invoke/VarHandle")
    {W9 : Nat} {Pre : Pt → Array Value → Prop} {Post : Pt → Array Value → Option Value → Pt → Prop} {PostX : Pt → Array Value → Addr → Pt → Prop} (hK : vx_Back l R p e below s args y 3 W9 Pre Post PostX)
    {b : Addr} {cellB : Cell} (hcell : T.heap[b]? = some cellB) (hobj : cellB.vm.isStatics = false) (hcls : s.vm.findClass C = some cellB.cls)
    {g : JFrame} (hg : g.method = m) (hsize : g.locals.size = c.maxLocals) {argsL rest : List Value} (hlen : ∀ sig, parseMethodDescriptor y.desc = some sig → argsL.length = sig.parameters.length)
    (hstack : g.stack = argsL.reverse ++ .ref b :: rest) (hW : 2 * g.monitorRoom + (rest.map fun v => v.category).sum ≤ W9) (hdg : decode c.code g.pc = .ok (.invokevirtual index, 3))
    (hpre : ∀ vm₁, s.WarmedH vm₁ → Pre ⟨T.setVm vm₁, locs, cells, slots⟩ (Value.ref b :: argsL).toArray) :
    (∃ (v : Option Value) (vm₁ : Vm) (B : Pt), s.WarmedH vm₁ ∧ Stand p l e R s m args below meth c B.U B.locs B.cells B.slots ∧ Post ⟨T.setVm vm₁, locs, cells, slots⟩ (Value.ref b :: argsL).toArray v B ∧
      ∀ target, Steps p.tables e below (B.U.setTop { g with pc := g.pc + 3, stack := v.toList ++ rest }) target → Steps p.tables e below (T.setTop g) target) ∨
    (∃ (q : Addr) (vm₁ : Vm) (B : Pt), s.WarmedH vm₁ ∧ Stand p l e R s m args below meth c B.U B.locs B.cells B.slots ∧ PostX ⟨T.setVm vm₁, locs, cells, slots⟩ (Value.ref b :: argsL).toArray q B ∧
      Steps p.tables e below (T.setTop g) ((B.U.setTop { g with stack := rest }).pushFrame (.throwing q))) := by
  obtain ⟨mk, methM, hnamed, hmethM, hstM, habM⟩ := Cond.instanceMethod_spec hinst
  obtain ⟨methM', cM, hmethM', -, -, -, -, -, -, hsigM⟩ := Cond.code_spec hnamed hcode
  cases hmethM.symm.trans hmethM'
  obtain ⟨c2, r2, m2, q1, q2, q3, q4, kP, hkP, hkPi⟩ := Cond.selects_spec hsel
  cases hcls.symm.trans q1
  cases (State.methodFound?_of_named hnamed hy).symm.trans q2
  cases hnamed.symm.trans q3
  have hselP : selectMethod e.platform s.vm cellB.cls mk = .method mk := by rw [Launch.admits_selectMethod X.admits]; exact q4
  obtain ⟨vm₁, X₁, hstep₁⟩ := X.invokevirtual hexec hown hlink hnamed hmethM hstM hkP hkPi hy (a := b) (cell := cellB) hcell
    (fun z h => by rw [h] at hobj; cases hobj) hselP hmethM habM hkP hkPi (g := g) hg (argsL := argsL) (rest := rest) (hlen _ hsigM) hstack hdg
  rcases hK m meth c ⟨T.setVm vm₁, locs, cells, slots⟩ { g with stack := rest } (.invokevirtual index) mk (Value.ref b :: argsL).toArray X₁ hg hsize hdg hW (X₁.named hnamed) (hpre vm₁ X₁.warmed) with ⟨v, B, X', hpost, hsteps⟩ | ⟨q, B, X', hpost, hsteps⟩
  · exact Or.inl ⟨v, vm₁, B, X₁.warmed, X', hpost, fun target h => hstep₁ _ fun acts => by rw [doInvoke_state]; exact hsteps.trans h⟩
  · exact Or.inr ⟨q, vm₁, B, X₁.warmed, X', hpost, hstep₁ _ fun acts => by rw [doInvoke_state]; exact hsteps⟩
theorem vx_callS (X : Stand p l e R s m args below meth c T locs cells slots) (hexec : p.tables.exec = Jvm.exec) {own : String} {index : Nat} {y : MethodName} {bytes : ByteArray} {maxL : Nat} {ret : Option FieldType}
    (hown : s.vm.findClass own = some m.cls) (hlink : (Cond.methodLink own index y).before args s = true) (hstat : (Cond.static y).before args s = true) (hinit : (Cond.initialized y.cls).before args s = true)
    (hcode : (Cond.code y bytes maxL ret).before args s = true) (hy : y.cls ≠ "java/lang/invoke/MethodHandle" ∧ y.cls ≠ "java/lang/invoke/VarHandle")
    {W9 : Nat} {Pre : Pt → Array Value → Prop} {Post : Pt → Array Value → Option Value → Pt → Prop} {PostX : Pt → Array Value → Addr → Pt → Prop} (hK : vx_Back l R p e below s args y 3 W9 Pre Post PostX)
    {g : JFrame} (hg : g.method = m) (hsize : g.locals.size = c.maxLocals) {argsL rest : List Value} (hlen : ∀ sig, parseMethodDescriptor y.desc = some sig → argsL.length = sig.parameters.length)
    (hstack : g.stack = argsL.reverse ++ rest) (hW : 2 * g.monitorRoom + (rest.map fun v => v.category).sum ≤ W9) (hdg : decode c.code g.pc = .ok (.invokestatic index, 3))
    (hpre : ∀ vm₁, s.WarmedH vm₁ → Pre ⟨T.setVm vm₁, locs, cells, slots⟩ argsL.toArray) :
    (∃ (v : Option Value) (vm₁ : Vm) (B : Pt), s.WarmedH vm₁ ∧ Stand p l e R s m args below meth c B.U B.locs B.cells B.slots ∧ Post ⟨T.setVm vm₁, locs, cells, slots⟩ argsL.toArray v B ∧
      ∀ target, Steps p.tables e below (B.U.setTop { g with pc := g.pc + 3, stack := v.toList ++ rest }) target → Steps p.tables e below (T.setTop g) target) ∨
    (∃ (q : Addr) (vm₁ : Vm) (B : Pt), s.WarmedH vm₁ ∧ Stand p l e R s m args below meth c B.U B.locs B.cells B.slots ∧ PostX ⟨T.setVm vm₁, locs, cells, slots⟩ argsL.toArray q B ∧
      Steps p.tables e below (T.setTop g) ((B.U.setTop { g with stack := rest }).pushFrame (.throwing q))) := by
  obtain ⟨mk, hnamed⟩ := Cond.code_named hcode
  obtain ⟨methM, cM, hmethM, -, -, -, -, -, -, hsigM⟩ := Cond.code_spec hnamed hcode
  have hstatic : methM.isStatic = true := Cond.static_spec hnamed hmethM hstat
  obtain ⟨kP, hkP, -⟩ := className_of_methodNamed hnamed
  have hinitP : kP.init = .initialized := Cond.initialized_spec (findClass_of_methodNamed hnamed) hkP hinit
  obtain ⟨vm₁, X₁, hstep₁⟩ := X.invokestatic hexec hown hlink hnamed hmethM hstatic hkP hinitP hy (g := g) hg (argsL := argsL) (rest := rest) (hlen _ hsigM) hstack hdg
  rcases hK m meth c ⟨T.setVm vm₁, locs, cells, slots⟩ { g with stack := rest } (.invokestatic index) mk argsL.toArray X₁ hg hsize hdg hW (X₁.named hnamed) (hpre vm₁ X₁.warmed) with ⟨v, B, X', hpost, hsteps⟩ | ⟨q, B, X', hpost, hsteps⟩
  · exact Or.inl ⟨v, vm₁, B, X₁.warmed, X', hpost, fun target h => hstep₁ _ fun acts => by rw [doInvoke_state]; exact hsteps.trans h⟩
  · exact Or.inr ⟨q, vm₁, B, X₁.warmed, X', hpost, hstep₁ _ fun acts => by rw [doInvoke_state]; exact hsteps⟩
end Calls
theorem vx_cls {s : State} {T : State} {vm₁ : Vm} {E : String} {k : ClassId} (hW : s.WarmedH vm₁) (h : (T.setVm vm₁).vm.findClass E = some k) : s.vm.findClass E = some k := by
  have h1 : vm₁.findClass E = some k := h
  rw [hW.alike.findClass] at h1
  exact h1
/-- the method's frame g, with q thrown over it -/
def vx_W (p : Program) (l : Launch) (e : Env) (R : Room) (s : State) (m : MethodId) (args : Array Value) (below : List Frame) (meth : Method) (c : Code) (H : Heap) (locs : List Loc) (cells slots : Nat) (Q : State → Prop) (g : JFrame) (q : Addr) : Prop :=
  ∀ T : State, T.heap = H → Stand p l e R s m args below meth c T locs cells slots → ∃ t, Steps p.tables e below ((T.setTop g).pushFrame (.throwing q)) t ∧ Q t
def vx_Run (p : Program) (l : Launch) (e : Env) (R : Room) (s : State) (m : MethodId) (args : Array Value) (below : List Frame) (meth : Method) (c : Code) (H : Heap) (locs : List Loc) (cells slots mc ms : Nat) (g : JFrame) (rest : List Value) (Qa : State → Outcome → State → Prop) (XC : String → State → State → Prop) (free : Addr → Prop) : Prop :=
  ∀ T : State, T.heap = H → Stand p l e R s m args below meth c T locs cells slots →
    (∃ (v : Option Value) (st₀ t T' : State) (L : List Loc), st₀.heap = H ∧ Stand p l e R s m args below meth c T' (locs ++ L) (cells + mc) (slots + ms) ∧ (∀ q ∈ L, free q.base) ∧ T'.heap = t.heap ∧ T'.vm = t.vm ∧ Qa st₀ (.returned v) t ∧
      Goes p e below T g T' { g with pc := g.pc + 3, stack := v.toList ++ rest }) ∨
    (∃ (q : Addr) (st₀ t T' : State) (L : List Loc) (E : String) (ce : Cell), st₀.heap = H ∧ Stand p l e R s m args below meth c T' (locs ++ L) (cells + mc) (slots + ms) ∧ (∀ z ∈ L, free z.base) ∧ T'.heap = t.heap ∧ T'.vm = t.vm ∧ XC E st₀ t ∧ t.heap[q]? = some ce ∧ ce.vm = .none ∧ s.vm.findClass E = some ce.cls ∧
      Steps p.tables e below (T.setTop g) ((T'.setTop { g with stack := rest }).pushFrame (.throwing q)))
def vx_X {S : Type} (px : S → Prop) (B : String → S → State → Prop) (A : Nat → Prop) : String → State → State → Prop := fun E st t => ∃ u : S, px u ∧ B E u t ∧ va_F A st t
section Runs
variable {p : Program} {l : Launch} {e : Env} {R : Room} {s : State} {m : MethodId} {args : Array Value} {below : List Frame} {meth : Method} {c : Code} {H : Heap} {locs : List Loc} {cells slots : Nat}
variable {y : MethodName} {bytes cc : ByteArray} {maxL nL mc ms n index : Nat} {ret : Option FieldType} {ws : List Cond} {rm : Room} {Pc : Array Value → State → Prop} {Qc : Array Value → State → Outcome → State → Prop} {XC : String → State → State → Prop} {free : Addr → Prop} {Ts : List Cond} {own C : String} {b : Addr} {As rest : List Value} {g : JFrame}
theorem vx_callBack (cb : CallB R s args own index y bytes maxL ret ws rm mc ms n) (hM : vx_Met l y ws rm Pc Qc XC mc ms free) (hbl : FrameBlind Pc) : vx_Back l R p e below s args y 3 8 (PreOf R mc ms Pc) (PostOf Qc mc ms free) (vx_Post XC mc ms free) := by
  obtain ⟨hrc, hrs, hfr, hlo, hws, hcw, -, hini, -⟩ := cb
  exact vx_back (bytes := bytes) (maxL := maxL) (ret := ret) hM hbl hrc hrs hfr hlo hws hcw (fun a' U hW => word_at hW (Or.inl (by first | rfl | simp [Cond.onTables, Cond.keeps, Cond.steady])) hini)
theorem vx_runV (S : CallFix p m c cc nL s args Ts own) (hM : vx_Met l y ws rm Pc Qc XC mc ms free) (cw : CallW R s args own C index y bytes maxL ret ws rm mc ms n) (hp : PreV s H C b Pc As)
    (hg : g.method = m) (hn : As.length = n) (hsize : g.locals.size = nL) (hstack : g.stack = As.reverse ++ .ref b :: rest) (hW : 2 * g.monitorRoom + (rest.map fun v => v.category).sum ≤ 8) (hdg : decode cc g.pc = .ok (.invokevirtual index, 3)) (hf : cells + mc ≤ R.cells ∧ slots + ms ≤ R.slots) :
    vx_Run p l e R s m args below meth c H locs cells slots mc ms g rest (Qc (Value.ref b :: As).toArray) XC free := by
  have hK : vx_Back l R p e below s args y 3 8 (PreOf R mc ms Pc) (PostOf Qc mc ms free) (vx_Post XC mc ms free) := vx_callBack cw.1 hM hp.1
  obtain ⟨⟨-, -, -, -, -, -, hcode, -, hy, hlen, hl⟩, hin, hse⟩ := cw
  obtain ⟨hx, hb, hml, ho, -⟩ := S
  obtain ⟨-, ⟨cellB, hcB, hoB, hclB⟩, hPc⟩ := hp
  intro T hT X
  rcases vx_callV X hx (C := C) (bytes := bytes) (maxL := maxL) (ret := ret) ho hl hin hse hcode hy hK (by rw [hT]; exact hcB) hoB hclB hg (hsize.trans hml.symm) (argsL := As) (rest := rest) (fun sig h => hn.trans (hlen sig h)) hstack hW (by rw [hb]; exact hdg)
    (fun vm₁ hW₁ => ⟨hf.1, hf.2, hPc (T.setVm vm₁) hT hW₁⟩) with ⟨v, vm₁, ⟨U', l2, c2, s2⟩, hW₁, X', ⟨g', mk, t, L, e1, e2, hq, h1, hL, h2, h3⟩, st⟩ | ⟨q, vm₁, ⟨U', l2, c2, s2⟩, hW₁, X', ⟨g', mk, t, L, E, ce, e1, e2, hq, hce, hcv, hcl, h1, hL, h2, h3⟩, st⟩
  · dsimp only [Pt.U, Pt.locs, Pt.cells, Pt.slots] at X' e1 e2 h1 h2 h3 st
    subst h1; subst h2; subst h3
    exact Or.inl ⟨v, (T.setVm vm₁).calling g' mk (Value.ref b :: As).toArray, t, U', L, hT, X', hL, e1, e2, hq, st⟩
  · dsimp only [Pt.U, Pt.locs, Pt.cells, Pt.slots] at X' e1 e2 h1 h2 h3 st hcl
    subst h1; subst h2; subst h3
    exact Or.inr ⟨q, (T.setVm vm₁).calling g' mk (Value.ref b :: As).toArray, t, U', L, E, ce, hT, X', hL, e1, e2, hq, hce, hcv, vx_cls hW₁ hcl, st⟩
theorem vx_runS (S : CallFix p m c cc nL s args Ts own) (hM : vx_Met l y ws rm Pc Qc XC mc ms free) (cw : CallB R s args own index y bytes maxL ret ws rm mc ms n ∧ (Cond.static y).before args s = true) (hp : PreS s H Pc As)
    (hg : g.method = m) (hn : As.length = n) (hsize : g.locals.size = nL) (hstack : g.stack = As.reverse ++ rest) (hW : 2 * g.monitorRoom + (rest.map fun v => v.category).sum ≤ 8) (hdg : decode cc g.pc = .ok (.invokestatic index, 3)) (hf : cells + mc ≤ R.cells ∧ slots + ms ≤ R.slots) :
    vx_Run p l e R s m args below meth c H locs cells slots mc ms g rest (Qc As.toArray) XC free := by
  have hK : vx_Back l R p e below s args y 3 8 (PreOf R mc ms Pc) (PostOf Qc mc ms free) (vx_Post XC mc ms free) := vx_callBack cw.1 hM hp.1
  obtain ⟨⟨-, -, -, -, -, -, hcode, hini, hy, hlen, hl⟩, hstt⟩ := cw
  obtain ⟨hx, hb, hml, ho, -⟩ := S
  intro T hT X
  rcases vx_callS X hx (bytes := bytes) (maxL := maxL) (ret := ret) ho hl hstt hini hcode hy hK hg (hsize.trans hml.symm) (argsL := As) (rest := rest) (fun sig h => hn.trans (hlen sig h)) hstack hW (by rw [hb]; exact hdg)
    (fun vm₁ hW₁ => ⟨hf.1, hf.2, hp.2 (T.setVm vm₁) hT hW₁⟩) with ⟨v, vm₁, ⟨U', l2, c2, s2⟩, hW₁, X', ⟨g', mk, t, L, e1, e2, hq, h1, hL, h2, h3⟩, st⟩ | ⟨q, vm₁, ⟨U', l2, c2, s2⟩, hW₁, X', ⟨g', mk, t, L, E, ce, e1, e2, hq, hce, hcv, hcl, h1, hL, h2, h3⟩, st⟩
  · dsimp only [Pt.U, Pt.locs, Pt.cells, Pt.slots] at X' e1 e2 h1 h2 h3 st
    subst h1; subst h2; subst h3
    exact Or.inl ⟨v, (T.setVm vm₁).calling g' mk As.toArray, t, U', L, hT, X', hL, e1, e2, hq, st⟩
  · dsimp only [Pt.U, Pt.locs, Pt.cells, Pt.slots] at X' e1 e2 h1 h2 h3 st hcl
    subst h1; subst h2; subst h3
    exact Or.inr ⟨q, (T.setVm vm₁).calling g' mk As.toArray, t, U', L, E, ce, hT, X', hL, e1, e2, hq, hce, hcv, vx_cls hW₁ hcl, st⟩
end Runs
section Rows
variable {p : Program} {l : Launch} {e : Env} {R : Room} {s : State} {m : MethodId} {args : Array Value} {below : List Frame} {meth : Method} {c : Code} {H : Heap} {locs : List Loc} {cells slots : Nat} {Q : State → Prop}
variable {mc ms : Nat} {free : Addr → Prop} {A0 A1 : Nat → Prop} {H0 : Heap} {a : Array Value} {pc : Nat} {ls : Array Slot} {st0 rest : List Value}
theorem vx_keep {st₀ t T' : State} {L : List Loc} (h0 : st₀.heap = H) (e1 : T'.heap = t.heap) (hS : va_S A0 H0 H locs) (hA : ∀ q, q < H.size → A1 q → A0 q) (hf : ∀ q, free q → A0 q) (hL : ∀ q ∈ L, free q.base) (hF : va_F A1 st₀ t) :
    H.size ≤ T'.heap.size ∧ (∀ q : Nat, q < H.size → ¬ A1 q → T'.heap[q]? = H[q]?) ∧ va_S A0 H0 T'.heap (locs ++ L) := by
  obtain ⟨hz, hk⟩ := hF
  rw [h0] at hz hk
  exact ⟨by rw [e1]; exact hz, fun q h1 h2 => by rw [e1]; exact hk q h1 h2,
    ⟨Nat.le_trans hS.1 (by rw [e1]; exact hz), fun q h1 h2 => by rw [e1, hk q (Nat.lt_of_lt_of_le h1 hS.1) (fun z => h2 (hA q (Nat.lt_of_lt_of_le h1 hS.1) z))]; exact hS.2.1 q h1 h2, fun q hq => by
      rcases List.mem_append.mp hq with h | h
      · exact hS.2.2 q h
      · exact hf _ (hL q h)⟩⟩
theorem vx_calli {S SX : Type} {post : Int32 → S → Prop} {px : SX → Prop} {B : S → State → Prop} {BX : String → SX → State → Prop} {AX : Nat → Prop} (hr : vx_Run p l e R s m args below meth c H locs cells slots mc ms (F0 m pc ls st0) rest (va_Qi post B A1 a) (vx_X px BX AX) free) (hS : va_S A0 H0 H locs) (hA : ∀ q, q < H.size → A1 q → A0 q) (hf : ∀ q, free q → A0 q) (hAX : ∀ q, q < H.size → AX q → A0 q)
    (kx : ∀ (E : String) (ce : Cell) (q9 : Addr) (u : SX) (t : State) (H1 : Heap) (locs1 : List Loc), t.heap = H1 → s.vm.Alike t.vm → px u → BX E u t → H.size ≤ H1.size → (∀ q : Nat, q < H.size → ¬ AX q → H1[q]? = H[q]?) → va_S A0 H0 H1 locs1 → H1[q9]? = some ce → ce.vm = .none → s.vm.findClass E = some ce.cls → vx_W p l e R s m args below meth c H1 locs1 (cells + mc) (slots + ms) Q (F0 m pc ls rest) q9)
    (kk : ∀ (r : Int32) (u : S) (t : State) (H1 : Heap) (locs1 : List Loc), t.heap = H1 → s.vm.Alike t.vm → post r u → B u t → H.size ≤ H1.size → (∀ q : Nat, q < H.size → ¬ A1 q → H1[q]? = H[q]?) → va_S A0 H0 H1 locs1 → W p l e R s m args below meth c H1 locs1 (cells + mc) (slots + ms) Q (F0 m (pc + 3) ls (.int r :: rest))) : W p l e R s m args below meth c H locs cells slots Q (F0 m pc ls st0) := by
  intro T hT X
  rcases hr T hT X with ⟨v, st₀, t, T', L, h0, X', hL, e1, e2, ⟨⟨r, u, hv, hp, hb⟩, hF⟩, st⟩ | ⟨q, st₀, t, T', L, E, ce, h0, X', hL, e1, e2, ⟨u, hp, hb, hF⟩, hce, hcv, hcl, st⟩
  · cases hv
    obtain ⟨k1, k2, k3⟩ := vx_keep h0 e1 hS hA hf hL hF
    obtain ⟨t2, a1, b1⟩ := kk r u t T'.heap (locs ++ L) e1.symm (by rw [← e2]; exact X'.warmed.alike) hp hb k1 k2 k3 T' rfl X'
    exact ⟨t2, st t2 a1, b1⟩
  · obtain ⟨k1, k2, k3⟩ := vx_keep h0 e1 hS hAX hf hL hF
    obtain ⟨t2, a1, b1⟩ := kx E ce q u t T'.heap (locs ++ L) e1.symm (by rw [← e2]; exact X'.warmed.alike) hp hb k1 k2 k3 (by rw [e1]; exact hce) hcv hcl T' rfl X'
    exact ⟨t2, st.trans a1, b1⟩
theorem vx_calll {S SX : Type} {post : Int64 → S → Prop} {px : SX → Prop} {B : S → State → Prop} {BX : String → SX → State → Prop} {AX : Nat → Prop} (hr : vx_Run p l e R s m args below meth c H locs cells slots mc ms (F0 m pc ls st0) rest (va_Ql post B A1 a) (vx_X px BX AX) free) (hS : va_S A0 H0 H locs) (hA : ∀ q, q < H.size → A1 q → A0 q) (hf : ∀ q, free q → A0 q) (hAX : ∀ q, q < H.size → AX q → A0 q)
    (kx : ∀ (E : String) (ce : Cell) (q9 : Addr) (u : SX) (t : State) (H1 : Heap) (locs1 : List Loc), t.heap = H1 → s.vm.Alike t.vm → px u → BX E u t → H.size ≤ H1.size → (∀ q : Nat, q < H.size → ¬ AX q → H1[q]? = H[q]?) → va_S A0 H0 H1 locs1 → H1[q9]? = some ce → ce.vm = .none → s.vm.findClass E = some ce.cls → vx_W p l e R s m args below meth c H1 locs1 (cells + mc) (slots + ms) Q (F0 m pc ls rest) q9)
    (kk : ∀ (r : Int64) (u : S) (t : State) (H1 : Heap) (locs1 : List Loc), t.heap = H1 → s.vm.Alike t.vm → post r u → B u t → H.size ≤ H1.size → (∀ q : Nat, q < H.size → ¬ A1 q → H1[q]? = H[q]?) → va_S A0 H0 H1 locs1 → W p l e R s m args below meth c H1 locs1 (cells + mc) (slots + ms) Q (F0 m (pc + 3) ls (.long r :: rest))) : W p l e R s m args below meth c H locs cells slots Q (F0 m pc ls st0) := by
  intro T hT X
  rcases hr T hT X with ⟨v, st₀, t, T', L, h0, X', hL, e1, e2, ⟨⟨r, u, hv, hp, hb⟩, hF⟩, st⟩ | ⟨q, st₀, t, T', L, E, ce, h0, X', hL, e1, e2, ⟨u, hp, hb, hF⟩, hce, hcv, hcl, st⟩
  · cases hv
    obtain ⟨k1, k2, k3⟩ := vx_keep h0 e1 hS hA hf hL hF
    obtain ⟨t2, a1, b1⟩ := kk r u t T'.heap (locs ++ L) e1.symm (by rw [← e2]; exact X'.warmed.alike) hp hb k1 k2 k3 T' rfl X'
    exact ⟨t2, st t2 a1, b1⟩
  · obtain ⟨k1, k2, k3⟩ := vx_keep h0 e1 hS hAX hf hL hF
    obtain ⟨t2, a1, b1⟩ := kx E ce q u t T'.heap (locs ++ L) e1.symm (by rw [← e2]; exact X'.warmed.alike) hp hb k1 k2 k3 (by rw [e1]; exact hce) hcv hcl T' rfl X'
    exact ⟨t2, st.trans a1, b1⟩
theorem vx_callf {S SX : Type} {post : UInt32 → S → Prop} {px : SX → Prop} {B : S → State → Prop} {BX : String → SX → State → Prop} {AX : Nat → Prop} (hr : vx_Run p l e R s m args below meth c H locs cells slots mc ms (F0 m pc ls st0) rest (va_Qf post B A1 a) (vx_X px BX AX) free) (hS : va_S A0 H0 H locs) (hA : ∀ q, q < H.size → A1 q → A0 q) (hf : ∀ q, free q → A0 q) (hAX : ∀ q, q < H.size → AX q → A0 q)
    (kx : ∀ (E : String) (ce : Cell) (q9 : Addr) (u : SX) (t : State) (H1 : Heap) (locs1 : List Loc), t.heap = H1 → s.vm.Alike t.vm → px u → BX E u t → H.size ≤ H1.size → (∀ q : Nat, q < H.size → ¬ AX q → H1[q]? = H[q]?) → va_S A0 H0 H1 locs1 → H1[q9]? = some ce → ce.vm = .none → s.vm.findClass E = some ce.cls → vx_W p l e R s m args below meth c H1 locs1 (cells + mc) (slots + ms) Q (F0 m pc ls rest) q9)
    (kk : ∀ (r : UInt32) (u : S) (t : State) (H1 : Heap) (locs1 : List Loc), t.heap = H1 → s.vm.Alike t.vm → post r u → B u t → H.size ≤ H1.size → (∀ q : Nat, q < H.size → ¬ A1 q → H1[q]? = H[q]?) → va_S A0 H0 H1 locs1 → W p l e R s m args below meth c H1 locs1 (cells + mc) (slots + ms) Q (F0 m (pc + 3) ls (.float r :: rest))) : W p l e R s m args below meth c H locs cells slots Q (F0 m pc ls st0) := by
  intro T hT X
  rcases hr T hT X with ⟨v, st₀, t, T', L, h0, X', hL, e1, e2, ⟨⟨r, u, hv, hp, hb⟩, hF⟩, st⟩ | ⟨q, st₀, t, T', L, E, ce, h0, X', hL, e1, e2, ⟨u, hp, hb, hF⟩, hce, hcv, hcl, st⟩
  · cases hv
    obtain ⟨k1, k2, k3⟩ := vx_keep h0 e1 hS hA hf hL hF
    obtain ⟨t2, a1, b1⟩ := kk r u t T'.heap (locs ++ L) e1.symm (by rw [← e2]; exact X'.warmed.alike) hp hb k1 k2 k3 T' rfl X'
    exact ⟨t2, st t2 a1, b1⟩
  · obtain ⟨k1, k2, k3⟩ := vx_keep h0 e1 hS hAX hf hL hF
    obtain ⟨t2, a1, b1⟩ := kx E ce q u t T'.heap (locs ++ L) e1.symm (by rw [← e2]; exact X'.warmed.alike) hp hb k1 k2 k3 (by rw [e1]; exact hce) hcv hcl T' rfl X'
    exact ⟨t2, st.trans a1, b1⟩
theorem vx_calld {S SX : Type} {post : UInt64 → S → Prop} {px : SX → Prop} {B : S → State → Prop} {BX : String → SX → State → Prop} {AX : Nat → Prop} (hr : vx_Run p l e R s m args below meth c H locs cells slots mc ms (F0 m pc ls st0) rest (va_Qd post B A1 a) (vx_X px BX AX) free) (hS : va_S A0 H0 H locs) (hA : ∀ q, q < H.size → A1 q → A0 q) (hf : ∀ q, free q → A0 q) (hAX : ∀ q, q < H.size → AX q → A0 q)
    (kx : ∀ (E : String) (ce : Cell) (q9 : Addr) (u : SX) (t : State) (H1 : Heap) (locs1 : List Loc), t.heap = H1 → s.vm.Alike t.vm → px u → BX E u t → H.size ≤ H1.size → (∀ q : Nat, q < H.size → ¬ AX q → H1[q]? = H[q]?) → va_S A0 H0 H1 locs1 → H1[q9]? = some ce → ce.vm = .none → s.vm.findClass E = some ce.cls → vx_W p l e R s m args below meth c H1 locs1 (cells + mc) (slots + ms) Q (F0 m pc ls rest) q9)
    (kk : ∀ (r : UInt64) (u : S) (t : State) (H1 : Heap) (locs1 : List Loc), t.heap = H1 → s.vm.Alike t.vm → post r u → B u t → H.size ≤ H1.size → (∀ q : Nat, q < H.size → ¬ A1 q → H1[q]? = H[q]?) → va_S A0 H0 H1 locs1 → W p l e R s m args below meth c H1 locs1 (cells + mc) (slots + ms) Q (F0 m (pc + 3) ls (.double r :: rest))) : W p l e R s m args below meth c H locs cells slots Q (F0 m pc ls st0) := by
  intro T hT X
  rcases hr T hT X with ⟨v, st₀, t, T', L, h0, X', hL, e1, e2, ⟨⟨r, u, hv, hp, hb⟩, hF⟩, st⟩ | ⟨q, st₀, t, T', L, E, ce, h0, X', hL, e1, e2, ⟨u, hp, hb, hF⟩, hce, hcv, hcl, st⟩
  · cases hv
    obtain ⟨k1, k2, k3⟩ := vx_keep h0 e1 hS hA hf hL hF
    obtain ⟨t2, a1, b1⟩ := kk r u t T'.heap (locs ++ L) e1.symm (by rw [← e2]; exact X'.warmed.alike) hp hb k1 k2 k3 T' rfl X'
    exact ⟨t2, st t2 a1, b1⟩
  · obtain ⟨k1, k2, k3⟩ := vx_keep h0 e1 hS hAX hf hL hF
    obtain ⟨t2, a1, b1⟩ := kx E ce q u t T'.heap (locs ++ L) e1.symm (by rw [← e2]; exact X'.warmed.alike) hp hb k1 k2 k3 (by rw [e1]; exact hce) hcv hcl T' rfl X'
    exact ⟨t2, st.trans a1, b1⟩
theorem vx_callv {S SX : Type} {post : S → Prop} {px : SX → Prop} {B : S → State → Prop} {BX : String → SX → State → Prop} {AX : Nat → Prop} (hr : vx_Run p l e R s m args below meth c H locs cells slots mc ms (F0 m pc ls st0) rest (va_Qv post B A1 a) (vx_X px BX AX) free) (hS : va_S A0 H0 H locs) (hA : ∀ q, q < H.size → A1 q → A0 q) (hf : ∀ q, free q → A0 q) (hAX : ∀ q, q < H.size → AX q → A0 q)
    (kx : ∀ (E : String) (ce : Cell) (q9 : Addr) (u : SX) (t : State) (H1 : Heap) (locs1 : List Loc), t.heap = H1 → s.vm.Alike t.vm → px u → BX E u t → H.size ≤ H1.size → (∀ q : Nat, q < H.size → ¬ AX q → H1[q]? = H[q]?) → va_S A0 H0 H1 locs1 → H1[q9]? = some ce → ce.vm = .none → s.vm.findClass E = some ce.cls → vx_W p l e R s m args below meth c H1 locs1 (cells + mc) (slots + ms) Q (F0 m pc ls rest) q9)
    (kk : ∀ (u : S) (t : State) (H1 : Heap) (locs1 : List Loc), t.heap = H1 → s.vm.Alike t.vm → post u → B u t → H.size ≤ H1.size → (∀ q : Nat, q < H.size → ¬ A1 q → H1[q]? = H[q]?) → va_S A0 H0 H1 locs1 → W p l e R s m args below meth c H1 locs1 (cells + mc) (slots + ms) Q (F0 m (pc + 3) ls (rest))) : W p l e R s m args below meth c H locs cells slots Q (F0 m pc ls st0) := by
  intro T hT X
  rcases hr T hT X with ⟨v, st₀, t, T', L, h0, X', hL, e1, e2, ⟨⟨u, hv, hp, hb⟩, hF⟩, st⟩ | ⟨q, st₀, t, T', L, E, ce, h0, X', hL, e1, e2, ⟨u, hp, hb, hF⟩, hce, hcv, hcl, st⟩
  · cases hv
    obtain ⟨k1, k2, k3⟩ := vx_keep h0 e1 hS hA hf hL hF
    obtain ⟨t2, a1, b1⟩ := kk u t T'.heap (locs ++ L) e1.symm (by rw [← e2]; exact X'.warmed.alike) hp hb k1 k2 k3 T' rfl X'
    exact ⟨t2, st t2 a1, b1⟩
  · obtain ⟨k1, k2, k3⟩ := vx_keep h0 e1 hS hAX hf hL hF
    obtain ⟨t2, a1, b1⟩ := kx E ce q u t T'.heap (locs ++ L) e1.symm (by rw [← e2]; exact X'.warmed.alike) hp hb k1 k2 k3 (by rw [e1]; exact hce) hcv hcl T' rfl X'
    exact ⟨t2, st.trans a1, b1⟩
/-- caught by the row x of this method's table; the rows ahead don't take it -/
theorem vx_catch {own name : String} {E : String} {ce : Cell} {q : Addr} (hown : s.vm.findClass own = some m.cls) (pre : List ExceptionTableEntry) (x : ExceptionTableEntry) (suf : List ExceptionTableEntry) (hsplit : c.exceptionTable.toList = pre ++ x :: suf)
    (hpass : ∀ z ∈ pre, covers z pc = false ∨ (z.catchType ≠ 0 ∧ ∃ nm : String, (Cond.classLink own z.catchType nm).before args s = true ∧ va_Nc E nm s)) (hx : covers x pc = true) (h0 : x.catchType ≠ 0)
    (hlink : (Cond.classLink own x.catchType name).before args s = true) (hcast : (Cond.castable E name).before args s = true) (hcell : H[q]? = some ce) (hv : ce.vm = .none) (hcl : s.vm.findClass E = some ce.cls)
    (kk : W p l e R s m args below meth c H locs cells slots Q (F0 m x.handlerPc ls [.ref q])) : vx_W p l e R s m args below meth c H locs cells slots Q (F0 m pc ls rest) q := by
  intro T hT X
  have hpl : e.platform.magicAccessors = ({} : Platform).magicAccessors := by rw [X.admits.platform]
  obtain ⟨c3, c4, hc3, hc4, hasg⟩ := Cond.castable_spec hcast
  cases Option.some.inj (hc3.symm.trans hcl)
  obtain ⟨c5, hc5, hcl5⟩ := Cond.classLink_spec hown hlink e.platform hpl
  cases Option.some.inj (hc4.symm.trans hc5)
  obtain ⟨vm', X', st⟩ := X.thenCaughtThrough q (g := F0 m pc ls rest) rfl (Steps.refl _) (by rw [hT]; exact hcell) (by rw [hv]; rfl) (by obtain ⟨k9, h9, -⟩ := Vm.findClass_spec hcl; exact ⟨k9, h9⟩) pre x suf hsplit
    (fun z hz => by
      rcases hpass z hz with h | ⟨hz0, nm, hl1, hn1⟩
      · exact Or.inl h
      · obtain ⟨c6, hc6, hcl6⟩ := Cond.classLink_spec hown hl1 e.platform hpl
        obtain ⟨a8, b8, h1, h2, h3⟩ := hn1
        cases Option.some.inj (h1.symm.trans hcl)
        cases Option.some.inj (h2.symm.trans hc6)
        exact Or.inr ⟨hz0, _, hcl6, h3⟩) hx (Or.inr ⟨h0, c4, hcl5, hasg⟩)
  obtain ⟨t, a1, b1⟩ := kk (T.setVm vm') hT X'
  exact ⟨t, st.trans a1, b1⟩
end Rows
section Ends
variable {p : Program} {l : Launch} {e : Env} {R : Room} {s : State} {m : MethodId} {args : Array Value} {below : List Frame} {meth : Method} {c : Code} {H : Heap} {locs : List Loc} {cells slots : Nat} {Q : State → Prop}
variable {mc ms : Nat} {free : Addr → Prop} {A0 A1 : Nat → Prop} {H0 : Heap} {a : Array Value} {ls : Array Slot} {st0 rest : List Value}
variable {Qc : Array Value → State → Outcome → State → Prop} {XC : String → State → State → Prop}
/-- what a body that may throw owes at its end -/
def vx_MQ (below : List Frame) (Qc : Array Value → State → Outcome → State → Prop) (XC : String → State → State → Prop) (a : Array Value) (s : State) (mc ms : Nat) (free : Addr → Prop) : State → Prop := fun t =>
  ∃ o, t.status = .running ∧ Ended t below o ∧ vx_Q Qc XC mc ms free a s o t
theorem vx_ret {g : JFrame} {mc ms : Nat} (k : W p l e R s m args below meth c H locs cells slots (MQ below Qc args s mc ms free) g) : W p l e R s m args below meth c H locs cells slots (vx_MQ below Qc XC args s mc ms free) g := by
  intro T hT X
  obtain ⟨t, a1, o, b1, b2, b3, b4⟩ := k T hT X
  exact ⟨t, a1, o, b1, b2, Or.inl ⟨b3, b4⟩⟩
/-- not caught here: it goes on to the caller -/
theorem vx_widen {g : JFrame} {q : Addr} {k n : Nat} (h1 : cells ≤ k) (h2 : slots ≤ n) (kk : vx_W p l e R s m args below meth c H locs k n Q g q) : vx_W p l e R s m args below meth c H locs cells slots Q g q := fun T hT X => kk T hT (stand_widen X h1 h2)
theorem vx_out {pc : Nat} {E : String} {ce : Cell} {q : Addr} {mc ms : Nat} (hout : ∀ x ∈ c.exceptionTable.toList, covers x pc = false) (hlocks : meth.locks = false) (hcell : H[q]? = some ce) (hv : ce.vm = .none) (hcl : s.vm.findClass E = some ce.cls)
    (hx : ∀ t : State, t.heap = H → s.vm.Alike t.vm → XC E s t) (hf : ∀ z ∈ locs, free z.base) (hc : cells ≤ mc) (hs : slots ≤ ms) :
    vx_W p l e R s m args below meth c H locs cells slots (vx_MQ below Qc XC args s mc ms free) (F0 m pc ls rest) q := by
  intro T hT X
  obtain ⟨st1, hrun, hend, hW, hsm⟩ := X.leaveThrown q (g := F0 m pc ls rest) rfl rfl rfl hout hlocks
  have hcell9 : (T.setFrames (.throwing q :: below)).heap[q]? = some ce := by
    show T.heap[q]? = some ce
    rw [hT]; exact hcell
  exact ⟨_, st1, .threw q, hrun, hend, Or.inr ⟨q, rfl, E, ce, locs, hx _ hT hW.alike, hcell9, hv, hcl, hW, hsm.mono hc hs, hf⟩⟩
theorem vx_frame {U : State} {k n : Nat} (h : s.sameButNew ({ U with vm := s.vm } : State) locs k n) : s.heap.size ≤ U.heap.size ∧ ∀ q : Nat, q < s.heap.size → (∀ z ∈ locs, z.base ≠ q) → U.heap[q]? = s.heap[q]? := by
  obtain ⟨-, h2, -, -, -, h6⟩ := h
  refine ⟨h2, fun q hq hz => ?_⟩
  obtain ⟨c9, e1, e2, e3, e4⟩ := h6 q _ (Array.getElem?_eq_getElem hq)
  have hs : c9.slots = (s.heap[q]).slots := Array.ext_getElem? fun i => e4 i fun hm => hz _ hm rfl
  have h9 : c9 = s.heap[q] := by
    rw [hs] at e2
    exact e2
  have e5 : U.heap[q]? = some c9 := e1
  rw [e5, h9, Array.getElem?_eq_getElem hq]
/-- the words of a throw but the four that speak of the heap -/
def vx_no (w : Cond) : Bool := decide (w ≠ .isRef (.static Bundle.tN "UNASSIGNED_STACK" Bundle.steD)) && decide (w ≠ .isRef (.static Bundle.tN "SUPPRESSED_SENTINEL" Bundle.listD)) && decide (w ≠ .laysStatic Bundle.tN "UNASSIGNED_STACK" Bundle.steD) && decide (w ≠ .laysStatic Bundle.tN "SUPPRESSED_SENTINEL" Bundle.listD)
def vx_at0 (own : String) (ic : Nat) (X : String) (names : List String) : List Cond := (Bundle.ownAtoms0 own ic X names).filter vx_no
def vx_atS (own : String) (ic : Nat) (X : String) (names : List String) : List Cond := (Bundle.ownAtoms own ic X names).filter vx_no
/-- a word that the tables alone decide, or a good one -/
def vx_ot (w : Cond) : Bool := w.onTables || goodWord w
theorem vx_ot_at {args a' : Array Value} {s U : State} {w : Cond} (hW : s.WarmedH U.vm) (hvm : s.vm = U.vm) (hg : vx_ot w = true) (h : w.before args s = true) : w.before a' U = true := by
  simp only [vx_ot, Bool.or_eq_true] at hg
  rcases hg with hg | hg
  · exact va_tabs hg hvm h
  · exact word_at hW (good_of_word hg) h
/-- a list's words: the good ones out of the method's own list, the others by premises of their own -/
theorem vx_hat {args : Array Value} {s : State} {L B : List Cond} (h1 : ∀ w ∈ L.filter goodWord, w.before args s = true) (h2 : ∀ w ∈ L.filter (fun w => !goodWord w), w ∈ B) (h3 : ∀ w ∈ B, w.before args s = true) : ∀ w ∈ L, w.before args s = true := by
  intro w hw
  by_cases g : goodWord w = true
  · exact h1 w (List.mem_filter.mpr ⟨hw, g⟩)
  · refine h3 w (h2 w (List.mem_filter.mpr ⟨hw, ?_⟩))
    show (!goodWord w) = true
    cases hgw : goodWord w
    · rfl
    · exact absurd hgw g
theorem vx_c {args : Array Value} {s : State} {w : Cond} {B : List Cond} (h : w.before args s = true) (t : ∀ w ∈ B, w.before args s = true) : ∀ w' ∈ w :: B, w'.before args s = true := fun w' h' => (List.mem_cons.mp h').elim (fun e => by rw [e]; exact h) (t w')
theorem vx_n {args : Array Value} {s : State} : ∀ w ∈ ([] : List Cond), w.before args s = true := fun _ h => nomatch h
theorem vx_own {args : Array Value} {s : State} {L : List Cond} (h1 : ∀ w ∈ L.filter vx_no, w.before args s = true)
    (hU : (Cond.isRef (.static Bundle.tN "UNASSIGNED_STACK" Bundle.steD)).before args s = true) (hN : (Cond.isRef (.static Bundle.tN "SUPPRESSED_SENTINEL" Bundle.listD)).before args s = true)
    (lU : (Cond.laysStatic Bundle.tN "UNASSIGNED_STACK" Bundle.steD).before args s = true) (lN : (Cond.laysStatic Bundle.tN "SUPPRESSED_SENTINEL" Bundle.listD).before args s = true) : ∀ w ∈ L, w.before args s = true := by
  intro w hw
  by_cases e1 : w = .isRef (.static Bundle.tN "UNASSIGNED_STACK" Bundle.steD)
  · rw [e1]; exact hU
  · by_cases e2 : w = .isRef (.static Bundle.tN "SUPPRESSED_SENTINEL" Bundle.listD)
    · rw [e2]; exact hN
    · by_cases e3 : w = .laysStatic Bundle.tN "UNASSIGNED_STACK" Bundle.steD
      · rw [e3]; exact lU
      · by_cases e4 : w = .laysStatic Bundle.tN "SUPPRESSED_SENTINEL" Bundle.listD
        · rw [e4]; exact lN
        · exact h1 w (List.mem_filter.mpr ⟨hw, by unfold vx_no; rw [decide_eq_true e1, decide_eq_true e2, decide_eq_true e3, decide_eq_true e4]; rfl⟩)
/-- where a static field lies, its class's statics cell in H -/
def vx_L (C n d : String) (A : Nat → Prop) (U : State) (H : Heap) : Prop := ∃ (c : ClassId) (k : Class) (i : Nat) (f : Field) (a : Nat) (cell : Cell), U.vm.findClass C = some c ∧ U.fieldFound? C n d = some (c, k, i, f) ∧ f.isStatic = true ∧ k.statics = some a ∧ H[a]? = some cell ∧ cell.vm.isStatics = true ∧ cell.cls = c ∧ f.slot < cell.slots.size ∧ k.staticTypes[f.slot]? = some f.type ∧ ¬ A a
theorem vx_L.moved {C n d : String} {A : Nat → Prop} {u U : State} {H : Heap} (hvm : u.vm.Alike U.vm) (h : vx_L C n d A u H) : vx_L C n d A U H := by
  obtain ⟨c, k, i, f, a, cell, h1, h2, h3, h4, h5, h6, h7, h8, h9, h10⟩ := h
  obtain ⟨k', hi', he⟩ := State.fieldFound?_setVm hvm h2
  exact ⟨c, k', i, f, a, cell, by rw [hvm.findClass]; exact h1, hi', h3, by rw [he]; exact h4, h5, h6, h7, h8, by rw [he]; exact h9, h10⟩
theorem vx_L.kept {C n d : String} {A : Nat → Prop} {U : State} {H H1 : Heap} (h : vx_L C n d A U H) (hq : ∀ a : Nat, a < H.size → ¬ A a → H1[a]? = H[a]?) : vx_L C n d A U H1 := by
  obtain ⟨c, k, i, f, a, cell, h1, h2, h3, h4, h5, h6, h7, h8, h9, h10⟩ := h
  exact ⟨c, k, i, f, a, cell, h1, h2, h3, h4, by rw [hq a (Array.getElem?_eq_some_iff.mp h5).1 h10]; exact h5, h6, h7, h8, h9, h10⟩
theorem vx_L.narrow {C n d : String} {A B : Nat → Prop} {U : State} {H : Heap} (h : vx_L C n d A U H) (hAB : ∀ q, B q → A q) : vx_L C n d B U H := by
  obtain ⟨c, k, i, f, a, cell, h1, h2, h3, h4, h5, h6, h7, h8, h9, h10⟩ := h
  exact ⟨c, k, i, f, a, cell, h1, h2, h3, h4, h5, h6, h7, h8, h9, fun z => h10 (hAB _ z)⟩
theorem vx_L.word {C n d : String} {A : Nat → Prop} {s : State} {args : Array Value} (h : vx_L C n d A s s.heap) : (Cond.laysStatic C n d).before args s = true := by
  obtain ⟨c, k, i, f, a, cell, h1, h2, h3, h4, h5, h6, h7, h8, h9, -⟩ := h
  show (Cond.laysStatic C n d).holds args s none s [] = true
  exact Cond.laysStatic_of h1 h2 h3 h4 h5 h6 h7 h8 h9
/-- .. and what it holds: null or some reference -/
def vx_Zq (C n d : String) (A : Nat → Prop) (U : State) (H : Heap) : Prop := va_Zq C n d A U H ∧ vx_L C n d A U H
theorem vx_Zq.moved {C n d : String} {A : Nat → Prop} {u U : State} {H : Heap} (hvm : u.vm.Alike U.vm) (h : vx_Zq C n d A u H) : vx_Zq C n d A U H := ⟨va_Zq.moved hvm h.1, vx_L.moved hvm h.2⟩
theorem vx_Zq.kept {C n d : String} {A : Nat → Prop} {U : State} {H H1 : Heap} (h : vx_Zq C n d A U H) (hq : ∀ a : Nat, a < H.size → ¬ A a → H1[a]? = H[a]?) : vx_Zq C n d A U H1 := ⟨va_Zq.kept h.1 hq, vx_L.kept h.2 hq⟩
theorem vx_Zq.narrow {C n d : String} {A B : Nat → Prop} {U : State} {H : Heap} (h : vx_Zq C n d A U H) (hAB : ∀ q, B q → A q) : vx_Zq C n d B U H := ⟨va_Zq.narrow h.1 hAB, vx_L.narrow h.2 hAB⟩
theorem vx_Zqof {args : Array Value} {s : State} {C n d : String} {A : Nat → Prop} (hl : (Cond.laysStatic C n d).before args s = true) (hini : (Cond.initialized C).before args s = true) (h : (Cond.isRef (.static C n d)).before args s = true) (hA : ∀ a : Nat, a < s.heap.size → ¬ A a) : vx_Zq C n d A s s.heap := by
  refine ⟨va_Zqof hl hini h hA, ?_⟩
  obtain ⟨c, k, i, f, a, cell, h1, h2, h3, h4, h5, h6, h7, h8, h9⟩ := Cond.laysStatic_spec hl
  exact ⟨c, k, i, f, a, cell, h1, h2, h3, h4, h5, h6, h7, h8, h9, hA a (Array.getElem?_eq_some_iff.mp h5).1⟩
theorem vx_isRef {C n d : String} {v : Value} {A : Nat → Prop} {s : State} {args : Array Value} (h : va_Z C n d v A s s.heap) (hv : v.isRef = true) : (Cond.isRef (.static C n d)).before args s = true := by
  obtain ⟨cf, kf, fi, f, a, cell, h1, h2, h3, h4, h5, h6, h7, -⟩ := h
  have he : (Term.static C n d).eval args s none [] s = some v := by
    simp [Term.eval, State.fieldNamed?, h1, h2, h4, h5, h6, h7]
  simp only [Cond.before, Cond.holds, Cond.value, he]
  cases v <;> simp_all [Value.isRef]
theorem vx_isRefq {C n d : String} {A : Nat → Prop} {s : State} {args : Array Value} (h : va_Zq C n d A s s.heap) : (Cond.isRef (.static C n d)).before args s = true := by
  rcases h with h | ⟨t, h⟩
  · exact vx_isRef h rfl
  · exact vx_isRef h rfl
/-- the same frame, seen from here: as if the method were called anew in this heap -/
theorem vx_rebase {T : State} (X : Stand p l e R s m args below meth c T locs cells slots) {R' : Room} (hf : R'.frames ≤ R.frames) (hl : R'.locals ≤ R.locals) (hc : cells + R'.cells ≤ R.cells) (hs : slots + R'.slots ≤ R.slots) :
    Stand p l e R' ((T.setVm s.vm).setFrames (.invoking m args :: below)) m args below meth c T [] 0 0 := by
  have htop : (T.setVm s.vm).topJava?.isSome := X.here.top
  have hF : ((T.setVm s.vm).setFrames (.invoking m args :: below)).frames = .invoking m args :: below := State.frames_setFrames _ (State.cur_lt_of_top htop)
  obtain ⟨g₀, hg0⟩ := Option.isSome_iff_exists.mp htop
  obtain ⟨r, hr⟩ := State.topJava?_eq_some.mp hg0
  have hl9 : e.platform.stackLimits (T.setVm s.vm).me = e.platform.stackLimits s.me := X.limits
  have hb9 : (T.setVm s.vm).me.stackBytes = s.me.stackBytes := X.bytes
  refine ⟨X.admits, X.cas, X.clock, hF, ?_, X.hears, X.method, X.code, X.here, X.tail, X.warmed, ?_, ?_, ?_⟩
  · have h := X.room
    have hU : ((T.setVm s.vm).setFrames (.invoking m args :: below)).localsInUse = s.localsInUse := by
      rw [State.localsInUse_invoking hF (meth := meth) (c := c) X.method X.code, State.localsInUse_invoking X.frames X.method X.code]
    simp only [State.hasRoom, Bool.and_eq_true, decide_eq_true_eq] at h ⊢
    obtain ⟨⟨⟨⟨h1, h2, h3, h4, h5, h6⟩, h7⟩, h8⟩, h9⟩ := h
    rw [X.frames, List.length_cons] at h2 h3
    have q1 := X.heapSize
    have q2 := X.used
    simp only [hF, hU, List.length_cons, State.stackLimits_setFrames, State.stackBytes_setFrames, hl9, hb9]
    refine ⟨⟨⟨⟨by omega, by omega, by omega, by omega, by omega, h6⟩, ?_⟩, ?_⟩, X.book⟩
    · show T.heap.size + R'.cells ≤ e.platform.maxCells
      omega
    · show T.slotsUsed + R'.slots ≤ e.platform.maxSlots
      omega
  · rw [State.stackLimits_setFrames]; rfl
  · rw [State.stackBytes_setFrames]; rfl
  · refine ⟨?_, Nat.le_refl _, Nat.le_refl _, ?_, ?_, fun a c9 h9 => ⟨c9, h9, rfl, rfl, fun _ _ => rfl⟩⟩
    · obtain ⟨t, ht, -⟩ := State.frames_cons hr
      show T.setVm s.vm = { ((T.setVm s.vm).setFrames (.invoking m args :: below)).setFrames (T.setVm s.vm).frames with heap := T.heap, slotsUsed := T.slotsUsed }
      rw [State.setFrames_setFrames, State.setFrames_self ht]
      rfl
    · show T.slotsUsed = T.slotsUsed + ((T.heap.toList.drop T.heap.size).map (·.slots.size)).sum
      rw [List.drop_eq_nil_of_le (Nat.le_of_eq Array.length_toList)]
      rfl
    · show ((T.heap.toList.drop T.heap.size).map (·.slots.size)).sum ≤ 0
      rw [List.drop_eq_nil_of_le (Nat.le_of_eq Array.length_toList)]
      exact Nat.le_refl _
/-- 'throw new E()': new; dup; invokespecial; athrow -/
theorem vx_throw0 {cc : ByteArray} {pc : Nat} (hexec : p.tables.exec = Jvm.exec) (hb : c.code = cc) (hl : l.stackTraces = false) {own cls : String} {names : List String} {ik ic mc ms : Nat} {A : Nat → Prop}
    (hown : s.vm.findClass own = some m.cls) (hcls : Bundle.fit cls = true) (hnames : ∀ n ∈ names, Bundle.fit n = true)
    (hk : (Cond.classLink own ik cls).before args s = true) (hini : (Cond.initialized cls).before args s = true) (hat : ∀ w ∈ vx_at0 own ic cls names, w.before args s = true)
    (hgood : ∀ w ∈ Cond.classLink own ik cls :: Cond.initialized cls :: vx_at0 own ic cls names, vx_ot w = true)
    (hU : vx_Zq Bundle.tN "UNASSIGNED_STACK" Bundle.steD A s s.heap) (hN : vx_Zq Bundle.tN "SUPPRESSED_SENTINEL" Bundle.listD A s s.heap) (hS : va_S A s.heap H locs) (hsize : ls.size = c.maxLocals)
    (d0 : decode cc pc = .ok (.new ik, 3)) (d3 : decode cc (pc + 3) = .ok (.dup, 1)) (d4 : decode cc (pc + 4) = .ok (.invokespecial ic, 3)) (d7 : decode cc (pc + 7) = .ok (.athrow, 1))
    (hout : ∀ x ∈ c.exceptionTable.toList, covers x (pc + 7) = false)
    (hRframes : names.length + 3 < R.frames) (hRlocals : (rest.map fun v => v.category).sum + (13 * (names.length + 1) + 42) ≤ R.locals) (hRcells : cells + 1 ≤ R.cells) (hRslots : slots + 6 ≤ R.slots) (hlocks : meth.locks = false)
    (hx : ∀ t : State, s.vm.Alike t.vm → H.size ≤ t.heap.size → (∀ q : Nat, q < H.size → t.heap[q]? = H[q]?) → XC cls s t)
    (hf : ∀ z ∈ locs, free z.base) (hc : cells + 1 ≤ mc) (hs : slots + 6 ≤ ms) :
    W p l e R s m args below meth c H locs cells slots (vx_MQ below Qc XC args s mc ms free) (F0 m pc ls rest) := by
  intro T hT X
  have htr : e.platform.stackTraces = false := (show e.platform.stackTraces = l.stackTraces by rw [X.admits.platform]).trans hl
  have Y := vx_rebase X (R' := { frames := R.frames, locals := R.locals, cells := 1, slots := 6 }) (Nat.le_refl _) (Nat.le_refl _) hRcells hRslots
  obtain ⟨s', hA⟩ : ∃ z, z = (T.setVm s.vm).setFrames (.invoking m args :: below) := ⟨_, rfl⟩
  rw [← hA] at Y
  have hvm : s'.vm = s.vm := by rw [hA]; rfl
  have hhp : s'.heap = H := by rw [hA]; exact hT
  have hW0 : s.WarmedH s'.vm := by rw [hvm]; exact State.WarmedH.refl s
  have hat' : ∀ w ∈ vx_at0 own ic cls names, w.before args s' = true := fun w hw => vx_ot_at hW0 hvm.symm (hgood w (List.mem_cons_of_mem _ (List.mem_cons_of_mem _ hw))) (hat w hw)
  have hk' : (Cond.classLink own ik cls).before args s' = true := vx_ot_at hW0 hvm.symm (hgood _ List.mem_cons_self) hk
  have hini' : (Cond.initialized cls).before args s' = true := vx_ot_at hW0 hvm.symm (hgood _ (List.mem_cons_of_mem _ List.mem_cons_self)) hini
  have hU' : vx_Zq Bundle.tN "UNASSIGNED_STACK" Bundle.steD A s' s'.heap := by rw [hhp]; exact vx_Zq.moved hW0.alike (hU.kept hS.2.1)
  have hN' : vx_Zq Bundle.tN "SUPPRESSED_SENTINEL" Bundle.listD A s' s'.heap := by rw [hhp]; exact vx_Zq.moved hW0.alike (hN.kept hS.2.1)
  have h : ∀ w ∈ Bundle.ownAtoms0 own ic cls names, w.before args s' = true := vx_own hat' (vx_isRefq hU'.1) (vx_isRefq hN'.1) hU'.2.word hN'.2.word
  have hown' : s'.vm.findClass own = some m.cls := by rw [hvm]; exact hown
  have hins : (Cond.instantiable cls 6).before args s' = true := h _ (by simp [Bundle.ownAtoms0])
  obtain ⟨vm₁, cX, kX, hfX, hkX, -, -, X₁, st1⟩ := Y.newCold hexec (own := own) (C := cls) (index := ik) (n := 6) hown' hk' hins hini'
    (g := F0 m pc ls rest) rfl (by rw [hb]; exact d0) (Nat.le_refl _) (Nat.le_refl _)
  generalize hT1 : (T.setVm vm₁).pushCell { cls := cX, slots := kX.instanceTypes.map defaultValue, vm := .none } = T1 at X₁ st1
  have hcat : (Value.ref T.heap.size).category = 1 := rfl
  have hcellA : T1.heap[T.heap.size]? = some (freshCell cX kX) := by rw [← hT1]; exact State.heap_pushCell_size _ _
  have d3' : decode c.code (pc + 3) = .ok (.dup, 1) := by rw [hb]; exact d3
  obtain ⟨U, hsteps, hrun, hend, hW, hsame, ce, hce, hO⟩ := X₁.ctorThrow0 hexec htr (own := own) (cls := cls) (names := names) (ic := ic) hown' hcls hnames h (fun x hx => nomatch hx) hfX hkX hcellA (by rw [hhp, hT]; exact Nat.le_refl _)
    (g := { method := m, pc := pc + 4, locals := ls, stack := .ref T.heap.size :: .ref T.heap.size :: rest, locked := none }) rfl hsize rfl rfl (rest := rest) rfl
    (by rw [hb]; exact d4) (by rw [hb]; exact d7) hout hRframes (by simp only [List.map_cons, List.sum_cons, hcat]; omega) hlocks
  obtain ⟨f1, f2⟩ := vx_frame hsame
  rw [hhp] at f1 f2
  have hWs : s.WarmedH U.vm := State.WarmedH.trans hW0 hW
  have hcl : s.vm.findClass cls = some ce.cls := by
    have h9 := hO.cls
    rw [hvm] at h9
    exact h9
  have hall : s.sameButNew ({ U with vm := s.vm } : State) locs mc ms := by
    subst hA
    obtain ⟨e1, e2⟩ := hsame
    rw [State.setFrames_setFrames] at e1
    have h2 : (T.setVm s.vm).sameButNew ({ U with vm := s.vm } : State) [] (0 + 1) (0 + 6) := ⟨e1, e2⟩
    have h3 := X.same.trans h2
    rw [List.append_nil] at h3
    exact h3.mono hc hs
  refine ⟨U, ?_, .threw T.heap.size, hrun, hend, Or.inr ⟨T.heap.size, rfl, cls, ce, locs, hx U hWs.alike f1 (fun q hq => f2 q hq (fun z hz => nomatch hz)), hce, hO.vm, hcl, hWs, hall, hf⟩⟩
  refine st1 _ ?_
  show Steps p.tables e below (T1.setTop { method := m, pc := pc + 3, locals := ls, stack := .ref T.heap.size :: rest, locked := none }) _
  jvm_step X₁.here [X₁.here.top, hexec, d3', Value.category]
  exact hsteps
/-- 'throw new E("text")': new; dup; ldc; invokespecial; athrow -/
theorem vx_throwS {cc : ByteArray} {pc : Nat} (hexec : p.tables.exec = Jvm.exec) (hb : c.code = cc) (hl : l.stackTraces = false) {own cls text : String} {names : List String} {ik is ic mc ms sa : Nat} {A : Nat → Prop}
    (hown : s.vm.findClass own = some m.cls) (hcls : Bundle.fit cls = true) (hnames : ∀ n ∈ names, Bundle.fit n = true)
    (hk : (Cond.classLink own ik cls).before args s = true) (hini : (Cond.initialized cls).before args s = true) (hstr : vk_R own is text sa s) (hat : ∀ w ∈ vx_atS own ic cls names, w.before args s = true)
    (hgood : ∀ w ∈ Cond.classLink own ik cls :: Cond.initialized cls :: vx_atS own ic cls names, vx_ot w = true)
    (hU : vx_Zq Bundle.tN "UNASSIGNED_STACK" Bundle.steD A s s.heap) (hN : vx_Zq Bundle.tN "SUPPRESSED_SENTINEL" Bundle.listD A s s.heap) (hS : va_S A s.heap H locs) (hsize : ls.size = c.maxLocals)
    (d0 : decode cc pc = .ok (.new ik, 3)) (d3 : decode cc (pc + 3) = .ok (.dup, 1)) (d4 : decode cc (pc + 4) = .ok (.ldc is, 2)) (d6 : decode cc (pc + 6) = .ok (.invokespecial ic, 3)) (d9 : decode cc (pc + 9) = .ok (.athrow, 1))
    (hout : ∀ x ∈ c.exceptionTable.toList, covers x (pc + 9) = false)
    (hRframes : names.length + 3 < R.frames) (hRlocals : (rest.map fun v => v.category).sum + (13 * (names.length + 1) + 43) ≤ R.locals) (hRcells : cells + 1 ≤ R.cells) (hRslots : slots + 6 ≤ R.slots) (hlocks : meth.locks = false)
    (hx : ∀ t : State, s.vm.Alike t.vm → H.size ≤ t.heap.size → (∀ q : Nat, q < H.size → t.heap[q]? = H[q]?) → XC cls s t)
    (hf : ∀ z ∈ locs, free z.base) (hc : cells + 1 ≤ mc) (hs : slots + 6 ≤ ms) :
    W p l e R s m args below meth c H locs cells slots (vx_MQ below Qc XC args s mc ms free) (F0 m pc ls rest) := by
  intro T hT X
  have htr : e.platform.stackTraces = false := (show e.platform.stackTraces = l.stackTraces by rw [X.admits.platform]).trans hl
  have Y := vx_rebase X (R' := { frames := R.frames, locals := R.locals, cells := 1, slots := 6 }) (Nat.le_refl _) (Nat.le_refl _) hRcells hRslots
  obtain ⟨s', hA⟩ : ∃ z, z = (T.setVm s.vm).setFrames (.invoking m args :: below) := ⟨_, rfl⟩
  rw [← hA] at Y
  have hvm : s'.vm = s.vm := by rw [hA]; rfl
  have hhp : s'.heap = H := by rw [hA]; exact hT
  have hW0 : s.WarmedH s'.vm := by rw [hvm]; exact State.WarmedH.refl s
  have hat' : ∀ w ∈ vx_atS own ic cls names, w.before args s' = true := fun w hw => vx_ot_at hW0 hvm.symm (hgood w (List.mem_cons_of_mem _ (List.mem_cons_of_mem _ hw))) (hat w hw)
  have hk' : (Cond.classLink own ik cls).before args s' = true := vx_ot_at hW0 hvm.symm (hgood _ List.mem_cons_self) hk
  have hini' : (Cond.initialized cls).before args s' = true := vx_ot_at hW0 hvm.symm (hgood _ (List.mem_cons_of_mem _ List.mem_cons_self)) hini
  have hU' : vx_Zq Bundle.tN "UNASSIGNED_STACK" Bundle.steD A s' s'.heap := by rw [hhp]; exact vx_Zq.moved hW0.alike (hU.kept hS.2.1)
  have hN' : vx_Zq Bundle.tN "SUPPRESSED_SENTINEL" Bundle.listD A s' s'.heap := by rw [hhp]; exact vx_Zq.moved hW0.alike (hN.kept hS.2.1)
  have h : ∀ w ∈ Bundle.ownAtoms own ic cls names, w.before args s' = true := vx_own hat' (vx_isRefq hU'.1) (vx_isRefq hN'.1) hU'.2.word hN'.2.word
  have hown' : s'.vm.findClass own = some m.cls := by rw [hvm]; exact hown
  have hins : (Cond.instantiable cls 6).before args s' = true := h _ (by simp [Bundle.ownAtoms])
  obtain ⟨vm₁, cX, kX, hfX, hkX, -, -, X₁, st1⟩ := Y.newCold hexec (own := own) (C := cls) (index := ik) (n := 6) hown' hk' hins hini'
    (g := F0 m pc ls rest) rfl (by rw [hb]; exact d0) (Nat.le_refl _) (Nat.le_refl _)
  generalize hT1 : (T.setVm vm₁).pushCell { cls := cX, slots := kX.instanceTypes.map defaultValue, vm := .none } = T1 at X₁ st1
  have hcat : (Value.ref T.heap.size).category = 1 := rfl
  have hcellA : T1.heap[T.heap.size]? = some (freshCell cX kX) := by rw [← hT1]; exact State.heap_pushCell_size _ _
  have d3' : decode c.code (pc + 3) = .ok (.dup, 1) := by rw [hb]; exact d3
  have d4' : decode c.code (pc + 4) = .ok (.ldc is, 2) := by rw [hb]; exact d4
  have hstr' : vk_R own is text sa s' := vk_R.warm hW0 hstr
  obtain ⟨U, hsteps, hrun, hend, hW, hsame, ce, hce, hO⟩ := X₁.ctorThrowS hexec htr (own := own) (cls := cls) (names := names) (ic := ic) hown' hcls hnames h (fun x hx => nomatch hx) hfX hkX hcellA (by rw [hhp, hT]; exact Nat.le_refl _) (msg := .ref sa) rfl
    (g := { method := m, pc := pc + 6, locals := ls, stack := .ref sa :: .ref T.heap.size :: .ref T.heap.size :: rest, locked := none }) rfl hsize rfl rfl (rest := rest) rfl
    (by rw [hb]; exact d6) (by rw [hb]; exact d9) hout hRframes (by simp only [List.map_cons, List.sum_cons, hcat]; omega) hlocks
  obtain ⟨f1, f2⟩ := vx_frame hsame
  rw [hhp] at f1 f2
  have hWs : s.WarmedH U.vm := State.WarmedH.trans hW0 hW
  have hcl : s.vm.findClass cls = some ce.cls := by
    have h9 := hO.cls
    rw [hvm] at h9
    exact h9
  have hall : s.sameButNew ({ U with vm := s.vm } : State) locs mc ms := by
    subst hA
    obtain ⟨e1, e2⟩ := hsame
    rw [State.setFrames_setFrames] at e1
    have h2 : (T.setVm s.vm).sameButNew ({ U with vm := s.vm } : State) [] (0 + 1) (0 + 6) := ⟨e1, e2⟩
    have h3 := X.same.trans h2
    rw [List.append_nil] at h3
    exact h3.mono hc hs
  refine ⟨U, ?_, .threw T.heap.size, hrun, hend, Or.inr ⟨T.heap.size, rfl, cls, ce, locs, hx U hWs.alike f1 (fun q hq => f2 q hq (fun z hz => nomatch hz)), hce, hO.vm, hcl, hWs, hall, hf⟩⟩
  refine st1 _ ?_
  show Steps p.tables e below (T1.setTop { method := m, pc := pc + 3, locals := ls, stack := .ref T.heap.size :: rest, locked := none }) _
  jvm_step X₁.here [X₁.here.top, hexec, d3', Value.category]
  exact X₁.ldcString hexec (own := own) (text := text) (index := is) (a := sa) hown' hstr'.1 hstr'.2
    (g := { method := m, pc := pc + 4, locals := ls, stack := .ref T.heap.size :: .ref T.heap.size :: rest, locked := none }) rfl d4' _ hsteps
/-- 'throw new E("text")', the text by a wide index -/
theorem vx_throwSW {cc : ByteArray} {pc : Nat} (hexec : p.tables.exec = Jvm.exec) (hb : c.code = cc) (hl : l.stackTraces = false) {own cls text : String} {names : List String} {ik is ic mc ms sa : Nat} {A : Nat → Prop}
    (hown : s.vm.findClass own = some m.cls) (hcls : Bundle.fit cls = true) (hnames : ∀ n ∈ names, Bundle.fit n = true)
    (hk : (Cond.classLink own ik cls).before args s = true) (hini : (Cond.initialized cls).before args s = true) (hstr : vk_R own is text sa s) (hat : ∀ w ∈ vx_atS own ic cls names, w.before args s = true)
    (hgood : ∀ w ∈ Cond.classLink own ik cls :: Cond.initialized cls :: vx_atS own ic cls names, vx_ot w = true)
    (hU : vx_Zq Bundle.tN "UNASSIGNED_STACK" Bundle.steD A s s.heap) (hN : vx_Zq Bundle.tN "SUPPRESSED_SENTINEL" Bundle.listD A s s.heap) (hS : va_S A s.heap H locs) (hsize : ls.size = c.maxLocals)
    (d0 : decode cc pc = .ok (.new ik, 3)) (d3 : decode cc (pc + 3) = .ok (.dup, 1)) (d4 : decode cc (pc + 4) = .ok (.ldc_w is, 3)) (d7 : decode cc (pc + 7) = .ok (.invokespecial ic, 3)) (d10 : decode cc (pc + 10) = .ok (.athrow, 1))
    (hout : ∀ x ∈ c.exceptionTable.toList, covers x (pc + 10) = false)
    (hRframes : names.length + 3 < R.frames) (hRlocals : (rest.map fun v => v.category).sum + (13 * (names.length + 1) + 43) ≤ R.locals) (hRcells : cells + 1 ≤ R.cells) (hRslots : slots + 6 ≤ R.slots) (hlocks : meth.locks = false)
    (hx : ∀ t : State, s.vm.Alike t.vm → H.size ≤ t.heap.size → (∀ q : Nat, q < H.size → t.heap[q]? = H[q]?) → XC cls s t)
    (hf : ∀ z ∈ locs, free z.base) (hc : cells + 1 ≤ mc) (hs : slots + 6 ≤ ms) :
    W p l e R s m args below meth c H locs cells slots (vx_MQ below Qc XC args s mc ms free) (F0 m pc ls rest) := by
  intro T hT X
  have htr : e.platform.stackTraces = false := (show e.platform.stackTraces = l.stackTraces by rw [X.admits.platform]).trans hl
  have Y := vx_rebase X (R' := { frames := R.frames, locals := R.locals, cells := 1, slots := 6 }) (Nat.le_refl _) (Nat.le_refl _) hRcells hRslots
  obtain ⟨s', hA⟩ : ∃ z, z = (T.setVm s.vm).setFrames (.invoking m args :: below) := ⟨_, rfl⟩
  rw [← hA] at Y
  have hvm : s'.vm = s.vm := by rw [hA]; rfl
  have hhp : s'.heap = H := by rw [hA]; exact hT
  have hW0 : s.WarmedH s'.vm := by rw [hvm]; exact State.WarmedH.refl s
  have hat' : ∀ w ∈ vx_atS own ic cls names, w.before args s' = true := fun w hw => vx_ot_at hW0 hvm.symm (hgood w (List.mem_cons_of_mem _ (List.mem_cons_of_mem _ hw))) (hat w hw)
  have hk' : (Cond.classLink own ik cls).before args s' = true := vx_ot_at hW0 hvm.symm (hgood _ List.mem_cons_self) hk
  have hini' : (Cond.initialized cls).before args s' = true := vx_ot_at hW0 hvm.symm (hgood _ (List.mem_cons_of_mem _ List.mem_cons_self)) hini
  have hU' : vx_Zq Bundle.tN "UNASSIGNED_STACK" Bundle.steD A s' s'.heap := by rw [hhp]; exact vx_Zq.moved hW0.alike (hU.kept hS.2.1)
  have hN' : vx_Zq Bundle.tN "SUPPRESSED_SENTINEL" Bundle.listD A s' s'.heap := by rw [hhp]; exact vx_Zq.moved hW0.alike (hN.kept hS.2.1)
  have h : ∀ w ∈ Bundle.ownAtoms own ic cls names, w.before args s' = true := vx_own hat' (vx_isRefq hU'.1) (vx_isRefq hN'.1) hU'.2.word hN'.2.word
  have hown' : s'.vm.findClass own = some m.cls := by rw [hvm]; exact hown
  have hins : (Cond.instantiable cls 6).before args s' = true := h _ (by simp [Bundle.ownAtoms])
  obtain ⟨vm₁, cX, kX, hfX, hkX, -, -, X₁, st1⟩ := Y.newCold hexec (own := own) (C := cls) (index := ik) (n := 6) hown' hk' hins hini'
    (g := F0 m pc ls rest) rfl (by rw [hb]; exact d0) (Nat.le_refl _) (Nat.le_refl _)
  generalize hT1 : (T.setVm vm₁).pushCell { cls := cX, slots := kX.instanceTypes.map defaultValue, vm := .none } = T1 at X₁ st1
  have hcat : (Value.ref T.heap.size).category = 1 := rfl
  have hcellA : T1.heap[T.heap.size]? = some (freshCell cX kX) := by rw [← hT1]; exact State.heap_pushCell_size _ _
  have d3' : decode c.code (pc + 3) = .ok (.dup, 1) := by rw [hb]; exact d3
  have d4' : decode c.code (pc + 4) = .ok (.ldc_w is, 3) := by rw [hb]; exact d4
  have hstr' : vk_R own is text sa s' := vk_R.warm hW0 hstr
  obtain ⟨U, hsteps, hrun, hend, hW, hsame, ce, hce, hO⟩ := X₁.ctorThrowS hexec htr (own := own) (cls := cls) (names := names) (ic := ic) hown' hcls hnames h (fun x hx => nomatch hx) hfX hkX hcellA (by rw [hhp, hT]; exact Nat.le_refl _) (msg := .ref sa) rfl
    (g := { method := m, pc := pc + 7, locals := ls, stack := .ref sa :: .ref T.heap.size :: .ref T.heap.size :: rest, locked := none }) rfl hsize rfl rfl (rest := rest) rfl
    (by rw [hb]; exact d7) (by rw [hb]; exact d10) hout hRframes (by simp only [List.map_cons, List.sum_cons, hcat]; omega) hlocks
  obtain ⟨f1, f2⟩ := vx_frame hsame
  rw [hhp] at f1 f2
  have hWs : s.WarmedH U.vm := State.WarmedH.trans hW0 hW
  have hcl : s.vm.findClass cls = some ce.cls := by
    have h9 := hO.cls
    rw [hvm] at h9
    exact h9
  have hall : s.sameButNew ({ U with vm := s.vm } : State) locs mc ms := by
    subst hA
    obtain ⟨e1, e2⟩ := hsame
    rw [State.setFrames_setFrames] at e1
    have h2 : (T.setVm s.vm).sameButNew ({ U with vm := s.vm } : State) [] (0 + 1) (0 + 6) := ⟨e1, e2⟩
    have h3 := X.same.trans h2
    rw [List.append_nil] at h3
    exact h3.mono hc hs
  refine ⟨U, ?_, .threw T.heap.size, hrun, hend, Or.inr ⟨T.heap.size, rfl, cls, ce, locs, hx U hWs.alike f1 (fun q hq => f2 q hq (fun z hz => nomatch hz)), hce, hO.vm, hcl, hWs, hall, hf⟩⟩
  refine st1 _ ?_
  show Steps p.tables e below (T1.setTop { method := m, pc := pc + 3, locals := ls, stack := .ref T.heap.size :: rest, locked := none }) _
  jvm_step X₁.here [X₁.here.top, hexec, d3', Value.category]
  exact X₁.ldcStringW hexec (own := own) (text := text) (index := is) (a := sa) hown' hstr'.1 hstr'.2
    (g := { method := m, pc := pc + 4, locals := ls, stack := .ref T.heap.size :: .ref T.heap.size :: rest, locked := none }) rfl d4' _ hsteps
end Ends
section Bodies
variable {l : Launch}
theorem vx_ofW {y : MethodName} {ws ws' : List Cond} {rm : Room} {Pc : Array Value → State → Prop} {Qc : Array Value → State → Outcome → State → Prop} {XC : String → State → State → Prop} {mc ms : Nat} {free : Addr → Prop} {cc : ByteArray} {maxL : Nat} {ret : Option FieldType}
    (hy : plainName y.cls = true) (hw : ws = Cond.code y cc maxL ret :: ws')
    (body : ∀ p e s m args below meth c s₁, BodyLoose p l y (headSpec ws rm) cc maxL ret e s m args below meth c s₁ → c.maxLocals = maxL → (∀ x ∈ c.exceptionTable.toList, False) → Pc args s →
      W p l e (headSpec ws rm).room s m args below meth c s.heap [] 0 0 (vx_MQ below Qc XC args s mc ms free) (entryFrame m args maxL)) : vx_Met l y ws rm Pc Qc XC mc ms free := by
  refine MetFree.of_bodyS (code := cc) (maxLocals := maxL) (ret := ret) hy ?_ ?_
  · intro args s m h hn
    obtain ⟨meth, c, h1, h2, h3, h4, h5, h6, -, -⟩ := Cond.code_spec hn (atoms_spec (ws := ws) h _ (by rw [hw]; exact List.mem_cons_self))
    exact ⟨meth, c, h1, h2, h3, h4, h5, h6⟩
  · intro p e s m args below meth c s₁ B hml hP _
    have hh0 : s₁.heap = s.heap := by rw [B.state]; rfl
    have ht : ∀ x ∈ c.exceptionTable.toList, False := by
      obtain ⟨meth9, c9, h1, h2, -, -, -, -, h7, -⟩ := Cond.code_spec B.named (atoms_spec (ws := ws) B.pre _ (by rw [hw]; exact List.mem_cons_self))
      cases Option.some.inj (h1.symm.trans B.method)
      cases Option.some.inj (h2.symm.trans (Stand.of_body B).code)
      intro x hx
      rw [Array.isEmpty_iff.mp h7] at hx
      cases hx
    obtain ⟨t, a1, o, b1, b2, b3⟩ := body p e s m args below meth c s₁ B hml ht hP s₁ hh0 (Stand.of_body B)
    exact ⟨t, o, a1, b1, b2, b3⟩
/-- the table of a body with handlers -/
theorem vx_table {p : Program} {x y : MethodName} {S : Spec} {cc bytes : ByteArray} {maxL maxL' : Nat} {ret ret' : Option FieldType} {e : Env} {s s₁ : State} {m : MethodId} {args : Array Value} {below : List Frame} {meth : Method} {c : Code} {hh : List (Nat × Nat × Nat × Nat)}
    (B : BodyLoose p l y S cc maxL ret e s m args below meth c s₁) (h : (Cond.codeWith y bytes maxL' ret' hh).before args s = true) : c.exceptionTable.toList = tableOf hh := by
  obtain ⟨m9, meth9, c9, hn9, h1, h2, -, -, h6, -⟩ := Cond.codeWith_spec h
  cases Option.some.inj (hn9.symm.trans B.named)
  cases Option.some.inj (h1.symm.trans B.method)
  cases Option.some.inj (h2.symm.trans (Stand.of_body B).code)
  rw [← h6, table_eq]
end Bodies
end VXA
/-! ===== END ===== -/
/-! ===== BEGIN a static call of a method with an exception table ===== -/
section VXS
variable {p : Program} {l : Launch} {e : Env} {R : Room} {s : State} {m : MethodId} {args : Array Value} {below : List Frame} {meth : Method} {c : Code} {T : State} {H : Heap} {locs : List Loc} {cells slots : Nat}
abbrev vx_CSW (R : Room) (s : State) (args : Array Value) (own : String) (index : Nat) (y : MethodName) (bytes : ByteArray) (maxL : Nat) (ret : Option FieldType) (hh : List (Nat × Nat × Nat × Nat)) (ws : List Cond) (rm : Room) (mc ms n : Nat) : Prop :=
  (rm.cells = mc ∧ rm.slots = ms ∧ rm.frames + 1 ≤ R.frames ∧ 8 + (maxL + 11) + rm.locals ≤ R.locals ∧ (∀ w ∈ ws, ∀ (a' : Array Value) (U : State), s.WarmedH U.vm → w.before a' U = true) ∧ Cond.codeWith y bytes maxL ret hh ∈ ws) ∧
  (Cond.codeWith y bytes maxL ret hh).before args s = true ∧ (Cond.initialized y.cls).before args s = true ∧ (y.cls ≠ "java/lang/invoke/MethodHandle" ∧ y.cls ≠ "java/lang/invoke/VarHandle") ∧
  (∀ sig, parseMethodDescriptor y.desc = some sig → n = sig.parameters.length) ∧ (Cond.methodLink own index y).before args s = true ∧ (Cond.static y).before args s = true
theorem vx_cwSW {own : String} {index maxL mc ms : Nat} {y : MethodName} {bytes : ByteArray} {ret : Option FieldType} {hh : List (Nat × Nat × Nat × Nat)} {Ts ws ws' : List Cond} {rm : Room} (n : Nat) (ht : ∀ w ∈ Ts, w.before args s = true) (hT : GoodIn Ts (va_wsS own index y ws)) (hw : ws = Cond.codeWith y bytes maxL ret hh :: ws') (hrc : rm.cells = mc) (hrs : rm.slots = ms)
    (hd : y.cls ≠ "java/lang/invoke/MethodHandle" ∧ y.cls ≠ "java/lang/invoke/VarHandle" ∧ (parseMethodDescriptor y.desc).map (fun d => d.parameters.length) = some n) (hR : rm.frames + 1 ≤ R.frames ∧ 8 + (maxL + 11) + rm.locals ≤ R.locals) :
    vx_CSW R s args own index y bytes maxL ret hh ws rm mc ms n := by
  have ok : ∀ w ∈ va_wsS own index y ws, w.before args s = true := fun w h => ht w (hT w h).1
  have hG : GoodIn Ts ws := fun w h => hT w (by unfold va_wsS; exact List.mem_append_right _ h)
  have hc : Cond.codeWith y bytes maxL ret hh ∈ ws := by rw [hw]; exact List.mem_cons_self
  refine ⟨⟨hrc, hrs, hR.1, hR.2, pay_in ht hG, hc⟩, ht _ (hG _ hc).1, ok _ (by simp [va_wsS]), ⟨hd.1, hd.2.1⟩, fun sig h => ?_, ok _ (by simp [va_wsS]), ok _ (by simp [va_wsS])⟩
  have h2 := hd.2.2
  rw [h] at h2
  exact (Option.some.inj h2).symm
theorem vx_callSW (X : Stand p l e R s m args below meth c T locs cells slots) (hexec : p.tables.exec = Jvm.exec) {own : String} {index : Nat} {y : MethodName} {bytes : ByteArray} {maxL : Nat} {ret : Option FieldType} {hh : List (Nat × Nat × Nat × Nat)}
    (hown : s.vm.findClass own = some m.cls) (hlink : (Cond.methodLink own index y).before args s = true) (hstat : (Cond.static y).before args s = true) (hinit : (Cond.initialized y.cls).before args s = true)
    (hcode : (Cond.codeWith y bytes maxL ret hh).before args s = true) (hy : y.cls ≠ "java/lang/invoke/MethodHandle" ∧ y.cls ≠ "java/lang/invoke/VarHandle")
    {W9 : Nat} {Pre : Pt → Array Value → Prop} {Post : Pt → Array Value → Option Value → Pt → Prop} (hK : Back l R p e below s args y 3 W9 Pre Post)
    {g : JFrame} (hg : g.method = m) (hsize : g.locals.size = c.maxLocals) {argsL rest : List Value} (hlen : ∀ sig, parseMethodDescriptor y.desc = some sig → argsL.length = sig.parameters.length)
    (hstack : g.stack = argsL.reverse ++ rest) (hW : 2 * g.monitorRoom + (rest.map fun v => v.category).sum ≤ W9) (hdg : decode c.code g.pc = .ok (.invokestatic index, 3))
    (hpre : ∀ vm₁, s.WarmedH vm₁ → Pre ⟨T.setVm vm₁, locs, cells, slots⟩ argsL.toArray) :
    ∃ (v : Option Value) (vm₁ : Vm) (B : Pt), s.WarmedH vm₁ ∧ Stand p l e R s m args below meth c B.U B.locs B.cells B.slots ∧ Post ⟨T.setVm vm₁, locs, cells, slots⟩ argsL.toArray v B ∧
      ∀ target, Steps p.tables e below (B.U.setTop { g with pc := g.pc + 3, stack := v.toList ++ rest }) target → Steps p.tables e below (T.setTop g) target := by
  obtain ⟨mk, methM, cM, hnamed, hmethM, -, -, -, -, -, -, hsigM⟩ := Cond.codeWith_spec hcode
  have hstatic : methM.isStatic = true := Cond.static_spec hnamed hmethM hstat
  obtain ⟨kP, hkP, -⟩ := className_of_methodNamed hnamed
  have hinitP : kP.init = .initialized := Cond.initialized_spec (findClass_of_methodNamed hnamed) hkP hinit
  obtain ⟨vm₁, X₁, hstep₁⟩ := X.invokestatic hexec hown hlink hnamed hmethM hstatic hkP hinitP hy (g := g) hg (argsL := argsL) (rest := rest) (hlen _ hsigM) hstack hdg
  obtain ⟨v, B, X', hpost, hsteps⟩ := hK m meth c ⟨T.setVm vm₁, locs, cells, slots⟩ { g with stack := rest } (.invokestatic index) mk argsL.toArray X₁ hg hsize hdg hW (X₁.named hnamed) (hpre vm₁ X₁.warmed)
  exact ⟨v, vm₁, B, X₁.warmed, X', hpost, fun target h => hstep₁ _ fun acts => by rw [doInvoke_state]; exact hsteps.trans h⟩
theorem vx_runSW {y : MethodName} {bytes cc : ByteArray} {maxL nL mc ms n index : Nat} {ret : Option FieldType} {hh : List (Nat × Nat × Nat × Nat)} {ws : List Cond} {rm : Room} {Pc : Array Value → State → Prop} {Qc : Array Value → State → Outcome → State → Prop} {free : Addr → Prop} {Ts : List Cond} {own : String} {As rest : List Value} {g : JFrame}
    (S : CallFix p m c cc nL s args Ts own) (hM : Met l y ws rm Pc Qc mc ms free) (cw : vx_CSW R s args own index y bytes maxL ret hh ws rm mc ms n) (hp : PreS s H Pc As)
    (hg : g.method = m) (hn : As.length = n) (hsize : g.locals.size = nL) (hstack : g.stack = As.reverse ++ rest) (hW : 2 * g.monitorRoom + (rest.map fun v => v.category).sum ≤ 8) (hdg : decode cc g.pc = .ok (.invokestatic index, 3)) (hf : cells + mc ≤ R.cells ∧ slots + ms ≤ R.slots) :
    va_Run p l e R s m args below meth c H locs cells slots mc ms g rest (Qc As.toArray) (free) := by
  obtain ⟨⟨hrc, hrs, hfr, hlo, hws, hcw⟩, hcode, hini, hy, hlen, hl, hstt⟩ := cw
  have hK : Back l R p e below s args y 3 8 (PreOf R mc ms Pc) (PostOf Qc mc ms free) := va_backW (hh := hh) (bytes := bytes) (maxL := maxL) (ret := ret) hM hp.1 hrc hrs hfr hlo hws hcw (fun a' U hW => word_at hW (Or.inl (by first | rfl | simp [Cond.onTables, Cond.keeps, Cond.steady])) hini)
  obtain ⟨hx, hb, hml, ho, -⟩ := S
  intro T hT X
  obtain ⟨v, vm₁, ⟨U', l2, c2, s2⟩, hW₁, X', ⟨g', mk, t, L, e1, e2, hq, h1, hL, h2, h3⟩, st⟩ := vx_callSW X hx (hh := hh) (bytes := bytes) (maxL := maxL) (ret := ret) ho hl hstt hini hcode hy hK hg (hsize.trans hml.symm) (argsL := As) (rest := rest) (fun sig h => hn.trans (hlen sig h)) hstack hW (by rw [hb]; exact hdg)
    (fun vm₁ hW₁ => ⟨hf.1, hf.2, hp.2 (T.setVm vm₁) hT hW₁⟩)
  dsimp only [Pt.U, Pt.locs, Pt.cells, Pt.slots] at X' e1 e2 h1 h2 h3 st
  subst h1; subst h2; subst h3
  exact ⟨v, (T.setVm vm₁).calling g' mk As.toArray, t, U', L, hT, X', hL, e1, e2, hq, st⟩
/-- not caught here, past rows that name other classes: it goes on to the caller -/
theorem vx_outP {p : Program} {l : Launch} {e : Env} {R : Room} {s : State} {m : MethodId} {args : Array Value} {below : List Frame} {meth : Method} {c : Code} {H : Heap} {locs : List Loc} {cells slots : Nat} {free : Addr → Prop} {ls : Array Slot} {rest : List Value} {Qc : Array Value → State → Outcome → State → Prop} {XC : String → State → State → Prop}
    {pc : Nat} {own E : String} {ce : Cell} {q : Addr} {mc ms : Nat} (hown : s.vm.findClass own = some m.cls) (hlocks : meth.locks = false)
    (hpass : ∀ z ∈ c.exceptionTable.toList, covers z pc = false ∨ (z.catchType ≠ 0 ∧ ∃ nm : String, (Cond.classLink own z.catchType nm).before args s = true ∧ va_Nc E nm s)) (hcell : H[q]? = some ce) (hv : ce.vm = .none) (hcl : s.vm.findClass E = some ce.cls)
    (hx : ∀ t : State, t.heap = H → s.vm.Alike t.vm → XC E s t) (hf : ∀ z ∈ locs, free z.base) (hc : cells ≤ mc) (hs : slots ≤ ms) :
    vx_W p l e R s m args below meth c H locs cells slots (vx_MQ below Qc XC args s mc ms free) (F0 m pc ls rest) q := by
  intro T hT X
  have hpl : e.platform.magicAccessors = ({} : Platform).magicAccessors := by rw [X.admits.platform]
  obtain ⟨vm', hW', X', st⟩ := X.outThrough hlocks q (g := F0 m pc ls rest) rfl rfl rfl (cell := ce) (by rw [hT]; exact hcell) (by rw [hv]; rfl)
    (by obtain ⟨k9, h9, -⟩ := Vm.findClass_spec hcl; exact ⟨k9, h9⟩) (fun z hz => by
      rcases hpass z hz with h | ⟨hz0, nm, hl1, hn1⟩
      · exact Or.inl h
      · obtain ⟨c6, hc6, hcl6⟩ := Cond.classLink_spec hown hl1 e.platform hpl
        obtain ⟨a8, b8, h1, h2, h3⟩ := hn1
        cases Option.some.inj (h1.symm.trans hcl)
        cases Option.some.inj (h2.symm.trans hc6)
        exact Or.inr ⟨hz0, _, hcl6, h3⟩)
  obtain ⟨g₀, hfr⟩ := X'.frames_eq
  have hcell9 : ((T.setVm vm').setFrames (.throwing q :: below)).heap[q]? = some ce := by
    show T.heap[q]? = some ce
    rw [hT]; exact hcell
  have hend : Ended ((T.setVm vm').setFrames (.throwing q :: below)) below (.threw q) := State.frames_setFrames _ (State.cur_lt_of_frames hfr)
  refine ⟨(T.setVm vm').setFrames (.throwing q :: below), ?_, .threw q, X'.here.running, hend, Or.inr ⟨q, rfl, E, ce, locs, hx _ hT (X'.ends _).1.alike, hcell9, hv, hcl, (X'.ends _).1, (X'.ends _).2.mono hc hs, hf⟩⟩
  rw [X.pushThrowing_eq]
  exact st
/-- a thing of a world lies in the heap -/
theorem vx_lt {D : va_G} {cl : List vw_C} {ws : va_W} {H1 : Heap} (h : va_P D cl ws H1) {k : Nat} {q : Nat × va_E} (hk : ws[k]? = some q) : q.1 < H1.size := (h k q hk).lt
end VXS
/-! ===== END ===== -/
/-! ===== BEGIN methods with a table of their own: called by a name, returning or throwing ===== -/
section VXH
/-! vx_backW, vx_callVX, vx_callSX, vx_callVW, vx_runVW, vx_runVX, vx_runSX, vx_ofWH follow the same proofs as their sisters above (Free/Laws.lean, Shelf42/LK1.lean); vx_outP calls Shelf42/NT130.lean (outThrough). -/
section
variable {l : Launch} {R : Room} {p : Program} {e : Env} {below : List Frame} {s : State} {sargs : Array Value} {y : MethodName} {len W9 : Nat}
theorem vx_backW {ws : List Cond} {rm : Room} {Pc : Array Value → State → Prop} {Qc : Array Value → State → Outcome → State → Prop} {XC : String → State → State → Prop} {mc ms : Nat} {free : Addr → Prop} {bytes : ByteArray} {maxL : Nat} {ret : Option FieldType} {hh : List (Nat × Nat × Nat × Nat)}
    (hM : vx_Met l y ws rm Pc Qc XC mc ms free) (hblind : FrameBlind Pc) (hrc : rm.cells = mc) (hrs : rm.slots = ms)
    (hframes : rm.frames + 1 ≤ R.frames) (hlocals : W9 + (maxL + 11) + rm.locals ≤ R.locals)
    (hws : ∀ w ∈ ws, ∀ a' U, s.WarmedH U.vm → w.before a' U = true) (hcode : Cond.codeWith y bytes maxL ret hh ∈ ws) (hinit : ∀ a' U, s.WarmedH U.vm → (Cond.initialized y.cls).before a' U = true) :
    vx_Back l R p e below s sargs y len W9 (PreOf R mc ms Pc) (PostOf Qc mc ms free) (vx_Post XC mc ms free) := by
  intro m meth c A g ig mk a X hg hsize hdg hW hn hp
  have h1 : (headSpec ws rm).pre.before a A.U = true := atoms_intro fun w hw => hws w hw _ _ X.warmed
  have h2 : (Cond.codeWith y bytes maxL ret hh).before a A.U = true := hws _ hcode _ _ X.warmed
  have h3 : (Cond.initialized y.cls).before a A.U = true := hinit _ _ X.warmed
  have h4 : A.cells + (headSpec ws rm).room.cells ≤ R.cells := by rw [show (headSpec ws rm).room.cells = mc from hrc]; exact hp.1
  have h5 : A.slots + (headSpec ws rm).room.slots ≤ R.slots := by rw [show (headSpec ws rm).room.slots = ms from hrs]; exact hp.2.1
  have hPc : Pc a (A.U.calling g mk a) := hblind _ _ _ _ hp.2.2
  obtain ⟨U, Ls, c0, s0⟩ := A
  dsimp only [Pt.U, Pt.locs, Pt.cells, Pt.slots] at h1 h2 h3 h4 h5 X hn hPc ⊢
  obtain ⟨m9, methY, cY, hn9, hmY, hcY, -, hlY, -⟩ := Cond.codeWith_spec h2
  cases Option.some.inj (hn9.symm.trans hn)
  obtain ⟨kY, hkY, -⟩ := className_of_methodNamed hn
  have hinitY : kY.init = .initialized := Cond.initialized_spec (findClass_of_methodNamed hn) hkY h3
  have h : At U g.method c below := by rw [hg]; exact X.here
  have hlocals9 : W9 + (maxL + 11) + (headSpec ws rm).room.locals ≤ R.locals := hlocals
  have happ : (headSpec ws rm).appliesLoose y e.platform (U.calling g mk a) = true :=
    Spec.appliesLoose_calling (g := g) h hdg hn hkY hinitY
      (X.room_calling (g := g) (R' := (headSpec ws rm).room) hsize hmY hcY hframes (by rw [hlY]; omega) h4 h5) h1
  obtain ⟨mid, hmid⟩ := h.above
  have hfr : (U.setTop g).frames = (.java g :: mid) ++ below := by rw [State.frames_setTop' g h.top, hmid]; rfl
  obtain ⟨o, s₂, hsteps, -, hend, hq⟩ := Steps.callFree hM p X.admits X.cas X.clock (acts := []) hfr happ hPc trivial
  have hq' : vx_Q Qc XC mc ms free a (U.calling g mk a) o s₂ := hq
  rw [State.frames_setTop' g h.top] at hend
  obtain ⟨g₀, hg0⟩ := Option.isSome_iff_exists.mp h.top
  obtain ⟨r, hr⟩ := State.topJava?_eq_some.mp hg0
  have hr' : (({ U with heap := s₂.heap, slotsUsed := s₂.slotsUsed } : State).setVm s₂.vm).frames = .java g₀ :: r := hr
  rcases hq' with ⟨hqc, L, hfe, hL⟩ | ⟨q, rfl, E, ce, L, hx, hce, hcv, hcl, hW₂, hsm, hL⟩
  · obtain ⟨⟨v, rfl⟩, hW₂, e2, q2, q3, q4, q5, q6⟩ := id hfe
    have e3 : s₂ = ({ (U.calling g mk a).setFrames s₂.frames with heap := s₂.heap, slotsUsed := s₂.slotsUsed } : State).setVm s₂.vm := by
      have : s₂ = ({ s₂ with vm := (U.calling g mk a).vm } : State).setVm s₂.vm := rfl
      rw [e2] at this
      exact this
    obtain ⟨c₂, i₂, len₂, hc₂, hd₂, hf₂⟩ := hend
    have hW' : U.WarmedH s₂.vm := hW₂
    have hcc : c₂ = c := by
      have h1 : s₂.code? g.method = U.code? g.method := by
        rw [State.code?_eq, State.code?_eq, hW'.alike.method?]
      exact Option.some.inj (hc₂.symm.trans (h1.trans h.code))
    subst hcc
    have hlen : len₂ = len := by rw [hdg] at hd₂; cases hd₂; rfl
    subst hlen
    have hs₂ : s₂ = (({ U with heap := s₂.heap, slotsUsed := s₂.slotsUsed } : State).setVm s₂.vm).setTop { g with pc := g.pc + len₂, stack := v.toList ++ g.stack } := by
      refine e3.trans ?_
      rw [hf₂, State.calling_eq h.top, State.setFrames_setFrames, State.setTop_of_frames _ hr', hr]
      rfl
    have hsame : U.sameButNew ({ U with heap := s₂.heap, slotsUsed := s₂.slotsUsed } : State) L mc ms := by
      refine ⟨?_, q2, q3, q4, q5, q6⟩
      obtain ⟨t, ht, -⟩ := State.frames_cons hr
      show ({ U with heap := s₂.heap, slotsUsed := s₂.slotsUsed } : State) = { U.setFrames U.frames with heap := s₂.heap, slotsUsed := s₂.slotsUsed }
      rw [State.setFrames_self ht]
    subst hg
    refine Or.inl ⟨v, ⟨(({ U with heap := s₂.heap, slotsUsed := s₂.slotsUsed } : State).setVm s₂.vm), Ls ++ L, c0 + mc, s0 + ms⟩,
      ⟨X.admits, X.cas, X.clock, X.frames, X.room, X.hears, X.method, X.code, (X.here.setHeapUsed s₂.heap s₂.slotsUsed).setVm hW'.alike, X.tail, State.WarmedH.trans X.warmed hW', X.limits, X.bytes, X.same.trans (hsame.setVm s.vm)⟩,
      ⟨g, mk, s₂, L, rfl, rfl, hqc, rfl, hL, rfl, rfl⟩, ?_⟩
    show Steps p.tables e below _ ((({ U with heap := s₂.heap, slotsUsed := s₂.slotsUsed } : State).setVm s₂.vm).setTop { g with pc := g.pc + len₂, stack := v.toList ++ g.stack })
    rw [← hs₂]
    exact hsteps
  · obtain ⟨e2, q2, q3, q4, q5, q6⟩ := id hsm
    have e3 : s₂ = ({ (U.calling g mk a).setFrames s₂.frames with heap := s₂.heap, slotsUsed := s₂.slotsUsed } : State).setVm s₂.vm := by
      have : s₂ = ({ s₂ with vm := (U.calling g mk a).vm } : State).setVm s₂.vm := rfl
      rw [e2] at this
      exact this
    have hf₂ : s₂.frames = .throwing q :: .java g :: U.frames.tail := hend
    have hW' : U.WarmedH s₂.vm := hW₂
    have hs₂ : s₂ = ((({ U with heap := s₂.heap, slotsUsed := s₂.slotsUsed } : State).setVm s₂.vm).setTop g).pushFrame (.throwing q) := by
      refine e3.trans ?_
      rw [hf₂, State.calling_eq h.top, State.setFrames_setFrames, State.pushFrame, State.frames_setTop _ hr', State.setTop_of_frames _ hr', State.setFrames_setFrames, hr]
      rfl
    have hsame : U.sameButNew ({ U with heap := s₂.heap, slotsUsed := s₂.slotsUsed } : State) L mc ms := by
      refine ⟨?_, q2, q3, q4, q5, q6⟩
      obtain ⟨t, ht, -⟩ := State.frames_cons hr
      show ({ U with heap := s₂.heap, slotsUsed := s₂.slotsUsed } : State) = { U.setFrames U.frames with heap := s₂.heap, slotsUsed := s₂.slotsUsed }
      rw [State.setFrames_self ht]
    subst hg
    refine Or.inr ⟨q, ⟨(({ U with heap := s₂.heap, slotsUsed := s₂.slotsUsed } : State).setVm s₂.vm), Ls ++ L, c0 + mc, s0 + ms⟩,
      ⟨X.admits, X.cas, X.clock, X.frames, X.room, X.hears, X.method, X.code, (X.here.setHeapUsed s₂.heap s₂.slotsUsed).setVm hW'.alike, X.tail, State.WarmedH.trans X.warmed hW', X.limits, X.bytes, X.same.trans (hsame.setVm s.vm)⟩,
      ⟨g, mk, s₂, L, E, ce, rfl, rfl, hx, hce, hcv, hcl, rfl, hL, rfl, rfl⟩, ?_⟩
    show Steps p.tables e below _ (((({ U with heap := s₂.heap, slotsUsed := s₂.slotsUsed } : State).setVm s₂.vm).setTop g).pushFrame (.throwing q))
    rw [← hs₂]
    exact hsteps
end
variable {p : Program} {l : Launch} {e : Env} {R : Room} {s : State} {m : MethodId} {args : Array Value} {below : List Frame} {meth : Method} {c : Code} {T : State} {H : Heap} {locs : List Loc} {cells slots : Nat}
theorem vx_callVX (X : Stand p l e R s m args below meth c T locs cells slots) (hexec : p.tables.exec = Jvm.exec) {own C : String} {index : Nat} {y : MethodName} {bytes : ByteArray} {maxL : Nat} {ret : Option FieldType} {hh : List (Nat × Nat × Nat × Nat)}
    (hown : s.vm.findClass own = some m.cls) (hlink : (Cond.methodLink own index y).before args s = true) (hinst : (Cond.instanceMethod y).before args s = true) (hsel : (Cond.selects C y y).before args s = true)
    (hcode : (Cond.codeWith y bytes maxL ret hh).before args s = true) (hy : y.cls ≠ "java/lang/invoke/MethodHandle" ∧ y.cls ≠ "java/lang/invoke/VarHandle")
    {W9 : Nat} {Pre : Pt → Array Value → Prop} {Post : Pt → Array Value → Option Value → Pt → Prop} {PostX : Pt → Array Value → Addr → Pt → Prop} (hK : vx_Back l R p e below s args y 3 W9 Pre Post PostX)
    {b : Addr} {cellB : Cell} (hcell : T.heap[b]? = some cellB) (hobj : cellB.vm.isStatics = false) (hcls : s.vm.findClass C = some cellB.cls)
    {g : JFrame} (hg : g.method = m) (hsize : g.locals.size = c.maxLocals) {argsL rest : List Value} (hlen : ∀ sig, parseMethodDescriptor y.desc = some sig → argsL.length = sig.parameters.length)
    (hstack : g.stack = argsL.reverse ++ .ref b :: rest) (hW : 2 * g.monitorRoom + (rest.map fun v => v.category).sum ≤ W9) (hdg : decode c.code g.pc = .ok (.invokevirtual index, 3))
    (hpre : ∀ vm₁, s.WarmedH vm₁ → Pre ⟨T.setVm vm₁, locs, cells, slots⟩ (Value.ref b :: argsL).toArray) :
    (∃ (v : Option Value) (vm₁ : Vm) (B : Pt), s.WarmedH vm₁ ∧ Stand p l e R s m args below meth c B.U B.locs B.cells B.slots ∧ Post ⟨T.setVm vm₁, locs, cells, slots⟩ (Value.ref b :: argsL).toArray v B ∧
      ∀ target, Steps p.tables e below (B.U.setTop { g with pc := g.pc + 3, stack := v.toList ++ rest }) target → Steps p.tables e below (T.setTop g) target) ∨
    (∃ (q : Addr) (vm₁ : Vm) (B : Pt), s.WarmedH vm₁ ∧ Stand p l e R s m args below meth c B.U B.locs B.cells B.slots ∧ PostX ⟨T.setVm vm₁, locs, cells, slots⟩ (Value.ref b :: argsL).toArray q B ∧
      Steps p.tables e below (T.setTop g) ((B.U.setTop { g with stack := rest }).pushFrame (.throwing q))) := by
  obtain ⟨mk, methM, hnamed, hmethM, hstM, habM⟩ := Cond.instanceMethod_spec hinst
  obtain ⟨m8, methM', cM, hn8, hmethM', -, -, -, -, -, -, hsigM⟩ := Cond.codeWith_spec hcode
  cases Option.some.inj (hn8.symm.trans hnamed)
  cases hmethM.symm.trans hmethM'
  obtain ⟨c2, r2, m2, q1, q2, q3, q4, kP, hkP, hkPi⟩ := Cond.selects_spec hsel
  cases hcls.symm.trans q1
  cases (State.methodFound?_of_named hnamed hy).symm.trans q2
  cases hnamed.symm.trans q3
  have hselP : selectMethod e.platform s.vm cellB.cls mk = .method mk := by rw [Launch.admits_selectMethod X.admits]; exact q4
  obtain ⟨vm₁, X₁, hstep₁⟩ := X.invokevirtual hexec hown hlink hnamed hmethM hstM hkP hkPi hy (a := b) (cell := cellB) hcell
    (fun z h => by rw [h] at hobj; cases hobj) hselP hmethM habM hkP hkPi (g := g) hg (argsL := argsL) (rest := rest) (hlen _ hsigM) hstack hdg
  rcases hK m meth c ⟨T.setVm vm₁, locs, cells, slots⟩ { g with stack := rest } (.invokevirtual index) mk (Value.ref b :: argsL).toArray X₁ hg hsize hdg hW (X₁.named hnamed) (hpre vm₁ X₁.warmed) with ⟨v, B, X', hpost, hsteps⟩ | ⟨q, B, X', hpost, hsteps⟩
  · exact Or.inl ⟨v, vm₁, B, X₁.warmed, X', hpost, fun target h => hstep₁ _ fun acts => by rw [doInvoke_state]; exact hsteps.trans h⟩
  · exact Or.inr ⟨q, vm₁, B, X₁.warmed, X', hpost, hstep₁ _ fun acts => by rw [doInvoke_state]; exact hsteps⟩
theorem vx_callSX (X : Stand p l e R s m args below meth c T locs cells slots) (hexec : p.tables.exec = Jvm.exec) {own : String} {index : Nat} {y : MethodName} {bytes : ByteArray} {maxL : Nat} {ret : Option FieldType} {hh : List (Nat × Nat × Nat × Nat)}
    (hown : s.vm.findClass own = some m.cls) (hlink : (Cond.methodLink own index y).before args s = true) (hstat : (Cond.static y).before args s = true) (hinit : (Cond.initialized y.cls).before args s = true)
    (hcode : (Cond.codeWith y bytes maxL ret hh).before args s = true) (hy : y.cls ≠ "java/lang/invoke/MethodHandle" ∧ y.cls ≠ "java/lang/invoke/VarHandle")
    {W9 : Nat} {Pre : Pt → Array Value → Prop} {Post : Pt → Array Value → Option Value → Pt → Prop} {PostX : Pt → Array Value → Addr → Pt → Prop} (hK : vx_Back l R p e below s args y 3 W9 Pre Post PostX)
    {g : JFrame} (hg : g.method = m) (hsize : g.locals.size = c.maxLocals) {argsL rest : List Value} (hlen : ∀ sig, parseMethodDescriptor y.desc = some sig → argsL.length = sig.parameters.length)
    (hstack : g.stack = argsL.reverse ++ rest) (hW : 2 * g.monitorRoom + (rest.map fun v => v.category).sum ≤ W9) (hdg : decode c.code g.pc = .ok (.invokestatic index, 3))
    (hpre : ∀ vm₁, s.WarmedH vm₁ → Pre ⟨T.setVm vm₁, locs, cells, slots⟩ argsL.toArray) :
    (∃ (v : Option Value) (vm₁ : Vm) (B : Pt), s.WarmedH vm₁ ∧ Stand p l e R s m args below meth c B.U B.locs B.cells B.slots ∧ Post ⟨T.setVm vm₁, locs, cells, slots⟩ argsL.toArray v B ∧
      ∀ target, Steps p.tables e below (B.U.setTop { g with pc := g.pc + 3, stack := v.toList ++ rest }) target → Steps p.tables e below (T.setTop g) target) ∨
    (∃ (q : Addr) (vm₁ : Vm) (B : Pt), s.WarmedH vm₁ ∧ Stand p l e R s m args below meth c B.U B.locs B.cells B.slots ∧ PostX ⟨T.setVm vm₁, locs, cells, slots⟩ argsL.toArray q B ∧
      Steps p.tables e below (T.setTop g) ((B.U.setTop { g with stack := rest }).pushFrame (.throwing q))) := by
  obtain ⟨mk, methM, cM, hnamed, hmethM, -, -, -, -, -, -, hsigM⟩ := Cond.codeWith_spec hcode
  have hstatic : methM.isStatic = true := Cond.static_spec hnamed hmethM hstat
  obtain ⟨kP, hkP, -⟩ := className_of_methodNamed hnamed
  have hinitP : kP.init = .initialized := Cond.initialized_spec (findClass_of_methodNamed hnamed) hkP hinit
  obtain ⟨vm₁, X₁, hstep₁⟩ := X.invokestatic hexec hown hlink hnamed hmethM hstatic hkP hinitP hy (g := g) hg (argsL := argsL) (rest := rest) (hlen _ hsigM) hstack hdg
  rcases hK m meth c ⟨T.setVm vm₁, locs, cells, slots⟩ { g with stack := rest } (.invokestatic index) mk argsL.toArray X₁ hg hsize hdg hW (X₁.named hnamed) (hpre vm₁ X₁.warmed) with ⟨v, B, X', hpost, hsteps⟩ | ⟨q, B, X', hpost, hsteps⟩
  · exact Or.inl ⟨v, vm₁, B, X₁.warmed, X', hpost, fun target h => hstep₁ _ fun acts => by rw [doInvoke_state]; exact hsteps.trans h⟩
  · exact Or.inr ⟨q, vm₁, B, X₁.warmed, X', hpost, hstep₁ _ fun acts => by rw [doInvoke_state]; exact hsteps⟩
theorem vx_callVW (X : Stand p l e R s m args below meth c T locs cells slots) (hexec : p.tables.exec = Jvm.exec) {own C : String} {index : Nat} {y : MethodName} {bytes : ByteArray} {maxL : Nat} {ret : Option FieldType} {hh : List (Nat × Nat × Nat × Nat)}
    (hown : s.vm.findClass own = some m.cls) (hlink : (Cond.methodLink own index y).before args s = true) (hinst : (Cond.instanceMethod y).before args s = true) (hsel : (Cond.selects C y y).before args s = true)
    (hcode : (Cond.codeWith y bytes maxL ret hh).before args s = true) (hy : y.cls ≠ "java/lang/invoke/MethodHandle" ∧ y.cls ≠ "java/lang/invoke/VarHandle")
    {W9 : Nat} {Pre : Pt → Array Value → Prop} {Post : Pt → Array Value → Option Value → Pt → Prop} (hK : Back l R p e below s args y 3 W9 Pre Post)
    {b : Addr} {cellB : Cell} (hcell : T.heap[b]? = some cellB) (hobj : cellB.vm.isStatics = false) (hcls : s.vm.findClass C = some cellB.cls)
    {g : JFrame} (hg : g.method = m) (hsize : g.locals.size = c.maxLocals) {argsL rest : List Value} (hlen : ∀ sig, parseMethodDescriptor y.desc = some sig → argsL.length = sig.parameters.length)
    (hstack : g.stack = argsL.reverse ++ .ref b :: rest) (hW : 2 * g.monitorRoom + (rest.map fun v => v.category).sum ≤ W9) (hdg : decode c.code g.pc = .ok (.invokevirtual index, 3))
    (hpre : ∀ vm₁, s.WarmedH vm₁ → Pre ⟨T.setVm vm₁, locs, cells, slots⟩ (Value.ref b :: argsL).toArray) :
    ∃ (v : Option Value) (vm₁ : Vm) (B : Pt), s.WarmedH vm₁ ∧ Stand p l e R s m args below meth c B.U B.locs B.cells B.slots ∧ Post ⟨T.setVm vm₁, locs, cells, slots⟩ (Value.ref b :: argsL).toArray v B ∧
      ∀ target, Steps p.tables e below (B.U.setTop { g with pc := g.pc + 3, stack := v.toList ++ rest }) target → Steps p.tables e below (T.setTop g) target := by
  obtain ⟨mk, methM, hnamed, hmethM, hstM, habM⟩ := Cond.instanceMethod_spec hinst
  obtain ⟨m8, methM', cM, hn8, hmethM', -, -, -, -, -, -, hsigM⟩ := Cond.codeWith_spec hcode
  cases Option.some.inj (hn8.symm.trans hnamed)
  cases hmethM.symm.trans hmethM'
  obtain ⟨c2, r2, m2, q1, q2, q3, q4, kP, hkP, hkPi⟩ := Cond.selects_spec hsel
  cases hcls.symm.trans q1
  cases (State.methodFound?_of_named hnamed hy).symm.trans q2
  cases hnamed.symm.trans q3
  have hselP : selectMethod e.platform s.vm cellB.cls mk = .method mk := by rw [Launch.admits_selectMethod X.admits]; exact q4
  obtain ⟨vm₁, X₁, hstep₁⟩ := X.invokevirtual hexec hown hlink hnamed hmethM hstM hkP hkPi hy (a := b) (cell := cellB) hcell
    (fun z h => by rw [h] at hobj; cases hobj) hselP hmethM habM hkP hkPi (g := g) hg (argsL := argsL) (rest := rest) (hlen _ hsigM) hstack hdg
  obtain ⟨v, B, X', hpost, hsteps⟩ := hK m meth c ⟨T.setVm vm₁, locs, cells, slots⟩ { g with stack := rest } (.invokevirtual index) mk (Value.ref b :: argsL).toArray X₁ hg hsize hdg hW (X₁.named hnamed) (hpre vm₁ X₁.warmed)
  exact ⟨v, vm₁, B, X₁.warmed, X', hpost, fun target h => hstep₁ _ fun acts => by rw [doInvoke_state]; exact hsteps.trans h⟩
abbrev vx_CVW (R : Room) (s : State) (args : Array Value) (own C : String) (index : Nat) (y : MethodName) (bytes : ByteArray) (maxL : Nat) (ret : Option FieldType) (hh : List (Nat × Nat × Nat × Nat)) (ws : List Cond) (rm : Room) (mc ms n : Nat) : Prop :=
  (rm.cells = mc ∧ rm.slots = ms ∧ rm.frames + 1 ≤ R.frames ∧ 8 + (maxL + 11) + rm.locals ≤ R.locals ∧ (∀ w ∈ ws, ∀ (a' : Array Value) (U : State), s.WarmedH U.vm → w.before a' U = true) ∧ Cond.codeWith y bytes maxL ret hh ∈ ws) ∧
  (Cond.codeWith y bytes maxL ret hh).before args s = true ∧ (Cond.initialized y.cls).before args s = true ∧ (y.cls ≠ "java/lang/invoke/MethodHandle" ∧ y.cls ≠ "java/lang/invoke/VarHandle") ∧
  (∀ sig, parseMethodDescriptor y.desc = some sig → n = sig.parameters.length) ∧ (Cond.methodLink own index y).before args s = true ∧ (Cond.instanceMethod y).before args s = true ∧ (Cond.selects C y y).before args s = true
theorem vx_cwVW {own C : String} {index maxL mc ms : Nat} {y : MethodName} {bytes : ByteArray} {ret : Option FieldType} {hh : List (Nat × Nat × Nat × Nat)} {Ts ws ws' : List Cond} {rm : Room} (n : Nat) (ht : ∀ w ∈ Ts, w.before args s = true) (hT : GoodIn Ts (wsV own index C y ws)) (hw : ws = Cond.codeWith y bytes maxL ret hh :: ws') (hrc : rm.cells = mc) (hrs : rm.slots = ms)
    (hd : y.cls = C ∧ y.cls ≠ "java/lang/invoke/MethodHandle" ∧ y.cls ≠ "java/lang/invoke/VarHandle" ∧ (parseMethodDescriptor y.desc).map (fun d => d.parameters.length) = some n) (hR : rm.frames + 1 ≤ R.frames ∧ 8 + (maxL + 11) + rm.locals ≤ R.locals) :
    vx_CVW R s args own C index y bytes maxL ret hh ws rm mc ms n := by
  obtain ⟨hC, hd⟩ := hd
  subst hC
  have ok : ∀ w ∈ wsV own index y.cls y ws, w.before args s = true := fun w h => ht w (hT w h).1
  have hG : GoodIn Ts ws := fun w h => hT w (by unfold wsV; exact List.mem_append_right _ h)
  have hc : Cond.codeWith y bytes maxL ret hh ∈ ws := by rw [hw]; exact List.mem_cons_self
  refine ⟨⟨hrc, hrs, hR.1, hR.2, pay_in ht hG, hc⟩, ht _ (hG _ hc).1, ok _ (by simp [wsV]), ⟨hd.1, hd.2.1⟩, fun sig h => ?_, ok _ (by simp [wsV]), ok _ (by simp [wsV]), ok _ (by simp [wsV])⟩
  have h2 := hd.2.2
  rw [h] at h2
  exact (Option.some.inj h2).symm
theorem vx_runVW {y : MethodName} {bytes cc : ByteArray} {maxL nL mc ms n index : Nat} {ret : Option FieldType} {hh : List (Nat × Nat × Nat × Nat)} {ws : List Cond} {rm : Room} {Pc : Array Value → State → Prop} {Qc : Array Value → State → Outcome → State → Prop} {free : Addr → Prop} {Ts : List Cond} {own C : String} {b : Addr} {As rest : List Value} {g : JFrame}
    (S : CallFix p m c cc nL s args Ts own) (hM : Met l y ws rm Pc Qc mc ms free) (cw : vx_CVW R s args own C index y bytes maxL ret hh ws rm mc ms n) (hp : PreV s H C b Pc As)
    (hg : g.method = m) (hn : As.length = n) (hsize : g.locals.size = nL) (hstack : g.stack = As.reverse ++ .ref b :: rest) (hW : 2 * g.monitorRoom + (rest.map fun v => v.category).sum ≤ 8) (hdg : decode cc g.pc = .ok (.invokevirtual index, 3)) (hf : cells + mc ≤ R.cells ∧ slots + ms ≤ R.slots) :
    va_Run p l e R s m args below meth c H locs cells slots mc ms g rest (Qc (Value.ref b :: As).toArray) free := by
  obtain ⟨⟨hrc, hrs, hfr, hlo, hws, hcw⟩, hcode, hini, hy, hlen, hl, hin, hse⟩ := cw
  have hK : Back l R p e below s args y 3 8 (PreOf R mc ms Pc) (PostOf Qc mc ms free) := va_backW (hh := hh) (bytes := bytes) (maxL := maxL) (ret := ret) hM hp.1 hrc hrs hfr hlo hws hcw (fun a' U hW => word_at hW (Or.inl (by first | rfl | simp [Cond.onTables, Cond.keeps, Cond.steady])) hini)
  obtain ⟨hx, hb, hml, ho, -⟩ := S
  obtain ⟨-, ⟨cellB, hcB, hoB, hclB⟩, hPc⟩ := hp
  intro T hT X
  obtain ⟨v, vm₁, ⟨U', l2, c2, s2⟩, hW₁, X', ⟨g', mk, t, L, e1, e2, hq, h1, hL, h2, h3⟩, st⟩ := vx_callVW X hx (C := C) (hh := hh) (bytes := bytes) (maxL := maxL) (ret := ret) ho hl hin hse hcode hy hK (by rw [hT]; exact hcB) hoB hclB hg (hsize.trans hml.symm) (argsL := As) (rest := rest) (fun sig h => hn.trans (hlen sig h)) hstack hW (by rw [hb]; exact hdg)
    (fun vm₁ hW₁ => ⟨hf.1, hf.2, hPc (T.setVm vm₁) hT hW₁⟩)
  dsimp only [Pt.U, Pt.locs, Pt.cells, Pt.slots] at X' e1 e2 h1 h2 h3 st
  subst h1; subst h2; subst h3
  exact ⟨v, (T.setVm vm₁).calling g' mk (Value.ref b :: As).toArray, t, U', L, hT, X', hL, e1, e2, hq, st⟩
section
variable {y : MethodName} {bytes cc : ByteArray} {maxL nL mc ms n index : Nat} {ret : Option FieldType} {ws : List Cond} {rm : Room} {Pc : Array Value → State → Prop} {Qc : Array Value → State → Outcome → State → Prop} {XC : String → State → State → Prop} {free : Addr → Prop} {Ts : List Cond} {own C : String} {b : Addr} {As rest : List Value} {g : JFrame}
theorem vx_runVX {hh : List (Nat × Nat × Nat × Nat)} (S : CallFix p m c cc nL s args Ts own) (hM : vx_Met l y ws rm Pc Qc XC mc ms free) (cw : vx_CVW R s args own C index y bytes maxL ret hh ws rm mc ms n) (hp : PreV s H C b Pc As)
    (hg : g.method = m) (hn : As.length = n) (hsize : g.locals.size = nL) (hstack : g.stack = As.reverse ++ .ref b :: rest) (hW : 2 * g.monitorRoom + (rest.map fun v => v.category).sum ≤ 8) (hdg : decode cc g.pc = .ok (.invokevirtual index, 3)) (hf : cells + mc ≤ R.cells ∧ slots + ms ≤ R.slots) :
    vx_Run p l e R s m args below meth c H locs cells slots mc ms g rest (Qc (Value.ref b :: As).toArray) XC free := by
  obtain ⟨⟨hrc, hrs, hfr, hlo, hws, hcw⟩, hcode, hini, hy, hlen, hl, hin, hse⟩ := cw
  have hK : vx_Back l R p e below s args y 3 8 (PreOf R mc ms Pc) (PostOf Qc mc ms free) (vx_Post XC mc ms free) := vx_backW (hh := hh) (bytes := bytes) (maxL := maxL) (ret := ret) hM hp.1 hrc hrs hfr hlo hws hcw (fun a' U hW => word_at hW (Or.inl (by first | rfl | simp [Cond.onTables, Cond.keeps, Cond.steady])) hini)
  obtain ⟨hx, hb, hml, ho, -⟩ := S
  obtain ⟨-, ⟨cellB, hcB, hoB, hclB⟩, hPc⟩ := hp
  intro T hT X
  rcases vx_callVX X hx (C := C) (hh := hh) (bytes := bytes) (maxL := maxL) (ret := ret) ho hl hin hse hcode hy hK (by rw [hT]; exact hcB) hoB hclB hg (hsize.trans hml.symm) (argsL := As) (rest := rest) (fun sig h => hn.trans (hlen sig h)) hstack hW (by rw [hb]; exact hdg)
    (fun vm₁ hW₁ => ⟨hf.1, hf.2, hPc (T.setVm vm₁) hT hW₁⟩) with ⟨v, vm₁, ⟨U', l2, c2, s2⟩, hW₁, X', ⟨g', mk, t, L, e1, e2, hq, h1, hL, h2, h3⟩, st⟩ | ⟨q, vm₁, ⟨U', l2, c2, s2⟩, hW₁, X', ⟨g', mk, t, L, E, ce, e1, e2, hq, hce, hcv, hcl, h1, hL, h2, h3⟩, st⟩
  · dsimp only [Pt.U, Pt.locs, Pt.cells, Pt.slots] at X' e1 e2 h1 h2 h3 st
    subst h1; subst h2; subst h3
    exact Or.inl ⟨v, (T.setVm vm₁).calling g' mk (Value.ref b :: As).toArray, t, U', L, hT, X', hL, e1, e2, hq, st⟩
  · dsimp only [Pt.U, Pt.locs, Pt.cells, Pt.slots] at X' e1 e2 h1 h2 h3 st hcl
    subst h1; subst h2; subst h3
    exact Or.inr ⟨q, (T.setVm vm₁).calling g' mk (Value.ref b :: As).toArray, t, U', L, E, ce, hT, X', hL, e1, e2, hq, hce, hcv, vx_cls hW₁ hcl, st⟩
theorem vx_runSX {hh : List (Nat × Nat × Nat × Nat)} (S : CallFix p m c cc nL s args Ts own) (hM : vx_Met l y ws rm Pc Qc XC mc ms free) (cw : vx_CSW R s args own index y bytes maxL ret hh ws rm mc ms n) (hp : PreS s H Pc As)
    (hg : g.method = m) (hn : As.length = n) (hsize : g.locals.size = nL) (hstack : g.stack = As.reverse ++ rest) (hW : 2 * g.monitorRoom + (rest.map fun v => v.category).sum ≤ 8) (hdg : decode cc g.pc = .ok (.invokestatic index, 3)) (hf : cells + mc ≤ R.cells ∧ slots + ms ≤ R.slots) :
    vx_Run p l e R s m args below meth c H locs cells slots mc ms g rest (Qc As.toArray) XC free := by
  obtain ⟨⟨hrc, hrs, hfr, hlo, hws, hcw⟩, hcode, hini, hy, hlen, hl, hstt⟩ := cw
  have hK : vx_Back l R p e below s args y 3 8 (PreOf R mc ms Pc) (PostOf Qc mc ms free) (vx_Post XC mc ms free) := vx_backW (hh := hh) (bytes := bytes) (maxL := maxL) (ret := ret) hM hp.1 hrc hrs hfr hlo hws hcw (fun a' U hW => word_at hW (Or.inl (by first | rfl | simp [Cond.onTables, Cond.keeps, Cond.steady])) hini)
  obtain ⟨hx, hb, hml, ho, -⟩ := S
  intro T hT X
  rcases vx_callSX X hx (hh := hh) (bytes := bytes) (maxL := maxL) (ret := ret) ho hl hstt hini hcode hy hK hg (hsize.trans hml.symm) (argsL := As) (rest := rest) (fun sig h => hn.trans (hlen sig h)) hstack hW (by rw [hb]; exact hdg)
    (fun vm₁ hW₁ => ⟨hf.1, hf.2, hp.2 (T.setVm vm₁) hT hW₁⟩) with ⟨v, vm₁, ⟨U', l2, c2, s2⟩, hW₁, X', ⟨g', mk, t, L, e1, e2, hq, h1, hL, h2, h3⟩, st⟩ | ⟨q, vm₁, ⟨U', l2, c2, s2⟩, hW₁, X', ⟨g', mk, t, L, E, ce, e1, e2, hq, hce, hcv, hcl, h1, hL, h2, h3⟩, st⟩
  · dsimp only [Pt.U, Pt.locs, Pt.cells, Pt.slots] at X' e1 e2 h1 h2 h3 st
    subst h1; subst h2; subst h3
    exact Or.inl ⟨v, (T.setVm vm₁).calling g' mk As.toArray, t, U', L, hT, X', hL, e1, e2, hq, st⟩
  · dsimp only [Pt.U, Pt.locs, Pt.cells, Pt.slots] at X' e1 e2 h1 h2 h3 st hcl
    subst h1; subst h2; subst h3
    exact Or.inr ⟨q, (T.setVm vm₁).calling g' mk As.toArray, t, U', L, E, ce, hT, X', hL, e1, e2, hq, hce, hcv, vx_cls hW₁ hcl, st⟩
end
end VXH
theorem vx_ofWH {l : Launch} {y : MethodName} {ws ws' : List Cond} {rm : Room} {Pc : Array Value → State → Prop} {Qc : Array Value → State → Outcome → State → Prop} {XC : String → State → State → Prop} {mc ms : Nat} {free : Addr → Prop} {cc : ByteArray} {maxL : Nat} {ret : Option FieldType} {hh : List (Nat × Nat × Nat × Nat)}
    (hy : plainName y.cls = true) (hw : ws = Cond.codeWith y cc maxL ret hh :: ws')
    (body : ∀ p e s m args below meth c s₁, BodyLoose p l y (headSpec ws rm) cc maxL ret e s m args below meth c s₁ → c.maxLocals = maxL → Pc args s →
      W p l e (headSpec ws rm).room s m args below meth c s.heap [] 0 0 (vx_MQ below Qc XC args s mc ms free) (entryFrame m args maxL)) : vx_Met l y ws rm Pc Qc XC mc ms free := by
  refine MetFree.of_bodyS (code := cc) (maxLocals := maxL) (ret := ret) hy ?_ ?_
  · intro args s m h hn
    obtain ⟨m9, meth, c, hn9, h1, h2, h3, h4, -, h5, h6, -⟩ := Cond.codeWith_spec (atoms_spec (ws := ws) h _ (by rw [hw]; exact List.mem_cons_self))
    cases hn.symm.trans hn9
    exact ⟨meth, c, h1, h2, h3, h4, h5, h6⟩
  · intro p e s m args below meth c s₁ B hml hP _
    have hh0 : s₁.heap = s.heap := by rw [B.state]; rfl
    obtain ⟨t, a1, o, b1, b2, b3⟩ := body p e s m args below meth c s₁ B hml hP s₁ hh0 (Stand.of_body B)
    exact ⟨t, o, a1, b1, b2, b3⟩
/-! ===== END ===== -/
end
section
/-- the words that every method takes along -/
def gdW (w : Cond) : Bool := goodWord w || k2_isCode w
def bigW : List Cond := k2_sels lw_privs ++ tables_1.filter gdW
theorem bgt {i : Nat} {w : Cond} (h : tables_1[i]? = some w) (h2 : gdW w = true) : w ∈ bigW := List.mem_append_right _ (List.mem_filter.mpr ⟨List.mem_of_getElem? h, h2⟩)
theorem bgs {i : Nat} {q : MethodName × Nat} (h : lw_privs[i]? = some q) : Cond.selects q.1.cls q.1 q.1 ∈ bigW := List.mem_append_left _ (List.mem_map.mpr ⟨q, List.mem_of_getElem? h, rfl⟩)
theorem bgc {c w : Cond} (h : w ∈ bigW) : w ∈ c :: bigW := List.mem_cons_of_mem _ h
theorem bg_in : ∀ w ∈ bigW, w ∈ lw_tbl := fun w h => (List.mem_append.mp h).elim (fun h => List.mem_append_left _ h) (fun h => List.mem_append_right _ (List.mem_filter.mp h).1)
theorem bg_good {w : Cond} (h : w ∈ bigW) : (w.onTables && w.keeps) = true ∨ ∃ ty, w = .arrayClass ty := by
  rcases List.mem_append.mp h with h | h
  · obtain ⟨q, -, rfl⟩ := List.mem_map.mp h
    exact Or.inl rfl
  · have h2 : gdW w = true := (List.mem_filter.mp h).2
    unfold gdW at h2
    rcases Bool.or_eq_true _ _ |>.mp h2 with h3 | h3
    · exact good_of_word h3
    · cases w <;> first | (simp [k2_isCode] at h3; done) | exact Or.inl rfl
theorem bgG {Ts ws : List Cond} (hT : ∀ w ∈ bigW, w ∈ Ts) (h : ∀ w ∈ ws, w ∈ bigW) : GoodIn Ts ws := fun w hw => ⟨hT w (h w hw), bg_good (h w hw)⟩
theorem bg_nil : ∀ w ∈ ([] : List Cond), w ∈ bigW := fun _ h => nomatch h
theorem bg_cons {w : Cond} {l : List Cond} (h : w ∈ bigW) (t : ∀ w ∈ l, w ∈ bigW) : ∀ x ∈ w :: l, x ∈ bigW := List.forall_mem_cons.mpr ⟨h, t⟩
theorem bgV {Ts : List Cond} {own C : String} {idx : Nat} {y : MethodName} {cy : Cond} (hT : ∀ w ∈ bigW, w ∈ Ts) (h1 : Cond.methodLink own idx y ∈ bigW) (h2 : Cond.instanceMethod y ∈ bigW) (h3 : Cond.selects C y y ∈ bigW) (h4 : Cond.initialized C ∈ bigW) (h5 : cy ∈ bigW) : GoodIn Ts (wsV own idx C y (cy :: bigW)) :=
  bgG hT (bg_cons h1 (bg_cons h2 (bg_cons h3 (bg_cons h4 (bg_cons h5 (fun _ h => h))))))
theorem bgS {Ts : List Cond} {own : String} {idx : Nat} {y : MethodName} {cy : Cond} (hT : ∀ w ∈ bigW, w ∈ Ts) (h1 : Cond.methodLink own idx y ∈ bigW) (h2 : Cond.static y ∈ bigW) (h4 : Cond.initialized y.cls ∈ bigW) (h5 : cy ∈ bigW) : GoodIn Ts (va_wsS own idx y (cy :: bigW)) :=
  bgG hT (bg_cons h1 (bg_cons h2 (bg_cons h4 (bg_cons h5 (fun _ h => h)))))
theorem bgI {Ts : List Cond} {cy : Cond} (hT : ∀ w ∈ bigW, w ∈ Ts) (h5 : cy ∈ bigW) : GoodIn Ts (cy :: bigW) := bgG hT (bg_cons h5 (fun _ h => h))
theorem bgT {c : Cond} : ∀ w ∈ bigW, w ∈ c :: bigW := fun _ h => List.mem_cons_of_mem _ h
abbrev RX0 : String := "YardStacks$Boxes"
def TX0 : u_T := fun k => match k with
  | 0 => ("YardStacks$Boxes", "size", "[I", true)
  | 1 => ("YardStacks$Boxes", "weight", "[I", true)
  | 2 => ("YardStacks$Boxes", "leaves", "[I", true)
  | 3 => ("YardStacks$Boxes", "ship", "[I", true)
  | 4 => ("YardStacks$Boxes", "kind", "[I", true)
  | _ => ("YardStacks$Boxes", "told", "I", false)
def tyX0 : Nat → FieldType := fun k => match k with
  | 0 => .array .int
  | 1 => .array .int
  | 2 => .array .int
  | 3 => .array .int
  | 4 => .array .int
  | _ => .int
abbrev wsX00 : List Cond := u_ws RX0 TX0 6
theorem nmX0 : ∀ a, a < 6 → ∀ b, b < 6 → a ≠ b → (TX0 a).2.1 ≠ (TX0 b).2.1 := by decide +kernel
theorem tyX0_ok : ∀ k, k < 6 → parseFieldDescriptor (TX0 k).2.2.1 = some (tyX0 k) := by decide +kernel
abbrev RX1 : String := "YardStacks$Moves"
def TX1 : u_T := fun k => match k with
  | 0 => ("YardStacks$Moves", "boxes", "[I", true)
  | 1 => ("YardStacks$Moves", "origins", "[I", true)
  | 2 => ("YardStacks$Moves", "made", "I", false)
  | _ => ("YardStacks$Moves", "kept", "I", false)
def tyX1 : Nat → FieldType := fun k => match k with
  | 0 => .array .int
  | 1 => .array .int
  | 2 => .int
  | _ => .int
abbrev wsX10 : List Cond := u_ws RX1 TX1 4
theorem nmX1 : ∀ a, a < 4 → ∀ b, b < 4 → a ≠ b → (TX1 a).2.1 ≠ (TX1 b).2.1 := by decide +kernel
theorem tyX1_ok : ∀ k, k < 4 → parseFieldDescriptor (TX1 k).2.2.1 = some (tyX1 k) := by decide +kernel
abbrev RX2 : String := "YardStacks$Stacks"
def TX2 : u_T := fun k => match k with
  | 0 => ("YardStacks$Stacks", "rows", "I", true)
  | 1 => ("YardStacks$Stacks", "tiers", "I", true)
  | 2 => ("YardStacks$Stacks", "cells", "[[I", true)
  | 3 => ("YardStacks$Stacks", "heights", "[I", true)
  | 4 => ("YardStacks$Stacks", "rowOf", "[I", true)
  | _ => ("YardStacks$Stacks", "tierOf", "[I", true)
def tyX2 : Nat → FieldType := fun k => match k with
  | 0 => .int
  | 1 => .int
  | 2 => .array (.array .int)
  | 3 => .array .int
  | 4 => .array .int
  | _ => .array .int
abbrev wsX20 : List Cond := u_ws RX2 TX2 6
theorem nmX2 : ∀ a, a < 6 → ∀ b, b < 6 → a ≠ b → (TX2 a).2.1 ≠ (TX2 b).2.1 := by decide +kernel
theorem tyX2_ok : ∀ k, k < 6 → parseFieldDescriptor (TX2 k).2.2.1 = some (tyX2 k) := by decide +kernel
abbrev RX3 : String := "YardStacks"
def TX3 : u_T := fun k => match k with
  | 0 => ("YardStacks", "bears", "I", true)
  | 1 => ("YardStacks", "boxes", "LYardStacks$Boxes;", true)
  | 2 => ("YardStacks", "stacks", "LYardStacks$Stacks;", true)
  | 3 => ("YardStacks", "history", "LYardStacks$Moves;", true)
  | 4 => ("YardStacks", "grounds", "[I", true)
  | _ => ("YardStacks", "reservedFor", "[I", true)
def tyX3 : Nat → FieldType := fun k => match k with
  | 0 => .int
  | 1 => .object "YardStacks$Boxes"
  | 2 => .object "YardStacks$Stacks"
  | 3 => .object "YardStacks$Moves"
  | 4 => .array .int
  | _ => .array .int
abbrev wsX30 : List Cond := u_ws RX3 TX3 6
theorem nmX3 : ∀ a, a < 6 → ∀ b, b < 6 → a ≠ b → (TX3 a).2.1 ≠ (TX3 b).2.1 := by decide +kernel
theorem tyX3_ok : ∀ k, k < 6 → parseFieldDescriptor (TX3 k).2.2.1 = some (tyX3 k) := by decide +kernel
abbrev RX4 : String := "YardStacksModel"
def TX4 : u_T := fun k => match k with
  | 0 => ("YardStacksModel", "thrown", "I", false)
  | 1 => ("YardStacksModel", "rows", "I", true)
  | 2 => ("YardStacksModel", "tiers", "I", true)
  | 3 => ("YardStacksModel", "bears", "I", true)
  | 4 => ("YardStacksModel", "ground", "[I", true)
  | 5 => ("YardStacksModel", "reserved", "[I", true)
  | 6 => ("YardStacksModel", "boxes", "I", false)
  | 7 => ("YardStacksModel", "size", "[I", true)
  | 8 => ("YardStacksModel", "weight", "[I", true)
  | 9 => ("YardStacksModel", "leaves", "[I", true)
  | 10 => ("YardStacksModel", "ship", "[I", true)
  | 11 => ("YardStacksModel", "kind", "[I", true)
  | 12 => ("YardStacksModel", "rowOf", "[I", true)
  | 13 => ("YardStacksModel", "tierOf", "[I", true)
  | 14 => ("YardStacksModel", "made", "I", false)
  | 15 => ("YardStacksModel", "kept", "I", false)
  | 16 => ("YardStacksModel", "moved", "[I", true)
  | _ => ("YardStacksModel", "was", "[I", true)
def tyX4 : Nat → FieldType := fun k => match k with
  | 0 => .int
  | 1 => .int
  | 2 => .int
  | 3 => .int
  | 4 => .array .int
  | 5 => .array .int
  | 6 => .int
  | 7 => .array .int
  | 8 => .array .int
  | 9 => .array .int
  | 10 => .array .int
  | 11 => .array .int
  | 12 => .array .int
  | 13 => .array .int
  | 14 => .int
  | 15 => .int
  | 16 => .array .int
  | _ => .array .int
abbrev wsX40 : List Cond := u_ws RX4 TX4 18
theorem nmX4 : ∀ a, a < 18 → ∀ b, b < 18 → a ≠ b → (TX4 a).2.1 ≠ (TX4 b).2.1 := by decide +kernel
theorem tyX4_ok : ∀ k, k < 18 → parseFieldDescriptor (TX4 k).2.2.1 = some (tyX4 k) := by decide +kernel
abbrev RJ7 : String := "java/util/Arrays"
abbrev RL : String := "YardStacksLaw"
abbrev cX3_init : ByteArray := prog_1_method_1_code
abbrev yX3_init : MethodName := ⟨"YardStacks", "<init>", "(III)V"⟩
abbrev cX3_held : ByteArray := prog_1_method_15_code
abbrev yX3_held : MethodName := ⟨"YardStacks", "held", "(II)I"⟩
abbrev cX0_init : ByteArray := prog_2_method_1_code
abbrev yX0_init : MethodName := ⟨"YardStacks$Boxes", "<init>", "()V"⟩
abbrev cX2_init : ByteArray := prog_4_method_1_code
abbrev yX2_init : MethodName := ⟨"YardStacks$Stacks", "<init>", "(II)V"⟩
abbrev cJ7_fill : ByteArray := prog_15_method_103_code
abbrev yJ7_fill : MethodName := ⟨"java/util/Arrays", "fill", "([II)V"⟩
abbrev cX1_init : ByteArray := prog_3_method_1_code
abbrev yX1_init : MethodName := ⟨"YardStacks$Moves", "<init>", "()V"⟩
abbrev cX3_ground : ByteArray := prog_1_method_3_code
abbrev yX3_ground : MethodName := ⟨"YardStacks", "ground", "(II)Z"⟩
abbrev cX2_hasRow : ByteArray := prog_4_method_2_code
abbrev yX2_hasRow : MethodName := ⟨"YardStacks$Stacks", "hasRow", "(I)Z"⟩
abbrev cX3_isWithin : ByteArray := prog_1_method_16_code
abbrev yX3_isWithin : MethodName := ⟨"YardStacks", "isWithin", "(III)Z"⟩
abbrev cX3_reserve : ByteArray := prog_1_method_4_code
abbrev yX3_reserve : MethodName := ⟨"YardStacks", "reserve", "(II)Z"⟩
abbrev cX3_hasBoxOfAnotherShip : ByteArray := prog_1_method_19_code
abbrev yX3_hasBoxOfAnotherShip : MethodName := ⟨"YardStacks", "hasBoxOfAnotherShip", "(II)Z"⟩
abbrev cX3_undo : ByteArray := prog_1_method_11_code
abbrev yX3_undo : MethodName := ⟨"YardStacks", "undo", "()I"⟩
abbrev cX1_dropLatest : ByteArray := prog_3_method_3_code
abbrev yX1_dropLatest : MethodName := ⟨"YardStacks$Moves", "dropLatest", "()I"⟩
abbrev cX2_bring : ByteArray := prog_4_method_7_code
abbrev yX2_bring : MethodName := ⟨"YardStacks$Stacks", "bring", "(II)V"⟩
abbrev cX2_stands : ByteArray := prog_4_method_3_code
abbrev yX2_stands : MethodName := ⟨"YardStacks$Stacks", "stands", "(I)Z"⟩
abbrev cX2_lift : ByteArray := prog_4_method_8_code
abbrev yX2_lift : MethodName := ⟨"YardStacks$Stacks", "lift", "(I)V"⟩
abbrev cX2_lay : ByteArray := prog_4_method_9_code
abbrev yX2_lay : MethodName := ⟨"YardStacks$Stacks", "lay", "(II)V"⟩
abbrev cX3_count : ByteArray := prog_1_method_14_code
abbrev yX3_count : MethodName := ⟨"YardStacks", "count", "(I)I"⟩
abbrev cX3_standingBoxes : ByteArray := prog_1_method_32_code
abbrev yX3_standingBoxes : MethodName := ⟨"YardStacks", "standingBoxes", "()I"⟩
abbrev cX3_boxesInTheWay : ByteArray := prog_1_method_33_code
abbrev yX3_boxesInTheWay : MethodName := ⟨"YardStacks", "boxesInTheWay", "()I"⟩
abbrev cX3_isInTheWay : ByteArray := prog_1_method_27_code
abbrev yX3_isInTheWay : MethodName := ⟨"YardStacks", "isInTheWay", "(I)Z"⟩
abbrev cX3_soonerBelow : ByteArray := prog_1_method_25_code
abbrev yX3_soonerBelow : MethodName := ⟨"YardStacks", "soonerBelow", "(III)I"⟩
abbrev cX3_countOfRow : ByteArray := prog_1_method_34_code
abbrev yX3_countOfRow : MethodName := ⟨"YardStacks", "countOfRow", "(I)I"⟩
abbrev cX3_weightOn : ByteArray := prog_1_method_24_code
abbrev yX3_weightOn : MethodName := ⟨"YardStacks", "weightOn", "(I)I"⟩
abbrev cL_cell : ByteArray := method_2_code
abbrev yL_cell : MethodName := ⟨"YardStacksLaw", "cell", "([II)I"⟩
abbrev cL_box : ByteArray := method_3_code
abbrev yL_box : MethodName := ⟨"YardStacksLaw", "box", "(LYardStacks;IIIII[J)I"⟩
abbrev cX3_box : ByteArray := prog_1_method_2_code
abbrev yX3_box : MethodName := ⟨"YardStacks", "box", "(IIIII)I"⟩
abbrev cX0_tell : ByteArray := prog_2_method_3_code
abbrev yX0_tell : MethodName := ⟨"YardStacks$Boxes", "tell", "(IIIII)I"⟩
abbrev cL_put : ByteArray := method_4_code
abbrev yL_put : MethodName := ⟨"YardStacksLaw", "put", "(LYardStacks;II[J)I"⟩
abbrev cX3_put : ByteArray := prog_1_method_5_code
abbrev yX3_put : MethodName := ⟨"YardStacks", "put", "(II)I"⟩
abbrev cX3_requireBox : ByteArray := prog_1_method_17_code
abbrev yX3_requireBox : MethodName := ⟨"YardStacks", "requireBox", "(I)V"⟩
abbrev cX0_has : ByteArray := prog_2_method_2_code
abbrev yX0_has : MethodName := ⟨"YardStacks$Boxes", "has", "(I)Z"⟩
abbrev cX3_requireRow : ByteArray := prog_1_method_18_code
abbrev yX3_requireRow : MethodName := ⟨"YardStacks", "requireRow", "(I)V"⟩
abbrev cX3_ruleBrokenByPut : ByteArray := prog_1_method_20_code
abbrev yX3_ruleBrokenByPut : MethodName := ⟨"YardStacks", "ruleBrokenByPut", "(II)I"⟩
abbrev cX3_ruleBrokenOnTop : ByteArray := prog_1_method_22_code
abbrev yX3_ruleBrokenOnTop : MethodName := ⟨"YardStacks", "ruleBrokenOnTop", "(II)I"⟩
abbrev cX2_top : ByteArray := prog_4_method_4_code
abbrev yX2_top : MethodName := ⟨"YardStacks$Stacks", "top", "(I)I"⟩
abbrev cX3_ruleBrokenByGround : ByteArray := prog_1_method_23_code
abbrev yX3_ruleBrokenByGround : MethodName := ⟨"YardStacks", "ruleBrokenByGround", "(II)I"⟩
abbrev cX3_move : ByteArray := prog_1_method_31_code
abbrev yX3_move : MethodName := ⟨"YardStacks", "move", "(II)V"⟩
abbrev cX1_keep : ByteArray := prog_3_method_2_code
abbrev yX1_keep : MethodName := ⟨"YardStacks$Moves", "keep", "(II)V"⟩
abbrev cL_take : ByteArray := method_5_code
abbrev yL_take : MethodName := ⟨"YardStacksLaw", "take", "(LYardStacks;I[J)I"⟩
abbrev cX3_take : ByteArray := prog_1_method_6_code
abbrev yX3_take : MethodName := ⟨"YardStacks", "take", "(I)I"⟩
abbrev cX2_isOnTop : ByteArray := prog_4_method_6_code
abbrev yX2_isOnTop : MethodName := ⟨"YardStacks$Stacks", "isOnTop", "(I)Z"⟩
abbrev cX2_above : ByteArray := prog_4_method_5_code
abbrev yX2_above : MethodName := ⟨"YardStacks$Stacks", "above", "(I)I"⟩
abbrev cL_shift : ByteArray := method_6_code
abbrev yL_shift : MethodName := ⟨"YardStacksLaw", "shift", "(LYardStacks;II[J)I"⟩
abbrev cX3_shift : ByteArray := prog_1_method_7_code
abbrev yX3_shift : MethodName := ⟨"YardStacks", "shift", "(II)I"⟩
abbrev cX3_ruleBrokenByShift : ByteArray := prog_1_method_21_code
abbrev yX3_ruleBrokenByShift : MethodName := ⟨"YardStacks", "ruleBrokenByShift", "(II)I"⟩
abbrev cL_choose : ByteArray := method_7_code
abbrev yL_choose : MethodName := ⟨"YardStacksLaw", "choose", "(LYardStacks;I[J)I"⟩
abbrev cX3_choose : ByteArray := prog_1_method_8_code
abbrev yX3_choose : MethodName := ⟨"YardStacks", "choose", "(I)I"⟩
abbrev cX3_bestRow : ByteArray := prog_1_method_29_code
abbrev yX3_bestRow : MethodName := ⟨"YardStacks", "bestRow", "(IZ)I"⟩
abbrev cX3_wouldBeInTheWay : ByteArray := prog_1_method_26_code
abbrev yX3_wouldBeInTheWay : MethodName := ⟨"YardStacks", "wouldBeInTheWay", "(II)Z"⟩
abbrev cX3_scoreOn : ByteArray := prog_1_method_28_code
abbrev yX3_scoreOn : MethodName := ⟨"YardStacks", "scoreOn", "(II)I"⟩
abbrev cL_score : ByteArray := method_8_code
abbrev yL_score : MethodName := ⟨"YardStacksLaw", "score", "(LYardStacks;II[J)I"⟩
abbrev cX3_score : ByteArray := prog_1_method_9_code
abbrev yX3_score : MethodName := ⟨"YardStacks", "score", "(II)I"⟩
abbrev cL_night : ByteArray := method_9_code
abbrev yL_night : MethodName := ⟨"YardStacksLaw", "night", "(LYardStacks;I[J)I"⟩
abbrev cX3_night : ByteArray := prog_1_method_10_code
abbrev yX3_night : MethodName := ⟨"YardStacks", "night", "(I)I"⟩
abbrev cX3_moveOneAside : ByteArray := prog_1_method_30_code
abbrev yX3_moveOneAside : MethodName := ⟨"YardStacks", "moveOneAside", "()Z"⟩
abbrev cL_where : ByteArray := method_10_code
abbrev yL_where : MethodName := ⟨"YardStacksLaw", "where", "(LYardStacks;II[J)I"⟩
abbrev cX3_where : ByteArray := prog_1_method_12_code
abbrev yX3_where : MethodName := ⟨"YardStacks", "where", "(II)I"⟩
abbrev cL_at : ByteArray := method_11_code
abbrev yL_at : MethodName := ⟨"YardStacksLaw", "at", "(LYardStacks;II[J)I"⟩
abbrev cX3_at : ByteArray := prog_1_method_13_code
abbrev yX3_at : MethodName := ⟨"YardStacks", "at", "(II)I"⟩
abbrev cX4_init : ByteArray := prog_6_method_1_code
abbrev yX4_init : MethodName := ⟨"YardStacksModel", "<init>", "(III)V"⟩
abbrev cX4_held : ByteArray := prog_6_method_2_code
abbrev yX4_held : MethodName := ⟨"YardStacksModel", "held", "(II)I"⟩
abbrev cX4_thrown : ByteArray := prog_6_method_3_code
abbrev yX4_thrown : MethodName := ⟨"YardStacksModel", "thrown", "()I"⟩
abbrev cX4_box : ByteArray := prog_6_method_16_code
abbrev yX4_box : MethodName := ⟨"YardStacksModel", "box", "(IIIII)I"⟩
abbrev cX4_in : ByteArray := prog_6_method_5_code
abbrev yX4_in : MethodName := ⟨"YardStacksModel", "in", "(III)Z"⟩
abbrev cX4_fails : ByteArray := prog_6_method_4_code
abbrev yX4_fails : MethodName := ⟨"YardStacksModel", "fails", "(I)I"⟩
abbrev cX4_ground : ByteArray := prog_6_method_17_code
abbrev yX4_ground : MethodName := ⟨"YardStacksModel", "ground", "(II)Z"⟩
abbrev cX4_isRow : ByteArray := prog_6_method_7_code
abbrev yX4_isRow : MethodName := ⟨"YardStacksModel", "isRow", "(I)Z"⟩
abbrev cX4_heightOf : ByteArray := prog_6_method_8_code
abbrev yX4_heightOf : MethodName := ⟨"YardStacksModel", "heightOf", "(I)I"⟩
abbrev cX4_reserve : ByteArray := prog_6_method_18_code
abbrev yX4_reserve : MethodName := ⟨"YardStacksModel", "reserve", "(II)Z"⟩
abbrev cX4_put : ByteArray := prog_6_method_21_code
abbrev yX4_put : MethodName := ⟨"YardStacksModel", "put", "(II)I"⟩
abbrev cX4_isBox : ByteArray := prog_6_method_6_code
abbrev yX4_isBox : MethodName := ⟨"YardStacksModel", "isBox", "(I)Z"⟩
abbrev cX4_broken : ByteArray := prog_6_method_14_code
abbrev yX4_broken : MethodName := ⟨"YardStacksModel", "broken", "(II)I"⟩
abbrev cX4_boxAt : ByteArray := prog_6_method_10_code
abbrev yX4_boxAt : MethodName := ⟨"YardStacksModel", "boxAt", "(II)I"⟩
abbrev cX4_weightOf : ByteArray := prog_6_method_9_code
abbrev yX4_weightOf : MethodName := ⟨"YardStacksModel", "weightOf", "(I)I"⟩
abbrev cX4_hasOtherSize : ByteArray := prog_6_method_12_code
abbrev yX4_hasOtherSize : MethodName := ⟨"YardStacksModel", "hasOtherSize", "(II)Z"⟩
abbrev cX4_moves : ByteArray := prog_6_method_20_code
abbrev yX4_moves : MethodName := ⟨"YardStacksModel", "moves", "(II)V"⟩
abbrev cX4_goes : ByteArray := prog_6_method_19_code
abbrev yX4_goes : MethodName := ⟨"YardStacksModel", "goes", "(II)V"⟩
abbrev cX4_take : ByteArray := prog_6_method_22_code
abbrev yX4_take : MethodName := ⟨"YardStacksModel", "take", "(I)I"⟩
abbrev cX4_isTop : ByteArray := prog_6_method_11_code
abbrev yX4_isTop : MethodName := ⟨"YardStacksModel", "isTop", "(I)Z"⟩
abbrev cX4_shift : ByteArray := prog_6_method_23_code
abbrev yX4_shift : MethodName := ⟨"YardStacksModel", "shift", "(II)I"⟩
abbrev cX4_choose : ByteArray := prog_6_method_24_code
abbrev yX4_choose : MethodName := ⟨"YardStacksModel", "choose", "(I)I"⟩
abbrev cX4_scoreOf : ByteArray := prog_6_method_15_code
abbrev yX4_scoreOf : MethodName := ⟨"YardStacksModel", "scoreOf", "(II)I"⟩
abbrev cX4_sooner : ByteArray := prog_6_method_13_code
abbrev yX4_sooner : MethodName := ⟨"YardStacksModel", "sooner", "(III)I"⟩
abbrev cX4_score : ByteArray := prog_6_method_25_code
abbrev yX4_score : MethodName := ⟨"YardStacksModel", "score", "(II)I"⟩
abbrev cX4_night : ByteArray := prog_6_method_28_code
abbrev yX4_night : MethodName := ⟨"YardStacksModel", "night", "(I)I"⟩
abbrev cX4_worst : ByteArray := prog_6_method_27_code
abbrev yX4_worst : MethodName := ⟨"YardStacksModel", "worst", "()I"⟩
abbrev cX4_aside : ByteArray := prog_6_method_26_code
abbrev yX4_aside : MethodName := ⟨"YardStacksModel", "aside", "(I)I"⟩
abbrev cX4_undo : ByteArray := prog_6_method_29_code
abbrev yX4_undo : MethodName := ⟨"YardStacksModel", "undo", "()I"⟩
abbrev cX4_where : ByteArray := prog_6_method_30_code
abbrev yX4_where : MethodName := ⟨"YardStacksModel", "where", "(II)I"⟩
abbrev cX4_at : ByteArray := prog_6_method_31_code
abbrev yX4_at : MethodName := ⟨"YardStacksModel", "at", "(II)I"⟩
abbrev cX4_count : ByteArray := prog_6_method_32_code
abbrev yX4_count : MethodName := ⟨"YardStacksModel", "count", "(I)I"⟩
abbrev cL_law : ByteArray := code
abbrev yL_law : MethodName := ⟨"YardStacksLaw", "law", "([I)Z"⟩
abbrev vwCl : List vw_C := [(RX0, TX0, 6), (RX1, TX1, 4), (RX2, TX2, 6), (RX3, TX3, 6), (RX4, TX4, 18)]
end
section
theorem m0 : Cond.initialized "YardStacksLaw" ∈ bigW := bgt (i := 0) (by decide +kernel) (by decide +kernel)
theorem m1 : Cond.initialized "YardStacks" ∈ bigW := bgt (i := 1) (by decide +kernel) (by decide +kernel)
theorem m2 : Cond.initialized "java/lang/Math" ∈ bigW := bgt (i := 2) (by decide +kernel) (by decide +kernel)
theorem m3 : Cond.initialized "YardStacks$Boxes" ∈ bigW := bgt (i := 3) (by decide +kernel) (by decide +kernel)
theorem m4 : Cond.initialized "YardStacks$Stacks" ∈ bigW := bgt (i := 4) (by decide +kernel) (by decide +kernel)
theorem m5 : Cond.initialized "java/util/Arrays" ∈ bigW := bgt (i := 5) (by decide +kernel) (by decide +kernel)
theorem m6 : Cond.initialized "YardStacks$Moves" ∈ bigW := bgt (i := 6) (by decide +kernel) (by decide +kernel)
theorem m7 : Cond.initialized "YardStacksModel" ∈ bigW := bgt (i := 7) (by decide +kernel) (by decide +kernel)
theorem m8 : Cond.initialized "java/lang/Throwable" ∈ bigW := bgt (i := 8) (by decide +kernel) (by decide +kernel)
theorem m9 : Cond.initialized "java/lang/Exception" ∈ bigW := bgt (i := 9) (by decide +kernel) (by decide +kernel)
theorem m10 : Cond.initialized "java/lang/RuntimeException" ∈ bigW := bgt (i := 10) (by decide +kernel) (by decide +kernel)
theorem m11 : Cond.initialized "java/lang/IllegalArgumentException" ∈ bigW := bgt (i := 11) (by decide +kernel) (by decide +kernel)
theorem m12 : Cond.initialized "java/lang/IllegalStateException" ∈ bigW := bgt (i := 12) (by decide +kernel) (by decide +kernel)
theorem m13 : Cond.initialized "java/lang/IndexOutOfBoundsException" ∈ bigW := bgt (i := 13) (by decide +kernel) (by decide +kernel)
theorem m14 : Cond.classLink "YardStacksLaw" (8 : Nat) "YardStacks" ∈ bigW := bgt (i := 14) (by decide +kernel) (by decide +kernel)
theorem m15 : Cond.instantiable "YardStacks" (6 : Nat) ∈ bigW := bgt (i := 15) (by decide +kernel) (by decide +kernel)
theorem m16 : Cond.methodLink "YardStacksLaw" (51 : Nat) yX3_init ∈ bigW := bgt (i := 16) (by decide +kernel) (by decide +kernel)
theorem m17 : Cond.instanceMethod yX3_init ∈ bigW := bgt (i := 17) (by decide +kernel) (by decide +kernel)
theorem m18 : Cond.code yX3_init prog_1_method_1_code (4 : Nat) (Option.none : Option Jvm.ClassFile.FieldType) ∈ bigW := bgt (i := 18) (by decide +kernel) (by decide +kernel)
theorem m19 : Cond.methodLink "YardStacks" (1 : Nat) (⟨"java/lang/Object", "<init>", "()V"⟩ : MethodName) ∈ bigW := bgt (i := 19) (by decide +kernel) (by decide +kernel)
theorem m20 : Cond.instanceMethod (⟨"java/lang/Object", "<init>", "()V"⟩ : MethodName) ∈ bigW := bgt (i := 20) (by decide +kernel) (by decide +kernel)
theorem m21 : Cond.code (⟨"java/lang/Object", "<init>", "()V"⟩ : MethodName) object_method_1_code (1 : Nat) (Option.none : Option Jvm.ClassFile.FieldType) ∈ bigW := bgt (i := 21) (by decide +kernel) (by decide +kernel)
theorem m22 : Cond.methodLink "YardStacks" (9 : Nat) yX3_held ∈ bigW := bgt (i := 22) (by decide +kernel) (by decide +kernel)
theorem m23 : Cond.static yX3_held ∈ bigW := bgt (i := 23) (by decide +kernel) (by decide +kernel)
theorem m24 : Cond.code yX3_held prog_1_method_15_code (2 : Nat) (Option.some Jvm.ClassFile.FieldType.int) ∈ bigW := bgt (i := 24) (by decide +kernel) (by decide +kernel)
theorem m25 : Cond.methodLink "YardStacks" (190 : Nat) (⟨"java/lang/Math", "min", "(II)I"⟩ : MethodName) ∈ bigW := bgt (i := 25) (by decide +kernel) (by decide +kernel)
theorem m26 : Cond.static (⟨"java/lang/Math", "min", "(II)I"⟩ : MethodName) ∈ bigW := bgt (i := 26) (by decide +kernel) (by decide +kernel)
theorem m27 : Cond.code (⟨"java/lang/Math", "min", "(II)I"⟩ : MethodName) prog_11_method_69_code (2 : Nat) (Option.some Jvm.ClassFile.FieldType.int) ∈ bigW := bgt (i := 27) (by decide +kernel) (by decide +kernel)
theorem m28 : Cond.methodLink "YardStacks" (195 : Nat) (⟨"java/lang/Math", "max", "(II)I"⟩ : MethodName) ∈ bigW := bgt (i := 28) (by decide +kernel) (by decide +kernel)
theorem m29 : Cond.static (⟨"java/lang/Math", "max", "(II)I"⟩ : MethodName) ∈ bigW := bgt (i := 29) (by decide +kernel) (by decide +kernel)
theorem m30 : Cond.code (⟨"java/lang/Math", "max", "(II)I"⟩ : MethodName) prog_11_method_65_code (2 : Nat) (Option.some Jvm.ClassFile.FieldType.int) ∈ bigW := bgt (i := 30) (by decide +kernel) (by decide +kernel)
theorem m31 : Cond.classLink "YardStacks" (17 : Nat) "YardStacks$Boxes" ∈ bigW := bgt (i := 31) (by decide +kernel) (by decide +kernel)
theorem m32 : Cond.instantiable "YardStacks$Boxes" (6 : Nat) ∈ bigW := bgt (i := 32) (by decide +kernel) (by decide +kernel)
theorem m34 : Cond.instanceMethod yX0_init ∈ bigW := bgt (i := 34) (by decide +kernel) (by decide +kernel)
theorem m35 : Cond.code yX0_init prog_2_method_1_code (1 : Nat) (Option.none : Option Jvm.ClassFile.FieldType) ∈ bigW := bgt (i := 35) (by decide +kernel) (by decide +kernel)
theorem m36 : Cond.methodLink "YardStacks$Boxes" (3 : Nat) (⟨"java/lang/Object", "<init>", "()V"⟩ : MethodName) ∈ bigW := bgt (i := 36) (by decide +kernel) (by decide +kernel)
theorem m37 : Cond.fieldLink "YardStacks$Boxes" (9 : Nat) "YardStacks$Boxes" "size" "[I" ∈ bigW := bgt (i := 37) (by decide +kernel) (by decide +kernel)
theorem m38 : Cond.fieldLink "YardStacks" (146 : Nat) "YardStacks$Boxes" "size" "[I" ∈ bigW := bgt (i := 38) (by decide +kernel) (by decide +kernel)
theorem m39 : Cond.fieldLink "YardStacks$Boxes" (15 : Nat) "YardStacks$Boxes" "weight" "[I" ∈ bigW := bgt (i := 39) (by decide +kernel) (by decide +kernel)
theorem m40 : Cond.fieldLink "YardStacks" (149 : Nat) "YardStacks$Boxes" "weight" "[I" ∈ bigW := bgt (i := 40) (by decide +kernel) (by decide +kernel)
theorem m41 : Cond.fieldLink "YardStacks$Boxes" (18 : Nat) "YardStacks$Boxes" "leaves" "[I" ∈ bigW := bgt (i := 41) (by decide +kernel) (by decide +kernel)
theorem m42 : Cond.fieldLink "YardStacks" (152 : Nat) "YardStacks$Boxes" "leaves" "[I" ∈ bigW := bgt (i := 42) (by decide +kernel) (by decide +kernel)
theorem m43 : Cond.fieldLink "YardStacks$Boxes" (21 : Nat) "YardStacks$Boxes" "ship" "[I" ∈ bigW := bgt (i := 43) (by decide +kernel) (by decide +kernel)
theorem m44 : Cond.fieldLink "YardStacks" (155 : Nat) "YardStacks$Boxes" "ship" "[I" ∈ bigW := bgt (i := 44) (by decide +kernel) (by decide +kernel)
theorem m45 : Cond.fieldLink "YardStacks$Boxes" (24 : Nat) "YardStacks$Boxes" "kind" "[I" ∈ bigW := bgt (i := 45) (by decide +kernel) (by decide +kernel)
theorem m46 : Cond.fieldLink "YardStacks" (158 : Nat) "YardStacks$Boxes" "kind" "[I" ∈ bigW := bgt (i := 46) (by decide +kernel) (by decide +kernel)
theorem m47 : Cond.fieldLink "YardStacks$Boxes" (27 : Nat) "YardStacks$Boxes" "told" "I" ∈ bigW := bgt (i := 47) (by decide +kernel) (by decide +kernel)
theorem m48 : Cond.fieldLink "YardStacks" (58 : Nat) "YardStacks$Boxes" "told" "I" ∈ bigW := bgt (i := 48) (by decide +kernel) (by decide +kernel)
theorem m49 : Cond.laysFinal "YardStacks$Boxes" "YardStacks$Boxes" "size" "[I" ∈ bigW := bgt (i := 49) (by decide +kernel) (by decide +kernel)
theorem m51 : Cond.laysFinal "YardStacks$Boxes" "YardStacks$Boxes" "weight" "[I" ∈ bigW := bgt (i := 51) (by decide +kernel) (by decide +kernel)
theorem m53 : Cond.laysFinal "YardStacks$Boxes" "YardStacks$Boxes" "leaves" "[I" ∈ bigW := bgt (i := 53) (by decide +kernel) (by decide +kernel)
theorem m55 : Cond.laysFinal "YardStacks$Boxes" "YardStacks$Boxes" "ship" "[I" ∈ bigW := bgt (i := 55) (by decide +kernel) (by decide +kernel)
theorem m57 : Cond.laysFinal "YardStacks$Boxes" "YardStacks$Boxes" "kind" "[I" ∈ bigW := bgt (i := 57) (by decide +kernel) (by decide +kernel)
theorem m59 : Cond.lays "YardStacks$Boxes" "YardStacks$Boxes" "told" "I" ∈ bigW := bgt (i := 59) (by decide +kernel) (by decide +kernel)
theorem m62 : Cond.arrayClass Jvm.ClassFile.FieldType.int ∈ bigW := bgt (i := 62) (by decide +kernel) (by decide +kernel)
theorem m63 : Cond.classLink "YardStacks" (24 : Nat) "YardStacks$Stacks" ∈ bigW := bgt (i := 63) (by decide +kernel) (by decide +kernel)
theorem m64 : Cond.instantiable "YardStacks$Stacks" (6 : Nat) ∈ bigW := bgt (i := 64) (by decide +kernel) (by decide +kernel)
theorem m65 : Cond.methodLink "YardStacks" (26 : Nat) yX2_init ∈ bigW := bgt (i := 65) (by decide +kernel) (by decide +kernel)
theorem m66 : Cond.instanceMethod yX2_init ∈ bigW := bgt (i := 66) (by decide +kernel) (by decide +kernel)
theorem m67 : Cond.code yX2_init prog_4_method_1_code (4 : Nat) (Option.none : Option Jvm.ClassFile.FieldType) ∈ bigW := bgt (i := 67) (by decide +kernel) (by decide +kernel)
theorem m68 : Cond.methodLink "YardStacks$Stacks" (3 : Nat) (⟨"java/lang/Object", "<init>", "()V"⟩ : MethodName) ∈ bigW := bgt (i := 68) (by decide +kernel) (by decide +kernel)
theorem m69 : Cond.classLink "YardStacks$Stacks" (25 : Nat) "[[I" ∈ bigW := bgt (i := 69) (by decide +kernel) (by decide +kernel)
theorem m71 : Cond.methodLink "YardStacks$Stacks" (33 : Nat) yJ7_fill ∈ bigW := bgt (i := 71) (by decide +kernel) (by decide +kernel)
theorem m72 : Cond.static yJ7_fill ∈ bigW := bgt (i := 72) (by decide +kernel) (by decide +kernel)
theorem m73 : Cond.code yJ7_fill prog_15_method_103_code (4 : Nat) (Option.none : Option Jvm.ClassFile.FieldType) ∈ bigW := bgt (i := 73) (by decide +kernel) (by decide +kernel)
theorem m74 : Cond.fieldLink "YardStacks$Stacks" (18 : Nat) "YardStacks$Stacks" "rows" "I" ∈ bigW := bgt (i := 74) (by decide +kernel) (by decide +kernel)
theorem m75 : Cond.fieldLink "YardStacks" (175 : Nat) "YardStacks$Stacks" "rows" "I" ∈ bigW := bgt (i := 75) (by decide +kernel) (by decide +kernel)
theorem m76 : Cond.fieldLink "YardStacks$Stacks" (22 : Nat) "YardStacks$Stacks" "tiers" "I" ∈ bigW := bgt (i := 76) (by decide +kernel) (by decide +kernel)
theorem m77 : Cond.fieldLink "YardStacks" (166 : Nat) "YardStacks$Stacks" "tiers" "I" ∈ bigW := bgt (i := 77) (by decide +kernel) (by decide +kernel)
theorem m78 : Cond.fieldLink "YardStacks$Stacks" (27 : Nat) "YardStacks$Stacks" "cells" "[[I" ∈ bigW := bgt (i := 78) (by decide +kernel) (by decide +kernel)
theorem m79 : Cond.fieldLink "YardStacks" (171 : Nat) "YardStacks$Stacks" "cells" "[[I" ∈ bigW := bgt (i := 79) (by decide +kernel) (by decide +kernel)
theorem m80 : Cond.fieldLink "YardStacks$Stacks" (30 : Nat) "YardStacks$Stacks" "heights" "[I" ∈ bigW := bgt (i := 80) (by decide +kernel) (by decide +kernel)
theorem m81 : Cond.fieldLink "YardStacks" (74 : Nat) "YardStacks$Stacks" "heights" "[I" ∈ bigW := bgt (i := 81) (by decide +kernel) (by decide +kernel)
theorem m82 : Cond.fieldLink "YardStacks$Stacks" (9 : Nat) "YardStacks$Stacks" "rowOf" "[I" ∈ bigW := bgt (i := 82) (by decide +kernel) (by decide +kernel)
theorem m83 : Cond.fieldLink "YardStacks" (133 : Nat) "YardStacks$Stacks" "rowOf" "[I" ∈ bigW := bgt (i := 83) (by decide +kernel) (by decide +kernel)
theorem m84 : Cond.fieldLink "YardStacks$Stacks" (15 : Nat) "YardStacks$Stacks" "tierOf" "[I" ∈ bigW := bgt (i := 84) (by decide +kernel) (by decide +kernel)
theorem m85 : Cond.fieldLink "YardStacks" (136 : Nat) "YardStacks$Stacks" "tierOf" "[I" ∈ bigW := bgt (i := 85) (by decide +kernel) (by decide +kernel)
theorem m86 : Cond.laysFinal "YardStacks$Stacks" "YardStacks$Stacks" "rows" "I" ∈ bigW := bgt (i := 86) (by decide +kernel) (by decide +kernel)
theorem m88 : Cond.laysFinal "YardStacks$Stacks" "YardStacks$Stacks" "tiers" "I" ∈ bigW := bgt (i := 88) (by decide +kernel) (by decide +kernel)
theorem m90 : Cond.laysFinal "YardStacks$Stacks" "YardStacks$Stacks" "cells" "[[I" ∈ bigW := bgt (i := 90) (by decide +kernel) (by decide +kernel)
theorem m92 : Cond.laysFinal "YardStacks$Stacks" "YardStacks$Stacks" "heights" "[I" ∈ bigW := bgt (i := 92) (by decide +kernel) (by decide +kernel)
theorem m94 : Cond.laysFinal "YardStacks$Stacks" "YardStacks$Stacks" "rowOf" "[I" ∈ bigW := bgt (i := 94) (by decide +kernel) (by decide +kernel)
theorem m96 : Cond.laysFinal "YardStacks$Stacks" "YardStacks$Stacks" "tierOf" "[I" ∈ bigW := bgt (i := 96) (by decide +kernel) (by decide +kernel)
theorem m99 : Cond.classLink "YardStacks" (33 : Nat) "YardStacks$Moves" ∈ bigW := bgt (i := 99) (by decide +kernel) (by decide +kernel)
theorem m100 : Cond.instantiable "YardStacks$Moves" (4 : Nat) ∈ bigW := bgt (i := 100) (by decide +kernel) (by decide +kernel)
theorem m102 : Cond.instanceMethod yX1_init ∈ bigW := bgt (i := 102) (by decide +kernel) (by decide +kernel)
theorem m103 : Cond.code yX1_init prog_3_method_1_code (1 : Nat) (Option.none : Option Jvm.ClassFile.FieldType) ∈ bigW := bgt (i := 103) (by decide +kernel) (by decide +kernel)
theorem m104 : Cond.methodLink "YardStacks$Moves" (3 : Nat) (⟨"java/lang/Object", "<init>", "()V"⟩ : MethodName) ∈ bigW := bgt (i := 104) (by decide +kernel) (by decide +kernel)
theorem m105 : Cond.fieldLink "YardStacks$Moves" (9 : Nat) "YardStacks$Moves" "boxes" "[I" ∈ bigW := bgt (i := 105) (by decide +kernel) (by decide +kernel)
theorem m106 : Cond.fieldLink "YardStacks" (125 : Nat) "YardStacks$Moves" "boxes" "[I" ∈ bigW := bgt (i := 106) (by decide +kernel) (by decide +kernel)
theorem m107 : Cond.fieldLink "YardStacks$Moves" (15 : Nat) "YardStacks$Moves" "origins" "[I" ∈ bigW := bgt (i := 107) (by decide +kernel) (by decide +kernel)
theorem m108 : Cond.fieldLink "YardStacks" (127 : Nat) "YardStacks$Moves" "origins" "[I" ∈ bigW := bgt (i := 108) (by decide +kernel) (by decide +kernel)
theorem m109 : Cond.fieldLink "YardStacks$Moves" (18 : Nat) "YardStacks$Moves" "made" "I" ∈ bigW := bgt (i := 109) (by decide +kernel) (by decide +kernel)
theorem m110 : Cond.fieldLink "YardStacks" (181 : Nat) "YardStacks$Moves" "made" "I" ∈ bigW := bgt (i := 110) (by decide +kernel) (by decide +kernel)
theorem m111 : Cond.fieldLink "YardStacks$Moves" (22 : Nat) "YardStacks$Moves" "kept" "I" ∈ bigW := bgt (i := 111) (by decide +kernel) (by decide +kernel)
theorem m112 : Cond.fieldLink "YardStacks" (118 : Nat) "YardStacks$Moves" "kept" "I" ∈ bigW := bgt (i := 112) (by decide +kernel) (by decide +kernel)
theorem m113 : Cond.laysFinal "YardStacks$Moves" "YardStacks$Moves" "boxes" "[I" ∈ bigW := bgt (i := 113) (by decide +kernel) (by decide +kernel)
theorem m115 : Cond.laysFinal "YardStacks$Moves" "YardStacks$Moves" "origins" "[I" ∈ bigW := bgt (i := 115) (by decide +kernel) (by decide +kernel)
theorem m117 : Cond.lays "YardStacks$Moves" "YardStacks$Moves" "made" "I" ∈ bigW := bgt (i := 117) (by decide +kernel) (by decide +kernel)
theorem m119 : Cond.lays "YardStacks$Moves" "YardStacks$Moves" "kept" "I" ∈ bigW := bgt (i := 119) (by decide +kernel) (by decide +kernel)
theorem m122 : Cond.fieldLink "YardStacks" (13 : Nat) "YardStacks" "bears" "I" ∈ bigW := bgt (i := 122) (by decide +kernel) (by decide +kernel)
theorem m123 : Cond.fieldLink "YardStacks" (20 : Nat) "YardStacks" "boxes" "LYardStacks$Boxes;" ∈ bigW := bgt (i := 123) (by decide +kernel) (by decide +kernel)
theorem m124 : Cond.fieldLink "YardStacks" (29 : Nat) "YardStacks" "stacks" "LYardStacks$Stacks;" ∈ bigW := bgt (i := 124) (by decide +kernel) (by decide +kernel)
theorem m125 : Cond.fieldLink "YardStacks" (36 : Nat) "YardStacks" "history" "LYardStacks$Moves;" ∈ bigW := bgt (i := 125) (by decide +kernel) (by decide +kernel)
theorem m126 : Cond.fieldLink "YardStacks" (40 : Nat) "YardStacks" "grounds" "[I" ∈ bigW := bgt (i := 126) (by decide +kernel) (by decide +kernel)
theorem m127 : Cond.fieldLink "YardStacks" (44 : Nat) "YardStacks" "reservedFor" "[I" ∈ bigW := bgt (i := 127) (by decide +kernel) (by decide +kernel)
theorem m128 : Cond.laysFinal "YardStacks" "YardStacks" "bears" "I" ∈ bigW := bgt (i := 128) (by decide +kernel) (by decide +kernel)
theorem m130 : Cond.laysFinal "YardStacks" "YardStacks" "boxes" "LYardStacks$Boxes;" ∈ bigW := bgt (i := 130) (by decide +kernel) (by decide +kernel)
theorem m132 : Cond.laysFinal "YardStacks" "YardStacks" "stacks" "LYardStacks$Stacks;" ∈ bigW := bgt (i := 132) (by decide +kernel) (by decide +kernel)
theorem m134 : Cond.laysFinal "YardStacks" "YardStacks" "history" "LYardStacks$Moves;" ∈ bigW := bgt (i := 134) (by decide +kernel) (by decide +kernel)
theorem m136 : Cond.laysFinal "YardStacks" "YardStacks" "grounds" "[I" ∈ bigW := bgt (i := 136) (by decide +kernel) (by decide +kernel)
theorem m138 : Cond.laysFinal "YardStacks" "YardStacks" "reservedFor" "[I" ∈ bigW := bgt (i := 138) (by decide +kernel) (by decide +kernel)
theorem m141 : Cond.methodLink "YardStacksLaw" (65 : Nat) yX3_ground ∈ bigW := bgt (i := 141) (by decide +kernel) (by decide +kernel)
theorem m142 : Cond.instanceMethod yX3_ground ∈ bigW := bgt (i := 142) (by decide +kernel) (by decide +kernel)
theorem m143 : Cond.selects "YardStacks" yX3_ground yX3_ground ∈ bigW := bgt (i := 143) (by decide +kernel) (by decide +kernel)
theorem m144 : Cond.code yX3_ground prog_1_method_3_code (3 : Nat) (Option.some Jvm.ClassFile.FieldType.boolean) ∈ bigW := bgt (i := 144) (by decide +kernel) (by decide +kernel)
theorem m145 : Cond.methodLink "YardStacks" (70 : Nat) yX2_hasRow ∈ bigW := bgt (i := 145) (by decide +kernel) (by decide +kernel)
theorem m146 : Cond.instanceMethod yX2_hasRow ∈ bigW := bgt (i := 146) (by decide +kernel) (by decide +kernel)
theorem m147 : Cond.selects "YardStacks$Stacks" yX2_hasRow yX2_hasRow ∈ bigW := bgt (i := 147) (by decide +kernel) (by decide +kernel)
theorem m148 : Cond.code yX2_hasRow prog_4_method_2_code (2 : Nat) (Option.some Jvm.ClassFile.FieldType.boolean) ∈ bigW := bgt (i := 148) (by decide +kernel) (by decide +kernel)
theorem m149 : Cond.methodLink "YardStacks" (47 : Nat) yX3_isWithin ∈ bigW := bgt (i := 149) (by decide +kernel) (by decide +kernel)
theorem m150 : Cond.static yX3_isWithin ∈ bigW := bgt (i := 150) (by decide +kernel) (by decide +kernel)
theorem m151 : Cond.code yX3_isWithin prog_1_method_16_code (3 : Nat) (Option.some Jvm.ClassFile.FieldType.boolean) ∈ bigW := bgt (i := 151) (by decide +kernel) (by decide +kernel)
theorem m152 : Cond.methodLink "YardStacksLaw" (70 : Nat) yX3_reserve ∈ bigW := bgt (i := 152) (by decide +kernel) (by decide +kernel)
theorem m153 : Cond.instanceMethod yX3_reserve ∈ bigW := bgt (i := 153) (by decide +kernel) (by decide +kernel)
theorem m154 : Cond.selects "YardStacks" yX3_reserve yX3_reserve ∈ bigW := bgt (i := 154) (by decide +kernel) (by decide +kernel)
theorem m155 : Cond.code yX3_reserve prog_1_method_4_code (3 : Nat) (Option.some Jvm.ClassFile.FieldType.boolean) ∈ bigW := bgt (i := 155) (by decide +kernel) (by decide +kernel)
theorem m156 : Cond.methodLink "YardStacks" (77 : Nat) yX3_hasBoxOfAnotherShip ∈ bigW := bgt (i := 156) (by decide +kernel) (by decide +kernel)
theorem m158 : Cond.instanceMethod yX3_hasBoxOfAnotherShip ∈ bigW := bgt (i := 158) (by decide +kernel) (by decide +kernel)
theorem m159 : Cond.code yX3_hasBoxOfAnotherShip prog_1_method_19_code (4 : Nat) (Option.some Jvm.ClassFile.FieldType.boolean) ∈ bigW := bgt (i := 159) (by decide +kernel) (by decide +kernel)
theorem m160 : Cond.methodLink "YardStacksLaw" (94 : Nat) yX3_undo ∈ bigW := bgt (i := 160) (by decide +kernel) (by decide +kernel)
theorem m161 : Cond.instanceMethod yX3_undo ∈ bigW := bgt (i := 161) (by decide +kernel) (by decide +kernel)
theorem m162 : Cond.selects "YardStacks" yX3_undo yX3_undo ∈ bigW := bgt (i := 162) (by decide +kernel) (by decide +kernel)
theorem m163 : Cond.code yX3_undo prog_1_method_11_code (3 : Nat) (Option.some Jvm.ClassFile.FieldType.int) ∈ bigW := bgt (i := 163) (by decide +kernel) (by decide +kernel)
theorem m164 : Cond.methodLink "YardStacks" (121 : Nat) yX1_dropLatest ∈ bigW := bgt (i := 164) (by decide +kernel) (by decide +kernel)
theorem m165 : Cond.instanceMethod yX1_dropLatest ∈ bigW := bgt (i := 165) (by decide +kernel) (by decide +kernel)
theorem m166 : Cond.selects "YardStacks$Moves" yX1_dropLatest yX1_dropLatest ∈ bigW := bgt (i := 166) (by decide +kernel) (by decide +kernel)
theorem m167 : Cond.code yX1_dropLatest prog_3_method_3_code (1 : Nat) (Option.some Jvm.ClassFile.FieldType.int) ∈ bigW := bgt (i := 167) (by decide +kernel) (by decide +kernel)
theorem m168 : Cond.methodLink "YardStacks" (130 : Nat) yX2_bring ∈ bigW := bgt (i := 168) (by decide +kernel) (by decide +kernel)
theorem m169 : Cond.instanceMethod yX2_bring ∈ bigW := bgt (i := 169) (by decide +kernel) (by decide +kernel)
theorem m170 : Cond.selects "YardStacks$Stacks" yX2_bring yX2_bring ∈ bigW := bgt (i := 170) (by decide +kernel) (by decide +kernel)
theorem m171 : Cond.code yX2_bring prog_4_method_7_code (3 : Nat) (Option.none : Option Jvm.ClassFile.FieldType) ∈ bigW := bgt (i := 171) (by decide +kernel) (by decide +kernel)
theorem m172 : Cond.methodLink "YardStacks$Stacks" (39 : Nat) yX2_stands ∈ bigW := bgt (i := 172) (by decide +kernel) (by decide +kernel)
theorem m173 : Cond.instanceMethod yX2_stands ∈ bigW := bgt (i := 173) (by decide +kernel) (by decide +kernel)
theorem m174 : Cond.selects "YardStacks$Stacks" yX2_stands yX2_stands ∈ bigW := bgt (i := 174) (by decide +kernel) (by decide +kernel)
theorem m175 : Cond.code yX2_stands prog_4_method_3_code (2 : Nat) (Option.some Jvm.ClassFile.FieldType.boolean) ∈ bigW := bgt (i := 175) (by decide +kernel) (by decide +kernel)
theorem m176 : Cond.methodLink "YardStacks$Stacks" (47 : Nat) yX2_lift ∈ bigW := bgt (i := 176) (by decide +kernel) (by decide +kernel)
theorem m178 : Cond.instanceMethod yX2_lift ∈ bigW := bgt (i := 178) (by decide +kernel) (by decide +kernel)
theorem m179 : Cond.code yX2_lift prog_4_method_8_code (3 : Nat) (Option.none : Option Jvm.ClassFile.FieldType) ∈ bigW := bgt (i := 179) (by decide +kernel) (by decide +kernel)
theorem m180 : Cond.methodLink "YardStacks$Stacks" (51 : Nat) yX2_lay ∈ bigW := bgt (i := 180) (by decide +kernel) (by decide +kernel)
theorem m182 : Cond.instanceMethod yX2_lay ∈ bigW := bgt (i := 182) (by decide +kernel) (by decide +kernel)
theorem m183 : Cond.code yX2_lay prog_4_method_9_code (4 : Nat) (Option.none : Option Jvm.ClassFile.FieldType) ∈ bigW := bgt (i := 183) (by decide +kernel) (by decide +kernel)
theorem m184 : Cond.methodLink "YardStacksLaw" (104 : Nat) yX3_count ∈ bigW := bgt (i := 184) (by decide +kernel) (by decide +kernel)
theorem m185 : Cond.instanceMethod yX3_count ∈ bigW := bgt (i := 185) (by decide +kernel) (by decide +kernel)
theorem m186 : Cond.selects "YardStacks" yX3_count yX3_count ∈ bigW := bgt (i := 186) (by decide +kernel) (by decide +kernel)
theorem m187 : Cond.code yX3_count prog_1_method_14_code (2 : Nat) (Option.some Jvm.ClassFile.FieldType.int) ∈ bigW := bgt (i := 187) (by decide +kernel) (by decide +kernel)
theorem m188 : Cond.methodLink "YardStacks" (178 : Nat) yX3_standingBoxes ∈ bigW := bgt (i := 188) (by decide +kernel) (by decide +kernel)
theorem m190 : Cond.instanceMethod yX3_standingBoxes ∈ bigW := bgt (i := 190) (by decide +kernel) (by decide +kernel)
theorem m191 : Cond.code yX3_standingBoxes prog_1_method_32_code (3 : Nat) (Option.some Jvm.ClassFile.FieldType.int) ∈ bigW := bgt (i := 191) (by decide +kernel) (by decide +kernel)
theorem m192 : Cond.methodLink "YardStacks" (184 : Nat) yX3_boxesInTheWay ∈ bigW := bgt (i := 192) (by decide +kernel) (by decide +kernel)
theorem m194 : Cond.instanceMethod yX3_boxesInTheWay ∈ bigW := bgt (i := 194) (by decide +kernel) (by decide +kernel)
theorem m195 : Cond.code yX3_boxesInTheWay prog_1_method_33_code (3 : Nat) (Option.some Jvm.ClassFile.FieldType.int) ∈ bigW := bgt (i := 195) (by decide +kernel) (by decide +kernel)
theorem m196 : Cond.methodLink "YardStacks" (143 : Nat) yX3_isInTheWay ∈ bigW := bgt (i := 196) (by decide +kernel) (by decide +kernel)
theorem m198 : Cond.instanceMethod yX3_isInTheWay ∈ bigW := bgt (i := 198) (by decide +kernel) (by decide +kernel)
theorem m199 : Cond.code yX3_isInTheWay prog_1_method_27_code (2 : Nat) (Option.some Jvm.ClassFile.FieldType.boolean) ∈ bigW := bgt (i := 199) (by decide +kernel) (by decide +kernel)
theorem m200 : Cond.methodLink "YardStacks" (100 : Nat) yX2_stands ∈ bigW := bgt (i := 200) (by decide +kernel) (by decide +kernel)
theorem m201 : Cond.methodLink "YardStacks" (217 : Nat) yX3_soonerBelow ∈ bigW := bgt (i := 201) (by decide +kernel) (by decide +kernel)
theorem m203 : Cond.instanceMethod yX3_soonerBelow ∈ bigW := bgt (i := 203) (by decide +kernel) (by decide +kernel)
theorem m204 : Cond.code yX3_soonerBelow prog_1_method_25_code (6 : Nat) (Option.some Jvm.ClassFile.FieldType.int) ∈ bigW := bgt (i := 204) (by decide +kernel) (by decide +kernel)
theorem m205 : Cond.methodLink "YardStacks" (187 : Nat) yX3_countOfRow ∈ bigW := bgt (i := 205) (by decide +kernel) (by decide +kernel)
theorem m207 : Cond.instanceMethod yX3_countOfRow ∈ bigW := bgt (i := 207) (by decide +kernel) (by decide +kernel)
theorem m208 : Cond.code yX3_countOfRow prog_1_method_34_code (3 : Nat) (Option.some Jvm.ClassFile.FieldType.int) ∈ bigW := bgt (i := 208) (by decide +kernel) (by decide +kernel)
theorem m209 : Cond.methodLink "YardStacks" (208 : Nat) yX3_weightOn ∈ bigW := bgt (i := 209) (by decide +kernel) (by decide +kernel)
theorem m211 : Cond.instanceMethod yX3_weightOn ∈ bigW := bgt (i := 211) (by decide +kernel) (by decide +kernel)
theorem m212 : Cond.code yX3_weightOn prog_1_method_24_code (4 : Nat) (Option.some Jvm.ClassFile.FieldType.int) ∈ bigW := bgt (i := 212) (by decide +kernel) (by decide +kernel)
theorem m213 : Cond.methodLink "YardStacksLaw" (45 : Nat) yL_cell ∈ bigW := bgt (i := 213) (by decide +kernel) (by decide +kernel)
theorem m214 : Cond.static yL_cell ∈ bigW := bgt (i := 214) (by decide +kernel) (by decide +kernel)
theorem m215 : Cond.code yL_cell method_2_code (2 : Nat) (Option.some Jvm.ClassFile.FieldType.int) ∈ bigW := bgt (i := 215) (by decide +kernel) (by decide +kernel)
theorem m216 : Cond.methodLink "YardStacksLaw" (57 : Nat) yL_box ∈ bigW := bgt (i := 216) (by decide +kernel) (by decide +kernel)
theorem m217 : Cond.static yL_box ∈ bigW := bgt (i := 217) (by decide +kernel) (by decide +kernel)
theorem m218 : Cond.codeWith yL_box method_3_code (8 : Nat) (Option.some Jvm.ClassFile.FieldType.int) [((0 : Nat), (16 : Nat), (19 : Nat), (13 : Nat)), ((0 : Nat), (16 : Nat), (23 : Nat), (15 : Nat))] ∈ bigW := bgt (i := 218) (by decide +kernel) (by decide +kernel)
theorem m219 : Cond.classLink "YardStacksLaw" (13 : Nat) "java/lang/IllegalArgumentException" ∈ bigW := bgt (i := 219) (by decide +kernel) (by decide +kernel)
theorem m220 : Cond.classLink "YardStacksLaw" (15 : Nat) "java/lang/IllegalStateException" ∈ bigW := bgt (i := 220) (by decide +kernel) (by decide +kernel)
theorem m221 : Cond.methodLink "YardStacksLaw" (7 : Nat) yX3_box ∈ bigW := bgt (i := 221) (by decide +kernel) (by decide +kernel)
theorem m222 : Cond.instanceMethod yX3_box ∈ bigW := bgt (i := 222) (by decide +kernel) (by decide +kernel)
theorem m223 : Cond.selects "YardStacks" yX3_box yX3_box ∈ bigW := bgt (i := 223) (by decide +kernel) (by decide +kernel)
theorem m224 : Cond.code yX3_box prog_1_method_2_code (7 : Nat) (Option.some Jvm.ClassFile.FieldType.int) ∈ bigW := bgt (i := 224) (by decide +kernel) (by decide +kernel)
theorem m225 : Cond.classLink "YardStacks" (51 : Nat) "java/lang/IllegalArgumentException" ∈ bigW := bgt (i := 225) (by decide +kernel) (by decide +kernel)
theorem m250 : Cond.methodLink "java/lang/Throwable" (1 : Nat) (⟨"java/lang/Object", "<init>", "()V"⟩ : MethodName) ∈ bigW := bgt (i := 250) (by decide +kernel) (by decide +kernel)
theorem m267 : Cond.methodLink "YardStacks" (55 : Nat) (⟨"java/lang/IllegalArgumentException", "<init>", "(Ljava/lang/String;)V"⟩ : MethodName) ∈ bigW := bgt (i := 267) (by decide +kernel) (by decide +kernel)
theorem m292 : Cond.arrayClass Jvm.ClassFile.FieldType.byte ∈ bigW := bgt (i := 292) (by decide +kernel) (by decide +kernel)
theorem m293 : Cond.classLink "YardStacks" (61 : Nat) "java/lang/IllegalStateException" ∈ bigW := bgt (i := 293) (by decide +kernel) (by decide +kernel)
theorem m303 : Cond.methodLink "YardStacks" (65 : Nat) (⟨"java/lang/IllegalStateException", "<init>", "(Ljava/lang/String;)V"⟩ : MethodName) ∈ bigW := bgt (i := 303) (by decide +kernel) (by decide +kernel)
theorem m309 : Cond.methodLink "YardStacks" (66 : Nat) yX0_tell ∈ bigW := bgt (i := 309) (by decide +kernel) (by decide +kernel)
theorem m310 : Cond.instanceMethod yX0_tell ∈ bigW := bgt (i := 310) (by decide +kernel) (by decide +kernel)
theorem m311 : Cond.selects "YardStacks$Boxes" yX0_tell yX0_tell ∈ bigW := bgt (i := 311) (by decide +kernel) (by decide +kernel)
theorem m312 : Cond.code yX0_tell prog_2_method_3_code (7 : Nat) (Option.some Jvm.ClassFile.FieldType.int) ∈ bigW := bgt (i := 312) (by decide +kernel) (by decide +kernel)
theorem m313 : Cond.methodLink "YardStacksLaw" (74 : Nat) yL_put ∈ bigW := bgt (i := 313) (by decide +kernel) (by decide +kernel)
theorem m314 : Cond.static yL_put ∈ bigW := bgt (i := 314) (by decide +kernel) (by decide +kernel)
theorem m315 : Cond.codeWith yL_put method_4_code (5 : Nat) (Option.some Jvm.ClassFile.FieldType.int) [((0 : Nat), (10 : Nat), (13 : Nat), (21 : Nat))] ∈ bigW := bgt (i := 315) (by decide +kernel) (by decide +kernel)
theorem m316 : Cond.classLink "YardStacksLaw" (21 : Nat) "java/lang/IndexOutOfBoundsException" ∈ bigW := bgt (i := 316) (by decide +kernel) (by decide +kernel)
theorem m317 : Cond.methodLink "YardStacksLaw" (17 : Nat) yX3_put ∈ bigW := bgt (i := 317) (by decide +kernel) (by decide +kernel)
theorem m318 : Cond.instanceMethod yX3_put ∈ bigW := bgt (i := 318) (by decide +kernel) (by decide +kernel)
theorem m319 : Cond.selects "YardStacks" yX3_put yX3_put ∈ bigW := bgt (i := 319) (by decide +kernel) (by decide +kernel)
theorem m320 : Cond.code yX3_put prog_1_method_5_code (4 : Nat) (Option.some Jvm.ClassFile.FieldType.int) ∈ bigW := bgt (i := 320) (by decide +kernel) (by decide +kernel)
theorem m321 : Cond.methodLink "YardStacks" (81 : Nat) yX3_requireBox ∈ bigW := bgt (i := 321) (by decide +kernel) (by decide +kernel)
theorem m323 : Cond.instanceMethod yX3_requireBox ∈ bigW := bgt (i := 323) (by decide +kernel) (by decide +kernel)
theorem m324 : Cond.code yX3_requireBox prog_1_method_17_code (2 : Nat) (Option.none : Option Jvm.ClassFile.FieldType) ∈ bigW := bgt (i := 324) (by decide +kernel) (by decide +kernel)
theorem m325 : Cond.methodLink "YardStacks" (198 : Nat) yX0_has ∈ bigW := bgt (i := 325) (by decide +kernel) (by decide +kernel)
theorem m326 : Cond.instanceMethod yX0_has ∈ bigW := bgt (i := 326) (by decide +kernel) (by decide +kernel)
theorem m327 : Cond.selects "YardStacks$Boxes" yX0_has yX0_has ∈ bigW := bgt (i := 327) (by decide +kernel) (by decide +kernel)
theorem m328 : Cond.code yX0_has prog_2_method_2_code (2 : Nat) (Option.some Jvm.ClassFile.FieldType.boolean) ∈ bigW := bgt (i := 328) (by decide +kernel) (by decide +kernel)
theorem m329 : Cond.classLink "YardStacks" (161 : Nat) "java/lang/IndexOutOfBoundsException" ∈ bigW := bgt (i := 329) (by decide +kernel) (by decide +kernel)
theorem m339 : Cond.methodLink "YardStacks" (165 : Nat) (⟨"java/lang/IndexOutOfBoundsException", "<init>", "(Ljava/lang/String;)V"⟩ : MethodName) ∈ bigW := bgt (i := 339) (by decide +kernel) (by decide +kernel)
theorem m345 : Cond.methodLink "YardStacks" (85 : Nat) yX3_requireRow ∈ bigW := bgt (i := 345) (by decide +kernel) (by decide +kernel)
theorem m347 : Cond.instanceMethod yX3_requireRow ∈ bigW := bgt (i := 347) (by decide +kernel) (by decide +kernel)
theorem m348 : Cond.code yX3_requireRow prog_1_method_18_code (2 : Nat) (Option.none : Option Jvm.ClassFile.FieldType) ∈ bigW := bgt (i := 348) (by decide +kernel) (by decide +kernel)
theorem m350 : Cond.methodLink "YardStacks" (88 : Nat) yX3_ruleBrokenByPut ∈ bigW := bgt (i := 350) (by decide +kernel) (by decide +kernel)
theorem m352 : Cond.instanceMethod yX3_ruleBrokenByPut ∈ bigW := bgt (i := 352) (by decide +kernel) (by decide +kernel)
theorem m353 : Cond.code yX3_ruleBrokenByPut prog_1_method_20_code (3 : Nat) (Option.some Jvm.ClassFile.FieldType.int) ∈ bigW := bgt (i := 353) (by decide +kernel) (by decide +kernel)
theorem m354 : Cond.methodLink "YardStacks" (205 : Nat) yX3_ruleBrokenOnTop ∈ bigW := bgt (i := 354) (by decide +kernel) (by decide +kernel)
theorem m356 : Cond.instanceMethod yX3_ruleBrokenOnTop ∈ bigW := bgt (i := 356) (by decide +kernel) (by decide +kernel)
theorem m357 : Cond.code yX3_ruleBrokenOnTop prog_1_method_22_code (4 : Nat) (Option.some Jvm.ClassFile.FieldType.int) ∈ bigW := bgt (i := 357) (by decide +kernel) (by decide +kernel)
theorem m358 : Cond.methodLink "YardStacks" (211 : Nat) yX2_top ∈ bigW := bgt (i := 358) (by decide +kernel) (by decide +kernel)
theorem m359 : Cond.instanceMethod yX2_top ∈ bigW := bgt (i := 359) (by decide +kernel) (by decide +kernel)
theorem m360 : Cond.selects "YardStacks$Stacks" yX2_top yX2_top ∈ bigW := bgt (i := 360) (by decide +kernel) (by decide +kernel)
theorem m361 : Cond.code yX2_top prog_4_method_4_code (2 : Nat) (Option.some Jvm.ClassFile.FieldType.int) ∈ bigW := bgt (i := 361) (by decide +kernel) (by decide +kernel)
theorem m362 : Cond.methodLink "YardStacks" (214 : Nat) yX3_ruleBrokenByGround ∈ bigW := bgt (i := 362) (by decide +kernel) (by decide +kernel)
theorem m363 : Cond.static yX3_ruleBrokenByGround ∈ bigW := bgt (i := 363) (by decide +kernel) (by decide +kernel)
theorem m364 : Cond.code yX3_ruleBrokenByGround prog_1_method_23_code (2 : Nat) (Option.some Jvm.ClassFile.FieldType.int) ∈ bigW := bgt (i := 364) (by decide +kernel) (by decide +kernel)
theorem m365 : Cond.methodLink "YardStacks" (91 : Nat) yX3_move ∈ bigW := bgt (i := 365) (by decide +kernel) (by decide +kernel)
theorem m367 : Cond.instanceMethod yX3_move ∈ bigW := bgt (i := 367) (by decide +kernel) (by decide +kernel)
theorem m368 : Cond.code yX3_move prog_1_method_31_code (3 : Nat) (Option.none : Option Jvm.ClassFile.FieldType) ∈ bigW := bgt (i := 368) (by decide +kernel) (by decide +kernel)
theorem m369 : Cond.methodLink "YardStacks" (224 : Nat) yX1_keep ∈ bigW := bgt (i := 369) (by decide +kernel) (by decide +kernel)
theorem m370 : Cond.instanceMethod yX1_keep ∈ bigW := bgt (i := 370) (by decide +kernel) (by decide +kernel)
theorem m371 : Cond.selects "YardStacks$Moves" yX1_keep yX1_keep ∈ bigW := bgt (i := 371) (by decide +kernel) (by decide +kernel)
theorem m372 : Cond.code yX1_keep prog_3_method_2_code (4 : Nat) (Option.none : Option Jvm.ClassFile.FieldType) ∈ bigW := bgt (i := 372) (by decide +kernel) (by decide +kernel)
theorem m373 : Cond.methodLink "YardStacks$Moves" (25 : Nat) (⟨"java/lang/Math", "min", "(II)I"⟩ : MethodName) ∈ bigW := bgt (i := 373) (by decide +kernel) (by decide +kernel)
theorem m374 : Cond.methodLink "YardStacksLaw" (78 : Nat) yL_take ∈ bigW := bgt (i := 374) (by decide +kernel) (by decide +kernel)
theorem m375 : Cond.static yL_take ∈ bigW := bgt (i := 375) (by decide +kernel) (by decide +kernel)
theorem m376 : Cond.codeWith yL_take method_5_code (4 : Nat) (Option.some Jvm.ClassFile.FieldType.int) [((0 : Nat), (9 : Nat), (12 : Nat), (21 : Nat))] ∈ bigW := bgt (i := 376) (by decide +kernel) (by decide +kernel)
theorem m377 : Cond.methodLink "YardStacksLaw" (23 : Nat) yX3_take ∈ bigW := bgt (i := 377) (by decide +kernel) (by decide +kernel)
theorem m378 : Cond.instanceMethod yX3_take ∈ bigW := bgt (i := 378) (by decide +kernel) (by decide +kernel)
theorem m379 : Cond.selects "YardStacks" yX3_take yX3_take ∈ bigW := bgt (i := 379) (by decide +kernel) (by decide +kernel)
theorem m380 : Cond.code yX3_take prog_1_method_6_code (2 : Nat) (Option.some Jvm.ClassFile.FieldType.int) ∈ bigW := bgt (i := 380) (by decide +kernel) (by decide +kernel)
theorem m381 : Cond.methodLink "YardStacks" (94 : Nat) yX2_isOnTop ∈ bigW := bgt (i := 381) (by decide +kernel) (by decide +kernel)
theorem m382 : Cond.instanceMethod yX2_isOnTop ∈ bigW := bgt (i := 382) (by decide +kernel) (by decide +kernel)
theorem m383 : Cond.selects "YardStacks$Stacks" yX2_isOnTop yX2_isOnTop ∈ bigW := bgt (i := 383) (by decide +kernel) (by decide +kernel)
theorem m384 : Cond.code yX2_isOnTop prog_4_method_6_code (2 : Nat) (Option.some Jvm.ClassFile.FieldType.boolean) ∈ bigW := bgt (i := 384) (by decide +kernel) (by decide +kernel)
theorem m385 : Cond.methodLink "YardStacks$Stacks" (43 : Nat) yX2_above ∈ bigW := bgt (i := 385) (by decide +kernel) (by decide +kernel)
theorem m386 : Cond.instanceMethod yX2_above ∈ bigW := bgt (i := 386) (by decide +kernel) (by decide +kernel)
theorem m387 : Cond.selects "YardStacks$Stacks" yX2_above yX2_above ∈ bigW := bgt (i := 387) (by decide +kernel) (by decide +kernel)
theorem m388 : Cond.code yX2_above prog_4_method_5_code (2 : Nat) (Option.some Jvm.ClassFile.FieldType.int) ∈ bigW := bgt (i := 388) (by decide +kernel) (by decide +kernel)
theorem m389 : Cond.methodLink "YardStacksLaw" (82 : Nat) yL_shift ∈ bigW := bgt (i := 389) (by decide +kernel) (by decide +kernel)
theorem m390 : Cond.static yL_shift ∈ bigW := bgt (i := 390) (by decide +kernel) (by decide +kernel)
theorem m391 : Cond.codeWith yL_shift method_6_code (5 : Nat) (Option.some Jvm.ClassFile.FieldType.int) [((0 : Nat), (10 : Nat), (13 : Nat), (21 : Nat))] ∈ bigW := bgt (i := 391) (by decide +kernel) (by decide +kernel)
theorem m392 : Cond.methodLink "YardStacksLaw" (27 : Nat) yX3_shift ∈ bigW := bgt (i := 392) (by decide +kernel) (by decide +kernel)
theorem m393 : Cond.instanceMethod yX3_shift ∈ bigW := bgt (i := 393) (by decide +kernel) (by decide +kernel)
theorem m394 : Cond.selects "YardStacks" yX3_shift yX3_shift ∈ bigW := bgt (i := 394) (by decide +kernel) (by decide +kernel)
theorem m395 : Cond.code yX3_shift prog_1_method_7_code (4 : Nat) (Option.some Jvm.ClassFile.FieldType.int) ∈ bigW := bgt (i := 395) (by decide +kernel) (by decide +kernel)
theorem m396 : Cond.methodLink "YardStacks" (97 : Nat) yX3_ruleBrokenByShift ∈ bigW := bgt (i := 396) (by decide +kernel) (by decide +kernel)
theorem m398 : Cond.instanceMethod yX3_ruleBrokenByShift ∈ bigW := bgt (i := 398) (by decide +kernel) (by decide +kernel)
theorem m399 : Cond.code yX3_ruleBrokenByShift prog_1_method_21_code (3 : Nat) (Option.some Jvm.ClassFile.FieldType.int) ∈ bigW := bgt (i := 399) (by decide +kernel) (by decide +kernel)
theorem m400 : Cond.methodLink "YardStacksLaw" (85 : Nat) yL_choose ∈ bigW := bgt (i := 400) (by decide +kernel) (by decide +kernel)
theorem m401 : Cond.static yL_choose ∈ bigW := bgt (i := 401) (by decide +kernel) (by decide +kernel)
theorem m402 : Cond.codeWith yL_choose method_7_code (4 : Nat) (Option.some Jvm.ClassFile.FieldType.int) [((0 : Nat), (9 : Nat), (12 : Nat), (21 : Nat))] ∈ bigW := bgt (i := 402) (by decide +kernel) (by decide +kernel)
theorem m403 : Cond.methodLink "YardStacksLaw" (30 : Nat) yX3_choose ∈ bigW := bgt (i := 403) (by decide +kernel) (by decide +kernel)
theorem m404 : Cond.instanceMethod yX3_choose ∈ bigW := bgt (i := 404) (by decide +kernel) (by decide +kernel)
theorem m405 : Cond.selects "YardStacks" yX3_choose yX3_choose ∈ bigW := bgt (i := 405) (by decide +kernel) (by decide +kernel)
theorem m406 : Cond.code yX3_choose prog_1_method_8_code (2 : Nat) (Option.some Jvm.ClassFile.FieldType.int) ∈ bigW := bgt (i := 406) (by decide +kernel) (by decide +kernel)
theorem m407 : Cond.methodLink "YardStacks" (103 : Nat) yX3_bestRow ∈ bigW := bgt (i := 407) (by decide +kernel) (by decide +kernel)
theorem m409 : Cond.instanceMethod yX3_bestRow ∈ bigW := bgt (i := 409) (by decide +kernel) (by decide +kernel)
theorem m410 : Cond.code yX3_bestRow prog_1_method_29_code (7 : Nat) (Option.some Jvm.ClassFile.FieldType.int) ∈ bigW := bgt (i := 410) (by decide +kernel) (by decide +kernel)
theorem m411 : Cond.methodLink "YardStacks" (221 : Nat) yX3_wouldBeInTheWay ∈ bigW := bgt (i := 411) (by decide +kernel) (by decide +kernel)
theorem m413 : Cond.instanceMethod yX3_wouldBeInTheWay ∈ bigW := bgt (i := 413) (by decide +kernel) (by decide +kernel)
theorem m414 : Cond.code yX3_wouldBeInTheWay prog_1_method_26_code (3 : Nat) (Option.some Jvm.ClassFile.FieldType.boolean) ∈ bigW := bgt (i := 414) (by decide +kernel) (by decide +kernel)
theorem m415 : Cond.methodLink "YardStacks" (109 : Nat) yX3_scoreOn ∈ bigW := bgt (i := 415) (by decide +kernel) (by decide +kernel)
theorem m417 : Cond.instanceMethod yX3_scoreOn ∈ bigW := bgt (i := 417) (by decide +kernel) (by decide +kernel)
theorem m418 : Cond.code yX3_scoreOn prog_1_method_28_code (9 : Nat) (Option.some Jvm.ClassFile.FieldType.int) ∈ bigW := bgt (i := 418) (by decide +kernel) (by decide +kernel)
theorem m419 : Cond.methodLink "YardStacksLaw" (88 : Nat) yL_score ∈ bigW := bgt (i := 419) (by decide +kernel) (by decide +kernel)
theorem m420 : Cond.static yL_score ∈ bigW := bgt (i := 420) (by decide +kernel) (by decide +kernel)
theorem m421 : Cond.codeWith yL_score method_8_code (5 : Nat) (Option.some Jvm.ClassFile.FieldType.int) [((0 : Nat), (10 : Nat), (13 : Nat), (21 : Nat)), ((0 : Nat), (10 : Nat), (17 : Nat), (15 : Nat))] ∈ bigW := bgt (i := 421) (by decide +kernel) (by decide +kernel)
theorem m422 : Cond.methodLink "YardStacksLaw" (33 : Nat) yX3_score ∈ bigW := bgt (i := 422) (by decide +kernel) (by decide +kernel)
theorem m423 : Cond.instanceMethod yX3_score ∈ bigW := bgt (i := 423) (by decide +kernel) (by decide +kernel)
theorem m424 : Cond.selects "YardStacks" yX3_score yX3_score ∈ bigW := bgt (i := 424) (by decide +kernel) (by decide +kernel)
theorem m425 : Cond.code yX3_score prog_1_method_9_code (3 : Nat) (Option.some Jvm.ClassFile.FieldType.int) ∈ bigW := bgt (i := 425) (by decide +kernel) (by decide +kernel)
theorem m427 : Cond.methodLink "YardStacksLaw" (91 : Nat) yL_night ∈ bigW := bgt (i := 427) (by decide +kernel) (by decide +kernel)
theorem m428 : Cond.static yL_night ∈ bigW := bgt (i := 428) (by decide +kernel) (by decide +kernel)
theorem m429 : Cond.codeWith yL_night method_9_code (4 : Nat) (Option.some Jvm.ClassFile.FieldType.int) [((0 : Nat), (9 : Nat), (12 : Nat), (13 : Nat))] ∈ bigW := bgt (i := 429) (by decide +kernel) (by decide +kernel)
theorem m430 : Cond.methodLink "YardStacksLaw" (36 : Nat) yX3_night ∈ bigW := bgt (i := 430) (by decide +kernel) (by decide +kernel)
theorem m431 : Cond.instanceMethod yX3_night ∈ bigW := bgt (i := 431) (by decide +kernel) (by decide +kernel)
theorem m432 : Cond.selects "YardStacks" yX3_night yX3_night ∈ bigW := bgt (i := 432) (by decide +kernel) (by decide +kernel)
theorem m433 : Cond.code yX3_night prog_1_method_10_code (3 : Nat) (Option.some Jvm.ClassFile.FieldType.int) ∈ bigW := bgt (i := 433) (by decide +kernel) (by decide +kernel)
theorem m435 : Cond.methodLink "YardStacks" (114 : Nat) yX3_moveOneAside ∈ bigW := bgt (i := 435) (by decide +kernel) (by decide +kernel)
theorem m437 : Cond.instanceMethod yX3_moveOneAside ∈ bigW := bgt (i := 437) (by decide +kernel) (by decide +kernel)
theorem m438 : Cond.code yX3_moveOneAside prog_1_method_30_code (8 : Nat) (Option.some Jvm.ClassFile.FieldType.boolean) ∈ bigW := bgt (i := 438) (by decide +kernel) (by decide +kernel)
theorem m439 : Cond.methodLink "YardStacksLaw" (98 : Nat) yL_where ∈ bigW := bgt (i := 439) (by decide +kernel) (by decide +kernel)
theorem m440 : Cond.static yL_where ∈ bigW := bgt (i := 440) (by decide +kernel) (by decide +kernel)
theorem m441 : Cond.codeWith yL_where method_10_code (5 : Nat) (Option.some Jvm.ClassFile.FieldType.int) [((0 : Nat), (10 : Nat), (13 : Nat), (21 : Nat))] ∈ bigW := bgt (i := 441) (by decide +kernel) (by decide +kernel)
theorem m442 : Cond.methodLink "YardStacksLaw" (39 : Nat) yX3_where ∈ bigW := bgt (i := 442) (by decide +kernel) (by decide +kernel)
theorem m443 : Cond.instanceMethod yX3_where ∈ bigW := bgt (i := 443) (by decide +kernel) (by decide +kernel)
theorem m444 : Cond.selects "YardStacks" yX3_where yX3_where ∈ bigW := bgt (i := 444) (by decide +kernel) (by decide +kernel)
theorem m445 : Cond.code yX3_where prog_1_method_12_code (3 : Nat) (Option.some Jvm.ClassFile.FieldType.int) ∈ bigW := bgt (i := 445) (by decide +kernel) (by decide +kernel)
theorem m446 : Cond.methodLink "YardStacks" (139 : Nat) yX2_above ∈ bigW := bgt (i := 446) (by decide +kernel) (by decide +kernel)
theorem m448 : Cond.methodLink "YardStacksLaw" (101 : Nat) yL_at ∈ bigW := bgt (i := 448) (by decide +kernel) (by decide +kernel)
theorem m449 : Cond.static yL_at ∈ bigW := bgt (i := 449) (by decide +kernel) (by decide +kernel)
theorem m450 : Cond.codeWith yL_at method_11_code (5 : Nat) (Option.some Jvm.ClassFile.FieldType.int) [((0 : Nat), (10 : Nat), (13 : Nat), (21 : Nat))] ∈ bigW := bgt (i := 450) (by decide +kernel) (by decide +kernel)
theorem m451 : Cond.methodLink "YardStacksLaw" (42 : Nat) yX3_at ∈ bigW := bgt (i := 451) (by decide +kernel) (by decide +kernel)
theorem m452 : Cond.instanceMethod yX3_at ∈ bigW := bgt (i := 452) (by decide +kernel) (by decide +kernel)
theorem m453 : Cond.selects "YardStacks" yX3_at yX3_at ∈ bigW := bgt (i := 453) (by decide +kernel) (by decide +kernel)
theorem m454 : Cond.code yX3_at prog_1_method_13_code (3 : Nat) (Option.some Jvm.ClassFile.FieldType.int) ∈ bigW := bgt (i := 454) (by decide +kernel) (by decide +kernel)
theorem m456 : Cond.classLink "YardStacksLaw" (54 : Nat) "YardStacksModel" ∈ bigW := bgt (i := 456) (by decide +kernel) (by decide +kernel)
theorem m457 : Cond.instantiable "YardStacksModel" (18 : Nat) ∈ bigW := bgt (i := 457) (by decide +kernel) (by decide +kernel)
theorem m458 : Cond.methodLink "YardStacksLaw" (56 : Nat) yX4_init ∈ bigW := bgt (i := 458) (by decide +kernel) (by decide +kernel)
theorem m459 : Cond.instanceMethod yX4_init ∈ bigW := bgt (i := 459) (by decide +kernel) (by decide +kernel)
theorem m460 : Cond.code yX4_init prog_6_method_1_code (4 : Nat) (Option.none : Option Jvm.ClassFile.FieldType) ∈ bigW := bgt (i := 460) (by decide +kernel) (by decide +kernel)
theorem m461 : Cond.methodLink "YardStacksModel" (1 : Nat) (⟨"java/lang/Object", "<init>", "()V"⟩ : MethodName) ∈ bigW := bgt (i := 461) (by decide +kernel) (by decide +kernel)
theorem m462 : Cond.methodLink "YardStacksModel" (43 : Nat) yX4_held ∈ bigW := bgt (i := 462) (by decide +kernel) (by decide +kernel)
theorem m463 : Cond.static yX4_held ∈ bigW := bgt (i := 463) (by decide +kernel) (by decide +kernel)
theorem m464 : Cond.code yX4_held prog_6_method_2_code (2 : Nat) (Option.some Jvm.ClassFile.FieldType.int) ∈ bigW := bgt (i := 464) (by decide +kernel) (by decide +kernel)
theorem m465 : Cond.fieldLink "YardStacksModel" (57 : Nat) "YardStacksModel" "thrown" "I" ∈ bigW := bgt (i := 465) (by decide +kernel) (by decide +kernel)
theorem m466 : Cond.fieldLink "YardStacksModel" (47 : Nat) "YardStacksModel" "rows" "I" ∈ bigW := bgt (i := 466) (by decide +kernel) (by decide +kernel)
theorem m467 : Cond.fieldLink "YardStacksModel" (51 : Nat) "YardStacksModel" "tiers" "I" ∈ bigW := bgt (i := 467) (by decide +kernel) (by decide +kernel)
theorem m468 : Cond.fieldLink "YardStacksModel" (54 : Nat) "YardStacksModel" "bears" "I" ∈ bigW := bgt (i := 468) (by decide +kernel) (by decide +kernel)
theorem m469 : Cond.fieldLink "YardStacksModel" (7 : Nat) "YardStacksModel" "ground" "[I" ∈ bigW := bgt (i := 469) (by decide +kernel) (by decide +kernel)
theorem m470 : Cond.fieldLink "YardStacksModel" (13 : Nat) "YardStacksModel" "reserved" "[I" ∈ bigW := bgt (i := 470) (by decide +kernel) (by decide +kernel)
theorem m471 : Cond.fieldLink "YardStacksModel" (60 : Nat) "YardStacksModel" "boxes" "I" ∈ bigW := bgt (i := 471) (by decide +kernel) (by decide +kernel)
theorem m472 : Cond.fieldLink "YardStacksModel" (16 : Nat) "YardStacksModel" "size" "[I" ∈ bigW := bgt (i := 472) (by decide +kernel) (by decide +kernel)
theorem m473 : Cond.fieldLink "YardStacksModel" (19 : Nat) "YardStacksModel" "weight" "[I" ∈ bigW := bgt (i := 473) (by decide +kernel) (by decide +kernel)
theorem m474 : Cond.fieldLink "YardStacksModel" (22 : Nat) "YardStacksModel" "leaves" "[I" ∈ bigW := bgt (i := 474) (by decide +kernel) (by decide +kernel)
theorem m475 : Cond.fieldLink "YardStacksModel" (25 : Nat) "YardStacksModel" "ship" "[I" ∈ bigW := bgt (i := 475) (by decide +kernel) (by decide +kernel)
theorem m476 : Cond.fieldLink "YardStacksModel" (28 : Nat) "YardStacksModel" "kind" "[I" ∈ bigW := bgt (i := 476) (by decide +kernel) (by decide +kernel)
theorem m477 : Cond.fieldLink "YardStacksModel" (31 : Nat) "YardStacksModel" "rowOf" "[I" ∈ bigW := bgt (i := 477) (by decide +kernel) (by decide +kernel)
theorem m478 : Cond.fieldLink "YardStacksModel" (34 : Nat) "YardStacksModel" "tierOf" "[I" ∈ bigW := bgt (i := 478) (by decide +kernel) (by decide +kernel)
theorem m479 : Cond.fieldLink "YardStacksModel" (95 : Nat) "YardStacksModel" "made" "I" ∈ bigW := bgt (i := 479) (by decide +kernel) (by decide +kernel)
theorem m480 : Cond.fieldLink "YardStacksModel" (92 : Nat) "YardStacksModel" "kept" "I" ∈ bigW := bgt (i := 480) (by decide +kernel) (by decide +kernel)
theorem m481 : Cond.fieldLink "YardStacksModel" (37 : Nat) "YardStacksModel" "moved" "[I" ∈ bigW := bgt (i := 481) (by decide +kernel) (by decide +kernel)
theorem m482 : Cond.fieldLink "YardStacksModel" (40 : Nat) "YardStacksModel" "was" "[I" ∈ bigW := bgt (i := 482) (by decide +kernel) (by decide +kernel)
theorem m483 : Cond.lays "YardStacksModel" "YardStacksModel" "thrown" "I" ∈ bigW := bgt (i := 483) (by decide +kernel) (by decide +kernel)
theorem m485 : Cond.laysFinal "YardStacksModel" "YardStacksModel" "rows" "I" ∈ bigW := bgt (i := 485) (by decide +kernel) (by decide +kernel)
theorem m487 : Cond.laysFinal "YardStacksModel" "YardStacksModel" "tiers" "I" ∈ bigW := bgt (i := 487) (by decide +kernel) (by decide +kernel)
theorem m489 : Cond.laysFinal "YardStacksModel" "YardStacksModel" "bears" "I" ∈ bigW := bgt (i := 489) (by decide +kernel) (by decide +kernel)
theorem m491 : Cond.laysFinal "YardStacksModel" "YardStacksModel" "ground" "[I" ∈ bigW := bgt (i := 491) (by decide +kernel) (by decide +kernel)
theorem m493 : Cond.laysFinal "YardStacksModel" "YardStacksModel" "reserved" "[I" ∈ bigW := bgt (i := 493) (by decide +kernel) (by decide +kernel)
theorem m495 : Cond.lays "YardStacksModel" "YardStacksModel" "boxes" "I" ∈ bigW := bgt (i := 495) (by decide +kernel) (by decide +kernel)
theorem m497 : Cond.laysFinal "YardStacksModel" "YardStacksModel" "size" "[I" ∈ bigW := bgt (i := 497) (by decide +kernel) (by decide +kernel)
theorem m499 : Cond.laysFinal "YardStacksModel" "YardStacksModel" "weight" "[I" ∈ bigW := bgt (i := 499) (by decide +kernel) (by decide +kernel)
theorem m501 : Cond.laysFinal "YardStacksModel" "YardStacksModel" "leaves" "[I" ∈ bigW := bgt (i := 501) (by decide +kernel) (by decide +kernel)
theorem m503 : Cond.laysFinal "YardStacksModel" "YardStacksModel" "ship" "[I" ∈ bigW := bgt (i := 503) (by decide +kernel) (by decide +kernel)
theorem m505 : Cond.laysFinal "YardStacksModel" "YardStacksModel" "kind" "[I" ∈ bigW := bgt (i := 505) (by decide +kernel) (by decide +kernel)
theorem m507 : Cond.laysFinal "YardStacksModel" "YardStacksModel" "rowOf" "[I" ∈ bigW := bgt (i := 507) (by decide +kernel) (by decide +kernel)
theorem m509 : Cond.laysFinal "YardStacksModel" "YardStacksModel" "tierOf" "[I" ∈ bigW := bgt (i := 509) (by decide +kernel) (by decide +kernel)
theorem m511 : Cond.lays "YardStacksModel" "YardStacksModel" "made" "I" ∈ bigW := bgt (i := 511) (by decide +kernel) (by decide +kernel)
theorem m513 : Cond.lays "YardStacksModel" "YardStacksModel" "kept" "I" ∈ bigW := bgt (i := 513) (by decide +kernel) (by decide +kernel)
theorem m515 : Cond.laysFinal "YardStacksModel" "YardStacksModel" "moved" "[I" ∈ bigW := bgt (i := 515) (by decide +kernel) (by decide +kernel)
theorem m517 : Cond.laysFinal "YardStacksModel" "YardStacksModel" "was" "[I" ∈ bigW := bgt (i := 517) (by decide +kernel) (by decide +kernel)
theorem m520 : Cond.methodLink "YardStacksLaw" (61 : Nat) yX4_thrown ∈ bigW := bgt (i := 520) (by decide +kernel) (by decide +kernel)
theorem m521 : Cond.instanceMethod yX4_thrown ∈ bigW := bgt (i := 521) (by decide +kernel) (by decide +kernel)
theorem m522 : Cond.selects "YardStacksModel" yX4_thrown yX4_thrown ∈ bigW := bgt (i := 522) (by decide +kernel) (by decide +kernel)
theorem m523 : Cond.code yX4_thrown prog_6_method_3_code (1 : Nat) (Option.some Jvm.ClassFile.FieldType.int) ∈ bigW := bgt (i := 523) (by decide +kernel) (by decide +kernel)
theorem m524 : Cond.methodLink "YardStacksLaw" (60 : Nat) yX4_box ∈ bigW := bgt (i := 524) (by decide +kernel) (by decide +kernel)
theorem m525 : Cond.instanceMethod yX4_box ∈ bigW := bgt (i := 525) (by decide +kernel) (by decide +kernel)
theorem m526 : Cond.selects "YardStacksModel" yX4_box yX4_box ∈ bigW := bgt (i := 526) (by decide +kernel) (by decide +kernel)
theorem m527 : Cond.code yX4_box prog_6_method_16_code (6 : Nat) (Option.some Jvm.ClassFile.FieldType.int) ∈ bigW := bgt (i := 527) (by decide +kernel) (by decide +kernel)
theorem m528 : Cond.methodLink "YardStacksModel" (81 : Nat) yX4_in ∈ bigW := bgt (i := 528) (by decide +kernel) (by decide +kernel)
theorem m529 : Cond.static yX4_in ∈ bigW := bgt (i := 529) (by decide +kernel) (by decide +kernel)
theorem m530 : Cond.code yX4_in prog_6_method_5_code (3 : Nat) (Option.some Jvm.ClassFile.FieldType.boolean) ∈ bigW := bgt (i := 530) (by decide +kernel) (by decide +kernel)
theorem m531 : Cond.methodLink "YardStacksModel" (85 : Nat) yX4_fails ∈ bigW := bgt (i := 531) (by decide +kernel) (by decide +kernel)
theorem m533 : Cond.instanceMethod yX4_fails ∈ bigW := bgt (i := 533) (by decide +kernel) (by decide +kernel)
theorem m534 : Cond.code yX4_fails prog_6_method_4_code (2 : Nat) (Option.some Jvm.ClassFile.FieldType.int) ∈ bigW := bgt (i := 534) (by decide +kernel) (by decide +kernel)
theorem m535 : Cond.methodLink "YardStacksLaw" (69 : Nat) yX4_ground ∈ bigW := bgt (i := 535) (by decide +kernel) (by decide +kernel)
theorem m536 : Cond.instanceMethod yX4_ground ∈ bigW := bgt (i := 536) (by decide +kernel) (by decide +kernel)
theorem m537 : Cond.selects "YardStacksModel" yX4_ground yX4_ground ∈ bigW := bgt (i := 537) (by decide +kernel) (by decide +kernel)
theorem m538 : Cond.code yX4_ground prog_6_method_17_code (3 : Nat) (Option.some Jvm.ClassFile.FieldType.boolean) ∈ bigW := bgt (i := 538) (by decide +kernel) (by decide +kernel)
theorem m539 : Cond.methodLink "YardStacksModel" (88 : Nat) yX4_isRow ∈ bigW := bgt (i := 539) (by decide +kernel) (by decide +kernel)
theorem m541 : Cond.instanceMethod yX4_isRow ∈ bigW := bgt (i := 541) (by decide +kernel) (by decide +kernel)
theorem m542 : Cond.code yX4_isRow prog_6_method_7_code (2 : Nat) (Option.some Jvm.ClassFile.FieldType.boolean) ∈ bigW := bgt (i := 542) (by decide +kernel) (by decide +kernel)
theorem m543 : Cond.methodLink "YardStacksModel" (63 : Nat) yX4_heightOf ∈ bigW := bgt (i := 543) (by decide +kernel) (by decide +kernel)
theorem m545 : Cond.instanceMethod yX4_heightOf ∈ bigW := bgt (i := 545) (by decide +kernel) (by decide +kernel)
theorem m546 : Cond.code yX4_heightOf prog_6_method_8_code (4 : Nat) (Option.some Jvm.ClassFile.FieldType.int) ∈ bigW := bgt (i := 546) (by decide +kernel) (by decide +kernel)
theorem m547 : Cond.methodLink "YardStacksLaw" (73 : Nat) yX4_reserve ∈ bigW := bgt (i := 547) (by decide +kernel) (by decide +kernel)
theorem m548 : Cond.instanceMethod yX4_reserve ∈ bigW := bgt (i := 548) (by decide +kernel) (by decide +kernel)
theorem m549 : Cond.selects "YardStacksModel" yX4_reserve yX4_reserve ∈ bigW := bgt (i := 549) (by decide +kernel) (by decide +kernel)
theorem m550 : Cond.code yX4_reserve prog_6_method_18_code (4 : Nat) (Option.some Jvm.ClassFile.FieldType.boolean) ∈ bigW := bgt (i := 550) (by decide +kernel) (by decide +kernel)
theorem m551 : Cond.methodLink "YardStacksLaw" (77 : Nat) yX4_put ∈ bigW := bgt (i := 551) (by decide +kernel) (by decide +kernel)
theorem m552 : Cond.instanceMethod yX4_put ∈ bigW := bgt (i := 552) (by decide +kernel) (by decide +kernel)
theorem m553 : Cond.selects "YardStacksModel" yX4_put yX4_put ∈ bigW := bgt (i := 553) (by decide +kernel) (by decide +kernel)
theorem m554 : Cond.code yX4_put prog_6_method_21_code (4 : Nat) (Option.some Jvm.ClassFile.FieldType.int) ∈ bigW := bgt (i := 554) (by decide +kernel) (by decide +kernel)
theorem m555 : Cond.methodLink "YardStacksModel" (102 : Nat) yX4_isBox ∈ bigW := bgt (i := 555) (by decide +kernel) (by decide +kernel)
theorem m557 : Cond.instanceMethod yX4_isBox ∈ bigW := bgt (i := 557) (by decide +kernel) (by decide +kernel)
theorem m558 : Cond.code yX4_isBox prog_6_method_6_code (2 : Nat) (Option.some Jvm.ClassFile.FieldType.boolean) ∈ bigW := bgt (i := 558) (by decide +kernel) (by decide +kernel)
theorem m559 : Cond.methodLink "YardStacksModel" (105 : Nat) yX4_broken ∈ bigW := bgt (i := 559) (by decide +kernel) (by decide +kernel)
theorem m561 : Cond.instanceMethod yX4_broken ∈ bigW := bgt (i := 561) (by decide +kernel) (by decide +kernel)
theorem m562 : Cond.code yX4_broken prog_6_method_14_code (4 : Nat) (Option.some Jvm.ClassFile.FieldType.int) ∈ bigW := bgt (i := 562) (by decide +kernel) (by decide +kernel)
theorem m563 : Cond.methodLink "YardStacksModel" (67 : Nat) yX4_boxAt ∈ bigW := bgt (i := 563) (by decide +kernel) (by decide +kernel)
theorem m565 : Cond.instanceMethod yX4_boxAt ∈ bigW := bgt (i := 565) (by decide +kernel) (by decide +kernel)
theorem m566 : Cond.code yX4_boxAt prog_6_method_10_code (5 : Nat) (Option.some Jvm.ClassFile.FieldType.int) ∈ bigW := bgt (i := 566) (by decide +kernel) (by decide +kernel)
theorem m567 : Cond.methodLink "YardStacksModel" (70 : Nat) yX4_weightOf ∈ bigW := bgt (i := 567) (by decide +kernel) (by decide +kernel)
theorem m569 : Cond.instanceMethod yX4_weightOf ∈ bigW := bgt (i := 569) (by decide +kernel) (by decide +kernel)
theorem m570 : Cond.code yX4_weightOf prog_6_method_9_code (4 : Nat) (Option.some Jvm.ClassFile.FieldType.int) ∈ bigW := bgt (i := 570) (by decide +kernel) (by decide +kernel)
theorem m571 : Cond.methodLink "YardStacksModel" (73 : Nat) yX4_hasOtherSize ∈ bigW := bgt (i := 571) (by decide +kernel) (by decide +kernel)
theorem m573 : Cond.instanceMethod yX4_hasOtherSize ∈ bigW := bgt (i := 573) (by decide +kernel) (by decide +kernel)
theorem m574 : Cond.code yX4_hasOtherSize prog_6_method_12_code (5 : Nat) (Option.some Jvm.ClassFile.FieldType.boolean) ∈ bigW := bgt (i := 574) (by decide +kernel) (by decide +kernel)
theorem m575 : Cond.methodLink "YardStacksModel" (108 : Nat) yX4_moves ∈ bigW := bgt (i := 575) (by decide +kernel) (by decide +kernel)
theorem m577 : Cond.instanceMethod yX4_moves ∈ bigW := bgt (i := 577) (by decide +kernel) (by decide +kernel)
theorem m578 : Cond.code yX4_moves prog_6_method_20_code (4 : Nat) (Option.none : Option Jvm.ClassFile.FieldType) ∈ bigW := bgt (i := 578) (by decide +kernel) (by decide +kernel)
theorem m579 : Cond.methodLink "YardStacksModel" (98 : Nat) yX4_goes ∈ bigW := bgt (i := 579) (by decide +kernel) (by decide +kernel)
theorem m581 : Cond.instanceMethod yX4_goes ∈ bigW := bgt (i := 581) (by decide +kernel) (by decide +kernel)
theorem m582 : Cond.code yX4_goes prog_6_method_19_code (3 : Nat) (Option.none : Option Jvm.ClassFile.FieldType) ∈ bigW := bgt (i := 582) (by decide +kernel) (by decide +kernel)
theorem m583 : Cond.methodLink "YardStacksLaw" (81 : Nat) yX4_take ∈ bigW := bgt (i := 583) (by decide +kernel) (by decide +kernel)
theorem m584 : Cond.instanceMethod yX4_take ∈ bigW := bgt (i := 584) (by decide +kernel) (by decide +kernel)
theorem m585 : Cond.selects "YardStacksModel" yX4_take yX4_take ∈ bigW := bgt (i := 585) (by decide +kernel) (by decide +kernel)
theorem m586 : Cond.code yX4_take prog_6_method_22_code (2 : Nat) (Option.some Jvm.ClassFile.FieldType.int) ∈ bigW := bgt (i := 586) (by decide +kernel) (by decide +kernel)
theorem m587 : Cond.methodLink "YardStacksModel" (111 : Nat) yX4_isTop ∈ bigW := bgt (i := 587) (by decide +kernel) (by decide +kernel)
theorem m589 : Cond.instanceMethod yX4_isTop ∈ bigW := bgt (i := 589) (by decide +kernel) (by decide +kernel)
theorem m590 : Cond.code yX4_isTop prog_6_method_11_code (2 : Nat) (Option.some Jvm.ClassFile.FieldType.boolean) ∈ bigW := bgt (i := 590) (by decide +kernel) (by decide +kernel)
theorem m591 : Cond.methodLink "YardStacksLaw" (84 : Nat) yX4_shift ∈ bigW := bgt (i := 591) (by decide +kernel) (by decide +kernel)
theorem m592 : Cond.instanceMethod yX4_shift ∈ bigW := bgt (i := 592) (by decide +kernel) (by decide +kernel)
theorem m593 : Cond.selects "YardStacksModel" yX4_shift yX4_shift ∈ bigW := bgt (i := 593) (by decide +kernel) (by decide +kernel)
theorem m594 : Cond.code yX4_shift prog_6_method_23_code (4 : Nat) (Option.some Jvm.ClassFile.FieldType.int) ∈ bigW := bgt (i := 594) (by decide +kernel) (by decide +kernel)
theorem m595 : Cond.methodLink "YardStacksLaw" (87 : Nat) yX4_choose ∈ bigW := bgt (i := 595) (by decide +kernel) (by decide +kernel)
theorem m596 : Cond.instanceMethod yX4_choose ∈ bigW := bgt (i := 596) (by decide +kernel) (by decide +kernel)
theorem m597 : Cond.selects "YardStacksModel" yX4_choose yX4_choose ∈ bigW := bgt (i := 597) (by decide +kernel) (by decide +kernel)
theorem m598 : Cond.code yX4_choose prog_6_method_24_code (4 : Nat) (Option.some Jvm.ClassFile.FieldType.int) ∈ bigW := bgt (i := 598) (by decide +kernel) (by decide +kernel)
theorem m599 : Cond.methodLink "YardStacksModel" (114 : Nat) yX4_scoreOf ∈ bigW := bgt (i := 599) (by decide +kernel) (by decide +kernel)
theorem m601 : Cond.instanceMethod yX4_scoreOf ∈ bigW := bgt (i := 601) (by decide +kernel) (by decide +kernel)
theorem m602 : Cond.code yX4_scoreOf prog_6_method_15_code (7 : Nat) (Option.some Jvm.ClassFile.FieldType.int) ∈ bigW := bgt (i := 602) (by decide +kernel) (by decide +kernel)
theorem m603 : Cond.methodLink "YardStacksModel" (77 : Nat) yX4_sooner ∈ bigW := bgt (i := 603) (by decide +kernel) (by decide +kernel)
theorem m605 : Cond.instanceMethod yX4_sooner ∈ bigW := bgt (i := 605) (by decide +kernel) (by decide +kernel)
theorem m606 : Cond.code yX4_sooner prog_6_method_13_code (6 : Nat) (Option.some Jvm.ClassFile.FieldType.int) ∈ bigW := bgt (i := 606) (by decide +kernel) (by decide +kernel)
theorem m607 : Cond.methodLink "YardStacksLaw" (90 : Nat) yX4_score ∈ bigW := bgt (i := 607) (by decide +kernel) (by decide +kernel)
theorem m608 : Cond.instanceMethod yX4_score ∈ bigW := bgt (i := 608) (by decide +kernel) (by decide +kernel)
theorem m609 : Cond.selects "YardStacksModel" yX4_score yX4_score ∈ bigW := bgt (i := 609) (by decide +kernel) (by decide +kernel)
theorem m610 : Cond.code yX4_score prog_6_method_25_code (3 : Nat) (Option.some Jvm.ClassFile.FieldType.int) ∈ bigW := bgt (i := 610) (by decide +kernel) (by decide +kernel)
theorem m611 : Cond.methodLink "YardStacksLaw" (93 : Nat) yX4_night ∈ bigW := bgt (i := 611) (by decide +kernel) (by decide +kernel)
theorem m612 : Cond.instanceMethod yX4_night ∈ bigW := bgt (i := 612) (by decide +kernel) (by decide +kernel)
theorem m613 : Cond.selects "YardStacksModel" yX4_night yX4_night ∈ bigW := bgt (i := 613) (by decide +kernel) (by decide +kernel)
theorem m614 : Cond.code yX4_night prog_6_method_28_code (4 : Nat) (Option.some Jvm.ClassFile.FieldType.int) ∈ bigW := bgt (i := 614) (by decide +kernel) (by decide +kernel)
theorem m615 : Cond.methodLink "YardStacksModel" (120 : Nat) yX4_worst ∈ bigW := bgt (i := 615) (by decide +kernel) (by decide +kernel)
theorem m617 : Cond.instanceMethod yX4_worst ∈ bigW := bgt (i := 617) (by decide +kernel) (by decide +kernel)
theorem m618 : Cond.code yX4_worst prog_6_method_27_code (6 : Nat) (Option.some Jvm.ClassFile.FieldType.int) ∈ bigW := bgt (i := 618) (by decide +kernel) (by decide +kernel)
theorem m619 : Cond.methodLink "YardStacksModel" (117 : Nat) yX4_aside ∈ bigW := bgt (i := 619) (by decide +kernel) (by decide +kernel)
theorem m621 : Cond.instanceMethod yX4_aside ∈ bigW := bgt (i := 621) (by decide +kernel) (by decide +kernel)
theorem m622 : Cond.code yX4_aside prog_6_method_26_code (5 : Nat) (Option.some Jvm.ClassFile.FieldType.int) ∈ bigW := bgt (i := 622) (by decide +kernel) (by decide +kernel)
theorem m623 : Cond.methodLink "YardStacksLaw" (97 : Nat) yX4_undo ∈ bigW := bgt (i := 623) (by decide +kernel) (by decide +kernel)
theorem m624 : Cond.instanceMethod yX4_undo ∈ bigW := bgt (i := 624) (by decide +kernel) (by decide +kernel)
theorem m625 : Cond.selects "YardStacksModel" yX4_undo yX4_undo ∈ bigW := bgt (i := 625) (by decide +kernel) (by decide +kernel)
theorem m626 : Cond.code yX4_undo prog_6_method_29_code (2 : Nat) (Option.some Jvm.ClassFile.FieldType.int) ∈ bigW := bgt (i := 626) (by decide +kernel) (by decide +kernel)
theorem m627 : Cond.methodLink "YardStacksLaw" (100 : Nat) yX4_where ∈ bigW := bgt (i := 627) (by decide +kernel) (by decide +kernel)
theorem m628 : Cond.instanceMethod yX4_where ∈ bigW := bgt (i := 628) (by decide +kernel) (by decide +kernel)
theorem m629 : Cond.selects "YardStacksModel" yX4_where yX4_where ∈ bigW := bgt (i := 629) (by decide +kernel) (by decide +kernel)
theorem m630 : Cond.code yX4_where prog_6_method_30_code (4 : Nat) (Option.some Jvm.ClassFile.FieldType.int) ∈ bigW := bgt (i := 630) (by decide +kernel) (by decide +kernel)
theorem m631 : Cond.methodLink "YardStacksLaw" (103 : Nat) yX4_at ∈ bigW := bgt (i := 631) (by decide +kernel) (by decide +kernel)
theorem m632 : Cond.instanceMethod yX4_at ∈ bigW := bgt (i := 632) (by decide +kernel) (by decide +kernel)
theorem m633 : Cond.selects "YardStacksModel" yX4_at yX4_at ∈ bigW := bgt (i := 633) (by decide +kernel) (by decide +kernel)
theorem m634 : Cond.code yX4_at prog_6_method_31_code (3 : Nat) (Option.some Jvm.ClassFile.FieldType.int) ∈ bigW := bgt (i := 634) (by decide +kernel) (by decide +kernel)
theorem m635 : Cond.methodLink "YardStacksLaw" (107 : Nat) yX4_count ∈ bigW := bgt (i := 635) (by decide +kernel) (by decide +kernel)
theorem m636 : Cond.instanceMethod yX4_count ∈ bigW := bgt (i := 636) (by decide +kernel) (by decide +kernel)
theorem m637 : Cond.selects "YardStacksModel" yX4_count yX4_count ∈ bigW := bgt (i := 637) (by decide +kernel) (by decide +kernel)
theorem m638 : Cond.code yX4_count prog_6_method_32_code (5 : Nat) (Option.some Jvm.ClassFile.FieldType.int) ∈ bigW := bgt (i := 638) (by decide +kernel) (by decide +kernel)
theorem m639 : Cond.arrayClass Jvm.ClassFile.FieldType.long ∈ bigW := bgt (i := 639) (by decide +kernel) (by decide +kernel)
theorem inX0 : ∀ w ∈ wsX00, w ∈ bigW := by
  intro w hw
  obtain ⟨k, hk, rfl⟩ := List.mem_map.mp hw
  have hk := List.mem_range.mp hk
  match k, hk with
  | 0, _ => exact m49
  | 1, _ => exact m51
  | 2, _ => exact m53
  | 3, _ => exact m55
  | 4, _ => exact m57
  | 5, _ => exact m59
  | k + 6, h => exact absurd h (by omega)
theorem inX1 : ∀ w ∈ wsX10, w ∈ bigW := by
  intro w hw
  obtain ⟨k, hk, rfl⟩ := List.mem_map.mp hw
  have hk := List.mem_range.mp hk
  match k, hk with
  | 0, _ => exact m113
  | 1, _ => exact m115
  | 2, _ => exact m117
  | 3, _ => exact m119
  | k + 4, h => exact absurd h (by omega)
theorem inX2 : ∀ w ∈ wsX20, w ∈ bigW := by
  intro w hw
  obtain ⟨k, hk, rfl⟩ := List.mem_map.mp hw
  have hk := List.mem_range.mp hk
  match k, hk with
  | 0, _ => exact m86
  | 1, _ => exact m88
  | 2, _ => exact m90
  | 3, _ => exact m92
  | 4, _ => exact m94
  | 5, _ => exact m96
  | k + 6, h => exact absurd h (by omega)
theorem inX3 : ∀ w ∈ wsX30, w ∈ bigW := by
  intro w hw
  obtain ⟨k, hk, rfl⟩ := List.mem_map.mp hw
  have hk := List.mem_range.mp hk
  match k, hk with
  | 0, _ => exact m128
  | 1, _ => exact m130
  | 2, _ => exact m132
  | 3, _ => exact m134
  | 4, _ => exact m136
  | 5, _ => exact m138
  | k + 6, h => exact absurd h (by omega)
theorem inX4 : ∀ w ∈ wsX40, w ∈ bigW := by
  intro w hw
  obtain ⟨k, hk, rfl⟩ := List.mem_map.mp hw
  have hk := List.mem_range.mp hk
  match k, hk with
  | 0, _ => exact m483
  | 1, _ => exact m485
  | 2, _ => exact m487
  | 3, _ => exact m489
  | 4, _ => exact m491
  | 5, _ => exact m493
  | 6, _ => exact m495
  | 7, _ => exact m497
  | 8, _ => exact m499
  | 9, _ => exact m501
  | 10, _ => exact m503
  | 11, _ => exact m505
  | 12, _ => exact m507
  | 13, _ => exact m509
  | 14, _ => exact m511
  | 15, _ => exact m513
  | 16, _ => exact m515
  | 17, _ => exact m517
  | k + 18, h => exact absurd h (by omega)
theorem slX3_hasBoxOfAnotherShip : Cond.selects "YardStacks" yX3_hasBoxOfAnotherShip yX3_hasBoxOfAnotherShip ∈ bigW := bgs (i := 0) (q := (yX3_hasBoxOfAnotherShip, 6)) (by decide +kernel)
theorem slX2_lift : Cond.selects "YardStacks$Stacks" yX2_lift yX2_lift ∈ bigW := bgs (i := 1) (q := (yX2_lift, 6)) (by decide +kernel)
theorem slX2_lay : Cond.selects "YardStacks$Stacks" yX2_lay yX2_lay ∈ bigW := bgs (i := 2) (q := (yX2_lay, 6)) (by decide +kernel)
theorem slX3_standingBoxes : Cond.selects "YardStacks" yX3_standingBoxes yX3_standingBoxes ∈ bigW := bgs (i := 3) (q := (yX3_standingBoxes, 6)) (by decide +kernel)
theorem slX3_boxesInTheWay : Cond.selects "YardStacks" yX3_boxesInTheWay yX3_boxesInTheWay ∈ bigW := bgs (i := 4) (q := (yX3_boxesInTheWay, 6)) (by decide +kernel)
theorem slX3_isInTheWay : Cond.selects "YardStacks" yX3_isInTheWay yX3_isInTheWay ∈ bigW := bgs (i := 5) (q := (yX3_isInTheWay, 6)) (by decide +kernel)
theorem slX3_soonerBelow : Cond.selects "YardStacks" yX3_soonerBelow yX3_soonerBelow ∈ bigW := bgs (i := 6) (q := (yX3_soonerBelow, 6)) (by decide +kernel)
theorem slX3_countOfRow : Cond.selects "YardStacks" yX3_countOfRow yX3_countOfRow ∈ bigW := bgs (i := 7) (q := (yX3_countOfRow, 6)) (by decide +kernel)
theorem slX3_weightOn : Cond.selects "YardStacks" yX3_weightOn yX3_weightOn ∈ bigW := bgs (i := 8) (q := (yX3_weightOn, 6)) (by decide +kernel)
theorem slX3_requireBox : Cond.selects "YardStacks" yX3_requireBox yX3_requireBox ∈ bigW := bgs (i := 10) (q := (yX3_requireBox, 6)) (by decide +kernel)
theorem slX3_requireRow : Cond.selects "YardStacks" yX3_requireRow yX3_requireRow ∈ bigW := bgs (i := 11) (q := (yX3_requireRow, 6)) (by decide +kernel)
theorem slX3_ruleBrokenByPut : Cond.selects "YardStacks" yX3_ruleBrokenByPut yX3_ruleBrokenByPut ∈ bigW := bgs (i := 12) (q := (yX3_ruleBrokenByPut, 6)) (by decide +kernel)
theorem slX3_ruleBrokenOnTop : Cond.selects "YardStacks" yX3_ruleBrokenOnTop yX3_ruleBrokenOnTop ∈ bigW := bgs (i := 13) (q := (yX3_ruleBrokenOnTop, 6)) (by decide +kernel)
theorem slX3_move : Cond.selects "YardStacks" yX3_move yX3_move ∈ bigW := bgs (i := 14) (q := (yX3_move, 6)) (by decide +kernel)
theorem slX3_ruleBrokenByShift : Cond.selects "YardStacks" yX3_ruleBrokenByShift yX3_ruleBrokenByShift ∈ bigW := bgs (i := 15) (q := (yX3_ruleBrokenByShift, 6)) (by decide +kernel)
theorem slX3_bestRow : Cond.selects "YardStacks" yX3_bestRow yX3_bestRow ∈ bigW := bgs (i := 16) (q := (yX3_bestRow, 6)) (by decide +kernel)
theorem slX3_wouldBeInTheWay : Cond.selects "YardStacks" yX3_wouldBeInTheWay yX3_wouldBeInTheWay ∈ bigW := bgs (i := 17) (q := (yX3_wouldBeInTheWay, 6)) (by decide +kernel)
theorem slX3_scoreOn : Cond.selects "YardStacks" yX3_scoreOn yX3_scoreOn ∈ bigW := bgs (i := 18) (q := (yX3_scoreOn, 6)) (by decide +kernel)
theorem slX3_moveOneAside : Cond.selects "YardStacks" yX3_moveOneAside yX3_moveOneAside ∈ bigW := bgs (i := 19) (q := (yX3_moveOneAside, 6)) (by decide +kernel)
theorem slX4_fails : Cond.selects "YardStacksModel" yX4_fails yX4_fails ∈ bigW := bgs (i := 20) (q := (yX4_fails, 18)) (by decide +kernel)
theorem slX4_isRow : Cond.selects "YardStacksModel" yX4_isRow yX4_isRow ∈ bigW := bgs (i := 21) (q := (yX4_isRow, 18)) (by decide +kernel)
theorem slX4_heightOf : Cond.selects "YardStacksModel" yX4_heightOf yX4_heightOf ∈ bigW := bgs (i := 22) (q := (yX4_heightOf, 18)) (by decide +kernel)
theorem slX4_isBox : Cond.selects "YardStacksModel" yX4_isBox yX4_isBox ∈ bigW := bgs (i := 23) (q := (yX4_isBox, 18)) (by decide +kernel)
theorem slX4_broken : Cond.selects "YardStacksModel" yX4_broken yX4_broken ∈ bigW := bgs (i := 24) (q := (yX4_broken, 18)) (by decide +kernel)
theorem slX4_boxAt : Cond.selects "YardStacksModel" yX4_boxAt yX4_boxAt ∈ bigW := bgs (i := 25) (q := (yX4_boxAt, 18)) (by decide +kernel)
theorem slX4_weightOf : Cond.selects "YardStacksModel" yX4_weightOf yX4_weightOf ∈ bigW := bgs (i := 26) (q := (yX4_weightOf, 18)) (by decide +kernel)
theorem slX4_hasOtherSize : Cond.selects "YardStacksModel" yX4_hasOtherSize yX4_hasOtherSize ∈ bigW := bgs (i := 27) (q := (yX4_hasOtherSize, 18)) (by decide +kernel)
theorem slX4_moves : Cond.selects "YardStacksModel" yX4_moves yX4_moves ∈ bigW := bgs (i := 28) (q := (yX4_moves, 18)) (by decide +kernel)
theorem slX4_goes : Cond.selects "YardStacksModel" yX4_goes yX4_goes ∈ bigW := bgs (i := 29) (q := (yX4_goes, 18)) (by decide +kernel)
theorem slX4_isTop : Cond.selects "YardStacksModel" yX4_isTop yX4_isTop ∈ bigW := bgs (i := 30) (q := (yX4_isTop, 18)) (by decide +kernel)
theorem slX4_scoreOf : Cond.selects "YardStacksModel" yX4_scoreOf yX4_scoreOf ∈ bigW := bgs (i := 31) (q := (yX4_scoreOf, 18)) (by decide +kernel)
theorem slX4_sooner : Cond.selects "YardStacksModel" yX4_sooner yX4_sooner ∈ bigW := bgs (i := 32) (q := (yX4_sooner, 18)) (by decide +kernel)
theorem slX4_worst : Cond.selects "YardStacksModel" yX4_worst yX4_worst ∈ bigW := bgs (i := 33) (q := (yX4_worst, 18)) (by decide +kernel)
theorem slX4_aside : Cond.selects "YardStacksModel" yX4_aside yX4_aside ∈ bigW := bgs (i := 34) (q := (yX4_aside, 18)) (by decide +kernel)
end
section
theorem dX3_init_0 : decode cX3_init 0 = .ok (.aload_n 0, 1) := by decide +kernel
theorem dX3_init_1 : decode cX3_init 1 = .ok (.invokespecial 1, 3) := by decide +kernel
theorem dX3_init_4 : decode cX3_init 4 = .ok (.aload_n 0, 1) := by decide +kernel
theorem dX3_init_5 : decode cX3_init 5 = .ok (.iload_n 3, 1) := by decide +kernel
theorem dX3_init_6 : decode cX3_init 6 = .ok (.sipush 400, 3) := by decide +kernel
theorem dX3_init_9 : decode cX3_init 9 = .ok (.invokestatic 9, 3) := by decide +kernel
theorem dX3_init_12 : decode cX3_init 12 = .ok (.putfield 13, 3) := by decide +kernel
theorem dX3_init_15 : decode cX3_init 15 = .ok (.aload_n 0, 1) := by decide +kernel
theorem dX3_init_16 : decode cX3_init 16 = .ok (.new 17, 3) := by decide +kernel
theorem dX3_init_19 : decode cX3_init 19 = .ok (.dup, 1) := by decide +kernel
theorem dX3_init_20 : decode cX3_init 20 = .ok (.invokespecial 19, 3) := by decide +kernel
theorem dX3_init_23 : decode cX3_init 23 = .ok (.putfield 20, 3) := by decide +kernel
theorem dX3_init_26 : decode cX3_init 26 = .ok (.aload_n 0, 1) := by decide +kernel
theorem dX3_init_27 : decode cX3_init 27 = .ok (.new 24, 3) := by decide +kernel
theorem dX3_init_30 : decode cX3_init 30 = .ok (.dup, 1) := by decide +kernel
theorem dX3_init_31 : decode cX3_init 31 = .ok (.iload_n 1, 1) := by decide +kernel
theorem dX3_init_32 : decode cX3_init 32 = .ok (.bipush 16, 2) := by decide +kernel
theorem dX3_init_34 : decode cX3_init 34 = .ok (.invokestatic 9, 3) := by decide +kernel
theorem dX3_init_37 : decode cX3_init 37 = .ok (.iload_n 2, 1) := by decide +kernel
theorem dX3_init_38 : decode cX3_init 38 = .ok (.bipush 8, 2) := by decide +kernel
theorem dX3_init_40 : decode cX3_init 40 = .ok (.invokestatic 9, 3) := by decide +kernel
theorem dX3_init_43 : decode cX3_init 43 = .ok (.invokespecial 26, 3) := by decide +kernel
theorem dX3_init_46 : decode cX3_init 46 = .ok (.putfield 29, 3) := by decide +kernel
theorem dX3_init_49 : decode cX3_init 49 = .ok (.aload_n 0, 1) := by decide +kernel
theorem dX3_init_50 : decode cX3_init 50 = .ok (.new 33, 3) := by decide +kernel
theorem dX3_init_53 : decode cX3_init 53 = .ok (.dup, 1) := by decide +kernel
theorem dX3_init_54 : decode cX3_init 54 = .ok (.invokespecial 35, 3) := by decide +kernel
theorem dX3_init_57 : decode cX3_init 57 = .ok (.putfield 36, 3) := by decide +kernel
theorem dX3_init_60 : decode cX3_init 60 = .ok (.aload_n 0, 1) := by decide +kernel
theorem dX3_init_61 : decode cX3_init 61 = .ok (.bipush 16, 2) := by decide +kernel
theorem dX3_init_63 : decode cX3_init 63 = .ok (.newarray .int, 2) := by decide +kernel
theorem dX3_init_65 : decode cX3_init 65 = .ok (.putfield 40, 3) := by decide +kernel
theorem dX3_init_68 : decode cX3_init 68 = .ok (.aload_n 0, 1) := by decide +kernel
theorem dX3_init_69 : decode cX3_init 69 = .ok (.bipush 16, 2) := by decide +kernel
theorem dX3_init_71 : decode cX3_init 71 = .ok (.newarray .int, 2) := by decide +kernel
theorem dX3_init_73 : decode cX3_init 73 = .ok (.putfield 44, 3) := by decide +kernel
theorem dX3_init_76 : decode cX3_init 76 = .ok (.return_, 1) := by decide +kernel
theorem dX3_held_0 : decode cX3_held 0 = .ok (.iconst 1, 1) := by decide +kernel
theorem dX3_held_1 : decode cX3_held 1 = .ok (.iload_n 0, 1) := by decide +kernel
theorem dX3_held_2 : decode cX3_held 2 = .ok (.iload_n 1, 1) := by decide +kernel
theorem dX3_held_3 : decode cX3_held 3 = .ok (.invokestatic 190, 3) := by decide +kernel
theorem dX3_held_6 : decode cX3_held 6 = .ok (.invokestatic 195, 3) := by decide +kernel
theorem dX3_held_9 : decode cX3_held 9 = .ok (.ireturn, 1) := by decide +kernel
theorem dX0_init_0 : decode cX0_init 0 = .ok (.aload_n 0, 1) := by decide +kernel
theorem dX0_init_1 : decode cX0_init 1 = .ok (.invokespecial 3, 3) := by decide +kernel
theorem dX0_init_4 : decode cX0_init 4 = .ok (.aload_n 0, 1) := by decide +kernel
theorem dX0_init_5 : decode cX0_init 5 = .ok (.bipush 60, 2) := by decide +kernel
theorem dX0_init_7 : decode cX0_init 7 = .ok (.newarray .int, 2) := by decide +kernel
theorem dX0_init_9 : decode cX0_init 9 = .ok (.putfield 9, 3) := by decide +kernel
theorem dX0_init_12 : decode cX0_init 12 = .ok (.aload_n 0, 1) := by decide +kernel
theorem dX0_init_13 : decode cX0_init 13 = .ok (.bipush 60, 2) := by decide +kernel
theorem dX0_init_15 : decode cX0_init 15 = .ok (.newarray .int, 2) := by decide +kernel
theorem dX0_init_17 : decode cX0_init 17 = .ok (.putfield 15, 3) := by decide +kernel
theorem dX0_init_20 : decode cX0_init 20 = .ok (.aload_n 0, 1) := by decide +kernel
theorem dX0_init_21 : decode cX0_init 21 = .ok (.bipush 60, 2) := by decide +kernel
theorem dX0_init_23 : decode cX0_init 23 = .ok (.newarray .int, 2) := by decide +kernel
theorem dX0_init_25 : decode cX0_init 25 = .ok (.putfield 18, 3) := by decide +kernel
theorem dX0_init_28 : decode cX0_init 28 = .ok (.aload_n 0, 1) := by decide +kernel
theorem dX0_init_29 : decode cX0_init 29 = .ok (.bipush 60, 2) := by decide +kernel
theorem dX0_init_31 : decode cX0_init 31 = .ok (.newarray .int, 2) := by decide +kernel
theorem dX0_init_33 : decode cX0_init 33 = .ok (.putfield 21, 3) := by decide +kernel
theorem dX0_init_36 : decode cX0_init 36 = .ok (.aload_n 0, 1) := by decide +kernel
theorem dX0_init_37 : decode cX0_init 37 = .ok (.bipush 60, 2) := by decide +kernel
theorem dX0_init_39 : decode cX0_init 39 = .ok (.newarray .int, 2) := by decide +kernel
theorem dX0_init_41 : decode cX0_init 41 = .ok (.putfield 24, 3) := by decide +kernel
theorem dX0_init_44 : decode cX0_init 44 = .ok (.return_, 1) := by decide +kernel
theorem dX2_init_0 : decode cX2_init 0 = .ok (.aload_n 0, 1) := by decide +kernel
theorem dX2_init_1 : decode cX2_init 1 = .ok (.invokespecial 3, 3) := by decide +kernel
theorem dX2_init_4 : decode cX2_init 4 = .ok (.aload_n 0, 1) := by decide +kernel
theorem dX2_init_5 : decode cX2_init 5 = .ok (.bipush 60, 2) := by decide +kernel
theorem dX2_init_7 : decode cX2_init 7 = .ok (.newarray .int, 2) := by decide +kernel
theorem dX2_init_9 : decode cX2_init 9 = .ok (.putfield 9, 3) := by decide +kernel
theorem dX2_init_12 : decode cX2_init 12 = .ok (.aload_n 0, 1) := by decide +kernel
theorem dX2_init_13 : decode cX2_init 13 = .ok (.bipush 60, 2) := by decide +kernel
theorem dX2_init_15 : decode cX2_init 15 = .ok (.newarray .int, 2) := by decide +kernel
theorem dX2_init_17 : decode cX2_init 17 = .ok (.putfield 15, 3) := by decide +kernel
theorem dX2_init_20 : decode cX2_init 20 = .ok (.aload_n 0, 1) := by decide +kernel
theorem dX2_init_21 : decode cX2_init 21 = .ok (.iload_n 1, 1) := by decide +kernel
theorem dX2_init_22 : decode cX2_init 22 = .ok (.putfield 18, 3) := by decide +kernel
theorem dX2_init_25 : decode cX2_init 25 = .ok (.aload_n 0, 1) := by decide +kernel
theorem dX2_init_26 : decode cX2_init 26 = .ok (.iload_n 2, 1) := by decide +kernel
theorem dX2_init_27 : decode cX2_init 27 = .ok (.putfield 22, 3) := by decide +kernel
theorem dX2_init_30 : decode cX2_init 30 = .ok (.aload_n 0, 1) := by decide +kernel
theorem dX2_init_31 : decode cX2_init 31 = .ok (.iload_n 1, 1) := by decide +kernel
theorem dX2_init_32 : decode cX2_init 32 = .ok (.iload_n 2, 1) := by decide +kernel
theorem dX2_init_33 : decode cX2_init 33 = .ok (.multianewarray 25 2, 4) := by decide +kernel
theorem dX2_init_37 : decode cX2_init 37 = .ok (.putfield 27, 3) := by decide +kernel
theorem dX2_init_40 : decode cX2_init 40 = .ok (.aload_n 0, 1) := by decide +kernel
theorem dX2_init_41 : decode cX2_init 41 = .ok (.iload_n 1, 1) := by decide +kernel
theorem dX2_init_42 : decode cX2_init 42 = .ok (.newarray .int, 2) := by decide +kernel
theorem dX2_init_44 : decode cX2_init 44 = .ok (.putfield 30, 3) := by decide +kernel
theorem dX2_init_47 : decode cX2_init 47 = .ok (.iconst 0, 1) := by decide +kernel
theorem dX2_init_48 : decode cX2_init 48 = .ok (.istore_n 3, 1) := by decide +kernel
theorem dX2_init_49 : decode cX2_init 49 = .ok (.iload_n 3, 1) := by decide +kernel
theorem dX2_init_50 : decode cX2_init 50 = .ok (.iload_n 1, 1) := by decide +kernel
theorem dX2_init_51 : decode cX2_init 51 = .ok (.if_icmp .ge 19, 3) := by decide +kernel
theorem dX2_init_54 : decode cX2_init 54 = .ok (.aload_n 0, 1) := by decide +kernel
theorem dX2_init_55 : decode cX2_init 55 = .ok (.getfield 27, 3) := by decide +kernel
theorem dX2_init_58 : decode cX2_init 58 = .ok (.iload_n 3, 1) := by decide +kernel
theorem dX2_init_59 : decode cX2_init 59 = .ok (.aaload, 1) := by decide +kernel
theorem dX2_init_60 : decode cX2_init 60 = .ok (.iconst (-1), 1) := by decide +kernel
theorem dX2_init_61 : decode cX2_init 61 = .ok (.invokestatic 33, 3) := by decide +kernel
theorem dX2_init_64 : decode cX2_init 64 = .ok (.iinc 3 1, 3) := by decide +kernel
theorem dX2_init_67 : decode cX2_init 67 = .ok (.goto (-18), 3) := by decide +kernel
theorem dX2_init_70 : decode cX2_init 70 = .ok (.aload_n 0, 1) := by decide +kernel
theorem dX2_init_71 : decode cX2_init 71 = .ok (.getfield 9, 3) := by decide +kernel
theorem dX2_init_74 : decode cX2_init 74 = .ok (.iconst (-1), 1) := by decide +kernel
theorem dX2_init_75 : decode cX2_init 75 = .ok (.invokestatic 33, 3) := by decide +kernel
theorem dX2_init_78 : decode cX2_init 78 = .ok (.aload_n 0, 1) := by decide +kernel
theorem dX2_init_79 : decode cX2_init 79 = .ok (.getfield 15, 3) := by decide +kernel
theorem dX2_init_82 : decode cX2_init 82 = .ok (.iconst (-1), 1) := by decide +kernel
theorem dX2_init_83 : decode cX2_init 83 = .ok (.invokestatic 33, 3) := by decide +kernel
theorem dX2_init_86 : decode cX2_init 86 = .ok (.return_, 1) := by decide +kernel
theorem dJ7_fill_0 : decode cJ7_fill 0 = .ok (.iconst 0, 1) := by decide +kernel
theorem dJ7_fill_1 : decode cJ7_fill 1 = .ok (.istore_n 2, 1) := by decide +kernel
theorem dJ7_fill_2 : decode cJ7_fill 2 = .ok (.aload_n 0, 1) := by decide +kernel
theorem dJ7_fill_3 : decode cJ7_fill 3 = .ok (.arraylength, 1) := by decide +kernel
theorem dJ7_fill_4 : decode cJ7_fill 4 = .ok (.istore_n 3, 1) := by decide +kernel
theorem dJ7_fill_5 : decode cJ7_fill 5 = .ok (.iload_n 2, 1) := by decide +kernel
theorem dJ7_fill_6 : decode cJ7_fill 6 = .ok (.iload_n 3, 1) := by decide +kernel
theorem dJ7_fill_7 : decode cJ7_fill 7 = .ok (.if_icmp .ge 13, 3) := by decide +kernel
theorem dJ7_fill_10 : decode cJ7_fill 10 = .ok (.aload_n 0, 1) := by decide +kernel
theorem dJ7_fill_11 : decode cJ7_fill 11 = .ok (.iload_n 2, 1) := by decide +kernel
theorem dJ7_fill_12 : decode cJ7_fill 12 = .ok (.iload_n 1, 1) := by decide +kernel
theorem dJ7_fill_13 : decode cJ7_fill 13 = .ok (.iastore, 1) := by decide +kernel
theorem dJ7_fill_14 : decode cJ7_fill 14 = .ok (.iinc 2 1, 3) := by decide +kernel
theorem dJ7_fill_17 : decode cJ7_fill 17 = .ok (.goto (-12), 3) := by decide +kernel
theorem dJ7_fill_20 : decode cJ7_fill 20 = .ok (.return_, 1) := by decide +kernel
theorem dX1_init_0 : decode cX1_init 0 = .ok (.aload_n 0, 1) := by decide +kernel
theorem dX1_init_1 : decode cX1_init 1 = .ok (.invokespecial 3, 3) := by decide +kernel
theorem dX1_init_4 : decode cX1_init 4 = .ok (.aload_n 0, 1) := by decide +kernel
theorem dX1_init_5 : decode cX1_init 5 = .ok (.bipush 100, 2) := by decide +kernel
theorem dX1_init_7 : decode cX1_init 7 = .ok (.newarray .int, 2) := by decide +kernel
theorem dX1_init_9 : decode cX1_init 9 = .ok (.putfield 9, 3) := by decide +kernel
theorem dX1_init_12 : decode cX1_init 12 = .ok (.aload_n 0, 1) := by decide +kernel
theorem dX1_init_13 : decode cX1_init 13 = .ok (.bipush 100, 2) := by decide +kernel
theorem dX1_init_15 : decode cX1_init 15 = .ok (.newarray .int, 2) := by decide +kernel
theorem dX1_init_17 : decode cX1_init 17 = .ok (.putfield 15, 3) := by decide +kernel
theorem dX1_init_20 : decode cX1_init 20 = .ok (.return_, 1) := by decide +kernel
theorem dX3_ground_0 : decode cX3_ground 0 = .ok (.aload_n 0, 1) := by decide +kernel
theorem dX3_ground_1 : decode cX3_ground 1 = .ok (.getfield 29, 3) := by decide +kernel
theorem dX3_ground_4 : decode cX3_ground 4 = .ok (.iload_n 1, 1) := by decide +kernel
theorem dX3_ground_5 : decode cX3_ground 5 = .ok (.invokevirtual 70, 3) := by decide +kernel
theorem dX3_ground_8 : decode cX3_ground 8 = .ok (.ifCond .eq 24, 3) := by decide +kernel
theorem dX3_ground_11 : decode cX3_ground 11 = .ok (.iload_n 2, 1) := by decide +kernel
theorem dX3_ground_12 : decode cX3_ground 12 = .ok (.iconst 0, 1) := by decide +kernel
theorem dX3_ground_13 : decode cX3_ground 13 = .ok (.iconst 2, 1) := by decide +kernel
theorem dX3_ground_14 : decode cX3_ground 14 = .ok (.invokestatic 47, 3) := by decide +kernel
theorem dX3_ground_17 : decode cX3_ground 17 = .ok (.ifCond .eq 15, 3) := by decide +kernel
theorem dX3_ground_20 : decode cX3_ground 20 = .ok (.aload_n 0, 1) := by decide +kernel
theorem dX3_ground_21 : decode cX3_ground 21 = .ok (.getfield 29, 3) := by decide +kernel
theorem dX3_ground_24 : decode cX3_ground 24 = .ok (.getfield 74, 3) := by decide +kernel
theorem dX3_ground_27 : decode cX3_ground 27 = .ok (.iload_n 1, 1) := by decide +kernel
theorem dX3_ground_28 : decode cX3_ground 28 = .ok (.iaload, 1) := by decide +kernel
theorem dX3_ground_29 : decode cX3_ground 29 = .ok (.ifCond .le 5, 3) := by decide +kernel
theorem dX3_ground_32 : decode cX3_ground 32 = .ok (.iconst 0, 1) := by decide +kernel
theorem dX3_ground_33 : decode cX3_ground 33 = .ok (.ireturn, 1) := by decide +kernel
theorem dX3_ground_34 : decode cX3_ground 34 = .ok (.aload_n 0, 1) := by decide +kernel
theorem dX3_ground_35 : decode cX3_ground 35 = .ok (.getfield 40, 3) := by decide +kernel
theorem dX3_ground_38 : decode cX3_ground 38 = .ok (.iload_n 1, 1) := by decide +kernel
theorem dX3_ground_39 : decode cX3_ground 39 = .ok (.iload_n 2, 1) := by decide +kernel
theorem dX3_ground_40 : decode cX3_ground 40 = .ok (.iastore, 1) := by decide +kernel
theorem dX3_ground_41 : decode cX3_ground 41 = .ok (.iconst 1, 1) := by decide +kernel
theorem dX3_ground_42 : decode cX3_ground 42 = .ok (.ireturn, 1) := by decide +kernel
theorem dX2_hasRow_0 : decode cX2_hasRow 0 = .ok (.iload_n 1, 1) := by decide +kernel
theorem dX2_hasRow_1 : decode cX2_hasRow 1 = .ok (.ifCond .lt 15, 3) := by decide +kernel
theorem dX2_hasRow_4 : decode cX2_hasRow 4 = .ok (.iload_n 1, 1) := by decide +kernel
theorem dX2_hasRow_5 : decode cX2_hasRow 5 = .ok (.aload_n 0, 1) := by decide +kernel
theorem dX2_hasRow_6 : decode cX2_hasRow 6 = .ok (.getfield 18, 3) := by decide +kernel
theorem dX2_hasRow_9 : decode cX2_hasRow 9 = .ok (.if_icmp .ge 7, 3) := by decide +kernel
theorem dX2_hasRow_12 : decode cX2_hasRow 12 = .ok (.iconst 1, 1) := by decide +kernel
theorem dX2_hasRow_13 : decode cX2_hasRow 13 = .ok (.goto 4, 3) := by decide +kernel
theorem dX2_hasRow_16 : decode cX2_hasRow 16 = .ok (.iconst 0, 1) := by decide +kernel
theorem dX2_hasRow_17 : decode cX2_hasRow 17 = .ok (.ireturn, 1) := by decide +kernel
theorem dX3_isWithin_0 : decode cX3_isWithin 0 = .ok (.iload_n 0, 1) := by decide +kernel
theorem dX3_isWithin_1 : decode cX3_isWithin 1 = .ok (.iload_n 1, 1) := by decide +kernel
theorem dX3_isWithin_2 : decode cX3_isWithin 2 = .ok (.if_icmp .lt 12, 3) := by decide +kernel
theorem dX3_isWithin_5 : decode cX3_isWithin 5 = .ok (.iload_n 0, 1) := by decide +kernel
theorem dX3_isWithin_6 : decode cX3_isWithin 6 = .ok (.iload_n 2, 1) := by decide +kernel
theorem dX3_isWithin_7 : decode cX3_isWithin 7 = .ok (.if_icmp .gt 7, 3) := by decide +kernel
theorem dX3_isWithin_10 : decode cX3_isWithin 10 = .ok (.iconst 1, 1) := by decide +kernel
theorem dX3_isWithin_11 : decode cX3_isWithin 11 = .ok (.goto 4, 3) := by decide +kernel
theorem dX3_isWithin_14 : decode cX3_isWithin 14 = .ok (.iconst 0, 1) := by decide +kernel
theorem dX3_isWithin_15 : decode cX3_isWithin 15 = .ok (.ireturn, 1) := by decide +kernel
theorem dX3_reserve_0 : decode cX3_reserve 0 = .ok (.aload_n 0, 1) := by decide +kernel
theorem dX3_reserve_1 : decode cX3_reserve 1 = .ok (.getfield 29, 3) := by decide +kernel
theorem dX3_reserve_4 : decode cX3_reserve 4 = .ok (.iload_n 1, 1) := by decide +kernel
theorem dX3_reserve_5 : decode cX3_reserve 5 = .ok (.invokevirtual 70, 3) := by decide +kernel
theorem dX3_reserve_8 : decode cX3_reserve 8 = .ok (.ifCond .eq 13, 3) := by decide +kernel
theorem dX3_reserve_11 : decode cX3_reserve 11 = .ok (.iload_n 2, 1) := by decide +kernel
theorem dX3_reserve_12 : decode cX3_reserve 12 = .ok (.iconst 0, 1) := by decide +kernel
theorem dX3_reserve_13 : decode cX3_reserve 13 = .ok (.bipush 9, 2) := by decide +kernel
theorem dX3_reserve_15 : decode cX3_reserve 15 = .ok (.invokestatic 47, 3) := by decide +kernel
theorem dX3_reserve_18 : decode cX3_reserve 18 = .ok (.ifCond .ne 5, 3) := by decide +kernel
theorem dX3_reserve_21 : decode cX3_reserve 21 = .ok (.iconst 0, 1) := by decide +kernel
theorem dX3_reserve_22 : decode cX3_reserve 22 = .ok (.ireturn, 1) := by decide +kernel
theorem dX3_reserve_23 : decode cX3_reserve 23 = .ok (.iload_n 2, 1) := by decide +kernel
theorem dX3_reserve_24 : decode cX3_reserve 24 = .ok (.ifCond .eq 14, 3) := by decide +kernel
theorem dX3_reserve_27 : decode cX3_reserve 27 = .ok (.aload_n 0, 1) := by decide +kernel
theorem dX3_reserve_28 : decode cX3_reserve 28 = .ok (.iload_n 1, 1) := by decide +kernel
theorem dX3_reserve_29 : decode cX3_reserve 29 = .ok (.iload_n 2, 1) := by decide +kernel
theorem dX3_reserve_30 : decode cX3_reserve 30 = .ok (.invokevirtual 77, 3) := by decide +kernel
theorem dX3_reserve_33 : decode cX3_reserve 33 = .ok (.ifCond .eq 5, 3) := by decide +kernel
theorem dX3_reserve_36 : decode cX3_reserve 36 = .ok (.iconst 0, 1) := by decide +kernel
theorem dX3_reserve_37 : decode cX3_reserve 37 = .ok (.ireturn, 1) := by decide +kernel
theorem dX3_reserve_38 : decode cX3_reserve 38 = .ok (.aload_n 0, 1) := by decide +kernel
theorem dX3_reserve_39 : decode cX3_reserve 39 = .ok (.getfield 44, 3) := by decide +kernel
theorem dX3_reserve_42 : decode cX3_reserve 42 = .ok (.iload_n 1, 1) := by decide +kernel
theorem dX3_reserve_43 : decode cX3_reserve 43 = .ok (.iload_n 2, 1) := by decide +kernel
theorem dX3_reserve_44 : decode cX3_reserve 44 = .ok (.iastore, 1) := by decide +kernel
theorem dX3_reserve_45 : decode cX3_reserve 45 = .ok (.iconst 1, 1) := by decide +kernel
theorem dX3_reserve_46 : decode cX3_reserve 46 = .ok (.ireturn, 1) := by decide +kernel
theorem dX3_hasBoxOfAnotherShip_0 : decode cX3_hasBoxOfAnotherShip 0 = .ok (.iconst 0, 1) := by decide +kernel
theorem dX3_hasBoxOfAnotherShip_1 : decode cX3_hasBoxOfAnotherShip 1 = .ok (.istore_n 3, 1) := by decide +kernel
theorem dX3_hasBoxOfAnotherShip_2 : decode cX3_hasBoxOfAnotherShip 2 = .ok (.iload_n 3, 1) := by decide +kernel
theorem dX3_hasBoxOfAnotherShip_3 : decode cX3_hasBoxOfAnotherShip 3 = .ok (.aload_n 0, 1) := by decide +kernel
theorem dX3_hasBoxOfAnotherShip_4 : decode cX3_hasBoxOfAnotherShip 4 = .ok (.getfield 29, 3) := by decide +kernel
theorem dX3_hasBoxOfAnotherShip_7 : decode cX3_hasBoxOfAnotherShip 7 = .ok (.getfield 74, 3) := by decide +kernel
theorem dX3_hasBoxOfAnotherShip_10 : decode cX3_hasBoxOfAnotherShip 10 = .ok (.iload_n 1, 1) := by decide +kernel
theorem dX3_hasBoxOfAnotherShip_11 : decode cX3_hasBoxOfAnotherShip 11 = .ok (.iaload, 1) := by decide +kernel
theorem dX3_hasBoxOfAnotherShip_12 : decode cX3_hasBoxOfAnotherShip 12 = .ok (.if_icmp .ge 34, 3) := by decide +kernel
theorem dX3_hasBoxOfAnotherShip_15 : decode cX3_hasBoxOfAnotherShip 15 = .ok (.aload_n 0, 1) := by decide +kernel
theorem dX3_hasBoxOfAnotherShip_16 : decode cX3_hasBoxOfAnotherShip 16 = .ok (.getfield 20, 3) := by decide +kernel
theorem dX3_hasBoxOfAnotherShip_19 : decode cX3_hasBoxOfAnotherShip 19 = .ok (.getfield 155, 3) := by decide +kernel
theorem dX3_hasBoxOfAnotherShip_22 : decode cX3_hasBoxOfAnotherShip 22 = .ok (.aload_n 0, 1) := by decide +kernel
theorem dX3_hasBoxOfAnotherShip_23 : decode cX3_hasBoxOfAnotherShip 23 = .ok (.getfield 29, 3) := by decide +kernel
theorem dX3_hasBoxOfAnotherShip_26 : decode cX3_hasBoxOfAnotherShip 26 = .ok (.getfield 171, 3) := by decide +kernel
theorem dX3_hasBoxOfAnotherShip_29 : decode cX3_hasBoxOfAnotherShip 29 = .ok (.iload_n 1, 1) := by decide +kernel
theorem dX3_hasBoxOfAnotherShip_30 : decode cX3_hasBoxOfAnotherShip 30 = .ok (.aaload, 1) := by decide +kernel
theorem dX3_hasBoxOfAnotherShip_31 : decode cX3_hasBoxOfAnotherShip 31 = .ok (.iload_n 3, 1) := by decide +kernel
theorem dX3_hasBoxOfAnotherShip_32 : decode cX3_hasBoxOfAnotherShip 32 = .ok (.iaload, 1) := by decide +kernel
theorem dX3_hasBoxOfAnotherShip_33 : decode cX3_hasBoxOfAnotherShip 33 = .ok (.iaload, 1) := by decide +kernel
theorem dX3_hasBoxOfAnotherShip_34 : decode cX3_hasBoxOfAnotherShip 34 = .ok (.iload_n 2, 1) := by decide +kernel
theorem dX3_hasBoxOfAnotherShip_35 : decode cX3_hasBoxOfAnotherShip 35 = .ok (.if_icmp .eq 5, 3) := by decide +kernel
theorem dX3_hasBoxOfAnotherShip_38 : decode cX3_hasBoxOfAnotherShip 38 = .ok (.iconst 1, 1) := by decide +kernel
theorem dX3_hasBoxOfAnotherShip_39 : decode cX3_hasBoxOfAnotherShip 39 = .ok (.ireturn, 1) := by decide +kernel
theorem dX3_hasBoxOfAnotherShip_40 : decode cX3_hasBoxOfAnotherShip 40 = .ok (.iinc 3 1, 3) := by decide +kernel
theorem dX3_hasBoxOfAnotherShip_43 : decode cX3_hasBoxOfAnotherShip 43 = .ok (.goto (-41), 3) := by decide +kernel
theorem dX3_hasBoxOfAnotherShip_46 : decode cX3_hasBoxOfAnotherShip 46 = .ok (.iconst 0, 1) := by decide +kernel
theorem dX3_hasBoxOfAnotherShip_47 : decode cX3_hasBoxOfAnotherShip 47 = .ok (.ireturn, 1) := by decide +kernel
theorem dX3_undo_0 : decode cX3_undo 0 = .ok (.aload_n 0, 1) := by decide +kernel
theorem dX3_undo_1 : decode cX3_undo 1 = .ok (.getfield 36, 3) := by decide +kernel
theorem dX3_undo_4 : decode cX3_undo 4 = .ok (.getfield 118, 3) := by decide +kernel
theorem dX3_undo_7 : decode cX3_undo 7 = .ok (.ifCond .ne 5, 3) := by decide +kernel
theorem dX3_undo_10 : decode cX3_undo 10 = .ok (.iconst (-1), 1) := by decide +kernel
theorem dX3_undo_11 : decode cX3_undo 11 = .ok (.ireturn, 1) := by decide +kernel
theorem dX3_undo_12 : decode cX3_undo 12 = .ok (.aload_n 0, 1) := by decide +kernel
theorem dX3_undo_13 : decode cX3_undo 13 = .ok (.getfield 36, 3) := by decide +kernel
theorem dX3_undo_16 : decode cX3_undo 16 = .ok (.invokevirtual 121, 3) := by decide +kernel
theorem dX3_undo_19 : decode cX3_undo 19 = .ok (.istore_n 1, 1) := by decide +kernel
theorem dX3_undo_20 : decode cX3_undo 20 = .ok (.aload_n 0, 1) := by decide +kernel
theorem dX3_undo_21 : decode cX3_undo 21 = .ok (.getfield 36, 3) := by decide +kernel
theorem dX3_undo_24 : decode cX3_undo 24 = .ok (.getfield 125, 3) := by decide +kernel
theorem dX3_undo_27 : decode cX3_undo 27 = .ok (.iload_n 1, 1) := by decide +kernel
theorem dX3_undo_28 : decode cX3_undo 28 = .ok (.iaload, 1) := by decide +kernel
theorem dX3_undo_29 : decode cX3_undo 29 = .ok (.istore_n 2, 1) := by decide +kernel
theorem dX3_undo_30 : decode cX3_undo 30 = .ok (.aload_n 0, 1) := by decide +kernel
theorem dX3_undo_31 : decode cX3_undo 31 = .ok (.getfield 29, 3) := by decide +kernel
theorem dX3_undo_34 : decode cX3_undo 34 = .ok (.iload_n 2, 1) := by decide +kernel
theorem dX3_undo_35 : decode cX3_undo 35 = .ok (.aload_n 0, 1) := by decide +kernel
theorem dX3_undo_36 : decode cX3_undo 36 = .ok (.getfield 36, 3) := by decide +kernel
theorem dX3_undo_39 : decode cX3_undo 39 = .ok (.getfield 127, 3) := by decide +kernel
theorem dX3_undo_42 : decode cX3_undo 42 = .ok (.iload_n 1, 1) := by decide +kernel
theorem dX3_undo_43 : decode cX3_undo 43 = .ok (.iaload, 1) := by decide +kernel
theorem dX3_undo_44 : decode cX3_undo 44 = .ok (.invokevirtual 130, 3) := by decide +kernel
theorem dX3_undo_47 : decode cX3_undo 47 = .ok (.iload_n 2, 1) := by decide +kernel
theorem dX3_undo_48 : decode cX3_undo 48 = .ok (.ireturn, 1) := by decide +kernel
theorem dX1_dropLatest_0 : decode cX1_dropLatest 0 = .ok (.aload_n 0, 1) := by decide +kernel
theorem dX1_dropLatest_1 : decode cX1_dropLatest 1 = .ok (.dup, 1) := by decide +kernel
theorem dX1_dropLatest_2 : decode cX1_dropLatest 2 = .ok (.getfield 18, 3) := by decide +kernel
theorem dX1_dropLatest_5 : decode cX1_dropLatest 5 = .ok (.iconst 1, 1) := by decide +kernel
theorem dX1_dropLatest_6 : decode cX1_dropLatest 6 = .ok (.isub, 1) := by decide +kernel
theorem dX1_dropLatest_7 : decode cX1_dropLatest 7 = .ok (.putfield 18, 3) := by decide +kernel
theorem dX1_dropLatest_10 : decode cX1_dropLatest 10 = .ok (.aload_n 0, 1) := by decide +kernel
theorem dX1_dropLatest_11 : decode cX1_dropLatest 11 = .ok (.dup, 1) := by decide +kernel
theorem dX1_dropLatest_12 : decode cX1_dropLatest 12 = .ok (.getfield 22, 3) := by decide +kernel
theorem dX1_dropLatest_15 : decode cX1_dropLatest 15 = .ok (.iconst 1, 1) := by decide +kernel
theorem dX1_dropLatest_16 : decode cX1_dropLatest 16 = .ok (.isub, 1) := by decide +kernel
theorem dX1_dropLatest_17 : decode cX1_dropLatest 17 = .ok (.putfield 22, 3) := by decide +kernel
theorem dX1_dropLatest_20 : decode cX1_dropLatest 20 = .ok (.aload_n 0, 1) := by decide +kernel
theorem dX1_dropLatest_21 : decode cX1_dropLatest 21 = .ok (.getfield 18, 3) := by decide +kernel
theorem dX1_dropLatest_24 : decode cX1_dropLatest 24 = .ok (.bipush 100, 2) := by decide +kernel
theorem dX1_dropLatest_26 : decode cX1_dropLatest 26 = .ok (.irem, 1) := by decide +kernel
theorem dX1_dropLatest_27 : decode cX1_dropLatest 27 = .ok (.ireturn, 1) := by decide +kernel
theorem dX2_bring_0 : decode cX2_bring 0 = .ok (.aload_n 0, 1) := by decide +kernel
theorem dX2_bring_1 : decode cX2_bring 1 = .ok (.iload_n 1, 1) := by decide +kernel
theorem dX2_bring_2 : decode cX2_bring 2 = .ok (.invokevirtual 39, 3) := by decide +kernel
theorem dX2_bring_5 : decode cX2_bring 5 = .ok (.ifCond .eq 8, 3) := by decide +kernel
theorem dX2_bring_8 : decode cX2_bring 8 = .ok (.aload_n 0, 1) := by decide +kernel
theorem dX2_bring_9 : decode cX2_bring 9 = .ok (.iload_n 1, 1) := by decide +kernel
theorem dX2_bring_10 : decode cX2_bring 10 = .ok (.invokevirtual 47, 3) := by decide +kernel
theorem dX2_bring_13 : decode cX2_bring 13 = .ok (.iload_n 2, 1) := by decide +kernel
theorem dX2_bring_14 : decode cX2_bring 14 = .ok (.iconst (-1), 1) := by decide +kernel
theorem dX2_bring_15 : decode cX2_bring 15 = .ok (.if_icmp .eq 9, 3) := by decide +kernel
theorem dX2_bring_18 : decode cX2_bring 18 = .ok (.aload_n 0, 1) := by decide +kernel
theorem dX2_bring_19 : decode cX2_bring 19 = .ok (.iload_n 1, 1) := by decide +kernel
theorem dX2_bring_20 : decode cX2_bring 20 = .ok (.iload_n 2, 1) := by decide +kernel
theorem dX2_bring_21 : decode cX2_bring 21 = .ok (.invokevirtual 51, 3) := by decide +kernel
theorem dX2_bring_24 : decode cX2_bring 24 = .ok (.return_, 1) := by decide +kernel
theorem dX2_stands_0 : decode cX2_stands 0 = .ok (.aload_n 0, 1) := by decide +kernel
theorem dX2_stands_1 : decode cX2_stands 1 = .ok (.getfield 9, 3) := by decide +kernel
theorem dX2_stands_4 : decode cX2_stands 4 = .ok (.iload_n 1, 1) := by decide +kernel
theorem dX2_stands_5 : decode cX2_stands 5 = .ok (.iaload, 1) := by decide +kernel
theorem dX2_stands_6 : decode cX2_stands 6 = .ok (.iconst (-1), 1) := by decide +kernel
theorem dX2_stands_7 : decode cX2_stands 7 = .ok (.if_icmp .eq 7, 3) := by decide +kernel
theorem dX2_stands_10 : decode cX2_stands 10 = .ok (.iconst 1, 1) := by decide +kernel
theorem dX2_stands_11 : decode cX2_stands 11 = .ok (.goto 4, 3) := by decide +kernel
theorem dX2_stands_14 : decode cX2_stands 14 = .ok (.iconst 0, 1) := by decide +kernel
theorem dX2_stands_15 : decode cX2_stands 15 = .ok (.ireturn, 1) := by decide +kernel
theorem dX2_lift_0 : decode cX2_lift 0 = .ok (.aload_n 0, 1) := by decide +kernel
theorem dX2_lift_1 : decode cX2_lift 1 = .ok (.getfield 9, 3) := by decide +kernel
theorem dX2_lift_4 : decode cX2_lift 4 = .ok (.iload_n 1, 1) := by decide +kernel
theorem dX2_lift_5 : decode cX2_lift 5 = .ok (.iaload, 1) := by decide +kernel
theorem dX2_lift_6 : decode cX2_lift 6 = .ok (.istore_n 2, 1) := by decide +kernel
theorem dX2_lift_7 : decode cX2_lift 7 = .ok (.aload_n 0, 1) := by decide +kernel
theorem dX2_lift_8 : decode cX2_lift 8 = .ok (.getfield 30, 3) := by decide +kernel
theorem dX2_lift_11 : decode cX2_lift 11 = .ok (.iload_n 2, 1) := by decide +kernel
theorem dX2_lift_12 : decode cX2_lift 12 = .ok (.dup2, 1) := by decide +kernel
theorem dX2_lift_13 : decode cX2_lift 13 = .ok (.iaload, 1) := by decide +kernel
theorem dX2_lift_14 : decode cX2_lift 14 = .ok (.iconst 1, 1) := by decide +kernel
theorem dX2_lift_15 : decode cX2_lift 15 = .ok (.isub, 1) := by decide +kernel
theorem dX2_lift_16 : decode cX2_lift 16 = .ok (.iastore, 1) := by decide +kernel
theorem dX2_lift_17 : decode cX2_lift 17 = .ok (.aload_n 0, 1) := by decide +kernel
theorem dX2_lift_18 : decode cX2_lift 18 = .ok (.getfield 27, 3) := by decide +kernel
theorem dX2_lift_21 : decode cX2_lift 21 = .ok (.iload_n 2, 1) := by decide +kernel
theorem dX2_lift_22 : decode cX2_lift 22 = .ok (.aaload, 1) := by decide +kernel
theorem dX2_lift_23 : decode cX2_lift 23 = .ok (.aload_n 0, 1) := by decide +kernel
theorem dX2_lift_24 : decode cX2_lift 24 = .ok (.getfield 30, 3) := by decide +kernel
theorem dX2_lift_27 : decode cX2_lift 27 = .ok (.iload_n 2, 1) := by decide +kernel
theorem dX2_lift_28 : decode cX2_lift 28 = .ok (.iaload, 1) := by decide +kernel
theorem dX2_lift_29 : decode cX2_lift 29 = .ok (.iconst (-1), 1) := by decide +kernel
theorem dX2_lift_30 : decode cX2_lift 30 = .ok (.iastore, 1) := by decide +kernel
theorem dX2_lift_31 : decode cX2_lift 31 = .ok (.aload_n 0, 1) := by decide +kernel
theorem dX2_lift_32 : decode cX2_lift 32 = .ok (.getfield 9, 3) := by decide +kernel
theorem dX2_lift_35 : decode cX2_lift 35 = .ok (.iload_n 1, 1) := by decide +kernel
theorem dX2_lift_36 : decode cX2_lift 36 = .ok (.iconst (-1), 1) := by decide +kernel
theorem dX2_lift_37 : decode cX2_lift 37 = .ok (.iastore, 1) := by decide +kernel
theorem dX2_lift_38 : decode cX2_lift 38 = .ok (.aload_n 0, 1) := by decide +kernel
theorem dX2_lift_39 : decode cX2_lift 39 = .ok (.getfield 15, 3) := by decide +kernel
theorem dX2_lift_42 : decode cX2_lift 42 = .ok (.iload_n 1, 1) := by decide +kernel
theorem dX2_lift_43 : decode cX2_lift 43 = .ok (.iconst (-1), 1) := by decide +kernel
theorem dX2_lift_44 : decode cX2_lift 44 = .ok (.iastore, 1) := by decide +kernel
theorem dX2_lift_45 : decode cX2_lift 45 = .ok (.return_, 1) := by decide +kernel
theorem dX2_lay_0 : decode cX2_lay 0 = .ok (.aload_n 0, 1) := by decide +kernel
theorem dX2_lay_1 : decode cX2_lay 1 = .ok (.getfield 30, 3) := by decide +kernel
theorem dX2_lay_4 : decode cX2_lay 4 = .ok (.iload_n 2, 1) := by decide +kernel
theorem dX2_lay_5 : decode cX2_lay 5 = .ok (.iaload, 1) := by decide +kernel
theorem dX2_lay_6 : decode cX2_lay 6 = .ok (.istore_n 3, 1) := by decide +kernel
theorem dX2_lay_7 : decode cX2_lay 7 = .ok (.aload_n 0, 1) := by decide +kernel
theorem dX2_lay_8 : decode cX2_lay 8 = .ok (.getfield 27, 3) := by decide +kernel
theorem dX2_lay_11 : decode cX2_lay 11 = .ok (.iload_n 2, 1) := by decide +kernel
theorem dX2_lay_12 : decode cX2_lay 12 = .ok (.aaload, 1) := by decide +kernel
theorem dX2_lay_13 : decode cX2_lay 13 = .ok (.iload_n 3, 1) := by decide +kernel
theorem dX2_lay_14 : decode cX2_lay 14 = .ok (.iload_n 1, 1) := by decide +kernel
theorem dX2_lay_15 : decode cX2_lay 15 = .ok (.iastore, 1) := by decide +kernel
theorem dX2_lay_16 : decode cX2_lay 16 = .ok (.aload_n 0, 1) := by decide +kernel
theorem dX2_lay_17 : decode cX2_lay 17 = .ok (.getfield 9, 3) := by decide +kernel
theorem dX2_lay_20 : decode cX2_lay 20 = .ok (.iload_n 1, 1) := by decide +kernel
theorem dX2_lay_21 : decode cX2_lay 21 = .ok (.iload_n 2, 1) := by decide +kernel
theorem dX2_lay_22 : decode cX2_lay 22 = .ok (.iastore, 1) := by decide +kernel
theorem dX2_lay_23 : decode cX2_lay 23 = .ok (.aload_n 0, 1) := by decide +kernel
theorem dX2_lay_24 : decode cX2_lay 24 = .ok (.getfield 15, 3) := by decide +kernel
theorem dX2_lay_27 : decode cX2_lay 27 = .ok (.iload_n 1, 1) := by decide +kernel
theorem dX2_lay_28 : decode cX2_lay 28 = .ok (.iload_n 3, 1) := by decide +kernel
theorem dX2_lay_29 : decode cX2_lay 29 = .ok (.iastore, 1) := by decide +kernel
theorem dX2_lay_30 : decode cX2_lay 30 = .ok (.aload_n 0, 1) := by decide +kernel
theorem dX2_lay_31 : decode cX2_lay 31 = .ok (.getfield 30, 3) := by decide +kernel
theorem dX2_lay_34 : decode cX2_lay 34 = .ok (.iload_n 2, 1) := by decide +kernel
theorem dX2_lay_35 : decode cX2_lay 35 = .ok (.dup2, 1) := by decide +kernel
theorem dX2_lay_36 : decode cX2_lay 36 = .ok (.iaload, 1) := by decide +kernel
theorem dX2_lay_37 : decode cX2_lay 37 = .ok (.iconst 1, 1) := by decide +kernel
theorem dX2_lay_38 : decode cX2_lay 38 = .ok (.iadd, 1) := by decide +kernel
theorem dX2_lay_39 : decode cX2_lay 39 = .ok (.iastore, 1) := by decide +kernel
theorem dX2_lay_40 : decode cX2_lay 40 = .ok (.return_, 1) := by decide +kernel
theorem dX3_count_0 : decode cX3_count 0 = .ok (.iload_n 1, 1) := by decide +kernel
theorem dX3_count_1 : decode cX3_count 1 = .ok (.tableswitch 102 0 7 #[47, 55, 63, 68, 76, 81, 89, 94], 47) := by decide +kernel
theorem dX3_count_48 : decode cX3_count 48 = .ok (.aload_n 0, 1) := by decide +kernel
theorem dX3_count_49 : decode cX3_count 49 = .ok (.getfield 29, 3) := by decide +kernel
theorem dX3_count_52 : decode cX3_count 52 = .ok (.getfield 175, 3) := by decide +kernel
theorem dX3_count_55 : decode cX3_count 55 = .ok (.ireturn, 1) := by decide +kernel
theorem dX3_count_56 : decode cX3_count 56 = .ok (.aload_n 0, 1) := by decide +kernel
theorem dX3_count_57 : decode cX3_count 57 = .ok (.getfield 29, 3) := by decide +kernel
theorem dX3_count_60 : decode cX3_count 60 = .ok (.getfield 166, 3) := by decide +kernel
theorem dX3_count_63 : decode cX3_count 63 = .ok (.ireturn, 1) := by decide +kernel
theorem dX3_count_64 : decode cX3_count 64 = .ok (.aload_n 0, 1) := by decide +kernel
theorem dX3_count_65 : decode cX3_count 65 = .ok (.getfield 13, 3) := by decide +kernel
theorem dX3_count_68 : decode cX3_count 68 = .ok (.ireturn, 1) := by decide +kernel
theorem dX3_count_69 : decode cX3_count 69 = .ok (.aload_n 0, 1) := by decide +kernel
theorem dX3_count_70 : decode cX3_count 70 = .ok (.getfield 20, 3) := by decide +kernel
theorem dX3_count_73 : decode cX3_count 73 = .ok (.getfield 58, 3) := by decide +kernel
theorem dX3_count_76 : decode cX3_count 76 = .ok (.ireturn, 1) := by decide +kernel
theorem dX3_count_77 : decode cX3_count 77 = .ok (.aload_n 0, 1) := by decide +kernel
theorem dX3_count_78 : decode cX3_count 78 = .ok (.invokevirtual 178, 3) := by decide +kernel
theorem dX3_count_81 : decode cX3_count 81 = .ok (.ireturn, 1) := by decide +kernel
theorem dX3_count_82 : decode cX3_count 82 = .ok (.aload_n 0, 1) := by decide +kernel
theorem dX3_count_83 : decode cX3_count 83 = .ok (.getfield 36, 3) := by decide +kernel
theorem dX3_count_86 : decode cX3_count 86 = .ok (.getfield 181, 3) := by decide +kernel
theorem dX3_count_89 : decode cX3_count 89 = .ok (.ireturn, 1) := by decide +kernel
theorem dX3_count_90 : decode cX3_count 90 = .ok (.aload_n 0, 1) := by decide +kernel
theorem dX3_count_91 : decode cX3_count 91 = .ok (.invokevirtual 184, 3) := by decide +kernel
theorem dX3_count_94 : decode cX3_count 94 = .ok (.ireturn, 1) := by decide +kernel
theorem dX3_count_95 : decode cX3_count 95 = .ok (.aload_n 0, 1) := by decide +kernel
theorem dX3_count_96 : decode cX3_count 96 = .ok (.getfield 36, 3) := by decide +kernel
theorem dX3_count_99 : decode cX3_count 99 = .ok (.getfield 118, 3) := by decide +kernel
theorem dX3_count_102 : decode cX3_count 102 = .ok (.ireturn, 1) := by decide +kernel
theorem dX3_count_103 : decode cX3_count 103 = .ok (.aload_n 0, 1) := by decide +kernel
theorem dX3_count_104 : decode cX3_count 104 = .ok (.iload_n 1, 1) := by decide +kernel
theorem dX3_count_105 : decode cX3_count 105 = .ok (.invokevirtual 187, 3) := by decide +kernel
theorem dX3_count_108 : decode cX3_count 108 = .ok (.ireturn, 1) := by decide +kernel
theorem dX3_standingBoxes_0 : decode cX3_standingBoxes 0 = .ok (.iconst 0, 1) := by decide +kernel
theorem dX3_standingBoxes_1 : decode cX3_standingBoxes 1 = .ok (.istore_n 1, 1) := by decide +kernel
theorem dX3_standingBoxes_2 : decode cX3_standingBoxes 2 = .ok (.iconst 0, 1) := by decide +kernel
theorem dX3_standingBoxes_3 : decode cX3_standingBoxes 3 = .ok (.istore_n 2, 1) := by decide +kernel
theorem dX3_standingBoxes_4 : decode cX3_standingBoxes 4 = .ok (.iload_n 2, 1) := by decide +kernel
theorem dX3_standingBoxes_5 : decode cX3_standingBoxes 5 = .ok (.aload_n 0, 1) := by decide +kernel
theorem dX3_standingBoxes_6 : decode cX3_standingBoxes 6 = .ok (.getfield 29, 3) := by decide +kernel
theorem dX3_standingBoxes_9 : decode cX3_standingBoxes 9 = .ok (.getfield 175, 3) := by decide +kernel
theorem dX3_standingBoxes_12 : decode cX3_standingBoxes 12 = .ok (.if_icmp .ge 21, 3) := by decide +kernel
theorem dX3_standingBoxes_15 : decode cX3_standingBoxes 15 = .ok (.iload_n 1, 1) := by decide +kernel
theorem dX3_standingBoxes_16 : decode cX3_standingBoxes 16 = .ok (.aload_n 0, 1) := by decide +kernel
theorem dX3_standingBoxes_17 : decode cX3_standingBoxes 17 = .ok (.getfield 29, 3) := by decide +kernel
theorem dX3_standingBoxes_20 : decode cX3_standingBoxes 20 = .ok (.getfield 74, 3) := by decide +kernel
theorem dX3_standingBoxes_23 : decode cX3_standingBoxes 23 = .ok (.iload_n 2, 1) := by decide +kernel
theorem dX3_standingBoxes_24 : decode cX3_standingBoxes 24 = .ok (.iaload, 1) := by decide +kernel
theorem dX3_standingBoxes_25 : decode cX3_standingBoxes 25 = .ok (.iadd, 1) := by decide +kernel
theorem dX3_standingBoxes_26 : decode cX3_standingBoxes 26 = .ok (.istore_n 1, 1) := by decide +kernel
theorem dX3_standingBoxes_27 : decode cX3_standingBoxes 27 = .ok (.iinc 2 1, 3) := by decide +kernel
theorem dX3_standingBoxes_30 : decode cX3_standingBoxes 30 = .ok (.goto (-26), 3) := by decide +kernel
theorem dX3_standingBoxes_33 : decode cX3_standingBoxes 33 = .ok (.iload_n 1, 1) := by decide +kernel
theorem dX3_standingBoxes_34 : decode cX3_standingBoxes 34 = .ok (.ireturn, 1) := by decide +kernel
theorem dX3_boxesInTheWay_0 : decode cX3_boxesInTheWay 0 = .ok (.iconst 0, 1) := by decide +kernel
theorem dX3_boxesInTheWay_1 : decode cX3_boxesInTheWay 1 = .ok (.istore_n 1, 1) := by decide +kernel
theorem dX3_boxesInTheWay_2 : decode cX3_boxesInTheWay 2 = .ok (.iconst 0, 1) := by decide +kernel
theorem dX3_boxesInTheWay_3 : decode cX3_boxesInTheWay 3 = .ok (.istore_n 2, 1) := by decide +kernel
theorem dX3_boxesInTheWay_4 : decode cX3_boxesInTheWay 4 = .ok (.iload_n 2, 1) := by decide +kernel
theorem dX3_boxesInTheWay_5 : decode cX3_boxesInTheWay 5 = .ok (.aload_n 0, 1) := by decide +kernel
theorem dX3_boxesInTheWay_6 : decode cX3_boxesInTheWay 6 = .ok (.getfield 20, 3) := by decide +kernel
theorem dX3_boxesInTheWay_9 : decode cX3_boxesInTheWay 9 = .ok (.getfield 58, 3) := by decide +kernel
theorem dX3_boxesInTheWay_12 : decode cX3_boxesInTheWay 12 = .ok (.if_icmp .ge 20, 3) := by decide +kernel
theorem dX3_boxesInTheWay_15 : decode cX3_boxesInTheWay 15 = .ok (.aload_n 0, 1) := by decide +kernel
theorem dX3_boxesInTheWay_16 : decode cX3_boxesInTheWay 16 = .ok (.iload_n 2, 1) := by decide +kernel
theorem dX3_boxesInTheWay_17 : decode cX3_boxesInTheWay 17 = .ok (.invokevirtual 143, 3) := by decide +kernel
theorem dX3_boxesInTheWay_20 : decode cX3_boxesInTheWay 20 = .ok (.ifCond .eq 6, 3) := by decide +kernel
theorem dX3_boxesInTheWay_23 : decode cX3_boxesInTheWay 23 = .ok (.iinc 1 1, 3) := by decide +kernel
theorem dX3_boxesInTheWay_26 : decode cX3_boxesInTheWay 26 = .ok (.iinc 2 1, 3) := by decide +kernel
theorem dX3_boxesInTheWay_29 : decode cX3_boxesInTheWay 29 = .ok (.goto (-25), 3) := by decide +kernel
theorem dX3_boxesInTheWay_32 : decode cX3_boxesInTheWay 32 = .ok (.iload_n 1, 1) := by decide +kernel
theorem dX3_boxesInTheWay_33 : decode cX3_boxesInTheWay 33 = .ok (.ireturn, 1) := by decide +kernel
theorem dX3_isInTheWay_0 : decode cX3_isInTheWay 0 = .ok (.aload_n 0, 1) := by decide +kernel
theorem dX3_isInTheWay_1 : decode cX3_isInTheWay 1 = .ok (.getfield 29, 3) := by decide +kernel
theorem dX3_isInTheWay_4 : decode cX3_isInTheWay 4 = .ok (.iload_n 1, 1) := by decide +kernel
theorem dX3_isInTheWay_5 : decode cX3_isInTheWay 5 = .ok (.invokevirtual 100, 3) := by decide +kernel
theorem dX3_isInTheWay_8 : decode cX3_isInTheWay 8 = .ok (.ifCond .eq 33, 3) := by decide +kernel
theorem dX3_isInTheWay_11 : decode cX3_isInTheWay 11 = .ok (.aload_n 0, 1) := by decide +kernel
theorem dX3_isInTheWay_12 : decode cX3_isInTheWay 12 = .ok (.iload_n 1, 1) := by decide +kernel
theorem dX3_isInTheWay_13 : decode cX3_isInTheWay 13 = .ok (.aload_n 0, 1) := by decide +kernel
theorem dX3_isInTheWay_14 : decode cX3_isInTheWay 14 = .ok (.getfield 29, 3) := by decide +kernel
theorem dX3_isInTheWay_17 : decode cX3_isInTheWay 17 = .ok (.getfield 133, 3) := by decide +kernel
theorem dX3_isInTheWay_20 : decode cX3_isInTheWay 20 = .ok (.iload_n 1, 1) := by decide +kernel
theorem dX3_isInTheWay_21 : decode cX3_isInTheWay 21 = .ok (.iaload, 1) := by decide +kernel
theorem dX3_isInTheWay_22 : decode cX3_isInTheWay 22 = .ok (.aload_n 0, 1) := by decide +kernel
theorem dX3_isInTheWay_23 : decode cX3_isInTheWay 23 = .ok (.getfield 29, 3) := by decide +kernel
theorem dX3_isInTheWay_26 : decode cX3_isInTheWay 26 = .ok (.getfield 136, 3) := by decide +kernel
theorem dX3_isInTheWay_29 : decode cX3_isInTheWay 29 = .ok (.iload_n 1, 1) := by decide +kernel
theorem dX3_isInTheWay_30 : decode cX3_isInTheWay 30 = .ok (.iaload, 1) := by decide +kernel
theorem dX3_isInTheWay_31 : decode cX3_isInTheWay 31 = .ok (.invokevirtual 217, 3) := by decide +kernel
theorem dX3_isInTheWay_34 : decode cX3_isInTheWay 34 = .ok (.ifCond .le 7, 3) := by decide +kernel
theorem dX3_isInTheWay_37 : decode cX3_isInTheWay 37 = .ok (.iconst 1, 1) := by decide +kernel
theorem dX3_isInTheWay_38 : decode cX3_isInTheWay 38 = .ok (.goto 4, 3) := by decide +kernel
theorem dX3_isInTheWay_41 : decode cX3_isInTheWay 41 = .ok (.iconst 0, 1) := by decide +kernel
theorem dX3_isInTheWay_42 : decode cX3_isInTheWay 42 = .ok (.ireturn, 1) := by decide +kernel
theorem dX3_soonerBelow_0 : decode cX3_soonerBelow 0 = .ok (.iconst 0, 1) := by decide +kernel
theorem dX3_soonerBelow_1 : decode cX3_soonerBelow 1 = .ok (.istore 4, 2) := by decide +kernel
theorem dX3_soonerBelow_3 : decode cX3_soonerBelow 3 = .ok (.iconst 0, 1) := by decide +kernel
theorem dX3_soonerBelow_4 : decode cX3_soonerBelow 4 = .ok (.istore 5, 2) := by decide +kernel
theorem dX3_soonerBelow_6 : decode cX3_soonerBelow 6 = .ok (.iload 5, 2) := by decide +kernel
theorem dX3_soonerBelow_8 : decode cX3_soonerBelow 8 = .ok (.iload_n 3, 1) := by decide +kernel
theorem dX3_soonerBelow_9 : decode cX3_soonerBelow 9 = .ok (.if_icmp .ge 44, 3) := by decide +kernel
theorem dX3_soonerBelow_12 : decode cX3_soonerBelow 12 = .ok (.aload_n 0, 1) := by decide +kernel
theorem dX3_soonerBelow_13 : decode cX3_soonerBelow 13 = .ok (.getfield 20, 3) := by decide +kernel
theorem dX3_soonerBelow_16 : decode cX3_soonerBelow 16 = .ok (.getfield 152, 3) := by decide +kernel
theorem dX3_soonerBelow_19 : decode cX3_soonerBelow 19 = .ok (.aload_n 0, 1) := by decide +kernel
theorem dX3_soonerBelow_20 : decode cX3_soonerBelow 20 = .ok (.getfield 29, 3) := by decide +kernel
theorem dX3_soonerBelow_23 : decode cX3_soonerBelow 23 = .ok (.getfield 171, 3) := by decide +kernel
theorem dX3_soonerBelow_26 : decode cX3_soonerBelow 26 = .ok (.iload_n 2, 1) := by decide +kernel
theorem dX3_soonerBelow_27 : decode cX3_soonerBelow 27 = .ok (.aaload, 1) := by decide +kernel
theorem dX3_soonerBelow_28 : decode cX3_soonerBelow 28 = .ok (.iload 5, 2) := by decide +kernel
theorem dX3_soonerBelow_30 : decode cX3_soonerBelow 30 = .ok (.iaload, 1) := by decide +kernel
theorem dX3_soonerBelow_31 : decode cX3_soonerBelow 31 = .ok (.iaload, 1) := by decide +kernel
theorem dX3_soonerBelow_32 : decode cX3_soonerBelow 32 = .ok (.aload_n 0, 1) := by decide +kernel
theorem dX3_soonerBelow_33 : decode cX3_soonerBelow 33 = .ok (.getfield 20, 3) := by decide +kernel
theorem dX3_soonerBelow_36 : decode cX3_soonerBelow 36 = .ok (.getfield 152, 3) := by decide +kernel
theorem dX3_soonerBelow_39 : decode cX3_soonerBelow 39 = .ok (.iload_n 1, 1) := by decide +kernel
theorem dX3_soonerBelow_40 : decode cX3_soonerBelow 40 = .ok (.iaload, 1) := by decide +kernel
theorem dX3_soonerBelow_41 : decode cX3_soonerBelow 41 = .ok (.if_icmp .ge 6, 3) := by decide +kernel
theorem dX3_soonerBelow_44 : decode cX3_soonerBelow 44 = .ok (.iinc 4 1, 3) := by decide +kernel
theorem dX3_soonerBelow_47 : decode cX3_soonerBelow 47 = .ok (.iinc 5 1, 3) := by decide +kernel
theorem dX3_soonerBelow_50 : decode cX3_soonerBelow 50 = .ok (.goto (-44), 3) := by decide +kernel
theorem dX3_soonerBelow_53 : decode cX3_soonerBelow 53 = .ok (.iload 4, 2) := by decide +kernel
theorem dX3_soonerBelow_55 : decode cX3_soonerBelow 55 = .ok (.ireturn, 1) := by decide +kernel
theorem dX3_countOfRow_0 : decode cX3_countOfRow 0 = .ok (.iload_n 1, 1) := by decide +kernel
theorem dX3_countOfRow_1 : decode cX3_countOfRow 1 = .ok (.bipush 20, 2) := by decide +kernel
theorem dX3_countOfRow_3 : decode cX3_countOfRow 3 = .ok (.if_icmp .lt 9, 3) := by decide +kernel
theorem dX3_countOfRow_6 : decode cX3_countOfRow 6 = .ok (.iload_n 1, 1) := by decide +kernel
theorem dX3_countOfRow_7 : decode cX3_countOfRow 7 = .ok (.bipush 100, 2) := by decide +kernel
theorem dX3_countOfRow_9 : decode cX3_countOfRow 9 = .ok (.if_icmp .lt 5, 3) := by decide +kernel
theorem dX3_countOfRow_12 : decode cX3_countOfRow 12 = .ok (.iconst (-1), 1) := by decide +kernel
theorem dX3_countOfRow_13 : decode cX3_countOfRow 13 = .ok (.ireturn, 1) := by decide +kernel
theorem dX3_countOfRow_14 : decode cX3_countOfRow 14 = .ok (.iload_n 1, 1) := by decide +kernel
theorem dX3_countOfRow_15 : decode cX3_countOfRow 15 = .ok (.bipush 20, 2) := by decide +kernel
theorem dX3_countOfRow_17 : decode cX3_countOfRow 17 = .ok (.irem, 1) := by decide +kernel
theorem dX3_countOfRow_18 : decode cX3_countOfRow 18 = .ok (.istore_n 2, 1) := by decide +kernel
theorem dX3_countOfRow_19 : decode cX3_countOfRow 19 = .ok (.aload_n 0, 1) := by decide +kernel
theorem dX3_countOfRow_20 : decode cX3_countOfRow 20 = .ok (.getfield 29, 3) := by decide +kernel
theorem dX3_countOfRow_23 : decode cX3_countOfRow 23 = .ok (.iload_n 2, 1) := by decide +kernel
theorem dX3_countOfRow_24 : decode cX3_countOfRow 24 = .ok (.invokevirtual 70, 3) := by decide +kernel
theorem dX3_countOfRow_27 : decode cX3_countOfRow 27 = .ok (.ifCond .ne 5, 3) := by decide +kernel
theorem dX3_countOfRow_30 : decode cX3_countOfRow 30 = .ok (.iconst (-1), 1) := by decide +kernel
theorem dX3_countOfRow_31 : decode cX3_countOfRow 31 = .ok (.ireturn, 1) := by decide +kernel
theorem dX3_countOfRow_32 : decode cX3_countOfRow 32 = .ok (.iload_n 1, 1) := by decide +kernel
theorem dX3_countOfRow_33 : decode cX3_countOfRow 33 = .ok (.bipush 20, 2) := by decide +kernel
theorem dX3_countOfRow_35 : decode cX3_countOfRow 35 = .ok (.idiv, 1) := by decide +kernel
theorem dX3_countOfRow_36 : decode cX3_countOfRow 36 = .ok (.tableswitch 51 1 3 #[28, 38, 44], 28) := by decide +kernel
theorem dX3_countOfRow_64 : decode cX3_countOfRow 64 = .ok (.aload_n 0, 1) := by decide +kernel
theorem dX3_countOfRow_65 : decode cX3_countOfRow 65 = .ok (.getfield 29, 3) := by decide +kernel
theorem dX3_countOfRow_68 : decode cX3_countOfRow 68 = .ok (.getfield 74, 3) := by decide +kernel
theorem dX3_countOfRow_71 : decode cX3_countOfRow 71 = .ok (.iload_n 2, 1) := by decide +kernel
theorem dX3_countOfRow_72 : decode cX3_countOfRow 72 = .ok (.iaload, 1) := by decide +kernel
theorem dX3_countOfRow_73 : decode cX3_countOfRow 73 = .ok (.ireturn, 1) := by decide +kernel
theorem dX3_countOfRow_74 : decode cX3_countOfRow 74 = .ok (.aload_n 0, 1) := by decide +kernel
theorem dX3_countOfRow_75 : decode cX3_countOfRow 75 = .ok (.iload_n 2, 1) := by decide +kernel
theorem dX3_countOfRow_76 : decode cX3_countOfRow 76 = .ok (.invokevirtual 208, 3) := by decide +kernel
theorem dX3_countOfRow_79 : decode cX3_countOfRow 79 = .ok (.ireturn, 1) := by decide +kernel
theorem dX3_countOfRow_80 : decode cX3_countOfRow 80 = .ok (.aload_n 0, 1) := by decide +kernel
theorem dX3_countOfRow_81 : decode cX3_countOfRow 81 = .ok (.getfield 40, 3) := by decide +kernel
theorem dX3_countOfRow_84 : decode cX3_countOfRow 84 = .ok (.iload_n 2, 1) := by decide +kernel
theorem dX3_countOfRow_85 : decode cX3_countOfRow 85 = .ok (.iaload, 1) := by decide +kernel
theorem dX3_countOfRow_86 : decode cX3_countOfRow 86 = .ok (.ireturn, 1) := by decide +kernel
theorem dX3_countOfRow_87 : decode cX3_countOfRow 87 = .ok (.aload_n 0, 1) := by decide +kernel
theorem dX3_countOfRow_88 : decode cX3_countOfRow 88 = .ok (.getfield 44, 3) := by decide +kernel
theorem dX3_countOfRow_91 : decode cX3_countOfRow 91 = .ok (.iload_n 2, 1) := by decide +kernel
theorem dX3_countOfRow_92 : decode cX3_countOfRow 92 = .ok (.iaload, 1) := by decide +kernel
theorem dX3_countOfRow_93 : decode cX3_countOfRow 93 = .ok (.ireturn, 1) := by decide +kernel
theorem dX3_weightOn_0 : decode cX3_weightOn 0 = .ok (.iconst 0, 1) := by decide +kernel
theorem dX3_weightOn_1 : decode cX3_weightOn 1 = .ok (.istore_n 2, 1) := by decide +kernel
theorem dX3_weightOn_2 : decode cX3_weightOn 2 = .ok (.iconst 0, 1) := by decide +kernel
theorem dX3_weightOn_3 : decode cX3_weightOn 3 = .ok (.istore_n 3, 1) := by decide +kernel
theorem dX3_weightOn_4 : decode cX3_weightOn 4 = .ok (.iload_n 3, 1) := by decide +kernel
theorem dX3_weightOn_5 : decode cX3_weightOn 5 = .ok (.aload_n 0, 1) := by decide +kernel
theorem dX3_weightOn_6 : decode cX3_weightOn 6 = .ok (.getfield 29, 3) := by decide +kernel
theorem dX3_weightOn_9 : decode cX3_weightOn 9 = .ok (.getfield 74, 3) := by decide +kernel
theorem dX3_weightOn_12 : decode cX3_weightOn 12 = .ok (.iload_n 1, 1) := by decide +kernel
theorem dX3_weightOn_13 : decode cX3_weightOn 13 = .ok (.iaload, 1) := by decide +kernel
theorem dX3_weightOn_14 : decode cX3_weightOn 14 = .ok (.if_icmp .ge 31, 3) := by decide +kernel
theorem dX3_weightOn_17 : decode cX3_weightOn 17 = .ok (.iload_n 2, 1) := by decide +kernel
theorem dX3_weightOn_18 : decode cX3_weightOn 18 = .ok (.aload_n 0, 1) := by decide +kernel
theorem dX3_weightOn_19 : decode cX3_weightOn 19 = .ok (.getfield 20, 3) := by decide +kernel
theorem dX3_weightOn_22 : decode cX3_weightOn 22 = .ok (.getfield 149, 3) := by decide +kernel
theorem dX3_weightOn_25 : decode cX3_weightOn 25 = .ok (.aload_n 0, 1) := by decide +kernel
theorem dX3_weightOn_26 : decode cX3_weightOn 26 = .ok (.getfield 29, 3) := by decide +kernel
theorem dX3_weightOn_29 : decode cX3_weightOn 29 = .ok (.getfield 171, 3) := by decide +kernel
theorem dX3_weightOn_32 : decode cX3_weightOn 32 = .ok (.iload_n 1, 1) := by decide +kernel
theorem dX3_weightOn_33 : decode cX3_weightOn 33 = .ok (.aaload, 1) := by decide +kernel
theorem dX3_weightOn_34 : decode cX3_weightOn 34 = .ok (.iload_n 3, 1) := by decide +kernel
theorem dX3_weightOn_35 : decode cX3_weightOn 35 = .ok (.iaload, 1) := by decide +kernel
theorem dX3_weightOn_36 : decode cX3_weightOn 36 = .ok (.iaload, 1) := by decide +kernel
theorem dX3_weightOn_37 : decode cX3_weightOn 37 = .ok (.iadd, 1) := by decide +kernel
theorem dX3_weightOn_38 : decode cX3_weightOn 38 = .ok (.istore_n 2, 1) := by decide +kernel
theorem dX3_weightOn_39 : decode cX3_weightOn 39 = .ok (.iinc 3 1, 3) := by decide +kernel
theorem dX3_weightOn_42 : decode cX3_weightOn 42 = .ok (.goto (-38), 3) := by decide +kernel
theorem dX3_weightOn_45 : decode cX3_weightOn 45 = .ok (.iload_n 2, 1) := by decide +kernel
theorem dX3_weightOn_46 : decode cX3_weightOn 46 = .ok (.ireturn, 1) := by decide +kernel
theorem dX3_box_0 : decode cX3_box 0 = .ok (.iload_n 1, 1) := by decide +kernel
theorem dX3_box_1 : decode cX3_box 1 = .ok (.iconst 1, 1) := by decide +kernel
theorem dX3_box_2 : decode cX3_box 2 = .ok (.iconst 3, 1) := by decide +kernel
theorem dX3_box_3 : decode cX3_box 3 = .ok (.invokestatic 47, 3) := by decide +kernel
theorem dX3_box_6 : decode cX3_box 6 = .ok (.ifCond .eq 49, 3) := by decide +kernel
theorem dX3_box_9 : decode cX3_box 9 = .ok (.iload_n 2, 1) := by decide +kernel
theorem dX3_box_10 : decode cX3_box 10 = .ok (.iconst 1, 1) := by decide +kernel
theorem dX3_box_11 : decode cX3_box 11 = .ok (.bipush 40, 2) := by decide +kernel
theorem dX3_box_13 : decode cX3_box 13 = .ok (.invokestatic 47, 3) := by decide +kernel
theorem dX3_box_16 : decode cX3_box 16 = .ok (.ifCond .eq 39, 3) := by decide +kernel
theorem dX3_box_19 : decode cX3_box 19 = .ok (.iload_n 3, 1) := by decide +kernel
theorem dX3_box_20 : decode cX3_box 20 = .ok (.iconst 0, 1) := by decide +kernel
theorem dX3_box_21 : decode cX3_box 21 = .ok (.sipush 1000, 3) := by decide +kernel
theorem dX3_box_24 : decode cX3_box 24 = .ok (.invokestatic 47, 3) := by decide +kernel
theorem dX3_box_27 : decode cX3_box 27 = .ok (.ifCond .eq 28, 3) := by decide +kernel
theorem dX3_box_30 : decode cX3_box 30 = .ok (.iload 4, 2) := by decide +kernel
theorem dX3_box_32 : decode cX3_box 32 = .ok (.iconst 1, 1) := by decide +kernel
theorem dX3_box_33 : decode cX3_box 33 = .ok (.bipush 9, 2) := by decide +kernel
theorem dX3_box_35 : decode cX3_box 35 = .ok (.invokestatic 47, 3) := by decide +kernel
theorem dX3_box_38 : decode cX3_box 38 = .ok (.ifCond .eq 17, 3) := by decide +kernel
theorem dX3_box_41 : decode cX3_box 41 = .ok (.iload 5, 2) := by decide +kernel
theorem dX3_box_43 : decode cX3_box 43 = .ok (.iconst 0, 1) := by decide +kernel
theorem dX3_box_44 : decode cX3_box 44 = .ok (.iconst 2, 1) := by decide +kernel
theorem dX3_box_45 : decode cX3_box 45 = .ok (.invokestatic 47, 3) := by decide +kernel
theorem dX3_box_48 : decode cX3_box 48 = .ok (.ifCond .eq 7, 3) := by decide +kernel
theorem dX3_box_51 : decode cX3_box 51 = .ok (.iconst 1, 1) := by decide +kernel
theorem dX3_box_52 : decode cX3_box 52 = .ok (.goto 4, 3) := by decide +kernel
theorem dX3_box_55 : decode cX3_box 55 = .ok (.iconst 0, 1) := by decide +kernel
theorem dX3_box_56 : decode cX3_box 56 = .ok (.istore 6, 2) := by decide +kernel
theorem dX3_box_58 : decode cX3_box 58 = .ok (.iload 6, 2) := by decide +kernel
theorem dX3_box_60 : decode cX3_box 60 = .ok (.ifCond .ne 13, 3) := by decide +kernel
theorem dX3_box_63 : decode cX3_box 63 = .ok (.new 51, 3) := by decide +kernel
theorem dX3_box_66 : decode cX3_box 66 = .ok (.dup, 1) := by decide +kernel
theorem dX3_box_67 : decode cX3_box 67 = .ok (.ldc 53, 2) := by decide +kernel
theorem dX3_box_69 : decode cX3_box 69 = .ok (.invokespecial 55, 3) := by decide +kernel
theorem dX3_box_72 : decode cX3_box 72 = .ok (.athrow, 1) := by decide +kernel
theorem dX3_box_73 : decode cX3_box 73 = .ok (.aload_n 0, 1) := by decide +kernel
theorem dX3_box_74 : decode cX3_box 74 = .ok (.getfield 20, 3) := by decide +kernel
theorem dX3_box_77 : decode cX3_box 77 = .ok (.getfield 58, 3) := by decide +kernel
theorem dX3_box_80 : decode cX3_box 80 = .ok (.bipush 60, 2) := by decide +kernel
theorem dX3_box_82 : decode cX3_box 82 = .ok (.if_icmp .lt 13, 3) := by decide +kernel
theorem dX3_box_85 : decode cX3_box 85 = .ok (.new 61, 3) := by decide +kernel
theorem dX3_box_88 : decode cX3_box 88 = .ok (.dup, 1) := by decide +kernel
theorem dX3_box_89 : decode cX3_box 89 = .ok (.ldc 63, 2) := by decide +kernel
theorem dX3_box_91 : decode cX3_box 91 = .ok (.invokespecial 65, 3) := by decide +kernel
theorem dX3_box_94 : decode cX3_box 94 = .ok (.athrow, 1) := by decide +kernel
theorem dX3_box_95 : decode cX3_box 95 = .ok (.aload_n 0, 1) := by decide +kernel
theorem dX3_box_96 : decode cX3_box 96 = .ok (.getfield 20, 3) := by decide +kernel
theorem dX3_box_99 : decode cX3_box 99 = .ok (.iload_n 1, 1) := by decide +kernel
theorem dX3_box_100 : decode cX3_box 100 = .ok (.iload_n 2, 1) := by decide +kernel
theorem dX3_box_101 : decode cX3_box 101 = .ok (.iload_n 3, 1) := by decide +kernel
theorem dX3_box_102 : decode cX3_box 102 = .ok (.iload 4, 2) := by decide +kernel
theorem dX3_box_104 : decode cX3_box 104 = .ok (.iload 5, 2) := by decide +kernel
theorem dX3_box_106 : decode cX3_box 106 = .ok (.invokevirtual 66, 3) := by decide +kernel
theorem dX3_box_109 : decode cX3_box 109 = .ok (.ireturn, 1) := by decide +kernel
theorem dX0_tell_0 : decode cX0_tell 0 = .ok (.aload_n 0, 1) := by decide +kernel
theorem dX0_tell_1 : decode cX0_tell 1 = .ok (.getfield 27, 3) := by decide +kernel
theorem dX0_tell_4 : decode cX0_tell 4 = .ok (.istore 6, 2) := by decide +kernel
theorem dX0_tell_6 : decode cX0_tell 6 = .ok (.aload_n 0, 1) := by decide +kernel
theorem dX0_tell_7 : decode cX0_tell 7 = .ok (.getfield 9, 3) := by decide +kernel
theorem dX0_tell_10 : decode cX0_tell 10 = .ok (.iload 6, 2) := by decide +kernel
theorem dX0_tell_12 : decode cX0_tell 12 = .ok (.iload_n 1, 1) := by decide +kernel
theorem dX0_tell_13 : decode cX0_tell 13 = .ok (.iastore, 1) := by decide +kernel
theorem dX0_tell_14 : decode cX0_tell 14 = .ok (.aload_n 0, 1) := by decide +kernel
theorem dX0_tell_15 : decode cX0_tell 15 = .ok (.getfield 15, 3) := by decide +kernel
theorem dX0_tell_18 : decode cX0_tell 18 = .ok (.iload 6, 2) := by decide +kernel
theorem dX0_tell_20 : decode cX0_tell 20 = .ok (.iload_n 2, 1) := by decide +kernel
theorem dX0_tell_21 : decode cX0_tell 21 = .ok (.iastore, 1) := by decide +kernel
theorem dX0_tell_22 : decode cX0_tell 22 = .ok (.aload_n 0, 1) := by decide +kernel
theorem dX0_tell_23 : decode cX0_tell 23 = .ok (.getfield 18, 3) := by decide +kernel
theorem dX0_tell_26 : decode cX0_tell 26 = .ok (.iload 6, 2) := by decide +kernel
theorem dX0_tell_28 : decode cX0_tell 28 = .ok (.iload_n 3, 1) := by decide +kernel
theorem dX0_tell_29 : decode cX0_tell 29 = .ok (.iastore, 1) := by decide +kernel
theorem dX0_tell_30 : decode cX0_tell 30 = .ok (.aload_n 0, 1) := by decide +kernel
theorem dX0_tell_31 : decode cX0_tell 31 = .ok (.getfield 21, 3) := by decide +kernel
theorem dX0_tell_34 : decode cX0_tell 34 = .ok (.iload 6, 2) := by decide +kernel
theorem dX0_tell_36 : decode cX0_tell 36 = .ok (.iload 4, 2) := by decide +kernel
theorem dX0_tell_38 : decode cX0_tell 38 = .ok (.iastore, 1) := by decide +kernel
theorem dX0_tell_39 : decode cX0_tell 39 = .ok (.aload_n 0, 1) := by decide +kernel
theorem dX0_tell_40 : decode cX0_tell 40 = .ok (.getfield 24, 3) := by decide +kernel
theorem dX0_tell_43 : decode cX0_tell 43 = .ok (.iload 6, 2) := by decide +kernel
theorem dX0_tell_45 : decode cX0_tell 45 = .ok (.iload 5, 2) := by decide +kernel
theorem dX0_tell_47 : decode cX0_tell 47 = .ok (.iastore, 1) := by decide +kernel
theorem dX0_tell_48 : decode cX0_tell 48 = .ok (.aload_n 0, 1) := by decide +kernel
theorem dX0_tell_49 : decode cX0_tell 49 = .ok (.dup, 1) := by decide +kernel
theorem dX0_tell_50 : decode cX0_tell 50 = .ok (.getfield 27, 3) := by decide +kernel
theorem dX0_tell_53 : decode cX0_tell 53 = .ok (.iconst 1, 1) := by decide +kernel
theorem dX0_tell_54 : decode cX0_tell 54 = .ok (.iadd, 1) := by decide +kernel
theorem dX0_tell_55 : decode cX0_tell 55 = .ok (.putfield 27, 3) := by decide +kernel
theorem dX0_tell_58 : decode cX0_tell 58 = .ok (.iload 6, 2) := by decide +kernel
theorem dX0_tell_60 : decode cX0_tell 60 = .ok (.ireturn, 1) := by decide +kernel
theorem dX3_put_0 : decode cX3_put 0 = .ok (.aload_n 0, 1) := by decide +kernel
theorem dX3_put_1 : decode cX3_put 1 = .ok (.iload_n 1, 1) := by decide +kernel
theorem dX3_put_2 : decode cX3_put 2 = .ok (.invokevirtual 81, 3) := by decide +kernel
theorem dX3_put_5 : decode cX3_put 5 = .ok (.aload_n 0, 1) := by decide +kernel
theorem dX3_put_6 : decode cX3_put 6 = .ok (.iload_n 2, 1) := by decide +kernel
theorem dX3_put_7 : decode cX3_put 7 = .ok (.invokevirtual 85, 3) := by decide +kernel
theorem dX3_put_10 : decode cX3_put 10 = .ok (.aload_n 0, 1) := by decide +kernel
theorem dX3_put_11 : decode cX3_put 11 = .ok (.iload_n 1, 1) := by decide +kernel
theorem dX3_put_12 : decode cX3_put 12 = .ok (.iload_n 2, 1) := by decide +kernel
theorem dX3_put_13 : decode cX3_put 13 = .ok (.invokevirtual 88, 3) := by decide +kernel
theorem dX3_put_16 : decode cX3_put 16 = .ok (.istore_n 3, 1) := by decide +kernel
theorem dX3_put_17 : decode cX3_put 17 = .ok (.iload_n 3, 1) := by decide +kernel
theorem dX3_put_18 : decode cX3_put 18 = .ok (.ifCond .eq 6, 3) := by decide +kernel
theorem dX3_put_21 : decode cX3_put 21 = .ok (.iload_n 3, 1) := by decide +kernel
theorem dX3_put_22 : decode cX3_put 22 = .ok (.ineg, 1) := by decide +kernel
theorem dX3_put_23 : decode cX3_put 23 = .ok (.ireturn, 1) := by decide +kernel
theorem dX3_put_24 : decode cX3_put 24 = .ok (.aload_n 0, 1) := by decide +kernel
theorem dX3_put_25 : decode cX3_put 25 = .ok (.iload_n 1, 1) := by decide +kernel
theorem dX3_put_26 : decode cX3_put 26 = .ok (.iload_n 2, 1) := by decide +kernel
theorem dX3_put_27 : decode cX3_put 27 = .ok (.invokevirtual 91, 3) := by decide +kernel
theorem dX3_put_30 : decode cX3_put 30 = .ok (.iconst 1, 1) := by decide +kernel
theorem dX3_put_31 : decode cX3_put 31 = .ok (.ireturn, 1) := by decide +kernel
theorem dX3_requireBox_0 : decode cX3_requireBox 0 = .ok (.aload_n 0, 1) := by decide +kernel
theorem dX3_requireBox_1 : decode cX3_requireBox 1 = .ok (.getfield 20, 3) := by decide +kernel
theorem dX3_requireBox_4 : decode cX3_requireBox 4 = .ok (.iload_n 1, 1) := by decide +kernel
theorem dX3_requireBox_5 : decode cX3_requireBox 5 = .ok (.invokevirtual 198, 3) := by decide +kernel
theorem dX3_requireBox_8 : decode cX3_requireBox 8 = .ok (.ifCond .ne 13, 3) := by decide +kernel
theorem dX3_requireBox_11 : decode cX3_requireBox 11 = .ok (.new 161, 3) := by decide +kernel
theorem dX3_requireBox_14 : decode cX3_requireBox 14 = .ok (.dup, 1) := by decide +kernel
theorem dX3_requireBox_15 : decode cX3_requireBox 15 = .ok (.ldc 201, 2) := by decide +kernel
theorem dX3_requireBox_17 : decode cX3_requireBox 17 = .ok (.invokespecial 165, 3) := by decide +kernel
theorem dX3_requireBox_20 : decode cX3_requireBox 20 = .ok (.athrow, 1) := by decide +kernel
theorem dX3_requireBox_21 : decode cX3_requireBox 21 = .ok (.return_, 1) := by decide +kernel
theorem dX0_has_0 : decode cX0_has 0 = .ok (.iload_n 1, 1) := by decide +kernel
theorem dX0_has_1 : decode cX0_has 1 = .ok (.ifCond .lt 15, 3) := by decide +kernel
theorem dX0_has_4 : decode cX0_has 4 = .ok (.iload_n 1, 1) := by decide +kernel
theorem dX0_has_5 : decode cX0_has 5 = .ok (.aload_n 0, 1) := by decide +kernel
theorem dX0_has_6 : decode cX0_has 6 = .ok (.getfield 27, 3) := by decide +kernel
theorem dX0_has_9 : decode cX0_has 9 = .ok (.if_icmp .ge 7, 3) := by decide +kernel
theorem dX0_has_12 : decode cX0_has 12 = .ok (.iconst 1, 1) := by decide +kernel
theorem dX0_has_13 : decode cX0_has 13 = .ok (.goto 4, 3) := by decide +kernel
theorem dX0_has_16 : decode cX0_has 16 = .ok (.iconst 0, 1) := by decide +kernel
theorem dX0_has_17 : decode cX0_has 17 = .ok (.ireturn, 1) := by decide +kernel
theorem dX3_requireRow_0 : decode cX3_requireRow 0 = .ok (.aload_n 0, 1) := by decide +kernel
theorem dX3_requireRow_1 : decode cX3_requireRow 1 = .ok (.getfield 29, 3) := by decide +kernel
theorem dX3_requireRow_4 : decode cX3_requireRow 4 = .ok (.iload_n 1, 1) := by decide +kernel
theorem dX3_requireRow_5 : decode cX3_requireRow 5 = .ok (.invokevirtual 70, 3) := by decide +kernel
theorem dX3_requireRow_8 : decode cX3_requireRow 8 = .ok (.ifCond .ne 13, 3) := by decide +kernel
theorem dX3_requireRow_11 : decode cX3_requireRow 11 = .ok (.new 161, 3) := by decide +kernel
theorem dX3_requireRow_14 : decode cX3_requireRow 14 = .ok (.dup, 1) := by decide +kernel
theorem dX3_requireRow_15 : decode cX3_requireRow 15 = .ok (.ldc 203, 2) := by decide +kernel
theorem dX3_requireRow_17 : decode cX3_requireRow 17 = .ok (.invokespecial 165, 3) := by decide +kernel
theorem dX3_requireRow_20 : decode cX3_requireRow 20 = .ok (.athrow, 1) := by decide +kernel
theorem dX3_requireRow_21 : decode cX3_requireRow 21 = .ok (.return_, 1) := by decide +kernel
theorem dX3_ruleBrokenByPut_0 : decode cX3_ruleBrokenByPut 0 = .ok (.aload_n 0, 1) := by decide +kernel
theorem dX3_ruleBrokenByPut_1 : decode cX3_ruleBrokenByPut 1 = .ok (.getfield 29, 3) := by decide +kernel
theorem dX3_ruleBrokenByPut_4 : decode cX3_ruleBrokenByPut 4 = .ok (.iload_n 1, 1) := by decide +kernel
theorem dX3_ruleBrokenByPut_5 : decode cX3_ruleBrokenByPut 5 = .ok (.invokevirtual 100, 3) := by decide +kernel
theorem dX3_ruleBrokenByPut_8 : decode cX3_ruleBrokenByPut 8 = .ok (.ifCond .eq 7, 3) := by decide +kernel
theorem dX3_ruleBrokenByPut_11 : decode cX3_ruleBrokenByPut 11 = .ok (.iconst 1, 1) := by decide +kernel
theorem dX3_ruleBrokenByPut_12 : decode cX3_ruleBrokenByPut 12 = .ok (.goto 9, 3) := by decide +kernel
theorem dX3_ruleBrokenByPut_15 : decode cX3_ruleBrokenByPut 15 = .ok (.aload_n 0, 1) := by decide +kernel
theorem dX3_ruleBrokenByPut_16 : decode cX3_ruleBrokenByPut 16 = .ok (.iload_n 1, 1) := by decide +kernel
theorem dX3_ruleBrokenByPut_17 : decode cX3_ruleBrokenByPut 17 = .ok (.iload_n 2, 1) := by decide +kernel
theorem dX3_ruleBrokenByPut_18 : decode cX3_ruleBrokenByPut 18 = .ok (.invokevirtual 205, 3) := by decide +kernel
theorem dX3_ruleBrokenByPut_21 : decode cX3_ruleBrokenByPut 21 = .ok (.ireturn, 1) := by decide +kernel
theorem dX3_ruleBrokenOnTop_0 : decode cX3_ruleBrokenOnTop 0 = .ok (.aload_n 0, 1) := by decide +kernel
theorem dX3_ruleBrokenOnTop_1 : decode cX3_ruleBrokenOnTop 1 = .ok (.getfield 44, 3) := by decide +kernel
theorem dX3_ruleBrokenOnTop_4 : decode cX3_ruleBrokenOnTop 4 = .ok (.iload_n 2, 1) := by decide +kernel
theorem dX3_ruleBrokenOnTop_5 : decode cX3_ruleBrokenOnTop 5 = .ok (.iaload, 1) := by decide +kernel
theorem dX3_ruleBrokenOnTop_6 : decode cX3_ruleBrokenOnTop 6 = .ok (.ifCond .eq 23, 3) := by decide +kernel
theorem dX3_ruleBrokenOnTop_9 : decode cX3_ruleBrokenOnTop 9 = .ok (.aload_n 0, 1) := by decide +kernel
theorem dX3_ruleBrokenOnTop_10 : decode cX3_ruleBrokenOnTop 10 = .ok (.getfield 44, 3) := by decide +kernel
theorem dX3_ruleBrokenOnTop_13 : decode cX3_ruleBrokenOnTop 13 = .ok (.iload_n 2, 1) := by decide +kernel
theorem dX3_ruleBrokenOnTop_14 : decode cX3_ruleBrokenOnTop 14 = .ok (.iaload, 1) := by decide +kernel
theorem dX3_ruleBrokenOnTop_15 : decode cX3_ruleBrokenOnTop 15 = .ok (.aload_n 0, 1) := by decide +kernel
theorem dX3_ruleBrokenOnTop_16 : decode cX3_ruleBrokenOnTop 16 = .ok (.getfield 20, 3) := by decide +kernel
theorem dX3_ruleBrokenOnTop_19 : decode cX3_ruleBrokenOnTop 19 = .ok (.getfield 155, 3) := by decide +kernel
theorem dX3_ruleBrokenOnTop_22 : decode cX3_ruleBrokenOnTop 22 = .ok (.iload_n 1, 1) := by decide +kernel
theorem dX3_ruleBrokenOnTop_23 : decode cX3_ruleBrokenOnTop 23 = .ok (.iaload, 1) := by decide +kernel
theorem dX3_ruleBrokenOnTop_24 : decode cX3_ruleBrokenOnTop 24 = .ok (.if_icmp .eq 5, 3) := by decide +kernel
theorem dX3_ruleBrokenOnTop_27 : decode cX3_ruleBrokenOnTop 27 = .ok (.iconst 2, 1) := by decide +kernel
theorem dX3_ruleBrokenOnTop_28 : decode cX3_ruleBrokenOnTop 28 = .ok (.ireturn, 1) := by decide +kernel
theorem dX3_ruleBrokenOnTop_29 : decode cX3_ruleBrokenOnTop 29 = .ok (.aload_n 0, 1) := by decide +kernel
theorem dX3_ruleBrokenOnTop_30 : decode cX3_ruleBrokenOnTop 30 = .ok (.getfield 29, 3) := by decide +kernel
theorem dX3_ruleBrokenOnTop_33 : decode cX3_ruleBrokenOnTop 33 = .ok (.getfield 74, 3) := by decide +kernel
theorem dX3_ruleBrokenOnTop_36 : decode cX3_ruleBrokenOnTop 36 = .ok (.iload_n 2, 1) := by decide +kernel
theorem dX3_ruleBrokenOnTop_37 : decode cX3_ruleBrokenOnTop 37 = .ok (.iaload, 1) := by decide +kernel
theorem dX3_ruleBrokenOnTop_38 : decode cX3_ruleBrokenOnTop 38 = .ok (.aload_n 0, 1) := by decide +kernel
theorem dX3_ruleBrokenOnTop_39 : decode cX3_ruleBrokenOnTop 39 = .ok (.getfield 29, 3) := by decide +kernel
theorem dX3_ruleBrokenOnTop_42 : decode cX3_ruleBrokenOnTop 42 = .ok (.getfield 166, 3) := by decide +kernel
theorem dX3_ruleBrokenOnTop_45 : decode cX3_ruleBrokenOnTop 45 = .ok (.if_icmp .lt 5, 3) := by decide +kernel
theorem dX3_ruleBrokenOnTop_48 : decode cX3_ruleBrokenOnTop 48 = .ok (.iconst 3, 1) := by decide +kernel
theorem dX3_ruleBrokenOnTop_49 : decode cX3_ruleBrokenOnTop 49 = .ok (.ireturn, 1) := by decide +kernel
theorem dX3_ruleBrokenOnTop_50 : decode cX3_ruleBrokenOnTop 50 = .ok (.aload_n 0, 1) := by decide +kernel
theorem dX3_ruleBrokenOnTop_51 : decode cX3_ruleBrokenOnTop 51 = .ok (.iload_n 2, 1) := by decide +kernel
theorem dX3_ruleBrokenOnTop_52 : decode cX3_ruleBrokenOnTop 52 = .ok (.invokevirtual 208, 3) := by decide +kernel
theorem dX3_ruleBrokenOnTop_55 : decode cX3_ruleBrokenOnTop 55 = .ok (.aload_n 0, 1) := by decide +kernel
theorem dX3_ruleBrokenOnTop_56 : decode cX3_ruleBrokenOnTop 56 = .ok (.getfield 20, 3) := by decide +kernel
theorem dX3_ruleBrokenOnTop_59 : decode cX3_ruleBrokenOnTop 59 = .ok (.getfield 149, 3) := by decide +kernel
theorem dX3_ruleBrokenOnTop_62 : decode cX3_ruleBrokenOnTop 62 = .ok (.iload_n 1, 1) := by decide +kernel
theorem dX3_ruleBrokenOnTop_63 : decode cX3_ruleBrokenOnTop 63 = .ok (.iaload, 1) := by decide +kernel
theorem dX3_ruleBrokenOnTop_64 : decode cX3_ruleBrokenOnTop 64 = .ok (.iadd, 1) := by decide +kernel
theorem dX3_ruleBrokenOnTop_65 : decode cX3_ruleBrokenOnTop 65 = .ok (.aload_n 0, 1) := by decide +kernel
theorem dX3_ruleBrokenOnTop_66 : decode cX3_ruleBrokenOnTop 66 = .ok (.getfield 13, 3) := by decide +kernel
theorem dX3_ruleBrokenOnTop_69 : decode cX3_ruleBrokenOnTop 69 = .ok (.if_icmp .le 5, 3) := by decide +kernel
theorem dX3_ruleBrokenOnTop_72 : decode cX3_ruleBrokenOnTop 72 = .ok (.iconst 4, 1) := by decide +kernel
theorem dX3_ruleBrokenOnTop_73 : decode cX3_ruleBrokenOnTop 73 = .ok (.ireturn, 1) := by decide +kernel
theorem dX3_ruleBrokenOnTop_74 : decode cX3_ruleBrokenOnTop 74 = .ok (.aload_n 0, 1) := by decide +kernel
theorem dX3_ruleBrokenOnTop_75 : decode cX3_ruleBrokenOnTop 75 = .ok (.getfield 29, 3) := by decide +kernel
theorem dX3_ruleBrokenOnTop_78 : decode cX3_ruleBrokenOnTop 78 = .ok (.iload_n 2, 1) := by decide +kernel
theorem dX3_ruleBrokenOnTop_79 : decode cX3_ruleBrokenOnTop 79 = .ok (.invokevirtual 211, 3) := by decide +kernel
theorem dX3_ruleBrokenOnTop_82 : decode cX3_ruleBrokenOnTop 82 = .ok (.istore_n 3, 1) := by decide +kernel
theorem dX3_ruleBrokenOnTop_83 : decode cX3_ruleBrokenOnTop 83 = .ok (.iload_n 3, 1) := by decide +kernel
theorem dX3_ruleBrokenOnTop_84 : decode cX3_ruleBrokenOnTop 84 = .ok (.iconst (-1), 1) := by decide +kernel
theorem dX3_ruleBrokenOnTop_85 : decode cX3_ruleBrokenOnTop 85 = .ok (.if_icmp .eq 26, 3) := by decide +kernel
theorem dX3_ruleBrokenOnTop_88 : decode cX3_ruleBrokenOnTop 88 = .ok (.aload_n 0, 1) := by decide +kernel
theorem dX3_ruleBrokenOnTop_89 : decode cX3_ruleBrokenOnTop 89 = .ok (.getfield 20, 3) := by decide +kernel
theorem dX3_ruleBrokenOnTop_92 : decode cX3_ruleBrokenOnTop 92 = .ok (.getfield 146, 3) := by decide +kernel
theorem dX3_ruleBrokenOnTop_95 : decode cX3_ruleBrokenOnTop 95 = .ok (.iload_n 3, 1) := by decide +kernel
theorem dX3_ruleBrokenOnTop_96 : decode cX3_ruleBrokenOnTop 96 = .ok (.iaload, 1) := by decide +kernel
theorem dX3_ruleBrokenOnTop_97 : decode cX3_ruleBrokenOnTop 97 = .ok (.aload_n 0, 1) := by decide +kernel
theorem dX3_ruleBrokenOnTop_98 : decode cX3_ruleBrokenOnTop 98 = .ok (.getfield 20, 3) := by decide +kernel
theorem dX3_ruleBrokenOnTop_101 : decode cX3_ruleBrokenOnTop 101 = .ok (.getfield 146, 3) := by decide +kernel
theorem dX3_ruleBrokenOnTop_104 : decode cX3_ruleBrokenOnTop 104 = .ok (.iload_n 1, 1) := by decide +kernel
theorem dX3_ruleBrokenOnTop_105 : decode cX3_ruleBrokenOnTop 105 = .ok (.iaload, 1) := by decide +kernel
theorem dX3_ruleBrokenOnTop_106 : decode cX3_ruleBrokenOnTop 106 = .ok (.if_icmp .eq 5, 3) := by decide +kernel
theorem dX3_ruleBrokenOnTop_109 : decode cX3_ruleBrokenOnTop 109 = .ok (.iconst 5, 1) := by decide +kernel
theorem dX3_ruleBrokenOnTop_110 : decode cX3_ruleBrokenOnTop 110 = .ok (.ireturn, 1) := by decide +kernel
theorem dX3_ruleBrokenOnTop_111 : decode cX3_ruleBrokenOnTop 111 = .ok (.iload_n 3, 1) := by decide +kernel
theorem dX3_ruleBrokenOnTop_112 : decode cX3_ruleBrokenOnTop 112 = .ok (.iconst (-1), 1) := by decide +kernel
theorem dX3_ruleBrokenOnTop_113 : decode cX3_ruleBrokenOnTop 113 = .ok (.if_icmp .eq 27, 3) := by decide +kernel
theorem dX3_ruleBrokenOnTop_116 : decode cX3_ruleBrokenOnTop 116 = .ok (.aload_n 0, 1) := by decide +kernel
theorem dX3_ruleBrokenOnTop_117 : decode cX3_ruleBrokenOnTop 117 = .ok (.getfield 20, 3) := by decide +kernel
theorem dX3_ruleBrokenOnTop_120 : decode cX3_ruleBrokenOnTop 120 = .ok (.getfield 149, 3) := by decide +kernel
theorem dX3_ruleBrokenOnTop_123 : decode cX3_ruleBrokenOnTop 123 = .ok (.iload_n 3, 1) := by decide +kernel
theorem dX3_ruleBrokenOnTop_124 : decode cX3_ruleBrokenOnTop 124 = .ok (.iaload, 1) := by decide +kernel
theorem dX3_ruleBrokenOnTop_125 : decode cX3_ruleBrokenOnTop 125 = .ok (.aload_n 0, 1) := by decide +kernel
theorem dX3_ruleBrokenOnTop_126 : decode cX3_ruleBrokenOnTop 126 = .ok (.getfield 20, 3) := by decide +kernel
theorem dX3_ruleBrokenOnTop_129 : decode cX3_ruleBrokenOnTop 129 = .ok (.getfield 149, 3) := by decide +kernel
theorem dX3_ruleBrokenOnTop_132 : decode cX3_ruleBrokenOnTop 132 = .ok (.iload_n 1, 1) := by decide +kernel
theorem dX3_ruleBrokenOnTop_133 : decode cX3_ruleBrokenOnTop 133 = .ok (.iaload, 1) := by decide +kernel
theorem dX3_ruleBrokenOnTop_134 : decode cX3_ruleBrokenOnTop 134 = .ok (.if_icmp .ge 6, 3) := by decide +kernel
theorem dX3_ruleBrokenOnTop_137 : decode cX3_ruleBrokenOnTop 137 = .ok (.bipush 6, 2) := by decide +kernel
theorem dX3_ruleBrokenOnTop_139 : decode cX3_ruleBrokenOnTop 139 = .ok (.ireturn, 1) := by decide +kernel
theorem dX3_ruleBrokenOnTop_140 : decode cX3_ruleBrokenOnTop 140 = .ok (.aload_n 0, 1) := by decide +kernel
theorem dX3_ruleBrokenOnTop_141 : decode cX3_ruleBrokenOnTop 141 = .ok (.getfield 20, 3) := by decide +kernel
theorem dX3_ruleBrokenOnTop_144 : decode cX3_ruleBrokenOnTop 144 = .ok (.getfield 158, 3) := by decide +kernel
theorem dX3_ruleBrokenOnTop_147 : decode cX3_ruleBrokenOnTop 147 = .ok (.iload_n 1, 1) := by decide +kernel
theorem dX3_ruleBrokenOnTop_148 : decode cX3_ruleBrokenOnTop 148 = .ok (.iaload, 1) := by decide +kernel
theorem dX3_ruleBrokenOnTop_149 : decode cX3_ruleBrokenOnTop 149 = .ok (.aload_n 0, 1) := by decide +kernel
theorem dX3_ruleBrokenOnTop_150 : decode cX3_ruleBrokenOnTop 150 = .ok (.getfield 40, 3) := by decide +kernel
theorem dX3_ruleBrokenOnTop_153 : decode cX3_ruleBrokenOnTop 153 = .ok (.iload_n 2, 1) := by decide +kernel
theorem dX3_ruleBrokenOnTop_154 : decode cX3_ruleBrokenOnTop 154 = .ok (.iaload, 1) := by decide +kernel
theorem dX3_ruleBrokenOnTop_155 : decode cX3_ruleBrokenOnTop 155 = .ok (.invokestatic 214, 3) := by decide +kernel
theorem dX3_ruleBrokenOnTop_158 : decode cX3_ruleBrokenOnTop 158 = .ok (.ireturn, 1) := by decide +kernel
theorem dX2_top_0 : decode cX2_top 0 = .ok (.aload_n 0, 1) := by decide +kernel
theorem dX2_top_1 : decode cX2_top 1 = .ok (.getfield 30, 3) := by decide +kernel
theorem dX2_top_4 : decode cX2_top 4 = .ok (.iload_n 1, 1) := by decide +kernel
theorem dX2_top_5 : decode cX2_top 5 = .ok (.iaload, 1) := by decide +kernel
theorem dX2_top_6 : decode cX2_top 6 = .ok (.ifCond .ne 7, 3) := by decide +kernel
theorem dX2_top_9 : decode cX2_top 9 = .ok (.iconst (-1), 1) := by decide +kernel
theorem dX2_top_10 : decode cX2_top 10 = .ok (.goto 18, 3) := by decide +kernel
theorem dX2_top_13 : decode cX2_top 13 = .ok (.aload_n 0, 1) := by decide +kernel
theorem dX2_top_14 : decode cX2_top 14 = .ok (.getfield 27, 3) := by decide +kernel
theorem dX2_top_17 : decode cX2_top 17 = .ok (.iload_n 1, 1) := by decide +kernel
theorem dX2_top_18 : decode cX2_top 18 = .ok (.aaload, 1) := by decide +kernel
theorem dX2_top_19 : decode cX2_top 19 = .ok (.aload_n 0, 1) := by decide +kernel
theorem dX2_top_20 : decode cX2_top 20 = .ok (.getfield 30, 3) := by decide +kernel
theorem dX2_top_23 : decode cX2_top 23 = .ok (.iload_n 1, 1) := by decide +kernel
theorem dX2_top_24 : decode cX2_top 24 = .ok (.iaload, 1) := by decide +kernel
theorem dX2_top_25 : decode cX2_top 25 = .ok (.iconst 1, 1) := by decide +kernel
theorem dX2_top_26 : decode cX2_top 26 = .ok (.isub, 1) := by decide +kernel
theorem dX2_top_27 : decode cX2_top 27 = .ok (.iaload, 1) := by decide +kernel
theorem dX2_top_28 : decode cX2_top 28 = .ok (.ireturn, 1) := by decide +kernel
theorem dX3_ruleBrokenByGround_0 : decode cX3_ruleBrokenByGround 0 = .ok (.iload_n 0, 1) := by decide +kernel
theorem dX3_ruleBrokenByGround_1 : decode cX3_ruleBrokenByGround 1 = .ok (.iconst 1, 1) := by decide +kernel
theorem dX3_ruleBrokenByGround_2 : decode cX3_ruleBrokenByGround 2 = .ok (.if_icmp .ne 11, 3) := by decide +kernel
theorem dX3_ruleBrokenByGround_5 : decode cX3_ruleBrokenByGround 5 = .ok (.iload_n 1, 1) := by decide +kernel
theorem dX3_ruleBrokenByGround_6 : decode cX3_ruleBrokenByGround 6 = .ok (.iconst 1, 1) := by decide +kernel
theorem dX3_ruleBrokenByGround_7 : decode cX3_ruleBrokenByGround 7 = .ok (.if_icmp .eq 6, 3) := by decide +kernel
theorem dX3_ruleBrokenByGround_10 : decode cX3_ruleBrokenByGround 10 = .ok (.bipush 7, 2) := by decide +kernel
theorem dX3_ruleBrokenByGround_12 : decode cX3_ruleBrokenByGround 12 = .ok (.ireturn, 1) := by decide +kernel
theorem dX3_ruleBrokenByGround_13 : decode cX3_ruleBrokenByGround 13 = .ok (.iload_n 0, 1) := by decide +kernel
theorem dX3_ruleBrokenByGround_14 : decode cX3_ruleBrokenByGround 14 = .ok (.iconst 2, 1) := by decide +kernel
theorem dX3_ruleBrokenByGround_15 : decode cX3_ruleBrokenByGround 15 = .ok (.if_icmp .ne 7, 3) := by decide +kernel
theorem dX3_ruleBrokenByGround_18 : decode cX3_ruleBrokenByGround 18 = .ok (.iconst 1, 1) := by decide +kernel
theorem dX3_ruleBrokenByGround_19 : decode cX3_ruleBrokenByGround 19 = .ok (.goto 4, 3) := by decide +kernel
theorem dX3_ruleBrokenByGround_22 : decode cX3_ruleBrokenByGround 22 = .ok (.iconst 0, 1) := by decide +kernel
theorem dX3_ruleBrokenByGround_23 : decode cX3_ruleBrokenByGround 23 = .ok (.iload_n 1, 1) := by decide +kernel
theorem dX3_ruleBrokenByGround_24 : decode cX3_ruleBrokenByGround 24 = .ok (.iconst 2, 1) := by decide +kernel
theorem dX3_ruleBrokenByGround_25 : decode cX3_ruleBrokenByGround 25 = .ok (.if_icmp .ne 7, 3) := by decide +kernel
theorem dX3_ruleBrokenByGround_28 : decode cX3_ruleBrokenByGround 28 = .ok (.iconst 1, 1) := by decide +kernel
theorem dX3_ruleBrokenByGround_29 : decode cX3_ruleBrokenByGround 29 = .ok (.goto 4, 3) := by decide +kernel
theorem dX3_ruleBrokenByGround_32 : decode cX3_ruleBrokenByGround 32 = .ok (.iconst 0, 1) := by decide +kernel
theorem dX3_ruleBrokenByGround_33 : decode cX3_ruleBrokenByGround 33 = .ok (.if_icmp .eq 6, 3) := by decide +kernel
theorem dX3_ruleBrokenByGround_36 : decode cX3_ruleBrokenByGround 36 = .ok (.bipush 8, 2) := by decide +kernel
theorem dX3_ruleBrokenByGround_38 : decode cX3_ruleBrokenByGround 38 = .ok (.ireturn, 1) := by decide +kernel
theorem dX3_ruleBrokenByGround_39 : decode cX3_ruleBrokenByGround 39 = .ok (.iconst 0, 1) := by decide +kernel
theorem dX3_ruleBrokenByGround_40 : decode cX3_ruleBrokenByGround 40 = .ok (.ireturn, 1) := by decide +kernel
theorem dX3_move_0 : decode cX3_move 0 = .ok (.aload_n 0, 1) := by decide +kernel
theorem dX3_move_1 : decode cX3_move 1 = .ok (.getfield 36, 3) := by decide +kernel
theorem dX3_move_4 : decode cX3_move 4 = .ok (.iload_n 1, 1) := by decide +kernel
theorem dX3_move_5 : decode cX3_move 5 = .ok (.aload_n 0, 1) := by decide +kernel
theorem dX3_move_6 : decode cX3_move 6 = .ok (.getfield 29, 3) := by decide +kernel
theorem dX3_move_9 : decode cX3_move 9 = .ok (.getfield 133, 3) := by decide +kernel
theorem dX3_move_12 : decode cX3_move 12 = .ok (.iload_n 1, 1) := by decide +kernel
theorem dX3_move_13 : decode cX3_move 13 = .ok (.iaload, 1) := by decide +kernel
theorem dX3_move_14 : decode cX3_move 14 = .ok (.invokevirtual 224, 3) := by decide +kernel
theorem dX3_move_17 : decode cX3_move 17 = .ok (.aload_n 0, 1) := by decide +kernel
theorem dX3_move_18 : decode cX3_move 18 = .ok (.getfield 29, 3) := by decide +kernel
theorem dX3_move_21 : decode cX3_move 21 = .ok (.iload_n 1, 1) := by decide +kernel
theorem dX3_move_22 : decode cX3_move 22 = .ok (.iload_n 2, 1) := by decide +kernel
theorem dX3_move_23 : decode cX3_move 23 = .ok (.invokevirtual 130, 3) := by decide +kernel
theorem dX3_move_26 : decode cX3_move 26 = .ok (.return_, 1) := by decide +kernel
theorem dX1_keep_0 : decode cX1_keep 0 = .ok (.aload_n 0, 1) := by decide +kernel
theorem dX1_keep_1 : decode cX1_keep 1 = .ok (.getfield 18, 3) := by decide +kernel
theorem dX1_keep_4 : decode cX1_keep 4 = .ok (.bipush 100, 2) := by decide +kernel
theorem dX1_keep_6 : decode cX1_keep 6 = .ok (.irem, 1) := by decide +kernel
theorem dX1_keep_7 : decode cX1_keep 7 = .ok (.istore_n 3, 1) := by decide +kernel
theorem dX1_keep_8 : decode cX1_keep 8 = .ok (.aload_n 0, 1) := by decide +kernel
theorem dX1_keep_9 : decode cX1_keep 9 = .ok (.getfield 9, 3) := by decide +kernel
theorem dX1_keep_12 : decode cX1_keep 12 = .ok (.iload_n 3, 1) := by decide +kernel
theorem dX1_keep_13 : decode cX1_keep 13 = .ok (.iload_n 1, 1) := by decide +kernel
theorem dX1_keep_14 : decode cX1_keep 14 = .ok (.iastore, 1) := by decide +kernel
theorem dX1_keep_15 : decode cX1_keep 15 = .ok (.aload_n 0, 1) := by decide +kernel
theorem dX1_keep_16 : decode cX1_keep 16 = .ok (.getfield 15, 3) := by decide +kernel
theorem dX1_keep_19 : decode cX1_keep 19 = .ok (.iload_n 3, 1) := by decide +kernel
theorem dX1_keep_20 : decode cX1_keep 20 = .ok (.iload_n 2, 1) := by decide +kernel
theorem dX1_keep_21 : decode cX1_keep 21 = .ok (.iastore, 1) := by decide +kernel
theorem dX1_keep_22 : decode cX1_keep 22 = .ok (.aload_n 0, 1) := by decide +kernel
theorem dX1_keep_23 : decode cX1_keep 23 = .ok (.dup, 1) := by decide +kernel
theorem dX1_keep_24 : decode cX1_keep 24 = .ok (.getfield 18, 3) := by decide +kernel
theorem dX1_keep_27 : decode cX1_keep 27 = .ok (.iconst 1, 1) := by decide +kernel
theorem dX1_keep_28 : decode cX1_keep 28 = .ok (.iadd, 1) := by decide +kernel
theorem dX1_keep_29 : decode cX1_keep 29 = .ok (.putfield 18, 3) := by decide +kernel
theorem dX1_keep_32 : decode cX1_keep 32 = .ok (.aload_n 0, 1) := by decide +kernel
theorem dX1_keep_33 : decode cX1_keep 33 = .ok (.aload_n 0, 1) := by decide +kernel
theorem dX1_keep_34 : decode cX1_keep 34 = .ok (.getfield 22, 3) := by decide +kernel
theorem dX1_keep_37 : decode cX1_keep 37 = .ok (.iconst 1, 1) := by decide +kernel
theorem dX1_keep_38 : decode cX1_keep 38 = .ok (.iadd, 1) := by decide +kernel
theorem dX1_keep_39 : decode cX1_keep 39 = .ok (.bipush 100, 2) := by decide +kernel
theorem dX1_keep_41 : decode cX1_keep 41 = .ok (.invokestatic 25, 3) := by decide +kernel
theorem dX1_keep_44 : decode cX1_keep 44 = .ok (.putfield 22, 3) := by decide +kernel
theorem dX1_keep_47 : decode cX1_keep 47 = .ok (.return_, 1) := by decide +kernel
theorem dX3_take_0 : decode cX3_take 0 = .ok (.aload_n 0, 1) := by decide +kernel
theorem dX3_take_1 : decode cX3_take 1 = .ok (.iload_n 1, 1) := by decide +kernel
theorem dX3_take_2 : decode cX3_take 2 = .ok (.invokevirtual 81, 3) := by decide +kernel
theorem dX3_take_5 : decode cX3_take 5 = .ok (.aload_n 0, 1) := by decide +kernel
theorem dX3_take_6 : decode cX3_take 6 = .ok (.getfield 29, 3) := by decide +kernel
theorem dX3_take_9 : decode cX3_take 9 = .ok (.iload_n 1, 1) := by decide +kernel
theorem dX3_take_10 : decode cX3_take 10 = .ok (.invokevirtual 94, 3) := by decide +kernel
theorem dX3_take_13 : decode cX3_take 13 = .ok (.ifCond .ne 5, 3) := by decide +kernel
theorem dX3_take_16 : decode cX3_take 16 = .ok (.iconst 0, 1) := by decide +kernel
theorem dX3_take_17 : decode cX3_take 17 = .ok (.ireturn, 1) := by decide +kernel
theorem dX3_take_18 : decode cX3_take 18 = .ok (.aload_n 0, 1) := by decide +kernel
theorem dX3_take_19 : decode cX3_take 19 = .ok (.iload_n 1, 1) := by decide +kernel
theorem dX3_take_20 : decode cX3_take 20 = .ok (.iconst (-1), 1) := by decide +kernel
theorem dX3_take_21 : decode cX3_take 21 = .ok (.invokevirtual 91, 3) := by decide +kernel
theorem dX3_take_24 : decode cX3_take 24 = .ok (.iconst 1, 1) := by decide +kernel
theorem dX3_take_25 : decode cX3_take 25 = .ok (.ireturn, 1) := by decide +kernel
theorem dX2_isOnTop_0 : decode cX2_isOnTop 0 = .ok (.aload_n 0, 1) := by decide +kernel
theorem dX2_isOnTop_1 : decode cX2_isOnTop 1 = .ok (.iload_n 1, 1) := by decide +kernel
theorem dX2_isOnTop_2 : decode cX2_isOnTop 2 = .ok (.invokevirtual 39, 3) := by decide +kernel
theorem dX2_isOnTop_5 : decode cX2_isOnTop 5 = .ok (.ifCond .eq 15, 3) := by decide +kernel
theorem dX2_isOnTop_8 : decode cX2_isOnTop 8 = .ok (.aload_n 0, 1) := by decide +kernel
theorem dX2_isOnTop_9 : decode cX2_isOnTop 9 = .ok (.iload_n 1, 1) := by decide +kernel
theorem dX2_isOnTop_10 : decode cX2_isOnTop 10 = .ok (.invokevirtual 43, 3) := by decide +kernel
theorem dX2_isOnTop_13 : decode cX2_isOnTop 13 = .ok (.ifCond .ne 7, 3) := by decide +kernel
theorem dX2_isOnTop_16 : decode cX2_isOnTop 16 = .ok (.iconst 1, 1) := by decide +kernel
theorem dX2_isOnTop_17 : decode cX2_isOnTop 17 = .ok (.goto 4, 3) := by decide +kernel
theorem dX2_isOnTop_20 : decode cX2_isOnTop 20 = .ok (.iconst 0, 1) := by decide +kernel
theorem dX2_isOnTop_21 : decode cX2_isOnTop 21 = .ok (.ireturn, 1) := by decide +kernel
theorem dX2_above_0 : decode cX2_above 0 = .ok (.aload_n 0, 1) := by decide +kernel
theorem dX2_above_1 : decode cX2_above 1 = .ok (.iload_n 1, 1) := by decide +kernel
theorem dX2_above_2 : decode cX2_above 2 = .ok (.invokevirtual 39, 3) := by decide +kernel
theorem dX2_above_5 : decode cX2_above 5 = .ok (.ifCond .eq 26, 3) := by decide +kernel
theorem dX2_above_8 : decode cX2_above 8 = .ok (.aload_n 0, 1) := by decide +kernel
theorem dX2_above_9 : decode cX2_above 9 = .ok (.getfield 30, 3) := by decide +kernel
theorem dX2_above_12 : decode cX2_above 12 = .ok (.aload_n 0, 1) := by decide +kernel
theorem dX2_above_13 : decode cX2_above 13 = .ok (.getfield 9, 3) := by decide +kernel
theorem dX2_above_16 : decode cX2_above 16 = .ok (.iload_n 1, 1) := by decide +kernel
theorem dX2_above_17 : decode cX2_above 17 = .ok (.iaload, 1) := by decide +kernel
theorem dX2_above_18 : decode cX2_above 18 = .ok (.iaload, 1) := by decide +kernel
theorem dX2_above_19 : decode cX2_above 19 = .ok (.iconst 1, 1) := by decide +kernel
theorem dX2_above_20 : decode cX2_above 20 = .ok (.isub, 1) := by decide +kernel
theorem dX2_above_21 : decode cX2_above 21 = .ok (.aload_n 0, 1) := by decide +kernel
theorem dX2_above_22 : decode cX2_above 22 = .ok (.getfield 15, 3) := by decide +kernel
theorem dX2_above_25 : decode cX2_above 25 = .ok (.iload_n 1, 1) := by decide +kernel
theorem dX2_above_26 : decode cX2_above 26 = .ok (.iaload, 1) := by decide +kernel
theorem dX2_above_27 : decode cX2_above 27 = .ok (.isub, 1) := by decide +kernel
theorem dX2_above_28 : decode cX2_above 28 = .ok (.goto 4, 3) := by decide +kernel
theorem dX2_above_31 : decode cX2_above 31 = .ok (.iconst 0, 1) := by decide +kernel
theorem dX2_above_32 : decode cX2_above 32 = .ok (.ireturn, 1) := by decide +kernel
theorem dX3_shift_0 : decode cX3_shift 0 = .ok (.aload_n 0, 1) := by decide +kernel
theorem dX3_shift_1 : decode cX3_shift 1 = .ok (.iload_n 1, 1) := by decide +kernel
theorem dX3_shift_2 : decode cX3_shift 2 = .ok (.invokevirtual 81, 3) := by decide +kernel
theorem dX3_shift_5 : decode cX3_shift 5 = .ok (.aload_n 0, 1) := by decide +kernel
theorem dX3_shift_6 : decode cX3_shift 6 = .ok (.iload_n 2, 1) := by decide +kernel
theorem dX3_shift_7 : decode cX3_shift 7 = .ok (.invokevirtual 85, 3) := by decide +kernel
theorem dX3_shift_10 : decode cX3_shift 10 = .ok (.aload_n 0, 1) := by decide +kernel
theorem dX3_shift_11 : decode cX3_shift 11 = .ok (.getfield 29, 3) := by decide +kernel
theorem dX3_shift_14 : decode cX3_shift 14 = .ok (.iload_n 1, 1) := by decide +kernel
theorem dX3_shift_15 : decode cX3_shift 15 = .ok (.invokevirtual 94, 3) := by decide +kernel
theorem dX3_shift_18 : decode cX3_shift 18 = .ok (.ifCond .ne 5, 3) := by decide +kernel
theorem dX3_shift_21 : decode cX3_shift 21 = .ok (.iconst 0, 1) := by decide +kernel
theorem dX3_shift_22 : decode cX3_shift 22 = .ok (.ireturn, 1) := by decide +kernel
theorem dX3_shift_23 : decode cX3_shift 23 = .ok (.aload_n 0, 1) := by decide +kernel
theorem dX3_shift_24 : decode cX3_shift 24 = .ok (.iload_n 1, 1) := by decide +kernel
theorem dX3_shift_25 : decode cX3_shift 25 = .ok (.iload_n 2, 1) := by decide +kernel
theorem dX3_shift_26 : decode cX3_shift 26 = .ok (.invokevirtual 97, 3) := by decide +kernel
theorem dX3_shift_29 : decode cX3_shift 29 = .ok (.istore_n 3, 1) := by decide +kernel
theorem dX3_shift_30 : decode cX3_shift 30 = .ok (.iload_n 3, 1) := by decide +kernel
theorem dX3_shift_31 : decode cX3_shift 31 = .ok (.ifCond .eq 6, 3) := by decide +kernel
theorem dX3_shift_34 : decode cX3_shift 34 = .ok (.iload_n 3, 1) := by decide +kernel
theorem dX3_shift_35 : decode cX3_shift 35 = .ok (.ineg, 1) := by decide +kernel
theorem dX3_shift_36 : decode cX3_shift 36 = .ok (.ireturn, 1) := by decide +kernel
theorem dX3_shift_37 : decode cX3_shift 37 = .ok (.aload_n 0, 1) := by decide +kernel
theorem dX3_shift_38 : decode cX3_shift 38 = .ok (.iload_n 1, 1) := by decide +kernel
theorem dX3_shift_39 : decode cX3_shift 39 = .ok (.iload_n 2, 1) := by decide +kernel
theorem dX3_shift_40 : decode cX3_shift 40 = .ok (.invokevirtual 91, 3) := by decide +kernel
theorem dX3_shift_43 : decode cX3_shift 43 = .ok (.iconst 1, 1) := by decide +kernel
theorem dX3_shift_44 : decode cX3_shift 44 = .ok (.ireturn, 1) := by decide +kernel
theorem dX3_ruleBrokenByShift_0 : decode cX3_ruleBrokenByShift 0 = .ok (.aload_n 0, 1) := by decide +kernel
theorem dX3_ruleBrokenByShift_1 : decode cX3_ruleBrokenByShift 1 = .ok (.getfield 29, 3) := by decide +kernel
theorem dX3_ruleBrokenByShift_4 : decode cX3_ruleBrokenByShift 4 = .ok (.getfield 133, 3) := by decide +kernel
theorem dX3_ruleBrokenByShift_7 : decode cX3_ruleBrokenByShift 7 = .ok (.iload_n 1, 1) := by decide +kernel
theorem dX3_ruleBrokenByShift_8 : decode cX3_ruleBrokenByShift 8 = .ok (.iaload, 1) := by decide +kernel
theorem dX3_ruleBrokenByShift_9 : decode cX3_ruleBrokenByShift 9 = .ok (.iload_n 2, 1) := by decide +kernel
theorem dX3_ruleBrokenByShift_10 : decode cX3_ruleBrokenByShift 10 = .ok (.if_icmp .ne 7, 3) := by decide +kernel
theorem dX3_ruleBrokenByShift_13 : decode cX3_ruleBrokenByShift 13 = .ok (.iconst 1, 1) := by decide +kernel
theorem dX3_ruleBrokenByShift_14 : decode cX3_ruleBrokenByShift 14 = .ok (.goto 9, 3) := by decide +kernel
theorem dX3_ruleBrokenByShift_17 : decode cX3_ruleBrokenByShift 17 = .ok (.aload_n 0, 1) := by decide +kernel
theorem dX3_ruleBrokenByShift_18 : decode cX3_ruleBrokenByShift 18 = .ok (.iload_n 1, 1) := by decide +kernel
theorem dX3_ruleBrokenByShift_19 : decode cX3_ruleBrokenByShift 19 = .ok (.iload_n 2, 1) := by decide +kernel
theorem dX3_ruleBrokenByShift_20 : decode cX3_ruleBrokenByShift 20 = .ok (.invokevirtual 205, 3) := by decide +kernel
theorem dX3_ruleBrokenByShift_23 : decode cX3_ruleBrokenByShift 23 = .ok (.ireturn, 1) := by decide +kernel
theorem dX3_choose_0 : decode cX3_choose 0 = .ok (.aload_n 0, 1) := by decide +kernel
theorem dX3_choose_1 : decode cX3_choose 1 = .ok (.iload_n 1, 1) := by decide +kernel
theorem dX3_choose_2 : decode cX3_choose 2 = .ok (.invokevirtual 81, 3) := by decide +kernel
theorem dX3_choose_5 : decode cX3_choose 5 = .ok (.aload_n 0, 1) := by decide +kernel
theorem dX3_choose_6 : decode cX3_choose 6 = .ok (.getfield 29, 3) := by decide +kernel
theorem dX3_choose_9 : decode cX3_choose 9 = .ok (.iload_n 1, 1) := by decide +kernel
theorem dX3_choose_10 : decode cX3_choose 10 = .ok (.invokevirtual 100, 3) := by decide +kernel
theorem dX3_choose_13 : decode cX3_choose 13 = .ok (.ifCond .eq 7, 3) := by decide +kernel
theorem dX3_choose_16 : decode cX3_choose 16 = .ok (.iconst (-1), 1) := by decide +kernel
theorem dX3_choose_17 : decode cX3_choose 17 = .ok (.goto 9, 3) := by decide +kernel
theorem dX3_choose_20 : decode cX3_choose 20 = .ok (.aload_n 0, 1) := by decide +kernel
theorem dX3_choose_21 : decode cX3_choose 21 = .ok (.iload_n 1, 1) := by decide +kernel
theorem dX3_choose_22 : decode cX3_choose 22 = .ok (.iconst 0, 1) := by decide +kernel
theorem dX3_choose_23 : decode cX3_choose 23 = .ok (.invokevirtual 103, 3) := by decide +kernel
theorem dX3_choose_26 : decode cX3_choose 26 = .ok (.ireturn, 1) := by decide +kernel
theorem dX3_bestRow_0 : decode cX3_bestRow 0 = .ok (.iconst (-1), 1) := by decide +kernel
theorem dX3_bestRow_1 : decode cX3_bestRow 1 = .ok (.istore_n 3, 1) := by decide +kernel
theorem dX3_bestRow_2 : decode cX3_bestRow 2 = .ok (.iconst 0, 1) := by decide +kernel
theorem dX3_bestRow_3 : decode cX3_bestRow 3 = .ok (.istore 4, 2) := by decide +kernel
theorem dX3_bestRow_5 : decode cX3_bestRow 5 = .ok (.iconst 0, 1) := by decide +kernel
theorem dX3_bestRow_6 : decode cX3_bestRow 6 = .ok (.istore 5, 2) := by decide +kernel
theorem dX3_bestRow_8 : decode cX3_bestRow 8 = .ok (.iload 5, 2) := by decide +kernel
theorem dX3_bestRow_10 : decode cX3_bestRow 10 = .ok (.aload_n 0, 1) := by decide +kernel
theorem dX3_bestRow_11 : decode cX3_bestRow 11 = .ok (.getfield 29, 3) := by decide +kernel
theorem dX3_bestRow_14 : decode cX3_bestRow 14 = .ok (.getfield 175, 3) := by decide +kernel
theorem dX3_bestRow_17 : decode cX3_bestRow 17 = .ok (.if_icmp .ge 64, 3) := by decide +kernel
theorem dX3_bestRow_20 : decode cX3_bestRow 20 = .ok (.aload_n 0, 1) := by decide +kernel
theorem dX3_bestRow_21 : decode cX3_bestRow 21 = .ok (.iload_n 1, 1) := by decide +kernel
theorem dX3_bestRow_22 : decode cX3_bestRow 22 = .ok (.iload 5, 2) := by decide +kernel
theorem dX3_bestRow_24 : decode cX3_bestRow 24 = .ok (.invokevirtual 97, 3) := by decide +kernel
theorem dX3_bestRow_27 : decode cX3_bestRow 27 = .ok (.ifCond .ne 48, 3) := by decide +kernel
theorem dX3_bestRow_30 : decode cX3_bestRow 30 = .ok (.iload_n 2, 1) := by decide +kernel
theorem dX3_bestRow_31 : decode cX3_bestRow 31 = .ok (.ifCond .eq 16, 3) := by decide +kernel
theorem dX3_bestRow_34 : decode cX3_bestRow 34 = .ok (.aload_n 0, 1) := by decide +kernel
theorem dX3_bestRow_35 : decode cX3_bestRow 35 = .ok (.iload_n 1, 1) := by decide +kernel
theorem dX3_bestRow_36 : decode cX3_bestRow 36 = .ok (.iload 5, 2) := by decide +kernel
theorem dX3_bestRow_38 : decode cX3_bestRow 38 = .ok (.invokevirtual 221, 3) := by decide +kernel
theorem dX3_bestRow_41 : decode cX3_bestRow 41 = .ok (.ifCond .eq 6, 3) := by decide +kernel
theorem dX3_bestRow_44 : decode cX3_bestRow 44 = .ok (.goto 31, 3) := by decide +kernel
theorem dX3_bestRow_47 : decode cX3_bestRow 47 = .ok (.aload_n 0, 1) := by decide +kernel
theorem dX3_bestRow_48 : decode cX3_bestRow 48 = .ok (.iload_n 1, 1) := by decide +kernel
theorem dX3_bestRow_49 : decode cX3_bestRow 49 = .ok (.iload 5, 2) := by decide +kernel
theorem dX3_bestRow_51 : decode cX3_bestRow 51 = .ok (.invokevirtual 109, 3) := by decide +kernel
theorem dX3_bestRow_54 : decode cX3_bestRow 54 = .ok (.istore 6, 2) := by decide +kernel
theorem dX3_bestRow_56 : decode cX3_bestRow 56 = .ok (.iload_n 3, 1) := by decide +kernel
theorem dX3_bestRow_57 : decode cX3_bestRow 57 = .ok (.iconst (-1), 1) := by decide +kernel
theorem dX3_bestRow_58 : decode cX3_bestRow 58 = .ok (.if_icmp .eq 10, 3) := by decide +kernel
theorem dX3_bestRow_61 : decode cX3_bestRow 61 = .ok (.iload 6, 2) := by decide +kernel
theorem dX3_bestRow_63 : decode cX3_bestRow 63 = .ok (.iload 4, 2) := by decide +kernel
theorem dX3_bestRow_65 : decode cX3_bestRow 65 = .ok (.if_icmp .le 10, 3) := by decide +kernel
theorem dX3_bestRow_68 : decode cX3_bestRow 68 = .ok (.iload 5, 2) := by decide +kernel
theorem dX3_bestRow_70 : decode cX3_bestRow 70 = .ok (.istore_n 3, 1) := by decide +kernel
theorem dX3_bestRow_71 : decode cX3_bestRow 71 = .ok (.iload 6, 2) := by decide +kernel
theorem dX3_bestRow_73 : decode cX3_bestRow 73 = .ok (.istore 4, 2) := by decide +kernel
theorem dX3_bestRow_75 : decode cX3_bestRow 75 = .ok (.iinc 5 1, 3) := by decide +kernel
theorem dX3_bestRow_78 : decode cX3_bestRow 78 = .ok (.goto (-70), 3) := by decide +kernel
theorem dX3_bestRow_81 : decode cX3_bestRow 81 = .ok (.iload_n 3, 1) := by decide +kernel
theorem dX3_bestRow_82 : decode cX3_bestRow 82 = .ok (.ireturn, 1) := by decide +kernel
theorem dX3_wouldBeInTheWay_0 : decode cX3_wouldBeInTheWay 0 = .ok (.aload_n 0, 1) := by decide +kernel
theorem dX3_wouldBeInTheWay_1 : decode cX3_wouldBeInTheWay 1 = .ok (.iload_n 1, 1) := by decide +kernel
theorem dX3_wouldBeInTheWay_2 : decode cX3_wouldBeInTheWay 2 = .ok (.iload_n 2, 1) := by decide +kernel
theorem dX3_wouldBeInTheWay_3 : decode cX3_wouldBeInTheWay 3 = .ok (.aload_n 0, 1) := by decide +kernel
theorem dX3_wouldBeInTheWay_4 : decode cX3_wouldBeInTheWay 4 = .ok (.getfield 29, 3) := by decide +kernel
theorem dX3_wouldBeInTheWay_7 : decode cX3_wouldBeInTheWay 7 = .ok (.getfield 74, 3) := by decide +kernel
theorem dX3_wouldBeInTheWay_10 : decode cX3_wouldBeInTheWay 10 = .ok (.iload_n 2, 1) := by decide +kernel
theorem dX3_wouldBeInTheWay_11 : decode cX3_wouldBeInTheWay 11 = .ok (.iaload, 1) := by decide +kernel
theorem dX3_wouldBeInTheWay_12 : decode cX3_wouldBeInTheWay 12 = .ok (.invokevirtual 217, 3) := by decide +kernel
theorem dX3_wouldBeInTheWay_15 : decode cX3_wouldBeInTheWay 15 = .ok (.ifCond .le 7, 3) := by decide +kernel
theorem dX3_wouldBeInTheWay_18 : decode cX3_wouldBeInTheWay 18 = .ok (.iconst 1, 1) := by decide +kernel
theorem dX3_wouldBeInTheWay_19 : decode cX3_wouldBeInTheWay 19 = .ok (.goto 4, 3) := by decide +kernel
theorem dX3_wouldBeInTheWay_22 : decode cX3_wouldBeInTheWay 22 = .ok (.iconst 0, 1) := by decide +kernel
theorem dX3_wouldBeInTheWay_23 : decode cX3_wouldBeInTheWay 23 = .ok (.ireturn, 1) := by decide +kernel
theorem dX3_scoreOn_0 : decode cX3_scoreOn 0 = .ok (.aload_n 0, 1) := by decide +kernel
theorem dX3_scoreOn_1 : decode cX3_scoreOn 1 = .ok (.getfield 44, 3) := by decide +kernel
theorem dX3_scoreOn_4 : decode cX3_scoreOn 4 = .ok (.iload_n 2, 1) := by decide +kernel
theorem dX3_scoreOn_5 : decode cX3_scoreOn 5 = .ok (.iaload, 1) := by decide +kernel
theorem dX3_scoreOn_6 : decode cX3_scoreOn 6 = .ok (.ifCond .ne 7, 3) := by decide +kernel
theorem dX3_scoreOn_9 : decode cX3_scoreOn 9 = .ok (.iconst 0, 1) := by decide +kernel
theorem dX3_scoreOn_10 : decode cX3_scoreOn 10 = .ok (.goto 5, 3) := by decide +kernel
theorem dX3_scoreOn_13 : decode cX3_scoreOn 13 = .ok (.bipush 30, 2) := by decide +kernel
theorem dX3_scoreOn_15 : decode cX3_scoreOn 15 = .ok (.istore_n 3, 1) := by decide +kernel
theorem dX3_scoreOn_16 : decode cX3_scoreOn 16 = .ok (.aload_n 0, 1) := by decide +kernel
theorem dX3_scoreOn_17 : decode cX3_scoreOn 17 = .ok (.getfield 29, 3) := by decide +kernel
theorem dX3_scoreOn_20 : decode cX3_scoreOn 20 = .ok (.iload_n 2, 1) := by decide +kernel
theorem dX3_scoreOn_21 : decode cX3_scoreOn 21 = .ok (.invokevirtual 211, 3) := by decide +kernel
theorem dX3_scoreOn_24 : decode cX3_scoreOn 24 = .ok (.istore 4, 2) := by decide +kernel
theorem dX3_scoreOn_26 : decode cX3_scoreOn 26 = .ok (.iload 4, 2) := by decide +kernel
theorem dX3_scoreOn_28 : decode cX3_scoreOn 28 = .ok (.iconst (-1), 1) := by decide +kernel
theorem dX3_scoreOn_29 : decode cX3_scoreOn 29 = .ok (.if_icmp .ne 8, 3) := by decide +kernel
theorem dX3_scoreOn_32 : decode cX3_scoreOn 32 = .ok (.bipush 20, 2) := by decide +kernel
theorem dX3_scoreOn_34 : decode cX3_scoreOn 34 = .ok (.iload_n 3, 1) := by decide +kernel
theorem dX3_scoreOn_35 : decode cX3_scoreOn 35 = .ok (.iadd, 1) := by decide +kernel
theorem dX3_scoreOn_36 : decode cX3_scoreOn 36 = .ok (.ireturn, 1) := by decide +kernel
theorem dX3_scoreOn_37 : decode cX3_scoreOn 37 = .ok (.bipush 15, 2) := by decide +kernel
theorem dX3_scoreOn_39 : decode cX3_scoreOn 39 = .ok (.aload_n 0, 1) := by decide +kernel
theorem dX3_scoreOn_40 : decode cX3_scoreOn 40 = .ok (.iload_n 1, 1) := by decide +kernel
theorem dX3_scoreOn_41 : decode cX3_scoreOn 41 = .ok (.iload_n 2, 1) := by decide +kernel
theorem dX3_scoreOn_42 : decode cX3_scoreOn 42 = .ok (.aload_n 0, 1) := by decide +kernel
theorem dX3_scoreOn_43 : decode cX3_scoreOn 43 = .ok (.getfield 29, 3) := by decide +kernel
theorem dX3_scoreOn_46 : decode cX3_scoreOn 46 = .ok (.getfield 74, 3) := by decide +kernel
theorem dX3_scoreOn_49 : decode cX3_scoreOn 49 = .ok (.iload_n 2, 1) := by decide +kernel
theorem dX3_scoreOn_50 : decode cX3_scoreOn 50 = .ok (.iaload, 1) := by decide +kernel
theorem dX3_scoreOn_51 : decode cX3_scoreOn 51 = .ok (.invokevirtual 217, 3) := by decide +kernel
theorem dX3_scoreOn_54 : decode cX3_scoreOn 54 = .ok (.imul, 1) := by decide +kernel
theorem dX3_scoreOn_55 : decode cX3_scoreOn 55 = .ok (.istore 5, 2) := by decide +kernel
theorem dX3_scoreOn_57 : decode cX3_scoreOn 57 = .ok (.aload_n 0, 1) := by decide +kernel
theorem dX3_scoreOn_58 : decode cX3_scoreOn 58 = .ok (.getfield 20, 3) := by decide +kernel
theorem dX3_scoreOn_61 : decode cX3_scoreOn 61 = .ok (.getfield 155, 3) := by decide +kernel
theorem dX3_scoreOn_64 : decode cX3_scoreOn 64 = .ok (.iload 4, 2) := by decide +kernel
theorem dX3_scoreOn_66 : decode cX3_scoreOn 66 = .ok (.iaload, 1) := by decide +kernel
theorem dX3_scoreOn_67 : decode cX3_scoreOn 67 = .ok (.aload_n 0, 1) := by decide +kernel
theorem dX3_scoreOn_68 : decode cX3_scoreOn 68 = .ok (.getfield 20, 3) := by decide +kernel
theorem dX3_scoreOn_71 : decode cX3_scoreOn 71 = .ok (.getfield 155, 3) := by decide +kernel
theorem dX3_scoreOn_74 : decode cX3_scoreOn 74 = .ok (.iload_n 1, 1) := by decide +kernel
theorem dX3_scoreOn_75 : decode cX3_scoreOn 75 = .ok (.iaload, 1) := by decide +kernel
theorem dX3_scoreOn_76 : decode cX3_scoreOn 76 = .ok (.if_icmp .ne 8, 3) := by decide +kernel
theorem dX3_scoreOn_79 : decode cX3_scoreOn 79 = .ok (.bipush 12, 2) := by decide +kernel
theorem dX3_scoreOn_81 : decode cX3_scoreOn 81 = .ok (.goto 4, 3) := by decide +kernel
theorem dX3_scoreOn_84 : decode cX3_scoreOn 84 = .ok (.iconst 0, 1) := by decide +kernel
theorem dX3_scoreOn_85 : decode cX3_scoreOn 85 = .ok (.istore 6, 2) := by decide +kernel
theorem dX3_scoreOn_87 : decode cX3_scoreOn 87 = .ok (.aload_n 0, 1) := by decide +kernel
theorem dX3_scoreOn_88 : decode cX3_scoreOn 88 = .ok (.getfield 20, 3) := by decide +kernel
theorem dX3_scoreOn_91 : decode cX3_scoreOn 91 = .ok (.getfield 149, 3) := by decide +kernel
theorem dX3_scoreOn_94 : decode cX3_scoreOn 94 = .ok (.iload 4, 2) := by decide +kernel
theorem dX3_scoreOn_96 : decode cX3_scoreOn 96 = .ok (.iaload, 1) := by decide +kernel
theorem dX3_scoreOn_97 : decode cX3_scoreOn 97 = .ok (.aload_n 0, 1) := by decide +kernel
theorem dX3_scoreOn_98 : decode cX3_scoreOn 98 = .ok (.getfield 20, 3) := by decide +kernel
theorem dX3_scoreOn_101 : decode cX3_scoreOn 101 = .ok (.getfield 149, 3) := by decide +kernel
theorem dX3_scoreOn_104 : decode cX3_scoreOn 104 = .ok (.iload_n 1, 1) := by decide +kernel
theorem dX3_scoreOn_105 : decode cX3_scoreOn 105 = .ok (.iaload, 1) := by decide +kernel
theorem dX3_scoreOn_106 : decode cX3_scoreOn 106 = .ok (.isub, 1) := by decide +kernel
theorem dX3_scoreOn_107 : decode cX3_scoreOn 107 = .ok (.istore 7, 2) := by decide +kernel
theorem dX3_scoreOn_109 : decode cX3_scoreOn 109 = .ok (.iconst 3, 1) := by decide +kernel
theorem dX3_scoreOn_110 : decode cX3_scoreOn 110 = .ok (.iload 7, 2) := by decide +kernel
theorem dX3_scoreOn_112 : decode cX3_scoreOn 112 = .ok (.imul, 1) := by decide +kernel
theorem dX3_scoreOn_113 : decode cX3_scoreOn 113 = .ok (.bipush 24, 2) := by decide +kernel
theorem dX3_scoreOn_115 : decode cX3_scoreOn 115 = .ok (.invokestatic 190, 3) := by decide +kernel
theorem dX3_scoreOn_118 : decode cX3_scoreOn 118 = .ok (.istore 8, 2) := by decide +kernel
theorem dX3_scoreOn_120 : decode cX3_scoreOn 120 = .ok (.bipush 40, 2) := by decide +kernel
theorem dX3_scoreOn_122 : decode cX3_scoreOn 122 = .ok (.iload 5, 2) := by decide +kernel
theorem dX3_scoreOn_124 : decode cX3_scoreOn 124 = .ok (.isub, 1) := by decide +kernel
theorem dX3_scoreOn_125 : decode cX3_scoreOn 125 = .ok (.iload 6, 2) := by decide +kernel
theorem dX3_scoreOn_127 : decode cX3_scoreOn 127 = .ok (.iadd, 1) := by decide +kernel
theorem dX3_scoreOn_128 : decode cX3_scoreOn 128 = .ok (.iload 8, 2) := by decide +kernel
theorem dX3_scoreOn_130 : decode cX3_scoreOn 130 = .ok (.isub, 1) := by decide +kernel
theorem dX3_scoreOn_131 : decode cX3_scoreOn 131 = .ok (.iload_n 3, 1) := by decide +kernel
theorem dX3_scoreOn_132 : decode cX3_scoreOn 132 = .ok (.iadd, 1) := by decide +kernel
theorem dX3_scoreOn_133 : decode cX3_scoreOn 133 = .ok (.ireturn, 1) := by decide +kernel
theorem dX3_score_0 : decode cX3_score 0 = .ok (.aload_n 0, 1) := by decide +kernel
theorem dX3_score_1 : decode cX3_score 1 = .ok (.iload_n 1, 1) := by decide +kernel
theorem dX3_score_2 : decode cX3_score 2 = .ok (.invokevirtual 81, 3) := by decide +kernel
theorem dX3_score_5 : decode cX3_score 5 = .ok (.aload_n 0, 1) := by decide +kernel
theorem dX3_score_6 : decode cX3_score 6 = .ok (.iload_n 2, 1) := by decide +kernel
theorem dX3_score_7 : decode cX3_score 7 = .ok (.invokevirtual 85, 3) := by decide +kernel
theorem dX3_score_10 : decode cX3_score 10 = .ok (.aload_n 0, 1) := by decide +kernel
theorem dX3_score_11 : decode cX3_score 11 = .ok (.iload_n 1, 1) := by decide +kernel
theorem dX3_score_12 : decode cX3_score 12 = .ok (.iload_n 2, 1) := by decide +kernel
theorem dX3_score_13 : decode cX3_score 13 = .ok (.invokevirtual 88, 3) := by decide +kernel
theorem dX3_score_16 : decode cX3_score 16 = .ok (.ifCond .eq 13, 3) := by decide +kernel
theorem dX3_score_19 : decode cX3_score 19 = .ok (.new 61, 3) := by decide +kernel
theorem dX3_score_22 : decode cX3_score 22 = .ok (.dup, 1) := by decide +kernel
theorem dX3_score_23 : decode cX3_score 23 = .ok (.ldc 107, 2) := by decide +kernel
theorem dX3_score_25 : decode cX3_score 25 = .ok (.invokespecial 65, 3) := by decide +kernel
theorem dX3_score_28 : decode cX3_score 28 = .ok (.athrow, 1) := by decide +kernel
theorem dX3_score_29 : decode cX3_score 29 = .ok (.aload_n 0, 1) := by decide +kernel
theorem dX3_score_30 : decode cX3_score 30 = .ok (.iload_n 1, 1) := by decide +kernel
theorem dX3_score_31 : decode cX3_score 31 = .ok (.iload_n 2, 1) := by decide +kernel
theorem dX3_score_32 : decode cX3_score 32 = .ok (.invokevirtual 109, 3) := by decide +kernel
theorem dX3_score_35 : decode cX3_score 35 = .ok (.ireturn, 1) := by decide +kernel
theorem dX3_night_0 : decode cX3_night 0 = .ok (.iload_n 1, 1) := by decide +kernel
theorem dX3_night_1 : decode cX3_night 1 = .ok (.iconst 0, 1) := by decide +kernel
theorem dX3_night_2 : decode cX3_night 2 = .ok (.bipush 50, 2) := by decide +kernel
theorem dX3_night_4 : decode cX3_night 4 = .ok (.invokestatic 47, 3) := by decide +kernel
theorem dX3_night_7 : decode cX3_night 7 = .ok (.ifCond .ne 13, 3) := by decide +kernel
theorem dX3_night_10 : decode cX3_night 10 = .ok (.new 51, 3) := by decide +kernel
theorem dX3_night_13 : decode cX3_night 13 = .ok (.dup, 1) := by decide +kernel
theorem dX3_night_14 : decode cX3_night 14 = .ok (.ldc 112, 2) := by decide +kernel
theorem dX3_night_16 : decode cX3_night 16 = .ok (.invokespecial 55, 3) := by decide +kernel
theorem dX3_night_19 : decode cX3_night 19 = .ok (.athrow, 1) := by decide +kernel
theorem dX3_night_20 : decode cX3_night 20 = .ok (.iconst 0, 1) := by decide +kernel
theorem dX3_night_21 : decode cX3_night 21 = .ok (.istore_n 2, 1) := by decide +kernel
theorem dX3_night_22 : decode cX3_night 22 = .ok (.iload_n 2, 1) := by decide +kernel
theorem dX3_night_23 : decode cX3_night 23 = .ok (.iload_n 1, 1) := by decide +kernel
theorem dX3_night_24 : decode cX3_night 24 = .ok (.if_icmp .ge 18, 3) := by decide +kernel
theorem dX3_night_27 : decode cX3_night 27 = .ok (.aload_n 0, 1) := by decide +kernel
theorem dX3_night_28 : decode cX3_night 28 = .ok (.invokevirtual 114, 3) := by decide +kernel
theorem dX3_night_31 : decode cX3_night 31 = .ok (.ifCond .ne 5, 3) := by decide +kernel
theorem dX3_night_34 : decode cX3_night 34 = .ok (.iload_n 2, 1) := by decide +kernel
theorem dX3_night_35 : decode cX3_night 35 = .ok (.ireturn, 1) := by decide +kernel
theorem dX3_night_36 : decode cX3_night 36 = .ok (.iinc 2 1, 3) := by decide +kernel
theorem dX3_night_39 : decode cX3_night 39 = .ok (.goto (-17), 3) := by decide +kernel
theorem dX3_night_42 : decode cX3_night 42 = .ok (.iload_n 1, 1) := by decide +kernel
theorem dX3_night_43 : decode cX3_night 43 = .ok (.ireturn, 1) := by decide +kernel
theorem dX3_moveOneAside_0 : decode cX3_moveOneAside 0 = .ok (.iconst (-1), 1) := by decide +kernel
theorem dX3_moveOneAside_1 : decode cX3_moveOneAside 1 = .ok (.istore_n 1, 1) := by decide +kernel
theorem dX3_moveOneAside_2 : decode cX3_moveOneAside 2 = .ok (.iconst (-1), 1) := by decide +kernel
theorem dX3_moveOneAside_3 : decode cX3_moveOneAside 3 = .ok (.istore_n 2, 1) := by decide +kernel
theorem dX3_moveOneAside_4 : decode cX3_moveOneAside 4 = .ok (.iconst 0, 1) := by decide +kernel
theorem dX3_moveOneAside_5 : decode cX3_moveOneAside 5 = .ok (.istore_n 3, 1) := by decide +kernel
theorem dX3_moveOneAside_6 : decode cX3_moveOneAside 6 = .ok (.iconst 0, 1) := by decide +kernel
theorem dX3_moveOneAside_7 : decode cX3_moveOneAside 7 = .ok (.istore 4, 2) := by decide +kernel
theorem dX3_moveOneAside_9 : decode cX3_moveOneAside 9 = .ok (.iload 4, 2) := by decide +kernel
theorem dX3_moveOneAside_11 : decode cX3_moveOneAside 11 = .ok (.aload_n 0, 1) := by decide +kernel
theorem dX3_moveOneAside_12 : decode cX3_moveOneAside 12 = .ok (.getfield 29, 3) := by decide +kernel
theorem dX3_moveOneAside_15 : decode cX3_moveOneAside 15 = .ok (.getfield 175, 3) := by decide +kernel
theorem dX3_moveOneAside_18 : decode cX3_moveOneAside 18 = .ok (.if_icmp .ge 83, 3) := by decide +kernel
theorem dX3_moveOneAside_21 : decode cX3_moveOneAside 21 = .ok (.aload_n 0, 1) := by decide +kernel
theorem dX3_moveOneAside_22 : decode cX3_moveOneAside 22 = .ok (.getfield 29, 3) := by decide +kernel
theorem dX3_moveOneAside_25 : decode cX3_moveOneAside 25 = .ok (.iload 4, 2) := by decide +kernel
theorem dX3_moveOneAside_27 : decode cX3_moveOneAside 27 = .ok (.invokevirtual 211, 3) := by decide +kernel
theorem dX3_moveOneAside_30 : decode cX3_moveOneAside 30 = .ok (.istore 5, 2) := by decide +kernel
theorem dX3_moveOneAside_32 : decode cX3_moveOneAside 32 = .ok (.iload 5, 2) := by decide +kernel
theorem dX3_moveOneAside_34 : decode cX3_moveOneAside 34 = .ok (.iconst (-1), 1) := by decide +kernel
theorem dX3_moveOneAside_35 : decode cX3_moveOneAside 35 = .ok (.if_icmp .ne 6, 3) := by decide +kernel
theorem dX3_moveOneAside_38 : decode cX3_moveOneAside 38 = .ok (.goto 57, 3) := by decide +kernel
theorem dX3_moveOneAside_41 : decode cX3_moveOneAside 41 = .ok (.aload_n 0, 1) := by decide +kernel
theorem dX3_moveOneAside_42 : decode cX3_moveOneAside 42 = .ok (.iload 5, 2) := by decide +kernel
theorem dX3_moveOneAside_44 : decode cX3_moveOneAside 44 = .ok (.iload 4, 2) := by decide +kernel
theorem dX3_moveOneAside_46 : decode cX3_moveOneAside 46 = .ok (.aload_n 0, 1) := by decide +kernel
theorem dX3_moveOneAside_47 : decode cX3_moveOneAside 47 = .ok (.getfield 29, 3) := by decide +kernel
theorem dX3_moveOneAside_50 : decode cX3_moveOneAside 50 = .ok (.getfield 136, 3) := by decide +kernel
theorem dX3_moveOneAside_53 : decode cX3_moveOneAside 53 = .ok (.iload 5, 2) := by decide +kernel
theorem dX3_moveOneAside_55 : decode cX3_moveOneAside 55 = .ok (.iaload, 1) := by decide +kernel
theorem dX3_moveOneAside_56 : decode cX3_moveOneAside 56 = .ok (.invokevirtual 217, 3) := by decide +kernel
theorem dX3_moveOneAside_59 : decode cX3_moveOneAside 59 = .ok (.istore 6, 2) := by decide +kernel
theorem dX3_moveOneAside_61 : decode cX3_moveOneAside 61 = .ok (.iload 6, 2) := by decide +kernel
theorem dX3_moveOneAside_63 : decode cX3_moveOneAside 63 = .ok (.iload_n 3, 1) := by decide +kernel
theorem dX3_moveOneAside_64 : decode cX3_moveOneAside 64 = .ok (.if_icmp .le 13, 3) := by decide +kernel
theorem dX3_moveOneAside_67 : decode cX3_moveOneAside 67 = .ok (.aload_n 0, 1) := by decide +kernel
theorem dX3_moveOneAside_68 : decode cX3_moveOneAside 68 = .ok (.iload 5, 2) := by decide +kernel
theorem dX3_moveOneAside_70 : decode cX3_moveOneAside 70 = .ok (.iconst 1, 1) := by decide +kernel
theorem dX3_moveOneAside_71 : decode cX3_moveOneAside 71 = .ok (.invokevirtual 103, 3) := by decide +kernel
theorem dX3_moveOneAside_74 : decode cX3_moveOneAside 74 = .ok (.goto 4, 3) := by decide +kernel
theorem dX3_moveOneAside_77 : decode cX3_moveOneAside 77 = .ok (.iconst (-1), 1) := by decide +kernel
theorem dX3_moveOneAside_78 : decode cX3_moveOneAside 78 = .ok (.istore 7, 2) := by decide +kernel
theorem dX3_moveOneAside_80 : decode cX3_moveOneAside 80 = .ok (.iload 7, 2) := by decide +kernel
theorem dX3_moveOneAside_82 : decode cX3_moveOneAside 82 = .ok (.iconst (-1), 1) := by decide +kernel
theorem dX3_moveOneAside_83 : decode cX3_moveOneAside 83 = .ok (.if_icmp .eq 12, 3) := by decide +kernel
theorem dX3_moveOneAside_86 : decode cX3_moveOneAside 86 = .ok (.iload 5, 2) := by decide +kernel
theorem dX3_moveOneAside_88 : decode cX3_moveOneAside 88 = .ok (.istore_n 1, 1) := by decide +kernel
theorem dX3_moveOneAside_89 : decode cX3_moveOneAside 89 = .ok (.iload 7, 2) := by decide +kernel
theorem dX3_moveOneAside_91 : decode cX3_moveOneAside 91 = .ok (.istore_n 2, 1) := by decide +kernel
theorem dX3_moveOneAside_92 : decode cX3_moveOneAside 92 = .ok (.iload 6, 2) := by decide +kernel
theorem dX3_moveOneAside_94 : decode cX3_moveOneAside 94 = .ok (.istore_n 3, 1) := by decide +kernel
theorem dX3_moveOneAside_95 : decode cX3_moveOneAside 95 = .ok (.iinc 4 1, 3) := by decide +kernel
theorem dX3_moveOneAside_98 : decode cX3_moveOneAside 98 = .ok (.goto (-89), 3) := by decide +kernel
theorem dX3_moveOneAside_101 : decode cX3_moveOneAside 101 = .ok (.iload_n 1, 1) := by decide +kernel
theorem dX3_moveOneAside_102 : decode cX3_moveOneAside 102 = .ok (.iconst (-1), 1) := by decide +kernel
theorem dX3_moveOneAside_103 : decode cX3_moveOneAside 103 = .ok (.if_icmp .ne 5, 3) := by decide +kernel
theorem dX3_moveOneAside_106 : decode cX3_moveOneAside 106 = .ok (.iconst 0, 1) := by decide +kernel
theorem dX3_moveOneAside_107 : decode cX3_moveOneAside 107 = .ok (.ireturn, 1) := by decide +kernel
theorem dX3_moveOneAside_108 : decode cX3_moveOneAside 108 = .ok (.aload_n 0, 1) := by decide +kernel
theorem dX3_moveOneAside_109 : decode cX3_moveOneAside 109 = .ok (.iload_n 1, 1) := by decide +kernel
theorem dX3_moveOneAside_110 : decode cX3_moveOneAside 110 = .ok (.iload_n 2, 1) := by decide +kernel
theorem dX3_moveOneAside_111 : decode cX3_moveOneAside 111 = .ok (.invokevirtual 91, 3) := by decide +kernel
theorem dX3_moveOneAside_114 : decode cX3_moveOneAside 114 = .ok (.iconst 1, 1) := by decide +kernel
theorem dX3_moveOneAside_115 : decode cX3_moveOneAside 115 = .ok (.ireturn, 1) := by decide +kernel
theorem dX3_where_0 : decode cX3_where 0 = .ok (.aload_n 0, 1) := by decide +kernel
theorem dX3_where_1 : decode cX3_where 1 = .ok (.iload_n 1, 1) := by decide +kernel
theorem dX3_where_2 : decode cX3_where 2 = .ok (.invokevirtual 81, 3) := by decide +kernel
theorem dX3_where_5 : decode cX3_where 5 = .ok (.iload_n 2, 1) := by decide +kernel
theorem dX3_where_6 : decode cX3_where 6 = .ok (.tableswitch 143 0 8 #[50, 60, 70, 79, 93, 103, 113, 123, 133], 50) := by decide +kernel
theorem dX3_where_56 : decode cX3_where 56 = .ok (.aload_n 0, 1) := by decide +kernel
theorem dX3_where_57 : decode cX3_where 57 = .ok (.getfield 29, 3) := by decide +kernel
theorem dX3_where_60 : decode cX3_where 60 = .ok (.getfield 133, 3) := by decide +kernel
theorem dX3_where_63 : decode cX3_where 63 = .ok (.iload_n 1, 1) := by decide +kernel
theorem dX3_where_64 : decode cX3_where 64 = .ok (.iaload, 1) := by decide +kernel
theorem dX3_where_65 : decode cX3_where 65 = .ok (.ireturn, 1) := by decide +kernel
theorem dX3_where_66 : decode cX3_where 66 = .ok (.aload_n 0, 1) := by decide +kernel
theorem dX3_where_67 : decode cX3_where 67 = .ok (.getfield 29, 3) := by decide +kernel
theorem dX3_where_70 : decode cX3_where 70 = .ok (.getfield 136, 3) := by decide +kernel
theorem dX3_where_73 : decode cX3_where 73 = .ok (.iload_n 1, 1) := by decide +kernel
theorem dX3_where_74 : decode cX3_where 74 = .ok (.iaload, 1) := by decide +kernel
theorem dX3_where_75 : decode cX3_where 75 = .ok (.ireturn, 1) := by decide +kernel
theorem dX3_where_76 : decode cX3_where 76 = .ok (.aload_n 0, 1) := by decide +kernel
theorem dX3_where_77 : decode cX3_where 77 = .ok (.getfield 29, 3) := by decide +kernel
theorem dX3_where_80 : decode cX3_where 80 = .ok (.iload_n 1, 1) := by decide +kernel
theorem dX3_where_81 : decode cX3_where 81 = .ok (.invokevirtual 139, 3) := by decide +kernel
theorem dX3_where_84 : decode cX3_where 84 = .ok (.ireturn, 1) := by decide +kernel
theorem dX3_where_85 : decode cX3_where 85 = .ok (.aload_n 0, 1) := by decide +kernel
theorem dX3_where_86 : decode cX3_where 86 = .ok (.iload_n 1, 1) := by decide +kernel
theorem dX3_where_87 : decode cX3_where 87 = .ok (.invokevirtual 143, 3) := by decide +kernel
theorem dX3_where_90 : decode cX3_where 90 = .ok (.ifCond .eq 7, 3) := by decide +kernel
theorem dX3_where_93 : decode cX3_where 93 = .ok (.iconst 1, 1) := by decide +kernel
theorem dX3_where_94 : decode cX3_where 94 = .ok (.goto 4, 3) := by decide +kernel
theorem dX3_where_97 : decode cX3_where 97 = .ok (.iconst 0, 1) := by decide +kernel
theorem dX3_where_98 : decode cX3_where 98 = .ok (.ireturn, 1) := by decide +kernel
theorem dX3_where_99 : decode cX3_where 99 = .ok (.aload_n 0, 1) := by decide +kernel
theorem dX3_where_100 : decode cX3_where 100 = .ok (.getfield 20, 3) := by decide +kernel
theorem dX3_where_103 : decode cX3_where 103 = .ok (.getfield 146, 3) := by decide +kernel
theorem dX3_where_106 : decode cX3_where 106 = .ok (.iload_n 1, 1) := by decide +kernel
theorem dX3_where_107 : decode cX3_where 107 = .ok (.iaload, 1) := by decide +kernel
theorem dX3_where_108 : decode cX3_where 108 = .ok (.ireturn, 1) := by decide +kernel
theorem dX3_where_109 : decode cX3_where 109 = .ok (.aload_n 0, 1) := by decide +kernel
theorem dX3_where_110 : decode cX3_where 110 = .ok (.getfield 20, 3) := by decide +kernel
theorem dX3_where_113 : decode cX3_where 113 = .ok (.getfield 149, 3) := by decide +kernel
theorem dX3_where_116 : decode cX3_where 116 = .ok (.iload_n 1, 1) := by decide +kernel
theorem dX3_where_117 : decode cX3_where 117 = .ok (.iaload, 1) := by decide +kernel
theorem dX3_where_118 : decode cX3_where 118 = .ok (.ireturn, 1) := by decide +kernel
theorem dX3_where_119 : decode cX3_where 119 = .ok (.aload_n 0, 1) := by decide +kernel
theorem dX3_where_120 : decode cX3_where 120 = .ok (.getfield 20, 3) := by decide +kernel
theorem dX3_where_123 : decode cX3_where 123 = .ok (.getfield 152, 3) := by decide +kernel
theorem dX3_where_126 : decode cX3_where 126 = .ok (.iload_n 1, 1) := by decide +kernel
theorem dX3_where_127 : decode cX3_where 127 = .ok (.iaload, 1) := by decide +kernel
theorem dX3_where_128 : decode cX3_where 128 = .ok (.ireturn, 1) := by decide +kernel
theorem dX3_where_129 : decode cX3_where 129 = .ok (.aload_n 0, 1) := by decide +kernel
theorem dX3_where_130 : decode cX3_where 130 = .ok (.getfield 20, 3) := by decide +kernel
theorem dX3_where_133 : decode cX3_where 133 = .ok (.getfield 155, 3) := by decide +kernel
theorem dX3_where_136 : decode cX3_where 136 = .ok (.iload_n 1, 1) := by decide +kernel
theorem dX3_where_137 : decode cX3_where 137 = .ok (.iaload, 1) := by decide +kernel
theorem dX3_where_138 : decode cX3_where 138 = .ok (.ireturn, 1) := by decide +kernel
theorem dX3_where_139 : decode cX3_where 139 = .ok (.aload_n 0, 1) := by decide +kernel
theorem dX3_where_140 : decode cX3_where 140 = .ok (.getfield 20, 3) := by decide +kernel
theorem dX3_where_143 : decode cX3_where 143 = .ok (.getfield 158, 3) := by decide +kernel
theorem dX3_where_146 : decode cX3_where 146 = .ok (.iload_n 1, 1) := by decide +kernel
theorem dX3_where_147 : decode cX3_where 147 = .ok (.iaload, 1) := by decide +kernel
theorem dX3_where_148 : decode cX3_where 148 = .ok (.ireturn, 1) := by decide +kernel
theorem dX3_where_149 : decode cX3_where 149 = .ok (.new 161, 3) := by decide +kernel
theorem dX3_where_152 : decode cX3_where 152 = .ok (.dup, 1) := by decide +kernel
theorem dX3_where_153 : decode cX3_where 153 = .ok (.ldc 163, 2) := by decide +kernel
theorem dX3_where_155 : decode cX3_where 155 = .ok (.invokespecial 165, 3) := by decide +kernel
theorem dX3_where_158 : decode cX3_where 158 = .ok (.athrow, 1) := by decide +kernel
theorem dX3_at_0 : decode cX3_at 0 = .ok (.aload_n 0, 1) := by decide +kernel
theorem dX3_at_1 : decode cX3_at 1 = .ok (.iload_n 1, 1) := by decide +kernel
theorem dX3_at_2 : decode cX3_at 2 = .ok (.invokevirtual 85, 3) := by decide +kernel
theorem dX3_at_5 : decode cX3_at 5 = .ok (.iload_n 2, 1) := by decide +kernel
theorem dX3_at_6 : decode cX3_at 6 = .ok (.iconst 0, 1) := by decide +kernel
theorem dX3_at_7 : decode cX3_at 7 = .ok (.aload_n 0, 1) := by decide +kernel
theorem dX3_at_8 : decode cX3_at 8 = .ok (.getfield 29, 3) := by decide +kernel
theorem dX3_at_11 : decode cX3_at 11 = .ok (.getfield 166, 3) := by decide +kernel
theorem dX3_at_14 : decode cX3_at 14 = .ok (.iconst 1, 1) := by decide +kernel
theorem dX3_at_15 : decode cX3_at 15 = .ok (.isub, 1) := by decide +kernel
theorem dX3_at_16 : decode cX3_at 16 = .ok (.invokestatic 47, 3) := by decide +kernel
theorem dX3_at_19 : decode cX3_at 19 = .ok (.ifCond .ne 13, 3) := by decide +kernel
theorem dX3_at_22 : decode cX3_at 22 = .ok (.new 161, 3) := by decide +kernel
theorem dX3_at_25 : decode cX3_at 25 = .ok (.dup, 1) := by decide +kernel
theorem dX3_at_26 : decode cX3_at 26 = .ok (.ldc 169, 2) := by decide +kernel
theorem dX3_at_28 : decode cX3_at 28 = .ok (.invokespecial 165, 3) := by decide +kernel
theorem dX3_at_31 : decode cX3_at 31 = .ok (.athrow, 1) := by decide +kernel
theorem dX3_at_32 : decode cX3_at 32 = .ok (.aload_n 0, 1) := by decide +kernel
theorem dX3_at_33 : decode cX3_at 33 = .ok (.getfield 29, 3) := by decide +kernel
theorem dX3_at_36 : decode cX3_at 36 = .ok (.getfield 171, 3) := by decide +kernel
theorem dX3_at_39 : decode cX3_at 39 = .ok (.iload_n 1, 1) := by decide +kernel
theorem dX3_at_40 : decode cX3_at 40 = .ok (.aaload, 1) := by decide +kernel
theorem dX3_at_41 : decode cX3_at 41 = .ok (.iload_n 2, 1) := by decide +kernel
theorem dX3_at_42 : decode cX3_at 42 = .ok (.iaload, 1) := by decide +kernel
theorem dX3_at_43 : decode cX3_at 43 = .ok (.ireturn, 1) := by decide +kernel
end
section
theorem dX4_init_0 : decode cX4_init 0 = .ok (.aload_n 0, 1) := by decide +kernel
theorem dX4_init_1 : decode cX4_init 1 = .ok (.invokespecial 1, 3) := by decide +kernel
theorem dX4_init_4 : decode cX4_init 4 = .ok (.aload_n 0, 1) := by decide +kernel
theorem dX4_init_5 : decode cX4_init 5 = .ok (.bipush 16, 2) := by decide +kernel
theorem dX4_init_7 : decode cX4_init 7 = .ok (.newarray .int, 2) := by decide +kernel
theorem dX4_init_9 : decode cX4_init 9 = .ok (.putfield 7, 3) := by decide +kernel
theorem dX4_init_12 : decode cX4_init 12 = .ok (.aload_n 0, 1) := by decide +kernel
theorem dX4_init_13 : decode cX4_init 13 = .ok (.bipush 16, 2) := by decide +kernel
theorem dX4_init_15 : decode cX4_init 15 = .ok (.newarray .int, 2) := by decide +kernel
theorem dX4_init_17 : decode cX4_init 17 = .ok (.putfield 13, 3) := by decide +kernel
theorem dX4_init_20 : decode cX4_init 20 = .ok (.aload_n 0, 1) := by decide +kernel
theorem dX4_init_21 : decode cX4_init 21 = .ok (.bipush 60, 2) := by decide +kernel
theorem dX4_init_23 : decode cX4_init 23 = .ok (.newarray .int, 2) := by decide +kernel
theorem dX4_init_25 : decode cX4_init 25 = .ok (.putfield 16, 3) := by decide +kernel
theorem dX4_init_28 : decode cX4_init 28 = .ok (.aload_n 0, 1) := by decide +kernel
theorem dX4_init_29 : decode cX4_init 29 = .ok (.bipush 60, 2) := by decide +kernel
theorem dX4_init_31 : decode cX4_init 31 = .ok (.newarray .int, 2) := by decide +kernel
theorem dX4_init_33 : decode cX4_init 33 = .ok (.putfield 19, 3) := by decide +kernel
theorem dX4_init_36 : decode cX4_init 36 = .ok (.aload_n 0, 1) := by decide +kernel
theorem dX4_init_37 : decode cX4_init 37 = .ok (.bipush 60, 2) := by decide +kernel
theorem dX4_init_39 : decode cX4_init 39 = .ok (.newarray .int, 2) := by decide +kernel
theorem dX4_init_41 : decode cX4_init 41 = .ok (.putfield 22, 3) := by decide +kernel
theorem dX4_init_44 : decode cX4_init 44 = .ok (.aload_n 0, 1) := by decide +kernel
theorem dX4_init_45 : decode cX4_init 45 = .ok (.bipush 60, 2) := by decide +kernel
theorem dX4_init_47 : decode cX4_init 47 = .ok (.newarray .int, 2) := by decide +kernel
theorem dX4_init_49 : decode cX4_init 49 = .ok (.putfield 25, 3) := by decide +kernel
theorem dX4_init_52 : decode cX4_init 52 = .ok (.aload_n 0, 1) := by decide +kernel
theorem dX4_init_53 : decode cX4_init 53 = .ok (.bipush 60, 2) := by decide +kernel
theorem dX4_init_55 : decode cX4_init 55 = .ok (.newarray .int, 2) := by decide +kernel
theorem dX4_init_57 : decode cX4_init 57 = .ok (.putfield 28, 3) := by decide +kernel
theorem dX4_init_60 : decode cX4_init 60 = .ok (.aload_n 0, 1) := by decide +kernel
theorem dX4_init_61 : decode cX4_init 61 = .ok (.bipush 60, 2) := by decide +kernel
theorem dX4_init_63 : decode cX4_init 63 = .ok (.newarray .int, 2) := by decide +kernel
theorem dX4_init_65 : decode cX4_init 65 = .ok (.putfield 31, 3) := by decide +kernel
theorem dX4_init_68 : decode cX4_init 68 = .ok (.aload_n 0, 1) := by decide +kernel
theorem dX4_init_69 : decode cX4_init 69 = .ok (.bipush 60, 2) := by decide +kernel
theorem dX4_init_71 : decode cX4_init 71 = .ok (.newarray .int, 2) := by decide +kernel
theorem dX4_init_73 : decode cX4_init 73 = .ok (.putfield 34, 3) := by decide +kernel
theorem dX4_init_76 : decode cX4_init 76 = .ok (.aload_n 0, 1) := by decide +kernel
theorem dX4_init_77 : decode cX4_init 77 = .ok (.bipush 100, 2) := by decide +kernel
theorem dX4_init_79 : decode cX4_init 79 = .ok (.newarray .int, 2) := by decide +kernel
theorem dX4_init_81 : decode cX4_init 81 = .ok (.putfield 37, 3) := by decide +kernel
theorem dX4_init_84 : decode cX4_init 84 = .ok (.aload_n 0, 1) := by decide +kernel
theorem dX4_init_85 : decode cX4_init 85 = .ok (.bipush 100, 2) := by decide +kernel
theorem dX4_init_87 : decode cX4_init 87 = .ok (.newarray .int, 2) := by decide +kernel
theorem dX4_init_89 : decode cX4_init 89 = .ok (.putfield 40, 3) := by decide +kernel
theorem dX4_init_92 : decode cX4_init 92 = .ok (.aload_n 0, 1) := by decide +kernel
theorem dX4_init_93 : decode cX4_init 93 = .ok (.iload_n 1, 1) := by decide +kernel
theorem dX4_init_94 : decode cX4_init 94 = .ok (.bipush 16, 2) := by decide +kernel
theorem dX4_init_96 : decode cX4_init 96 = .ok (.invokestatic 43, 3) := by decide +kernel
theorem dX4_init_99 : decode cX4_init 99 = .ok (.putfield 47, 3) := by decide +kernel
theorem dX4_init_102 : decode cX4_init 102 = .ok (.aload_n 0, 1) := by decide +kernel
theorem dX4_init_103 : decode cX4_init 103 = .ok (.iload_n 2, 1) := by decide +kernel
theorem dX4_init_104 : decode cX4_init 104 = .ok (.bipush 8, 2) := by decide +kernel
theorem dX4_init_106 : decode cX4_init 106 = .ok (.invokestatic 43, 3) := by decide +kernel
theorem dX4_init_109 : decode cX4_init 109 = .ok (.putfield 51, 3) := by decide +kernel
theorem dX4_init_112 : decode cX4_init 112 = .ok (.aload_n 0, 1) := by decide +kernel
theorem dX4_init_113 : decode cX4_init 113 = .ok (.iload_n 3, 1) := by decide +kernel
theorem dX4_init_114 : decode cX4_init 114 = .ok (.sipush 400, 3) := by decide +kernel
theorem dX4_init_117 : decode cX4_init 117 = .ok (.invokestatic 43, 3) := by decide +kernel
theorem dX4_init_120 : decode cX4_init 120 = .ok (.putfield 54, 3) := by decide +kernel
theorem dX4_init_123 : decode cX4_init 123 = .ok (.return_, 1) := by decide +kernel
theorem dX4_held_0 : decode cX4_held 0 = .ok (.iload_n 0, 1) := by decide +kernel
theorem dX4_held_1 : decode cX4_held 1 = .ok (.iconst 1, 1) := by decide +kernel
theorem dX4_held_2 : decode cX4_held 2 = .ok (.if_icmp .ge 7, 3) := by decide +kernel
theorem dX4_held_5 : decode cX4_held 5 = .ok (.iconst 1, 1) := by decide +kernel
theorem dX4_held_6 : decode cX4_held 6 = .ok (.goto 13, 3) := by decide +kernel
theorem dX4_held_9 : decode cX4_held 9 = .ok (.iload_n 0, 1) := by decide +kernel
theorem dX4_held_10 : decode cX4_held 10 = .ok (.iload_n 1, 1) := by decide +kernel
theorem dX4_held_11 : decode cX4_held 11 = .ok (.if_icmp .le 7, 3) := by decide +kernel
theorem dX4_held_14 : decode cX4_held 14 = .ok (.iload_n 1, 1) := by decide +kernel
theorem dX4_held_15 : decode cX4_held 15 = .ok (.goto 4, 3) := by decide +kernel
theorem dX4_held_18 : decode cX4_held 18 = .ok (.iload_n 0, 1) := by decide +kernel
theorem dX4_held_19 : decode cX4_held 19 = .ok (.ireturn, 1) := by decide +kernel
theorem dX4_thrown_0 : decode cX4_thrown 0 = .ok (.aload_n 0, 1) := by decide +kernel
theorem dX4_thrown_1 : decode cX4_thrown 1 = .ok (.getfield 57, 3) := by decide +kernel
theorem dX4_thrown_4 : decode cX4_thrown 4 = .ok (.ireturn, 1) := by decide +kernel
theorem dX4_box_0 : decode cX4_box 0 = .ok (.iload_n 1, 1) := by decide +kernel
theorem dX4_box_1 : decode cX4_box 1 = .ok (.iconst 1, 1) := by decide +kernel
theorem dX4_box_2 : decode cX4_box 2 = .ok (.iconst 3, 1) := by decide +kernel
theorem dX4_box_3 : decode cX4_box 3 = .ok (.invokestatic 81, 3) := by decide +kernel
theorem dX4_box_6 : decode cX4_box 6 = .ok (.ifCond .eq 45, 3) := by decide +kernel
theorem dX4_box_9 : decode cX4_box 9 = .ok (.iload_n 2, 1) := by decide +kernel
theorem dX4_box_10 : decode cX4_box 10 = .ok (.iconst 1, 1) := by decide +kernel
theorem dX4_box_11 : decode cX4_box 11 = .ok (.bipush 40, 2) := by decide +kernel
theorem dX4_box_13 : decode cX4_box 13 = .ok (.invokestatic 81, 3) := by decide +kernel
theorem dX4_box_16 : decode cX4_box 16 = .ok (.ifCond .eq 35, 3) := by decide +kernel
theorem dX4_box_19 : decode cX4_box 19 = .ok (.iload_n 3, 1) := by decide +kernel
theorem dX4_box_20 : decode cX4_box 20 = .ok (.iconst 0, 1) := by decide +kernel
theorem dX4_box_21 : decode cX4_box 21 = .ok (.sipush 1000, 3) := by decide +kernel
theorem dX4_box_24 : decode cX4_box 24 = .ok (.invokestatic 81, 3) := by decide +kernel
theorem dX4_box_27 : decode cX4_box 27 = .ok (.ifCond .eq 24, 3) := by decide +kernel
theorem dX4_box_30 : decode cX4_box 30 = .ok (.iload 4, 2) := by decide +kernel
theorem dX4_box_32 : decode cX4_box 32 = .ok (.iconst 1, 1) := by decide +kernel
theorem dX4_box_33 : decode cX4_box 33 = .ok (.bipush 9, 2) := by decide +kernel
theorem dX4_box_35 : decode cX4_box 35 = .ok (.invokestatic 81, 3) := by decide +kernel
theorem dX4_box_38 : decode cX4_box 38 = .ok (.ifCond .eq 13, 3) := by decide +kernel
theorem dX4_box_41 : decode cX4_box 41 = .ok (.iload 5, 2) := by decide +kernel
theorem dX4_box_43 : decode cX4_box 43 = .ok (.iconst 0, 1) := by decide +kernel
theorem dX4_box_44 : decode cX4_box 44 = .ok (.iconst 2, 1) := by decide +kernel
theorem dX4_box_45 : decode cX4_box 45 = .ok (.invokestatic 81, 3) := by decide +kernel
theorem dX4_box_48 : decode cX4_box 48 = .ok (.ifCond .ne 9, 3) := by decide +kernel
theorem dX4_box_51 : decode cX4_box 51 = .ok (.aload_n 0, 1) := by decide +kernel
theorem dX4_box_52 : decode cX4_box 52 = .ok (.iconst 1, 1) := by decide +kernel
theorem dX4_box_53 : decode cX4_box 53 = .ok (.invokevirtual 85, 3) := by decide +kernel
theorem dX4_box_56 : decode cX4_box 56 = .ok (.ireturn, 1) := by decide +kernel
theorem dX4_box_57 : decode cX4_box 57 = .ok (.aload_n 0, 1) := by decide +kernel
theorem dX4_box_58 : decode cX4_box 58 = .ok (.getfield 60, 3) := by decide +kernel
theorem dX4_box_61 : decode cX4_box 61 = .ok (.bipush 60, 2) := by decide +kernel
theorem dX4_box_63 : decode cX4_box 63 = .ok (.if_icmp .ne 9, 3) := by decide +kernel
theorem dX4_box_66 : decode cX4_box 66 = .ok (.aload_n 0, 1) := by decide +kernel
theorem dX4_box_67 : decode cX4_box 67 = .ok (.iconst 2, 1) := by decide +kernel
theorem dX4_box_68 : decode cX4_box 68 = .ok (.invokevirtual 85, 3) := by decide +kernel
theorem dX4_box_71 : decode cX4_box 71 = .ok (.ireturn, 1) := by decide +kernel
theorem dX4_box_72 : decode cX4_box 72 = .ok (.aload_n 0, 1) := by decide +kernel
theorem dX4_box_73 : decode cX4_box 73 = .ok (.iconst 0, 1) := by decide +kernel
theorem dX4_box_74 : decode cX4_box 74 = .ok (.putfield 57, 3) := by decide +kernel
theorem dX4_box_77 : decode cX4_box 77 = .ok (.aload_n 0, 1) := by decide +kernel
theorem dX4_box_78 : decode cX4_box 78 = .ok (.getfield 16, 3) := by decide +kernel
theorem dX4_box_81 : decode cX4_box 81 = .ok (.aload_n 0, 1) := by decide +kernel
theorem dX4_box_82 : decode cX4_box 82 = .ok (.getfield 60, 3) := by decide +kernel
theorem dX4_box_85 : decode cX4_box 85 = .ok (.iload_n 1, 1) := by decide +kernel
theorem dX4_box_86 : decode cX4_box 86 = .ok (.iastore, 1) := by decide +kernel
theorem dX4_box_87 : decode cX4_box 87 = .ok (.aload_n 0, 1) := by decide +kernel
theorem dX4_box_88 : decode cX4_box 88 = .ok (.getfield 19, 3) := by decide +kernel
theorem dX4_box_91 : decode cX4_box 91 = .ok (.aload_n 0, 1) := by decide +kernel
theorem dX4_box_92 : decode cX4_box 92 = .ok (.getfield 60, 3) := by decide +kernel
theorem dX4_box_95 : decode cX4_box 95 = .ok (.iload_n 2, 1) := by decide +kernel
theorem dX4_box_96 : decode cX4_box 96 = .ok (.iastore, 1) := by decide +kernel
theorem dX4_box_97 : decode cX4_box 97 = .ok (.aload_n 0, 1) := by decide +kernel
theorem dX4_box_98 : decode cX4_box 98 = .ok (.getfield 22, 3) := by decide +kernel
theorem dX4_box_101 : decode cX4_box 101 = .ok (.aload_n 0, 1) := by decide +kernel
theorem dX4_box_102 : decode cX4_box 102 = .ok (.getfield 60, 3) := by decide +kernel
theorem dX4_box_105 : decode cX4_box 105 = .ok (.iload_n 3, 1) := by decide +kernel
theorem dX4_box_106 : decode cX4_box 106 = .ok (.iastore, 1) := by decide +kernel
theorem dX4_box_107 : decode cX4_box 107 = .ok (.aload_n 0, 1) := by decide +kernel
theorem dX4_box_108 : decode cX4_box 108 = .ok (.getfield 25, 3) := by decide +kernel
theorem dX4_box_111 : decode cX4_box 111 = .ok (.aload_n 0, 1) := by decide +kernel
theorem dX4_box_112 : decode cX4_box 112 = .ok (.getfield 60, 3) := by decide +kernel
theorem dX4_box_115 : decode cX4_box 115 = .ok (.iload 4, 2) := by decide +kernel
theorem dX4_box_117 : decode cX4_box 117 = .ok (.iastore, 1) := by decide +kernel
theorem dX4_box_118 : decode cX4_box 118 = .ok (.aload_n 0, 1) := by decide +kernel
theorem dX4_box_119 : decode cX4_box 119 = .ok (.getfield 28, 3) := by decide +kernel
theorem dX4_box_122 : decode cX4_box 122 = .ok (.aload_n 0, 1) := by decide +kernel
theorem dX4_box_123 : decode cX4_box 123 = .ok (.getfield 60, 3) := by decide +kernel
theorem dX4_box_126 : decode cX4_box 126 = .ok (.iload 5, 2) := by decide +kernel
theorem dX4_box_128 : decode cX4_box 128 = .ok (.iastore, 1) := by decide +kernel
theorem dX4_box_129 : decode cX4_box 129 = .ok (.aload_n 0, 1) := by decide +kernel
theorem dX4_box_130 : decode cX4_box 130 = .ok (.getfield 31, 3) := by decide +kernel
theorem dX4_box_133 : decode cX4_box 133 = .ok (.aload_n 0, 1) := by decide +kernel
theorem dX4_box_134 : decode cX4_box 134 = .ok (.getfield 60, 3) := by decide +kernel
theorem dX4_box_137 : decode cX4_box 137 = .ok (.iconst (-1), 1) := by decide +kernel
theorem dX4_box_138 : decode cX4_box 138 = .ok (.iastore, 1) := by decide +kernel
theorem dX4_box_139 : decode cX4_box 139 = .ok (.aload_n 0, 1) := by decide +kernel
theorem dX4_box_140 : decode cX4_box 140 = .ok (.getfield 34, 3) := by decide +kernel
theorem dX4_box_143 : decode cX4_box 143 = .ok (.aload_n 0, 1) := by decide +kernel
theorem dX4_box_144 : decode cX4_box 144 = .ok (.getfield 60, 3) := by decide +kernel
theorem dX4_box_147 : decode cX4_box 147 = .ok (.iconst (-1), 1) := by decide +kernel
theorem dX4_box_148 : decode cX4_box 148 = .ok (.iastore, 1) := by decide +kernel
theorem dX4_box_149 : decode cX4_box 149 = .ok (.aload_n 0, 1) := by decide +kernel
theorem dX4_box_150 : decode cX4_box 150 = .ok (.dup, 1) := by decide +kernel
theorem dX4_box_151 : decode cX4_box 151 = .ok (.getfield 60, 3) := by decide +kernel
theorem dX4_box_154 : decode cX4_box 154 = .ok (.iconst 1, 1) := by decide +kernel
theorem dX4_box_155 : decode cX4_box 155 = .ok (.iadd, 1) := by decide +kernel
theorem dX4_box_156 : decode cX4_box 156 = .ok (.putfield 60, 3) := by decide +kernel
theorem dX4_box_159 : decode cX4_box 159 = .ok (.aload_n 0, 1) := by decide +kernel
theorem dX4_box_160 : decode cX4_box 160 = .ok (.getfield 60, 3) := by decide +kernel
theorem dX4_box_163 : decode cX4_box 163 = .ok (.iconst 1, 1) := by decide +kernel
theorem dX4_box_164 : decode cX4_box 164 = .ok (.isub, 1) := by decide +kernel
theorem dX4_box_165 : decode cX4_box 165 = .ok (.ireturn, 1) := by decide +kernel
theorem dX4_in_0 : decode cX4_in 0 = .ok (.iload_n 0, 1) := by decide +kernel
theorem dX4_in_1 : decode cX4_in 1 = .ok (.iload_n 1, 1) := by decide +kernel
theorem dX4_in_2 : decode cX4_in 2 = .ok (.if_icmp .lt 12, 3) := by decide +kernel
theorem dX4_in_5 : decode cX4_in 5 = .ok (.iload_n 0, 1) := by decide +kernel
theorem dX4_in_6 : decode cX4_in 6 = .ok (.iload_n 2, 1) := by decide +kernel
theorem dX4_in_7 : decode cX4_in 7 = .ok (.if_icmp .gt 7, 3) := by decide +kernel
theorem dX4_in_10 : decode cX4_in 10 = .ok (.iconst 1, 1) := by decide +kernel
theorem dX4_in_11 : decode cX4_in 11 = .ok (.goto 4, 3) := by decide +kernel
theorem dX4_in_14 : decode cX4_in 14 = .ok (.iconst 0, 1) := by decide +kernel
theorem dX4_in_15 : decode cX4_in 15 = .ok (.ireturn, 1) := by decide +kernel
theorem dX4_fails_0 : decode cX4_fails 0 = .ok (.aload_n 0, 1) := by decide +kernel
theorem dX4_fails_1 : decode cX4_fails 1 = .ok (.iload_n 1, 1) := by decide +kernel
theorem dX4_fails_2 : decode cX4_fails 2 = .ok (.putfield 57, 3) := by decide +kernel
theorem dX4_fails_5 : decode cX4_fails 5 = .ok (.iconst 0, 1) := by decide +kernel
theorem dX4_fails_6 : decode cX4_fails 6 = .ok (.ireturn, 1) := by decide +kernel
theorem dX4_ground_0 : decode cX4_ground 0 = .ok (.aload_n 0, 1) := by decide +kernel
theorem dX4_ground_1 : decode cX4_ground 1 = .ok (.iconst 0, 1) := by decide +kernel
theorem dX4_ground_2 : decode cX4_ground 2 = .ok (.putfield 57, 3) := by decide +kernel
theorem dX4_ground_5 : decode cX4_ground 5 = .ok (.aload_n 0, 1) := by decide +kernel
theorem dX4_ground_6 : decode cX4_ground 6 = .ok (.iload_n 1, 1) := by decide +kernel
theorem dX4_ground_7 : decode cX4_ground 7 = .ok (.invokevirtual 88, 3) := by decide +kernel
theorem dX4_ground_10 : decode cX4_ground 10 = .ok (.ifCond .eq 20, 3) := by decide +kernel
theorem dX4_ground_13 : decode cX4_ground 13 = .ok (.iload_n 2, 1) := by decide +kernel
theorem dX4_ground_14 : decode cX4_ground 14 = .ok (.iconst 0, 1) := by decide +kernel
theorem dX4_ground_15 : decode cX4_ground 15 = .ok (.iconst 2, 1) := by decide +kernel
theorem dX4_ground_16 : decode cX4_ground 16 = .ok (.invokestatic 81, 3) := by decide +kernel
theorem dX4_ground_19 : decode cX4_ground 19 = .ok (.ifCond .eq 11, 3) := by decide +kernel
theorem dX4_ground_22 : decode cX4_ground 22 = .ok (.aload_n 0, 1) := by decide +kernel
theorem dX4_ground_23 : decode cX4_ground 23 = .ok (.iload_n 1, 1) := by decide +kernel
theorem dX4_ground_24 : decode cX4_ground 24 = .ok (.invokevirtual 63, 3) := by decide +kernel
theorem dX4_ground_27 : decode cX4_ground 27 = .ok (.ifCond .le 5, 3) := by decide +kernel
theorem dX4_ground_30 : decode cX4_ground 30 = .ok (.iconst 0, 1) := by decide +kernel
theorem dX4_ground_31 : decode cX4_ground 31 = .ok (.ireturn, 1) := by decide +kernel
theorem dX4_ground_32 : decode cX4_ground 32 = .ok (.aload_n 0, 1) := by decide +kernel
theorem dX4_ground_33 : decode cX4_ground 33 = .ok (.getfield 7, 3) := by decide +kernel
theorem dX4_ground_36 : decode cX4_ground 36 = .ok (.iload_n 1, 1) := by decide +kernel
theorem dX4_ground_37 : decode cX4_ground 37 = .ok (.iload_n 2, 1) := by decide +kernel
theorem dX4_ground_38 : decode cX4_ground 38 = .ok (.iastore, 1) := by decide +kernel
theorem dX4_ground_39 : decode cX4_ground 39 = .ok (.iconst 1, 1) := by decide +kernel
theorem dX4_ground_40 : decode cX4_ground 40 = .ok (.ireturn, 1) := by decide +kernel
theorem dX4_isRow_0 : decode cX4_isRow 0 = .ok (.iload_n 1, 1) := by decide +kernel
theorem dX4_isRow_1 : decode cX4_isRow 1 = .ok (.ifCond .lt 15, 3) := by decide +kernel
theorem dX4_isRow_4 : decode cX4_isRow 4 = .ok (.iload_n 1, 1) := by decide +kernel
theorem dX4_isRow_5 : decode cX4_isRow 5 = .ok (.aload_n 0, 1) := by decide +kernel
theorem dX4_isRow_6 : decode cX4_isRow 6 = .ok (.getfield 47, 3) := by decide +kernel
theorem dX4_isRow_9 : decode cX4_isRow 9 = .ok (.if_icmp .ge 7, 3) := by decide +kernel
theorem dX4_isRow_12 : decode cX4_isRow 12 = .ok (.iconst 1, 1) := by decide +kernel
theorem dX4_isRow_13 : decode cX4_isRow 13 = .ok (.goto 4, 3) := by decide +kernel
theorem dX4_isRow_16 : decode cX4_isRow 16 = .ok (.iconst 0, 1) := by decide +kernel
theorem dX4_isRow_17 : decode cX4_isRow 17 = .ok (.ireturn, 1) := by decide +kernel
theorem dX4_heightOf_0 : decode cX4_heightOf 0 = .ok (.iconst 0, 1) := by decide +kernel
theorem dX4_heightOf_1 : decode cX4_heightOf 1 = .ok (.istore_n 2, 1) := by decide +kernel
theorem dX4_heightOf_2 : decode cX4_heightOf 2 = .ok (.iconst 0, 1) := by decide +kernel
theorem dX4_heightOf_3 : decode cX4_heightOf 3 = .ok (.istore_n 3, 1) := by decide +kernel
theorem dX4_heightOf_4 : decode cX4_heightOf 4 = .ok (.iload_n 3, 1) := by decide +kernel
theorem dX4_heightOf_5 : decode cX4_heightOf 5 = .ok (.aload_n 0, 1) := by decide +kernel
theorem dX4_heightOf_6 : decode cX4_heightOf 6 = .ok (.getfield 60, 3) := by decide +kernel
theorem dX4_heightOf_9 : decode cX4_heightOf 9 = .ok (.if_icmp .ge 27, 3) := by decide +kernel
theorem dX4_heightOf_12 : decode cX4_heightOf 12 = .ok (.iload_n 2, 1) := by decide +kernel
theorem dX4_heightOf_13 : decode cX4_heightOf 13 = .ok (.aload_n 0, 1) := by decide +kernel
theorem dX4_heightOf_14 : decode cX4_heightOf 14 = .ok (.getfield 31, 3) := by decide +kernel
theorem dX4_heightOf_17 : decode cX4_heightOf 17 = .ok (.iload_n 3, 1) := by decide +kernel
theorem dX4_heightOf_18 : decode cX4_heightOf 18 = .ok (.iaload, 1) := by decide +kernel
theorem dX4_heightOf_19 : decode cX4_heightOf 19 = .ok (.iload_n 1, 1) := by decide +kernel
theorem dX4_heightOf_20 : decode cX4_heightOf 20 = .ok (.if_icmp .ne 7, 3) := by decide +kernel
theorem dX4_heightOf_23 : decode cX4_heightOf 23 = .ok (.iconst 1, 1) := by decide +kernel
theorem dX4_heightOf_24 : decode cX4_heightOf 24 = .ok (.goto 4, 3) := by decide +kernel
theorem dX4_heightOf_27 : decode cX4_heightOf 27 = .ok (.iconst 0, 1) := by decide +kernel
theorem dX4_heightOf_28 : decode cX4_heightOf 28 = .ok (.iadd, 1) := by decide +kernel
theorem dX4_heightOf_29 : decode cX4_heightOf 29 = .ok (.istore_n 2, 1) := by decide +kernel
theorem dX4_heightOf_30 : decode cX4_heightOf 30 = .ok (.iinc 3 1, 3) := by decide +kernel
theorem dX4_heightOf_33 : decode cX4_heightOf 33 = .ok (.goto (-29), 3) := by decide +kernel
theorem dX4_heightOf_36 : decode cX4_heightOf 36 = .ok (.iload_n 2, 1) := by decide +kernel
theorem dX4_heightOf_37 : decode cX4_heightOf 37 = .ok (.ireturn, 1) := by decide +kernel
theorem dX4_reserve_0 : decode cX4_reserve 0 = .ok (.aload_n 0, 1) := by decide +kernel
theorem dX4_reserve_1 : decode cX4_reserve 1 = .ok (.iconst 0, 1) := by decide +kernel
theorem dX4_reserve_2 : decode cX4_reserve 2 = .ok (.putfield 57, 3) := by decide +kernel
theorem dX4_reserve_5 : decode cX4_reserve 5 = .ok (.aload_n 0, 1) := by decide +kernel
theorem dX4_reserve_6 : decode cX4_reserve 6 = .ok (.iload_n 1, 1) := by decide +kernel
theorem dX4_reserve_7 : decode cX4_reserve 7 = .ok (.invokevirtual 88, 3) := by decide +kernel
theorem dX4_reserve_10 : decode cX4_reserve 10 = .ok (.ifCond .eq 13, 3) := by decide +kernel
theorem dX4_reserve_13 : decode cX4_reserve 13 = .ok (.iload_n 2, 1) := by decide +kernel
theorem dX4_reserve_14 : decode cX4_reserve 14 = .ok (.iconst 0, 1) := by decide +kernel
theorem dX4_reserve_15 : decode cX4_reserve 15 = .ok (.bipush 9, 2) := by decide +kernel
theorem dX4_reserve_17 : decode cX4_reserve 17 = .ok (.invokestatic 81, 3) := by decide +kernel
theorem dX4_reserve_20 : decode cX4_reserve 20 = .ok (.ifCond .ne 5, 3) := by decide +kernel
theorem dX4_reserve_23 : decode cX4_reserve 23 = .ok (.iconst 0, 1) := by decide +kernel
theorem dX4_reserve_24 : decode cX4_reserve 24 = .ok (.ireturn, 1) := by decide +kernel
theorem dX4_reserve_25 : decode cX4_reserve 25 = .ok (.iconst 0, 1) := by decide +kernel
theorem dX4_reserve_26 : decode cX4_reserve 26 = .ok (.istore_n 3, 1) := by decide +kernel
theorem dX4_reserve_27 : decode cX4_reserve 27 = .ok (.iload_n 3, 1) := by decide +kernel
theorem dX4_reserve_28 : decode cX4_reserve 28 = .ok (.aload_n 0, 1) := by decide +kernel
theorem dX4_reserve_29 : decode cX4_reserve 29 = .ok (.getfield 60, 3) := by decide +kernel
theorem dX4_reserve_32 : decode cX4_reserve 32 = .ok (.if_icmp .ge 35, 3) := by decide +kernel
theorem dX4_reserve_35 : decode cX4_reserve 35 = .ok (.iload_n 2, 1) := by decide +kernel
theorem dX4_reserve_36 : decode cX4_reserve 36 = .ok (.ifCond .le 25, 3) := by decide +kernel
theorem dX4_reserve_39 : decode cX4_reserve 39 = .ok (.aload_n 0, 1) := by decide +kernel
theorem dX4_reserve_40 : decode cX4_reserve 40 = .ok (.getfield 31, 3) := by decide +kernel
theorem dX4_reserve_43 : decode cX4_reserve 43 = .ok (.iload_n 3, 1) := by decide +kernel
theorem dX4_reserve_44 : decode cX4_reserve 44 = .ok (.iaload, 1) := by decide +kernel
theorem dX4_reserve_45 : decode cX4_reserve 45 = .ok (.iload_n 1, 1) := by decide +kernel
theorem dX4_reserve_46 : decode cX4_reserve 46 = .ok (.if_icmp .ne 15, 3) := by decide +kernel
theorem dX4_reserve_49 : decode cX4_reserve 49 = .ok (.aload_n 0, 1) := by decide +kernel
theorem dX4_reserve_50 : decode cX4_reserve 50 = .ok (.getfield 25, 3) := by decide +kernel
theorem dX4_reserve_53 : decode cX4_reserve 53 = .ok (.iload_n 3, 1) := by decide +kernel
theorem dX4_reserve_54 : decode cX4_reserve 54 = .ok (.iaload, 1) := by decide +kernel
theorem dX4_reserve_55 : decode cX4_reserve 55 = .ok (.iload_n 2, 1) := by decide +kernel
theorem dX4_reserve_56 : decode cX4_reserve 56 = .ok (.if_icmp .eq 5, 3) := by decide +kernel
theorem dX4_reserve_59 : decode cX4_reserve 59 = .ok (.iconst 0, 1) := by decide +kernel
theorem dX4_reserve_60 : decode cX4_reserve 60 = .ok (.ireturn, 1) := by decide +kernel
theorem dX4_reserve_61 : decode cX4_reserve 61 = .ok (.iinc 3 1, 3) := by decide +kernel
theorem dX4_reserve_64 : decode cX4_reserve 64 = .ok (.goto (-37), 3) := by decide +kernel
theorem dX4_reserve_67 : decode cX4_reserve 67 = .ok (.aload_n 0, 1) := by decide +kernel
theorem dX4_reserve_68 : decode cX4_reserve 68 = .ok (.getfield 13, 3) := by decide +kernel
theorem dX4_reserve_71 : decode cX4_reserve 71 = .ok (.iload_n 1, 1) := by decide +kernel
theorem dX4_reserve_72 : decode cX4_reserve 72 = .ok (.iload_n 2, 1) := by decide +kernel
theorem dX4_reserve_73 : decode cX4_reserve 73 = .ok (.iastore, 1) := by decide +kernel
theorem dX4_reserve_74 : decode cX4_reserve 74 = .ok (.iconst 1, 1) := by decide +kernel
theorem dX4_reserve_75 : decode cX4_reserve 75 = .ok (.ireturn, 1) := by decide +kernel
theorem dX4_put_0 : decode cX4_put 0 = .ok (.aload_n 0, 1) := by decide +kernel
theorem dX4_put_1 : decode cX4_put 1 = .ok (.iload_n 1, 1) := by decide +kernel
theorem dX4_put_2 : decode cX4_put 2 = .ok (.invokevirtual 102, 3) := by decide +kernel
theorem dX4_put_5 : decode cX4_put 5 = .ok (.ifCond .eq 11, 3) := by decide +kernel
theorem dX4_put_8 : decode cX4_put 8 = .ok (.aload_n 0, 1) := by decide +kernel
theorem dX4_put_9 : decode cX4_put 9 = .ok (.iload_n 2, 1) := by decide +kernel
theorem dX4_put_10 : decode cX4_put 10 = .ok (.invokevirtual 88, 3) := by decide +kernel
theorem dX4_put_13 : decode cX4_put 13 = .ok (.ifCond .ne 9, 3) := by decide +kernel
theorem dX4_put_16 : decode cX4_put 16 = .ok (.aload_n 0, 1) := by decide +kernel
theorem dX4_put_17 : decode cX4_put 17 = .ok (.iconst 1, 1) := by decide +kernel
theorem dX4_put_18 : decode cX4_put 18 = .ok (.invokevirtual 85, 3) := by decide +kernel
theorem dX4_put_21 : decode cX4_put 21 = .ok (.ireturn, 1) := by decide +kernel
theorem dX4_put_22 : decode cX4_put 22 = .ok (.aload_n 0, 1) := by decide +kernel
theorem dX4_put_23 : decode cX4_put 23 = .ok (.iconst 0, 1) := by decide +kernel
theorem dX4_put_24 : decode cX4_put 24 = .ok (.putfield 57, 3) := by decide +kernel
theorem dX4_put_27 : decode cX4_put 27 = .ok (.aload_n 0, 1) := by decide +kernel
theorem dX4_put_28 : decode cX4_put 28 = .ok (.getfield 31, 3) := by decide +kernel
theorem dX4_put_31 : decode cX4_put 31 = .ok (.iload_n 1, 1) := by decide +kernel
theorem dX4_put_32 : decode cX4_put 32 = .ok (.iaload, 1) := by decide +kernel
theorem dX4_put_33 : decode cX4_put 33 = .ok (.ifCond .lt 7, 3) := by decide +kernel
theorem dX4_put_36 : decode cX4_put 36 = .ok (.iconst 1, 1) := by decide +kernel
theorem dX4_put_37 : decode cX4_put 37 = .ok (.goto 9, 3) := by decide +kernel
theorem dX4_put_40 : decode cX4_put 40 = .ok (.aload_n 0, 1) := by decide +kernel
theorem dX4_put_41 : decode cX4_put 41 = .ok (.iload_n 1, 1) := by decide +kernel
theorem dX4_put_42 : decode cX4_put 42 = .ok (.iload_n 2, 1) := by decide +kernel
theorem dX4_put_43 : decode cX4_put 43 = .ok (.invokevirtual 105, 3) := by decide +kernel
theorem dX4_put_46 : decode cX4_put 46 = .ok (.istore_n 3, 1) := by decide +kernel
theorem dX4_put_47 : decode cX4_put 47 = .ok (.iload_n 3, 1) := by decide +kernel
theorem dX4_put_48 : decode cX4_put 48 = .ok (.ifCond .le 6, 3) := by decide +kernel
theorem dX4_put_51 : decode cX4_put 51 = .ok (.iload_n 3, 1) := by decide +kernel
theorem dX4_put_52 : decode cX4_put 52 = .ok (.ineg, 1) := by decide +kernel
theorem dX4_put_53 : decode cX4_put 53 = .ok (.ireturn, 1) := by decide +kernel
theorem dX4_put_54 : decode cX4_put 54 = .ok (.aload_n 0, 1) := by decide +kernel
theorem dX4_put_55 : decode cX4_put 55 = .ok (.iload_n 1, 1) := by decide +kernel
theorem dX4_put_56 : decode cX4_put 56 = .ok (.iload_n 2, 1) := by decide +kernel
theorem dX4_put_57 : decode cX4_put 57 = .ok (.invokevirtual 108, 3) := by decide +kernel
theorem dX4_put_60 : decode cX4_put 60 = .ok (.iconst 1, 1) := by decide +kernel
theorem dX4_put_61 : decode cX4_put 61 = .ok (.ireturn, 1) := by decide +kernel
theorem dX4_isBox_0 : decode cX4_isBox 0 = .ok (.iload_n 1, 1) := by decide +kernel
theorem dX4_isBox_1 : decode cX4_isBox 1 = .ok (.ifCond .lt 15, 3) := by decide +kernel
theorem dX4_isBox_4 : decode cX4_isBox 4 = .ok (.iload_n 1, 1) := by decide +kernel
theorem dX4_isBox_5 : decode cX4_isBox 5 = .ok (.aload_n 0, 1) := by decide +kernel
theorem dX4_isBox_6 : decode cX4_isBox 6 = .ok (.getfield 60, 3) := by decide +kernel
theorem dX4_isBox_9 : decode cX4_isBox 9 = .ok (.if_icmp .ge 7, 3) := by decide +kernel
theorem dX4_isBox_12 : decode cX4_isBox 12 = .ok (.iconst 1, 1) := by decide +kernel
theorem dX4_isBox_13 : decode cX4_isBox 13 = .ok (.goto 4, 3) := by decide +kernel
theorem dX4_isBox_16 : decode cX4_isBox 16 = .ok (.iconst 0, 1) := by decide +kernel
theorem dX4_isBox_17 : decode cX4_isBox 17 = .ok (.ireturn, 1) := by decide +kernel
theorem dX4_broken_0 : decode cX4_broken 0 = .ok (.aload_n 0, 1) := by decide +kernel
theorem dX4_broken_1 : decode cX4_broken 1 = .ok (.iload_n 2, 1) := by decide +kernel
theorem dX4_broken_2 : decode cX4_broken 2 = .ok (.aload_n 0, 1) := by decide +kernel
theorem dX4_broken_3 : decode cX4_broken 3 = .ok (.iload_n 2, 1) := by decide +kernel
theorem dX4_broken_4 : decode cX4_broken 4 = .ok (.invokevirtual 63, 3) := by decide +kernel
theorem dX4_broken_7 : decode cX4_broken 7 = .ok (.iconst 1, 1) := by decide +kernel
theorem dX4_broken_8 : decode cX4_broken 8 = .ok (.isub, 1) := by decide +kernel
theorem dX4_broken_9 : decode cX4_broken 9 = .ok (.invokevirtual 67, 3) := by decide +kernel
theorem dX4_broken_12 : decode cX4_broken 12 = .ok (.istore_n 3, 1) := by decide +kernel
theorem dX4_broken_13 : decode cX4_broken 13 = .ok (.aload_n 0, 1) := by decide +kernel
theorem dX4_broken_14 : decode cX4_broken 14 = .ok (.getfield 13, 3) := by decide +kernel
theorem dX4_broken_17 : decode cX4_broken 17 = .ok (.iload_n 2, 1) := by decide +kernel
theorem dX4_broken_18 : decode cX4_broken 18 = .ok (.iaload, 1) := by decide +kernel
theorem dX4_broken_19 : decode cX4_broken 19 = .ok (.ifCond .le 20, 3) := by decide +kernel
theorem dX4_broken_22 : decode cX4_broken 22 = .ok (.aload_n 0, 1) := by decide +kernel
theorem dX4_broken_23 : decode cX4_broken 23 = .ok (.getfield 13, 3) := by decide +kernel
theorem dX4_broken_26 : decode cX4_broken 26 = .ok (.iload_n 2, 1) := by decide +kernel
theorem dX4_broken_27 : decode cX4_broken 27 = .ok (.iaload, 1) := by decide +kernel
theorem dX4_broken_28 : decode cX4_broken 28 = .ok (.aload_n 0, 1) := by decide +kernel
theorem dX4_broken_29 : decode cX4_broken 29 = .ok (.getfield 25, 3) := by decide +kernel
theorem dX4_broken_32 : decode cX4_broken 32 = .ok (.iload_n 1, 1) := by decide +kernel
theorem dX4_broken_33 : decode cX4_broken 33 = .ok (.iaload, 1) := by decide +kernel
theorem dX4_broken_34 : decode cX4_broken 34 = .ok (.if_icmp .eq 5, 3) := by decide +kernel
theorem dX4_broken_37 : decode cX4_broken 37 = .ok (.iconst 2, 1) := by decide +kernel
theorem dX4_broken_38 : decode cX4_broken 38 = .ok (.ireturn, 1) := by decide +kernel
theorem dX4_broken_39 : decode cX4_broken 39 = .ok (.aload_n 0, 1) := by decide +kernel
theorem dX4_broken_40 : decode cX4_broken 40 = .ok (.iload_n 2, 1) := by decide +kernel
theorem dX4_broken_41 : decode cX4_broken 41 = .ok (.invokevirtual 63, 3) := by decide +kernel
theorem dX4_broken_44 : decode cX4_broken 44 = .ok (.aload_n 0, 1) := by decide +kernel
theorem dX4_broken_45 : decode cX4_broken 45 = .ok (.getfield 51, 3) := by decide +kernel
theorem dX4_broken_48 : decode cX4_broken 48 = .ok (.if_icmp .ne 5, 3) := by decide +kernel
theorem dX4_broken_51 : decode cX4_broken 51 = .ok (.iconst 3, 1) := by decide +kernel
theorem dX4_broken_52 : decode cX4_broken 52 = .ok (.ireturn, 1) := by decide +kernel
theorem dX4_broken_53 : decode cX4_broken 53 = .ok (.aload_n 0, 1) := by decide +kernel
theorem dX4_broken_54 : decode cX4_broken 54 = .ok (.iload_n 2, 1) := by decide +kernel
theorem dX4_broken_55 : decode cX4_broken 55 = .ok (.invokevirtual 70, 3) := by decide +kernel
theorem dX4_broken_58 : decode cX4_broken 58 = .ok (.aload_n 0, 1) := by decide +kernel
theorem dX4_broken_59 : decode cX4_broken 59 = .ok (.getfield 19, 3) := by decide +kernel
theorem dX4_broken_62 : decode cX4_broken 62 = .ok (.iload_n 1, 1) := by decide +kernel
theorem dX4_broken_63 : decode cX4_broken 63 = .ok (.iaload, 1) := by decide +kernel
theorem dX4_broken_64 : decode cX4_broken 64 = .ok (.iadd, 1) := by decide +kernel
theorem dX4_broken_65 : decode cX4_broken 65 = .ok (.aload_n 0, 1) := by decide +kernel
theorem dX4_broken_66 : decode cX4_broken 66 = .ok (.getfield 54, 3) := by decide +kernel
theorem dX4_broken_69 : decode cX4_broken 69 = .ok (.if_icmp .le 5, 3) := by decide +kernel
theorem dX4_broken_72 : decode cX4_broken 72 = .ok (.iconst 4, 1) := by decide +kernel
theorem dX4_broken_73 : decode cX4_broken 73 = .ok (.ireturn, 1) := by decide +kernel
theorem dX4_broken_74 : decode cX4_broken 74 = .ok (.aload_n 0, 1) := by decide +kernel
theorem dX4_broken_75 : decode cX4_broken 75 = .ok (.iload_n 1, 1) := by decide +kernel
theorem dX4_broken_76 : decode cX4_broken 76 = .ok (.iload_n 2, 1) := by decide +kernel
theorem dX4_broken_77 : decode cX4_broken 77 = .ok (.invokevirtual 73, 3) := by decide +kernel
theorem dX4_broken_80 : decode cX4_broken 80 = .ok (.ifCond .eq 5, 3) := by decide +kernel
theorem dX4_broken_83 : decode cX4_broken 83 = .ok (.iconst 5, 1) := by decide +kernel
theorem dX4_broken_84 : decode cX4_broken 84 = .ok (.ireturn, 1) := by decide +kernel
theorem dX4_broken_85 : decode cX4_broken 85 = .ok (.iload_n 3, 1) := by decide +kernel
theorem dX4_broken_86 : decode cX4_broken 86 = .ok (.ifCond .lt 29, 3) := by decide +kernel
theorem dX4_broken_89 : decode cX4_broken 89 = .ok (.aload_n 0, 1) := by decide +kernel
theorem dX4_broken_90 : decode cX4_broken 90 = .ok (.getfield 19, 3) := by decide +kernel
theorem dX4_broken_93 : decode cX4_broken 93 = .ok (.iload_n 1, 1) := by decide +kernel
theorem dX4_broken_94 : decode cX4_broken 94 = .ok (.iaload, 1) := by decide +kernel
theorem dX4_broken_95 : decode cX4_broken 95 = .ok (.aload_n 0, 1) := by decide +kernel
theorem dX4_broken_96 : decode cX4_broken 96 = .ok (.getfield 19, 3) := by decide +kernel
theorem dX4_broken_99 : decode cX4_broken 99 = .ok (.iload_n 3, 1) := by decide +kernel
theorem dX4_broken_100 : decode cX4_broken 100 = .ok (.ifCond .lt 7, 3) := by decide +kernel
theorem dX4_broken_103 : decode cX4_broken 103 = .ok (.iload_n 3, 1) := by decide +kernel
theorem dX4_broken_104 : decode cX4_broken 104 = .ok (.goto 4, 3) := by decide +kernel
theorem dX4_broken_107 : decode cX4_broken 107 = .ok (.iconst 0, 1) := by decide +kernel
theorem dX4_broken_108 : decode cX4_broken 108 = .ok (.iaload, 1) := by decide +kernel
theorem dX4_broken_109 : decode cX4_broken 109 = .ok (.if_icmp .le 6, 3) := by decide +kernel
theorem dX4_broken_112 : decode cX4_broken 112 = .ok (.bipush 6, 2) := by decide +kernel
theorem dX4_broken_114 : decode cX4_broken 114 = .ok (.ireturn, 1) := by decide +kernel
theorem dX4_broken_115 : decode cX4_broken 115 = .ok (.aload_n 0, 1) := by decide +kernel
theorem dX4_broken_116 : decode cX4_broken 116 = .ok (.getfield 28, 3) := by decide +kernel
theorem dX4_broken_119 : decode cX4_broken 119 = .ok (.iload_n 1, 1) := by decide +kernel
theorem dX4_broken_120 : decode cX4_broken 120 = .ok (.iaload, 1) := by decide +kernel
theorem dX4_broken_121 : decode cX4_broken 121 = .ok (.iconst 1, 1) := by decide +kernel
theorem dX4_broken_122 : decode cX4_broken 122 = .ok (.if_icmp .ne 16, 3) := by decide +kernel
theorem dX4_broken_125 : decode cX4_broken 125 = .ok (.aload_n 0, 1) := by decide +kernel
theorem dX4_broken_126 : decode cX4_broken 126 = .ok (.getfield 7, 3) := by decide +kernel
theorem dX4_broken_129 : decode cX4_broken 129 = .ok (.iload_n 2, 1) := by decide +kernel
theorem dX4_broken_130 : decode cX4_broken 130 = .ok (.iaload, 1) := by decide +kernel
theorem dX4_broken_131 : decode cX4_broken 131 = .ok (.iconst 1, 1) := by decide +kernel
theorem dX4_broken_132 : decode cX4_broken 132 = .ok (.if_icmp .eq 6, 3) := by decide +kernel
theorem dX4_broken_135 : decode cX4_broken 135 = .ok (.bipush 7, 2) := by decide +kernel
theorem dX4_broken_137 : decode cX4_broken 137 = .ok (.ireturn, 1) := by decide +kernel
theorem dX4_broken_138 : decode cX4_broken 138 = .ok (.aload_n 0, 1) := by decide +kernel
theorem dX4_broken_139 : decode cX4_broken 139 = .ok (.getfield 28, 3) := by decide +kernel
theorem dX4_broken_142 : decode cX4_broken 142 = .ok (.iload_n 1, 1) := by decide +kernel
theorem dX4_broken_143 : decode cX4_broken 143 = .ok (.iaload, 1) := by decide +kernel
theorem dX4_broken_144 : decode cX4_broken 144 = .ok (.iconst 2, 1) := by decide +kernel
theorem dX4_broken_145 : decode cX4_broken 145 = .ok (.if_icmp .ne 7, 3) := by decide +kernel
theorem dX4_broken_148 : decode cX4_broken 148 = .ok (.iconst 1, 1) := by decide +kernel
theorem dX4_broken_149 : decode cX4_broken 149 = .ok (.goto 4, 3) := by decide +kernel
theorem dX4_broken_152 : decode cX4_broken 152 = .ok (.iconst 0, 1) := by decide +kernel
theorem dX4_broken_153 : decode cX4_broken 153 = .ok (.aload_n 0, 1) := by decide +kernel
theorem dX4_broken_154 : decode cX4_broken 154 = .ok (.getfield 7, 3) := by decide +kernel
theorem dX4_broken_157 : decode cX4_broken 157 = .ok (.iload_n 2, 1) := by decide +kernel
theorem dX4_broken_158 : decode cX4_broken 158 = .ok (.iaload, 1) := by decide +kernel
theorem dX4_broken_159 : decode cX4_broken 159 = .ok (.iconst 2, 1) := by decide +kernel
theorem dX4_broken_160 : decode cX4_broken 160 = .ok (.if_icmp .ne 7, 3) := by decide +kernel
theorem dX4_broken_163 : decode cX4_broken 163 = .ok (.iconst 1, 1) := by decide +kernel
theorem dX4_broken_164 : decode cX4_broken 164 = .ok (.goto 4, 3) := by decide +kernel
theorem dX4_broken_167 : decode cX4_broken 167 = .ok (.iconst 0, 1) := by decide +kernel
theorem dX4_broken_168 : decode cX4_broken 168 = .ok (.if_icmp .eq 8, 3) := by decide +kernel
theorem dX4_broken_171 : decode cX4_broken 171 = .ok (.bipush 8, 2) := by decide +kernel
theorem dX4_broken_173 : decode cX4_broken 173 = .ok (.goto 4, 3) := by decide +kernel
theorem dX4_broken_176 : decode cX4_broken 176 = .ok (.iconst 0, 1) := by decide +kernel
theorem dX4_broken_177 : decode cX4_broken 177 = .ok (.ireturn, 1) := by decide +kernel
theorem dX4_boxAt_0 : decode cX4_boxAt 0 = .ok (.iconst (-1), 1) := by decide +kernel
theorem dX4_boxAt_1 : decode cX4_boxAt 1 = .ok (.istore_n 3, 1) := by decide +kernel
theorem dX4_boxAt_2 : decode cX4_boxAt 2 = .ok (.iconst 0, 1) := by decide +kernel
theorem dX4_boxAt_3 : decode cX4_boxAt 3 = .ok (.istore 4, 2) := by decide +kernel
theorem dX4_boxAt_5 : decode cX4_boxAt 5 = .ok (.iload 4, 2) := by decide +kernel
theorem dX4_boxAt_7 : decode cX4_boxAt 7 = .ok (.aload_n 0, 1) := by decide +kernel
theorem dX4_boxAt_8 : decode cX4_boxAt 8 = .ok (.getfield 60, 3) := by decide +kernel
theorem dX4_boxAt_11 : decode cX4_boxAt 11 = .ok (.if_icmp .ge 38, 3) := by decide +kernel
theorem dX4_boxAt_14 : decode cX4_boxAt 14 = .ok (.aload_n 0, 1) := by decide +kernel
theorem dX4_boxAt_15 : decode cX4_boxAt 15 = .ok (.getfield 31, 3) := by decide +kernel
theorem dX4_boxAt_18 : decode cX4_boxAt 18 = .ok (.iload 4, 2) := by decide +kernel
theorem dX4_boxAt_20 : decode cX4_boxAt 20 = .ok (.iaload, 1) := by decide +kernel
theorem dX4_boxAt_21 : decode cX4_boxAt 21 = .ok (.iload_n 1, 1) := by decide +kernel
theorem dX4_boxAt_22 : decode cX4_boxAt 22 = .ok (.if_icmp .ne 19, 3) := by decide +kernel
theorem dX4_boxAt_25 : decode cX4_boxAt 25 = .ok (.aload_n 0, 1) := by decide +kernel
theorem dX4_boxAt_26 : decode cX4_boxAt 26 = .ok (.getfield 34, 3) := by decide +kernel
theorem dX4_boxAt_29 : decode cX4_boxAt 29 = .ok (.iload 4, 2) := by decide +kernel
theorem dX4_boxAt_31 : decode cX4_boxAt 31 = .ok (.iaload, 1) := by decide +kernel
theorem dX4_boxAt_32 : decode cX4_boxAt 32 = .ok (.iload_n 2, 1) := by decide +kernel
theorem dX4_boxAt_33 : decode cX4_boxAt 33 = .ok (.if_icmp .ne 8, 3) := by decide +kernel
theorem dX4_boxAt_36 : decode cX4_boxAt 36 = .ok (.iload 4, 2) := by decide +kernel
theorem dX4_boxAt_38 : decode cX4_boxAt 38 = .ok (.goto 4, 3) := by decide +kernel
theorem dX4_boxAt_41 : decode cX4_boxAt 41 = .ok (.iload_n 3, 1) := by decide +kernel
theorem dX4_boxAt_42 : decode cX4_boxAt 42 = .ok (.istore_n 3, 1) := by decide +kernel
theorem dX4_boxAt_43 : decode cX4_boxAt 43 = .ok (.iinc 4 1, 3) := by decide +kernel
theorem dX4_boxAt_46 : decode cX4_boxAt 46 = .ok (.goto (-41), 3) := by decide +kernel
theorem dX4_boxAt_49 : decode cX4_boxAt 49 = .ok (.iload_n 3, 1) := by decide +kernel
theorem dX4_boxAt_50 : decode cX4_boxAt 50 = .ok (.ireturn, 1) := by decide +kernel
theorem dX4_weightOf_0 : decode cX4_weightOf 0 = .ok (.iconst 0, 1) := by decide +kernel
theorem dX4_weightOf_1 : decode cX4_weightOf 1 = .ok (.istore_n 2, 1) := by decide +kernel
theorem dX4_weightOf_2 : decode cX4_weightOf 2 = .ok (.iconst 0, 1) := by decide +kernel
theorem dX4_weightOf_3 : decode cX4_weightOf 3 = .ok (.istore_n 3, 1) := by decide +kernel
theorem dX4_weightOf_4 : decode cX4_weightOf 4 = .ok (.iload_n 3, 1) := by decide +kernel
theorem dX4_weightOf_5 : decode cX4_weightOf 5 = .ok (.aload_n 0, 1) := by decide +kernel
theorem dX4_weightOf_6 : decode cX4_weightOf 6 = .ok (.getfield 60, 3) := by decide +kernel
theorem dX4_weightOf_9 : decode cX4_weightOf 9 = .ok (.if_icmp .ge 32, 3) := by decide +kernel
theorem dX4_weightOf_12 : decode cX4_weightOf 12 = .ok (.iload_n 2, 1) := by decide +kernel
theorem dX4_weightOf_13 : decode cX4_weightOf 13 = .ok (.aload_n 0, 1) := by decide +kernel
theorem dX4_weightOf_14 : decode cX4_weightOf 14 = .ok (.getfield 31, 3) := by decide +kernel
theorem dX4_weightOf_17 : decode cX4_weightOf 17 = .ok (.iload_n 3, 1) := by decide +kernel
theorem dX4_weightOf_18 : decode cX4_weightOf 18 = .ok (.iaload, 1) := by decide +kernel
theorem dX4_weightOf_19 : decode cX4_weightOf 19 = .ok (.iload_n 1, 1) := by decide +kernel
theorem dX4_weightOf_20 : decode cX4_weightOf 20 = .ok (.if_icmp .ne 12, 3) := by decide +kernel
theorem dX4_weightOf_23 : decode cX4_weightOf 23 = .ok (.aload_n 0, 1) := by decide +kernel
theorem dX4_weightOf_24 : decode cX4_weightOf 24 = .ok (.getfield 19, 3) := by decide +kernel
theorem dX4_weightOf_27 : decode cX4_weightOf 27 = .ok (.iload_n 3, 1) := by decide +kernel
theorem dX4_weightOf_28 : decode cX4_weightOf 28 = .ok (.iaload, 1) := by decide +kernel
theorem dX4_weightOf_29 : decode cX4_weightOf 29 = .ok (.goto 4, 3) := by decide +kernel
theorem dX4_weightOf_32 : decode cX4_weightOf 32 = .ok (.iconst 0, 1) := by decide +kernel
theorem dX4_weightOf_33 : decode cX4_weightOf 33 = .ok (.iadd, 1) := by decide +kernel
theorem dX4_weightOf_34 : decode cX4_weightOf 34 = .ok (.istore_n 2, 1) := by decide +kernel
theorem dX4_weightOf_35 : decode cX4_weightOf 35 = .ok (.iinc 3 1, 3) := by decide +kernel
theorem dX4_weightOf_38 : decode cX4_weightOf 38 = .ok (.goto (-34), 3) := by decide +kernel
theorem dX4_weightOf_41 : decode cX4_weightOf 41 = .ok (.iload_n 2, 1) := by decide +kernel
theorem dX4_weightOf_42 : decode cX4_weightOf 42 = .ok (.ireturn, 1) := by decide +kernel
theorem dX4_hasOtherSize_0 : decode cX4_hasOtherSize 0 = .ok (.iconst 0, 1) := by decide +kernel
theorem dX4_hasOtherSize_1 : decode cX4_hasOtherSize 1 = .ok (.istore_n 3, 1) := by decide +kernel
theorem dX4_hasOtherSize_2 : decode cX4_hasOtherSize 2 = .ok (.iconst 0, 1) := by decide +kernel
theorem dX4_hasOtherSize_3 : decode cX4_hasOtherSize 3 = .ok (.istore 4, 2) := by decide +kernel
theorem dX4_hasOtherSize_5 : decode cX4_hasOtherSize 5 = .ok (.iload 4, 2) := by decide +kernel
theorem dX4_hasOtherSize_7 : decode cX4_hasOtherSize 7 = .ok (.aload_n 0, 1) := by decide +kernel
theorem dX4_hasOtherSize_8 : decode cX4_hasOtherSize 8 = .ok (.getfield 60, 3) := by decide +kernel
theorem dX4_hasOtherSize_11 : decode cX4_hasOtherSize 11 = .ok (.if_icmp .ge 46, 3) := by decide +kernel
theorem dX4_hasOtherSize_14 : decode cX4_hasOtherSize 14 = .ok (.iload_n 3, 1) := by decide +kernel
theorem dX4_hasOtherSize_15 : decode cX4_hasOtherSize 15 = .ok (.ifCond .ne 30, 3) := by decide +kernel
theorem dX4_hasOtherSize_18 : decode cX4_hasOtherSize 18 = .ok (.aload_n 0, 1) := by decide +kernel
theorem dX4_hasOtherSize_19 : decode cX4_hasOtherSize 19 = .ok (.getfield 31, 3) := by decide +kernel
theorem dX4_hasOtherSize_22 : decode cX4_hasOtherSize 22 = .ok (.iload 4, 2) := by decide +kernel
theorem dX4_hasOtherSize_24 : decode cX4_hasOtherSize 24 = .ok (.iaload, 1) := by decide +kernel
theorem dX4_hasOtherSize_25 : decode cX4_hasOtherSize 25 = .ok (.iload_n 2, 1) := by decide +kernel
theorem dX4_hasOtherSize_26 : decode cX4_hasOtherSize 26 = .ok (.if_icmp .ne 23, 3) := by decide +kernel
theorem dX4_hasOtherSize_29 : decode cX4_hasOtherSize 29 = .ok (.aload_n 0, 1) := by decide +kernel
theorem dX4_hasOtherSize_30 : decode cX4_hasOtherSize 30 = .ok (.getfield 16, 3) := by decide +kernel
theorem dX4_hasOtherSize_33 : decode cX4_hasOtherSize 33 = .ok (.iload 4, 2) := by decide +kernel
theorem dX4_hasOtherSize_35 : decode cX4_hasOtherSize 35 = .ok (.iaload, 1) := by decide +kernel
theorem dX4_hasOtherSize_36 : decode cX4_hasOtherSize 36 = .ok (.aload_n 0, 1) := by decide +kernel
theorem dX4_hasOtherSize_37 : decode cX4_hasOtherSize 37 = .ok (.getfield 16, 3) := by decide +kernel
theorem dX4_hasOtherSize_40 : decode cX4_hasOtherSize 40 = .ok (.iload_n 1, 1) := by decide +kernel
theorem dX4_hasOtherSize_41 : decode cX4_hasOtherSize 41 = .ok (.iaload, 1) := by decide +kernel
theorem dX4_hasOtherSize_42 : decode cX4_hasOtherSize 42 = .ok (.if_icmp .eq 7, 3) := by decide +kernel
theorem dX4_hasOtherSize_45 : decode cX4_hasOtherSize 45 = .ok (.iconst 1, 1) := by decide +kernel
theorem dX4_hasOtherSize_46 : decode cX4_hasOtherSize 46 = .ok (.goto 4, 3) := by decide +kernel
theorem dX4_hasOtherSize_49 : decode cX4_hasOtherSize 49 = .ok (.iconst 0, 1) := by decide +kernel
theorem dX4_hasOtherSize_50 : decode cX4_hasOtherSize 50 = .ok (.istore_n 3, 1) := by decide +kernel
theorem dX4_hasOtherSize_51 : decode cX4_hasOtherSize 51 = .ok (.iinc 4 1, 3) := by decide +kernel
theorem dX4_hasOtherSize_54 : decode cX4_hasOtherSize 54 = .ok (.goto (-49), 3) := by decide +kernel
theorem dX4_hasOtherSize_57 : decode cX4_hasOtherSize 57 = .ok (.iload_n 3, 1) := by decide +kernel
theorem dX4_hasOtherSize_58 : decode cX4_hasOtherSize 58 = .ok (.ireturn, 1) := by decide +kernel
theorem dX4_moves_0 : decode cX4_moves 0 = .ok (.aload_n 0, 1) := by decide +kernel
theorem dX4_moves_1 : decode cX4_moves 1 = .ok (.getfield 92, 3) := by decide +kernel
theorem dX4_moves_4 : decode cX4_moves 4 = .ok (.bipush 100, 2) := by decide +kernel
theorem dX4_moves_6 : decode cX4_moves 6 = .ok (.if_icmp .ne 55, 3) := by decide +kernel
theorem dX4_moves_9 : decode cX4_moves 9 = .ok (.iconst 1, 1) := by decide +kernel
theorem dX4_moves_10 : decode cX4_moves 10 = .ok (.istore_n 3, 1) := by decide +kernel
theorem dX4_moves_11 : decode cX4_moves 11 = .ok (.iload_n 3, 1) := by decide +kernel
theorem dX4_moves_12 : decode cX4_moves 12 = .ok (.bipush 100, 2) := by decide +kernel
theorem dX4_moves_14 : decode cX4_moves 14 = .ok (.if_icmp .ge 37, 3) := by decide +kernel
theorem dX4_moves_17 : decode cX4_moves 17 = .ok (.aload_n 0, 1) := by decide +kernel
theorem dX4_moves_18 : decode cX4_moves 18 = .ok (.getfield 37, 3) := by decide +kernel
theorem dX4_moves_21 : decode cX4_moves 21 = .ok (.iload_n 3, 1) := by decide +kernel
theorem dX4_moves_22 : decode cX4_moves 22 = .ok (.iconst 1, 1) := by decide +kernel
theorem dX4_moves_23 : decode cX4_moves 23 = .ok (.isub, 1) := by decide +kernel
theorem dX4_moves_24 : decode cX4_moves 24 = .ok (.aload_n 0, 1) := by decide +kernel
theorem dX4_moves_25 : decode cX4_moves 25 = .ok (.getfield 37, 3) := by decide +kernel
theorem dX4_moves_28 : decode cX4_moves 28 = .ok (.iload_n 3, 1) := by decide +kernel
theorem dX4_moves_29 : decode cX4_moves 29 = .ok (.iaload, 1) := by decide +kernel
theorem dX4_moves_30 : decode cX4_moves 30 = .ok (.iastore, 1) := by decide +kernel
theorem dX4_moves_31 : decode cX4_moves 31 = .ok (.aload_n 0, 1) := by decide +kernel
theorem dX4_moves_32 : decode cX4_moves 32 = .ok (.getfield 40, 3) := by decide +kernel
theorem dX4_moves_35 : decode cX4_moves 35 = .ok (.iload_n 3, 1) := by decide +kernel
theorem dX4_moves_36 : decode cX4_moves 36 = .ok (.iconst 1, 1) := by decide +kernel
theorem dX4_moves_37 : decode cX4_moves 37 = .ok (.isub, 1) := by decide +kernel
theorem dX4_moves_38 : decode cX4_moves 38 = .ok (.aload_n 0, 1) := by decide +kernel
theorem dX4_moves_39 : decode cX4_moves 39 = .ok (.getfield 40, 3) := by decide +kernel
theorem dX4_moves_42 : decode cX4_moves 42 = .ok (.iload_n 3, 1) := by decide +kernel
theorem dX4_moves_43 : decode cX4_moves 43 = .ok (.iaload, 1) := by decide +kernel
theorem dX4_moves_44 : decode cX4_moves 44 = .ok (.iastore, 1) := by decide +kernel
theorem dX4_moves_45 : decode cX4_moves 45 = .ok (.iinc 3 1, 3) := by decide +kernel
theorem dX4_moves_48 : decode cX4_moves 48 = .ok (.goto (-37), 3) := by decide +kernel
theorem dX4_moves_51 : decode cX4_moves 51 = .ok (.aload_n 0, 1) := by decide +kernel
theorem dX4_moves_52 : decode cX4_moves 52 = .ok (.dup, 1) := by decide +kernel
theorem dX4_moves_53 : decode cX4_moves 53 = .ok (.getfield 92, 3) := by decide +kernel
theorem dX4_moves_56 : decode cX4_moves 56 = .ok (.iconst 1, 1) := by decide +kernel
theorem dX4_moves_57 : decode cX4_moves 57 = .ok (.isub, 1) := by decide +kernel
theorem dX4_moves_58 : decode cX4_moves 58 = .ok (.putfield 92, 3) := by decide +kernel
theorem dX4_moves_61 : decode cX4_moves 61 = .ok (.aload_n 0, 1) := by decide +kernel
theorem dX4_moves_62 : decode cX4_moves 62 = .ok (.getfield 37, 3) := by decide +kernel
theorem dX4_moves_65 : decode cX4_moves 65 = .ok (.aload_n 0, 1) := by decide +kernel
theorem dX4_moves_66 : decode cX4_moves 66 = .ok (.getfield 92, 3) := by decide +kernel
theorem dX4_moves_69 : decode cX4_moves 69 = .ok (.iload_n 1, 1) := by decide +kernel
theorem dX4_moves_70 : decode cX4_moves 70 = .ok (.iastore, 1) := by decide +kernel
theorem dX4_moves_71 : decode cX4_moves 71 = .ok (.aload_n 0, 1) := by decide +kernel
theorem dX4_moves_72 : decode cX4_moves 72 = .ok (.getfield 40, 3) := by decide +kernel
theorem dX4_moves_75 : decode cX4_moves 75 = .ok (.aload_n 0, 1) := by decide +kernel
theorem dX4_moves_76 : decode cX4_moves 76 = .ok (.getfield 92, 3) := by decide +kernel
theorem dX4_moves_79 : decode cX4_moves 79 = .ok (.aload_n 0, 1) := by decide +kernel
theorem dX4_moves_80 : decode cX4_moves 80 = .ok (.getfield 31, 3) := by decide +kernel
theorem dX4_moves_83 : decode cX4_moves 83 = .ok (.iload_n 1, 1) := by decide +kernel
theorem dX4_moves_84 : decode cX4_moves 84 = .ok (.iaload, 1) := by decide +kernel
theorem dX4_moves_85 : decode cX4_moves 85 = .ok (.iastore, 1) := by decide +kernel
theorem dX4_moves_86 : decode cX4_moves 86 = .ok (.aload_n 0, 1) := by decide +kernel
theorem dX4_moves_87 : decode cX4_moves 87 = .ok (.dup, 1) := by decide +kernel
theorem dX4_moves_88 : decode cX4_moves 88 = .ok (.getfield 92, 3) := by decide +kernel
theorem dX4_moves_91 : decode cX4_moves 91 = .ok (.iconst 1, 1) := by decide +kernel
theorem dX4_moves_92 : decode cX4_moves 92 = .ok (.iadd, 1) := by decide +kernel
theorem dX4_moves_93 : decode cX4_moves 93 = .ok (.putfield 92, 3) := by decide +kernel
theorem dX4_moves_96 : decode cX4_moves 96 = .ok (.aload_n 0, 1) := by decide +kernel
theorem dX4_moves_97 : decode cX4_moves 97 = .ok (.dup, 1) := by decide +kernel
theorem dX4_moves_98 : decode cX4_moves 98 = .ok (.getfield 95, 3) := by decide +kernel
theorem dX4_moves_101 : decode cX4_moves 101 = .ok (.iconst 1, 1) := by decide +kernel
theorem dX4_moves_102 : decode cX4_moves 102 = .ok (.iadd, 1) := by decide +kernel
theorem dX4_moves_103 : decode cX4_moves 103 = .ok (.putfield 95, 3) := by decide +kernel
theorem dX4_moves_106 : decode cX4_moves 106 = .ok (.aload_n 0, 1) := by decide +kernel
theorem dX4_moves_107 : decode cX4_moves 107 = .ok (.iload_n 1, 1) := by decide +kernel
theorem dX4_moves_108 : decode cX4_moves 108 = .ok (.iload_n 2, 1) := by decide +kernel
theorem dX4_moves_109 : decode cX4_moves 109 = .ok (.invokevirtual 98, 3) := by decide +kernel
theorem dX4_moves_112 : decode cX4_moves 112 = .ok (.return_, 1) := by decide +kernel
theorem dX4_goes_0 : decode cX4_goes 0 = .ok (.aload_n 0, 1) := by decide +kernel
theorem dX4_goes_1 : decode cX4_goes 1 = .ok (.getfield 34, 3) := by decide +kernel
theorem dX4_goes_4 : decode cX4_goes 4 = .ok (.iload_n 1, 1) := by decide +kernel
theorem dX4_goes_5 : decode cX4_goes 5 = .ok (.iload_n 2, 1) := by decide +kernel
theorem dX4_goes_6 : decode cX4_goes 6 = .ok (.ifCond .ge 7, 3) := by decide +kernel
theorem dX4_goes_9 : decode cX4_goes 9 = .ok (.iconst (-1), 1) := by decide +kernel
theorem dX4_goes_10 : decode cX4_goes 10 = .ok (.goto 8, 3) := by decide +kernel
theorem dX4_goes_13 : decode cX4_goes 13 = .ok (.aload_n 0, 1) := by decide +kernel
theorem dX4_goes_14 : decode cX4_goes 14 = .ok (.iload_n 2, 1) := by decide +kernel
theorem dX4_goes_15 : decode cX4_goes 15 = .ok (.invokevirtual 63, 3) := by decide +kernel
theorem dX4_goes_18 : decode cX4_goes 18 = .ok (.iastore, 1) := by decide +kernel
theorem dX4_goes_19 : decode cX4_goes 19 = .ok (.aload_n 0, 1) := by decide +kernel
theorem dX4_goes_20 : decode cX4_goes 20 = .ok (.getfield 31, 3) := by decide +kernel
theorem dX4_goes_23 : decode cX4_goes 23 = .ok (.iload_n 1, 1) := by decide +kernel
theorem dX4_goes_24 : decode cX4_goes 24 = .ok (.iload_n 2, 1) := by decide +kernel
theorem dX4_goes_25 : decode cX4_goes 25 = .ok (.iastore, 1) := by decide +kernel
theorem dX4_goes_26 : decode cX4_goes 26 = .ok (.return_, 1) := by decide +kernel
theorem dX4_take_0 : decode cX4_take 0 = .ok (.aload_n 0, 1) := by decide +kernel
theorem dX4_take_1 : decode cX4_take 1 = .ok (.iload_n 1, 1) := by decide +kernel
theorem dX4_take_2 : decode cX4_take 2 = .ok (.invokevirtual 102, 3) := by decide +kernel
theorem dX4_take_5 : decode cX4_take 5 = .ok (.ifCond .ne 9, 3) := by decide +kernel
theorem dX4_take_8 : decode cX4_take 8 = .ok (.aload_n 0, 1) := by decide +kernel
theorem dX4_take_9 : decode cX4_take 9 = .ok (.iconst 1, 1) := by decide +kernel
theorem dX4_take_10 : decode cX4_take 10 = .ok (.invokevirtual 85, 3) := by decide +kernel
theorem dX4_take_13 : decode cX4_take 13 = .ok (.ireturn, 1) := by decide +kernel
theorem dX4_take_14 : decode cX4_take 14 = .ok (.aload_n 0, 1) := by decide +kernel
theorem dX4_take_15 : decode cX4_take 15 = .ok (.iconst 0, 1) := by decide +kernel
theorem dX4_take_16 : decode cX4_take 16 = .ok (.putfield 57, 3) := by decide +kernel
theorem dX4_take_19 : decode cX4_take 19 = .ok (.aload_n 0, 1) := by decide +kernel
theorem dX4_take_20 : decode cX4_take 20 = .ok (.iload_n 1, 1) := by decide +kernel
theorem dX4_take_21 : decode cX4_take 21 = .ok (.invokevirtual 111, 3) := by decide +kernel
theorem dX4_take_24 : decode cX4_take 24 = .ok (.ifCond .ne 5, 3) := by decide +kernel
theorem dX4_take_27 : decode cX4_take 27 = .ok (.iconst 0, 1) := by decide +kernel
theorem dX4_take_28 : decode cX4_take 28 = .ok (.ireturn, 1) := by decide +kernel
theorem dX4_take_29 : decode cX4_take 29 = .ok (.aload_n 0, 1) := by decide +kernel
theorem dX4_take_30 : decode cX4_take 30 = .ok (.iload_n 1, 1) := by decide +kernel
theorem dX4_take_31 : decode cX4_take 31 = .ok (.iconst (-1), 1) := by decide +kernel
theorem dX4_take_32 : decode cX4_take 32 = .ok (.invokevirtual 108, 3) := by decide +kernel
theorem dX4_take_35 : decode cX4_take 35 = .ok (.iconst 1, 1) := by decide +kernel
theorem dX4_take_36 : decode cX4_take 36 = .ok (.ireturn, 1) := by decide +kernel
theorem dX4_isTop_0 : decode cX4_isTop 0 = .ok (.aload_n 0, 1) := by decide +kernel
theorem dX4_isTop_1 : decode cX4_isTop 1 = .ok (.getfield 31, 3) := by decide +kernel
theorem dX4_isTop_4 : decode cX4_isTop 4 = .ok (.iload_n 1, 1) := by decide +kernel
theorem dX4_isTop_5 : decode cX4_isTop 5 = .ok (.iaload, 1) := by decide +kernel
theorem dX4_isTop_6 : decode cX4_isTop 6 = .ok (.ifCond .lt 28, 3) := by decide +kernel
theorem dX4_isTop_9 : decode cX4_isTop 9 = .ok (.aload_n 0, 1) := by decide +kernel
theorem dX4_isTop_10 : decode cX4_isTop 10 = .ok (.getfield 34, 3) := by decide +kernel
theorem dX4_isTop_13 : decode cX4_isTop 13 = .ok (.iload_n 1, 1) := by decide +kernel
theorem dX4_isTop_14 : decode cX4_isTop 14 = .ok (.iaload, 1) := by decide +kernel
theorem dX4_isTop_15 : decode cX4_isTop 15 = .ok (.aload_n 0, 1) := by decide +kernel
theorem dX4_isTop_16 : decode cX4_isTop 16 = .ok (.aload_n 0, 1) := by decide +kernel
theorem dX4_isTop_17 : decode cX4_isTop 17 = .ok (.getfield 31, 3) := by decide +kernel
theorem dX4_isTop_20 : decode cX4_isTop 20 = .ok (.iload_n 1, 1) := by decide +kernel
theorem dX4_isTop_21 : decode cX4_isTop 21 = .ok (.iaload, 1) := by decide +kernel
theorem dX4_isTop_22 : decode cX4_isTop 22 = .ok (.invokevirtual 63, 3) := by decide +kernel
theorem dX4_isTop_25 : decode cX4_isTop 25 = .ok (.iconst 1, 1) := by decide +kernel
theorem dX4_isTop_26 : decode cX4_isTop 26 = .ok (.isub, 1) := by decide +kernel
theorem dX4_isTop_27 : decode cX4_isTop 27 = .ok (.if_icmp .ne 7, 3) := by decide +kernel
theorem dX4_isTop_30 : decode cX4_isTop 30 = .ok (.iconst 1, 1) := by decide +kernel
theorem dX4_isTop_31 : decode cX4_isTop 31 = .ok (.goto 4, 3) := by decide +kernel
theorem dX4_isTop_34 : decode cX4_isTop 34 = .ok (.iconst 0, 1) := by decide +kernel
theorem dX4_isTop_35 : decode cX4_isTop 35 = .ok (.ireturn, 1) := by decide +kernel
theorem dX4_shift_0 : decode cX4_shift 0 = .ok (.aload_n 0, 1) := by decide +kernel
theorem dX4_shift_1 : decode cX4_shift 1 = .ok (.iload_n 1, 1) := by decide +kernel
theorem dX4_shift_2 : decode cX4_shift 2 = .ok (.invokevirtual 102, 3) := by decide +kernel
theorem dX4_shift_5 : decode cX4_shift 5 = .ok (.ifCond .eq 11, 3) := by decide +kernel
theorem dX4_shift_8 : decode cX4_shift 8 = .ok (.aload_n 0, 1) := by decide +kernel
theorem dX4_shift_9 : decode cX4_shift 9 = .ok (.iload_n 2, 1) := by decide +kernel
theorem dX4_shift_10 : decode cX4_shift 10 = .ok (.invokevirtual 88, 3) := by decide +kernel
theorem dX4_shift_13 : decode cX4_shift 13 = .ok (.ifCond .ne 9, 3) := by decide +kernel
theorem dX4_shift_16 : decode cX4_shift 16 = .ok (.aload_n 0, 1) := by decide +kernel
theorem dX4_shift_17 : decode cX4_shift 17 = .ok (.iconst 1, 1) := by decide +kernel
theorem dX4_shift_18 : decode cX4_shift 18 = .ok (.invokevirtual 85, 3) := by decide +kernel
theorem dX4_shift_21 : decode cX4_shift 21 = .ok (.ireturn, 1) := by decide +kernel
theorem dX4_shift_22 : decode cX4_shift 22 = .ok (.aload_n 0, 1) := by decide +kernel
theorem dX4_shift_23 : decode cX4_shift 23 = .ok (.iconst 0, 1) := by decide +kernel
theorem dX4_shift_24 : decode cX4_shift 24 = .ok (.putfield 57, 3) := by decide +kernel
theorem dX4_shift_27 : decode cX4_shift 27 = .ok (.aload_n 0, 1) := by decide +kernel
theorem dX4_shift_28 : decode cX4_shift 28 = .ok (.iload_n 1, 1) := by decide +kernel
theorem dX4_shift_29 : decode cX4_shift 29 = .ok (.invokevirtual 111, 3) := by decide +kernel
theorem dX4_shift_32 : decode cX4_shift 32 = .ok (.ifCond .ne 5, 3) := by decide +kernel
theorem dX4_shift_35 : decode cX4_shift 35 = .ok (.iconst 0, 1) := by decide +kernel
theorem dX4_shift_36 : decode cX4_shift 36 = .ok (.ireturn, 1) := by decide +kernel
theorem dX4_shift_37 : decode cX4_shift 37 = .ok (.aload_n 0, 1) := by decide +kernel
theorem dX4_shift_38 : decode cX4_shift 38 = .ok (.getfield 31, 3) := by decide +kernel
theorem dX4_shift_41 : decode cX4_shift 41 = .ok (.iload_n 1, 1) := by decide +kernel
theorem dX4_shift_42 : decode cX4_shift 42 = .ok (.iaload, 1) := by decide +kernel
theorem dX4_shift_43 : decode cX4_shift 43 = .ok (.iload_n 2, 1) := by decide +kernel
theorem dX4_shift_44 : decode cX4_shift 44 = .ok (.if_icmp .ne 7, 3) := by decide +kernel
theorem dX4_shift_47 : decode cX4_shift 47 = .ok (.iconst 1, 1) := by decide +kernel
theorem dX4_shift_48 : decode cX4_shift 48 = .ok (.goto 9, 3) := by decide +kernel
theorem dX4_shift_51 : decode cX4_shift 51 = .ok (.aload_n 0, 1) := by decide +kernel
theorem dX4_shift_52 : decode cX4_shift 52 = .ok (.iload_n 1, 1) := by decide +kernel
theorem dX4_shift_53 : decode cX4_shift 53 = .ok (.iload_n 2, 1) := by decide +kernel
theorem dX4_shift_54 : decode cX4_shift 54 = .ok (.invokevirtual 105, 3) := by decide +kernel
theorem dX4_shift_57 : decode cX4_shift 57 = .ok (.istore_n 3, 1) := by decide +kernel
theorem dX4_shift_58 : decode cX4_shift 58 = .ok (.iload_n 3, 1) := by decide +kernel
theorem dX4_shift_59 : decode cX4_shift 59 = .ok (.ifCond .le 6, 3) := by decide +kernel
theorem dX4_shift_62 : decode cX4_shift 62 = .ok (.iload_n 3, 1) := by decide +kernel
theorem dX4_shift_63 : decode cX4_shift 63 = .ok (.ineg, 1) := by decide +kernel
theorem dX4_shift_64 : decode cX4_shift 64 = .ok (.ireturn, 1) := by decide +kernel
theorem dX4_shift_65 : decode cX4_shift 65 = .ok (.aload_n 0, 1) := by decide +kernel
theorem dX4_shift_66 : decode cX4_shift 66 = .ok (.iload_n 1, 1) := by decide +kernel
theorem dX4_shift_67 : decode cX4_shift 67 = .ok (.iload_n 2, 1) := by decide +kernel
theorem dX4_shift_68 : decode cX4_shift 68 = .ok (.invokevirtual 108, 3) := by decide +kernel
theorem dX4_shift_71 : decode cX4_shift 71 = .ok (.iconst 1, 1) := by decide +kernel
theorem dX4_shift_72 : decode cX4_shift 72 = .ok (.ireturn, 1) := by decide +kernel
theorem dX4_choose_0 : decode cX4_choose 0 = .ok (.aload_n 0, 1) := by decide +kernel
theorem dX4_choose_1 : decode cX4_choose 1 = .ok (.iload_n 1, 1) := by decide +kernel
theorem dX4_choose_2 : decode cX4_choose 2 = .ok (.invokevirtual 102, 3) := by decide +kernel
theorem dX4_choose_5 : decode cX4_choose 5 = .ok (.ifCond .ne 9, 3) := by decide +kernel
theorem dX4_choose_8 : decode cX4_choose 8 = .ok (.aload_n 0, 1) := by decide +kernel
theorem dX4_choose_9 : decode cX4_choose 9 = .ok (.iconst 1, 1) := by decide +kernel
theorem dX4_choose_10 : decode cX4_choose 10 = .ok (.invokevirtual 85, 3) := by decide +kernel
theorem dX4_choose_13 : decode cX4_choose 13 = .ok (.ireturn, 1) := by decide +kernel
theorem dX4_choose_14 : decode cX4_choose 14 = .ok (.aload_n 0, 1) := by decide +kernel
theorem dX4_choose_15 : decode cX4_choose 15 = .ok (.iconst 0, 1) := by decide +kernel
theorem dX4_choose_16 : decode cX4_choose 16 = .ok (.putfield 57, 3) := by decide +kernel
theorem dX4_choose_19 : decode cX4_choose 19 = .ok (.iconst (-1), 1) := by decide +kernel
theorem dX4_choose_20 : decode cX4_choose 20 = .ok (.istore_n 2, 1) := by decide +kernel
theorem dX4_choose_21 : decode cX4_choose 21 = .ok (.aload_n 0, 1) := by decide +kernel
theorem dX4_choose_22 : decode cX4_choose 22 = .ok (.getfield 47, 3) := by decide +kernel
theorem dX4_choose_25 : decode cX4_choose 25 = .ok (.iconst 1, 1) := by decide +kernel
theorem dX4_choose_26 : decode cX4_choose 26 = .ok (.isub, 1) := by decide +kernel
theorem dX4_choose_27 : decode cX4_choose 27 = .ok (.istore_n 3, 1) := by decide +kernel
theorem dX4_choose_28 : decode cX4_choose 28 = .ok (.iload_n 3, 1) := by decide +kernel
theorem dX4_choose_29 : decode cX4_choose 29 = .ok (.ifCond .lt 48, 3) := by decide +kernel
theorem dX4_choose_32 : decode cX4_choose 32 = .ok (.aload_n 0, 1) := by decide +kernel
theorem dX4_choose_33 : decode cX4_choose 33 = .ok (.getfield 31, 3) := by decide +kernel
theorem dX4_choose_36 : decode cX4_choose 36 = .ok (.iload_n 1, 1) := by decide +kernel
theorem dX4_choose_37 : decode cX4_choose 37 = .ok (.iaload, 1) := by decide +kernel
theorem dX4_choose_38 : decode cX4_choose 38 = .ok (.ifCond .ge 39, 3) := by decide +kernel
theorem dX4_choose_41 : decode cX4_choose 41 = .ok (.aload_n 0, 1) := by decide +kernel
theorem dX4_choose_42 : decode cX4_choose 42 = .ok (.iload_n 1, 1) := by decide +kernel
theorem dX4_choose_43 : decode cX4_choose 43 = .ok (.iload_n 3, 1) := by decide +kernel
theorem dX4_choose_44 : decode cX4_choose 44 = .ok (.invokevirtual 105, 3) := by decide +kernel
theorem dX4_choose_47 : decode cX4_choose 47 = .ok (.ifCond .ne 24, 3) := by decide +kernel
theorem dX4_choose_50 : decode cX4_choose 50 = .ok (.iload_n 2, 1) := by decide +kernel
theorem dX4_choose_51 : decode cX4_choose 51 = .ok (.ifCond .lt 18, 3) := by decide +kernel
theorem dX4_choose_54 : decode cX4_choose 54 = .ok (.aload_n 0, 1) := by decide +kernel
theorem dX4_choose_55 : decode cX4_choose 55 = .ok (.iload_n 1, 1) := by decide +kernel
theorem dX4_choose_56 : decode cX4_choose 56 = .ok (.iload_n 3, 1) := by decide +kernel
theorem dX4_choose_57 : decode cX4_choose 57 = .ok (.invokevirtual 114, 3) := by decide +kernel
theorem dX4_choose_60 : decode cX4_choose 60 = .ok (.aload_n 0, 1) := by decide +kernel
theorem dX4_choose_61 : decode cX4_choose 61 = .ok (.iload_n 1, 1) := by decide +kernel
theorem dX4_choose_62 : decode cX4_choose 62 = .ok (.iload_n 2, 1) := by decide +kernel
theorem dX4_choose_63 : decode cX4_choose 63 = .ok (.invokevirtual 114, 3) := by decide +kernel
theorem dX4_choose_66 : decode cX4_choose 66 = .ok (.if_icmp .lt 5, 3) := by decide +kernel
theorem dX4_choose_69 : decode cX4_choose 69 = .ok (.iload_n 3, 1) := by decide +kernel
theorem dX4_choose_70 : decode cX4_choose 70 = .ok (.istore_n 2, 1) := by decide +kernel
theorem dX4_choose_71 : decode cX4_choose 71 = .ok (.iinc 3 (-1), 3) := by decide +kernel
theorem dX4_choose_74 : decode cX4_choose 74 = .ok (.goto (-46), 3) := by decide +kernel
theorem dX4_choose_77 : decode cX4_choose 77 = .ok (.iload_n 2, 1) := by decide +kernel
theorem dX4_choose_78 : decode cX4_choose 78 = .ok (.ireturn, 1) := by decide +kernel
theorem dX4_scoreOf_0 : decode cX4_scoreOf 0 = .ok (.aload_n 0, 1) := by decide +kernel
theorem dX4_scoreOf_1 : decode cX4_scoreOf 1 = .ok (.iload_n 2, 1) := by decide +kernel
theorem dX4_scoreOf_2 : decode cX4_scoreOf 2 = .ok (.invokevirtual 63, 3) := by decide +kernel
theorem dX4_scoreOf_5 : decode cX4_scoreOf 5 = .ok (.istore_n 3, 1) := by decide +kernel
theorem dX4_scoreOf_6 : decode cX4_scoreOf 6 = .ok (.aload_n 0, 1) := by decide +kernel
theorem dX4_scoreOf_7 : decode cX4_scoreOf 7 = .ok (.getfield 13, 3) := by decide +kernel
theorem dX4_scoreOf_10 : decode cX4_scoreOf 10 = .ok (.iload_n 2, 1) := by decide +kernel
theorem dX4_scoreOf_11 : decode cX4_scoreOf 11 = .ok (.iaload, 1) := by decide +kernel
theorem dX4_scoreOf_12 : decode cX4_scoreOf 12 = .ok (.ifCond .le 8, 3) := by decide +kernel
theorem dX4_scoreOf_15 : decode cX4_scoreOf 15 = .ok (.bipush 30, 2) := by decide +kernel
theorem dX4_scoreOf_17 : decode cX4_scoreOf 17 = .ok (.goto 4, 3) := by decide +kernel
theorem dX4_scoreOf_20 : decode cX4_scoreOf 20 = .ok (.iconst 0, 1) := by decide +kernel
theorem dX4_scoreOf_21 : decode cX4_scoreOf 21 = .ok (.istore 4, 2) := by decide +kernel
theorem dX4_scoreOf_23 : decode cX4_scoreOf 23 = .ok (.iload_n 3, 1) := by decide +kernel
theorem dX4_scoreOf_24 : decode cX4_scoreOf 24 = .ok (.ifCond .ne 9, 3) := by decide +kernel
theorem dX4_scoreOf_27 : decode cX4_scoreOf 27 = .ok (.iload 4, 2) := by decide +kernel
theorem dX4_scoreOf_29 : decode cX4_scoreOf 29 = .ok (.bipush 20, 2) := by decide +kernel
theorem dX4_scoreOf_31 : decode cX4_scoreOf 31 = .ok (.iadd, 1) := by decide +kernel
theorem dX4_scoreOf_32 : decode cX4_scoreOf 32 = .ok (.ireturn, 1) := by decide +kernel
theorem dX4_scoreOf_33 : decode cX4_scoreOf 33 = .ok (.aload_n 0, 1) := by decide +kernel
theorem dX4_scoreOf_34 : decode cX4_scoreOf 34 = .ok (.iload_n 2, 1) := by decide +kernel
theorem dX4_scoreOf_35 : decode cX4_scoreOf 35 = .ok (.iload_n 3, 1) := by decide +kernel
theorem dX4_scoreOf_36 : decode cX4_scoreOf 36 = .ok (.iconst 1, 1) := by decide +kernel
theorem dX4_scoreOf_37 : decode cX4_scoreOf 37 = .ok (.isub, 1) := by decide +kernel
theorem dX4_scoreOf_38 : decode cX4_scoreOf 38 = .ok (.invokevirtual 67, 3) := by decide +kernel
theorem dX4_scoreOf_41 : decode cX4_scoreOf 41 = .ok (.istore 5, 2) := by decide +kernel
theorem dX4_scoreOf_43 : decode cX4_scoreOf 43 = .ok (.iconst 3, 1) := by decide +kernel
theorem dX4_scoreOf_44 : decode cX4_scoreOf 44 = .ok (.aload_n 0, 1) := by decide +kernel
theorem dX4_scoreOf_45 : decode cX4_scoreOf 45 = .ok (.getfield 19, 3) := by decide +kernel
theorem dX4_scoreOf_48 : decode cX4_scoreOf 48 = .ok (.iload 5, 2) := by decide +kernel
theorem dX4_scoreOf_50 : decode cX4_scoreOf 50 = .ok (.iaload, 1) := by decide +kernel
theorem dX4_scoreOf_51 : decode cX4_scoreOf 51 = .ok (.aload_n 0, 1) := by decide +kernel
theorem dX4_scoreOf_52 : decode cX4_scoreOf 52 = .ok (.getfield 19, 3) := by decide +kernel
theorem dX4_scoreOf_55 : decode cX4_scoreOf 55 = .ok (.iload_n 1, 1) := by decide +kernel
theorem dX4_scoreOf_56 : decode cX4_scoreOf 56 = .ok (.iaload, 1) := by decide +kernel
theorem dX4_scoreOf_57 : decode cX4_scoreOf 57 = .ok (.isub, 1) := by decide +kernel
theorem dX4_scoreOf_58 : decode cX4_scoreOf 58 = .ok (.imul, 1) := by decide +kernel
theorem dX4_scoreOf_59 : decode cX4_scoreOf 59 = .ok (.istore 6, 2) := by decide +kernel
theorem dX4_scoreOf_61 : decode cX4_scoreOf 61 = .ok (.iload 4, 2) := by decide +kernel
theorem dX4_scoreOf_63 : decode cX4_scoreOf 63 = .ok (.bipush 40, 2) := by decide +kernel
theorem dX4_scoreOf_65 : decode cX4_scoreOf 65 = .ok (.iadd, 1) := by decide +kernel
theorem dX4_scoreOf_66 : decode cX4_scoreOf 66 = .ok (.bipush 15, 2) := by decide +kernel
theorem dX4_scoreOf_68 : decode cX4_scoreOf 68 = .ok (.aload_n 0, 1) := by decide +kernel
theorem dX4_scoreOf_69 : decode cX4_scoreOf 69 = .ok (.iload_n 1, 1) := by decide +kernel
theorem dX4_scoreOf_70 : decode cX4_scoreOf 70 = .ok (.iload_n 2, 1) := by decide +kernel
theorem dX4_scoreOf_71 : decode cX4_scoreOf 71 = .ok (.iload_n 3, 1) := by decide +kernel
theorem dX4_scoreOf_72 : decode cX4_scoreOf 72 = .ok (.invokevirtual 77, 3) := by decide +kernel
theorem dX4_scoreOf_75 : decode cX4_scoreOf 75 = .ok (.imul, 1) := by decide +kernel
theorem dX4_scoreOf_76 : decode cX4_scoreOf 76 = .ok (.isub, 1) := by decide +kernel
theorem dX4_scoreOf_77 : decode cX4_scoreOf 77 = .ok (.aload_n 0, 1) := by decide +kernel
theorem dX4_scoreOf_78 : decode cX4_scoreOf 78 = .ok (.getfield 25, 3) := by decide +kernel
theorem dX4_scoreOf_81 : decode cX4_scoreOf 81 = .ok (.iload 5, 2) := by decide +kernel
theorem dX4_scoreOf_83 : decode cX4_scoreOf 83 = .ok (.iaload, 1) := by decide +kernel
theorem dX4_scoreOf_84 : decode cX4_scoreOf 84 = .ok (.aload_n 0, 1) := by decide +kernel
theorem dX4_scoreOf_85 : decode cX4_scoreOf 85 = .ok (.getfield 25, 3) := by decide +kernel
theorem dX4_scoreOf_88 : decode cX4_scoreOf 88 = .ok (.iload_n 1, 1) := by decide +kernel
theorem dX4_scoreOf_89 : decode cX4_scoreOf 89 = .ok (.iaload, 1) := by decide +kernel
theorem dX4_scoreOf_90 : decode cX4_scoreOf 90 = .ok (.if_icmp .ne 8, 3) := by decide +kernel
theorem dX4_scoreOf_93 : decode cX4_scoreOf 93 = .ok (.bipush 12, 2) := by decide +kernel
theorem dX4_scoreOf_95 : decode cX4_scoreOf 95 = .ok (.goto 4, 3) := by decide +kernel
theorem dX4_scoreOf_98 : decode cX4_scoreOf 98 = .ok (.iconst 0, 1) := by decide +kernel
theorem dX4_scoreOf_99 : decode cX4_scoreOf 99 = .ok (.iadd, 1) := by decide +kernel
theorem dX4_scoreOf_100 : decode cX4_scoreOf 100 = .ok (.iload 6, 2) := by decide +kernel
theorem dX4_scoreOf_102 : decode cX4_scoreOf 102 = .ok (.bipush 24, 2) := by decide +kernel
theorem dX4_scoreOf_104 : decode cX4_scoreOf 104 = .ok (.if_icmp .le 8, 3) := by decide +kernel
theorem dX4_scoreOf_107 : decode cX4_scoreOf 107 = .ok (.bipush 24, 2) := by decide +kernel
theorem dX4_scoreOf_109 : decode cX4_scoreOf 109 = .ok (.goto 5, 3) := by decide +kernel
theorem dX4_scoreOf_112 : decode cX4_scoreOf 112 = .ok (.iload 6, 2) := by decide +kernel
theorem dX4_scoreOf_114 : decode cX4_scoreOf 114 = .ok (.isub, 1) := by decide +kernel
theorem dX4_scoreOf_115 : decode cX4_scoreOf 115 = .ok (.ireturn, 1) := by decide +kernel
theorem dX4_sooner_0 : decode cX4_sooner 0 = .ok (.iconst 0, 1) := by decide +kernel
theorem dX4_sooner_1 : decode cX4_sooner 1 = .ok (.istore 4, 2) := by decide +kernel
theorem dX4_sooner_3 : decode cX4_sooner 3 = .ok (.iconst 0, 1) := by decide +kernel
theorem dX4_sooner_4 : decode cX4_sooner 4 = .ok (.istore 5, 2) := by decide +kernel
theorem dX4_sooner_6 : decode cX4_sooner 6 = .ok (.iload 5, 2) := by decide +kernel
theorem dX4_sooner_8 : decode cX4_sooner 8 = .ok (.aload_n 0, 1) := by decide +kernel
theorem dX4_sooner_9 : decode cX4_sooner 9 = .ok (.getfield 60, 3) := by decide +kernel
theorem dX4_sooner_12 : decode cX4_sooner 12 = .ok (.if_icmp .ge 57, 3) := by decide +kernel
theorem dX4_sooner_15 : decode cX4_sooner 15 = .ok (.iload 4, 2) := by decide +kernel
theorem dX4_sooner_17 : decode cX4_sooner 17 = .ok (.aload_n 0, 1) := by decide +kernel
theorem dX4_sooner_18 : decode cX4_sooner 18 = .ok (.getfield 31, 3) := by decide +kernel
theorem dX4_sooner_21 : decode cX4_sooner 21 = .ok (.iload 5, 2) := by decide +kernel
theorem dX4_sooner_23 : decode cX4_sooner 23 = .ok (.iaload, 1) := by decide +kernel
theorem dX4_sooner_24 : decode cX4_sooner 24 = .ok (.iload_n 2, 1) := by decide +kernel
theorem dX4_sooner_25 : decode cX4_sooner 25 = .ok (.if_icmp .ne 34, 3) := by decide +kernel
theorem dX4_sooner_28 : decode cX4_sooner 28 = .ok (.aload_n 0, 1) := by decide +kernel
theorem dX4_sooner_29 : decode cX4_sooner 29 = .ok (.getfield 34, 3) := by decide +kernel
theorem dX4_sooner_32 : decode cX4_sooner 32 = .ok (.iload 5, 2) := by decide +kernel
theorem dX4_sooner_34 : decode cX4_sooner 34 = .ok (.iaload, 1) := by decide +kernel
theorem dX4_sooner_35 : decode cX4_sooner 35 = .ok (.iload_n 3, 1) := by decide +kernel
theorem dX4_sooner_36 : decode cX4_sooner 36 = .ok (.if_icmp .ge 23, 3) := by decide +kernel
theorem dX4_sooner_39 : decode cX4_sooner 39 = .ok (.aload_n 0, 1) := by decide +kernel
theorem dX4_sooner_40 : decode cX4_sooner 40 = .ok (.getfield 22, 3) := by decide +kernel
theorem dX4_sooner_43 : decode cX4_sooner 43 = .ok (.iload 5, 2) := by decide +kernel
theorem dX4_sooner_45 : decode cX4_sooner 45 = .ok (.iaload, 1) := by decide +kernel
theorem dX4_sooner_46 : decode cX4_sooner 46 = .ok (.aload_n 0, 1) := by decide +kernel
theorem dX4_sooner_47 : decode cX4_sooner 47 = .ok (.getfield 22, 3) := by decide +kernel
theorem dX4_sooner_50 : decode cX4_sooner 50 = .ok (.iload_n 1, 1) := by decide +kernel
theorem dX4_sooner_51 : decode cX4_sooner 51 = .ok (.iaload, 1) := by decide +kernel
theorem dX4_sooner_52 : decode cX4_sooner 52 = .ok (.if_icmp .ge 7, 3) := by decide +kernel
theorem dX4_sooner_55 : decode cX4_sooner 55 = .ok (.iconst 1, 1) := by decide +kernel
theorem dX4_sooner_56 : decode cX4_sooner 56 = .ok (.goto 4, 3) := by decide +kernel
theorem dX4_sooner_59 : decode cX4_sooner 59 = .ok (.iconst 0, 1) := by decide +kernel
theorem dX4_sooner_60 : decode cX4_sooner 60 = .ok (.iadd, 1) := by decide +kernel
theorem dX4_sooner_61 : decode cX4_sooner 61 = .ok (.istore 4, 2) := by decide +kernel
theorem dX4_sooner_63 : decode cX4_sooner 63 = .ok (.iinc 5 1, 3) := by decide +kernel
theorem dX4_sooner_66 : decode cX4_sooner 66 = .ok (.goto (-60), 3) := by decide +kernel
theorem dX4_sooner_69 : decode cX4_sooner 69 = .ok (.iload 4, 2) := by decide +kernel
theorem dX4_sooner_71 : decode cX4_sooner 71 = .ok (.ireturn, 1) := by decide +kernel
theorem dX4_score_0 : decode cX4_score 0 = .ok (.aload_n 0, 1) := by decide +kernel
theorem dX4_score_1 : decode cX4_score 1 = .ok (.iload_n 1, 1) := by decide +kernel
theorem dX4_score_2 : decode cX4_score 2 = .ok (.invokevirtual 102, 3) := by decide +kernel
theorem dX4_score_5 : decode cX4_score 5 = .ok (.ifCond .eq 11, 3) := by decide +kernel
theorem dX4_score_8 : decode cX4_score 8 = .ok (.aload_n 0, 1) := by decide +kernel
theorem dX4_score_9 : decode cX4_score 9 = .ok (.iload_n 2, 1) := by decide +kernel
theorem dX4_score_10 : decode cX4_score 10 = .ok (.invokevirtual 88, 3) := by decide +kernel
theorem dX4_score_13 : decode cX4_score 13 = .ok (.ifCond .ne 9, 3) := by decide +kernel
theorem dX4_score_16 : decode cX4_score 16 = .ok (.aload_n 0, 1) := by decide +kernel
theorem dX4_score_17 : decode cX4_score 17 = .ok (.iconst 1, 1) := by decide +kernel
theorem dX4_score_18 : decode cX4_score 18 = .ok (.invokevirtual 85, 3) := by decide +kernel
theorem dX4_score_21 : decode cX4_score 21 = .ok (.ireturn, 1) := by decide +kernel
theorem dX4_score_22 : decode cX4_score 22 = .ok (.aload_n 0, 1) := by decide +kernel
theorem dX4_score_23 : decode cX4_score 23 = .ok (.getfield 31, 3) := by decide +kernel
theorem dX4_score_26 : decode cX4_score 26 = .ok (.iload_n 1, 1) := by decide +kernel
theorem dX4_score_27 : decode cX4_score 27 = .ok (.iaload, 1) := by decide +kernel
theorem dX4_score_28 : decode cX4_score 28 = .ok (.ifCond .ge 12, 3) := by decide +kernel
theorem dX4_score_31 : decode cX4_score 31 = .ok (.aload_n 0, 1) := by decide +kernel
theorem dX4_score_32 : decode cX4_score 32 = .ok (.iload_n 1, 1) := by decide +kernel
theorem dX4_score_33 : decode cX4_score 33 = .ok (.iload_n 2, 1) := by decide +kernel
theorem dX4_score_34 : decode cX4_score 34 = .ok (.invokevirtual 105, 3) := by decide +kernel
theorem dX4_score_37 : decode cX4_score 37 = .ok (.ifCond .le 9, 3) := by decide +kernel
theorem dX4_score_40 : decode cX4_score 40 = .ok (.aload_n 0, 1) := by decide +kernel
theorem dX4_score_41 : decode cX4_score 41 = .ok (.iconst 2, 1) := by decide +kernel
theorem dX4_score_42 : decode cX4_score 42 = .ok (.invokevirtual 85, 3) := by decide +kernel
theorem dX4_score_45 : decode cX4_score 45 = .ok (.ireturn, 1) := by decide +kernel
theorem dX4_score_46 : decode cX4_score 46 = .ok (.aload_n 0, 1) := by decide +kernel
theorem dX4_score_47 : decode cX4_score 47 = .ok (.iconst 0, 1) := by decide +kernel
theorem dX4_score_48 : decode cX4_score 48 = .ok (.putfield 57, 3) := by decide +kernel
theorem dX4_score_51 : decode cX4_score 51 = .ok (.aload_n 0, 1) := by decide +kernel
theorem dX4_score_52 : decode cX4_score 52 = .ok (.iload_n 1, 1) := by decide +kernel
theorem dX4_score_53 : decode cX4_score 53 = .ok (.iload_n 2, 1) := by decide +kernel
theorem dX4_score_54 : decode cX4_score 54 = .ok (.invokevirtual 114, 3) := by decide +kernel
theorem dX4_score_57 : decode cX4_score 57 = .ok (.ireturn, 1) := by decide +kernel
theorem dX4_night_0 : decode cX4_night 0 = .ok (.iload_n 1, 1) := by decide +kernel
theorem dX4_night_1 : decode cX4_night 1 = .ok (.iconst 0, 1) := by decide +kernel
theorem dX4_night_2 : decode cX4_night 2 = .ok (.bipush 50, 2) := by decide +kernel
theorem dX4_night_4 : decode cX4_night 4 = .ok (.invokestatic 81, 3) := by decide +kernel
theorem dX4_night_7 : decode cX4_night 7 = .ok (.ifCond .ne 9, 3) := by decide +kernel
theorem dX4_night_10 : decode cX4_night 10 = .ok (.aload_n 0, 1) := by decide +kernel
theorem dX4_night_11 : decode cX4_night 11 = .ok (.iconst 1, 1) := by decide +kernel
theorem dX4_night_12 : decode cX4_night 12 = .ok (.invokevirtual 85, 3) := by decide +kernel
theorem dX4_night_15 : decode cX4_night 15 = .ok (.ireturn, 1) := by decide +kernel
theorem dX4_night_16 : decode cX4_night 16 = .ok (.aload_n 0, 1) := by decide +kernel
theorem dX4_night_17 : decode cX4_night 17 = .ok (.iconst 0, 1) := by decide +kernel
theorem dX4_night_18 : decode cX4_night 18 = .ok (.putfield 57, 3) := by decide +kernel
theorem dX4_night_21 : decode cX4_night 21 = .ok (.iconst 0, 1) := by decide +kernel
theorem dX4_night_22 : decode cX4_night 22 = .ok (.istore_n 2, 1) := by decide +kernel
theorem dX4_night_23 : decode cX4_night 23 = .ok (.aload_n 0, 1) := by decide +kernel
theorem dX4_night_24 : decode cX4_night 24 = .ok (.invokevirtual 120, 3) := by decide +kernel
theorem dX4_night_27 : decode cX4_night 27 = .ok (.istore_n 3, 1) := by decide +kernel
theorem dX4_night_28 : decode cX4_night 28 = .ok (.iload_n 2, 1) := by decide +kernel
theorem dX4_night_29 : decode cX4_night 29 = .ok (.iload_n 1, 1) := by decide +kernel
theorem dX4_night_30 : decode cX4_night 30 = .ok (.if_icmp .ge 28, 3) := by decide +kernel
theorem dX4_night_33 : decode cX4_night 33 = .ok (.iload_n 3, 1) := by decide +kernel
theorem dX4_night_34 : decode cX4_night 34 = .ok (.ifCond .lt 24, 3) := by decide +kernel
theorem dX4_night_37 : decode cX4_night 37 = .ok (.aload_n 0, 1) := by decide +kernel
theorem dX4_night_38 : decode cX4_night 38 = .ok (.iload_n 3, 1) := by decide +kernel
theorem dX4_night_39 : decode cX4_night 39 = .ok (.aload_n 0, 1) := by decide +kernel
theorem dX4_night_40 : decode cX4_night 40 = .ok (.iload_n 3, 1) := by decide +kernel
theorem dX4_night_41 : decode cX4_night 41 = .ok (.invokevirtual 117, 3) := by decide +kernel
theorem dX4_night_44 : decode cX4_night 44 = .ok (.invokevirtual 108, 3) := by decide +kernel
theorem dX4_night_47 : decode cX4_night 47 = .ok (.iinc 2 1, 3) := by decide +kernel
theorem dX4_night_50 : decode cX4_night 50 = .ok (.aload_n 0, 1) := by decide +kernel
theorem dX4_night_51 : decode cX4_night 51 = .ok (.invokevirtual 120, 3) := by decide +kernel
theorem dX4_night_54 : decode cX4_night 54 = .ok (.istore_n 3, 1) := by decide +kernel
theorem dX4_night_55 : decode cX4_night 55 = .ok (.goto (-27), 3) := by decide +kernel
theorem dX4_night_58 : decode cX4_night 58 = .ok (.iload_n 2, 1) := by decide +kernel
theorem dX4_night_59 : decode cX4_night 59 = .ok (.ireturn, 1) := by decide +kernel
theorem dX4_worst_0 : decode cX4_worst 0 = .ok (.iconst (-1), 1) := by decide +kernel
theorem dX4_worst_1 : decode cX4_worst 1 = .ok (.istore_n 1, 1) := by decide +kernel
theorem dX4_worst_2 : decode cX4_worst 2 = .ok (.iconst 0, 1) := by decide +kernel
theorem dX4_worst_3 : decode cX4_worst 3 = .ok (.istore_n 2, 1) := by decide +kernel
theorem dX4_worst_4 : decode cX4_worst 4 = .ok (.iconst 0, 1) := by decide +kernel
theorem dX4_worst_5 : decode cX4_worst 5 = .ok (.istore_n 3, 1) := by decide +kernel
theorem dX4_worst_6 : decode cX4_worst 6 = .ok (.iload_n 3, 1) := by decide +kernel
theorem dX4_worst_7 : decode cX4_worst 7 = .ok (.aload_n 0, 1) := by decide +kernel
theorem dX4_worst_8 : decode cX4_worst 8 = .ok (.getfield 47, 3) := by decide +kernel
theorem dX4_worst_11 : decode cX4_worst 11 = .ok (.if_icmp .ge 69, 3) := by decide +kernel
theorem dX4_worst_14 : decode cX4_worst 14 = .ok (.aload_n 0, 1) := by decide +kernel
theorem dX4_worst_15 : decode cX4_worst 15 = .ok (.iload_n 3, 1) := by decide +kernel
theorem dX4_worst_16 : decode cX4_worst 16 = .ok (.aload_n 0, 1) := by decide +kernel
theorem dX4_worst_17 : decode cX4_worst 17 = .ok (.iload_n 3, 1) := by decide +kernel
theorem dX4_worst_18 : decode cX4_worst 18 = .ok (.invokevirtual 63, 3) := by decide +kernel
theorem dX4_worst_21 : decode cX4_worst 21 = .ok (.iconst 1, 1) := by decide +kernel
theorem dX4_worst_22 : decode cX4_worst 22 = .ok (.isub, 1) := by decide +kernel
theorem dX4_worst_23 : decode cX4_worst 23 = .ok (.invokevirtual 67, 3) := by decide +kernel
theorem dX4_worst_26 : decode cX4_worst 26 = .ok (.istore 4, 2) := by decide +kernel
theorem dX4_worst_28 : decode cX4_worst 28 = .ok (.iload 4, 2) := by decide +kernel
theorem dX4_worst_30 : decode cX4_worst 30 = .ok (.ifCond .ge 7, 3) := by decide +kernel
theorem dX4_worst_33 : decode cX4_worst 33 = .ok (.iconst 0, 1) := by decide +kernel
theorem dX4_worst_34 : decode cX4_worst 34 = .ok (.goto 17, 3) := by decide +kernel
theorem dX4_worst_37 : decode cX4_worst 37 = .ok (.aload_n 0, 1) := by decide +kernel
theorem dX4_worst_38 : decode cX4_worst 38 = .ok (.iload 4, 2) := by decide +kernel
theorem dX4_worst_40 : decode cX4_worst 40 = .ok (.iload_n 3, 1) := by decide +kernel
theorem dX4_worst_41 : decode cX4_worst 41 = .ok (.aload_n 0, 1) := by decide +kernel
theorem dX4_worst_42 : decode cX4_worst 42 = .ok (.getfield 34, 3) := by decide +kernel
theorem dX4_worst_45 : decode cX4_worst 45 = .ok (.iload 4, 2) := by decide +kernel
theorem dX4_worst_47 : decode cX4_worst 47 = .ok (.iaload, 1) := by decide +kernel
theorem dX4_worst_48 : decode cX4_worst 48 = .ok (.invokevirtual 77, 3) := by decide +kernel
theorem dX4_worst_51 : decode cX4_worst 51 = .ok (.istore 5, 2) := by decide +kernel
theorem dX4_worst_53 : decode cX4_worst 53 = .ok (.iload 5, 2) := by decide +kernel
theorem dX4_worst_55 : decode cX4_worst 55 = .ok (.iload_n 2, 1) := by decide +kernel
theorem dX4_worst_56 : decode cX4_worst 56 = .ok (.if_icmp .le 18, 3) := by decide +kernel
theorem dX4_worst_59 : decode cX4_worst 59 = .ok (.aload_n 0, 1) := by decide +kernel
theorem dX4_worst_60 : decode cX4_worst 60 = .ok (.iload 4, 2) := by decide +kernel
theorem dX4_worst_62 : decode cX4_worst 62 = .ok (.invokevirtual 117, 3) := by decide +kernel
theorem dX4_worst_65 : decode cX4_worst 65 = .ok (.ifCond .lt 9, 3) := by decide +kernel
theorem dX4_worst_68 : decode cX4_worst 68 = .ok (.iload 4, 2) := by decide +kernel
theorem dX4_worst_70 : decode cX4_worst 70 = .ok (.istore_n 1, 1) := by decide +kernel
theorem dX4_worst_71 : decode cX4_worst 71 = .ok (.iload 5, 2) := by decide +kernel
theorem dX4_worst_73 : decode cX4_worst 73 = .ok (.istore_n 2, 1) := by decide +kernel
theorem dX4_worst_74 : decode cX4_worst 74 = .ok (.iinc 3 1, 3) := by decide +kernel
theorem dX4_worst_77 : decode cX4_worst 77 = .ok (.goto (-71), 3) := by decide +kernel
theorem dX4_worst_80 : decode cX4_worst 80 = .ok (.iload_n 1, 1) := by decide +kernel
theorem dX4_worst_81 : decode cX4_worst 81 = .ok (.ireturn, 1) := by decide +kernel
theorem dX4_aside_0 : decode cX4_aside 0 = .ok (.iconst (-1), 1) := by decide +kernel
theorem dX4_aside_1 : decode cX4_aside 1 = .ok (.istore_n 2, 1) := by decide +kernel
theorem dX4_aside_2 : decode cX4_aside 2 = .ok (.aload_n 0, 1) := by decide +kernel
theorem dX4_aside_3 : decode cX4_aside 3 = .ok (.getfield 47, 3) := by decide +kernel
theorem dX4_aside_6 : decode cX4_aside 6 = .ok (.iconst 1, 1) := by decide +kernel
theorem dX4_aside_7 : decode cX4_aside 7 = .ok (.isub, 1) := by decide +kernel
theorem dX4_aside_8 : decode cX4_aside 8 = .ok (.istore_n 3, 1) := by decide +kernel
theorem dX4_aside_9 : decode cX4_aside 9 = .ok (.iload_n 3, 1) := by decide +kernel
theorem dX4_aside_10 : decode cX4_aside 10 = .ok (.ifCond .lt 74, 3) := by decide +kernel
theorem dX4_aside_13 : decode cX4_aside 13 = .ok (.iload_n 3, 1) := by decide +kernel
theorem dX4_aside_14 : decode cX4_aside 14 = .ok (.aload_n 0, 1) := by decide +kernel
theorem dX4_aside_15 : decode cX4_aside 15 = .ok (.getfield 31, 3) := by decide +kernel
theorem dX4_aside_18 : decode cX4_aside 18 = .ok (.iload_n 1, 1) := by decide +kernel
theorem dX4_aside_19 : decode cX4_aside 19 = .ok (.iaload, 1) := by decide +kernel
theorem dX4_aside_20 : decode cX4_aside 20 = .ok (.if_icmp .eq 29, 3) := by decide +kernel
theorem dX4_aside_23 : decode cX4_aside 23 = .ok (.aload_n 0, 1) := by decide +kernel
theorem dX4_aside_24 : decode cX4_aside 24 = .ok (.iload_n 1, 1) := by decide +kernel
theorem dX4_aside_25 : decode cX4_aside 25 = .ok (.iload_n 3, 1) := by decide +kernel
theorem dX4_aside_26 : decode cX4_aside 26 = .ok (.invokevirtual 105, 3) := by decide +kernel
theorem dX4_aside_29 : decode cX4_aside 29 = .ok (.ifCond .ne 20, 3) := by decide +kernel
theorem dX4_aside_32 : decode cX4_aside 32 = .ok (.aload_n 0, 1) := by decide +kernel
theorem dX4_aside_33 : decode cX4_aside 33 = .ok (.iload_n 1, 1) := by decide +kernel
theorem dX4_aside_34 : decode cX4_aside 34 = .ok (.iload_n 3, 1) := by decide +kernel
theorem dX4_aside_35 : decode cX4_aside 35 = .ok (.aload_n 0, 1) := by decide +kernel
theorem dX4_aside_36 : decode cX4_aside 36 = .ok (.getfield 51, 3) := by decide +kernel
theorem dX4_aside_39 : decode cX4_aside 39 = .ok (.invokevirtual 77, 3) := by decide +kernel
theorem dX4_aside_42 : decode cX4_aside 42 = .ok (.ifCond .ne 7, 3) := by decide +kernel
theorem dX4_aside_45 : decode cX4_aside 45 = .ok (.iconst 1, 1) := by decide +kernel
theorem dX4_aside_46 : decode cX4_aside 46 = .ok (.goto 4, 3) := by decide +kernel
theorem dX4_aside_49 : decode cX4_aside 49 = .ok (.iconst 0, 1) := by decide +kernel
theorem dX4_aside_50 : decode cX4_aside 50 = .ok (.istore 4, 2) := by decide +kernel
theorem dX4_aside_52 : decode cX4_aside 52 = .ok (.iload 4, 2) := by decide +kernel
theorem dX4_aside_54 : decode cX4_aside 54 = .ok (.ifCond .eq 24, 3) := by decide +kernel
theorem dX4_aside_57 : decode cX4_aside 57 = .ok (.iload_n 2, 1) := by decide +kernel
theorem dX4_aside_58 : decode cX4_aside 58 = .ok (.ifCond .lt 18, 3) := by decide +kernel
theorem dX4_aside_61 : decode cX4_aside 61 = .ok (.aload_n 0, 1) := by decide +kernel
theorem dX4_aside_62 : decode cX4_aside 62 = .ok (.iload_n 1, 1) := by decide +kernel
theorem dX4_aside_63 : decode cX4_aside 63 = .ok (.iload_n 3, 1) := by decide +kernel
theorem dX4_aside_64 : decode cX4_aside 64 = .ok (.invokevirtual 114, 3) := by decide +kernel
theorem dX4_aside_67 : decode cX4_aside 67 = .ok (.aload_n 0, 1) := by decide +kernel
theorem dX4_aside_68 : decode cX4_aside 68 = .ok (.iload_n 1, 1) := by decide +kernel
theorem dX4_aside_69 : decode cX4_aside 69 = .ok (.iload_n 2, 1) := by decide +kernel
theorem dX4_aside_70 : decode cX4_aside 70 = .ok (.invokevirtual 114, 3) := by decide +kernel
theorem dX4_aside_73 : decode cX4_aside 73 = .ok (.if_icmp .lt 5, 3) := by decide +kernel
theorem dX4_aside_76 : decode cX4_aside 76 = .ok (.iload_n 3, 1) := by decide +kernel
theorem dX4_aside_77 : decode cX4_aside 77 = .ok (.istore_n 2, 1) := by decide +kernel
theorem dX4_aside_78 : decode cX4_aside 78 = .ok (.iinc 3 (-1), 3) := by decide +kernel
theorem dX4_aside_81 : decode cX4_aside 81 = .ok (.goto (-72), 3) := by decide +kernel
theorem dX4_aside_84 : decode cX4_aside 84 = .ok (.iload_n 2, 1) := by decide +kernel
theorem dX4_aside_85 : decode cX4_aside 85 = .ok (.ireturn, 1) := by decide +kernel
theorem dX4_undo_0 : decode cX4_undo 0 = .ok (.aload_n 0, 1) := by decide +kernel
theorem dX4_undo_1 : decode cX4_undo 1 = .ok (.iconst 0, 1) := by decide +kernel
theorem dX4_undo_2 : decode cX4_undo 2 = .ok (.putfield 57, 3) := by decide +kernel
theorem dX4_undo_5 : decode cX4_undo 5 = .ok (.aload_n 0, 1) := by decide +kernel
theorem dX4_undo_6 : decode cX4_undo 6 = .ok (.getfield 92, 3) := by decide +kernel
theorem dX4_undo_9 : decode cX4_undo 9 = .ok (.ifCond .ne 5, 3) := by decide +kernel
theorem dX4_undo_12 : decode cX4_undo 12 = .ok (.iconst (-1), 1) := by decide +kernel
theorem dX4_undo_13 : decode cX4_undo 13 = .ok (.ireturn, 1) := by decide +kernel
theorem dX4_undo_14 : decode cX4_undo 14 = .ok (.aload_n 0, 1) := by decide +kernel
theorem dX4_undo_15 : decode cX4_undo 15 = .ok (.dup, 1) := by decide +kernel
theorem dX4_undo_16 : decode cX4_undo 16 = .ok (.getfield 92, 3) := by decide +kernel
theorem dX4_undo_19 : decode cX4_undo 19 = .ok (.iconst 1, 1) := by decide +kernel
theorem dX4_undo_20 : decode cX4_undo 20 = .ok (.isub, 1) := by decide +kernel
theorem dX4_undo_21 : decode cX4_undo 21 = .ok (.putfield 92, 3) := by decide +kernel
theorem dX4_undo_24 : decode cX4_undo 24 = .ok (.aload_n 0, 1) := by decide +kernel
theorem dX4_undo_25 : decode cX4_undo 25 = .ok (.dup, 1) := by decide +kernel
theorem dX4_undo_26 : decode cX4_undo 26 = .ok (.getfield 95, 3) := by decide +kernel
theorem dX4_undo_29 : decode cX4_undo 29 = .ok (.iconst 1, 1) := by decide +kernel
theorem dX4_undo_30 : decode cX4_undo 30 = .ok (.isub, 1) := by decide +kernel
theorem dX4_undo_31 : decode cX4_undo 31 = .ok (.putfield 95, 3) := by decide +kernel
theorem dX4_undo_34 : decode cX4_undo 34 = .ok (.aload_n 0, 1) := by decide +kernel
theorem dX4_undo_35 : decode cX4_undo 35 = .ok (.getfield 37, 3) := by decide +kernel
theorem dX4_undo_38 : decode cX4_undo 38 = .ok (.aload_n 0, 1) := by decide +kernel
theorem dX4_undo_39 : decode cX4_undo 39 = .ok (.getfield 92, 3) := by decide +kernel
theorem dX4_undo_42 : decode cX4_undo 42 = .ok (.iaload, 1) := by decide +kernel
theorem dX4_undo_43 : decode cX4_undo 43 = .ok (.istore_n 1, 1) := by decide +kernel
theorem dX4_undo_44 : decode cX4_undo 44 = .ok (.aload_n 0, 1) := by decide +kernel
theorem dX4_undo_45 : decode cX4_undo 45 = .ok (.getfield 31, 3) := by decide +kernel
theorem dX4_undo_48 : decode cX4_undo 48 = .ok (.iload_n 1, 1) := by decide +kernel
theorem dX4_undo_49 : decode cX4_undo 49 = .ok (.iconst (-1), 1) := by decide +kernel
theorem dX4_undo_50 : decode cX4_undo 50 = .ok (.iastore, 1) := by decide +kernel
theorem dX4_undo_51 : decode cX4_undo 51 = .ok (.aload_n 0, 1) := by decide +kernel
theorem dX4_undo_52 : decode cX4_undo 52 = .ok (.iload_n 1, 1) := by decide +kernel
theorem dX4_undo_53 : decode cX4_undo 53 = .ok (.aload_n 0, 1) := by decide +kernel
theorem dX4_undo_54 : decode cX4_undo 54 = .ok (.getfield 40, 3) := by decide +kernel
theorem dX4_undo_57 : decode cX4_undo 57 = .ok (.aload_n 0, 1) := by decide +kernel
theorem dX4_undo_58 : decode cX4_undo 58 = .ok (.getfield 92, 3) := by decide +kernel
theorem dX4_undo_61 : decode cX4_undo 61 = .ok (.iaload, 1) := by decide +kernel
theorem dX4_undo_62 : decode cX4_undo 62 = .ok (.invokevirtual 98, 3) := by decide +kernel
theorem dX4_undo_65 : decode cX4_undo 65 = .ok (.iload_n 1, 1) := by decide +kernel
theorem dX4_undo_66 : decode cX4_undo 66 = .ok (.ireturn, 1) := by decide +kernel
theorem dX4_where_0 : decode cX4_where 0 = .ok (.aload_n 0, 1) := by decide +kernel
theorem dX4_where_1 : decode cX4_where 1 = .ok (.iload_n 1, 1) := by decide +kernel
theorem dX4_where_2 : decode cX4_where 2 = .ok (.invokevirtual 102, 3) := by decide +kernel
theorem dX4_where_5 : decode cX4_where 5 = .ok (.ifCond .eq 13, 3) := by decide +kernel
theorem dX4_where_8 : decode cX4_where 8 = .ok (.iload_n 2, 1) := by decide +kernel
theorem dX4_where_9 : decode cX4_where 9 = .ok (.iconst 0, 1) := by decide +kernel
theorem dX4_where_10 : decode cX4_where 10 = .ok (.bipush 8, 2) := by decide +kernel
theorem dX4_where_12 : decode cX4_where 12 = .ok (.invokestatic 81, 3) := by decide +kernel
theorem dX4_where_15 : decode cX4_where 15 = .ok (.ifCond .ne 9, 3) := by decide +kernel
theorem dX4_where_18 : decode cX4_where 18 = .ok (.aload_n 0, 1) := by decide +kernel
theorem dX4_where_19 : decode cX4_where 19 = .ok (.iconst 1, 1) := by decide +kernel
theorem dX4_where_20 : decode cX4_where 20 = .ok (.invokevirtual 85, 3) := by decide +kernel
theorem dX4_where_23 : decode cX4_where 23 = .ok (.ireturn, 1) := by decide +kernel
theorem dX4_where_24 : decode cX4_where 24 = .ok (.aload_n 0, 1) := by decide +kernel
theorem dX4_where_25 : decode cX4_where 25 = .ok (.iconst 0, 1) := by decide +kernel
theorem dX4_where_26 : decode cX4_where 26 = .ok (.putfield 57, 3) := by decide +kernel
theorem dX4_where_29 : decode cX4_where 29 = .ok (.aload_n 0, 1) := by decide +kernel
theorem dX4_where_30 : decode cX4_where 30 = .ok (.getfield 31, 3) := by decide +kernel
theorem dX4_where_33 : decode cX4_where 33 = .ok (.iload_n 1, 1) := by decide +kernel
theorem dX4_where_34 : decode cX4_where 34 = .ok (.iaload, 1) := by decide +kernel
theorem dX4_where_35 : decode cX4_where 35 = .ok (.ifCond .lt 7, 3) := by decide +kernel
theorem dX4_where_38 : decode cX4_where 38 = .ok (.iconst 1, 1) := by decide +kernel
theorem dX4_where_39 : decode cX4_where 39 = .ok (.goto 4, 3) := by decide +kernel
theorem dX4_where_42 : decode cX4_where 42 = .ok (.iconst 0, 1) := by decide +kernel
theorem dX4_where_43 : decode cX4_where 43 = .ok (.istore_n 3, 1) := by decide +kernel
theorem dX4_where_44 : decode cX4_where 44 = .ok (.iload_n 2, 1) := by decide +kernel
theorem dX4_where_45 : decode cX4_where 45 = .ok (.tableswitch 147 0 7 #[47, 54, 61, 89, 119, 126, 133, 140], 47) := by decide +kernel
theorem dX4_where_92 : decode cX4_where 92 = .ok (.aload_n 0, 1) := by decide +kernel
theorem dX4_where_93 : decode cX4_where 93 = .ok (.getfield 31, 3) := by decide +kernel
theorem dX4_where_96 : decode cX4_where 96 = .ok (.iload_n 1, 1) := by decide +kernel
theorem dX4_where_97 : decode cX4_where 97 = .ok (.iaload, 1) := by decide +kernel
theorem dX4_where_98 : decode cX4_where 98 = .ok (.ireturn, 1) := by decide +kernel
theorem dX4_where_99 : decode cX4_where 99 = .ok (.aload_n 0, 1) := by decide +kernel
theorem dX4_where_100 : decode cX4_where 100 = .ok (.getfield 34, 3) := by decide +kernel
theorem dX4_where_103 : decode cX4_where 103 = .ok (.iload_n 1, 1) := by decide +kernel
theorem dX4_where_104 : decode cX4_where 104 = .ok (.iaload, 1) := by decide +kernel
theorem dX4_where_105 : decode cX4_where 105 = .ok (.ireturn, 1) := by decide +kernel
theorem dX4_where_106 : decode cX4_where 106 = .ok (.iload_n 3, 1) := by decide +kernel
theorem dX4_where_107 : decode cX4_where 107 = .ok (.ifCond .eq 25, 3) := by decide +kernel
theorem dX4_where_110 : decode cX4_where 110 = .ok (.aload_n 0, 1) := by decide +kernel
theorem dX4_where_111 : decode cX4_where 111 = .ok (.aload_n 0, 1) := by decide +kernel
theorem dX4_where_112 : decode cX4_where 112 = .ok (.getfield 31, 3) := by decide +kernel
theorem dX4_where_115 : decode cX4_where 115 = .ok (.iload_n 1, 1) := by decide +kernel
theorem dX4_where_116 : decode cX4_where 116 = .ok (.iaload, 1) := by decide +kernel
theorem dX4_where_117 : decode cX4_where 117 = .ok (.invokevirtual 63, 3) := by decide +kernel
theorem dX4_where_120 : decode cX4_where 120 = .ok (.iconst 1, 1) := by decide +kernel
theorem dX4_where_121 : decode cX4_where 121 = .ok (.isub, 1) := by decide +kernel
theorem dX4_where_122 : decode cX4_where 122 = .ok (.aload_n 0, 1) := by decide +kernel
theorem dX4_where_123 : decode cX4_where 123 = .ok (.getfield 34, 3) := by decide +kernel
theorem dX4_where_126 : decode cX4_where 126 = .ok (.iload_n 1, 1) := by decide +kernel
theorem dX4_where_127 : decode cX4_where 127 = .ok (.iaload, 1) := by decide +kernel
theorem dX4_where_128 : decode cX4_where 128 = .ok (.isub, 1) := by decide +kernel
theorem dX4_where_129 : decode cX4_where 129 = .ok (.goto 4, 3) := by decide +kernel
theorem dX4_where_132 : decode cX4_where 132 = .ok (.iconst 0, 1) := by decide +kernel
theorem dX4_where_133 : decode cX4_where 133 = .ok (.ireturn, 1) := by decide +kernel
theorem dX4_where_134 : decode cX4_where 134 = .ok (.iload_n 3, 1) := by decide +kernel
theorem dX4_where_135 : decode cX4_where 135 = .ok (.ifCond .eq 27, 3) := by decide +kernel
theorem dX4_where_138 : decode cX4_where 138 = .ok (.aload_n 0, 1) := by decide +kernel
theorem dX4_where_139 : decode cX4_where 139 = .ok (.iload_n 1, 1) := by decide +kernel
theorem dX4_where_140 : decode cX4_where 140 = .ok (.aload_n 0, 1) := by decide +kernel
theorem dX4_where_141 : decode cX4_where 141 = .ok (.getfield 31, 3) := by decide +kernel
theorem dX4_where_144 : decode cX4_where 144 = .ok (.iload_n 1, 1) := by decide +kernel
theorem dX4_where_145 : decode cX4_where 145 = .ok (.iaload, 1) := by decide +kernel
theorem dX4_where_146 : decode cX4_where 146 = .ok (.aload_n 0, 1) := by decide +kernel
theorem dX4_where_147 : decode cX4_where 147 = .ok (.getfield 34, 3) := by decide +kernel
theorem dX4_where_150 : decode cX4_where 150 = .ok (.iload_n 1, 1) := by decide +kernel
theorem dX4_where_151 : decode cX4_where 151 = .ok (.iaload, 1) := by decide +kernel
theorem dX4_where_152 : decode cX4_where 152 = .ok (.invokevirtual 77, 3) := by decide +kernel
theorem dX4_where_155 : decode cX4_where 155 = .ok (.ifCond .le 7, 3) := by decide +kernel
theorem dX4_where_158 : decode cX4_where 158 = .ok (.iconst 1, 1) := by decide +kernel
theorem dX4_where_159 : decode cX4_where 159 = .ok (.goto 4, 3) := by decide +kernel
theorem dX4_where_162 : decode cX4_where 162 = .ok (.iconst 0, 1) := by decide +kernel
theorem dX4_where_163 : decode cX4_where 163 = .ok (.ireturn, 1) := by decide +kernel
theorem dX4_where_164 : decode cX4_where 164 = .ok (.aload_n 0, 1) := by decide +kernel
theorem dX4_where_165 : decode cX4_where 165 = .ok (.getfield 16, 3) := by decide +kernel
theorem dX4_where_168 : decode cX4_where 168 = .ok (.iload_n 1, 1) := by decide +kernel
theorem dX4_where_169 : decode cX4_where 169 = .ok (.iaload, 1) := by decide +kernel
theorem dX4_where_170 : decode cX4_where 170 = .ok (.ireturn, 1) := by decide +kernel
theorem dX4_where_171 : decode cX4_where 171 = .ok (.aload_n 0, 1) := by decide +kernel
theorem dX4_where_172 : decode cX4_where 172 = .ok (.getfield 19, 3) := by decide +kernel
theorem dX4_where_175 : decode cX4_where 175 = .ok (.iload_n 1, 1) := by decide +kernel
theorem dX4_where_176 : decode cX4_where 176 = .ok (.iaload, 1) := by decide +kernel
theorem dX4_where_177 : decode cX4_where 177 = .ok (.ireturn, 1) := by decide +kernel
theorem dX4_where_178 : decode cX4_where 178 = .ok (.aload_n 0, 1) := by decide +kernel
theorem dX4_where_179 : decode cX4_where 179 = .ok (.getfield 22, 3) := by decide +kernel
theorem dX4_where_182 : decode cX4_where 182 = .ok (.iload_n 1, 1) := by decide +kernel
theorem dX4_where_183 : decode cX4_where 183 = .ok (.iaload, 1) := by decide +kernel
theorem dX4_where_184 : decode cX4_where 184 = .ok (.ireturn, 1) := by decide +kernel
theorem dX4_where_185 : decode cX4_where 185 = .ok (.aload_n 0, 1) := by decide +kernel
theorem dX4_where_186 : decode cX4_where 186 = .ok (.getfield 25, 3) := by decide +kernel
theorem dX4_where_189 : decode cX4_where 189 = .ok (.iload_n 1, 1) := by decide +kernel
theorem dX4_where_190 : decode cX4_where 190 = .ok (.iaload, 1) := by decide +kernel
theorem dX4_where_191 : decode cX4_where 191 = .ok (.ireturn, 1) := by decide +kernel
theorem dX4_where_192 : decode cX4_where 192 = .ok (.aload_n 0, 1) := by decide +kernel
theorem dX4_where_193 : decode cX4_where 193 = .ok (.getfield 28, 3) := by decide +kernel
theorem dX4_where_196 : decode cX4_where 196 = .ok (.iload_n 1, 1) := by decide +kernel
theorem dX4_where_197 : decode cX4_where 197 = .ok (.iaload, 1) := by decide +kernel
theorem dX4_where_198 : decode cX4_where 198 = .ok (.ireturn, 1) := by decide +kernel
theorem dX4_at_0 : decode cX4_at 0 = .ok (.aload_n 0, 1) := by decide +kernel
theorem dX4_at_1 : decode cX4_at 1 = .ok (.iload_n 1, 1) := by decide +kernel
theorem dX4_at_2 : decode cX4_at 2 = .ok (.invokevirtual 88, 3) := by decide +kernel
theorem dX4_at_5 : decode cX4_at 5 = .ok (.ifCond .eq 17, 3) := by decide +kernel
theorem dX4_at_8 : decode cX4_at 8 = .ok (.iload_n 2, 1) := by decide +kernel
theorem dX4_at_9 : decode cX4_at 9 = .ok (.iconst 0, 1) := by decide +kernel
theorem dX4_at_10 : decode cX4_at 10 = .ok (.aload_n 0, 1) := by decide +kernel
theorem dX4_at_11 : decode cX4_at 11 = .ok (.getfield 51, 3) := by decide +kernel
theorem dX4_at_14 : decode cX4_at 14 = .ok (.iconst 1, 1) := by decide +kernel
theorem dX4_at_15 : decode cX4_at 15 = .ok (.isub, 1) := by decide +kernel
theorem dX4_at_16 : decode cX4_at 16 = .ok (.invokestatic 81, 3) := by decide +kernel
theorem dX4_at_19 : decode cX4_at 19 = .ok (.ifCond .ne 9, 3) := by decide +kernel
theorem dX4_at_22 : decode cX4_at 22 = .ok (.aload_n 0, 1) := by decide +kernel
theorem dX4_at_23 : decode cX4_at 23 = .ok (.iconst 1, 1) := by decide +kernel
theorem dX4_at_24 : decode cX4_at 24 = .ok (.invokevirtual 85, 3) := by decide +kernel
theorem dX4_at_27 : decode cX4_at 27 = .ok (.ireturn, 1) := by decide +kernel
theorem dX4_at_28 : decode cX4_at 28 = .ok (.aload_n 0, 1) := by decide +kernel
theorem dX4_at_29 : decode cX4_at 29 = .ok (.iconst 0, 1) := by decide +kernel
theorem dX4_at_30 : decode cX4_at 30 = .ok (.putfield 57, 3) := by decide +kernel
theorem dX4_at_33 : decode cX4_at 33 = .ok (.aload_n 0, 1) := by decide +kernel
theorem dX4_at_34 : decode cX4_at 34 = .ok (.iload_n 1, 1) := by decide +kernel
theorem dX4_at_35 : decode cX4_at 35 = .ok (.iload_n 2, 1) := by decide +kernel
theorem dX4_at_36 : decode cX4_at 36 = .ok (.invokevirtual 67, 3) := by decide +kernel
theorem dX4_at_39 : decode cX4_at 39 = .ok (.ireturn, 1) := by decide +kernel
theorem dX4_count_0 : decode cX4_count 0 = .ok (.aload_n 0, 1) := by decide +kernel
theorem dX4_count_1 : decode cX4_count 1 = .ok (.iconst 0, 1) := by decide +kernel
theorem dX4_count_2 : decode cX4_count 2 = .ok (.putfield 57, 3) := by decide +kernel
theorem dX4_count_5 : decode cX4_count 5 = .ok (.iconst 0, 1) := by decide +kernel
theorem dX4_count_6 : decode cX4_count 6 = .ok (.istore_n 2, 1) := by decide +kernel
theorem dX4_count_7 : decode cX4_count 7 = .ok (.iconst 0, 1) := by decide +kernel
theorem dX4_count_8 : decode cX4_count 8 = .ok (.istore_n 3, 1) := by decide +kernel
theorem dX4_count_9 : decode cX4_count 9 = .ok (.iconst 0, 1) := by decide +kernel
theorem dX4_count_10 : decode cX4_count 10 = .ok (.istore 4, 2) := by decide +kernel
theorem dX4_count_12 : decode cX4_count 12 = .ok (.iload 4, 2) := by decide +kernel
theorem dX4_count_14 : decode cX4_count 14 = .ok (.aload_n 0, 1) := by decide +kernel
theorem dX4_count_15 : decode cX4_count 15 = .ok (.getfield 60, 3) := by decide +kernel
theorem dX4_count_18 : decode cX4_count 18 = .ok (.if_icmp .ge 68, 3) := by decide +kernel
theorem dX4_count_21 : decode cX4_count 21 = .ok (.iload_n 2, 1) := by decide +kernel
theorem dX4_count_22 : decode cX4_count 22 = .ok (.aload_n 0, 1) := by decide +kernel
theorem dX4_count_23 : decode cX4_count 23 = .ok (.getfield 31, 3) := by decide +kernel
theorem dX4_count_26 : decode cX4_count 26 = .ok (.iload 4, 2) := by decide +kernel
theorem dX4_count_28 : decode cX4_count 28 = .ok (.iaload, 1) := by decide +kernel
theorem dX4_count_29 : decode cX4_count 29 = .ok (.ifCond .lt 7, 3) := by decide +kernel
theorem dX4_count_32 : decode cX4_count 32 = .ok (.iconst 1, 1) := by decide +kernel
theorem dX4_count_33 : decode cX4_count 33 = .ok (.goto 4, 3) := by decide +kernel
theorem dX4_count_36 : decode cX4_count 36 = .ok (.iconst 0, 1) := by decide +kernel
theorem dX4_count_37 : decode cX4_count 37 = .ok (.iadd, 1) := by decide +kernel
theorem dX4_count_38 : decode cX4_count 38 = .ok (.istore_n 2, 1) := by decide +kernel
theorem dX4_count_39 : decode cX4_count 39 = .ok (.iload_n 3, 1) := by decide +kernel
theorem dX4_count_40 : decode cX4_count 40 = .ok (.aload_n 0, 1) := by decide +kernel
theorem dX4_count_41 : decode cX4_count 41 = .ok (.getfield 31, 3) := by decide +kernel
theorem dX4_count_44 : decode cX4_count 44 = .ok (.iload 4, 2) := by decide +kernel
theorem dX4_count_46 : decode cX4_count 46 = .ok (.iaload, 1) := by decide +kernel
theorem dX4_count_47 : decode cX4_count 47 = .ok (.ifCond .lt 30, 3) := by decide +kernel
theorem dX4_count_50 : decode cX4_count 50 = .ok (.aload_n 0, 1) := by decide +kernel
theorem dX4_count_51 : decode cX4_count 51 = .ok (.iload 4, 2) := by decide +kernel
theorem dX4_count_53 : decode cX4_count 53 = .ok (.aload_n 0, 1) := by decide +kernel
theorem dX4_count_54 : decode cX4_count 54 = .ok (.getfield 31, 3) := by decide +kernel
theorem dX4_count_57 : decode cX4_count 57 = .ok (.iload 4, 2) := by decide +kernel
theorem dX4_count_59 : decode cX4_count 59 = .ok (.iaload, 1) := by decide +kernel
theorem dX4_count_60 : decode cX4_count 60 = .ok (.aload_n 0, 1) := by decide +kernel
theorem dX4_count_61 : decode cX4_count 61 = .ok (.getfield 34, 3) := by decide +kernel
theorem dX4_count_64 : decode cX4_count 64 = .ok (.iload 4, 2) := by decide +kernel
theorem dX4_count_66 : decode cX4_count 66 = .ok (.iaload, 1) := by decide +kernel
theorem dX4_count_67 : decode cX4_count 67 = .ok (.invokevirtual 77, 3) := by decide +kernel
theorem dX4_count_70 : decode cX4_count 70 = .ok (.ifCond .le 7, 3) := by decide +kernel
theorem dX4_count_73 : decode cX4_count 73 = .ok (.iconst 1, 1) := by decide +kernel
theorem dX4_count_74 : decode cX4_count 74 = .ok (.goto 4, 3) := by decide +kernel
theorem dX4_count_77 : decode cX4_count 77 = .ok (.iconst 0, 1) := by decide +kernel
theorem dX4_count_78 : decode cX4_count 78 = .ok (.iadd, 1) := by decide +kernel
theorem dX4_count_79 : decode cX4_count 79 = .ok (.istore_n 3, 1) := by decide +kernel
theorem dX4_count_80 : decode cX4_count 80 = .ok (.iinc 4 1, 3) := by decide +kernel
theorem dX4_count_83 : decode cX4_count 83 = .ok (.goto (-71), 3) := by decide +kernel
theorem dX4_count_86 : decode cX4_count 86 = .ok (.iload_n 1, 1) := by decide +kernel
theorem dX4_count_87 : decode cX4_count 87 = .ok (.bipush 20, 2) := by decide +kernel
theorem dX4_count_89 : decode cX4_count 89 = .ok (.if_icmp .lt 85, 3) := by decide +kernel
theorem dX4_count_92 : decode cX4_count 92 = .ok (.iload_n 1, 1) := by decide +kernel
theorem dX4_count_93 : decode cX4_count 93 = .ok (.bipush 20, 2) := by decide +kernel
theorem dX4_count_95 : decode cX4_count 95 = .ok (.isub, 1) := by decide +kernel
theorem dX4_count_96 : decode cX4_count 96 = .ok (.bipush 20, 2) := by decide +kernel
theorem dX4_count_98 : decode cX4_count 98 = .ok (.irem, 1) := by decide +kernel
theorem dX4_count_99 : decode cX4_count 99 = .ok (.istore 4, 2) := by decide +kernel
theorem dX4_count_101 : decode cX4_count 101 = .ok (.iload_n 1, 1) := by decide +kernel
theorem dX4_count_102 : decode cX4_count 102 = .ok (.bipush 100, 2) := by decide +kernel
theorem dX4_count_104 : decode cX4_count 104 = .ok (.if_icmp .ge 12, 3) := by decide +kernel
theorem dX4_count_107 : decode cX4_count 107 = .ok (.aload_n 0, 1) := by decide +kernel
theorem dX4_count_108 : decode cX4_count 108 = .ok (.iload 4, 2) := by decide +kernel
theorem dX4_count_110 : decode cX4_count 110 = .ok (.invokevirtual 88, 3) := by decide +kernel
theorem dX4_count_113 : decode cX4_count 113 = .ok (.ifCond .ne 7, 3) := by decide +kernel
theorem dX4_count_116 : decode cX4_count 116 = .ok (.iconst (-1), 1) := by decide +kernel
theorem dX4_count_117 : decode cX4_count 117 = .ok (.goto 56, 3) := by decide +kernel
theorem dX4_count_120 : decode cX4_count 120 = .ok (.iload_n 1, 1) := by decide +kernel
theorem dX4_count_121 : decode cX4_count 121 = .ok (.bipush 40, 2) := by decide +kernel
theorem dX4_count_123 : decode cX4_count 123 = .ok (.if_icmp .ge 12, 3) := by decide +kernel
theorem dX4_count_126 : decode cX4_count 126 = .ok (.aload_n 0, 1) := by decide +kernel
theorem dX4_count_127 : decode cX4_count 127 = .ok (.iload 4, 2) := by decide +kernel
theorem dX4_count_129 : decode cX4_count 129 = .ok (.invokevirtual 63, 3) := by decide +kernel
theorem dX4_count_132 : decode cX4_count 132 = .ok (.goto 41, 3) := by decide +kernel
theorem dX4_count_135 : decode cX4_count 135 = .ok (.iload_n 1, 1) := by decide +kernel
theorem dX4_count_136 : decode cX4_count 136 = .ok (.bipush 60, 2) := by decide +kernel
theorem dX4_count_138 : decode cX4_count 138 = .ok (.if_icmp .ge 12, 3) := by decide +kernel
theorem dX4_count_141 : decode cX4_count 141 = .ok (.aload_n 0, 1) := by decide +kernel
theorem dX4_count_142 : decode cX4_count 142 = .ok (.iload 4, 2) := by decide +kernel
theorem dX4_count_144 : decode cX4_count 144 = .ok (.invokevirtual 70, 3) := by decide +kernel
theorem dX4_count_147 : decode cX4_count 147 = .ok (.goto 26, 3) := by decide +kernel
theorem dX4_count_150 : decode cX4_count 150 = .ok (.iload_n 1, 1) := by decide +kernel
theorem dX4_count_151 : decode cX4_count 151 = .ok (.bipush 80, 2) := by decide +kernel
theorem dX4_count_153 : decode cX4_count 153 = .ok (.if_icmp .ge 13, 3) := by decide +kernel
theorem dX4_count_156 : decode cX4_count 156 = .ok (.aload_n 0, 1) := by decide +kernel
theorem dX4_count_157 : decode cX4_count 157 = .ok (.getfield 7, 3) := by decide +kernel
theorem dX4_count_160 : decode cX4_count 160 = .ok (.iload 4, 2) := by decide +kernel
theorem dX4_count_162 : decode cX4_count 162 = .ok (.iaload, 1) := by decide +kernel
theorem dX4_count_163 : decode cX4_count 163 = .ok (.goto 10, 3) := by decide +kernel
theorem dX4_count_166 : decode cX4_count 166 = .ok (.aload_n 0, 1) := by decide +kernel
theorem dX4_count_167 : decode cX4_count 167 = .ok (.getfield 13, 3) := by decide +kernel
theorem dX4_count_170 : decode cX4_count 170 = .ok (.iload 4, 2) := by decide +kernel
theorem dX4_count_172 : decode cX4_count 172 = .ok (.iaload, 1) := by decide +kernel
theorem dX4_count_173 : decode cX4_count 173 = .ok (.ireturn, 1) := by decide +kernel
theorem dX4_count_174 : decode cX4_count 174 = .ok (.iload_n 1, 1) := by decide +kernel
theorem dX4_count_175 : decode cX4_count 175 = .ok (.tableswitch 79 0 7 #[45, 50, 55, 60, 65, 67, 72, 74], 45) := by decide +kernel
theorem dX4_count_220 : decode cX4_count 220 = .ok (.aload_n 0, 1) := by decide +kernel
theorem dX4_count_221 : decode cX4_count 221 = .ok (.getfield 47, 3) := by decide +kernel
theorem dX4_count_224 : decode cX4_count 224 = .ok (.ireturn, 1) := by decide +kernel
theorem dX4_count_225 : decode cX4_count 225 = .ok (.aload_n 0, 1) := by decide +kernel
theorem dX4_count_226 : decode cX4_count 226 = .ok (.getfield 51, 3) := by decide +kernel
theorem dX4_count_229 : decode cX4_count 229 = .ok (.ireturn, 1) := by decide +kernel
theorem dX4_count_230 : decode cX4_count 230 = .ok (.aload_n 0, 1) := by decide +kernel
theorem dX4_count_231 : decode cX4_count 231 = .ok (.getfield 54, 3) := by decide +kernel
theorem dX4_count_234 : decode cX4_count 234 = .ok (.ireturn, 1) := by decide +kernel
theorem dX4_count_235 : decode cX4_count 235 = .ok (.aload_n 0, 1) := by decide +kernel
theorem dX4_count_236 : decode cX4_count 236 = .ok (.getfield 60, 3) := by decide +kernel
theorem dX4_count_239 : decode cX4_count 239 = .ok (.ireturn, 1) := by decide +kernel
theorem dX4_count_240 : decode cX4_count 240 = .ok (.iload_n 2, 1) := by decide +kernel
theorem dX4_count_241 : decode cX4_count 241 = .ok (.ireturn, 1) := by decide +kernel
theorem dX4_count_242 : decode cX4_count 242 = .ok (.aload_n 0, 1) := by decide +kernel
theorem dX4_count_243 : decode cX4_count 243 = .ok (.getfield 95, 3) := by decide +kernel
theorem dX4_count_246 : decode cX4_count 246 = .ok (.ireturn, 1) := by decide +kernel
theorem dX4_count_247 : decode cX4_count 247 = .ok (.iload_n 3, 1) := by decide +kernel
theorem dX4_count_248 : decode cX4_count 248 = .ok (.ireturn, 1) := by decide +kernel
theorem dX4_count_249 : decode cX4_count 249 = .ok (.aload_n 0, 1) := by decide +kernel
theorem dX4_count_250 : decode cX4_count 250 = .ok (.getfield 92, 3) := by decide +kernel
theorem dX4_count_253 : decode cX4_count 253 = .ok (.ireturn, 1) := by decide +kernel
theorem dX4_count_254 : decode cX4_count 254 = .ok (.iconst (-1), 1) := by decide +kernel
theorem dX4_count_255 : decode cX4_count 255 = .ok (.ireturn, 1) := by decide +kernel
end
section
theorem dL_cell_0 : decode cL_cell 0 = .ok (.iload_n 1, 1) := by decide +kernel
theorem dL_cell_1 : decode cL_cell 1 = .ok (.aload_n 0, 1) := by decide +kernel
theorem dL_cell_2 : decode cL_cell 2 = .ok (.arraylength, 1) := by decide +kernel
theorem dL_cell_3 : decode cL_cell 3 = .ok (.if_icmp .ge 9, 3) := by decide +kernel
theorem dL_cell_6 : decode cL_cell 6 = .ok (.aload_n 0, 1) := by decide +kernel
theorem dL_cell_7 : decode cL_cell 7 = .ok (.iload_n 1, 1) := by decide +kernel
theorem dL_cell_8 : decode cL_cell 8 = .ok (.iaload, 1) := by decide +kernel
theorem dL_cell_9 : decode cL_cell 9 = .ok (.goto 4, 3) := by decide +kernel
theorem dL_cell_12 : decode cL_cell 12 = .ok (.iconst 0, 1) := by decide +kernel
theorem dL_cell_13 : decode cL_cell 13 = .ok (.ireturn, 1) := by decide +kernel
theorem dL_box_0 : decode cL_box 0 = .ok (.aload 6, 2) := by decide +kernel
theorem dL_box_2 : decode cL_box 2 = .ok (.iconst 0, 1) := by decide +kernel
theorem dL_box_3 : decode cL_box 3 = .ok (.aload_n 0, 1) := by decide +kernel
theorem dL_box_4 : decode cL_box 4 = .ok (.iload_n 1, 1) := by decide +kernel
theorem dL_box_5 : decode cL_box 5 = .ok (.iload_n 2, 1) := by decide +kernel
theorem dL_box_6 : decode cL_box 6 = .ok (.iload_n 3, 1) := by decide +kernel
theorem dL_box_7 : decode cL_box 7 = .ok (.iload 4, 2) := by decide +kernel
theorem dL_box_9 : decode cL_box 9 = .ok (.iload 5, 2) := by decide +kernel
theorem dL_box_11 : decode cL_box 11 = .ok (.invokevirtual 7, 3) := by decide +kernel
theorem dL_box_14 : decode cL_box 14 = .ok (.i2l, 1) := by decide +kernel
theorem dL_box_15 : decode cL_box 15 = .ok (.lastore, 1) := by decide +kernel
theorem dL_box_16 : decode cL_box 16 = .ok (.goto 11, 3) := by decide +kernel
theorem dL_box_19 : decode cL_box 19 = .ok (.astore 7, 2) := by decide +kernel
theorem dL_box_21 : decode cL_box 21 = .ok (.iconst 1, 1) := by decide +kernel
theorem dL_box_22 : decode cL_box 22 = .ok (.ireturn, 1) := by decide +kernel
theorem dL_box_23 : decode cL_box 23 = .ok (.astore 7, 2) := by decide +kernel
theorem dL_box_25 : decode cL_box 25 = .ok (.iconst 2, 1) := by decide +kernel
theorem dL_box_26 : decode cL_box 26 = .ok (.ireturn, 1) := by decide +kernel
theorem dL_box_27 : decode cL_box 27 = .ok (.iconst 0, 1) := by decide +kernel
theorem dL_box_28 : decode cL_box 28 = .ok (.ireturn, 1) := by decide +kernel
theorem dL_put_0 : decode cL_put 0 = .ok (.aload_n 3, 1) := by decide +kernel
theorem dL_put_1 : decode cL_put 1 = .ok (.iconst 0, 1) := by decide +kernel
theorem dL_put_2 : decode cL_put 2 = .ok (.aload_n 0, 1) := by decide +kernel
theorem dL_put_3 : decode cL_put 3 = .ok (.iload_n 1, 1) := by decide +kernel
theorem dL_put_4 : decode cL_put 4 = .ok (.iload_n 2, 1) := by decide +kernel
theorem dL_put_5 : decode cL_put 5 = .ok (.invokevirtual 17, 3) := by decide +kernel
theorem dL_put_8 : decode cL_put 8 = .ok (.i2l, 1) := by decide +kernel
theorem dL_put_9 : decode cL_put 9 = .ok (.lastore, 1) := by decide +kernel
theorem dL_put_10 : decode cL_put 10 = .ok (.goto 7, 3) := by decide +kernel
theorem dL_put_13 : decode cL_put 13 = .ok (.astore 4, 2) := by decide +kernel
theorem dL_put_15 : decode cL_put 15 = .ok (.iconst 1, 1) := by decide +kernel
theorem dL_put_16 : decode cL_put 16 = .ok (.ireturn, 1) := by decide +kernel
theorem dL_put_17 : decode cL_put 17 = .ok (.iconst 0, 1) := by decide +kernel
theorem dL_put_18 : decode cL_put 18 = .ok (.ireturn, 1) := by decide +kernel
theorem dL_take_0 : decode cL_take 0 = .ok (.aload_n 2, 1) := by decide +kernel
theorem dL_take_1 : decode cL_take 1 = .ok (.iconst 0, 1) := by decide +kernel
theorem dL_take_2 : decode cL_take 2 = .ok (.aload_n 0, 1) := by decide +kernel
theorem dL_take_3 : decode cL_take 3 = .ok (.iload_n 1, 1) := by decide +kernel
theorem dL_take_4 : decode cL_take 4 = .ok (.invokevirtual 23, 3) := by decide +kernel
theorem dL_take_7 : decode cL_take 7 = .ok (.i2l, 1) := by decide +kernel
theorem dL_take_8 : decode cL_take 8 = .ok (.lastore, 1) := by decide +kernel
theorem dL_take_9 : decode cL_take 9 = .ok (.goto 6, 3) := by decide +kernel
theorem dL_take_12 : decode cL_take 12 = .ok (.astore_n 3, 1) := by decide +kernel
theorem dL_take_13 : decode cL_take 13 = .ok (.iconst 1, 1) := by decide +kernel
theorem dL_take_14 : decode cL_take 14 = .ok (.ireturn, 1) := by decide +kernel
theorem dL_take_15 : decode cL_take 15 = .ok (.iconst 0, 1) := by decide +kernel
theorem dL_take_16 : decode cL_take 16 = .ok (.ireturn, 1) := by decide +kernel
theorem dL_shift_0 : decode cL_shift 0 = .ok (.aload_n 3, 1) := by decide +kernel
theorem dL_shift_1 : decode cL_shift 1 = .ok (.iconst 0, 1) := by decide +kernel
theorem dL_shift_2 : decode cL_shift 2 = .ok (.aload_n 0, 1) := by decide +kernel
theorem dL_shift_3 : decode cL_shift 3 = .ok (.iload_n 1, 1) := by decide +kernel
theorem dL_shift_4 : decode cL_shift 4 = .ok (.iload_n 2, 1) := by decide +kernel
theorem dL_shift_5 : decode cL_shift 5 = .ok (.invokevirtual 27, 3) := by decide +kernel
theorem dL_shift_8 : decode cL_shift 8 = .ok (.i2l, 1) := by decide +kernel
theorem dL_shift_9 : decode cL_shift 9 = .ok (.lastore, 1) := by decide +kernel
theorem dL_shift_10 : decode cL_shift 10 = .ok (.goto 7, 3) := by decide +kernel
theorem dL_shift_13 : decode cL_shift 13 = .ok (.astore 4, 2) := by decide +kernel
theorem dL_shift_15 : decode cL_shift 15 = .ok (.iconst 1, 1) := by decide +kernel
theorem dL_shift_16 : decode cL_shift 16 = .ok (.ireturn, 1) := by decide +kernel
theorem dL_shift_17 : decode cL_shift 17 = .ok (.iconst 0, 1) := by decide +kernel
theorem dL_shift_18 : decode cL_shift 18 = .ok (.ireturn, 1) := by decide +kernel
theorem dL_choose_0 : decode cL_choose 0 = .ok (.aload_n 2, 1) := by decide +kernel
theorem dL_choose_1 : decode cL_choose 1 = .ok (.iconst 0, 1) := by decide +kernel
theorem dL_choose_2 : decode cL_choose 2 = .ok (.aload_n 0, 1) := by decide +kernel
theorem dL_choose_3 : decode cL_choose 3 = .ok (.iload_n 1, 1) := by decide +kernel
theorem dL_choose_4 : decode cL_choose 4 = .ok (.invokevirtual 30, 3) := by decide +kernel
theorem dL_choose_7 : decode cL_choose 7 = .ok (.i2l, 1) := by decide +kernel
theorem dL_choose_8 : decode cL_choose 8 = .ok (.lastore, 1) := by decide +kernel
theorem dL_choose_9 : decode cL_choose 9 = .ok (.goto 6, 3) := by decide +kernel
theorem dL_choose_12 : decode cL_choose 12 = .ok (.astore_n 3, 1) := by decide +kernel
theorem dL_choose_13 : decode cL_choose 13 = .ok (.iconst 1, 1) := by decide +kernel
theorem dL_choose_14 : decode cL_choose 14 = .ok (.ireturn, 1) := by decide +kernel
theorem dL_choose_15 : decode cL_choose 15 = .ok (.iconst 0, 1) := by decide +kernel
theorem dL_choose_16 : decode cL_choose 16 = .ok (.ireturn, 1) := by decide +kernel
theorem dL_score_0 : decode cL_score 0 = .ok (.aload_n 3, 1) := by decide +kernel
theorem dL_score_1 : decode cL_score 1 = .ok (.iconst 0, 1) := by decide +kernel
theorem dL_score_2 : decode cL_score 2 = .ok (.aload_n 0, 1) := by decide +kernel
theorem dL_score_3 : decode cL_score 3 = .ok (.iload_n 1, 1) := by decide +kernel
theorem dL_score_4 : decode cL_score 4 = .ok (.iload_n 2, 1) := by decide +kernel
theorem dL_score_5 : decode cL_score 5 = .ok (.invokevirtual 33, 3) := by decide +kernel
theorem dL_score_8 : decode cL_score 8 = .ok (.i2l, 1) := by decide +kernel
theorem dL_score_9 : decode cL_score 9 = .ok (.lastore, 1) := by decide +kernel
theorem dL_score_10 : decode cL_score 10 = .ok (.goto 11, 3) := by decide +kernel
theorem dL_score_13 : decode cL_score 13 = .ok (.astore 4, 2) := by decide +kernel
theorem dL_score_15 : decode cL_score 15 = .ok (.iconst 1, 1) := by decide +kernel
theorem dL_score_16 : decode cL_score 16 = .ok (.ireturn, 1) := by decide +kernel
theorem dL_score_17 : decode cL_score 17 = .ok (.astore 4, 2) := by decide +kernel
theorem dL_score_19 : decode cL_score 19 = .ok (.iconst 2, 1) := by decide +kernel
theorem dL_score_20 : decode cL_score 20 = .ok (.ireturn, 1) := by decide +kernel
theorem dL_score_21 : decode cL_score 21 = .ok (.iconst 0, 1) := by decide +kernel
theorem dL_score_22 : decode cL_score 22 = .ok (.ireturn, 1) := by decide +kernel
theorem dL_night_0 : decode cL_night 0 = .ok (.aload_n 2, 1) := by decide +kernel
theorem dL_night_1 : decode cL_night 1 = .ok (.iconst 0, 1) := by decide +kernel
theorem dL_night_2 : decode cL_night 2 = .ok (.aload_n 0, 1) := by decide +kernel
theorem dL_night_3 : decode cL_night 3 = .ok (.iload_n 1, 1) := by decide +kernel
theorem dL_night_4 : decode cL_night 4 = .ok (.invokevirtual 36, 3) := by decide +kernel
theorem dL_night_7 : decode cL_night 7 = .ok (.i2l, 1) := by decide +kernel
theorem dL_night_8 : decode cL_night 8 = .ok (.lastore, 1) := by decide +kernel
theorem dL_night_9 : decode cL_night 9 = .ok (.goto 6, 3) := by decide +kernel
theorem dL_night_12 : decode cL_night 12 = .ok (.astore_n 3, 1) := by decide +kernel
theorem dL_night_13 : decode cL_night 13 = .ok (.iconst 1, 1) := by decide +kernel
theorem dL_night_14 : decode cL_night 14 = .ok (.ireturn, 1) := by decide +kernel
theorem dL_night_15 : decode cL_night 15 = .ok (.iconst 0, 1) := by decide +kernel
theorem dL_night_16 : decode cL_night 16 = .ok (.ireturn, 1) := by decide +kernel
theorem dL_where_0 : decode cL_where 0 = .ok (.aload_n 3, 1) := by decide +kernel
theorem dL_where_1 : decode cL_where 1 = .ok (.iconst 0, 1) := by decide +kernel
theorem dL_where_2 : decode cL_where 2 = .ok (.aload_n 0, 1) := by decide +kernel
theorem dL_where_3 : decode cL_where 3 = .ok (.iload_n 1, 1) := by decide +kernel
theorem dL_where_4 : decode cL_where 4 = .ok (.iload_n 2, 1) := by decide +kernel
theorem dL_where_5 : decode cL_where 5 = .ok (.invokevirtual 39, 3) := by decide +kernel
theorem dL_where_8 : decode cL_where 8 = .ok (.i2l, 1) := by decide +kernel
theorem dL_where_9 : decode cL_where 9 = .ok (.lastore, 1) := by decide +kernel
theorem dL_where_10 : decode cL_where 10 = .ok (.goto 7, 3) := by decide +kernel
theorem dL_where_13 : decode cL_where 13 = .ok (.astore 4, 2) := by decide +kernel
theorem dL_where_15 : decode cL_where 15 = .ok (.iconst 1, 1) := by decide +kernel
theorem dL_where_16 : decode cL_where 16 = .ok (.ireturn, 1) := by decide +kernel
theorem dL_where_17 : decode cL_where 17 = .ok (.iconst 0, 1) := by decide +kernel
theorem dL_where_18 : decode cL_where 18 = .ok (.ireturn, 1) := by decide +kernel
theorem dL_at_0 : decode cL_at 0 = .ok (.aload_n 3, 1) := by decide +kernel
theorem dL_at_1 : decode cL_at 1 = .ok (.iconst 0, 1) := by decide +kernel
theorem dL_at_2 : decode cL_at 2 = .ok (.aload_n 0, 1) := by decide +kernel
theorem dL_at_3 : decode cL_at 3 = .ok (.iload_n 1, 1) := by decide +kernel
theorem dL_at_4 : decode cL_at 4 = .ok (.iload_n 2, 1) := by decide +kernel
theorem dL_at_5 : decode cL_at 5 = .ok (.invokevirtual 42, 3) := by decide +kernel
theorem dL_at_8 : decode cL_at 8 = .ok (.i2l, 1) := by decide +kernel
theorem dL_at_9 : decode cL_at 9 = .ok (.lastore, 1) := by decide +kernel
theorem dL_at_10 : decode cL_at 10 = .ok (.goto 7, 3) := by decide +kernel
theorem dL_at_13 : decode cL_at 13 = .ok (.astore 4, 2) := by decide +kernel
theorem dL_at_15 : decode cL_at 15 = .ok (.iconst 1, 1) := by decide +kernel
theorem dL_at_16 : decode cL_at 16 = .ok (.ireturn, 1) := by decide +kernel
theorem dL_at_17 : decode cL_at 17 = .ok (.iconst 0, 1) := by decide +kernel
theorem dL_at_18 : decode cL_at 18 = .ok (.ireturn, 1) := by decide +kernel
theorem dL_law_0 : decode cL_law 0 = .ok (.new 8, 3) := by decide +kernel
theorem dL_law_3 : decode cL_law 3 = .ok (.dup, 1) := by decide +kernel
theorem dL_law_4 : decode cL_law 4 = .ok (.aload_n 0, 1) := by decide +kernel
theorem dL_law_5 : decode cL_law 5 = .ok (.iconst 0, 1) := by decide +kernel
theorem dL_law_6 : decode cL_law 6 = .ok (.invokestatic 45, 3) := by decide +kernel
theorem dL_law_9 : decode cL_law 9 = .ok (.aload_n 0, 1) := by decide +kernel
theorem dL_law_10 : decode cL_law 10 = .ok (.iconst 1, 1) := by decide +kernel
theorem dL_law_11 : decode cL_law 11 = .ok (.invokestatic 45, 3) := by decide +kernel
theorem dL_law_14 : decode cL_law 14 = .ok (.aload_n 0, 1) := by decide +kernel
theorem dL_law_15 : decode cL_law 15 = .ok (.iconst 2, 1) := by decide +kernel
theorem dL_law_16 : decode cL_law 16 = .ok (.invokestatic 45, 3) := by decide +kernel
theorem dL_law_19 : decode cL_law 19 = .ok (.invokespecial 51, 3) := by decide +kernel
theorem dL_law_22 : decode cL_law 22 = .ok (.astore_n 1, 1) := by decide +kernel
theorem dL_law_23 : decode cL_law 23 = .ok (.new 54, 3) := by decide +kernel
theorem dL_law_26 : decode cL_law 26 = .ok (.dup, 1) := by decide +kernel
theorem dL_law_27 : decode cL_law 27 = .ok (.aload_n 0, 1) := by decide +kernel
theorem dL_law_28 : decode cL_law 28 = .ok (.iconst 0, 1) := by decide +kernel
theorem dL_law_29 : decode cL_law 29 = .ok (.invokestatic 45, 3) := by decide +kernel
theorem dL_law_32 : decode cL_law 32 = .ok (.aload_n 0, 1) := by decide +kernel
theorem dL_law_33 : decode cL_law 33 = .ok (.iconst 1, 1) := by decide +kernel
theorem dL_law_34 : decode cL_law 34 = .ok (.invokestatic 45, 3) := by decide +kernel
theorem dL_law_37 : decode cL_law 37 = .ok (.aload_n 0, 1) := by decide +kernel
theorem dL_law_38 : decode cL_law 38 = .ok (.iconst 2, 1) := by decide +kernel
theorem dL_law_39 : decode cL_law 39 = .ok (.invokestatic 45, 3) := by decide +kernel
theorem dL_law_42 : decode cL_law 42 = .ok (.invokespecial 56, 3) := by decide +kernel
theorem dL_law_45 : decode cL_law 45 = .ok (.astore_n 2, 1) := by decide +kernel
theorem dL_law_46 : decode cL_law 46 = .ok (.iconst 1, 1) := by decide +kernel
theorem dL_law_47 : decode cL_law 47 = .ok (.newarray .long, 2) := by decide +kernel
theorem dL_law_49 : decode cL_law 49 = .ok (.astore_n 3, 1) := by decide +kernel
theorem dL_law_50 : decode cL_law 50 = .ok (.iconst 3, 1) := by decide +kernel
theorem dL_law_51 : decode cL_law 51 = .ok (.istore 4, 2) := by decide +kernel
theorem dL_law_53 : decode cL_law 53 = .ok (.iload 4, 2) := by decide +kernel
theorem dL_law_55 : decode cL_law 55 = .ok (.aload_n 0, 1) := by decide +kernel
theorem dL_law_56 : decode cL_law 56 = .ok (.arraylength, 1) := by decide +kernel
theorem dL_law_57 : decode cL_law 57 = .ok (.bipush 6, 2) := by decide +kernel
theorem dL_law_59 : decode cL_law 59 = .ok (.isub, 1) := by decide +kernel
theorem dL_law_60 : decode cL_law 60 = .ok (.if_icmp .gt 806, 3) := by decide +kernel
theorem dL_law_63 : decode cL_law 63 = .ok (.aload_n 0, 1) := by decide +kernel
theorem dL_law_64 : decode cL_law 64 = .ok (.iload 4, 2) := by decide +kernel
theorem dL_law_66 : decode cL_law 66 = .ok (.iaload, 1) := by decide +kernel
theorem dL_law_67 : decode cL_law 67 = .ok (.bipush 15, 2) := by decide +kernel
theorem dL_law_69 : decode cL_law 69 = .ok (.iand, 1) := by decide +kernel
theorem dL_law_70 : decode cL_law 70 = .ok (.tableswitch 790 0 12 #[66, 170, 207, 244, 312, 368, 436, 492, 560, 616, 629, 697, 765], 66) := by decide +kernel
theorem dL_law_136 : decode cL_law 136 = .ok (.aload_n 1, 1) := by decide +kernel
theorem dL_law_137 : decode cL_law 137 = .ok (.aload_n 0, 1) := by decide +kernel
theorem dL_law_138 : decode cL_law 138 = .ok (.iload 4, 2) := by decide +kernel
theorem dL_law_140 : decode cL_law 140 = .ok (.iconst 1, 1) := by decide +kernel
theorem dL_law_141 : decode cL_law 141 = .ok (.iadd, 1) := by decide +kernel
theorem dL_law_142 : decode cL_law 142 = .ok (.iaload, 1) := by decide +kernel
theorem dL_law_143 : decode cL_law 143 = .ok (.aload_n 0, 1) := by decide +kernel
theorem dL_law_144 : decode cL_law 144 = .ok (.iload 4, 2) := by decide +kernel
theorem dL_law_146 : decode cL_law 146 = .ok (.iconst 2, 1) := by decide +kernel
theorem dL_law_147 : decode cL_law 147 = .ok (.iadd, 1) := by decide +kernel
theorem dL_law_148 : decode cL_law 148 = .ok (.iaload, 1) := by decide +kernel
theorem dL_law_149 : decode cL_law 149 = .ok (.aload_n 0, 1) := by decide +kernel
theorem dL_law_150 : decode cL_law 150 = .ok (.iload 4, 2) := by decide +kernel
theorem dL_law_152 : decode cL_law 152 = .ok (.iconst 3, 1) := by decide +kernel
theorem dL_law_153 : decode cL_law 153 = .ok (.iadd, 1) := by decide +kernel
theorem dL_law_154 : decode cL_law 154 = .ok (.iaload, 1) := by decide +kernel
theorem dL_law_155 : decode cL_law 155 = .ok (.aload_n 0, 1) := by decide +kernel
theorem dL_law_156 : decode cL_law 156 = .ok (.iload 4, 2) := by decide +kernel
theorem dL_law_158 : decode cL_law 158 = .ok (.iconst 4, 1) := by decide +kernel
theorem dL_law_159 : decode cL_law 159 = .ok (.iadd, 1) := by decide +kernel
theorem dL_law_160 : decode cL_law 160 = .ok (.iaload, 1) := by decide +kernel
theorem dL_law_161 : decode cL_law 161 = .ok (.aload_n 0, 1) := by decide +kernel
theorem dL_law_162 : decode cL_law 162 = .ok (.iload 4, 2) := by decide +kernel
theorem dL_law_164 : decode cL_law 164 = .ok (.iconst 5, 1) := by decide +kernel
theorem dL_law_165 : decode cL_law 165 = .ok (.iadd, 1) := by decide +kernel
theorem dL_law_166 : decode cL_law 166 = .ok (.iaload, 1) := by decide +kernel
theorem dL_law_167 : decode cL_law 167 = .ok (.aload_n 3, 1) := by decide +kernel
theorem dL_law_168 : decode cL_law 168 = .ok (.invokestatic 57, 3) := by decide +kernel
theorem dL_law_171 : decode cL_law 171 = .ok (.istore 5, 2) := by decide +kernel
theorem dL_law_173 : decode cL_law 173 = .ok (.aload_n 2, 1) := by decide +kernel
theorem dL_law_174 : decode cL_law 174 = .ok (.aload_n 0, 1) := by decide +kernel
theorem dL_law_175 : decode cL_law 175 = .ok (.iload 4, 2) := by decide +kernel
theorem dL_law_177 : decode cL_law 177 = .ok (.iconst 1, 1) := by decide +kernel
theorem dL_law_178 : decode cL_law 178 = .ok (.iadd, 1) := by decide +kernel
theorem dL_law_179 : decode cL_law 179 = .ok (.iaload, 1) := by decide +kernel
theorem dL_law_180 : decode cL_law 180 = .ok (.aload_n 0, 1) := by decide +kernel
theorem dL_law_181 : decode cL_law 181 = .ok (.iload 4, 2) := by decide +kernel
theorem dL_law_183 : decode cL_law 183 = .ok (.iconst 2, 1) := by decide +kernel
theorem dL_law_184 : decode cL_law 184 = .ok (.iadd, 1) := by decide +kernel
theorem dL_law_185 : decode cL_law 185 = .ok (.iaload, 1) := by decide +kernel
theorem dL_law_186 : decode cL_law 186 = .ok (.aload_n 0, 1) := by decide +kernel
theorem dL_law_187 : decode cL_law 187 = .ok (.iload 4, 2) := by decide +kernel
theorem dL_law_189 : decode cL_law 189 = .ok (.iconst 3, 1) := by decide +kernel
theorem dL_law_190 : decode cL_law 190 = .ok (.iadd, 1) := by decide +kernel
theorem dL_law_191 : decode cL_law 191 = .ok (.iaload, 1) := by decide +kernel
theorem dL_law_192 : decode cL_law 192 = .ok (.aload_n 0, 1) := by decide +kernel
theorem dL_law_193 : decode cL_law 193 = .ok (.iload 4, 2) := by decide +kernel
theorem dL_law_195 : decode cL_law 195 = .ok (.iconst 4, 1) := by decide +kernel
theorem dL_law_196 : decode cL_law 196 = .ok (.iadd, 1) := by decide +kernel
theorem dL_law_197 : decode cL_law 197 = .ok (.iaload, 1) := by decide +kernel
theorem dL_law_198 : decode cL_law 198 = .ok (.aload_n 0, 1) := by decide +kernel
theorem dL_law_199 : decode cL_law 199 = .ok (.iload 4, 2) := by decide +kernel
theorem dL_law_201 : decode cL_law 201 = .ok (.iconst 5, 1) := by decide +kernel
theorem dL_law_202 : decode cL_law 202 = .ok (.iadd, 1) := by decide +kernel
theorem dL_law_203 : decode cL_law 203 = .ok (.iaload, 1) := by decide +kernel
theorem dL_law_204 : decode cL_law 204 = .ok (.invokevirtual 60, 3) := by decide +kernel
theorem dL_law_207 : decode cL_law 207 = .ok (.istore 6, 2) := by decide +kernel
theorem dL_law_209 : decode cL_law 209 = .ok (.aload_n 2, 1) := by decide +kernel
theorem dL_law_210 : decode cL_law 210 = .ok (.invokevirtual 61, 3) := by decide +kernel
theorem dL_law_213 : decode cL_law 213 = .ok (.iload 5, 2) := by decide +kernel
theorem dL_law_215 : decode cL_law 215 = .ok (.if_icmp .eq 5, 3) := by decide +kernel
theorem dL_law_218 : decode cL_law 218 = .ok (.iconst 0, 1) := by decide +kernel
theorem dL_law_219 : decode cL_law 219 = .ok (.ireturn, 1) := by decide +kernel
theorem dL_law_220 : decode cL_law 220 = .ok (.iload 5, 2) := by decide +kernel
theorem dL_law_222 : decode cL_law 222 = .ok (.ifCond .ne 15, 3) := by decide +kernel
theorem dL_law_225 : decode cL_law 225 = .ok (.aload_n 3, 1) := by decide +kernel
theorem dL_law_226 : decode cL_law 226 = .ok (.iconst 0, 1) := by decide +kernel
theorem dL_law_227 : decode cL_law 227 = .ok (.laload, 1) := by decide +kernel
theorem dL_law_228 : decode cL_law 228 = .ok (.iload 6, 2) := by decide +kernel
theorem dL_law_230 : decode cL_law 230 = .ok (.i2l, 1) := by decide +kernel
theorem dL_law_231 : decode cL_law 231 = .ok (.lcmp, 1) := by decide +kernel
theorem dL_law_232 : decode cL_law 232 = .ok (.ifCond .eq 5, 3) := by decide +kernel
theorem dL_law_235 : decode cL_law 235 = .ok (.iconst 0, 1) := by decide +kernel
theorem dL_law_236 : decode cL_law 236 = .ok (.ireturn, 1) := by decide +kernel
theorem dL_law_237 : decode cL_law 237 = .ok (.goto 623, 3) := by decide +kernel
theorem dL_law_240 : decode cL_law 240 = .ok (.aload_n 1, 1) := by decide +kernel
theorem dL_law_241 : decode cL_law 241 = .ok (.aload_n 0, 1) := by decide +kernel
theorem dL_law_242 : decode cL_law 242 = .ok (.iload 4, 2) := by decide +kernel
theorem dL_law_244 : decode cL_law 244 = .ok (.iconst 1, 1) := by decide +kernel
theorem dL_law_245 : decode cL_law 245 = .ok (.iadd, 1) := by decide +kernel
theorem dL_law_246 : decode cL_law 246 = .ok (.iaload, 1) := by decide +kernel
theorem dL_law_247 : decode cL_law 247 = .ok (.aload_n 0, 1) := by decide +kernel
theorem dL_law_248 : decode cL_law 248 = .ok (.iload 4, 2) := by decide +kernel
theorem dL_law_250 : decode cL_law 250 = .ok (.iconst 2, 1) := by decide +kernel
theorem dL_law_251 : decode cL_law 251 = .ok (.iadd, 1) := by decide +kernel
theorem dL_law_252 : decode cL_law 252 = .ok (.iaload, 1) := by decide +kernel
theorem dL_law_253 : decode cL_law 253 = .ok (.invokevirtual 65, 3) := by decide +kernel
theorem dL_law_256 : decode cL_law 256 = .ok (.aload_n 2, 1) := by decide +kernel
theorem dL_law_257 : decode cL_law 257 = .ok (.aload_n 0, 1) := by decide +kernel
theorem dL_law_258 : decode cL_law 258 = .ok (.iload 4, 2) := by decide +kernel
theorem dL_law_260 : decode cL_law 260 = .ok (.iconst 1, 1) := by decide +kernel
theorem dL_law_261 : decode cL_law 261 = .ok (.iadd, 1) := by decide +kernel
theorem dL_law_262 : decode cL_law 262 = .ok (.iaload, 1) := by decide +kernel
theorem dL_law_263 : decode cL_law 263 = .ok (.aload_n 0, 1) := by decide +kernel
theorem dL_law_264 : decode cL_law 264 = .ok (.iload 4, 2) := by decide +kernel
theorem dL_law_266 : decode cL_law 266 = .ok (.iconst 2, 1) := by decide +kernel
theorem dL_law_267 : decode cL_law 267 = .ok (.iadd, 1) := by decide +kernel
theorem dL_law_268 : decode cL_law 268 = .ok (.iaload, 1) := by decide +kernel
theorem dL_law_269 : decode cL_law 269 = .ok (.invokevirtual 69, 3) := by decide +kernel
theorem dL_law_272 : decode cL_law 272 = .ok (.if_icmp .eq 588, 3) := by decide +kernel
theorem dL_law_275 : decode cL_law 275 = .ok (.iconst 0, 1) := by decide +kernel
theorem dL_law_276 : decode cL_law 276 = .ok (.ireturn, 1) := by decide +kernel
theorem dL_law_277 : decode cL_law 277 = .ok (.aload_n 1, 1) := by decide +kernel
theorem dL_law_278 : decode cL_law 278 = .ok (.aload_n 0, 1) := by decide +kernel
theorem dL_law_279 : decode cL_law 279 = .ok (.iload 4, 2) := by decide +kernel
theorem dL_law_281 : decode cL_law 281 = .ok (.iconst 1, 1) := by decide +kernel
theorem dL_law_282 : decode cL_law 282 = .ok (.iadd, 1) := by decide +kernel
theorem dL_law_283 : decode cL_law 283 = .ok (.iaload, 1) := by decide +kernel
theorem dL_law_284 : decode cL_law 284 = .ok (.aload_n 0, 1) := by decide +kernel
theorem dL_law_285 : decode cL_law 285 = .ok (.iload 4, 2) := by decide +kernel
theorem dL_law_287 : decode cL_law 287 = .ok (.iconst 2, 1) := by decide +kernel
theorem dL_law_288 : decode cL_law 288 = .ok (.iadd, 1) := by decide +kernel
theorem dL_law_289 : decode cL_law 289 = .ok (.iaload, 1) := by decide +kernel
theorem dL_law_290 : decode cL_law 290 = .ok (.invokevirtual 70, 3) := by decide +kernel
theorem dL_law_293 : decode cL_law 293 = .ok (.aload_n 2, 1) := by decide +kernel
theorem dL_law_294 : decode cL_law 294 = .ok (.aload_n 0, 1) := by decide +kernel
theorem dL_law_295 : decode cL_law 295 = .ok (.iload 4, 2) := by decide +kernel
theorem dL_law_297 : decode cL_law 297 = .ok (.iconst 1, 1) := by decide +kernel
theorem dL_law_298 : decode cL_law 298 = .ok (.iadd, 1) := by decide +kernel
theorem dL_law_299 : decode cL_law 299 = .ok (.iaload, 1) := by decide +kernel
theorem dL_law_300 : decode cL_law 300 = .ok (.aload_n 0, 1) := by decide +kernel
theorem dL_law_301 : decode cL_law 301 = .ok (.iload 4, 2) := by decide +kernel
theorem dL_law_303 : decode cL_law 303 = .ok (.iconst 2, 1) := by decide +kernel
theorem dL_law_304 : decode cL_law 304 = .ok (.iadd, 1) := by decide +kernel
theorem dL_law_305 : decode cL_law 305 = .ok (.iaload, 1) := by decide +kernel
theorem dL_law_306 : decode cL_law 306 = .ok (.invokevirtual 73, 3) := by decide +kernel
theorem dL_law_309 : decode cL_law 309 = .ok (.if_icmp .eq 551, 3) := by decide +kernel
theorem dL_law_312 : decode cL_law 312 = .ok (.iconst 0, 1) := by decide +kernel
theorem dL_law_313 : decode cL_law 313 = .ok (.ireturn, 1) := by decide +kernel
theorem dL_law_314 : decode cL_law 314 = .ok (.aload_n 1, 1) := by decide +kernel
theorem dL_law_315 : decode cL_law 315 = .ok (.aload_n 0, 1) := by decide +kernel
theorem dL_law_316 : decode cL_law 316 = .ok (.iload 4, 2) := by decide +kernel
theorem dL_law_318 : decode cL_law 318 = .ok (.iconst 1, 1) := by decide +kernel
theorem dL_law_319 : decode cL_law 319 = .ok (.iadd, 1) := by decide +kernel
theorem dL_law_320 : decode cL_law 320 = .ok (.iaload, 1) := by decide +kernel
theorem dL_law_321 : decode cL_law 321 = .ok (.aload_n 0, 1) := by decide +kernel
theorem dL_law_322 : decode cL_law 322 = .ok (.iload 4, 2) := by decide +kernel
theorem dL_law_324 : decode cL_law 324 = .ok (.iconst 2, 1) := by decide +kernel
theorem dL_law_325 : decode cL_law 325 = .ok (.iadd, 1) := by decide +kernel
theorem dL_law_326 : decode cL_law 326 = .ok (.iaload, 1) := by decide +kernel
theorem dL_law_327 : decode cL_law 327 = .ok (.aload_n 3, 1) := by decide +kernel
theorem dL_law_328 : decode cL_law 328 = .ok (.invokestatic 74, 3) := by decide +kernel
theorem dL_law_331 : decode cL_law 331 = .ok (.istore 5, 2) := by decide +kernel
theorem dL_law_333 : decode cL_law 333 = .ok (.aload_n 2, 1) := by decide +kernel
theorem dL_law_334 : decode cL_law 334 = .ok (.aload_n 0, 1) := by decide +kernel
theorem dL_law_335 : decode cL_law 335 = .ok (.iload 4, 2) := by decide +kernel
theorem dL_law_337 : decode cL_law 337 = .ok (.iconst 1, 1) := by decide +kernel
theorem dL_law_338 : decode cL_law 338 = .ok (.iadd, 1) := by decide +kernel
theorem dL_law_339 : decode cL_law 339 = .ok (.iaload, 1) := by decide +kernel
theorem dL_law_340 : decode cL_law 340 = .ok (.aload_n 0, 1) := by decide +kernel
theorem dL_law_341 : decode cL_law 341 = .ok (.iload 4, 2) := by decide +kernel
theorem dL_law_343 : decode cL_law 343 = .ok (.iconst 2, 1) := by decide +kernel
theorem dL_law_344 : decode cL_law 344 = .ok (.iadd, 1) := by decide +kernel
theorem dL_law_345 : decode cL_law 345 = .ok (.iaload, 1) := by decide +kernel
theorem dL_law_346 : decode cL_law 346 = .ok (.invokevirtual 77, 3) := by decide +kernel
theorem dL_law_349 : decode cL_law 349 = .ok (.istore 6, 2) := by decide +kernel
theorem dL_law_351 : decode cL_law 351 = .ok (.aload_n 2, 1) := by decide +kernel
theorem dL_law_352 : decode cL_law 352 = .ok (.invokevirtual 61, 3) := by decide +kernel
theorem dL_law_355 : decode cL_law 355 = .ok (.iload 5, 2) := by decide +kernel
theorem dL_law_357 : decode cL_law 357 = .ok (.if_icmp .eq 5, 3) := by decide +kernel
theorem dL_law_360 : decode cL_law 360 = .ok (.iconst 0, 1) := by decide +kernel
theorem dL_law_361 : decode cL_law 361 = .ok (.ireturn, 1) := by decide +kernel
theorem dL_law_362 : decode cL_law 362 = .ok (.iload 5, 2) := by decide +kernel
theorem dL_law_364 : decode cL_law 364 = .ok (.ifCond .ne 15, 3) := by decide +kernel
theorem dL_law_367 : decode cL_law 367 = .ok (.aload_n 3, 1) := by decide +kernel
theorem dL_law_368 : decode cL_law 368 = .ok (.iconst 0, 1) := by decide +kernel
theorem dL_law_369 : decode cL_law 369 = .ok (.laload, 1) := by decide +kernel
theorem dL_law_370 : decode cL_law 370 = .ok (.iload 6, 2) := by decide +kernel
theorem dL_law_372 : decode cL_law 372 = .ok (.i2l, 1) := by decide +kernel
theorem dL_law_373 : decode cL_law 373 = .ok (.lcmp, 1) := by decide +kernel
theorem dL_law_374 : decode cL_law 374 = .ok (.ifCond .eq 5, 3) := by decide +kernel
theorem dL_law_377 : decode cL_law 377 = .ok (.iconst 0, 1) := by decide +kernel
theorem dL_law_378 : decode cL_law 378 = .ok (.ireturn, 1) := by decide +kernel
theorem dL_law_379 : decode cL_law 379 = .ok (.goto 481, 3) := by decide +kernel
theorem dL_law_382 : decode cL_law 382 = .ok (.aload_n 1, 1) := by decide +kernel
theorem dL_law_383 : decode cL_law 383 = .ok (.aload_n 0, 1) := by decide +kernel
theorem dL_law_384 : decode cL_law 384 = .ok (.iload 4, 2) := by decide +kernel
theorem dL_law_386 : decode cL_law 386 = .ok (.iconst 1, 1) := by decide +kernel
theorem dL_law_387 : decode cL_law 387 = .ok (.iadd, 1) := by decide +kernel
theorem dL_law_388 : decode cL_law 388 = .ok (.iaload, 1) := by decide +kernel
theorem dL_law_389 : decode cL_law 389 = .ok (.aload_n 3, 1) := by decide +kernel
theorem dL_law_390 : decode cL_law 390 = .ok (.invokestatic 78, 3) := by decide +kernel
theorem dL_law_393 : decode cL_law 393 = .ok (.istore 5, 2) := by decide +kernel
theorem dL_law_395 : decode cL_law 395 = .ok (.aload_n 2, 1) := by decide +kernel
theorem dL_law_396 : decode cL_law 396 = .ok (.aload_n 0, 1) := by decide +kernel
theorem dL_law_397 : decode cL_law 397 = .ok (.iload 4, 2) := by decide +kernel
theorem dL_law_399 : decode cL_law 399 = .ok (.iconst 1, 1) := by decide +kernel
theorem dL_law_400 : decode cL_law 400 = .ok (.iadd, 1) := by decide +kernel
theorem dL_law_401 : decode cL_law 401 = .ok (.iaload, 1) := by decide +kernel
theorem dL_law_402 : decode cL_law 402 = .ok (.invokevirtual 81, 3) := by decide +kernel
theorem dL_law_405 : decode cL_law 405 = .ok (.istore 6, 2) := by decide +kernel
theorem dL_law_407 : decode cL_law 407 = .ok (.aload_n 2, 1) := by decide +kernel
theorem dL_law_408 : decode cL_law 408 = .ok (.invokevirtual 61, 3) := by decide +kernel
theorem dL_law_411 : decode cL_law 411 = .ok (.iload 5, 2) := by decide +kernel
theorem dL_law_413 : decode cL_law 413 = .ok (.if_icmp .eq 5, 3) := by decide +kernel
theorem dL_law_416 : decode cL_law 416 = .ok (.iconst 0, 1) := by decide +kernel
theorem dL_law_417 : decode cL_law 417 = .ok (.ireturn, 1) := by decide +kernel
theorem dL_law_418 : decode cL_law 418 = .ok (.iload 5, 2) := by decide +kernel
theorem dL_law_420 : decode cL_law 420 = .ok (.ifCond .ne 15, 3) := by decide +kernel
theorem dL_law_423 : decode cL_law 423 = .ok (.aload_n 3, 1) := by decide +kernel
theorem dL_law_424 : decode cL_law 424 = .ok (.iconst 0, 1) := by decide +kernel
theorem dL_law_425 : decode cL_law 425 = .ok (.laload, 1) := by decide +kernel
theorem dL_law_426 : decode cL_law 426 = .ok (.iload 6, 2) := by decide +kernel
theorem dL_law_428 : decode cL_law 428 = .ok (.i2l, 1) := by decide +kernel
theorem dL_law_429 : decode cL_law 429 = .ok (.lcmp, 1) := by decide +kernel
theorem dL_law_430 : decode cL_law 430 = .ok (.ifCond .eq 5, 3) := by decide +kernel
theorem dL_law_433 : decode cL_law 433 = .ok (.iconst 0, 1) := by decide +kernel
theorem dL_law_434 : decode cL_law 434 = .ok (.ireturn, 1) := by decide +kernel
theorem dL_law_435 : decode cL_law 435 = .ok (.goto 425, 3) := by decide +kernel
theorem dL_law_438 : decode cL_law 438 = .ok (.aload_n 1, 1) := by decide +kernel
theorem dL_law_439 : decode cL_law 439 = .ok (.aload_n 0, 1) := by decide +kernel
theorem dL_law_440 : decode cL_law 440 = .ok (.iload 4, 2) := by decide +kernel
theorem dL_law_442 : decode cL_law 442 = .ok (.iconst 1, 1) := by decide +kernel
theorem dL_law_443 : decode cL_law 443 = .ok (.iadd, 1) := by decide +kernel
theorem dL_law_444 : decode cL_law 444 = .ok (.iaload, 1) := by decide +kernel
theorem dL_law_445 : decode cL_law 445 = .ok (.aload_n 0, 1) := by decide +kernel
theorem dL_law_446 : decode cL_law 446 = .ok (.iload 4, 2) := by decide +kernel
theorem dL_law_448 : decode cL_law 448 = .ok (.iconst 2, 1) := by decide +kernel
theorem dL_law_449 : decode cL_law 449 = .ok (.iadd, 1) := by decide +kernel
theorem dL_law_450 : decode cL_law 450 = .ok (.iaload, 1) := by decide +kernel
theorem dL_law_451 : decode cL_law 451 = .ok (.aload_n 3, 1) := by decide +kernel
theorem dL_law_452 : decode cL_law 452 = .ok (.invokestatic 82, 3) := by decide +kernel
theorem dL_law_455 : decode cL_law 455 = .ok (.istore 5, 2) := by decide +kernel
theorem dL_law_457 : decode cL_law 457 = .ok (.aload_n 2, 1) := by decide +kernel
theorem dL_law_458 : decode cL_law 458 = .ok (.aload_n 0, 1) := by decide +kernel
theorem dL_law_459 : decode cL_law 459 = .ok (.iload 4, 2) := by decide +kernel
theorem dL_law_461 : decode cL_law 461 = .ok (.iconst 1, 1) := by decide +kernel
theorem dL_law_462 : decode cL_law 462 = .ok (.iadd, 1) := by decide +kernel
theorem dL_law_463 : decode cL_law 463 = .ok (.iaload, 1) := by decide +kernel
theorem dL_law_464 : decode cL_law 464 = .ok (.aload_n 0, 1) := by decide +kernel
theorem dL_law_465 : decode cL_law 465 = .ok (.iload 4, 2) := by decide +kernel
theorem dL_law_467 : decode cL_law 467 = .ok (.iconst 2, 1) := by decide +kernel
theorem dL_law_468 : decode cL_law 468 = .ok (.iadd, 1) := by decide +kernel
theorem dL_law_469 : decode cL_law 469 = .ok (.iaload, 1) := by decide +kernel
theorem dL_law_470 : decode cL_law 470 = .ok (.invokevirtual 84, 3) := by decide +kernel
theorem dL_law_473 : decode cL_law 473 = .ok (.istore 6, 2) := by decide +kernel
theorem dL_law_475 : decode cL_law 475 = .ok (.aload_n 2, 1) := by decide +kernel
theorem dL_law_476 : decode cL_law 476 = .ok (.invokevirtual 61, 3) := by decide +kernel
theorem dL_law_479 : decode cL_law 479 = .ok (.iload 5, 2) := by decide +kernel
theorem dL_law_481 : decode cL_law 481 = .ok (.if_icmp .eq 5, 3) := by decide +kernel
theorem dL_law_484 : decode cL_law 484 = .ok (.iconst 0, 1) := by decide +kernel
theorem dL_law_485 : decode cL_law 485 = .ok (.ireturn, 1) := by decide +kernel
theorem dL_law_486 : decode cL_law 486 = .ok (.iload 5, 2) := by decide +kernel
theorem dL_law_488 : decode cL_law 488 = .ok (.ifCond .ne 15, 3) := by decide +kernel
theorem dL_law_491 : decode cL_law 491 = .ok (.aload_n 3, 1) := by decide +kernel
theorem dL_law_492 : decode cL_law 492 = .ok (.iconst 0, 1) := by decide +kernel
theorem dL_law_493 : decode cL_law 493 = .ok (.laload, 1) := by decide +kernel
theorem dL_law_494 : decode cL_law 494 = .ok (.iload 6, 2) := by decide +kernel
theorem dL_law_496 : decode cL_law 496 = .ok (.i2l, 1) := by decide +kernel
theorem dL_law_497 : decode cL_law 497 = .ok (.lcmp, 1) := by decide +kernel
theorem dL_law_498 : decode cL_law 498 = .ok (.ifCond .eq 5, 3) := by decide +kernel
theorem dL_law_501 : decode cL_law 501 = .ok (.iconst 0, 1) := by decide +kernel
theorem dL_law_502 : decode cL_law 502 = .ok (.ireturn, 1) := by decide +kernel
theorem dL_law_503 : decode cL_law 503 = .ok (.goto 357, 3) := by decide +kernel
theorem dL_law_506 : decode cL_law 506 = .ok (.aload_n 1, 1) := by decide +kernel
theorem dL_law_507 : decode cL_law 507 = .ok (.aload_n 0, 1) := by decide +kernel
theorem dL_law_508 : decode cL_law 508 = .ok (.iload 4, 2) := by decide +kernel
theorem dL_law_510 : decode cL_law 510 = .ok (.iconst 1, 1) := by decide +kernel
theorem dL_law_511 : decode cL_law 511 = .ok (.iadd, 1) := by decide +kernel
theorem dL_law_512 : decode cL_law 512 = .ok (.iaload, 1) := by decide +kernel
theorem dL_law_513 : decode cL_law 513 = .ok (.aload_n 3, 1) := by decide +kernel
theorem dL_law_514 : decode cL_law 514 = .ok (.invokestatic 85, 3) := by decide +kernel
theorem dL_law_517 : decode cL_law 517 = .ok (.istore 5, 2) := by decide +kernel
theorem dL_law_519 : decode cL_law 519 = .ok (.aload_n 2, 1) := by decide +kernel
theorem dL_law_520 : decode cL_law 520 = .ok (.aload_n 0, 1) := by decide +kernel
theorem dL_law_521 : decode cL_law 521 = .ok (.iload 4, 2) := by decide +kernel
theorem dL_law_523 : decode cL_law 523 = .ok (.iconst 1, 1) := by decide +kernel
theorem dL_law_524 : decode cL_law 524 = .ok (.iadd, 1) := by decide +kernel
theorem dL_law_525 : decode cL_law 525 = .ok (.iaload, 1) := by decide +kernel
theorem dL_law_526 : decode cL_law 526 = .ok (.invokevirtual 87, 3) := by decide +kernel
theorem dL_law_529 : decode cL_law 529 = .ok (.istore 6, 2) := by decide +kernel
theorem dL_law_531 : decode cL_law 531 = .ok (.aload_n 2, 1) := by decide +kernel
theorem dL_law_532 : decode cL_law 532 = .ok (.invokevirtual 61, 3) := by decide +kernel
theorem dL_law_535 : decode cL_law 535 = .ok (.iload 5, 2) := by decide +kernel
theorem dL_law_537 : decode cL_law 537 = .ok (.if_icmp .eq 5, 3) := by decide +kernel
theorem dL_law_540 : decode cL_law 540 = .ok (.iconst 0, 1) := by decide +kernel
theorem dL_law_541 : decode cL_law 541 = .ok (.ireturn, 1) := by decide +kernel
theorem dL_law_542 : decode cL_law 542 = .ok (.iload 5, 2) := by decide +kernel
theorem dL_law_544 : decode cL_law 544 = .ok (.ifCond .ne 15, 3) := by decide +kernel
theorem dL_law_547 : decode cL_law 547 = .ok (.aload_n 3, 1) := by decide +kernel
theorem dL_law_548 : decode cL_law 548 = .ok (.iconst 0, 1) := by decide +kernel
theorem dL_law_549 : decode cL_law 549 = .ok (.laload, 1) := by decide +kernel
theorem dL_law_550 : decode cL_law 550 = .ok (.iload 6, 2) := by decide +kernel
theorem dL_law_552 : decode cL_law 552 = .ok (.i2l, 1) := by decide +kernel
theorem dL_law_553 : decode cL_law 553 = .ok (.lcmp, 1) := by decide +kernel
theorem dL_law_554 : decode cL_law 554 = .ok (.ifCond .eq 5, 3) := by decide +kernel
theorem dL_law_557 : decode cL_law 557 = .ok (.iconst 0, 1) := by decide +kernel
theorem dL_law_558 : decode cL_law 558 = .ok (.ireturn, 1) := by decide +kernel
theorem dL_law_559 : decode cL_law 559 = .ok (.goto 301, 3) := by decide +kernel
theorem dL_law_562 : decode cL_law 562 = .ok (.aload_n 1, 1) := by decide +kernel
theorem dL_law_563 : decode cL_law 563 = .ok (.aload_n 0, 1) := by decide +kernel
theorem dL_law_564 : decode cL_law 564 = .ok (.iload 4, 2) := by decide +kernel
theorem dL_law_566 : decode cL_law 566 = .ok (.iconst 1, 1) := by decide +kernel
theorem dL_law_567 : decode cL_law 567 = .ok (.iadd, 1) := by decide +kernel
theorem dL_law_568 : decode cL_law 568 = .ok (.iaload, 1) := by decide +kernel
theorem dL_law_569 : decode cL_law 569 = .ok (.aload_n 0, 1) := by decide +kernel
theorem dL_law_570 : decode cL_law 570 = .ok (.iload 4, 2) := by decide +kernel
theorem dL_law_572 : decode cL_law 572 = .ok (.iconst 2, 1) := by decide +kernel
theorem dL_law_573 : decode cL_law 573 = .ok (.iadd, 1) := by decide +kernel
theorem dL_law_574 : decode cL_law 574 = .ok (.iaload, 1) := by decide +kernel
theorem dL_law_575 : decode cL_law 575 = .ok (.aload_n 3, 1) := by decide +kernel
theorem dL_law_576 : decode cL_law 576 = .ok (.invokestatic 88, 3) := by decide +kernel
theorem dL_law_579 : decode cL_law 579 = .ok (.istore 5, 2) := by decide +kernel
theorem dL_law_581 : decode cL_law 581 = .ok (.aload_n 2, 1) := by decide +kernel
theorem dL_law_582 : decode cL_law 582 = .ok (.aload_n 0, 1) := by decide +kernel
theorem dL_law_583 : decode cL_law 583 = .ok (.iload 4, 2) := by decide +kernel
theorem dL_law_585 : decode cL_law 585 = .ok (.iconst 1, 1) := by decide +kernel
theorem dL_law_586 : decode cL_law 586 = .ok (.iadd, 1) := by decide +kernel
theorem dL_law_587 : decode cL_law 587 = .ok (.iaload, 1) := by decide +kernel
theorem dL_law_588 : decode cL_law 588 = .ok (.aload_n 0, 1) := by decide +kernel
theorem dL_law_589 : decode cL_law 589 = .ok (.iload 4, 2) := by decide +kernel
theorem dL_law_591 : decode cL_law 591 = .ok (.iconst 2, 1) := by decide +kernel
theorem dL_law_592 : decode cL_law 592 = .ok (.iadd, 1) := by decide +kernel
theorem dL_law_593 : decode cL_law 593 = .ok (.iaload, 1) := by decide +kernel
theorem dL_law_594 : decode cL_law 594 = .ok (.invokevirtual 90, 3) := by decide +kernel
theorem dL_law_597 : decode cL_law 597 = .ok (.istore 6, 2) := by decide +kernel
theorem dL_law_599 : decode cL_law 599 = .ok (.aload_n 2, 1) := by decide +kernel
theorem dL_law_600 : decode cL_law 600 = .ok (.invokevirtual 61, 3) := by decide +kernel
theorem dL_law_603 : decode cL_law 603 = .ok (.iload 5, 2) := by decide +kernel
theorem dL_law_605 : decode cL_law 605 = .ok (.if_icmp .eq 5, 3) := by decide +kernel
theorem dL_law_608 : decode cL_law 608 = .ok (.iconst 0, 1) := by decide +kernel
theorem dL_law_609 : decode cL_law 609 = .ok (.ireturn, 1) := by decide +kernel
theorem dL_law_610 : decode cL_law 610 = .ok (.iload 5, 2) := by decide +kernel
theorem dL_law_612 : decode cL_law 612 = .ok (.ifCond .ne 15, 3) := by decide +kernel
theorem dL_law_615 : decode cL_law 615 = .ok (.aload_n 3, 1) := by decide +kernel
theorem dL_law_616 : decode cL_law 616 = .ok (.iconst 0, 1) := by decide +kernel
theorem dL_law_617 : decode cL_law 617 = .ok (.laload, 1) := by decide +kernel
theorem dL_law_618 : decode cL_law 618 = .ok (.iload 6, 2) := by decide +kernel
theorem dL_law_620 : decode cL_law 620 = .ok (.i2l, 1) := by decide +kernel
theorem dL_law_621 : decode cL_law 621 = .ok (.lcmp, 1) := by decide +kernel
theorem dL_law_622 : decode cL_law 622 = .ok (.ifCond .eq 5, 3) := by decide +kernel
theorem dL_law_625 : decode cL_law 625 = .ok (.iconst 0, 1) := by decide +kernel
theorem dL_law_626 : decode cL_law 626 = .ok (.ireturn, 1) := by decide +kernel
theorem dL_law_627 : decode cL_law 627 = .ok (.goto 233, 3) := by decide +kernel
theorem dL_law_630 : decode cL_law 630 = .ok (.aload_n 1, 1) := by decide +kernel
theorem dL_law_631 : decode cL_law 631 = .ok (.aload_n 0, 1) := by decide +kernel
theorem dL_law_632 : decode cL_law 632 = .ok (.iload 4, 2) := by decide +kernel
theorem dL_law_634 : decode cL_law 634 = .ok (.iconst 1, 1) := by decide +kernel
theorem dL_law_635 : decode cL_law 635 = .ok (.iadd, 1) := by decide +kernel
theorem dL_law_636 : decode cL_law 636 = .ok (.iaload, 1) := by decide +kernel
theorem dL_law_637 : decode cL_law 637 = .ok (.aload_n 3, 1) := by decide +kernel
theorem dL_law_638 : decode cL_law 638 = .ok (.invokestatic 91, 3) := by decide +kernel
theorem dL_law_641 : decode cL_law 641 = .ok (.istore 5, 2) := by decide +kernel
theorem dL_law_643 : decode cL_law 643 = .ok (.aload_n 2, 1) := by decide +kernel
theorem dL_law_644 : decode cL_law 644 = .ok (.aload_n 0, 1) := by decide +kernel
theorem dL_law_645 : decode cL_law 645 = .ok (.iload 4, 2) := by decide +kernel
theorem dL_law_647 : decode cL_law 647 = .ok (.iconst 1, 1) := by decide +kernel
theorem dL_law_648 : decode cL_law 648 = .ok (.iadd, 1) := by decide +kernel
theorem dL_law_649 : decode cL_law 649 = .ok (.iaload, 1) := by decide +kernel
theorem dL_law_650 : decode cL_law 650 = .ok (.invokevirtual 93, 3) := by decide +kernel
theorem dL_law_653 : decode cL_law 653 = .ok (.istore 6, 2) := by decide +kernel
theorem dL_law_655 : decode cL_law 655 = .ok (.aload_n 2, 1) := by decide +kernel
theorem dL_law_656 : decode cL_law 656 = .ok (.invokevirtual 61, 3) := by decide +kernel
theorem dL_law_659 : decode cL_law 659 = .ok (.iload 5, 2) := by decide +kernel
theorem dL_law_661 : decode cL_law 661 = .ok (.if_icmp .eq 5, 3) := by decide +kernel
theorem dL_law_664 : decode cL_law 664 = .ok (.iconst 0, 1) := by decide +kernel
theorem dL_law_665 : decode cL_law 665 = .ok (.ireturn, 1) := by decide +kernel
theorem dL_law_666 : decode cL_law 666 = .ok (.iload 5, 2) := by decide +kernel
theorem dL_law_668 : decode cL_law 668 = .ok (.ifCond .ne 15, 3) := by decide +kernel
theorem dL_law_671 : decode cL_law 671 = .ok (.aload_n 3, 1) := by decide +kernel
theorem dL_law_672 : decode cL_law 672 = .ok (.iconst 0, 1) := by decide +kernel
theorem dL_law_673 : decode cL_law 673 = .ok (.laload, 1) := by decide +kernel
theorem dL_law_674 : decode cL_law 674 = .ok (.iload 6, 2) := by decide +kernel
theorem dL_law_676 : decode cL_law 676 = .ok (.i2l, 1) := by decide +kernel
theorem dL_law_677 : decode cL_law 677 = .ok (.lcmp, 1) := by decide +kernel
theorem dL_law_678 : decode cL_law 678 = .ok (.ifCond .eq 5, 3) := by decide +kernel
theorem dL_law_681 : decode cL_law 681 = .ok (.iconst 0, 1) := by decide +kernel
theorem dL_law_682 : decode cL_law 682 = .ok (.ireturn, 1) := by decide +kernel
theorem dL_law_683 : decode cL_law 683 = .ok (.goto 177, 3) := by decide +kernel
theorem dL_law_686 : decode cL_law 686 = .ok (.aload_n 1, 1) := by decide +kernel
theorem dL_law_687 : decode cL_law 687 = .ok (.invokevirtual 94, 3) := by decide +kernel
theorem dL_law_690 : decode cL_law 690 = .ok (.aload_n 2, 1) := by decide +kernel
theorem dL_law_691 : decode cL_law 691 = .ok (.invokevirtual 97, 3) := by decide +kernel
theorem dL_law_694 : decode cL_law 694 = .ok (.if_icmp .eq 166, 3) := by decide +kernel
theorem dL_law_697 : decode cL_law 697 = .ok (.iconst 0, 1) := by decide +kernel
theorem dL_law_698 : decode cL_law 698 = .ok (.ireturn, 1) := by decide +kernel
theorem dL_law_699 : decode cL_law 699 = .ok (.aload_n 1, 1) := by decide +kernel
theorem dL_law_700 : decode cL_law 700 = .ok (.aload_n 0, 1) := by decide +kernel
theorem dL_law_701 : decode cL_law 701 = .ok (.iload 4, 2) := by decide +kernel
theorem dL_law_703 : decode cL_law 703 = .ok (.iconst 1, 1) := by decide +kernel
theorem dL_law_704 : decode cL_law 704 = .ok (.iadd, 1) := by decide +kernel
theorem dL_law_705 : decode cL_law 705 = .ok (.iaload, 1) := by decide +kernel
theorem dL_law_706 : decode cL_law 706 = .ok (.aload_n 0, 1) := by decide +kernel
theorem dL_law_707 : decode cL_law 707 = .ok (.iload 4, 2) := by decide +kernel
theorem dL_law_709 : decode cL_law 709 = .ok (.iconst 2, 1) := by decide +kernel
theorem dL_law_710 : decode cL_law 710 = .ok (.iadd, 1) := by decide +kernel
theorem dL_law_711 : decode cL_law 711 = .ok (.iaload, 1) := by decide +kernel
theorem dL_law_712 : decode cL_law 712 = .ok (.aload_n 3, 1) := by decide +kernel
theorem dL_law_713 : decode cL_law 713 = .ok (.invokestatic 98, 3) := by decide +kernel
theorem dL_law_716 : decode cL_law 716 = .ok (.istore 5, 2) := by decide +kernel
theorem dL_law_718 : decode cL_law 718 = .ok (.aload_n 2, 1) := by decide +kernel
theorem dL_law_719 : decode cL_law 719 = .ok (.aload_n 0, 1) := by decide +kernel
theorem dL_law_720 : decode cL_law 720 = .ok (.iload 4, 2) := by decide +kernel
theorem dL_law_722 : decode cL_law 722 = .ok (.iconst 1, 1) := by decide +kernel
theorem dL_law_723 : decode cL_law 723 = .ok (.iadd, 1) := by decide +kernel
theorem dL_law_724 : decode cL_law 724 = .ok (.iaload, 1) := by decide +kernel
theorem dL_law_725 : decode cL_law 725 = .ok (.aload_n 0, 1) := by decide +kernel
theorem dL_law_726 : decode cL_law 726 = .ok (.iload 4, 2) := by decide +kernel
theorem dL_law_728 : decode cL_law 728 = .ok (.iconst 2, 1) := by decide +kernel
theorem dL_law_729 : decode cL_law 729 = .ok (.iadd, 1) := by decide +kernel
theorem dL_law_730 : decode cL_law 730 = .ok (.iaload, 1) := by decide +kernel
theorem dL_law_731 : decode cL_law 731 = .ok (.invokevirtual 100, 3) := by decide +kernel
theorem dL_law_734 : decode cL_law 734 = .ok (.istore 6, 2) := by decide +kernel
theorem dL_law_736 : decode cL_law 736 = .ok (.aload_n 2, 1) := by decide +kernel
theorem dL_law_737 : decode cL_law 737 = .ok (.invokevirtual 61, 3) := by decide +kernel
theorem dL_law_740 : decode cL_law 740 = .ok (.iload 5, 2) := by decide +kernel
theorem dL_law_742 : decode cL_law 742 = .ok (.if_icmp .eq 5, 3) := by decide +kernel
theorem dL_law_745 : decode cL_law 745 = .ok (.iconst 0, 1) := by decide +kernel
theorem dL_law_746 : decode cL_law 746 = .ok (.ireturn, 1) := by decide +kernel
theorem dL_law_747 : decode cL_law 747 = .ok (.iload 5, 2) := by decide +kernel
theorem dL_law_749 : decode cL_law 749 = .ok (.ifCond .ne 15, 3) := by decide +kernel
theorem dL_law_752 : decode cL_law 752 = .ok (.aload_n 3, 1) := by decide +kernel
theorem dL_law_753 : decode cL_law 753 = .ok (.iconst 0, 1) := by decide +kernel
theorem dL_law_754 : decode cL_law 754 = .ok (.laload, 1) := by decide +kernel
theorem dL_law_755 : decode cL_law 755 = .ok (.iload 6, 2) := by decide +kernel
theorem dL_law_757 : decode cL_law 757 = .ok (.i2l, 1) := by decide +kernel
theorem dL_law_758 : decode cL_law 758 = .ok (.lcmp, 1) := by decide +kernel
theorem dL_law_759 : decode cL_law 759 = .ok (.ifCond .eq 5, 3) := by decide +kernel
theorem dL_law_762 : decode cL_law 762 = .ok (.iconst 0, 1) := by decide +kernel
theorem dL_law_763 : decode cL_law 763 = .ok (.ireturn, 1) := by decide +kernel
theorem dL_law_764 : decode cL_law 764 = .ok (.goto 96, 3) := by decide +kernel
theorem dL_law_767 : decode cL_law 767 = .ok (.aload_n 1, 1) := by decide +kernel
theorem dL_law_768 : decode cL_law 768 = .ok (.aload_n 0, 1) := by decide +kernel
theorem dL_law_769 : decode cL_law 769 = .ok (.iload 4, 2) := by decide +kernel
theorem dL_law_771 : decode cL_law 771 = .ok (.iconst 1, 1) := by decide +kernel
theorem dL_law_772 : decode cL_law 772 = .ok (.iadd, 1) := by decide +kernel
theorem dL_law_773 : decode cL_law 773 = .ok (.iaload, 1) := by decide +kernel
theorem dL_law_774 : decode cL_law 774 = .ok (.aload_n 0, 1) := by decide +kernel
theorem dL_law_775 : decode cL_law 775 = .ok (.iload 4, 2) := by decide +kernel
theorem dL_law_777 : decode cL_law 777 = .ok (.iconst 2, 1) := by decide +kernel
theorem dL_law_778 : decode cL_law 778 = .ok (.iadd, 1) := by decide +kernel
theorem dL_law_779 : decode cL_law 779 = .ok (.iaload, 1) := by decide +kernel
theorem dL_law_780 : decode cL_law 780 = .ok (.aload_n 3, 1) := by decide +kernel
theorem dL_law_781 : decode cL_law 781 = .ok (.invokestatic 101, 3) := by decide +kernel
theorem dL_law_784 : decode cL_law 784 = .ok (.istore 5, 2) := by decide +kernel
theorem dL_law_786 : decode cL_law 786 = .ok (.aload_n 2, 1) := by decide +kernel
theorem dL_law_787 : decode cL_law 787 = .ok (.aload_n 0, 1) := by decide +kernel
theorem dL_law_788 : decode cL_law 788 = .ok (.iload 4, 2) := by decide +kernel
theorem dL_law_790 : decode cL_law 790 = .ok (.iconst 1, 1) := by decide +kernel
theorem dL_law_791 : decode cL_law 791 = .ok (.iadd, 1) := by decide +kernel
theorem dL_law_792 : decode cL_law 792 = .ok (.iaload, 1) := by decide +kernel
theorem dL_law_793 : decode cL_law 793 = .ok (.aload_n 0, 1) := by decide +kernel
theorem dL_law_794 : decode cL_law 794 = .ok (.iload 4, 2) := by decide +kernel
theorem dL_law_796 : decode cL_law 796 = .ok (.iconst 2, 1) := by decide +kernel
theorem dL_law_797 : decode cL_law 797 = .ok (.iadd, 1) := by decide +kernel
theorem dL_law_798 : decode cL_law 798 = .ok (.iaload, 1) := by decide +kernel
theorem dL_law_799 : decode cL_law 799 = .ok (.invokevirtual 103, 3) := by decide +kernel
theorem dL_law_802 : decode cL_law 802 = .ok (.istore 6, 2) := by decide +kernel
theorem dL_law_804 : decode cL_law 804 = .ok (.aload_n 2, 1) := by decide +kernel
theorem dL_law_805 : decode cL_law 805 = .ok (.invokevirtual 61, 3) := by decide +kernel
theorem dL_law_808 : decode cL_law 808 = .ok (.iload 5, 2) := by decide +kernel
theorem dL_law_810 : decode cL_law 810 = .ok (.if_icmp .eq 5, 3) := by decide +kernel
theorem dL_law_813 : decode cL_law 813 = .ok (.iconst 0, 1) := by decide +kernel
theorem dL_law_814 : decode cL_law 814 = .ok (.ireturn, 1) := by decide +kernel
theorem dL_law_815 : decode cL_law 815 = .ok (.iload 5, 2) := by decide +kernel
theorem dL_law_817 : decode cL_law 817 = .ok (.ifCond .ne 15, 3) := by decide +kernel
theorem dL_law_820 : decode cL_law 820 = .ok (.aload_n 3, 1) := by decide +kernel
theorem dL_law_821 : decode cL_law 821 = .ok (.iconst 0, 1) := by decide +kernel
theorem dL_law_822 : decode cL_law 822 = .ok (.laload, 1) := by decide +kernel
theorem dL_law_823 : decode cL_law 823 = .ok (.iload 6, 2) := by decide +kernel
theorem dL_law_825 : decode cL_law 825 = .ok (.i2l, 1) := by decide +kernel
theorem dL_law_826 : decode cL_law 826 = .ok (.lcmp, 1) := by decide +kernel
theorem dL_law_827 : decode cL_law 827 = .ok (.ifCond .eq 5, 3) := by decide +kernel
theorem dL_law_830 : decode cL_law 830 = .ok (.iconst 0, 1) := by decide +kernel
theorem dL_law_831 : decode cL_law 831 = .ok (.ireturn, 1) := by decide +kernel
theorem dL_law_832 : decode cL_law 832 = .ok (.goto 28, 3) := by decide +kernel
theorem dL_law_835 : decode cL_law 835 = .ok (.aload_n 1, 1) := by decide +kernel
theorem dL_law_836 : decode cL_law 836 = .ok (.aload_n 0, 1) := by decide +kernel
theorem dL_law_837 : decode cL_law 837 = .ok (.iload 4, 2) := by decide +kernel
theorem dL_law_839 : decode cL_law 839 = .ok (.iconst 1, 1) := by decide +kernel
theorem dL_law_840 : decode cL_law 840 = .ok (.iadd, 1) := by decide +kernel
theorem dL_law_841 : decode cL_law 841 = .ok (.iaload, 1) := by decide +kernel
theorem dL_law_842 : decode cL_law 842 = .ok (.invokevirtual 104, 3) := by decide +kernel
theorem dL_law_845 : decode cL_law 845 = .ok (.aload_n 2, 1) := by decide +kernel
theorem dL_law_846 : decode cL_law 846 = .ok (.aload_n 0, 1) := by decide +kernel
theorem dL_law_847 : decode cL_law 847 = .ok (.iload 4, 2) := by decide +kernel
theorem dL_law_849 : decode cL_law 849 = .ok (.iconst 1, 1) := by decide +kernel
theorem dL_law_850 : decode cL_law 850 = .ok (.iadd, 1) := by decide +kernel
theorem dL_law_851 : decode cL_law 851 = .ok (.iaload, 1) := by decide +kernel
theorem dL_law_852 : decode cL_law 852 = .ok (.invokevirtual 107, 3) := by decide +kernel
theorem dL_law_855 : decode cL_law 855 = .ok (.if_icmp .eq 5, 3) := by decide +kernel
theorem dL_law_858 : decode cL_law 858 = .ok (.iconst 0, 1) := by decide +kernel
theorem dL_law_859 : decode cL_law 859 = .ok (.ireturn, 1) := by decide +kernel
theorem dL_law_860 : decode cL_law 860 = .ok (.iinc 4 6, 3) := by decide +kernel
theorem dL_law_863 : decode cL_law 863 = .ok (.goto (-810), 3) := by decide +kernel
theorem dL_law_866 : decode cL_law 866 = .ok (.iconst 1, 1) := by decide +kernel
theorem dL_law_867 : decode cL_law 867 = .ok (.ireturn, 1) := by decide +kernel
end
section
/-- the locals by their places: what is listed is held, and is of one word -/
def gx_L (ls : Array Slot) (nL : Nat) (lv : List (Option Value)) : Prop := ls.size = nL ∧ lv_wf ls ∧ ∀ (i : Nat) (v : Value), lv[i]? = some (some v) → ls[i]? = some (.val v) ∧ v.category = 1
def gx_prs (lv : List (Option Value)) : List (Nat × Value) := (List.range lv.length).filterMap (fun i => (lv[i]?.join).map (fun v => (i, v)))
theorem gx_prs_mem {lv : List (Option Value)} {i : Nat} {v : Value} (h : lv[i]? = some (some v)) : (i, v) ∈ gx_prs lv := by
  refine List.mem_filterMap.mpr ⟨i, List.mem_range.mpr (List.getElem?_eq_some_iff.mp h).1, ?_⟩
  rw [h]; rfl
theorem gx_prs_of {lv : List (Option Value)} {q : Nat × Value} (h : q ∈ gx_prs lv) : lv[q.1]? = some (some q.2) := by
  obtain ⟨i, -, hi⟩ := List.mem_filterMap.mp h
  cases hx : lv[i]? with
  | none => rw [hx] at hi; cases hi
  | some x =>
    cases x with
    | none => rw [hx] at hi; cases hi
    | some w => rw [hx] at hi; cases hi; exact hx
theorem gx_L.has {ls : Array Slot} {nL : Nat} {lv : List (Option Value)} (h : gx_L ls nL lv) : lv_has ls nL (gx_prs lv) := ⟨h.1, h.2.1, fun q hq => (h.2.2 q.1 q.2 (gx_prs_of hq)).1⟩
theorem gx_L.got {ls : Array Slot} {nL : Nat} {lv : List (Option Value)} (h : gx_L ls nL lv) {i : Nat} {v : Value} (hv : lv[i]? = some (some v)) : ls[i]? = some (.val v) := (h.2.2 i v hv).1
theorem gx_L.set {ls ls' : Array Slot} {nL : Nat} {lv : List (Option Value)} {i : Nat} {v : Value} (h : gx_L ls nL lv) (hc : v.category = 1) (h' : lv_has ls' nL ((i, v) :: (gx_prs lv).filter (fun q => !(q.1 == i) && !(q.1 + 1 == i && q.2.category == 2)))) : gx_L ls' nL (lv.set i (some v)) := by
  refine ⟨h'.1, h'.2.1, fun j w hj => ?_⟩
  by_cases e : i = j
  · subst e
    rw [List.getElem?_set] at hj
    simp only [if_true] at hj
    split at hj
    · cases hj
      exact ⟨h'.2.2 (i, v) List.mem_cons_self, hc⟩
    · cases hj
  · rw [List.getElem?_set_ne e] at hj
    have hw := (h.2.2 j w hj).2
    refine ⟨h'.2.2 (j, w) (List.mem_cons_of_mem _ (List.mem_filter.mpr ⟨gx_prs_mem hj, ?_⟩)), hw⟩
    have e2 : ¬ j = i := fun q => e q.symm
    simp [e2, hw]
theorem gx_L.sub {ls : Array Slot} {nL : Nat} {lv lv' : List (Option Value)} (h : gx_L ls nL lv) (hs : ∀ (i : Nat) (v : Value), lv'[i]? = some (some v) → lv[i]? = some (some v)) : gx_L ls nL lv' := ⟨h.1, h.2.1, fun i v hv => h.2.2 i v (hs i v hv)⟩
theorem gx_args_mem : ∀ (vs : List Value) (k : Nat), (∀ v ∈ vs, v.category = 1) → ∀ (i : Nat) (v : Value), vs[i]? = some v → (k + i, v) ∈ lv_args k vs
  | [], _, _, i, v, h => by simp at h
  | a :: vs, k, hc, i, v, h => by
    have ha : ¬ a.category = 2 := by rw [hc a List.mem_cons_self]; decide
    cases i with
    | zero => cases h; simp [lv_args]
    | succ i =>
      have := gx_args_mem vs (k + 1) (fun w hw => hc w (List.mem_cons_of_mem _ hw)) i v (by simpa using h)
      simp only [lv_args, ha, if_false]
      refine List.mem_cons_of_mem _ ?_
      rw [show k + (i + 1) = k + 1 + i by omega]
      exact this
theorem gx_L.entry (vs : List Value) {n : Nat} (hc : ∀ v ∈ vs, v.category = 1) (h : (lg_sl vs).length ≤ n) : gx_L ((lg_sl vs ++ List.replicate (n - (lg_sl vs).length) Slot.unset).toArray) n (vs.map some) := by
  have h0 := lv_entry vs h
  refine ⟨h0.1, h0.2.1, fun i v hv => ?_⟩
  rw [List.getElem?_map] at hv
  cases hx : vs[i]? with
  | none => rw [hx] at hv; cases hv
  | some w =>
    rw [hx] at hv
    cases hv
    have := gx_args_mem vs 0 hc i v hx
    rw [Nat.zero_add] at this
    exact ⟨h0.2.2 _ this, hc v (List.mem_of_getElem? hx)⟩
/-- the addresses of a world -/
def gx_in (ws : va_W) : Nat → Prop := fun q => ∃ (k : Nat) (e : va_E), ws[k]? = some (q, e)
theorem gx_D_self {A : Nat → Prop} {ws : va_W} (h : va_D A ws) : va_D (gx_in ws) ws := ⟨h.1, fun k q hk => ⟨k, q.2, hk⟩⟩
theorem gx_fst {ws ws' : va_W} (h : ws'.map (·.1) = ws.map (·.1)) {k : Nat} {q : Nat × va_E} (hk : ws'[k]? = some q) : ∃ e, ws[k]? = some (q.1, e) := by
  have h1 : (ws'.map (·.1))[k]? = some q.1 := by rw [List.getElem?_map, hk]; rfl
  rw [h, List.getElem?_map] at h1
  cases hx : ws[k]? with
  | none => rw [hx] at h1; cases h1
  | some x =>
    rw [hx] at h1
    have h2 : x.1 = q.1 := Option.some.inj h1
    exact ⟨x.2, by rw [← h2]⟩
theorem gx_D_same {A : Nat → Prop} {ws ws' : va_W} (h : ws'.map (·.1) = ws.map (·.1)) (hD : va_D A ws) : va_D A ws' := by
  refine ⟨fun i j x y hi hj hxy => ?_, fun k q hk => ?_⟩
  · obtain ⟨e1, h1⟩ := gx_fst h hi
    obtain ⟨e2, h2⟩ := gx_fst h hj
    exact hD.1 i j _ _ h1 h2 hxy
  · obtain ⟨e1, h1⟩ := gx_fst h hk
    exact hD.2 k (q.1, e1) h1
theorem gx_in_same {ws ws' : va_W} (h : ws'.map (·.1) = ws.map (·.1)) {q : Nat} (hq : gx_in ws' q) : gx_in ws q := by
  obtain ⟨k, e, hk⟩ := hq
  obtain ⟨e1, h1⟩ := gx_fst h hk
  exact ⟨k, e1, h1⟩
section GX
variable {p : Program} {l : Launch} {e : Env} {R : Room} {s : State} {m : MethodId} {args : Array Value} {below : List Frame} {meth : Method} {c : Code} {D : va_G} {cl : List vw_C} {tys : List (ClassId × FieldType)} {A : Nat → Prop} {cc : ByteArray} {nL cells slots : Nat} {Q : State → Prop} {Ts : List Cond} {own : String} {ws : va_W} {pc : Nat} {lv : List (Option Value)} {st : List Value}
/-- the machine at pc, whatever the heap is, so long as it holds the world ws, and the locals are lv -/
def gx_G (p : Program) (l : Launch) (e : Env) (R : Room) (s : State) (m : MethodId) (args : Array Value) (below : List Frame) (meth : Method) (c : Code) (D : va_G) (cl : List vw_C) (A : Nat → Prop) (nL cells slots : Nat) (Q : State → Prop) (ws : va_W) (pc : Nat) (lv : List (Option Value)) (st : List Value) : Prop :=
  ∀ (H : Heap) (locs : List Loc) (ls : Array Slot), va_P D cl ws H → va_D A ws → va_S A s.heap H locs → gx_L ls nL lv → W p l e R s m args below meth c H locs cells slots Q (F0 m pc ls st)
theorem gx_iconst {n : Int} {v : Int32} (C : CallFix p m c cc nL s args Ts own) (hd : decode cc pc = .ok (.iconst n, 1)) (hv : Int32.ofInt n = v) (k : gx_G p l e R s m args below meth c D cl A nL cells slots Q ws (pc + 1) lv (.int v :: st)) : gx_G p l e R s m args below meth c D cl A nL cells slots Q ws pc lv st := fun H locs ls hP hD hS hl => lv_iconst C.1 C.2.1 hd hv (k H locs ls hP hD hS hl)
theorem gx_bipush {n : Int} {v : Int32} (C : CallFix p m c cc nL s args Ts own) (hd : decode cc pc = .ok (.bipush n, 2)) (hv : (Int8.ofInt n).toInt32 = v) (k : gx_G p l e R s m args below meth c D cl A nL cells slots Q ws (pc + 2) lv (.int v :: st)) : gx_G p l e R s m args below meth c D cl A nL cells slots Q ws pc lv st := fun H locs ls hP hD hS hl => lv_bipush C.1 C.2.1 hd hv (k H locs ls hP hD hS hl)
theorem gx_sipush {n : Int} {v : Int32} (C : CallFix p m c cc nL s args Ts own) (hd : decode cc pc = .ok (.sipush n, 3)) (hv : (Int16.ofInt n).toInt32 = v) (k : gx_G p l e R s m args below meth c D cl A nL cells slots Q ws (pc + 3) lv (.int v :: st)) : gx_G p l e R s m args below meth c D cl A nL cells slots Q ws pc lv st := fun H locs ls hP hD hS hl => lv_sipush C.1 C.2.1 hd hv (k H locs ls hP hD hS hl)
theorem gx_null  (C : CallFix p m c cc nL s args Ts own) (hd : decode cc pc = .ok (.aconst_null, 1)) (k : gx_G p l e R s m args below meth c D cl A nL cells slots Q ws (pc + 1) lv (.null :: st)) : gx_G p l e R s m args below meth c D cl A nL cells slots Q ws pc lv st := fun H locs ls hP hD hS hl => lv_null C.1 C.2.1 hd (k H locs ls hP hD hS hl)
theorem gx_iload_n {k0 : Fin 4} {x : Int32} (C : CallFix p m c cc nL s args Ts own) (hd : decode cc pc = .ok (.iload_n k0, 1)) (hv : lv[(k0 : Nat)]? = some (some (.int x))) (k : gx_G p l e R s m args below meth c D cl A nL cells slots Q ws (pc + 1) lv (.int x :: st)) : gx_G p l e R s m args below meth c D cl A nL cells slots Q ws pc lv st := fun H locs ls hP hD hS hl => lv_iload_n C.1 C.2.1 hd rfl (hl.got hv) (k H locs ls hP hD hS hl)
theorem gx_iload {i : Nat} {x : Int32} (C : CallFix p m c cc nL s args Ts own) (hd : decode cc pc = .ok (.iload i, 2)) (hv : lv[i]? = some (some (.int x))) (k : gx_G p l e R s m args below meth c D cl A nL cells slots Q ws (pc + 2) lv (.int x :: st)) : gx_G p l e R s m args below meth c D cl A nL cells slots Q ws pc lv st := fun H locs ls hP hD hS hl => lv_iload C.1 C.2.1 hd (hl.got hv) (k H locs ls hP hD hS hl)
theorem gx_aload_n {k0 : Fin 4} {x : Nat} (C : CallFix p m c cc nL s args Ts own) (hd : decode cc pc = .ok (.aload_n k0, 1)) (hv : lv[(k0 : Nat)]? = some (some (.ref x))) (k : gx_G p l e R s m args below meth c D cl A nL cells slots Q ws (pc + 1) lv (.ref x :: st)) : gx_G p l e R s m args below meth c D cl A nL cells slots Q ws pc lv st := fun H locs ls hP hD hS hl => lv_aload_n C.1 C.2.1 hd rfl (hl.got hv) (k H locs ls hP hD hS hl)
theorem gx_aload {i : Nat} {x : Nat} (C : CallFix p m c cc nL s args Ts own) (hd : decode cc pc = .ok (.aload i, 2)) (hv : lv[i]? = some (some (.ref x))) (k : gx_G p l e R s m args below meth c D cl A nL cells slots Q ws (pc + 2) lv (.ref x :: st)) : gx_G p l e R s m args below meth c D cl A nL cells slots Q ws pc lv st := fun H locs ls hP hD hS hl => lv_aload C.1 C.2.1 hd (hl.got hv) (k H locs ls hP hD hS hl)
theorem gx_istore_n {k0 : Fin 4} {x : Int32} {lv2 : List (Option Value)} (C : CallFix p m c cc nL s args Ts own) (hd : decode cc pc = .ok (.istore_n k0, 1)) (hn : (k0 : Nat) < nL) (hv : lv.set (k0 : Nat) (some (.int x)) = lv2) (k : gx_G p l e R s m args below meth c D cl A nL cells slots Q ws (pc + 1) lv2 st) : gx_G p l e R s m args below meth c D cl A nL cells slots Q ws pc lv (.int x :: st) := fun H locs ls hP hD hS hl => lv_istore_n C.1 C.2.1 hd rfl hl.has hn rfl (fun ls2 h2 => k H locs ls2 hP hD hS (hv ▸ hl.set rfl h2))
theorem gx_istore {i : Nat} {x : Int32} {lv2 : List (Option Value)} (C : CallFix p m c cc nL s args Ts own) (hd : decode cc pc = .ok (.istore i, 2)) (hn : i < nL) (hv : lv.set i (some (.int x)) = lv2) (k : gx_G p l e R s m args below meth c D cl A nL cells slots Q ws (pc + 2) lv2 st) : gx_G p l e R s m args below meth c D cl A nL cells slots Q ws pc lv (.int x :: st) := fun H locs ls hP hD hS hl => lv_istore C.1 C.2.1 hd hl.has hn rfl (fun ls2 h2 => k H locs ls2 hP hD hS (hv ▸ hl.set rfl h2))
theorem gx_astore_n {k0 : Fin 4} {x : Nat} {lv2 : List (Option Value)} (C : CallFix p m c cc nL s args Ts own) (hd : decode cc pc = .ok (.astore_n k0, 1)) (hn : (k0 : Nat) < nL) (hv : lv.set (k0 : Nat) (some (.ref x)) = lv2) (k : gx_G p l e R s m args below meth c D cl A nL cells slots Q ws (pc + 1) lv2 st) : gx_G p l e R s m args below meth c D cl A nL cells slots Q ws pc lv (.ref x :: st) := fun H locs ls hP hD hS hl => lv_astore_n C.1 C.2.1 hd rfl hl.has hn rfl (fun ls2 h2 => k H locs ls2 hP hD hS (hv ▸ hl.set rfl h2))
theorem gx_astore {i : Nat} {x : Nat} {lv2 : List (Option Value)} (C : CallFix p m c cc nL s args Ts own) (hd : decode cc pc = .ok (.astore i, 2)) (hn : i < nL) (hv : lv.set i (some (.ref x)) = lv2) (k : gx_G p l e R s m args below meth c D cl A nL cells slots Q ws (pc + 2) lv2 st) : gx_G p l e R s m args below meth c D cl A nL cells slots Q ws pc lv (.ref x :: st) := fun H locs ls hP hD hS hl => lv_astore C.1 C.2.1 hd hl.has hn rfl (fun ls2 h2 => k H locs ls2 hP hD hS (hv ▸ hl.set rfl h2))
theorem gx_iinc {i : Nat} {n : Int} {x v : Int32} {lv2 : List (Option Value)} (C : CallFix p m c cc nL s args Ts own) (hd : decode cc pc = .ok (.iinc i n, 3)) (h0 : lv[i]? = some (some (.int x))) (hx : x + Int32.ofInt n = v) (hn : i < nL) (hv : lv.set i (some (.int v)) = lv2) (k : gx_G p l e R s m args below meth c D cl A nL cells slots Q ws (pc + 3) lv2 st) : gx_G p l e R s m args below meth c D cl A nL cells slots Q ws pc lv st := by
  intro H locs ls hP hD hS hl
  obtain ⟨j, hj⟩ := List.getElem?_of_mem (gx_prs_mem h0)
  exact lv_iinc C.1 C.2.1 hd hl.has (k := j) hj hx hn rfl (fun ls2 h2 => k H locs ls2 hP hD hS (hv ▸ hl.set rfl h2))
theorem gx_iadd {x y : Int32} (C : CallFix p m c cc nL s args Ts own) (hd : decode cc pc = .ok (.iadd, 1)) (k : gx_G p l e R s m args below meth c D cl A nL cells slots Q ws (pc + 1) lv (.int (x + y) :: st)) : gx_G p l e R s m args below meth c D cl A nL cells slots Q ws pc lv (.int y :: .int x :: st) := fun H locs ls hP hD hS hl => lv_iadd C.1 C.2.1 hd (k H locs ls hP hD hS hl)
theorem gx_isub {x y : Int32} (C : CallFix p m c cc nL s args Ts own) (hd : decode cc pc = .ok (.isub, 1)) (k : gx_G p l e R s m args below meth c D cl A nL cells slots Q ws (pc + 1) lv (.int (x - y) :: st)) : gx_G p l e R s m args below meth c D cl A nL cells slots Q ws pc lv (.int y :: .int x :: st) := fun H locs ls hP hD hS hl => lv_isub C.1 C.2.1 hd (k H locs ls hP hD hS hl)
theorem gx_imul {x y : Int32} (C : CallFix p m c cc nL s args Ts own) (hd : decode cc pc = .ok (.imul, 1)) (k : gx_G p l e R s m args below meth c D cl A nL cells slots Q ws (pc + 1) lv (.int (x * y) :: st)) : gx_G p l e R s m args below meth c D cl A nL cells slots Q ws pc lv (.int y :: .int x :: st) := fun H locs ls hP hD hS hl => lv_imul C.1 C.2.1 hd (k H locs ls hP hD hS hl)
theorem gx_iand {x y : Int32} (C : CallFix p m c cc nL s args Ts own) (hd : decode cc pc = .ok (.iand, 1)) (k : gx_G p l e R s m args below meth c D cl A nL cells slots Q ws (pc + 1) lv (.int (x &&& y) :: st)) : gx_G p l e R s m args below meth c D cl A nL cells slots Q ws pc lv (.int y :: .int x :: st) := fun H locs ls hP hD hS hl => lv_iand C.1 C.2.1 hd (k H locs ls hP hD hS hl)
theorem gx_ior {x y : Int32} (C : CallFix p m c cc nL s args Ts own) (hd : decode cc pc = .ok (.ior, 1)) (k : gx_G p l e R s m args below meth c D cl A nL cells slots Q ws (pc + 1) lv (.int (x ||| y) :: st)) : gx_G p l e R s m args below meth c D cl A nL cells slots Q ws pc lv (.int y :: .int x :: st) := fun H locs ls hP hD hS hl => lv_ior C.1 C.2.1 hd (k H locs ls hP hD hS hl)
theorem gx_ixor {x y : Int32} (C : CallFix p m c cc nL s args Ts own) (hd : decode cc pc = .ok (.ixor, 1)) (k : gx_G p l e R s m args below meth c D cl A nL cells slots Q ws (pc + 1) lv (.int (x ^^^ y) :: st)) : gx_G p l e R s m args below meth c D cl A nL cells slots Q ws pc lv (.int y :: .int x :: st) := fun H locs ls hP hD hS hl => lv_ixor C.1 C.2.1 hd (k H locs ls hP hD hS hl)
theorem gx_idiv {x y : Int32} (C : CallFix p m c cc nL s args Ts own) (hd : decode cc pc = .ok (.idiv, 1)) (h0 : ¬ y = 0) (k : gx_G p l e R s m args below meth c D cl A nL cells slots Q ws (pc + 1) lv (.int (x / y) :: st)) : gx_G p l e R s m args below meth c D cl A nL cells slots Q ws pc lv (.int y :: .int x :: st) := fun H locs ls hP hD hS hl => lv_idiv C.1 C.2.1 hd h0 (k H locs ls hP hD hS hl)
theorem gx_irem {x y : Int32} (C : CallFix p m c cc nL s args Ts own) (hd : decode cc pc = .ok (.irem, 1)) (h0 : ¬ y = 0) (k : gx_G p l e R s m args below meth c D cl A nL cells slots Q ws (pc + 1) lv (.int (x - x / y * y) :: st)) : gx_G p l e R s m args below meth c D cl A nL cells slots Q ws pc lv (.int y :: .int x :: st) := fun H locs ls hP hD hS hl => lv_irem C.1 C.2.1 hd h0 (k H locs ls hP hD hS hl)
theorem gx_ineg {x : Int32} (C : CallFix p m c cc nL s args Ts own) (hd : decode cc pc = .ok (.ineg, 1)) (k : gx_G p l e R s m args below meth c D cl A nL cells slots Q ws (pc + 1) lv (.int (-x) :: st)) : gx_G p l e R s m args below meth c D cl A nL cells slots Q ws pc lv (.int x :: st) := fun H locs ls hP hD hS hl => lv_ineg C.1 C.2.1 hd (k H locs ls hP hD hS hl)
theorem gx_i2l {x : Int32} (C : CallFix p m c cc nL s args Ts own) (hd : decode cc pc = .ok (.i2l, 1)) (k : gx_G p l e R s m args below meth c D cl A nL cells slots Q ws (pc + 1) lv (.long x.toInt64 :: st)) : gx_G p l e R s m args below meth c D cl A nL cells slots Q ws pc lv (.int x :: st) := fun H locs ls hP hD hS hl => lv_i2l C.1 C.2.1 hd rfl (k H locs ls hP hD hS hl)
theorem gx_dup {va : Value} (C : CallFix p m c cc nL s args Ts own) (hd : decode cc pc = .ok (.dup, 1)) (hc : va.category = 1) (k : gx_G p l e R s m args below meth c D cl A nL cells slots Q ws (pc + 1) lv (va :: va :: st)) : gx_G p l e R s m args below meth c D cl A nL cells slots Q ws pc lv (va :: st) := fun H locs ls hP hD hS hl => lv_dup C.1 C.2.1 hd hc (k H locs ls hP hD hS hl)
theorem gx_pop {va : Value} (C : CallFix p m c cc nL s args Ts own) (hd : decode cc pc = .ok (.pop, 1)) (hc : va.category = 1) (k : gx_G p l e R s m args below meth c D cl A nL cells slots Q ws (pc + 1) lv st) : gx_G p l e R s m args below meth c D cl A nL cells slots Q ws pc lv (va :: st) := fun H locs ls hP hD hS hl => lv_pop C.1 C.2.1 hd hc (k H locs ls hP hD hS hl)
theorem gx_dup_x1 {va vb : Value} (C : CallFix p m c cc nL s args Ts own) (hd : decode cc pc = .ok (.dup_x1, 1)) (hc : va.category = 1) (hc2 : vb.category = 1) (k : gx_G p l e R s m args below meth c D cl A nL cells slots Q ws (pc + 1) lv (va :: vb :: va :: st)) : gx_G p l e R s m args below meth c D cl A nL cells slots Q ws pc lv (va :: vb :: st) := fun H locs ls hP hD hS hl => lv_dup_x1 C.1 C.2.1 hd hc hc2 (k H locs ls hP hD hS hl)
theorem gx_dup_x2 {va vb vd : Value} (C : CallFix p m c cc nL s args Ts own) (hd : decode cc pc = .ok (.dup_x2, 1)) (hc : va.category = 1) (hc2 : vb.category = 1) (hc3 : vd.category = 1) (k : gx_G p l e R s m args below meth c D cl A nL cells slots Q ws (pc + 1) lv (va :: vb :: vd :: va :: st)) : gx_G p l e R s m args below meth c D cl A nL cells slots Q ws pc lv (va :: vb :: vd :: st) := fun H locs ls hP hD hS hl => lv_dup_x2 C.1 C.2.1 hd hc hc2 hc3 (k H locs ls hP hD hS hl)
theorem gx_dup2 {va vb : Value} (C : CallFix p m c cc nL s args Ts own) (hd : decode cc pc = .ok (.dup2, 1)) (hc : va.category = 1) (hc2 : vb.category = 1) (k : gx_G p l e R s m args below meth c D cl A nL cells slots Q ws (pc + 1) lv (va :: vb :: va :: vb :: st)) : gx_G p l e R s m args below meth c D cl A nL cells slots Q ws pc lv (va :: vb :: st) := fun H locs ls hP hD hS hl => lv_dup2_11 C.1 C.2.1 hd hc hc2 (k H locs ls hP hD hS hl)
theorem gx_if_eq {x : Int32} {off : Int} {tgt : Nat} (C : CallFix p m c cc nL s args Ts own) (hd : decode cc pc = .ok (.ifCond .eq off, 3)) (ht : (pc : Int) + off = (tgt : Int)) (kt : x = 0 → gx_G p l e R s m args below meth c D cl A nL cells slots Q ws tgt lv st) (kf : ¬ x = 0 → gx_G p l e R s m args below meth c D cl A nL cells slots Q ws (pc + 3) lv st) : gx_G p l e R s m args below meth c D cl A nL cells slots Q ws pc lv (.int x :: st) := fun H locs ls hP hD hS hl => lv_if_eq C.1 C.2.1 hd ht (fun q => kt q H locs ls hP hD hS hl) (fun q => kf q H locs ls hP hD hS hl)
theorem gx_icmp_eq {x y : Int32} {off : Int} {tgt : Nat} (C : CallFix p m c cc nL s args Ts own) (hd : decode cc pc = .ok (.if_icmp .eq off, 3)) (ht : (pc : Int) + off = (tgt : Int)) (kt : x = y → gx_G p l e R s m args below meth c D cl A nL cells slots Q ws tgt lv st) (kf : ¬ x = y → gx_G p l e R s m args below meth c D cl A nL cells slots Q ws (pc + 3) lv st) : gx_G p l e R s m args below meth c D cl A nL cells slots Q ws pc lv (.int y :: .int x :: st) := fun H locs ls hP hD hS hl => lv_icmp_eq C.1 C.2.1 hd ht (fun q => kt q H locs ls hP hD hS hl) (fun q => kf q H locs ls hP hD hS hl)
theorem gx_if_ne {x : Int32} {off : Int} {tgt : Nat} (C : CallFix p m c cc nL s args Ts own) (hd : decode cc pc = .ok (.ifCond .ne off, 3)) (ht : (pc : Int) + off = (tgt : Int)) (kt : ¬ x = 0 → gx_G p l e R s m args below meth c D cl A nL cells slots Q ws tgt lv st) (kf : x = 0 → gx_G p l e R s m args below meth c D cl A nL cells slots Q ws (pc + 3) lv st) : gx_G p l e R s m args below meth c D cl A nL cells slots Q ws pc lv (.int x :: st) := fun H locs ls hP hD hS hl => lv_if_ne C.1 C.2.1 hd ht (fun q => kt q H locs ls hP hD hS hl) (fun q => kf q H locs ls hP hD hS hl)
theorem gx_icmp_ne {x y : Int32} {off : Int} {tgt : Nat} (C : CallFix p m c cc nL s args Ts own) (hd : decode cc pc = .ok (.if_icmp .ne off, 3)) (ht : (pc : Int) + off = (tgt : Int)) (kt : ¬ x = y → gx_G p l e R s m args below meth c D cl A nL cells slots Q ws tgt lv st) (kf : x = y → gx_G p l e R s m args below meth c D cl A nL cells slots Q ws (pc + 3) lv st) : gx_G p l e R s m args below meth c D cl A nL cells slots Q ws pc lv (.int y :: .int x :: st) := fun H locs ls hP hD hS hl => lv_icmp_ne C.1 C.2.1 hd ht (fun q => kt q H locs ls hP hD hS hl) (fun q => kf q H locs ls hP hD hS hl)
theorem gx_if_lt {x : Int32} {off : Int} {tgt : Nat} (C : CallFix p m c cc nL s args Ts own) (hd : decode cc pc = .ok (.ifCond .lt off, 3)) (ht : (pc : Int) + off = (tgt : Int)) (kt : x < 0 → gx_G p l e R s m args below meth c D cl A nL cells slots Q ws tgt lv st) (kf : ¬ x < 0 → gx_G p l e R s m args below meth c D cl A nL cells slots Q ws (pc + 3) lv st) : gx_G p l e R s m args below meth c D cl A nL cells slots Q ws pc lv (.int x :: st) := fun H locs ls hP hD hS hl => lv_if_lt C.1 C.2.1 hd ht (fun q => kt q H locs ls hP hD hS hl) (fun q => kf q H locs ls hP hD hS hl)
theorem gx_icmp_lt {x y : Int32} {off : Int} {tgt : Nat} (C : CallFix p m c cc nL s args Ts own) (hd : decode cc pc = .ok (.if_icmp .lt off, 3)) (ht : (pc : Int) + off = (tgt : Int)) (kt : x < y → gx_G p l e R s m args below meth c D cl A nL cells slots Q ws tgt lv st) (kf : ¬ x < y → gx_G p l e R s m args below meth c D cl A nL cells slots Q ws (pc + 3) lv st) : gx_G p l e R s m args below meth c D cl A nL cells slots Q ws pc lv (.int y :: .int x :: st) := fun H locs ls hP hD hS hl => lv_icmp_lt C.1 C.2.1 hd ht (fun q => kt q H locs ls hP hD hS hl) (fun q => kf q H locs ls hP hD hS hl)
theorem gx_if_ge {x : Int32} {off : Int} {tgt : Nat} (C : CallFix p m c cc nL s args Ts own) (hd : decode cc pc = .ok (.ifCond .ge off, 3)) (ht : (pc : Int) + off = (tgt : Int)) (kt : 0 ≤ x → gx_G p l e R s m args below meth c D cl A nL cells slots Q ws tgt lv st) (kf : ¬ 0 ≤ x → gx_G p l e R s m args below meth c D cl A nL cells slots Q ws (pc + 3) lv st) : gx_G p l e R s m args below meth c D cl A nL cells slots Q ws pc lv (.int x :: st) := fun H locs ls hP hD hS hl => lv_if_ge C.1 C.2.1 hd ht (fun q => kt q H locs ls hP hD hS hl) (fun q => kf q H locs ls hP hD hS hl)
theorem gx_icmp_ge {x y : Int32} {off : Int} {tgt : Nat} (C : CallFix p m c cc nL s args Ts own) (hd : decode cc pc = .ok (.if_icmp .ge off, 3)) (ht : (pc : Int) + off = (tgt : Int)) (kt : y ≤ x → gx_G p l e R s m args below meth c D cl A nL cells slots Q ws tgt lv st) (kf : ¬ y ≤ x → gx_G p l e R s m args below meth c D cl A nL cells slots Q ws (pc + 3) lv st) : gx_G p l e R s m args below meth c D cl A nL cells slots Q ws pc lv (.int y :: .int x :: st) := fun H locs ls hP hD hS hl => lv_icmp_ge C.1 C.2.1 hd ht (fun q => kt q H locs ls hP hD hS hl) (fun q => kf q H locs ls hP hD hS hl)
theorem gx_if_gt {x : Int32} {off : Int} {tgt : Nat} (C : CallFix p m c cc nL s args Ts own) (hd : decode cc pc = .ok (.ifCond .gt off, 3)) (ht : (pc : Int) + off = (tgt : Int)) (kt : 0 < x → gx_G p l e R s m args below meth c D cl A nL cells slots Q ws tgt lv st) (kf : ¬ 0 < x → gx_G p l e R s m args below meth c D cl A nL cells slots Q ws (pc + 3) lv st) : gx_G p l e R s m args below meth c D cl A nL cells slots Q ws pc lv (.int x :: st) := fun H locs ls hP hD hS hl => lv_if_gt C.1 C.2.1 hd ht (fun q => kt q H locs ls hP hD hS hl) (fun q => kf q H locs ls hP hD hS hl)
theorem gx_icmp_gt {x y : Int32} {off : Int} {tgt : Nat} (C : CallFix p m c cc nL s args Ts own) (hd : decode cc pc = .ok (.if_icmp .gt off, 3)) (ht : (pc : Int) + off = (tgt : Int)) (kt : y < x → gx_G p l e R s m args below meth c D cl A nL cells slots Q ws tgt lv st) (kf : ¬ y < x → gx_G p l e R s m args below meth c D cl A nL cells slots Q ws (pc + 3) lv st) : gx_G p l e R s m args below meth c D cl A nL cells slots Q ws pc lv (.int y :: .int x :: st) := fun H locs ls hP hD hS hl => lv_icmp_gt C.1 C.2.1 hd ht (fun q => kt q H locs ls hP hD hS hl) (fun q => kf q H locs ls hP hD hS hl)
theorem gx_if_le {x : Int32} {off : Int} {tgt : Nat} (C : CallFix p m c cc nL s args Ts own) (hd : decode cc pc = .ok (.ifCond .le off, 3)) (ht : (pc : Int) + off = (tgt : Int)) (kt : x ≤ 0 → gx_G p l e R s m args below meth c D cl A nL cells slots Q ws tgt lv st) (kf : ¬ x ≤ 0 → gx_G p l e R s m args below meth c D cl A nL cells slots Q ws (pc + 3) lv st) : gx_G p l e R s m args below meth c D cl A nL cells slots Q ws pc lv (.int x :: st) := fun H locs ls hP hD hS hl => lv_if_le C.1 C.2.1 hd ht (fun q => kt q H locs ls hP hD hS hl) (fun q => kf q H locs ls hP hD hS hl)
theorem gx_icmp_le {x y : Int32} {off : Int} {tgt : Nat} (C : CallFix p m c cc nL s args Ts own) (hd : decode cc pc = .ok (.if_icmp .le off, 3)) (ht : (pc : Int) + off = (tgt : Int)) (kt : x ≤ y → gx_G p l e R s m args below meth c D cl A nL cells slots Q ws tgt lv st) (kf : ¬ x ≤ y → gx_G p l e R s m args below meth c D cl A nL cells slots Q ws (pc + 3) lv st) : gx_G p l e R s m args below meth c D cl A nL cells slots Q ws pc lv (.int y :: .int x :: st) := fun H locs ls hP hD hS hl => lv_icmp_le C.1 C.2.1 hd ht (fun q => kt q H locs ls hP hD hS hl) (fun q => kf q H locs ls hP hD hS hl)
theorem gx_goto {off : Int} {tgt : Nat} (C : CallFix p m c cc nL s args Ts own) (hd : decode cc pc = .ok (.goto off, 3)) (ht : (pc : Int) + off = (tgt : Int)) (k : gx_G p l e R s m args below meth c D cl A nL cells slots Q ws tgt lv st) : gx_G p l e R s m args below meth c D cl A nL cells slots Q ws pc lv st := fun H locs ls hP hD hS hl => lv_goto C.1 C.2.1 hd ht (k H locs ls hP hD hS hl)
theorem gx_get {ref Cn : String} {T : u_T} {N ci index a : Nat} {fs : List Value} {v : Value} (C : CallFix p m c cc nL s args Ts own) (hK : va_K D cl tys s) (hin : ∀ w ∈ u_ws Cn T N, w ∈ Ts) (q0 : Nat) (he : ws[q0]? = some (a, .inr (ci, fs))) (hc : cl[ci]? = some (Cn, T, N)) (k0 : Nat) (hk : k0 < N) (hlink : Cond.fieldLink own index ref (T k0).2.1 (T k0).2.2.1 ∈ Ts) (href : (T k0).1 = ref) (hv : fs[k0]? = some v) (hd : decode cc pc = .ok (.getfield index, 3)) (k : gx_G p l e R s m args below meth c D cl A nL cells slots Q ws (pc + 3) lv (v :: st)) : gx_G p l e R s m args below meth c D cl A nL cells slots Q ws pc lv (.ref a :: st) := fun H locs ls hP hD hS hl =>
  va_get C.1 C.2.1 C.2.2.2.2 hin C.2.2.2.1 hK hP q0 he hc k0 hk (C.2.2.2.2 _ hlink) (fun x h9 => href ▸ h9) hv hd (k H locs ls hP hD hS hl)
theorem gx_put {ref Cn : String} {T : u_T} {N ci index a : Nat} {fs : List Value} {v : Value} {ty : FieldType} {ws2 : va_W} (C : CallFix p m c cc nL s args Ts own) (hK : va_K D cl tys s) (hin : ∀ w ∈ u_ws Cn T N, w ∈ Ts) (ty0 : Nat → FieldType) (hty : ∀ k, k < N → parseFieldDescriptor (T k).2.2.1 = some (ty0 k)) (hnm : ∀ a, a < N → ∀ b, b < N → a ≠ b → (T a).2.1 ≠ (T b).2.1) (q0 : Nat) (he : ws[q0]? = some (a, .inr (ci, fs))) (hc : cl[ci]? = some (Cn, T, N)) (k0 : Nat) (hk : k0 < N) (hlink : Cond.fieldLink own index ref (T k0).2.1 (T k0).2.2.1 ∈ Ts) (href : (T k0).1 = ref) (hfin : (T k0).2.2.2 = false) (hdsc : parseFieldDescriptor (T k0).2.2.1 = some ty) (hnw : narrow ty v = v) (hfit : fits ty v = true) (hlen : k0 < fs.length) (hd : decode cc pc = .ok (.putfield index, 3)) (hw : ws.set q0 (a, .inr (ci, fs.set k0 v)) = ws2) (k : gx_G p l e R s m args below meth c D cl A nL cells slots Q ws2 (pc + 3) lv st) : gx_G p l e R s m args below meth c D cl A nL cells slots Q ws pc lv (v :: .ref a :: st) := fun H locs ls hP hD hS hl =>
  va_put C.1 C.2.1 C.2.2.2.2 hin ty0 hty hnm C.2.2.2.1 hK hP hD hS q0 he hc k0 hk (C.2.2.2.2 _ hlink) (fun x h9 => href ▸ h9) hfin hdsc hnw hfit hlen hd (fun H1 locs1 hP1 hD1 hS1 => k H1 locs1 ls (hw ▸ hP1) (hw ▸ hD1) hS1 hl)
theorem gx_putF {ref Cn : String} {T : u_T} {N ci index a : Nat} {fs : List Value} {v : Value} {ty : FieldType} {ws2 : va_W} (C : CallFix p m c cc nL s args Ts own) (hK : va_K D cl tys s) (hin : ∀ w ∈ u_ws Cn T N, w ∈ Ts) (ty0 : Nat → FieldType) (hty : ∀ k, k < N → parseFieldDescriptor (T k).2.2.1 = some (ty0 k)) (hnm : ∀ a, a < N → ∀ b, b < N → a ≠ b → (T a).2.1 ≠ (T b).2.1) (q0 : Nat) (he : ws[q0]? = some (a, .inr (ci, fs))) (hc : cl[ci]? = some (Cn, T, N)) (k0 : Nat) (hk : k0 < N) (hlink : Cond.fieldLink own index ref (T k0).2.1 (T k0).2.2.1 ∈ Ts) (href : (T k0).1 = ref) (hfin : (T k0).2.2.2 = true) (hini : meth.name = "<init>") (hdecl : (T k0).1 = own) (hdsc : parseFieldDescriptor (T k0).2.2.1 = some ty) (hnw : narrow ty v = v) (hfit : fits ty v = true) (hlen : k0 < fs.length) (hd : decode cc pc = .ok (.putfield index, 3)) (hw : ws.set q0 (a, .inr (ci, fs.set k0 v)) = ws2) (k : gx_G p l e R s m args below meth c D cl A nL cells slots Q ws2 (pc + 3) lv st) : gx_G p l e R s m args below meth c D cl A nL cells slots Q ws pc lv (v :: .ref a :: st) := fun H locs ls hP hD hS hl =>
  va_putF C.1 C.2.1 C.2.2.2.2 hin ty0 hty hnm C.2.2.2.1 hK hP hD hS q0 he hc k0 hk (C.2.2.2.2 _ hlink) (fun x h9 => href ▸ h9) hfin hini hdecl hdsc hnw hfit hlen hd (fun H1 locs1 hP1 hD1 hS1 => k H1 locs1 ls (hw ▸ hP1) (hw ▸ hD1) hS1 hl)
theorem gx_iald {a n : Nat} {f : Nat → Int32} {cA : ClassId} {i : Int32} (C : CallFix p m c cc nL s args Ts own) (hK : va_K D cl tys s) (q0 t0 : Nat) (ha : ws[q0]? = some (a, .inl (cA, n, .inl f))) (ht : tys[t0]? = some (cA, .int)) (hi : vp_in i n) (hd : decode cc pc = .ok (.iaload, 1)) (k : gx_G p l e R s m args below meth c D cl A nL cells slots Q ws (pc + 1) lv (.int (f i.toNatClampNeg) :: st)) : gx_G p l e R s m args below meth c D cl A nL cells slots Q ws pc lv (.int i :: .ref a :: st) := fun H locs ls hP hD hS hl => va_iald C.1 C.2.1 hK hP q0 t0 ha ht hi hd (k H locs ls hP hD hS hl)
theorem gx_iast {a n : Nat} {f : Nat → Int32} {cA : ClassId} {i x : Int32} {ws2 : va_W} (C : CallFix p m c cc nL s args Ts own) (hK : va_K D cl tys s) (q0 t0 : Nat) (ha : ws[q0]? = some (a, .inl (cA, n, .inl f))) (ht : tys[t0]? = some (cA, .int)) (hi : vp_in i n) (hd : decode cc pc = .ok (.iastore, 1)) (hw : ws.set q0 (a, .inl (cA, n, .inl (upd f i.toNatClampNeg x))) = ws2) (k : gx_G p l e R s m args below meth c D cl A nL cells slots Q ws2 (pc + 1) lv st) : gx_G p l e R s m args below meth c D cl A nL cells slots Q ws pc lv (.int x :: .int i :: .ref a :: st) := fun H locs ls hP hD hS hl => va_iast C.1 C.2.1 hK hP hD hS q0 t0 ha ht hi hd (fun H1 locs1 hP1 hD1 hS1 => k H1 locs1 ls (hw ▸ hP1) (hw ▸ hD1) hS1 hl)
theorem gx_lald {a n : Nat} {f : Nat → Int64} {cA : ClassId} {i : Int32} (C : CallFix p m c cc nL s args Ts own) (hK : va_K D cl tys s) (q0 t0 : Nat) (ha : ws[q0]? = some (a, .inl (cA, n, .inr (.inl f)))) (ht : tys[t0]? = some (cA, .long)) (hi : vp_in i n) (hd : decode cc pc = .ok (.laload, 1)) (k : gx_G p l e R s m args below meth c D cl A nL cells slots Q ws (pc + 1) lv (.long (f i.toNatClampNeg) :: st)) : gx_G p l e R s m args below meth c D cl A nL cells slots Q ws pc lv (.int i :: .ref a :: st) := fun H locs ls hP hD hS hl => va_lald C.1 C.2.1 hK hP q0 t0 ha ht hi hd (k H locs ls hP hD hS hl)
theorem gx_last {a n : Nat} {f : Nat → Int64} {cA : ClassId} {i : Int32} {x : Int64} {ws2 : va_W} (C : CallFix p m c cc nL s args Ts own) (hK : va_K D cl tys s) (q0 t0 : Nat) (ha : ws[q0]? = some (a, .inl (cA, n, .inr (.inl f)))) (ht : tys[t0]? = some (cA, .long)) (hi : vp_in i n) (hd : decode cc pc = .ok (.lastore, 1)) (hw : ws.set q0 (a, .inl (cA, n, .inr (.inl (vp_updL f i.toNatClampNeg x)))) = ws2) (k : gx_G p l e R s m args below meth c D cl A nL cells slots Q ws2 (pc + 1) lv st) : gx_G p l e R s m args below meth c D cl A nL cells slots Q ws pc lv (.long x :: .int i :: .ref a :: st) := fun H locs ls hP hD hS hl => va_last C.1 C.2.1 hK hP hD hS q0 t0 ha ht hi hd (fun H1 locs1 hP1 hD1 hS1 => k H1 locs1 ls (hw ▸ hP1) (hw ▸ hD1) hS1 hl)
theorem gx_aald {a n : Nat} {f : Nat → Option Nat} {cA : ClassId} {t : FieldType} {i : Int32} {b : Nat} (C : CallFix p m c cc nL s args Ts own) (hK : va_K D cl tys s) (q0 t0 : Nat) (ha : ws[q0]? = some (a, .inl (cA, n, .inr (.inr (.inr (.inr f)))))) (ht : tys[t0]? = some (cA, .array t)) (hi : vp_in i n) (hb : f i.toNatClampNeg = some b) (hd : decode cc pc = .ok (.aaload, 1)) (k : gx_G p l e R s m args below meth c D cl A nL cells slots Q ws (pc + 1) lv (.ref b :: st)) : gx_G p l e R s m args below meth c D cl A nL cells slots Q ws pc lv (.int i :: .ref a :: st) := by
  intro H locs ls hP hD hS hl
  have hlt : i.toNatClampNeg < n := Nat.not_le.mp fun q => hi (Or.inr q)
  refine W.aald (v := va_rf (f i.toNatClampNeg)) (ty := .array t) C.1 C.2.1 (hP q0 _ ha) ((hK.2 t0 _ ht).1 n (fun j => va_rf (f j))) rfl (fun q => by cases q) (by show ¬ (i < 0 ∨ (arrV _ _ _).slots.size ≤ _); rw [arrV_size]; exact hi) (by show (arrV _ _ _).slots[_]? = _; rw [arrV_read _ _ hlt]) rfl rfl hd ?_
  rw [hb]
  exact k H locs ls hP hD hS hl
theorem gx_alen {a : Nat} {x : vp_A} {cA : ClassId} {ty : FieldType} (C : CallFix p m c cc nL s args Ts own) (hK : va_K D cl tys s) (q0 t0 : Nat) (ha : ws[q0]? = some (a, .inl (cA, x))) (ht : tys[t0]? = some (cA, ty)) (hd : decode cc pc = .ok (.arraylength, 1)) (k : gx_G p l e R s m args below meth c D cl A nL cells slots Q ws (pc + 1) lv (.int (Int32.ofNat x.1) :: st)) : gx_G p l e R s m args below meth c D cl A nL cells slots Q ws pc lv (.ref a :: st) := fun H locs ls hP hD hS hl => va_alen C.1 C.2.1 hK hP q0 t0 ha ht rfl hd (k H locs ls hP hD hS hl)
theorem gx_ialdN {a n b : Nat} {f : Nat → Int32} {cA : ClassId} (C : CallFix p m c cc nL s args Ts own) (hK : va_K D cl tys s) (q0 t0 : Nat) (ha : ws[q0]? = some (a, .inl (cA, n, .inl f))) (ht : tys[t0]? = some (cA, .int)) (hb : b < n) (hn : n < 2 ^ 31) (hd : decode cc pc = .ok (.iaload, 1)) (k : gx_G p l e R s m args below meth c D cl A nL cells slots Q ws (pc + 1) lv (.int (f b) :: st)) : gx_G p l e R s m args below meth c D cl A nL cells slots Q ws pc lv (.int (nI b) :: .ref a :: st) := gx_iald C hK q0 t0 ha ht (vp_in_nI hb hn) hd (by rw [nI_clamp (Nat.lt_trans hb hn)]; exact k)
theorem gx_iastN {a n b : Nat} {f : Nat → Int32} {cA : ClassId} {x : Int32} {ws2 : va_W} (C : CallFix p m c cc nL s args Ts own) (hK : va_K D cl tys s) (q0 t0 : Nat) (ha : ws[q0]? = some (a, .inl (cA, n, .inl f))) (ht : tys[t0]? = some (cA, .int)) (hb : b < n) (hn : n < 2 ^ 31) (hd : decode cc pc = .ok (.iastore, 1)) (hw : ws.set q0 (a, .inl (cA, n, .inl (upd f b x))) = ws2) (k : gx_G p l e R s m args below meth c D cl A nL cells slots Q ws2 (pc + 1) lv st) : gx_G p l e R s m args below meth c D cl A nL cells slots Q ws pc lv (.int x :: .int (nI b) :: .ref a :: st) := gx_iast C hK q0 t0 ha ht (vp_in_nI hb hn) hd (by rw [nI_clamp (Nat.lt_trans hb hn)]; exact hw) k
theorem gx_aaldN {a n i b : Nat} {f : Nat → Option Nat} {cA : ClassId} {t : FieldType} (C : CallFix p m c cc nL s args Ts own) (hK : va_K D cl tys s) (q0 t0 : Nat) (ha : ws[q0]? = some (a, .inl (cA, n, .inr (.inr (.inr (.inr f)))))) (ht : tys[t0]? = some (cA, .array t)) (hi : i < n) (hn : n < 2 ^ 31) (hb : f i = some b) (hd : decode cc pc = .ok (.aaload, 1)) (k : gx_G p l e R s m args below meth c D cl A nL cells slots Q ws (pc + 1) lv (.ref b :: st)) : gx_G p l e R s m args below meth c D cl A nL cells slots Q ws pc lv (.int (nI i) :: .ref a :: st) := gx_aald C hK q0 t0 ha ht (vp_in_nI hi hn) (by rw [nI_clamp (Nat.lt_trans hi hn)]; exact hb) hd k
theorem gx_mmax {x y : Int32} {index : Nat} (C : CallFix p m c cc nL s args Ts own) (hlink : Cond.methodLink own index Lib.Math.max.name ∈ Ts) (hstat : Cond.static Lib.Math.max.name ∈ Ts) (hini : Cond.initialized "java/lang/Math" ∈ Ts) (hcode : Cond.code Lib.Math.max.name Lib.Math.max.code 2 (some .int) ∈ Ts) (hframes : 1 ≤ R.frames) (hlocals : (st.map fun v => v.category).sum + 13 ≤ R.locals) (hc : cells ≤ R.cells) (hs : slots ≤ R.slots) (hd : decode cc pc = .ok (.invokestatic index, 3)) (k : gx_G p l e R s m args below meth c D cl A nL cells slots Q ws (pc + 3) lv (.int (if x < y then y else x) :: st)) : gx_G p l e R s m args below meth c D cl A nL cells slots Q ws pc lv (.int y :: .int x :: st) := fun H locs ls hP hD hS hl => va_mmax C.1 C.2.1 (C.2.2.1.trans hl.1.symm) C.2.2.2.1 (C.2.2.2.2 _ hlink) (C.2.2.2.2 _ hstat) (C.2.2.2.2 _ hini) (C.2.2.2.2 _ hcode) hframes hlocals hc hs hd (k H locs ls hP hD hS hl)
theorem gx_mmin {x y : Int32} {index : Nat} (C : CallFix p m c cc nL s args Ts own) (hlink : Cond.methodLink own index Lib.Math.min.name ∈ Ts) (hstat : Cond.static Lib.Math.min.name ∈ Ts) (hini : Cond.initialized "java/lang/Math" ∈ Ts) (hcode : Cond.code Lib.Math.min.name Lib.Math.min.code 2 (some .int) ∈ Ts) (hframes : 1 ≤ R.frames) (hlocals : (st.map fun v => v.category).sum + 13 ≤ R.locals) (hc : cells ≤ R.cells) (hs : slots ≤ R.slots) (hd : decode cc pc = .ok (.invokestatic index, 3)) (k : gx_G p l e R s m args below meth c D cl A nL cells slots Q ws (pc + 3) lv (.int (if y < x then y else x) :: st)) : gx_G p l e R s m args below meth c D cl A nL cells slots Q ws pc lv (.int y :: .int x :: st) := fun H locs ls hP hD hS hl => va_mmin C.1 C.2.1 (C.2.2.1.trans hl.1.symm) C.2.2.2.1 (C.2.2.2.2 _ hlink) (C.2.2.2.2 _ hstat) (C.2.2.2.2 _ hini) (C.2.2.2.2 _ hcode) hframes hlocals hc hs hd (k H locs ls hP hD hS hl)
theorem gx_tabOut {dflt lo hi : Int} {offs : Array Int} {len : Nat} {x : Int32} {tgt : Nat} (C : CallFix p m c cc nL s args Ts own) (hd : decode cc pc = .ok (.tableswitch dflt lo hi offs, len)) (h : x.toInt < lo ∨ hi < x.toInt) (ht : (pc : Int) + dflt = (tgt : Int)) (k : gx_G p l e R s m args below meth c D cl A nL cells slots Q ws tgt lv st) : gx_G p l e R s m args below meth c D cl A nL cells slots Q ws pc lv (.int x :: st) := fun H locs ls hP hD hS hl => lv_tableOut C.1 C.2.1 hd h ht (k H locs ls hP hD hS hl)
theorem gx_tabIn {dflt lo hi : Int} {offs : Array Int} {len : Nat} {x : Int32} {off : Int} {tgt : Nat} (C : CallFix p m c cc nL s args Ts own) (hd : decode cc pc = .ok (.tableswitch dflt lo hi offs, len)) (h1 : ¬ x.toInt < lo) (h2 : ¬ hi < x.toInt) (ho : offs[(x.toInt - lo).toNat]? = some off) (ht : (pc : Int) + off = (tgt : Int)) (k : gx_G p l e R s m args below meth c D cl A nL cells slots Q ws tgt lv st) : gx_G p l e R s m args below meth c D cl A nL cells slots Q ws pc lv (.int x :: st) := fun H locs ls hP hD hS hl => lv_tableIn C.1 C.2.1 hd h1 h2 ho ht (k H locs ls hP hD hS hl)
theorem gx_ws {ws2 : va_W} (h : ws = ws2) (k : gx_G p l e R s m args below meth c D cl A nL cells slots Q ws2 pc lv st) : gx_G p l e R s m args below meth c D cl A nL cells slots Q ws pc lv st := h ▸ k
theorem gx_sub {lv2 : List (Option Value)} (h : ∀ (i : Nat) (v : Value), lv2[i]? = some (some v) → lv[i]? = some (some v)) (k : gx_G p l e R s m args below meth c D cl A nL cells slots Q ws pc lv2 st) : gx_G p l e R s m args below meth c D cl A nL cells slots Q ws pc lv st := fun H locs ls hP hD hS hl => k H locs ls hP hD hS (hl.sub h)
theorem gx_top {x y : Int32} (h : x = y) (k : gx_G p l e R s m args below meth c D cl A nL cells slots Q ws pc lv (.int y :: st)) : gx_G p l e R s m args below meth c D cl A nL cells slots Q ws pc lv (.int x :: st) := h ▸ k
/-- a method's contract: over the world wc it answers rv and leaves wc2; it makes nothing -/
def gx_M (l : Launch) (y : MethodName) (wsy : List Cond) (rm : Room) (D : va_G) (cl : List vw_C) (tys : List (ClassId × FieldType)) (av : List Value) (wc wc2 : va_W) (rv : Option Value) : Prop :=
  Met l y wsy rm (va_Pc av (fun U => va_P D cl wc U.heap ∧ va_K D cl tys U ∧ va_D (fun _ => True) wc)) (fun _ st o t => o = .returned rv ∧ va_P D cl wc2 t.heap ∧ va_F (gx_in wc) st t) 0 0 (gx_in wc)
theorem gx_blind {av : List Value} {wc : va_W} : FrameBlind (va_Pc av (fun U => va_P D cl wc U.heap ∧ va_K D cl tys U ∧ va_D (fun _ => True) wc)) := fun a U g mk q => by
  obtain ⟨q0, qP, qK, qD⟩ := q
  exact ⟨q0, qP, va_K.moved (u := U) (U := U.calling g mk a) (Vm.Alike.refl U.vm) qK, qD⟩
theorem gx_mid {wa wc wb : va_W} {k : Nat} {q : Nat × va_E} (h : wc[k]? = some q) : (wa ++ wc ++ wb)[wa.length + k]? = some q := by
  have hl := (List.getElem?_eq_some_iff.mp h).1
  rw [List.getElem?_append_left (by rw [List.length_append]; omega), List.getElem?_append_right (by omega), Nat.add_sub_cancel_left]
  exact h
theorem gx_mid3 {wa wc wb : va_W} {k : Nat} {q : Nat × va_E} (h : (wa ++ wc ++ wb)[k]? = some q) : (k < wa.length ∧ ∀ w2 : va_W, w2.length = wc.length → (wa ++ w2 ++ wb)[k]? = some q) ∨ (∃ j, k = wa.length + j ∧ wc[j]? = some q) ∨ (wa.length + wc.length ≤ k ∧ ∀ w2 : va_W, w2.length = wc.length → (wa ++ w2 ++ wb)[k]? = some q) := by
  by_cases h1 : k < wa.length
  · refine Or.inl ⟨h1, fun w2 hw => ?_⟩
    rw [List.getElem?_append_left (by rw [List.length_append]; omega), List.getElem?_append_left h1] at h ⊢
    exact h
  · by_cases h2 : k < wa.length + wc.length
    · refine Or.inr (Or.inl ⟨k - wa.length, by omega, ?_⟩)
      rw [List.getElem?_append_left (by rw [List.length_append]; omega), List.getElem?_append_right (by omega)] at h
      exact h
    · refine Or.inr (Or.inr ⟨by omega, fun w2 hw => ?_⟩)
      rw [List.getElem?_append_right (by rw [List.length_append]; omega), List.length_append] at h ⊢
      rw [hw]
      exact h
theorem gx_mid_P {wa wc wc2 wb : va_W} {H H1 : Heap} (hs : wc2.map (·.1) = wc.map (·.1)) (hP : va_P D cl (wa ++ wc ++ wb) H) (hD : va_D A (wa ++ wc ++ wb)) (hk : ∀ q : Nat, q < H.size → ¬ gx_in wc q → H1[q]? = H[q]?) (h2 : va_P D cl wc2 H1) : va_P D cl (wa ++ wc2 ++ wb) H1 := by
  have hl : wc2.length = wc.length := by simpa using congrArg List.length hs
  have key : ∀ (k : Nat) (q : Nat × va_E), (wa ++ wc ++ wb)[k]? = some q → (k < wa.length ∨ wa.length + wc.length ≤ k) → va_at D cl q H1 := by
    intro k q hq hkk
    refine (hP k q hq).kept (hk q.1 ((hP k q hq).lt) ?_)
    rintro ⟨j, e9, hj⟩
    have := hD.1 k (wa.length + j) q (q.1, e9) hq (gx_mid hj) rfl
    have hj2 := (List.getElem?_eq_some_iff.mp hj).1
    omega
  intro k q hq
  rcases gx_mid3 hq with ⟨h1, h3⟩ | ⟨j, rfl, hj⟩ | ⟨h1, h3⟩
  · exact key k q (h3 wc hl.symm) (Or.inl h1)
  · exact h2 j q hj
  · exact key k q (h3 wc hl.symm) (Or.inr (by omega))
theorem gx_mid_fst {wa wc wc2 wb : va_W} (hs : wc2.map (·.1) = wc.map (·.1)) : (wa ++ wc2 ++ wb).map (·.1) = (wa ++ wc ++ wb).map (·.1) := by
  simp only [List.map_append, hs]
/-- behind a run of a callee with such a contract -/
theorem gx_after {wa wc wc2 wb : va_W} {st0 rest : List Value} {rv : Option Value} {pc2 : Nat} {H : Heap} {locs : List Loc} {ls : Array Slot} (hs : wc2.map (·.1) = wc.map (·.1)) (hP : va_P D cl (wa ++ wc ++ wb) H) (hD : va_D A (wa ++ wc ++ wb)) (hS : va_S A s.heap H locs) (hl : gx_L ls nL lv)
    (hr : va_Run p l e R s m args below meth c H locs cells slots 0 0 (F0 m pc ls st0) rest (fun st o t => o = .returned rv ∧ va_P D cl wc2 t.heap ∧ va_F (gx_in wc) st t) (gx_in wc)) (h2 : pc + 3 = pc2)
    (k : gx_G p l e R s m args below meth c D cl A nL cells slots Q (wa ++ wc2 ++ wb) pc2 lv (rv.toList ++ rest)) : W p l e R s m args below meth c H locs cells slots Q (F0 m pc ls st0) := by
  subst h2
  intro T hT X
  obtain ⟨v, st₀, t, T', L, h0, X', hL, e1, e2, ⟨hv, hP2, hF⟩, st⟩ := hr T hT X
  cases hv
  have hin : ∀ q, gx_in wc q → A q := fun q ⟨j, e9, hj⟩ => hD.2 _ _ (gx_mid (wa := wa) (wb := wb) hj)
  obtain ⟨k1, k2, k3⟩ := vx_keep h0 e1 hS (fun q _ h => hin q h) hin hL hF
  obtain ⟨t2, a1, b1⟩ := k T'.heap (locs ++ L) ls (gx_mid_P hs hP hD k2 (by rw [e1]; exact hP2)) (gx_D_same (gx_mid_fst hs) hD) k3 hl T' rfl X'
  exact ⟨t2, st t2 a1, b1⟩
theorem gx_callV {y : MethodName} {wsy wsy2 : List Cond} {rm : Room} {As rest : List Value} {b ci q0 n index maxL : Nat} {q : vw_C} {fs : List Value} {bytes : ByteArray} {ret : Option FieldType} {rv : Option Value} (wa wb : va_W) {wc wc2 : va_W} (C : CallFix p m c cc nL s args Ts own) (hK : va_K D cl tys s)
    (hM : gx_M l y wsy rm D cl tys (.ref b :: As) wc wc2 rv) (hs : wc2.map (·.1) = wc.map (·.1)) (hG : GoodIn Ts (wsV own index q.1 y wsy)) (hw : wsy = Cond.code y bytes maxL ret :: wsy2) (hrc : rm.cells = 0) (hrs : rm.slots = 0)
    (hyd : y.cls = q.1 ∧ y.cls ≠ "java/lang/invoke/MethodHandle" ∧ y.cls ≠ "java/lang/invoke/VarHandle" ∧ (parseMethodDescriptor y.desc).map (fun d => d.parameters.length) = some n) (hR : rm.frames + 1 ≤ R.frames ∧ 8 + (maxL + 11) + rm.locals ≤ R.locals) (hc : cl[ci]? = some q) (hb : wc[q0]? = some (b, .inr (ci, fs)))
    (hn : As.length = n) (hst : st = As.reverse ++ .ref b :: rest) (hcat : (rest.map fun v => v.category).sum ≤ 8) (hcl : cells ≤ R.cells) (hsl : slots ≤ R.slots) (hd : decode cc pc = .ok (.invokevirtual index, 3))
    (k : gx_G p l e R s m args below meth c D cl A nL cells slots Q (wa ++ wc2 ++ wb) (pc + 3) lv (rv.toList ++ rest)) : gx_G p l e R s m args below meth c D cl A nL cells slots Q (wa ++ wc ++ wb) pc lv st := by
  intro H locs ls hP hD hS hl
  have hPc : va_P D cl wc H := fun k9 q9 h9 => hP _ q9 (gx_mid h9)
  have hDc : va_D (fun _ => True) wc := ⟨fun i j x z hi hj hxz => by have := hD.1 _ _ x z (gx_mid (wa := wa) (wb := wb) hi) (gx_mid hj) hxz; omega, fun _ _ _ => trivial⟩
  subst hst
  exact gx_after hs hP hD hS hl (va_runV C hM (cwV n C.2.2.2.2 hG hw hrc hrs hyd hR) ⟨gx_blind, va_recv hK hPc hc hb, fun U hU hW => ⟨rfl, by rw [hU]; exact hPc, va_K.moved hW.alike hK, hDc⟩⟩ rfl hn hl.1 rfl (lv_room hcat) hd ⟨hcl, hsl⟩) rfl k
theorem gx_callS {y : MethodName} {wsy wsy2 : List Cond} {rm : Room} {As rest : List Value} {n index maxL : Nat} {bytes : ByteArray} {ret : Option FieldType} {rv : Option Value} (wa wb : va_W) {wc wc2 : va_W} (C : CallFix p m c cc nL s args Ts own) (hK : va_K D cl tys s)
    (hM : gx_M l y wsy rm D cl tys As wc wc2 rv) (hs : wc2.map (·.1) = wc.map (·.1)) (hG : GoodIn Ts (va_wsS own index y wsy)) (hw : wsy = Cond.code y bytes maxL ret :: wsy2) (hrc : rm.cells = 0) (hrs : rm.slots = 0)
    (hyd : y.cls ≠ "java/lang/invoke/MethodHandle" ∧ y.cls ≠ "java/lang/invoke/VarHandle" ∧ (parseMethodDescriptor y.desc).map (fun d => d.parameters.length) = some n) (hR : rm.frames + 1 ≤ R.frames ∧ 8 + (maxL + 11) + rm.locals ≤ R.locals)
    (hn : As.length = n) (hst : st = As.reverse ++ rest) (hcat : (rest.map fun v => v.category).sum ≤ 8) (hcl : cells ≤ R.cells) (hsl : slots ≤ R.slots) (hd : decode cc pc = .ok (.invokestatic index, 3))
    (k : gx_G p l e R s m args below meth c D cl A nL cells slots Q (wa ++ wc2 ++ wb) (pc + 3) lv (rv.toList ++ rest)) : gx_G p l e R s m args below meth c D cl A nL cells slots Q (wa ++ wc ++ wb) pc lv st := by
  intro H locs ls hP hD hS hl
  have hPc : va_P D cl wc H := fun k9 q9 h9 => hP _ q9 (gx_mid h9)
  have hDc : va_D (fun _ => True) wc := ⟨fun i j x z hi hj hxz => by have := hD.1 _ _ x z (gx_mid (wa := wa) (wb := wb) hi) (gx_mid hj) hxz; omega, fun _ _ _ => trivial⟩
  subst hst
  exact gx_after hs hP hD hS hl (va_runS C hM (va_cwS n C.2.2.2.2 hG hw hrc hrs hyd hR) ⟨gx_blind, fun U hU hW => ⟨rfl, by rw [hU]; exact hPc, va_K.moved hW.alike hK, hDc⟩⟩ rfl hn hl.1 rfl (lv_room hcat) hd ⟨hcl, hsl⟩) rfl k
theorem gx_callV0 {y : MethodName} {wsy wsy2 : List Cond} {rm : Room} {As rest : List Value} {b ci q0 n index maxL : Nat} {q : vw_C} {fs : List Value} {bytes : ByteArray} {ret : Option FieldType} {rv : Option Value} {wc wc2 : va_W} (C : CallFix p m c cc nL s args Ts own) (hK : va_K D cl tys s)
    (hM : gx_M l y wsy rm D cl tys (.ref b :: As) wc wc2 rv) (hs : wc2.map (·.1) = wc.map (·.1)) (hG : GoodIn Ts (wsV own index q.1 y wsy)) (hw : wsy = Cond.code y bytes maxL ret :: wsy2) (hrc : rm.cells = 0) (hrs : rm.slots = 0)
    (hyd : y.cls = q.1 ∧ y.cls ≠ "java/lang/invoke/MethodHandle" ∧ y.cls ≠ "java/lang/invoke/VarHandle" ∧ (parseMethodDescriptor y.desc).map (fun d => d.parameters.length) = some n) (hR : rm.frames + 1 ≤ R.frames ∧ 8 + (maxL + 11) + rm.locals ≤ R.locals) (hc : cl[ci]? = some q) (hb : wc[q0]? = some (b, .inr (ci, fs)))
    (hn : As.length = n) (hst : st = As.reverse ++ .ref b :: rest) (hcat : (rest.map fun v => v.category).sum ≤ 8) (hcl : cells ≤ R.cells) (hsl : slots ≤ R.slots) (hd : decode cc pc = .ok (.invokevirtual index, 3))
    (k : gx_G p l e R s m args below meth c D cl A nL cells slots Q wc2 (pc + 3) lv (rv.toList ++ rest)) : gx_G p l e R s m args below meth c D cl A nL cells slots Q wc pc lv st := by
  have h1 : ∀ w : va_W, [] ++ w ++ [] = w := fun w => by rw [List.nil_append, List.append_nil]
  have := gx_callV [] [] C hK hM hs hG hw hrc hrs hyd hR hc hb hn hst hcat hcl hsl hd (by rw [h1]; exact k)
  rw [h1] at this
  exact this
theorem gx_callS0 {y : MethodName} {wsy wsy2 : List Cond} {rm : Room} {As rest : List Value} {n index maxL : Nat} {bytes : ByteArray} {ret : Option FieldType} {rv : Option Value} (C : CallFix p m c cc nL s args Ts own) (hK : va_K D cl tys s)
    (hM : gx_M l y wsy rm D cl tys As [] [] rv) (hG : GoodIn Ts (va_wsS own index y wsy)) (hw : wsy = Cond.code y bytes maxL ret :: wsy2) (hrc : rm.cells = 0) (hrs : rm.slots = 0)
    (hyd : y.cls ≠ "java/lang/invoke/MethodHandle" ∧ y.cls ≠ "java/lang/invoke/VarHandle" ∧ (parseMethodDescriptor y.desc).map (fun d => d.parameters.length) = some n) (hR : rm.frames + 1 ≤ R.frames ∧ 8 + (maxL + 11) + rm.locals ≤ R.locals)
    (hn : As.length = n) (hst : st = As.reverse ++ rest) (hcat : (rest.map fun v => v.category).sum ≤ 8) (hcl : cells ≤ R.cells) (hsl : slots ≤ R.slots) (hd : decode cc pc = .ok (.invokestatic index, 3))
    (k : gx_G p l e R s m args below meth c D cl A nL cells slots Q ws (pc + 3) lv (rv.toList ++ rest)) : gx_G p l e R s m args below meth c D cl A nL cells slots Q ws pc lv st := by
  have h1 : ∀ w : va_W, w ++ [] ++ [] = w := fun w => by rw [List.append_nil, List.append_nil]
  have := gx_callS ws [] C hK hM rfl hG hw hrc hrs hyd hR hn hst hcat hcl hsl hd (by rw [h1]; exact k)
  rw [h1] at this
  exact this
theorem gx_cVi {y : MethodName} {wsy wsy2 : List Cond} {rm : Room} {As rest : List Value} {b ci q0 n index maxL : Nat} {q : vw_C} {fs : List Value} {bytes : ByteArray} {ret : Option FieldType} {r : Int32} {wc wc2 : va_W} (C : CallFix p m c cc nL s args Ts own) (hK : va_K D cl tys s)
    (hM : gx_M l y wsy rm D cl tys (.ref b :: As) wc wc2 (some (.int r))) (hs : wc2.map (·.1) = wc.map (·.1)) (hG : GoodIn Ts (wsV own index q.1 y wsy)) (hw : wsy = Cond.code y bytes maxL ret :: wsy2) (hrc : rm.cells = 0) (hrs : rm.slots = 0)
    (hyd : y.cls = q.1 ∧ y.cls ≠ "java/lang/invoke/MethodHandle" ∧ y.cls ≠ "java/lang/invoke/VarHandle" ∧ (parseMethodDescriptor y.desc).map (fun d => d.parameters.length) = some n) (hR : rm.frames + 1 ≤ R.frames ∧ 8 + (maxL + 11) + rm.locals ≤ R.locals) (hc : cl[ci]? = some q) (hb : wc[q0]? = some (b, .inr (ci, fs)))
    (hn : As.length = n) (hst : st = As.reverse ++ .ref b :: rest) (hcat : (rest.map fun v => v.category).sum ≤ 8) (hcl : cells ≤ R.cells) (hsl : slots ≤ R.slots) (hd : decode cc pc = .ok (.invokevirtual index, 3))
    (k : gx_G p l e R s m args below meth c D cl A nL cells slots Q wc2 (pc + 3) lv (.int r :: rest)) : gx_G p l e R s m args below meth c D cl A nL cells slots Q wc pc lv st := gx_callV0 (q0 := q0) C hK hM hs hG hw hrc hrs hyd hR hc hb hn hst hcat hcl hsl hd k
theorem gx_cVv {y : MethodName} {wsy wsy2 : List Cond} {rm : Room} {As rest : List Value} {b ci q0 n index maxL : Nat} {q : vw_C} {fs : List Value} {bytes : ByteArray} {ret : Option FieldType} {wc wc2 : va_W} (C : CallFix p m c cc nL s args Ts own) (hK : va_K D cl tys s)
    (hM : gx_M l y wsy rm D cl tys (.ref b :: As) wc wc2 none) (hs : wc2.map (·.1) = wc.map (·.1)) (hG : GoodIn Ts (wsV own index q.1 y wsy)) (hw : wsy = Cond.code y bytes maxL ret :: wsy2) (hrc : rm.cells = 0) (hrs : rm.slots = 0)
    (hyd : y.cls = q.1 ∧ y.cls ≠ "java/lang/invoke/MethodHandle" ∧ y.cls ≠ "java/lang/invoke/VarHandle" ∧ (parseMethodDescriptor y.desc).map (fun d => d.parameters.length) = some n) (hR : rm.frames + 1 ≤ R.frames ∧ 8 + (maxL + 11) + rm.locals ≤ R.locals) (hc : cl[ci]? = some q) (hb : wc[q0]? = some (b, .inr (ci, fs)))
    (hn : As.length = n) (hst : st = As.reverse ++ .ref b :: rest) (hcat : (rest.map fun v => v.category).sum ≤ 8) (hcl : cells ≤ R.cells) (hsl : slots ≤ R.slots) (hd : decode cc pc = .ok (.invokevirtual index, 3))
    (k : gx_G p l e R s m args below meth c D cl A nL cells slots Q wc2 (pc + 3) lv rest) : gx_G p l e R s m args below meth c D cl A nL cells slots Q wc pc lv st := gx_callV0 (q0 := q0) C hK hM hs hG hw hrc hrs hyd hR hc hb hn hst hcat hcl hsl hd k
theorem gx_cSi {y : MethodName} {wsy wsy2 : List Cond} {rm : Room} {As rest : List Value} {n index maxL : Nat} {bytes : ByteArray} {ret : Option FieldType} {r : Int32} (C : CallFix p m c cc nL s args Ts own) (hK : va_K D cl tys s)
    (hM : gx_M l y wsy rm D cl tys As [] [] (some (.int r))) (hG : GoodIn Ts (va_wsS own index y wsy)) (hw : wsy = Cond.code y bytes maxL ret :: wsy2) (hrc : rm.cells = 0) (hrs : rm.slots = 0)
    (hyd : y.cls ≠ "java/lang/invoke/MethodHandle" ∧ y.cls ≠ "java/lang/invoke/VarHandle" ∧ (parseMethodDescriptor y.desc).map (fun d => d.parameters.length) = some n) (hR : rm.frames + 1 ≤ R.frames ∧ 8 + (maxL + 11) + rm.locals ≤ R.locals)
    (hn : As.length = n) (hst : st = As.reverse ++ rest) (hcat : (rest.map fun v => v.category).sum ≤ 8) (hcl : cells ≤ R.cells) (hsl : slots ≤ R.slots) (hd : decode cc pc = .ok (.invokestatic index, 3))
    (k : gx_G p l e R s m args below meth c D cl A nL cells slots Q ws (pc + 3) lv (.int r :: rest)) : gx_G p l e R s m args below meth c D cl A nL cells slots Q ws pc lv st := gx_callS0 C hK hM hG hw hrc hrs hyd hR hn hst hcat hcl hsl hd k
/-- what a walk comes to: the answer rv and the world wc2 -/
def gx_Qm (D : va_G) (cl : List vw_C) (below : List Frame) (args : Array Value) (s : State) (wc wc2 : va_W) (rv : Option Value) : State → Prop := MQ below (fun _ st o t => o = .returned rv ∧ va_P D cl wc2 t.heap ∧ va_F (gx_in wc) st t) args s 0 0 (gx_in wc)
/-- a contract out of its walk -/
theorem gx_ofG {y : MethodName} {wsy wsy2 : List Cond} {rm : Room} {av : List Value} {wc wc2 : va_W} {rv : Option Value} {maxL : Nat} {ret : Option FieldType} (lv0 : List (Option Value)) (hy : plainName y.cls = true) (hw : wsy = Cond.code y cc maxL ret :: wsy2) (hav : av.all (fun v => v.category == 1) = true) (hlen : (lg_sl av).length ≤ maxL) (h0 : av.map some ++ List.replicate (maxL - av.length) none = lv0)
    (body : ∀ (p : Program) (e : Env) (s : State) (m : MethodId) (args : Array Value) (below : List Frame) (meth : Method) (c : Code), CallFix p m c cc maxL s args wsy y.cls → meth.sig.returnType = ret → meth.locks = false → va_K D cl tys s →
      gx_G p l e (headSpec wsy rm).room s m args below meth c D cl (gx_in wc) maxL 0 0 (gx_Qm D cl below args s wc wc2 rv) wc 0 lv0 []) : gx_M l y wsy rm D cl tys av wc wc2 rv := by
  refine Met.ofW (cc := cc) (maxL := maxL) (ret := ret) hy hw ?_
  intro p e s m args below meth c s₁ B hml hv
  obtain ⟨hv, hP, hK, hD⟩ := hv
  subst hv
  rw [lg_entry_eq]
  have hl := gx_L.entry av (fun v hv => by simpa using List.all_eq_true.mp hav v hv) hlen
  refine body p e s m _ below meth c ⟨B.exec, B.bytes, hml, findClass_of_methodNamed B.named, atoms_spec (ws := wsy) B.pre⟩ B.returns B.notSynchronized hK s.heap [] _ hP (gx_D_self hD) va_S.rf (hl.sub (fun i v hi => ?_))
  rw [← h0] at hi
  by_cases h : i < (av.map some).length
  · rw [List.getElem?_append_left h] at hi
    exact hi
  · rw [List.getElem?_append_right (by omega)] at hi
    have := List.mem_of_getElem? hi
    rw [List.mem_replicate] at this
    exact absurd this.2 (by simp)
section Rets
variable {wc wc2 : va_W} {rv : Option Value}
theorem gx_iret {v r : Int32} (C : CallFix p m c cc nL s args Ts own) (hr : meth.sig.returnType = some .int) (hlocks : meth.locks = false) (hd : decode cc pc = .ok (.ireturn, 1)) (hv : v = r) (hw : ws = wc2) : gx_G p l e R s m args below meth c D cl (gx_in wc) nL 0 0 (gx_Qm D cl below args s wc wc2 (some (.int r))) ws pc lv [.int v] := by
  subst hv; subst hw
  intro H locs ls hP hD hS hl
  exact W.iret C.1 C.2.1 hr (fun t ht hW => ⟨rfl, by rw [ht]; exact hP, hS.F ht⟩) hS.2.2 hd hlocks
theorem gx_zret {v r : Int32} (C : CallFix p m c cc nL s args Ts own) (hr : meth.sig.returnType = some .boolean) (hlocks : meth.locks = false) (hd : decode cc pc = .ok (.ireturn, 1)) (hn : narrow .boolean (.int v) = .int v) (hv : v = r) (hw : ws = wc2) : gx_G p l e R s m args below meth c D cl (gx_in wc) nL 0 0 (gx_Qm D cl below args s wc wc2 (some (.int r))) ws pc lv [.int v] := by
  subst hv; subst hw
  intro H locs ls hP hD hS hl
  exact W.zret C.1 C.2.1 hr hn (fun t ht hW => ⟨rfl, by rw [ht]; exact hP, hS.F ht⟩) hS.2.2 hd hlocks
theorem gx_vret (C : CallFix p m c cc nL s args Ts own) (hr : meth.sig.returnType = none) (hlocks : meth.locks = false) (hd : decode cc pc = .ok (.return_, 1)) (hw : ws = wc2) : gx_G p l e R s m args below meth c D cl (gx_in wc) nL 0 0 (gx_Qm D cl below args s wc wc2 none) ws pc lv [] := by
  subst hw
  intro H locs ls hP hD hS hl
  exact W.vret C.1 C.2.1 hr (fun t ht hW => ⟨rfl, by rw [ht]; exact hP, hS.F ht⟩) hS.2.2 hd hlocks
end Rets
theorem gx_iincN {i j : Nat} {lv2 : List (Option Value)} (C : CallFix p m c cc nL s args Ts own) (hd : decode cc pc = .ok (.iinc i 1, 3)) (h0 : lv[i]? = some (some (.int (nI j)))) (hn : i < nL) (hv : lv.set i (some (.int (nI (j + 1)))) = lv2) (k : gx_G p l e R s m args below meth c D cl A nL cells slots Q ws (pc + 3) lv2 st) : gx_G p l e R s m args below meth c D cl A nL cells slots Q ws pc lv st := gx_iinc C hd h0 (nI_1 j) hn hv k
end GX
end
section
/-- a memory of int arrays: a store into array k at place i -/
def mu (u : Nat → Nat → Int32) (k i : Nat) (v : Int32) : Nat → Nat → Int32 := fun k2 => if k2 = k then upd (u k) i v else u k2
theorem mu_same (u : Nat → Nat → Int32) (k i : Nat) (v : Int32) : mu u k i v k = upd (u k) i v := if_pos rfl
theorem mu_ne (u : Nat → Nat → Int32) {k k2 : Nat} (i : Nat) (v : Int32) (h : k2 ≠ k) : mu u k i v k2 = u k2 := if_neg h
theorem mu_at (u : Nat → Nat → Int32) (k i : Nat) (v : Int32) (k2 j : Nat) : mu u k i v k2 j = if k2 = k ∧ j = i then v else u k2 j := by
  by_cases h : k2 = k
  · subst h
    rw [mu_same]
    by_cases h2 : j = i
    · rw [if_pos ⟨rfl, h2⟩, h2]; exact pk_us
    · rw [if_neg (fun q => h2 q.2)]; exact pk_un h2
  · rw [mu_ne _ _ _ h, if_neg (fun q => h q.1)]
def bI (q : Bool) : Int32 := if q = true then 1 else 0
/-- is there one below k -/
def yAny (P : Nat → Bool) : Nat → Bool
  | 0 => false
  | k + 1 => yAny P k || P k
theorem yAny_true {P : Nat → Bool} : ∀ {k j : Nat}, j < k → P j = true → yAny P k = true
  | 0, _, h, _ => absurd h (Nat.not_lt_zero _)
  | k + 1, j, h, hp => by
    by_cases e : j = k
    · subst e; simp [yAny, hp]
    · simp [yAny, yAny_true (show j < k by omega) hp]
theorem yAny_iff {P : Nat → Bool} : ∀ {k : Nat}, yAny P k = true ↔ ∃ j, j < k ∧ P j = true
  | 0 => by simp [yAny]
  | k + 1 => by
    rw [yAny, Bool.or_eq_true, yAny_iff]
    constructor
    · rintro (⟨j, h1, h2⟩ | h)
      · exact ⟨j, by omega, h2⟩
      · exact ⟨k, by omega, h⟩
    · rintro ⟨j, h1, h2⟩
      by_cases e : j = k
      · subst e; exact Or.inr h2
      · exact Or.inl ⟨j, by omega, h2⟩
/-- how many below k -/
def yCnt (P : Nat → Bool) : Nat → Nat
  | 0 => 0
  | k + 1 => yCnt P k + (if P k = true then 1 else 0)
theorem yCnt_le {P : Nat → Bool} : ∀ k, yCnt P k ≤ k
  | 0 => Nat.le_refl _
  | k + 1 => by
    have := yCnt_le (P := P) k
    simp only [yCnt]
    split <;> omega
/-- the sum below k -/
def ySum (f : Nat → Int32) : Nat → Int32
  | 0 => 0
  | k + 1 => ySum f k + f k
end
section
/-- what a throw needs of the start: two static places of Throwable -/
def gx_T (A : Nat → Prop) (U : State) (H : Heap) : Prop := vx_Zq Bundle.tN "UNASSIGNED_STACK" Bundle.steD A U H ∧ vx_Zq Bundle.tN "SUPPRESSED_SENTINEL" Bundle.listD A U H
theorem gx_T.moved {A : Nat → Prop} {u U : State} {H : Heap} (hvm : u.vm.Alike U.vm) (h : gx_T A u H) : gx_T A U H := ⟨vx_Zq.moved hvm h.1, vx_Zq.moved hvm h.2⟩
theorem gx_T.kept {A : Nat → Prop} {U : State} {H H1 : Heap} (h : gx_T A U H) (hq : ∀ a : Nat, a < H.size → ¬ A a → H1[a]? = H[a]?) : gx_T A U H1 := ⟨vx_Zq.kept h.1 hq, vx_Zq.kept h.2 hq⟩
theorem gx_T.narrow {A B : Nat → Prop} {U : State} {H : Heap} (h : gx_T A U H) (hAB : ∀ q, B q → A q) : gx_T B U H := ⟨vx_Zq.narrow h.1 hAB, vx_Zq.narrow h.2 hAB⟩
/-- what is left behind a throw -/
def gx_XC (D : va_G) (cl : List vw_C) (wc : va_W) (E : String) : String → State → State → Prop := fun E2 st t => E2 = E ∧ va_P D cl wc t.heap ∧ va_F (gx_in wc) st t
/-- the start of a method that throws -/
def gx_XP (D : va_G) (cl : List vw_C) (tys : List (ClassId × FieldType)) (av : List Value) (wc : va_W) (so : String) (si : Nat) (tx : String) (sa : Nat) : Array Value → State → Prop := va_Pc av (fun U => va_P D cl wc U.heap ∧ va_K D cl tys U ∧ va_D (fun _ => True) wc ∧ gx_T (gx_in wc) U U.heap ∧ vk_R so si tx sa U)
/-- a method's contract: over the world wc it throws an E and leaves wc; the text is the String constant si of so, which lies at sa -/
def gx_X (l : Launch) (y : MethodName) (wsy : List Cond) (rm : Room) (D : va_G) (cl : List vw_C) (tys : List (ClassId × FieldType)) (av : List Value) (wc : va_W) (so : String) (si : Nat) (tx : String) (sa : Nat) (E : String) : Prop :=
  vx_Met l y wsy rm (gx_XP D cl tys av wc so si tx sa) (fun _ _ _ _ => False) (gx_XC D cl wc E) 1 6 (gx_in wc)
section GXX
variable {p : Program} {l : Launch} {e : Env} {R : Room} {s : State} {m : MethodId} {args : Array Value} {below : List Frame} {meth : Method} {c : Code} {D : va_G} {cl : List vw_C} {tys : List (ClassId × FieldType)} {A : Nat → Prop} {cc : ByteArray} {nL cells slots : Nat} {Q : State → Prop} {Ts : List Cond} {own : String} {ws wc : va_W} {pc : Nat} {lv : List (Option Value)} {st : List Value} {so : String} {si : Nat} {tx : String} {sa : Nat} {E : String}
theorem gx_Xblind {av : List Value} : FrameBlind (gx_XP D cl tys av wc so si tx sa) := fun a U g mk q => by
  obtain ⟨q0, qP, qK, qD, qT, qS⟩ := q
  exact ⟨q0, qP, va_K.moved (u := U) (U := U.calling g mk a) (Vm.Alike.refl U.vm) qK, qD, gx_T.moved (u := U) (U := U.calling g mk a) (Vm.Alike.refl U.vm) qT, vk_R.same (u := U) (U := U.calling g mk a) rfl qS⟩
/-- throw new E("text") -/
theorem gx_throw {names : List String} {ik ic : Nat} (C : CallFix p m c cc nL s args Ts own) (htr : l.stackTraces = false) (hcls : Bundle.fit E = true) (hnames : ∀ n ∈ names, Bundle.fit n = true)
    (hk : Cond.classLink own ik E ∈ Ts) (hini : Cond.initialized E ∈ Ts) (hat : ∀ w ∈ vx_atS own ic E names, w ∈ Ts) (hgood : ∀ w ∈ Cond.classLink own ik E :: Cond.initialized E :: vx_atS own ic E names, vx_ot w = true)
    (hT : gx_T (gx_in wc) s s.heap) (hZ : vk_R own si tx sa s)
    (d0 : decode cc pc = .ok (.new ik, 3)) (d3 : decode cc (pc + 3) = .ok (.dup, 1)) (d4 : decode cc (pc + 4) = .ok (.ldc si, 2)) (d6 : decode cc (pc + 6) = .ok (.invokespecial ic, 3)) (d9 : decode cc (pc + 9) = .ok (.athrow, 1))
    (hout : ∀ x ∈ c.exceptionTable.toList, False) (hRf : names.length + 3 < R.frames) (hRl : (st.map fun v => v.category).sum + (13 * (names.length + 1) + 43) ≤ R.locals) (hRc : cells + 1 ≤ R.cells) (hRs : slots + 6 ≤ R.slots) (hlocks : meth.locks = false) (hc : cells + 1 ≤ 1) (hs : slots + 6 ≤ 6) :
    gx_G p l e R s m args below meth c D cl (gx_in wc) nL cells slots (vx_MQ below (fun _ _ _ _ => False) (gx_XC D cl wc E) args s 1 6 (gx_in wc)) wc pc lv st := by
  intro H locs ls hP hD hS hl
  refine vx_throwS C.1 C.2.1 htr C.2.2.2.1 hcls hnames (C.2.2.2.2 _ hk) (C.2.2.2.2 _ hini) hZ (fun w hw => C.2.2.2.2 _ (hat w hw)) hgood hT.1 hT.2 hS (hl.1.trans C.2.2.1.symm) d0 d3 d4 d6 d9 (fun x hx => (hout x hx).elim) hRf hRl hRc hRs hlocks ?_ hS.2.2 hc hs
  intro t _ hz hk2
  exact ⟨rfl, hP.kept (fun k q hq => hk2 q.1 (hP k q hq).lt), Nat.le_trans hS.1 hz, fun q h1 h2 => (hk2 q (Nat.lt_of_lt_of_le h1 hS.1)).trans (hS.2.1 q h1 h2)⟩
theorem gx_ofX {y : MethodName} {wsy wsy2 : List Cond} {rm : Room} {av : List Value} {maxL : Nat} {ret : Option FieldType} (hy : plainName y.cls = true) (hw : wsy = Cond.code y cc maxL ret :: wsy2) (hav : ∀ v ∈ av, v.category = 1) (hlen : (lg_sl av).length ≤ maxL)
    (body : ∀ (p : Program) (e : Env) (s : State) (m : MethodId) (args : Array Value) (below : List Frame) (meth : Method) (c : Code), CallFix p m c cc maxL s args wsy y.cls → meth.locks = false → (∀ x ∈ c.exceptionTable.toList, False) → va_K D cl tys s → gx_T (gx_in wc) s s.heap → vk_R so si tx sa s →
      gx_G p l e (headSpec wsy rm).room s m args below meth c D cl (gx_in wc) maxL 0 0 (vx_MQ below (fun _ _ _ _ => False) (gx_XC D cl wc E) args s 1 6 (gx_in wc)) wc 0 (av.map some ++ List.replicate (maxL - av.length) none) []) : gx_X l y wsy rm D cl tys av wc so si tx sa E := by
  refine vx_ofW (cc := cc) (maxL := maxL) (ret := ret) hy hw ?_
  intro p e s m args below meth c s₁ B hml htab hv
  obtain ⟨hv, hP, hK, hD, hT, hZ⟩ := hv
  subst hv
  rw [lg_entry_eq]
  have hl := gx_L.entry av hav hlen
  refine body p e s m _ below meth c ⟨B.exec, B.bytes, hml, findClass_of_methodNamed B.named, atoms_spec (ws := wsy) B.pre⟩ B.notSynchronized htab hK hT hZ s.heap [] _ hP (gx_D_self hD) va_S.rf (hl.sub (fun i v hi => ?_))
  by_cases h : i < (av.map some).length
  · rw [List.getElem?_append_left h] at hi
    exact hi
  · rw [List.getElem?_append_right (by omega)] at hi
    have := List.mem_of_getElem? hi
    rw [List.mem_replicate] at this
    exact absurd this.2 (by simp)
/-- a callee throws, and it isn't caught here -/
theorem gx_callVX {y : MethodName} {wsy wsy2 : List Cond} {rm : Room} {As rest : List Value} {b ci q0 n index maxL : Nat} {q : vw_C} {fs : List Value} {bytes : ByteArray} {ret : Option FieldType} (C : CallFix p m c cc nL s args Ts own) (hK : va_K D cl tys s) (hT : gx_T (gx_in wc) s s.heap) (hZ : vk_R so si tx sa s)
    (hM : gx_X l y wsy rm D cl tys (.ref b :: As) wc so si tx sa E) (hG : GoodIn Ts (wsV own index q.1 y wsy)) (hw : wsy = Cond.code y bytes maxL ret :: wsy2) (hrc : rm.cells = 1) (hrs : rm.slots = 6)
    (hyd : y.cls = q.1 ∧ y.cls ≠ "java/lang/invoke/MethodHandle" ∧ y.cls ≠ "java/lang/invoke/VarHandle" ∧ (parseMethodDescriptor y.desc).map (fun d => d.parameters.length) = some n) (hR : rm.frames + 1 ≤ R.frames ∧ 8 + (maxL + 11) + rm.locals ≤ R.locals) (hc : cl[ci]? = some q) (hb : wc[q0]? = some (b, .inr (ci, fs)))
    (hn : As.length = n) (hst : st = As.reverse ++ .ref b :: rest) (hcat : (rest.map fun v => v.category).sum ≤ 8) (hcl : 0 + 1 ≤ R.cells) (hsl : 0 + 6 ≤ R.slots) (hd : decode cc pc = .ok (.invokevirtual index, 3)) (hout : ∀ x ∈ c.exceptionTable.toList, False) (hlocks : meth.locks = false) :
    gx_G p l e R s m args below meth c D cl (gx_in wc) nL 0 0 (vx_MQ below (fun _ _ _ _ => False) (gx_XC D cl wc E) args s 1 6 (gx_in wc)) wc pc lv st := by
  intro H locs ls hP hD hS hl
  subst hst
  have hr := vx_runV (locs := locs) (e := e) (below := below) (meth := meth) C hM (cwV n C.2.2.2.2 hG hw hrc hrs hyd hR) ⟨gx_Xblind, va_recv hK hP hc hb, fun U hU hW => ⟨rfl, by rw [hU]; exact hP, va_K.moved hW.alike hK, hD.weaken (fun _ _ _ _ => trivial), by rw [hU]; exact (hT.kept hS.2.1).moved hW.alike, vk_R.warm hW hZ⟩⟩ (g := F0 m pc ls (As.reverse ++ .ref b :: rest)) rfl hn hl.1 rfl (lv_room hcat) hd ⟨hcl, hsl⟩
  intro T hT2 X
  rcases hr T hT2 X with ⟨v, st₀, t, T', L, h0, X', hL, e1, e2, hF, st⟩ | ⟨q9, st₀, t, T', L, E2, ce, h0, X', hL, e1, e2, ⟨rfl, hP2, hF⟩, hce, hcv, hcl2, st⟩
  · exact hF.elim
  · have hin : ∀ z, gx_in wc z → gx_in wc z := fun _ h => h
    obtain ⟨k1, k2, k3⟩ := vx_keep h0 e1 hS (fun z _ h => h) hin hL hF
    obtain ⟨t2, a1, b1⟩ := vx_out (p := p) (l := l) (e := e) (R := R) (s := s) (m := m) (args := args) (below := below) (meth := meth) (c := c) (Qc := fun _ _ _ _ => False) (XC := gx_XC D cl wc E2) (free := gx_in wc) (mc := 1) (ms := 6) (H := T'.heap) (locs := locs ++ L) (cells := 0 + 1) (slots := 0 + 6) (pc := pc) (ls := ls) (rest := rest) (fun x hx => (hout x hx).elim) hlocks (by rw [e1]; exact hce) hcv hcl2 (fun t9 h9 _ => ⟨rfl, by rw [h9, e1]; exact hP2, by rw [h9]; exact k3.1, fun z h1 h2 => by rw [h9]; exact k3.2.1 z h1 h2⟩) k3.2.2 (Nat.le_refl _) (Nat.le_refl _) T' rfl X'
    exact ⟨t2, st.trans a1, b1⟩
end GXX
end
section
theorem mMmin_c : Cond.code Lib.Math.min.name Lib.Math.min.code 2 (some .int) ∈ bigW := bgt (i := 27) (by decide +kernel) (by decide +kernel)
theorem mMmin_s : Cond.static Lib.Math.min.name ∈ bigW := bgt (i := 26) (by decide +kernel) (by decide +kernel)
theorem mMmax_c : Cond.code Lib.Math.max.name Lib.Math.max.code 2 (some .int) ∈ bigW := bgt (i := 30) (by decide +kernel) (by decide +kernel)
theorem mMmax_s : Cond.static Lib.Math.max.name ∈ bigW := bgt (i := 29) (by decide +kernel) (by decide +kernel)
abbrev wsX3_init : List Cond := .code yX3_init cX3_init 4 none :: bigW
abbrev wsX3_held : List Cond := .code yX3_held cX3_held 2 (some .int) :: bigW
abbrev wsX0_init : List Cond := .code yX0_init cX0_init 1 none :: bigW
abbrev wsX2_init : List Cond := .code yX2_init cX2_init 4 none :: bigW
abbrev wsJ7_fill : List Cond := .code yJ7_fill cJ7_fill 4 none :: bigW
abbrev wsX1_init : List Cond := .code yX1_init cX1_init 1 none :: bigW
abbrev wsX3_ground : List Cond := .code yX3_ground cX3_ground 3 (some .boolean) :: bigW
abbrev wsX2_hasRow : List Cond := .code yX2_hasRow cX2_hasRow 2 (some .boolean) :: bigW
abbrev wsX3_isWithin : List Cond := .code yX3_isWithin cX3_isWithin 3 (some .boolean) :: bigW
abbrev wsX3_reserve : List Cond := .code yX3_reserve cX3_reserve 3 (some .boolean) :: bigW
abbrev wsX3_hasBoxOfAnotherShip : List Cond := .code yX3_hasBoxOfAnotherShip cX3_hasBoxOfAnotherShip 4 (some .boolean) :: bigW
abbrev wsX3_undo : List Cond := .code yX3_undo cX3_undo 3 (some .int) :: bigW
abbrev wsX1_dropLatest : List Cond := .code yX1_dropLatest cX1_dropLatest 1 (some .int) :: bigW
abbrev wsX2_bring : List Cond := .code yX2_bring cX2_bring 3 none :: bigW
abbrev wsX2_stands : List Cond := .code yX2_stands cX2_stands 2 (some .boolean) :: bigW
abbrev wsX2_lift : List Cond := .code yX2_lift cX2_lift 3 none :: bigW
abbrev wsX2_lay : List Cond := .code yX2_lay cX2_lay 4 none :: bigW
abbrev wsX3_count : List Cond := .code yX3_count cX3_count 2 (some .int) :: bigW
abbrev wsX3_standingBoxes : List Cond := .code yX3_standingBoxes cX3_standingBoxes 3 (some .int) :: bigW
abbrev wsX3_boxesInTheWay : List Cond := .code yX3_boxesInTheWay cX3_boxesInTheWay 3 (some .int) :: bigW
abbrev wsX3_isInTheWay : List Cond := .code yX3_isInTheWay cX3_isInTheWay 2 (some .boolean) :: bigW
abbrev wsX3_soonerBelow : List Cond := .code yX3_soonerBelow cX3_soonerBelow 6 (some .int) :: bigW
abbrev wsX3_countOfRow : List Cond := .code yX3_countOfRow cX3_countOfRow 3 (some .int) :: bigW
abbrev wsX3_weightOn : List Cond := .code yX3_weightOn cX3_weightOn 4 (some .int) :: bigW
abbrev wsL_cell : List Cond := .code yL_cell cL_cell 2 (some .int) :: bigW
abbrev wsL_box : List Cond := .codeWith yL_box cL_box 8 (some .int) [(0, 16, 19, 13), (0, 16, 23, 15)] :: bigW
abbrev wsX3_box : List Cond := .code yX3_box cX3_box 7 (some .int) :: bigW
abbrev wsX0_tell : List Cond := .code yX0_tell cX0_tell 7 (some .int) :: bigW
abbrev wsL_put : List Cond := .codeWith yL_put cL_put 5 (some .int) [(0, 10, 13, 21)] :: bigW
abbrev wsX3_put : List Cond := .code yX3_put cX3_put 4 (some .int) :: bigW
abbrev wsX3_requireBox : List Cond := .code yX3_requireBox cX3_requireBox 2 none :: bigW
abbrev wsX0_has : List Cond := .code yX0_has cX0_has 2 (some .boolean) :: bigW
abbrev wsX3_requireRow : List Cond := .code yX3_requireRow cX3_requireRow 2 none :: bigW
abbrev wsX3_ruleBrokenByPut : List Cond := .code yX3_ruleBrokenByPut cX3_ruleBrokenByPut 3 (some .int) :: bigW
abbrev wsX3_ruleBrokenOnTop : List Cond := .code yX3_ruleBrokenOnTop cX3_ruleBrokenOnTop 4 (some .int) :: bigW
abbrev wsX2_top : List Cond := .code yX2_top cX2_top 2 (some .int) :: bigW
abbrev wsX3_ruleBrokenByGround : List Cond := .code yX3_ruleBrokenByGround cX3_ruleBrokenByGround 2 (some .int) :: bigW
abbrev wsX3_move : List Cond := .code yX3_move cX3_move 3 none :: bigW
abbrev wsX1_keep : List Cond := .code yX1_keep cX1_keep 4 none :: bigW
abbrev wsL_take : List Cond := .codeWith yL_take cL_take 4 (some .int) [(0, 9, 12, 21)] :: bigW
abbrev wsX3_take : List Cond := .code yX3_take cX3_take 2 (some .int) :: bigW
abbrev wsX2_isOnTop : List Cond := .code yX2_isOnTop cX2_isOnTop 2 (some .boolean) :: bigW
abbrev wsX2_above : List Cond := .code yX2_above cX2_above 2 (some .int) :: bigW
abbrev wsL_shift : List Cond := .codeWith yL_shift cL_shift 5 (some .int) [(0, 10, 13, 21)] :: bigW
abbrev wsX3_shift : List Cond := .code yX3_shift cX3_shift 4 (some .int) :: bigW
abbrev wsX3_ruleBrokenByShift : List Cond := .code yX3_ruleBrokenByShift cX3_ruleBrokenByShift 3 (some .int) :: bigW
abbrev wsL_choose : List Cond := .codeWith yL_choose cL_choose 4 (some .int) [(0, 9, 12, 21)] :: bigW
abbrev wsX3_choose : List Cond := .code yX3_choose cX3_choose 2 (some .int) :: bigW
abbrev wsX3_bestRow : List Cond := .code yX3_bestRow cX3_bestRow 7 (some .int) :: bigW
abbrev wsX3_wouldBeInTheWay : List Cond := .code yX3_wouldBeInTheWay cX3_wouldBeInTheWay 3 (some .boolean) :: bigW
abbrev wsX3_scoreOn : List Cond := .code yX3_scoreOn cX3_scoreOn 9 (some .int) :: bigW
abbrev wsL_score : List Cond := .codeWith yL_score cL_score 5 (some .int) [(0, 10, 13, 21), (0, 10, 17, 15)] :: bigW
abbrev wsX3_score : List Cond := .code yX3_score cX3_score 3 (some .int) :: bigW
abbrev wsL_night : List Cond := .codeWith yL_night cL_night 4 (some .int) [(0, 9, 12, 13)] :: bigW
abbrev wsX3_night : List Cond := .code yX3_night cX3_night 3 (some .int) :: bigW
abbrev wsX3_moveOneAside : List Cond := .code yX3_moveOneAside cX3_moveOneAside 8 (some .boolean) :: bigW
abbrev wsL_where : List Cond := .codeWith yL_where cL_where 5 (some .int) [(0, 10, 13, 21)] :: bigW
abbrev wsX3_where : List Cond := .code yX3_where cX3_where 3 (some .int) :: bigW
abbrev wsL_at : List Cond := .codeWith yL_at cL_at 5 (some .int) [(0, 10, 13, 21)] :: bigW
abbrev wsX3_at : List Cond := .code yX3_at cX3_at 3 (some .int) :: bigW
abbrev wsX4_init : List Cond := .code yX4_init cX4_init 4 none :: bigW
abbrev wsX4_held : List Cond := .code yX4_held cX4_held 2 (some .int) :: bigW
abbrev wsX4_thrown : List Cond := .code yX4_thrown cX4_thrown 1 (some .int) :: bigW
abbrev wsX4_box : List Cond := .code yX4_box cX4_box 6 (some .int) :: bigW
abbrev wsX4_in : List Cond := .code yX4_in cX4_in 3 (some .boolean) :: bigW
abbrev wsX4_fails : List Cond := .code yX4_fails cX4_fails 2 (some .int) :: bigW
abbrev wsX4_ground : List Cond := .code yX4_ground cX4_ground 3 (some .boolean) :: bigW
abbrev wsX4_isRow : List Cond := .code yX4_isRow cX4_isRow 2 (some .boolean) :: bigW
abbrev wsX4_heightOf : List Cond := .code yX4_heightOf cX4_heightOf 4 (some .int) :: bigW
abbrev wsX4_reserve : List Cond := .code yX4_reserve cX4_reserve 4 (some .boolean) :: bigW
abbrev wsX4_put : List Cond := .code yX4_put cX4_put 4 (some .int) :: bigW
abbrev wsX4_isBox : List Cond := .code yX4_isBox cX4_isBox 2 (some .boolean) :: bigW
abbrev wsX4_broken : List Cond := .code yX4_broken cX4_broken 4 (some .int) :: bigW
abbrev wsX4_boxAt : List Cond := .code yX4_boxAt cX4_boxAt 5 (some .int) :: bigW
abbrev wsX4_weightOf : List Cond := .code yX4_weightOf cX4_weightOf 4 (some .int) :: bigW
abbrev wsX4_hasOtherSize : List Cond := .code yX4_hasOtherSize cX4_hasOtherSize 5 (some .boolean) :: bigW
abbrev wsX4_moves : List Cond := .code yX4_moves cX4_moves 4 none :: bigW
abbrev wsX4_goes : List Cond := .code yX4_goes cX4_goes 3 none :: bigW
abbrev wsX4_take : List Cond := .code yX4_take cX4_take 2 (some .int) :: bigW
abbrev wsX4_isTop : List Cond := .code yX4_isTop cX4_isTop 2 (some .boolean) :: bigW
abbrev wsX4_shift : List Cond := .code yX4_shift cX4_shift 4 (some .int) :: bigW
abbrev wsX4_choose : List Cond := .code yX4_choose cX4_choose 4 (some .int) :: bigW
abbrev wsX4_scoreOf : List Cond := .code yX4_scoreOf cX4_scoreOf 7 (some .int) :: bigW
abbrev wsX4_sooner : List Cond := .code yX4_sooner cX4_sooner 6 (some .int) :: bigW
abbrev wsX4_score : List Cond := .code yX4_score cX4_score 3 (some .int) :: bigW
abbrev wsX4_night : List Cond := .code yX4_night cX4_night 4 (some .int) :: bigW
abbrev wsX4_worst : List Cond := .code yX4_worst cX4_worst 6 (some .int) :: bigW
abbrev wsX4_aside : List Cond := .code yX4_aside cX4_aside 5 (some .int) :: bigW
abbrev wsX4_undo : List Cond := .code yX4_undo cX4_undo 2 (some .int) :: bigW
abbrev wsX4_where : List Cond := .code yX4_where cX4_where 4 (some .int) :: bigW
abbrev wsX4_at : List Cond := .code yX4_at cX4_at 3 (some .int) :: bigW
abbrev wsX4_count : List Cond := .code yX4_count cX4_count 5 (some .int) :: bigW
abbrev gT (cI cG cL : ClassId) : List (ClassId × FieldType) := [(cI, .int), (cG, .array .int), (cL, .long)]
def yW (cI cG : ClassId) (ad : Nat → Nat) (n t : Nat) (B : Int32) (u g : Nat → Nat → Int32) : va_W :=
  [(ad 0, .inr (3, [.int B, .ref (ad 1), .ref (ad 7), .ref (ad 12), .ref (ad 15), .ref (ad 16)])),
   (ad 1, .inr (0, [.ref (ad 2), .ref (ad 3), .ref (ad 4), .ref (ad 5), .ref (ad 6), .int (u 0 0)])),
   (ad 2, .inl (cI, 60, .inl (u 1))),
   (ad 3, .inl (cI, 60, .inl (u 2))),
   (ad 4, .inl (cI, 60, .inl (u 3))),
   (ad 5, .inl (cI, 60, .inl (u 4))),
   (ad 6, .inl (cI, 60, .inl (u 5))),
   (ad 7, .inr (2, [.int (nI n), .int (nI t), .ref (ad 10), .ref (ad 11), .ref (ad 8), .ref (ad 9)])),
   (ad 8, .inl (cI, 60, .inl (u 7))),
   (ad 9, .inl (cI, 60, .inl (u 8))),
   (ad 10, .inl (cG, n, .inr (.inr (.inr (.inr (fun i => if i < n then some (ad (17 + i)) else none)))))),
   (ad 11, .inl (cI, n, .inl (u 6))),
   (ad 12, .inr (1, [.ref (ad 13), .ref (ad 14), .int (u 0 1), .int (u 0 2)])),
   (ad 13, .inl (cI, 100, .inl (u 9))),
   (ad 14, .inl (cI, 100, .inl (u 10))),
   (ad 15, .inl (cI, 16, .inl (u 11))),
   (ad 16, .inl (cI, 16, .inl (u 12)))] ++ (List.range n).map (fun r => (ad (17 + r), .inl (cI, t, .inl (g r))))
theorem yW_fst {cI cG : ClassId} {ad : Nat → Nat} {n t : Nat} {B : Int32} {u g : Nat → Nat → Int32} {u2 g2 : Nat → Nat → Int32} : (yW cI cG ad n t B u2 g2).map (·.1) = (yW cI cG ad n t B u g).map (·.1) := by
  simp only [yW, List.map_append, List.map_map, List.map_cons, List.map_nil]
  rfl
section YROWS
variable {p : Program} {l : Launch} {e : Env} {R : Room} {s : State} {m : MethodId} {args : Array Value} {below : List Frame} {meth : Method} {c : Code} {D : va_G} {A : Nat → Prop} {cc : ByteArray} {nL cells slots : Nat} {Q : State → Prop} {Ts : List Cond} {own : String} {pc : Nat} {lv : List (Option Value)} {st : List Value} {cI cG : ClassId} {ad : Nat → Nat} {n t : Nat} {B : Int32} {u g : Nat → Nat → Int32}
theorem yg_X3_bears {index : Nat} {tys : List (ClassId × FieldType)} (C : CallFix p m c cc nL s args Ts own) (hK : va_K D vwCl tys s) (hT : ∀ w ∈ bigW, w ∈ Ts) (hlink : Cond.fieldLink own index "YardStacks" "bears" "I" ∈ bigW) (hd : decode cc pc = .ok (.getfield index, 3)) (k : gx_G p l e R s m args below meth c D vwCl A nL cells slots Q (yW cI cG ad n t B u g) (pc + 3) lv (.int B :: st)) : gx_G p l e R s m args below meth c D vwCl A nL cells slots Q (yW cI cG ad n t B u g) pc lv (.ref (ad 0) :: st) := gx_get (ref := "YardStacks") (Cn := RX3) (T := TX3) (N := 6) C hK (fun w h => hT w (inX3 w h)) 0 rfl rfl 0 (by decide) (hT _ hlink) rfl rfl hd k
theorem yg_X3_boxes {index : Nat} {tys : List (ClassId × FieldType)} (C : CallFix p m c cc nL s args Ts own) (hK : va_K D vwCl tys s) (hT : ∀ w ∈ bigW, w ∈ Ts) (hlink : Cond.fieldLink own index "YardStacks" "boxes" "LYardStacks$Boxes;" ∈ bigW) (hd : decode cc pc = .ok (.getfield index, 3)) (k : gx_G p l e R s m args below meth c D vwCl A nL cells slots Q (yW cI cG ad n t B u g) (pc + 3) lv (.ref (ad 1) :: st)) : gx_G p l e R s m args below meth c D vwCl A nL cells slots Q (yW cI cG ad n t B u g) pc lv (.ref (ad 0) :: st) := gx_get (ref := "YardStacks") (Cn := RX3) (T := TX3) (N := 6) C hK (fun w h => hT w (inX3 w h)) 0 rfl rfl 1 (by decide) (hT _ hlink) rfl rfl hd k
theorem yg_X3_stacks {index : Nat} {tys : List (ClassId × FieldType)} (C : CallFix p m c cc nL s args Ts own) (hK : va_K D vwCl tys s) (hT : ∀ w ∈ bigW, w ∈ Ts) (hlink : Cond.fieldLink own index "YardStacks" "stacks" "LYardStacks$Stacks;" ∈ bigW) (hd : decode cc pc = .ok (.getfield index, 3)) (k : gx_G p l e R s m args below meth c D vwCl A nL cells slots Q (yW cI cG ad n t B u g) (pc + 3) lv (.ref (ad 7) :: st)) : gx_G p l e R s m args below meth c D vwCl A nL cells slots Q (yW cI cG ad n t B u g) pc lv (.ref (ad 0) :: st) := gx_get (ref := "YardStacks") (Cn := RX3) (T := TX3) (N := 6) C hK (fun w h => hT w (inX3 w h)) 0 rfl rfl 2 (by decide) (hT _ hlink) rfl rfl hd k
theorem yg_X3_history {index : Nat} {tys : List (ClassId × FieldType)} (C : CallFix p m c cc nL s args Ts own) (hK : va_K D vwCl tys s) (hT : ∀ w ∈ bigW, w ∈ Ts) (hlink : Cond.fieldLink own index "YardStacks" "history" "LYardStacks$Moves;" ∈ bigW) (hd : decode cc pc = .ok (.getfield index, 3)) (k : gx_G p l e R s m args below meth c D vwCl A nL cells slots Q (yW cI cG ad n t B u g) (pc + 3) lv (.ref (ad 12) :: st)) : gx_G p l e R s m args below meth c D vwCl A nL cells slots Q (yW cI cG ad n t B u g) pc lv (.ref (ad 0) :: st) := gx_get (ref := "YardStacks") (Cn := RX3) (T := TX3) (N := 6) C hK (fun w h => hT w (inX3 w h)) 0 rfl rfl 3 (by decide) (hT _ hlink) rfl rfl hd k
theorem yg_X3_grounds {index : Nat} {tys : List (ClassId × FieldType)} (C : CallFix p m c cc nL s args Ts own) (hK : va_K D vwCl tys s) (hT : ∀ w ∈ bigW, w ∈ Ts) (hlink : Cond.fieldLink own index "YardStacks" "grounds" "[I" ∈ bigW) (hd : decode cc pc = .ok (.getfield index, 3)) (k : gx_G p l e R s m args below meth c D vwCl A nL cells slots Q (yW cI cG ad n t B u g) (pc + 3) lv (.ref (ad 15) :: st)) : gx_G p l e R s m args below meth c D vwCl A nL cells slots Q (yW cI cG ad n t B u g) pc lv (.ref (ad 0) :: st) := gx_get (ref := "YardStacks") (Cn := RX3) (T := TX3) (N := 6) C hK (fun w h => hT w (inX3 w h)) 0 rfl rfl 4 (by decide) (hT _ hlink) rfl rfl hd k
theorem yg_X3_reservedFor {index : Nat} {tys : List (ClassId × FieldType)} (C : CallFix p m c cc nL s args Ts own) (hK : va_K D vwCl tys s) (hT : ∀ w ∈ bigW, w ∈ Ts) (hlink : Cond.fieldLink own index "YardStacks" "reservedFor" "[I" ∈ bigW) (hd : decode cc pc = .ok (.getfield index, 3)) (k : gx_G p l e R s m args below meth c D vwCl A nL cells slots Q (yW cI cG ad n t B u g) (pc + 3) lv (.ref (ad 16) :: st)) : gx_G p l e R s m args below meth c D vwCl A nL cells slots Q (yW cI cG ad n t B u g) pc lv (.ref (ad 0) :: st) := gx_get (ref := "YardStacks") (Cn := RX3) (T := TX3) (N := 6) C hK (fun w h => hT w (inX3 w h)) 0 rfl rfl 5 (by decide) (hT _ hlink) rfl rfl hd k
theorem yg_X0_size {index : Nat} {tys : List (ClassId × FieldType)} (C : CallFix p m c cc nL s args Ts own) (hK : va_K D vwCl tys s) (hT : ∀ w ∈ bigW, w ∈ Ts) (hlink : Cond.fieldLink own index "YardStacks$Boxes" "size" "[I" ∈ bigW) (hd : decode cc pc = .ok (.getfield index, 3)) (k : gx_G p l e R s m args below meth c D vwCl A nL cells slots Q (yW cI cG ad n t B u g) (pc + 3) lv (.ref (ad 2) :: st)) : gx_G p l e R s m args below meth c D vwCl A nL cells slots Q (yW cI cG ad n t B u g) pc lv (.ref (ad 1) :: st) := gx_get (ref := "YardStacks$Boxes") (Cn := RX0) (T := TX0) (N := 6) C hK (fun w h => hT w (inX0 w h)) 1 rfl rfl 0 (by decide) (hT _ hlink) rfl rfl hd k
theorem yg_X0_weight {index : Nat} {tys : List (ClassId × FieldType)} (C : CallFix p m c cc nL s args Ts own) (hK : va_K D vwCl tys s) (hT : ∀ w ∈ bigW, w ∈ Ts) (hlink : Cond.fieldLink own index "YardStacks$Boxes" "weight" "[I" ∈ bigW) (hd : decode cc pc = .ok (.getfield index, 3)) (k : gx_G p l e R s m args below meth c D vwCl A nL cells slots Q (yW cI cG ad n t B u g) (pc + 3) lv (.ref (ad 3) :: st)) : gx_G p l e R s m args below meth c D vwCl A nL cells slots Q (yW cI cG ad n t B u g) pc lv (.ref (ad 1) :: st) := gx_get (ref := "YardStacks$Boxes") (Cn := RX0) (T := TX0) (N := 6) C hK (fun w h => hT w (inX0 w h)) 1 rfl rfl 1 (by decide) (hT _ hlink) rfl rfl hd k
theorem yg_X0_leaves {index : Nat} {tys : List (ClassId × FieldType)} (C : CallFix p m c cc nL s args Ts own) (hK : va_K D vwCl tys s) (hT : ∀ w ∈ bigW, w ∈ Ts) (hlink : Cond.fieldLink own index "YardStacks$Boxes" "leaves" "[I" ∈ bigW) (hd : decode cc pc = .ok (.getfield index, 3)) (k : gx_G p l e R s m args below meth c D vwCl A nL cells slots Q (yW cI cG ad n t B u g) (pc + 3) lv (.ref (ad 4) :: st)) : gx_G p l e R s m args below meth c D vwCl A nL cells slots Q (yW cI cG ad n t B u g) pc lv (.ref (ad 1) :: st) := gx_get (ref := "YardStacks$Boxes") (Cn := RX0) (T := TX0) (N := 6) C hK (fun w h => hT w (inX0 w h)) 1 rfl rfl 2 (by decide) (hT _ hlink) rfl rfl hd k
theorem yg_X0_ship {index : Nat} {tys : List (ClassId × FieldType)} (C : CallFix p m c cc nL s args Ts own) (hK : va_K D vwCl tys s) (hT : ∀ w ∈ bigW, w ∈ Ts) (hlink : Cond.fieldLink own index "YardStacks$Boxes" "ship" "[I" ∈ bigW) (hd : decode cc pc = .ok (.getfield index, 3)) (k : gx_G p l e R s m args below meth c D vwCl A nL cells slots Q (yW cI cG ad n t B u g) (pc + 3) lv (.ref (ad 5) :: st)) : gx_G p l e R s m args below meth c D vwCl A nL cells slots Q (yW cI cG ad n t B u g) pc lv (.ref (ad 1) :: st) := gx_get (ref := "YardStacks$Boxes") (Cn := RX0) (T := TX0) (N := 6) C hK (fun w h => hT w (inX0 w h)) 1 rfl rfl 3 (by decide) (hT _ hlink) rfl rfl hd k
theorem yg_X0_kind {index : Nat} {tys : List (ClassId × FieldType)} (C : CallFix p m c cc nL s args Ts own) (hK : va_K D vwCl tys s) (hT : ∀ w ∈ bigW, w ∈ Ts) (hlink : Cond.fieldLink own index "YardStacks$Boxes" "kind" "[I" ∈ bigW) (hd : decode cc pc = .ok (.getfield index, 3)) (k : gx_G p l e R s m args below meth c D vwCl A nL cells slots Q (yW cI cG ad n t B u g) (pc + 3) lv (.ref (ad 6) :: st)) : gx_G p l e R s m args below meth c D vwCl A nL cells slots Q (yW cI cG ad n t B u g) pc lv (.ref (ad 1) :: st) := gx_get (ref := "YardStacks$Boxes") (Cn := RX0) (T := TX0) (N := 6) C hK (fun w h => hT w (inX0 w h)) 1 rfl rfl 4 (by decide) (hT _ hlink) rfl rfl hd k
theorem yg_X0_told {index : Nat} {tys : List (ClassId × FieldType)} (C : CallFix p m c cc nL s args Ts own) (hK : va_K D vwCl tys s) (hT : ∀ w ∈ bigW, w ∈ Ts) (hlink : Cond.fieldLink own index "YardStacks$Boxes" "told" "I" ∈ bigW) (hd : decode cc pc = .ok (.getfield index, 3)) (k : gx_G p l e R s m args below meth c D vwCl A nL cells slots Q (yW cI cG ad n t B u g) (pc + 3) lv (.int (u 0 0) :: st)) : gx_G p l e R s m args below meth c D vwCl A nL cells slots Q (yW cI cG ad n t B u g) pc lv (.ref (ad 1) :: st) := gx_get (ref := "YardStacks$Boxes") (Cn := RX0) (T := TX0) (N := 6) C hK (fun w h => hT w (inX0 w h)) 1 rfl rfl 5 (by decide) (hT _ hlink) rfl rfl hd k
theorem yp_X0_told {index : Nat} {x : Int32} {tys : List (ClassId × FieldType)} (C : CallFix p m c cc nL s args Ts own) (hK : va_K D vwCl tys s) (hT : ∀ w ∈ bigW, w ∈ Ts) (hlink : Cond.fieldLink own index "YardStacks$Boxes" "told" "I" ∈ bigW) (hd : decode cc pc = .ok (.putfield index, 3)) (k : gx_G p l e R s m args below meth c D vwCl A nL cells slots Q (yW cI cG ad n t B (mu u 0 0 x) g) (pc + 3) lv st) : gx_G p l e R s m args below meth c D vwCl A nL cells slots Q (yW cI cG ad n t B u g) pc lv (.int x :: .ref (ad 1) :: st) := gx_put (ref := "YardStacks$Boxes") (Cn := RX0) (T := TX0) (N := 6) (ws2 := (yW cI cG ad n t B (mu u 0 0 x) g)) C hK (fun w h => hT w (inX0 w h)) tyX0 tyX0_ok nmX0 1 rfl rfl 5 (by decide) (hT _ hlink) rfl rfl rfl rfl rfl (Nat.le_of_ble_eq_true rfl) hd rfl k
theorem yl_1 {b : Nat} {tys : List (ClassId × FieldType)} (C : CallFix p m c cc nL s args Ts own) (hK : va_K D vwCl tys s) (ht : tys[0]? = some (cI, .int)) (hb : b < 60) (hd : decode cc pc = .ok (.iaload, 1)) (k : gx_G p l e R s m args below meth c D vwCl A nL cells slots Q (yW cI cG ad n t B u g) (pc + 1) lv (.int (u 1 b) :: st)) : gx_G p l e R s m args below meth c D vwCl A nL cells slots Q (yW cI cG ad n t B u g) pc lv (.int (nI b) :: .ref (ad 2) :: st) := gx_ialdN C hK 2 0 rfl ht hb (by decide) hd k
theorem ys_1 {b : Nat} {x : Int32} {tys : List (ClassId × FieldType)} (C : CallFix p m c cc nL s args Ts own) (hK : va_K D vwCl tys s) (ht : tys[0]? = some (cI, .int)) (hb : b < 60) (hd : decode cc pc = .ok (.iastore, 1)) (k : gx_G p l e R s m args below meth c D vwCl A nL cells slots Q (yW cI cG ad n t B (mu u 1 b x) g) (pc + 1) lv st) : gx_G p l e R s m args below meth c D vwCl A nL cells slots Q (yW cI cG ad n t B u g) pc lv (.int x :: .int (nI b) :: .ref (ad 2) :: st) := gx_iastN (ws2 := (yW cI cG ad n t B (mu u 1 b x) g)) C hK 2 0 rfl ht hb (by decide) hd rfl k
theorem yl_2 {b : Nat} {tys : List (ClassId × FieldType)} (C : CallFix p m c cc nL s args Ts own) (hK : va_K D vwCl tys s) (ht : tys[0]? = some (cI, .int)) (hb : b < 60) (hd : decode cc pc = .ok (.iaload, 1)) (k : gx_G p l e R s m args below meth c D vwCl A nL cells slots Q (yW cI cG ad n t B u g) (pc + 1) lv (.int (u 2 b) :: st)) : gx_G p l e R s m args below meth c D vwCl A nL cells slots Q (yW cI cG ad n t B u g) pc lv (.int (nI b) :: .ref (ad 3) :: st) := gx_ialdN C hK 3 0 rfl ht hb (by decide) hd k
theorem ys_2 {b : Nat} {x : Int32} {tys : List (ClassId × FieldType)} (C : CallFix p m c cc nL s args Ts own) (hK : va_K D vwCl tys s) (ht : tys[0]? = some (cI, .int)) (hb : b < 60) (hd : decode cc pc = .ok (.iastore, 1)) (k : gx_G p l e R s m args below meth c D vwCl A nL cells slots Q (yW cI cG ad n t B (mu u 2 b x) g) (pc + 1) lv st) : gx_G p l e R s m args below meth c D vwCl A nL cells slots Q (yW cI cG ad n t B u g) pc lv (.int x :: .int (nI b) :: .ref (ad 3) :: st) := gx_iastN (ws2 := (yW cI cG ad n t B (mu u 2 b x) g)) C hK 3 0 rfl ht hb (by decide) hd rfl k
theorem yl_3 {b : Nat} {tys : List (ClassId × FieldType)} (C : CallFix p m c cc nL s args Ts own) (hK : va_K D vwCl tys s) (ht : tys[0]? = some (cI, .int)) (hb : b < 60) (hd : decode cc pc = .ok (.iaload, 1)) (k : gx_G p l e R s m args below meth c D vwCl A nL cells slots Q (yW cI cG ad n t B u g) (pc + 1) lv (.int (u 3 b) :: st)) : gx_G p l e R s m args below meth c D vwCl A nL cells slots Q (yW cI cG ad n t B u g) pc lv (.int (nI b) :: .ref (ad 4) :: st) := gx_ialdN C hK 4 0 rfl ht hb (by decide) hd k
theorem ys_3 {b : Nat} {x : Int32} {tys : List (ClassId × FieldType)} (C : CallFix p m c cc nL s args Ts own) (hK : va_K D vwCl tys s) (ht : tys[0]? = some (cI, .int)) (hb : b < 60) (hd : decode cc pc = .ok (.iastore, 1)) (k : gx_G p l e R s m args below meth c D vwCl A nL cells slots Q (yW cI cG ad n t B (mu u 3 b x) g) (pc + 1) lv st) : gx_G p l e R s m args below meth c D vwCl A nL cells slots Q (yW cI cG ad n t B u g) pc lv (.int x :: .int (nI b) :: .ref (ad 4) :: st) := gx_iastN (ws2 := (yW cI cG ad n t B (mu u 3 b x) g)) C hK 4 0 rfl ht hb (by decide) hd rfl k
theorem yl_4 {b : Nat} {tys : List (ClassId × FieldType)} (C : CallFix p m c cc nL s args Ts own) (hK : va_K D vwCl tys s) (ht : tys[0]? = some (cI, .int)) (hb : b < 60) (hd : decode cc pc = .ok (.iaload, 1)) (k : gx_G p l e R s m args below meth c D vwCl A nL cells slots Q (yW cI cG ad n t B u g) (pc + 1) lv (.int (u 4 b) :: st)) : gx_G p l e R s m args below meth c D vwCl A nL cells slots Q (yW cI cG ad n t B u g) pc lv (.int (nI b) :: .ref (ad 5) :: st) := gx_ialdN C hK 5 0 rfl ht hb (by decide) hd k
theorem ys_4 {b : Nat} {x : Int32} {tys : List (ClassId × FieldType)} (C : CallFix p m c cc nL s args Ts own) (hK : va_K D vwCl tys s) (ht : tys[0]? = some (cI, .int)) (hb : b < 60) (hd : decode cc pc = .ok (.iastore, 1)) (k : gx_G p l e R s m args below meth c D vwCl A nL cells slots Q (yW cI cG ad n t B (mu u 4 b x) g) (pc + 1) lv st) : gx_G p l e R s m args below meth c D vwCl A nL cells slots Q (yW cI cG ad n t B u g) pc lv (.int x :: .int (nI b) :: .ref (ad 5) :: st) := gx_iastN (ws2 := (yW cI cG ad n t B (mu u 4 b x) g)) C hK 5 0 rfl ht hb (by decide) hd rfl k
theorem yl_5 {b : Nat} {tys : List (ClassId × FieldType)} (C : CallFix p m c cc nL s args Ts own) (hK : va_K D vwCl tys s) (ht : tys[0]? = some (cI, .int)) (hb : b < 60) (hd : decode cc pc = .ok (.iaload, 1)) (k : gx_G p l e R s m args below meth c D vwCl A nL cells slots Q (yW cI cG ad n t B u g) (pc + 1) lv (.int (u 5 b) :: st)) : gx_G p l e R s m args below meth c D vwCl A nL cells slots Q (yW cI cG ad n t B u g) pc lv (.int (nI b) :: .ref (ad 6) :: st) := gx_ialdN C hK 6 0 rfl ht hb (by decide) hd k
theorem ys_5 {b : Nat} {x : Int32} {tys : List (ClassId × FieldType)} (C : CallFix p m c cc nL s args Ts own) (hK : va_K D vwCl tys s) (ht : tys[0]? = some (cI, .int)) (hb : b < 60) (hd : decode cc pc = .ok (.iastore, 1)) (k : gx_G p l e R s m args below meth c D vwCl A nL cells slots Q (yW cI cG ad n t B (mu u 5 b x) g) (pc + 1) lv st) : gx_G p l e R s m args below meth c D vwCl A nL cells slots Q (yW cI cG ad n t B u g) pc lv (.int x :: .int (nI b) :: .ref (ad 6) :: st) := gx_iastN (ws2 := (yW cI cG ad n t B (mu u 5 b x) g)) C hK 6 0 rfl ht hb (by decide) hd rfl k
theorem yg_X2_rows {index : Nat} {tys : List (ClassId × FieldType)} (C : CallFix p m c cc nL s args Ts own) (hK : va_K D vwCl tys s) (hT : ∀ w ∈ bigW, w ∈ Ts) (hlink : Cond.fieldLink own index "YardStacks$Stacks" "rows" "I" ∈ bigW) (hd : decode cc pc = .ok (.getfield index, 3)) (k : gx_G p l e R s m args below meth c D vwCl A nL cells slots Q (yW cI cG ad n t B u g) (pc + 3) lv (.int (nI n) :: st)) : gx_G p l e R s m args below meth c D vwCl A nL cells slots Q (yW cI cG ad n t B u g) pc lv (.ref (ad 7) :: st) := gx_get (ref := "YardStacks$Stacks") (Cn := RX2) (T := TX2) (N := 6) C hK (fun w h => hT w (inX2 w h)) 7 rfl rfl 0 (by decide) (hT _ hlink) rfl rfl hd k
theorem yg_X2_tiers {index : Nat} {tys : List (ClassId × FieldType)} (C : CallFix p m c cc nL s args Ts own) (hK : va_K D vwCl tys s) (hT : ∀ w ∈ bigW, w ∈ Ts) (hlink : Cond.fieldLink own index "YardStacks$Stacks" "tiers" "I" ∈ bigW) (hd : decode cc pc = .ok (.getfield index, 3)) (k : gx_G p l e R s m args below meth c D vwCl A nL cells slots Q (yW cI cG ad n t B u g) (pc + 3) lv (.int (nI t) :: st)) : gx_G p l e R s m args below meth c D vwCl A nL cells slots Q (yW cI cG ad n t B u g) pc lv (.ref (ad 7) :: st) := gx_get (ref := "YardStacks$Stacks") (Cn := RX2) (T := TX2) (N := 6) C hK (fun w h => hT w (inX2 w h)) 7 rfl rfl 1 (by decide) (hT _ hlink) rfl rfl hd k
theorem yg_X2_cells {index : Nat} {tys : List (ClassId × FieldType)} (C : CallFix p m c cc nL s args Ts own) (hK : va_K D vwCl tys s) (hT : ∀ w ∈ bigW, w ∈ Ts) (hlink : Cond.fieldLink own index "YardStacks$Stacks" "cells" "[[I" ∈ bigW) (hd : decode cc pc = .ok (.getfield index, 3)) (k : gx_G p l e R s m args below meth c D vwCl A nL cells slots Q (yW cI cG ad n t B u g) (pc + 3) lv (.ref (ad 10) :: st)) : gx_G p l e R s m args below meth c D vwCl A nL cells slots Q (yW cI cG ad n t B u g) pc lv (.ref (ad 7) :: st) := gx_get (ref := "YardStacks$Stacks") (Cn := RX2) (T := TX2) (N := 6) C hK (fun w h => hT w (inX2 w h)) 7 rfl rfl 2 (by decide) (hT _ hlink) rfl rfl hd k
theorem yg_X2_heights {index : Nat} {tys : List (ClassId × FieldType)} (C : CallFix p m c cc nL s args Ts own) (hK : va_K D vwCl tys s) (hT : ∀ w ∈ bigW, w ∈ Ts) (hlink : Cond.fieldLink own index "YardStacks$Stacks" "heights" "[I" ∈ bigW) (hd : decode cc pc = .ok (.getfield index, 3)) (k : gx_G p l e R s m args below meth c D vwCl A nL cells slots Q (yW cI cG ad n t B u g) (pc + 3) lv (.ref (ad 11) :: st)) : gx_G p l e R s m args below meth c D vwCl A nL cells slots Q (yW cI cG ad n t B u g) pc lv (.ref (ad 7) :: st) := gx_get (ref := "YardStacks$Stacks") (Cn := RX2) (T := TX2) (N := 6) C hK (fun w h => hT w (inX2 w h)) 7 rfl rfl 3 (by decide) (hT _ hlink) rfl rfl hd k
theorem yg_X2_rowOf {index : Nat} {tys : List (ClassId × FieldType)} (C : CallFix p m c cc nL s args Ts own) (hK : va_K D vwCl tys s) (hT : ∀ w ∈ bigW, w ∈ Ts) (hlink : Cond.fieldLink own index "YardStacks$Stacks" "rowOf" "[I" ∈ bigW) (hd : decode cc pc = .ok (.getfield index, 3)) (k : gx_G p l e R s m args below meth c D vwCl A nL cells slots Q (yW cI cG ad n t B u g) (pc + 3) lv (.ref (ad 8) :: st)) : gx_G p l e R s m args below meth c D vwCl A nL cells slots Q (yW cI cG ad n t B u g) pc lv (.ref (ad 7) :: st) := gx_get (ref := "YardStacks$Stacks") (Cn := RX2) (T := TX2) (N := 6) C hK (fun w h => hT w (inX2 w h)) 7 rfl rfl 4 (by decide) (hT _ hlink) rfl rfl hd k
theorem yg_X2_tierOf {index : Nat} {tys : List (ClassId × FieldType)} (C : CallFix p m c cc nL s args Ts own) (hK : va_K D vwCl tys s) (hT : ∀ w ∈ bigW, w ∈ Ts) (hlink : Cond.fieldLink own index "YardStacks$Stacks" "tierOf" "[I" ∈ bigW) (hd : decode cc pc = .ok (.getfield index, 3)) (k : gx_G p l e R s m args below meth c D vwCl A nL cells slots Q (yW cI cG ad n t B u g) (pc + 3) lv (.ref (ad 9) :: st)) : gx_G p l e R s m args below meth c D vwCl A nL cells slots Q (yW cI cG ad n t B u g) pc lv (.ref (ad 7) :: st) := gx_get (ref := "YardStacks$Stacks") (Cn := RX2) (T := TX2) (N := 6) C hK (fun w h => hT w (inX2 w h)) 7 rfl rfl 5 (by decide) (hT _ hlink) rfl rfl hd k
theorem yl_7 {b : Nat} {tys : List (ClassId × FieldType)} (C : CallFix p m c cc nL s args Ts own) (hK : va_K D vwCl tys s) (ht : tys[0]? = some (cI, .int)) (hb : b < 60) (hd : decode cc pc = .ok (.iaload, 1)) (k : gx_G p l e R s m args below meth c D vwCl A nL cells slots Q (yW cI cG ad n t B u g) (pc + 1) lv (.int (u 7 b) :: st)) : gx_G p l e R s m args below meth c D vwCl A nL cells slots Q (yW cI cG ad n t B u g) pc lv (.int (nI b) :: .ref (ad 8) :: st) := gx_ialdN C hK 8 0 rfl ht hb (by decide) hd k
theorem ys_7 {b : Nat} {x : Int32} {tys : List (ClassId × FieldType)} (C : CallFix p m c cc nL s args Ts own) (hK : va_K D vwCl tys s) (ht : tys[0]? = some (cI, .int)) (hb : b < 60) (hd : decode cc pc = .ok (.iastore, 1)) (k : gx_G p l e R s m args below meth c D vwCl A nL cells slots Q (yW cI cG ad n t B (mu u 7 b x) g) (pc + 1) lv st) : gx_G p l e R s m args below meth c D vwCl A nL cells slots Q (yW cI cG ad n t B u g) pc lv (.int x :: .int (nI b) :: .ref (ad 8) :: st) := gx_iastN (ws2 := (yW cI cG ad n t B (mu u 7 b x) g)) C hK 8 0 rfl ht hb (by decide) hd rfl k
theorem yl_8 {b : Nat} {tys : List (ClassId × FieldType)} (C : CallFix p m c cc nL s args Ts own) (hK : va_K D vwCl tys s) (ht : tys[0]? = some (cI, .int)) (hb : b < 60) (hd : decode cc pc = .ok (.iaload, 1)) (k : gx_G p l e R s m args below meth c D vwCl A nL cells slots Q (yW cI cG ad n t B u g) (pc + 1) lv (.int (u 8 b) :: st)) : gx_G p l e R s m args below meth c D vwCl A nL cells slots Q (yW cI cG ad n t B u g) pc lv (.int (nI b) :: .ref (ad 9) :: st) := gx_ialdN C hK 9 0 rfl ht hb (by decide) hd k
theorem ys_8 {b : Nat} {x : Int32} {tys : List (ClassId × FieldType)} (C : CallFix p m c cc nL s args Ts own) (hK : va_K D vwCl tys s) (ht : tys[0]? = some (cI, .int)) (hb : b < 60) (hd : decode cc pc = .ok (.iastore, 1)) (k : gx_G p l e R s m args below meth c D vwCl A nL cells slots Q (yW cI cG ad n t B (mu u 8 b x) g) (pc + 1) lv st) : gx_G p l e R s m args below meth c D vwCl A nL cells slots Q (yW cI cG ad n t B u g) pc lv (.int x :: .int (nI b) :: .ref (ad 9) :: st) := gx_iastN (ws2 := (yW cI cG ad n t B (mu u 8 b x) g)) C hK 9 0 rfl ht hb (by decide) hd rfl k
theorem yW_row {r : Nat} (hr : r < n) : (yW cI cG ad n t B u g)[17 + r]? = some (ad (17 + r), .inl (cI, t, .inl (g r))) := by
  unfold yW
  rw [List.getElem?_append_right (by simp)]
  simp [hr]
theorem yW_rowset {r b : Nat} {x : Int32} (hr : r < n) : (yW cI cG ad n t B u g).set (17 + r) (ad (17 + r), .inl (cI, t, .inl (upd (g r) b x))) = (yW cI cG ad n t B u (mu g r b x)) := by
  unfold yW
  rw [List.set_append_right _ _ (by simp)]
  congr 1
  apply List.ext_getElem?
  intro j
  simp only [List.getElem?_set, List.length_map, List.length_range, List.length_cons, List.length_nil, List.getElem?_map]
  by_cases e : j = r
  · subst e
    simp [hr, mu]
  · have e2 : ¬ (17 + r - 17) = j := by omega
    have e3 : ¬ r = j := fun q => e q.symm
    by_cases hj : j < n
    · simp [e2, e3, hj, List.getElem?_range, mu, e]
    · simp [e2, e3, List.getElem?_eq_none, hj]
theorem yl_grid {r : Nat} {tys : List (ClassId × FieldType)} (C : CallFix p m c cc nL s args Ts own) (hK : va_K D vwCl tys s) (ht : tys[1]? = some (cG, .array .int)) (hn : n < 2 ^ 31) (hr : r < n) (hd : decode cc pc = .ok (.aaload, 1)) (k : gx_G p l e R s m args below meth c D vwCl A nL cells slots Q (yW cI cG ad n t B u g) (pc + 1) lv (.ref (ad (17 + r)) :: st)) : gx_G p l e R s m args below meth c D vwCl A nL cells slots Q (yW cI cG ad n t B u g) pc lv (.int (nI r) :: .ref (ad 10) :: st) := gx_aaldN C hK 10 1 rfl ht hr hn (if_pos hr) hd k
theorem yl_row {r b : Nat} {tys : List (ClassId × FieldType)} (C : CallFix p m c cc nL s args Ts own) (hK : va_K D vwCl tys s) (ht : tys[0]? = some (cI, .int)) (hr : r < n) (hn : t < 2 ^ 31) (hb : b < t) (hd : decode cc pc = .ok (.iaload, 1)) (k : gx_G p l e R s m args below meth c D vwCl A nL cells slots Q (yW cI cG ad n t B u g) (pc + 1) lv (.int (g r b) :: st)) : gx_G p l e R s m args below meth c D vwCl A nL cells slots Q (yW cI cG ad n t B u g) pc lv (.int (nI b) :: .ref (ad (17 + r)) :: st) := gx_ialdN C hK (17 + r) 0 (yW_row hr) ht hb hn hd k
theorem ys_row {r b : Nat} {x : Int32} {tys : List (ClassId × FieldType)} (C : CallFix p m c cc nL s args Ts own) (hK : va_K D vwCl tys s) (ht : tys[0]? = some (cI, .int)) (hr : r < n) (hn : t < 2 ^ 31) (hb : b < t) (hd : decode cc pc = .ok (.iastore, 1)) (k : gx_G p l e R s m args below meth c D vwCl A nL cells slots Q (yW cI cG ad n t B u (mu g r b x)) (pc + 1) lv st) : gx_G p l e R s m args below meth c D vwCl A nL cells slots Q (yW cI cG ad n t B u g) pc lv (.int x :: .int (nI b) :: .ref (ad (17 + r)) :: st) := gx_iastN (ws2 := (yW cI cG ad n t B u (mu g r b x))) C hK (17 + r) 0 (yW_row hr) ht hb hn hd (yW_rowset hr) k
theorem yl_6 {b : Nat} {tys : List (ClassId × FieldType)} (C : CallFix p m c cc nL s args Ts own) (hK : va_K D vwCl tys s) (ht : tys[0]? = some (cI, .int)) (hn : n < 2 ^ 31) (hb : b < n) (hd : decode cc pc = .ok (.iaload, 1)) (k : gx_G p l e R s m args below meth c D vwCl A nL cells slots Q (yW cI cG ad n t B u g) (pc + 1) lv (.int (u 6 b) :: st)) : gx_G p l e R s m args below meth c D vwCl A nL cells slots Q (yW cI cG ad n t B u g) pc lv (.int (nI b) :: .ref (ad 11) :: st) := gx_ialdN C hK 11 0 rfl ht hb hn hd k
theorem ys_6 {b : Nat} {x : Int32} {tys : List (ClassId × FieldType)} (C : CallFix p m c cc nL s args Ts own) (hK : va_K D vwCl tys s) (ht : tys[0]? = some (cI, .int)) (hn : n < 2 ^ 31) (hb : b < n) (hd : decode cc pc = .ok (.iastore, 1)) (k : gx_G p l e R s m args below meth c D vwCl A nL cells slots Q (yW cI cG ad n t B (mu u 6 b x) g) (pc + 1) lv st) : gx_G p l e R s m args below meth c D vwCl A nL cells slots Q (yW cI cG ad n t B u g) pc lv (.int x :: .int (nI b) :: .ref (ad 11) :: st) := gx_iastN (ws2 := (yW cI cG ad n t B (mu u 6 b x) g)) C hK 11 0 rfl ht hb hn hd rfl k
theorem yg_X1_boxes {index : Nat} {tys : List (ClassId × FieldType)} (C : CallFix p m c cc nL s args Ts own) (hK : va_K D vwCl tys s) (hT : ∀ w ∈ bigW, w ∈ Ts) (hlink : Cond.fieldLink own index "YardStacks$Moves" "boxes" "[I" ∈ bigW) (hd : decode cc pc = .ok (.getfield index, 3)) (k : gx_G p l e R s m args below meth c D vwCl A nL cells slots Q (yW cI cG ad n t B u g) (pc + 3) lv (.ref (ad 13) :: st)) : gx_G p l e R s m args below meth c D vwCl A nL cells slots Q (yW cI cG ad n t B u g) pc lv (.ref (ad 12) :: st) := gx_get (ref := "YardStacks$Moves") (Cn := RX1) (T := TX1) (N := 4) C hK (fun w h => hT w (inX1 w h)) 12 rfl rfl 0 (by decide) (hT _ hlink) rfl rfl hd k
theorem yg_X1_origins {index : Nat} {tys : List (ClassId × FieldType)} (C : CallFix p m c cc nL s args Ts own) (hK : va_K D vwCl tys s) (hT : ∀ w ∈ bigW, w ∈ Ts) (hlink : Cond.fieldLink own index "YardStacks$Moves" "origins" "[I" ∈ bigW) (hd : decode cc pc = .ok (.getfield index, 3)) (k : gx_G p l e R s m args below meth c D vwCl A nL cells slots Q (yW cI cG ad n t B u g) (pc + 3) lv (.ref (ad 14) :: st)) : gx_G p l e R s m args below meth c D vwCl A nL cells slots Q (yW cI cG ad n t B u g) pc lv (.ref (ad 12) :: st) := gx_get (ref := "YardStacks$Moves") (Cn := RX1) (T := TX1) (N := 4) C hK (fun w h => hT w (inX1 w h)) 12 rfl rfl 1 (by decide) (hT _ hlink) rfl rfl hd k
theorem yg_X1_made {index : Nat} {tys : List (ClassId × FieldType)} (C : CallFix p m c cc nL s args Ts own) (hK : va_K D vwCl tys s) (hT : ∀ w ∈ bigW, w ∈ Ts) (hlink : Cond.fieldLink own index "YardStacks$Moves" "made" "I" ∈ bigW) (hd : decode cc pc = .ok (.getfield index, 3)) (k : gx_G p l e R s m args below meth c D vwCl A nL cells slots Q (yW cI cG ad n t B u g) (pc + 3) lv (.int (u 0 1) :: st)) : gx_G p l e R s m args below meth c D vwCl A nL cells slots Q (yW cI cG ad n t B u g) pc lv (.ref (ad 12) :: st) := gx_get (ref := "YardStacks$Moves") (Cn := RX1) (T := TX1) (N := 4) C hK (fun w h => hT w (inX1 w h)) 12 rfl rfl 2 (by decide) (hT _ hlink) rfl rfl hd k
theorem yp_X1_made {index : Nat} {x : Int32} {tys : List (ClassId × FieldType)} (C : CallFix p m c cc nL s args Ts own) (hK : va_K D vwCl tys s) (hT : ∀ w ∈ bigW, w ∈ Ts) (hlink : Cond.fieldLink own index "YardStacks$Moves" "made" "I" ∈ bigW) (hd : decode cc pc = .ok (.putfield index, 3)) (k : gx_G p l e R s m args below meth c D vwCl A nL cells slots Q (yW cI cG ad n t B (mu u 0 1 x) g) (pc + 3) lv st) : gx_G p l e R s m args below meth c D vwCl A nL cells slots Q (yW cI cG ad n t B u g) pc lv (.int x :: .ref (ad 12) :: st) := gx_put (ref := "YardStacks$Moves") (Cn := RX1) (T := TX1) (N := 4) (ws2 := (yW cI cG ad n t B (mu u 0 1 x) g)) C hK (fun w h => hT w (inX1 w h)) tyX1 tyX1_ok nmX1 12 rfl rfl 2 (by decide) (hT _ hlink) rfl rfl rfl rfl rfl (Nat.le_of_ble_eq_true rfl) hd rfl k
theorem yg_X1_kept {index : Nat} {tys : List (ClassId × FieldType)} (C : CallFix p m c cc nL s args Ts own) (hK : va_K D vwCl tys s) (hT : ∀ w ∈ bigW, w ∈ Ts) (hlink : Cond.fieldLink own index "YardStacks$Moves" "kept" "I" ∈ bigW) (hd : decode cc pc = .ok (.getfield index, 3)) (k : gx_G p l e R s m args below meth c D vwCl A nL cells slots Q (yW cI cG ad n t B u g) (pc + 3) lv (.int (u 0 2) :: st)) : gx_G p l e R s m args below meth c D vwCl A nL cells slots Q (yW cI cG ad n t B u g) pc lv (.ref (ad 12) :: st) := gx_get (ref := "YardStacks$Moves") (Cn := RX1) (T := TX1) (N := 4) C hK (fun w h => hT w (inX1 w h)) 12 rfl rfl 3 (by decide) (hT _ hlink) rfl rfl hd k
theorem yp_X1_kept {index : Nat} {x : Int32} {tys : List (ClassId × FieldType)} (C : CallFix p m c cc nL s args Ts own) (hK : va_K D vwCl tys s) (hT : ∀ w ∈ bigW, w ∈ Ts) (hlink : Cond.fieldLink own index "YardStacks$Moves" "kept" "I" ∈ bigW) (hd : decode cc pc = .ok (.putfield index, 3)) (k : gx_G p l e R s m args below meth c D vwCl A nL cells slots Q (yW cI cG ad n t B (mu u 0 2 x) g) (pc + 3) lv st) : gx_G p l e R s m args below meth c D vwCl A nL cells slots Q (yW cI cG ad n t B u g) pc lv (.int x :: .ref (ad 12) :: st) := gx_put (ref := "YardStacks$Moves") (Cn := RX1) (T := TX1) (N := 4) (ws2 := (yW cI cG ad n t B (mu u 0 2 x) g)) C hK (fun w h => hT w (inX1 w h)) tyX1 tyX1_ok nmX1 12 rfl rfl 3 (by decide) (hT _ hlink) rfl rfl rfl rfl rfl (Nat.le_of_ble_eq_true rfl) hd rfl k
theorem yl_9 {b : Nat} {tys : List (ClassId × FieldType)} (C : CallFix p m c cc nL s args Ts own) (hK : va_K D vwCl tys s) (ht : tys[0]? = some (cI, .int)) (hb : b < 100) (hd : decode cc pc = .ok (.iaload, 1)) (k : gx_G p l e R s m args below meth c D vwCl A nL cells slots Q (yW cI cG ad n t B u g) (pc + 1) lv (.int (u 9 b) :: st)) : gx_G p l e R s m args below meth c D vwCl A nL cells slots Q (yW cI cG ad n t B u g) pc lv (.int (nI b) :: .ref (ad 13) :: st) := gx_ialdN C hK 13 0 rfl ht hb (by decide) hd k
theorem ys_9 {b : Nat} {x : Int32} {tys : List (ClassId × FieldType)} (C : CallFix p m c cc nL s args Ts own) (hK : va_K D vwCl tys s) (ht : tys[0]? = some (cI, .int)) (hb : b < 100) (hd : decode cc pc = .ok (.iastore, 1)) (k : gx_G p l e R s m args below meth c D vwCl A nL cells slots Q (yW cI cG ad n t B (mu u 9 b x) g) (pc + 1) lv st) : gx_G p l e R s m args below meth c D vwCl A nL cells slots Q (yW cI cG ad n t B u g) pc lv (.int x :: .int (nI b) :: .ref (ad 13) :: st) := gx_iastN (ws2 := (yW cI cG ad n t B (mu u 9 b x) g)) C hK 13 0 rfl ht hb (by decide) hd rfl k
theorem yl_10 {b : Nat} {tys : List (ClassId × FieldType)} (C : CallFix p m c cc nL s args Ts own) (hK : va_K D vwCl tys s) (ht : tys[0]? = some (cI, .int)) (hb : b < 100) (hd : decode cc pc = .ok (.iaload, 1)) (k : gx_G p l e R s m args below meth c D vwCl A nL cells slots Q (yW cI cG ad n t B u g) (pc + 1) lv (.int (u 10 b) :: st)) : gx_G p l e R s m args below meth c D vwCl A nL cells slots Q (yW cI cG ad n t B u g) pc lv (.int (nI b) :: .ref (ad 14) :: st) := gx_ialdN C hK 14 0 rfl ht hb (by decide) hd k
theorem ys_10 {b : Nat} {x : Int32} {tys : List (ClassId × FieldType)} (C : CallFix p m c cc nL s args Ts own) (hK : va_K D vwCl tys s) (ht : tys[0]? = some (cI, .int)) (hb : b < 100) (hd : decode cc pc = .ok (.iastore, 1)) (k : gx_G p l e R s m args below meth c D vwCl A nL cells slots Q (yW cI cG ad n t B (mu u 10 b x) g) (pc + 1) lv st) : gx_G p l e R s m args below meth c D vwCl A nL cells slots Q (yW cI cG ad n t B u g) pc lv (.int x :: .int (nI b) :: .ref (ad 14) :: st) := gx_iastN (ws2 := (yW cI cG ad n t B (mu u 10 b x) g)) C hK 14 0 rfl ht hb (by decide) hd rfl k
theorem yl_11 {b : Nat} {tys : List (ClassId × FieldType)} (C : CallFix p m c cc nL s args Ts own) (hK : va_K D vwCl tys s) (ht : tys[0]? = some (cI, .int)) (hb : b < 16) (hd : decode cc pc = .ok (.iaload, 1)) (k : gx_G p l e R s m args below meth c D vwCl A nL cells slots Q (yW cI cG ad n t B u g) (pc + 1) lv (.int (u 11 b) :: st)) : gx_G p l e R s m args below meth c D vwCl A nL cells slots Q (yW cI cG ad n t B u g) pc lv (.int (nI b) :: .ref (ad 15) :: st) := gx_ialdN C hK 15 0 rfl ht hb (by decide) hd k
theorem ys_11 {b : Nat} {x : Int32} {tys : List (ClassId × FieldType)} (C : CallFix p m c cc nL s args Ts own) (hK : va_K D vwCl tys s) (ht : tys[0]? = some (cI, .int)) (hb : b < 16) (hd : decode cc pc = .ok (.iastore, 1)) (k : gx_G p l e R s m args below meth c D vwCl A nL cells slots Q (yW cI cG ad n t B (mu u 11 b x) g) (pc + 1) lv st) : gx_G p l e R s m args below meth c D vwCl A nL cells slots Q (yW cI cG ad n t B u g) pc lv (.int x :: .int (nI b) :: .ref (ad 15) :: st) := gx_iastN (ws2 := (yW cI cG ad n t B (mu u 11 b x) g)) C hK 15 0 rfl ht hb (by decide) hd rfl k
theorem yl_12 {b : Nat} {tys : List (ClassId × FieldType)} (C : CallFix p m c cc nL s args Ts own) (hK : va_K D vwCl tys s) (ht : tys[0]? = some (cI, .int)) (hb : b < 16) (hd : decode cc pc = .ok (.iaload, 1)) (k : gx_G p l e R s m args below meth c D vwCl A nL cells slots Q (yW cI cG ad n t B u g) (pc + 1) lv (.int (u 12 b) :: st)) : gx_G p l e R s m args below meth c D vwCl A nL cells slots Q (yW cI cG ad n t B u g) pc lv (.int (nI b) :: .ref (ad 16) :: st) := gx_ialdN C hK 16 0 rfl ht hb (by decide) hd k
theorem ys_12 {b : Nat} {x : Int32} {tys : List (ClassId × FieldType)} (C : CallFix p m c cc nL s args Ts own) (hK : va_K D vwCl tys s) (ht : tys[0]? = some (cI, .int)) (hb : b < 16) (hd : decode cc pc = .ok (.iastore, 1)) (k : gx_G p l e R s m args below meth c D vwCl A nL cells slots Q (yW cI cG ad n t B (mu u 12 b x) g) (pc + 1) lv st) : gx_G p l e R s m args below meth c D vwCl A nL cells slots Q (yW cI cG ad n t B u g) pc lv (.int x :: .int (nI b) :: .ref (ad 16) :: st) := gx_iastN (ws2 := (yW cI cG ad n t B (mu u 12 b x) g)) C hK 16 0 rfl ht hb (by decide) hd rfl k
end YROWS
end
section
/-! the class: its memory u (0 told, made, kept; 1 size, 2 weight, 3 leaves, 4 ship, 5 kind; 6 heights; 7 rowOf; 8 tierOf; 9 and 10 the moves' boxes and origins; 11 grounds; 12 reservedFor) and its grid g of boxes -/
def yH (u : Nat → Nat → Int32) (r : Nat) : Nat := (u 6 r).toNatClampNeg
def yB (g : Nat → Nat → Int32) (r j : Nat) : Nat := (g r j).toNatClampNeg
/-- what always holds of them: heights, boxes of the rows and where they say that they stand fit together -/
def yOK (n t : Nat) (u g : Nat → Nat → Int32) : Prop := n ≤ 16 ∧ t ≤ 8 ∧ (∀ r, r < n → u 6 r = nI (yH u r) ∧ yH u r ≤ t) ∧ (∀ r j, r < n → j < yH u r → g r j = nI (yB g r j) ∧ yB g r j < 60 ∧ u 7 (yB g r j) = nI r ∧ u 8 (yB g r j) = nI j) ∧ (∀ b, b < 60 → (u 7 b = -1 ∧ u 8 b = -1) ∨ ∃ r k, r < n ∧ k < yH u r ∧ u 7 b = nI r ∧ u 8 b = nI k ∧ g r k = nI b) ∧ (∀ r j, r < n → yH u r ≤ j → j < t → g r j = -1) ∧ (∃ T, T ≤ 60 ∧ u 0 0 = nI T ∧ ∀ b, b < 60 → ¬ u 7 b = -1 → b < T)
section YOK
variable {n t : Nat} {u g : Nat → Nat → Int32}
theorem yOK.hn (h : yOK n t u g) : n ≤ 16 := h.1
theorem yOK.ht (h : yOK n t u g) : t ≤ 8 := h.2.1
theorem yOK.h6 (h : yOK n t u g) {r : Nat} (hr : r < n) : u 6 r = nI (yH u r) := (h.2.2.1 r hr).1
theorem yOK.hh (h : yOK n t u g) {r : Nat} (hr : r < n) : yH u r ≤ t := (h.2.2.1 r hr).2
theorem yOK.hg (h : yOK n t u g) {r j : Nat} (hr : r < n) (hj : j < yH u r) : g r j = nI (yB g r j) := (h.2.2.2.1 r j hr hj).1
theorem yOK.hb (h : yOK n t u g) {r j : Nat} (hr : r < n) (hj : j < yH u r) : yB g r j < 60 := (h.2.2.2.1 r j hr hj).2.1
theorem yOK.hb7 (h : yOK n t u g) {r j : Nat} (hr : r < n) (hj : j < yH u r) : u 7 (yB g r j) = nI r := (h.2.2.2.1 r j hr hj).2.2.1
theorem yOK.hb8 (h : yOK n t u g) {r j : Nat} (hr : r < n) (hj : j < yH u r) : u 8 (yB g r j) = nI j := (h.2.2.2.1 r j hr hj).2.2.2
theorem yOK.h7 (h : yOK n t u g) {b : Nat} (hb : b < 60) (hs : ¬ u 7 b = -1) : ∃ r k, r < n ∧ k < yH u r ∧ u 7 b = nI r ∧ u 8 b = nI k := by
  rcases h.2.2.2.2.1 b hb with q | ⟨r, k, h1, h2, h3, h4, -⟩
  · exact absurd q.1 hs
  · exact ⟨r, k, h1, h2, h3, h4⟩
theorem yOK.h7g (h : yOK n t u g) {b : Nat} (hb : b < 60) (hs : ¬ u 7 b = -1) : ∃ r k, r < n ∧ k < yH u r ∧ u 7 b = nI r ∧ u 8 b = nI k ∧ g r k = nI b := by
  rcases h.2.2.2.2.1 b hb with q | q
  · exact absurd q.1 hs
  · exact q
theorem yOK.h8 (h : yOK n t u g) {b : Nat} (hb : b < 60) (hs : u 7 b = -1) : u 8 b = -1 := by
  rcases h.2.2.2.2.1 b hb with q | ⟨r, k, h1, h2, h3, h4, -⟩
  · exact q.2
  · have hn := h.hn
    exact absurd (h3.symm.trans hs) (by
      intro q
      have a := nI_toInt (show r < 2 ^ 31 by omega)
      rw [q] at a
      have : (-1 : Int32).toInt = -1 := by decide
      omega)
theorem yOK.hT (h : yOK n t u g) : ∃ T, T ≤ 60 ∧ u 0 0 = nI T ∧ ∀ b, b < 60 → ¬ u 7 b = -1 → b < T := h.2.2.2.2.2.2
theorem yOK.hno (h : yOK n t u g) {r j : Nat} (hr : r < n) (h1 : yH u r ≤ j) (h2 : j < t) : g r j = -1 := h.2.2.2.2.2.1 r j hr h1 h2
end YOK
theorem y_m1 {x : Nat} (h : x < 2 ^ 31) : ¬ nI x = -1 := by
  intro q
  have a := nI_toInt h
  rw [q] at a
  have : (-1 : Int32).toInt = -1 := by decide
  omega
theorem y_z {x : Nat} (h : x < 2 ^ 31) : nI x = 0 ↔ x = 0 := by
  rw [← nI_0]
  exact nI_eq h (by decide)
def yHeld (v M : Int32) : Int32 := if 1 < (if M < v then M else v) then (if M < v then M else v) else 1
def yIn (v a b : Int32) : Bool := decide (a ≤ v ∧ v ≤ b)
def yRow (n : Nat) (r : Int32) : Bool := decide (0 ≤ r ∧ r < nI n)
def yHas (u : Nat → Nat → Int32) (b : Int32) : Bool := decide (0 ≤ b ∧ b < u 0 0)
def ySt (u : Nat → Nat → Int32) (b : Nat) : Bool := decide (¬ u 7 b = -1)
def yTop (u g : Nat → Nat → Int32) (r : Nat) : Int32 := if u 6 r = 0 then -1 else g r (yH u r - 1)
def yAb (u : Nat → Nat → Int32) (b : Nat) : Int32 := if u 7 b = -1 then 0 else u 6 (u 7 b).toNatClampNeg - 1 - u 8 b
def yOn (u : Nat → Nat → Int32) (b : Nat) : Bool := decide (¬ u 7 b = -1 ∧ yAb u b = 0)
/-- the box b is lifted off its row r -/
def yLiftU (u : Nat → Nat → Int32) (b r : Nat) : Nat → Nat → Int32 := mu (mu (mu u 6 r (u 6 r - 1)) 7 b (-1)) 8 b (-1)
def yLiftG (u g : Nat → Nat → Int32) (r : Nat) : Nat → Nat → Int32 := mu g r (yH u r - 1) (-1)
/-- .. laid upon row r -/
def yLayU (u : Nat → Nat → Int32) (b r : Nat) : Nat → Nat → Int32 := mu (mu (mu u 7 b (nI r)) 8 b (nI (yH u r))) 6 r (u 6 r + 1)
def yLayG (u g : Nat → Nat → Int32) (b r : Nat) : Nat → Nat → Int32 := mu g r (yH u r) (nI b)
/-- a box is told -/
def yTellU (u : Nat → Nat → Int32) (T : Nat) (a b c d k : Int32) : Nat → Nat → Int32 := mu (mu (mu (mu (mu (mu u 1 T a) 2 T b) 3 T c) 4 T d) 5 T k) 0 0 (u 0 0 + 1)
/-- a move is kept in slot q -/
def yKeepU (u : Nat → Nat → Int32) (q b : Nat) (x : Int32) : Nat → Nat → Int32 := mu (mu (mu (mu u 9 q (nI b)) 10 q x) 0 1 (u 0 1 + 1)) 0 2 (if 100 < u 0 2 + 1 then 100 else u 0 2 + 1)
/-- the latest move is dropped -/
def yDropU (u : Nat → Nat → Int32) : Nat → Nat → Int32 := mu (mu u 0 1 (u 0 1 - 1)) 0 2 (u 0 2 - 1)
theorem bI_pt {q : Bool} (h : q = true) : (1 : Int32) = bI q := by rw [h]; rfl
theorem bI_pf {q : Bool} (h : q = false) : (0 : Int32) = bI q := by rw [h]; rfl
theorem bI_0 {q : Bool} : bI q = 0 ↔ q = false := by cases q <;> simp [bI]
theorem bI_t {q : Bool} (h : ¬ bI q = 0) : q = true := by cases q <;> simp_all [bI]
theorem bI_f {q : Bool} (h : bI q = 0) : q = false := bI_0.mp h
theorem ySt_t {u : Nat → Nat → Int32} {b : Nat} (h : ¬ bI (ySt u b) = 0) : ¬ u 7 b = -1 := of_decide_eq_true (bI_t h)
theorem ySt_f {u : Nat → Nat → Int32} {b : Nat} (h : bI (ySt u b) = 0) : u 7 b = -1 := Decidable.not_not.mp (of_decide_eq_false (bI_f h))
def ySo (u g : Nat → Nat → Int32) (b r k : Nat) : Nat := yCnt (fun j => decide (u 3 (yB g r j) < u 3 b)) k
def yWt (u g : Nat → Nat → Int32) (r : Nat) : Int32 := ySum (fun j => u 2 (yB g r j)) (yH u r)
def yOther (u g : Nat → Nat → Int32) (r : Nat) (sh : Int32) : Bool := yAny (fun j => decide (¬ u 4 (yB g r j) = sh)) (yH u r)
def yWould (u g : Nat → Nat → Int32) (b r : Nat) : Bool := decide (¬ ySo u g b r (yH u r) = 0)
def yWay (u g : Nat → Nat → Int32) (b : Nat) : Bool := decide (¬ u 7 b = -1 ∧ ¬ ySo u g b (u 7 b).toNatClampNeg (u 8 b).toNatClampNeg = 0)
def yGr (k gr : Int32) : Int32 := if k = 1 ∧ ¬ gr = 1 then 7 else if (k = 2) ≠ (gr = 2) then 8 else 0
def yRule (t : Nat) (B : Int32) (u g : Nat → Nat → Int32) (b r : Nat) : Int32 :=
  if ¬ u 12 r = 0 ∧ ¬ u 12 r = u 4 b then 2
  else if ¬ u 6 r < nI t then 3
  else if ¬ yWt u g r + u 2 b ≤ B then 4
  else if ¬ yTop u g r = -1 ∧ ¬ u 1 (yTop u g r).toNatClampNeg = u 1 b then 5
  else if ¬ yTop u g r = -1 ∧ ¬ u 2 b ≤ u 2 (yTop u g r).toNatClampNeg then 6
  else yGr (u 5 b) (u 11 r)
def yPutR (t : Nat) (B : Int32) (u g : Nat → Nat → Int32) (b r : Nat) : Int32 := if u 7 b = -1 then yRule t B u g b r else 1
def yShR (t : Nat) (B : Int32) (u g : Nat → Nat → Int32) (b r : Nat) : Int32 := if u 7 b = nI r then 1 else yRule t B u g b r
def yMin (x y : Int32) : Int32 := if y < x then y else x
def yScore (u g : Nat → Nat → Int32) (b r : Nat) : Int32 :=
  if yTop u g r = -1 then 20 + (if u 12 r = 0 then 0 else 30)
  else 40 - 15 * nI (ySo u g b r (yH u r)) + (if u 4 (yTop u g r).toNatClampNeg = u 4 b then 12 else 0) - yMin (3 * (u 2 (yTop u g r).toNatClampNeg - u 2 b)) 24 + (if u 12 r = 0 then 0 else 30)
/-- the best row among those below k: it and its score -/
def yBest (t : Nat) (B : Int32) (u g : Nat → Nat → Int32) (b : Nat) (clear : Bool) : Nat → Int32 × Int32
  | 0 => (-1, 0)
  | r + 1 => if ¬ yShR t B u g b r = 0 ∨ (clear = true ∧ yWould u g b r = true) then yBest t B u g b clear r else if (yBest t B u g b clear r).1 = -1 ∨ ¬ yScore u g b r ≤ (yBest t B u g b clear r).2 then (nI r, yScore u g b r) else yBest t B u g b clear r
theorem yTop_some {n t : Nat} {u g : Nat → Nat → Int32} (h : yOK n t u g) {r : Nat} (hr : r < n) (hs : ¬ yTop u g r = -1) : 0 < yH u r ∧ yB g r (yH u r - 1) < 60 ∧ yTop u g r = nI (yB g r (yH u r - 1)) := by
  have h6 := h.h6 hr
  have hh := h.hh hr
  have ht := h.ht
  by_cases hz : u 6 r = 0
  · exact absurd (if_pos hz) hs
  · have h0 : 0 < yH u r := by
      rcases Nat.eq_zero_or_pos (yH u r) with q | q
      · exact absurd (by rw [h6, q]; rfl) hz
      · exact q
    exact ⟨h0, h.hb hr (by omega), by rw [yTop, if_neg hz]; exact h.hg hr (by omega)⟩
theorem y_le0 {x : Nat} (h : x < 2 ^ 31) : nI x ≤ 0 ↔ x = 0 := by
  rw [← nI_0, nI_leI h (by decide)]
  omega
/-- which top box is moved aside: it, where to, how many leave sooner; among the rows below r -/
def yPick (n t : Nat) (B : Int32) (u g : Nat → Nat → Int32) : Nat → Int32 × Int32 × Int32
  | 0 => (-1, -1, 0)
  | r + 1 =>
    if yTop u g r = -1 then yPick n t B u g r
    else if ¬ nI (ySo u g (yTop u g r).toNatClampNeg r (yH u r - 1)) ≤ (yPick n t B u g r).2.2 ∧ ¬ (yBest t B u g (yTop u g r).toNatClampNeg true n).1 = -1 then (yTop u g r, (yBest t B u g (yTop u g r).toNatClampNeg true n).1, nI (ySo u g (yTop u g r).toNatClampNeg r (yH u r - 1)))
    else yPick n t B u g r
end
section
set_option maxHeartbeats 4000000 in
set_option maxRecDepth 100000 in
/-- isWithin -/
theorem c_X3_isWithin {l : Launch} {D : va_G} {cI cG cL : ClassId} {v a b : Int32}   : gx_M l yX3_isWithin wsX3_isWithin ({ frames := 0, cells := 0, slots := 0, locals := 0 }) D vwCl (gT cI cG cL) [.int v, .int a, .int b] [] [] (some (.int (bI (yIn v a b)))) := by
  refine gx_ofG (cc := cX3_isWithin) (maxL := 3) (ret := (some .boolean)) [some (.int v), some (.int a), some (.int b)] (by decide) rfl rfl (Nat.le_of_ble_eq_true rfl) rfl ?_
  intro p e s m args below meth c C hRt hlocks hK
  have C : CallFix p m c cX3_isWithin 3 s args (wsX3_isWithin) RX3 := C
  have hT : ∀ w ∈ bigW, w ∈ wsX3_isWithin := bgT
  refine gx_iload_n C dX3_isWithin_0 rfl ?_
  refine gx_iload_n C dX3_isWithin_1 rfl ?_
  refine gx_icmp_lt (tgt := 14) C dX3_isWithin_2 (by decide) (fun c_2 => ?_) (fun c_2 => ?_)
  · refine gx_iconst (v := 0) C dX3_isWithin_14 (by decide) ?_
    exact gx_zret C hRt hlocks dX3_isWithin_15 rfl (by first | exact bI_pt (decide_eq_true ⟨Int32.not_lt.mp c_2, Int32.not_lt.mp c_7⟩) | exact bI_pf (decide_eq_false (fun q => absurd c_2 (Int32.not_lt.mpr q.1))) | exact bI_pf (decide_eq_false (fun q => absurd c_7 (Int32.not_lt.mpr q.2)))) rfl
  · refine gx_iload_n C dX3_isWithin_5 rfl ?_
    refine gx_iload_n C dX3_isWithin_6 rfl ?_
    refine gx_icmp_gt (tgt := 14) C dX3_isWithin_7 (by decide) (fun c_7 => ?_) (fun c_7 => ?_)
    · refine gx_iconst (v := 0) C dX3_isWithin_14 (by decide) ?_
      exact gx_zret C hRt hlocks dX3_isWithin_15 rfl (by first | exact bI_pt (decide_eq_true ⟨Int32.not_lt.mp c_2, Int32.not_lt.mp c_7⟩) | exact bI_pf (decide_eq_false (fun q => absurd c_2 (Int32.not_lt.mpr q.1))) | exact bI_pf (decide_eq_false (fun q => absurd c_7 (Int32.not_lt.mpr q.2)))) rfl
    · refine gx_iconst (v := 1) C dX3_isWithin_10 (by decide) ?_
      refine gx_goto (tgt := 15) C dX3_isWithin_11 (by decide) ?_
      exact gx_zret C hRt hlocks dX3_isWithin_15 rfl (by first | exact bI_pt (decide_eq_true ⟨Int32.not_lt.mp c_2, Int32.not_lt.mp c_7⟩) | exact bI_pf (decide_eq_false (fun q => absurd c_2 (Int32.not_lt.mpr q.1))) | exact bI_pf (decide_eq_false (fun q => absurd c_7 (Int32.not_lt.mpr q.2)))) rfl
set_option maxHeartbeats 4000000 in
set_option maxRecDepth 100000 in
/-- held -/
theorem c_X3_held {l : Launch} {D : va_G} {cI cG cL : ClassId} {v a : Int32}   : gx_M l yX3_held wsX3_held ({ frames := 1, cells := 0, slots := 0, locals := 21 }) D vwCl (gT cI cG cL) [.int v, .int a] [] [] (some (.int (yHeld v a))) := by
  refine gx_ofG (cc := cX3_held) (maxL := 2) (ret := (some .int)) [some (.int v), some (.int a)] (by decide) rfl rfl (Nat.le_of_ble_eq_true rfl) rfl ?_
  intro p e s m args below meth c C hRt hlocks hK
  have C : CallFix p m c cX3_held 2 s args (wsX3_held) RX3 := C
  have hT : ∀ w ∈ bigW, w ∈ wsX3_held := bgT
  refine gx_iconst (v := 1) C dX3_held_0 (by decide) ?_
  refine gx_iload_n C dX3_held_1 rfl ?_
  refine gx_iload_n C dX3_held_2 rfl ?_
  refine gx_mmin C (hT _ m25) (hT _ mMmin_s) (hT _ m2) (hT _ mMmin_c) (Nat.le_of_ble_eq_true rfl) (Nat.le_of_ble_eq_true rfl) (Nat.zero_le _) (Nat.zero_le _) dX3_held_3 ?_
  refine gx_mmax C (hT _ m28) (hT _ mMmax_s) (hT _ m2) (hT _ mMmax_c) (Nat.le_of_ble_eq_true rfl) (Nat.le_of_ble_eq_true rfl) (Nat.zero_le _) (Nat.zero_le _) dX3_held_6 ?_
  exact gx_iret C hRt hlocks dX3_held_9 rfl rfl
set_option maxHeartbeats 4000000 in
set_option maxRecDepth 100000 in
/-- ruleBrokenByGround -/
theorem c_X3_ruleBrokenByGround {l : Launch} {D : va_G} {cI cG cL : ClassId} {a b : Int32}   : gx_M l yX3_ruleBrokenByGround wsX3_ruleBrokenByGround ({ frames := 0, cells := 0, slots := 0, locals := 0 }) D vwCl (gT cI cG cL) [.int a, .int b] [] [] (some (.int (yGr a b))) := by
  refine gx_ofG (cc := cX3_ruleBrokenByGround) (maxL := 2) (ret := (some .int)) [some (.int a), some (.int b)] (by decide) rfl rfl (Nat.le_of_ble_eq_true rfl) rfl ?_
  intro p e s m args below meth c C hRt hlocks hK
  have C : CallFix p m c cX3_ruleBrokenByGround 2 s args (wsX3_ruleBrokenByGround) RX3 := C
  have hT : ∀ w ∈ bigW, w ∈ wsX3_ruleBrokenByGround := bgT
  refine gx_iload_n C dX3_ruleBrokenByGround_0 rfl ?_
  refine gx_iconst (v := 1) C dX3_ruleBrokenByGround_1 (by decide) ?_
  refine gx_icmp_ne (tgt := 13) C dX3_ruleBrokenByGround_2 (by decide) (fun c_2 => ?_) (fun c_2 => ?_)
  · refine gx_iload_n C dX3_ruleBrokenByGround_13 rfl ?_
    refine gx_iconst (v := 2) C dX3_ruleBrokenByGround_14 (by decide) ?_
    refine gx_icmp_ne (tgt := 22) C dX3_ruleBrokenByGround_15 (by decide) (fun c_15 => ?_) (fun c_15 => ?_)
    · refine gx_iconst (v := 0) C dX3_ruleBrokenByGround_22 (by decide) ?_
      refine gx_iload_n C dX3_ruleBrokenByGround_23 rfl ?_
      refine gx_iconst (v := 2) C dX3_ruleBrokenByGround_24 (by decide) ?_
      refine gx_icmp_ne (tgt := 32) C dX3_ruleBrokenByGround_25 (by decide) (fun c_25 => ?_) (fun c_25 => ?_)
      · refine gx_iconst (v := 0) C dX3_ruleBrokenByGround_32 (by decide) ?_
        refine gx_icmp_eq (tgt := 39) C dX3_ruleBrokenByGround_33 (by decide) (fun c_33 => ?_) (fun c => absurd c (by decide))
        refine gx_iconst (v := 0) C dX3_ruleBrokenByGround_39 (by decide) ?_
        exact gx_iret C hRt hlocks dX3_ruleBrokenByGround_40 (by simp_all [yGr]) rfl
      · refine gx_iconst (v := 1) C dX3_ruleBrokenByGround_28 (by decide) ?_
        refine gx_goto (tgt := 33) C dX3_ruleBrokenByGround_29 (by decide) ?_
        refine gx_icmp_eq (tgt := 39) C dX3_ruleBrokenByGround_33 (by decide) (fun c => absurd c (by decide)) (fun c_33 => ?_)
        refine gx_bipush (v := 8) C dX3_ruleBrokenByGround_36 (by decide) ?_
        exact gx_iret C hRt hlocks dX3_ruleBrokenByGround_38 (by simp_all [yGr]) rfl
    · refine gx_iconst (v := 1) C dX3_ruleBrokenByGround_18 (by decide) ?_
      refine gx_goto (tgt := 23) C dX3_ruleBrokenByGround_19 (by decide) ?_
      refine gx_iload_n C dX3_ruleBrokenByGround_23 rfl ?_
      refine gx_iconst (v := 2) C dX3_ruleBrokenByGround_24 (by decide) ?_
      refine gx_icmp_ne (tgt := 32) C dX3_ruleBrokenByGround_25 (by decide) (fun c_25 => ?_) (fun c_25 => ?_)
      · refine gx_iconst (v := 0) C dX3_ruleBrokenByGround_32 (by decide) ?_
        refine gx_icmp_eq (tgt := 39) C dX3_ruleBrokenByGround_33 (by decide) (fun c => absurd c (by decide)) (fun c_33 => ?_)
        refine gx_bipush (v := 8) C dX3_ruleBrokenByGround_36 (by decide) ?_
        exact gx_iret C hRt hlocks dX3_ruleBrokenByGround_38 (by simp_all [yGr]) rfl
      · refine gx_iconst (v := 1) C dX3_ruleBrokenByGround_28 (by decide) ?_
        refine gx_goto (tgt := 33) C dX3_ruleBrokenByGround_29 (by decide) ?_
        refine gx_icmp_eq (tgt := 39) C dX3_ruleBrokenByGround_33 (by decide) (fun c_33 => ?_) (fun c => absurd c (by decide))
        refine gx_iconst (v := 0) C dX3_ruleBrokenByGround_39 (by decide) ?_
        exact gx_iret C hRt hlocks dX3_ruleBrokenByGround_40 (by simp_all [yGr]) rfl
  · refine gx_iload_n C dX3_ruleBrokenByGround_5 rfl ?_
    refine gx_iconst (v := 1) C dX3_ruleBrokenByGround_6 (by decide) ?_
    refine gx_icmp_eq (tgt := 13) C dX3_ruleBrokenByGround_7 (by decide) (fun c_7 => ?_) (fun c_7 => ?_)
    · refine gx_iload_n C dX3_ruleBrokenByGround_13 rfl ?_
      refine gx_iconst (v := 2) C dX3_ruleBrokenByGround_14 (by decide) ?_
      refine gx_icmp_ne (tgt := 22) C dX3_ruleBrokenByGround_15 (by decide) (fun c_15 => ?_) (fun c_15 => ?_)
      · refine gx_iconst (v := 0) C dX3_ruleBrokenByGround_22 (by decide) ?_
        refine gx_iload_n C dX3_ruleBrokenByGround_23 rfl ?_
        refine gx_iconst (v := 2) C dX3_ruleBrokenByGround_24 (by decide) ?_
        refine gx_icmp_ne (tgt := 32) C dX3_ruleBrokenByGround_25 (by decide) (fun c_25 => ?_) (fun c_25 => ?_)
        · refine gx_iconst (v := 0) C dX3_ruleBrokenByGround_32 (by decide) ?_
          refine gx_icmp_eq (tgt := 39) C dX3_ruleBrokenByGround_33 (by decide) (fun c_33 => ?_) (fun c => absurd c (by decide))
          refine gx_iconst (v := 0) C dX3_ruleBrokenByGround_39 (by decide) ?_
          exact gx_iret C hRt hlocks dX3_ruleBrokenByGround_40 (by simp_all [yGr]) rfl
        · refine gx_iconst (v := 1) C dX3_ruleBrokenByGround_28 (by decide) ?_
          refine gx_goto (tgt := 33) C dX3_ruleBrokenByGround_29 (by decide) ?_
          refine gx_icmp_eq (tgt := 39) C dX3_ruleBrokenByGround_33 (by decide) (fun c => absurd c (by decide)) (fun c_33 => ?_)
          refine gx_bipush (v := 8) C dX3_ruleBrokenByGround_36 (by decide) ?_
          exact gx_iret C hRt hlocks dX3_ruleBrokenByGround_38 (by simp_all [yGr]) rfl
      · refine gx_iconst (v := 1) C dX3_ruleBrokenByGround_18 (by decide) ?_
        refine gx_goto (tgt := 23) C dX3_ruleBrokenByGround_19 (by decide) ?_
        refine gx_iload_n C dX3_ruleBrokenByGround_23 rfl ?_
        refine gx_iconst (v := 2) C dX3_ruleBrokenByGround_24 (by decide) ?_
        refine gx_icmp_ne (tgt := 32) C dX3_ruleBrokenByGround_25 (by decide) (fun c_25 => ?_) (fun c_25 => ?_)
        · refine gx_iconst (v := 0) C dX3_ruleBrokenByGround_32 (by decide) ?_
          refine gx_icmp_eq (tgt := 39) C dX3_ruleBrokenByGround_33 (by decide) (fun c => absurd c (by decide)) (fun c_33 => ?_)
          refine gx_bipush (v := 8) C dX3_ruleBrokenByGround_36 (by decide) ?_
          exact gx_iret C hRt hlocks dX3_ruleBrokenByGround_38 (by simp_all [yGr]) rfl
        · refine gx_iconst (v := 1) C dX3_ruleBrokenByGround_28 (by decide) ?_
          refine gx_goto (tgt := 33) C dX3_ruleBrokenByGround_29 (by decide) ?_
          refine gx_icmp_eq (tgt := 39) C dX3_ruleBrokenByGround_33 (by decide) (fun c_33 => ?_) (fun c => absurd c (by decide))
          refine gx_iconst (v := 0) C dX3_ruleBrokenByGround_39 (by decide) ?_
          exact gx_iret C hRt hlocks dX3_ruleBrokenByGround_40 (by simp_all [yGr]) rfl
    · refine gx_bipush (v := 7) C dX3_ruleBrokenByGround_10 (by decide) ?_
      exact gx_iret C hRt hlocks dX3_ruleBrokenByGround_12 (by simp only [yGr]; rw [if_pos ⟨by assumption, by assumption⟩]) rfl
set_option maxHeartbeats 4000000 in
set_option maxRecDepth 100000 in
/-- hasRow -/
theorem c_X2_hasRow {l : Launch} {D : va_G} {cI cG cL : ClassId} {ad : Nat → Nat} {n t : Nat} {B : Int32} {u g : Nat → Nat → Int32} {x : Int32}  : gx_M l yX2_hasRow wsX2_hasRow ({ frames := 0, cells := 0, slots := 0, locals := 0 }) D vwCl (gT cI cG cL) [.ref (ad 7), .int x] (yW cI cG ad n t B u g) (yW cI cG ad n t B u g) (some (.int (bI (yRow n x)))) := by
  refine gx_ofG (cc := cX2_hasRow) (maxL := 2) (ret := (some .boolean)) [some (.ref (ad 7)), some (.int x)] (by decide) rfl rfl (Nat.le_of_ble_eq_true rfl) rfl ?_
  intro p e s m args below meth c C hRt hlocks hK
  have C : CallFix p m c cX2_hasRow 2 s args (wsX2_hasRow) RX2 := C
  have hT : ∀ w ∈ bigW, w ∈ wsX2_hasRow := bgT
  refine gx_iload_n C dX2_hasRow_0 rfl ?_
  refine gx_if_lt (tgt := 16) C dX2_hasRow_1 (by decide) (fun c_1 => ?_) (fun c_1 => ?_)
  · refine gx_iconst (v := 0) C dX2_hasRow_16 (by decide) ?_
    exact gx_zret C hRt hlocks dX2_hasRow_17 rfl (by first | exact bI_pt (decide_eq_true ⟨Int32.not_lt.mp c_1, Int32.not_le.mp c_9⟩) | exact bI_pf (decide_eq_false (fun q => absurd c_1 (Int32.not_lt.mpr q.1))) | exact bI_pf (decide_eq_false (fun q => absurd q.2 (Int32.not_lt.mpr c_9)))) rfl
  · refine gx_iload_n C dX2_hasRow_4 rfl ?_
    refine gx_aload_n C dX2_hasRow_5 rfl ?_
    refine yg_X2_rows C hK hT m74 dX2_hasRow_6 ?_
    refine gx_icmp_ge (tgt := 16) C dX2_hasRow_9 (by decide) (fun c_9 => ?_) (fun c_9 => ?_)
    · refine gx_iconst (v := 0) C dX2_hasRow_16 (by decide) ?_
      exact gx_zret C hRt hlocks dX2_hasRow_17 rfl (by first | exact bI_pt (decide_eq_true ⟨Int32.not_lt.mp c_1, Int32.not_le.mp c_9⟩) | exact bI_pf (decide_eq_false (fun q => absurd c_1 (Int32.not_lt.mpr q.1))) | exact bI_pf (decide_eq_false (fun q => absurd q.2 (Int32.not_lt.mpr c_9)))) rfl
    · refine gx_iconst (v := 1) C dX2_hasRow_12 (by decide) ?_
      refine gx_goto (tgt := 17) C dX2_hasRow_13 (by decide) ?_
      exact gx_zret C hRt hlocks dX2_hasRow_17 rfl (by first | exact bI_pt (decide_eq_true ⟨Int32.not_lt.mp c_1, Int32.not_le.mp c_9⟩) | exact bI_pf (decide_eq_false (fun q => absurd c_1 (Int32.not_lt.mpr q.1))) | exact bI_pf (decide_eq_false (fun q => absurd q.2 (Int32.not_lt.mpr c_9)))) rfl
set_option maxHeartbeats 4000000 in
set_option maxRecDepth 100000 in
/-- has -/
theorem c_X0_has {l : Launch} {D : va_G} {cI cG cL : ClassId} {ad : Nat → Nat} {n t : Nat} {B : Int32} {u g : Nat → Nat → Int32} {x : Int32}  : gx_M l yX0_has wsX0_has ({ frames := 0, cells := 0, slots := 0, locals := 0 }) D vwCl (gT cI cG cL) [.ref (ad 1), .int x] (yW cI cG ad n t B u g) (yW cI cG ad n t B u g) (some (.int (bI (yHas u x)))) := by
  refine gx_ofG (cc := cX0_has) (maxL := 2) (ret := (some .boolean)) [some (.ref (ad 1)), some (.int x)] (by decide) rfl rfl (Nat.le_of_ble_eq_true rfl) rfl ?_
  intro p e s m args below meth c C hRt hlocks hK
  have C : CallFix p m c cX0_has 2 s args (wsX0_has) RX0 := C
  have hT : ∀ w ∈ bigW, w ∈ wsX0_has := bgT
  refine gx_iload_n C dX0_has_0 rfl ?_
  refine gx_if_lt (tgt := 16) C dX0_has_1 (by decide) (fun c_1 => ?_) (fun c_1 => ?_)
  · refine gx_iconst (v := 0) C dX0_has_16 (by decide) ?_
    exact gx_zret C hRt hlocks dX0_has_17 rfl (by first | exact bI_pt (decide_eq_true ⟨Int32.not_lt.mp c_1, Int32.not_le.mp c_9⟩) | exact bI_pf (decide_eq_false (fun q => absurd c_1 (Int32.not_lt.mpr q.1))) | exact bI_pf (decide_eq_false (fun q => absurd q.2 (Int32.not_lt.mpr c_9)))) rfl
  · refine gx_iload_n C dX0_has_4 rfl ?_
    refine gx_aload_n C dX0_has_5 rfl ?_
    refine yg_X0_told C hK hT m47 dX0_has_6 ?_
    refine gx_icmp_ge (tgt := 16) C dX0_has_9 (by decide) (fun c_9 => ?_) (fun c_9 => ?_)
    · refine gx_iconst (v := 0) C dX0_has_16 (by decide) ?_
      exact gx_zret C hRt hlocks dX0_has_17 rfl (by first | exact bI_pt (decide_eq_true ⟨Int32.not_lt.mp c_1, Int32.not_le.mp c_9⟩) | exact bI_pf (decide_eq_false (fun q => absurd c_1 (Int32.not_lt.mpr q.1))) | exact bI_pf (decide_eq_false (fun q => absurd q.2 (Int32.not_lt.mpr c_9)))) rfl
    · refine gx_iconst (v := 1) C dX0_has_12 (by decide) ?_
      refine gx_goto (tgt := 17) C dX0_has_13 (by decide) ?_
      exact gx_zret C hRt hlocks dX0_has_17 rfl (by first | exact bI_pt (decide_eq_true ⟨Int32.not_lt.mp c_1, Int32.not_le.mp c_9⟩) | exact bI_pf (decide_eq_false (fun q => absurd c_1 (Int32.not_lt.mpr q.1))) | exact bI_pf (decide_eq_false (fun q => absurd q.2 (Int32.not_lt.mpr c_9)))) rfl
set_option maxHeartbeats 4000000 in
set_option maxRecDepth 100000 in
/-- stands -/
theorem c_X2_stands {l : Launch} {D : va_G} {cI cG cL : ClassId} {ad : Nat → Nat} {n t : Nat} {B : Int32} {u g : Nat → Nat → Int32} {b : Nat} (hb : b < 60) : gx_M l yX2_stands wsX2_stands ({ frames := 0, cells := 0, slots := 0, locals := 0 }) D vwCl (gT cI cG cL) [.ref (ad 7), .int (nI b)] (yW cI cG ad n t B u g) (yW cI cG ad n t B u g) (some (.int (bI (ySt u b)))) := by
  refine gx_ofG (cc := cX2_stands) (maxL := 2) (ret := (some .boolean)) [some (.ref (ad 7)), some (.int (nI b))] (by decide) rfl rfl (Nat.le_of_ble_eq_true rfl) rfl ?_
  intro p e s m args below meth c C hRt hlocks hK
  have C : CallFix p m c cX2_stands 2 s args (wsX2_stands) RX2 := C
  have hT : ∀ w ∈ bigW, w ∈ wsX2_stands := bgT
  refine gx_aload_n C dX2_stands_0 rfl ?_
  refine yg_X2_rowOf C hK hT m82 dX2_stands_1 ?_
  refine gx_iload_n C dX2_stands_4 rfl ?_
  refine yl_7 C hK rfl (by omega) dX2_stands_5 ?_
  refine gx_iconst (v := (-1)) C dX2_stands_6 (by decide) ?_
  refine gx_icmp_eq (tgt := 14) C dX2_stands_7 (by decide) (fun c_7 => ?_) (fun c_7 => ?_)
  · refine gx_iconst (v := 0) C dX2_stands_14 (by decide) ?_
    exact gx_zret C hRt hlocks dX2_stands_15 rfl (by first | exact bI_pt (decide_eq_true c_7) | exact bI_pf (decide_eq_false (fun q => q c_7))) rfl
  · refine gx_iconst (v := 1) C dX2_stands_10 (by decide) ?_
    refine gx_goto (tgt := 15) C dX2_stands_11 (by decide) ?_
    exact gx_zret C hRt hlocks dX2_stands_15 rfl (by first | exact bI_pt (decide_eq_true c_7) | exact bI_pf (decide_eq_false (fun q => q c_7))) rfl
set_option maxHeartbeats 4000000 in
set_option maxRecDepth 100000 in
/-- top -/
theorem c_X2_top {l : Launch} {D : va_G} {cI cG cL : ClassId} {ad : Nat → Nat} {n t : Nat} {B : Int32} {u g : Nat → Nat → Int32} {r : Nat} (hOK : yOK n t u g) (hr : r < n) : gx_M l yX2_top wsX2_top ({ frames := 0, cells := 0, slots := 0, locals := 0 }) D vwCl (gT cI cG cL) [.ref (ad 7), .int (nI r)] (yW cI cG ad n t B u g) (yW cI cG ad n t B u g) (some (.int (yTop u g r))) := by
  refine gx_ofG (cc := cX2_top) (maxL := 2) (ret := (some .int)) [some (.ref (ad 7)), some (.int (nI r))] (by decide) rfl rfl (Nat.le_of_ble_eq_true rfl) rfl ?_
  intro p e s m args below meth c C hRt hlocks hK
  have C : CallFix p m c cX2_top 2 s args (wsX2_top) RX2 := C
  have hT : ∀ w ∈ bigW, w ∈ wsX2_top := bgT
  have hn := hOK.hn
  have ht := hOK.ht
  have h6 := hOK.h6 hr
  have hh := hOK.hh hr
  refine gx_aload_n C dX2_top_0 rfl ?_
  refine yg_X2_heights C hK hT m80 dX2_top_1 ?_
  refine gx_iload_n C dX2_top_4 rfl ?_
  refine yl_6 C hK rfl (by omega) (by omega) dX2_top_5 ?_
  refine gx_if_ne (tgt := 13) C dX2_top_6 (by decide) (fun c_6 => ?_) (fun c_6 => ?_)
  · refine gx_aload_n C dX2_top_13 rfl ?_
    refine yg_X2_cells C hK hT m78 dX2_top_14 ?_
    refine gx_iload_n C dX2_top_17 rfl ?_
    refine yl_grid C hK rfl (by omega) (by omega) dX2_top_18 ?_
    have hz : yH u r ≠ 0 := fun q => c_6 (by rw [h6, q]; rfl)
    refine gx_aload_n C dX2_top_19 rfl ?_
    refine yg_X2_heights C hK hT m80 dX2_top_20 ?_
    refine gx_iload_n C dX2_top_23 rfl ?_
    refine yl_6 C hK rfl (by omega) (by omega) dX2_top_24 ?_
    refine gx_iconst (v := 1) C dX2_top_25 (by decide) ?_
    refine gx_isub C dX2_top_26 ?_
    rw [show u 6 r - 1 = nI (yH u r - 1) by rw [h6]; exact pk_sub (b := 1) (by omega)]
    refine yl_row C hK rfl (by omega) (by omega) (by omega) dX2_top_27 ?_
    exact gx_iret C hRt hlocks dX2_top_28 (by first | exact (if_pos c_6).symm | exact (if_neg c_6).symm) rfl
  · refine gx_iconst (v := (-1)) C dX2_top_9 (by decide) ?_
    refine gx_goto (tgt := 28) C dX2_top_10 (by decide) ?_
    exact gx_iret C hRt hlocks dX2_top_28 (by first | exact (if_pos c_6).symm | exact (if_neg c_6).symm) rfl
set_option maxHeartbeats 4000000 in
set_option maxRecDepth 100000 in
/-- above -/
theorem c_X2_above {l : Launch} {D : va_G} {cI cG cL : ClassId} {ad : Nat → Nat} {n t : Nat} {B : Int32} {u g : Nat → Nat → Int32} {b : Nat} (hOK : yOK n t u g) (hb : b < 60) : gx_M l yX2_above wsX2_above ({ frames := 1, cells := 0, slots := 0, locals := 21 }) D vwCl (gT cI cG cL) [.ref (ad 7), .int (nI b)] (yW cI cG ad n t B u g) (yW cI cG ad n t B u g) (some (.int (yAb u b))) := by
  refine gx_ofG (cc := cX2_above) (maxL := 2) (ret := (some .int)) [some (.ref (ad 7)), some (.int (nI b))] (by decide) rfl rfl (Nat.le_of_ble_eq_true rfl) rfl ?_
  intro p e s m args below meth c C hRt hlocks hK
  have C : CallFix p m c cX2_above 2 s args (wsX2_above) RX2 := C
  have hT : ∀ w ∈ bigW, w ∈ wsX2_above := bgT
  have hn := hOK.hn
  have ht := hOK.ht
  refine gx_aload_n C dX2_above_0 rfl ?_
  refine gx_iload_n C dX2_above_1 rfl ?_
  refine gx_cVi (n := 1) (q0 := 7) C hK (c_X2_stands (l := l) (D := D) (cI := cI) (cG := cG) (cL := cL) (ad := ad) (n := n) (t := t) (B := B) (u := u) (g := g) hb) yW_fst (bgV hT m172 m173 m174 m4 m175) rfl rfl rfl (by decide +kernel) ⟨Nat.le_of_ble_eq_true rfl, Nat.le_of_ble_eq_true rfl⟩ rfl rfl rfl rfl (Nat.le_of_ble_eq_true rfl) (Nat.zero_le _) (Nat.zero_le _) dX2_above_2 ?_
  refine gx_if_eq (tgt := 31) C dX2_above_5 (by decide) (fun c_5 => ?_) (fun c_5 => ?_)
  · refine gx_iconst (v := 0) C dX2_above_31 (by decide) ?_
    exact gx_iret C hRt hlocks dX2_above_32 (by first | exact (if_pos (ySt_f c_5)).symm | (rw [yAb, if_neg (ySt_t c_5), e7, nI_clamp (by omega)])) rfl
  · obtain ⟨r, k, hr, hk, e7, e8⟩ := hOK.h7 hb (ySt_t c_5)
    refine gx_aload_n C dX2_above_8 rfl ?_
    refine yg_X2_heights C hK hT m80 dX2_above_9 ?_
    refine gx_aload_n C dX2_above_12 rfl ?_
    refine yg_X2_rowOf C hK hT m82 dX2_above_13 ?_
    refine gx_iload_n C dX2_above_16 rfl ?_
    refine yl_7 C hK rfl (by omega) dX2_above_17 ?_
    rw [e7]
    refine yl_6 C hK rfl (by omega) (by omega) dX2_above_18 ?_
    refine gx_iconst (v := 1) C dX2_above_19 (by decide) ?_
    refine gx_isub C dX2_above_20 ?_
    refine gx_aload_n C dX2_above_21 rfl ?_
    refine yg_X2_tierOf C hK hT m84 dX2_above_22 ?_
    refine gx_iload_n C dX2_above_25 rfl ?_
    refine yl_8 C hK rfl (by omega) dX2_above_26 ?_
    refine gx_isub C dX2_above_27 ?_
    refine gx_goto (tgt := 32) C dX2_above_28 (by decide) ?_
    exact gx_iret C hRt hlocks dX2_above_32 (by first | exact (if_pos (ySt_f c_5)).symm | (rw [yAb, if_neg (ySt_t c_5), e7, nI_clamp (by omega)])) rfl
set_option maxHeartbeats 4000000 in
set_option maxRecDepth 100000 in
/-- isOnTop -/
theorem c_X2_isOnTop {l : Launch} {D : va_G} {cI cG cL : ClassId} {ad : Nat → Nat} {n t : Nat} {B : Int32} {u g : Nat → Nat → Int32} {b : Nat} (hOK : yOK n t u g) (hb : b < 60) : gx_M l yX2_isOnTop wsX2_isOnTop ({ frames := 2, cells := 0, slots := 0, locals := 42 }) D vwCl (gT cI cG cL) [.ref (ad 7), .int (nI b)] (yW cI cG ad n t B u g) (yW cI cG ad n t B u g) (some (.int (bI (yOn u b)))) := by
  refine gx_ofG (cc := cX2_isOnTop) (maxL := 2) (ret := (some .boolean)) [some (.ref (ad 7)), some (.int (nI b))] (by decide) rfl rfl (Nat.le_of_ble_eq_true rfl) rfl ?_
  intro p e s m args below meth c C hRt hlocks hK
  have C : CallFix p m c cX2_isOnTop 2 s args (wsX2_isOnTop) RX2 := C
  have hT : ∀ w ∈ bigW, w ∈ wsX2_isOnTop := bgT
  refine gx_aload_n C dX2_isOnTop_0 rfl ?_
  refine gx_iload_n C dX2_isOnTop_1 rfl ?_
  refine gx_cVi (n := 1) (q0 := 7) C hK (c_X2_stands (l := l) (D := D) (cI := cI) (cG := cG) (cL := cL) (ad := ad) (n := n) (t := t) (B := B) (u := u) (g := g) hb) yW_fst (bgV hT m172 m173 m174 m4 m175) rfl rfl rfl (by decide +kernel) ⟨Nat.le_of_ble_eq_true rfl, Nat.le_of_ble_eq_true rfl⟩ rfl rfl rfl rfl (Nat.le_of_ble_eq_true rfl) (Nat.zero_le _) (Nat.zero_le _) dX2_isOnTop_2 ?_
  refine gx_if_eq (tgt := 20) C dX2_isOnTop_5 (by decide) (fun c_5 => ?_) (fun c_5 => ?_)
  · refine gx_iconst (v := 0) C dX2_isOnTop_20 (by decide) ?_
    exact gx_zret C hRt hlocks dX2_isOnTop_21 rfl (by first | (rw [show yOn u b = true from decide_eq_true ⟨ySt_t c_5, c_13⟩]; rfl) | (rw [show yOn u b = false from decide_eq_false (fun q => c_13 q.2)]; rfl) | (rw [show yOn u b = false from decide_eq_false (fun q => q.1 (ySt_f c_5))]; rfl)) rfl
  · refine gx_aload_n C dX2_isOnTop_8 rfl ?_
    refine gx_iload_n C dX2_isOnTop_9 rfl ?_
    refine gx_cVi (n := 1) (q0 := 7) C hK (c_X2_above (l := l) (D := D) (cI := cI) (cG := cG) (cL := cL) (ad := ad) (n := n) (t := t) (B := B) (u := u) (g := g) hOK hb) yW_fst (bgV hT m385 m386 m387 m4 m388) rfl rfl rfl (by decide +kernel) ⟨Nat.le_of_ble_eq_true rfl, Nat.le_of_ble_eq_true rfl⟩ rfl rfl rfl rfl (Nat.le_of_ble_eq_true rfl) (Nat.zero_le _) (Nat.zero_le _) dX2_isOnTop_10 ?_
    refine gx_if_ne (tgt := 20) C dX2_isOnTop_13 (by decide) (fun c_13 => ?_) (fun c_13 => ?_)
    · refine gx_iconst (v := 0) C dX2_isOnTop_20 (by decide) ?_
      exact gx_zret C hRt hlocks dX2_isOnTop_21 rfl (by first | (rw [show yOn u b = true from decide_eq_true ⟨ySt_t c_5, c_13⟩]; rfl) | (rw [show yOn u b = false from decide_eq_false (fun q => c_13 q.2)]; rfl) | (rw [show yOn u b = false from decide_eq_false (fun q => q.1 (ySt_f c_5))]; rfl)) rfl
    · refine gx_iconst (v := 1) C dX2_isOnTop_16 (by decide) ?_
      refine gx_goto (tgt := 21) C dX2_isOnTop_17 (by decide) ?_
      exact gx_zret C hRt hlocks dX2_isOnTop_21 rfl (by first | (rw [show yOn u b = true from decide_eq_true ⟨ySt_t c_5, c_13⟩]; rfl) | (rw [show yOn u b = false from decide_eq_false (fun q => c_13 q.2)]; rfl) | (rw [show yOn u b = false from decide_eq_false (fun q => q.1 (ySt_f c_5))]; rfl)) rfl
set_option maxHeartbeats 4000000 in
set_option maxRecDepth 100000 in
/-- lift -/
theorem c_X2_lift {l : Launch} {D : va_G} {cI cG cL : ClassId} {ad : Nat → Nat} {n t : Nat} {B : Int32} {u g : Nat → Nat → Int32} {b r : Nat} (hOK : yOK n t u g) (hb : b < 60) (hr : r < n) (e7 : u 7 b = nI r) (h0 : 0 < yH u r) : gx_M l yX2_lift wsX2_lift ({ frames := 0, cells := 0, slots := 0, locals := 0 }) D vwCl (gT cI cG cL) [.ref (ad 7), .int (nI b)] (yW cI cG ad n t B u g) (yW cI cG ad n t B (yLiftU u b r) (yLiftG u g r)) none := by
  refine gx_ofG (cc := cX2_lift) (maxL := 3) (ret := none) [some (.ref (ad 7)), some (.int (nI b)), none] (by decide) rfl rfl (Nat.le_of_ble_eq_true rfl) rfl ?_
  intro p e s m args below meth c C hRt hlocks hK
  have C : CallFix p m c cX2_lift 3 s args (wsX2_lift) RX2 := C
  have hT : ∀ w ∈ bigW, w ∈ wsX2_lift := bgT
  have hn := hOK.hn
  have ht := hOK.ht
  have h6 := hOK.h6 hr
  have hh := hOK.hh hr
  refine gx_aload_n C dX2_lift_0 rfl ?_
  refine yg_X2_rowOf C hK hT m82 dX2_lift_1 ?_
  refine gx_iload_n C dX2_lift_4 rfl ?_
  refine yl_7 C hK rfl (by omega) dX2_lift_5 ?_
  rw [e7]
  refine gx_istore_n (lv2 := [some _, some _, some _]) C dX2_lift_6 (by decide) rfl ?_
  refine gx_aload_n C dX2_lift_7 rfl ?_
  refine yg_X2_heights C hK hT m80 dX2_lift_8 ?_
  refine gx_iload_n C dX2_lift_11 rfl ?_
  refine gx_dup2 C dX2_lift_12 rfl rfl ?_
  refine yl_6 C hK rfl (by omega) (by omega) dX2_lift_13 ?_
  refine gx_iconst (v := 1) C dX2_lift_14 (by decide) ?_
  refine gx_isub C dX2_lift_15 ?_
  refine ys_6 C hK rfl (by omega) (by omega) dX2_lift_16 ?_
  refine gx_aload_n C dX2_lift_17 rfl ?_
  refine yg_X2_cells C hK hT m78 dX2_lift_18 ?_
  refine gx_iload_n C dX2_lift_21 rfl ?_
  refine yl_grid C hK rfl (by omega) (by omega) dX2_lift_22 ?_
  refine gx_aload_n C dX2_lift_23 rfl ?_
  refine yg_X2_heights C hK hT m80 dX2_lift_24 ?_
  refine gx_iload_n C dX2_lift_27 rfl ?_
  refine yl_6 C hK rfl (by omega) (by omega) dX2_lift_28 ?_
  rw [show mu u 6 r (u 6 r - 1) 6 r = nI (yH u r - 1) by rw [mu_same, pk_us, h6]; exact pk_sub (b := 1) (by omega)]
  refine gx_iconst (v := (-1)) C dX2_lift_29 (by decide) ?_
  refine ys_row C hK rfl (by omega) (by omega) (by omega) dX2_lift_30 ?_
  refine gx_aload_n C dX2_lift_31 rfl ?_
  refine yg_X2_rowOf C hK hT m82 dX2_lift_32 ?_
  refine gx_iload_n C dX2_lift_35 rfl ?_
  refine gx_iconst (v := (-1)) C dX2_lift_36 (by decide) ?_
  refine ys_7 C hK rfl (by omega) dX2_lift_37 ?_
  refine gx_aload_n C dX2_lift_38 rfl ?_
  refine yg_X2_tierOf C hK hT m84 dX2_lift_39 ?_
  refine gx_iload_n C dX2_lift_42 rfl ?_
  refine gx_iconst (v := (-1)) C dX2_lift_43 (by decide) ?_
  refine ys_8 C hK rfl (by omega) dX2_lift_44 ?_
  exact gx_vret C hRt hlocks dX2_lift_45 rfl
set_option maxHeartbeats 4000000 in
set_option maxRecDepth 100000 in
/-- lay -/
theorem c_X2_lay {l : Launch} {D : va_G} {cI cG cL : ClassId} {ad : Nat → Nat} {n t : Nat} {B : Int32} {u g : Nat → Nat → Int32} {b r : Nat} (hn : n ≤ 16) (ht : t ≤ 8) (hb : b < 60) (hr : r < n) (h6 : u 6 r = nI (yH u r)) (h0 : yH u r < t) : gx_M l yX2_lay wsX2_lay ({ frames := 0, cells := 0, slots := 0, locals := 0 }) D vwCl (gT cI cG cL) [.ref (ad 7), .int (nI b), .int (nI r)] (yW cI cG ad n t B u g) (yW cI cG ad n t B (yLayU u b r) (yLayG u g b r)) none := by
  refine gx_ofG (cc := cX2_lay) (maxL := 4) (ret := none) [some (.ref (ad 7)), some (.int (nI b)), some (.int (nI r)), none] (by decide) rfl rfl (Nat.le_of_ble_eq_true rfl) rfl ?_
  intro p e s m args below meth c C hRt hlocks hK
  have C : CallFix p m c cX2_lay 4 s args (wsX2_lay) RX2 := C
  have hT : ∀ w ∈ bigW, w ∈ wsX2_lay := bgT
  refine gx_aload_n C dX2_lay_0 rfl ?_
  refine yg_X2_heights C hK hT m80 dX2_lay_1 ?_
  refine gx_iload_n C dX2_lay_4 rfl ?_
  refine yl_6 C hK rfl (by omega) (by omega) dX2_lay_5 ?_
  rw [h6]
  refine gx_istore_n (lv2 := [some _, some _, some _, some _]) C dX2_lay_6 (by decide) rfl ?_
  refine gx_aload_n C dX2_lay_7 rfl ?_
  refine yg_X2_cells C hK hT m78 dX2_lay_8 ?_
  refine gx_iload_n C dX2_lay_11 rfl ?_
  refine yl_grid C hK rfl (by omega) (by omega) dX2_lay_12 ?_
  refine gx_iload_n C dX2_lay_13 rfl ?_
  refine gx_iload_n C dX2_lay_14 rfl ?_
  refine ys_row C hK rfl (by omega) (by omega) (by omega) dX2_lay_15 ?_
  refine gx_aload_n C dX2_lay_16 rfl ?_
  refine yg_X2_rowOf C hK hT m82 dX2_lay_17 ?_
  refine gx_iload_n C dX2_lay_20 rfl ?_
  refine gx_iload_n C dX2_lay_21 rfl ?_
  refine ys_7 C hK rfl (by omega) dX2_lay_22 ?_
  refine gx_aload_n C dX2_lay_23 rfl ?_
  refine yg_X2_tierOf C hK hT m84 dX2_lay_24 ?_
  refine gx_iload_n C dX2_lay_27 rfl ?_
  refine gx_iload_n C dX2_lay_28 rfl ?_
  refine ys_8 C hK rfl (by omega) dX2_lay_29 ?_
  refine gx_aload_n C dX2_lay_30 rfl ?_
  refine yg_X2_heights C hK hT m80 dX2_lay_31 ?_
  refine gx_iload_n C dX2_lay_34 rfl ?_
  refine gx_dup2 C dX2_lay_35 rfl rfl ?_
  refine yl_6 C hK rfl (by omega) (by omega) dX2_lay_36 ?_
  refine gx_iconst (v := 1) C dX2_lay_37 (by decide) ?_
  refine gx_iadd C dX2_lay_38 ?_
  refine ys_6 C hK rfl (by omega) (by omega) dX2_lay_39 ?_
  exact gx_vret C hRt hlocks dX2_lay_40 rfl
set_option maxHeartbeats 4000000 in
set_option maxRecDepth 100000 in
/-- tell -/
theorem c_X0_tell {l : Launch} {D : va_G} {cI cG cL : ClassId} {ad : Nat → Nat} {n t : Nat} {B : Int32} {u g : Nat → Nat → Int32} {x1 x2 x3 x4 x5 : Int32} {T : Nat} (hT : T < 60) (e0 : u 0 0 = nI T) : gx_M l yX0_tell wsX0_tell ({ frames := 0, cells := 0, slots := 0, locals := 0 }) D vwCl (gT cI cG cL) [.ref (ad 1), .int x1, .int x2, .int x3, .int x4, .int x5] (yW cI cG ad n t B u g) (yW cI cG ad n t B (yTellU u T x1 x2 x3 x4 x5) g) (some (.int (nI T))) := by
  refine gx_ofG (cc := cX0_tell) (maxL := 7) (ret := (some .int)) [some (.ref (ad 1)), some (.int x1), some (.int x2), some (.int x3), some (.int x4), some (.int x5), none] (by decide) rfl rfl (Nat.le_of_ble_eq_true rfl) rfl ?_
  intro p e s m args below meth c C hRt hlocks hK
  have C : CallFix p m c cX0_tell 7 s args (wsX0_tell) RX0 := C
  have hT : ∀ w ∈ bigW, w ∈ wsX0_tell := bgT
  refine gx_aload_n C dX0_tell_0 rfl ?_
  refine yg_X0_told C hK hT m47 dX0_tell_1 ?_
  rw [e0]
  refine gx_istore (lv2 := [some _, some _, some _, some _, some _, some _, some _]) C dX0_tell_4 (by decide) rfl ?_
  refine gx_aload_n C dX0_tell_6 rfl ?_
  refine yg_X0_size C hK hT m37 dX0_tell_7 ?_
  refine gx_iload C dX0_tell_10 rfl ?_
  refine gx_iload_n C dX0_tell_12 rfl ?_
  refine ys_1 C hK rfl (by omega) dX0_tell_13 ?_
  refine gx_aload_n C dX0_tell_14 rfl ?_
  refine yg_X0_weight C hK hT m39 dX0_tell_15 ?_
  refine gx_iload C dX0_tell_18 rfl ?_
  refine gx_iload_n C dX0_tell_20 rfl ?_
  refine ys_2 C hK rfl (by omega) dX0_tell_21 ?_
  refine gx_aload_n C dX0_tell_22 rfl ?_
  refine yg_X0_leaves C hK hT m41 dX0_tell_23 ?_
  refine gx_iload C dX0_tell_26 rfl ?_
  refine gx_iload_n C dX0_tell_28 rfl ?_
  refine ys_3 C hK rfl (by omega) dX0_tell_29 ?_
  refine gx_aload_n C dX0_tell_30 rfl ?_
  refine yg_X0_ship C hK hT m43 dX0_tell_31 ?_
  refine gx_iload C dX0_tell_34 rfl ?_
  refine gx_iload C dX0_tell_36 rfl ?_
  refine ys_4 C hK rfl (by omega) dX0_tell_38 ?_
  refine gx_aload_n C dX0_tell_39 rfl ?_
  refine yg_X0_kind C hK hT m45 dX0_tell_40 ?_
  refine gx_iload C dX0_tell_43 rfl ?_
  refine gx_iload C dX0_tell_45 rfl ?_
  refine ys_5 C hK rfl (by omega) dX0_tell_47 ?_
  refine gx_aload_n C dX0_tell_48 rfl ?_
  refine gx_dup C dX0_tell_49 rfl ?_
  refine yg_X0_told C hK hT m47 dX0_tell_50 ?_
  refine gx_iconst (v := 1) C dX0_tell_53 (by decide) ?_
  refine gx_iadd C dX0_tell_54 ?_
  refine yp_X0_told C hK hT m47 dX0_tell_55 ?_
  refine gx_iload C dX0_tell_58 rfl ?_
  exact gx_iret C hRt hlocks dX0_tell_60 rfl rfl
set_option maxHeartbeats 4000000 in
set_option maxRecDepth 100000 in
/-- keep -/
theorem c_X1_keep {l : Launch} {D : va_G} {cI cG cL : ClassId} {ad : Nat → Nat} {n t : Nat} {B : Int32} {u g : Nat → Nat → Int32} {x : Int32} {b mk : Nat} (hm : mk < 2 ^ 30) (e1 : u 0 1 = nI mk) : gx_M l yX1_keep wsX1_keep ({ frames := 1, cells := 0, slots := 0, locals := 21 }) D vwCl (gT cI cG cL) [.ref (ad 12), .int (nI b), .int x] (yW cI cG ad n t B u g) (yW cI cG ad n t B (yKeepU u (mk % 100) b x) g) none := by
  refine gx_ofG (cc := cX1_keep) (maxL := 4) (ret := none) [some (.ref (ad 12)), some (.int (nI b)), some (.int x), none] (by decide) rfl rfl (Nat.le_of_ble_eq_true rfl) rfl ?_
  intro p e s m args below meth c C hRt hlocks hK
  have C : CallFix p m c cX1_keep 4 s args (wsX1_keep) RX1 := C
  have hT : ∀ w ∈ bigW, w ∈ wsX1_keep := bgT
  refine gx_aload_n C dX1_keep_0 rfl ?_
  refine yg_X1_made C hK hT m109 dX1_keep_1 ?_
  refine gx_bipush (v := 100) C dX1_keep_4 (by decide) ?_
  refine gx_irem C dX1_keep_6 (by decide) ?_
  rw [show u 0 1 - u 0 1 / 100 * 100 = nI (mk % 100) by rw [e1]; exact pk_rem (d := 100) (by omega) (by decide) (by decide)]
  have hq : mk % 100 < 100 := Nat.mod_lt _ (by decide)
  refine gx_istore_n (lv2 := [some _, some _, some _, some _]) C dX1_keep_7 (by decide) rfl ?_
  refine gx_aload_n C dX1_keep_8 rfl ?_
  refine yg_X1_boxes C hK hT m105 dX1_keep_9 ?_
  refine gx_iload_n C dX1_keep_12 rfl ?_
  refine gx_iload_n C dX1_keep_13 rfl ?_
  refine ys_9 C hK rfl (by omega) dX1_keep_14 ?_
  refine gx_aload_n C dX1_keep_15 rfl ?_
  refine yg_X1_origins C hK hT m107 dX1_keep_16 ?_
  refine gx_iload_n C dX1_keep_19 rfl ?_
  refine gx_iload_n C dX1_keep_20 rfl ?_
  refine ys_10 C hK rfl (by omega) dX1_keep_21 ?_
  refine gx_aload_n C dX1_keep_22 rfl ?_
  refine gx_dup C dX1_keep_23 rfl ?_
  refine yg_X1_made C hK hT m109 dX1_keep_24 ?_
  refine gx_iconst (v := 1) C dX1_keep_27 (by decide) ?_
  refine gx_iadd C dX1_keep_28 ?_
  refine yp_X1_made C hK hT m109 dX1_keep_29 ?_
  refine gx_aload_n C dX1_keep_32 rfl ?_
  refine gx_aload_n C dX1_keep_33 rfl ?_
  refine yg_X1_kept C hK hT m111 dX1_keep_34 ?_
  refine gx_iconst (v := 1) C dX1_keep_37 (by decide) ?_
  refine gx_iadd C dX1_keep_38 ?_
  refine gx_bipush (v := 100) C dX1_keep_39 (by decide) ?_
  refine gx_mmin C (hT _ m373) (hT _ mMmin_s) (hT _ m2) (hT _ mMmin_c) (Nat.le_of_ble_eq_true rfl) (Nat.le_of_ble_eq_true rfl) (Nat.zero_le _) (Nat.zero_le _) dX1_keep_41 ?_
  refine yp_X1_kept C hK hT m111 dX1_keep_44 ?_
  exact gx_vret C hRt hlocks dX1_keep_47 rfl
set_option maxHeartbeats 4000000 in
set_option maxRecDepth 100000 in
/-- dropLatest -/
theorem c_X1_dropLatest {l : Launch} {D : va_G} {cI cG cL : ClassId} {ad : Nat → Nat} {n t : Nat} {B : Int32} {u g : Nat → Nat → Int32} {mk : Nat} (hm : mk < 2 ^ 30) (e1 : u 0 1 = nI (mk + 1)) : gx_M l yX1_dropLatest wsX1_dropLatest ({ frames := 0, cells := 0, slots := 0, locals := 0 }) D vwCl (gT cI cG cL) [.ref (ad 12)] (yW cI cG ad n t B u g) (yW cI cG ad n t B (yDropU u) g) (some (.int (nI (mk % 100)))) := by
  refine gx_ofG (cc := cX1_dropLatest) (maxL := 1) (ret := (some .int)) [some (.ref (ad 12))] (by decide) rfl rfl (Nat.le_of_ble_eq_true rfl) rfl ?_
  intro p e s m args below meth c C hRt hlocks hK
  have C : CallFix p m c cX1_dropLatest 1 s args (wsX1_dropLatest) RX1 := C
  have hT : ∀ w ∈ bigW, w ∈ wsX1_dropLatest := bgT
  refine gx_aload_n C dX1_dropLatest_0 rfl ?_
  refine gx_dup C dX1_dropLatest_1 rfl ?_
  refine yg_X1_made C hK hT m109 dX1_dropLatest_2 ?_
  refine gx_iconst (v := 1) C dX1_dropLatest_5 (by decide) ?_
  refine gx_isub C dX1_dropLatest_6 ?_
  refine yp_X1_made C hK hT m109 dX1_dropLatest_7 ?_
  refine gx_aload_n C dX1_dropLatest_10 rfl ?_
  refine gx_dup C dX1_dropLatest_11 rfl ?_
  refine yg_X1_kept C hK hT m111 dX1_dropLatest_12 ?_
  refine gx_iconst (v := 1) C dX1_dropLatest_15 (by decide) ?_
  refine gx_isub C dX1_dropLatest_16 ?_
  refine yp_X1_kept C hK hT m111 dX1_dropLatest_17 ?_
  refine gx_aload_n C dX1_dropLatest_20 rfl ?_
  refine yg_X1_made C hK hT m109 dX1_dropLatest_21 ?_
  refine gx_bipush (v := 100) C dX1_dropLatest_24 (by decide) ?_
  refine gx_irem C dX1_dropLatest_26 (by decide) ?_
  exact gx_iret C hRt hlocks dX1_dropLatest_27 (by show u 0 1 - 1 - (u 0 1 - 1) / 100 * 100 = _; rw [e1, nI_pred]; exact pk_rem (d := 100) (by omega) (by decide) (by decide)) rfl
set_option maxHeartbeats 4000000 in
set_option maxRecDepth 100000 in
theorem lp_X3_weightOn {l : Launch} {D : va_G} {cI cG cL : ClassId} {ad : Nat → Nat} {n t : Nat} {B : Int32} {u g : Nat → Nat → Int32} {r : Nat} {p : Program} {e : Env} {s : State} {m : MethodId} {args : Array Value} {below : List Frame} {meth : Method} {c : Code} (C : CallFix p m c cX3_weightOn 4 s args wsX3_weightOn RX3) (hT : ∀ w ∈ bigW, w ∈ wsX3_weightOn) (hRt : meth.sig.returnType = (some .int)) (hlocks : meth.locks = false) (hK : va_K D vwCl (gT cI cG cL) s) (hOK : yOK n t u g) (hr : r < n)  : ∀ (d j : Nat) , j + d = yH u r → gx_G p l e (headSpec wsX3_weightOn ({ frames := 0, cells := 0, slots := 0, locals := 0 })).room s m args below meth c D vwCl (gx_in (yW cI cG ad n t B u g)) 4 0 0 (gx_Qm D vwCl below args s (yW cI cG ad n t B u g) (yW cI cG ad n t B u g) (some (.int (yWt u g r)))) (yW cI cG ad n t B u g) 4 [some (.ref (ad 0)), some (.int (nI r)), some (.int (ySum (fun j => u 2 (yB g r j)) j)), some (.int (nI j))] [] := by
  intro d
  induction d with
  | zero =>
    intro j  hj 
    have hn := hOK.hn
    have ht := hOK.ht
    have h6 := hOK.h6 hr
    have hh := hOK.hh hr
    refine gx_iload_n C dX3_weightOn_4 rfl ?_
    refine gx_aload_n C dX3_weightOn_5 rfl ?_
    refine yg_X3_stacks C hK hT m124 dX3_weightOn_6 ?_
    refine yg_X2_heights C hK hT m81 dX3_weightOn_9 ?_
    refine gx_iload_n C dX3_weightOn_12 rfl ?_
    refine yl_6 C hK rfl (by omega) (by omega) dX3_weightOn_13 ?_
    rw [h6]
    refine gx_icmp_ge (tgt := 45) C dX3_weightOn_14 (by decide) (fun c_14 => ?_) (fun c => absurd (nI_le (by omega) (by omega)) c)
    refine gx_iload_n C dX3_weightOn_45 rfl ?_
    exact gx_iret C hRt hlocks dX3_weightOn_46 (by rw [Nat.add_zero] at hj; rw [hj]; rfl) rfl
  | succ d ih =>
    intro j  hj 
    have hn := hOK.hn
    have ht := hOK.ht
    have h6 := hOK.h6 hr
    have hh := hOK.hh hr
    refine gx_iload_n C dX3_weightOn_4 rfl ?_
    refine gx_aload_n C dX3_weightOn_5 rfl ?_
    refine yg_X3_stacks C hK hT m124 dX3_weightOn_6 ?_
    refine yg_X2_heights C hK hT m81 dX3_weightOn_9 ?_
    refine gx_iload_n C dX3_weightOn_12 rfl ?_
    refine yl_6 C hK rfl (by omega) (by omega) dX3_weightOn_13 ?_
    rw [h6]
    refine gx_icmp_ge (tgt := 45) C dX3_weightOn_14 (by decide) (fun c => absurd c (nI_ge (by omega) (by omega))) (fun c_14 => ?_)
    refine gx_iload_n C dX3_weightOn_17 rfl ?_
    refine gx_aload_n C dX3_weightOn_18 rfl ?_
    refine yg_X3_boxes C hK hT m123 dX3_weightOn_19 ?_
    refine yg_X0_weight C hK hT m40 dX3_weightOn_22 ?_
    refine gx_aload_n C dX3_weightOn_25 rfl ?_
    refine yg_X3_stacks C hK hT m124 dX3_weightOn_26 ?_
    refine yg_X2_cells C hK hT m79 dX3_weightOn_29 ?_
    refine gx_iload_n C dX3_weightOn_32 rfl ?_
    refine yl_grid C hK rfl (by omega) (by omega) dX3_weightOn_33 ?_
    refine gx_iload_n C dX3_weightOn_34 rfl ?_
    refine yl_row C hK rfl (by omega) (by omega) (by omega) dX3_weightOn_35 ?_
    have hj2 : j < yH u r := by omega
    have hb2 := hOK.hb hr hj2
    rw [hOK.hg hr hj2]
    refine yl_2 C hK rfl (by omega) dX3_weightOn_36 ?_
    refine gx_iadd C dX3_weightOn_37 ?_
    refine gx_istore_n (lv2 := [some _, some _, some _, some _]) C dX3_weightOn_38 (by decide) rfl ?_
    refine gx_iincN (lv2 := [some _, some _, some _, some _]) C dX3_weightOn_39 rfl (by decide) rfl ?_
    refine gx_goto (tgt := 4) C dX3_weightOn_42 (by decide) ?_
    exact ih (j + 1)  (by omega) 
set_option maxHeartbeats 4000000 in
set_option maxRecDepth 100000 in
/-- weightOn -/
theorem c_X3_weightOn {l : Launch} {D : va_G} {cI cG cL : ClassId} {ad : Nat → Nat} {n t : Nat} {B : Int32} {u g : Nat → Nat → Int32} {r : Nat} (hOK : yOK n t u g) (hr : r < n) : gx_M l yX3_weightOn wsX3_weightOn ({ frames := 0, cells := 0, slots := 0, locals := 0 }) D vwCl (gT cI cG cL) [.ref (ad 0), .int (nI r)] (yW cI cG ad n t B u g) (yW cI cG ad n t B u g) (some (.int (yWt u g r))) := by
  refine gx_ofG (cc := cX3_weightOn) (maxL := 4) (ret := (some .int)) [some (.ref (ad 0)), some (.int (nI r)), none, none] (by decide) rfl rfl (Nat.le_of_ble_eq_true rfl) rfl ?_
  intro p e s m args below meth c C hRt hlocks hK
  have C : CallFix p m c cX3_weightOn 4 s args (wsX3_weightOn) RX3 := C
  have hT : ∀ w ∈ bigW, w ∈ wsX3_weightOn := bgT
  refine gx_iconst (v := 0) C dX3_weightOn_0 (by decide) ?_
  refine gx_istore_n (lv2 := [some _, some _, some _, none]) C dX3_weightOn_1 (by decide) rfl ?_
  refine gx_iconst (v := 0) C dX3_weightOn_2 (by decide) ?_
  refine gx_istore_n (lv2 := [some _, some _, some _, some _]) C dX3_weightOn_3 (by decide) rfl ?_
  exact lp_X3_weightOn C hT hRt hlocks hK hOK hr (yH u r) 0  (by omega) 
set_option maxHeartbeats 4000000 in
set_option maxRecDepth 100000 in
theorem lp_X3_soonerBelow {l : Launch} {D : va_G} {cI cG cL : ClassId} {ad : Nat → Nat} {n t : Nat} {B : Int32} {u g : Nat → Nat → Int32} {b r k : Nat} {p : Program} {e : Env} {s : State} {m : MethodId} {args : Array Value} {below : List Frame} {meth : Method} {c : Code} (C : CallFix p m c cX3_soonerBelow 6 s args wsX3_soonerBelow RX3) (hT : ∀ w ∈ bigW, w ∈ wsX3_soonerBelow) (hRt : meth.sig.returnType = (some .int)) (hlocks : meth.locks = false) (hK : va_K D vwCl (gT cI cG cL) s) (hOK : yOK n t u g) (hb : b < 60) (hr : r < n) (hk : k ≤ yH u r)  : ∀ (d j : Nat) , j + d = k → gx_G p l e (headSpec wsX3_soonerBelow ({ frames := 0, cells := 0, slots := 0, locals := 0 })).room s m args below meth c D vwCl (gx_in (yW cI cG ad n t B u g)) 6 0 0 (gx_Qm D vwCl below args s (yW cI cG ad n t B u g) (yW cI cG ad n t B u g) (some (.int (nI (ySo u g b r k))))) (yW cI cG ad n t B u g) 6 [some (.ref (ad 0)), some (.int (nI b)), some (.int (nI r)), some (.int (nI k)), some (.int (nI (ySo u g b r j))), some (.int (nI j))] [] := by
  intro d
  induction d with
  | zero =>
    intro j  hj 
    have hn := hOK.hn
    have ht := hOK.ht
    have h6 := hOK.h6 hr
    have hh := hOK.hh hr
    refine gx_iload C dX3_soonerBelow_6 rfl ?_
    refine gx_iload_n C dX3_soonerBelow_8 rfl ?_
    refine gx_icmp_ge (tgt := 53) C dX3_soonerBelow_9 (by decide) (fun c_9 => ?_) (fun c => absurd (nI_le (by omega) (by omega)) c)
    refine gx_iload C dX3_soonerBelow_53 rfl ?_
    exact gx_iret C hRt hlocks dX3_soonerBelow_55 (by rw [Nat.add_zero] at hj; rw [hj]) rfl
  | succ d ih =>
    intro j  hj 
    have hn := hOK.hn
    have ht := hOK.ht
    have h6 := hOK.h6 hr
    have hh := hOK.hh hr
    refine gx_iload C dX3_soonerBelow_6 rfl ?_
    refine gx_iload_n C dX3_soonerBelow_8 rfl ?_
    refine gx_icmp_ge (tgt := 53) C dX3_soonerBelow_9 (by decide) (fun c => absurd c (nI_ge (by omega) (by omega))) (fun c_9 => ?_)
    refine gx_aload_n C dX3_soonerBelow_12 rfl ?_
    refine yg_X3_boxes C hK hT m123 dX3_soonerBelow_13 ?_
    refine yg_X0_leaves C hK hT m42 dX3_soonerBelow_16 ?_
    refine gx_aload_n C dX3_soonerBelow_19 rfl ?_
    refine yg_X3_stacks C hK hT m124 dX3_soonerBelow_20 ?_
    refine yg_X2_cells C hK hT m79 dX3_soonerBelow_23 ?_
    refine gx_iload_n C dX3_soonerBelow_26 rfl ?_
    refine yl_grid C hK rfl (by omega) (by omega) dX3_soonerBelow_27 ?_
    refine gx_iload C dX3_soonerBelow_28 rfl ?_
    refine yl_row C hK rfl (by omega) (by omega) (by omega) dX3_soonerBelow_30 ?_
    have hj2 : j < yH u r := by omega
    have hb2 := hOK.hb hr hj2
    rw [hOK.hg hr hj2]
    refine yl_3 C hK rfl (by omega) dX3_soonerBelow_31 ?_
    refine gx_aload_n C dX3_soonerBelow_32 rfl ?_
    refine yg_X3_boxes C hK hT m123 dX3_soonerBelow_33 ?_
    refine yg_X0_leaves C hK hT m42 dX3_soonerBelow_36 ?_
    refine gx_iload_n C dX3_soonerBelow_39 rfl ?_
    refine yl_3 C hK rfl (by omega) dX3_soonerBelow_40 ?_
    refine gx_icmp_ge (tgt := 47) C dX3_soonerBelow_41 (by decide) (fun c_41 => ?_) (fun c_41 => ?_)
    · first | rw [← e9] | rw [show ySo u g b r j = ySo u g b r (j + 1) by simp only [ySo, yCnt]; rw [if_neg (by simp only [decide_eq_true_eq]; exact Int32.not_lt.mpr c_41)]; rfl]
      refine gx_iincN (lv2 := [some _, some _, some _, some _, some _, some _]) C dX3_soonerBelow_47 rfl (by decide) rfl ?_
      refine gx_goto (tgt := 6) C dX3_soonerBelow_50 (by decide) ?_
      exact ih (j + 1)  (by omega) 
    · have e9 : ySo u g b r (j + 1) = ySo u g b r j + 1 := by simp only [ySo, yCnt]; rw [if_pos (decide_eq_true (Int32.not_le.mp c_41))]
      refine gx_iincN (lv2 := [some _, some _, some _, some _, some _, some _]) C dX3_soonerBelow_44 rfl (by decide) rfl ?_
      first | rw [← e9] | rw [show ySo u g b r j = ySo u g b r (j + 1) by simp only [ySo, yCnt]; rw [if_neg (by simp only [decide_eq_true_eq]; exact Int32.not_lt.mpr c_41)]; rfl]
      refine gx_iincN (lv2 := [some _, some _, some _, some _, some _, some _]) C dX3_soonerBelow_47 rfl (by decide) rfl ?_
      refine gx_goto (tgt := 6) C dX3_soonerBelow_50 (by decide) ?_
      exact ih (j + 1)  (by omega) 
set_option maxHeartbeats 4000000 in
set_option maxRecDepth 100000 in
/-- soonerBelow -/
theorem c_X3_soonerBelow {l : Launch} {D : va_G} {cI cG cL : ClassId} {ad : Nat → Nat} {n t : Nat} {B : Int32} {u g : Nat → Nat → Int32} {b r k : Nat} (hOK : yOK n t u g) (hb : b < 60) (hr : r < n) (hk : k ≤ yH u r) : gx_M l yX3_soonerBelow wsX3_soonerBelow ({ frames := 0, cells := 0, slots := 0, locals := 0 }) D vwCl (gT cI cG cL) [.ref (ad 0), .int (nI b), .int (nI r), .int (nI k)] (yW cI cG ad n t B u g) (yW cI cG ad n t B u g) (some (.int (nI (ySo u g b r k)))) := by
  refine gx_ofG (cc := cX3_soonerBelow) (maxL := 6) (ret := (some .int)) [some (.ref (ad 0)), some (.int (nI b)), some (.int (nI r)), some (.int (nI k)), none, none] (by decide) rfl rfl (Nat.le_of_ble_eq_true rfl) rfl ?_
  intro p e s m args below meth c C hRt hlocks hK
  have C : CallFix p m c cX3_soonerBelow 6 s args (wsX3_soonerBelow) RX3 := C
  have hT : ∀ w ∈ bigW, w ∈ wsX3_soonerBelow := bgT
  refine gx_iconst (v := 0) C dX3_soonerBelow_0 (by decide) ?_
  refine gx_istore (lv2 := [some _, some _, some _, some _, some _, none]) C dX3_soonerBelow_1 (by decide) rfl ?_
  refine gx_iconst (v := 0) C dX3_soonerBelow_3 (by decide) ?_
  refine gx_istore (lv2 := [some _, some _, some _, some _, some _, some _]) C dX3_soonerBelow_4 (by decide) rfl ?_
  exact lp_X3_soonerBelow C hT hRt hlocks hK hOK hb hr hk (k) 0  (by omega) 
end
section
set_option maxHeartbeats 4000000 in
set_option maxRecDepth 100000 in
theorem lp_X3_hasBoxOfAnotherShip {l : Launch} {D : va_G} {cI cG cL : ClassId} {ad : Nat → Nat} {n t : Nat} {B : Int32} {u g : Nat → Nat → Int32} {r : Nat} {x : Int32} {p : Program} {e : Env} {s : State} {m : MethodId} {args : Array Value} {below : List Frame} {meth : Method} {c : Code} (C : CallFix p m c cX3_hasBoxOfAnotherShip 4 s args wsX3_hasBoxOfAnotherShip RX3) (hT : ∀ w ∈ bigW, w ∈ wsX3_hasBoxOfAnotherShip) (hRt : meth.sig.returnType = (some .boolean)) (hlocks : meth.locks = false) (hK : va_K D vwCl (gT cI cG cL) s) (hOK : yOK n t u g) (hr : r < n)  : ∀ (d j : Nat) , j + d = yH u r → yAny (fun j => decide (¬ u 4 (yB g r j) = x)) j = false → gx_G p l e (headSpec wsX3_hasBoxOfAnotherShip ({ frames := 0, cells := 0, slots := 0, locals := 0 })).room s m args below meth c D vwCl (gx_in (yW cI cG ad n t B u g)) 4 0 0 (gx_Qm D vwCl below args s (yW cI cG ad n t B u g) (yW cI cG ad n t B u g) (some (.int (bI (yOther u g r x))))) (yW cI cG ad n t B u g) 2 [some (.ref (ad 0)), some (.int (nI r)), some (.int x), some (.int (nI j))] [] := by
  intro d
  induction d with
  | zero =>
    intro j  hj ha
    have hn := hOK.hn
    have ht := hOK.ht
    have h6 := hOK.h6 hr
    have hh := hOK.hh hr
    refine gx_iload_n C dX3_hasBoxOfAnotherShip_2 rfl ?_
    refine gx_aload_n C dX3_hasBoxOfAnotherShip_3 rfl ?_
    refine yg_X3_stacks C hK hT m124 dX3_hasBoxOfAnotherShip_4 ?_
    refine yg_X2_heights C hK hT m81 dX3_hasBoxOfAnotherShip_7 ?_
    refine gx_iload_n C dX3_hasBoxOfAnotherShip_10 rfl ?_
    refine yl_6 C hK rfl (by omega) (by omega) dX3_hasBoxOfAnotherShip_11 ?_
    rw [h6]
    refine gx_icmp_ge (tgt := 46) C dX3_hasBoxOfAnotherShip_12 (by decide) (fun c_12 => ?_) (fun c => absurd (nI_le (by omega) (by omega)) c)
    refine gx_iconst (v := 0) C dX3_hasBoxOfAnotherShip_46 (by decide) ?_
    exact gx_zret C hRt hlocks dX3_hasBoxOfAnotherShip_47 rfl (bI_pf (by have hj9 : j = yH u r := (by omega); rw [yOther, ← hj9]; exact ha)) rfl
  | succ d ih =>
    intro j  hj ha
    have hn := hOK.hn
    have ht := hOK.ht
    have h6 := hOK.h6 hr
    have hh := hOK.hh hr
    refine gx_iload_n C dX3_hasBoxOfAnotherShip_2 rfl ?_
    refine gx_aload_n C dX3_hasBoxOfAnotherShip_3 rfl ?_
    refine yg_X3_stacks C hK hT m124 dX3_hasBoxOfAnotherShip_4 ?_
    refine yg_X2_heights C hK hT m81 dX3_hasBoxOfAnotherShip_7 ?_
    refine gx_iload_n C dX3_hasBoxOfAnotherShip_10 rfl ?_
    refine yl_6 C hK rfl (by omega) (by omega) dX3_hasBoxOfAnotherShip_11 ?_
    rw [h6]
    refine gx_icmp_ge (tgt := 46) C dX3_hasBoxOfAnotherShip_12 (by decide) (fun c => absurd c (nI_ge (by omega) (by omega))) (fun c_12 => ?_)
    refine gx_aload_n C dX3_hasBoxOfAnotherShip_15 rfl ?_
    refine yg_X3_boxes C hK hT m123 dX3_hasBoxOfAnotherShip_16 ?_
    refine yg_X0_ship C hK hT m44 dX3_hasBoxOfAnotherShip_19 ?_
    refine gx_aload_n C dX3_hasBoxOfAnotherShip_22 rfl ?_
    refine yg_X3_stacks C hK hT m124 dX3_hasBoxOfAnotherShip_23 ?_
    refine yg_X2_cells C hK hT m79 dX3_hasBoxOfAnotherShip_26 ?_
    refine gx_iload_n C dX3_hasBoxOfAnotherShip_29 rfl ?_
    refine yl_grid C hK rfl (by omega) (by omega) dX3_hasBoxOfAnotherShip_30 ?_
    refine gx_iload_n C dX3_hasBoxOfAnotherShip_31 rfl ?_
    refine yl_row C hK rfl (by omega) (by omega) (by omega) dX3_hasBoxOfAnotherShip_32 ?_
    have hj2 : j < yH u r := by omega
    have hb2 := hOK.hb hr hj2
    rw [hOK.hg hr hj2]
    refine yl_4 C hK rfl (by omega) dX3_hasBoxOfAnotherShip_33 ?_
    refine gx_iload_n C dX3_hasBoxOfAnotherShip_34 rfl ?_
    refine gx_icmp_eq (tgt := 40) C dX3_hasBoxOfAnotherShip_35 (by decide) (fun c_35 => ?_) (fun c_35 => ?_)
    · refine gx_iincN (lv2 := [some _, some _, some _, some _]) C dX3_hasBoxOfAnotherShip_40 rfl (by decide) rfl ?_
      refine gx_goto (tgt := 2) C dX3_hasBoxOfAnotherShip_43 (by decide) ?_
      exact ih (j + 1)  (by omega) (by rw [yAny, ha, Bool.false_or]; exact decide_eq_false (fun q => q c_35))
    · refine gx_iconst (v := 1) C dX3_hasBoxOfAnotherShip_38 (by decide) ?_
      exact gx_zret C hRt hlocks dX3_hasBoxOfAnotherShip_39 rfl (bI_pt (yAny_true (show j < yH u r by omega) (decide_eq_true c_35))) rfl
set_option maxHeartbeats 4000000 in
set_option maxRecDepth 100000 in
/-- hasBoxOfAnotherShip -/
theorem c_X3_hasBoxOfAnotherShip {l : Launch} {D : va_G} {cI cG cL : ClassId} {ad : Nat → Nat} {n t : Nat} {B : Int32} {u g : Nat → Nat → Int32} {r : Nat} {x : Int32} (hOK : yOK n t u g) (hr : r < n) : gx_M l yX3_hasBoxOfAnotherShip wsX3_hasBoxOfAnotherShip ({ frames := 0, cells := 0, slots := 0, locals := 0 }) D vwCl (gT cI cG cL) [.ref (ad 0), .int (nI r), .int x] (yW cI cG ad n t B u g) (yW cI cG ad n t B u g) (some (.int (bI (yOther u g r x)))) := by
  refine gx_ofG (cc := cX3_hasBoxOfAnotherShip) (maxL := 4) (ret := (some .boolean)) [some (.ref (ad 0)), some (.int (nI r)), some (.int x), none] (by decide) rfl rfl (Nat.le_of_ble_eq_true rfl) rfl ?_
  intro p e s m args below meth c C hRt hlocks hK
  have C : CallFix p m c cX3_hasBoxOfAnotherShip 4 s args (wsX3_hasBoxOfAnotherShip) RX3 := C
  have hT : ∀ w ∈ bigW, w ∈ wsX3_hasBoxOfAnotherShip := bgT
  refine gx_iconst (v := 0) C dX3_hasBoxOfAnotherShip_0 (by decide) ?_
  refine gx_istore_n (lv2 := [some _, some _, some _, some _]) C dX3_hasBoxOfAnotherShip_1 (by decide) rfl ?_
  exact lp_X3_hasBoxOfAnotherShip C hT hRt hlocks hK hOK hr (yH u r) 0  (by omega) rfl
set_option maxHeartbeats 4000000 in
set_option maxRecDepth 100000 in
theorem lp_X3_standingBoxes {l : Launch} {D : va_G} {cI cG cL : ClassId} {ad : Nat → Nat} {n t : Nat} {B : Int32} {u g : Nat → Nat → Int32}  {p : Program} {e : Env} {s : State} {m : MethodId} {args : Array Value} {below : List Frame} {meth : Method} {c : Code} (C : CallFix p m c cX3_standingBoxes 3 s args wsX3_standingBoxes RX3) (hT : ∀ w ∈ bigW, w ∈ wsX3_standingBoxes) (hRt : meth.sig.returnType = (some .int)) (hlocks : meth.locks = false) (hK : va_K D vwCl (gT cI cG cL) s) (hn : n ≤ 16)  : ∀ (d j : Nat) , j + d = n → gx_G p l e (headSpec wsX3_standingBoxes ({ frames := 0, cells := 0, slots := 0, locals := 0 })).room s m args below meth c D vwCl (gx_in (yW cI cG ad n t B u g)) 3 0 0 (gx_Qm D vwCl below args s (yW cI cG ad n t B u g) (yW cI cG ad n t B u g) (some (.int (ySum (fun r => u 6 r) n)))) (yW cI cG ad n t B u g) 4 [some (.ref (ad 0)), some (.int (ySum (fun r => u 6 r) j)), some (.int (nI j))] [] := by
  intro d
  induction d with
  | zero =>
    intro j  hj 
    refine gx_iload_n C dX3_standingBoxes_4 rfl ?_
    refine gx_aload_n C dX3_standingBoxes_5 rfl ?_
    refine yg_X3_stacks C hK hT m124 dX3_standingBoxes_6 ?_
    refine yg_X2_rows C hK hT m75 dX3_standingBoxes_9 ?_
    refine gx_icmp_ge (tgt := 33) C dX3_standingBoxes_12 (by decide) (fun c_12 => ?_) (fun c => absurd (nI_le (by omega) (by omega)) c)
    refine gx_iload_n C dX3_standingBoxes_33 rfl ?_
    exact gx_iret C hRt hlocks dX3_standingBoxes_34 (by rw [Nat.add_zero] at hj; rw [hj]) rfl
  | succ d ih =>
    intro j  hj 
    refine gx_iload_n C dX3_standingBoxes_4 rfl ?_
    refine gx_aload_n C dX3_standingBoxes_5 rfl ?_
    refine yg_X3_stacks C hK hT m124 dX3_standingBoxes_6 ?_
    refine yg_X2_rows C hK hT m75 dX3_standingBoxes_9 ?_
    refine gx_icmp_ge (tgt := 33) C dX3_standingBoxes_12 (by decide) (fun c => absurd c (nI_ge (by omega) (by omega))) (fun c_12 => ?_)
    refine gx_iload_n C dX3_standingBoxes_15 rfl ?_
    refine gx_aload_n C dX3_standingBoxes_16 rfl ?_
    refine yg_X3_stacks C hK hT m124 dX3_standingBoxes_17 ?_
    refine yg_X2_heights C hK hT m81 dX3_standingBoxes_20 ?_
    refine gx_iload_n C dX3_standingBoxes_23 rfl ?_
    refine yl_6 C hK rfl (by omega) (by omega) dX3_standingBoxes_24 ?_
    refine gx_iadd C dX3_standingBoxes_25 ?_
    refine gx_istore_n (lv2 := [some _, some _, some _]) C dX3_standingBoxes_26 (by decide) rfl ?_
    refine gx_iincN (lv2 := [some _, some _, some _]) C dX3_standingBoxes_27 rfl (by decide) rfl ?_
    refine gx_goto (tgt := 4) C dX3_standingBoxes_30 (by decide) ?_
    exact ih (j + 1)  (by omega) 
set_option maxHeartbeats 4000000 in
set_option maxRecDepth 100000 in
/-- standingBoxes -/
theorem c_X3_standingBoxes {l : Launch} {D : va_G} {cI cG cL : ClassId} {ad : Nat → Nat} {n t : Nat} {B : Int32} {u g : Nat → Nat → Int32}  (hn : n ≤ 16) : gx_M l yX3_standingBoxes wsX3_standingBoxes ({ frames := 0, cells := 0, slots := 0, locals := 0 }) D vwCl (gT cI cG cL) [.ref (ad 0)] (yW cI cG ad n t B u g) (yW cI cG ad n t B u g) (some (.int (ySum (fun r => u 6 r) n))) := by
  refine gx_ofG (cc := cX3_standingBoxes) (maxL := 3) (ret := (some .int)) [some (.ref (ad 0)), none, none] (by decide) rfl rfl (Nat.le_of_ble_eq_true rfl) rfl ?_
  intro p e s m args below meth c C hRt hlocks hK
  have C : CallFix p m c cX3_standingBoxes 3 s args (wsX3_standingBoxes) RX3 := C
  have hT : ∀ w ∈ bigW, w ∈ wsX3_standingBoxes := bgT
  refine gx_iconst (v := 0) C dX3_standingBoxes_0 (by decide) ?_
  refine gx_istore_n (lv2 := [some _, some _, none]) C dX3_standingBoxes_1 (by decide) rfl ?_
  refine gx_iconst (v := 0) C dX3_standingBoxes_2 (by decide) ?_
  refine gx_istore_n (lv2 := [some _, some _, some _]) C dX3_standingBoxes_3 (by decide) rfl ?_
  exact lp_X3_standingBoxes C hT hRt hlocks hK hn (n) 0  (by omega) 
set_option maxHeartbeats 4000000 in
set_option maxRecDepth 100000 in
/-- wouldBeInTheWay -/
theorem c_X3_wouldBeInTheWay {l : Launch} {D : va_G} {cI cG cL : ClassId} {ad : Nat → Nat} {n t : Nat} {B : Int32} {u g : Nat → Nat → Int32} {b r : Nat} (hOK : yOK n t u g) (hb : b < 60) (hr : r < n) : gx_M l yX3_wouldBeInTheWay wsX3_wouldBeInTheWay ({ frames := 1, cells := 0, slots := 0, locals := 25 }) D vwCl (gT cI cG cL) [.ref (ad 0), .int (nI b), .int (nI r)] (yW cI cG ad n t B u g) (yW cI cG ad n t B u g) (some (.int (bI (yWould u g b r)))) := by
  refine gx_ofG (cc := cX3_wouldBeInTheWay) (maxL := 3) (ret := (some .boolean)) [some (.ref (ad 0)), some (.int (nI b)), some (.int (nI r))] (by decide) rfl rfl (Nat.le_of_ble_eq_true rfl) rfl ?_
  intro p e s m args below meth c C hRt hlocks hK
  have C : CallFix p m c cX3_wouldBeInTheWay 3 s args (wsX3_wouldBeInTheWay) RX3 := C
  have hT : ∀ w ∈ bigW, w ∈ wsX3_wouldBeInTheWay := bgT
  have hn := hOK.hn
  have ht := hOK.ht
  have h6 := hOK.h6 hr
  have hh := hOK.hh hr
  have hso : ySo u g b r (yH u r) ≤ yH u r := yCnt_le _
  refine gx_aload_n C dX3_wouldBeInTheWay_0 rfl ?_
  refine gx_iload_n C dX3_wouldBeInTheWay_1 rfl ?_
  refine gx_iload_n C dX3_wouldBeInTheWay_2 rfl ?_
  refine gx_aload_n C dX3_wouldBeInTheWay_3 rfl ?_
  refine yg_X3_stacks C hK hT m124 dX3_wouldBeInTheWay_4 ?_
  refine yg_X2_heights C hK hT m81 dX3_wouldBeInTheWay_7 ?_
  refine gx_iload_n C dX3_wouldBeInTheWay_10 rfl ?_
  refine yl_6 C hK rfl (by omega) (by omega) dX3_wouldBeInTheWay_11 ?_
  rw [h6]
  refine gx_cVi (n := 3) (q0 := 0) C hK (c_X3_soonerBelow (l := l) (D := D) (cI := cI) (cG := cG) (cL := cL) (ad := ad) (n := n) (t := t) (B := B) (u := u) (g := g) hOK hb hr (Nat.le_refl _)) yW_fst (bgV hT m201 m203 slX3_soonerBelow m1 m204) rfl rfl rfl (by decide +kernel) ⟨Nat.le_of_ble_eq_true rfl, Nat.le_of_ble_eq_true rfl⟩ rfl rfl rfl rfl (Nat.le_of_ble_eq_true rfl) (Nat.zero_le _) (Nat.zero_le _) dX3_wouldBeInTheWay_12 ?_
  refine gx_if_le (tgt := 22) C dX3_wouldBeInTheWay_15 (by decide) (fun c_15 => ?_) (fun c_15 => ?_)
  · refine gx_iconst (v := 0) C dX3_wouldBeInTheWay_22 (by decide) ?_
    exact gx_zret C hRt hlocks dX3_wouldBeInTheWay_23 rfl (by first | exact bI_pf (decide_eq_false (fun q => q ((y_le0 (by omega)).mp c_15))) | exact bI_pt (decide_eq_true (fun q => c_15 ((y_le0 (by omega)).mpr q)))) rfl
  · refine gx_iconst (v := 1) C dX3_wouldBeInTheWay_18 (by decide) ?_
    refine gx_goto (tgt := 23) C dX3_wouldBeInTheWay_19 (by decide) ?_
    exact gx_zret C hRt hlocks dX3_wouldBeInTheWay_23 rfl (by first | exact bI_pf (decide_eq_false (fun q => q ((y_le0 (by omega)).mp c_15))) | exact bI_pt (decide_eq_true (fun q => c_15 ((y_le0 (by omega)).mpr q)))) rfl
set_option maxHeartbeats 4000000 in
set_option maxRecDepth 100000 in
/-- isInTheWay -/
theorem c_X3_isInTheWay {l : Launch} {D : va_G} {cI cG cL : ClassId} {ad : Nat → Nat} {n t : Nat} {B : Int32} {u g : Nat → Nat → Int32} {b : Nat} (hOK : yOK n t u g) (hb : b < 60) : gx_M l yX3_isInTheWay wsX3_isInTheWay ({ frames := 1, cells := 0, slots := 0, locals := 25 }) D vwCl (gT cI cG cL) [.ref (ad 0), .int (nI b)] (yW cI cG ad n t B u g) (yW cI cG ad n t B u g) (some (.int (bI (yWay u g b)))) := by
  refine gx_ofG (cc := cX3_isInTheWay) (maxL := 2) (ret := (some .boolean)) [some (.ref (ad 0)), some (.int (nI b))] (by decide) rfl rfl (Nat.le_of_ble_eq_true rfl) rfl ?_
  intro p e s m args below meth c C hRt hlocks hK
  have C : CallFix p m c cX3_isInTheWay 2 s args (wsX3_isInTheWay) RX3 := C
  have hT : ∀ w ∈ bigW, w ∈ wsX3_isInTheWay := bgT
  have hn := hOK.hn
  have ht := hOK.ht
  refine gx_aload_n C dX3_isInTheWay_0 rfl ?_
  refine yg_X3_stacks C hK hT m124 dX3_isInTheWay_1 ?_
  refine gx_iload_n C dX3_isInTheWay_4 rfl ?_
  refine gx_cVi (n := 1) (q0 := 7) C hK (c_X2_stands (l := l) (D := D) (cI := cI) (cG := cG) (cL := cL) (ad := ad) (n := n) (t := t) (B := B) (u := u) (g := g) hb) yW_fst (bgV hT m200 m173 m174 m4 m175) rfl rfl rfl (by decide +kernel) ⟨Nat.le_of_ble_eq_true rfl, Nat.le_of_ble_eq_true rfl⟩ rfl rfl rfl rfl (Nat.le_of_ble_eq_true rfl) (Nat.zero_le _) (Nat.zero_le _) dX3_isInTheWay_5 ?_
  refine gx_if_eq (tgt := 41) C dX3_isInTheWay_8 (by decide) (fun c_8 => ?_) (fun c_8 => ?_)
  · refine gx_iconst (v := 0) C dX3_isInTheWay_41 (by decide) ?_
    exact gx_zret C hRt hlocks dX3_isInTheWay_42 rfl (by first | exact bI_pf (decide_eq_false (fun q => q.1 (ySt_f c_8))) | exact bI_pf (decide_eq_false (fun q => q.2 (e9.trans ((y_le0 (by omega)).mp c_34)))) | exact bI_pt (decide_eq_true ⟨ySt_t c_8, fun q => c_34 ((y_le0 (by omega)).mpr (e9.symm.trans q))⟩)) rfl
  · obtain ⟨r, k, hr, hk, e7, e8⟩ := hOK.h7 hb (ySt_t c_8)
    have hh := hOK.hh hr
    have hso : ySo u g b r k ≤ k := yCnt_le _
    have e9 : ySo u g b (u 7 b).toNatClampNeg (u 8 b).toNatClampNeg = ySo u g b r k := by rw [e7, e8, nI_clamp (by omega), nI_clamp (by omega)]
    refine gx_aload_n C dX3_isInTheWay_11 rfl ?_
    refine gx_iload_n C dX3_isInTheWay_12 rfl ?_
    refine gx_aload_n C dX3_isInTheWay_13 rfl ?_
    refine yg_X3_stacks C hK hT m124 dX3_isInTheWay_14 ?_
    refine yg_X2_rowOf C hK hT m83 dX3_isInTheWay_17 ?_
    refine gx_iload_n C dX3_isInTheWay_20 rfl ?_
    refine yl_7 C hK rfl (by omega) dX3_isInTheWay_21 ?_
    refine gx_aload_n C dX3_isInTheWay_22 rfl ?_
    refine yg_X3_stacks C hK hT m124 dX3_isInTheWay_23 ?_
    refine yg_X2_tierOf C hK hT m85 dX3_isInTheWay_26 ?_
    refine gx_iload_n C dX3_isInTheWay_29 rfl ?_
    refine yl_8 C hK rfl (by omega) dX3_isInTheWay_30 ?_
    rw [e7, e8]
    refine gx_cVi (n := 3) (q0 := 0) C hK (c_X3_soonerBelow (l := l) (D := D) (cI := cI) (cG := cG) (cL := cL) (ad := ad) (n := n) (t := t) (B := B) (u := u) (g := g) hOK hb hr (Nat.le_of_lt hk)) yW_fst (bgV hT m201 m203 slX3_soonerBelow m1 m204) rfl rfl rfl (by decide +kernel) ⟨Nat.le_of_ble_eq_true rfl, Nat.le_of_ble_eq_true rfl⟩ rfl rfl rfl rfl (Nat.le_of_ble_eq_true rfl) (Nat.zero_le _) (Nat.zero_le _) dX3_isInTheWay_31 ?_
    refine gx_if_le (tgt := 41) C dX3_isInTheWay_34 (by decide) (fun c_34 => ?_) (fun c_34 => ?_)
    · refine gx_iconst (v := 0) C dX3_isInTheWay_41 (by decide) ?_
      exact gx_zret C hRt hlocks dX3_isInTheWay_42 rfl (by first | exact bI_pf (decide_eq_false (fun q => q.1 (ySt_f c_8))) | exact bI_pf (decide_eq_false (fun q => q.2 (e9.trans ((y_le0 (by omega)).mp c_34)))) | exact bI_pt (decide_eq_true ⟨ySt_t c_8, fun q => c_34 ((y_le0 (by omega)).mpr (e9.symm.trans q))⟩)) rfl
    · refine gx_iconst (v := 1) C dX3_isInTheWay_37 (by decide) ?_
      refine gx_goto (tgt := 42) C dX3_isInTheWay_38 (by decide) ?_
      exact gx_zret C hRt hlocks dX3_isInTheWay_42 rfl (by first | exact bI_pf (decide_eq_false (fun q => q.1 (ySt_f c_8))) | exact bI_pf (decide_eq_false (fun q => q.2 (e9.trans ((y_le0 (by omega)).mp c_34)))) | exact bI_pt (decide_eq_true ⟨ySt_t c_8, fun q => c_34 ((y_le0 (by omega)).mpr (e9.symm.trans q))⟩)) rfl
set_option maxHeartbeats 4000000 in
set_option maxRecDepth 100000 in
theorem lp_X3_boxesInTheWay {l : Launch} {D : va_G} {cI cG cL : ClassId} {ad : Nat → Nat} {n t : Nat} {B : Int32} {u g : Nat → Nat → Int32} {T : Nat} {p : Program} {e : Env} {s : State} {m : MethodId} {args : Array Value} {below : List Frame} {meth : Method} {c : Code} (C : CallFix p m c cX3_boxesInTheWay 3 s args wsX3_boxesInTheWay RX3) (hT : ∀ w ∈ bigW, w ∈ wsX3_boxesInTheWay) (hRt : meth.sig.returnType = (some .int)) (hlocks : meth.locks = false) (hK : va_K D vwCl (gT cI cG cL) s) (hOK : yOK n t u g) (hT6 : T ≤ 60) (e0 : u 0 0 = nI T)  : ∀ (d j : Nat) , j + d = T → gx_G p l e (headSpec wsX3_boxesInTheWay ({ frames := 2, cells := 0, slots := 0, locals := 46 })).room s m args below meth c D vwCl (gx_in (yW cI cG ad n t B u g)) 3 0 0 (gx_Qm D vwCl below args s (yW cI cG ad n t B u g) (yW cI cG ad n t B u g) (some (.int (nI (yCnt (fun b => yWay u g b) T))))) (yW cI cG ad n t B u g) 4 [some (.ref (ad 0)), some (.int (nI (yCnt (fun b => yWay u g b) j))), some (.int (nI j))] [] := by
  intro d
  induction d with
  | zero =>
    intro j  hj 
    refine gx_iload_n C dX3_boxesInTheWay_4 rfl ?_
    refine gx_aload_n C dX3_boxesInTheWay_5 rfl ?_
    refine yg_X3_boxes C hK hT m123 dX3_boxesInTheWay_6 ?_
    refine yg_X0_told C hK hT m48 dX3_boxesInTheWay_9 ?_
    rw [e0]
    refine gx_icmp_ge (tgt := 32) C dX3_boxesInTheWay_12 (by decide) (fun c_12 => ?_) (fun c => absurd (nI_le (by omega) (by omega)) c)
    refine gx_iload_n C dX3_boxesInTheWay_32 rfl ?_
    exact gx_iret C hRt hlocks dX3_boxesInTheWay_33 (by rw [Nat.add_zero] at hj; rw [hj]) rfl
  | succ d ih =>
    intro j  hj 
    refine gx_iload_n C dX3_boxesInTheWay_4 rfl ?_
    refine gx_aload_n C dX3_boxesInTheWay_5 rfl ?_
    refine yg_X3_boxes C hK hT m123 dX3_boxesInTheWay_6 ?_
    refine yg_X0_told C hK hT m48 dX3_boxesInTheWay_9 ?_
    rw [e0]
    refine gx_icmp_ge (tgt := 32) C dX3_boxesInTheWay_12 (by decide) (fun c => absurd c (nI_ge (by omega) (by omega))) (fun c_12 => ?_)
    refine gx_aload_n C dX3_boxesInTheWay_15 rfl ?_
    refine gx_iload_n C dX3_boxesInTheWay_16 rfl ?_
    refine gx_cVi (n := 1) (q0 := 0) C hK (c_X3_isInTheWay (l := l) (D := D) (cI := cI) (cG := cG) (cL := cL) (ad := ad) (n := n) (t := t) (B := B) (u := u) (g := g) hOK (show j < 60 by omega)) yW_fst (bgV hT m196 m198 slX3_isInTheWay m1 m199) rfl rfl rfl (by decide +kernel) ⟨Nat.le_of_ble_eq_true rfl, Nat.le_of_ble_eq_true rfl⟩ rfl rfl rfl rfl (Nat.le_of_ble_eq_true rfl) (Nat.zero_le _) (Nat.zero_le _) dX3_boxesInTheWay_17 ?_
    refine gx_if_eq (tgt := 26) C dX3_boxesInTheWay_20 (by decide) (fun c_20 => ?_) (fun c_20 => ?_)
    · rw [show yCnt (fun b => yWay u g b) j = yCnt (fun b => yWay u g b) (j + 1) by simp only [yCnt]; rw [if_neg (by rw [bI_f c_20]; decide)]; rfl]
      refine gx_iincN (lv2 := [some _, some _, some _]) C dX3_boxesInTheWay_26 rfl (by decide) rfl ?_
      refine gx_goto (tgt := 4) C dX3_boxesInTheWay_29 (by decide) ?_
      exact ih (j + 1)  (by omega) 
    · have e9 : yCnt (fun b => yWay u g b) (j + 1) = yCnt (fun b => yWay u g b) j + 1 := by simp only [yCnt]; rw [if_pos (bI_t c_20)]
      refine gx_iincN (lv2 := [some _, some _, some _]) C dX3_boxesInTheWay_23 rfl (by decide) rfl ?_
      rw [← e9]
      refine gx_iincN (lv2 := [some _, some _, some _]) C dX3_boxesInTheWay_26 rfl (by decide) rfl ?_
      refine gx_goto (tgt := 4) C dX3_boxesInTheWay_29 (by decide) ?_
      exact ih (j + 1)  (by omega) 
set_option maxHeartbeats 4000000 in
set_option maxRecDepth 100000 in
/-- boxesInTheWay -/
theorem c_X3_boxesInTheWay {l : Launch} {D : va_G} {cI cG cL : ClassId} {ad : Nat → Nat} {n t : Nat} {B : Int32} {u g : Nat → Nat → Int32} {T : Nat} (hOK : yOK n t u g) (hT6 : T ≤ 60) (e0 : u 0 0 = nI T) : gx_M l yX3_boxesInTheWay wsX3_boxesInTheWay ({ frames := 2, cells := 0, slots := 0, locals := 46 }) D vwCl (gT cI cG cL) [.ref (ad 0)] (yW cI cG ad n t B u g) (yW cI cG ad n t B u g) (some (.int (nI (yCnt (fun b => yWay u g b) T)))) := by
  refine gx_ofG (cc := cX3_boxesInTheWay) (maxL := 3) (ret := (some .int)) [some (.ref (ad 0)), none, none] (by decide) rfl rfl (Nat.le_of_ble_eq_true rfl) rfl ?_
  intro p e s m args below meth c C hRt hlocks hK
  have C : CallFix p m c cX3_boxesInTheWay 3 s args (wsX3_boxesInTheWay) RX3 := C
  have hT : ∀ w ∈ bigW, w ∈ wsX3_boxesInTheWay := bgT
  refine gx_iconst (v := 0) C dX3_boxesInTheWay_0 (by decide) ?_
  refine gx_istore_n (lv2 := [some _, some _, none]) C dX3_boxesInTheWay_1 (by decide) rfl ?_
  refine gx_iconst (v := 0) C dX3_boxesInTheWay_2 (by decide) ?_
  refine gx_istore_n (lv2 := [some _, some _, some _]) C dX3_boxesInTheWay_3 (by decide) rfl ?_
  exact lp_X3_boxesInTheWay C hT hRt hlocks hK hOK hT6 e0 (T) 0  (by omega) 
set_option maxHeartbeats 4000000 in
set_option maxRecDepth 100000 in
/-- ruleBrokenOnTop -/
theorem c_X3_ruleBrokenOnTop {l : Launch} {D : va_G} {cI cG cL : ClassId} {ad : Nat → Nat} {n t : Nat} {B : Int32} {u g : Nat → Nat → Int32} {b r : Nat} (hOK : yOK n t u g) (hb : b < 60) (hr : r < n) : gx_M l yX3_ruleBrokenOnTop wsX3_ruleBrokenOnTop ({ frames := 1, cells := 0, slots := 0, locals := 23 }) D vwCl (gT cI cG cL) [.ref (ad 0), .int (nI b), .int (nI r)] (yW cI cG ad n t B u g) (yW cI cG ad n t B u g) (some (.int (yRule t B u g b r))) := by
  refine gx_ofG (cc := cX3_ruleBrokenOnTop) (maxL := 4) (ret := (some .int)) [some (.ref (ad 0)), some (.int (nI b)), some (.int (nI r)), none] (by decide) rfl rfl (Nat.le_of_ble_eq_true rfl) rfl ?_
  intro p e s m args below meth c C hRt hlocks hK
  have C : CallFix p m c cX3_ruleBrokenOnTop 4 s args (wsX3_ruleBrokenOnTop) RX3 := C
  have hT : ∀ w ∈ bigW, w ∈ wsX3_ruleBrokenOnTop := bgT
  have hn := hOK.hn
  have ht := hOK.ht
  have h6 := hOK.h6 hr
  have hh := hOK.hh hr
  refine gx_aload_n C dX3_ruleBrokenOnTop_0 rfl ?_
  refine yg_X3_reservedFor C hK hT m127 dX3_ruleBrokenOnTop_1 ?_
  refine gx_iload_n C dX3_ruleBrokenOnTop_4 rfl ?_
  refine yl_12 C hK rfl (by omega) dX3_ruleBrokenOnTop_5 ?_
  refine gx_if_eq (tgt := 29) C dX3_ruleBrokenOnTop_6 (by decide) (fun c_6 => ?_) (fun c_6 => ?_)
  · refine gx_aload_n C dX3_ruleBrokenOnTop_29 rfl ?_
    refine yg_X3_stacks C hK hT m124 dX3_ruleBrokenOnTop_30 ?_
    refine yg_X2_heights C hK hT m81 dX3_ruleBrokenOnTop_33 ?_
    refine gx_iload_n C dX3_ruleBrokenOnTop_36 rfl ?_
    refine yl_6 C hK rfl (by omega) (by omega) dX3_ruleBrokenOnTop_37 ?_
    refine gx_aload_n C dX3_ruleBrokenOnTop_38 rfl ?_
    refine yg_X3_stacks C hK hT m124 dX3_ruleBrokenOnTop_39 ?_
    refine yg_X2_tiers C hK hT m77 dX3_ruleBrokenOnTop_42 ?_
    refine gx_icmp_lt (tgt := 50) C dX3_ruleBrokenOnTop_45 (by decide) (fun c_45 => ?_) (fun c_45 => ?_)
    · refine gx_aload_n C dX3_ruleBrokenOnTop_50 rfl ?_
      refine gx_iload_n C dX3_ruleBrokenOnTop_51 rfl ?_
      refine gx_cVi (n := 1) (q0 := 0) C hK (c_X3_weightOn (l := l) (D := D) (cI := cI) (cG := cG) (cL := cL) (ad := ad) (n := n) (t := t) (B := B) (u := u) (g := g) hOK hr) yW_fst (bgV hT m209 m211 slX3_weightOn m1 m212) rfl rfl rfl (by decide +kernel) ⟨Nat.le_of_ble_eq_true rfl, Nat.le_of_ble_eq_true rfl⟩ rfl rfl rfl rfl (Nat.le_of_ble_eq_true rfl) (Nat.zero_le _) (Nat.zero_le _) dX3_ruleBrokenOnTop_52 ?_
      refine gx_aload_n C dX3_ruleBrokenOnTop_55 rfl ?_
      refine yg_X3_boxes C hK hT m123 dX3_ruleBrokenOnTop_56 ?_
      refine yg_X0_weight C hK hT m40 dX3_ruleBrokenOnTop_59 ?_
      refine gx_iload_n C dX3_ruleBrokenOnTop_62 rfl ?_
      refine yl_2 C hK rfl (by omega) dX3_ruleBrokenOnTop_63 ?_
      refine gx_iadd C dX3_ruleBrokenOnTop_64 ?_
      refine gx_aload_n C dX3_ruleBrokenOnTop_65 rfl ?_
      refine yg_X3_bears C hK hT m122 dX3_ruleBrokenOnTop_66 ?_
      refine gx_icmp_le (tgt := 74) C dX3_ruleBrokenOnTop_69 (by decide) (fun c_69 => ?_) (fun c_69 => ?_)
      · refine gx_aload_n C dX3_ruleBrokenOnTop_74 rfl ?_
        refine yg_X3_stacks C hK hT m124 dX3_ruleBrokenOnTop_75 ?_
        refine gx_iload_n C dX3_ruleBrokenOnTop_78 rfl ?_
        refine gx_cVi (n := 1) (q0 := 7) C hK (c_X2_top (l := l) (D := D) (cI := cI) (cG := cG) (cL := cL) (ad := ad) (n := n) (t := t) (B := B) (u := u) (g := g) hOK hr) yW_fst (bgV hT m358 m359 m360 m4 m361) rfl rfl rfl (by decide +kernel) ⟨Nat.le_of_ble_eq_true rfl, Nat.le_of_ble_eq_true rfl⟩ rfl rfl rfl rfl (Nat.le_of_ble_eq_true rfl) (Nat.zero_le _) (Nat.zero_le _) dX3_ruleBrokenOnTop_79 ?_
        refine gx_istore_n (lv2 := [some _, some _, some _, some _]) C dX3_ruleBrokenOnTop_82 (by decide) rfl ?_
        refine gx_iload_n C dX3_ruleBrokenOnTop_83 rfl ?_
        refine gx_iconst (v := (-1)) C dX3_ruleBrokenOnTop_84 (by decide) ?_
        refine gx_icmp_eq (tgt := 111) C dX3_ruleBrokenOnTop_85 (by decide) (fun c_85 => ?_) (fun c_85 => ?_)
        · refine gx_iload_n C dX3_ruleBrokenOnTop_111 rfl ?_
          refine gx_iconst (v := (-1)) C dX3_ruleBrokenOnTop_112 (by decide) ?_
          refine gx_icmp_eq (tgt := 140) C dX3_ruleBrokenOnTop_113 (by decide) (fun c_113 => ?_) (fun c => absurd c_85 c)
          refine gx_aload_n C dX3_ruleBrokenOnTop_140 rfl ?_
          refine yg_X3_boxes C hK hT m123 dX3_ruleBrokenOnTop_141 ?_
          refine yg_X0_kind C hK hT m46 dX3_ruleBrokenOnTop_144 ?_
          refine gx_iload_n C dX3_ruleBrokenOnTop_147 rfl ?_
          refine yl_5 C hK rfl (by omega) dX3_ruleBrokenOnTop_148 ?_
          refine gx_aload_n C dX3_ruleBrokenOnTop_149 rfl ?_
          refine yg_X3_grounds C hK hT m126 dX3_ruleBrokenOnTop_150 ?_
          refine gx_iload_n C dX3_ruleBrokenOnTop_153 rfl ?_
          refine yl_11 C hK rfl (by omega) dX3_ruleBrokenOnTop_154 ?_
          refine gx_cSi (n := 2) C hK (c_X3_ruleBrokenByGround (l := l) (D := D) (cI := cI) (cG := cG) (cL := cL) (a := u 5 b) (b := u 11 r)) (bgS hT m362 m363 m1 m364) rfl rfl rfl (by decide +kernel) ⟨Nat.le_of_ble_eq_true rfl, Nat.le_of_ble_eq_true rfl⟩ rfl rfl (Nat.le_of_ble_eq_true rfl) (Nat.zero_le _) (Nat.zero_le _) dX3_ruleBrokenOnTop_155 ?_
          exact gx_iret C hRt hlocks dX3_ruleBrokenOnTop_158 (by simp [yRule, yGr, c_6, c_45, c_69, c_85]) rfl
        · obtain ⟨h0, hq, eq⟩ := yTop_some hOK hr c_85
          rw [eq]
          refine gx_aload_n C dX3_ruleBrokenOnTop_88 rfl ?_
          refine yg_X3_boxes C hK hT m123 dX3_ruleBrokenOnTop_89 ?_
          refine yg_X0_size C hK hT m38 dX3_ruleBrokenOnTop_92 ?_
          refine gx_iload_n C dX3_ruleBrokenOnTop_95 rfl ?_
          refine yl_1 C hK rfl (by omega) dX3_ruleBrokenOnTop_96 ?_
          refine gx_aload_n C dX3_ruleBrokenOnTop_97 rfl ?_
          refine yg_X3_boxes C hK hT m123 dX3_ruleBrokenOnTop_98 ?_
          refine yg_X0_size C hK hT m38 dX3_ruleBrokenOnTop_101 ?_
          refine gx_iload_n C dX3_ruleBrokenOnTop_104 rfl ?_
          refine yl_1 C hK rfl (by omega) dX3_ruleBrokenOnTop_105 ?_
          refine gx_icmp_eq (tgt := 111) C dX3_ruleBrokenOnTop_106 (by decide) (fun c_106 => ?_) (fun c_106 => ?_)
          · refine gx_iload_n C dX3_ruleBrokenOnTop_111 rfl ?_
            refine gx_iconst (v := (-1)) C dX3_ruleBrokenOnTop_112 (by decide) ?_
            refine gx_icmp_eq (tgt := 140) C dX3_ruleBrokenOnTop_113 (by decide) (fun c => absurd c (y_m1 (by omega))) (fun c_113 => ?_)
            refine gx_aload_n C dX3_ruleBrokenOnTop_116 rfl ?_
            refine yg_X3_boxes C hK hT m123 dX3_ruleBrokenOnTop_117 ?_
            refine yg_X0_weight C hK hT m40 dX3_ruleBrokenOnTop_120 ?_
            refine gx_iload_n C dX3_ruleBrokenOnTop_123 rfl ?_
            refine yl_2 C hK rfl (by omega) dX3_ruleBrokenOnTop_124 ?_
            refine gx_aload_n C dX3_ruleBrokenOnTop_125 rfl ?_
            refine yg_X3_boxes C hK hT m123 dX3_ruleBrokenOnTop_126 ?_
            refine yg_X0_weight C hK hT m40 dX3_ruleBrokenOnTop_129 ?_
            refine gx_iload_n C dX3_ruleBrokenOnTop_132 rfl ?_
            refine yl_2 C hK rfl (by omega) dX3_ruleBrokenOnTop_133 ?_
            refine gx_icmp_ge (tgt := 140) C dX3_ruleBrokenOnTop_134 (by decide) (fun c_134 => ?_) (fun c_134 => ?_)
            · refine gx_aload_n C dX3_ruleBrokenOnTop_140 rfl ?_
              refine yg_X3_boxes C hK hT m123 dX3_ruleBrokenOnTop_141 ?_
              refine yg_X0_kind C hK hT m46 dX3_ruleBrokenOnTop_144 ?_
              refine gx_iload_n C dX3_ruleBrokenOnTop_147 rfl ?_
              refine yl_5 C hK rfl (by omega) dX3_ruleBrokenOnTop_148 ?_
              refine gx_aload_n C dX3_ruleBrokenOnTop_149 rfl ?_
              refine yg_X3_grounds C hK hT m126 dX3_ruleBrokenOnTop_150 ?_
              refine gx_iload_n C dX3_ruleBrokenOnTop_153 rfl ?_
              refine yl_11 C hK rfl (by omega) dX3_ruleBrokenOnTop_154 ?_
              refine gx_cSi (n := 2) C hK (c_X3_ruleBrokenByGround (l := l) (D := D) (cI := cI) (cG := cG) (cL := cL) (a := u 5 b) (b := u 11 r)) (bgS hT m362 m363 m1 m364) rfl rfl rfl (by decide +kernel) ⟨Nat.le_of_ble_eq_true rfl, Nat.le_of_ble_eq_true rfl⟩ rfl rfl (Nat.le_of_ble_eq_true rfl) (Nat.zero_le _) (Nat.zero_le _) dX3_ruleBrokenOnTop_155 ?_
              exact gx_iret C hRt hlocks dX3_ruleBrokenOnTop_158 (by simp [yRule, yGr, c_6, c_45, c_69, c_85, c_106, c_134, eq, y_m1 (show yB g r (yH u r - 1) < 2 ^ 31 by omega), nI_clamp (show yB g r (yH u r - 1) < 2 ^ 31 by omega)]) rfl
            · refine gx_bipush (v := 6) C dX3_ruleBrokenOnTop_137 (by decide) ?_
              exact gx_iret C hRt hlocks dX3_ruleBrokenOnTop_139 (by simp [yRule, yGr, c_6, c_45, c_69, c_85, c_106, c_134, eq, y_m1 (show yB g r (yH u r - 1) < 2 ^ 31 by omega), nI_clamp (show yB g r (yH u r - 1) < 2 ^ 31 by omega)]) rfl
          · refine gx_iconst (v := 5) C dX3_ruleBrokenOnTop_109 (by decide) ?_
            exact gx_iret C hRt hlocks dX3_ruleBrokenOnTop_110 (by simp [yRule, yGr, c_6, c_45, c_69, c_85, c_106, eq, y_m1 (show yB g r (yH u r - 1) < 2 ^ 31 by omega), nI_clamp (show yB g r (yH u r - 1) < 2 ^ 31 by omega)]) rfl
      · refine gx_iconst (v := 4) C dX3_ruleBrokenOnTop_72 (by decide) ?_
        exact gx_iret C hRt hlocks dX3_ruleBrokenOnTop_73 (by simp [yRule, yGr, c_6, c_45, c_69]) rfl
    · refine gx_iconst (v := 3) C dX3_ruleBrokenOnTop_48 (by decide) ?_
      exact gx_iret C hRt hlocks dX3_ruleBrokenOnTop_49 (by simp [yRule, yGr, c_6, c_45]) rfl
  · refine gx_aload_n C dX3_ruleBrokenOnTop_9 rfl ?_
    refine yg_X3_reservedFor C hK hT m127 dX3_ruleBrokenOnTop_10 ?_
    refine gx_iload_n C dX3_ruleBrokenOnTop_13 rfl ?_
    refine yl_12 C hK rfl (by omega) dX3_ruleBrokenOnTop_14 ?_
    refine gx_aload_n C dX3_ruleBrokenOnTop_15 rfl ?_
    refine yg_X3_boxes C hK hT m123 dX3_ruleBrokenOnTop_16 ?_
    refine yg_X0_ship C hK hT m44 dX3_ruleBrokenOnTop_19 ?_
    refine gx_iload_n C dX3_ruleBrokenOnTop_22 rfl ?_
    refine yl_4 C hK rfl (by omega) dX3_ruleBrokenOnTop_23 ?_
    refine gx_icmp_eq (tgt := 29) C dX3_ruleBrokenOnTop_24 (by decide) (fun c_24 => ?_) (fun c_24 => ?_)
    · refine gx_aload_n C dX3_ruleBrokenOnTop_29 rfl ?_
      refine yg_X3_stacks C hK hT m124 dX3_ruleBrokenOnTop_30 ?_
      refine yg_X2_heights C hK hT m81 dX3_ruleBrokenOnTop_33 ?_
      refine gx_iload_n C dX3_ruleBrokenOnTop_36 rfl ?_
      refine yl_6 C hK rfl (by omega) (by omega) dX3_ruleBrokenOnTop_37 ?_
      refine gx_aload_n C dX3_ruleBrokenOnTop_38 rfl ?_
      refine yg_X3_stacks C hK hT m124 dX3_ruleBrokenOnTop_39 ?_
      refine yg_X2_tiers C hK hT m77 dX3_ruleBrokenOnTop_42 ?_
      refine gx_icmp_lt (tgt := 50) C dX3_ruleBrokenOnTop_45 (by decide) (fun c_45 => ?_) (fun c_45 => ?_)
      · refine gx_aload_n C dX3_ruleBrokenOnTop_50 rfl ?_
        refine gx_iload_n C dX3_ruleBrokenOnTop_51 rfl ?_
        refine gx_cVi (n := 1) (q0 := 0) C hK (c_X3_weightOn (l := l) (D := D) (cI := cI) (cG := cG) (cL := cL) (ad := ad) (n := n) (t := t) (B := B) (u := u) (g := g) hOK hr) yW_fst (bgV hT m209 m211 slX3_weightOn m1 m212) rfl rfl rfl (by decide +kernel) ⟨Nat.le_of_ble_eq_true rfl, Nat.le_of_ble_eq_true rfl⟩ rfl rfl rfl rfl (Nat.le_of_ble_eq_true rfl) (Nat.zero_le _) (Nat.zero_le _) dX3_ruleBrokenOnTop_52 ?_
        refine gx_aload_n C dX3_ruleBrokenOnTop_55 rfl ?_
        refine yg_X3_boxes C hK hT m123 dX3_ruleBrokenOnTop_56 ?_
        refine yg_X0_weight C hK hT m40 dX3_ruleBrokenOnTop_59 ?_
        refine gx_iload_n C dX3_ruleBrokenOnTop_62 rfl ?_
        refine yl_2 C hK rfl (by omega) dX3_ruleBrokenOnTop_63 ?_
        refine gx_iadd C dX3_ruleBrokenOnTop_64 ?_
        refine gx_aload_n C dX3_ruleBrokenOnTop_65 rfl ?_
        refine yg_X3_bears C hK hT m122 dX3_ruleBrokenOnTop_66 ?_
        refine gx_icmp_le (tgt := 74) C dX3_ruleBrokenOnTop_69 (by decide) (fun c_69 => ?_) (fun c_69 => ?_)
        · refine gx_aload_n C dX3_ruleBrokenOnTop_74 rfl ?_
          refine yg_X3_stacks C hK hT m124 dX3_ruleBrokenOnTop_75 ?_
          refine gx_iload_n C dX3_ruleBrokenOnTop_78 rfl ?_
          refine gx_cVi (n := 1) (q0 := 7) C hK (c_X2_top (l := l) (D := D) (cI := cI) (cG := cG) (cL := cL) (ad := ad) (n := n) (t := t) (B := B) (u := u) (g := g) hOK hr) yW_fst (bgV hT m358 m359 m360 m4 m361) rfl rfl rfl (by decide +kernel) ⟨Nat.le_of_ble_eq_true rfl, Nat.le_of_ble_eq_true rfl⟩ rfl rfl rfl rfl (Nat.le_of_ble_eq_true rfl) (Nat.zero_le _) (Nat.zero_le _) dX3_ruleBrokenOnTop_79 ?_
          refine gx_istore_n (lv2 := [some _, some _, some _, some _]) C dX3_ruleBrokenOnTop_82 (by decide) rfl ?_
          refine gx_iload_n C dX3_ruleBrokenOnTop_83 rfl ?_
          refine gx_iconst (v := (-1)) C dX3_ruleBrokenOnTop_84 (by decide) ?_
          refine gx_icmp_eq (tgt := 111) C dX3_ruleBrokenOnTop_85 (by decide) (fun c_85 => ?_) (fun c_85 => ?_)
          · refine gx_iload_n C dX3_ruleBrokenOnTop_111 rfl ?_
            refine gx_iconst (v := (-1)) C dX3_ruleBrokenOnTop_112 (by decide) ?_
            refine gx_icmp_eq (tgt := 140) C dX3_ruleBrokenOnTop_113 (by decide) (fun c_113 => ?_) (fun c => absurd c_85 c)
            refine gx_aload_n C dX3_ruleBrokenOnTop_140 rfl ?_
            refine yg_X3_boxes C hK hT m123 dX3_ruleBrokenOnTop_141 ?_
            refine yg_X0_kind C hK hT m46 dX3_ruleBrokenOnTop_144 ?_
            refine gx_iload_n C dX3_ruleBrokenOnTop_147 rfl ?_
            refine yl_5 C hK rfl (by omega) dX3_ruleBrokenOnTop_148 ?_
            refine gx_aload_n C dX3_ruleBrokenOnTop_149 rfl ?_
            refine yg_X3_grounds C hK hT m126 dX3_ruleBrokenOnTop_150 ?_
            refine gx_iload_n C dX3_ruleBrokenOnTop_153 rfl ?_
            refine yl_11 C hK rfl (by omega) dX3_ruleBrokenOnTop_154 ?_
            refine gx_cSi (n := 2) C hK (c_X3_ruleBrokenByGround (l := l) (D := D) (cI := cI) (cG := cG) (cL := cL) (a := u 5 b) (b := u 11 r)) (bgS hT m362 m363 m1 m364) rfl rfl rfl (by decide +kernel) ⟨Nat.le_of_ble_eq_true rfl, Nat.le_of_ble_eq_true rfl⟩ rfl rfl (Nat.le_of_ble_eq_true rfl) (Nat.zero_le _) (Nat.zero_le _) dX3_ruleBrokenOnTop_155 ?_
            exact gx_iret C hRt hlocks dX3_ruleBrokenOnTop_158 (by simp [yRule, yGr, c_6, c_24, c_45, c_69, c_85]) rfl
          · obtain ⟨h0, hq, eq⟩ := yTop_some hOK hr c_85
            rw [eq]
            refine gx_aload_n C dX3_ruleBrokenOnTop_88 rfl ?_
            refine yg_X3_boxes C hK hT m123 dX3_ruleBrokenOnTop_89 ?_
            refine yg_X0_size C hK hT m38 dX3_ruleBrokenOnTop_92 ?_
            refine gx_iload_n C dX3_ruleBrokenOnTop_95 rfl ?_
            refine yl_1 C hK rfl (by omega) dX3_ruleBrokenOnTop_96 ?_
            refine gx_aload_n C dX3_ruleBrokenOnTop_97 rfl ?_
            refine yg_X3_boxes C hK hT m123 dX3_ruleBrokenOnTop_98 ?_
            refine yg_X0_size C hK hT m38 dX3_ruleBrokenOnTop_101 ?_
            refine gx_iload_n C dX3_ruleBrokenOnTop_104 rfl ?_
            refine yl_1 C hK rfl (by omega) dX3_ruleBrokenOnTop_105 ?_
            refine gx_icmp_eq (tgt := 111) C dX3_ruleBrokenOnTop_106 (by decide) (fun c_106 => ?_) (fun c_106 => ?_)
            · refine gx_iload_n C dX3_ruleBrokenOnTop_111 rfl ?_
              refine gx_iconst (v := (-1)) C dX3_ruleBrokenOnTop_112 (by decide) ?_
              refine gx_icmp_eq (tgt := 140) C dX3_ruleBrokenOnTop_113 (by decide) (fun c => absurd c (y_m1 (by omega))) (fun c_113 => ?_)
              refine gx_aload_n C dX3_ruleBrokenOnTop_116 rfl ?_
              refine yg_X3_boxes C hK hT m123 dX3_ruleBrokenOnTop_117 ?_
              refine yg_X0_weight C hK hT m40 dX3_ruleBrokenOnTop_120 ?_
              refine gx_iload_n C dX3_ruleBrokenOnTop_123 rfl ?_
              refine yl_2 C hK rfl (by omega) dX3_ruleBrokenOnTop_124 ?_
              refine gx_aload_n C dX3_ruleBrokenOnTop_125 rfl ?_
              refine yg_X3_boxes C hK hT m123 dX3_ruleBrokenOnTop_126 ?_
              refine yg_X0_weight C hK hT m40 dX3_ruleBrokenOnTop_129 ?_
              refine gx_iload_n C dX3_ruleBrokenOnTop_132 rfl ?_
              refine yl_2 C hK rfl (by omega) dX3_ruleBrokenOnTop_133 ?_
              refine gx_icmp_ge (tgt := 140) C dX3_ruleBrokenOnTop_134 (by decide) (fun c_134 => ?_) (fun c_134 => ?_)
              · refine gx_aload_n C dX3_ruleBrokenOnTop_140 rfl ?_
                refine yg_X3_boxes C hK hT m123 dX3_ruleBrokenOnTop_141 ?_
                refine yg_X0_kind C hK hT m46 dX3_ruleBrokenOnTop_144 ?_
                refine gx_iload_n C dX3_ruleBrokenOnTop_147 rfl ?_
                refine yl_5 C hK rfl (by omega) dX3_ruleBrokenOnTop_148 ?_
                refine gx_aload_n C dX3_ruleBrokenOnTop_149 rfl ?_
                refine yg_X3_grounds C hK hT m126 dX3_ruleBrokenOnTop_150 ?_
                refine gx_iload_n C dX3_ruleBrokenOnTop_153 rfl ?_
                refine yl_11 C hK rfl (by omega) dX3_ruleBrokenOnTop_154 ?_
                refine gx_cSi (n := 2) C hK (c_X3_ruleBrokenByGround (l := l) (D := D) (cI := cI) (cG := cG) (cL := cL) (a := u 5 b) (b := u 11 r)) (bgS hT m362 m363 m1 m364) rfl rfl rfl (by decide +kernel) ⟨Nat.le_of_ble_eq_true rfl, Nat.le_of_ble_eq_true rfl⟩ rfl rfl (Nat.le_of_ble_eq_true rfl) (Nat.zero_le _) (Nat.zero_le _) dX3_ruleBrokenOnTop_155 ?_
                exact gx_iret C hRt hlocks dX3_ruleBrokenOnTop_158 (by simp [yRule, yGr, c_6, c_24, c_45, c_69, c_85, c_106, c_134, eq, y_m1 (show yB g r (yH u r - 1) < 2 ^ 31 by omega), nI_clamp (show yB g r (yH u r - 1) < 2 ^ 31 by omega)]) rfl
              · refine gx_bipush (v := 6) C dX3_ruleBrokenOnTop_137 (by decide) ?_
                exact gx_iret C hRt hlocks dX3_ruleBrokenOnTop_139 (by simp [yRule, yGr, c_6, c_24, c_45, c_69, c_85, c_106, c_134, eq, y_m1 (show yB g r (yH u r - 1) < 2 ^ 31 by omega), nI_clamp (show yB g r (yH u r - 1) < 2 ^ 31 by omega)]) rfl
            · refine gx_iconst (v := 5) C dX3_ruleBrokenOnTop_109 (by decide) ?_
              exact gx_iret C hRt hlocks dX3_ruleBrokenOnTop_110 (by simp [yRule, yGr, c_6, c_24, c_45, c_69, c_85, c_106, eq, y_m1 (show yB g r (yH u r - 1) < 2 ^ 31 by omega), nI_clamp (show yB g r (yH u r - 1) < 2 ^ 31 by omega)]) rfl
        · refine gx_iconst (v := 4) C dX3_ruleBrokenOnTop_72 (by decide) ?_
          exact gx_iret C hRt hlocks dX3_ruleBrokenOnTop_73 (by simp [yRule, yGr, c_6, c_24, c_45, c_69]) rfl
      · refine gx_iconst (v := 3) C dX3_ruleBrokenOnTop_48 (by decide) ?_
        exact gx_iret C hRt hlocks dX3_ruleBrokenOnTop_49 (by simp [yRule, yGr, c_6, c_24, c_45]) rfl
    · refine gx_iconst (v := 2) C dX3_ruleBrokenOnTop_27 (by decide) ?_
      exact gx_iret C hRt hlocks dX3_ruleBrokenOnTop_28 (by simp [yRule, yGr, c_6, c_24]) rfl
set_option maxHeartbeats 4000000 in
set_option maxRecDepth 100000 in
/-- ruleBrokenByPut -/
theorem c_X3_ruleBrokenByPut {l : Launch} {D : va_G} {cI cG cL : ClassId} {ad : Nat → Nat} {n t : Nat} {B : Int32} {u g : Nat → Nat → Int32} {b r : Nat} (hOK : yOK n t u g) (hb : b < 60) (hr : r < n) : gx_M l yX3_ruleBrokenByPut wsX3_ruleBrokenByPut ({ frames := 2, cells := 0, slots := 0, locals := 46 }) D vwCl (gT cI cG cL) [.ref (ad 0), .int (nI b), .int (nI r)] (yW cI cG ad n t B u g) (yW cI cG ad n t B u g) (some (.int (yPutR t B u g b r))) := by
  refine gx_ofG (cc := cX3_ruleBrokenByPut) (maxL := 3) (ret := (some .int)) [some (.ref (ad 0)), some (.int (nI b)), some (.int (nI r))] (by decide) rfl rfl (Nat.le_of_ble_eq_true rfl) rfl ?_
  intro p e s m args below meth c C hRt hlocks hK
  have C : CallFix p m c cX3_ruleBrokenByPut 3 s args (wsX3_ruleBrokenByPut) RX3 := C
  have hT : ∀ w ∈ bigW, w ∈ wsX3_ruleBrokenByPut := bgT
  refine gx_aload_n C dX3_ruleBrokenByPut_0 rfl ?_
  refine yg_X3_stacks C hK hT m124 dX3_ruleBrokenByPut_1 ?_
  refine gx_iload_n C dX3_ruleBrokenByPut_4 rfl ?_
  refine gx_cVi (n := 1) (q0 := 7) C hK (c_X2_stands (l := l) (D := D) (cI := cI) (cG := cG) (cL := cL) (ad := ad) (n := n) (t := t) (B := B) (u := u) (g := g) hb) yW_fst (bgV hT m200 m173 m174 m4 m175) rfl rfl rfl (by decide +kernel) ⟨Nat.le_of_ble_eq_true rfl, Nat.le_of_ble_eq_true rfl⟩ rfl rfl rfl rfl (Nat.le_of_ble_eq_true rfl) (Nat.zero_le _) (Nat.zero_le _) dX3_ruleBrokenByPut_5 ?_
  refine gx_if_eq (tgt := 15) C dX3_ruleBrokenByPut_8 (by decide) (fun c_8 => ?_) (fun c_8 => ?_)
  · refine gx_aload_n C dX3_ruleBrokenByPut_15 rfl ?_
    refine gx_iload_n C dX3_ruleBrokenByPut_16 rfl ?_
    refine gx_iload_n C dX3_ruleBrokenByPut_17 rfl ?_
    refine gx_cVi (n := 2) (q0 := 0) C hK (c_X3_ruleBrokenOnTop (l := l) (D := D) (cI := cI) (cG := cG) (cL := cL) (ad := ad) (n := n) (t := t) (B := B) (u := u) (g := g) hOK hb hr) yW_fst (bgV hT m354 m356 slX3_ruleBrokenOnTop m1 m357) rfl rfl rfl (by decide +kernel) ⟨Nat.le_of_ble_eq_true rfl, Nat.le_of_ble_eq_true rfl⟩ rfl rfl rfl rfl (Nat.le_of_ble_eq_true rfl) (Nat.zero_le _) (Nat.zero_le _) dX3_ruleBrokenByPut_18 ?_
    exact gx_iret C hRt hlocks dX3_ruleBrokenByPut_21 (by first | exact (if_pos (ySt_f c_8)).symm | exact (if_neg (ySt_t c_8)).symm) rfl
  · refine gx_iconst (v := 1) C dX3_ruleBrokenByPut_11 (by decide) ?_
    refine gx_goto (tgt := 21) C dX3_ruleBrokenByPut_12 (by decide) ?_
    exact gx_iret C hRt hlocks dX3_ruleBrokenByPut_21 (by first | exact (if_pos (ySt_f c_8)).symm | exact (if_neg (ySt_t c_8)).symm) rfl
set_option maxHeartbeats 4000000 in
set_option maxRecDepth 100000 in
/-- ruleBrokenByShift -/
theorem c_X3_ruleBrokenByShift {l : Launch} {D : va_G} {cI cG cL : ClassId} {ad : Nat → Nat} {n t : Nat} {B : Int32} {u g : Nat → Nat → Int32} {b r : Nat} (hOK : yOK n t u g) (hb : b < 60) (hr : r < n) : gx_M l yX3_ruleBrokenByShift wsX3_ruleBrokenByShift ({ frames := 2, cells := 0, slots := 0, locals := 46 }) D vwCl (gT cI cG cL) [.ref (ad 0), .int (nI b), .int (nI r)] (yW cI cG ad n t B u g) (yW cI cG ad n t B u g) (some (.int (yShR t B u g b r))) := by
  refine gx_ofG (cc := cX3_ruleBrokenByShift) (maxL := 3) (ret := (some .int)) [some (.ref (ad 0)), some (.int (nI b)), some (.int (nI r))] (by decide) rfl rfl (Nat.le_of_ble_eq_true rfl) rfl ?_
  intro p e s m args below meth c C hRt hlocks hK
  have C : CallFix p m c cX3_ruleBrokenByShift 3 s args (wsX3_ruleBrokenByShift) RX3 := C
  have hT : ∀ w ∈ bigW, w ∈ wsX3_ruleBrokenByShift := bgT
  refine gx_aload_n C dX3_ruleBrokenByShift_0 rfl ?_
  refine yg_X3_stacks C hK hT m124 dX3_ruleBrokenByShift_1 ?_
  refine yg_X2_rowOf C hK hT m83 dX3_ruleBrokenByShift_4 ?_
  refine gx_iload_n C dX3_ruleBrokenByShift_7 rfl ?_
  refine yl_7 C hK rfl (by omega) dX3_ruleBrokenByShift_8 ?_
  refine gx_iload_n C dX3_ruleBrokenByShift_9 rfl ?_
  refine gx_icmp_ne (tgt := 17) C dX3_ruleBrokenByShift_10 (by decide) (fun c_10 => ?_) (fun c_10 => ?_)
  · refine gx_aload_n C dX3_ruleBrokenByShift_17 rfl ?_
    refine gx_iload_n C dX3_ruleBrokenByShift_18 rfl ?_
    refine gx_iload_n C dX3_ruleBrokenByShift_19 rfl ?_
    refine gx_cVi (n := 2) (q0 := 0) C hK (c_X3_ruleBrokenOnTop (l := l) (D := D) (cI := cI) (cG := cG) (cL := cL) (ad := ad) (n := n) (t := t) (B := B) (u := u) (g := g) hOK hb hr) yW_fst (bgV hT m354 m356 slX3_ruleBrokenOnTop m1 m357) rfl rfl rfl (by decide +kernel) ⟨Nat.le_of_ble_eq_true rfl, Nat.le_of_ble_eq_true rfl⟩ rfl rfl rfl rfl (Nat.le_of_ble_eq_true rfl) (Nat.zero_le _) (Nat.zero_le _) dX3_ruleBrokenByShift_20 ?_
    exact gx_iret C hRt hlocks dX3_ruleBrokenByShift_23 (by first | exact (if_neg c_10).symm | exact (if_pos c_10).symm) rfl
  · refine gx_iconst (v := 1) C dX3_ruleBrokenByShift_13 (by decide) ?_
    refine gx_goto (tgt := 23) C dX3_ruleBrokenByShift_14 (by decide) ?_
    exact gx_iret C hRt hlocks dX3_ruleBrokenByShift_23 (by first | exact (if_neg c_10).symm | exact (if_pos c_10).symm) rfl
set_option maxHeartbeats 4000000 in
set_option maxRecDepth 100000 in
/-- scoreOn -/
theorem c_X3_scoreOn {l : Launch} {D : va_G} {cI cG cL : ClassId} {ad : Nat → Nat} {n t : Nat} {B : Int32} {u g : Nat → Nat → Int32} {b r : Nat} (hOK : yOK n t u g) (hb : b < 60) (hr : r < n) : gx_M l yX3_scoreOn wsX3_scoreOn ({ frames := 1, cells := 0, slots := 0, locals := 25 }) D vwCl (gT cI cG cL) [.ref (ad 0), .int (nI b), .int (nI r)] (yW cI cG ad n t B u g) (yW cI cG ad n t B u g) (some (.int (yScore u g b r))) := by
  refine gx_ofG (cc := cX3_scoreOn) (maxL := 9) (ret := (some .int)) [some (.ref (ad 0)), some (.int (nI b)), some (.int (nI r)), none, none, none, none, none, none] (by decide) rfl rfl (Nat.le_of_ble_eq_true rfl) rfl ?_
  intro p e s m args below meth c C hRt hlocks hK
  have C : CallFix p m c cX3_scoreOn 9 s args (wsX3_scoreOn) RX3 := C
  have hT : ∀ w ∈ bigW, w ∈ wsX3_scoreOn := bgT
  have hn := hOK.hn
  have ht := hOK.ht
  have h6 := hOK.h6 hr
  have hh := hOK.hh hr
  refine gx_aload_n C dX3_scoreOn_0 rfl ?_
  refine yg_X3_reservedFor C hK hT m127 dX3_scoreOn_1 ?_
  refine gx_iload_n C dX3_scoreOn_4 rfl ?_
  refine yl_12 C hK rfl (by omega) dX3_scoreOn_5 ?_
  refine gx_if_ne (tgt := 13) C dX3_scoreOn_6 (by decide) (fun c_6 => ?_) (fun c_6 => ?_)
  · refine gx_bipush (v := 30) C dX3_scoreOn_13 (by decide) ?_
    refine gx_istore_n (lv2 := [some _, some _, some _, some _, none, none, none, none, none]) C dX3_scoreOn_15 (by decide) rfl ?_
    refine gx_aload_n C dX3_scoreOn_16 rfl ?_
    refine yg_X3_stacks C hK hT m124 dX3_scoreOn_17 ?_
    refine gx_iload_n C dX3_scoreOn_20 rfl ?_
    refine gx_cVi (n := 1) (q0 := 7) C hK (c_X2_top (l := l) (D := D) (cI := cI) (cG := cG) (cL := cL) (ad := ad) (n := n) (t := t) (B := B) (u := u) (g := g) hOK hr) yW_fst (bgV hT m358 m359 m360 m4 m361) rfl rfl rfl (by decide +kernel) ⟨Nat.le_of_ble_eq_true rfl, Nat.le_of_ble_eq_true rfl⟩ rfl rfl rfl rfl (Nat.le_of_ble_eq_true rfl) (Nat.zero_le _) (Nat.zero_le _) dX3_scoreOn_21 ?_
    refine gx_istore (lv2 := [some _, some _, some _, some _, some _, none, none, none, none]) C dX3_scoreOn_24 (by decide) rfl ?_
    refine gx_iload C dX3_scoreOn_26 rfl ?_
    refine gx_iconst (v := (-1)) C dX3_scoreOn_28 (by decide) ?_
    refine gx_icmp_ne (tgt := 37) C dX3_scoreOn_29 (by decide) (fun c_29 => ?_) (fun c_29 => ?_)
    · obtain ⟨h0, hq, eq⟩ := yTop_some hOK hr c_29
      rw [eq]
      refine gx_bipush (v := 15) C dX3_scoreOn_37 (by decide) ?_
      refine gx_aload_n C dX3_scoreOn_39 rfl ?_
      refine gx_iload_n C dX3_scoreOn_40 rfl ?_
      refine gx_iload_n C dX3_scoreOn_41 rfl ?_
      refine gx_aload_n C dX3_scoreOn_42 rfl ?_
      refine yg_X3_stacks C hK hT m124 dX3_scoreOn_43 ?_
      refine yg_X2_heights C hK hT m81 dX3_scoreOn_46 ?_
      refine gx_iload_n C dX3_scoreOn_49 rfl ?_
      refine yl_6 C hK rfl (by omega) (by omega) dX3_scoreOn_50 ?_
      rw [h6]
      refine gx_cVi (n := 3) (q0 := 0) C hK (c_X3_soonerBelow (l := l) (D := D) (cI := cI) (cG := cG) (cL := cL) (ad := ad) (n := n) (t := t) (B := B) (u := u) (g := g) hOK hb hr (Nat.le_refl _)) yW_fst (bgV hT m201 m203 slX3_soonerBelow m1 m204) rfl rfl rfl (by decide +kernel) ⟨Nat.le_of_ble_eq_true rfl, Nat.le_of_ble_eq_true rfl⟩ rfl rfl rfl rfl (Nat.le_of_ble_eq_true rfl) (Nat.zero_le _) (Nat.zero_le _) dX3_scoreOn_51 ?_
      refine gx_imul C dX3_scoreOn_54 ?_
      refine gx_istore (lv2 := [some _, some _, some _, some _, some _, some _, none, none, none]) C dX3_scoreOn_55 (by decide) rfl ?_
      refine gx_aload_n C dX3_scoreOn_57 rfl ?_
      refine yg_X3_boxes C hK hT m123 dX3_scoreOn_58 ?_
      refine yg_X0_ship C hK hT m44 dX3_scoreOn_61 ?_
      refine gx_iload C dX3_scoreOn_64 rfl ?_
      refine yl_4 C hK rfl (by omega) dX3_scoreOn_66 ?_
      refine gx_aload_n C dX3_scoreOn_67 rfl ?_
      refine yg_X3_boxes C hK hT m123 dX3_scoreOn_68 ?_
      refine yg_X0_ship C hK hT m44 dX3_scoreOn_71 ?_
      refine gx_iload_n C dX3_scoreOn_74 rfl ?_
      refine yl_4 C hK rfl (by omega) dX3_scoreOn_75 ?_
      refine gx_icmp_ne (tgt := 84) C dX3_scoreOn_76 (by decide) (fun c_76 => ?_) (fun c_76 => ?_)
      · refine gx_iconst (v := 0) C dX3_scoreOn_84 (by decide) ?_
        refine gx_istore (lv2 := [some _, some _, some _, some _, some _, some _, some _, none, none]) C dX3_scoreOn_85 (by decide) rfl ?_
        refine gx_aload_n C dX3_scoreOn_87 rfl ?_
        refine yg_X3_boxes C hK hT m123 dX3_scoreOn_88 ?_
        refine yg_X0_weight C hK hT m40 dX3_scoreOn_91 ?_
        refine gx_iload C dX3_scoreOn_94 rfl ?_
        refine yl_2 C hK rfl (by omega) dX3_scoreOn_96 ?_
        refine gx_aload_n C dX3_scoreOn_97 rfl ?_
        refine yg_X3_boxes C hK hT m123 dX3_scoreOn_98 ?_
        refine yg_X0_weight C hK hT m40 dX3_scoreOn_101 ?_
        refine gx_iload_n C dX3_scoreOn_104 rfl ?_
        refine yl_2 C hK rfl (by omega) dX3_scoreOn_105 ?_
        refine gx_isub C dX3_scoreOn_106 ?_
        refine gx_istore (lv2 := [some _, some _, some _, some _, some _, some _, some _, some _, none]) C dX3_scoreOn_107 (by decide) rfl ?_
        refine gx_iconst (v := 3) C dX3_scoreOn_109 (by decide) ?_
        refine gx_iload C dX3_scoreOn_110 rfl ?_
        refine gx_imul C dX3_scoreOn_112 ?_
        refine gx_bipush (v := 24) C dX3_scoreOn_113 (by decide) ?_
        refine gx_mmin C (hT _ m25) (hT _ mMmin_s) (hT _ m2) (hT _ mMmin_c) (Nat.le_of_ble_eq_true rfl) (Nat.le_of_ble_eq_true rfl) (Nat.zero_le _) (Nat.zero_le _) dX3_scoreOn_115 ?_
        refine gx_istore (lv2 := [some _, some _, some _, some _, some _, some _, some _, some _, some _]) C dX3_scoreOn_118 (by decide) rfl ?_
        refine gx_bipush (v := 40) C dX3_scoreOn_120 (by decide) ?_
        refine gx_iload C dX3_scoreOn_122 rfl ?_
        refine gx_isub C dX3_scoreOn_124 ?_
        refine gx_iload C dX3_scoreOn_125 rfl ?_
        refine gx_iadd C dX3_scoreOn_127 ?_
        refine gx_iload C dX3_scoreOn_128 rfl ?_
        refine gx_isub C dX3_scoreOn_130 ?_
        refine gx_iload_n C dX3_scoreOn_131 rfl ?_
        refine gx_iadd C dX3_scoreOn_132 ?_
        exact gx_iret C hRt hlocks dX3_scoreOn_133 (by simp [yScore, yMin, c_6, c_76, eq, y_m1 (show yB g r (yH u r - 1) < 2 ^ 31 by omega), nI_clamp (show yB g r (yH u r - 1) < 2 ^ 31 by omega)]) rfl
      · refine gx_bipush (v := 12) C dX3_scoreOn_79 (by decide) ?_
        refine gx_goto (tgt := 85) C dX3_scoreOn_81 (by decide) ?_
        refine gx_istore (lv2 := [some _, some _, some _, some _, some _, some _, some _, none, none]) C dX3_scoreOn_85 (by decide) rfl ?_
        refine gx_aload_n C dX3_scoreOn_87 rfl ?_
        refine yg_X3_boxes C hK hT m123 dX3_scoreOn_88 ?_
        refine yg_X0_weight C hK hT m40 dX3_scoreOn_91 ?_
        refine gx_iload C dX3_scoreOn_94 rfl ?_
        refine yl_2 C hK rfl (by omega) dX3_scoreOn_96 ?_
        refine gx_aload_n C dX3_scoreOn_97 rfl ?_
        refine yg_X3_boxes C hK hT m123 dX3_scoreOn_98 ?_
        refine yg_X0_weight C hK hT m40 dX3_scoreOn_101 ?_
        refine gx_iload_n C dX3_scoreOn_104 rfl ?_
        refine yl_2 C hK rfl (by omega) dX3_scoreOn_105 ?_
        refine gx_isub C dX3_scoreOn_106 ?_
        refine gx_istore (lv2 := [some _, some _, some _, some _, some _, some _, some _, some _, none]) C dX3_scoreOn_107 (by decide) rfl ?_
        refine gx_iconst (v := 3) C dX3_scoreOn_109 (by decide) ?_
        refine gx_iload C dX3_scoreOn_110 rfl ?_
        refine gx_imul C dX3_scoreOn_112 ?_
        refine gx_bipush (v := 24) C dX3_scoreOn_113 (by decide) ?_
        refine gx_mmin C (hT _ m25) (hT _ mMmin_s) (hT _ m2) (hT _ mMmin_c) (Nat.le_of_ble_eq_true rfl) (Nat.le_of_ble_eq_true rfl) (Nat.zero_le _) (Nat.zero_le _) dX3_scoreOn_115 ?_
        refine gx_istore (lv2 := [some _, some _, some _, some _, some _, some _, some _, some _, some _]) C dX3_scoreOn_118 (by decide) rfl ?_
        refine gx_bipush (v := 40) C dX3_scoreOn_120 (by decide) ?_
        refine gx_iload C dX3_scoreOn_122 rfl ?_
        refine gx_isub C dX3_scoreOn_124 ?_
        refine gx_iload C dX3_scoreOn_125 rfl ?_
        refine gx_iadd C dX3_scoreOn_127 ?_
        refine gx_iload C dX3_scoreOn_128 rfl ?_
        refine gx_isub C dX3_scoreOn_130 ?_
        refine gx_iload_n C dX3_scoreOn_131 rfl ?_
        refine gx_iadd C dX3_scoreOn_132 ?_
        exact gx_iret C hRt hlocks dX3_scoreOn_133 (by simp [yScore, yMin, c_6, c_76, eq, y_m1 (show yB g r (yH u r - 1) < 2 ^ 31 by omega), nI_clamp (show yB g r (yH u r - 1) < 2 ^ 31 by omega)]) rfl
    · refine gx_bipush (v := 20) C dX3_scoreOn_32 (by decide) ?_
      refine gx_iload_n C dX3_scoreOn_34 rfl ?_
      refine gx_iadd C dX3_scoreOn_35 ?_
      exact gx_iret C hRt hlocks dX3_scoreOn_36 (by simp [yScore, yMin, c_6, c_29]) rfl
  · refine gx_iconst (v := 0) C dX3_scoreOn_9 (by decide) ?_
    refine gx_goto (tgt := 15) C dX3_scoreOn_10 (by decide) ?_
    refine gx_istore_n (lv2 := [some _, some _, some _, some _, none, none, none, none, none]) C dX3_scoreOn_15 (by decide) rfl ?_
    refine gx_aload_n C dX3_scoreOn_16 rfl ?_
    refine yg_X3_stacks C hK hT m124 dX3_scoreOn_17 ?_
    refine gx_iload_n C dX3_scoreOn_20 rfl ?_
    refine gx_cVi (n := 1) (q0 := 7) C hK (c_X2_top (l := l) (D := D) (cI := cI) (cG := cG) (cL := cL) (ad := ad) (n := n) (t := t) (B := B) (u := u) (g := g) hOK hr) yW_fst (bgV hT m358 m359 m360 m4 m361) rfl rfl rfl (by decide +kernel) ⟨Nat.le_of_ble_eq_true rfl, Nat.le_of_ble_eq_true rfl⟩ rfl rfl rfl rfl (Nat.le_of_ble_eq_true rfl) (Nat.zero_le _) (Nat.zero_le _) dX3_scoreOn_21 ?_
    refine gx_istore (lv2 := [some _, some _, some _, some _, some _, none, none, none, none]) C dX3_scoreOn_24 (by decide) rfl ?_
    refine gx_iload C dX3_scoreOn_26 rfl ?_
    refine gx_iconst (v := (-1)) C dX3_scoreOn_28 (by decide) ?_
    refine gx_icmp_ne (tgt := 37) C dX3_scoreOn_29 (by decide) (fun c_29 => ?_) (fun c_29 => ?_)
    · obtain ⟨h0, hq, eq⟩ := yTop_some hOK hr c_29
      rw [eq]
      refine gx_bipush (v := 15) C dX3_scoreOn_37 (by decide) ?_
      refine gx_aload_n C dX3_scoreOn_39 rfl ?_
      refine gx_iload_n C dX3_scoreOn_40 rfl ?_
      refine gx_iload_n C dX3_scoreOn_41 rfl ?_
      refine gx_aload_n C dX3_scoreOn_42 rfl ?_
      refine yg_X3_stacks C hK hT m124 dX3_scoreOn_43 ?_
      refine yg_X2_heights C hK hT m81 dX3_scoreOn_46 ?_
      refine gx_iload_n C dX3_scoreOn_49 rfl ?_
      refine yl_6 C hK rfl (by omega) (by omega) dX3_scoreOn_50 ?_
      rw [h6]
      refine gx_cVi (n := 3) (q0 := 0) C hK (c_X3_soonerBelow (l := l) (D := D) (cI := cI) (cG := cG) (cL := cL) (ad := ad) (n := n) (t := t) (B := B) (u := u) (g := g) hOK hb hr (Nat.le_refl _)) yW_fst (bgV hT m201 m203 slX3_soonerBelow m1 m204) rfl rfl rfl (by decide +kernel) ⟨Nat.le_of_ble_eq_true rfl, Nat.le_of_ble_eq_true rfl⟩ rfl rfl rfl rfl (Nat.le_of_ble_eq_true rfl) (Nat.zero_le _) (Nat.zero_le _) dX3_scoreOn_51 ?_
      refine gx_imul C dX3_scoreOn_54 ?_
      refine gx_istore (lv2 := [some _, some _, some _, some _, some _, some _, none, none, none]) C dX3_scoreOn_55 (by decide) rfl ?_
      refine gx_aload_n C dX3_scoreOn_57 rfl ?_
      refine yg_X3_boxes C hK hT m123 dX3_scoreOn_58 ?_
      refine yg_X0_ship C hK hT m44 dX3_scoreOn_61 ?_
      refine gx_iload C dX3_scoreOn_64 rfl ?_
      refine yl_4 C hK rfl (by omega) dX3_scoreOn_66 ?_
      refine gx_aload_n C dX3_scoreOn_67 rfl ?_
      refine yg_X3_boxes C hK hT m123 dX3_scoreOn_68 ?_
      refine yg_X0_ship C hK hT m44 dX3_scoreOn_71 ?_
      refine gx_iload_n C dX3_scoreOn_74 rfl ?_
      refine yl_4 C hK rfl (by omega) dX3_scoreOn_75 ?_
      refine gx_icmp_ne (tgt := 84) C dX3_scoreOn_76 (by decide) (fun c_76 => ?_) (fun c_76 => ?_)
      · refine gx_iconst (v := 0) C dX3_scoreOn_84 (by decide) ?_
        refine gx_istore (lv2 := [some _, some _, some _, some _, some _, some _, some _, none, none]) C dX3_scoreOn_85 (by decide) rfl ?_
        refine gx_aload_n C dX3_scoreOn_87 rfl ?_
        refine yg_X3_boxes C hK hT m123 dX3_scoreOn_88 ?_
        refine yg_X0_weight C hK hT m40 dX3_scoreOn_91 ?_
        refine gx_iload C dX3_scoreOn_94 rfl ?_
        refine yl_2 C hK rfl (by omega) dX3_scoreOn_96 ?_
        refine gx_aload_n C dX3_scoreOn_97 rfl ?_
        refine yg_X3_boxes C hK hT m123 dX3_scoreOn_98 ?_
        refine yg_X0_weight C hK hT m40 dX3_scoreOn_101 ?_
        refine gx_iload_n C dX3_scoreOn_104 rfl ?_
        refine yl_2 C hK rfl (by omega) dX3_scoreOn_105 ?_
        refine gx_isub C dX3_scoreOn_106 ?_
        refine gx_istore (lv2 := [some _, some _, some _, some _, some _, some _, some _, some _, none]) C dX3_scoreOn_107 (by decide) rfl ?_
        refine gx_iconst (v := 3) C dX3_scoreOn_109 (by decide) ?_
        refine gx_iload C dX3_scoreOn_110 rfl ?_
        refine gx_imul C dX3_scoreOn_112 ?_
        refine gx_bipush (v := 24) C dX3_scoreOn_113 (by decide) ?_
        refine gx_mmin C (hT _ m25) (hT _ mMmin_s) (hT _ m2) (hT _ mMmin_c) (Nat.le_of_ble_eq_true rfl) (Nat.le_of_ble_eq_true rfl) (Nat.zero_le _) (Nat.zero_le _) dX3_scoreOn_115 ?_
        refine gx_istore (lv2 := [some _, some _, some _, some _, some _, some _, some _, some _, some _]) C dX3_scoreOn_118 (by decide) rfl ?_
        refine gx_bipush (v := 40) C dX3_scoreOn_120 (by decide) ?_
        refine gx_iload C dX3_scoreOn_122 rfl ?_
        refine gx_isub C dX3_scoreOn_124 ?_
        refine gx_iload C dX3_scoreOn_125 rfl ?_
        refine gx_iadd C dX3_scoreOn_127 ?_
        refine gx_iload C dX3_scoreOn_128 rfl ?_
        refine gx_isub C dX3_scoreOn_130 ?_
        refine gx_iload_n C dX3_scoreOn_131 rfl ?_
        refine gx_iadd C dX3_scoreOn_132 ?_
        exact gx_iret C hRt hlocks dX3_scoreOn_133 (by simp [yScore, yMin, c_6, c_76, eq, y_m1 (show yB g r (yH u r - 1) < 2 ^ 31 by omega), nI_clamp (show yB g r (yH u r - 1) < 2 ^ 31 by omega)]) rfl
      · refine gx_bipush (v := 12) C dX3_scoreOn_79 (by decide) ?_
        refine gx_goto (tgt := 85) C dX3_scoreOn_81 (by decide) ?_
        refine gx_istore (lv2 := [some _, some _, some _, some _, some _, some _, some _, none, none]) C dX3_scoreOn_85 (by decide) rfl ?_
        refine gx_aload_n C dX3_scoreOn_87 rfl ?_
        refine yg_X3_boxes C hK hT m123 dX3_scoreOn_88 ?_
        refine yg_X0_weight C hK hT m40 dX3_scoreOn_91 ?_
        refine gx_iload C dX3_scoreOn_94 rfl ?_
        refine yl_2 C hK rfl (by omega) dX3_scoreOn_96 ?_
        refine gx_aload_n C dX3_scoreOn_97 rfl ?_
        refine yg_X3_boxes C hK hT m123 dX3_scoreOn_98 ?_
        refine yg_X0_weight C hK hT m40 dX3_scoreOn_101 ?_
        refine gx_iload_n C dX3_scoreOn_104 rfl ?_
        refine yl_2 C hK rfl (by omega) dX3_scoreOn_105 ?_
        refine gx_isub C dX3_scoreOn_106 ?_
        refine gx_istore (lv2 := [some _, some _, some _, some _, some _, some _, some _, some _, none]) C dX3_scoreOn_107 (by decide) rfl ?_
        refine gx_iconst (v := 3) C dX3_scoreOn_109 (by decide) ?_
        refine gx_iload C dX3_scoreOn_110 rfl ?_
        refine gx_imul C dX3_scoreOn_112 ?_
        refine gx_bipush (v := 24) C dX3_scoreOn_113 (by decide) ?_
        refine gx_mmin C (hT _ m25) (hT _ mMmin_s) (hT _ m2) (hT _ mMmin_c) (Nat.le_of_ble_eq_true rfl) (Nat.le_of_ble_eq_true rfl) (Nat.zero_le _) (Nat.zero_le _) dX3_scoreOn_115 ?_
        refine gx_istore (lv2 := [some _, some _, some _, some _, some _, some _, some _, some _, some _]) C dX3_scoreOn_118 (by decide) rfl ?_
        refine gx_bipush (v := 40) C dX3_scoreOn_120 (by decide) ?_
        refine gx_iload C dX3_scoreOn_122 rfl ?_
        refine gx_isub C dX3_scoreOn_124 ?_
        refine gx_iload C dX3_scoreOn_125 rfl ?_
        refine gx_iadd C dX3_scoreOn_127 ?_
        refine gx_iload C dX3_scoreOn_128 rfl ?_
        refine gx_isub C dX3_scoreOn_130 ?_
        refine gx_iload_n C dX3_scoreOn_131 rfl ?_
        refine gx_iadd C dX3_scoreOn_132 ?_
        exact gx_iret C hRt hlocks dX3_scoreOn_133 (by simp [yScore, yMin, c_6, c_76, eq, y_m1 (show yB g r (yH u r - 1) < 2 ^ 31 by omega), nI_clamp (show yB g r (yH u r - 1) < 2 ^ 31 by omega)]) rfl
    · refine gx_bipush (v := 20) C dX3_scoreOn_32 (by decide) ?_
      refine gx_iload_n C dX3_scoreOn_34 rfl ?_
      refine gx_iadd C dX3_scoreOn_35 ?_
      exact gx_iret C hRt hlocks dX3_scoreOn_36 (by simp [yScore, yMin, c_6, c_29]) rfl
set_option maxHeartbeats 4000000 in
set_option maxRecDepth 100000 in
theorem lp_X3_bestRow {l : Launch} {D : va_G} {cI cG cL : ClassId} {ad : Nat → Nat} {n t : Nat} {B : Int32} {u g : Nat → Nat → Int32} {b : Nat} {k : Bool} {p : Program} {e : Env} {s : State} {m : MethodId} {args : Array Value} {below : List Frame} {meth : Method} {c : Code} (C : CallFix p m c cX3_bestRow 7 s args wsX3_bestRow RX3) (hT : ∀ w ∈ bigW, w ∈ wsX3_bestRow) (hRt : meth.sig.returnType = (some .int)) (hlocks : meth.locks = false) (hK : va_K D vwCl (gT cI cG cL) s) (hOK : yOK n t u g) (hb : b < 60)  : ∀ (d j : Nat) (x y : Int32) (w : Option Value), j + d = n → (x, y) = yBest t B u g b k j → gx_G p l e (headSpec wsX3_bestRow ({ frames := 3, cells := 0, slots := 0, locals := 68 })).room s m args below meth c D vwCl (gx_in (yW cI cG ad n t B u g)) 7 0 0 (gx_Qm D vwCl below args s (yW cI cG ad n t B u g) (yW cI cG ad n t B u g) (some (.int ((yBest t B u g b k n).1)))) (yW cI cG ad n t B u g) 8 [some (.ref (ad 0)), some (.int (nI b)), some (.int (bI k)), some (.int x), some (.int y), some (.int (nI j)), w] [] := by
  intro d
  induction d with
  | zero =>
    intro j x y w hj hx
    have hn := hOK.hn
    refine gx_iload C dX3_bestRow_8 rfl ?_
    refine gx_aload_n C dX3_bestRow_10 rfl ?_
    refine yg_X3_stacks C hK hT m124 dX3_bestRow_11 ?_
    refine yg_X2_rows C hK hT m75 dX3_bestRow_14 ?_
    refine gx_icmp_ge (tgt := 81) C dX3_bestRow_17 (by decide) (fun c_17 => ?_) (fun c => absurd (nI_le (by omega) (by omega)) c)
    refine gx_iload_n C dX3_bestRow_81 rfl ?_
    exact gx_iret C hRt hlocks dX3_bestRow_82 (by have hj9 : j = n := (by omega); rw [hj9] at hx; rw [← hx]) rfl
  | succ d ih =>
    intro j x y w hj hx
    have hn := hOK.hn
    refine gx_iload C dX3_bestRow_8 rfl ?_
    refine gx_aload_n C dX3_bestRow_10 rfl ?_
    refine yg_X3_stacks C hK hT m124 dX3_bestRow_11 ?_
    refine yg_X2_rows C hK hT m75 dX3_bestRow_14 ?_
    refine gx_icmp_ge (tgt := 81) C dX3_bestRow_17 (by decide) (fun c => absurd c (nI_ge (by omega) (by omega))) (fun c_17 => ?_)
    refine gx_aload_n C dX3_bestRow_20 rfl ?_
    refine gx_iload_n C dX3_bestRow_21 rfl ?_
    refine gx_iload C dX3_bestRow_22 rfl ?_
    refine gx_cVi (n := 2) (q0 := 0) C hK (c_X3_ruleBrokenByShift (l := l) (D := D) (cI := cI) (cG := cG) (cL := cL) (ad := ad) (n := n) (t := t) (B := B) (u := u) (g := g) hOK hb (show j < n by omega)) yW_fst (bgV hT m396 m398 slX3_ruleBrokenByShift m1 m399) rfl rfl rfl (by decide +kernel) ⟨Nat.le_of_ble_eq_true rfl, Nat.le_of_ble_eq_true rfl⟩ rfl rfl rfl rfl (Nat.le_of_ble_eq_true rfl) (Nat.zero_le _) (Nat.zero_le _) dX3_bestRow_24 ?_
    refine gx_if_ne (tgt := 75) C dX3_bestRow_27 (by decide) (fun c_27 => ?_) (fun c_27 => ?_)
    · refine gx_iincN (lv2 := [some _, some _, some _, some _, some _, some _, _]) C dX3_bestRow_75 rfl (by decide) rfl ?_
      refine gx_goto (tgt := 8) C dX3_bestRow_78 (by decide) ?_
      exact ih (j + 1) _ _ _ (by omega) (by rw [yBest]; rw [if_pos (Or.inl c_27)]; exact hx)
    · refine gx_iload_n C dX3_bestRow_30 rfl ?_
      refine gx_if_eq (tgt := 47) C dX3_bestRow_31 (by decide) (fun c_31 => ?_) (fun c_31 => ?_)
      · refine gx_aload_n C dX3_bestRow_47 rfl ?_
        refine gx_iload_n C dX3_bestRow_48 rfl ?_
        refine gx_iload C dX3_bestRow_49 rfl ?_
        refine gx_cVi (n := 2) (q0 := 0) C hK (c_X3_scoreOn (l := l) (D := D) (cI := cI) (cG := cG) (cL := cL) (ad := ad) (n := n) (t := t) (B := B) (u := u) (g := g) hOK hb (show j < n by omega)) yW_fst (bgV hT m415 m417 slX3_scoreOn m1 m418) rfl rfl rfl (by decide +kernel) ⟨Nat.le_of_ble_eq_true rfl, Nat.le_of_ble_eq_true rfl⟩ rfl rfl rfl rfl (Nat.le_of_ble_eq_true rfl) (Nat.zero_le _) (Nat.zero_le _) dX3_bestRow_51 ?_
        refine gx_istore (lv2 := [some _, some _, some _, some _, some _, some _, some _]) C dX3_bestRow_54 (by decide) rfl ?_
        refine gx_iload_n C dX3_bestRow_56 rfl ?_
        refine gx_iconst (v := (-1)) C dX3_bestRow_57 (by decide) ?_
        refine gx_icmp_eq (tgt := 68) C dX3_bestRow_58 (by decide) (fun c_58 => ?_) (fun c_58 => ?_)
        · refine gx_iload C dX3_bestRow_68 rfl ?_
          refine gx_istore_n (lv2 := [some _, some _, some _, some _, some _, some _, some _]) C dX3_bestRow_70 (by decide) rfl ?_
          refine gx_iload C dX3_bestRow_71 rfl ?_
          refine gx_istore (lv2 := [some _, some _, some _, some _, some _, some _, some _]) C dX3_bestRow_73 (by decide) rfl ?_
          refine gx_iincN (lv2 := [some _, some _, some _, some _, some _, some _, some _]) C dX3_bestRow_75 rfl (by decide) rfl ?_
          refine gx_goto (tgt := 8) C dX3_bestRow_78 (by decide) ?_
          exact ih (j + 1) _ _ _ (by omega) (by rw [yBest]; rw [if_neg (fun q => q.elim (fun q => q c_27) (fun q => by rw [bI_f c_31] at q; exact absurd q.1 (by decide))), ← hx, if_pos (Or.inl c_58)])
        · refine gx_iload C dX3_bestRow_61 rfl ?_
          refine gx_iload C dX3_bestRow_63 rfl ?_
          refine gx_icmp_le (tgt := 75) C dX3_bestRow_65 (by decide) (fun c_65 => ?_) (fun c_65 => ?_)
          · refine gx_iincN (lv2 := [some _, some _, some _, some _, some _, some _, some _]) C dX3_bestRow_75 rfl (by decide) rfl ?_
            refine gx_goto (tgt := 8) C dX3_bestRow_78 (by decide) ?_
            exact ih (j + 1) _ _ _ (by omega) (by rw [yBest]; rw [if_neg (fun q => q.elim (fun q => q c_27) (fun q => by rw [bI_f c_31] at q; exact absurd q.1 (by decide))), ← hx, if_neg (fun q => q.elim (fun q => c_58 q) (fun q => q c_65))])
          · refine gx_iload C dX3_bestRow_68 rfl ?_
            refine gx_istore_n (lv2 := [some _, some _, some _, some _, some _, some _, some _]) C dX3_bestRow_70 (by decide) rfl ?_
            refine gx_iload C dX3_bestRow_71 rfl ?_
            refine gx_istore (lv2 := [some _, some _, some _, some _, some _, some _, some _]) C dX3_bestRow_73 (by decide) rfl ?_
            refine gx_iincN (lv2 := [some _, some _, some _, some _, some _, some _, some _]) C dX3_bestRow_75 rfl (by decide) rfl ?_
            refine gx_goto (tgt := 8) C dX3_bestRow_78 (by decide) ?_
            exact ih (j + 1) _ _ _ (by omega) (by rw [yBest]; rw [if_neg (fun q => q.elim (fun q => q c_27) (fun q => by rw [bI_f c_31] at q; exact absurd q.1 (by decide))), ← hx, if_pos (Or.inr c_65)])
      · refine gx_aload_n C dX3_bestRow_34 rfl ?_
        refine gx_iload_n C dX3_bestRow_35 rfl ?_
        refine gx_iload C dX3_bestRow_36 rfl ?_
        refine gx_cVi (n := 2) (q0 := 0) C hK (c_X3_wouldBeInTheWay (l := l) (D := D) (cI := cI) (cG := cG) (cL := cL) (ad := ad) (n := n) (t := t) (B := B) (u := u) (g := g) hOK hb (show j < n by omega)) yW_fst (bgV hT m411 m413 slX3_wouldBeInTheWay m1 m414) rfl rfl rfl (by decide +kernel) ⟨Nat.le_of_ble_eq_true rfl, Nat.le_of_ble_eq_true rfl⟩ rfl rfl rfl rfl (Nat.le_of_ble_eq_true rfl) (Nat.zero_le _) (Nat.zero_le _) dX3_bestRow_38 ?_
        refine gx_if_eq (tgt := 47) C dX3_bestRow_41 (by decide) (fun c_41 => ?_) (fun c_41 => ?_)
        · refine gx_aload_n C dX3_bestRow_47 rfl ?_
          refine gx_iload_n C dX3_bestRow_48 rfl ?_
          refine gx_iload C dX3_bestRow_49 rfl ?_
          refine gx_cVi (n := 2) (q0 := 0) C hK (c_X3_scoreOn (l := l) (D := D) (cI := cI) (cG := cG) (cL := cL) (ad := ad) (n := n) (t := t) (B := B) (u := u) (g := g) hOK hb (show j < n by omega)) yW_fst (bgV hT m415 m417 slX3_scoreOn m1 m418) rfl rfl rfl (by decide +kernel) ⟨Nat.le_of_ble_eq_true rfl, Nat.le_of_ble_eq_true rfl⟩ rfl rfl rfl rfl (Nat.le_of_ble_eq_true rfl) (Nat.zero_le _) (Nat.zero_le _) dX3_bestRow_51 ?_
          refine gx_istore (lv2 := [some _, some _, some _, some _, some _, some _, some _]) C dX3_bestRow_54 (by decide) rfl ?_
          refine gx_iload_n C dX3_bestRow_56 rfl ?_
          refine gx_iconst (v := (-1)) C dX3_bestRow_57 (by decide) ?_
          refine gx_icmp_eq (tgt := 68) C dX3_bestRow_58 (by decide) (fun c_58 => ?_) (fun c_58 => ?_)
          · refine gx_iload C dX3_bestRow_68 rfl ?_
            refine gx_istore_n (lv2 := [some _, some _, some _, some _, some _, some _, some _]) C dX3_bestRow_70 (by decide) rfl ?_
            refine gx_iload C dX3_bestRow_71 rfl ?_
            refine gx_istore (lv2 := [some _, some _, some _, some _, some _, some _, some _]) C dX3_bestRow_73 (by decide) rfl ?_
            refine gx_iincN (lv2 := [some _, some _, some _, some _, some _, some _, some _]) C dX3_bestRow_75 rfl (by decide) rfl ?_
            refine gx_goto (tgt := 8) C dX3_bestRow_78 (by decide) ?_
            exact ih (j + 1) _ _ _ (by omega) (by rw [yBest]; rw [if_neg (fun q => q.elim (fun q => q c_27) (fun q => by rw [bI_f c_41] at q; exact absurd q.2 (by decide))), ← hx, if_pos (Or.inl c_58)])
          · refine gx_iload C dX3_bestRow_61 rfl ?_
            refine gx_iload C dX3_bestRow_63 rfl ?_
            refine gx_icmp_le (tgt := 75) C dX3_bestRow_65 (by decide) (fun c_65 => ?_) (fun c_65 => ?_)
            · refine gx_iincN (lv2 := [some _, some _, some _, some _, some _, some _, some _]) C dX3_bestRow_75 rfl (by decide) rfl ?_
              refine gx_goto (tgt := 8) C dX3_bestRow_78 (by decide) ?_
              exact ih (j + 1) _ _ _ (by omega) (by rw [yBest]; rw [if_neg (fun q => q.elim (fun q => q c_27) (fun q => by rw [bI_f c_41] at q; exact absurd q.2 (by decide))), ← hx, if_neg (fun q => q.elim (fun q => c_58 q) (fun q => q c_65))])
            · refine gx_iload C dX3_bestRow_68 rfl ?_
              refine gx_istore_n (lv2 := [some _, some _, some _, some _, some _, some _, some _]) C dX3_bestRow_70 (by decide) rfl ?_
              refine gx_iload C dX3_bestRow_71 rfl ?_
              refine gx_istore (lv2 := [some _, some _, some _, some _, some _, some _, some _]) C dX3_bestRow_73 (by decide) rfl ?_
              refine gx_iincN (lv2 := [some _, some _, some _, some _, some _, some _, some _]) C dX3_bestRow_75 rfl (by decide) rfl ?_
              refine gx_goto (tgt := 8) C dX3_bestRow_78 (by decide) ?_
              exact ih (j + 1) _ _ _ (by omega) (by rw [yBest]; rw [if_neg (fun q => q.elim (fun q => q c_27) (fun q => by rw [bI_f c_41] at q; exact absurd q.2 (by decide))), ← hx, if_pos (Or.inr c_65)])
        · refine gx_goto (tgt := 75) C dX3_bestRow_44 (by decide) ?_
          refine gx_iincN (lv2 := [some _, some _, some _, some _, some _, some _, _]) C dX3_bestRow_75 rfl (by decide) rfl ?_
          refine gx_goto (tgt := 8) C dX3_bestRow_78 (by decide) ?_
          exact ih (j + 1) _ _ _ (by omega) (by rw [yBest]; rw [if_pos (Or.inr ⟨bI_t c_31, bI_t c_41⟩)]; exact hx)
set_option maxHeartbeats 4000000 in
set_option maxRecDepth 100000 in
/-- bestRow -/
theorem c_X3_bestRow {l : Launch} {D : va_G} {cI cG cL : ClassId} {ad : Nat → Nat} {n t : Nat} {B : Int32} {u g : Nat → Nat → Int32} {b : Nat} {k : Bool} (hOK : yOK n t u g) (hb : b < 60) : gx_M l yX3_bestRow wsX3_bestRow ({ frames := 3, cells := 0, slots := 0, locals := 68 }) D vwCl (gT cI cG cL) [.ref (ad 0), .int (nI b), .int (bI k)] (yW cI cG ad n t B u g) (yW cI cG ad n t B u g) (some (.int ((yBest t B u g b k n).1))) := by
  refine gx_ofG (cc := cX3_bestRow) (maxL := 7) (ret := (some .int)) [some (.ref (ad 0)), some (.int (nI b)), some (.int (bI k)), none, none, none, none] (by decide) rfl rfl (Nat.le_of_ble_eq_true rfl) rfl ?_
  intro p e s m args below meth c C hRt hlocks hK
  have C : CallFix p m c cX3_bestRow 7 s args (wsX3_bestRow) RX3 := C
  have hT : ∀ w ∈ bigW, w ∈ wsX3_bestRow := bgT
  have hn := hOK.hn
  refine gx_iconst (v := (-1)) C dX3_bestRow_0 (by decide) ?_
  refine gx_istore_n (lv2 := [some _, some _, some _, some _, none, none, none]) C dX3_bestRow_1 (by decide) rfl ?_
  refine gx_iconst (v := 0) C dX3_bestRow_2 (by decide) ?_
  refine gx_istore (lv2 := [some _, some _, some _, some _, some _, none, none]) C dX3_bestRow_3 (by decide) rfl ?_
  refine gx_iconst (v := 0) C dX3_bestRow_5 (by decide) ?_
  refine gx_istore (lv2 := [some _, some _, some _, some _, some _, some _, none]) C dX3_bestRow_6 (by decide) rfl ?_
  exact lp_X3_bestRow C hT hRt hlocks hK hOK hb (n) 0 _ _ _ (by omega) rfl
end
section
theorem yOK_keep {n t : Nat} {u g : Nat → Nat → Int32} {q b : Nat} {x : Int32} (h : yOK n t u g) : yOK n t (yKeepU u q b x) g := h
theorem yLift_6 {u : Nat → Nat → Int32} {b r r2 : Nat} (h : r2 ≠ r) : yLiftU u b r 6 r2 = u 6 r2 := pk_un h
theorem yH_lift {u : Nat → Nat → Int32} {b r r2 : Nat} (h : r2 ≠ r) : yH (yLiftU u b r) r2 = yH u r2 := by rw [yH, yLift_6 h, yH]
def yCR (n : Nat) (u g : Nat → Nat → Int32) (x : Int32) : Int32 :=
  if x < 20 ∨ 100 ≤ x then -1
  else if x.toNatClampNeg % 20 < n then (if x.toNatClampNeg / 20 = 1 then u 6 (x.toNatClampNeg % 20) else if x.toNatClampNeg / 20 = 2 then yWt u g (x.toNatClampNeg % 20) else if x.toNatClampNeg / 20 = 3 then u 11 (x.toNatClampNeg % 20) else u 12 (x.toNatClampNeg % 20))
  else -1
theorem y_20 {x : Int32} (h1 : ¬ x < 20) (h2 : x < 100) : ∃ k : Nat, 20 ≤ k ∧ k < 100 ∧ x = nI k := by
  have a := Int32.le_iff_toInt_le.mp (Int32.not_lt.mp h1)
  have b := Int32.lt_iff_toInt_lt.mp h2
  have e1 : (20 : Int32).toInt = 20 := by decide
  have e2 : (100 : Int32).toInt = 100 := by decide
  rw [e1] at a
  rw [e2] at b
  refine ⟨x.toInt.toNat, by omega, by omega, ?_⟩
  apply Int32.toInt_inj.mp
  rw [nI_toInt (by omega)]
  omega
theorem y_nlt20 {k : Nat} (h1 : 20 ≤ k) (h2 : k < 100) : ¬ (nI k < 20 ∨ 100 ≤ nI k) := by
  rw [show (20 : Int32) = nI 20 from rfl, show (100 : Int32) = nI 100 from rfl, nI_ltI (by omega) (by decide), nI_leI (by decide) (by omega)]
  omega
theorem yCR_some {n : Nat} {u g : Nat → Nat → Int32} {k : Nat} (h1 : 20 ≤ k) (h2 : k < 100) (h3 : k % 20 < n) : yCR n u g (nI k) = if k / 20 = 1 then u 6 (k % 20) else if k / 20 = 2 then yWt u g (k % 20) else if k / 20 = 3 then u 11 (k % 20) else u 12 (k % 20) := by
  rw [yCR, if_neg (y_nlt20 h1 h2), nI_clamp (by omega), if_pos h3]
theorem yCR_none {n : Nat} {u g : Nat → Nat → Int32} {k : Nat} (h1 : 20 ≤ k) (h2 : k < 100) (h3 : ¬ k % 20 < n) : yCR n u g (nI k) = -1 := by
  rw [yCR, if_neg (y_nlt20 h1 h2), nI_clamp (by omega), if_neg h3]
theorem yRow_lt {n k : Nat} (hn : n ≤ 16) (hk : k < 2 ^ 31) (h : yRow n (nI k) = true) : k < n := (nI_ltI hk (by omega)).mp (of_decide_eq_true h).2
theorem yRow_nlt {n k : Nat} (hk : k < 2 ^ 31) (hn : n ≤ 16) (h : yRow n (nI k) = false) : ¬ k < n := fun q => of_decide_eq_false h ⟨nI_pos' hk, (nI_ltI hk (by omega)).mpr q⟩
theorem yRow_of {n k : Nat} (hn : n ≤ 16) (h : k < n) : yRow n (nI k) = true := decide_eq_true ⟨nI_pos' (by omega), (nI_ltI (by omega) (by omega)).mpr h⟩
theorem yRow_ex {n : Nat} {x : Int32} (hn : n ≤ 16) (h : yRow n x = true) : ∃ r, r < n ∧ x = nI r := by
  obtain ⟨h1, h2⟩ := of_decide_eq_true h
  obtain ⟨j, hj, rfl⟩ := nI_of (Int32.not_lt.mpr h1)
  exact ⟨j, (nI_ltI hj (by omega)).mp h2, rfl⟩
theorem yHas_of {u : Nat → Nat → Int32} {b T : Nat} (hT : T ≤ 60) (e0 : u 0 0 = nI T) (h : b < T) : yHas u (nI b) = true := decide_eq_true ⟨nI_pos' (by omega), by rw [e0]; exact (nI_ltI (by omega) (by omega)).mpr h⟩
theorem yHas_ex {u : Nat → Nat → Int32} {T : Nat} {x : Int32} (hT : T ≤ 60) (e0 : u 0 0 = nI T) (h : yHas u x = true) : ∃ b, b < T ∧ x = nI b := by
  obtain ⟨h1, h2⟩ := of_decide_eq_true h
  obtain ⟨j, hj, rfl⟩ := nI_of (Int32.not_lt.mpr h1)
  rw [e0] at h2
  exact ⟨j, (nI_ltI hj (by omega)).mp h2, rfl⟩
end
section
set_option maxHeartbeats 4000000 in
set_option maxRecDepth 100000 in
theorem c_X2_bring_lay {l : Launch} {D : va_G} {cI cG cL : ClassId} {ad : Nat → Nat} {n t : Nat} {B : Int32} {u g : Nat → Nat → Int32} {b r : Nat} (hn : n ≤ 16) (ht : t ≤ 8) (hb : b < 60) (hr : r < n) (hs : u 7 b = -1) (h6 : u 6 r = nI (yH u r)) (h0 : yH u r < t) : gx_M l yX2_bring wsX2_bring ({ frames := 1, cells := 0, slots := 0, locals := 23 }) D vwCl (gT cI cG cL) [.ref (ad 7), .int (nI b), .int (nI r)] (yW cI cG ad n t B u g) (yW cI cG ad n t B (yLayU u b r) (yLayG u g b r)) none := by
  refine gx_ofG (cc := cX2_bring) (maxL := 3) (ret := none) [some (.ref (ad 7)), some (.int (nI b)), some (.int (nI r))] (by decide) rfl rfl (Nat.le_of_ble_eq_true rfl) rfl ?_
  intro p e s m args below meth c C hRt hlocks hK
  have C : CallFix p m c cX2_bring 3 s args (wsX2_bring) RX2 := C
  have hT : ∀ w ∈ bigW, w ∈ wsX2_bring := bgT
  refine gx_aload_n C dX2_bring_0 rfl ?_
  refine gx_iload_n C dX2_bring_1 rfl ?_
  refine gx_cVi (n := 1) (q0 := 7) C hK (c_X2_stands (l := l) (D := D) (cI := cI) (cG := cG) (cL := cL) (ad := ad) (n := n) (t := t) (B := B) (u := u) (g := g) hb) yW_fst (bgV hT m172 m173 m174 m4 m175) rfl rfl rfl (by decide +kernel) ⟨Nat.le_of_ble_eq_true rfl, Nat.le_of_ble_eq_true rfl⟩ rfl rfl rfl rfl (Nat.le_of_ble_eq_true rfl) (Nat.zero_le _) (Nat.zero_le _) dX2_bring_2 ?_
  refine gx_if_eq (tgt := 13) C dX2_bring_5 (by decide) (fun c_5 => ?_) (fun c => absurd (bI_0.mpr (decide_eq_false (fun q => q hs))) c)
  refine gx_iload_n C dX2_bring_13 rfl ?_
  refine gx_iconst (v := (-1)) C dX2_bring_14 (by decide) ?_
  refine gx_icmp_eq (tgt := 24) C dX2_bring_15 (by decide) (fun c => absurd c (y_m1 (by omega))) (fun c_15 => ?_)
  refine gx_aload_n C dX2_bring_18 rfl ?_
  refine gx_iload_n C dX2_bring_19 rfl ?_
  refine gx_iload_n C dX2_bring_20 rfl ?_
  refine gx_cVv (n := 2) (q0 := 7) C hK (c_X2_lay (l := l) (D := D) (cI := cI) (cG := cG) (cL := cL) (ad := ad) (n := n) (t := t) (B := B) (u := u) (g := g) hn ht hb hr h6 h0) yW_fst (bgV hT m180 m182 slX2_lay m4 m183) rfl rfl rfl (by decide +kernel) ⟨Nat.le_of_ble_eq_true rfl, Nat.le_of_ble_eq_true rfl⟩ rfl rfl rfl rfl (Nat.le_of_ble_eq_true rfl) (Nat.zero_le _) (Nat.zero_le _) dX2_bring_21 ?_
  exact gx_vret C hRt hlocks dX2_bring_24 rfl
set_option maxHeartbeats 4000000 in
set_option maxRecDepth 100000 in
theorem c_X2_bring_lift {l : Launch} {D : va_G} {cI cG cL : ClassId} {ad : Nat → Nat} {n t : Nat} {B : Int32} {u g : Nat → Nat → Int32} {b r : Nat} (hOK : yOK n t u g) (hb : b < 60) (hr : r < n) (e7 : u 7 b = nI r) (h0 : 0 < yH u r) : gx_M l yX2_bring wsX2_bring ({ frames := 1, cells := 0, slots := 0, locals := 22 }) D vwCl (gT cI cG cL) [.ref (ad 7), .int (nI b), .int (-1)] (yW cI cG ad n t B u g) (yW cI cG ad n t B (yLiftU u b r) (yLiftG u g r)) none := by
  refine gx_ofG (cc := cX2_bring) (maxL := 3) (ret := none) [some (.ref (ad 7)), some (.int (nI b)), some (.int (-1))] (by decide) rfl rfl (Nat.le_of_ble_eq_true rfl) rfl ?_
  intro p e s m args below meth c C hRt hlocks hK
  have C : CallFix p m c cX2_bring 3 s args (wsX2_bring) RX2 := C
  have hT : ∀ w ∈ bigW, w ∈ wsX2_bring := bgT
  have hn := hOK.hn
  have ht := hOK.ht
  refine gx_aload_n C dX2_bring_0 rfl ?_
  refine gx_iload_n C dX2_bring_1 rfl ?_
  refine gx_cVi (n := 1) (q0 := 7) C hK (c_X2_stands (l := l) (D := D) (cI := cI) (cG := cG) (cL := cL) (ad := ad) (n := n) (t := t) (B := B) (u := u) (g := g) hb) yW_fst (bgV hT m172 m173 m174 m4 m175) rfl rfl rfl (by decide +kernel) ⟨Nat.le_of_ble_eq_true rfl, Nat.le_of_ble_eq_true rfl⟩ rfl rfl rfl rfl (Nat.le_of_ble_eq_true rfl) (Nat.zero_le _) (Nat.zero_le _) dX2_bring_2 ?_
  refine gx_if_eq (tgt := 13) C dX2_bring_5 (by decide) (fun c => absurd (ySt_f c) (by rw [e7]; exact y_m1 (by omega))) (fun c_5 => ?_)
  refine gx_aload_n C dX2_bring_8 rfl ?_
  refine gx_iload_n C dX2_bring_9 rfl ?_
  refine gx_cVv (n := 1) (q0 := 7) C hK (c_X2_lift (l := l) (D := D) (cI := cI) (cG := cG) (cL := cL) (ad := ad) (n := n) (t := t) (B := B) (u := u) (g := g) hOK hb hr e7 h0) yW_fst (bgV hT m176 m178 slX2_lift m4 m179) rfl rfl rfl (by decide +kernel) ⟨Nat.le_of_ble_eq_true rfl, Nat.le_of_ble_eq_true rfl⟩ rfl rfl rfl rfl (Nat.le_of_ble_eq_true rfl) (Nat.zero_le _) (Nat.zero_le _) dX2_bring_10 ?_
  refine gx_iload_n C dX2_bring_13 rfl ?_
  refine gx_iconst (v := (-1)) C dX2_bring_14 (by decide) ?_
  refine gx_icmp_eq (tgt := 24) C dX2_bring_15 (by decide) (fun c_15 => ?_) (fun c => absurd c (by decide))
  exact gx_vret C hRt hlocks dX2_bring_24 rfl
set_option maxHeartbeats 4000000 in
set_option maxRecDepth 100000 in
theorem c_X2_bring_both {l : Launch} {D : va_G} {cI cG cL : ClassId} {ad : Nat → Nat} {n t : Nat} {B : Int32} {u g : Nat → Nat → Int32} {b r r2 : Nat} (hOK : yOK n t u g) (hb : b < 60) (hr : r < n) (hr2 : r2 < n) (e7 : u 7 b = nI r) (h0 : 0 < yH u r) (h6 : yLiftU u b r 6 r2 = nI (yH (yLiftU u b r) r2)) (h02 : yH (yLiftU u b r) r2 < t) : gx_M l yX2_bring wsX2_bring ({ frames := 1, cells := 0, slots := 0, locals := 23 }) D vwCl (gT cI cG cL) [.ref (ad 7), .int (nI b), .int (nI r2)] (yW cI cG ad n t B u g) (yW cI cG ad n t B (yLayU (yLiftU u b r) b r2) (yLayG (yLiftU u b r) (yLiftG u g r) b r2)) none := by
  refine gx_ofG (cc := cX2_bring) (maxL := 3) (ret := none) [some (.ref (ad 7)), some (.int (nI b)), some (.int (nI r2))] (by decide) rfl rfl (Nat.le_of_ble_eq_true rfl) rfl ?_
  intro p e s m args below meth c C hRt hlocks hK
  have C : CallFix p m c cX2_bring 3 s args (wsX2_bring) RX2 := C
  have hT : ∀ w ∈ bigW, w ∈ wsX2_bring := bgT
  have hn := hOK.hn
  have ht := hOK.ht
  refine gx_aload_n C dX2_bring_0 rfl ?_
  refine gx_iload_n C dX2_bring_1 rfl ?_
  refine gx_cVi (n := 1) (q0 := 7) C hK (c_X2_stands (l := l) (D := D) (cI := cI) (cG := cG) (cL := cL) (ad := ad) (n := n) (t := t) (B := B) (u := u) (g := g) hb) yW_fst (bgV hT m172 m173 m174 m4 m175) rfl rfl rfl (by decide +kernel) ⟨Nat.le_of_ble_eq_true rfl, Nat.le_of_ble_eq_true rfl⟩ rfl rfl rfl rfl (Nat.le_of_ble_eq_true rfl) (Nat.zero_le _) (Nat.zero_le _) dX2_bring_2 ?_
  refine gx_if_eq (tgt := 13) C dX2_bring_5 (by decide) (fun c => absurd (ySt_f c) (by rw [e7]; exact y_m1 (by omega))) (fun c_5 => ?_)
  refine gx_aload_n C dX2_bring_8 rfl ?_
  refine gx_iload_n C dX2_bring_9 rfl ?_
  refine gx_cVv (n := 1) (q0 := 7) C hK (c_X2_lift (l := l) (D := D) (cI := cI) (cG := cG) (cL := cL) (ad := ad) (n := n) (t := t) (B := B) (u := u) (g := g) hOK hb hr e7 h0) yW_fst (bgV hT m176 m178 slX2_lift m4 m179) rfl rfl rfl (by decide +kernel) ⟨Nat.le_of_ble_eq_true rfl, Nat.le_of_ble_eq_true rfl⟩ rfl rfl rfl rfl (Nat.le_of_ble_eq_true rfl) (Nat.zero_le _) (Nat.zero_le _) dX2_bring_10 ?_
  refine gx_iload_n C dX2_bring_13 rfl ?_
  refine gx_iconst (v := (-1)) C dX2_bring_14 (by decide) ?_
  refine gx_icmp_eq (tgt := 24) C dX2_bring_15 (by decide) (fun c => absurd c (y_m1 (by omega))) (fun c_15 => ?_)
  refine gx_aload_n C dX2_bring_18 rfl ?_
  refine gx_iload_n C dX2_bring_19 rfl ?_
  refine gx_iload_n C dX2_bring_20 rfl ?_
  refine gx_cVv (n := 2) (q0 := 7) C hK (c_X2_lay (l := l) (D := D) (cI := cI) (cG := cG) (cL := cL) (ad := ad) (n := n) (t := t) (B := B) (u := yLiftU u b r) (g := yLiftG u g r) hn ht hb hr2 h6 h02) yW_fst (bgV hT m180 m182 slX2_lay m4 m183) rfl rfl rfl (by decide +kernel) ⟨Nat.le_of_ble_eq_true rfl, Nat.le_of_ble_eq_true rfl⟩ rfl rfl rfl rfl (Nat.le_of_ble_eq_true rfl) (Nat.zero_le _) (Nat.zero_le _) dX2_bring_21 ?_
  exact gx_vret C hRt hlocks dX2_bring_24 rfl
set_option maxHeartbeats 4000000 in
set_option maxRecDepth 100000 in
theorem c_X3_move_put {l : Launch} {D : va_G} {cI cG cL : ClassId} {ad : Nat → Nat} {n t : Nat} {B : Int32} {u g : Nat → Nat → Int32} {b r mk : Nat} (hOK : yOK n t u g) (hb : b < 60) (hr : r < n) (hs : u 7 b = -1) (h0 : yH u r < t) (hm : mk < 2 ^ 30) (e1 : u 0 1 = nI mk) : gx_M l yX3_move wsX3_move ({ frames := 2, cells := 0, slots := 0, locals := 45 }) D vwCl (gT cI cG cL) [.ref (ad 0), .int (nI b), .int (nI r)] (yW cI cG ad n t B u g) (yW cI cG ad n t B (yLayU (yKeepU u (mk % 100) b (u 7 b)) b r) (yLayG (yKeepU u (mk % 100) b (u 7 b)) g b r)) none := by
  refine gx_ofG (cc := cX3_move) (maxL := 3) (ret := none) [some (.ref (ad 0)), some (.int (nI b)), some (.int (nI r))] (by decide) rfl rfl (Nat.le_of_ble_eq_true rfl) rfl ?_
  intro p e s m args below meth c C hRt hlocks hK
  have C : CallFix p m c cX3_move 3 s args (wsX3_move) RX3 := C
  have hT : ∀ w ∈ bigW, w ∈ wsX3_move := bgT
  have hn := hOK.hn
  have ht := hOK.ht
  refine gx_aload_n C dX3_move_0 rfl ?_
  refine yg_X3_history C hK hT m125 dX3_move_1 ?_
  refine gx_iload_n C dX3_move_4 rfl ?_
  refine gx_aload_n C dX3_move_5 rfl ?_
  refine yg_X3_stacks C hK hT m124 dX3_move_6 ?_
  refine yg_X2_rowOf C hK hT m83 dX3_move_9 ?_
  refine gx_iload_n C dX3_move_12 rfl ?_
  refine yl_7 C hK rfl (by omega) dX3_move_13 ?_
  refine gx_cVv (n := 2) (q0 := 12) C hK (c_X1_keep (l := l) (D := D) (cI := cI) (cG := cG) (cL := cL) (ad := ad) (n := n) (t := t) (B := B) (u := u) (g := g) (b := b) (x := u 7 b) hm e1) yW_fst (bgV hT m369 m370 m371 m6 m372) rfl rfl rfl (by decide +kernel) ⟨Nat.le_of_ble_eq_true rfl, Nat.le_of_ble_eq_true rfl⟩ rfl rfl rfl rfl (Nat.le_of_ble_eq_true rfl) (Nat.zero_le _) (Nat.zero_le _) dX3_move_14 ?_
  refine gx_aload_n C dX3_move_17 rfl ?_
  refine yg_X3_stacks C hK hT m124 dX3_move_18 ?_
  refine gx_iload_n C dX3_move_21 rfl ?_
  refine gx_iload_n C dX3_move_22 rfl ?_
  refine gx_cVv (n := 2) (q0 := 7) C hK (c_X2_bring_lay (l := l) (D := D) (cI := cI) (cG := cG) (cL := cL) (ad := ad) (n := n) (t := t) (B := B) (u := yKeepU u (mk % 100) b (u 7 b)) (g := g) hn ht hb hr hs (hOK.h6 hr) h0) yW_fst (bgV hT m168 m169 m170 m4 m171) rfl rfl rfl (by decide +kernel) ⟨Nat.le_of_ble_eq_true rfl, Nat.le_of_ble_eq_true rfl⟩ rfl rfl rfl rfl (Nat.le_of_ble_eq_true rfl) (Nat.zero_le _) (Nat.zero_le _) dX3_move_23 ?_
  exact gx_vret C hRt hlocks dX3_move_26 rfl
set_option maxHeartbeats 4000000 in
set_option maxRecDepth 100000 in
theorem c_X3_move_take {l : Launch} {D : va_G} {cI cG cL : ClassId} {ad : Nat → Nat} {n t : Nat} {B : Int32} {u g : Nat → Nat → Int32} {b r mk : Nat} (hOK : yOK n t u g) (hb : b < 60) (hr : r < n) (e7 : u 7 b = nI r) (h0 : 0 < yH u r) (hm : mk < 2 ^ 30) (e1 : u 0 1 = nI mk) : gx_M l yX3_move wsX3_move ({ frames := 2, cells := 0, slots := 0, locals := 44 }) D vwCl (gT cI cG cL) [.ref (ad 0), .int (nI b), .int (-1)] (yW cI cG ad n t B u g) (yW cI cG ad n t B (yLiftU (yKeepU u (mk % 100) b (u 7 b)) b r) (yLiftG (yKeepU u (mk % 100) b (u 7 b)) g r)) none := by
  refine gx_ofG (cc := cX3_move) (maxL := 3) (ret := none) [some (.ref (ad 0)), some (.int (nI b)), some (.int (-1))] (by decide) rfl rfl (Nat.le_of_ble_eq_true rfl) rfl ?_
  intro p e s m args below meth c C hRt hlocks hK
  have C : CallFix p m c cX3_move 3 s args (wsX3_move) RX3 := C
  have hT : ∀ w ∈ bigW, w ∈ wsX3_move := bgT
  have hn := hOK.hn
  have ht := hOK.ht
  refine gx_aload_n C dX3_move_0 rfl ?_
  refine yg_X3_history C hK hT m125 dX3_move_1 ?_
  refine gx_iload_n C dX3_move_4 rfl ?_
  refine gx_aload_n C dX3_move_5 rfl ?_
  refine yg_X3_stacks C hK hT m124 dX3_move_6 ?_
  refine yg_X2_rowOf C hK hT m83 dX3_move_9 ?_
  refine gx_iload_n C dX3_move_12 rfl ?_
  refine yl_7 C hK rfl (by omega) dX3_move_13 ?_
  refine gx_cVv (n := 2) (q0 := 12) C hK (c_X1_keep (l := l) (D := D) (cI := cI) (cG := cG) (cL := cL) (ad := ad) (n := n) (t := t) (B := B) (u := u) (g := g) (b := b) (x := u 7 b) hm e1) yW_fst (bgV hT m369 m370 m371 m6 m372) rfl rfl rfl (by decide +kernel) ⟨Nat.le_of_ble_eq_true rfl, Nat.le_of_ble_eq_true rfl⟩ rfl rfl rfl rfl (Nat.le_of_ble_eq_true rfl) (Nat.zero_le _) (Nat.zero_le _) dX3_move_14 ?_
  refine gx_aload_n C dX3_move_17 rfl ?_
  refine yg_X3_stacks C hK hT m124 dX3_move_18 ?_
  refine gx_iload_n C dX3_move_21 rfl ?_
  refine gx_iload_n C dX3_move_22 rfl ?_
  refine gx_cVv (n := 2) (q0 := 7) C hK (c_X2_bring_lift (l := l) (D := D) (cI := cI) (cG := cG) (cL := cL) (ad := ad) (n := n) (t := t) (B := B) (u := yKeepU u (mk % 100) b (u 7 b)) (g := g) (yOK_keep hOK) hb hr e7 h0) yW_fst (bgV hT m168 m169 m170 m4 m171) rfl rfl rfl (by decide +kernel) ⟨Nat.le_of_ble_eq_true rfl, Nat.le_of_ble_eq_true rfl⟩ rfl rfl rfl rfl (Nat.le_of_ble_eq_true rfl) (Nat.zero_le _) (Nat.zero_le _) dX3_move_23 ?_
  exact gx_vret C hRt hlocks dX3_move_26 rfl
set_option maxHeartbeats 4000000 in
set_option maxRecDepth 100000 in
theorem c_X3_move_shift {l : Launch} {D : va_G} {cI cG cL : ClassId} {ad : Nat → Nat} {n t : Nat} {B : Int32} {u g : Nat → Nat → Int32} {b r r2 mk : Nat} (hOK : yOK n t u g) (hb : b < 60) (hr : r < n) (hr2 : r2 < n) (e7 : u 7 b = nI r) (h0 : 0 < yH u r) (hne : r2 ≠ r) (h02 : yH u r2 < t) (hm : mk < 2 ^ 30) (e1 : u 0 1 = nI mk) : gx_M l yX3_move wsX3_move ({ frames := 2, cells := 0, slots := 0, locals := 45 }) D vwCl (gT cI cG cL) [.ref (ad 0), .int (nI b), .int (nI r2)] (yW cI cG ad n t B u g) (yW cI cG ad n t B (yLayU (yLiftU (yKeepU u (mk % 100) b (u 7 b)) b r) b r2) (yLayG (yLiftU (yKeepU u (mk % 100) b (u 7 b)) b r) (yLiftG (yKeepU u (mk % 100) b (u 7 b)) g r) b r2)) none := by
  refine gx_ofG (cc := cX3_move) (maxL := 3) (ret := none) [some (.ref (ad 0)), some (.int (nI b)), some (.int (nI r2))] (by decide) rfl rfl (Nat.le_of_ble_eq_true rfl) rfl ?_
  intro p e s m args below meth c C hRt hlocks hK
  have C : CallFix p m c cX3_move 3 s args (wsX3_move) RX3 := C
  have hT : ∀ w ∈ bigW, w ∈ wsX3_move := bgT
  have hn := hOK.hn
  have ht := hOK.ht
  refine gx_aload_n C dX3_move_0 rfl ?_
  refine yg_X3_history C hK hT m125 dX3_move_1 ?_
  refine gx_iload_n C dX3_move_4 rfl ?_
  refine gx_aload_n C dX3_move_5 rfl ?_
  refine yg_X3_stacks C hK hT m124 dX3_move_6 ?_
  refine yg_X2_rowOf C hK hT m83 dX3_move_9 ?_
  refine gx_iload_n C dX3_move_12 rfl ?_
  refine yl_7 C hK rfl (by omega) dX3_move_13 ?_
  refine gx_cVv (n := 2) (q0 := 12) C hK (c_X1_keep (l := l) (D := D) (cI := cI) (cG := cG) (cL := cL) (ad := ad) (n := n) (t := t) (B := B) (u := u) (g := g) (b := b) (x := u 7 b) hm e1) yW_fst (bgV hT m369 m370 m371 m6 m372) rfl rfl rfl (by decide +kernel) ⟨Nat.le_of_ble_eq_true rfl, Nat.le_of_ble_eq_true rfl⟩ rfl rfl rfl rfl (Nat.le_of_ble_eq_true rfl) (Nat.zero_le _) (Nat.zero_le _) dX3_move_14 ?_
  refine gx_aload_n C dX3_move_17 rfl ?_
  refine yg_X3_stacks C hK hT m124 dX3_move_18 ?_
  refine gx_iload_n C dX3_move_21 rfl ?_
  refine gx_iload_n C dX3_move_22 rfl ?_
  refine gx_cVv (n := 2) (q0 := 7) C hK (c_X2_bring_both (l := l) (D := D) (cI := cI) (cG := cG) (cL := cL) (ad := ad) (n := n) (t := t) (B := B) (u := yKeepU u (mk % 100) b (u 7 b)) (g := g) (yOK_keep hOK) hb hr hr2 e7 h0 (by rw [yH_lift hne, yLift_6 hne]; exact hOK.h6 hr2) (by rw [yH_lift hne]; exact h02)) yW_fst (bgV hT m168 m169 m170 m4 m171) rfl rfl rfl (by decide +kernel) ⟨Nat.le_of_ble_eq_true rfl, Nat.le_of_ble_eq_true rfl⟩ rfl rfl rfl rfl (Nat.le_of_ble_eq_true rfl) (Nat.zero_le _) (Nat.zero_le _) dX3_move_23 ?_
  exact gx_vret C hRt hlocks dX3_move_26 rfl
set_option maxHeartbeats 4000000 in
set_option maxRecDepth 100000 in
theorem c_X3_requireBox {l : Launch} {D : va_G} {cI cG cL : ClassId} {ad : Nat → Nat} {n t : Nat} {B : Int32} {u g : Nat → Nat → Int32} {x : Int32} (hB : yHas u x = true) : gx_M l yX3_requireBox wsX3_requireBox ({ frames := 1, cells := 0, slots := 0, locals := 21 }) D vwCl (gT cI cG cL) [.ref (ad 0), .int x] (yW cI cG ad n t B u g) (yW cI cG ad n t B u g) none := by
  refine gx_ofG (cc := cX3_requireBox) (maxL := 2) (ret := none) [some (.ref (ad 0)), some (.int x)] (by decide) rfl rfl (Nat.le_of_ble_eq_true rfl) rfl ?_
  intro p e s m args below meth c C hRt hlocks hK
  have C : CallFix p m c cX3_requireBox 2 s args (wsX3_requireBox) RX3 := C
  have hT : ∀ w ∈ bigW, w ∈ wsX3_requireBox := bgT
  refine gx_aload_n C dX3_requireBox_0 rfl ?_
  refine yg_X3_boxes C hK hT m123 dX3_requireBox_1 ?_
  refine gx_iload_n C dX3_requireBox_4 rfl ?_
  refine gx_cVi (n := 1) (q0 := 1) C hK (c_X0_has (l := l) (D := D) (cI := cI) (cG := cG) (cL := cL) (ad := ad) (n := n) (t := t) (B := B) (u := u) (g := g) (x := x)) yW_fst (bgV hT m325 m326 m327 m3 m328) rfl rfl rfl (by decide +kernel) ⟨Nat.le_of_ble_eq_true rfl, Nat.le_of_ble_eq_true rfl⟩ rfl rfl rfl rfl (Nat.le_of_ble_eq_true rfl) (Nat.zero_le _) (Nat.zero_le _) dX3_requireBox_5 ?_
  refine gx_if_ne (tgt := 21) C dX3_requireBox_8 (by decide) (fun c_8 => ?_) (fun c => absurd c (by rw [hB]; decide))
  exact gx_vret C hRt hlocks dX3_requireBox_21 rfl
set_option maxHeartbeats 4000000 in
set_option maxRecDepth 100000 in
theorem c_X3_requireRow {l : Launch} {D : va_G} {cI cG cL : ClassId} {ad : Nat → Nat} {n t : Nat} {B : Int32} {u g : Nat → Nat → Int32} {x : Int32} (hB : yRow n x = true) : gx_M l yX3_requireRow wsX3_requireRow ({ frames := 1, cells := 0, slots := 0, locals := 21 }) D vwCl (gT cI cG cL) [.ref (ad 0), .int x] (yW cI cG ad n t B u g) (yW cI cG ad n t B u g) none := by
  refine gx_ofG (cc := cX3_requireRow) (maxL := 2) (ret := none) [some (.ref (ad 0)), some (.int x)] (by decide) rfl rfl (Nat.le_of_ble_eq_true rfl) rfl ?_
  intro p e s m args below meth c C hRt hlocks hK
  have C : CallFix p m c cX3_requireRow 2 s args (wsX3_requireRow) RX3 := C
  have hT : ∀ w ∈ bigW, w ∈ wsX3_requireRow := bgT
  refine gx_aload_n C dX3_requireRow_0 rfl ?_
  refine yg_X3_stacks C hK hT m124 dX3_requireRow_1 ?_
  refine gx_iload_n C dX3_requireRow_4 rfl ?_
  refine gx_cVi (n := 1) (q0 := 7) C hK (c_X2_hasRow (l := l) (D := D) (cI := cI) (cG := cG) (cL := cL) (ad := ad) (n := n) (t := t) (B := B) (u := u) (g := g) (x := x)) yW_fst (bgV hT m145 m146 m147 m4 m148) rfl rfl rfl (by decide +kernel) ⟨Nat.le_of_ble_eq_true rfl, Nat.le_of_ble_eq_true rfl⟩ rfl rfl rfl rfl (Nat.le_of_ble_eq_true rfl) (Nat.zero_le _) (Nat.zero_le _) dX3_requireRow_5 ?_
  refine gx_if_ne (tgt := 21) C dX3_requireRow_8 (by decide) (fun c_8 => ?_) (fun c => absurd c (by rw [hB]; decide))
  exact gx_vret C hRt hlocks dX3_requireRow_21 rfl
set_option maxHeartbeats 4000000 in
set_option maxRecDepth 100000 in
/-- countOfRow -/
theorem c_X3_countOfRow {l : Launch} {D : va_G} {cI cG cL : ClassId} {ad : Nat → Nat} {n t : Nat} {B : Int32} {u g : Nat → Nat → Int32} {x : Int32} (hOK : yOK n t u g) : gx_M l yX3_countOfRow wsX3_countOfRow ({ frames := 1, cells := 0, slots := 0, locals := 23 }) D vwCl (gT cI cG cL) [.ref (ad 0), .int x] (yW cI cG ad n t B u g) (yW cI cG ad n t B u g) (some (.int (yCR n u g x))) := by
  refine gx_ofG (cc := cX3_countOfRow) (maxL := 3) (ret := (some .int)) [some (.ref (ad 0)), some (.int x), none] (by decide) rfl rfl (Nat.le_of_ble_eq_true rfl) rfl ?_
  intro p e s m args below meth c C hRt hlocks hK
  have C : CallFix p m c cX3_countOfRow 3 s args (wsX3_countOfRow) RX3 := C
  have hT : ∀ w ∈ bigW, w ∈ wsX3_countOfRow := bgT
  have hn := hOK.hn
  have ht := hOK.ht
  refine gx_iload_n C dX3_countOfRow_0 rfl ?_
  refine gx_bipush (v := 20) C dX3_countOfRow_1 (by decide) ?_
  refine gx_icmp_lt (tgt := 12) C dX3_countOfRow_3 (by decide) (fun c_3 => ?_) (fun c_3 => ?_)
  · refine gx_iconst (v := (-1)) C dX3_countOfRow_12 (by decide) ?_
    exact gx_iret C hRt hlocks dX3_countOfRow_13 (by rw [yCR, if_pos (Or.inl c_3)]) rfl
  · refine gx_iload_n C dX3_countOfRow_6 rfl ?_
    refine gx_bipush (v := 100) C dX3_countOfRow_7 (by decide) ?_
    refine gx_icmp_lt (tgt := 14) C dX3_countOfRow_9 (by decide) (fun c_9 => ?_) (fun c_9 => ?_)
    · obtain ⟨k, hk1, hk2, ek⟩ := y_20 c_3 c_9
      subst ek
      refine gx_iload_n C dX3_countOfRow_14 rfl ?_
      refine gx_bipush (v := 20) C dX3_countOfRow_15 (by decide) ?_
      refine gx_irem C dX3_countOfRow_17 (by decide) ?_
      rw [show nI k - nI k / 20 * 20 = nI (k % 20) from pk_rem (d := 20) (by omega) (by decide) (by decide)]
      refine gx_istore_n (lv2 := [some _, some _, some _]) C dX3_countOfRow_18 (by decide) rfl ?_
      refine gx_aload_n C dX3_countOfRow_19 rfl ?_
      refine yg_X3_stacks C hK hT m124 dX3_countOfRow_20 ?_
      refine gx_iload_n C dX3_countOfRow_23 rfl ?_
      refine gx_cVi (n := 1) (q0 := 7) C hK (c_X2_hasRow (l := l) (D := D) (cI := cI) (cG := cG) (cL := cL) (ad := ad) (n := n) (t := t) (B := B) (u := u) (g := g) (x := nI (k % 20))) yW_fst (bgV hT m145 m146 m147 m4 m148) rfl rfl rfl (by decide +kernel) ⟨Nat.le_of_ble_eq_true rfl, Nat.le_of_ble_eq_true rfl⟩ rfl rfl rfl rfl (Nat.le_of_ble_eq_true rfl) (Nat.zero_le _) (Nat.zero_le _) dX3_countOfRow_24 ?_
      refine gx_if_ne (tgt := 32) C dX3_countOfRow_27 (by decide) (fun c_27 => ?_) (fun c_27 => ?_)
      · have hr : k % 20 < n := yRow_lt hn (by omega) (bI_t c_27)
        refine gx_iload_n C dX3_countOfRow_32 rfl ?_
        refine gx_bipush (v := 20) C dX3_countOfRow_33 (by decide) ?_
        refine gx_idiv C dX3_countOfRow_35 (by decide) ?_
        rw [show nI k / 20 = nI (k / 20) from pk_div (d := 20) (by omega) (by decide) (by decide)]
        rcases (show k / 20 = 1 ∨ k / 20 = 2 ∨ k / 20 = 3 ∨ k / 20 = 4 by omega) with hd | hd | hd | hd <;> rw [hd]
        · refine gx_tabIn (tgt := 64) C dX3_countOfRow_36 (by decide) (by decide) rfl (by decide) ?_
          refine gx_aload_n C dX3_countOfRow_64 rfl ?_
          refine yg_X3_stacks C hK hT m124 dX3_countOfRow_65 ?_
          refine yg_X2_heights C hK hT m81 dX3_countOfRow_68 ?_
          refine gx_iload_n C dX3_countOfRow_71 rfl ?_
          refine yl_6 C hK rfl (by omega) (by omega) dX3_countOfRow_72 ?_
          exact gx_iret C hRt hlocks dX3_countOfRow_73 (by rw [yCR_some hk1 hk2 hr, hd]; rfl) rfl
        · refine gx_tabIn (tgt := 74) C dX3_countOfRow_36 (by decide) (by decide) rfl (by decide) ?_
          refine gx_aload_n C dX3_countOfRow_74 rfl ?_
          refine gx_iload_n C dX3_countOfRow_75 rfl ?_
          refine gx_cVi (n := 1) (q0 := 0) C hK (c_X3_weightOn (l := l) (D := D) (cI := cI) (cG := cG) (cL := cL) (ad := ad) (n := n) (t := t) (B := B) (u := u) (g := g) hOK hr) yW_fst (bgV hT m209 m211 slX3_weightOn m1 m212) rfl rfl rfl (by decide +kernel) ⟨Nat.le_of_ble_eq_true rfl, Nat.le_of_ble_eq_true rfl⟩ rfl rfl rfl rfl (Nat.le_of_ble_eq_true rfl) (Nat.zero_le _) (Nat.zero_le _) dX3_countOfRow_76 ?_
          exact gx_iret C hRt hlocks dX3_countOfRow_79 (by rw [yCR_some hk1 hk2 hr, hd]; rfl) rfl
        · refine gx_tabIn (tgt := 80) C dX3_countOfRow_36 (by decide) (by decide) rfl (by decide) ?_
          refine gx_aload_n C dX3_countOfRow_80 rfl ?_
          refine yg_X3_grounds C hK hT m126 dX3_countOfRow_81 ?_
          refine gx_iload_n C dX3_countOfRow_84 rfl ?_
          refine yl_11 C hK rfl (by omega) dX3_countOfRow_85 ?_
          exact gx_iret C hRt hlocks dX3_countOfRow_86 (by rw [yCR_some hk1 hk2 hr, hd]; rfl) rfl
        · refine gx_tabOut (tgt := 87) C dX3_countOfRow_36 (Or.inr (by decide)) (by decide) ?_
          refine gx_aload_n C dX3_countOfRow_87 rfl ?_
          refine yg_X3_reservedFor C hK hT m127 dX3_countOfRow_88 ?_
          refine gx_iload_n C dX3_countOfRow_91 rfl ?_
          refine yl_12 C hK rfl (by omega) dX3_countOfRow_92 ?_
          exact gx_iret C hRt hlocks dX3_countOfRow_93 (by rw [yCR_some hk1 hk2 hr, hd]; rfl) rfl
      · refine gx_iconst (v := (-1)) C dX3_countOfRow_30 (by decide) ?_
        exact gx_iret C hRt hlocks dX3_countOfRow_31 (by rw [yCR_none hk1 hk2 (yRow_nlt (by omega) hn (bI_f c_27))]) rfl
    · refine gx_iconst (v := (-1)) C dX3_countOfRow_12 (by decide) ?_
      exact gx_iret C hRt hlocks dX3_countOfRow_13 (by rw [yCR, if_pos (Or.inr (Int32.not_lt.mp c_9))]) rfl
end
section
theorem yOK_drop {n t : Nat} {u g : Nat → Nat → Int32} (h : yOK n t u g) : yOK n t (yDropU u) g := h
def yWhere (u g : Nat → Nat → Int32) (b k : Nat) : Int32 := match k with
  | 0 => u 7 b
  | 1 => u 8 b
  | 2 => yAb u b
  | 3 => bI (yWay u g b)
  | 4 => u 1 b
  | 5 => u 2 b
  | 6 => u 3 b
  | 7 => u 4 b
  | _ => u 5 b
def yCountK (n t : Nat) (B : Int32) (u g : Nat → Nat → Int32) (T k : Nat) : Int32 := match k with
  | 0 => nI n
  | 1 => nI t
  | 2 => B
  | 3 => u 0 0
  | 4 => ySum (fun r => u 6 r) n
  | 5 => u 0 1
  | 6 => nI (yCnt (fun b => yWay u g b) T)
  | _ => u 0 2
end
section
set_option maxHeartbeats 4000000 in
set_option maxRecDepth 100000 in
theorem lp_X3_moveOneAside {l : Launch} {D : va_G} {cI cG cL : ClassId} {ad : Nat → Nat} {n t : Nat} {B : Int32} {u g : Nat → Nat → Int32} {p : Program} {e : Env} {s : State} {m : MethodId} {args : Array Value} {below : List Frame} {meth : Method} {c : Code} {Q : State → Prop} (C : CallFix p m c cX3_moveOneAside 8 s args wsX3_moveOneAside RX3) (hT : ∀ w ∈ bigW, w ∈ wsX3_moveOneAside) (hK : va_K D vwCl (gT cI cG cL) s) (hOK : yOK n t u g) (hk : ∀ (x y z : Int32) (w4 w5 w6 w7 : Option Value), (x, y, z) = yPick n t B u g n → gx_G p l e (headSpec wsX3_moveOneAside ({ frames := 4, cells := 0, slots := 0, locals := 94 })).room s m args below meth c D vwCl (gx_in (yW cI cG ad n t B u g)) 8 0 0 Q (yW cI cG ad n t B u g) 101 [some (.ref (ad 0)), some (.int x), some (.int y), some (.int z), w4, w5, w6, w7] []) : ∀ (d j : Nat) (x y z : Int32) (w5 w6 w7 : Option Value), j + d = n → (x, y, z) = yPick n t B u g j → gx_G p l e (headSpec wsX3_moveOneAside ({ frames := 4, cells := 0, slots := 0, locals := 94 })).room s m args below meth c D vwCl (gx_in (yW cI cG ad n t B u g)) 8 0 0 Q (yW cI cG ad n t B u g) 9 [some (.ref (ad 0)), some (.int x), some (.int y), some (.int z), some (.int (nI j)), w5, w6, w7] [] := by
  intro d
  induction d with
  | zero =>
    intro j x y z w5 w6 w7 hj hx
    have hn := hOK.hn
    have ht := hOK.ht
    refine gx_iload C dX3_moveOneAside_9 rfl ?_
    refine gx_aload_n C dX3_moveOneAside_11 rfl ?_
    refine yg_X3_stacks C hK hT m124 dX3_moveOneAside_12 ?_
    refine yg_X2_rows C hK hT m75 dX3_moveOneAside_15 ?_
    refine gx_icmp_ge (tgt := 101) C dX3_moveOneAside_18 (by decide) (fun c_18 => ?_) (fun c => absurd (nI_le (by omega) (by omega)) c)
    exact hk _ _ _ _ _ _ _ (by have hj9 : j = n := (by omega); rw [hj9] at hx; exact hx)
  | succ d ih =>
    intro j x y z w5 w6 w7 hj hx
    have hn := hOK.hn
    have ht := hOK.ht
    refine gx_iload C dX3_moveOneAside_9 rfl ?_
    refine gx_aload_n C dX3_moveOneAside_11 rfl ?_
    refine yg_X3_stacks C hK hT m124 dX3_moveOneAside_12 ?_
    refine yg_X2_rows C hK hT m75 dX3_moveOneAside_15 ?_
    refine gx_icmp_ge (tgt := 101) C dX3_moveOneAside_18 (by decide) (fun c => absurd c (nI_ge (by omega) (by omega))) (fun c_18 => ?_)
    have hrj : j < n := by omega
    have hhj := hOK.hh hrj
    refine gx_aload_n C dX3_moveOneAside_21 rfl ?_
    refine yg_X3_stacks C hK hT m124 dX3_moveOneAside_22 ?_
    refine gx_iload C dX3_moveOneAside_25 rfl ?_
    refine gx_cVi (n := 1) (q0 := 7) C hK (c_X2_top (l := l) (D := D) (cI := cI) (cG := cG) (cL := cL) (ad := ad) (n := n) (t := t) (B := B) (u := u) (g := g) hOK hrj) yW_fst (bgV hT m358 m359 m360 m4 m361) rfl rfl rfl (by decide +kernel) ⟨Nat.le_of_ble_eq_true rfl, Nat.le_of_ble_eq_true rfl⟩ rfl rfl rfl rfl (Nat.le_of_ble_eq_true rfl) (Nat.zero_le _) (Nat.zero_le _) dX3_moveOneAside_27 ?_
    refine gx_istore (lv2 := [some _, some _, some _, some _, some _, some _, _, _]) C dX3_moveOneAside_30 (by decide) rfl ?_
    refine gx_iload C dX3_moveOneAside_32 rfl ?_
    refine gx_iconst (v := (-1)) C dX3_moveOneAside_34 (by decide) ?_
    refine gx_icmp_ne (tgt := 41) C dX3_moveOneAside_35 (by decide) (fun c_35 => ?_) (fun c_35 => ?_)
    · obtain ⟨h0, hq, eq⟩ := yTop_some hOK hrj c_35
      rw [eq]
      refine gx_aload_n C dX3_moveOneAside_41 rfl ?_
      refine gx_iload C dX3_moveOneAside_42 rfl ?_
      refine gx_iload C dX3_moveOneAside_44 rfl ?_
      refine gx_aload_n C dX3_moveOneAside_46 rfl ?_
      refine yg_X3_stacks C hK hT m124 dX3_moveOneAside_47 ?_
      refine yg_X2_tierOf C hK hT m85 dX3_moveOneAside_50 ?_
      refine gx_iload C dX3_moveOneAside_53 rfl ?_
      refine yl_8 C hK rfl (by omega) dX3_moveOneAside_55 ?_
      rw [hOK.hb8 hrj (show yH u j - 1 < yH u j by omega)]
      refine gx_cVi (n := 3) (q0 := 0) C hK (c_X3_soonerBelow (l := l) (D := D) (cI := cI) (cG := cG) (cL := cL) (ad := ad) (n := n) (t := t) (B := B) (u := u) (g := g) hOK hq hrj (show yH u j - 1 ≤ yH u j by omega)) yW_fst (bgV hT m201 m203 slX3_soonerBelow m1 m204) rfl rfl rfl (by decide +kernel) ⟨Nat.le_of_ble_eq_true rfl, Nat.le_of_ble_eq_true rfl⟩ rfl rfl rfl rfl (Nat.le_of_ble_eq_true rfl) (Nat.zero_le _) (Nat.zero_le _) dX3_moveOneAside_56 ?_
      refine gx_istore (lv2 := [some _, some _, some _, some _, some _, some _, some _, _]) C dX3_moveOneAside_59 (by decide) rfl ?_
      refine gx_iload C dX3_moveOneAside_61 rfl ?_
      refine gx_iload_n C dX3_moveOneAside_63 rfl ?_
      refine gx_icmp_le (tgt := 77) C dX3_moveOneAside_64 (by decide) (fun c_64 => ?_) (fun c_64 => ?_)
      · refine gx_iconst (v := (-1)) C dX3_moveOneAside_77 (by decide) ?_
        refine gx_istore (lv2 := [some _, some _, some _, some _, some _, some _, some _, some _]) C dX3_moveOneAside_78 (by decide) rfl ?_
        refine gx_iload C dX3_moveOneAside_80 rfl ?_
        refine gx_iconst (v := (-1)) C dX3_moveOneAside_82 (by decide) ?_
        refine gx_icmp_eq (tgt := 95) C dX3_moveOneAside_83 (by decide) (fun c_83 => ?_) (fun c => absurd c (by decide))
        refine gx_iincN (lv2 := [some _, some _, some _, some _, some _, some _, some _, some _]) C dX3_moveOneAside_95 rfl (by decide) rfl ?_
        refine gx_goto (tgt := 9) C dX3_moveOneAside_98 (by decide) ?_
        exact ih (j + 1) _ _ _ _ _ _ (by omega) (by rw [yPick]; rw [if_neg c_35, eq, nI_clamp (show yB g j (yH u j - 1) < 2 ^ 31 by omega), ← hx]; exact (if_neg (fun q => q.1 c_64)).symm)
      · refine gx_aload_n C dX3_moveOneAside_67 rfl ?_
        refine gx_iload C dX3_moveOneAside_68 rfl ?_
        refine gx_iconst (v := 1) C dX3_moveOneAside_70 (by decide) ?_
        refine gx_cVi (n := 2) (q0 := 0) C hK (c_X3_bestRow (l := l) (D := D) (cI := cI) (cG := cG) (cL := cL) (ad := ad) (n := n) (t := t) (B := B) (u := u) (g := g) (k := true) hOK hq) yW_fst (bgV hT m407 m409 slX3_bestRow m1 m410) rfl rfl rfl (by decide +kernel) ⟨Nat.le_of_ble_eq_true rfl, Nat.le_of_ble_eq_true rfl⟩ rfl rfl rfl rfl (Nat.le_of_ble_eq_true rfl) (Nat.zero_le _) (Nat.zero_le _) dX3_moveOneAside_71 ?_
        refine gx_goto (tgt := 78) C dX3_moveOneAside_74 (by decide) ?_
        refine gx_istore (lv2 := [some _, some _, some _, some _, some _, some _, some _, some _]) C dX3_moveOneAside_78 (by decide) rfl ?_
        refine gx_iload C dX3_moveOneAside_80 rfl ?_
        refine gx_iconst (v := (-1)) C dX3_moveOneAside_82 (by decide) ?_
        refine gx_icmp_eq (tgt := 95) C dX3_moveOneAside_83 (by decide) (fun c_83 => ?_) (fun c_83 => ?_)
        · refine gx_iincN (lv2 := [some _, some _, some _, some _, some _, some _, some _, some _]) C dX3_moveOneAside_95 rfl (by decide) rfl ?_
          refine gx_goto (tgt := 9) C dX3_moveOneAside_98 (by decide) ?_
          exact ih (j + 1) _ _ _ _ _ _ (by omega) (by rw [yPick]; rw [if_neg c_35, eq, nI_clamp (show yB g j (yH u j - 1) < 2 ^ 31 by omega), ← hx]; exact (if_neg (fun q => q.2 c_83)).symm)
        · refine gx_iload C dX3_moveOneAside_86 rfl ?_
          refine gx_istore_n (lv2 := [some _, some _, some _, some _, some _, some _, some _, some _]) C dX3_moveOneAside_88 (by decide) rfl ?_
          refine gx_iload C dX3_moveOneAside_89 rfl ?_
          refine gx_istore_n (lv2 := [some _, some _, some _, some _, some _, some _, some _, some _]) C dX3_moveOneAside_91 (by decide) rfl ?_
          refine gx_iload C dX3_moveOneAside_92 rfl ?_
          refine gx_istore_n (lv2 := [some _, some _, some _, some _, some _, some _, some _, some _]) C dX3_moveOneAside_94 (by decide) rfl ?_
          refine gx_iincN (lv2 := [some _, some _, some _, some _, some _, some _, some _, some _]) C dX3_moveOneAside_95 rfl (by decide) rfl ?_
          refine gx_goto (tgt := 9) C dX3_moveOneAside_98 (by decide) ?_
          exact ih (j + 1) _ _ _ _ _ _ (by omega) (by rw [yPick]; rw [if_neg c_35, eq, nI_clamp (show yB g j (yH u j - 1) < 2 ^ 31 by omega), ← hx]; exact (if_pos ⟨c_64, c_83⟩).symm)
    · refine gx_goto (tgt := 95) C dX3_moveOneAside_38 (by decide) ?_
      refine gx_iincN (lv2 := [some _, some _, some _, some _, some _, some _, _, _]) C dX3_moveOneAside_95 rfl (by decide) rfl ?_
      refine gx_goto (tgt := 9) C dX3_moveOneAside_98 (by decide) ?_
      exact ih (j + 1) _ _ _ _ _ _ (by omega) (by rw [yPick]; rw [if_pos c_35]; exact hx)
set_option maxHeartbeats 4000000 in
set_option maxRecDepth 100000 in
theorem c_X3_moveOneAside_go {l : Launch} {D : va_G} {cI cG cL : ClassId} {ad : Nat → Nat} {n t : Nat} {B : Int32} {u g : Nat → Nat → Int32} {b r r2 mk : Nat} {z0 : Int32} (hOK : yOK n t u g) (hp : yPick n t B u g n = (nI b, nI r2, z0)) (hb : b < 60) (hr : r < n) (hr2 : r2 < n) (e7 : u 7 b = nI r) (h0 : 0 < yH u r) (hne : r2 ≠ r) (h02 : yH u r2 < t) (hm : mk < 2 ^ 30) (e1 : u 0 1 = nI mk) : gx_M l yX3_moveOneAside wsX3_moveOneAside ({ frames := 4, cells := 0, slots := 0, locals := 94 }) D vwCl (gT cI cG cL) [.ref (ad 0)] (yW cI cG ad n t B u g) (yW cI cG ad n t B (yLayU (yLiftU (yKeepU u (mk % 100) b (u 7 b)) b r) b r2) (yLayG (yLiftU (yKeepU u (mk % 100) b (u 7 b)) b r) (yLiftG (yKeepU u (mk % 100) b (u 7 b)) g r) b r2)) (some (.int 1)) := by
  refine gx_ofG (cc := cX3_moveOneAside) (maxL := 8) (ret := (some .boolean)) [some (.ref (ad 0)), none, none, none, none, none, none, none] (by decide) rfl rfl (Nat.le_of_ble_eq_true rfl) rfl ?_
  intro p e s m args below meth c C hRt hlocks hK
  have C : CallFix p m c cX3_moveOneAside 8 s args (wsX3_moveOneAside) RX3 := C
  have hT : ∀ w ∈ bigW, w ∈ wsX3_moveOneAside := bgT
  refine gx_iconst (v := (-1)) C dX3_moveOneAside_0 (by decide) ?_
  refine gx_istore_n (lv2 := [some _, some _, none, none, none, none, none, none]) C dX3_moveOneAside_1 (by decide) rfl ?_
  refine gx_iconst (v := (-1)) C dX3_moveOneAside_2 (by decide) ?_
  refine gx_istore_n (lv2 := [some _, some _, some _, none, none, none, none, none]) C dX3_moveOneAside_3 (by decide) rfl ?_
  refine gx_iconst (v := 0) C dX3_moveOneAside_4 (by decide) ?_
  refine gx_istore_n (lv2 := [some _, some _, some _, some _, none, none, none, none]) C dX3_moveOneAside_5 (by decide) rfl ?_
  refine gx_iconst (v := 0) C dX3_moveOneAside_6 (by decide) ?_
  refine gx_istore (lv2 := [some _, some _, some _, some _, some _, none, none, none]) C dX3_moveOneAside_7 (by decide) rfl ?_
  refine lp_X3_moveOneAside C hT hK hOK (fun x y z w4 w5 w6 w7 hx => ?_) n 0 _ _ _ _ _ _ (by omega) rfl
  obtain ⟨rfl, rfl, rfl⟩ : x = nI b ∧ y = nI r2 ∧ z = z0 := by rw [hp] at hx; injection hx with h1 h2; injection h2 with h2 h3; exact ⟨h1, h2, h3⟩
  have hn := hOK.hn
  refine gx_iload_n C dX3_moveOneAside_101 rfl ?_
  refine gx_iconst (v := (-1)) C dX3_moveOneAside_102 (by decide) ?_
  refine gx_icmp_ne (tgt := 108) C dX3_moveOneAside_103 (by decide) (fun c_103 => ?_) (fun c => absurd c (y_m1 (by omega)))
  refine gx_aload_n C dX3_moveOneAside_108 rfl ?_
  refine gx_iload_n C dX3_moveOneAside_109 rfl ?_
  refine gx_iload_n C dX3_moveOneAside_110 rfl ?_
  refine gx_cVv (n := 2) (q0 := 0) C hK (c_X3_move_shift (l := l) (D := D) (cI := cI) (cG := cG) (cL := cL) (ad := ad) (n := n) (t := t) (B := B) (u := u) (g := g) hOK hb hr hr2 e7 h0 hne h02 hm e1) yW_fst (bgV hT m365 m367 slX3_move m1 m368) rfl rfl rfl (by decide +kernel) ⟨Nat.le_of_ble_eq_true rfl, Nat.le_of_ble_eq_true rfl⟩ rfl rfl rfl rfl (Nat.le_of_ble_eq_true rfl) (Nat.zero_le _) (Nat.zero_le _) dX3_moveOneAside_111 ?_
  refine gx_iconst (v := 1) C dX3_moveOneAside_114 (by decide) ?_
  exact gx_zret C hRt hlocks dX3_moveOneAside_115 rfl rfl rfl
set_option maxHeartbeats 4000000 in
set_option maxRecDepth 100000 in
theorem c_X3_moveOneAside_no {l : Launch} {D : va_G} {cI cG cL : ClassId} {ad : Nat → Nat} {n t : Nat} {B : Int32} {u g : Nat → Nat → Int32}  (hOK : yOK n t u g) (hp : (yPick n t B u g n).1 = -1) : gx_M l yX3_moveOneAside wsX3_moveOneAside ({ frames := 4, cells := 0, slots := 0, locals := 94 }) D vwCl (gT cI cG cL) [.ref (ad 0)] (yW cI cG ad n t B u g) (yW cI cG ad n t B u g) (some (.int 0)) := by
  refine gx_ofG (cc := cX3_moveOneAside) (maxL := 8) (ret := (some .boolean)) [some (.ref (ad 0)), none, none, none, none, none, none, none] (by decide) rfl rfl (Nat.le_of_ble_eq_true rfl) rfl ?_
  intro p e s m args below meth c C hRt hlocks hK
  have C : CallFix p m c cX3_moveOneAside 8 s args (wsX3_moveOneAside) RX3 := C
  have hT : ∀ w ∈ bigW, w ∈ wsX3_moveOneAside := bgT
  refine gx_iconst (v := (-1)) C dX3_moveOneAside_0 (by decide) ?_
  refine gx_istore_n (lv2 := [some _, some _, none, none, none, none, none, none]) C dX3_moveOneAside_1 (by decide) rfl ?_
  refine gx_iconst (v := (-1)) C dX3_moveOneAside_2 (by decide) ?_
  refine gx_istore_n (lv2 := [some _, some _, some _, none, none, none, none, none]) C dX3_moveOneAside_3 (by decide) rfl ?_
  refine gx_iconst (v := 0) C dX3_moveOneAside_4 (by decide) ?_
  refine gx_istore_n (lv2 := [some _, some _, some _, some _, none, none, none, none]) C dX3_moveOneAside_5 (by decide) rfl ?_
  refine gx_iconst (v := 0) C dX3_moveOneAside_6 (by decide) ?_
  refine gx_istore (lv2 := [some _, some _, some _, some _, some _, none, none, none]) C dX3_moveOneAside_7 (by decide) rfl ?_
  refine lp_X3_moveOneAside C hT hK hOK (fun x y z w4 w5 w6 w7 hx => ?_) n 0 _ _ _ _ _ _ (by omega) rfl
  refine gx_iload_n C dX3_moveOneAside_101 rfl ?_
  refine gx_iconst (v := (-1)) C dX3_moveOneAside_102 (by decide) ?_
  refine gx_icmp_ne (tgt := 108) C dX3_moveOneAside_103 (by decide) (fun c => absurd ((congrArg (fun q => q.1) hx).trans hp) c) (fun c_103 => ?_)
  refine gx_iconst (v := 0) C dX3_moveOneAside_106 (by decide) ?_
  exact gx_zret C hRt hlocks dX3_moveOneAside_107 rfl rfl rfl
set_option maxHeartbeats 4000000 in
set_option maxRecDepth 100000 in
theorem c_X3_box {l : Launch} {D : va_G} {cI cG cL : ClassId} {ad : Nat → Nat} {n t : Nat} {B : Int32} {u g : Nat → Nat → Int32} {x1 x2 x3 x4 x5 : Int32} {T : Nat} (h1 : yIn x1 1 3 = true) (h2 : yIn x2 1 40 = true) (h3 : yIn x3 0 1000 = true) (h4 : yIn x4 1 9 = true) (h5 : yIn x5 0 2 = true) (hT6 : T < 60) (e0 : u 0 0 = nI T) : gx_M l yX3_box wsX3_box ({ frames := 1, cells := 0, slots := 0, locals := 26 }) D vwCl (gT cI cG cL) [.ref (ad 0), .int x1, .int x2, .int x3, .int x4, .int x5] (yW cI cG ad n t B u g) (yW cI cG ad n t B (yTellU u T x1 x2 x3 x4 x5) g) (some (.int (nI T))) := by
  refine gx_ofG (cc := cX3_box) (maxL := 7) (ret := (some .int)) [some (.ref (ad 0)), some (.int x1), some (.int x2), some (.int x3), some (.int x4), some (.int x5), none] (by decide) rfl rfl (Nat.le_of_ble_eq_true rfl) rfl ?_
  intro p e s m args below meth c C hRt hlocks hK
  have C : CallFix p m c cX3_box 7 s args (wsX3_box) RX3 := C
  have hT : ∀ w ∈ bigW, w ∈ wsX3_box := bgT
  refine gx_iload_n C dX3_box_0 rfl ?_
  refine gx_iconst (v := 1) C dX3_box_1 (by decide) ?_
  refine gx_iconst (v := 3) C dX3_box_2 (by decide) ?_
  refine gx_cSi (n := 3) C hK (c_X3_isWithin (l := l) (D := D) (cI := cI) (cG := cG) (cL := cL) (v := x1) (a := 1) (b := 3)) (bgS hT m149 m150 m1 m151) rfl rfl rfl (by decide +kernel) ⟨Nat.le_of_ble_eq_true rfl, Nat.le_of_ble_eq_true rfl⟩ rfl rfl (Nat.le_of_ble_eq_true rfl) (Nat.zero_le _) (Nat.zero_le _) dX3_box_3 ?_
  refine gx_if_eq (tgt := 55) C dX3_box_6 (by decide) (fun c => absurd c (by rw [h1]; decide)) (fun c_6 => ?_)
  refine gx_iload_n C dX3_box_9 rfl ?_
  refine gx_iconst (v := 1) C dX3_box_10 (by decide) ?_
  refine gx_bipush (v := 40) C dX3_box_11 (by decide) ?_
  refine gx_cSi (n := 3) C hK (c_X3_isWithin (l := l) (D := D) (cI := cI) (cG := cG) (cL := cL) (v := x2) (a := 1) (b := 40)) (bgS hT m149 m150 m1 m151) rfl rfl rfl (by decide +kernel) ⟨Nat.le_of_ble_eq_true rfl, Nat.le_of_ble_eq_true rfl⟩ rfl rfl (Nat.le_of_ble_eq_true rfl) (Nat.zero_le _) (Nat.zero_le _) dX3_box_13 ?_
  refine gx_if_eq (tgt := 55) C dX3_box_16 (by decide) (fun c => absurd c (by rw [h2]; decide)) (fun c_16 => ?_)
  refine gx_iload_n C dX3_box_19 rfl ?_
  refine gx_iconst (v := 0) C dX3_box_20 (by decide) ?_
  refine gx_sipush (v := 1000) C dX3_box_21 (by decide) ?_
  refine gx_cSi (n := 3) C hK (c_X3_isWithin (l := l) (D := D) (cI := cI) (cG := cG) (cL := cL) (v := x3) (a := 0) (b := 1000)) (bgS hT m149 m150 m1 m151) rfl rfl rfl (by decide +kernel) ⟨Nat.le_of_ble_eq_true rfl, Nat.le_of_ble_eq_true rfl⟩ rfl rfl (Nat.le_of_ble_eq_true rfl) (Nat.zero_le _) (Nat.zero_le _) dX3_box_24 ?_
  refine gx_if_eq (tgt := 55) C dX3_box_27 (by decide) (fun c => absurd c (by rw [h3]; decide)) (fun c_27 => ?_)
  refine gx_iload C dX3_box_30 rfl ?_
  refine gx_iconst (v := 1) C dX3_box_32 (by decide) ?_
  refine gx_bipush (v := 9) C dX3_box_33 (by decide) ?_
  refine gx_cSi (n := 3) C hK (c_X3_isWithin (l := l) (D := D) (cI := cI) (cG := cG) (cL := cL) (v := x4) (a := 1) (b := 9)) (bgS hT m149 m150 m1 m151) rfl rfl rfl (by decide +kernel) ⟨Nat.le_of_ble_eq_true rfl, Nat.le_of_ble_eq_true rfl⟩ rfl rfl (Nat.le_of_ble_eq_true rfl) (Nat.zero_le _) (Nat.zero_le _) dX3_box_35 ?_
  refine gx_if_eq (tgt := 55) C dX3_box_38 (by decide) (fun c => absurd c (by rw [h4]; decide)) (fun c_38 => ?_)
  refine gx_iload C dX3_box_41 rfl ?_
  refine gx_iconst (v := 0) C dX3_box_43 (by decide) ?_
  refine gx_iconst (v := 2) C dX3_box_44 (by decide) ?_
  refine gx_cSi (n := 3) C hK (c_X3_isWithin (l := l) (D := D) (cI := cI) (cG := cG) (cL := cL) (v := x5) (a := 0) (b := 2)) (bgS hT m149 m150 m1 m151) rfl rfl rfl (by decide +kernel) ⟨Nat.le_of_ble_eq_true rfl, Nat.le_of_ble_eq_true rfl⟩ rfl rfl (Nat.le_of_ble_eq_true rfl) (Nat.zero_le _) (Nat.zero_le _) dX3_box_45 ?_
  refine gx_if_eq (tgt := 55) C dX3_box_48 (by decide) (fun c => absurd c (by rw [h5]; decide)) (fun c_48 => ?_)
  refine gx_iconst (v := 1) C dX3_box_51 (by decide) ?_
  refine gx_goto (tgt := 56) C dX3_box_52 (by decide) ?_
  refine gx_istore (lv2 := [some _, some _, some _, some _, some _, some _, some _]) C dX3_box_56 (by decide) rfl ?_
  refine gx_iload C dX3_box_58 rfl ?_
  refine gx_if_ne (tgt := 73) C dX3_box_60 (by decide) (fun c_60 => ?_) (fun c => absurd c (by decide))
  refine gx_aload_n C dX3_box_73 rfl ?_
  refine yg_X3_boxes C hK hT m123 dX3_box_74 ?_
  refine yg_X0_told C hK hT m48 dX3_box_77 ?_
  refine gx_bipush (v := 60) C dX3_box_80 (by decide) ?_
  rw [e0]
  refine gx_icmp_lt (tgt := 95) C dX3_box_82 (by decide) (fun c_82 => ?_) (fun c => absurd (nI_lt hT6 (by decide)) c)
  refine gx_aload_n C dX3_box_95 rfl ?_
  refine yg_X3_boxes C hK hT m123 dX3_box_96 ?_
  refine gx_iload_n C dX3_box_99 rfl ?_
  refine gx_iload_n C dX3_box_100 rfl ?_
  refine gx_iload_n C dX3_box_101 rfl ?_
  refine gx_iload C dX3_box_102 rfl ?_
  refine gx_iload C dX3_box_104 rfl ?_
  refine gx_cVi (n := 5) (q0 := 1) C hK (c_X0_tell (l := l) (D := D) (cI := cI) (cG := cG) (cL := cL) (ad := ad) (n := n) (t := t) (B := B) (u := u) (g := g) hT6 e0) yW_fst (bgV hT m309 m310 m311 m3 m312) rfl rfl rfl (by decide +kernel) ⟨Nat.le_of_ble_eq_true rfl, Nat.le_of_ble_eq_true rfl⟩ rfl rfl rfl rfl (Nat.le_of_ble_eq_true rfl) (Nat.zero_le _) (Nat.zero_le _) dX3_box_106 ?_
  exact gx_iret C hRt hlocks dX3_box_109 rfl rfl
set_option maxHeartbeats 4000000 in
set_option maxRecDepth 100000 in
theorem c_X3_ground {l : Launch} {D : va_G} {cI cG cL : ClassId} {ad : Nat → Nat} {n t : Nat} {B : Int32} {u g : Nat → Nat → Int32} {r : Nat} {x : Int32} (hn : n ≤ 16) (hr : r < n) (hx : yIn x 0 2 = true) (h6 : u 6 r = 0) : gx_M l yX3_ground wsX3_ground ({ frames := 1, cells := 0, slots := 0, locals := 22 }) D vwCl (gT cI cG cL) [.ref (ad 0), .int (nI r), .int x] (yW cI cG ad n t B u g) (yW cI cG ad n t B (mu u 11 r x) g) (some (.int 1)) := by
  refine gx_ofG (cc := cX3_ground) (maxL := 3) (ret := (some .boolean)) [some (.ref (ad 0)), some (.int (nI r)), some (.int x)] (by decide) rfl rfl (Nat.le_of_ble_eq_true rfl) rfl ?_
  intro p e s m args below meth c C hRt hlocks hK
  have C : CallFix p m c cX3_ground 3 s args (wsX3_ground) RX3 := C
  have hT : ∀ w ∈ bigW, w ∈ wsX3_ground := bgT
  refine gx_aload_n C dX3_ground_0 rfl ?_
  refine yg_X3_stacks C hK hT m124 dX3_ground_1 ?_
  refine gx_iload_n C dX3_ground_4 rfl ?_
  refine gx_cVi (n := 1) (q0 := 7) C hK (c_X2_hasRow (l := l) (D := D) (cI := cI) (cG := cG) (cL := cL) (ad := ad) (n := n) (t := t) (B := B) (u := u) (g := g) (x := nI r)) yW_fst (bgV hT m145 m146 m147 m4 m148) rfl rfl rfl (by decide +kernel) ⟨Nat.le_of_ble_eq_true rfl, Nat.le_of_ble_eq_true rfl⟩ rfl rfl rfl rfl (Nat.le_of_ble_eq_true rfl) (Nat.zero_le _) (Nat.zero_le _) dX3_ground_5 ?_
  refine gx_if_eq (tgt := 32) C dX3_ground_8 (by decide) (fun c => absurd c (by rw [yRow_of hn hr]; decide)) (fun c_8 => ?_)
  refine gx_iload_n C dX3_ground_11 rfl ?_
  refine gx_iconst (v := 0) C dX3_ground_12 (by decide) ?_
  refine gx_iconst (v := 2) C dX3_ground_13 (by decide) ?_
  refine gx_cSi (n := 3) C hK (c_X3_isWithin (l := l) (D := D) (cI := cI) (cG := cG) (cL := cL) (v := x) (a := 0) (b := 2)) (bgS hT m149 m150 m1 m151) rfl rfl rfl (by decide +kernel) ⟨Nat.le_of_ble_eq_true rfl, Nat.le_of_ble_eq_true rfl⟩ rfl rfl (Nat.le_of_ble_eq_true rfl) (Nat.zero_le _) (Nat.zero_le _) dX3_ground_14 ?_
  refine gx_if_eq (tgt := 32) C dX3_ground_17 (by decide) (fun c => absurd c (by rw [hx]; decide)) (fun c_17 => ?_)
  refine gx_aload_n C dX3_ground_20 rfl ?_
  refine yg_X3_stacks C hK hT m124 dX3_ground_21 ?_
  refine yg_X2_heights C hK hT m81 dX3_ground_24 ?_
  refine gx_iload_n C dX3_ground_27 rfl ?_
  refine yl_6 C hK rfl (by omega) (by omega) dX3_ground_28 ?_
  refine gx_if_le (tgt := 34) C dX3_ground_29 (by decide) (fun c_29 => ?_) (fun c => absurd (by rw [h6]; decide) c)
  refine gx_aload_n C dX3_ground_34 rfl ?_
  refine yg_X3_grounds C hK hT m126 dX3_ground_35 ?_
  refine gx_iload_n C dX3_ground_38 rfl ?_
  refine gx_iload_n C dX3_ground_39 rfl ?_
  refine ys_11 C hK rfl (by omega) dX3_ground_40 ?_
  refine gx_iconst (v := 1) C dX3_ground_41 (by decide) ?_
  exact gx_zret C hRt hlocks dX3_ground_42 rfl rfl rfl
set_option maxHeartbeats 4000000 in
set_option maxRecDepth 100000 in
theorem c_X3_ground_no {l : Launch} {D : va_G} {cI cG cL : ClassId} {ad : Nat → Nat} {n t : Nat} {B : Int32} {u g : Nat → Nat → Int32} {x y : Int32} (hOK : yOK n t u g) (hF : ∀ r, r < n → y = nI r → yIn x 0 2 = true → ¬ u 6 r ≤ 0) : gx_M l yX3_ground wsX3_ground ({ frames := 1, cells := 0, slots := 0, locals := 22 }) D vwCl (gT cI cG cL) [.ref (ad 0), .int y, .int x] (yW cI cG ad n t B u g) (yW cI cG ad n t B u g) (some (.int 0)) := by
  refine gx_ofG (cc := cX3_ground) (maxL := 3) (ret := (some .boolean)) [some (.ref (ad 0)), some (.int y), some (.int x)] (by decide) rfl rfl (Nat.le_of_ble_eq_true rfl) rfl ?_
  intro p e s m args below meth c C hRt hlocks hK
  have C : CallFix p m c cX3_ground 3 s args (wsX3_ground) RX3 := C
  have hT : ∀ w ∈ bigW, w ∈ wsX3_ground := bgT
  have hn := hOK.hn
  have ht := hOK.ht
  refine gx_aload_n C dX3_ground_0 rfl ?_
  refine yg_X3_stacks C hK hT m124 dX3_ground_1 ?_
  refine gx_iload_n C dX3_ground_4 rfl ?_
  refine gx_cVi (n := 1) (q0 := 7) C hK (c_X2_hasRow (l := l) (D := D) (cI := cI) (cG := cG) (cL := cL) (ad := ad) (n := n) (t := t) (B := B) (u := u) (g := g) (x := y)) yW_fst (bgV hT m145 m146 m147 m4 m148) rfl rfl rfl (by decide +kernel) ⟨Nat.le_of_ble_eq_true rfl, Nat.le_of_ble_eq_true rfl⟩ rfl rfl rfl rfl (Nat.le_of_ble_eq_true rfl) (Nat.zero_le _) (Nat.zero_le _) dX3_ground_5 ?_
  refine gx_if_eq (tgt := 32) C dX3_ground_8 (by decide) (fun c_8 => ?_) (fun c_8 => ?_)
  · refine gx_iconst (v := 0) C dX3_ground_32 (by decide) ?_
    exact gx_zret C hRt hlocks dX3_ground_33 rfl rfl rfl
  · refine gx_iload_n C dX3_ground_11 rfl ?_
    refine gx_iconst (v := 0) C dX3_ground_12 (by decide) ?_
    refine gx_iconst (v := 2) C dX3_ground_13 (by decide) ?_
    refine gx_cSi (n := 3) C hK (c_X3_isWithin (l := l) (D := D) (cI := cI) (cG := cG) (cL := cL) (v := x) (a := 0) (b := 2)) (bgS hT m149 m150 m1 m151) rfl rfl rfl (by decide +kernel) ⟨Nat.le_of_ble_eq_true rfl, Nat.le_of_ble_eq_true rfl⟩ rfl rfl (Nat.le_of_ble_eq_true rfl) (Nat.zero_le _) (Nat.zero_le _) dX3_ground_14 ?_
    refine gx_if_eq (tgt := 32) C dX3_ground_17 (by decide) (fun c_17 => ?_) (fun c_17 => ?_)
    · refine gx_iconst (v := 0) C dX3_ground_32 (by decide) ?_
      exact gx_zret C hRt hlocks dX3_ground_33 rfl rfl rfl
    · obtain ⟨r, hr, ey⟩ := yRow_ex hn (bI_t c_8)
      subst ey
      refine gx_aload_n C dX3_ground_20 rfl ?_
      refine yg_X3_stacks C hK hT m124 dX3_ground_21 ?_
      refine yg_X2_heights C hK hT m81 dX3_ground_24 ?_
      refine gx_iload_n C dX3_ground_27 rfl ?_
      refine yl_6 C hK rfl (by omega) (by omega) dX3_ground_28 ?_
      refine gx_if_le (tgt := 34) C dX3_ground_29 (by decide) (fun c => absurd c (hF r hr rfl (bI_t c_17))) (fun c_29 => ?_)
      refine gx_iconst (v := 0) C dX3_ground_32 (by decide) ?_
      exact gx_zret C hRt hlocks dX3_ground_33 rfl rfl rfl
set_option maxHeartbeats 4000000 in
set_option maxRecDepth 100000 in
theorem c_X3_reserve {l : Launch} {D : va_G} {cI cG cL : ClassId} {ad : Nat → Nat} {n t : Nat} {B : Int32} {u g : Nat → Nat → Int32} {r : Nat} {x : Int32} (hOK : yOK n t u g) (hr : r < n) (hx : yIn x 0 9 = true) (hs : x = 0 ∨ yOther u g r x = false) : gx_M l yX3_reserve wsX3_reserve ({ frames := 1, cells := 0, slots := 0, locals := 23 }) D vwCl (gT cI cG cL) [.ref (ad 0), .int (nI r), .int x] (yW cI cG ad n t B u g) (yW cI cG ad n t B (mu u 12 r x) g) (some (.int 1)) := by
  refine gx_ofG (cc := cX3_reserve) (maxL := 3) (ret := (some .boolean)) [some (.ref (ad 0)), some (.int (nI r)), some (.int x)] (by decide) rfl rfl (Nat.le_of_ble_eq_true rfl) rfl ?_
  intro p e s m args below meth c C hRt hlocks hK
  have C : CallFix p m c cX3_reserve 3 s args (wsX3_reserve) RX3 := C
  have hT : ∀ w ∈ bigW, w ∈ wsX3_reserve := bgT
  have hn := hOK.hn
  have ht := hOK.ht
  refine gx_aload_n C dX3_reserve_0 rfl ?_
  refine yg_X3_stacks C hK hT m124 dX3_reserve_1 ?_
  refine gx_iload_n C dX3_reserve_4 rfl ?_
  refine gx_cVi (n := 1) (q0 := 7) C hK (c_X2_hasRow (l := l) (D := D) (cI := cI) (cG := cG) (cL := cL) (ad := ad) (n := n) (t := t) (B := B) (u := u) (g := g) (x := nI r)) yW_fst (bgV hT m145 m146 m147 m4 m148) rfl rfl rfl (by decide +kernel) ⟨Nat.le_of_ble_eq_true rfl, Nat.le_of_ble_eq_true rfl⟩ rfl rfl rfl rfl (Nat.le_of_ble_eq_true rfl) (Nat.zero_le _) (Nat.zero_le _) dX3_reserve_5 ?_
  refine gx_if_eq (tgt := 21) C dX3_reserve_8 (by decide) (fun c => absurd c (by rw [yRow_of hn hr]; decide)) (fun c_8 => ?_)
  refine gx_iload_n C dX3_reserve_11 rfl ?_
  refine gx_iconst (v := 0) C dX3_reserve_12 (by decide) ?_
  refine gx_bipush (v := 9) C dX3_reserve_13 (by decide) ?_
  refine gx_cSi (n := 3) C hK (c_X3_isWithin (l := l) (D := D) (cI := cI) (cG := cG) (cL := cL) (v := x) (a := 0) (b := 9)) (bgS hT m149 m150 m1 m151) rfl rfl rfl (by decide +kernel) ⟨Nat.le_of_ble_eq_true rfl, Nat.le_of_ble_eq_true rfl⟩ rfl rfl (Nat.le_of_ble_eq_true rfl) (Nat.zero_le _) (Nat.zero_le _) dX3_reserve_15 ?_
  refine gx_if_ne (tgt := 23) C dX3_reserve_18 (by decide) (fun c_18 => ?_) (fun c => absurd c (by rw [hx]; decide))
  refine gx_iload_n C dX3_reserve_23 rfl ?_
  refine gx_if_eq (tgt := 38) C dX3_reserve_24 (by decide) (fun c_24 => ?_) (fun c_24 => ?_)
  · refine gx_aload_n C dX3_reserve_38 rfl ?_
    refine yg_X3_reservedFor C hK hT m127 dX3_reserve_39 ?_
    refine gx_iload_n C dX3_reserve_42 rfl ?_
    refine gx_iload_n C dX3_reserve_43 rfl ?_
    refine ys_12 C hK rfl (by omega) dX3_reserve_44 ?_
    refine gx_iconst (v := 1) C dX3_reserve_45 (by decide) ?_
    exact gx_zret C hRt hlocks dX3_reserve_46 rfl rfl rfl
  · refine gx_aload_n C dX3_reserve_27 rfl ?_
    refine gx_iload_n C dX3_reserve_28 rfl ?_
    refine gx_iload_n C dX3_reserve_29 rfl ?_
    refine gx_cVi (n := 2) (q0 := 0) C hK (c_X3_hasBoxOfAnotherShip (l := l) (D := D) (cI := cI) (cG := cG) (cL := cL) (ad := ad) (n := n) (t := t) (B := B) (u := u) (g := g) (x := x) hOK hr) yW_fst (bgV hT m156 m158 slX3_hasBoxOfAnotherShip m1 m159) rfl rfl rfl (by decide +kernel) ⟨Nat.le_of_ble_eq_true rfl, Nat.le_of_ble_eq_true rfl⟩ rfl rfl rfl rfl (Nat.le_of_ble_eq_true rfl) (Nat.zero_le _) (Nat.zero_le _) dX3_reserve_30 ?_
    refine gx_if_eq (tgt := 38) C dX3_reserve_33 (by decide) (fun c_33 => ?_) (fun c => absurd (bI_0.mpr (hs.resolve_left c_24)) c)
    refine gx_aload_n C dX3_reserve_38 rfl ?_
    refine yg_X3_reservedFor C hK hT m127 dX3_reserve_39 ?_
    refine gx_iload_n C dX3_reserve_42 rfl ?_
    refine gx_iload_n C dX3_reserve_43 rfl ?_
    refine ys_12 C hK rfl (by omega) dX3_reserve_44 ?_
    refine gx_iconst (v := 1) C dX3_reserve_45 (by decide) ?_
    exact gx_zret C hRt hlocks dX3_reserve_46 rfl rfl rfl
set_option maxHeartbeats 4000000 in
set_option maxRecDepth 100000 in
theorem c_X3_reserve_no {l : Launch} {D : va_G} {cI cG cL : ClassId} {ad : Nat → Nat} {n t : Nat} {B : Int32} {u g : Nat → Nat → Int32} {x y : Int32} (hOK : yOK n t u g) (hF : ∀ r, r < n → y = nI r → yIn x 0 9 = true → ¬ x = 0 ∧ yOther u g r x = true) : gx_M l yX3_reserve wsX3_reserve ({ frames := 1, cells := 0, slots := 0, locals := 23 }) D vwCl (gT cI cG cL) [.ref (ad 0), .int y, .int x] (yW cI cG ad n t B u g) (yW cI cG ad n t B u g) (some (.int 0)) := by
  refine gx_ofG (cc := cX3_reserve) (maxL := 3) (ret := (some .boolean)) [some (.ref (ad 0)), some (.int y), some (.int x)] (by decide) rfl rfl (Nat.le_of_ble_eq_true rfl) rfl ?_
  intro p e s m args below meth c C hRt hlocks hK
  have C : CallFix p m c cX3_reserve 3 s args (wsX3_reserve) RX3 := C
  have hT : ∀ w ∈ bigW, w ∈ wsX3_reserve := bgT
  have hn := hOK.hn
  have ht := hOK.ht
  refine gx_aload_n C dX3_reserve_0 rfl ?_
  refine yg_X3_stacks C hK hT m124 dX3_reserve_1 ?_
  refine gx_iload_n C dX3_reserve_4 rfl ?_
  refine gx_cVi (n := 1) (q0 := 7) C hK (c_X2_hasRow (l := l) (D := D) (cI := cI) (cG := cG) (cL := cL) (ad := ad) (n := n) (t := t) (B := B) (u := u) (g := g) (x := y)) yW_fst (bgV hT m145 m146 m147 m4 m148) rfl rfl rfl (by decide +kernel) ⟨Nat.le_of_ble_eq_true rfl, Nat.le_of_ble_eq_true rfl⟩ rfl rfl rfl rfl (Nat.le_of_ble_eq_true rfl) (Nat.zero_le _) (Nat.zero_le _) dX3_reserve_5 ?_
  refine gx_if_eq (tgt := 21) C dX3_reserve_8 (by decide) (fun c_8 => ?_) (fun c_8 => ?_)
  · refine gx_iconst (v := 0) C dX3_reserve_21 (by decide) ?_
    exact gx_zret C hRt hlocks dX3_reserve_22 rfl rfl rfl
  · refine gx_iload_n C dX3_reserve_11 rfl ?_
    refine gx_iconst (v := 0) C dX3_reserve_12 (by decide) ?_
    refine gx_bipush (v := 9) C dX3_reserve_13 (by decide) ?_
    refine gx_cSi (n := 3) C hK (c_X3_isWithin (l := l) (D := D) (cI := cI) (cG := cG) (cL := cL) (v := x) (a := 0) (b := 9)) (bgS hT m149 m150 m1 m151) rfl rfl rfl (by decide +kernel) ⟨Nat.le_of_ble_eq_true rfl, Nat.le_of_ble_eq_true rfl⟩ rfl rfl (Nat.le_of_ble_eq_true rfl) (Nat.zero_le _) (Nat.zero_le _) dX3_reserve_15 ?_
    refine gx_if_ne (tgt := 23) C dX3_reserve_18 (by decide) (fun c_18 => ?_) (fun c_18 => ?_)
    · obtain ⟨r, hr, ey⟩ := yRow_ex hn (bI_t c_8)
      subst ey
      obtain ⟨hF1, hF2⟩ := hF r hr rfl (bI_t c_18)
      refine gx_iload_n C dX3_reserve_23 rfl ?_
      refine gx_if_eq (tgt := 38) C dX3_reserve_24 (by decide) (fun c => absurd c hF1) (fun c_24 => ?_)
      refine gx_aload_n C dX3_reserve_27 rfl ?_
      refine gx_iload_n C dX3_reserve_28 rfl ?_
      refine gx_iload_n C dX3_reserve_29 rfl ?_
      refine gx_cVi (n := 2) (q0 := 0) C hK (c_X3_hasBoxOfAnotherShip (l := l) (D := D) (cI := cI) (cG := cG) (cL := cL) (ad := ad) (n := n) (t := t) (B := B) (u := u) (g := g) (x := x) hOK hr) yW_fst (bgV hT m156 m158 slX3_hasBoxOfAnotherShip m1 m159) rfl rfl rfl (by decide +kernel) ⟨Nat.le_of_ble_eq_true rfl, Nat.le_of_ble_eq_true rfl⟩ rfl rfl rfl rfl (Nat.le_of_ble_eq_true rfl) (Nat.zero_le _) (Nat.zero_le _) dX3_reserve_30 ?_
      refine gx_if_eq (tgt := 38) C dX3_reserve_33 (by decide) (fun c => absurd c (by rw [hF2]; decide)) (fun c_33 => ?_)
      refine gx_iconst (v := 0) C dX3_reserve_36 (by decide) ?_
      exact gx_zret C hRt hlocks dX3_reserve_37 rfl rfl rfl
    · refine gx_iconst (v := 0) C dX3_reserve_21 (by decide) ?_
      exact gx_zret C hRt hlocks dX3_reserve_22 rfl rfl rfl
set_option maxHeartbeats 4000000 in
set_option maxRecDepth 100000 in
theorem c_X3_put {l : Launch} {D : va_G} {cI cG cL : ClassId} {ad : Nat → Nat} {n t : Nat} {B : Int32} {u g : Nat → Nat → Int32} {b r mk : Nat} (hOK : yOK n t u g) (hb : b < 60) (hB : yHas u (nI b) = true) (hr : r < n) (hs : u 7 b = -1) (hz : yPutR t B u g b r = 0) (h0 : yH u r < t) (hm : mk < 2 ^ 30) (e1 : u 0 1 = nI mk) : gx_M l yX3_put wsX3_put ({ frames := 3, cells := 0, slots := 0, locals := 68 }) D vwCl (gT cI cG cL) [.ref (ad 0), .int (nI b), .int (nI r)] (yW cI cG ad n t B u g) (yW cI cG ad n t B (yLayU (yKeepU u (mk % 100) b (u 7 b)) b r) (yLayG (yKeepU u (mk % 100) b (u 7 b)) g b r)) (some (.int 1)) := by
  refine gx_ofG (cc := cX3_put) (maxL := 4) (ret := (some .int)) [some (.ref (ad 0)), some (.int (nI b)), some (.int (nI r)), none] (by decide) rfl rfl (Nat.le_of_ble_eq_true rfl) rfl ?_
  intro p e s m args below meth c C hRt hlocks hK
  have C : CallFix p m c cX3_put 4 s args (wsX3_put) RX3 := C
  have hT : ∀ w ∈ bigW, w ∈ wsX3_put := bgT
  have hn := hOK.hn
  have ht := hOK.ht
  refine gx_aload_n C dX3_put_0 rfl ?_
  refine gx_iload_n C dX3_put_1 rfl ?_
  refine gx_cVv (n := 1) (q0 := 0) C hK (c_X3_requireBox (l := l) (D := D) (cI := cI) (cG := cG) (cL := cL) (ad := ad) (n := n) (t := t) (B := B) (u := u) (g := g) (x := nI b) hB) yW_fst (bgV hT m321 m323 slX3_requireBox m1 m324) rfl rfl rfl (by decide +kernel) ⟨Nat.le_of_ble_eq_true rfl, Nat.le_of_ble_eq_true rfl⟩ rfl rfl rfl rfl (Nat.le_of_ble_eq_true rfl) (Nat.zero_le _) (Nat.zero_le _) dX3_put_2 ?_
  refine gx_aload_n C dX3_put_5 rfl ?_
  refine gx_iload_n C dX3_put_6 rfl ?_
  refine gx_cVv (n := 1) (q0 := 0) C hK (c_X3_requireRow (l := l) (D := D) (cI := cI) (cG := cG) (cL := cL) (ad := ad) (n := n) (t := t) (B := B) (u := u) (g := g) (x := nI r) (yRow_of hn hr)) yW_fst (bgV hT m345 m347 slX3_requireRow m1 m348) rfl rfl rfl (by decide +kernel) ⟨Nat.le_of_ble_eq_true rfl, Nat.le_of_ble_eq_true rfl⟩ rfl rfl rfl rfl (Nat.le_of_ble_eq_true rfl) (Nat.zero_le _) (Nat.zero_le _) dX3_put_7 ?_
  refine gx_aload_n C dX3_put_10 rfl ?_
  refine gx_iload_n C dX3_put_11 rfl ?_
  refine gx_iload_n C dX3_put_12 rfl ?_
  refine gx_cVi (n := 2) (q0 := 0) C hK (c_X3_ruleBrokenByPut (l := l) (D := D) (cI := cI) (cG := cG) (cL := cL) (ad := ad) (n := n) (t := t) (B := B) (u := u) (g := g) hOK hb hr) yW_fst (bgV hT m350 m352 slX3_ruleBrokenByPut m1 m353) rfl rfl rfl (by decide +kernel) ⟨Nat.le_of_ble_eq_true rfl, Nat.le_of_ble_eq_true rfl⟩ rfl rfl rfl rfl (Nat.le_of_ble_eq_true rfl) (Nat.zero_le _) (Nat.zero_le _) dX3_put_13 ?_
  refine gx_istore_n (lv2 := [some _, some _, some _, some _]) C dX3_put_16 (by decide) rfl ?_
  refine gx_iload_n C dX3_put_17 rfl ?_
  refine gx_if_eq (tgt := 24) C dX3_put_18 (by decide) (fun c_18 => ?_) (fun c => absurd hz c)
  refine gx_aload_n C dX3_put_24 rfl ?_
  refine gx_iload_n C dX3_put_25 rfl ?_
  refine gx_iload_n C dX3_put_26 rfl ?_
  refine gx_cVv (n := 2) (q0 := 0) C hK (c_X3_move_put (l := l) (D := D) (cI := cI) (cG := cG) (cL := cL) (ad := ad) (n := n) (t := t) (B := B) (u := u) (g := g) hOK hb hr hs h0 hm e1) yW_fst (bgV hT m365 m367 slX3_move m1 m368) rfl rfl rfl (by decide +kernel) ⟨Nat.le_of_ble_eq_true rfl, Nat.le_of_ble_eq_true rfl⟩ rfl rfl rfl rfl (Nat.le_of_ble_eq_true rfl) (Nat.zero_le _) (Nat.zero_le _) dX3_put_27 ?_
  refine gx_iconst (v := 1) C dX3_put_30 (by decide) ?_
  exact gx_iret C hRt hlocks dX3_put_31 rfl rfl
set_option maxHeartbeats 4000000 in
set_option maxRecDepth 100000 in
theorem c_X3_put_no {l : Launch} {D : va_G} {cI cG cL : ClassId} {ad : Nat → Nat} {n t : Nat} {B : Int32} {u g : Nat → Nat → Int32} {b r : Nat} (hOK : yOK n t u g) (hb : b < 60) (hB : yHas u (nI b) = true) (hr : r < n) (hz : ¬ yPutR t B u g b r = 0) : gx_M l yX3_put wsX3_put ({ frames := 3, cells := 0, slots := 0, locals := 68 }) D vwCl (gT cI cG cL) [.ref (ad 0), .int (nI b), .int (nI r)] (yW cI cG ad n t B u g) (yW cI cG ad n t B u g) (some (.int (-yPutR t B u g b r))) := by
  refine gx_ofG (cc := cX3_put) (maxL := 4) (ret := (some .int)) [some (.ref (ad 0)), some (.int (nI b)), some (.int (nI r)), none] (by decide) rfl rfl (Nat.le_of_ble_eq_true rfl) rfl ?_
  intro p e s m args below meth c C hRt hlocks hK
  have C : CallFix p m c cX3_put 4 s args (wsX3_put) RX3 := C
  have hT : ∀ w ∈ bigW, w ∈ wsX3_put := bgT
  have hn := hOK.hn
  have ht := hOK.ht
  refine gx_aload_n C dX3_put_0 rfl ?_
  refine gx_iload_n C dX3_put_1 rfl ?_
  refine gx_cVv (n := 1) (q0 := 0) C hK (c_X3_requireBox (l := l) (D := D) (cI := cI) (cG := cG) (cL := cL) (ad := ad) (n := n) (t := t) (B := B) (u := u) (g := g) (x := nI b) hB) yW_fst (bgV hT m321 m323 slX3_requireBox m1 m324) rfl rfl rfl (by decide +kernel) ⟨Nat.le_of_ble_eq_true rfl, Nat.le_of_ble_eq_true rfl⟩ rfl rfl rfl rfl (Nat.le_of_ble_eq_true rfl) (Nat.zero_le _) (Nat.zero_le _) dX3_put_2 ?_
  refine gx_aload_n C dX3_put_5 rfl ?_
  refine gx_iload_n C dX3_put_6 rfl ?_
  refine gx_cVv (n := 1) (q0 := 0) C hK (c_X3_requireRow (l := l) (D := D) (cI := cI) (cG := cG) (cL := cL) (ad := ad) (n := n) (t := t) (B := B) (u := u) (g := g) (x := nI r) (yRow_of hn hr)) yW_fst (bgV hT m345 m347 slX3_requireRow m1 m348) rfl rfl rfl (by decide +kernel) ⟨Nat.le_of_ble_eq_true rfl, Nat.le_of_ble_eq_true rfl⟩ rfl rfl rfl rfl (Nat.le_of_ble_eq_true rfl) (Nat.zero_le _) (Nat.zero_le _) dX3_put_7 ?_
  refine gx_aload_n C dX3_put_10 rfl ?_
  refine gx_iload_n C dX3_put_11 rfl ?_
  refine gx_iload_n C dX3_put_12 rfl ?_
  refine gx_cVi (n := 2) (q0 := 0) C hK (c_X3_ruleBrokenByPut (l := l) (D := D) (cI := cI) (cG := cG) (cL := cL) (ad := ad) (n := n) (t := t) (B := B) (u := u) (g := g) hOK hb hr) yW_fst (bgV hT m350 m352 slX3_ruleBrokenByPut m1 m353) rfl rfl rfl (by decide +kernel) ⟨Nat.le_of_ble_eq_true rfl, Nat.le_of_ble_eq_true rfl⟩ rfl rfl rfl rfl (Nat.le_of_ble_eq_true rfl) (Nat.zero_le _) (Nat.zero_le _) dX3_put_13 ?_
  refine gx_istore_n (lv2 := [some _, some _, some _, some _]) C dX3_put_16 (by decide) rfl ?_
  refine gx_iload_n C dX3_put_17 rfl ?_
  refine gx_if_eq (tgt := 24) C dX3_put_18 (by decide) (fun c => absurd c hz) (fun c_18 => ?_)
  refine gx_iload_n C dX3_put_21 rfl ?_
  refine gx_ineg C dX3_put_22 ?_
  exact gx_iret C hRt hlocks dX3_put_23 rfl rfl
set_option maxHeartbeats 4000000 in
set_option maxRecDepth 100000 in
theorem c_X3_take {l : Launch} {D : va_G} {cI cG cL : ClassId} {ad : Nat → Nat} {n t : Nat} {B : Int32} {u g : Nat → Nat → Int32} {b r mk : Nat} (hOK : yOK n t u g) (hb : b < 60) (hB : yHas u (nI b) = true) (ho : yOn u b = true) (hr : r < n) (e7 : u 7 b = nI r) (h0 : 0 < yH u r) (hm : mk < 2 ^ 30) (e1 : u 0 1 = nI mk) : gx_M l yX3_take wsX3_take ({ frames := 3, cells := 0, slots := 0, locals := 66 }) D vwCl (gT cI cG cL) [.ref (ad 0), .int (nI b)] (yW cI cG ad n t B u g) (yW cI cG ad n t B (yLiftU (yKeepU u (mk % 100) b (u 7 b)) b r) (yLiftG (yKeepU u (mk % 100) b (u 7 b)) g r)) (some (.int 1)) := by
  refine gx_ofG (cc := cX3_take) (maxL := 2) (ret := (some .int)) [some (.ref (ad 0)), some (.int (nI b))] (by decide) rfl rfl (Nat.le_of_ble_eq_true rfl) rfl ?_
  intro p e s m args below meth c C hRt hlocks hK
  have C : CallFix p m c cX3_take 2 s args (wsX3_take) RX3 := C
  have hT : ∀ w ∈ bigW, w ∈ wsX3_take := bgT
  refine gx_aload_n C dX3_take_0 rfl ?_
  refine gx_iload_n C dX3_take_1 rfl ?_
  refine gx_cVv (n := 1) (q0 := 0) C hK (c_X3_requireBox (l := l) (D := D) (cI := cI) (cG := cG) (cL := cL) (ad := ad) (n := n) (t := t) (B := B) (u := u) (g := g) (x := nI b) hB) yW_fst (bgV hT m321 m323 slX3_requireBox m1 m324) rfl rfl rfl (by decide +kernel) ⟨Nat.le_of_ble_eq_true rfl, Nat.le_of_ble_eq_true rfl⟩ rfl rfl rfl rfl (Nat.le_of_ble_eq_true rfl) (Nat.zero_le _) (Nat.zero_le _) dX3_take_2 ?_
  refine gx_aload_n C dX3_take_5 rfl ?_
  refine yg_X3_stacks C hK hT m124 dX3_take_6 ?_
  refine gx_iload_n C dX3_take_9 rfl ?_
  refine gx_cVi (n := 1) (q0 := 7) C hK (c_X2_isOnTop (l := l) (D := D) (cI := cI) (cG := cG) (cL := cL) (ad := ad) (n := n) (t := t) (B := B) (u := u) (g := g) hOK hb) yW_fst (bgV hT m381 m382 m383 m4 m384) rfl rfl rfl (by decide +kernel) ⟨Nat.le_of_ble_eq_true rfl, Nat.le_of_ble_eq_true rfl⟩ rfl rfl rfl rfl (Nat.le_of_ble_eq_true rfl) (Nat.zero_le _) (Nat.zero_le _) dX3_take_10 ?_
  refine gx_if_ne (tgt := 18) C dX3_take_13 (by decide) (fun c_13 => ?_) (fun c => absurd c (by rw [ho]; decide))
  refine gx_aload_n C dX3_take_18 rfl ?_
  refine gx_iload_n C dX3_take_19 rfl ?_
  refine gx_iconst (v := (-1)) C dX3_take_20 (by decide) ?_
  refine gx_cVv (n := 2) (q0 := 0) C hK (c_X3_move_take (l := l) (D := D) (cI := cI) (cG := cG) (cL := cL) (ad := ad) (n := n) (t := t) (B := B) (u := u) (g := g) hOK hb hr e7 h0 hm e1) yW_fst (bgV hT m365 m367 slX3_move m1 m368) rfl rfl rfl (by decide +kernel) ⟨Nat.le_of_ble_eq_true rfl, Nat.le_of_ble_eq_true rfl⟩ rfl rfl rfl rfl (Nat.le_of_ble_eq_true rfl) (Nat.zero_le _) (Nat.zero_le _) dX3_take_21 ?_
  refine gx_iconst (v := 1) C dX3_take_24 (by decide) ?_
  exact gx_iret C hRt hlocks dX3_take_25 rfl rfl
set_option maxHeartbeats 4000000 in
set_option maxRecDepth 100000 in
theorem c_X3_take_no {l : Launch} {D : va_G} {cI cG cL : ClassId} {ad : Nat → Nat} {n t : Nat} {B : Int32} {u g : Nat → Nat → Int32} {b : Nat} (hOK : yOK n t u g) (hb : b < 60) (hB : yHas u (nI b) = true) (ho : yOn u b = false) : gx_M l yX3_take wsX3_take ({ frames := 3, cells := 0, slots := 0, locals := 63 }) D vwCl (gT cI cG cL) [.ref (ad 0), .int (nI b)] (yW cI cG ad n t B u g) (yW cI cG ad n t B u g) (some (.int 0)) := by
  refine gx_ofG (cc := cX3_take) (maxL := 2) (ret := (some .int)) [some (.ref (ad 0)), some (.int (nI b))] (by decide) rfl rfl (Nat.le_of_ble_eq_true rfl) rfl ?_
  intro p e s m args below meth c C hRt hlocks hK
  have C : CallFix p m c cX3_take 2 s args (wsX3_take) RX3 := C
  have hT : ∀ w ∈ bigW, w ∈ wsX3_take := bgT
  refine gx_aload_n C dX3_take_0 rfl ?_
  refine gx_iload_n C dX3_take_1 rfl ?_
  refine gx_cVv (n := 1) (q0 := 0) C hK (c_X3_requireBox (l := l) (D := D) (cI := cI) (cG := cG) (cL := cL) (ad := ad) (n := n) (t := t) (B := B) (u := u) (g := g) (x := nI b) hB) yW_fst (bgV hT m321 m323 slX3_requireBox m1 m324) rfl rfl rfl (by decide +kernel) ⟨Nat.le_of_ble_eq_true rfl, Nat.le_of_ble_eq_true rfl⟩ rfl rfl rfl rfl (Nat.le_of_ble_eq_true rfl) (Nat.zero_le _) (Nat.zero_le _) dX3_take_2 ?_
  refine gx_aload_n C dX3_take_5 rfl ?_
  refine yg_X3_stacks C hK hT m124 dX3_take_6 ?_
  refine gx_iload_n C dX3_take_9 rfl ?_
  refine gx_cVi (n := 1) (q0 := 7) C hK (c_X2_isOnTop (l := l) (D := D) (cI := cI) (cG := cG) (cL := cL) (ad := ad) (n := n) (t := t) (B := B) (u := u) (g := g) hOK hb) yW_fst (bgV hT m381 m382 m383 m4 m384) rfl rfl rfl (by decide +kernel) ⟨Nat.le_of_ble_eq_true rfl, Nat.le_of_ble_eq_true rfl⟩ rfl rfl rfl rfl (Nat.le_of_ble_eq_true rfl) (Nat.zero_le _) (Nat.zero_le _) dX3_take_10 ?_
  refine gx_if_ne (tgt := 18) C dX3_take_13 (by decide) (fun c => absurd (bI_0.mpr ho) c) (fun c_13 => ?_)
  refine gx_iconst (v := 0) C dX3_take_16 (by decide) ?_
  exact gx_iret C hRt hlocks dX3_take_17 rfl rfl
set_option maxHeartbeats 4000000 in
set_option maxRecDepth 100000 in
theorem c_X3_shift {l : Launch} {D : va_G} {cI cG cL : ClassId} {ad : Nat → Nat} {n t : Nat} {B : Int32} {u g : Nat → Nat → Int32} {b r r2 mk : Nat} (hOK : yOK n t u g) (hb : b < 60) (hB : yHas u (nI b) = true) (ho : yOn u b = true) (hr : r < n) (hr2 : r2 < n) (e7 : u 7 b = nI r) (h0 : 0 < yH u r) (hne : r2 ≠ r) (h02 : yH u r2 < t) (hz : yShR t B u g b r2 = 0) (hm : mk < 2 ^ 30) (e1 : u 0 1 = nI mk) : gx_M l yX3_shift wsX3_shift ({ frames := 3, cells := 0, slots := 0, locals := 68 }) D vwCl (gT cI cG cL) [.ref (ad 0), .int (nI b), .int (nI r2)] (yW cI cG ad n t B u g) (yW cI cG ad n t B (yLayU (yLiftU (yKeepU u (mk % 100) b (u 7 b)) b r) b r2) (yLayG (yLiftU (yKeepU u (mk % 100) b (u 7 b)) b r) (yLiftG (yKeepU u (mk % 100) b (u 7 b)) g r) b r2)) (some (.int 1)) := by
  refine gx_ofG (cc := cX3_shift) (maxL := 4) (ret := (some .int)) [some (.ref (ad 0)), some (.int (nI b)), some (.int (nI r2)), none] (by decide) rfl rfl (Nat.le_of_ble_eq_true rfl) rfl ?_
  intro p e s m args below meth c C hRt hlocks hK
  have C : CallFix p m c cX3_shift 4 s args (wsX3_shift) RX3 := C
  have hT : ∀ w ∈ bigW, w ∈ wsX3_shift := bgT
  have hn := hOK.hn
  have ht := hOK.ht
  refine gx_aload_n C dX3_shift_0 rfl ?_
  refine gx_iload_n C dX3_shift_1 rfl ?_
  refine gx_cVv (n := 1) (q0 := 0) C hK (c_X3_requireBox (l := l) (D := D) (cI := cI) (cG := cG) (cL := cL) (ad := ad) (n := n) (t := t) (B := B) (u := u) (g := g) (x := nI b) hB) yW_fst (bgV hT m321 m323 slX3_requireBox m1 m324) rfl rfl rfl (by decide +kernel) ⟨Nat.le_of_ble_eq_true rfl, Nat.le_of_ble_eq_true rfl⟩ rfl rfl rfl rfl (Nat.le_of_ble_eq_true rfl) (Nat.zero_le _) (Nat.zero_le _) dX3_shift_2 ?_
  refine gx_aload_n C dX3_shift_5 rfl ?_
  refine gx_iload_n C dX3_shift_6 rfl ?_
  refine gx_cVv (n := 1) (q0 := 0) C hK (c_X3_requireRow (l := l) (D := D) (cI := cI) (cG := cG) (cL := cL) (ad := ad) (n := n) (t := t) (B := B) (u := u) (g := g) (x := nI r2) (yRow_of hn hr2)) yW_fst (bgV hT m345 m347 slX3_requireRow m1 m348) rfl rfl rfl (by decide +kernel) ⟨Nat.le_of_ble_eq_true rfl, Nat.le_of_ble_eq_true rfl⟩ rfl rfl rfl rfl (Nat.le_of_ble_eq_true rfl) (Nat.zero_le _) (Nat.zero_le _) dX3_shift_7 ?_
  refine gx_aload_n C dX3_shift_10 rfl ?_
  refine yg_X3_stacks C hK hT m124 dX3_shift_11 ?_
  refine gx_iload_n C dX3_shift_14 rfl ?_
  refine gx_cVi (n := 1) (q0 := 7) C hK (c_X2_isOnTop (l := l) (D := D) (cI := cI) (cG := cG) (cL := cL) (ad := ad) (n := n) (t := t) (B := B) (u := u) (g := g) hOK hb) yW_fst (bgV hT m381 m382 m383 m4 m384) rfl rfl rfl (by decide +kernel) ⟨Nat.le_of_ble_eq_true rfl, Nat.le_of_ble_eq_true rfl⟩ rfl rfl rfl rfl (Nat.le_of_ble_eq_true rfl) (Nat.zero_le _) (Nat.zero_le _) dX3_shift_15 ?_
  refine gx_if_ne (tgt := 23) C dX3_shift_18 (by decide) (fun c_18 => ?_) (fun c => absurd c (by rw [ho]; decide))
  refine gx_aload_n C dX3_shift_23 rfl ?_
  refine gx_iload_n C dX3_shift_24 rfl ?_
  refine gx_iload_n C dX3_shift_25 rfl ?_
  refine gx_cVi (n := 2) (q0 := 0) C hK (c_X3_ruleBrokenByShift (l := l) (D := D) (cI := cI) (cG := cG) (cL := cL) (ad := ad) (n := n) (t := t) (B := B) (u := u) (g := g) hOK hb hr2) yW_fst (bgV hT m396 m398 slX3_ruleBrokenByShift m1 m399) rfl rfl rfl (by decide +kernel) ⟨Nat.le_of_ble_eq_true rfl, Nat.le_of_ble_eq_true rfl⟩ rfl rfl rfl rfl (Nat.le_of_ble_eq_true rfl) (Nat.zero_le _) (Nat.zero_le _) dX3_shift_26 ?_
  refine gx_istore_n (lv2 := [some _, some _, some _, some _]) C dX3_shift_29 (by decide) rfl ?_
  refine gx_iload_n C dX3_shift_30 rfl ?_
  refine gx_if_eq (tgt := 37) C dX3_shift_31 (by decide) (fun c_31 => ?_) (fun c => absurd hz c)
  refine gx_aload_n C dX3_shift_37 rfl ?_
  refine gx_iload_n C dX3_shift_38 rfl ?_
  refine gx_iload_n C dX3_shift_39 rfl ?_
  refine gx_cVv (n := 2) (q0 := 0) C hK (c_X3_move_shift (l := l) (D := D) (cI := cI) (cG := cG) (cL := cL) (ad := ad) (n := n) (t := t) (B := B) (u := u) (g := g) hOK hb hr hr2 e7 h0 hne h02 hm e1) yW_fst (bgV hT m365 m367 slX3_move m1 m368) rfl rfl rfl (by decide +kernel) ⟨Nat.le_of_ble_eq_true rfl, Nat.le_of_ble_eq_true rfl⟩ rfl rfl rfl rfl (Nat.le_of_ble_eq_true rfl) (Nat.zero_le _) (Nat.zero_le _) dX3_shift_40 ?_
  refine gx_iconst (v := 1) C dX3_shift_43 (by decide) ?_
  exact gx_iret C hRt hlocks dX3_shift_44 rfl rfl
set_option maxHeartbeats 4000000 in
set_option maxRecDepth 100000 in
theorem c_X3_shift_no {l : Launch} {D : va_G} {cI cG cL : ClassId} {ad : Nat → Nat} {n t : Nat} {B : Int32} {u g : Nat → Nat → Int32} {b r2 : Nat} (hOK : yOK n t u g) (hb : b < 60) (hB : yHas u (nI b) = true) (ho : yOn u b = true) (hr2 : r2 < n) (hz : ¬ yShR t B u g b r2 = 0) : gx_M l yX3_shift wsX3_shift ({ frames := 3, cells := 0, slots := 0, locals := 68 }) D vwCl (gT cI cG cL) [.ref (ad 0), .int (nI b), .int (nI r2)] (yW cI cG ad n t B u g) (yW cI cG ad n t B u g) (some (.int (-yShR t B u g b r2))) := by
  refine gx_ofG (cc := cX3_shift) (maxL := 4) (ret := (some .int)) [some (.ref (ad 0)), some (.int (nI b)), some (.int (nI r2)), none] (by decide) rfl rfl (Nat.le_of_ble_eq_true rfl) rfl ?_
  intro p e s m args below meth c C hRt hlocks hK
  have C : CallFix p m c cX3_shift 4 s args (wsX3_shift) RX3 := C
  have hT : ∀ w ∈ bigW, w ∈ wsX3_shift := bgT
  have hn := hOK.hn
  have ht := hOK.ht
  refine gx_aload_n C dX3_shift_0 rfl ?_
  refine gx_iload_n C dX3_shift_1 rfl ?_
  refine gx_cVv (n := 1) (q0 := 0) C hK (c_X3_requireBox (l := l) (D := D) (cI := cI) (cG := cG) (cL := cL) (ad := ad) (n := n) (t := t) (B := B) (u := u) (g := g) (x := nI b) hB) yW_fst (bgV hT m321 m323 slX3_requireBox m1 m324) rfl rfl rfl (by decide +kernel) ⟨Nat.le_of_ble_eq_true rfl, Nat.le_of_ble_eq_true rfl⟩ rfl rfl rfl rfl (Nat.le_of_ble_eq_true rfl) (Nat.zero_le _) (Nat.zero_le _) dX3_shift_2 ?_
  refine gx_aload_n C dX3_shift_5 rfl ?_
  refine gx_iload_n C dX3_shift_6 rfl ?_
  refine gx_cVv (n := 1) (q0 := 0) C hK (c_X3_requireRow (l := l) (D := D) (cI := cI) (cG := cG) (cL := cL) (ad := ad) (n := n) (t := t) (B := B) (u := u) (g := g) (x := nI r2) (yRow_of hn hr2)) yW_fst (bgV hT m345 m347 slX3_requireRow m1 m348) rfl rfl rfl (by decide +kernel) ⟨Nat.le_of_ble_eq_true rfl, Nat.le_of_ble_eq_true rfl⟩ rfl rfl rfl rfl (Nat.le_of_ble_eq_true rfl) (Nat.zero_le _) (Nat.zero_le _) dX3_shift_7 ?_
  refine gx_aload_n C dX3_shift_10 rfl ?_
  refine yg_X3_stacks C hK hT m124 dX3_shift_11 ?_
  refine gx_iload_n C dX3_shift_14 rfl ?_
  refine gx_cVi (n := 1) (q0 := 7) C hK (c_X2_isOnTop (l := l) (D := D) (cI := cI) (cG := cG) (cL := cL) (ad := ad) (n := n) (t := t) (B := B) (u := u) (g := g) hOK hb) yW_fst (bgV hT m381 m382 m383 m4 m384) rfl rfl rfl (by decide +kernel) ⟨Nat.le_of_ble_eq_true rfl, Nat.le_of_ble_eq_true rfl⟩ rfl rfl rfl rfl (Nat.le_of_ble_eq_true rfl) (Nat.zero_le _) (Nat.zero_le _) dX3_shift_15 ?_
  refine gx_if_ne (tgt := 23) C dX3_shift_18 (by decide) (fun c_18 => ?_) (fun c => absurd c (by rw [ho]; decide))
  refine gx_aload_n C dX3_shift_23 rfl ?_
  refine gx_iload_n C dX3_shift_24 rfl ?_
  refine gx_iload_n C dX3_shift_25 rfl ?_
  refine gx_cVi (n := 2) (q0 := 0) C hK (c_X3_ruleBrokenByShift (l := l) (D := D) (cI := cI) (cG := cG) (cL := cL) (ad := ad) (n := n) (t := t) (B := B) (u := u) (g := g) hOK hb hr2) yW_fst (bgV hT m396 m398 slX3_ruleBrokenByShift m1 m399) rfl rfl rfl (by decide +kernel) ⟨Nat.le_of_ble_eq_true rfl, Nat.le_of_ble_eq_true rfl⟩ rfl rfl rfl rfl (Nat.le_of_ble_eq_true rfl) (Nat.zero_le _) (Nat.zero_le _) dX3_shift_26 ?_
  refine gx_istore_n (lv2 := [some _, some _, some _, some _]) C dX3_shift_29 (by decide) rfl ?_
  refine gx_iload_n C dX3_shift_30 rfl ?_
  refine gx_if_eq (tgt := 37) C dX3_shift_31 (by decide) (fun c => absurd c hz) (fun c_31 => ?_)
  refine gx_iload_n C dX3_shift_34 rfl ?_
  refine gx_ineg C dX3_shift_35 ?_
  exact gx_iret C hRt hlocks dX3_shift_36 rfl rfl
set_option maxHeartbeats 4000000 in
set_option maxRecDepth 100000 in
theorem c_X3_shift_off {l : Launch} {D : va_G} {cI cG cL : ClassId} {ad : Nat → Nat} {n t : Nat} {B : Int32} {u g : Nat → Nat → Int32} {b r2 : Nat} (hOK : yOK n t u g) (hb : b < 60) (hB : yHas u (nI b) = true) (ho : yOn u b = false) (hr2 : r2 < n) : gx_M l yX3_shift wsX3_shift ({ frames := 3, cells := 0, slots := 0, locals := 63 }) D vwCl (gT cI cG cL) [.ref (ad 0), .int (nI b), .int (nI r2)] (yW cI cG ad n t B u g) (yW cI cG ad n t B u g) (some (.int 0)) := by
  refine gx_ofG (cc := cX3_shift) (maxL := 4) (ret := (some .int)) [some (.ref (ad 0)), some (.int (nI b)), some (.int (nI r2)), none] (by decide) rfl rfl (Nat.le_of_ble_eq_true rfl) rfl ?_
  intro p e s m args below meth c C hRt hlocks hK
  have C : CallFix p m c cX3_shift 4 s args (wsX3_shift) RX3 := C
  have hT : ∀ w ∈ bigW, w ∈ wsX3_shift := bgT
  have hn := hOK.hn
  have ht := hOK.ht
  refine gx_aload_n C dX3_shift_0 rfl ?_
  refine gx_iload_n C dX3_shift_1 rfl ?_
  refine gx_cVv (n := 1) (q0 := 0) C hK (c_X3_requireBox (l := l) (D := D) (cI := cI) (cG := cG) (cL := cL) (ad := ad) (n := n) (t := t) (B := B) (u := u) (g := g) (x := nI b) hB) yW_fst (bgV hT m321 m323 slX3_requireBox m1 m324) rfl rfl rfl (by decide +kernel) ⟨Nat.le_of_ble_eq_true rfl, Nat.le_of_ble_eq_true rfl⟩ rfl rfl rfl rfl (Nat.le_of_ble_eq_true rfl) (Nat.zero_le _) (Nat.zero_le _) dX3_shift_2 ?_
  refine gx_aload_n C dX3_shift_5 rfl ?_
  refine gx_iload_n C dX3_shift_6 rfl ?_
  refine gx_cVv (n := 1) (q0 := 0) C hK (c_X3_requireRow (l := l) (D := D) (cI := cI) (cG := cG) (cL := cL) (ad := ad) (n := n) (t := t) (B := B) (u := u) (g := g) (x := nI r2) (yRow_of hn hr2)) yW_fst (bgV hT m345 m347 slX3_requireRow m1 m348) rfl rfl rfl (by decide +kernel) ⟨Nat.le_of_ble_eq_true rfl, Nat.le_of_ble_eq_true rfl⟩ rfl rfl rfl rfl (Nat.le_of_ble_eq_true rfl) (Nat.zero_le _) (Nat.zero_le _) dX3_shift_7 ?_
  refine gx_aload_n C dX3_shift_10 rfl ?_
  refine yg_X3_stacks C hK hT m124 dX3_shift_11 ?_
  refine gx_iload_n C dX3_shift_14 rfl ?_
  refine gx_cVi (n := 1) (q0 := 7) C hK (c_X2_isOnTop (l := l) (D := D) (cI := cI) (cG := cG) (cL := cL) (ad := ad) (n := n) (t := t) (B := B) (u := u) (g := g) hOK hb) yW_fst (bgV hT m381 m382 m383 m4 m384) rfl rfl rfl (by decide +kernel) ⟨Nat.le_of_ble_eq_true rfl, Nat.le_of_ble_eq_true rfl⟩ rfl rfl rfl rfl (Nat.le_of_ble_eq_true rfl) (Nat.zero_le _) (Nat.zero_le _) dX3_shift_15 ?_
  refine gx_if_ne (tgt := 23) C dX3_shift_18 (by decide) (fun c => absurd (bI_0.mpr ho) c) (fun c_18 => ?_)
  refine gx_iconst (v := 0) C dX3_shift_21 (by decide) ?_
  exact gx_iret C hRt hlocks dX3_shift_22 rfl rfl
set_option maxHeartbeats 4000000 in
set_option maxRecDepth 100000 in
theorem c_X3_choose {l : Launch} {D : va_G} {cI cG cL : ClassId} {ad : Nat → Nat} {n t : Nat} {B : Int32} {u g : Nat → Nat → Int32} {b : Nat} (hOK : yOK n t u g) (hb : b < 60) (hB : yHas u (nI b) = true) : gx_M l yX3_choose wsX3_choose ({ frames := 4, cells := 0, slots := 0, locals := 94 }) D vwCl (gT cI cG cL) [.ref (ad 0), .int (nI b)] (yW cI cG ad n t B u g) (yW cI cG ad n t B u g) (some (.int (if u 7 b = -1 then (yBest t B u g b false n).1 else -1))) := by
  refine gx_ofG (cc := cX3_choose) (maxL := 2) (ret := (some .int)) [some (.ref (ad 0)), some (.int (nI b))] (by decide) rfl rfl (Nat.le_of_ble_eq_true rfl) rfl ?_
  intro p e s m args below meth c C hRt hlocks hK
  have C : CallFix p m c cX3_choose 2 s args (wsX3_choose) RX3 := C
  have hT : ∀ w ∈ bigW, w ∈ wsX3_choose := bgT
  refine gx_aload_n C dX3_choose_0 rfl ?_
  refine gx_iload_n C dX3_choose_1 rfl ?_
  refine gx_cVv (n := 1) (q0 := 0) C hK (c_X3_requireBox (l := l) (D := D) (cI := cI) (cG := cG) (cL := cL) (ad := ad) (n := n) (t := t) (B := B) (u := u) (g := g) (x := nI b) hB) yW_fst (bgV hT m321 m323 slX3_requireBox m1 m324) rfl rfl rfl (by decide +kernel) ⟨Nat.le_of_ble_eq_true rfl, Nat.le_of_ble_eq_true rfl⟩ rfl rfl rfl rfl (Nat.le_of_ble_eq_true rfl) (Nat.zero_le _) (Nat.zero_le _) dX3_choose_2 ?_
  refine gx_aload_n C dX3_choose_5 rfl ?_
  refine yg_X3_stacks C hK hT m124 dX3_choose_6 ?_
  refine gx_iload_n C dX3_choose_9 rfl ?_
  refine gx_cVi (n := 1) (q0 := 7) C hK (c_X2_stands (l := l) (D := D) (cI := cI) (cG := cG) (cL := cL) (ad := ad) (n := n) (t := t) (B := B) (u := u) (g := g) hb) yW_fst (bgV hT m200 m173 m174 m4 m175) rfl rfl rfl (by decide +kernel) ⟨Nat.le_of_ble_eq_true rfl, Nat.le_of_ble_eq_true rfl⟩ rfl rfl rfl rfl (Nat.le_of_ble_eq_true rfl) (Nat.zero_le _) (Nat.zero_le _) dX3_choose_10 ?_
  refine gx_if_eq (tgt := 20) C dX3_choose_13 (by decide) (fun c_13 => ?_) (fun c_13 => ?_)
  · refine gx_aload_n C dX3_choose_20 rfl ?_
    refine gx_iload_n C dX3_choose_21 rfl ?_
    refine gx_iconst (v := 0) C dX3_choose_22 (by decide) ?_
    refine gx_cVi (n := 2) (q0 := 0) C hK (c_X3_bestRow (l := l) (D := D) (cI := cI) (cG := cG) (cL := cL) (ad := ad) (n := n) (t := t) (B := B) (u := u) (g := g) (k := false) hOK hb) yW_fst (bgV hT m407 m409 slX3_bestRow m1 m410) rfl rfl rfl (by decide +kernel) ⟨Nat.le_of_ble_eq_true rfl, Nat.le_of_ble_eq_true rfl⟩ rfl rfl rfl rfl (Nat.le_of_ble_eq_true rfl) (Nat.zero_le _) (Nat.zero_le _) dX3_choose_23 ?_
    exact gx_iret C hRt hlocks dX3_choose_26 (by first | exact (if_pos (ySt_f c_13)).symm | exact (if_neg (ySt_t c_13)).symm) rfl
  · refine gx_iconst (v := (-1)) C dX3_choose_16 (by decide) ?_
    refine gx_goto (tgt := 26) C dX3_choose_17 (by decide) ?_
    exact gx_iret C hRt hlocks dX3_choose_26 (by first | exact (if_pos (ySt_f c_13)).symm | exact (if_neg (ySt_t c_13)).symm) rfl
set_option maxHeartbeats 4000000 in
set_option maxRecDepth 100000 in
theorem c_X3_score {l : Launch} {D : va_G} {cI cG cL : ClassId} {ad : Nat → Nat} {n t : Nat} {B : Int32} {u g : Nat → Nat → Int32} {b r : Nat} (hOK : yOK n t u g) (hb : b < 60) (hB : yHas u (nI b) = true) (hr : r < n) (hz : yPutR t B u g b r = 0) : gx_M l yX3_score wsX3_score ({ frames := 3, cells := 0, slots := 0, locals := 68 }) D vwCl (gT cI cG cL) [.ref (ad 0), .int (nI b), .int (nI r)] (yW cI cG ad n t B u g) (yW cI cG ad n t B u g) (some (.int (yScore u g b r))) := by
  refine gx_ofG (cc := cX3_score) (maxL := 3) (ret := (some .int)) [some (.ref (ad 0)), some (.int (nI b)), some (.int (nI r))] (by decide) rfl rfl (Nat.le_of_ble_eq_true rfl) rfl ?_
  intro p e s m args below meth c C hRt hlocks hK
  have C : CallFix p m c cX3_score 3 s args (wsX3_score) RX3 := C
  have hT : ∀ w ∈ bigW, w ∈ wsX3_score := bgT
  have hn := hOK.hn
  have ht := hOK.ht
  refine gx_aload_n C dX3_score_0 rfl ?_
  refine gx_iload_n C dX3_score_1 rfl ?_
  refine gx_cVv (n := 1) (q0 := 0) C hK (c_X3_requireBox (l := l) (D := D) (cI := cI) (cG := cG) (cL := cL) (ad := ad) (n := n) (t := t) (B := B) (u := u) (g := g) (x := nI b) hB) yW_fst (bgV hT m321 m323 slX3_requireBox m1 m324) rfl rfl rfl (by decide +kernel) ⟨Nat.le_of_ble_eq_true rfl, Nat.le_of_ble_eq_true rfl⟩ rfl rfl rfl rfl (Nat.le_of_ble_eq_true rfl) (Nat.zero_le _) (Nat.zero_le _) dX3_score_2 ?_
  refine gx_aload_n C dX3_score_5 rfl ?_
  refine gx_iload_n C dX3_score_6 rfl ?_
  refine gx_cVv (n := 1) (q0 := 0) C hK (c_X3_requireRow (l := l) (D := D) (cI := cI) (cG := cG) (cL := cL) (ad := ad) (n := n) (t := t) (B := B) (u := u) (g := g) (x := nI r) (yRow_of hn hr)) yW_fst (bgV hT m345 m347 slX3_requireRow m1 m348) rfl rfl rfl (by decide +kernel) ⟨Nat.le_of_ble_eq_true rfl, Nat.le_of_ble_eq_true rfl⟩ rfl rfl rfl rfl (Nat.le_of_ble_eq_true rfl) (Nat.zero_le _) (Nat.zero_le _) dX3_score_7 ?_
  refine gx_aload_n C dX3_score_10 rfl ?_
  refine gx_iload_n C dX3_score_11 rfl ?_
  refine gx_iload_n C dX3_score_12 rfl ?_
  refine gx_cVi (n := 2) (q0 := 0) C hK (c_X3_ruleBrokenByPut (l := l) (D := D) (cI := cI) (cG := cG) (cL := cL) (ad := ad) (n := n) (t := t) (B := B) (u := u) (g := g) hOK hb hr) yW_fst (bgV hT m350 m352 slX3_ruleBrokenByPut m1 m353) rfl rfl rfl (by decide +kernel) ⟨Nat.le_of_ble_eq_true rfl, Nat.le_of_ble_eq_true rfl⟩ rfl rfl rfl rfl (Nat.le_of_ble_eq_true rfl) (Nat.zero_le _) (Nat.zero_le _) dX3_score_13 ?_
  refine gx_if_eq (tgt := 29) C dX3_score_16 (by decide) (fun c_16 => ?_) (fun c => absurd hz c)
  refine gx_aload_n C dX3_score_29 rfl ?_
  refine gx_iload_n C dX3_score_30 rfl ?_
  refine gx_iload_n C dX3_score_31 rfl ?_
  refine gx_cVi (n := 2) (q0 := 0) C hK (c_X3_scoreOn (l := l) (D := D) (cI := cI) (cG := cG) (cL := cL) (ad := ad) (n := n) (t := t) (B := B) (u := u) (g := g) hOK hb hr) yW_fst (bgV hT m415 m417 slX3_scoreOn m1 m418) rfl rfl rfl (by decide +kernel) ⟨Nat.le_of_ble_eq_true rfl, Nat.le_of_ble_eq_true rfl⟩ rfl rfl rfl rfl (Nat.le_of_ble_eq_true rfl) (Nat.zero_le _) (Nat.zero_le _) dX3_score_32 ?_
  exact gx_iret C hRt hlocks dX3_score_35 rfl rfl
set_option maxHeartbeats 4000000 in
set_option maxRecDepth 100000 in
theorem c_X3_undo_no {l : Launch} {D : va_G} {cI cG cL : ClassId} {ad : Nat → Nat} {n t : Nat} {B : Int32} {u g : Nat → Nat → Int32}  (h2 : u 0 2 = 0) : gx_M l yX3_undo wsX3_undo ({ frames := 0, cells := 0, slots := 0, locals := 0 }) D vwCl (gT cI cG cL) [.ref (ad 0)] (yW cI cG ad n t B u g) (yW cI cG ad n t B u g) (some (.int (-1))) := by
  refine gx_ofG (cc := cX3_undo) (maxL := 3) (ret := (some .int)) [some (.ref (ad 0)), none, none] (by decide) rfl rfl (Nat.le_of_ble_eq_true rfl) rfl ?_
  intro p e s m args below meth c C hRt hlocks hK
  have C : CallFix p m c cX3_undo 3 s args (wsX3_undo) RX3 := C
  have hT : ∀ w ∈ bigW, w ∈ wsX3_undo := bgT
  refine gx_aload_n C dX3_undo_0 rfl ?_
  refine yg_X3_history C hK hT m125 dX3_undo_1 ?_
  refine yg_X1_kept C hK hT m112 dX3_undo_4 ?_
  refine gx_if_ne (tgt := 12) C dX3_undo_7 (by decide) (fun c => absurd h2 c) (fun c_7 => ?_)
  refine gx_iconst (v := (-1)) C dX3_undo_10 (by decide) ?_
  exact gx_iret C hRt hlocks dX3_undo_11 rfl rfl
set_option maxHeartbeats 4000000 in
set_option maxRecDepth 100000 in
theorem c_X3_undo_lay {l : Launch} {D : va_G} {cI cG cL : ClassId} {ad : Nat → Nat} {n t : Nat} {B : Int32} {u g : Nat → Nat → Int32} {b mk r : Nat} (hOK : yOK n t u g) (h2 : ¬ u 0 2 = 0) (hm : mk < 2 ^ 30) (e1 : u 0 1 = nI (mk + 1)) (hb : b < 60) (e9 : u 9 (mk % 100) = nI b) (e10 : u 10 (mk % 100) = nI r) (hr : r < n) (hs : u 7 b = -1) (h0 : yH u r < t) : gx_M l yX3_undo wsX3_undo ({ frames := 2, cells := 0, slots := 0, locals := 45 }) D vwCl (gT cI cG cL) [.ref (ad 0)] (yW cI cG ad n t B u g) (yW cI cG ad n t B (yLayU (yDropU u) b r) (yLayG (yDropU u) g b r)) (some (.int (nI b))) := by
  refine gx_ofG (cc := cX3_undo) (maxL := 3) (ret := (some .int)) [some (.ref (ad 0)), none, none] (by decide) rfl rfl (Nat.le_of_ble_eq_true rfl) rfl ?_
  intro p e s m args below meth c C hRt hlocks hK
  have C : CallFix p m c cX3_undo 3 s args (wsX3_undo) RX3 := C
  have hT : ∀ w ∈ bigW, w ∈ wsX3_undo := bgT
  have hq : mk % 100 < 100 := Nat.mod_lt _ (by decide)
  have hn := hOK.hn
  refine gx_aload_n C dX3_undo_0 rfl ?_
  refine yg_X3_history C hK hT m125 dX3_undo_1 ?_
  refine yg_X1_kept C hK hT m112 dX3_undo_4 ?_
  refine gx_if_ne (tgt := 12) C dX3_undo_7 (by decide) (fun c_7 => ?_) (fun c => absurd c h2)
  refine gx_aload_n C dX3_undo_12 rfl ?_
  refine yg_X3_history C hK hT m125 dX3_undo_13 ?_
  refine gx_cVi (n := 0) (q0 := 12) C hK (c_X1_dropLatest (l := l) (D := D) (cI := cI) (cG := cG) (cL := cL) (ad := ad) (n := n) (t := t) (B := B) (u := u) (g := g) hm e1) yW_fst (bgV hT m164 m165 m166 m6 m167) rfl rfl rfl (by decide +kernel) ⟨Nat.le_of_ble_eq_true rfl, Nat.le_of_ble_eq_true rfl⟩ rfl rfl rfl rfl (Nat.le_of_ble_eq_true rfl) (Nat.zero_le _) (Nat.zero_le _) dX3_undo_16 ?_
  refine gx_istore_n (lv2 := [some _, some _, none]) C dX3_undo_19 (by decide) rfl ?_
  refine gx_aload_n C dX3_undo_20 rfl ?_
  refine yg_X3_history C hK hT m125 dX3_undo_21 ?_
  refine yg_X1_boxes C hK hT m106 dX3_undo_24 ?_
  refine gx_iload_n C dX3_undo_27 rfl ?_
  refine yl_9 C hK rfl (by omega) dX3_undo_28 ?_
  rw [show yDropU u 9 (mk % 100) = nI b from e9]
  refine gx_istore_n (lv2 := [some _, some _, some _]) C dX3_undo_29 (by decide) rfl ?_
  refine gx_aload_n C dX3_undo_30 rfl ?_
  refine yg_X3_stacks C hK hT m124 dX3_undo_31 ?_
  refine gx_iload_n C dX3_undo_34 rfl ?_
  refine gx_aload_n C dX3_undo_35 rfl ?_
  refine yg_X3_history C hK hT m125 dX3_undo_36 ?_
  refine yg_X1_origins C hK hT m108 dX3_undo_39 ?_
  refine gx_iload_n C dX3_undo_42 rfl ?_
  refine yl_10 C hK rfl (by omega) dX3_undo_43 ?_
  rw [show yDropU u 10 (mk % 100) = nI r from e10]
  refine gx_cVv (n := 2) (q0 := 7) C hK (c_X2_bring_lay (l := l) (D := D) (cI := cI) (cG := cG) (cL := cL) (ad := ad) (n := n) (t := t) (B := B) (u := yDropU u) (g := g) hOK.hn hOK.ht hb hr hs (hOK.h6 hr) h0) yW_fst (bgV hT m168 m169 m170 m4 m171) rfl rfl rfl (by decide +kernel) ⟨Nat.le_of_ble_eq_true rfl, Nat.le_of_ble_eq_true rfl⟩ rfl rfl rfl rfl (Nat.le_of_ble_eq_true rfl) (Nat.zero_le _) (Nat.zero_le _) dX3_undo_44 ?_
  refine gx_iload_n C dX3_undo_47 rfl ?_
  exact gx_iret C hRt hlocks dX3_undo_48 rfl rfl
set_option maxHeartbeats 4000000 in
set_option maxRecDepth 100000 in
theorem c_X3_undo_lift {l : Launch} {D : va_G} {cI cG cL : ClassId} {ad : Nat → Nat} {n t : Nat} {B : Int32} {u g : Nat → Nat → Int32} {b mk r : Nat} (hOK : yOK n t u g) (h2 : ¬ u 0 2 = 0) (hm : mk < 2 ^ 30) (e1 : u 0 1 = nI (mk + 1)) (hb : b < 60) (e9 : u 9 (mk % 100) = nI b) (e10 : u 10 (mk % 100) = (-1)) (hr : r < n) (e7 : u 7 b = nI r) (h0 : 0 < yH u r) : gx_M l yX3_undo wsX3_undo ({ frames := 2, cells := 0, slots := 0, locals := 44 }) D vwCl (gT cI cG cL) [.ref (ad 0)] (yW cI cG ad n t B u g) (yW cI cG ad n t B (yLiftU (yDropU u) b r) (yLiftG (yDropU u) g r)) (some (.int (nI b))) := by
  refine gx_ofG (cc := cX3_undo) (maxL := 3) (ret := (some .int)) [some (.ref (ad 0)), none, none] (by decide) rfl rfl (Nat.le_of_ble_eq_true rfl) rfl ?_
  intro p e s m args below meth c C hRt hlocks hK
  have C : CallFix p m c cX3_undo 3 s args (wsX3_undo) RX3 := C
  have hT : ∀ w ∈ bigW, w ∈ wsX3_undo := bgT
  have hq : mk % 100 < 100 := Nat.mod_lt _ (by decide)
  have hn := hOK.hn
  refine gx_aload_n C dX3_undo_0 rfl ?_
  refine yg_X3_history C hK hT m125 dX3_undo_1 ?_
  refine yg_X1_kept C hK hT m112 dX3_undo_4 ?_
  refine gx_if_ne (tgt := 12) C dX3_undo_7 (by decide) (fun c_7 => ?_) (fun c => absurd c h2)
  refine gx_aload_n C dX3_undo_12 rfl ?_
  refine yg_X3_history C hK hT m125 dX3_undo_13 ?_
  refine gx_cVi (n := 0) (q0 := 12) C hK (c_X1_dropLatest (l := l) (D := D) (cI := cI) (cG := cG) (cL := cL) (ad := ad) (n := n) (t := t) (B := B) (u := u) (g := g) hm e1) yW_fst (bgV hT m164 m165 m166 m6 m167) rfl rfl rfl (by decide +kernel) ⟨Nat.le_of_ble_eq_true rfl, Nat.le_of_ble_eq_true rfl⟩ rfl rfl rfl rfl (Nat.le_of_ble_eq_true rfl) (Nat.zero_le _) (Nat.zero_le _) dX3_undo_16 ?_
  refine gx_istore_n (lv2 := [some _, some _, none]) C dX3_undo_19 (by decide) rfl ?_
  refine gx_aload_n C dX3_undo_20 rfl ?_
  refine yg_X3_history C hK hT m125 dX3_undo_21 ?_
  refine yg_X1_boxes C hK hT m106 dX3_undo_24 ?_
  refine gx_iload_n C dX3_undo_27 rfl ?_
  refine yl_9 C hK rfl (by omega) dX3_undo_28 ?_
  rw [show yDropU u 9 (mk % 100) = nI b from e9]
  refine gx_istore_n (lv2 := [some _, some _, some _]) C dX3_undo_29 (by decide) rfl ?_
  refine gx_aload_n C dX3_undo_30 rfl ?_
  refine yg_X3_stacks C hK hT m124 dX3_undo_31 ?_
  refine gx_iload_n C dX3_undo_34 rfl ?_
  refine gx_aload_n C dX3_undo_35 rfl ?_
  refine yg_X3_history C hK hT m125 dX3_undo_36 ?_
  refine yg_X1_origins C hK hT m108 dX3_undo_39 ?_
  refine gx_iload_n C dX3_undo_42 rfl ?_
  refine yl_10 C hK rfl (by omega) dX3_undo_43 ?_
  rw [show yDropU u 10 (mk % 100) = (-1) from e10]
  refine gx_cVv (n := 2) (q0 := 7) C hK (c_X2_bring_lift (l := l) (D := D) (cI := cI) (cG := cG) (cL := cL) (ad := ad) (n := n) (t := t) (B := B) (u := yDropU u) (g := g) (yOK_drop hOK) hb hr e7 h0) yW_fst (bgV hT m168 m169 m170 m4 m171) rfl rfl rfl (by decide +kernel) ⟨Nat.le_of_ble_eq_true rfl, Nat.le_of_ble_eq_true rfl⟩ rfl rfl rfl rfl (Nat.le_of_ble_eq_true rfl) (Nat.zero_le _) (Nat.zero_le _) dX3_undo_44 ?_
  refine gx_iload_n C dX3_undo_47 rfl ?_
  exact gx_iret C hRt hlocks dX3_undo_48 rfl rfl
set_option maxHeartbeats 4000000 in
set_option maxRecDepth 100000 in
theorem c_X3_undo_both {l : Launch} {D : va_G} {cI cG cL : ClassId} {ad : Nat → Nat} {n t : Nat} {B : Int32} {u g : Nat → Nat → Int32} {b mk r r2 : Nat} (hOK : yOK n t u g) (h2 : ¬ u 0 2 = 0) (hm : mk < 2 ^ 30) (e1 : u 0 1 = nI (mk + 1)) (hb : b < 60) (e9 : u 9 (mk % 100) = nI b) (e10 : u 10 (mk % 100) = nI r2) (hr : r < n) (hr2 : r2 < n) (e7 : u 7 b = nI r) (h0 : 0 < yH u r) (hne : r2 ≠ r) (h02 : yH u r2 < t) : gx_M l yX3_undo wsX3_undo ({ frames := 2, cells := 0, slots := 0, locals := 45 }) D vwCl (gT cI cG cL) [.ref (ad 0)] (yW cI cG ad n t B u g) (yW cI cG ad n t B (yLayU (yLiftU (yDropU u) b r) b r2) (yLayG (yLiftU (yDropU u) b r) (yLiftG (yDropU u) g r) b r2)) (some (.int (nI b))) := by
  refine gx_ofG (cc := cX3_undo) (maxL := 3) (ret := (some .int)) [some (.ref (ad 0)), none, none] (by decide) rfl rfl (Nat.le_of_ble_eq_true rfl) rfl ?_
  intro p e s m args below meth c C hRt hlocks hK
  have C : CallFix p m c cX3_undo 3 s args (wsX3_undo) RX3 := C
  have hT : ∀ w ∈ bigW, w ∈ wsX3_undo := bgT
  have hq : mk % 100 < 100 := Nat.mod_lt _ (by decide)
  have hn := hOK.hn
  refine gx_aload_n C dX3_undo_0 rfl ?_
  refine yg_X3_history C hK hT m125 dX3_undo_1 ?_
  refine yg_X1_kept C hK hT m112 dX3_undo_4 ?_
  refine gx_if_ne (tgt := 12) C dX3_undo_7 (by decide) (fun c_7 => ?_) (fun c => absurd c h2)
  refine gx_aload_n C dX3_undo_12 rfl ?_
  refine yg_X3_history C hK hT m125 dX3_undo_13 ?_
  refine gx_cVi (n := 0) (q0 := 12) C hK (c_X1_dropLatest (l := l) (D := D) (cI := cI) (cG := cG) (cL := cL) (ad := ad) (n := n) (t := t) (B := B) (u := u) (g := g) hm e1) yW_fst (bgV hT m164 m165 m166 m6 m167) rfl rfl rfl (by decide +kernel) ⟨Nat.le_of_ble_eq_true rfl, Nat.le_of_ble_eq_true rfl⟩ rfl rfl rfl rfl (Nat.le_of_ble_eq_true rfl) (Nat.zero_le _) (Nat.zero_le _) dX3_undo_16 ?_
  refine gx_istore_n (lv2 := [some _, some _, none]) C dX3_undo_19 (by decide) rfl ?_
  refine gx_aload_n C dX3_undo_20 rfl ?_
  refine yg_X3_history C hK hT m125 dX3_undo_21 ?_
  refine yg_X1_boxes C hK hT m106 dX3_undo_24 ?_
  refine gx_iload_n C dX3_undo_27 rfl ?_
  refine yl_9 C hK rfl (by omega) dX3_undo_28 ?_
  rw [show yDropU u 9 (mk % 100) = nI b from e9]
  refine gx_istore_n (lv2 := [some _, some _, some _]) C dX3_undo_29 (by decide) rfl ?_
  refine gx_aload_n C dX3_undo_30 rfl ?_
  refine yg_X3_stacks C hK hT m124 dX3_undo_31 ?_
  refine gx_iload_n C dX3_undo_34 rfl ?_
  refine gx_aload_n C dX3_undo_35 rfl ?_
  refine yg_X3_history C hK hT m125 dX3_undo_36 ?_
  refine yg_X1_origins C hK hT m108 dX3_undo_39 ?_
  refine gx_iload_n C dX3_undo_42 rfl ?_
  refine yl_10 C hK rfl (by omega) dX3_undo_43 ?_
  rw [show yDropU u 10 (mk % 100) = nI r2 from e10]
  refine gx_cVv (n := 2) (q0 := 7) C hK (c_X2_bring_both (l := l) (D := D) (cI := cI) (cG := cG) (cL := cL) (ad := ad) (n := n) (t := t) (B := B) (u := yDropU u) (g := g) (yOK_drop hOK) hb hr hr2 e7 h0 (by rw [yH_lift hne, yLift_6 hne]; exact hOK.h6 hr2) (by rw [yH_lift hne]; exact h02)) yW_fst (bgV hT m168 m169 m170 m4 m171) rfl rfl rfl (by decide +kernel) ⟨Nat.le_of_ble_eq_true rfl, Nat.le_of_ble_eq_true rfl⟩ rfl rfl rfl rfl (Nat.le_of_ble_eq_true rfl) (Nat.zero_le _) (Nat.zero_le _) dX3_undo_44 ?_
  refine gx_iload_n C dX3_undo_47 rfl ?_
  exact gx_iret C hRt hlocks dX3_undo_48 rfl rfl
set_option maxHeartbeats 4000000 in
set_option maxRecDepth 100000 in
theorem c_X3_where {l : Launch} {D : va_G} {cI cG cL : ClassId} {ad : Nat → Nat} {n t : Nat} {B : Int32} {u g : Nat → Nat → Int32} {b k : Nat} (hOK : yOK n t u g) (hb : b < 60) (hB : yHas u (nI b) = true) (hk : k < 9) : gx_M l yX3_where wsX3_where ({ frames := 2, cells := 0, slots := 0, locals := 46 }) D vwCl (gT cI cG cL) [.ref (ad 0), .int (nI b), .int (nI k)] (yW cI cG ad n t B u g) (yW cI cG ad n t B u g) (some (.int (yWhere u g b k))) := by
  refine gx_ofG (cc := cX3_where) (maxL := 3) (ret := (some .int)) [some (.ref (ad 0)), some (.int (nI b)), some (.int (nI k))] (by decide) rfl rfl (Nat.le_of_ble_eq_true rfl) rfl ?_
  intro p e s m args below meth c C hRt hlocks hK
  have C : CallFix p m c cX3_where 3 s args (wsX3_where) RX3 := C
  have hT : ∀ w ∈ bigW, w ∈ wsX3_where := bgT
  refine gx_aload_n C dX3_where_0 rfl ?_
  refine gx_iload_n C dX3_where_1 rfl ?_
  refine gx_cVv (n := 1) (q0 := 0) C hK (c_X3_requireBox (l := l) (D := D) (cI := cI) (cG := cG) (cL := cL) (ad := ad) (n := n) (t := t) (B := B) (u := u) (g := g) (x := nI b) hB) yW_fst (bgV hT m321 m323 slX3_requireBox m1 m324) rfl rfl rfl (by decide +kernel) ⟨Nat.le_of_ble_eq_true rfl, Nat.le_of_ble_eq_true rfl⟩ rfl rfl rfl rfl (Nat.le_of_ble_eq_true rfl) (Nat.zero_le _) (Nat.zero_le _) dX3_where_2 ?_
  refine gx_iload_n C dX3_where_5 rfl ?_
  rcases (show k = 0 ∨ k = 1 ∨ k = 2 ∨ k = 3 ∨ k = 4 ∨ k = 5 ∨ k = 6 ∨ k = 7 ∨ k = 8 by omega) with hd | hd | hd | hd | hd | hd | hd | hd | hd <;> rw [hd]
  · refine gx_tabIn (tgt := 56) C dX3_where_6 (by decide) (by decide) rfl (by decide) ?_
    refine gx_aload_n C dX3_where_56 rfl ?_
    refine yg_X3_stacks C hK hT m124 dX3_where_57 ?_
    refine yg_X2_rowOf C hK hT m83 dX3_where_60 ?_
    refine gx_iload_n C dX3_where_63 rfl ?_
    refine yl_7 C hK rfl (by omega) dX3_where_64 ?_
    exact gx_iret C hRt hlocks dX3_where_65 rfl rfl
  · refine gx_tabIn (tgt := 66) C dX3_where_6 (by decide) (by decide) rfl (by decide) ?_
    refine gx_aload_n C dX3_where_66 rfl ?_
    refine yg_X3_stacks C hK hT m124 dX3_where_67 ?_
    refine yg_X2_tierOf C hK hT m85 dX3_where_70 ?_
    refine gx_iload_n C dX3_where_73 rfl ?_
    refine yl_8 C hK rfl (by omega) dX3_where_74 ?_
    exact gx_iret C hRt hlocks dX3_where_75 rfl rfl
  · refine gx_tabIn (tgt := 76) C dX3_where_6 (by decide) (by decide) rfl (by decide) ?_
    refine gx_aload_n C dX3_where_76 rfl ?_
    refine yg_X3_stacks C hK hT m124 dX3_where_77 ?_
    refine gx_iload_n C dX3_where_80 rfl ?_
    refine gx_cVi (n := 1) (q0 := 7) C hK (c_X2_above (l := l) (D := D) (cI := cI) (cG := cG) (cL := cL) (ad := ad) (n := n) (t := t) (B := B) (u := u) (g := g) hOK hb) yW_fst (bgV hT m446 m386 m387 m4 m388) rfl rfl rfl (by decide +kernel) ⟨Nat.le_of_ble_eq_true rfl, Nat.le_of_ble_eq_true rfl⟩ rfl rfl rfl rfl (Nat.le_of_ble_eq_true rfl) (Nat.zero_le _) (Nat.zero_le _) dX3_where_81 ?_
    exact gx_iret C hRt hlocks dX3_where_84 rfl rfl
  · refine gx_tabIn (tgt := 85) C dX3_where_6 (by decide) (by decide) rfl (by decide) ?_
    refine gx_aload_n C dX3_where_85 rfl ?_
    refine gx_iload_n C dX3_where_86 rfl ?_
    refine gx_cVi (n := 1) (q0 := 0) C hK (c_X3_isInTheWay (l := l) (D := D) (cI := cI) (cG := cG) (cL := cL) (ad := ad) (n := n) (t := t) (B := B) (u := u) (g := g) hOK hb) yW_fst (bgV hT m196 m198 slX3_isInTheWay m1 m199) rfl rfl rfl (by decide +kernel) ⟨Nat.le_of_ble_eq_true rfl, Nat.le_of_ble_eq_true rfl⟩ rfl rfl rfl rfl (Nat.le_of_ble_eq_true rfl) (Nat.zero_le _) (Nat.zero_le _) dX3_where_87 ?_
    refine gx_if_eq (tgt := 97) C dX3_where_90 (by decide) (fun c_90 => ?_) (fun c_90 => ?_)
    · refine gx_iconst (v := 0) C dX3_where_97 (by decide) ?_
      exact gx_iret C hRt hlocks dX3_where_98 (by first | exact c_90.symm | (show _ = bI (yWay u g b); rw [bI_t c_90]; rfl)) rfl
    · refine gx_iconst (v := 1) C dX3_where_93 (by decide) ?_
      refine gx_goto (tgt := 98) C dX3_where_94 (by decide) ?_
      exact gx_iret C hRt hlocks dX3_where_98 (by first | exact c_90.symm | (show _ = bI (yWay u g b); rw [bI_t c_90]; rfl)) rfl
  · refine gx_tabIn (tgt := 99) C dX3_where_6 (by decide) (by decide) rfl (by decide) ?_
    refine gx_aload_n C dX3_where_99 rfl ?_
    refine yg_X3_boxes C hK hT m123 dX3_where_100 ?_
    refine yg_X0_size C hK hT m38 dX3_where_103 ?_
    refine gx_iload_n C dX3_where_106 rfl ?_
    refine yl_1 C hK rfl (by omega) dX3_where_107 ?_
    exact gx_iret C hRt hlocks dX3_where_108 rfl rfl
  · refine gx_tabIn (tgt := 109) C dX3_where_6 (by decide) (by decide) rfl (by decide) ?_
    refine gx_aload_n C dX3_where_109 rfl ?_
    refine yg_X3_boxes C hK hT m123 dX3_where_110 ?_
    refine yg_X0_weight C hK hT m40 dX3_where_113 ?_
    refine gx_iload_n C dX3_where_116 rfl ?_
    refine yl_2 C hK rfl (by omega) dX3_where_117 ?_
    exact gx_iret C hRt hlocks dX3_where_118 rfl rfl
  · refine gx_tabIn (tgt := 119) C dX3_where_6 (by decide) (by decide) rfl (by decide) ?_
    refine gx_aload_n C dX3_where_119 rfl ?_
    refine yg_X3_boxes C hK hT m123 dX3_where_120 ?_
    refine yg_X0_leaves C hK hT m42 dX3_where_123 ?_
    refine gx_iload_n C dX3_where_126 rfl ?_
    refine yl_3 C hK rfl (by omega) dX3_where_127 ?_
    exact gx_iret C hRt hlocks dX3_where_128 rfl rfl
  · refine gx_tabIn (tgt := 129) C dX3_where_6 (by decide) (by decide) rfl (by decide) ?_
    refine gx_aload_n C dX3_where_129 rfl ?_
    refine yg_X3_boxes C hK hT m123 dX3_where_130 ?_
    refine yg_X0_ship C hK hT m44 dX3_where_133 ?_
    refine gx_iload_n C dX3_where_136 rfl ?_
    refine yl_4 C hK rfl (by omega) dX3_where_137 ?_
    exact gx_iret C hRt hlocks dX3_where_138 rfl rfl
  · refine gx_tabIn (tgt := 139) C dX3_where_6 (by decide) (by decide) rfl (by decide) ?_
    refine gx_aload_n C dX3_where_139 rfl ?_
    refine yg_X3_boxes C hK hT m123 dX3_where_140 ?_
    refine yg_X0_kind C hK hT m46 dX3_where_143 ?_
    refine gx_iload_n C dX3_where_146 rfl ?_
    refine yl_5 C hK rfl (by omega) dX3_where_147 ?_
    exact gx_iret C hRt hlocks dX3_where_148 rfl rfl
set_option maxHeartbeats 4000000 in
set_option maxRecDepth 100000 in
theorem c_X3_at {l : Launch} {D : va_G} {cI cG cL : ClassId} {ad : Nat → Nat} {n t : Nat} {B : Int32} {u g : Nat → Nat → Int32} {r k : Nat} (hOK : yOK n t u g) (hr : r < n) (hk : k < t) : gx_M l yX3_at wsX3_at ({ frames := 2, cells := 0, slots := 0, locals := 42 }) D vwCl (gT cI cG cL) [.ref (ad 0), .int (nI r), .int (nI k)] (yW cI cG ad n t B u g) (yW cI cG ad n t B u g) (some (.int (g r k))) := by
  refine gx_ofG (cc := cX3_at) (maxL := 3) (ret := (some .int)) [some (.ref (ad 0)), some (.int (nI r)), some (.int (nI k))] (by decide) rfl rfl (Nat.le_of_ble_eq_true rfl) rfl ?_
  intro p e s m args below meth c C hRt hlocks hK
  have C : CallFix p m c cX3_at 3 s args (wsX3_at) RX3 := C
  have hT : ∀ w ∈ bigW, w ∈ wsX3_at := bgT
  have hn := hOK.hn
  have ht := hOK.ht
  refine gx_aload_n C dX3_at_0 rfl ?_
  refine gx_iload_n C dX3_at_1 rfl ?_
  refine gx_cVv (n := 1) (q0 := 0) C hK (c_X3_requireRow (l := l) (D := D) (cI := cI) (cG := cG) (cL := cL) (ad := ad) (n := n) (t := t) (B := B) (u := u) (g := g) (x := nI r) (yRow_of hn hr)) yW_fst (bgV hT m345 m347 slX3_requireRow m1 m348) rfl rfl rfl (by decide +kernel) ⟨Nat.le_of_ble_eq_true rfl, Nat.le_of_ble_eq_true rfl⟩ rfl rfl rfl rfl (Nat.le_of_ble_eq_true rfl) (Nat.zero_le _) (Nat.zero_le _) dX3_at_2 ?_
  refine gx_iload_n C dX3_at_5 rfl ?_
  refine gx_iconst (v := 0) C dX3_at_6 (by decide) ?_
  refine gx_aload_n C dX3_at_7 rfl ?_
  refine yg_X3_stacks C hK hT m124 dX3_at_8 ?_
  refine yg_X2_tiers C hK hT m77 dX3_at_11 ?_
  refine gx_iconst (v := 1) C dX3_at_14 (by decide) ?_
  refine gx_isub C dX3_at_15 ?_
  refine gx_cSi (n := 3) C hK (c_X3_isWithin (l := l) (D := D) (cI := cI) (cG := cG) (cL := cL) (v := nI k) (a := 0) (b := nI t - 1)) (bgS hT m149 m150 m1 m151) rfl rfl rfl (by decide +kernel) ⟨Nat.le_of_ble_eq_true rfl, Nat.le_of_ble_eq_true rfl⟩ rfl rfl (Nat.le_of_ble_eq_true rfl) (Nat.zero_le _) (Nat.zero_le _) dX3_at_16 ?_
  refine gx_if_ne (tgt := 32) C dX3_at_19 (by decide) (fun c_19 => ?_) (fun c => absurd c (by rw [show yIn (nI k) 0 (nI t - 1) = true from decide_eq_true ⟨nI_pos' (by omega), by rw [show nI t - 1 = nI (t - 1) from pk_sub (b := 1) (by omega)]; exact nI_le (by omega) (by omega)⟩]; decide))
  refine gx_aload_n C dX3_at_32 rfl ?_
  refine yg_X3_stacks C hK hT m124 dX3_at_33 ?_
  refine yg_X2_cells C hK hT m79 dX3_at_36 ?_
  refine gx_iload_n C dX3_at_39 rfl ?_
  refine yl_grid C hK rfl (by omega) (by omega) dX3_at_40 ?_
  refine gx_iload_n C dX3_at_41 rfl ?_
  refine yl_row C hK rfl (by omega) (by omega) (by omega) dX3_at_42 ?_
  exact gx_iret C hRt hlocks dX3_at_43 rfl rfl
set_option maxHeartbeats 4000000 in
set_option maxRecDepth 100000 in
theorem c_X3_count {l : Launch} {D : va_G} {cI cG cL : ClassId} {ad : Nat → Nat} {n t : Nat} {B : Int32} {u g : Nat → Nat → Int32} {k T : Nat} (hOK : yOK n t u g) (hT6 : T ≤ 60) (e0 : u 0 0 = nI T) (hk : k < 8) : gx_M l yX3_count wsX3_count ({ frames := 3, cells := 0, slots := 0, locals := 68 }) D vwCl (gT cI cG cL) [.ref (ad 0), .int (nI k)] (yW cI cG ad n t B u g) (yW cI cG ad n t B u g) (some (.int (yCountK n t B u g T k))) := by
  refine gx_ofG (cc := cX3_count) (maxL := 2) (ret := (some .int)) [some (.ref (ad 0)), some (.int (nI k))] (by decide) rfl rfl (Nat.le_of_ble_eq_true rfl) rfl ?_
  intro p e s m args below meth c C hRt hlocks hK
  have C : CallFix p m c cX3_count 2 s args (wsX3_count) RX3 := C
  have hT : ∀ w ∈ bigW, w ∈ wsX3_count := bgT
  have hn := hOK.hn
  have ht := hOK.ht
  refine gx_iload_n C dX3_count_0 rfl ?_
  rcases (show k = 0 ∨ k = 1 ∨ k = 2 ∨ k = 3 ∨ k = 4 ∨ k = 5 ∨ k = 6 ∨ k = 7 by omega) with hd | hd | hd | hd | hd | hd | hd | hd <;> rw [hd]
  · refine gx_tabIn (tgt := 48) C dX3_count_1 (by decide) (by decide) rfl (by decide) ?_
    refine gx_aload_n C dX3_count_48 rfl ?_
    refine yg_X3_stacks C hK hT m124 dX3_count_49 ?_
    refine yg_X2_rows C hK hT m75 dX3_count_52 ?_
    exact gx_iret C hRt hlocks dX3_count_55 rfl rfl
  · refine gx_tabIn (tgt := 56) C dX3_count_1 (by decide) (by decide) rfl (by decide) ?_
    refine gx_aload_n C dX3_count_56 rfl ?_
    refine yg_X3_stacks C hK hT m124 dX3_count_57 ?_
    refine yg_X2_tiers C hK hT m77 dX3_count_60 ?_
    exact gx_iret C hRt hlocks dX3_count_63 rfl rfl
  · refine gx_tabIn (tgt := 64) C dX3_count_1 (by decide) (by decide) rfl (by decide) ?_
    refine gx_aload_n C dX3_count_64 rfl ?_
    refine yg_X3_bears C hK hT m122 dX3_count_65 ?_
    exact gx_iret C hRt hlocks dX3_count_68 rfl rfl
  · refine gx_tabIn (tgt := 69) C dX3_count_1 (by decide) (by decide) rfl (by decide) ?_
    refine gx_aload_n C dX3_count_69 rfl ?_
    refine yg_X3_boxes C hK hT m123 dX3_count_70 ?_
    refine yg_X0_told C hK hT m48 dX3_count_73 ?_
    exact gx_iret C hRt hlocks dX3_count_76 rfl rfl
  · refine gx_tabIn (tgt := 77) C dX3_count_1 (by decide) (by decide) rfl (by decide) ?_
    refine gx_aload_n C dX3_count_77 rfl ?_
    refine gx_cVi (n := 0) (q0 := 0) C hK (c_X3_standingBoxes (l := l) (D := D) (cI := cI) (cG := cG) (cL := cL) (ad := ad) (n := n) (t := t) (B := B) (u := u) (g := g) hn) yW_fst (bgV hT m188 m190 slX3_standingBoxes m1 m191) rfl rfl rfl (by decide +kernel) ⟨Nat.le_of_ble_eq_true rfl, Nat.le_of_ble_eq_true rfl⟩ rfl rfl rfl rfl (Nat.le_of_ble_eq_true rfl) (Nat.zero_le _) (Nat.zero_le _) dX3_count_78 ?_
    exact gx_iret C hRt hlocks dX3_count_81 rfl rfl
  · refine gx_tabIn (tgt := 82) C dX3_count_1 (by decide) (by decide) rfl (by decide) ?_
    refine gx_aload_n C dX3_count_82 rfl ?_
    refine yg_X3_history C hK hT m125 dX3_count_83 ?_
    refine yg_X1_made C hK hT m110 dX3_count_86 ?_
    exact gx_iret C hRt hlocks dX3_count_89 rfl rfl
  · refine gx_tabIn (tgt := 90) C dX3_count_1 (by decide) (by decide) rfl (by decide) ?_
    refine gx_aload_n C dX3_count_90 rfl ?_
    refine gx_cVi (n := 0) (q0 := 0) C hK (c_X3_boxesInTheWay (l := l) (D := D) (cI := cI) (cG := cG) (cL := cL) (ad := ad) (n := n) (t := t) (B := B) (u := u) (g := g) hOK hT6 e0) yW_fst (bgV hT m192 m194 slX3_boxesInTheWay m1 m195) rfl rfl rfl (by decide +kernel) ⟨Nat.le_of_ble_eq_true rfl, Nat.le_of_ble_eq_true rfl⟩ rfl rfl rfl rfl (Nat.le_of_ble_eq_true rfl) (Nat.zero_le _) (Nat.zero_le _) dX3_count_91 ?_
    exact gx_iret C hRt hlocks dX3_count_94 rfl rfl
  · refine gx_tabIn (tgt := 95) C dX3_count_1 (by decide) (by decide) rfl (by decide) ?_
    refine gx_aload_n C dX3_count_95 rfl ?_
    refine yg_X3_history C hK hT m125 dX3_count_96 ?_
    refine yg_X1_kept C hK hT m112 dX3_count_99 ?_
    exact gx_iret C hRt hlocks dX3_count_102 rfl rfl
set_option maxHeartbeats 4000000 in
set_option maxRecDepth 100000 in
theorem c_X3_count_out {l : Launch} {D : va_G} {cI cG cL : ClassId} {ad : Nat → Nat} {n t : Nat} {B : Int32} {u g : Nat → Nat → Int32} {x : Int32} (hOK : yOK n t u g) (hx : x.toInt < 0 ∨ 7 < x.toInt) : gx_M l yX3_count wsX3_count ({ frames := 2, cells := 0, slots := 0, locals := 45 }) D vwCl (gT cI cG cL) [.ref (ad 0), .int x] (yW cI cG ad n t B u g) (yW cI cG ad n t B u g) (some (.int (yCR n u g x))) := by
  refine gx_ofG (cc := cX3_count) (maxL := 2) (ret := (some .int)) [some (.ref (ad 0)), some (.int x)] (by decide) rfl rfl (Nat.le_of_ble_eq_true rfl) rfl ?_
  intro p e s m args below meth c C hRt hlocks hK
  have C : CallFix p m c cX3_count 2 s args (wsX3_count) RX3 := C
  have hT : ∀ w ∈ bigW, w ∈ wsX3_count := bgT
  have hn := hOK.hn
  have ht := hOK.ht
  refine gx_iload_n C dX3_count_0 rfl ?_
  · refine gx_tabOut (tgt := 103) C dX3_count_1 hx (by decide) ?_
    refine gx_aload_n C dX3_count_103 rfl ?_
    refine gx_iload_n C dX3_count_104 rfl ?_
    refine gx_cVi (n := 1) (q0 := 0) C hK (c_X3_countOfRow (l := l) (D := D) (cI := cI) (cG := cG) (cL := cL) (ad := ad) (n := n) (t := t) (B := B) (u := u) (g := g) (x := x) hOK) yW_fst (bgV hT m205 m207 slX3_countOfRow m1 m208) rfl rfl rfl (by decide +kernel) ⟨Nat.le_of_ble_eq_true rfl, Nat.le_of_ble_eq_true rfl⟩ rfl rfl rfl rfl (Nat.le_of_ble_eq_true rfl) (Nat.zero_le _) (Nat.zero_le _) dX3_count_105 ?_
    exact gx_iret C hRt hlocks dX3_count_108 rfl rfl
end

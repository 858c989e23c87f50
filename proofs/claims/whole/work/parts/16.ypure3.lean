theorem yOK_drop {n t : Nat} {u g : Nat → Nat → Int32} (h : yOK n t u g) : yOK n t (yDropU u) g := h
def yWhere (u g : Nat → Nat → Int32) (b k : Nat) : Int32 := match k with
  | 0 => u 7 b
  | 1 => u 8 b
  | 2 => yAb u b
  | 3 => bI (yWay u g b)
  | 4 => u 1 b
  | 5 => u 2 b
  | 6 => u 3 b
  | 7 => u 4 b
  | _ => u 5 b
def yCountK (n t : Nat) (B : Int32) (u g : Nat → Nat → Int32) (T k : Nat) : Int32 := match k with
  | 0 => nI n
  | 1 => nI t
  | 2 => B
  | 3 => u 0 0
  | 4 => ySum (fun r => u 6 r) n
  | 5 => u 0 1
  | 6 => nI (yCnt (fun b => yWay u g b) T)
  | _ => u 0 2

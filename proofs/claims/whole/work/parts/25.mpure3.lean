/-- a move: what is kept of it, and where the box goes; k moves were kept -/
def mMv (v : Nat → Nat → Int32) (T k b : Nat) (x : Int32) : Nat → Nat → Int32 := if k = 100 then mGoes (mPush (mu (mSh v 100) 0 2 (v 0 2 - 1)) 99 b) T b x else mGoes (mPush v k b) T b x
def mWhyP (t : Nat) (B : Int32) (v : Nat → Nat → Int32) (T b r : Nat) : Int32 := if v 7 b < 0 then mBr t B v T b r else 1
def mWhyS (t : Nat) (B : Int32) (v : Nat → Nat → Int32) (T b r : Nat) : Int32 := if v 7 b = nI r then 1 else mBr t B v T b r
def mTellU (v : Nat → Nat → Int32) (T : Nat) (a b c d k : Int32) : Nat → Nat → Int32 := mu (mu (mu (mu (mu (mu (mu (mu (mu v 0 3 0) 1 T a) 2 T b) 3 T c) 4 T d) 5 T k) 7 T (-1)) 8 T (-1)) 0 0 (v 0 0 + 1)

/-! the model: what a version covers -/
def mNear (f : Nat → Nat → Int32) (v c n k : Nat) : Bool :=
  let dx := (f 25 (8 * v + (k + 1) % n) - f 25 (8 * v + k)).toInt64
  let dy := (f 26 (8 * v + (k + 1) % n) - f 26 (8 * v + k)).toInt64
  let x := (f 0 c - f 25 (8 * v + k)).toInt64
  let y := (f 1 c - f 26 (8 * v + k)).toInt64
  if 0 < x * dx + y * dy then (if x * dx + y * dy < dx * dx + dy * dy then !decide ((f 2 c).toInt64 * (f 2 c).toInt64 * (dx * dx + dy * dy) < (x * dy - y * dx) * (x * dy - y * dx)) else !decide ((f 2 c).toInt64 * (f 2 c).toInt64 < (x - dx) * (x - dx) + (y - dy) * (y - dy))) else !decide ((f 2 c).toInt64 * (f 2 c).toInt64 < x * x + y * y)
def mSd (f : Nat → Nat → Int32) (v c n k : Nat) : Int32 := (f 25 (8 * v + (k + 1) % n) - f 25 (8 * v + k)) * (f 1 c - f 26 (8 * v + k)) - (f 26 (8 * v + (k + 1) % n) - f 26 (8 * v + k)) * (f 0 c - f 25 (8 * v + k))
def mUp (f : Nat → Nat → Int32) (v c n k : Nat) : Bool := !decide (f 1 c < f 26 (8 * v + k)) && !decide (f 26 (8 * v + (k + 1) % n) ≤ f 1 c)
def mDn (f : Nat → Nat → Int32) (v c n k : Nat) : Bool := !decide (f 1 c < f 26 (8 * v + (k + 1) % n)) && !decide (f 26 (8 * v + k) ≤ f 1 c)
def mCrs (f : Nat → Nat → Int32) (v c n k : Nat) : Bool := (mUp f v c n k && decide (0 < mSd f v c n k)) || (mDn f v c n k && !decide (0 ≤ mSd f v c n k))
def mIn (f : Nat → Nat → Int32) (v c n : Nat) : Nat → Bool
  | 0 => false
  | k + 1 => if mCrs f v c n k = true then !mIn f v c n k else mIn f v c n k
def mNr (f : Nat → Nat → Int32) (v c n : Nat) : Nat → Bool
  | 0 => mIn f v c n n
  | k + 1 => mNr f v c n k || mNear f v c n k

/-! THE MODEL'S LOOKS, as functions of its rows -/
abbrev qM (f : Nat → Int32) (n : Nat) : Nat → Bool := fun k => fitM f (nI k) n
def faM (q : Nat → Bool) (r : Int32) : Nat → Nat → Int32
  | 0, _ => -1
  | n + 1, k => if q k = true ∧ nI (cN q k) = r then nI k else faM q r n (k + 1)
abbrev qo (f : Nat → Int32) (k : Nat) : Int32 := f (11 + k / 6)
abbrev qt (f : Nat → Int32) (k : Nat) : Int32 := f (11 + k % 6)
def qask (f : Nat → Int32) (n k : Nat) : Bool := decide (k / 6 < k % 6) && (!decide (qo f k = qt f k) && decide (kept f (qo f k) (qt f k) n = -1))
def qwor (f : Nat → Int32) (n k : Nat) : Int32 := if touN f n (qo f k) (qt f k) ≤ fitN f n - touN f n (qo f k) (qt f k) then fitN f n - touN f n (qo f k) (qt f k) else touN f n (qo f k) (qt f k)
def qsM (f : Nat → Int32) (n : Nat) : Nat → Int32 × Int32
  | 0 => (-1, nI 0)
  | k + 1 => if qask f n k = true ∧ ((qsM f n k).1 = -1 ∨ qwor f n k < (qsM f n k).2) then (nI (10 * (k / 6) + k % 6), qwor f n k) else qsM f n k
theorem addz (x : Int32) : x + nI 0 = x := by rw [show nI 0 = 0 from rfl, Int32.add_zero]


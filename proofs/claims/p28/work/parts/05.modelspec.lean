/-! THE MODEL: what its methods answer, as functions of its rows -/
abbrev an (f : Nat → Int32) (k q : Nat) : Int32 := f (18 + 3 * k + q)
def okA (f : Nat → Int32) : Prop := ∀ k, k < 12 → vp_in (an f k 0) 10 ∧ vp_in (an f k 1) 10
/-- the place of a panel -/
abbrev plc (fo i : Int32) : Int32 := (pw fo i.toNatClampNeg).1
def fitM (f : Nat → Int32) (fo : Int32) : Nat → Bool
  | 0 => decide (fo &&& f 1 = nI 0)
  | k + 1 => fitM f fo k && (decide (plc fo (an f k 0) = plc fo (an f k 1)) == decide (an f k 2 = nI 1))
def kept (f : Nat → Int32) (a b : Int32) : Nat → Int32
  | 0 => -1
  | k + 1 => if (an f k 0 = a ∧ an f k 1 = b) ∨ (an f k 0 = b ∧ an f k 1 = a) then an f k 2 else kept f a b k
/-- the answers taken away, up to k -/
def zA (f : Nat → Int32) (k : Nat) : Nat → Int32 := fun j => if 17 ≤ j ∧ j < k then nI 0 else f j
/-- the saved rows: one more -/
def svm (m : Nat) : Nat := if m = 6 then 5 else m
def tch (fo a b : Int32) : Bool := decide (plc fo a = plc fo b)
def fitN (f : Nat → Int32) (n : Nat) : Int32 := sumI (fun k => b2 (fitM f (nI k) n)) 512
def touN (f : Nat → Int32) (n : Nat) (a b : Int32) : Int32 := sumI (fun k => b2 (fitM f (nI k) n && tch (nI k) a b)) 512
abbrev bitsM (x : Int32) : Int32 := sumI (fun k => bI x (nI k)) 9
abbrev offM (a b : Int32) : Int32 := if b < a then a - b else b - a


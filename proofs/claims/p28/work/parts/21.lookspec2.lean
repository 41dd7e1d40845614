/-! more of the model's looks -/
def wkM (f : Nat → Int32) : Nat → Int32
  | 0 => -1
  | d + 1 => if bI (f 0) (nI (8 - d)) = nI 1 ∧ (wkM f d = -1 ∨ ¬ f (2 + (8 - d)) < f (nI 2 + wkM f d).toNatClampNeg) then nI (8 - d) else wkM f d

/-! THE MODEL'S CONSTRUCTOR -/
def iF (k : Nat) : Nat → Int32 := fun j => if 11 ≤ j ∧ j < 11 + k then nI (j - 11) else 0

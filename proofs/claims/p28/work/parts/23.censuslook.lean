/-! THE CLASS'S LOOKS THAT TAKE A CENSUS -/
abbrev CU : Type := (Nat → Int32) × Int32 × Int32
theorem cenV_new {q : Nat → Bool} {mk : Nat → Int32} (h : cenOK q mk 512) : cenV q mk (nI (cN q 512)) (nI 1) := Or.inr ⟨rfl, rfl, h⟩
def ocC (fo tn : Int32) (w : Nat → Int32) (q : Nat → Bool) (k v : Nat) : Int32 := if v = 0 then bI fo (nI k) else if v = 1 then w k else if v = 2 then bI tn (nI k) else sureS q (nI k)
abbrev meS (q : Nat → Bool) (x y : Nat) : Int32 := sS q (fun m => b2 (mt m x y))
def mlC (q : Nat → Bool) (x y : Nat) : Int32 := mxI (meS q x y) (nI (cN q 512) - meS q x y)
def bstC (ask : Nat → Nat → Bool) (wor : Nat → Nat → Int32) (i j : Nat) (st : Int32 × Int32) : Int32 × Int32 := if ask i j = true ∧ ¬ st.2 ≤ wor i j then (nI (10 * i + j), wor i j) else st
def innC (ask : Nat → Nat → Bool) (wor : Nat → Nat → Int32) (i : Nat) (st : Int32 × Int32) : Nat → Int32 × Int32
  | 0 => st
  | m + 1 => bstC ask wor i (i + 1 + m) (innC ask wor i st m)
def outC (ask : Nat → Nat → Bool) (wor : Nat → Nat → Int32) : Nat → Int32 × Int32
  | 0 => (-1, nI 513)
  | i + 1 => innC ask wor i (outC ask wor i) (5 - i)
abbrev askW (t lo hi me : Nat → Int32) (n : Nat) : Nat → Nat → Bool := fun i o => worC t lo hi me n i o
abbrev worW (q : Nat → Bool) (t : Nat → Int32) : Nat → Nat → Int32 := fun i o => mlC q (cl (t i)) (cl (t o))


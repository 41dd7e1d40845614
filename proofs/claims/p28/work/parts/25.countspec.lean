/-! THE CLASS'S COUNTS -/
def coC (fo tn : Int32) (lo hi me : Nat → Int32) (n : Nat) (q : Nat → Bool) (qu gu ri re : Int32) (z v : Nat) : Int32 := match v with
  | 0 => bcn fo
  | 1 => bcn tn
  | 2 => (wd fo 10).2 - (wd fo 10).1 + nI 1
  | 3 => nI n
  | 4 => nI (cN q 512)
  | 5 => fwC tn lo hi me n 9 0 (nI 0)
  | 6 => qu
  | 7 => gu
  | 8 => ri
  | 9 => re
  | _ => nI z
abbrev CIU : Type := (Nat → Nat) × (Nat → Nat) × Nat × (Nat → Nat) × (Nat → Nat) × (Nat → Int32) × (Nat → Nat → Nat) × (Nat → Nat → Nat → Int32)


/-! THE MODEL'S CHANGES, as functions of its rows -/
abbrev ms1 (k : Int32) : Int32 := nI 1 <<< (k &&& 31)
abbrev torn (f : Nat → Int32) (c : Nat) : Prop := bI (f 1) (nI c) = nI 1
abbrev foldG (f : Nat → Int32) (c : Nat) : Nat → Int32 := upd f 0 (f 0 ^^^ ms1 (nI c))
def foldF (f : Nat → Int32) (c : Nat) : Nat → Int32 := if torn f c then upd f 57 (f 57 + nI 1) else zA (upd (foldG f c) (2 + c) (foldG f c (2 + c) + nI 1)) 54
def foldR (f : Nat → Int32) (c : Nat) : Int32 := if torn f c then -1 else bI (zA (upd (foldG f c) (2 + c) (foldG f c (2 + c) + nI 1)) 54 0) (nI c)
def moveF (f : Nat → Int32) (t : Nat) (p : Int32) : Nat → Int32 := zA (upd f (11 + t) p) 54
def pullS (f : Nat → Int32) (z : Nat) : Nat → Int32
  | 0 => nI 0
  | k + 1 => pullS f z k ||| (if bI (f 0) (nI k) = nI 1 ∧ ¬ f (2 + k) < nI (10 - z) then ms1 (nI k) else nI 0)
abbrev pullG (f : Nat → Int32) (x : Int32) : Nat → Int32 := upd f 0 (f 0 &&& (x ^^^ (-1)))
abbrev pullH (f : Nat → Int32) (x : Int32) : Nat → Int32 := upd (pullG f x) 1 (pullG f x 1 ||| x)
def pullF (f : Nat → Int32) (z : Nat) : Nat → Int32 := if pullS f z 9 ≤ 0 then pullH f (pullS f z 9) else zA (pullH f (pullS f z 9)) 54
def zW (f : Nat → Int32) (k : Nat) : Nat → Int32 := fun j => if 2 ≤ j ∧ j < 2 + k then nI 0 else f j
abbrev anewG (f : Nat → Int32) (fo : Int32) : Nat → Int32 := upd (upd f 0 fo) 1 (nI 0)
def anewF (f : Nat → Int32) (fo : Int32) : Nat → Int32 := zA (zW (anewG f fo) 9) 54
abbrev askG (f : Nat → Int32) (n : Nat) (a b : Int32) : Nat → Int32 := upd (upd (upd f (18 + 3 * n) a) (18 + 3 * n + 1) b) (18 + 3 * n + 2) (b2 (tch (f 0) a b))
abbrev askH (f : Nat → Int32) (n : Nat) (a b : Int32) : Nat → Int32 := upd (askG f n a b) 17 (askG f n a b 17 + nI 1)
abbrev refd (f : Nat → Int32) (n : Nat) (a b : Int32) : Prop := n = 12 ∨ ¬ kept f a b n = -1
def askF (f : Nat → Int32) (n : Nat) (a b : Int32) : Nat → Int32 := if refd f n a b then upd f 57 (f 57 + nI 1) else upd (askH f n a b) 54 (askH f n a b 54 + nI 1)
def askR (f : Nat → Int32) (n : Nat) (a b : Int32) : Int32 := if refd f n a b then -1 else b2 (tch (f 0) a b)
abbrev gueG (f : Nat → Int32) : Nat → Int32 := upd f 55 (f 55 + nI 1)
def gueF (f : Nat → Int32) (fo : Int32) : Nat → Int32 := upd (gueG f) 56 (gueG f 56 + if fo = f 0 then nI 1 else nI 0)
def gueR (f : Nat → Int32) (fo : Int32) : Int32 := if fo = f 0 then nI 10 else nI 9 - bitsM (fo ^^^ gueF f fo 0)
theorem b2_p {P : Prop} {hd : Decidable P} (h : ¬ b2 (decide P) = 0) : P := of_decide_eq_true (b2_ne h)
theorem b2_q {P : Prop} {hd : Decidable P} (h : b2 (decide P) = 0) : ¬ P := of_decide_eq_false (b2_eq h)


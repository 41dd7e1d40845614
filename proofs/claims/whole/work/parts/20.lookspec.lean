/-! THE MODEL'S LOOKS, as functions of its rows -/
def tnM (f : Nat → Int32) (q : Int32) : Nat → Int32
  | 0 => nI 0
  | k + 1 => tnM f q k ||| (if f (11 + k) = q then ms1 (nI k) else nI 0)
def opM (f : Nat → Int32) (q v : Nat) : Int32 := if v = 0 then nI 100 + (pw (f 0) q).1 else if v = 1 then tnM f (nI q) 6 else sumI (fun j => b2 (decide ((pw (f 0) j).1 = (pw (f 0) q).1))) 10
abbrev qM (f : Nat → Int32) (n : Nat) : Nat → Bool := fun k => fitM f (nI k) n
def suM (f : Nat → Int32) (n : Nat) (cr : Int32) : Nat → Int32 := sumI (fun k => if qM f n k = true then bI (nI k) cr else nI 0)
def sureM (f : Nat → Int32) (n : Nat) (cr : Int32) : Int32 := if suM f n cr 512 = 0 then nI 0 else if suM f n cr 512 = nI (cN (qM f n) 512) then nI 1 else -1
def ocM (f : Nat → Int32) (n k v : Nat) : Int32 := if v = 0 then bI (f 0) (nI k) else if v = 1 then f (2 + k) else if v = 2 then bI (f 1) (nI k) else sureM f n (nI k)
def obM (f : Nat → Int32) (n : Nat) (x y : Int32) (v : Nat) : Int32 := if v = 0 then offM x y else if v = 1 then offM (plc (f 0) x) (plc (f 0) y) else if v = 2 then b2 (tch (f 0) x y) else kept f x y n
def widM (f : Nat → Int32) : Int32 := (wd (f 0) 10).2 - (wd (f 0) 10).1 + nI 1
def coM (f : Nat → Int32) (n m v : Nat) : Int32 := if v ≤ 1 then bitsM (f v) else if v = 2 then widM f else if v = 3 then f 17 else if v ≤ 5 then fitN f n else if v = 10 then nI m else f (54 + v - 6)
def faM (q : Nat → Bool) (r : Int32) : Nat → Nat → Int32
  | 0, _ => -1
  | n + 1, k => if q k = true ∧ nI (cN q k) = r then nI k else faM q r n (k + 1)
def okT (f : Nat → Int32) : Prop := ∀ t, t < 6 → vp_in (f (11 + t)) 10
abbrev qo (f : Nat → Int32) (k : Nat) : Int32 := f (11 + k / 6)
abbrev qt (f : Nat → Int32) (k : Nat) : Int32 := f (11 + k % 6)
def qask (f : Nat → Int32) (n k : Nat) : Bool := decide (k / 6 < k % 6) && (!decide (qo f k = qt f k) && decide (kept f (qo f k) (qt f k) n = -1))
def qwor (f : Nat → Int32) (n k : Nat) : Int32 := if touN f n (qo f k) (qt f k) ≤ fitN f n - touN f n (qo f k) (qt f k) then fitN f n - touN f n (qo f k) (qt f k) else touN f n (qo f k) (qt f k)
def qsM (f : Nat → Int32) (n : Nat) : Nat → Int32 × Int32
  | 0 => (-1, nI 0)
  | k + 1 => if qask f n k = true ∧ ((qsM f n k).1 = -1 ∨ qwor f n k < (qsM f n k).2) then (nI (10 * (k / 6) + k % 6), qwor f n k) else qsM f n k
theorem addz (x : Int32) : x + nI 0 = x := by rw [show nI 0 = 0 from rfl, Int32.add_zero]

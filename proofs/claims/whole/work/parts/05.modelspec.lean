/-! THE MODEL: what its methods answer, as functions of its rows -/
abbrev an (f : Nat → Int32) (k q : Nat) : Int32 := f (18 + 3 * k + q)
def okA (f : Nat → Int32) : Prop := ∀ k, k < 12 → vp_in (an f k 0) 10 ∧ vp_in (an f k 1) 10
/-- the place of a panel -/
abbrev plc (fo i : Int32) : Int32 := (pw fo i.toNatClampNeg).1
theorem pw_up {fo v : Int32} {q : Nat → Int32} {k : Nat} (hq : ∀ j, j ≤ k → q j = (pw fo j).1) (hv : v = (pw fo (k + 1)).1) : ∀ j, j ≤ k + 1 → upd q (k + 1) v j = (pw fo j).1 := by
  intro j hj
  unfold upd
  by_cases h : j = k + 1
  · rw [if_pos h, h, hv]
  · rw [if_neg h]
    exact hq j (by omega)
def fitM (f : Nat → Int32) (fo : Int32) : Nat → Bool
  | 0 => decide (fo &&& f 1 = nI 0)
  | k + 1 => fitM f fo k && (decide (plc fo (an f k 0) = plc fo (an f k 1)) == decide (an f k 2 = nI 1))
theorem fitM_mono {f : Nat → Int32} {fo : Int32} {k : Nat} (h : fitM f fo k = false) : ∀ {n : Nat}, k ≤ n → fitM f fo n = false := by
  intro n
  induction n with
  | zero => intro hk; rw [← h, show k = 0 by omega]
  | succ n ih =>
    intro hk
    rcases Nat.lt_or_ge n k with q | q
    · rw [← h, show k = n + 1 by omega]
    · rw [fitM, ih q]; rfl
def kept (f : Nat → Int32) (a b : Int32) : Nat → Int32
  | 0 => -1
  | k + 1 => if (an f k 0 = a ∧ an f k 1 = b) ∨ (an f k 0 = b ∧ an f k 1 = a) then an f k 2 else kept f a b k
/-- a stretch copied -/
def cp (d : Nat → Int32) (b : Nat) (s : Nat → Int32) (o k : Nat) : Nat → Int32 := fun j => if b ≤ j ∧ j < b + k then s (o + (j - b)) else d j
theorem cp_0 (d : Nat → Int32) (b : Nat) (s : Nat → Int32) (o : Nat) : cp d b s o 0 = d := by
  funext j; unfold cp; rw [if_neg (by omega)]
theorem cp_s (d : Nat → Int32) (b : Nat) (s : Nat → Int32) (o k : Nat) : upd (cp d b s o k) (b + k) (s (o + k)) = cp d b s o (k + 1) := by
  funext j; unfold cp upd
  by_cases h : j = b + k
  · rw [if_pos h, if_pos (by omega), show o + (j - b) = o + k by omega]
  · rw [if_neg h]
    dsimp only
    by_cases h2 : b ≤ j ∧ j < b + k
    · rw [if_pos h2, if_pos (by omega)]
    · rw [if_neg h2, if_neg (by omega)]
theorem cp_s0 (d : Nat → Int32) (b : Nat) (s : Nat → Int32) (k : Nat) : upd (cp d b s 0 k) (b + k) (s k) = cp d b s 0 (k + 1) := by rw [← cp_s, Nat.zero_add]
theorem cp_sb (d : Nat → Int32) (s : Nat → Int32) (o k : Nat) : upd (cp d 0 s o k) k (s (o + k)) = cp d 0 s o (k + 1) := by rw [← cp_s, Nat.zero_add]
theorem cp_in {d : Nat → Int32} {b : Nat} {s : Nat → Int32} {o k j : Nat} (h : b ≤ j ∧ j < b + k) : cp d b s o k j = s (o + (j - b)) := by unfold cp; rw [if_pos h]
theorem cp_out {d : Nat → Int32} {b : Nat} {s : Nat → Int32} {o k j : Nat} (h : ¬ (b ≤ j ∧ j < b + k)) : cp d b s o k j = d j := by unfold cp; rw [if_neg h]
/-- the answers taken away, up to k -/
def zA (f : Nat → Int32) (k : Nat) : Nat → Int32 := fun j => if 17 ≤ j ∧ j < k then nI 0 else f j
theorem zA_0 (f : Nat → Int32) : zA f 17 = f := by funext j; unfold zA; rw [if_neg (by omega)]
theorem zA_s (f : Nat → Int32) (k : Nat) (h : 17 ≤ k) : upd (zA f k) k (nI 0) = zA f (k + 1) := by
  funext j; unfold zA upd
  by_cases hj : j = k
  · rw [if_pos hj, if_pos (by omega)]
  · rw [if_neg hj]
    dsimp only
    by_cases h2 : 17 ≤ j ∧ j < k
    · rw [if_pos h2, if_pos (by omega)]
    · rw [if_neg h2, if_neg (by omega)]
/-- the saved rows: one more -/
def svm (m : Nat) : Nat := if m = 6 then 5 else m
def svF (sv f : Nat → Int32) (m : Nat) : Nat → Int32 := cp (if m = 6 then cp sv 0 sv 58 290 else sv) (58 * svm m) f 0 58
def tch (fo a b : Int32) : Bool := decide (plc fo a = plc fo b)
def fitN (f : Nat → Int32) (n : Nat) : Int32 := sumI (fun k => b2 (fitM f (nI k) n)) 512
def touN (f : Nat → Int32) (n : Nat) (a b : Int32) : Int32 := sumI (fun k => b2 (fitM f (nI k) n && tch (nI k) a b)) 512
abbrev bitsM (x : Int32) : Int32 := sumI (fun k => bI x (nI k)) 9
abbrev offM (a b : Int32) : Int32 := if b < a then a - b else b - a

/-! THE MODEL'S CHANGES, as functions of its rows -/
abbrev ms1 (k : Int32) : Int32 := nI 1 <<< (k &&& 31)
abbrev torn (f : Nat → Int32) (c : Nat) : Prop := bI (f 1) (nI c) = nI 1
abbrev foldG (f : Nat → Int32) (c : Nat) : Nat → Int32 := upd f 0 (f 0 ^^^ ms1 (nI c))
def foldF (f : Nat → Int32) (c : Nat) : Nat → Int32 := if torn f c then upd f 57 (f 57 + nI 1) else zA (upd (foldG f c) (2 + c) (foldG f c (2 + c) + nI 1)) 54
def foldR (f : Nat → Int32) (c : Nat) : Int32 := if torn f c then -1 else bI (zA (upd (foldG f c) (2 + c) (foldG f c (2 + c) + nI 1)) 54 0) (nI c)
def moveF (f : Nat → Int32) (t : Nat) (p : Int32) : Nat → Int32 := zA (upd f (11 + t) p) 54
def pullS (f : Nat → Int32) (z : Nat) : Nat → Int32
  | 0 => nI 0
  | k + 1 => pullS f z k ||| (if bI (f 0) (nI k) = nI 1 ∧ ¬ f (2 + k) < nI (10 - z) then ms1 (nI k) else nI 0)
abbrev pullG (f : Nat → Int32) (x : Int32) : Nat → Int32 := upd f 0 (f 0 &&& (x ^^^ (-1)))
abbrev pullH (f : Nat → Int32) (x : Int32) : Nat → Int32 := upd (pullG f x) 1 (pullG f x 1 ||| x)
def pullF (f : Nat → Int32) (z : Nat) : Nat → Int32 := if pullS f z 9 ≤ 0 then pullH f (pullS f z 9) else zA (pullH f (pullS f z 9)) 54
def zW (f : Nat → Int32) (k : Nat) : Nat → Int32 := fun j => if 2 ≤ j ∧ j < 2 + k then nI 0 else f j
theorem zW_0 (f : Nat → Int32) : zW f 0 = f := by funext j; unfold zW; rw [if_neg (by omega)]
theorem zW_s (f : Nat → Int32) (k : Nat) : upd (zW f k) (2 + k) (nI 0) = zW f (k + 1) := by
  funext j; unfold zW upd
  by_cases hj : j = 2 + k
  · rw [if_pos hj, if_pos (by omega)]
  · rw [if_neg hj]
    dsimp only
    by_cases h2 : 2 ≤ j ∧ j < 2 + k
    · rw [if_pos h2, if_pos (by omega)]
    · rw [if_neg h2, if_neg (by omega)]
abbrev anewG (f : Nat → Int32) (fo : Int32) : Nat → Int32 := upd (upd f 0 fo) 1 (nI 0)
def anewF (f : Nat → Int32) (fo : Int32) : Nat → Int32 := zA (zW (anewG f fo) 9) 54
abbrev askG (f : Nat → Int32) (n : Nat) (a b : Int32) : Nat → Int32 := upd (upd (upd f (18 + 3 * n) a) (18 + 3 * n + 1) b) (18 + 3 * n + 2) (b2 (tch (f 0) a b))
abbrev askH (f : Nat → Int32) (n : Nat) (a b : Int32) : Nat → Int32 := upd (askG f n a b) 17 (askG f n a b 17 + nI 1)
abbrev refd (f : Nat → Int32) (n : Nat) (a b : Int32) : Prop := n = 12 ∨ ¬ kept f a b n = -1
def askF (f : Nat → Int32) (n : Nat) (a b : Int32) : Nat → Int32 := if refd f n a b then upd f 57 (f 57 + nI 1) else upd (askH f n a b) 54 (askH f n a b 54 + nI 1)
def askR (f : Nat → Int32) (n : Nat) (a b : Int32) : Int32 := if refd f n a b then -1 else b2 (tch (f 0) a b)
abbrev gueG (f : Nat → Int32) : Nat → Int32 := upd f 55 (f 55 + nI 1)
def gueF (f : Nat → Int32) (fo : Int32) : Nat → Int32 := upd (gueG f) 56 (gueG f 56 + if fo = f 0 then nI 1 else nI 0)
def gueR (f : Nat → Int32) (fo : Int32) : Int32 := if fo = f 0 then nI 10 else nI 9 - bitsM (fo ^^^ gueF f fo 0)
/-- a mark of the text -/
def isMk (c : Int32) : Bool := decide (c = nI 124) || decide (c = nI 94)
def isLt (told c : Int32) : Bool := decide (inB c (nI 97) (nI 102)) && decide ((told >>> ((c - nI 97) &&& 31)) &&& nI 1 = 0)
def okc (x : Int32 × Int32) (c : Int32) : Bool := isLt x.1 c || (isMk c && !decide (x.2 = nI 9))
def rst (tx : Nat → Int32) : Nat → Int32 × Int32
  | 0 => (nI 0, nI 0)
  | k + 1 => ((rst tx k).1 ||| (if isLt (rst tx k).1 (tx k) = true then nI 1 <<< ((tx k - nI 97) &&& 31) else nI 0), (rst tx k).2 + (if isLt (rst tx k).1 (tx k) = true then nI 0 else nI 1))
def rgt (tx : Nat → Int32) : Nat → Nat → Nat
  | 0, k => k
  | n + 1, k => if okc (rst tx k) (tx k) = true then rgt tx n (k + 1) else k
theorem rgt_le (tx : Nat → Int32) : ∀ n k, rgt tx n k ≤ k + n := by
  intro n
  induction n with
  | zero => intro k; exact Nat.le_refl k
  | succ n ih =>
    intro k
    rw [rgt]; split
    · have := ih (k + 1); omega
    · omega
theorem rgt_ok {tx : Nat → Int32} : ∀ {n k : Nat}, rgt tx n k = k + n → ∀ j, k ≤ j → j < k + n → okc (rst tx j) (tx j) = true := by
  intro n
  induction n with
  | zero => intro k _ j h1 h2; omega
  | succ n ih =>
    intro k h j h1 h2
    rw [rgt] at h
    split at h
    · rename_i hc
      by_cases hj : j = k
      · rw [hj]; exact hc
      · exact ih (k := k + 1) (by omega) j (by omega) (by omega)
    · omega
abbrev mks (tx : Nat → Int32) (k : Nat) : Int32 := sumI (fun j => b2 (isMk (tx j))) k
def zT (f : Nat → Int32) (k : Nat) : Nat → Int32 := fun j => if 11 ≤ j ∧ j < 11 + k then nI 0 else f j
theorem zT_0 (f : Nat → Int32) : zT f 0 = f := by funext j; unfold zT; rw [if_neg (by omega)]
theorem zT_s (f : Nat → Int32) (k : Nat) : upd (zT f k) (11 + k) (nI 0) = zT f (k + 1) := by
  funext j; unfold zT upd
  by_cases hj : j = 11 + k
  · rw [if_pos hj, if_pos (by omega)]
  · rw [if_neg hj]
    dsimp only
    by_cases h2 : 11 ≤ j ∧ j < 11 + k
    · rw [if_pos h2, if_pos (by omega)]
    · rw [if_neg h2, if_neg (by omega)]
abbrev tix (c : Int32) : Nat := (nI 11 + c - nI 97).toNatClampNeg
/-- the map of the text, so far: panel, folding, the rows -/
def ldS (f tx : Nat → Int32) : Nat → Nat × Int32 × (Nat → Int32)
  | 0 => (0, nI 0, zT f 6)
  | k + 1 => if isMk (tx k) = true then ((ldS f tx k).1 + 1, (ldS f tx k).2.1 ||| (if tx k = nI 94 then ms1 (nI (ldS f tx k).1) else nI 0), (ldS f tx k).2.2) else ((ldS f tx k).1, (ldS f tx k).2.1, upd (ldS f tx k).2.2 (tix (tx k)) (nI (ldS f tx k).1))
theorem ld_t {f tx : Nat → Int32} {k : Nat} (h : isMk (tx k) = true) : ldS f tx (k + 1) = ((ldS f tx k).1 + 1, (ldS f tx k).2.1 ||| (if tx k = nI 94 then ms1 (nI (ldS f tx k).1) else nI 0), (ldS f tx k).2.2) := by rw [ldS, if_pos h]
theorem ld_f {f tx : Nat → Int32} {k : Nat} (h : isMk (tx k) = false) : ldS f tx (k + 1) = ((ldS f tx k).1, (ldS f tx k).2.1, upd (ldS f tx k).2.2 (tix (tx k)) (nI (ldS f tx k).1)) := by rw [ldS, if_neg (by rw [h]; exact Bool.false_ne_true)]
theorem ld_le (f tx : Nat → Int32) : ∀ k, (ldS f tx k).1 ≤ k := by
  intro k
  induction k with
  | zero => exact Nat.le_refl 0
  | succ k ih => rw [ldS]; split <;> simp only <;> omega
def loadF (f tx : Nat → Int32) (lt : Nat) : Nat → Int32 := anewF (ldS f tx lt).2.2 (ldS f tx lt).2.1
/-- a character that is right is a mark or a town's letter -/
theorem okc_c {x : Int32 × Int32} {c : Int32} (h : okc x c = true) (h2 : isMk c = false) : inB c (nI 97) (nI 102) := by
  unfold okc isLt at h
  rw [h2] at h
  simp only [Bool.false_and, Bool.or_false, Bool.and_eq_true, decide_eq_true_eq] at h
  exact h.1
theorem tix_in {c : Int32} (h : inB c (nI 97) (nI 102)) : vp_in (nI 11 + c - nI 97) 58 := by
  obtain ⟨h1, h2⟩ := h
  have h3 : nI 0 ≤ c := Int32.le_trans (by decide) h1
  obtain ⟨j, hj, rfl⟩ := nI_of (Int32.not_lt.mpr h3)
  have q1 : 97 ≤ j := (nI_leI (by omega) hj).mp h1
  have q2 : j ≤ 102 := (nI_leI hj (by omega)).mp h2
  rw [nI_add, pk_sub (by omega)]
  exact vp_in_nI (by omega) (by omega)
theorem inB_n {c lo hi : Nat} (h1 : lo ≤ c) (h2 : c ≤ hi) (h3 : hi < 2 ^ 31) : inB (nI c) (nI lo) (nI hi) := ⟨nI_le h1 (by omega), nI_le h2 h3⟩
theorem b2T {P : Prop} {hd : Decidable P} (h : P) : b2 (decide P) = nI 1 := (b2p h).symm
theorem b2F {P : Prop} {hd : Decidable P} (h : ¬ P) : b2 (decide P) = nI 0 := (b2q h).symm
theorem b2_p {P : Prop} {hd : Decidable P} (h : ¬ b2 (decide P) = 0) : P := of_decide_eq_true (b2_ne h)
theorem b2_q {P : Prop} {hd : Decidable P} (h : b2 (decide P) = 0) : ¬ P := of_decide_eq_false (b2_eq h)

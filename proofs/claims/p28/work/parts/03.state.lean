/-! THE PIECES OF THE WORLD, and small facts of numbers -/
abbrev anW (G : GG) (a : Nat → Nat) (lo hi me : Nat → Int32) (n : Int32) : va_W :=
  [(a 3, .inr (0, [.ref (a 4), .ref (a 5), .ref (a 6), .int n])), (a 4, .inl (G.2.1, 12, .inl lo)), (a 5, .inl (G.2.1, 12, .inl hi)), (a 6, .inl (G.2.1, 12, .inl me))]
abbrev stW (G : GG) (a : Nat → Nat) (fo tn : Int32) (w t lo hi me : Nat → Int32) (n qu gu ri re : Int32) : va_W :=
  [(a 0, .inr (4, [.int fo, .int tn, .ref (a 1), .ref (a 2), .ref (a 3), .int qu, .int gu, .int ri, .int re])), (a 1, .inl (G.2.1, 9, .inl w)), (a 2, .inl (G.2.1, 6, .inl t)), (a 3, .inr (0, [.ref (a 4), .ref (a 5), .ref (a 6), .int n])), (a 4, .inl (G.2.1, 12, .inl lo)), (a 5, .inl (G.2.1, 12, .inl hi)), (a 6, .inl (G.2.1, 12, .inl me))]
abbrev txW (G : GG) (b : Nat → Nat) (sg : Nat → Int32) (ln : Int32) : va_W :=
  [(b 0, .inr (3, [.ref (b 1), .int ln])), (b 1, .inl (G.2.1, 60, .inl sg))]
abbrev ceW (G : GG) (k : Nat → Nat) (mk : Nat → Int32) (cs up : Int32) : va_W :=
  [(k 0, .inr (1, [.ref (k 1), .int cs, .int up])), (k 1, .inl (G.2.1, 512, .inl mk))]
theorem P_nil {G : GG} {H : Heap} : PP G [] H := fun k q h => by simp at h
section CG
variable {p : Program} {l : Launch} {e : Env} {R : Room} {s : State} {m : MethodId} {args : Array Value} {below : List Frame} {meth : Method} {c : Code} {H : Heap} {locs : List Loc} {cells slots : Nat} {Q : State → Prop} {pc : Nat} {ls : Array Slot} {rest : List Value}
theorem lv_cgi {x y : Int32} (h : x = y) (k : W p l e R s m args below meth c H locs cells slots Q (F0 m pc ls (.int y :: rest))) : W p l e R s m args below meth c H locs cells slots Q (F0 m pc ls (.int x :: rest)) := h ▸ k
end CG
theorem iincN (k : Nat) : nI k + Int32.ofInt 1 = nI (k + 1) := nI_1 k
theorem idecN (k : Nat) : nI (k + 1) + Int32.ofInt (-1) = nI k := pk_m1 k
theorem fe {n k : Nat} (c : nI n ≤ nI k) (h1 : n < 2 ^ 31) (h2 : k < 2 ^ 31) : n ≤ k := (nI_leI h1 h2).mp c
theorem fl {n k : Nat} (c : ¬ nI n ≤ nI k) (h1 : n < 2 ^ 31) (h2 : k < 2 ^ 31) : k < n := by
  have := mt (nI_leI h1 h2).mpr c
  omega
theorem nIe {a b : Nat} (c : nI a = nI b) (h1 : a < 2 ^ 31) (h2 : b < 2 ^ 31) : a = b := (nI_eq h1 h2).mp c
/-- a truth as a number -/
def b2 (b : Bool) : Int32 := if b then nI 1 else nI 0
theorem b2t : b2 true = nI 1 := rfl
theorem b2f : b2 false = nI 0 := rfl
theorem b2_ne {b : Bool} (h : ¬ b2 b = 0) : b = true := by cases b <;> first | rfl | exact absurd rfl h
theorem b2_eq {b : Bool} (h : b2 b = 0) : b = false := by cases b <;> first | rfl | exact absurd h (by decide)
theorem b2_nar (b : Bool) : narrow .boolean (.int (b2 b)) = .int (b2 b) := by cases b <;> decide
/-- the bit of a mask -/
abbrev bI (x : Int32) (k : Int32) : Int32 := (x >>> (k &&& 31)) &&& nI 1
/-- a sum over the first numbers -/
def sumI (g : Nat → Int32) : Nat → Int32 | 0 => nI 0 | k + 1 => sumI g k + g k
theorem b2p {P : Prop} {hd : Decidable P} (h : P) : nI 1 = b2 (decide P) := by rw [decide_eq_true h]; rfl
theorem b2q {P : Prop} {hd : Decidable P} (h : ¬ P) : nI 0 = b2 (decide P) := by rw [decide_eq_false h]; rfl
theorem vp_lt {x : Int32} {n : Nat} (h : vp_in x n) : x.toNatClampNeg < n := by
  have := not_or.mp h
  omega
theorem nI_vp {x : Int32} {n : Nat} (h : vp_in x n) (hn : n < 2 ^ 31) : x = nI x.toNatClampNeg := by
  obtain ⟨j, hj, rfl⟩ := vp_in_of h hn
  rw [nI_clamp (by omega)]
abbrev mnI (a b : Int32) : Int32 := if b < a then b else a
abbrev mxI (a b : Int32) : Int32 := if a < b then b else a
def dif (a b : Nat) : Nat := max a b - min a b
theorem mnN (a b : Nat) (ha : a < 2 ^ 30) (hb : b < 2 ^ 30) : mnI (nI a) (nI b) = nI (min a b) := by
  unfold mnI
  by_cases h : nI b < nI a
  · rw [if_pos h, Nat.min_eq_right (Nat.le_of_lt ((nI_ltI (by omega) (by omega)).mp h))]
  · rw [if_neg h, Nat.min_eq_left (by have := mt (nI_ltI (a := b) (b := a) (by omega) (by omega)).mpr h; omega)]
theorem mxN (a b : Nat) (ha : a < 2 ^ 30) (hb : b < 2 ^ 30) : mxI (nI a) (nI b) = nI (max a b) := by
  unfold mxI
  by_cases h : nI a < nI b
  · rw [if_pos h, Nat.max_eq_right (Nat.le_of_lt ((nI_ltI (by omega) (by omega)).mp h))]
  · rw [if_neg h, Nat.max_eq_left (by have := mt (nI_ltI (a := a) (b := b) (by omega) (by omega)).mpr h; omega)]
theorem abN (a b : Nat) (ha : a < 2 ^ 30) (hb : b < 2 ^ 30) : (if 0 ≤ nI a - nI b then nI a - nI b else 0 - (nI a - nI b)) = nI (dif a b) := by
  unfold dif
  by_cases h : a < b
  · rw [if_neg (Int32.not_le.mpr (pk_sneg hb h)), show max a b - min a b = b - a by omega]
    rw [← pk_sub (by omega), Int32.zero_sub, Int32.neg_sub]
  · rw [pk_sub (by omega), if_pos (nI_pos' (by omega)), show max a b - min a b = a - b by omega]
/-- place and way of a strip at the panel k -/
def pw (fo : Int32) : Nat → Int32 × Int32
  | 0 => (nI 0, nI 1)
  | k + 1 => if bI fo (nI k) = nI 1 then ((pw fo k).1, -(pw fo k).2) else ((pw fo k).1 + (pw fo k).2, (pw fo k).2)
theorem pw_t {fo : Int32} {k : Nat} (h : bI fo (nI k) = nI 1) : pw fo (k + 1) = ((pw fo k).1, -(pw fo k).2) := by rw [pw, if_pos h]
theorem pw_f {fo : Int32} {k : Nat} (h : ¬ bI fo (nI k) = nI 1) : pw fo (k + 1) = ((pw fo k).1 + (pw fo k).2, (pw fo k).2) := by rw [pw, if_neg h]
/-- whether two panels lie at one place -/
def mt (fo : Int32) (a b : Nat) : Bool := decide ((pw (fo >>> (nI (min a b) &&& 31)) (dif a b)).1 = 0)
def wd (fo : Int32) : Nat → Int32 × Int32
  | 0 => (nI 0, nI 0)
  | k + 1 => (mnI (wd fo k).1 (pw fo k).1, mxI (wd fo k).2 (pw fo k).1)
theorem wd_1 (fo : Int32) : wd fo 1 = (nI 0, nI 0) := by rw [wd, wd, pw]; decide


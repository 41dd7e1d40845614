/-! PURE FACTS: what the model says and what the class says are one -/
theorem all_of {n : Nat} {p : Nat → Bool} (h : (List.range n).all p = true) {k : Nat} (hk : k < n) : p k = true := List.all_eq_true.mp h k (List.mem_range.mpr hk)
set_option maxRecDepth 100000 in
theorem bcn_all : (List.range 512).all (fun k => decide (bcn (nI k) = bitsM (nI k))) = true := by decide +kernel
theorem bcn_eq {k : Nat} (hk : k < 512) : bcn (nI k) = bitsM (nI k) := of_decide_eq_true (all_of bcn_all hk)
theorem fitN_eq (f : Nat → Int32) (n : Nat) : ∀ k, k ≤ 512 → sumI (fun k => b2 (fitM f (nI k) n)) k = nI (cN (qM f n) k) := by
  intro k
  induction k with
  | zero => intro _; rfl
  | succ k ih =>
    intro hk
    rw [sumI, ih (by omega), cN]
    by_cases h : fitM f (nI k) n = true
    · rw [if_pos (show qM f n k = true from h), h, b2t]
      rw [show nI 1 = Int32.ofInt 1 from by decide]; exact nI_1 _
    · have h2 : fitM f (nI k) n = false := by cases q : fitM f (nI k) n <;> first | rfl | exact absurd q h
      rw [if_neg (show ¬ qM f n k = true from h), h2, b2f, Nat.add_zero]
      exact addz _
/-- the bit of a shifted mask -/
def bshC (fo a k : Nat) : Bool := decide (bI (nI fo >>> (nI a &&& 31)) (nI k) = bI (nI fo) (nI (a + k)))
set_option maxRecDepth 100000 in
theorem bsh_all : (List.range 512).all (fun fo => (List.range 10).all (fun a => (List.range 10).all (fun k => bshC fo a k))) = true := by decide +kernel
theorem bsh_eq {fo a k : Nat} (h1 : fo < 512) (h2 : a < 10) (h3 : k < 10) : bI (nI fo >>> (nI a &&& 31)) (nI k) = bI (nI fo) (nI (a + k)) := of_decide_eq_true (all_of (all_of (all_of bsh_all h1) h2) h3)
theorem pw_sh {fo a : Nat} (h1 : fo < 512) (h2 : a < 10) : ∀ d, d ≤ 10 → ((pw (nI fo) a).2 = nI 1 → pw (nI fo) (a + d) = ((pw (nI fo) a).1 + (pw (nI fo >>> (nI a &&& 31)) d).1, (pw (nI fo >>> (nI a &&& 31)) d).2)) ∧ ((pw (nI fo) a).2 = -1 → pw (nI fo) (a + d) = ((pw (nI fo) a).1 - (pw (nI fo >>> (nI a &&& 31)) d).1, -(pw (nI fo >>> (nI a &&& 31)) d).2)) := by
  intro d
  induction d with
  | zero =>
    intro _
    refine ⟨fun h => ?_, fun h => ?_⟩
    · show pw (nI fo) a = _
      rw [pw]; dsimp only; rw [addz, ← h]
    · show pw (nI fo) a = _
      rw [pw]; dsimp only; rw [show nI 0 = 0 from rfl, Int32.sub_zero, show (-nI 1 : Int32) = -1 from by decide, ← h]
  | succ d ih =>
    intro hd
    obtain ⟨e1, e2⟩ := ih (by omega)
    have hb := bsh_eq (k := d) h1 h2 (by omega)
    refine ⟨fun h => ?_, fun h => ?_⟩
    · have e := e1 h
      by_cases c : bI (nI fo) (nI (a + d)) = nI 1
      · rw [show a + (d + 1) = (a + d) + 1 from rfl, pw_t c, pw_t (hb.trans c), e]
      · rw [show a + (d + 1) = (a + d) + 1 from rfl, pw_f c, pw_f (fun z => c (hb.symm.trans z)), e]; dsimp only; rw [Int32.add_assoc]
    · have e := e2 h
      by_cases c : bI (nI fo) (nI (a + d)) = nI 1
      · rw [show a + (d + 1) = (a + d) + 1 from rfl, pw_t c, pw_t (hb.trans c), e]
      · rw [show a + (d + 1) = (a + d) + 1 from rfl, pw_f c, pw_f (fun z => c (hb.symm.trans z)), e]; dsimp only; rw [Int32.sub_eq_add_neg, Int32.sub_eq_add_neg, Int32.neg_add, Int32.sub_eq_add_neg, Int32.add_assoc]
theorem pw_way (fo : Int32) : ∀ k, (pw fo k).2 = nI 1 ∨ (pw fo k).2 = -1 := by
  intro k
  induction k with
  | zero => exact .inl rfl
  | succ k ih =>
    by_cases c : bI fo (nI k) = nI 1
    · rw [pw_t c]; dsimp only
      rcases ih with h | h
      · right; rw [h]; decide
      · left; rw [h]; decide
    · rw [pw_f c]; exact ih


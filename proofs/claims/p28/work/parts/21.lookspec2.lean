/-! more of the model's looks -/
def wkM (f : Nat → Int32) : Nat → Int32
  | 0 => -1
  | d + 1 => if bI (f 0) (nI (8 - d)) = nI 1 ∧ (wkM f d = -1 ∨ ¬ f (2 + (8 - d)) < f (nI 2 + wkM f d).toNatClampNeg) then nI (8 - d) else wkM f d
def wkc (d : Nat) : Int32 := if d < 9 then nI (8 - d) else -1
theorem wkc_s {d : Nat} (h : d < 9) : nI (8 - d) + Int32.ofInt (-1) = wkc (d + 1) := by
  unfold wkc
  by_cases h2 : d + 1 < 9
  · rw [if_pos h2, show 8 - d = (8 - (d + 1)) + 1 by omega]; exact idecN _
  · rw [if_neg h2, show 8 - d = 0 by omega]; decide
theorem wkc_lt {d : Nat} (h : wkc d < 0) : 9 ≤ d := by
  unfold wkc at h
  by_cases h2 : d < 9
  · rw [if_pos h2] at h; exact absurd h (nI_pos (by omega))
  · omega
theorem wkc_ge {d : Nat} (h : ¬ wkc d < 0) : d < 9 := by
  unfold wkc at h
  by_cases h2 : d < 9
  · exact h2
  · rw [if_neg h2] at h; exact absurd (by decide) h
theorem wkM_in (f : Nat → Int32) : ∀ d, wkM f d = -1 ∨ ∃ j, j < 9 ∧ wkM f d = nI j := by
  intro d
  induction d with
  | zero => exact Or.inl rfl
  | succ d ih =>
    rw [wkM]; split
    · exact Or.inr ⟨8 - d, by omega, rfl⟩
    · exact ih

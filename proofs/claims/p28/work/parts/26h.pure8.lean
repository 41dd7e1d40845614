abbrev fdd (fo : Int32) (j : Nat) : Prop := bI fo (nI j) = nI 1
theorem wkC_is {fo : Int32} {w : Nat → Int32} (hw : ∀ j, j < 9 → ¬ w j ≤ -1) : ∀ k, k ≤ 9 → (wkC fo w k = (-1, -1) ∧ ∀ j, j < k → ¬ fdd fo j) ∨ (∃ r, r < k ∧ wkC fo w k = (nI r, w r) ∧ fdd fo r ∧ ∀ j, j < k → fdd fo j → w j ≤ w r ∧ (j < r → w j < w r)) := by
  intro k
  induction k with
  | zero => intro _; exact .inl ⟨rfl, fun j hj => by omega⟩
  | succ k ih =>
    intro hk
    rw [wkC]
    rcases ih (by omega) with ⟨e, h⟩ | ⟨r, h1, e, h2, h3⟩
    · rw [e]
      by_cases c : bI fo (nI k) = nI 1
      · rw [if_pos ⟨c, hw k (by omega)⟩]
        refine .inr ⟨k, by omega, rfl, c, fun j hj hf => ?_⟩
        rcases Nat.lt_or_ge j k with q | q
        · exact absurd hf (h j q)
        · rw [show j = k by omega]; exact ⟨Int32.le_refl _, fun z => by omega⟩
      · rw [if_neg (fun z => c z.1)]
        refine .inl ⟨rfl, fun j hj => ?_⟩
        rcases Nat.lt_or_ge j k with q | q
        · exact h j q
        · rw [show j = k by omega]; exact c
    · rw [e]
      by_cases c : bI fo (nI k) = nI 1 ∧ ¬ w k ≤ w r
      · rw [if_pos c]
        refine .inr ⟨k, by omega, rfl, c.1, fun j hj hf => ?_⟩
        rcases Nat.lt_or_ge j k with q | q
        · have h4 := (h3 j q hf).1
          have h5 := c.2
          rw [Int32.le_iff_toInt_le] at h4 h5
          rw [Int32.le_iff_toInt_le, Int32.lt_iff_toInt_lt]
          exact ⟨by omega, fun _ => by omega⟩
        · rw [show j = k by omega]; exact ⟨Int32.le_refl _, fun z => by omega⟩
      · rw [if_neg c]
        refine .inr ⟨r, by omega, rfl, h2, fun j hj hf => ?_⟩
        rcases Nat.lt_or_ge j k with q | q
        · exact h3 j q hf
        · have hj2 : j = k := by omega
          subst hj2
          exact ⟨Classical.byContradiction (fun z => c ⟨hf, z⟩), fun z => by omega⟩


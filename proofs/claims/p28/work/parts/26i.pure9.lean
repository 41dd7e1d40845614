theorem wkM_is {f w : Nat → Int32} {fo : Int32} (h0 : f 0 = fo) (hw : ∀ j, j < 9 → f (2 + j) = w j) : ∀ d, d ≤ 9 → (wkM f d = -1 ∧ ∀ j, 9 - d ≤ j → j < 9 → ¬ fdd fo j) ∨ (∃ r, 9 - d ≤ r ∧ r < 9 ∧ wkM f d = nI r ∧ fdd fo r ∧ ∀ j, 9 - d ≤ j → j < 9 → fdd fo j → w j ≤ w r ∧ (j < r → w j < w r)) := by
  intro d
  induction d with
  | zero => intro _; exact .inl ⟨rfl, fun j h1 h2 => by omega⟩
  | succ d ih =>
    intro hd
    rw [wkM, h0, hw (8 - d) (by omega)]
    rcases ih (by omega) with ⟨e, h⟩ | ⟨r, h1, h1b, e, h2, h3⟩
    · rw [e]
      by_cases c : bI fo (nI (8 - d)) = nI 1
      · rw [if_pos ⟨c, .inl rfl⟩]
        refine .inr ⟨8 - d, by omega, by omega, rfl, c, fun j hj hj2 hf => ?_⟩
        rcases Nat.lt_or_ge (8 - d) j with q | q
        · exact absurd hf (h j (by omega) hj2)
        · rw [show j = 8 - d by omega]; exact ⟨Int32.le_refl _, fun z => by omega⟩
      · rw [if_neg (fun z => c z.1)]
        refine .inl ⟨rfl, fun j hj hj2 => ?_⟩
        rcases Nat.lt_or_ge (8 - d) j with q | q
        · exact h j (by omega) hj2
        · rw [show j = 8 - d by omega]; exact c
    · rw [e, show (nI 2 + nI r).toNatClampNeg = 2 + r from of_decide_eq_true (all_of (n := 9) (p := fun r => decide ((nI 2 + nI r).toNatClampNeg = 2 + r)) (by decide +kernel) h1b), hw r h1b]
      have hnr : ¬ nI r = -1 := of_decide_eq_true (all_of (n := 9) (p := fun r => decide (¬ nI r = -1)) (by decide +kernel) h1b)
      by_cases c : bI fo (nI (8 - d)) = nI 1 ∧ ¬ w (8 - d) < w r
      · rw [if_pos ⟨c.1, .inr c.2⟩]
        refine .inr ⟨8 - d, by omega, by omega, rfl, c.1, fun j hj hj2 hf => ?_⟩
        rcases Nat.lt_or_ge (8 - d) j with q | q
        · have h4 := (h3 j (by omega) hj2 hf).1
          have h5 := c.2
          rw [Int32.le_iff_toInt_le] at h4
          rw [Int32.lt_iff_toInt_lt] at h5
          rw [Int32.le_iff_toInt_le]
          exact ⟨by omega, fun _ => by omega⟩
        · rw [show j = 8 - d by omega]; exact ⟨Int32.le_refl _, fun z => by omega⟩
      · rw [if_neg (fun z => c ⟨z.1, z.2.resolve_left hnr⟩)]
        refine .inr ⟨r, by omega, h1b, rfl, h2, fun j hj hj2 hf => ?_⟩
        rcases Nat.lt_or_ge (8 - d) j with q | q
        · exact h3 j (by omega) hj2 hf
        · have hj3 : j = 8 - d := by omega
          subst hj3
          have h5 : w (8 - d) < w r := Classical.byContradiction (fun z => c ⟨hf, z⟩)
          exact ⟨Int32.le_of_lt h5, fun _ => h5⟩
theorem wk_eq {f w : Nat → Int32} {fo : Int32} (h0 : f 0 = fo) (hw : ∀ j, j < 9 → f (2 + j) = w j) (hz : ∀ j, j < 9 → ¬ w j ≤ -1) : wkM f 9 = (wkC fo w 9).1 := by
  rcases wkM_is h0 hw 9 (Nat.le_refl _) with ⟨e, h⟩ | ⟨r, h1, h1b, e, h2, h3⟩
  · rcases wkC_is (fo := fo) hz 9 (Nat.le_refl _) with ⟨e', h'⟩ | ⟨r', h1', e', h2', h3'⟩
    · rw [e, e']
    · exact absurd h2' (h r' (by omega) h1')
  · rcases wkC_is (fo := fo) hz 9 (Nat.le_refl _) with ⟨e', h'⟩ | ⟨r', h1', e', h2', h3'⟩
    · exact absurd h2 (h' r h1b)
    · rw [e, e']
      have a := h3 r' (by omega) h1' h2'
      have b := h3' r h1b h2
      rw [Int32.le_iff_toInt_le, Int32.lt_iff_toInt_lt] at a b
      have : r = r' := by
        rcases Nat.lt_trichotomy r r' with q | q | q
        · have := b.2 q; omega
        · exact q
        · have := a.2 q; omega
      rw [this]


def relQ (x y : Int32 × Int32) : Prop := (x.1 = -1 ∧ y = (-1, nI 513)) ∨ (x = y ∧ ¬ x.1 = -1)
theorem q_step {f : Nat → Int32} {n i j : Nat} {ask : Nat → Nat → Bool} {wor : Nat → Nat → Int32} {y : Int32 × Int32} (hi : i < 6) (hj : j < 6) (ha : qask f n (6 * i + j) = ask i j) (hw : qwor f n (6 * i + j) = wor i j) (hb : ¬ nI 513 ≤ wor i j) (h : relQ (qsM f n (6 * i + j)) y) : relQ (qsM f n (6 * i + j + 1)) (bstC ask wor i j y) := by
  have hn : ¬ nI (10 * i + j) = -1 := of_decide_eq_true (all_of (n := 56) (p := fun r => decide (¬ nI r = -1)) (by decide +kernel) (by omega))
  rw [qsM, show (6 * i + j) / 6 = i by omega, show (6 * i + j) % 6 = j by omega, ha, hw]
  unfold bstC
  by_cases c : ask i j = true
  · rcases h with ⟨h1, h2⟩ | ⟨h1, h2⟩
    · rw [if_pos ⟨c, .inl h1⟩, h2, if_pos ⟨c, hb⟩]
      exact .inr ⟨rfl, hn⟩
    · rw [← h1]
      by_cases d : wor i j < (qsM f n (6 * i + j)).2
      · rw [if_pos ⟨c, .inr d⟩, if_pos ⟨c, by rw [Int32.le_iff_toInt_le]; rw [Int32.lt_iff_toInt_lt] at d; omega⟩]
        exact .inr ⟨rfl, hn⟩
      · rw [if_neg (fun z => d (z.2.resolve_left h2)), if_neg (fun z => d (by have z2 := z.2; rw [Int32.le_iff_toInt_le] at z2; rw [Int32.lt_iff_toInt_lt]; omega))]
        exact .inr ⟨rfl, h2⟩
  · rw [if_neg (fun z => c z.1), if_neg (fun z => c z.1)]
    exact h
theorem q_idle {f : Nat → Int32} {n i : Nat} (hi : i < 6) : ∀ m, m ≤ i + 1 → m ≤ 6 → qsM f n (6 * i + m) = qsM f n (6 * i) := by
  intro m
  induction m with
  | zero => intro _ _; rfl
  | succ m ih =>
    intro h1 h2
    rw [← Nat.add_assoc, qsM, if_neg, ih (by omega) (by omega)]
    intro z
    have z1 := z.1
    unfold qask at z1
    rw [Bool.and_eq_true] at z1
    have z2 := of_decide_eq_true z1.1
    omega
theorem q_inn {f : Nat → Int32} {n i : Nat} {ask : Nat → Nat → Bool} {wor : Nat → Nat → Int32} {y : Int32 × Int32} (hi : i < 6) (ha : ∀ j, i < j → j < 6 → qask f n (6 * i + j) = ask i j) (hw : ∀ j, i < j → j < 6 → qwor f n (6 * i + j) = wor i j) (hb : ∀ j, i < j → j < 6 → ¬ nI 513 ≤ wor i j) (h : relQ (qsM f n (6 * i)) y) : ∀ m, m ≤ 5 - i → relQ (qsM f n (6 * i + (i + 1 + m))) (innC ask wor i y m) := by
  intro m
  induction m with
  | zero => intro _; rw [Nat.add_zero, q_idle hi (i + 1) (Nat.le_refl _) (by omega)]; exact h
  | succ m ih =>
    intro hm
    have e := q_step (i := i) (j := i + 1 + m) (y := innC ask wor i y m) hi (by omega) (ha _ (by omega) (by omega)) (hw _ (by omega) (by omega)) (hb _ (by omega) (by omega)) (ih (by omega))
    exact e
theorem q_eq {f : Nat → Int32} {n : Nat} {ask : Nat → Nat → Bool} {wor : Nat → Nat → Int32} (ha : ∀ i j, i < j → j < 6 → qask f n (6 * i + j) = ask i j) (hw : ∀ i j, i < j → j < 6 → qwor f n (6 * i + j) = wor i j) (hb : ∀ i j, i < j → j < 6 → ¬ nI 513 ≤ wor i j) : ∀ i, i ≤ 6 → relQ (qsM f n (6 * i)) (outC ask wor i) := by
  intro i
  induction i with
  | zero => intro _; exact .inl ⟨rfl, rfl⟩
  | succ i ih =>
    intro h
    have e := q_inn (i := i) (by omega) (ha i) (hw i) (hb i) (ih (by omega)) (5 - i) (Nat.le_refl _)
    rw [show 6 * i + (i + 1 + (5 - i)) = 6 * (i + 1) by omega] at e
    exact e


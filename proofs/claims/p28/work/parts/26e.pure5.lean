theorem mm_iff {x y a b : Int32} (hx : vp_in x 10) (hy : vp_in y 10) (ha : vp_in a 10) (hb : vp_in b 10) : ((x = a ∧ y = b) ∨ (x = b ∧ y = a)) ↔ (mnI x y = mnI a b ∧ mxI x y = mxI a b) := by
  have h1 := vp_lt hx
  have h2 := vp_lt hy
  have h3 := vp_lt ha
  have h4 := vp_lt hb
  rw [nI_vp hx (by decide), nI_vp hy (by decide), nI_vp ha (by decide), nI_vp hb (by decide)]
  rw [mnN _ _ (by omega) (by omega), mxN _ _ (by omega) (by omega), mnN _ _ (by omega) (by omega), mxN _ _ (by omega) (by omega)]
  rw [nI_eq (by omega) (by omega), nI_eq (by omega) (by omega), nI_eq (by omega) (by omega), nI_eq (by omega) (by omega), nI_eq (by omega) (by omega), nI_eq (by omega) (by omega)]
  omega
theorem abt_no {lo hi me : Nat → Int32} {x y : Int32} : ∀ {n k : Nat}, (∀ j, k ≤ j → j < k + n → ¬ (lo j = x ∧ hi j = y)) → abtF lo hi me x y n k = -1 := by
  intro n
  induction n with
  | zero => intro k _; rfl
  | succ n ih =>
    intro k h
    rw [abtF, if_neg (h k (Nat.le_refl k) (by omega))]
    exact ih (fun j h1 h2 => h j (by omega) (by omega))
theorem abt_yes {lo hi me : Nat → Int32} {fo x y : Int32} : ∀ {n k : Nat}, fitC lo hi me fo n k = true → (∃ j, k ≤ j ∧ j < k + n ∧ lo j = x ∧ hi j = y) → abtF lo hi me x y n k = b2 (mt fo (cl x) (cl y)) := by
  intro n
  induction n with
  | zero => intro k _ h; obtain ⟨j, h1, h2, -⟩ := h; omega
  | succ n ih =>
    intro k hf h
    rw [fitC] at hf
    by_cases c : b2 (mt fo (cl (lo k)) (cl (hi k))) = me k
    · rw [if_pos c] at hf
      rw [abtF]
      by_cases d : lo k = x ∧ hi k = y
      · rw [if_pos d, ← c, d.1, d.2]
      · rw [if_neg d]
        obtain ⟨j, h1, h2, h3⟩ := h
        refine ih hf ⟨j, ?_, by omega, h3⟩
        rcases Nat.lt_or_ge k j with q | q
        · exact q
        · exact absurd (show lo k = x ∧ hi k = y from (show j = k by omega) ▸ h3) d
    · rw [if_neg c] at hf; cases hf
theorem kept_no {f : Nat → Int32} {a b : Int32} : ∀ {n : Nat}, (∀ j, j < n → ¬ ((an f j 0 = a ∧ an f j 1 = b) ∨ (an f j 0 = b ∧ an f j 1 = a))) → kept f a b n = -1 := by
  intro n
  induction n with
  | zero => intro _; rfl
  | succ n ih =>
    intro h
    rw [kept, if_neg (h n (by omega))]
    exact ih (fun j hj => h j (by omega))
theorem kept_yes {f lo hi me : Nat → Int32} {fo a b : Int32} (ha : vp_in a 10) (hb : vp_in b 10) : ∀ {n : Nat}, relA f lo hi me n → fitC lo hi me fo n 0 = true → (∃ j, j < n ∧ ((an f j 0 = a ∧ an f j 1 = b) ∨ (an f j 0 = b ∧ an f j 1 = a))) → kept f a b n = b2 (mt fo (cl (mnI a b)) (cl (mxI a b))) := by
  intro n
  induction n with
  | zero => intro _ _ h; obtain ⟨j, h1, -⟩ := h; omega
  | succ n ih =>
    intro hr hf h
    rw [fitC_snoc, Bool.and_eq_true, Nat.zero_add] at hf
    obtain ⟨e1, e2, e3, e4, e5, e6⟩ := hr n (by omega)
    rw [kept]
    by_cases d : (an f n 0 = a ∧ an f n 1 = b) ∨ (an f n 0 = b ∧ an f n 1 = a)
    · rw [if_pos d]
      have q := (mm_iff e5 e6 ha hb).mp d
      rw [← q.1, ← q.2, ← e3, ← of_decide_eq_true hf.2, e1, e2]
    · rw [if_neg d]
      obtain ⟨j, h1, h2⟩ := h
      refine ih (fun k hk => hr k (by omega)) hf.1 ⟨j, ?_, h2⟩
      rcases Nat.lt_or_ge j n with q | q
      · exact q
      · exact absurd ((show j = n by omega) ▸ h2) d
theorem kept_eq {f lo hi me : Nat → Int32} {fo a b : Int32} {n : Nat} (ha : vp_in a 10) (hb : vp_in b 10) (hr : relA f lo hi me n) (hf : fitC lo hi me fo n 0 = true) : kept f a b n = abt lo hi me n a b := by
  by_cases h : ∃ j, j < n ∧ ((an f j 0 = a ∧ an f j 1 = b) ∨ (an f j 0 = b ∧ an f j 1 = a))
  · rw [kept_yes ha hb hr hf h]
    obtain ⟨j, h1, h2⟩ := h
    obtain ⟨e1, e2, e3, e4, e5, e6⟩ := hr j h1
    have q := (mm_iff e5 e6 ha hb).mp h2
    exact (abt_yes hf ⟨j, Nat.zero_le j, by omega, e1.trans q.1, e2.trans q.2⟩).symm
  · rw [kept_no (fun j hj d => h ⟨j, hj, d⟩)]
    refine (abt_no (fun j _ hj d => h ⟨j, by omega, ?_⟩)).symm
    obtain ⟨e1, e2, e3, e4, e5, e6⟩ := hr j (by omega)
    exact (mm_iff e5 e6 ha hb).mpr ⟨e1.symm.trans d.1, e2.symm.trans d.2⟩


/-! THE TEXT: read alike by both -/
/-- a letter, and whether it has been told -/
theorem isLt_iff {told c : Int32} : isLt told c = true ↔ ∃ i, i < 6 ∧ c = nI (97 + i) ∧ bI told (nI i) = 0 := by
  unfold isLt
  rw [Bool.and_eq_true, decide_eq_true_eq, decide_eq_true_eq]
  constructor
  · rintro ⟨⟨h1, h2⟩, h3⟩
    have h4 : nI 0 ≤ c := Int32.le_trans (by decide) h1
    obtain ⟨j, hj, rfl⟩ := nI_of (Int32.not_lt.mpr h4)
    have q1 : 97 ≤ j := (nI_leI (by omega) hj).mp h1
    have q2 : j ≤ 102 := (nI_leI hj (by omega)).mp h2
    refine ⟨j - 97, by omega, by rw [show 97 + (j - 97) = j by omega], ?_⟩
    rw [pk_sub q1] at h3
    exact h3
  · rintro ⟨i, hi, rfl, h3⟩
    refine ⟨inB_n (by omega) (by omega) (by decide), ?_⟩
    rw [pk_sub (by omega), show 97 + i - 97 = i by omega]
    exact h3
theorem isTn_iff {c : Int32} : isTn c = true ↔ ∃ i, i < 6 ∧ c = nI (97 + i) := by
  unfold isTn
  rw [decide_eq_true_eq]
  constructor
  · rintro ⟨h1, h2⟩
    have h1 := Int32.not_lt.mp h1
    have h2 := Int32.not_le.mp h2
    have h4 : nI 0 ≤ c := Int32.le_trans (by decide) h1
    obtain ⟨j, hj, rfl⟩ := nI_of (Int32.not_lt.mpr h4)
    have q1 : 97 ≤ j := (nI_leI (by omega) hj).mp h1
    have q2 : j < 103 := (nI_ltI hj (by omega)).mp h2
    exact ⟨j - 97, by omega, by rw [show 97 + (j - 97) = j by omega]⟩
  · rintro ⟨i, hi, rfl⟩
    exact ⟨nI_nlt (by omega) (by omega), fun h => absurd (fe h (by decide) (by omega)) (by omega)⟩
theorem mk_no {i : Nat} (hi : i < 6) : isMk (nI (97 + i)) = false := of_decide_eq_true (all_of (show (List.range 6).all (fun i => decide (isMk (nI (97 + i)) = false)) = true by decide +kernel) hi)
/-- the mask of the letters told -/
def tmK (T i j : Nat) : Bool := decide ((bI (nI T ||| (nI 1 <<< (nI j &&& 31))) (nI i) = 0) = (bI (nI T) (nI i) = 0 ∧ i ≠ j)) && decide (nI T ||| (nI 1 <<< (nI j &&& 31)) = nI (T ||| 2 ^ j)) && decide (T ||| 2 ^ j < 64)
theorem tm_all : (List.range 64).all (fun T => (List.range 6).all (fun i => (List.range 6).all (fun j => tmK T i j))) = true := by decide +kernel
theorem tm_1 {T i j : Nat} (hT : T < 64) (hi : i < 6) (hj : j < 6) : (bI (nI T ||| (nI 1 <<< (nI j &&& 31))) (nI i) = 0 ↔ (bI (nI T) (nI i) = 0 ∧ i ≠ j)) ∧ nI T ||| (nI 1 <<< (nI j &&& 31)) = nI (T ||| 2 ^ j) ∧ T ||| 2 ^ j < 64 := by
  have h := all_of (all_of (all_of tm_all hT) hi) hj
  unfold tmK at h
  simp only [Bool.and_eq_true, decide_eq_true_eq] at h
  exact ⟨by rw [h.1.1], h.1.2, h.2⟩
/-- the first place of a character -/
theorem ix_spec {sg : Nat → Int32} {c : Int32} : ∀ n k, (∀ j, k ≤ j → j < ixF sg c n k → ¬ sg j = c) ∧ (ixF sg c n k < k + n → sg (ixF sg c n k) = c) ∧ k ≤ ixF sg c n k := by
  intro n
  induction n with
  | zero => intro k; exact ⟨fun j h1 h2 => by rw [ixF] at h2; omega, fun h => by rw [ixF] at h; omega, Nat.le_refl _⟩
  | succ n ih =>
    intro k
    rw [ixF]
    by_cases h : sg k = c
    · rw [if_pos h]
      exact ⟨fun j h1 h2 => by omega, fun _ => h, Nat.le_refl _⟩
    · rw [if_neg h]
      obtain ⟨h1, h2, h3⟩ := ih (k + 1)
      refine ⟨fun j q1 q2 => ?_, fun q => h2 (by omega), by omega⟩
      by_cases e : j = k
      · rw [e]; exact h
      · exact h1 j (by omega) q2
theorem ix_lt {sg : Nat → Int32} {c : Int32} {n k : Nat} (hk : k ≤ n) : ixF sg c n 0 < k ↔ ∃ j, j < k ∧ sg j = c := by
  obtain ⟨h1, h2, -⟩ := ix_spec (sg := sg) (c := c) n 0
  constructor
  · intro h; exact ⟨_, h, h2 (by omega)⟩
  · rintro ⟨j, hj, e⟩
    refine Classical.byContradiction (fun h => h1 j (Nat.zero_le _) (by omega) e)
/-- what has been read of a right text -/
theorem rst_ok {tx : Nat → Int32} : ∀ k, (∀ j, j < k → okc (rst tx j) (tx j) = true) → (rst tx k).2 = nI (cbN tx k) ∧ ∃ T, T < 64 ∧ (rst tx k).1 = nI T ∧ ∀ i, i < 6 → (bI (nI T) (nI i) = 0 ↔ ∀ j, j < k → ¬ tx j = nI (97 + i)) := by
  intro k
  induction k with
  | zero => intro _; exact ⟨rfl, 0, by omega, rfl, fun i hi => ⟨fun _ j hj => by omega, fun _ => of_decide_eq_true (all_of (show (List.range 6).all (fun i => decide (bI (nI 0) (nI i) = 0)) = true by decide +kernel) hi)⟩⟩
  | succ k ih =>
    intro h
    obtain ⟨h1, T, hT, h2, h3⟩ := ih (fun j hj => h j (by omega))
    have hk := h k (by omega)
    rw [rst]
    dsimp only
    by_cases c : isLt (rst tx k).1 (tx k) = true
    · obtain ⟨i, hi, e1, e2⟩ := isLt_iff.mp c
      rw [if_pos c, if_pos c, h1, h2, e1, pk_sub (show 97 ≤ 97 + i by omega), show 97 + i - 97 = i by omega]
      have m0 : isMk (tx k) = false := by rw [e1]; exact mk_no hi
      obtain ⟨-, t2, t3⟩ := tm_1 hT hi hi
      refine ⟨by rw [cb_f m0]; exact addz _, T ||| 2 ^ i, t3, t2, fun i' hi' => ?_⟩
      rw [← t2, (tm_1 hT hi' hi).1, h3 i' hi']
      constructor
      · rintro ⟨q1, q2⟩ j hj
        by_cases e : j = k
        · rw [e, e1]; intro z
          have := nIe z (by omega) (by omega)
          omega
        · exact q1 j (by omega)
      · intro q
        exact ⟨fun j hj => q j (by omega), fun z => q k (by omega) (by rw [e1, z])⟩
    · rw [if_neg c, if_neg c, h1]
      have hm : isMk (tx k) = true := by
        unfold okc at hk
        rw [Bool.or_eq_true, Bool.and_eq_true] at hk
        exact (hk.resolve_left c).1
      refine ⟨by rw [cb_t hm]; exact nI_add _ _, T, hT, by rw [h2]; exact Int32.or_zero, fun i hi => ?_⟩
      rw [h3 i hi]
      constructor
      · intro q j hj
        by_cases e : j = k
        · rw [e]; intro z; rw [z, mk_no hi] at hm; cases hm
        · exact q j (by omega)
      · intro q j hj; exact q j (by omega)
/-- a character is right for the one where it is for the other -/
theorem okc_er {tx : Nat → Int32} {lt k : Nat} (hk : k < lt) (hlt : lt ≤ 60) (h : ∀ j, j < k → okc (rst tx j) (tx j) = true) : erC tx lt k = !okc (rst tx k) (tx k) := by
  obtain ⟨h1, T, hT, h2, h3⟩ := rst_ok k h
  have hc := cb_le tx k
  unfold erC okc
  rw [h1, h2]
  by_cases m : isMk (tx k) = true
  · have l0 : isLt (nI T) (tx k) = false := by
      cases c : isLt (nI T) (tx k)
      · rfl
      · obtain ⟨i, hi, e1, -⟩ := isLt_iff.mp c
        rw [e1, mk_no hi] at m; cases m
    rw [if_pos m, l0, m, Bool.false_or, Bool.true_and, Bool.not_not]
    -- at most nine marks stand in a right text
    have hc9 : cbN tx k ≤ 9 := by
      have : ∀ q, q ≤ k → cbN tx q ≤ 9 := by
        intro q
        induction q with
        | zero => intro _; exact Nat.zero_le _
        | succ q ih =>
          intro hq
          have i1 := ih (by omega)
          have o1 := h q (by omega)
          obtain ⟨g1, -⟩ := rst_ok q (fun j hj => h j (by omega))
          rw [cbN]
          split
          · rename_i m2
            have l2 : isLt (rst tx q).1 (tx q) = false := by
              cases c : isLt (rst tx q).1 (tx q)
              · rfl
              · obtain ⟨i, hi, e1, -⟩ := isLt_iff.mp c
                rw [e1, mk_no hi] at m2; cases m2
            unfold okc at o1
            rw [l2, m2, Bool.false_or, Bool.true_and, g1] at o1
            have : cbN tx q ≠ 9 := fun z => by rw [z] at o1; exact absurd o1 (by decide)
            omega
          · exact i1
      exact this k (Nat.le_refl _)
    rw [decide_eq_decide]
    constructor
    · intro q; rw [show cbN tx k = 9 by omega]
    · intro q; have := nIe q (by omega) (by decide); omega
  · have m0 : isMk (tx k) = false := by cases c : isMk (tx k) <;> first | rfl | exact absurd c m
    rw [if_neg m, m0, Bool.false_and, Bool.or_false]
    by_cases t : isTn (tx k) = true
    · obtain ⟨i, hi, e1⟩ := isTn_iff.mp t
      rw [t, Bool.not_true, Bool.false_or, Bool.eq_iff_iff, decide_eq_true_eq, ix_lt (by omega), Bool.not_eq_true', ← Bool.not_eq_true, isLt_iff]
      constructor
      · rintro ⟨j, hj, e2⟩ ⟨i', hi', e3, e4⟩
        exact (h3 i' hi').mp e4 j hj (e2.trans e3)
      · intro q
        refine Classical.byContradiction (fun z => q ⟨i, hi, e1, (h3 i hi).mpr (fun j hj e2 => z ⟨j, hj, e2.trans e1.symm⟩)⟩)
    · have l0 : isLt (nI T) (tx k) = false := by
        cases c : isLt (nI T) (tx k)
        · rfl
        · obtain ⟨i, hi, e1, -⟩ := isLt_iff.mp c
          exact absurd (isTn_iff.mpr ⟨i, hi, e1⟩) t
      have t0 : isTn (tx k) = false := by cases c : isTn (tx k) <;> first | rfl | exact absurd c t
      rw [t0, l0]; rfl
/-- how far a text is right -/
theorem rgt_er {tx : Nat → Int32} {lt : Nat} (hlt : lt ≤ 60) : ∀ n k, k + n = lt → (∀ j, j < k → okc (rst tx j) (tx j) = true) → rgt tx n k = erI tx lt n k := by
  intro n
  induction n with
  | zero => intro k _ _; rfl
  | succ n ih =>
    intro k hk h
    rw [rgt, erI, okc_er (by omega) hlt h]
    cases c : okc (rst tx k) (tx k)
    · rw [if_neg Bool.false_ne_true, if_pos (show (!false) = true from rfl)]
    · rw [if_pos rfl, if_neg (by decide)]
      exact ih (k + 1) (by omega) (fun j hj => by
        by_cases e : j = k
        · rw [e]; exact c
        · exact h j (by omega))
theorem rgt_eq {tx : Nat → Int32} {lt : Nat} (hlt : lt ≤ 60) : rgt tx lt 0 = erI tx lt lt 0 := rgt_er hlt lt 0 (by omega) (fun j hj => by omega)
theorem mks_eq (tx : Nat → Int32) : ∀ k, mks tx k = nI (cbN tx k) := by
  intro k
  induction k with
  | zero => rfl
  | succ k ih =>
    show mks tx k + b2 (isMk (tx k)) = nI (cbN tx (k + 1))
    rw [ih, cbN]
    cases isMk (tx k)
    · rw [if_neg Bool.false_ne_true]; exact addz _
    · rw [if_pos rfl]; exact nI_add _ _
theorem tls_eq {tx : Nat → Int32} {lt : Nat} (hlt : lt ≤ 60) : (rgt tx lt 0 = lt ∧ mks tx lt = nI 9) ↔ tlsC tx lt = true := by
  unfold tlsC
  rw [rgt_eq hlt, mks_eq, Bool.and_eq_true, decide_eq_true_eq, decide_eq_true_eq]
  have := cb_le tx lt
  exact ⟨fun h => ⟨h.1, nIe h.2 (by omega) (by decide)⟩, fun h => ⟨h.1, by rw [h.2]⟩⟩
theorem ld_1 (f tx : Nat → Int32) : ∀ k, (ldS f tx k).1 = cbN tx k ∧ (ldS f tx k).2.1 = fdC tx k := by
  intro k
  induction k with
  | zero => exact ⟨rfl, rfl⟩
  | succ k ih =>
    rw [fdC]
    cases m : isMk (tx k)
    · rw [ld_f m, cb_f m]
      exact ⟨ih.1, by rw [if_neg (fun z => Bool.false_ne_true z.1)]; exact ih.2⟩
    · rw [ld_t m, cb_t m]
      refine ⟨by rw [ih.1], ?_⟩
      dsimp only
      rw [ih.1, ih.2]
      by_cases e : tx k = nI 94
      · rw [if_pos e, if_pos ⟨rfl, e⟩]
      · rw [if_neg e, if_neg (fun z => e z.2)]; exact Int32.or_zero
theorem tix_at {i : Nat} (hi : i < 6) : tix (nI (97 + i)) = 11 + i := by
  show (nI 11 + nI (97 + i) - nI 97).toNatClampNeg = 11 + i
  rw [nI_add, pk_sub (by omega), show 11 + (97 + i) - 97 = 11 + i by omega, nI_clamp (by omega)]
theorem ld_2 {f tx : Nat → Int32} {lt t : Nat} (hlt : lt ≤ 60) (ht : t < 6) (h : ∀ j, j < lt → okc (rst tx j) (tx j) = true) : ∀ k, k ≤ lt → (ldS f tx k).2.2 (11 + t) = if ixF tx (nI (97 + t)) lt 0 < k then nI (cbN tx (ixF tx (nI (97 + t)) lt 0)) else nI 0 := by
  intro k
  induction k with
  | zero => intro _; rw [if_neg (Nat.not_lt_zero _)]; show zT f 6 (11 + t) = nI 0; unfold zT; rw [if_pos (by omega)]
  | succ k ih =>
    intro hk
    have ih := ih (by omega)
    obtain ⟨s1, s2, -⟩ := ix_spec (sg := tx) (c := nI (97 + t)) lt 0
    cases m : isMk (tx k)
    · rw [ld_f m]
      dsimp only
      obtain ⟨h1, T, hT, h2, h3⟩ := rst_ok k (fun j hj => h j (by omega))
      have ok := h k (by omega)
      unfold okc at ok
      rw [m, Bool.false_and, Bool.or_false] at ok
      obtain ⟨i, hi, e1, e2⟩ := isLt_iff.mp ok
      rw [e1, tix_at hi, (ld_1 f tx k).1]
      by_cases e : i = t
      · subst e
        have hx : ixF tx (nI (97 + i)) lt 0 = k := by
          rw [h2] at e2
          have q := (h3 i hi).mp e2
          have g1 : ixF tx (nI (97 + i)) lt 0 < k + 1 := (ix_lt (by omega)).mpr ⟨k, by omega, e1⟩
          have g2 : ¬ ixF tx (nI (97 + i)) lt 0 < k := fun z => by
            obtain ⟨j, hj, ej⟩ := (ix_lt (show k ≤ lt by omega)).mp z
            exact q j hj ej
          omega
        rw [pk_us, hx, if_pos (by omega)]
      · rw [pk_un (by omega), ih]
        have g : ixF tx (nI (97 + t)) lt 0 ≠ k := fun z => by
          have := s2 (by omega)
          rw [z, e1] at this
          exact e (by have := nIe this (by omega) (by omega); omega)
        by_cases q : ixF tx (nI (97 + t)) lt 0 < k
        · rw [if_pos q, if_pos (by omega)]
        · rw [if_neg q, if_neg (by omega)]
    · rw [ld_t m]
      dsimp only
      rw [ih]
      have g : ixF tx (nI (97 + t)) lt 0 ≠ k := fun z => by
        have := s2 (by omega)
        rw [z] at this
        rw [this, mk_no ht] at m
        cases m
      by_cases q : ixF tx (nI (97 + t)) lt 0 < k
      · rw [if_pos q, if_pos (by omega)]
      · rw [if_neg q, if_neg (by omega)]
/-- the towns of a map that is told -/
theorem ld_t9 {f tx : Nat → Int32} {lt t : Nat} (hlt : lt ≤ 60) (ht : t < 6) (hr : rgt tx lt 0 = lt) : (ldS f tx lt).2.2 (11 + t) = nI (pnC tx lt t) := by
  rw [ld_2 hlt ht (fun j hj => rgt_ok (n := lt) (k := 0) (by omega) j (Nat.zero_le _) (by omega)) lt (Nat.le_refl _)]
  unfold pnC
  split <;> rfl
/-- what the text doesn't touch -/
theorem ld_o {f tx : Nat → Int32} {lt : Nat} (h : ∀ j, j < lt → okc (rst tx j) (tx j) = true) {q : Nat} (hq : q < 11 ∨ 17 ≤ q) : ∀ k, k ≤ lt → (ldS f tx k).2.2 q = f q := by
  intro k
  induction k with
  | zero => intro _; show zT f 6 q = f q; unfold zT; rw [if_neg (by omega)]
  | succ k ih =>
    intro hk
    cases m : isMk (tx k)
    · rw [ld_f m]
      dsimp only
      have ok := h k (by omega)
      unfold okc at ok
      rw [m, Bool.false_and, Bool.or_false] at ok
      obtain ⟨i, hi, e1, -⟩ := isLt_iff.mp ok
      rw [e1, tix_at hi, pk_un (by omega)]
      exact ih (by omega)
    · rw [ld_t m]; exact ih (by omega)

/-! THE LAW'S FACTS, 2: the foldings that fit, told in a row -/
theorem fol_at {q : Nat → Bool} {r : Nat} (hr31 : r < 2 ^ 31) : ∀ n k, k + n = 512 → cN q k ≤ r → r < cN q 512 → ∃ m, k ≤ m ∧ m < 512 ∧ q m = true ∧ cN q m = r ∧ faM q (nI r) n k = nI m := by
  intro n
  induction n with
  | zero =>
    intro k hk hc hr
    rw [show k = 512 by omega] at hc
    omega
  | succ n ih =>
    intro k hk hc hr
    have hk1 := cN_le q k
    rw [faM]
    by_cases h : q k = true ∧ nI (cN q k) = nI r
    · rw [if_pos h]; exact ⟨k, Nat.le_refl _, by omega, h.1, nIe h.2 (by omega) hr31, rfl⟩
    · rw [if_neg h]
      obtain ⟨m, h1, h2, h3, h4, h5⟩ := ih (k + 1) (by omega) (by
        rw [cN]
        by_cases hq : q k = true
        · have hne : cN q k ≠ r := fun e => h ⟨hq, by rw [e]⟩
          rw [if_pos hq]; omega
        · rw [if_neg hq]; omega) hr
      exact ⟨m, by omega, h2, h3, h4, h5⟩
theorem fol_is {q : Nat → Bool} {r : Nat} (hr : r < cN q 512) : ∃ m, m < 512 ∧ q m = true ∧ cN q m = r ∧ faM q (nI r) 512 0 = nI m := by
  have h512 := cN_le q 512
  obtain ⟨m, -, h2, h3, h4, h5⟩ := fol_at (q := q) (r := r) (by omega) 512 0 (by omega) (Nat.zero_le _) hr
  exact ⟨m, h2, h3, h4, h5⟩
theorem cN_up {q : Nat → Bool} {m k : Nat} (hq : q m = true) (h : m < k) : cN q m + 1 ≤ cN q k := by
  have h2 := cN_mono q (m + 1) k (by omega)
  rw [cN, if_pos hq] at h2
  exact h2
theorem fol_no' {q : Nat → Bool} {r : Nat} (hr31 : r < 2 ^ 31) : ∀ n k, k + n = 512 → cN q 512 ≤ r → faM q (nI r) n k = -1 := by
  intro n
  induction n with
  | zero => intro k _ _; rfl
  | succ n ih =>
    intro k hk hr
    have hk1 := cN_le q k
    rw [faM, if_neg ?_]
    · exact ih (k + 1) (by omega) hr
    · intro h
      have h2 := cN_up h.1 (show k < 512 by omega)
      have h3 := nIe h.2 (by omega) hr31
      omega
theorem fol_no (q : Nat → Bool) : faM q (nI (cN q 512)) 512 0 = -1 := by
  have h512 := cN_le q 512
  exact fol_no' (by omega) 512 0 (by omega) (Nat.le_refl _)
theorem cN_lt {q : Nat → Bool} {m m' : Nat} (h : cN q m' < cN q m) : m' < m := by
  rcases Nat.lt_or_ge m' m with z | z
  · exact z
  · have := cN_mono q m m' z; omega
theorem cN_inj {q : Nat → Bool} {m m' : Nat} (h1 : q m = true) (h2 : q m' = true) (e : cN q m = cN q m') : m = m' := by
  rcases Nat.lt_trichotomy m m' with z | z | z
  · have := cN_up h1 z; omega
  · exact z
  · have := cN_up h2 z; omega
abbrev fldF (q : Nat → Bool) (j : Nat) : Int32 := faM q (nI j) 512 0
def anF (q : Nat → Bool) (c : Nat) : Nat → Int32
  | 0 => nI 511
  | r + 1 => anF q c r &&& fldF q (c - 1 - r)
def orF (q : Nat → Bool) (c : Nat) : Nat → Int32
  | 0 => nI 0
  | r + 1 => orF q c r ||| fldF q (c - 1 - r)
theorem b511 : (List.range 10).all (fun k => decide (k = 9) || (511).testBit k) = true := by decide +kernel
theorem anF_bit (q : Nat → Bool) {c : Nat} (hc : cN q 512 = c) : ∀ r, r ≤ c → ∃ A, A < 512 ∧ anF q c r = nI A ∧ ∀ k, k < 9 → (A.testBit k = true ↔ ∀ m, m < 512 → q m = true → c - r ≤ cN q m → m.testBit k = true) := by
  intro r
  induction r with
  | zero =>
    intro _
    refine ⟨511, by omega, rfl, fun k hk => ⟨fun _ m hm hq h => ?_, fun _ => ?_⟩⟩
    · have := cN_up hq hm; omega
    · have h := all_of b511 (show k < 10 by omega)
      rw [Bool.or_eq_true] at h
      rcases h with h | h
      · have := of_decide_eq_true h; omega
      · exact h
  | succ r ih =>
    intro hr
    obtain ⟨A, hA, eA, hb⟩ := ih (by omega)
    obtain ⟨m, hm, hq, hcm, em⟩ := fol_is (q := q) (r := c - 1 - r) (by omega)
    refine ⟨A &&& m, Nat.lt_of_le_of_lt Nat.and_le_left hA, ?_, fun k hk => ?_⟩
    · rw [anF, eA]; show nI A &&& faM q (nI (c - 1 - r)) 512 0 = _; rw [em, nI_and]
    · rw [Nat.testBit_and, Bool.and_eq_true, hb k hk]
      constructor
      · rintro ⟨h1, h2⟩ m' hm' hq' h
        rcases Nat.lt_or_ge (cN q m') (c - r) with z | z
        · rw [cN_inj hq' hq (by omega)]; exact h2
        · exact h1 m' hm' hq' z
      · intro h
        exact ⟨fun m' hm' hq' z => h m' hm' hq' (by omega), h m hm hq (by omega)⟩
theorem orF_bit (q : Nat → Bool) {c : Nat} (hc : cN q 512 = c) : ∀ r, r ≤ c → ∃ A, A < 512 ∧ orF q c r = nI A ∧ ∀ k, k < 9 → (A.testBit k = true ↔ ∃ m, m < 512 ∧ q m = true ∧ c - r ≤ cN q m ∧ m.testBit k = true) := by
  intro r
  induction r with
  | zero =>
    intro _
    refine ⟨0, by omega, rfl, fun k hk => ⟨fun h => ?_, fun h => ?_⟩⟩
    · rw [Nat.zero_testBit] at h; cases h
    · obtain ⟨m, hm, hq, h, -⟩ := h
      have := cN_up hq hm; omega
  | succ r ih =>
    intro hr
    obtain ⟨A, hA, eA, hb⟩ := ih (by omega)
    obtain ⟨m, hm, hq, hcm, em⟩ := fol_is (q := q) (r := c - 1 - r) (by omega)
    refine ⟨A ||| m, Nat.or_lt_two_pow (n := 9) hA hm, ?_, fun k hk => ?_⟩
    · rw [orF, eA]; show nI A ||| faM q (nI (c - 1 - r)) 512 0 = _; rw [em, nI_or]
    · rw [Nat.testBit_or, Bool.or_eq_true, hb k hk]
      constructor
      · rintro (⟨m', hm', hq', z, h⟩ | h)
        · exact ⟨m', hm', hq', by omega, h⟩
        · exact ⟨m, hm, hq, by omega, h⟩
      · rintro ⟨m', hm', hq', z, h⟩
        rcases Nat.lt_or_ge (cN q m') (c - r) with y | y
        · right; rw [← cN_inj hq' hq (by omega)]; exact h
        · exact Or.inl ⟨m', hm', hq', y, h⟩
def bQ (q : Nat → Bool) (k : Nat) : Nat → Bool := fun j => q j && decide (bI (nI j) (nI k) = nI 1)
theorem su_cN (q : Nat → Bool) (k : Nat) : ∀ n, sumI (fun j => if q j = true then bI (nI j) (nI k) else nI 0) n = nI (cN (bQ q k) n) := by
  intro n
  induction n with
  | zero => rfl
  | succ n ih =>
    rw [sumI, ih, cN]
    by_cases hq : q n = true
    · rw [if_pos hq]
      rcases bI_01 (nI n) (nI k) with h | h
      · have e : bQ q k n = false := by
          show (q n && decide (bI (nI n) (nI k) = nI 1)) = false
          rw [h, decide_eq_false (by decide), Bool.and_false]
        rw [h, e, addz]; rfl
      · have e : bQ q k n = true := by
          show (q n && decide (bI (nI n) (nI k) = nI 1)) = true
          rw [hq, decide_eq_true h]; rfl
        rw [h, e, nI_p1]; rfl
    · have hq2 : q n = false := by cases z : q n <;> first | rfl | exact absurd z hq
      have e : bQ q k n = false := by
        show (q n && decide (bI (nI n) (nI k) = nI 1)) = false
        rw [hq2]; rfl
      rw [if_neg hq, e, addz]; rfl
theorem cN_sub {p q : Nat → Bool} : ∀ n, (∀ j, j < n → p j = true → q j = true) → cN p n ≤ cN q n ∧ (cN p n = cN q n → ∀ j, j < n → q j = true → p j = true) := by
  intro n
  induction n with
  | zero => intro _; exact ⟨Nat.le_refl _, fun _ j hj => absurd hj (Nat.not_lt_zero _)⟩
  | succ n ih =>
    intro h
    obtain ⟨h1, h2⟩ := ih (fun j hj => h j (by omega))
    rw [cN, cN]
    by_cases hp : p n = true
    · have hq := h n (by omega) hp
      rw [if_pos hp, if_pos hq]
      refine ⟨by omega, fun e j hj hqj => ?_⟩
      by_cases z : j = n
      · rw [z]; exact hp
      · exact h2 (by omega) j (by omega) hqj
    · rw [if_neg hp]
      by_cases hq : q n = true
      · rw [if_pos hq]; exact ⟨by omega, fun e => by omega⟩
      · rw [if_neg hq]
        refine ⟨by omega, fun e j hj hqj => ?_⟩
        by_cases z : j = n
        · rw [z] at hqj; exact absurd hqj hq
        · exact h2 (by omega) j (by omega) hqj
theorem cN_none {q : Nat → Bool} : ∀ n, (∀ j, j < n → q j = false) → cN q n = 0 := by
  intro n
  induction n with
  | zero => intro _; rfl
  | succ n ih => intro h; rw [cN, ih (fun j hj => h j (by omega)), h n (by omega)]; rfl
theorem bQ_iff {q : Nat → Bool} {k j : Nat} (hj : j < 512) (hk : k < 9) : bQ q k j = true ↔ q j = true ∧ j.testBit k = true := by
  show (q j && decide (bI (nI j) (nI k) = nI 1)) = true ↔ _
  rw [Bool.and_eq_true, decide_eq_true_iff, bit_iff hj (show k < 10 by omega)]
/-- whether a crease is surely folded: the same by all foldings as by those in a row -/
theorem sure_is {q : Nat → Bool} {k c r : Nat} (hk : k < 9) (hc : cN q 512 = c) (hr : r = c) : sureS q (nI k) = if bI (anF q c r) (nI k) = nI 1 then nI 1 else if bI (orF q c r) (nI k) = 0 then nI 0 else -1 := by
  rw [hr]
  obtain ⟨A, hA, eA, hbA⟩ := anF_bit q hc c (Nat.le_refl _)
  obtain ⟨O, hO, eO, hbO⟩ := orF_bit q hc c (Nat.le_refl _)
  have h512 := cN_le q 512
  have hsub := cN_sub (p := bQ q k) (q := q) 512 (fun j hj h => ((bQ_iff hj hk).mp h).1)
  have hb512 := hsub.1
  have e1 : sS q (fun m => bI m (nI k)) = nI (cN (bQ q k) 512) := su_cN q k 512
  unfold sureS
  rw [e1, hc, eA, eO]
  have hall : nI (cN (bQ q k) 512) = nI c ↔ bI (nI A) (nI k) = nI 1 := by
    rw [bit_iff hA (show k < 10 by omega), hbA k hk]
    constructor
    · intro h m hm hq _
      exact ((bQ_iff hm hk).mp (hsub.2 ((nIe h (by omega) (by omega)).trans hc.symm) m hm hq)).2
    · intro h
      have h2 := (cN_sub (p := q) (q := bQ q k) 512 (fun j hj hq => (bQ_iff hj hk).mpr ⟨hq, h j hj hq (by omega)⟩)).1
      rw [show cN (bQ q k) 512 = c by omega]
  have hno : nI (cN (bQ q k) 512) = 0 ↔ bI (nI O) (nI k) = 0 := by
    have z1 : bI (nI O) (nI k) = 0 ↔ ¬ O.testBit k = true := by
      rw [← bit_iff hO (show k < 10 by omega)]
      rcases bI_01 (nI O) (nI k) with h | h
      · rw [h]; exact ⟨fun _ => by decide, fun _ => rfl⟩
      · rw [h]; exact ⟨fun z => absurd z (by decide), fun z => absurd rfl z⟩
    rw [z1, hbO k hk]
    constructor
    · rintro h ⟨m, hm, hq, -, hb⟩
      have h3 := cN_pos (q := bQ q k) ((bQ_iff hm hk).mpr ⟨hq, hb⟩) (n := 512) hm
      have h4 := nIe (show nI (cN (bQ q k) 512) = nI 0 from h) (by omega) (by decide)
      omega
    · intro h
      rw [cN_none 512 (fun j hj => ?_)]
      · rfl
      · cases z : bQ q k j with
        | false => rfl
        | true => exact absurd ⟨j, hj, ((bQ_iff hj hk).mp z).1, by omega, ((bQ_iff hj hk).mp z).2⟩ h
  by_cases h1 : nI (cN (bQ q k) 512) = nI c
  · rw [if_pos h1, if_pos (hall.mp h1)]
  · rw [if_neg h1, if_neg (fun h => h1 (hall.mpr h))]
    by_cases h2 : nI (cN (bQ q k) 512) = 0
    · rw [if_pos h2, if_pos (hno.mp h2)]
    · rw [if_neg h2, if_neg (fun h => h2 (hno.mpr h))]
theorem okg_walk {B : Nat} {g : Nat → Nat → Int32} (h : OKg B g) : fwC (g 0 1) (g 3) (g 4) (g 5) (zN g) 9 0 (nI 0) = nI (cN (zq g) 512) := by
  obtain ⟨b, hb, e⟩ := okg_b h
  have hl := okg_L h
  obtain ⟨-, ⟨f, hR⟩, -⟩ := h
  have h2 := RS_hl hR
  unfold zq
  rw [e]
  exact walk_eq hb hR.1.1 hl h2
theorem zq_pos {B : Nat} {g : Nat → Nat → Int32} (h : OKg B g) : 0 < cN (zq g) 512 := by
  obtain ⟨a, ha, e⟩ := okg_a h
  exact cN_pos (zq_fo h e) (n := 512) ha
theorem share_is {n : Nat} (h0 : n ≠ 0) : FP.ddiv FP.dconst1 (FP.i2d (nI n)) = shV n := by unfold shV; rw [if_neg h0]
theorem lt_nI {a b : Nat} (h : a < b) (hb : b < 2 ^ 31) : ¬ nI b ≤ nI a := fun h2 => by have := fe h2 hb (by omega); omega
/-- at a folding that fits, towns whose answer is kept lie so -/
theorem kp_at {B : Nat} {g : Nat → Nat → Int32} (h : OKg B g) {i o m : Nat} (hi6 : i < 6) (ho : o < 6) (hm : m < 512) (hq : zq g m = true) (hk : ¬ kp g i o = -1) : kp g i o = b2 (decide ((pw (nI m) (cl (g 2 i))).1 = (pw (nI m) (cl (g 2 o))).1)) := by
  rcases kp_fit h hi6 ho (zq_fit hq).1 with z | z
  · exact absurd z hk
  · rw [z, mt_eq hm (vp_lt (okg_P h i hi6)) (vp_lt (okg_P h o ho))]
theorem kp_t {B : Nat} {g : Nat → Nat → Int32} (h : OKg B g) {i o m : Nat} (hi6 : i < 6) (ho : o < 6) (hm : m < 512) (hq : zq g m = true) (hk : ¬ kp g i o = -1) (e : (pw (nI m) (cl (g 2 i))).1 = (pw (nI m) (cl (g 2 o))).1) : kp g i o = nI 1 := by
  rw [kp_at h hi6 ho hm hq hk, decide_eq_true e]; rfl
theorem kp_f {B : Nat} {g : Nat → Nat → Int32} (h : OKg B g) {i o m : Nat} (hi6 : i < 6) (ho : o < 6) (hm : m < 512) (hq : zq g m = true) (hk : ¬ kp g i o = -1) (e : ¬ (pw (nI m) (cl (g 2 i))).1 = (pw (nI m) (cl (g 2 o))).1) : kp g i o = nI 0 := by
  rw [kp_at h hi6 ho hm hq hk, decide_eq_false e]; rfl
theorem anF_s {q : Nat → Bool} {c r m : Nat} (em : faM q (nI (c - 1 - r)) 512 0 = nI m) : anF q c (r + 1) = anF q c r &&& nI m := by
  show anF q c r &&& faM q (nI (c - 1 - r)) 512 0 = _
  rw [em]
theorem orF_s {q : Nat → Bool} {c r m : Nat} (em : faM q (nI (c - 1 - r)) 512 0 = nI m) : orF q c (r + 1) = orF q c r ||| nI m := by
  show orF q c r ||| faM q (nI (c - 1 - r)) 512 0 = _
  rw [em]
theorem isth_no {x c r : Nat} (h : b2 (decide (c - r ≤ x)) = 0) : x < c - r := by
  have h2 := of_decide_eq_false (b2_eq h)
  omega
theorem isth_0 {x c : Nat} (h : x < c) : b2 (decide (c - 0 ≤ x)) = nI 0 := by
  rw [decide_eq_false (by omega)]; rfl
theorem isth_1 {x c r : Nat} (h : ¬ b2 (decide (c - r ≤ x)) = 0) : b2 (decide (c - (r + 1) ≤ x)) = nI 1 := by
  have h2 := of_decide_eq_true (b2_ne h)
  rw [decide_eq_true (by omega)]; rfl
theorem isth_2 {x c r : Nat} (h : b2 (decide (c - r ≤ x)) = 0) (h2 : ¬ x = c - 1 - r) : b2 (decide (c - (r + 1) ≤ x)) = nI 0 := by
  have h3 := isth_no h
  rw [decide_eq_false (by omega)]; rfl
theorem isth_3 {x c r : Nat} (h : x = c - 1 - r) : b2 (decide (c - (r + 1) ≤ x)) = nI 1 := by
  rw [decide_eq_true (by omega)]; rfl

/-! THE LAW'S FACTS, 3: the best question, the weakest crease, the places -/
section QF
variable {B : Nat} {g : Nat → Nat → Int32} {f : Nat → Int32}
abbrev RSg (B : Nat) (g : Nat → Nat → Int32) (f : Nat → Int32) : Prop := RS B (g 0 0) (g 0 1) (g 1) (g 2) (g 3) (g 4) (g 5) (zN g) (g 0 2) (g 0 3) (g 0 4) (g 0 5) f
theorem kp_abt (h : OKg B g) {i o : Nat} (hi6 : i < 6) (ho : o < 6) : kp g i o = abt (g 3) (g 4) (g 5) (zN g) (g 2 i) (g 2 o) := by
  show abt (g 3) (g 4) (g 5) (zN g) (nI (cl (g 2 i))) (nI (cl (g 2 o))) = abt (g 3) (g 4) (g 5) (zN g) (g 2 i) (g 2 o)
  rw [← vp_cl (okg_P h i hi6), ← vp_cl (okg_P h o ho)]
theorem kept_kp (h : OKg B g) (hR : RSg B g f) {i o : Nat} (hi6 : i < 6) (ho : o < 6) : kept f (f (11 + i)) (f (11 + o)) (zN g) = kp g i o := by
  rw [kp_abt h hi6 ho, hR.2.1.2.2.2.2 i hi6, hR.2.1.2.2.2.2 o ho]
  exact kept_eq (okg_P h i hi6) (okg_P h o ho) hR.2.2.2.1.1 hR.2.2.2.1.2
theorem qask_is (h : OKg B g) (hR : RSg B g f) {k : Nat} (hk : k < 36) : qask f (zN g) k = true ↔ (k / 6 < k % 6 ∧ ¬ g 2 (k / 6) = g 2 (k % 6) ∧ kp g (k / 6) (k % 6) = -1) := by
  have h1 : k / 6 < 6 := by omega
  have h2 : k % 6 < 6 := by omega
  unfold qask
  rw [kept_kp h hR h1 h2]
  show (decide (k / 6 < k % 6) && (!decide (f (11 + k / 6) = f (11 + k % 6)) && decide (kp g (k / 6) (k % 6) = -1))) = true ↔ _
  rw [hR.2.1.2.2.2.2 _ h1, hR.2.1.2.2.2.2 _ h2, Bool.and_eq_true, Bool.and_eq_true, decide_eq_true_iff, decide_eq_true_iff, Bool.not_eq_true', decide_eq_false_iff_not]
theorem qwor_is (h : OKg B g) (hR : RSg B g f) {k : Nat} (hk : k < 36) : qwor f (zN g) k = mlC (zq g) (cl (g 2 (k / 6))) (cl (g 2 (k % 6))) := by
  have h1 : k / 6 < 6 := by omega
  have h2 : k % 6 < 6 := by omega
  have e1 : touN f (zN g) (qo f k) (qt f k) = meS (zq g) (cl (g 2 (k / 6))) (cl (g 2 (k % 6))) := lk_tou hR h1 h2
  have e2 : fitN f (zN g) = nI (cN (zq g) 512) := lk_fit hR
  unfold qwor mlC
  rw [e1, e2]
  have e3 : meS (zq g) (cl (g 2 (k / 6))) (cl (g 2 (k % 6))) = nI (cN (tQ (zq g) (cl (g 2 (k / 6))) (cl (g 2 (k % 6)))) 512) := me_cN _ _ _ 512
  have hb := cN_tQ (zq g) (cl (g 2 (k / 6))) (cl (g 2 (k % 6))) 512
  have hc := cN_le (zq g) 512
  rw [e3, pk_sub hb]
  show _ = if _ then _ else _
  by_cases z : cN (tQ (zq g) (cl (g 2 (k / 6))) (cl (g 2 (k % 6)))) 512 ≤ cN (zq g) 512 - cN (tQ (zq g) (cl (g 2 (k / 6))) (cl (g 2 (k % 6)))) 512
  · rw [if_pos (nI_le z (by omega))]
    by_cases y : cN (tQ (zq g) (cl (g 2 (k / 6))) (cl (g 2 (k % 6)))) 512 < cN (zq g) 512 - cN (tQ (zq g) (cl (g 2 (k / 6))) (cl (g 2 (k % 6)))) 512
    · rw [if_pos (nI_lt y (by omega))]
    · rw [if_neg (fun w => y ((nI_ltI (by omega) (by omega)).mp w)), show cN (zq g) 512 - cN (tQ (zq g) (cl (g 2 (k / 6))) (cl (g 2 (k % 6)))) 512 = cN (tQ (zq g) (cl (g 2 (k / 6))) (cl (g 2 (k % 6)))) 512 by omega]
  · rw [if_neg (fun w => z (fe w (by omega) (by omega))), if_neg (fun w => z (Nat.le_of_lt ((nI_ltI (by omega) (by omega)).mp w)))]
theorem qs_no (h : OKg B g) (hR : RSg B g f) {k : Nat} (hk : k < 36) (hn : ¬ (k / 6 < k % 6 ∧ ¬ g 2 (k / 6) = g 2 (k % 6) ∧ kp g (k / 6) (k % 6) = -1)) : qsM f (zN g) (k + 1) = qsM f (zN g) k := by
  rw [qsM, if_neg (fun z => hn ((qask_is h hR hk).mp z.1))]
theorem qs_keep (h : OKg B g) (hR : RSg B g f) {k : Nat} (hk : k < 36) (h1 : ¬ (qsM f (zN g) k).1 = -1) (h2 : (qsM f (zN g) k).2 ≤ mlC (zq g) (cl (g 2 (k / 6))) (cl (g 2 (k % 6)))) : qsM f (zN g) (k + 1) = qsM f (zN g) k := by
  rw [qsM, if_neg (fun z => z.2.elim h1 (fun w => Int32.not_lt.mpr h2 (by rw [← qwor_is h hR hk]; exact w)))]
theorem qs_yes (h : OKg B g) (hR : RSg B g f) {k : Nat} (hk : k < 36) (h1 : k / 6 < k % 6) (h2 : ¬ g 2 (k / 6) = g 2 (k % 6)) (h3 : kp g (k / 6) (k % 6) = -1) (h4 : (qsM f (zN g) k).1 = -1 ∨ ¬ (qsM f (zN g) k).2 ≤ mlC (zq g) (cl (g 2 (k / 6))) (cl (g 2 (k % 6)))) :
    qsM f (zN g) (k + 1) = (nI (10 * (k / 6) + k % 6), mlC (zq g) (cl (g 2 (k / 6))) (cl (g 2 (k % 6)))) := by
  rw [qsM, if_pos ⟨(qask_is h hR hk).mpr ⟨h1, h2, h3⟩, h4.imp id (fun w => by rw [qwor_is h hR hk]; exact Int32.not_le.mp w)⟩, qwor_is h hR hk]
theorem ml_a {q : Nat → Bool} {x y : Nat} (h : ¬ nI (cN (tQ q x y) 512 * 2) ≤ nI (cN q 512)) : nI (cN (tQ q x y) 512) = mlC q x y := by
  have hb := cN_tQ q x y 512
  have hc := cN_le q 512
  have e3 : meS q x y = nI (cN (tQ q x y) 512) := me_cN _ _ _ 512
  have h2 := fl h (by omega) (by omega)
  unfold mlC
  rw [e3, pk_sub hb, mxN _ _ (by omega) (by omega), show max (cN (tQ q x y) 512) (cN q 512 - cN (tQ q x y) 512) = cN (tQ q x y) 512 by omega]
theorem ml_b {q : Nat → Bool} {x y : Nat} (h : nI (cN (tQ q x y) 512 * 2) ≤ nI (cN q 512)) : nI (cN q 512 - cN (tQ q x y) 512) = mlC q x y := by
  have hb := cN_tQ q x y 512
  have hc := cN_le q 512
  have e3 : meS q x y = nI (cN (tQ q x y) 512) := me_cN _ _ _ 512
  have h2 := fe h (by omega) (by omega)
  unfold mlC
  rw [e3, pk_sub hb, mxN _ _ (by omega) (by omega), show max (cN (tQ q x y) 512) (cN q 512 - cN (tQ q x y) 512) = cN q 512 - cN (tQ q x y) 512 by omega]
/-- the weakest crease, from the last one on -/
def wkL (fo : Int32) (w : Nat → Int32) : Nat → Int32
  | 0 => -1
  | d + 1 => if bI fo (nI (8 - d)) = nI 1 ∧ (wkL fo w d = -1 ∨ ¬ w (8 - d) < w (cl (wkL fo w d))) then nI (8 - d) else wkL fo w d
theorem wkL_M (hR : RSg B g f) : ∀ d, d ≤ 9 → wkL (g 0 0) (g 1) d = wkM f d := by
  intro d
  induction d with
  | zero => intro _; rfl
  | succ d ih =>
    intro hd
    have ih := ih (by omega)
    rw [wkL, wkM, ih, hR.2.1.1, hR.2.1.2.2.2.1 (8 - d) (by omega)]
    rcases wkM_in f d with h | ⟨j, hj, h⟩
    · rw [h]
      by_cases c : bI (g 0 0) (nI (8 - d)) = nI 1
      · rw [if_pos ⟨c, Or.inl rfl⟩, if_pos ⟨c, Or.inl rfl⟩]
      · rw [if_neg (fun z => c z.1), if_neg (fun z => c z.1)]
    · rw [h, show (nI 2 + nI j) = nI (2 + j) from nI_add 2 j, show cl (nI j) = j from nI_clamp (by omega), nI_clamp (show 2 + j < 2 ^ 31 by omega), hR.2.1.2.2.2.1 j hj]
theorem wkL_in (fo : Int32) (w : Nat → Int32) : ∀ d, wkL fo w d = -1 ∨ ∃ j, j < 9 ∧ wkL fo w d = nI j := by
  intro d
  induction d with
  | zero => exact Or.inl rfl
  | succ d ih =>
    rw [wkL]; split
    · exact Or.inr ⟨8 - d, by omega, rfl⟩
    · exact ih
theorem wkL_eq (hB : B < 2 ^ 31) (h : OKg B g) : wkL (g 0 0) (g 1) 9 = (wkC (g 0 0) (g 1) 9).1 := by
  obtain ⟨-, ⟨f, hR⟩, -⟩ := h
  rw [wkL_M hR 9 (Nat.le_refl 9)]
  exact lk_wk hR hB
theorem orD_tn (h : OKg B g) : orD (fun k => bI (g 0 1) (nI k)) 9 = g 0 1 := by
  obtain ⟨a, ha, e⟩ := okg_b h
  rw [e]; exact orD_eq ha
theorem okg_d (h : OKg B g) : g 0 0 &&& g 0 1 = 0 := by obtain ⟨-, ⟨f, hR⟩, -⟩ := h; exact hR.1.2.2.2
theorem bits_fo (h : OKg B g) : bcn (g 0 0) = bitsL (g 0 0) := by
  obtain ⟨a, ha, e⟩ := okg_a h
  rw [e]; exact (bitsL_eq ha).symm
theorem bits_tn (h : OKg B g) : bcn (g 0 1) = bitsL (g 0 1) := by
  obtain ⟨a, ha, e⟩ := okg_b h
  rw [e]; exact (bitsL_eq ha).symm
theorem n12 (h : OKg B g) : ¬ nI 12 < g 0 6 := by
  have hn := okg_n h
  rw [h.1]
  exact fun z => by have := (nI_ltI (by omega) (by omega)).mp z; omega
theorem th_eq (h : OKg B g) {p : Nat} (hp : p < 10) : sumI (fun j => b2 (mt (g 0 0) p j)) 10 = sumI (fun j => b2 (decide (atF (g 0 0) j = atF (g 0 0) p))) 10 := by
  obtain ⟨a, ha, e⟩ := okg_a h
  rw [e]
  refine sum_eq (fun j hj => ?_)
  rw [mt_eq ha hp hj]
  exact congrArg b2 (decide_eq_decide.mpr eq_comm)
theorem sI_t {f : Nat → Int32} {k : Nat} {x : Int32} (h : f k = x) : sumI f (k + 1) = sumI f k + x := by rw [sumI, h]
theorem wd_1t {fo : Int32} {p : Nat} (h : ¬ (wd fo p).1 ≤ atF fo p) : atF fo p = (wd fo (p + 1)).1 := by
  rw [wd]; show _ = if _ then _ else _; rw [if_pos (Int32.not_le.mp h)]
theorem wd_1f {fo : Int32} {p : Nat} (h : (wd fo p).1 ≤ atF fo p) : (wd fo p).1 = (wd fo (p + 1)).1 := by
  rw [wd]; show _ = if _ then _ else _; rw [if_neg (Int32.not_lt.mpr h)]
theorem wd_2t {fo : Int32} {p : Nat} (h : ¬ atF fo p ≤ (wd fo p).2) : atF fo p = (wd fo (p + 1)).2 := by
  rw [wd]; show _ = if _ then _ else _; rw [if_pos (Int32.not_le.mp h)]
theorem wd_2f {fo : Int32} {p : Nat} (h : atF fo p ≤ (wd fo p).2) : (wd fo p).2 = (wd fo (p + 1)).2 := by
  rw [wd]; show _ = if _ then _ else _; rw [if_neg (Int32.not_lt.mpr h)]
theorem of_gt {x y z : Int32} (e : offM x y = z) (h : ¬ x ≤ y) : x - y = z := by
  rw [← e]; show _ = if _ then _ else _; rw [if_pos (Int32.not_le.mp h)]
theorem of_le {x y z : Int32} (e : offM x y = z) (h : x ≤ y) : y - x = z := by
  rw [← e]; show _ = if _ then _ else _; rw [if_neg (Int32.not_lt.mpr h)]
theorem al_e (h : OKg B g) {i o : Nat} (hi6 : i < 6) (ho : o < 6) : offM (g 2 i) (g 2 o) = abI (g 2 i - g 2 o) := off_eq (okg_P h i hi6) (okg_P h o ho)
theorem of_e (h : OKg B g) {i o : Nat} (hi6 : i < 6) (ho : o < 6) : offM (atF (g 0 0) (cl (g 2 i))) (atF (g 0 0) (cl (g 2 o))) = abI (atF (g 0 0) (cl (g 2 i)) - atF (g 0 0) (cl (g 2 o))) := by
  obtain ⟨a, ha, e⟩ := okg_a h
  rw [e]; exact plo_eq ha (vp_lt (okg_P h i hi6)) (vp_lt (okg_P h o ho))
theorem ab_0 (x y : Int32) : abI (x - y) = 0 ↔ x = y := by
  have h1 : x - y = 0 ↔ x = y := by
    constructor
    · intro h
      have h2 := congrArg (· + y) h
      simpa using h2
    · intro h; rw [h, Int32.sub_self]
  rw [← h1]
  show (if 0 ≤ x - y then x - y else 0 - (x - y)) = 0 ↔ _
  by_cases z : 0 ≤ x - y
  · rw [if_pos z]
  · rw [if_neg z]
    constructor
    · intro h
      have h2 := congrArg (fun v => 0 - v) h
      simpa using h2
    · intro h; rw [h]; rfl
theorem off_mt (h : OKg B g) {i o : Nat} (hi6 : i < 6) (ho : o < 6) : b2 (mt (g 0 0) (cl (g 2 i)) (cl (g 2 o))) = b2 (decide (abI (atF (g 0 0) (cl (g 2 i)) - atF (g 0 0) (cl (g 2 o))) = 0)) := by
  obtain ⟨a, ha, e⟩ := okg_a h
  rw [e, mt_eq ha (vp_lt (okg_P h i hi6)) (vp_lt (okg_P h o ho))]
  exact congrArg b2 (decide_eq_decide.mpr (ab_0 _ _).symm)
theorem kp_off (h : OKg B g) {i o : Nat} (hi6 : i < 6) (ho : o < 6) (hk : ¬ kp g i o = -1) : kp g i o = b2 (decide (abI (atF (g 0 0) (cl (g 2 i)) - atF (g 0 0) (cl (g 2 o))) = 0)) := by
  rcases kp_fit h hi6 ho (fit_fo h) with z | z
  · exact absurd z hk
  · rw [z]; exact off_mt h hi6 ho
/-- how many pairs of towns have an answer that is kept -/
def cnA (g : Nat → Nat → Int32) : Nat → Nat
  | 0 => 0
  | k + 1 => cnA g k + (if kp g (k / 6) (k % 6) = -1 then 0 else 1)
theorem cnA_t {k : Nat} (h : kp g (k / 6) (k % 6) = -1) : cnA g (k + 1) = cnA g k + 0 := by rw [cnA, if_pos h]
theorem cnA_f {k : Nat} (h : ¬ kp g (k / 6) (k % 6) = -1) : cnA g (k + 1) = cnA g k + 1 := by rw [cnA, if_neg h]
theorem cnA_le (g : Nat → Nat → Int32) : ∀ k, cnA g k ≤ k := by
  intro k
  induction k with
  | zero => exact Nat.le_refl 0
  | succ k ih => rw [cnA]; split <;> omega
theorem cnA_up {j : Nat} (h : ¬ kp g (j / 6) (j % 6) = -1) : ∀ k, j < k → 0 < cnA g k := by
  intro k
  induction k with
  | zero => intro hj; exact absurd hj (Nat.not_lt_zero _)
  | succ k ih =>
    intro hj
    by_cases z : j = k
    · rw [← z, cnA_f h]; omega
    · have := ih (by omega); rw [cnA]; omega
theorem cnA_0 (h0 : zN g = 0) : ∀ k, cnA g k = 0 := by
  intro k
  induction k with
  | zero => rfl
  | succ k ih =>
    rw [cnA_t, ih]
    show abtF _ _ _ _ _ (zN g) 0 = -1
    rw [h0]; rfl
theorem cnA_iff (h : OKg B g) : nI (cnA g 36) = 0 ↔ g 0 6 = 0 := by
  have hn := okg_n h
  have hc := cnA_le g 36
  rw [h.1]
  constructor
  · intro z
    have z := nIe (show nI (cnA g 36) = nI 0 from z) (by omega) (by decide)
    rcases Nat.eq_zero_or_pos (zN g) with y | y
    · rw [y]; rfl
    · obtain ⟨i, o, hi6, ho, e1, e2⟩ := h.2.2 0 y
      have hy := abt_yes (fit_fo h) ⟨0, Nat.zero_le _, by omega, e1, e2⟩
      have hk : ¬ kp g ((6 * i + o) / 6) ((6 * i + o) % 6) = -1 := by
        rw [show (6 * i + o) / 6 = i by omega, show (6 * i + o) % 6 = o by omega, kp_abt h hi6 ho]
        intro w
        have w2 : b2 (mt (g 0 0) (cl (mnI (g 2 i) (g 2 o))) (cl (mxI (g 2 i) (g 2 o)))) = -1 := hy.symm.trans w
        rcases b2_01 (mt (g 0 0) (cl (mnI (g 2 i) (g 2 o))) (cl (mxI (g 2 i) (g 2 o)))) with v | v
        · rw [v] at w2; exact absurd w2 (by decide)
        · rw [v] at w2; exact absurd w2 (by decide)
      have := cnA_up hk 36 (by omega)
      omega
  · intro z
    rw [cnA_0 (nIe (show nI (zN g) = nI 0 from z) (by omega) (by decide)) 36]; rfl
end QF

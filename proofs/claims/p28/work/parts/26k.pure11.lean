theorem tou_eq {f : Nat → Int32} {n : Nat} {x y : Int32} (hx : vp_in x 10) (hy : vp_in y 10) : touN f n x y = meS (qM f n) (cl x) (cl y) := by
  refine sum_eq (fun j hj => ?_)
  rw [tch_eq hj hx hy]
  show _ = if fitM f (nI j) n = true then b2 (mt (nI j) (cl x) (cl y)) else nI 0
  cases fitM f (nI j) n
  · rw [if_neg (by decide)]; rfl
  · rw [if_pos rfl, Bool.true_and]
def tQ (q : Nat → Bool) (x y : Nat) : Nat → Bool := fun j => q j && mt (nI j) x y
theorem me_cN (q : Nat → Bool) (x y : Nat) : ∀ k, sumI (fun j => if q j = true then b2 (mt (nI j) x y) else nI 0) k = nI (cN (tQ q x y) k) := by
  intro k
  induction k with
  | zero => rfl
  | succ k ih =>
    rw [sumI, ih, cN]
    unfold tQ
    cases q k
    · rw [if_neg (by decide), Bool.false_and, if_neg (by decide), Nat.add_zero]; exact addz _
    · rw [if_pos rfl, Bool.true_and]
      cases mt (nI k) x y
      · rw [if_neg (by decide), Nat.add_zero]; exact addz _
      · rw [if_pos rfl, b2t, show nI 1 = Int32.ofInt 1 from by decide]; exact nI_1 _
theorem cN_tQ (q : Nat → Bool) (x y : Nat) : ∀ k, cN (tQ q x y) k ≤ cN q k := by
  intro k
  induction k with
  | zero => exact Nat.le_refl _
  | succ k ih =>
    rw [cN, cN]
    unfold tQ at *
    cases q k
    · rw [Bool.false_and]; omega
    · rw [Bool.true_and, if_pos rfl]; split <;> omega
set_option maxRecDepth 10000 in
theorem nI_sb {a b : Nat} (h : b ≤ a) : nI a - nI b = nI (a - b) := by
  have e : nI (a - b) + nI b = nI a := by
    rw [show nI a = nI ((a - b) + b) by rw [Nat.sub_add_cancel h]]
    exact (Int32.ofNat_add _ _).symm
  rw [← e, Int32.add_sub_cancel]
theorem ml_lt (q : Nat → Bool) (x y : Nat) : ¬ nI 513 ≤ mlC q x y := by
  unfold mlC
  rw [show meS q x y = nI (cN (tQ q x y) 512) from me_cN q x y 512, nI_sb (cN_tQ q x y 512)]
  have h1 := cN_le q 512
  have h2 := cN_tQ q x y 512
  rw [mxN _ _ (by omega) (by omega)]
  intro z
  have := fe z (by decide) (by omega)
  omega
theorem wor_eq {f : Nat → Int32} {n : Nat} {x y : Int32} (hx : vp_in x 10) (hy : vp_in y 10) : (if touN f n x y ≤ fitN f n - touN f n x y then fitN f n - touN f n x y else touN f n x y) = mlC (qM f n) (cl x) (cl y) := by
  unfold mlC
  rw [tou_eq hx hy, show fitN f n = nI (cN (qM f n) 512) from fitN_eq f n 512 (Nat.le_refl _)]
  generalize meS (qM f n) (cl x) (cl y) = a
  generalize nI (cN (qM f n) 512) - a = b
  unfold mxI
  by_cases h : a ≤ b
  · rw [if_pos h]
    by_cases h2 : a < b
    · rw [if_pos h2]
    · rw [if_neg h2]
      rw [Int32.le_iff_toInt_le] at h
      rw [Int32.lt_iff_toInt_lt] at h2
      exact Int32.toInt_inj.mp (by omega)
  · rw [if_neg h, if_neg (fun z => h (Int32.le_of_lt z))]


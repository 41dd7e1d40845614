/-! PURE FACTS: where two predicates are one below 512; bits -/
theorem q_eq9 {f lo hi me : Nat → Int32} {tn : Int32} {n : Nat} (h1 : f 1 = tn) (hr : relA f lo hi me n) : ∀ k, k < 512 → qM f n k = qS tn lo hi me n k := fun k hk => by
  show fitM f (nI k) n = fitS tn lo hi me n (nI k)
  rw [fit_eq hk n hr, h1]
theorem cN_cg {q q' : Nat → Bool} (e : ∀ k, k < 512 → q k = q' k) : ∀ k, k ≤ 512 → cN q k = cN q' k := by
  intro k
  induction k with
  | zero => intro _; rfl
  | succ k ih => intro hk; rw [cN, cN, ih (by omega), e k (by omega)]
theorem sS_cg {q q' : Nat → Bool} (e : ∀ k, k < 512 → q k = q' k) (g : Int32 → Int32) : sS q g = sS q' g := sum_eq (fun j hj => by rw [e j hj])
theorem meS_cg {q q' : Nat → Bool} (e : ∀ k, k < 512 → q k = q' k) (x y : Nat) : meS q x y = meS q' x y := sS_cg e _
theorem mlC_cg {q q' : Nat → Bool} (e : ∀ k, k < 512 → q k = q' k) (x y : Nat) : mlC q x y = mlC q' x y := by
  unfold mlC
  rw [meS_cg e, cN_cg e 512 (Nat.le_refl _)]
theorem worW_cg {q q' : Nat → Bool} (e : ∀ k, k < 512 → q k = q' k) (t : Nat → Int32) : worW q t = worW q' t := by
  funext i o
  exact mlC_cg e _ _
/-! bits of numbers below 512 -/
def bitK (m j : Nat) : Bool := decide (bI (nI m) (nI j) = nI (m / 2 ^ j % 2))
set_option maxRecDepth 100000 in
theorem bit_all : (List.range 512).all (fun m => (List.range 10).all (fun j => bitK m j)) = true := by decide +kernel
theorem bit_eq {m j : Nat} (hm : m < 512) (hj : j < 10) : bI (nI m) (nI j) = nI (m / 2 ^ j % 2) := of_decide_eq_true (all_of (all_of bit_all hm) hj)
theorem bit_iff {m j : Nat} (hm : m < 512) (hj : j < 10) : bI (nI m) (nI j) = nI 1 ↔ m.testBit j = true := by
  rw [bit_eq hm hj, Nat.testBit_eq_decide_div_mod_eq, decide_eq_true_eq]
  have h2 : m / 2 ^ j % 2 < 2 := Nat.mod_lt _ (by omega)
  constructor
  · intro h; exact nIe h (by omega) (by omega)
  · intro h; rw [h]
theorem nI_and (a b : Nat) : nI a &&& nI b = nI (a &&& b) := by
  apply Int32.toBitVec_inj.mp
  exact (BitVec.ofNat_and).symm
theorem nI_or (a b : Nat) : nI a ||| nI b = nI (a ||| b) := by
  apply Int32.toBitVec_inj.mp
  exact (BitVec.ofNat_or).symm
theorem nI_xor (a b : Nat) : nI a ^^^ nI b = nI (a ^^^ b) := by
  apply Int32.toBitVec_inj.mp
  exact (BitVec.ofNat_xor).symm
theorem and0_iff {a b : Nat} (ha : a < 512) (hb : b < 512) : nI a &&& nI b = 0 ↔ ∀ j, j < 9 → ¬ (bI (nI a) (nI j) = nI 1 ∧ bI (nI b) (nI j) = nI 1) := by
  have hab : a &&& b < 512 := Nat.lt_of_le_of_lt Nat.and_le_left ha
  rw [nI_and, show (0 : Int32) = nI 0 from rfl, nI_eq (by omega) (by omega)]
  constructor
  · intro h j hj h2
    rw [bit_iff ha (by omega), bit_iff hb (by omega)] at h2
    have h3 := congrArg (fun z => z.testBit j) h
    simp only [Nat.testBit_and, h2.1, h2.2, Bool.and_self, Nat.zero_testBit] at h3
    exact Bool.false_ne_true h3.symm
  · intro h
    apply Nat.eq_of_testBit_eq
    intro j
    rw [Nat.testBit_and, Nat.zero_testBit]
    by_cases hj : j < 9
    · have h2 := h j hj
      rw [bit_iff ha (by omega), bit_iff hb (by omega)] at h2
      cases h3 : a.testBit j
      · rfl
      · cases h4 : b.testBit j
        · rfl
        · exact absurd ⟨h3, h4⟩ h2
    · have h3 : a.testBit j = false := Nat.testBit_lt_two_pow (Nat.lt_of_lt_of_le ha (show 2 ^ 9 ≤ 2 ^ j from Nat.pow_le_pow_right (by omega) (by omega)))
      rw [h3]; rfl
theorem ms1_eq {c : Nat} (h : c < 9) : ms1 (nI c) = nI (2 ^ c) := of_decide_eq_true (all_of (show (List.range 9).all (fun c => decide (ms1 (nI c) = nI (2 ^ c))) = true by decide +kernel) h)


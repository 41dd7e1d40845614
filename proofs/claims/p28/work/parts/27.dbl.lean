/-! DOUBLES: a count's share, and its bits; DIGESTS -/
def shV (n : Nat) : UInt64 := if n = 0 then FP.dconst0 else FP.ddiv FP.dconst1 (FP.i2d (nI n))
/-- a share, doubled so often -/
def scV (v : UInt64) (k : Nat) : UInt64 := v + UInt64.ofNat k * 4503599627370496
/-- how often a share is doubled until it is no longer below 1 -/
def kV (n : Nat) : Nat := if n ≤ 1 then 0 else Nat.log2 (n - 1) + 1
def n64 (r : UInt64) : Bool := decide (r &&& 0x7fffffffffffffff ≤ 0x7ff0000000000000)
theorem n64_p {r : UInt64} (h : n64 r = true) : vf_n64 r := by
  unfold vf_n64
  unfold n64 at h
  exact of_decide_eq_true h
abbrev cmG (x y : UInt64) : Int32 := Op.cmpValue (FP.dcmp x y) .g
abbrev cmL (x y : UInt64) : Int32 := Op.cmpValue (FP.dcmp x y) .l
abbrev frD (n : Nat) : UInt64 := FP.dsub (scV (shV n) (kV n)) FP.dconst1
abbrev frE (n : Nat) : UInt64 := FP.dmul (frD n) 4841369599423283200
/-- what is checked of a share -/
def okV (n : Nat) : Bool := n64 (shV n) && (decide (cmL (shV n) FP.dconst0 = 0) == decide (n = 0)) && (decide (0 < cmG (shV n) FP.dconst0) == !decide (n = 0)) && (decide (n = 0) || (decide (kV n ≤ 9) && n64 (frD n) && n64 (frE n) &&
  (List.range 10).all (fun k => !decide (k ≤ kV n) || (decide (0 ≤ cmG (scV (shV n) k) FP.dconst1) == decide (k = kV n))) &&
  (List.range 10).all (fun k => !decide (k < kV n) || (decide (FP.dmul (scV (shV n) k) 4611686018427387904 = scV (shV n) (k + 1)) && n64 (scV (shV n) (k + 1))))))
theorem okV_a : (List.range 57).all (fun k => okV (57 * 0 + k)) = true := by decide +kernel
theorem okV_b : (List.range 57).all (fun k => okV (57 * 1 + k)) = true := by decide +kernel
theorem okV_c : (List.range 57).all (fun k => okV (57 * 2 + k)) = true := by decide +kernel
theorem okV_d : (List.range 57).all (fun k => okV (57 * 3 + k)) = true := by decide +kernel
theorem okV_e : (List.range 57).all (fun k => okV (57 * 4 + k)) = true := by decide +kernel
theorem okV_f : (List.range 57).all (fun k => okV (57 * 5 + k)) = true := by decide +kernel
theorem okV_g : (List.range 57).all (fun k => okV (57 * 6 + k)) = true := by decide +kernel
theorem okV_h : (List.range 57).all (fun k => okV (57 * 7 + k)) = true := by decide +kernel
theorem okV_i : (List.range 57).all (fun k => okV (57 * 8 + k)) = true := by decide +kernel
theorem okV_n {n : Nat} (h : n ≤ 512) : okV n = true := by
  have key : ∀ i, i < 9 → (List.range 57).all (fun k => okV (57 * i + k)) = true := by
    intro i hi
    match i, hi with
    | 0, _ => exact okV_a
    | 1, _ => exact okV_b
    | 2, _ => exact okV_c
    | 3, _ => exact okV_d
    | 4, _ => exact okV_e
    | 5, _ => exact okV_f
    | 6, _ => exact okV_g
    | 7, _ => exact okV_h
    | 8, _ => exact okV_i
    | k + 9, h => exact absurd h (by omega)
  have h1 : okV (57 * (n / 57) + n % 57) = true := all_of (key (n / 57) (by omega)) (Nat.mod_lt _ (by omega))
  rw [show 57 * (n / 57) + n % 57 = n by omega] at h1
  exact h1
theorem okV_1 {n : Nat} (h : n ≤ 512) : vf_n64 (shV n) ∧ (cmL (shV n) FP.dconst0 = 0 ↔ n = 0) ∧ (0 < cmG (shV n) FP.dconst0 ↔ n ≠ 0) := by
  have h1 := okV_n h
  unfold okV at h1
  simp only [Bool.and_eq_true, beq_iff_eq, decide_eq_decide] at h1
  obtain ⟨⟨⟨h2, h3⟩, h4⟩, -⟩ := h1
  refine ⟨n64_p h2, h3, ?_⟩
  rw [← decide_not, decide_eq_decide] at h4
  exact h4
def cB (fo : Int32) (t lo hi me : Nat → Int32) (n : Nat) : Nat → Nat → Nat → Int64 := fun i o v => (obC fo t lo hi me n i o v).toInt64

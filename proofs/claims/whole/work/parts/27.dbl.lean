/-! DOUBLES: a count's share, and its bits; DIGESTS -/
def shV (n : Nat) : UInt64 := if n = 0 then FP.dconst0 else FP.ddiv FP.dconst1 (FP.i2d (nI n))
/-- a share, doubled so often -/
def scV (v : UInt64) (k : Nat) : UInt64 := v + UInt64.ofNat k * 4503599627370496
theorem scV_0 (v : UInt64) : scV v 0 = v := by
  show v + UInt64.ofNat 0 * 4503599627370496 = v
  rw [show UInt64.ofNat 0 * 4503599627370496 = 0 by decide, UInt64.add_zero]
/-- how often a share is doubled until it is no longer below 1 -/
def kV (n : Nat) : Nat := if n ≤ 1 then 0 else Nat.log2 (n - 1) + 1
def n64 (r : UInt64) : Bool := decide (r &&& 0x7fffffffffffffff ≤ 0x7ff0000000000000)
theorem n64_p {r : UInt64} (h : n64 r = true) : vf_n64 r := by
  unfold vf_n64
  unfold n64 at h
  exact of_decide_eq_true h
def pwr : Nat → Int64 | 0 => 1023 | k + 1 => pwr k - 1
abbrev cmG (x y : UInt64) : Int32 := Op.cmpValue (FP.dcmp x y) .g
abbrev cmL (x y : UInt64) : Int32 := Op.cmpValue (FP.dcmp x y) .l
abbrev frD (n : Nat) : UInt64 := FP.dsub (scV (shV n) (kV n)) FP.dconst1
abbrev frE (n : Nat) : UInt64 := FP.dmul (frD n) 4841369599423283200
def bitV (n : Nat) : Int64 := if n = 0 then 0 else pwr (kV n) * 4503599627370496 + FP.d2l (frE n)
/-- what is checked of a share -/
def okV (n : Nat) : Bool := n64 (shV n) && (decide (cmL (shV n) FP.dconst0 = 0) == decide (n = 0)) && (decide (0 < cmG (shV n) FP.dconst0) == !decide (n = 0)) && (decide (n = 0) || (decide (kV n ≤ 9) && n64 (frD n) && n64 (frE n) &&
  (List.range 10).all (fun k => !decide (k ≤ kV n) || (decide (0 ≤ cmG (scV (shV n) k) FP.dconst1) == decide (k = kV n))) &&
  (List.range 10).all (fun k => !decide (k < kV n) || (decide (FP.dmul (scV (shV n) k) 4611686018427387904 = scV (shV n) (k + 1)) && n64 (scV (shV n) (k + 1))))))
theorem okV_a : (List.range 57).all (fun k => okV (57 * 0 + k)) = true := by decide +kernel
theorem okV_b : (List.range 57).all (fun k => okV (57 * 1 + k)) = true := by decide +kernel
theorem okV_c : (List.range 57).all (fun k => okV (57 * 2 + k)) = true := by decide +kernel
theorem okV_d : (List.range 57).all (fun k => okV (57 * 3 + k)) = true := by decide +kernel
theorem okV_e : (List.range 57).all (fun k => okV (57 * 4 + k)) = true := by decide +kernel
theorem okV_f : (List.range 57).all (fun k => okV (57 * 5 + k)) = true := by decide +kernel
theorem okV_g : (List.range 57).all (fun k => okV (57 * 6 + k)) = true := by decide +kernel
theorem okV_h : (List.range 57).all (fun k => okV (57 * 7 + k)) = true := by decide +kernel
theorem okV_i : (List.range 57).all (fun k => okV (57 * 8 + k)) = true := by decide +kernel
theorem okV_n {n : Nat} (h : n ≤ 512) : okV n = true := by
  have key : ∀ i, i < 9 → (List.range 57).all (fun k => okV (57 * i + k)) = true := by
    intro i hi
    match i, hi with
    | 0, _ => exact okV_a
    | 1, _ => exact okV_b
    | 2, _ => exact okV_c
    | 3, _ => exact okV_d
    | 4, _ => exact okV_e
    | 5, _ => exact okV_f
    | 6, _ => exact okV_g
    | 7, _ => exact okV_h
    | 8, _ => exact okV_i
    | k + 9, h => exact absurd h (by omega)
  have h1 : okV (57 * (n / 57) + n % 57) = true := all_of (key (n / 57) (by omega)) (Nat.mod_lt _ (by omega))
  rw [show 57 * (n / 57) + n % 57 = n by omega] at h1
  exact h1
theorem okV_1 {n : Nat} (h : n ≤ 512) : vf_n64 (shV n) ∧ (cmL (shV n) FP.dconst0 = 0 ↔ n = 0) ∧ (0 < cmG (shV n) FP.dconst0 ↔ n ≠ 0) := by
  have h1 := okV_n h
  unfold okV at h1
  simp only [Bool.and_eq_true, beq_iff_eq, decide_eq_decide] at h1
  obtain ⟨⟨⟨h2, h3⟩, h4⟩, -⟩ := h1
  refine ⟨n64_p h2, h3, ?_⟩
  rw [← decide_not, decide_eq_decide] at h4
  exact h4
theorem okV_2 {n : Nat} (h : n ≤ 512) (h0 : n ≠ 0) : kV n ≤ 9 ∧ vf_n64 (frD n) ∧ vf_n64 (frE n) ∧ (∀ k, k ≤ kV n → (0 ≤ cmG (scV (shV n) k) FP.dconst1 ↔ k = kV n)) ∧ ∀ k, k < kV n → FP.dmul (scV (shV n) k) 4611686018427387904 = scV (shV n) (k + 1) ∧ vf_n64 (scV (shV n) (k + 1)) := by
  have h1 := okV_n h
  unfold okV at h1
  simp only [Bool.and_eq_true, Bool.or_eq_true, decide_eq_true_eq] at h1
  obtain ⟨-, h1⟩ := h1
  obtain ⟨⟨⟨⟨h2, h3⟩, h4⟩, h5⟩, h6⟩ := h1.resolve_left h0
  refine ⟨h2, n64_p h3, n64_p h4, fun k hk => ?_, fun k hk => ?_⟩
  · have := all_of h5 (k := k) (by omega)
    rw [decide_eq_true hk] at this
    simpa only [Bool.not_true, Bool.false_or, beq_iff_eq, decide_eq_decide] using this
  · have := all_of h6 (k := k) (by omega)
    rw [decide_eq_true hk] at this
    simp only [Bool.not_true, Bool.false_or, Bool.and_eq_true, decide_eq_true_eq] at this
    exact ⟨this.1, n64_p this.2⟩
theorem dmul_ok {n k : Nat} (h : n ≤ 512) (h0 : n ≠ 0) (hk : k < kV n) : vf_n64 (FP.dmul (scV (shV n) k) 4611686018427387904) := by
  obtain ⟨h1, h2⟩ := (okV_2 h h0).2.2.2.2 k hk
  rw [h1]; exact h2
theorem pwr_sh {k : Nat} (h : k < 10) : pwr k <<< ((nI 52).toInt64 &&& 63) = pwr k * 4503599627370496 := of_decide_eq_true (all_of (show (List.range 10).all (fun k => decide (pwr k <<< ((nI 52).toInt64 &&& 63) = pwr k * 4503599627370496)) = true by decide +kernel) h)
/-- digests -/
abbrev mx (h v : Int64) : Int64 := 31 * h + v
def dgs (g : Nat → Int64) : Nat → Int64 → Int64
  | 0, h => h
  | k + 1, h => mx (dgs g k h) (g k)
theorem dgs_0 (g : Nat → Int64) (h : Int64) : dgs g 0 h = h := rfl
theorem dgs_2 (g : Nat → Int64) (h : Int64) : dgs g 2 h = mx (mx h (g 0)) (g 1) := rfl
theorem dgs_s (g : Nat → Int64) (k : Nat) (h : Int64) : dgs g (k + 1) h = mx (dgs g k h) (g k) := rfl
theorem dgs_eq {g g' : Nat → Int64} {n : Nat} (e : ∀ j, j < n → g j = g' j) (h : Int64) : dgs g n h = dgs g' n h := by
  induction n with
  | zero => rfl
  | succ n ih => rw [dgs_s, dgs_s, ih (fun j hj => e j (by omega)), e n (by omega)]
def dtm (g : Nat → Nat → Int64) (t : Nat) : Nat → Int64 → Int64
  | 0, h => h
  | m + 1, h => dgs (g (t + 1 + m)) 4 (dtm g t m h)
theorem dtm_0 (g : Nat → Nat → Int64) (t : Nat) (h : Int64) : dtm g t 0 h = h := rfl
theorem dtm_s (g : Nat → Nat → Int64) (t m : Nat) (h : Int64) : dtm g t (m + 1) h = dgs (g (t + 1 + m)) 4 (dtm g t m h) := rfl
theorem dtm_eq {g g' : Nat → Nat → Int64} {t n : Nat} (e : ∀ m j, m < n → j < 4 → g (t + 1 + m) j = g' (t + 1 + m) j) (h : Int64) : dtm g t n h = dtm g' t n h := by
  induction n with
  | zero => rfl
  | succ n ih => rw [dtm_s, dtm_s, ih (fun m j hm hj => e m j (by omega) hj), dgs_eq (fun j hj => e n j (by omega) hj)]
def dta (t0 : Nat → Int64) (ob : Nat → Nat → Nat → Int64) : Nat → Int64 → Int64
  | 0, h => h
  | t + 1, h => dtm (ob t) t (5 - t) (mx (dta t0 ob t h) (t0 t))
theorem dta_0 (t0 : Nat → Int64) (ob : Nat → Nat → Nat → Int64) (h : Int64) : dta t0 ob 0 h = h := rfl
theorem dta_s (t0 : Nat → Int64) (ob : Nat → Nat → Nat → Int64) (t : Nat) (h : Int64) : dta t0 ob (t + 1) h = dtm (ob t) t (5 - t) (mx (dta t0 ob t h) (t0 t)) := rfl
theorem dta_eq {t0 t1 : Nat → Int64} {ob oc : Nat → Nat → Nat → Int64} {n : Nat} (hn : n ≤ 6) (e : ∀ j, j < n → t0 j = t1 j) (e2 : ∀ i j v, i < n → j < 6 → v < 4 → ob i j v = oc i j v) (h : Int64) : dta t0 ob n h = dta t1 oc n h := by
  induction n with
  | zero => rfl
  | succ n ih => rw [dta_s, dta_s, ih (by omega) (fun j hj => e j (by omega)) (fun i j v hi hj hv => e2 i j v (by omega) hj hv), e n (by omega), dtm_eq (fun m j hm hj => e2 n _ j (by omega) (by omega) hj)]
def digG (co op oc t0 : Nat → Int64) (ob : Nat → Nat → Nat → Int64) (bq : Int64) (fa : Nat → Int64) (wk bi : Int64) (ks : Nat → Int64) (ln : Nat) (tx : Nat → Int64) : Int64 :=
  dgs tx ln (mx (dgs ks 2 (mx (mx (dgs fa 4 (mx (dta t0 ob 6 (dgs oc 36 (dgs op 30 (dgs co 11 3697)))) bq)) wk) bi)) ((nI ln).toInt64))
def fF (q : Nat → Bool) : Nat → Int64 := fun k => (faM q (nI k) 512 0).toInt64
def fX (tx : Nat → Int32) : Nat → Int64 := fun k => (tx k).toInt64
def mC (f : Nat → Int32) (n m : Nat) : Nat → Int64 := fun v => (coM f n m v).toInt64
def mP (f : Nat → Int32) : Nat → Int64 := fun k => (opM f (k / 3) (k % 3)).toInt64
def mR (f : Nat → Int32) (n : Nat) : Nat → Int64 := fun k => (ocM f n (k / 4) (k % 4)).toInt64
def mT (f : Nat → Int32) : Nat → Int64 := fun t => (f (11 + t)).toInt64
def mB (f : Nat → Int32) (n : Nat) : Nat → Nat → Nat → Int64 := fun i o v => (obM f n (f (11 + i)) (f (11 + o)) v).toInt64
def mK (ik : Nat → Int32) : Nat → Int64 := fun k => if ik k = 0 then 0 else 1
theorem mK_0 {ik : Nat → Int32} {k : Nat} (h : ik k = 0) : mK ik k = 0 := if_pos h
theorem mK_1 {ik : Nat → Int32} {k : Nat} (h : ¬ ik k = 0) : mK ik k = 1 := if_neg h
def digM (f : Nat → Int32) (n m : Nat) (ik tx : Nat → Int32) (lt : Nat) : Int64 := digG (mC f n m) (mP f) (mR f n) (mT f) (mB f n) ((qsM f n 36).1.toInt64) (fF (qM f n)) ((wkM f 9).toInt64) (bitV (cN (qM f n) 512)) (mK ik) lt (fX tx)
def cC (fo tn : Int32) (lo hi me : Nat → Int32) (n : Nat) (q : Nat → Bool) (qu gu ri re : Int32) (z : Nat) : Nat → Int64 := fun v => (coC fo tn lo hi me n q qu gu ri re z v).toInt64
def cP (fo : Int32) (t : Nat → Int32) : Nat → Int64 := fun k => (opC fo t (k / 3) (k % 3)).toInt64
theorem cP_at {fo : Int32} {t : Nat → Int32} {p v : Nat} (h : v < 3) : cP fo t (3 * p + v) = (opC fo t p v).toInt64 := by
  unfold cP
  rw [show (3 * p + v) / 3 = p by omega, show (3 * p + v) % 3 = v by omega]
def cR (fo tn : Int32) (w : Nat → Int32) (q : Nat → Bool) : Nat → Int64 := fun k => (ocC fo tn w q (k / 4) (k % 4)).toInt64
theorem cR_at {fo tn : Int32} {w : Nat → Int32} {q : Nat → Bool} {p v : Nat} (h : v < 4) : cR fo tn w q (4 * p + v) = (ocC fo tn w q p v).toInt64 := by
  unfold cR
  rw [show (4 * p + v) / 4 = p by omega, show (4 * p + v) % 4 = v by omega]
def cT (t : Nat → Int32) : Nat → Int64 := fun i => (t i).toInt64
def cB (fo : Int32) (t lo hi me : Nat → Int32) (n : Nat) : Nat → Nat → Nat → Int64 := fun i o v => (obC fo t lo hi me n i o v).toInt64
def sOn (o : Option Nat) : Int64 := match o with | none => 0 | some _ => 1
def cS (o0 o1 : SLO) : Nat → Int64 := fun k => sOn (slR o0 o1 k)
theorem sOn_0 {r : Option Nat} (h : r = none) : (0 : Int64) = sOn r := by rw [h]; rfl
theorem sOn_1 {r : Option Nat} {q : Nat} (h : r = some q) : (1 : Int64) = sOn r := by rw [h]; rfl
def digC (fo tn : Int32) (w t lo hi me : Nat → Int32) (n : Nat) (qu gu ri re : Int32) (z : Nat) (o0 o1 : SLO) (sg : Nat → Int32) (ln : Nat) : Int64 := digG (cC fo tn lo hi me n (qS tn lo hi me n) qu gu ri re z) (cP fo t) (cR fo tn w (qS tn lo hi me n)) (cT t) (cB fo t lo hi me n) ((outC (askW t lo hi me n) (worW (qS tn lo hi me n) t) 6).1.toInt64) (fF (qS tn lo hi me n)) ((wkC fo w 9).1.toInt64) (bitV (cN (qS tn lo hi me n) 512)) (cS o0 o1) ln (fX sg)

/-! WALKING ALONG THE STRIP TELLS THE SAME NUMBER -/
/-- a sum of numbers -/
def sN (g : Nat → Nat) : Nat → Nat
  | 0 => 0
  | k + 1 => sN g k + g k
theorem sN_cg {g g' : Nat → Nat} {n : Nat} (e : ∀ j, j < n → g j = g' j) : sN g n = sN g' n := by
  induction n with
  | zero => rfl
  | succ n ih => rw [sN, sN, ih (fun j hj => e j (by omega)), e n (by omega)]
theorem sN_0 {g : Nat → Nat} {n : Nat} (e : ∀ j, j < n → g j = 0) : sN g n = 0 := by
  induction n with
  | zero => rfl
  | succ n ih => rw [sN, ih (fun j hj => e j (by omega)), e n (by omega)]
theorem sN_two (g : Nat → Nat) : ∀ n, sN g (2 * n) = sN (fun j => g (2 * j)) n + sN (fun j => g (2 * j + 1)) n := by
  intro n
  induction n with
  | zero => rfl
  | succ n ih =>
    rw [show 2 * (n + 1) = 2 * n + 1 + 1 by omega, sN, sN, ih, sN, sN]
    omega
theorem cN_sN (q : Nat → Bool) : ∀ k, cN q k = sN (fun j => if q j = true then 1 else 0) k := by
  intro k
  induction k with
  | zero => rfl
  | succ k ih => rw [cN, sN, ih]
/-- the foldings that begin with fo on the creases below p, counted -/
def lfN (q : Nat → Bool) (d p fo : Nat) : Nat := sN (fun j => if q (fo + 2 ^ p * j) = true then 1 else 0) (2 ^ d)
theorem lfN_s (q : Nat → Bool) (d p fo : Nat) : lfN q (d + 1) p fo = lfN q d (p + 1) fo + lfN q d (p + 1) (fo + 2 ^ p) := by
  unfold lfN
  rw [show 2 ^ (d + 1) = 2 * 2 ^ d by rw [Nat.pow_succ, Nat.mul_comm], sN_two]
  congr 1
  · refine sN_cg (fun j _ => ?_)
    rw [show 2 ^ p * (2 * j) = 2 ^ (p + 1) * j by rw [Nat.pow_succ, Nat.mul_assoc]]
  · refine sN_cg (fun j _ => ?_)
    rw [show fo + 2 ^ p * (2 * j + 1) = fo + 2 ^ p + 2 ^ (p + 1) * j by rw [Nat.pow_succ, Nat.mul_add, Nat.mul_one, Nat.mul_assoc]; omega]
theorem lfN_cg {q q' : Nat → Bool} {d p fo : Nat} (e : ∀ j, j < 2 ^ d → q (fo + 2 ^ p * j) = q' (fo + 2 ^ p * j)) : lfN q d p fo = lfN q' d p fo := sN_cg (fun j hj => by rw [e j hj])
theorem lfN_0 {q : Nat → Bool} {d p fo : Nat} (e : ∀ j, j < 2 ^ d → q (fo + 2 ^ p * j) = false) : lfN q d p fo = 0 := sN_0 (fun j hj => by rw [e j hj]; rfl)
theorem lfN_cN (q : Nat → Bool) : lfN q 9 0 0 = cN q 512 := by
  rw [cN_sN]
  refine sN_cg (fun j _ => ?_)
  rw [show 0 + 2 ^ 0 * j = j by omega]
/-- the low bits of a leaf -/
theorem leaf_lt {d p fo j : Nat} (hp : p + d = 9) (hf : fo < 2 ^ p) (hj : j < 2 ^ d) : fo + 2 ^ p * j < 512 := by
  have h1 : 2 ^ p * (j + 1) ≤ 2 ^ p * 2 ^ d := Nat.mul_le_mul_left _ hj
  rw [← Nat.pow_add, hp, Nat.mul_add, Nat.mul_one] at h1
  have : (2 : Nat) ^ 9 = 512 := by decide
  omega
theorem leaf_bit {p fo j i : Nat} (hf : fo < 2 ^ p) (hi : i < p) : (fo + 2 ^ p * j) / 2 ^ i % 2 = fo / 2 ^ i % 2 := by
  rw [show 2 ^ p * j = 2 ^ i * (2 * (2 ^ (p - i - 1) * j)) by rw [← Nat.mul_assoc, ← Nat.mul_assoc, ← Nat.pow_succ, ← Nat.pow_add, show i + 1 + (p - i - 1) = p by omega], Nat.add_mul_div_left _ _ (Nat.two_pow_pos i), Nat.add_mul_mod_self_left]
theorem leaf_top0 {p fo j : Nat} (hf : fo < 2 ^ p) : (fo + 2 ^ (p + 1) * j) / 2 ^ p % 2 = 0 := by
  rw [show 2 ^ (p + 1) * j = 2 ^ p * (2 * j) by rw [Nat.pow_succ, Nat.mul_assoc], Nat.add_mul_div_left _ _ (Nat.two_pow_pos p), Nat.add_mul_mod_self_left, Nat.div_eq_of_lt hf]
theorem leaf_top1 {p fo j : Nat} (hf : fo < 2 ^ p) : (fo + 2 ^ p + 2 ^ (p + 1) * j) / 2 ^ p % 2 = 1 := by
  rw [show fo + 2 ^ p + 2 ^ (p + 1) * j = fo + 2 ^ p * (1 + 2 * j) by rw [Nat.pow_succ, Nat.mul_add, Nat.mul_one, Nat.mul_assoc]; omega, Nat.add_mul_div_left _ _ (Nat.two_pow_pos p), Nat.div_eq_of_lt hf]
  omega
theorem pw_low {m m' p : Nat} (h : ∀ i, i < p → bI (nI m) (nI i) = bI (nI m') (nI i)) : ∀ k, k ≤ p → pw (nI m) k = pw (nI m') k := by
  intro k
  induction k with
  | zero => intro _; rfl
  | succ k ih => intro hk; rw [pw, pw, ih (by omega), h k (by omega)]
theorem mt_low {m m' a b p : Nat} (hm : m < 512) (hm' : m' < 512) (hp : p < 10) (ha : a ≤ p) (hb : b ≤ p) (h : ∀ i, i < p → bI (nI m) (nI i) = bI (nI m') (nI i)) : mt (nI m) a b = mt (nI m') a b := by
  rw [mt_eq hm (by omega) (by omega), mt_eq hm' (by omega) (by omega), pw_low h a ha, pw_low h b hb]
/-- the answers about panels from p on -/
def okH (lo hi me : Nat → Int32) (p : Nat) (fo : Int32) : Nat → Nat → Bool
  | 0, _ => true
  | n + 1, k => (decide (cl (hi k) < p) || decide (b2 (mt fo (cl (lo k)) (cl (hi k))) = me k)) && okH lo hi me p fo n (k + 1)
theorem okH_0 (lo hi me : Nat → Int32) (fo : Int32) : ∀ n k, okH lo hi me 0 fo n k = fitC lo hi me fo n k := by
  intro n
  induction n with
  | zero => intro k; rfl
  | succ n ih =>
    intro k
    rw [okH, fitC, ih, decide_eq_false (Nat.not_lt_zero _), Bool.false_or]
    by_cases h : b2 (mt fo (cl (lo k)) (cl (hi k))) = me k
    · rw [if_pos h, decide_eq_true h, Bool.true_and]
    · rw [if_neg h, decide_eq_false h, Bool.false_and]
theorem fitA_step {lo hi me : Nat → Int32} {p m m' : Nat} (hm : m < 512) (hm' : m' < 512) (hp : p < 10) (h : ∀ i, i < p → bI (nI m) (nI i) = bI (nI m') (nI i)) (hv : okL lo hi) : ∀ n k, k + n ≤ 12 → (∀ j, k ≤ j → j < k + n → cl (lo j) ≤ cl (hi j)) →
    (fitA lo hi me p (nI m') n k = true → okH lo hi me p (nI m) n k = okH lo hi me (p + 1) (nI m) n k) ∧ (fitA lo hi me p (nI m') n k = false → okH lo hi me p (nI m) n k = false) := by
  intro n
  induction n with
  | zero => intro k _ _; exact ⟨fun _ => rfl, fun h => by rw [fitA] at h; cases h⟩
  | succ n ih =>
    intro k hk hlh
    obtain ⟨i1, i2⟩ := ih (k + 1) (by omega) (fun j h1 h2 => hlh j (by omega) (by omega))
    have hh := (hv k (by omega)).2
    have hle := hlh k (by omega) (by omega)
    have hc : hi k = nI p ↔ cl (hi k) = p := by
      constructor
      · intro e; rw [e]; exact nI_clamp (by omega)
      · intro e; rw [nI_vp hh (by decide)]; exact congrArg nI e
    rw [fitA, okH, okH]
    by_cases c1 : hi k = nI p
    · have c2 := hc.mp c1
      have e : mt (nI m) (cl (lo k)) (cl (hi k)) = mt (nI m') (cl (lo k)) p := by rw [c2]; exact mt_low hm hm' hp (by omega) (Nat.le_refl _) h
      rw [e, decide_eq_false (show ¬ cl (hi k) < p by omega), decide_eq_true (show cl (hi k) < p + 1 by omega), Bool.false_or, Bool.true_or, Bool.true_and]
      by_cases c3 : b2 (mt (nI m') (cl (lo k)) p) = me k
      · rw [if_neg (fun z => z.2 c3), decide_eq_true c3, Bool.true_and]
        exact ⟨i1, i2⟩
      · rw [if_pos ⟨c1, c3⟩, decide_eq_false c3, Bool.false_and]
        exact ⟨fun z => absurd z Bool.false_ne_true, fun _ => rfl⟩
    · have c2 : ¬ cl (hi k) = p := fun z => c1 (hc.mpr z)
      rw [if_neg (fun z => c1 z.1), show decide (cl (hi k) < p + 1) = decide (cl (hi k) < p) from decide_eq_decide.mpr ⟨fun z => by omega, fun z => by omega⟩]
      refine ⟨fun z => by rw [i1 z], fun z => by rw [i2 z, Bool.and_false]⟩
theorem okH_top (lo hi me : Nat → Int32) (fo : Int32) (hv : okL lo hi) : ∀ n k, k + n ≤ 12 → okH lo hi me 10 fo n k = true := by
  intro n
  induction n with
  | zero => intro k _; rfl
  | succ n ih =>
    intro k hk
    rw [okH, ih (k + 1) (by omega), decide_eq_true (vp_lt (hv k (by omega)).2)]
    rfl
/-- no torn crease among those from p on -/
def tnH (tn : Int32) (p : Nat) (fo : Int32) : Bool := (List.range 9).all (fun j => decide (j < p) || !(decide (bI fo (nI j) = nI 1) && decide (bI tn (nI j) = nI 1)))
theorem tnH_iff {tn : Int32} {p : Nat} {fo : Int32} : tnH tn p fo = true ↔ ∀ j, j < 9 → p ≤ j → ¬ (bI fo (nI j) = nI 1 ∧ bI tn (nI j) = nI 1) := by
  unfold tnH
  rw [List.all_eq_true]
  constructor
  · intro h j hj hp z
    have h2 := h j (List.mem_range.mpr hj)
    rw [decide_eq_false (show ¬ j < p by omega), decide_eq_true z.1, decide_eq_true z.2] at h2
    cases h2
  · intro h j hj
    by_cases c : j < p
    · rw [decide_eq_true c]; rfl
    · rw [decide_eq_false c, Bool.false_or, ← Bool.decide_and, decide_eq_false (h j (List.mem_range.mp hj) (by omega))]
      rfl
theorem tnH_0 {a b : Nat} (ha : a < 512) (hb : b < 512) : tnH (nI b) 0 (nI a) = decide (nI a &&& nI b = 0) := by
  rw [Bool.eq_iff_iff, tnH_iff, decide_eq_true_eq, and0_iff ha hb]
  exact ⟨fun h j hj => h j hj (Nat.zero_le _), fun h j hj _ => h j hj⟩
theorem tnH_s {tn fo : Int32} {p : Nat} (h : ¬ (bI fo (nI p) = nI 1 ∧ bI tn (nI p) = nI 1)) : tnH tn p fo = tnH tn (p + 1) fo := by
  rw [Bool.eq_iff_iff, tnH_iff, tnH_iff]
  constructor
  · intro z j hj hp; exact z j hj (by omega)
  · intro z j hj hp
    by_cases c : j = p
    · rw [c]; exact h
    · exact z j hj (by omega)
theorem tnH_f {tn fo : Int32} {p : Nat} (hp : p < 9) (h : bI fo (nI p) = nI 1 ∧ bI tn (nI p) = nI 1) : tnH tn p fo = false := by
  cases c : tnH tn p fo
  · rfl
  · exact absurd h (tnH_iff.mp c p hp (Nat.le_refl _))
abbrev lfQ (tn : Int32) (lo hi me : Nat → Int32) (n p : Nat) : Nat → Bool := fun m => okH lo hi me p (nI m) n 0 && tnH tn p (nI m)
theorem or_ms {p fo : Nat} (hp : p < 9) (hf : fo < 2 ^ p) : nI fo ||| ms1 (nI p) = nI (fo + 2 ^ p) := by
  rw [ms1_eq hp, nI_or, Nat.or_comm, show (2 : Nat) ^ p = 2 ^ p * 1 by omega, ← Nat.two_pow_add_eq_or_of_lt hf, Nat.add_comm]
theorem fw_eq {b : Nat} {lo hi me : Nat → Int32} {n : Nat} (hb : b < 512) (hn : n ≤ 12) (hv : okL lo hi) (hlh : ∀ j, j < n → cl (lo j) ≤ cl (hi j)) : ∀ d p fo, p + d = 9 → fo < 2 ^ p → fwC (nI b) lo hi me n d p (nI fo) = nI (lfN (lfQ (nI b) lo hi me n p) d p fo) := by
  intro d
  induction d with
  | zero =>
    intro p fo hp hf
    obtain rfl : p = 9 := by omega
    have h5 : fo < 512 := hf
    rw [fwC]
    have st := fitA_step (me := me) (p := 9) h5 h5 (by omega) (fun _ _ => rfl) hv n 0 (by omega) (fun j _ hj => hlh j (by omega))
    unfold lfN
    rw [show (2 : Nat) ^ 0 = 0 + 1 from rfl, sN, sN, Nat.zero_add, show fo + 2 ^ 9 * 0 = fo by omega]
    have t9 : tnH (nI b) 9 (nI fo) = true := tnH_iff.mpr (fun j h1 h2 => by omega)
    cases c : fitA lo hi me 9 (nI fo) n 0
    · rw [if_neg Bool.false_ne_true, show lfQ (nI b) lo hi me n 9 fo = false from by show (okH lo hi me 9 (nI fo) n 0 && tnH (nI b) 9 (nI fo)) = false; rw [st.2 c, Bool.false_and], if_neg Bool.false_ne_true]
    · rw [if_pos rfl, show lfQ (nI b) lo hi me n 9 fo = true from by show (okH lo hi me 9 (nI fo) n 0 && tnH (nI b) 9 (nI fo)) = true; rw [st.1 c, okH_top lo hi me _ hv n 0 (by omega), t9]; rfl, if_pos rfl]
  | succ d ih =>
    intro p fo hp hf
    have h5 : fo < 512 := by have := leaf_lt (d := d + 1) (p := p) (j := 0) hp hf (Nat.two_pow_pos _); omega
    have hpp : p < 9 := by omega
    have hf2 : fo < 2 ^ (p + 1) := by rw [Nat.pow_succ]; omega
    have hf3 : fo + 2 ^ p < 2 ^ (p + 1) := by rw [Nat.pow_succ]; omega
    rw [fwC]
    -- any leaf has fo's low bits
    have low : ∀ j, j < 2 ^ (d + 1) → ∀ i, i < p → bI (nI (fo + 2 ^ p * j)) (nI i) = bI (nI fo) (nI i) := fun j hj i hi => by
      rw [bit_eq (leaf_lt hp hf hj) (by omega), bit_eq h5 (by omega), leaf_bit hf hi]
    cases c : fitA lo hi me p (nI fo) n 0
    · rw [if_neg Bool.false_ne_true, lfN_0]
      intro j hj
      have st := fitA_step (me := me) (leaf_lt hp hf hj) h5 (by omega) (low j hj) hv n 0 (by omega) (fun j _ hj => hlh j (by omega))
      show (okH lo hi me p (nI (fo + 2 ^ p * j)) n 0 && _) = false
      rw [st.2 c, Bool.false_and]
    · rw [if_pos rfl, lfN_s]
      have ok0 : ∀ j, j < 2 ^ d → okH lo hi me p (nI (fo + 2 ^ (p + 1) * j)) n 0 = okH lo hi me (p + 1) (nI (fo + 2 ^ (p + 1) * j)) n 0 := fun j hj => by
        have e : fo + 2 ^ (p + 1) * j = fo + 2 ^ p * (2 * j) := by rw [Nat.pow_succ, Nat.mul_assoc]
        have hj2 : 2 * j < 2 ^ (d + 1) := by rw [Nat.pow_succ]; omega
        rw [e]
        exact (fitA_step (me := me) (leaf_lt hp hf hj2) h5 (by omega) (low _ hj2) hv n 0 (by omega) (fun j _ hj => hlh j (by omega))).1 c
      have ok1 : ∀ j, j < 2 ^ d → okH lo hi me p (nI (fo + 2 ^ p + 2 ^ (p + 1) * j)) n 0 = okH lo hi me (p + 1) (nI (fo + 2 ^ p + 2 ^ (p + 1) * j)) n 0 := fun j hj => by
        have e : fo + 2 ^ p + 2 ^ (p + 1) * j = fo + 2 ^ p * (2 * j + 1) := by rw [Nat.pow_succ, Nat.mul_add, Nat.mul_one, Nat.mul_assoc]; omega
        have hj2 : 2 * j + 1 < 2 ^ (d + 1) := by rw [Nat.pow_succ]; omega
        rw [e]
        exact (fitA_step (me := me) (leaf_lt hp hf hj2) h5 (by omega) (low _ hj2) hv n 0 (by omega) (fun j _ hj => hlh j (by omega))).1 c
      have b0 : ∀ j, j < 2 ^ d → bI (nI (fo + 2 ^ (p + 1) * j)) (nI p) = nI 0 := fun j hj => by
        rw [bit_eq (leaf_lt (d := d) (p := p + 1) (by omega) hf2 hj) (by omega), leaf_top0 hf]
      have b1 : ∀ j, j < 2 ^ d → bI (nI (fo + 2 ^ p + 2 ^ (p + 1) * j)) (nI p) = nI 1 := fun j hj => by
        rw [bit_eq (leaf_lt (d := d) (p := p + 1) (by omega) hf3 hj) (by omega), leaf_top1 hf]
      have l0 : lfN (lfQ (nI b) lo hi me n p) d (p + 1) fo = lfN (lfQ (nI b) lo hi me n (p + 1)) d (p + 1) fo := lfN_cg (fun j hj => by
        show (okH lo hi me p _ n 0 && tnH (nI b) p _) = (okH lo hi me (p + 1) _ n 0 && tnH (nI b) (p + 1) _)
        rw [ok0 j hj, tnH_s (fun z => absurd ((b0 j hj).symm.trans z.1) (by decide))])
      by_cases ct : bI (nI b) (nI p) = nI 1
      · have z0 : lfN (lfQ (nI b) lo hi me n p) d (p + 1) (fo + 2 ^ p) = 0 := lfN_0 (fun j hj => by
          show (okH lo hi me p _ n 0 && tnH (nI b) p _) = false
          rw [tnH_f hpp ⟨b1 j hj, ct⟩, Bool.and_false])
        rw [if_pos ct, ih (p + 1) fo (by omega) hf2, ← l0, z0]
        rfl
      · rw [if_neg ct, or_ms hpp hf, ih (p + 1) fo (by omega) hf2, ih (p + 1) (fo + 2 ^ p) (by omega) hf3, nI_add, ← l0]
        congr 2
        exact (lfN_cg (fun j hj => by
          show (okH lo hi me p _ n 0 && tnH (nI b) p _) = (okH lo hi me (p + 1) _ n 0 && tnH (nI b) (p + 1) _)
          rw [ok1 j hj, tnH_s (fun z => ct z.2)])).symm
/-- told by walking: the same as told by all -/
theorem walk_eq {b : Nat} {lo hi me : Nat → Int32} {n : Nat} (hb : b < 512) (hn : n ≤ 12) (hv : okL lo hi) (hlh : ∀ j, j < n → cl (lo j) ≤ cl (hi j)) : fwC (nI b) lo hi me n 9 0 (nI 0) = nI (cN (qS (nI b) lo hi me n) 512) := by
  rw [fw_eq hb hn hv hlh 9 0 0 rfl (by decide), lfN_cN, cN_cg (q' := qS (nI b) lo hi me n) (fun k hk => ?_) 512 (Nat.le_refl _)]
  show (okH lo hi me 0 (nI k) n 0 && tnH (nI b) 0 (nI k)) = (decide (nI k &&& nI b = 0) && fitC lo hi me (nI k) n 0)
  rw [okH_0, tnH_0 hk hb, Bool.and_comm]


/-! A STATE OF THE CLASS AND ONE OF THE MODEL ARE ALIKE -/
def RS (B : Nat) (fo tn : Int32) (w t lo hi me : Nat → Int32) (n : Nat) (qu gu ri re : Int32) (f : Nat → Int32) : Prop :=
  (n ≤ 12 ∧ (∃ a, a < 512 ∧ fo = nI a) ∧ (∃ b, b < 512 ∧ tn = nI b) ∧ fo &&& tn = 0) ∧
  (f 0 = fo ∧ f 1 = tn ∧ f 17 = nI n ∧ (∀ j, j < 9 → f (2 + j) = w j) ∧ ∀ j, j < 6 → f (11 + j) = t j) ∧
  ((∀ j, j < 9 → ∃ q, q ≤ B ∧ w j = nI q) ∧ okP t ∧ okL lo hi ∧ okA f) ∧
  (relA f lo hi me n ∧ fitC lo hi me fo n 0 = true) ∧
  (f 54 = qu ∧ f 55 = gu ∧ f 56 = ri ∧ f 57 = re)
def RG (B : Nat) (g : Nat → Nat → Int32) (f : Nat → Int32) : Prop := ∃ n, g 0 6 = nI n ∧ RS B (g 0 0) (g 0 1) (g 1) (g 2) (g 3) (g 4) (g 5) n (g 0 2) (g 0 3) (g 0 4) (g 0 5) f
section RSS
variable {B : Nat} {fo tn : Int32} {w t lo hi me : Nat → Int32} {n : Nat} {qu gu ri re : Int32} {f f' : Nat → Int32}
theorem RS_cong (h : RS B fo tn w t lo hi me n qu gu ri re f) (e : ∀ j, j < 58 → f' j = f j) : RS B fo tn w t lo hi me n qu gu ri re f' := by
  obtain ⟨⟨a1, a2, a3, a4⟩, ⟨b1, b2, b3, b4, b5⟩, ⟨c1, c2, c3, c4⟩, ⟨d1, d2⟩, g1, g2, g3, g4⟩ := h
  refine ⟨⟨a1, a2, a3, a4⟩, ⟨by rw [e 0 (by omega)]; exact b1, by rw [e 1 (by omega)]; exact b2, by rw [e 17 (by omega)]; exact b3, fun j hj => by rw [e _ (by omega)]; exact b4 j hj, fun j hj => by rw [e _ (by omega)]; exact b5 j hj⟩, ⟨c1, c2, c3, fun k hk => ?_⟩, ⟨fun k hk => ?_, d2⟩, by rw [e 54 (by omega)]; exact g1, by rw [e 55 (by omega)]; exact g2, by rw [e 56 (by omega)]; exact g3, by rw [e 57 (by omega)]; exact g4⟩
  · have h := c4 k hk
    unfold an at h ⊢
    rw [e (18 + 3 * k + 0) (by omega), e (18 + 3 * k + 1) (by omega)]
    exact h
  · have h := d1 k hk
    unfold an at h ⊢
    rw [e (18 + 3 * k + 0) (by omega), e (18 + 3 * k + 1) (by omega), e (18 + 3 * k + 2) (by omega)]
    exact h
theorem RS_mono {B' : Nat} (hB : B ≤ B') (h : RS B fo tn w t lo hi me n qu gu ri re f) : RS B' fo tn w t lo hi me n qu gu ri re f :=
  ⟨h.1, h.2.1, ⟨fun j hj => by obtain ⟨q, h1, h2⟩ := h.2.2.1.1 j hj; exact ⟨q, by omega, h2⟩, h.2.2.1.2⟩, h.2.2.2⟩
theorem zA_lo {k : Nat} (h : k < 17 ∨ 54 ≤ k) : zA f 54 k = f k := if_neg (by omega)
theorem zA_in {k : Nat} (h : 17 ≤ k ∧ k < 54) : zA f 54 k = nI 0 := if_pos h
/-- a state whose answers have been taken away -/
theorem RS_new (hfo : ∃ a, a < 512 ∧ fo = nI a) (htn : ∃ b, b < 512 ∧ tn = nI b) (hd : fo &&& tn = 0) (h0 : f 0 = fo) (h1 : f 1 = tn) (hw : ∀ j, j < 9 → f (2 + j) = w j) (ht : ∀ j, j < 6 → f (11 + j) = t j)
    (hb : ∀ j, j < 9 → ∃ q, q ≤ B ∧ w j = nI q) (hp : okP t) (hl : okL lo hi) (g1 : f 54 = qu) (g2 : f 55 = gu) (g3 : f 56 = ri) (g4 : f 57 = re) : RS B fo tn w t lo hi me 0 qu gu ri re (zA f 54) := by
  refine ⟨⟨Nat.zero_le _, hfo, htn, hd⟩, ⟨by rw [zA_lo (by omega)]; exact h0, by rw [zA_lo (by omega)]; exact h1, zA_in (by omega), fun j hj => by rw [zA_lo (by omega)]; exact hw j hj, fun j hj => by rw [zA_lo (by omega)]; exact ht j hj⟩, ⟨hb, hp, hl, fun k hk => ?_⟩, ⟨fun k hk => absurd hk (Nat.not_lt_zero _), rfl⟩, by rw [zA_lo (by omega)]; exact g1, by rw [zA_lo (by omega)]; exact g2, by rw [zA_lo (by omega)]; exact g3, by rw [zA_lo (by omega)]; exact g4⟩
  unfold an
  rw [zA_in (by omega), zA_in (by omega)]
  exact ⟨vp_in_nI (by omega) (by omega), vp_in_nI (by omega) (by omega)⟩
theorem RG_of (h : RS B fo tn w t lo hi me n qu gu ri re f) : RG B (bd fo tn w t lo hi me (nI n) qu gu ri re) f := ⟨n, rfl, h⟩
theorem RG_cong {g : Nat → Nat → Int32} (h : RG B g f) (e : ∀ j, j < 58 → f' j = f j) : RG B g f' := by
  obtain ⟨n, h1, h2⟩ := h
  exact ⟨n, h1, RS_cong h2 e⟩
theorem RG_mono {B' : Nat} {g : Nat → Nat → Int32} (hB : B ≤ B') (h : RG B g f) : RG B' g f := by
  obtain ⟨n, h1, h2⟩ := h
  exact ⟨n, h1, RS_mono hB h2⟩
theorem upd_o {k j : Nat} {x : Int32} (h : j ≠ k) : upd f k x j = f j := if_neg h
theorem upd_s {k : Nat} {x : Int32} : upd f k x k = x := if_pos rfl
/-- a number of the accounts is another one -/
theorem RS_cnt {k : Nat} {x : Int32} (hk : 54 ≤ k) (h : RS B fo tn w t lo hi me n qu gu ri re f) : RS B fo tn w t lo hi me n (if k = 54 then x else qu) (if k = 55 then x else gu) (if k = 56 then x else ri) (if k = 57 then x else re) (upd f k x) := by
  obtain ⟨⟨a1, a2, a3, a4⟩, ⟨b1, b2, b3, b4, b5⟩, ⟨c1, c2, c3, c4⟩, ⟨d1, d2⟩, g1, g2, g3, g4⟩ := h
  have g : ∀ j y, f j = y → upd f k x j = if k = j then x else y := fun j y e => by
    by_cases q : k = j
    · rw [if_pos q, ← q, upd_s]
    · rw [if_neg q, upd_o (fun z => q z.symm)]; exact e
  refine ⟨⟨a1, a2, a3, a4⟩, ⟨by rw [upd_o (by omega)]; exact b1, by rw [upd_o (by omega)]; exact b2, by rw [upd_o (by omega)]; exact b3, fun j hj => by rw [upd_o (by omega)]; exact b4 j hj, fun j hj => by rw [upd_o (by omega)]; exact b5 j hj⟩, ⟨c1, c2, c3, fun k hk => ?_⟩, ⟨fun k hk => ?_, d2⟩, g _ _ g1, g _ _ g2, g _ _ g3, g _ _ g4⟩
  · have h := c4 k hk
    unfold an at h ⊢
    rw [upd_o (by omega), upd_o (by omega)]
    exact h
  · have h := d1 k hk
    unfold an at h ⊢
    rw [upd_o (by omega), upd_o (by omega), upd_o (by omega)]
    exact h
theorem RS_re (h : RS B fo tn w t lo hi me n qu gu ri re f) : RS B fo tn w t lo hi me n qu gu ri (re + nI 1) (upd f 57 (f 57 + nI 1)) := by
  have q := RS_cnt (k := 57) (x := f 57 + nI 1) (by omega) h
  rw [if_neg (by decide), if_neg (by decide), if_neg (by decide), if_pos rfl] at q
  have e := h.2.2.2.2.2.2.2
  rw [e] at q ⊢
  exact q
theorem RS_gu (h : RS B fo tn w t lo hi me n qu gu ri re f) (x : Int32) : RS B fo tn w t lo hi me n qu x ri re (upd f 55 x) := by
  have q := RS_cnt (k := 55) (x := x) (by omega) h
  rw [if_neg (by decide), if_pos rfl, if_neg (by decide), if_neg (by decide)] at q
  exact q
theorem RS_ri (h : RS B fo tn w t lo hi me n qu gu ri re f) (x : Int32) : RS B fo tn w t lo hi me n qu gu x re (upd f 56 x) := by
  have q := RS_cnt (k := 56) (x := x) (by omega) h
  rw [if_neg (by decide), if_neg (by decide), if_pos rfl, if_neg (by decide)] at q
  exact q
/-- bits -/
theorem bitx {a c j : Nat} (ha : a < 512) (hc : c < 9) (hj : j < 9) (hcj : j ≠ c) : bI (nI (a ^^^ 2 ^ c)) (nI j) = nI 1 ↔ bI (nI a) (nI j) = nI 1 := by
  have h2 : 2 ^ c < 512 := Nat.lt_of_lt_of_le (Nat.pow_lt_pow_right (by omega) hc) (by decide)
  rw [bit_iff (Nat.xor_lt_two_pow (n := 9) ha h2) (by omega), bit_iff ha (by omega), Nat.testBit_xor, Nat.testBit_two_pow_of_ne (fun z => hcj z.symm), Bool.xor_false]
theorem xor_ms {a c : Nat} (ha : a < 512) (hc : c < 9) : nI a ^^^ ms1 (nI c) = nI (a ^^^ 2 ^ c) ∧ a ^^^ 2 ^ c < 512 := by
  have h2 : 2 ^ c < 512 := Nat.lt_of_lt_of_le (Nat.pow_lt_pow_right (by omega) hc) (by decide)
  exact ⟨by rw [ms1_eq hc, nI_xor], Nat.xor_lt_two_pow (n := 9) ha h2⟩
theorem nI_p1 (q : Nat) : nI q + nI 1 = nI (q + 1) := nI_add q 1
/-- 2. fold -/
theorem st_fold {c : Nat} (hc : c < 9) (h : RS B fo tn w t lo hi me n qu gu ri re f) :
    RG (B + 1) (bd (if tornC tn c then fo else fo ^^^ ms1 (nI c)) tn (if tornC tn c then w else upd w c (w c + nI 1)) t lo hi me (if tornC tn c then nI n else nI 0) qu gu ri (if tornC tn c then re + nI 1 else re)) (foldF f c) ∧ foldR f c = (if tornC tn c then -1 else bI (fo ^^^ ms1 (nI c)) (nI c)) := by
  have h' := h
  obtain ⟨⟨a1, ⟨a, ha, rfl⟩, ⟨b, hb, rfl⟩, a4⟩, ⟨b1, b2, b3, b4, b5⟩, ⟨c1, c2, c3, c4⟩, ⟨d1, d2⟩, g1, g2, g3, g4⟩ := h
  unfold foldF foldR
  by_cases T : tornC (nI b) c
  · have T' : torn f c := by show bI (f 1) (nI c) = nI 1; rw [b2]; exact T
    rw [if_pos T, if_pos T, if_pos T, if_pos T, if_pos T, if_pos T', if_pos T']
    exact ⟨RG_of (RS_mono (Nat.le_succ _) (RS_re h')), rfl⟩
  · have T' : ¬ torn f c := fun z => T (by show bI (nI b) (nI c) = nI 1; rw [← b2]; exact z)
    rw [if_neg T, if_neg T, if_neg T, if_neg T, if_neg T, if_neg T', if_neg T']
    obtain ⟨x1, x2⟩ := xor_ms ha hc
    have e : ∀ j, j ≠ 0 → j ≠ 2 + c → upd (foldG f c) (2 + c) (foldG f c (2 + c) + nI 1) j = f j := fun j q1 q2 => by rw [upd_o q2]; exact upd_o q1
    have e0 : upd (foldG f c) (2 + c) (foldG f c (2 + c) + nI 1) 0 = nI a ^^^ ms1 (nI c) := by rw [upd_o (by omega)]; show upd f 0 _ 0 = _; rw [upd_s, b1]
    have ew : foldG f c (2 + c) = w c := by show upd f 0 _ (2 + c) = _; rw [upd_o (by omega)]; exact b4 c hc
    refine ⟨RG_of (RS_new ⟨_, x2, x1⟩ ⟨b, hb, rfl⟩ ?_ e0 (by rw [e 1 (by omega) (by omega)]; exact b2) (fun j hj => ?_) (fun j hj => by rw [e _ (by omega) (by omega)]; exact b5 j hj) (fun j hj => ?_) c2 c3 (by rw [e _ (by omega) (by omega)]; exact g1) (by rw [e _ (by omega) (by omega)]; exact g2) (by rw [e _ (by omega) (by omega)]; exact g3) (by rw [e _ (by omega) (by omega)]; exact g4)), ?_⟩
    · rw [x1, and0_iff x2 hb]
      intro j hj z
      by_cases q : j = c
      · rw [q] at z; exact T z.2
      · exact (and0_iff ha hb).mp a4 j hj ⟨(bitx ha hc hj q).mp z.1, z.2⟩
    · by_cases q : j = c
      · rw [q, upd_s, ew, upd_s]
      · rw [upd_o (by omega), upd_o q]; show upd f 0 _ (2 + j) = _; rw [upd_o (by omega)]; exact b4 j hj
    · by_cases q : j = c
      · obtain ⟨r, r1, r2⟩ := c1 c hc
        rw [q, upd_s]
        exact ⟨r + 1, by omega, by rw [r2, nI_p1]⟩
      · obtain ⟨r, r1, r2⟩ := c1 j hj
        rw [upd_o q]; exact ⟨r, by omega, r2⟩
    · rw [zA_lo (by omega), e0]
/-- 3. move -/
theorem st_move {i q : Nat} (hi6 : i < 6) (hq : q < 10) (h : RS B fo tn w t lo hi me n qu gu ri re f) : RG (B + 1) (bd fo tn w (upd t i (nI q)) lo hi me (nI 0) qu gu ri re) (moveF f i (nI q)) ∧ f (11 + i) = t i := by
  obtain ⟨⟨a1, a2, a3, a4⟩, ⟨b1, b2, b3, b4, b5⟩, ⟨c1, c2, c3, c4⟩, ⟨d1, d2⟩, g1, g2, g3, g4⟩ := h
  refine ⟨RG_of (RS_new a2 a3 a4 (by rw [upd_o (by omega)]; exact b1) (by rw [upd_o (by omega)]; exact b2) (fun j hj => by rw [upd_o (by omega)]; exact b4 j hj) (fun j hj => ?_) (fun j hj => by obtain ⟨r, r1, r2⟩ := c1 j hj; exact ⟨r, by omega, r2⟩) (fun j hj => ?_) c3 (by rw [upd_o (by omega)]; exact g1) (by rw [upd_o (by omega)]; exact g2) (by rw [upd_o (by omega)]; exact g3) (by rw [upd_o (by omega)]; exact g4)), b5 i hi6⟩
  · by_cases z : j = i
    · rw [z, upd_s, upd_s]
    · rw [upd_o (by omega), upd_o z]; exact b5 j hj
  · by_cases z : j = i
    · rw [z, upd_s]; exact vp_in_nI hq (by omega)
    · rw [upd_o z]; exact c2 j hj
/-- 7. forget -/
theorem st_forget (h : RS B fo tn w t lo hi me n qu gu ri re f) : RG (B + 1) (bd fo tn w t lo hi me (nI 0) qu gu ri re) (zA f 54) ∧ f 17 = nI n := by
  obtain ⟨⟨a1, a2, a3, a4⟩, ⟨b1, b2, b3, b4, b5⟩, ⟨c1, c2, c3, c4⟩, ⟨d1, d2⟩, g1, g2, g3, g4⟩ := h
  exact ⟨RG_of (RS_new a2 a3 a4 b1 b2 b4 b5 (fun j hj => by obtain ⟨r, r1, r2⟩ := c1 j hj; exact ⟨r, by omega, r2⟩) c2 c3 g1 g2 g3 g4), b3⟩
/-- a new strip -/
theorem zW_in {k : Nat} (h : 2 ≤ k ∧ k < 11) : zW f 9 k = nI 0 := if_pos (by omega)
theorem zW_o {k : Nat} (h : ¬ (2 ≤ k ∧ k < 11)) : zW f 9 k = f k := if_neg (by omega)
theorem st_anew {x : Nat} {t' : Nat → Int32} (hx : x < 512) (h : RS B fo tn w t lo hi me n qu gu ri re f) (ht : ∀ j, j < 6 → f' (11 + j) = t' j) (hp : okP t') (e : ∀ j, 54 ≤ j → f' j = f j) :
    RG (B + 1) (bd (nI x) (nI 0) (fun j => if j < 9 then nI 0 else w j) t' lo hi me (nI 0) qu gu ri re) (anewF f' (nI x)) := by
  obtain ⟨⟨a1, a2, a3, a4⟩, ⟨b1, b2, b3, b4, b5⟩, ⟨c1, c2, c3, c4⟩, ⟨d1, d2⟩, g1, g2, g3, g4⟩ := h
  have k : ∀ j, 11 ≤ j → zW (anewG f' (nI x)) 9 j = f' j := fun j hj => by rw [zW_o (by omega)]; show upd (upd f' 0 _) 1 _ j = f' j; rw [upd_o (by omega), upd_o (by omega)]
  refine RG_of (RS_new ⟨x, hx, rfl⟩ ⟨0, by omega, rfl⟩ (by rw [nI_and, Nat.and_zero]; rfl) ?_ ?_ (fun j hj => ?_) (fun j hj => by rw [k _ (by omega)]; exact ht j hj) (fun j hj => ⟨0, Nat.zero_le _, if_pos hj⟩) hp c3 (by rw [k _ (by omega), e _ (by omega)]; exact g1) (by rw [k _ (by omega), e _ (by omega)]; exact g2) (by rw [k _ (by omega), e _ (by omega)]; exact g3) (by rw [k _ (by omega), e _ (by omega)]; exact g4))
  · rw [zW_o (by omega)]; show upd (upd f' 0 _) 1 _ 0 = _; rw [upd_o (by omega), upd_s]
  · rw [zW_o (by omega)]; show upd (upd f' 0 _) 1 _ 1 = _; rw [upd_s]
  · rw [zW_in (by omega), if_pos hj]
/-- 5. renew -/
theorem st_renew (h : RS B fo tn w t lo hi me n qu gu ri re f) : RG (B + 1) (bd (nI 0) (nI 0) (fun j => if j < 9 then nI 0 else w j) t lo hi me (nI 0) qu gu ri re) (anewF f (nI 0)) ∧ bitsM (f 1) = bcn tn := by
  refine ⟨st_anew (by omega) h h.2.1.2.2.2.2 h.2.2.1.2.1 (fun _ _ => rfl), ?_⟩
  obtain ⟨⟨-, -, ⟨b, hb, rfl⟩, -⟩, ⟨-, b2, -⟩, -⟩ := h
  rw [b2, bcn_eq hb]
/-- 4. pull -/
theorem tea_lt (fo : Int32) (w : Nat → Int32) (z : Int32) : ∀ k, k ≤ 9 → ∃ x, x < 512 ∧ teaS fo w z k = nI x := by
  intro k
  induction k with
  | zero => intro _; exact ⟨0, by omega, rfl⟩
  | succ k ih =>
    intro hk
    obtain ⟨x, hx, e⟩ := ih (by omega)
    rw [teaS]
    split
    · have h2 : 2 ^ k < 512 := Nat.lt_of_lt_of_le (Nat.pow_lt_pow_right (by omega) (show k < 9 by omega)) (by decide)
      exact ⟨x ||| 2 ^ k, Nat.or_lt_two_pow (n := 9) hx h2, by rw [e, ms1_eq (by omega), nI_or]⟩
    · exact ⟨x, hx, e⟩
theorem pull_eq {z : Nat} (h0 : f 0 = fo) (hw : ∀ j, j < 9 → f (2 + j) = w j) : ∀ k, k ≤ 9 → pullS f z k = teaS fo w (nI (10 - z)) k := by
  intro k
  induction k with
  | zero => intro _; rfl
  | succ k ih =>
    intro hk
    rw [pullS, teaS, ih (by omega), h0, hw k (by omega)]
    by_cases c : bI fo (nI k) = nI 1 ∧ ¬ w k < nI (10 - z)
    · rw [if_pos c, if_pos c]
    · rw [if_neg c, if_neg c]; exact Int32.or_zero
theorem dj1 {a b x : Int32} (h : a &&& b = 0) : (a &&& (x ^^^ (-1))) &&& (b ||| x) = 0 := by
  apply Int32.toBitVec_inj.mp
  have h := congrArg Int32.toBitVec h
  simp only [Int32.toBitVec_and, Int32.toBitVec_or, Int32.toBitVec_xor] at h ⊢
  apply BitVec.eq_of_getLsbD_eq
  intro i hi
  have h2 := congrArg (fun v => v.getLsbD i) h
  have e1 : (Int32.toBitVec (-1)).getLsbD i = true := by
    rw [show Int32.toBitVec (-1) = BitVec.allOnes 32 by decide, BitVec.getLsbD_allOnes]
    exact decide_eq_true hi
  have e0 : (Int32.toBitVec 0).getLsbD i = false := by
    rw [show Int32.toBitVec 0 = 0#32 by decide, BitVec.getLsbD_zero]
  simp only [BitVec.getLsbD_and, e0] at h2
  simp only [BitVec.getLsbD_and, BitVec.getLsbD_or, BitVec.getLsbD_xor, e1, e0]
  revert h2
  cases a.toBitVec.getLsbD i <;> cases b.toBitVec.getLsbD i <;> cases x.toBitVec.getLsbD i <;> decide
theorem st_pull {y : Nat} (h : RS B fo tn w t lo hi me n qu gu ri re f) :
    RG (B + 1) (bd (fo &&& (teaS fo w (nI (10 - y)) 9 ^^^ (-1))) (tn ||| teaS fo w (nI (10 - y)) 9) w t lo hi me (if teaS fo w (nI (10 - y)) 9 = 0 then nI n else nI 0) qu gu ri re) (pullF f y) ∧ bitsM (pullS f y 9) = bcn (teaS fo w (nI (10 - y)) 9) := by
  have h' := h
  obtain ⟨⟨a1, ⟨a, ha, rfl⟩, ⟨b, hb, rfl⟩, a4⟩, ⟨b1, b2, b3, b4, b5⟩, ⟨c1, c2, c3, c4⟩, ⟨d1, d2⟩, g1, g2, g3, g4⟩ := h
  have hp := pull_eq (z := y) b1 b4 9 (Nat.le_refl _)
  obtain ⟨x, hx, ex⟩ := tea_lt (nI a) w (nI (10 - y)) 9 (Nat.le_refl _)
  have ef : ∃ a', a' < 512 ∧ nI a &&& (nI x ^^^ (-1)) = nI a' := by
    refine ⟨a &&& (x ^^^ 4294967295), Nat.lt_of_le_of_lt Nat.and_le_left ha, ?_⟩
    rw [show (-1 : Int32) = nI 4294967295 by decide, nI_xor, nI_and]
  have eb : ∃ b', b' < 512 ∧ nI b ||| nI x = nI b' := ⟨b ||| x, Nat.or_lt_two_pow (n := 9) hb hx, nI_or b x⟩
  have hd := dj1 (x := nI x) a4
  have eh : ∀ j, 2 ≤ j → pullH f (nI x) j = f j := fun j hj => by show upd (upd f 0 _) 1 _ j = _; rw [upd_o (by omega), upd_o (by omega)]
  have eh0 : pullH f (nI x) 0 = nI a &&& (nI x ^^^ (-1)) := by show upd (upd f 0 _) 1 _ 0 = _; rw [upd_o (by omega), upd_s, b1]
  have eh1 : pullH f (nI x) 1 = nI b ||| nI x := by
    show upd (upd f 0 _) 1 (upd f 0 _ 1 ||| nI x) 1 = _
    rw [upd_s, upd_o (by omega), b2]
  unfold pullF
  rw [hp, ex]
  refine ⟨?_, (bcn_eq hx).symm⟩
  by_cases q : nI x = 0
  · have x0 : x = 0 := nIe (show nI x = nI 0 from q) (by omega) (by omega)
    have q2 : nI x ≤ 0 := by rw [q]; exact Int32.le_refl _
    rw [if_pos q, if_pos q2]
    have e3 : nI a &&& (nI x ^^^ (-1)) = nI a := by rw [q, Int32.zero_xor]; exact Int32.and_neg_one
    have e4 : nI b ||| nI x = nI b := by rw [q]; exact Int32.or_zero
    rw [e3, e4]
    refine RG_of (RS_mono (Nat.le_succ _) (RS_cong h' (fun j hj => ?_)))
    by_cases z0 : j = 0
    · rw [z0, eh0, e3, b1]
    · by_cases z1 : j = 1
      · rw [z1, eh1, e4, b2]
      · exact eh j (by omega)
  · have q2 : ¬ nI x ≤ 0 := nI_nle (by
      rcases Nat.eq_zero_or_pos x with z | z
      · exact absurd (by rw [z]; rfl) q
      · exact z) (by omega)
    rw [if_neg q, if_neg q2]
    exact RG_of (RS_new ef eb hd eh0 eh1 (fun j hj => by rw [eh _ (by omega)]; exact b4 j hj) (fun j hj => by rw [eh _ (by omega)]; exact b5 j hj) (fun j hj => by obtain ⟨r, r1, r2⟩ := c1 j hj; exact ⟨r, by omega, r2⟩) c2 c3 (by rw [eh _ (by omega)]; exact g1) (by rw [eh _ (by omega)]; exact g2) (by rw [eh _ (by omega)]; exact g3) (by rw [eh _ (by omega)]; exact g4))
/-- 7. guess -/
theorem st_guess {q : Nat} (hq : q < 512) (h : RS B fo tn w t lo hi me n qu gu ri re f) :
    RG (B + 1) (bd fo tn w t lo hi me (nI n) qu (gu + nI 1) (if nI q = fo then ri + nI 1 else ri) re) (gueF f (nI q)) ∧ gueR f (nI q) = (if nI q = fo then nI 10 else nI 9 - bcn (nI q ^^^ fo)) := by
  have h' := h
  obtain ⟨⟨a1, ⟨a, ha, rfl⟩, a3, a4⟩, ⟨b1, b2, b3, b4, b5⟩, -, -, g1, g2, g3, g4⟩ := h
  have s2 := RS_ri (RS_gu h' (gu + nI 1)) (if nI q = nI a then ri + nI 1 else ri)
  have e56 : gueG f 56 = ri := by show upd f 55 _ 56 = _; rw [upd_o (by omega)]; exact g3
  have e0 : gueF f (nI q) 0 = nI a := by show upd (upd f 55 _) 56 _ 0 = _; rw [upd_o (by omega), upd_o (by omega)]; exact b1
  unfold gueR
  rw [e0, b1]
  refine ⟨?_, ?_⟩
  · have s3 : gueF f (nI q) = upd (upd f 55 (gu + nI 1)) 56 (if nI q = nI a then ri + nI 1 else ri) := by
      have e : (if nI q = nI a then ri + nI 1 else ri) = ri + (if nI q = nI a then nI 1 else nI 0) := by
        by_cases c : nI q = nI a
        · rw [if_pos c, if_pos c]
        · rw [if_neg c, if_neg c]; exact (addz _).symm
      unfold gueF
      rw [e56, b1, e, show gueG f = upd f 55 (gu + nI 1) by show upd f 55 (f 55 + nI 1) = _; rw [g2]]
    rw [s3]
    exact RG_of (RS_mono (Nat.le_succ _) s2)
  · split
    · rfl
    · rw [nI_xor, bcn_eq (Nat.xor_lt_two_pow (n := 9) hq ha)]
end RSS

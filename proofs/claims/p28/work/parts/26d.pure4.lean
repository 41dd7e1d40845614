/-- the answers of the model and of the class -/
def relA (f lo hi me : Nat → Int32) (n : Nat) : Prop := ∀ k, k < n → lo k = mnI (an f k 0) (an f k 1) ∧ hi k = mxI (an f k 0) (an f k 1) ∧ me k = an f k 2 ∧ (an f k 2 = nI 0 ∨ an f k 2 = nI 1) ∧ vp_in (an f k 0) 10 ∧ vp_in (an f k 1) 10
theorem fitC_snoc (lo hi me : Nat → Int32) (fo : Int32) : ∀ n k, fitC lo hi me fo (n + 1) k = (fitC lo hi me fo n k && decide (b2 (mt fo (cl (lo (k + n))) (cl (hi (k + n)))) = me (k + n))) := by
  intro n
  induction n with
  | zero =>
    intro k
    show (if b2 (mt fo (cl (lo k)) (cl (hi k))) = me k then true else false) = _
    by_cases h : b2 (mt fo (cl (lo k)) (cl (hi k))) = me k
    · rw [if_pos h, show decide (b2 (mt fo (cl (lo (k + 0))) (cl (hi (k + 0)))) = me (k + 0)) = true from decide_eq_true h]; rfl
    · rw [if_neg h, show decide (b2 (mt fo (cl (lo (k + 0))) (cl (hi (k + 0)))) = me (k + 0)) = false from decide_eq_false h]; rfl
  | succ n ih =>
    intro k
    rw [fitC, ih (k + 1), fitC, show k + 1 + n = k + (n + 1) by omega]
    by_cases h : b2 (mt fo (cl (lo k)) (cl (hi k))) = me k
    · rw [if_pos h, if_pos h]
    · rw [if_neg h, if_neg h]; rfl
theorem mt_cm (fo : Int32) (a b : Nat) : mt fo a b = mt fo b a := by unfold mt; rw [Nat.min_comm a b, show dif a b = dif b a by unfold dif; omega]
theorem mt_mm {fo x y : Int32} (hx : vp_in x 10) (hy : vp_in y 10) : mt fo (cl (mnI x y)) (cl (mxI x y)) = mt fo (cl x) (cl y) := by
  have h1 := vp_lt hx
  have h2 := vp_lt hy
  rw [nI_vp hx (by decide), nI_vp hy (by decide), mnN _ _ (by omega) (by omega), mxN _ _ (by omega) (by omega)]
  unfold cl
  rw [nI_clamp (by omega), nI_clamp (by omega), nI_clamp (by omega), nI_clamp (by omega)]
  rcases Nat.le_total x.toNatClampNeg y.toNatClampNeg with h | h
  · rw [Nat.min_eq_left h, Nat.max_eq_right h]
  · rw [Nat.min_eq_right h, Nat.max_eq_left h, mt_cm]
theorem tch_eq {fo : Nat} {x y : Int32} (h1 : fo < 512) (hx : vp_in x 10) (hy : vp_in y 10) : tch (nI fo) x y = mt (nI fo) (cl x) (cl y) := by
  rw [mt_eq h1 (vp_lt hx) (vp_lt hy)]; rfl
theorem fit_eq {f lo hi me : Nat → Int32} {fo : Nat} (h1 : fo < 512) : ∀ n, relA f lo hi me n → fitM f (nI fo) n = fitS (f 1) lo hi me n (nI fo) := by
  intro n
  induction n with
  | zero => intro _; unfold fitS; rw [fitM, fitC, Bool.and_true]; rfl
  | succ n ih =>
    intro h
    obtain ⟨e1, e2, e3, e4, e5, e6⟩ := h n (by omega)
    rw [fitM, ih (fun k hk => h k (by omega))]
    unfold fitS
    rw [fitC_snoc, Bool.and_assoc, Nat.zero_add, e1, e2, e3, mt_mm e5 e6, ← tch_eq h1 e5 e6]
    congr 2
    unfold tch
    rcases e4 with q | q
    · rw [q]; cases decide (plc (nI fo) (an f n 0) = plc (nI fo) (an f n 1)) <;> decide
    · rw [q]; cases decide (plc (nI fo) (an f n 0) = plc (nI fo) (an f n 1)) <;> decide


/-! MORE STEPS: asking, loading, histories, slots -/
theorem mn_vp {x y : Int32} (hx : vp_in x 10) (hy : vp_in y 10) : vp_in (mnI x y) 10 := by
  unfold mnI
  split
  · exact hy
  · exact hx
theorem mx_vp {x y : Int32} (hx : vp_in x 10) (hy : vp_in y 10) : vp_in (mxI x y) 10 := by
  unfold mxI
  split
  · exact hy
  · exact hx
theorem fitC_cg {lo hi me lo' hi' me' : Nat → Int32} {fo : Int32} : ∀ n k, (∀ j, k ≤ j → j < k + n → lo j = lo' j ∧ hi j = hi' j ∧ me j = me' j) → fitC lo hi me fo n k = fitC lo' hi' me' fo n k := by
  intro n
  induction n with
  | zero => intro k _; rfl
  | succ n ih =>
    intro k h
    obtain ⟨h1, h2, h3⟩ := h k (Nat.le_refl _) (by omega)
    rw [fitC, fitC, h1, h2, h3, ih (k + 1) (fun j q1 q2 => h j (by omega) (by omega))]
section RSE
variable {B : Nat} {fo tn : Int32} {w t lo hi me : Nat → Int32} {n : Nat} {qu gu ri re : Int32} {f f' : Nat → Int32}
theorem b2_01 (b : Bool) : b2 b = nI 0 ∨ b2 b = nI 1 := by cases b <;> first | exact Or.inl rfl | exact Or.inr rfl
/-- 6. ask -/
theorem st_ask {i o : Nat} (hi6 : i < 6) (ho : o < 6) (h : RS B fo tn w t lo hi me n qu gu ri re f) :
    RG (B + 1) (bd fo tn w t (if refdC lo hi me n (nI (cl (t i))) (nI (cl (t o))) then lo else upd lo n (mnI (nI (cl (t i))) (nI (cl (t o))))) (if refdC lo hi me n (nI (cl (t i))) (nI (cl (t o))) then hi else upd hi n (mxI (nI (cl (t i))) (nI (cl (t o))))) (if refdC lo hi me n (nI (cl (t i))) (nI (cl (t o))) then me else upd me n (b2 (mt fo (cl (t i)) (cl (t o))))) (if refdC lo hi me n (nI (cl (t i))) (nI (cl (t o))) then nI n else nI (n + 1)) (if refdC lo hi me n (nI (cl (t i))) (nI (cl (t o))) then qu else qu + nI 1) gu ri (if refdC lo hi me n (nI (cl (t i))) (nI (cl (t o))) then re + nI 1 else re)) (askF f n (f (11 + i)) (f (11 + o)))
    ∧ askR f n (f (11 + i)) (f (11 + o)) = (if refdC lo hi me n (nI (cl (t i))) (nI (cl (t o))) then -1 else b2 (mt fo (cl (t i)) (cl (t o)))) := by
  have h' := h
  obtain ⟨⟨a1, ⟨a, ha, rfl⟩, a3, a4⟩, ⟨b1, b2_, b3, b4, b5⟩, ⟨c1, c2, c3, c4⟩, ⟨d1, d2⟩, g1, g2, g3, g4⟩ := h
  have hti := c2 i hi6
  have hto := c2 o ho
  rw [← nI_vp hti (by decide), ← nI_vp hto (by decide), b5 i hi6, b5 o ho]
  have hk := kept_eq hti hto d1 d2
  generalize ea : t i = x at *
  generalize eb : t o = y at *
  unfold askF askR
  by_cases R : refdC lo hi me n x y
  · have R' : refd f n x y := by
      rcases R with q | q
      · exact Or.inl (by omega)
      · exact Or.inr (by rw [hk]; exact q)
    simp only [if_pos R, if_pos R']
    exact ⟨RG_of (RS_mono (Nat.le_succ _) (RS_re h')), trivial⟩
  · have R' : ¬ refd f n x y := by
      rintro (q | q)
      · exact R (Or.inl (by omega))
      · exact R (Or.inr (by rw [← hk]; exact q))
    have hn : n < 12 := by
      have : ¬ 12 ≤ n := fun z => R (Or.inl z)
      omega
    simp only [if_neg R, if_neg R']
    have em : tch (f 0) x y = mt (nI a) (cl x) (cl y) := by rw [b1]; exact tch_eq ha hti hto
    refine ⟨?_, by rw [em]⟩
    -- the model's rows
    have e : ∀ j, j ≠ 17 → j ≠ 54 → j ≠ 18 + 3 * n → j ≠ 18 + 3 * n + 1 → j ≠ 18 + 3 * n + 2 → upd (askH f n x y) 54 (askH f n x y 54 + nI 1) j = f j := fun j q1 q2 q3 q4 q5 => by
      rw [upd_o q2]; show upd (askG f n x y) 17 _ j = f j
      rw [upd_o q1]; show upd (upd (upd f _ _) _ _) _ _ j = f j
      rw [upd_o q5, upd_o q4, upd_o q3]
    have e0 : upd (askH f n x y) 54 (askH f n x y 54 + nI 1) (18 + 3 * n + 0) = x := by
      rw [upd_o (by omega)]; show upd (askG f n x y) 17 _ (18 + 3 * n + 0) = x
      rw [upd_o (by omega)]; show upd (upd (upd f _ _) _ _) _ _ (18 + 3 * n + 0) = x
      rw [upd_o (by omega), upd_o (by omega)]; exact upd_s
    have e1 : upd (askH f n x y) 54 (askH f n x y 54 + nI 1) (18 + 3 * n + 1) = y := by
      rw [upd_o (by omega)]; show upd (askG f n x y) 17 _ (18 + 3 * n + 1) = y
      rw [upd_o (by omega)]; show upd (upd (upd f _ _) _ _) _ _ (18 + 3 * n + 1) = y
      rw [upd_o (by omega)]; exact upd_s
    have e2 : upd (askH f n x y) 54 (askH f n x y 54 + nI 1) (18 + 3 * n + 2) = b2 (mt (nI a) (cl x) (cl y)) := by
      rw [upd_o (by omega)]; show upd (askG f n x y) 17 _ (18 + 3 * n + 2) = _
      rw [upd_o (by omega)]; show upd (upd (upd f _ _) _ _) _ _ (18 + 3 * n + 2) = _
      rw [← em]; exact upd_s
    have e17 : upd (askH f n x y) 54 (askH f n x y 54 + nI 1) 17 = nI (n + 1) := by
      rw [upd_o (by omega)]; show upd (askG f n x y) 17 (askG f n x y 17 + nI 1) 17 = _
      rw [upd_s, show askG f n x y 17 = nI n from by show upd (upd (upd f _ _) _ _) _ _ 17 = _; rw [upd_o (by omega), upd_o (by omega), upd_o (by omega)]; exact b3, nI_p1]
    have e54 : upd (askH f n x y) 54 (askH f n x y 54 + nI 1) 54 = qu + nI 1 := by
      rw [upd_s, show askH f n x y 54 = qu from by show upd (askG f n x y) 17 _ 54 = _; rw [upd_o (by omega)]; show upd (upd (upd f _ _) _ _) _ _ 54 = _; rw [upd_o (by omega), upd_o (by omega), upd_o (by omega)]; exact g1]
    generalize upd (askH f n x y) 54 (askH f n x y 54 + nI 1) = F at *
    refine RG_of (n := n + 1) ⟨⟨by omega, ⟨a, ha, rfl⟩, a3, a4⟩, ⟨by rw [e 0 (by omega) (by omega) (by omega) (by omega) (by omega)]; exact b1, by rw [e 1 (by omega) (by omega) (by omega) (by omega) (by omega)]; exact b2_, e17, fun j hj => by rw [e _ (by omega) (by omega) (by omega) (by omega) (by omega)]; exact b4 j hj, fun j hj => by rw [e _ (by omega) (by omega) (by omega) (by omega) (by omega)]; exact b5 j hj⟩,
      ⟨fun j hj => by obtain ⟨r, r1, r2⟩ := c1 j hj; exact ⟨r, by omega, r2⟩, c2, fun k hk => ?_, fun k hk => ?_⟩, ⟨fun k hk => ?_, ?_⟩, e54, by rw [e 55 (by omega) (by omega) (by omega) (by omega) (by omega)]; exact g2, by rw [e 56 (by omega) (by omega) (by omega) (by omega) (by omega)]; exact g3, by rw [e 57 (by omega) (by omega) (by omega) (by omega) (by omega)]; exact g4⟩
    · by_cases z : k = n
      · rw [z, upd_s, upd_s]; exact ⟨mn_vp hti hto, mx_vp hti hto⟩
      · rw [upd_o z, upd_o z]; exact c3 k hk
    · by_cases z : k = n
      · unfold an
        rw [z, e0, e1]; exact ⟨hti, hto⟩
      · have h := c4 k hk
        unfold an at h ⊢
        rw [e _ (by omega) (by omega) (by omega) (by omega) (by omega), e _ (by omega) (by omega) (by omega) (by omega) (by omega)]
        exact h
    · by_cases z : k = n
      · unfold an
        rw [z, e0, e1, e2, upd_s, upd_s, upd_s]
        exact ⟨rfl, rfl, rfl, b2_01 _, hti, hto⟩
      · have h := d1 k (by omega)
        unfold an at h ⊢
        rw [e _ (by omega) (by omega) (by omega) (by omega) (by omega), e _ (by omega) (by omega) (by omega) (by omega) (by omega), e _ (by omega) (by omega) (by omega) (by omega) (by omega), upd_o z, upd_o z, upd_o z]
        exact h
    · rw [fitC_snoc, Nat.zero_add, upd_s, upd_s, upd_s, mt_mm hti hto, decide_eq_true rfl, Bool.and_true, ← d2]
      exact fitC_cg n 0 (fun j _ hj => ⟨upd_o (by omega), upd_o (by omega), upd_o (by omega)⟩)
theorem va_up_s {α : Type} {g : Nat → α} {k : Nat} {x : α} : va_up g k x k = x := if_pos rfl
theorem va_up_o {α : Type} {g : Nat → α} {k j : Nat} {x : α} (h : j ≠ k) : va_up g k x j = g j := if_neg h
end RSE

/-! THE LOOKS ARE ALIKE -/
section RSL
variable {B : Nat} {fo tn : Int32} {w t lo hi me : Nat → Int32} {n : Nat} {qu gu ri re : Int32} {f : Nat → Int32}
theorem RS_q (h : RS B fo tn w t lo hi me n qu gu ri re f) : ∀ k, k < 512 → qM f n k = qS tn lo hi me n k := q_eq9 h.2.1.2.1 h.2.2.2.1.1
theorem RS_hl (h : RS B fo tn w t lo hi me n qu gu ri re f) : ∀ j, j < n → cl (lo j) ≤ cl (hi j) := by
  intro j hj
  obtain ⟨h1, h2, -, -, h5, h6⟩ := h.2.2.2.1.1 j hj
  rw [h1, h2]
  obtain ⟨x, hx, ex⟩ := vp_in_of h5 (by decide)
  obtain ⟨y, hy, ey⟩ := vp_in_of h6 (by decide)
  rw [ex, ey, mnN x y (by omega) (by omega), mxN x y (by omega) (by omega), show cl (nI (min x y)) = min x y from nI_clamp (by omega), show cl (nI (max x y)) = max x y from nI_clamp (by omega)]
  omega
theorem lk_cN (h : RS B fo tn w t lo hi me n qu gu ri re f) : cN (qM f n) 512 = cN (qS tn lo hi me n) 512 := cN_cg (RS_q h) 512 (Nat.le_refl _)
theorem lk_fit (h : RS B fo tn w t lo hi me n qu gu ri re f) : fitN f n = nI (cN (qS tn lo hi me n) 512) := by
  rw [← lk_cN h]
  exact fitN_eq f n 512 (Nat.le_refl _)
theorem lk_bq (h : RS B fo tn w t lo hi me n qu gu ri re f) : (qsM f n 36).1 = (outC (askW t lo hi me n) (worW (qS tn lo hi me n) t) 6).1 := by
  rw [← worW_cg (RS_q h) t]
  exact bq_eq h.2.1.2.2.2.2 h.2.2.1.2.1 h.2.2.2.1.1 h.2.2.2.1.2 rfl
theorem lk_wk (h : RS B fo tn w t lo hi me n qu gu ri re f) (hB : B < 2 ^ 31) : wkM f 9 = (wkC fo w 9).1 := by
  refine wk_eq h.2.1.1 h.2.1.2.2.2.1 (fun j hj => ?_)
  obtain ⟨q, h1, h2⟩ := h.2.2.1.1 j hj
  rw [h2]
  intro z
  exact absurd (Int32.le_trans (nI_pos' (show q < 2 ^ 31 by omega)) z) (by decide)
theorem lk_tou (h : RS B fo tn w t lo hi me n qu gu ri re f) {i o : Nat} (hi6 : i < 6) (ho : o < 6) : touN f n (f (11 + i)) (f (11 + o)) = meS (qS tn lo hi me n) (cl (t i)) (cl (t o)) := by
  rw [h.2.1.2.2.2.2 i hi6, h.2.1.2.2.2.2 o ho, tou_eq (h.2.2.1.2.1 i hi6) (h.2.2.1.2.1 o ho), meS_cg (RS_q h)]
end RSL

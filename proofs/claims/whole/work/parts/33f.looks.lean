/-! THE LOOKS ARE ALIKE -/
section RSL
variable {B : Nat} {fo tn : Int32} {w t lo hi me : Nat → Int32} {n : Nat} {qu gu ri re : Int32} {f : Nat → Int32}
theorem RS_q (h : RS B fo tn w t lo hi me n qu gu ri re f) : ∀ k, k < 512 → qM f n k = qS tn lo hi me n k := q_eq9 h.2.1.2.1 h.2.2.2.1.1
theorem RS_hl (h : RS B fo tn w t lo hi me n qu gu ri re f) : ∀ j, j < n → cl (lo j) ≤ cl (hi j) := by
  intro j hj
  obtain ⟨h1, h2, -, -, h5, h6⟩ := h.2.2.2.1.1 j hj
  rw [h1, h2]
  obtain ⟨x, hx, ex⟩ := vp_in_of h5 (by decide)
  obtain ⟨y, hy, ey⟩ := vp_in_of h6 (by decide)
  rw [ex, ey, mnN x y (by omega) (by omega), mxN x y (by omega) (by omega), show cl (nI (min x y)) = min x y from nI_clamp (by omega), show cl (nI (max x y)) = max x y from nI_clamp (by omega)]
  omega
theorem lk_op (h : RS B fo tn w t lo hi me n qu gu ri re f) {q v : Nat} (hq : q < 10) : opM f q v = opC fo t q v := by
  obtain ⟨⟨-, ⟨a, ha, rfl⟩, -, -⟩, ⟨b1, -, -, -, b5⟩, -⟩ := h
  exact op_eq b1 ha hq b5
theorem ocC_cg {q q' : Nat → Bool} (e : ∀ k, k < 512 → q k = q' k) (k v : Nat) : ocC fo tn w q k v = ocC fo tn w q' k v := by
  unfold ocC
  rw [sureS_cg e]
theorem lk_oc (h : RS B fo tn w t lo hi me n qu gu ri re f) {k v : Nat} (hk : k < 9) : ocM f n k v = ocC fo tn w (qS tn lo hi me n) k v := by
  have e := RS_q h
  obtain ⟨⟨-, ⟨a, ha, rfl⟩, ⟨b, hb, rfl⟩, a4⟩, ⟨b1, b2, b3, b4, b5⟩, -, ⟨d1, d2⟩, -⟩ := h
  have hq : qM f n a = true := by
    rw [e a ha]
    show (decide (nI a &&& nI b = 0) && fitC lo hi me (nI a) n 0) = true
    rw [d2, decide_eq_true a4]; rfl
  rw [oc_eq b1 b2 (b4 k hk) rfl ha hq]
  exact ocC_cg e k v
theorem lk_ob (h : RS B fo tn w t lo hi me n qu gu ri re f) {i o v : Nat} (hi6 : i < 6) (ho : o < 6) : obM f n (f (11 + i)) (f (11 + o)) v = obC fo t lo hi me n i o v := by
  obtain ⟨⟨-, ⟨a, ha, rfl⟩, -, -⟩, ⟨b1, -, -, -, b5⟩, ⟨-, c2, -, -⟩, ⟨d1, d2⟩, -⟩ := h
  rw [b5 i hi6, b5 o ho]
  exact ob_eq b1 ha (c2 i hi6) (c2 o ho) d1 d2
theorem lk_cN (h : RS B fo tn w t lo hi me n qu gu ri re f) : cN (qM f n) 512 = cN (qS tn lo hi me n) 512 := cN_cg (RS_q h) 512 (Nat.le_refl _)
theorem lk_fit (h : RS B fo tn w t lo hi me n qu gu ri re f) : fitN f n = nI (cN (qS tn lo hi me n) 512) := by
  rw [← lk_cN h]
  exact fitN_eq f n 512 (Nat.le_refl _)
theorem lk_co (h : RS B fo tn w t lo hi me n qu gu ri re f) {z v : Nat} (hv : v ≤ 10) : coM f n z v = coC fo tn lo hi me n (qS tn lo hi me n) qu gu ri re z v := by
  have hf := lk_fit h
  have hl := RS_hl h
  obtain ⟨⟨a1, ⟨a, ha, rfl⟩, ⟨b, hb, rfl⟩, a4⟩, ⟨b1, b2, b3, b4, b5⟩, ⟨c1, c2, c3, c4⟩, ⟨d1, d2⟩, g1, g2, g3, g4⟩ := h
  match v, hv with
  | 0, _ => show bitsM (f 0) = bcn (nI a); rw [b1, bcn_eq ha]
  | 1, _ => show bitsM (f 1) = bcn (nI b); rw [b2, bcn_eq hb]
  | 2, _ => show (wd (f 0) 10).2 - (wd (f 0) 10).1 + nI 1 = _; rw [b1]; rfl
  | 3, _ => exact b3
  | 4, _ => exact hf
  | 5, _ => exact hf.trans (walk_eq hb a1 c3 hl).symm
  | 6, _ => exact g1
  | 7, _ => exact g2
  | 8, _ => exact g3
  | 9, _ => exact g4
  | 10, _ => rfl
  | k + 11, hk => exact absurd hk (by omega)
theorem lk_bq (h : RS B fo tn w t lo hi me n qu gu ri re f) : (qsM f n 36).1 = (outC (askW t lo hi me n) (worW (qS tn lo hi me n) t) 6).1 := by
  rw [← worW_cg (RS_q h) t]
  exact bq_eq h.2.1.2.2.2.2 h.2.2.1.2.1 h.2.2.2.1.1 h.2.2.2.1.2 rfl
theorem lk_wk (h : RS B fo tn w t lo hi me n qu gu ri re f) (hB : B < 2 ^ 31) : wkM f 9 = (wkC fo w 9).1 := by
  refine wk_eq h.2.1.1 h.2.1.2.2.2.1 (fun j hj => ?_)
  obtain ⟨q, h1, h2⟩ := h.2.2.1.1 j hj
  rw [h2]
  intro z
  exact absurd (Int32.le_trans (nI_pos' (show q < 2 ^ 31 by omega)) z) (by decide)
theorem lk_tou (h : RS B fo tn w t lo hi me n qu gu ri re f) {i o : Nat} (hi6 : i < 6) (ho : o < 6) : touN f n (f (11 + i)) (f (11 + o)) = meS (qS tn lo hi me n) (cl (t i)) (cl (t o)) := by
  rw [h.2.1.2.2.2.2 i hi6, h.2.1.2.2.2.2 o ho, tou_eq (h.2.2.1.2.1 i hi6) (h.2.2.1.2.1 o ho), meS_cg (RS_q h)]
theorem lk_fa (h : RS B fo tn w t lo hi me n qu gu ri re f) (x : Int32) : faM (qM f n) x 512 0 = faM (qS tn lo hi me n) x 512 0 := faM_cg (RS_q h) x 512 0 (by omega)
theorem digG_cg {co op oc t0 : Nat → Int64} {ob : Nat → Nat → Nat → Int64} {bq : Int64} {fa : Nat → Int64} {wk bi : Int64} {ks : Nat → Int64} {ln : Nat} {tx : Nat → Int64}
    {co' op' oc' t0' : Nat → Int64} {ob' : Nat → Nat → Nat → Int64} {bq' : Int64} {fa' : Nat → Int64} {wk' bi' : Int64} {ks' : Nat → Int64}
    (e1 : ∀ j, j < 11 → co j = co' j) (e2 : ∀ j, j < 30 → op j = op' j) (e3 : ∀ j, j < 36 → oc j = oc' j) (e4 : ∀ j, j < 6 → t0 j = t0' j) (e5 : ∀ i j v, i < 6 → j < 6 → v < 4 → ob i j v = ob' i j v) (e6 : bq = bq') (e7 : ∀ j, j < 4 → fa j = fa' j) (e8 : wk = wk') (e9 : bi = bi') (e10 : ∀ j, j < 2 → ks j = ks' j) :
    digG co op oc t0 ob bq fa wk bi ks ln tx = digG co' op' oc' t0' ob' bq' fa' wk' bi' ks' ln tx := by
  unfold digG
  rw [dgs_eq e1, dgs_eq e2, dgs_eq e3, dta_eq (Nat.le_refl 6) e4 e5, e6, dgs_eq e7, e8, e9, dgs_eq e10]
theorem lk_dig {z ln : Nat} {o0 o1 : SLO} {ik sg s0 s1 : Nat → Int32} (h : RS B fo tn w t lo hi me n qu gu ri re f) (hB : B < 2 ^ 31) (hs0 : SLr B o0 (ik 0) s0) (hs1 : SLr B o1 (ik 1) s1) : digM f n z ik sg ln = digC fo tn w t lo hi me n qu gu ri re z o0 o1 sg ln := by
  unfold digM digC
  refine digG_cg (fun j hj => ?_) (fun j hj => ?_) (fun j hj => ?_) (fun j hj => ?_) (fun i j v hi6 hj hv => ?_) ?_ (fun j hj => ?_) ?_ ?_ (fun j hj => ?_)
  · unfold mC cC; rw [lk_co h (by omega)]
  · unfold mP cP; rw [lk_op h (by omega)]
  · unfold mR cR; rw [lk_oc h (by omega)]
  · unfold mT cT; rw [h.2.1.2.2.2.2 j hj]
  · unfold mB cB; rw [lk_ob h hi6 hj]
  · rw [lk_bq h]
  · unfold fF; rw [lk_fa h]
  · rw [lk_wk h hB]
  · rw [lk_cN h]
  · match j, hj with
    | 0, _ => exact (SLr_on hs0).symm
    | 1, _ => exact (SLr_on hs1).symm
    | k + 2, hk => exact absurd hk (by omega)
end RSL

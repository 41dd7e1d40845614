theorem ob_eq {f t lo hi me : Nat → Int32} {fo n i o v : Nat} (h0 : f 0 = nI fo) (h1 : fo < 512) (hi_ : vp_in (t i) 10) (ho : vp_in (t o) 10) (hr : relA f lo hi me n) (hf : fitC lo hi me (nI fo) n 0 = true) : obM f n (t i) (t o) v = obC (nI fo) t lo hi me n i o v := by
  unfold obM obC
  rw [h0, off_eq hi_ ho, tch_eq h1 hi_ ho, kept_eq hi_ ho hr hf, ← nI_vp hi_ (by decide), ← nI_vp ho (by decide)]
  rw [show offM (plc (nI fo) (t i)) (plc (nI fo) (t o)) = abI ((pw (nI fo) (cl (t i))).1 - (pw (nI fo) (cl (t o))).1) from plo_eq h1 (vp_lt hi_) (vp_lt ho)]
theorem oc_eq {f w : Nat → Int32} {q : Nat → Bool} {fo tn n k v j : Nat} (h0 : f 0 = nI fo) (h1 : f 1 = nI tn) (hw : f (2 + k) = w k) (hq : qM f n = q) (hj : j < 512) (hqj : q j = true) : ocM f n k v = ocC (nI fo) (nI tn) w q k v := by
  unfold ocM ocC
  rw [h0, h1, hw, sure_eq hj (hq ▸ hqj), hq]

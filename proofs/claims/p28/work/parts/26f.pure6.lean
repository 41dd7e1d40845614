theorem off_all : (List.range 10).all (fun a => (List.range 10).all (fun b => decide (offM (nI a) (nI b) = abI (nI a - nI b)))) = true := by decide +kernel
theorem off_eq {x y : Int32} (hx : vp_in x 10) (hy : vp_in y 10) : offM x y = abI (x - y) := by
  rw [nI_vp hx (by decide), nI_vp hy (by decide)]
  exact of_decide_eq_true (all_of (all_of off_all (vp_lt hx)) (vp_lt hy))
set_option maxRecDepth 100000 in
theorem plo_all : (List.range 512).all (fun fo => (List.range 10).all (fun a => (List.range 10).all (fun b => decide (offM (pw (nI fo) a).1 (pw (nI fo) b).1 = abI ((pw (nI fo) a).1 - (pw (nI fo) b).1))))) = true := by decide +kernel
theorem plo_eq {fo a b : Nat} (h1 : fo < 512) (ha : a < 10) (hb : b < 10) : offM (pw (nI fo) a).1 (pw (nI fo) b).1 = abI ((pw (nI fo) a).1 - (pw (nI fo) b).1) := of_decide_eq_true (all_of (all_of (all_of plo_all h1) ha) hb)


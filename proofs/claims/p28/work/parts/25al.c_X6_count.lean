set_option maxRecDepth 100000 in
theorem c_X6_count (l : Launch) (G : GG) (sz : Nat) (xa so : Nat) (b ce a hh : Nat → Nat) (sg : Nat → Int32) (ln : Nat) (hln : ln ≤ 60) (mk : Nat → Int32) (cs up fo tn : Int32) (w t lo hi me : Nat → Int32) (n : Nat) (hn : n ≤ 12) (qu gu ri re : Int32) (P : Nat → Nat → Nat) (F : Nat → Nat → Nat → Int32) (z : Nat) (hz : z ≤ 6) (o0 o1 : SLO) (hv : okL lo hi) (hcv : cenV (qS tn lo hi me n) mk cs up)  (v : Nat) (hlim : v ≤ 10) : WRi l yX6_count wsX6_count 14 G [.ref xa, .int (nI v)] ([(xa, .inr (5, [.ref (a 0), .ref (hh 0), .ref so, .ref (b 0), .ref (ce 0)]))] ++ ([(so, .inl (G.2.2.2.1, 2, .inr (.inr (.inr (.inr (slR o0 o1))))))] ++ (txW G b sg (nI ln) ++ (ceW G ce mk cs up ++ (stW G a fo tn w t lo hi me (nI n) qu gu ri re ++ ([(hh 0, .inr (2, [.ref (hh 1), .int (nI z)]))] ++ (hiR G hh P F ++ (slS G o0 ++ (slS G o1))))))))) sz (S := CU) (fun r u => r = coC fo tn lo hi me n (qS tn lo hi me n) qu gu ri re z v ∧ cenV (qS tn lo hi me n) u.1 u.2.1 u.2.2) (fun u => [(xa, .inr (5, [.ref (a 0), .ref (hh 0), .ref so, .ref (b 0), .ref (ce 0)]))] ++ ([(so, .inl (G.2.2.2.1, 2, .inr (.inr (.inr (.inr (slR o0 o1))))))] ++ (txW G b sg (nI ln) ++ (ceW G ce u.1 u.2.1 u.2.2 ++ (stW G a fo tn w t lo hi me (nI n) qu gu ri re ++ ([(hh 0, .inr (2, [.ref (hh 1), .int (nI z)]))] ++ (hiR G hh P F ++ (slS G o0 ++ (slS G o1))))))))) 0 0 := by
  match v, hlim with
  | 0, _ => exact c_X6_count_0 l G sz xa so b ce a hh sg ln hln mk cs up fo tn w t lo hi me n hn qu gu ri re P F z hz o0 o1 hv hcv 
  | 1, _ => exact c_X6_count_1 l G sz xa so b ce a hh sg ln hln mk cs up fo tn w t lo hi me n hn qu gu ri re P F z hz o0 o1 hv hcv 
  | 2, _ => exact c_X6_count_2 l G sz xa so b ce a hh sg ln hln mk cs up fo tn w t lo hi me n hn qu gu ri re P F z hz o0 o1 hv hcv 
  | 3, _ => exact c_X6_count_3 l G sz xa so b ce a hh sg ln hln mk cs up fo tn w t lo hi me n hn qu gu ri re P F z hz o0 o1 hv hcv 
  | 4, _ => exact c_X6_count_4 l G sz xa so b ce a hh sg ln hln mk cs up fo tn w t lo hi me n hn qu gu ri re P F z hz o0 o1 hv hcv 
  | 5, _ => exact c_X6_count_5 l G sz xa so b ce a hh sg ln hln mk cs up fo tn w t lo hi me n hn qu gu ri re P F z hz o0 o1 hv hcv 
  | 6, _ => exact c_X6_count_6 l G sz xa so b ce a hh sg ln hln mk cs up fo tn w t lo hi me n hn qu gu ri re P F z hz o0 o1 hv hcv 
  | 7, _ => exact c_X6_count_7 l G sz xa so b ce a hh sg ln hln mk cs up fo tn w t lo hi me n hn qu gu ri re P F z hz o0 o1 hv hcv 
  | 8, _ => exact c_X6_count_8 l G sz xa so b ce a hh sg ln hln mk cs up fo tn w t lo hi me n hn qu gu ri re P F z hz o0 o1 hv hcv 
  | 9, _ => exact c_X6_count_9 l G sz xa so b ce a hh sg ln hln mk cs up fo tn w t lo hi me n hn qu gu ri re P F z hz o0 o1 hv hcv 
  | 10, _ => exact c_X6_count_10 l G sz xa so b ce a hh sg ln hln mk cs up fo tn w t lo hi me n hn qu gu ri re P F z hz o0 o1 hv hcv 
  | k + 11, h => exact absurd h (by omega)


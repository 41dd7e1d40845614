set_option maxRecDepth 100000 in
theorem c_X6_panelOf (l : Launch) (G : GG) (xa so : Nat) (b ce a hh : Nat → Nat) (sg : Nat → Int32) (ln : Nat) (hln : ln ≤ 60) (mk : Nat → Int32) (cs up fo tn : Int32) (w t lo hi me : Nat → Int32) (n : Nat) (hn : n ≤ 12) (qu gu ri re : Int32) (P : Nat → Nat → Nat) (F : Nat → Nat → Nat → Int32) (z : Nat) (hz : z ≤ 6) (o0 o1 : SLO) (q : Nat) (hq : q < 10) (v : Nat) (hlim : v ≤ 2) : RD l yX6_panelOf wsX6_panelOf 4 G [.ref xa, .int (nI q), .int (nI v)] ([(xa, .inr (5, [.ref (a 0), .ref (hh 0), .ref so, .ref (b 0), .ref (ce 0)]))] ++ ([(so, .inl (G.2.2.2.1, 2, .inr (.inr (.inr (.inr (slR o0 o1))))))] ++ (txW G b sg (nI ln) ++ (ceW G ce mk cs up ++ (stW G a fo tn w t lo hi me (nI n) qu gu ri re ++ ([(hh 0, .inr (2, [.ref (hh 1), .int (nI z)]))] ++ (hiR G hh P F ++ (slS G o0 ++ (slS G o1))))))))) (some (.int (opC fo t q v))) := by
  match v, hlim with
  | 0, _ => exact c_X6_panelOf_0 l G xa so b ce a hh sg ln hln mk cs up fo tn w t lo hi me n hn qu gu ri re P F z hz o0 o1 q hq
  | 1, _ => exact c_X6_panelOf_1 l G xa so b ce a hh sg ln hln mk cs up fo tn w t lo hi me n hn qu gu ri re P F z hz o0 o1 q hq
  | 2, _ => exact c_X6_panelOf_2 l G xa so b ce a hh sg ln hln mk cs up fo tn w t lo hi me n hn qu gu ri re P F z hz o0 o1 q hq
  | k + 3, h => exact absurd h (by omega)


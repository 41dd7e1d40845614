set_option maxRecDepth 100000 in
theorem c_X6_between (l : Launch) (G : GG) (xa so : Nat) (b ce a hh : Nat → Nat) (sg : Nat → Int32) (ln : Nat) (hln : ln ≤ 60) (mk : Nat → Int32) (cs up fo tn : Int32) (w t lo hi me : Nat → Int32) (n : Nat) (hn : n ≤ 12) (qu gu ri re : Int32) (P : Nat → Nat → Nat) (F : Nat → Nat → Nat → Int32) (z : Nat) (hz : z ≤ 6) (o0 o1 : SLO) (i o : Nat) (hi6 : i < 6) (ho : o < 6) (h1 : vp_in (t i) 10) (h2 : vp_in (t o) 10) (v : Nat) (hlim : v ≤ 3) : RD l yX6_between wsX6_between 4 G [.ref xa, .int (nI i), .int (nI o), .int (nI v)] ([(xa, .inr (5, [.ref (a 0), .ref (hh 0), .ref so, .ref (b 0), .ref (ce 0)]))] ++ ([(so, .inl (G.2.2.2.1, 2, .inr (.inr (.inr (.inr (slR o0 o1))))))] ++ (txW G b sg (nI ln) ++ (ceW G ce mk cs up ++ (stW G a fo tn w t lo hi me (nI n) qu gu ri re ++ ([(hh 0, .inr (2, [.ref (hh 1), .int (nI z)]))] ++ (hiR G hh P F ++ (slS G o0 ++ (slS G o1))))))))) (some (.int (obC fo t lo hi me n i o v))) := by
  match v, hlim with
  | 0, _ => exact c_X6_between_0 l G xa so b ce a hh sg ln hln mk cs up fo tn w t lo hi me n hn qu gu ri re P F z hz o0 o1 i o hi6 ho h1 h2
  | 1, _ => exact c_X6_between_1 l G xa so b ce a hh sg ln hln mk cs up fo tn w t lo hi me n hn qu gu ri re P F z hz o0 o1 i o hi6 ho h1 h2
  | 2, _ => exact c_X6_between_2 l G xa so b ce a hh sg ln hln mk cs up fo tn w t lo hi me n hn qu gu ri re P F z hz o0 o1 i o hi6 ho h1 h2
  | 3, _ => exact c_X6_between_3 l G xa so b ce a hh sg ln hln mk cs up fo tn w t lo hi me n hn qu gu ri re P F z hz o0 o1 i o hi6 ho h1 h2
  | k + 4, h => exact absurd h (by omega)


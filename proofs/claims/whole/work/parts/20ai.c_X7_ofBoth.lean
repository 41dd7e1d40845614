set_option maxRecDepth 100000 in
theorem c_X7_ofBoth (l : Launch) (G : GG) (sz : Nat) (A : Nat → Nat) (th sm le : Int32) (dg : Int64) (f sl ik sv tx pl : Nat → Int32) (n : Nat) (hn : f 17 = nI n) (hn2 : n ≤ 12) (hv : okA f) (i o : Nat) (hi6 : i < 6) (ho : o < 6) (h1 : vp_in (f (11 + i)) 10) (h2 : vp_in (f (11 + o)) 10) (v : Nat) (hv3 : v ≤ 3) : WRi l yX7_ofBoth wsX7_ofBoth 3 G [.ref (A 0), .int (nI i), .int (nI o), .int (nI v)] (mW G A th sm le dg f sl ik sv tx pl) sz (S := Nat → Int32) (fun r _ => r = obM f n (f (11 + i)) (f (11 + o)) v) (fun u => mW G A th sm le dg f sl ik sv tx u) 0 0 := by
  match v, hv3 with
  | 0, _ => exact c_X7_ofBoth_0 l G sz A th sm le dg f sl ik sv tx pl n hn hn2 hv i o hi6 ho h1 h2
  | 1, _ => exact c_X7_ofBoth_1 l G sz A th sm le dg f sl ik sv tx pl n hn hn2 hv i o hi6 ho h1 h2
  | 2, _ => exact c_X7_ofBoth_2 l G sz A th sm le dg f sl ik sv tx pl n hn hn2 hv i o hi6 ho h1 h2
  | 3, _ => exact c_X7_ofBoth_3 l G sz A th sm le dg f sl ik sv tx pl n hn hn2 hv i o hi6 ho h1 h2
  | k + 4, h => exact absurd h (by omega)

set_option maxRecDepth 100000 in
theorem c_X7_counted (l : Launch) (G : GG) (sz : Nat) (A : Nat → Nat) (th le : Int32) (dg : Int64) (f sl ik sv tx pl : Nat → Int32) (m : Nat) (hm : m ≤ 6) (n : Nat) (hn : f 17 = nI n) (hn2 : n ≤ 12) (hv : okA f) (v : Nat) (hv10 : v ≤ 10) : WRi l yX7_counted wsX7_counted 4 G [.ref (A 0), .int (nI v)] (mW G A th (nI m) le dg f sl ik sv tx pl) sz (S := Nat → Int32) (fun r _ => r = coM f n m v) (fun u => mW G A th (nI m) le dg f sl ik sv tx u) 0 0 := by
  match v, hv10 with
  | 0, _ => exact c_X7_counted_0 l G sz A th le dg f sl ik sv tx pl m hm n hn hn2 hv
  | 1, _ => exact c_X7_counted_1 l G sz A th le dg f sl ik sv tx pl m hm n hn hn2 hv
  | 2, _ => exact c_X7_counted_2 l G sz A th le dg f sl ik sv tx pl m hm n hn hn2 hv
  | 3, _ => exact c_X7_counted_3 l G sz A th le dg f sl ik sv tx pl m hm n hn hn2 hv
  | 4, _ => exact c_X7_counted_4 l G sz A th le dg f sl ik sv tx pl m hm n hn hn2 hv
  | 5, _ => exact c_X7_counted_5 l G sz A th le dg f sl ik sv tx pl m hm n hn hn2 hv
  | 6, _ => exact c_X7_counted_6 l G sz A th le dg f sl ik sv tx pl m hm n hn hn2 hv
  | 7, _ => exact c_X7_counted_7 l G sz A th le dg f sl ik sv tx pl m hm n hn hn2 hv
  | 8, _ => exact c_X7_counted_8 l G sz A th le dg f sl ik sv tx pl m hm n hn hn2 hv
  | 9, _ => exact c_X7_counted_9 l G sz A th le dg f sl ik sv tx pl m hm n hn hn2 hv
  | 10, _ => exact c_X7_counted_10 l G sz A th le dg f sl ik sv tx pl m hm n hn hn2 hv
  | k + 11, h => exact absurd h (by omega)

set_option maxHeartbeats 4000000 in
set_option maxRecDepth 100000 in
theorem c_X7_counted_5 (l : Launch) (G : GG) (sz : Nat) (A : Nat → Nat) (th le : Int32) (dg : Int64) (f sl ik sv tx pl : Nat → Int32) (m : Nat) (hm : m ≤ 6) (n : Nat) (hn : f 17 = nI n) (hn2 : n ≤ 12) (hv : okA f) : WRi l yX7_counted wsX7_counted 4 G [.ref (A 0), .int (nI 5)] (mW G A th (nI m) le dg f sl ik sv tx pl) sz (S := Nat → Int32) (fun r _ => r = coM f n m 5) (fun u => mW G A th (nI m) le dg f sl ik sv tx u) 0 0 := by
  refine wr_of (l := l) (y := yX7_counted) (w := wsX7_counted) (d := 4) (G := G) (As := [.ref (A 0), .int (nI 5)]) (sz := sz) (mc := 0) (ms := 0) (cc := cX7_counted) (maxL := 2) (ret := (some .int)) (Qc := fun Ar => wQi G (S := Nat → Int32) (fun r _ => r = coM f n m 5) (fun u => mW G A th (nI m) le dg f sl ik sv tx u) Ar) (by decide) rfl (Nat.le_of_ble_eq_true rfl) ?_
  intro pG eG s mG below meth cG hsz hx hb hr hml hts hown hlocks hnm hP hK hN Ar hD hA hS ls hl
  have hown : s.vm.findClass RX7 = some mG.cls := hown
  have hP : PP G (mW G A th (nI m) le dg f sl ik sv tx pl) s.heap := hP
  have hD : va_D Ar (mW G A th (nI m) le dg f sl ik sv tx pl) := hD
  have hl : lv_has ls 2 [(0, .ref (A 0)), (1, .int (nI 5))] := hl
  refine lv_iload_n hx hb dX7_counted_0 rfl (lv_at hl 1 rfl) ?_
  refine lv_tableIn (off := 82) (tgt := 83) hx hb dX7_counted_1 (by decide) (by decide) (by decide) (by decide) ?_
  refine lv_aload_n hx hb dX7_counted_83 rfl (lv_at hl 0 rfl) ?_
  refine wr_goi (pre := []) (mid := mW G A th (nI m) le dg f sl ik sv tx pl) (suf := []) (va_runV (As := []) (rest := []) ⟨hx, hb, hml, hown, hts⟩ (c_X7_fitting l G _ A th (nI m) le dg f sl ik sv tx pl n hn hn2 hv) (cwV 0 hts gX7_counted_X7_fitting rfl rfl rfl (by decide +kernel) ⟨Nat.le_of_ble_eq_true rfl, Nat.le_of_ble_eq_true rfl⟩) (wV (pre := []) (mid := mW G A th (nI m) le dg f sl ik sv tx pl) (suf := []) (va_recv (ws := mW G A th (nI m) le dg f sl ik sv tx pl) hK hP (ci := 6) (q0 := 0) rfl rfl) hK hN hP hD) rfl rfl hl.1 rfl (lv_room (Nat.le_of_ble_eq_true rfl)) dX7_counted_84 ⟨Nat.le_of_ble_eq_true rfl, Nat.le_of_ble_eq_true rfl⟩) hP hD hS hA (fun r u_1 H locs hw hP9 hD9 hS => ?_)
  subst hw
  have hP : PP G (mW G A th (nI m) le dg f sl ik sv tx u_1) _ := hP9
  have hD : va_D Ar (mW G A th (nI m) le dg f sl ik sv tx u_1) := hD9
  exact wr_iret (G := G) (S := Nat → Int32) u_1 hx hb hr hlocks hP hD hS (Nat.le_of_ble_eq_true rfl) (Nat.le_of_ble_eq_true rfl) (by rfl) dX7_counted_87

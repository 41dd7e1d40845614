set_option maxHeartbeats 4000000 in
set_option maxRecDepth 100000 in
theorem c_X7_count (l : Launch) (G : GG) (sz : Nat) (A : Nat → Nat) (th le : Int32) (dg : Int64) (f sl ik sv tx pl : Nat → Int32) (m : Nat) (hm : m ≤ 6) (n : Nat) (hn : f 17 = nI n) (hn2 : n ≤ 12) (hv : okA f) (v : Nat) (hv10 : v ≤ 10) : WRi l yX7_count wsX7_count 5 G [.ref (A 0), .int (nI v)] (mW G A th (nI m) le dg f sl ik sv tx pl) sz (S := Nat → Int32) (fun r _ => r = coM f n m v) (fun u => mW G A (nI 0) (nI m) le dg f sl ik sv tx u) 0 0 := by
  refine wr_of (l := l) (y := yX7_count) (w := wsX7_count) (d := 5) (G := G) (As := [.ref (A 0), .int (nI v)]) (sz := sz) (mc := 0) (ms := 0) (cc := cX7_count) (maxL := 2) (ret := (some .int)) (Qc := fun Ar => wQi G (S := Nat → Int32) (fun r _ => r = coM f n m v) (fun u => mW G A (nI 0) (nI m) le dg f sl ik sv tx u) Ar) (by decide) rfl (Nat.le_of_ble_eq_true rfl) ?_
  intro pG eG s mG below meth cG hsz hx hb hr hml hts hown hlocks hnm hP hK hN Ar hD hA hS ls hl
  have hown : s.vm.findClass RX7 = some mG.cls := hown
  have hP : PP G (mW G A th (nI m) le dg f sl ik sv tx pl) s.heap := hP
  have hD : va_D Ar (mW G A th (nI m) le dg f sl ik sv tx pl) := hD
  have hl : lv_has ls 2 [(0, .ref (A 0)), (1, .int (nI v))] := hl
  refine lv_aload_n hx hb dX7_count_0 rfl (lv_at hl 0 rfl) ?_
  refine lv_iload_n hx hb dX7_count_1 rfl (lv_at hl 1 rfl) ?_
  refine lv_iconst (v := nI 0) hx hb dX7_count_2 (by decide) ?_
  refine lv_bipush (v := nI 10) hx hb dX7_count_3 (by decide) ?_
  refine rd_go (va_runS (As := [.int (nI v), .int (nI 0), .int (nI 10)]) (rest := [.ref (A 0)]) ⟨hx, hb, hml, hown, hts⟩ (c_X7_in l G (nI v) (nI 0) (nI 10)) (va_cwS 3 hts gX7_count_X7_in rfl rfl rfl (by decide +kernel) ⟨Nat.le_of_ble_eq_true rfl, Nat.le_of_ble_eq_true rfl⟩) (rS (ws := []) hK hN P_nil) rfl rfl hl.1 rfl (lv_room (Nat.le_of_ble_eq_true rfl)) dX7_count_5 ⟨Nat.le_of_ble_eq_true rfl, Nat.le_of_ble_eq_true rfl⟩) ?_
  refine lv_cgi (y := nI 1) (b2T (inB_n (Nat.zero_le _) (by omega) (by omega))) ?_
  refine lv_if_eq (tgt := 15) hx hb dX7_count_8 (by decide) (fun c_8 => ?_) (fun c_8 => ?_)
  · exact absurd c_8 (by decide)
  · refine lv_iconst (v := nI 0) hx hb dX7_count_11 (by decide) ?_
    refine lv_goto (tgt := 16) hx hb dX7_count_12 (by decide) ?_
    refine wr_goi (pre := []) (mid := mW G A th (nI m) le dg f sl ik sv tx pl) (suf := []) (va_runV (As := [.int (nI 0)]) (rest := []) ⟨hx, hb, hml, hown, hts⟩ (c_X7_holds l G _ A th (nI m) le dg f sl ik sv tx pl (nI 0)) (cwV 1 hts gX7_count_X7_holds rfl rfl rfl (by decide +kernel) ⟨Nat.le_of_ble_eq_true rfl, Nat.le_of_ble_eq_true rfl⟩) (wV (pre := []) (mid := mW G A th (nI m) le dg f sl ik sv tx pl) (suf := []) (va_recv (ws := mW G A th (nI m) le dg f sl ik sv tx pl) hK hP (ci := 6) (q0 := 0) rfl rfl) hK hN hP hD) rfl rfl hl.1 rfl (lv_room (Nat.le_of_ble_eq_true rfl)) dX7_count_16 ⟨Nat.le_of_ble_eq_true rfl, Nat.le_of_ble_eq_true rfl⟩) hP hD hS hA (fun r _ H locs hw hP9 hD9 hS => ?_)
    subst hw
    have hP : PP G (mW G A (nI 0) (nI m) le dg f sl ik sv tx pl) _ := hP9
    have hD : va_D Ar (mW G A (nI 0) (nI m) le dg f sl ik sv tx pl) := hD9
    refine lv_cgi (y := nI 1) (by decide) ?_
    refine lv_if_eq (tgt := 30) hx hb dX7_count_19 (by decide) (fun c_19 => ?_) (fun c_19 => ?_)
    · exact absurd c_19 (by decide)
    · refine lv_aload_n hx hb dX7_count_22 rfl (lv_at hl 0 rfl) ?_
      refine lv_iload_n hx hb dX7_count_23 rfl (lv_at hl 1 rfl) ?_
      refine wr_goi (pre := []) (mid := mW G A (nI 0) (nI m) le dg f sl ik sv tx pl) (suf := []) (va_runV (As := [.int (nI v)]) (rest := []) ⟨hx, hb, hml, hown, hts⟩ (c_X7_counted l G _ A (nI 0) le dg f sl ik sv tx pl m hm n hn hn2 hv v (by omega)) (cwV 1 hts gX7_count_X7_counted rfl rfl rfl (by decide +kernel) ⟨Nat.le_of_ble_eq_true rfl, Nat.le_of_ble_eq_true rfl⟩) (wV (pre := []) (mid := mW G A (nI 0) (nI m) le dg f sl ik sv tx pl) (suf := []) (va_recv (ws := mW G A (nI 0) (nI m) le dg f sl ik sv tx pl) hK hP (ci := 6) (q0 := 0) rfl rfl) hK hN hP hD) rfl rfl hl.1 rfl (lv_room (Nat.le_of_ble_eq_true rfl)) dX7_count_24 ⟨Nat.le_of_ble_eq_true rfl, Nat.le_of_ble_eq_true rfl⟩) hP hD hS hA (fun r u_1 H locs hw hP9 hD9 hS => ?_)
      subst hw
      have hP : PP G (mW G A (nI 0) (nI m) le dg f sl ik sv tx u_1) _ := hP9
      have hD : va_D Ar (mW G A (nI 0) (nI m) le dg f sl ik sv tx u_1) := hD9
      refine lv_goto (tgt := 31) hx hb dX7_count_27 (by decide) ?_
      exact wr_iret (G := G) (S := Nat → Int32) u_1 hx hb hr hlocks hP hD hS (Nat.le_of_ble_eq_true rfl) (Nat.le_of_ble_eq_true rfl) (by rfl) dX7_count_31

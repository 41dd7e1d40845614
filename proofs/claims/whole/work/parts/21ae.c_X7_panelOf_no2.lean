set_option maxHeartbeats 4000000 in
set_option maxRecDepth 100000 in
theorem c_X7_panelOf_no2 (l : Launch) (G : GG) (sz : Nat) (A : Nat → Nat) (th sm le : Int32) (dg : Int64) (f sl ik sv tx pl : Nat → Int32) (x y : Int32) (hx0 : inB x (nI 0) (nI 9)) (hy0 : ¬ inB y (nI 0) (nI 2)) : WRi l yX7_panelOf wsX7_panelOf 4 G [.ref (A 0), .int x, .int y] (mW G A th sm le dg f sl ik sv tx pl) sz (S := Unit) (fun r _ => r = nI 0) (fun _ => mW G A (nI 2) sm le dg f sl ik sv tx pl) 0 0 := by
  refine wr_of (l := l) (y := yX7_panelOf) (w := wsX7_panelOf) (d := 4) (G := G) (As := [.ref (A 0), .int x, .int y]) (sz := sz) (mc := 0) (ms := 0) (cc := cX7_panelOf) (maxL := 3) (ret := (some .int)) (Qc := fun Ar => wQi G (S := Unit) (fun r _ => r = nI 0) (fun _ => mW G A (nI 2) sm le dg f sl ik sv tx pl) Ar) (by decide) rfl (Nat.le_of_ble_eq_true rfl) ?_
  intro pG eG s mG below meth cG hsz hx hb hr hml hts hown hlocks hnm hP hK hN Ar hD hA hS ls hl
  have hown : s.vm.findClass RX7 = some mG.cls := hown
  have hP : PP G (mW G A th sm le dg f sl ik sv tx pl) s.heap := hP
  have hD : va_D Ar (mW G A th sm le dg f sl ik sv tx pl) := hD
  have hl : lv_has ls 3 [(0, .ref (A 0)), (1, .int x), (2, .int y)] := hl
  refine lv_aload_n hx hb dX7_panelOf_0 rfl (lv_at hl 0 rfl) ?_
  refine lv_iload_n hx hb dX7_panelOf_1 rfl (lv_at hl 1 rfl) ?_
  refine rd_go (va_runS (As := [.int x]) (rest := [.ref (A 0)]) ⟨hx, hb, hml, hown, hts⟩ (c_X7_isPanel l G x) (va_cwS 1 hts gX7_panelOf_X7_isPanel rfl rfl rfl (by decide +kernel) ⟨Nat.le_of_ble_eq_true rfl, Nat.le_of_ble_eq_true rfl⟩) (rS (ws := []) hK hN P_nil) rfl rfl hl.1 rfl (lv_room (Nat.le_of_ble_eq_true rfl)) dX7_panelOf_2 ⟨Nat.le_of_ble_eq_true rfl, Nat.le_of_ble_eq_true rfl⟩) ?_
  refine lv_cgi (y := nI 1) (b2T (hx0)) ?_
  refine lv_if_ne (tgt := 12) hx hb dX7_panelOf_5 (by decide) (fun c_5 => ?_) (fun c_5 => ?_)
  · refine lv_iload_n hx hb dX7_panelOf_12 rfl (lv_at hl 2 rfl) ?_
    refine lv_iconst (v := nI 0) hx hb dX7_panelOf_13 (by decide) ?_
    refine lv_iconst (v := nI 2) hx hb dX7_panelOf_14 (by decide) ?_
    refine rd_go (va_runS (As := [.int y, .int (nI 0), .int (nI 2)]) (rest := [.ref (A 0)]) ⟨hx, hb, hml, hown, hts⟩ (c_X7_in l G y (nI 0) (nI 2)) (va_cwS 3 hts gX7_panelOf_X7_in rfl rfl rfl (by decide +kernel) ⟨Nat.le_of_ble_eq_true rfl, Nat.le_of_ble_eq_true rfl⟩) (rS (ws := []) hK hN P_nil) rfl rfl hl.1 rfl (lv_room (Nat.le_of_ble_eq_true rfl)) dX7_panelOf_15 ⟨Nat.le_of_ble_eq_true rfl, Nat.le_of_ble_eq_true rfl⟩) ?_
    refine lv_cgi (y := nI 0) (b2F (hy0)) ?_
    refine lv_if_ne (tgt := 25) hx hb dX7_panelOf_18 (by decide) (fun c_18 => ?_) (fun c_18 => ?_)
    · exact absurd c_18 (by decide)
    · refine lv_iconst (v := nI 2) hx hb dX7_panelOf_21 (by decide) ?_
      refine lv_goto (tgt := 26) hx hb dX7_panelOf_22 (by decide) ?_
      refine wr_goi (pre := []) (mid := mW G A th sm le dg f sl ik sv tx pl) (suf := []) (va_runV (As := [.int (nI 2)]) (rest := []) ⟨hx, hb, hml, hown, hts⟩ (c_X7_holds l G _ A th sm le dg f sl ik sv tx pl (nI 2)) (cwV 1 hts gX7_panelOf_X7_holds rfl rfl rfl (by decide +kernel) ⟨Nat.le_of_ble_eq_true rfl, Nat.le_of_ble_eq_true rfl⟩) (wV (pre := []) (mid := mW G A th sm le dg f sl ik sv tx pl) (suf := []) (va_recv (ws := mW G A th sm le dg f sl ik sv tx pl) hK hP (ci := 6) (q0 := 0) rfl rfl) hK hN hP hD) rfl rfl hl.1 rfl (lv_room (Nat.le_of_ble_eq_true rfl)) dX7_panelOf_26 ⟨Nat.le_of_ble_eq_true rfl, Nat.le_of_ble_eq_true rfl⟩) hP hD hS hA (fun r _ H locs hw hP9 hD9 hS => ?_)
      subst hw
      have hP : PP G (mW G A (nI 2) sm le dg f sl ik sv tx pl) _ := hP9
      have hD : va_D Ar (mW G A (nI 2) sm le dg f sl ik sv tx pl) := hD9
      refine lv_cgi (y := nI 0) (by decide) ?_
      refine lv_if_eq (tgt := 41) hx hb dX7_panelOf_29 (by decide) (fun c_29 => ?_) (fun c_29 => ?_)
      · refine lv_iconst (v := nI 0) hx hb dX7_panelOf_41 (by decide) ?_
        exact wr_iret (G := G) (S := Unit) () hx hb hr hlocks hP hD hS (Nat.le_of_ble_eq_true rfl) (Nat.le_of_ble_eq_true rfl) (by rfl) dX7_panelOf_42
      · exact absurd c_29 (by decide)
  · exact absurd c_5 (by decide)

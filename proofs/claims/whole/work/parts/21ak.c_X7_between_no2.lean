set_option maxHeartbeats 4000000 in
set_option maxRecDepth 100000 in
theorem c_X7_between_no2 (l : Launch) (G : GG) (sz : Nat) (A : Nat → Nat) (th sm le : Int32) (dg : Int64) (f sl ik sv tx pl : Nat → Int32) (x y w : Int32) (hx0 : inB x (nI 0) (nI 5)) (hy0 : inB y (nI 0) (nI 5)) (hw0 : ¬ inB w (nI 0) (nI 3)) : WRi l yX7_between wsX7_between 4 G [.ref (A 0), .int x, .int y, .int w] (mW G A th sm le dg f sl ik sv tx pl) sz (S := Unit) (fun r _ => r = nI 0) (fun _ => mW G A (nI 2) sm le dg f sl ik sv tx pl) 0 0 := by
  refine wr_of (l := l) (y := yX7_between) (w := wsX7_between) (d := 4) (G := G) (As := [.ref (A 0), .int x, .int y, .int w]) (sz := sz) (mc := 0) (ms := 0) (cc := cX7_between) (maxL := 4) (ret := (some .int)) (Qc := fun Ar => wQi G (S := Unit) (fun r _ => r = nI 0) (fun _ => mW G A (nI 2) sm le dg f sl ik sv tx pl) Ar) (by decide) rfl (Nat.le_of_ble_eq_true rfl) ?_
  intro pG eG s mG below meth cG hsz hx hb hr hml hts hown hlocks hnm hP hK hN Ar hD hA hS ls hl
  have hown : s.vm.findClass RX7 = some mG.cls := hown
  have hP : PP G (mW G A th sm le dg f sl ik sv tx pl) s.heap := hP
  have hD : va_D Ar (mW G A th sm le dg f sl ik sv tx pl) := hD
  have hl : lv_has ls 4 [(0, .ref (A 0)), (1, .int x), (2, .int y), (3, .int w)] := hl
  refine lv_aload_n hx hb dX7_between_0 rfl (lv_at hl 0 rfl) ?_
  refine lv_iload_n hx hb dX7_between_1 rfl (lv_at hl 1 rfl) ?_
  refine rd_go (va_runS (As := [.int x]) (rest := [.ref (A 0)]) ⟨hx, hb, hml, hown, hts⟩ (c_X7_isTown l G x) (va_cwS 1 hts gX7_between_X7_isTown rfl rfl rfl (by decide +kernel) ⟨Nat.le_of_ble_eq_true rfl, Nat.le_of_ble_eq_true rfl⟩) (rS (ws := []) hK hN P_nil) rfl rfl hl.1 rfl (lv_room (Nat.le_of_ble_eq_true rfl)) dX7_between_2 ⟨Nat.le_of_ble_eq_true rfl, Nat.le_of_ble_eq_true rfl⟩) ?_
  refine lv_cgi (y := nI 1) (b2T (hx0)) ?_
  refine lv_if_eq (tgt := 15) hx hb dX7_between_5 (by decide) (fun c_5 => ?_) (fun c_5 => ?_)
  · exact absurd c_5 (by decide)
  · refine lv_iload_n hx hb dX7_between_8 rfl (lv_at hl 2 rfl) ?_
    refine rd_go (va_runS (As := [.int y]) (rest := [.ref (A 0)]) ⟨hx, hb, hml, hown, hts⟩ (c_X7_isTown l G y) (va_cwS 1 hts gX7_between_X7_isTown rfl rfl rfl (by decide +kernel) ⟨Nat.le_of_ble_eq_true rfl, Nat.le_of_ble_eq_true rfl⟩) (rS (ws := []) hK hN P_nil) rfl rfl hl.1 rfl (lv_room (Nat.le_of_ble_eq_true rfl)) dX7_between_9 ⟨Nat.le_of_ble_eq_true rfl, Nat.le_of_ble_eq_true rfl⟩) ?_
    refine lv_cgi (y := nI 1) (b2T (hy0)) ?_
    refine lv_if_ne (tgt := 19) hx hb dX7_between_12 (by decide) (fun c_12 => ?_) (fun c_12 => ?_)
    · refine lv_iload_n hx hb dX7_between_19 rfl (lv_at hl 3 rfl) ?_
      refine lv_iconst (v := nI 0) hx hb dX7_between_20 (by decide) ?_
      refine lv_iconst (v := nI 3) hx hb dX7_between_21 (by decide) ?_
      refine rd_go (va_runS (As := [.int w, .int (nI 0), .int (nI 3)]) (rest := [.ref (A 0)]) ⟨hx, hb, hml, hown, hts⟩ (c_X7_in l G w (nI 0) (nI 3)) (va_cwS 3 hts gX7_between_X7_in rfl rfl rfl (by decide +kernel) ⟨Nat.le_of_ble_eq_true rfl, Nat.le_of_ble_eq_true rfl⟩) (rS (ws := []) hK hN P_nil) rfl rfl hl.1 rfl (lv_room (Nat.le_of_ble_eq_true rfl)) dX7_between_22 ⟨Nat.le_of_ble_eq_true rfl, Nat.le_of_ble_eq_true rfl⟩) ?_
      refine lv_cgi (y := nI 0) (b2F (hw0)) ?_
      refine lv_if_ne (tgt := 32) hx hb dX7_between_25 (by decide) (fun c_25 => ?_) (fun c_25 => ?_)
      · exact absurd c_25 (by decide)
      · refine lv_iconst (v := nI 2) hx hb dX7_between_28 (by decide) ?_
        refine lv_goto (tgt := 33) hx hb dX7_between_29 (by decide) ?_
        refine wr_goi (pre := []) (mid := mW G A th sm le dg f sl ik sv tx pl) (suf := []) (va_runV (As := [.int (nI 2)]) (rest := []) ⟨hx, hb, hml, hown, hts⟩ (c_X7_holds l G _ A th sm le dg f sl ik sv tx pl (nI 2)) (cwV 1 hts gX7_between_X7_holds rfl rfl rfl (by decide +kernel) ⟨Nat.le_of_ble_eq_true rfl, Nat.le_of_ble_eq_true rfl⟩) (wV (pre := []) (mid := mW G A th sm le dg f sl ik sv tx pl) (suf := []) (va_recv (ws := mW G A th sm le dg f sl ik sv tx pl) hK hP (ci := 6) (q0 := 0) rfl rfl) hK hN hP hD) rfl rfl hl.1 rfl (lv_room (Nat.le_of_ble_eq_true rfl)) dX7_between_33 ⟨Nat.le_of_ble_eq_true rfl, Nat.le_of_ble_eq_true rfl⟩) hP hD hS hA (fun r _ H locs hw hP9 hD9 hS => ?_)
        subst hw
        have hP : PP G (mW G A (nI 2) sm le dg f sl ik sv tx pl) _ := hP9
        have hD : va_D Ar (mW G A (nI 2) sm le dg f sl ik sv tx pl) := hD9
        refine lv_cgi (y := nI 0) (by decide) ?_
        refine lv_if_eq (tgt := 49) hx hb dX7_between_36 (by decide) (fun c_36 => ?_) (fun c_36 => ?_)
        · refine lv_iconst (v := nI 0) hx hb dX7_between_49 (by decide) ?_
          exact wr_iret (G := G) (S := Unit) () hx hb hr hlocks hP hD hS (Nat.le_of_ble_eq_true rfl) (Nat.le_of_ble_eq_true rfl) (by rfl) dX7_between_50
        · exact absurd c_36 (by decide)
    · exact absurd c_12 (by decide)

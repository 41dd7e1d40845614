set_option maxHeartbeats 4000000 in
set_option maxRecDepth 100000 in
theorem c_X7_ifTouching_no2 (l : Launch) (G : GG) (sz : Nat) (A : Nat → Nat) (th sm le : Int32) (dg : Int64) (f sl ik sv tx pl : Nat → Int32) (x : Int32) (hx0 : inB x (nI 0) (nI 5)) : WRi l yX7_ifTouching wsX7_ifTouching 4 G [.ref (A 0), .int x, .int x] (mW G A th sm le dg f sl ik sv tx pl) sz (S := Unit) (fun r _ => r = nI 0) (fun _ => mW G A (nI 2) sm le dg f sl ik sv tx pl) 0 0 := by
  refine wr_of (l := l) (y := yX7_ifTouching) (w := wsX7_ifTouching) (d := 4) (G := G) (As := [.ref (A 0), .int x, .int x]) (sz := sz) (mc := 0) (ms := 0) (cc := cX7_ifTouching) (maxL := 3) (ret := (some .int)) (Qc := fun Ar => wQi G (S := Unit) (fun r _ => r = nI 0) (fun _ => mW G A (nI 2) sm le dg f sl ik sv tx pl) Ar) (by decide) rfl (Nat.le_of_ble_eq_true rfl) ?_
  intro pG eG s mG below meth cG hsz hx hb hr hml hts hown hlocks hnm hP hK hN Ar hD hA hS ls hl
  have hown : s.vm.findClass RX7 = some mG.cls := hown
  have hP : PP G (mW G A th sm le dg f sl ik sv tx pl) s.heap := hP
  have hD : va_D Ar (mW G A th sm le dg f sl ik sv tx pl) := hD
  have hl : lv_has ls 3 [(0, .ref (A 0)), (1, .int x), (2, .int x)] := hl
  refine lv_aload_n hx hb dX7_ifTouching_0 rfl (lv_at hl 0 rfl) ?_
  refine lv_iload_n hx hb dX7_ifTouching_1 rfl (lv_at hl 1 rfl) ?_
  refine rd_go (va_runS (As := [.int x]) (rest := [.ref (A 0)]) ⟨hx, hb, hml, hown, hts⟩ (c_X7_isTown l G x) (va_cwS 1 hts gX7_ifTouching_X7_isTown rfl rfl rfl (by decide +kernel) ⟨Nat.le_of_ble_eq_true rfl, Nat.le_of_ble_eq_true rfl⟩) (rS (ws := []) hK hN P_nil) rfl rfl hl.1 rfl (lv_room (Nat.le_of_ble_eq_true rfl)) dX7_ifTouching_2 ⟨Nat.le_of_ble_eq_true rfl, Nat.le_of_ble_eq_true rfl⟩) ?_
  refine lv_cgi (y := nI 1) (b2T (hx0)) ?_
  refine lv_if_eq (tgt := 15) hx hb dX7_ifTouching_5 (by decide) (fun c_5 => ?_) (fun c_5 => ?_)
  · exact absurd c_5 (by decide)
  · refine lv_iload_n hx hb dX7_ifTouching_8 rfl (lv_at hl 2 rfl) ?_
    refine rd_go (va_runS (As := [.int x]) (rest := [.ref (A 0)]) ⟨hx, hb, hml, hown, hts⟩ (c_X7_isTown l G x) (va_cwS 1 hts gX7_ifTouching_X7_isTown rfl rfl rfl (by decide +kernel) ⟨Nat.le_of_ble_eq_true rfl, Nat.le_of_ble_eq_true rfl⟩) (rS (ws := []) hK hN P_nil) rfl rfl hl.1 rfl (lv_room (Nat.le_of_ble_eq_true rfl)) dX7_ifTouching_9 ⟨Nat.le_of_ble_eq_true rfl, Nat.le_of_ble_eq_true rfl⟩) ?_
    refine lv_cgi (y := nI 1) (b2T (hx0)) ?_
    refine lv_if_ne (tgt := 19) hx hb dX7_ifTouching_12 (by decide) (fun c_12 => ?_) (fun c_12 => ?_)
    · refine lv_iload_n hx hb dX7_ifTouching_19 rfl (lv_at hl 1 rfl) ?_
      refine lv_iload_n hx hb dX7_ifTouching_20 rfl (lv_at hl 2 rfl) ?_
      refine lv_icmp_ne (tgt := 28) hx hb dX7_ifTouching_21 (by decide) (fun c_21 => ?_) (fun c_21 => ?_)
      · exact absurd rfl c_21
      · refine lv_iconst (v := nI 2) hx hb dX7_ifTouching_24 (by decide) ?_
        refine lv_goto (tgt := 29) hx hb dX7_ifTouching_25 (by decide) ?_
        refine wr_goi (pre := []) (mid := mW G A th sm le dg f sl ik sv tx pl) (suf := []) (va_runV (As := [.int (nI 2)]) (rest := []) ⟨hx, hb, hml, hown, hts⟩ (c_X7_holds l G _ A th sm le dg f sl ik sv tx pl (nI 2)) (cwV 1 hts gX7_ifTouching_X7_holds rfl rfl rfl (by decide +kernel) ⟨Nat.le_of_ble_eq_true rfl, Nat.le_of_ble_eq_true rfl⟩) (wV (pre := []) (mid := mW G A th sm le dg f sl ik sv tx pl) (suf := []) (va_recv (ws := mW G A th sm le dg f sl ik sv tx pl) hK hP (ci := 6) (q0 := 0) rfl rfl) hK hN hP hD) rfl rfl hl.1 rfl (lv_room (Nat.le_of_ble_eq_true rfl)) dX7_ifTouching_29 ⟨Nat.le_of_ble_eq_true rfl, Nat.le_of_ble_eq_true rfl⟩) hP hD hS hA (fun r _ H locs hw hP9 hD9 hS => ?_)
        subst hw
        have hP : PP G (mW G A (nI 2) sm le dg f sl ik sv tx pl) _ := hP9
        have hD : va_D Ar (mW G A (nI 2) sm le dg f sl ik sv tx pl) := hD9
        refine lv_cgi (y := nI 0) (by decide) ?_
        refine lv_if_eq (tgt := 60) hx hb dX7_ifTouching_32 (by decide) (fun c_32 => ?_) (fun c_32 => ?_)
        · refine lv_iconst (v := nI 0) hx hb dX7_ifTouching_60 (by decide) ?_
          exact wr_iret (G := G) (S := Unit) () hx hb hr hlocks hP hD hS (Nat.le_of_ble_eq_true rfl) (Nat.le_of_ble_eq_true rfl) (by rfl) dX7_ifTouching_61
        · exact absurd c_32 (by decide)
    · exact absurd c_12 (by decide)

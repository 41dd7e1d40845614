set_option maxHeartbeats 4000000 in
set_option maxRecDepth 100000 in
theorem c_X7_between (l : Launch) (G : GG) (sz : Nat) (A : Nat → Nat) (th sm le : Int32) (dg : Int64) (f sl ik sv tx pl : Nat → Int32) (n : Nat) (hn : f 17 = nI n) (hn2 : n ≤ 12) (hv : okA f) (ht : okT f) (i o : Nat) (hi6 : i < 6) (ho : o < 6) (v : Nat) (hv3 : v ≤ 3) : WRi l yX7_between wsX7_between 4 G [.ref (A 0), .int (nI i), .int (nI o), .int (nI v)] (mW G A th sm le dg f sl ik sv tx pl) sz (S := Nat → Int32) (fun r _ => r = obM f n (f (11 + i)) (f (11 + o)) v) (fun u => mW G A (nI 0) sm le dg f sl ik sv tx u) 0 0 := by
  refine wr_of (l := l) (y := yX7_between) (w := wsX7_between) (d := 4) (G := G) (As := [.ref (A 0), .int (nI i), .int (nI o), .int (nI v)]) (sz := sz) (mc := 0) (ms := 0) (cc := cX7_between) (maxL := 4) (ret := (some .int)) (Qc := fun Ar => wQi G (S := Nat → Int32) (fun r _ => r = obM f n (f (11 + i)) (f (11 + o)) v) (fun u => mW G A (nI 0) sm le dg f sl ik sv tx u) Ar) (by decide) rfl (Nat.le_of_ble_eq_true rfl) ?_
  intro pG eG s mG below meth cG hsz hx hb hr hml hts hown hlocks hnm hP hK hN Ar hD hA hS ls hl
  have hown : s.vm.findClass RX7 = some mG.cls := hown
  have hP : PP G (mW G A th sm le dg f sl ik sv tx pl) s.heap := hP
  have hD : va_D Ar (mW G A th sm le dg f sl ik sv tx pl) := hD
  have hl : lv_has ls 4 [(0, .ref (A 0)), (1, .int (nI i)), (2, .int (nI o)), (3, .int (nI v))] := hl
  refine lv_aload_n hx hb dX7_between_0 rfl (lv_at hl 0 rfl) ?_
  refine lv_iload_n hx hb dX7_between_1 rfl (lv_at hl 1 rfl) ?_
  refine rd_go (va_runS (As := [.int (nI i)]) (rest := [.ref (A 0)]) ⟨hx, hb, hml, hown, hts⟩ (c_X7_isTown l G (nI i)) (va_cwS 1 hts gX7_between_X7_isTown rfl rfl rfl (by decide +kernel) ⟨Nat.le_of_ble_eq_true rfl, Nat.le_of_ble_eq_true rfl⟩) (rS (ws := []) hK hN P_nil) rfl rfl hl.1 rfl (lv_room (Nat.le_of_ble_eq_true rfl)) dX7_between_2 ⟨Nat.le_of_ble_eq_true rfl, Nat.le_of_ble_eq_true rfl⟩) ?_
  refine lv_cgi (y := nI 1) (b2T (inB_n (Nat.zero_le _) (by omega) (by omega))) ?_
  refine lv_if_eq (tgt := 15) hx hb dX7_between_5 (by decide) (fun c_5 => ?_) (fun c_5 => ?_)
  · exact absurd c_5 (by decide)
  · refine lv_iload_n hx hb dX7_between_8 rfl (lv_at hl 2 rfl) ?_
    refine rd_go (va_runS (As := [.int (nI o)]) (rest := [.ref (A 0)]) ⟨hx, hb, hml, hown, hts⟩ (c_X7_isTown l G (nI o)) (va_cwS 1 hts gX7_between_X7_isTown rfl rfl rfl (by decide +kernel) ⟨Nat.le_of_ble_eq_true rfl, Nat.le_of_ble_eq_true rfl⟩) (rS (ws := []) hK hN P_nil) rfl rfl hl.1 rfl (lv_room (Nat.le_of_ble_eq_true rfl)) dX7_between_9 ⟨Nat.le_of_ble_eq_true rfl, Nat.le_of_ble_eq_true rfl⟩) ?_
    refine lv_cgi (y := nI 1) (b2T (inB_n (Nat.zero_le _) (by omega) (by omega))) ?_
    refine lv_if_ne (tgt := 19) hx hb dX7_between_12 (by decide) (fun c_12 => ?_) (fun c_12 => ?_)
    · refine lv_iload_n hx hb dX7_between_19 rfl (lv_at hl 3 rfl) ?_
      refine lv_iconst (v := nI 0) hx hb dX7_between_20 (by decide) ?_
      refine lv_iconst (v := nI 3) hx hb dX7_between_21 (by decide) ?_
      refine rd_go (va_runS (As := [.int (nI v), .int (nI 0), .int (nI 3)]) (rest := [.ref (A 0)]) ⟨hx, hb, hml, hown, hts⟩ (c_X7_in l G (nI v) (nI 0) (nI 3)) (va_cwS 3 hts gX7_between_X7_in rfl rfl rfl (by decide +kernel) ⟨Nat.le_of_ble_eq_true rfl, Nat.le_of_ble_eq_true rfl⟩) (rS (ws := []) hK hN P_nil) rfl rfl hl.1 rfl (lv_room (Nat.le_of_ble_eq_true rfl)) dX7_between_22 ⟨Nat.le_of_ble_eq_true rfl, Nat.le_of_ble_eq_true rfl⟩) ?_
      refine lv_cgi (y := nI 1) (b2T (inB_n (Nat.zero_le _) (by omega) (by omega))) ?_
      refine lv_if_ne (tgt := 32) hx hb dX7_between_25 (by decide) (fun c_25 => ?_) (fun c_25 => ?_)
      · refine lv_iconst (v := nI 0) hx hb dX7_between_32 (by decide) ?_
        refine wr_goi (pre := []) (mid := mW G A th sm le dg f sl ik sv tx pl) (suf := []) (va_runV (As := [.int (nI 0)]) (rest := []) ⟨hx, hb, hml, hown, hts⟩ (c_X7_holds l G _ A th sm le dg f sl ik sv tx pl (nI 0)) (cwV 1 hts gX7_between_X7_holds rfl rfl rfl (by decide +kernel) ⟨Nat.le_of_ble_eq_true rfl, Nat.le_of_ble_eq_true rfl⟩) (wV (pre := []) (mid := mW G A th sm le dg f sl ik sv tx pl) (suf := []) (va_recv (ws := mW G A th sm le dg f sl ik sv tx pl) hK hP (ci := 6) (q0 := 0) rfl rfl) hK hN hP hD) rfl rfl hl.1 rfl (lv_room (Nat.le_of_ble_eq_true rfl)) dX7_between_33 ⟨Nat.le_of_ble_eq_true rfl, Nat.le_of_ble_eq_true rfl⟩) hP hD hS hA (fun r _ H locs hw hP9 hD9 hS => ?_)
        subst hw
        have hP : PP G (mW G A (nI 0) sm le dg f sl ik sv tx pl) _ := hP9
        have hD : va_D Ar (mW G A (nI 0) sm le dg f sl ik sv tx pl) := hD9
        refine lv_cgi (y := nI 1) (by decide) ?_
        refine lv_if_eq (tgt := 49) hx hb dX7_between_36 (by decide) (fun c_36 => ?_) (fun c_36 => ?_)
        · exact absurd c_36 (by decide)
        · refine lv_aload_n hx hb dX7_between_39 rfl (lv_at hl 0 rfl) ?_
          refine lv_iload_n hx hb dX7_between_40 rfl (lv_at hl 1 rfl) ?_
          refine lv_iload_n hx hb dX7_between_41 rfl (lv_at hl 2 rfl) ?_
          refine lv_iload_n hx hb dX7_between_42 rfl (lv_at hl 3 rfl) ?_
          refine wr_goi (pre := []) (mid := mW G A (nI 0) sm le dg f sl ik sv tx pl) (suf := []) (va_runV (As := [.int (nI i), .int (nI o), .int (nI v)]) (rest := []) ⟨hx, hb, hml, hown, hts⟩ (c_X7_ofBoth l G _ A (nI 0) sm le dg f sl ik sv tx pl n hn hn2 hv i o (by omega) (by omega) (ht _ (by omega)) (ht _ (by omega)) v (by omega)) (cwV 3 hts gX7_between_X7_ofBoth rfl rfl rfl (by decide +kernel) ⟨Nat.le_of_ble_eq_true rfl, Nat.le_of_ble_eq_true rfl⟩) (wV (pre := []) (mid := mW G A (nI 0) sm le dg f sl ik sv tx pl) (suf := []) (va_recv (ws := mW G A (nI 0) sm le dg f sl ik sv tx pl) hK hP (ci := 6) (q0 := 0) rfl rfl) hK hN hP hD) rfl rfl hl.1 rfl (lv_room (Nat.le_of_ble_eq_true rfl)) dX7_between_43 ⟨Nat.le_of_ble_eq_true rfl, Nat.le_of_ble_eq_true rfl⟩) hP hD hS hA (fun r u_1 H locs hw hP9 hD9 hS => ?_)
          subst hw
          have hP : PP G (mW G A (nI 0) sm le dg f sl ik sv tx u_1) _ := hP9
          have hD : va_D Ar (mW G A (nI 0) sm le dg f sl ik sv tx u_1) := hD9
          refine lv_goto (tgt := 50) hx hb dX7_between_46 (by decide) ?_
          exact wr_iret (G := G) (S := Nat → Int32) u_1 hx hb hr hlocks hP hD hS (Nat.le_of_ble_eq_true rfl) (Nat.le_of_ble_eq_true rfl) (by rfl) dX7_between_50
      · exact absurd c_25 (by decide)
    · exact absurd c_12 (by decide)

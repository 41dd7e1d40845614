set_option maxHeartbeats 4000000 in
set_option maxRecDepth 100000 in
theorem c_X7_ifTouching (l : Launch) (G : GG) (sz : Nat) (A : Nat → Nat) (th sm le : Int32) (dg : Int64) (f sl ik sv tx pl : Nat → Int32) (n : Nat) (hn : f 17 = nI n) (hn2 : n ≤ 12) (hv : okA f) (i o : Nat) (hi6 : i < 6) (ho : o < 6) (hto : i ≠ o) (h1 : vp_in (f (11 + i)) 10) (h2 : vp_in (f (11 + o)) 10) : WRi l yX7_ifTouching wsX7_ifTouching 4 G [.ref (A 0), .int (nI i), .int (nI o)] (mW G A th sm le dg f sl ik sv tx pl) sz (S := Nat → Int32) (fun r _ => r = touN f n (f (11 + i)) (f (11 + o))) (fun u => mW G A (nI 0) sm le dg f sl ik sv tx u) 0 0 := by
  refine wr_of (l := l) (y := yX7_ifTouching) (w := wsX7_ifTouching) (d := 4) (G := G) (As := [.ref (A 0), .int (nI i), .int (nI o)]) (sz := sz) (mc := 0) (ms := 0) (cc := cX7_ifTouching) (maxL := 3) (ret := (some .int)) (Qc := fun Ar => wQi G (S := Nat → Int32) (fun r _ => r = touN f n (f (11 + i)) (f (11 + o))) (fun u => mW G A (nI 0) sm le dg f sl ik sv tx u) Ar) (by decide) rfl (Nat.le_of_ble_eq_true rfl) ?_
  intro pG eG s mG below meth cG hsz hx hb hr hml hts hown hlocks hnm hP hK hN Ar hD hA hS ls hl
  have hown : s.vm.findClass RX7 = some mG.cls := hown
  have hP : PP G (mW G A th sm le dg f sl ik sv tx pl) s.heap := hP
  have hD : va_D Ar (mW G A th sm le dg f sl ik sv tx pl) := hD
  have hl : lv_has ls 3 [(0, .ref (A 0)), (1, .int (nI i)), (2, .int (nI o))] := hl
  refine lv_aload_n hx hb dX7_ifTouching_0 rfl (lv_at hl 0 rfl) ?_
  refine lv_iload_n hx hb dX7_ifTouching_1 rfl (lv_at hl 1 rfl) ?_
  refine rd_go (va_runS (As := [.int (nI i)]) (rest := [.ref (A 0)]) ⟨hx, hb, hml, hown, hts⟩ (c_X7_isTown l G (nI i)) (va_cwS 1 hts gX7_ifTouching_X7_isTown rfl rfl rfl (by decide +kernel) ⟨Nat.le_of_ble_eq_true rfl, Nat.le_of_ble_eq_true rfl⟩) (rS (ws := []) hK hN P_nil) rfl rfl hl.1 rfl (lv_room (Nat.le_of_ble_eq_true rfl)) dX7_ifTouching_2 ⟨Nat.le_of_ble_eq_true rfl, Nat.le_of_ble_eq_true rfl⟩) ?_
  refine lv_cgi (y := nI 1) (b2T (inB_n (Nat.zero_le _) (by omega) (by omega))) ?_
  refine lv_if_eq (tgt := 15) hx hb dX7_ifTouching_5 (by decide) (fun c_5 => ?_) (fun c_5 => ?_)
  · exact absurd c_5 (by decide)
  · refine lv_iload_n hx hb dX7_ifTouching_8 rfl (lv_at hl 2 rfl) ?_
    refine rd_go (va_runS (As := [.int (nI o)]) (rest := [.ref (A 0)]) ⟨hx, hb, hml, hown, hts⟩ (c_X7_isTown l G (nI o)) (va_cwS 1 hts gX7_ifTouching_X7_isTown rfl rfl rfl (by decide +kernel) ⟨Nat.le_of_ble_eq_true rfl, Nat.le_of_ble_eq_true rfl⟩) (rS (ws := []) hK hN P_nil) rfl rfl hl.1 rfl (lv_room (Nat.le_of_ble_eq_true rfl)) dX7_ifTouching_9 ⟨Nat.le_of_ble_eq_true rfl, Nat.le_of_ble_eq_true rfl⟩) ?_
    refine lv_cgi (y := nI 1) (b2T (inB_n (Nat.zero_le _) (by omega) (by omega))) ?_
    refine lv_if_ne (tgt := 19) hx hb dX7_ifTouching_12 (by decide) (fun c_12 => ?_) (fun c_12 => ?_)
    · refine lv_iload_n hx hb dX7_ifTouching_19 rfl (lv_at hl 1 rfl) ?_
      refine lv_iload_n hx hb dX7_ifTouching_20 rfl (lv_at hl 2 rfl) ?_
      refine lv_icmp_ne (tgt := 28) hx hb dX7_ifTouching_21 (by decide) (fun c_21 => ?_) (fun c_21 => ?_)
      · refine lv_iconst (v := nI 0) hx hb dX7_ifTouching_28 (by decide) ?_
        refine wr_goi (pre := []) (mid := mW G A th sm le dg f sl ik sv tx pl) (suf := []) (va_runV (As := [.int (nI 0)]) (rest := []) ⟨hx, hb, hml, hown, hts⟩ (c_X7_holds l G _ A th sm le dg f sl ik sv tx pl (nI 0)) (cwV 1 hts gX7_ifTouching_X7_holds rfl rfl rfl (by decide +kernel) ⟨Nat.le_of_ble_eq_true rfl, Nat.le_of_ble_eq_true rfl⟩) (wV (pre := []) (mid := mW G A th sm le dg f sl ik sv tx pl) (suf := []) (va_recv (ws := mW G A th sm le dg f sl ik sv tx pl) hK hP (ci := 6) (q0 := 0) rfl rfl) hK hN hP hD) rfl rfl hl.1 rfl (lv_room (Nat.le_of_ble_eq_true rfl)) dX7_ifTouching_29 ⟨Nat.le_of_ble_eq_true rfl, Nat.le_of_ble_eq_true rfl⟩) hP hD hS hA (fun r _ H locs hw hP9 hD9 hS => ?_)
        subst hw
        have hP : PP G (mW G A (nI 0) sm le dg f sl ik sv tx pl) _ := hP9
        have hD : va_D Ar (mW G A (nI 0) sm le dg f sl ik sv tx pl) := hD9
        refine lv_cgi (y := nI 1) (by decide) ?_
        refine lv_if_eq (tgt := 60) hx hb dX7_ifTouching_32 (by decide) (fun c_32 => ?_) (fun c_32 => ?_)
        · exact absurd c_32 (by decide)
        · refine lv_aload_n hx hb dX7_ifTouching_35 rfl (lv_at hl 0 rfl) ?_
          refine lv_aload_n hx hb dX7_ifTouching_36 rfl (lv_at hl 0 rfl) ?_
          refine va_get (D := G.1) (ws := mW G A (nI 0) sm le dg f sl ik sv tx pl) (ci := 6) (v := .ref (A 1)) (C := RX7) (T := TX7) (N := 10) hx hb hts (fun _ h => List.mem_cons_of_mem _ (List.mem_append_right _ (h))) hown hK hP 0 rfl rfl 1 (by decide) (hts (.fieldLink RX7 7 "CreaseMapsModel" "s" "[I") (List.mem_of_getElem? (i := 1) rfl)) (fun _ h9 => h9) rfl dX7_ifTouching_37 ?_
          refine lv_bipush (v := nI 11) hx hb dX7_ifTouching_40 (by decide) ?_
          refine lv_iload_n hx hb dX7_ifTouching_42 rfl (lv_at hl 1 rfl) ?_
          refine lv_iadd hx hb dX7_ifTouching_43 ?_
          refine lv_cgi (y := nI (11 + i)) (nI_add _ _) ?_
          refine va_iald (D := G.1) (ws := mW G A (nI 0) sm le dg f sl ik sv tx pl) hx hb hK hP 1 0 (n := 58) rfl rfl (by first | assumption | exact vp_in_nI (by omega) (by omega)) dX7_ifTouching_44 ?_
          refine lv_cgi (y := f (11 + i)) (by rw [nI_clamp (by omega)]) ?_
          refine lv_aload_n hx hb dX7_ifTouching_45 rfl (lv_at hl 0 rfl) ?_
          refine va_get (D := G.1) (ws := mW G A (nI 0) sm le dg f sl ik sv tx pl) (ci := 6) (v := .ref (A 1)) (C := RX7) (T := TX7) (N := 10) hx hb hts (fun _ h => List.mem_cons_of_mem _ (List.mem_append_right _ (h))) hown hK hP 0 rfl rfl 1 (by decide) (hts (.fieldLink RX7 7 "CreaseMapsModel" "s" "[I") (List.mem_of_getElem? (i := 1) rfl)) (fun _ h9 => h9) rfl dX7_ifTouching_46 ?_
          refine lv_bipush (v := nI 11) hx hb dX7_ifTouching_49 (by decide) ?_
          refine lv_iload_n hx hb dX7_ifTouching_51 rfl (lv_at hl 2 rfl) ?_
          refine lv_iadd hx hb dX7_ifTouching_52 ?_
          refine lv_cgi (y := nI (11 + o)) (nI_add _ _) ?_
          refine va_iald (D := G.1) (ws := mW G A (nI 0) sm le dg f sl ik sv tx pl) hx hb hK hP 1 0 (n := 58) rfl rfl (by first | assumption | exact vp_in_nI (by omega) (by omega)) dX7_ifTouching_53 ?_
          refine lv_cgi (y := f (11 + o)) (by rw [nI_clamp (by omega)]) ?_
          refine wr_goi (pre := []) (mid := mW G A (nI 0) sm le dg f sl ik sv tx pl) (suf := []) (va_runV (As := [.int (f (11 + i)), .int (f (11 + o))]) (rest := []) ⟨hx, hb, hml, hown, hts⟩ (c_X7_touching l G _ A (nI 0) sm le dg f sl ik sv tx pl n hn hn2 hv (f (11 + i)) (f (11 + o)) (by assumption) (by assumption)) (cwV 2 hts gX7_ifTouching_X7_touching rfl rfl rfl (by decide +kernel) ⟨Nat.le_of_ble_eq_true rfl, Nat.le_of_ble_eq_true rfl⟩) (wV (pre := []) (mid := mW G A (nI 0) sm le dg f sl ik sv tx pl) (suf := []) (va_recv (ws := mW G A (nI 0) sm le dg f sl ik sv tx pl) hK hP (ci := 6) (q0 := 0) rfl rfl) hK hN hP hD) rfl rfl hl.1 rfl (lv_room (Nat.le_of_ble_eq_true rfl)) dX7_ifTouching_54 ⟨Nat.le_of_ble_eq_true rfl, Nat.le_of_ble_eq_true rfl⟩) hP hD hS hA (fun r u_1 H locs hw hP9 hD9 hS => ?_)
          subst hw
          have hP : PP G (mW G A (nI 0) sm le dg f sl ik sv tx u_1) _ := hP9
          have hD : va_D Ar (mW G A (nI 0) sm le dg f sl ik sv tx u_1) := hD9
          refine lv_goto (tgt := 61) hx hb dX7_ifTouching_57 (by decide) ?_
          exact wr_iret (G := G) (S := Nat → Int32) u_1 hx hb hr hlocks hP hD hS (Nat.le_of_ble_eq_true rfl) (Nat.le_of_ble_eq_true rfl) (by rfl) dX7_ifTouching_61
      · exact absurd (nIe c_21 (by omega) (by omega)) hto
    · exact absurd c_12 (by decide)

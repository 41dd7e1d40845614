set_option maxHeartbeats 4000000 in
set_option maxRecDepth 100000 in
theorem c_X7_town (l : Launch) (G : GG) (sz : Nat) (A : Nat → Nat) (th sm le : Int32) (dg : Int64) (f sl ik sv tx pl : Nat → Int32) (i : Nat) (hi6 : i < 6) : WRi l yX7_town wsX7_town 3 G [.ref (A 0), .int (nI i)] (mW G A th sm le dg f sl ik sv tx pl) sz (S := Unit) (fun r _ => r = f (11 + i)) (fun _ => mW G A (nI 0) sm le dg f sl ik sv tx pl) 0 0 := by
  refine wr_of (l := l) (y := yX7_town) (w := wsX7_town) (d := 3) (G := G) (As := [.ref (A 0), .int (nI i)]) (sz := sz) (mc := 0) (ms := 0) (cc := cX7_town) (maxL := 2) (ret := (some .int)) (Qc := fun Ar => wQi G (S := Unit) (fun r _ => r = f (11 + i)) (fun _ => mW G A (nI 0) sm le dg f sl ik sv tx pl) Ar) (by decide) rfl (Nat.le_of_ble_eq_true rfl) ?_
  intro pG eG s mG below meth cG hsz hx hb hr hml hts hown hlocks hnm hP hK hN Ar hD hA hS ls hl
  have hown : s.vm.findClass RX7 = some mG.cls := hown
  have hP : PP G (mW G A th sm le dg f sl ik sv tx pl) s.heap := hP
  have hD : va_D Ar (mW G A th sm le dg f sl ik sv tx pl) := hD
  have hl : lv_has ls 2 [(0, .ref (A 0)), (1, .int (nI i))] := hl
  refine lv_aload_n hx hb dX7_town_0 rfl (lv_at hl 0 rfl) ?_
  refine lv_iload_n hx hb dX7_town_1 rfl (lv_at hl 1 rfl) ?_
  refine rd_go (va_runS (As := [.int (nI i)]) (rest := [.ref (A 0)]) ⟨hx, hb, hml, hown, hts⟩ (c_X7_isTown l G (nI i)) (va_cwS 1 hts gX7_town_X7_isTown rfl rfl rfl (by decide +kernel) ⟨Nat.le_of_ble_eq_true rfl, Nat.le_of_ble_eq_true rfl⟩) (rS (ws := []) hK hN P_nil) rfl rfl hl.1 rfl (lv_room (Nat.le_of_ble_eq_true rfl)) dX7_town_2 ⟨Nat.le_of_ble_eq_true rfl, Nat.le_of_ble_eq_true rfl⟩) ?_
  refine lv_cgi (y := nI 1) (b2T (inB_n (Nat.zero_le _) (by omega) (by omega))) ?_
  refine lv_if_eq (tgt := 12) hx hb dX7_town_5 (by decide) (fun c_5 => ?_) (fun c_5 => ?_)
  · exact absurd c_5 (by decide)
  · refine lv_iconst (v := nI 0) hx hb dX7_town_8 (by decide) ?_
    refine lv_goto (tgt := 13) hx hb dX7_town_9 (by decide) ?_
    refine wr_goi (pre := []) (mid := mW G A th sm le dg f sl ik sv tx pl) (suf := []) (va_runV (As := [.int (nI 0)]) (rest := []) ⟨hx, hb, hml, hown, hts⟩ (c_X7_holds l G _ A th sm le dg f sl ik sv tx pl (nI 0)) (cwV 1 hts gX7_town_X7_holds rfl rfl rfl (by decide +kernel) ⟨Nat.le_of_ble_eq_true rfl, Nat.le_of_ble_eq_true rfl⟩) (wV (pre := []) (mid := mW G A th sm le dg f sl ik sv tx pl) (suf := []) (va_recv (ws := mW G A th sm le dg f sl ik sv tx pl) hK hP (ci := 6) (q0 := 0) rfl rfl) hK hN hP hD) rfl rfl hl.1 rfl (lv_room (Nat.le_of_ble_eq_true rfl)) dX7_town_13 ⟨Nat.le_of_ble_eq_true rfl, Nat.le_of_ble_eq_true rfl⟩) hP hD hS hA (fun r _ H locs hw hP9 hD9 hS => ?_)
    subst hw
    have hP : PP G (mW G A (nI 0) sm le dg f sl ik sv tx pl) _ := hP9
    have hD : va_D Ar (mW G A (nI 0) sm le dg f sl ik sv tx pl) := hD9
    refine lv_cgi (y := nI 1) (by decide) ?_
    refine lv_if_eq (tgt := 31) hx hb dX7_town_16 (by decide) (fun c_16 => ?_) (fun c_16 => ?_)
    · exact absurd c_16 (by decide)
    · refine lv_aload_n hx hb dX7_town_19 rfl (lv_at hl 0 rfl) ?_
      refine va_get (D := G.1) (ws := mW G A (nI 0) sm le dg f sl ik sv tx pl) (ci := 6) (v := .ref (A 1)) (C := RX7) (T := TX7) (N := 10) hx hb hts (fun _ h => List.mem_cons_of_mem _ (List.mem_append_right _ (h))) hown hK hP 0 rfl rfl 1 (by decide) (hts (.fieldLink RX7 7 "CreaseMapsModel" "s" "[I") (List.mem_of_getElem? (i := 1) rfl)) (fun _ h9 => h9) rfl dX7_town_20 ?_
      refine lv_bipush (v := nI 11) hx hb dX7_town_23 (by decide) ?_
      refine lv_iload_n hx hb dX7_town_25 rfl (lv_at hl 1 rfl) ?_
      refine lv_iadd hx hb dX7_town_26 ?_
      refine lv_cgi (y := nI (11 + i)) (nI_add _ _) ?_
      refine va_iald (D := G.1) (ws := mW G A (nI 0) sm le dg f sl ik sv tx pl) hx hb hK hP 1 0 (n := 58) rfl rfl (by first | assumption | exact vp_in_nI (by omega) (by omega)) dX7_town_27 ?_
      refine lv_cgi (y := f (11 + i)) (by rw [nI_clamp (by omega)]) ?_
      refine lv_goto (tgt := 32) hx hb dX7_town_28 (by decide) ?_
      exact wr_iret (G := G) (S := Unit) () hx hb hr hlocks hP hD hS (Nat.le_of_ble_eq_true rfl) (Nat.le_of_ble_eq_true rfl) (by rfl) dX7_town_32

set_option maxHeartbeats 4000000 in
set_option maxRecDepth 100000 in
theorem c_X7_ofBoth_1 (l : Launch) (G : GG) (sz : Nat) (A : Nat → Nat) (th sm le : Int32) (dg : Int64) (f sl ik sv tx pl : Nat → Int32) (n : Nat) (hn : f 17 = nI n) (hn2 : n ≤ 12) (hv : okA f) (i o : Nat) (hi6 : i < 6) (ho : o < 6) (h1 : vp_in (f (11 + i)) 10) (h2 : vp_in (f (11 + o)) 10) : WRi l yX7_ofBoth wsX7_ofBoth 3 G [.ref (A 0), .int (nI i), .int (nI o), .int (nI 1)] (mW G A th sm le dg f sl ik sv tx pl) sz (S := Nat → Int32) (fun r _ => r = obM f n (f (11 + i)) (f (11 + o)) 1) (fun u => mW G A th sm le dg f sl ik sv tx u) 0 0 := by
  refine wr_of (l := l) (y := yX7_ofBoth) (w := wsX7_ofBoth) (d := 3) (G := G) (As := [.ref (A 0), .int (nI i), .int (nI o), .int (nI 1)]) (sz := sz) (mc := 0) (ms := 0) (cc := cX7_ofBoth) (maxL := 6) (ret := (some .int)) (Qc := fun Ar => wQi G (S := Nat → Int32) (fun r _ => r = obM f n (f (11 + i)) (f (11 + o)) 1) (fun u => mW G A th sm le dg f sl ik sv tx u) Ar) (by decide) rfl (Nat.le_of_ble_eq_true rfl) ?_
  intro pG eG s mG below meth cG hsz hx hb hr hml hts hown hlocks hnm hP hK hN Ar hD hA hS ls hl
  have hown : s.vm.findClass RX7 = some mG.cls := hown
  have hP : PP G (mW G A th sm le dg f sl ik sv tx pl) s.heap := hP
  have hD : va_D Ar (mW G A th sm le dg f sl ik sv tx pl) := hD
  have hl : lv_has ls 6 [(0, .ref (A 0)), (1, .int (nI i)), (2, .int (nI o)), (3, .int (nI 1))] := hl
  refine lv_aload_n hx hb dX7_ofBoth_0 rfl (lv_at hl 0 rfl) ?_
  refine va_get (D := G.1) (ws := mW G A th sm le dg f sl ik sv tx pl) (ci := 6) (v := .ref (A 1)) (C := RX7) (T := TX7) (N := 10) hx hb hts (fun _ h => List.mem_cons_of_mem _ (List.mem_append_right _ (h))) hown hK hP 0 rfl rfl 1 (by decide) (hts (.fieldLink RX7 7 "CreaseMapsModel" "s" "[I") (List.mem_of_getElem? (i := 1) rfl)) (fun _ h9 => h9) rfl dX7_ofBoth_1 ?_
  refine lv_bipush (v := nI 11) hx hb dX7_ofBoth_4 (by decide) ?_
  refine lv_iload_n hx hb dX7_ofBoth_6 rfl (lv_at hl 1 rfl) ?_
  refine lv_iadd hx hb dX7_ofBoth_7 ?_
  refine lv_cgi (y := nI (11 + i)) (nI_add _ _) ?_
  refine va_iald (D := G.1) (ws := mW G A th sm le dg f sl ik sv tx pl) hx hb hK hP 1 0 (n := 58) rfl rfl (by first | assumption | exact vp_in_nI (by omega) (by omega)) dX7_ofBoth_8 ?_
  refine lv_cgi (y := f (11 + i)) (by rw [nI_clamp (by omega)]) ?_
  refine lv_istore (lv' := [(4, .int (f (11 + i))), (0, .ref (A 0)), (1, .int (nI i)), (2, .int (nI o)), (3, .int (nI 1))]) hx hb dX7_ofBoth_9 hl (by decide) rfl (fun ls hl => ?_)
  refine lv_aload_n hx hb dX7_ofBoth_11 rfl (lv_at hl 1 rfl) ?_
  refine va_get (D := G.1) (ws := mW G A th sm le dg f sl ik sv tx pl) (ci := 6) (v := .ref (A 1)) (C := RX7) (T := TX7) (N := 10) hx hb hts (fun _ h => List.mem_cons_of_mem _ (List.mem_append_right _ (h))) hown hK hP 0 rfl rfl 1 (by decide) (hts (.fieldLink RX7 7 "CreaseMapsModel" "s" "[I") (List.mem_of_getElem? (i := 1) rfl)) (fun _ h9 => h9) rfl dX7_ofBoth_12 ?_
  refine lv_bipush (v := nI 11) hx hb dX7_ofBoth_15 (by decide) ?_
  refine lv_iload_n hx hb dX7_ofBoth_17 rfl (lv_at hl 3 rfl) ?_
  refine lv_iadd hx hb dX7_ofBoth_18 ?_
  refine lv_cgi (y := nI (11 + o)) (nI_add _ _) ?_
  refine va_iald (D := G.1) (ws := mW G A th sm le dg f sl ik sv tx pl) hx hb hK hP 1 0 (n := 58) rfl rfl (by first | assumption | exact vp_in_nI (by omega) (by omega)) dX7_ofBoth_19 ?_
  refine lv_cgi (y := f (11 + o)) (by rw [nI_clamp (by omega)]) ?_
  refine lv_istore (lv' := [(5, .int (f (11 + o))), (4, .int (f (11 + i))), (0, .ref (A 0)), (1, .int (nI i)), (2, .int (nI o)), (3, .int (nI 1))]) hx hb dX7_ofBoth_20 hl (by decide) rfl (fun ls hl => ?_)
  refine lv_aload_n hx hb dX7_ofBoth_22 rfl (lv_at hl 2 rfl) ?_
  refine lv_aload_n hx hb dX7_ofBoth_23 rfl (lv_at hl 2 rfl) ?_
  refine va_get (D := G.1) (ws := mW G A th sm le dg f sl ik sv tx pl) (ci := 6) (v := .ref (A 1)) (C := RX7) (T := TX7) (N := 10) hx hb hts (fun _ h => List.mem_cons_of_mem _ (List.mem_append_right _ (h))) hown hK hP 0 rfl rfl 1 (by decide) (hts (.fieldLink RX7 7 "CreaseMapsModel" "s" "[I") (List.mem_of_getElem? (i := 1) rfl)) (fun _ h9 => h9) rfl dX7_ofBoth_24 ?_
  refine lv_iconst (v := nI 0) hx hb dX7_ofBoth_27 (by decide) ?_
  refine va_iald (D := G.1) (ws := mW G A th sm le dg f sl ik sv tx pl) hx hb hK hP 1 0 (n := 58) rfl rfl (by first | assumption | exact vp_in_nI (by omega) (by omega)) dX7_ofBoth_28 ?_
  refine lv_cgi (y := f 0) rfl ?_
  refine wr_gov (pre := []) (mid := mW G A th sm le dg f sl ik sv tx pl) (suf := []) (va_runV (As := [.int (f 0)]) (rest := []) ⟨hx, hb, hml, hown, hts⟩ (c_X7_lay l G _ A th sm le dg f sl ik sv tx pl (f 0)) (cwV 1 hts gX7_ofBoth_X7_lay rfl rfl rfl (by decide +kernel) ⟨Nat.le_of_ble_eq_true rfl, Nat.le_of_ble_eq_true rfl⟩) (wV (pre := []) (mid := mW G A th sm le dg f sl ik sv tx pl) (suf := []) (va_recv (ws := mW G A th sm le dg f sl ik sv tx pl) hK hP (ci := 6) (q0 := 0) rfl rfl) hK hN hP hD) rfl rfl hl.1 rfl (lv_room (Nat.le_of_ble_eq_true rfl)) dX7_ofBoth_29 ⟨Nat.le_of_ble_eq_true rfl, Nat.le_of_ble_eq_true rfl⟩) hP hD hS hA (fun u_1 H locs hw hP9 hD9 hS => ?_)
  have hu_1 : ∀ j, j < 10 → u_1 j = (pw (f 0) j).1 := hw
  have hP : PP G (mW G A th sm le dg f sl ik sv tx u_1) _ := hP9
  have hD : va_D Ar (mW G A th sm le dg f sl ik sv tx u_1) := hD9
  refine lv_iload_n hx hb dX7_ofBoth_32 rfl (lv_at hl 5 rfl) ?_
  refine lv_tableIn (off := 35) (tgt := 68) hx hb dX7_ofBoth_33 (by decide) (by decide) (by decide) (by decide) ?_
  refine lv_aload_n hx hb dX7_ofBoth_68 rfl (lv_at hl 2 rfl) ?_
  refine va_get (D := G.1) (ws := mW G A th sm le dg f sl ik sv tx u_1) (ci := 6) (v := .ref (A 6)) (C := RX7) (T := TX7) (N := 10) hx hb hts (fun _ h => List.mem_cons_of_mem _ (List.mem_append_right _ (h))) hown hK hP 0 rfl rfl 8 (by decide) (hts (.fieldLink RX7 26 "CreaseMapsModel" "place" "[I") (List.mem_of_getElem? (i := 2) rfl)) (fun _ h9 => h9) rfl dX7_ofBoth_69 ?_
  refine lv_iload hx hb dX7_ofBoth_72 (lv_at hl 1 rfl) ?_
  refine va_iald (D := G.1) (ws := mW G A th sm le dg f sl ik sv tx u_1) hx hb hK hP 6 0 (n := 10) rfl rfl (by first | assumption | exact vp_in_nI (by omega) (by omega)) dX7_ofBoth_74 ?_
  refine lv_cgi (y := plc (f 0) (f (11 + i))) (hu_1 _ (vp_lt h1)) ?_
  refine lv_aload_n hx hb dX7_ofBoth_75 rfl (lv_at hl 2 rfl) ?_
  refine va_get (D := G.1) (ws := mW G A th sm le dg f sl ik sv tx u_1) (ci := 6) (v := .ref (A 6)) (C := RX7) (T := TX7) (N := 10) hx hb hts (fun _ h => List.mem_cons_of_mem _ (List.mem_append_right _ (h))) hown hK hP 0 rfl rfl 8 (by decide) (hts (.fieldLink RX7 26 "CreaseMapsModel" "place" "[I") (List.mem_of_getElem? (i := 2) rfl)) (fun _ h9 => h9) rfl dX7_ofBoth_76 ?_
  refine lv_iload hx hb dX7_ofBoth_79 (lv_at hl 0 rfl) ?_
  refine va_iald (D := G.1) (ws := mW G A th sm le dg f sl ik sv tx u_1) hx hb hK hP 6 0 (n := 10) rfl rfl (by first | assumption | exact vp_in_nI (by omega) (by omega)) dX7_ofBoth_81 ?_
  refine lv_cgi (y := plc (f 0) (f (11 + o))) (hu_1 _ (vp_lt h2)) ?_
  refine rd_go (va_runS (As := [.int (plc (f 0) (f (11 + i))), .int (plc (f 0) (f (11 + o)))]) (rest := []) ⟨hx, hb, hml, hown, hts⟩ (c_X7_off l G (plc (f 0) (f (11 + i))) (plc (f 0) (f (11 + o)))) (va_cwS 2 hts gX7_ofBoth_X7_off rfl rfl rfl (by decide +kernel) ⟨Nat.le_of_ble_eq_true rfl, Nat.le_of_ble_eq_true rfl⟩) (rS (ws := []) hK hN P_nil) rfl rfl hl.1 rfl (lv_room (Nat.le_of_ble_eq_true rfl)) dX7_ofBoth_82 ⟨Nat.le_of_ble_eq_true rfl, Nat.le_of_ble_eq_true rfl⟩) ?_
  exact wr_iret (G := G) (S := Nat → Int32) u_1 hx hb hr hlocks hP hD hS (Nat.le_of_ble_eq_true rfl) (Nat.le_of_ble_eq_true rfl) (by first | rfl | exact b2p c_100 | exact b2q c_100) dX7_ofBoth_85

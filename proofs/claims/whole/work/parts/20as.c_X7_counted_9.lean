set_option maxHeartbeats 4000000 in
set_option maxRecDepth 100000 in
theorem c_X7_counted_9 (l : Launch) (G : GG) (sz : Nat) (A : Nat → Nat) (th le : Int32) (dg : Int64) (f sl ik sv tx pl : Nat → Int32) (m : Nat) (hm : m ≤ 6) (n : Nat) (hn : f 17 = nI n) (hn2 : n ≤ 12) (hv : okA f) : WRi l yX7_counted wsX7_counted 4 G [.ref (A 0), .int (nI 9)] (mW G A th (nI m) le dg f sl ik sv tx pl) sz (S := Nat → Int32) (fun r _ => r = coM f n m 9) (fun u => mW G A th (nI m) le dg f sl ik sv tx u) 0 0 := by
  refine wr_of (l := l) (y := yX7_counted) (w := wsX7_counted) (d := 4) (G := G) (As := [.ref (A 0), .int (nI 9)]) (sz := sz) (mc := 0) (ms := 0) (cc := cX7_counted) (maxL := 2) (ret := (some .int)) (Qc := fun Ar => wQi G (S := Nat → Int32) (fun r _ => r = coM f n m 9) (fun u => mW G A th (nI m) le dg f sl ik sv tx u) Ar) (by decide) rfl (Nat.le_of_ble_eq_true rfl) ?_
  intro pG eG s mG below meth cG hsz hx hb hr hml hts hown hlocks hnm hP hK hN Ar hD hA hS ls hl
  have hown : s.vm.findClass RX7 = some mG.cls := hown
  have hP : PP G (mW G A th (nI m) le dg f sl ik sv tx pl) s.heap := hP
  have hD : va_D Ar (mW G A th (nI m) le dg f sl ik sv tx pl) := hD
  have hl : lv_has ls 2 [(0, .ref (A 0)), (1, .int (nI 9))] := hl
  refine lv_iload_n hx hb dX7_counted_0 rfl (lv_at hl 1 rfl) ?_
  refine lv_tableIn (off := 92) (tgt := 93) hx hb dX7_counted_1 (by decide) (by decide) (by decide) (by decide) ?_
  refine lv_aload_n hx hb dX7_counted_93 rfl (lv_at hl 0 rfl) ?_
  refine va_get (D := G.1) (ws := mW G A th (nI m) le dg f sl ik sv tx pl) (ci := 6) (v := .ref (A 1)) (C := RX7) (T := TX7) (N := 10) hx hb hts (fun _ h => List.mem_cons_of_mem _ (List.mem_append_right _ (h))) hown hK hP 0 rfl rfl 1 (by decide) (hts (.fieldLink RX7 7 "CreaseMapsModel" "s" "[I") (List.mem_of_getElem? (i := 1) rfl)) (fun _ h9 => h9) rfl dX7_counted_94 ?_
  refine lv_bipush (v := nI 54) hx hb dX7_counted_97 (by decide) ?_
  refine lv_iload_n hx hb dX7_counted_99 rfl (lv_at hl 1 rfl) ?_
  refine lv_iadd hx hb dX7_counted_100 ?_
  refine lv_cgi (y := nI (63)) (nI_add _ _) ?_
  refine lv_bipush (v := nI 6) hx hb dX7_counted_101 (by decide) ?_
  refine lv_isub hx hb dX7_counted_103 ?_
  refine lv_cgi (y := nI (57)) (pk_sub (by omega)) ?_
  refine va_iald (D := G.1) (ws := mW G A th (nI m) le dg f sl ik sv tx pl) hx hb hK hP 1 0 (n := 58) rfl rfl (by first | assumption | exact vp_in_nI (by omega) (by omega)) dX7_counted_104 ?_
  refine lv_cgi (y := f 57) rfl ?_
  exact wr_iret (G := G) (S := Nat → Int32) pl hx hb hr hlocks hP hD hS (Nat.le_of_ble_eq_true rfl) (Nat.le_of_ble_eq_true rfl) (by rfl) dX7_counted_105

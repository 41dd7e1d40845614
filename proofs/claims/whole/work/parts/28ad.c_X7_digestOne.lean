set_option maxHeartbeats 4000000 in
set_option maxRecDepth 100000 in
theorem c_X7_digestOne (l : Launch) (G : GG) (sz : Nat) (A : Nat → Nat) (th sm le : Int32) (dg : Int64) (f sl ik sv tx pl : Nat → Int32) (v : Int64) : WRv l yX7_digestOne wsX7_digestOne 1 G [.ref (A 0), .long v] (mW G A th sm le dg f sl ik sv tx pl) sz (S := Unit) (fun _ => True) (fun _ => mW G A th sm le (mx dg v) f sl ik sv tx pl) 0 0 := by
  refine wr_of (l := l) (y := yX7_digestOne) (w := wsX7_digestOne) (d := 1) (G := G) (As := [.ref (A 0), .long v]) (sz := sz) (mc := 0) (ms := 0) (cc := cX7_digestOne) (maxL := 3) (ret := none) (Qc := fun Ar => wQv G (S := Unit) (fun _ => True) (fun _ => mW G A th sm le (mx dg v) f sl ik sv tx pl) Ar) (by decide) rfl (Nat.le_of_ble_eq_true rfl) ?_
  intro pG eG s mG below meth cG hsz hx hb hr hml hts hown hlocks hnm hP hK hN Ar hD hA hS ls hl
  have hown : s.vm.findClass RX7 = some mG.cls := hown
  have hP : PP G (mW G A th sm le dg f sl ik sv tx pl) s.heap := hP
  have hD : va_D Ar (mW G A th sm le dg f sl ik sv tx pl) := hD
  have hl : lv_has ls 3 [(0, .ref (A 0)), (1, .long v)] := hl
  refine lv_aload_n hx hb dX7_digestOne_0 rfl (lv_at hl 0 rfl) ?_
  refine lv_ldc2 hx hb hown (hts (.constantLong RX7 152 (31)) (List.mem_of_getElem? (i := 1) rfl)) dX7_digestOne_1 ?_
  refine lv_aload_n hx hb dX7_digestOne_4 rfl (lv_at hl 0 rfl) ?_
  refine va_get (D := G.1) (ws := mW G A th sm le dg f sl ik sv tx pl) (ci := 6) (v := .long dg) (C := RX7) (T := TX7) (N := 10) hx hb hts (fun _ h => List.mem_cons_of_mem _ (List.mem_append_right _ (h))) hown hK hP 0 rfl rfl 9 (by decide) (hts (.fieldLink RX7 154 "CreaseMapsModel" "digested" "J") (List.mem_of_getElem? (i := 2) rfl)) (fun _ h9 => h9) rfl dX7_digestOne_5 ?_
  refine lv_lmul hx hb dX7_digestOne_8 ?_
  refine lv_lload_n hx hb dX7_digestOne_9 rfl (lv_at hl 1 rfl) ?_
  refine lv_ladd hx hb dX7_digestOne_10 ?_
  refine va_put (D := G.1) (ws := mW G A th sm le dg f sl ik sv tx pl) (ci := 6) (v := .long (((31) * dg) + v)) (ty := .long) (C := RX7) (T := TX7) (N := 10) hx hb hts (fun _ h => List.mem_cons_of_mem _ (List.mem_append_right _ (h))) tyX7 tyX7_ok nmX7 hown hK hP hD hS 0 rfl rfl 9 (by decide) (hts (.fieldLink RX7 154 "CreaseMapsModel" "digested" "J") (List.mem_of_getElem? (i := 2) rfl)) (fun _ h9 => h9) rfl (by decide +kernel) rfl rfl (Nat.le_of_ble_eq_true rfl) dX7_digestOne_11 (fun H locs hP hD hS => ?_)
  have hP : PP G (mW G A th sm le (((31) * dg) + v) f sl ik sv tx pl) _ := hP
  have hD : va_D Ar (mW G A th sm le (((31) * dg) + v) f sl ik sv tx pl) := hD
  exact wr_vret (G := G) (S := Unit) () hx hb hr hlocks hP hD hS (Nat.le_of_ble_eq_true rfl) (Nat.le_of_ble_eq_true rfl) (by trivial) dX7_digestOne_14

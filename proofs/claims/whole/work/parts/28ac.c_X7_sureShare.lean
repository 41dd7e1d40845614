set_option maxHeartbeats 4000000 in
set_option maxRecDepth 100000 in
theorem c_X7_sureShare (l : Launch) (G : GG) (sz : Nat) (A : Nat → Nat) (th sm le : Int32) (dg : Int64) (f sl ik sv tx pl : Nat → Int32) (n : Nat) (hn : f 17 = nI n) (hn2 : n ≤ 12) (hv : okA f) : WRd l yX7_sureShare wsX7_sureShare 5 G [.ref (A 0)] (mW G A th sm le dg f sl ik sv tx pl) sz (S := Nat → Int32) (fun r _ => r = shV (cN (qM f n) 512)) (fun u => mW G A (nI 0) sm le dg f sl ik sv tx u) 0 0 := by
  refine wr_of (l := l) (y := yX7_sureShare) (w := wsX7_sureShare) (d := 5) (G := G) (As := [.ref (A 0)]) (sz := sz) (mc := 0) (ms := 0) (cc := cX7_sureShare) (maxL := 1) (ret := (some .double)) (Qc := fun Ar => wQd G (S := Nat → Int32) (fun r _ => r = shV (cN (qM f n) 512)) (fun u => mW G A (nI 0) sm le dg f sl ik sv tx u) Ar) (by decide) rfl (Nat.le_of_ble_eq_true rfl) ?_
  intro pG eG s mG below meth cG hsz hx hb hr hml hts hown hlocks hnm hP hK hN Ar hD hA hS ls hl
  have hown : s.vm.findClass RX7 = some mG.cls := hown
  have hP : PP G (mW G A th sm le dg f sl ik sv tx pl) s.heap := hP
  have hD : va_D Ar (mW G A th sm le dg f sl ik sv tx pl) := hD
  have hl : lv_has ls 1 [(0, .ref (A 0))] := hl
  refine lv_aload_n hx hb dX7_sureShare_0 rfl (lv_at hl 0 rfl) ?_
  refine lv_iconst (v := nI 0) hx hb dX7_sureShare_1 (by decide) ?_
  refine va_put (D := G.1) (ws := mW G A th sm le dg f sl ik sv tx pl) (ci := 6) (v := .int (nI 0)) (ty := .int) (C := RX7) (T := TX7) (N := 10) hx hb hts (fun _ h => List.mem_cons_of_mem _ (List.mem_append_right _ (h))) tyX7 tyX7_ok nmX7 hown hK hP hD hS 0 rfl rfl 0 (by decide) (hts (.fieldLink RX7 29 "CreaseMapsModel" "thrown" "I") (List.mem_of_getElem? (i := 1) rfl)) (fun _ h9 => h9) rfl (by decide +kernel) rfl rfl (Nat.le_of_ble_eq_true rfl) dX7_sureShare_2 (fun H locs hP hD hS => ?_)
  have hP : PP G (mW G A (nI 0) sm le dg f sl ik sv tx pl) _ := hP
  have hD : va_D Ar (mW G A (nI 0) sm le dg f sl ik sv tx pl) := hD
  refine lv_aload_n hx hb dX7_sureShare_5 rfl (lv_at hl 0 rfl) ?_
  refine wr_god (pre := []) (mid := mW G A (nI 0) sm le dg f sl ik sv tx pl) (suf := []) (va_runV (As := []) (rest := []) ⟨hx, hb, hml, hown, hts⟩ (c_X7_share l G _ A (nI 0) sm le dg f sl ik sv tx pl n hn hn2 hv) (cwV 0 hts gX7_sureShare_X7_share rfl rfl rfl (by decide +kernel) ⟨Nat.le_of_ble_eq_true rfl, Nat.le_of_ble_eq_true rfl⟩) (wV (pre := []) (mid := mW G A (nI 0) sm le dg f sl ik sv tx pl) (suf := []) (va_recv (ws := mW G A (nI 0) sm le dg f sl ik sv tx pl) hK hP (ci := 6) (q0 := 0) rfl rfl) hK hN hP hD) rfl rfl hl.1 rfl (lv_room (Nat.le_of_ble_eq_true rfl)) dX7_sureShare_6 ⟨Nat.le_of_ble_eq_true rfl, Nat.le_of_ble_eq_true rfl⟩) hP hD hS hA (fun r u_1 H locs hw hP9 hD9 hS => ?_)
  subst hw
  have hP : PP G (mW G A (nI 0) sm le dg f sl ik sv tx u_1) _ := hP9
  have hD : va_D Ar (mW G A (nI 0) sm le dg f sl ik sv tx u_1) := hD9
  exact wr_dret (G := G) (S := Nat → Int32) u_1 hx hb hr hlocks hP hD hS (Nat.le_of_ble_eq_true rfl) (Nat.le_of_ble_eq_true rfl) (by rfl) dX7_sureShare_9

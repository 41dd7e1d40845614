set_option maxHeartbeats 4000000 in
set_option maxRecDepth 100000 in
theorem c_X7_share (l : Launch) (G : GG) (sz : Nat) (A : Nat → Nat) (th sm le : Int32) (dg : Int64) (f sl ik sv tx pl : Nat → Int32) (n : Nat) (hn : f 17 = nI n) (hn2 : n ≤ 12) (hv : okA f) : WRd l yX7_share wsX7_share 4 G [.ref (A 0)] (mW G A th sm le dg f sl ik sv tx pl) sz (S := Nat → Int32) (fun r _ => r = shV (cN (qM f n) 512)) (fun u => mW G A th sm le dg f sl ik sv tx u) 0 0 := by
  refine wr_of (l := l) (y := yX7_share) (w := wsX7_share) (d := 4) (G := G) (As := [.ref (A 0)]) (sz := sz) (mc := 0) (ms := 0) (cc := cX7_share) (maxL := 2) (ret := (some .double)) (Qc := fun Ar => wQd G (S := Nat → Int32) (fun r _ => r = shV (cN (qM f n) 512)) (fun u => mW G A th sm le dg f sl ik sv tx u) Ar) (by decide) rfl (Nat.le_of_ble_eq_true rfl) ?_
  intro pG eG s mG below meth cG hsz hx hb hr hml hts hown hlocks hnm hP hK hN Ar hD hA hS ls hl
  have hown : s.vm.findClass RX7 = some mG.cls := hown
  have hP : PP G (mW G A th sm le dg f sl ik sv tx pl) s.heap := hP
  have hD : va_D Ar (mW G A th sm le dg f sl ik sv tx pl) := hD
  have hl : lv_has ls 2 [(0, .ref (A 0))] := hl
  refine lv_aload_n hx hb dX7_share_0 rfl (lv_at hl 0 rfl) ?_
  refine wr_goi (pre := []) (mid := mW G A th sm le dg f sl ik sv tx pl) (suf := []) (va_runV (As := []) (rest := []) ⟨hx, hb, hml, hown, hts⟩ (c_X7_fitting l G _ A th sm le dg f sl ik sv tx pl n hn hn2 hv) (cwV 0 hts gX7_share_X7_fitting rfl rfl rfl (by decide +kernel) ⟨Nat.le_of_ble_eq_true rfl, Nat.le_of_ble_eq_true rfl⟩) (wV (pre := []) (mid := mW G A th sm le dg f sl ik sv tx pl) (suf := []) (va_recv (ws := mW G A th sm le dg f sl ik sv tx pl) hK hP (ci := 6) (q0 := 0) rfl rfl) hK hN hP hD) rfl rfl hl.1 rfl (lv_room (Nat.le_of_ble_eq_true rfl)) dX7_share_1 ⟨Nat.le_of_ble_eq_true rfl, Nat.le_of_ble_eq_true rfl⟩) hP hD hS hA (fun r u_1 H locs hw hP9 hD9 hS => ?_)
  subst hw
  have hP : PP G (mW G A th sm le dg f sl ik sv tx u_1) _ := hP9
  have hD : va_D Ar (mW G A th sm le dg f sl ik sv tx u_1) := hD9
  refine lv_cgi (y := nI (cN (qM f n) 512)) (fitN_eq f n 512 (Nat.le_refl _)) ?_
  refine lv_istore_n (lv' := [(1, .int (nI (cN (qM f n) 512))), (0, .ref (A 0))]) hx hb dX7_share_4 rfl hl (by decide) rfl (fun ls hl => ?_)
  refine lv_iload_n hx hb dX7_share_5 rfl (lv_at hl 0 rfl) ?_
  refine lv_if_ne (tgt := 13) hx hb dX7_share_6 (by decide) (fun c_6 => ?_) (fun c_6 => ?_)
  · have h0 : cN (qM f n) 512 ≠ 0 := fun h => c_6 (by rw [h]; try rfl)
    have hs : FP.ddiv FP.dconst1 (FP.i2d (nI (cN (qM f n) 512))) = shV (cN (qM f n) 512) := by unfold shV; rw [if_neg h0]
    refine lv_dconst1 hx hb dX7_share_13 ?_
    refine lv_iload_n hx hb dX7_share_14 rfl (lv_at hl 0 rfl) ?_
    refine lv_i2d hx hb dX7_share_15 ?_
    refine lv_ddiv hx hb dX7_share_16 (by rw [hs]; exact (okV_1 (cN_le _ 512)).1) ?_
    exact wr_dret (G := G) (S := Nat → Int32) u_1 hx hb hr hlocks hP hD hS (Nat.le_of_ble_eq_true rfl) (Nat.le_of_ble_eq_true rfl) (by exact hs) dX7_share_17
  · have h0 : cN (qM f n) 512 = 0 := nIe (show nI (cN (qM f n) 512) = nI 0 from c_6) (Nat.lt_of_le_of_lt (cN_le _ 512) (by decide)) (by decide)
    refine lv_dconst0 hx hb dX7_share_9 ?_
    refine lv_goto (tgt := 17) hx hb dX7_share_10 (by decide) ?_
    exact wr_dret (G := G) (S := Nat → Int32) u_1 hx hb hr hlocks hP hD hS (Nat.le_of_ble_eq_true rfl) (Nat.le_of_ble_eq_true rfl) (by unfold shV; rw [if_pos h0]) dX7_share_17

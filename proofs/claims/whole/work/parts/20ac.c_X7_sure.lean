set_option maxHeartbeats 4000000 in
set_option maxRecDepth 100000 in
theorem c_X7_sure (l : Launch) (G : GG) (sz : Nat) (A : Nat → Nat) (th sm le : Int32) (dg : Int64) (f sl ik sv tx pl : Nat → Int32) (n : Nat) (hn : f 17 = nI n) (hn2 : n ≤ 12) (hv : okA f) (cr : Int32) : WRi l yX7_sure wsX7_sure 3 G [.ref (A 0), .int cr] (mW G A th sm le dg f sl ik sv tx pl) sz (S := Nat → Int32) (fun r _ => r = sureM f n cr) (fun u => mW G A th sm le dg f sl ik sv tx u) 0 0 := by
  refine wr_of (l := l) (y := yX7_sure) (w := wsX7_sure) (d := 3) (G := G) (As := [.ref (A 0), .int cr]) (sz := sz) (mc := 0) (ms := 0) (cc := cX7_sure) (maxL := 5) (ret := (some .int)) (Qc := fun Ar => wQi G (S := Nat → Int32) (fun r _ => r = sureM f n cr) (fun u => mW G A th sm le dg f sl ik sv tx u) Ar) (by decide) rfl (Nat.le_of_ble_eq_true rfl) ?_
  intro pG eG s mG below meth cG hsz hx hb hr hml hts hown hlocks hnm hP hK hN Ar hD hA hS ls hl
  have hown : s.vm.findClass RX7 = some mG.cls := hown
  have hP : PP G (mW G A th sm le dg f sl ik sv tx pl) s.heap := hP
  have hD : va_D Ar (mW G A th sm le dg f sl ik sv tx pl) := hD
  have hl : lv_has ls 5 [(0, .ref (A 0)), (1, .int cr)] := hl
  refine lv_iconst (v := nI 0) hx hb dX7_sure_0 (by decide) ?_
  refine lv_istore_n (lv' := [(2, .int (nI 0)), (0, .ref (A 0)), (1, .int cr)]) hx hb dX7_sure_1 rfl hl (by decide) rfl (fun ls hl => ?_)
  refine lv_iconst (v := nI 0) hx hb dX7_sure_2 (by decide) ?_
  refine lv_istore_n (lv' := [(3, .int (nI 0)), (2, .int (nI 0)), (0, .ref (A 0)), (1, .int cr)]) hx hb dX7_sure_3 rfl hl (by decide) rfl (fun ls hl => ?_)
  refine lv_iconst (v := nI 0) hx hb dX7_sure_4 (by decide) ?_
  refine lv_istore (lv' := [(4, .int (nI 0)), (3, .int (nI 0)), (2, .int (nI 0)), (0, .ref (A 0)), (1, .int cr)]) hx hb dX7_sure_5 hl (by decide) rfl (fun ls hl => ?_)
  have L7 : ∀ (fu : Nat) (k : Nat) (q : Nat → Int32) (hk : k ≤ 512), 512 + 1 ≤ k + fu → ∀ (H : Heap) (locs : List Loc), PP G (mW G A th sm le dg f sl ik sv tx q) H → va_D Ar (mW G A th sm le dg f sl ik sv tx q) → va_S Ar s.heap H locs → ∀ ls : Array Slot, lv_has ls 5 [(0, .ref (A 0)), (1, .int cr), (2, .int (nI (cN (qM f n) k))), (3, .int (suM f n cr k)), (4, .int (nI k))] → W pG l eG (RM 3 0 0) s mG ([.ref (A 0), .int cr] : List Value).toArray below meth cG H locs 0 0 (MQ below (wQi G (S := Nat → Int32) (fun r _ => r = sureM f n cr) (fun u => mW G A th sm le dg f sl ik sv tx u) Ar) ([.ref (A 0), .int cr] : List Value).toArray s 0 0 Ar) (F0 mG 7 ls []) := by
    intro fu
    induction fu with
    | zero => intro k q hk hfu; exact absurd hfu (by omega)
    | succ fu ih =>
      intro k q hk hfu H locs hP hD hS ls hl
      refine lv_iload hx hb dX7_sure_7 (lv_at hl 4 rfl) ?_
      refine lv_sipush (v := nI 512) hx hb dX7_sure_9 (by decide +kernel) ?_
      refine lv_icmp_ge (tgt := 42) hx hb dX7_sure_12 (by decide) (fun c_12 => ?_) (fun c_12 => ?_)
      · have q1 : 512 ≤ k := fe c_12 (by omega) (by omega)
        obtain rfl : k = 512 := by omega
        refine lv_iload_n hx hb dX7_sure_42 rfl (lv_at hl 3 rfl) ?_
        refine lv_if_ne (tgt := 50) hx hb dX7_sure_43 (by decide) (fun c_43 => ?_) (fun c_43 => ?_)
        · refine lv_iload_n hx hb dX7_sure_50 rfl (lv_at hl 3 rfl) ?_
          refine lv_iload_n hx hb dX7_sure_51 rfl (lv_at hl 2 rfl) ?_
          refine lv_icmp_ne (tgt := 59) hx hb dX7_sure_52 (by decide) (fun c_52 => ?_) (fun c_52 => ?_)
          · refine lv_iconst (v := (-1)) hx hb dX7_sure_59 (by decide) ?_
            exact wr_iret (G := G) (S := Nat → Int32) q hx hb hr hlocks hP hD hS (Nat.le_of_ble_eq_true rfl) (Nat.le_of_ble_eq_true rfl) (by unfold sureM; rw [if_neg c_43, if_neg c_52]) dX7_sure_60
          · refine lv_iconst (v := nI 1) hx hb dX7_sure_55 (by decide) ?_
            refine lv_goto (tgt := 60) hx hb dX7_sure_56 (by decide) ?_
            exact wr_iret (G := G) (S := Nat → Int32) q hx hb hr hlocks hP hD hS (Nat.le_of_ble_eq_true rfl) (Nat.le_of_ble_eq_true rfl) (by unfold sureM; rw [if_neg c_43, if_pos c_52]) dX7_sure_60
        · refine lv_iconst (v := nI 0) hx hb dX7_sure_46 (by decide) ?_
          refine lv_goto (tgt := 60) hx hb dX7_sure_47 (by decide) ?_
          exact wr_iret (G := G) (S := Nat → Int32) q hx hb hr hlocks hP hD hS (Nat.le_of_ble_eq_true rfl) (Nat.le_of_ble_eq_true rfl) (by unfold sureM; rw [if_pos c_43]) dX7_sure_60
      · have q1 : k < 512 := fl c_12 (by omega) (by omega)
        refine lv_aload_n hx hb dX7_sure_15 rfl (lv_at hl 0 rfl) ?_
        refine lv_iload hx hb dX7_sure_16 (lv_at hl 4 rfl) ?_
        refine wr_goi (pre := []) (mid := mW G A th sm le dg f sl ik sv tx q) (suf := []) (va_runV (As := [.int (nI k)]) (rest := []) ⟨hx, hb, hml, hown, hts⟩ (c_X7_fits l G _ A th sm le dg f sl ik sv tx q n hn hn2 hv (nI k)) (cwV 1 hts gX7_sure_X7_fits rfl rfl rfl (by decide +kernel) ⟨Nat.le_of_ble_eq_true rfl, Nat.le_of_ble_eq_true rfl⟩) (wV (pre := []) (mid := mW G A th sm le dg f sl ik sv tx q) (suf := []) (va_recv (ws := mW G A th sm le dg f sl ik sv tx q) hK hP (ci := 6) (q0 := 0) rfl rfl) hK hN hP hD) rfl rfl hl.1 rfl (lv_room (Nat.le_of_ble_eq_true rfl)) dX7_sure_18 ⟨Nat.le_of_ble_eq_true rfl, Nat.le_of_ble_eq_true rfl⟩) hP hD hS hA (fun r u_1 H locs hw hP9 hD9 hS => ?_)
        obtain ⟨rfl, hu_1⟩ := hw
        have hP : PP G (mW G A th sm le dg f sl ik sv tx u_1) _ := hP9
        have hD : va_D Ar (mW G A th sm le dg f sl ik sv tx u_1) := hD9
        refine lv_if_eq (tgt := 36) hx hb dX7_sure_21 (by decide) (fun c_21 => ?_) (fun c_21 => ?_)
        · have c_21 := b2_eq c_21
          refine lv_iinc (v := nI (k + 1)) (lv' := [(4, .int (nI (k + 1))), (0, .ref (A 0)), (1, .int cr), (2, .int (nI (cN (qM f n) k))), (3, .int (suM f n cr k))]) hx hb dX7_sure_36 hl (k := 4) rfl (iincN k) (by decide) rfl (fun ls hl => ?_)
          refine lv_goto (tgt := 7) hx hb dX7_sure_39 (by decide) ?_
          have q9 : qM f n k = false := c_21
          exact ih (k + 1) u_1 (by omega) (by omega) _ _ hP hD hS ls (lv_as (l1 := [(0, .ref (A 0)), (1, .int cr), (2, .int (nI (cN (qM f n) k))), (3, .int (suM f n cr k)), (4, .int (nI (k + 1)))]) (lv_sub hl [1, 2, 3, 4, 0] rfl) (by first | (rw [cN_t q9, show suM f n cr (k + 1) = suM f n cr k + (if qM f n k = true then bI (nI k) cr else nI 0) from rfl, if_pos q9]; done) | (rw [cN_f q9, show suM f n cr (k + 1) = suM f n cr k + (if qM f n k = true then bI (nI k) cr else nI 0) from rfl, if_neg (by rw [q9]; exact Bool.false_ne_true), addz]; done)))
        · have c_21 := b2_ne c_21
          refine lv_iinc (v := nI ((cN (qM f n) k) + 1)) (lv' := [(2, .int (nI ((cN (qM f n) k) + 1))), (0, .ref (A 0)), (1, .int cr), (3, .int (suM f n cr k)), (4, .int (nI k))]) hx hb dX7_sure_24 hl (k := 2) rfl (iincN (cN (qM f n) k)) (by decide) rfl (fun ls hl => ?_)
          refine lv_iload_n hx hb dX7_sure_27 rfl (lv_at hl 3 rfl) ?_
          refine lv_iload hx hb dX7_sure_28 (lv_at hl 4 rfl) ?_
          refine lv_iload_n hx hb dX7_sure_30 rfl (lv_at hl 2 rfl) ?_
          refine lv_ishr hx hb dX7_sure_31 ?_
          refine lv_iconst (v := nI 1) hx hb dX7_sure_32 (by decide) ?_
          refine lv_iand hx hb dX7_sure_33 ?_
          refine lv_iadd hx hb dX7_sure_34 ?_
          refine lv_istore_n (lv' := [(3, .int ((suM f n cr k) + (((nI k) >>> (cr &&& 31)) &&& (nI 1)))), (2, .int (nI ((cN (qM f n) k) + 1))), (0, .ref (A 0)), (1, .int cr), (4, .int (nI k))]) hx hb dX7_sure_35 rfl hl (by decide) rfl (fun ls hl => ?_)
          refine lv_iinc (v := nI (k + 1)) (lv' := [(4, .int (nI (k + 1))), (3, .int ((suM f n cr k) + (((nI k) >>> (cr &&& 31)) &&& (nI 1)))), (2, .int (nI ((cN (qM f n) k) + 1))), (0, .ref (A 0)), (1, .int cr)]) hx hb dX7_sure_36 hl (k := 4) rfl (iincN k) (by decide) rfl (fun ls hl => ?_)
          refine lv_goto (tgt := 7) hx hb dX7_sure_39 (by decide) ?_
          have q9 : qM f n k = true := c_21
          exact ih (k + 1) u_1 (by omega) (by omega) _ _ hP hD hS ls (lv_as (l1 := [(0, .ref (A 0)), (1, .int cr), (2, .int (nI ((cN (qM f n) k) + 1))), (3, .int ((suM f n cr k) + (((nI k) >>> (cr &&& 31)) &&& (nI 1)))), (4, .int (nI (k + 1)))]) (lv_sub hl [3, 4, 2, 1, 0] rfl) (by first | (rw [cN_t q9, show suM f n cr (k + 1) = suM f n cr k + (if qM f n k = true then bI (nI k) cr else nI 0) from rfl, if_pos q9]; done) | (rw [cN_f q9, show suM f n cr (k + 1) = suM f n cr k + (if qM f n k = true then bI (nI k) cr else nI 0) from rfl, if_neg (by rw [q9]; exact Bool.false_ne_true), addz]; done)))
  exact L7 513 0 pl (by omega) (by omega) _ _ hP hD hS ls (lv_as (l1 := [(0, .ref (A 0)), (1, .int cr), (2, .int (nI 0)), (3, .int (nI 0)), (4, .int (nI 0))]) (lv_sub hl [3, 4, 2, 1, 0] rfl) (by rfl))

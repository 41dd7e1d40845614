set_option maxHeartbeats 4000000 in
set_option maxRecDepth 100000 in
theorem c_X7_foldingAt (l : Launch) (G : GG) (sz : Nat) (A : Nat → Nat) (th sm le : Int32) (dg : Int64) (f sl ik sv tx pl : Nat → Int32) (n : Nat) (hn : f 17 = nI n) (hn2 : n ≤ 12) (hv : okA f) (x : Int32) : WRi l yX7_foldingAt wsX7_foldingAt 3 G [.ref (A 0), .int x] (mW G A th sm le dg f sl ik sv tx pl) sz (S := Nat → Int32) (fun r _ => r = faM (qM f n) x 512 0) (fun u => mW G A th sm le dg f sl ik sv tx u) 0 0 := by
  refine wr_of (l := l) (y := yX7_foldingAt) (w := wsX7_foldingAt) (d := 3) (G := G) (As := [.ref (A 0), .int x]) (sz := sz) (mc := 0) (ms := 0) (cc := cX7_foldingAt) (maxL := 4) (ret := (some .int)) (Qc := fun Ar => wQi G (S := Nat → Int32) (fun r _ => r = faM (qM f n) x 512 0) (fun u => mW G A th sm le dg f sl ik sv tx u) Ar) (by decide) rfl (Nat.le_of_ble_eq_true rfl) ?_
  intro pG eG s mG below meth cG hsz hx hb hr hml hts hown hlocks hnm hP hK hN Ar hD hA hS ls hl
  have hown : s.vm.findClass RX7 = some mG.cls := hown
  have hP : PP G (mW G A th sm le dg f sl ik sv tx pl) s.heap := hP
  have hD : va_D Ar (mW G A th sm le dg f sl ik sv tx pl) := hD
  have hl : lv_has ls 4 [(0, .ref (A 0)), (1, .int x)] := hl
  refine lv_iconst (v := nI 0) hx hb dX7_foldingAt_0 (by decide) ?_
  refine lv_istore_n (lv' := [(2, .int (nI 0)), (0, .ref (A 0)), (1, .int x)]) hx hb dX7_foldingAt_1 rfl hl (by decide) rfl (fun ls hl => ?_)
  refine lv_iconst (v := nI 0) hx hb dX7_foldingAt_2 (by decide) ?_
  refine lv_istore_n (lv' := [(3, .int (nI 0)), (2, .int (nI 0)), (0, .ref (A 0)), (1, .int x)]) hx hb dX7_foldingAt_3 rfl hl (by decide) rfl (fun ls hl => ?_)
  have L4 : ∀ (fu : Nat) (k : Nat) (q : Nat → Int32) (hk : k ≤ 512) (hq : faM (qM f n) x (512 - k) k = faM (qM f n) x 512 0), 512 + 1 ≤ k + fu → ∀ (H : Heap) (locs : List Loc), PP G (mW G A th sm le dg f sl ik sv tx q) H → va_D Ar (mW G A th sm le dg f sl ik sv tx q) → va_S Ar s.heap H locs → ∀ ls : Array Slot, lv_has ls 4 [(0, .ref (A 0)), (1, .int x), (2, .int (nI (cN (qM f n) k))), (3, .int (nI k))] → W pG l eG (RM 3 0 0) s mG ([.ref (A 0), .int x] : List Value).toArray below meth cG H locs 0 0 (MQ below (wQi G (S := Nat → Int32) (fun r _ => r = faM (qM f n) x 512 0) (fun u => mW G A th sm le dg f sl ik sv tx u) Ar) ([.ref (A 0), .int x] : List Value).toArray s 0 0 Ar) (F0 mG 4 ls []) := by
    intro fu
    induction fu with
    | zero => intro k q hk hq hfu; exact absurd hfu (by omega)
    | succ fu ih =>
      intro k q hk hq hfu H locs hP hD hS ls hl
      refine lv_iload_n hx hb dX7_foldingAt_4 rfl (lv_at hl 3 rfl) ?_
      refine lv_sipush (v := nI 512) hx hb dX7_foldingAt_5 (by decide +kernel) ?_
      refine lv_icmp_ge (tgt := 35) hx hb dX7_foldingAt_8 (by decide) (fun c_8 => ?_) (fun c_8 => ?_)
      · have q1 : 512 ≤ k := fe c_8 (by omega) (by omega)
        refine lv_iconst (v := (-1)) hx hb dX7_foldingAt_35 (by decide) ?_
        exact wr_iret (G := G) (S := Nat → Int32) q hx hb hr hlocks hP hD hS (Nat.le_of_ble_eq_true rfl) (Nat.le_of_ble_eq_true rfl) (by rw [← hq, show k = 512 by omega]; rfl) dX7_foldingAt_36
      · have q1 : k < 512 := fl c_8 (by omega) (by omega)
        refine lv_aload_n hx hb dX7_foldingAt_11 rfl (lv_at hl 0 rfl) ?_
        refine lv_iload_n hx hb dX7_foldingAt_12 rfl (lv_at hl 3 rfl) ?_
        refine wr_goi (pre := []) (mid := mW G A th sm le dg f sl ik sv tx q) (suf := []) (va_runV (As := [.int (nI k)]) (rest := []) ⟨hx, hb, hml, hown, hts⟩ (c_X7_fits l G _ A th sm le dg f sl ik sv tx q n hn hn2 hv (nI k)) (cwV 1 hts gX7_foldingAt_X7_fits rfl rfl rfl (by decide +kernel) ⟨Nat.le_of_ble_eq_true rfl, Nat.le_of_ble_eq_true rfl⟩) (wV (pre := []) (mid := mW G A th sm le dg f sl ik sv tx q) (suf := []) (va_recv (ws := mW G A th sm le dg f sl ik sv tx q) hK hP (ci := 6) (q0 := 0) rfl rfl) hK hN hP hD) rfl rfl hl.1 rfl (lv_room (Nat.le_of_ble_eq_true rfl)) dX7_foldingAt_13 ⟨Nat.le_of_ble_eq_true rfl, Nat.le_of_ble_eq_true rfl⟩) hP hD hS hA (fun r u_1 H locs hw hP9 hD9 hS => ?_)
        obtain ⟨rfl, hu_1⟩ := hw
        have hP : PP G (mW G A th sm le dg f sl ik sv tx u_1) _ := hP9
        have hD : va_D Ar (mW G A th sm le dg f sl ik sv tx u_1) := hD9
        refine lv_if_eq (tgt := 29) hx hb dX7_foldingAt_16 (by decide) (fun c_16 => ?_) (fun c_16 => ?_)
        · have c_16 : qM f n k = false := b2_eq c_16
          refine lv_iinc (v := nI (k + 1)) (lv' := [(3, .int (nI (k + 1))), (0, .ref (A 0)), (1, .int x), (2, .int (nI (cN (qM f n) k)))]) hx hb dX7_foldingAt_29 hl (k := 3) rfl (iincN k) (by decide) rfl (fun ls hl => ?_)
          refine lv_goto (tgt := 4) hx hb dX7_foldingAt_32 (by decide) ?_
          exact ih (k + 1) u_1 (by omega) (by rw [← hq, show 512 - k = (512 - (k + 1)) + 1 by omega, faM, if_neg (fun h => Bool.false_ne_true (c_16.symm.trans h.1))]) (by omega) _ _ hP hD hS ls (lv_as (l1 := [(0, .ref (A 0)), (1, .int x), (2, .int (nI (cN (qM f n) k))), (3, .int (nI (k + 1)))]) (lv_sub hl [1, 2, 3, 0] rfl) (by rw [cN_f c_16]))
        · have c_16 : qM f n k = true := b2_ne c_16
          refine lv_iload_n hx hb dX7_foldingAt_19 rfl (lv_at hl 2 rfl) ?_
          refine lv_iload_n hx hb dX7_foldingAt_20 rfl (lv_at hl 1 rfl) ?_
          refine lv_icmp_ne (tgt := 26) hx hb dX7_foldingAt_21 (by decide) (fun c_21 => ?_) (fun c_21 => ?_)
          · refine lv_iinc (v := nI ((cN (qM f n) k) + 1)) (lv' := [(2, .int (nI ((cN (qM f n) k) + 1))), (0, .ref (A 0)), (1, .int x), (3, .int (nI k))]) hx hb dX7_foldingAt_26 hl (k := 2) rfl (iincN (cN (qM f n) k)) (by decide) rfl (fun ls hl => ?_)
            refine lv_iinc (v := nI (k + 1)) (lv' := [(3, .int (nI (k + 1))), (2, .int (nI ((cN (qM f n) k) + 1))), (0, .ref (A 0)), (1, .int x)]) hx hb dX7_foldingAt_29 hl (k := 3) rfl (iincN k) (by decide) rfl (fun ls hl => ?_)
            refine lv_goto (tgt := 4) hx hb dX7_foldingAt_32 (by decide) ?_
            exact ih (k + 1) u_1 (by omega) (by rw [← hq, show 512 - k = (512 - (k + 1)) + 1 by omega, faM, if_neg (fun h => c_21 h.2)]) (by omega) _ _ hP hD hS ls (lv_as (l1 := [(0, .ref (A 0)), (1, .int x), (2, .int (nI ((cN (qM f n) k) + 1))), (3, .int (nI (k + 1)))]) (lv_sub hl [2, 3, 1, 0] rfl) (by rw [cN_t c_16]))
          · refine lv_iload_n hx hb dX7_foldingAt_24 rfl (lv_at hl 3 rfl) ?_
            exact wr_iret (G := G) (S := Nat → Int32) u_1 hx hb hr hlocks hP hD hS (Nat.le_of_ble_eq_true rfl) (Nat.le_of_ble_eq_true rfl) (by rw [← hq, show 512 - k = (512 - (k + 1)) + 1 by omega, faM, if_pos ⟨c_16, c_21⟩]) dX7_foldingAt_25
  exact L4 513 0 pl (by omega) (by rfl) (by omega) _ _ hP hD hS ls (lv_as (l1 := [(0, .ref (A 0)), (1, .int x), (2, .int (nI 0)), (3, .int (nI 0))]) (lv_sub hl [2, 3, 1, 0] rfl) (by rfl))

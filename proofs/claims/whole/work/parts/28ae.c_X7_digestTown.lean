set_option maxHeartbeats 4000000 in
set_option maxRecDepth 100000 in
theorem c_X7_digestTown (l : Launch) (G : GG) (sz : Nat) (A : Nat → Nat) (th sm le : Int32) (dg : Int64) (f sl ik sv tx pl : Nat → Int32) (n : Nat) (hn : f 17 = nI n) (hn2 : n ≤ 12) (hv : okA f) (ht : okT f) (t : Nat) (ht6 : t < 6) : WRv l yX7_digestTown wsX7_digestTown 4 G [.ref (A 0), .int (nI t)] (mW G A th sm le dg f sl ik sv tx pl) sz (S := Nat → Int32) (fun _ => True) (fun u => mW G A th sm le (dtm (mB f n t) t (5 - t) (mx dg ((f (11 + t)).toInt64))) f sl ik sv tx u) 0 0 := by
  refine wr_of (l := l) (y := yX7_digestTown) (w := wsX7_digestTown) (d := 4) (G := G) (As := [.ref (A 0), .int (nI t)]) (sz := sz) (mc := 0) (ms := 0) (cc := cX7_digestTown) (maxL := 4) (ret := none) (Qc := fun Ar => wQv G (S := Nat → Int32) (fun _ => True) (fun u => mW G A th sm le (dtm (mB f n t) t (5 - t) (mx dg ((f (11 + t)).toInt64))) f sl ik sv tx u) Ar) (by decide) rfl (Nat.le_of_ble_eq_true rfl) ?_
  intro pG eG s mG below meth cG hsz hx hb hr hml hts hown hlocks hnm hP hK hN Ar hD hA hS ls hl
  have hown : s.vm.findClass RX7 = some mG.cls := hown
  have hP : PP G (mW G A th sm le dg f sl ik sv tx pl) s.heap := hP
  have hD : va_D Ar (mW G A th sm le dg f sl ik sv tx pl) := hD
  have hl : lv_has ls 4 [(0, .ref (A 0)), (1, .int (nI t))] := hl
  refine lv_aload_n hx hb dX7_digestTown_0 rfl (lv_at hl 0 rfl) ?_
  refine lv_aload_n hx hb dX7_digestTown_1 rfl (lv_at hl 0 rfl) ?_
  refine va_get (D := G.1) (ws := mW G A th sm le dg f sl ik sv tx pl) (ci := 6) (v := .ref (A 1)) (C := RX7) (T := TX7) (N := 10) hx hb hts (fun _ h => List.mem_cons_of_mem _ (List.mem_append_right _ (h))) hown hK hP 0 rfl rfl 1 (by decide) (hts (.fieldLink RX7 7 "CreaseMapsModel" "s" "[I") (List.mem_of_getElem? (i := 1) rfl)) (fun _ h9 => h9) rfl dX7_digestTown_2 ?_
  refine lv_bipush (v := nI 11) hx hb dX7_digestTown_5 (by decide) ?_
  refine lv_iload_n hx hb dX7_digestTown_7 rfl (lv_at hl 1 rfl) ?_
  refine lv_iadd hx hb dX7_digestTown_8 ?_
  refine lv_cgi (y := nI (11 + t)) (nI_add _ _) ?_
  refine va_iald (D := G.1) (ws := mW G A th sm le dg f sl ik sv tx pl) hx hb hK hP 1 0 (n := 58) rfl rfl (by first | assumption | exact vp_in_nI (by omega) (by omega)) dX7_digestTown_9 ?_
  refine lv_cgi (y := f (11 + t)) (by rw [nI_clamp (by omega)]) ?_
  refine lv_i2l (v := (f (11 + t)).toInt64) hx hb dX7_digestTown_10 rfl ?_
  refine wr_gov (pre := []) (mid := mW G A th sm le dg f sl ik sv tx pl) (suf := []) (va_runV (As := [.long ((f (11 + t)).toInt64)]) (rest := []) ⟨hx, hb, hml, hown, hts⟩ (c_X7_digestOne l G _ A th sm le dg f sl ik sv tx pl ((f (11 + t)).toInt64)) (cwV 1 hts gX7_digestTown_X7_digestOne rfl rfl rfl (by decide +kernel) ⟨Nat.le_of_ble_eq_true rfl, Nat.le_of_ble_eq_true rfl⟩) (wV (pre := []) (mid := mW G A th sm le dg f sl ik sv tx pl) (suf := []) (va_recv (ws := mW G A th sm le dg f sl ik sv tx pl) hK hP (ci := 6) (q0 := 0) rfl rfl) hK hN hP hD) rfl rfl hl.1 rfl (lv_room (Nat.le_of_ble_eq_true rfl)) dX7_digestTown_11 ⟨Nat.le_of_ble_eq_true rfl, Nat.le_of_ble_eq_true rfl⟩) hP hD hS hA (fun _ H locs hw hP9 hD9 hS => ?_)
  have hP : PP G (mW G A th sm le (mx dg ((f (11 + t)).toInt64)) f sl ik sv tx pl) _ := hP9
  have hD : va_D Ar (mW G A th sm le (mx dg ((f (11 + t)).toInt64)) f sl ik sv tx pl) := hD9
  refine lv_iload_n hx hb dX7_digestTown_14 rfl (lv_at hl 1 rfl) ?_
  refine lv_iconst (v := nI 1) hx hb dX7_digestTown_15 (by decide) ?_
  refine lv_iadd hx hb dX7_digestTown_16 ?_
  refine lv_cgi (y := nI (t + 1)) (nI_add _ _) ?_
  refine lv_istore_n (lv' := [(2, .int (nI (t + 1))), (0, .ref (A 0)), (1, .int (nI t))]) hx hb dX7_digestTown_17 rfl hl (by decide) rfl (fun ls hl => ?_)
  have L18 : ∀ (fu18 : Nat) (m9 : Nat) (q : Nat → Int32) (hm9 : t + 1 + m9 ≤ 6), 6 ≤ t + m9 + fu18 → ∀ (H : Heap) (locs : List Loc), PP G (mW G A th sm le (dtm (mB f n t) t m9 (mx dg ((f (11 + t)).toInt64))) f sl ik sv tx q) H → va_D Ar (mW G A th sm le (dtm (mB f n t) t m9 (mx dg ((f (11 + t)).toInt64))) f sl ik sv tx q) → va_S Ar s.heap H locs → ∀ ls : Array Slot, lv_has ls 4 [(0, .ref (A 0)), (1, .int (nI t)), (2, .int (nI (t + 1 + m9)))] → W pG l eG (RM 4 0 0) s mG ([.ref (A 0), .int (nI t)] : List Value).toArray below meth cG H locs 0 0 (MQ below (wQv G (S := Nat → Int32) (fun _ => True) (fun u => mW G A th sm le (dtm (mB f n t) t (5 - t) (mx dg ((f (11 + t)).toInt64))) f sl ik sv tx u) Ar) ([.ref (A 0), .int (nI t)] : List Value).toArray s 0 0 Ar) (F0 mG 18 ls []) := by
    intro fu18
    induction fu18 with
    | zero => intro m9 q hm9 hfu18; exact absurd hfu18 (by omega)
    | succ fu18 ih18 =>
      intro m9 q hm9 hfu18 H locs hP hD hS ls hl
      refine lv_iload_n hx hb dX7_digestTown_18 rfl (lv_at hl 2 rfl) ?_
      refine lv_bipush (v := nI 6) hx hb dX7_digestTown_19 (by decide) ?_
      refine lv_icmp_ge (tgt := 55) hx hb dX7_digestTown_21 (by decide) (fun c_21 => ?_) (fun c_21 => ?_)
      · have q1 : 6 ≤ t + 1 + m9 := fe c_21 (by omega) (by omega)
        exact wr_vret (G := G) (S := Nat → Int32) q hx hb hr hlocks (PP_as hP (by rw [show m9 = 5 - t by omega])) (D_as hD (by rw [show m9 = 5 - t by omega])) hS (Nat.le_of_ble_eq_true rfl) (Nat.le_of_ble_eq_true rfl) (by trivial) dX7_digestTown_55
      · have q1 : t + 1 + m9 < 6 := fl c_21 (by omega) (by omega)
        refine lv_iconst (v := nI 0) hx hb dX7_digestTown_24 (by decide) ?_
        refine lv_istore_n (lv' := [(3, .int (nI 0)), (0, .ref (A 0)), (1, .int (nI t)), (2, .int (nI (t + 1 + m9)))]) hx hb dX7_digestTown_25 rfl hl (by decide) rfl (fun ls hl => ?_)
        have L26 : ∀ (fu26 : Nat) (v : Nat) (q : Nat → Int32) (hv4 : v ≤ 4), 4 + 1 ≤ v + fu26 → ∀ (H : Heap) (locs : List Loc), PP G (mW G A th sm le (dgs (mB f n t (t + 1 + m9)) v (dtm (mB f n t) t m9 (mx dg ((f (11 + t)).toInt64)))) f sl ik sv tx q) H → va_D Ar (mW G A th sm le (dgs (mB f n t (t + 1 + m9)) v (dtm (mB f n t) t m9 (mx dg ((f (11 + t)).toInt64)))) f sl ik sv tx q) → va_S Ar s.heap H locs → ∀ ls : Array Slot, lv_has ls 4 [(0, .ref (A 0)), (1, .int (nI t)), (2, .int (nI (t + 1 + m9))), (3, .int (nI v))] → W pG l eG (RM 4 0 0) s mG ([.ref (A 0), .int (nI t)] : List Value).toArray below meth cG H locs 0 0 (MQ below (wQv G (S := Nat → Int32) (fun _ => True) (fun u => mW G A th sm le (dtm (mB f n t) t (5 - t) (mx dg ((f (11 + t)).toInt64))) f sl ik sv tx u) Ar) ([.ref (A 0), .int (nI t)] : List Value).toArray s 0 0 Ar) (F0 mG 26 ls []) := by
          intro fu26
          induction fu26 with
          | zero => intro v q hv4 hfu26; exact absurd hfu26 (by omega)
          | succ fu26 ih26 =>
            intro v q hv4 hfu26 H locs hP hD hS ls hl
            refine lv_iload_n hx hb dX7_digestTown_26 rfl (lv_at hl 3 rfl) ?_
            refine lv_iconst (v := nI 4) hx hb dX7_digestTown_27 (by decide) ?_
            refine lv_icmp_ge (tgt := 49) hx hb dX7_digestTown_28 (by decide) (fun c_28 => ?_) (fun c_28 => ?_)
            · have q1 : 4 ≤ v := fe c_28 (by omega) (by omega)
              refine lv_iinc (v := nI ((t + 1 + m9) + 1)) (lv' := [(2, .int (nI ((t + 1 + m9) + 1))), (0, .ref (A 0)), (1, .int (nI t)), (3, .int (nI v))]) hx hb dX7_digestTown_49 hl (k := 2) rfl (iincN (t + 1 + m9)) (by decide) rfl (fun ls hl => ?_)
              refine lv_goto (tgt := 18) hx hb dX7_digestTown_52 (by decide) ?_
              exact ih18 (m9 + 1) q (by omega) (by omega) _ _ (PP_as hP (by rw [show v = 4 by omega]; try rfl)) (D_as hD (by rw [show v = 4 by omega]; try rfl)) hS ls (lv_as (l1 := [(0, .ref (A 0)), (1, .int (nI t)), (2, .int (nI ((t + 1 + m9) + 1)))]) (lv_sub hl [1, 2, 0] rfl) (by rfl))
            · have q1 : v < 4 := fl c_28 (by omega) (by omega)
              refine lv_aload_n hx hb dX7_digestTown_31 rfl (lv_at hl 0 rfl) ?_
              refine lv_aload_n hx hb dX7_digestTown_32 rfl (lv_at hl 0 rfl) ?_
              refine lv_iload_n hx hb dX7_digestTown_33 rfl (lv_at hl 1 rfl) ?_
              refine lv_iload_n hx hb dX7_digestTown_34 rfl (lv_at hl 2 rfl) ?_
              refine lv_iload_n hx hb dX7_digestTown_35 rfl (lv_at hl 3 rfl) ?_
              refine wr_goi (pre := []) (mid := mW G A th sm le (dgs (mB f n t (t + 1 + m9)) v (dtm (mB f n t) t m9 (mx dg ((f (11 + t)).toInt64)))) f sl ik sv tx q) (suf := []) (va_runV (As := [.int (nI t), .int (nI (t + 1 + m9)), .int (nI v)]) (rest := [.ref (A 0)]) ⟨hx, hb, hml, hown, hts⟩ (c_X7_ofBoth l G _ A th sm le (dgs (mB f n t (t + 1 + m9)) v (dtm (mB f n t) t m9 (mx dg ((f (11 + t)).toInt64)))) f sl ik sv tx q n hn hn2 hv t (t + 1 + m9) (by omega) (by omega) (ht _ (by omega)) (ht _ (by omega)) v (by omega)) (cwV 3 hts gX7_digestTown_X7_ofBoth rfl rfl rfl (by decide +kernel) ⟨Nat.le_of_ble_eq_true rfl, Nat.le_of_ble_eq_true rfl⟩) (wV (pre := []) (mid := mW G A th sm le (dgs (mB f n t (t + 1 + m9)) v (dtm (mB f n t) t m9 (mx dg ((f (11 + t)).toInt64)))) f sl ik sv tx q) (suf := []) (va_recv (ws := mW G A th sm le (dgs (mB f n t (t + 1 + m9)) v (dtm (mB f n t) t m9 (mx dg ((f (11 + t)).toInt64)))) f sl ik sv tx q) hK hP (ci := 6) (q0 := 0) rfl rfl) hK hN hP hD) rfl rfl hl.1 rfl (lv_room (Nat.le_of_ble_eq_true rfl)) dX7_digestTown_36 ⟨Nat.le_of_ble_eq_true rfl, Nat.le_of_ble_eq_true rfl⟩) hP hD hS hA (fun r u_1 H locs hw hP9 hD9 hS => ?_)
              subst hw
              have hP : PP G (mW G A th sm le (dgs (mB f n t (t + 1 + m9)) v (dtm (mB f n t) t m9 (mx dg ((f (11 + t)).toInt64)))) f sl ik sv tx u_1) _ := hP9
              have hD : va_D Ar (mW G A th sm le (dgs (mB f n t (t + 1 + m9)) v (dtm (mB f n t) t m9 (mx dg ((f (11 + t)).toInt64)))) f sl ik sv tx u_1) := hD9
              refine lv_i2l (v := (obM f n (f (11 + t)) (f (11 + (t + 1 + m9))) v).toInt64) hx hb dX7_digestTown_39 rfl ?_
              refine wr_gov (pre := []) (mid := mW G A th sm le (dgs (mB f n t (t + 1 + m9)) v (dtm (mB f n t) t m9 (mx dg ((f (11 + t)).toInt64)))) f sl ik sv tx u_1) (suf := []) (va_runV (As := [.long ((obM f n (f (11 + t)) (f (11 + (t + 1 + m9))) v).toInt64)]) (rest := []) ⟨hx, hb, hml, hown, hts⟩ (c_X7_digestOne l G _ A th sm le (dgs (mB f n t (t + 1 + m9)) v (dtm (mB f n t) t m9 (mx dg ((f (11 + t)).toInt64)))) f sl ik sv tx u_1 ((obM f n (f (11 + t)) (f (11 + (t + 1 + m9))) v).toInt64)) (cwV 1 hts gX7_digestTown_X7_digestOne rfl rfl rfl (by decide +kernel) ⟨Nat.le_of_ble_eq_true rfl, Nat.le_of_ble_eq_true rfl⟩) (wV (pre := []) (mid := mW G A th sm le (dgs (mB f n t (t + 1 + m9)) v (dtm (mB f n t) t m9 (mx dg ((f (11 + t)).toInt64)))) f sl ik sv tx u_1) (suf := []) (va_recv (ws := mW G A th sm le (dgs (mB f n t (t + 1 + m9)) v (dtm (mB f n t) t m9 (mx dg ((f (11 + t)).toInt64)))) f sl ik sv tx u_1) hK hP (ci := 6) (q0 := 0) rfl rfl) hK hN hP hD) rfl rfl hl.1 rfl (lv_room (Nat.le_of_ble_eq_true rfl)) dX7_digestTown_40 ⟨Nat.le_of_ble_eq_true rfl, Nat.le_of_ble_eq_true rfl⟩) hP hD hS hA (fun _ H locs hw hP9 hD9 hS => ?_)
              have hP : PP G (mW G A th sm le (mx (dgs (mB f n t (t + 1 + m9)) v (dtm (mB f n t) t m9 (mx dg ((f (11 + t)).toInt64)))) ((obM f n (f (11 + t)) (f (11 + (t + 1 + m9))) v).toInt64)) f sl ik sv tx u_1) _ := hP9
              have hD : va_D Ar (mW G A th sm le (mx (dgs (mB f n t (t + 1 + m9)) v (dtm (mB f n t) t m9 (mx dg ((f (11 + t)).toInt64)))) ((obM f n (f (11 + t)) (f (11 + (t + 1 + m9))) v).toInt64)) f sl ik sv tx u_1) := hD9
              refine lv_iinc (v := nI (v + 1)) (lv' := [(3, .int (nI (v + 1))), (0, .ref (A 0)), (1, .int (nI t)), (2, .int (nI (t + 1 + m9)))]) hx hb dX7_digestTown_43 hl (k := 3) rfl (iincN v) (by decide) rfl (fun ls hl => ?_)
              refine lv_goto (tgt := 26) hx hb dX7_digestTown_46 (by decide) ?_
              exact ih26 (v + 1) u_1 (by omega) (by omega) _ _ hP hD hS ls (lv_as (l1 := [(0, .ref (A 0)), (1, .int (nI t)), (2, .int (nI (t + 1 + m9))), (3, .int (nI (v + 1)))]) (lv_sub hl [1, 2, 3, 0] rfl) (by rfl))
        exact L26 5 0 q (by omega) (by omega) _ _ hP hD hS ls (lv_as (l1 := [(0, .ref (A 0)), (1, .int (nI t)), (2, .int (nI (t + 1 + m9))), (3, .int (nI 0))]) (lv_sub hl [1, 2, 3, 0] rfl) (by rfl))
  exact L18 6 0 pl (by omega) (by omega) _ _ hP hD hS ls (lv_as (l1 := [(0, .ref (A 0)), (1, .int (nI t)), (2, .int (nI (t + 1)))]) (lv_sub hl [1, 2, 0] rfl) (by rfl))

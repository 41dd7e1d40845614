set_option maxHeartbeats 4000000 in
set_option maxRecDepth 100000 in
theorem c_X7_ofCrease (l : Launch) (G : GG) (sz : Nat) (A : Nat → Nat) (th sm le : Int32) (dg : Int64) (f sl ik sv tx pl : Nat → Int32) (n : Nat) (hn : f 17 = nI n) (hn2 : n ≤ 12) (hv : okA f) (k : Nat) (hk9 : k < 9) (v : Nat) (hv3 : v ≤ 3) : WRi l yX7_ofCrease wsX7_ofCrease 4 G [.ref (A 0), .int (nI k), .int (nI v)] (mW G A th sm le dg f sl ik sv tx pl) sz (S := Nat → Int32) (fun r _ => r = ocM f n k v) (fun u => mW G A th sm le dg f sl ik sv tx u) 0 0 := by
  refine wr_of (l := l) (y := yX7_ofCrease) (w := wsX7_ofCrease) (d := 4) (G := G) (As := [.ref (A 0), .int (nI k), .int (nI v)]) (sz := sz) (mc := 0) (ms := 0) (cc := cX7_ofCrease) (maxL := 3) (ret := (some .int)) (Qc := fun Ar => wQi G (S := Nat → Int32) (fun r _ => r = ocM f n k v) (fun u => mW G A th sm le dg f sl ik sv tx u) Ar) (by decide) rfl (Nat.le_of_ble_eq_true rfl) ?_
  intro pG eG s mG below meth cG hsz hx hb hr hml hts hown hlocks hnm hP hK hN Ar hD hA hS ls hl
  have hown : s.vm.findClass RX7 = some mG.cls := hown
  have hP : PP G (mW G A th sm le dg f sl ik sv tx pl) s.heap := hP
  have hD : va_D Ar (mW G A th sm le dg f sl ik sv tx pl) := hD
  have hl : lv_has ls 3 [(0, .ref (A 0)), (1, .int (nI k)), (2, .int (nI v))] := hl
  refine lv_iload_n hx hb dX7_ofCrease_0 rfl (lv_at hl 2 rfl) ?_
  refine lv_if_ne (tgt := 17) hx hb dX7_ofCrease_1 (by decide) (fun c_1 => ?_) (fun c_1 => ?_)
  · have c_1 : v ≠ 0 := nIn c_1
    refine lv_iload_n hx hb dX7_ofCrease_17 rfl (lv_at hl 2 rfl) ?_
    refine lv_iconst (v := nI 1) hx hb dX7_ofCrease_18 (by decide) ?_
    refine lv_icmp_ne (tgt := 33) hx hb dX7_ofCrease_19 (by decide) (fun c_19 => ?_) (fun c_19 => ?_)
    · have c_19 : v ≠ 1 := nIn c_19
      refine lv_iload_n hx hb dX7_ofCrease_33 rfl (lv_at hl 2 rfl) ?_
      refine lv_iconst (v := nI 2) hx hb dX7_ofCrease_34 (by decide) ?_
      refine lv_icmp_ne (tgt := 51) hx hb dX7_ofCrease_35 (by decide) (fun c_35 => ?_) (fun c_35 => ?_)
      · have c_35 : v ≠ 2 := nIn c_35
        refine lv_aload_n hx hb dX7_ofCrease_51 rfl (lv_at hl 0 rfl) ?_
        refine lv_iload_n hx hb dX7_ofCrease_52 rfl (lv_at hl 1 rfl) ?_
        refine wr_goi (pre := []) (mid := mW G A th sm le dg f sl ik sv tx pl) (suf := []) (va_runV (As := [.int (nI k)]) (rest := []) ⟨hx, hb, hml, hown, hts⟩ (c_X7_sure l G _ A th sm le dg f sl ik sv tx pl n hn hn2 hv (nI k)) (cwV 1 hts gX7_ofCrease_X7_sure rfl rfl rfl (by decide +kernel) ⟨Nat.le_of_ble_eq_true rfl, Nat.le_of_ble_eq_true rfl⟩) (wV (pre := []) (mid := mW G A th sm le dg f sl ik sv tx pl) (suf := []) (va_recv (ws := mW G A th sm le dg f sl ik sv tx pl) hK hP (ci := 6) (q0 := 0) rfl rfl) hK hN hP hD) rfl rfl hl.1 rfl (lv_room (Nat.le_of_ble_eq_true rfl)) dX7_ofCrease_53 ⟨Nat.le_of_ble_eq_true rfl, Nat.le_of_ble_eq_true rfl⟩) hP hD hS hA (fun r u_1 H locs hw hP9 hD9 hS => ?_)
        subst hw
        have hP : PP G (mW G A th sm le dg f sl ik sv tx u_1) _ := hP9
        have hD : va_D Ar (mW G A th sm le dg f sl ik sv tx u_1) := hD9
        exact wr_iret (G := G) (S := Nat → Int32) u_1 hx hb hr hlocks hP hD hS (Nat.le_of_ble_eq_true rfl) (Nat.le_of_ble_eq_true rfl) (by unfold ocM; rw [if_neg c_1, if_neg c_19, if_neg c_35]) dX7_ofCrease_56
      · have c_35 : v = 2 := nIe c_35 (by omega) (by omega)
        refine lv_aload_n hx hb dX7_ofCrease_38 rfl (lv_at hl 0 rfl) ?_
        refine va_get (D := G.1) (ws := mW G A th sm le dg f sl ik sv tx pl) (ci := 6) (v := .ref (A 1)) (C := RX7) (T := TX7) (N := 10) hx hb hts (fun _ h => List.mem_cons_of_mem _ (List.mem_append_right _ (h))) hown hK hP 0 rfl rfl 1 (by decide) (hts (.fieldLink RX7 7 "CreaseMapsModel" "s" "[I") (List.mem_of_getElem? (i := 1) rfl)) (fun _ h9 => h9) rfl dX7_ofCrease_39 ?_
        refine lv_iconst (v := nI 1) hx hb dX7_ofCrease_42 (by decide) ?_
        refine va_iald (D := G.1) (ws := mW G A th sm le dg f sl ik sv tx pl) hx hb hK hP 1 0 (n := 58) rfl rfl (by first | assumption | exact vp_in_nI (by omega) (by omega)) dX7_ofCrease_43 ?_
        refine lv_cgi (y := f 1) rfl ?_
        refine lv_iload_n hx hb dX7_ofCrease_44 rfl (lv_at hl 1 rfl) ?_
        refine lv_ishr hx hb dX7_ofCrease_45 ?_
        refine lv_iconst (v := nI 1) hx hb dX7_ofCrease_46 (by decide) ?_
        refine lv_iand hx hb dX7_ofCrease_47 ?_
        refine lv_goto (tgt := 56) hx hb dX7_ofCrease_48 (by decide) ?_
        exact wr_iret (G := G) (S := Nat → Int32) pl hx hb hr hlocks hP hD hS (Nat.le_of_ble_eq_true rfl) (Nat.le_of_ble_eq_true rfl) (by unfold ocM; rw [if_neg c_1, if_neg c_19, if_pos c_35]) dX7_ofCrease_56
    · have c_19 : v = 1 := nIe c_19 (by omega) (by omega)
      refine lv_aload_n hx hb dX7_ofCrease_22 rfl (lv_at hl 0 rfl) ?_
      refine va_get (D := G.1) (ws := mW G A th sm le dg f sl ik sv tx pl) (ci := 6) (v := .ref (A 1)) (C := RX7) (T := TX7) (N := 10) hx hb hts (fun _ h => List.mem_cons_of_mem _ (List.mem_append_right _ (h))) hown hK hP 0 rfl rfl 1 (by decide) (hts (.fieldLink RX7 7 "CreaseMapsModel" "s" "[I") (List.mem_of_getElem? (i := 1) rfl)) (fun _ h9 => h9) rfl dX7_ofCrease_23 ?_
      refine lv_iconst (v := nI 2) hx hb dX7_ofCrease_26 (by decide) ?_
      refine lv_iload_n hx hb dX7_ofCrease_27 rfl (lv_at hl 1 rfl) ?_
      refine lv_iadd hx hb dX7_ofCrease_28 ?_
      refine lv_cgi (y := nI (2 + k)) (nI_add _ _) ?_
      refine va_iald (D := G.1) (ws := mW G A th sm le dg f sl ik sv tx pl) hx hb hK hP 1 0 (n := 58) rfl rfl (by first | assumption | exact vp_in_nI (by omega) (by omega)) dX7_ofCrease_29 ?_
      refine lv_cgi (y := f (2 + k)) (by rw [nI_clamp (by omega)]) ?_
      refine lv_goto (tgt := 56) hx hb dX7_ofCrease_30 (by decide) ?_
      exact wr_iret (G := G) (S := Nat → Int32) pl hx hb hr hlocks hP hD hS (Nat.le_of_ble_eq_true rfl) (Nat.le_of_ble_eq_true rfl) (by unfold ocM; rw [if_neg c_1, if_pos c_19]) dX7_ofCrease_56
  · have c_1 : v = 0 := nIe c_1 (by omega) (by omega)
    refine lv_aload_n hx hb dX7_ofCrease_4 rfl (lv_at hl 0 rfl) ?_
    refine va_get (D := G.1) (ws := mW G A th sm le dg f sl ik sv tx pl) (ci := 6) (v := .ref (A 1)) (C := RX7) (T := TX7) (N := 10) hx hb hts (fun _ h => List.mem_cons_of_mem _ (List.mem_append_right _ (h))) hown hK hP 0 rfl rfl 1 (by decide) (hts (.fieldLink RX7 7 "CreaseMapsModel" "s" "[I") (List.mem_of_getElem? (i := 1) rfl)) (fun _ h9 => h9) rfl dX7_ofCrease_5 ?_
    refine lv_iconst (v := nI 0) hx hb dX7_ofCrease_8 (by decide) ?_
    refine va_iald (D := G.1) (ws := mW G A th sm le dg f sl ik sv tx pl) hx hb hK hP 1 0 (n := 58) rfl rfl (by first | assumption | exact vp_in_nI (by omega) (by omega)) dX7_ofCrease_9 ?_
    refine lv_cgi (y := f 0) rfl ?_
    refine lv_iload_n hx hb dX7_ofCrease_10 rfl (lv_at hl 1 rfl) ?_
    refine lv_ishr hx hb dX7_ofCrease_11 ?_
    refine lv_iconst (v := nI 1) hx hb dX7_ofCrease_12 (by decide) ?_
    refine lv_iand hx hb dX7_ofCrease_13 ?_
    refine lv_goto (tgt := 56) hx hb dX7_ofCrease_14 (by decide) ?_
    exact wr_iret (G := G) (S := Nat → Int32) pl hx hb hr hlocks hP hD hS (Nat.le_of_ble_eq_true rfl) (Nat.le_of_ble_eq_true rfl) (by unfold ocM; rw [if_pos c_1]) dX7_ofCrease_56

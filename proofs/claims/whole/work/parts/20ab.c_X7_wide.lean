set_option maxHeartbeats 4000000 in
set_option maxRecDepth 100000 in
theorem c_X7_wide (l : Launch) (G : GG) (sz : Nat) (A : Nat → Nat) (th sm le : Int32) (dg : Int64) (f sl ik sv tx pl : Nat → Int32) : WRi l yX7_wide wsX7_wide 2 G [.ref (A 0)] (mW G A th sm le dg f sl ik sv tx pl) sz (S := Nat → Int32) (fun r _ => r = widM f) (fun u => mW G A th sm le dg f sl ik sv tx u) 0 0 := by
  refine wr_of (l := l) (y := yX7_wide) (w := wsX7_wide) (d := 2) (G := G) (As := [.ref (A 0)]) (sz := sz) (mc := 0) (ms := 0) (cc := cX7_wide) (maxL := 4) (ret := (some .int)) (Qc := fun Ar => wQi G (S := Nat → Int32) (fun r _ => r = widM f) (fun u => mW G A th sm le dg f sl ik sv tx u) Ar) (by decide) rfl (Nat.le_of_ble_eq_true rfl) ?_
  intro pG eG s mG below meth cG hsz hx hb hr hml hts hown hlocks hnm hP hK hN Ar hD hA hS ls hl
  have hown : s.vm.findClass RX7 = some mG.cls := hown
  have hP : PP G (mW G A th sm le dg f sl ik sv tx pl) s.heap := hP
  have hD : va_D Ar (mW G A th sm le dg f sl ik sv tx pl) := hD
  have hl : lv_has ls 4 [(0, .ref (A 0))] := hl
  refine lv_aload_n hx hb dX7_wide_0 rfl (lv_at hl 0 rfl) ?_
  refine lv_aload_n hx hb dX7_wide_1 rfl (lv_at hl 0 rfl) ?_
  refine va_get (D := G.1) (ws := mW G A th sm le dg f sl ik sv tx pl) (ci := 6) (v := .ref (A 1)) (C := RX7) (T := TX7) (N := 10) hx hb hts (fun _ h => List.mem_cons_of_mem _ (List.mem_append_right _ (h))) hown hK hP 0 rfl rfl 1 (by decide) (hts (.fieldLink RX7 7 "CreaseMapsModel" "s" "[I") (List.mem_of_getElem? (i := 1) rfl)) (fun _ h9 => h9) rfl dX7_wide_2 ?_
  refine lv_iconst (v := nI 0) hx hb dX7_wide_5 (by decide) ?_
  refine va_iald (D := G.1) (ws := mW G A th sm le dg f sl ik sv tx pl) hx hb hK hP 1 0 (n := 58) rfl rfl (by first | assumption | exact vp_in_nI (by omega) (by omega)) dX7_wide_6 ?_
  refine lv_cgi (y := f 0) rfl ?_
  refine wr_gov (pre := []) (mid := mW G A th sm le dg f sl ik sv tx pl) (suf := []) (va_runV (As := [.int (f 0)]) (rest := []) ⟨hx, hb, hml, hown, hts⟩ (c_X7_lay l G _ A th sm le dg f sl ik sv tx pl (f 0)) (cwV 1 hts gX7_wide_X7_lay rfl rfl rfl (by decide +kernel) ⟨Nat.le_of_ble_eq_true rfl, Nat.le_of_ble_eq_true rfl⟩) (wV (pre := []) (mid := mW G A th sm le dg f sl ik sv tx pl) (suf := []) (va_recv (ws := mW G A th sm le dg f sl ik sv tx pl) hK hP (ci := 6) (q0 := 0) rfl rfl) hK hN hP hD) rfl rfl hl.1 rfl (lv_room (Nat.le_of_ble_eq_true rfl)) dX7_wide_7 ⟨Nat.le_of_ble_eq_true rfl, Nat.le_of_ble_eq_true rfl⟩) hP hD hS hA (fun u_1 H locs hw hP9 hD9 hS => ?_)
  have hu_1 : ∀ j, j < 10 → u_1 j = (pw (f 0) j).1 := hw
  have hP : PP G (mW G A th sm le dg f sl ik sv tx u_1) _ := hP9
  have hD : va_D Ar (mW G A th sm le dg f sl ik sv tx u_1) := hD9
  refine lv_iconst (v := nI 0) hx hb dX7_wide_10 (by decide) ?_
  refine lv_istore_n (lv' := [(1, .int (nI 0)), (0, .ref (A 0))]) hx hb dX7_wide_11 rfl hl (by decide) rfl (fun ls hl => ?_)
  refine lv_iconst (v := nI 0) hx hb dX7_wide_12 (by decide) ?_
  refine lv_istore_n (lv' := [(2, .int (nI 0)), (1, .int (nI 0)), (0, .ref (A 0))]) hx hb dX7_wide_13 rfl hl (by decide) rfl (fun ls hl => ?_)
  refine lv_iconst (v := nI 0) hx hb dX7_wide_14 (by decide) ?_
  refine lv_istore_n (lv' := [(3, .int (nI 0)), (2, .int (nI 0)), (1, .int (nI 0)), (0, .ref (A 0))]) hx hb dX7_wide_15 rfl hl (by decide) rfl (fun ls hl => ?_)
  have L16 : ∀ (fu : Nat) (k : Nat) (hk : k ≤ 10), 10 + 1 ≤ k + fu → ∀ (H : Heap) (locs : List Loc), PP G (mW G A th sm le dg f sl ik sv tx u_1) H → va_D Ar (mW G A th sm le dg f sl ik sv tx u_1) → va_S Ar s.heap H locs → ∀ ls : Array Slot, lv_has ls 4 [(0, .ref (A 0)), (1, .int ((wd (f 0) k).1)), (2, .int ((wd (f 0) k).2)), (3, .int (nI k))] → W pG l eG (RM 2 0 0) s mG ([.ref (A 0)] : List Value).toArray below meth cG H locs 0 0 (MQ below (wQi G (S := Nat → Int32) (fun r _ => r = widM f) (fun u => mW G A th sm le dg f sl ik sv tx u) Ar) ([.ref (A 0)] : List Value).toArray s 0 0 Ar) (F0 mG 16 ls []) := by
    intro fu
    induction fu with
    | zero => intro k hk hfu; exact absurd hfu (by omega)
    | succ fu ih =>
      intro k hk hfu H locs hP hD hS ls hl
      refine lv_iload_n hx hb dX7_wide_16 rfl (lv_at hl 3 rfl) ?_
      refine lv_bipush (v := nI 10) hx hb dX7_wide_17 (by decide) ?_
      refine lv_icmp_ge (tgt := 70) hx hb dX7_wide_19 (by decide) (fun c_19 => ?_) (fun c_19 => ?_)
      · have q1 : 10 ≤ k := fe c_19 (by omega) (by omega)
        refine lv_iload_n hx hb dX7_wide_70 rfl (lv_at hl 2 rfl) ?_
        refine lv_iload_n hx hb dX7_wide_71 rfl (lv_at hl 1 rfl) ?_
        refine lv_isub hx hb dX7_wide_72 ?_
        refine lv_iconst (v := nI 1) hx hb dX7_wide_73 (by decide) ?_
        refine lv_iadd hx hb dX7_wide_74 ?_
        exact wr_iret (G := G) (S := Nat → Int32) u_1 hx hb hr hlocks hP hD hS (Nat.le_of_ble_eq_true rfl) (Nat.le_of_ble_eq_true rfl) (by unfold widM; rw [show k = 10 by omega]) dX7_wide_75
      · have q1 : k < 10 := fl c_19 (by omega) (by omega)
        refine lv_aload_n hx hb dX7_wide_22 rfl (lv_at hl 0 rfl) ?_
        refine va_get (D := G.1) (ws := mW G A th sm le dg f sl ik sv tx u_1) (ci := 6) (v := .ref (A 6)) (C := RX7) (T := TX7) (N := 10) hx hb hts (fun _ h => List.mem_cons_of_mem _ (List.mem_append_right _ (h))) hown hK hP 0 rfl rfl 8 (by decide) (hts (.fieldLink RX7 26 "CreaseMapsModel" "place" "[I") (List.mem_of_getElem? (i := 2) rfl)) (fun _ h9 => h9) rfl dX7_wide_23 ?_
        refine lv_iload_n hx hb dX7_wide_26 rfl (lv_at hl 3 rfl) ?_
        refine va_iald (D := G.1) (ws := mW G A th sm le dg f sl ik sv tx u_1) hx hb hK hP 6 0 (n := 10) rfl rfl (by first | assumption | exact vp_in_nI (by omega) (by omega)) dX7_wide_27 ?_
        refine lv_cgi (y := u_1 k) (by rw [nI_clamp (by omega)]) ?_
        refine lv_cgi (y := (pw (f 0) k).1) (hu_1 _ (by omega)) ?_
        refine lv_iload_n hx hb dX7_wide_28 rfl (lv_at hl 1 rfl) ?_
        refine lv_icmp_ge (tgt := 41) hx hb dX7_wide_29 (by decide) (fun c_29 => ?_) (fun c_29 => ?_)
        · have c_29 := Int32.not_lt.mpr c_29
          refine lv_iload_n hx hb dX7_wide_41 rfl (lv_at hl 1 rfl) ?_
          refine lv_istore_n (lv' := [(1, .int ((wd (f 0) k).1)), (0, .ref (A 0)), (2, .int ((wd (f 0) k).2)), (3, .int (nI k))]) hx hb dX7_wide_42 rfl hl (by decide) rfl (fun ls hl => ?_)
          refine lv_aload_n hx hb dX7_wide_43 rfl (lv_at hl 1 rfl) ?_
          refine va_get (D := G.1) (ws := mW G A th sm le dg f sl ik sv tx u_1) (ci := 6) (v := .ref (A 6)) (C := RX7) (T := TX7) (N := 10) hx hb hts (fun _ h => List.mem_cons_of_mem _ (List.mem_append_right _ (h))) hown hK hP 0 rfl rfl 8 (by decide) (hts (.fieldLink RX7 26 "CreaseMapsModel" "place" "[I") (List.mem_of_getElem? (i := 2) rfl)) (fun _ h9 => h9) rfl dX7_wide_44 ?_
          refine lv_iload_n hx hb dX7_wide_47 rfl (lv_at hl 3 rfl) ?_
          refine va_iald (D := G.1) (ws := mW G A th sm le dg f sl ik sv tx u_1) hx hb hK hP 6 0 (n := 10) rfl rfl (by first | assumption | exact vp_in_nI (by omega) (by omega)) dX7_wide_48 ?_
          refine lv_cgi (y := u_1 k) (by rw [nI_clamp (by omega)]) ?_
          refine lv_cgi (y := (pw (f 0) k).1) (hu_1 _ (by omega)) ?_
          refine lv_iload_n hx hb dX7_wide_49 rfl (lv_at hl 2 rfl) ?_
          refine lv_icmp_le (tgt := 62) hx hb dX7_wide_50 (by decide) (fun c_50 => ?_) (fun c_50 => ?_)
          · have c_50 := Int32.not_lt.mpr c_50
            refine lv_iload_n hx hb dX7_wide_62 rfl (lv_at hl 2 rfl) ?_
            refine lv_istore_n (lv' := [(2, .int ((wd (f 0) k).2)), (1, .int ((wd (f 0) k).1)), (0, .ref (A 0)), (3, .int (nI k))]) hx hb dX7_wide_63 rfl hl (by decide) rfl (fun ls hl => ?_)
            refine lv_iinc (v := nI (k + 1)) (lv' := [(3, .int (nI (k + 1))), (2, .int ((wd (f 0) k).2)), (1, .int ((wd (f 0) k).1)), (0, .ref (A 0))]) hx hb dX7_wide_64 hl (k := 3) rfl (iincN k) (by decide) rfl (fun ls hl => ?_)
            refine lv_goto (tgt := 16) hx hb dX7_wide_67 (by decide) ?_
            exact ih (k + 1) (by omega) (by omega) _ _ hP hD hS ls (lv_as (l1 := [(0, .ref (A 0)), (1, .int ((wd (f 0) k).1)), (2, .int ((wd (f 0) k).2)), (3, .int (nI (k + 1)))]) (lv_sub hl [3, 2, 1, 0] rfl) (by rw [wd]; unfold mnI mxI; simp only [if_pos, if_neg, c_29, c_50, not_false_eq_true, if_true, if_false, ↓reduceIte]))
          · have c_50 := Int32.not_le.mp c_50
            refine lv_aload_n hx hb dX7_wide_53 rfl (lv_at hl 1 rfl) ?_
            refine va_get (D := G.1) (ws := mW G A th sm le dg f sl ik sv tx u_1) (ci := 6) (v := .ref (A 6)) (C := RX7) (T := TX7) (N := 10) hx hb hts (fun _ h => List.mem_cons_of_mem _ (List.mem_append_right _ (h))) hown hK hP 0 rfl rfl 8 (by decide) (hts (.fieldLink RX7 26 "CreaseMapsModel" "place" "[I") (List.mem_of_getElem? (i := 2) rfl)) (fun _ h9 => h9) rfl dX7_wide_54 ?_
            refine lv_iload_n hx hb dX7_wide_57 rfl (lv_at hl 3 rfl) ?_
            refine va_iald (D := G.1) (ws := mW G A th sm le dg f sl ik sv tx u_1) hx hb hK hP 6 0 (n := 10) rfl rfl (by first | assumption | exact vp_in_nI (by omega) (by omega)) dX7_wide_58 ?_
            refine lv_cgi (y := u_1 k) (by rw [nI_clamp (by omega)]) ?_
            refine lv_cgi (y := (pw (f 0) k).1) (hu_1 _ (by omega)) ?_
            refine lv_goto (tgt := 63) hx hb dX7_wide_59 (by decide) ?_
            refine lv_istore_n (lv' := [(2, .int ((pw (f 0) k).1)), (1, .int ((wd (f 0) k).1)), (0, .ref (A 0)), (3, .int (nI k))]) hx hb dX7_wide_63 rfl hl (by decide) rfl (fun ls hl => ?_)
            refine lv_iinc (v := nI (k + 1)) (lv' := [(3, .int (nI (k + 1))), (2, .int ((pw (f 0) k).1)), (1, .int ((wd (f 0) k).1)), (0, .ref (A 0))]) hx hb dX7_wide_64 hl (k := 3) rfl (iincN k) (by decide) rfl (fun ls hl => ?_)
            refine lv_goto (tgt := 16) hx hb dX7_wide_67 (by decide) ?_
            exact ih (k + 1) (by omega) (by omega) _ _ hP hD hS ls (lv_as (l1 := [(0, .ref (A 0)), (1, .int ((wd (f 0) k).1)), (2, .int ((pw (f 0) k).1)), (3, .int (nI (k + 1)))]) (lv_sub hl [3, 2, 1, 0] rfl) (by rw [wd]; unfold mnI mxI; simp only [if_pos, if_neg, c_29, c_50, not_false_eq_true, if_true, if_false, ↓reduceIte]))
        · have c_29 := Int32.not_le.mp c_29
          refine lv_aload_n hx hb dX7_wide_32 rfl (lv_at hl 0 rfl) ?_
          refine va_get (D := G.1) (ws := mW G A th sm le dg f sl ik sv tx u_1) (ci := 6) (v := .ref (A 6)) (C := RX7) (T := TX7) (N := 10) hx hb hts (fun _ h => List.mem_cons_of_mem _ (List.mem_append_right _ (h))) hown hK hP 0 rfl rfl 8 (by decide) (hts (.fieldLink RX7 26 "CreaseMapsModel" "place" "[I") (List.mem_of_getElem? (i := 2) rfl)) (fun _ h9 => h9) rfl dX7_wide_33 ?_
          refine lv_iload_n hx hb dX7_wide_36 rfl (lv_at hl 3 rfl) ?_
          refine va_iald (D := G.1) (ws := mW G A th sm le dg f sl ik sv tx u_1) hx hb hK hP 6 0 (n := 10) rfl rfl (by first | assumption | exact vp_in_nI (by omega) (by omega)) dX7_wide_37 ?_
          refine lv_cgi (y := u_1 k) (by rw [nI_clamp (by omega)]) ?_
          refine lv_cgi (y := (pw (f 0) k).1) (hu_1 _ (by omega)) ?_
          refine lv_goto (tgt := 42) hx hb dX7_wide_38 (by decide) ?_
          refine lv_istore_n (lv' := [(1, .int ((pw (f 0) k).1)), (0, .ref (A 0)), (2, .int ((wd (f 0) k).2)), (3, .int (nI k))]) hx hb dX7_wide_42 rfl hl (by decide) rfl (fun ls hl => ?_)
          refine lv_aload_n hx hb dX7_wide_43 rfl (lv_at hl 1 rfl) ?_
          refine va_get (D := G.1) (ws := mW G A th sm le dg f sl ik sv tx u_1) (ci := 6) (v := .ref (A 6)) (C := RX7) (T := TX7) (N := 10) hx hb hts (fun _ h => List.mem_cons_of_mem _ (List.mem_append_right _ (h))) hown hK hP 0 rfl rfl 8 (by decide) (hts (.fieldLink RX7 26 "CreaseMapsModel" "place" "[I") (List.mem_of_getElem? (i := 2) rfl)) (fun _ h9 => h9) rfl dX7_wide_44 ?_
          refine lv_iload_n hx hb dX7_wide_47 rfl (lv_at hl 3 rfl) ?_
          refine va_iald (D := G.1) (ws := mW G A th sm le dg f sl ik sv tx u_1) hx hb hK hP 6 0 (n := 10) rfl rfl (by first | assumption | exact vp_in_nI (by omega) (by omega)) dX7_wide_48 ?_
          refine lv_cgi (y := u_1 k) (by rw [nI_clamp (by omega)]) ?_
          refine lv_cgi (y := (pw (f 0) k).1) (hu_1 _ (by omega)) ?_
          refine lv_iload_n hx hb dX7_wide_49 rfl (lv_at hl 2 rfl) ?_
          refine lv_icmp_le (tgt := 62) hx hb dX7_wide_50 (by decide) (fun c_50 => ?_) (fun c_50 => ?_)
          · have c_50 := Int32.not_lt.mpr c_50
            refine lv_iload_n hx hb dX7_wide_62 rfl (lv_at hl 2 rfl) ?_
            refine lv_istore_n (lv' := [(2, .int ((wd (f 0) k).2)), (1, .int ((pw (f 0) k).1)), (0, .ref (A 0)), (3, .int (nI k))]) hx hb dX7_wide_63 rfl hl (by decide) rfl (fun ls hl => ?_)
            refine lv_iinc (v := nI (k + 1)) (lv' := [(3, .int (nI (k + 1))), (2, .int ((wd (f 0) k).2)), (1, .int ((pw (f 0) k).1)), (0, .ref (A 0))]) hx hb dX7_wide_64 hl (k := 3) rfl (iincN k) (by decide) rfl (fun ls hl => ?_)
            refine lv_goto (tgt := 16) hx hb dX7_wide_67 (by decide) ?_
            exact ih (k + 1) (by omega) (by omega) _ _ hP hD hS ls (lv_as (l1 := [(0, .ref (A 0)), (1, .int ((pw (f 0) k).1)), (2, .int ((wd (f 0) k).2)), (3, .int (nI (k + 1)))]) (lv_sub hl [3, 2, 1, 0] rfl) (by rw [wd]; unfold mnI mxI; simp only [if_pos, if_neg, c_29, c_50, not_false_eq_true, if_true, if_false, ↓reduceIte]))
          · have c_50 := Int32.not_le.mp c_50
            refine lv_aload_n hx hb dX7_wide_53 rfl (lv_at hl 1 rfl) ?_
            refine va_get (D := G.1) (ws := mW G A th sm le dg f sl ik sv tx u_1) (ci := 6) (v := .ref (A 6)) (C := RX7) (T := TX7) (N := 10) hx hb hts (fun _ h => List.mem_cons_of_mem _ (List.mem_append_right _ (h))) hown hK hP 0 rfl rfl 8 (by decide) (hts (.fieldLink RX7 26 "CreaseMapsModel" "place" "[I") (List.mem_of_getElem? (i := 2) rfl)) (fun _ h9 => h9) rfl dX7_wide_54 ?_
            refine lv_iload_n hx hb dX7_wide_57 rfl (lv_at hl 3 rfl) ?_
            refine va_iald (D := G.1) (ws := mW G A th sm le dg f sl ik sv tx u_1) hx hb hK hP 6 0 (n := 10) rfl rfl (by first | assumption | exact vp_in_nI (by omega) (by omega)) dX7_wide_58 ?_
            refine lv_cgi (y := u_1 k) (by rw [nI_clamp (by omega)]) ?_
            refine lv_cgi (y := (pw (f 0) k).1) (hu_1 _ (by omega)) ?_
            refine lv_goto (tgt := 63) hx hb dX7_wide_59 (by decide) ?_
            refine lv_istore_n (lv' := [(2, .int ((pw (f 0) k).1)), (1, .int ((pw (f 0) k).1)), (0, .ref (A 0)), (3, .int (nI k))]) hx hb dX7_wide_63 rfl hl (by decide) rfl (fun ls hl => ?_)
            refine lv_iinc (v := nI (k + 1)) (lv' := [(3, .int (nI (k + 1))), (2, .int ((pw (f 0) k).1)), (1, .int ((pw (f 0) k).1)), (0, .ref (A 0))]) hx hb dX7_wide_64 hl (k := 3) rfl (iincN k) (by decide) rfl (fun ls hl => ?_)
            refine lv_goto (tgt := 16) hx hb dX7_wide_67 (by decide) ?_
            exact ih (k + 1) (by omega) (by omega) _ _ hP hD hS ls (lv_as (l1 := [(0, .ref (A 0)), (1, .int ((pw (f 0) k).1)), (2, .int ((pw (f 0) k).1)), (3, .int (nI (k + 1)))]) (lv_sub hl [3, 2, 1, 0] rfl) (by rw [wd]; unfold mnI mxI; simp only [if_pos, if_neg, c_29, c_50, not_false_eq_true, if_true, if_false, ↓reduceIte]))
  exact L16 11 0 (by omega) (by omega) _ _ hP hD hS ls (lv_as (l1 := [(0, .ref (A 0)), (1, .int (nI 0)), (2, .int (nI 0)), (3, .int (nI 0))]) (lv_sub hl [3, 2, 1, 0] rfl) (by rfl))

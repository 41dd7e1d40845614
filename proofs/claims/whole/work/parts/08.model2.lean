set_option maxHeartbeats 4000000 in
set_option maxRecDepth 100000 in
theorem c_X7_folds (l : Launch) (G : GG) (sz : Nat) (A : Nat → Nat) (th sm le : Int32) (dg : Int64) (f sl ik sv tx pl : Nat → Int32) (c : Nat) (hc : c < 9) : WRi l yX7_folds wsX7_folds 2 G [.ref (A 0), .int (nI c)] (mW G A th sm le dg f sl ik sv tx pl) sz (S := Unit) (fun r _ => r = foldR f c) (fun _ => mW G A th sm le dg (foldF f c) sl ik sv tx pl) 0 0 := by
  refine wr_of (cc := cX7_folds) (maxL := 3) (ret := (some .int)) (Qc := fun Ar => wQi G (S := Unit) (fun r _ => r = foldR f c) (fun _ => mW G A th sm le dg (foldF f c) sl ik sv tx pl) Ar) (by decide) rfl (Nat.le_of_ble_eq_true rfl) ?_
  intro pG eG s mG below meth cG hsz hx hb hr hml hts hown hlocks hnm hP hK hN Ar hD hA hS ls hl
  have hown : s.vm.findClass RX7 = some mG.cls := hown
  have hP : PP G (mW G A th sm le dg f sl ik sv tx pl) s.heap := hP
  have hD : va_D Ar (mW G A th sm le dg f sl ik sv tx pl) := hD
  have hl : lv_has ls 3 [(0, .ref (A 0)), (1, .int (nI c))] := hl
  refine lv_aload_n hx hb dX7_folds_0 rfl (lv_at hl 0 rfl) ?_
  refine va_get (D := G.1) (ws := mW G A th sm le dg f sl ik sv tx pl) (ci := 6) (v := .ref (A 1)) (C := RX7) (T := TX7) (N := 10) hx hb hts (fun _ h => List.mem_cons_of_mem _ (List.mem_append_right _ (h))) hown hK hP 0 rfl rfl 1 (by decide) (hts (.fieldLink RX7 7 "CreaseMapsModel" "s" "[I") (List.mem_of_getElem? (i := 1) rfl)) (fun _ h9 => h9) rfl dX7_folds_1 ?_
  refine lv_iconst (v := nI 1) hx hb dX7_folds_4 (by decide) ?_
  refine va_iald (D := G.1) (ws := mW G A th sm le dg f sl ik sv tx pl) hx hb hK hP 1 0 (n := 58) rfl rfl (by first | assumption | exact vp_in_nI (by omega) (by omega)) dX7_folds_5 ?_
  refine lv_cgi (y := f 1) rfl ?_
  refine lv_iload_n hx hb dX7_folds_6 rfl (lv_at hl 1 rfl) ?_
  refine lv_ishr hx hb dX7_folds_7 ?_
  refine lv_iconst (v := nI 1) hx hb dX7_folds_8 (by decide) ?_
  refine lv_iand hx hb dX7_folds_9 ?_
  refine lv_iconst (v := nI 1) hx hb dX7_folds_10 (by decide) ?_
  refine lv_icmp_ne (tgt := 27) hx hb dX7_folds_11 (by decide) (fun c_11 => ?_) (fun c_11 => ?_)
  · have c_11 : ¬ torn f c := c_11
    refine lv_aload_n hx hb dX7_folds_27 rfl (lv_at hl 0 rfl) ?_
    refine va_get (D := G.1) (ws := mW G A th sm le dg f sl ik sv tx pl) (ci := 6) (v := .ref (A 1)) (C := RX7) (T := TX7) (N := 10) hx hb hts (fun _ h => List.mem_cons_of_mem _ (List.mem_append_right _ (h))) hown hK hP 0 rfl rfl 1 (by decide) (hts (.fieldLink RX7 7 "CreaseMapsModel" "s" "[I") (List.mem_of_getElem? (i := 1) rfl)) (fun _ h9 => h9) rfl dX7_folds_28 ?_
    refine lv_iconst (v := nI 0) hx hb dX7_folds_31 (by decide) ?_
    refine lv_dup2_11 hx hb dX7_folds_32 rfl rfl ?_
    refine va_iald (D := G.1) (ws := mW G A th sm le dg f sl ik sv tx pl) hx hb hK hP 1 0 (n := 58) rfl rfl (by first | assumption | exact vp_in_nI (by omega) (by omega)) dX7_folds_33 ?_
    refine lv_cgi (y := f 0) rfl ?_
    refine lv_iconst (v := nI 1) hx hb dX7_folds_34 (by decide) ?_
    refine lv_iload_n hx hb dX7_folds_35 rfl (lv_at hl 1 rfl) ?_
    refine lv_ishl hx hb dX7_folds_36 ?_
    refine lv_ixor hx hb dX7_folds_37 ?_
    refine va_iast (D := G.1) (ws := mW G A th sm le dg f sl ik sv tx pl) hx hb hK hP hD hS 1 0 (n := 58) rfl rfl (by first | assumption | exact vp_in_nI (by omega) (by omega)) dX7_folds_38 (fun H locs hP hD hS => ?_)
    have hP : PP G (mW G A th sm le dg (upd f 0 ((f 0) ^^^ ((nI 1) <<< ((nI c) &&& 31)))) sl ik sv tx pl) H := hP
    have hD : va_D Ar (mW G A th sm le dg (upd f 0 ((f 0) ^^^ ((nI 1) <<< ((nI c) &&& 31)))) sl ik sv tx pl) := hD
    refine lv_aload_n hx hb dX7_folds_39 rfl (lv_at hl 0 rfl) ?_
    refine va_get (D := G.1) (ws := mW G A th sm le dg (upd f 0 ((f 0) ^^^ ((nI 1) <<< ((nI c) &&& 31)))) sl ik sv tx pl) (ci := 6) (v := .ref (A 1)) (C := RX7) (T := TX7) (N := 10) hx hb hts (fun _ h => List.mem_cons_of_mem _ (List.mem_append_right _ (h))) hown hK hP 0 rfl rfl 1 (by decide) (hts (.fieldLink RX7 7 "CreaseMapsModel" "s" "[I") (List.mem_of_getElem? (i := 1) rfl)) (fun _ h9 => h9) rfl dX7_folds_40 ?_
    refine lv_iconst (v := nI 2) hx hb dX7_folds_43 (by decide) ?_
    refine lv_iload_n hx hb dX7_folds_44 rfl (lv_at hl 1 rfl) ?_
    refine lv_iadd hx hb dX7_folds_45 ?_
    refine lv_cgi (y := nI (2 + c)) (nI_add _ _) ?_
    refine lv_dup2_11 hx hb dX7_folds_46 rfl rfl ?_
    refine va_iald (D := G.1) (ws := mW G A th sm le dg (upd f 0 ((f 0) ^^^ ((nI 1) <<< ((nI c) &&& 31)))) sl ik sv tx pl) hx hb hK hP 1 0 (n := 58) rfl rfl (by first | assumption | exact vp_in_nI (by omega) (by omega)) dX7_folds_47 ?_
    refine lv_cgi (y := (upd f 0 ((f 0) ^^^ ((nI 1) <<< ((nI c) &&& 31)))) (2 + c)) (by rw [nI_clamp (by omega)]) ?_
    refine lv_iconst (v := nI 1) hx hb dX7_folds_48 (by decide) ?_
    refine lv_iadd hx hb dX7_folds_49 ?_
    refine va_iast (D := G.1) (ws := mW G A th sm le dg (upd f 0 ((f 0) ^^^ ((nI 1) <<< ((nI c) &&& 31)))) sl ik sv tx pl) hx hb hK hP hD hS 1 0 (n := 58) rfl rfl (by first | assumption | exact vp_in_nI (by omega) (by omega)) dX7_folds_50 (fun H locs hP hD hS => ?_)
    rw [nI_clamp (by omega)] at hP hD
    have hP : PP G (mW G A th sm le dg (upd (upd f 0 ((f 0) ^^^ ((nI 1) <<< ((nI c) &&& 31)))) (2 + c) (((upd f 0 ((f 0) ^^^ ((nI 1) <<< ((nI c) &&& 31)))) (2 + c)) + (nI 1))) sl ik sv tx pl) H := hP
    have hD : va_D Ar (mW G A th sm le dg (upd (upd f 0 ((f 0) ^^^ ((nI 1) <<< ((nI c) &&& 31)))) (2 + c) (((upd f 0 ((f 0) ^^^ ((nI 1) <<< ((nI c) &&& 31)))) (2 + c)) + (nI 1))) sl ik sv tx pl) := hD
    refine lv_aload_n hx hb dX7_folds_51 rfl (lv_at hl 0 rfl) ?_
    refine wr_goi (pre := []) (mid := mW G A th sm le dg (upd (upd f 0 ((f 0) ^^^ ((nI 1) <<< ((nI c) &&& 31)))) (2 + c) (((upd f 0 ((f 0) ^^^ ((nI 1) <<< ((nI c) &&& 31)))) (2 + c)) + (nI 1))) sl ik sv tx pl) (suf := []) (va_runV (As := []) (rest := []) ⟨hx, hb, hml, hown, hts⟩ (c_X7_takesAway l G _ A th sm le dg (upd (upd f 0 ((f 0) ^^^ ((nI 1) <<< ((nI c) &&& 31)))) (2 + c) (((upd f 0 ((f 0) ^^^ ((nI 1) <<< ((nI c) &&& 31)))) (2 + c)) + (nI 1))) sl ik sv tx pl ) (cwV 0 hts gX7_folds_X7_takesAway rfl rfl rfl (by decide +kernel) ⟨Nat.le_of_ble_eq_true rfl, Nat.le_of_ble_eq_true rfl⟩) (wV (pre := []) (mid := mW G A th sm le dg (upd (upd f 0 ((f 0) ^^^ ((nI 1) <<< ((nI c) &&& 31)))) (2 + c) (((upd f 0 ((f 0) ^^^ ((nI 1) <<< ((nI c) &&& 31)))) (2 + c)) + (nI 1))) sl ik sv tx pl) (suf := []) (va_recv (ws := mW G A th sm le dg (upd (upd f 0 ((f 0) ^^^ ((nI 1) <<< ((nI c) &&& 31)))) (2 + c) (((upd f 0 ((f 0) ^^^ ((nI 1) <<< ((nI c) &&& 31)))) (2 + c)) + (nI 1))) sl ik sv tx pl) hK hP (ci := 6) (q0 := 0) rfl rfl) hK hN hP hD) rfl rfl hl.1 rfl (lv_room (Nat.le_of_ble_eq_true rfl)) dX7_folds_52 ⟨Nat.le_of_ble_eq_true rfl, Nat.le_of_ble_eq_true rfl⟩) hP hD hS hA (fun r _ H locs hw hP hD hS => ?_)
    subst hw
    have hP : PP G (mW G A th sm le dg (zA (upd (upd f 0 ((f 0) ^^^ ((nI 1) <<< ((nI c) &&& 31)))) (2 + c) (((upd f 0 ((f 0) ^^^ ((nI 1) <<< ((nI c) &&& 31)))) (2 + c)) + (nI 1))) 54) sl ik sv tx pl) H := hP
    have hD : va_D Ar (mW G A th sm le dg (zA (upd (upd f 0 ((f 0) ^^^ ((nI 1) <<< ((nI c) &&& 31)))) (2 + c) (((upd f 0 ((f 0) ^^^ ((nI 1) <<< ((nI c) &&& 31)))) (2 + c)) + (nI 1))) 54) sl ik sv tx pl) := hD
    refine lv_istore_n (lv' := [(2, .int ((upd (upd f 0 ((f 0) ^^^ ((nI 1) <<< ((nI c) &&& 31)))) (2 + c) (((upd f 0 ((f 0) ^^^ ((nI 1) <<< ((nI c) &&& 31)))) (2 + c)) + (nI 1))) 17)), (0, .ref (A 0)), (1, .int (nI c))]) hx hb dX7_folds_55 rfl hl (by decide) rfl (fun ls hl => ?_)
    refine lv_aload_n hx hb dX7_folds_56 rfl (lv_at hl 1 rfl) ?_
    refine va_get (D := G.1) (ws := mW G A th sm le dg (zA (upd (upd f 0 ((f 0) ^^^ ((nI 1) <<< ((nI c) &&& 31)))) (2 + c) (((upd f 0 ((f 0) ^^^ ((nI 1) <<< ((nI c) &&& 31)))) (2 + c)) + (nI 1))) 54) sl ik sv tx pl) (ci := 6) (v := .ref (A 1)) (C := RX7) (T := TX7) (N := 10) hx hb hts (fun _ h => List.mem_cons_of_mem _ (List.mem_append_right _ (h))) hown hK hP 0 rfl rfl 1 (by decide) (hts (.fieldLink RX7 7 "CreaseMapsModel" "s" "[I") (List.mem_of_getElem? (i := 1) rfl)) (fun _ h9 => h9) rfl dX7_folds_57 ?_
    refine lv_iconst (v := nI 0) hx hb dX7_folds_60 (by decide) ?_
    refine va_iald (D := G.1) (ws := mW G A th sm le dg (zA (upd (upd f 0 ((f 0) ^^^ ((nI 1) <<< ((nI c) &&& 31)))) (2 + c) (((upd f 0 ((f 0) ^^^ ((nI 1) <<< ((nI c) &&& 31)))) (2 + c)) + (nI 1))) 54) sl ik sv tx pl) hx hb hK hP 1 0 (n := 58) rfl rfl (by first | assumption | exact vp_in_nI (by omega) (by omega)) dX7_folds_61 ?_
    refine lv_cgi (y := (zA (upd (upd f 0 ((f 0) ^^^ ((nI 1) <<< ((nI c) &&& 31)))) (2 + c) (((upd f 0 ((f 0) ^^^ ((nI 1) <<< ((nI c) &&& 31)))) (2 + c)) + (nI 1))) 54) 0) rfl ?_
    refine lv_iload_n hx hb dX7_folds_62 rfl (lv_at hl 2 rfl) ?_
    refine lv_ishr hx hb dX7_folds_63 ?_
    refine lv_iconst (v := nI 1) hx hb dX7_folds_64 (by decide) ?_
    refine lv_iand hx hb dX7_folds_65 ?_
    exact wr_iret (S := Unit) (out := fun _ => mW G A th sm le dg (foldF f c) sl ik sv tx pl) () hx hb hr hlocks (PP_as hP (by unfold foldF; first | (rw [if_neg c_11]; done) | (rw [if_pos c_11]; done))) (D_as hD (by unfold foldF; first | (rw [if_neg c_11]; done) | (rw [if_pos c_11]; done))) hS (Nat.le_of_ble_eq_true rfl) (Nat.le_of_ble_eq_true rfl) (by unfold foldR; first | (rw [if_neg c_11]; done) | (rw [if_pos c_11]; done)) dX7_folds_66
  · have c_11 : torn f c := c_11
    refine lv_aload_n hx hb dX7_folds_14 rfl (lv_at hl 0 rfl) ?_
    refine va_get (D := G.1) (ws := mW G A th sm le dg f sl ik sv tx pl) (ci := 6) (v := .ref (A 1)) (C := RX7) (T := TX7) (N := 10) hx hb hts (fun _ h => List.mem_cons_of_mem _ (List.mem_append_right _ (h))) hown hK hP 0 rfl rfl 1 (by decide) (hts (.fieldLink RX7 7 "CreaseMapsModel" "s" "[I") (List.mem_of_getElem? (i := 1) rfl)) (fun _ h9 => h9) rfl dX7_folds_15 ?_
    refine lv_bipush (v := nI 57) hx hb dX7_folds_18 (by decide) ?_
    refine lv_dup2_11 hx hb dX7_folds_20 rfl rfl ?_
    refine va_iald (D := G.1) (ws := mW G A th sm le dg f sl ik sv tx pl) hx hb hK hP 1 0 (n := 58) rfl rfl (by first | assumption | exact vp_in_nI (by omega) (by omega)) dX7_folds_21 ?_
    refine lv_cgi (y := f 57) rfl ?_
    refine lv_iconst (v := nI 1) hx hb dX7_folds_22 (by decide) ?_
    refine lv_iadd hx hb dX7_folds_23 ?_
    refine va_iast (D := G.1) (ws := mW G A th sm le dg f sl ik sv tx pl) hx hb hK hP hD hS 1 0 (n := 58) rfl rfl (by first | assumption | exact vp_in_nI (by omega) (by omega)) dX7_folds_24 (fun H locs hP hD hS => ?_)
    have hP : PP G (mW G A th sm le dg (upd f 57 ((f 57) + (nI 1))) sl ik sv tx pl) H := hP
    have hD : va_D Ar (mW G A th sm le dg (upd f 57 ((f 57) + (nI 1))) sl ik sv tx pl) := hD
    refine lv_iconst (v := (-1)) hx hb dX7_folds_25 (by decide) ?_
    exact wr_iret (S := Unit) (out := fun _ => mW G A th sm le dg (foldF f c) sl ik sv tx pl) () hx hb hr hlocks (PP_as hP (by unfold foldF; first | (rw [if_neg c_11]; done) | (rw [if_pos c_11]; done))) (D_as hD (by unfold foldF; first | (rw [if_neg c_11]; done) | (rw [if_pos c_11]; done))) hS (Nat.le_of_ble_eq_true rfl) (Nat.le_of_ble_eq_true rfl) (by unfold foldR; first | (rw [if_neg c_11]; done) | (rw [if_pos c_11]; done)) dX7_folds_26

set_option maxHeartbeats 4000000 in
set_option maxRecDepth 100000 in
theorem c_X7_fold (l : Launch) (G : GG) (sz : Nat) (A : Nat → Nat) (th le : Int32) (dg : Int64) (f sl ik sv tx pl : Nat → Int32) (m : Nat) (hm : m ≤ 6) (c : Nat) (hc : c < 9) : WRi l yX7_fold wsX7_fold 3 G [.ref (A 0), .int (nI c)] (mW G A th (nI m) le dg f sl ik sv tx pl) sz (S := Unit) (fun r _ => r = foldR f c) (fun _ => mW G A (nI 0) (nI (svm m + 1)) le dg (foldF f c) sl ik (svF sv f m) tx pl) 0 0 := by
  refine wr_of (cc := cX7_fold) (maxL := 2) (ret := (some .int)) (Qc := fun Ar => wQi G (S := Unit) (fun r _ => r = foldR f c) (fun _ => mW G A (nI 0) (nI (svm m + 1)) le dg (foldF f c) sl ik (svF sv f m) tx pl) Ar) (by decide) rfl (Nat.le_of_ble_eq_true rfl) ?_
  intro pG eG s mG below meth cG hsz hx hb hr hml hts hown hlocks hnm hP hK hN Ar hD hA hS ls hl
  have hown : s.vm.findClass RX7 = some mG.cls := hown
  have hP : PP G (mW G A th (nI m) le dg f sl ik sv tx pl) s.heap := hP
  have hD : va_D Ar (mW G A th (nI m) le dg f sl ik sv tx pl) := hD
  have hl : lv_has ls 2 [(0, .ref (A 0)), (1, .int (nI c))] := hl
  refine lv_aload_n hx hb dX7_fold_0 rfl (lv_at hl 0 rfl) ?_
  refine lv_iload_n hx hb dX7_fold_1 rfl (lv_at hl 1 rfl) ?_
  refine rd_go (va_runS (As := [.int (nI c)]) (rest := [.ref (A 0)]) ⟨hx, hb, hml, hown, hts⟩ (c_X7_isCrease l G (nI c)) (va_cwS 1 hts gX7_fold_X7_isCrease rfl rfl rfl (by decide +kernel) ⟨Nat.le_of_ble_eq_true rfl, Nat.le_of_ble_eq_true rfl⟩) (rS (ws := []) hK hN P_nil) rfl rfl hl.1 rfl (lv_room (Nat.le_of_ble_eq_true rfl)) dX7_fold_2 ⟨Nat.le_of_ble_eq_true rfl, Nat.le_of_ble_eq_true rfl⟩) ?_
  refine lv_cgi (y := nI 1) (b2T (inB_n (Nat.zero_le _) (by omega) (by omega))) ?_
  refine lv_if_eq (tgt := 12) hx hb dX7_fold_5 (by decide) (fun c_5 => ?_) (fun c_5 => ?_)
  · exact absurd c_5 (by decide)
  · refine lv_iconst (v := nI 0) hx hb dX7_fold_8 (by decide) ?_
    refine lv_goto (tgt := 13) hx hb dX7_fold_9 (by decide) ?_
    refine wr_goi (pre := []) (mid := mW G A th (nI m) le dg f sl ik sv tx pl) (suf := []) (va_runV (As := [.int (nI 0)]) (rest := []) ⟨hx, hb, hml, hown, hts⟩ (c_X7_holds l G _ A th (nI m) le dg f sl ik sv tx pl (nI 0)) (cwV 1 hts gX7_fold_X7_holds rfl rfl rfl (by decide +kernel) ⟨Nat.le_of_ble_eq_true rfl, Nat.le_of_ble_eq_true rfl⟩) (wV (pre := []) (mid := mW G A th (nI m) le dg f sl ik sv tx pl) (suf := []) (va_recv (ws := mW G A th (nI m) le dg f sl ik sv tx pl) hK hP (ci := 6) (q0 := 0) rfl rfl) hK hN hP hD) rfl rfl hl.1 rfl (lv_room (Nat.le_of_ble_eq_true rfl)) dX7_fold_13 ⟨Nat.le_of_ble_eq_true rfl, Nat.le_of_ble_eq_true rfl⟩) hP hD hS hA (fun r _ H locs hw hP hD hS => ?_)
    subst hw
    have hP : PP G (mW G A (nI 0) (nI m) le dg f sl ik sv tx pl) H := hP
    have hD : va_D Ar (mW G A (nI 0) (nI m) le dg f sl ik sv tx pl) := hD
    refine lv_cgi (y := nI 1) (by decide) ?_
    refine lv_if_ne (tgt := 21) hx hb dX7_fold_16 (by decide) (fun c_16 => ?_) (fun c_16 => ?_)
    · refine lv_aload_n hx hb dX7_fold_21 rfl (lv_at hl 0 rfl) ?_
      refine wr_gov (pre := []) (mid := mW G A (nI 0) (nI m) le dg f sl ik sv tx pl) (suf := []) (va_runV (As := []) (rest := []) ⟨hx, hb, hml, hown, hts⟩ (c_X7_save l G _ A (nI 0) le dg f sl ik sv tx pl m hm) (cwV 0 hts gX7_fold_X7_save rfl rfl rfl (by decide +kernel) ⟨Nat.le_of_ble_eq_true rfl, Nat.le_of_ble_eq_true rfl⟩) (wV (pre := []) (mid := mW G A (nI 0) (nI m) le dg f sl ik sv tx pl) (suf := []) (va_recv (ws := mW G A (nI 0) (nI m) le dg f sl ik sv tx pl) hK hP (ci := 6) (q0 := 0) rfl rfl) hK hN hP hD) rfl rfl hl.1 rfl (lv_room (Nat.le_of_ble_eq_true rfl)) dX7_fold_22 ⟨Nat.le_of_ble_eq_true rfl, Nat.le_of_ble_eq_true rfl⟩) hP hD hS hA (fun _ H locs hw hP hD hS => ?_)
      have hP : PP G (mW G A (nI 0) (nI (svm m + 1)) le dg f sl ik (svF sv f m) tx pl) H := hP
      have hD : va_D Ar (mW G A (nI 0) (nI (svm m + 1)) le dg f sl ik (svF sv f m) tx pl) := hD
      refine lv_aload_n hx hb dX7_fold_25 rfl (lv_at hl 0 rfl) ?_
      refine lv_iload_n hx hb dX7_fold_26 rfl (lv_at hl 1 rfl) ?_
      refine wr_goi (pre := []) (mid := mW G A (nI 0) (nI (svm m + 1)) le dg f sl ik (svF sv f m) tx pl) (suf := []) (va_runV (As := [.int (nI c)]) (rest := []) ⟨hx, hb, hml, hown, hts⟩ (c_X7_folds l G _ A (nI 0) (nI (svm m + 1)) le dg f sl ik (svF sv f m) tx pl c hc) (cwV 1 hts gX7_fold_X7_folds rfl rfl rfl (by decide +kernel) ⟨Nat.le_of_ble_eq_true rfl, Nat.le_of_ble_eq_true rfl⟩) (wV (pre := []) (mid := mW G A (nI 0) (nI (svm m + 1)) le dg f sl ik (svF sv f m) tx pl) (suf := []) (va_recv (ws := mW G A (nI 0) (nI (svm m + 1)) le dg f sl ik (svF sv f m) tx pl) hK hP (ci := 6) (q0 := 0) rfl rfl) hK hN hP hD) rfl rfl hl.1 rfl (lv_room (Nat.le_of_ble_eq_true rfl)) dX7_fold_27 ⟨Nat.le_of_ble_eq_true rfl, Nat.le_of_ble_eq_true rfl⟩) hP hD hS hA (fun r _ H locs hw hP hD hS => ?_)
      subst hw
      have hP : PP G (mW G A (nI 0) (nI (svm m + 1)) le dg (foldF f c) sl ik (svF sv f m) tx pl) H := hP
      have hD : va_D Ar (mW G A (nI 0) (nI (svm m + 1)) le dg (foldF f c) sl ik (svF sv f m) tx pl) := hD
      exact wr_iret (S := Unit) (out := fun _ => mW G A (nI 0) (nI (svm m + 1)) le dg (foldF f c) sl ik (svF sv f m) tx pl) () hx hb hr hlocks hP hD hS (Nat.le_of_ble_eq_true rfl) (Nat.le_of_ble_eq_true rfl) (by rfl) dX7_fold_30
    · exact absurd c_16 (by decide)

set_option maxHeartbeats 4000000 in
set_option maxRecDepth 100000 in
theorem c_X7_fold_no (l : Launch) (G : GG) (sz : Nat) (A : Nat → Nat) (th le : Int32) (dg : Int64) (f sl ik sv tx pl : Nat → Int32) (m : Nat) (hm : m ≤ 6) (x : Int32) (hx0 : ¬ inB x (nI 0) (nI 8)) : WRi l yX7_fold wsX7_fold 3 G [.ref (A 0), .int x] (mW G A th (nI m) le dg f sl ik sv tx pl) sz (S := Unit) (fun r _ => r = nI 0) (fun _ => mW G A (nI 1) (nI m) le dg f sl ik sv tx pl) 0 0 := by
  refine wr_of (cc := cX7_fold) (maxL := 2) (ret := (some .int)) (Qc := fun Ar => wQi G (S := Unit) (fun r _ => r = nI 0) (fun _ => mW G A (nI 1) (nI m) le dg f sl ik sv tx pl) Ar) (by decide) rfl (Nat.le_of_ble_eq_true rfl) ?_
  intro pG eG s mG below meth cG hsz hx hb hr hml hts hown hlocks hnm hP hK hN Ar hD hA hS ls hl
  have hown : s.vm.findClass RX7 = some mG.cls := hown
  have hP : PP G (mW G A th (nI m) le dg f sl ik sv tx pl) s.heap := hP
  have hD : va_D Ar (mW G A th (nI m) le dg f sl ik sv tx pl) := hD
  have hl : lv_has ls 2 [(0, .ref (A 0)), (1, .int x)] := hl
  refine lv_aload_n hx hb dX7_fold_0 rfl (lv_at hl 0 rfl) ?_
  refine lv_iload_n hx hb dX7_fold_1 rfl (lv_at hl 1 rfl) ?_
  refine rd_go (va_runS (As := [.int x]) (rest := [.ref (A 0)]) ⟨hx, hb, hml, hown, hts⟩ (c_X7_isCrease l G x) (va_cwS 1 hts gX7_fold_X7_isCrease rfl rfl rfl (by decide +kernel) ⟨Nat.le_of_ble_eq_true rfl, Nat.le_of_ble_eq_true rfl⟩) (rS (ws := []) hK hN P_nil) rfl rfl hl.1 rfl (lv_room (Nat.le_of_ble_eq_true rfl)) dX7_fold_2 ⟨Nat.le_of_ble_eq_true rfl, Nat.le_of_ble_eq_true rfl⟩) ?_
  refine lv_cgi (y := nI 0) (b2F (hx0)) ?_
  refine lv_if_eq (tgt := 12) hx hb dX7_fold_5 (by decide) (fun c_5 => ?_) (fun c_5 => ?_)
  · refine lv_iconst (v := nI 1) hx hb dX7_fold_12 (by decide) ?_
    refine wr_goi (pre := []) (mid := mW G A th (nI m) le dg f sl ik sv tx pl) (suf := []) (va_runV (As := [.int (nI 1)]) (rest := []) ⟨hx, hb, hml, hown, hts⟩ (c_X7_holds l G _ A th (nI m) le dg f sl ik sv tx pl (nI 1)) (cwV 1 hts gX7_fold_X7_holds rfl rfl rfl (by decide +kernel) ⟨Nat.le_of_ble_eq_true rfl, Nat.le_of_ble_eq_true rfl⟩) (wV (pre := []) (mid := mW G A th (nI m) le dg f sl ik sv tx pl) (suf := []) (va_recv (ws := mW G A th (nI m) le dg f sl ik sv tx pl) hK hP (ci := 6) (q0 := 0) rfl rfl) hK hN hP hD) rfl rfl hl.1 rfl (lv_room (Nat.le_of_ble_eq_true rfl)) dX7_fold_13 ⟨Nat.le_of_ble_eq_true rfl, Nat.le_of_ble_eq_true rfl⟩) hP hD hS hA (fun r _ H locs hw hP hD hS => ?_)
    subst hw
    have hP : PP G (mW G A (nI 1) (nI m) le dg f sl ik sv tx pl) H := hP
    have hD : va_D Ar (mW G A (nI 1) (nI m) le dg f sl ik sv tx pl) := hD
    refine lv_cgi (y := nI 0) (by decide) ?_
    refine lv_if_ne (tgt := 21) hx hb dX7_fold_16 (by decide) (fun c_16 => ?_) (fun c_16 => ?_)
    · exact absurd c_16 (by decide)
    · refine lv_iconst (v := nI 0) hx hb dX7_fold_19 (by decide) ?_
      exact wr_iret (S := Unit) (out := fun _ => mW G A (nI 1) (nI m) le dg f sl ik sv tx pl) () hx hb hr hlocks hP hD hS (Nat.le_of_ble_eq_true rfl) (Nat.le_of_ble_eq_true rfl) (by rfl) dX7_fold_20
  · exact absurd c_5 (by decide)

set_option maxHeartbeats 4000000 in
set_option maxRecDepth 100000 in
theorem c_X7_move (l : Launch) (G : GG) (sz : Nat) (A : Nat → Nat) (th le : Int32) (dg : Int64) (f sl ik sv tx pl : Nat → Int32) (m : Nat) (hm : m ≤ 6) (t : Nat) (ht : t < 6) (q : Nat) (hq : q < 10) : WRi l yX7_move wsX7_move 3 G [.ref (A 0), .int (nI t), .int (nI q)] (mW G A th (nI m) le dg f sl ik sv tx pl) sz (S := Unit) (fun r _ => r = f (11 + t)) (fun _ => mW G A (nI 0) (nI (svm m + 1)) le dg (moveF f t (nI q)) sl ik (svF sv f m) tx pl) 0 0 := by
  refine wr_of (cc := cX7_move) (maxL := 5) (ret := (some .int)) (Qc := fun Ar => wQi G (S := Unit) (fun r _ => r = f (11 + t)) (fun _ => mW G A (nI 0) (nI (svm m + 1)) le dg (moveF f t (nI q)) sl ik (svF sv f m) tx pl) Ar) (by decide) rfl (Nat.le_of_ble_eq_true rfl) ?_
  intro pG eG s mG below meth cG hsz hx hb hr hml hts hown hlocks hnm hP hK hN Ar hD hA hS ls hl
  have hown : s.vm.findClass RX7 = some mG.cls := hown
  have hP : PP G (mW G A th (nI m) le dg f sl ik sv tx pl) s.heap := hP
  have hD : va_D Ar (mW G A th (nI m) le dg f sl ik sv tx pl) := hD
  have hl : lv_has ls 5 [(0, .ref (A 0)), (1, .int (nI t)), (2, .int (nI q))] := hl
  refine lv_aload_n hx hb dX7_move_0 rfl (lv_at hl 0 rfl) ?_
  refine lv_iload_n hx hb dX7_move_1 rfl (lv_at hl 1 rfl) ?_
  refine rd_go (va_runS (As := [.int (nI t)]) (rest := [.ref (A 0)]) ⟨hx, hb, hml, hown, hts⟩ (c_X7_isTown l G (nI t)) (va_cwS 1 hts gX7_move_X7_isTown rfl rfl rfl (by decide +kernel) ⟨Nat.le_of_ble_eq_true rfl, Nat.le_of_ble_eq_true rfl⟩) (rS (ws := []) hK hN P_nil) rfl rfl hl.1 rfl (lv_room (Nat.le_of_ble_eq_true rfl)) dX7_move_2 ⟨Nat.le_of_ble_eq_true rfl, Nat.le_of_ble_eq_true rfl⟩) ?_
  refine lv_cgi (y := nI 1) (b2T (inB_n (Nat.zero_le _) (by omega) (by omega))) ?_
  refine lv_if_ne (tgt := 12) hx hb dX7_move_5 (by decide) (fun c_5 => ?_) (fun c_5 => ?_)
  · refine lv_iload_n hx hb dX7_move_12 rfl (lv_at hl 2 rfl) ?_
    refine rd_go (va_runS (As := [.int (nI q)]) (rest := [.ref (A 0)]) ⟨hx, hb, hml, hown, hts⟩ (c_X7_isPanel l G (nI q)) (va_cwS 1 hts gX7_move_X7_isPanel rfl rfl rfl (by decide +kernel) ⟨Nat.le_of_ble_eq_true rfl, Nat.le_of_ble_eq_true rfl⟩) (rS (ws := []) hK hN P_nil) rfl rfl hl.1 rfl (lv_room (Nat.le_of_ble_eq_true rfl)) dX7_move_13 ⟨Nat.le_of_ble_eq_true rfl, Nat.le_of_ble_eq_true rfl⟩) ?_
    refine lv_cgi (y := nI 1) (b2T (inB_n (Nat.zero_le _) (by omega) (by omega))) ?_
    refine lv_if_ne (tgt := 23) hx hb dX7_move_16 (by decide) (fun c_16 => ?_) (fun c_16 => ?_)
    · refine lv_iconst (v := nI 0) hx hb dX7_move_23 (by decide) ?_
      refine wr_goi (pre := []) (mid := mW G A th (nI m) le dg f sl ik sv tx pl) (suf := []) (va_runV (As := [.int (nI 0)]) (rest := []) ⟨hx, hb, hml, hown, hts⟩ (c_X7_holds l G _ A th (nI m) le dg f sl ik sv tx pl (nI 0)) (cwV 1 hts gX7_move_X7_holds rfl rfl rfl (by decide +kernel) ⟨Nat.le_of_ble_eq_true rfl, Nat.le_of_ble_eq_true rfl⟩) (wV (pre := []) (mid := mW G A th (nI m) le dg f sl ik sv tx pl) (suf := []) (va_recv (ws := mW G A th (nI m) le dg f sl ik sv tx pl) hK hP (ci := 6) (q0 := 0) rfl rfl) hK hN hP hD) rfl rfl hl.1 rfl (lv_room (Nat.le_of_ble_eq_true rfl)) dX7_move_24 ⟨Nat.le_of_ble_eq_true rfl, Nat.le_of_ble_eq_true rfl⟩) hP hD hS hA (fun r _ H locs hw hP hD hS => ?_)
      subst hw
      have hP : PP G (mW G A (nI 0) (nI m) le dg f sl ik sv tx pl) H := hP
      have hD : va_D Ar (mW G A (nI 0) (nI m) le dg f sl ik sv tx pl) := hD
      refine lv_cgi (y := nI 1) (by decide) ?_
      refine lv_if_ne (tgt := 32) hx hb dX7_move_27 (by decide) (fun c_27 => ?_) (fun c_27 => ?_)
      · refine lv_aload_n hx hb dX7_move_32 rfl (lv_at hl 0 rfl) ?_
        refine wr_gov (pre := []) (mid := mW G A (nI 0) (nI m) le dg f sl ik sv tx pl) (suf := []) (va_runV (As := []) (rest := []) ⟨hx, hb, hml, hown, hts⟩ (c_X7_save l G _ A (nI 0) le dg f sl ik sv tx pl m hm) (cwV 0 hts gX7_move_X7_save rfl rfl rfl (by decide +kernel) ⟨Nat.le_of_ble_eq_true rfl, Nat.le_of_ble_eq_true rfl⟩) (wV (pre := []) (mid := mW G A (nI 0) (nI m) le dg f sl ik sv tx pl) (suf := []) (va_recv (ws := mW G A (nI 0) (nI m) le dg f sl ik sv tx pl) hK hP (ci := 6) (q0 := 0) rfl rfl) hK hN hP hD) rfl rfl hl.1 rfl (lv_room (Nat.le_of_ble_eq_true rfl)) dX7_move_33 ⟨Nat.le_of_ble_eq_true rfl, Nat.le_of_ble_eq_true rfl⟩) hP hD hS hA (fun _ H locs hw hP hD hS => ?_)
        have hP : PP G (mW G A (nI 0) (nI (svm m + 1)) le dg f sl ik (svF sv f m) tx pl) H := hP
        have hD : va_D Ar (mW G A (nI 0) (nI (svm m + 1)) le dg f sl ik (svF sv f m) tx pl) := hD
        refine lv_aload_n hx hb dX7_move_36 rfl (lv_at hl 0 rfl) ?_
        refine va_get (D := G.1) (ws := mW G A (nI 0) (nI (svm m + 1)) le dg f sl ik (svF sv f m) tx pl) (ci := 6) (v := .ref (A 1)) (C := RX7) (T := TX7) (N := 10) hx hb hts (fun _ h => List.mem_cons_of_mem _ (List.mem_append_right _ (h))) hown hK hP 0 rfl rfl 1 (by decide) (hts (.fieldLink RX7 7 "CreaseMapsModel" "s" "[I") (List.mem_of_getElem? (i := 1) rfl)) (fun _ h9 => h9) rfl dX7_move_37 ?_
        refine lv_bipush (v := nI 11) hx hb dX7_move_40 (by decide) ?_
        refine lv_iload_n hx hb dX7_move_42 rfl (lv_at hl 1 rfl) ?_
        refine lv_iadd hx hb dX7_move_43 ?_
        refine lv_cgi (y := nI (11 + t)) (nI_add _ _) ?_
        refine va_iald (D := G.1) (ws := mW G A (nI 0) (nI (svm m + 1)) le dg f sl ik (svF sv f m) tx pl) hx hb hK hP 1 0 (n := 58) rfl rfl (by first | assumption | exact vp_in_nI (by omega) (by omega)) dX7_move_44 ?_
        refine lv_cgi (y := f (11 + t)) (by rw [nI_clamp (by omega)]) ?_
        refine lv_istore_n (lv' := [(3, .int (f (11 + t))), (0, .ref (A 0)), (1, .int (nI t)), (2, .int (nI q))]) hx hb dX7_move_45 rfl hl (by decide) rfl (fun ls hl => ?_)
        refine lv_aload_n hx hb dX7_move_46 rfl (lv_at hl 1 rfl) ?_
        refine va_get (D := G.1) (ws := mW G A (nI 0) (nI (svm m + 1)) le dg f sl ik (svF sv f m) tx pl) (ci := 6) (v := .ref (A 1)) (C := RX7) (T := TX7) (N := 10) hx hb hts (fun _ h => List.mem_cons_of_mem _ (List.mem_append_right _ (h))) hown hK hP 0 rfl rfl 1 (by decide) (hts (.fieldLink RX7 7 "CreaseMapsModel" "s" "[I") (List.mem_of_getElem? (i := 1) rfl)) (fun _ h9 => h9) rfl dX7_move_47 ?_
        refine lv_bipush (v := nI 11) hx hb dX7_move_50 (by decide) ?_
        refine lv_iload_n hx hb dX7_move_52 rfl (lv_at hl 2 rfl) ?_
        refine lv_iadd hx hb dX7_move_53 ?_
        refine lv_cgi (y := nI (11 + t)) (nI_add _ _) ?_
        refine lv_iload_n hx hb dX7_move_54 rfl (lv_at hl 3 rfl) ?_
        refine va_iast (D := G.1) (ws := mW G A (nI 0) (nI (svm m + 1)) le dg f sl ik (svF sv f m) tx pl) hx hb hK hP hD hS 1 0 (n := 58) rfl rfl (by first | assumption | exact vp_in_nI (by omega) (by omega)) dX7_move_55 (fun H locs hP hD hS => ?_)
        rw [nI_clamp (by omega)] at hP hD
        have hP : PP G (mW G A (nI 0) (nI (svm m + 1)) le dg (upd f (11 + t) (nI q)) sl ik (svF sv f m) tx pl) H := hP
        have hD : va_D Ar (mW G A (nI 0) (nI (svm m + 1)) le dg (upd f (11 + t) (nI q)) sl ik (svF sv f m) tx pl) := hD
        refine lv_aload_n hx hb dX7_move_56 rfl (lv_at hl 1 rfl) ?_
        refine wr_goi (pre := []) (mid := mW G A (nI 0) (nI (svm m + 1)) le dg (upd f (11 + t) (nI q)) sl ik (svF sv f m) tx pl) (suf := []) (va_runV (As := []) (rest := []) ⟨hx, hb, hml, hown, hts⟩ (c_X7_takesAway l G _ A (nI 0) (nI (svm m + 1)) le dg (upd f (11 + t) (nI q)) sl ik (svF sv f m) tx pl ) (cwV 0 hts gX7_move_X7_takesAway rfl rfl rfl (by decide +kernel) ⟨Nat.le_of_ble_eq_true rfl, Nat.le_of_ble_eq_true rfl⟩) (wV (pre := []) (mid := mW G A (nI 0) (nI (svm m + 1)) le dg (upd f (11 + t) (nI q)) sl ik (svF sv f m) tx pl) (suf := []) (va_recv (ws := mW G A (nI 0) (nI (svm m + 1)) le dg (upd f (11 + t) (nI q)) sl ik (svF sv f m) tx pl) hK hP (ci := 6) (q0 := 0) rfl rfl) hK hN hP hD) rfl rfl hl.1 rfl (lv_room (Nat.le_of_ble_eq_true rfl)) dX7_move_57 ⟨Nat.le_of_ble_eq_true rfl, Nat.le_of_ble_eq_true rfl⟩) hP hD hS hA (fun r _ H locs hw hP hD hS => ?_)
        subst hw
        have hP : PP G (mW G A (nI 0) (nI (svm m + 1)) le dg (zA (upd f (11 + t) (nI q)) 54) sl ik (svF sv f m) tx pl) H := hP
        have hD : va_D Ar (mW G A (nI 0) (nI (svm m + 1)) le dg (zA (upd f (11 + t) (nI q)) 54) sl ik (svF sv f m) tx pl) := hD
        refine lv_istore (lv' := [(4, .int ((upd f (11 + t) (nI q)) 17)), (3, .int (f (11 + t))), (0, .ref (A 0)), (1, .int (nI t)), (2, .int (nI q))]) hx hb dX7_move_60 hl (by decide) rfl (fun ls hl => ?_)
        refine lv_iload_n hx hb dX7_move_62 rfl (lv_at hl 1 rfl) ?_
        exact wr_iret (S := Unit) (out := fun _ => mW G A (nI 0) (nI (svm m + 1)) le dg (moveF f t (nI q)) sl ik (svF sv f m) tx pl) () hx hb hr hlocks hP hD hS (Nat.le_of_ble_eq_true rfl) (Nat.le_of_ble_eq_true rfl) (by rfl) dX7_move_63
      · exact absurd c_27 (by decide)
    · exact absurd c_16 (by decide)
  · exact absurd c_5 (by decide)

set_option maxHeartbeats 4000000 in
set_option maxRecDepth 100000 in
theorem c_X7_move_no1 (l : Launch) (G : GG) (sz : Nat) (A : Nat → Nat) (th le : Int32) (dg : Int64) (f sl ik sv tx pl : Nat → Int32) (m : Nat) (hm : m ≤ 6) (x y : Int32) (hx0 : ¬ inB x (nI 0) (nI 5)) : WRi l yX7_move wsX7_move 3 G [.ref (A 0), .int x, .int y] (mW G A th (nI m) le dg f sl ik sv tx pl) sz (S := Unit) (fun r _ => r = nI 0) (fun _ => mW G A (nI 1) (nI m) le dg f sl ik sv tx pl) 0 0 := by
  refine wr_of (cc := cX7_move) (maxL := 5) (ret := (some .int)) (Qc := fun Ar => wQi G (S := Unit) (fun r _ => r = nI 0) (fun _ => mW G A (nI 1) (nI m) le dg f sl ik sv tx pl) Ar) (by decide) rfl (Nat.le_of_ble_eq_true rfl) ?_
  intro pG eG s mG below meth cG hsz hx hb hr hml hts hown hlocks hnm hP hK hN Ar hD hA hS ls hl
  have hown : s.vm.findClass RX7 = some mG.cls := hown
  have hP : PP G (mW G A th (nI m) le dg f sl ik sv tx pl) s.heap := hP
  have hD : va_D Ar (mW G A th (nI m) le dg f sl ik sv tx pl) := hD
  have hl : lv_has ls 5 [(0, .ref (A 0)), (1, .int x), (2, .int y)] := hl
  refine lv_aload_n hx hb dX7_move_0 rfl (lv_at hl 0 rfl) ?_
  refine lv_iload_n hx hb dX7_move_1 rfl (lv_at hl 1 rfl) ?_
  refine rd_go (va_runS (As := [.int x]) (rest := [.ref (A 0)]) ⟨hx, hb, hml, hown, hts⟩ (c_X7_isTown l G x) (va_cwS 1 hts gX7_move_X7_isTown rfl rfl rfl (by decide +kernel) ⟨Nat.le_of_ble_eq_true rfl, Nat.le_of_ble_eq_true rfl⟩) (rS (ws := []) hK hN P_nil) rfl rfl hl.1 rfl (lv_room (Nat.le_of_ble_eq_true rfl)) dX7_move_2 ⟨Nat.le_of_ble_eq_true rfl, Nat.le_of_ble_eq_true rfl⟩) ?_
  refine lv_cgi (y := nI 0) (b2F (hx0)) ?_
  refine lv_if_ne (tgt := 12) hx hb dX7_move_5 (by decide) (fun c_5 => ?_) (fun c_5 => ?_)
  · exact absurd c_5 (by decide)
  · refine lv_iconst (v := nI 1) hx hb dX7_move_8 (by decide) ?_
    refine lv_goto (tgt := 24) hx hb dX7_move_9 (by decide) ?_
    refine wr_goi (pre := []) (mid := mW G A th (nI m) le dg f sl ik sv tx pl) (suf := []) (va_runV (As := [.int (nI 1)]) (rest := []) ⟨hx, hb, hml, hown, hts⟩ (c_X7_holds l G _ A th (nI m) le dg f sl ik sv tx pl (nI 1)) (cwV 1 hts gX7_move_X7_holds rfl rfl rfl (by decide +kernel) ⟨Nat.le_of_ble_eq_true rfl, Nat.le_of_ble_eq_true rfl⟩) (wV (pre := []) (mid := mW G A th (nI m) le dg f sl ik sv tx pl) (suf := []) (va_recv (ws := mW G A th (nI m) le dg f sl ik sv tx pl) hK hP (ci := 6) (q0 := 0) rfl rfl) hK hN hP hD) rfl rfl hl.1 rfl (lv_room (Nat.le_of_ble_eq_true rfl)) dX7_move_24 ⟨Nat.le_of_ble_eq_true rfl, Nat.le_of_ble_eq_true rfl⟩) hP hD hS hA (fun r _ H locs hw hP hD hS => ?_)
    subst hw
    have hP : PP G (mW G A (nI 1) (nI m) le dg f sl ik sv tx pl) H := hP
    have hD : va_D Ar (mW G A (nI 1) (nI m) le dg f sl ik sv tx pl) := hD
    refine lv_cgi (y := nI 0) (by decide) ?_
    refine lv_if_ne (tgt := 32) hx hb dX7_move_27 (by decide) (fun c_27 => ?_) (fun c_27 => ?_)
    · exact absurd c_27 (by decide)
    · refine lv_iconst (v := nI 0) hx hb dX7_move_30 (by decide) ?_
      exact wr_iret (S := Unit) (out := fun _ => mW G A (nI 1) (nI m) le dg f sl ik sv tx pl) () hx hb hr hlocks hP hD hS (Nat.le_of_ble_eq_true rfl) (Nat.le_of_ble_eq_true rfl) (by rfl) dX7_move_31

set_option maxHeartbeats 4000000 in
set_option maxRecDepth 100000 in
theorem c_X7_move_no2 (l : Launch) (G : GG) (sz : Nat) (A : Nat → Nat) (th le : Int32) (dg : Int64) (f sl ik sv tx pl : Nat → Int32) (m : Nat) (hm : m ≤ 6) (x y : Int32) (hx0 : inB x (nI 0) (nI 5)) (hy0 : ¬ inB y (nI 0) (nI 9)) : WRi l yX7_move wsX7_move 3 G [.ref (A 0), .int x, .int y] (mW G A th (nI m) le dg f sl ik sv tx pl) sz (S := Unit) (fun r _ => r = nI 0) (fun _ => mW G A (nI 2) (nI m) le dg f sl ik sv tx pl) 0 0 := by
  refine wr_of (cc := cX7_move) (maxL := 5) (ret := (some .int)) (Qc := fun Ar => wQi G (S := Unit) (fun r _ => r = nI 0) (fun _ => mW G A (nI 2) (nI m) le dg f sl ik sv tx pl) Ar) (by decide) rfl (Nat.le_of_ble_eq_true rfl) ?_
  intro pG eG s mG below meth cG hsz hx hb hr hml hts hown hlocks hnm hP hK hN Ar hD hA hS ls hl
  have hown : s.vm.findClass RX7 = some mG.cls := hown
  have hP : PP G (mW G A th (nI m) le dg f sl ik sv tx pl) s.heap := hP
  have hD : va_D Ar (mW G A th (nI m) le dg f sl ik sv tx pl) := hD
  have hl : lv_has ls 5 [(0, .ref (A 0)), (1, .int x), (2, .int y)] := hl
  refine lv_aload_n hx hb dX7_move_0 rfl (lv_at hl 0 rfl) ?_
  refine lv_iload_n hx hb dX7_move_1 rfl (lv_at hl 1 rfl) ?_
  refine rd_go (va_runS (As := [.int x]) (rest := [.ref (A 0)]) ⟨hx, hb, hml, hown, hts⟩ (c_X7_isTown l G x) (va_cwS 1 hts gX7_move_X7_isTown rfl rfl rfl (by decide +kernel) ⟨Nat.le_of_ble_eq_true rfl, Nat.le_of_ble_eq_true rfl⟩) (rS (ws := []) hK hN P_nil) rfl rfl hl.1 rfl (lv_room (Nat.le_of_ble_eq_true rfl)) dX7_move_2 ⟨Nat.le_of_ble_eq_true rfl, Nat.le_of_ble_eq_true rfl⟩) ?_
  refine lv_cgi (y := nI 1) (b2T (hx0)) ?_
  refine lv_if_ne (tgt := 12) hx hb dX7_move_5 (by decide) (fun c_5 => ?_) (fun c_5 => ?_)
  · refine lv_iload_n hx hb dX7_move_12 rfl (lv_at hl 2 rfl) ?_
    refine rd_go (va_runS (As := [.int y]) (rest := [.ref (A 0)]) ⟨hx, hb, hml, hown, hts⟩ (c_X7_isPanel l G y) (va_cwS 1 hts gX7_move_X7_isPanel rfl rfl rfl (by decide +kernel) ⟨Nat.le_of_ble_eq_true rfl, Nat.le_of_ble_eq_true rfl⟩) (rS (ws := []) hK hN P_nil) rfl rfl hl.1 rfl (lv_room (Nat.le_of_ble_eq_true rfl)) dX7_move_13 ⟨Nat.le_of_ble_eq_true rfl, Nat.le_of_ble_eq_true rfl⟩) ?_
    refine lv_cgi (y := nI 0) (b2F (hy0)) ?_
    refine lv_if_ne (tgt := 23) hx hb dX7_move_16 (by decide) (fun c_16 => ?_) (fun c_16 => ?_)
    · exact absurd c_16 (by decide)
    · refine lv_iconst (v := nI 2) hx hb dX7_move_19 (by decide) ?_
      refine lv_goto (tgt := 24) hx hb dX7_move_20 (by decide) ?_
      refine wr_goi (pre := []) (mid := mW G A th (nI m) le dg f sl ik sv tx pl) (suf := []) (va_runV (As := [.int (nI 2)]) (rest := []) ⟨hx, hb, hml, hown, hts⟩ (c_X7_holds l G _ A th (nI m) le dg f sl ik sv tx pl (nI 2)) (cwV 1 hts gX7_move_X7_holds rfl rfl rfl (by decide +kernel) ⟨Nat.le_of_ble_eq_true rfl, Nat.le_of_ble_eq_true rfl⟩) (wV (pre := []) (mid := mW G A th (nI m) le dg f sl ik sv tx pl) (suf := []) (va_recv (ws := mW G A th (nI m) le dg f sl ik sv tx pl) hK hP (ci := 6) (q0 := 0) rfl rfl) hK hN hP hD) rfl rfl hl.1 rfl (lv_room (Nat.le_of_ble_eq_true rfl)) dX7_move_24 ⟨Nat.le_of_ble_eq_true rfl, Nat.le_of_ble_eq_true rfl⟩) hP hD hS hA (fun r _ H locs hw hP hD hS => ?_)
      subst hw
      have hP : PP G (mW G A (nI 2) (nI m) le dg f sl ik sv tx pl) H := hP
      have hD : va_D Ar (mW G A (nI 2) (nI m) le dg f sl ik sv tx pl) := hD
      refine lv_cgi (y := nI 0) (by decide) ?_
      refine lv_if_ne (tgt := 32) hx hb dX7_move_27 (by decide) (fun c_27 => ?_) (fun c_27 => ?_)
      · exact absurd c_27 (by decide)
      · refine lv_iconst (v := nI 0) hx hb dX7_move_30 (by decide) ?_
        exact wr_iret (S := Unit) (out := fun _ => mW G A (nI 2) (nI m) le dg f sl ik sv tx pl) () hx hb hr hlocks hP hD hS (Nat.le_of_ble_eq_true rfl) (Nat.le_of_ble_eq_true rfl) (by rfl) dX7_move_31
  · exact absurd c_5 (by decide)

set_option maxHeartbeats 4000000 in
set_option maxRecDepth 100000 in
theorem c_X7_pull (l : Launch) (G : GG) (sz : Nat) (A : Nat → Nat) (th le : Int32) (dg : Int64) (f sl ik sv tx pl : Nat → Int32) (m : Nat) (hm : m ≤ 6) (z : Nat) (hz : 1 ≤ z) (hz2 : z ≤ 9) : WRi l yX7_pull wsX7_pull 2 G [.ref (A 0), .int (nI z)] (mW G A th (nI m) le dg f sl ik sv tx pl) sz (S := Unit) (fun r _ => r = bitsM (pullS f z 9)) (fun _ => mW G A (nI 0) (nI (svm m + 1)) le dg (pullF f z) sl ik (svF sv f m) tx pl) 0 0 := by
  refine wr_of (cc := cX7_pull) (maxL := 4) (ret := (some .int)) (Qc := fun Ar => wQi G (S := Unit) (fun r _ => r = bitsM (pullS f z 9)) (fun _ => mW G A (nI 0) (nI (svm m + 1)) le dg (pullF f z) sl ik (svF sv f m) tx pl) Ar) (by decide) rfl (Nat.le_of_ble_eq_true rfl) ?_
  intro pG eG s mG below meth cG hsz hx hb hr hml hts hown hlocks hnm hP hK hN Ar hD hA hS ls hl
  have hown : s.vm.findClass RX7 = some mG.cls := hown
  have hP : PP G (mW G A th (nI m) le dg f sl ik sv tx pl) s.heap := hP
  have hD : va_D Ar (mW G A th (nI m) le dg f sl ik sv tx pl) := hD
  have hl : lv_has ls 4 [(0, .ref (A 0)), (1, .int (nI z))] := hl
  refine lv_aload_n hx hb dX7_pull_0 rfl (lv_at hl 0 rfl) ?_
  refine lv_iload_n hx hb dX7_pull_1 rfl (lv_at hl 1 rfl) ?_
  refine lv_iconst (v := nI 1) hx hb dX7_pull_2 (by decide) ?_
  refine lv_bipush (v := nI 9) hx hb dX7_pull_3 (by decide) ?_
  refine rd_go (va_runS (As := [.int (nI z), .int (nI 1), .int (nI 9)]) (rest := [.ref (A 0)]) ⟨hx, hb, hml, hown, hts⟩ (c_X7_in l G (nI z) (nI 1) (nI 9)) (va_cwS 3 hts gX7_pull_X7_in rfl rfl rfl (by decide +kernel) ⟨Nat.le_of_ble_eq_true rfl, Nat.le_of_ble_eq_true rfl⟩) (rS (ws := []) hK hN P_nil) rfl rfl hl.1 rfl (lv_room (Nat.le_of_ble_eq_true rfl)) dX7_pull_5 ⟨Nat.le_of_ble_eq_true rfl, Nat.le_of_ble_eq_true rfl⟩) ?_
  refine lv_cgi (y := nI 1) (b2T (inB_n (by omega) (by omega) (by omega))) ?_
  refine lv_if_eq (tgt := 15) hx hb dX7_pull_8 (by decide) (fun c_8 => ?_) (fun c_8 => ?_)
  · exact absurd c_8 (by decide)
  · refine lv_iconst (v := nI 0) hx hb dX7_pull_11 (by decide) ?_
    refine lv_goto (tgt := 16) hx hb dX7_pull_12 (by decide) ?_
    refine wr_goi (pre := []) (mid := mW G A th (nI m) le dg f sl ik sv tx pl) (suf := []) (va_runV (As := [.int (nI 0)]) (rest := []) ⟨hx, hb, hml, hown, hts⟩ (c_X7_holds l G _ A th (nI m) le dg f sl ik sv tx pl (nI 0)) (cwV 1 hts gX7_pull_X7_holds rfl rfl rfl (by decide +kernel) ⟨Nat.le_of_ble_eq_true rfl, Nat.le_of_ble_eq_true rfl⟩) (wV (pre := []) (mid := mW G A th (nI m) le dg f sl ik sv tx pl) (suf := []) (va_recv (ws := mW G A th (nI m) le dg f sl ik sv tx pl) hK hP (ci := 6) (q0 := 0) rfl rfl) hK hN hP hD) rfl rfl hl.1 rfl (lv_room (Nat.le_of_ble_eq_true rfl)) dX7_pull_16 ⟨Nat.le_of_ble_eq_true rfl, Nat.le_of_ble_eq_true rfl⟩) hP hD hS hA (fun r _ H locs hw hP hD hS => ?_)
    subst hw
    have hP : PP G (mW G A (nI 0) (nI m) le dg f sl ik sv tx pl) H := hP
    have hD : va_D Ar (mW G A (nI 0) (nI m) le dg f sl ik sv tx pl) := hD
    refine lv_cgi (y := nI 1) (by decide) ?_
    refine lv_if_ne (tgt := 24) hx hb dX7_pull_19 (by decide) (fun c_19 => ?_) (fun c_19 => ?_)
    · refine lv_aload_n hx hb dX7_pull_24 rfl (lv_at hl 0 rfl) ?_
      refine wr_gov (pre := []) (mid := mW G A (nI 0) (nI m) le dg f sl ik sv tx pl) (suf := []) (va_runV (As := []) (rest := []) ⟨hx, hb, hml, hown, hts⟩ (c_X7_save l G _ A (nI 0) le dg f sl ik sv tx pl m hm) (cwV 0 hts gX7_pull_X7_save rfl rfl rfl (by decide +kernel) ⟨Nat.le_of_ble_eq_true rfl, Nat.le_of_ble_eq_true rfl⟩) (wV (pre := []) (mid := mW G A (nI 0) (nI m) le dg f sl ik sv tx pl) (suf := []) (va_recv (ws := mW G A (nI 0) (nI m) le dg f sl ik sv tx pl) hK hP (ci := 6) (q0 := 0) rfl rfl) hK hN hP hD) rfl rfl hl.1 rfl (lv_room (Nat.le_of_ble_eq_true rfl)) dX7_pull_25 ⟨Nat.le_of_ble_eq_true rfl, Nat.le_of_ble_eq_true rfl⟩) hP hD hS hA (fun _ H locs hw hP hD hS => ?_)
      have hP : PP G (mW G A (nI 0) (nI (svm m + 1)) le dg f sl ik (svF sv f m) tx pl) H := hP
      have hD : va_D Ar (mW G A (nI 0) (nI (svm m + 1)) le dg f sl ik (svF sv f m) tx pl) := hD
      refine lv_iconst (v := nI 0) hx hb dX7_pull_28 (by decide) ?_
      refine lv_istore_n (lv' := [(2, .int (nI 0)), (0, .ref (A 0)), (1, .int (nI z))]) hx hb dX7_pull_29 rfl hl (by decide) rfl (fun ls hl => ?_)
      refine lv_iconst (v := nI 0) hx hb dX7_pull_30 (by decide) ?_
      refine lv_istore_n (lv' := [(3, .int (nI 0)), (2, .int (nI 0)), (0, .ref (A 0)), (1, .int (nI z))]) hx hb dX7_pull_31 rfl hl (by decide) rfl (fun ls hl => ?_)
      have L32 : ∀ (fu : Nat) (k : Nat) (hk : k ≤ 9), 9 + 1 ≤ k + fu → ∀ (H : Heap) (locs : List Loc), PP G (mW G A (nI 0) (nI (svm m + 1)) le dg f sl ik (svF sv f m) tx pl) H → va_D Ar (mW G A (nI 0) (nI (svm m + 1)) le dg f sl ik (svF sv f m) tx pl) → va_S Ar s.heap H locs → ∀ ls : Array Slot, lv_has ls 4 [(0, .ref (A 0)), (1, .int (nI z)), (2, .int (pullS f z k)), (3, .int (nI k))] → W pG l eG (RM 2 0 0) s mG ([.ref (A 0), .int (nI z)] : List Value).toArray below meth cG H locs 0 0 (MQ below (wQi G (S := Unit) (fun r _ => r = bitsM (pullS f z 9)) (fun _ => mW G A (nI 0) (nI (svm m + 1)) le dg (pullF f z) sl ik (svF sv f m) tx pl) Ar) ([.ref (A 0), .int (nI z)] : List Value).toArray s 0 0 Ar) (F0 mG 32 ls []) := by
        intro fu
        induction fu with
        | zero => intro k hk hfu; exact absurd hfu (by omega)
        | succ fu ih =>
          intro k hk hfu H locs hP hD hS ls hl
          refine lv_iload_n hx hb dX7_pull_32 rfl (lv_at hl 3 rfl) ?_
          refine lv_bipush (v := nI 9) hx hb dX7_pull_33 (by decide) ?_
          refine lv_icmp_ge (tgt := 83) hx hb dX7_pull_35 (by decide) (fun c_35 => ?_) (fun c_35 => ?_)
          · have q1 : 9 ≤ k := fe c_35 (by omega) (by omega)
            have q2 : k = 9 := by omega
            subst q2
            refine lv_aload_n hx hb dX7_pull_83 rfl (lv_at hl 0 rfl) ?_
            refine va_get (D := G.1) (ws := mW G A (nI 0) (nI (svm m + 1)) le dg f sl ik (svF sv f m) tx pl) (ci := 6) (v := .ref (A 1)) (C := RX7) (T := TX7) (N := 10) hx hb hts (fun _ h => List.mem_cons_of_mem _ (List.mem_append_right _ (h))) hown hK hP 0 rfl rfl 1 (by decide) (hts (.fieldLink RX7 7 "CreaseMapsModel" "s" "[I") (List.mem_of_getElem? (i := 1) rfl)) (fun _ h9 => h9) rfl dX7_pull_84 ?_
            refine lv_iconst (v := nI 0) hx hb dX7_pull_87 (by decide) ?_
            refine lv_dup2_11 hx hb dX7_pull_88 rfl rfl ?_
            refine va_iald (D := G.1) (ws := mW G A (nI 0) (nI (svm m + 1)) le dg f sl ik (svF sv f m) tx pl) hx hb hK hP 1 0 (n := 58) rfl rfl (by first | assumption | exact vp_in_nI (by omega) (by omega)) dX7_pull_89 ?_
            refine lv_cgi (y := f 0) rfl ?_
            refine lv_iload_n hx hb dX7_pull_90 rfl (lv_at hl 2 rfl) ?_
            refine lv_iconst (v := (-1)) hx hb dX7_pull_91 (by decide) ?_
            refine lv_ixor hx hb dX7_pull_92 ?_
            refine lv_iand hx hb dX7_pull_93 ?_
            refine va_iast (D := G.1) (ws := mW G A (nI 0) (nI (svm m + 1)) le dg f sl ik (svF sv f m) tx pl) hx hb hK hP hD hS 1 0 (n := 58) rfl rfl (by first | assumption | exact vp_in_nI (by omega) (by omega)) dX7_pull_94 (fun H locs hP hD hS => ?_)
            have hP : PP G (mW G A (nI 0) (nI (svm m + 1)) le dg (upd f 0 ((f 0) &&& ((pullS f z 9) ^^^ (-1)))) sl ik (svF sv f m) tx pl) H := hP
            have hD : va_D Ar (mW G A (nI 0) (nI (svm m + 1)) le dg (upd f 0 ((f 0) &&& ((pullS f z 9) ^^^ (-1)))) sl ik (svF sv f m) tx pl) := hD
            refine lv_aload_n hx hb dX7_pull_95 rfl (lv_at hl 0 rfl) ?_
            refine va_get (D := G.1) (ws := mW G A (nI 0) (nI (svm m + 1)) le dg (upd f 0 ((f 0) &&& ((pullS f z 9) ^^^ (-1)))) sl ik (svF sv f m) tx pl) (ci := 6) (v := .ref (A 1)) (C := RX7) (T := TX7) (N := 10) hx hb hts (fun _ h => List.mem_cons_of_mem _ (List.mem_append_right _ (h))) hown hK hP 0 rfl rfl 1 (by decide) (hts (.fieldLink RX7 7 "CreaseMapsModel" "s" "[I") (List.mem_of_getElem? (i := 1) rfl)) (fun _ h9 => h9) rfl dX7_pull_96 ?_
            refine lv_iconst (v := nI 1) hx hb dX7_pull_99 (by decide) ?_
            refine lv_dup2_11 hx hb dX7_pull_100 rfl rfl ?_
            refine va_iald (D := G.1) (ws := mW G A (nI 0) (nI (svm m + 1)) le dg (upd f 0 ((f 0) &&& ((pullS f z 9) ^^^ (-1)))) sl ik (svF sv f m) tx pl) hx hb hK hP 1 0 (n := 58) rfl rfl (by first | assumption | exact vp_in_nI (by omega) (by omega)) dX7_pull_101 ?_
            refine lv_cgi (y := (upd f 0 ((f 0) &&& ((pullS f z 9) ^^^ (-1)))) 1) rfl ?_
            refine lv_iload_n hx hb dX7_pull_102 rfl (lv_at hl 2 rfl) ?_
            refine lv_ior hx hb dX7_pull_103 ?_
            refine va_iast (D := G.1) (ws := mW G A (nI 0) (nI (svm m + 1)) le dg (upd f 0 ((f 0) &&& ((pullS f z 9) ^^^ (-1)))) sl ik (svF sv f m) tx pl) hx hb hK hP hD hS 1 0 (n := 58) rfl rfl (by first | assumption | exact vp_in_nI (by omega) (by omega)) dX7_pull_104 (fun H locs hP hD hS => ?_)
            have hP : PP G (mW G A (nI 0) (nI (svm m + 1)) le dg (upd (upd f 0 ((f 0) &&& ((pullS f z 9) ^^^ (-1)))) 1 (((upd f 0 ((f 0) &&& ((pullS f z 9) ^^^ (-1)))) 1) ||| (pullS f z 9))) sl ik (svF sv f m) tx pl) H := hP
            have hD : va_D Ar (mW G A (nI 0) (nI (svm m + 1)) le dg (upd (upd f 0 ((f 0) &&& ((pullS f z 9) ^^^ (-1)))) 1 (((upd f 0 ((f 0) &&& ((pullS f z 9) ^^^ (-1)))) 1) ||| (pullS f z 9))) sl ik (svF sv f m) tx pl) := hD
            refine lv_iload_n hx hb dX7_pull_105 rfl (lv_at hl 2 rfl) ?_
            refine lv_if_le (tgt := 116) hx hb dX7_pull_106 (by decide) (fun c_106 => ?_) (fun c_106 => ?_)
            · refine lv_iconst (v := nI 0) hx hb dX7_pull_116 (by decide) ?_
              refine lv_istore_n (lv' := [(3, .int (nI 0)), (0, .ref (A 0)), (1, .int (nI z)), (2, .int (pullS f z 9))]) hx hb dX7_pull_117 rfl hl (by decide) rfl (fun ls hl => ?_)
              refine lv_iload_n hx hb dX7_pull_118 rfl (lv_at hl 3 rfl) ?_
              refine rd_go (va_runS (As := [.int (pullS f z 9)]) (rest := []) ⟨hx, hb, hml, hown, hts⟩ (c_X7_bits l G (pullS f z 9)) (va_cwS 1 hts gX7_pull_X7_bits rfl rfl rfl (by decide +kernel) ⟨Nat.le_of_ble_eq_true rfl, Nat.le_of_ble_eq_true rfl⟩) (rS (ws := []) hK hN P_nil) rfl rfl hl.1 rfl (lv_room (Nat.le_of_ble_eq_true rfl)) dX7_pull_119 ⟨Nat.le_of_ble_eq_true rfl, Nat.le_of_ble_eq_true rfl⟩) ?_
              exact wr_iret (S := Unit) (out := fun _ => mW G A (nI 0) (nI (svm m + 1)) le dg (pullF f z) sl ik (svF sv f m) tx pl) () hx hb hr hlocks (PP_as hP (by unfold pullF; first | (rw [if_pos c_106]; done) | (rw [if_neg c_106]; done))) (D_as hD (by unfold pullF; first | (rw [if_pos c_106]; done) | (rw [if_neg c_106]; done))) hS (Nat.le_of_ble_eq_true rfl) (Nat.le_of_ble_eq_true rfl) (by rfl) dX7_pull_122
            · refine lv_aload_n hx hb dX7_pull_109 rfl (lv_at hl 0 rfl) ?_
              refine wr_goi (pre := []) (mid := mW G A (nI 0) (nI (svm m + 1)) le dg (upd (upd f 0 ((f 0) &&& ((pullS f z 9) ^^^ (-1)))) 1 (((upd f 0 ((f 0) &&& ((pullS f z 9) ^^^ (-1)))) 1) ||| (pullS f z 9))) sl ik (svF sv f m) tx pl) (suf := []) (va_runV (As := []) (rest := []) ⟨hx, hb, hml, hown, hts⟩ (c_X7_takesAway l G _ A (nI 0) (nI (svm m + 1)) le dg (upd (upd f 0 ((f 0) &&& ((pullS f z 9) ^^^ (-1)))) 1 (((upd f 0 ((f 0) &&& ((pullS f z 9) ^^^ (-1)))) 1) ||| (pullS f z 9))) sl ik (svF sv f m) tx pl ) (cwV 0 hts gX7_pull_X7_takesAway rfl rfl rfl (by decide +kernel) ⟨Nat.le_of_ble_eq_true rfl, Nat.le_of_ble_eq_true rfl⟩) (wV (pre := []) (mid := mW G A (nI 0) (nI (svm m + 1)) le dg (upd (upd f 0 ((f 0) &&& ((pullS f z 9) ^^^ (-1)))) 1 (((upd f 0 ((f 0) &&& ((pullS f z 9) ^^^ (-1)))) 1) ||| (pullS f z 9))) sl ik (svF sv f m) tx pl) (suf := []) (va_recv (ws := mW G A (nI 0) (nI (svm m + 1)) le dg (upd (upd f 0 ((f 0) &&& ((pullS f z 9) ^^^ (-1)))) 1 (((upd f 0 ((f 0) &&& ((pullS f z 9) ^^^ (-1)))) 1) ||| (pullS f z 9))) sl ik (svF sv f m) tx pl) hK hP (ci := 6) (q0 := 0) rfl rfl) hK hN hP hD) rfl rfl hl.1 rfl (lv_room (Nat.le_of_ble_eq_true rfl)) dX7_pull_110 ⟨Nat.le_of_ble_eq_true rfl, Nat.le_of_ble_eq_true rfl⟩) hP hD hS hA (fun r _ H locs hw hP hD hS => ?_)
              subst hw
              have hP : PP G (mW G A (nI 0) (nI (svm m + 1)) le dg (zA (upd (upd f 0 ((f 0) &&& ((pullS f z 9) ^^^ (-1)))) 1 (((upd f 0 ((f 0) &&& ((pullS f z 9) ^^^ (-1)))) 1) ||| (pullS f z 9))) 54) sl ik (svF sv f m) tx pl) H := hP
              have hD : va_D Ar (mW G A (nI 0) (nI (svm m + 1)) le dg (zA (upd (upd f 0 ((f 0) &&& ((pullS f z 9) ^^^ (-1)))) 1 (((upd f 0 ((f 0) &&& ((pullS f z 9) ^^^ (-1)))) 1) ||| (pullS f z 9))) 54) sl ik (svF sv f m) tx pl) := hD
              refine lv_goto (tgt := 117) hx hb dX7_pull_113 (by decide) ?_
              refine lv_istore_n (lv' := [(3, .int ((upd (upd f 0 ((f 0) &&& ((pullS f z 9) ^^^ (-1)))) 1 (((upd f 0 ((f 0) &&& ((pullS f z 9) ^^^ (-1)))) 1) ||| (pullS f z 9))) 17)), (0, .ref (A 0)), (1, .int (nI z)), (2, .int (pullS f z 9))]) hx hb dX7_pull_117 rfl hl (by decide) rfl (fun ls hl => ?_)
              refine lv_iload_n hx hb dX7_pull_118 rfl (lv_at hl 3 rfl) ?_
              refine rd_go (va_runS (As := [.int (pullS f z 9)]) (rest := []) ⟨hx, hb, hml, hown, hts⟩ (c_X7_bits l G (pullS f z 9)) (va_cwS 1 hts gX7_pull_X7_bits rfl rfl rfl (by decide +kernel) ⟨Nat.le_of_ble_eq_true rfl, Nat.le_of_ble_eq_true rfl⟩) (rS (ws := []) hK hN P_nil) rfl rfl hl.1 rfl (lv_room (Nat.le_of_ble_eq_true rfl)) dX7_pull_119 ⟨Nat.le_of_ble_eq_true rfl, Nat.le_of_ble_eq_true rfl⟩) ?_
              exact wr_iret (S := Unit) (out := fun _ => mW G A (nI 0) (nI (svm m + 1)) le dg (pullF f z) sl ik (svF sv f m) tx pl) () hx hb hr hlocks (PP_as hP (by unfold pullF; first | (rw [if_pos c_106]; done) | (rw [if_neg c_106]; done))) (D_as hD (by unfold pullF; first | (rw [if_pos c_106]; done) | (rw [if_neg c_106]; done))) hS (Nat.le_of_ble_eq_true rfl) (Nat.le_of_ble_eq_true rfl) (by rfl) dX7_pull_122
          · have q1 : k < 9 := fl c_35 (by omega) (by omega)
            refine lv_iload_n hx hb dX7_pull_38 rfl (lv_at hl 2 rfl) ?_
            refine lv_aload_n hx hb dX7_pull_39 rfl (lv_at hl 0 rfl) ?_
            refine va_get (D := G.1) (ws := mW G A (nI 0) (nI (svm m + 1)) le dg f sl ik (svF sv f m) tx pl) (ci := 6) (v := .ref (A 1)) (C := RX7) (T := TX7) (N := 10) hx hb hts (fun _ h => List.mem_cons_of_mem _ (List.mem_append_right _ (h))) hown hK hP 0 rfl rfl 1 (by decide) (hts (.fieldLink RX7 7 "CreaseMapsModel" "s" "[I") (List.mem_of_getElem? (i := 1) rfl)) (fun _ h9 => h9) rfl dX7_pull_40 ?_
            refine lv_iconst (v := nI 0) hx hb dX7_pull_43 (by decide) ?_
            refine va_iald (D := G.1) (ws := mW G A (nI 0) (nI (svm m + 1)) le dg f sl ik (svF sv f m) tx pl) hx hb hK hP 1 0 (n := 58) rfl rfl (by first | assumption | exact vp_in_nI (by omega) (by omega)) dX7_pull_44 ?_
            refine lv_cgi (y := f 0) rfl ?_
            refine lv_iload_n hx hb dX7_pull_45 rfl (lv_at hl 3 rfl) ?_
            refine lv_ishr hx hb dX7_pull_46 ?_
            refine lv_iconst (v := nI 1) hx hb dX7_pull_47 (by decide) ?_
            refine lv_iand hx hb dX7_pull_48 ?_
            refine lv_iconst (v := nI 1) hx hb dX7_pull_49 (by decide) ?_
            refine lv_icmp_ne (tgt := 74) hx hb dX7_pull_50 (by decide) (fun c_50 => ?_) (fun c_50 => ?_)
            · refine lv_iconst (v := nI 0) hx hb dX7_pull_74 (by decide) ?_
              refine lv_ior hx hb dX7_pull_75 ?_
              refine lv_istore_n (lv' := [(2, .int ((pullS f z k) ||| (nI 0))), (0, .ref (A 0)), (1, .int (nI z)), (3, .int (nI k))]) hx hb dX7_pull_76 rfl hl (by decide) rfl (fun ls hl => ?_)
              refine lv_iinc (v := nI (k + 1)) (lv' := [(3, .int (nI (k + 1))), (2, .int ((pullS f z k) ||| (nI 0))), (0, .ref (A 0)), (1, .int (nI z))]) hx hb dX7_pull_77 hl (k := 3) rfl (iincN k) (by decide) rfl (fun ls hl => ?_)
              refine lv_goto (tgt := 32) hx hb dX7_pull_80 (by decide) ?_
              exact ih (k + 1) (by omega) (by omega) _ _ hP hD hS ls (lv_as (l1 := [(0, .ref (A 0)), (1, .int (nI z)), (2, .int ((pullS f z k) ||| (nI 0))), (3, .int (nI (k + 1)))]) (lv_sub hl [2, 3, 1, 0] rfl) (by rw [pullS]; simp [c_8, c_19, c_35, c_50]))
            · refine lv_aload_n hx hb dX7_pull_53 rfl (lv_at hl 0 rfl) ?_
              refine va_get (D := G.1) (ws := mW G A (nI 0) (nI (svm m + 1)) le dg f sl ik (svF sv f m) tx pl) (ci := 6) (v := .ref (A 1)) (C := RX7) (T := TX7) (N := 10) hx hb hts (fun _ h => List.mem_cons_of_mem _ (List.mem_append_right _ (h))) hown hK hP 0 rfl rfl 1 (by decide) (hts (.fieldLink RX7 7 "CreaseMapsModel" "s" "[I") (List.mem_of_getElem? (i := 1) rfl)) (fun _ h9 => h9) rfl dX7_pull_54 ?_
              refine lv_iconst (v := nI 2) hx hb dX7_pull_57 (by decide) ?_
              refine lv_iload_n hx hb dX7_pull_58 rfl (lv_at hl 3 rfl) ?_
              refine lv_iadd hx hb dX7_pull_59 ?_
              refine lv_cgi (y := nI (2 + k)) (nI_add _ _) ?_
              refine va_iald (D := G.1) (ws := mW G A (nI 0) (nI (svm m + 1)) le dg f sl ik (svF sv f m) tx pl) hx hb hK hP 1 0 (n := 58) rfl rfl (by first | assumption | exact vp_in_nI (by omega) (by omega)) dX7_pull_60 ?_
              refine lv_cgi (y := f (2 + k)) (by rw [nI_clamp (by omega)]) ?_
              refine lv_bipush (v := nI 10) hx hb dX7_pull_61 (by decide) ?_
              refine lv_iload_n hx hb dX7_pull_63 rfl (lv_at hl 1 rfl) ?_
              refine lv_isub hx hb dX7_pull_64 ?_
              refine lv_cgi (y := nI (10 - z)) (pk_sub (by omega)) ?_
              refine lv_icmp_lt (tgt := 74) hx hb dX7_pull_65 (by decide) (fun c_65 => ?_) (fun c_65 => ?_)
              · refine lv_iconst (v := nI 0) hx hb dX7_pull_74 (by decide) ?_
                refine lv_ior hx hb dX7_pull_75 ?_
                refine lv_istore_n (lv' := [(2, .int ((pullS f z k) ||| (nI 0))), (0, .ref (A 0)), (1, .int (nI z)), (3, .int (nI k))]) hx hb dX7_pull_76 rfl hl (by decide) rfl (fun ls hl => ?_)
                refine lv_iinc (v := nI (k + 1)) (lv' := [(3, .int (nI (k + 1))), (2, .int ((pullS f z k) ||| (nI 0))), (0, .ref (A 0)), (1, .int (nI z))]) hx hb dX7_pull_77 hl (k := 3) rfl (iincN k) (by decide) rfl (fun ls hl => ?_)
                refine lv_goto (tgt := 32) hx hb dX7_pull_80 (by decide) ?_
                exact ih (k + 1) (by omega) (by omega) _ _ hP hD hS ls (lv_as (l1 := [(0, .ref (A 0)), (1, .int (nI z)), (2, .int ((pullS f z k) ||| (nI 0))), (3, .int (nI (k + 1)))]) (lv_sub hl [2, 3, 1, 0] rfl) (by rw [pullS]; simp [c_8, c_19, c_35, c_50, c_65]))
              · refine lv_iconst (v := nI 1) hx hb dX7_pull_68 (by decide) ?_
                refine lv_iload_n hx hb dX7_pull_69 rfl (lv_at hl 3 rfl) ?_
                refine lv_ishl hx hb dX7_pull_70 ?_
                refine lv_goto (tgt := 75) hx hb dX7_pull_71 (by decide) ?_
                refine lv_ior hx hb dX7_pull_75 ?_
                refine lv_istore_n (lv' := [(2, .int ((pullS f z k) ||| ((nI 1) <<< ((nI k) &&& 31)))), (0, .ref (A 0)), (1, .int (nI z)), (3, .int (nI k))]) hx hb dX7_pull_76 rfl hl (by decide) rfl (fun ls hl => ?_)
                refine lv_iinc (v := nI (k + 1)) (lv' := [(3, .int (nI (k + 1))), (2, .int ((pullS f z k) ||| ((nI 1) <<< ((nI k) &&& 31)))), (0, .ref (A 0)), (1, .int (nI z))]) hx hb dX7_pull_77 hl (k := 3) rfl (iincN k) (by decide) rfl (fun ls hl => ?_)
                refine lv_goto (tgt := 32) hx hb dX7_pull_80 (by decide) ?_
                exact ih (k + 1) (by omega) (by omega) _ _ hP hD hS ls (lv_as (l1 := [(0, .ref (A 0)), (1, .int (nI z)), (2, .int ((pullS f z k) ||| ((nI 1) <<< ((nI k) &&& 31)))), (3, .int (nI (k + 1)))]) (lv_sub hl [2, 3, 1, 0] rfl) (by rw [pullS]; simp [c_8, c_19, c_35, c_50, c_65]))
      exact L32 10 0 (by omega) (by omega) _ _ hP hD hS ls (lv_as (l1 := [(0, .ref (A 0)), (1, .int (nI z)), (2, .int (nI 0)), (3, .int (nI 0))]) (lv_sub hl [2, 3, 1, 0] rfl) (by rfl))
    · exact absurd c_19 (by decide)

set_option maxHeartbeats 4000000 in
set_option maxRecDepth 100000 in
theorem c_X7_pull_no (l : Launch) (G : GG) (sz : Nat) (A : Nat → Nat) (th le : Int32) (dg : Int64) (f sl ik sv tx pl : Nat → Int32) (m : Nat) (hm : m ≤ 6) (x : Int32) (hx0 : ¬ inB x (nI 1) (nI 9)) : WRi l yX7_pull wsX7_pull 3 G [.ref (A 0), .int x] (mW G A th (nI m) le dg f sl ik sv tx pl) sz (S := Unit) (fun r _ => r = nI 0) (fun _ => mW G A (nI 1) (nI m) le dg f sl ik sv tx pl) 0 0 := by
  refine wr_of (cc := cX7_pull) (maxL := 4) (ret := (some .int)) (Qc := fun Ar => wQi G (S := Unit) (fun r _ => r = nI 0) (fun _ => mW G A (nI 1) (nI m) le dg f sl ik sv tx pl) Ar) (by decide) rfl (Nat.le_of_ble_eq_true rfl) ?_
  intro pG eG s mG below meth cG hsz hx hb hr hml hts hown hlocks hnm hP hK hN Ar hD hA hS ls hl
  have hown : s.vm.findClass RX7 = some mG.cls := hown
  have hP : PP G (mW G A th (nI m) le dg f sl ik sv tx pl) s.heap := hP
  have hD : va_D Ar (mW G A th (nI m) le dg f sl ik sv tx pl) := hD
  have hl : lv_has ls 4 [(0, .ref (A 0)), (1, .int x)] := hl
  refine lv_aload_n hx hb dX7_pull_0 rfl (lv_at hl 0 rfl) ?_
  refine lv_iload_n hx hb dX7_pull_1 rfl (lv_at hl 1 rfl) ?_
  refine lv_iconst (v := nI 1) hx hb dX7_pull_2 (by decide) ?_
  refine lv_bipush (v := nI 9) hx hb dX7_pull_3 (by decide) ?_
  refine rd_go (va_runS (As := [.int x, .int (nI 1), .int (nI 9)]) (rest := [.ref (A 0)]) ⟨hx, hb, hml, hown, hts⟩ (c_X7_in l G x (nI 1) (nI 9)) (va_cwS 3 hts gX7_pull_X7_in rfl rfl rfl (by decide +kernel) ⟨Nat.le_of_ble_eq_true rfl, Nat.le_of_ble_eq_true rfl⟩) (rS (ws := []) hK hN P_nil) rfl rfl hl.1 rfl (lv_room (Nat.le_of_ble_eq_true rfl)) dX7_pull_5 ⟨Nat.le_of_ble_eq_true rfl, Nat.le_of_ble_eq_true rfl⟩) ?_
  refine lv_cgi (y := nI 0) (b2F (hx0)) ?_
  refine lv_if_eq (tgt := 15) hx hb dX7_pull_8 (by decide) (fun c_8 => ?_) (fun c_8 => ?_)
  · refine lv_iconst (v := nI 1) hx hb dX7_pull_15 (by decide) ?_
    refine wr_goi (pre := []) (mid := mW G A th (nI m) le dg f sl ik sv tx pl) (suf := []) (va_runV (As := [.int (nI 1)]) (rest := []) ⟨hx, hb, hml, hown, hts⟩ (c_X7_holds l G _ A th (nI m) le dg f sl ik sv tx pl (nI 1)) (cwV 1 hts gX7_pull_X7_holds rfl rfl rfl (by decide +kernel) ⟨Nat.le_of_ble_eq_true rfl, Nat.le_of_ble_eq_true rfl⟩) (wV (pre := []) (mid := mW G A th (nI m) le dg f sl ik sv tx pl) (suf := []) (va_recv (ws := mW G A th (nI m) le dg f sl ik sv tx pl) hK hP (ci := 6) (q0 := 0) rfl rfl) hK hN hP hD) rfl rfl hl.1 rfl (lv_room (Nat.le_of_ble_eq_true rfl)) dX7_pull_16 ⟨Nat.le_of_ble_eq_true rfl, Nat.le_of_ble_eq_true rfl⟩) hP hD hS hA (fun r _ H locs hw hP hD hS => ?_)
    subst hw
    have hP : PP G (mW G A (nI 1) (nI m) le dg f sl ik sv tx pl) H := hP
    have hD : va_D Ar (mW G A (nI 1) (nI m) le dg f sl ik sv tx pl) := hD
    refine lv_cgi (y := nI 0) (by decide) ?_
    refine lv_if_ne (tgt := 24) hx hb dX7_pull_19 (by decide) (fun c_19 => ?_) (fun c_19 => ?_)
    · exact absurd c_19 (by decide)
    · refine lv_iconst (v := nI 0) hx hb dX7_pull_22 (by decide) ?_
      exact wr_iret (S := Unit) (out := fun _ => mW G A (nI 1) (nI m) le dg f sl ik sv tx pl) () hx hb hr hlocks hP hD hS (Nat.le_of_ble_eq_true rfl) (Nat.le_of_ble_eq_true rfl) (by rfl) dX7_pull_23
  · exact absurd c_8 (by decide)

set_option maxHeartbeats 4000000 in
set_option maxRecDepth 100000 in
theorem c_X7_anew (l : Launch) (G : GG) (sz : Nat) (A : Nat → Nat) (th sm le : Int32) (dg : Int64) (f sl ik sv tx pl : Nat → Int32) (fo : Int32) : WRv l yX7_anew wsX7_anew 2 G [.ref (A 0), .int fo] (mW G A th sm le dg f sl ik sv tx pl) sz (S := Unit) (fun _ => True) (fun _ => mW G A th sm le dg (anewF f fo) sl ik sv tx pl) 0 0 := by
  refine wr_of (cc := cX7_anew) (maxL := 3) (ret := none) (Qc := fun Ar => wQv G (S := Unit) (fun _ => True) (fun _ => mW G A th sm le dg (anewF f fo) sl ik sv tx pl) Ar) (by decide) rfl (Nat.le_of_ble_eq_true rfl) ?_
  intro pG eG s mG below meth cG hsz hx hb hr hml hts hown hlocks hnm hP hK hN Ar hD hA hS ls hl
  have hown : s.vm.findClass RX7 = some mG.cls := hown
  have hP : PP G (mW G A th sm le dg f sl ik sv tx pl) s.heap := hP
  have hD : va_D Ar (mW G A th sm le dg f sl ik sv tx pl) := hD
  have hl : lv_has ls 3 [(0, .ref (A 0)), (1, .int fo)] := hl
  refine lv_aload_n hx hb dX7_anew_0 rfl (lv_at hl 0 rfl) ?_
  refine va_get (D := G.1) (ws := mW G A th sm le dg f sl ik sv tx pl) (ci := 6) (v := .ref (A 1)) (C := RX7) (T := TX7) (N := 10) hx hb hts (fun _ h => List.mem_cons_of_mem _ (List.mem_append_right _ (h))) hown hK hP 0 rfl rfl 1 (by decide) (hts (.fieldLink RX7 7 "CreaseMapsModel" "s" "[I") (List.mem_of_getElem? (i := 1) rfl)) (fun _ h9 => h9) rfl dX7_anew_1 ?_
  refine lv_iconst (v := nI 0) hx hb dX7_anew_4 (by decide) ?_
  refine lv_iload_n hx hb dX7_anew_5 rfl (lv_at hl 1 rfl) ?_
  refine va_iast (D := G.1) (ws := mW G A th sm le dg f sl ik sv tx pl) hx hb hK hP hD hS 1 0 (n := 58) rfl rfl (by first | assumption | exact vp_in_nI (by omega) (by omega)) dX7_anew_6 (fun H locs hP hD hS => ?_)
  have hP : PP G (mW G A th sm le dg (upd f 0 fo) sl ik sv tx pl) H := hP
  have hD : va_D Ar (mW G A th sm le dg (upd f 0 fo) sl ik sv tx pl) := hD
  refine lv_aload_n hx hb dX7_anew_7 rfl (lv_at hl 0 rfl) ?_
  refine va_get (D := G.1) (ws := mW G A th sm le dg (upd f 0 fo) sl ik sv tx pl) (ci := 6) (v := .ref (A 1)) (C := RX7) (T := TX7) (N := 10) hx hb hts (fun _ h => List.mem_cons_of_mem _ (List.mem_append_right _ (h))) hown hK hP 0 rfl rfl 1 (by decide) (hts (.fieldLink RX7 7 "CreaseMapsModel" "s" "[I") (List.mem_of_getElem? (i := 1) rfl)) (fun _ h9 => h9) rfl dX7_anew_8 ?_
  refine lv_iconst (v := nI 1) hx hb dX7_anew_11 (by decide) ?_
  refine lv_iconst (v := nI 0) hx hb dX7_anew_12 (by decide) ?_
  refine va_iast (D := G.1) (ws := mW G A th sm le dg (upd f 0 fo) sl ik sv tx pl) hx hb hK hP hD hS 1 0 (n := 58) rfl rfl (by first | assumption | exact vp_in_nI (by omega) (by omega)) dX7_anew_13 (fun H locs hP hD hS => ?_)
  have hP : PP G (mW G A th sm le dg (upd (upd f 0 fo) 1 (nI 0)) sl ik sv tx pl) H := hP
  have hD : va_D Ar (mW G A th sm le dg (upd (upd f 0 fo) 1 (nI 0)) sl ik sv tx pl) := hD
  refine lv_iconst (v := nI 0) hx hb dX7_anew_14 (by decide) ?_
  refine lv_istore_n (lv' := [(2, .int (nI 0)), (0, .ref (A 0)), (1, .int fo)]) hx hb dX7_anew_15 rfl hl (by decide) rfl (fun ls hl => ?_)
  have L16 : ∀ (fu : Nat) (k : Nat) (hk : k ≤ 9), 9 + 1 ≤ k + fu → ∀ (H : Heap) (locs : List Loc), PP G (mW G A th sm le dg (zW (anewG f fo) k) sl ik sv tx pl) H → va_D Ar (mW G A th sm le dg (zW (anewG f fo) k) sl ik sv tx pl) → va_S Ar s.heap H locs → ∀ ls : Array Slot, lv_has ls 3 [(0, .ref (A 0)), (1, .int fo), (2, .int (nI k))] → W pG l eG (RM 2 0 0) s mG ([.ref (A 0), .int fo] : List Value).toArray below meth cG H locs 0 0 (MQ below (wQv G (S := Unit) (fun _ => True) (fun _ => mW G A th sm le dg (anewF f fo) sl ik sv tx pl) Ar) ([.ref (A 0), .int fo] : List Value).toArray s 0 0 Ar) (F0 mG 16 ls []) := by
    intro fu
    induction fu with
    | zero => intro k hk hfu; exact absurd hfu (by omega)
    | succ fu ih =>
      intro k hk hfu H locs hP hD hS ls hl
      refine lv_iload_n hx hb dX7_anew_16 rfl (lv_at hl 2 rfl) ?_
      refine lv_bipush (v := nI 9) hx hb dX7_anew_17 (by decide) ?_
      refine lv_icmp_ge (tgt := 37) hx hb dX7_anew_19 (by decide) (fun c_19 => ?_) (fun c_19 => ?_)
      · have q1 : 9 ≤ k := fe c_19 (by omega) (by omega)
        refine lv_aload_n hx hb dX7_anew_37 rfl (lv_at hl 0 rfl) ?_
        refine wr_goi (pre := []) (mid := mW G A th sm le dg (zW (anewG f fo) k) sl ik sv tx pl) (suf := []) (va_runV (As := []) (rest := []) ⟨hx, hb, hml, hown, hts⟩ (c_X7_takesAway l G _ A th sm le dg (zW (anewG f fo) k) sl ik sv tx pl ) (cwV 0 hts gX7_anew_X7_takesAway rfl rfl rfl (by decide +kernel) ⟨Nat.le_of_ble_eq_true rfl, Nat.le_of_ble_eq_true rfl⟩) (wV (pre := []) (mid := mW G A th sm le dg (zW (anewG f fo) k) sl ik sv tx pl) (suf := []) (va_recv (ws := mW G A th sm le dg (zW (anewG f fo) k) sl ik sv tx pl) hK hP (ci := 6) (q0 := 0) rfl rfl) hK hN hP hD) rfl rfl hl.1 rfl (lv_room (Nat.le_of_ble_eq_true rfl)) dX7_anew_38 ⟨Nat.le_of_ble_eq_true rfl, Nat.le_of_ble_eq_true rfl⟩) hP hD hS hA (fun r _ H locs hw hP hD hS => ?_)
        subst hw
        have hP : PP G (mW G A th sm le dg (zA (zW (anewG f fo) k) 54) sl ik sv tx pl) H := hP
        have hD : va_D Ar (mW G A th sm le dg (zA (zW (anewG f fo) k) 54) sl ik sv tx pl) := hD
        refine lv_istore_n (lv' := [(2, .int ((zW (anewG f fo) k) 17)), (0, .ref (A 0)), (1, .int fo)]) hx hb dX7_anew_41 rfl hl (by decide) rfl (fun ls hl => ?_)
        exact wr_vret (S := Unit) (out := fun _ => mW G A th sm le dg (anewF f fo) sl ik sv tx pl) () hx hb hr hlocks (PP_as hP (by rw [show k = 9 by omega]; rfl)) (D_as hD (by rw [show k = 9 by omega]; rfl)) hS (Nat.le_of_ble_eq_true rfl) (Nat.le_of_ble_eq_true rfl) (by trivial) dX7_anew_42
      · have q1 : k < 9 := fl c_19 (by omega) (by omega)
        refine lv_aload_n hx hb dX7_anew_22 rfl (lv_at hl 0 rfl) ?_
        refine va_get (D := G.1) (ws := mW G A th sm le dg (zW (anewG f fo) k) sl ik sv tx pl) (ci := 6) (v := .ref (A 1)) (C := RX7) (T := TX7) (N := 10) hx hb hts (fun _ h => List.mem_cons_of_mem _ (List.mem_append_right _ (h))) hown hK hP 0 rfl rfl 1 (by decide) (hts (.fieldLink RX7 7 "CreaseMapsModel" "s" "[I") (List.mem_of_getElem? (i := 1) rfl)) (fun _ h9 => h9) rfl dX7_anew_23 ?_
        refine lv_iconst (v := nI 2) hx hb dX7_anew_26 (by decide) ?_
        refine lv_iload_n hx hb dX7_anew_27 rfl (lv_at hl 2 rfl) ?_
        refine lv_iadd hx hb dX7_anew_28 ?_
        refine lv_cgi (y := nI (2 + k)) (nI_add _ _) ?_
        refine lv_iconst (v := nI 0) hx hb dX7_anew_29 (by decide) ?_
        refine va_iast (D := G.1) (ws := mW G A th sm le dg (zW (anewG f fo) k) sl ik sv tx pl) hx hb hK hP hD hS 1 0 (n := 58) rfl rfl (by first | assumption | exact vp_in_nI (by omega) (by omega)) dX7_anew_30 (fun H locs hP hD hS => ?_)
        rw [nI_clamp (by omega)] at hP hD
        have hP : PP G (mW G A th sm le dg (upd (zW (anewG f fo) k) (2 + k) (nI 0)) sl ik sv tx pl) H := hP
        have hD : va_D Ar (mW G A th sm le dg (upd (zW (anewG f fo) k) (2 + k) (nI 0)) sl ik sv tx pl) := hD
        refine lv_iinc (v := nI (k + 1)) (lv' := [(2, .int (nI (k + 1))), (0, .ref (A 0)), (1, .int fo)]) hx hb dX7_anew_31 hl (k := 2) rfl (iincN k) (by decide) rfl (fun ls hl => ?_)
        refine lv_goto (tgt := 16) hx hb dX7_anew_34 (by decide) ?_
        exact ih (k + 1) (by omega) (by omega) _ _ (PP_as hP (by rw [zW_s])) (D_as hD (by rw [zW_s])) hS ls (lv_as (l1 := [(0, .ref (A 0)), (1, .int fo), (2, .int (nI (k + 1)))]) (lv_sub hl [1, 2, 0] rfl) (by rfl))
  exact L16 10 0 (by omega) (by omega) _ _ (PP_as hP (by rw [zW_0])) (D_as hD (by rw [zW_0])) hS ls (lv_as (l1 := [(0, .ref (A 0)), (1, .int fo), (2, .int (nI 0))]) (lv_sub hl [1, 2, 0] rfl) (by rfl))

set_option maxHeartbeats 4000000 in
set_option maxRecDepth 100000 in
theorem c_X7_renew (l : Launch) (G : GG) (sz : Nat) (A : Nat → Nat) (th le : Int32) (dg : Int64) (f sl ik sv tx pl : Nat → Int32) (m : Nat) (hm : m ≤ 6) : WRi l yX7_renew wsX7_renew 3 G [.ref (A 0)] (mW G A th (nI m) le dg f sl ik sv tx pl) sz (S := Unit) (fun r _ => r = bitsM (f 1)) (fun _ => mW G A (nI 0) (nI (svm m + 1)) le dg (anewF f (nI 0)) sl ik (svF sv f m) tx pl) 0 0 := by
  refine wr_of (cc := cX7_renew) (maxL := 2) (ret := (some .int)) (Qc := fun Ar => wQi G (S := Unit) (fun r _ => r = bitsM (f 1)) (fun _ => mW G A (nI 0) (nI (svm m + 1)) le dg (anewF f (nI 0)) sl ik (svF sv f m) tx pl) Ar) (by decide) rfl (Nat.le_of_ble_eq_true rfl) ?_
  intro pG eG s mG below meth cG hsz hx hb hr hml hts hown hlocks hnm hP hK hN Ar hD hA hS ls hl
  have hown : s.vm.findClass RX7 = some mG.cls := hown
  have hP : PP G (mW G A th (nI m) le dg f sl ik sv tx pl) s.heap := hP
  have hD : va_D Ar (mW G A th (nI m) le dg f sl ik sv tx pl) := hD
  have hl : lv_has ls 2 [(0, .ref (A 0))] := hl
  refine lv_aload_n hx hb dX7_renew_0 rfl (lv_at hl 0 rfl) ?_
  refine lv_iconst (v := nI 0) hx hb dX7_renew_1 (by decide) ?_
  refine va_put (D := G.1) (ws := mW G A th (nI m) le dg f sl ik sv tx pl) (ci := 6) (v := .int (nI 0)) (ty := .int) (C := RX7) (T := TX7) (N := 10) hx hb hts (fun _ h => List.mem_cons_of_mem _ (List.mem_append_right _ (h))) tyX7 tyX7_ok nmX7 hown hK hP hD hS 0 rfl rfl 0 (by decide) (hts (.fieldLink RX7 29 "CreaseMapsModel" "thrown" "I") (List.mem_of_getElem? (i := 1) rfl)) (fun _ h9 => h9) rfl (by decide +kernel) rfl rfl (Nat.le_of_ble_eq_true rfl) dX7_renew_2 (fun H locs hP hD hS => ?_)
  have hP : PP G (mW G A (nI 0) (nI m) le dg f sl ik sv tx pl) H := hP
  have hD : va_D Ar (mW G A (nI 0) (nI m) le dg f sl ik sv tx pl) := hD
  refine lv_aload_n hx hb dX7_renew_5 rfl (lv_at hl 0 rfl) ?_
  refine wr_gov (pre := []) (mid := mW G A (nI 0) (nI m) le dg f sl ik sv tx pl) (suf := []) (va_runV (As := []) (rest := []) ⟨hx, hb, hml, hown, hts⟩ (c_X7_save l G _ A (nI 0) le dg f sl ik sv tx pl m hm) (cwV 0 hts gX7_renew_X7_save rfl rfl rfl (by decide +kernel) ⟨Nat.le_of_ble_eq_true rfl, Nat.le_of_ble_eq_true rfl⟩) (wV (pre := []) (mid := mW G A (nI 0) (nI m) le dg f sl ik sv tx pl) (suf := []) (va_recv (ws := mW G A (nI 0) (nI m) le dg f sl ik sv tx pl) hK hP (ci := 6) (q0 := 0) rfl rfl) hK hN hP hD) rfl rfl hl.1 rfl (lv_room (Nat.le_of_ble_eq_true rfl)) dX7_renew_6 ⟨Nat.le_of_ble_eq_true rfl, Nat.le_of_ble_eq_true rfl⟩) hP hD hS hA (fun _ H locs hw hP hD hS => ?_)
  have hP : PP G (mW G A (nI 0) (nI (svm m + 1)) le dg f sl ik (svF sv f m) tx pl) H := hP
  have hD : va_D Ar (mW G A (nI 0) (nI (svm m + 1)) le dg f sl ik (svF sv f m) tx pl) := hD
  refine lv_aload_n hx hb dX7_renew_9 rfl (lv_at hl 0 rfl) ?_
  refine va_get (D := G.1) (ws := mW G A (nI 0) (nI (svm m + 1)) le dg f sl ik (svF sv f m) tx pl) (ci := 6) (v := .ref (A 1)) (C := RX7) (T := TX7) (N := 10) hx hb hts (fun _ h => List.mem_cons_of_mem _ (List.mem_append_right _ (h))) hown hK hP 0 rfl rfl 1 (by decide) (hts (.fieldLink RX7 7 "CreaseMapsModel" "s" "[I") (List.mem_of_getElem? (i := 2) rfl)) (fun _ h9 => h9) rfl dX7_renew_10 ?_
  refine lv_iconst (v := nI 1) hx hb dX7_renew_13 (by decide) ?_
  refine va_iald (D := G.1) (ws := mW G A (nI 0) (nI (svm m + 1)) le dg f sl ik (svF sv f m) tx pl) hx hb hK hP 1 0 (n := 58) rfl rfl (by first | assumption | exact vp_in_nI (by omega) (by omega)) dX7_renew_14 ?_
  refine lv_cgi (y := f 1) rfl ?_
  refine rd_go (va_runS (As := [.int (f 1)]) (rest := []) ⟨hx, hb, hml, hown, hts⟩ (c_X7_bits l G (f 1)) (va_cwS 1 hts gX7_renew_X7_bits rfl rfl rfl (by decide +kernel) ⟨Nat.le_of_ble_eq_true rfl, Nat.le_of_ble_eq_true rfl⟩) (rS (ws := []) hK hN P_nil) rfl rfl hl.1 rfl (lv_room (Nat.le_of_ble_eq_true rfl)) dX7_renew_15 ⟨Nat.le_of_ble_eq_true rfl, Nat.le_of_ble_eq_true rfl⟩) ?_
  refine lv_istore_n (lv' := [(1, .int (bitsM (f 1))), (0, .ref (A 0))]) hx hb dX7_renew_18 rfl hl (by decide) rfl (fun ls hl => ?_)
  refine lv_aload_n hx hb dX7_renew_19 rfl (lv_at hl 1 rfl) ?_
  refine lv_iconst (v := nI 0) hx hb dX7_renew_20 (by decide) ?_
  refine wr_gov (pre := []) (mid := mW G A (nI 0) (nI (svm m + 1)) le dg f sl ik (svF sv f m) tx pl) (suf := []) (va_runV (As := [.int (nI 0)]) (rest := []) ⟨hx, hb, hml, hown, hts⟩ (c_X7_anew l G _ A (nI 0) (nI (svm m + 1)) le dg f sl ik (svF sv f m) tx pl (nI 0)) (cwV 1 hts gX7_renew_X7_anew rfl rfl rfl (by decide +kernel) ⟨Nat.le_of_ble_eq_true rfl, Nat.le_of_ble_eq_true rfl⟩) (wV (pre := []) (mid := mW G A (nI 0) (nI (svm m + 1)) le dg f sl ik (svF sv f m) tx pl) (suf := []) (va_recv (ws := mW G A (nI 0) (nI (svm m + 1)) le dg f sl ik (svF sv f m) tx pl) hK hP (ci := 6) (q0 := 0) rfl rfl) hK hN hP hD) rfl rfl hl.1 rfl (lv_room (Nat.le_of_ble_eq_true rfl)) dX7_renew_21 ⟨Nat.le_of_ble_eq_true rfl, Nat.le_of_ble_eq_true rfl⟩) hP hD hS hA (fun _ H locs hw hP hD hS => ?_)
  have hP : PP G (mW G A (nI 0) (nI (svm m + 1)) le dg (anewF f (nI 0)) sl ik (svF sv f m) tx pl) H := hP
  have hD : va_D Ar (mW G A (nI 0) (nI (svm m + 1)) le dg (anewF f (nI 0)) sl ik (svF sv f m) tx pl) := hD
  refine lv_iload_n hx hb dX7_renew_24 rfl (lv_at hl 0 rfl) ?_
  exact wr_iret (S := Unit) (out := fun _ => mW G A (nI 0) (nI (svm m + 1)) le dg (anewF f (nI 0)) sl ik (svF sv f m) tx pl) () hx hb hr hlocks hP hD hS (Nat.le_of_ble_eq_true rfl) (Nat.le_of_ble_eq_true rfl) (by rfl) dX7_renew_25

set_option maxHeartbeats 4000000 in
set_option maxRecDepth 100000 in
theorem c_X7_asks (l : Launch) (G : GG) (sz : Nat) (A : Nat → Nat) (th sm le : Int32) (dg : Int64) (f sl ik sv tx pl : Nat → Int32) (n : Nat) (hn : f 17 = nI n) (hn2 : n ≤ 12) (one oth : Int32) (h1 : vp_in one 10) (h2 : vp_in oth 10) : WRi l yX7_asks wsX7_asks 3 G [.ref (A 0), .int one, .int oth] (mW G A th sm le dg f sl ik sv tx pl) sz (S := Nat → Int32) (fun r _ => r = askR f n one oth) (fun u => mW G A th sm le dg (askF f n one oth) sl ik sv tx u) 0 0 := by
  refine wr_of (cc := cX7_asks) (maxL := 5) (ret := (some .int)) (Qc := fun Ar => wQi G (S := Nat → Int32) (fun r _ => r = askR f n one oth) (fun u => mW G A th sm le dg (askF f n one oth) sl ik sv tx u) Ar) (by decide) rfl (Nat.le_of_ble_eq_true rfl) ?_
  intro pG eG s mG below meth cG hsz hx hb hr hml hts hown hlocks hnm hP hK hN Ar hD hA hS ls hl
  have hown : s.vm.findClass RX7 = some mG.cls := hown
  have hP : PP G (mW G A th sm le dg f sl ik sv tx pl) s.heap := hP
  have hD : va_D Ar (mW G A th sm le dg f sl ik sv tx pl) := hD
  have hl : lv_has ls 5 [(0, .ref (A 0)), (1, .int one), (2, .int oth)] := hl
  refine lv_aload_n hx hb dX7_asks_0 rfl (lv_at hl 0 rfl) ?_
  refine va_get (D := G.1) (ws := mW G A th sm le dg f sl ik sv tx pl) (ci := 6) (v := .ref (A 1)) (C := RX7) (T := TX7) (N := 10) hx hb hts (fun _ h => List.mem_cons_of_mem _ (List.mem_append_right _ (h))) hown hK hP 0 rfl rfl 1 (by decide) (hts (.fieldLink RX7 7 "CreaseMapsModel" "s" "[I") (List.mem_of_getElem? (i := 1) rfl)) (fun _ h9 => h9) rfl dX7_asks_1 ?_
  refine lv_bipush (v := nI 17) hx hb dX7_asks_4 (by decide) ?_
  refine va_iald (D := G.1) (ws := mW G A th sm le dg f sl ik sv tx pl) hx hb hK hP 1 0 (n := 58) rfl rfl (by first | assumption | exact vp_in_nI (by omega) (by omega)) dX7_asks_6 ?_
  refine lv_cgi (y := f 17) rfl ?_
  refine lv_cgi (y := nI n) hn ?_
  refine lv_bipush (v := nI 12) hx hb dX7_asks_7 (by decide) ?_
  refine lv_icmp_eq (tgt := 22) hx hb dX7_asks_9 (by decide) (fun c_9 => ?_) (fun c_9 => ?_)
  · have q1 : refd f n one oth := Or.inl (nIe c_9 (by omega) (by omega))
    refine lv_aload_n hx hb dX7_asks_22 rfl (lv_at hl 0 rfl) ?_
    refine va_get (D := G.1) (ws := mW G A th sm le dg f sl ik sv tx pl) (ci := 6) (v := .ref (A 1)) (C := RX7) (T := TX7) (N := 10) hx hb hts (fun _ h => List.mem_cons_of_mem _ (List.mem_append_right _ (h))) hown hK hP 0 rfl rfl 1 (by decide) (hts (.fieldLink RX7 7 "CreaseMapsModel" "s" "[I") (List.mem_of_getElem? (i := 1) rfl)) (fun _ h9 => h9) rfl dX7_asks_23 ?_
    refine lv_bipush (v := nI 57) hx hb dX7_asks_26 (by decide) ?_
    refine lv_dup2_11 hx hb dX7_asks_28 rfl rfl ?_
    refine va_iald (D := G.1) (ws := mW G A th sm le dg f sl ik sv tx pl) hx hb hK hP 1 0 (n := 58) rfl rfl (by first | assumption | exact vp_in_nI (by omega) (by omega)) dX7_asks_29 ?_
    refine lv_cgi (y := f 57) rfl ?_
    refine lv_iconst (v := nI 1) hx hb dX7_asks_30 (by decide) ?_
    refine lv_iadd hx hb dX7_asks_31 ?_
    refine va_iast (D := G.1) (ws := mW G A th sm le dg f sl ik sv tx pl) hx hb hK hP hD hS 1 0 (n := 58) rfl rfl (by first | assumption | exact vp_in_nI (by omega) (by omega)) dX7_asks_32 (fun H locs hP hD hS => ?_)
    have hP : PP G (mW G A th sm le dg (upd f 57 ((f 57) + (nI 1))) sl ik sv tx pl) H := hP
    have hD : va_D Ar (mW G A th sm le dg (upd f 57 ((f 57) + (nI 1))) sl ik sv tx pl) := hD
    refine lv_iconst (v := (-1)) hx hb dX7_asks_33 (by decide) ?_
    exact wr_iret (S := Nat → Int32) (out := fun u => mW G A th sm le dg (askF f n one oth) sl ik sv tx u) pl hx hb hr hlocks (PP_as hP (by unfold askF; first | (rw [if_pos q1]; done) | (rw [if_neg q1, askH, askG, c_54]; rfl))) (D_as hD (by unfold askF; first | (rw [if_pos q1]; done) | (rw [if_neg q1, askH, askG, c_54]; rfl))) hS (Nat.le_of_ble_eq_true rfl) (Nat.le_of_ble_eq_true rfl) (by unfold askR; first | (rw [if_pos q1]; done) | (rw [if_neg q1, c_54]; rfl)) dX7_asks_34
  · have q0 : n ≠ 12 := nIn c_9
    refine lv_aload_n hx hb dX7_asks_12 rfl (lv_at hl 0 rfl) ?_
    refine lv_iload_n hx hb dX7_asks_13 rfl (lv_at hl 1 rfl) ?_
    refine lv_iload_n hx hb dX7_asks_14 rfl (lv_at hl 2 rfl) ?_
    refine rd_go (va_runV (As := [.int one, .int oth]) (rest := []) ⟨hx, hb, hml, hown, hts⟩ (c_X7_keptFor l G A th sm le dg f sl ik sv tx pl n (by assumption) hn2 one oth) (cwV 2 hts gX7_asks_X7_keptFor rfl rfl rfl (by decide +kernel) ⟨Nat.le_of_ble_eq_true rfl, Nat.le_of_ble_eq_true rfl⟩) (rV (ws := mW G A th sm le dg f sl ik sv tx pl) (va_recv (ws := mW G A th sm le dg f sl ik sv tx pl) hK hP (ci := 6) (q0 := 0) rfl rfl) hK hN hP) rfl rfl hl.1 rfl (lv_room (Nat.le_of_ble_eq_true rfl)) dX7_asks_15 ⟨Nat.le_of_ble_eq_true rfl, Nat.le_of_ble_eq_true rfl⟩) ?_
    refine lv_iconst (v := (-1)) hx hb dX7_asks_18 (by decide) ?_
    refine lv_icmp_eq (tgt := 35) hx hb dX7_asks_19 (by decide) (fun c_19 => ?_) (fun c_19 => ?_)
    · have q1 : ¬ refd f n one oth := fun h => h.elim q0 (fun h => h c_19)
      refine lv_bipush (v := nI 18) hx hb dX7_asks_35 (by decide) ?_
      refine lv_iconst (v := nI 3) hx hb dX7_asks_37 (by decide) ?_
      refine lv_aload_n hx hb dX7_asks_38 rfl (lv_at hl 0 rfl) ?_
      refine va_get (D := G.1) (ws := mW G A th sm le dg f sl ik sv tx pl) (ci := 6) (v := .ref (A 1)) (C := RX7) (T := TX7) (N := 10) hx hb hts (fun _ h => List.mem_cons_of_mem _ (List.mem_append_right _ (h))) hown hK hP 0 rfl rfl 1 (by decide) (hts (.fieldLink RX7 7 "CreaseMapsModel" "s" "[I") (List.mem_of_getElem? (i := 1) rfl)) (fun _ h9 => h9) rfl dX7_asks_39 ?_
      refine lv_bipush (v := nI 17) hx hb dX7_asks_42 (by decide) ?_
      refine va_iald (D := G.1) (ws := mW G A th sm le dg f sl ik sv tx pl) hx hb hK hP 1 0 (n := 58) rfl rfl (by first | assumption | exact vp_in_nI (by omega) (by omega)) dX7_asks_44 ?_
      refine lv_cgi (y := f 17) rfl ?_
      refine lv_cgi (y := nI n) hn ?_
      refine lv_imul hx hb dX7_asks_45 ?_
      refine lv_cgi (y := nI (3 * n)) (pk_mul _ _) ?_
      refine lv_iadd hx hb dX7_asks_46 ?_
      refine lv_cgi (y := nI (18 + (3 * n))) (nI_add _ _) ?_
      refine lv_istore_n (lv' := [(3, .int (nI (18 + (3 * n)))), (0, .ref (A 0)), (1, .int one), (2, .int oth)]) hx hb dX7_asks_47 rfl hl (by decide) rfl (fun ls hl => ?_)
      refine lv_aload_n hx hb dX7_asks_48 rfl (lv_at hl 1 rfl) ?_
      refine lv_iload_n hx hb dX7_asks_49 rfl (lv_at hl 2 rfl) ?_
      refine lv_iload_n hx hb dX7_asks_50 rfl (lv_at hl 3 rfl) ?_
      refine wr_goi (pre := []) (mid := mW G A th sm le dg f sl ik sv tx pl) (suf := []) (va_runV (As := [.int one, .int oth]) (rest := []) ⟨hx, hb, hml, hown, hts⟩ (c_X7_touch l G _ A th sm le dg f sl ik sv tx pl one oth (by assumption) (by assumption)) (cwV 2 hts gX7_asks_X7_touch rfl rfl rfl (by decide +kernel) ⟨Nat.le_of_ble_eq_true rfl, Nat.le_of_ble_eq_true rfl⟩) (wV (pre := []) (mid := mW G A th sm le dg f sl ik sv tx pl) (suf := []) (va_recv (ws := mW G A th sm le dg f sl ik sv tx pl) hK hP (ci := 6) (q0 := 0) rfl rfl) hK hN hP hD) rfl rfl hl.1 rfl (lv_room (Nat.le_of_ble_eq_true rfl)) dX7_asks_51 ⟨Nat.le_of_ble_eq_true rfl, Nat.le_of_ble_eq_true rfl⟩) hP hD hS hA (fun r u_1 H locs hw hP hD hS => ?_)
      subst hw
      have hP : PP G (mW G A th sm le dg f sl ik sv tx u_1) H := hP
      have hD : va_D Ar (mW G A th sm le dg f sl ik sv tx u_1) := hD
      refine lv_if_eq (tgt := 61) hx hb dX7_asks_54 (by decide) (fun c_54 => ?_) (fun c_54 => ?_)
      · have c_54 := b2_eq c_54
        refine lv_iconst (v := nI 0) hx hb dX7_asks_61 (by decide) ?_
        refine lv_istore (lv' := [(4, .int (nI 0)), (3, .int (nI (18 + (3 * n)))), (0, .ref (A 0)), (1, .int one), (2, .int oth)]) hx hb dX7_asks_62 hl (by decide) rfl (fun ls hl => ?_)
        refine lv_aload_n hx hb dX7_asks_64 rfl (lv_at hl 2 rfl) ?_
        refine va_get (D := G.1) (ws := mW G A th sm le dg f sl ik sv tx u_1) (ci := 6) (v := .ref (A 1)) (C := RX7) (T := TX7) (N := 10) hx hb hts (fun _ h => List.mem_cons_of_mem _ (List.mem_append_right _ (h))) hown hK hP 0 rfl rfl 1 (by decide) (hts (.fieldLink RX7 7 "CreaseMapsModel" "s" "[I") (List.mem_of_getElem? (i := 1) rfl)) (fun _ h9 => h9) rfl dX7_asks_65 ?_
        refine lv_iload_n hx hb dX7_asks_68 rfl (lv_at hl 1 rfl) ?_
        refine lv_iload_n hx hb dX7_asks_69 rfl (lv_at hl 3 rfl) ?_
        refine va_iast (D := G.1) (ws := mW G A th sm le dg f sl ik sv tx u_1) hx hb hK hP hD hS 1 0 (n := 58) rfl rfl (by first | assumption | exact vp_in_nI (by omega) (by omega)) dX7_asks_70 (fun H locs hP hD hS => ?_)
        rw [nI_clamp (by omega)] at hP hD
        have hP : PP G (mW G A th sm le dg (upd f (18 + (3 * n)) one) sl ik sv tx u_1) H := hP
        have hD : va_D Ar (mW G A th sm le dg (upd f (18 + (3 * n)) one) sl ik sv tx u_1) := hD
        refine lv_aload_n hx hb dX7_asks_71 rfl (lv_at hl 2 rfl) ?_
        refine va_get (D := G.1) (ws := mW G A th sm le dg (upd f (18 + (3 * n)) one) sl ik sv tx u_1) (ci := 6) (v := .ref (A 1)) (C := RX7) (T := TX7) (N := 10) hx hb hts (fun _ h => List.mem_cons_of_mem _ (List.mem_append_right _ (h))) hown hK hP 0 rfl rfl 1 (by decide) (hts (.fieldLink RX7 7 "CreaseMapsModel" "s" "[I") (List.mem_of_getElem? (i := 1) rfl)) (fun _ h9 => h9) rfl dX7_asks_72 ?_
        refine lv_iload_n hx hb dX7_asks_75 rfl (lv_at hl 1 rfl) ?_
        refine lv_iconst (v := nI 1) hx hb dX7_asks_76 (by decide) ?_
        refine lv_iadd hx hb dX7_asks_77 ?_
        refine lv_cgi (y := nI ((18 + (3 * n)) + 1)) (nI_add _ _) ?_
        refine lv_iload_n hx hb dX7_asks_78 rfl (lv_at hl 4 rfl) ?_
        refine va_iast (D := G.1) (ws := mW G A th sm le dg (upd f (18 + (3 * n)) one) sl ik sv tx u_1) hx hb hK hP hD hS 1 0 (n := 58) rfl rfl (by first | assumption | exact vp_in_nI (by omega) (by omega)) dX7_asks_79 (fun H locs hP hD hS => ?_)
        rw [nI_clamp (by omega)] at hP hD
        have hP : PP G (mW G A th sm le dg (upd (upd f (18 + (3 * n)) one) ((18 + (3 * n)) + 1) oth) sl ik sv tx u_1) H := hP
        have hD : va_D Ar (mW G A th sm le dg (upd (upd f (18 + (3 * n)) one) ((18 + (3 * n)) + 1) oth) sl ik sv tx u_1) := hD
        refine lv_aload_n hx hb dX7_asks_80 rfl (lv_at hl 2 rfl) ?_
        refine va_get (D := G.1) (ws := mW G A th sm le dg (upd (upd f (18 + (3 * n)) one) ((18 + (3 * n)) + 1) oth) sl ik sv tx u_1) (ci := 6) (v := .ref (A 1)) (C := RX7) (T := TX7) (N := 10) hx hb hts (fun _ h => List.mem_cons_of_mem _ (List.mem_append_right _ (h))) hown hK hP 0 rfl rfl 1 (by decide) (hts (.fieldLink RX7 7 "CreaseMapsModel" "s" "[I") (List.mem_of_getElem? (i := 1) rfl)) (fun _ h9 => h9) rfl dX7_asks_81 ?_
        refine lv_iload_n hx hb dX7_asks_84 rfl (lv_at hl 1 rfl) ?_
        refine lv_iconst (v := nI 2) hx hb dX7_asks_85 (by decide) ?_
        refine lv_iadd hx hb dX7_asks_86 ?_
        refine lv_cgi (y := nI ((18 + (3 * n)) + 2)) (nI_add _ _) ?_
        refine lv_iload hx hb dX7_asks_87 (lv_at hl 0 rfl) ?_
        refine va_iast (D := G.1) (ws := mW G A th sm le dg (upd (upd f (18 + (3 * n)) one) ((18 + (3 * n)) + 1) oth) sl ik sv tx u_1) hx hb hK hP hD hS 1 0 (n := 58) rfl rfl (by first | assumption | exact vp_in_nI (by omega) (by omega)) dX7_asks_89 (fun H locs hP hD hS => ?_)
        rw [nI_clamp (by omega)] at hP hD
        have hP : PP G (mW G A th sm le dg (upd (upd (upd f (18 + (3 * n)) one) ((18 + (3 * n)) + 1) oth) ((18 + (3 * n)) + 2) (nI 0)) sl ik sv tx u_1) H := hP
        have hD : va_D Ar (mW G A th sm le dg (upd (upd (upd f (18 + (3 * n)) one) ((18 + (3 * n)) + 1) oth) ((18 + (3 * n)) + 2) (nI 0)) sl ik sv tx u_1) := hD
        refine lv_aload_n hx hb dX7_asks_90 rfl (lv_at hl 2 rfl) ?_
        refine va_get (D := G.1) (ws := mW G A th sm le dg (upd (upd (upd f (18 + (3 * n)) one) ((18 + (3 * n)) + 1) oth) ((18 + (3 * n)) + 2) (nI 0)) sl ik sv tx u_1) (ci := 6) (v := .ref (A 1)) (C := RX7) (T := TX7) (N := 10) hx hb hts (fun _ h => List.mem_cons_of_mem _ (List.mem_append_right _ (h))) hown hK hP 0 rfl rfl 1 (by decide) (hts (.fieldLink RX7 7 "CreaseMapsModel" "s" "[I") (List.mem_of_getElem? (i := 1) rfl)) (fun _ h9 => h9) rfl dX7_asks_91 ?_
        refine lv_bipush (v := nI 17) hx hb dX7_asks_94 (by decide) ?_
        refine lv_dup2_11 hx hb dX7_asks_96 rfl rfl ?_
        refine va_iald (D := G.1) (ws := mW G A th sm le dg (upd (upd (upd f (18 + (3 * n)) one) ((18 + (3 * n)) + 1) oth) ((18 + (3 * n)) + 2) (nI 0)) sl ik sv tx u_1) hx hb hK hP 1 0 (n := 58) rfl rfl (by first | assumption | exact vp_in_nI (by omega) (by omega)) dX7_asks_97 ?_
        refine lv_cgi (y := (upd (upd (upd f (18 + (3 * n)) one) ((18 + (3 * n)) + 1) oth) ((18 + (3 * n)) + 2) (nI 0)) 17) rfl ?_
        refine lv_iconst (v := nI 1) hx hb dX7_asks_98 (by decide) ?_
        refine lv_iadd hx hb dX7_asks_99 ?_
        refine va_iast (D := G.1) (ws := mW G A th sm le dg (upd (upd (upd f (18 + (3 * n)) one) ((18 + (3 * n)) + 1) oth) ((18 + (3 * n)) + 2) (nI 0)) sl ik sv tx u_1) hx hb hK hP hD hS 1 0 (n := 58) rfl rfl (by first | assumption | exact vp_in_nI (by omega) (by omega)) dX7_asks_100 (fun H locs hP hD hS => ?_)
        have hP : PP G (mW G A th sm le dg (upd (upd (upd (upd f (18 + (3 * n)) one) ((18 + (3 * n)) + 1) oth) ((18 + (3 * n)) + 2) (nI 0)) 17 (((upd (upd (upd f (18 + (3 * n)) one) ((18 + (3 * n)) + 1) oth) ((18 + (3 * n)) + 2) (nI 0)) 17) + (nI 1))) sl ik sv tx u_1) H := hP
        have hD : va_D Ar (mW G A th sm le dg (upd (upd (upd (upd f (18 + (3 * n)) one) ((18 + (3 * n)) + 1) oth) ((18 + (3 * n)) + 2) (nI 0)) 17 (((upd (upd (upd f (18 + (3 * n)) one) ((18 + (3 * n)) + 1) oth) ((18 + (3 * n)) + 2) (nI 0)) 17) + (nI 1))) sl ik sv tx u_1) := hD
        refine lv_aload_n hx hb dX7_asks_101 rfl (lv_at hl 2 rfl) ?_
        refine va_get (D := G.1) (ws := mW G A th sm le dg (upd (upd (upd (upd f (18 + (3 * n)) one) ((18 + (3 * n)) + 1) oth) ((18 + (3 * n)) + 2) (nI 0)) 17 (((upd (upd (upd f (18 + (3 * n)) one) ((18 + (3 * n)) + 1) oth) ((18 + (3 * n)) + 2) (nI 0)) 17) + (nI 1))) sl ik sv tx u_1) (ci := 6) (v := .ref (A 1)) (C := RX7) (T := TX7) (N := 10) hx hb hts (fun _ h => List.mem_cons_of_mem _ (List.mem_append_right _ (h))) hown hK hP 0 rfl rfl 1 (by decide) (hts (.fieldLink RX7 7 "CreaseMapsModel" "s" "[I") (List.mem_of_getElem? (i := 1) rfl)) (fun _ h9 => h9) rfl dX7_asks_102 ?_
        refine lv_bipush (v := nI 54) hx hb dX7_asks_105 (by decide) ?_
        refine lv_dup2_11 hx hb dX7_asks_107 rfl rfl ?_
        refine va_iald (D := G.1) (ws := mW G A th sm le dg (upd (upd (upd (upd f (18 + (3 * n)) one) ((18 + (3 * n)) + 1) oth) ((18 + (3 * n)) + 2) (nI 0)) 17 (((upd (upd (upd f (18 + (3 * n)) one) ((18 + (3 * n)) + 1) oth) ((18 + (3 * n)) + 2) (nI 0)) 17) + (nI 1))) sl ik sv tx u_1) hx hb hK hP 1 0 (n := 58) rfl rfl (by first | assumption | exact vp_in_nI (by omega) (by omega)) dX7_asks_108 ?_
        refine lv_cgi (y := (upd (upd (upd (upd f (18 + (3 * n)) one) ((18 + (3 * n)) + 1) oth) ((18 + (3 * n)) + 2) (nI 0)) 17 (((upd (upd (upd f (18 + (3 * n)) one) ((18 + (3 * n)) + 1) oth) ((18 + (3 * n)) + 2) (nI 0)) 17) + (nI 1))) 54) rfl ?_
        refine lv_iconst (v := nI 1) hx hb dX7_asks_109 (by decide) ?_
        refine lv_iadd hx hb dX7_asks_110 ?_
        refine va_iast (D := G.1) (ws := mW G A th sm le dg (upd (upd (upd (upd f (18 + (3 * n)) one) ((18 + (3 * n)) + 1) oth) ((18 + (3 * n)) + 2) (nI 0)) 17 (((upd (upd (upd f (18 + (3 * n)) one) ((18 + (3 * n)) + 1) oth) ((18 + (3 * n)) + 2) (nI 0)) 17) + (nI 1))) sl ik sv tx u_1) hx hb hK hP hD hS 1 0 (n := 58) rfl rfl (by first | assumption | exact vp_in_nI (by omega) (by omega)) dX7_asks_111 (fun H locs hP hD hS => ?_)
        have hP : PP G (mW G A th sm le dg (upd (upd (upd (upd (upd f (18 + (3 * n)) one) ((18 + (3 * n)) + 1) oth) ((18 + (3 * n)) + 2) (nI 0)) 17 (((upd (upd (upd f (18 + (3 * n)) one) ((18 + (3 * n)) + 1) oth) ((18 + (3 * n)) + 2) (nI 0)) 17) + (nI 1))) 54 (((upd (upd (upd (upd f (18 + (3 * n)) one) ((18 + (3 * n)) + 1) oth) ((18 + (3 * n)) + 2) (nI 0)) 17 (((upd (upd (upd f (18 + (3 * n)) one) ((18 + (3 * n)) + 1) oth) ((18 + (3 * n)) + 2) (nI 0)) 17) + (nI 1))) 54) + (nI 1))) sl ik sv tx u_1) H := hP
        have hD : va_D Ar (mW G A th sm le dg (upd (upd (upd (upd (upd f (18 + (3 * n)) one) ((18 + (3 * n)) + 1) oth) ((18 + (3 * n)) + 2) (nI 0)) 17 (((upd (upd (upd f (18 + (3 * n)) one) ((18 + (3 * n)) + 1) oth) ((18 + (3 * n)) + 2) (nI 0)) 17) + (nI 1))) 54 (((upd (upd (upd (upd f (18 + (3 * n)) one) ((18 + (3 * n)) + 1) oth) ((18 + (3 * n)) + 2) (nI 0)) 17 (((upd (upd (upd f (18 + (3 * n)) one) ((18 + (3 * n)) + 1) oth) ((18 + (3 * n)) + 2) (nI 0)) 17) + (nI 1))) 54) + (nI 1))) sl ik sv tx u_1) := hD
        refine lv_iload hx hb dX7_asks_112 (lv_at hl 0 rfl) ?_
        exact wr_iret (S := Nat → Int32) (out := fun u => mW G A th sm le dg (askF f n one oth) sl ik sv tx u) u_1 hx hb hr hlocks (PP_as hP (by unfold askF; first | (rw [if_pos q1]; done) | (rw [if_neg q1, askH, askG, c_54]; rfl))) (D_as hD (by unfold askF; first | (rw [if_pos q1]; done) | (rw [if_neg q1, askH, askG, c_54]; rfl))) hS (Nat.le_of_ble_eq_true rfl) (Nat.le_of_ble_eq_true rfl) (by unfold askR; first | (rw [if_pos q1]; done) | (rw [if_neg q1, c_54]; rfl)) dX7_asks_114
      · have c_54 := b2_ne c_54
        refine lv_iconst (v := nI 1) hx hb dX7_asks_57 (by decide) ?_
        refine lv_goto (tgt := 62) hx hb dX7_asks_58 (by decide) ?_
        refine lv_istore (lv' := [(4, .int (nI 1)), (3, .int (nI (18 + (3 * n)))), (0, .ref (A 0)), (1, .int one), (2, .int oth)]) hx hb dX7_asks_62 hl (by decide) rfl (fun ls hl => ?_)
        refine lv_aload_n hx hb dX7_asks_64 rfl (lv_at hl 2 rfl) ?_
        refine va_get (D := G.1) (ws := mW G A th sm le dg f sl ik sv tx u_1) (ci := 6) (v := .ref (A 1)) (C := RX7) (T := TX7) (N := 10) hx hb hts (fun _ h => List.mem_cons_of_mem _ (List.mem_append_right _ (h))) hown hK hP 0 rfl rfl 1 (by decide) (hts (.fieldLink RX7 7 "CreaseMapsModel" "s" "[I") (List.mem_of_getElem? (i := 1) rfl)) (fun _ h9 => h9) rfl dX7_asks_65 ?_
        refine lv_iload_n hx hb dX7_asks_68 rfl (lv_at hl 1 rfl) ?_
        refine lv_iload_n hx hb dX7_asks_69 rfl (lv_at hl 3 rfl) ?_
        refine va_iast (D := G.1) (ws := mW G A th sm le dg f sl ik sv tx u_1) hx hb hK hP hD hS 1 0 (n := 58) rfl rfl (by first | assumption | exact vp_in_nI (by omega) (by omega)) dX7_asks_70 (fun H locs hP hD hS => ?_)
        rw [nI_clamp (by omega)] at hP hD
        have hP : PP G (mW G A th sm le dg (upd f (18 + (3 * n)) one) sl ik sv tx u_1) H := hP
        have hD : va_D Ar (mW G A th sm le dg (upd f (18 + (3 * n)) one) sl ik sv tx u_1) := hD
        refine lv_aload_n hx hb dX7_asks_71 rfl (lv_at hl 2 rfl) ?_
        refine va_get (D := G.1) (ws := mW G A th sm le dg (upd f (18 + (3 * n)) one) sl ik sv tx u_1) (ci := 6) (v := .ref (A 1)) (C := RX7) (T := TX7) (N := 10) hx hb hts (fun _ h => List.mem_cons_of_mem _ (List.mem_append_right _ (h))) hown hK hP 0 rfl rfl 1 (by decide) (hts (.fieldLink RX7 7 "CreaseMapsModel" "s" "[I") (List.mem_of_getElem? (i := 1) rfl)) (fun _ h9 => h9) rfl dX7_asks_72 ?_
        refine lv_iload_n hx hb dX7_asks_75 rfl (lv_at hl 1 rfl) ?_
        refine lv_iconst (v := nI 1) hx hb dX7_asks_76 (by decide) ?_
        refine lv_iadd hx hb dX7_asks_77 ?_
        refine lv_cgi (y := nI ((18 + (3 * n)) + 1)) (nI_add _ _) ?_
        refine lv_iload_n hx hb dX7_asks_78 rfl (lv_at hl 4 rfl) ?_
        refine va_iast (D := G.1) (ws := mW G A th sm le dg (upd f (18 + (3 * n)) one) sl ik sv tx u_1) hx hb hK hP hD hS 1 0 (n := 58) rfl rfl (by first | assumption | exact vp_in_nI (by omega) (by omega)) dX7_asks_79 (fun H locs hP hD hS => ?_)
        rw [nI_clamp (by omega)] at hP hD
        have hP : PP G (mW G A th sm le dg (upd (upd f (18 + (3 * n)) one) ((18 + (3 * n)) + 1) oth) sl ik sv tx u_1) H := hP
        have hD : va_D Ar (mW G A th sm le dg (upd (upd f (18 + (3 * n)) one) ((18 + (3 * n)) + 1) oth) sl ik sv tx u_1) := hD
        refine lv_aload_n hx hb dX7_asks_80 rfl (lv_at hl 2 rfl) ?_
        refine va_get (D := G.1) (ws := mW G A th sm le dg (upd (upd f (18 + (3 * n)) one) ((18 + (3 * n)) + 1) oth) sl ik sv tx u_1) (ci := 6) (v := .ref (A 1)) (C := RX7) (T := TX7) (N := 10) hx hb hts (fun _ h => List.mem_cons_of_mem _ (List.mem_append_right _ (h))) hown hK hP 0 rfl rfl 1 (by decide) (hts (.fieldLink RX7 7 "CreaseMapsModel" "s" "[I") (List.mem_of_getElem? (i := 1) rfl)) (fun _ h9 => h9) rfl dX7_asks_81 ?_
        refine lv_iload_n hx hb dX7_asks_84 rfl (lv_at hl 1 rfl) ?_
        refine lv_iconst (v := nI 2) hx hb dX7_asks_85 (by decide) ?_
        refine lv_iadd hx hb dX7_asks_86 ?_
        refine lv_cgi (y := nI ((18 + (3 * n)) + 2)) (nI_add _ _) ?_
        refine lv_iload hx hb dX7_asks_87 (lv_at hl 0 rfl) ?_
        refine va_iast (D := G.1) (ws := mW G A th sm le dg (upd (upd f (18 + (3 * n)) one) ((18 + (3 * n)) + 1) oth) sl ik sv tx u_1) hx hb hK hP hD hS 1 0 (n := 58) rfl rfl (by first | assumption | exact vp_in_nI (by omega) (by omega)) dX7_asks_89 (fun H locs hP hD hS => ?_)
        rw [nI_clamp (by omega)] at hP hD
        have hP : PP G (mW G A th sm le dg (upd (upd (upd f (18 + (3 * n)) one) ((18 + (3 * n)) + 1) oth) ((18 + (3 * n)) + 2) (nI 1)) sl ik sv tx u_1) H := hP
        have hD : va_D Ar (mW G A th sm le dg (upd (upd (upd f (18 + (3 * n)) one) ((18 + (3 * n)) + 1) oth) ((18 + (3 * n)) + 2) (nI 1)) sl ik sv tx u_1) := hD
        refine lv_aload_n hx hb dX7_asks_90 rfl (lv_at hl 2 rfl) ?_
        refine va_get (D := G.1) (ws := mW G A th sm le dg (upd (upd (upd f (18 + (3 * n)) one) ((18 + (3 * n)) + 1) oth) ((18 + (3 * n)) + 2) (nI 1)) sl ik sv tx u_1) (ci := 6) (v := .ref (A 1)) (C := RX7) (T := TX7) (N := 10) hx hb hts (fun _ h => List.mem_cons_of_mem _ (List.mem_append_right _ (h))) hown hK hP 0 rfl rfl 1 (by decide) (hts (.fieldLink RX7 7 "CreaseMapsModel" "s" "[I") (List.mem_of_getElem? (i := 1) rfl)) (fun _ h9 => h9) rfl dX7_asks_91 ?_
        refine lv_bipush (v := nI 17) hx hb dX7_asks_94 (by decide) ?_
        refine lv_dup2_11 hx hb dX7_asks_96 rfl rfl ?_
        refine va_iald (D := G.1) (ws := mW G A th sm le dg (upd (upd (upd f (18 + (3 * n)) one) ((18 + (3 * n)) + 1) oth) ((18 + (3 * n)) + 2) (nI 1)) sl ik sv tx u_1) hx hb hK hP 1 0 (n := 58) rfl rfl (by first | assumption | exact vp_in_nI (by omega) (by omega)) dX7_asks_97 ?_
        refine lv_cgi (y := (upd (upd (upd f (18 + (3 * n)) one) ((18 + (3 * n)) + 1) oth) ((18 + (3 * n)) + 2) (nI 1)) 17) rfl ?_
        refine lv_iconst (v := nI 1) hx hb dX7_asks_98 (by decide) ?_
        refine lv_iadd hx hb dX7_asks_99 ?_
        refine va_iast (D := G.1) (ws := mW G A th sm le dg (upd (upd (upd f (18 + (3 * n)) one) ((18 + (3 * n)) + 1) oth) ((18 + (3 * n)) + 2) (nI 1)) sl ik sv tx u_1) hx hb hK hP hD hS 1 0 (n := 58) rfl rfl (by first | assumption | exact vp_in_nI (by omega) (by omega)) dX7_asks_100 (fun H locs hP hD hS => ?_)
        have hP : PP G (mW G A th sm le dg (upd (upd (upd (upd f (18 + (3 * n)) one) ((18 + (3 * n)) + 1) oth) ((18 + (3 * n)) + 2) (nI 1)) 17 (((upd (upd (upd f (18 + (3 * n)) one) ((18 + (3 * n)) + 1) oth) ((18 + (3 * n)) + 2) (nI 1)) 17) + (nI 1))) sl ik sv tx u_1) H := hP
        have hD : va_D Ar (mW G A th sm le dg (upd (upd (upd (upd f (18 + (3 * n)) one) ((18 + (3 * n)) + 1) oth) ((18 + (3 * n)) + 2) (nI 1)) 17 (((upd (upd (upd f (18 + (3 * n)) one) ((18 + (3 * n)) + 1) oth) ((18 + (3 * n)) + 2) (nI 1)) 17) + (nI 1))) sl ik sv tx u_1) := hD
        refine lv_aload_n hx hb dX7_asks_101 rfl (lv_at hl 2 rfl) ?_
        refine va_get (D := G.1) (ws := mW G A th sm le dg (upd (upd (upd (upd f (18 + (3 * n)) one) ((18 + (3 * n)) + 1) oth) ((18 + (3 * n)) + 2) (nI 1)) 17 (((upd (upd (upd f (18 + (3 * n)) one) ((18 + (3 * n)) + 1) oth) ((18 + (3 * n)) + 2) (nI 1)) 17) + (nI 1))) sl ik sv tx u_1) (ci := 6) (v := .ref (A 1)) (C := RX7) (T := TX7) (N := 10) hx hb hts (fun _ h => List.mem_cons_of_mem _ (List.mem_append_right _ (h))) hown hK hP 0 rfl rfl 1 (by decide) (hts (.fieldLink RX7 7 "CreaseMapsModel" "s" "[I") (List.mem_of_getElem? (i := 1) rfl)) (fun _ h9 => h9) rfl dX7_asks_102 ?_
        refine lv_bipush (v := nI 54) hx hb dX7_asks_105 (by decide) ?_
        refine lv_dup2_11 hx hb dX7_asks_107 rfl rfl ?_
        refine va_iald (D := G.1) (ws := mW G A th sm le dg (upd (upd (upd (upd f (18 + (3 * n)) one) ((18 + (3 * n)) + 1) oth) ((18 + (3 * n)) + 2) (nI 1)) 17 (((upd (upd (upd f (18 + (3 * n)) one) ((18 + (3 * n)) + 1) oth) ((18 + (3 * n)) + 2) (nI 1)) 17) + (nI 1))) sl ik sv tx u_1) hx hb hK hP 1 0 (n := 58) rfl rfl (by first | assumption | exact vp_in_nI (by omega) (by omega)) dX7_asks_108 ?_
        refine lv_cgi (y := (upd (upd (upd (upd f (18 + (3 * n)) one) ((18 + (3 * n)) + 1) oth) ((18 + (3 * n)) + 2) (nI 1)) 17 (((upd (upd (upd f (18 + (3 * n)) one) ((18 + (3 * n)) + 1) oth) ((18 + (3 * n)) + 2) (nI 1)) 17) + (nI 1))) 54) rfl ?_
        refine lv_iconst (v := nI 1) hx hb dX7_asks_109 (by decide) ?_
        refine lv_iadd hx hb dX7_asks_110 ?_
        refine va_iast (D := G.1) (ws := mW G A th sm le dg (upd (upd (upd (upd f (18 + (3 * n)) one) ((18 + (3 * n)) + 1) oth) ((18 + (3 * n)) + 2) (nI 1)) 17 (((upd (upd (upd f (18 + (3 * n)) one) ((18 + (3 * n)) + 1) oth) ((18 + (3 * n)) + 2) (nI 1)) 17) + (nI 1))) sl ik sv tx u_1) hx hb hK hP hD hS 1 0 (n := 58) rfl rfl (by first | assumption | exact vp_in_nI (by omega) (by omega)) dX7_asks_111 (fun H locs hP hD hS => ?_)
        have hP : PP G (mW G A th sm le dg (upd (upd (upd (upd (upd f (18 + (3 * n)) one) ((18 + (3 * n)) + 1) oth) ((18 + (3 * n)) + 2) (nI 1)) 17 (((upd (upd (upd f (18 + (3 * n)) one) ((18 + (3 * n)) + 1) oth) ((18 + (3 * n)) + 2) (nI 1)) 17) + (nI 1))) 54 (((upd (upd (upd (upd f (18 + (3 * n)) one) ((18 + (3 * n)) + 1) oth) ((18 + (3 * n)) + 2) (nI 1)) 17 (((upd (upd (upd f (18 + (3 * n)) one) ((18 + (3 * n)) + 1) oth) ((18 + (3 * n)) + 2) (nI 1)) 17) + (nI 1))) 54) + (nI 1))) sl ik sv tx u_1) H := hP
        have hD : va_D Ar (mW G A th sm le dg (upd (upd (upd (upd (upd f (18 + (3 * n)) one) ((18 + (3 * n)) + 1) oth) ((18 + (3 * n)) + 2) (nI 1)) 17 (((upd (upd (upd f (18 + (3 * n)) one) ((18 + (3 * n)) + 1) oth) ((18 + (3 * n)) + 2) (nI 1)) 17) + (nI 1))) 54 (((upd (upd (upd (upd f (18 + (3 * n)) one) ((18 + (3 * n)) + 1) oth) ((18 + (3 * n)) + 2) (nI 1)) 17 (((upd (upd (upd f (18 + (3 * n)) one) ((18 + (3 * n)) + 1) oth) ((18 + (3 * n)) + 2) (nI 1)) 17) + (nI 1))) 54) + (nI 1))) sl ik sv tx u_1) := hD
        refine lv_iload hx hb dX7_asks_112 (lv_at hl 0 rfl) ?_
        exact wr_iret (S := Nat → Int32) (out := fun u => mW G A th sm le dg (askF f n one oth) sl ik sv tx u) u_1 hx hb hr hlocks (PP_as hP (by unfold askF; first | (rw [if_pos q1]; done) | (rw [if_neg q1, askH, askG, c_54]; rfl))) (D_as hD (by unfold askF; first | (rw [if_pos q1]; done) | (rw [if_neg q1, askH, askG, c_54]; rfl))) hS (Nat.le_of_ble_eq_true rfl) (Nat.le_of_ble_eq_true rfl) (by unfold askR; first | (rw [if_pos q1]; done) | (rw [if_neg q1, c_54]; rfl)) dX7_asks_114
    · have q1 : refd f n one oth := Or.inr c_19
      refine lv_aload_n hx hb dX7_asks_22 rfl (lv_at hl 0 rfl) ?_
      refine va_get (D := G.1) (ws := mW G A th sm le dg f sl ik sv tx pl) (ci := 6) (v := .ref (A 1)) (C := RX7) (T := TX7) (N := 10) hx hb hts (fun _ h => List.mem_cons_of_mem _ (List.mem_append_right _ (h))) hown hK hP 0 rfl rfl 1 (by decide) (hts (.fieldLink RX7 7 "CreaseMapsModel" "s" "[I") (List.mem_of_getElem? (i := 1) rfl)) (fun _ h9 => h9) rfl dX7_asks_23 ?_
      refine lv_bipush (v := nI 57) hx hb dX7_asks_26 (by decide) ?_
      refine lv_dup2_11 hx hb dX7_asks_28 rfl rfl ?_
      refine va_iald (D := G.1) (ws := mW G A th sm le dg f sl ik sv tx pl) hx hb hK hP 1 0 (n := 58) rfl rfl (by first | assumption | exact vp_in_nI (by omega) (by omega)) dX7_asks_29 ?_
      refine lv_cgi (y := f 57) rfl ?_
      refine lv_iconst (v := nI 1) hx hb dX7_asks_30 (by decide) ?_
      refine lv_iadd hx hb dX7_asks_31 ?_
      refine va_iast (D := G.1) (ws := mW G A th sm le dg f sl ik sv tx pl) hx hb hK hP hD hS 1 0 (n := 58) rfl rfl (by first | assumption | exact vp_in_nI (by omega) (by omega)) dX7_asks_32 (fun H locs hP hD hS => ?_)
      have hP : PP G (mW G A th sm le dg (upd f 57 ((f 57) + (nI 1))) sl ik sv tx pl) H := hP
      have hD : va_D Ar (mW G A th sm le dg (upd f 57 ((f 57) + (nI 1))) sl ik sv tx pl) := hD
      refine lv_iconst (v := (-1)) hx hb dX7_asks_33 (by decide) ?_
      exact wr_iret (S := Nat → Int32) (out := fun u => mW G A th sm le dg (askF f n one oth) sl ik sv tx u) pl hx hb hr hlocks (PP_as hP (by unfold askF; first | (rw [if_pos q1]; done) | (rw [if_neg q1, askH, askG, c_54]; rfl))) (D_as hD (by unfold askF; first | (rw [if_pos q1]; done) | (rw [if_neg q1, askH, askG, c_54]; rfl))) hS (Nat.le_of_ble_eq_true rfl) (Nat.le_of_ble_eq_true rfl) (by unfold askR; first | (rw [if_pos q1]; done) | (rw [if_neg q1, c_54]; rfl)) dX7_asks_34

set_option maxHeartbeats 4000000 in
set_option maxRecDepth 100000 in
theorem c_X7_ask (l : Launch) (G : GG) (sz : Nat) (A : Nat → Nat) (th le : Int32) (dg : Int64) (f sl ik sv tx pl : Nat → Int32) (m : Nat) (hm : m ≤ 6) (n : Nat) (hn : f 17 = nI n) (hn2 : n ≤ 12) (t o : Nat) (ht : t < 6) (ho : o < 6) (hto : t ≠ o) (h1 : vp_in (f (11 + t)) 10) (h2 : vp_in (f (11 + o)) 10) : WRi l yX7_ask wsX7_ask 4 G [.ref (A 0), .int (nI t), .int (nI o)] (mW G A th (nI m) le dg f sl ik sv tx pl) sz (S := Nat → Int32) (fun r _ => r = askR f n (f (11 + t)) (f (11 + o))) (fun u => mW G A (nI 0) (nI (svm m + 1)) le dg (askF f n (f (11 + t)) (f (11 + o))) sl ik (svF sv f m) tx u) 0 0 := by
  refine wr_of (cc := cX7_ask) (maxL := 3) (ret := (some .int)) (Qc := fun Ar => wQi G (S := Nat → Int32) (fun r _ => r = askR f n (f (11 + t)) (f (11 + o))) (fun u => mW G A (nI 0) (nI (svm m + 1)) le dg (askF f n (f (11 + t)) (f (11 + o))) sl ik (svF sv f m) tx u) Ar) (by decide) rfl (Nat.le_of_ble_eq_true rfl) ?_
  intro pG eG s mG below meth cG hsz hx hb hr hml hts hown hlocks hnm hP hK hN Ar hD hA hS ls hl
  have hown : s.vm.findClass RX7 = some mG.cls := hown
  have hP : PP G (mW G A th (nI m) le dg f sl ik sv tx pl) s.heap := hP
  have hD : va_D Ar (mW G A th (nI m) le dg f sl ik sv tx pl) := hD
  have hl : lv_has ls 3 [(0, .ref (A 0)), (1, .int (nI t)), (2, .int (nI o))] := hl
  refine lv_aload_n hx hb dX7_ask_0 rfl (lv_at hl 0 rfl) ?_
  refine lv_iload_n hx hb dX7_ask_1 rfl (lv_at hl 1 rfl) ?_
  refine rd_go (va_runS (As := [.int (nI t)]) (rest := [.ref (A 0)]) ⟨hx, hb, hml, hown, hts⟩ (c_X7_isTown l G (nI t)) (va_cwS 1 hts gX7_ask_X7_isTown rfl rfl rfl (by decide +kernel) ⟨Nat.le_of_ble_eq_true rfl, Nat.le_of_ble_eq_true rfl⟩) (rS (ws := []) hK hN P_nil) rfl rfl hl.1 rfl (lv_room (Nat.le_of_ble_eq_true rfl)) dX7_ask_2 ⟨Nat.le_of_ble_eq_true rfl, Nat.le_of_ble_eq_true rfl⟩) ?_
  refine lv_cgi (y := nI 1) (b2T (inB_n (Nat.zero_le _) (by omega) (by omega))) ?_
  refine lv_if_eq (tgt := 15) hx hb dX7_ask_5 (by decide) (fun c_5 => ?_) (fun c_5 => ?_)
  · exact absurd c_5 (by decide)
  · refine lv_iload_n hx hb dX7_ask_8 rfl (lv_at hl 2 rfl) ?_
    refine rd_go (va_runS (As := [.int (nI o)]) (rest := [.ref (A 0)]) ⟨hx, hb, hml, hown, hts⟩ (c_X7_isTown l G (nI o)) (va_cwS 1 hts gX7_ask_X7_isTown rfl rfl rfl (by decide +kernel) ⟨Nat.le_of_ble_eq_true rfl, Nat.le_of_ble_eq_true rfl⟩) (rS (ws := []) hK hN P_nil) rfl rfl hl.1 rfl (lv_room (Nat.le_of_ble_eq_true rfl)) dX7_ask_9 ⟨Nat.le_of_ble_eq_true rfl, Nat.le_of_ble_eq_true rfl⟩) ?_
    refine lv_cgi (y := nI 1) (b2T (inB_n (Nat.zero_le _) (by omega) (by omega))) ?_
    refine lv_if_ne (tgt := 19) hx hb dX7_ask_12 (by decide) (fun c_12 => ?_) (fun c_12 => ?_)
    · refine lv_iload_n hx hb dX7_ask_19 rfl (lv_at hl 1 rfl) ?_
      refine lv_iload_n hx hb dX7_ask_20 rfl (lv_at hl 2 rfl) ?_
      refine lv_icmp_ne (tgt := 28) hx hb dX7_ask_21 (by decide) (fun c_21 => ?_) (fun c_21 => ?_)
      · refine lv_iconst (v := nI 0) hx hb dX7_ask_28 (by decide) ?_
        refine wr_goi (pre := []) (mid := mW G A th (nI m) le dg f sl ik sv tx pl) (suf := []) (va_runV (As := [.int (nI 0)]) (rest := []) ⟨hx, hb, hml, hown, hts⟩ (c_X7_holds l G _ A th (nI m) le dg f sl ik sv tx pl (nI 0)) (cwV 1 hts gX7_ask_X7_holds rfl rfl rfl (by decide +kernel) ⟨Nat.le_of_ble_eq_true rfl, Nat.le_of_ble_eq_true rfl⟩) (wV (pre := []) (mid := mW G A th (nI m) le dg f sl ik sv tx pl) (suf := []) (va_recv (ws := mW G A th (nI m) le dg f sl ik sv tx pl) hK hP (ci := 6) (q0 := 0) rfl rfl) hK hN hP hD) rfl rfl hl.1 rfl (lv_room (Nat.le_of_ble_eq_true rfl)) dX7_ask_29 ⟨Nat.le_of_ble_eq_true rfl, Nat.le_of_ble_eq_true rfl⟩) hP hD hS hA (fun r _ H locs hw hP hD hS => ?_)
        subst hw
        have hP : PP G (mW G A (nI 0) (nI m) le dg f sl ik sv tx pl) H := hP
        have hD : va_D Ar (mW G A (nI 0) (nI m) le dg f sl ik sv tx pl) := hD
        refine lv_cgi (y := nI 1) (by decide) ?_
        refine lv_if_ne (tgt := 37) hx hb dX7_ask_32 (by decide) (fun c_32 => ?_) (fun c_32 => ?_)
        · refine lv_aload_n hx hb dX7_ask_37 rfl (lv_at hl 0 rfl) ?_
          refine wr_gov (pre := []) (mid := mW G A (nI 0) (nI m) le dg f sl ik sv tx pl) (suf := []) (va_runV (As := []) (rest := []) ⟨hx, hb, hml, hown, hts⟩ (c_X7_save l G _ A (nI 0) le dg f sl ik sv tx pl m hm) (cwV 0 hts gX7_ask_X7_save rfl rfl rfl (by decide +kernel) ⟨Nat.le_of_ble_eq_true rfl, Nat.le_of_ble_eq_true rfl⟩) (wV (pre := []) (mid := mW G A (nI 0) (nI m) le dg f sl ik sv tx pl) (suf := []) (va_recv (ws := mW G A (nI 0) (nI m) le dg f sl ik sv tx pl) hK hP (ci := 6) (q0 := 0) rfl rfl) hK hN hP hD) rfl rfl hl.1 rfl (lv_room (Nat.le_of_ble_eq_true rfl)) dX7_ask_38 ⟨Nat.le_of_ble_eq_true rfl, Nat.le_of_ble_eq_true rfl⟩) hP hD hS hA (fun _ H locs hw hP hD hS => ?_)
          have hP : PP G (mW G A (nI 0) (nI (svm m + 1)) le dg f sl ik (svF sv f m) tx pl) H := hP
          have hD : va_D Ar (mW G A (nI 0) (nI (svm m + 1)) le dg f sl ik (svF sv f m) tx pl) := hD
          refine lv_aload_n hx hb dX7_ask_41 rfl (lv_at hl 0 rfl) ?_
          refine lv_aload_n hx hb dX7_ask_42 rfl (lv_at hl 0 rfl) ?_
          refine va_get (D := G.1) (ws := mW G A (nI 0) (nI (svm m + 1)) le dg f sl ik (svF sv f m) tx pl) (ci := 6) (v := .ref (A 1)) (C := RX7) (T := TX7) (N := 10) hx hb hts (fun _ h => List.mem_cons_of_mem _ (List.mem_append_right _ (h))) hown hK hP 0 rfl rfl 1 (by decide) (hts (.fieldLink RX7 7 "CreaseMapsModel" "s" "[I") (List.mem_of_getElem? (i := 1) rfl)) (fun _ h9 => h9) rfl dX7_ask_43 ?_
          refine lv_bipush (v := nI 11) hx hb dX7_ask_46 (by decide) ?_
          refine lv_iload_n hx hb dX7_ask_48 rfl (lv_at hl 1 rfl) ?_
          refine lv_iadd hx hb dX7_ask_49 ?_
          refine lv_cgi (y := nI (11 + t)) (nI_add _ _) ?_
          refine va_iald (D := G.1) (ws := mW G A (nI 0) (nI (svm m + 1)) le dg f sl ik (svF sv f m) tx pl) hx hb hK hP 1 0 (n := 58) rfl rfl (by first | assumption | exact vp_in_nI (by omega) (by omega)) dX7_ask_50 ?_
          refine lv_cgi (y := f (11 + t)) (by rw [nI_clamp (by omega)]) ?_
          refine lv_aload_n hx hb dX7_ask_51 rfl (lv_at hl 0 rfl) ?_
          refine va_get (D := G.1) (ws := mW G A (nI 0) (nI (svm m + 1)) le dg f sl ik (svF sv f m) tx pl) (ci := 6) (v := .ref (A 1)) (C := RX7) (T := TX7) (N := 10) hx hb hts (fun _ h => List.mem_cons_of_mem _ (List.mem_append_right _ (h))) hown hK hP 0 rfl rfl 1 (by decide) (hts (.fieldLink RX7 7 "CreaseMapsModel" "s" "[I") (List.mem_of_getElem? (i := 1) rfl)) (fun _ h9 => h9) rfl dX7_ask_52 ?_
          refine lv_bipush (v := nI 11) hx hb dX7_ask_55 (by decide) ?_
          refine lv_iload_n hx hb dX7_ask_57 rfl (lv_at hl 2 rfl) ?_
          refine lv_iadd hx hb dX7_ask_58 ?_
          refine lv_cgi (y := nI (11 + o)) (nI_add _ _) ?_
          refine va_iald (D := G.1) (ws := mW G A (nI 0) (nI (svm m + 1)) le dg f sl ik (svF sv f m) tx pl) hx hb hK hP 1 0 (n := 58) rfl rfl (by first | assumption | exact vp_in_nI (by omega) (by omega)) dX7_ask_59 ?_
          refine lv_cgi (y := f (11 + o)) (by rw [nI_clamp (by omega)]) ?_
          refine wr_goi (pre := []) (mid := mW G A (nI 0) (nI (svm m + 1)) le dg f sl ik (svF sv f m) tx pl) (suf := []) (va_runV (As := [.int (f (11 + t)), .int (f (11 + o))]) (rest := []) ⟨hx, hb, hml, hown, hts⟩ (c_X7_asks l G _ A (nI 0) (nI (svm m + 1)) le dg f sl ik (svF sv f m) tx pl n hn hn2 (f (11 + t)) (f (11 + o)) h1 h2) (cwV 2 hts gX7_ask_X7_asks rfl rfl rfl (by decide +kernel) ⟨Nat.le_of_ble_eq_true rfl, Nat.le_of_ble_eq_true rfl⟩) (wV (pre := []) (mid := mW G A (nI 0) (nI (svm m + 1)) le dg f sl ik (svF sv f m) tx pl) (suf := []) (va_recv (ws := mW G A (nI 0) (nI (svm m + 1)) le dg f sl ik (svF sv f m) tx pl) hK hP (ci := 6) (q0 := 0) rfl rfl) hK hN hP hD) rfl rfl hl.1 rfl (lv_room (Nat.le_of_ble_eq_true rfl)) dX7_ask_60 ⟨Nat.le_of_ble_eq_true rfl, Nat.le_of_ble_eq_true rfl⟩) hP hD hS hA (fun r u_1 H locs hw hP hD hS => ?_)
          subst hw
          have hP : PP G (mW G A (nI 0) (nI (svm m + 1)) le dg (askF f n (f (11 + t)) (f (11 + o))) sl ik (svF sv f m) tx u_1) H := hP
          have hD : va_D Ar (mW G A (nI 0) (nI (svm m + 1)) le dg (askF f n (f (11 + t)) (f (11 + o))) sl ik (svF sv f m) tx u_1) := hD
          exact wr_iret (S := Nat → Int32) (out := fun u => mW G A (nI 0) (nI (svm m + 1)) le dg (askF f n (f (11 + t)) (f (11 + o))) sl ik (svF sv f m) tx u) u_1 hx hb hr hlocks hP hD hS (Nat.le_of_ble_eq_true rfl) (Nat.le_of_ble_eq_true rfl) (by rfl) dX7_ask_63
        · exact absurd c_32 (by decide)
      · exact absurd (nIe c_21 (by omega) (by omega)) hto
    · exact absurd c_12 (by decide)

set_option maxHeartbeats 4000000 in
set_option maxRecDepth 100000 in
theorem c_X7_ask_no1 (l : Launch) (G : GG) (sz : Nat) (A : Nat → Nat) (th le : Int32) (dg : Int64) (f sl ik sv tx pl : Nat → Int32) (m : Nat) (hm : m ≤ 6) (x y : Int32) (hx0 : ¬ (inB x (nI 0) (nI 5) ∧ inB y (nI 0) (nI 5))) : WRi l yX7_ask wsX7_ask 3 G [.ref (A 0), .int x, .int y] (mW G A th (nI m) le dg f sl ik sv tx pl) sz (S := Unit) (fun r _ => r = nI 0) (fun _ => mW G A (nI 1) (nI m) le dg f sl ik sv tx pl) 0 0 := by
  refine wr_of (cc := cX7_ask) (maxL := 3) (ret := (some .int)) (Qc := fun Ar => wQi G (S := Unit) (fun r _ => r = nI 0) (fun _ => mW G A (nI 1) (nI m) le dg f sl ik sv tx pl) Ar) (by decide) rfl (Nat.le_of_ble_eq_true rfl) ?_
  intro pG eG s mG below meth cG hsz hx hb hr hml hts hown hlocks hnm hP hK hN Ar hD hA hS ls hl
  have hown : s.vm.findClass RX7 = some mG.cls := hown
  have hP : PP G (mW G A th (nI m) le dg f sl ik sv tx pl) s.heap := hP
  have hD : va_D Ar (mW G A th (nI m) le dg f sl ik sv tx pl) := hD
  have hl : lv_has ls 3 [(0, .ref (A 0)), (1, .int x), (2, .int y)] := hl
  refine lv_aload_n hx hb dX7_ask_0 rfl (lv_at hl 0 rfl) ?_
  refine lv_iload_n hx hb dX7_ask_1 rfl (lv_at hl 1 rfl) ?_
  refine rd_go (va_runS (As := [.int x]) (rest := [.ref (A 0)]) ⟨hx, hb, hml, hown, hts⟩ (c_X7_isTown l G x) (va_cwS 1 hts gX7_ask_X7_isTown rfl rfl rfl (by decide +kernel) ⟨Nat.le_of_ble_eq_true rfl, Nat.le_of_ble_eq_true rfl⟩) (rS (ws := []) hK hN P_nil) rfl rfl hl.1 rfl (lv_room (Nat.le_of_ble_eq_true rfl)) dX7_ask_2 ⟨Nat.le_of_ble_eq_true rfl, Nat.le_of_ble_eq_true rfl⟩) ?_
  refine lv_if_eq (tgt := 15) hx hb dX7_ask_5 (by decide) (fun c_5 => ?_) (fun c_5 => ?_)
  · refine lv_iconst (v := nI 1) hx hb dX7_ask_15 (by decide) ?_
    refine lv_goto (tgt := 29) hx hb dX7_ask_16 (by decide) ?_
    refine wr_goi (pre := []) (mid := mW G A th (nI m) le dg f sl ik sv tx pl) (suf := []) (va_runV (As := [.int (nI 1)]) (rest := []) ⟨hx, hb, hml, hown, hts⟩ (c_X7_holds l G _ A th (nI m) le dg f sl ik sv tx pl (nI 1)) (cwV 1 hts gX7_ask_X7_holds rfl rfl rfl (by decide +kernel) ⟨Nat.le_of_ble_eq_true rfl, Nat.le_of_ble_eq_true rfl⟩) (wV (pre := []) (mid := mW G A th (nI m) le dg f sl ik sv tx pl) (suf := []) (va_recv (ws := mW G A th (nI m) le dg f sl ik sv tx pl) hK hP (ci := 6) (q0 := 0) rfl rfl) hK hN hP hD) rfl rfl hl.1 rfl (lv_room (Nat.le_of_ble_eq_true rfl)) dX7_ask_29 ⟨Nat.le_of_ble_eq_true rfl, Nat.le_of_ble_eq_true rfl⟩) hP hD hS hA (fun r _ H locs hw hP hD hS => ?_)
    subst hw
    have hP : PP G (mW G A (nI 1) (nI m) le dg f sl ik sv tx pl) H := hP
    have hD : va_D Ar (mW G A (nI 1) (nI m) le dg f sl ik sv tx pl) := hD
    refine lv_cgi (y := nI 0) (by decide) ?_
    refine lv_if_ne (tgt := 37) hx hb dX7_ask_32 (by decide) (fun c_32 => ?_) (fun c_32 => ?_)
    · exact absurd c_32 (by decide)
    · refine lv_iconst (v := nI 0) hx hb dX7_ask_35 (by decide) ?_
      exact wr_iret (S := Unit) (out := fun _ => mW G A (nI 1) (nI m) le dg f sl ik sv tx pl) () hx hb hr hlocks hP hD hS (Nat.le_of_ble_eq_true rfl) (Nat.le_of_ble_eq_true rfl) (by rfl) dX7_ask_36
  · refine lv_iload_n hx hb dX7_ask_8 rfl (lv_at hl 2 rfl) ?_
    refine rd_go (va_runS (As := [.int y]) (rest := [.ref (A 0)]) ⟨hx, hb, hml, hown, hts⟩ (c_X7_isTown l G y) (va_cwS 1 hts gX7_ask_X7_isTown rfl rfl rfl (by decide +kernel) ⟨Nat.le_of_ble_eq_true rfl, Nat.le_of_ble_eq_true rfl⟩) (rS (ws := []) hK hN P_nil) rfl rfl hl.1 rfl (lv_room (Nat.le_of_ble_eq_true rfl)) dX7_ask_9 ⟨Nat.le_of_ble_eq_true rfl, Nat.le_of_ble_eq_true rfl⟩) ?_
    refine lv_if_ne (tgt := 19) hx hb dX7_ask_12 (by decide) (fun c_12 => ?_) (fun c_12 => ?_)
    · exact absurd ⟨b2_p c_5, b2_p c_12⟩ hx0
    · refine lv_iconst (v := nI 1) hx hb dX7_ask_15 (by decide) ?_
      refine lv_goto (tgt := 29) hx hb dX7_ask_16 (by decide) ?_
      refine wr_goi (pre := []) (mid := mW G A th (nI m) le dg f sl ik sv tx pl) (suf := []) (va_runV (As := [.int (nI 1)]) (rest := []) ⟨hx, hb, hml, hown, hts⟩ (c_X7_holds l G _ A th (nI m) le dg f sl ik sv tx pl (nI 1)) (cwV 1 hts gX7_ask_X7_holds rfl rfl rfl (by decide +kernel) ⟨Nat.le_of_ble_eq_true rfl, Nat.le_of_ble_eq_true rfl⟩) (wV (pre := []) (mid := mW G A th (nI m) le dg f sl ik sv tx pl) (suf := []) (va_recv (ws := mW G A th (nI m) le dg f sl ik sv tx pl) hK hP (ci := 6) (q0 := 0) rfl rfl) hK hN hP hD) rfl rfl hl.1 rfl (lv_room (Nat.le_of_ble_eq_true rfl)) dX7_ask_29 ⟨Nat.le_of_ble_eq_true rfl, Nat.le_of_ble_eq_true rfl⟩) hP hD hS hA (fun r _ H locs hw hP hD hS => ?_)
      subst hw
      have hP : PP G (mW G A (nI 1) (nI m) le dg f sl ik sv tx pl) H := hP
      have hD : va_D Ar (mW G A (nI 1) (nI m) le dg f sl ik sv tx pl) := hD
      refine lv_cgi (y := nI 0) (by decide) ?_
      refine lv_if_ne (tgt := 37) hx hb dX7_ask_32 (by decide) (fun c_32 => ?_) (fun c_32 => ?_)
      · exact absurd c_32 (by decide)
      · refine lv_iconst (v := nI 0) hx hb dX7_ask_35 (by decide) ?_
        exact wr_iret (S := Unit) (out := fun _ => mW G A (nI 1) (nI m) le dg f sl ik sv tx pl) () hx hb hr hlocks hP hD hS (Nat.le_of_ble_eq_true rfl) (Nat.le_of_ble_eq_true rfl) (by rfl) dX7_ask_36

set_option maxHeartbeats 4000000 in
set_option maxRecDepth 100000 in
theorem c_X7_ask_no2 (l : Launch) (G : GG) (sz : Nat) (A : Nat → Nat) (th le : Int32) (dg : Int64) (f sl ik sv tx pl : Nat → Int32) (m : Nat) (hm : m ≤ 6) (x : Int32) (hx0 : inB x (nI 0) (nI 5)) : WRi l yX7_ask wsX7_ask 3 G [.ref (A 0), .int x, .int x] (mW G A th (nI m) le dg f sl ik sv tx pl) sz (S := Unit) (fun r _ => r = nI 0) (fun _ => mW G A (nI 2) (nI m) le dg f sl ik sv tx pl) 0 0 := by
  refine wr_of (cc := cX7_ask) (maxL := 3) (ret := (some .int)) (Qc := fun Ar => wQi G (S := Unit) (fun r _ => r = nI 0) (fun _ => mW G A (nI 2) (nI m) le dg f sl ik sv tx pl) Ar) (by decide) rfl (Nat.le_of_ble_eq_true rfl) ?_
  intro pG eG s mG below meth cG hsz hx hb hr hml hts hown hlocks hnm hP hK hN Ar hD hA hS ls hl
  have hown : s.vm.findClass RX7 = some mG.cls := hown
  have hP : PP G (mW G A th (nI m) le dg f sl ik sv tx pl) s.heap := hP
  have hD : va_D Ar (mW G A th (nI m) le dg f sl ik sv tx pl) := hD
  have hl : lv_has ls 3 [(0, .ref (A 0)), (1, .int x), (2, .int x)] := hl
  refine lv_aload_n hx hb dX7_ask_0 rfl (lv_at hl 0 rfl) ?_
  refine lv_iload_n hx hb dX7_ask_1 rfl (lv_at hl 1 rfl) ?_
  refine rd_go (va_runS (As := [.int x]) (rest := [.ref (A 0)]) ⟨hx, hb, hml, hown, hts⟩ (c_X7_isTown l G x) (va_cwS 1 hts gX7_ask_X7_isTown rfl rfl rfl (by decide +kernel) ⟨Nat.le_of_ble_eq_true rfl, Nat.le_of_ble_eq_true rfl⟩) (rS (ws := []) hK hN P_nil) rfl rfl hl.1 rfl (lv_room (Nat.le_of_ble_eq_true rfl)) dX7_ask_2 ⟨Nat.le_of_ble_eq_true rfl, Nat.le_of_ble_eq_true rfl⟩) ?_
  refine lv_cgi (y := nI 1) (b2T (hx0)) ?_
  refine lv_if_eq (tgt := 15) hx hb dX7_ask_5 (by decide) (fun c_5 => ?_) (fun c_5 => ?_)
  · exact absurd c_5 (by decide)
  · refine lv_iload_n hx hb dX7_ask_8 rfl (lv_at hl 2 rfl) ?_
    refine rd_go (va_runS (As := [.int x]) (rest := [.ref (A 0)]) ⟨hx, hb, hml, hown, hts⟩ (c_X7_isTown l G x) (va_cwS 1 hts gX7_ask_X7_isTown rfl rfl rfl (by decide +kernel) ⟨Nat.le_of_ble_eq_true rfl, Nat.le_of_ble_eq_true rfl⟩) (rS (ws := []) hK hN P_nil) rfl rfl hl.1 rfl (lv_room (Nat.le_of_ble_eq_true rfl)) dX7_ask_9 ⟨Nat.le_of_ble_eq_true rfl, Nat.le_of_ble_eq_true rfl⟩) ?_
    refine lv_cgi (y := nI 1) (b2T (hx0)) ?_
    refine lv_if_ne (tgt := 19) hx hb dX7_ask_12 (by decide) (fun c_12 => ?_) (fun c_12 => ?_)
    · refine lv_iload_n hx hb dX7_ask_19 rfl (lv_at hl 1 rfl) ?_
      refine lv_iload_n hx hb dX7_ask_20 rfl (lv_at hl 2 rfl) ?_
      refine lv_icmp_ne (tgt := 28) hx hb dX7_ask_21 (by decide) (fun c_21 => ?_) (fun c_21 => ?_)
      · exact absurd rfl c_21
      · refine lv_iconst (v := nI 2) hx hb dX7_ask_24 (by decide) ?_
        refine lv_goto (tgt := 29) hx hb dX7_ask_25 (by decide) ?_
        refine wr_goi (pre := []) (mid := mW G A th (nI m) le dg f sl ik sv tx pl) (suf := []) (va_runV (As := [.int (nI 2)]) (rest := []) ⟨hx, hb, hml, hown, hts⟩ (c_X7_holds l G _ A th (nI m) le dg f sl ik sv tx pl (nI 2)) (cwV 1 hts gX7_ask_X7_holds rfl rfl rfl (by decide +kernel) ⟨Nat.le_of_ble_eq_true rfl, Nat.le_of_ble_eq_true rfl⟩) (wV (pre := []) (mid := mW G A th (nI m) le dg f sl ik sv tx pl) (suf := []) (va_recv (ws := mW G A th (nI m) le dg f sl ik sv tx pl) hK hP (ci := 6) (q0 := 0) rfl rfl) hK hN hP hD) rfl rfl hl.1 rfl (lv_room (Nat.le_of_ble_eq_true rfl)) dX7_ask_29 ⟨Nat.le_of_ble_eq_true rfl, Nat.le_of_ble_eq_true rfl⟩) hP hD hS hA (fun r _ H locs hw hP hD hS => ?_)
        subst hw
        have hP : PP G (mW G A (nI 2) (nI m) le dg f sl ik sv tx pl) H := hP
        have hD : va_D Ar (mW G A (nI 2) (nI m) le dg f sl ik sv tx pl) := hD
        refine lv_cgi (y := nI 0) (by decide) ?_
        refine lv_if_ne (tgt := 37) hx hb dX7_ask_32 (by decide) (fun c_32 => ?_) (fun c_32 => ?_)
        · exact absurd c_32 (by decide)
        · refine lv_iconst (v := nI 0) hx hb dX7_ask_35 (by decide) ?_
          exact wr_iret (S := Unit) (out := fun _ => mW G A (nI 2) (nI m) le dg f sl ik sv tx pl) () hx hb hr hlocks hP hD hS (Nat.le_of_ble_eq_true rfl) (Nat.le_of_ble_eq_true rfl) (by rfl) dX7_ask_36
    · exact absurd c_12 (by decide)

set_option maxHeartbeats 4000000 in
set_option maxRecDepth 100000 in
theorem c_X7_guess (l : Launch) (G : GG) (sz : Nat) (A : Nat → Nat) (th le : Int32) (dg : Int64) (f sl ik sv tx pl : Nat → Int32) (m : Nat) (hm : m ≤ 6) (q : Nat) (hq : q < 512) : WRi l yX7_guess wsX7_guess 2 G [.ref (A 0), .int (nI q)] (mW G A th (nI m) le dg f sl ik sv tx pl) sz (S := Unit) (fun r _ => r = gueR f (nI q)) (fun _ => mW G A (nI 0) (nI (svm m + 1)) le dg (gueF f (nI q)) sl ik (svF sv f m) tx pl) 0 0 := by
  refine wr_of (cc := cX7_guess) (maxL := 3) (ret := (some .int)) (Qc := fun Ar => wQi G (S := Unit) (fun r _ => r = gueR f (nI q)) (fun _ => mW G A (nI 0) (nI (svm m + 1)) le dg (gueF f (nI q)) sl ik (svF sv f m) tx pl) Ar) (by decide) rfl (Nat.le_of_ble_eq_true rfl) ?_
  intro pG eG s mG below meth cG hsz hx hb hr hml hts hown hlocks hnm hP hK hN Ar hD hA hS ls hl
  have hown : s.vm.findClass RX7 = some mG.cls := hown
  have hP : PP G (mW G A th (nI m) le dg f sl ik sv tx pl) s.heap := hP
  have hD : va_D Ar (mW G A th (nI m) le dg f sl ik sv tx pl) := hD
  have hl : lv_has ls 3 [(0, .ref (A 0)), (1, .int (nI q))] := hl
  refine lv_aload_n hx hb dX7_guess_0 rfl (lv_at hl 0 rfl) ?_
  refine lv_iload_n hx hb dX7_guess_1 rfl (lv_at hl 1 rfl) ?_
  refine lv_iconst (v := nI 0) hx hb dX7_guess_2 (by decide) ?_
  refine lv_sipush (v := nI 511) hx hb dX7_guess_3 (by decide +kernel) ?_
  refine rd_go (va_runS (As := [.int (nI q), .int (nI 0), .int (nI 511)]) (rest := [.ref (A 0)]) ⟨hx, hb, hml, hown, hts⟩ (c_X7_in l G (nI q) (nI 0) (nI 511)) (va_cwS 3 hts gX7_guess_X7_in rfl rfl rfl (by decide +kernel) ⟨Nat.le_of_ble_eq_true rfl, Nat.le_of_ble_eq_true rfl⟩) (rS (ws := []) hK hN P_nil) rfl rfl hl.1 rfl (lv_room (Nat.le_of_ble_eq_true rfl)) dX7_guess_6 ⟨Nat.le_of_ble_eq_true rfl, Nat.le_of_ble_eq_true rfl⟩) ?_
  refine lv_cgi (y := nI 1) (b2T (inB_n (Nat.zero_le _) (by omega) (by omega))) ?_
  refine lv_if_eq (tgt := 16) hx hb dX7_guess_9 (by decide) (fun c_9 => ?_) (fun c_9 => ?_)
  · exact absurd c_9 (by decide)
  · refine lv_iconst (v := nI 0) hx hb dX7_guess_12 (by decide) ?_
    refine lv_goto (tgt := 17) hx hb dX7_guess_13 (by decide) ?_
    refine wr_goi (pre := []) (mid := mW G A th (nI m) le dg f sl ik sv tx pl) (suf := []) (va_runV (As := [.int (nI 0)]) (rest := []) ⟨hx, hb, hml, hown, hts⟩ (c_X7_holds l G _ A th (nI m) le dg f sl ik sv tx pl (nI 0)) (cwV 1 hts gX7_guess_X7_holds rfl rfl rfl (by decide +kernel) ⟨Nat.le_of_ble_eq_true rfl, Nat.le_of_ble_eq_true rfl⟩) (wV (pre := []) (mid := mW G A th (nI m) le dg f sl ik sv tx pl) (suf := []) (va_recv (ws := mW G A th (nI m) le dg f sl ik sv tx pl) hK hP (ci := 6) (q0 := 0) rfl rfl) hK hN hP hD) rfl rfl hl.1 rfl (lv_room (Nat.le_of_ble_eq_true rfl)) dX7_guess_17 ⟨Nat.le_of_ble_eq_true rfl, Nat.le_of_ble_eq_true rfl⟩) hP hD hS hA (fun r _ H locs hw hP hD hS => ?_)
    subst hw
    have hP : PP G (mW G A (nI 0) (nI m) le dg f sl ik sv tx pl) H := hP
    have hD : va_D Ar (mW G A (nI 0) (nI m) le dg f sl ik sv tx pl) := hD
    refine lv_cgi (y := nI 1) (by decide) ?_
    refine lv_if_ne (tgt := 25) hx hb dX7_guess_20 (by decide) (fun c_20 => ?_) (fun c_20 => ?_)
    · refine lv_aload_n hx hb dX7_guess_25 rfl (lv_at hl 0 rfl) ?_
      refine wr_gov (pre := []) (mid := mW G A (nI 0) (nI m) le dg f sl ik sv tx pl) (suf := []) (va_runV (As := []) (rest := []) ⟨hx, hb, hml, hown, hts⟩ (c_X7_save l G _ A (nI 0) le dg f sl ik sv tx pl m hm) (cwV 0 hts gX7_guess_X7_save rfl rfl rfl (by decide +kernel) ⟨Nat.le_of_ble_eq_true rfl, Nat.le_of_ble_eq_true rfl⟩) (wV (pre := []) (mid := mW G A (nI 0) (nI m) le dg f sl ik sv tx pl) (suf := []) (va_recv (ws := mW G A (nI 0) (nI m) le dg f sl ik sv tx pl) hK hP (ci := 6) (q0 := 0) rfl rfl) hK hN hP hD) rfl rfl hl.1 rfl (lv_room (Nat.le_of_ble_eq_true rfl)) dX7_guess_26 ⟨Nat.le_of_ble_eq_true rfl, Nat.le_of_ble_eq_true rfl⟩) hP hD hS hA (fun _ H locs hw hP hD hS => ?_)
      have hP : PP G (mW G A (nI 0) (nI (svm m + 1)) le dg f sl ik (svF sv f m) tx pl) H := hP
      have hD : va_D Ar (mW G A (nI 0) (nI (svm m + 1)) le dg f sl ik (svF sv f m) tx pl) := hD
      refine lv_iload_n hx hb dX7_guess_29 rfl (lv_at hl 1 rfl) ?_
      refine lv_aload_n hx hb dX7_guess_30 rfl (lv_at hl 0 rfl) ?_
      refine va_get (D := G.1) (ws := mW G A (nI 0) (nI (svm m + 1)) le dg f sl ik (svF sv f m) tx pl) (ci := 6) (v := .ref (A 1)) (C := RX7) (T := TX7) (N := 10) hx hb hts (fun _ h => List.mem_cons_of_mem _ (List.mem_append_right _ (h))) hown hK hP 0 rfl rfl 1 (by decide) (hts (.fieldLink RX7 7 "CreaseMapsModel" "s" "[I") (List.mem_of_getElem? (i := 1) rfl)) (fun _ h9 => h9) rfl dX7_guess_31 ?_
      refine lv_iconst (v := nI 0) hx hb dX7_guess_34 (by decide) ?_
      refine va_iald (D := G.1) (ws := mW G A (nI 0) (nI (svm m + 1)) le dg f sl ik (svF sv f m) tx pl) hx hb hK hP 1 0 (n := 58) rfl rfl (by first | assumption | exact vp_in_nI (by omega) (by omega)) dX7_guess_35 ?_
      refine lv_cgi (y := f 0) rfl ?_
      refine lv_icmp_ne (tgt := 43) hx hb dX7_guess_36 (by decide) (fun c_36 => ?_) (fun c_36 => ?_)
      · refine lv_iconst (v := nI 0) hx hb dX7_guess_43 (by decide) ?_
        refine lv_istore_n (lv' := [(2, .int (nI 0)), (0, .ref (A 0)), (1, .int (nI q))]) hx hb dX7_guess_44 rfl hl (by decide) rfl (fun ls hl => ?_)
        refine lv_aload_n hx hb dX7_guess_45 rfl (lv_at hl 1 rfl) ?_
        refine va_get (D := G.1) (ws := mW G A (nI 0) (nI (svm m + 1)) le dg f sl ik (svF sv f m) tx pl) (ci := 6) (v := .ref (A 1)) (C := RX7) (T := TX7) (N := 10) hx hb hts (fun _ h => List.mem_cons_of_mem _ (List.mem_append_right _ (h))) hown hK hP 0 rfl rfl 1 (by decide) (hts (.fieldLink RX7 7 "CreaseMapsModel" "s" "[I") (List.mem_of_getElem? (i := 1) rfl)) (fun _ h9 => h9) rfl dX7_guess_46 ?_
        refine lv_bipush (v := nI 55) hx hb dX7_guess_49 (by decide) ?_
        refine lv_dup2_11 hx hb dX7_guess_51 rfl rfl ?_
        refine va_iald (D := G.1) (ws := mW G A (nI 0) (nI (svm m + 1)) le dg f sl ik (svF sv f m) tx pl) hx hb hK hP 1 0 (n := 58) rfl rfl (by first | assumption | exact vp_in_nI (by omega) (by omega)) dX7_guess_52 ?_
        refine lv_cgi (y := f 55) rfl ?_
        refine lv_iconst (v := nI 1) hx hb dX7_guess_53 (by decide) ?_
        refine lv_iadd hx hb dX7_guess_54 ?_
        refine va_iast (D := G.1) (ws := mW G A (nI 0) (nI (svm m + 1)) le dg f sl ik (svF sv f m) tx pl) hx hb hK hP hD hS 1 0 (n := 58) rfl rfl (by first | assumption | exact vp_in_nI (by omega) (by omega)) dX7_guess_55 (fun H locs hP hD hS => ?_)
        have hP : PP G (mW G A (nI 0) (nI (svm m + 1)) le dg (upd f 55 ((f 55) + (nI 1))) sl ik (svF sv f m) tx pl) H := hP
        have hD : va_D Ar (mW G A (nI 0) (nI (svm m + 1)) le dg (upd f 55 ((f 55) + (nI 1))) sl ik (svF sv f m) tx pl) := hD
        refine lv_aload_n hx hb dX7_guess_56 rfl (lv_at hl 1 rfl) ?_
        refine va_get (D := G.1) (ws := mW G A (nI 0) (nI (svm m + 1)) le dg (upd f 55 ((f 55) + (nI 1))) sl ik (svF sv f m) tx pl) (ci := 6) (v := .ref (A 1)) (C := RX7) (T := TX7) (N := 10) hx hb hts (fun _ h => List.mem_cons_of_mem _ (List.mem_append_right _ (h))) hown hK hP 0 rfl rfl 1 (by decide) (hts (.fieldLink RX7 7 "CreaseMapsModel" "s" "[I") (List.mem_of_getElem? (i := 1) rfl)) (fun _ h9 => h9) rfl dX7_guess_57 ?_
        refine lv_bipush (v := nI 56) hx hb dX7_guess_60 (by decide) ?_
        refine lv_dup2_11 hx hb dX7_guess_62 rfl rfl ?_
        refine va_iald (D := G.1) (ws := mW G A (nI 0) (nI (svm m + 1)) le dg (upd f 55 ((f 55) + (nI 1))) sl ik (svF sv f m) tx pl) hx hb hK hP 1 0 (n := 58) rfl rfl (by first | assumption | exact vp_in_nI (by omega) (by omega)) dX7_guess_63 ?_
        refine lv_cgi (y := (upd f 55 ((f 55) + (nI 1))) 56) rfl ?_
        refine lv_iload_n hx hb dX7_guess_64 rfl (lv_at hl 0 rfl) ?_
        refine lv_if_eq (tgt := 72) hx hb dX7_guess_65 (by decide) (fun c_65 => ?_) (fun c_65 => ?_)
        · refine lv_iconst (v := nI 0) hx hb dX7_guess_72 (by decide) ?_
          refine lv_iadd hx hb dX7_guess_73 ?_
          refine va_iast (D := G.1) (ws := mW G A (nI 0) (nI (svm m + 1)) le dg (upd f 55 ((f 55) + (nI 1))) sl ik (svF sv f m) tx pl) hx hb hK hP hD hS 1 0 (n := 58) rfl rfl (by first | assumption | exact vp_in_nI (by omega) (by omega)) dX7_guess_74 (fun H locs hP hD hS => ?_)
          have hP : PP G (mW G A (nI 0) (nI (svm m + 1)) le dg (upd (upd f 55 ((f 55) + (nI 1))) 56 (((upd f 55 ((f 55) + (nI 1))) 56) + (nI 0))) sl ik (svF sv f m) tx pl) H := hP
          have hD : va_D Ar (mW G A (nI 0) (nI (svm m + 1)) le dg (upd (upd f 55 ((f 55) + (nI 1))) 56 (((upd f 55 ((f 55) + (nI 1))) 56) + (nI 0))) sl ik (svF sv f m) tx pl) := hD
          refine lv_iload_n hx hb dX7_guess_75 rfl (lv_at hl 0 rfl) ?_
          refine lv_if_eq (tgt := 84) hx hb dX7_guess_76 (by decide) (fun c_76 => ?_) (fun c_76 => ?_)
          · refine lv_bipush (v := nI 9) hx hb dX7_guess_84 (by decide) ?_
            refine lv_iload_n hx hb dX7_guess_86 rfl (lv_at hl 2 rfl) ?_
            refine lv_aload_n hx hb dX7_guess_87 rfl (lv_at hl 1 rfl) ?_
            refine va_get (D := G.1) (ws := mW G A (nI 0) (nI (svm m + 1)) le dg (upd (upd f 55 ((f 55) + (nI 1))) 56 (((upd f 55 ((f 55) + (nI 1))) 56) + (nI 0))) sl ik (svF sv f m) tx pl) (ci := 6) (v := .ref (A 1)) (C := RX7) (T := TX7) (N := 10) hx hb hts (fun _ h => List.mem_cons_of_mem _ (List.mem_append_right _ (h))) hown hK hP 0 rfl rfl 1 (by decide) (hts (.fieldLink RX7 7 "CreaseMapsModel" "s" "[I") (List.mem_of_getElem? (i := 1) rfl)) (fun _ h9 => h9) rfl dX7_guess_88 ?_
            refine lv_iconst (v := nI 0) hx hb dX7_guess_91 (by decide) ?_
            refine va_iald (D := G.1) (ws := mW G A (nI 0) (nI (svm m + 1)) le dg (upd (upd f 55 ((f 55) + (nI 1))) 56 (((upd f 55 ((f 55) + (nI 1))) 56) + (nI 0))) sl ik (svF sv f m) tx pl) hx hb hK hP 1 0 (n := 58) rfl rfl (by first | assumption | exact vp_in_nI (by omega) (by omega)) dX7_guess_92 ?_
            refine lv_cgi (y := (upd (upd f 55 ((f 55) + (nI 1))) 56 (((upd f 55 ((f 55) + (nI 1))) 56) + (nI 0))) 0) rfl ?_
            refine lv_ixor hx hb dX7_guess_93 ?_
            refine rd_go (va_runS (As := [.int ((nI q) ^^^ ((upd (upd f 55 ((f 55) + (nI 1))) 56 (((upd f 55 ((f 55) + (nI 1))) 56) + (nI 0))) 0))]) (rest := [.int (nI 9)]) ⟨hx, hb, hml, hown, hts⟩ (c_X7_bits l G ((nI q) ^^^ ((upd (upd f 55 ((f 55) + (nI 1))) 56 (((upd f 55 ((f 55) + (nI 1))) 56) + (nI 0))) 0))) (va_cwS 1 hts gX7_guess_X7_bits rfl rfl rfl (by decide +kernel) ⟨Nat.le_of_ble_eq_true rfl, Nat.le_of_ble_eq_true rfl⟩) (rS (ws := []) hK hN P_nil) rfl rfl hl.1 rfl (lv_room (Nat.le_of_ble_eq_true rfl)) dX7_guess_94 ⟨Nat.le_of_ble_eq_true rfl, Nat.le_of_ble_eq_true rfl⟩) ?_
            refine lv_isub hx hb dX7_guess_97 ?_
            exact wr_iret (S := Unit) (out := fun _ => mW G A (nI 0) (nI (svm m + 1)) le dg (gueF f (nI q)) sl ik (svF sv f m) tx pl) () hx hb hr hlocks (PP_as hP (by unfold gueF; first | (rw [if_pos c_36]; done) | (rw [if_neg c_36]; done))) (D_as hD (by unfold gueF; first | (rw [if_pos c_36]; done) | (rw [if_neg c_36]; done))) hS (Nat.le_of_ble_eq_true rfl) (Nat.le_of_ble_eq_true rfl) (by unfold gueR gueF; first | (rw [if_pos c_36]; done) | (rw [if_neg c_36, if_neg c_36])) dX7_guess_98
          · exact absurd c_76 (by decide)
        · exact absurd c_65 (by decide)
      · refine lv_iconst (v := nI 1) hx hb dX7_guess_39 (by decide) ?_
        refine lv_goto (tgt := 44) hx hb dX7_guess_40 (by decide) ?_
        refine lv_istore_n (lv' := [(2, .int (nI 1)), (0, .ref (A 0)), (1, .int (nI q))]) hx hb dX7_guess_44 rfl hl (by decide) rfl (fun ls hl => ?_)
        refine lv_aload_n hx hb dX7_guess_45 rfl (lv_at hl 1 rfl) ?_
        refine va_get (D := G.1) (ws := mW G A (nI 0) (nI (svm m + 1)) le dg f sl ik (svF sv f m) tx pl) (ci := 6) (v := .ref (A 1)) (C := RX7) (T := TX7) (N := 10) hx hb hts (fun _ h => List.mem_cons_of_mem _ (List.mem_append_right _ (h))) hown hK hP 0 rfl rfl 1 (by decide) (hts (.fieldLink RX7 7 "CreaseMapsModel" "s" "[I") (List.mem_of_getElem? (i := 1) rfl)) (fun _ h9 => h9) rfl dX7_guess_46 ?_
        refine lv_bipush (v := nI 55) hx hb dX7_guess_49 (by decide) ?_
        refine lv_dup2_11 hx hb dX7_guess_51 rfl rfl ?_
        refine va_iald (D := G.1) (ws := mW G A (nI 0) (nI (svm m + 1)) le dg f sl ik (svF sv f m) tx pl) hx hb hK hP 1 0 (n := 58) rfl rfl (by first | assumption | exact vp_in_nI (by omega) (by omega)) dX7_guess_52 ?_
        refine lv_cgi (y := f 55) rfl ?_
        refine lv_iconst (v := nI 1) hx hb dX7_guess_53 (by decide) ?_
        refine lv_iadd hx hb dX7_guess_54 ?_
        refine va_iast (D := G.1) (ws := mW G A (nI 0) (nI (svm m + 1)) le dg f sl ik (svF sv f m) tx pl) hx hb hK hP hD hS 1 0 (n := 58) rfl rfl (by first | assumption | exact vp_in_nI (by omega) (by omega)) dX7_guess_55 (fun H locs hP hD hS => ?_)
        have hP : PP G (mW G A (nI 0) (nI (svm m + 1)) le dg (upd f 55 ((f 55) + (nI 1))) sl ik (svF sv f m) tx pl) H := hP
        have hD : va_D Ar (mW G A (nI 0) (nI (svm m + 1)) le dg (upd f 55 ((f 55) + (nI 1))) sl ik (svF sv f m) tx pl) := hD
        refine lv_aload_n hx hb dX7_guess_56 rfl (lv_at hl 1 rfl) ?_
        refine va_get (D := G.1) (ws := mW G A (nI 0) (nI (svm m + 1)) le dg (upd f 55 ((f 55) + (nI 1))) sl ik (svF sv f m) tx pl) (ci := 6) (v := .ref (A 1)) (C := RX7) (T := TX7) (N := 10) hx hb hts (fun _ h => List.mem_cons_of_mem _ (List.mem_append_right _ (h))) hown hK hP 0 rfl rfl 1 (by decide) (hts (.fieldLink RX7 7 "CreaseMapsModel" "s" "[I") (List.mem_of_getElem? (i := 1) rfl)) (fun _ h9 => h9) rfl dX7_guess_57 ?_
        refine lv_bipush (v := nI 56) hx hb dX7_guess_60 (by decide) ?_
        refine lv_dup2_11 hx hb dX7_guess_62 rfl rfl ?_
        refine va_iald (D := G.1) (ws := mW G A (nI 0) (nI (svm m + 1)) le dg (upd f 55 ((f 55) + (nI 1))) sl ik (svF sv f m) tx pl) hx hb hK hP 1 0 (n := 58) rfl rfl (by first | assumption | exact vp_in_nI (by omega) (by omega)) dX7_guess_63 ?_
        refine lv_cgi (y := (upd f 55 ((f 55) + (nI 1))) 56) rfl ?_
        refine lv_iload_n hx hb dX7_guess_64 rfl (lv_at hl 0 rfl) ?_
        refine lv_if_eq (tgt := 72) hx hb dX7_guess_65 (by decide) (fun c_65 => ?_) (fun c_65 => ?_)
        · exact absurd c_65 (by decide)
        · refine lv_iconst (v := nI 1) hx hb dX7_guess_68 (by decide) ?_
          refine lv_goto (tgt := 73) hx hb dX7_guess_69 (by decide) ?_
          refine lv_iadd hx hb dX7_guess_73 ?_
          refine va_iast (D := G.1) (ws := mW G A (nI 0) (nI (svm m + 1)) le dg (upd f 55 ((f 55) + (nI 1))) sl ik (svF sv f m) tx pl) hx hb hK hP hD hS 1 0 (n := 58) rfl rfl (by first | assumption | exact vp_in_nI (by omega) (by omega)) dX7_guess_74 (fun H locs hP hD hS => ?_)
          have hP : PP G (mW G A (nI 0) (nI (svm m + 1)) le dg (upd (upd f 55 ((f 55) + (nI 1))) 56 (((upd f 55 ((f 55) + (nI 1))) 56) + (nI 1))) sl ik (svF sv f m) tx pl) H := hP
          have hD : va_D Ar (mW G A (nI 0) (nI (svm m + 1)) le dg (upd (upd f 55 ((f 55) + (nI 1))) 56 (((upd f 55 ((f 55) + (nI 1))) 56) + (nI 1))) sl ik (svF sv f m) tx pl) := hD
          refine lv_iload_n hx hb dX7_guess_75 rfl (lv_at hl 0 rfl) ?_
          refine lv_if_eq (tgt := 84) hx hb dX7_guess_76 (by decide) (fun c_76 => ?_) (fun c_76 => ?_)
          · exact absurd c_76 (by decide)
          · refine lv_bipush (v := nI 10) hx hb dX7_guess_79 (by decide) ?_
            refine lv_goto (tgt := 98) hx hb dX7_guess_81 (by decide) ?_
            exact wr_iret (S := Unit) (out := fun _ => mW G A (nI 0) (nI (svm m + 1)) le dg (gueF f (nI q)) sl ik (svF sv f m) tx pl) () hx hb hr hlocks (PP_as hP (by unfold gueF; first | (rw [if_pos c_36]; done) | (rw [if_neg c_36]; done))) (D_as hD (by unfold gueF; first | (rw [if_pos c_36]; done) | (rw [if_neg c_36]; done))) hS (Nat.le_of_ble_eq_true rfl) (Nat.le_of_ble_eq_true rfl) (by unfold gueR gueF; first | (rw [if_pos c_36]; done) | (rw [if_neg c_36, if_neg c_36])) dX7_guess_98
    · exact absurd c_20 (by decide)

set_option maxHeartbeats 4000000 in
set_option maxRecDepth 100000 in
theorem c_X7_guess_no (l : Launch) (G : GG) (sz : Nat) (A : Nat → Nat) (th le : Int32) (dg : Int64) (f sl ik sv tx pl : Nat → Int32) (m : Nat) (hm : m ≤ 6) (x : Int32) (hx0 : ¬ inB x (nI 0) (nI 511)) : WRi l yX7_guess wsX7_guess 3 G [.ref (A 0), .int x] (mW G A th (nI m) le dg f sl ik sv tx pl) sz (S := Unit) (fun r _ => r = nI 0) (fun _ => mW G A (nI 1) (nI m) le dg f sl ik sv tx pl) 0 0 := by
  refine wr_of (cc := cX7_guess) (maxL := 3) (ret := (some .int)) (Qc := fun Ar => wQi G (S := Unit) (fun r _ => r = nI 0) (fun _ => mW G A (nI 1) (nI m) le dg f sl ik sv tx pl) Ar) (by decide) rfl (Nat.le_of_ble_eq_true rfl) ?_
  intro pG eG s mG below meth cG hsz hx hb hr hml hts hown hlocks hnm hP hK hN Ar hD hA hS ls hl
  have hown : s.vm.findClass RX7 = some mG.cls := hown
  have hP : PP G (mW G A th (nI m) le dg f sl ik sv tx pl) s.heap := hP
  have hD : va_D Ar (mW G A th (nI m) le dg f sl ik sv tx pl) := hD
  have hl : lv_has ls 3 [(0, .ref (A 0)), (1, .int x)] := hl
  refine lv_aload_n hx hb dX7_guess_0 rfl (lv_at hl 0 rfl) ?_
  refine lv_iload_n hx hb dX7_guess_1 rfl (lv_at hl 1 rfl) ?_
  refine lv_iconst (v := nI 0) hx hb dX7_guess_2 (by decide) ?_
  refine lv_sipush (v := nI 511) hx hb dX7_guess_3 (by decide +kernel) ?_
  refine rd_go (va_runS (As := [.int x, .int (nI 0), .int (nI 511)]) (rest := [.ref (A 0)]) ⟨hx, hb, hml, hown, hts⟩ (c_X7_in l G x (nI 0) (nI 511)) (va_cwS 3 hts gX7_guess_X7_in rfl rfl rfl (by decide +kernel) ⟨Nat.le_of_ble_eq_true rfl, Nat.le_of_ble_eq_true rfl⟩) (rS (ws := []) hK hN P_nil) rfl rfl hl.1 rfl (lv_room (Nat.le_of_ble_eq_true rfl)) dX7_guess_6 ⟨Nat.le_of_ble_eq_true rfl, Nat.le_of_ble_eq_true rfl⟩) ?_
  refine lv_cgi (y := nI 0) (b2F (hx0)) ?_
  refine lv_if_eq (tgt := 16) hx hb dX7_guess_9 (by decide) (fun c_9 => ?_) (fun c_9 => ?_)
  · refine lv_iconst (v := nI 1) hx hb dX7_guess_16 (by decide) ?_
    refine wr_goi (pre := []) (mid := mW G A th (nI m) le dg f sl ik sv tx pl) (suf := []) (va_runV (As := [.int (nI 1)]) (rest := []) ⟨hx, hb, hml, hown, hts⟩ (c_X7_holds l G _ A th (nI m) le dg f sl ik sv tx pl (nI 1)) (cwV 1 hts gX7_guess_X7_holds rfl rfl rfl (by decide +kernel) ⟨Nat.le_of_ble_eq_true rfl, Nat.le_of_ble_eq_true rfl⟩) (wV (pre := []) (mid := mW G A th (nI m) le dg f sl ik sv tx pl) (suf := []) (va_recv (ws := mW G A th (nI m) le dg f sl ik sv tx pl) hK hP (ci := 6) (q0 := 0) rfl rfl) hK hN hP hD) rfl rfl hl.1 rfl (lv_room (Nat.le_of_ble_eq_true rfl)) dX7_guess_17 ⟨Nat.le_of_ble_eq_true rfl, Nat.le_of_ble_eq_true rfl⟩) hP hD hS hA (fun r _ H locs hw hP hD hS => ?_)
    subst hw
    have hP : PP G (mW G A (nI 1) (nI m) le dg f sl ik sv tx pl) H := hP
    have hD : va_D Ar (mW G A (nI 1) (nI m) le dg f sl ik sv tx pl) := hD
    refine lv_cgi (y := nI 0) (by decide) ?_
    refine lv_if_ne (tgt := 25) hx hb dX7_guess_20 (by decide) (fun c_20 => ?_) (fun c_20 => ?_)
    · exact absurd c_20 (by decide)
    · refine lv_iconst (v := nI 0) hx hb dX7_guess_23 (by decide) ?_
      exact wr_iret (S := Unit) (out := fun _ => mW G A (nI 1) (nI m) le dg f sl ik sv tx pl) () hx hb hr hlocks hP hD hS (Nat.le_of_ble_eq_true rfl) (Nat.le_of_ble_eq_true rfl) (by rfl) dX7_guess_24
  · exact absurd c_9 (by decide)

set_option maxHeartbeats 4000000 in
set_option maxRecDepth 100000 in
theorem c_X7_forget (l : Launch) (G : GG) (sz : Nat) (A : Nat → Nat) (th le : Int32) (dg : Int64) (f sl ik sv tx pl : Nat → Int32) (m : Nat) (hm : m ≤ 6) : WRi l yX7_forget wsX7_forget 2 G [.ref (A 0)] (mW G A th (nI m) le dg f sl ik sv tx pl) sz (S := Unit) (fun r _ => r = f 17) (fun _ => mW G A (nI 0) (nI (svm m + 1)) le dg (zA f 54) sl ik (svF sv f m) tx pl) 0 0 := by
  refine wr_of (cc := cX7_forget) (maxL := 1) (ret := (some .int)) (Qc := fun Ar => wQi G (S := Unit) (fun r _ => r = f 17) (fun _ => mW G A (nI 0) (nI (svm m + 1)) le dg (zA f 54) sl ik (svF sv f m) tx pl) Ar) (by decide) rfl (Nat.le_of_ble_eq_true rfl) ?_
  intro pG eG s mG below meth cG hsz hx hb hr hml hts hown hlocks hnm hP hK hN Ar hD hA hS ls hl
  have hown : s.vm.findClass RX7 = some mG.cls := hown
  have hP : PP G (mW G A th (nI m) le dg f sl ik sv tx pl) s.heap := hP
  have hD : va_D Ar (mW G A th (nI m) le dg f sl ik sv tx pl) := hD
  have hl : lv_has ls 1 [(0, .ref (A 0))] := hl
  refine lv_aload_n hx hb dX7_forget_0 rfl (lv_at hl 0 rfl) ?_
  refine lv_iconst (v := nI 0) hx hb dX7_forget_1 (by decide) ?_
  refine va_put (D := G.1) (ws := mW G A th (nI m) le dg f sl ik sv tx pl) (ci := 6) (v := .int (nI 0)) (ty := .int) (C := RX7) (T := TX7) (N := 10) hx hb hts (fun _ h => List.mem_cons_of_mem _ (List.mem_append_right _ (h))) tyX7 tyX7_ok nmX7 hown hK hP hD hS 0 rfl rfl 0 (by decide) (hts (.fieldLink RX7 29 "CreaseMapsModel" "thrown" "I") (List.mem_of_getElem? (i := 1) rfl)) (fun _ h9 => h9) rfl (by decide +kernel) rfl rfl (Nat.le_of_ble_eq_true rfl) dX7_forget_2 (fun H locs hP hD hS => ?_)
  have hP : PP G (mW G A (nI 0) (nI m) le dg f sl ik sv tx pl) H := hP
  have hD : va_D Ar (mW G A (nI 0) (nI m) le dg f sl ik sv tx pl) := hD
  refine lv_aload_n hx hb dX7_forget_5 rfl (lv_at hl 0 rfl) ?_
  refine wr_gov (pre := []) (mid := mW G A (nI 0) (nI m) le dg f sl ik sv tx pl) (suf := []) (va_runV (As := []) (rest := []) ⟨hx, hb, hml, hown, hts⟩ (c_X7_save l G _ A (nI 0) le dg f sl ik sv tx pl m hm) (cwV 0 hts gX7_forget_X7_save rfl rfl rfl (by decide +kernel) ⟨Nat.le_of_ble_eq_true rfl, Nat.le_of_ble_eq_true rfl⟩) (wV (pre := []) (mid := mW G A (nI 0) (nI m) le dg f sl ik sv tx pl) (suf := []) (va_recv (ws := mW G A (nI 0) (nI m) le dg f sl ik sv tx pl) hK hP (ci := 6) (q0 := 0) rfl rfl) hK hN hP hD) rfl rfl hl.1 rfl (lv_room (Nat.le_of_ble_eq_true rfl)) dX7_forget_6 ⟨Nat.le_of_ble_eq_true rfl, Nat.le_of_ble_eq_true rfl⟩) hP hD hS hA (fun _ H locs hw hP hD hS => ?_)
  have hP : PP G (mW G A (nI 0) (nI (svm m + 1)) le dg f sl ik (svF sv f m) tx pl) H := hP
  have hD : va_D Ar (mW G A (nI 0) (nI (svm m + 1)) le dg f sl ik (svF sv f m) tx pl) := hD
  refine lv_aload_n hx hb dX7_forget_9 rfl (lv_at hl 0 rfl) ?_
  refine wr_goi (pre := []) (mid := mW G A (nI 0) (nI (svm m + 1)) le dg f sl ik (svF sv f m) tx pl) (suf := []) (va_runV (As := []) (rest := []) ⟨hx, hb, hml, hown, hts⟩ (c_X7_takesAway l G _ A (nI 0) (nI (svm m + 1)) le dg f sl ik (svF sv f m) tx pl ) (cwV 0 hts gX7_forget_X7_takesAway rfl rfl rfl (by decide +kernel) ⟨Nat.le_of_ble_eq_true rfl, Nat.le_of_ble_eq_true rfl⟩) (wV (pre := []) (mid := mW G A (nI 0) (nI (svm m + 1)) le dg f sl ik (svF sv f m) tx pl) (suf := []) (va_recv (ws := mW G A (nI 0) (nI (svm m + 1)) le dg f sl ik (svF sv f m) tx pl) hK hP (ci := 6) (q0 := 0) rfl rfl) hK hN hP hD) rfl rfl hl.1 rfl (lv_room (Nat.le_of_ble_eq_true rfl)) dX7_forget_10 ⟨Nat.le_of_ble_eq_true rfl, Nat.le_of_ble_eq_true rfl⟩) hP hD hS hA (fun r _ H locs hw hP hD hS => ?_)
  subst hw
  have hP : PP G (mW G A (nI 0) (nI (svm m + 1)) le dg (zA f 54) sl ik (svF sv f m) tx pl) H := hP
  have hD : va_D Ar (mW G A (nI 0) (nI (svm m + 1)) le dg (zA f 54) sl ik (svF sv f m) tx pl) := hD
  exact wr_iret (S := Unit) (out := fun _ => mW G A (nI 0) (nI (svm m + 1)) le dg (zA f 54) sl ik (svF sv f m) tx pl) () hx hb hr hlocks hP hD hS (Nat.le_of_ble_eq_true rfl) (Nat.le_of_ble_eq_true rfl) (by rfl) dX7_forget_13

set_option maxHeartbeats 4000000 in
set_option maxRecDepth 100000 in
theorem c_X7_append (l : Launch) (G : GG) (sz : Nat) (A : Nat → Nat) (th sm : Int32) (dg : Int64) (f sl ik sv tx pl : Nat → Int32) (lt : Nat) (hlt : lt ≤ 60) (c : Nat) (hc : 33 ≤ c) (hc2 : c ≤ 126) (hl6 : lt < 60) : WRi l yX7_append wsX7_append 2 G [.ref (A 0), .int (nI c)] (mW G A th sm (nI lt) dg f sl ik sv tx pl) sz (S := Unit) (fun r _ => r = nI (lt + 1)) (fun _ => mW G A (nI 0) sm (nI (lt + 1)) dg f sl ik sv (upd tx lt (nI c)) pl) 0 0 := by
  refine wr_of (cc := cX7_append) (maxL := 2) (ret := (some .int)) (Qc := fun Ar => wQi G (S := Unit) (fun r _ => r = nI (lt + 1)) (fun _ => mW G A (nI 0) sm (nI (lt + 1)) dg f sl ik sv (upd tx lt (nI c)) pl) Ar) (by decide) rfl (Nat.le_of_ble_eq_true rfl) ?_
  intro pG eG s mG below meth cG hsz hx hb hr hml hts hown hlocks hnm hP hK hN Ar hD hA hS ls hl
  have hown : s.vm.findClass RX7 = some mG.cls := hown
  have hP : PP G (mW G A th sm (nI lt) dg f sl ik sv tx pl) s.heap := hP
  have hD : va_D Ar (mW G A th sm (nI lt) dg f sl ik sv tx pl) := hD
  have hl : lv_has ls 2 [(0, .ref (A 0)), (1, .int (nI c))] := hl
  refine lv_aload_n hx hb dX7_append_0 rfl (lv_at hl 0 rfl) ?_
  refine lv_iload_n hx hb dX7_append_1 rfl (lv_at hl 1 rfl) ?_
  refine lv_bipush (v := nI 33) hx hb dX7_append_2 (by decide) ?_
  refine lv_bipush (v := nI 126) hx hb dX7_append_4 (by decide) ?_
  refine rd_go (va_runS (As := [.int (nI c), .int (nI 33), .int (nI 126)]) (rest := [.ref (A 0)]) ⟨hx, hb, hml, hown, hts⟩ (c_X7_in l G (nI c) (nI 33) (nI 126)) (va_cwS 3 hts gX7_append_X7_in rfl rfl rfl (by decide +kernel) ⟨Nat.le_of_ble_eq_true rfl, Nat.le_of_ble_eq_true rfl⟩) (rS (ws := []) hK hN P_nil) rfl rfl hl.1 rfl (lv_room (Nat.le_of_ble_eq_true rfl)) dX7_append_6 ⟨Nat.le_of_ble_eq_true rfl, Nat.le_of_ble_eq_true rfl⟩) ?_
  refine lv_cgi (y := nI 1) (b2T (inB_n (by omega) (by omega) (by omega))) ?_
  refine lv_if_ne (tgt := 16) hx hb dX7_append_9 (by decide) (fun c_9 => ?_) (fun c_9 => ?_)
  · refine lv_aload_n hx hb dX7_append_16 rfl (lv_at hl 0 rfl) ?_
    refine va_get (D := G.1) (ws := mW G A th sm (nI lt) dg f sl ik sv tx pl) (ci := 6) (v := .int (nI lt)) (C := RX7) (T := TX7) (N := 10) hx hb hts (fun _ h => List.mem_cons_of_mem _ (List.mem_append_right _ (h))) hown hK hP 0 rfl rfl 7 (by decide) (hts (.fieldLink RX7 91 "CreaseMapsModel" "length" "I") (List.mem_of_getElem? (i := 1) rfl)) (fun _ h9 => h9) rfl dX7_append_17 ?_
    refine lv_bipush (v := nI 60) hx hb dX7_append_20 (by decide) ?_
    refine lv_icmp_ne (tgt := 29) hx hb dX7_append_22 (by decide) (fun c_22 => ?_) (fun c_22 => ?_)
    · refine lv_iconst (v := nI 0) hx hb dX7_append_29 (by decide) ?_
      refine wr_goi (pre := []) (mid := mW G A th sm (nI lt) dg f sl ik sv tx pl) (suf := []) (va_runV (As := [.int (nI 0)]) (rest := []) ⟨hx, hb, hml, hown, hts⟩ (c_X7_holds l G _ A th sm (nI lt) dg f sl ik sv tx pl (nI 0)) (cwV 1 hts gX7_append_X7_holds rfl rfl rfl (by decide +kernel) ⟨Nat.le_of_ble_eq_true rfl, Nat.le_of_ble_eq_true rfl⟩) (wV (pre := []) (mid := mW G A th sm (nI lt) dg f sl ik sv tx pl) (suf := []) (va_recv (ws := mW G A th sm (nI lt) dg f sl ik sv tx pl) hK hP (ci := 6) (q0 := 0) rfl rfl) hK hN hP hD) rfl rfl hl.1 rfl (lv_room (Nat.le_of_ble_eq_true rfl)) dX7_append_30 ⟨Nat.le_of_ble_eq_true rfl, Nat.le_of_ble_eq_true rfl⟩) hP hD hS hA (fun r _ H locs hw hP hD hS => ?_)
      subst hw
      have hP : PP G (mW G A (nI 0) sm (nI lt) dg f sl ik sv tx pl) H := hP
      have hD : va_D Ar (mW G A (nI 0) sm (nI lt) dg f sl ik sv tx pl) := hD
      refine lv_cgi (y := nI 1) (by decide) ?_
      refine lv_if_ne (tgt := 38) hx hb dX7_append_33 (by decide) (fun c_33 => ?_) (fun c_33 => ?_)
      · refine lv_aload_n hx hb dX7_append_38 rfl (lv_at hl 0 rfl) ?_
        refine va_get (D := G.1) (ws := mW G A (nI 0) sm (nI lt) dg f sl ik sv tx pl) (ci := 6) (v := .ref (A 5)) (C := RX7) (T := TX7) (N := 10) hx hb hts (fun _ h => List.mem_cons_of_mem _ (List.mem_append_right _ (h))) hown hK hP 0 rfl rfl 6 (by decide) (hts (.fieldLink RX7 23 "CreaseMapsModel" "text" "[I") (List.mem_of_getElem? (i := 2) rfl)) (fun _ h9 => h9) rfl dX7_append_39 ?_
        refine lv_aload_n hx hb dX7_append_42 rfl (lv_at hl 0 rfl) ?_
        refine va_get (D := G.1) (ws := mW G A (nI 0) sm (nI lt) dg f sl ik sv tx pl) (ci := 6) (v := .int (nI lt)) (C := RX7) (T := TX7) (N := 10) hx hb hts (fun _ h => List.mem_cons_of_mem _ (List.mem_append_right _ (h))) hown hK hP 0 rfl rfl 7 (by decide) (hts (.fieldLink RX7 91 "CreaseMapsModel" "length" "I") (List.mem_of_getElem? (i := 1) rfl)) (fun _ h9 => h9) rfl dX7_append_43 ?_
        refine lv_iload_n hx hb dX7_append_46 rfl (lv_at hl 1 rfl) ?_
        refine va_iast (D := G.1) (ws := mW G A (nI 0) sm (nI lt) dg f sl ik sv tx pl) hx hb hK hP hD hS 5 0 (n := 60) rfl rfl (by first | assumption | exact vp_in_nI (by omega) (by omega)) dX7_append_47 (fun H locs hP hD hS => ?_)
        rw [nI_clamp (by omega)] at hP hD
        have hP : PP G (mW G A (nI 0) sm (nI lt) dg f sl ik sv (upd tx lt (nI c)) pl) H := hP
        have hD : va_D Ar (mW G A (nI 0) sm (nI lt) dg f sl ik sv (upd tx lt (nI c)) pl) := hD
        refine lv_aload_n hx hb dX7_append_48 rfl (lv_at hl 0 rfl) ?_
        refine lv_dup hx hb dX7_append_49 rfl ?_
        refine va_get (D := G.1) (ws := mW G A (nI 0) sm (nI lt) dg f sl ik sv (upd tx lt (nI c)) pl) (ci := 6) (v := .int (nI lt)) (C := RX7) (T := TX7) (N := 10) hx hb hts (fun _ h => List.mem_cons_of_mem _ (List.mem_append_right _ (h))) hown hK hP 0 rfl rfl 7 (by decide) (hts (.fieldLink RX7 91 "CreaseMapsModel" "length" "I") (List.mem_of_getElem? (i := 1) rfl)) (fun _ h9 => h9) rfl dX7_append_50 ?_
        refine lv_iconst (v := nI 1) hx hb dX7_append_53 (by decide) ?_
        refine lv_iadd hx hb dX7_append_54 ?_
        refine lv_cgi (y := nI (lt + 1)) (nI_add _ _) ?_
        refine va_put (D := G.1) (ws := mW G A (nI 0) sm (nI lt) dg f sl ik sv (upd tx lt (nI c)) pl) (ci := 6) (v := .int (nI (lt + 1))) (ty := .int) (C := RX7) (T := TX7) (N := 10) hx hb hts (fun _ h => List.mem_cons_of_mem _ (List.mem_append_right _ (h))) tyX7 tyX7_ok nmX7 hown hK hP hD hS 0 rfl rfl 7 (by decide) (hts (.fieldLink RX7 91 "CreaseMapsModel" "length" "I") (List.mem_of_getElem? (i := 1) rfl)) (fun _ h9 => h9) rfl (by decide +kernel) rfl rfl (Nat.le_of_ble_eq_true rfl) dX7_append_55 (fun H locs hP hD hS => ?_)
        have hP : PP G (mW G A (nI 0) sm (nI (lt + 1)) dg f sl ik sv (upd tx lt (nI c)) pl) H := hP
        have hD : va_D Ar (mW G A (nI 0) sm (nI (lt + 1)) dg f sl ik sv (upd tx lt (nI c)) pl) := hD
        refine lv_aload_n hx hb dX7_append_58 rfl (lv_at hl 0 rfl) ?_
        refine va_get (D := G.1) (ws := mW G A (nI 0) sm (nI (lt + 1)) dg f sl ik sv (upd tx lt (nI c)) pl) (ci := 6) (v := .int (nI (lt + 1))) (C := RX7) (T := TX7) (N := 10) hx hb hts (fun _ h => List.mem_cons_of_mem _ (List.mem_append_right _ (h))) hown hK hP 0 rfl rfl 7 (by decide) (hts (.fieldLink RX7 91 "CreaseMapsModel" "length" "I") (List.mem_of_getElem? (i := 1) rfl)) (fun _ h9 => h9) rfl dX7_append_59 ?_
        exact wr_iret (S := Unit) (out := fun _ => mW G A (nI 0) sm (nI (lt + 1)) dg f sl ik sv (upd tx lt (nI c)) pl) () hx hb hr hlocks hP hD hS (Nat.le_of_ble_eq_true rfl) (Nat.le_of_ble_eq_true rfl) (by rfl) dX7_append_62
      · exact absurd c_33 (by decide)
    · exact absurd (nIe c_22 (by omega) (by omega)) (by omega)
  · exact absurd c_9 (by decide)

set_option maxHeartbeats 4000000 in
set_option maxRecDepth 100000 in
theorem c_X7_append_no1 (l : Launch) (G : GG) (sz : Nat) (A : Nat → Nat) (th sm : Int32) (dg : Int64) (f sl ik sv tx pl : Nat → Int32) (lt : Nat) (hlt : lt ≤ 60) (x : Int32) (hx0 : ¬ inB x (nI 33) (nI 126)) : WRi l yX7_append wsX7_append 2 G [.ref (A 0), .int x] (mW G A th sm (nI lt) dg f sl ik sv tx pl) sz (S := Unit) (fun r _ => r = nI 0) (fun _ => mW G A (nI 1) sm (nI lt) dg f sl ik sv tx pl) 0 0 := by
  refine wr_of (cc := cX7_append) (maxL := 2) (ret := (some .int)) (Qc := fun Ar => wQi G (S := Unit) (fun r _ => r = nI 0) (fun _ => mW G A (nI 1) sm (nI lt) dg f sl ik sv tx pl) Ar) (by decide) rfl (Nat.le_of_ble_eq_true rfl) ?_
  intro pG eG s mG below meth cG hsz hx hb hr hml hts hown hlocks hnm hP hK hN Ar hD hA hS ls hl
  have hown : s.vm.findClass RX7 = some mG.cls := hown
  have hP : PP G (mW G A th sm (nI lt) dg f sl ik sv tx pl) s.heap := hP
  have hD : va_D Ar (mW G A th sm (nI lt) dg f sl ik sv tx pl) := hD
  have hl : lv_has ls 2 [(0, .ref (A 0)), (1, .int x)] := hl
  refine lv_aload_n hx hb dX7_append_0 rfl (lv_at hl 0 rfl) ?_
  refine lv_iload_n hx hb dX7_append_1 rfl (lv_at hl 1 rfl) ?_
  refine lv_bipush (v := nI 33) hx hb dX7_append_2 (by decide) ?_
  refine lv_bipush (v := nI 126) hx hb dX7_append_4 (by decide) ?_
  refine rd_go (va_runS (As := [.int x, .int (nI 33), .int (nI 126)]) (rest := [.ref (A 0)]) ⟨hx, hb, hml, hown, hts⟩ (c_X7_in l G x (nI 33) (nI 126)) (va_cwS 3 hts gX7_append_X7_in rfl rfl rfl (by decide +kernel) ⟨Nat.le_of_ble_eq_true rfl, Nat.le_of_ble_eq_true rfl⟩) (rS (ws := []) hK hN P_nil) rfl rfl hl.1 rfl (lv_room (Nat.le_of_ble_eq_true rfl)) dX7_append_6 ⟨Nat.le_of_ble_eq_true rfl, Nat.le_of_ble_eq_true rfl⟩) ?_
  refine lv_cgi (y := nI 0) (b2F (hx0)) ?_
  refine lv_if_ne (tgt := 16) hx hb dX7_append_9 (by decide) (fun c_9 => ?_) (fun c_9 => ?_)
  · exact absurd c_9 (by decide)
  · refine lv_iconst (v := nI 1) hx hb dX7_append_12 (by decide) ?_
    refine lv_goto (tgt := 30) hx hb dX7_append_13 (by decide) ?_
    refine wr_goi (pre := []) (mid := mW G A th sm (nI lt) dg f sl ik sv tx pl) (suf := []) (va_runV (As := [.int (nI 1)]) (rest := []) ⟨hx, hb, hml, hown, hts⟩ (c_X7_holds l G _ A th sm (nI lt) dg f sl ik sv tx pl (nI 1)) (cwV 1 hts gX7_append_X7_holds rfl rfl rfl (by decide +kernel) ⟨Nat.le_of_ble_eq_true rfl, Nat.le_of_ble_eq_true rfl⟩) (wV (pre := []) (mid := mW G A th sm (nI lt) dg f sl ik sv tx pl) (suf := []) (va_recv (ws := mW G A th sm (nI lt) dg f sl ik sv tx pl) hK hP (ci := 6) (q0 := 0) rfl rfl) hK hN hP hD) rfl rfl hl.1 rfl (lv_room (Nat.le_of_ble_eq_true rfl)) dX7_append_30 ⟨Nat.le_of_ble_eq_true rfl, Nat.le_of_ble_eq_true rfl⟩) hP hD hS hA (fun r _ H locs hw hP hD hS => ?_)
    subst hw
    have hP : PP G (mW G A (nI 1) sm (nI lt) dg f sl ik sv tx pl) H := hP
    have hD : va_D Ar (mW G A (nI 1) sm (nI lt) dg f sl ik sv tx pl) := hD
    refine lv_cgi (y := nI 0) (by decide) ?_
    refine lv_if_ne (tgt := 38) hx hb dX7_append_33 (by decide) (fun c_33 => ?_) (fun c_33 => ?_)
    · exact absurd c_33 (by decide)
    · refine lv_iconst (v := nI 0) hx hb dX7_append_36 (by decide) ?_
      exact wr_iret (S := Unit) (out := fun _ => mW G A (nI 1) sm (nI lt) dg f sl ik sv tx pl) () hx hb hr hlocks hP hD hS (Nat.le_of_ble_eq_true rfl) (Nat.le_of_ble_eq_true rfl) (by rfl) dX7_append_37

set_option maxHeartbeats 4000000 in
set_option maxRecDepth 100000 in
theorem c_X7_append_no2 (l : Launch) (G : GG) (sz : Nat) (A : Nat → Nat) (th sm : Int32) (dg : Int64) (f sl ik sv tx pl : Nat → Int32) (lt : Nat) (hlt : lt ≤ 60) (x : Int32) (hx0 : inB x (nI 33) (nI 126)) (hl6 : lt = 60) : WRi l yX7_append wsX7_append 2 G [.ref (A 0), .int x] (mW G A th sm (nI lt) dg f sl ik sv tx pl) sz (S := Unit) (fun r _ => r = nI 0) (fun _ => mW G A (nI 2) sm (nI lt) dg f sl ik sv tx pl) 0 0 := by
  refine wr_of (cc := cX7_append) (maxL := 2) (ret := (some .int)) (Qc := fun Ar => wQi G (S := Unit) (fun r _ => r = nI 0) (fun _ => mW G A (nI 2) sm (nI lt) dg f sl ik sv tx pl) Ar) (by decide) rfl (Nat.le_of_ble_eq_true rfl) ?_
  intro pG eG s mG below meth cG hsz hx hb hr hml hts hown hlocks hnm hP hK hN Ar hD hA hS ls hl
  have hown : s.vm.findClass RX7 = some mG.cls := hown
  have hP : PP G (mW G A th sm (nI lt) dg f sl ik sv tx pl) s.heap := hP
  have hD : va_D Ar (mW G A th sm (nI lt) dg f sl ik sv tx pl) := hD
  have hl : lv_has ls 2 [(0, .ref (A 0)), (1, .int x)] := hl
  refine lv_aload_n hx hb dX7_append_0 rfl (lv_at hl 0 rfl) ?_
  refine lv_iload_n hx hb dX7_append_1 rfl (lv_at hl 1 rfl) ?_
  refine lv_bipush (v := nI 33) hx hb dX7_append_2 (by decide) ?_
  refine lv_bipush (v := nI 126) hx hb dX7_append_4 (by decide) ?_
  refine rd_go (va_runS (As := [.int x, .int (nI 33), .int (nI 126)]) (rest := [.ref (A 0)]) ⟨hx, hb, hml, hown, hts⟩ (c_X7_in l G x (nI 33) (nI 126)) (va_cwS 3 hts gX7_append_X7_in rfl rfl rfl (by decide +kernel) ⟨Nat.le_of_ble_eq_true rfl, Nat.le_of_ble_eq_true rfl⟩) (rS (ws := []) hK hN P_nil) rfl rfl hl.1 rfl (lv_room (Nat.le_of_ble_eq_true rfl)) dX7_append_6 ⟨Nat.le_of_ble_eq_true rfl, Nat.le_of_ble_eq_true rfl⟩) ?_
  refine lv_cgi (y := nI 1) (b2T (hx0)) ?_
  refine lv_if_ne (tgt := 16) hx hb dX7_append_9 (by decide) (fun c_9 => ?_) (fun c_9 => ?_)
  · refine lv_aload_n hx hb dX7_append_16 rfl (lv_at hl 0 rfl) ?_
    refine va_get (D := G.1) (ws := mW G A th sm (nI lt) dg f sl ik sv tx pl) (ci := 6) (v := .int (nI lt)) (C := RX7) (T := TX7) (N := 10) hx hb hts (fun _ h => List.mem_cons_of_mem _ (List.mem_append_right _ (h))) hown hK hP 0 rfl rfl 7 (by decide) (hts (.fieldLink RX7 91 "CreaseMapsModel" "length" "I") (List.mem_of_getElem? (i := 1) rfl)) (fun _ h9 => h9) rfl dX7_append_17 ?_
    refine lv_bipush (v := nI 60) hx hb dX7_append_20 (by decide) ?_
    refine lv_icmp_ne (tgt := 29) hx hb dX7_append_22 (by decide) (fun c_22 => ?_) (fun c_22 => ?_)
    · exact absurd (by rw [hl6]) c_22
    · refine lv_iconst (v := nI 2) hx hb dX7_append_25 (by decide) ?_
      refine lv_goto (tgt := 30) hx hb dX7_append_26 (by decide) ?_
      refine wr_goi (pre := []) (mid := mW G A th sm (nI lt) dg f sl ik sv tx pl) (suf := []) (va_runV (As := [.int (nI 2)]) (rest := []) ⟨hx, hb, hml, hown, hts⟩ (c_X7_holds l G _ A th sm (nI lt) dg f sl ik sv tx pl (nI 2)) (cwV 1 hts gX7_append_X7_holds rfl rfl rfl (by decide +kernel) ⟨Nat.le_of_ble_eq_true rfl, Nat.le_of_ble_eq_true rfl⟩) (wV (pre := []) (mid := mW G A th sm (nI lt) dg f sl ik sv tx pl) (suf := []) (va_recv (ws := mW G A th sm (nI lt) dg f sl ik sv tx pl) hK hP (ci := 6) (q0 := 0) rfl rfl) hK hN hP hD) rfl rfl hl.1 rfl (lv_room (Nat.le_of_ble_eq_true rfl)) dX7_append_30 ⟨Nat.le_of_ble_eq_true rfl, Nat.le_of_ble_eq_true rfl⟩) hP hD hS hA (fun r _ H locs hw hP hD hS => ?_)
      subst hw
      have hP : PP G (mW G A (nI 2) sm (nI lt) dg f sl ik sv tx pl) H := hP
      have hD : va_D Ar (mW G A (nI 2) sm (nI lt) dg f sl ik sv tx pl) := hD
      refine lv_cgi (y := nI 0) (by decide) ?_
      refine lv_if_ne (tgt := 38) hx hb dX7_append_33 (by decide) (fun c_33 => ?_) (fun c_33 => ?_)
      · exact absurd c_33 (by decide)
      · refine lv_iconst (v := nI 0) hx hb dX7_append_36 (by decide) ?_
        exact wr_iret (S := Unit) (out := fun _ => mW G A (nI 2) sm (nI lt) dg f sl ik sv tx pl) () hx hb hr hlocks hP hD hS (Nat.le_of_ble_eq_true rfl) (Nat.le_of_ble_eq_true rfl) (by rfl) dX7_append_37
  · exact absurd c_9 (by decide)

set_option maxHeartbeats 4000000 in
set_option maxRecDepth 100000 in
theorem c_X7_clearBuffer (l : Launch) (G : GG) (sz : Nat) (A : Nat → Nat) (th sm le : Int32) (dg : Int64) (f sl ik sv tx pl : Nat → Int32) : WRi l yX7_clearBuffer wsX7_clearBuffer 1 G [.ref (A 0)] (mW G A th sm le dg f sl ik sv tx pl) sz (S := Unit) (fun r _ => r = le) (fun _ => mW G A (nI 0) sm (nI 0) dg f sl ik sv tx pl) 0 0 := by
  refine wr_of (cc := cX7_clearBuffer) (maxL := 2) (ret := (some .int)) (Qc := fun Ar => wQi G (S := Unit) (fun r _ => r = le) (fun _ => mW G A (nI 0) sm (nI 0) dg f sl ik sv tx pl) Ar) (by decide) rfl (Nat.le_of_ble_eq_true rfl) ?_
  intro pG eG s mG below meth cG hsz hx hb hr hml hts hown hlocks hnm hP hK hN Ar hD hA hS ls hl
  have hown : s.vm.findClass RX7 = some mG.cls := hown
  have hP : PP G (mW G A th sm le dg f sl ik sv tx pl) s.heap := hP
  have hD : va_D Ar (mW G A th sm le dg f sl ik sv tx pl) := hD
  have hl : lv_has ls 2 [(0, .ref (A 0))] := hl
  refine lv_aload_n hx hb dX7_clearBuffer_0 rfl (lv_at hl 0 rfl) ?_
  refine lv_iconst (v := nI 0) hx hb dX7_clearBuffer_1 (by decide) ?_
  refine va_put (D := G.1) (ws := mW G A th sm le dg f sl ik sv tx pl) (ci := 6) (v := .int (nI 0)) (ty := .int) (C := RX7) (T := TX7) (N := 10) hx hb hts (fun _ h => List.mem_cons_of_mem _ (List.mem_append_right _ (h))) tyX7 tyX7_ok nmX7 hown hK hP hD hS 0 rfl rfl 0 (by decide) (hts (.fieldLink RX7 29 "CreaseMapsModel" "thrown" "I") (List.mem_of_getElem? (i := 1) rfl)) (fun _ h9 => h9) rfl (by decide +kernel) rfl rfl (Nat.le_of_ble_eq_true rfl) dX7_clearBuffer_2 (fun H locs hP hD hS => ?_)
  have hP : PP G (mW G A (nI 0) sm le dg f sl ik sv tx pl) H := hP
  have hD : va_D Ar (mW G A (nI 0) sm le dg f sl ik sv tx pl) := hD
  refine lv_aload_n hx hb dX7_clearBuffer_5 rfl (lv_at hl 0 rfl) ?_
  refine va_get (D := G.1) (ws := mW G A (nI 0) sm le dg f sl ik sv tx pl) (ci := 6) (v := .int le) (C := RX7) (T := TX7) (N := 10) hx hb hts (fun _ h => List.mem_cons_of_mem _ (List.mem_append_right _ (h))) hown hK hP 0 rfl rfl 7 (by decide) (hts (.fieldLink RX7 91 "CreaseMapsModel" "length" "I") (List.mem_of_getElem? (i := 2) rfl)) (fun _ h9 => h9) rfl dX7_clearBuffer_6 ?_
  refine lv_istore_n (lv' := [(1, .int le), (0, .ref (A 0))]) hx hb dX7_clearBuffer_9 rfl hl (by decide) rfl (fun ls hl => ?_)
  refine lv_aload_n hx hb dX7_clearBuffer_10 rfl (lv_at hl 1 rfl) ?_
  refine lv_iconst (v := nI 0) hx hb dX7_clearBuffer_11 (by decide) ?_
  refine va_put (D := G.1) (ws := mW G A (nI 0) sm le dg f sl ik sv tx pl) (ci := 6) (v := .int (nI 0)) (ty := .int) (C := RX7) (T := TX7) (N := 10) hx hb hts (fun _ h => List.mem_cons_of_mem _ (List.mem_append_right _ (h))) tyX7 tyX7_ok nmX7 hown hK hP hD hS 0 rfl rfl 7 (by decide) (hts (.fieldLink RX7 91 "CreaseMapsModel" "length" "I") (List.mem_of_getElem? (i := 2) rfl)) (fun _ h9 => h9) rfl (by decide +kernel) rfl rfl (Nat.le_of_ble_eq_true rfl) dX7_clearBuffer_12 (fun H locs hP hD hS => ?_)
  have hP : PP G (mW G A (nI 0) sm (nI 0) dg f sl ik sv tx pl) H := hP
  have hD : va_D Ar (mW G A (nI 0) sm (nI 0) dg f sl ik sv tx pl) := hD
  refine lv_iload_n hx hb dX7_clearBuffer_15 rfl (lv_at hl 0 rfl) ?_
  exact wr_iret (S := Unit) (out := fun _ => mW G A (nI 0) sm (nI 0) dg f sl ik sv tx pl) () hx hb hr hlocks hP hD hS (Nat.le_of_ble_eq_true rfl) (Nat.le_of_ble_eq_true rfl) (by rfl) dX7_clearBuffer_16

set_option maxHeartbeats 4000000 in
set_option maxRecDepth 100000 in
theorem c_X7_isMark (l : Launch) (G : GG) (c : Int32) : RD l yX7_isMark wsX7_isMark 1 G [.int c] (([] : va_W)) (some (.int (b2 (isMk c)))) := by
  refine rd_of (cc := cX7_isMark) (maxL := 1) (ret := (some .boolean)) (by decide) rfl (Nat.le_of_ble_eq_true rfl) ?_
  intro pG eG s mG below meth cG hx hb hr hml hts hown hlocks hP hK hN ls hl
  have hown : s.vm.findClass RX7 = some mG.cls := hown
  have hl : lv_has ls 1 [(0, .int c)] := hl
  refine lv_iload_n hx hb dX7_isMark_0 rfl (lv_at hl 0 rfl) ?_
  refine lv_bipush (v := nI 124) hx hb dX7_isMark_1 (by decide) ?_
  refine lv_icmp_eq (tgt := 12) hx hb dX7_isMark_3 (by decide) (fun c_3 => ?_) (fun c_3 => ?_)
  · refine lv_iconst (v := nI 1) hx hb dX7_isMark_12 (by decide) ?_
    refine lv_goto (tgt := 17) hx hb dX7_isMark_13 (by decide) ?_
    exact rd_zret hx hb hr hlocks (by first | decide | exact b2_nar _) (by unfold isMk; simp [c_3, b2]) dX7_isMark_17
  · refine lv_iload_n hx hb dX7_isMark_6 rfl (lv_at hl 0 rfl) ?_
    refine lv_bipush (v := nI 94) hx hb dX7_isMark_7 (by decide) ?_
    refine lv_icmp_ne (tgt := 16) hx hb dX7_isMark_9 (by decide) (fun c_9 => ?_) (fun c_9 => ?_)
    · refine lv_iconst (v := nI 0) hx hb dX7_isMark_16 (by decide) ?_
      exact rd_zret hx hb hr hlocks (by first | decide | exact b2_nar _) (by unfold isMk; simp [c_3, c_9, b2]) dX7_isMark_17
    · refine lv_iconst (v := nI 1) hx hb dX7_isMark_12 (by decide) ?_
      refine lv_goto (tgt := 17) hx hb dX7_isMark_13 (by decide) ?_
      exact rd_zret hx hb hr hlocks (by first | decide | exact b2_nar _) (by unfold isMk; simp [c_3, c_9, b2]) dX7_isMark_17

set_option maxHeartbeats 4000000 in
set_option maxRecDepth 100000 in
theorem c_X7_marks (l : Launch) (G : GG) (A : Nat → Nat) (th sm : Int32) (dg : Int64) (f sl ik sv tx pl : Nat → Int32) (lt : Nat) (hlt : lt ≤ 60) : RD l yX7_marks wsX7_marks 2 G [.ref (A 0)] (mW G A th sm (nI lt) dg f sl ik sv tx pl) (some (.int (mks tx lt))) := by
  refine rd_of (cc := cX7_marks) (maxL := 3) (ret := (some .int)) (by decide) rfl (Nat.le_of_ble_eq_true rfl) ?_
  intro pG eG s mG below meth cG hx hb hr hml hts hown hlocks hP hK hN ls hl
  have hown : s.vm.findClass RX7 = some mG.cls := hown
  have hl : lv_has ls 3 [(0, .ref (A 0))] := hl
  refine lv_iconst (v := nI 0) hx hb dX7_marks_0 (by decide) ?_
  refine lv_istore_n (lv' := [(1, .int (nI 0)), (0, .ref (A 0))]) hx hb dX7_marks_1 rfl hl (by decide) rfl (fun ls hl => ?_)
  refine lv_iconst (v := nI 0) hx hb dX7_marks_2 (by decide) ?_
  refine lv_istore_n (lv' := [(2, .int (nI 0)), (1, .int (nI 0)), (0, .ref (A 0))]) hx hb dX7_marks_3 rfl hl (by decide) rfl (fun ls hl => ?_)
  have L4 : ∀ (fu : Nat) (k : Nat) (hk : k ≤ lt), lt + 1 ≤ k + fu → ∀ ls : Array Slot, lv_has ls 3 [(0, .ref (A 0)), (1, .int (mks tx k)), (2, .int (nI k))] → W pG l eG (RM 2 0 0) s mG ([.ref (A 0)] : List Value).toArray below meth cG s.heap [] 0 0 (MQ below (rQ (some (.int (mks tx lt)))) ([.ref (A 0)] : List Value).toArray s 0 0 (fun _ => False)) (F0 mG 4 ls []) := by
    intro fu
    induction fu with
    | zero => intro k hk hfu; exact absurd hfu (by omega)
    | succ fu ih =>
      intro k hk hfu ls hl
      refine lv_iload_n hx hb dX7_marks_4 rfl (lv_at hl 2 rfl) ?_
      refine lv_aload_n hx hb dX7_marks_5 rfl (lv_at hl 0 rfl) ?_
      refine va_get (D := G.1) (ws := mW G A th sm (nI lt) dg f sl ik sv tx pl) (ci := 6) (v := .int (nI lt)) (C := RX7) (T := TX7) (N := 10) hx hb hts (fun _ h => List.mem_cons_of_mem _ (List.mem_append_right _ (h))) hown hK hP 0 rfl rfl 7 (by decide) (hts (.fieldLink RX7 91 "CreaseMapsModel" "length" "I") (List.mem_of_getElem? (i := 1) rfl)) (fun _ h9 => h9) rfl dX7_marks_6 ?_
      refine lv_icmp_ge (tgt := 38) hx hb dX7_marks_9 (by decide) (fun c_9 => ?_) (fun c_9 => ?_)
      · have q1 : lt ≤ k := fe c_9 (by omega) (by omega)
        refine lv_iload_n hx hb dX7_marks_38 rfl (lv_at hl 1 rfl) ?_
        exact rd_iret hx hb hr hlocks (by rw [show k = lt by omega]) dX7_marks_39
      · have q1 : k < lt := fl c_9 (by omega) (by omega)
        refine lv_iload_n hx hb dX7_marks_12 rfl (lv_at hl 1 rfl) ?_
        refine lv_aload_n hx hb dX7_marks_13 rfl (lv_at hl 0 rfl) ?_
        refine va_get (D := G.1) (ws := mW G A th sm (nI lt) dg f sl ik sv tx pl) (ci := 6) (v := .ref (A 5)) (C := RX7) (T := TX7) (N := 10) hx hb hts (fun _ h => List.mem_cons_of_mem _ (List.mem_append_right _ (h))) hown hK hP 0 rfl rfl 6 (by decide) (hts (.fieldLink RX7 23 "CreaseMapsModel" "text" "[I") (List.mem_of_getElem? (i := 2) rfl)) (fun _ h9 => h9) rfl dX7_marks_14 ?_
        refine lv_iload_n hx hb dX7_marks_17 rfl (lv_at hl 2 rfl) ?_
        refine va_iald (D := G.1) (ws := mW G A th sm (nI lt) dg f sl ik sv tx pl) hx hb hK hP 5 0 (n := 60) rfl rfl (by first | assumption | exact vp_in_nI (by omega) (by omega)) dX7_marks_18 ?_
        refine lv_cgi (y := tx k) (by rw [nI_clamp (by omega)]) ?_
        refine rd_go (va_runS (As := [.int (tx k)]) (rest := [.int (mks tx k)]) ⟨hx, hb, hml, hown, hts⟩ (c_X7_isMark l G (tx k)) (va_cwS 1 hts gX7_marks_X7_isMark rfl rfl rfl (by decide +kernel) ⟨Nat.le_of_ble_eq_true rfl, Nat.le_of_ble_eq_true rfl⟩) (rS (ws := []) hK hN P_nil) rfl rfl hl.1 rfl (lv_room (Nat.le_of_ble_eq_true rfl)) dX7_marks_19 ⟨Nat.le_of_ble_eq_true rfl, Nat.le_of_ble_eq_true rfl⟩) ?_
        refine lv_if_eq (tgt := 29) hx hb dX7_marks_22 (by decide) (fun c_22 => ?_) (fun c_22 => ?_)
        · have c_22 := b2_eq c_22
          refine lv_iconst (v := nI 0) hx hb dX7_marks_29 (by decide) ?_
          refine lv_iadd hx hb dX7_marks_30 ?_
          refine lv_istore_n (lv' := [(1, .int ((mks tx k) + (nI 0))), (0, .ref (A 0)), (2, .int (nI k))]) hx hb dX7_marks_31 rfl hl (by decide) rfl (fun ls hl => ?_)
          refine lv_iinc (v := nI (k + 1)) (lv' := [(2, .int (nI (k + 1))), (1, .int ((mks tx k) + (nI 0))), (0, .ref (A 0))]) hx hb dX7_marks_32 hl (k := 2) rfl (iincN k) (by decide) rfl (fun ls hl => ?_)
          refine lv_goto (tgt := 4) hx hb dX7_marks_35 (by decide) ?_
          exact ih (k + 1) (by omega) (by omega) ls (lv_as (l1 := [(0, .ref (A 0)), (1, .int ((mks tx k) + (nI 0))), (2, .int (nI (k + 1)))]) (lv_sub hl [2, 1, 0] rfl) (by unfold mks; rw [sumI, c_22]; rfl))
        · have c_22 := b2_ne c_22
          refine lv_iconst (v := nI 1) hx hb dX7_marks_25 (by decide) ?_
          refine lv_goto (tgt := 30) hx hb dX7_marks_26 (by decide) ?_
          refine lv_iadd hx hb dX7_marks_30 ?_
          refine lv_istore_n (lv' := [(1, .int ((mks tx k) + (nI 1))), (0, .ref (A 0)), (2, .int (nI k))]) hx hb dX7_marks_31 rfl hl (by decide) rfl (fun ls hl => ?_)
          refine lv_iinc (v := nI (k + 1)) (lv' := [(2, .int (nI (k + 1))), (1, .int ((mks tx k) + (nI 1))), (0, .ref (A 0))]) hx hb dX7_marks_32 hl (k := 2) rfl (iincN k) (by decide) rfl (fun ls hl => ?_)
          refine lv_goto (tgt := 4) hx hb dX7_marks_35 (by decide) ?_
          exact ih (k + 1) (by omega) (by omega) ls (lv_as (l1 := [(0, .ref (A 0)), (1, .int ((mks tx k) + (nI 1))), (2, .int (nI (k + 1)))]) (lv_sub hl [2, 1, 0] rfl) (by unfold mks; rw [sumI, c_22]; rfl))
  exact L4 (lt + 1) 0 (by omega) (by omega) ls (lv_as (l1 := [(0, .ref (A 0)), (1, .int (nI 0)), (2, .int (nI 0))]) (lv_sub hl [2, 1, 0] rfl) (by rfl))

set_option maxHeartbeats 4000000 in
set_option maxRecDepth 100000 in
theorem c_X7_right (l : Launch) (G : GG) (A : Nat → Nat) (th sm : Int32) (dg : Int64) (f sl ik sv tx pl : Nat → Int32) (lt : Nat) (hlt : lt ≤ 60) : RD l yX7_right wsX7_right 2 G [.ref (A 0)] (mW G A th sm (nI lt) dg f sl ik sv tx pl) (some (.int (nI (rgt tx lt 0)))) := by
  refine rd_of (cc := cX7_right) (maxL := 6) (ret := (some .int)) (by decide) rfl (Nat.le_of_ble_eq_true rfl) ?_
  intro pG eG s mG below meth cG hx hb hr hml hts hown hlocks hP hK hN ls hl
  have hown : s.vm.findClass RX7 = some mG.cls := hown
  have hl : lv_has ls 6 [(0, .ref (A 0))] := hl
  refine lv_iconst (v := nI 0) hx hb dX7_right_0 (by decide) ?_
  refine lv_istore_n (lv' := [(1, .int (nI 0)), (0, .ref (A 0))]) hx hb dX7_right_1 rfl hl (by decide) rfl (fun ls hl => ?_)
  refine lv_iconst (v := nI 0) hx hb dX7_right_2 (by decide) ?_
  refine lv_istore_n (lv' := [(2, .int (nI 0)), (1, .int (nI 0)), (0, .ref (A 0))]) hx hb dX7_right_3 rfl hl (by decide) rfl (fun ls hl => ?_)
  refine lv_iconst (v := nI 0) hx hb dX7_right_4 (by decide) ?_
  refine lv_istore_n (lv' := [(3, .int (nI 0)), (2, .int (nI 0)), (1, .int (nI 0)), (0, .ref (A 0))]) hx hb dX7_right_5 rfl hl (by decide) rfl (fun ls hl => ?_)
  have L6 : ∀ (fu : Nat) (k : Nat) (hk : k ≤ lt) (hrg : rgt tx (lt - k) k = rgt tx lt 0), lt + 1 ≤ k + fu → ∀ ls : Array Slot, lv_has ls 6 [(0, .ref (A 0)), (1, .int ((rst tx k).1)), (2, .int ((rst tx k).2)), (3, .int (nI k))] → W pG l eG (RM 2 0 0) s mG ([.ref (A 0)] : List Value).toArray below meth cG s.heap [] 0 0 (MQ below (rQ (some (.int (nI (rgt tx lt 0))))) ([.ref (A 0)] : List Value).toArray s 0 0 (fun _ => False)) (F0 mG 6 ls []) := by
    intro fu
    induction fu with
    | zero => intro k hk hrg hfu; exact absurd hfu (by omega)
    | succ fu ih =>
      intro k hk hrg hfu ls hl
      refine lv_iload_n hx hb dX7_right_6 rfl (lv_at hl 3 rfl) ?_
      refine lv_aload_n hx hb dX7_right_7 rfl (lv_at hl 0 rfl) ?_
      refine va_get (D := G.1) (ws := mW G A th sm (nI lt) dg f sl ik sv tx pl) (ci := 6) (v := .int (nI lt)) (C := RX7) (T := TX7) (N := 10) hx hb hts (fun _ h => List.mem_cons_of_mem _ (List.mem_append_right _ (h))) hown hK hP 0 rfl rfl 7 (by decide) (hts (.fieldLink RX7 91 "CreaseMapsModel" "length" "I") (List.mem_of_getElem? (i := 1) rfl)) (fun _ h9 => h9) rfl dX7_right_8 ?_
      refine lv_icmp_ge (tgt := 112) hx hb dX7_right_11 (by decide) (fun c_11 => ?_) (fun c_11 => ?_)
      · have q1 : lt ≤ k := fe c_11 (by omega) (by omega)
        refine lv_aload_n hx hb dX7_right_112 rfl (lv_at hl 0 rfl) ?_
        refine va_get (D := G.1) (ws := mW G A th sm (nI lt) dg f sl ik sv tx pl) (ci := 6) (v := .int (nI lt)) (C := RX7) (T := TX7) (N := 10) hx hb hts (fun _ h => List.mem_cons_of_mem _ (List.mem_append_right _ (h))) hown hK hP 0 rfl rfl 7 (by decide) (hts (.fieldLink RX7 91 "CreaseMapsModel" "length" "I") (List.mem_of_getElem? (i := 1) rfl)) (fun _ h9 => h9) rfl dX7_right_113 ?_
        exact rd_iret hx hb hr hlocks (by first | (rw [← hrg, show k = lt by omega, Nat.sub_self]; rfl) | (rw [← hrg, show lt - k = (lt - (k + 1)) + 1 by omega, rgt, if_neg]; unfold okc isLt; simp [c_11])) dX7_right_116
      · have q1 : k < lt := fl c_11 (by omega) (by omega)
        refine lv_aload_n hx hb dX7_right_14 rfl (lv_at hl 0 rfl) ?_
        refine va_get (D := G.1) (ws := mW G A th sm (nI lt) dg f sl ik sv tx pl) (ci := 6) (v := .ref (A 5)) (C := RX7) (T := TX7) (N := 10) hx hb hts (fun _ h => List.mem_cons_of_mem _ (List.mem_append_right _ (h))) hown hK hP 0 rfl rfl 6 (by decide) (hts (.fieldLink RX7 23 "CreaseMapsModel" "text" "[I") (List.mem_of_getElem? (i := 2) rfl)) (fun _ h9 => h9) rfl dX7_right_15 ?_
        refine lv_iload_n hx hb dX7_right_18 rfl (lv_at hl 3 rfl) ?_
        refine va_iald (D := G.1) (ws := mW G A th sm (nI lt) dg f sl ik sv tx pl) hx hb hK hP 5 0 (n := 60) rfl rfl (by first | assumption | exact vp_in_nI (by omega) (by omega)) dX7_right_19 ?_
        refine lv_cgi (y := tx k) (by rw [nI_clamp (by omega)]) ?_
        refine lv_istore (lv' := [(4, .int (tx k)), (0, .ref (A 0)), (1, .int ((rst tx k).1)), (2, .int ((rst tx k).2)), (3, .int (nI k))]) hx hb dX7_right_20 hl (by decide) rfl (fun ls hl => ?_)
        refine lv_iload hx hb dX7_right_22 (lv_at hl 0 rfl) ?_
        refine lv_bipush (v := nI 97) hx hb dX7_right_24 (by decide) ?_
        refine lv_bipush (v := nI 102) hx hb dX7_right_26 (by decide) ?_
        refine rd_go (va_runS (As := [.int (tx k), .int (nI 97), .int (nI 102)]) (rest := []) ⟨hx, hb, hml, hown, hts⟩ (c_X7_in l G (tx k) (nI 97) (nI 102)) (va_cwS 3 hts gX7_right_X7_in rfl rfl rfl (by decide +kernel) ⟨Nat.le_of_ble_eq_true rfl, Nat.le_of_ble_eq_true rfl⟩) (rS (ws := []) hK hN P_nil) rfl rfl hl.1 rfl (lv_room (Nat.le_of_ble_eq_true rfl)) dX7_right_28 ⟨Nat.le_of_ble_eq_true rfl, Nat.le_of_ble_eq_true rfl⟩) ?_
        refine lv_if_eq (tgt := 50) hx hb dX7_right_31 (by decide) (fun c_31 => ?_) (fun c_31 => ?_)
        · have c_31 := b2_q c_31
          refine lv_iconst (v := nI 0) hx hb dX7_right_50 (by decide) ?_
          refine lv_istore (lv' := [(5, .int (nI 0)), (4, .int (tx k)), (0, .ref (A 0)), (1, .int ((rst tx k).1)), (2, .int ((rst tx k).2)), (3, .int (nI k))]) hx hb dX7_right_51 hl (by decide) rfl (fun ls hl => ?_)
          refine lv_iload hx hb dX7_right_53 (lv_at hl 0 rfl) ?_
          refine lv_if_ne (tgt := 74) hx hb dX7_right_55 (by decide) (fun c_55 => ?_) (fun c_55 => ?_)
          · exact absurd c_55 (by decide)
          · refine lv_iload hx hb dX7_right_58 (lv_at hl 1 rfl) ?_
            refine rd_go (va_runS (As := [.int (tx k)]) (rest := []) ⟨hx, hb, hml, hown, hts⟩ (c_X7_isMark l G (tx k)) (va_cwS 1 hts gX7_right_X7_isMark rfl rfl rfl (by decide +kernel) ⟨Nat.le_of_ble_eq_true rfl, Nat.le_of_ble_eq_true rfl⟩) (rS (ws := []) hK hN P_nil) rfl rfl hl.1 rfl (lv_room (Nat.le_of_ble_eq_true rfl)) dX7_right_60 ⟨Nat.le_of_ble_eq_true rfl, Nat.le_of_ble_eq_true rfl⟩) ?_
            refine lv_if_eq (tgt := 72) hx hb dX7_right_63 (by decide) (fun c_63 => ?_) (fun c_63 => ?_)
            · have c_63 := b2_eq c_63
              refine lv_iload_n hx hb dX7_right_72 rfl (lv_at hl 5 rfl) ?_
              exact rd_iret hx hb hr hlocks (by first | (rw [← hrg, show k = lt by omega, Nat.sub_self]; rfl) | (rw [← hrg, show lt - k = (lt - (k + 1)) + 1 by omega, rgt, if_neg]; unfold okc isLt; simp [c_11, c_31, c_55, c_63])) dX7_right_73
            · have c_63 := b2_ne c_63
              refine lv_iload_n hx hb dX7_right_66 rfl (lv_at hl 4 rfl) ?_
              refine lv_bipush (v := nI 9) hx hb dX7_right_67 (by decide) ?_
              refine lv_icmp_ne (tgt := 74) hx hb dX7_right_69 (by decide) (fun c_69 => ?_) (fun c_69 => ?_)
              · refine lv_iload_n hx hb dX7_right_74 rfl (lv_at hl 3 rfl) ?_
                refine lv_iload hx hb dX7_right_75 (lv_at hl 0 rfl) ?_
                refine lv_if_eq (tgt := 90) hx hb dX7_right_77 (by decide) (fun c_77 => ?_) (fun c_77 => ?_)
                · refine lv_iconst (v := nI 0) hx hb dX7_right_90 (by decide) ?_
                  refine lv_ior hx hb dX7_right_91 ?_
                  refine lv_istore_n (lv' := [(1, .int (((rst tx k).1) ||| (nI 0))), (5, .int (nI 0)), (4, .int (tx k)), (0, .ref (A 0)), (2, .int ((rst tx k).2)), (3, .int (nI k))]) hx hb dX7_right_92 rfl hl (by decide) rfl (fun ls hl => ?_)
                  refine lv_iload_n hx hb dX7_right_93 rfl (lv_at hl 4 rfl) ?_
                  refine lv_iload hx hb dX7_right_94 (lv_at hl 1 rfl) ?_
                  refine lv_if_eq (tgt := 103) hx hb dX7_right_96 (by decide) (fun c_96 => ?_) (fun c_96 => ?_)
                  · refine lv_iconst (v := nI 1) hx hb dX7_right_103 (by decide) ?_
                    refine lv_iadd hx hb dX7_right_104 ?_
                    refine lv_istore_n (lv' := [(2, .int (((rst tx k).2) + (nI 1))), (1, .int (((rst tx k).1) ||| (nI 0))), (5, .int (nI 0)), (4, .int (tx k)), (0, .ref (A 0)), (3, .int (nI k))]) hx hb dX7_right_105 rfl hl (by decide) rfl (fun ls hl => ?_)
                    refine lv_iinc (v := nI (k + 1)) (lv' := [(3, .int (nI (k + 1))), (2, .int (((rst tx k).2) + (nI 1))), (1, .int (((rst tx k).1) ||| (nI 0))), (5, .int (nI 0)), (4, .int (tx k)), (0, .ref (A 0))]) hx hb dX7_right_106 hl (k := 5) rfl (iincN k) (by decide) rfl (fun ls hl => ?_)
                    refine lv_goto (tgt := 6) hx hb dX7_right_109 (by decide) ?_
                    exact ih (k + 1) (by omega) (by rw [← hrg, show lt - k = (lt - (k + 1)) + 1 by omega, rgt, if_pos]; unfold okc isLt; simp [c_11, c_31, c_55, c_63, c_69, c_77, c_96, b2_p, b2_q]) (by omega) ls (lv_as (l1 := [(0, .ref (A 0)), (1, .int (((rst tx k).1) ||| (nI 0))), (2, .int (((rst tx k).2) + (nI 1))), (3, .int (nI (k + 1)))]) (lv_sub hl [5, 2, 1, 0] rfl) (by rw [rst]; unfold isLt; simp [c_11, c_31, c_55, c_63, c_69, c_77, c_96]))
                  · exact absurd c_96 (by decide)
                · exact absurd c_77 (by decide)
              · refine lv_iload_n hx hb dX7_right_72 rfl (lv_at hl 5 rfl) ?_
                exact rd_iret hx hb hr hlocks (by first | (rw [← hrg, show k = lt by omega, Nat.sub_self]; rfl) | (rw [← hrg, show lt - k = (lt - (k + 1)) + 1 by omega, rgt, if_neg]; unfold okc isLt; simp [c_11, c_31, c_55, c_63, c_69])) dX7_right_73
        · have c_31 := b2_p c_31
          refine lv_iload_n hx hb dX7_right_34 rfl (lv_at hl 2 rfl) ?_
          refine lv_iload hx hb dX7_right_35 (lv_at hl 0 rfl) ?_
          refine lv_bipush (v := nI 97) hx hb dX7_right_37 (by decide) ?_
          refine lv_isub hx hb dX7_right_39 ?_
          refine lv_ishr hx hb dX7_right_40 ?_
          refine lv_iconst (v := nI 1) hx hb dX7_right_41 (by decide) ?_
          refine lv_iand hx hb dX7_right_42 ?_
          refine lv_if_ne (tgt := 50) hx hb dX7_right_43 (by decide) (fun c_43 => ?_) (fun c_43 => ?_)
          · refine lv_iconst (v := nI 0) hx hb dX7_right_50 (by decide) ?_
            refine lv_istore (lv' := [(5, .int (nI 0)), (4, .int (tx k)), (0, .ref (A 0)), (1, .int ((rst tx k).1)), (2, .int ((rst tx k).2)), (3, .int (nI k))]) hx hb dX7_right_51 hl (by decide) rfl (fun ls hl => ?_)
            refine lv_iload hx hb dX7_right_53 (lv_at hl 0 rfl) ?_
            refine lv_if_ne (tgt := 74) hx hb dX7_right_55 (by decide) (fun c_55 => ?_) (fun c_55 => ?_)
            · exact absurd c_55 (by decide)
            · refine lv_iload hx hb dX7_right_58 (lv_at hl 1 rfl) ?_
              refine rd_go (va_runS (As := [.int (tx k)]) (rest := []) ⟨hx, hb, hml, hown, hts⟩ (c_X7_isMark l G (tx k)) (va_cwS 1 hts gX7_right_X7_isMark rfl rfl rfl (by decide +kernel) ⟨Nat.le_of_ble_eq_true rfl, Nat.le_of_ble_eq_true rfl⟩) (rS (ws := []) hK hN P_nil) rfl rfl hl.1 rfl (lv_room (Nat.le_of_ble_eq_true rfl)) dX7_right_60 ⟨Nat.le_of_ble_eq_true rfl, Nat.le_of_ble_eq_true rfl⟩) ?_
              refine lv_if_eq (tgt := 72) hx hb dX7_right_63 (by decide) (fun c_63 => ?_) (fun c_63 => ?_)
              · have c_63 := b2_eq c_63
                refine lv_iload_n hx hb dX7_right_72 rfl (lv_at hl 5 rfl) ?_
                exact rd_iret hx hb hr hlocks (by first | (rw [← hrg, show k = lt by omega, Nat.sub_self]; rfl) | (rw [← hrg, show lt - k = (lt - (k + 1)) + 1 by omega, rgt, if_neg]; unfold okc isLt; simp [c_11, c_31, c_43, c_55, c_63])) dX7_right_73
              · have c_63 := b2_ne c_63
                refine lv_iload_n hx hb dX7_right_66 rfl (lv_at hl 4 rfl) ?_
                refine lv_bipush (v := nI 9) hx hb dX7_right_67 (by decide) ?_
                refine lv_icmp_ne (tgt := 74) hx hb dX7_right_69 (by decide) (fun c_69 => ?_) (fun c_69 => ?_)
                · refine lv_iload_n hx hb dX7_right_74 rfl (lv_at hl 3 rfl) ?_
                  refine lv_iload hx hb dX7_right_75 (lv_at hl 0 rfl) ?_
                  refine lv_if_eq (tgt := 90) hx hb dX7_right_77 (by decide) (fun c_77 => ?_) (fun c_77 => ?_)
                  · refine lv_iconst (v := nI 0) hx hb dX7_right_90 (by decide) ?_
                    refine lv_ior hx hb dX7_right_91 ?_
                    refine lv_istore_n (lv' := [(1, .int (((rst tx k).1) ||| (nI 0))), (5, .int (nI 0)), (4, .int (tx k)), (0, .ref (A 0)), (2, .int ((rst tx k).2)), (3, .int (nI k))]) hx hb dX7_right_92 rfl hl (by decide) rfl (fun ls hl => ?_)
                    refine lv_iload_n hx hb dX7_right_93 rfl (lv_at hl 4 rfl) ?_
                    refine lv_iload hx hb dX7_right_94 (lv_at hl 1 rfl) ?_
                    refine lv_if_eq (tgt := 103) hx hb dX7_right_96 (by decide) (fun c_96 => ?_) (fun c_96 => ?_)
                    · refine lv_iconst (v := nI 1) hx hb dX7_right_103 (by decide) ?_
                      refine lv_iadd hx hb dX7_right_104 ?_
                      refine lv_istore_n (lv' := [(2, .int (((rst tx k).2) + (nI 1))), (1, .int (((rst tx k).1) ||| (nI 0))), (5, .int (nI 0)), (4, .int (tx k)), (0, .ref (A 0)), (3, .int (nI k))]) hx hb dX7_right_105 rfl hl (by decide) rfl (fun ls hl => ?_)
                      refine lv_iinc (v := nI (k + 1)) (lv' := [(3, .int (nI (k + 1))), (2, .int (((rst tx k).2) + (nI 1))), (1, .int (((rst tx k).1) ||| (nI 0))), (5, .int (nI 0)), (4, .int (tx k)), (0, .ref (A 0))]) hx hb dX7_right_106 hl (k := 5) rfl (iincN k) (by decide) rfl (fun ls hl => ?_)
                      refine lv_goto (tgt := 6) hx hb dX7_right_109 (by decide) ?_
                      exact ih (k + 1) (by omega) (by rw [← hrg, show lt - k = (lt - (k + 1)) + 1 by omega, rgt, if_pos]; unfold okc isLt; simp [c_11, c_31, c_43, c_55, c_63, c_69, c_77, c_96, b2_p, b2_q]) (by omega) ls (lv_as (l1 := [(0, .ref (A 0)), (1, .int (((rst tx k).1) ||| (nI 0))), (2, .int (((rst tx k).2) + (nI 1))), (3, .int (nI (k + 1)))]) (lv_sub hl [5, 2, 1, 0] rfl) (by rw [rst]; unfold isLt; simp [c_11, c_31, c_43, c_55, c_63, c_69, c_77, c_96]))
                    · exact absurd c_96 (by decide)
                  · exact absurd c_77 (by decide)
                · refine lv_iload_n hx hb dX7_right_72 rfl (lv_at hl 5 rfl) ?_
                  exact rd_iret hx hb hr hlocks (by first | (rw [← hrg, show k = lt by omega, Nat.sub_self]; rfl) | (rw [← hrg, show lt - k = (lt - (k + 1)) + 1 by omega, rgt, if_neg]; unfold okc isLt; simp [c_11, c_31, c_43, c_55, c_63, c_69])) dX7_right_73
          · refine lv_iconst (v := nI 1) hx hb dX7_right_46 (by decide) ?_
            refine lv_goto (tgt := 51) hx hb dX7_right_47 (by decide) ?_
            refine lv_istore (lv' := [(5, .int (nI 1)), (4, .int (tx k)), (0, .ref (A 0)), (1, .int ((rst tx k).1)), (2, .int ((rst tx k).2)), (3, .int (nI k))]) hx hb dX7_right_51 hl (by decide) rfl (fun ls hl => ?_)
            refine lv_iload hx hb dX7_right_53 (lv_at hl 0 rfl) ?_
            refine lv_if_ne (tgt := 74) hx hb dX7_right_55 (by decide) (fun c_55 => ?_) (fun c_55 => ?_)
            · refine lv_iload_n hx hb dX7_right_74 rfl (lv_at hl 3 rfl) ?_
              refine lv_iload hx hb dX7_right_75 (lv_at hl 0 rfl) ?_
              refine lv_if_eq (tgt := 90) hx hb dX7_right_77 (by decide) (fun c_77 => ?_) (fun c_77 => ?_)
              · exact absurd c_77 (by decide)
              · refine lv_iconst (v := nI 1) hx hb dX7_right_80 (by decide) ?_
                refine lv_iload hx hb dX7_right_81 (lv_at hl 1 rfl) ?_
                refine lv_bipush (v := nI 97) hx hb dX7_right_83 (by decide) ?_
                refine lv_isub hx hb dX7_right_85 ?_
                refine lv_ishl hx hb dX7_right_86 ?_
                refine lv_goto (tgt := 91) hx hb dX7_right_87 (by decide) ?_
                refine lv_ior hx hb dX7_right_91 ?_
                refine lv_istore_n (lv' := [(1, .int (((rst tx k).1) ||| ((nI 1) <<< (((tx k) - (nI 97)) &&& 31)))), (5, .int (nI 1)), (4, .int (tx k)), (0, .ref (A 0)), (2, .int ((rst tx k).2)), (3, .int (nI k))]) hx hb dX7_right_92 rfl hl (by decide) rfl (fun ls hl => ?_)
                refine lv_iload_n hx hb dX7_right_93 rfl (lv_at hl 4 rfl) ?_
                refine lv_iload hx hb dX7_right_94 (lv_at hl 1 rfl) ?_
                refine lv_if_eq (tgt := 103) hx hb dX7_right_96 (by decide) (fun c_96 => ?_) (fun c_96 => ?_)
                · exact absurd c_96 (by decide)
                · refine lv_iconst (v := nI 0) hx hb dX7_right_99 (by decide) ?_
                  refine lv_goto (tgt := 104) hx hb dX7_right_100 (by decide) ?_
                  refine lv_iadd hx hb dX7_right_104 ?_
                  refine lv_istore_n (lv' := [(2, .int (((rst tx k).2) + (nI 0))), (1, .int (((rst tx k).1) ||| ((nI 1) <<< (((tx k) - (nI 97)) &&& 31)))), (5, .int (nI 1)), (4, .int (tx k)), (0, .ref (A 0)), (3, .int (nI k))]) hx hb dX7_right_105 rfl hl (by decide) rfl (fun ls hl => ?_)
                  refine lv_iinc (v := nI (k + 1)) (lv' := [(3, .int (nI (k + 1))), (2, .int (((rst tx k).2) + (nI 0))), (1, .int (((rst tx k).1) ||| ((nI 1) <<< (((tx k) - (nI 97)) &&& 31)))), (5, .int (nI 1)), (4, .int (tx k)), (0, .ref (A 0))]) hx hb dX7_right_106 hl (k := 5) rfl (iincN k) (by decide) rfl (fun ls hl => ?_)
                  refine lv_goto (tgt := 6) hx hb dX7_right_109 (by decide) ?_
                  exact ih (k + 1) (by omega) (by rw [← hrg, show lt - k = (lt - (k + 1)) + 1 by omega, rgt, if_pos]; unfold okc isLt; simp [c_11, c_31, c_43, c_55, c_77, c_96, b2_p, b2_q]) (by omega) ls (lv_as (l1 := [(0, .ref (A 0)), (1, .int (((rst tx k).1) ||| ((nI 1) <<< (((tx k) - (nI 97)) &&& 31)))), (2, .int (((rst tx k).2) + (nI 0))), (3, .int (nI (k + 1)))]) (lv_sub hl [5, 2, 1, 0] rfl) (by rw [rst]; unfold isLt; simp [c_11, c_31, c_43, c_55, c_77, c_96]))
            · exact absurd c_55 (by decide)
  exact L6 (lt + 1) 0 (by omega) (by rfl) (by omega) ls (lv_as (l1 := [(0, .ref (A 0)), (1, .int (nI 0)), (2, .int (nI 0)), (3, .int (nI 0))]) (lv_sub hl [3, 2, 1, 0] rfl) (by rfl))

set_option maxHeartbeats 4000000 in
set_option maxRecDepth 100000 in
theorem c_X7_firstError (l : Launch) (G : GG) (sz : Nat) (A : Nat → Nat) (th sm : Int32) (dg : Int64) (f sl ik sv tx pl : Nat → Int32) (lt : Nat) (hlt : lt ≤ 60) : WRi l yX7_firstError wsX7_firstError 3 G [.ref (A 0)] (mW G A th sm (nI lt) dg f sl ik sv tx pl) sz (S := Unit) (fun r _ => r = nI (rgt tx lt 0)) (fun _ => mW G A (nI 0) sm (nI lt) dg f sl ik sv tx pl) 0 0 := by
  refine wr_of (cc := cX7_firstError) (maxL := 1) (ret := (some .int)) (Qc := fun Ar => wQi G (S := Unit) (fun r _ => r = nI (rgt tx lt 0)) (fun _ => mW G A (nI 0) sm (nI lt) dg f sl ik sv tx pl) Ar) (by decide) rfl (Nat.le_of_ble_eq_true rfl) ?_
  intro pG eG s mG below meth cG hsz hx hb hr hml hts hown hlocks hnm hP hK hN Ar hD hA hS ls hl
  have hown : s.vm.findClass RX7 = some mG.cls := hown
  have hP : PP G (mW G A th sm (nI lt) dg f sl ik sv tx pl) s.heap := hP
  have hD : va_D Ar (mW G A th sm (nI lt) dg f sl ik sv tx pl) := hD
  have hl : lv_has ls 1 [(0, .ref (A 0))] := hl
  refine lv_aload_n hx hb dX7_firstError_0 rfl (lv_at hl 0 rfl) ?_
  refine lv_iconst (v := nI 0) hx hb dX7_firstError_1 (by decide) ?_
  refine va_put (D := G.1) (ws := mW G A th sm (nI lt) dg f sl ik sv tx pl) (ci := 6) (v := .int (nI 0)) (ty := .int) (C := RX7) (T := TX7) (N := 10) hx hb hts (fun _ h => List.mem_cons_of_mem _ (List.mem_append_right _ (h))) tyX7 tyX7_ok nmX7 hown hK hP hD hS 0 rfl rfl 0 (by decide) (hts (.fieldLink RX7 29 "CreaseMapsModel" "thrown" "I") (List.mem_of_getElem? (i := 1) rfl)) (fun _ h9 => h9) rfl (by decide +kernel) rfl rfl (Nat.le_of_ble_eq_true rfl) dX7_firstError_2 (fun H locs hP hD hS => ?_)
  have hP : PP G (mW G A (nI 0) sm (nI lt) dg f sl ik sv tx pl) H := hP
  have hD : va_D Ar (mW G A (nI 0) sm (nI lt) dg f sl ik sv tx pl) := hD
  refine lv_aload_n hx hb dX7_firstError_5 rfl (lv_at hl 0 rfl) ?_
  refine rd_go (va_runV (As := []) (rest := []) ⟨hx, hb, hml, hown, hts⟩ (c_X7_right l G A (nI 0) sm dg f sl ik sv tx pl lt hlt) (cwV 0 hts gX7_firstError_X7_right rfl rfl rfl (by decide +kernel) ⟨Nat.le_of_ble_eq_true rfl, Nat.le_of_ble_eq_true rfl⟩) (rV (ws := mW G A (nI 0) sm (nI lt) dg f sl ik sv tx pl) (va_recv (ws := mW G A (nI 0) sm (nI lt) dg f sl ik sv tx pl) hK hP (ci := 6) (q0 := 0) rfl rfl) hK hN hP) rfl rfl hl.1 rfl (lv_room (Nat.le_of_ble_eq_true rfl)) dX7_firstError_6 ⟨Nat.le_of_ble_eq_true rfl, Nat.le_of_ble_eq_true rfl⟩) ?_
  exact wr_iret (S := Unit) (out := fun _ => mW G A (nI 0) sm (nI lt) dg f sl ik sv tx pl) () hx hb hr hlocks hP hD hS (Nat.le_of_ble_eq_true rfl) (Nat.le_of_ble_eq_true rfl) (by rfl) dX7_firstError_9

set_option maxHeartbeats 4000000 in
set_option maxRecDepth 100000 in
theorem c_X7_load (l : Launch) (G : GG) (sz : Nat) (A : Nat → Nat) (th : Int32) (dg : Int64) (f sl ik sv tx pl : Nat → Int32) (m : Nat) (hm : m ≤ 6) (lt : Nat) (hlt : lt ≤ 60) (hrg : rgt tx lt 0 = lt) (hm9 : mks tx lt = nI 9) : WRi l yX7_load wsX7_load 3 G [.ref (A 0)] (mW G A th (nI m) (nI lt) dg f sl ik sv tx pl) sz (S := Unit) (fun r _ => r = bitsM (ldS f tx lt).2.1) (fun _ => mW G A (nI 0) (nI (svm m + 1)) (nI 0) dg (loadF f tx lt) sl ik (svF sv f m) tx pl) 0 0 := by
  refine wr_of (cc := cX7_load) (maxL := 4) (ret := (some .int)) (Qc := fun Ar => wQi G (S := Unit) (fun r _ => r = bitsM (ldS f tx lt).2.1) (fun _ => mW G A (nI 0) (nI (svm m + 1)) (nI 0) dg (loadF f tx lt) sl ik (svF sv f m) tx pl) Ar) (by decide) rfl (Nat.le_of_ble_eq_true rfl) ?_
  intro pG eG s mG below meth cG hsz hx hb hr hml hts hown hlocks hnm hP hK hN Ar hD hA hS ls hl
  have hown : s.vm.findClass RX7 = some mG.cls := hown
  have hP : PP G (mW G A th (nI m) (nI lt) dg f sl ik sv tx pl) s.heap := hP
  have hD : va_D Ar (mW G A th (nI m) (nI lt) dg f sl ik sv tx pl) := hD
  have hl : lv_has ls 4 [(0, .ref (A 0))] := hl
  refine lv_aload_n hx hb dX7_load_0 rfl (lv_at hl 0 rfl) ?_
  refine lv_aload_n hx hb dX7_load_1 rfl (lv_at hl 0 rfl) ?_
  refine rd_go (va_runV (As := []) (rest := [.ref (A 0)]) ⟨hx, hb, hml, hown, hts⟩ (c_X7_right l G A th (nI m) dg f sl ik sv tx pl lt hlt) (cwV 0 hts gX7_load_X7_right rfl rfl rfl (by decide +kernel) ⟨Nat.le_of_ble_eq_true rfl, Nat.le_of_ble_eq_true rfl⟩) (rV (ws := mW G A th (nI m) (nI lt) dg f sl ik sv tx pl) (va_recv (ws := mW G A th (nI m) (nI lt) dg f sl ik sv tx pl) hK hP (ci := 6) (q0 := 0) rfl rfl) hK hN hP) rfl rfl hl.1 rfl (lv_room (Nat.le_of_ble_eq_true rfl)) dX7_load_2 ⟨Nat.le_of_ble_eq_true rfl, Nat.le_of_ble_eq_true rfl⟩) ?_
  refine lv_cgi (y := nI lt) (by rw [hrg]) ?_
  refine lv_aload_n hx hb dX7_load_5 rfl (lv_at hl 0 rfl) ?_
  refine va_get (D := G.1) (ws := mW G A th (nI m) (nI lt) dg f sl ik sv tx pl) (ci := 6) (v := .int (nI lt)) (C := RX7) (T := TX7) (N := 10) hx hb hts (fun _ h => List.mem_cons_of_mem _ (List.mem_append_right _ (h))) hown hK hP 0 rfl rfl 7 (by decide) (hts (.fieldLink RX7 91 "CreaseMapsModel" "length" "I") (List.mem_of_getElem? (i := 1) rfl)) (fun _ h9 => h9) rfl dX7_load_6 ?_
  refine lv_icmp_ne (tgt := 25) hx hb dX7_load_9 (by decide) (fun c_9 => ?_) (fun c_9 => ?_)
  · exact absurd rfl c_9
  · refine lv_aload_n hx hb dX7_load_12 rfl (lv_at hl 0 rfl) ?_
    refine rd_go (va_runV (As := []) (rest := [.ref (A 0)]) ⟨hx, hb, hml, hown, hts⟩ (c_X7_marks l G A th (nI m) dg f sl ik sv tx pl lt hlt) (cwV 0 hts gX7_load_X7_marks rfl rfl rfl (by decide +kernel) ⟨Nat.le_of_ble_eq_true rfl, Nat.le_of_ble_eq_true rfl⟩) (rV (ws := mW G A th (nI m) (nI lt) dg f sl ik sv tx pl) (va_recv (ws := mW G A th (nI m) (nI lt) dg f sl ik sv tx pl) hK hP (ci := 6) (q0 := 0) rfl rfl) hK hN hP) rfl rfl hl.1 rfl (lv_room (Nat.le_of_ble_eq_true rfl)) dX7_load_13 ⟨Nat.le_of_ble_eq_true rfl, Nat.le_of_ble_eq_true rfl⟩) ?_
    refine lv_cgi (y := nI 9) hm9 ?_
    refine lv_bipush (v := nI 9) hx hb dX7_load_16 (by decide) ?_
    refine lv_icmp_ne (tgt := 25) hx hb dX7_load_18 (by decide) (fun c_18 => ?_) (fun c_18 => ?_)
    · exact absurd c_18 (by decide)
    · refine lv_iconst (v := nI 0) hx hb dX7_load_21 (by decide) ?_
      refine lv_goto (tgt := 26) hx hb dX7_load_22 (by decide) ?_
      refine wr_goi (pre := []) (mid := mW G A th (nI m) (nI lt) dg f sl ik sv tx pl) (suf := []) (va_runV (As := [.int (nI 0)]) (rest := []) ⟨hx, hb, hml, hown, hts⟩ (c_X7_holds l G _ A th (nI m) (nI lt) dg f sl ik sv tx pl (nI 0)) (cwV 1 hts gX7_load_X7_holds rfl rfl rfl (by decide +kernel) ⟨Nat.le_of_ble_eq_true rfl, Nat.le_of_ble_eq_true rfl⟩) (wV (pre := []) (mid := mW G A th (nI m) (nI lt) dg f sl ik sv tx pl) (suf := []) (va_recv (ws := mW G A th (nI m) (nI lt) dg f sl ik sv tx pl) hK hP (ci := 6) (q0 := 0) rfl rfl) hK hN hP hD) rfl rfl hl.1 rfl (lv_room (Nat.le_of_ble_eq_true rfl)) dX7_load_26 ⟨Nat.le_of_ble_eq_true rfl, Nat.le_of_ble_eq_true rfl⟩) hP hD hS hA (fun r _ H locs hw hP hD hS => ?_)
      subst hw
      have hP : PP G (mW G A (nI 0) (nI m) (nI lt) dg f sl ik sv tx pl) H := hP
      have hD : va_D Ar (mW G A (nI 0) (nI m) (nI lt) dg f sl ik sv tx pl) := hD
      refine lv_cgi (y := nI 1) (by decide) ?_
      refine lv_if_ne (tgt := 34) hx hb dX7_load_29 (by decide) (fun c_29 => ?_) (fun c_29 => ?_)
      · refine lv_aload_n hx hb dX7_load_34 rfl (lv_at hl 0 rfl) ?_
        refine wr_gov (pre := []) (mid := mW G A (nI 0) (nI m) (nI lt) dg f sl ik sv tx pl) (suf := []) (va_runV (As := []) (rest := []) ⟨hx, hb, hml, hown, hts⟩ (c_X7_save l G _ A (nI 0) (nI lt) dg f sl ik sv tx pl m hm) (cwV 0 hts gX7_load_X7_save rfl rfl rfl (by decide +kernel) ⟨Nat.le_of_ble_eq_true rfl, Nat.le_of_ble_eq_true rfl⟩) (wV (pre := []) (mid := mW G A (nI 0) (nI m) (nI lt) dg f sl ik sv tx pl) (suf := []) (va_recv (ws := mW G A (nI 0) (nI m) (nI lt) dg f sl ik sv tx pl) hK hP (ci := 6) (q0 := 0) rfl rfl) hK hN hP hD) rfl rfl hl.1 rfl (lv_room (Nat.le_of_ble_eq_true rfl)) dX7_load_35 ⟨Nat.le_of_ble_eq_true rfl, Nat.le_of_ble_eq_true rfl⟩) hP hD hS hA (fun _ H locs hw hP hD hS => ?_)
        have hP : PP G (mW G A (nI 0) (nI (svm m + 1)) (nI lt) dg f sl ik (svF sv f m) tx pl) H := hP
        have hD : va_D Ar (mW G A (nI 0) (nI (svm m + 1)) (nI lt) dg f sl ik (svF sv f m) tx pl) := hD
        refine lv_iconst (v := nI 0) hx hb dX7_load_38 (by decide) ?_
        refine lv_istore_n (lv' := [(1, .int (nI 0)), (0, .ref (A 0))]) hx hb dX7_load_39 rfl hl (by decide) rfl (fun ls hl => ?_)
        have L40 : ∀ (fu : Nat) (k : Nat) (hk : k ≤ 6), 6 + 1 ≤ k + fu → ∀ (H : Heap) (locs : List Loc), PP G (mW G A (nI 0) (nI (svm m + 1)) (nI lt) dg (zT f k) sl ik (svF sv f m) tx pl) H → va_D Ar (mW G A (nI 0) (nI (svm m + 1)) (nI lt) dg (zT f k) sl ik (svF sv f m) tx pl) → va_S Ar s.heap H locs → ∀ ls : Array Slot, lv_has ls 4 [(0, .ref (A 0)), (1, .int (nI k))] → W pG l eG (RM 3 0 0) s mG ([.ref (A 0)] : List Value).toArray below meth cG H locs 0 0 (MQ below (wQi G (S := Unit) (fun r _ => r = bitsM (ldS f tx lt).2.1) (fun _ => mW G A (nI 0) (nI (svm m + 1)) (nI 0) dg (loadF f tx lt) sl ik (svF sv f m) tx pl) Ar) ([.ref (A 0)] : List Value).toArray s 0 0 Ar) (F0 mG 40 ls []) := by
          intro fu
          induction fu with
          | zero => intro k hk hfu; exact absurd hfu (by omega)
          | succ fu ih =>
            intro k hk hfu H locs hP hD hS ls hl
            refine lv_iload_n hx hb dX7_load_40 rfl (lv_at hl 1 rfl) ?_
            refine lv_bipush (v := nI 6) hx hb dX7_load_41 (by decide) ?_
            refine lv_icmp_ge (tgt := 62) hx hb dX7_load_43 (by decide) (fun c_43 => ?_) (fun c_43 => ?_)
            · have q1 : 6 ≤ k := fe c_43 (by omega) (by omega)
              refine lv_iconst (v := nI 0) hx hb dX7_load_62 (by decide) ?_
              refine lv_istore_n (lv' := [(1, .int (nI 0)), (0, .ref (A 0))]) hx hb dX7_load_63 rfl hl (by decide) rfl (fun ls hl => ?_)
              refine lv_iconst (v := nI 0) hx hb dX7_load_64 (by decide) ?_
              refine lv_istore_n (lv' := [(2, .int (nI 0)), (1, .int (nI 0)), (0, .ref (A 0))]) hx hb dX7_load_65 rfl hl (by decide) rfl (fun ls hl => ?_)
              refine lv_iconst (v := nI 0) hx hb dX7_load_66 (by decide) ?_
              refine lv_istore_n (lv' := [(3, .int (nI 0)), (2, .int (nI 0)), (1, .int (nI 0)), (0, .ref (A 0))]) hx hb dX7_load_67 rfl hl (by decide) rfl (fun ls hl => ?_)
              have L68 : ∀ (fu : Nat) (k : Nat) (hk : k ≤ lt), lt + 1 ≤ k + fu → ∀ (H : Heap) (locs : List Loc), PP G (mW G A (nI 0) (nI (svm m + 1)) (nI lt) dg ((ldS f tx k).2.2) sl ik (svF sv f m) tx pl) H → va_D Ar (mW G A (nI 0) (nI (svm m + 1)) (nI lt) dg ((ldS f tx k).2.2) sl ik (svF sv f m) tx pl) → va_S Ar s.heap H locs → ∀ ls : Array Slot, lv_has ls 4 [(0, .ref (A 0)), (1, .int (nI ((ldS f tx k).1))), (2, .int ((ldS f tx k).2.1)), (3, .int (nI k))] → W pG l eG (RM 3 0 0) s mG ([.ref (A 0)] : List Value).toArray below meth cG H locs 0 0 (MQ below (wQi G (S := Unit) (fun r _ => r = bitsM (ldS f tx lt).2.1) (fun _ => mW G A (nI 0) (nI (svm m + 1)) (nI 0) dg (loadF f tx lt) sl ik (svF sv f m) tx pl) Ar) ([.ref (A 0)] : List Value).toArray s 0 0 Ar) (F0 mG 68 ls []) := by
                intro fu
                induction fu with
                | zero => intro k hk hfu; exact absurd hfu (by omega)
                | succ fu ih =>
                  intro k hk hfu H locs hP hD hS ls hl
                  refine lv_iload_n hx hb dX7_load_68 rfl (lv_at hl 3 rfl) ?_
                  refine lv_aload_n hx hb dX7_load_69 rfl (lv_at hl 0 rfl) ?_
                  refine va_get (D := G.1) (ws := mW G A (nI 0) (nI (svm m + 1)) (nI lt) dg ((ldS f tx k).2.2) sl ik (svF sv f m) tx pl) (ci := 6) (v := .int (nI lt)) (C := RX7) (T := TX7) (N := 10) hx hb hts (fun _ h => List.mem_cons_of_mem _ (List.mem_append_right _ (h))) hown hK hP 0 rfl rfl 7 (by decide) (hts (.fieldLink RX7 91 "CreaseMapsModel" "length" "I") (List.mem_of_getElem? (i := 1) rfl)) (fun _ h9 => h9) rfl dX7_load_70 ?_
                  refine lv_icmp_ge (tgt := 139) hx hb dX7_load_73 (by decide) (fun c_73 => ?_) (fun c_73 => ?_)
                  · have q1 : lt ≤ k := fe c_73 (by omega) (by omega)
                    obtain rfl : lt = k := by omega
                    refine lv_aload_n hx hb dX7_load_139 rfl (lv_at hl 0 rfl) ?_
                    refine lv_iload_n hx hb dX7_load_140 rfl (lv_at hl 2 rfl) ?_
                    refine wr_gov (pre := []) (mid := mW G A (nI 0) (nI (svm m + 1)) (nI lt) dg ((ldS f tx lt).2.2) sl ik (svF sv f m) tx pl) (suf := []) (va_runV (As := [.int ((ldS f tx lt).2.1)]) (rest := []) ⟨hx, hb, hml, hown, hts⟩ (c_X7_anew l G _ A (nI 0) (nI (svm m + 1)) (nI lt) dg ((ldS f tx lt).2.2) sl ik (svF sv f m) tx pl ((ldS f tx lt).2.1)) (cwV 1 hts gX7_load_X7_anew rfl rfl rfl (by decide +kernel) ⟨Nat.le_of_ble_eq_true rfl, Nat.le_of_ble_eq_true rfl⟩) (wV (pre := []) (mid := mW G A (nI 0) (nI (svm m + 1)) (nI lt) dg ((ldS f tx lt).2.2) sl ik (svF sv f m) tx pl) (suf := []) (va_recv (ws := mW G A (nI 0) (nI (svm m + 1)) (nI lt) dg ((ldS f tx lt).2.2) sl ik (svF sv f m) tx pl) hK hP (ci := 6) (q0 := 0) rfl rfl) hK hN hP hD) rfl rfl hl.1 rfl (lv_room (Nat.le_of_ble_eq_true rfl)) dX7_load_141 ⟨Nat.le_of_ble_eq_true rfl, Nat.le_of_ble_eq_true rfl⟩) hP hD hS hA (fun _ H locs hw hP hD hS => ?_)
                    have hP : PP G (mW G A (nI 0) (nI (svm m + 1)) (nI lt) dg (anewF ((ldS f tx lt).2.2) ((ldS f tx lt).2.1)) sl ik (svF sv f m) tx pl) H := hP
                    have hD : va_D Ar (mW G A (nI 0) (nI (svm m + 1)) (nI lt) dg (anewF ((ldS f tx lt).2.2) ((ldS f tx lt).2.1)) sl ik (svF sv f m) tx pl) := hD
                    refine lv_aload_n hx hb dX7_load_144 rfl (lv_at hl 0 rfl) ?_
                    refine lv_iconst (v := nI 0) hx hb dX7_load_145 (by decide) ?_
                    refine va_put (D := G.1) (ws := mW G A (nI 0) (nI (svm m + 1)) (nI lt) dg (anewF ((ldS f tx lt).2.2) ((ldS f tx lt).2.1)) sl ik (svF sv f m) tx pl) (ci := 6) (v := .int (nI 0)) (ty := .int) (C := RX7) (T := TX7) (N := 10) hx hb hts (fun _ h => List.mem_cons_of_mem _ (List.mem_append_right _ (h))) tyX7 tyX7_ok nmX7 hown hK hP hD hS 0 rfl rfl 7 (by decide) (hts (.fieldLink RX7 91 "CreaseMapsModel" "length" "I") (List.mem_of_getElem? (i := 1) rfl)) (fun _ h9 => h9) rfl (by decide +kernel) rfl rfl (Nat.le_of_ble_eq_true rfl) dX7_load_146 (fun H locs hP hD hS => ?_)
                    have hP : PP G (mW G A (nI 0) (nI (svm m + 1)) (nI 0) dg (anewF ((ldS f tx lt).2.2) ((ldS f tx lt).2.1)) sl ik (svF sv f m) tx pl) H := hP
                    have hD : va_D Ar (mW G A (nI 0) (nI (svm m + 1)) (nI 0) dg (anewF ((ldS f tx lt).2.2) ((ldS f tx lt).2.1)) sl ik (svF sv f m) tx pl) := hD
                    refine lv_iload_n hx hb dX7_load_149 rfl (lv_at hl 2 rfl) ?_
                    refine rd_go (va_runS (As := [.int ((ldS f tx lt).2.1)]) (rest := []) ⟨hx, hb, hml, hown, hts⟩ (c_X7_bits l G ((ldS f tx lt).2.1)) (va_cwS 1 hts gX7_load_X7_bits rfl rfl rfl (by decide +kernel) ⟨Nat.le_of_ble_eq_true rfl, Nat.le_of_ble_eq_true rfl⟩) (rS (ws := []) hK hN P_nil) rfl rfl hl.1 rfl (lv_room (Nat.le_of_ble_eq_true rfl)) dX7_load_150 ⟨Nat.le_of_ble_eq_true rfl, Nat.le_of_ble_eq_true rfl⟩) ?_
                    exact wr_iret (S := Unit) (out := fun _ => mW G A (nI 0) (nI (svm m + 1)) (nI 0) dg (loadF f tx lt) sl ik (svF sv f m) tx pl) () hx hb hr hlocks (PP_as hP (by rfl)) (D_as hD (by rfl)) hS (Nat.le_of_ble_eq_true rfl) (Nat.le_of_ble_eq_true rfl) (by rfl) dX7_load_153
                  · have q1 : k < lt := fl c_73 (by omega) (by omega)
                    refine lv_aload_n hx hb dX7_load_76 rfl (lv_at hl 0 rfl) ?_
                    refine va_get (D := G.1) (ws := mW G A (nI 0) (nI (svm m + 1)) (nI lt) dg ((ldS f tx k).2.2) sl ik (svF sv f m) tx pl) (ci := 6) (v := .ref (A 5)) (C := RX7) (T := TX7) (N := 10) hx hb hts (fun _ h => List.mem_cons_of_mem _ (List.mem_append_right _ (h))) hown hK hP 0 rfl rfl 6 (by decide) (hts (.fieldLink RX7 23 "CreaseMapsModel" "text" "[I") (List.mem_of_getElem? (i := 3) rfl)) (fun _ h9 => h9) rfl dX7_load_77 ?_
                    refine lv_iload_n hx hb dX7_load_80 rfl (lv_at hl 3 rfl) ?_
                    refine va_iald (D := G.1) (ws := mW G A (nI 0) (nI (svm m + 1)) (nI lt) dg ((ldS f tx k).2.2) sl ik (svF sv f m) tx pl) hx hb hK hP 5 0 (n := 60) rfl rfl (by first | assumption | exact vp_in_nI (by omega) (by omega)) dX7_load_81 ?_
                    refine lv_cgi (y := tx k) (by rw [nI_clamp (by omega)]) ?_
                    refine rd_go (va_runS (As := [.int (tx k)]) (rest := []) ⟨hx, hb, hml, hown, hts⟩ (c_X7_isMark l G (tx k)) (va_cwS 1 hts gX7_load_X7_isMark rfl rfl rfl (by decide +kernel) ⟨Nat.le_of_ble_eq_true rfl, Nat.le_of_ble_eq_true rfl⟩) (rS (ws := []) hK hN P_nil) rfl rfl hl.1 rfl (lv_room (Nat.le_of_ble_eq_true rfl)) dX7_load_82 ⟨Nat.le_of_ble_eq_true rfl, Nat.le_of_ble_eq_true rfl⟩) ?_
                    refine lv_if_eq (tgt := 115) hx hb dX7_load_85 (by decide) (fun c_85 => ?_) (fun c_85 => ?_)
                    · have c_85 := b2_eq c_85
                      refine lv_aload_n hx hb dX7_load_115 rfl (lv_at hl 0 rfl) ?_
                      refine va_get (D := G.1) (ws := mW G A (nI 0) (nI (svm m + 1)) (nI lt) dg ((ldS f tx k).2.2) sl ik (svF sv f m) tx pl) (ci := 6) (v := .ref (A 1)) (C := RX7) (T := TX7) (N := 10) hx hb hts (fun _ h => List.mem_cons_of_mem _ (List.mem_append_right _ (h))) hown hK hP 0 rfl rfl 1 (by decide) (hts (.fieldLink RX7 7 "CreaseMapsModel" "s" "[I") (List.mem_of_getElem? (i := 2) rfl)) (fun _ h9 => h9) rfl dX7_load_116 ?_
                      refine lv_bipush (v := nI 11) hx hb dX7_load_119 (by decide) ?_
                      refine lv_aload_n hx hb dX7_load_121 rfl (lv_at hl 0 rfl) ?_
                      refine va_get (D := G.1) (ws := mW G A (nI 0) (nI (svm m + 1)) (nI lt) dg ((ldS f tx k).2.2) sl ik (svF sv f m) tx pl) (ci := 6) (v := .ref (A 5)) (C := RX7) (T := TX7) (N := 10) hx hb hts (fun _ h => List.mem_cons_of_mem _ (List.mem_append_right _ (h))) hown hK hP 0 rfl rfl 6 (by decide) (hts (.fieldLink RX7 23 "CreaseMapsModel" "text" "[I") (List.mem_of_getElem? (i := 3) rfl)) (fun _ h9 => h9) rfl dX7_load_122 ?_
                      refine lv_iload_n hx hb dX7_load_125 rfl (lv_at hl 3 rfl) ?_
                      refine va_iald (D := G.1) (ws := mW G A (nI 0) (nI (svm m + 1)) (nI lt) dg ((ldS f tx k).2.2) sl ik (svF sv f m) tx pl) hx hb hK hP 5 0 (n := 60) rfl rfl (by first | assumption | exact vp_in_nI (by omega) (by omega)) dX7_load_126 ?_
                      refine lv_cgi (y := tx k) (by rw [nI_clamp (by omega)]) ?_
                      refine lv_iadd hx hb dX7_load_127 ?_
                      refine lv_bipush (v := nI 97) hx hb dX7_load_128 (by decide) ?_
                      refine lv_isub hx hb dX7_load_130 ?_
                      refine lv_iload_n hx hb dX7_load_131 rfl (lv_at hl 1 rfl) ?_
                      refine va_iast (D := G.1) (ws := mW G A (nI 0) (nI (svm m + 1)) (nI lt) dg ((ldS f tx k).2.2) sl ik (svF sv f m) tx pl) hx hb hK hP hD hS 1 0 (n := 58) rfl rfl (tix_in (okc_c (rgt_ok (hrg.trans (Nat.zero_add lt).symm) k (Nat.zero_le k) (by omega)) c_85)) dX7_load_132 (fun H locs hP hD hS => ?_)
                      have hP : PP G (mW G A (nI 0) (nI (svm m + 1)) (nI lt) dg (upd ((ldS f tx k).2.2) (((nI 11) + (tx k)) - (nI 97)).toNatClampNeg (nI ((ldS f tx k).1))) sl ik (svF sv f m) tx pl) H := hP
                      have hD : va_D Ar (mW G A (nI 0) (nI (svm m + 1)) (nI lt) dg (upd ((ldS f tx k).2.2) (((nI 11) + (tx k)) - (nI 97)).toNatClampNeg (nI ((ldS f tx k).1))) sl ik (svF sv f m) tx pl) := hD
                      refine lv_iinc (v := nI (k + 1)) (lv' := [(3, .int (nI (k + 1))), (0, .ref (A 0)), (1, .int (nI ((ldS f tx k).1))), (2, .int ((ldS f tx k).2.1))]) hx hb dX7_load_133 hl (k := 3) rfl (iincN k) (by decide) rfl (fun ls hl => ?_)
                      refine lv_goto (tgt := 68) hx hb dX7_load_136 (by decide) ?_
                      exact ih (k + 1) (by omega) (by omega) _ _ (PP_as hP (by first | (rw [ld_t c_85]; done) | (rw [ld_f c_85]; done))) (D_as hD (by first | (rw [ld_t c_85]; done) | (rw [ld_f c_85]; done))) hS ls (lv_as (l1 := [(0, .ref (A 0)), (1, .int (nI ((ldS f tx k).1))), (2, .int ((ldS f tx k).2.1)), (3, .int (nI (k + 1)))]) (lv_sub hl [1, 2, 3, 0] rfl) (by first | (rw [ld_t c_85]; simp [c_9, c_18, c_29, c_43, c_73, c_85]; done) | (rw [ld_f c_85])))
                    · have c_85 := b2_ne c_85
                      refine lv_iload_n hx hb dX7_load_88 rfl (lv_at hl 2 rfl) ?_
                      refine lv_aload_n hx hb dX7_load_89 rfl (lv_at hl 0 rfl) ?_
                      refine va_get (D := G.1) (ws := mW G A (nI 0) (nI (svm m + 1)) (nI lt) dg ((ldS f tx k).2.2) sl ik (svF sv f m) tx pl) (ci := 6) (v := .ref (A 5)) (C := RX7) (T := TX7) (N := 10) hx hb hts (fun _ h => List.mem_cons_of_mem _ (List.mem_append_right _ (h))) hown hK hP 0 rfl rfl 6 (by decide) (hts (.fieldLink RX7 23 "CreaseMapsModel" "text" "[I") (List.mem_of_getElem? (i := 3) rfl)) (fun _ h9 => h9) rfl dX7_load_90 ?_
                      refine lv_iload_n hx hb dX7_load_93 rfl (lv_at hl 3 rfl) ?_
                      refine va_iald (D := G.1) (ws := mW G A (nI 0) (nI (svm m + 1)) (nI lt) dg ((ldS f tx k).2.2) sl ik (svF sv f m) tx pl) hx hb hK hP 5 0 (n := 60) rfl rfl (by first | assumption | exact vp_in_nI (by omega) (by omega)) dX7_load_94 ?_
                      refine lv_cgi (y := tx k) (by rw [nI_clamp (by omega)]) ?_
                      refine lv_bipush (v := nI 94) hx hb dX7_load_95 (by decide) ?_
                      refine lv_icmp_ne (tgt := 106) hx hb dX7_load_97 (by decide) (fun c_97 => ?_) (fun c_97 => ?_)
                      · refine lv_iconst (v := nI 0) hx hb dX7_load_106 (by decide) ?_
                        refine lv_ior hx hb dX7_load_107 ?_
                        refine lv_istore_n (lv' := [(2, .int (((ldS f tx k).2.1) ||| (nI 0))), (0, .ref (A 0)), (1, .int (nI ((ldS f tx k).1))), (3, .int (nI k))]) hx hb dX7_load_108 rfl hl (by decide) rfl (fun ls hl => ?_)
                        refine lv_iinc (v := nI (((ldS f tx k).1) + 1)) (lv' := [(1, .int (nI (((ldS f tx k).1) + 1))), (2, .int (((ldS f tx k).2.1) ||| (nI 0))), (0, .ref (A 0)), (3, .int (nI k))]) hx hb dX7_load_109 hl (k := 2) rfl (iincN ((ldS f tx k).1)) (by decide) rfl (fun ls hl => ?_)
                        refine lv_goto (tgt := 133) hx hb dX7_load_112 (by decide) ?_
                        refine lv_iinc (v := nI (k + 1)) (lv' := [(3, .int (nI (k + 1))), (1, .int (nI (((ldS f tx k).1) + 1))), (2, .int (((ldS f tx k).2.1) ||| (nI 0))), (0, .ref (A 0))]) hx hb dX7_load_133 hl (k := 3) rfl (iincN k) (by decide) rfl (fun ls hl => ?_)
                        refine lv_goto (tgt := 68) hx hb dX7_load_136 (by decide) ?_
                        exact ih (k + 1) (by omega) (by omega) _ _ (PP_as hP (by first | (rw [ld_t c_85]; done) | (rw [ld_f c_85]; done))) (D_as hD (by first | (rw [ld_t c_85]; done) | (rw [ld_f c_85]; done))) hS ls (lv_as (l1 := [(0, .ref (A 0)), (1, .int (nI (((ldS f tx k).1) + 1))), (2, .int (((ldS f tx k).2.1) ||| (nI 0))), (3, .int (nI (k + 1)))]) (lv_sub hl [3, 1, 2, 0] rfl) (by first | (rw [ld_t c_85]; simp [c_9, c_18, c_29, c_43, c_73, c_85, c_97]; done) | (rw [ld_f c_85])))
                      · refine lv_iconst (v := nI 1) hx hb dX7_load_100 (by decide) ?_
                        refine lv_iload_n hx hb dX7_load_101 rfl (lv_at hl 1 rfl) ?_
                        refine lv_ishl hx hb dX7_load_102 ?_
                        refine lv_goto (tgt := 107) hx hb dX7_load_103 (by decide) ?_
                        refine lv_ior hx hb dX7_load_107 ?_
                        refine lv_istore_n (lv' := [(2, .int (((ldS f tx k).2.1) ||| ((nI 1) <<< ((nI ((ldS f tx k).1)) &&& 31)))), (0, .ref (A 0)), (1, .int (nI ((ldS f tx k).1))), (3, .int (nI k))]) hx hb dX7_load_108 rfl hl (by decide) rfl (fun ls hl => ?_)
                        refine lv_iinc (v := nI (((ldS f tx k).1) + 1)) (lv' := [(1, .int (nI (((ldS f tx k).1) + 1))), (2, .int (((ldS f tx k).2.1) ||| ((nI 1) <<< ((nI ((ldS f tx k).1)) &&& 31)))), (0, .ref (A 0)), (3, .int (nI k))]) hx hb dX7_load_109 hl (k := 2) rfl (iincN ((ldS f tx k).1)) (by decide) rfl (fun ls hl => ?_)
                        refine lv_goto (tgt := 133) hx hb dX7_load_112 (by decide) ?_
                        refine lv_iinc (v := nI (k + 1)) (lv' := [(3, .int (nI (k + 1))), (1, .int (nI (((ldS f tx k).1) + 1))), (2, .int (((ldS f tx k).2.1) ||| ((nI 1) <<< ((nI ((ldS f tx k).1)) &&& 31)))), (0, .ref (A 0))]) hx hb dX7_load_133 hl (k := 3) rfl (iincN k) (by decide) rfl (fun ls hl => ?_)
                        refine lv_goto (tgt := 68) hx hb dX7_load_136 (by decide) ?_
                        exact ih (k + 1) (by omega) (by omega) _ _ (PP_as hP (by first | (rw [ld_t c_85]; done) | (rw [ld_f c_85]; done))) (D_as hD (by first | (rw [ld_t c_85]; done) | (rw [ld_f c_85]; done))) hS ls (lv_as (l1 := [(0, .ref (A 0)), (1, .int (nI (((ldS f tx k).1) + 1))), (2, .int (((ldS f tx k).2.1) ||| ((nI 1) <<< ((nI ((ldS f tx k).1)) &&& 31)))), (3, .int (nI (k + 1)))]) (lv_sub hl [3, 1, 2, 0] rfl) (by first | (rw [ld_t c_85]; simp [c_9, c_18, c_29, c_43, c_73, c_85, c_97]; done) | (rw [ld_f c_85])))
              exact L68 (lt + 1) 0 (by omega) (by omega) _ _ (PP_as hP (by rw [show k = 6 by omega]; rfl)) (D_as hD (by rw [show k = 6 by omega]; rfl)) hS ls (lv_as (l1 := [(0, .ref (A 0)), (1, .int (nI 0)), (2, .int (nI 0)), (3, .int (nI 0))]) (lv_sub hl [3, 2, 1, 0] rfl) (by rfl))
            · have q1 : k < 6 := fl c_43 (by omega) (by omega)
              refine lv_aload_n hx hb dX7_load_46 rfl (lv_at hl 0 rfl) ?_
              refine va_get (D := G.1) (ws := mW G A (nI 0) (nI (svm m + 1)) (nI lt) dg (zT f k) sl ik (svF sv f m) tx pl) (ci := 6) (v := .ref (A 1)) (C := RX7) (T := TX7) (N := 10) hx hb hts (fun _ h => List.mem_cons_of_mem _ (List.mem_append_right _ (h))) hown hK hP 0 rfl rfl 1 (by decide) (hts (.fieldLink RX7 7 "CreaseMapsModel" "s" "[I") (List.mem_of_getElem? (i := 2) rfl)) (fun _ h9 => h9) rfl dX7_load_47 ?_
              refine lv_bipush (v := nI 11) hx hb dX7_load_50 (by decide) ?_
              refine lv_iload_n hx hb dX7_load_52 rfl (lv_at hl 1 rfl) ?_
              refine lv_iadd hx hb dX7_load_53 ?_
              refine lv_cgi (y := nI (11 + k)) (nI_add _ _) ?_
              refine lv_iconst (v := nI 0) hx hb dX7_load_54 (by decide) ?_
              refine va_iast (D := G.1) (ws := mW G A (nI 0) (nI (svm m + 1)) (nI lt) dg (zT f k) sl ik (svF sv f m) tx pl) hx hb hK hP hD hS 1 0 (n := 58) rfl rfl (by first | assumption | exact vp_in_nI (by omega) (by omega)) dX7_load_55 (fun H locs hP hD hS => ?_)
              rw [nI_clamp (by omega)] at hP hD
              have hP : PP G (mW G A (nI 0) (nI (svm m + 1)) (nI lt) dg (upd (zT f k) (11 + k) (nI 0)) sl ik (svF sv f m) tx pl) H := hP
              have hD : va_D Ar (mW G A (nI 0) (nI (svm m + 1)) (nI lt) dg (upd (zT f k) (11 + k) (nI 0)) sl ik (svF sv f m) tx pl) := hD
              refine lv_iinc (v := nI (k + 1)) (lv' := [(1, .int (nI (k + 1))), (0, .ref (A 0))]) hx hb dX7_load_56 hl (k := 1) rfl (iincN k) (by decide) rfl (fun ls hl => ?_)
              refine lv_goto (tgt := 40) hx hb dX7_load_59 (by decide) ?_
              exact ih (k + 1) (by omega) (by omega) _ _ (PP_as hP (by rw [zT_s])) (D_as hD (by rw [zT_s])) hS ls (lv_as (l1 := [(0, .ref (A 0)), (1, .int (nI (k + 1)))]) (lv_sub hl [1, 0] rfl) (by rfl))
        exact L40 7 0 (by omega) (by omega) _ _ (PP_as hP (by rw [zT_0])) (D_as hD (by rw [zT_0])) hS ls (lv_as (l1 := [(0, .ref (A 0)), (1, .int (nI 0))]) (lv_sub hl [1, 0] rfl) (by rfl))
      · exact absurd c_29 (by decide)

set_option maxHeartbeats 4000000 in
set_option maxRecDepth 100000 in
theorem c_X7_load_no (l : Launch) (G : GG) (sz : Nat) (A : Nat → Nat) (th : Int32) (dg : Int64) (f sl ik sv tx pl : Nat → Int32) (m : Nat) (hm : m ≤ 6) (lt : Nat) (hlt : lt ≤ 60) (hrg : ¬ (rgt tx lt 0 = lt ∧ mks tx lt = nI 9)) : WRi l yX7_load wsX7_load 3 G [.ref (A 0)] (mW G A th (nI m) (nI lt) dg f sl ik sv tx pl) sz (S := Unit) (fun r _ => r = nI 0) (fun _ => mW G A (nI 1) (nI m) (nI lt) dg f sl ik sv tx pl) 0 0 := by
  refine wr_of (cc := cX7_load) (maxL := 4) (ret := (some .int)) (Qc := fun Ar => wQi G (S := Unit) (fun r _ => r = nI 0) (fun _ => mW G A (nI 1) (nI m) (nI lt) dg f sl ik sv tx pl) Ar) (by decide) rfl (Nat.le_of_ble_eq_true rfl) ?_
  intro pG eG s mG below meth cG hsz hx hb hr hml hts hown hlocks hnm hP hK hN Ar hD hA hS ls hl
  have hown : s.vm.findClass RX7 = some mG.cls := hown
  have hP : PP G (mW G A th (nI m) (nI lt) dg f sl ik sv tx pl) s.heap := hP
  have hD : va_D Ar (mW G A th (nI m) (nI lt) dg f sl ik sv tx pl) := hD
  have hl : lv_has ls 4 [(0, .ref (A 0))] := hl
  refine lv_aload_n hx hb dX7_load_0 rfl (lv_at hl 0 rfl) ?_
  refine lv_aload_n hx hb dX7_load_1 rfl (lv_at hl 0 rfl) ?_
  refine rd_go (va_runV (As := []) (rest := [.ref (A 0)]) ⟨hx, hb, hml, hown, hts⟩ (c_X7_right l G A th (nI m) dg f sl ik sv tx pl lt hlt) (cwV 0 hts gX7_load_X7_right rfl rfl rfl (by decide +kernel) ⟨Nat.le_of_ble_eq_true rfl, Nat.le_of_ble_eq_true rfl⟩) (rV (ws := mW G A th (nI m) (nI lt) dg f sl ik sv tx pl) (va_recv (ws := mW G A th (nI m) (nI lt) dg f sl ik sv tx pl) hK hP (ci := 6) (q0 := 0) rfl rfl) hK hN hP) rfl rfl hl.1 rfl (lv_room (Nat.le_of_ble_eq_true rfl)) dX7_load_2 ⟨Nat.le_of_ble_eq_true rfl, Nat.le_of_ble_eq_true rfl⟩) ?_
  refine lv_aload_n hx hb dX7_load_5 rfl (lv_at hl 0 rfl) ?_
  refine va_get (D := G.1) (ws := mW G A th (nI m) (nI lt) dg f sl ik sv tx pl) (ci := 6) (v := .int (nI lt)) (C := RX7) (T := TX7) (N := 10) hx hb hts (fun _ h => List.mem_cons_of_mem _ (List.mem_append_right _ (h))) hown hK hP 0 rfl rfl 7 (by decide) (hts (.fieldLink RX7 91 "CreaseMapsModel" "length" "I") (List.mem_of_getElem? (i := 1) rfl)) (fun _ h9 => h9) rfl dX7_load_6 ?_
  refine lv_icmp_ne (tgt := 25) hx hb dX7_load_9 (by decide) (fun c_9 => ?_) (fun c_9 => ?_)
  · refine lv_iconst (v := nI 1) hx hb dX7_load_25 (by decide) ?_
    refine wr_goi (pre := []) (mid := mW G A th (nI m) (nI lt) dg f sl ik sv tx pl) (suf := []) (va_runV (As := [.int (nI 1)]) (rest := []) ⟨hx, hb, hml, hown, hts⟩ (c_X7_holds l G _ A th (nI m) (nI lt) dg f sl ik sv tx pl (nI 1)) (cwV 1 hts gX7_load_X7_holds rfl rfl rfl (by decide +kernel) ⟨Nat.le_of_ble_eq_true rfl, Nat.le_of_ble_eq_true rfl⟩) (wV (pre := []) (mid := mW G A th (nI m) (nI lt) dg f sl ik sv tx pl) (suf := []) (va_recv (ws := mW G A th (nI m) (nI lt) dg f sl ik sv tx pl) hK hP (ci := 6) (q0 := 0) rfl rfl) hK hN hP hD) rfl rfl hl.1 rfl (lv_room (Nat.le_of_ble_eq_true rfl)) dX7_load_26 ⟨Nat.le_of_ble_eq_true rfl, Nat.le_of_ble_eq_true rfl⟩) hP hD hS hA (fun r _ H locs hw hP hD hS => ?_)
    subst hw
    have hP : PP G (mW G A (nI 1) (nI m) (nI lt) dg f sl ik sv tx pl) H := hP
    have hD : va_D Ar (mW G A (nI 1) (nI m) (nI lt) dg f sl ik sv tx pl) := hD
    refine lv_cgi (y := nI 0) (by decide) ?_
    refine lv_if_ne (tgt := 34) hx hb dX7_load_29 (by decide) (fun c_29 => ?_) (fun c_29 => ?_)
    · exact absurd c_29 (by decide)
    · refine lv_iconst (v := nI 0) hx hb dX7_load_32 (by decide) ?_
      exact wr_iret (S := Unit) (out := fun _ => mW G A (nI 1) (nI m) (nI lt) dg f sl ik sv tx pl) () hx hb hr hlocks hP hD hS (Nat.le_of_ble_eq_true rfl) (Nat.le_of_ble_eq_true rfl) (by rfl) dX7_load_33
  · have q1 : rgt tx lt 0 = lt := nIe c_9 (by have := rgt_le tx lt 0; omega) (by omega)
    refine lv_aload_n hx hb dX7_load_12 rfl (lv_at hl 0 rfl) ?_
    refine rd_go (va_runV (As := []) (rest := [.ref (A 0)]) ⟨hx, hb, hml, hown, hts⟩ (c_X7_marks l G A th (nI m) dg f sl ik sv tx pl lt hlt) (cwV 0 hts gX7_load_X7_marks rfl rfl rfl (by decide +kernel) ⟨Nat.le_of_ble_eq_true rfl, Nat.le_of_ble_eq_true rfl⟩) (rV (ws := mW G A th (nI m) (nI lt) dg f sl ik sv tx pl) (va_recv (ws := mW G A th (nI m) (nI lt) dg f sl ik sv tx pl) hK hP (ci := 6) (q0 := 0) rfl rfl) hK hN hP) rfl rfl hl.1 rfl (lv_room (Nat.le_of_ble_eq_true rfl)) dX7_load_13 ⟨Nat.le_of_ble_eq_true rfl, Nat.le_of_ble_eq_true rfl⟩) ?_
    refine lv_bipush (v := nI 9) hx hb dX7_load_16 (by decide) ?_
    refine lv_icmp_ne (tgt := 25) hx hb dX7_load_18 (by decide) (fun c_18 => ?_) (fun c_18 => ?_)
    · refine lv_iconst (v := nI 1) hx hb dX7_load_25 (by decide) ?_
      refine wr_goi (pre := []) (mid := mW G A th (nI m) (nI lt) dg f sl ik sv tx pl) (suf := []) (va_runV (As := [.int (nI 1)]) (rest := []) ⟨hx, hb, hml, hown, hts⟩ (c_X7_holds l G _ A th (nI m) (nI lt) dg f sl ik sv tx pl (nI 1)) (cwV 1 hts gX7_load_X7_holds rfl rfl rfl (by decide +kernel) ⟨Nat.le_of_ble_eq_true rfl, Nat.le_of_ble_eq_true rfl⟩) (wV (pre := []) (mid := mW G A th (nI m) (nI lt) dg f sl ik sv tx pl) (suf := []) (va_recv (ws := mW G A th (nI m) (nI lt) dg f sl ik sv tx pl) hK hP (ci := 6) (q0 := 0) rfl rfl) hK hN hP hD) rfl rfl hl.1 rfl (lv_room (Nat.le_of_ble_eq_true rfl)) dX7_load_26 ⟨Nat.le_of_ble_eq_true rfl, Nat.le_of_ble_eq_true rfl⟩) hP hD hS hA (fun r _ H locs hw hP hD hS => ?_)
      subst hw
      have hP : PP G (mW G A (nI 1) (nI m) (nI lt) dg f sl ik sv tx pl) H := hP
      have hD : va_D Ar (mW G A (nI 1) (nI m) (nI lt) dg f sl ik sv tx pl) := hD
      refine lv_cgi (y := nI 0) (by decide) ?_
      refine lv_if_ne (tgt := 34) hx hb dX7_load_29 (by decide) (fun c_29 => ?_) (fun c_29 => ?_)
      · exact absurd c_29 (by decide)
      · refine lv_iconst (v := nI 0) hx hb dX7_load_32 (by decide) ?_
        exact wr_iret (S := Unit) (out := fun _ => mW G A (nI 1) (nI m) (nI lt) dg f sl ik sv tx pl) () hx hb hr hlocks hP hD hS (Nat.le_of_ble_eq_true rfl) (Nat.le_of_ble_eq_true rfl) (by rfl) dX7_load_33
    · exact absurd ⟨q1, c_18⟩ hrg

set_option maxHeartbeats 4000000 in
set_option maxRecDepth 100000 in
theorem c_X7_keep (l : Launch) (G : GG) (sz : Nat) (A : Nat → Nat) (th sm le : Int32) (dg : Int64) (f sl ik sv tx pl : Nat → Int32) (i : Nat) (hi : i < 2) : WRi l yX7_keep wsX7_keep 2 G [.ref (A 0), .int (nI i)] (mW G A th sm le dg f sl ik sv tx pl) sz (S := Unit) (fun r _ => r = f 17) (fun _ => mW G A (nI 0) sm le dg f (cp sl (58 * i) f 0 58) (upd ik i (nI 1)) sv tx pl) 0 0 := by
  refine wr_of (cc := cX7_keep) (maxL := 3) (ret := (some .int)) (Qc := fun Ar => wQi G (S := Unit) (fun r _ => r = f 17) (fun _ => mW G A (nI 0) sm le dg f (cp sl (58 * i) f 0 58) (upd ik i (nI 1)) sv tx pl) Ar) (by decide) rfl (Nat.le_of_ble_eq_true rfl) ?_
  intro pG eG s mG below meth cG hsz hx hb hr hml hts hown hlocks hnm hP hK hN Ar hD hA hS ls hl
  have hown : s.vm.findClass RX7 = some mG.cls := hown
  have hP : PP G (mW G A th sm le dg f sl ik sv tx pl) s.heap := hP
  have hD : va_D Ar (mW G A th sm le dg f sl ik sv tx pl) := hD
  have hl : lv_has ls 3 [(0, .ref (A 0)), (1, .int (nI i))] := hl
  refine lv_aload_n hx hb dX7_keep_0 rfl (lv_at hl 0 rfl) ?_
  refine lv_iload_n hx hb dX7_keep_1 rfl (lv_at hl 1 rfl) ?_
  refine lv_iconst (v := nI 0) hx hb dX7_keep_2 (by decide) ?_
  refine lv_iconst (v := nI 1) hx hb dX7_keep_3 (by decide) ?_
  refine rd_go (va_runS (As := [.int (nI i), .int (nI 0), .int (nI 1)]) (rest := [.ref (A 0)]) ⟨hx, hb, hml, hown, hts⟩ (c_X7_in l G (nI i) (nI 0) (nI 1)) (va_cwS 3 hts gX7_keep_X7_in rfl rfl rfl (by decide +kernel) ⟨Nat.le_of_ble_eq_true rfl, Nat.le_of_ble_eq_true rfl⟩) (rS (ws := []) hK hN P_nil) rfl rfl hl.1 rfl (lv_room (Nat.le_of_ble_eq_true rfl)) dX7_keep_4 ⟨Nat.le_of_ble_eq_true rfl, Nat.le_of_ble_eq_true rfl⟩) ?_
  refine lv_cgi (y := nI 1) (b2T (inB_n (Nat.zero_le _) (by omega) (by omega))) ?_
  refine lv_if_eq (tgt := 14) hx hb dX7_keep_7 (by decide) (fun c_7 => ?_) (fun c_7 => ?_)
  · exact absurd c_7 (by decide)
  · refine lv_iconst (v := nI 0) hx hb dX7_keep_10 (by decide) ?_
    refine lv_goto (tgt := 15) hx hb dX7_keep_11 (by decide) ?_
    refine wr_goi (pre := []) (mid := mW G A th sm le dg f sl ik sv tx pl) (suf := []) (va_runV (As := [.int (nI 0)]) (rest := []) ⟨hx, hb, hml, hown, hts⟩ (c_X7_holds l G _ A th sm le dg f sl ik sv tx pl (nI 0)) (cwV 1 hts gX7_keep_X7_holds rfl rfl rfl (by decide +kernel) ⟨Nat.le_of_ble_eq_true rfl, Nat.le_of_ble_eq_true rfl⟩) (wV (pre := []) (mid := mW G A th sm le dg f sl ik sv tx pl) (suf := []) (va_recv (ws := mW G A th sm le dg f sl ik sv tx pl) hK hP (ci := 6) (q0 := 0) rfl rfl) hK hN hP hD) rfl rfl hl.1 rfl (lv_room (Nat.le_of_ble_eq_true rfl)) dX7_keep_15 ⟨Nat.le_of_ble_eq_true rfl, Nat.le_of_ble_eq_true rfl⟩) hP hD hS hA (fun r _ H locs hw hP hD hS => ?_)
    subst hw
    have hP : PP G (mW G A (nI 0) sm le dg f sl ik sv tx pl) H := hP
    have hD : va_D Ar (mW G A (nI 0) sm le dg f sl ik sv tx pl) := hD
    refine lv_cgi (y := nI 1) (by decide) ?_
    refine lv_if_ne (tgt := 23) hx hb dX7_keep_18 (by decide) (fun c_18 => ?_) (fun c_18 => ?_)
    · refine lv_iconst (v := nI 0) hx hb dX7_keep_23 (by decide) ?_
      refine lv_istore_n (lv' := [(2, .int (nI 0)), (0, .ref (A 0)), (1, .int (nI i))]) hx hb dX7_keep_24 rfl hl (by decide) rfl (fun ls hl => ?_)
      have L25 : ∀ (fu : Nat) (k : Nat) (hk : k ≤ 58), 58 + 1 ≤ k + fu → ∀ (H : Heap) (locs : List Loc), PP G (mW G A (nI 0) sm le dg f (cp sl (58 * i) f 0 k) ik sv tx pl) H → va_D Ar (mW G A (nI 0) sm le dg f (cp sl (58 * i) f 0 k) ik sv tx pl) → va_S Ar s.heap H locs → ∀ ls : Array Slot, lv_has ls 3 [(0, .ref (A 0)), (1, .int (nI i)), (2, .int (nI k))] → W pG l eG (RM 2 0 0) s mG ([.ref (A 0), .int (nI i)] : List Value).toArray below meth cG H locs 0 0 (MQ below (wQi G (S := Unit) (fun r _ => r = f 17) (fun _ => mW G A (nI 0) sm le dg f (cp sl (58 * i) f 0 58) (upd ik i (nI 1)) sv tx pl) Ar) ([.ref (A 0), .int (nI i)] : List Value).toArray s 0 0 Ar) (F0 mG 25 ls []) := by
        intro fu
        induction fu with
        | zero => intro k hk hfu; exact absurd hfu (by omega)
        | succ fu ih =>
          intro k hk hfu H locs hP hD hS ls hl
          refine lv_iload_n hx hb dX7_keep_25 rfl (lv_at hl 2 rfl) ?_
          refine lv_bipush (v := nI 58) hx hb dX7_keep_26 (by decide) ?_
          refine lv_icmp_ge (tgt := 54) hx hb dX7_keep_28 (by decide) (fun c_28 => ?_) (fun c_28 => ?_)
          · have q1 : 58 ≤ k := fe c_28 (by omega) (by omega)
            refine lv_aload_n hx hb dX7_keep_54 rfl (lv_at hl 0 rfl) ?_
            refine va_get (D := G.1) (ws := mW G A (nI 0) sm le dg f (cp sl (58 * i) f 0 k) ik sv tx pl) (ci := 6) (v := .ref (A 3)) (C := RX7) (T := TX7) (N := 10) hx hb hts (fun _ h => List.mem_cons_of_mem _ (List.mem_append_right _ (h))) hown hK hP 0 rfl rfl 3 (by decide) (hts (.fieldLink RX7 16 "CreaseMapsModel" "isKept" "[Z") (List.mem_of_getElem? (i := 3) rfl)) (fun _ h9 => h9) rfl dX7_keep_55 ?_
            refine lv_iload_n hx hb dX7_keep_58 rfl (lv_at hl 1 rfl) ?_
            refine lv_iconst (v := nI 1) hx hb dX7_keep_59 (by decide) ?_
            refine va_zast (D := G.1) (ws := mW G A (nI 0) sm le dg f (cp sl (58 * i) f 0 k) ik sv tx pl) hx hb hK hP hD hS 3 1 (n := 2) rfl rfl (by first | assumption | exact vp_in_nI (by omega) (by omega))  dX7_keep_60 (fun H locs hP hD hS => ?_)
            rw [nI_clamp (by omega)] at hP hD
            have hP : PP G (mW G A (nI 0) sm le dg f (cp sl (58 * i) f 0 k) (upd ik i (nI 1)) sv tx pl) H := hP
            have hD : va_D Ar (mW G A (nI 0) sm le dg f (cp sl (58 * i) f 0 k) (upd ik i (nI 1)) sv tx pl) := hD
            refine lv_aload_n hx hb dX7_keep_61 rfl (lv_at hl 0 rfl) ?_
            refine va_get (D := G.1) (ws := mW G A (nI 0) sm le dg f (cp sl (58 * i) f 0 k) (upd ik i (nI 1)) sv tx pl) (ci := 6) (v := .ref (A 1)) (C := RX7) (T := TX7) (N := 10) hx hb hts (fun _ h => List.mem_cons_of_mem _ (List.mem_append_right _ (h))) hown hK hP 0 rfl rfl 1 (by decide) (hts (.fieldLink RX7 7 "CreaseMapsModel" "s" "[I") (List.mem_of_getElem? (i := 2) rfl)) (fun _ h9 => h9) rfl dX7_keep_62 ?_
            refine lv_bipush (v := nI 17) hx hb dX7_keep_65 (by decide) ?_
            refine va_iald (D := G.1) (ws := mW G A (nI 0) sm le dg f (cp sl (58 * i) f 0 k) (upd ik i (nI 1)) sv tx pl) hx hb hK hP 1 0 (n := 58) rfl rfl (by first | assumption | exact vp_in_nI (by omega) (by omega)) dX7_keep_67 ?_
            refine lv_cgi (y := f 17) rfl ?_
            exact wr_iret (S := Unit) (out := fun _ => mW G A (nI 0) sm le dg f (cp sl (58 * i) f 0 58) (upd ik i (nI 1)) sv tx pl) () hx hb hr hlocks (PP_as hP (by rw [show k = 58 by omega])) (D_as hD (by rw [show k = 58 by omega])) hS (Nat.le_of_ble_eq_true rfl) (Nat.le_of_ble_eq_true rfl) (by rfl) dX7_keep_68
          · have q1 : k < 58 := fl c_28 (by omega) (by omega)
            refine lv_aload_n hx hb dX7_keep_31 rfl (lv_at hl 0 rfl) ?_
            refine va_get (D := G.1) (ws := mW G A (nI 0) sm le dg f (cp sl (58 * i) f 0 k) ik sv tx pl) (ci := 6) (v := .ref (A 2)) (C := RX7) (T := TX7) (N := 10) hx hb hts (fun _ h => List.mem_cons_of_mem _ (List.mem_append_right _ (h))) hown hK hP 0 rfl rfl 2 (by decide) (hts (.fieldLink RX7 13 "CreaseMapsModel" "slots" "[I") (List.mem_of_getElem? (i := 1) rfl)) (fun _ h9 => h9) rfl dX7_keep_32 ?_
            refine lv_bipush (v := nI 58) hx hb dX7_keep_35 (by decide) ?_
            refine lv_iload_n hx hb dX7_keep_37 rfl (lv_at hl 1 rfl) ?_
            refine lv_imul hx hb dX7_keep_38 ?_
            refine lv_cgi (y := nI (58 * i)) (pk_mul _ _) ?_
            refine lv_iload_n hx hb dX7_keep_39 rfl (lv_at hl 2 rfl) ?_
            refine lv_iadd hx hb dX7_keep_40 ?_
            refine lv_cgi (y := nI ((58 * i) + k)) (nI_add _ _) ?_
            refine lv_aload_n hx hb dX7_keep_41 rfl (lv_at hl 0 rfl) ?_
            refine va_get (D := G.1) (ws := mW G A (nI 0) sm le dg f (cp sl (58 * i) f 0 k) ik sv tx pl) (ci := 6) (v := .ref (A 1)) (C := RX7) (T := TX7) (N := 10) hx hb hts (fun _ h => List.mem_cons_of_mem _ (List.mem_append_right _ (h))) hown hK hP 0 rfl rfl 1 (by decide) (hts (.fieldLink RX7 7 "CreaseMapsModel" "s" "[I") (List.mem_of_getElem? (i := 2) rfl)) (fun _ h9 => h9) rfl dX7_keep_42 ?_
            refine lv_iload_n hx hb dX7_keep_45 rfl (lv_at hl 2 rfl) ?_
            refine va_iald (D := G.1) (ws := mW G A (nI 0) sm le dg f (cp sl (58 * i) f 0 k) ik sv tx pl) hx hb hK hP 1 0 (n := 58) rfl rfl (by first | assumption | exact vp_in_nI (by omega) (by omega)) dX7_keep_46 ?_
            refine lv_cgi (y := f k) (by rw [nI_clamp (by omega)]) ?_
            refine va_iast (D := G.1) (ws := mW G A (nI 0) sm le dg f (cp sl (58 * i) f 0 k) ik sv tx pl) hx hb hK hP hD hS 2 0 (n := 116) rfl rfl (by first | assumption | exact vp_in_nI (by omega) (by omega)) dX7_keep_47 (fun H locs hP hD hS => ?_)
            rw [nI_clamp (by omega)] at hP hD
            have hP : PP G (mW G A (nI 0) sm le dg f (upd (cp sl (58 * i) f 0 k) ((58 * i) + k) (f k)) ik sv tx pl) H := hP
            have hD : va_D Ar (mW G A (nI 0) sm le dg f (upd (cp sl (58 * i) f 0 k) ((58 * i) + k) (f k)) ik sv tx pl) := hD
            refine lv_iinc (v := nI (k + 1)) (lv' := [(2, .int (nI (k + 1))), (0, .ref (A 0)), (1, .int (nI i))]) hx hb dX7_keep_48 hl (k := 2) rfl (iincN k) (by decide) rfl (fun ls hl => ?_)
            refine lv_goto (tgt := 25) hx hb dX7_keep_51 (by decide) ?_
            exact ih (k + 1) (by omega) (by omega) _ _ (PP_as hP (by first | rw [cp_s0] | rw [cp_sb])) (D_as hD (by first | rw [cp_s0] | rw [cp_sb])) hS ls (lv_as (l1 := [(0, .ref (A 0)), (1, .int (nI i)), (2, .int (nI (k + 1)))]) (lv_sub hl [1, 2, 0] rfl) (by rfl))
      exact L25 59 0 (by omega) (by omega) _ _ (PP_as hP (by rw [cp_0])) (D_as hD (by rw [cp_0])) hS ls (lv_as (l1 := [(0, .ref (A 0)), (1, .int (nI i)), (2, .int (nI 0))]) (lv_sub hl [1, 2, 0] rfl) (by rfl))
    · exact absurd c_18 (by decide)

set_option maxHeartbeats 4000000 in
set_option maxRecDepth 100000 in
theorem c_X7_keep_no (l : Launch) (G : GG) (sz : Nat) (A : Nat → Nat) (th sm le : Int32) (dg : Int64) (f sl ik sv tx pl : Nat → Int32) (x : Int32) (hx0 : ¬ inB x (nI 0) (nI 1)) : WRi l yX7_keep wsX7_keep 2 G [.ref (A 0), .int x] (mW G A th sm le dg f sl ik sv tx pl) sz (S := Unit) (fun r _ => r = nI 0) (fun _ => mW G A (nI 1) sm le dg f sl ik sv tx pl) 0 0 := by
  refine wr_of (cc := cX7_keep) (maxL := 3) (ret := (some .int)) (Qc := fun Ar => wQi G (S := Unit) (fun r _ => r = nI 0) (fun _ => mW G A (nI 1) sm le dg f sl ik sv tx pl) Ar) (by decide) rfl (Nat.le_of_ble_eq_true rfl) ?_
  intro pG eG s mG below meth cG hsz hx hb hr hml hts hown hlocks hnm hP hK hN Ar hD hA hS ls hl
  have hown : s.vm.findClass RX7 = some mG.cls := hown
  have hP : PP G (mW G A th sm le dg f sl ik sv tx pl) s.heap := hP
  have hD : va_D Ar (mW G A th sm le dg f sl ik sv tx pl) := hD
  have hl : lv_has ls 3 [(0, .ref (A 0)), (1, .int x)] := hl
  refine lv_aload_n hx hb dX7_keep_0 rfl (lv_at hl 0 rfl) ?_
  refine lv_iload_n hx hb dX7_keep_1 rfl (lv_at hl 1 rfl) ?_
  refine lv_iconst (v := nI 0) hx hb dX7_keep_2 (by decide) ?_
  refine lv_iconst (v := nI 1) hx hb dX7_keep_3 (by decide) ?_
  refine rd_go (va_runS (As := [.int x, .int (nI 0), .int (nI 1)]) (rest := [.ref (A 0)]) ⟨hx, hb, hml, hown, hts⟩ (c_X7_in l G x (nI 0) (nI 1)) (va_cwS 3 hts gX7_keep_X7_in rfl rfl rfl (by decide +kernel) ⟨Nat.le_of_ble_eq_true rfl, Nat.le_of_ble_eq_true rfl⟩) (rS (ws := []) hK hN P_nil) rfl rfl hl.1 rfl (lv_room (Nat.le_of_ble_eq_true rfl)) dX7_keep_4 ⟨Nat.le_of_ble_eq_true rfl, Nat.le_of_ble_eq_true rfl⟩) ?_
  refine lv_cgi (y := nI 0) (b2F (hx0)) ?_
  refine lv_if_eq (tgt := 14) hx hb dX7_keep_7 (by decide) (fun c_7 => ?_) (fun c_7 => ?_)
  · refine lv_iconst (v := nI 1) hx hb dX7_keep_14 (by decide) ?_
    refine wr_goi (pre := []) (mid := mW G A th sm le dg f sl ik sv tx pl) (suf := []) (va_runV (As := [.int (nI 1)]) (rest := []) ⟨hx, hb, hml, hown, hts⟩ (c_X7_holds l G _ A th sm le dg f sl ik sv tx pl (nI 1)) (cwV 1 hts gX7_keep_X7_holds rfl rfl rfl (by decide +kernel) ⟨Nat.le_of_ble_eq_true rfl, Nat.le_of_ble_eq_true rfl⟩) (wV (pre := []) (mid := mW G A th sm le dg f sl ik sv tx pl) (suf := []) (va_recv (ws := mW G A th sm le dg f sl ik sv tx pl) hK hP (ci := 6) (q0 := 0) rfl rfl) hK hN hP hD) rfl rfl hl.1 rfl (lv_room (Nat.le_of_ble_eq_true rfl)) dX7_keep_15 ⟨Nat.le_of_ble_eq_true rfl, Nat.le_of_ble_eq_true rfl⟩) hP hD hS hA (fun r _ H locs hw hP hD hS => ?_)
    subst hw
    have hP : PP G (mW G A (nI 1) sm le dg f sl ik sv tx pl) H := hP
    have hD : va_D Ar (mW G A (nI 1) sm le dg f sl ik sv tx pl) := hD
    refine lv_cgi (y := nI 0) (by decide) ?_
    refine lv_if_ne (tgt := 23) hx hb dX7_keep_18 (by decide) (fun c_18 => ?_) (fun c_18 => ?_)
    · exact absurd c_18 (by decide)
    · refine lv_iconst (v := nI 0) hx hb dX7_keep_21 (by decide) ?_
      exact wr_iret (S := Unit) (out := fun _ => mW G A (nI 1) sm le dg f sl ik sv tx pl) () hx hb hr hlocks hP hD hS (Nat.le_of_ble_eq_true rfl) (Nat.le_of_ble_eq_true rfl) (by rfl) dX7_keep_22
  · exact absurd c_7 (by decide)

set_option maxHeartbeats 4000000 in
set_option maxRecDepth 100000 in
theorem c_X7_goBack (l : Launch) (G : GG) (sz : Nat) (A : Nat → Nat) (th le : Int32) (dg : Int64) (f sl ik sv tx pl : Nat → Int32) (m : Nat) (hm : m ≤ 6) (i : Nat) (hi : i < 2) (hik : ik i = nI 1) : WRi l yX7_goBack wsX7_goBack 2 G [.ref (A 0), .int (nI i)] (mW G A th (nI m) le dg f sl ik sv tx pl) sz (S := Unit) (fun r _ => r = cp f 0 sl (58 * i) 58 17) (fun _ => mW G A (nI 0) (nI (svm m + 1)) le dg (cp f 0 sl (58 * i) 58) sl ik (svF sv f m) tx pl) 0 0 := by
  refine wr_of (cc := cX7_goBack) (maxL := 4) (ret := (some .int)) (Qc := fun Ar => wQi G (S := Unit) (fun r _ => r = cp f 0 sl (58 * i) 58 17) (fun _ => mW G A (nI 0) (nI (svm m + 1)) le dg (cp f 0 sl (58 * i) 58) sl ik (svF sv f m) tx pl) Ar) (by decide) rfl (Nat.le_of_ble_eq_true rfl) ?_
  intro pG eG s mG below meth cG hsz hx hb hr hml hts hown hlocks hnm hP hK hN Ar hD hA hS ls hl
  have hown : s.vm.findClass RX7 = some mG.cls := hown
  have hP : PP G (mW G A th (nI m) le dg f sl ik sv tx pl) s.heap := hP
  have hD : va_D Ar (mW G A th (nI m) le dg f sl ik sv tx pl) := hD
  have hl : lv_has ls 4 [(0, .ref (A 0)), (1, .int (nI i))] := hl
  refine lv_iload_n hx hb dX7_goBack_0 rfl (lv_at hl 1 rfl) ?_
  refine lv_iconst (v := nI 0) hx hb dX7_goBack_1 (by decide) ?_
  refine lv_iconst (v := nI 1) hx hb dX7_goBack_2 (by decide) ?_
  refine rd_go (va_runS (As := [.int (nI i), .int (nI 0), .int (nI 1)]) (rest := []) ⟨hx, hb, hml, hown, hts⟩ (c_X7_in l G (nI i) (nI 0) (nI 1)) (va_cwS 3 hts gX7_goBack_X7_in rfl rfl rfl (by decide +kernel) ⟨Nat.le_of_ble_eq_true rfl, Nat.le_of_ble_eq_true rfl⟩) (rS (ws := []) hK hN P_nil) rfl rfl hl.1 rfl (lv_room (Nat.le_of_ble_eq_true rfl)) dX7_goBack_3 ⟨Nat.le_of_ble_eq_true rfl, Nat.le_of_ble_eq_true rfl⟩) ?_
  refine lv_cgi (y := nI 1) (b2T (inB_n (Nat.zero_le _) (by omega) (by omega))) ?_
  refine lv_istore_n (lv' := [(2, .int (nI 1)), (0, .ref (A 0)), (1, .int (nI i))]) hx hb dX7_goBack_6 rfl hl (by decide) rfl (fun ls hl => ?_)
  refine lv_aload_n hx hb dX7_goBack_7 rfl (lv_at hl 1 rfl) ?_
  refine lv_iload_n hx hb dX7_goBack_8 rfl (lv_at hl 0 rfl) ?_
  refine lv_if_ne (tgt := 16) hx hb dX7_goBack_9 (by decide) (fun c_9 => ?_) (fun c_9 => ?_)
  · refine lv_aload_n hx hb dX7_goBack_16 rfl (lv_at hl 1 rfl) ?_
    refine va_get (D := G.1) (ws := mW G A th (nI m) le dg f sl ik sv tx pl) (ci := 6) (v := .ref (A 3)) (C := RX7) (T := TX7) (N := 10) hx hb hts (fun _ h => List.mem_cons_of_mem _ (List.mem_append_right _ (h))) hown hK hP 0 rfl rfl 3 (by decide) (hts (.fieldLink RX7 16 "CreaseMapsModel" "isKept" "[Z") (List.mem_of_getElem? (i := 1) rfl)) (fun _ h9 => h9) rfl dX7_goBack_17 ?_
    refine lv_iload_n hx hb dX7_goBack_20 rfl (lv_at hl 2 rfl) ?_
    refine va_zald (D := G.1) (ws := mW G A th (nI m) le dg f sl ik sv tx pl) hx hb hK hP 3 1 (n := 2) rfl rfl (by first | assumption | exact vp_in_nI (by omega) (by omega)) dX7_goBack_21 ?_
    refine lv_cgi (y := ik i) (by rw [nI_clamp (by omega)]) ?_
    refine lv_cgi (y := nI 1) hik ?_
    refine lv_if_ne (tgt := 29) hx hb dX7_goBack_22 (by decide) (fun c_22 => ?_) (fun c_22 => ?_)
    · refine lv_iconst (v := nI 0) hx hb dX7_goBack_29 (by decide) ?_
      refine wr_goi (pre := []) (mid := mW G A th (nI m) le dg f sl ik sv tx pl) (suf := []) (va_runV (As := [.int (nI 0)]) (rest := []) ⟨hx, hb, hml, hown, hts⟩ (c_X7_holds l G _ A th (nI m) le dg f sl ik sv tx pl (nI 0)) (cwV 1 hts gX7_goBack_X7_holds rfl rfl rfl (by decide +kernel) ⟨Nat.le_of_ble_eq_true rfl, Nat.le_of_ble_eq_true rfl⟩) (wV (pre := []) (mid := mW G A th (nI m) le dg f sl ik sv tx pl) (suf := []) (va_recv (ws := mW G A th (nI m) le dg f sl ik sv tx pl) hK hP (ci := 6) (q0 := 0) rfl rfl) hK hN hP hD) rfl rfl hl.1 rfl (lv_room (Nat.le_of_ble_eq_true rfl)) dX7_goBack_30 ⟨Nat.le_of_ble_eq_true rfl, Nat.le_of_ble_eq_true rfl⟩) hP hD hS hA (fun r _ H locs hw hP hD hS => ?_)
      subst hw
      have hP : PP G (mW G A (nI 0) (nI m) le dg f sl ik sv tx pl) H := hP
      have hD : va_D Ar (mW G A (nI 0) (nI m) le dg f sl ik sv tx pl) := hD
      refine lv_cgi (y := nI 1) (by decide) ?_
      refine lv_if_ne (tgt := 38) hx hb dX7_goBack_33 (by decide) (fun c_33 => ?_) (fun c_33 => ?_)
      · refine lv_aload_n hx hb dX7_goBack_38 rfl (lv_at hl 1 rfl) ?_
        refine wr_gov (pre := []) (mid := mW G A (nI 0) (nI m) le dg f sl ik sv tx pl) (suf := []) (va_runV (As := []) (rest := []) ⟨hx, hb, hml, hown, hts⟩ (c_X7_save l G _ A (nI 0) le dg f sl ik sv tx pl m hm) (cwV 0 hts gX7_goBack_X7_save rfl rfl rfl (by decide +kernel) ⟨Nat.le_of_ble_eq_true rfl, Nat.le_of_ble_eq_true rfl⟩) (wV (pre := []) (mid := mW G A (nI 0) (nI m) le dg f sl ik sv tx pl) (suf := []) (va_recv (ws := mW G A (nI 0) (nI m) le dg f sl ik sv tx pl) hK hP (ci := 6) (q0 := 0) rfl rfl) hK hN hP hD) rfl rfl hl.1 rfl (lv_room (Nat.le_of_ble_eq_true rfl)) dX7_goBack_39 ⟨Nat.le_of_ble_eq_true rfl, Nat.le_of_ble_eq_true rfl⟩) hP hD hS hA (fun _ H locs hw hP hD hS => ?_)
        have hP : PP G (mW G A (nI 0) (nI (svm m + 1)) le dg f sl ik (svF sv f m) tx pl) H := hP
        have hD : va_D Ar (mW G A (nI 0) (nI (svm m + 1)) le dg f sl ik (svF sv f m) tx pl) := hD
        refine lv_iconst (v := nI 0) hx hb dX7_goBack_42 (by decide) ?_
        refine lv_istore_n (lv' := [(3, .int (nI 0)), (2, .int (nI 1)), (0, .ref (A 0)), (1, .int (nI i))]) hx hb dX7_goBack_43 rfl hl (by decide) rfl (fun ls hl => ?_)
        have L44 : ∀ (fu : Nat) (k : Nat) (hk : k ≤ 58), 58 + 1 ≤ k + fu → ∀ (H : Heap) (locs : List Loc), PP G (mW G A (nI 0) (nI (svm m + 1)) le dg (cp f 0 sl (58 * i) k) sl ik (svF sv f m) tx pl) H → va_D Ar (mW G A (nI 0) (nI (svm m + 1)) le dg (cp f 0 sl (58 * i) k) sl ik (svF sv f m) tx pl) → va_S Ar s.heap H locs → ∀ ls : Array Slot, lv_has ls 4 [(0, .ref (A 0)), (1, .int (nI i)), (3, .int (nI k))] → W pG l eG (RM 2 0 0) s mG ([.ref (A 0), .int (nI i)] : List Value).toArray below meth cG H locs 0 0 (MQ below (wQi G (S := Unit) (fun r _ => r = cp f 0 sl (58 * i) 58 17) (fun _ => mW G A (nI 0) (nI (svm m + 1)) le dg (cp f 0 sl (58 * i) 58) sl ik (svF sv f m) tx pl) Ar) ([.ref (A 0), .int (nI i)] : List Value).toArray s 0 0 Ar) (F0 mG 44 ls []) := by
          intro fu
          induction fu with
          | zero => intro k hk hfu; exact absurd hfu (by omega)
          | succ fu ih =>
            intro k hk hfu H locs hP hD hS ls hl
            refine lv_iload_n hx hb dX7_goBack_44 rfl (lv_at hl 2 rfl) ?_
            refine lv_bipush (v := nI 58) hx hb dX7_goBack_45 (by decide) ?_
            refine lv_icmp_ge (tgt := 73) hx hb dX7_goBack_47 (by decide) (fun c_47 => ?_) (fun c_47 => ?_)
            · have q1 : 58 ≤ k := fe c_47 (by omega) (by omega)
              refine lv_aload_n hx hb dX7_goBack_73 rfl (lv_at hl 0 rfl) ?_
              refine va_get (D := G.1) (ws := mW G A (nI 0) (nI (svm m + 1)) le dg (cp f 0 sl (58 * i) k) sl ik (svF sv f m) tx pl) (ci := 6) (v := .ref (A 1)) (C := RX7) (T := TX7) (N := 10) hx hb hts (fun _ h => List.mem_cons_of_mem _ (List.mem_append_right _ (h))) hown hK hP 0 rfl rfl 1 (by decide) (hts (.fieldLink RX7 7 "CreaseMapsModel" "s" "[I") (List.mem_of_getElem? (i := 2) rfl)) (fun _ h9 => h9) rfl dX7_goBack_74 ?_
              refine lv_bipush (v := nI 17) hx hb dX7_goBack_77 (by decide) ?_
              refine va_iald (D := G.1) (ws := mW G A (nI 0) (nI (svm m + 1)) le dg (cp f 0 sl (58 * i) k) sl ik (svF sv f m) tx pl) hx hb hK hP 1 0 (n := 58) rfl rfl (by first | assumption | exact vp_in_nI (by omega) (by omega)) dX7_goBack_79 ?_
              refine lv_cgi (y := (cp f 0 sl (58 * i) k) 17) rfl ?_
              exact wr_iret (S := Unit) (out := fun _ => mW G A (nI 0) (nI (svm m + 1)) le dg (cp f 0 sl (58 * i) 58) sl ik (svF sv f m) tx pl) () hx hb hr hlocks (PP_as hP (by rw [show k = 58 by omega])) (D_as hD (by rw [show k = 58 by omega])) hS (Nat.le_of_ble_eq_true rfl) (Nat.le_of_ble_eq_true rfl) (by rw [show k = 58 by omega]) dX7_goBack_80
            · have q1 : k < 58 := fl c_47 (by omega) (by omega)
              refine lv_aload_n hx hb dX7_goBack_50 rfl (lv_at hl 0 rfl) ?_
              refine va_get (D := G.1) (ws := mW G A (nI 0) (nI (svm m + 1)) le dg (cp f 0 sl (58 * i) k) sl ik (svF sv f m) tx pl) (ci := 6) (v := .ref (A 1)) (C := RX7) (T := TX7) (N := 10) hx hb hts (fun _ h => List.mem_cons_of_mem _ (List.mem_append_right _ (h))) hown hK hP 0 rfl rfl 1 (by decide) (hts (.fieldLink RX7 7 "CreaseMapsModel" "s" "[I") (List.mem_of_getElem? (i := 2) rfl)) (fun _ h9 => h9) rfl dX7_goBack_51 ?_
              refine lv_iload_n hx hb dX7_goBack_54 rfl (lv_at hl 2 rfl) ?_
              refine lv_aload_n hx hb dX7_goBack_55 rfl (lv_at hl 0 rfl) ?_
              refine va_get (D := G.1) (ws := mW G A (nI 0) (nI (svm m + 1)) le dg (cp f 0 sl (58 * i) k) sl ik (svF sv f m) tx pl) (ci := 6) (v := .ref (A 2)) (C := RX7) (T := TX7) (N := 10) hx hb hts (fun _ h => List.mem_cons_of_mem _ (List.mem_append_right _ (h))) hown hK hP 0 rfl rfl 2 (by decide) (hts (.fieldLink RX7 13 "CreaseMapsModel" "slots" "[I") (List.mem_of_getElem? (i := 3) rfl)) (fun _ h9 => h9) rfl dX7_goBack_56 ?_
              refine lv_bipush (v := nI 58) hx hb dX7_goBack_59 (by decide) ?_
              refine lv_iload_n hx hb dX7_goBack_61 rfl (lv_at hl 1 rfl) ?_
              refine lv_imul hx hb dX7_goBack_62 ?_
              refine lv_cgi (y := nI (58 * i)) (pk_mul _ _) ?_
              refine lv_iload_n hx hb dX7_goBack_63 rfl (lv_at hl 2 rfl) ?_
              refine lv_iadd hx hb dX7_goBack_64 ?_
              refine lv_cgi (y := nI ((58 * i) + k)) (nI_add _ _) ?_
              refine va_iald (D := G.1) (ws := mW G A (nI 0) (nI (svm m + 1)) le dg (cp f 0 sl (58 * i) k) sl ik (svF sv f m) tx pl) hx hb hK hP 2 0 (n := 116) rfl rfl (by first | assumption | exact vp_in_nI (by omega) (by omega)) dX7_goBack_65 ?_
              refine lv_cgi (y := sl ((58 * i) + k)) (by rw [nI_clamp (by omega)]) ?_
              refine va_iast (D := G.1) (ws := mW G A (nI 0) (nI (svm m + 1)) le dg (cp f 0 sl (58 * i) k) sl ik (svF sv f m) tx pl) hx hb hK hP hD hS 1 0 (n := 58) rfl rfl (by first | assumption | exact vp_in_nI (by omega) (by omega)) dX7_goBack_66 (fun H locs hP hD hS => ?_)
              rw [nI_clamp (by omega)] at hP hD
              have hP : PP G (mW G A (nI 0) (nI (svm m + 1)) le dg (upd (cp f 0 sl (58 * i) k) k (sl ((58 * i) + k))) sl ik (svF sv f m) tx pl) H := hP
              have hD : va_D Ar (mW G A (nI 0) (nI (svm m + 1)) le dg (upd (cp f 0 sl (58 * i) k) k (sl ((58 * i) + k))) sl ik (svF sv f m) tx pl) := hD
              refine lv_iinc (v := nI (k + 1)) (lv' := [(3, .int (nI (k + 1))), (0, .ref (A 0)), (1, .int (nI i))]) hx hb dX7_goBack_67 hl (k := 2) rfl (iincN k) (by decide) rfl (fun ls hl => ?_)
              refine lv_goto (tgt := 44) hx hb dX7_goBack_70 (by decide) ?_
              exact ih (k + 1) (by omega) (by omega) _ _ (PP_as hP (by first | rw [cp_s0] | rw [cp_sb])) (D_as hD (by first | rw [cp_s0] | rw [cp_sb])) hS ls (lv_as (l1 := [(0, .ref (A 0)), (1, .int (nI i)), (3, .int (nI (k + 1)))]) (lv_sub hl [1, 2, 0] rfl) (by rfl))
        exact L44 59 0 (by omega) (by omega) _ _ (PP_as hP (by rw [cp_0])) (D_as hD (by rw [cp_0])) hS ls (lv_as (l1 := [(0, .ref (A 0)), (1, .int (nI i)), (3, .int (nI 0))]) (lv_sub hl [2, 3, 0] rfl) (by rfl))
      · exact absurd c_33 (by decide)
    · exact absurd c_22 (by decide)
  · exact absurd c_9 (by decide)

set_option maxHeartbeats 4000000 in
set_option maxRecDepth 100000 in
theorem c_X7_goBack_no1 (l : Launch) (G : GG) (sz : Nat) (A : Nat → Nat) (th le : Int32) (dg : Int64) (f sl ik sv tx pl : Nat → Int32) (m : Nat) (hm : m ≤ 6) (x : Int32) (hx0 : ¬ inB x (nI 0) (nI 1)) : WRi l yX7_goBack wsX7_goBack 2 G [.ref (A 0), .int x] (mW G A th (nI m) le dg f sl ik sv tx pl) sz (S := Unit) (fun r _ => r = nI 0) (fun _ => mW G A (nI 1) (nI m) le dg f sl ik sv tx pl) 0 0 := by
  refine wr_of (cc := cX7_goBack) (maxL := 4) (ret := (some .int)) (Qc := fun Ar => wQi G (S := Unit) (fun r _ => r = nI 0) (fun _ => mW G A (nI 1) (nI m) le dg f sl ik sv tx pl) Ar) (by decide) rfl (Nat.le_of_ble_eq_true rfl) ?_
  intro pG eG s mG below meth cG hsz hx hb hr hml hts hown hlocks hnm hP hK hN Ar hD hA hS ls hl
  have hown : s.vm.findClass RX7 = some mG.cls := hown
  have hP : PP G (mW G A th (nI m) le dg f sl ik sv tx pl) s.heap := hP
  have hD : va_D Ar (mW G A th (nI m) le dg f sl ik sv tx pl) := hD
  have hl : lv_has ls 4 [(0, .ref (A 0)), (1, .int x)] := hl
  refine lv_iload_n hx hb dX7_goBack_0 rfl (lv_at hl 1 rfl) ?_
  refine lv_iconst (v := nI 0) hx hb dX7_goBack_1 (by decide) ?_
  refine lv_iconst (v := nI 1) hx hb dX7_goBack_2 (by decide) ?_
  refine rd_go (va_runS (As := [.int x, .int (nI 0), .int (nI 1)]) (rest := []) ⟨hx, hb, hml, hown, hts⟩ (c_X7_in l G x (nI 0) (nI 1)) (va_cwS 3 hts gX7_goBack_X7_in rfl rfl rfl (by decide +kernel) ⟨Nat.le_of_ble_eq_true rfl, Nat.le_of_ble_eq_true rfl⟩) (rS (ws := []) hK hN P_nil) rfl rfl hl.1 rfl (lv_room (Nat.le_of_ble_eq_true rfl)) dX7_goBack_3 ⟨Nat.le_of_ble_eq_true rfl, Nat.le_of_ble_eq_true rfl⟩) ?_
  refine lv_cgi (y := nI 0) (b2F (hx0)) ?_
  refine lv_istore_n (lv' := [(2, .int (nI 0)), (0, .ref (A 0)), (1, .int x)]) hx hb dX7_goBack_6 rfl hl (by decide) rfl (fun ls hl => ?_)
  refine lv_aload_n hx hb dX7_goBack_7 rfl (lv_at hl 1 rfl) ?_
  refine lv_iload_n hx hb dX7_goBack_8 rfl (lv_at hl 0 rfl) ?_
  refine lv_if_ne (tgt := 16) hx hb dX7_goBack_9 (by decide) (fun c_9 => ?_) (fun c_9 => ?_)
  · exact absurd c_9 (by decide)
  · refine lv_iconst (v := nI 1) hx hb dX7_goBack_12 (by decide) ?_
    refine lv_goto (tgt := 30) hx hb dX7_goBack_13 (by decide) ?_
    refine wr_goi (pre := []) (mid := mW G A th (nI m) le dg f sl ik sv tx pl) (suf := []) (va_runV (As := [.int (nI 1)]) (rest := []) ⟨hx, hb, hml, hown, hts⟩ (c_X7_holds l G _ A th (nI m) le dg f sl ik sv tx pl (nI 1)) (cwV 1 hts gX7_goBack_X7_holds rfl rfl rfl (by decide +kernel) ⟨Nat.le_of_ble_eq_true rfl, Nat.le_of_ble_eq_true rfl⟩) (wV (pre := []) (mid := mW G A th (nI m) le dg f sl ik sv tx pl) (suf := []) (va_recv (ws := mW G A th (nI m) le dg f sl ik sv tx pl) hK hP (ci := 6) (q0 := 0) rfl rfl) hK hN hP hD) rfl rfl hl.1 rfl (lv_room (Nat.le_of_ble_eq_true rfl)) dX7_goBack_30 ⟨Nat.le_of_ble_eq_true rfl, Nat.le_of_ble_eq_true rfl⟩) hP hD hS hA (fun r _ H locs hw hP hD hS => ?_)
    subst hw
    have hP : PP G (mW G A (nI 1) (nI m) le dg f sl ik sv tx pl) H := hP
    have hD : va_D Ar (mW G A (nI 1) (nI m) le dg f sl ik sv tx pl) := hD
    refine lv_cgi (y := nI 0) (by decide) ?_
    refine lv_if_ne (tgt := 38) hx hb dX7_goBack_33 (by decide) (fun c_33 => ?_) (fun c_33 => ?_)
    · exact absurd c_33 (by decide)
    · refine lv_iconst (v := nI 0) hx hb dX7_goBack_36 (by decide) ?_
      exact wr_iret (S := Unit) (out := fun _ => mW G A (nI 1) (nI m) le dg f sl ik sv tx pl) () hx hb hr hlocks hP hD hS (Nat.le_of_ble_eq_true rfl) (Nat.le_of_ble_eq_true rfl) (by rfl) dX7_goBack_37

set_option maxHeartbeats 4000000 in
set_option maxRecDepth 100000 in
theorem c_X7_goBack_no2 (l : Launch) (G : GG) (sz : Nat) (A : Nat → Nat) (th le : Int32) (dg : Int64) (f sl ik sv tx pl : Nat → Int32) (m : Nat) (hm : m ≤ 6) (i : Nat) (hi : i < 2) (hik : ik i = nI 0) : WRi l yX7_goBack wsX7_goBack 2 G [.ref (A 0), .int (nI i)] (mW G A th (nI m) le dg f sl ik sv tx pl) sz (S := Unit) (fun r _ => r = nI 0) (fun _ => mW G A (nI 2) (nI m) le dg f sl ik sv tx pl) 0 0 := by
  refine wr_of (cc := cX7_goBack) (maxL := 4) (ret := (some .int)) (Qc := fun Ar => wQi G (S := Unit) (fun r _ => r = nI 0) (fun _ => mW G A (nI 2) (nI m) le dg f sl ik sv tx pl) Ar) (by decide) rfl (Nat.le_of_ble_eq_true rfl) ?_
  intro pG eG s mG below meth cG hsz hx hb hr hml hts hown hlocks hnm hP hK hN Ar hD hA hS ls hl
  have hown : s.vm.findClass RX7 = some mG.cls := hown
  have hP : PP G (mW G A th (nI m) le dg f sl ik sv tx pl) s.heap := hP
  have hD : va_D Ar (mW G A th (nI m) le dg f sl ik sv tx pl) := hD
  have hl : lv_has ls 4 [(0, .ref (A 0)), (1, .int (nI i))] := hl
  refine lv_iload_n hx hb dX7_goBack_0 rfl (lv_at hl 1 rfl) ?_
  refine lv_iconst (v := nI 0) hx hb dX7_goBack_1 (by decide) ?_
  refine lv_iconst (v := nI 1) hx hb dX7_goBack_2 (by decide) ?_
  refine rd_go (va_runS (As := [.int (nI i), .int (nI 0), .int (nI 1)]) (rest := []) ⟨hx, hb, hml, hown, hts⟩ (c_X7_in l G (nI i) (nI 0) (nI 1)) (va_cwS 3 hts gX7_goBack_X7_in rfl rfl rfl (by decide +kernel) ⟨Nat.le_of_ble_eq_true rfl, Nat.le_of_ble_eq_true rfl⟩) (rS (ws := []) hK hN P_nil) rfl rfl hl.1 rfl (lv_room (Nat.le_of_ble_eq_true rfl)) dX7_goBack_3 ⟨Nat.le_of_ble_eq_true rfl, Nat.le_of_ble_eq_true rfl⟩) ?_
  refine lv_cgi (y := nI 1) (b2T (inB_n (Nat.zero_le _) (by omega) (by omega))) ?_
  refine lv_istore_n (lv' := [(2, .int (nI 1)), (0, .ref (A 0)), (1, .int (nI i))]) hx hb dX7_goBack_6 rfl hl (by decide) rfl (fun ls hl => ?_)
  refine lv_aload_n hx hb dX7_goBack_7 rfl (lv_at hl 1 rfl) ?_
  refine lv_iload_n hx hb dX7_goBack_8 rfl (lv_at hl 0 rfl) ?_
  refine lv_if_ne (tgt := 16) hx hb dX7_goBack_9 (by decide) (fun c_9 => ?_) (fun c_9 => ?_)
  · refine lv_aload_n hx hb dX7_goBack_16 rfl (lv_at hl 1 rfl) ?_
    refine va_get (D := G.1) (ws := mW G A th (nI m) le dg f sl ik sv tx pl) (ci := 6) (v := .ref (A 3)) (C := RX7) (T := TX7) (N := 10) hx hb hts (fun _ h => List.mem_cons_of_mem _ (List.mem_append_right _ (h))) hown hK hP 0 rfl rfl 3 (by decide) (hts (.fieldLink RX7 16 "CreaseMapsModel" "isKept" "[Z") (List.mem_of_getElem? (i := 1) rfl)) (fun _ h9 => h9) rfl dX7_goBack_17 ?_
    refine lv_iload_n hx hb dX7_goBack_20 rfl (lv_at hl 2 rfl) ?_
    refine va_zald (D := G.1) (ws := mW G A th (nI m) le dg f sl ik sv tx pl) hx hb hK hP 3 1 (n := 2) rfl rfl (by first | assumption | exact vp_in_nI (by omega) (by omega)) dX7_goBack_21 ?_
    refine lv_cgi (y := ik i) (by rw [nI_clamp (by omega)]) ?_
    refine lv_cgi (y := nI 0) hik ?_
    refine lv_if_ne (tgt := 29) hx hb dX7_goBack_22 (by decide) (fun c_22 => ?_) (fun c_22 => ?_)
    · exact absurd c_22 (by decide)
    · refine lv_iconst (v := nI 2) hx hb dX7_goBack_25 (by decide) ?_
      refine lv_goto (tgt := 30) hx hb dX7_goBack_26 (by decide) ?_
      refine wr_goi (pre := []) (mid := mW G A th (nI m) le dg f sl ik sv tx pl) (suf := []) (va_runV (As := [.int (nI 2)]) (rest := []) ⟨hx, hb, hml, hown, hts⟩ (c_X7_holds l G _ A th (nI m) le dg f sl ik sv tx pl (nI 2)) (cwV 1 hts gX7_goBack_X7_holds rfl rfl rfl (by decide +kernel) ⟨Nat.le_of_ble_eq_true rfl, Nat.le_of_ble_eq_true rfl⟩) (wV (pre := []) (mid := mW G A th (nI m) le dg f sl ik sv tx pl) (suf := []) (va_recv (ws := mW G A th (nI m) le dg f sl ik sv tx pl) hK hP (ci := 6) (q0 := 0) rfl rfl) hK hN hP hD) rfl rfl hl.1 rfl (lv_room (Nat.le_of_ble_eq_true rfl)) dX7_goBack_30 ⟨Nat.le_of_ble_eq_true rfl, Nat.le_of_ble_eq_true rfl⟩) hP hD hS hA (fun r _ H locs hw hP hD hS => ?_)
      subst hw
      have hP : PP G (mW G A (nI 2) (nI m) le dg f sl ik sv tx pl) H := hP
      have hD : va_D Ar (mW G A (nI 2) (nI m) le dg f sl ik sv tx pl) := hD
      refine lv_cgi (y := nI 0) (by decide) ?_
      refine lv_if_ne (tgt := 38) hx hb dX7_goBack_33 (by decide) (fun c_33 => ?_) (fun c_33 => ?_)
      · exact absurd c_33 (by decide)
      · refine lv_iconst (v := nI 0) hx hb dX7_goBack_36 (by decide) ?_
        exact wr_iret (S := Unit) (out := fun _ => mW G A (nI 2) (nI m) le dg f sl ik sv tx pl) () hx hb hr hlocks hP hD hS (Nat.le_of_ble_eq_true rfl) (Nat.le_of_ble_eq_true rfl) (by rfl) dX7_goBack_37
  · exact absurd c_9 (by decide)

set_option maxHeartbeats 4000000 in
set_option maxRecDepth 100000 in
theorem c_X7_undo (l : Launch) (G : GG) (sz : Nat) (A : Nat → Nat) (th le : Int32) (dg : Int64) (f sl ik sv tx pl : Nat → Int32) (m : Nat) (hm : m ≤ 6) (hm1 : 1 ≤ m) : WRi l yX7_undo wsX7_undo 2 G [.ref (A 0)] (mW G A th (nI m) le dg f sl ik sv tx pl) sz (S := Unit) (fun r _ => r = nI (m - 1)) (fun _ => mW G A (nI 0) (nI (m - 1)) le dg (cp f 0 sv (58 * (m - 1)) 58) sl ik sv tx pl) 0 0 := by
  refine wr_of (cc := cX7_undo) (maxL := 2) (ret := (some .int)) (Qc := fun Ar => wQi G (S := Unit) (fun r _ => r = nI (m - 1)) (fun _ => mW G A (nI 0) (nI (m - 1)) le dg (cp f 0 sv (58 * (m - 1)) 58) sl ik sv tx pl) Ar) (by decide) rfl (Nat.le_of_ble_eq_true rfl) ?_
  intro pG eG s mG below meth cG hsz hx hb hr hml hts hown hlocks hnm hP hK hN Ar hD hA hS ls hl
  have hown : s.vm.findClass RX7 = some mG.cls := hown
  have hP : PP G (mW G A th (nI m) le dg f sl ik sv tx pl) s.heap := hP
  have hD : va_D Ar (mW G A th (nI m) le dg f sl ik sv tx pl) := hD
  have hl : lv_has ls 2 [(0, .ref (A 0))] := hl
  refine lv_aload_n hx hb dX7_undo_0 rfl (lv_at hl 0 rfl) ?_
  refine lv_aload_n hx hb dX7_undo_1 rfl (lv_at hl 0 rfl) ?_
  refine va_get (D := G.1) (ws := mW G A th (nI m) le dg f sl ik sv tx pl) (ci := 6) (v := .int (nI m)) (C := RX7) (T := TX7) (N := 10) hx hb hts (fun _ h => List.mem_cons_of_mem _ (List.mem_append_right _ (h))) hown hK hP 0 rfl rfl 5 (by decide) (hts (.fieldLink RX7 37 "CreaseMapsModel" "savedMany" "I") (List.mem_of_getElem? (i := 1) rfl)) (fun _ h9 => h9) rfl dX7_undo_2 ?_
  refine lv_if_le (tgt := 12) hx hb dX7_undo_5 (by decide) (fun c_5 => ?_) (fun c_5 => ?_)
  · exact absurd c_5 (nI_nle (by omega) (by omega))
  · refine lv_iconst (v := nI 0) hx hb dX7_undo_8 (by decide) ?_
    refine lv_goto (tgt := 13) hx hb dX7_undo_9 (by decide) ?_
    refine wr_goi (pre := []) (mid := mW G A th (nI m) le dg f sl ik sv tx pl) (suf := []) (va_runV (As := [.int (nI 0)]) (rest := []) ⟨hx, hb, hml, hown, hts⟩ (c_X7_holds l G _ A th (nI m) le dg f sl ik sv tx pl (nI 0)) (cwV 1 hts gX7_undo_X7_holds rfl rfl rfl (by decide +kernel) ⟨Nat.le_of_ble_eq_true rfl, Nat.le_of_ble_eq_true rfl⟩) (wV (pre := []) (mid := mW G A th (nI m) le dg f sl ik sv tx pl) (suf := []) (va_recv (ws := mW G A th (nI m) le dg f sl ik sv tx pl) hK hP (ci := 6) (q0 := 0) rfl rfl) hK hN hP hD) rfl rfl hl.1 rfl (lv_room (Nat.le_of_ble_eq_true rfl)) dX7_undo_13 ⟨Nat.le_of_ble_eq_true rfl, Nat.le_of_ble_eq_true rfl⟩) hP hD hS hA (fun r _ H locs hw hP hD hS => ?_)
    subst hw
    have hP : PP G (mW G A (nI 0) (nI m) le dg f sl ik sv tx pl) H := hP
    have hD : va_D Ar (mW G A (nI 0) (nI m) le dg f sl ik sv tx pl) := hD
    refine lv_cgi (y := nI 1) (by decide) ?_
    refine lv_if_ne (tgt := 21) hx hb dX7_undo_16 (by decide) (fun c_16 => ?_) (fun c_16 => ?_)
    · refine lv_aload_n hx hb dX7_undo_21 rfl (lv_at hl 0 rfl) ?_
      refine lv_dup hx hb dX7_undo_22 rfl ?_
      refine va_get (D := G.1) (ws := mW G A (nI 0) (nI m) le dg f sl ik sv tx pl) (ci := 6) (v := .int (nI m)) (C := RX7) (T := TX7) (N := 10) hx hb hts (fun _ h => List.mem_cons_of_mem _ (List.mem_append_right _ (h))) hown hK hP 0 rfl rfl 5 (by decide) (hts (.fieldLink RX7 37 "CreaseMapsModel" "savedMany" "I") (List.mem_of_getElem? (i := 1) rfl)) (fun _ h9 => h9) rfl dX7_undo_23 ?_
      refine lv_iconst (v := nI 1) hx hb dX7_undo_26 (by decide) ?_
      refine lv_isub hx hb dX7_undo_27 ?_
      refine lv_cgi (y := nI (m - 1)) (pk_sub (by omega)) ?_
      refine va_put (D := G.1) (ws := mW G A (nI 0) (nI m) le dg f sl ik sv tx pl) (ci := 6) (v := .int (nI (m - 1))) (ty := .int) (C := RX7) (T := TX7) (N := 10) hx hb hts (fun _ h => List.mem_cons_of_mem _ (List.mem_append_right _ (h))) tyX7 tyX7_ok nmX7 hown hK hP hD hS 0 rfl rfl 5 (by decide) (hts (.fieldLink RX7 37 "CreaseMapsModel" "savedMany" "I") (List.mem_of_getElem? (i := 1) rfl)) (fun _ h9 => h9) rfl (by decide +kernel) rfl rfl (Nat.le_of_ble_eq_true rfl) dX7_undo_28 (fun H locs hP hD hS => ?_)
      have hP : PP G (mW G A (nI 0) (nI (m - 1)) le dg f sl ik sv tx pl) H := hP
      have hD : va_D Ar (mW G A (nI 0) (nI (m - 1)) le dg f sl ik sv tx pl) := hD
      refine lv_iconst (v := nI 0) hx hb dX7_undo_31 (by decide) ?_
      refine lv_istore_n (lv' := [(1, .int (nI 0)), (0, .ref (A 0))]) hx hb dX7_undo_32 rfl hl (by decide) rfl (fun ls hl => ?_)
      have L33 : ∀ (fu : Nat) (k : Nat) (hk : k ≤ 58), 58 + 1 ≤ k + fu → ∀ (H : Heap) (locs : List Loc), PP G (mW G A (nI 0) (nI (m - 1)) le dg (cp f 0 sv (58 * (m - 1)) k) sl ik sv tx pl) H → va_D Ar (mW G A (nI 0) (nI (m - 1)) le dg (cp f 0 sv (58 * (m - 1)) k) sl ik sv tx pl) → va_S Ar s.heap H locs → ∀ ls : Array Slot, lv_has ls 2 [(0, .ref (A 0)), (1, .int (nI k))] → W pG l eG (RM 2 0 0) s mG ([.ref (A 0)] : List Value).toArray below meth cG H locs 0 0 (MQ below (wQi G (S := Unit) (fun r _ => r = nI (m - 1)) (fun _ => mW G A (nI 0) (nI (m - 1)) le dg (cp f 0 sv (58 * (m - 1)) 58) sl ik sv tx pl) Ar) ([.ref (A 0)] : List Value).toArray s 0 0 Ar) (F0 mG 33 ls []) := by
        intro fu
        induction fu with
        | zero => intro k hk hfu; exact absurd hfu (by omega)
        | succ fu ih =>
          intro k hk hfu H locs hP hD hS ls hl
          refine lv_iload_n hx hb dX7_undo_33 rfl (lv_at hl 1 rfl) ?_
          refine lv_bipush (v := nI 58) hx hb dX7_undo_34 (by decide) ?_
          refine lv_icmp_ge (tgt := 65) hx hb dX7_undo_36 (by decide) (fun c_36 => ?_) (fun c_36 => ?_)
          · have q1 : 58 ≤ k := fe c_36 (by omega) (by omega)
            refine lv_aload_n hx hb dX7_undo_65 rfl (lv_at hl 0 rfl) ?_
            refine va_get (D := G.1) (ws := mW G A (nI 0) (nI (m - 1)) le dg (cp f 0 sv (58 * (m - 1)) k) sl ik sv tx pl) (ci := 6) (v := .int (nI (m - 1))) (C := RX7) (T := TX7) (N := 10) hx hb hts (fun _ h => List.mem_cons_of_mem _ (List.mem_append_right _ (h))) hown hK hP 0 rfl rfl 5 (by decide) (hts (.fieldLink RX7 37 "CreaseMapsModel" "savedMany" "I") (List.mem_of_getElem? (i := 1) rfl)) (fun _ h9 => h9) rfl dX7_undo_66 ?_
            exact wr_iret (S := Unit) (out := fun _ => mW G A (nI 0) (nI (m - 1)) le dg (cp f 0 sv (58 * (m - 1)) 58) sl ik sv tx pl) () hx hb hr hlocks (PP_as hP (by rw [show k = 58 by omega])) (D_as hD (by rw [show k = 58 by omega])) hS (Nat.le_of_ble_eq_true rfl) (Nat.le_of_ble_eq_true rfl) (by rfl) dX7_undo_69
          · have q1 : k < 58 := fl c_36 (by omega) (by omega)
            refine lv_aload_n hx hb dX7_undo_39 rfl (lv_at hl 0 rfl) ?_
            refine va_get (D := G.1) (ws := mW G A (nI 0) (nI (m - 1)) le dg (cp f 0 sv (58 * (m - 1)) k) sl ik sv tx pl) (ci := 6) (v := .ref (A 1)) (C := RX7) (T := TX7) (N := 10) hx hb hts (fun _ h => List.mem_cons_of_mem _ (List.mem_append_right _ (h))) hown hK hP 0 rfl rfl 1 (by decide) (hts (.fieldLink RX7 7 "CreaseMapsModel" "s" "[I") (List.mem_of_getElem? (i := 2) rfl)) (fun _ h9 => h9) rfl dX7_undo_40 ?_
            refine lv_iload_n hx hb dX7_undo_43 rfl (lv_at hl 1 rfl) ?_
            refine lv_aload_n hx hb dX7_undo_44 rfl (lv_at hl 0 rfl) ?_
            refine va_get (D := G.1) (ws := mW G A (nI 0) (nI (m - 1)) le dg (cp f 0 sv (58 * (m - 1)) k) sl ik sv tx pl) (ci := 6) (v := .ref (A 4)) (C := RX7) (T := TX7) (N := 10) hx hb hts (fun _ h => List.mem_cons_of_mem _ (List.mem_append_right _ (h))) hown hK hP 0 rfl rfl 4 (by decide) (hts (.fieldLink RX7 20 "CreaseMapsModel" "saved" "[I") (List.mem_of_getElem? (i := 3) rfl)) (fun _ h9 => h9) rfl dX7_undo_45 ?_
            refine lv_bipush (v := nI 58) hx hb dX7_undo_48 (by decide) ?_
            refine lv_aload_n hx hb dX7_undo_50 rfl (lv_at hl 0 rfl) ?_
            refine va_get (D := G.1) (ws := mW G A (nI 0) (nI (m - 1)) le dg (cp f 0 sv (58 * (m - 1)) k) sl ik sv tx pl) (ci := 6) (v := .int (nI (m - 1))) (C := RX7) (T := TX7) (N := 10) hx hb hts (fun _ h => List.mem_cons_of_mem _ (List.mem_append_right _ (h))) hown hK hP 0 rfl rfl 5 (by decide) (hts (.fieldLink RX7 37 "CreaseMapsModel" "savedMany" "I") (List.mem_of_getElem? (i := 1) rfl)) (fun _ h9 => h9) rfl dX7_undo_51 ?_
            refine lv_imul hx hb dX7_undo_54 ?_
            refine lv_cgi (y := nI (58 * (m - 1))) (pk_mul _ _) ?_
            refine lv_iload_n hx hb dX7_undo_55 rfl (lv_at hl 1 rfl) ?_
            refine lv_iadd hx hb dX7_undo_56 ?_
            refine lv_cgi (y := nI ((58 * (m - 1)) + k)) (nI_add _ _) ?_
            refine va_iald (D := G.1) (ws := mW G A (nI 0) (nI (m - 1)) le dg (cp f 0 sv (58 * (m - 1)) k) sl ik sv tx pl) hx hb hK hP 4 0 (n := 348) rfl rfl (by first | assumption | exact vp_in_nI (by omega) (by omega)) dX7_undo_57 ?_
            refine lv_cgi (y := sv ((58 * (m - 1)) + k)) (by rw [nI_clamp (by omega)]) ?_
            refine va_iast (D := G.1) (ws := mW G A (nI 0) (nI (m - 1)) le dg (cp f 0 sv (58 * (m - 1)) k) sl ik sv tx pl) hx hb hK hP hD hS 1 0 (n := 58) rfl rfl (by first | assumption | exact vp_in_nI (by omega) (by omega)) dX7_undo_58 (fun H locs hP hD hS => ?_)
            rw [nI_clamp (by omega)] at hP hD
            have hP : PP G (mW G A (nI 0) (nI (m - 1)) le dg (upd (cp f 0 sv (58 * (m - 1)) k) k (sv ((58 * (m - 1)) + k))) sl ik sv tx pl) H := hP
            have hD : va_D Ar (mW G A (nI 0) (nI (m - 1)) le dg (upd (cp f 0 sv (58 * (m - 1)) k) k (sv ((58 * (m - 1)) + k))) sl ik sv tx pl) := hD
            refine lv_iinc (v := nI (k + 1)) (lv' := [(1, .int (nI (k + 1))), (0, .ref (A 0))]) hx hb dX7_undo_59 hl (k := 1) rfl (iincN k) (by decide) rfl (fun ls hl => ?_)
            refine lv_goto (tgt := 33) hx hb dX7_undo_62 (by decide) ?_
            exact ih (k + 1) (by omega) (by omega) _ _ (PP_as hP (by first | rw [cp_s0] | rw [cp_sb])) (D_as hD (by first | rw [cp_s0] | rw [cp_sb])) hS ls (lv_as (l1 := [(0, .ref (A 0)), (1, .int (nI (k + 1)))]) (lv_sub hl [1, 0] rfl) (by rfl))
      exact L33 59 0 (by omega) (by omega) _ _ (PP_as hP (by rw [cp_0])) (D_as hD (by rw [cp_0])) hS ls (lv_as (l1 := [(0, .ref (A 0)), (1, .int (nI 0))]) (lv_sub hl [1, 0] rfl) (by rfl))
    · exact absurd c_16 (by decide)

set_option maxHeartbeats 4000000 in
set_option maxRecDepth 100000 in
theorem c_X7_undo_no (l : Launch) (G : GG) (sz : Nat) (A : Nat → Nat) (th le : Int32) (dg : Int64) (f sl ik sv tx pl : Nat → Int32) (m : Nat) (hm : m ≤ 6) (hm0 : m = 0) : WRi l yX7_undo wsX7_undo 2 G [.ref (A 0)] (mW G A th (nI m) le dg f sl ik sv tx pl) sz (S := Unit) (fun r _ => r = nI 0) (fun _ => mW G A (nI 1) (nI m) le dg f sl ik sv tx pl) 0 0 := by
  refine wr_of (cc := cX7_undo) (maxL := 2) (ret := (some .int)) (Qc := fun Ar => wQi G (S := Unit) (fun r _ => r = nI 0) (fun _ => mW G A (nI 1) (nI m) le dg f sl ik sv tx pl) Ar) (by decide) rfl (Nat.le_of_ble_eq_true rfl) ?_
  intro pG eG s mG below meth cG hsz hx hb hr hml hts hown hlocks hnm hP hK hN Ar hD hA hS ls hl
  have hown : s.vm.findClass RX7 = some mG.cls := hown
  have hP : PP G (mW G A th (nI m) le dg f sl ik sv tx pl) s.heap := hP
  have hD : va_D Ar (mW G A th (nI m) le dg f sl ik sv tx pl) := hD
  have hl : lv_has ls 2 [(0, .ref (A 0))] := hl
  refine lv_aload_n hx hb dX7_undo_0 rfl (lv_at hl 0 rfl) ?_
  refine lv_aload_n hx hb dX7_undo_1 rfl (lv_at hl 0 rfl) ?_
  refine va_get (D := G.1) (ws := mW G A th (nI m) le dg f sl ik sv tx pl) (ci := 6) (v := .int (nI m)) (C := RX7) (T := TX7) (N := 10) hx hb hts (fun _ h => List.mem_cons_of_mem _ (List.mem_append_right _ (h))) hown hK hP 0 rfl rfl 5 (by decide) (hts (.fieldLink RX7 37 "CreaseMapsModel" "savedMany" "I") (List.mem_of_getElem? (i := 1) rfl)) (fun _ h9 => h9) rfl dX7_undo_2 ?_
  refine lv_if_le (tgt := 12) hx hb dX7_undo_5 (by decide) (fun c_5 => ?_) (fun c_5 => ?_)
  · refine lv_iconst (v := nI 1) hx hb dX7_undo_12 (by decide) ?_
    refine wr_goi (pre := []) (mid := mW G A th (nI m) le dg f sl ik sv tx pl) (suf := []) (va_runV (As := [.int (nI 1)]) (rest := []) ⟨hx, hb, hml, hown, hts⟩ (c_X7_holds l G _ A th (nI m) le dg f sl ik sv tx pl (nI 1)) (cwV 1 hts gX7_undo_X7_holds rfl rfl rfl (by decide +kernel) ⟨Nat.le_of_ble_eq_true rfl, Nat.le_of_ble_eq_true rfl⟩) (wV (pre := []) (mid := mW G A th (nI m) le dg f sl ik sv tx pl) (suf := []) (va_recv (ws := mW G A th (nI m) le dg f sl ik sv tx pl) hK hP (ci := 6) (q0 := 0) rfl rfl) hK hN hP hD) rfl rfl hl.1 rfl (lv_room (Nat.le_of_ble_eq_true rfl)) dX7_undo_13 ⟨Nat.le_of_ble_eq_true rfl, Nat.le_of_ble_eq_true rfl⟩) hP hD hS hA (fun r _ H locs hw hP hD hS => ?_)
    subst hw
    have hP : PP G (mW G A (nI 1) (nI m) le dg f sl ik sv tx pl) H := hP
    have hD : va_D Ar (mW G A (nI 1) (nI m) le dg f sl ik sv tx pl) := hD
    refine lv_cgi (y := nI 0) (by decide) ?_
    refine lv_if_ne (tgt := 21) hx hb dX7_undo_16 (by decide) (fun c_16 => ?_) (fun c_16 => ?_)
    · exact absurd c_16 (by decide)
    · refine lv_iconst (v := nI 0) hx hb dX7_undo_19 (by decide) ?_
      exact wr_iret (S := Unit) (out := fun _ => mW G A (nI 1) (nI m) le dg f sl ik sv tx pl) () hx hb hr hlocks hP hD hS (Nat.le_of_ble_eq_true rfl) (Nat.le_of_ble_eq_true rfl) (by rfl) dX7_undo_20
  · exact absurd (by rw [hm0]; decide) c_5

set_option maxHeartbeats 4000000 in
set_option maxRecDepth 100000 in
theorem c_X6_bit (l : Launch) (G : GG) (x k : Int32) : RD l yX6_bit wsX6_bit 1 G [.int x, .int k] (([] : va_W)) (some (.int (bI x k))) := by
  refine rd_of (cc := cX6_bit) (maxL := 2) (ret := (some .int)) (by decide) rfl (Nat.le_of_ble_eq_true rfl) ?_
  intro pG eG s mG below meth cG hx hb hr hml hts hown hlocks hP hK hN ls hl
  have hown : s.vm.findClass RX6 = some mG.cls := hown
  have hl : lv_has ls 2 [(0, .int x), (1, .int k)] := hl
  refine lv_iload_n hx hb dX6_bit_0 rfl (lv_at hl 0 rfl) ?_
  refine lv_iload_n hx hb dX6_bit_1 rfl (lv_at hl 1 rfl) ?_
  refine lv_ishr hx hb dX6_bit_2 ?_
  refine lv_iconst (v := nI 1) hx hb dX6_bit_3 (by decide) ?_
  refine lv_iand hx hb dX6_bit_4 ?_
  exact rd_iret hx hb hr hlocks (by rfl) dX6_bit_5

set_option maxHeartbeats 4000000 in
set_option maxRecDepth 100000 in
theorem c_X6_has (l : Launch) (G : GG) (x k : Int32) : RD l yX6_has wsX6_has 2 G [.int x, .int k] (([] : va_W)) (some (.int (b2 (decide (bI x k = nI 1))))) := by
  refine rd_of (cc := cX6_has) (maxL := 2) (ret := (some .boolean)) (by decide) rfl (Nat.le_of_ble_eq_true rfl) ?_
  intro pG eG s mG below meth cG hx hb hr hml hts hown hlocks hP hK hN ls hl
  have hown : s.vm.findClass RX6 = some mG.cls := hown
  have hl : lv_has ls 2 [(0, .int x), (1, .int k)] := hl
  refine lv_iload_n hx hb dX6_has_0 rfl (lv_at hl 0 rfl) ?_
  refine lv_iload_n hx hb dX6_has_1 rfl (lv_at hl 1 rfl) ?_
  refine rd_go (va_runS (As := [.int x, .int k]) (rest := []) ⟨hx, hb, hml, hown, hts⟩ (c_X6_bit l G x k) (va_cwS 2 hts gX6_has_X6_bit rfl rfl rfl (by decide +kernel) ⟨Nat.le_of_ble_eq_true rfl, Nat.le_of_ble_eq_true rfl⟩) (rS (ws := []) hK hN P_nil) rfl rfl hl.1 rfl (lv_room (Nat.le_of_ble_eq_true rfl)) dX6_has_2 ⟨Nat.le_of_ble_eq_true rfl, Nat.le_of_ble_eq_true rfl⟩) ?_
  refine lv_iconst (v := nI 1) hx hb dX6_has_5 (by decide) ?_
  refine lv_icmp_ne (tgt := 13) hx hb dX6_has_6 (by decide) (fun c_6 => ?_) (fun c_6 => ?_)
  · refine lv_iconst (v := nI 0) hx hb dX6_has_13 (by decide) ?_
    exact rd_zret hx hb hr hlocks (by first | decide | exact b2_nar _) (by exact b2q c_6) dX6_has_14
  · refine lv_iconst (v := nI 1) hx hb dX6_has_9 (by decide) ?_
    refine lv_goto (tgt := 14) hx hb dX6_has_10 (by decide) ?_
    exact rd_zret hx hb hr hlocks (by first | decide | exact b2_nar _) (by exact b2p c_6) dX6_has_14

set_option maxHeartbeats 4000000 in
set_option maxRecDepth 100000 in
theorem c_J6_bitCount_0f7a4 (l : Launch) (G : GG) (x : Int32) : RD l yJ6_bitCount_0f7a4 wsJ6_bitCount_0f7a4 1 G [.int x] (([] : va_W)) (some (.int (bcn x))) := by
  refine rd_of (cc := cJ6_bitCount_0f7a4) (maxL := 1) (ret := (some .int)) (by decide) rfl (Nat.le_of_ble_eq_true rfl) ?_
  intro pG eG s mG below meth cG hx hb hr hml hts hown hlocks hP hK hN ls hl
  have hown : s.vm.findClass RJ6 = some mG.cls := hown
  have hl : lv_has ls 1 [(0, .int x)] := hl
  refine lv_iload_n hx hb dJ6_bitCount_0f7a4_0 rfl (lv_at hl 0 rfl) ?_
  refine lv_iload_n hx hb dJ6_bitCount_0f7a4_1 rfl (lv_at hl 0 rfl) ?_
  refine lv_iconst (v := nI 1) hx hb dJ6_bitCount_0f7a4_2 (by decide) ?_
  refine lv_iushr (v := us x (nI 1)) hx hb dJ6_bitCount_0f7a4_3 rfl ?_
  refine lv_ldcw hx hb hown (hts (.constant RJ6 265 (1431655765)) (List.mem_of_getElem? (i := 1) rfl)) dJ6_bitCount_0f7a4_4 ?_
  refine lv_iand hx hb dJ6_bitCount_0f7a4_7 ?_
  refine lv_isub hx hb dJ6_bitCount_0f7a4_8 ?_
  refine lv_istore_n (lv' := [(0, .int (x - ((us x (nI 1)) &&& (1431655765))))]) hx hb dJ6_bitCount_0f7a4_9 rfl hl (by decide) rfl (fun ls hl => ?_)
  refine lv_iload_n hx hb dJ6_bitCount_0f7a4_10 rfl (lv_at hl 0 rfl) ?_
  refine lv_ldcw hx hb hown (hts (.constant RJ6 266 (858993459)) (List.mem_of_getElem? (i := 2) rfl)) dJ6_bitCount_0f7a4_11 ?_
  refine lv_iand hx hb dJ6_bitCount_0f7a4_14 ?_
  refine lv_iload_n hx hb dJ6_bitCount_0f7a4_15 rfl (lv_at hl 0 rfl) ?_
  refine lv_iconst (v := nI 2) hx hb dJ6_bitCount_0f7a4_16 (by decide) ?_
  refine lv_iushr (v := us (x - ((us x (nI 1)) &&& (1431655765))) (nI 2)) hx hb dJ6_bitCount_0f7a4_17 rfl ?_
  refine lv_ldcw hx hb hown (hts (.constant RJ6 266 (858993459)) (List.mem_of_getElem? (i := 2) rfl)) dJ6_bitCount_0f7a4_18 ?_
  refine lv_iand hx hb dJ6_bitCount_0f7a4_21 ?_
  refine lv_iadd hx hb dJ6_bitCount_0f7a4_22 ?_
  refine lv_istore_n (lv' := [(0, .int (((x - ((us x (nI 1)) &&& (1431655765))) &&& (858993459)) + ((us (x - ((us x (nI 1)) &&& (1431655765))) (nI 2)) &&& (858993459))))]) hx hb dJ6_bitCount_0f7a4_23 rfl hl (by decide) rfl (fun ls hl => ?_)
  refine lv_iload_n hx hb dJ6_bitCount_0f7a4_24 rfl (lv_at hl 0 rfl) ?_
  refine lv_iload_n hx hb dJ6_bitCount_0f7a4_25 rfl (lv_at hl 0 rfl) ?_
  refine lv_iconst (v := nI 4) hx hb dJ6_bitCount_0f7a4_26 (by decide) ?_
  refine lv_iushr (v := us (((x - ((us x (nI 1)) &&& (1431655765))) &&& (858993459)) + ((us (x - ((us x (nI 1)) &&& (1431655765))) (nI 2)) &&& (858993459))) (nI 4)) hx hb dJ6_bitCount_0f7a4_27 rfl ?_
  refine lv_iadd hx hb dJ6_bitCount_0f7a4_28 ?_
  refine lv_ldcw hx hb hown (hts (.constant RJ6 267 (252645135)) (List.mem_of_getElem? (i := 3) rfl)) dJ6_bitCount_0f7a4_29 ?_
  refine lv_iand hx hb dJ6_bitCount_0f7a4_32 ?_
  refine lv_istore_n (lv' := [(0, .int (((((x - ((us x (nI 1)) &&& (1431655765))) &&& (858993459)) + ((us (x - ((us x (nI 1)) &&& (1431655765))) (nI 2)) &&& (858993459))) + (us (((x - ((us x (nI 1)) &&& (1431655765))) &&& (858993459)) + ((us (x - ((us x (nI 1)) &&& (1431655765))) (nI 2)) &&& (858993459))) (nI 4))) &&& (252645135)))]) hx hb dJ6_bitCount_0f7a4_33 rfl hl (by decide) rfl (fun ls hl => ?_)
  refine lv_iload_n hx hb dJ6_bitCount_0f7a4_34 rfl (lv_at hl 0 rfl) ?_
  refine lv_iload_n hx hb dJ6_bitCount_0f7a4_35 rfl (lv_at hl 0 rfl) ?_
  refine lv_bipush (v := nI 8) hx hb dJ6_bitCount_0f7a4_36 (by decide) ?_
  refine lv_iushr (v := us (((((x - ((us x (nI 1)) &&& (1431655765))) &&& (858993459)) + ((us (x - ((us x (nI 1)) &&& (1431655765))) (nI 2)) &&& (858993459))) + (us (((x - ((us x (nI 1)) &&& (1431655765))) &&& (858993459)) + ((us (x - ((us x (nI 1)) &&& (1431655765))) (nI 2)) &&& (858993459))) (nI 4))) &&& (252645135)) (nI 8)) hx hb dJ6_bitCount_0f7a4_38 rfl ?_
  refine lv_iadd hx hb dJ6_bitCount_0f7a4_39 ?_
  refine lv_istore_n (lv' := [(0, .int ((((((x - ((us x (nI 1)) &&& (1431655765))) &&& (858993459)) + ((us (x - ((us x (nI 1)) &&& (1431655765))) (nI 2)) &&& (858993459))) + (us (((x - ((us x (nI 1)) &&& (1431655765))) &&& (858993459)) + ((us (x - ((us x (nI 1)) &&& (1431655765))) (nI 2)) &&& (858993459))) (nI 4))) &&& (252645135)) + (us (((((x - ((us x (nI 1)) &&& (1431655765))) &&& (858993459)) + ((us (x - ((us x (nI 1)) &&& (1431655765))) (nI 2)) &&& (858993459))) + (us (((x - ((us x (nI 1)) &&& (1431655765))) &&& (858993459)) + ((us (x - ((us x (nI 1)) &&& (1431655765))) (nI 2)) &&& (858993459))) (nI 4))) &&& (252645135)) (nI 8))))]) hx hb dJ6_bitCount_0f7a4_40 rfl hl (by decide) rfl (fun ls hl => ?_)
  refine lv_iload_n hx hb dJ6_bitCount_0f7a4_41 rfl (lv_at hl 0 rfl) ?_
  refine lv_iload_n hx hb dJ6_bitCount_0f7a4_42 rfl (lv_at hl 0 rfl) ?_
  refine lv_bipush (v := nI 16) hx hb dJ6_bitCount_0f7a4_43 (by decide) ?_
  refine lv_iushr (v := us ((((((x - ((us x (nI 1)) &&& (1431655765))) &&& (858993459)) + ((us (x - ((us x (nI 1)) &&& (1431655765))) (nI 2)) &&& (858993459))) + (us (((x - ((us x (nI 1)) &&& (1431655765))) &&& (858993459)) + ((us (x - ((us x (nI 1)) &&& (1431655765))) (nI 2)) &&& (858993459))) (nI 4))) &&& (252645135)) + (us (((((x - ((us x (nI 1)) &&& (1431655765))) &&& (858993459)) + ((us (x - ((us x (nI 1)) &&& (1431655765))) (nI 2)) &&& (858993459))) + (us (((x - ((us x (nI 1)) &&& (1431655765))) &&& (858993459)) + ((us (x - ((us x (nI 1)) &&& (1431655765))) (nI 2)) &&& (858993459))) (nI 4))) &&& (252645135)) (nI 8))) (nI 16)) hx hb dJ6_bitCount_0f7a4_45 rfl ?_
  refine lv_iadd hx hb dJ6_bitCount_0f7a4_46 ?_
  refine lv_istore_n (lv' := [(0, .int (((((((x - ((us x (nI 1)) &&& (1431655765))) &&& (858993459)) + ((us (x - ((us x (nI 1)) &&& (1431655765))) (nI 2)) &&& (858993459))) + (us (((x - ((us x (nI 1)) &&& (1431655765))) &&& (858993459)) + ((us (x - ((us x (nI 1)) &&& (1431655765))) (nI 2)) &&& (858993459))) (nI 4))) &&& (252645135)) + (us (((((x - ((us x (nI 1)) &&& (1431655765))) &&& (858993459)) + ((us (x - ((us x (nI 1)) &&& (1431655765))) (nI 2)) &&& (858993459))) + (us (((x - ((us x (nI 1)) &&& (1431655765))) &&& (858993459)) + ((us (x - ((us x (nI 1)) &&& (1431655765))) (nI 2)) &&& (858993459))) (nI 4))) &&& (252645135)) (nI 8))) + (us ((((((x - ((us x (nI 1)) &&& (1431655765))) &&& (858993459)) + ((us (x - ((us x (nI 1)) &&& (1431655765))) (nI 2)) &&& (858993459))) + (us (((x - ((us x (nI 1)) &&& (1431655765))) &&& (858993459)) + ((us (x - ((us x (nI 1)) &&& (1431655765))) (nI 2)) &&& (858993459))) (nI 4))) &&& (252645135)) + (us (((((x - ((us x (nI 1)) &&& (1431655765))) &&& (858993459)) + ((us (x - ((us x (nI 1)) &&& (1431655765))) (nI 2)) &&& (858993459))) + (us (((x - ((us x (nI 1)) &&& (1431655765))) &&& (858993459)) + ((us (x - ((us x (nI 1)) &&& (1431655765))) (nI 2)) &&& (858993459))) (nI 4))) &&& (252645135)) (nI 8))) (nI 16))))]) hx hb dJ6_bitCount_0f7a4_47 rfl hl (by decide) rfl (fun ls hl => ?_)
  refine lv_iload_n hx hb dJ6_bitCount_0f7a4_48 rfl (lv_at hl 0 rfl) ?_
  refine lv_bipush (v := nI 63) hx hb dJ6_bitCount_0f7a4_49 (by decide) ?_
  refine lv_iand hx hb dJ6_bitCount_0f7a4_51 ?_
  exact rd_iret hx hb hr hlocks (by rfl) dJ6_bitCount_0f7a4_52

set_option maxHeartbeats 4000000 in
set_option maxRecDepth 100000 in
theorem c_X0_clear (l : Launch) (G : GG) (sz : Nat) (a : Nat → Nat) (lo hi me : Nat → Int32) (n : Int32) : WRv l yX0_clear wsX0_clear 1 G [.ref (a 3)] (anW G a lo hi me n) sz (S := Unit) (fun _ => True) (fun _ => anW G a lo hi me (nI 0)) 0 0 := by
  refine wr_of (cc := cX0_clear) (maxL := 1) (ret := none) (Qc := fun Ar => wQv G (S := Unit) (fun _ => True) (fun _ => anW G a lo hi me (nI 0)) Ar) (by decide) rfl (Nat.le_of_ble_eq_true rfl) ?_
  intro pG eG s mG below meth cG hsz hx hb hr hml hts hown hlocks hnm hP hK hN Ar hD hA hS ls hl
  have hown : s.vm.findClass RX0 = some mG.cls := hown
  have hP : PP G (anW G a lo hi me n) s.heap := hP
  have hD : va_D Ar (anW G a lo hi me n) := hD
  have hl : lv_has ls 1 [(0, .ref (a 3))] := hl
  refine lv_aload_n hx hb dX0_clear_0 rfl (lv_at hl 0 rfl) ?_
  refine lv_iconst (v := nI 0) hx hb dX0_clear_1 (by decide) ?_
  refine va_put (D := G.1) (ws := anW G a lo hi me n) (ci := 0) (v := .int (nI 0)) (ty := .int) (C := RX0) (T := TX0) (N := 4) hx hb hts (fun _ h => List.mem_cons_of_mem _ (List.mem_append_right _ (h))) tyX0 tyX0_ok nmX0 hown hK hP hD hS 0 rfl rfl 3 (by decide) (hts (.fieldLink RX0 21 "CreaseMaps$Answers" "size" "I") (List.mem_of_getElem? (i := 1) rfl)) (fun _ h9 => h9) rfl (by decide +kernel) rfl rfl (Nat.le_of_ble_eq_true rfl) dX0_clear_2 (fun H locs hP hD hS => ?_)
  have hP : PP G (anW G a lo hi me (nI 0)) H := hP
  have hD : va_D Ar (anW G a lo hi me (nI 0)) := hD
  exact wr_vret (S := Unit) (out := fun _ => anW G a lo hi me (nI 0)) () hx hb hr hlocks hP hD hS (Nat.le_of_ble_eq_true rfl) (Nat.le_of_ble_eq_true rfl) (by trivial) dX0_clear_5

set_option maxHeartbeats 4000000 in
set_option maxRecDepth 100000 in
theorem c_X0_add (l : Launch) (G : GG) (sz : Nat) (a : Nat → Nat) (lo hi me : Nat → Int32) (n : Nat) (hn : n < 12) (x y v : Int32) : WRv l yX0_add wsX0_add 2 G [.ref (a 3), .int x, .int y, .int v] (anW G a lo hi me (nI n)) sz (S := Unit) (fun _ => True) (fun _ => anW G a (upd lo n (mnI x y)) (upd hi n (mxI x y)) (upd me n v) (nI (n + 1))) 0 0 := by
  refine wr_of (cc := cX0_add) (maxL := 4) (ret := none) (Qc := fun Ar => wQv G (S := Unit) (fun _ => True) (fun _ => anW G a (upd lo n (mnI x y)) (upd hi n (mxI x y)) (upd me n v) (nI (n + 1))) Ar) (by decide) rfl (Nat.le_of_ble_eq_true rfl) ?_
  intro pG eG s mG below meth cG hsz hx hb hr hml hts hown hlocks hnm hP hK hN Ar hD hA hS ls hl
  have hown : s.vm.findClass RX0 = some mG.cls := hown
  have hP : PP G (anW G a lo hi me (nI n)) s.heap := hP
  have hD : va_D Ar (anW G a lo hi me (nI n)) := hD
  have hl : lv_has ls 4 [(0, .ref (a 3)), (1, .int x), (2, .int y), (3, .int v)] := hl
  refine lv_aload_n hx hb dX0_add_0 rfl (lv_at hl 0 rfl) ?_
  refine va_get (D := G.1) (ws := anW G a lo hi me (nI n)) (ci := 0) (v := .int (nI n)) (C := RX0) (T := TX0) (N := 4) hx hb hts (fun _ h => List.mem_cons_of_mem _ (List.mem_append_right _ (h))) hown hK hP 0 rfl rfl 3 (by decide) (hts (.fieldLink RX0 21 "CreaseMaps$Answers" "size" "I") (List.mem_of_getElem? (i := 1) rfl)) (fun _ h9 => h9) rfl dX0_add_1 ?_
  refine lv_if_lt (tgt := 16) hx hb dX0_add_4 (by decide) (fun c_4 => ?_) (fun c_4 => ?_)
  · exact absurd c_4 (nI_pos (by omega))
  · refine lv_aload_n hx hb dX0_add_7 rfl (lv_at hl 0 rfl) ?_
    refine va_get (D := G.1) (ws := anW G a lo hi me (nI n)) (ci := 0) (v := .int (nI n)) (C := RX0) (T := TX0) (N := 4) hx hb hts (fun _ h => List.mem_cons_of_mem _ (List.mem_append_right _ (h))) hown hK hP 0 rfl rfl 3 (by decide) (hts (.fieldLink RX0 21 "CreaseMaps$Answers" "size" "I") (List.mem_of_getElem? (i := 1) rfl)) (fun _ h9 => h9) rfl dX0_add_8 ?_
    refine lv_bipush (v := nI 12) hx hb dX0_add_11 (by decide) ?_
    refine lv_icmp_lt (tgt := 17) hx hb dX0_add_13 (by decide) (fun c_13 => ?_) (fun c_13 => ?_)
    · refine lv_aload_n hx hb dX0_add_17 rfl (lv_at hl 0 rfl) ?_
      refine va_get (D := G.1) (ws := anW G a lo hi me (nI n)) (ci := 0) (v := .ref (a 4)) (C := RX0) (T := TX0) (N := 4) hx hb hts (fun _ h => List.mem_cons_of_mem _ (List.mem_append_right _ (h))) hown hK hP 0 rfl rfl 0 (by decide) (hts (.fieldLink RX0 9 "CreaseMaps$Answers" "lows" "[I") (List.mem_of_getElem? (i := 2) rfl)) (fun _ h9 => h9) rfl dX0_add_18 ?_
      refine lv_aload_n hx hb dX0_add_21 rfl (lv_at hl 0 rfl) ?_
      refine va_get (D := G.1) (ws := anW G a lo hi me (nI n)) (ci := 0) (v := .int (nI n)) (C := RX0) (T := TX0) (N := 4) hx hb hts (fun _ h => List.mem_cons_of_mem _ (List.mem_append_right _ (h))) hown hK hP 0 rfl rfl 3 (by decide) (hts (.fieldLink RX0 21 "CreaseMaps$Answers" "size" "I") (List.mem_of_getElem? (i := 1) rfl)) (fun _ h9 => h9) rfl dX0_add_22 ?_
      refine lv_iload_n hx hb dX0_add_25 rfl (lv_at hl 1 rfl) ?_
      refine lv_iload_n hx hb dX0_add_26 rfl (lv_at hl 2 rfl) ?_
      refine va_mmin hx hb (hml.trans hl.1.symm) hown (hts (.methodLink RX0 25 Lib.Math.min.name) (List.mem_of_getElem? (i := 3) rfl)) (hts (.static Lib.Math.min.name) (List.mem_of_getElem? (i := 4) rfl)) (hts (.initialized "java/lang/Math") (List.mem_of_getElem? (i := 5) rfl)) (hts (.code Lib.Math.min.name Lib.Math.min.code 2 (some .int)) (List.mem_of_getElem? (i := 6) rfl)) (Nat.le_of_ble_eq_true rfl) (Nat.le_of_ble_eq_true rfl) (Nat.le_of_ble_eq_true rfl) (Nat.le_of_ble_eq_true rfl) dX0_add_27 ?_
      refine lv_cgi (y := mnI x y) rfl ?_
      refine va_iast (D := G.1) (ws := anW G a lo hi me (nI n)) hx hb hK hP hD hS 1 0 (n := 12) rfl rfl (by first | assumption | exact vp_in_nI (by omega) (by omega)) dX0_add_30 (fun H locs hP hD hS => ?_)
      rw [nI_clamp (by omega)] at hP hD
      have hP : PP G (anW G a (upd lo n (mnI x y)) hi me (nI n)) H := hP
      have hD : va_D Ar (anW G a (upd lo n (mnI x y)) hi me (nI n)) := hD
      refine lv_aload_n hx hb dX0_add_31 rfl (lv_at hl 0 rfl) ?_
      refine va_get (D := G.1) (ws := anW G a (upd lo n (mnI x y)) hi me (nI n)) (ci := 0) (v := .ref (a 5)) (C := RX0) (T := TX0) (N := 4) hx hb hts (fun _ h => List.mem_cons_of_mem _ (List.mem_append_right _ (h))) hown hK hP 0 rfl rfl 1 (by decide) (hts (.fieldLink RX0 15 "CreaseMaps$Answers" "highs" "[I") (List.mem_of_getElem? (i := 7) rfl)) (fun _ h9 => h9) rfl dX0_add_32 ?_
      refine lv_aload_n hx hb dX0_add_35 rfl (lv_at hl 0 rfl) ?_
      refine va_get (D := G.1) (ws := anW G a (upd lo n (mnI x y)) hi me (nI n)) (ci := 0) (v := .int (nI n)) (C := RX0) (T := TX0) (N := 4) hx hb hts (fun _ h => List.mem_cons_of_mem _ (List.mem_append_right _ (h))) hown hK hP 0 rfl rfl 3 (by decide) (hts (.fieldLink RX0 21 "CreaseMaps$Answers" "size" "I") (List.mem_of_getElem? (i := 1) rfl)) (fun _ h9 => h9) rfl dX0_add_36 ?_
      refine lv_iload_n hx hb dX0_add_39 rfl (lv_at hl 1 rfl) ?_
      refine lv_iload_n hx hb dX0_add_40 rfl (lv_at hl 2 rfl) ?_
      refine va_mmax hx hb (hml.trans hl.1.symm) hown (hts (.methodLink RX0 31 Lib.Math.max.name) (List.mem_of_getElem? (i := 8) rfl)) (hts (.static Lib.Math.max.name) (List.mem_of_getElem? (i := 9) rfl)) (hts (.initialized "java/lang/Math") (List.mem_of_getElem? (i := 5) rfl)) (hts (.code Lib.Math.max.name Lib.Math.max.code 2 (some .int)) (List.mem_of_getElem? (i := 10) rfl)) (Nat.le_of_ble_eq_true rfl) (Nat.le_of_ble_eq_true rfl) (Nat.le_of_ble_eq_true rfl) (Nat.le_of_ble_eq_true rfl) dX0_add_41 ?_
      refine lv_cgi (y := mxI x y) rfl ?_
      refine va_iast (D := G.1) (ws := anW G a (upd lo n (mnI x y)) hi me (nI n)) hx hb hK hP hD hS 2 0 (n := 12) rfl rfl (by first | assumption | exact vp_in_nI (by omega) (by omega)) dX0_add_44 (fun H locs hP hD hS => ?_)
      rw [nI_clamp (by omega)] at hP hD
      have hP : PP G (anW G a (upd lo n (mnI x y)) (upd hi n (mxI x y)) me (nI n)) H := hP
      have hD : va_D Ar (anW G a (upd lo n (mnI x y)) (upd hi n (mxI x y)) me (nI n)) := hD
      refine lv_aload_n hx hb dX0_add_45 rfl (lv_at hl 0 rfl) ?_
      refine va_get (D := G.1) (ws := anW G a (upd lo n (mnI x y)) (upd hi n (mxI x y)) me (nI n)) (ci := 0) (v := .ref (a 6)) (C := RX0) (T := TX0) (N := 4) hx hb hts (fun _ h => List.mem_cons_of_mem _ (List.mem_append_right _ (h))) hown hK hP 0 rfl rfl 2 (by decide) (hts (.fieldLink RX0 18 "CreaseMaps$Answers" "meetings" "[I") (List.mem_of_getElem? (i := 11) rfl)) (fun _ h9 => h9) rfl dX0_add_46 ?_
      refine lv_aload_n hx hb dX0_add_49 rfl (lv_at hl 0 rfl) ?_
      refine va_get (D := G.1) (ws := anW G a (upd lo n (mnI x y)) (upd hi n (mxI x y)) me (nI n)) (ci := 0) (v := .int (nI n)) (C := RX0) (T := TX0) (N := 4) hx hb hts (fun _ h => List.mem_cons_of_mem _ (List.mem_append_right _ (h))) hown hK hP 0 rfl rfl 3 (by decide) (hts (.fieldLink RX0 21 "CreaseMaps$Answers" "size" "I") (List.mem_of_getElem? (i := 1) rfl)) (fun _ h9 => h9) rfl dX0_add_50 ?_
      refine lv_iload_n hx hb dX0_add_53 rfl (lv_at hl 3 rfl) ?_
      refine va_iast (D := G.1) (ws := anW G a (upd lo n (mnI x y)) (upd hi n (mxI x y)) me (nI n)) hx hb hK hP hD hS 3 0 (n := 12) rfl rfl (by first | assumption | exact vp_in_nI (by omega) (by omega)) dX0_add_54 (fun H locs hP hD hS => ?_)
      rw [nI_clamp (by omega)] at hP hD
      have hP : PP G (anW G a (upd lo n (mnI x y)) (upd hi n (mxI x y)) (upd me n v) (nI n)) H := hP
      have hD : va_D Ar (anW G a (upd lo n (mnI x y)) (upd hi n (mxI x y)) (upd me n v) (nI n)) := hD
      refine lv_aload_n hx hb dX0_add_55 rfl (lv_at hl 0 rfl) ?_
      refine lv_dup hx hb dX0_add_56 rfl ?_
      refine va_get (D := G.1) (ws := anW G a (upd lo n (mnI x y)) (upd hi n (mxI x y)) (upd me n v) (nI n)) (ci := 0) (v := .int (nI n)) (C := RX0) (T := TX0) (N := 4) hx hb hts (fun _ h => List.mem_cons_of_mem _ (List.mem_append_right _ (h))) hown hK hP 0 rfl rfl 3 (by decide) (hts (.fieldLink RX0 21 "CreaseMaps$Answers" "size" "I") (List.mem_of_getElem? (i := 1) rfl)) (fun _ h9 => h9) rfl dX0_add_57 ?_
      refine lv_iconst (v := nI 1) hx hb dX0_add_60 (by decide) ?_
      refine lv_iadd hx hb dX0_add_61 ?_
      refine lv_cgi (y := nI (n + 1)) (nI_add _ _) ?_
      refine va_put (D := G.1) (ws := anW G a (upd lo n (mnI x y)) (upd hi n (mxI x y)) (upd me n v) (nI n)) (ci := 0) (v := .int (nI (n + 1))) (ty := .int) (C := RX0) (T := TX0) (N := 4) hx hb hts (fun _ h => List.mem_cons_of_mem _ (List.mem_append_right _ (h))) tyX0 tyX0_ok nmX0 hown hK hP hD hS 0 rfl rfl 3 (by decide) (hts (.fieldLink RX0 21 "CreaseMaps$Answers" "size" "I") (List.mem_of_getElem? (i := 1) rfl)) (fun _ h9 => h9) rfl (by decide +kernel) rfl rfl (Nat.le_of_ble_eq_true rfl) dX0_add_62 (fun H locs hP hD hS => ?_)
      have hP : PP G (anW G a (upd lo n (mnI x y)) (upd hi n (mxI x y)) (upd me n v) (nI (n + 1))) H := hP
      have hD : va_D Ar (anW G a (upd lo n (mnI x y)) (upd hi n (mxI x y)) (upd me n v) (nI (n + 1))) := hD
      exact wr_vret (S := Unit) (out := fun _ => anW G a (upd lo n (mnI x y)) (upd hi n (mxI x y)) (upd me n v) (nI (n + 1))) () hx hb hr hlocks hP hD hS (Nat.le_of_ble_eq_true rfl) (Nat.le_of_ble_eq_true rfl) (by trivial) dX0_add_65
    · exact absurd (nI_lt hn (by omega)) c_13

set_option maxHeartbeats 4000000 in
set_option maxRecDepth 100000 in
theorem c_X0_about (l : Launch) (G : GG) (a : Nat → Nat) (lo hi me : Nat → Int32) (n : Nat) (hn : n ≤ 12) (x y : Int32) : RD l yX0_about wsX0_about 2 G [.ref (a 3), .int x, .int y] (anW G a lo hi me (nI n)) (some (.int (abt lo hi me n x y))) := by
  refine rd_of (cc := cX0_about) (maxL := 6) (ret := (some .int)) (by decide) rfl (Nat.le_of_ble_eq_true rfl) ?_
  intro pG eG s mG below meth cG hx hb hr hml hts hown hlocks hP hK hN ls hl
  have hown : s.vm.findClass RX0 = some mG.cls := hown
  have hl : lv_has ls 6 [(0, .ref (a 3)), (1, .int x), (2, .int y)] := hl
  refine lv_iload_n hx hb dX0_about_0 rfl (lv_at hl 1 rfl) ?_
  refine lv_iload_n hx hb dX0_about_1 rfl (lv_at hl 2 rfl) ?_
  refine va_mmin hx hb (hml.trans hl.1.symm) hown (hts (.methodLink RX0 25 Lib.Math.min.name) (List.mem_of_getElem? (i := 1) rfl)) (hts (.static Lib.Math.min.name) (List.mem_of_getElem? (i := 2) rfl)) (hts (.initialized "java/lang/Math") (List.mem_of_getElem? (i := 3) rfl)) (hts (.code Lib.Math.min.name Lib.Math.min.code 2 (some .int)) (List.mem_of_getElem? (i := 4) rfl)) (Nat.le_of_ble_eq_true rfl) (Nat.le_of_ble_eq_true rfl) (Nat.le_of_ble_eq_true rfl) (Nat.le_of_ble_eq_true rfl) dX0_about_2 ?_
  refine lv_cgi (y := mnI x y) rfl ?_
  refine lv_istore_n (lv' := [(3, .int (mnI x y)), (0, .ref (a 3)), (1, .int x), (2, .int y)]) hx hb dX0_about_5 rfl hl (by decide) rfl (fun ls hl => ?_)
  refine lv_iload_n hx hb dX0_about_6 rfl (lv_at hl 2 rfl) ?_
  refine lv_iload_n hx hb dX0_about_7 rfl (lv_at hl 3 rfl) ?_
  refine va_mmax hx hb (hml.trans hl.1.symm) hown (hts (.methodLink RX0 31 Lib.Math.max.name) (List.mem_of_getElem? (i := 5) rfl)) (hts (.static Lib.Math.max.name) (List.mem_of_getElem? (i := 6) rfl)) (hts (.initialized "java/lang/Math") (List.mem_of_getElem? (i := 3) rfl)) (hts (.code Lib.Math.max.name Lib.Math.max.code 2 (some .int)) (List.mem_of_getElem? (i := 7) rfl)) (Nat.le_of_ble_eq_true rfl) (Nat.le_of_ble_eq_true rfl) (Nat.le_of_ble_eq_true rfl) (Nat.le_of_ble_eq_true rfl) dX0_about_8 ?_
  refine lv_cgi (y := mxI x y) rfl ?_
  refine lv_istore (lv' := [(4, .int (mxI x y)), (3, .int (mnI x y)), (0, .ref (a 3)), (1, .int x), (2, .int y)]) hx hb dX0_about_11 hl (by decide) rfl (fun ls hl => ?_)
  refine lv_iconst (v := nI 0) hx hb dX0_about_13 (by decide) ?_
  refine lv_istore (lv' := [(5, .int (nI 0)), (4, .int (mxI x y)), (3, .int (mnI x y)), (0, .ref (a 3)), (1, .int x), (2, .int y)]) hx hb dX0_about_14 hl (by decide) rfl (fun ls hl => ?_)
  have L16 : ∀ (fu : Nat) (k : Nat) (hk : k ≤ n) (hrg : abtF lo hi me (mnI x y) (mxI x y) (n - k) k = abt lo hi me n x y), n + 1 ≤ k + fu → ∀ ls : Array Slot, lv_has ls 6 [(0, .ref (a 3)), (3, .int (mnI x y)), (4, .int (mxI x y)), (5, .int (nI k))] → W pG l eG (RM 2 0 0) s mG ([.ref (a 3), .int x, .int y] : List Value).toArray below meth cG s.heap [] 0 0 (MQ below (rQ (some (.int (abt lo hi me n x y)))) ([.ref (a 3), .int x, .int y] : List Value).toArray s 0 0 (fun _ => False)) (F0 mG 16 ls []) := by
    intro fu
    induction fu with
    | zero => intro k hk hrg hfu; exact absurd hfu (by omega)
    | succ fu ih =>
      intro k hk hrg hfu ls hl
      refine lv_iload hx hb dX0_about_16 (lv_at hl 3 rfl) ?_
      refine lv_aload_n hx hb dX0_about_18 rfl (lv_at hl 0 rfl) ?_
      refine va_get (D := G.1) (ws := anW G a lo hi me (nI n)) (ci := 0) (v := .int (nI n)) (C := RX0) (T := TX0) (N := 4) hx hb hts (fun _ h => List.mem_cons_of_mem _ (List.mem_append_right _ (h))) hown hK hP 0 rfl rfl 3 (by decide) (hts (.fieldLink RX0 21 "CreaseMaps$Answers" "size" "I") (List.mem_of_getElem? (i := 8) rfl)) (fun _ h9 => h9) rfl dX0_about_19 ?_
      refine lv_icmp_ge (tgt := 62) hx hb dX0_about_22 (by decide) (fun c_22 => ?_) (fun c_22 => ?_)
      · have q1 : n ≤ k := fe c_22 (by omega) (by omega)
        refine lv_iconst (v := (-1)) hx hb dX0_about_62 (by decide) ?_
        exact rd_iret hx hb hr hlocks (by first | (rw [← hrg, show k = n by omega, Nat.sub_self]; rfl) | (rw [← hrg, show n - k = (n - (k + 1)) + 1 by omega, abtF, if_pos ⟨c_33, c_45⟩])) dX0_about_63
      · have q1 : k < n := fl c_22 (by omega) (by omega)
        refine lv_aload_n hx hb dX0_about_25 rfl (lv_at hl 0 rfl) ?_
        refine va_get (D := G.1) (ws := anW G a lo hi me (nI n)) (ci := 0) (v := .ref (a 4)) (C := RX0) (T := TX0) (N := 4) hx hb hts (fun _ h => List.mem_cons_of_mem _ (List.mem_append_right _ (h))) hown hK hP 0 rfl rfl 0 (by decide) (hts (.fieldLink RX0 9 "CreaseMaps$Answers" "lows" "[I") (List.mem_of_getElem? (i := 9) rfl)) (fun _ h9 => h9) rfl dX0_about_26 ?_
        refine lv_iload hx hb dX0_about_29 (lv_at hl 3 rfl) ?_
        refine va_iald (D := G.1) (ws := anW G a lo hi me (nI n)) hx hb hK hP 1 0 (n := 12) rfl rfl (by first | assumption | exact vp_in_nI (by omega) (by omega)) dX0_about_31 ?_
        refine lv_cgi (y := lo k) (by rw [nI_clamp (by omega)]) ?_
        refine lv_iload_n hx hb dX0_about_32 rfl (lv_at hl 1 rfl) ?_
        refine lv_icmp_ne (tgt := 56) hx hb dX0_about_33 (by decide) (fun c_33 => ?_) (fun c_33 => ?_)
        · refine lv_iinc (v := nI (k + 1)) (lv' := [(5, .int (nI (k + 1))), (0, .ref (a 3)), (3, .int (mnI x y)), (4, .int (mxI x y))]) hx hb dX0_about_56 hl (k := 3) rfl (iincN k) (by decide) rfl (fun ls hl => ?_)
          refine lv_goto (tgt := 16) hx hb dX0_about_59 (by decide) ?_
          exact ih (k + 1) (by omega) (by rw [← hrg, show n - k = (n - (k + 1)) + 1 by omega, abtF, if_neg]; simp [c_22, c_33]) (by omega) ls (lv_as (l1 := [(0, .ref (a 3)), (3, .int (mnI x y)), (4, .int (mxI x y)), (5, .int (nI (k + 1)))]) (lv_sub hl [1, 2, 3, 0] rfl) (by rfl))
        · refine lv_aload_n hx hb dX0_about_36 rfl (lv_at hl 0 rfl) ?_
          refine va_get (D := G.1) (ws := anW G a lo hi me (nI n)) (ci := 0) (v := .ref (a 5)) (C := RX0) (T := TX0) (N := 4) hx hb hts (fun _ h => List.mem_cons_of_mem _ (List.mem_append_right _ (h))) hown hK hP 0 rfl rfl 1 (by decide) (hts (.fieldLink RX0 15 "CreaseMaps$Answers" "highs" "[I") (List.mem_of_getElem? (i := 10) rfl)) (fun _ h9 => h9) rfl dX0_about_37 ?_
          refine lv_iload hx hb dX0_about_40 (lv_at hl 3 rfl) ?_
          refine va_iald (D := G.1) (ws := anW G a lo hi me (nI n)) hx hb hK hP 2 0 (n := 12) rfl rfl (by first | assumption | exact vp_in_nI (by omega) (by omega)) dX0_about_42 ?_
          refine lv_cgi (y := hi k) (by rw [nI_clamp (by omega)]) ?_
          refine lv_iload hx hb dX0_about_43 (lv_at hl 2 rfl) ?_
          refine lv_icmp_ne (tgt := 56) hx hb dX0_about_45 (by decide) (fun c_45 => ?_) (fun c_45 => ?_)
          · refine lv_iinc (v := nI (k + 1)) (lv' := [(5, .int (nI (k + 1))), (0, .ref (a 3)), (3, .int (mnI x y)), (4, .int (mxI x y))]) hx hb dX0_about_56 hl (k := 3) rfl (iincN k) (by decide) rfl (fun ls hl => ?_)
            refine lv_goto (tgt := 16) hx hb dX0_about_59 (by decide) ?_
            exact ih (k + 1) (by omega) (by rw [← hrg, show n - k = (n - (k + 1)) + 1 by omega, abtF, if_neg]; simp [c_22, c_33, c_45]) (by omega) ls (lv_as (l1 := [(0, .ref (a 3)), (3, .int (mnI x y)), (4, .int (mxI x y)), (5, .int (nI (k + 1)))]) (lv_sub hl [1, 2, 3, 0] rfl) (by rfl))
          · refine lv_aload_n hx hb dX0_about_48 rfl (lv_at hl 0 rfl) ?_
            refine va_get (D := G.1) (ws := anW G a lo hi me (nI n)) (ci := 0) (v := .ref (a 6)) (C := RX0) (T := TX0) (N := 4) hx hb hts (fun _ h => List.mem_cons_of_mem _ (List.mem_append_right _ (h))) hown hK hP 0 rfl rfl 2 (by decide) (hts (.fieldLink RX0 18 "CreaseMaps$Answers" "meetings" "[I") (List.mem_of_getElem? (i := 11) rfl)) (fun _ h9 => h9) rfl dX0_about_49 ?_
            refine lv_iload hx hb dX0_about_52 (lv_at hl 3 rfl) ?_
            refine va_iald (D := G.1) (ws := anW G a lo hi me (nI n)) hx hb hK hP 3 0 (n := 12) rfl rfl (by first | assumption | exact vp_in_nI (by omega) (by omega)) dX0_about_54 ?_
            refine lv_cgi (y := me k) (by rw [nI_clamp (by omega)]) ?_
            exact rd_iret hx hb hr hlocks (by first | (rw [← hrg, show k = n by omega, Nat.sub_self]; rfl) | (rw [← hrg, show n - k = (n - (k + 1)) + 1 by omega, abtF, if_pos ⟨c_33, c_45⟩])) dX0_about_55
  exact L16 (n + 1) 0 (by omega) (by rfl) (by omega) ls (lv_as (l1 := [(0, .ref (a 3)), (3, .int (mnI x y)), (4, .int (mxI x y)), (5, .int (nI 0))]) (lv_sub hl [3, 2, 1, 0] rfl) (by rfl))

set_option maxHeartbeats 4000000 in
set_option maxRecDepth 100000 in
theorem c_X0_fit (l : Launch) (G : GG) (a : Nat → Nat) (lo hi me : Nat → Int32) (n : Nat) (hn : n ≤ 12) (hv : okL lo hi) (fo : Int32) : RD l yX0_fit wsX0_fit 3 G [.ref (a 3), .int fo] (anW G a lo hi me (nI n)) (some (.int (b2 (fitC lo hi me fo n 0)))) := by
  refine rd_of (cc := cX0_fit) (maxL := 3) (ret := (some .boolean)) (by decide) rfl (Nat.le_of_ble_eq_true rfl) ?_
  intro pG eG s mG below meth cG hx hb hr hml hts hown hlocks hP hK hN ls hl
  have hown : s.vm.findClass RX0 = some mG.cls := hown
  have hl : lv_has ls 3 [(0, .ref (a 3)), (1, .int fo)] := hl
  refine lv_iconst (v := nI 0) hx hb dX0_fit_0 (by decide) ?_
  refine lv_istore_n (lv' := [(2, .int (nI 0)), (0, .ref (a 3)), (1, .int fo)]) hx hb dX0_fit_1 rfl hl (by decide) rfl (fun ls hl => ?_)
  have L2 : ∀ (fu : Nat) (k : Nat) (hk : k ≤ n) (hrg : fitC lo hi me fo (n - k) k = fitC lo hi me fo n 0), n + 1 ≤ k + fu → ∀ ls : Array Slot, lv_has ls 3 [(0, .ref (a 3)), (1, .int fo), (2, .int (nI k))] → W pG l eG (RM 3 0 0) s mG ([.ref (a 3), .int fo] : List Value).toArray below meth cG s.heap [] 0 0 (MQ below (rQ (some (.int (b2 (fitC lo hi me fo n 0))))) ([.ref (a 3), .int fo] : List Value).toArray s 0 0 (fun _ => False)) (F0 mG 2 ls []) := by
    intro fu
    induction fu with
    | zero => intro k hk hrg hfu; exact absurd hfu (by omega)
    | succ fu ih =>
      intro k hk hrg hfu ls hl
      refine lv_iload_n hx hb dX0_fit_2 rfl (lv_at hl 2 rfl) ?_
      refine lv_aload_n hx hb dX0_fit_3 rfl (lv_at hl 0 rfl) ?_
      refine va_get (D := G.1) (ws := anW G a lo hi me (nI n)) (ci := 0) (v := .int (nI n)) (C := RX0) (T := TX0) (N := 4) hx hb hts (fun _ h => List.mem_cons_of_mem _ (List.mem_append_right _ (h))) hown hK hP 0 rfl rfl 3 (by decide) (hts (.fieldLink RX0 21 "CreaseMaps$Answers" "size" "I") (List.mem_of_getElem? (i := 1) rfl)) (fun _ h9 => h9) rfl dX0_fit_4 ?_
      refine lv_icmp_ge (tgt := 43) hx hb dX0_fit_7 (by decide) (fun c_7 => ?_) (fun c_7 => ?_)
      · have q1 : n ≤ k := fe c_7 (by omega) (by omega)
        refine lv_iconst (v := nI 1) hx hb dX0_fit_43 (by decide) ?_
        exact rd_zret hx hb hr hlocks (by first | decide | exact b2_nar _) (by first | (rw [← hrg, show k = n by omega, Nat.sub_self]; rfl) | (rw [← hrg, show n - k = (n - (k + 1)) + 1 by omega, fitC, if_neg c_32]; rfl)) dX0_fit_44
      · have q1 : k < n := fl c_7 (by omega) (by omega)
        have q2 : cl (lo k) < 10 := vp_lt (hv k (by omega)).1
        have q3 : cl (hi k) < 10 := vp_lt (hv k (by omega)).2
        refine lv_iload_n hx hb dX0_fit_10 rfl (lv_at hl 1 rfl) ?_
        refine lv_aload_n hx hb dX0_fit_11 rfl (lv_at hl 0 rfl) ?_
        refine va_get (D := G.1) (ws := anW G a lo hi me (nI n)) (ci := 0) (v := .ref (a 4)) (C := RX0) (T := TX0) (N := 4) hx hb hts (fun _ h => List.mem_cons_of_mem _ (List.mem_append_right _ (h))) hown hK hP 0 rfl rfl 0 (by decide) (hts (.fieldLink RX0 9 "CreaseMaps$Answers" "lows" "[I") (List.mem_of_getElem? (i := 2) rfl)) (fun _ h9 => h9) rfl dX0_fit_12 ?_
        refine lv_iload_n hx hb dX0_fit_15 rfl (lv_at hl 2 rfl) ?_
        refine va_iald (D := G.1) (ws := anW G a lo hi me (nI n)) hx hb hK hP 1 0 (n := 12) rfl rfl (by first | assumption | exact vp_in_nI (by omega) (by omega)) dX0_fit_16 ?_
        refine lv_cgi (y := lo k) (by rw [nI_clamp (by omega)]) ?_
        refine lv_cgi (y := nI (cl (lo k))) (nI_vp (hv k (by omega)).1 (by decide)) ?_
        refine lv_aload_n hx hb dX0_fit_17 rfl (lv_at hl 0 rfl) ?_
        refine va_get (D := G.1) (ws := anW G a lo hi me (nI n)) (ci := 0) (v := .ref (a 5)) (C := RX0) (T := TX0) (N := 4) hx hb hts (fun _ h => List.mem_cons_of_mem _ (List.mem_append_right _ (h))) hown hK hP 0 rfl rfl 1 (by decide) (hts (.fieldLink RX0 15 "CreaseMaps$Answers" "highs" "[I") (List.mem_of_getElem? (i := 3) rfl)) (fun _ h9 => h9) rfl dX0_fit_18 ?_
        refine lv_iload_n hx hb dX0_fit_21 rfl (lv_at hl 2 rfl) ?_
        refine va_iald (D := G.1) (ws := anW G a lo hi me (nI n)) hx hb hK hP 2 0 (n := 12) rfl rfl (by first | assumption | exact vp_in_nI (by omega) (by omega)) dX0_fit_22 ?_
        refine lv_cgi (y := hi k) (by rw [nI_clamp (by omega)]) ?_
        refine lv_cgi (y := nI (cl (hi k))) (nI_vp (hv k (by omega)).2 (by decide)) ?_
        refine rd_go (va_runS (As := [.int fo, .int (nI (cl (lo k))), .int (nI (cl (hi k)))]) (rest := []) ⟨hx, hb, hml, hown, hts⟩ (c_X3_meeting l G fo (cl (lo k)) (cl (hi k)) (by omega) (by omega)) (va_cwS 3 hts gX0_fit_X3_meeting rfl rfl rfl (by decide +kernel) ⟨Nat.le_of_ble_eq_true rfl, Nat.le_of_ble_eq_true rfl⟩) (rS (ws := []) hK hN P_nil) rfl rfl hl.1 rfl (lv_room (Nat.le_of_ble_eq_true rfl)) dX0_fit_23 ⟨Nat.le_of_ble_eq_true rfl, Nat.le_of_ble_eq_true rfl⟩) ?_
        refine lv_aload_n hx hb dX0_fit_26 rfl (lv_at hl 0 rfl) ?_
        refine va_get (D := G.1) (ws := anW G a lo hi me (nI n)) (ci := 0) (v := .ref (a 6)) (C := RX0) (T := TX0) (N := 4) hx hb hts (fun _ h => List.mem_cons_of_mem _ (List.mem_append_right _ (h))) hown hK hP 0 rfl rfl 2 (by decide) (hts (.fieldLink RX0 18 "CreaseMaps$Answers" "meetings" "[I") (List.mem_of_getElem? (i := 4) rfl)) (fun _ h9 => h9) rfl dX0_fit_27 ?_
        refine lv_iload_n hx hb dX0_fit_30 rfl (lv_at hl 2 rfl) ?_
        refine va_iald (D := G.1) (ws := anW G a lo hi me (nI n)) hx hb hK hP 3 0 (n := 12) rfl rfl (by first | assumption | exact vp_in_nI (by omega) (by omega)) dX0_fit_31 ?_
        refine lv_cgi (y := me k) (by rw [nI_clamp (by omega)]) ?_
        refine lv_icmp_eq (tgt := 37) hx hb dX0_fit_32 (by decide) (fun c_32 => ?_) (fun c_32 => ?_)
        · refine lv_iinc (v := nI (k + 1)) (lv' := [(2, .int (nI (k + 1))), (0, .ref (a 3)), (1, .int fo)]) hx hb dX0_fit_37 hl (k := 2) rfl (iincN k) (by decide) rfl (fun ls hl => ?_)
          refine lv_goto (tgt := 2) hx hb dX0_fit_40 (by decide) ?_
          exact ih (k + 1) (by omega) (by rw [← hrg, show n - k = (n - (k + 1)) + 1 by omega, fitC, if_pos c_32]) (by omega) ls (lv_as (l1 := [(0, .ref (a 3)), (1, .int fo), (2, .int (nI (k + 1)))]) (lv_sub hl [1, 2, 0] rfl) (by rfl))
        · refine lv_iconst (v := nI 0) hx hb dX0_fit_35 (by decide) ?_
          exact rd_zret hx hb hr hlocks (by first | decide | exact b2_nar _) (by first | (rw [← hrg, show k = n by omega, Nat.sub_self]; rfl) | (rw [← hrg, show n - k = (n - (k + 1)) + 1 by omega, fitC, if_neg c_32]; rfl)) dX0_fit_36
  exact L2 (n + 1) 0 (by omega) (by rfl) (by omega) ls (lv_as (l1 := [(0, .ref (a 3)), (1, .int fo), (2, .int (nI 0))]) (lv_sub hl [1, 2, 0] rfl) (by rfl))

set_option maxHeartbeats 4000000 in
set_option maxRecDepth 100000 in
theorem c_X0_fitAt (l : Launch) (G : GG) (a : Nat → Nat) (lo hi me : Nat → Int32) (n : Nat) (hn : n ≤ 12) (hv : okL lo hi) (pn : Nat) (hp : pn < 10) (fo : Int32) : RD l yX0_fitAt wsX0_fitAt 3 G [.ref (a 3), .int (nI pn), .int fo] (anW G a lo hi me (nI n)) (some (.int (b2 (fitA lo hi me pn fo n 0)))) := by
  refine rd_of (cc := cX0_fitAt) (maxL := 4) (ret := (some .boolean)) (by decide) rfl (Nat.le_of_ble_eq_true rfl) ?_
  intro pG eG s mG below meth cG hx hb hr hml hts hown hlocks hP hK hN ls hl
  have hown : s.vm.findClass RX0 = some mG.cls := hown
  have hl : lv_has ls 4 [(0, .ref (a 3)), (1, .int (nI pn)), (2, .int fo)] := hl
  refine lv_iconst (v := nI 0) hx hb dX0_fitAt_0 (by decide) ?_
  refine lv_istore_n (lv' := [(3, .int (nI 0)), (0, .ref (a 3)), (1, .int (nI pn)), (2, .int fo)]) hx hb dX0_fitAt_1 rfl hl (by decide) rfl (fun ls hl => ?_)
  have L2 : ∀ (fu : Nat) (k : Nat) (hk : k ≤ n) (hrg : fitA lo hi me pn fo (n - k) k = fitA lo hi me pn fo n 0), n + 1 ≤ k + fu → ∀ ls : Array Slot, lv_has ls 4 [(0, .ref (a 3)), (1, .int (nI pn)), (2, .int fo), (3, .int (nI k))] → W pG l eG (RM 3 0 0) s mG ([.ref (a 3), .int (nI pn), .int fo] : List Value).toArray below meth cG s.heap [] 0 0 (MQ below (rQ (some (.int (b2 (fitA lo hi me pn fo n 0))))) ([.ref (a 3), .int (nI pn), .int fo] : List Value).toArray s 0 0 (fun _ => False)) (F0 mG 2 ls []) := by
    intro fu
    induction fu with
    | zero => intro k hk hrg hfu; exact absurd hfu (by omega)
    | succ fu ih =>
      intro k hk hrg hfu ls hl
      refine lv_iload_n hx hb dX0_fitAt_2 rfl (lv_at hl 3 rfl) ?_
      refine lv_aload_n hx hb dX0_fitAt_3 rfl (lv_at hl 0 rfl) ?_
      refine va_get (D := G.1) (ws := anW G a lo hi me (nI n)) (ci := 0) (v := .int (nI n)) (C := RX0) (T := TX0) (N := 4) hx hb hts (fun _ h => List.mem_cons_of_mem _ (List.mem_append_right _ (h))) hown hK hP 0 rfl rfl 3 (by decide) (hts (.fieldLink RX0 21 "CreaseMaps$Answers" "size" "I") (List.mem_of_getElem? (i := 1) rfl)) (fun _ h9 => h9) rfl dX0_fitAt_4 ?_
      refine lv_icmp_ge (tgt := 48) hx hb dX0_fitAt_7 (by decide) (fun c_7 => ?_) (fun c_7 => ?_)
      · have q1 : n ≤ k := fe c_7 (by omega) (by omega)
        refine lv_iconst (v := nI 1) hx hb dX0_fitAt_48 (by decide) ?_
        exact rd_zret hx hb hr hlocks (by first | decide | exact b2_nar _) (by first | (rw [← hrg, show k = n by omega, Nat.sub_self]; rfl) | (rw [← hrg, show n - k = (n - (k + 1)) + 1 by omega, fitA, if_pos ⟨c_17, c_37⟩]; rfl)) dX0_fitAt_49
      · have q1 : k < n := fl c_7 (by omega) (by omega)
        have q2 : cl (lo k) < 10 := vp_lt (hv k (by omega)).1
        have q3 : cl (hi k) < 10 := vp_lt (hv k (by omega)).2
        refine lv_aload_n hx hb dX0_fitAt_10 rfl (lv_at hl 0 rfl) ?_
        refine va_get (D := G.1) (ws := anW G a lo hi me (nI n)) (ci := 0) (v := .ref (a 5)) (C := RX0) (T := TX0) (N := 4) hx hb hts (fun _ h => List.mem_cons_of_mem _ (List.mem_append_right _ (h))) hown hK hP 0 rfl rfl 1 (by decide) (hts (.fieldLink RX0 15 "CreaseMaps$Answers" "highs" "[I") (List.mem_of_getElem? (i := 2) rfl)) (fun _ h9 => h9) rfl dX0_fitAt_11 ?_
        refine lv_iload_n hx hb dX0_fitAt_14 rfl (lv_at hl 3 rfl) ?_
        refine va_iald (D := G.1) (ws := anW G a lo hi me (nI n)) hx hb hK hP 2 0 (n := 12) rfl rfl (by first | assumption | exact vp_in_nI (by omega) (by omega)) dX0_fitAt_15 ?_
        refine lv_cgi (y := hi k) (by rw [nI_clamp (by omega)]) ?_
        refine lv_iload_n hx hb dX0_fitAt_16 rfl (lv_at hl 1 rfl) ?_
        refine lv_icmp_ne (tgt := 42) hx hb dX0_fitAt_17 (by decide) (fun c_17 => ?_) (fun c_17 => ?_)
        · refine lv_iinc (v := nI (k + 1)) (lv' := [(3, .int (nI (k + 1))), (0, .ref (a 3)), (1, .int (nI pn)), (2, .int fo)]) hx hb dX0_fitAt_42 hl (k := 3) rfl (iincN k) (by decide) rfl (fun ls hl => ?_)
          refine lv_goto (tgt := 2) hx hb dX0_fitAt_45 (by decide) ?_
          exact ih (k + 1) (by omega) (by rw [← hrg, show n - k = (n - (k + 1)) + 1 by omega, fitA, if_neg]; simp [c_7, c_17]) (by omega) ls (lv_as (l1 := [(0, .ref (a 3)), (1, .int (nI pn)), (2, .int fo), (3, .int (nI (k + 1)))]) (lv_sub hl [1, 2, 3, 0] rfl) (by rfl))
        · refine lv_iload_n hx hb dX0_fitAt_20 rfl (lv_at hl 2 rfl) ?_
          refine lv_aload_n hx hb dX0_fitAt_21 rfl (lv_at hl 0 rfl) ?_
          refine va_get (D := G.1) (ws := anW G a lo hi me (nI n)) (ci := 0) (v := .ref (a 4)) (C := RX0) (T := TX0) (N := 4) hx hb hts (fun _ h => List.mem_cons_of_mem _ (List.mem_append_right _ (h))) hown hK hP 0 rfl rfl 0 (by decide) (hts (.fieldLink RX0 9 "CreaseMaps$Answers" "lows" "[I") (List.mem_of_getElem? (i := 3) rfl)) (fun _ h9 => h9) rfl dX0_fitAt_22 ?_
          refine lv_iload_n hx hb dX0_fitAt_25 rfl (lv_at hl 3 rfl) ?_
          refine va_iald (D := G.1) (ws := anW G a lo hi me (nI n)) hx hb hK hP 1 0 (n := 12) rfl rfl (by first | assumption | exact vp_in_nI (by omega) (by omega)) dX0_fitAt_26 ?_
          refine lv_cgi (y := lo k) (by rw [nI_clamp (by omega)]) ?_
          refine lv_cgi (y := nI (cl (lo k))) (nI_vp (hv k (by omega)).1 (by decide)) ?_
          refine lv_iload_n hx hb dX0_fitAt_27 rfl (lv_at hl 1 rfl) ?_
          refine rd_go (va_runS (As := [.int fo, .int (nI (cl (lo k))), .int (nI pn)]) (rest := []) ⟨hx, hb, hml, hown, hts⟩ (c_X3_meeting l G fo (cl (lo k)) pn (by omega) (by omega)) (va_cwS 3 hts gX0_fitAt_X3_meeting rfl rfl rfl (by decide +kernel) ⟨Nat.le_of_ble_eq_true rfl, Nat.le_of_ble_eq_true rfl⟩) (rS (ws := []) hK hN P_nil) rfl rfl hl.1 rfl (lv_room (Nat.le_of_ble_eq_true rfl)) dX0_fitAt_28 ⟨Nat.le_of_ble_eq_true rfl, Nat.le_of_ble_eq_true rfl⟩) ?_
          refine lv_aload_n hx hb dX0_fitAt_31 rfl (lv_at hl 0 rfl) ?_
          refine va_get (D := G.1) (ws := anW G a lo hi me (nI n)) (ci := 0) (v := .ref (a 6)) (C := RX0) (T := TX0) (N := 4) hx hb hts (fun _ h => List.mem_cons_of_mem _ (List.mem_append_right _ (h))) hown hK hP 0 rfl rfl 2 (by decide) (hts (.fieldLink RX0 18 "CreaseMaps$Answers" "meetings" "[I") (List.mem_of_getElem? (i := 4) rfl)) (fun _ h9 => h9) rfl dX0_fitAt_32 ?_
          refine lv_iload_n hx hb dX0_fitAt_35 rfl (lv_at hl 3 rfl) ?_
          refine va_iald (D := G.1) (ws := anW G a lo hi me (nI n)) hx hb hK hP 3 0 (n := 12) rfl rfl (by first | assumption | exact vp_in_nI (by omega) (by omega)) dX0_fitAt_36 ?_
          refine lv_cgi (y := me k) (by rw [nI_clamp (by omega)]) ?_
          refine lv_icmp_eq (tgt := 42) hx hb dX0_fitAt_37 (by decide) (fun c_37 => ?_) (fun c_37 => ?_)
          · refine lv_iinc (v := nI (k + 1)) (lv' := [(3, .int (nI (k + 1))), (0, .ref (a 3)), (1, .int (nI pn)), (2, .int fo)]) hx hb dX0_fitAt_42 hl (k := 3) rfl (iincN k) (by decide) rfl (fun ls hl => ?_)
            refine lv_goto (tgt := 2) hx hb dX0_fitAt_45 (by decide) ?_
            exact ih (k + 1) (by omega) (by rw [← hrg, show n - k = (n - (k + 1)) + 1 by omega, fitA, if_neg]; simp [c_7, c_17, c_37]) (by omega) ls (lv_as (l1 := [(0, .ref (a 3)), (1, .int (nI pn)), (2, .int fo), (3, .int (nI (k + 1)))]) (lv_sub hl [1, 2, 3, 0] rfl) (by rfl))
          · refine lv_iconst (v := nI 0) hx hb dX0_fitAt_40 (by decide) ?_
            exact rd_zret hx hb hr hlocks (by first | decide | exact b2_nar _) (by first | (rw [← hrg, show k = n by omega, Nat.sub_self]; rfl) | (rw [← hrg, show n - k = (n - (k + 1)) + 1 by omega, fitA, if_pos ⟨c_17, c_37⟩]; rfl)) dX0_fitAt_41
  exact L2 (n + 1) 0 (by omega) (by rfl) (by omega) ls (lv_as (l1 := [(0, .ref (a 3)), (1, .int (nI pn)), (2, .int fo), (3, .int (nI 0))]) (lv_sub hl [1, 2, 3, 0] rfl) (by rfl))

set_option maxHeartbeats 4000000 in
set_option maxRecDepth 100000 in
theorem c_X0_copyFrom (l : Launch) (G : GG) (sz : Nat) (a : Nat → Nat) (lo hi me : Nat → Int32) (n : Int32) (b : Nat → Nat) (lo2 hi2 me2 : Nat → Int32) (n2 : Int32) : WRv l yX0_copyFrom wsX0_copyFrom 1 G [.ref (a 3), .ref (b 3)] (anW G a lo hi me n ++ (anW G b lo2 hi2 me2 n2)) sz (S := Unit) (fun _ => True) (fun _ => anW G a lo2 hi2 me2 n2 ++ (anW G b lo2 hi2 me2 n2)) 0 0 := by
  refine wr_of (cc := cX0_copyFrom) (maxL := 2) (ret := none) (Qc := fun Ar => wQv G (S := Unit) (fun _ => True) (fun _ => anW G a lo2 hi2 me2 n2 ++ (anW G b lo2 hi2 me2 n2)) Ar) (by decide) rfl (Nat.le_of_ble_eq_true rfl) ?_
  intro pG eG s mG below meth cG hsz hx hb hr hml hts hown hlocks hnm hP hK hN Ar hD hA hS ls hl
  have hown : s.vm.findClass RX0 = some mG.cls := hown
  have hP : PP G (anW G a lo hi me n ++ (anW G b lo2 hi2 me2 n2)) s.heap := hP
  have hD : va_D Ar (anW G a lo hi me n ++ (anW G b lo2 hi2 me2 n2)) := hD
  have hl : lv_has ls 2 [(0, .ref (a 3)), (1, .ref (b 3))] := hl
  refine lv_aload_n hx hb dX0_copyFrom_0 rfl (lv_at hl 1 rfl) ?_
  refine va_get (D := G.1) (ws := anW G a lo hi me n ++ (anW G b lo2 hi2 me2 n2)) (ci := 0) (v := .ref (b 4)) (C := RX0) (T := TX0) (N := 4) hx hb hts (fun _ h => List.mem_cons_of_mem _ (List.mem_append_right _ (h))) hown hK hP 4 rfl rfl 0 (by decide) (hts (.fieldLink RX0 9 "CreaseMaps$Answers" "lows" "[I") (List.mem_of_getElem? (i := 1) rfl)) (fun _ h9 => h9) rfl dX0_copyFrom_1 ?_
  refine lv_iconst (v := nI 0) hx hb dX0_copyFrom_4 (by decide) ?_
  refine lv_aload_n hx hb dX0_copyFrom_5 rfl (lv_at hl 0 rfl) ?_
  refine va_get (D := G.1) (ws := anW G a lo hi me n ++ (anW G b lo2 hi2 me2 n2)) (ci := 0) (v := .ref (a 4)) (C := RX0) (T := TX0) (N := 4) hx hb hts (fun _ h => List.mem_cons_of_mem _ (List.mem_append_right _ (h))) hown hK hP 0 rfl rfl 0 (by decide) (hts (.fieldLink RX0 9 "CreaseMaps$Answers" "lows" "[I") (List.mem_of_getElem? (i := 1) rfl)) (fun _ h9 => h9) rfl dX0_copyFrom_6 ?_
  refine lv_iconst (v := nI 0) hx hb dX0_copyFrom_9 (by decide) ?_
  refine lv_bipush (v := nI 12) hx hb dX0_copyFrom_10 (by decide) ?_
  refine va_copyi (D := G.1) (ws := anW G a lo hi me n ++ (anW G b lo2 hi2 me2 n2)) hx hb (hml.trans hl.1.symm) hown (hts (.methodLink RX0 40 arraycopyName) (List.mem_of_getElem? (i := 2) rfl)) (hts (.native arraycopyName) (List.mem_of_getElem? (i := 3) rfl)) (hts (.static arraycopyName) (List.mem_of_getElem? (i := 4) rfl)) (hts (.initialized "java/lang/System") (List.mem_of_getElem? (i := 5) rfl)) hK hP hD hS 5 1 0 0 (n0 := 12) (n1 := 12) rfl rfl rfl rfl rfl (by decide) (by decide) (by decide) (by decide) (by decide) (fun _ _ => rfl) (Nat.le_of_ble_eq_true rfl) (by decide) dX0_copyFrom_12 (fun H locs hP hD hS => ?_)
  replace hP := P_cong (g := lo2) hP 1 (a := a 4) (cA := G.2.1) (n := 12) rfl (fun j hj => cpy_eq hj (by decide))
  replace hD := D_cong (g := lo2) hD 1 (a := a 4) (cA := G.2.1) (n := 12) rfl
  have hP : PP G (anW G a lo2 hi me n ++ (anW G b lo2 hi2 me2 n2)) H := hP
  have hD : va_D Ar (anW G a lo2 hi me n ++ (anW G b lo2 hi2 me2 n2)) := hD
  refine lv_aload_n hx hb dX0_copyFrom_15 rfl (lv_at hl 1 rfl) ?_
  refine va_get (D := G.1) (ws := anW G a lo2 hi me n ++ (anW G b lo2 hi2 me2 n2)) (ci := 0) (v := .ref (b 5)) (C := RX0) (T := TX0) (N := 4) hx hb hts (fun _ h => List.mem_cons_of_mem _ (List.mem_append_right _ (h))) hown hK hP 4 rfl rfl 1 (by decide) (hts (.fieldLink RX0 15 "CreaseMaps$Answers" "highs" "[I") (List.mem_of_getElem? (i := 6) rfl)) (fun _ h9 => h9) rfl dX0_copyFrom_16 ?_
  refine lv_iconst (v := nI 0) hx hb dX0_copyFrom_19 (by decide) ?_
  refine lv_aload_n hx hb dX0_copyFrom_20 rfl (lv_at hl 0 rfl) ?_
  refine va_get (D := G.1) (ws := anW G a lo2 hi me n ++ (anW G b lo2 hi2 me2 n2)) (ci := 0) (v := .ref (a 5)) (C := RX0) (T := TX0) (N := 4) hx hb hts (fun _ h => List.mem_cons_of_mem _ (List.mem_append_right _ (h))) hown hK hP 0 rfl rfl 1 (by decide) (hts (.fieldLink RX0 15 "CreaseMaps$Answers" "highs" "[I") (List.mem_of_getElem? (i := 6) rfl)) (fun _ h9 => h9) rfl dX0_copyFrom_21 ?_
  refine lv_iconst (v := nI 0) hx hb dX0_copyFrom_24 (by decide) ?_
  refine lv_bipush (v := nI 12) hx hb dX0_copyFrom_25 (by decide) ?_
  refine va_copyi (D := G.1) (ws := anW G a lo2 hi me n ++ (anW G b lo2 hi2 me2 n2)) hx hb (hml.trans hl.1.symm) hown (hts (.methodLink RX0 40 arraycopyName) (List.mem_of_getElem? (i := 2) rfl)) (hts (.native arraycopyName) (List.mem_of_getElem? (i := 3) rfl)) (hts (.static arraycopyName) (List.mem_of_getElem? (i := 4) rfl)) (hts (.initialized "java/lang/System") (List.mem_of_getElem? (i := 5) rfl)) hK hP hD hS 6 2 0 0 (n0 := 12) (n1 := 12) rfl rfl rfl rfl rfl (by decide) (by decide) (by decide) (by decide) (by decide) (fun _ _ => rfl) (Nat.le_of_ble_eq_true rfl) (by decide) dX0_copyFrom_27 (fun H locs hP hD hS => ?_)
  replace hP := P_cong (g := hi2) hP 2 (a := a 5) (cA := G.2.1) (n := 12) rfl (fun j hj => cpy_eq hj (by decide))
  replace hD := D_cong (g := hi2) hD 2 (a := a 5) (cA := G.2.1) (n := 12) rfl
  have hP : PP G (anW G a lo2 hi2 me n ++ (anW G b lo2 hi2 me2 n2)) H := hP
  have hD : va_D Ar (anW G a lo2 hi2 me n ++ (anW G b lo2 hi2 me2 n2)) := hD
  refine lv_aload_n hx hb dX0_copyFrom_30 rfl (lv_at hl 1 rfl) ?_
  refine va_get (D := G.1) (ws := anW G a lo2 hi2 me n ++ (anW G b lo2 hi2 me2 n2)) (ci := 0) (v := .ref (b 6)) (C := RX0) (T := TX0) (N := 4) hx hb hts (fun _ h => List.mem_cons_of_mem _ (List.mem_append_right _ (h))) hown hK hP 4 rfl rfl 2 (by decide) (hts (.fieldLink RX0 18 "CreaseMaps$Answers" "meetings" "[I") (List.mem_of_getElem? (i := 7) rfl)) (fun _ h9 => h9) rfl dX0_copyFrom_31 ?_
  refine lv_iconst (v := nI 0) hx hb dX0_copyFrom_34 (by decide) ?_
  refine lv_aload_n hx hb dX0_copyFrom_35 rfl (lv_at hl 0 rfl) ?_
  refine va_get (D := G.1) (ws := anW G a lo2 hi2 me n ++ (anW G b lo2 hi2 me2 n2)) (ci := 0) (v := .ref (a 6)) (C := RX0) (T := TX0) (N := 4) hx hb hts (fun _ h => List.mem_cons_of_mem _ (List.mem_append_right _ (h))) hown hK hP 0 rfl rfl 2 (by decide) (hts (.fieldLink RX0 18 "CreaseMaps$Answers" "meetings" "[I") (List.mem_of_getElem? (i := 7) rfl)) (fun _ h9 => h9) rfl dX0_copyFrom_36 ?_
  refine lv_iconst (v := nI 0) hx hb dX0_copyFrom_39 (by decide) ?_
  refine lv_bipush (v := nI 12) hx hb dX0_copyFrom_40 (by decide) ?_
  refine va_copyi (D := G.1) (ws := anW G a lo2 hi2 me n ++ (anW G b lo2 hi2 me2 n2)) hx hb (hml.trans hl.1.symm) hown (hts (.methodLink RX0 40 arraycopyName) (List.mem_of_getElem? (i := 2) rfl)) (hts (.native arraycopyName) (List.mem_of_getElem? (i := 3) rfl)) (hts (.static arraycopyName) (List.mem_of_getElem? (i := 4) rfl)) (hts (.initialized "java/lang/System") (List.mem_of_getElem? (i := 5) rfl)) hK hP hD hS 7 3 0 0 (n0 := 12) (n1 := 12) rfl rfl rfl rfl rfl (by decide) (by decide) (by decide) (by decide) (by decide) (fun _ _ => rfl) (Nat.le_of_ble_eq_true rfl) (by decide) dX0_copyFrom_42 (fun H locs hP hD hS => ?_)
  replace hP := P_cong (g := me2) hP 3 (a := a 6) (cA := G.2.1) (n := 12) rfl (fun j hj => cpy_eq hj (by decide))
  replace hD := D_cong (g := me2) hD 3 (a := a 6) (cA := G.2.1) (n := 12) rfl
  have hP : PP G (anW G a lo2 hi2 me2 n ++ (anW G b lo2 hi2 me2 n2)) H := hP
  have hD : va_D Ar (anW G a lo2 hi2 me2 n ++ (anW G b lo2 hi2 me2 n2)) := hD
  refine lv_aload_n hx hb dX0_copyFrom_45 rfl (lv_at hl 0 rfl) ?_
  refine lv_aload_n hx hb dX0_copyFrom_46 rfl (lv_at hl 1 rfl) ?_
  refine va_get (D := G.1) (ws := anW G a lo2 hi2 me2 n ++ (anW G b lo2 hi2 me2 n2)) (ci := 0) (v := .int n2) (C := RX0) (T := TX0) (N := 4) hx hb hts (fun _ h => List.mem_cons_of_mem _ (List.mem_append_right _ (h))) hown hK hP 4 rfl rfl 3 (by decide) (hts (.fieldLink RX0 21 "CreaseMaps$Answers" "size" "I") (List.mem_of_getElem? (i := 8) rfl)) (fun _ h9 => h9) rfl dX0_copyFrom_47 ?_
  refine va_put (D := G.1) (ws := anW G a lo2 hi2 me2 n ++ (anW G b lo2 hi2 me2 n2)) (ci := 0) (v := .int n2) (ty := .int) (C := RX0) (T := TX0) (N := 4) hx hb hts (fun _ h => List.mem_cons_of_mem _ (List.mem_append_right _ (h))) tyX0 tyX0_ok nmX0 hown hK hP hD hS 0 rfl rfl 3 (by decide) (hts (.fieldLink RX0 21 "CreaseMaps$Answers" "size" "I") (List.mem_of_getElem? (i := 8) rfl)) (fun _ h9 => h9) rfl (by decide +kernel) rfl rfl (Nat.le_of_ble_eq_true rfl) dX0_copyFrom_50 (fun H locs hP hD hS => ?_)
  have hP : PP G (anW G a lo2 hi2 me2 n2 ++ (anW G b lo2 hi2 me2 n2)) H := hP
  have hD : va_D Ar (anW G a lo2 hi2 me2 n2 ++ (anW G b lo2 hi2 me2 n2)) := hD
  exact wr_vret (S := Unit) (out := fun _ => anW G a lo2 hi2 me2 n2 ++ (anW G b lo2 hi2 me2 n2)) () hx hb hr hlocks hP hD hS (Nat.le_of_ble_eq_true rfl) (Nat.le_of_ble_eq_true rfl) (by trivial) dX0_copyFrom_53


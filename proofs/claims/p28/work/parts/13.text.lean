set_option maxHeartbeats 4000000 in
set_option maxRecDepth 100000 in
theorem c_X1_lapse (l : Launch) (G : GG) (sz : Nat) (ce : Nat → Nat) (mk : Nat → Int32) (cs up : Int32) : WRv l yX1_lapse wsX1_lapse 1 G [.ref (ce 0)] (ceW G ce mk cs up) sz (S := Unit) (fun _ => True) (fun _ => ceW G ce mk cs (nI 0)) 0 0 := by
  refine wr_of (cc := cX1_lapse) (maxL := 1) (ret := none) (Qc := fun Ar => wQv G (S := Unit) (fun _ => True) (fun _ => ceW G ce mk cs (nI 0)) Ar) (by decide) rfl (Nat.le_of_ble_eq_true rfl) ?_
  intro pG eG s mG below meth cG hsz hx hb hr hml hts hown hlocks hnm hP hK hN Ar hD hA hS ls hl
  have hown : s.vm.findClass RX1 = some mG.cls := hown
  have hP : PP G (ceW G ce mk cs up) s.heap := hP
  have hD : va_D Ar (ceW G ce mk cs up) := hD
  have hl : lv_has ls 1 [(0, .ref (ce 0))] := hl
  refine lv_aload_n hx hb dX1_lapse_0 rfl (lv_at hl 0 rfl) ?_
  refine lv_iconst (v := nI 0) hx hb dX1_lapse_1 (by decide) ?_
  refine va_put (D := G.1) (ws := ceW G ce mk cs up) (ci := 1) (v := .int (nI 0)) (ty := .boolean) (C := RX1) (T := TX1) (N := 3) hx hb hts (fun _ h => List.mem_cons_of_mem _ (List.mem_append_right _ (h))) tyX1 tyX1_ok nmX1 hown hK hP hD hS 0 rfl rfl 2 (by decide) (hts (.fieldLink RX1 15 "CreaseMaps$Census" "upToDate" "Z") (List.mem_of_getElem? (i := 1) rfl)) (fun _ h9 => h9) rfl (by decide +kernel) rfl rfl (Nat.le_of_ble_eq_true rfl) dX1_lapse_2 (fun H locs hP hD hS => ?_)
  have hP : PP G (ceW G ce mk cs (nI 0)) H := hP
  have hD : va_D Ar (ceW G ce mk cs (nI 0)) := hD
  exact wr_vret (S := Unit) (out := fun _ => ceW G ce mk cs (nI 0)) () hx hb hr hlocks hP hD hS (Nat.le_of_ble_eq_true rfl) (Nat.le_of_ble_eq_true rfl) (by trivial) dX1_lapse_5

set_option maxHeartbeats 4000000 in
set_option maxRecDepth 100000 in
theorem c_X1_maskAt (l : Launch) (G : GG) (ce : Nat → Nat) (mk : Nat → Int32) (up : Int32) (c2 : Nat) (hc : c2 ≤ 512) (x : Int32) : RD l yX1_maskAt wsX1_maskAt 1 G [.ref (ce 0), .int x] (ceW G ce mk (nI c2) up) (some (.int (mkA mk c2 x))) := by
  refine rd_of (cc := cX1_maskAt) (maxL := 2) (ret := (some .int)) (by decide) rfl (Nat.le_of_ble_eq_true rfl) ?_
  intro pG eG s mG below meth cG hx hb hr hml hts hown hlocks hP hK hN ls hl
  have hown : s.vm.findClass RX1 = some mG.cls := hown
  have hl : lv_has ls 2 [(0, .ref (ce 0)), (1, .int x)] := hl
  refine lv_iload_n hx hb dX1_maskAt_0 rfl (lv_at hl 1 rfl) ?_
  refine lv_if_lt (tgt := 21) hx hb dX1_maskAt_1 (by decide) (fun c_1 => ?_) (fun c_1 => ?_)
  · refine lv_iconst (v := (-1)) hx hb dX1_maskAt_21 (by decide) ?_
    exact rd_iret hx hb hr hlocks (by unfold mkA; rw [if_neg (fun h => h.1 c_1)]) dX1_maskAt_22
  · refine lv_iload_n hx hb dX1_maskAt_4 rfl (lv_at hl 1 rfl) ?_
    refine lv_aload_n hx hb dX1_maskAt_5 rfl (lv_at hl 0 rfl) ?_
    refine va_get (D := G.1) (ws := ceW G ce mk (nI c2) up) (ci := 1) (v := .int (nI c2)) (C := RX1) (T := TX1) (N := 3) hx hb hts (fun _ h => List.mem_cons_of_mem _ (List.mem_append_right _ (h))) hown hK hP 0 rfl rfl 1 (by decide) (hts (.fieldLink RX1 19 "CreaseMaps$Census" "size" "I") (List.mem_of_getElem? (i := 1) rfl)) (fun _ h9 => h9) rfl dX1_maskAt_6 ?_
    refine lv_icmp_ge (tgt := 21) hx hb dX1_maskAt_9 (by decide) (fun c_9 => ?_) (fun c_9 => ?_)
    · refine lv_iconst (v := (-1)) hx hb dX1_maskAt_21 (by decide) ?_
      exact rd_iret hx hb hr hlocks (by unfold mkA; rw [if_neg (fun h => h.2 c_9)]) dX1_maskAt_22
    · refine lv_aload_n hx hb dX1_maskAt_12 rfl (lv_at hl 0 rfl) ?_
      refine va_get (D := G.1) (ws := ceW G ce mk (nI c2) up) (ci := 1) (v := .ref (ce 1)) (C := RX1) (T := TX1) (N := 3) hx hb hts (fun _ h => List.mem_cons_of_mem _ (List.mem_append_right _ (h))) hown hK hP 0 rfl rfl 0 (by decide) (hts (.fieldLink RX1 9 "CreaseMaps$Census" "masks" "[I") (List.mem_of_getElem? (i := 2) rfl)) (fun _ h9 => h9) rfl dX1_maskAt_13 ?_
      refine lv_iload_n hx hb dX1_maskAt_16 rfl (lv_at hl 1 rfl) ?_
      refine va_iald (D := G.1) (ws := ceW G ce mk (nI c2) up) hx hb hK hP 1 0 (n := 512) rfl rfl (by obtain ⟨j, hj, rfl⟩ := nI_of c_1; exact vp_in_nI (by have := fl c_9 (by omega) hj; omega) (by omega)) dX1_maskAt_17 ?_
      refine lv_goto (tgt := 22) hx hb dX1_maskAt_18 (by decide) ?_
      exact rd_iret hx hb hr hlocks (by unfold mkA; rw [if_pos ⟨c_1, c_9⟩]) dX1_maskAt_22

set_option maxHeartbeats 4000000 in
set_option maxRecDepth 100000 in
theorem c_X1_withMeeting (l : Launch) (G : GG) (ce : Nat → Nat) (mk : Nat → Int32) (up : Int32) (c2 : Nat) (hc : c2 ≤ 512) (x y : Nat) (hx2 : x ≤ 10) (hy2 : y ≤ 10) : RD l yX1_withMeeting wsX1_withMeeting 3 G [.ref (ce 0), .int (nI x), .int (nI y)] (ceW G ce mk (nI c2) up) (some (.int (sumI (fun i => b2 (mt (mk i) x y)) c2))) := by
  refine rd_of (cc := cX1_withMeeting) (maxL := 5) (ret := (some .int)) (by decide) rfl (Nat.le_of_ble_eq_true rfl) ?_
  intro pG eG s mG below meth cG hx hb hr hml hts hown hlocks hP hK hN ls hl
  have hown : s.vm.findClass RX1 = some mG.cls := hown
  have hl : lv_has ls 5 [(0, .ref (ce 0)), (1, .int (nI x)), (2, .int (nI y))] := hl
  refine lv_iconst (v := nI 0) hx hb dX1_withMeeting_0 (by decide) ?_
  refine lv_istore_n (lv' := [(3, .int (nI 0)), (0, .ref (ce 0)), (1, .int (nI x)), (2, .int (nI y))]) hx hb dX1_withMeeting_1 rfl hl (by decide) rfl (fun ls hl => ?_)
  refine lv_iconst (v := nI 0) hx hb dX1_withMeeting_2 (by decide) ?_
  refine lv_istore (lv' := [(4, .int (nI 0)), (3, .int (nI 0)), (0, .ref (ce 0)), (1, .int (nI x)), (2, .int (nI y))]) hx hb dX1_withMeeting_3 hl (by decide) rfl (fun ls hl => ?_)
  have L5 : ∀ (fu : Nat) (k : Nat) (hk : k ≤ c2), c2 + 1 ≤ k + fu → ∀ ls : Array Slot, lv_has ls 5 [(0, .ref (ce 0)), (1, .int (nI x)), (2, .int (nI y)), (3, .int (sumI (fun i => b2 (mt (mk i) x y)) k)), (4, .int (nI k))] → W pG l eG (RM 3 0 0) s mG ([.ref (ce 0), .int (nI x), .int (nI y)] : List Value).toArray below meth cG s.heap [] 0 0 (MQ below (rQ (some (.int (sumI (fun i => b2 (mt (mk i) x y)) c2)))) ([.ref (ce 0), .int (nI x), .int (nI y)] : List Value).toArray s 0 0 (fun _ => False)) (F0 mG 5 ls []) := by
    intro fu
    induction fu with
    | zero => intro k hk hfu; exact absurd hfu (by omega)
    | succ fu ih =>
      intro k hk hfu ls hl
      refine lv_iload hx hb dX1_withMeeting_5 (lv_at hl 4 rfl) ?_
      refine lv_aload_n hx hb dX1_withMeeting_7 rfl (lv_at hl 0 rfl) ?_
      refine va_get (D := G.1) (ws := ceW G ce mk (nI c2) up) (ci := 1) (v := .int (nI c2)) (C := RX1) (T := TX1) (N := 3) hx hb hts (fun _ h => List.mem_cons_of_mem _ (List.mem_append_right _ (h))) hown hK hP 0 rfl rfl 1 (by decide) (hts (.fieldLink RX1 19 "CreaseMaps$Census" "size" "I") (List.mem_of_getElem? (i := 1) rfl)) (fun _ h9 => h9) rfl dX1_withMeeting_8 ?_
      refine lv_icmp_ge (tgt := 35) hx hb dX1_withMeeting_11 (by decide) (fun c_11 => ?_) (fun c_11 => ?_)
      · have q1 : c2 ≤ k := fe c_11 (by omega) (by omega)
        refine lv_iload_n hx hb dX1_withMeeting_35 rfl (lv_at hl 3 rfl) ?_
        exact rd_iret hx hb hr hlocks (by rw [show k = c2 by omega]) dX1_withMeeting_36
      · have q1 : k < c2 := fl c_11 (by omega) (by omega)
        refine lv_iload_n hx hb dX1_withMeeting_14 rfl (lv_at hl 3 rfl) ?_
        refine lv_aload_n hx hb dX1_withMeeting_15 rfl (lv_at hl 0 rfl) ?_
        refine va_get (D := G.1) (ws := ceW G ce mk (nI c2) up) (ci := 1) (v := .ref (ce 1)) (C := RX1) (T := TX1) (N := 3) hx hb hts (fun _ h => List.mem_cons_of_mem _ (List.mem_append_right _ (h))) hown hK hP 0 rfl rfl 0 (by decide) (hts (.fieldLink RX1 9 "CreaseMaps$Census" "masks" "[I") (List.mem_of_getElem? (i := 2) rfl)) (fun _ h9 => h9) rfl dX1_withMeeting_16 ?_
        refine lv_iload hx hb dX1_withMeeting_19 (lv_at hl 4 rfl) ?_
        refine va_iald (D := G.1) (ws := ceW G ce mk (nI c2) up) hx hb hK hP 1 0 (n := 512) rfl rfl (by first | assumption | exact vp_in_nI (by omega) (by omega)) dX1_withMeeting_21 ?_
        refine lv_cgi (y := mk k) (by rw [nI_clamp (by omega)]) ?_
        refine lv_iload_n hx hb dX1_withMeeting_22 rfl (lv_at hl 1 rfl) ?_
        refine lv_iload_n hx hb dX1_withMeeting_23 rfl (lv_at hl 2 rfl) ?_
        refine rd_go (va_runS (As := [.int (mk k), .int (nI x), .int (nI y)]) (rest := [.int (sumI (fun i => b2 (mt (mk i) x y)) k)]) ⟨hx, hb, hml, hown, hts⟩ (c_X3_meeting l G (mk k) x y (by omega) (by omega)) (va_cwS 3 hts gX1_withMeeting_X3_meeting rfl rfl rfl (by decide +kernel) ⟨Nat.le_of_ble_eq_true rfl, Nat.le_of_ble_eq_true rfl⟩) (rS (ws := []) hK hN P_nil) rfl rfl hl.1 rfl (lv_room (Nat.le_of_ble_eq_true rfl)) dX1_withMeeting_24 ⟨Nat.le_of_ble_eq_true rfl, Nat.le_of_ble_eq_true rfl⟩) ?_
        refine lv_iadd hx hb dX1_withMeeting_27 ?_
        refine lv_istore_n (lv' := [(3, .int ((sumI (fun i => b2 (mt (mk i) x y)) k) + (b2 (mt (mk k) x y)))), (0, .ref (ce 0)), (1, .int (nI x)), (2, .int (nI y)), (4, .int (nI k))]) hx hb dX1_withMeeting_28 rfl hl (by decide) rfl (fun ls hl => ?_)
        refine lv_iinc (v := nI (k + 1)) (lv' := [(4, .int (nI (k + 1))), (3, .int ((sumI (fun i => b2 (mt (mk i) x y)) k) + (b2 (mt (mk k) x y)))), (0, .ref (ce 0)), (1, .int (nI x)), (2, .int (nI y))]) hx hb dX1_withMeeting_29 hl (k := 4) rfl (iincN k) (by decide) rfl (fun ls hl => ?_)
        refine lv_goto (tgt := 5) hx hb dX1_withMeeting_32 (by decide) ?_
        exact ih (k + 1) (by omega) (by omega) ls (lv_as (l1 := [(0, .ref (ce 0)), (1, .int (nI x)), (2, .int (nI y)), (3, .int ((sumI (fun i => b2 (mt (mk i) x y)) k) + (b2 (mt (mk k) x y)))), (4, .int (nI (k + 1)))]) (lv_sub hl [2, 3, 4, 1, 0] rfl) (by rfl))
  exact L5 (c2 + 1) 0 (by omega) (by omega) ls (lv_as (l1 := [(0, .ref (ce 0)), (1, .int (nI x)), (2, .int (nI y)), (3, .int (nI 0)), (4, .int (nI 0))]) (lv_sub hl [2, 3, 4, 1, 0] rfl) (by rfl))

set_option maxHeartbeats 4000000 in
set_option maxRecDepth 100000 in
theorem c_X1_surely (l : Launch) (G : GG) (ce : Nat → Nat) (mk : Nat → Int32) (up : Int32) (c2 : Nat) (hc : c2 ≤ 512) (cr : Int32) : RD l yX1_surely wsX1_surely 2 G [.ref (ce 0), .int cr] (ceW G ce mk (nI c2) up) (some (.int (sureC mk c2 cr))) := by
  refine rd_of (cc := cX1_surely) (maxL := 4) (ret := (some .int)) (by decide) rfl (Nat.le_of_ble_eq_true rfl) ?_
  intro pG eG s mG below meth cG hx hb hr hml hts hown hlocks hP hK hN ls hl
  have hown : s.vm.findClass RX1 = some mG.cls := hown
  have hl : lv_has ls 4 [(0, .ref (ce 0)), (1, .int cr)] := hl
  refine lv_iconst (v := nI 0) hx hb dX1_surely_0 (by decide) ?_
  refine lv_istore_n (lv' := [(2, .int (nI 0)), (0, .ref (ce 0)), (1, .int cr)]) hx hb dX1_surely_1 rfl hl (by decide) rfl (fun ls hl => ?_)
  refine lv_iconst (v := nI 0) hx hb dX1_surely_2 (by decide) ?_
  refine lv_istore_n (lv' := [(3, .int (nI 0)), (2, .int (nI 0)), (0, .ref (ce 0)), (1, .int cr)]) hx hb dX1_surely_3 rfl hl (by decide) rfl (fun ls hl => ?_)
  have L4 : ∀ (fu : Nat) (k : Nat) (hk : k ≤ c2), c2 + 1 ≤ k + fu → ∀ ls : Array Slot, lv_has ls 4 [(0, .ref (ce 0)), (1, .int cr), (2, .int (sumI (fun i => bI (mk i) cr) k)), (3, .int (nI k))] → W pG l eG (RM 2 0 0) s mG ([.ref (ce 0), .int cr] : List Value).toArray below meth cG s.heap [] 0 0 (MQ below (rQ (some (.int (sureC mk c2 cr)))) ([.ref (ce 0), .int cr] : List Value).toArray s 0 0 (fun _ => False)) (F0 mG 4 ls []) := by
    intro fu
    induction fu with
    | zero => intro k hk hfu; exact absurd hfu (by omega)
    | succ fu ih =>
      intro k hk hfu ls hl
      refine lv_iload_n hx hb dX1_surely_4 rfl (lv_at hl 3 rfl) ?_
      refine lv_aload_n hx hb dX1_surely_5 rfl (lv_at hl 0 rfl) ?_
      refine va_get (D := G.1) (ws := ceW G ce mk (nI c2) up) (ci := 1) (v := .int (nI c2)) (C := RX1) (T := TX1) (N := 3) hx hb hts (fun _ h => List.mem_cons_of_mem _ (List.mem_append_right _ (h))) hown hK hP 0 rfl rfl 1 (by decide) (hts (.fieldLink RX1 19 "CreaseMaps$Census" "size" "I") (List.mem_of_getElem? (i := 1) rfl)) (fun _ h9 => h9) rfl dX1_surely_6 ?_
      refine lv_icmp_ge (tgt := 31) hx hb dX1_surely_9 (by decide) (fun c_9 => ?_) (fun c_9 => ?_)
      · have q1 : c2 ≤ k := fe c_9 (by omega) (by omega)
        obtain rfl : c2 = k := by omega
        refine lv_iload_n hx hb dX1_surely_31 rfl (lv_at hl 2 rfl) ?_
        refine lv_aload_n hx hb dX1_surely_32 rfl (lv_at hl 0 rfl) ?_
        refine va_get (D := G.1) (ws := ceW G ce mk (nI c2) up) (ci := 1) (v := .int (nI c2)) (C := RX1) (T := TX1) (N := 3) hx hb hts (fun _ h => List.mem_cons_of_mem _ (List.mem_append_right _ (h))) hown hK hP 0 rfl rfl 1 (by decide) (hts (.fieldLink RX1 19 "CreaseMaps$Census" "size" "I") (List.mem_of_getElem? (i := 1) rfl)) (fun _ h9 => h9) rfl dX1_surely_33 ?_
        refine lv_icmp_ne (tgt := 41) hx hb dX1_surely_36 (by decide) (fun c_36 => ?_) (fun c_36 => ?_)
        · refine lv_iload_n hx hb dX1_surely_41 rfl (lv_at hl 2 rfl) ?_
          refine lv_if_ne (tgt := 49) hx hb dX1_surely_42 (by decide) (fun c_42 => ?_) (fun c_42 => ?_)
          · refine lv_iconst (v := (-1)) hx hb dX1_surely_49 (by decide) ?_
            exact rd_iret hx hb hr hlocks (by unfold sureC; first | exact (if_pos c_36).symm | (rw [if_neg c_36]; first | exact (if_pos c_42).symm | exact (if_neg c_42).symm)) dX1_surely_50
          · refine lv_iconst (v := nI 0) hx hb dX1_surely_45 (by decide) ?_
            refine lv_goto (tgt := 50) hx hb dX1_surely_46 (by decide) ?_
            exact rd_iret hx hb hr hlocks (by unfold sureC; first | exact (if_pos c_36).symm | (rw [if_neg c_36]; first | exact (if_pos c_42).symm | exact (if_neg c_42).symm)) dX1_surely_50
        · refine lv_iconst (v := nI 1) hx hb dX1_surely_39 (by decide) ?_
          exact rd_iret hx hb hr hlocks (by unfold sureC; first | exact (if_pos c_36).symm | (rw [if_neg c_36]; first | exact (if_pos c_42).symm | exact (if_neg c_42).symm)) dX1_surely_40
      · have q1 : k < c2 := fl c_9 (by omega) (by omega)
        refine lv_iload_n hx hb dX1_surely_12 rfl (lv_at hl 2 rfl) ?_
        refine lv_aload_n hx hb dX1_surely_13 rfl (lv_at hl 0 rfl) ?_
        refine va_get (D := G.1) (ws := ceW G ce mk (nI c2) up) (ci := 1) (v := .ref (ce 1)) (C := RX1) (T := TX1) (N := 3) hx hb hts (fun _ h => List.mem_cons_of_mem _ (List.mem_append_right _ (h))) hown hK hP 0 rfl rfl 0 (by decide) (hts (.fieldLink RX1 9 "CreaseMaps$Census" "masks" "[I") (List.mem_of_getElem? (i := 2) rfl)) (fun _ h9 => h9) rfl dX1_surely_14 ?_
        refine lv_iload_n hx hb dX1_surely_17 rfl (lv_at hl 3 rfl) ?_
        refine va_iald (D := G.1) (ws := ceW G ce mk (nI c2) up) hx hb hK hP 1 0 (n := 512) rfl rfl (by first | assumption | exact vp_in_nI (by omega) (by omega)) dX1_surely_18 ?_
        refine lv_cgi (y := mk k) (by rw [nI_clamp (by omega)]) ?_
        refine lv_iload_n hx hb dX1_surely_19 rfl (lv_at hl 1 rfl) ?_
        refine rd_go (va_runSN (As := [.int (mk k), .int cr]) (rest := [.int (sumI (fun i => bI (mk i) cr) k)]) ⟨hx, hb, hml, hown, hts⟩ (c_X6_bit l G (mk k) cr) ⟨va_cnB 2 hts gX1_surely_X6_bit_n44 rfl rfl rfl hN.2.2.2.1 (hts (.initialized RX6) (List.mem_of_getElem? (i := 4) rfl)) (by decide +kernel) ⟨Nat.le_of_ble_eq_true rfl, Nat.le_of_ble_eq_true rfl⟩, (hts (.static yX6_bit) (List.mem_of_getElem? (i := 3) rfl)), trivial⟩ (rS (ws := []) hK hN P_nil) rfl rfl hl.1 rfl (lv_room (Nat.le_of_ble_eq_true rfl)) dX1_surely_20 ⟨Nat.le_of_ble_eq_true rfl, Nat.le_of_ble_eq_true rfl⟩) ?_
        refine lv_iadd hx hb dX1_surely_23 ?_
        refine lv_istore_n (lv' := [(2, .int ((sumI (fun i => bI (mk i) cr) k) + (bI (mk k) cr))), (0, .ref (ce 0)), (1, .int cr), (3, .int (nI k))]) hx hb dX1_surely_24 rfl hl (by decide) rfl (fun ls hl => ?_)
        refine lv_iinc (v := nI (k + 1)) (lv' := [(3, .int (nI (k + 1))), (2, .int ((sumI (fun i => bI (mk i) cr) k) + (bI (mk k) cr))), (0, .ref (ce 0)), (1, .int cr)]) hx hb dX1_surely_25 hl (k := 3) rfl (iincN k) (by decide) rfl (fun ls hl => ?_)
        refine lv_goto (tgt := 4) hx hb dX1_surely_28 (by decide) ?_
        exact ih (k + 1) (by omega) (by omega) ls (lv_as (l1 := [(0, .ref (ce 0)), (1, .int cr), (2, .int ((sumI (fun i => bI (mk i) cr) k) + (bI (mk k) cr))), (3, .int (nI (k + 1)))]) (lv_sub hl [2, 3, 1, 0] rfl) (by rfl))
  exact L4 (c2 + 1) 0 (by omega) (by omega) ls (lv_as (l1 := [(0, .ref (ce 0)), (1, .int cr), (2, .int (nI 0)), (3, .int (nI 0))]) (lv_sub hl [2, 3, 1, 0] rfl) (by rfl))


set_option maxHeartbeats 4000000 in
set_option maxRecDepth 100000 in
theorem c_X3_placeOf (l : Launch) (G : GG) (fo : Int32) (n : Nat) (hn : n ≤ 10) : RD l yX3_placeOf wsX3_placeOf 1 G [.int fo, .int (nI n)] (([] : va_W)) (some (.int ((pw fo n).1))) := by
  refine rd_of (cc := cX3_placeOf) (maxL := 5) (ret := (some .int)) (by decide) rfl (Nat.le_of_ble_eq_true rfl) ?_
  intro pG eG s mG below meth cG hx hb hr hml hts hown hlocks hP hK hN ls hl
  have hown : s.vm.findClass RX3 = some mG.cls := hown
  have hl : lv_has ls 5 [(0, .int fo), (1, .int (nI n))] := hl
  refine lv_iconst (v := nI 0) hx hb dX3_placeOf_0 (by decide) ?_
  refine lv_istore_n (lv' := [(2, .int (nI 0)), (0, .int fo), (1, .int (nI n))]) hx hb dX3_placeOf_1 rfl hl (by decide) rfl (fun ls hl => ?_)
  refine lv_iconst (v := nI 1) hx hb dX3_placeOf_2 (by decide) ?_
  refine lv_istore_n (lv' := [(3, .int (nI 1)), (2, .int (nI 0)), (0, .int fo), (1, .int (nI n))]) hx hb dX3_placeOf_3 rfl hl (by decide) rfl (fun ls hl => ?_)
  refine lv_iconst (v := nI 0) hx hb dX3_placeOf_4 (by decide) ?_
  refine lv_istore (lv' := [(4, .int (nI 0)), (3, .int (nI 1)), (2, .int (nI 0)), (0, .int fo), (1, .int (nI n))]) hx hb dX3_placeOf_5 hl (by decide) rfl (fun ls hl => ?_)
  have L7 : ∀ (fu : Nat) (k : Nat) (hk : k ≤ n), n + 1 ≤ k + fu → ∀ ls : Array Slot, lv_has ls 5 [(0, .int fo), (1, .int (nI n)), (2, .int ((pw fo k).1)), (3, .int ((pw fo k).2)), (4, .int (nI k))] → W pG l eG (RM 1 0 0) s mG ([.int fo, .int (nI n)] : List Value).toArray below meth cG s.heap [] 0 0 (MQ below (rQ (some (.int ((pw fo n).1)))) ([.int fo, .int (nI n)] : List Value).toArray s 0 0 (fun _ => False)) (F0 mG 7 ls []) := by
    intro fu
    induction fu with
    | zero => intro k hk hfu; exact absurd hfu (by omega)
    | succ fu ih =>
      intro k hk hfu ls hl
      refine lv_iload hx hb dX3_placeOf_7 (lv_at hl 4 rfl) ?_
      refine lv_iload_n hx hb dX3_placeOf_9 rfl (lv_at hl 1 rfl) ?_
      refine lv_icmp_ge (tgt := 39) hx hb dX3_placeOf_10 (by decide) (fun c_10 => ?_) (fun c_10 => ?_)
      · have q1 : n ≤ k := fe c_10 (by omega) (by omega)
        refine lv_iload_n hx hb dX3_placeOf_39 rfl (lv_at hl 2 rfl) ?_
        exact rd_iret hx hb hr hlocks (by rw [show k = n by omega]) dX3_placeOf_40
      · have q1 : k < n := fl c_10 (by omega) (by omega)
        refine lv_iload_n hx hb dX3_placeOf_13 rfl (lv_at hl 0 rfl) ?_
        refine lv_iload hx hb dX3_placeOf_14 (lv_at hl 4 rfl) ?_
        refine lv_ishr hx hb dX3_placeOf_16 ?_
        refine lv_iconst (v := nI 1) hx hb dX3_placeOf_17 (by decide) ?_
        refine lv_iand hx hb dX3_placeOf_18 ?_
        refine lv_iconst (v := nI 1) hx hb dX3_placeOf_19 (by decide) ?_
        refine lv_icmp_ne (tgt := 29) hx hb dX3_placeOf_20 (by decide) (fun c_20 => ?_) (fun c_20 => ?_)
        · have c_20 : ¬ bI fo (nI k) = nI 1 := c_20
          refine lv_iload_n hx hb dX3_placeOf_29 rfl (lv_at hl 2 rfl) ?_
          refine lv_iload_n hx hb dX3_placeOf_30 rfl (lv_at hl 3 rfl) ?_
          refine lv_iadd hx hb dX3_placeOf_31 ?_
          refine lv_istore_n (lv' := [(2, .int (((pw fo k).1) + ((pw fo k).2))), (0, .int fo), (1, .int (nI n)), (3, .int ((pw fo k).2)), (4, .int (nI k))]) hx hb dX3_placeOf_32 rfl hl (by decide) rfl (fun ls hl => ?_)
          refine lv_iinc (v := nI (k + 1)) (lv' := [(4, .int (nI (k + 1))), (2, .int (((pw fo k).1) + ((pw fo k).2))), (0, .int fo), (1, .int (nI n)), (3, .int ((pw fo k).2))]) hx hb dX3_placeOf_33 hl (k := 4) rfl (iincN k) (by decide) rfl (fun ls hl => ?_)
          refine lv_goto (tgt := 7) hx hb dX3_placeOf_36 (by decide) ?_
          exact ih (k + 1) (by omega) (by omega) ls (lv_as (l1 := [(0, .int fo), (1, .int (nI n)), (2, .int (((pw fo k).1) + ((pw fo k).2))), (3, .int ((pw fo k).2)), (4, .int (nI (k + 1)))]) (lv_sub hl [2, 3, 1, 4, 0] rfl) (by first | rw [pw_t c_20] | rw [pw_f c_20]))
        · have c_20 : bI fo (nI k) = nI 1 := c_20
          refine lv_iload_n hx hb dX3_placeOf_23 rfl (lv_at hl 3 rfl) ?_
          refine lv_ineg hx hb dX3_placeOf_24 ?_
          refine lv_istore_n (lv' := [(3, .int (-((pw fo k).2))), (0, .int fo), (1, .int (nI n)), (2, .int ((pw fo k).1)), (4, .int (nI k))]) hx hb dX3_placeOf_25 rfl hl (by decide) rfl (fun ls hl => ?_)
          refine lv_goto (tgt := 33) hx hb dX3_placeOf_26 (by decide) ?_
          refine lv_iinc (v := nI (k + 1)) (lv' := [(4, .int (nI (k + 1))), (3, .int (-((pw fo k).2))), (0, .int fo), (1, .int (nI n)), (2, .int ((pw fo k).1))]) hx hb dX3_placeOf_33 hl (k := 4) rfl (iincN k) (by decide) rfl (fun ls hl => ?_)
          refine lv_goto (tgt := 7) hx hb dX3_placeOf_36 (by decide) ?_
          exact ih (k + 1) (by omega) (by omega) ls (lv_as (l1 := [(0, .int fo), (1, .int (nI n)), (2, .int ((pw fo k).1)), (3, .int (-((pw fo k).2))), (4, .int (nI (k + 1)))]) (lv_sub hl [2, 3, 4, 1, 0] rfl) (by first | rw [pw_t c_20] | rw [pw_f c_20]))
  exact L7 (n + 1) 0 (by omega) (by omega) ls (lv_as (l1 := [(0, .int fo), (1, .int (nI n)), (2, .int (nI 0)), (3, .int (nI 1)), (4, .int (nI 0))]) (lv_sub hl [3, 4, 2, 1, 0] rfl) (by rfl))

set_option maxHeartbeats 4000000 in
set_option maxRecDepth 100000 in
theorem c_X3_meeting (l : Launch) (G : GG) (fo : Int32) (a b : Nat) (ha : a ≤ 10) (hb2 : b ≤ 10) : RD l yX3_meeting wsX3_meeting 2 G [.int fo, .int (nI a), .int (nI b)] (([] : va_W)) (some (.int (b2 (mt fo a b)))) := by
  refine rd_of (cc := cX3_meeting) (maxL := 5) (ret := (some .int)) (by decide) rfl (Nat.le_of_ble_eq_true rfl) ?_
  intro pG eG s mG below meth cG hx hb hr hml hts hown hlocks hP hK hN ls hl
  have hown : s.vm.findClass RX3 = some mG.cls := hown
  have hl : lv_has ls 5 [(0, .int fo), (1, .int (nI a)), (2, .int (nI b))] := hl
  have hdf : dif a b ≤ 10 := by unfold dif; omega
  refine lv_iload_n hx hb dX3_meeting_0 rfl (lv_at hl 1 rfl) ?_
  refine lv_iload_n hx hb dX3_meeting_1 rfl (lv_at hl 2 rfl) ?_
  refine va_mmin hx hb (hml.trans hl.1.symm) hown (hts (.methodLink RX3 9 Lib.Math.min.name) (List.mem_of_getElem? (i := 1) rfl)) (hts (.static Lib.Math.min.name) (List.mem_of_getElem? (i := 2) rfl)) (hts (.initialized "java/lang/Math") (List.mem_of_getElem? (i := 3) rfl)) (hts (.code Lib.Math.min.name Lib.Math.min.code 2 (some .int)) (List.mem_of_getElem? (i := 4) rfl)) (Nat.le_of_ble_eq_true rfl) (Nat.le_of_ble_eq_true rfl) (Nat.le_of_ble_eq_true rfl) (Nat.le_of_ble_eq_true rfl) dX3_meeting_2 ?_
  refine lv_cgi (y := nI (min a b)) (mnN _ _ (by omega) (by omega)) ?_
  refine lv_istore_n (lv' := [(3, .int (nI (min a b))), (0, .int fo), (1, .int (nI a)), (2, .int (nI b))]) hx hb dX3_meeting_5 rfl hl (by decide) rfl (fun ls hl => ?_)
  refine lv_iload_n hx hb dX3_meeting_6 rfl (lv_at hl 2 rfl) ?_
  refine lv_iload_n hx hb dX3_meeting_7 rfl (lv_at hl 3 rfl) ?_
  refine lv_isub hx hb dX3_meeting_8 ?_
  refine va_mabs hx hb (hml.trans hl.1.symm) hown (hts (.methodLink RX3 15 Lib.Math.abs.name) (List.mem_of_getElem? (i := 5) rfl)) (hts (.static Lib.Math.abs.name) (List.mem_of_getElem? (i := 6) rfl)) (hts (.initialized "java/lang/Math") (List.mem_of_getElem? (i := 3) rfl)) (hts (.code Lib.Math.abs.name Lib.Math.abs.code 1 (some .int)) (List.mem_of_getElem? (i := 7) rfl)) (Nat.le_of_ble_eq_true rfl) (Nat.le_of_ble_eq_true rfl) (Nat.le_of_ble_eq_true rfl) (Nat.le_of_ble_eq_true rfl) dX3_meeting_9 ?_
  refine lv_cgi (y := nI (dif a b)) (abN _ _ (by omega) (by omega)) ?_
  refine lv_istore (lv' := [(4, .int (nI (dif a b))), (3, .int (nI (min a b))), (0, .int fo), (1, .int (nI a)), (2, .int (nI b))]) hx hb dX3_meeting_12 hl (by decide) rfl (fun ls hl => ?_)
  refine lv_iload_n hx hb dX3_meeting_14 rfl (lv_at hl 2 rfl) ?_
  refine lv_iload_n hx hb dX3_meeting_15 rfl (lv_at hl 1 rfl) ?_
  refine lv_ishr hx hb dX3_meeting_16 ?_
  refine lv_iload hx hb dX3_meeting_17 (lv_at hl 0 rfl) ?_
  refine rd_go (va_runS (As := [.int (fo >>> ((nI (min a b)) &&& 31)), .int (nI (dif a b))]) (rest := []) ⟨hx, hb, hml, hown, hts⟩ (c_X3_placeOf l G (fo >>> ((nI (min a b)) &&& 31)) (dif a b) (by omega)) (va_cwS 2 hts gX3_meeting_X3_placeOf rfl rfl rfl (by decide +kernel) ⟨Nat.le_of_ble_eq_true rfl, Nat.le_of_ble_eq_true rfl⟩) (rS (ws := []) hK hN P_nil) rfl rfl hl.1 rfl (lv_room (Nat.le_of_ble_eq_true rfl)) dX3_meeting_19 ⟨Nat.le_of_ble_eq_true rfl, Nat.le_of_ble_eq_true rfl⟩) ?_
  refine lv_if_ne (tgt := 29) hx hb dX3_meeting_22 (by decide) (fun c_22 => ?_) (fun c_22 => ?_)
  · refine lv_iconst (v := nI 0) hx hb dX3_meeting_29 (by decide) ?_
    exact rd_iret hx hb hr hlocks (by exact b2q c_22) dX3_meeting_30
  · refine lv_iconst (v := nI 1) hx hb dX3_meeting_25 (by decide) ?_
    refine lv_goto (tgt := 30) hx hb dX3_meeting_26 (by decide) ?_
    exact rd_iret hx hb hr hlocks (by exact b2p c_22) dX3_meeting_30

set_option maxHeartbeats 4000000 in
set_option maxRecDepth 100000 in
theorem c_X3_panelsWith (l : Launch) (G : GG) (fo : Int32) (a : Nat) (ha : a ≤ 9) : RD l yX3_panelsWith wsX3_panelsWith 3 G [.int fo, .int (nI a)] (([] : va_W)) (some (.int (sumI (fun j => b2 (mt fo a j)) 10))) := by
  refine rd_of (cc := cX3_panelsWith) (maxL := 4) (ret := (some .int)) (by decide) rfl (Nat.le_of_ble_eq_true rfl) ?_
  intro pG eG s mG below meth cG hx hb hr hml hts hown hlocks hP hK hN ls hl
  have hown : s.vm.findClass RX3 = some mG.cls := hown
  have hl : lv_has ls 4 [(0, .int fo), (1, .int (nI a))] := hl
  refine lv_iconst (v := nI 0) hx hb dX3_panelsWith_0 (by decide) ?_
  refine lv_istore_n (lv' := [(2, .int (nI 0)), (0, .int fo), (1, .int (nI a))]) hx hb dX3_panelsWith_1 rfl hl (by decide) rfl (fun ls hl => ?_)
  refine lv_iconst (v := nI 0) hx hb dX3_panelsWith_2 (by decide) ?_
  refine lv_istore_n (lv' := [(3, .int (nI 0)), (2, .int (nI 0)), (0, .int fo), (1, .int (nI a))]) hx hb dX3_panelsWith_3 rfl hl (by decide) rfl (fun ls hl => ?_)
  have L4 : ∀ (fu : Nat) (k : Nat) (hk : k ≤ 10), 10 + 1 ≤ k + fu → ∀ ls : Array Slot, lv_has ls 4 [(0, .int fo), (1, .int (nI a)), (2, .int (sumI (fun j => b2 (mt fo a j)) k)), (3, .int (nI k))] → W pG l eG (RM 3 0 0) s mG ([.int fo, .int (nI a)] : List Value).toArray below meth cG s.heap [] 0 0 (MQ below (rQ (some (.int (sumI (fun j => b2 (mt fo a j)) 10)))) ([.int fo, .int (nI a)] : List Value).toArray s 0 0 (fun _ => False)) (F0 mG 4 ls []) := by
    intro fu
    induction fu with
    | zero => intro k hk hfu; exact absurd hfu (by omega)
    | succ fu ih =>
      intro k hk hfu ls hl
      refine lv_iload_n hx hb dX3_panelsWith_4 rfl (lv_at hl 3 rfl) ?_
      refine lv_bipush (v := nI 10) hx hb dX3_panelsWith_5 (by decide) ?_
      refine lv_icmp_ge (tgt := 25) hx hb dX3_panelsWith_7 (by decide) (fun c_7 => ?_) (fun c_7 => ?_)
      · have q1 : 10 ≤ k := fe c_7 (by omega) (by omega)
        refine lv_iload_n hx hb dX3_panelsWith_25 rfl (lv_at hl 2 rfl) ?_
        exact rd_iret hx hb hr hlocks (by rw [show k = 10 by omega]) dX3_panelsWith_26
      · have q1 : k < 10 := fl c_7 (by omega) (by omega)
        refine lv_iload_n hx hb dX3_panelsWith_10 rfl (lv_at hl 2 rfl) ?_
        refine lv_iload_n hx hb dX3_panelsWith_11 rfl (lv_at hl 0 rfl) ?_
        refine lv_iload_n hx hb dX3_panelsWith_12 rfl (lv_at hl 1 rfl) ?_
        refine lv_iload_n hx hb dX3_panelsWith_13 rfl (lv_at hl 3 rfl) ?_
        refine rd_go (va_runS (As := [.int fo, .int (nI a), .int (nI k)]) (rest := [.int (sumI (fun j => b2 (mt fo a j)) k)]) ⟨hx, hb, hml, hown, hts⟩ (c_X3_meeting l G fo a k (by omega) (by omega)) (va_cwS 3 hts gX3_panelsWith_X3_meeting rfl rfl rfl (by decide +kernel) ⟨Nat.le_of_ble_eq_true rfl, Nat.le_of_ble_eq_true rfl⟩) (rS (ws := []) hK hN P_nil) rfl rfl hl.1 rfl (lv_room (Nat.le_of_ble_eq_true rfl)) dX3_panelsWith_14 ⟨Nat.le_of_ble_eq_true rfl, Nat.le_of_ble_eq_true rfl⟩) ?_
        refine lv_iadd hx hb dX3_panelsWith_17 ?_
        refine lv_istore_n (lv' := [(2, .int ((sumI (fun j => b2 (mt fo a j)) k) + (b2 (mt fo a k)))), (0, .int fo), (1, .int (nI a)), (3, .int (nI k))]) hx hb dX3_panelsWith_18 rfl hl (by decide) rfl (fun ls hl => ?_)
        refine lv_iinc (v := nI (k + 1)) (lv' := [(3, .int (nI (k + 1))), (2, .int ((sumI (fun j => b2 (mt fo a j)) k) + (b2 (mt fo a k)))), (0, .int fo), (1, .int (nI a))]) hx hb dX3_panelsWith_19 hl (k := 3) rfl (iincN k) (by decide) rfl (fun ls hl => ?_)
        refine lv_goto (tgt := 4) hx hb dX3_panelsWith_22 (by decide) ?_
        exact ih (k + 1) (by omega) (by omega) ls (lv_as (l1 := [(0, .int fo), (1, .int (nI a)), (2, .int ((sumI (fun j => b2 (mt fo a j)) k) + (b2 (mt fo a k)))), (3, .int (nI (k + 1)))]) (lv_sub hl [2, 3, 1, 0] rfl) (by rfl))
  exact L4 11 0 (by omega) (by omega) ls (lv_as (l1 := [(0, .int fo), (1, .int (nI a)), (2, .int (nI 0)), (3, .int (nI 0))]) (lv_sub hl [2, 3, 1, 0] rfl) (by rfl))

set_option maxHeartbeats 4000000 in
set_option maxRecDepth 100000 in
theorem c_X3_width (l : Launch) (G : GG) (fo : Int32) : RD l yX3_width wsX3_width 2 G [.int fo] (([] : va_W)) (some (.int ((wd fo 10).2 - (wd fo 10).1 + nI 1))) := by
  refine rd_of (cc := cX3_width) (maxL := 5) (ret := (some .int)) (by decide) rfl (Nat.le_of_ble_eq_true rfl) ?_
  intro pG eG s mG below meth cG hx hb hr hml hts hown hlocks hP hK hN ls hl
  have hown : s.vm.findClass RX3 = some mG.cls := hown
  have hl : lv_has ls 5 [(0, .int fo)] := hl
  refine lv_iconst (v := nI 0) hx hb dX3_width_0 (by decide) ?_
  refine lv_istore_n (lv' := [(1, .int (nI 0)), (0, .int fo)]) hx hb dX3_width_1 rfl hl (by decide) rfl (fun ls hl => ?_)
  refine lv_iconst (v := nI 0) hx hb dX3_width_2 (by decide) ?_
  refine lv_istore_n (lv' := [(2, .int (nI 0)), (1, .int (nI 0)), (0, .int fo)]) hx hb dX3_width_3 rfl hl (by decide) rfl (fun ls hl => ?_)
  refine lv_iconst (v := nI 1) hx hb dX3_width_4 (by decide) ?_
  refine lv_istore_n (lv' := [(3, .int (nI 1)), (2, .int (nI 0)), (1, .int (nI 0)), (0, .int fo)]) hx hb dX3_width_5 rfl hl (by decide) rfl (fun ls hl => ?_)
  have L6 : ∀ (fu : Nat) (k : Nat) (hk : k ≤ 10) (hk1 : 1 ≤ k), 10 + 1 ≤ k + fu → ∀ ls : Array Slot, lv_has ls 5 [(0, .int fo), (1, .int ((wd fo k).1)), (2, .int ((wd fo k).2)), (3, .int (nI k))] → W pG l eG (RM 2 0 0) s mG ([.int fo] : List Value).toArray below meth cG s.heap [] 0 0 (MQ below (rQ (some (.int ((wd fo 10).2 - (wd fo 10).1 + nI 1)))) ([.int fo] : List Value).toArray s 0 0 (fun _ => False)) (F0 mG 6 ls []) := by
    intro fu
    induction fu with
    | zero => intro k hk hk1 hfu; exact absurd hfu (by omega)
    | succ fu ih =>
      intro k hk hk1 hfu ls hl
      refine lv_iload_n hx hb dX3_width_6 rfl (lv_at hl 3 rfl) ?_
      refine lv_bipush (v := nI 10) hx hb dX3_width_7 (by decide) ?_
      refine lv_icmp_ge (tgt := 39) hx hb dX3_width_9 (by decide) (fun c_9 => ?_) (fun c_9 => ?_)
      · have q1 : 10 ≤ k := fe c_9 (by omega) (by omega)
        refine lv_iload_n hx hb dX3_width_39 rfl (lv_at hl 2 rfl) ?_
        refine lv_iload_n hx hb dX3_width_40 rfl (lv_at hl 1 rfl) ?_
        refine lv_isub hx hb dX3_width_41 ?_
        refine lv_iconst (v := nI 1) hx hb dX3_width_42 (by decide) ?_
        refine lv_iadd hx hb dX3_width_43 ?_
        exact rd_iret hx hb hr hlocks (by rw [show k = 10 by omega]) dX3_width_44
      · have q1 : k < 10 := fl c_9 (by omega) (by omega)
        refine lv_iload_n hx hb dX3_width_12 rfl (lv_at hl 0 rfl) ?_
        refine lv_iload_n hx hb dX3_width_13 rfl (lv_at hl 3 rfl) ?_
        refine rd_go (va_runS (As := [.int fo, .int (nI k)]) (rest := []) ⟨hx, hb, hml, hown, hts⟩ (c_X3_placeOf l G fo k (by omega)) (va_cwS 2 hts gX3_width_X3_placeOf rfl rfl rfl (by decide +kernel) ⟨Nat.le_of_ble_eq_true rfl, Nat.le_of_ble_eq_true rfl⟩) (rS (ws := []) hK hN P_nil) rfl rfl hl.1 rfl (lv_room (Nat.le_of_ble_eq_true rfl)) dX3_width_14 ⟨Nat.le_of_ble_eq_true rfl, Nat.le_of_ble_eq_true rfl⟩) ?_
        refine lv_istore (lv' := [(4, .int ((pw fo k).1)), (0, .int fo), (1, .int ((wd fo k).1)), (2, .int ((wd fo k).2)), (3, .int (nI k))]) hx hb dX3_width_17 hl (by decide) rfl (fun ls hl => ?_)
        refine lv_iload_n hx hb dX3_width_19 rfl (lv_at hl 2 rfl) ?_
        refine lv_iload hx hb dX3_width_20 (lv_at hl 0 rfl) ?_
        refine va_mmin hx hb (hml.trans hl.1.symm) hown (hts (.methodLink RX3 9 Lib.Math.min.name) (List.mem_of_getElem? (i := 1) rfl)) (hts (.static Lib.Math.min.name) (List.mem_of_getElem? (i := 2) rfl)) (hts (.initialized "java/lang/Math") (List.mem_of_getElem? (i := 3) rfl)) (hts (.code Lib.Math.min.name Lib.Math.min.code 2 (some .int)) (List.mem_of_getElem? (i := 4) rfl)) (Nat.le_of_ble_eq_true rfl) (Nat.le_of_ble_eq_true rfl) (Nat.le_of_ble_eq_true rfl) (Nat.le_of_ble_eq_true rfl) dX3_width_22 ?_
        refine lv_istore_n (lv' := [(1, .int (if ((pw fo k).1) < ((wd fo k).1) then ((pw fo k).1) else ((wd fo k).1))), (4, .int ((pw fo k).1)), (0, .int fo), (2, .int ((wd fo k).2)), (3, .int (nI k))]) hx hb dX3_width_25 rfl hl (by decide) rfl (fun ls hl => ?_)
        refine lv_iload_n hx hb dX3_width_26 rfl (lv_at hl 3 rfl) ?_
        refine lv_iload hx hb dX3_width_27 (lv_at hl 1 rfl) ?_
        refine va_mmax hx hb (hml.trans hl.1.symm) hown (hts (.methodLink RX3 28 Lib.Math.max.name) (List.mem_of_getElem? (i := 5) rfl)) (hts (.static Lib.Math.max.name) (List.mem_of_getElem? (i := 6) rfl)) (hts (.initialized "java/lang/Math") (List.mem_of_getElem? (i := 3) rfl)) (hts (.code Lib.Math.max.name Lib.Math.max.code 2 (some .int)) (List.mem_of_getElem? (i := 7) rfl)) (Nat.le_of_ble_eq_true rfl) (Nat.le_of_ble_eq_true rfl) (Nat.le_of_ble_eq_true rfl) (Nat.le_of_ble_eq_true rfl) dX3_width_29 ?_
        refine lv_istore_n (lv' := [(2, .int (if ((wd fo k).2) < ((pw fo k).1) then ((pw fo k).1) else ((wd fo k).2))), (1, .int (if ((pw fo k).1) < ((wd fo k).1) then ((pw fo k).1) else ((wd fo k).1))), (4, .int ((pw fo k).1)), (0, .int fo), (3, .int (nI k))]) hx hb dX3_width_32 rfl hl (by decide) rfl (fun ls hl => ?_)
        refine lv_iinc (v := nI (k + 1)) (lv' := [(3, .int (nI (k + 1))), (2, .int (if ((wd fo k).2) < ((pw fo k).1) then ((pw fo k).1) else ((wd fo k).2))), (1, .int (if ((pw fo k).1) < ((wd fo k).1) then ((pw fo k).1) else ((wd fo k).1))), (4, .int ((pw fo k).1)), (0, .int fo)]) hx hb dX3_width_33 hl (k := 4) rfl (iincN k) (by decide) rfl (fun ls hl => ?_)
        refine lv_goto (tgt := 6) hx hb dX3_width_36 (by decide) ?_
        exact ih (k + 1) (by omega) (by omega) (by omega) ls (lv_as (l1 := [(0, .int fo), (1, .int (if ((pw fo k).1) < ((wd fo k).1) then ((pw fo k).1) else ((wd fo k).1))), (2, .int (if ((wd fo k).2) < ((pw fo k).1) then ((pw fo k).1) else ((wd fo k).2))), (3, .int (nI (k + 1)))]) (lv_sub hl [4, 2, 1, 0] rfl) (by rfl))
  exact L6 11 1 (by omega) (by omega) (by omega) ls (lv_as (l1 := [(0, .int fo), (1, .int (nI 0)), (2, .int (nI 0)), (3, .int (nI 1))]) (lv_sub hl [3, 2, 1, 0] rfl) (by rw [wd_1]))


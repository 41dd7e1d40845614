set_option maxHeartbeats 4000000 in
set_option maxRecDepth 100000 in
theorem t_X6_requireCrease (l : Launch) (hfl : l.stackTraces = false) (G : GG) (x : Int32) (hx0 : ¬ inB x (nI 0) (nI 8)) : TH l yX6_requireCrease wsX6_requireCrease 6 G [.int x] (([] : va_W)) IOO := by
  refine th_of (cc := cX6_requireCrease) (maxL := 1) (ret := none) (by decide) rfl (Nat.le_of_ble_eq_true rfl) ?_
  intro pG eG s mG below meth cG hx hb hml hts hown hlocks hex hP hK hN hX hZ ls hl
  have hown : s.vm.findClass RX6 = some mG.cls := hown
  have hl : lv_has ls 1 [(0, .int x)] := hl
  refine lv_iload_n hx hb dX6_requireCrease_0 rfl (lv_at hl 0 rfl) ?_
  refine lv_if_lt (tgt := 10) hx hb dX6_requireCrease_1 (by decide) (fun c_1 => ?_) (fun c_1 => ?_)
  · exact th_rowW (text := "no such crease") (ik := 184) (is := 301) (ic := 186) hx hb hfl (by decide) hown th_IOO (hts (.classLink RX6 184 "java/lang/IndexOutOfBoundsException") (List.mem_of_getElem? (i := 1) rfl)) (hts (.initialized "java/lang/IndexOutOfBoundsException") (List.mem_of_getElem? (i := 2) rfl)) hX.1.1 hX.2.1.2.2 (fun w h => hts w (List.mem_cons_of_mem _ (List.mem_append_right _ (h)))) (hX.2.2 (301, "no such crease") (by decide +kernel)) hZ (hl.1.trans hml.symm) dX6_requireCrease_10 dX6_requireCrease_13 dX6_requireCrease_14 dX6_requireCrease_17 dX6_requireCrease_20 hex hlocks
  · refine lv_iload_n hx hb dX6_requireCrease_4 rfl (lv_at hl 0 rfl) ?_
    refine lv_bipush (v := nI 9) hx hb dX6_requireCrease_5 (by decide) ?_
    refine lv_icmp_lt (tgt := 21) hx hb dX6_requireCrease_7 (by decide) (fun c_7 => ?_) (fun c_7 => ?_)
    · exact absurd (show inB x (nI 0) (nI 8) from ⟨ni0 c_1, le_of_lt1 (by decide) c_7⟩) hx0
    · exact th_rowW (text := "no such crease") (ik := 184) (is := 301) (ic := 186) hx hb hfl (by decide) hown th_IOO (hts (.classLink RX6 184 "java/lang/IndexOutOfBoundsException") (List.mem_of_getElem? (i := 1) rfl)) (hts (.initialized "java/lang/IndexOutOfBoundsException") (List.mem_of_getElem? (i := 2) rfl)) hX.1.1 hX.2.1.2.2 (fun w h => hts w (List.mem_cons_of_mem _ (List.mem_append_right _ (h)))) (hX.2.2 (301, "no such crease") (by decide +kernel)) hZ (hl.1.trans hml.symm) dX6_requireCrease_10 dX6_requireCrease_13 dX6_requireCrease_14 dX6_requireCrease_17 dX6_requireCrease_20 hex hlocks

set_option maxHeartbeats 4000000 in
set_option maxRecDepth 100000 in
theorem t_X6_requireTown (l : Launch) (hfl : l.stackTraces = false) (G : GG) (x : Int32) (hx0 : ¬ inB x (nI 0) (nI 5)) : TH l yX6_requireTown wsX6_requireTown 6 G [.int x] (([] : va_W)) IOO := by
  refine th_of (cc := cX6_requireTown) (maxL := 1) (ret := none) (by decide) rfl (Nat.le_of_ble_eq_true rfl) ?_
  intro pG eG s mG below meth cG hx hb hml hts hown hlocks hex hP hK hN hX hZ ls hl
  have hown : s.vm.findClass RX6 = some mG.cls := hown
  have hl : lv_has ls 1 [(0, .int x)] := hl
  refine lv_iload_n hx hb dX6_requireTown_0 rfl (lv_at hl 0 rfl) ?_
  refine lv_if_lt (tgt := 10) hx hb dX6_requireTown_1 (by decide) (fun c_1 => ?_) (fun c_1 => ?_)
  · exact th_rowW (text := "no such town") (ik := 184) (is := 303) (ic := 186) hx hb hfl (by decide) hown th_IOO (hts (.classLink RX6 184 "java/lang/IndexOutOfBoundsException") (List.mem_of_getElem? (i := 1) rfl)) (hts (.initialized "java/lang/IndexOutOfBoundsException") (List.mem_of_getElem? (i := 2) rfl)) hX.1.1 hX.2.1.2.2 (fun w h => hts w (List.mem_cons_of_mem _ (List.mem_append_right _ (h)))) (hX.2.2 (303, "no such town") (by decide +kernel)) hZ (hl.1.trans hml.symm) dX6_requireTown_10 dX6_requireTown_13 dX6_requireTown_14 dX6_requireTown_17 dX6_requireTown_20 hex hlocks
  · refine lv_iload_n hx hb dX6_requireTown_4 rfl (lv_at hl 0 rfl) ?_
    refine lv_bipush (v := nI 6) hx hb dX6_requireTown_5 (by decide) ?_
    refine lv_icmp_lt (tgt := 21) hx hb dX6_requireTown_7 (by decide) (fun c_7 => ?_) (fun c_7 => ?_)
    · exact absurd (show inB x (nI 0) (nI 5) from ⟨ni0 c_1, le_of_lt1 (by decide) c_7⟩) hx0
    · exact th_rowW (text := "no such town") (ik := 184) (is := 303) (ic := 186) hx hb hfl (by decide) hown th_IOO (hts (.classLink RX6 184 "java/lang/IndexOutOfBoundsException") (List.mem_of_getElem? (i := 1) rfl)) (hts (.initialized "java/lang/IndexOutOfBoundsException") (List.mem_of_getElem? (i := 2) rfl)) hX.1.1 hX.2.1.2.2 (fun w h => hts w (List.mem_cons_of_mem _ (List.mem_append_right _ (h)))) (hX.2.2 (303, "no such town") (by decide +kernel)) hZ (hl.1.trans hml.symm) dX6_requireTown_10 dX6_requireTown_13 dX6_requireTown_14 dX6_requireTown_17 dX6_requireTown_20 hex hlocks

set_option maxHeartbeats 4000000 in
set_option maxRecDepth 100000 in
theorem t_X6_requireSlot (l : Launch) (hfl : l.stackTraces = false) (G : GG) (x : Int32) (hx0 : ¬ inB x (nI 0) (nI 1)) : TH l yX6_requireSlot wsX6_requireSlot 6 G [.int x] (([] : va_W)) IAE := by
  refine th_of (cc := cX6_requireSlot) (maxL := 1) (ret := none) (by decide) rfl (Nat.le_of_ble_eq_true rfl) ?_
  intro pG eG s mG below meth cG hx hb hml hts hown hlocks hex hP hK hN hX hZ ls hl
  have hown : s.vm.findClass RX6 = some mG.cls := hown
  have hl : lv_has ls 1 [(0, .int x)] := hl
  refine lv_iload_n hx hb dX6_requireSlot_0 rfl (lv_at hl 0 rfl) ?_
  refine lv_if_lt (tgt := 9) hx hb dX6_requireSlot_1 (by decide) (fun c_1 => ?_) (fun c_1 => ?_)
  · exact th_rowW (text := "slot is out of range") (ik := 73) (is := 309) (ic := 77) hx hb hfl (by decide) hown th_IAE (hts (.classLink RX6 73 "java/lang/IllegalArgumentException") (List.mem_of_getElem? (i := 1) rfl)) (hts (.initialized "java/lang/IllegalArgumentException") (List.mem_of_getElem? (i := 2) rfl)) hX.1.2.1 hX.2.1.2.2 (fun w h => hts w (List.mem_cons_of_mem _ (List.mem_append_right _ (h)))) (hX.2.2 (309, "slot is out of range") (by decide +kernel)) hZ (hl.1.trans hml.symm) dX6_requireSlot_9 dX6_requireSlot_12 dX6_requireSlot_13 dX6_requireSlot_16 dX6_requireSlot_19 hex hlocks
  · refine lv_iload_n hx hb dX6_requireSlot_4 rfl (lv_at hl 0 rfl) ?_
    refine lv_iconst (v := nI 2) hx hb dX6_requireSlot_5 (by decide) ?_
    refine lv_icmp_lt (tgt := 20) hx hb dX6_requireSlot_6 (by decide) (fun c_6 => ?_) (fun c_6 => ?_)
    · exact absurd (show inB x (nI 0) (nI 1) from ⟨ni0 c_1, le_of_lt1 (by decide) c_6⟩) hx0
    · exact th_rowW (text := "slot is out of range") (ik := 73) (is := 309) (ic := 77) hx hb hfl (by decide) hown th_IAE (hts (.classLink RX6 73 "java/lang/IllegalArgumentException") (List.mem_of_getElem? (i := 1) rfl)) (hts (.initialized "java/lang/IllegalArgumentException") (List.mem_of_getElem? (i := 2) rfl)) hX.1.2.1 hX.2.1.2.2 (fun w h => hts w (List.mem_cons_of_mem _ (List.mem_append_right _ (h)))) (hX.2.2 (309, "slot is out of range") (by decide +kernel)) hZ (hl.1.trans hml.symm) dX6_requireSlot_9 dX6_requireSlot_12 dX6_requireSlot_13 dX6_requireSlot_16 dX6_requireSlot_19 hex hlocks

set_option maxHeartbeats 4000000 in
set_option maxRecDepth 100000 in
theorem t_X6_requireWhat (l : Launch) (hfl : l.stackTraces = false) (G : GG) (x : Int32) (k : Nat) (hk : k < 100) (hx0 : ¬ inB x (nI 0) (nI k)) : TH l yX6_requireWhat wsX6_requireWhat 6 G [.int x, .int (nI (k + 1))] (([] : va_W)) IAE := by
  refine th_of (cc := cX6_requireWhat) (maxL := 2) (ret := none) (by decide) rfl (Nat.le_of_ble_eq_true rfl) ?_
  intro pG eG s mG below meth cG hx hb hml hts hown hlocks hex hP hK hN hX hZ ls hl
  have hown : s.vm.findClass RX6 = some mG.cls := hown
  have hl : lv_has ls 2 [(0, .int x), (1, .int (nI (k + 1)))] := hl
  refine lv_iload_n hx hb dX6_requireWhat_0 rfl (lv_at hl 0 rfl) ?_
  refine lv_if_lt (tgt := 9) hx hb dX6_requireWhat_1 (by decide) (fun c_1 => ?_) (fun c_1 => ?_)
  · exact th_rowW (text := "what is out of range") (ik := 73) (is := 307) (ic := 77) hx hb hfl (by decide) hown th_IAE (hts (.classLink RX6 73 "java/lang/IllegalArgumentException") (List.mem_of_getElem? (i := 1) rfl)) (hts (.initialized "java/lang/IllegalArgumentException") (List.mem_of_getElem? (i := 2) rfl)) hX.1.2.1 hX.2.1.2.2 (fun w h => hts w (List.mem_cons_of_mem _ (List.mem_append_right _ (h)))) (hX.2.2 (307, "what is out of range") (by decide +kernel)) hZ (hl.1.trans hml.symm) dX6_requireWhat_9 dX6_requireWhat_12 dX6_requireWhat_13 dX6_requireWhat_16 dX6_requireWhat_19 hex hlocks
  · refine lv_iload_n hx hb dX6_requireWhat_4 rfl (lv_at hl 0 rfl) ?_
    refine lv_iload_n hx hb dX6_requireWhat_5 rfl (lv_at hl 1 rfl) ?_
    refine lv_icmp_lt (tgt := 20) hx hb dX6_requireWhat_6 (by decide) (fun c_6 => ?_) (fun c_6 => ?_)
    · exact absurd (show inB x (nI 0) (nI k) from ⟨ni0 c_1, le_of_lt1 (by omega) c_6⟩) hx0
    · exact th_rowW (text := "what is out of range") (ik := 73) (is := 307) (ic := 77) hx hb hfl (by decide) hown th_IAE (hts (.classLink RX6 73 "java/lang/IllegalArgumentException") (List.mem_of_getElem? (i := 1) rfl)) (hts (.initialized "java/lang/IllegalArgumentException") (List.mem_of_getElem? (i := 2) rfl)) hX.1.2.1 hX.2.1.2.2 (fun w h => hts w (List.mem_cons_of_mem _ (List.mem_append_right _ (h)))) (hX.2.2 (307, "what is out of range") (by decide +kernel)) hZ (hl.1.trans hml.symm) dX6_requireWhat_9 dX6_requireWhat_12 dX6_requireWhat_13 dX6_requireWhat_16 dX6_requireWhat_19 hex hlocks

set_option maxHeartbeats 4000000 in
set_option maxRecDepth 100000 in
theorem t_X6_requireTwoTowns_a (l : Launch) (hfl : l.stackTraces = false) (G : GG) (x y : Int32) (hx0 : ¬ inB x (nI 0) (nI 5)) : TH l yX6_requireTwoTowns wsX6_requireTwoTowns 7 G [.int x, .int y] (([] : va_W)) IOO := by
  refine th_of (cc := cX6_requireTwoTowns) (maxL := 2) (ret := none) (by decide) rfl (Nat.le_of_ble_eq_true rfl) ?_
  intro pG eG s mG below meth cG hx hb hml hts hown hlocks hex hP hK hN hX hZ ls hl
  have hown : s.vm.findClass RX6 = some mG.cls := hown
  have hl : lv_has ls 2 [(0, .int x), (1, .int y)] := hl
  refine lv_iload_n hx hb dX6_requireTwoTowns_0 rfl (lv_at hl 0 rfl) ?_
  exact th_go (vx_runS (As := [.int x]) (rest := []) ⟨hx, hb, hml, hown, hts⟩ (t_X6_requireTown l hfl G x hx0) (va_cwS 1 hts gX6_requireTwoTowns_X6_requireTown rfl rfl rfl (by decide +kernel) ⟨Nat.le_of_ble_eq_true rfl, Nat.le_of_ble_eq_true rfl⟩) (xS (ws := []) hK hN P_nil hX hZ) rfl rfl hl.1 rfl (lv_room (Nat.le_of_ble_eq_true rfl)) dX6_requireTwoTowns_1 ⟨Nat.le_of_ble_eq_true rfl, Nat.le_of_ble_eq_true rfl⟩) hex hlocks

set_option maxHeartbeats 4000000 in
set_option maxRecDepth 100000 in
theorem t_X6_requireTwoTowns_b (l : Launch) (hfl : l.stackTraces = false) (G : GG) (t : Nat) (ht : t < 6) (y : Int32) (hx0 : ¬ inB y (nI 0) (nI 5)) : TH l yX6_requireTwoTowns wsX6_requireTwoTowns 7 G [.int (nI t), .int y] (([] : va_W)) IOO := by
  refine th_of (cc := cX6_requireTwoTowns) (maxL := 2) (ret := none) (by decide) rfl (Nat.le_of_ble_eq_true rfl) ?_
  intro pG eG s mG below meth cG hx hb hml hts hown hlocks hex hP hK hN hX hZ ls hl
  have hown : s.vm.findClass RX6 = some mG.cls := hown
  have hl : lv_has ls 2 [(0, .int (nI t)), (1, .int y)] := hl
  refine lv_iload_n hx hb dX6_requireTwoTowns_0 rfl (lv_at hl 0 rfl) ?_
  refine rd_gov (va_runS (As := [.int (nI t)]) (rest := []) ⟨hx, hb, hml, hown, hts⟩ (c_X6_requireTown_ok l G t (by omega)) (va_cwS 1 hts gX6_requireTwoTowns_X6_requireTown rfl rfl rfl (by decide +kernel) ⟨Nat.le_of_ble_eq_true rfl, Nat.le_of_ble_eq_true rfl⟩) (rS (ws := []) hK hN P_nil) rfl rfl hl.1 rfl (lv_room (Nat.le_of_ble_eq_true rfl)) dX6_requireTwoTowns_1 ⟨Nat.le_of_ble_eq_true rfl, Nat.le_of_ble_eq_true rfl⟩) ?_
  refine lv_iload_n hx hb dX6_requireTwoTowns_4 rfl (lv_at hl 1 rfl) ?_
  exact th_go (vx_runS (As := [.int y]) (rest := []) ⟨hx, hb, hml, hown, hts⟩ (t_X6_requireTown l hfl G y hx0) (va_cwS 1 hts gX6_requireTwoTowns_X6_requireTown rfl rfl rfl (by decide +kernel) ⟨Nat.le_of_ble_eq_true rfl, Nat.le_of_ble_eq_true rfl⟩) (xS (ws := []) hK hN P_nil hX hZ) rfl rfl hl.1 rfl (lv_room (Nat.le_of_ble_eq_true rfl)) dX6_requireTwoTowns_5 ⟨Nat.le_of_ble_eq_true rfl, Nat.le_of_ble_eq_true rfl⟩) hex hlocks

set_option maxHeartbeats 4000000 in
set_option maxRecDepth 100000 in
theorem t_X6_requireTwoTowns_c (l : Launch) (hfl : l.stackTraces = false) (G : GG) (t : Nat) (ht : t < 6) : TH l yX6_requireTwoTowns wsX6_requireTwoTowns 7 G [.int (nI t), .int (nI t)] (([] : va_W)) IAE := by
  refine th_of (cc := cX6_requireTwoTowns) (maxL := 2) (ret := none) (by decide) rfl (Nat.le_of_ble_eq_true rfl) ?_
  intro pG eG s mG below meth cG hx hb hml hts hown hlocks hex hP hK hN hX hZ ls hl
  have hown : s.vm.findClass RX6 = some mG.cls := hown
  have hl : lv_has ls 2 [(0, .int (nI t)), (1, .int (nI t))] := hl
  refine lv_iload_n hx hb dX6_requireTwoTowns_0 rfl (lv_at hl 0 rfl) ?_
  refine rd_gov (va_runS (As := [.int (nI t)]) (rest := []) ⟨hx, hb, hml, hown, hts⟩ (c_X6_requireTown_ok l G t (by omega)) (va_cwS 1 hts gX6_requireTwoTowns_X6_requireTown rfl rfl rfl (by decide +kernel) ⟨Nat.le_of_ble_eq_true rfl, Nat.le_of_ble_eq_true rfl⟩) (rS (ws := []) hK hN P_nil) rfl rfl hl.1 rfl (lv_room (Nat.le_of_ble_eq_true rfl)) dX6_requireTwoTowns_1 ⟨Nat.le_of_ble_eq_true rfl, Nat.le_of_ble_eq_true rfl⟩) ?_
  refine lv_iload_n hx hb dX6_requireTwoTowns_4 rfl (lv_at hl 1 rfl) ?_
  refine rd_gov (va_runS (As := [.int (nI t)]) (rest := []) ⟨hx, hb, hml, hown, hts⟩ (c_X6_requireTown_ok l G t (by omega)) (va_cwS 1 hts gX6_requireTwoTowns_X6_requireTown rfl rfl rfl (by decide +kernel) ⟨Nat.le_of_ble_eq_true rfl, Nat.le_of_ble_eq_true rfl⟩) (rS (ws := []) hK hN P_nil) rfl rfl hl.1 rfl (lv_room (Nat.le_of_ble_eq_true rfl)) dX6_requireTwoTowns_5 ⟨Nat.le_of_ble_eq_true rfl, Nat.le_of_ble_eq_true rfl⟩) ?_
  refine lv_iload_n hx hb dX6_requireTwoTowns_8 rfl (lv_at hl 0 rfl) ?_
  refine lv_iload_n hx hb dX6_requireTwoTowns_9 rfl (lv_at hl 1 rfl) ?_
  refine lv_icmp_ne (tgt := 24) hx hb dX6_requireTwoTowns_10 (by decide) (fun c_10 => ?_) (fun c_10 => ?_)
  · exact absurd rfl c_10
  · exact th_rowW (text := "both towns are the same") (ik := 73) (is := 305) (ic := 77) hx hb hfl (by decide) hown th_IAE (hts (.classLink RX6 73 "java/lang/IllegalArgumentException") (List.mem_of_getElem? (i := 1) rfl)) (hts (.initialized "java/lang/IllegalArgumentException") (List.mem_of_getElem? (i := 2) rfl)) hX.1.2.1 hX.2.1.2.2 (fun w h => hts w (List.mem_cons_of_mem _ (List.mem_append_left _ (List.mem_append_right _ (h))))) (hX.2.2 (305, "both towns are the same") (by decide +kernel)) hZ (hl.1.trans hml.symm) dX6_requireTwoTowns_13 dX6_requireTwoTowns_16 dX6_requireTwoTowns_17 dX6_requireTwoTowns_20 dX6_requireTwoTowns_23 hex hlocks

set_option maxHeartbeats 4000000 in
set_option maxRecDepth 100000 in
theorem t_X6_fold_no (l : Launch) (hfl : l.stackTraces = false) (G : GG) (xa : Nat) (fs : List Value) (wr : va_W) (x : Int32) (hx0 : ¬ inB x (nI 0) (nI 8)) : TH l yX6_fold wsX6_fold 7 G [.ref xa, .int x] ([(xa, .inr (5, fs))] ++ (wr)) IOO := by
  refine th_of (cc := cX6_fold) (maxL := 2) (ret := (some .int)) (by decide) rfl (Nat.le_of_ble_eq_true rfl) ?_
  intro pG eG s mG below meth cG hx hb hml hts hown hlocks hex hP hK hN hX hZ ls hl
  have hown : s.vm.findClass RX6 = some mG.cls := hown
  have hl : lv_has ls 2 [(0, .ref xa), (1, .int x)] := hl
  refine lv_iload_n hx hb dX6_fold_0 rfl (lv_at hl 1 rfl) ?_
  exact th_go (vx_runS (As := [.int x]) (rest := []) ⟨hx, hb, hml, hown, hts⟩ (t_X6_requireCrease l hfl G x hx0) (va_cwS 1 hts gX6_fold_X6_requireCrease rfl rfl rfl (by decide +kernel) ⟨Nat.le_of_ble_eq_true rfl, Nat.le_of_ble_eq_true rfl⟩) (xS (ws := []) hK hN P_nil hX hZ) rfl rfl hl.1 rfl (lv_room (Nat.le_of_ble_eq_true rfl)) dX6_fold_1 ⟨Nat.le_of_ble_eq_true rfl, Nat.le_of_ble_eq_true rfl⟩) hex hlocks

set_option maxHeartbeats 4000000 in
set_option maxRecDepth 100000 in
theorem t_X6_move_no1 (l : Launch) (hfl : l.stackTraces = false) (G : GG) (xa : Nat) (fs : List Value) (wr : va_W) (x y : Int32) (hx0 : ¬ inB x (nI 0) (nI 5)) : TH l yX6_move wsX6_move 7 G [.ref xa, .int x, .int y] ([(xa, .inr (5, fs))] ++ (wr)) IOO := by
  refine th_of (cc := cX6_move) (maxL := 4) (ret := (some .int)) (by decide) rfl (Nat.le_of_ble_eq_true rfl) ?_
  intro pG eG s mG below meth cG hx hb hml hts hown hlocks hex hP hK hN hX hZ ls hl
  have hown : s.vm.findClass RX6 = some mG.cls := hown
  have hl : lv_has ls 4 [(0, .ref xa), (1, .int x), (2, .int y)] := hl
  refine lv_iload_n hx hb dX6_move_0 rfl (lv_at hl 1 rfl) ?_
  exact th_go (vx_runS (As := [.int x]) (rest := []) ⟨hx, hb, hml, hown, hts⟩ (t_X6_requireTown l hfl G x hx0) (va_cwS 1 hts gX6_move_X6_requireTown rfl rfl rfl (by decide +kernel) ⟨Nat.le_of_ble_eq_true rfl, Nat.le_of_ble_eq_true rfl⟩) (xS (ws := []) hK hN P_nil hX hZ) rfl rfl hl.1 rfl (lv_room (Nat.le_of_ble_eq_true rfl)) dX6_move_1 ⟨Nat.le_of_ble_eq_true rfl, Nat.le_of_ble_eq_true rfl⟩) hex hlocks

set_option maxHeartbeats 4000000 in
set_option maxRecDepth 100000 in
theorem t_X6_move_no2 (l : Launch) (hfl : l.stackTraces = false) (G : GG) (xa : Nat) (fs : List Value) (wr : va_W) (t : Nat) (ht : t < 6) (y : Int32) (hx0 : ¬ inB y (nI 0) (nI 9)) : TH l yX6_move wsX6_move 7 G [.ref xa, .int (nI t), .int y] ([(xa, .inr (5, fs))] ++ (wr)) IAE := by
  refine th_of (cc := cX6_move) (maxL := 4) (ret := (some .int)) (by decide) rfl (Nat.le_of_ble_eq_true rfl) ?_
  intro pG eG s mG below meth cG hx hb hml hts hown hlocks hex hP hK hN hX hZ ls hl
  have hown : s.vm.findClass RX6 = some mG.cls := hown
  have hl : lv_has ls 4 [(0, .ref xa), (1, .int (nI t)), (2, .int y)] := hl
  refine lv_iload_n hx hb dX6_move_0 rfl (lv_at hl 1 rfl) ?_
  refine rd_gov (va_runS (As := [.int (nI t)]) (rest := []) ⟨hx, hb, hml, hown, hts⟩ (c_X6_requireTown_ok l G t (by omega)) (va_cwS 1 hts gX6_move_X6_requireTown rfl rfl rfl (by decide +kernel) ⟨Nat.le_of_ble_eq_true rfl, Nat.le_of_ble_eq_true rfl⟩) (rS (ws := []) hK hN P_nil) rfl rfl hl.1 rfl (lv_room (Nat.le_of_ble_eq_true rfl)) dX6_move_1 ⟨Nat.le_of_ble_eq_true rfl, Nat.le_of_ble_eq_true rfl⟩) ?_
  refine lv_iload_n hx hb dX6_move_4 rfl (lv_at hl 2 rfl) ?_
  refine lv_if_lt (tgt := 14) hx hb dX6_move_5 (by decide) (fun c_5 => ?_) (fun c_5 => ?_)
  · exact th_row (text := "no such panel") (ik := 73) (is := 75) (ic := 77) hx hb hfl (by decide) hown th_IAE (hts (.classLink RX6 73 "java/lang/IllegalArgumentException") (List.mem_of_getElem? (i := 1) rfl)) (hts (.initialized "java/lang/IllegalArgumentException") (List.mem_of_getElem? (i := 2) rfl)) hX.1.2.1 hX.2.1.2.2 (fun w h => hts w (List.mem_cons_of_mem _ (List.mem_append_left _ (List.mem_append_right _ (h))))) (hX.2.2 (75, "no such panel") (by decide +kernel)) hZ (hl.1.trans hml.symm) dX6_move_14 dX6_move_17 dX6_move_18 dX6_move_20 dX6_move_23 hex hlocks
  · refine lv_iload_n hx hb dX6_move_8 rfl (lv_at hl 2 rfl) ?_
    refine lv_bipush (v := nI 10) hx hb dX6_move_9 (by decide) ?_
    refine lv_icmp_lt (tgt := 24) hx hb dX6_move_11 (by decide) (fun c_11 => ?_) (fun c_11 => ?_)
    · exact absurd (show inB y (nI 0) (nI 9) from ⟨ni0 c_5, le_of_lt1 (by decide) c_11⟩) hx0
    · exact th_row (text := "no such panel") (ik := 73) (is := 75) (ic := 77) hx hb hfl (by decide) hown th_IAE (hts (.classLink RX6 73 "java/lang/IllegalArgumentException") (List.mem_of_getElem? (i := 1) rfl)) (hts (.initialized "java/lang/IllegalArgumentException") (List.mem_of_getElem? (i := 2) rfl)) hX.1.2.1 hX.2.1.2.2 (fun w h => hts w (List.mem_cons_of_mem _ (List.mem_append_left _ (List.mem_append_right _ (h))))) (hX.2.2 (75, "no such panel") (by decide +kernel)) hZ (hl.1.trans hml.symm) dX6_move_14 dX6_move_17 dX6_move_18 dX6_move_20 dX6_move_23 hex hlocks

set_option maxHeartbeats 4000000 in
set_option maxRecDepth 100000 in
theorem t_X6_pull_no (l : Launch) (hfl : l.stackTraces = false) (G : GG) (xa : Nat) (fs : List Value) (wr : va_W) (x : Int32) (hx0 : ¬ inB x (nI 1) (nI 9)) : TH l yX6_pull wsX6_pull 7 G [.ref xa, .int x] ([(xa, .inr (5, fs))] ++ (wr)) IAE := by
  refine th_of (cc := cX6_pull) (maxL := 2) (ret := (some .int)) (by decide) rfl (Nat.le_of_ble_eq_true rfl) ?_
  intro pG eG s mG below meth cG hx hb hml hts hown hlocks hex hP hK hN hX hZ ls hl
  have hown : s.vm.findClass RX6 = some mG.cls := hown
  have hl : lv_has ls 2 [(0, .ref xa), (1, .int x)] := hl
  refine lv_iload_n hx hb dX6_pull_0 rfl (lv_at hl 1 rfl) ?_
  refine lv_iconst (v := nI 1) hx hb dX6_pull_1 (by decide) ?_
  refine lv_icmp_lt (tgt := 11) hx hb dX6_pull_2 (by decide) (fun c_2 => ?_) (fun c_2 => ?_)
  · exact th_row (text := "strength is out of range") (ik := 73) (is := 93) (ic := 77) hx hb hfl (by decide) hown th_IAE (hts (.classLink RX6 73 "java/lang/IllegalArgumentException") (List.mem_of_getElem? (i := 1) rfl)) (hts (.initialized "java/lang/IllegalArgumentException") (List.mem_of_getElem? (i := 2) rfl)) hX.1.2.1 hX.2.1.2.2 (fun w h => hts w (List.mem_cons_of_mem _ (List.mem_append_right _ (h)))) (hX.2.2 (93, "strength is out of range") (by decide +kernel)) hZ (hl.1.trans hml.symm) dX6_pull_11 dX6_pull_14 dX6_pull_15 dX6_pull_17 dX6_pull_20 hex hlocks
  · refine lv_iload_n hx hb dX6_pull_5 rfl (lv_at hl 1 rfl) ?_
    refine lv_bipush (v := nI 9) hx hb dX6_pull_6 (by decide) ?_
    refine lv_icmp_le (tgt := 21) hx hb dX6_pull_8 (by decide) (fun c_8 => ?_) (fun c_8 => ?_)
    · exact absurd (show inB x (nI 1) (nI 9) from ⟨Int32.not_lt.mp c_2, c_8⟩) hx0
    · exact th_row (text := "strength is out of range") (ik := 73) (is := 93) (ic := 77) hx hb hfl (by decide) hown th_IAE (hts (.classLink RX6 73 "java/lang/IllegalArgumentException") (List.mem_of_getElem? (i := 1) rfl)) (hts (.initialized "java/lang/IllegalArgumentException") (List.mem_of_getElem? (i := 2) rfl)) hX.1.2.1 hX.2.1.2.2 (fun w h => hts w (List.mem_cons_of_mem _ (List.mem_append_right _ (h)))) (hX.2.2 (93, "strength is out of range") (by decide +kernel)) hZ (hl.1.trans hml.symm) dX6_pull_11 dX6_pull_14 dX6_pull_15 dX6_pull_17 dX6_pull_20 hex hlocks

set_option maxHeartbeats 4000000 in
set_option maxRecDepth 100000 in
theorem t_X6_ask_noa (l : Launch) (hfl : l.stackTraces = false) (G : GG) (xa : Nat) (fs : List Value) (wr : va_W) (x y : Int32) (hx0 : ¬ inB x (nI 0) (nI 5)) : TH l yX6_ask wsX6_ask 8 G [.ref xa, .int x, .int y] ([(xa, .inr (5, fs))] ++ (wr)) IOO := by
  refine th_of (cc := cX6_ask) (maxL := 6) (ret := (some .int)) (by decide) rfl (Nat.le_of_ble_eq_true rfl) ?_
  intro pG eG s mG below meth cG hx hb hml hts hown hlocks hex hP hK hN hX hZ ls hl
  have hown : s.vm.findClass RX6 = some mG.cls := hown
  have hl : lv_has ls 6 [(0, .ref xa), (1, .int x), (2, .int y)] := hl
  refine lv_iload_n hx hb dX6_ask_0 rfl (lv_at hl 1 rfl) ?_
  refine lv_iload_n hx hb dX6_ask_1 rfl (lv_at hl 2 rfl) ?_
  exact th_go (vx_runS (As := [.int x, .int y]) (rest := []) ⟨hx, hb, hml, hown, hts⟩ (t_X6_requireTwoTowns_a l hfl G x y hx0) (va_cwS 2 hts gX6_ask_X6_requireTwoTowns rfl rfl rfl (by decide +kernel) ⟨Nat.le_of_ble_eq_true rfl, Nat.le_of_ble_eq_true rfl⟩) (xS (ws := []) hK hN P_nil hX hZ) rfl rfl hl.1 rfl (lv_room (Nat.le_of_ble_eq_true rfl)) dX6_ask_2 ⟨Nat.le_of_ble_eq_true rfl, Nat.le_of_ble_eq_true rfl⟩) hex hlocks

set_option maxHeartbeats 4000000 in
set_option maxRecDepth 100000 in
theorem t_X6_ifTouching_noa (l : Launch) (hfl : l.stackTraces = false) (G : GG) (xa : Nat) (fs : List Value) (wr : va_W) (x y : Int32) (hx0 : ¬ inB x (nI 0) (nI 5)) : TH l yX6_ifTouching wsX6_ifTouching 8 G [.ref xa, .int x, .int y] ([(xa, .inr (5, fs))] ++ (wr)) IOO := by
  refine th_of (cc := cX6_ifTouching) (maxL := 3) (ret := (some .int)) (by decide) rfl (Nat.le_of_ble_eq_true rfl) ?_
  intro pG eG s mG below meth cG hx hb hml hts hown hlocks hex hP hK hN hX hZ ls hl
  have hown : s.vm.findClass RX6 = some mG.cls := hown
  have hl : lv_has ls 3 [(0, .ref xa), (1, .int x), (2, .int y)] := hl
  refine lv_iload_n hx hb dX6_ifTouching_0 rfl (lv_at hl 1 rfl) ?_
  refine lv_iload_n hx hb dX6_ifTouching_1 rfl (lv_at hl 2 rfl) ?_
  exact th_go (vx_runS (As := [.int x, .int y]) (rest := []) ⟨hx, hb, hml, hown, hts⟩ (t_X6_requireTwoTowns_a l hfl G x y hx0) (va_cwS 2 hts gX6_ifTouching_X6_requireTwoTowns rfl rfl rfl (by decide +kernel) ⟨Nat.le_of_ble_eq_true rfl, Nat.le_of_ble_eq_true rfl⟩) (xS (ws := []) hK hN P_nil hX hZ) rfl rfl hl.1 rfl (lv_room (Nat.le_of_ble_eq_true rfl)) dX6_ifTouching_2 ⟨Nat.le_of_ble_eq_true rfl, Nat.le_of_ble_eq_true rfl⟩) hex hlocks

set_option maxHeartbeats 4000000 in
set_option maxRecDepth 100000 in
theorem t_X6_ask_nob (l : Launch) (hfl : l.stackTraces = false) (G : GG) (xa : Nat) (fs : List Value) (wr : va_W) (t : Nat) (ht : t < 6) (y : Int32) (hx0 : ¬ inB y (nI 0) (nI 5)) : TH l yX6_ask wsX6_ask 8 G [.ref xa, .int (nI t), .int y] ([(xa, .inr (5, fs))] ++ (wr)) IOO := by
  refine th_of (cc := cX6_ask) (maxL := 6) (ret := (some .int)) (by decide) rfl (Nat.le_of_ble_eq_true rfl) ?_
  intro pG eG s mG below meth cG hx hb hml hts hown hlocks hex hP hK hN hX hZ ls hl
  have hown : s.vm.findClass RX6 = some mG.cls := hown
  have hl : lv_has ls 6 [(0, .ref xa), (1, .int (nI t)), (2, .int y)] := hl
  refine lv_iload_n hx hb dX6_ask_0 rfl (lv_at hl 1 rfl) ?_
  refine lv_iload_n hx hb dX6_ask_1 rfl (lv_at hl 2 rfl) ?_
  exact th_go (vx_runS (As := [.int (nI t), .int y]) (rest := []) ⟨hx, hb, hml, hown, hts⟩ (t_X6_requireTwoTowns_b l hfl G t (by omega) y hx0) (va_cwS 2 hts gX6_ask_X6_requireTwoTowns rfl rfl rfl (by decide +kernel) ⟨Nat.le_of_ble_eq_true rfl, Nat.le_of_ble_eq_true rfl⟩) (xS (ws := []) hK hN P_nil hX hZ) rfl rfl hl.1 rfl (lv_room (Nat.le_of_ble_eq_true rfl)) dX6_ask_2 ⟨Nat.le_of_ble_eq_true rfl, Nat.le_of_ble_eq_true rfl⟩) hex hlocks

set_option maxHeartbeats 4000000 in
set_option maxRecDepth 100000 in
theorem t_X6_ifTouching_nob (l : Launch) (hfl : l.stackTraces = false) (G : GG) (xa : Nat) (fs : List Value) (wr : va_W) (t : Nat) (ht : t < 6) (y : Int32) (hx0 : ¬ inB y (nI 0) (nI 5)) : TH l yX6_ifTouching wsX6_ifTouching 8 G [.ref xa, .int (nI t), .int y] ([(xa, .inr (5, fs))] ++ (wr)) IOO := by
  refine th_of (cc := cX6_ifTouching) (maxL := 3) (ret := (some .int)) (by decide) rfl (Nat.le_of_ble_eq_true rfl) ?_
  intro pG eG s mG below meth cG hx hb hml hts hown hlocks hex hP hK hN hX hZ ls hl
  have hown : s.vm.findClass RX6 = some mG.cls := hown
  have hl : lv_has ls 3 [(0, .ref xa), (1, .int (nI t)), (2, .int y)] := hl
  refine lv_iload_n hx hb dX6_ifTouching_0 rfl (lv_at hl 1 rfl) ?_
  refine lv_iload_n hx hb dX6_ifTouching_1 rfl (lv_at hl 2 rfl) ?_
  exact th_go (vx_runS (As := [.int (nI t), .int y]) (rest := []) ⟨hx, hb, hml, hown, hts⟩ (t_X6_requireTwoTowns_b l hfl G t (by omega) y hx0) (va_cwS 2 hts gX6_ifTouching_X6_requireTwoTowns rfl rfl rfl (by decide +kernel) ⟨Nat.le_of_ble_eq_true rfl, Nat.le_of_ble_eq_true rfl⟩) (xS (ws := []) hK hN P_nil hX hZ) rfl rfl hl.1 rfl (lv_room (Nat.le_of_ble_eq_true rfl)) dX6_ifTouching_2 ⟨Nat.le_of_ble_eq_true rfl, Nat.le_of_ble_eq_true rfl⟩) hex hlocks

set_option maxHeartbeats 4000000 in
set_option maxRecDepth 100000 in
theorem t_X6_ask_noc (l : Launch) (hfl : l.stackTraces = false) (G : GG) (xa : Nat) (fs : List Value) (wr : va_W) (t : Nat) (ht : t < 6) : TH l yX6_ask wsX6_ask 8 G [.ref xa, .int (nI t), .int (nI t)] ([(xa, .inr (5, fs))] ++ (wr)) IAE := by
  refine th_of (cc := cX6_ask) (maxL := 6) (ret := (some .int)) (by decide) rfl (Nat.le_of_ble_eq_true rfl) ?_
  intro pG eG s mG below meth cG hx hb hml hts hown hlocks hex hP hK hN hX hZ ls hl
  have hown : s.vm.findClass RX6 = some mG.cls := hown
  have hl : lv_has ls 6 [(0, .ref xa), (1, .int (nI t)), (2, .int (nI t))] := hl
  refine lv_iload_n hx hb dX6_ask_0 rfl (lv_at hl 1 rfl) ?_
  refine lv_iload_n hx hb dX6_ask_1 rfl (lv_at hl 2 rfl) ?_
  exact th_go (vx_runS (As := [.int (nI t), .int (nI t)]) (rest := []) ⟨hx, hb, hml, hown, hts⟩ (t_X6_requireTwoTowns_c l hfl G t (by omega)) (va_cwS 2 hts gX6_ask_X6_requireTwoTowns rfl rfl rfl (by decide +kernel) ⟨Nat.le_of_ble_eq_true rfl, Nat.le_of_ble_eq_true rfl⟩) (xS (ws := []) hK hN P_nil hX hZ) rfl rfl hl.1 rfl (lv_room (Nat.le_of_ble_eq_true rfl)) dX6_ask_2 ⟨Nat.le_of_ble_eq_true rfl, Nat.le_of_ble_eq_true rfl⟩) hex hlocks

set_option maxHeartbeats 4000000 in
set_option maxRecDepth 100000 in
theorem t_X6_ifTouching_noc (l : Launch) (hfl : l.stackTraces = false) (G : GG) (xa : Nat) (fs : List Value) (wr : va_W) (t : Nat) (ht : t < 6) : TH l yX6_ifTouching wsX6_ifTouching 8 G [.ref xa, .int (nI t), .int (nI t)] ([(xa, .inr (5, fs))] ++ (wr)) IAE := by
  refine th_of (cc := cX6_ifTouching) (maxL := 3) (ret := (some .int)) (by decide) rfl (Nat.le_of_ble_eq_true rfl) ?_
  intro pG eG s mG below meth cG hx hb hml hts hown hlocks hex hP hK hN hX hZ ls hl
  have hown : s.vm.findClass RX6 = some mG.cls := hown
  have hl : lv_has ls 3 [(0, .ref xa), (1, .int (nI t)), (2, .int (nI t))] := hl
  refine lv_iload_n hx hb dX6_ifTouching_0 rfl (lv_at hl 1 rfl) ?_
  refine lv_iload_n hx hb dX6_ifTouching_1 rfl (lv_at hl 2 rfl) ?_
  exact th_go (vx_runS (As := [.int (nI t), .int (nI t)]) (rest := []) ⟨hx, hb, hml, hown, hts⟩ (t_X6_requireTwoTowns_c l hfl G t (by omega)) (va_cwS 2 hts gX6_ifTouching_X6_requireTwoTowns rfl rfl rfl (by decide +kernel) ⟨Nat.le_of_ble_eq_true rfl, Nat.le_of_ble_eq_true rfl⟩) (xS (ws := []) hK hN P_nil hX hZ) rfl rfl hl.1 rfl (lv_room (Nat.le_of_ble_eq_true rfl)) dX6_ifTouching_2 ⟨Nat.le_of_ble_eq_true rfl, Nat.le_of_ble_eq_true rfl⟩) hex hlocks

set_option maxHeartbeats 4000000 in
set_option maxRecDepth 100000 in
theorem t_X6_guess_no (l : Launch) (hfl : l.stackTraces = false) (G : GG) (xa : Nat) (fs : List Value) (wr : va_W) (x : Int32) (hx0 : ¬ inB x (nI 0) (nI 511)) : TH l yX6_guess wsX6_guess 7 G [.ref xa, .int x] ([(xa, .inr (5, fs))] ++ (wr)) IAE := by
  refine th_of (cc := cX6_guess) (maxL := 2) (ret := (some .int)) (by decide) rfl (Nat.le_of_ble_eq_true rfl) ?_
  intro pG eG s mG below meth cG hx hb hml hts hown hlocks hex hP hK hN hX hZ ls hl
  have hown : s.vm.findClass RX6 = some mG.cls := hown
  have hl : lv_has ls 2 [(0, .ref xa), (1, .int x)] := hl
  refine lv_iload_n hx hb dX6_guess_0 rfl (lv_at hl 1 rfl) ?_
  refine lv_if_lt (tgt := 11) hx hb dX6_guess_1 (by decide) (fun c_1 => ?_) (fun c_1 => ?_)
  · exact th_row (text := "folding is out of range") (ik := 73) (is := 130) (ic := 77) hx hb hfl (by decide) hown th_IAE (hts (.classLink RX6 73 "java/lang/IllegalArgumentException") (List.mem_of_getElem? (i := 1) rfl)) (hts (.initialized "java/lang/IllegalArgumentException") (List.mem_of_getElem? (i := 2) rfl)) hX.1.2.1 hX.2.1.2.2 (fun w h => hts w (List.mem_cons_of_mem _ (List.mem_append_right _ (h)))) (hX.2.2 (130, "folding is out of range") (by decide +kernel)) hZ (hl.1.trans hml.symm) dX6_guess_11 dX6_guess_14 dX6_guess_15 dX6_guess_17 dX6_guess_20 hex hlocks
  · refine lv_iload_n hx hb dX6_guess_4 rfl (lv_at hl 1 rfl) ?_
    refine lv_sipush (v := nI 512) hx hb dX6_guess_5 (by decide +kernel) ?_
    refine lv_icmp_lt (tgt := 21) hx hb dX6_guess_8 (by decide) (fun c_8 => ?_) (fun c_8 => ?_)
    · exact absurd (show inB x (nI 0) (nI 511) from ⟨ni0 c_1, le_of_lt1 (by decide) c_8⟩) hx0
    · exact th_row (text := "folding is out of range") (ik := 73) (is := 130) (ic := 77) hx hb hfl (by decide) hown th_IAE (hts (.classLink RX6 73 "java/lang/IllegalArgumentException") (List.mem_of_getElem? (i := 1) rfl)) (hts (.initialized "java/lang/IllegalArgumentException") (List.mem_of_getElem? (i := 2) rfl)) hX.1.2.1 hX.2.1.2.2 (fun w h => hts w (List.mem_cons_of_mem _ (List.mem_append_right _ (h)))) (hX.2.2 (130, "folding is out of range") (by decide +kernel)) hZ (hl.1.trans hml.symm) dX6_guess_11 dX6_guess_14 dX6_guess_15 dX6_guess_17 dX6_guess_20 hex hlocks

set_option maxHeartbeats 4000000 in
set_option maxRecDepth 100000 in
theorem t_X6_append_no1 (l : Launch) (hfl : l.stackTraces = false) (G : GG) (xa : Nat) (fs : List Value) (wr : va_W) (x : Int32) (hx0 : ¬ inB x (nI 33) (nI 126)) : TH l yX6_append wsX6_append 7 G [.ref xa, .int x] ([(xa, .inr (5, fs))] ++ (wr)) IAE := by
  refine th_of (cc := cX6_append) (maxL := 2) (ret := (some .int)) (by decide) rfl (Nat.le_of_ble_eq_true rfl) ?_
  intro pG eG s mG below meth cG hx hb hml hts hown hlocks hex hP hK hN hX hZ ls hl
  have hown : s.vm.findClass RX6 = some mG.cls := hown
  have hl : lv_has ls 2 [(0, .ref xa), (1, .int x)] := hl
  refine lv_iload_n hx hb dX6_append_0 rfl (lv_at hl 1 rfl) ?_
  refine lv_bipush (v := nI 33) hx hb dX6_append_1 (by decide) ?_
  refine lv_icmp_lt (tgt := 12) hx hb dX6_append_3 (by decide) (fun c_3 => ?_) (fun c_3 => ?_)
  · exact th_row (text := "no such character") (ik := 73) (is := 138) (ic := 77) hx hb hfl (by decide) hown th_IAE (hts (.classLink RX6 73 "java/lang/IllegalArgumentException") (List.mem_of_getElem? (i := 1) rfl)) (hts (.initialized "java/lang/IllegalArgumentException") (List.mem_of_getElem? (i := 2) rfl)) hX.1.2.1 hX.2.1.2.2 (fun w h => hts w (List.mem_cons_of_mem _ (List.mem_append_left _ (List.mem_append_right _ (h))))) (hX.2.2 (138, "no such character") (by decide +kernel)) hZ (hl.1.trans hml.symm) dX6_append_12 dX6_append_15 dX6_append_16 dX6_append_18 dX6_append_21 hex hlocks
  · refine lv_iload_n hx hb dX6_append_6 rfl (lv_at hl 1 rfl) ?_
    refine lv_bipush (v := nI 126) hx hb dX6_append_7 (by decide) ?_
    refine lv_icmp_le (tgt := 22) hx hb dX6_append_9 (by decide) (fun c_9 => ?_) (fun c_9 => ?_)
    · exact absurd (show inB x (nI 33) (nI 126) from ⟨Int32.not_lt.mp c_3, c_9⟩) hx0
    · exact th_row (text := "no such character") (ik := 73) (is := 138) (ic := 77) hx hb hfl (by decide) hown th_IAE (hts (.classLink RX6 73 "java/lang/IllegalArgumentException") (List.mem_of_getElem? (i := 1) rfl)) (hts (.initialized "java/lang/IllegalArgumentException") (List.mem_of_getElem? (i := 2) rfl)) hX.1.2.1 hX.2.1.2.2 (fun w h => hts w (List.mem_cons_of_mem _ (List.mem_append_left _ (List.mem_append_right _ (h))))) (hX.2.2 (138, "no such character") (by decide +kernel)) hZ (hl.1.trans hml.symm) dX6_append_12 dX6_append_15 dX6_append_16 dX6_append_18 dX6_append_21 hex hlocks

set_option maxHeartbeats 4000000 in
set_option maxRecDepth 100000 in
theorem t_X6_append_no2 (l : Launch) (hfl : l.stackTraces = false) (G : GG) (xa so : Nat) (b ce a hh : Nat → Nat) (sg : Nat → Int32) (ln : Nat) (hln : ln ≤ 60) (mk : Nat → Int32) (cs up fo tn : Int32) (w t lo hi me : Nat → Int32) (n : Nat) (hn : n ≤ 12) (qu gu ri re : Int32) (P : Nat → Nat → Nat) (F : Nat → Nat → Nat → Int32) (z : Nat) (hz : z ≤ 6) (o0 o1 : SLO) (c : Nat) (hc : 33 ≤ c) (hc2 : c ≤ 126) (hl6 : ln = 60) : TH l yX6_append wsX6_append 7 G [.ref xa, .int (nI c)] ([(xa, .inr (5, [.ref (a 0), .ref (hh 0), .ref so, .ref (b 0), .ref (ce 0)]))] ++ ([(so, .inl (G.2.2.2.1, 2, .inr (.inr (.inr (.inr (slR o0 o1))))))] ++ (txW G b sg (nI ln) ++ (ceW G ce mk cs up ++ (stW G a fo tn w t lo hi me (nI n) qu gu ri re ++ ([(hh 0, .inr (2, [.ref (hh 1), .int (nI z)]))] ++ (hiR G hh P F ++ (slS G o0 ++ (slS G o1))))))))) ISE := by
  refine th_of (cc := cX6_append) (maxL := 2) (ret := (some .int)) (by decide) rfl (Nat.le_of_ble_eq_true rfl) ?_
  intro pG eG s mG below meth cG hx hb hml hts hown hlocks hex hP hK hN hX hZ ls hl
  have hown : s.vm.findClass RX6 = some mG.cls := hown
  have hl : lv_has ls 2 [(0, .ref xa), (1, .int (nI c))] := hl
  refine lv_iload_n hx hb dX6_append_0 rfl (lv_at hl 1 rfl) ?_
  refine lv_bipush (v := nI 33) hx hb dX6_append_1 (by decide) ?_
  refine lv_icmp_lt (tgt := 12) hx hb dX6_append_3 (by decide) (fun c_3 => ?_) (fun c_3 => ?_)
  · exact absurd c_3 (nI_nlt hc (by omega))
  · refine lv_iload_n hx hb dX6_append_6 rfl (lv_at hl 1 rfl) ?_
    refine lv_bipush (v := nI 126) hx hb dX6_append_7 (by decide) ?_
    refine lv_icmp_le (tgt := 22) hx hb dX6_append_9 (by decide) (fun c_9 => ?_) (fun c_9 => ?_)
    · refine lv_aload_n hx hb dX6_append_22 rfl (lv_at hl 0 rfl) ?_
      refine va_get (D := G.1) (ws := [(xa, .inr (5, [.ref (a 0), .ref (hh 0), .ref so, .ref (b 0), .ref (ce 0)]))] ++ ([(so, .inl (G.2.2.2.1, 2, .inr (.inr (.inr (.inr (slR o0 o1))))))] ++ (txW G b sg (nI ln) ++ (ceW G ce mk cs up ++ (stW G a fo tn w t lo hi me (nI n) qu gu ri re ++ ([(hh 0, .inr (2, [.ref (hh 1), .int (nI z)]))] ++ (hiR G hh P F ++ (slS G o0 ++ (slS G o1))))))))) (ci := 5) (v := .ref (b 0)) (C := RX6) (T := TX6) (N := 5) hx hb hts (fun _ h => List.mem_cons_of_mem _ (List.mem_append_left _ (List.mem_append_left _ (List.mem_append_left _ (List.mem_append_right _ (h)))))) hown hK hP 0 rfl rfl 3 (by decide) (hts (.fieldLink RX6 30 "CreaseMaps" "text" "LCreaseMaps$MapText;") (List.mem_of_getElem? (i := 5) rfl)) (fun _ h9 => h9) rfl dX6_append_23 ?_
      refine va_get (D := G.1) (ws := [(xa, .inr (5, [.ref (a 0), .ref (hh 0), .ref so, .ref (b 0), .ref (ce 0)]))] ++ ([(so, .inl (G.2.2.2.1, 2, .inr (.inr (.inr (.inr (slR o0 o1))))))] ++ (txW G b sg (nI ln) ++ (ceW G ce mk cs up ++ (stW G a fo tn w t lo hi me (nI n) qu gu ri re ++ ([(hh 0, .inr (2, [.ref (hh 1), .int (nI z)]))] ++ (hiR G hh P F ++ (slS G o0 ++ (slS G o1))))))))) (ci := 3) (v := .int (nI ln)) (C := RX4) (T := TX4) (N := 2) hx hb hts (fun _ h => List.mem_cons_of_mem _ (List.mem_append_left _ (List.mem_append_left _ (List.mem_append_right _ (h))))) hown hK hP 2 rfl rfl 1 (by decide) (hts (.fieldLink RX6 140 "CreaseMaps$MapText" "length" "I") (List.mem_of_getElem? (i := 6) rfl)) (fun _ h9 => h9) rfl dX6_append_26 ?_
      refine lv_bipush (v := nI 60) hx hb dX6_append_29 (by decide) ?_
      refine lv_icmp_lt (tgt := 44) hx hb dX6_append_31 (by decide) (fun c_31 => ?_) (fun c_31 => ?_)
      · exact absurd c_31 (nI_nlt (by omega) (by omega))
      · exact th_row (text := "the buffer is full") (ik := 143) (is := 145) (ic := 147) hx hb hfl (by decide) hown th_ISE (hts (.classLink RX6 143 "java/lang/IllegalStateException") (List.mem_of_getElem? (i := 3) rfl)) (hts (.initialized "java/lang/IllegalStateException") (List.mem_of_getElem? (i := 4) rfl)) hX.1.2.2 hX.2.1.2.2 (fun w h => hts w (List.mem_cons_of_mem _ (List.mem_append_right _ (h)))) (hX.2.2 (145, "the buffer is full") (by decide +kernel)) hZ (hl.1.trans hml.symm) dX6_append_34 dX6_append_37 dX6_append_38 dX6_append_40 dX6_append_43 hex hlocks
    · exact absurd (nI_le hc2 (by omega)) c_9

set_option maxHeartbeats 4000000 in
set_option maxRecDepth 100000 in
theorem t_X6_load_no (l : Launch) (hfl : l.stackTraces = false) (G : GG) (xa so : Nat) (b ce a hh : Nat → Nat) (sg : Nat → Int32) (ln : Nat) (hln : ln ≤ 60) (mk : Nat → Int32) (cs up fo tn : Int32) (w t lo hi me : Nat → Int32) (n : Nat) (hn : n ≤ 12) (qu gu ri re : Int32) (P : Nat → Nat → Nat) (F : Nat → Nat → Nat → Int32) (z : Nat) (hz : z ≤ 6) (o0 o1 : SLO) (htl : tlsC sg ln = false) : TH l yX6_load wsX6_load 7 G [.ref xa] ([(xa, .inr (5, [.ref (a 0), .ref (hh 0), .ref so, .ref (b 0), .ref (ce 0)]))] ++ ([(so, .inl (G.2.2.2.1, 2, .inr (.inr (.inr (.inr (slR o0 o1))))))] ++ (txW G b sg (nI ln) ++ (ceW G ce mk cs up ++ (stW G a fo tn w t lo hi me (nI n) qu gu ri re ++ ([(hh 0, .inr (2, [.ref (hh 1), .int (nI z)]))] ++ (hiR G hh P F ++ (slS G o0 ++ (slS G o1))))))))) IAE := by
  refine th_of (cc := cX6_load) (maxL := 2) (ret := (some .int)) (by decide) rfl (Nat.le_of_ble_eq_true rfl) ?_
  intro pG eG s mG below meth cG hx hb hml hts hown hlocks hex hP hK hN hX hZ ls hl
  have hown : s.vm.findClass RX6 = some mG.cls := hown
  have hl : lv_has ls 2 [(0, .ref xa)] := hl
  refine lv_aload_n hx hb dX6_load_0 rfl (lv_at hl 0 rfl) ?_
  refine va_get (D := G.1) (ws := [(xa, .inr (5, [.ref (a 0), .ref (hh 0), .ref so, .ref (b 0), .ref (ce 0)]))] ++ ([(so, .inl (G.2.2.2.1, 2, .inr (.inr (.inr (.inr (slR o0 o1))))))] ++ (txW G b sg (nI ln) ++ (ceW G ce mk cs up ++ (stW G a fo tn w t lo hi me (nI n) qu gu ri re ++ ([(hh 0, .inr (2, [.ref (hh 1), .int (nI z)]))] ++ (hiR G hh P F ++ (slS G o0 ++ (slS G o1))))))))) (ci := 5) (v := .ref (b 0)) (C := RX6) (T := TX6) (N := 5) hx hb hts (fun _ h => List.mem_cons_of_mem _ (List.mem_append_left _ (List.mem_append_left _ (List.mem_append_left _ (List.mem_append_left _ (List.mem_append_left _ (List.mem_append_left _ (List.mem_append_right _ (h))))))))) hown hK hP 0 rfl rfl 3 (by decide) (hts (.fieldLink RX6 30 "CreaseMaps" "text" "LCreaseMaps$MapText;") (List.mem_of_getElem? (i := 3) rfl)) (fun _ h9 => h9) rfl dX6_load_1 ?_
  refine rd_go (va_runV (As := []) (rest := []) ⟨hx, hb, hml, hown, hts⟩ (c_X4_tellsMap l G b sg ln hln ) (cwV 0 hts gX6_load_X4_tellsMap rfl rfl rfl (by decide +kernel) ⟨Nat.le_of_ble_eq_true rfl, Nat.le_of_ble_eq_true rfl⟩) (rV (ws := txW G b sg (nI ln)) (va_recv (ws := [(xa, .inr (5, [.ref (a 0), .ref (hh 0), .ref so, .ref (b 0), .ref (ce 0)]))] ++ ([(so, .inl (G.2.2.2.1, 2, .inr (.inr (.inr (.inr (slR o0 o1))))))] ++ (txW G b sg (nI ln) ++ (ceW G ce mk cs up ++ (stW G a fo tn w t lo hi me (nI n) qu gu ri re ++ ([(hh 0, .inr (2, [.ref (hh 1), .int (nI z)]))] ++ (hiR G hh P F ++ (slS G o0 ++ (slS G o1))))))))) hK hP (ci := 3) (q0 := 2) rfl rfl) hK hN (P_mid (pre := [(xa, .inr (5, [.ref (a 0), .ref (hh 0), .ref so, .ref (b 0), .ref (ce 0)]))] ++ ([(so, .inl (G.2.2.2.1, 2, .inr (.inr (.inr (.inr (slR o0 o1))))))])) (mid := txW G b sg (nI ln)) (suf := ceW G ce mk cs up ++ (stW G a fo tn w t lo hi me (nI n) qu gu ri re ++ ([(hh 0, .inr (2, [.ref (hh 1), .int (nI z)]))] ++ (hiR G hh P F ++ (slS G o0 ++ (slS G o1)))))) hP)) rfl rfl hl.1 rfl (lv_room (Nat.le_of_ble_eq_true rfl)) dX6_load_4 ⟨Nat.le_of_ble_eq_true rfl, Nat.le_of_ble_eq_true rfl⟩) ?_
  refine lv_cgi (y := nI 0) (by rw [htl]; rfl) ?_
  refine lv_if_ne (tgt := 20) hx hb dX6_load_7 (by decide) (fun c_7 => ?_) (fun c_7 => ?_)
  · exact absurd c_7 (by decide)
  · exact th_row (text := "the buffer does not tell a map") (ik := 73) (is := 158) (ic := 77) hx hb hfl (by decide) hown th_IAE (hts (.classLink RX6 73 "java/lang/IllegalArgumentException") (List.mem_of_getElem? (i := 1) rfl)) (hts (.initialized "java/lang/IllegalArgumentException") (List.mem_of_getElem? (i := 2) rfl)) hX.1.2.1 hX.2.1.2.2 (fun w h => hts w (List.mem_cons_of_mem _ (List.mem_append_right _ (h)))) (hX.2.2 (158, "the buffer does not tell a map") (by decide +kernel)) hZ (hl.1.trans hml.symm) dX6_load_10 dX6_load_13 dX6_load_14 dX6_load_16 dX6_load_19 hex hlocks

set_option maxHeartbeats 4000000 in
set_option maxRecDepth 100000 in
theorem t_X6_keep_no (l : Launch) (hfl : l.stackTraces = false) (G : GG) (xa : Nat) (fs : List Value) (wr : va_W) (x : Int32) (hx0 : ¬ inB x (nI 0) (nI 1)) : TH l yX6_keep wsX6_keep 7 G [.ref xa, .int x] ([(xa, .inr (5, fs))] ++ (wr)) IAE := by
  refine th_of (cc := cX6_keep) (maxL := 2) (ret := (some .int)) (by decide) rfl (Nat.le_of_ble_eq_true rfl) ?_
  intro pG eG s mG below meth cG hx hb hml hts hown hlocks hex hP hK hN hX hZ ls hl
  have hown : s.vm.findClass RX6 = some mG.cls := hown
  have hl : lv_has ls 2 [(0, .ref xa), (1, .int x)] := hl
  refine lv_iload_n hx hb dX6_keep_0 rfl (lv_at hl 1 rfl) ?_
  exact th_go (vx_runS (As := [.int x]) (rest := []) ⟨hx, hb, hml, hown, hts⟩ (t_X6_requireSlot l hfl G x hx0) (va_cwS 1 hts gX6_keep_X6_requireSlot rfl rfl rfl (by decide +kernel) ⟨Nat.le_of_ble_eq_true rfl, Nat.le_of_ble_eq_true rfl⟩) (xS (ws := []) hK hN P_nil hX hZ) rfl rfl hl.1 rfl (lv_room (Nat.le_of_ble_eq_true rfl)) dX6_keep_1 ⟨Nat.le_of_ble_eq_true rfl, Nat.le_of_ble_eq_true rfl⟩) hex hlocks

set_option maxHeartbeats 4000000 in
set_option maxRecDepth 100000 in
theorem t_X6_goBack_no1 (l : Launch) (hfl : l.stackTraces = false) (G : GG) (xa : Nat) (fs : List Value) (wr : va_W) (x : Int32) (hx0 : ¬ inB x (nI 0) (nI 1)) : TH l yX6_goBack wsX6_goBack 7 G [.ref xa, .int x] ([(xa, .inr (5, fs))] ++ (wr)) IAE := by
  refine th_of (cc := cX6_goBack) (maxL := 2) (ret := (some .int)) (by decide) rfl (Nat.le_of_ble_eq_true rfl) ?_
  intro pG eG s mG below meth cG hx hb hml hts hown hlocks hex hP hK hN hX hZ ls hl
  have hown : s.vm.findClass RX6 = some mG.cls := hown
  have hl : lv_has ls 2 [(0, .ref xa), (1, .int x)] := hl
  refine lv_iload_n hx hb dX6_goBack_0 rfl (lv_at hl 1 rfl) ?_
  exact th_go (vx_runS (As := [.int x]) (rest := []) ⟨hx, hb, hml, hown, hts⟩ (t_X6_requireSlot l hfl G x hx0) (va_cwS 1 hts gX6_goBack_X6_requireSlot rfl rfl rfl (by decide +kernel) ⟨Nat.le_of_ble_eq_true rfl, Nat.le_of_ble_eq_true rfl⟩) (xS (ws := []) hK hN P_nil hX hZ) rfl rfl hl.1 rfl (lv_room (Nat.le_of_ble_eq_true rfl)) dX6_goBack_1 ⟨Nat.le_of_ble_eq_true rfl, Nat.le_of_ble_eq_true rfl⟩) hex hlocks

set_option maxHeartbeats 4000000 in
set_option maxRecDepth 100000 in
theorem t_X6_goBack_no2_0 (l : Launch) (hfl : l.stackTraces = false) (G : GG) (xa so : Nat) (b ce a hh : Nat → Nat) (sg : Nat → Int32) (ln : Nat) (hln : ln ≤ 60) (mk : Nat → Int32) (cs up fo tn : Int32) (w t lo hi me : Nat → Int32) (n : Nat) (hn : n ≤ 12) (qu gu ri re : Int32) (P : Nat → Nat → Nat) (F : Nat → Nat → Nat → Int32) (z : Nat) (hz : z ≤ 6) (o1 : SLO)  : TH l yX6_goBack wsX6_goBack 7 G [.ref xa, .int (nI 0)] ([(xa, .inr (5, [.ref (a 0), .ref (hh 0), .ref so, .ref (b 0), .ref (ce 0)]))] ++ ([(so, .inl (G.2.2.2.1, 2, .inr (.inr (.inr (.inr (slR none o1))))))] ++ (txW G b sg (nI ln) ++ (ceW G ce mk cs up ++ (stW G a fo tn w t lo hi me (nI n) qu gu ri re ++ ([(hh 0, .inr (2, [.ref (hh 1), .int (nI z)]))] ++ (hiR G hh P F ++ (slS G none ++ (slS G o1))))))))) ISE := by
  refine th_of (cc := cX6_goBack) (maxL := 2) (ret := (some .int)) (by decide) rfl (Nat.le_of_ble_eq_true rfl) ?_
  intro pG eG s mG below meth cG hx hb hml hts hown hlocks hex hP hK hN hX hZ ls hl
  have hown : s.vm.findClass RX6 = some mG.cls := hown
  have hl : lv_has ls 2 [(0, .ref xa), (1, .int (nI 0))] := hl
  refine lv_iload_n hx hb dX6_goBack_0 rfl (lv_at hl 1 rfl) ?_
  refine rd_gov (va_runS (As := [.int (nI 0)]) (rest := []) ⟨hx, hb, hml, hown, hts⟩ (c_X6_requireSlot_ok l G 0 (by omega)) (va_cwS 1 hts gX6_goBack_X6_requireSlot rfl rfl rfl (by decide +kernel) ⟨Nat.le_of_ble_eq_true rfl, Nat.le_of_ble_eq_true rfl⟩) (rS (ws := []) hK hN P_nil) rfl rfl hl.1 rfl (lv_room (Nat.le_of_ble_eq_true rfl)) dX6_goBack_1 ⟨Nat.le_of_ble_eq_true rfl, Nat.le_of_ble_eq_true rfl⟩) ?_
  refine lv_aload_n hx hb dX6_goBack_4 rfl (lv_at hl 0 rfl) ?_
  refine va_get (D := G.1) (ws := [(xa, .inr (5, [.ref (a 0), .ref (hh 0), .ref so, .ref (b 0), .ref (ce 0)]))] ++ ([(so, .inl (G.2.2.2.1, 2, .inr (.inr (.inr (.inr (slR none o1))))))] ++ (txW G b sg (nI ln) ++ (ceW G ce mk cs up ++ (stW G a fo tn w t lo hi me (nI n) qu gu ri re ++ ([(hh 0, .inr (2, [.ref (hh 1), .int (nI z)]))] ++ (hiR G hh P F ++ (slS G none ++ (slS G o1))))))))) (ci := 5) (v := .ref so) (C := RX6) (T := TX6) (N := 5) hx hb hts (fun _ h => List.mem_cons_of_mem _ (List.mem_append_left _ (List.mem_append_left _ (List.mem_append_left _ (List.mem_append_left _ (List.mem_append_left _ (List.mem_append_left _ (List.mem_append_right _ (h))))))))) hown hK hP 0 rfl rfl 2 (by decide) (hts (.fieldLink RX6 23 "CreaseMaps" "slots" "[LCreaseMaps$State;") (List.mem_of_getElem? (i := 3) rfl)) (fun _ h9 => h9) rfl dX6_goBack_5 ?_
  refine lv_iload_n hx hb dX6_goBack_8 rfl (lv_at hl 1 rfl) ?_
  refine va_aldq (D := G.1) (ws := [(xa, .inr (5, [.ref (a 0), .ref (hh 0), .ref so, .ref (b 0), .ref (ce 0)]))] ++ ([(so, .inl (G.2.2.2.1, 2, .inr (.inr (.inr (.inr (slR none o1))))))] ++ (txW G b sg (nI ln) ++ (ceW G ce mk cs up ++ (stW G a fo tn w t lo hi me (nI n) qu gu ri re ++ ([(hh 0, .inr (2, [.ref (hh 1), .int (nI z)]))] ++ (hiR G hh P F ++ (slS G none ++ (slS G o1))))))))) hx hb hK hP 1 2 (n := 2) rfl rfl (by first | assumption | exact vp_in_nI (by omega) (by omega)) dX6_goBack_9 ?_
  refine lv_cgv (y := .null) rfl ?_
  refine lv_ifnonnullN hx hb dX6_goBack_10 ?_
  exact th_row (text := "no snapshot in the slot") (ik := 143) (is := 173) (ic := 147) hx hb hfl (by decide) hown th_ISE (hts (.classLink RX6 143 "java/lang/IllegalStateException") (List.mem_of_getElem? (i := 1) rfl)) (hts (.initialized "java/lang/IllegalStateException") (List.mem_of_getElem? (i := 2) rfl)) hX.1.2.2 hX.2.1.2.2 (fun w h => hts w (List.mem_cons_of_mem _ (List.mem_append_left _ (List.mem_append_right _ (h))))) (hX.2.2 (173, "no snapshot in the slot") (by decide +kernel)) hZ (hl.1.trans hml.symm) dX6_goBack_13 dX6_goBack_16 dX6_goBack_17 dX6_goBack_19 dX6_goBack_22 hex hlocks

set_option maxHeartbeats 4000000 in
set_option maxRecDepth 100000 in
theorem t_X6_goBack_no2_1 (l : Launch) (hfl : l.stackTraces = false) (G : GG) (xa so : Nat) (b ce a hh : Nat → Nat) (sg : Nat → Int32) (ln : Nat) (hln : ln ≤ 60) (mk : Nat → Int32) (cs up fo tn : Int32) (w t lo hi me : Nat → Int32) (n : Nat) (hn : n ≤ 12) (qu gu ri re : Int32) (P : Nat → Nat → Nat) (F : Nat → Nat → Nat → Int32) (z : Nat) (hz : z ≤ 6) (o0 : SLO)  : TH l yX6_goBack wsX6_goBack 7 G [.ref xa, .int (nI 1)] ([(xa, .inr (5, [.ref (a 0), .ref (hh 0), .ref so, .ref (b 0), .ref (ce 0)]))] ++ ([(so, .inl (G.2.2.2.1, 2, .inr (.inr (.inr (.inr (slR o0 none))))))] ++ (txW G b sg (nI ln) ++ (ceW G ce mk cs up ++ (stW G a fo tn w t lo hi me (nI n) qu gu ri re ++ ([(hh 0, .inr (2, [.ref (hh 1), .int (nI z)]))] ++ (hiR G hh P F ++ (slS G o0 ++ (slS G none))))))))) ISE := by
  refine th_of (cc := cX6_goBack) (maxL := 2) (ret := (some .int)) (by decide) rfl (Nat.le_of_ble_eq_true rfl) ?_
  intro pG eG s mG below meth cG hx hb hml hts hown hlocks hex hP hK hN hX hZ ls hl
  have hown : s.vm.findClass RX6 = some mG.cls := hown
  have hl : lv_has ls 2 [(0, .ref xa), (1, .int (nI 1))] := hl
  refine lv_iload_n hx hb dX6_goBack_0 rfl (lv_at hl 1 rfl) ?_
  refine rd_gov (va_runS (As := [.int (nI 1)]) (rest := []) ⟨hx, hb, hml, hown, hts⟩ (c_X6_requireSlot_ok l G 1 (by omega)) (va_cwS 1 hts gX6_goBack_X6_requireSlot rfl rfl rfl (by decide +kernel) ⟨Nat.le_of_ble_eq_true rfl, Nat.le_of_ble_eq_true rfl⟩) (rS (ws := []) hK hN P_nil) rfl rfl hl.1 rfl (lv_room (Nat.le_of_ble_eq_true rfl)) dX6_goBack_1 ⟨Nat.le_of_ble_eq_true rfl, Nat.le_of_ble_eq_true rfl⟩) ?_
  refine lv_aload_n hx hb dX6_goBack_4 rfl (lv_at hl 0 rfl) ?_
  refine va_get (D := G.1) (ws := [(xa, .inr (5, [.ref (a 0), .ref (hh 0), .ref so, .ref (b 0), .ref (ce 0)]))] ++ ([(so, .inl (G.2.2.2.1, 2, .inr (.inr (.inr (.inr (slR o0 none))))))] ++ (txW G b sg (nI ln) ++ (ceW G ce mk cs up ++ (stW G a fo tn w t lo hi me (nI n) qu gu ri re ++ ([(hh 0, .inr (2, [.ref (hh 1), .int (nI z)]))] ++ (hiR G hh P F ++ (slS G o0 ++ (slS G none))))))))) (ci := 5) (v := .ref so) (C := RX6) (T := TX6) (N := 5) hx hb hts (fun _ h => List.mem_cons_of_mem _ (List.mem_append_left _ (List.mem_append_left _ (List.mem_append_left _ (List.mem_append_left _ (List.mem_append_left _ (List.mem_append_left _ (List.mem_append_right _ (h))))))))) hown hK hP 0 rfl rfl 2 (by decide) (hts (.fieldLink RX6 23 "CreaseMaps" "slots" "[LCreaseMaps$State;") (List.mem_of_getElem? (i := 3) rfl)) (fun _ h9 => h9) rfl dX6_goBack_5 ?_
  refine lv_iload_n hx hb dX6_goBack_8 rfl (lv_at hl 1 rfl) ?_
  refine va_aldq (D := G.1) (ws := [(xa, .inr (5, [.ref (a 0), .ref (hh 0), .ref so, .ref (b 0), .ref (ce 0)]))] ++ ([(so, .inl (G.2.2.2.1, 2, .inr (.inr (.inr (.inr (slR o0 none))))))] ++ (txW G b sg (nI ln) ++ (ceW G ce mk cs up ++ (stW G a fo tn w t lo hi me (nI n) qu gu ri re ++ ([(hh 0, .inr (2, [.ref (hh 1), .int (nI z)]))] ++ (hiR G hh P F ++ (slS G o0 ++ (slS G none))))))))) hx hb hK hP 1 2 (n := 2) rfl rfl (by first | assumption | exact vp_in_nI (by omega) (by omega)) dX6_goBack_9 ?_
  refine lv_cgv (y := .null) rfl ?_
  refine lv_ifnonnullN hx hb dX6_goBack_10 ?_
  exact th_row (text := "no snapshot in the slot") (ik := 143) (is := 173) (ic := 147) hx hb hfl (by decide) hown th_ISE (hts (.classLink RX6 143 "java/lang/IllegalStateException") (List.mem_of_getElem? (i := 1) rfl)) (hts (.initialized "java/lang/IllegalStateException") (List.mem_of_getElem? (i := 2) rfl)) hX.1.2.2 hX.2.1.2.2 (fun w h => hts w (List.mem_cons_of_mem _ (List.mem_append_left _ (List.mem_append_right _ (h))))) (hX.2.2 (173, "no snapshot in the slot") (by decide +kernel)) hZ (hl.1.trans hml.symm) dX6_goBack_13 dX6_goBack_16 dX6_goBack_17 dX6_goBack_19 dX6_goBack_22 hex hlocks

set_option maxHeartbeats 4000000 in
set_option maxRecDepth 100000 in
theorem t_X6_undo_no (l : Launch) (hfl : l.stackTraces = false) (G : GG) (xa so : Nat) (b ce a hh : Nat → Nat) (sg : Nat → Int32) (ln : Nat) (hln : ln ≤ 60) (mk : Nat → Int32) (cs up fo tn : Int32) (w t lo hi me : Nat → Int32) (n : Nat) (hn : n ≤ 12) (qu gu ri re : Int32) (P : Nat → Nat → Nat) (F : Nat → Nat → Nat → Int32) (o0 o1 : SLO)  : TH l yX6_undo wsX6_undo 7 G [.ref xa] ([(xa, .inr (5, [.ref (a 0), .ref (hh 0), .ref so, .ref (b 0), .ref (ce 0)]))] ++ ([(so, .inl (G.2.2.2.1, 2, .inr (.inr (.inr (.inr (slR o0 o1))))))] ++ (txW G b sg (nI ln) ++ (ceW G ce mk cs up ++ (stW G a fo tn w t lo hi me (nI n) qu gu ri re ++ ([(hh 0, .inr (2, [.ref (hh 1), .int (nI 0)]))] ++ (hiR G hh P F ++ (slS G o0 ++ (slS G o1))))))))) ISE := by
  refine th_of (cc := cX6_undo) (maxL := 1) (ret := (some .int)) (by decide) rfl (Nat.le_of_ble_eq_true rfl) ?_
  intro pG eG s mG below meth cG hx hb hml hts hown hlocks hex hP hK hN hX hZ ls hl
  have hown : s.vm.findClass RX6 = some mG.cls := hown
  have hl : lv_has ls 1 [(0, .ref xa)] := hl
  refine lv_aload_n hx hb dX6_undo_0 rfl (lv_at hl 0 rfl) ?_
  refine va_get (D := G.1) (ws := [(xa, .inr (5, [.ref (a 0), .ref (hh 0), .ref so, .ref (b 0), .ref (ce 0)]))] ++ ([(so, .inl (G.2.2.2.1, 2, .inr (.inr (.inr (.inr (slR o0 o1))))))] ++ (txW G b sg (nI ln) ++ (ceW G ce mk cs up ++ (stW G a fo tn w t lo hi me (nI n) qu gu ri re ++ ([(hh 0, .inr (2, [.ref (hh 1), .int (nI 0)]))] ++ (hiR G hh P F ++ (slS G o0 ++ (slS G o1))))))))) (ci := 5) (v := .ref (hh 0)) (C := RX6) (T := TX6) (N := 5) hx hb hts (fun _ h => List.mem_cons_of_mem _ (List.mem_append_left _ (List.mem_append_left _ (List.mem_append_left _ (List.mem_append_left _ (List.mem_append_left _ (List.mem_append_right _ (h)))))))) hown hK hP 0 rfl rfl 1 (by decide) (hts (.fieldLink RX6 19 "CreaseMaps" "history" "LCreaseMaps$History;") (List.mem_of_getElem? (i := 3) rfl)) (fun _ h9 => h9) rfl dX6_undo_1 ?_
  refine va_get (D := G.1) (ws := [(xa, .inr (5, [.ref (a 0), .ref (hh 0), .ref so, .ref (b 0), .ref (ce 0)]))] ++ ([(so, .inl (G.2.2.2.1, 2, .inr (.inr (.inr (.inr (slR o0 o1))))))] ++ (txW G b sg (nI ln) ++ (ceW G ce mk cs up ++ (stW G a fo tn w t lo hi me (nI n) qu gu ri re ++ ([(hh 0, .inr (2, [.ref (hh 1), .int (nI 0)]))] ++ (hiR G hh P F ++ (slS G o0 ++ (slS G o1))))))))) (ci := 2) (v := .int (nI 0)) (C := RX2) (T := TX2) (N := 2) hx hb hts (fun _ h => List.mem_cons_of_mem _ (List.mem_append_left _ (List.mem_append_left _ (List.mem_append_left _ (List.mem_append_left _ (List.mem_append_right _ (h))))))) hown hK hP 13 rfl rfl 1 (by decide) (hts (.fieldLink RX6 175 "CreaseMaps$History" "size" "I") (List.mem_of_getElem? (i := 4) rfl)) (fun _ h9 => h9) rfl dX6_undo_4 ?_
  refine lv_if_ne (tgt := 20) hx hb dX6_undo_7 (by decide) (fun c_7 => ?_) (fun c_7 => ?_)
  · exact absurd c_7 (by decide)
  · exact th_row (text := "no saved state") (ik := 143) (is := 176) (ic := 147) hx hb hfl (by decide) hown th_ISE (hts (.classLink RX6 143 "java/lang/IllegalStateException") (List.mem_of_getElem? (i := 1) rfl)) (hts (.initialized "java/lang/IllegalStateException") (List.mem_of_getElem? (i := 2) rfl)) hX.1.2.2 hX.2.1.2.2 (fun w h => hts w (List.mem_cons_of_mem _ (List.mem_append_right _ (h)))) (hX.2.2 (176, "no saved state") (by decide +kernel)) hZ (hl.1.trans hml.symm) dX6_undo_10 dX6_undo_13 dX6_undo_14 dX6_undo_16 dX6_undo_19 hex hlocks

set_option maxHeartbeats 4000000 in
set_option maxRecDepth 100000 in
theorem t_X6_panelOf_no1 (l : Launch) (hfl : l.stackTraces = false) (G : GG) (xa : Nat) (fs : List Value) (wr : va_W) (x y : Int32) (hx0 : ¬ inB x (nI 0) (nI 9)) : TH l yX6_panelOf wsX6_panelOf 7 G [.ref xa, .int x, .int y] ([(xa, .inr (5, fs))] ++ (wr)) IOO := by
  refine th_of (cc := cX6_panelOf) (maxL := 3) (ret := (some .int)) (by decide) rfl (Nat.le_of_ble_eq_true rfl) ?_
  intro pG eG s mG below meth cG hx hb hml hts hown hlocks hex hP hK hN hX hZ ls hl
  have hown : s.vm.findClass RX6 = some mG.cls := hown
  have hl : lv_has ls 3 [(0, .ref xa), (1, .int x), (2, .int y)] := hl
  refine lv_iload_n hx hb dX6_panelOf_0 rfl (lv_at hl 1 rfl) ?_
  refine lv_if_lt (tgt := 10) hx hb dX6_panelOf_1 (by decide) (fun c_1 => ?_) (fun c_1 => ?_)
  · exact th_row (text := "no such panel") (ik := 184) (is := 75) (ic := 186) hx hb hfl (by decide) hown th_IOO (hts (.classLink RX6 184 "java/lang/IndexOutOfBoundsException") (List.mem_of_getElem? (i := 1) rfl)) (hts (.initialized "java/lang/IndexOutOfBoundsException") (List.mem_of_getElem? (i := 2) rfl)) hX.1.1 hX.2.1.2.2 (fun w h => hts w (List.mem_cons_of_mem _ (List.mem_append_left _ (List.mem_append_right _ (h))))) (hX.2.2 (75, "no such panel") (by decide +kernel)) hZ (hl.1.trans hml.symm) dX6_panelOf_10 dX6_panelOf_13 dX6_panelOf_14 dX6_panelOf_16 dX6_panelOf_19 hex hlocks
  · refine lv_iload_n hx hb dX6_panelOf_4 rfl (lv_at hl 1 rfl) ?_
    refine lv_bipush (v := nI 10) hx hb dX6_panelOf_5 (by decide) ?_
    refine lv_icmp_lt (tgt := 20) hx hb dX6_panelOf_7 (by decide) (fun c_7 => ?_) (fun c_7 => ?_)
    · exact absurd (show inB x (nI 0) (nI 9) from ⟨ni0 c_1, le_of_lt1 (by decide) c_7⟩) hx0
    · exact th_row (text := "no such panel") (ik := 184) (is := 75) (ic := 186) hx hb hfl (by decide) hown th_IOO (hts (.classLink RX6 184 "java/lang/IndexOutOfBoundsException") (List.mem_of_getElem? (i := 1) rfl)) (hts (.initialized "java/lang/IndexOutOfBoundsException") (List.mem_of_getElem? (i := 2) rfl)) hX.1.1 hX.2.1.2.2 (fun w h => hts w (List.mem_cons_of_mem _ (List.mem_append_left _ (List.mem_append_right _ (h))))) (hX.2.2 (75, "no such panel") (by decide +kernel)) hZ (hl.1.trans hml.symm) dX6_panelOf_10 dX6_panelOf_13 dX6_panelOf_14 dX6_panelOf_16 dX6_panelOf_19 hex hlocks

set_option maxHeartbeats 4000000 in
set_option maxRecDepth 100000 in
theorem t_X6_panelOf_no2 (l : Launch) (hfl : l.stackTraces = false) (G : GG) (xa : Nat) (fs : List Value) (wr : va_W) (q : Nat) (hq : q < 10) (y : Int32) (hw0 : ¬ inB y (nI 0) (nI 2)) : TH l yX6_panelOf wsX6_panelOf 7 G [.ref xa, .int (nI q), .int y] ([(xa, .inr (5, fs))] ++ (wr)) IAE := by
  refine th_of (cc := cX6_panelOf) (maxL := 3) (ret := (some .int)) (by decide) rfl (Nat.le_of_ble_eq_true rfl) ?_
  intro pG eG s mG below meth cG hx hb hml hts hown hlocks hex hP hK hN hX hZ ls hl
  have hown : s.vm.findClass RX6 = some mG.cls := hown
  have hl : lv_has ls 3 [(0, .ref xa), (1, .int (nI q)), (2, .int y)] := hl
  refine lv_iload_n hx hb dX6_panelOf_0 rfl (lv_at hl 1 rfl) ?_
  refine lv_if_lt (tgt := 10) hx hb dX6_panelOf_1 (by decide) (fun c_1 => ?_) (fun c_1 => ?_)
  · exact absurd c_1 (nI_pos (by omega))
  · refine lv_iload_n hx hb dX6_panelOf_4 rfl (lv_at hl 1 rfl) ?_
    refine lv_bipush (v := nI 10) hx hb dX6_panelOf_5 (by decide) ?_
    refine lv_icmp_lt (tgt := 20) hx hb dX6_panelOf_7 (by decide) (fun c_7 => ?_) (fun c_7 => ?_)
    · refine lv_iload_n hx hb dX6_panelOf_20 rfl (lv_at hl 2 rfl) ?_
      refine lv_iconst (v := nI 3) hx hb dX6_panelOf_21 (by decide) ?_
      exact th_go (vx_runS (As := [.int y, .int (nI 3)]) (rest := []) ⟨hx, hb, hml, hown, hts⟩ (t_X6_requireWhat l hfl G y 2 (by decide) hw0) (va_cwS 2 hts gX6_panelOf_X6_requireWhat rfl rfl rfl (by decide +kernel) ⟨Nat.le_of_ble_eq_true rfl, Nat.le_of_ble_eq_true rfl⟩) (xS (ws := []) hK hN P_nil hX hZ) rfl rfl hl.1 rfl (lv_room (Nat.le_of_ble_eq_true rfl)) dX6_panelOf_22 ⟨Nat.le_of_ble_eq_true rfl, Nat.le_of_ble_eq_true rfl⟩) hex hlocks
    · exact absurd (nI_lt (by omega) (by omega)) c_7

set_option maxHeartbeats 4000000 in
set_option maxRecDepth 100000 in
theorem t_X6_creaseOf_no1 (l : Launch) (hfl : l.stackTraces = false) (G : GG) (xa : Nat) (fs : List Value) (wr : va_W) (x y : Int32) (hx0 : ¬ inB x (nI 0) (nI 8)) : TH l yX6_creaseOf wsX6_creaseOf 7 G [.ref xa, .int x, .int y] ([(xa, .inr (5, fs))] ++ (wr)) IOO := by
  refine th_of (cc := cX6_creaseOf) (maxL := 3) (ret := (some .int)) (by decide) rfl (Nat.le_of_ble_eq_true rfl) ?_
  intro pG eG s mG below meth cG hx hb hml hts hown hlocks hex hP hK hN hX hZ ls hl
  have hown : s.vm.findClass RX6 = some mG.cls := hown
  have hl : lv_has ls 3 [(0, .ref xa), (1, .int x), (2, .int y)] := hl
  refine lv_iload_n hx hb dX6_creaseOf_0 rfl (lv_at hl 1 rfl) ?_
  exact th_go (vx_runS (As := [.int x]) (rest := []) ⟨hx, hb, hml, hown, hts⟩ (t_X6_requireCrease l hfl G x hx0) (va_cwS 1 hts gX6_creaseOf_X6_requireCrease rfl rfl rfl (by decide +kernel) ⟨Nat.le_of_ble_eq_true rfl, Nat.le_of_ble_eq_true rfl⟩) (xS (ws := []) hK hN P_nil hX hZ) rfl rfl hl.1 rfl (lv_room (Nat.le_of_ble_eq_true rfl)) dX6_creaseOf_1 ⟨Nat.le_of_ble_eq_true rfl, Nat.le_of_ble_eq_true rfl⟩) hex hlocks

set_option maxHeartbeats 4000000 in
set_option maxRecDepth 100000 in
theorem t_X6_creaseOf_no2 (l : Launch) (hfl : l.stackTraces = false) (G : GG) (xa : Nat) (fs : List Value) (wr : va_W) (q : Nat) (hq : q < 9) (y : Int32) (hw0 : ¬ inB y (nI 0) (nI 3)) : TH l yX6_creaseOf wsX6_creaseOf 7 G [.ref xa, .int (nI q), .int y] ([(xa, .inr (5, fs))] ++ (wr)) IAE := by
  refine th_of (cc := cX6_creaseOf) (maxL := 3) (ret := (some .int)) (by decide) rfl (Nat.le_of_ble_eq_true rfl) ?_
  intro pG eG s mG below meth cG hx hb hml hts hown hlocks hex hP hK hN hX hZ ls hl
  have hown : s.vm.findClass RX6 = some mG.cls := hown
  have hl : lv_has ls 3 [(0, .ref xa), (1, .int (nI q)), (2, .int y)] := hl
  refine lv_iload_n hx hb dX6_creaseOf_0 rfl (lv_at hl 1 rfl) ?_
  refine rd_gov (va_runS (As := [.int (nI q)]) (rest := []) ⟨hx, hb, hml, hown, hts⟩ (c_X6_requireCrease_ok l G q (by omega)) (va_cwS 1 hts gX6_creaseOf_X6_requireCrease rfl rfl rfl (by decide +kernel) ⟨Nat.le_of_ble_eq_true rfl, Nat.le_of_ble_eq_true rfl⟩) (rS (ws := []) hK hN P_nil) rfl rfl hl.1 rfl (lv_room (Nat.le_of_ble_eq_true rfl)) dX6_creaseOf_1 ⟨Nat.le_of_ble_eq_true rfl, Nat.le_of_ble_eq_true rfl⟩) ?_
  refine lv_iload_n hx hb dX6_creaseOf_4 rfl (lv_at hl 2 rfl) ?_
  refine lv_iconst (v := nI 4) hx hb dX6_creaseOf_5 (by decide) ?_
  exact th_go (vx_runS (As := [.int y, .int (nI 4)]) (rest := []) ⟨hx, hb, hml, hown, hts⟩ (t_X6_requireWhat l hfl G y 3 (by decide) hw0) (va_cwS 2 hts gX6_creaseOf_X6_requireWhat rfl rfl rfl (by decide +kernel) ⟨Nat.le_of_ble_eq_true rfl, Nat.le_of_ble_eq_true rfl⟩) (xS (ws := []) hK hN P_nil hX hZ) rfl rfl hl.1 rfl (lv_room (Nat.le_of_ble_eq_true rfl)) dX6_creaseOf_6 ⟨Nat.le_of_ble_eq_true rfl, Nat.le_of_ble_eq_true rfl⟩) hex hlocks

set_option maxHeartbeats 4000000 in
set_option maxRecDepth 100000 in
theorem t_X6_between_no1a (l : Launch) (hfl : l.stackTraces = false) (G : GG) (xa : Nat) (fs : List Value) (wr : va_W) (x y w : Int32) (hx0 : ¬ inB x (nI 0) (nI 5)) : TH l yX6_between wsX6_between 7 G [.ref xa, .int x, .int y, .int w] ([(xa, .inr (5, fs))] ++ (wr)) IOO := by
  refine th_of (cc := cX6_between) (maxL := 6) (ret := (some .int)) (by decide) rfl (Nat.le_of_ble_eq_true rfl) ?_
  intro pG eG s mG below meth cG hx hb hml hts hown hlocks hex hP hK hN hX hZ ls hl
  have hown : s.vm.findClass RX6 = some mG.cls := hown
  have hl : lv_has ls 6 [(0, .ref xa), (1, .int x), (2, .int y), (3, .int w)] := hl
  refine lv_iload_n hx hb dX6_between_0 rfl (lv_at hl 1 rfl) ?_
  exact th_go (vx_runS (As := [.int x]) (rest := []) ⟨hx, hb, hml, hown, hts⟩ (t_X6_requireTown l hfl G x hx0) (va_cwS 1 hts gX6_between_X6_requireTown rfl rfl rfl (by decide +kernel) ⟨Nat.le_of_ble_eq_true rfl, Nat.le_of_ble_eq_true rfl⟩) (xS (ws := []) hK hN P_nil hX hZ) rfl rfl hl.1 rfl (lv_room (Nat.le_of_ble_eq_true rfl)) dX6_between_1 ⟨Nat.le_of_ble_eq_true rfl, Nat.le_of_ble_eq_true rfl⟩) hex hlocks

set_option maxHeartbeats 4000000 in
set_option maxRecDepth 100000 in
theorem t_X6_between_no1b (l : Launch) (hfl : l.stackTraces = false) (G : GG) (xa : Nat) (fs : List Value) (wr : va_W) (t : Nat) (ht : t < 6) (y w : Int32) (hx0 : ¬ inB y (nI 0) (nI 5)) : TH l yX6_between wsX6_between 7 G [.ref xa, .int (nI t), .int y, .int w] ([(xa, .inr (5, fs))] ++ (wr)) IOO := by
  refine th_of (cc := cX6_between) (maxL := 6) (ret := (some .int)) (by decide) rfl (Nat.le_of_ble_eq_true rfl) ?_
  intro pG eG s mG below meth cG hx hb hml hts hown hlocks hex hP hK hN hX hZ ls hl
  have hown : s.vm.findClass RX6 = some mG.cls := hown
  have hl : lv_has ls 6 [(0, .ref xa), (1, .int (nI t)), (2, .int y), (3, .int w)] := hl
  refine lv_iload_n hx hb dX6_between_0 rfl (lv_at hl 1 rfl) ?_
  refine rd_gov (va_runS (As := [.int (nI t)]) (rest := []) ⟨hx, hb, hml, hown, hts⟩ (c_X6_requireTown_ok l G t (by omega)) (va_cwS 1 hts gX6_between_X6_requireTown rfl rfl rfl (by decide +kernel) ⟨Nat.le_of_ble_eq_true rfl, Nat.le_of_ble_eq_true rfl⟩) (rS (ws := []) hK hN P_nil) rfl rfl hl.1 rfl (lv_room (Nat.le_of_ble_eq_true rfl)) dX6_between_1 ⟨Nat.le_of_ble_eq_true rfl, Nat.le_of_ble_eq_true rfl⟩) ?_
  refine lv_iload_n hx hb dX6_between_4 rfl (lv_at hl 2 rfl) ?_
  exact th_go (vx_runS (As := [.int y]) (rest := []) ⟨hx, hb, hml, hown, hts⟩ (t_X6_requireTown l hfl G y hx0) (va_cwS 1 hts gX6_between_X6_requireTown rfl rfl rfl (by decide +kernel) ⟨Nat.le_of_ble_eq_true rfl, Nat.le_of_ble_eq_true rfl⟩) (xS (ws := []) hK hN P_nil hX hZ) rfl rfl hl.1 rfl (lv_room (Nat.le_of_ble_eq_true rfl)) dX6_between_5 ⟨Nat.le_of_ble_eq_true rfl, Nat.le_of_ble_eq_true rfl⟩) hex hlocks

set_option maxHeartbeats 4000000 in
set_option maxRecDepth 100000 in
theorem t_X6_between_no2 (l : Launch) (hfl : l.stackTraces = false) (G : GG) (xa : Nat) (fs : List Value) (wr : va_W) (t o : Nat) (ht : t < 6) (ho : o < 6) (w : Int32) (hw0 : ¬ inB w (nI 0) (nI 3)) : TH l yX6_between wsX6_between 7 G [.ref xa, .int (nI t), .int (nI o), .int w] ([(xa, .inr (5, fs))] ++ (wr)) IAE := by
  refine th_of (cc := cX6_between) (maxL := 6) (ret := (some .int)) (by decide) rfl (Nat.le_of_ble_eq_true rfl) ?_
  intro pG eG s mG below meth cG hx hb hml hts hown hlocks hex hP hK hN hX hZ ls hl
  have hown : s.vm.findClass RX6 = some mG.cls := hown
  have hl : lv_has ls 6 [(0, .ref xa), (1, .int (nI t)), (2, .int (nI o)), (3, .int w)] := hl
  refine lv_iload_n hx hb dX6_between_0 rfl (lv_at hl 1 rfl) ?_
  refine rd_gov (va_runS (As := [.int (nI t)]) (rest := []) ⟨hx, hb, hml, hown, hts⟩ (c_X6_requireTown_ok l G t (by omega)) (va_cwS 1 hts gX6_between_X6_requireTown rfl rfl rfl (by decide +kernel) ⟨Nat.le_of_ble_eq_true rfl, Nat.le_of_ble_eq_true rfl⟩) (rS (ws := []) hK hN P_nil) rfl rfl hl.1 rfl (lv_room (Nat.le_of_ble_eq_true rfl)) dX6_between_1 ⟨Nat.le_of_ble_eq_true rfl, Nat.le_of_ble_eq_true rfl⟩) ?_
  refine lv_iload_n hx hb dX6_between_4 rfl (lv_at hl 2 rfl) ?_
  refine rd_gov (va_runS (As := [.int (nI o)]) (rest := []) ⟨hx, hb, hml, hown, hts⟩ (c_X6_requireTown_ok l G o (by omega)) (va_cwS 1 hts gX6_between_X6_requireTown rfl rfl rfl (by decide +kernel) ⟨Nat.le_of_ble_eq_true rfl, Nat.le_of_ble_eq_true rfl⟩) (rS (ws := []) hK hN P_nil) rfl rfl hl.1 rfl (lv_room (Nat.le_of_ble_eq_true rfl)) dX6_between_5 ⟨Nat.le_of_ble_eq_true rfl, Nat.le_of_ble_eq_true rfl⟩) ?_
  refine lv_iload_n hx hb dX6_between_8 rfl (lv_at hl 3 rfl) ?_
  refine lv_iconst (v := nI 4) hx hb dX6_between_9 (by decide) ?_
  exact th_go (vx_runS (As := [.int w, .int (nI 4)]) (rest := []) ⟨hx, hb, hml, hown, hts⟩ (t_X6_requireWhat l hfl G w 3 (by decide) hw0) (va_cwS 2 hts gX6_between_X6_requireWhat rfl rfl rfl (by decide +kernel) ⟨Nat.le_of_ble_eq_true rfl, Nat.le_of_ble_eq_true rfl⟩) (xS (ws := []) hK hN P_nil hX hZ) rfl rfl hl.1 rfl (lv_room (Nat.le_of_ble_eq_true rfl)) dX6_between_10 ⟨Nat.le_of_ble_eq_true rfl, Nat.le_of_ble_eq_true rfl⟩) hex hlocks

set_option maxHeartbeats 4000000 in
set_option maxRecDepth 100000 in
theorem t_X6_town_no (l : Launch) (hfl : l.stackTraces = false) (G : GG) (xa : Nat) (fs : List Value) (wr : va_W) (x : Int32) (hx0 : ¬ inB x (nI 0) (nI 5)) : TH l yX6_town wsX6_town 7 G [.ref xa, .int x] ([(xa, .inr (5, fs))] ++ (wr)) IOO := by
  refine th_of (cc := cX6_town) (maxL := 2) (ret := (some .int)) (by decide) rfl (Nat.le_of_ble_eq_true rfl) ?_
  intro pG eG s mG below meth cG hx hb hml hts hown hlocks hex hP hK hN hX hZ ls hl
  have hown : s.vm.findClass RX6 = some mG.cls := hown
  have hl : lv_has ls 2 [(0, .ref xa), (1, .int x)] := hl
  refine lv_iload_n hx hb dX6_town_0 rfl (lv_at hl 1 rfl) ?_
  exact th_go (vx_runS (As := [.int x]) (rest := []) ⟨hx, hb, hml, hown, hts⟩ (t_X6_requireTown l hfl G x hx0) (va_cwS 1 hts gX6_town_X6_requireTown rfl rfl rfl (by decide +kernel) ⟨Nat.le_of_ble_eq_true rfl, Nat.le_of_ble_eq_true rfl⟩) (xS (ws := []) hK hN P_nil hX hZ) rfl rfl hl.1 rfl (lv_room (Nat.le_of_ble_eq_true rfl)) dX6_town_1 ⟨Nat.le_of_ble_eq_true rfl, Nat.le_of_ble_eq_true rfl⟩) hex hlocks

set_option maxHeartbeats 4000000 in
set_option maxRecDepth 100000 in
theorem t_X6_count_no (l : Launch) (hfl : l.stackTraces = false) (G : GG) (xa : Nat) (fs : List Value) (wr : va_W) (x : Int32) (hw0 : ¬ inB x (nI 0) (nI 10)) : TH l yX6_count wsX6_count 7 G [.ref xa, .int x] ([(xa, .inr (5, fs))] ++ (wr)) IAE := by
  refine th_of (cc := cX6_count) (maxL := 2) (ret := (some .int)) (by decide) rfl (Nat.le_of_ble_eq_true rfl) ?_
  intro pG eG s mG below meth cG hx hb hml hts hown hlocks hex hP hK hN hX hZ ls hl
  have hown : s.vm.findClass RX6 = some mG.cls := hown
  have hl : lv_has ls 2 [(0, .ref xa), (1, .int x)] := hl
  refine lv_iload_n hx hb dX6_count_0 rfl (lv_at hl 1 rfl) ?_
  refine lv_bipush (v := nI 11) hx hb dX6_count_1 (by decide) ?_
  exact th_go (vx_runS (As := [.int x, .int (nI 11)]) (rest := []) ⟨hx, hb, hml, hown, hts⟩ (t_X6_requireWhat l hfl G x 10 (by decide) hw0) (va_cwS 2 hts gX6_count_X6_requireWhat rfl rfl rfl (by decide +kernel) ⟨Nat.le_of_ble_eq_true rfl, Nat.le_of_ble_eq_true rfl⟩) (xS (ws := []) hK hN P_nil hX hZ) rfl rfl hl.1 rfl (lv_room (Nat.le_of_ble_eq_true rfl)) dX6_count_3 ⟨Nat.le_of_ble_eq_true rfl, Nat.le_of_ble_eq_true rfl⟩) hex hlocks

set_option maxHeartbeats 4000000 in
set_option maxRecDepth 100000 in
theorem t_X6_folding_no (l : Launch) (hfl : l.stackTraces = false) (G : GG) (xa : Nat) (fs : List Value) (wr : va_W) (x : Int32) (hx0 : x < 0) : TH l yX6_folding wsX6_folding 7 G [.ref xa, .int x] ([(xa, .inr (5, fs))] ++ (wr)) IAE := by
  refine th_of (cc := cX6_folding) (maxL := 2) (ret := (some .int)) (by decide) rfl (Nat.le_of_ble_eq_true rfl) ?_
  intro pG eG s mG below meth cG hx hb hml hts hown hlocks hex hP hK hN hX hZ ls hl
  have hown : s.vm.findClass RX6 = some mG.cls := hown
  have hl : lv_has ls 2 [(0, .ref xa), (1, .int x)] := hl
  refine lv_iload_n hx hb dX6_folding_0 rfl (lv_at hl 1 rfl) ?_
  refine lv_if_ge (tgt := 14) hx hb dX6_folding_1 (by decide) (fun c_1 => ?_) (fun c_1 => ?_)
  · exact absurd hx0 (Int32.not_lt.mpr c_1)
  · exact th_row (text := "rank is below 0") (ik := 73) (is := 234) (ic := 77) hx hb hfl (by decide) hown th_IAE (hts (.classLink RX6 73 "java/lang/IllegalArgumentException") (List.mem_of_getElem? (i := 1) rfl)) (hts (.initialized "java/lang/IllegalArgumentException") (List.mem_of_getElem? (i := 2) rfl)) hX.1.2.1 hX.2.1.2.2 (fun w h => hts w (List.mem_cons_of_mem _ (List.mem_append_right _ (h)))) (hX.2.2 (234, "rank is below 0") (by decide +kernel)) hZ (hl.1.trans hml.symm) dX6_folding_4 dX6_folding_7 dX6_folding_8 dX6_folding_10 dX6_folding_13 hex hlocks

set_option maxHeartbeats 4000000 in
set_option maxRecDepth 100000 in
theorem c_X7_thrown (l : Launch) (G : GG) (A : Nat → Nat) (th sm le : Int32) (dg : Int64) (f sl ik sv tx pl : Nat → Int32) : RD l yX7_thrown wsX7_thrown 1 G [.ref (A 0)] (mW G A th sm le dg f sl ik sv tx pl) (some (.int th)) := by
  refine rd_of (cc := cX7_thrown) (maxL := 1) (ret := (some .int)) (by decide) rfl (Nat.le_of_ble_eq_true rfl) ?_
  intro pG eG s mG below meth cG hx hb hr hml hts hown hlocks hP hK hN ls hl
  have hown : s.vm.findClass RX7 = some mG.cls := hown
  have hl : lv_has ls 1 [(0, .ref (A 0))] := hl
  refine lv_aload_n hx hb dX7_thrown_0 rfl (lv_at hl 0 rfl) ?_
  refine va_get (D := G.1) (ws := mW G A th sm le dg f sl ik sv tx pl) (ci := 6) (v := .int th) (C := RX7) (T := TX7) (N := 10) hx hb hts (fun _ h => List.mem_cons_of_mem _ (List.mem_append_right _ (h))) hown hK hP 0 rfl rfl 0 (by decide) (hts (.fieldLink RX7 29 "CreaseMapsModel" "thrown" "I") (List.mem_of_getElem? (i := 1) rfl)) (fun _ h9 => h9) rfl dX7_thrown_1 ?_
  exact rd_iret hx hb hr hlocks (by rfl) dX7_thrown_4

set_option maxHeartbeats 4000000 in
set_option maxRecDepth 100000 in
theorem c_X7_in (l : Launch) (G : GG) (v a b : Int32) : RD l yX7_in wsX7_in 1 G [.int v, .int a, .int b] (([] : va_W)) (some (.int (b2 (decide (inB v a b))))) := by
  refine rd_of (cc := cX7_in) (maxL := 3) (ret := (some .boolean)) (by decide) rfl (Nat.le_of_ble_eq_true rfl) ?_
  intro pG eG s mG below meth cG hx hb hr hml hts hown hlocks hP hK hN ls hl
  have hown : s.vm.findClass RX7 = some mG.cls := hown
  have hl : lv_has ls 3 [(0, .int v), (1, .int a), (2, .int b)] := hl
  refine lv_iload_n hx hb dX7_in_0 rfl (lv_at hl 0 rfl) ?_
  refine lv_iload_n hx hb dX7_in_1 rfl (lv_at hl 1 rfl) ?_
  refine lv_icmp_lt (tgt := 14) hx hb dX7_in_2 (by decide) (fun c_2 => ?_) (fun c_2 => ?_)
  · refine lv_iconst (v := nI 0) hx hb dX7_in_14 (by decide) ?_
    exact rd_zret hx hb hr hlocks (by first | decide | exact b2_nar _) (by exact b2q (fun h => by first | exact absurd h.1 (Int32.not_le.mpr c_2) | exact absurd h.2 (Int32.not_le.mpr c_7))) dX7_in_15
  · refine lv_iload_n hx hb dX7_in_5 rfl (lv_at hl 0 rfl) ?_
    refine lv_iload_n hx hb dX7_in_6 rfl (lv_at hl 2 rfl) ?_
    refine lv_icmp_gt (tgt := 14) hx hb dX7_in_7 (by decide) (fun c_7 => ?_) (fun c_7 => ?_)
    · refine lv_iconst (v := nI 0) hx hb dX7_in_14 (by decide) ?_
      exact rd_zret hx hb hr hlocks (by first | decide | exact b2_nar _) (by exact b2q (fun h => by first | exact absurd h.1 (Int32.not_le.mpr c_2) | exact absurd h.2 (Int32.not_le.mpr c_7))) dX7_in_15
    · refine lv_iconst (v := nI 1) hx hb dX7_in_10 (by decide) ?_
      refine lv_goto (tgt := 15) hx hb dX7_in_11 (by decide) ?_
      exact rd_zret hx hb hr hlocks (by first | decide | exact b2_nar _) (by exact b2p ⟨Int32.not_lt.mp c_2, Int32.not_lt.mp c_7⟩) dX7_in_15

set_option maxHeartbeats 4000000 in
set_option maxRecDepth 100000 in
theorem c_X7_isTown (l : Launch) (G : GG) (v : Int32) : RD l yX7_isTown wsX7_isTown 2 G [.int v] (([] : va_W)) (some (.int (b2 (decide (inB v (nI 0) (nI 5)))))) := by
  refine rd_of (cc := cX7_isTown) (maxL := 1) (ret := (some .boolean)) (by decide) rfl (Nat.le_of_ble_eq_true rfl) ?_
  intro pG eG s mG below meth cG hx hb hr hml hts hown hlocks hP hK hN ls hl
  have hown : s.vm.findClass RX7 = some mG.cls := hown
  have hl : lv_has ls 1 [(0, .int v)] := hl
  refine lv_iload_n hx hb dX7_isTown_0 rfl (lv_at hl 0 rfl) ?_
  refine lv_iconst (v := nI 0) hx hb dX7_isTown_1 (by decide) ?_
  refine lv_iconst (v := nI 5) hx hb dX7_isTown_2 (by decide) ?_
  refine rd_go (va_runS (As := [.int v, .int (nI 0), .int (nI 5)]) (rest := []) ⟨hx, hb, hml, hown, hts⟩ (c_X7_in l G v (nI 0) (nI 5)) (va_cwS 3 hts gX7_isTown_X7_in rfl rfl rfl (by decide +kernel) ⟨Nat.le_of_ble_eq_true rfl, Nat.le_of_ble_eq_true rfl⟩) (rS (ws := []) hK hN P_nil) rfl rfl hl.1 rfl (lv_room (Nat.le_of_ble_eq_true rfl)) dX7_isTown_3 ⟨Nat.le_of_ble_eq_true rfl, Nat.le_of_ble_eq_true rfl⟩) ?_
  exact rd_zret hx hb hr hlocks (by first | decide | exact b2_nar _) (by rfl) dX7_isTown_6

set_option maxHeartbeats 4000000 in
set_option maxRecDepth 100000 in
theorem c_X7_isCrease (l : Launch) (G : GG) (v : Int32) : RD l yX7_isCrease wsX7_isCrease 2 G [.int v] (([] : va_W)) (some (.int (b2 (decide (inB v (nI 0) (nI 8)))))) := by
  refine rd_of (cc := cX7_isCrease) (maxL := 1) (ret := (some .boolean)) (by decide) rfl (Nat.le_of_ble_eq_true rfl) ?_
  intro pG eG s mG below meth cG hx hb hr hml hts hown hlocks hP hK hN ls hl
  have hown : s.vm.findClass RX7 = some mG.cls := hown
  have hl : lv_has ls 1 [(0, .int v)] := hl
  refine lv_iload_n hx hb dX7_isCrease_0 rfl (lv_at hl 0 rfl) ?_
  refine lv_iconst (v := nI 0) hx hb dX7_isCrease_1 (by decide) ?_
  refine lv_bipush (v := nI 8) hx hb dX7_isCrease_2 (by decide) ?_
  refine rd_go (va_runS (As := [.int v, .int (nI 0), .int (nI 8)]) (rest := []) ⟨hx, hb, hml, hown, hts⟩ (c_X7_in l G v (nI 0) (nI 8)) (va_cwS 3 hts gX7_isCrease_X7_in rfl rfl rfl (by decide +kernel) ⟨Nat.le_of_ble_eq_true rfl, Nat.le_of_ble_eq_true rfl⟩) (rS (ws := []) hK hN P_nil) rfl rfl hl.1 rfl (lv_room (Nat.le_of_ble_eq_true rfl)) dX7_isCrease_4 ⟨Nat.le_of_ble_eq_true rfl, Nat.le_of_ble_eq_true rfl⟩) ?_
  exact rd_zret hx hb hr hlocks (by first | decide | exact b2_nar _) (by rfl) dX7_isCrease_7

set_option maxHeartbeats 4000000 in
set_option maxRecDepth 100000 in
theorem c_X7_isPanel (l : Launch) (G : GG) (v : Int32) : RD l yX7_isPanel wsX7_isPanel 2 G [.int v] (([] : va_W)) (some (.int (b2 (decide (inB v (nI 0) (nI 9)))))) := by
  refine rd_of (cc := cX7_isPanel) (maxL := 1) (ret := (some .boolean)) (by decide) rfl (Nat.le_of_ble_eq_true rfl) ?_
  intro pG eG s mG below meth cG hx hb hr hml hts hown hlocks hP hK hN ls hl
  have hown : s.vm.findClass RX7 = some mG.cls := hown
  have hl : lv_has ls 1 [(0, .int v)] := hl
  refine lv_iload_n hx hb dX7_isPanel_0 rfl (lv_at hl 0 rfl) ?_
  refine lv_iconst (v := nI 0) hx hb dX7_isPanel_1 (by decide) ?_
  refine lv_bipush (v := nI 9) hx hb dX7_isPanel_2 (by decide) ?_
  refine rd_go (va_runS (As := [.int v, .int (nI 0), .int (nI 9)]) (rest := []) ⟨hx, hb, hml, hown, hts⟩ (c_X7_in l G v (nI 0) (nI 9)) (va_cwS 3 hts gX7_isPanel_X7_in rfl rfl rfl (by decide +kernel) ⟨Nat.le_of_ble_eq_true rfl, Nat.le_of_ble_eq_true rfl⟩) (rS (ws := []) hK hN P_nil) rfl rfl hl.1 rfl (lv_room (Nat.le_of_ble_eq_true rfl)) dX7_isPanel_4 ⟨Nat.le_of_ble_eq_true rfl, Nat.le_of_ble_eq_true rfl⟩) ?_
  exact rd_zret hx hb hr hlocks (by first | decide | exact b2_nar _) (by rfl) dX7_isPanel_7

set_option maxHeartbeats 4000000 in
set_option maxRecDepth 100000 in
theorem c_X7_holds (l : Launch) (G : GG) (sz : Nat) (A : Nat → Nat) (th sm le : Int32) (dg : Int64) (f sl ik sv tx pl : Nat → Int32) (v : Int32) : WRi l yX7_holds wsX7_holds 1 G [.ref (A 0), .int v] (mW G A th sm le dg f sl ik sv tx pl) sz (S := Unit) (fun r _ => r = b2 (decide (v = 0))) (fun _ => mW G A v sm le dg f sl ik sv tx pl) 0 0 := by
  refine wr_of (cc := cX7_holds) (maxL := 2) (ret := (some .boolean)) (Qc := fun Ar => wQi G (S := Unit) (fun r _ => r = b2 (decide (v = 0))) (fun _ => mW G A v sm le dg f sl ik sv tx pl) Ar) (by decide) rfl (Nat.le_of_ble_eq_true rfl) ?_
  intro pG eG s mG below meth cG hsz hx hb hr hml hts hown hlocks hnm hP hK hN Ar hD hA hS ls hl
  have hown : s.vm.findClass RX7 = some mG.cls := hown
  have hP : PP G (mW G A th sm le dg f sl ik sv tx pl) s.heap := hP
  have hD : va_D Ar (mW G A th sm le dg f sl ik sv tx pl) := hD
  have hl : lv_has ls 2 [(0, .ref (A 0)), (1, .int v)] := hl
  refine lv_aload_n hx hb dX7_holds_0 rfl (lv_at hl 0 rfl) ?_
  refine lv_iload_n hx hb dX7_holds_1 rfl (lv_at hl 1 rfl) ?_
  refine va_put (D := G.1) (ws := mW G A th sm le dg f sl ik sv tx pl) (ci := 6) (v := .int v) (ty := .int) (C := RX7) (T := TX7) (N := 10) hx hb hts (fun _ h => List.mem_cons_of_mem _ (List.mem_append_right _ (h))) tyX7 tyX7_ok nmX7 hown hK hP hD hS 0 rfl rfl 0 (by decide) (hts (.fieldLink RX7 29 "CreaseMapsModel" "thrown" "I") (List.mem_of_getElem? (i := 1) rfl)) (fun _ h9 => h9) rfl (by decide +kernel) rfl rfl (Nat.le_of_ble_eq_true rfl) dX7_holds_2 (fun H locs hP hD hS => ?_)
  have hP : PP G (mW G A v sm le dg f sl ik sv tx pl) H := hP
  have hD : va_D Ar (mW G A v sm le dg f sl ik sv tx pl) := hD
  refine lv_iload_n hx hb dX7_holds_5 rfl (lv_at hl 1 rfl) ?_
  refine lv_if_ne (tgt := 13) hx hb dX7_holds_6 (by decide) (fun c_6 => ?_) (fun c_6 => ?_)
  · refine lv_iconst (v := nI 0) hx hb dX7_holds_13 (by decide) ?_
    exact wr_zret (S := Unit) (out := fun _ => mW G A v sm le dg f sl ik sv tx pl) () hx hb hr hlocks (by first | decide | exact b2_nar _) hP hD hS (Nat.le_of_ble_eq_true rfl) (Nat.le_of_ble_eq_true rfl) (by exact b2q c_6) dX7_holds_14
  · refine lv_iconst (v := nI 1) hx hb dX7_holds_9 (by decide) ?_
    refine lv_goto (tgt := 14) hx hb dX7_holds_10 (by decide) ?_
    exact wr_zret (S := Unit) (out := fun _ => mW G A v sm le dg f sl ik sv tx pl) () hx hb hr hlocks (by first | decide | exact b2_nar _) hP hD hS (Nat.le_of_ble_eq_true rfl) (Nat.le_of_ble_eq_true rfl) (by exact b2p c_6) dX7_holds_14

set_option maxHeartbeats 4000000 in
set_option maxRecDepth 100000 in
theorem c_X7_bits (l : Launch) (G : GG) (x : Int32) : RD l yX7_bits wsX7_bits 1 G [.int x] (([] : va_W)) (some (.int (bitsM x))) := by
  refine rd_of (cc := cX7_bits) (maxL := 3) (ret := (some .int)) (by decide) rfl (Nat.le_of_ble_eq_true rfl) ?_
  intro pG eG s mG below meth cG hx hb hr hml hts hown hlocks hP hK hN ls hl
  have hown : s.vm.findClass RX7 = some mG.cls := hown
  have hl : lv_has ls 3 [(0, .int x)] := hl
  refine lv_iconst (v := nI 0) hx hb dX7_bits_0 (by decide) ?_
  refine lv_istore_n (lv' := [(1, .int (nI 0)), (0, .int x)]) hx hb dX7_bits_1 rfl hl (by decide) rfl (fun ls hl => ?_)
  refine lv_iconst (v := nI 0) hx hb dX7_bits_2 (by decide) ?_
  refine lv_istore_n (lv' := [(2, .int (nI 0)), (1, .int (nI 0)), (0, .int x)]) hx hb dX7_bits_3 rfl hl (by decide) rfl (fun ls hl => ?_)
  have L4 : ∀ (fu : Nat) (k : Nat) (hk : k ≤ 9), 9 + 1 ≤ k + fu → ∀ ls : Array Slot, lv_has ls 3 [(0, .int x), (1, .int (sumI (fun k => bI x (nI k)) k)), (2, .int (nI k))] → W pG l eG (RM 1 0 0) s mG ([.int x] : List Value).toArray below meth cG s.heap [] 0 0 (MQ below (rQ (some (.int (bitsM x)))) ([.int x] : List Value).toArray s 0 0 (fun _ => False)) (F0 mG 4 ls []) := by
    intro fu
    induction fu with
    | zero => intro k hk hfu; exact absurd hfu (by omega)
    | succ fu ih =>
      intro k hk hfu ls hl
      refine lv_iload_n hx hb dX7_bits_4 rfl (lv_at hl 2 rfl) ?_
      refine lv_bipush (v := nI 9) hx hb dX7_bits_5 (by decide) ?_
      refine lv_icmp_ge (tgt := 24) hx hb dX7_bits_7 (by decide) (fun c_7 => ?_) (fun c_7 => ?_)
      · have q1 : 9 ≤ k := fe c_7 (by omega) (by omega)
        refine lv_iload_n hx hb dX7_bits_24 rfl (lv_at hl 1 rfl) ?_
        exact rd_iret hx hb hr hlocks (by rw [show k = 9 by omega]) dX7_bits_25
      · have q1 : k < 9 := fl c_7 (by omega) (by omega)
        refine lv_iload_n hx hb dX7_bits_10 rfl (lv_at hl 1 rfl) ?_
        refine lv_iload_n hx hb dX7_bits_11 rfl (lv_at hl 0 rfl) ?_
        refine lv_iload_n hx hb dX7_bits_12 rfl (lv_at hl 2 rfl) ?_
        refine lv_ishr hx hb dX7_bits_13 ?_
        refine lv_iconst (v := nI 1) hx hb dX7_bits_14 (by decide) ?_
        refine lv_iand hx hb dX7_bits_15 ?_
        refine lv_iadd hx hb dX7_bits_16 ?_
        refine lv_istore_n (lv' := [(1, .int ((sumI (fun k => bI x (nI k)) k) + ((x >>> ((nI k) &&& 31)) &&& (nI 1)))), (0, .int x), (2, .int (nI k))]) hx hb dX7_bits_17 rfl hl (by decide) rfl (fun ls hl => ?_)
        refine lv_iinc (v := nI (k + 1)) (lv' := [(2, .int (nI (k + 1))), (1, .int ((sumI (fun k => bI x (nI k)) k) + ((x >>> ((nI k) &&& 31)) &&& (nI 1)))), (0, .int x)]) hx hb dX7_bits_18 hl (k := 2) rfl (iincN k) (by decide) rfl (fun ls hl => ?_)
        refine lv_goto (tgt := 4) hx hb dX7_bits_21 (by decide) ?_
        exact ih (k + 1) (by omega) (by omega) ls (lv_as (l1 := [(0, .int x), (1, .int ((sumI (fun k => bI x (nI k)) k) + ((x >>> ((nI k) &&& 31)) &&& (nI 1)))), (2, .int (nI (k + 1)))]) (lv_sub hl [2, 1, 0] rfl) (by rfl))
  exact L4 10 0 (by omega) (by omega) ls (lv_as (l1 := [(0, .int x), (1, .int (nI 0)), (2, .int (nI 0))]) (lv_sub hl [2, 1, 0] rfl) (by rfl))

set_option maxHeartbeats 4000000 in
set_option maxRecDepth 100000 in
theorem c_X7_off (l : Launch) (G : GG) (a b : Int32) : RD l yX7_off wsX7_off 1 G [.int a, .int b] (([] : va_W)) (some (.int (offM a b))) := by
  refine rd_of (cc := cX7_off) (maxL := 2) (ret := (some .int)) (by decide) rfl (Nat.le_of_ble_eq_true rfl) ?_
  intro pG eG s mG below meth cG hx hb hr hml hts hown hlocks hP hK hN ls hl
  have hown : s.vm.findClass RX7 = some mG.cls := hown
  have hl : lv_has ls 2 [(0, .int a), (1, .int b)] := hl
  refine lv_iload_n hx hb dX7_off_0 rfl (lv_at hl 0 rfl) ?_
  refine lv_iload_n hx hb dX7_off_1 rfl (lv_at hl 1 rfl) ?_
  refine lv_icmp_le (tgt := 11) hx hb dX7_off_2 (by decide) (fun c_2 => ?_) (fun c_2 => ?_)
  · refine lv_iload_n hx hb dX7_off_11 rfl (lv_at hl 1 rfl) ?_
    refine lv_iload_n hx hb dX7_off_12 rfl (lv_at hl 0 rfl) ?_
    refine lv_isub hx hb dX7_off_13 ?_
    exact rd_iret hx hb hr hlocks (by exact (if_neg (Int32.not_lt.mpr c_2)).symm) dX7_off_14
  · refine lv_iload_n hx hb dX7_off_5 rfl (lv_at hl 0 rfl) ?_
    refine lv_iload_n hx hb dX7_off_6 rfl (lv_at hl 1 rfl) ?_
    refine lv_isub hx hb dX7_off_7 ?_
    refine lv_goto (tgt := 14) hx hb dX7_off_8 (by decide) ?_
    exact rd_iret hx hb hr hlocks (by exact (if_pos (Int32.not_le.mp c_2)).symm) dX7_off_14

set_option maxHeartbeats 4000000 in
set_option maxRecDepth 100000 in
theorem c_X7_lay (l : Launch) (G : GG) (sz : Nat) (A : Nat → Nat) (th sm le : Int32) (dg : Int64) (f sl ik sv tx pl : Nat → Int32) (fo : Int32) : WRv l yX7_lay wsX7_lay 1 G [.ref (A 0), .int fo] (mW G A th sm le dg f sl ik sv tx pl) sz (S := Nat → Int32) (fun u => ∀ j, j < 10 → u j = (pw fo j).1) (fun u => mW G A th sm le dg f sl ik sv tx u) 0 0 := by
  refine wr_of (cc := cX7_lay) (maxL := 5) (ret := none) (Qc := fun Ar => wQv G (S := Nat → Int32) (fun u => ∀ j, j < 10 → u j = (pw fo j).1) (fun u => mW G A th sm le dg f sl ik sv tx u) Ar) (by decide) rfl (Nat.le_of_ble_eq_true rfl) ?_
  intro pG eG s mG below meth cG hsz hx hb hr hml hts hown hlocks hnm hP hK hN Ar hD hA hS ls hl
  have hown : s.vm.findClass RX7 = some mG.cls := hown
  have hP : PP G (mW G A th sm le dg f sl ik sv tx pl) s.heap := hP
  have hD : va_D Ar (mW G A th sm le dg f sl ik sv tx pl) := hD
  have hl : lv_has ls 5 [(0, .ref (A 0)), (1, .int fo)] := hl
  refine lv_iconst (v := nI 1) hx hb dX7_lay_0 (by decide) ?_
  refine lv_istore_n (lv' := [(2, .int (nI 1)), (0, .ref (A 0)), (1, .int fo)]) hx hb dX7_lay_1 rfl hl (by decide) rfl (fun ls hl => ?_)
  refine lv_aload_n hx hb dX7_lay_2 rfl (lv_at hl 1 rfl) ?_
  refine va_get (D := G.1) (ws := mW G A th sm le dg f sl ik sv tx pl) (ci := 6) (v := .ref (A 6)) (C := RX7) (T := TX7) (N := 10) hx hb hts (fun _ h => List.mem_cons_of_mem _ (List.mem_append_right _ (h))) hown hK hP 0 rfl rfl 8 (by decide) (hts (.fieldLink RX7 26 "CreaseMapsModel" "place" "[I") (List.mem_of_getElem? (i := 1) rfl)) (fun _ h9 => h9) rfl dX7_lay_3 ?_
  refine lv_iconst (v := nI 0) hx hb dX7_lay_6 (by decide) ?_
  refine lv_iconst (v := nI 0) hx hb dX7_lay_7 (by decide) ?_
  refine va_iast (D := G.1) (ws := mW G A th sm le dg f sl ik sv tx pl) hx hb hK hP hD hS 6 0 (n := 10) rfl rfl (by first | assumption | exact vp_in_nI (by omega) (by omega)) dX7_lay_8 (fun H locs hP hD hS => ?_)
  have hP : PP G (mW G A th sm le dg f sl ik sv tx (upd pl 0 (nI 0))) H := hP
  have hD : va_D Ar (mW G A th sm le dg f sl ik sv tx (upd pl 0 (nI 0))) := hD
  refine lv_iconst (v := nI 0) hx hb dX7_lay_9 (by decide) ?_
  refine lv_istore_n (lv' := [(3, .int (nI 0)), (2, .int (nI 1)), (0, .ref (A 0)), (1, .int fo)]) hx hb dX7_lay_10 rfl hl (by decide) rfl (fun ls hl => ?_)
  have L11 : ∀ (fu : Nat) (k : Nat) (q : Nat → Int32) (hk : k ≤ 9) (hq : ∀ j, j ≤ k → q j = (pw fo j).1), 9 + 1 ≤ k + fu → ∀ (H : Heap) (locs : List Loc), PP G (mW G A th sm le dg f sl ik sv tx q) H → va_D Ar (mW G A th sm le dg f sl ik sv tx q) → va_S Ar s.heap H locs → ∀ ls : Array Slot, lv_has ls 5 [(0, .ref (A 0)), (1, .int fo), (2, .int ((pw fo k).2)), (3, .int (nI k))] → W pG l eG (RM 1 0 0) s mG ([.ref (A 0), .int fo] : List Value).toArray below meth cG H locs 0 0 (MQ below (wQv G (S := Nat → Int32) (fun u => ∀ j, j < 10 → u j = (pw fo j).1) (fun u => mW G A th sm le dg f sl ik sv tx u) Ar) ([.ref (A 0), .int fo] : List Value).toArray s 0 0 Ar) (F0 mG 11 ls []) := by
    intro fu
    induction fu with
    | zero => intro k q hk hq hfu; exact absurd hfu (by omega)
    | succ fu ih =>
      intro k q hk hq hfu H locs hP hD hS ls hl
      refine lv_iload_n hx hb dX7_lay_11 rfl (lv_at hl 3 rfl) ?_
      refine lv_bipush (v := nI 9) hx hb dX7_lay_12 (by decide) ?_
      refine lv_icmp_ge (tgt := 81) hx hb dX7_lay_14 (by decide) (fun c_14 => ?_) (fun c_14 => ?_)
      · have q1 : 9 ≤ k := fe c_14 (by omega) (by omega)
        exact wr_vret (S := Nat → Int32) (out := fun u => mW G A th sm le dg f sl ik sv tx u) q hx hb hr hlocks hP hD hS (Nat.le_of_ble_eq_true rfl) (Nat.le_of_ble_eq_true rfl) (by exact fun j hj => hq j (by omega)) dX7_lay_81
      · have q1 : k < 9 := fl c_14 (by omega) (by omega)
        refine lv_iload_n hx hb dX7_lay_17 rfl (lv_at hl 1 rfl) ?_
        refine lv_iload_n hx hb dX7_lay_18 rfl (lv_at hl 3 rfl) ?_
        refine lv_ishr hx hb dX7_lay_19 ?_
        refine lv_iconst (v := nI 1) hx hb dX7_lay_20 (by decide) ?_
        refine lv_iand hx hb dX7_lay_21 ?_
        refine lv_iconst (v := nI 1) hx hb dX7_lay_22 (by decide) ?_
        refine lv_icmp_ne (tgt := 30) hx hb dX7_lay_23 (by decide) (fun c_23 => ?_) (fun c_23 => ?_)
        · have c_23 : ¬ bI fo (nI k) = nI 1 := c_23
          refine lv_iconst (v := nI 0) hx hb dX7_lay_30 (by decide) ?_
          refine lv_istore (lv' := [(4, .int (nI 0)), (0, .ref (A 0)), (1, .int fo), (2, .int ((pw fo k).2)), (3, .int (nI k))]) hx hb dX7_lay_31 hl (by decide) rfl (fun ls hl => ?_)
          refine lv_aload_n hx hb dX7_lay_33 rfl (lv_at hl 1 rfl) ?_
          refine va_get (D := G.1) (ws := mW G A th sm le dg f sl ik sv tx q) (ci := 6) (v := .ref (A 6)) (C := RX7) (T := TX7) (N := 10) hx hb hts (fun _ h => List.mem_cons_of_mem _ (List.mem_append_right _ (h))) hown hK hP 0 rfl rfl 8 (by decide) (hts (.fieldLink RX7 26 "CreaseMapsModel" "place" "[I") (List.mem_of_getElem? (i := 1) rfl)) (fun _ h9 => h9) rfl dX7_lay_34 ?_
          refine lv_iload_n hx hb dX7_lay_37 rfl (lv_at hl 4 rfl) ?_
          refine lv_iconst (v := nI 1) hx hb dX7_lay_38 (by decide) ?_
          refine lv_iadd hx hb dX7_lay_39 ?_
          refine lv_cgi (y := nI (k + 1)) (nI_add _ _) ?_
          refine lv_iload hx hb dX7_lay_40 (lv_at hl 0 rfl) ?_
          refine lv_if_eq (tgt := 54) hx hb dX7_lay_42 (by decide) (fun c_42 => ?_) (fun c_42 => ?_)
          · refine lv_aload_n hx hb dX7_lay_54 rfl (lv_at hl 1 rfl) ?_
            refine va_get (D := G.1) (ws := mW G A th sm le dg f sl ik sv tx q) (ci := 6) (v := .ref (A 6)) (C := RX7) (T := TX7) (N := 10) hx hb hts (fun _ h => List.mem_cons_of_mem _ (List.mem_append_right _ (h))) hown hK hP 0 rfl rfl 8 (by decide) (hts (.fieldLink RX7 26 "CreaseMapsModel" "place" "[I") (List.mem_of_getElem? (i := 1) rfl)) (fun _ h9 => h9) rfl dX7_lay_55 ?_
            refine lv_iload_n hx hb dX7_lay_58 rfl (lv_at hl 4 rfl) ?_
            refine va_iald (D := G.1) (ws := mW G A th sm le dg f sl ik sv tx q) hx hb hK hP 6 0 (n := 10) rfl rfl (by first | assumption | exact vp_in_nI (by omega) (by omega)) dX7_lay_59 ?_
            refine lv_cgi (y := q k) (by rw [nI_clamp (by omega)]) ?_
            refine lv_iload_n hx hb dX7_lay_60 rfl (lv_at hl 3 rfl) ?_
            refine lv_iadd hx hb dX7_lay_61 ?_
            refine va_iast (D := G.1) (ws := mW G A th sm le dg f sl ik sv tx q) hx hb hK hP hD hS 6 0 (n := 10) rfl rfl (by first | assumption | exact vp_in_nI (by omega) (by omega)) dX7_lay_62 (fun H locs hP hD hS => ?_)
            rw [nI_clamp (by omega)] at hP hD
            have hP : PP G (mW G A th sm le dg f sl ik sv tx (upd q (k + 1) ((q k) + ((pw fo k).2)))) H := hP
            have hD : va_D Ar (mW G A th sm le dg f sl ik sv tx (upd q (k + 1) ((q k) + ((pw fo k).2)))) := hD
            refine lv_iload hx hb dX7_lay_63 (lv_at hl 0 rfl) ?_
            refine lv_if_eq (tgt := 73) hx hb dX7_lay_65 (by decide) (fun c_65 => ?_) (fun c_65 => ?_)
            · refine lv_iload_n hx hb dX7_lay_73 rfl (lv_at hl 3 rfl) ?_
              refine lv_istore_n (lv' := [(2, .int ((pw fo k).2)), (4, .int (nI 0)), (0, .ref (A 0)), (1, .int fo), (3, .int (nI k))]) hx hb dX7_lay_74 rfl hl (by decide) rfl (fun ls hl => ?_)
              refine lv_iinc (v := nI (k + 1)) (lv' := [(3, .int (nI (k + 1))), (2, .int ((pw fo k).2)), (4, .int (nI 0)), (0, .ref (A 0)), (1, .int fo)]) hx hb dX7_lay_75 hl (k := 4) rfl (iincN k) (by decide) rfl (fun ls hl => ?_)
              refine lv_goto (tgt := 11) hx hb dX7_lay_78 (by decide) ?_
              exact ih (k + 1) (upd q (k + 1) ((q k) + ((pw fo k).2))) (by omega) (by exact pw_up hq (by rw [hq k (Nat.le_refl k)]; first | rw [pw_t c_23] | rw [pw_f c_23])) (by omega) _ _ hP hD hS ls (lv_as (l1 := [(0, .ref (A 0)), (1, .int fo), (2, .int ((pw fo k).2)), (3, .int (nI (k + 1)))]) (lv_sub hl [3, 4, 1, 0] rfl) (by first | rw [pw_t c_23] | rw [pw_f c_23]))
            · exact absurd c_65 (by decide)
          · exact absurd c_42 (by decide)
        · have c_23 : bI fo (nI k) = nI 1 := c_23
          refine lv_iconst (v := nI 1) hx hb dX7_lay_26 (by decide) ?_
          refine lv_goto (tgt := 31) hx hb dX7_lay_27 (by decide) ?_
          refine lv_istore (lv' := [(4, .int (nI 1)), (0, .ref (A 0)), (1, .int fo), (2, .int ((pw fo k).2)), (3, .int (nI k))]) hx hb dX7_lay_31 hl (by decide) rfl (fun ls hl => ?_)
          refine lv_aload_n hx hb dX7_lay_33 rfl (lv_at hl 1 rfl) ?_
          refine va_get (D := G.1) (ws := mW G A th sm le dg f sl ik sv tx q) (ci := 6) (v := .ref (A 6)) (C := RX7) (T := TX7) (N := 10) hx hb hts (fun _ h => List.mem_cons_of_mem _ (List.mem_append_right _ (h))) hown hK hP 0 rfl rfl 8 (by decide) (hts (.fieldLink RX7 26 "CreaseMapsModel" "place" "[I") (List.mem_of_getElem? (i := 1) rfl)) (fun _ h9 => h9) rfl dX7_lay_34 ?_
          refine lv_iload_n hx hb dX7_lay_37 rfl (lv_at hl 4 rfl) ?_
          refine lv_iconst (v := nI 1) hx hb dX7_lay_38 (by decide) ?_
          refine lv_iadd hx hb dX7_lay_39 ?_
          refine lv_cgi (y := nI (k + 1)) (nI_add _ _) ?_
          refine lv_iload hx hb dX7_lay_40 (lv_at hl 0 rfl) ?_
          refine lv_if_eq (tgt := 54) hx hb dX7_lay_42 (by decide) (fun c_42 => ?_) (fun c_42 => ?_)
          · exact absurd c_42 (by decide)
          · refine lv_aload_n hx hb dX7_lay_45 rfl (lv_at hl 1 rfl) ?_
            refine va_get (D := G.1) (ws := mW G A th sm le dg f sl ik sv tx q) (ci := 6) (v := .ref (A 6)) (C := RX7) (T := TX7) (N := 10) hx hb hts (fun _ h => List.mem_cons_of_mem _ (List.mem_append_right _ (h))) hown hK hP 0 rfl rfl 8 (by decide) (hts (.fieldLink RX7 26 "CreaseMapsModel" "place" "[I") (List.mem_of_getElem? (i := 1) rfl)) (fun _ h9 => h9) rfl dX7_lay_46 ?_
            refine lv_iload_n hx hb dX7_lay_49 rfl (lv_at hl 4 rfl) ?_
            refine va_iald (D := G.1) (ws := mW G A th sm le dg f sl ik sv tx q) hx hb hK hP 6 0 (n := 10) rfl rfl (by first | assumption | exact vp_in_nI (by omega) (by omega)) dX7_lay_50 ?_
            refine lv_cgi (y := q k) (by rw [nI_clamp (by omega)]) ?_
            refine lv_goto (tgt := 62) hx hb dX7_lay_51 (by decide) ?_
            refine va_iast (D := G.1) (ws := mW G A th sm le dg f sl ik sv tx q) hx hb hK hP hD hS 6 0 (n := 10) rfl rfl (by first | assumption | exact vp_in_nI (by omega) (by omega)) dX7_lay_62 (fun H locs hP hD hS => ?_)
            rw [nI_clamp (by omega)] at hP hD
            have hP : PP G (mW G A th sm le dg f sl ik sv tx (upd q (k + 1) (q k))) H := hP
            have hD : va_D Ar (mW G A th sm le dg f sl ik sv tx (upd q (k + 1) (q k))) := hD
            refine lv_iload hx hb dX7_lay_63 (lv_at hl 0 rfl) ?_
            refine lv_if_eq (tgt := 73) hx hb dX7_lay_65 (by decide) (fun c_65 => ?_) (fun c_65 => ?_)
            · exact absurd c_65 (by decide)
            · refine lv_iload_n hx hb dX7_lay_68 rfl (lv_at hl 3 rfl) ?_
              refine lv_ineg hx hb dX7_lay_69 ?_
              refine lv_goto (tgt := 74) hx hb dX7_lay_70 (by decide) ?_
              refine lv_istore_n (lv' := [(2, .int (-((pw fo k).2))), (4, .int (nI 1)), (0, .ref (A 0)), (1, .int fo), (3, .int (nI k))]) hx hb dX7_lay_74 rfl hl (by decide) rfl (fun ls hl => ?_)
              refine lv_iinc (v := nI (k + 1)) (lv' := [(3, .int (nI (k + 1))), (2, .int (-((pw fo k).2))), (4, .int (nI 1)), (0, .ref (A 0)), (1, .int fo)]) hx hb dX7_lay_75 hl (k := 4) rfl (iincN k) (by decide) rfl (fun ls hl => ?_)
              refine lv_goto (tgt := 11) hx hb dX7_lay_78 (by decide) ?_
              exact ih (k + 1) (upd q (k + 1) (q k)) (by omega) (by exact pw_up hq (by rw [hq k (Nat.le_refl k)]; first | rw [pw_t c_23] | rw [pw_f c_23])) (by omega) _ _ hP hD hS ls (lv_as (l1 := [(0, .ref (A 0)), (1, .int fo), (2, .int (-((pw fo k).2))), (3, .int (nI (k + 1)))]) (lv_sub hl [3, 4, 1, 0] rfl) (by first | rw [pw_t c_23] | rw [pw_f c_23]))
  exact L11 10 0 (upd pl 0 (nI 0)) (by omega) (by intro j hj; rw [show j = 0 by omega]; rfl) (by omega) _ _ hP hD hS ls (lv_as (l1 := [(0, .ref (A 0)), (1, .int fo), (2, .int (nI 1)), (3, .int (nI 0))]) (lv_sub hl [2, 3, 1, 0] rfl) (by rfl))

set_option maxHeartbeats 4000000 in
set_option maxRecDepth 100000 in
theorem c_X7_answer (l : Launch) (G : GG) (A : Nat → Nat) (th sm le : Int32) (dg : Int64) (f sl ik sv tx pl : Nat → Int32) (r q : Nat) (h : 18 + 3 * r + q < 58) : RD l yX7_answer wsX7_answer 1 G [.ref (A 0), .int (nI r), .int (nI q)] (mW G A th sm le dg f sl ik sv tx pl) (some (.int (an f r q))) := by
  refine rd_of (cc := cX7_answer) (maxL := 3) (ret := (some .int)) (by decide) rfl (Nat.le_of_ble_eq_true rfl) ?_
  intro pG eG s mG below meth cG hx hb hr hml hts hown hlocks hP hK hN ls hl
  have hown : s.vm.findClass RX7 = some mG.cls := hown
  have hl : lv_has ls 3 [(0, .ref (A 0)), (1, .int (nI r)), (2, .int (nI q))] := hl
  refine lv_aload_n hx hb dX7_answer_0 rfl (lv_at hl 0 rfl) ?_
  refine va_get (D := G.1) (ws := mW G A th sm le dg f sl ik sv tx pl) (ci := 6) (v := .ref (A 1)) (C := RX7) (T := TX7) (N := 10) hx hb hts (fun _ h => List.mem_cons_of_mem _ (List.mem_append_right _ (h))) hown hK hP 0 rfl rfl 1 (by decide) (hts (.fieldLink RX7 7 "CreaseMapsModel" "s" "[I") (List.mem_of_getElem? (i := 1) rfl)) (fun _ h9 => h9) rfl dX7_answer_1 ?_
  refine lv_bipush (v := nI 18) hx hb dX7_answer_4 (by decide) ?_
  refine lv_iconst (v := nI 3) hx hb dX7_answer_6 (by decide) ?_
  refine lv_iload_n hx hb dX7_answer_7 rfl (lv_at hl 1 rfl) ?_
  refine lv_imul hx hb dX7_answer_8 ?_
  refine lv_cgi (y := nI (3 * r)) (pk_mul _ _) ?_
  refine lv_iadd hx hb dX7_answer_9 ?_
  refine lv_cgi (y := nI (18 + (3 * r))) (nI_add _ _) ?_
  refine lv_iload_n hx hb dX7_answer_10 rfl (lv_at hl 2 rfl) ?_
  refine lv_iadd hx hb dX7_answer_11 ?_
  refine lv_cgi (y := nI ((18 + (3 * r)) + q)) (nI_add _ _) ?_
  refine va_iald (D := G.1) (ws := mW G A th sm le dg f sl ik sv tx pl) hx hb hK hP 1 0 (n := 58) rfl rfl (by first | assumption | exact vp_in_nI (by omega) (by omega)) dX7_answer_12 ?_
  refine lv_cgi (y := f ((18 + (3 * r)) + q)) (by rw [nI_clamp (by omega)]) ?_
  exact rd_iret hx hb hr hlocks (by rfl) dX7_answer_13

set_option maxHeartbeats 4000000 in
set_option maxRecDepth 100000 in
theorem c_X7_fits (l : Launch) (G : GG) (sz : Nat) (A : Nat → Nat) (th sm le : Int32) (dg : Int64) (f sl ik sv tx pl : Nat → Int32) (n : Nat) (hn : f 17 = nI n) (hn2 : n ≤ 12) (hv : okA f) (fo : Int32) : WRi l yX7_fits wsX7_fits 2 G [.ref (A 0), .int fo] (mW G A th sm le dg f sl ik sv tx pl) sz (S := Nat → Int32) (fun r u => r = b2 (fitM f fo n) ∧ ∀ j, j < 10 → u j = (pw fo j).1) (fun u => mW G A th sm le dg f sl ik sv tx u) 0 0 := by
  refine wr_of (cc := cX7_fits) (maxL := 4) (ret := (some .boolean)) (Qc := fun Ar => wQi G (S := Nat → Int32) (fun r u => r = b2 (fitM f fo n) ∧ ∀ j, j < 10 → u j = (pw fo j).1) (fun u => mW G A th sm le dg f sl ik sv tx u) Ar) (by decide) rfl (Nat.le_of_ble_eq_true rfl) ?_
  intro pG eG s mG below meth cG hsz hx hb hr hml hts hown hlocks hnm hP hK hN Ar hD hA hS ls hl
  have hown : s.vm.findClass RX7 = some mG.cls := hown
  have hP : PP G (mW G A th sm le dg f sl ik sv tx pl) s.heap := hP
  have hD : va_D Ar (mW G A th sm le dg f sl ik sv tx pl) := hD
  have hl : lv_has ls 4 [(0, .ref (A 0)), (1, .int fo)] := hl
  refine lv_aload_n hx hb dX7_fits_0 rfl (lv_at hl 0 rfl) ?_
  refine lv_iload_n hx hb dX7_fits_1 rfl (lv_at hl 1 rfl) ?_
  refine wr_gov (pre := []) (mid := mW G A th sm le dg f sl ik sv tx pl) (suf := []) (va_runV (As := [.int fo]) (rest := []) ⟨hx, hb, hml, hown, hts⟩ (c_X7_lay l G _ A th sm le dg f sl ik sv tx pl fo) (cwV 1 hts gX7_fits_X7_lay rfl rfl rfl (by decide +kernel) ⟨Nat.le_of_ble_eq_true rfl, Nat.le_of_ble_eq_true rfl⟩) (wV (pre := []) (mid := mW G A th sm le dg f sl ik sv tx pl) (suf := []) (va_recv (ws := mW G A th sm le dg f sl ik sv tx pl) hK hP (ci := 6) (q0 := 0) rfl rfl) hK hN hP hD) rfl rfl hl.1 rfl (lv_room (Nat.le_of_ble_eq_true rfl)) dX7_fits_2 ⟨Nat.le_of_ble_eq_true rfl, Nat.le_of_ble_eq_true rfl⟩) hP hD hS hA (fun u_1 H locs hw hP hD hS => ?_)
  have hu_1 : ∀ j, j < 10 → u_1 j = (pw fo j).1 := hw
  have hP : PP G (mW G A th sm le dg f sl ik sv tx u_1) H := hP
  have hD : va_D Ar (mW G A th sm le dg f sl ik sv tx u_1) := hD
  refine lv_iload_n hx hb dX7_fits_5 rfl (lv_at hl 1 rfl) ?_
  refine lv_aload_n hx hb dX7_fits_6 rfl (lv_at hl 0 rfl) ?_
  refine va_get (D := G.1) (ws := mW G A th sm le dg f sl ik sv tx u_1) (ci := 6) (v := .ref (A 1)) (C := RX7) (T := TX7) (N := 10) hx hb hts (fun _ h => List.mem_cons_of_mem _ (List.mem_append_right _ (h))) hown hK hP 0 rfl rfl 1 (by decide) (hts (.fieldLink RX7 7 "CreaseMapsModel" "s" "[I") (List.mem_of_getElem? (i := 1) rfl)) (fun _ h9 => h9) rfl dX7_fits_7 ?_
  refine lv_iconst (v := nI 1) hx hb dX7_fits_10 (by decide) ?_
  refine va_iald (D := G.1) (ws := mW G A th sm le dg f sl ik sv tx u_1) hx hb hK hP 1 0 (n := 58) rfl rfl (by first | assumption | exact vp_in_nI (by omega) (by omega)) dX7_fits_11 ?_
  refine lv_cgi (y := f 1) rfl ?_
  refine lv_iand hx hb dX7_fits_12 ?_
  refine lv_if_ne (tgt := 20) hx hb dX7_fits_13 (by decide) (fun c_13 => ?_) (fun c_13 => ?_)
  · have c_13 : ¬ fo &&& f 1 = nI 0 := c_13
    refine lv_iconst (v := nI 0) hx hb dX7_fits_20 (by decide) ?_
    refine lv_istore_n (lv' := [(2, .int (nI 0)), (0, .ref (A 0)), (1, .int fo)]) hx hb dX7_fits_21 rfl hl (by decide) rfl (fun ls hl => ?_)
    refine lv_iconst (v := nI 0) hx hb dX7_fits_22 (by decide) ?_
    refine lv_istore_n (lv' := [(3, .int (nI 0)), (2, .int (nI 0)), (0, .ref (A 0)), (1, .int fo)]) hx hb dX7_fits_23 rfl hl (by decide) rfl (fun ls hl => ?_)
    have L24 : ∀ (fu : Nat) (k : Nat) (hk : k ≤ n), n + 1 ≤ k + fu → ∀ (H : Heap) (locs : List Loc), PP G (mW G A th sm le dg f sl ik sv tx u_1) H → va_D Ar (mW G A th sm le dg f sl ik sv tx u_1) → va_S Ar s.heap H locs → ∀ ls : Array Slot, lv_has ls 4 [(0, .ref (A 0)), (1, .int fo), (2, .int (b2 (fitM f fo k))), (3, .int (nI k))] → W pG l eG (RM 2 0 0) s mG ([.ref (A 0), .int fo] : List Value).toArray below meth cG H locs 0 0 (MQ below (wQi G (S := Nat → Int32) (fun r u => r = b2 (fitM f fo n) ∧ ∀ j, j < 10 → u j = (pw fo j).1) (fun u => mW G A th sm le dg f sl ik sv tx u) Ar) ([.ref (A 0), .int fo] : List Value).toArray s 0 0 Ar) (F0 mG 24 ls []) := by
      intro fu
      induction fu with
      | zero => intro k hk hfu; exact absurd hfu (by omega)
      | succ fu ih =>
        intro k hk hfu H locs hP hD hS ls hl
        refine lv_iload_n hx hb dX7_fits_24 rfl (lv_at hl 3 rfl) ?_
        refine lv_aload_n hx hb dX7_fits_25 rfl (lv_at hl 0 rfl) ?_
        refine va_get (D := G.1) (ws := mW G A th sm le dg f sl ik sv tx u_1) (ci := 6) (v := .ref (A 1)) (C := RX7) (T := TX7) (N := 10) hx hb hts (fun _ h => List.mem_cons_of_mem _ (List.mem_append_right _ (h))) hown hK hP 0 rfl rfl 1 (by decide) (hts (.fieldLink RX7 7 "CreaseMapsModel" "s" "[I") (List.mem_of_getElem? (i := 1) rfl)) (fun _ h9 => h9) rfl dX7_fits_26 ?_
        refine lv_bipush (v := nI 17) hx hb dX7_fits_29 (by decide) ?_
        refine va_iald (D := G.1) (ws := mW G A th sm le dg f sl ik sv tx u_1) hx hb hK hP 1 0 (n := 58) rfl rfl (by first | assumption | exact vp_in_nI (by omega) (by omega)) dX7_fits_31 ?_
        refine lv_cgi (y := f 17) rfl ?_
        refine lv_cgi (y := nI n) hn ?_
        refine lv_icmp_ge (tgt := 99) hx hb dX7_fits_32 (by decide) (fun c_32 => ?_) (fun c_32 => ?_)
        · have q1 : n ≤ k := fe c_32 (by omega) (by omega)
          refine lv_iload_n hx hb dX7_fits_99 rfl (lv_at hl 2 rfl) ?_
          exact wr_zret (S := Nat → Int32) (out := fun u => mW G A th sm le dg f sl ik sv tx u) u_1 hx hb hr hlocks (by first | decide | exact b2_nar _) hP hD hS (Nat.le_of_ble_eq_true rfl) (Nat.le_of_ble_eq_true rfl) (by exact ⟨by first | (rw [show k = n by omega]; done) | rw [b2_eq c_36, fitM_mono (b2_eq c_36) hk], hu_1⟩) dX7_fits_100
        · have q1 : k < n := fl c_32 (by omega) (by omega)
          refine lv_iload_n hx hb dX7_fits_35 rfl (lv_at hl 2 rfl) ?_
          refine lv_if_eq (tgt := 99) hx hb dX7_fits_36 (by decide) (fun c_36 => ?_) (fun c_36 => ?_)
          · have c_36 : b2 (fitM f fo k) = 0 := c_36
            refine lv_iload_n hx hb dX7_fits_99 rfl (lv_at hl 2 rfl) ?_
            exact wr_zret (S := Nat → Int32) (out := fun u => mW G A th sm le dg f sl ik sv tx u) u_1 hx hb hr hlocks (by first | decide | exact b2_nar _) hP hD hS (Nat.le_of_ble_eq_true rfl) (Nat.le_of_ble_eq_true rfl) (by exact ⟨by first | (rw [show k = n by omega]; done) | rw [b2_eq c_36, fitM_mono (b2_eq c_36) hk], hu_1⟩) dX7_fits_100
          · have c_36 : ¬ b2 (fitM f fo k) = 0 := c_36
            refine lv_aload_n hx hb dX7_fits_39 rfl (lv_at hl 0 rfl) ?_
            refine va_get (D := G.1) (ws := mW G A th sm le dg f sl ik sv tx u_1) (ci := 6) (v := .ref (A 6)) (C := RX7) (T := TX7) (N := 10) hx hb hts (fun _ h => List.mem_cons_of_mem _ (List.mem_append_right _ (h))) hown hK hP 0 rfl rfl 8 (by decide) (hts (.fieldLink RX7 26 "CreaseMapsModel" "place" "[I") (List.mem_of_getElem? (i := 2) rfl)) (fun _ h9 => h9) rfl dX7_fits_40 ?_
            refine lv_aload_n hx hb dX7_fits_43 rfl (lv_at hl 0 rfl) ?_
            refine lv_iload_n hx hb dX7_fits_44 rfl (lv_at hl 3 rfl) ?_
            refine lv_iconst (v := nI 0) hx hb dX7_fits_45 (by decide) ?_
            refine rd_go (va_runV (As := [.int (nI k), .int (nI 0)]) (rest := [.ref (A 6)]) ⟨hx, hb, hml, hown, hts⟩ (c_X7_answer l G A th sm le dg f sl ik sv tx u_1 k 0 (by omega)) (cwV 2 hts gX7_fits_X7_answer rfl rfl rfl (by decide +kernel) ⟨Nat.le_of_ble_eq_true rfl, Nat.le_of_ble_eq_true rfl⟩) (rV (ws := mW G A th sm le dg f sl ik sv tx u_1) (va_recv (ws := mW G A th sm le dg f sl ik sv tx u_1) hK hP (ci := 6) (q0 := 0) rfl rfl) hK hN hP) rfl rfl hl.1 rfl (lv_room (Nat.le_of_ble_eq_true rfl)) dX7_fits_46 ⟨Nat.le_of_ble_eq_true rfl, Nat.le_of_ble_eq_true rfl⟩) ?_
            refine va_iald (D := G.1) (ws := mW G A th sm le dg f sl ik sv tx u_1) hx hb hK hP 6 0 (n := 10) rfl rfl (hv k (by omega)).1 dX7_fits_49 ?_
            refine lv_cgi (y := plc fo (an f k 0)) (hu_1 _ (vp_lt (hv k (by omega)).1)) ?_
            refine lv_aload_n hx hb dX7_fits_50 rfl (lv_at hl 0 rfl) ?_
            refine va_get (D := G.1) (ws := mW G A th sm le dg f sl ik sv tx u_1) (ci := 6) (v := .ref (A 6)) (C := RX7) (T := TX7) (N := 10) hx hb hts (fun _ h => List.mem_cons_of_mem _ (List.mem_append_right _ (h))) hown hK hP 0 rfl rfl 8 (by decide) (hts (.fieldLink RX7 26 "CreaseMapsModel" "place" "[I") (List.mem_of_getElem? (i := 2) rfl)) (fun _ h9 => h9) rfl dX7_fits_51 ?_
            refine lv_aload_n hx hb dX7_fits_54 rfl (lv_at hl 0 rfl) ?_
            refine lv_iload_n hx hb dX7_fits_55 rfl (lv_at hl 3 rfl) ?_
            refine lv_iconst (v := nI 1) hx hb dX7_fits_56 (by decide) ?_
            refine rd_go (va_runV (As := [.int (nI k), .int (nI 1)]) (rest := [.ref (A 6), .int (plc fo (an f k 0))]) ⟨hx, hb, hml, hown, hts⟩ (c_X7_answer l G A th sm le dg f sl ik sv tx u_1 k 1 (by omega)) (cwV 2 hts gX7_fits_X7_answer rfl rfl rfl (by decide +kernel) ⟨Nat.le_of_ble_eq_true rfl, Nat.le_of_ble_eq_true rfl⟩) (rV (ws := mW G A th sm le dg f sl ik sv tx u_1) (va_recv (ws := mW G A th sm le dg f sl ik sv tx u_1) hK hP (ci := 6) (q0 := 0) rfl rfl) hK hN hP) rfl rfl hl.1 rfl (lv_room (Nat.le_of_ble_eq_true rfl)) dX7_fits_57 ⟨Nat.le_of_ble_eq_true rfl, Nat.le_of_ble_eq_true rfl⟩) ?_
            refine va_iald (D := G.1) (ws := mW G A th sm le dg f sl ik sv tx u_1) hx hb hK hP 6 0 (n := 10) rfl rfl (hv k (by omega)).2 dX7_fits_60 ?_
            refine lv_cgi (y := plc fo (an f k 1)) (hu_1 _ (vp_lt (hv k (by omega)).2)) ?_
            refine lv_icmp_ne (tgt := 68) hx hb dX7_fits_61 (by decide) (fun c_61 => ?_) (fun c_61 => ?_)
            · refine lv_iconst (v := nI 0) hx hb dX7_fits_68 (by decide) ?_
              refine lv_aload_n hx hb dX7_fits_69 rfl (lv_at hl 0 rfl) ?_
              refine lv_iload_n hx hb dX7_fits_70 rfl (lv_at hl 3 rfl) ?_
              refine lv_iconst (v := nI 2) hx hb dX7_fits_71 (by decide) ?_
              refine rd_go (va_runV (As := [.int (nI k), .int (nI 2)]) (rest := [.int (nI 0)]) ⟨hx, hb, hml, hown, hts⟩ (c_X7_answer l G A th sm le dg f sl ik sv tx u_1 k 2 (by omega)) (cwV 2 hts gX7_fits_X7_answer rfl rfl rfl (by decide +kernel) ⟨Nat.le_of_ble_eq_true rfl, Nat.le_of_ble_eq_true rfl⟩) (rV (ws := mW G A th sm le dg f sl ik sv tx u_1) (va_recv (ws := mW G A th sm le dg f sl ik sv tx u_1) hK hP (ci := 6) (q0 := 0) rfl rfl) hK hN hP) rfl rfl hl.1 rfl (lv_room (Nat.le_of_ble_eq_true rfl)) dX7_fits_72 ⟨Nat.le_of_ble_eq_true rfl, Nat.le_of_ble_eq_true rfl⟩) ?_
              refine lv_iconst (v := nI 1) hx hb dX7_fits_75 (by decide) ?_
              refine lv_icmp_ne (tgt := 83) hx hb dX7_fits_76 (by decide) (fun c_76 => ?_) (fun c_76 => ?_)
              · refine lv_iconst (v := nI 0) hx hb dX7_fits_83 (by decide) ?_
                refine lv_icmp_ne (tgt := 91) hx hb dX7_fits_84 (by decide) (fun c_84 => ?_) (fun c_84 => ?_)
                · exact absurd c_84 (by decide)
                · refine lv_iconst (v := nI 1) hx hb dX7_fits_87 (by decide) ?_
                  refine lv_goto (tgt := 92) hx hb dX7_fits_88 (by decide) ?_
                  refine lv_istore_n (lv' := [(2, .int (nI 1)), (0, .ref (A 0)), (1, .int fo), (3, .int (nI k))]) hx hb dX7_fits_92 rfl hl (by decide) rfl (fun ls hl => ?_)
                  refine lv_iinc (v := nI (k + 1)) (lv' := [(3, .int (nI (k + 1))), (2, .int (nI 1)), (0, .ref (A 0)), (1, .int fo)]) hx hb dX7_fits_93 hl (k := 3) rfl (iincN k) (by decide) rfl (fun ls hl => ?_)
                  refine lv_goto (tgt := 24) hx hb dX7_fits_96 (by decide) ?_
                  exact ih (k + 1) (by omega) (by omega) _ _ hP hD hS ls (lv_as (l1 := [(0, .ref (A 0)), (1, .int fo), (2, .int (nI 1)), (3, .int (nI (k + 1)))]) (lv_sub hl [2, 3, 1, 0] rfl) (by rw [fitM, b2_ne c_36]; simp [c_13, c_32, c_36, c_61, c_76, c_84, b2]))
              · refine lv_iconst (v := nI 1) hx hb dX7_fits_79 (by decide) ?_
                refine lv_goto (tgt := 84) hx hb dX7_fits_80 (by decide) ?_
                refine lv_icmp_ne (tgt := 91) hx hb dX7_fits_84 (by decide) (fun c_84 => ?_) (fun c_84 => ?_)
                · refine lv_iconst (v := nI 0) hx hb dX7_fits_91 (by decide) ?_
                  refine lv_istore_n (lv' := [(2, .int (nI 0)), (0, .ref (A 0)), (1, .int fo), (3, .int (nI k))]) hx hb dX7_fits_92 rfl hl (by decide) rfl (fun ls hl => ?_)
                  refine lv_iinc (v := nI (k + 1)) (lv' := [(3, .int (nI (k + 1))), (2, .int (nI 0)), (0, .ref (A 0)), (1, .int fo)]) hx hb dX7_fits_93 hl (k := 3) rfl (iincN k) (by decide) rfl (fun ls hl => ?_)
                  refine lv_goto (tgt := 24) hx hb dX7_fits_96 (by decide) ?_
                  exact ih (k + 1) (by omega) (by omega) _ _ hP hD hS ls (lv_as (l1 := [(0, .ref (A 0)), (1, .int fo), (2, .int (nI 0)), (3, .int (nI (k + 1)))]) (lv_sub hl [2, 3, 1, 0] rfl) (by rw [fitM, b2_ne c_36]; simp [c_13, c_32, c_36, c_61, c_76, c_84, b2]))
                · exact absurd c_84 (by decide)
            · refine lv_iconst (v := nI 1) hx hb dX7_fits_64 (by decide) ?_
              refine lv_goto (tgt := 69) hx hb dX7_fits_65 (by decide) ?_
              refine lv_aload_n hx hb dX7_fits_69 rfl (lv_at hl 0 rfl) ?_
              refine lv_iload_n hx hb dX7_fits_70 rfl (lv_at hl 3 rfl) ?_
              refine lv_iconst (v := nI 2) hx hb dX7_fits_71 (by decide) ?_
              refine rd_go (va_runV (As := [.int (nI k), .int (nI 2)]) (rest := [.int (nI 1)]) ⟨hx, hb, hml, hown, hts⟩ (c_X7_answer l G A th sm le dg f sl ik sv tx u_1 k 2 (by omega)) (cwV 2 hts gX7_fits_X7_answer rfl rfl rfl (by decide +kernel) ⟨Nat.le_of_ble_eq_true rfl, Nat.le_of_ble_eq_true rfl⟩) (rV (ws := mW G A th sm le dg f sl ik sv tx u_1) (va_recv (ws := mW G A th sm le dg f sl ik sv tx u_1) hK hP (ci := 6) (q0 := 0) rfl rfl) hK hN hP) rfl rfl hl.1 rfl (lv_room (Nat.le_of_ble_eq_true rfl)) dX7_fits_72 ⟨Nat.le_of_ble_eq_true rfl, Nat.le_of_ble_eq_true rfl⟩) ?_
              refine lv_iconst (v := nI 1) hx hb dX7_fits_75 (by decide) ?_
              refine lv_icmp_ne (tgt := 83) hx hb dX7_fits_76 (by decide) (fun c_76 => ?_) (fun c_76 => ?_)
              · refine lv_iconst (v := nI 0) hx hb dX7_fits_83 (by decide) ?_
                refine lv_icmp_ne (tgt := 91) hx hb dX7_fits_84 (by decide) (fun c_84 => ?_) (fun c_84 => ?_)
                · refine lv_iconst (v := nI 0) hx hb dX7_fits_91 (by decide) ?_
                  refine lv_istore_n (lv' := [(2, .int (nI 0)), (0, .ref (A 0)), (1, .int fo), (3, .int (nI k))]) hx hb dX7_fits_92 rfl hl (by decide) rfl (fun ls hl => ?_)
                  refine lv_iinc (v := nI (k + 1)) (lv' := [(3, .int (nI (k + 1))), (2, .int (nI 0)), (0, .ref (A 0)), (1, .int fo)]) hx hb dX7_fits_93 hl (k := 3) rfl (iincN k) (by decide) rfl (fun ls hl => ?_)
                  refine lv_goto (tgt := 24) hx hb dX7_fits_96 (by decide) ?_
                  exact ih (k + 1) (by omega) (by omega) _ _ hP hD hS ls (lv_as (l1 := [(0, .ref (A 0)), (1, .int fo), (2, .int (nI 0)), (3, .int (nI (k + 1)))]) (lv_sub hl [2, 3, 1, 0] rfl) (by rw [fitM, b2_ne c_36]; simp [c_13, c_32, c_36, c_61, c_76, c_84, b2]))
                · exact absurd c_84 (by decide)
              · refine lv_iconst (v := nI 1) hx hb dX7_fits_79 (by decide) ?_
                refine lv_goto (tgt := 84) hx hb dX7_fits_80 (by decide) ?_
                refine lv_icmp_ne (tgt := 91) hx hb dX7_fits_84 (by decide) (fun c_84 => ?_) (fun c_84 => ?_)
                · exact absurd c_84 (by decide)
                · refine lv_iconst (v := nI 1) hx hb dX7_fits_87 (by decide) ?_
                  refine lv_goto (tgt := 92) hx hb dX7_fits_88 (by decide) ?_
                  refine lv_istore_n (lv' := [(2, .int (nI 1)), (0, .ref (A 0)), (1, .int fo), (3, .int (nI k))]) hx hb dX7_fits_92 rfl hl (by decide) rfl (fun ls hl => ?_)
                  refine lv_iinc (v := nI (k + 1)) (lv' := [(3, .int (nI (k + 1))), (2, .int (nI 1)), (0, .ref (A 0)), (1, .int fo)]) hx hb dX7_fits_93 hl (k := 3) rfl (iincN k) (by decide) rfl (fun ls hl => ?_)
                  refine lv_goto (tgt := 24) hx hb dX7_fits_96 (by decide) ?_
                  exact ih (k + 1) (by omega) (by omega) _ _ hP hD hS ls (lv_as (l1 := [(0, .ref (A 0)), (1, .int fo), (2, .int (nI 1)), (3, .int (nI (k + 1)))]) (lv_sub hl [2, 3, 1, 0] rfl) (by rw [fitM, b2_ne c_36]; simp [c_13, c_32, c_36, c_61, c_76, c_84, b2]))
    exact L24 (n + 1) 0 (by omega) (by omega) _ _ hP hD hS ls (lv_as (l1 := [(0, .ref (A 0)), (1, .int fo), (2, .int (nI 0)), (3, .int (nI 0))]) (lv_sub hl [2, 3, 1, 0] rfl) (by first | rw [fitM, ← b2q c_13] | rw [fitM, ← b2p c_13]))
  · have c_13 : fo &&& f 1 = nI 0 := c_13
    refine lv_iconst (v := nI 1) hx hb dX7_fits_16 (by decide) ?_
    refine lv_goto (tgt := 21) hx hb dX7_fits_17 (by decide) ?_
    refine lv_istore_n (lv' := [(2, .int (nI 1)), (0, .ref (A 0)), (1, .int fo)]) hx hb dX7_fits_21 rfl hl (by decide) rfl (fun ls hl => ?_)
    refine lv_iconst (v := nI 0) hx hb dX7_fits_22 (by decide) ?_
    refine lv_istore_n (lv' := [(3, .int (nI 0)), (2, .int (nI 1)), (0, .ref (A 0)), (1, .int fo)]) hx hb dX7_fits_23 rfl hl (by decide) rfl (fun ls hl => ?_)
    have L24 : ∀ (fu : Nat) (k : Nat) (hk : k ≤ n), n + 1 ≤ k + fu → ∀ (H : Heap) (locs : List Loc), PP G (mW G A th sm le dg f sl ik sv tx u_1) H → va_D Ar (mW G A th sm le dg f sl ik sv tx u_1) → va_S Ar s.heap H locs → ∀ ls : Array Slot, lv_has ls 4 [(0, .ref (A 0)), (1, .int fo), (2, .int (b2 (fitM f fo k))), (3, .int (nI k))] → W pG l eG (RM 2 0 0) s mG ([.ref (A 0), .int fo] : List Value).toArray below meth cG H locs 0 0 (MQ below (wQi G (S := Nat → Int32) (fun r u => r = b2 (fitM f fo n) ∧ ∀ j, j < 10 → u j = (pw fo j).1) (fun u => mW G A th sm le dg f sl ik sv tx u) Ar) ([.ref (A 0), .int fo] : List Value).toArray s 0 0 Ar) (F0 mG 24 ls []) := by
      intro fu
      induction fu with
      | zero => intro k hk hfu; exact absurd hfu (by omega)
      | succ fu ih =>
        intro k hk hfu H locs hP hD hS ls hl
        refine lv_iload_n hx hb dX7_fits_24 rfl (lv_at hl 3 rfl) ?_
        refine lv_aload_n hx hb dX7_fits_25 rfl (lv_at hl 0 rfl) ?_
        refine va_get (D := G.1) (ws := mW G A th sm le dg f sl ik sv tx u_1) (ci := 6) (v := .ref (A 1)) (C := RX7) (T := TX7) (N := 10) hx hb hts (fun _ h => List.mem_cons_of_mem _ (List.mem_append_right _ (h))) hown hK hP 0 rfl rfl 1 (by decide) (hts (.fieldLink RX7 7 "CreaseMapsModel" "s" "[I") (List.mem_of_getElem? (i := 1) rfl)) (fun _ h9 => h9) rfl dX7_fits_26 ?_
        refine lv_bipush (v := nI 17) hx hb dX7_fits_29 (by decide) ?_
        refine va_iald (D := G.1) (ws := mW G A th sm le dg f sl ik sv tx u_1) hx hb hK hP 1 0 (n := 58) rfl rfl (by first | assumption | exact vp_in_nI (by omega) (by omega)) dX7_fits_31 ?_
        refine lv_cgi (y := f 17) rfl ?_
        refine lv_cgi (y := nI n) hn ?_
        refine lv_icmp_ge (tgt := 99) hx hb dX7_fits_32 (by decide) (fun c_32 => ?_) (fun c_32 => ?_)
        · have q1 : n ≤ k := fe c_32 (by omega) (by omega)
          refine lv_iload_n hx hb dX7_fits_99 rfl (lv_at hl 2 rfl) ?_
          exact wr_zret (S := Nat → Int32) (out := fun u => mW G A th sm le dg f sl ik sv tx u) u_1 hx hb hr hlocks (by first | decide | exact b2_nar _) hP hD hS (Nat.le_of_ble_eq_true rfl) (Nat.le_of_ble_eq_true rfl) (by exact ⟨by first | (rw [show k = n by omega]; done) | rw [b2_eq c_36, fitM_mono (b2_eq c_36) hk], hu_1⟩) dX7_fits_100
        · have q1 : k < n := fl c_32 (by omega) (by omega)
          refine lv_iload_n hx hb dX7_fits_35 rfl (lv_at hl 2 rfl) ?_
          refine lv_if_eq (tgt := 99) hx hb dX7_fits_36 (by decide) (fun c_36 => ?_) (fun c_36 => ?_)
          · have c_36 : b2 (fitM f fo k) = 0 := c_36
            refine lv_iload_n hx hb dX7_fits_99 rfl (lv_at hl 2 rfl) ?_
            exact wr_zret (S := Nat → Int32) (out := fun u => mW G A th sm le dg f sl ik sv tx u) u_1 hx hb hr hlocks (by first | decide | exact b2_nar _) hP hD hS (Nat.le_of_ble_eq_true rfl) (Nat.le_of_ble_eq_true rfl) (by exact ⟨by first | (rw [show k = n by omega]; done) | rw [b2_eq c_36, fitM_mono (b2_eq c_36) hk], hu_1⟩) dX7_fits_100
          · have c_36 : ¬ b2 (fitM f fo k) = 0 := c_36
            refine lv_aload_n hx hb dX7_fits_39 rfl (lv_at hl 0 rfl) ?_
            refine va_get (D := G.1) (ws := mW G A th sm le dg f sl ik sv tx u_1) (ci := 6) (v := .ref (A 6)) (C := RX7) (T := TX7) (N := 10) hx hb hts (fun _ h => List.mem_cons_of_mem _ (List.mem_append_right _ (h))) hown hK hP 0 rfl rfl 8 (by decide) (hts (.fieldLink RX7 26 "CreaseMapsModel" "place" "[I") (List.mem_of_getElem? (i := 2) rfl)) (fun _ h9 => h9) rfl dX7_fits_40 ?_
            refine lv_aload_n hx hb dX7_fits_43 rfl (lv_at hl 0 rfl) ?_
            refine lv_iload_n hx hb dX7_fits_44 rfl (lv_at hl 3 rfl) ?_
            refine lv_iconst (v := nI 0) hx hb dX7_fits_45 (by decide) ?_
            refine rd_go (va_runV (As := [.int (nI k), .int (nI 0)]) (rest := [.ref (A 6)]) ⟨hx, hb, hml, hown, hts⟩ (c_X7_answer l G A th sm le dg f sl ik sv tx u_1 k 0 (by omega)) (cwV 2 hts gX7_fits_X7_answer rfl rfl rfl (by decide +kernel) ⟨Nat.le_of_ble_eq_true rfl, Nat.le_of_ble_eq_true rfl⟩) (rV (ws := mW G A th sm le dg f sl ik sv tx u_1) (va_recv (ws := mW G A th sm le dg f sl ik sv tx u_1) hK hP (ci := 6) (q0 := 0) rfl rfl) hK hN hP) rfl rfl hl.1 rfl (lv_room (Nat.le_of_ble_eq_true rfl)) dX7_fits_46 ⟨Nat.le_of_ble_eq_true rfl, Nat.le_of_ble_eq_true rfl⟩) ?_
            refine va_iald (D := G.1) (ws := mW G A th sm le dg f sl ik sv tx u_1) hx hb hK hP 6 0 (n := 10) rfl rfl (hv k (by omega)).1 dX7_fits_49 ?_
            refine lv_cgi (y := plc fo (an f k 0)) (hu_1 _ (vp_lt (hv k (by omega)).1)) ?_
            refine lv_aload_n hx hb dX7_fits_50 rfl (lv_at hl 0 rfl) ?_
            refine va_get (D := G.1) (ws := mW G A th sm le dg f sl ik sv tx u_1) (ci := 6) (v := .ref (A 6)) (C := RX7) (T := TX7) (N := 10) hx hb hts (fun _ h => List.mem_cons_of_mem _ (List.mem_append_right _ (h))) hown hK hP 0 rfl rfl 8 (by decide) (hts (.fieldLink RX7 26 "CreaseMapsModel" "place" "[I") (List.mem_of_getElem? (i := 2) rfl)) (fun _ h9 => h9) rfl dX7_fits_51 ?_
            refine lv_aload_n hx hb dX7_fits_54 rfl (lv_at hl 0 rfl) ?_
            refine lv_iload_n hx hb dX7_fits_55 rfl (lv_at hl 3 rfl) ?_
            refine lv_iconst (v := nI 1) hx hb dX7_fits_56 (by decide) ?_
            refine rd_go (va_runV (As := [.int (nI k), .int (nI 1)]) (rest := [.ref (A 6), .int (plc fo (an f k 0))]) ⟨hx, hb, hml, hown, hts⟩ (c_X7_answer l G A th sm le dg f sl ik sv tx u_1 k 1 (by omega)) (cwV 2 hts gX7_fits_X7_answer rfl rfl rfl (by decide +kernel) ⟨Nat.le_of_ble_eq_true rfl, Nat.le_of_ble_eq_true rfl⟩) (rV (ws := mW G A th sm le dg f sl ik sv tx u_1) (va_recv (ws := mW G A th sm le dg f sl ik sv tx u_1) hK hP (ci := 6) (q0 := 0) rfl rfl) hK hN hP) rfl rfl hl.1 rfl (lv_room (Nat.le_of_ble_eq_true rfl)) dX7_fits_57 ⟨Nat.le_of_ble_eq_true rfl, Nat.le_of_ble_eq_true rfl⟩) ?_
            refine va_iald (D := G.1) (ws := mW G A th sm le dg f sl ik sv tx u_1) hx hb hK hP 6 0 (n := 10) rfl rfl (hv k (by omega)).2 dX7_fits_60 ?_
            refine lv_cgi (y := plc fo (an f k 1)) (hu_1 _ (vp_lt (hv k (by omega)).2)) ?_
            refine lv_icmp_ne (tgt := 68) hx hb dX7_fits_61 (by decide) (fun c_61 => ?_) (fun c_61 => ?_)
            · refine lv_iconst (v := nI 0) hx hb dX7_fits_68 (by decide) ?_
              refine lv_aload_n hx hb dX7_fits_69 rfl (lv_at hl 0 rfl) ?_
              refine lv_iload_n hx hb dX7_fits_70 rfl (lv_at hl 3 rfl) ?_
              refine lv_iconst (v := nI 2) hx hb dX7_fits_71 (by decide) ?_
              refine rd_go (va_runV (As := [.int (nI k), .int (nI 2)]) (rest := [.int (nI 0)]) ⟨hx, hb, hml, hown, hts⟩ (c_X7_answer l G A th sm le dg f sl ik sv tx u_1 k 2 (by omega)) (cwV 2 hts gX7_fits_X7_answer rfl rfl rfl (by decide +kernel) ⟨Nat.le_of_ble_eq_true rfl, Nat.le_of_ble_eq_true rfl⟩) (rV (ws := mW G A th sm le dg f sl ik sv tx u_1) (va_recv (ws := mW G A th sm le dg f sl ik sv tx u_1) hK hP (ci := 6) (q0 := 0) rfl rfl) hK hN hP) rfl rfl hl.1 rfl (lv_room (Nat.le_of_ble_eq_true rfl)) dX7_fits_72 ⟨Nat.le_of_ble_eq_true rfl, Nat.le_of_ble_eq_true rfl⟩) ?_
              refine lv_iconst (v := nI 1) hx hb dX7_fits_75 (by decide) ?_
              refine lv_icmp_ne (tgt := 83) hx hb dX7_fits_76 (by decide) (fun c_76 => ?_) (fun c_76 => ?_)
              · refine lv_iconst (v := nI 0) hx hb dX7_fits_83 (by decide) ?_
                refine lv_icmp_ne (tgt := 91) hx hb dX7_fits_84 (by decide) (fun c_84 => ?_) (fun c_84 => ?_)
                · exact absurd c_84 (by decide)
                · refine lv_iconst (v := nI 1) hx hb dX7_fits_87 (by decide) ?_
                  refine lv_goto (tgt := 92) hx hb dX7_fits_88 (by decide) ?_
                  refine lv_istore_n (lv' := [(2, .int (nI 1)), (0, .ref (A 0)), (1, .int fo), (3, .int (nI k))]) hx hb dX7_fits_92 rfl hl (by decide) rfl (fun ls hl => ?_)
                  refine lv_iinc (v := nI (k + 1)) (lv' := [(3, .int (nI (k + 1))), (2, .int (nI 1)), (0, .ref (A 0)), (1, .int fo)]) hx hb dX7_fits_93 hl (k := 3) rfl (iincN k) (by decide) rfl (fun ls hl => ?_)
                  refine lv_goto (tgt := 24) hx hb dX7_fits_96 (by decide) ?_
                  exact ih (k + 1) (by omega) (by omega) _ _ hP hD hS ls (lv_as (l1 := [(0, .ref (A 0)), (1, .int fo), (2, .int (nI 1)), (3, .int (nI (k + 1)))]) (lv_sub hl [2, 3, 1, 0] rfl) (by rw [fitM, b2_ne c_36]; simp [c_13, c_32, c_36, c_61, c_76, c_84, b2]))
              · refine lv_iconst (v := nI 1) hx hb dX7_fits_79 (by decide) ?_
                refine lv_goto (tgt := 84) hx hb dX7_fits_80 (by decide) ?_
                refine lv_icmp_ne (tgt := 91) hx hb dX7_fits_84 (by decide) (fun c_84 => ?_) (fun c_84 => ?_)
                · refine lv_iconst (v := nI 0) hx hb dX7_fits_91 (by decide) ?_
                  refine lv_istore_n (lv' := [(2, .int (nI 0)), (0, .ref (A 0)), (1, .int fo), (3, .int (nI k))]) hx hb dX7_fits_92 rfl hl (by decide) rfl (fun ls hl => ?_)
                  refine lv_iinc (v := nI (k + 1)) (lv' := [(3, .int (nI (k + 1))), (2, .int (nI 0)), (0, .ref (A 0)), (1, .int fo)]) hx hb dX7_fits_93 hl (k := 3) rfl (iincN k) (by decide) rfl (fun ls hl => ?_)
                  refine lv_goto (tgt := 24) hx hb dX7_fits_96 (by decide) ?_
                  exact ih (k + 1) (by omega) (by omega) _ _ hP hD hS ls (lv_as (l1 := [(0, .ref (A 0)), (1, .int fo), (2, .int (nI 0)), (3, .int (nI (k + 1)))]) (lv_sub hl [2, 3, 1, 0] rfl) (by rw [fitM, b2_ne c_36]; simp [c_13, c_32, c_36, c_61, c_76, c_84, b2]))
                · exact absurd c_84 (by decide)
            · refine lv_iconst (v := nI 1) hx hb dX7_fits_64 (by decide) ?_
              refine lv_goto (tgt := 69) hx hb dX7_fits_65 (by decide) ?_
              refine lv_aload_n hx hb dX7_fits_69 rfl (lv_at hl 0 rfl) ?_
              refine lv_iload_n hx hb dX7_fits_70 rfl (lv_at hl 3 rfl) ?_
              refine lv_iconst (v := nI 2) hx hb dX7_fits_71 (by decide) ?_
              refine rd_go (va_runV (As := [.int (nI k), .int (nI 2)]) (rest := [.int (nI 1)]) ⟨hx, hb, hml, hown, hts⟩ (c_X7_answer l G A th sm le dg f sl ik sv tx u_1 k 2 (by omega)) (cwV 2 hts gX7_fits_X7_answer rfl rfl rfl (by decide +kernel) ⟨Nat.le_of_ble_eq_true rfl, Nat.le_of_ble_eq_true rfl⟩) (rV (ws := mW G A th sm le dg f sl ik sv tx u_1) (va_recv (ws := mW G A th sm le dg f sl ik sv tx u_1) hK hP (ci := 6) (q0 := 0) rfl rfl) hK hN hP) rfl rfl hl.1 rfl (lv_room (Nat.le_of_ble_eq_true rfl)) dX7_fits_72 ⟨Nat.le_of_ble_eq_true rfl, Nat.le_of_ble_eq_true rfl⟩) ?_
              refine lv_iconst (v := nI 1) hx hb dX7_fits_75 (by decide) ?_
              refine lv_icmp_ne (tgt := 83) hx hb dX7_fits_76 (by decide) (fun c_76 => ?_) (fun c_76 => ?_)
              · refine lv_iconst (v := nI 0) hx hb dX7_fits_83 (by decide) ?_
                refine lv_icmp_ne (tgt := 91) hx hb dX7_fits_84 (by decide) (fun c_84 => ?_) (fun c_84 => ?_)
                · refine lv_iconst (v := nI 0) hx hb dX7_fits_91 (by decide) ?_
                  refine lv_istore_n (lv' := [(2, .int (nI 0)), (0, .ref (A 0)), (1, .int fo), (3, .int (nI k))]) hx hb dX7_fits_92 rfl hl (by decide) rfl (fun ls hl => ?_)
                  refine lv_iinc (v := nI (k + 1)) (lv' := [(3, .int (nI (k + 1))), (2, .int (nI 0)), (0, .ref (A 0)), (1, .int fo)]) hx hb dX7_fits_93 hl (k := 3) rfl (iincN k) (by decide) rfl (fun ls hl => ?_)
                  refine lv_goto (tgt := 24) hx hb dX7_fits_96 (by decide) ?_
                  exact ih (k + 1) (by omega) (by omega) _ _ hP hD hS ls (lv_as (l1 := [(0, .ref (A 0)), (1, .int fo), (2, .int (nI 0)), (3, .int (nI (k + 1)))]) (lv_sub hl [2, 3, 1, 0] rfl) (by rw [fitM, b2_ne c_36]; simp [c_13, c_32, c_36, c_61, c_76, c_84, b2]))
                · exact absurd c_84 (by decide)
              · refine lv_iconst (v := nI 1) hx hb dX7_fits_79 (by decide) ?_
                refine lv_goto (tgt := 84) hx hb dX7_fits_80 (by decide) ?_
                refine lv_icmp_ne (tgt := 91) hx hb dX7_fits_84 (by decide) (fun c_84 => ?_) (fun c_84 => ?_)
                · exact absurd c_84 (by decide)
                · refine lv_iconst (v := nI 1) hx hb dX7_fits_87 (by decide) ?_
                  refine lv_goto (tgt := 92) hx hb dX7_fits_88 (by decide) ?_
                  refine lv_istore_n (lv' := [(2, .int (nI 1)), (0, .ref (A 0)), (1, .int fo), (3, .int (nI k))]) hx hb dX7_fits_92 rfl hl (by decide) rfl (fun ls hl => ?_)
                  refine lv_iinc (v := nI (k + 1)) (lv' := [(3, .int (nI (k + 1))), (2, .int (nI 1)), (0, .ref (A 0)), (1, .int fo)]) hx hb dX7_fits_93 hl (k := 3) rfl (iincN k) (by decide) rfl (fun ls hl => ?_)
                  refine lv_goto (tgt := 24) hx hb dX7_fits_96 (by decide) ?_
                  exact ih (k + 1) (by omega) (by omega) _ _ hP hD hS ls (lv_as (l1 := [(0, .ref (A 0)), (1, .int fo), (2, .int (nI 1)), (3, .int (nI (k + 1)))]) (lv_sub hl [2, 3, 1, 0] rfl) (by rw [fitM, b2_ne c_36]; simp [c_13, c_32, c_36, c_61, c_76, c_84, b2]))
    exact L24 (n + 1) 0 (by omega) (by omega) _ _ hP hD hS ls (lv_as (l1 := [(0, .ref (A 0)), (1, .int fo), (2, .int (nI 1)), (3, .int (nI 0))]) (lv_sub hl [2, 3, 1, 0] rfl) (by first | rw [fitM, ← b2q c_13] | rw [fitM, ← b2p c_13]))

set_option maxHeartbeats 4000000 in
set_option maxRecDepth 100000 in
theorem c_X7_fitting (l : Launch) (G : GG) (sz : Nat) (A : Nat → Nat) (th sm le : Int32) (dg : Int64) (f sl ik sv tx pl : Nat → Int32) (n : Nat) (hn : f 17 = nI n) (hn2 : n ≤ 12) (hv : okA f) : WRi l yX7_fitting wsX7_fitting 3 G [.ref (A 0)] (mW G A th sm le dg f sl ik sv tx pl) sz (S := Nat → Int32) (fun r _ => r = fitN f n) (fun u => mW G A th sm le dg f sl ik sv tx u) 0 0 := by
  refine wr_of (cc := cX7_fitting) (maxL := 3) (ret := (some .int)) (Qc := fun Ar => wQi G (S := Nat → Int32) (fun r _ => r = fitN f n) (fun u => mW G A th sm le dg f sl ik sv tx u) Ar) (by decide) rfl (Nat.le_of_ble_eq_true rfl) ?_
  intro pG eG s mG below meth cG hsz hx hb hr hml hts hown hlocks hnm hP hK hN Ar hD hA hS ls hl
  have hown : s.vm.findClass RX7 = some mG.cls := hown
  have hP : PP G (mW G A th sm le dg f sl ik sv tx pl) s.heap := hP
  have hD : va_D Ar (mW G A th sm le dg f sl ik sv tx pl) := hD
  have hl : lv_has ls 3 [(0, .ref (A 0))] := hl
  refine lv_iconst (v := nI 0) hx hb dX7_fitting_0 (by decide) ?_
  refine lv_istore_n (lv' := [(1, .int (nI 0)), (0, .ref (A 0))]) hx hb dX7_fitting_1 rfl hl (by decide) rfl (fun ls hl => ?_)
  refine lv_iconst (v := nI 0) hx hb dX7_fitting_2 (by decide) ?_
  refine lv_istore_n (lv' := [(2, .int (nI 0)), (1, .int (nI 0)), (0, .ref (A 0))]) hx hb dX7_fitting_3 rfl hl (by decide) rfl (fun ls hl => ?_)
  have L4 : ∀ (fu : Nat) (k : Nat) (q : Nat → Int32) (hk : k ≤ 512), 512 + 1 ≤ k + fu → ∀ (H : Heap) (locs : List Loc), PP G (mW G A th sm le dg f sl ik sv tx q) H → va_D Ar (mW G A th sm le dg f sl ik sv tx q) → va_S Ar s.heap H locs → ∀ ls : Array Slot, lv_has ls 3 [(0, .ref (A 0)), (1, .int (sumI (fun k => b2 (fitM f (nI k) n)) k)), (2, .int (nI k))] → W pG l eG (RM 3 0 0) s mG ([.ref (A 0)] : List Value).toArray below meth cG H locs 0 0 (MQ below (wQi G (S := Nat → Int32) (fun r _ => r = fitN f n) (fun u => mW G A th sm le dg f sl ik sv tx u) Ar) ([.ref (A 0)] : List Value).toArray s 0 0 Ar) (F0 mG 4 ls []) := by
    intro fu
    induction fu with
    | zero => intro k q hk hfu; exact absurd hfu (by omega)
    | succ fu ih =>
      intro k q hk hfu H locs hP hD hS ls hl
      refine lv_iload_n hx hb dX7_fitting_4 rfl (lv_at hl 2 rfl) ?_
      refine lv_sipush (v := nI 512) hx hb dX7_fitting_5 (by decide +kernel) ?_
      refine lv_icmp_ge (tgt := 33) hx hb dX7_fitting_8 (by decide) (fun c_8 => ?_) (fun c_8 => ?_)
      · have q1 : 512 ≤ k := fe c_8 (by omega) (by omega)
        refine lv_iload_n hx hb dX7_fitting_33 rfl (lv_at hl 1 rfl) ?_
        exact wr_iret (S := Nat → Int32) (out := fun u => mW G A th sm le dg f sl ik sv tx u) q hx hb hr hlocks hP hD hS (Nat.le_of_ble_eq_true rfl) (Nat.le_of_ble_eq_true rfl) (by rw [show k = 512 by omega]; first | (unfold fitN; rfl) | (unfold touN; rfl)) dX7_fitting_34
      · have q1 : k < 512 := fl c_8 (by omega) (by omega)
        refine lv_iload_n hx hb dX7_fitting_11 rfl (lv_at hl 1 rfl) ?_
        refine lv_aload_n hx hb dX7_fitting_12 rfl (lv_at hl 0 rfl) ?_
        refine lv_iload_n hx hb dX7_fitting_13 rfl (lv_at hl 2 rfl) ?_
        refine wr_goi (pre := []) (mid := mW G A th sm le dg f sl ik sv tx q) (suf := []) (va_runV (As := [.int (nI k)]) (rest := [.int (sumI (fun k => b2 (fitM f (nI k) n)) k)]) ⟨hx, hb, hml, hown, hts⟩ (c_X7_fits l G _ A th sm le dg f sl ik sv tx q n hn hn2 hv (nI k)) (cwV 1 hts gX7_fitting_X7_fits rfl rfl rfl (by decide +kernel) ⟨Nat.le_of_ble_eq_true rfl, Nat.le_of_ble_eq_true rfl⟩) (wV (pre := []) (mid := mW G A th sm le dg f sl ik sv tx q) (suf := []) (va_recv (ws := mW G A th sm le dg f sl ik sv tx q) hK hP (ci := 6) (q0 := 0) rfl rfl) hK hN hP hD) rfl rfl hl.1 rfl (lv_room (Nat.le_of_ble_eq_true rfl)) dX7_fitting_14 ⟨Nat.le_of_ble_eq_true rfl, Nat.le_of_ble_eq_true rfl⟩) hP hD hS hA (fun r u_1 H locs hw hP hD hS => ?_)
        obtain ⟨rfl, hu_1⟩ := hw
        have hP : PP G (mW G A th sm le dg f sl ik sv tx u_1) H := hP
        have hD : va_D Ar (mW G A th sm le dg f sl ik sv tx u_1) := hD
        refine lv_if_eq (tgt := 24) hx hb dX7_fitting_17 (by decide) (fun c_17 => ?_) (fun c_17 => ?_)
        · have c_17 := b2_eq c_17
          refine lv_iconst (v := nI 0) hx hb dX7_fitting_24 (by decide) ?_
          refine lv_iadd hx hb dX7_fitting_25 ?_
          refine lv_istore_n (lv' := [(1, .int ((sumI (fun k => b2 (fitM f (nI k) n)) k) + (nI 0))), (0, .ref (A 0)), (2, .int (nI k))]) hx hb dX7_fitting_26 rfl hl (by decide) rfl (fun ls hl => ?_)
          refine lv_iinc (v := nI (k + 1)) (lv' := [(2, .int (nI (k + 1))), (1, .int ((sumI (fun k => b2 (fitM f (nI k) n)) k) + (nI 0))), (0, .ref (A 0))]) hx hb dX7_fitting_27 hl (k := 2) rfl (iincN k) (by decide) rfl (fun ls hl => ?_)
          refine lv_goto (tgt := 4) hx hb dX7_fitting_30 (by decide) ?_
          exact ih (k + 1) u_1 (by omega) (by omega) _ _ hP hD hS ls (lv_as (l1 := [(0, .ref (A 0)), (1, .int ((sumI (fun k => b2 (fitM f (nI k) n)) k) + (nI 0))), (2, .int (nI (k + 1)))]) (lv_sub hl [2, 1, 0] rfl) (by rw [sumI]; simp [c_17, b2]))
        · have c_17 := b2_ne c_17
          refine lv_iconst (v := nI 1) hx hb dX7_fitting_20 (by decide) ?_
          refine lv_goto (tgt := 25) hx hb dX7_fitting_21 (by decide) ?_
          refine lv_iadd hx hb dX7_fitting_25 ?_
          refine lv_istore_n (lv' := [(1, .int ((sumI (fun k => b2 (fitM f (nI k) n)) k) + (nI 1))), (0, .ref (A 0)), (2, .int (nI k))]) hx hb dX7_fitting_26 rfl hl (by decide) rfl (fun ls hl => ?_)
          refine lv_iinc (v := nI (k + 1)) (lv' := [(2, .int (nI (k + 1))), (1, .int ((sumI (fun k => b2 (fitM f (nI k) n)) k) + (nI 1))), (0, .ref (A 0))]) hx hb dX7_fitting_27 hl (k := 2) rfl (iincN k) (by decide) rfl (fun ls hl => ?_)
          refine lv_goto (tgt := 4) hx hb dX7_fitting_30 (by decide) ?_
          exact ih (k + 1) u_1 (by omega) (by omega) _ _ hP hD hS ls (lv_as (l1 := [(0, .ref (A 0)), (1, .int ((sumI (fun k => b2 (fitM f (nI k) n)) k) + (nI 1))), (2, .int (nI (k + 1)))]) (lv_sub hl [2, 1, 0] rfl) (by rw [sumI]; simp [c_17, b2]))
  exact L4 513 0 pl (by omega) (by omega) _ _ hP hD hS ls (lv_as (l1 := [(0, .ref (A 0)), (1, .int (nI 0)), (2, .int (nI 0))]) (lv_sub hl [2, 1, 0] rfl) (by rfl))

set_option maxHeartbeats 4000000 in
set_option maxRecDepth 100000 in
theorem c_X7_touching (l : Launch) (G : GG) (sz : Nat) (A : Nat → Nat) (th sm le : Int32) (dg : Int64) (f sl ik sv tx pl : Nat → Int32) (n : Nat) (hn : f 17 = nI n) (hn2 : n ≤ 12) (hv : okA f) (one oth : Int32) (h1 : vp_in one 10) (h2 : vp_in oth 10) : WRi l yX7_touching wsX7_touching 3 G [.ref (A 0), .int one, .int oth] (mW G A th sm le dg f sl ik sv tx pl) sz (S := Nat → Int32) (fun r _ => r = touN f n one oth) (fun u => mW G A th sm le dg f sl ik sv tx u) 0 0 := by
  refine wr_of (cc := cX7_touching) (maxL := 5) (ret := (some .int)) (Qc := fun Ar => wQi G (S := Nat → Int32) (fun r _ => r = touN f n one oth) (fun u => mW G A th sm le dg f sl ik sv tx u) Ar) (by decide) rfl (Nat.le_of_ble_eq_true rfl) ?_
  intro pG eG s mG below meth cG hsz hx hb hr hml hts hown hlocks hnm hP hK hN Ar hD hA hS ls hl
  have hown : s.vm.findClass RX7 = some mG.cls := hown
  have hP : PP G (mW G A th sm le dg f sl ik sv tx pl) s.heap := hP
  have hD : va_D Ar (mW G A th sm le dg f sl ik sv tx pl) := hD
  have hl : lv_has ls 5 [(0, .ref (A 0)), (1, .int one), (2, .int oth)] := hl
  refine lv_iconst (v := nI 0) hx hb dX7_touching_0 (by decide) ?_
  refine lv_istore_n (lv' := [(3, .int (nI 0)), (0, .ref (A 0)), (1, .int one), (2, .int oth)]) hx hb dX7_touching_1 rfl hl (by decide) rfl (fun ls hl => ?_)
  refine lv_iconst (v := nI 0) hx hb dX7_touching_2 (by decide) ?_
  refine lv_istore (lv' := [(4, .int (nI 0)), (3, .int (nI 0)), (0, .ref (A 0)), (1, .int one), (2, .int oth)]) hx hb dX7_touching_3 hl (by decide) rfl (fun ls hl => ?_)
  have L5 : ∀ (fu : Nat) (k : Nat) (q : Nat → Int32) (hk : k ≤ 512), 512 + 1 ≤ k + fu → ∀ (H : Heap) (locs : List Loc), PP G (mW G A th sm le dg f sl ik sv tx q) H → va_D Ar (mW G A th sm le dg f sl ik sv tx q) → va_S Ar s.heap H locs → ∀ ls : Array Slot, lv_has ls 5 [(0, .ref (A 0)), (1, .int one), (2, .int oth), (3, .int (sumI (fun k => b2 (fitM f (nI k) n && tch (nI k) one oth)) k)), (4, .int (nI k))] → W pG l eG (RM 3 0 0) s mG ([.ref (A 0), .int one, .int oth] : List Value).toArray below meth cG H locs 0 0 (MQ below (wQi G (S := Nat → Int32) (fun r _ => r = touN f n one oth) (fun u => mW G A th sm le dg f sl ik sv tx u) Ar) ([.ref (A 0), .int one, .int oth] : List Value).toArray s 0 0 Ar) (F0 mG 5 ls []) := by
    intro fu
    induction fu with
    | zero => intro k q hk hfu; exact absurd hfu (by omega)
    | succ fu ih =>
      intro k q hk hfu H locs hP hD hS ls hl
      refine lv_iload hx hb dX7_touching_5 (lv_at hl 4 rfl) ?_
      refine lv_sipush (v := nI 512) hx hb dX7_touching_7 (by decide +kernel) ?_
      refine lv_icmp_ge (tgt := 51) hx hb dX7_touching_10 (by decide) (fun c_10 => ?_) (fun c_10 => ?_)
      · have q1 : 512 ≤ k := fe c_10 (by omega) (by omega)
        refine lv_iload_n hx hb dX7_touching_51 rfl (lv_at hl 3 rfl) ?_
        exact wr_iret (S := Nat → Int32) (out := fun u => mW G A th sm le dg f sl ik sv tx u) q hx hb hr hlocks hP hD hS (Nat.le_of_ble_eq_true rfl) (Nat.le_of_ble_eq_true rfl) (by rw [show k = 512 by omega]; first | (unfold fitN; rfl) | (unfold touN; rfl)) dX7_touching_52
      · have q1 : k < 512 := fl c_10 (by omega) (by omega)
        refine lv_iload_n hx hb dX7_touching_13 rfl (lv_at hl 3 rfl) ?_
        refine lv_aload_n hx hb dX7_touching_14 rfl (lv_at hl 0 rfl) ?_
        refine lv_iload hx hb dX7_touching_15 (lv_at hl 4 rfl) ?_
        refine wr_goi (pre := []) (mid := mW G A th sm le dg f sl ik sv tx q) (suf := []) (va_runV (As := [.int (nI k)]) (rest := [.int (sumI (fun k => b2 (fitM f (nI k) n && tch (nI k) one oth)) k)]) ⟨hx, hb, hml, hown, hts⟩ (c_X7_fits l G _ A th sm le dg f sl ik sv tx q n hn hn2 hv (nI k)) (cwV 1 hts gX7_touching_X7_fits rfl rfl rfl (by decide +kernel) ⟨Nat.le_of_ble_eq_true rfl, Nat.le_of_ble_eq_true rfl⟩) (wV (pre := []) (mid := mW G A th sm le dg f sl ik sv tx q) (suf := []) (va_recv (ws := mW G A th sm le dg f sl ik sv tx q) hK hP (ci := 6) (q0 := 0) rfl rfl) hK hN hP hD) rfl rfl hl.1 rfl (lv_room (Nat.le_of_ble_eq_true rfl)) dX7_touching_17 ⟨Nat.le_of_ble_eq_true rfl, Nat.le_of_ble_eq_true rfl⟩) hP hD hS hA (fun r u_1 H locs hw hP hD hS => ?_)
        obtain ⟨rfl, hu_1⟩ := hw
        have hP : PP G (mW G A th sm le dg f sl ik sv tx u_1) H := hP
        have hD : va_D Ar (mW G A th sm le dg f sl ik sv tx u_1) := hD
        refine lv_if_eq (tgt := 42) hx hb dX7_touching_20 (by decide) (fun c_20 => ?_) (fun c_20 => ?_)
        · have c_20 := b2_eq c_20
          refine lv_iconst (v := nI 0) hx hb dX7_touching_42 (by decide) ?_
          refine lv_iadd hx hb dX7_touching_43 ?_
          refine lv_istore_n (lv' := [(3, .int ((sumI (fun k => b2 (fitM f (nI k) n && tch (nI k) one oth)) k) + (nI 0))), (0, .ref (A 0)), (1, .int one), (2, .int oth), (4, .int (nI k))]) hx hb dX7_touching_44 rfl hl (by decide) rfl (fun ls hl => ?_)
          refine lv_iinc (v := nI (k + 1)) (lv' := [(4, .int (nI (k + 1))), (3, .int ((sumI (fun k => b2 (fitM f (nI k) n && tch (nI k) one oth)) k) + (nI 0))), (0, .ref (A 0)), (1, .int one), (2, .int oth)]) hx hb dX7_touching_45 hl (k := 4) rfl (iincN k) (by decide) rfl (fun ls hl => ?_)
          refine lv_goto (tgt := 5) hx hb dX7_touching_48 (by decide) ?_
          exact ih (k + 1) u_1 (by omega) (by omega) _ _ hP hD hS ls (lv_as (l1 := [(0, .ref (A 0)), (1, .int one), (2, .int oth), (3, .int ((sumI (fun k => b2 (fitM f (nI k) n && tch (nI k) one oth)) k) + (nI 0))), (4, .int (nI (k + 1)))]) (lv_sub hl [2, 3, 4, 1, 0] rfl) (by rw [sumI]; simp [tch, c_10, c_20, b2]))
        · have c_20 := b2_ne c_20
          refine lv_aload_n hx hb dX7_touching_23 rfl (lv_at hl 0 rfl) ?_
          refine va_get (D := G.1) (ws := mW G A th sm le dg f sl ik sv tx u_1) (ci := 6) (v := .ref (A 6)) (C := RX7) (T := TX7) (N := 10) hx hb hts (fun _ h => List.mem_cons_of_mem _ (List.mem_append_right _ (h))) hown hK hP 0 rfl rfl 8 (by decide) (hts (.fieldLink RX7 26 "CreaseMapsModel" "place" "[I") (List.mem_of_getElem? (i := 1) rfl)) (fun _ h9 => h9) rfl dX7_touching_24 ?_
          refine lv_iload_n hx hb dX7_touching_27 rfl (lv_at hl 1 rfl) ?_
          refine va_iald (D := G.1) (ws := mW G A th sm le dg f sl ik sv tx u_1) hx hb hK hP 6 0 (n := 10) rfl rfl (by first | assumption | exact vp_in_nI (by omega) (by omega)) dX7_touching_28 ?_
          refine lv_cgi (y := plc (nI k) one) (hu_1 _ (vp_lt h1)) ?_
          refine lv_aload_n hx hb dX7_touching_29 rfl (lv_at hl 0 rfl) ?_
          refine va_get (D := G.1) (ws := mW G A th sm le dg f sl ik sv tx u_1) (ci := 6) (v := .ref (A 6)) (C := RX7) (T := TX7) (N := 10) hx hb hts (fun _ h => List.mem_cons_of_mem _ (List.mem_append_right _ (h))) hown hK hP 0 rfl rfl 8 (by decide) (hts (.fieldLink RX7 26 "CreaseMapsModel" "place" "[I") (List.mem_of_getElem? (i := 1) rfl)) (fun _ h9 => h9) rfl dX7_touching_30 ?_
          refine lv_iload_n hx hb dX7_touching_33 rfl (lv_at hl 2 rfl) ?_
          refine va_iald (D := G.1) (ws := mW G A th sm le dg f sl ik sv tx u_1) hx hb hK hP 6 0 (n := 10) rfl rfl (by first | assumption | exact vp_in_nI (by omega) (by omega)) dX7_touching_34 ?_
          refine lv_cgi (y := plc (nI k) oth) (hu_1 _ (vp_lt h2)) ?_
          refine lv_icmp_ne (tgt := 42) hx hb dX7_touching_35 (by decide) (fun c_35 => ?_) (fun c_35 => ?_)
          · refine lv_iconst (v := nI 0) hx hb dX7_touching_42 (by decide) ?_
            refine lv_iadd hx hb dX7_touching_43 ?_
            refine lv_istore_n (lv' := [(3, .int ((sumI (fun k => b2 (fitM f (nI k) n && tch (nI k) one oth)) k) + (nI 0))), (0, .ref (A 0)), (1, .int one), (2, .int oth), (4, .int (nI k))]) hx hb dX7_touching_44 rfl hl (by decide) rfl (fun ls hl => ?_)
            refine lv_iinc (v := nI (k + 1)) (lv' := [(4, .int (nI (k + 1))), (3, .int ((sumI (fun k => b2 (fitM f (nI k) n && tch (nI k) one oth)) k) + (nI 0))), (0, .ref (A 0)), (1, .int one), (2, .int oth)]) hx hb dX7_touching_45 hl (k := 4) rfl (iincN k) (by decide) rfl (fun ls hl => ?_)
            refine lv_goto (tgt := 5) hx hb dX7_touching_48 (by decide) ?_
            exact ih (k + 1) u_1 (by omega) (by omega) _ _ hP hD hS ls (lv_as (l1 := [(0, .ref (A 0)), (1, .int one), (2, .int oth), (3, .int ((sumI (fun k => b2 (fitM f (nI k) n && tch (nI k) one oth)) k) + (nI 0))), (4, .int (nI (k + 1)))]) (lv_sub hl [2, 3, 4, 1, 0] rfl) (by rw [sumI]; simp [tch, c_10, c_20, c_35, b2]))
          · refine lv_iconst (v := nI 1) hx hb dX7_touching_38 (by decide) ?_
            refine lv_goto (tgt := 43) hx hb dX7_touching_39 (by decide) ?_
            refine lv_iadd hx hb dX7_touching_43 ?_
            refine lv_istore_n (lv' := [(3, .int ((sumI (fun k => b2 (fitM f (nI k) n && tch (nI k) one oth)) k) + (nI 1))), (0, .ref (A 0)), (1, .int one), (2, .int oth), (4, .int (nI k))]) hx hb dX7_touching_44 rfl hl (by decide) rfl (fun ls hl => ?_)
            refine lv_iinc (v := nI (k + 1)) (lv' := [(4, .int (nI (k + 1))), (3, .int ((sumI (fun k => b2 (fitM f (nI k) n && tch (nI k) one oth)) k) + (nI 1))), (0, .ref (A 0)), (1, .int one), (2, .int oth)]) hx hb dX7_touching_45 hl (k := 4) rfl (iincN k) (by decide) rfl (fun ls hl => ?_)
            refine lv_goto (tgt := 5) hx hb dX7_touching_48 (by decide) ?_
            exact ih (k + 1) u_1 (by omega) (by omega) _ _ hP hD hS ls (lv_as (l1 := [(0, .ref (A 0)), (1, .int one), (2, .int oth), (3, .int ((sumI (fun k => b2 (fitM f (nI k) n && tch (nI k) one oth)) k) + (nI 1))), (4, .int (nI (k + 1)))]) (lv_sub hl [2, 3, 4, 1, 0] rfl) (by rw [sumI]; simp [tch, c_10, c_20, c_35, b2]))
  exact L5 513 0 pl (by omega) (by omega) _ _ hP hD hS ls (lv_as (l1 := [(0, .ref (A 0)), (1, .int one), (2, .int oth), (3, .int (nI 0)), (4, .int (nI 0))]) (lv_sub hl [2, 3, 4, 1, 0] rfl) (by rfl))

set_option maxHeartbeats 4000000 in
set_option maxRecDepth 100000 in
theorem c_X7_touch (l : Launch) (G : GG) (sz : Nat) (A : Nat → Nat) (th sm le : Int32) (dg : Int64) (f sl ik sv tx pl : Nat → Int32) (one oth : Int32) (h1 : vp_in one 10) (h2 : vp_in oth 10) : WRi l yX7_touch wsX7_touch 2 G [.ref (A 0), .int one, .int oth] (mW G A th sm le dg f sl ik sv tx pl) sz (S := Nat → Int32) (fun r _ => r = b2 (tch (f 0) one oth)) (fun u => mW G A th sm le dg f sl ik sv tx u) 0 0 := by
  refine wr_of (cc := cX7_touch) (maxL := 3) (ret := (some .boolean)) (Qc := fun Ar => wQi G (S := Nat → Int32) (fun r _ => r = b2 (tch (f 0) one oth)) (fun u => mW G A th sm le dg f sl ik sv tx u) Ar) (by decide) rfl (Nat.le_of_ble_eq_true rfl) ?_
  intro pG eG s mG below meth cG hsz hx hb hr hml hts hown hlocks hnm hP hK hN Ar hD hA hS ls hl
  have hown : s.vm.findClass RX7 = some mG.cls := hown
  have hP : PP G (mW G A th sm le dg f sl ik sv tx pl) s.heap := hP
  have hD : va_D Ar (mW G A th sm le dg f sl ik sv tx pl) := hD
  have hl : lv_has ls 3 [(0, .ref (A 0)), (1, .int one), (2, .int oth)] := hl
  refine lv_aload_n hx hb dX7_touch_0 rfl (lv_at hl 0 rfl) ?_
  refine lv_aload_n hx hb dX7_touch_1 rfl (lv_at hl 0 rfl) ?_
  refine va_get (D := G.1) (ws := mW G A th sm le dg f sl ik sv tx pl) (ci := 6) (v := .ref (A 1)) (C := RX7) (T := TX7) (N := 10) hx hb hts (fun _ h => List.mem_cons_of_mem _ (List.mem_append_right _ (h))) hown hK hP 0 rfl rfl 1 (by decide) (hts (.fieldLink RX7 7 "CreaseMapsModel" "s" "[I") (List.mem_of_getElem? (i := 1) rfl)) (fun _ h9 => h9) rfl dX7_touch_2 ?_
  refine lv_iconst (v := nI 0) hx hb dX7_touch_5 (by decide) ?_
  refine va_iald (D := G.1) (ws := mW G A th sm le dg f sl ik sv tx pl) hx hb hK hP 1 0 (n := 58) rfl rfl (by first | assumption | exact vp_in_nI (by omega) (by omega)) dX7_touch_6 ?_
  refine lv_cgi (y := f 0) rfl ?_
  refine wr_gov (pre := []) (mid := mW G A th sm le dg f sl ik sv tx pl) (suf := []) (va_runV (As := [.int (f 0)]) (rest := []) ⟨hx, hb, hml, hown, hts⟩ (c_X7_lay l G _ A th sm le dg f sl ik sv tx pl (f 0)) (cwV 1 hts gX7_touch_X7_lay rfl rfl rfl (by decide +kernel) ⟨Nat.le_of_ble_eq_true rfl, Nat.le_of_ble_eq_true rfl⟩) (wV (pre := []) (mid := mW G A th sm le dg f sl ik sv tx pl) (suf := []) (va_recv (ws := mW G A th sm le dg f sl ik sv tx pl) hK hP (ci := 6) (q0 := 0) rfl rfl) hK hN hP hD) rfl rfl hl.1 rfl (lv_room (Nat.le_of_ble_eq_true rfl)) dX7_touch_7 ⟨Nat.le_of_ble_eq_true rfl, Nat.le_of_ble_eq_true rfl⟩) hP hD hS hA (fun u_1 H locs hw hP hD hS => ?_)
  have hu_1 : ∀ j, j < 10 → u_1 j = (pw (f 0) j).1 := hw
  have hP : PP G (mW G A th sm le dg f sl ik sv tx u_1) H := hP
  have hD : va_D Ar (mW G A th sm le dg f sl ik sv tx u_1) := hD
  refine lv_aload_n hx hb dX7_touch_10 rfl (lv_at hl 0 rfl) ?_
  refine va_get (D := G.1) (ws := mW G A th sm le dg f sl ik sv tx u_1) (ci := 6) (v := .ref (A 6)) (C := RX7) (T := TX7) (N := 10) hx hb hts (fun _ h => List.mem_cons_of_mem _ (List.mem_append_right _ (h))) hown hK hP 0 rfl rfl 8 (by decide) (hts (.fieldLink RX7 26 "CreaseMapsModel" "place" "[I") (List.mem_of_getElem? (i := 2) rfl)) (fun _ h9 => h9) rfl dX7_touch_11 ?_
  refine lv_iload_n hx hb dX7_touch_14 rfl (lv_at hl 1 rfl) ?_
  refine va_iald (D := G.1) (ws := mW G A th sm le dg f sl ik sv tx u_1) hx hb hK hP 6 0 (n := 10) rfl rfl (by first | assumption | exact vp_in_nI (by omega) (by omega)) dX7_touch_15 ?_
  refine lv_cgi (y := plc (f 0) one) (hu_1 _ (vp_lt h1)) ?_
  refine lv_aload_n hx hb dX7_touch_16 rfl (lv_at hl 0 rfl) ?_
  refine va_get (D := G.1) (ws := mW G A th sm le dg f sl ik sv tx u_1) (ci := 6) (v := .ref (A 6)) (C := RX7) (T := TX7) (N := 10) hx hb hts (fun _ h => List.mem_cons_of_mem _ (List.mem_append_right _ (h))) hown hK hP 0 rfl rfl 8 (by decide) (hts (.fieldLink RX7 26 "CreaseMapsModel" "place" "[I") (List.mem_of_getElem? (i := 2) rfl)) (fun _ h9 => h9) rfl dX7_touch_17 ?_
  refine lv_iload_n hx hb dX7_touch_20 rfl (lv_at hl 2 rfl) ?_
  refine va_iald (D := G.1) (ws := mW G A th sm le dg f sl ik sv tx u_1) hx hb hK hP 6 0 (n := 10) rfl rfl (by first | assumption | exact vp_in_nI (by omega) (by omega)) dX7_touch_21 ?_
  refine lv_cgi (y := plc (f 0) oth) (hu_1 _ (vp_lt h2)) ?_
  refine lv_icmp_ne (tgt := 29) hx hb dX7_touch_22 (by decide) (fun c_22 => ?_) (fun c_22 => ?_)
  · refine lv_iconst (v := nI 0) hx hb dX7_touch_29 (by decide) ?_
    exact wr_zret (S := Nat → Int32) (out := fun u => mW G A th sm le dg f sl ik sv tx u) u_1 hx hb hr hlocks (by first | decide | exact b2_nar _) hP hD hS (Nat.le_of_ble_eq_true rfl) (Nat.le_of_ble_eq_true rfl) (by exact b2q c_22) dX7_touch_30
  · refine lv_iconst (v := nI 1) hx hb dX7_touch_25 (by decide) ?_
    refine lv_goto (tgt := 30) hx hb dX7_touch_26 (by decide) ?_
    exact wr_zret (S := Nat → Int32) (out := fun u => mW G A th sm le dg f sl ik sv tx u) u_1 hx hb hr hlocks (by first | decide | exact b2_nar _) hP hD hS (Nat.le_of_ble_eq_true rfl) (Nat.le_of_ble_eq_true rfl) (by exact b2p c_22) dX7_touch_30

set_option maxHeartbeats 4000000 in
set_option maxRecDepth 100000 in
theorem c_X7_keptFor (l : Launch) (G : GG) (A : Nat → Nat) (th sm le : Int32) (dg : Int64) (f sl ik sv tx pl : Nat → Int32) (n : Nat) (hn : f 17 = nI n) (hn2 : n ≤ 12) (one oth : Int32) : RD l yX7_keptFor wsX7_keptFor 2 G [.ref (A 0), .int one, .int oth] (mW G A th sm le dg f sl ik sv tx pl) (some (.int (kept f one oth n))) := by
  refine rd_of (cc := cX7_keptFor) (maxL := 6) (ret := (some .int)) (by decide) rfl (Nat.le_of_ble_eq_true rfl) ?_
  intro pG eG s mG below meth cG hx hb hr hml hts hown hlocks hP hK hN ls hl
  have hown : s.vm.findClass RX7 = some mG.cls := hown
  have hl : lv_has ls 6 [(0, .ref (A 0)), (1, .int one), (2, .int oth)] := hl
  refine lv_iconst (v := (-1)) hx hb dX7_keptFor_0 (by decide) ?_
  refine lv_istore_n (lv' := [(3, .int (-1)), (0, .ref (A 0)), (1, .int one), (2, .int oth)]) hx hb dX7_keptFor_1 rfl hl (by decide) rfl (fun ls hl => ?_)
  refine lv_iconst (v := nI 0) hx hb dX7_keptFor_2 (by decide) ?_
  refine lv_istore (lv' := [(4, .int (nI 0)), (3, .int (-1)), (0, .ref (A 0)), (1, .int one), (2, .int oth)]) hx hb dX7_keptFor_3 hl (by decide) rfl (fun ls hl => ?_)
  have L5 : ∀ (fu : Nat) (k : Nat) (hk : k ≤ n), n + 1 ≤ k + fu → ∀ ls : Array Slot, lv_has ls 6 [(0, .ref (A 0)), (1, .int one), (2, .int oth), (3, .int (kept f one oth k)), (4, .int (nI k))] → W pG l eG (RM 2 0 0) s mG ([.ref (A 0), .int one, .int oth] : List Value).toArray below meth cG s.heap [] 0 0 (MQ below (rQ (some (.int (kept f one oth n)))) ([.ref (A 0), .int one, .int oth] : List Value).toArray s 0 0 (fun _ => False)) (F0 mG 5 ls []) := by
    intro fu
    induction fu with
    | zero => intro k hk hfu; exact absurd hfu (by omega)
    | succ fu ih =>
      intro k hk hfu ls hl
      refine lv_iload hx hb dX7_keptFor_5 (lv_at hl 4 rfl) ?_
      refine lv_aload_n hx hb dX7_keptFor_7 rfl (lv_at hl 0 rfl) ?_
      refine va_get (D := G.1) (ws := mW G A th sm le dg f sl ik sv tx pl) (ci := 6) (v := .ref (A 1)) (C := RX7) (T := TX7) (N := 10) hx hb hts (fun _ h => List.mem_cons_of_mem _ (List.mem_append_right _ (h))) hown hK hP 0 rfl rfl 1 (by decide) (hts (.fieldLink RX7 7 "CreaseMapsModel" "s" "[I") (List.mem_of_getElem? (i := 1) rfl)) (fun _ h9 => h9) rfl dX7_keptFor_8 ?_
      refine lv_bipush (v := nI 17) hx hb dX7_keptFor_11 (by decide) ?_
      refine va_iald (D := G.1) (ws := mW G A th sm le dg f sl ik sv tx pl) hx hb hK hP 1 0 (n := 58) rfl rfl (by first | assumption | exact vp_in_nI (by omega) (by omega)) dX7_keptFor_13 ?_
      refine lv_cgi (y := f 17) rfl ?_
      refine lv_cgi (y := nI n) hn ?_
      refine lv_icmp_ge (tgt := 91) hx hb dX7_keptFor_14 (by decide) (fun c_14 => ?_) (fun c_14 => ?_)
      · have q1 : n ≤ k := fe c_14 (by omega) (by omega)
        refine lv_iload_n hx hb dX7_keptFor_91 rfl (lv_at hl 3 rfl) ?_
        exact rd_iret hx hb hr hlocks (by rw [show k = n by omega]) dX7_keptFor_92
      · have q1 : k < n := fl c_14 (by omega) (by omega)
        refine lv_aload_n hx hb dX7_keptFor_17 rfl (lv_at hl 0 rfl) ?_
        refine lv_iload hx hb dX7_keptFor_18 (lv_at hl 4 rfl) ?_
        refine lv_iconst (v := nI 0) hx hb dX7_keptFor_20 (by decide) ?_
        refine rd_go (va_runV (As := [.int (nI k), .int (nI 0)]) (rest := []) ⟨hx, hb, hml, hown, hts⟩ (c_X7_answer l G A th sm le dg f sl ik sv tx pl k 0 (by omega)) (cwV 2 hts gX7_keptFor_X7_answer rfl rfl rfl (by decide +kernel) ⟨Nat.le_of_ble_eq_true rfl, Nat.le_of_ble_eq_true rfl⟩) (rV (ws := mW G A th sm le dg f sl ik sv tx pl) (va_recv (ws := mW G A th sm le dg f sl ik sv tx pl) hK hP (ci := 6) (q0 := 0) rfl rfl) hK hN hP) rfl rfl hl.1 rfl (lv_room (Nat.le_of_ble_eq_true rfl)) dX7_keptFor_21 ⟨Nat.le_of_ble_eq_true rfl, Nat.le_of_ble_eq_true rfl⟩) ?_
        refine lv_iload_n hx hb dX7_keptFor_24 rfl (lv_at hl 1 rfl) ?_
        refine lv_icmp_ne (tgt := 39) hx hb dX7_keptFor_25 (by decide) (fun c_25 => ?_) (fun c_25 => ?_)
        · refine lv_aload_n hx hb dX7_keptFor_39 rfl (lv_at hl 0 rfl) ?_
          refine lv_iload hx hb dX7_keptFor_40 (lv_at hl 4 rfl) ?_
          refine lv_iconst (v := nI 0) hx hb dX7_keptFor_42 (by decide) ?_
          refine rd_go (va_runV (As := [.int (nI k), .int (nI 0)]) (rest := []) ⟨hx, hb, hml, hown, hts⟩ (c_X7_answer l G A th sm le dg f sl ik sv tx pl k 0 (by omega)) (cwV 2 hts gX7_keptFor_X7_answer rfl rfl rfl (by decide +kernel) ⟨Nat.le_of_ble_eq_true rfl, Nat.le_of_ble_eq_true rfl⟩) (rV (ws := mW G A th sm le dg f sl ik sv tx pl) (va_recv (ws := mW G A th sm le dg f sl ik sv tx pl) hK hP (ci := 6) (q0 := 0) rfl rfl) hK hN hP) rfl rfl hl.1 rfl (lv_room (Nat.le_of_ble_eq_true rfl)) dX7_keptFor_43 ⟨Nat.le_of_ble_eq_true rfl, Nat.le_of_ble_eq_true rfl⟩) ?_
          refine lv_iload_n hx hb dX7_keptFor_46 rfl (lv_at hl 2 rfl) ?_
          refine lv_icmp_ne (tgt := 65) hx hb dX7_keptFor_47 (by decide) (fun c_47 => ?_) (fun c_47 => ?_)
          · refine lv_iconst (v := nI 0) hx hb dX7_keptFor_65 (by decide) ?_
            refine lv_istore (lv' := [(5, .int (nI 0)), (0, .ref (A 0)), (1, .int one), (2, .int oth), (3, .int (kept f one oth k)), (4, .int (nI k))]) hx hb dX7_keptFor_66 hl (by decide) rfl (fun ls hl => ?_)
            refine lv_iload hx hb dX7_keptFor_68 (lv_at hl 0 rfl) ?_
            refine lv_if_eq (tgt := 83) hx hb dX7_keptFor_70 (by decide) (fun c_70 => ?_) (fun c_70 => ?_)
            · refine lv_iload_n hx hb dX7_keptFor_83 rfl (lv_at hl 4 rfl) ?_
              refine lv_istore_n (lv' := [(3, .int (kept f one oth k)), (5, .int (nI 0)), (0, .ref (A 0)), (1, .int one), (2, .int oth), (4, .int (nI k))]) hx hb dX7_keptFor_84 rfl hl (by decide) rfl (fun ls hl => ?_)
              refine lv_iinc (v := nI (k + 1)) (lv' := [(4, .int (nI (k + 1))), (3, .int (kept f one oth k)), (5, .int (nI 0)), (0, .ref (A 0)), (1, .int one), (2, .int oth)]) hx hb dX7_keptFor_85 hl (k := 5) rfl (iincN k) (by decide) rfl (fun ls hl => ?_)
              refine lv_goto (tgt := 5) hx hb dX7_keptFor_88 (by decide) ?_
              exact ih (k + 1) (by omega) (by omega) ls (lv_as (l1 := [(0, .ref (A 0)), (1, .int one), (2, .int oth), (3, .int (kept f one oth k)), (4, .int (nI (k + 1)))]) (lv_sub hl [3, 4, 5, 1, 0] rfl) (by rw [kept]; first | (rw [if_pos (Or.inl ⟨c_25, c_36⟩)]; done) | (rw [if_pos (Or.inr ⟨c_47, c_58⟩)]; done) | (rw [if_neg (fun h => h.elim (fun h => by first | exact c_25 h.1 | exact c_36 h.2) (fun h => by first | exact c_47 h.1 | exact c_58 h.2))]; done)))
            · exact absurd c_70 (by decide)
          · refine lv_aload_n hx hb dX7_keptFor_50 rfl (lv_at hl 0 rfl) ?_
            refine lv_iload hx hb dX7_keptFor_51 (lv_at hl 4 rfl) ?_
            refine lv_iconst (v := nI 1) hx hb dX7_keptFor_53 (by decide) ?_
            refine rd_go (va_runV (As := [.int (nI k), .int (nI 1)]) (rest := []) ⟨hx, hb, hml, hown, hts⟩ (c_X7_answer l G A th sm le dg f sl ik sv tx pl k 1 (by omega)) (cwV 2 hts gX7_keptFor_X7_answer rfl rfl rfl (by decide +kernel) ⟨Nat.le_of_ble_eq_true rfl, Nat.le_of_ble_eq_true rfl⟩) (rV (ws := mW G A th sm le dg f sl ik sv tx pl) (va_recv (ws := mW G A th sm le dg f sl ik sv tx pl) hK hP (ci := 6) (q0 := 0) rfl rfl) hK hN hP) rfl rfl hl.1 rfl (lv_room (Nat.le_of_ble_eq_true rfl)) dX7_keptFor_54 ⟨Nat.le_of_ble_eq_true rfl, Nat.le_of_ble_eq_true rfl⟩) ?_
            refine lv_iload_n hx hb dX7_keptFor_57 rfl (lv_at hl 1 rfl) ?_
            refine lv_icmp_ne (tgt := 65) hx hb dX7_keptFor_58 (by decide) (fun c_58 => ?_) (fun c_58 => ?_)
            · refine lv_iconst (v := nI 0) hx hb dX7_keptFor_65 (by decide) ?_
              refine lv_istore (lv' := [(5, .int (nI 0)), (0, .ref (A 0)), (1, .int one), (2, .int oth), (3, .int (kept f one oth k)), (4, .int (nI k))]) hx hb dX7_keptFor_66 hl (by decide) rfl (fun ls hl => ?_)
              refine lv_iload hx hb dX7_keptFor_68 (lv_at hl 0 rfl) ?_
              refine lv_if_eq (tgt := 83) hx hb dX7_keptFor_70 (by decide) (fun c_70 => ?_) (fun c_70 => ?_)
              · refine lv_iload_n hx hb dX7_keptFor_83 rfl (lv_at hl 4 rfl) ?_
                refine lv_istore_n (lv' := [(3, .int (kept f one oth k)), (5, .int (nI 0)), (0, .ref (A 0)), (1, .int one), (2, .int oth), (4, .int (nI k))]) hx hb dX7_keptFor_84 rfl hl (by decide) rfl (fun ls hl => ?_)
                refine lv_iinc (v := nI (k + 1)) (lv' := [(4, .int (nI (k + 1))), (3, .int (kept f one oth k)), (5, .int (nI 0)), (0, .ref (A 0)), (1, .int one), (2, .int oth)]) hx hb dX7_keptFor_85 hl (k := 5) rfl (iincN k) (by decide) rfl (fun ls hl => ?_)
                refine lv_goto (tgt := 5) hx hb dX7_keptFor_88 (by decide) ?_
                exact ih (k + 1) (by omega) (by omega) ls (lv_as (l1 := [(0, .ref (A 0)), (1, .int one), (2, .int oth), (3, .int (kept f one oth k)), (4, .int (nI (k + 1)))]) (lv_sub hl [3, 4, 5, 1, 0] rfl) (by rw [kept]; first | (rw [if_pos (Or.inl ⟨c_25, c_36⟩)]; done) | (rw [if_pos (Or.inr ⟨c_47, c_58⟩)]; done) | (rw [if_neg (fun h => h.elim (fun h => by first | exact c_25 h.1 | exact c_36 h.2) (fun h => by first | exact c_47 h.1 | exact c_58 h.2))]; done)))
              · exact absurd c_70 (by decide)
            · refine lv_iconst (v := nI 1) hx hb dX7_keptFor_61 (by decide) ?_
              refine lv_goto (tgt := 66) hx hb dX7_keptFor_62 (by decide) ?_
              refine lv_istore (lv' := [(5, .int (nI 1)), (0, .ref (A 0)), (1, .int one), (2, .int oth), (3, .int (kept f one oth k)), (4, .int (nI k))]) hx hb dX7_keptFor_66 hl (by decide) rfl (fun ls hl => ?_)
              refine lv_iload hx hb dX7_keptFor_68 (lv_at hl 0 rfl) ?_
              refine lv_if_eq (tgt := 83) hx hb dX7_keptFor_70 (by decide) (fun c_70 => ?_) (fun c_70 => ?_)
              · exact absurd c_70 (by decide)
              · refine lv_aload_n hx hb dX7_keptFor_73 rfl (lv_at hl 1 rfl) ?_
                refine lv_iload hx hb dX7_keptFor_74 (lv_at hl 5 rfl) ?_
                refine lv_iconst (v := nI 2) hx hb dX7_keptFor_76 (by decide) ?_
                refine rd_go (va_runV (As := [.int (nI k), .int (nI 2)]) (rest := []) ⟨hx, hb, hml, hown, hts⟩ (c_X7_answer l G A th sm le dg f sl ik sv tx pl k 2 (by omega)) (cwV 2 hts gX7_keptFor_X7_answer rfl rfl rfl (by decide +kernel) ⟨Nat.le_of_ble_eq_true rfl, Nat.le_of_ble_eq_true rfl⟩) (rV (ws := mW G A th sm le dg f sl ik sv tx pl) (va_recv (ws := mW G A th sm le dg f sl ik sv tx pl) hK hP (ci := 6) (q0 := 0) rfl rfl) hK hN hP) rfl rfl hl.1 rfl (lv_room (Nat.le_of_ble_eq_true rfl)) dX7_keptFor_77 ⟨Nat.le_of_ble_eq_true rfl, Nat.le_of_ble_eq_true rfl⟩) ?_
                refine lv_goto (tgt := 84) hx hb dX7_keptFor_80 (by decide) ?_
                refine lv_istore_n (lv' := [(3, .int (an f k 2)), (5, .int (nI 1)), (0, .ref (A 0)), (1, .int one), (2, .int oth), (4, .int (nI k))]) hx hb dX7_keptFor_84 rfl hl (by decide) rfl (fun ls hl => ?_)
                refine lv_iinc (v := nI (k + 1)) (lv' := [(4, .int (nI (k + 1))), (3, .int (an f k 2)), (5, .int (nI 1)), (0, .ref (A 0)), (1, .int one), (2, .int oth)]) hx hb dX7_keptFor_85 hl (k := 5) rfl (iincN k) (by decide) rfl (fun ls hl => ?_)
                refine lv_goto (tgt := 5) hx hb dX7_keptFor_88 (by decide) ?_
                exact ih (k + 1) (by omega) (by omega) ls (lv_as (l1 := [(0, .ref (A 0)), (1, .int one), (2, .int oth), (3, .int (an f k 2)), (4, .int (nI (k + 1)))]) (lv_sub hl [3, 4, 5, 1, 0] rfl) (by rw [kept]; first | (rw [if_pos (Or.inl ⟨c_25, c_36⟩)]; done) | (rw [if_pos (Or.inr ⟨c_47, c_58⟩)]; done) | (rw [if_neg (fun h => h.elim (fun h => by first | exact c_25 h.1 | exact c_36 h.2) (fun h => by first | exact c_47 h.1 | exact c_58 h.2))]; done)))
        · refine lv_aload_n hx hb dX7_keptFor_28 rfl (lv_at hl 0 rfl) ?_
          refine lv_iload hx hb dX7_keptFor_29 (lv_at hl 4 rfl) ?_
          refine lv_iconst (v := nI 1) hx hb dX7_keptFor_31 (by decide) ?_
          refine rd_go (va_runV (As := [.int (nI k), .int (nI 1)]) (rest := []) ⟨hx, hb, hml, hown, hts⟩ (c_X7_answer l G A th sm le dg f sl ik sv tx pl k 1 (by omega)) (cwV 2 hts gX7_keptFor_X7_answer rfl rfl rfl (by decide +kernel) ⟨Nat.le_of_ble_eq_true rfl, Nat.le_of_ble_eq_true rfl⟩) (rV (ws := mW G A th sm le dg f sl ik sv tx pl) (va_recv (ws := mW G A th sm le dg f sl ik sv tx pl) hK hP (ci := 6) (q0 := 0) rfl rfl) hK hN hP) rfl rfl hl.1 rfl (lv_room (Nat.le_of_ble_eq_true rfl)) dX7_keptFor_32 ⟨Nat.le_of_ble_eq_true rfl, Nat.le_of_ble_eq_true rfl⟩) ?_
          refine lv_iload_n hx hb dX7_keptFor_35 rfl (lv_at hl 2 rfl) ?_
          refine lv_icmp_eq (tgt := 61) hx hb dX7_keptFor_36 (by decide) (fun c_36 => ?_) (fun c_36 => ?_)
          · refine lv_iconst (v := nI 1) hx hb dX7_keptFor_61 (by decide) ?_
            refine lv_goto (tgt := 66) hx hb dX7_keptFor_62 (by decide) ?_
            refine lv_istore (lv' := [(5, .int (nI 1)), (0, .ref (A 0)), (1, .int one), (2, .int oth), (3, .int (kept f one oth k)), (4, .int (nI k))]) hx hb dX7_keptFor_66 hl (by decide) rfl (fun ls hl => ?_)
            refine lv_iload hx hb dX7_keptFor_68 (lv_at hl 0 rfl) ?_
            refine lv_if_eq (tgt := 83) hx hb dX7_keptFor_70 (by decide) (fun c_70 => ?_) (fun c_70 => ?_)
            · exact absurd c_70 (by decide)
            · refine lv_aload_n hx hb dX7_keptFor_73 rfl (lv_at hl 1 rfl) ?_
              refine lv_iload hx hb dX7_keptFor_74 (lv_at hl 5 rfl) ?_
              refine lv_iconst (v := nI 2) hx hb dX7_keptFor_76 (by decide) ?_
              refine rd_go (va_runV (As := [.int (nI k), .int (nI 2)]) (rest := []) ⟨hx, hb, hml, hown, hts⟩ (c_X7_answer l G A th sm le dg f sl ik sv tx pl k 2 (by omega)) (cwV 2 hts gX7_keptFor_X7_answer rfl rfl rfl (by decide +kernel) ⟨Nat.le_of_ble_eq_true rfl, Nat.le_of_ble_eq_true rfl⟩) (rV (ws := mW G A th sm le dg f sl ik sv tx pl) (va_recv (ws := mW G A th sm le dg f sl ik sv tx pl) hK hP (ci := 6) (q0 := 0) rfl rfl) hK hN hP) rfl rfl hl.1 rfl (lv_room (Nat.le_of_ble_eq_true rfl)) dX7_keptFor_77 ⟨Nat.le_of_ble_eq_true rfl, Nat.le_of_ble_eq_true rfl⟩) ?_
              refine lv_goto (tgt := 84) hx hb dX7_keptFor_80 (by decide) ?_
              refine lv_istore_n (lv' := [(3, .int (an f k 2)), (5, .int (nI 1)), (0, .ref (A 0)), (1, .int one), (2, .int oth), (4, .int (nI k))]) hx hb dX7_keptFor_84 rfl hl (by decide) rfl (fun ls hl => ?_)
              refine lv_iinc (v := nI (k + 1)) (lv' := [(4, .int (nI (k + 1))), (3, .int (an f k 2)), (5, .int (nI 1)), (0, .ref (A 0)), (1, .int one), (2, .int oth)]) hx hb dX7_keptFor_85 hl (k := 5) rfl (iincN k) (by decide) rfl (fun ls hl => ?_)
              refine lv_goto (tgt := 5) hx hb dX7_keptFor_88 (by decide) ?_
              exact ih (k + 1) (by omega) (by omega) ls (lv_as (l1 := [(0, .ref (A 0)), (1, .int one), (2, .int oth), (3, .int (an f k 2)), (4, .int (nI (k + 1)))]) (lv_sub hl [3, 4, 5, 1, 0] rfl) (by rw [kept]; first | (rw [if_pos (Or.inl ⟨c_25, c_36⟩)]; done) | (rw [if_pos (Or.inr ⟨c_47, c_58⟩)]; done) | (rw [if_neg (fun h => h.elim (fun h => by first | exact c_25 h.1 | exact c_36 h.2) (fun h => by first | exact c_47 h.1 | exact c_58 h.2))]; done)))
          · refine lv_aload_n hx hb dX7_keptFor_39 rfl (lv_at hl 0 rfl) ?_
            refine lv_iload hx hb dX7_keptFor_40 (lv_at hl 4 rfl) ?_
            refine lv_iconst (v := nI 0) hx hb dX7_keptFor_42 (by decide) ?_
            refine rd_go (va_runV (As := [.int (nI k), .int (nI 0)]) (rest := []) ⟨hx, hb, hml, hown, hts⟩ (c_X7_answer l G A th sm le dg f sl ik sv tx pl k 0 (by omega)) (cwV 2 hts gX7_keptFor_X7_answer rfl rfl rfl (by decide +kernel) ⟨Nat.le_of_ble_eq_true rfl, Nat.le_of_ble_eq_true rfl⟩) (rV (ws := mW G A th sm le dg f sl ik sv tx pl) (va_recv (ws := mW G A th sm le dg f sl ik sv tx pl) hK hP (ci := 6) (q0 := 0) rfl rfl) hK hN hP) rfl rfl hl.1 rfl (lv_room (Nat.le_of_ble_eq_true rfl)) dX7_keptFor_43 ⟨Nat.le_of_ble_eq_true rfl, Nat.le_of_ble_eq_true rfl⟩) ?_
            refine lv_iload_n hx hb dX7_keptFor_46 rfl (lv_at hl 2 rfl) ?_
            refine lv_icmp_ne (tgt := 65) hx hb dX7_keptFor_47 (by decide) (fun c_47 => ?_) (fun c_47 => ?_)
            · refine lv_iconst (v := nI 0) hx hb dX7_keptFor_65 (by decide) ?_
              refine lv_istore (lv' := [(5, .int (nI 0)), (0, .ref (A 0)), (1, .int one), (2, .int oth), (3, .int (kept f one oth k)), (4, .int (nI k))]) hx hb dX7_keptFor_66 hl (by decide) rfl (fun ls hl => ?_)
              refine lv_iload hx hb dX7_keptFor_68 (lv_at hl 0 rfl) ?_
              refine lv_if_eq (tgt := 83) hx hb dX7_keptFor_70 (by decide) (fun c_70 => ?_) (fun c_70 => ?_)
              · refine lv_iload_n hx hb dX7_keptFor_83 rfl (lv_at hl 4 rfl) ?_
                refine lv_istore_n (lv' := [(3, .int (kept f one oth k)), (5, .int (nI 0)), (0, .ref (A 0)), (1, .int one), (2, .int oth), (4, .int (nI k))]) hx hb dX7_keptFor_84 rfl hl (by decide) rfl (fun ls hl => ?_)
                refine lv_iinc (v := nI (k + 1)) (lv' := [(4, .int (nI (k + 1))), (3, .int (kept f one oth k)), (5, .int (nI 0)), (0, .ref (A 0)), (1, .int one), (2, .int oth)]) hx hb dX7_keptFor_85 hl (k := 5) rfl (iincN k) (by decide) rfl (fun ls hl => ?_)
                refine lv_goto (tgt := 5) hx hb dX7_keptFor_88 (by decide) ?_
                exact ih (k + 1) (by omega) (by omega) ls (lv_as (l1 := [(0, .ref (A 0)), (1, .int one), (2, .int oth), (3, .int (kept f one oth k)), (4, .int (nI (k + 1)))]) (lv_sub hl [3, 4, 5, 1, 0] rfl) (by rw [kept]; first | (rw [if_pos (Or.inl ⟨c_25, c_36⟩)]; done) | (rw [if_pos (Or.inr ⟨c_47, c_58⟩)]; done) | (rw [if_neg (fun h => h.elim (fun h => by first | exact c_25 h.1 | exact c_36 h.2) (fun h => by first | exact c_47 h.1 | exact c_58 h.2))]; done)))
              · exact absurd c_70 (by decide)
            · refine lv_aload_n hx hb dX7_keptFor_50 rfl (lv_at hl 0 rfl) ?_
              refine lv_iload hx hb dX7_keptFor_51 (lv_at hl 4 rfl) ?_
              refine lv_iconst (v := nI 1) hx hb dX7_keptFor_53 (by decide) ?_
              refine rd_go (va_runV (As := [.int (nI k), .int (nI 1)]) (rest := []) ⟨hx, hb, hml, hown, hts⟩ (c_X7_answer l G A th sm le dg f sl ik sv tx pl k 1 (by omega)) (cwV 2 hts gX7_keptFor_X7_answer rfl rfl rfl (by decide +kernel) ⟨Nat.le_of_ble_eq_true rfl, Nat.le_of_ble_eq_true rfl⟩) (rV (ws := mW G A th sm le dg f sl ik sv tx pl) (va_recv (ws := mW G A th sm le dg f sl ik sv tx pl) hK hP (ci := 6) (q0 := 0) rfl rfl) hK hN hP) rfl rfl hl.1 rfl (lv_room (Nat.le_of_ble_eq_true rfl)) dX7_keptFor_54 ⟨Nat.le_of_ble_eq_true rfl, Nat.le_of_ble_eq_true rfl⟩) ?_
              refine lv_iload_n hx hb dX7_keptFor_57 rfl (lv_at hl 1 rfl) ?_
              refine lv_icmp_ne (tgt := 65) hx hb dX7_keptFor_58 (by decide) (fun c_58 => ?_) (fun c_58 => ?_)
              · refine lv_iconst (v := nI 0) hx hb dX7_keptFor_65 (by decide) ?_
                refine lv_istore (lv' := [(5, .int (nI 0)), (0, .ref (A 0)), (1, .int one), (2, .int oth), (3, .int (kept f one oth k)), (4, .int (nI k))]) hx hb dX7_keptFor_66 hl (by decide) rfl (fun ls hl => ?_)
                refine lv_iload hx hb dX7_keptFor_68 (lv_at hl 0 rfl) ?_
                refine lv_if_eq (tgt := 83) hx hb dX7_keptFor_70 (by decide) (fun c_70 => ?_) (fun c_70 => ?_)
                · refine lv_iload_n hx hb dX7_keptFor_83 rfl (lv_at hl 4 rfl) ?_
                  refine lv_istore_n (lv' := [(3, .int (kept f one oth k)), (5, .int (nI 0)), (0, .ref (A 0)), (1, .int one), (2, .int oth), (4, .int (nI k))]) hx hb dX7_keptFor_84 rfl hl (by decide) rfl (fun ls hl => ?_)
                  refine lv_iinc (v := nI (k + 1)) (lv' := [(4, .int (nI (k + 1))), (3, .int (kept f one oth k)), (5, .int (nI 0)), (0, .ref (A 0)), (1, .int one), (2, .int oth)]) hx hb dX7_keptFor_85 hl (k := 5) rfl (iincN k) (by decide) rfl (fun ls hl => ?_)
                  refine lv_goto (tgt := 5) hx hb dX7_keptFor_88 (by decide) ?_
                  exact ih (k + 1) (by omega) (by omega) ls (lv_as (l1 := [(0, .ref (A 0)), (1, .int one), (2, .int oth), (3, .int (kept f one oth k)), (4, .int (nI (k + 1)))]) (lv_sub hl [3, 4, 5, 1, 0] rfl) (by rw [kept]; first | (rw [if_pos (Or.inl ⟨c_25, c_36⟩)]; done) | (rw [if_pos (Or.inr ⟨c_47, c_58⟩)]; done) | (rw [if_neg (fun h => h.elim (fun h => by first | exact c_25 h.1 | exact c_36 h.2) (fun h => by first | exact c_47 h.1 | exact c_58 h.2))]; done)))
                · exact absurd c_70 (by decide)
              · refine lv_iconst (v := nI 1) hx hb dX7_keptFor_61 (by decide) ?_
                refine lv_goto (tgt := 66) hx hb dX7_keptFor_62 (by decide) ?_
                refine lv_istore (lv' := [(5, .int (nI 1)), (0, .ref (A 0)), (1, .int one), (2, .int oth), (3, .int (kept f one oth k)), (4, .int (nI k))]) hx hb dX7_keptFor_66 hl (by decide) rfl (fun ls hl => ?_)
                refine lv_iload hx hb dX7_keptFor_68 (lv_at hl 0 rfl) ?_
                refine lv_if_eq (tgt := 83) hx hb dX7_keptFor_70 (by decide) (fun c_70 => ?_) (fun c_70 => ?_)
                · exact absurd c_70 (by decide)
                · refine lv_aload_n hx hb dX7_keptFor_73 rfl (lv_at hl 1 rfl) ?_
                  refine lv_iload hx hb dX7_keptFor_74 (lv_at hl 5 rfl) ?_
                  refine lv_iconst (v := nI 2) hx hb dX7_keptFor_76 (by decide) ?_
                  refine rd_go (va_runV (As := [.int (nI k), .int (nI 2)]) (rest := []) ⟨hx, hb, hml, hown, hts⟩ (c_X7_answer l G A th sm le dg f sl ik sv tx pl k 2 (by omega)) (cwV 2 hts gX7_keptFor_X7_answer rfl rfl rfl (by decide +kernel) ⟨Nat.le_of_ble_eq_true rfl, Nat.le_of_ble_eq_true rfl⟩) (rV (ws := mW G A th sm le dg f sl ik sv tx pl) (va_recv (ws := mW G A th sm le dg f sl ik sv tx pl) hK hP (ci := 6) (q0 := 0) rfl rfl) hK hN hP) rfl rfl hl.1 rfl (lv_room (Nat.le_of_ble_eq_true rfl)) dX7_keptFor_77 ⟨Nat.le_of_ble_eq_true rfl, Nat.le_of_ble_eq_true rfl⟩) ?_
                  refine lv_goto (tgt := 84) hx hb dX7_keptFor_80 (by decide) ?_
                  refine lv_istore_n (lv' := [(3, .int (an f k 2)), (5, .int (nI 1)), (0, .ref (A 0)), (1, .int one), (2, .int oth), (4, .int (nI k))]) hx hb dX7_keptFor_84 rfl hl (by decide) rfl (fun ls hl => ?_)
                  refine lv_iinc (v := nI (k + 1)) (lv' := [(4, .int (nI (k + 1))), (3, .int (an f k 2)), (5, .int (nI 1)), (0, .ref (A 0)), (1, .int one), (2, .int oth)]) hx hb dX7_keptFor_85 hl (k := 5) rfl (iincN k) (by decide) rfl (fun ls hl => ?_)
                  refine lv_goto (tgt := 5) hx hb dX7_keptFor_88 (by decide) ?_
                  exact ih (k + 1) (by omega) (by omega) ls (lv_as (l1 := [(0, .ref (A 0)), (1, .int one), (2, .int oth), (3, .int (an f k 2)), (4, .int (nI (k + 1)))]) (lv_sub hl [3, 4, 5, 1, 0] rfl) (by rw [kept]; first | (rw [if_pos (Or.inl ⟨c_25, c_36⟩)]; done) | (rw [if_pos (Or.inr ⟨c_47, c_58⟩)]; done) | (rw [if_neg (fun h => h.elim (fun h => by first | exact c_25 h.1 | exact c_36 h.2) (fun h => by first | exact c_47 h.1 | exact c_58 h.2))]; done)))
  exact L5 (n + 1) 0 (by omega) (by omega) ls (lv_as (l1 := [(0, .ref (A 0)), (1, .int one), (2, .int oth), (3, .int (-1)), (4, .int (nI 0))]) (lv_sub hl [2, 3, 4, 1, 0] rfl) (by rfl))

set_option maxHeartbeats 4000000 in
set_option maxRecDepth 100000 in
theorem c_X7_takesAway (l : Launch) (G : GG) (sz : Nat) (A : Nat → Nat) (th sm le : Int32) (dg : Int64) (f sl ik sv tx pl : Nat → Int32) : WRi l yX7_takesAway wsX7_takesAway 1 G [.ref (A 0)] (mW G A th sm le dg f sl ik sv tx pl) sz (S := Unit) (fun r _ => r = f 17) (fun _ => mW G A th sm le dg (zA f 54) sl ik sv tx pl) 0 0 := by
  refine wr_of (cc := cX7_takesAway) (maxL := 3) (ret := (some .int)) (Qc := fun Ar => wQi G (S := Unit) (fun r _ => r = f 17) (fun _ => mW G A th sm le dg (zA f 54) sl ik sv tx pl) Ar) (by decide) rfl (Nat.le_of_ble_eq_true rfl) ?_
  intro pG eG s mG below meth cG hsz hx hb hr hml hts hown hlocks hnm hP hK hN Ar hD hA hS ls hl
  have hown : s.vm.findClass RX7 = some mG.cls := hown
  have hP : PP G (mW G A th sm le dg f sl ik sv tx pl) s.heap := hP
  have hD : va_D Ar (mW G A th sm le dg f sl ik sv tx pl) := hD
  have hl : lv_has ls 3 [(0, .ref (A 0))] := hl
  refine lv_aload_n hx hb dX7_takesAway_0 rfl (lv_at hl 0 rfl) ?_
  refine va_get (D := G.1) (ws := mW G A th sm le dg f sl ik sv tx pl) (ci := 6) (v := .ref (A 1)) (C := RX7) (T := TX7) (N := 10) hx hb hts (fun _ h => List.mem_cons_of_mem _ (List.mem_append_right _ (h))) hown hK hP 0 rfl rfl 1 (by decide) (hts (.fieldLink RX7 7 "CreaseMapsModel" "s" "[I") (List.mem_of_getElem? (i := 1) rfl)) (fun _ h9 => h9) rfl dX7_takesAway_1 ?_
  refine lv_bipush (v := nI 17) hx hb dX7_takesAway_4 (by decide) ?_
  refine va_iald (D := G.1) (ws := mW G A th sm le dg f sl ik sv tx pl) hx hb hK hP 1 0 (n := 58) rfl rfl (by first | assumption | exact vp_in_nI (by omega) (by omega)) dX7_takesAway_6 ?_
  refine lv_cgi (y := f 17) rfl ?_
  refine lv_istore_n (lv' := [(1, .int (f 17)), (0, .ref (A 0))]) hx hb dX7_takesAway_7 rfl hl (by decide) rfl (fun ls hl => ?_)
  refine lv_bipush (v := nI 17) hx hb dX7_takesAway_8 (by decide) ?_
  refine lv_istore_n (lv' := [(2, .int (nI 17)), (1, .int (f 17)), (0, .ref (A 0))]) hx hb dX7_takesAway_10 rfl hl (by decide) rfl (fun ls hl => ?_)
  have L11 : ∀ (fu : Nat) (k : Nat) (hk0 : 17 ≤ k) (hk : k ≤ 54), 54 + 1 ≤ k + fu → ∀ (H : Heap) (locs : List Loc), PP G (mW G A th sm le dg (zA f k) sl ik sv tx pl) H → va_D Ar (mW G A th sm le dg (zA f k) sl ik sv tx pl) → va_S Ar s.heap H locs → ∀ ls : Array Slot, lv_has ls 3 [(0, .ref (A 0)), (1, .int (f 17)), (2, .int (nI k))] → W pG l eG (RM 1 0 0) s mG ([.ref (A 0)] : List Value).toArray below meth cG H locs 0 0 (MQ below (wQi G (S := Unit) (fun r _ => r = f 17) (fun _ => mW G A th sm le dg (zA f 54) sl ik sv tx pl) Ar) ([.ref (A 0)] : List Value).toArray s 0 0 Ar) (F0 mG 11 ls []) := by
    intro fu
    induction fu with
    | zero => intro k hk0 hk hfu; exact absurd hfu (by omega)
    | succ fu ih =>
      intro k hk0 hk hfu H locs hP hD hS ls hl
      refine lv_iload_n hx hb dX7_takesAway_11 rfl (lv_at hl 2 rfl) ?_
      refine lv_bipush (v := nI 54) hx hb dX7_takesAway_12 (by decide) ?_
      refine lv_icmp_ge (tgt := 30) hx hb dX7_takesAway_14 (by decide) (fun c_14 => ?_) (fun c_14 => ?_)
      · have q1 : 54 ≤ k := fe c_14 (by omega) (by omega)
        refine lv_iload_n hx hb dX7_takesAway_30 rfl (lv_at hl 1 rfl) ?_
        exact wr_iret (S := Unit) (out := fun _ => mW G A th sm le dg (zA f 54) sl ik sv tx pl) () hx hb hr hlocks (PP_as hP (by rw [show k = 54 by omega])) (D_as hD (by rw [show k = 54 by omega])) hS (Nat.le_of_ble_eq_true rfl) (Nat.le_of_ble_eq_true rfl) (by rfl) dX7_takesAway_31
      · have q1 : k < 54 := fl c_14 (by omega) (by omega)
        refine lv_aload_n hx hb dX7_takesAway_17 rfl (lv_at hl 0 rfl) ?_
        refine va_get (D := G.1) (ws := mW G A th sm le dg (zA f k) sl ik sv tx pl) (ci := 6) (v := .ref (A 1)) (C := RX7) (T := TX7) (N := 10) hx hb hts (fun _ h => List.mem_cons_of_mem _ (List.mem_append_right _ (h))) hown hK hP 0 rfl rfl 1 (by decide) (hts (.fieldLink RX7 7 "CreaseMapsModel" "s" "[I") (List.mem_of_getElem? (i := 1) rfl)) (fun _ h9 => h9) rfl dX7_takesAway_18 ?_
        refine lv_iload_n hx hb dX7_takesAway_21 rfl (lv_at hl 2 rfl) ?_
        refine lv_iconst (v := nI 0) hx hb dX7_takesAway_22 (by decide) ?_
        refine va_iast (D := G.1) (ws := mW G A th sm le dg (zA f k) sl ik sv tx pl) hx hb hK hP hD hS 1 0 (n := 58) rfl rfl (by first | assumption | exact vp_in_nI (by omega) (by omega)) dX7_takesAway_23 (fun H locs hP hD hS => ?_)
        rw [nI_clamp (by omega)] at hP hD
        have hP : PP G (mW G A th sm le dg (upd (zA f k) k (nI 0)) sl ik sv tx pl) H := hP
        have hD : va_D Ar (mW G A th sm le dg (upd (zA f k) k (nI 0)) sl ik sv tx pl) := hD
        refine lv_iinc (v := nI (k + 1)) (lv' := [(2, .int (nI (k + 1))), (0, .ref (A 0)), (1, .int (f 17))]) hx hb dX7_takesAway_24 hl (k := 2) rfl (iincN k) (by decide) rfl (fun ls hl => ?_)
        refine lv_goto (tgt := 11) hx hb dX7_takesAway_27 (by decide) ?_
        exact ih (k + 1) (by omega) (by omega) (by omega) _ _ (PP_as hP (by rw [zA_s f k hk0])) (D_as hD (by rw [zA_s f k hk0])) hS ls (lv_as (l1 := [(0, .ref (A 0)), (1, .int (f 17)), (2, .int (nI (k + 1)))]) (lv_sub hl [1, 2, 0] rfl) (by rfl))
  exact L11 38 17 (by omega) (by omega) (by omega) _ _ (PP_as hP (by rw [zA_0])) (D_as hD (by rw [zA_0])) hS ls (lv_as (l1 := [(0, .ref (A 0)), (1, .int (f 17)), (2, .int (nI 17))]) (lv_sub hl [2, 1, 0] rfl) (by rfl))

set_option maxHeartbeats 4000000 in
set_option maxRecDepth 100000 in
theorem c_X7_save (l : Launch) (G : GG) (sz : Nat) (A : Nat → Nat) (th le : Int32) (dg : Int64) (f sl ik sv tx pl : Nat → Int32) (m : Nat) (hm : m ≤ 6) : WRv l yX7_save wsX7_save 1 G [.ref (A 0)] (mW G A th (nI m) le dg f sl ik sv tx pl) sz (S := Unit) (fun _ => True) (fun _ => mW G A th (nI (svm m + 1)) le dg f sl ik (svF sv f m) tx pl) 0 0 := by
  refine wr_of (cc := cX7_save) (maxL := 2) (ret := none) (Qc := fun Ar => wQv G (S := Unit) (fun _ => True) (fun _ => mW G A th (nI (svm m + 1)) le dg f sl ik (svF sv f m) tx pl) Ar) (by decide) rfl (Nat.le_of_ble_eq_true rfl) ?_
  intro pG eG s mG below meth cG hsz hx hb hr hml hts hown hlocks hnm hP hK hN Ar hD hA hS ls hl
  have hown : s.vm.findClass RX7 = some mG.cls := hown
  have hP : PP G (mW G A th (nI m) le dg f sl ik sv tx pl) s.heap := hP
  have hD : va_D Ar (mW G A th (nI m) le dg f sl ik sv tx pl) := hD
  have hl : lv_has ls 2 [(0, .ref (A 0))] := hl
  have hm5 : svm m ≤ 5 := by unfold svm; split <;> omega
  refine lv_aload_n hx hb dX7_save_0 rfl (lv_at hl 0 rfl) ?_
  refine va_get (D := G.1) (ws := mW G A th (nI m) le dg f sl ik sv tx pl) (ci := 6) (v := .int (nI m)) (C := RX7) (T := TX7) (N := 10) hx hb hts (fun _ h => List.mem_cons_of_mem _ (List.mem_append_right _ (h))) hown hK hP 0 rfl rfl 5 (by decide) (hts (.fieldLink RX7 37 "CreaseMapsModel" "savedMany" "I") (List.mem_of_getElem? (i := 1) rfl)) (fun _ h9 => h9) rfl dX7_save_1 ?_
  refine lv_bipush (v := nI 6) hx hb dX7_save_4 (by decide) ?_
  refine lv_icmp_ne (tgt := 49) hx hb dX7_save_6 (by decide) (fun c_6 => ?_) (fun c_6 => ?_)
  · have qm : m ≠ 6 := nIn c_6
    refine lv_iconst (v := nI 0) hx hb dX7_save_49 (by decide) ?_
    refine lv_istore_n (lv' := [(1, .int (nI 0)), (0, .ref (A 0))]) hx hb dX7_save_50 rfl hl (by decide) rfl (fun ls hl => ?_)
    have L51 : ∀ (fu : Nat) (k : Nat) (hk : k ≤ 58), 58 + 1 ≤ k + fu → ∀ (H : Heap) (locs : List Loc), PP G (mW G A th (nI (svm m)) le dg f sl ik (cp (if m = 6 then cp sv 0 sv 58 290 else sv) (58 * svm m) f 0 k) tx pl) H → va_D Ar (mW G A th (nI (svm m)) le dg f sl ik (cp (if m = 6 then cp sv 0 sv 58 290 else sv) (58 * svm m) f 0 k) tx pl) → va_S Ar s.heap H locs → ∀ ls : Array Slot, lv_has ls 2 [(0, .ref (A 0)), (1, .int (nI k))] → W pG l eG (RM 1 0 0) s mG ([.ref (A 0)] : List Value).toArray below meth cG H locs 0 0 (MQ below (wQv G (S := Unit) (fun _ => True) (fun _ => mW G A th (nI (svm m + 1)) le dg f sl ik (svF sv f m) tx pl) Ar) ([.ref (A 0)] : List Value).toArray s 0 0 Ar) (F0 mG 51 ls []) := by
      intro fu
      induction fu with
      | zero => intro k hk hfu; exact absurd hfu (by omega)
      | succ fu ih =>
        intro k hk hfu H locs hP hD hS ls hl
        refine lv_iload_n hx hb dX7_save_51 rfl (lv_at hl 1 rfl) ?_
        refine lv_bipush (v := nI 58) hx hb dX7_save_52 (by decide) ?_
        refine lv_icmp_ge (tgt := 83) hx hb dX7_save_54 (by decide) (fun c_54 => ?_) (fun c_54 => ?_)
        · have q1 : 58 ≤ k := fe c_54 (by omega) (by omega)
          refine lv_aload_n hx hb dX7_save_83 rfl (lv_at hl 0 rfl) ?_
          refine lv_dup hx hb dX7_save_84 rfl ?_
          refine va_get (D := G.1) (ws := mW G A th (nI (svm m)) le dg f sl ik (cp (if m = 6 then cp sv 0 sv 58 290 else sv) (58 * svm m) f 0 k) tx pl) (ci := 6) (v := .int (nI (svm m))) (C := RX7) (T := TX7) (N := 10) hx hb hts (fun _ h => List.mem_cons_of_mem _ (List.mem_append_right _ (h))) hown hK hP 0 rfl rfl 5 (by decide) (hts (.fieldLink RX7 37 "CreaseMapsModel" "savedMany" "I") (List.mem_of_getElem? (i := 1) rfl)) (fun _ h9 => h9) rfl dX7_save_85 ?_
          refine lv_iconst (v := nI 1) hx hb dX7_save_88 (by decide) ?_
          refine lv_iadd hx hb dX7_save_89 ?_
          refine lv_cgi (y := nI ((svm m) + 1)) (nI_add _ _) ?_
          refine va_put (D := G.1) (ws := mW G A th (nI (svm m)) le dg f sl ik (cp (if m = 6 then cp sv 0 sv 58 290 else sv) (58 * svm m) f 0 k) tx pl) (ci := 6) (v := .int (nI ((svm m) + 1))) (ty := .int) (C := RX7) (T := TX7) (N := 10) hx hb hts (fun _ h => List.mem_cons_of_mem _ (List.mem_append_right _ (h))) tyX7 tyX7_ok nmX7 hown hK hP hD hS 0 rfl rfl 5 (by decide) (hts (.fieldLink RX7 37 "CreaseMapsModel" "savedMany" "I") (List.mem_of_getElem? (i := 1) rfl)) (fun _ h9 => h9) rfl (by decide +kernel) rfl rfl (Nat.le_of_ble_eq_true rfl) dX7_save_90 (fun H locs hP hD hS => ?_)
          have hP : PP G (mW G A th (nI ((svm m) + 1)) le dg f sl ik (cp (if m = 6 then cp sv 0 sv 58 290 else sv) (58 * svm m) f 0 k) tx pl) H := hP
          have hD : va_D Ar (mW G A th (nI ((svm m) + 1)) le dg f sl ik (cp (if m = 6 then cp sv 0 sv 58 290 else sv) (58 * svm m) f 0 k) tx pl) := hD
          exact wr_vret (S := Unit) (out := fun _ => mW G A th (nI (svm m + 1)) le dg f sl ik (svF sv f m) tx pl) () hx hb hr hlocks (PP_as hP (by rw [show k = 58 by omega]; rfl)) (D_as hD (by rw [show k = 58 by omega]; rfl)) hS (Nat.le_of_ble_eq_true rfl) (Nat.le_of_ble_eq_true rfl) (by trivial) dX7_save_93
        · have q1 : k < 58 := fl c_54 (by omega) (by omega)
          refine lv_aload_n hx hb dX7_save_57 rfl (lv_at hl 0 rfl) ?_
          refine va_get (D := G.1) (ws := mW G A th (nI (svm m)) le dg f sl ik (cp (if m = 6 then cp sv 0 sv 58 290 else sv) (58 * svm m) f 0 k) tx pl) (ci := 6) (v := .ref (A 4)) (C := RX7) (T := TX7) (N := 10) hx hb hts (fun _ h => List.mem_cons_of_mem _ (List.mem_append_right _ (h))) hown hK hP 0 rfl rfl 4 (by decide) (hts (.fieldLink RX7 20 "CreaseMapsModel" "saved" "[I") (List.mem_of_getElem? (i := 2) rfl)) (fun _ h9 => h9) rfl dX7_save_58 ?_
          refine lv_bipush (v := nI 58) hx hb dX7_save_61 (by decide) ?_
          refine lv_aload_n hx hb dX7_save_63 rfl (lv_at hl 0 rfl) ?_
          refine va_get (D := G.1) (ws := mW G A th (nI (svm m)) le dg f sl ik (cp (if m = 6 then cp sv 0 sv 58 290 else sv) (58 * svm m) f 0 k) tx pl) (ci := 6) (v := .int (nI (svm m))) (C := RX7) (T := TX7) (N := 10) hx hb hts (fun _ h => List.mem_cons_of_mem _ (List.mem_append_right _ (h))) hown hK hP 0 rfl rfl 5 (by decide) (hts (.fieldLink RX7 37 "CreaseMapsModel" "savedMany" "I") (List.mem_of_getElem? (i := 1) rfl)) (fun _ h9 => h9) rfl dX7_save_64 ?_
          refine lv_imul hx hb dX7_save_67 ?_
          refine lv_cgi (y := nI (58 * (svm m))) (pk_mul _ _) ?_
          refine lv_iload_n hx hb dX7_save_68 rfl (lv_at hl 1 rfl) ?_
          refine lv_iadd hx hb dX7_save_69 ?_
          refine lv_cgi (y := nI ((58 * (svm m)) + k)) (nI_add _ _) ?_
          refine lv_aload_n hx hb dX7_save_70 rfl (lv_at hl 0 rfl) ?_
          refine va_get (D := G.1) (ws := mW G A th (nI (svm m)) le dg f sl ik (cp (if m = 6 then cp sv 0 sv 58 290 else sv) (58 * svm m) f 0 k) tx pl) (ci := 6) (v := .ref (A 1)) (C := RX7) (T := TX7) (N := 10) hx hb hts (fun _ h => List.mem_cons_of_mem _ (List.mem_append_right _ (h))) hown hK hP 0 rfl rfl 1 (by decide) (hts (.fieldLink RX7 7 "CreaseMapsModel" "s" "[I") (List.mem_of_getElem? (i := 3) rfl)) (fun _ h9 => h9) rfl dX7_save_71 ?_
          refine lv_iload_n hx hb dX7_save_74 rfl (lv_at hl 1 rfl) ?_
          refine va_iald (D := G.1) (ws := mW G A th (nI (svm m)) le dg f sl ik (cp (if m = 6 then cp sv 0 sv 58 290 else sv) (58 * svm m) f 0 k) tx pl) hx hb hK hP 1 0 (n := 58) rfl rfl (by first | assumption | exact vp_in_nI (by omega) (by omega)) dX7_save_75 ?_
          refine lv_cgi (y := f k) (by rw [nI_clamp (by omega)]) ?_
          refine va_iast (D := G.1) (ws := mW G A th (nI (svm m)) le dg f sl ik (cp (if m = 6 then cp sv 0 sv 58 290 else sv) (58 * svm m) f 0 k) tx pl) hx hb hK hP hD hS 4 0 (n := 348) rfl rfl (by first | assumption | exact vp_in_nI (by omega) (by omega)) dX7_save_76 (fun H locs hP hD hS => ?_)
          rw [nI_clamp (by omega)] at hP hD
          have hP : PP G (mW G A th (nI (svm m)) le dg f sl ik (upd (cp (if m = 6 then cp sv 0 sv 58 290 else sv) (58 * svm m) f 0 k) ((58 * (svm m)) + k) (f k)) tx pl) H := hP
          have hD : va_D Ar (mW G A th (nI (svm m)) le dg f sl ik (upd (cp (if m = 6 then cp sv 0 sv 58 290 else sv) (58 * svm m) f 0 k) ((58 * (svm m)) + k) (f k)) tx pl) := hD
          refine lv_iinc (v := nI (k + 1)) (lv' := [(1, .int (nI (k + 1))), (0, .ref (A 0))]) hx hb dX7_save_77 hl (k := 1) rfl (iincN k) (by decide) rfl (fun ls hl => ?_)
          refine lv_goto (tgt := 51) hx hb dX7_save_80 (by decide) ?_
          exact ih (k + 1) (by omega) (by omega) _ _ (PP_as hP (by first | rw [cp_s0] | rw [cp_sb])) (D_as hD (by first | rw [cp_s0] | rw [cp_sb])) hS ls (lv_as (l1 := [(0, .ref (A 0)), (1, .int (nI (k + 1)))]) (lv_sub hl [1, 0] rfl) (by rfl))
    exact L51 59 0 (by omega) (by omega) _ _ (PP_as hP (by rw [cp_0]; simp [svm, qm])) (D_as hD (by rw [cp_0]; simp [svm, qm])) hS ls (lv_as (l1 := [(0, .ref (A 0)), (1, .int (nI 0))]) (lv_sub hl [1, 0] rfl) (by rfl))
  · have qm : m = 6 := nIe c_6 (by omega) (by omega)
    refine lv_iconst (v := nI 0) hx hb dX7_save_9 (by decide) ?_
    refine lv_istore_n (lv' := [(1, .int (nI 0)), (0, .ref (A 0))]) hx hb dX7_save_10 rfl hl (by decide) rfl (fun ls hl => ?_)
    have L11 : ∀ (fu : Nat) (k : Nat) (hk : k ≤ 290), 290 + 1 ≤ k + fu → ∀ (H : Heap) (locs : List Loc), PP G (mW G A th (nI m) le dg f sl ik (cp sv 0 sv 58 k) tx pl) H → va_D Ar (mW G A th (nI m) le dg f sl ik (cp sv 0 sv 58 k) tx pl) → va_S Ar s.heap H locs → ∀ ls : Array Slot, lv_has ls 2 [(0, .ref (A 0)), (1, .int (nI k))] → W pG l eG (RM 1 0 0) s mG ([.ref (A 0)] : List Value).toArray below meth cG H locs 0 0 (MQ below (wQv G (S := Unit) (fun _ => True) (fun _ => mW G A th (nI (svm m + 1)) le dg f sl ik (svF sv f m) tx pl) Ar) ([.ref (A 0)] : List Value).toArray s 0 0 Ar) (F0 mG 11 ls []) := by
      intro fu
      induction fu with
      | zero => intro k hk hfu; exact absurd hfu (by omega)
      | succ fu ih =>
        intro k hk hfu H locs hP hD hS ls hl
        refine lv_iload_n hx hb dX7_save_11 rfl (lv_at hl 1 rfl) ?_
        refine lv_sipush (v := nI 290) hx hb dX7_save_12 (by decide +kernel) ?_
        refine lv_icmp_ge (tgt := 39) hx hb dX7_save_15 (by decide) (fun c_15 => ?_) (fun c_15 => ?_)
        · have q1 : 290 ≤ k := fe c_15 (by omega) (by omega)
          refine lv_aload_n hx hb dX7_save_39 rfl (lv_at hl 0 rfl) ?_
          refine lv_dup hx hb dX7_save_40 rfl ?_
          refine va_get (D := G.1) (ws := mW G A th (nI m) le dg f sl ik (cp sv 0 sv 58 k) tx pl) (ci := 6) (v := .int (nI m)) (C := RX7) (T := TX7) (N := 10) hx hb hts (fun _ h => List.mem_cons_of_mem _ (List.mem_append_right _ (h))) hown hK hP 0 rfl rfl 5 (by decide) (hts (.fieldLink RX7 37 "CreaseMapsModel" "savedMany" "I") (List.mem_of_getElem? (i := 1) rfl)) (fun _ h9 => h9) rfl dX7_save_41 ?_
          refine lv_iconst (v := nI 1) hx hb dX7_save_44 (by decide) ?_
          refine lv_isub hx hb dX7_save_45 ?_
          refine lv_cgi (y := nI (m - 1)) (pk_sub (by omega)) ?_
          refine va_put (D := G.1) (ws := mW G A th (nI m) le dg f sl ik (cp sv 0 sv 58 k) tx pl) (ci := 6) (v := .int (nI (m - 1))) (ty := .int) (C := RX7) (T := TX7) (N := 10) hx hb hts (fun _ h => List.mem_cons_of_mem _ (List.mem_append_right _ (h))) tyX7 tyX7_ok nmX7 hown hK hP hD hS 0 rfl rfl 5 (by decide) (hts (.fieldLink RX7 37 "CreaseMapsModel" "savedMany" "I") (List.mem_of_getElem? (i := 1) rfl)) (fun _ h9 => h9) rfl (by decide +kernel) rfl rfl (Nat.le_of_ble_eq_true rfl) dX7_save_46 (fun H locs hP hD hS => ?_)
          have hP : PP G (mW G A th (nI (m - 1)) le dg f sl ik (cp sv 0 sv 58 k) tx pl) H := hP
          have hD : va_D Ar (mW G A th (nI (m - 1)) le dg f sl ik (cp sv 0 sv 58 k) tx pl) := hD
          refine lv_iconst (v := nI 0) hx hb dX7_save_49 (by decide) ?_
          refine lv_istore_n (lv' := [(1, .int (nI 0)), (0, .ref (A 0))]) hx hb dX7_save_50 rfl hl (by decide) rfl (fun ls hl => ?_)
          have L51 : ∀ (fu : Nat) (k : Nat) (hk : k ≤ 58), 58 + 1 ≤ k + fu → ∀ (H : Heap) (locs : List Loc), PP G (mW G A th (nI (svm m)) le dg f sl ik (cp (if m = 6 then cp sv 0 sv 58 290 else sv) (58 * svm m) f 0 k) tx pl) H → va_D Ar (mW G A th (nI (svm m)) le dg f sl ik (cp (if m = 6 then cp sv 0 sv 58 290 else sv) (58 * svm m) f 0 k) tx pl) → va_S Ar s.heap H locs → ∀ ls : Array Slot, lv_has ls 2 [(0, .ref (A 0)), (1, .int (nI k))] → W pG l eG (RM 1 0 0) s mG ([.ref (A 0)] : List Value).toArray below meth cG H locs 0 0 (MQ below (wQv G (S := Unit) (fun _ => True) (fun _ => mW G A th (nI (svm m + 1)) le dg f sl ik (svF sv f m) tx pl) Ar) ([.ref (A 0)] : List Value).toArray s 0 0 Ar) (F0 mG 51 ls []) := by
            intro fu
            induction fu with
            | zero => intro k hk hfu; exact absurd hfu (by omega)
            | succ fu ih =>
              intro k hk hfu H locs hP hD hS ls hl
              refine lv_iload_n hx hb dX7_save_51 rfl (lv_at hl 1 rfl) ?_
              refine lv_bipush (v := nI 58) hx hb dX7_save_52 (by decide) ?_
              refine lv_icmp_ge (tgt := 83) hx hb dX7_save_54 (by decide) (fun c_54 => ?_) (fun c_54 => ?_)
              · have q1 : 58 ≤ k := fe c_54 (by omega) (by omega)
                refine lv_aload_n hx hb dX7_save_83 rfl (lv_at hl 0 rfl) ?_
                refine lv_dup hx hb dX7_save_84 rfl ?_
                refine va_get (D := G.1) (ws := mW G A th (nI (svm m)) le dg f sl ik (cp (if m = 6 then cp sv 0 sv 58 290 else sv) (58 * svm m) f 0 k) tx pl) (ci := 6) (v := .int (nI (svm m))) (C := RX7) (T := TX7) (N := 10) hx hb hts (fun _ h => List.mem_cons_of_mem _ (List.mem_append_right _ (h))) hown hK hP 0 rfl rfl 5 (by decide) (hts (.fieldLink RX7 37 "CreaseMapsModel" "savedMany" "I") (List.mem_of_getElem? (i := 1) rfl)) (fun _ h9 => h9) rfl dX7_save_85 ?_
                refine lv_iconst (v := nI 1) hx hb dX7_save_88 (by decide) ?_
                refine lv_iadd hx hb dX7_save_89 ?_
                refine lv_cgi (y := nI ((svm m) + 1)) (nI_add _ _) ?_
                refine va_put (D := G.1) (ws := mW G A th (nI (svm m)) le dg f sl ik (cp (if m = 6 then cp sv 0 sv 58 290 else sv) (58 * svm m) f 0 k) tx pl) (ci := 6) (v := .int (nI ((svm m) + 1))) (ty := .int) (C := RX7) (T := TX7) (N := 10) hx hb hts (fun _ h => List.mem_cons_of_mem _ (List.mem_append_right _ (h))) tyX7 tyX7_ok nmX7 hown hK hP hD hS 0 rfl rfl 5 (by decide) (hts (.fieldLink RX7 37 "CreaseMapsModel" "savedMany" "I") (List.mem_of_getElem? (i := 1) rfl)) (fun _ h9 => h9) rfl (by decide +kernel) rfl rfl (Nat.le_of_ble_eq_true rfl) dX7_save_90 (fun H locs hP hD hS => ?_)
                have hP : PP G (mW G A th (nI ((svm m) + 1)) le dg f sl ik (cp (if m = 6 then cp sv 0 sv 58 290 else sv) (58 * svm m) f 0 k) tx pl) H := hP
                have hD : va_D Ar (mW G A th (nI ((svm m) + 1)) le dg f sl ik (cp (if m = 6 then cp sv 0 sv 58 290 else sv) (58 * svm m) f 0 k) tx pl) := hD
                exact wr_vret (S := Unit) (out := fun _ => mW G A th (nI (svm m + 1)) le dg f sl ik (svF sv f m) tx pl) () hx hb hr hlocks (PP_as hP (by rw [show k = 58 by omega]; rfl)) (D_as hD (by rw [show k = 58 by omega]; rfl)) hS (Nat.le_of_ble_eq_true rfl) (Nat.le_of_ble_eq_true rfl) (by trivial) dX7_save_93
              · have q1 : k < 58 := fl c_54 (by omega) (by omega)
                refine lv_aload_n hx hb dX7_save_57 rfl (lv_at hl 0 rfl) ?_
                refine va_get (D := G.1) (ws := mW G A th (nI (svm m)) le dg f sl ik (cp (if m = 6 then cp sv 0 sv 58 290 else sv) (58 * svm m) f 0 k) tx pl) (ci := 6) (v := .ref (A 4)) (C := RX7) (T := TX7) (N := 10) hx hb hts (fun _ h => List.mem_cons_of_mem _ (List.mem_append_right _ (h))) hown hK hP 0 rfl rfl 4 (by decide) (hts (.fieldLink RX7 20 "CreaseMapsModel" "saved" "[I") (List.mem_of_getElem? (i := 2) rfl)) (fun _ h9 => h9) rfl dX7_save_58 ?_
                refine lv_bipush (v := nI 58) hx hb dX7_save_61 (by decide) ?_
                refine lv_aload_n hx hb dX7_save_63 rfl (lv_at hl 0 rfl) ?_
                refine va_get (D := G.1) (ws := mW G A th (nI (svm m)) le dg f sl ik (cp (if m = 6 then cp sv 0 sv 58 290 else sv) (58 * svm m) f 0 k) tx pl) (ci := 6) (v := .int (nI (svm m))) (C := RX7) (T := TX7) (N := 10) hx hb hts (fun _ h => List.mem_cons_of_mem _ (List.mem_append_right _ (h))) hown hK hP 0 rfl rfl 5 (by decide) (hts (.fieldLink RX7 37 "CreaseMapsModel" "savedMany" "I") (List.mem_of_getElem? (i := 1) rfl)) (fun _ h9 => h9) rfl dX7_save_64 ?_
                refine lv_imul hx hb dX7_save_67 ?_
                refine lv_cgi (y := nI (58 * (svm m))) (pk_mul _ _) ?_
                refine lv_iload_n hx hb dX7_save_68 rfl (lv_at hl 1 rfl) ?_
                refine lv_iadd hx hb dX7_save_69 ?_
                refine lv_cgi (y := nI ((58 * (svm m)) + k)) (nI_add _ _) ?_
                refine lv_aload_n hx hb dX7_save_70 rfl (lv_at hl 0 rfl) ?_
                refine va_get (D := G.1) (ws := mW G A th (nI (svm m)) le dg f sl ik (cp (if m = 6 then cp sv 0 sv 58 290 else sv) (58 * svm m) f 0 k) tx pl) (ci := 6) (v := .ref (A 1)) (C := RX7) (T := TX7) (N := 10) hx hb hts (fun _ h => List.mem_cons_of_mem _ (List.mem_append_right _ (h))) hown hK hP 0 rfl rfl 1 (by decide) (hts (.fieldLink RX7 7 "CreaseMapsModel" "s" "[I") (List.mem_of_getElem? (i := 3) rfl)) (fun _ h9 => h9) rfl dX7_save_71 ?_
                refine lv_iload_n hx hb dX7_save_74 rfl (lv_at hl 1 rfl) ?_
                refine va_iald (D := G.1) (ws := mW G A th (nI (svm m)) le dg f sl ik (cp (if m = 6 then cp sv 0 sv 58 290 else sv) (58 * svm m) f 0 k) tx pl) hx hb hK hP 1 0 (n := 58) rfl rfl (by first | assumption | exact vp_in_nI (by omega) (by omega)) dX7_save_75 ?_
                refine lv_cgi (y := f k) (by rw [nI_clamp (by omega)]) ?_
                refine va_iast (D := G.1) (ws := mW G A th (nI (svm m)) le dg f sl ik (cp (if m = 6 then cp sv 0 sv 58 290 else sv) (58 * svm m) f 0 k) tx pl) hx hb hK hP hD hS 4 0 (n := 348) rfl rfl (by first | assumption | exact vp_in_nI (by omega) (by omega)) dX7_save_76 (fun H locs hP hD hS => ?_)
                rw [nI_clamp (by omega)] at hP hD
                have hP : PP G (mW G A th (nI (svm m)) le dg f sl ik (upd (cp (if m = 6 then cp sv 0 sv 58 290 else sv) (58 * svm m) f 0 k) ((58 * (svm m)) + k) (f k)) tx pl) H := hP
                have hD : va_D Ar (mW G A th (nI (svm m)) le dg f sl ik (upd (cp (if m = 6 then cp sv 0 sv 58 290 else sv) (58 * svm m) f 0 k) ((58 * (svm m)) + k) (f k)) tx pl) := hD
                refine lv_iinc (v := nI (k + 1)) (lv' := [(1, .int (nI (k + 1))), (0, .ref (A 0))]) hx hb dX7_save_77 hl (k := 1) rfl (iincN k) (by decide) rfl (fun ls hl => ?_)
                refine lv_goto (tgt := 51) hx hb dX7_save_80 (by decide) ?_
                exact ih (k + 1) (by omega) (by omega) _ _ (PP_as hP (by first | rw [cp_s0] | rw [cp_sb])) (D_as hD (by first | rw [cp_s0] | rw [cp_sb])) hS ls (lv_as (l1 := [(0, .ref (A 0)), (1, .int (nI (k + 1)))]) (lv_sub hl [1, 0] rfl) (by rfl))
          exact L51 59 0 (by omega) (by omega) _ _ (PP_as hP (by rw [cp_0, show k = 290 by omega]; simp [svm, qm])) (D_as hD (by rw [cp_0, show k = 290 by omega]; simp [svm, qm])) hS ls (lv_as (l1 := [(0, .ref (A 0)), (1, .int (nI 0))]) (lv_sub hl [1, 0] rfl) (by rfl))
        · have q1 : k < 290 := fl c_15 (by omega) (by omega)
          refine lv_aload_n hx hb dX7_save_18 rfl (lv_at hl 0 rfl) ?_
          refine va_get (D := G.1) (ws := mW G A th (nI m) le dg f sl ik (cp sv 0 sv 58 k) tx pl) (ci := 6) (v := .ref (A 4)) (C := RX7) (T := TX7) (N := 10) hx hb hts (fun _ h => List.mem_cons_of_mem _ (List.mem_append_right _ (h))) hown hK hP 0 rfl rfl 4 (by decide) (hts (.fieldLink RX7 20 "CreaseMapsModel" "saved" "[I") (List.mem_of_getElem? (i := 2) rfl)) (fun _ h9 => h9) rfl dX7_save_19 ?_
          refine lv_iload_n hx hb dX7_save_22 rfl (lv_at hl 1 rfl) ?_
          refine lv_aload_n hx hb dX7_save_23 rfl (lv_at hl 0 rfl) ?_
          refine va_get (D := G.1) (ws := mW G A th (nI m) le dg f sl ik (cp sv 0 sv 58 k) tx pl) (ci := 6) (v := .ref (A 4)) (C := RX7) (T := TX7) (N := 10) hx hb hts (fun _ h => List.mem_cons_of_mem _ (List.mem_append_right _ (h))) hown hK hP 0 rfl rfl 4 (by decide) (hts (.fieldLink RX7 20 "CreaseMapsModel" "saved" "[I") (List.mem_of_getElem? (i := 2) rfl)) (fun _ h9 => h9) rfl dX7_save_24 ?_
          refine lv_bipush (v := nI 58) hx hb dX7_save_27 (by decide) ?_
          refine lv_iload_n hx hb dX7_save_29 rfl (lv_at hl 1 rfl) ?_
          refine lv_iadd hx hb dX7_save_30 ?_
          refine lv_cgi (y := nI (58 + k)) (nI_add _ _) ?_
          refine va_iald (D := G.1) (ws := mW G A th (nI m) le dg f sl ik (cp sv 0 sv 58 k) tx pl) hx hb hK hP 4 0 (n := 348) rfl rfl (by first | assumption | exact vp_in_nI (by omega) (by omega)) dX7_save_31 ?_
          refine lv_cgi (y := (cp sv 0 sv 58 k) (58 + k)) (by rw [nI_clamp (by omega)]) ?_
          refine lv_cgi (y := sv (58 + k)) (cp_out (by omega)) ?_
          refine va_iast (D := G.1) (ws := mW G A th (nI m) le dg f sl ik (cp sv 0 sv 58 k) tx pl) hx hb hK hP hD hS 4 0 (n := 348) rfl rfl (by first | assumption | exact vp_in_nI (by omega) (by omega)) dX7_save_32 (fun H locs hP hD hS => ?_)
          rw [nI_clamp (by omega)] at hP hD
          have hP : PP G (mW G A th (nI m) le dg f sl ik (upd (cp sv 0 sv 58 k) k (sv (58 + k))) tx pl) H := hP
          have hD : va_D Ar (mW G A th (nI m) le dg f sl ik (upd (cp sv 0 sv 58 k) k (sv (58 + k))) tx pl) := hD
          refine lv_iinc (v := nI (k + 1)) (lv' := [(1, .int (nI (k + 1))), (0, .ref (A 0))]) hx hb dX7_save_33 hl (k := 1) rfl (iincN k) (by decide) rfl (fun ls hl => ?_)
          refine lv_goto (tgt := 11) hx hb dX7_save_36 (by decide) ?_
          exact ih (k + 1) (by omega) (by omega) _ _ (PP_as hP (by first | rw [cp_s0] | rw [cp_sb])) (D_as hD (by first | rw [cp_s0] | rw [cp_sb])) hS ls (lv_as (l1 := [(0, .ref (A 0)), (1, .int (nI (k + 1)))]) (lv_sub hl [1, 0] rfl) (by rfl))
    exact L11 291 0 (by omega) (by omega) _ _ (PP_as hP (by rw [cp_0])) (D_as hD (by rw [cp_0])) hS ls (lv_as (l1 := [(0, .ref (A 0)), (1, .int (nI 0))]) (lv_sub hl [1, 0] rfl) (by rfl))

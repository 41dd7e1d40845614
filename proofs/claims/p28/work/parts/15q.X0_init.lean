set_option maxHeartbeats 4000000 in
set_option maxRecDepth 100000 in
theorem c_X0_init (l : Launch) (G : GG) (sz : Nat) (h0 : Nat) : WRv l yX0_init wsX0_init 1 G [.ref h0] ([(h0, .inr (0, [.null, .null, .null, .int 0]))]) sz (S := Nat → Nat) (fun (u : Nat → Nat) => u 3 = h0) (fun u => anW G u (fun _ => 0) (fun _ => 0) (fun _ => 0) 0) 3 36 := by
  refine wr_of (l := l) (y := yX0_init) (w := wsX0_init) (d := 1) (G := G) (As := [.ref h0]) (sz := sz) (mc := 3) (ms := 36) (cc := cX0_init) (maxL := 1) (ret := none) (Qc := fun Ar => wQv G (S := Nat → Nat) (fun (u : Nat → Nat) => u 3 = h0) (fun u => anW G u (fun _ => 0) (fun _ => 0) (fun _ => 0) 0) Ar) (by decide) rfl (Nat.le_of_ble_eq_true rfl) ?_
  intro pG eG s mG below meth cG hsz hx hb hr hml hts hown hlocks hnm hP hK hN Ar hD hA hS ls hl
  have hown : s.vm.findClass RX0 = some mG.cls := hown
  have hin : meth.name = "<init>" := hnm
  have hP : PP G ([(h0, .inr (0, [.null, .null, .null, .int 0]))]) s.heap := hP
  have hD : va_D Ar ([(h0, .inr (0, [.null, .null, .null, .int 0]))]) := hD
  have hl : lv_has ls 1 [(0, .ref h0)] := hl
  refine lv_aload_n hx hb dX0_init_0 rfl (lv_at hl 0 rfl) ?_
  refine W.objInit hx hb hown (hts (.methodLink RX0 3 objectInit) (List.mem_of_getElem? (i := 1) rfl)) (hts (.instanceMethod objectInit) (List.mem_of_getElem? (i := 2) rfl)) (hts (.code objectInit ⟨#[0xb1]⟩ 1 none) (List.mem_of_getElem? (i := 3) rfl)) rfl (by rw [hml]; exact hl.1) rfl dX0_init_1 (Nat.le_of_ble_eq_true rfl) (Nat.le_of_ble_eq_true rfl) ?_
  refine W.eq (g2 := F0 mG 4 ls []) rfl ?_
  refine lv_aload_n hx hb dX0_init_4 rfl (lv_at hl 0 rfl) ?_
  refine lv_bipush (v := nI 12) hx hb dX0_init_5 (by decide) ?_
  refine va_newa (D := G.1) (ws := [(h0, .inr (0, [.null, .null, .null, .int 0]))]) (atype := .int) (ty := .int) (N' := 12) (a0 := (12, .inl (fun _ => 0))) hx hb (hts (.arrayClass .int) (List.mem_of_getElem? (i := 4) rfl)) rfl hK hP hD hS hA (fun _ => rfl) (by decide) (by decide) (Nat.le_of_ble_eq_true rfl) (Nat.le_of_ble_eq_true rfl) (Nat.le_of_ble_eq_true rfl) dX0_init_7 (fun q_1 cA H hK2 hP hD hS => ?_)
  obtain rfl : cA = G.2.1 := newa_id hK2 0 rfl
  have hP : PP G ([(h0, .inr (0, [.null, .null, .null, .int 0]))] ++ ([(q_1, .inl (G.2.1, 12, .inl (fun _ => 0)))])) _ := hP
  have hD : va_D Ar ([(h0, .inr (0, [.null, .null, .null, .int 0]))] ++ ([(q_1, .inl (G.2.1, 12, .inl (fun _ => 0)))])) := hD
  refine va_putF (D := G.1) (ws := [(h0, .inr (0, [.null, .null, .null, .int 0]))] ++ ([(q_1, .inl (G.2.1, 12, .inl (fun _ => 0)))])) (ci := 0) (v := .ref q_1) (ty := .array .int) (C := RX0) (T := TX0) (N := 4) hx hb hts (fun _ h => List.mem_cons_of_mem _ (List.mem_append_right _ (h))) tyX0 tyX0_ok nmX0 hown hK hP hD hS 0 rfl rfl 0 (by decide) (hts (.fieldLink RX0 9 "CreaseMaps$Answers" "lows" "[I") (List.mem_of_getElem? (i := 5) rfl)) (fun _ h9 => h9) rfl hin rfl (by decide +kernel) rfl rfl (Nat.le_of_ble_eq_true rfl) dX0_init_9 (fun H locs hP hD hS => ?_)
  have hP : PP G ([(h0, .inr (0, [.ref q_1, .null, .null, .int 0]))] ++ ([(q_1, .inl (G.2.1, 12, .inl (fun _ => 0)))])) _ := hP
  have hD : va_D Ar ([(h0, .inr (0, [.ref q_1, .null, .null, .int 0]))] ++ ([(q_1, .inl (G.2.1, 12, .inl (fun _ => 0)))])) := hD
  refine lv_aload_n hx hb dX0_init_12 rfl (lv_at hl 0 rfl) ?_
  refine lv_bipush (v := nI 12) hx hb dX0_init_13 (by decide) ?_
  refine va_newa (D := G.1) (ws := [(h0, .inr (0, [.ref q_1, .null, .null, .int 0]))] ++ ([(q_1, .inl (G.2.1, 12, .inl (fun _ => 0)))])) (atype := .int) (ty := .int) (N' := 12) (a0 := (12, .inl (fun _ => 0))) hx hb (hts (.arrayClass .int) (List.mem_of_getElem? (i := 4) rfl)) rfl hK hP hD hS hA (fun _ => rfl) (by decide) (by decide) (Nat.le_of_ble_eq_true rfl) (Nat.le_of_ble_eq_true rfl) (Nat.le_of_ble_eq_true rfl) dX0_init_15 (fun q_2 cA H hK2 hP hD hS => ?_)
  obtain rfl : cA = G.2.1 := newa_id hK2 0 rfl
  have hP : PP G ([(h0, .inr (0, [.ref q_1, .null, .null, .int 0]))] ++ ([(q_1, .inl (G.2.1, 12, .inl (fun _ => 0)))] ++ ([(q_2, .inl (G.2.1, 12, .inl (fun _ => 0)))]))) _ := hP
  have hD : va_D Ar ([(h0, .inr (0, [.ref q_1, .null, .null, .int 0]))] ++ ([(q_1, .inl (G.2.1, 12, .inl (fun _ => 0)))] ++ ([(q_2, .inl (G.2.1, 12, .inl (fun _ => 0)))]))) := hD
  refine va_putF (D := G.1) (ws := [(h0, .inr (0, [.ref q_1, .null, .null, .int 0]))] ++ ([(q_1, .inl (G.2.1, 12, .inl (fun _ => 0)))] ++ ([(q_2, .inl (G.2.1, 12, .inl (fun _ => 0)))]))) (ci := 0) (v := .ref q_2) (ty := .array .int) (C := RX0) (T := TX0) (N := 4) hx hb hts (fun _ h => List.mem_cons_of_mem _ (List.mem_append_right _ (h))) tyX0 tyX0_ok nmX0 hown hK hP hD hS 0 rfl rfl 1 (by decide) (hts (.fieldLink RX0 15 "CreaseMaps$Answers" "highs" "[I") (List.mem_of_getElem? (i := 6) rfl)) (fun _ h9 => h9) rfl hin rfl (by decide +kernel) rfl rfl (Nat.le_of_ble_eq_true rfl) dX0_init_17 (fun H locs hP hD hS => ?_)
  have hP : PP G ([(h0, .inr (0, [.ref q_1, .ref q_2, .null, .int 0]))] ++ ([(q_1, .inl (G.2.1, 12, .inl (fun _ => 0)))] ++ ([(q_2, .inl (G.2.1, 12, .inl (fun _ => 0)))]))) _ := hP
  have hD : va_D Ar ([(h0, .inr (0, [.ref q_1, .ref q_2, .null, .int 0]))] ++ ([(q_1, .inl (G.2.1, 12, .inl (fun _ => 0)))] ++ ([(q_2, .inl (G.2.1, 12, .inl (fun _ => 0)))]))) := hD
  refine lv_aload_n hx hb dX0_init_20 rfl (lv_at hl 0 rfl) ?_
  refine lv_bipush (v := nI 12) hx hb dX0_init_21 (by decide) ?_
  refine va_newa (D := G.1) (ws := [(h0, .inr (0, [.ref q_1, .ref q_2, .null, .int 0]))] ++ ([(q_1, .inl (G.2.1, 12, .inl (fun _ => 0)))] ++ ([(q_2, .inl (G.2.1, 12, .inl (fun _ => 0)))]))) (atype := .int) (ty := .int) (N' := 12) (a0 := (12, .inl (fun _ => 0))) hx hb (hts (.arrayClass .int) (List.mem_of_getElem? (i := 4) rfl)) rfl hK hP hD hS hA (fun _ => rfl) (by decide) (by decide) (Nat.le_of_ble_eq_true rfl) (Nat.le_of_ble_eq_true rfl) (Nat.le_of_ble_eq_true rfl) dX0_init_23 (fun q_3 cA H hK2 hP hD hS => ?_)
  obtain rfl : cA = G.2.1 := newa_id hK2 0 rfl
  have hP : PP G ([(h0, .inr (0, [.ref q_1, .ref q_2, .null, .int 0]))] ++ ([(q_1, .inl (G.2.1, 12, .inl (fun _ => 0)))] ++ ([(q_2, .inl (G.2.1, 12, .inl (fun _ => 0)))] ++ ([(q_3, .inl (G.2.1, 12, .inl (fun _ => 0)))])))) _ := hP
  have hD : va_D Ar ([(h0, .inr (0, [.ref q_1, .ref q_2, .null, .int 0]))] ++ ([(q_1, .inl (G.2.1, 12, .inl (fun _ => 0)))] ++ ([(q_2, .inl (G.2.1, 12, .inl (fun _ => 0)))] ++ ([(q_3, .inl (G.2.1, 12, .inl (fun _ => 0)))])))) := hD
  refine va_putF (D := G.1) (ws := [(h0, .inr (0, [.ref q_1, .ref q_2, .null, .int 0]))] ++ ([(q_1, .inl (G.2.1, 12, .inl (fun _ => 0)))] ++ ([(q_2, .inl (G.2.1, 12, .inl (fun _ => 0)))] ++ ([(q_3, .inl (G.2.1, 12, .inl (fun _ => 0)))])))) (ci := 0) (v := .ref q_3) (ty := .array .int) (C := RX0) (T := TX0) (N := 4) hx hb hts (fun _ h => List.mem_cons_of_mem _ (List.mem_append_right _ (h))) tyX0 tyX0_ok nmX0 hown hK hP hD hS 0 rfl rfl 2 (by decide) (hts (.fieldLink RX0 18 "CreaseMaps$Answers" "meetings" "[I") (List.mem_of_getElem? (i := 7) rfl)) (fun _ h9 => h9) rfl hin rfl (by decide +kernel) rfl rfl (Nat.le_of_ble_eq_true rfl) dX0_init_25 (fun H locs hP hD hS => ?_)
  have hP : PP G ([(h0, .inr (0, [.ref q_1, .ref q_2, .ref q_3, .int 0]))] ++ ([(q_1, .inl (G.2.1, 12, .inl (fun _ => 0)))] ++ ([(q_2, .inl (G.2.1, 12, .inl (fun _ => 0)))] ++ ([(q_3, .inl (G.2.1, 12, .inl (fun _ => 0)))])))) _ := hP
  have hD : va_D Ar ([(h0, .inr (0, [.ref q_1, .ref q_2, .ref q_3, .int 0]))] ++ ([(q_1, .inl (G.2.1, 12, .inl (fun _ => 0)))] ++ ([(q_2, .inl (G.2.1, 12, .inl (fun _ => 0)))] ++ ([(q_3, .inl (G.2.1, 12, .inl (fun _ => 0)))])))) := hD
  exact wr_vret (G := G) (S := Nat → Nat) (fun i => if i = 3 then h0 else if i = 4 then q_1 else if i = 5 then q_2 else q_3) hx hb hr hlocks hP hD hS (Nat.le_of_ble_eq_true rfl) (Nat.le_of_ble_eq_true rfl) (by rfl) dX0_init_28


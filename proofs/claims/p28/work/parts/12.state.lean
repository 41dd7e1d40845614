set_option maxHeartbeats 4000000 in
set_option maxRecDepth 100000 in
theorem c_X5_turn (l : Launch) (G : GG) (sz : Nat) (a : Nat → Nat) (fo tn : Int32) (w t lo hi me : Nat → Int32) (n qu gu ri re : Int32) (c : Nat) (hc : c < 9) : WRv l yX5_turn wsX5_turn 2 G [.ref (a 0), .int (nI c)] (stW G a fo tn w t lo hi me n qu gu ri re) sz (S := Unit) (fun _ => True) (fun _ => stW G a (fo ^^^ ms1 (nI c)) tn (upd w c (w c + nI 1)) t lo hi me (nI 0) qu gu ri re) 0 0 := by
  refine wr_of (cc := cX5_turn) (maxL := 2) (ret := none) (Qc := fun Ar => wQv G (S := Unit) (fun _ => True) (fun _ => stW G a (fo ^^^ ms1 (nI c)) tn (upd w c (w c + nI 1)) t lo hi me (nI 0) qu gu ri re) Ar) (by decide) rfl (Nat.le_of_ble_eq_true rfl) ?_
  intro pG eG s mG below meth cG hsz hx hb hr hml hts hown hlocks hnm hP hK hN Ar hD hA hS ls hl
  have hown : s.vm.findClass RX5 = some mG.cls := hown
  have hP : PP G (stW G a fo tn w t lo hi me n qu gu ri re) s.heap := hP
  have hD : va_D Ar (stW G a fo tn w t lo hi me n qu gu ri re) := hD
  have hl : lv_has ls 2 [(0, .ref (a 0)), (1, .int (nI c))] := hl
  refine lv_aload_n hx hb dX5_turn_0 rfl (lv_at hl 0 rfl) ?_
  refine lv_dup hx hb dX5_turn_1 rfl ?_
  refine va_get (D := G.1) (ws := stW G a fo tn w t lo hi me n qu gu ri re) (ci := 4) (v := .int fo) (C := RX5) (T := TX5) (N := 9) hx hb hts (fun _ h => List.mem_cons_of_mem _ (List.mem_append_left _ (List.mem_append_right _ (h)))) hown hK hP 0 rfl rfl 0 (by decide) (hts (.fieldLink RX5 25 "CreaseMaps$State" "folded" "I") (List.mem_of_getElem? (i := 1) rfl)) (fun _ h9 => h9) rfl dX5_turn_2 ?_
  refine lv_iconst (v := nI 1) hx hb dX5_turn_5 (by decide) ?_
  refine lv_iload_n hx hb dX5_turn_6 rfl (lv_at hl 1 rfl) ?_
  refine lv_ishl hx hb dX5_turn_7 ?_
  refine lv_ixor hx hb dX5_turn_8 ?_
  refine va_put (D := G.1) (ws := stW G a fo tn w t lo hi me n qu gu ri re) (ci := 4) (v := .int (fo ^^^ ((nI 1) <<< ((nI c) &&& 31)))) (ty := .int) (C := RX5) (T := TX5) (N := 9) hx hb hts (fun _ h => List.mem_cons_of_mem _ (List.mem_append_left _ (List.mem_append_right _ (h)))) tyX5 tyX5_ok nmX5 hown hK hP hD hS 0 rfl rfl 0 (by decide) (hts (.fieldLink RX5 25 "CreaseMaps$State" "folded" "I") (List.mem_of_getElem? (i := 1) rfl)) (fun _ h9 => h9) rfl (by decide +kernel) rfl rfl (Nat.le_of_ble_eq_true rfl) dX5_turn_9 (fun H locs hP hD hS => ?_)
  have hP : PP G (stW G a (fo ^^^ ((nI 1) <<< ((nI c) &&& 31))) tn w t lo hi me n qu gu ri re) H := hP
  have hD : va_D Ar (stW G a (fo ^^^ ((nI 1) <<< ((nI c) &&& 31))) tn w t lo hi me n qu gu ri re) := hD
  refine lv_aload_n hx hb dX5_turn_12 rfl (lv_at hl 0 rfl) ?_
  refine va_get (D := G.1) (ws := stW G a (fo ^^^ ((nI 1) <<< ((nI c) &&& 31))) tn w t lo hi me n qu gu ri re) (ci := 4) (v := .ref (a 1)) (C := RX5) (T := TX5) (N := 9) hx hb hts (fun _ h => List.mem_cons_of_mem _ (List.mem_append_left _ (List.mem_append_right _ (h)))) hown hK hP 0 rfl rfl 2 (by decide) (hts (.fieldLink RX5 9 "CreaseMaps$State" "wear" "[I") (List.mem_of_getElem? (i := 2) rfl)) (fun _ h9 => h9) rfl dX5_turn_13 ?_
  refine lv_iload_n hx hb dX5_turn_16 rfl (lv_at hl 1 rfl) ?_
  refine lv_dup2_11 hx hb dX5_turn_17 rfl rfl ?_
  refine va_iald (D := G.1) (ws := stW G a (fo ^^^ ((nI 1) <<< ((nI c) &&& 31))) tn w t lo hi me n qu gu ri re) hx hb hK hP 1 0 (n := 9) rfl rfl (by first | assumption | exact vp_in_nI (by omega) (by omega)) dX5_turn_18 ?_
  refine lv_cgi (y := w c) (by rw [nI_clamp (by omega)]) ?_
  refine lv_iconst (v := nI 1) hx hb dX5_turn_19 (by decide) ?_
  refine lv_iadd hx hb dX5_turn_20 ?_
  refine va_iast (D := G.1) (ws := stW G a (fo ^^^ ((nI 1) <<< ((nI c) &&& 31))) tn w t lo hi me n qu gu ri re) hx hb hK hP hD hS 1 0 (n := 9) rfl rfl (by first | assumption | exact vp_in_nI (by omega) (by omega)) dX5_turn_21 (fun H locs hP hD hS => ?_)
  rw [nI_clamp (by omega)] at hP hD
  have hP : PP G (stW G a (fo ^^^ ((nI 1) <<< ((nI c) &&& 31))) tn (upd w c ((w c) + (nI 1))) t lo hi me n qu gu ri re) H := hP
  have hD : va_D Ar (stW G a (fo ^^^ ((nI 1) <<< ((nI c) &&& 31))) tn (upd w c ((w c) + (nI 1))) t lo hi me n qu gu ri re) := hD
  refine lv_aload_n hx hb dX5_turn_22 rfl (lv_at hl 0 rfl) ?_
  refine va_get (D := G.1) (ws := stW G a (fo ^^^ ((nI 1) <<< ((nI c) &&& 31))) tn (upd w c ((w c) + (nI 1))) t lo hi me n qu gu ri re) (ci := 4) (v := .ref (a 3)) (C := RX5) (T := TX5) (N := 9) hx hb hts (fun _ h => List.mem_cons_of_mem _ (List.mem_append_left _ (List.mem_append_right _ (h)))) hown hK hP 0 rfl rfl 4 (by decide) (hts (.fieldLink RX5 21 "CreaseMaps$State" "answers" "LCreaseMaps$Answers;") (List.mem_of_getElem? (i := 3) rfl)) (fun _ h9 => h9) rfl dX5_turn_23 ?_
  refine wr_gov (pre := [(a 0, .inr (4, [.int (fo ^^^ ((nI 1) <<< ((nI c) &&& 31))), .int tn, .ref (a 1), .ref (a 2), .ref (a 3), .int qu, .int gu, .int ri, .int re]))] ++ ([(a 1, .inl (G.2.1, 9, .inl (upd w c ((w c) + (nI 1)))))] ++ ([(a 2, .inl (G.2.1, 6, .inl t))]))) (mid := anW G a lo hi me n) (suf := []) (va_runV (As := []) (rest := []) ⟨hx, hb, hml, hown, hts⟩ (c_X0_clear l G _ a lo hi me n) (cwV 0 hts gX5_turn_X0_clear rfl rfl rfl (by decide +kernel) ⟨Nat.le_of_ble_eq_true rfl, Nat.le_of_ble_eq_true rfl⟩) (wV (pre := [(a 0, .inr (4, [.int (fo ^^^ ((nI 1) <<< ((nI c) &&& 31))), .int tn, .ref (a 1), .ref (a 2), .ref (a 3), .int qu, .int gu, .int ri, .int re]))] ++ ([(a 1, .inl (G.2.1, 9, .inl (upd w c ((w c) + (nI 1)))))] ++ ([(a 2, .inl (G.2.1, 6, .inl t))]))) (mid := anW G a lo hi me n) (suf := []) (va_recv (ws := [(a 0, .inr (4, [.int (fo ^^^ ((nI 1) <<< ((nI c) &&& 31))), .int tn, .ref (a 1), .ref (a 2), .ref (a 3), .int qu, .int gu, .int ri, .int re]))] ++ ([(a 1, .inl (G.2.1, 9, .inl (upd w c ((w c) + (nI 1)))))] ++ ([(a 2, .inl (G.2.1, 6, .inl t))] ++ (anW G a lo hi me n)))) hK hP (ci := 0) (q0 := 3) rfl rfl) hK hN hP hD) rfl rfl hl.1 rfl (lv_room (Nat.le_of_ble_eq_true rfl)) dX5_turn_26 ⟨Nat.le_of_ble_eq_true rfl, Nat.le_of_ble_eq_true rfl⟩) hP hD hS hA (fun _ H locs hw hP hD hS => ?_)
  have hP : PP G ([(a 0, .inr (4, [.int (fo ^^^ ((nI 1) <<< ((nI c) &&& 31))), .int tn, .ref (a 1), .ref (a 2), .ref (a 3), .int qu, .int gu, .int ri, .int re]))] ++ ([(a 1, .inl (G.2.1, 9, .inl (upd w c ((w c) + (nI 1)))))] ++ ([(a 2, .inl (G.2.1, 6, .inl t))] ++ (anW G a lo hi me (nI 0))))) H := hP
  have hD : va_D Ar ([(a 0, .inr (4, [.int (fo ^^^ ((nI 1) <<< ((nI c) &&& 31))), .int tn, .ref (a 1), .ref (a 2), .ref (a 3), .int qu, .int gu, .int ri, .int re]))] ++ ([(a 1, .inl (G.2.1, 9, .inl (upd w c ((w c) + (nI 1)))))] ++ ([(a 2, .inl (G.2.1, 6, .inl t))] ++ (anW G a lo hi me (nI 0))))) := hD
  have hP : PP G (stW G a (fo ^^^ ((nI 1) <<< ((nI c) &&& 31))) tn (upd w c ((w c) + (nI 1))) t lo hi me (nI 0) qu gu ri re) H := hP
  have hD : va_D Ar (stW G a (fo ^^^ ((nI 1) <<< ((nI c) &&& 31))) tn (upd w c ((w c) + (nI 1))) t lo hi me (nI 0) qu gu ri re) := hD
  exact wr_vret (S := Unit) (out := fun _ => stW G a (fo ^^^ ms1 (nI c)) tn (upd w c (w c + nI 1)) t lo hi me (nI 0) qu gu ri re) () hx hb hr hlocks hP hD hS (Nat.le_of_ble_eq_true rfl) (Nat.le_of_ble_eq_true rfl) (by trivial) dX5_turn_29

set_option maxHeartbeats 4000000 in
set_option maxRecDepth 100000 in
theorem c_X5_tear (l : Launch) (G : GG) (sz : Nat) (a : Nat → Nat) (fo tn : Int32) (w t lo hi me : Nat → Int32) (n qu gu ri re : Int32) (z : Int32) : WRi l yX5_tear wsX5_tear 3 G [.ref (a 0), .int z] (stW G a fo tn w t lo hi me n qu gu ri re) sz (S := Unit) (fun r _ => r = bcn (teaS fo w z 9)) (fun _ => stW G a (fo &&& (teaS fo w z 9 ^^^ (-1))) (tn ||| teaS fo w z 9) w t lo hi me (if teaS fo w z 9 = 0 then n else nI 0) qu gu ri re) 0 0 := by
  refine wr_of (cc := cX5_tear) (maxL := 4) (ret := (some .int)) (Qc := fun Ar => wQi G (S := Unit) (fun r _ => r = bcn (teaS fo w z 9)) (fun _ => stW G a (fo &&& (teaS fo w z 9 ^^^ (-1))) (tn ||| teaS fo w z 9) w t lo hi me (if teaS fo w z 9 = 0 then n else nI 0) qu gu ri re) Ar) (by decide) rfl (Nat.le_of_ble_eq_true rfl) ?_
  intro pG eG s mG below meth cG hsz hx hb hr hml hts hown hlocks hnm hP hK hN Ar hD hA hS ls hl
  have hown : s.vm.findClass RX5 = some mG.cls := hown
  have hP : PP G (stW G a fo tn w t lo hi me n qu gu ri re) s.heap := hP
  have hD : va_D Ar (stW G a fo tn w t lo hi me n qu gu ri re) := hD
  have hl : lv_has ls 4 [(0, .ref (a 0)), (1, .int z)] := hl
  refine lv_iconst (v := nI 0) hx hb dX5_tear_0 (by decide) ?_
  refine lv_istore_n (lv' := [(2, .int (nI 0)), (0, .ref (a 0)), (1, .int z)]) hx hb dX5_tear_1 rfl hl (by decide) rfl (fun ls hl => ?_)
  refine lv_iconst (v := nI 0) hx hb dX5_tear_2 (by decide) ?_
  refine lv_istore_n (lv' := [(3, .int (nI 0)), (2, .int (nI 0)), (0, .ref (a 0)), (1, .int z)]) hx hb dX5_tear_3 rfl hl (by decide) rfl (fun ls hl => ?_)
  have L4 : ∀ (fu : Nat) (k : Nat) (hk : k ≤ 9), 9 + 1 ≤ k + fu → ∀ (H : Heap) (locs : List Loc), PP G (stW G a fo tn w t lo hi me n qu gu ri re) H → va_D Ar (stW G a fo tn w t lo hi me n qu gu ri re) → va_S Ar s.heap H locs → ∀ ls : Array Slot, lv_has ls 4 [(0, .ref (a 0)), (1, .int z), (2, .int (teaS fo w z k)), (3, .int (nI k))] → W pG l eG (RM 3 0 0) s mG ([.ref (a 0), .int z] : List Value).toArray below meth cG H locs 0 0 (MQ below (wQi G (S := Unit) (fun r _ => r = bcn (teaS fo w z 9)) (fun _ => stW G a (fo &&& (teaS fo w z 9 ^^^ (-1))) (tn ||| teaS fo w z 9) w t lo hi me (if teaS fo w z 9 = 0 then n else nI 0) qu gu ri re) Ar) ([.ref (a 0), .int z] : List Value).toArray s 0 0 Ar) (F0 mG 4 ls []) := by
    intro fu
    induction fu with
    | zero => intro k hk hfu; exact absurd hfu (by omega)
    | succ fu ih =>
      intro k hk hfu H locs hP hD hS ls hl
      refine lv_iload_n hx hb dX5_tear_4 rfl (lv_at hl 3 rfl) ?_
      refine lv_bipush (v := nI 9) hx hb dX5_tear_5 (by decide) ?_
      refine lv_icmp_ge (tgt := 43) hx hb dX5_tear_7 (by decide) (fun c_7 => ?_) (fun c_7 => ?_)
      · have q1 : 9 ≤ k := fe c_7 (by omega) (by omega)
        obtain rfl : k = 9 := by omega
        refine lv_aload_n hx hb dX5_tear_43 rfl (lv_at hl 0 rfl) ?_
        refine lv_dup hx hb dX5_tear_44 rfl ?_
        refine va_get (D := G.1) (ws := stW G a fo tn w t lo hi me n qu gu ri re) (ci := 4) (v := .int fo) (C := RX5) (T := TX5) (N := 9) hx hb hts (fun _ h => List.mem_cons_of_mem _ (List.mem_append_left _ (List.mem_append_right _ (h)))) hown hK hP 0 rfl rfl 0 (by decide) (hts (.fieldLink RX5 25 "CreaseMaps$State" "folded" "I") (List.mem_of_getElem? (i := 1) rfl)) (fun _ h9 => h9) rfl dX5_tear_45 ?_
        refine lv_iload_n hx hb dX5_tear_48 rfl (lv_at hl 2 rfl) ?_
        refine lv_iconst (v := (-1)) hx hb dX5_tear_49 (by decide) ?_
        refine lv_ixor hx hb dX5_tear_50 ?_
        refine lv_iand hx hb dX5_tear_51 ?_
        refine va_put (D := G.1) (ws := stW G a fo tn w t lo hi me n qu gu ri re) (ci := 4) (v := .int (fo &&& ((teaS fo w z 9) ^^^ (-1)))) (ty := .int) (C := RX5) (T := TX5) (N := 9) hx hb hts (fun _ h => List.mem_cons_of_mem _ (List.mem_append_left _ (List.mem_append_right _ (h)))) tyX5 tyX5_ok nmX5 hown hK hP hD hS 0 rfl rfl 0 (by decide) (hts (.fieldLink RX5 25 "CreaseMaps$State" "folded" "I") (List.mem_of_getElem? (i := 1) rfl)) (fun _ h9 => h9) rfl (by decide +kernel) rfl rfl (Nat.le_of_ble_eq_true rfl) dX5_tear_52 (fun H locs hP hD hS => ?_)
        have hP : PP G (stW G a (fo &&& ((teaS fo w z 9) ^^^ (-1))) tn w t lo hi me n qu gu ri re) H := hP
        have hD : va_D Ar (stW G a (fo &&& ((teaS fo w z 9) ^^^ (-1))) tn w t lo hi me n qu gu ri re) := hD
        refine lv_aload_n hx hb dX5_tear_55 rfl (lv_at hl 0 rfl) ?_
        refine lv_dup hx hb dX5_tear_56 rfl ?_
        refine va_get (D := G.1) (ws := stW G a (fo &&& ((teaS fo w z 9) ^^^ (-1))) tn w t lo hi me n qu gu ri re) (ci := 4) (v := .int tn) (C := RX5) (T := TX5) (N := 9) hx hb hts (fun _ h => List.mem_cons_of_mem _ (List.mem_append_left _ (List.mem_append_right _ (h)))) hown hK hP 0 rfl rfl 1 (by decide) (hts (.fieldLink RX5 36 "CreaseMaps$State" "torn" "I") (List.mem_of_getElem? (i := 3) rfl)) (fun _ h9 => h9) rfl dX5_tear_57 ?_
        refine lv_iload_n hx hb dX5_tear_60 rfl (lv_at hl 2 rfl) ?_
        refine lv_ior hx hb dX5_tear_61 ?_
        refine va_put (D := G.1) (ws := stW G a (fo &&& ((teaS fo w z 9) ^^^ (-1))) tn w t lo hi me n qu gu ri re) (ci := 4) (v := .int (tn ||| (teaS fo w z 9))) (ty := .int) (C := RX5) (T := TX5) (N := 9) hx hb hts (fun _ h => List.mem_cons_of_mem _ (List.mem_append_left _ (List.mem_append_right _ (h)))) tyX5 tyX5_ok nmX5 hown hK hP hD hS 0 rfl rfl 1 (by decide) (hts (.fieldLink RX5 36 "CreaseMaps$State" "torn" "I") (List.mem_of_getElem? (i := 3) rfl)) (fun _ h9 => h9) rfl (by decide +kernel) rfl rfl (Nat.le_of_ble_eq_true rfl) dX5_tear_62 (fun H locs hP hD hS => ?_)
        have hP : PP G (stW G a (fo &&& ((teaS fo w z 9) ^^^ (-1))) (tn ||| (teaS fo w z 9)) w t lo hi me n qu gu ri re) H := hP
        have hD : va_D Ar (stW G a (fo &&& ((teaS fo w z 9) ^^^ (-1))) (tn ||| (teaS fo w z 9)) w t lo hi me n qu gu ri re) := hD
        refine lv_iload_n hx hb dX5_tear_65 rfl (lv_at hl 2 rfl) ?_
        refine lv_if_eq (tgt := 76) hx hb dX5_tear_66 (by decide) (fun c_66 => ?_) (fun c_66 => ?_)
        · refine lv_iload_n hx hb dX5_tear_76 rfl (lv_at hl 2 rfl) ?_
          refine rd_go (va_runS (As := [.int (teaS fo w z 9)]) (rest := []) ⟨hx, hb, hml, hown, hts⟩ (c_J6_bitCount_0f7a4 l G (teaS fo w z 9)) (va_cwS 1 hts gX5_tear_J6_bitCount_0f7a4 rfl rfl rfl (by decide +kernel) ⟨Nat.le_of_ble_eq_true rfl, Nat.le_of_ble_eq_true rfl⟩) (rS (ws := []) hK hN P_nil) rfl rfl hl.1 rfl (lv_room (Nat.le_of_ble_eq_true rfl)) dX5_tear_77 ⟨Nat.le_of_ble_eq_true rfl, Nat.le_of_ble_eq_true rfl⟩) ?_
          exact wr_iret (S := Unit) (out := fun _ => stW G a (fo &&& (teaS fo w z 9 ^^^ (-1))) (tn ||| teaS fo w z 9) w t lo hi me (if teaS fo w z 9 = 0 then n else nI 0) qu gu ri re) () hx hb hr hlocks (PP_as hP (by first | (rw [if_pos c_66]; done) | (rw [if_neg c_66]; done))) (D_as hD (by first | (rw [if_pos c_66]; done) | (rw [if_neg c_66]; done))) hS (Nat.le_of_ble_eq_true rfl) (Nat.le_of_ble_eq_true rfl) (by rfl) dX5_tear_80
        · refine lv_aload_n hx hb dX5_tear_69 rfl (lv_at hl 0 rfl) ?_
          refine va_get (D := G.1) (ws := stW G a (fo &&& ((teaS fo w z 9) ^^^ (-1))) (tn ||| (teaS fo w z 9)) w t lo hi me n qu gu ri re) (ci := 4) (v := .ref (a 3)) (C := RX5) (T := TX5) (N := 9) hx hb hts (fun _ h => List.mem_cons_of_mem _ (List.mem_append_left _ (List.mem_append_right _ (h)))) hown hK hP 0 rfl rfl 4 (by decide) (hts (.fieldLink RX5 21 "CreaseMaps$State" "answers" "LCreaseMaps$Answers;") (List.mem_of_getElem? (i := 4) rfl)) (fun _ h9 => h9) rfl dX5_tear_70 ?_
          refine wr_gov (pre := [(a 0, .inr (4, [.int (fo &&& ((teaS fo w z 9) ^^^ (-1))), .int (tn ||| (teaS fo w z 9)), .ref (a 1), .ref (a 2), .ref (a 3), .int qu, .int gu, .int ri, .int re]))] ++ ([(a 1, .inl (G.2.1, 9, .inl w))] ++ ([(a 2, .inl (G.2.1, 6, .inl t))]))) (mid := anW G a lo hi me n) (suf := []) (va_runV (As := []) (rest := []) ⟨hx, hb, hml, hown, hts⟩ (c_X0_clear l G _ a lo hi me n) (cwV 0 hts gX5_tear_X0_clear rfl rfl rfl (by decide +kernel) ⟨Nat.le_of_ble_eq_true rfl, Nat.le_of_ble_eq_true rfl⟩) (wV (pre := [(a 0, .inr (4, [.int (fo &&& ((teaS fo w z 9) ^^^ (-1))), .int (tn ||| (teaS fo w z 9)), .ref (a 1), .ref (a 2), .ref (a 3), .int qu, .int gu, .int ri, .int re]))] ++ ([(a 1, .inl (G.2.1, 9, .inl w))] ++ ([(a 2, .inl (G.2.1, 6, .inl t))]))) (mid := anW G a lo hi me n) (suf := []) (va_recv (ws := [(a 0, .inr (4, [.int (fo &&& ((teaS fo w z 9) ^^^ (-1))), .int (tn ||| (teaS fo w z 9)), .ref (a 1), .ref (a 2), .ref (a 3), .int qu, .int gu, .int ri, .int re]))] ++ ([(a 1, .inl (G.2.1, 9, .inl w))] ++ ([(a 2, .inl (G.2.1, 6, .inl t))] ++ (anW G a lo hi me n)))) hK hP (ci := 0) (q0 := 3) rfl rfl) hK hN hP hD) rfl rfl hl.1 rfl (lv_room (Nat.le_of_ble_eq_true rfl)) dX5_tear_73 ⟨Nat.le_of_ble_eq_true rfl, Nat.le_of_ble_eq_true rfl⟩) hP hD hS hA (fun _ H locs hw hP hD hS => ?_)
          have hP : PP G ([(a 0, .inr (4, [.int (fo &&& ((teaS fo w z 9) ^^^ (-1))), .int (tn ||| (teaS fo w z 9)), .ref (a 1), .ref (a 2), .ref (a 3), .int qu, .int gu, .int ri, .int re]))] ++ ([(a 1, .inl (G.2.1, 9, .inl w))] ++ ([(a 2, .inl (G.2.1, 6, .inl t))] ++ (anW G a lo hi me (nI 0))))) H := hP
          have hD : va_D Ar ([(a 0, .inr (4, [.int (fo &&& ((teaS fo w z 9) ^^^ (-1))), .int (tn ||| (teaS fo w z 9)), .ref (a 1), .ref (a 2), .ref (a 3), .int qu, .int gu, .int ri, .int re]))] ++ ([(a 1, .inl (G.2.1, 9, .inl w))] ++ ([(a 2, .inl (G.2.1, 6, .inl t))] ++ (anW G a lo hi me (nI 0))))) := hD
          have hP : PP G (stW G a (fo &&& ((teaS fo w z 9) ^^^ (-1))) (tn ||| (teaS fo w z 9)) w t lo hi me (nI 0) qu gu ri re) H := hP
          have hD : va_D Ar (stW G a (fo &&& ((teaS fo w z 9) ^^^ (-1))) (tn ||| (teaS fo w z 9)) w t lo hi me (nI 0) qu gu ri re) := hD
          refine lv_iload_n hx hb dX5_tear_76 rfl (lv_at hl 2 rfl) ?_
          refine rd_go (va_runS (As := [.int (teaS fo w z 9)]) (rest := []) ⟨hx, hb, hml, hown, hts⟩ (c_J6_bitCount_0f7a4 l G (teaS fo w z 9)) (va_cwS 1 hts gX5_tear_J6_bitCount_0f7a4 rfl rfl rfl (by decide +kernel) ⟨Nat.le_of_ble_eq_true rfl, Nat.le_of_ble_eq_true rfl⟩) (rS (ws := []) hK hN P_nil) rfl rfl hl.1 rfl (lv_room (Nat.le_of_ble_eq_true rfl)) dX5_tear_77 ⟨Nat.le_of_ble_eq_true rfl, Nat.le_of_ble_eq_true rfl⟩) ?_
          exact wr_iret (S := Unit) (out := fun _ => stW G a (fo &&& (teaS fo w z 9 ^^^ (-1))) (tn ||| teaS fo w z 9) w t lo hi me (if teaS fo w z 9 = 0 then n else nI 0) qu gu ri re) () hx hb hr hlocks (PP_as hP (by first | (rw [if_pos c_66]; done) | (rw [if_neg c_66]; done))) (D_as hD (by first | (rw [if_pos c_66]; done) | (rw [if_neg c_66]; done))) hS (Nat.le_of_ble_eq_true rfl) (Nat.le_of_ble_eq_true rfl) (by rfl) dX5_tear_80
      · have q1 : k < 9 := fl c_7 (by omega) (by omega)
        refine lv_aload_n hx hb dX5_tear_10 rfl (lv_at hl 0 rfl) ?_
        refine va_get (D := G.1) (ws := stW G a fo tn w t lo hi me n qu gu ri re) (ci := 4) (v := .int fo) (C := RX5) (T := TX5) (N := 9) hx hb hts (fun _ h => List.mem_cons_of_mem _ (List.mem_append_left _ (List.mem_append_right _ (h)))) hown hK hP 0 rfl rfl 0 (by decide) (hts (.fieldLink RX5 25 "CreaseMaps$State" "folded" "I") (List.mem_of_getElem? (i := 1) rfl)) (fun _ h9 => h9) rfl dX5_tear_11 ?_
        refine lv_iload_n hx hb dX5_tear_14 rfl (lv_at hl 3 rfl) ?_
        refine rd_go (va_runSN (As := [.int fo, .int (nI k)]) (rest := []) ⟨hx, hb, hml, hown, hts⟩ (c_X6_has l G fo (nI k)) ⟨va_cnB 2 hts gX5_tear_X6_has_n32 rfl rfl rfl hN.2.2.2.2.1 (hts (.initialized RX6) (List.mem_of_getElem? (i := 6) rfl)) (by decide +kernel) ⟨Nat.le_of_ble_eq_true rfl, Nat.le_of_ble_eq_true rfl⟩, (hts (.static yX6_has) (List.mem_of_getElem? (i := 5) rfl)), trivial⟩ (rS (ws := []) hK hN P_nil) rfl rfl hl.1 rfl (lv_room (Nat.le_of_ble_eq_true rfl)) dX5_tear_15 ⟨Nat.le_of_ble_eq_true rfl, Nat.le_of_ble_eq_true rfl⟩) ?_
        refine lv_if_eq (tgt := 37) hx hb dX5_tear_18 (by decide) (fun c_18 => ?_) (fun c_18 => ?_)
        · have c_18 := b2_q c_18
          refine lv_iinc (v := nI (k + 1)) (lv' := [(3, .int (nI (k + 1))), (0, .ref (a 0)), (1, .int z), (2, .int (teaS fo w z k))]) hx hb dX5_tear_37 hl (k := 3) rfl (iincN k) (by decide) rfl (fun ls hl => ?_)
          refine lv_goto (tgt := 4) hx hb dX5_tear_40 (by decide) ?_
          exact ih (k + 1) (by omega) (by omega) _ _ hP hD hS ls (lv_as (l1 := [(0, .ref (a 0)), (1, .int z), (2, .int (teaS fo w z k)), (3, .int (nI (k + 1)))]) (lv_sub hl [1, 2, 3, 0] rfl) (by rw [teaS]; simp [c_7, c_18]))
        · have c_18 := b2_p c_18
          refine lv_aload_n hx hb dX5_tear_21 rfl (lv_at hl 0 rfl) ?_
          refine va_get (D := G.1) (ws := stW G a fo tn w t lo hi me n qu gu ri re) (ci := 4) (v := .ref (a 1)) (C := RX5) (T := TX5) (N := 9) hx hb hts (fun _ h => List.mem_cons_of_mem _ (List.mem_append_left _ (List.mem_append_right _ (h)))) hown hK hP 0 rfl rfl 2 (by decide) (hts (.fieldLink RX5 9 "CreaseMaps$State" "wear" "[I") (List.mem_of_getElem? (i := 2) rfl)) (fun _ h9 => h9) rfl dX5_tear_22 ?_
          refine lv_iload_n hx hb dX5_tear_25 rfl (lv_at hl 3 rfl) ?_
          refine va_iald (D := G.1) (ws := stW G a fo tn w t lo hi me n qu gu ri re) hx hb hK hP 1 0 (n := 9) rfl rfl (by first | assumption | exact vp_in_nI (by omega) (by omega)) dX5_tear_26 ?_
          refine lv_cgi (y := w k) (by rw [nI_clamp (by omega)]) ?_
          refine lv_iload_n hx hb dX5_tear_27 rfl (lv_at hl 1 rfl) ?_
          refine lv_icmp_lt (tgt := 37) hx hb dX5_tear_28 (by decide) (fun c_28 => ?_) (fun c_28 => ?_)
          · refine lv_iinc (v := nI (k + 1)) (lv' := [(3, .int (nI (k + 1))), (0, .ref (a 0)), (1, .int z), (2, .int (teaS fo w z k))]) hx hb dX5_tear_37 hl (k := 3) rfl (iincN k) (by decide) rfl (fun ls hl => ?_)
            refine lv_goto (tgt := 4) hx hb dX5_tear_40 (by decide) ?_
            exact ih (k + 1) (by omega) (by omega) _ _ hP hD hS ls (lv_as (l1 := [(0, .ref (a 0)), (1, .int z), (2, .int (teaS fo w z k)), (3, .int (nI (k + 1)))]) (lv_sub hl [1, 2, 3, 0] rfl) (by rw [teaS]; simp [c_7, c_18, c_28]))
          · refine lv_iload_n hx hb dX5_tear_31 rfl (lv_at hl 2 rfl) ?_
            refine lv_iconst (v := nI 1) hx hb dX5_tear_32 (by decide) ?_
            refine lv_iload_n hx hb dX5_tear_33 rfl (lv_at hl 3 rfl) ?_
            refine lv_ishl hx hb dX5_tear_34 ?_
            refine lv_ior hx hb dX5_tear_35 ?_
            refine lv_istore_n (lv' := [(2, .int ((teaS fo w z k) ||| ((nI 1) <<< ((nI k) &&& 31)))), (0, .ref (a 0)), (1, .int z), (3, .int (nI k))]) hx hb dX5_tear_36 rfl hl (by decide) rfl (fun ls hl => ?_)
            refine lv_iinc (v := nI (k + 1)) (lv' := [(3, .int (nI (k + 1))), (2, .int ((teaS fo w z k) ||| ((nI 1) <<< ((nI k) &&& 31)))), (0, .ref (a 0)), (1, .int z)]) hx hb dX5_tear_37 hl (k := 3) rfl (iincN k) (by decide) rfl (fun ls hl => ?_)
            refine lv_goto (tgt := 4) hx hb dX5_tear_40 (by decide) ?_
            exact ih (k + 1) (by omega) (by omega) _ _ hP hD hS ls (lv_as (l1 := [(0, .ref (a 0)), (1, .int z), (2, .int ((teaS fo w z k) ||| ((nI 1) <<< ((nI k) &&& 31)))), (3, .int (nI (k + 1)))]) (lv_sub hl [2, 3, 1, 0] rfl) (by rw [teaS]; simp [c_7, c_18, c_28]))
  exact L4 10 0 (by omega) (by omega) _ _ hP hD hS ls (lv_as (l1 := [(0, .ref (a 0)), (1, .int z), (2, .int (nI 0)), (3, .int (nI 0))]) (lv_sub hl [2, 3, 1, 0] rfl) (by rfl))

set_option maxHeartbeats 4000000 in
set_option maxRecDepth 100000 in
theorem c_X5_takeNewStrip (l : Launch) (G : GG) (sz : Nat) (a : Nat → Nat) (fo tn : Int32) (w t lo hi me : Nat → Int32) (n qu gu ri re : Int32) (x : Int32) : WRv l yX5_takeNewStrip wsX5_takeNewStrip 2 G [.ref (a 0), .int x] (stW G a fo tn w t lo hi me n qu gu ri re) sz (S := Unit) (fun _ => True) (fun _ => stW G a x (nI 0) (fun j => if j < 9 then nI 0 else w j) t lo hi me (nI 0) qu gu ri re) 0 0 := by
  refine wr_of (cc := cX5_takeNewStrip) (maxL := 3) (ret := none) (Qc := fun Ar => wQv G (S := Unit) (fun _ => True) (fun _ => stW G a x (nI 0) (fun j => if j < 9 then nI 0 else w j) t lo hi me (nI 0) qu gu ri re) Ar) (by decide) rfl (Nat.le_of_ble_eq_true rfl) ?_
  intro pG eG s mG below meth cG hsz hx hb hr hml hts hown hlocks hnm hP hK hN Ar hD hA hS ls hl
  have hown : s.vm.findClass RX5 = some mG.cls := hown
  have hP : PP G (stW G a fo tn w t lo hi me n qu gu ri re) s.heap := hP
  have hD : va_D Ar (stW G a fo tn w t lo hi me n qu gu ri re) := hD
  have hl : lv_has ls 3 [(0, .ref (a 0)), (1, .int x)] := hl
  refine lv_aload_n hx hb dX5_takeNewStrip_0 rfl (lv_at hl 0 rfl) ?_
  refine lv_iload_n hx hb dX5_takeNewStrip_1 rfl (lv_at hl 1 rfl) ?_
  refine va_put (D := G.1) (ws := stW G a fo tn w t lo hi me n qu gu ri re) (ci := 4) (v := .int x) (ty := .int) (C := RX5) (T := TX5) (N := 9) hx hb hts (fun _ h => List.mem_cons_of_mem _ (List.mem_append_left _ (List.mem_append_right _ (h)))) tyX5 tyX5_ok nmX5 hown hK hP hD hS 0 rfl rfl 0 (by decide) (hts (.fieldLink RX5 25 "CreaseMaps$State" "folded" "I") (List.mem_of_getElem? (i := 1) rfl)) (fun _ h9 => h9) rfl (by decide +kernel) rfl rfl (Nat.le_of_ble_eq_true rfl) dX5_takeNewStrip_2 (fun H locs hP hD hS => ?_)
  have hP : PP G (stW G a x tn w t lo hi me n qu gu ri re) H := hP
  have hD : va_D Ar (stW G a x tn w t lo hi me n qu gu ri re) := hD
  refine lv_aload_n hx hb dX5_takeNewStrip_5 rfl (lv_at hl 0 rfl) ?_
  refine lv_iconst (v := nI 0) hx hb dX5_takeNewStrip_6 (by decide) ?_
  refine va_put (D := G.1) (ws := stW G a x tn w t lo hi me n qu gu ri re) (ci := 4) (v := .int (nI 0)) (ty := .int) (C := RX5) (T := TX5) (N := 9) hx hb hts (fun _ h => List.mem_cons_of_mem _ (List.mem_append_left _ (List.mem_append_right _ (h)))) tyX5 tyX5_ok nmX5 hown hK hP hD hS 0 rfl rfl 1 (by decide) (hts (.fieldLink RX5 36 "CreaseMaps$State" "torn" "I") (List.mem_of_getElem? (i := 2) rfl)) (fun _ h9 => h9) rfl (by decide +kernel) rfl rfl (Nat.le_of_ble_eq_true rfl) dX5_takeNewStrip_7 (fun H locs hP hD hS => ?_)
  have hP : PP G (stW G a x (nI 0) w t lo hi me n qu gu ri re) H := hP
  have hD : va_D Ar (stW G a x (nI 0) w t lo hi me n qu gu ri re) := hD
  refine lv_iconst (v := nI 0) hx hb dX5_takeNewStrip_10 (by decide) ?_
  refine lv_istore_n (lv' := [(2, .int (nI 0)), (0, .ref (a 0)), (1, .int x)]) hx hb dX5_takeNewStrip_11 rfl hl (by decide) rfl (fun ls hl => ?_)
  have L12 : ∀ (fu : Nat) (k : Nat) (hk : k ≤ 9), 9 + 1 ≤ k + fu → ∀ (H : Heap) (locs : List Loc), PP G (stW G a x (nI 0) (fun j => if j < k then nI 0 else w j) t lo hi me n qu gu ri re) H → va_D Ar (stW G a x (nI 0) (fun j => if j < k then nI 0 else w j) t lo hi me n qu gu ri re) → va_S Ar s.heap H locs → ∀ ls : Array Slot, lv_has ls 3 [(0, .ref (a 0)), (1, .int x), (2, .int (nI k))] → W pG l eG (RM 2 0 0) s mG ([.ref (a 0), .int x] : List Value).toArray below meth cG H locs 0 0 (MQ below (wQv G (S := Unit) (fun _ => True) (fun _ => stW G a x (nI 0) (fun j => if j < 9 then nI 0 else w j) t lo hi me (nI 0) qu gu ri re) Ar) ([.ref (a 0), .int x] : List Value).toArray s 0 0 Ar) (F0 mG 12 ls []) := by
    intro fu
    induction fu with
    | zero => intro k hk hfu; exact absurd hfu (by omega)
    | succ fu ih =>
      intro k hk hfu H locs hP hD hS ls hl
      refine lv_iload_n hx hb dX5_takeNewStrip_12 rfl (lv_at hl 2 rfl) ?_
      refine lv_bipush (v := nI 9) hx hb dX5_takeNewStrip_13 (by decide) ?_
      refine lv_icmp_ge (tgt := 31) hx hb dX5_takeNewStrip_15 (by decide) (fun c_15 => ?_) (fun c_15 => ?_)
      · have q1 : 9 ≤ k := fe c_15 (by omega) (by omega)
        obtain rfl : k = 9 := by omega
        refine lv_aload_n hx hb dX5_takeNewStrip_31 rfl (lv_at hl 0 rfl) ?_
        refine va_get (D := G.1) (ws := stW G a x (nI 0) (fun j => if j < 9 then nI 0 else w j) t lo hi me n qu gu ri re) (ci := 4) (v := .ref (a 3)) (C := RX5) (T := TX5) (N := 9) hx hb hts (fun _ h => List.mem_cons_of_mem _ (List.mem_append_left _ (List.mem_append_right _ (h)))) hown hK hP 0 rfl rfl 4 (by decide) (hts (.fieldLink RX5 21 "CreaseMaps$State" "answers" "LCreaseMaps$Answers;") (List.mem_of_getElem? (i := 4) rfl)) (fun _ h9 => h9) rfl dX5_takeNewStrip_32 ?_
        refine wr_gov (pre := [(a 0, .inr (4, [.int x, .int (nI 0), .ref (a 1), .ref (a 2), .ref (a 3), .int qu, .int gu, .int ri, .int re]))] ++ ([(a 1, .inl (G.2.1, 9, .inl (fun j => if j < 9 then nI 0 else w j)))] ++ ([(a 2, .inl (G.2.1, 6, .inl t))]))) (mid := anW G a lo hi me n) (suf := []) (va_runV (As := []) (rest := []) ⟨hx, hb, hml, hown, hts⟩ (c_X0_clear l G _ a lo hi me n) (cwV 0 hts gX5_takeNewStrip_X0_clear rfl rfl rfl (by decide +kernel) ⟨Nat.le_of_ble_eq_true rfl, Nat.le_of_ble_eq_true rfl⟩) (wV (pre := [(a 0, .inr (4, [.int x, .int (nI 0), .ref (a 1), .ref (a 2), .ref (a 3), .int qu, .int gu, .int ri, .int re]))] ++ ([(a 1, .inl (G.2.1, 9, .inl (fun j => if j < 9 then nI 0 else w j)))] ++ ([(a 2, .inl (G.2.1, 6, .inl t))]))) (mid := anW G a lo hi me n) (suf := []) (va_recv (ws := [(a 0, .inr (4, [.int x, .int (nI 0), .ref (a 1), .ref (a 2), .ref (a 3), .int qu, .int gu, .int ri, .int re]))] ++ ([(a 1, .inl (G.2.1, 9, .inl (fun j => if j < 9 then nI 0 else w j)))] ++ ([(a 2, .inl (G.2.1, 6, .inl t))] ++ (anW G a lo hi me n)))) hK hP (ci := 0) (q0 := 3) rfl rfl) hK hN hP hD) rfl rfl hl.1 rfl (lv_room (Nat.le_of_ble_eq_true rfl)) dX5_takeNewStrip_35 ⟨Nat.le_of_ble_eq_true rfl, Nat.le_of_ble_eq_true rfl⟩) hP hD hS hA (fun _ H locs hw hP hD hS => ?_)
        have hP : PP G ([(a 0, .inr (4, [.int x, .int (nI 0), .ref (a 1), .ref (a 2), .ref (a 3), .int qu, .int gu, .int ri, .int re]))] ++ ([(a 1, .inl (G.2.1, 9, .inl (fun j => if j < 9 then nI 0 else w j)))] ++ ([(a 2, .inl (G.2.1, 6, .inl t))] ++ (anW G a lo hi me (nI 0))))) H := hP
        have hD : va_D Ar ([(a 0, .inr (4, [.int x, .int (nI 0), .ref (a 1), .ref (a 2), .ref (a 3), .int qu, .int gu, .int ri, .int re]))] ++ ([(a 1, .inl (G.2.1, 9, .inl (fun j => if j < 9 then nI 0 else w j)))] ++ ([(a 2, .inl (G.2.1, 6, .inl t))] ++ (anW G a lo hi me (nI 0))))) := hD
        have hP : PP G (stW G a x (nI 0) (fun j => if j < 9 then nI 0 else w j) t lo hi me (nI 0) qu gu ri re) H := hP
        have hD : va_D Ar (stW G a x (nI 0) (fun j => if j < 9 then nI 0 else w j) t lo hi me (nI 0) qu gu ri re) := hD
        exact wr_vret (S := Unit) (out := fun _ => stW G a x (nI 0) (fun j => if j < 9 then nI 0 else w j) t lo hi me (nI 0) qu gu ri re) () hx hb hr hlocks hP hD hS (Nat.le_of_ble_eq_true rfl) (Nat.le_of_ble_eq_true rfl) (by trivial) dX5_takeNewStrip_38
      · have q1 : k < 9 := fl c_15 (by omega) (by omega)
        refine lv_aload_n hx hb dX5_takeNewStrip_18 rfl (lv_at hl 0 rfl) ?_
        refine va_get (D := G.1) (ws := stW G a x (nI 0) (fun j => if j < k then nI 0 else w j) t lo hi me n qu gu ri re) (ci := 4) (v := .ref (a 1)) (C := RX5) (T := TX5) (N := 9) hx hb hts (fun _ h => List.mem_cons_of_mem _ (List.mem_append_left _ (List.mem_append_right _ (h)))) hown hK hP 0 rfl rfl 2 (by decide) (hts (.fieldLink RX5 9 "CreaseMaps$State" "wear" "[I") (List.mem_of_getElem? (i := 3) rfl)) (fun _ h9 => h9) rfl dX5_takeNewStrip_19 ?_
        refine lv_iload_n hx hb dX5_takeNewStrip_22 rfl (lv_at hl 2 rfl) ?_
        refine lv_iconst (v := nI 0) hx hb dX5_takeNewStrip_23 (by decide) ?_
        refine va_iast (D := G.1) (ws := stW G a x (nI 0) (fun j => if j < k then nI 0 else w j) t lo hi me n qu gu ri re) hx hb hK hP hD hS 1 0 (n := 9) rfl rfl (by first | assumption | exact vp_in_nI (by omega) (by omega)) dX5_takeNewStrip_24 (fun H locs hP hD hS => ?_)
        rw [nI_clamp (by omega)] at hP hD
        have hP : PP G (stW G a x (nI 0) (upd (fun j => if j < k then nI 0 else w j) k (nI 0)) t lo hi me n qu gu ri re) H := hP
        have hD : va_D Ar (stW G a x (nI 0) (upd (fun j => if j < k then nI 0 else w j) k (nI 0)) t lo hi me n qu gu ri re) := hD
        refine lv_iinc (v := nI (k + 1)) (lv' := [(2, .int (nI (k + 1))), (0, .ref (a 0)), (1, .int x)]) hx hb dX5_takeNewStrip_25 hl (k := 2) rfl (iincN k) (by decide) rfl (fun ls hl => ?_)
        refine lv_goto (tgt := 12) hx hb dX5_takeNewStrip_28 (by decide) ?_
        exact ih (k + 1) (by omega) (by omega) _ _ (PP_as hP (by rw [zB_s])) (D_as hD (by rw [zB_s])) hS ls (lv_as (l1 := [(0, .ref (a 0)), (1, .int x), (2, .int (nI (k + 1)))]) (lv_sub hl [1, 2, 0] rfl) (by rfl))
  exact L12 10 0 (by omega) (by omega) _ _ (PP_as hP (by simp)) (D_as hD (by simp)) hS ls (lv_as (l1 := [(0, .ref (a 0)), (1, .int x), (2, .int (nI 0))]) (lv_sub hl [1, 2, 0] rfl) (by rfl))

set_option maxHeartbeats 4000000 in
set_option maxRecDepth 100000 in
theorem c_X5_townsOn (l : Launch) (G : GG) (a : Nat → Nat) (fo tn : Int32) (w t lo hi me : Nat → Int32) (n qu gu ri re : Int32) (q : Int32) : RD l yX5_townsOn wsX5_townsOn 1 G [.ref (a 0), .int q] (stW G a fo tn w t lo hi me n qu gu ri re) (some (.int (tonS t q 6))) := by
  refine rd_of (cc := cX5_townsOn) (maxL := 4) (ret := (some .int)) (by decide) rfl (Nat.le_of_ble_eq_true rfl) ?_
  intro pG eG s mG below meth cG hx hb hr hml hts hown hlocks hP hK hN ls hl
  have hown : s.vm.findClass RX5 = some mG.cls := hown
  have hl : lv_has ls 4 [(0, .ref (a 0)), (1, .int q)] := hl
  refine lv_iconst (v := nI 0) hx hb dX5_townsOn_0 (by decide) ?_
  refine lv_istore_n (lv' := [(2, .int (nI 0)), (0, .ref (a 0)), (1, .int q)]) hx hb dX5_townsOn_1 rfl hl (by decide) rfl (fun ls hl => ?_)
  refine lv_iconst (v := nI 0) hx hb dX5_townsOn_2 (by decide) ?_
  refine lv_istore_n (lv' := [(3, .int (nI 0)), (2, .int (nI 0)), (0, .ref (a 0)), (1, .int q)]) hx hb dX5_townsOn_3 rfl hl (by decide) rfl (fun ls hl => ?_)
  have L4 : ∀ (fu : Nat) (k : Nat) (hk : k ≤ 6), 6 + 1 ≤ k + fu → ∀ ls : Array Slot, lv_has ls 4 [(0, .ref (a 0)), (1, .int q), (2, .int (tonS t q k)), (3, .int (nI k))] → W pG l eG (RM 1 0 0) s mG ([.ref (a 0), .int q] : List Value).toArray below meth cG s.heap [] 0 0 (MQ below (rQ (some (.int (tonS t q 6)))) ([.ref (a 0), .int q] : List Value).toArray s 0 0 (fun _ => False)) (F0 mG 4 ls []) := by
    intro fu
    induction fu with
    | zero => intro k hk hfu; exact absurd hfu (by omega)
    | succ fu ih =>
      intro k hk hfu ls hl
      refine lv_iload_n hx hb dX5_townsOn_4 rfl (lv_at hl 3 rfl) ?_
      refine lv_bipush (v := nI 6) hx hb dX5_townsOn_5 (by decide) ?_
      refine lv_icmp_ge (tgt := 32) hx hb dX5_townsOn_7 (by decide) (fun c_7 => ?_) (fun c_7 => ?_)
      · have q1 : 6 ≤ k := fe c_7 (by omega) (by omega)
        refine lv_iload_n hx hb dX5_townsOn_32 rfl (lv_at hl 2 rfl) ?_
        exact rd_iret hx hb hr hlocks (by rw [show k = 6 by omega]) dX5_townsOn_33
      · have q1 : k < 6 := fl c_7 (by omega) (by omega)
        refine lv_aload_n hx hb dX5_townsOn_10 rfl (lv_at hl 0 rfl) ?_
        refine va_get (D := G.1) (ws := stW G a fo tn w t lo hi me n qu gu ri re) (ci := 4) (v := .ref (a 2)) (C := RX5) (T := TX5) (N := 9) hx hb hts (fun _ h => List.mem_cons_of_mem _ (List.mem_append_right _ (h))) hown hK hP 0 rfl rfl 3 (by decide) (hts (.fieldLink RX5 15 "CreaseMaps$State" "towns" "[I") (List.mem_of_getElem? (i := 1) rfl)) (fun _ h9 => h9) rfl dX5_townsOn_11 ?_
        refine lv_iload_n hx hb dX5_townsOn_14 rfl (lv_at hl 3 rfl) ?_
        refine va_iald (D := G.1) (ws := stW G a fo tn w t lo hi me n qu gu ri re) hx hb hK hP 2 0 (n := 6) rfl rfl (by first | assumption | exact vp_in_nI (by omega) (by omega)) dX5_townsOn_15 ?_
        refine lv_cgi (y := t k) (by rw [nI_clamp (by omega)]) ?_
        refine lv_iload_n hx hb dX5_townsOn_16 rfl (lv_at hl 1 rfl) ?_
        refine lv_icmp_ne (tgt := 26) hx hb dX5_townsOn_17 (by decide) (fun c_17 => ?_) (fun c_17 => ?_)
        · refine lv_iinc (v := nI (k + 1)) (lv' := [(3, .int (nI (k + 1))), (0, .ref (a 0)), (1, .int q), (2, .int (tonS t q k))]) hx hb dX5_townsOn_26 hl (k := 3) rfl (iincN k) (by decide) rfl (fun ls hl => ?_)
          refine lv_goto (tgt := 4) hx hb dX5_townsOn_29 (by decide) ?_
          exact ih (k + 1) (by omega) (by omega) ls (lv_as (l1 := [(0, .ref (a 0)), (1, .int q), (2, .int (tonS t q k)), (3, .int (nI (k + 1)))]) (lv_sub hl [1, 2, 3, 0] rfl) (by rw [tonS]; simp [c_7, c_17]))
        · refine lv_iload_n hx hb dX5_townsOn_20 rfl (lv_at hl 2 rfl) ?_
          refine lv_iconst (v := nI 1) hx hb dX5_townsOn_21 (by decide) ?_
          refine lv_iload_n hx hb dX5_townsOn_22 rfl (lv_at hl 3 rfl) ?_
          refine lv_ishl hx hb dX5_townsOn_23 ?_
          refine lv_ior hx hb dX5_townsOn_24 ?_
          refine lv_istore_n (lv' := [(2, .int ((tonS t q k) ||| ((nI 1) <<< ((nI k) &&& 31)))), (0, .ref (a 0)), (1, .int q), (3, .int (nI k))]) hx hb dX5_townsOn_25 rfl hl (by decide) rfl (fun ls hl => ?_)
          refine lv_iinc (v := nI (k + 1)) (lv' := [(3, .int (nI (k + 1))), (2, .int ((tonS t q k) ||| ((nI 1) <<< ((nI k) &&& 31)))), (0, .ref (a 0)), (1, .int q)]) hx hb dX5_townsOn_26 hl (k := 3) rfl (iincN k) (by decide) rfl (fun ls hl => ?_)
          refine lv_goto (tgt := 4) hx hb dX5_townsOn_29 (by decide) ?_
          exact ih (k + 1) (by omega) (by omega) ls (lv_as (l1 := [(0, .ref (a 0)), (1, .int q), (2, .int ((tonS t q k) ||| ((nI 1) <<< ((nI k) &&& 31)))), (3, .int (nI (k + 1)))]) (lv_sub hl [2, 3, 1, 0] rfl) (by rw [tonS]; simp [c_7, c_17]))
  exact L4 7 0 (by omega) (by omega) ls (lv_as (l1 := [(0, .ref (a 0)), (1, .int q), (2, .int (nI 0)), (3, .int (nI 0))]) (lv_sub hl [2, 3, 1, 0] rfl) (by rfl))

set_option maxHeartbeats 4000000 in
set_option maxRecDepth 100000 in
theorem c_X5_copyFrom (l : Launch) (G : GG) (sz : Nat) (a : Nat → Nat) (fo tn : Int32) (w t lo hi me : Nat → Int32) (n qu gu ri re : Int32) (a2 : Nat → Nat) (fo2 tn2 : Int32) (w2 t2 lo2 hi2 me2 : Nat → Int32) (n2 qu2 gu2 ri2 re2 : Int32) : WRv l yX5_copyFrom wsX5_copyFrom 2 G [.ref (a 0), .ref (a2 0)] (stW G a fo tn w t lo hi me n qu gu ri re ++ (stW G a2 fo2 tn2 w2 t2 lo2 hi2 me2 n2 qu2 gu2 ri2 re2)) sz (S := Unit) (fun _ => True) (fun _ => stW G a fo2 tn2 w2 t2 lo2 hi2 me2 n2 qu2 gu2 ri2 re2 ++ (stW G a2 fo2 tn2 w2 t2 lo2 hi2 me2 n2 qu2 gu2 ri2 re2)) 0 0 := by
  refine wr_of (cc := cX5_copyFrom) (maxL := 2) (ret := none) (Qc := fun Ar => wQv G (S := Unit) (fun _ => True) (fun _ => stW G a fo2 tn2 w2 t2 lo2 hi2 me2 n2 qu2 gu2 ri2 re2 ++ (stW G a2 fo2 tn2 w2 t2 lo2 hi2 me2 n2 qu2 gu2 ri2 re2)) Ar) (by decide) rfl (Nat.le_of_ble_eq_true rfl) ?_
  intro pG eG s mG below meth cG hsz hx hb hr hml hts hown hlocks hnm hP hK hN Ar hD hA hS ls hl
  have hown : s.vm.findClass RX5 = some mG.cls := hown
  have hP : PP G (stW G a fo tn w t lo hi me n qu gu ri re ++ (stW G a2 fo2 tn2 w2 t2 lo2 hi2 me2 n2 qu2 gu2 ri2 re2)) s.heap := hP
  have hD : va_D Ar (stW G a fo tn w t lo hi me n qu gu ri re ++ (stW G a2 fo2 tn2 w2 t2 lo2 hi2 me2 n2 qu2 gu2 ri2 re2)) := hD
  have hl : lv_has ls 2 [(0, .ref (a 0)), (1, .ref (a2 0))] := hl
  refine lv_aload_n hx hb dX5_copyFrom_0 rfl (lv_at hl 0 rfl) ?_
  refine lv_aload_n hx hb dX5_copyFrom_1 rfl (lv_at hl 1 rfl) ?_
  refine va_get (D := G.1) (ws := stW G a fo tn w t lo hi me n qu gu ri re ++ (stW G a2 fo2 tn2 w2 t2 lo2 hi2 me2 n2 qu2 gu2 ri2 re2)) (ci := 4) (v := .int fo2) (C := RX5) (T := TX5) (N := 9) hx hb hts (fun _ h => List.mem_cons_of_mem _ (List.mem_append_left _ (List.mem_append_right _ (h)))) hown hK hP 7 rfl rfl 0 (by decide) (hts (.fieldLink RX5 25 "CreaseMaps$State" "folded" "I") (List.mem_of_getElem? (i := 1) rfl)) (fun _ h9 => h9) rfl dX5_copyFrom_2 ?_
  refine va_put (D := G.1) (ws := stW G a fo tn w t lo hi me n qu gu ri re ++ (stW G a2 fo2 tn2 w2 t2 lo2 hi2 me2 n2 qu2 gu2 ri2 re2)) (ci := 4) (v := .int fo2) (ty := .int) (C := RX5) (T := TX5) (N := 9) hx hb hts (fun _ h => List.mem_cons_of_mem _ (List.mem_append_left _ (List.mem_append_right _ (h)))) tyX5 tyX5_ok nmX5 hown hK hP hD hS 0 rfl rfl 0 (by decide) (hts (.fieldLink RX5 25 "CreaseMaps$State" "folded" "I") (List.mem_of_getElem? (i := 1) rfl)) (fun _ h9 => h9) rfl (by decide +kernel) rfl rfl (Nat.le_of_ble_eq_true rfl) dX5_copyFrom_5 (fun H locs hP hD hS => ?_)
  have hP : PP G (stW G a fo2 tn w t lo hi me n qu gu ri re ++ (stW G a2 fo2 tn2 w2 t2 lo2 hi2 me2 n2 qu2 gu2 ri2 re2)) H := hP
  have hD : va_D Ar (stW G a fo2 tn w t lo hi me n qu gu ri re ++ (stW G a2 fo2 tn2 w2 t2 lo2 hi2 me2 n2 qu2 gu2 ri2 re2)) := hD
  refine lv_aload_n hx hb dX5_copyFrom_8 rfl (lv_at hl 0 rfl) ?_
  refine lv_aload_n hx hb dX5_copyFrom_9 rfl (lv_at hl 1 rfl) ?_
  refine va_get (D := G.1) (ws := stW G a fo2 tn w t lo hi me n qu gu ri re ++ (stW G a2 fo2 tn2 w2 t2 lo2 hi2 me2 n2 qu2 gu2 ri2 re2)) (ci := 4) (v := .int tn2) (C := RX5) (T := TX5) (N := 9) hx hb hts (fun _ h => List.mem_cons_of_mem _ (List.mem_append_left _ (List.mem_append_right _ (h)))) hown hK hP 7 rfl rfl 1 (by decide) (hts (.fieldLink RX5 36 "CreaseMaps$State" "torn" "I") (List.mem_of_getElem? (i := 2) rfl)) (fun _ h9 => h9) rfl dX5_copyFrom_10 ?_
  refine va_put (D := G.1) (ws := stW G a fo2 tn w t lo hi me n qu gu ri re ++ (stW G a2 fo2 tn2 w2 t2 lo2 hi2 me2 n2 qu2 gu2 ri2 re2)) (ci := 4) (v := .int tn2) (ty := .int) (C := RX5) (T := TX5) (N := 9) hx hb hts (fun _ h => List.mem_cons_of_mem _ (List.mem_append_left _ (List.mem_append_right _ (h)))) tyX5 tyX5_ok nmX5 hown hK hP hD hS 0 rfl rfl 1 (by decide) (hts (.fieldLink RX5 36 "CreaseMaps$State" "torn" "I") (List.mem_of_getElem? (i := 2) rfl)) (fun _ h9 => h9) rfl (by decide +kernel) rfl rfl (Nat.le_of_ble_eq_true rfl) dX5_copyFrom_13 (fun H locs hP hD hS => ?_)
  have hP : PP G (stW G a fo2 tn2 w t lo hi me n qu gu ri re ++ (stW G a2 fo2 tn2 w2 t2 lo2 hi2 me2 n2 qu2 gu2 ri2 re2)) H := hP
  have hD : va_D Ar (stW G a fo2 tn2 w t lo hi me n qu gu ri re ++ (stW G a2 fo2 tn2 w2 t2 lo2 hi2 me2 n2 qu2 gu2 ri2 re2)) := hD
  refine lv_aload_n hx hb dX5_copyFrom_16 rfl (lv_at hl 1 rfl) ?_
  refine va_get (D := G.1) (ws := stW G a fo2 tn2 w t lo hi me n qu gu ri re ++ (stW G a2 fo2 tn2 w2 t2 lo2 hi2 me2 n2 qu2 gu2 ri2 re2)) (ci := 4) (v := .ref (a2 1)) (C := RX5) (T := TX5) (N := 9) hx hb hts (fun _ h => List.mem_cons_of_mem _ (List.mem_append_left _ (List.mem_append_right _ (h)))) hown hK hP 7 rfl rfl 2 (by decide) (hts (.fieldLink RX5 9 "CreaseMaps$State" "wear" "[I") (List.mem_of_getElem? (i := 3) rfl)) (fun _ h9 => h9) rfl dX5_copyFrom_17 ?_
  refine lv_iconst (v := nI 0) hx hb dX5_copyFrom_20 (by decide) ?_
  refine lv_aload_n hx hb dX5_copyFrom_21 rfl (lv_at hl 0 rfl) ?_
  refine va_get (D := G.1) (ws := stW G a fo2 tn2 w t lo hi me n qu gu ri re ++ (stW G a2 fo2 tn2 w2 t2 lo2 hi2 me2 n2 qu2 gu2 ri2 re2)) (ci := 4) (v := .ref (a 1)) (C := RX5) (T := TX5) (N := 9) hx hb hts (fun _ h => List.mem_cons_of_mem _ (List.mem_append_left _ (List.mem_append_right _ (h)))) hown hK hP 0 rfl rfl 2 (by decide) (hts (.fieldLink RX5 9 "CreaseMaps$State" "wear" "[I") (List.mem_of_getElem? (i := 3) rfl)) (fun _ h9 => h9) rfl dX5_copyFrom_22 ?_
  refine lv_iconst (v := nI 0) hx hb dX5_copyFrom_25 (by decide) ?_
  refine lv_bipush (v := nI 9) hx hb dX5_copyFrom_26 (by decide) ?_
  refine va_copyi (D := G.1) (ws := stW G a fo2 tn2 w t lo hi me n qu gu ri re ++ (stW G a2 fo2 tn2 w2 t2 lo2 hi2 me2 n2 qu2 gu2 ri2 re2)) hx hb (hml.trans hl.1.symm) hown (hts (.methodLink RX5 45 arraycopyName) (List.mem_of_getElem? (i := 4) rfl)) (hts (.native arraycopyName) (List.mem_of_getElem? (i := 5) rfl)) (hts (.static arraycopyName) (List.mem_of_getElem? (i := 6) rfl)) (hts (.initialized "java/lang/System") (List.mem_of_getElem? (i := 7) rfl)) hK hP hD hS 8 1 0 0 (n0 := 9) (n1 := 9) rfl rfl rfl rfl rfl (by decide) (by decide) (by decide) (by decide) (by decide) (fun _ _ => rfl) (Nat.le_of_ble_eq_true rfl) (by decide) dX5_copyFrom_28 (fun H locs hP hD hS => ?_)
  replace hP := P_cong (g := w2) hP 1 (a := a 1) (cA := G.2.1) (n := 9) rfl (fun j hj => cpy_eq hj (by decide))
  replace hD := D_cong (g := w2) hD 1 (a := a 1) (cA := G.2.1) (n := 9) rfl
  have hP : PP G (stW G a fo2 tn2 w2 t lo hi me n qu gu ri re ++ (stW G a2 fo2 tn2 w2 t2 lo2 hi2 me2 n2 qu2 gu2 ri2 re2)) H := hP
  have hD : va_D Ar (stW G a fo2 tn2 w2 t lo hi me n qu gu ri re ++ (stW G a2 fo2 tn2 w2 t2 lo2 hi2 me2 n2 qu2 gu2 ri2 re2)) := hD
  refine lv_aload_n hx hb dX5_copyFrom_31 rfl (lv_at hl 1 rfl) ?_
  refine va_get (D := G.1) (ws := stW G a fo2 tn2 w2 t lo hi me n qu gu ri re ++ (stW G a2 fo2 tn2 w2 t2 lo2 hi2 me2 n2 qu2 gu2 ri2 re2)) (ci := 4) (v := .ref (a2 2)) (C := RX5) (T := TX5) (N := 9) hx hb hts (fun _ h => List.mem_cons_of_mem _ (List.mem_append_left _ (List.mem_append_right _ (h)))) hown hK hP 7 rfl rfl 3 (by decide) (hts (.fieldLink RX5 15 "CreaseMaps$State" "towns" "[I") (List.mem_of_getElem? (i := 8) rfl)) (fun _ h9 => h9) rfl dX5_copyFrom_32 ?_
  refine lv_iconst (v := nI 0) hx hb dX5_copyFrom_35 (by decide) ?_
  refine lv_aload_n hx hb dX5_copyFrom_36 rfl (lv_at hl 0 rfl) ?_
  refine va_get (D := G.1) (ws := stW G a fo2 tn2 w2 t lo hi me n qu gu ri re ++ (stW G a2 fo2 tn2 w2 t2 lo2 hi2 me2 n2 qu2 gu2 ri2 re2)) (ci := 4) (v := .ref (a 2)) (C := RX5) (T := TX5) (N := 9) hx hb hts (fun _ h => List.mem_cons_of_mem _ (List.mem_append_left _ (List.mem_append_right _ (h)))) hown hK hP 0 rfl rfl 3 (by decide) (hts (.fieldLink RX5 15 "CreaseMaps$State" "towns" "[I") (List.mem_of_getElem? (i := 8) rfl)) (fun _ h9 => h9) rfl dX5_copyFrom_37 ?_
  refine lv_iconst (v := nI 0) hx hb dX5_copyFrom_40 (by decide) ?_
  refine lv_bipush (v := nI 6) hx hb dX5_copyFrom_41 (by decide) ?_
  refine va_copyi (D := G.1) (ws := stW G a fo2 tn2 w2 t lo hi me n qu gu ri re ++ (stW G a2 fo2 tn2 w2 t2 lo2 hi2 me2 n2 qu2 gu2 ri2 re2)) hx hb (hml.trans hl.1.symm) hown (hts (.methodLink RX5 45 arraycopyName) (List.mem_of_getElem? (i := 4) rfl)) (hts (.native arraycopyName) (List.mem_of_getElem? (i := 5) rfl)) (hts (.static arraycopyName) (List.mem_of_getElem? (i := 6) rfl)) (hts (.initialized "java/lang/System") (List.mem_of_getElem? (i := 7) rfl)) hK hP hD hS 9 2 0 0 (n0 := 6) (n1 := 6) rfl rfl rfl rfl rfl (by decide) (by decide) (by decide) (by decide) (by decide) (fun _ _ => rfl) (Nat.le_of_ble_eq_true rfl) (by decide) dX5_copyFrom_43 (fun H locs hP hD hS => ?_)
  replace hP := P_cong (g := t2) hP 2 (a := a 2) (cA := G.2.1) (n := 6) rfl (fun j hj => cpy_eq hj (by decide))
  replace hD := D_cong (g := t2) hD 2 (a := a 2) (cA := G.2.1) (n := 6) rfl
  have hP : PP G (stW G a fo2 tn2 w2 t2 lo hi me n qu gu ri re ++ (stW G a2 fo2 tn2 w2 t2 lo2 hi2 me2 n2 qu2 gu2 ri2 re2)) H := hP
  have hD : va_D Ar (stW G a fo2 tn2 w2 t2 lo hi me n qu gu ri re ++ (stW G a2 fo2 tn2 w2 t2 lo2 hi2 me2 n2 qu2 gu2 ri2 re2)) := hD
  refine lv_aload_n hx hb dX5_copyFrom_46 rfl (lv_at hl 0 rfl) ?_
  refine va_get (D := G.1) (ws := stW G a fo2 tn2 w2 t2 lo hi me n qu gu ri re ++ (stW G a2 fo2 tn2 w2 t2 lo2 hi2 me2 n2 qu2 gu2 ri2 re2)) (ci := 4) (v := .ref (a 3)) (C := RX5) (T := TX5) (N := 9) hx hb hts (fun _ h => List.mem_cons_of_mem _ (List.mem_append_left _ (List.mem_append_right _ (h)))) hown hK hP 0 rfl rfl 4 (by decide) (hts (.fieldLink RX5 21 "CreaseMaps$State" "answers" "LCreaseMaps$Answers;") (List.mem_of_getElem? (i := 9) rfl)) (fun _ h9 => h9) rfl dX5_copyFrom_47 ?_
  refine lv_aload_n hx hb dX5_copyFrom_50 rfl (lv_at hl 1 rfl) ?_
  refine va_get (D := G.1) (ws := stW G a fo2 tn2 w2 t2 lo hi me n qu gu ri re ++ (stW G a2 fo2 tn2 w2 t2 lo2 hi2 me2 n2 qu2 gu2 ri2 re2)) (ci := 4) (v := .ref (a2 3)) (C := RX5) (T := TX5) (N := 9) hx hb hts (fun _ h => List.mem_cons_of_mem _ (List.mem_append_left _ (List.mem_append_right _ (h)))) hown hK hP 7 rfl rfl 4 (by decide) (hts (.fieldLink RX5 21 "CreaseMaps$State" "answers" "LCreaseMaps$Answers;") (List.mem_of_getElem? (i := 9) rfl)) (fun _ h9 => h9) rfl dX5_copyFrom_51 ?_
  replace hP := P_perm (G := G) hP (perm7 ([(a 0, .inr (4, [.int fo2, .int tn2, .ref (a 1), .ref (a 2), .ref (a 3), .int qu, .int gu, .int ri, .int re]))] ++ ([(a 1, .inl (G.2.1, 9, .inl w2))] ++ ([(a 2, .inl (G.2.1, 6, .inl t2))]))) (anW G a lo hi me n) ([(a2 0, .inr (4, [.int fo2, .int tn2, .ref (a2 1), .ref (a2 2), .ref (a2 3), .int qu2, .int gu2, .int ri2, .int re2]))] ++ ([(a2 1, .inl (G.2.1, 9, .inl w2))] ++ ([(a2 2, .inl (G.2.1, 6, .inl t2))]))) (anW G a2 lo2 hi2 me2 n2))
  replace hD := D_perm hD (perm7 ([(a 0, .inr (4, [.int fo2, .int tn2, .ref (a 1), .ref (a 2), .ref (a 3), .int qu, .int gu, .int ri, .int re]))] ++ ([(a 1, .inl (G.2.1, 9, .inl w2))] ++ ([(a 2, .inl (G.2.1, 6, .inl t2))]))) (anW G a lo hi me n) ([(a2 0, .inr (4, [.int fo2, .int tn2, .ref (a2 1), .ref (a2 2), .ref (a2 3), .int qu2, .int gu2, .int ri2, .int re2]))] ++ ([(a2 1, .inl (G.2.1, 9, .inl w2))] ++ ([(a2 2, .inl (G.2.1, 6, .inl t2))]))) (anW G a2 lo2 hi2 me2 n2))
  have hP : PP G ([(a 0, .inr (4, [.int fo2, .int tn2, .ref (a 1), .ref (a 2), .ref (a 3), .int qu, .int gu, .int ri, .int re]))] ++ ([(a 1, .inl (G.2.1, 9, .inl w2))] ++ ([(a 2, .inl (G.2.1, 6, .inl t2))] ++ ([(a2 0, .inr (4, [.int fo2, .int tn2, .ref (a2 1), .ref (a2 2), .ref (a2 3), .int qu2, .int gu2, .int ri2, .int re2]))] ++ ([(a2 1, .inl (G.2.1, 9, .inl w2))] ++ ([(a2 2, .inl (G.2.1, 6, .inl t2))] ++ (anW G a lo hi me n ++ (anW G a2 lo2 hi2 me2 n2)))))))) H := hP
  have hD : va_D Ar ([(a 0, .inr (4, [.int fo2, .int tn2, .ref (a 1), .ref (a 2), .ref (a 3), .int qu, .int gu, .int ri, .int re]))] ++ ([(a 1, .inl (G.2.1, 9, .inl w2))] ++ ([(a 2, .inl (G.2.1, 6, .inl t2))] ++ ([(a2 0, .inr (4, [.int fo2, .int tn2, .ref (a2 1), .ref (a2 2), .ref (a2 3), .int qu2, .int gu2, .int ri2, .int re2]))] ++ ([(a2 1, .inl (G.2.1, 9, .inl w2))] ++ ([(a2 2, .inl (G.2.1, 6, .inl t2))] ++ (anW G a lo hi me n ++ (anW G a2 lo2 hi2 me2 n2)))))))) := hD
  refine wr_gov (pre := [(a 0, .inr (4, [.int fo2, .int tn2, .ref (a 1), .ref (a 2), .ref (a 3), .int qu, .int gu, .int ri, .int re]))] ++ ([(a 1, .inl (G.2.1, 9, .inl w2))] ++ ([(a 2, .inl (G.2.1, 6, .inl t2))] ++ ([(a2 0, .inr (4, [.int fo2, .int tn2, .ref (a2 1), .ref (a2 2), .ref (a2 3), .int qu2, .int gu2, .int ri2, .int re2]))] ++ ([(a2 1, .inl (G.2.1, 9, .inl w2))] ++ ([(a2 2, .inl (G.2.1, 6, .inl t2))])))))) (mid := anW G a lo hi me n ++ (anW G a2 lo2 hi2 me2 n2)) (suf := []) (va_runV (As := [.ref (a2 3)]) (rest := []) ⟨hx, hb, hml, hown, hts⟩ (c_X0_copyFrom l G _ a lo hi me n a2 lo2 hi2 me2 n2) (cwV 1 hts gX5_copyFrom_X0_copyFrom rfl rfl rfl (by decide +kernel) ⟨Nat.le_of_ble_eq_true rfl, Nat.le_of_ble_eq_true rfl⟩) (wV (pre := [(a 0, .inr (4, [.int fo2, .int tn2, .ref (a 1), .ref (a 2), .ref (a 3), .int qu, .int gu, .int ri, .int re]))] ++ ([(a 1, .inl (G.2.1, 9, .inl w2))] ++ ([(a 2, .inl (G.2.1, 6, .inl t2))] ++ ([(a2 0, .inr (4, [.int fo2, .int tn2, .ref (a2 1), .ref (a2 2), .ref (a2 3), .int qu2, .int gu2, .int ri2, .int re2]))] ++ ([(a2 1, .inl (G.2.1, 9, .inl w2))] ++ ([(a2 2, .inl (G.2.1, 6, .inl t2))])))))) (mid := anW G a lo hi me n ++ (anW G a2 lo2 hi2 me2 n2)) (suf := []) (va_recv (ws := [(a 0, .inr (4, [.int fo2, .int tn2, .ref (a 1), .ref (a 2), .ref (a 3), .int qu, .int gu, .int ri, .int re]))] ++ ([(a 1, .inl (G.2.1, 9, .inl w2))] ++ ([(a 2, .inl (G.2.1, 6, .inl t2))] ++ ([(a2 0, .inr (4, [.int fo2, .int tn2, .ref (a2 1), .ref (a2 2), .ref (a2 3), .int qu2, .int gu2, .int ri2, .int re2]))] ++ ([(a2 1, .inl (G.2.1, 9, .inl w2))] ++ ([(a2 2, .inl (G.2.1, 6, .inl t2))] ++ (anW G a lo hi me n ++ (anW G a2 lo2 hi2 me2 n2)))))))) hK hP (ci := 0) (q0 := 6) rfl rfl) hK hN hP hD) rfl rfl hl.1 rfl (lv_room (Nat.le_of_ble_eq_true rfl)) dX5_copyFrom_54 ⟨Nat.le_of_ble_eq_true rfl, Nat.le_of_ble_eq_true rfl⟩) hP hD hS hA (fun _ H locs hw hP hD hS => ?_)
  have hP : PP G ([(a 0, .inr (4, [.int fo2, .int tn2, .ref (a 1), .ref (a 2), .ref (a 3), .int qu, .int gu, .int ri, .int re]))] ++ ([(a 1, .inl (G.2.1, 9, .inl w2))] ++ ([(a 2, .inl (G.2.1, 6, .inl t2))] ++ ([(a2 0, .inr (4, [.int fo2, .int tn2, .ref (a2 1), .ref (a2 2), .ref (a2 3), .int qu2, .int gu2, .int ri2, .int re2]))] ++ ([(a2 1, .inl (G.2.1, 9, .inl w2))] ++ ([(a2 2, .inl (G.2.1, 6, .inl t2))] ++ (anW G a lo2 hi2 me2 n2 ++ (anW G a2 lo2 hi2 me2 n2)))))))) H := hP
  have hD : va_D Ar ([(a 0, .inr (4, [.int fo2, .int tn2, .ref (a 1), .ref (a 2), .ref (a 3), .int qu, .int gu, .int ri, .int re]))] ++ ([(a 1, .inl (G.2.1, 9, .inl w2))] ++ ([(a 2, .inl (G.2.1, 6, .inl t2))] ++ ([(a2 0, .inr (4, [.int fo2, .int tn2, .ref (a2 1), .ref (a2 2), .ref (a2 3), .int qu2, .int gu2, .int ri2, .int re2]))] ++ ([(a2 1, .inl (G.2.1, 9, .inl w2))] ++ ([(a2 2, .inl (G.2.1, 6, .inl t2))] ++ (anW G a lo2 hi2 me2 n2 ++ (anW G a2 lo2 hi2 me2 n2)))))))) := hD
  replace hP := P_perm (G := G) hP (perm7b ([(a 0, .inr (4, [.int fo2, .int tn2, .ref (a 1), .ref (a 2), .ref (a 3), .int qu, .int gu, .int ri, .int re]))] ++ ([(a 1, .inl (G.2.1, 9, .inl w2))] ++ ([(a 2, .inl (G.2.1, 6, .inl t2))]))) ([(a2 0, .inr (4, [.int fo2, .int tn2, .ref (a2 1), .ref (a2 2), .ref (a2 3), .int qu2, .int gu2, .int ri2, .int re2]))] ++ ([(a2 1, .inl (G.2.1, 9, .inl w2))] ++ ([(a2 2, .inl (G.2.1, 6, .inl t2))]))) (anW G a lo2 hi2 me2 n2) (anW G a2 lo2 hi2 me2 n2))
  replace hD := D_perm hD (perm7b ([(a 0, .inr (4, [.int fo2, .int tn2, .ref (a 1), .ref (a 2), .ref (a 3), .int qu, .int gu, .int ri, .int re]))] ++ ([(a 1, .inl (G.2.1, 9, .inl w2))] ++ ([(a 2, .inl (G.2.1, 6, .inl t2))]))) ([(a2 0, .inr (4, [.int fo2, .int tn2, .ref (a2 1), .ref (a2 2), .ref (a2 3), .int qu2, .int gu2, .int ri2, .int re2]))] ++ ([(a2 1, .inl (G.2.1, 9, .inl w2))] ++ ([(a2 2, .inl (G.2.1, 6, .inl t2))]))) (anW G a lo2 hi2 me2 n2) (anW G a2 lo2 hi2 me2 n2))
  have hP : PP G (stW G a fo2 tn2 w2 t2 lo2 hi2 me2 n2 qu gu ri re ++ (stW G a2 fo2 tn2 w2 t2 lo2 hi2 me2 n2 qu2 gu2 ri2 re2)) H := hP
  have hD : va_D Ar (stW G a fo2 tn2 w2 t2 lo2 hi2 me2 n2 qu gu ri re ++ (stW G a2 fo2 tn2 w2 t2 lo2 hi2 me2 n2 qu2 gu2 ri2 re2)) := hD
  refine lv_aload_n hx hb dX5_copyFrom_57 rfl (lv_at hl 0 rfl) ?_
  refine lv_aload_n hx hb dX5_copyFrom_58 rfl (lv_at hl 1 rfl) ?_
  refine va_get (D := G.1) (ws := stW G a fo2 tn2 w2 t2 lo2 hi2 me2 n2 qu gu ri re ++ (stW G a2 fo2 tn2 w2 t2 lo2 hi2 me2 n2 qu2 gu2 ri2 re2)) (ci := 4) (v := .int qu2) (C := RX5) (T := TX5) (N := 9) hx hb hts (fun _ h => List.mem_cons_of_mem _ (List.mem_append_left _ (List.mem_append_right _ (h)))) hown hK hP 7 rfl rfl 5 (by decide) (hts (.fieldLink RX5 55 "CreaseMaps$State" "questions" "I") (List.mem_of_getElem? (i := 10) rfl)) (fun _ h9 => h9) rfl dX5_copyFrom_59 ?_
  refine va_put (D := G.1) (ws := stW G a fo2 tn2 w2 t2 lo2 hi2 me2 n2 qu gu ri re ++ (stW G a2 fo2 tn2 w2 t2 lo2 hi2 me2 n2 qu2 gu2 ri2 re2)) (ci := 4) (v := .int qu2) (ty := .int) (C := RX5) (T := TX5) (N := 9) hx hb hts (fun _ h => List.mem_cons_of_mem _ (List.mem_append_left _ (List.mem_append_right _ (h)))) tyX5 tyX5_ok nmX5 hown hK hP hD hS 0 rfl rfl 5 (by decide) (hts (.fieldLink RX5 55 "CreaseMaps$State" "questions" "I") (List.mem_of_getElem? (i := 10) rfl)) (fun _ h9 => h9) rfl (by decide +kernel) rfl rfl (Nat.le_of_ble_eq_true rfl) dX5_copyFrom_62 (fun H locs hP hD hS => ?_)
  have hP : PP G (stW G a fo2 tn2 w2 t2 lo2 hi2 me2 n2 qu2 gu ri re ++ (stW G a2 fo2 tn2 w2 t2 lo2 hi2 me2 n2 qu2 gu2 ri2 re2)) H := hP
  have hD : va_D Ar (stW G a fo2 tn2 w2 t2 lo2 hi2 me2 n2 qu2 gu ri re ++ (stW G a2 fo2 tn2 w2 t2 lo2 hi2 me2 n2 qu2 gu2 ri2 re2)) := hD
  refine lv_aload_n hx hb dX5_copyFrom_65 rfl (lv_at hl 0 rfl) ?_
  refine lv_aload_n hx hb dX5_copyFrom_66 rfl (lv_at hl 1 rfl) ?_
  refine va_get (D := G.1) (ws := stW G a fo2 tn2 w2 t2 lo2 hi2 me2 n2 qu2 gu ri re ++ (stW G a2 fo2 tn2 w2 t2 lo2 hi2 me2 n2 qu2 gu2 ri2 re2)) (ci := 4) (v := .int gu2) (C := RX5) (T := TX5) (N := 9) hx hb hts (fun _ h => List.mem_cons_of_mem _ (List.mem_append_left _ (List.mem_append_right _ (h)))) hown hK hP 7 rfl rfl 6 (by decide) (hts (.fieldLink RX5 58 "CreaseMaps$State" "guesses" "I") (List.mem_of_getElem? (i := 11) rfl)) (fun _ h9 => h9) rfl dX5_copyFrom_67 ?_
  refine va_put (D := G.1) (ws := stW G a fo2 tn2 w2 t2 lo2 hi2 me2 n2 qu2 gu ri re ++ (stW G a2 fo2 tn2 w2 t2 lo2 hi2 me2 n2 qu2 gu2 ri2 re2)) (ci := 4) (v := .int gu2) (ty := .int) (C := RX5) (T := TX5) (N := 9) hx hb hts (fun _ h => List.mem_cons_of_mem _ (List.mem_append_left _ (List.mem_append_right _ (h)))) tyX5 tyX5_ok nmX5 hown hK hP hD hS 0 rfl rfl 6 (by decide) (hts (.fieldLink RX5 58 "CreaseMaps$State" "guesses" "I") (List.mem_of_getElem? (i := 11) rfl)) (fun _ h9 => h9) rfl (by decide +kernel) rfl rfl (Nat.le_of_ble_eq_true rfl) dX5_copyFrom_70 (fun H locs hP hD hS => ?_)
  have hP : PP G (stW G a fo2 tn2 w2 t2 lo2 hi2 me2 n2 qu2 gu2 ri re ++ (stW G a2 fo2 tn2 w2 t2 lo2 hi2 me2 n2 qu2 gu2 ri2 re2)) H := hP
  have hD : va_D Ar (stW G a fo2 tn2 w2 t2 lo2 hi2 me2 n2 qu2 gu2 ri re ++ (stW G a2 fo2 tn2 w2 t2 lo2 hi2 me2 n2 qu2 gu2 ri2 re2)) := hD
  refine lv_aload_n hx hb dX5_copyFrom_73 rfl (lv_at hl 0 rfl) ?_
  refine lv_aload_n hx hb dX5_copyFrom_74 rfl (lv_at hl 1 rfl) ?_
  refine va_get (D := G.1) (ws := stW G a fo2 tn2 w2 t2 lo2 hi2 me2 n2 qu2 gu2 ri re ++ (stW G a2 fo2 tn2 w2 t2 lo2 hi2 me2 n2 qu2 gu2 ri2 re2)) (ci := 4) (v := .int ri2) (C := RX5) (T := TX5) (N := 9) hx hb hts (fun _ h => List.mem_cons_of_mem _ (List.mem_append_left _ (List.mem_append_right _ (h)))) hown hK hP 7 rfl rfl 7 (by decide) (hts (.fieldLink RX5 61 "CreaseMaps$State" "rightGuesses" "I") (List.mem_of_getElem? (i := 12) rfl)) (fun _ h9 => h9) rfl dX5_copyFrom_75 ?_
  refine va_put (D := G.1) (ws := stW G a fo2 tn2 w2 t2 lo2 hi2 me2 n2 qu2 gu2 ri re ++ (stW G a2 fo2 tn2 w2 t2 lo2 hi2 me2 n2 qu2 gu2 ri2 re2)) (ci := 4) (v := .int ri2) (ty := .int) (C := RX5) (T := TX5) (N := 9) hx hb hts (fun _ h => List.mem_cons_of_mem _ (List.mem_append_left _ (List.mem_append_right _ (h)))) tyX5 tyX5_ok nmX5 hown hK hP hD hS 0 rfl rfl 7 (by decide) (hts (.fieldLink RX5 61 "CreaseMaps$State" "rightGuesses" "I") (List.mem_of_getElem? (i := 12) rfl)) (fun _ h9 => h9) rfl (by decide +kernel) rfl rfl (Nat.le_of_ble_eq_true rfl) dX5_copyFrom_78 (fun H locs hP hD hS => ?_)
  have hP : PP G (stW G a fo2 tn2 w2 t2 lo2 hi2 me2 n2 qu2 gu2 ri2 re ++ (stW G a2 fo2 tn2 w2 t2 lo2 hi2 me2 n2 qu2 gu2 ri2 re2)) H := hP
  have hD : va_D Ar (stW G a fo2 tn2 w2 t2 lo2 hi2 me2 n2 qu2 gu2 ri2 re ++ (stW G a2 fo2 tn2 w2 t2 lo2 hi2 me2 n2 qu2 gu2 ri2 re2)) := hD
  refine lv_aload_n hx hb dX5_copyFrom_81 rfl (lv_at hl 0 rfl) ?_
  refine lv_aload_n hx hb dX5_copyFrom_82 rfl (lv_at hl 1 rfl) ?_
  refine va_get (D := G.1) (ws := stW G a fo2 tn2 w2 t2 lo2 hi2 me2 n2 qu2 gu2 ri2 re ++ (stW G a2 fo2 tn2 w2 t2 lo2 hi2 me2 n2 qu2 gu2 ri2 re2)) (ci := 4) (v := .int re2) (C := RX5) (T := TX5) (N := 9) hx hb hts (fun _ h => List.mem_cons_of_mem _ (List.mem_append_left _ (List.mem_append_right _ (h)))) hown hK hP 7 rfl rfl 8 (by decide) (hts (.fieldLink RX5 64 "CreaseMaps$State" "refused" "I") (List.mem_of_getElem? (i := 13) rfl)) (fun _ h9 => h9) rfl dX5_copyFrom_83 ?_
  refine va_put (D := G.1) (ws := stW G a fo2 tn2 w2 t2 lo2 hi2 me2 n2 qu2 gu2 ri2 re ++ (stW G a2 fo2 tn2 w2 t2 lo2 hi2 me2 n2 qu2 gu2 ri2 re2)) (ci := 4) (v := .int re2) (ty := .int) (C := RX5) (T := TX5) (N := 9) hx hb hts (fun _ h => List.mem_cons_of_mem _ (List.mem_append_left _ (List.mem_append_right _ (h)))) tyX5 tyX5_ok nmX5 hown hK hP hD hS 0 rfl rfl 8 (by decide) (hts (.fieldLink RX5 64 "CreaseMaps$State" "refused" "I") (List.mem_of_getElem? (i := 13) rfl)) (fun _ h9 => h9) rfl (by decide +kernel) rfl rfl (Nat.le_of_ble_eq_true rfl) dX5_copyFrom_86 (fun H locs hP hD hS => ?_)
  have hP : PP G (stW G a fo2 tn2 w2 t2 lo2 hi2 me2 n2 qu2 gu2 ri2 re2 ++ (stW G a2 fo2 tn2 w2 t2 lo2 hi2 me2 n2 qu2 gu2 ri2 re2)) H := hP
  have hD : va_D Ar (stW G a fo2 tn2 w2 t2 lo2 hi2 me2 n2 qu2 gu2 ri2 re2 ++ (stW G a2 fo2 tn2 w2 t2 lo2 hi2 me2 n2 qu2 gu2 ri2 re2)) := hD
  exact wr_vret (S := Unit) (out := fun _ => stW G a fo2 tn2 w2 t2 lo2 hi2 me2 n2 qu2 gu2 ri2 re2 ++ (stW G a2 fo2 tn2 w2 t2 lo2 hi2 me2 n2 qu2 gu2 ri2 re2)) () hx hb hr hlocks hP hD hS (Nat.le_of_ble_eq_true rfl) (Nat.le_of_ble_eq_true rfl) (by trivial) dX5_copyFrom_89


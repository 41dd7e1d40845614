set_option maxHeartbeats 4000000 in
set_option maxRecDepth 100000 in
theorem c_X6_panelOf_1 (l : Launch) (G : GG) (xa so : Nat) (b ce a hh : Nat → Nat) (sg : Nat → Int32) (ln : Nat) (hln : ln ≤ 60) (mk : Nat → Int32) (cs up fo tn : Int32) (w t lo hi me : Nat → Int32) (n : Nat) (hn : n ≤ 12) (qu gu ri re : Int32) (P : Nat → Nat → Nat) (F : Nat → Nat → Nat → Int32) (z : Nat) (hz : z ≤ 6) (o0 o1 : SLO) (q : Nat) (hq : q < 10) : RD l yX6_panelOf wsX6_panelOf 4 G [.ref xa, .int (nI q), .int (nI 1)] ([(xa, .inr (5, [.ref (a 0), .ref (hh 0), .ref so, .ref (b 0), .ref (ce 0)]))] ++ ([(so, .inl (G.2.2.2.1, 2, .inr (.inr (.inr (.inr (slR o0 o1))))))] ++ (txW G b sg (nI ln) ++ (ceW G ce mk cs up ++ (stW G a fo tn w t lo hi me (nI n) qu gu ri re ++ ([(hh 0, .inr (2, [.ref (hh 1), .int (nI z)]))] ++ (hiR G hh P F ++ (slS G o0 ++ (slS G o1))))))))) (some (.int (opC fo t q 1))) := by
  refine rd_of (cc := cX6_panelOf) (maxL := 3) (ret := (some .int)) (by decide) rfl (Nat.le_of_ble_eq_true rfl) ?_
  intro pG eG s mG below meth cG hx hb hr hml hts hown hlocks hP hK hN ls hl
  have hown : s.vm.findClass RX6 = some mG.cls := hown
  have hl : lv_has ls 3 [(0, .ref xa), (1, .int (nI q)), (2, .int (nI 1))] := hl
  refine lv_iload_n hx hb dX6_panelOf_0 rfl (lv_at hl 1 rfl) ?_
  refine lv_if_lt (tgt := 10) hx hb dX6_panelOf_1 (by decide) (fun c_1 => ?_) (fun c_1 => ?_)
  · exact absurd c_1 (nI_pos (by omega))
  · refine lv_iload_n hx hb dX6_panelOf_4 rfl (lv_at hl 1 rfl) ?_
    refine lv_bipush (v := nI 10) hx hb dX6_panelOf_5 (by decide) ?_
    refine lv_icmp_lt (tgt := 20) hx hb dX6_panelOf_7 (by decide) (fun c_7 => ?_) (fun c_7 => ?_)
    · refine lv_iload_n hx hb dX6_panelOf_20 rfl (lv_at hl 2 rfl) ?_
      refine lv_iconst (v := nI 3) hx hb dX6_panelOf_21 (by decide) ?_
      refine rd_gov (va_runS (As := [.int (nI 1), .int (nI 3)]) (rest := []) ⟨hx, hb, hml, hown, hts⟩ (c_X6_requireWhat_ok l G 1 3 (by omega) (by omega)) (va_cwS 2 hts gX6_panelOf_X6_requireWhat rfl rfl rfl (by decide +kernel) ⟨Nat.le_of_ble_eq_true rfl, Nat.le_of_ble_eq_true rfl⟩) (rS (ws := []) hK hN P_nil) rfl rfl hl.1 rfl (lv_room (Nat.le_of_ble_eq_true rfl)) dX6_panelOf_22 ⟨Nat.le_of_ble_eq_true rfl, Nat.le_of_ble_eq_true rfl⟩) ?_
      refine lv_iload_n hx hb dX6_panelOf_25 rfl (lv_at hl 2 rfl) ?_
      refine lv_lookup (off := 41) (tgt := 67) hx hb dX6_panelOf_26 (by decide) (by decide) (by decide) ?_
      refine lv_aload_n hx hb dX6_panelOf_67 rfl (lv_at hl 0 rfl) ?_
      refine va_get (D := G.1) (ws := [(xa, .inr (5, [.ref (a 0), .ref (hh 0), .ref so, .ref (b 0), .ref (ce 0)]))] ++ ([(so, .inl (G.2.2.2.1, 2, .inr (.inr (.inr (.inr (slR o0 o1))))))] ++ (txW G b sg (nI ln) ++ (ceW G ce mk cs up ++ (stW G a fo tn w t lo hi me (nI n) qu gu ri re ++ ([(hh 0, .inr (2, [.ref (hh 1), .int (nI z)]))] ++ (hiR G hh P F ++ (slS G o0 ++ (slS G o1))))))))) (ci := 5) (v := .ref (a 0)) (C := RX6) (T := TX6) (N := 5) hx hb hts (fun _ h => List.mem_cons_of_mem _ (List.mem_append_left _ (List.mem_append_left _ (List.mem_append_left _ (List.mem_append_right _ (h)))))) hown hK hP 0 rfl rfl 0 (by decide) (hts (.fieldLink RX6 10 "CreaseMaps" "now" "LCreaseMaps$State;") (List.mem_of_getElem? (i := 3) rfl)) (fun _ h9 => h9) rfl dX6_panelOf_68 ?_
      refine lv_iload_n hx hb dX6_panelOf_71 rfl (lv_at hl 1 rfl) ?_
      refine rd_go (va_runV (As := [.int (nI q)]) (rest := []) ⟨hx, hb, hml, hown, hts⟩ (c_X5_townsOn l G a fo tn w t lo hi me (nI n) qu gu ri re (nI q)) (cwV 1 hts gX6_panelOf_X5_townsOn rfl rfl rfl (by decide +kernel) ⟨Nat.le_of_ble_eq_true rfl, Nat.le_of_ble_eq_true rfl⟩) (rV (ws := stW G a fo tn w t lo hi me (nI n) qu gu ri re) (va_recv (ws := [(xa, .inr (5, [.ref (a 0), .ref (hh 0), .ref so, .ref (b 0), .ref (ce 0)]))] ++ ([(so, .inl (G.2.2.2.1, 2, .inr (.inr (.inr (.inr (slR o0 o1))))))] ++ (txW G b sg (nI ln) ++ (ceW G ce mk cs up ++ (stW G a fo tn w t lo hi me (nI n) qu gu ri re ++ ([(hh 0, .inr (2, [.ref (hh 1), .int (nI z)]))] ++ (hiR G hh P F ++ (slS G o0 ++ (slS G o1))))))))) hK hP (ci := 4) (q0 := 6) rfl rfl) hK hN (P_mid (pre := [(xa, .inr (5, [.ref (a 0), .ref (hh 0), .ref so, .ref (b 0), .ref (ce 0)]))] ++ ([(so, .inl (G.2.2.2.1, 2, .inr (.inr (.inr (.inr (slR o0 o1))))))] ++ (txW G b sg (nI ln) ++ (ceW G ce mk cs up)))) (mid := stW G a fo tn w t lo hi me (nI n) qu gu ri re) (suf := [(hh 0, .inr (2, [.ref (hh 1), .int (nI z)]))] ++ (hiR G hh P F ++ (slS G o0 ++ (slS G o1)))) hP)) rfl rfl hl.1 rfl (lv_room (Nat.le_of_ble_eq_true rfl)) dX6_panelOf_72 ⟨Nat.le_of_ble_eq_true rfl, Nat.le_of_ble_eq_true rfl⟩) ?_
      exact rd_iret hx hb hr hlocks (by rfl) dX6_panelOf_75
    · exact absurd (nI_lt (by omega) (by omega)) c_7


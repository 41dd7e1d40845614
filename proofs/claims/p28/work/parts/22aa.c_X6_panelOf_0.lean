set_option maxHeartbeats 4000000 in
set_option maxRecDepth 100000 in
theorem c_X6_panelOf_0 (l : Launch) (G : GG) (xa so : Nat) (b ce a hh : Nat → Nat) (sg : Nat → Int32) (ln : Nat) (hln : ln ≤ 60) (mk : Nat → Int32) (cs up fo tn : Int32) (w t lo hi me : Nat → Int32) (n : Nat) (hn : n ≤ 12) (qu gu ri re : Int32) (P : Nat → Nat → Nat) (F : Nat → Nat → Nat → Int32) (z : Nat) (hz : z ≤ 6) (o0 o1 : SLO) (q : Nat) (hq : q < 10) : RD l yX6_panelOf wsX6_panelOf 4 G [.ref xa, .int (nI q), .int (nI 0)] ([(xa, .inr (5, [.ref (a 0), .ref (hh 0), .ref so, .ref (b 0), .ref (ce 0)]))] ++ ([(so, .inl (G.2.2.2.1, 2, .inr (.inr (.inr (.inr (slR o0 o1))))))] ++ (txW G b sg (nI ln) ++ (ceW G ce mk cs up ++ (stW G a fo tn w t lo hi me (nI n) qu gu ri re ++ ([(hh 0, .inr (2, [.ref (hh 1), .int (nI z)]))] ++ (hiR G hh P F ++ (slS G o0 ++ (slS G o1))))))))) (some (.int (opC fo t q 0))) := by
  refine rd_of (cc := cX6_panelOf) (maxL := 3) (ret := (some .int)) (by decide) rfl (Nat.le_of_ble_eq_true rfl) ?_
  intro pG eG s mG below meth cG hx hb hr hml hts hown hlocks hP hK hN ls hl
  have hown : s.vm.findClass RX6 = some mG.cls := hown
  have hl : lv_has ls 3 [(0, .ref xa), (1, .int (nI q)), (2, .int (nI 0))] := hl
  refine lv_iload_n hx hb dX6_panelOf_0 rfl (lv_at hl 1 rfl) ?_
  refine lv_if_lt (tgt := 10) hx hb dX6_panelOf_1 (by decide) (fun c_1 => ?_) (fun c_1 => ?_)
  · exact absurd c_1 (nI_pos (by omega))
  · refine lv_iload_n hx hb dX6_panelOf_4 rfl (lv_at hl 1 rfl) ?_
    refine lv_bipush (v := nI 10) hx hb dX6_panelOf_5 (by decide) ?_
    refine lv_icmp_lt (tgt := 20) hx hb dX6_panelOf_7 (by decide) (fun c_7 => ?_) (fun c_7 => ?_)
    · refine lv_iload_n hx hb dX6_panelOf_20 rfl (lv_at hl 2 rfl) ?_
      refine lv_iconst (v := nI 3) hx hb dX6_panelOf_21 (by decide) ?_
      refine rd_gov (va_runS (As := [.int (nI 0), .int (nI 3)]) (rest := []) ⟨hx, hb, hml, hown, hts⟩ (c_X6_requireWhat_ok l G 0 3 (by omega) (by omega)) (va_cwS 2 hts gX6_panelOf_X6_requireWhat rfl rfl rfl (by decide +kernel) ⟨Nat.le_of_ble_eq_true rfl, Nat.le_of_ble_eq_true rfl⟩) (rS (ws := []) hK hN P_nil) rfl rfl hl.1 rfl (lv_room (Nat.le_of_ble_eq_true rfl)) dX6_panelOf_22 ⟨Nat.le_of_ble_eq_true rfl, Nat.le_of_ble_eq_true rfl⟩) ?_
      refine lv_iload_n hx hb dX6_panelOf_25 rfl (lv_at hl 2 rfl) ?_
      refine lv_lookup (off := 26) (tgt := 52) hx hb dX6_panelOf_26 (by decide) (by decide) (by decide) ?_
      refine lv_aload_n hx hb dX6_panelOf_52 rfl (lv_at hl 0 rfl) ?_
      refine va_get (D := G.1) (ws := [(xa, .inr (5, [.ref (a 0), .ref (hh 0), .ref so, .ref (b 0), .ref (ce 0)]))] ++ ([(so, .inl (G.2.2.2.1, 2, .inr (.inr (.inr (.inr (slR o0 o1))))))] ++ (txW G b sg (nI ln) ++ (ceW G ce mk cs up ++ (stW G a fo tn w t lo hi me (nI n) qu gu ri re ++ ([(hh 0, .inr (2, [.ref (hh 1), .int (nI z)]))] ++ (hiR G hh P F ++ (slS G o0 ++ (slS G o1))))))))) (ci := 5) (v := .ref (a 0)) (C := RX6) (T := TX6) (N := 5) hx hb hts (fun _ h => List.mem_cons_of_mem _ (List.mem_append_left _ (List.mem_append_left _ (List.mem_append_left _ (List.mem_append_right _ (h)))))) hown hK hP 0 rfl rfl 0 (by decide) (hts (.fieldLink RX6 10 "CreaseMaps" "now" "LCreaseMaps$State;") (List.mem_of_getElem? (i := 3) rfl)) (fun _ h9 => h9) rfl dX6_panelOf_53 ?_
      refine va_get (D := G.1) (ws := [(xa, .inr (5, [.ref (a 0), .ref (hh 0), .ref so, .ref (b 0), .ref (ce 0)]))] ++ ([(so, .inl (G.2.2.2.1, 2, .inr (.inr (.inr (.inr (slR o0 o1))))))] ++ (txW G b sg (nI ln) ++ (ceW G ce mk cs up ++ (stW G a fo tn w t lo hi me (nI n) qu gu ri re ++ ([(hh 0, .inr (2, [.ref (hh 1), .int (nI z)]))] ++ (hiR G hh P F ++ (slS G o0 ++ (slS G o1))))))))) (ci := 4) (v := .int fo) (C := RX5) (T := TX5) (N := 9) hx hb hts (fun _ h => List.mem_cons_of_mem _ (List.mem_append_left _ (List.mem_append_left _ (List.mem_append_right _ (h))))) hown hK hP 6 rfl rfl 0 (by decide) (hts (.fieldLink RX6 63 "CreaseMaps$State" "folded" "I") (List.mem_of_getElem? (i := 4) rfl)) (fun _ h9 => h9) rfl dX6_panelOf_56 ?_
      refine lv_iload_n hx hb dX6_panelOf_59 rfl (lv_at hl 1 rfl) ?_
      refine rd_go (va_runS (As := [.int fo, .int (nI q)]) (rest := []) ⟨hx, hb, hml, hown, hts⟩ (c_X3_placeOf l G fo q (by omega)) (va_cwS 2 hts gX6_panelOf_X3_placeOf rfl rfl rfl (by decide +kernel) ⟨Nat.le_of_ble_eq_true rfl, Nat.le_of_ble_eq_true rfl⟩) (rS (ws := []) hK hN P_nil) rfl rfl hl.1 rfl (lv_room (Nat.le_of_ble_eq_true rfl)) dX6_panelOf_60 ⟨Nat.le_of_ble_eq_true rfl, Nat.le_of_ble_eq_true rfl⟩) ?_
      refine lv_bipush (v := nI 100) hx hb dX6_panelOf_63 (by decide) ?_
      refine lv_iadd hx hb dX6_panelOf_65 ?_
      exact rd_iret hx hb hr hlocks (by rfl) dX6_panelOf_66
    · exact absurd (nI_lt (by omega) (by omega)) c_7


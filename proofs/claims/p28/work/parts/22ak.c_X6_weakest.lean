set_option maxHeartbeats 4000000 in
set_option maxRecDepth 100000 in
theorem c_X6_weakest (l : Launch) (G : GG) (xa so : Nat) (b ce a hh : Nat → Nat) (sg : Nat → Int32) (ln : Nat) (hln : ln ≤ 60) (mk : Nat → Int32) (cs up fo tn : Int32) (w t lo hi me : Nat → Int32) (n : Nat) (hn : n ≤ 12) (qu gu ri re : Int32) (P : Nat → Nat → Nat) (F : Nat → Nat → Nat → Int32) (z : Nat) (hz : z ≤ 6) (o0 o1 : SLO)  : RD l yX6_weakest wsX6_weakest 3 G [.ref xa] ([(xa, .inr (5, [.ref (a 0), .ref (hh 0), .ref so, .ref (b 0), .ref (ce 0)]))] ++ ([(so, .inl (G.2.2.2.1, 2, .inr (.inr (.inr (.inr (slR o0 o1))))))] ++ (txW G b sg (nI ln) ++ (ceW G ce mk cs up ++ (stW G a fo tn w t lo hi me (nI n) qu gu ri re ++ ([(hh 0, .inr (2, [.ref (hh 1), .int (nI z)]))] ++ (hiR G hh P F ++ (slS G o0 ++ (slS G o1))))))))) (some (.int ((wkC fo w 9).1))) := by
  refine rd_of (cc := cX6_weakest) (maxL := 4) (ret := (some .int)) (by decide) rfl (Nat.le_of_ble_eq_true rfl) ?_
  intro pG eG s mG below meth cG hx hb hr hml hts hown hlocks hP hK hN ls hl
  have hown : s.vm.findClass RX6 = some mG.cls := hown
  have hl : lv_has ls 4 [(0, .ref xa)] := hl
  refine lv_iconst (v := (-1)) hx hb dX6_weakest_0 (by decide) ?_
  refine lv_istore_n (lv' := [(1, .int (-1)), (0, .ref xa)]) hx hb dX6_weakest_1 rfl hl (by decide) rfl (fun ls hl => ?_)
  refine lv_iconst (v := (-1)) hx hb dX6_weakest_2 (by decide) ?_
  refine lv_istore_n (lv' := [(2, .int (-1)), (1, .int (-1)), (0, .ref xa)]) hx hb dX6_weakest_3 rfl hl (by decide) rfl (fun ls hl => ?_)
  refine lv_iconst (v := nI 0) hx hb dX6_weakest_4 (by decide) ?_
  refine lv_istore_n (lv' := [(3, .int (nI 0)), (2, .int (-1)), (1, .int (-1)), (0, .ref xa)]) hx hb dX6_weakest_5 rfl hl (by decide) rfl (fun ls hl => ?_)
  have L6 : ∀ (fu : Nat) (k : Nat) (hk : k ≤ 9), 9 + 1 ≤ k + fu → ∀ ls : Array Slot, lv_has ls 4 [(0, .ref xa), (1, .int ((wkC fo w k).1)), (2, .int ((wkC fo w k).2)), (3, .int (nI k))] → W pG l eG (RM 3 0 0) s mG ([.ref xa] : List Value).toArray below meth cG s.heap [] 0 0 (MQ below (rQ (some (.int ((wkC fo w 9).1)))) ([.ref xa] : List Value).toArray s 0 0 (fun _ => False)) (F0 mG 6 ls []) := by
    intro fu
    induction fu with
    | zero => intro k hk hfu; exact absurd hfu (by omega)
    | succ fu ih =>
      intro k hk hfu ls hl
      refine lv_iload_n hx hb dX6_weakest_6 rfl (lv_at hl 3 rfl) ?_
      refine lv_bipush (v := nI 9) hx hb dX6_weakest_7 (by decide) ?_
      refine lv_icmp_ge (tgt := 57) hx hb dX6_weakest_9 (by decide) (fun c_9 => ?_) (fun c_9 => ?_)
      · have q1 : 9 ≤ k := fe c_9 (by omega) (by omega)
        refine lv_iload_n hx hb dX6_weakest_57 rfl (lv_at hl 1 rfl) ?_
        exact rd_iret hx hb hr hlocks (by rw [show k = 9 by omega]) dX6_weakest_58
      · have q1 : k < 9 := fl c_9 (by omega) (by omega)
        refine lv_aload_n hx hb dX6_weakest_12 rfl (lv_at hl 0 rfl) ?_
        refine va_get (D := G.1) (ws := [(xa, .inr (5, [.ref (a 0), .ref (hh 0), .ref so, .ref (b 0), .ref (ce 0)]))] ++ ([(so, .inl (G.2.2.2.1, 2, .inr (.inr (.inr (.inr (slR o0 o1))))))] ++ (txW G b sg (nI ln) ++ (ceW G ce mk cs up ++ (stW G a fo tn w t lo hi me (nI n) qu gu ri re ++ ([(hh 0, .inr (2, [.ref (hh 1), .int (nI z)]))] ++ (hiR G hh P F ++ (slS G o0 ++ (slS G o1))))))))) (ci := 5) (v := .ref (a 0)) (C := RX6) (T := TX6) (N := 5) hx hb hts (fun _ h => List.mem_cons_of_mem _ (List.mem_append_left _ (List.mem_append_right _ (h)))) hown hK hP 0 rfl rfl 0 (by decide) (hts (.fieldLink RX6 10 "CreaseMaps" "now" "LCreaseMaps$State;") (List.mem_of_getElem? (i := 1) rfl)) (fun _ h9 => h9) rfl dX6_weakest_13 ?_
        refine va_get (D := G.1) (ws := [(xa, .inr (5, [.ref (a 0), .ref (hh 0), .ref so, .ref (b 0), .ref (ce 0)]))] ++ ([(so, .inl (G.2.2.2.1, 2, .inr (.inr (.inr (.inr (slR o0 o1))))))] ++ (txW G b sg (nI ln) ++ (ceW G ce mk cs up ++ (stW G a fo tn w t lo hi me (nI n) qu gu ri re ++ ([(hh 0, .inr (2, [.ref (hh 1), .int (nI z)]))] ++ (hiR G hh P F ++ (slS G o0 ++ (slS G o1))))))))) (ci := 4) (v := .int fo) (C := RX5) (T := TX5) (N := 9) hx hb hts (fun _ h => List.mem_cons_of_mem _ (List.mem_append_right _ (h))) hown hK hP 6 rfl rfl 0 (by decide) (hts (.fieldLink RX6 63 "CreaseMaps$State" "folded" "I") (List.mem_of_getElem? (i := 2) rfl)) (fun _ h9 => h9) rfl dX6_weakest_16 ?_
        refine lv_iload_n hx hb dX6_weakest_19 rfl (lv_at hl 3 rfl) ?_
        refine rd_go (va_runS (As := [.int fo, .int (nI k)]) (rest := []) ⟨hx, hb, hml, hown, hts⟩ (c_X6_has l G fo (nI k)) (va_cwS 2 hts gX6_weakest_X6_has rfl rfl rfl (by decide +kernel) ⟨Nat.le_of_ble_eq_true rfl, Nat.le_of_ble_eq_true rfl⟩) (rS (ws := []) hK hN P_nil) rfl rfl hl.1 rfl (lv_room (Nat.le_of_ble_eq_true rfl)) dX6_weakest_20 ⟨Nat.le_of_ble_eq_true rfl, Nat.le_of_ble_eq_true rfl⟩) ?_
        refine lv_if_eq (tgt := 51) hx hb dX6_weakest_23 (by decide) (fun c_23 => ?_) (fun c_23 => ?_)
        · have c_23 := b2_q c_23
          refine lv_iinc (v := nI (k + 1)) (lv' := [(3, .int (nI (k + 1))), (0, .ref xa), (1, .int ((wkC fo w k).1)), (2, .int ((wkC fo w k).2))]) hx hb dX6_weakest_51 hl (k := 3) rfl (iincN k) (by decide) rfl (fun ls hl => ?_)
          refine lv_goto (tgt := 6) hx hb dX6_weakest_54 (by decide) ?_
          exact ih (k + 1) (by omega) (by omega) ls (lv_as (l1 := [(0, .ref xa), (1, .int ((wkC fo w k).1)), (2, .int ((wkC fo w k).2)), (3, .int (nI (k + 1)))]) (lv_sub hl [1, 2, 3, 0] rfl) (by rw [wkC, if_neg (fun h => c_23 h.1)]))
        · have c_23 := b2_p c_23
          refine lv_aload_n hx hb dX6_weakest_26 rfl (lv_at hl 0 rfl) ?_
          refine va_get (D := G.1) (ws := [(xa, .inr (5, [.ref (a 0), .ref (hh 0), .ref so, .ref (b 0), .ref (ce 0)]))] ++ ([(so, .inl (G.2.2.2.1, 2, .inr (.inr (.inr (.inr (slR o0 o1))))))] ++ (txW G b sg (nI ln) ++ (ceW G ce mk cs up ++ (stW G a fo tn w t lo hi me (nI n) qu gu ri re ++ ([(hh 0, .inr (2, [.ref (hh 1), .int (nI z)]))] ++ (hiR G hh P F ++ (slS G o0 ++ (slS G o1))))))))) (ci := 5) (v := .ref (a 0)) (C := RX6) (T := TX6) (N := 5) hx hb hts (fun _ h => List.mem_cons_of_mem _ (List.mem_append_left _ (List.mem_append_right _ (h)))) hown hK hP 0 rfl rfl 0 (by decide) (hts (.fieldLink RX6 10 "CreaseMaps" "now" "LCreaseMaps$State;") (List.mem_of_getElem? (i := 1) rfl)) (fun _ h9 => h9) rfl dX6_weakest_27 ?_
          refine va_get (D := G.1) (ws := [(xa, .inr (5, [.ref (a 0), .ref (hh 0), .ref so, .ref (b 0), .ref (ce 0)]))] ++ ([(so, .inl (G.2.2.2.1, 2, .inr (.inr (.inr (.inr (slR o0 o1))))))] ++ (txW G b sg (nI ln) ++ (ceW G ce mk cs up ++ (stW G a fo tn w t lo hi me (nI n) qu gu ri re ++ ([(hh 0, .inr (2, [.ref (hh 1), .int (nI z)]))] ++ (hiR G hh P F ++ (slS G o0 ++ (slS G o1))))))))) (ci := 4) (v := .ref (a 1)) (C := RX5) (T := TX5) (N := 9) hx hb hts (fun _ h => List.mem_cons_of_mem _ (List.mem_append_right _ (h))) hown hK hP 6 rfl rfl 2 (by decide) (hts (.fieldLink RX6 199 "CreaseMaps$State" "wear" "[I") (List.mem_of_getElem? (i := 3) rfl)) (fun _ h9 => h9) rfl dX6_weakest_30 ?_
          refine lv_iload_n hx hb dX6_weakest_33 rfl (lv_at hl 3 rfl) ?_
          refine va_iald (D := G.1) (ws := [(xa, .inr (5, [.ref (a 0), .ref (hh 0), .ref so, .ref (b 0), .ref (ce 0)]))] ++ ([(so, .inl (G.2.2.2.1, 2, .inr (.inr (.inr (.inr (slR o0 o1))))))] ++ (txW G b sg (nI ln) ++ (ceW G ce mk cs up ++ (stW G a fo tn w t lo hi me (nI n) qu gu ri re ++ ([(hh 0, .inr (2, [.ref (hh 1), .int (nI z)]))] ++ (hiR G hh P F ++ (slS G o0 ++ (slS G o1))))))))) hx hb hK hP 7 0 (n := 9) rfl rfl (by first | assumption | exact vp_in_nI (by omega) (by omega)) dX6_weakest_34 ?_
          refine lv_cgi (y := w k) (by rw [nI_clamp (by omega)]) ?_
          refine lv_iload_n hx hb dX6_weakest_35 rfl (lv_at hl 2 rfl) ?_
          refine lv_icmp_le (tgt := 51) hx hb dX6_weakest_36 (by decide) (fun c_36 => ?_) (fun c_36 => ?_)
          · refine lv_iinc (v := nI (k + 1)) (lv' := [(3, .int (nI (k + 1))), (0, .ref xa), (1, .int ((wkC fo w k).1)), (2, .int ((wkC fo w k).2))]) hx hb dX6_weakest_51 hl (k := 3) rfl (iincN k) (by decide) rfl (fun ls hl => ?_)
            refine lv_goto (tgt := 6) hx hb dX6_weakest_54 (by decide) ?_
            exact ih (k + 1) (by omega) (by omega) ls (lv_as (l1 := [(0, .ref xa), (1, .int ((wkC fo w k).1)), (2, .int ((wkC fo w k).2)), (3, .int (nI (k + 1)))]) (lv_sub hl [1, 2, 3, 0] rfl) (by rw [wkC, if_neg (fun h => h.2 c_36)]))
          · refine lv_aload_n hx hb dX6_weakest_39 rfl (lv_at hl 0 rfl) ?_
            refine va_get (D := G.1) (ws := [(xa, .inr (5, [.ref (a 0), .ref (hh 0), .ref so, .ref (b 0), .ref (ce 0)]))] ++ ([(so, .inl (G.2.2.2.1, 2, .inr (.inr (.inr (.inr (slR o0 o1))))))] ++ (txW G b sg (nI ln) ++ (ceW G ce mk cs up ++ (stW G a fo tn w t lo hi me (nI n) qu gu ri re ++ ([(hh 0, .inr (2, [.ref (hh 1), .int (nI z)]))] ++ (hiR G hh P F ++ (slS G o0 ++ (slS G o1))))))))) (ci := 5) (v := .ref (a 0)) (C := RX6) (T := TX6) (N := 5) hx hb hts (fun _ h => List.mem_cons_of_mem _ (List.mem_append_left _ (List.mem_append_right _ (h)))) hown hK hP 0 rfl rfl 0 (by decide) (hts (.fieldLink RX6 10 "CreaseMaps" "now" "LCreaseMaps$State;") (List.mem_of_getElem? (i := 1) rfl)) (fun _ h9 => h9) rfl dX6_weakest_40 ?_
            refine va_get (D := G.1) (ws := [(xa, .inr (5, [.ref (a 0), .ref (hh 0), .ref so, .ref (b 0), .ref (ce 0)]))] ++ ([(so, .inl (G.2.2.2.1, 2, .inr (.inr (.inr (.inr (slR o0 o1))))))] ++ (txW G b sg (nI ln) ++ (ceW G ce mk cs up ++ (stW G a fo tn w t lo hi me (nI n) qu gu ri re ++ ([(hh 0, .inr (2, [.ref (hh 1), .int (nI z)]))] ++ (hiR G hh P F ++ (slS G o0 ++ (slS G o1))))))))) (ci := 4) (v := .ref (a 1)) (C := RX5) (T := TX5) (N := 9) hx hb hts (fun _ h => List.mem_cons_of_mem _ (List.mem_append_right _ (h))) hown hK hP 6 rfl rfl 2 (by decide) (hts (.fieldLink RX6 199 "CreaseMaps$State" "wear" "[I") (List.mem_of_getElem? (i := 3) rfl)) (fun _ h9 => h9) rfl dX6_weakest_43 ?_
            refine lv_iload_n hx hb dX6_weakest_46 rfl (lv_at hl 3 rfl) ?_
            refine va_iald (D := G.1) (ws := [(xa, .inr (5, [.ref (a 0), .ref (hh 0), .ref so, .ref (b 0), .ref (ce 0)]))] ++ ([(so, .inl (G.2.2.2.1, 2, .inr (.inr (.inr (.inr (slR o0 o1))))))] ++ (txW G b sg (nI ln) ++ (ceW G ce mk cs up ++ (stW G a fo tn w t lo hi me (nI n) qu gu ri re ++ ([(hh 0, .inr (2, [.ref (hh 1), .int (nI z)]))] ++ (hiR G hh P F ++ (slS G o0 ++ (slS G o1))))))))) hx hb hK hP 7 0 (n := 9) rfl rfl (by first | assumption | exact vp_in_nI (by omega) (by omega)) dX6_weakest_47 ?_
            refine lv_cgi (y := w k) (by rw [nI_clamp (by omega)]) ?_
            refine lv_istore_n (lv' := [(2, .int (w k)), (0, .ref xa), (1, .int ((wkC fo w k).1)), (3, .int (nI k))]) hx hb dX6_weakest_48 rfl hl (by decide) rfl (fun ls hl => ?_)
            refine lv_iload_n hx hb dX6_weakest_49 rfl (lv_at hl 3 rfl) ?_
            refine lv_istore_n (lv' := [(1, .int (nI k)), (2, .int (w k)), (0, .ref xa), (3, .int (nI k))]) hx hb dX6_weakest_50 rfl hl (by decide) rfl (fun ls hl => ?_)
            refine lv_iinc (v := nI (k + 1)) (lv' := [(3, .int (nI (k + 1))), (1, .int (nI k)), (2, .int (w k)), (0, .ref xa)]) hx hb dX6_weakest_51 hl (k := 3) rfl (iincN k) (by decide) rfl (fun ls hl => ?_)
            refine lv_goto (tgt := 6) hx hb dX6_weakest_54 (by decide) ?_
            exact ih (k + 1) (by omega) (by omega) ls (lv_as (l1 := [(0, .ref xa), (1, .int (nI k)), (2, .int (w k)), (3, .int (nI (k + 1)))]) (lv_sub hl [3, 1, 2, 0] rfl) (by rw [wkC, if_pos ⟨c_23, c_36⟩]))
  exact L6 10 0 (by omega) (by omega) ls (lv_as (l1 := [(0, .ref xa), (1, .int (-1)), (2, .int (-1)), (3, .int (nI 0))]) (lv_sub hl [3, 2, 1, 0] rfl) (by rfl))


set_option maxHeartbeats 4000000 in
set_option maxRecDepth 100000 in
theorem c_X6_foldingsWalked (l : Launch) (G : GG) (a : Nat → Nat) (fo tn : Int32) (w t lo hi me : Nat → Int32) (n : Nat) (hn : n ≤ 12) (hv : okL lo hi) (qu gu ri re : Int32) : ∀ (d pn : Nat) (x : Int32), pn + d = 9 → RD l yX6_foldingsWalked wsX6_foldingsWalked (4 + d) G [.ref (a 0), .int (nI pn), .int x] (stW G a fo tn w t lo hi me (nI n) qu gu ri re) (some (.int (fwC tn lo hi me n d pn x))) := by
  intro d
  induction d with
  | zero =>
    intro pn x hp
    refine rd_of (l := l) (y := yX6_foldingsWalked) (w := wsX6_foldingsWalked) (d := 4 + 0) (G := G) (As := [.ref (a 0), .int (nI pn), .int x]) (ws := stW G a fo tn w t lo hi me (nI n) qu gu ri re) (v := some (.int (fwC tn lo hi me n 0 pn x))) (cc := cX6_foldingsWalked) (maxL := 4) (ret := (some .int)) (by decide) rfl (Nat.le_of_ble_eq_true rfl) ?_
    intro pG eG s mG below meth cG hx hb hr hml hts hown hlocks hP hK hN ls hl
    have hown : s.vm.findClass RX6 = some mG.cls := hown
    have hl : lv_has ls 4 [(0, .ref (a 0)), (1, .int (nI pn)), (2, .int x)] := hl
    refine lv_aload_n hx hb dX6_foldingsWalked_0 rfl (lv_at hl 0 rfl) ?_
    refine va_get (D := G.1) (ws := stW G a fo tn w t lo hi me (nI n) qu gu ri re) (ci := 4) (v := .ref (a 3)) (C := RX5) (T := TX5) (N := 9) hx hb hts (fun _ h => List.mem_cons_of_mem _ (List.mem_append_left _ (List.mem_append_right _ (h)))) hown hK hP 0 rfl rfl 4 (by decide) (hts (.fieldLink RX6 84 "CreaseMaps$State" "answers" "LCreaseMaps$Answers;") (List.mem_of_getElem? (i := 1) rfl)) (fun _ h9 => h9) rfl dX6_foldingsWalked_1 ?_
    refine lv_iload_n hx hb dX6_foldingsWalked_4 rfl (lv_at hl 1 rfl) ?_
    refine lv_iload_n hx hb dX6_foldingsWalked_5 rfl (lv_at hl 2 rfl) ?_
    refine rd_go (va_runV (As := [.int (nI pn), .int x]) (rest := []) ⟨hx, hb, hml, hown, hts⟩ (c_X0_fitAt l G a lo hi me n hn hv pn (by omega) x) (cwV 2 hts gX6_foldingsWalked_X0_fitAt rfl rfl rfl (by decide +kernel) (rm_ok3 0 (by decide))) (rV (ws := anW G a lo hi me (nI n)) (va_recv (ws := stW G a fo tn w t lo hi me (nI n) qu gu ri re) hK hP (ci := 0) (q0 := 3) rfl rfl) hK hN (P_mid (pre := [(a 0, .inr (4, [.int fo, .int tn, .ref (a 1), .ref (a 2), .ref (a 3), .int qu, .int gu, .int ri, .int re]))] ++ ([(a 1, .inl (G.2.1, 9, .inl w))] ++ ([(a 2, .inl (G.2.1, 6, .inl t))]))) (mid := anW G a lo hi me (nI n)) (suf := []) hP)) rfl rfl hl.1 rfl (lv_room (Nat.le_of_ble_eq_true rfl)) dX6_foldingsWalked_6 ⟨Nat.le_of_ble_eq_true rfl, Nat.le_of_ble_eq_true rfl⟩) ?_
    refine lv_if_ne (tgt := 14) hx hb dX6_foldingsWalked_9 (by decide) (fun c_9 => ?_) (fun c_9 => ?_)
    · have c_9 := b2_ne c_9
      refine lv_iload_n hx hb dX6_foldingsWalked_14 rfl (lv_at hl 1 rfl) ?_
      refine lv_bipush (v := nI 9) hx hb dX6_foldingsWalked_15 (by decide) ?_
      refine lv_icmp_lt (tgt := 22) hx hb dX6_foldingsWalked_17 (by decide) (fun c_17 => ?_) (fun c_17 => ?_)
      · exact absurd c_17 (nI_nlt (by omega) (by omega))
      · refine lv_iconst (v := nI 1) hx hb dX6_foldingsWalked_20 (by decide) ?_
        exact rd_iret hx hb hr hlocks (by rw [fwC, if_pos c_9]) dX6_foldingsWalked_21
    · have c_9 := b2_eq c_9
      refine lv_iconst (v := nI 0) hx hb dX6_foldingsWalked_12 (by decide) ?_
      exact rd_iret hx hb hr hlocks (by rw [fwC, if_neg (by rw [c_9]; exact Bool.false_ne_true)]) dX6_foldingsWalked_13
  | succ d ihw =>
    intro pn x hp
    refine rd_of (l := l) (y := yX6_foldingsWalked) (w := wsX6_foldingsWalked) (d := 4 + (d + 1)) (G := G) (As := [.ref (a 0), .int (nI pn), .int x]) (ws := stW G a fo tn w t lo hi me (nI n) qu gu ri re) (v := some (.int (fwC tn lo hi me n (d + 1) pn x))) (cc := cX6_foldingsWalked) (maxL := 4) (ret := (some .int)) (by decide) rfl (Nat.le_of_ble_eq_true rfl) ?_
    intro pG eG s mG below meth cG hx hb hr hml hts hown hlocks hP hK hN ls hl
    have hown : s.vm.findClass RX6 = some mG.cls := hown
    have hl : lv_has ls 4 [(0, .ref (a 0)), (1, .int (nI pn)), (2, .int x)] := hl
    refine lv_aload_n hx hb dX6_foldingsWalked_0 rfl (lv_at hl 0 rfl) ?_
    refine va_get (D := G.1) (ws := stW G a fo tn w t lo hi me (nI n) qu gu ri re) (ci := 4) (v := .ref (a 3)) (C := RX5) (T := TX5) (N := 9) hx hb hts (fun _ h => List.mem_cons_of_mem _ (List.mem_append_left _ (List.mem_append_right _ (h)))) hown hK hP 0 rfl rfl 4 (by decide) (hts (.fieldLink RX6 84 "CreaseMaps$State" "answers" "LCreaseMaps$Answers;") (List.mem_of_getElem? (i := 1) rfl)) (fun _ h9 => h9) rfl dX6_foldingsWalked_1 ?_
    refine lv_iload_n hx hb dX6_foldingsWalked_4 rfl (lv_at hl 1 rfl) ?_
    refine lv_iload_n hx hb dX6_foldingsWalked_5 rfl (lv_at hl 2 rfl) ?_
    refine rd_go (va_runV (As := [.int (nI pn), .int x]) (rest := []) ⟨hx, hb, hml, hown, hts⟩ (c_X0_fitAt l G a lo hi me n hn hv pn (by omega) x) (cwV 2 hts gX6_foldingsWalked_X0_fitAt rfl rfl rfl (by decide +kernel) (rm_ok3 (d + 1) (by decide))) (rV (ws := anW G a lo hi me (nI n)) (va_recv (ws := stW G a fo tn w t lo hi me (nI n) qu gu ri re) hK hP (ci := 0) (q0 := 3) rfl rfl) hK hN (P_mid (pre := [(a 0, .inr (4, [.int fo, .int tn, .ref (a 1), .ref (a 2), .ref (a 3), .int qu, .int gu, .int ri, .int re]))] ++ ([(a 1, .inl (G.2.1, 9, .inl w))] ++ ([(a 2, .inl (G.2.1, 6, .inl t))]))) (mid := anW G a lo hi me (nI n)) (suf := []) hP)) rfl rfl hl.1 rfl (lv_room (Nat.le_of_ble_eq_true rfl)) dX6_foldingsWalked_6 ⟨Nat.le_of_ble_eq_true rfl, Nat.le_of_ble_eq_true rfl⟩) ?_
    refine lv_if_ne (tgt := 14) hx hb dX6_foldingsWalked_9 (by decide) (fun c_9 => ?_) (fun c_9 => ?_)
    · have c_9 := b2_ne c_9
      refine lv_iload_n hx hb dX6_foldingsWalked_14 rfl (lv_at hl 1 rfl) ?_
      refine lv_bipush (v := nI 9) hx hb dX6_foldingsWalked_15 (by decide) ?_
      refine lv_icmp_lt (tgt := 22) hx hb dX6_foldingsWalked_17 (by decide) (fun c_17 => ?_) (fun c_17 => ?_)
      · refine lv_aload_n hx hb dX6_foldingsWalked_22 rfl (lv_at hl 0 rfl) ?_
        refine lv_iload_n hx hb dX6_foldingsWalked_23 rfl (lv_at hl 1 rfl) ?_
        refine lv_iconst (v := nI 1) hx hb dX6_foldingsWalked_24 (by decide) ?_
        refine lv_iadd hx hb dX6_foldingsWalked_25 ?_
        refine lv_cgi (y := nI (pn + 1)) (nI_add _ _) ?_
        refine lv_iload_n hx hb dX6_foldingsWalked_26 rfl (lv_at hl 2 rfl) ?_
        refine rd_go (va_runS (As := [.ref (a 0), .int (nI (pn + 1)), .int x]) (rest := []) ⟨hx, hb, hml, hown, hts⟩ (ihw (pn + 1) x (by omega)) (va_cwS 3 hts gX6_foldingsWalked_X6_foldingsWalked rfl rfl rfl (by decide +kernel) (rm_ok d (by decide))) (rS (ws := stW G a fo tn w t lo hi me (nI n) qu gu ri re) hK hN hP) rfl rfl hl.1 rfl (lv_room (Nat.le_of_ble_eq_true rfl)) dX6_foldingsWalked_27 ⟨Nat.le_of_ble_eq_true rfl, Nat.le_of_ble_eq_true rfl⟩) ?_
        refine lv_istore_n (lv' := [(3, .int (fwC tn lo hi me n d (pn + 1) x)), (0, .ref (a 0)), (1, .int (nI pn)), (2, .int x)]) hx hb dX6_foldingsWalked_30 rfl hl (by decide) rfl (fun ls hl => ?_)
        refine lv_aload_n hx hb dX6_foldingsWalked_31 rfl (lv_at hl 1 rfl) ?_
        refine va_get (D := G.1) (ws := stW G a fo tn w t lo hi me (nI n) qu gu ri re) (ci := 4) (v := .int tn) (C := RX5) (T := TX5) (N := 9) hx hb hts (fun _ h => List.mem_cons_of_mem _ (List.mem_append_left _ (List.mem_append_right _ (h)))) hown hK hP 0 rfl rfl 1 (by decide) (hts (.fieldLink RX6 48 "CreaseMaps$State" "torn" "I") (List.mem_of_getElem? (i := 2) rfl)) (fun _ h9 => h9) rfl dX6_foldingsWalked_32 ?_
        refine lv_iload_n hx hb dX6_foldingsWalked_35 rfl (lv_at hl 2 rfl) ?_
        refine rd_go (va_runS (As := [.int tn, .int (nI pn)]) (rest := []) ⟨hx, hb, hml, hown, hts⟩ (c_X6_has l G tn (nI pn)) (va_cwS 2 hts gX6_foldingsWalked_X6_has rfl rfl rfl (by decide +kernel) (rm_ok2 (d + 1) (by decide))) (rS (ws := []) hK hN P_nil) rfl rfl hl.1 rfl (lv_room (Nat.le_of_ble_eq_true rfl)) dX6_foldingsWalked_36 ⟨Nat.le_of_ble_eq_true rfl, Nat.le_of_ble_eq_true rfl⟩) ?_
        refine lv_if_ne (tgt := 57) hx hb dX6_foldingsWalked_39 (by decide) (fun c_39 => ?_) (fun c_39 => ?_)
        · have c_39 := b2_p c_39
          refine lv_iload_n hx hb dX6_foldingsWalked_57 rfl (lv_at hl 0 rfl) ?_
          exact rd_iret hx hb hr hlocks (by rw [fwC, if_pos c_9, if_pos c_39]) dX6_foldingsWalked_58
        · have c_39 := b2_q c_39
          refine lv_iload_n hx hb dX6_foldingsWalked_42 rfl (lv_at hl 0 rfl) ?_
          refine lv_aload_n hx hb dX6_foldingsWalked_43 rfl (lv_at hl 1 rfl) ?_
          refine lv_iload_n hx hb dX6_foldingsWalked_44 rfl (lv_at hl 2 rfl) ?_
          refine lv_iconst (v := nI 1) hx hb dX6_foldingsWalked_45 (by decide) ?_
          refine lv_iadd hx hb dX6_foldingsWalked_46 ?_
          refine lv_cgi (y := nI (pn + 1)) (nI_add _ _) ?_
          refine lv_iload_n hx hb dX6_foldingsWalked_47 rfl (lv_at hl 3 rfl) ?_
          refine lv_iconst (v := nI 1) hx hb dX6_foldingsWalked_48 (by decide) ?_
          refine lv_iload_n hx hb dX6_foldingsWalked_49 rfl (lv_at hl 2 rfl) ?_
          refine lv_ishl hx hb dX6_foldingsWalked_50 ?_
          refine lv_ior hx hb dX6_foldingsWalked_51 ?_
          refine rd_go (va_runS (As := [.ref (a 0), .int (nI (pn + 1)), .int (x ||| ((nI 1) <<< ((nI pn) &&& 31)))]) (rest := [.int (fwC tn lo hi me n d (pn + 1) x)]) ⟨hx, hb, hml, hown, hts⟩ (ihw (pn + 1) (x ||| (ms1 (nI pn))) (by omega)) (va_cwS 3 hts gX6_foldingsWalked_X6_foldingsWalked rfl rfl rfl (by decide +kernel) (rm_ok d (by decide))) (rS (ws := stW G a fo tn w t lo hi me (nI n) qu gu ri re) hK hN hP) rfl rfl hl.1 rfl (lv_room (Nat.le_of_ble_eq_true rfl)) dX6_foldingsWalked_52 ⟨Nat.le_of_ble_eq_true rfl, Nat.le_of_ble_eq_true rfl⟩) ?_
          refine lv_iadd hx hb dX6_foldingsWalked_55 ?_
          refine lv_istore_n (lv' := [(3, .int ((fwC tn lo hi me n d (pn + 1) x) + (fwC tn lo hi me n d (pn + 1) (x ||| (ms1 (nI pn)))))), (0, .ref (a 0)), (1, .int (nI pn)), (2, .int x)]) hx hb dX6_foldingsWalked_56 rfl hl (by decide) rfl (fun ls hl => ?_)
          refine lv_iload_n hx hb dX6_foldingsWalked_57 rfl (lv_at hl 0 rfl) ?_
          exact rd_iret hx hb hr hlocks (by rw [fwC, if_pos c_9, if_neg c_39]) dX6_foldingsWalked_58
      · exact absurd (nI_lt (by omega) (by omega)) c_17
    · have c_9 := b2_eq c_9
      refine lv_iconst (v := nI 0) hx hb dX6_foldingsWalked_12 (by decide) ?_
      exact rd_iret hx hb hr hlocks (by rw [fwC, if_neg (by rw [c_9]; exact Bool.false_ne_true)]) dX6_foldingsWalked_13


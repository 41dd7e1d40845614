set_option maxHeartbeats 4000000 in
set_option maxRecDepth 100000 in
theorem c_X6_mixTowns (l : Launch) (G : GG) (xa so : Nat) (b ce a hh : Nat → Nat) (sg : Nat → Int32) (ln : Nat) (hln : ln ≤ 60) (mk : Nat → Int32) (cs up fo tn : Int32) (w t lo hi me : Nat → Int32) (n : Nat) (hn : n ≤ 12) (qu gu ri re : Int32) (P : Nat → Nat → Nat) (F : Nat → Nat → Nat → Int32) (z : Nat) (hz : z ≤ 6) (o0 o1 : SLO) (hT : okP t) (h : Int64) : RD l yX6_mixTowns wsX6_mixTowns 5 G [.ref xa, .long h] ([(xa, .inr (5, [.ref (a 0), .ref (hh 0), .ref so, .ref (b 0), .ref (ce 0)]))] ++ ([(so, .inl (G.2.2.2.1, 2, .inr (.inr (.inr (.inr (slR o0 o1))))))] ++ (txW G b sg (nI ln) ++ (ceW G ce mk cs up ++ (stW G a fo tn w t lo hi me (nI n) qu gu ri re ++ ([(hh 0, .inr (2, [.ref (hh 1), .int (nI z)]))] ++ (hiR G hh P F ++ (slS G o0 ++ (slS G o1))))))))) (some (.long (dta (cT t) (cB fo t lo hi me n) 6 h))) := by
  refine rd_of (cc := cX6_mixTowns) (maxL := 8) (ret := (some .long)) (by decide) rfl (Nat.le_of_ble_eq_true rfl) ?_
  intro pG eG s mG below meth cG hx hb hr hml hts hown hlocks hP hK hN ls hl
  have hown : s.vm.findClass RX6 = some mG.cls := hown
  have hl : lv_has ls 8 [(0, .ref xa), (1, .long h)] := hl
  refine lv_lload_n hx hb dX6_mixTowns_0 rfl (lv_at hl 1 rfl) ?_
  refine lv_lstore_n (lv' := [(3, .long h), (0, .ref xa), (1, .long h)]) hx hb dX6_mixTowns_1 rfl hl (by decide) rfl (fun ls hl => ?_)
  refine lv_iconst (v := nI 0) hx hb dX6_mixTowns_2 (by decide) ?_
  refine lv_istore (lv' := [(5, .int (nI 0)), (3, .long h), (0, .ref xa), (1, .long h)]) hx hb dX6_mixTowns_3 hl (by decide) rfl (fun ls hl => ?_)
  have L5 : ∀ (fu5 : Nat) (k1 : Nat) (hk1 : k1 ≤ 6), 6 + 1 ≤ k1 + fu5 → ∀ ls : Array Slot, lv_has ls 8 [(0, .ref xa), (3, .long (dta (cT t) (cB fo t lo hi me n) k1 h)), (5, .int (nI k1))] → W pG l eG (RM 5 0 0) s mG ([.ref xa, .long h] : List Value).toArray below meth cG s.heap [] 0 0 (MQ below (rQ (some (.long (dta (cT t) (cB fo t lo hi me n) 6 h)))) ([.ref xa, .long h] : List Value).toArray s 0 0 (fun _ => False)) (F0 mG 5 ls []) := by
    intro fu5
    induction fu5 with
    | zero => intro k1 hk1 hfu5; exact absurd hfu5 (by omega)
    | succ fu5 ih5 =>
      intro k1 hk1 hfu5 ls hl
      refine lv_iload hx hb dX6_mixTowns_5 (lv_at hl 2 rfl) ?_
      refine lv_bipush (v := nI 6) hx hb dX6_mixTowns_7 (by decide) ?_
      refine lv_icmp_ge (tgt := 84) hx hb dX6_mixTowns_9 (by decide) (fun c_9 => ?_) (fun c_9 => ?_)
      · have q1 : 6 ≤ k1 := fe c_9 (by omega) (by omega)
        refine lv_lload_n hx hb dX6_mixTowns_84 rfl (lv_at hl 1 rfl) ?_
        exact rd_lret hx hb hr hlocks (by rw [show k1 = 6 by omega]) dX6_mixTowns_85
      · have q1 : k1 < 6 := fl c_9 (by omega) (by omega)
        refine lv_lload_n hx hb dX6_mixTowns_12 rfl (lv_at hl 1 rfl) ?_
        refine lv_aload_n hx hb dX6_mixTowns_13 rfl (lv_at hl 0 rfl) ?_
        refine va_get (D := G.1) (ws := [(xa, .inr (5, [.ref (a 0), .ref (hh 0), .ref so, .ref (b 0), .ref (ce 0)]))] ++ ([(so, .inl (G.2.2.2.1, 2, .inr (.inr (.inr (.inr (slR o0 o1))))))] ++ (txW G b sg (nI ln) ++ (ceW G ce mk cs up ++ (stW G a fo tn w t lo hi me (nI n) qu gu ri re ++ ([(hh 0, .inr (2, [.ref (hh 1), .int (nI z)]))] ++ (hiR G hh P F ++ (slS G o0 ++ (slS G o1))))))))) (ci := 5) (v := .ref (a 0)) (C := RX6) (T := TX6) (N := 5) hx hb hts (fun _ h => List.mem_cons_of_mem _ (List.mem_append_left _ (List.mem_append_left _ (List.mem_append_left _ (List.mem_append_left _ (List.mem_append_right _ (h))))))) hown hK hP 0 rfl rfl 0 (by decide) (hts (.fieldLink RX6 10 "CreaseMaps" "now" "LCreaseMaps$State;") (List.mem_of_getElem? (i := 1) rfl)) (fun _ h9 => h9) rfl dX6_mixTowns_14 ?_
        refine va_get (D := G.1) (ws := [(xa, .inr (5, [.ref (a 0), .ref (hh 0), .ref so, .ref (b 0), .ref (ce 0)]))] ++ ([(so, .inl (G.2.2.2.1, 2, .inr (.inr (.inr (.inr (slR o0 o1))))))] ++ (txW G b sg (nI ln) ++ (ceW G ce mk cs up ++ (stW G a fo tn w t lo hi me (nI n) qu gu ri re ++ ([(hh 0, .inr (2, [.ref (hh 1), .int (nI z)]))] ++ (hiR G hh P F ++ (slS G o0 ++ (slS G o1))))))))) (ci := 4) (v := .ref (a 2)) (C := RX5) (T := TX5) (N := 9) hx hb hts (fun _ h => List.mem_cons_of_mem _ (List.mem_append_left _ (List.mem_append_left _ (List.mem_append_left _ (List.mem_append_right _ (h)))))) hown hK hP 6 rfl rfl 3 (by decide) (hts (.fieldLink RX6 80 "CreaseMaps$State" "towns" "[I") (List.mem_of_getElem? (i := 2) rfl)) (fun _ h9 => h9) rfl dX6_mixTowns_17 ?_
        refine lv_iload hx hb dX6_mixTowns_20 (lv_at hl 2 rfl) ?_
        refine va_iald (D := G.1) (ws := [(xa, .inr (5, [.ref (a 0), .ref (hh 0), .ref so, .ref (b 0), .ref (ce 0)]))] ++ ([(so, .inl (G.2.2.2.1, 2, .inr (.inr (.inr (.inr (slR o0 o1))))))] ++ (txW G b sg (nI ln) ++ (ceW G ce mk cs up ++ (stW G a fo tn w t lo hi me (nI n) qu gu ri re ++ ([(hh 0, .inr (2, [.ref (hh 1), .int (nI z)]))] ++ (hiR G hh P F ++ (slS G o0 ++ (slS G o1))))))))) hx hb hK hP 8 0 (n := 6) rfl rfl (by first | assumption | exact vp_in_nI (by omega) (by omega)) dX6_mixTowns_22 ?_
        refine lv_cgi (y := t k1) (by rw [nI_clamp (by omega)]) ?_
        refine lv_i2l (v := (t k1).toInt64) hx hb dX6_mixTowns_23 rfl ?_
        refine rd_go (va_runS (As := [.long (dta (cT t) (cB fo t lo hi me n) k1 h), .long ((t k1).toInt64)]) (rest := []) ⟨hx, hb, hml, hown, hts⟩ (c_X6_mix l G (dta (cT t) (cB fo t lo hi me n) k1 h) ((t k1).toInt64)) (va_cwS 2 hts gX6_mixTowns_X6_mix rfl rfl rfl (by decide +kernel) ⟨Nat.le_of_ble_eq_true rfl, Nat.le_of_ble_eq_true rfl⟩) (rS (ws := []) hK hN P_nil) rfl rfl hl.1 rfl (lv_room (Nat.le_of_ble_eq_true rfl)) dX6_mixTowns_24 ⟨Nat.le_of_ble_eq_true rfl, Nat.le_of_ble_eq_true rfl⟩) ?_
        refine lv_lstore_n (lv' := [(3, .long (mx (dta (cT t) (cB fo t lo hi me n) k1 h) ((t k1).toInt64))), (0, .ref xa), (5, .int (nI k1))]) hx hb dX6_mixTowns_27 rfl hl (by decide) rfl (fun ls hl => ?_)
        refine lv_iload hx hb dX6_mixTowns_28 (lv_at hl 2 rfl) ?_
        refine lv_iconst (v := nI 1) hx hb dX6_mixTowns_30 (by decide) ?_
        refine lv_iadd hx hb dX6_mixTowns_31 ?_
        refine lv_cgi (y := nI (k1 + 1)) (nI_add _ _) ?_
        refine lv_istore (lv' := [(6, .int (nI (k1 + 1))), (3, .long (mx (dta (cT t) (cB fo t lo hi me n) k1 h) ((t k1).toInt64))), (0, .ref xa), (5, .int (nI k1))]) hx hb dX6_mixTowns_32 hl (by decide) rfl (fun ls hl => ?_)
        have L34 : ∀ (fu34 : Nat) (m9 : Nat) (hm9 : k1 + 1 + m9 ≤ 6), 6 ≤ k1 + m9 + fu34 → ∀ ls : Array Slot, lv_has ls 8 [(0, .ref xa), (3, .long (dtm (cB fo t lo hi me n k1) k1 m9 (mx (dta (cT t) (cB fo t lo hi me n) k1 h) ((t k1).toInt64)))), (5, .int (nI k1)), (6, .int (nI (k1 + 1 + m9)))] → W pG l eG (RM 5 0 0) s mG ([.ref xa, .long h] : List Value).toArray below meth cG s.heap [] 0 0 (MQ below (rQ (some (.long (dta (cT t) (cB fo t lo hi me n) 6 h)))) ([.ref xa, .long h] : List Value).toArray s 0 0 (fun _ => False)) (F0 mG 34 ls []) := by
          intro fu34
          induction fu34 with
          | zero => intro m9 hm9 hfu34; exact absurd hfu34 (by omega)
          | succ fu34 ih34 =>
            intro m9 hm9 hfu34 ls hl
            refine lv_iload hx hb dX6_mixTowns_34 (lv_at hl 3 rfl) ?_
            refine lv_bipush (v := nI 6) hx hb dX6_mixTowns_36 (by decide) ?_
            refine lv_icmp_ge (tgt := 78) hx hb dX6_mixTowns_38 (by decide) (fun c_38 => ?_) (fun c_38 => ?_)
            · have q1 : 6 ≤ k1 + 1 + m9 := fe c_38 (by omega) (by omega)
              refine lv_iinc (v := nI (k1 + 1)) (lv' := [(5, .int (nI (k1 + 1))), (0, .ref xa), (3, .long (dtm (cB fo t lo hi me n k1) k1 m9 (mx (dta (cT t) (cB fo t lo hi me n) k1 h) ((t k1).toInt64)))), (6, .int (nI (k1 + 1 + m9)))]) hx hb dX6_mixTowns_78 hl (k := 2) rfl (iincN k1) (by decide) rfl (fun ls hl => ?_)
              refine lv_goto (tgt := 5) hx hb dX6_mixTowns_81 (by decide) ?_
              exact ih5 (k1 + 1) (by omega) (by omega) ls (lv_as (l1 := [(0, .ref xa), (3, .long (dtm (cB fo t lo hi me n k1) k1 m9 (mx (dta (cT t) (cB fo t lo hi me n) k1 h) ((t k1).toInt64)))), (5, .int (nI (k1 + 1)))]) (lv_sub hl [1, 2, 0] rfl) (by rw [dta_s, show 5 - k1 = m9 by omega]; try rfl))
            · have q1 : k1 + 1 + m9 < 6 := fl c_38 (by omega) (by omega)
              refine lv_iconst (v := nI 0) hx hb dX6_mixTowns_41 (by decide) ?_
              refine lv_istore (lv' := [(7, .int (nI 0)), (0, .ref xa), (3, .long (dtm (cB fo t lo hi me n k1) k1 m9 (mx (dta (cT t) (cB fo t lo hi me n) k1 h) ((t k1).toInt64)))), (5, .int (nI k1)), (6, .int (nI (k1 + 1 + m9)))]) hx hb dX6_mixTowns_42 hl (by decide) rfl (fun ls hl => ?_)
              have L44 : ∀ (fu44 : Nat) (v : Nat) (hv4 : v ≤ 4), 4 + 1 ≤ v + fu44 → ∀ ls : Array Slot, lv_has ls 8 [(0, .ref xa), (3, .long (dgs (cB fo t lo hi me n k1 (k1 + 1 + m9)) v (dtm (cB fo t lo hi me n k1) k1 m9 (mx (dta (cT t) (cB fo t lo hi me n) k1 h) ((t k1).toInt64))))), (5, .int (nI k1)), (6, .int (nI (k1 + 1 + m9))), (7, .int (nI v))] → W pG l eG (RM 5 0 0) s mG ([.ref xa, .long h] : List Value).toArray below meth cG s.heap [] 0 0 (MQ below (rQ (some (.long (dta (cT t) (cB fo t lo hi me n) 6 h)))) ([.ref xa, .long h] : List Value).toArray s 0 0 (fun _ => False)) (F0 mG 44 ls []) := by
                intro fu44
                induction fu44 with
                | zero => intro v hv4 hfu44; exact absurd hfu44 (by omega)
                | succ fu44 ih44 =>
                  intro v hv4 hfu44 ls hl
                  refine lv_iload hx hb dX6_mixTowns_44 (lv_at hl 4 rfl) ?_
                  refine lv_iconst (v := nI 4) hx hb dX6_mixTowns_46 (by decide) ?_
                  refine lv_icmp_ge (tgt := 72) hx hb dX6_mixTowns_47 (by decide) (fun c_47 => ?_) (fun c_47 => ?_)
                  · have q1 : 4 ≤ v := fe c_47 (by omega) (by omega)
                    refine lv_iinc (v := nI ((k1 + 1 + m9) + 1)) (lv' := [(6, .int (nI ((k1 + 1 + m9) + 1))), (0, .ref xa), (3, .long (dgs (cB fo t lo hi me n k1 (k1 + 1 + m9)) v (dtm (cB fo t lo hi me n k1) k1 m9 (mx (dta (cT t) (cB fo t lo hi me n) k1 h) ((t k1).toInt64))))), (5, .int (nI k1)), (7, .int (nI v))]) hx hb dX6_mixTowns_72 hl (k := 3) rfl (iincN (k1 + 1 + m9)) (by decide) rfl (fun ls hl => ?_)
                    refine lv_goto (tgt := 34) hx hb dX6_mixTowns_75 (by decide) ?_
                    exact ih34 (m9 + 1) (by omega) (by omega) ls (lv_as (l1 := [(0, .ref xa), (3, .long (dgs (cB fo t lo hi me n k1 (k1 + 1 + m9)) v (dtm (cB fo t lo hi me n k1) k1 m9 (mx (dta (cT t) (cB fo t lo hi me n) k1 h) ((t k1).toInt64))))), (5, .int (nI k1)), (6, .int (nI ((k1 + 1 + m9) + 1)))]) (lv_sub hl [1, 2, 3, 0] rfl) (by rw [show v = 4 by omega]; try rfl))
                  · have q1 : v < 4 := fl c_47 (by omega) (by omega)
                    refine lv_lload_n hx hb dX6_mixTowns_50 rfl (lv_at hl 1 rfl) ?_
                    refine lv_aload_n hx hb dX6_mixTowns_51 rfl (lv_at hl 0 rfl) ?_
                    refine lv_iload hx hb dX6_mixTowns_52 (lv_at hl 2 rfl) ?_
                    refine lv_iload hx hb dX6_mixTowns_54 (lv_at hl 3 rfl) ?_
                    refine lv_iload hx hb dX6_mixTowns_56 (lv_at hl 4 rfl) ?_
                    refine rd_go (va_runV (As := [.int (nI k1), .int (nI (k1 + 1 + m9)), .int (nI v)]) (rest := [.long (dgs (cB fo t lo hi me n k1 (k1 + 1 + m9)) v (dtm (cB fo t lo hi me n k1) k1 m9 (mx (dta (cT t) (cB fo t lo hi me n) k1 h) ((t k1).toInt64))))]) ⟨hx, hb, hml, hown, hts⟩ (c_X6_between l G xa so b ce a hh sg ln hln mk cs up fo tn w t lo hi me n hn qu gu ri re P F z hz o0 o1 k1 (k1 + 1 + m9) (by omega) (by omega) (hT _ (by omega)) (hT _ (by omega)) v (by omega)) (cwV 3 hts gX6_mixTowns_X6_between rfl rfl rfl (by decide +kernel) ⟨Nat.le_of_ble_eq_true rfl, Nat.le_of_ble_eq_true rfl⟩) (rV (ws := [(xa, .inr (5, [.ref (a 0), .ref (hh 0), .ref so, .ref (b 0), .ref (ce 0)]))] ++ ([(so, .inl (G.2.2.2.1, 2, .inr (.inr (.inr (.inr (slR o0 o1))))))] ++ (txW G b sg (nI ln) ++ (ceW G ce mk cs up ++ (stW G a fo tn w t lo hi me (nI n) qu gu ri re ++ ([(hh 0, .inr (2, [.ref (hh 1), .int (nI z)]))] ++ (hiR G hh P F ++ (slS G o0 ++ (slS G o1))))))))) (va_recv (ws := [(xa, .inr (5, [.ref (a 0), .ref (hh 0), .ref so, .ref (b 0), .ref (ce 0)]))] ++ ([(so, .inl (G.2.2.2.1, 2, .inr (.inr (.inr (.inr (slR o0 o1))))))] ++ (txW G b sg (nI ln) ++ (ceW G ce mk cs up ++ (stW G a fo tn w t lo hi me (nI n) qu gu ri re ++ ([(hh 0, .inr (2, [.ref (hh 1), .int (nI z)]))] ++ (hiR G hh P F ++ (slS G o0 ++ (slS G o1))))))))) hK hP (ci := 5) (q0 := 0) rfl rfl) hK hN hP) rfl rfl hl.1 rfl (lv_room (Nat.le_of_ble_eq_true rfl)) dX6_mixTowns_58 ⟨Nat.le_of_ble_eq_true rfl, Nat.le_of_ble_eq_true rfl⟩) ?_
                    refine lv_i2l (v := (obC fo t lo hi me n k1 (k1 + 1 + m9) v).toInt64) hx hb dX6_mixTowns_61 rfl ?_
                    refine rd_go (va_runS (As := [.long (dgs (cB fo t lo hi me n k1 (k1 + 1 + m9)) v (dtm (cB fo t lo hi me n k1) k1 m9 (mx (dta (cT t) (cB fo t lo hi me n) k1 h) ((t k1).toInt64)))), .long ((obC fo t lo hi me n k1 (k1 + 1 + m9) v).toInt64)]) (rest := []) ⟨hx, hb, hml, hown, hts⟩ (c_X6_mix l G (dgs (cB fo t lo hi me n k1 (k1 + 1 + m9)) v (dtm (cB fo t lo hi me n k1) k1 m9 (mx (dta (cT t) (cB fo t lo hi me n) k1 h) ((t k1).toInt64)))) ((obC fo t lo hi me n k1 (k1 + 1 + m9) v).toInt64)) (va_cwS 2 hts gX6_mixTowns_X6_mix rfl rfl rfl (by decide +kernel) ⟨Nat.le_of_ble_eq_true rfl, Nat.le_of_ble_eq_true rfl⟩) (rS (ws := []) hK hN P_nil) rfl rfl hl.1 rfl (lv_room (Nat.le_of_ble_eq_true rfl)) dX6_mixTowns_62 ⟨Nat.le_of_ble_eq_true rfl, Nat.le_of_ble_eq_true rfl⟩) ?_
                    refine lv_lstore_n (lv' := [(3, .long (mx (dgs (cB fo t lo hi me n k1 (k1 + 1 + m9)) v (dtm (cB fo t lo hi me n k1) k1 m9 (mx (dta (cT t) (cB fo t lo hi me n) k1 h) ((t k1).toInt64)))) ((obC fo t lo hi me n k1 (k1 + 1 + m9) v).toInt64))), (0, .ref xa), (5, .int (nI k1)), (6, .int (nI (k1 + 1 + m9))), (7, .int (nI v))]) hx hb dX6_mixTowns_65 rfl hl (by decide) rfl (fun ls hl => ?_)
                    refine lv_iinc (v := nI (v + 1)) (lv' := [(7, .int (nI (v + 1))), (3, .long (mx (dgs (cB fo t lo hi me n k1 (k1 + 1 + m9)) v (dtm (cB fo t lo hi me n k1) k1 m9 (mx (dta (cT t) (cB fo t lo hi me n) k1 h) ((t k1).toInt64)))) ((obC fo t lo hi me n k1 (k1 + 1 + m9) v).toInt64))), (0, .ref xa), (5, .int (nI k1)), (6, .int (nI (k1 + 1 + m9)))]) hx hb dX6_mixTowns_66 hl (k := 4) rfl (iincN v) (by decide) rfl (fun ls hl => ?_)
                    refine lv_goto (tgt := 44) hx hb dX6_mixTowns_69 (by decide) ?_
                    exact ih44 (v + 1) (by omega) (by omega) ls (lv_as (l1 := [(0, .ref xa), (3, .long (mx (dgs (cB fo t lo hi me n k1 (k1 + 1 + m9)) v (dtm (cB fo t lo hi me n k1) k1 m9 (mx (dta (cT t) (cB fo t lo hi me n) k1 h) ((t k1).toInt64)))) ((obC fo t lo hi me n k1 (k1 + 1 + m9) v).toInt64))), (5, .int (nI k1)), (6, .int (nI (k1 + 1 + m9))), (7, .int (nI (v + 1)))]) (lv_sub hl [2, 1, 3, 4, 0] rfl) (by rfl))
              exact L44 5 0 (by omega) (by omega) ls (lv_as (l1 := [(0, .ref xa), (3, .long (dtm (cB fo t lo hi me n k1) k1 m9 (mx (dta (cT t) (cB fo t lo hi me n) k1 h) ((t k1).toInt64)))), (5, .int (nI k1)), (6, .int (nI (k1 + 1 + m9))), (7, .int (nI 0))]) (lv_sub hl [1, 2, 3, 4, 0] rfl) (by rfl))
        exact L34 6 0 (by omega) (by omega) ls (lv_as (l1 := [(0, .ref xa), (3, .long (mx (dta (cT t) (cB fo t lo hi me n) k1 h) ((t k1).toInt64))), (5, .int (nI k1)), (6, .int (nI (k1 + 1)))]) (lv_sub hl [2, 1, 3, 0] rfl) (by rfl))
  exact L5 7 0 (by omega) (by omega) ls (lv_as (l1 := [(0, .ref xa), (3, .long h), (5, .int (nI 0))]) (lv_sub hl [2, 1, 0] rfl) (by rfl))

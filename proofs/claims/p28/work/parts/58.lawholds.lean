set_option maxHeartbeats 4000000 in
set_option maxRecDepth 100000 in
theorem k_holds (l : Launch) (G : GG) (sz : Nat) (X : AD) (Z : ZZ) (u : CU) {B : Nat} (hZ : OKg B Z.1) (hz : Z.2.2.2.1 ≤ 6) (hu : CV Z.1 u) (hB : B < 2 ^ 31) (xx : Int32) : WRi l yL_holds wsL_holds 16 G [.ref X.1, .int xx] (cT G X Z u) sz (S := CU) (fun r u9 => r = nI 1 ∧ CV Z.1 u9) (fun u9 => cT G X Z u9) 2 20 := by
  refine wr_of (l := l) (y := yL_holds) (w := wsL_holds) (d := 16) (G := G) (As := [.ref X.1, .int xx]) (sz := sz) (mc := 2) (ms := 20) (cc := cL_holds) (maxL := 16) (ret := (some .boolean)) (Qc := fun Ar => wQi G (S := CU) (fun r u9 => r = nI 1 ∧ CV Z.1 u9) (fun u9 => cT G X Z u9) Ar) (by decide) rfl (Nat.le_of_ble_eq_true rfl) ?_
  intro pG eG s mG below meth cG hsz hx hb hr hml hts hown hlocks hnm hP hK hN Ar hD hA hS ls hl
  have hown : s.vm.findClass RL = some mG.cls := hown
  have hP : PP G (cT G X Z u) s.heap := hP
  have hD : va_D Ar (cT G X Z u) := hD
  have hl : lv_has ls 16 [(0, .ref X.1), (1, .int xx)] := hl
  refine lv_bipush (v := nI 10) hx hb dL_holds_0 (by decide) ?_
  refine va_newa (D := G.1) (ws := cT G X Z u) (atype := .int) (ty := .int) (N' := 10) (a0 := (10, .inl (fun _ => 0))) hx hb (hts (.arrayClass .int) (List.mem_of_getElem? (i := 1) rfl)) rfl hK hP hD hS hA (fun _ => rfl) (by decide) (by decide) (Nat.le_of_ble_eq_true rfl) (Nat.le_of_ble_eq_true rfl) (Nat.le_of_ble_eq_true rfl) dL_holds_2 (fun q_1 cA H hK2 hP hD hS => ?_)
  obtain rfl : cA = G.2.1 := newa_id hK2 0 rfl
  have hP : PP G (cT G X Z u ++ ([(q_1, .inl (G.2.1, 10, .inl (fun _ => 0)))])) _ := hP
  have hD : va_D Ar (cT G X Z u ++ ([(q_1, .inl (G.2.1, 10, .inl (fun _ => 0)))])) := hD
  have hP : PP G ([(q_1, .inl (G.2.1, 10, .inl (fun _ => 0)))] ++ (cT G X Z u)) _ := P_perm (G := G) hP List.perm_append_comm
  have hD : va_D Ar ([(q_1, .inl (G.2.1, 10, .inl (fun _ => 0)))] ++ (cT G X Z u)) := D_perm hD List.perm_append_comm
  refine lv_astore_n (lv' := [(2, .ref q_1), (0, .ref X.1), (1, .int xx)]) hx hb dL_holds_4 rfl hl (by decide) rfl (fun ls hl => ?_)
  refine lv_aload_n hx hb dL_holds_5 rfl (lv_at hl 1 rfl) ?_
  refine wr_g1i (pre := [(q_1, .inl (G.2.1, 10, .inl (fun _ => 0)))]) (mid := cT G X Z u) (va_runS (As := [.ref X.1]) (rest := []) ⟨hx, hb, hml, hown, hts⟩ (k_folded l G _ X Z u hZ hz hu) (va_cwS 1 hts gL_holds_L_folded rfl rfl rfl (by decide +kernel) ⟨Nat.le_of_ble_eq_true rfl, Nat.le_of_ble_eq_true rfl⟩) (wS1 (pre := [(q_1, .inl (G.2.1, 10, .inl (fun _ => 0)))]) (mid := cT G X Z u) hK hN hP hD) rfl rfl hl.1 rfl (lv_room (Nat.le_of_ble_eq_true rfl)) dL_holds_6 ⟨Nat.le_of_ble_eq_true rfl, Nat.le_of_ble_eq_true rfl⟩) hP hD hS hA (fun r u_2 H locs hw hP9 hD9 hS => ?_)
  obtain ⟨rfl, hvu_2⟩ := hw
  have hP : PP G ([(q_1, .inl (G.2.1, 10, .inl (fun _ => 0)))] ++ (cT G X Z u_2)) _ := hP9
  have hD : va_D Ar ([(q_1, .inl (G.2.1, 10, .inl (fun _ => 0)))] ++ (cT G X Z u_2)) := hD9
  refine lv_istore_n (lv' := [(3, .int (Z.1 0 0)), (2, .ref q_1), (0, .ref X.1), (1, .int xx)]) hx hb dL_holds_9 rfl hl (by decide) rfl (fun ls hl => ?_)
  refine lv_iconst (v := nI 0) hx hb dL_holds_10 (by decide) ?_
  refine lv_istore (lv' := [(4, .int (nI 0)), (3, .int (Z.1 0 0)), (2, .ref q_1), (0, .ref X.1), (1, .int xx)]) hx hb dL_holds_11 hl (by decide) rfl (fun ls hl => ?_)
  refine lv_iconst (v := nI 0) hx hb dL_holds_13 (by decide) ?_
  refine lv_istore (lv' := [(5, .int (nI 0)), (4, .int (nI 0)), (3, .int (Z.1 0 0)), (2, .ref q_1), (0, .ref X.1), (1, .int xx)]) hx hb dL_holds_14 hl (by decide) rfl (fun ls hl => ?_)
  refine lv_iconst (v := nI 0) hx hb dL_holds_16 (by decide) ?_
  refine lv_istore (lv' := [(6, .int (nI 0)), (5, .int (nI 0)), (4, .int (nI 0)), (3, .int (Z.1 0 0)), (2, .ref q_1), (0, .ref X.1), (1, .int xx)]) hx hb dL_holds_17 hl (by decide) rfl (fun ls hl => ?_)
  refine lv_iconst (v := (-1)) hx hb dL_holds_19 (by decide) ?_
  refine lv_istore (lv' := [(7, .int (-1)), (6, .int (nI 0)), (5, .int (nI 0)), (4, .int (nI 0)), (3, .int (Z.1 0 0)), (2, .ref q_1), (0, .ref X.1), (1, .int xx)]) hx hb dL_holds_20 hl (by decide) rfl (fun ls hl => ?_)
  refine lv_iconst (v := nI 1) hx hb dL_holds_22 (by decide) ?_
  refine lv_istore (lv' := [(8, .int (nI 1)), (7, .int (-1)), (6, .int (nI 0)), (5, .int (nI 0)), (4, .int (nI 0)), (3, .int (Z.1 0 0)), (2, .ref q_1), (0, .ref X.1), (1, .int xx)]) hx hb dL_holds_23 hl (by decide) rfl (fun ls hl => ?_)
  refine lv_aload_n hx hb dL_holds_25 rfl (lv_at hl 6 rfl) ?_
  refine lv_iload_n hx hb dL_holds_26 rfl (lv_at hl 5 rfl) ?_
  refine wr_gov (pre := []) (mid := [(q_1, .inl (G.2.1, 10, .inl (fun _ => 0)))]) (suf := cT G X Z u_2) (va_runS (As := [.ref q_1, .int (Z.1 0 0)]) (rest := []) ⟨hx, hb, hml, hown, hts⟩ (k_lay l G _ q_1 (fun _ => 0) rfl (Z.1 0 0)) (va_cwS 2 hts gL_holds_L_lay rfl rfl rfl (by decide +kernel) ⟨Nat.le_of_ble_eq_true rfl, Nat.le_of_ble_eq_true rfl⟩) (wS (pre := []) (mid := [(q_1, .inl (G.2.1, 10, .inl (fun _ => 0)))]) (suf := cT G X Z u_2) hK hN hP hD) rfl rfl hl.1 rfl (lv_room (Nat.le_of_ble_eq_true rfl)) dL_holds_27 ⟨Nat.le_of_ble_eq_true rfl, Nat.le_of_ble_eq_true rfl⟩) hP hD hS hA (fun u_27 H locs hw hP9 hD9 hS => ?_)
  have hP : PP G ([(q_1, .inl (G.2.1, 10, .inl (atF (Z.1 0 0))))] ++ (cT G X Z u_2)) _ := hP9
  have hD : va_D Ar ([(q_1, .inl (G.2.1, 10, .inl (atF (Z.1 0 0))))] ++ (cT G X Z u_2)) := hD9
  refine lv_iconst (v := nI 0) hx hb dL_holds_30 (by decide) ?_
  refine lv_istore (lv' := [(9, .int (nI 0)), (8, .int (nI 1)), (7, .int (-1)), (6, .int (nI 0)), (5, .int (nI 0)), (4, .int (nI 0)), (3, .int (Z.1 0 0)), (2, .ref q_1), (0, .ref X.1), (1, .int xx)]) hx hb dL_holds_31 hl (by decide) rfl (fun ls hl => ?_)
  have L33 : ∀ (fu33 : Nat) (p : Nat) (u9 : CU) (hp : p ≤ 10) (hu9 : CV Z.1 u9), 11 ≤ p + fu33 → ∀ (H : Heap) (locs : List Loc), PP G ([(q_1, .inl (G.2.1, 10, .inl (atF (Z.1 0 0))))] ++ (cT G X Z u9)) H → va_D Ar ([(q_1, .inl (G.2.1, 10, .inl (atF (Z.1 0 0))))] ++ (cT G X Z u9)) → va_S Ar s.heap H locs → ∀ ls : Array Slot, lv_has ls 16 [(0, .ref X.1), (1, .int xx), (2, .ref q_1), (3, .int (Z.1 0 0)), (4, .int (nI 0)), (5, .int ((wd (Z.1 0 0) p).1)), (6, .int ((wd (Z.1 0 0) p).2)), (7, .int (-1)), (8, .int (nI 1)), (9, .int (nI p))] → W pG l eG (RM 16 2 20) s mG ([.ref X.1, .int xx] : List Value).toArray below meth cG H locs (0 + 1) (0 + 10) (MQ below (wQi G (S := CU) (fun r u9 => r = nI 1 ∧ CV Z.1 u9) (fun u9 => cT G X Z u9) Ar) ([.ref X.1, .int xx] : List Value).toArray s 2 20 Ar) (F0 mG 33 ls []) := by
    intro fu33
    induction fu33 with
    | zero => intro p u9 hp hu9 hfu33; exact absurd hfu33 (by omega)
    | succ fu33 ih33 =>
      intro p u9 hp hu9 hfu33 H locs hP hD hS ls hl
      refine lv_iload hx hb dL_holds_33 (lv_at hl 9 rfl) ?_
      refine lv_bipush (v := nI 10) hx hb dL_holds_35 (by decide) ?_
      refine lv_icmp_ge (tgt := 222) hx hb dL_holds_37 (by decide) (fun c_37 => ?_) (fun c_37 => ?_)
      · obtain rfl : p = 10 := by have := fe c_37 (by omega) (by omega); omega
        refine lv_bipush (v := nI 8) hx hb dL_holds_222 (by decide) ?_
        refine lv_istore (lv' := [(9, .int (nI 8)), (0, .ref X.1), (1, .int xx), (2, .ref q_1), (3, .int (Z.1 0 0)), (4, .int (nI 0)), (5, .int ((wd (Z.1 0 0) 10).1)), (6, .int ((wd (Z.1 0 0) 10).2)), (7, .int (-1)), (8, .int (nI 1))]) hx hb dL_holds_224 hl (by decide) rfl (fun ls hl => ?_)
        have L226 : ∀ (fu226 : Nat) (d : Nat) (u6 : CU) (hd : d ≤ 9) (hu6 : CV Z.1 u6), 10 ≤ d + fu226 → ∀ (H : Heap) (locs : List Loc), PP G ([(q_1, .inl (G.2.1, 10, .inl (atF (Z.1 0 0))))] ++ (cT G X Z u6)) H → va_D Ar ([(q_1, .inl (G.2.1, 10, .inl (atF (Z.1 0 0))))] ++ (cT G X Z u6)) → va_S Ar s.heap H locs → ∀ ls : Array Slot, lv_has ls 16 [(0, .ref X.1), (1, .int xx), (2, .ref q_1), (3, .int (Z.1 0 0)), (4, .int (orD (fun k => bI (Z.1 0 1) (nI k)) d)), (5, .int ((wd (Z.1 0 0) 10).1)), (6, .int ((wd (Z.1 0 0) 10).2)), (7, .int (wkL (Z.1 0 0) (Z.1 1) d)), (8, .int (nI 1)), (9, .int (wkc d))] → W pG l eG (RM 16 2 20) s mG ([.ref X.1, .int xx] : List Value).toArray below meth cG H locs (0 + 1) (0 + 10) (MQ below (wQi G (S := CU) (fun r u9 => r = nI 1 ∧ CV Z.1 u9) (fun u9 => cT G X Z u9) Ar) ([.ref X.1, .int xx] : List Value).toArray s 2 20 Ar) (F0 mG 226 ls []) := by
          intro fu226
          induction fu226 with
          | zero => intro d u6 hd hu6 hfu226; exact absurd hfu226 (by omega)
          | succ fu226 ih226 =>
            intro d u6 hd hu6 hfu226 H locs hP hD hS ls hl
            refine lv_iload hx hb dL_holds_226 (lv_at hl 9 rfl) ?_
            refine lv_if_lt (tgt := 295) hx hb dL_holds_228 (by decide) (fun c_228 => ?_) (fun c_228 => ?_)
            · obtain rfl : d = 9 := by have := wkc_lt c_228; omega
              have hl : lv_has ls 16 [(0, .ref X.1), (1, .int xx), (2, .ref q_1), (3, .int (Z.1 0 0)), (4, .int (Z.1 0 1)), (5, .int ((wd (Z.1 0 0) 10).1)), (6, .int ((wd (Z.1 0 0) 10).2)), (7, .int (wkL (Z.1 0 0) (Z.1 1) 9)), (8, .int (nI 1)), (9, .int (wkc 9))] := lv_as hl (by rw [orD_tn hZ])
              have hl : lv_has ls 16 [(0, .ref X.1), (1, .int xx), (2, .ref q_1), (3, .int (Z.1 0 0)), (4, .int (Z.1 0 1)), (5, .int ((wd (Z.1 0 0) 10).1)), (6, .int ((wd (Z.1 0 0) 10).2)), (7, .int (wkL (Z.1 0 0) (Z.1 1) 9)), (8, .int (nI 1)), (9, .int (wkc 9))] := hl
              refine lv_iconst (v := nI 0) hx hb dL_holds_295 (by decide) ?_
              refine lv_istore (lv' := [(9, .int (nI 0)), (0, .ref X.1), (1, .int xx), (2, .ref q_1), (3, .int (Z.1 0 0)), (4, .int (Z.1 0 1)), (5, .int ((wd (Z.1 0 0) 10).1)), (6, .int ((wd (Z.1 0 0) 10).2)), (7, .int (wkL (Z.1 0 0) (Z.1 1) 9)), (8, .int (nI 1))]) hx hb dL_holds_296 hl (by decide) rfl (fun ls hl => ?_)
              refine lv_iconst (v := nI 0) hx hb dL_holds_298 (by decide) ?_
              refine lv_istore (lv' := [(10, .int (nI 0)), (9, .int (nI 0)), (0, .ref X.1), (1, .int xx), (2, .ref q_1), (3, .int (Z.1 0 0)), (4, .int (Z.1 0 1)), (5, .int ((wd (Z.1 0 0) 10).1)), (6, .int ((wd (Z.1 0 0) 10).2)), (7, .int (wkL (Z.1 0 0) (Z.1 1) 9)), (8, .int (nI 1))]) hx hb dL_holds_299 hl (by decide) rfl (fun ls hl => ?_)
              have L301 : ∀ (fu301 : Nat) (k : Nat) (u5 : CU) (hk : k ≤ 36) (hu5 : CV Z.1 u5), 37 ≤ k + fu301 → ∀ (H : Heap) (locs : List Loc), PP G ([(q_1, .inl (G.2.1, 10, .inl (atF (Z.1 0 0))))] ++ (cT G X Z u5)) H → va_D Ar ([(q_1, .inl (G.2.1, 10, .inl (atF (Z.1 0 0))))] ++ (cT G X Z u5)) → va_S Ar s.heap H locs → ∀ ls : Array Slot, lv_has ls 16 [(0, .ref X.1), (1, .int xx), (2, .ref q_1), (3, .int (Z.1 0 0)), (4, .int (Z.1 0 1)), (5, .int ((wd (Z.1 0 0) 10).1)), (6, .int ((wd (Z.1 0 0) 10).2)), (7, .int (wkL (Z.1 0 0) (Z.1 1) 9)), (8, .int (nI 1)), (9, .int (nI (cnA Z.1 k))), (10, .int (nI k))] → W pG l eG (RM 16 2 20) s mG ([.ref X.1, .int xx] : List Value).toArray below meth cG H locs (0 + 1) (0 + 10) (MQ below (wQi G (S := CU) (fun r u9 => r = nI 1 ∧ CV Z.1 u9) (fun u9 => cT G X Z u9) Ar) ([.ref X.1, .int xx] : List Value).toArray s 2 20 Ar) (F0 mG 301 ls []) := by
                intro fu301
                induction fu301 with
                | zero => intro k u5 hk hu5 hfu301; exact absurd hfu301 (by omega)
                | succ fu301 ih301 =>
                  intro k u5 hk hu5 hfu301 H locs hP hD hS ls hl
                  refine lv_iload hx hb dL_holds_301 (lv_at hl 10 rfl) ?_
                  refine lv_bipush (v := nI 36) hx hb dL_holds_303 (by decide) ?_
                  refine lv_icmp_ge (tgt := 526) hx hb dL_holds_305 (by decide) (fun c_305 => ?_) (fun c_305 => ?_)
                  · obtain rfl : k = 36 := by have := fe c_305 (by omega) (by omega); omega
                    refine lv_iload hx hb dL_holds_526 (lv_at hl 8 rfl) ?_
                    refine lv_if_eq (tgt := 627) hx hb dL_holds_528 (by decide) (fun c_528 => ?_) (fun c_528 => ?_)
                    · exact absurd c_528 (by decide)
                    · refine lv_iload_n hx hb dL_holds_531 rfl (lv_at hl 3 rfl) ?_
                      refine lv_iload hx hb dL_holds_532 (lv_at hl 4 rfl) ?_
                      refine lv_iand hx hb dL_holds_534 ?_
                      refine lv_if_ne (tgt := 627) hx hb dL_holds_535 (by decide) (fun c_535 => ?_) (fun c_535 => ?_)
                      · exact (c_535 (okg_d hZ)).elim
                      · refine lv_aload_n hx hb dL_holds_538 rfl (lv_at hl 0 rfl) ?_
                        refine lv_iconst (v := nI 0) hx hb dL_holds_539 (by decide) ?_
                        refine wr_g1i (pre := [(q_1, .inl (G.2.1, 10, .inl (atF (Z.1 0 0))))]) (mid := cT G X Z u5) (va_runV (As := [.int (nI 0)]) (rest := []) ⟨hx, hb, hml, hown, hts⟩ (k_co0 l G _ X Z u5 hZ hz hu5) (cwV 1 hts gL_holds_X6_count rfl rfl rfl (by decide +kernel) ⟨Nat.le_of_ble_eq_true rfl, Nat.le_of_ble_eq_true rfl⟩) (wV1 (pre := [(q_1, .inl (G.2.1, 10, .inl (atF (Z.1 0 0))))]) (mid := cT G X Z u5) (va_recv (ws := [(q_1, .inl (G.2.1, 10, .inl (atF (Z.1 0 0))))] ++ (cT G X Z u5)) hK hP (ci := 5) (q0 := 1) rfl rfl) hK hN hP hD) rfl rfl hl.1 rfl (lv_room (Nat.le_of_ble_eq_true rfl)) dL_holds_540 ⟨Nat.le_of_ble_eq_true rfl, Nat.le_of_ble_eq_true rfl⟩) hP hD hS hA (fun r u_3 H locs hw hP9 hD9 hS => ?_)
                        obtain ⟨rfl, hvu_3⟩ := hw
                        have hP : PP G ([(q_1, .inl (G.2.1, 10, .inl (atF (Z.1 0 0))))] ++ (cT G X Z u_3)) _ := hP9
                        have hD : va_D Ar ([(q_1, .inl (G.2.1, 10, .inl (atF (Z.1 0 0))))] ++ (cT G X Z u_3)) := hD9
                        refine lv_iload_n hx hb dL_holds_543 rfl (lv_at hl 3 rfl) ?_
                        refine rd_go (va_runS (As := [.int (Z.1 0 0)]) (rest := [.int (bcn (Z.1 0 0))]) ⟨hx, hb, hml, hown, hts⟩ (c_L_bits l G (Z.1 0 0)) (va_cwS 1 hts gL_holds_L_bits rfl rfl rfl (by decide +kernel) ⟨Nat.le_of_ble_eq_true rfl, Nat.le_of_ble_eq_true rfl⟩) (rS (ws := []) hK hN P_nil) rfl rfl hl.1 rfl (lv_room (Nat.le_of_ble_eq_true rfl)) dL_holds_544 ⟨Nat.le_of_ble_eq_true rfl, Nat.le_of_ble_eq_true rfl⟩) ?_
                        refine lv_icmp_ne (tgt := 627) hx hb dL_holds_547 (by decide) (fun c_547 => ?_) (fun c_547 => ?_)
                        · exact (c_547 (bits_fo hZ)).elim
                        · refine lv_aload_n hx hb dL_holds_550 rfl (lv_at hl 0 rfl) ?_
                          refine lv_iconst (v := nI 1) hx hb dL_holds_551 (by decide) ?_
                          refine wr_g1i (pre := [(q_1, .inl (G.2.1, 10, .inl (atF (Z.1 0 0))))]) (mid := cT G X Z u_3) (va_runV (As := [.int (nI 1)]) (rest := []) ⟨hx, hb, hml, hown, hts⟩ (k_co1 l G _ X Z u_3 hZ hz hvu_3) (cwV 1 hts gL_holds_X6_count rfl rfl rfl (by decide +kernel) ⟨Nat.le_of_ble_eq_true rfl, Nat.le_of_ble_eq_true rfl⟩) (wV1 (pre := [(q_1, .inl (G.2.1, 10, .inl (atF (Z.1 0 0))))]) (mid := cT G X Z u_3) (va_recv (ws := [(q_1, .inl (G.2.1, 10, .inl (atF (Z.1 0 0))))] ++ (cT G X Z u_3)) hK hP (ci := 5) (q0 := 1) rfl rfl) hK hN hP hD) rfl rfl hl.1 rfl (lv_room (Nat.le_of_ble_eq_true rfl)) dL_holds_552 ⟨Nat.le_of_ble_eq_true rfl, Nat.le_of_ble_eq_true rfl⟩) hP hD hS hA (fun r u_4 H locs hw hP9 hD9 hS => ?_)
                          obtain ⟨rfl, hvu_4⟩ := hw
                          have hP : PP G ([(q_1, .inl (G.2.1, 10, .inl (atF (Z.1 0 0))))] ++ (cT G X Z u_4)) _ := hP9
                          have hD : va_D Ar ([(q_1, .inl (G.2.1, 10, .inl (atF (Z.1 0 0))))] ++ (cT G X Z u_4)) := hD9
                          refine lv_iload hx hb dL_holds_555 (lv_at hl 4 rfl) ?_
                          refine rd_go (va_runS (As := [.int (Z.1 0 1)]) (rest := [.int (bcn (Z.1 0 1))]) ⟨hx, hb, hml, hown, hts⟩ (c_L_bits l G (Z.1 0 1)) (va_cwS 1 hts gL_holds_L_bits rfl rfl rfl (by decide +kernel) ⟨Nat.le_of_ble_eq_true rfl, Nat.le_of_ble_eq_true rfl⟩) (rS (ws := []) hK hN P_nil) rfl rfl hl.1 rfl (lv_room (Nat.le_of_ble_eq_true rfl)) dL_holds_557 ⟨Nat.le_of_ble_eq_true rfl, Nat.le_of_ble_eq_true rfl⟩) ?_
                          refine lv_icmp_ne (tgt := 627) hx hb dL_holds_560 (by decide) (fun c_560 => ?_) (fun c_560 => ?_)
                          · exact (c_560 (bits_tn hZ)).elim
                          · refine lv_aload_n hx hb dL_holds_563 rfl (lv_at hl 0 rfl) ?_
                            refine lv_iconst (v := nI 2) hx hb dL_holds_564 (by decide) ?_
                            refine wr_g1i (pre := [(q_1, .inl (G.2.1, 10, .inl (atF (Z.1 0 0))))]) (mid := cT G X Z u_4) (va_runV (As := [.int (nI 2)]) (rest := []) ⟨hx, hb, hml, hown, hts⟩ (k_co2 l G _ X Z u_4 hZ hz hvu_4) (cwV 1 hts gL_holds_X6_count rfl rfl rfl (by decide +kernel) ⟨Nat.le_of_ble_eq_true rfl, Nat.le_of_ble_eq_true rfl⟩) (wV1 (pre := [(q_1, .inl (G.2.1, 10, .inl (atF (Z.1 0 0))))]) (mid := cT G X Z u_4) (va_recv (ws := [(q_1, .inl (G.2.1, 10, .inl (atF (Z.1 0 0))))] ++ (cT G X Z u_4)) hK hP (ci := 5) (q0 := 1) rfl rfl) hK hN hP hD) rfl rfl hl.1 rfl (lv_room (Nat.le_of_ble_eq_true rfl)) dL_holds_565 ⟨Nat.le_of_ble_eq_true rfl, Nat.le_of_ble_eq_true rfl⟩) hP hD hS hA (fun r u_5 H locs hw hP9 hD9 hS => ?_)
                            obtain ⟨rfl, hvu_5⟩ := hw
                            have hP : PP G ([(q_1, .inl (G.2.1, 10, .inl (atF (Z.1 0 0))))] ++ (cT G X Z u_5)) _ := hP9
                            have hD : va_D Ar ([(q_1, .inl (G.2.1, 10, .inl (atF (Z.1 0 0))))] ++ (cT G X Z u_5)) := hD9
                            refine lv_iload hx hb dL_holds_568 (lv_at hl 6 rfl) ?_
                            refine lv_iload hx hb dL_holds_570 (lv_at hl 5 rfl) ?_
                            refine lv_isub hx hb dL_holds_572 ?_
                            refine lv_iconst (v := nI 1) hx hb dL_holds_573 (by decide) ?_
                            refine lv_iadd hx hb dL_holds_574 ?_
                            refine lv_icmp_ne (tgt := 627) hx hb dL_holds_575 (by decide) (fun c_575 => ?_) (fun c_575 => ?_)
                            · exact (c_575 rfl).elim
                            · refine lv_aload_n hx hb dL_holds_578 rfl (lv_at hl 0 rfl) ?_
                              refine rd_go (va_runV (As := []) (rest := []) ⟨hx, hb, hml, hown, hts⟩ (k_weak l G X Z u_5 hZ hz) (cwV 0 hts gL_holds_X6_weakest rfl rfl rfl (by decide +kernel) ⟨Nat.le_of_ble_eq_true rfl, Nat.le_of_ble_eq_true rfl⟩) (rV (ws := cT G X Z u_5) (va_recv (ws := [(q_1, .inl (G.2.1, 10, .inl (atF (Z.1 0 0))))] ++ (cT G X Z u_5)) hK hP (ci := 5) (q0 := 1) rfl rfl) hK hN (P_suf (pre := [(q_1, .inl (G.2.1, 10, .inl (atF (Z.1 0 0))))]) hP)) rfl rfl hl.1 rfl (lv_room (Nat.le_of_ble_eq_true rfl)) dL_holds_579 ⟨Nat.le_of_ble_eq_true rfl, Nat.le_of_ble_eq_true rfl⟩) ?_
                              refine lv_iload hx hb dL_holds_582 (lv_at hl 7 rfl) ?_
                              refine lv_icmp_ne (tgt := 627) hx hb dL_holds_584 (by decide) (fun c_584 => ?_) (fun c_584 => ?_)
                              · exact (c_584 (wkL_eq hB hZ).symm).elim
                              · refine lv_aload_n hx hb dL_holds_587 rfl (lv_at hl 0 rfl) ?_
                                refine lv_iconst (v := nI 3) hx hb dL_holds_588 (by decide) ?_
                                refine wr_g1i (pre := [(q_1, .inl (G.2.1, 10, .inl (atF (Z.1 0 0))))]) (mid := cT G X Z u_5) (va_runV (As := [.int (nI 3)]) (rest := []) ⟨hx, hb, hml, hown, hts⟩ (k_co3 l G _ X Z u_5 hZ hz hvu_5) (cwV 1 hts gL_holds_X6_count rfl rfl rfl (by decide +kernel) ⟨Nat.le_of_ble_eq_true rfl, Nat.le_of_ble_eq_true rfl⟩) (wV1 (pre := [(q_1, .inl (G.2.1, 10, .inl (atF (Z.1 0 0))))]) (mid := cT G X Z u_5) (va_recv (ws := [(q_1, .inl (G.2.1, 10, .inl (atF (Z.1 0 0))))] ++ (cT G X Z u_5)) hK hP (ci := 5) (q0 := 1) rfl rfl) hK hN hP hD) rfl rfl hl.1 rfl (lv_room (Nat.le_of_ble_eq_true rfl)) dL_holds_589 ⟨Nat.le_of_ble_eq_true rfl, Nat.le_of_ble_eq_true rfl⟩) hP hD hS hA (fun r u_6 H locs hw hP9 hD9 hS => ?_)
                                obtain ⟨rfl, hvu_6⟩ := hw
                                have hP : PP G ([(q_1, .inl (G.2.1, 10, .inl (atF (Z.1 0 0))))] ++ (cT G X Z u_6)) _ := hP9
                                have hD : va_D Ar ([(q_1, .inl (G.2.1, 10, .inl (atF (Z.1 0 0))))] ++ (cT G X Z u_6)) := hD9
                                refine lv_bipush (v := nI 12) hx hb dL_holds_592 (by decide) ?_
                                refine lv_icmp_gt (tgt := 627) hx hb dL_holds_594 (by decide) (fun c_594 => ?_) (fun c_594 => ?_)
                                · exact absurd c_594 (n12 hZ)
                                · refine lv_iload hx hb dL_holds_597 (lv_at hl 9 rfl) ?_
                                  refine lv_if_ne (tgt := 606) hx hb dL_holds_599 (by decide) (fun c_599 => ?_) (fun c_599 => ?_)
                                  · refine lv_iconst (v := nI 0) hx hb dL_holds_606 (by decide) ?_
                                    refine lv_aload_n hx hb dL_holds_607 rfl (lv_at hl 0 rfl) ?_
                                    refine lv_iconst (v := nI 3) hx hb dL_holds_608 (by decide) ?_
                                    refine wr_g1i (pre := [(q_1, .inl (G.2.1, 10, .inl (atF (Z.1 0 0))))]) (mid := cT G X Z u_6) (va_runV (As := [.int (nI 3)]) (rest := [.int (nI 0)]) ⟨hx, hb, hml, hown, hts⟩ (k_co3 l G _ X Z u_6 hZ hz hvu_6) (cwV 1 hts gL_holds_X6_count rfl rfl rfl (by decide +kernel) ⟨Nat.le_of_ble_eq_true rfl, Nat.le_of_ble_eq_true rfl⟩) (wV1 (pre := [(q_1, .inl (G.2.1, 10, .inl (atF (Z.1 0 0))))]) (mid := cT G X Z u_6) (va_recv (ws := [(q_1, .inl (G.2.1, 10, .inl (atF (Z.1 0 0))))] ++ (cT G X Z u_6)) hK hP (ci := 5) (q0 := 1) rfl rfl) hK hN hP hD) rfl rfl hl.1 rfl (lv_room (Nat.le_of_ble_eq_true rfl)) dL_holds_609 ⟨Nat.le_of_ble_eq_true rfl, Nat.le_of_ble_eq_true rfl⟩) hP hD hS hA (fun r u_7 H locs hw hP9 hD9 hS => ?_)
                                    obtain ⟨rfl, hvu_7⟩ := hw
                                    have hP : PP G ([(q_1, .inl (G.2.1, 10, .inl (atF (Z.1 0 0))))] ++ (cT G X Z u_7)) _ := hP9
                                    have hD : va_D Ar ([(q_1, .inl (G.2.1, 10, .inl (atF (Z.1 0 0))))] ++ (cT G X Z u_7)) := hD9
                                    refine lv_if_ne (tgt := 619) hx hb dL_holds_612 (by decide) (fun c_612 => ?_) (fun c_612 => ?_)
                                    · refine lv_iconst (v := nI 0) hx hb dL_holds_619 (by decide) ?_
                                      refine lv_icmp_ne (tgt := 627) hx hb dL_holds_620 (by decide) (fun c_620 => ?_) (fun c_620 => ?_)
                                      · exact absurd c_620 (by decide)
                                      · refine lv_iconst (v := nI 1) hx hb dL_holds_623 (by decide) ?_
                                        refine lv_goto (tgt := 628) hx hb dL_holds_624 (by decide) ?_
                                        refine lv_istore (lv' := [(8, .int (nI 1)), (0, .ref X.1), (1, .int xx), (2, .ref q_1), (3, .int (Z.1 0 0)), (4, .int (Z.1 0 1)), (5, .int ((wd (Z.1 0 0) 10).1)), (6, .int ((wd (Z.1 0 0) 10).2)), (7, .int (wkL (Z.1 0 0) (Z.1 1) 9)), (9, .int (nI (cnA Z.1 36))), (10, .int (nI 36))]) hx hb dL_holds_628 hl (by decide) rfl (fun ls hl => ?_)
                                        refine lv_iload hx hb dL_holds_630 (lv_at hl 0 rfl) ?_
                                        refine lv_if_eq (tgt := 657) hx hb dL_holds_632 (by decide) (fun c_632 => ?_) (fun c_632 => ?_)
                                        · exact absurd c_632 (by decide)
                                        · refine lv_aload_n hx hb dL_holds_635 rfl (lv_at hl 1 rfl) ?_
                                          refine lv_iload_n hx hb dL_holds_636 rfl (lv_at hl 4 rfl) ?_
                                          refine lv_iload hx hb dL_holds_637 (lv_at hl 5 rfl) ?_
                                          refine wr_g1i (pre := [(q_1, .inl (G.2.1, 10, .inl (atF (Z.1 0 0))))]) (mid := cT G X Z u_7) (va_runS (As := [.ref X.1, .int (Z.1 0 0), .int (Z.1 0 1)]) (rest := []) ⟨hx, hb, hml, hown, hts⟩ (k_areF l G _ X Z u_7 hZ hz hvu_7) (va_cwS 3 hts gL_holds_L_areFoldings rfl rfl rfl (by decide +kernel) ⟨Nat.le_of_ble_eq_true rfl, Nat.le_of_ble_eq_true rfl⟩) (wS1 (pre := [(q_1, .inl (G.2.1, 10, .inl (atF (Z.1 0 0))))]) (mid := cT G X Z u_7) hK hN hP hD) rfl rfl hl.1 rfl (lv_room (Nat.le_of_ble_eq_true rfl)) dL_holds_639 ⟨Nat.le_of_ble_eq_true rfl, Nat.le_of_ble_eq_true rfl⟩) hP hD hS hA (fun r u_8 H locs hw hP9 hD9 hS => ?_)
                                          obtain ⟨rfl, hvu_8⟩ := hw
                                          have hP : PP G ([(q_1, .inl (G.2.1, 10, .inl (atF (Z.1 0 0))))] ++ (cT G X Z u_8)) _ := hP9
                                          have hD : va_D Ar ([(q_1, .inl (G.2.1, 10, .inl (atF (Z.1 0 0))))] ++ (cT G X Z u_8)) := hD9
                                          refine lv_if_eq (tgt := 657) hx hb dL_holds_642 (by decide) (fun c_642 => ?_) (fun c_642 => ?_)
                                          · exact absurd c_642 (by decide)
                                          · refine lv_aload_n hx hb dL_holds_645 rfl (lv_at hl 1 rfl) ?_
                                            refine lv_iload_n hx hb dL_holds_646 rfl (lv_at hl 2 rfl) ?_
                                            refine wr_g1i (pre := [(q_1, .inl (G.2.1, 10, .inl (atF (Z.1 0 0))))]) (mid := cT G X Z u_8) (va_runS (As := [.ref X.1, .int xx]) (rest := []) ⟨hx, hb, hml, hown, hts⟩ (k_asks l G _ X Z u_8 hZ hz hvu_8 xx) (va_cwS 2 hts gL_holds_L_asks rfl rfl rfl (by decide +kernel) ⟨Nat.le_of_ble_eq_true rfl, Nat.le_of_ble_eq_true rfl⟩) (wS1 (pre := [(q_1, .inl (G.2.1, 10, .inl (atF (Z.1 0 0))))]) (mid := cT G X Z u_8) hK hN hP hD) rfl rfl hl.1 rfl (lv_room (Nat.le_of_ble_eq_true rfl)) dL_holds_647 ⟨Nat.le_of_ble_eq_true rfl, Nat.le_of_ble_eq_true rfl⟩) hP hD hS hA (fun r u_9 H locs hw hP9 hD9 hS => ?_)
                                            obtain ⟨rfl, hvu_9⟩ := hw
                                            have hP : PP G ([(q_1, .inl (G.2.1, 10, .inl (atF (Z.1 0 0))))] ++ (cT G X Z u_9)) _ := hP9
                                            have hD : va_D Ar ([(q_1, .inl (G.2.1, 10, .inl (atF (Z.1 0 0))))] ++ (cT G X Z u_9)) := hD9
                                            refine lv_if_eq (tgt := 657) hx hb dL_holds_650 (by decide) (fun c_650 => ?_) (fun c_650 => ?_)
                                            · exact absurd c_650 (by decide)
                                            · refine lv_iconst (v := nI 1) hx hb dL_holds_653 (by decide) ?_
                                              refine lv_goto (tgt := 658) hx hb dL_holds_654 (by decide) ?_
                                              exact wr_zret (G := G) (S := CU) u_9 hx hb hr hlocks (by first | decide | exact b2_nar _) (P_suf (pre := [(q_1, .inl (G.2.1, 10, .inl (atF (Z.1 0 0))))]) hP) (D_suf (pre := [(q_1, .inl (G.2.1, 10, .inl (atF (Z.1 0 0))))]) hD) hS (Nat.le_of_ble_eq_true rfl) (Nat.le_of_ble_eq_true rfl) (by exact ⟨rfl, hvu_9⟩) dL_holds_658
                                    · refine lv_iconst (v := nI 1) hx hb dL_holds_615 (by decide) ?_
                                      refine lv_goto (tgt := 620) hx hb dL_holds_616 (by decide) ?_
                                      refine lv_icmp_ne (tgt := 627) hx hb dL_holds_620 (by decide) (fun c_620 => ?_) (fun c_620 => ?_)
                                      · exact absurd ((cnA_iff hZ).mpr c_612) c_599
                                      · exact absurd c_620 (by decide)
                                  · refine lv_iconst (v := nI 1) hx hb dL_holds_602 (by decide) ?_
                                    refine lv_goto (tgt := 607) hx hb dL_holds_603 (by decide) ?_
                                    refine lv_aload_n hx hb dL_holds_607 rfl (lv_at hl 0 rfl) ?_
                                    refine lv_iconst (v := nI 3) hx hb dL_holds_608 (by decide) ?_
                                    refine wr_g1i (pre := [(q_1, .inl (G.2.1, 10, .inl (atF (Z.1 0 0))))]) (mid := cT G X Z u_6) (va_runV (As := [.int (nI 3)]) (rest := [.int (nI 1)]) ⟨hx, hb, hml, hown, hts⟩ (k_co3 l G _ X Z u_6 hZ hz hvu_6) (cwV 1 hts gL_holds_X6_count rfl rfl rfl (by decide +kernel) ⟨Nat.le_of_ble_eq_true rfl, Nat.le_of_ble_eq_true rfl⟩) (wV1 (pre := [(q_1, .inl (G.2.1, 10, .inl (atF (Z.1 0 0))))]) (mid := cT G X Z u_6) (va_recv (ws := [(q_1, .inl (G.2.1, 10, .inl (atF (Z.1 0 0))))] ++ (cT G X Z u_6)) hK hP (ci := 5) (q0 := 1) rfl rfl) hK hN hP hD) rfl rfl hl.1 rfl (lv_room (Nat.le_of_ble_eq_true rfl)) dL_holds_609 ⟨Nat.le_of_ble_eq_true rfl, Nat.le_of_ble_eq_true rfl⟩) hP hD hS hA (fun r u_10 H locs hw hP9 hD9 hS => ?_)
                                    obtain ⟨rfl, hvu_10⟩ := hw
                                    have hP : PP G ([(q_1, .inl (G.2.1, 10, .inl (atF (Z.1 0 0))))] ++ (cT G X Z u_10)) _ := hP9
                                    have hD : va_D Ar ([(q_1, .inl (G.2.1, 10, .inl (atF (Z.1 0 0))))] ++ (cT G X Z u_10)) := hD9
                                    refine lv_if_ne (tgt := 619) hx hb dL_holds_612 (by decide) (fun c_612 => ?_) (fun c_612 => ?_)
                                    · refine lv_iconst (v := nI 0) hx hb dL_holds_619 (by decide) ?_
                                      refine lv_icmp_ne (tgt := 627) hx hb dL_holds_620 (by decide) (fun c_620 => ?_) (fun c_620 => ?_)
                                      · exact absurd ((cnA_iff hZ).mp c_599) c_612
                                      · exact absurd c_620 (by decide)
                                    · refine lv_iconst (v := nI 1) hx hb dL_holds_615 (by decide) ?_
                                      refine lv_goto (tgt := 620) hx hb dL_holds_616 (by decide) ?_
                                      refine lv_icmp_ne (tgt := 627) hx hb dL_holds_620 (by decide) (fun c_620 => ?_) (fun c_620 => ?_)
                                      · exact absurd c_620 (by decide)
                                      · refine lv_iconst (v := nI 1) hx hb dL_holds_623 (by decide) ?_
                                        refine lv_goto (tgt := 628) hx hb dL_holds_624 (by decide) ?_
                                        refine lv_istore (lv' := [(8, .int (nI 1)), (0, .ref X.1), (1, .int xx), (2, .ref q_1), (3, .int (Z.1 0 0)), (4, .int (Z.1 0 1)), (5, .int ((wd (Z.1 0 0) 10).1)), (6, .int ((wd (Z.1 0 0) 10).2)), (7, .int (wkL (Z.1 0 0) (Z.1 1) 9)), (9, .int (nI (cnA Z.1 36))), (10, .int (nI 36))]) hx hb dL_holds_628 hl (by decide) rfl (fun ls hl => ?_)
                                        refine lv_iload hx hb dL_holds_630 (lv_at hl 0 rfl) ?_
                                        refine lv_if_eq (tgt := 657) hx hb dL_holds_632 (by decide) (fun c_632 => ?_) (fun c_632 => ?_)
                                        · exact absurd c_632 (by decide)
                                        · refine lv_aload_n hx hb dL_holds_635 rfl (lv_at hl 1 rfl) ?_
                                          refine lv_iload_n hx hb dL_holds_636 rfl (lv_at hl 4 rfl) ?_
                                          refine lv_iload hx hb dL_holds_637 (lv_at hl 5 rfl) ?_
                                          refine wr_g1i (pre := [(q_1, .inl (G.2.1, 10, .inl (atF (Z.1 0 0))))]) (mid := cT G X Z u_10) (va_runS (As := [.ref X.1, .int (Z.1 0 0), .int (Z.1 0 1)]) (rest := []) ⟨hx, hb, hml, hown, hts⟩ (k_areF l G _ X Z u_10 hZ hz hvu_10) (va_cwS 3 hts gL_holds_L_areFoldings rfl rfl rfl (by decide +kernel) ⟨Nat.le_of_ble_eq_true rfl, Nat.le_of_ble_eq_true rfl⟩) (wS1 (pre := [(q_1, .inl (G.2.1, 10, .inl (atF (Z.1 0 0))))]) (mid := cT G X Z u_10) hK hN hP hD) rfl rfl hl.1 rfl (lv_room (Nat.le_of_ble_eq_true rfl)) dL_holds_639 ⟨Nat.le_of_ble_eq_true rfl, Nat.le_of_ble_eq_true rfl⟩) hP hD hS hA (fun r u_11 H locs hw hP9 hD9 hS => ?_)
                                          obtain ⟨rfl, hvu_11⟩ := hw
                                          have hP : PP G ([(q_1, .inl (G.2.1, 10, .inl (atF (Z.1 0 0))))] ++ (cT G X Z u_11)) _ := hP9
                                          have hD : va_D Ar ([(q_1, .inl (G.2.1, 10, .inl (atF (Z.1 0 0))))] ++ (cT G X Z u_11)) := hD9
                                          refine lv_if_eq (tgt := 657) hx hb dL_holds_642 (by decide) (fun c_642 => ?_) (fun c_642 => ?_)
                                          · exact absurd c_642 (by decide)
                                          · refine lv_aload_n hx hb dL_holds_645 rfl (lv_at hl 1 rfl) ?_
                                            refine lv_iload_n hx hb dL_holds_646 rfl (lv_at hl 2 rfl) ?_
                                            refine wr_g1i (pre := [(q_1, .inl (G.2.1, 10, .inl (atF (Z.1 0 0))))]) (mid := cT G X Z u_11) (va_runS (As := [.ref X.1, .int xx]) (rest := []) ⟨hx, hb, hml, hown, hts⟩ (k_asks l G _ X Z u_11 hZ hz hvu_11 xx) (va_cwS 2 hts gL_holds_L_asks rfl rfl rfl (by decide +kernel) ⟨Nat.le_of_ble_eq_true rfl, Nat.le_of_ble_eq_true rfl⟩) (wS1 (pre := [(q_1, .inl (G.2.1, 10, .inl (atF (Z.1 0 0))))]) (mid := cT G X Z u_11) hK hN hP hD) rfl rfl hl.1 rfl (lv_room (Nat.le_of_ble_eq_true rfl)) dL_holds_647 ⟨Nat.le_of_ble_eq_true rfl, Nat.le_of_ble_eq_true rfl⟩) hP hD hS hA (fun r u_12 H locs hw hP9 hD9 hS => ?_)
                                            obtain ⟨rfl, hvu_12⟩ := hw
                                            have hP : PP G ([(q_1, .inl (G.2.1, 10, .inl (atF (Z.1 0 0))))] ++ (cT G X Z u_12)) _ := hP9
                                            have hD : va_D Ar ([(q_1, .inl (G.2.1, 10, .inl (atF (Z.1 0 0))))] ++ (cT G X Z u_12)) := hD9
                                            refine lv_if_eq (tgt := 657) hx hb dL_holds_650 (by decide) (fun c_650 => ?_) (fun c_650 => ?_)
                                            · exact absurd c_650 (by decide)
                                            · refine lv_iconst (v := nI 1) hx hb dL_holds_653 (by decide) ?_
                                              refine lv_goto (tgt := 658) hx hb dL_holds_654 (by decide) ?_
                                              exact wr_zret (G := G) (S := CU) u_12 hx hb hr hlocks (by first | decide | exact b2_nar _) (P_suf (pre := [(q_1, .inl (G.2.1, 10, .inl (atF (Z.1 0 0))))]) hP) (D_suf (pre := [(q_1, .inl (G.2.1, 10, .inl (atF (Z.1 0 0))))]) hD) hS (Nat.le_of_ble_eq_true rfl) (Nat.le_of_ble_eq_true rfl) (by exact ⟨rfl, hvu_12⟩) dL_holds_658
                  · have hk1 : k < 36 := fl c_305 (by omega) (by omega)
                    refine lv_iload hx hb dL_holds_308 (lv_at hl 8 rfl) ?_
                    refine lv_if_eq (tgt := 526) hx hb dL_holds_310 (by decide) (fun c_310 => ?_) (fun c_310 => ?_)
                    · exact absurd c_310 (by decide)
                    · refine lv_aload_n hx hb dL_holds_313 rfl (lv_at hl 0 rfl) ?_
                      refine lv_iload hx hb dL_holds_314 (lv_at hl 10 rfl) ?_
                      refine lv_bipush (v := nI 6) hx hb dL_holds_316 (by decide) ?_
                      refine lv_idiv hx hb dL_holds_318 (by decide) ?_
                      refine lv_cgi (y := nI (k / 6)) (pk_div (by omega) (by omega) (by omega)) ?_
                      refine rd_go (va_runV (As := [.int (nI (k / 6))]) (rest := []) ⟨hx, hb, hml, hown, hts⟩ (k_town l G X Z u5 hZ hz (k / 6) (by omega)) (cwV 1 hts gL_holds_X6_town rfl rfl rfl (by decide +kernel) ⟨Nat.le_of_ble_eq_true rfl, Nat.le_of_ble_eq_true rfl⟩) (rV (ws := cT G X Z u5) (va_recv (ws := [(q_1, .inl (G.2.1, 10, .inl (atF (Z.1 0 0))))] ++ (cT G X Z u5)) hK hP (ci := 5) (q0 := 1) rfl rfl) hK hN (P_suf (pre := [(q_1, .inl (G.2.1, 10, .inl (atF (Z.1 0 0))))]) hP)) rfl rfl hl.1 rfl (lv_room (Nat.le_of_ble_eq_true rfl)) dL_holds_319 ⟨Nat.le_of_ble_eq_true rfl, Nat.le_of_ble_eq_true rfl⟩) ?_
                      refine lv_istore (lv' := [(11, .int (Z.1 2 (k / 6))), (0, .ref X.1), (1, .int xx), (2, .ref q_1), (3, .int (Z.1 0 0)), (4, .int (Z.1 0 1)), (5, .int ((wd (Z.1 0 0) 10).1)), (6, .int ((wd (Z.1 0 0) 10).2)), (7, .int (wkL (Z.1 0 0) (Z.1 1) 9)), (8, .int (nI 1)), (9, .int (nI (cnA Z.1 k))), (10, .int (nI k))]) hx hb dL_holds_322 hl (by decide) rfl (fun ls hl => ?_)
                      refine lv_aload_n hx hb dL_holds_324 rfl (lv_at hl 1 rfl) ?_
                      refine lv_iload hx hb dL_holds_325 (lv_at hl 11 rfl) ?_
                      refine lv_bipush (v := nI 6) hx hb dL_holds_327 (by decide) ?_
                      refine lv_irem hx hb dL_holds_329 (by decide) ?_
                      refine lv_cgi (y := nI (k % 6)) (pk_rem (by omega) (by omega) (by omega)) ?_
                      refine rd_go (va_runV (As := [.int (nI (k % 6))]) (rest := []) ⟨hx, hb, hml, hown, hts⟩ (k_town l G X Z u5 hZ hz (k % 6) (by omega)) (cwV 1 hts gL_holds_X6_town rfl rfl rfl (by decide +kernel) ⟨Nat.le_of_ble_eq_true rfl, Nat.le_of_ble_eq_true rfl⟩) (rV (ws := cT G X Z u5) (va_recv (ws := [(q_1, .inl (G.2.1, 10, .inl (atF (Z.1 0 0))))] ++ (cT G X Z u5)) hK hP (ci := 5) (q0 := 1) rfl rfl) hK hN (P_suf (pre := [(q_1, .inl (G.2.1, 10, .inl (atF (Z.1 0 0))))]) hP)) rfl rfl hl.1 rfl (lv_room (Nat.le_of_ble_eq_true rfl)) dL_holds_330 ⟨Nat.le_of_ble_eq_true rfl, Nat.le_of_ble_eq_true rfl⟩) ?_
                      refine lv_istore (lv' := [(12, .int (Z.1 2 (k % 6))), (11, .int (Z.1 2 (k / 6))), (0, .ref X.1), (1, .int xx), (2, .ref q_1), (3, .int (Z.1 0 0)), (4, .int (Z.1 0 1)), (5, .int ((wd (Z.1 0 0) 10).1)), (6, .int ((wd (Z.1 0 0) 10).2)), (7, .int (wkL (Z.1 0 0) (Z.1 1) 9)), (8, .int (nI 1)), (9, .int (nI (cnA Z.1 k))), (10, .int (nI k))]) hx hb dL_holds_333 hl (by decide) rfl (fun ls hl => ?_)
                      refine lv_aload_n hx hb dL_holds_335 rfl (lv_at hl 2 rfl) ?_
                      refine lv_iload hx hb dL_holds_336 (lv_at hl 12 rfl) ?_
                      refine lv_bipush (v := nI 6) hx hb dL_holds_338 (by decide) ?_
                      refine lv_idiv hx hb dL_holds_340 (by decide) ?_
                      refine lv_cgi (y := nI (k / 6)) (pk_div (by omega) (by omega) (by omega)) ?_
                      refine lv_iload hx hb dL_holds_341 (lv_at hl 12 rfl) ?_
                      refine lv_bipush (v := nI 6) hx hb dL_holds_343 (by decide) ?_
                      refine lv_irem hx hb dL_holds_345 (by decide) ?_
                      refine lv_cgi (y := nI (k % 6)) (pk_rem (by omega) (by omega) (by omega)) ?_
                      refine lv_iconst (v := nI 3) hx hb dL_holds_346 (by decide) ?_
                      refine rd_go (va_runV (As := [.int (nI (k / 6)), .int (nI (k % 6)), .int (nI 3)]) (rest := []) ⟨hx, hb, hml, hown, hts⟩ (k_bt3 l G X Z u5 hZ hz (k / 6) (k % 6) (by omega) (by omega)) (cwV 3 hts gL_holds_X6_between rfl rfl rfl (by decide +kernel) ⟨Nat.le_of_ble_eq_true rfl, Nat.le_of_ble_eq_true rfl⟩) (rV (ws := cT G X Z u5) (va_recv (ws := [(q_1, .inl (G.2.1, 10, .inl (atF (Z.1 0 0))))] ++ (cT G X Z u5)) hK hP (ci := 5) (q0 := 1) rfl rfl) hK hN (P_suf (pre := [(q_1, .inl (G.2.1, 10, .inl (atF (Z.1 0 0))))]) hP)) rfl rfl hl.1 rfl (lv_room (Nat.le_of_ble_eq_true rfl)) dL_holds_347 ⟨Nat.le_of_ble_eq_true rfl, Nat.le_of_ble_eq_true rfl⟩) ?_
                      refine lv_istore (lv' := [(13, .int (abt (Z.1 3) (Z.1 4) (Z.1 5) (zN Z.1) (nI (cl (Z.1 2 (k / 6)))) (nI (cl (Z.1 2 (k % 6)))))), (12, .int (Z.1 2 (k % 6))), (11, .int (Z.1 2 (k / 6))), (0, .ref X.1), (1, .int xx), (2, .ref q_1), (3, .int (Z.1 0 0)), (4, .int (Z.1 0 1)), (5, .int ((wd (Z.1 0 0) 10).1)), (6, .int ((wd (Z.1 0 0) 10).2)), (7, .int (wkL (Z.1 0 0) (Z.1 1) 9)), (8, .int (nI 1)), (9, .int (nI (cnA Z.1 k))), (10, .int (nI k))]) hx hb dL_holds_350 hl (by decide) rfl (fun ls hl => ?_)
                      refine lv_iload hx hb dL_holds_352 (lv_at hl 2 rfl) ?_
                      refine lv_iload hx hb dL_holds_354 (lv_at hl 1 rfl) ?_
                      have J356 : W pG l eG (RM 16 2 20) s mG ([.ref X.1, .int xx] : List Value).toArray below meth cG H locs (0 + 1) (0 + 10) (MQ below (wQi G (S := CU) (fun r u9 => r = nI 1 ∧ CV Z.1 u9) (fun u9 => cT G X Z u9) Ar) ([.ref X.1, .int xx] : List Value).toArray s 2 20 Ar) (F0 mG 372 ls [.int (abI (Z.1 2 (k / 6) - Z.1 2 (k % 6)))]) := by
                        refine lv_istore (lv' := [(14, .int (abI (Z.1 2 (k / 6) - Z.1 2 (k % 6)))), (13, .int (abt (Z.1 3) (Z.1 4) (Z.1 5) (zN Z.1) (nI (cl (Z.1 2 (k / 6)))) (nI (cl (Z.1 2 (k % 6)))))), (12, .int (Z.1 2 (k % 6))), (11, .int (Z.1 2 (k / 6))), (0, .ref X.1), (1, .int xx), (2, .ref q_1), (3, .int (Z.1 0 0)), (4, .int (Z.1 0 1)), (5, .int ((wd (Z.1 0 0) 10).1)), (6, .int ((wd (Z.1 0 0) 10).2)), (7, .int (wkL (Z.1 0 0) (Z.1 1) 9)), (8, .int (nI 1)), (9, .int (nI (cnA Z.1 k))), (10, .int (nI k))]) hx hb dL_holds_372 hl (by decide) rfl (fun ls hl => ?_)
                        refine lv_aload_n hx hb dL_holds_374 rfl (lv_at hl 6 rfl) ?_
                        refine lv_iload hx hb dL_holds_375 (lv_at hl 3 rfl) ?_
                        refine va_iald (D := G.1) (ws := [(q_1, .inl (G.2.1, 10, .inl (atF (Z.1 0 0))))] ++ (cT G X Z u5)) hx hb hK hP 0 0 (n := 10) rfl rfl (okg_P hZ _ (by omega)) dL_holds_377 ?_
                        refine lv_aload_n hx hb dL_holds_378 rfl (lv_at hl 6 rfl) ?_
                        refine lv_iload hx hb dL_holds_379 (lv_at hl 2 rfl) ?_
                        refine va_iald (D := G.1) (ws := [(q_1, .inl (G.2.1, 10, .inl (atF (Z.1 0 0))))] ++ (cT G X Z u5)) hx hb hK hP 0 0 (n := 10) rfl rfl (okg_P hZ _ (by omega)) dL_holds_381 ?_
                        have J382 : W pG l eG (RM 16 2 20) s mG ([.ref X.1, .int xx] : List Value).toArray below meth cG H locs (0 + 1) (0 + 10) (MQ below (wQi G (S := CU) (fun r u9 => r = nI 1 ∧ CV Z.1 u9) (fun u9 => cT G X Z u9) Ar) ([.ref X.1, .int xx] : List Value).toArray s 2 20 Ar) (F0 mG 406 ls [.int (abI (atF (Z.1 0 0) (cl (Z.1 2 (k / 6))) - atF (Z.1 0 0) (cl (Z.1 2 (k % 6)))))]) := by
                          refine lv_istore (lv' := [(15, .int (abI (atF (Z.1 0 0) (cl (Z.1 2 (k / 6))) - atF (Z.1 0 0) (cl (Z.1 2 (k % 6)))))), (14, .int (abI (Z.1 2 (k / 6) - Z.1 2 (k % 6)))), (13, .int (abt (Z.1 3) (Z.1 4) (Z.1 5) (zN Z.1) (nI (cl (Z.1 2 (k / 6)))) (nI (cl (Z.1 2 (k % 6)))))), (12, .int (Z.1 2 (k % 6))), (11, .int (Z.1 2 (k / 6))), (0, .ref X.1), (1, .int xx), (2, .ref q_1), (3, .int (Z.1 0 0)), (4, .int (Z.1 0 1)), (5, .int ((wd (Z.1 0 0) 10).1)), (6, .int ((wd (Z.1 0 0) 10).2)), (7, .int (wkL (Z.1 0 0) (Z.1 1) 9)), (8, .int (nI 1)), (9, .int (nI (cnA Z.1 k))), (10, .int (nI k))]) hx hb dL_holds_406 hl (by decide) rfl (fun ls hl => ?_)
                          refine lv_aload_n hx hb dL_holds_408 rfl (lv_at hl 5 rfl) ?_
                          refine lv_iload hx hb dL_holds_409 (lv_at hl 15 rfl) ?_
                          refine lv_bipush (v := nI 6) hx hb dL_holds_411 (by decide) ?_
                          refine lv_idiv hx hb dL_holds_413 (by decide) ?_
                          refine lv_cgi (y := nI (k / 6)) (pk_div (by omega) (by omega) (by omega)) ?_
                          refine lv_iload hx hb dL_holds_414 (lv_at hl 15 rfl) ?_
                          refine lv_bipush (v := nI 6) hx hb dL_holds_416 (by decide) ?_
                          refine lv_irem hx hb dL_holds_418 (by decide) ?_
                          refine lv_cgi (y := nI (k % 6)) (pk_rem (by omega) (by omega) (by omega)) ?_
                          refine lv_iconst (v := nI 0) hx hb dL_holds_419 (by decide) ?_
                          refine rd_go (va_runV (As := [.int (nI (k / 6)), .int (nI (k % 6)), .int (nI 0)]) (rest := []) ⟨hx, hb, hml, hown, hts⟩ (k_bt0 l G X Z u5 hZ hz (k / 6) (k % 6) (by omega) (by omega)) (cwV 3 hts gL_holds_X6_between rfl rfl rfl (by decide +kernel) ⟨Nat.le_of_ble_eq_true rfl, Nat.le_of_ble_eq_true rfl⟩) (rV (ws := cT G X Z u5) (va_recv (ws := [(q_1, .inl (G.2.1, 10, .inl (atF (Z.1 0 0))))] ++ (cT G X Z u5)) hK hP (ci := 5) (q0 := 1) rfl rfl) hK hN (P_suf (pre := [(q_1, .inl (G.2.1, 10, .inl (atF (Z.1 0 0))))]) hP)) rfl rfl hl.1 rfl (lv_room (Nat.le_of_ble_eq_true rfl)) dL_holds_420 ⟨Nat.le_of_ble_eq_true rfl, Nat.le_of_ble_eq_true rfl⟩) ?_
                          refine lv_iload hx hb dL_holds_423 (lv_at hl 1 rfl) ?_
                          refine lv_icmp_ne (tgt := 501) hx hb dL_holds_425 (by decide) (fun c_425 => ?_) (fun c_425 => ?_)
                          · exact absurd rfl c_425
                          · refine lv_aload_n hx hb dL_holds_428 rfl (lv_at hl 5 rfl) ?_
                            refine lv_iload hx hb dL_holds_429 (lv_at hl 15 rfl) ?_
                            refine lv_bipush (v := nI 6) hx hb dL_holds_431 (by decide) ?_
                            refine lv_idiv hx hb dL_holds_433 (by decide) ?_
                            refine lv_cgi (y := nI (k / 6)) (pk_div (by omega) (by omega) (by omega)) ?_
                            refine lv_iload hx hb dL_holds_434 (lv_at hl 15 rfl) ?_
                            refine lv_bipush (v := nI 6) hx hb dL_holds_436 (by decide) ?_
                            refine lv_irem hx hb dL_holds_438 (by decide) ?_
                            refine lv_cgi (y := nI (k % 6)) (pk_rem (by omega) (by omega) (by omega)) ?_
                            refine lv_iconst (v := nI 1) hx hb dL_holds_439 (by decide) ?_
                            refine rd_go (va_runV (As := [.int (nI (k / 6)), .int (nI (k % 6)), .int (nI 1)]) (rest := []) ⟨hx, hb, hml, hown, hts⟩ (k_bt1 l G X Z u5 hZ hz (k / 6) (k % 6) (by omega) (by omega)) (cwV 3 hts gL_holds_X6_between rfl rfl rfl (by decide +kernel) ⟨Nat.le_of_ble_eq_true rfl, Nat.le_of_ble_eq_true rfl⟩) (rV (ws := cT G X Z u5) (va_recv (ws := [(q_1, .inl (G.2.1, 10, .inl (atF (Z.1 0 0))))] ++ (cT G X Z u5)) hK hP (ci := 5) (q0 := 1) rfl rfl) hK hN (P_suf (pre := [(q_1, .inl (G.2.1, 10, .inl (atF (Z.1 0 0))))]) hP)) rfl rfl hl.1 rfl (lv_room (Nat.le_of_ble_eq_true rfl)) dL_holds_440 ⟨Nat.le_of_ble_eq_true rfl, Nat.le_of_ble_eq_true rfl⟩) ?_
                            refine lv_iload hx hb dL_holds_443 (lv_at hl 0 rfl) ?_
                            refine lv_icmp_ne (tgt := 501) hx hb dL_holds_445 (by decide) (fun c_445 => ?_) (fun c_445 => ?_)
                            · exact (c_445 rfl).elim
                            · refine lv_aload_n hx hb dL_holds_448 rfl (lv_at hl 5 rfl) ?_
                              refine lv_iload hx hb dL_holds_449 (lv_at hl 15 rfl) ?_
                              refine lv_bipush (v := nI 6) hx hb dL_holds_451 (by decide) ?_
                              refine lv_idiv hx hb dL_holds_453 (by decide) ?_
                              refine lv_cgi (y := nI (k / 6)) (pk_div (by omega) (by omega) (by omega)) ?_
                              refine lv_iload hx hb dL_holds_454 (lv_at hl 15 rfl) ?_
                              refine lv_bipush (v := nI 6) hx hb dL_holds_456 (by decide) ?_
                              refine lv_irem hx hb dL_holds_458 (by decide) ?_
                              refine lv_cgi (y := nI (k % 6)) (pk_rem (by omega) (by omega) (by omega)) ?_
                              refine lv_iconst (v := nI 2) hx hb dL_holds_459 (by decide) ?_
                              refine rd_go (va_runV (As := [.int (nI (k / 6)), .int (nI (k % 6)), .int (nI 2)]) (rest := []) ⟨hx, hb, hml, hown, hts⟩ (k_bt2 l G X Z u5 hZ hz (k / 6) (k % 6) (by omega) (by omega)) (cwV 3 hts gL_holds_X6_between rfl rfl rfl (by decide +kernel) ⟨Nat.le_of_ble_eq_true rfl, Nat.le_of_ble_eq_true rfl⟩) (rV (ws := cT G X Z u5) (va_recv (ws := [(q_1, .inl (G.2.1, 10, .inl (atF (Z.1 0 0))))] ++ (cT G X Z u5)) hK hP (ci := 5) (q0 := 1) rfl rfl) hK hN (P_suf (pre := [(q_1, .inl (G.2.1, 10, .inl (atF (Z.1 0 0))))]) hP)) rfl rfl hl.1 rfl (lv_room (Nat.le_of_ble_eq_true rfl)) dL_holds_460 ⟨Nat.le_of_ble_eq_true rfl, Nat.le_of_ble_eq_true rfl⟩) ?_
                              refine lv_iload hx hb dL_holds_463 (lv_at hl 0 rfl) ?_
                              have J465 : W pG l eG (RM 16 2 20) s mG ([.ref X.1, .int xx] : List Value).toArray below meth cG H locs (0 + 1) (0 + 10) (MQ below (wQi G (S := CU) (fun r u9 => r = nI 1 ∧ CV Z.1 u9) (fun u9 => cT G X Z u9) Ar) ([.ref X.1, .int xx] : List Value).toArray s 2 20 Ar) (F0 mG 473 ls [.int (b2 (decide (abI (atF (Z.1 0 0) (cl (Z.1 2 (k / 6))) - atF (Z.1 0 0) (cl (Z.1 2 (k % 6)))) = 0))), .int (b2 (mt (Z.1 0 0) (cl (Z.1 2 (k / 6))) (cl (Z.1 2 (k % 6)))))]) := by
                                refine lv_icmp_ne (tgt := 501) hx hb dL_holds_473 (by decide) (fun c_473 => ?_) (fun c_473 => ?_)
                                · exact (c_473 (off_mt hZ (by omega) (by omega))).elim
                                · refine lv_iload hx hb dL_holds_476 (lv_at hl 2 rfl) ?_
                                  refine lv_iconst (v := (-1)) hx hb dL_holds_478 (by decide) ?_
                                  refine lv_icmp_eq (tgt := 497) hx hb dL_holds_479 (by decide) (fun c_479 => ?_) (fun c_479 => ?_)
                                  · refine lv_iconst (v := nI 1) hx hb dL_holds_497 (by decide) ?_
                                    refine lv_goto (tgt := 502) hx hb dL_holds_498 (by decide) ?_
                                    refine lv_istore (lv' := [(8, .int (nI 1)), (15, .int (abI (atF (Z.1 0 0) (cl (Z.1 2 (k / 6))) - atF (Z.1 0 0) (cl (Z.1 2 (k % 6)))))), (14, .int (abI (Z.1 2 (k / 6) - Z.1 2 (k % 6)))), (13, .int (abt (Z.1 3) (Z.1 4) (Z.1 5) (zN Z.1) (nI (cl (Z.1 2 (k / 6)))) (nI (cl (Z.1 2 (k % 6)))))), (12, .int (Z.1 2 (k % 6))), (11, .int (Z.1 2 (k / 6))), (0, .ref X.1), (1, .int xx), (2, .ref q_1), (3, .int (Z.1 0 0)), (4, .int (Z.1 0 1)), (5, .int ((wd (Z.1 0 0) 10).1)), (6, .int ((wd (Z.1 0 0) 10).2)), (7, .int (wkL (Z.1 0 0) (Z.1 1) 9)), (9, .int (nI (cnA Z.1 k))), (10, .int (nI k))]) hx hb dL_holds_502 hl (by decide) rfl (fun ls hl => ?_)
                                    refine lv_iload hx hb dL_holds_504 (lv_at hl 14 rfl) ?_
                                    refine lv_iload hx hb dL_holds_506 (lv_at hl 3 rfl) ?_
                                    refine lv_iconst (v := (-1)) hx hb dL_holds_508 (by decide) ?_
                                    refine lv_icmp_ne (tgt := 516) hx hb dL_holds_509 (by decide) (fun c_509 => ?_) (fun c_509 => ?_)
                                    · exact absurd c_479 c_509
                                    · refine lv_iconst (v := nI 0) hx hb dL_holds_512 (by decide) ?_
                                      refine lv_goto (tgt := 517) hx hb dL_holds_513 (by decide) ?_
                                      refine lv_iadd hx hb dL_holds_517 ?_
                                      refine lv_cgi (y := nI ((cnA Z.1 k) + 0)) (nI_add _ _) ?_
                                      refine lv_istore (lv' := [(9, .int (nI ((cnA Z.1 k) + 0))), (8, .int (nI 1)), (15, .int (abI (atF (Z.1 0 0) (cl (Z.1 2 (k / 6))) - atF (Z.1 0 0) (cl (Z.1 2 (k % 6)))))), (14, .int (abI (Z.1 2 (k / 6) - Z.1 2 (k % 6)))), (13, .int (abt (Z.1 3) (Z.1 4) (Z.1 5) (zN Z.1) (nI (cl (Z.1 2 (k / 6)))) (nI (cl (Z.1 2 (k % 6)))))), (12, .int (Z.1 2 (k % 6))), (11, .int (Z.1 2 (k / 6))), (0, .ref X.1), (1, .int xx), (2, .ref q_1), (3, .int (Z.1 0 0)), (4, .int (Z.1 0 1)), (5, .int ((wd (Z.1 0 0) 10).1)), (6, .int ((wd (Z.1 0 0) 10).2)), (7, .int (wkL (Z.1 0 0) (Z.1 1) 9)), (10, .int (nI k))]) hx hb dL_holds_518 hl (by decide) rfl (fun ls hl => ?_)
                                      refine lv_iinc (v := nI (k + 1)) (lv' := [(10, .int (nI (k + 1))), (9, .int (nI ((cnA Z.1 k) + 0))), (8, .int (nI 1)), (15, .int (abI (atF (Z.1 0 0) (cl (Z.1 2 (k / 6))) - atF (Z.1 0 0) (cl (Z.1 2 (k % 6)))))), (14, .int (abI (Z.1 2 (k / 6) - Z.1 2 (k % 6)))), (13, .int (abt (Z.1 3) (Z.1 4) (Z.1 5) (zN Z.1) (nI (cl (Z.1 2 (k / 6)))) (nI (cl (Z.1 2 (k % 6)))))), (12, .int (Z.1 2 (k % 6))), (11, .int (Z.1 2 (k / 6))), (0, .ref X.1), (1, .int xx), (2, .ref q_1), (3, .int (Z.1 0 0)), (4, .int (Z.1 0 1)), (5, .int ((wd (Z.1 0 0) 10).1)), (6, .int ((wd (Z.1 0 0) 10).2)), (7, .int (wkL (Z.1 0 0) (Z.1 1) 9))]) hx hb dL_holds_520 hl (k := 15) rfl (iincN k) (by decide) rfl (fun ls hl => ?_)
                                      refine lv_goto (tgt := 301) hx hb dL_holds_523 (by decide) ?_
                                      exact ih301 (k + 1) u5 (by omega) (by exact hu5) (by omega) _ _ hP hD hS ls (lv_as (l1 := [(0, .ref X.1), (1, .int xx), (2, .ref q_1), (3, .int (Z.1 0 0)), (4, .int (Z.1 0 1)), (5, .int ((wd (Z.1 0 0) 10).1)), (6, .int ((wd (Z.1 0 0) 10).2)), (7, .int (wkL (Z.1 0 0) (Z.1 1) 9)), (8, .int (nI 1)), (9, .int (nI ((cnA Z.1 k) + 0))), (10, .int (nI (k + 1)))]) (lv_sub hl [8, 9, 10, 11, 12, 13, 14, 15, 2, 1, 0] rfl) (by rw [cnA_t c_479]))
                                  · refine lv_iload hx hb dL_holds_482 (lv_at hl 2 rfl) ?_
                                    refine lv_iload hx hb dL_holds_484 (lv_at hl 0 rfl) ?_
                                    have J486 : W pG l eG (RM 16 2 20) s mG ([.ref X.1, .int xx] : List Value).toArray below meth cG H locs (0 + 1) (0 + 10) (MQ below (wQi G (S := CU) (fun r u9 => r = nI 1 ∧ CV Z.1 u9) (fun u9 => cT G X Z u9) Ar) ([.ref X.1, .int xx] : List Value).toArray s 2 20 Ar) (F0 mG 494 ls [.int (b2 (decide (abI (atF (Z.1 0 0) (cl (Z.1 2 (k / 6))) - atF (Z.1 0 0) (cl (Z.1 2 (k % 6)))) = 0))), .int (abt (Z.1 3) (Z.1 4) (Z.1 5) (zN Z.1) (nI (cl (Z.1 2 (k / 6)))) (nI (cl (Z.1 2 (k % 6)))))]) := by
                                      refine lv_icmp_ne (tgt := 501) hx hb dL_holds_494 (by decide) (fun c_494 => ?_) (fun c_494 => ?_)
                                      · exact (c_494 (kp_off hZ (by omega) (by omega) c_479)).elim
                                      · refine lv_iconst (v := nI 1) hx hb dL_holds_497 (by decide) ?_
                                        refine lv_goto (tgt := 502) hx hb dL_holds_498 (by decide) ?_
                                        refine lv_istore (lv' := [(8, .int (nI 1)), (15, .int (abI (atF (Z.1 0 0) (cl (Z.1 2 (k / 6))) - atF (Z.1 0 0) (cl (Z.1 2 (k % 6)))))), (14, .int (abI (Z.1 2 (k / 6) - Z.1 2 (k % 6)))), (13, .int (abt (Z.1 3) (Z.1 4) (Z.1 5) (zN Z.1) (nI (cl (Z.1 2 (k / 6)))) (nI (cl (Z.1 2 (k % 6)))))), (12, .int (Z.1 2 (k % 6))), (11, .int (Z.1 2 (k / 6))), (0, .ref X.1), (1, .int xx), (2, .ref q_1), (3, .int (Z.1 0 0)), (4, .int (Z.1 0 1)), (5, .int ((wd (Z.1 0 0) 10).1)), (6, .int ((wd (Z.1 0 0) 10).2)), (7, .int (wkL (Z.1 0 0) (Z.1 1) 9)), (9, .int (nI (cnA Z.1 k))), (10, .int (nI k))]) hx hb dL_holds_502 hl (by decide) rfl (fun ls hl => ?_)
                                        refine lv_iload hx hb dL_holds_504 (lv_at hl 14 rfl) ?_
                                        refine lv_iload hx hb dL_holds_506 (lv_at hl 3 rfl) ?_
                                        refine lv_iconst (v := (-1)) hx hb dL_holds_508 (by decide) ?_
                                        refine lv_icmp_ne (tgt := 516) hx hb dL_holds_509 (by decide) (fun c_509 => ?_) (fun c_509 => ?_)
                                        · refine lv_iconst (v := nI 1) hx hb dL_holds_516 (by decide) ?_
                                          refine lv_iadd hx hb dL_holds_517 ?_
                                          refine lv_cgi (y := nI ((cnA Z.1 k) + 1)) (nI_add _ _) ?_
                                          refine lv_istore (lv' := [(9, .int (nI ((cnA Z.1 k) + 1))), (8, .int (nI 1)), (15, .int (abI (atF (Z.1 0 0) (cl (Z.1 2 (k / 6))) - atF (Z.1 0 0) (cl (Z.1 2 (k % 6)))))), (14, .int (abI (Z.1 2 (k / 6) - Z.1 2 (k % 6)))), (13, .int (abt (Z.1 3) (Z.1 4) (Z.1 5) (zN Z.1) (nI (cl (Z.1 2 (k / 6)))) (nI (cl (Z.1 2 (k % 6)))))), (12, .int (Z.1 2 (k % 6))), (11, .int (Z.1 2 (k / 6))), (0, .ref X.1), (1, .int xx), (2, .ref q_1), (3, .int (Z.1 0 0)), (4, .int (Z.1 0 1)), (5, .int ((wd (Z.1 0 0) 10).1)), (6, .int ((wd (Z.1 0 0) 10).2)), (7, .int (wkL (Z.1 0 0) (Z.1 1) 9)), (10, .int (nI k))]) hx hb dL_holds_518 hl (by decide) rfl (fun ls hl => ?_)
                                          refine lv_iinc (v := nI (k + 1)) (lv' := [(10, .int (nI (k + 1))), (9, .int (nI ((cnA Z.1 k) + 1))), (8, .int (nI 1)), (15, .int (abI (atF (Z.1 0 0) (cl (Z.1 2 (k / 6))) - atF (Z.1 0 0) (cl (Z.1 2 (k % 6)))))), (14, .int (abI (Z.1 2 (k / 6) - Z.1 2 (k % 6)))), (13, .int (abt (Z.1 3) (Z.1 4) (Z.1 5) (zN Z.1) (nI (cl (Z.1 2 (k / 6)))) (nI (cl (Z.1 2 (k % 6)))))), (12, .int (Z.1 2 (k % 6))), (11, .int (Z.1 2 (k / 6))), (0, .ref X.1), (1, .int xx), (2, .ref q_1), (3, .int (Z.1 0 0)), (4, .int (Z.1 0 1)), (5, .int ((wd (Z.1 0 0) 10).1)), (6, .int ((wd (Z.1 0 0) 10).2)), (7, .int (wkL (Z.1 0 0) (Z.1 1) 9))]) hx hb dL_holds_520 hl (k := 15) rfl (iincN k) (by decide) rfl (fun ls hl => ?_)
                                          refine lv_goto (tgt := 301) hx hb dL_holds_523 (by decide) ?_
                                          exact ih301 (k + 1) u5 (by omega) (by exact hu5) (by omega) _ _ hP hD hS ls (lv_as (l1 := [(0, .ref X.1), (1, .int xx), (2, .ref q_1), (3, .int (Z.1 0 0)), (4, .int (Z.1 0 1)), (5, .int ((wd (Z.1 0 0) 10).1)), (6, .int ((wd (Z.1 0 0) 10).2)), (7, .int (wkL (Z.1 0 0) (Z.1 1) 9)), (8, .int (nI 1)), (9, .int (nI ((cnA Z.1 k) + 1))), (10, .int (nI (k + 1)))]) (lv_sub hl [8, 9, 10, 11, 12, 13, 14, 15, 2, 1, 0] rfl) (by rw [cnA_f c_479]))
                                        · exact absurd c_509 c_479
                                    refine lv_if_ne (tgt := 493) hx hb dL_holds_486 (by decide) (fun c_486 => ?_) (fun c_486 => ?_)
                                    · refine lv_iconst (v := nI 0) hx hb dL_holds_493 (by decide) ?_
                                      exact lv_cgi (y := b2 (decide (abI (atF (Z.1 0 0) (cl (Z.1 2 (k / 6))) - atF (Z.1 0 0) (cl (Z.1 2 (k % 6)))) = 0))) (by exact b2q c_486) J486
                                    · refine lv_iconst (v := nI 1) hx hb dL_holds_489 (by decide) ?_
                                      refine lv_goto (tgt := 494) hx hb dL_holds_490 (by decide) ?_
                                      exact lv_cgi (y := b2 (decide (abI (atF (Z.1 0 0) (cl (Z.1 2 (k / 6))) - atF (Z.1 0 0) (cl (Z.1 2 (k % 6)))) = 0))) (by exact b2p c_486) J486
                              refine lv_if_ne (tgt := 472) hx hb dL_holds_465 (by decide) (fun c_465 => ?_) (fun c_465 => ?_)
                              · refine lv_iconst (v := nI 0) hx hb dL_holds_472 (by decide) ?_
                                exact lv_cgi (y := b2 (decide (abI (atF (Z.1 0 0) (cl (Z.1 2 (k / 6))) - atF (Z.1 0 0) (cl (Z.1 2 (k % 6)))) = 0))) (by exact b2q c_465) J465
                              · refine lv_iconst (v := nI 1) hx hb dL_holds_468 (by decide) ?_
                                refine lv_goto (tgt := 473) hx hb dL_holds_469 (by decide) ?_
                                exact lv_cgi (y := b2 (decide (abI (atF (Z.1 0 0) (cl (Z.1 2 (k / 6))) - atF (Z.1 0 0) (cl (Z.1 2 (k % 6)))) = 0))) (by exact b2p c_465) J465
                        refine lv_icmp_le (tgt := 397) hx hb dL_holds_382 (by decide) (fun c_382 => ?_) (fun c_382 => ?_)
                        · refine lv_aload_n hx hb dL_holds_397 rfl (lv_at hl 6 rfl) ?_
                          refine lv_iload hx hb dL_holds_398 (lv_at hl 2 rfl) ?_
                          refine va_iald (D := G.1) (ws := [(q_1, .inl (G.2.1, 10, .inl (atF (Z.1 0 0))))] ++ (cT G X Z u5)) hx hb hK hP 0 0 (n := 10) rfl rfl (okg_P hZ _ (by omega)) dL_holds_400 ?_
                          refine lv_aload_n hx hb dL_holds_401 rfl (lv_at hl 6 rfl) ?_
                          refine lv_iload hx hb dL_holds_402 (lv_at hl 3 rfl) ?_
                          refine va_iald (D := G.1) (ws := [(q_1, .inl (G.2.1, 10, .inl (atF (Z.1 0 0))))] ++ (cT G X Z u5)) hx hb hK hP 0 0 (n := 10) rfl rfl (okg_P hZ _ (by omega)) dL_holds_404 ?_
                          refine lv_isub hx hb dL_holds_405 ?_
                          exact lv_cgi (y := abI (atF (Z.1 0 0) (cl (Z.1 2 (k / 6))) - atF (Z.1 0 0) (cl (Z.1 2 (k % 6))))) (by exact of_le (of_e hZ (by omega) (by omega)) c_382) J382
                        · refine lv_aload_n hx hb dL_holds_385 rfl (lv_at hl 6 rfl) ?_
                          refine lv_iload hx hb dL_holds_386 (lv_at hl 3 rfl) ?_
                          refine va_iald (D := G.1) (ws := [(q_1, .inl (G.2.1, 10, .inl (atF (Z.1 0 0))))] ++ (cT G X Z u5)) hx hb hK hP 0 0 (n := 10) rfl rfl (okg_P hZ _ (by omega)) dL_holds_388 ?_
                          refine lv_aload_n hx hb dL_holds_389 rfl (lv_at hl 6 rfl) ?_
                          refine lv_iload hx hb dL_holds_390 (lv_at hl 2 rfl) ?_
                          refine va_iald (D := G.1) (ws := [(q_1, .inl (G.2.1, 10, .inl (atF (Z.1 0 0))))] ++ (cT G X Z u5)) hx hb hK hP 0 0 (n := 10) rfl rfl (okg_P hZ _ (by omega)) dL_holds_392 ?_
                          refine lv_isub hx hb dL_holds_393 ?_
                          refine lv_goto (tgt := 406) hx hb dL_holds_394 (by decide) ?_
                          exact lv_cgi (y := abI (atF (Z.1 0 0) (cl (Z.1 2 (k / 6))) - atF (Z.1 0 0) (cl (Z.1 2 (k % 6))))) (by exact of_gt (of_e hZ (by omega) (by omega)) c_382) J382
                      refine lv_icmp_le (tgt := 367) hx hb dL_holds_356 (by decide) (fun c_356 => ?_) (fun c_356 => ?_)
                      · refine lv_iload hx hb dL_holds_367 (lv_at hl 1 rfl) ?_
                        refine lv_iload hx hb dL_holds_369 (lv_at hl 2 rfl) ?_
                        refine lv_isub hx hb dL_holds_371 ?_
                        exact lv_cgi (y := abI (Z.1 2 (k / 6) - Z.1 2 (k % 6))) (by exact of_le (al_e hZ (by omega) (by omega)) c_356) J356
                      · refine lv_iload hx hb dL_holds_359 (lv_at hl 2 rfl) ?_
                        refine lv_iload hx hb dL_holds_361 (lv_at hl 1 rfl) ?_
                        refine lv_isub hx hb dL_holds_363 ?_
                        refine lv_goto (tgt := 372) hx hb dL_holds_364 (by decide) ?_
                        exact lv_cgi (y := abI (Z.1 2 (k / 6) - Z.1 2 (k % 6))) (by exact of_gt (al_e hZ (by omega) (by omega)) c_356) J356
              exact L301 37 0 u6 (by omega) (by exact hu6) (by omega) _ _ hP hD hS ls (lv_as (l1 := [(0, .ref X.1), (1, .int xx), (2, .ref q_1), (3, .int (Z.1 0 0)), (4, .int (Z.1 0 1)), (5, .int ((wd (Z.1 0 0) 10).1)), (6, .int ((wd (Z.1 0 0) 10).2)), (7, .int (wkL (Z.1 0 0) (Z.1 1) 9)), (8, .int (nI 1)), (9, .int (nI 0)), (10, .int (nI 0))]) (lv_sub hl [2, 3, 4, 5, 6, 7, 8, 9, 10, 1, 0] rfl) (by rfl))
            · have q1 : d < 9 := wkc_ge c_228
              have hl : lv_has ls 16 [(0, .ref X.1), (1, .int xx), (2, .ref q_1), (3, .int (Z.1 0 0)), (4, .int (orD (fun k => bI (Z.1 0 1) (nI k)) d)), (5, .int ((wd (Z.1 0 0) 10).1)), (6, .int ((wd (Z.1 0 0) 10).2)), (7, .int (wkL (Z.1 0 0) (Z.1 1) d)), (8, .int (nI 1)), (9, .int (nI (8 - d)))] := lv_as hl (by rw [show wkc d = nI (8 - d) from if_pos q1])
              refine lv_iload hx hb dL_holds_231 (lv_at hl 4 rfl) ?_
              refine lv_aload_n hx hb dL_holds_233 rfl (lv_at hl 0 rfl) ?_
              refine lv_iload hx hb dL_holds_234 (lv_at hl 9 rfl) ?_
              refine lv_iconst (v := nI 2) hx hb dL_holds_236 (by decide) ?_
              refine wr_g1i (pre := [(q_1, .inl (G.2.1, 10, .inl (atF (Z.1 0 0))))]) (mid := cT G X Z u6) (va_runV (As := [.int (nI (8 - d)), .int (nI 2)]) (rest := [.int (orD (fun k => bI (Z.1 0 1) (nI k)) d)]) ⟨hx, hb, hml, hown, hts⟩ (k_cr2 l G _ X Z u6 hZ hz hu6 (8 - d) (by omega)) (cwV 2 hts gL_holds_X6_creaseOf rfl rfl rfl (by decide +kernel) ⟨Nat.le_of_ble_eq_true rfl, Nat.le_of_ble_eq_true rfl⟩) (wV1 (pre := [(q_1, .inl (G.2.1, 10, .inl (atF (Z.1 0 0))))]) (mid := cT G X Z u6) (va_recv (ws := [(q_1, .inl (G.2.1, 10, .inl (atF (Z.1 0 0))))] ++ (cT G X Z u6)) hK hP (ci := 5) (q0 := 1) rfl rfl) hK hN hP hD) rfl rfl hl.1 rfl (lv_room (Nat.le_of_ble_eq_true rfl)) dL_holds_237 ⟨Nat.le_of_ble_eq_true rfl, Nat.le_of_ble_eq_true rfl⟩) hP hD hS hA (fun r u_13 H locs hw hP9 hD9 hS => ?_)
              obtain ⟨rfl, hvu_13⟩ := hw
              have hP : PP G ([(q_1, .inl (G.2.1, 10, .inl (atF (Z.1 0 0))))] ++ (cT G X Z u_13)) _ := hP9
              have hD : va_D Ar ([(q_1, .inl (G.2.1, 10, .inl (atF (Z.1 0 0))))] ++ (cT G X Z u_13)) := hD9
              refine lv_iload hx hb dL_holds_240 (lv_at hl 9 rfl) ?_
              refine lv_ishl hx hb dL_holds_242 ?_
              refine lv_ior hx hb dL_holds_243 ?_
              refine lv_istore (lv' := [(4, .int ((orD (fun k => bI (Z.1 0 1) (nI k)) d) ||| ((bI (Z.1 0 1) (nI (8 - d))) <<< ((nI (8 - d)) &&& 31)))), (0, .ref X.1), (1, .int xx), (2, .ref q_1), (3, .int (Z.1 0 0)), (5, .int ((wd (Z.1 0 0) 10).1)), (6, .int ((wd (Z.1 0 0) 10).2)), (7, .int (wkL (Z.1 0 0) (Z.1 1) d)), (8, .int (nI 1)), (9, .int (nI (8 - d)))]) hx hb dL_holds_244 hl (by decide) rfl (fun ls hl => ?_)
              refine lv_aload_n hx hb dL_holds_246 rfl (lv_at hl 1 rfl) ?_
              refine lv_iload hx hb dL_holds_247 (lv_at hl 9 rfl) ?_
              refine lv_iconst (v := nI 0) hx hb dL_holds_249 (by decide) ?_
              refine wr_g1i (pre := [(q_1, .inl (G.2.1, 10, .inl (atF (Z.1 0 0))))]) (mid := cT G X Z u_13) (va_runV (As := [.int (nI (8 - d)), .int (nI 0)]) (rest := []) ⟨hx, hb, hml, hown, hts⟩ (k_cr0 l G _ X Z u_13 hZ hz hvu_13 (8 - d) (by omega)) (cwV 2 hts gL_holds_X6_creaseOf rfl rfl rfl (by decide +kernel) ⟨Nat.le_of_ble_eq_true rfl, Nat.le_of_ble_eq_true rfl⟩) (wV1 (pre := [(q_1, .inl (G.2.1, 10, .inl (atF (Z.1 0 0))))]) (mid := cT G X Z u_13) (va_recv (ws := [(q_1, .inl (G.2.1, 10, .inl (atF (Z.1 0 0))))] ++ (cT G X Z u_13)) hK hP (ci := 5) (q0 := 1) rfl rfl) hK hN hP hD) rfl rfl hl.1 rfl (lv_room (Nat.le_of_ble_eq_true rfl)) dL_holds_250 ⟨Nat.le_of_ble_eq_true rfl, Nat.le_of_ble_eq_true rfl⟩) hP hD hS hA (fun r u_14 H locs hw hP9 hD9 hS => ?_)
              obtain ⟨rfl, hvu_14⟩ := hw
              have hP : PP G ([(q_1, .inl (G.2.1, 10, .inl (atF (Z.1 0 0))))] ++ (cT G X Z u_14)) _ := hP9
              have hD : va_D Ar ([(q_1, .inl (G.2.1, 10, .inl (atF (Z.1 0 0))))] ++ (cT G X Z u_14)) := hD9
              refine lv_iconst (v := nI 1) hx hb dL_holds_253 (by decide) ?_
              refine lv_icmp_ne (tgt := 285) hx hb dL_holds_254 (by decide) (fun c_254 => ?_) (fun c_254 => ?_)
              · refine lv_iload hx hb dL_holds_285 (lv_at hl 7 rfl) ?_
                refine lv_istore (lv' := [(7, .int (wkL (Z.1 0 0) (Z.1 1) d)), (4, .int ((orD (fun k => bI (Z.1 0 1) (nI k)) d) ||| ((bI (Z.1 0 1) (nI (8 - d))) <<< ((nI (8 - d)) &&& 31)))), (0, .ref X.1), (1, .int xx), (2, .ref q_1), (3, .int (Z.1 0 0)), (5, .int ((wd (Z.1 0 0) 10).1)), (6, .int ((wd (Z.1 0 0) 10).2)), (8, .int (nI 1)), (9, .int (nI (8 - d)))]) hx hb dL_holds_287 hl (by decide) rfl (fun ls hl => ?_)
                refine lv_iinc (v := (nI (8 - d)) + Int32.ofInt (-1)) (lv' := [(9, .int ((nI (8 - d)) + Int32.ofInt (-1))), (7, .int (wkL (Z.1 0 0) (Z.1 1) d)), (4, .int ((orD (fun k => bI (Z.1 0 1) (nI k)) d) ||| ((bI (Z.1 0 1) (nI (8 - d))) <<< ((nI (8 - d)) &&& 31)))), (0, .ref X.1), (1, .int xx), (2, .ref q_1), (3, .int (Z.1 0 0)), (5, .int ((wd (Z.1 0 0) 10).1)), (6, .int ((wd (Z.1 0 0) 10).2)), (8, .int (nI 1))]) hx hb dL_holds_289 hl (k := 9) rfl rfl (by decide) rfl (fun ls hl => ?_)
                refine lv_goto (tgt := 226) hx hb dL_holds_292 (by decide) ?_
                exact ih226 (d + 1) u_14 (by omega) (by exact hvu_14) (by omega) _ _ hP hD hS ls (lv_as (l1 := [(0, .ref X.1), (1, .int xx), (2, .ref q_1), (3, .int (Z.1 0 0)), (4, .int ((orD (fun k => bI (Z.1 0 1) (nI k)) d) ||| ((bI (Z.1 0 1) (nI (8 - d))) <<< ((nI (8 - d)) &&& 31)))), (5, .int ((wd (Z.1 0 0) 10).1)), (6, .int ((wd (Z.1 0 0) 10).2)), (7, .int (wkL (Z.1 0 0) (Z.1 1) d)), (8, .int (nI 1)), (9, .int ((nI (8 - d)) + Int32.ofInt (-1)))]) (lv_sub hl [3, 4, 5, 6, 2, 7, 8, 1, 9, 0] rfl) (by rw [wkc_s q1, wkL, if_neg (fun h => c_254 h.1)] <;> rfl))
              · refine lv_iload hx hb dL_holds_257 (lv_at hl 7 rfl) ?_
                refine lv_iconst (v := (-1)) hx hb dL_holds_259 (by decide) ?_
                refine lv_icmp_eq (tgt := 280) hx hb dL_holds_260 (by decide) (fun c_260 => ?_) (fun c_260 => ?_)
                · refine lv_iload hx hb dL_holds_280 (lv_at hl 9 rfl) ?_
                  refine lv_goto (tgt := 287) hx hb dL_holds_282 (by decide) ?_
                  refine lv_istore (lv' := [(7, .int (nI (8 - d))), (4, .int ((orD (fun k => bI (Z.1 0 1) (nI k)) d) ||| ((bI (Z.1 0 1) (nI (8 - d))) <<< ((nI (8 - d)) &&& 31)))), (0, .ref X.1), (1, .int xx), (2, .ref q_1), (3, .int (Z.1 0 0)), (5, .int ((wd (Z.1 0 0) 10).1)), (6, .int ((wd (Z.1 0 0) 10).2)), (8, .int (nI 1)), (9, .int (nI (8 - d)))]) hx hb dL_holds_287 hl (by decide) rfl (fun ls hl => ?_)
                  refine lv_iinc (v := (nI (8 - d)) + Int32.ofInt (-1)) (lv' := [(9, .int ((nI (8 - d)) + Int32.ofInt (-1))), (7, .int (nI (8 - d))), (4, .int ((orD (fun k => bI (Z.1 0 1) (nI k)) d) ||| ((bI (Z.1 0 1) (nI (8 - d))) <<< ((nI (8 - d)) &&& 31)))), (0, .ref X.1), (1, .int xx), (2, .ref q_1), (3, .int (Z.1 0 0)), (5, .int ((wd (Z.1 0 0) 10).1)), (6, .int ((wd (Z.1 0 0) 10).2)), (8, .int (nI 1))]) hx hb dL_holds_289 hl (k := 9) rfl rfl (by decide) rfl (fun ls hl => ?_)
                  refine lv_goto (tgt := 226) hx hb dL_holds_292 (by decide) ?_
                  exact ih226 (d + 1) u_14 (by omega) (by exact hvu_14) (by omega) _ _ hP hD hS ls (lv_as (l1 := [(0, .ref X.1), (1, .int xx), (2, .ref q_1), (3, .int (Z.1 0 0)), (4, .int ((orD (fun k => bI (Z.1 0 1) (nI k)) d) ||| ((bI (Z.1 0 1) (nI (8 - d))) <<< ((nI (8 - d)) &&& 31)))), (5, .int ((wd (Z.1 0 0) 10).1)), (6, .int ((wd (Z.1 0 0) 10).2)), (7, .int (nI (8 - d))), (8, .int (nI 1)), (9, .int ((nI (8 - d)) + Int32.ofInt (-1)))]) (lv_sub hl [3, 4, 5, 6, 2, 7, 8, 1, 9, 0] rfl) (by rw [wkc_s q1, wkL, if_pos ⟨c_254, Or.inl c_260⟩] <;> rfl))
                · obtain ⟨j9, hj9, ej9⟩ := (wkL_in (Z.1 0 0) (Z.1 1) d).resolve_left c_260
                  refine lv_aload_n hx hb dL_holds_263 rfl (lv_at hl 1 rfl) ?_
                  refine lv_iload hx hb dL_holds_264 (lv_at hl 9 rfl) ?_
                  refine lv_iconst (v := nI 1) hx hb dL_holds_266 (by decide) ?_
                  refine wr_g1i (pre := [(q_1, .inl (G.2.1, 10, .inl (atF (Z.1 0 0))))]) (mid := cT G X Z u_14) (va_runV (As := [.int (nI (8 - d)), .int (nI 1)]) (rest := []) ⟨hx, hb, hml, hown, hts⟩ (k_cr1 l G _ X Z u_14 hZ hz hvu_14 (8 - d) (by omega)) (cwV 2 hts gL_holds_X6_creaseOf rfl rfl rfl (by decide +kernel) ⟨Nat.le_of_ble_eq_true rfl, Nat.le_of_ble_eq_true rfl⟩) (wV1 (pre := [(q_1, .inl (G.2.1, 10, .inl (atF (Z.1 0 0))))]) (mid := cT G X Z u_14) (va_recv (ws := [(q_1, .inl (G.2.1, 10, .inl (atF (Z.1 0 0))))] ++ (cT G X Z u_14)) hK hP (ci := 5) (q0 := 1) rfl rfl) hK hN hP hD) rfl rfl hl.1 rfl (lv_room (Nat.le_of_ble_eq_true rfl)) dL_holds_267 ⟨Nat.le_of_ble_eq_true rfl, Nat.le_of_ble_eq_true rfl⟩) hP hD hS hA (fun r u_15 H locs hw hP9 hD9 hS => ?_)
                  obtain ⟨rfl, hvu_15⟩ := hw
                  have hP : PP G ([(q_1, .inl (G.2.1, 10, .inl (atF (Z.1 0 0))))] ++ (cT G X Z u_15)) _ := hP9
                  have hD : va_D Ar ([(q_1, .inl (G.2.1, 10, .inl (atF (Z.1 0 0))))] ++ (cT G X Z u_15)) := hD9
                  refine lv_aload_n hx hb dL_holds_270 rfl (lv_at hl 1 rfl) ?_
                  refine lv_iload hx hb dL_holds_271 (lv_at hl 7 rfl) ?_
                  refine lv_cgi (y := nI j9) ej9 ?_
                  refine lv_iconst (v := nI 1) hx hb dL_holds_273 (by decide) ?_
                  refine wr_g1i (pre := [(q_1, .inl (G.2.1, 10, .inl (atF (Z.1 0 0))))]) (mid := cT G X Z u_15) (va_runV (As := [.int (nI j9), .int (nI 1)]) (rest := [.int (Z.1 1 (8 - d))]) ⟨hx, hb, hml, hown, hts⟩ (k_cr1 l G _ X Z u_15 hZ hz hvu_15 j9 (by omega)) (cwV 2 hts gL_holds_X6_creaseOf rfl rfl rfl (by decide +kernel) ⟨Nat.le_of_ble_eq_true rfl, Nat.le_of_ble_eq_true rfl⟩) (wV1 (pre := [(q_1, .inl (G.2.1, 10, .inl (atF (Z.1 0 0))))]) (mid := cT G X Z u_15) (va_recv (ws := [(q_1, .inl (G.2.1, 10, .inl (atF (Z.1 0 0))))] ++ (cT G X Z u_15)) hK hP (ci := 5) (q0 := 1) rfl rfl) hK hN hP hD) rfl rfl hl.1 rfl (lv_room (Nat.le_of_ble_eq_true rfl)) dL_holds_274 ⟨Nat.le_of_ble_eq_true rfl, Nat.le_of_ble_eq_true rfl⟩) hP hD hS hA (fun r u_16 H locs hw hP9 hD9 hS => ?_)
                  obtain ⟨rfl, hvu_16⟩ := hw
                  have hP : PP G ([(q_1, .inl (G.2.1, 10, .inl (atF (Z.1 0 0))))] ++ (cT G X Z u_16)) _ := hP9
                  have hD : va_D Ar ([(q_1, .inl (G.2.1, 10, .inl (atF (Z.1 0 0))))] ++ (cT G X Z u_16)) := hD9
                  refine lv_icmp_lt (tgt := 285) hx hb dL_holds_277 (by decide) (fun c_277 => ?_) (fun c_277 => ?_)
                  · refine lv_iload hx hb dL_holds_285 (lv_at hl 7 rfl) ?_
                    refine lv_istore (lv' := [(7, .int (wkL (Z.1 0 0) (Z.1 1) d)), (4, .int ((orD (fun k => bI (Z.1 0 1) (nI k)) d) ||| ((bI (Z.1 0 1) (nI (8 - d))) <<< ((nI (8 - d)) &&& 31)))), (0, .ref X.1), (1, .int xx), (2, .ref q_1), (3, .int (Z.1 0 0)), (5, .int ((wd (Z.1 0 0) 10).1)), (6, .int ((wd (Z.1 0 0) 10).2)), (8, .int (nI 1)), (9, .int (nI (8 - d)))]) hx hb dL_holds_287 hl (by decide) rfl (fun ls hl => ?_)
                    refine lv_iinc (v := (nI (8 - d)) + Int32.ofInt (-1)) (lv' := [(9, .int ((nI (8 - d)) + Int32.ofInt (-1))), (7, .int (wkL (Z.1 0 0) (Z.1 1) d)), (4, .int ((orD (fun k => bI (Z.1 0 1) (nI k)) d) ||| ((bI (Z.1 0 1) (nI (8 - d))) <<< ((nI (8 - d)) &&& 31)))), (0, .ref X.1), (1, .int xx), (2, .ref q_1), (3, .int (Z.1 0 0)), (5, .int ((wd (Z.1 0 0) 10).1)), (6, .int ((wd (Z.1 0 0) 10).2)), (8, .int (nI 1))]) hx hb dL_holds_289 hl (k := 9) rfl rfl (by decide) rfl (fun ls hl => ?_)
                    refine lv_goto (tgt := 226) hx hb dL_holds_292 (by decide) ?_
                    exact ih226 (d + 1) u_16 (by omega) (by exact hvu_16) (by omega) _ _ hP hD hS ls (lv_as (l1 := [(0, .ref X.1), (1, .int xx), (2, .ref q_1), (3, .int (Z.1 0 0)), (4, .int ((orD (fun k => bI (Z.1 0 1) (nI k)) d) ||| ((bI (Z.1 0 1) (nI (8 - d))) <<< ((nI (8 - d)) &&& 31)))), (5, .int ((wd (Z.1 0 0) 10).1)), (6, .int ((wd (Z.1 0 0) 10).2)), (7, .int (wkL (Z.1 0 0) (Z.1 1) d)), (8, .int (nI 1)), (9, .int ((nI (8 - d)) + Int32.ofInt (-1)))]) (lv_sub hl [3, 4, 5, 6, 2, 7, 8, 1, 9, 0] rfl) (by rw [wkc_s q1, wkL, if_neg (fun h => h.2.elim c_260 (fun h2 => h2 (by rw [ej9, show cl (nI j9) = j9 from nI_clamp (by omega)]; exact c_277)))] <;> rfl))
                  · refine lv_iload hx hb dL_holds_280 (lv_at hl 9 rfl) ?_
                    refine lv_goto (tgt := 287) hx hb dL_holds_282 (by decide) ?_
                    refine lv_istore (lv' := [(7, .int (nI (8 - d))), (4, .int ((orD (fun k => bI (Z.1 0 1) (nI k)) d) ||| ((bI (Z.1 0 1) (nI (8 - d))) <<< ((nI (8 - d)) &&& 31)))), (0, .ref X.1), (1, .int xx), (2, .ref q_1), (3, .int (Z.1 0 0)), (5, .int ((wd (Z.1 0 0) 10).1)), (6, .int ((wd (Z.1 0 0) 10).2)), (8, .int (nI 1)), (9, .int (nI (8 - d)))]) hx hb dL_holds_287 hl (by decide) rfl (fun ls hl => ?_)
                    refine lv_iinc (v := (nI (8 - d)) + Int32.ofInt (-1)) (lv' := [(9, .int ((nI (8 - d)) + Int32.ofInt (-1))), (7, .int (nI (8 - d))), (4, .int ((orD (fun k => bI (Z.1 0 1) (nI k)) d) ||| ((bI (Z.1 0 1) (nI (8 - d))) <<< ((nI (8 - d)) &&& 31)))), (0, .ref X.1), (1, .int xx), (2, .ref q_1), (3, .int (Z.1 0 0)), (5, .int ((wd (Z.1 0 0) 10).1)), (6, .int ((wd (Z.1 0 0) 10).2)), (8, .int (nI 1))]) hx hb dL_holds_289 hl (k := 9) rfl rfl (by decide) rfl (fun ls hl => ?_)
                    refine lv_goto (tgt := 226) hx hb dL_holds_292 (by decide) ?_
                    exact ih226 (d + 1) u_16 (by omega) (by exact hvu_16) (by omega) _ _ hP hD hS ls (lv_as (l1 := [(0, .ref X.1), (1, .int xx), (2, .ref q_1), (3, .int (Z.1 0 0)), (4, .int ((orD (fun k => bI (Z.1 0 1) (nI k)) d) ||| ((bI (Z.1 0 1) (nI (8 - d))) <<< ((nI (8 - d)) &&& 31)))), (5, .int ((wd (Z.1 0 0) 10).1)), (6, .int ((wd (Z.1 0 0) 10).2)), (7, .int (nI (8 - d))), (8, .int (nI 1)), (9, .int ((nI (8 - d)) + Int32.ofInt (-1)))]) (lv_sub hl [3, 4, 5, 6, 2, 7, 8, 1, 9, 0] rfl) (by rw [wkc_s q1, wkL, if_pos ⟨c_254, Or.inr (fun h2 => c_277 (by rw [ej9, show cl (nI j9) = j9 from nI_clamp (by omega)] at h2; exact h2))⟩] <;> rfl))
        exact L226 10 0 u9 (by omega) (by exact hu9) (by omega) _ _ hP hD hS ls (lv_as (l1 := [(0, .ref X.1), (1, .int xx), (2, .ref q_1), (3, .int (Z.1 0 0)), (4, .int (nI 0)), (5, .int ((wd (Z.1 0 0) 10).1)), (6, .int ((wd (Z.1 0 0) 10).2)), (7, .int (-1)), (8, .int (nI 1)), (9, .int (nI 8))]) (lv_sub hl [1, 2, 3, 4, 5, 6, 7, 8, 9, 0] rfl) (by rfl))
      · have hp1 : p < 10 := fl c_37 (by omega) (by omega)
        refine lv_iload hx hb dL_holds_40 (lv_at hl 8 rfl) ?_
        refine lv_if_eq (tgt := 222) hx hb dL_holds_42 (by decide) (fun c_42 => ?_) (fun c_42 => ?_)
        · exact absurd c_42 (by decide)
        · refine lv_iconst (v := nI 0) hx hb dL_holds_45 (by decide) ?_
          refine lv_istore (lv' := [(10, .int (nI 0)), (0, .ref X.1), (1, .int xx), (2, .ref q_1), (3, .int (Z.1 0 0)), (4, .int (nI 0)), (5, .int ((wd (Z.1 0 0) p).1)), (6, .int ((wd (Z.1 0 0) p).2)), (7, .int (-1)), (8, .int (nI 1)), (9, .int (nI p))]) hx hb dL_holds_46 hl (by decide) rfl (fun ls hl => ?_)
          refine lv_iconst (v := nI 0) hx hb dL_holds_48 (by decide) ?_
          refine lv_istore (lv' := [(11, .int (nI 0)), (10, .int (nI 0)), (0, .ref X.1), (1, .int xx), (2, .ref q_1), (3, .int (Z.1 0 0)), (4, .int (nI 0)), (5, .int ((wd (Z.1 0 0) p).1)), (6, .int ((wd (Z.1 0 0) p).2)), (7, .int (-1)), (8, .int (nI 1)), (9, .int (nI p))]) hx hb dL_holds_49 hl (by decide) rfl (fun ls hl => ?_)
          refine lv_iconst (v := nI 0) hx hb dL_holds_51 (by decide) ?_
          refine lv_istore (lv' := [(12, .int (nI 0)), (11, .int (nI 0)), (10, .int (nI 0)), (0, .ref X.1), (1, .int xx), (2, .ref q_1), (3, .int (Z.1 0 0)), (4, .int (nI 0)), (5, .int ((wd (Z.1 0 0) p).1)), (6, .int ((wd (Z.1 0 0) p).2)), (7, .int (-1)), (8, .int (nI 1)), (9, .int (nI p))]) hx hb dL_holds_52 hl (by decide) rfl (fun ls hl => ?_)
          have L54 : ∀ (fu54 : Nat) (j : Nat) (u8 : CU) (hj : j ≤ 6) (hu8 : CV Z.1 u8), 7 ≤ j + fu54 → ∀ (H : Heap) (locs : List Loc), PP G ([(q_1, .inl (G.2.1, 10, .inl (atF (Z.1 0 0))))] ++ (cT G X Z u8)) H → va_D Ar ([(q_1, .inl (G.2.1, 10, .inl (atF (Z.1 0 0))))] ++ (cT G X Z u8)) → va_S Ar s.heap H locs → ∀ ls : Array Slot, lv_has ls 16 [(0, .ref X.1), (1, .int xx), (2, .ref q_1), (3, .int (Z.1 0 0)), (4, .int (nI 0)), (5, .int ((wd (Z.1 0 0) p).1)), (6, .int ((wd (Z.1 0 0) p).2)), (7, .int (-1)), (8, .int (nI 1)), (9, .int (nI p)), (10, .int (tonS (Z.1 2) (nI p) j)), (11, .int (nI 0)), (12, .int (nI j))] → W pG l eG (RM 16 2 20) s mG ([.ref X.1, .int xx] : List Value).toArray below meth cG H locs (0 + 1) (0 + 10) (MQ below (wQi G (S := CU) (fun r u9 => r = nI 1 ∧ CV Z.1 u9) (fun u9 => cT G X Z u9) Ar) ([.ref X.1, .int xx] : List Value).toArray s 2 20 Ar) (F0 mG 54 ls []) := by
            intro fu54
            induction fu54 with
            | zero => intro j u8 hj hu8 hfu54; exact absurd hfu54 (by omega)
            | succ fu54 ih54 =>
              intro j u8 hj hu8 hfu54 H locs hP hD hS ls hl
              refine lv_iload hx hb dL_holds_54 (lv_at hl 12 rfl) ?_
              refine lv_bipush (v := nI 6) hx hb dL_holds_56 (by decide) ?_
              refine lv_icmp_ge (tgt := 91) hx hb dL_holds_58 (by decide) (fun c_58 => ?_) (fun c_58 => ?_)
              · obtain rfl : j = 6 := by have := fe c_58 (by omega) (by omega); omega
                refine lv_iconst (v := nI 0) hx hb dL_holds_91 (by decide) ?_
                refine lv_istore (lv' := [(12, .int (nI 0)), (0, .ref X.1), (1, .int xx), (2, .ref q_1), (3, .int (Z.1 0 0)), (4, .int (nI 0)), (5, .int ((wd (Z.1 0 0) p).1)), (6, .int ((wd (Z.1 0 0) p).2)), (7, .int (-1)), (8, .int (nI 1)), (9, .int (nI p)), (10, .int (tonS (Z.1 2) (nI p) 6)), (11, .int (nI 0))]) hx hb dL_holds_92 hl (by decide) rfl (fun ls hl => ?_)
                have L94 : ∀ (fu94 : Nat) (j : Nat) (u7 : CU) (hj : j ≤ 10) (hu7 : CV Z.1 u7), 11 ≤ j + fu94 → ∀ (H : Heap) (locs : List Loc), PP G ([(q_1, .inl (G.2.1, 10, .inl (atF (Z.1 0 0))))] ++ (cT G X Z u7)) H → va_D Ar ([(q_1, .inl (G.2.1, 10, .inl (atF (Z.1 0 0))))] ++ (cT G X Z u7)) → va_S Ar s.heap H locs → ∀ ls : Array Slot, lv_has ls 16 [(0, .ref X.1), (1, .int xx), (2, .ref q_1), (3, .int (Z.1 0 0)), (4, .int (nI 0)), (5, .int ((wd (Z.1 0 0) p).1)), (6, .int ((wd (Z.1 0 0) p).2)), (7, .int (-1)), (8, .int (nI 1)), (9, .int (nI p)), (10, .int (tonS (Z.1 2) (nI p) 6)), (11, .int (sumI (fun jj => b2 (decide (atF (Z.1 0 0) jj = atF (Z.1 0 0) p))) j)), (12, .int (nI j))] → W pG l eG (RM 16 2 20) s mG ([.ref X.1, .int xx] : List Value).toArray below meth cG H locs (0 + 1) (0 + 10) (MQ below (wQi G (S := CU) (fun r u9 => r = nI 1 ∧ CV Z.1 u9) (fun u9 => cT G X Z u9) Ar) ([.ref X.1, .int xx] : List Value).toArray s 2 20 Ar) (F0 mG 94 ls []) := by
                  intro fu94
                  induction fu94 with
                  | zero => intro j u7 hj hu7 hfu94; exact absurd hfu94 (by omega)
                  | succ fu94 ih94 =>
                    intro j u7 hj hu7 hfu94 H locs hP hD hS ls hl
                    refine lv_iload hx hb dL_holds_94 (lv_at hl 12 rfl) ?_
                    refine lv_bipush (v := nI 10) hx hb dL_holds_96 (by decide) ?_
                    refine lv_icmp_ge (tgt := 128) hx hb dL_holds_98 (by decide) (fun c_98 => ?_) (fun c_98 => ?_)
                    · obtain rfl : j = 10 := by have := fe c_98 (by omega) (by omega); omega
                      refine lv_aload_n hx hb dL_holds_128 rfl (lv_at hl 2 rfl) ?_
                      refine lv_iload hx hb dL_holds_129 (lv_at hl 9 rfl) ?_
                      refine va_iald (D := G.1) (ws := [(q_1, .inl (G.2.1, 10, .inl (atF (Z.1 0 0))))] ++ (cT G X Z u7)) hx hb hK hP 0 0 (n := 10) rfl rfl (by first | assumption | exact vp_in_nI (by omega) (by omega)) dL_holds_131 ?_
                      refine lv_cgi (y := (atF (Z.1 0 0)) p) (by rw [nI_clamp (by omega)]) ?_
                      refine lv_iload hx hb dL_holds_132 (lv_at hl 5 rfl) ?_
                      have J134 : W pG l eG (RM 16 2 20) s mG ([.ref X.1, .int xx] : List Value).toArray below meth cG H locs (0 + 1) (0 + 10) (MQ below (wQi G (S := CU) (fun r u9 => r = nI 1 ∧ CV Z.1 u9) (fun u9 => cT G X Z u9) Ar) ([.ref X.1, .int xx] : List Value).toArray s 2 20 Ar) (F0 mG 146 ls [.int ((wd (Z.1 0 0) (p + 1)).1)]) := by
                        refine lv_istore (lv' := [(5, .int ((wd (Z.1 0 0) (p + 1)).1)), (0, .ref X.1), (1, .int xx), (2, .ref q_1), (3, .int (Z.1 0 0)), (4, .int (nI 0)), (6, .int ((wd (Z.1 0 0) p).2)), (7, .int (-1)), (8, .int (nI 1)), (9, .int (nI p)), (10, .int (tonS (Z.1 2) (nI p) 6)), (11, .int (sumI (fun jj => b2 (decide (atF (Z.1 0 0) jj = atF (Z.1 0 0) p))) 10)), (12, .int (nI 10))]) hx hb dL_holds_146 hl (by decide) rfl (fun ls hl => ?_)
                        refine lv_aload_n hx hb dL_holds_148 rfl (lv_at hl 3 rfl) ?_
                        refine lv_iload hx hb dL_holds_149 (lv_at hl 9 rfl) ?_
                        refine va_iald (D := G.1) (ws := [(q_1, .inl (G.2.1, 10, .inl (atF (Z.1 0 0))))] ++ (cT G X Z u7)) hx hb hK hP 0 0 (n := 10) rfl rfl (by first | assumption | exact vp_in_nI (by omega) (by omega)) dL_holds_151 ?_
                        refine lv_cgi (y := (atF (Z.1 0 0)) p) (by rw [nI_clamp (by omega)]) ?_
                        refine lv_iload hx hb dL_holds_152 (lv_at hl 6 rfl) ?_
                        have J154 : W pG l eG (RM 16 2 20) s mG ([.ref X.1, .int xx] : List Value).toArray below meth cG H locs (0 + 1) (0 + 10) (MQ below (wQi G (S := CU) (fun r u9 => r = nI 1 ∧ CV Z.1 u9) (fun u9 => cT G X Z u9) Ar) ([.ref X.1, .int xx] : List Value).toArray s 2 20 Ar) (F0 mG 166 ls [.int ((wd (Z.1 0 0) (p + 1)).2)]) := by
                          refine lv_istore (lv' := [(6, .int ((wd (Z.1 0 0) (p + 1)).2)), (5, .int ((wd (Z.1 0 0) (p + 1)).1)), (0, .ref X.1), (1, .int xx), (2, .ref q_1), (3, .int (Z.1 0 0)), (4, .int (nI 0)), (7, .int (-1)), (8, .int (nI 1)), (9, .int (nI p)), (10, .int (tonS (Z.1 2) (nI p) 6)), (11, .int (sumI (fun jj => b2 (decide (atF (Z.1 0 0) jj = atF (Z.1 0 0) p))) 10)), (12, .int (nI 10))]) hx hb dL_holds_166 hl (by decide) rfl (fun ls hl => ?_)
                          refine lv_aload_n hx hb dL_holds_168 rfl (lv_at hl 2 rfl) ?_
                          refine lv_iload hx hb dL_holds_169 (lv_at hl 9 rfl) ?_
                          refine lv_iconst (v := nI 0) hx hb dL_holds_171 (by decide) ?_
                          refine rd_go (va_runV (As := [.int (nI p), .int (nI 0)]) (rest := []) ⟨hx, hb, hml, hown, hts⟩ (k_po0 l G X Z u7 hZ hz p (by omega)) (cwV 2 hts gL_holds_X6_panelOf rfl rfl rfl (by decide +kernel) ⟨Nat.le_of_ble_eq_true rfl, Nat.le_of_ble_eq_true rfl⟩) (rV (ws := cT G X Z u7) (va_recv (ws := [(q_1, .inl (G.2.1, 10, .inl (atF (Z.1 0 0))))] ++ (cT G X Z u7)) hK hP (ci := 5) (q0 := 1) rfl rfl) hK hN (P_suf (pre := [(q_1, .inl (G.2.1, 10, .inl (atF (Z.1 0 0))))]) hP)) rfl rfl hl.1 rfl (lv_room (Nat.le_of_ble_eq_true rfl)) dL_holds_172 ⟨Nat.le_of_ble_eq_true rfl, Nat.le_of_ble_eq_true rfl⟩) ?_
                          refine lv_aload_n hx hb dL_holds_175 rfl (lv_at hl 4 rfl) ?_
                          refine lv_iload hx hb dL_holds_176 (lv_at hl 9 rfl) ?_
                          refine va_iald (D := G.1) (ws := [(q_1, .inl (G.2.1, 10, .inl (atF (Z.1 0 0))))] ++ (cT G X Z u7)) hx hb hK hP 0 0 (n := 10) rfl rfl (by first | assumption | exact vp_in_nI (by omega) (by omega)) dL_holds_178 ?_
                          refine lv_cgi (y := (atF (Z.1 0 0)) p) (by rw [nI_clamp (by omega)]) ?_
                          refine lv_bipush (v := nI 100) hx hb dL_holds_179 (by decide) ?_
                          refine lv_iadd hx hb dL_holds_181 ?_
                          refine lv_icmp_ne (tgt := 213) hx hb dL_holds_182 (by decide) (fun c_182 => ?_) (fun c_182 => ?_)
                          · exact (c_182 rfl).elim
                          · refine lv_aload_n hx hb dL_holds_185 rfl (lv_at hl 2 rfl) ?_
                            refine lv_iload hx hb dL_holds_186 (lv_at hl 9 rfl) ?_
                            refine lv_iconst (v := nI 1) hx hb dL_holds_188 (by decide) ?_
                            refine rd_go (va_runV (As := [.int (nI p), .int (nI 1)]) (rest := []) ⟨hx, hb, hml, hown, hts⟩ (k_po1 l G X Z u7 hZ hz p (by omega)) (cwV 2 hts gL_holds_X6_panelOf rfl rfl rfl (by decide +kernel) ⟨Nat.le_of_ble_eq_true rfl, Nat.le_of_ble_eq_true rfl⟩) (rV (ws := cT G X Z u7) (va_recv (ws := [(q_1, .inl (G.2.1, 10, .inl (atF (Z.1 0 0))))] ++ (cT G X Z u7)) hK hP (ci := 5) (q0 := 1) rfl rfl) hK hN (P_suf (pre := [(q_1, .inl (G.2.1, 10, .inl (atF (Z.1 0 0))))]) hP)) rfl rfl hl.1 rfl (lv_room (Nat.le_of_ble_eq_true rfl)) dL_holds_189 ⟨Nat.le_of_ble_eq_true rfl, Nat.le_of_ble_eq_true rfl⟩) ?_
                            refine lv_iload hx hb dL_holds_192 (lv_at hl 10 rfl) ?_
                            refine lv_icmp_ne (tgt := 213) hx hb dL_holds_194 (by decide) (fun c_194 => ?_) (fun c_194 => ?_)
                            · exact absurd rfl c_194
                            · refine lv_aload_n hx hb dL_holds_197 rfl (lv_at hl 2 rfl) ?_
                              refine lv_iload hx hb dL_holds_198 (lv_at hl 9 rfl) ?_
                              refine lv_iconst (v := nI 2) hx hb dL_holds_200 (by decide) ?_
                              refine rd_go (va_runV (As := [.int (nI p), .int (nI 2)]) (rest := []) ⟨hx, hb, hml, hown, hts⟩ (k_po2 l G X Z u7 hZ hz p (by omega)) (cwV 2 hts gL_holds_X6_panelOf rfl rfl rfl (by decide +kernel) ⟨Nat.le_of_ble_eq_true rfl, Nat.le_of_ble_eq_true rfl⟩) (rV (ws := cT G X Z u7) (va_recv (ws := [(q_1, .inl (G.2.1, 10, .inl (atF (Z.1 0 0))))] ++ (cT G X Z u7)) hK hP (ci := 5) (q0 := 1) rfl rfl) hK hN (P_suf (pre := [(q_1, .inl (G.2.1, 10, .inl (atF (Z.1 0 0))))]) hP)) rfl rfl hl.1 rfl (lv_room (Nat.le_of_ble_eq_true rfl)) dL_holds_201 ⟨Nat.le_of_ble_eq_true rfl, Nat.le_of_ble_eq_true rfl⟩) ?_
                              refine lv_iload hx hb dL_holds_204 (lv_at hl 11 rfl) ?_
                              refine lv_icmp_ne (tgt := 213) hx hb dL_holds_206 (by decide) (fun c_206 => ?_) (fun c_206 => ?_)
                              · exact (c_206 (th_eq hZ (by omega))).elim
                              · refine lv_iconst (v := nI 1) hx hb dL_holds_209 (by decide) ?_
                                refine lv_goto (tgt := 214) hx hb dL_holds_210 (by decide) ?_
                                refine lv_istore (lv' := [(8, .int (nI 1)), (6, .int ((wd (Z.1 0 0) (p + 1)).2)), (5, .int ((wd (Z.1 0 0) (p + 1)).1)), (0, .ref X.1), (1, .int xx), (2, .ref q_1), (3, .int (Z.1 0 0)), (4, .int (nI 0)), (7, .int (-1)), (9, .int (nI p)), (10, .int (tonS (Z.1 2) (nI p) 6)), (11, .int (sumI (fun jj => b2 (decide (atF (Z.1 0 0) jj = atF (Z.1 0 0) p))) 10)), (12, .int (nI 10))]) hx hb dL_holds_214 hl (by decide) rfl (fun ls hl => ?_)
                                refine lv_iinc (v := nI (p + 1)) (lv' := [(9, .int (nI (p + 1))), (8, .int (nI 1)), (6, .int ((wd (Z.1 0 0) (p + 1)).2)), (5, .int ((wd (Z.1 0 0) (p + 1)).1)), (0, .ref X.1), (1, .int xx), (2, .ref q_1), (3, .int (Z.1 0 0)), (4, .int (nI 0)), (7, .int (-1)), (10, .int (tonS (Z.1 2) (nI p) 6)), (11, .int (sumI (fun jj => b2 (decide (atF (Z.1 0 0) jj = atF (Z.1 0 0) p))) 10)), (12, .int (nI 10))]) hx hb dL_holds_216 hl (k := 9) rfl (iincN p) (by decide) rfl (fun ls hl => ?_)
                                refine lv_goto (tgt := 33) hx hb dL_holds_219 (by decide) ?_
                                exact ih33 (p + 1) u7 (by omega) (by exact hu7) (by omega) _ _ hP hD hS ls (lv_as (l1 := [(0, .ref X.1), (1, .int xx), (2, .ref q_1), (3, .int (Z.1 0 0)), (4, .int (nI 0)), (5, .int ((wd (Z.1 0 0) (p + 1)).1)), (6, .int ((wd (Z.1 0 0) (p + 1)).2)), (7, .int (-1)), (8, .int (nI 1)), (9, .int (nI (p + 1)))]) (lv_sub hl [4, 5, 6, 7, 8, 3, 2, 9, 1, 0] rfl) (by rfl))
                        refine lv_icmp_le (tgt := 164) hx hb dL_holds_154 (by decide) (fun c_154 => ?_) (fun c_154 => ?_)
                        · refine lv_iload hx hb dL_holds_164 (lv_at hl 6 rfl) ?_
                          exact lv_cgi (y := (wd (Z.1 0 0) (p + 1)).2) (by exact wd_2f c_154) J154
                        · refine lv_aload_n hx hb dL_holds_157 rfl (lv_at hl 3 rfl) ?_
                          refine lv_iload hx hb dL_holds_158 (lv_at hl 9 rfl) ?_
                          refine va_iald (D := G.1) (ws := [(q_1, .inl (G.2.1, 10, .inl (atF (Z.1 0 0))))] ++ (cT G X Z u7)) hx hb hK hP 0 0 (n := 10) rfl rfl (by first | assumption | exact vp_in_nI (by omega) (by omega)) dL_holds_160 ?_
                          refine lv_cgi (y := (atF (Z.1 0 0)) p) (by rw [nI_clamp (by omega)]) ?_
                          refine lv_goto (tgt := 166) hx hb dL_holds_161 (by decide) ?_
                          exact lv_cgi (y := (wd (Z.1 0 0) (p + 1)).2) (by exact wd_2t c_154) J154
                      refine lv_icmp_ge (tgt := 144) hx hb dL_holds_134 (by decide) (fun c_134 => ?_) (fun c_134 => ?_)
                      · refine lv_iload hx hb dL_holds_144 (lv_at hl 5 rfl) ?_
                        exact lv_cgi (y := (wd (Z.1 0 0) (p + 1)).1) (by exact wd_1f c_134) J134
                      · refine lv_aload_n hx hb dL_holds_137 rfl (lv_at hl 2 rfl) ?_
                        refine lv_iload hx hb dL_holds_138 (lv_at hl 9 rfl) ?_
                        refine va_iald (D := G.1) (ws := [(q_1, .inl (G.2.1, 10, .inl (atF (Z.1 0 0))))] ++ (cT G X Z u7)) hx hb hK hP 0 0 (n := 10) rfl rfl (by first | assumption | exact vp_in_nI (by omega) (by omega)) dL_holds_140 ?_
                        refine lv_cgi (y := (atF (Z.1 0 0)) p) (by rw [nI_clamp (by omega)]) ?_
                        refine lv_goto (tgt := 146) hx hb dL_holds_141 (by decide) ?_
                        exact lv_cgi (y := (wd (Z.1 0 0) (p + 1)).1) (by exact wd_1t c_134) J134
                    · have hj1 : j < 10 := fl c_98 (by omega) (by omega)
                      refine lv_iload hx hb dL_holds_101 (lv_at hl 11 rfl) ?_
                      refine lv_aload_n hx hb dL_holds_103 rfl (lv_at hl 2 rfl) ?_
                      refine lv_iload hx hb dL_holds_104 (lv_at hl 12 rfl) ?_
                      refine va_iald (D := G.1) (ws := [(q_1, .inl (G.2.1, 10, .inl (atF (Z.1 0 0))))] ++ (cT G X Z u7)) hx hb hK hP 0 0 (n := 10) rfl rfl (by first | assumption | exact vp_in_nI (by omega) (by omega)) dL_holds_106 ?_
                      refine lv_cgi (y := (atF (Z.1 0 0)) j) (by rw [nI_clamp (by omega)]) ?_
                      refine lv_aload_n hx hb dL_holds_107 rfl (lv_at hl 2 rfl) ?_
                      refine lv_iload hx hb dL_holds_108 (lv_at hl 9 rfl) ?_
                      refine va_iald (D := G.1) (ws := [(q_1, .inl (G.2.1, 10, .inl (atF (Z.1 0 0))))] ++ (cT G X Z u7)) hx hb hK hP 0 0 (n := 10) rfl rfl (by first | assumption | exact vp_in_nI (by omega) (by omega)) dL_holds_110 ?_
                      refine lv_cgi (y := (atF (Z.1 0 0)) p) (by rw [nI_clamp (by omega)]) ?_
                      refine lv_icmp_ne (tgt := 118) hx hb dL_holds_111 (by decide) (fun c_111 => ?_) (fun c_111 => ?_)
                      · refine lv_iconst (v := nI 0) hx hb dL_holds_118 (by decide) ?_
                        refine lv_iadd hx hb dL_holds_119 ?_
                        refine lv_istore (lv' := [(11, .int ((sumI (fun jj => b2 (decide (atF (Z.1 0 0) jj = atF (Z.1 0 0) p))) j) + (nI 0))), (0, .ref X.1), (1, .int xx), (2, .ref q_1), (3, .int (Z.1 0 0)), (4, .int (nI 0)), (5, .int ((wd (Z.1 0 0) p).1)), (6, .int ((wd (Z.1 0 0) p).2)), (7, .int (-1)), (8, .int (nI 1)), (9, .int (nI p)), (10, .int (tonS (Z.1 2) (nI p) 6)), (12, .int (nI j))]) hx hb dL_holds_120 hl (by decide) rfl (fun ls hl => ?_)
                        refine lv_iinc (v := nI (j + 1)) (lv' := [(12, .int (nI (j + 1))), (11, .int ((sumI (fun jj => b2 (decide (atF (Z.1 0 0) jj = atF (Z.1 0 0) p))) j) + (nI 0))), (0, .ref X.1), (1, .int xx), (2, .ref q_1), (3, .int (Z.1 0 0)), (4, .int (nI 0)), (5, .int ((wd (Z.1 0 0) p).1)), (6, .int ((wd (Z.1 0 0) p).2)), (7, .int (-1)), (8, .int (nI 1)), (9, .int (nI p)), (10, .int (tonS (Z.1 2) (nI p) 6))]) hx hb dL_holds_122 hl (k := 12) rfl (iincN j) (by decide) rfl (fun ls hl => ?_)
                        refine lv_goto (tgt := 94) hx hb dL_holds_125 (by decide) ?_
                        exact ih94 (j + 1) u7 (by omega) (by exact hu7) (by omega) _ _ hP hD hS ls (lv_as (l1 := [(0, .ref X.1), (1, .int xx), (2, .ref q_1), (3, .int (Z.1 0 0)), (4, .int (nI 0)), (5, .int ((wd (Z.1 0 0) p).1)), (6, .int ((wd (Z.1 0 0) p).2)), (7, .int (-1)), (8, .int (nI 1)), (9, .int (nI p)), (10, .int (tonS (Z.1 2) (nI p) 6)), (11, .int ((sumI (fun jj => b2 (decide (atF (Z.1 0 0) jj = atF (Z.1 0 0) p))) j) + (nI 0))), (12, .int (nI (j + 1)))]) (lv_sub hl [2, 3, 4, 5, 6, 7, 8, 9, 10, 11, 12, 1, 0] rfl) (by rw [sI_t (f := (fun jj => b2 (decide (atF (Z.1 0 0) jj = atF (Z.1 0 0) p)))) (k := j) (b2q c_111).symm]))
                      · refine lv_iconst (v := nI 1) hx hb dL_holds_114 (by decide) ?_
                        refine lv_goto (tgt := 119) hx hb dL_holds_115 (by decide) ?_
                        refine lv_iadd hx hb dL_holds_119 ?_
                        refine lv_istore (lv' := [(11, .int ((sumI (fun jj => b2 (decide (atF (Z.1 0 0) jj = atF (Z.1 0 0) p))) j) + (nI 1))), (0, .ref X.1), (1, .int xx), (2, .ref q_1), (3, .int (Z.1 0 0)), (4, .int (nI 0)), (5, .int ((wd (Z.1 0 0) p).1)), (6, .int ((wd (Z.1 0 0) p).2)), (7, .int (-1)), (8, .int (nI 1)), (9, .int (nI p)), (10, .int (tonS (Z.1 2) (nI p) 6)), (12, .int (nI j))]) hx hb dL_holds_120 hl (by decide) rfl (fun ls hl => ?_)
                        refine lv_iinc (v := nI (j + 1)) (lv' := [(12, .int (nI (j + 1))), (11, .int ((sumI (fun jj => b2 (decide (atF (Z.1 0 0) jj = atF (Z.1 0 0) p))) j) + (nI 1))), (0, .ref X.1), (1, .int xx), (2, .ref q_1), (3, .int (Z.1 0 0)), (4, .int (nI 0)), (5, .int ((wd (Z.1 0 0) p).1)), (6, .int ((wd (Z.1 0 0) p).2)), (7, .int (-1)), (8, .int (nI 1)), (9, .int (nI p)), (10, .int (tonS (Z.1 2) (nI p) 6))]) hx hb dL_holds_122 hl (k := 12) rfl (iincN j) (by decide) rfl (fun ls hl => ?_)
                        refine lv_goto (tgt := 94) hx hb dL_holds_125 (by decide) ?_
                        exact ih94 (j + 1) u7 (by omega) (by exact hu7) (by omega) _ _ hP hD hS ls (lv_as (l1 := [(0, .ref X.1), (1, .int xx), (2, .ref q_1), (3, .int (Z.1 0 0)), (4, .int (nI 0)), (5, .int ((wd (Z.1 0 0) p).1)), (6, .int ((wd (Z.1 0 0) p).2)), (7, .int (-1)), (8, .int (nI 1)), (9, .int (nI p)), (10, .int (tonS (Z.1 2) (nI p) 6)), (11, .int ((sumI (fun jj => b2 (decide (atF (Z.1 0 0) jj = atF (Z.1 0 0) p))) j) + (nI 1))), (12, .int (nI (j + 1)))]) (lv_sub hl [2, 3, 4, 5, 6, 7, 8, 9, 10, 11, 12, 1, 0] rfl) (by rw [sI_t (f := (fun jj => b2 (decide (atF (Z.1 0 0) jj = atF (Z.1 0 0) p)))) (k := j) (b2p c_111).symm]))
                exact L94 11 0 u8 (by omega) (by exact hu8) (by omega) _ _ hP hD hS ls (lv_as (l1 := [(0, .ref X.1), (1, .int xx), (2, .ref q_1), (3, .int (Z.1 0 0)), (4, .int (nI 0)), (5, .int ((wd (Z.1 0 0) p).1)), (6, .int ((wd (Z.1 0 0) p).2)), (7, .int (-1)), (8, .int (nI 1)), (9, .int (nI p)), (10, .int (tonS (Z.1 2) (nI p) 6)), (11, .int (nI 0)), (12, .int (nI 0))]) (lv_sub hl [1, 2, 3, 4, 5, 6, 7, 8, 9, 10, 11, 12, 0] rfl) (by rfl))
              · have hj1 : j < 6 := fl c_58 (by omega) (by omega)
                refine lv_iload hx hb dL_holds_61 (lv_at hl 10 rfl) ?_
                refine lv_aload_n hx hb dL_holds_63 rfl (lv_at hl 0 rfl) ?_
                refine lv_iload hx hb dL_holds_64 (lv_at hl 12 rfl) ?_
                refine rd_go (va_runV (As := [.int (nI j)]) (rest := [.int (tonS (Z.1 2) (nI p) j)]) ⟨hx, hb, hml, hown, hts⟩ (k_town l G X Z u8 hZ hz j (by omega)) (cwV 1 hts gL_holds_X6_town rfl rfl rfl (by decide +kernel) ⟨Nat.le_of_ble_eq_true rfl, Nat.le_of_ble_eq_true rfl⟩) (rV (ws := cT G X Z u8) (va_recv (ws := [(q_1, .inl (G.2.1, 10, .inl (atF (Z.1 0 0))))] ++ (cT G X Z u8)) hK hP (ci := 5) (q0 := 1) rfl rfl) hK hN (P_suf (pre := [(q_1, .inl (G.2.1, 10, .inl (atF (Z.1 0 0))))]) hP)) rfl rfl hl.1 rfl (lv_room (Nat.le_of_ble_eq_true rfl)) dL_holds_66 ⟨Nat.le_of_ble_eq_true rfl, Nat.le_of_ble_eq_true rfl⟩) ?_
                refine lv_iload hx hb dL_holds_69 (lv_at hl 9 rfl) ?_
                refine lv_icmp_ne (tgt := 81) hx hb dL_holds_71 (by decide) (fun c_71 => ?_) (fun c_71 => ?_)
                · refine lv_iconst (v := nI 0) hx hb dL_holds_81 (by decide) ?_
                  refine lv_ior hx hb dL_holds_82 ?_
                  refine lv_istore (lv' := [(10, .int ((tonS (Z.1 2) (nI p) j) ||| (nI 0))), (0, .ref X.1), (1, .int xx), (2, .ref q_1), (3, .int (Z.1 0 0)), (4, .int (nI 0)), (5, .int ((wd (Z.1 0 0) p).1)), (6, .int ((wd (Z.1 0 0) p).2)), (7, .int (-1)), (8, .int (nI 1)), (9, .int (nI p)), (11, .int (nI 0)), (12, .int (nI j))]) hx hb dL_holds_83 hl (by decide) rfl (fun ls hl => ?_)
                  refine lv_iinc (v := nI (j + 1)) (lv' := [(12, .int (nI (j + 1))), (10, .int ((tonS (Z.1 2) (nI p) j) ||| (nI 0))), (0, .ref X.1), (1, .int xx), (2, .ref q_1), (3, .int (Z.1 0 0)), (4, .int (nI 0)), (5, .int ((wd (Z.1 0 0) p).1)), (6, .int ((wd (Z.1 0 0) p).2)), (7, .int (-1)), (8, .int (nI 1)), (9, .int (nI p)), (11, .int (nI 0))]) hx hb dL_holds_85 hl (k := 12) rfl (iincN j) (by decide) rfl (fun ls hl => ?_)
                  refine lv_goto (tgt := 54) hx hb dL_holds_88 (by decide) ?_
                  exact ih54 (j + 1) u8 (by omega) (by exact hu8) (by omega) _ _ hP hD hS ls (lv_as (l1 := [(0, .ref X.1), (1, .int xx), (2, .ref q_1), (3, .int (Z.1 0 0)), (4, .int (nI 0)), (5, .int ((wd (Z.1 0 0) p).1)), (6, .int ((wd (Z.1 0 0) p).2)), (7, .int (-1)), (8, .int (nI 1)), (9, .int (nI p)), (10, .int ((tonS (Z.1 2) (nI p) j) ||| (nI 0))), (11, .int (nI 0)), (12, .int (nI (j + 1)))]) (lv_sub hl [2, 3, 4, 5, 6, 7, 8, 9, 10, 11, 1, 12, 0] rfl) (by rw [or0, tonS, if_neg c_71] <;> rfl))
                · refine lv_iconst (v := nI 1) hx hb dL_holds_74 (by decide) ?_
                  refine lv_iload hx hb dL_holds_75 (lv_at hl 12 rfl) ?_
                  refine lv_ishl hx hb dL_holds_77 ?_
                  refine lv_goto (tgt := 82) hx hb dL_holds_78 (by decide) ?_
                  refine lv_ior hx hb dL_holds_82 ?_
                  refine lv_istore (lv' := [(10, .int ((tonS (Z.1 2) (nI p) j) ||| ((nI 1) <<< ((nI j) &&& 31)))), (0, .ref X.1), (1, .int xx), (2, .ref q_1), (3, .int (Z.1 0 0)), (4, .int (nI 0)), (5, .int ((wd (Z.1 0 0) p).1)), (6, .int ((wd (Z.1 0 0) p).2)), (7, .int (-1)), (8, .int (nI 1)), (9, .int (nI p)), (11, .int (nI 0)), (12, .int (nI j))]) hx hb dL_holds_83 hl (by decide) rfl (fun ls hl => ?_)
                  refine lv_iinc (v := nI (j + 1)) (lv' := [(12, .int (nI (j + 1))), (10, .int ((tonS (Z.1 2) (nI p) j) ||| ((nI 1) <<< ((nI j) &&& 31)))), (0, .ref X.1), (1, .int xx), (2, .ref q_1), (3, .int (Z.1 0 0)), (4, .int (nI 0)), (5, .int ((wd (Z.1 0 0) p).1)), (6, .int ((wd (Z.1 0 0) p).2)), (7, .int (-1)), (8, .int (nI 1)), (9, .int (nI p)), (11, .int (nI 0))]) hx hb dL_holds_85 hl (k := 12) rfl (iincN j) (by decide) rfl (fun ls hl => ?_)
                  refine lv_goto (tgt := 54) hx hb dL_holds_88 (by decide) ?_
                  exact ih54 (j + 1) u8 (by omega) (by exact hu8) (by omega) _ _ hP hD hS ls (lv_as (l1 := [(0, .ref X.1), (1, .int xx), (2, .ref q_1), (3, .int (Z.1 0 0)), (4, .int (nI 0)), (5, .int ((wd (Z.1 0 0) p).1)), (6, .int ((wd (Z.1 0 0) p).2)), (7, .int (-1)), (8, .int (nI 1)), (9, .int (nI p)), (10, .int ((tonS (Z.1 2) (nI p) j) ||| ((nI 1) <<< ((nI j) &&& 31)))), (11, .int (nI 0)), (12, .int (nI (j + 1)))]) (lv_sub hl [2, 3, 4, 5, 6, 7, 8, 9, 10, 11, 1, 12, 0] rfl) (by rw [tonS, if_pos c_71] <;> rfl))
          exact L54 7 0 u9 (by omega) (by exact hu9) (by omega) _ _ hP hD hS ls (lv_as (l1 := [(0, .ref X.1), (1, .int xx), (2, .ref q_1), (3, .int (Z.1 0 0)), (4, .int (nI 0)), (5, .int ((wd (Z.1 0 0) p).1)), (6, .int ((wd (Z.1 0 0) p).2)), (7, .int (-1)), (8, .int (nI 1)), (9, .int (nI p)), (10, .int (nI 0)), (11, .int (nI 0)), (12, .int (nI 0))]) (lv_sub hl [3, 4, 5, 6, 7, 8, 9, 10, 11, 12, 2, 1, 0] rfl) (by rfl))
  exact L33 11 0 u_2 (by omega) (by exact hvu_2) (by omega) _ _ hP hD hS ls (lv_as (l1 := [(0, .ref X.1), (1, .int xx), (2, .ref q_1), (3, .int (Z.1 0 0)), (4, .int (nI 0)), (5, .int (nI 0)), (6, .int (nI 0)), (7, .int (-1)), (8, .int (nI 1)), (9, .int (nI 0))]) (lv_sub hl [8, 9, 7, 6, 5, 4, 3, 2, 1, 0] rfl) (by rfl))

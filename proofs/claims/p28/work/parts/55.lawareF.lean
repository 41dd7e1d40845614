set_option maxHeartbeats 4000000 in
set_option maxRecDepth 100000 in
theorem k_areF (l : Launch) (G : GG) (sz : Nat) (X : AD) (Z : ZZ) (u : CU) {B : Nat} (hZ : OKg B Z.1) (hz : Z.2.2.2.1 ≤ 6) (hu : CV Z.1 u) : WRi l yL_areFoldings wsL_areFoldings 15 G [.ref X.1, .int (Z.1 0 0), .int (Z.1 0 1)] (cT G X Z u) sz (S := CU) (fun r u9 => r = nI 1 ∧ CV Z.1 u9) (fun u9 => cT G X Z u9) 1 10 := by
  refine wr_of (l := l) (y := yL_areFoldings) (w := wsL_areFoldings) (d := 15) (G := G) (As := [.ref X.1, .int (Z.1 0 0), .int (Z.1 0 1)]) (sz := sz) (mc := 1) (ms := 10) (cc := cL_areFoldings) (maxL := 14) (ret := (some .boolean)) (Qc := fun Ar => wQi G (S := CU) (fun r u9 => r = nI 1 ∧ CV Z.1 u9) (fun u9 => cT G X Z u9) Ar) (by decide) rfl (Nat.le_of_ble_eq_true rfl) ?_
  intro pG eG s mG below meth cG hsz hx hb hr hml hts hown hlocks hnm hP hK hN Ar hD hA hS ls hl
  have hown : s.vm.findClass RL = some mG.cls := hown
  have hP : PP G (cT G X Z u) s.heap := hP
  have hD : va_D Ar (cT G X Z u) := hD
  have hl : lv_has ls 14 [(0, .ref X.1), (1, .int (Z.1 0 0)), (2, .int (Z.1 0 1))] := hl
  have hc512 := cN_le (zq Z.1) 512
  have hc0 := zq_pos hZ
  obtain ⟨a0, ha0, ea0⟩ := okg_a hZ
  have hca := cN_up (zq_fo hZ ea0) ha0
  refine lv_aload_n hx hb dL_areFoldings_0 rfl (lv_at hl 0 rfl) ?_
  refine lv_iconst (v := nI 4) hx hb dL_areFoldings_1 (by decide) ?_
  refine wr_woi (mid := cT G X Z u) (va_runV (As := [.int (nI 4)]) (rest := []) ⟨hx, hb, hml, hown, hts⟩ (k_co4 l G _ X Z u hZ hz hu) (cwV 1 hts gL_areFoldings_X6_count rfl rfl rfl (by decide +kernel) ⟨Nat.le_of_ble_eq_true rfl, Nat.le_of_ble_eq_true rfl⟩) (wVw (mid := cT G X Z u) (va_recv (ws := cT G X Z u) hK hP (ci := 5) (q0 := 0) rfl rfl) hK hN hP hD) rfl rfl hl.1 rfl (lv_room (Nat.le_of_ble_eq_true rfl)) dL_areFoldings_2 ⟨Nat.le_of_ble_eq_true rfl, Nat.le_of_ble_eq_true rfl⟩) hP hD hS hA (fun r u_1 H locs hw hP9 hD9 hS => ?_)
  obtain ⟨rfl, hvu_1⟩ := hw
  have hP : PP G (cT G X Z u_1) _ := hP9
  have hD : va_D Ar (cT G X Z u_1) := hD9
  refine lv_istore_n (lv' := [(3, .int (nI (cN (zq Z.1) 512))), (0, .ref X.1), (1, .int (Z.1 0 0)), (2, .int (Z.1 0 1))]) hx hb dL_areFoldings_5 rfl hl (by decide) rfl (fun ls hl => ?_)
  refine lv_bipush (v := nI 10) hx hb dL_areFoldings_6 (by decide) ?_
  refine va_newa (D := G.1) (ws := cT G X Z u_1) (atype := .int) (ty := .int) (N' := 10) (a0 := (10, .inl (fun _ => 0))) hx hb (hts (.arrayClass .int) (List.mem_of_getElem? (i := 1) rfl)) rfl hK hP hD hS hA (fun _ => rfl) (by decide) (by decide) (Nat.le_of_ble_eq_true rfl) (Nat.le_of_ble_eq_true rfl) (Nat.le_of_ble_eq_true rfl) dL_areFoldings_8 (fun q_2 cA H hK2 hP hD hS => ?_)
  obtain rfl : cA = G.2.1 := newa_id hK2 0 rfl
  have hP : PP G (cT G X Z u_1 ++ ([(q_2, .inl (G.2.1, 10, .inl (fun _ => 0)))])) _ := hP
  have hD : va_D Ar (cT G X Z u_1 ++ ([(q_2, .inl (G.2.1, 10, .inl (fun _ => 0)))])) := hD
  have hP : PP G ([(q_2, .inl (G.2.1, 10, .inl (fun _ => 0)))] ++ (cT G X Z u_1)) _ := P_perm (G := G) hP List.perm_append_comm
  have hD : va_D Ar ([(q_2, .inl (G.2.1, 10, .inl (fun _ => 0)))] ++ (cT G X Z u_1)) := D_perm hD List.perm_append_comm
  refine lv_astore (lv' := [(4, .ref q_2), (3, .int (nI (cN (zq Z.1) 512))), (0, .ref X.1), (1, .int (Z.1 0 0)), (2, .int (Z.1 0 1))]) hx hb dL_areFoldings_10 hl (by decide) rfl (fun ls hl => ?_)
  refine lv_iconst (v := (-1)) hx hb dL_areFoldings_12 (by decide) ?_
  refine lv_istore (lv' := [(5, .int (-1)), (4, .ref q_2), (3, .int (nI (cN (zq Z.1) 512))), (0, .ref X.1), (1, .int (Z.1 0 0)), (2, .int (Z.1 0 1))]) hx hb dL_areFoldings_13 hl (by decide) rfl (fun ls hl => ?_)
  refine lv_iconst (v := nI 0) hx hb dL_areFoldings_15 (by decide) ?_
  refine lv_istore (lv' := [(6, .int (nI 0)), (5, .int (-1)), (4, .ref q_2), (3, .int (nI (cN (zq Z.1) 512))), (0, .ref X.1), (1, .int (Z.1 0 0)), (2, .int (Z.1 0 1))]) hx hb dL_areFoldings_16 hl (by decide) rfl (fun ls hl => ?_)
  refine lv_sipush (v := nI 511) hx hb dL_areFoldings_18 (by decide +kernel) ?_
  refine lv_istore (lv' := [(7, .int (nI 511)), (6, .int (nI 0)), (5, .int (-1)), (4, .ref q_2), (3, .int (nI (cN (zq Z.1) 512))), (0, .ref X.1), (1, .int (Z.1 0 0)), (2, .int (Z.1 0 1))]) hx hb dL_areFoldings_21 hl (by decide) rfl (fun ls hl => ?_)
  refine lv_iconst (v := nI 0) hx hb dL_areFoldings_23 (by decide) ?_
  refine lv_istore (lv' := [(8, .int (nI 0)), (7, .int (nI 511)), (6, .int (nI 0)), (5, .int (-1)), (4, .ref q_2), (3, .int (nI (cN (zq Z.1) 512))), (0, .ref X.1), (1, .int (Z.1 0 0)), (2, .int (Z.1 0 1))]) hx hb dL_areFoldings_24 hl (by decide) rfl (fun ls hl => ?_)
  refine lv_iload_n hx hb dL_areFoldings_26 rfl (lv_at hl 5 rfl) ?_
  refine lv_aload_n hx hb dL_areFoldings_27 rfl (lv_at hl 6 rfl) ?_
  refine lv_iconst (v := nI 5) hx hb dL_areFoldings_28 (by decide) ?_
  refine wr_g1i (pre := [(q_2, .inl (G.2.1, 10, .inl (fun _ => 0)))]) (mid := cT G X Z u_1) (va_runV (As := [.int (nI 5)]) (rest := [.int (nI (cN (zq Z.1) 512))]) ⟨hx, hb, hml, hown, hts⟩ (k_co5 l G _ X Z u_1 hZ hz hvu_1) (cwV 1 hts gL_areFoldings_X6_count rfl rfl rfl (by decide +kernel) ⟨Nat.le_of_ble_eq_true rfl, Nat.le_of_ble_eq_true rfl⟩) (wV1 (pre := [(q_2, .inl (G.2.1, 10, .inl (fun _ => 0)))]) (mid := cT G X Z u_1) (va_recv (ws := [(q_2, .inl (G.2.1, 10, .inl (fun _ => 0)))] ++ (cT G X Z u_1)) hK hP (ci := 5) (q0 := 1) rfl rfl) hK hN hP hD) rfl rfl hl.1 rfl (lv_room (Nat.le_of_ble_eq_true rfl)) dL_areFoldings_29 ⟨Nat.le_of_ble_eq_true rfl, Nat.le_of_ble_eq_true rfl⟩) hP hD hS hA (fun r u_3 H locs hw hP9 hD9 hS => ?_)
  obtain ⟨rfl, hvu_3⟩ := hw
  have hP : PP G ([(q_2, .inl (G.2.1, 10, .inl (fun _ => 0)))] ++ (cT G X Z u_3)) _ := hP9
  have hD : va_D Ar ([(q_2, .inl (G.2.1, 10, .inl (fun _ => 0)))] ++ (cT G X Z u_3)) := hD9
  refine lv_icmp_ne (tgt := 60) hx hb dL_areFoldings_32 (by decide) (fun c_32 => ?_) (fun c_32 => ?_)
  · exact (c_32 (okg_walk hZ).symm).elim
  · refine lv_aload_n hx hb dL_areFoldings_35 rfl (lv_at hl 6 rfl) ?_
    refine wr_g1d (pre := [(q_2, .inl (G.2.1, 10, .inl (fun _ => 0)))]) (mid := cT G X Z u_3) (va_runV (As := []) (rest := []) ⟨hx, hb, hml, hown, hts⟩ (k_share l G _ X Z u_3 hZ hz hvu_3) (cwV 0 hts gL_areFoldings_X6_sureShare rfl rfl rfl (by decide +kernel) ⟨Nat.le_of_ble_eq_true rfl, Nat.le_of_ble_eq_true rfl⟩) (wV1 (pre := [(q_2, .inl (G.2.1, 10, .inl (fun _ => 0)))]) (mid := cT G X Z u_3) (va_recv (ws := [(q_2, .inl (G.2.1, 10, .inl (fun _ => 0)))] ++ (cT G X Z u_3)) hK hP (ci := 5) (q0 := 1) rfl rfl) hK hN hP hD) rfl rfl hl.1 rfl (lv_room (Nat.le_of_ble_eq_true rfl)) dL_areFoldings_36 ⟨Nat.le_of_ble_eq_true rfl, Nat.le_of_ble_eq_true rfl⟩) hP hD hS hA (fun r u_4 H locs hw hP9 hD9 hS => ?_)
    obtain ⟨rfl, hvu_4⟩ := hw
    have hP : PP G ([(q_2, .inl (G.2.1, 10, .inl (fun _ => 0)))] ++ (cT G X Z u_4)) _ := hP9
    have hD : va_D Ar ([(q_2, .inl (G.2.1, 10, .inl (fun _ => 0)))] ++ (cT G X Z u_4)) := hD9
    refine lv_dconst1 hx hb dL_areFoldings_39 ?_
    refine lv_iload_n hx hb dL_areFoldings_40 rfl (lv_at hl 5 rfl) ?_
    refine lv_i2d hx hb dL_areFoldings_41 ?_
    refine lv_ddiv hx hb dL_areFoldings_42 (by rw [share_is (by omega)]; exact (okV_1 hc512).1) ?_
    refine lv_cgv (y := .double (shV (cN (zq Z.1) 512))) (congrArg Value.double (share_is (by omega))) ?_
    refine lv_dcmp hx hb dL_areFoldings_43 ?_
    refine lv_if_ne (tgt := 60) hx hb dL_areFoldings_44 (by decide) (fun c_44 => ?_) (fun c_44 => ?_)
    · exact (c_44 (self_V hc512)).elim
    · refine lv_aload_n hx hb dL_areFoldings_47 rfl (lv_at hl 6 rfl) ?_
      refine lv_iload_n hx hb dL_areFoldings_48 rfl (lv_at hl 5 rfl) ?_
      refine wr_g1i (pre := [(q_2, .inl (G.2.1, 10, .inl (fun _ => 0)))]) (mid := cT G X Z u_4) (va_runV (As := [.int (nI (cN (zq Z.1) 512))]) (rest := []) ⟨hx, hb, hml, hown, hts⟩ (k_fol l G _ X Z u_4 hZ hz hvu_4 (nI (cN (zq Z.1) 512)) (nI_pos (by omega))) (cwV 1 hts gL_areFoldings_X6_folding rfl rfl rfl (by decide +kernel) ⟨Nat.le_of_ble_eq_true rfl, Nat.le_of_ble_eq_true rfl⟩) (wV1 (pre := [(q_2, .inl (G.2.1, 10, .inl (fun _ => 0)))]) (mid := cT G X Z u_4) (va_recv (ws := [(q_2, .inl (G.2.1, 10, .inl (fun _ => 0)))] ++ (cT G X Z u_4)) hK hP (ci := 5) (q0 := 1) rfl rfl) hK hN hP hD) rfl rfl hl.1 rfl (lv_room (Nat.le_of_ble_eq_true rfl)) dL_areFoldings_49 ⟨Nat.le_of_ble_eq_true rfl, Nat.le_of_ble_eq_true rfl⟩) hP hD hS hA (fun r u_5 H locs hw hP9 hD9 hS => ?_)
      obtain ⟨rfl, hvu_5⟩ := hw
      have hP : PP G ([(q_2, .inl (G.2.1, 10, .inl (fun _ => 0)))] ++ (cT G X Z u_5)) _ := hP9
      have hD : va_D Ar ([(q_2, .inl (G.2.1, 10, .inl (fun _ => 0)))] ++ (cT G X Z u_5)) := hD9
      refine lv_cgi (y := (-1)) (fol_no _) ?_
      refine lv_iconst (v := (-1)) hx hb dL_areFoldings_52 (by decide) ?_
      refine lv_icmp_ne (tgt := 60) hx hb dL_areFoldings_53 (by decide) (fun c_53 => ?_) (fun c_53 => ?_)
      · exact absurd rfl c_53
      · refine lv_iconst (v := nI 1) hx hb dL_areFoldings_56 (by decide) ?_
        refine lv_goto (tgt := 61) hx hb dL_areFoldings_57 (by decide) ?_
        refine lv_istore (lv' := [(9, .int (nI 1)), (8, .int (nI 0)), (7, .int (nI 511)), (6, .int (nI 0)), (5, .int (-1)), (4, .ref q_2), (3, .int (nI (cN (zq Z.1) 512))), (0, .ref X.1), (1, .int (Z.1 0 0)), (2, .int (Z.1 0 1))]) hx hb dL_areFoldings_61 hl (by decide) rfl (fun ls hl => ?_)
        refine lv_iconst (v := nI 0) hx hb dL_areFoldings_63 (by decide) ?_
        refine lv_istore (lv' := [(10, .int (nI 0)), (9, .int (nI 1)), (8, .int (nI 0)), (7, .int (nI 511)), (6, .int (nI 0)), (5, .int (-1)), (4, .ref q_2), (3, .int (nI (cN (zq Z.1) 512))), (0, .ref X.1), (1, .int (Z.1 0 0)), (2, .int (Z.1 0 1))]) hx hb dL_areFoldings_64 hl (by decide) rfl (fun ls hl => ?_)
        have L66 : ∀ (fu66 : Nat) (rk : Nat) (bf : Int32) (f9 : Nat → Int32) (u9 : CU) (hrk : rk ≤ 40) (hrc : rk ≤ cN (zq Z.1) 512) (hbf : rk = 0 ∨ ∃ mb, mb < 512 ∧ zq Z.1 mb = true ∧ cN (zq Z.1) mb = cN (zq Z.1) 512 - rk ∧ bf = nI mb) (hf9 : f9 0 = nI 0) (hu9 : CV Z.1 u9), 41 ≤ rk + fu66 → ∀ (H : Heap) (locs : List Loc), PP G ([(q_2, .inl (G.2.1, 10, .inl f9))] ++ (cT G X Z u9)) H → va_D Ar ([(q_2, .inl (G.2.1, 10, .inl f9))] ++ (cT G X Z u9)) → va_S Ar s.heap H locs → ∀ ls : Array Slot, lv_has ls 14 [(0, .ref X.1), (1, .int (Z.1 0 0)), (2, .int (Z.1 0 1)), (3, .int (nI (cN (zq Z.1) 512))), (4, .ref q_2), (5, .int bf), (6, .int (b2 (decide (cN (zq Z.1) 512 - rk ≤ cN (zq Z.1) a0)))), (7, .int (anF (zq Z.1) (cN (zq Z.1) 512) rk)), (8, .int (orF (zq Z.1) (cN (zq Z.1) 512) rk)), (9, .int (nI 1)), (10, .int (nI rk))] → W pG l eG (RM 15 1 10) s mG ([.ref X.1, .int (Z.1 0 0), .int (Z.1 0 1)] : List Value).toArray below meth cG H locs (0 + 1) (0 + 10) (MQ below (wQi G (S := CU) (fun r u9 => r = nI 1 ∧ CV Z.1 u9) (fun u9 => cT G X Z u9) Ar) ([.ref X.1, .int (Z.1 0 0), .int (Z.1 0 1)] : List Value).toArray s 1 10 Ar) (F0 mG 66 ls []) := by
          intro fu66
          induction fu66 with
          | zero => intro rk bf f9 u9 hrk hrc hbf hf9 hu9 hfu66; exact absurd hfu66 (by omega)
          | succ fu66 ih66 =>
            intro rk bf f9 u9 hrk hrc hbf hf9 hu9 hfu66 H locs hP hD hS ls hl
            have J66 : cN (zq Z.1) 512 ≤ rk ∨ 40 ≤ rk → W pG l eG (RM 15 1 10) s mG ([.ref X.1, .int (Z.1 0 0), .int (Z.1 0 1)] : List Value).toArray below meth cG H locs (0 + 1) (0 + 10) (MQ below (wQi G (S := CU) (fun r u9 => r = nI 1 ∧ CV Z.1 u9) (fun u9 => cT G X Z u9) Ar) ([.ref X.1, .int (Z.1 0 0), .int (Z.1 0 1)] : List Value).toArray s 1 10 Ar) (F0 mG 272 ls []) := by
              intro hex
              refine lv_iconst (v := nI 0) hx hb dL_areFoldings_272 (by decide) ?_
              refine lv_istore (lv' := [(10, .int (nI 0)), (0, .ref X.1), (1, .int (Z.1 0 0)), (2, .int (Z.1 0 1)), (3, .int (nI (cN (zq Z.1) 512))), (4, .ref q_2), (5, .int bf), (6, .int (b2 (decide (cN (zq Z.1) 512 - rk ≤ cN (zq Z.1) a0)))), (7, .int (anF (zq Z.1) (cN (zq Z.1) 512) rk)), (8, .int (orF (zq Z.1) (cN (zq Z.1) 512) rk)), (9, .int (nI 1))]) hx hb dL_areFoldings_273 hl (by decide) rfl (fun ls hl => ?_)
              have L275 : ∀ (fu275 : Nat) (k : Nat) (u7 : CU) (hk : k ≤ 9) (hu7 : CV Z.1 u7), 10 ≤ k + fu275 → ∀ (H : Heap) (locs : List Loc), PP G ([(q_2, .inl (G.2.1, 10, .inl f9))] ++ (cT G X Z u7)) H → va_D Ar ([(q_2, .inl (G.2.1, 10, .inl f9))] ++ (cT G X Z u7)) → va_S Ar s.heap H locs → ∀ ls : Array Slot, lv_has ls 14 [(0, .ref X.1), (3, .int (nI (cN (zq Z.1) 512))), (6, .int (b2 (decide (cN (zq Z.1) 512 - rk ≤ cN (zq Z.1) a0)))), (7, .int (anF (zq Z.1) (cN (zq Z.1) 512) rk)), (8, .int (orF (zq Z.1) (cN (zq Z.1) 512) rk)), (9, .int (nI 1)), (10, .int (nI k))] → W pG l eG (RM 15 1 10) s mG ([.ref X.1, .int (Z.1 0 0), .int (Z.1 0 1)] : List Value).toArray below meth cG H locs (0 + 1) (0 + 10) (MQ below (wQi G (S := CU) (fun r u9 => r = nI 1 ∧ CV Z.1 u9) (fun u9 => cT G X Z u9) Ar) ([.ref X.1, .int (Z.1 0 0), .int (Z.1 0 1)] : List Value).toArray s 1 10 Ar) (F0 mG 275 ls []) := by
                intro fu275
                induction fu275 with
                | zero => intro k u7 hk hu7 hfu275; exact absurd hfu275 (by omega)
                | succ fu275 ih275 =>
                  intro k u7 hk hu7 hfu275 H locs hP hD hS ls hl
                  refine lv_iload hx hb dL_areFoldings_275 (lv_at hl 6 rfl) ?_
                  refine lv_bipush (v := nI 9) hx hb dL_areFoldings_277 (by decide) ?_
                  refine lv_icmp_ge (tgt := 346) hx hb dL_areFoldings_279 (by decide) (fun c_279 => ?_) (fun c_279 => ?_)
                  · refine lv_iload hx hb dL_areFoldings_346 (lv_at hl 5 rfl) ?_
                    refine lv_if_eq (tgt := 366) hx hb dL_areFoldings_348 (by decide) (fun c_348 => ?_) (fun c_348 => ?_)
                    · exact absurd c_348 (by decide)
                    · refine lv_iload hx hb dL_areFoldings_351 (lv_at hl 2 rfl) ?_
                      refine lv_if_ne (tgt := 362) hx hb dL_areFoldings_353 (by decide) (fun c_353 => ?_) (fun c_353 => ?_)
                      · refine lv_iconst (v := nI 1) hx hb dL_areFoldings_362 (by decide) ?_
                        refine lv_goto (tgt := 367) hx hb dL_areFoldings_363 (by decide) ?_
                        exact wr_zret (G := G) (S := CU) u7 hx hb hr hlocks (by first | decide | exact b2_nar _) (P_suf (pre := [(q_2, .inl (G.2.1, 10, .inl f9))]) hP) (D_suf (pre := [(q_2, .inl (G.2.1, 10, .inl f9))]) hD) hS (Nat.le_of_ble_eq_true rfl) (Nat.le_of_ble_eq_true rfl) (by exact ⟨rfl, hu7⟩) dL_areFoldings_367
                      · refine lv_iload_n hx hb dL_areFoldings_356 rfl (lv_at hl 1 rfl) ?_
                        refine lv_bipush (v := nI 40) hx hb dL_areFoldings_357 (by decide) ?_
                        refine lv_icmp_le (tgt := 366) hx hb dL_areFoldings_359 (by decide) (fun c_359 => ?_) (fun c_359 => ?_)
                        · have h1 := isth_no c_353
                          have h2 := fe c_359 (by omega) (by omega)
                          exact absurd h1 (by omega)
                        · refine lv_iconst (v := nI 1) hx hb dL_areFoldings_362 (by decide) ?_
                          refine lv_goto (tgt := 367) hx hb dL_areFoldings_363 (by decide) ?_
                          exact wr_zret (G := G) (S := CU) u7 hx hb hr hlocks (by first | decide | exact b2_nar _) (P_suf (pre := [(q_2, .inl (G.2.1, 10, .inl f9))]) hP) (D_suf (pre := [(q_2, .inl (G.2.1, 10, .inl f9))]) hD) hS (Nat.le_of_ble_eq_true rfl) (Nat.le_of_ble_eq_true rfl) (by exact ⟨rfl, hu7⟩) dL_areFoldings_367
                  · have hk1 : k < 9 := fl c_279 (by omega) (by omega)
                    refine lv_iload hx hb dL_areFoldings_282 (lv_at hl 5 rfl) ?_
                    refine lv_if_eq (tgt := 346) hx hb dL_areFoldings_284 (by decide) (fun c_284 => ?_) (fun c_284 => ?_)
                    · exact absurd c_284 (by decide)
                    · refine lv_iload_n hx hb dL_areFoldings_287 rfl (lv_at hl 1 rfl) ?_
                      refine lv_bipush (v := nI 40) hx hb dL_areFoldings_288 (by decide) ?_
                      refine lv_icmp_gt (tgt := 346) hx hb dL_areFoldings_290 (by decide) (fun c_290 => ?_) (fun c_290 => ?_)
                      · refine lv_iload hx hb dL_areFoldings_346 (lv_at hl 5 rfl) ?_
                        refine lv_if_eq (tgt := 366) hx hb dL_areFoldings_348 (by decide) (fun c_348 => ?_) (fun c_348 => ?_)
                        · exact absurd c_348 (by decide)
                        · refine lv_iload hx hb dL_areFoldings_351 (lv_at hl 2 rfl) ?_
                          refine lv_if_ne (tgt := 362) hx hb dL_areFoldings_353 (by decide) (fun c_353 => ?_) (fun c_353 => ?_)
                          · refine lv_iconst (v := nI 1) hx hb dL_areFoldings_362 (by decide) ?_
                            refine lv_goto (tgt := 367) hx hb dL_areFoldings_363 (by decide) ?_
                            exact wr_zret (G := G) (S := CU) u7 hx hb hr hlocks (by first | decide | exact b2_nar _) (P_suf (pre := [(q_2, .inl (G.2.1, 10, .inl f9))]) hP) (D_suf (pre := [(q_2, .inl (G.2.1, 10, .inl f9))]) hD) hS (Nat.le_of_ble_eq_true rfl) (Nat.le_of_ble_eq_true rfl) (by exact ⟨rfl, hu7⟩) dL_areFoldings_367
                          · refine lv_iload_n hx hb dL_areFoldings_356 rfl (lv_at hl 1 rfl) ?_
                            refine lv_bipush (v := nI 40) hx hb dL_areFoldings_357 (by decide) ?_
                            refine lv_icmp_le (tgt := 366) hx hb dL_areFoldings_359 (by decide) (fun c_359 => ?_) (fun c_359 => ?_)
                            · have h1 := isth_no c_353
                              have h2 := fe c_359 (by omega) (by omega)
                              exact absurd h1 (by omega)
                            · refine lv_iconst (v := nI 1) hx hb dL_areFoldings_362 (by decide) ?_
                              refine lv_goto (tgt := 367) hx hb dL_areFoldings_363 (by decide) ?_
                              exact wr_zret (G := G) (S := CU) u7 hx hb hr hlocks (by first | decide | exact b2_nar _) (P_suf (pre := [(q_2, .inl (G.2.1, 10, .inl f9))]) hP) (D_suf (pre := [(q_2, .inl (G.2.1, 10, .inl f9))]) hD) hS (Nat.le_of_ble_eq_true rfl) (Nat.le_of_ble_eq_true rfl) (by exact ⟨rfl, hu7⟩) dL_areFoldings_367
                      · have h40c : cN (zq Z.1) 512 ≤ 40 := Nat.le_of_not_lt (fun h => c_290 (nI_lt h (by omega)))
                        have hrkc : rk = cN (zq Z.1) 512 := by omega
                        refine lv_aload_n hx hb dL_areFoldings_293 rfl (lv_at hl 0 rfl) ?_
                        refine lv_iload hx hb dL_areFoldings_294 (lv_at hl 6 rfl) ?_
                        refine lv_iconst (v := nI 3) hx hb dL_areFoldings_296 (by decide) ?_
                        refine wr_g1i (pre := [(q_2, .inl (G.2.1, 10, .inl f9))]) (mid := cT G X Z u7) (va_runV (As := [.int (nI k), .int (nI 3)]) (rest := []) ⟨hx, hb, hml, hown, hts⟩ (k_cr3 l G _ X Z u7 hZ hz hu7 k (by omega)) (cwV 2 hts gL_areFoldings_X6_creaseOf rfl rfl rfl (by decide +kernel) ⟨Nat.le_of_ble_eq_true rfl, Nat.le_of_ble_eq_true rfl⟩) (wV1 (pre := [(q_2, .inl (G.2.1, 10, .inl f9))]) (mid := cT G X Z u7) (va_recv (ws := [(q_2, .inl (G.2.1, 10, .inl f9))] ++ (cT G X Z u7)) hK hP (ci := 5) (q0 := 1) rfl rfl) hK hN hP hD) rfl rfl hl.1 rfl (lv_room (Nat.le_of_ble_eq_true rfl)) dL_areFoldings_297 ⟨Nat.le_of_ble_eq_true rfl, Nat.le_of_ble_eq_true rfl⟩) hP hD hS hA (fun r u_6 H locs hw hP9 hD9 hS => ?_)
                        obtain ⟨rfl, hvu_6⟩ := hw
                        have hP : PP G ([(q_2, .inl (G.2.1, 10, .inl f9))] ++ (cT G X Z u_6)) _ := hP9
                        have hD : va_D Ar ([(q_2, .inl (G.2.1, 10, .inl f9))] ++ (cT G X Z u_6)) := hD9
                        refine lv_iload hx hb dL_areFoldings_300 (lv_at hl 3 rfl) ?_
                        refine lv_iload hx hb dL_areFoldings_302 (lv_at hl 6 rfl) ?_
                        refine lv_ishr hx hb dL_areFoldings_304 ?_
                        refine lv_iconst (v := nI 1) hx hb dL_areFoldings_305 (by decide) ?_
                        refine lv_iand hx hb dL_areFoldings_306 ?_
                        refine lv_iconst (v := nI 1) hx hb dL_areFoldings_307 (by decide) ?_
                        refine lv_icmp_ne (tgt := 315) hx hb dL_areFoldings_308 (by decide) (fun c_308 => ?_) (fun c_308 => ?_)
                        · refine lv_iload hx hb dL_areFoldings_315 (lv_at hl 4 rfl) ?_
                          refine lv_iload hx hb dL_areFoldings_317 (lv_at hl 6 rfl) ?_
                          refine lv_ishr hx hb dL_areFoldings_319 ?_
                          refine lv_iconst (v := nI 1) hx hb dL_areFoldings_320 (by decide) ?_
                          refine lv_iand hx hb dL_areFoldings_321 ?_
                          refine lv_if_ne (tgt := 329) hx hb dL_areFoldings_322 (by decide) (fun c_322 => ?_) (fun c_322 => ?_)
                          · refine lv_iconst (v := (-1)) hx hb dL_areFoldings_329 (by decide) ?_
                            refine lv_icmp_ne (tgt := 337) hx hb dL_areFoldings_330 (by decide) (fun c_330 => ?_) (fun c_330 => ?_)
                            · exact (c_330 ((sure_is (q := zq Z.1) hk1 rfl hrkc).trans ((if_neg c_308).trans (if_neg c_322)))).elim
                            · refine lv_iconst (v := nI 1) hx hb dL_areFoldings_333 (by decide) ?_
                              refine lv_goto (tgt := 338) hx hb dL_areFoldings_334 (by decide) ?_
                              refine lv_istore (lv' := [(9, .int (nI 1)), (0, .ref X.1), (3, .int (nI (cN (zq Z.1) 512))), (6, .int (b2 (decide (cN (zq Z.1) 512 - rk ≤ cN (zq Z.1) a0)))), (7, .int (anF (zq Z.1) (cN (zq Z.1) 512) rk)), (8, .int (orF (zq Z.1) (cN (zq Z.1) 512) rk)), (10, .int (nI k))]) hx hb dL_areFoldings_338 hl (by decide) rfl (fun ls hl => ?_)
                              refine lv_iinc (v := nI (k + 1)) (lv' := [(10, .int (nI (k + 1))), (9, .int (nI 1)), (0, .ref X.1), (3, .int (nI (cN (zq Z.1) 512))), (6, .int (b2 (decide (cN (zq Z.1) 512 - rk ≤ cN (zq Z.1) a0)))), (7, .int (anF (zq Z.1) (cN (zq Z.1) 512) rk)), (8, .int (orF (zq Z.1) (cN (zq Z.1) 512) rk))]) hx hb dL_areFoldings_340 hl (k := 6) rfl (iincN k) (by decide) rfl (fun ls hl => ?_)
                              refine lv_goto (tgt := 275) hx hb dL_areFoldings_343 (by decide) ?_
                              exact ih275 (k + 1) u_6 (by omega) (by exact hvu_6) (by omega) _ _ hP hD hS ls (lv_as (l1 := [(0, .ref X.1), (3, .int (nI (cN (zq Z.1) 512))), (6, .int (b2 (decide (cN (zq Z.1) 512 - rk ≤ cN (zq Z.1) a0)))), (7, .int (anF (zq Z.1) (cN (zq Z.1) 512) rk)), (8, .int (orF (zq Z.1) (cN (zq Z.1) 512) rk)), (9, .int (nI 1)), (10, .int (nI (k + 1)))]) (lv_sub hl [2, 3, 4, 5, 6, 1, 0] rfl) (by rfl))
                          · refine lv_iconst (v := nI 0) hx hb dL_areFoldings_325 (by decide) ?_
                            refine lv_goto (tgt := 330) hx hb dL_areFoldings_326 (by decide) ?_
                            refine lv_icmp_ne (tgt := 337) hx hb dL_areFoldings_330 (by decide) (fun c_330 => ?_) (fun c_330 => ?_)
                            · exact (c_330 ((sure_is (q := zq Z.1) hk1 rfl hrkc).trans ((if_neg c_308).trans (if_pos c_322)))).elim
                            · refine lv_iconst (v := nI 1) hx hb dL_areFoldings_333 (by decide) ?_
                              refine lv_goto (tgt := 338) hx hb dL_areFoldings_334 (by decide) ?_
                              refine lv_istore (lv' := [(9, .int (nI 1)), (0, .ref X.1), (3, .int (nI (cN (zq Z.1) 512))), (6, .int (b2 (decide (cN (zq Z.1) 512 - rk ≤ cN (zq Z.1) a0)))), (7, .int (anF (zq Z.1) (cN (zq Z.1) 512) rk)), (8, .int (orF (zq Z.1) (cN (zq Z.1) 512) rk)), (10, .int (nI k))]) hx hb dL_areFoldings_338 hl (by decide) rfl (fun ls hl => ?_)
                              refine lv_iinc (v := nI (k + 1)) (lv' := [(10, .int (nI (k + 1))), (9, .int (nI 1)), (0, .ref X.1), (3, .int (nI (cN (zq Z.1) 512))), (6, .int (b2 (decide (cN (zq Z.1) 512 - rk ≤ cN (zq Z.1) a0)))), (7, .int (anF (zq Z.1) (cN (zq Z.1) 512) rk)), (8, .int (orF (zq Z.1) (cN (zq Z.1) 512) rk))]) hx hb dL_areFoldings_340 hl (k := 6) rfl (iincN k) (by decide) rfl (fun ls hl => ?_)
                              refine lv_goto (tgt := 275) hx hb dL_areFoldings_343 (by decide) ?_
                              exact ih275 (k + 1) u_6 (by omega) (by exact hvu_6) (by omega) _ _ hP hD hS ls (lv_as (l1 := [(0, .ref X.1), (3, .int (nI (cN (zq Z.1) 512))), (6, .int (b2 (decide (cN (zq Z.1) 512 - rk ≤ cN (zq Z.1) a0)))), (7, .int (anF (zq Z.1) (cN (zq Z.1) 512) rk)), (8, .int (orF (zq Z.1) (cN (zq Z.1) 512) rk)), (9, .int (nI 1)), (10, .int (nI (k + 1)))]) (lv_sub hl [2, 3, 4, 5, 6, 1, 0] rfl) (by rfl))
                        · refine lv_iconst (v := nI 1) hx hb dL_areFoldings_311 (by decide) ?_
                          refine lv_goto (tgt := 330) hx hb dL_areFoldings_312 (by decide) ?_
                          refine lv_icmp_ne (tgt := 337) hx hb dL_areFoldings_330 (by decide) (fun c_330 => ?_) (fun c_330 => ?_)
                          · exact (c_330 ((sure_is (q := zq Z.1) hk1 rfl hrkc).trans (if_pos c_308))).elim
                          · refine lv_iconst (v := nI 1) hx hb dL_areFoldings_333 (by decide) ?_
                            refine lv_goto (tgt := 338) hx hb dL_areFoldings_334 (by decide) ?_
                            refine lv_istore (lv' := [(9, .int (nI 1)), (0, .ref X.1), (3, .int (nI (cN (zq Z.1) 512))), (6, .int (b2 (decide (cN (zq Z.1) 512 - rk ≤ cN (zq Z.1) a0)))), (7, .int (anF (zq Z.1) (cN (zq Z.1) 512) rk)), (8, .int (orF (zq Z.1) (cN (zq Z.1) 512) rk)), (10, .int (nI k))]) hx hb dL_areFoldings_338 hl (by decide) rfl (fun ls hl => ?_)
                            refine lv_iinc (v := nI (k + 1)) (lv' := [(10, .int (nI (k + 1))), (9, .int (nI 1)), (0, .ref X.1), (3, .int (nI (cN (zq Z.1) 512))), (6, .int (b2 (decide (cN (zq Z.1) 512 - rk ≤ cN (zq Z.1) a0)))), (7, .int (anF (zq Z.1) (cN (zq Z.1) 512) rk)), (8, .int (orF (zq Z.1) (cN (zq Z.1) 512) rk))]) hx hb dL_areFoldings_340 hl (k := 6) rfl (iincN k) (by decide) rfl (fun ls hl => ?_)
                            refine lv_goto (tgt := 275) hx hb dL_areFoldings_343 (by decide) ?_
                            exact ih275 (k + 1) u_6 (by omega) (by exact hvu_6) (by omega) _ _ hP hD hS ls (lv_as (l1 := [(0, .ref X.1), (3, .int (nI (cN (zq Z.1) 512))), (6, .int (b2 (decide (cN (zq Z.1) 512 - rk ≤ cN (zq Z.1) a0)))), (7, .int (anF (zq Z.1) (cN (zq Z.1) 512) rk)), (8, .int (orF (zq Z.1) (cN (zq Z.1) 512) rk)), (9, .int (nI 1)), (10, .int (nI (k + 1)))]) (lv_sub hl [2, 3, 4, 5, 6, 1, 0] rfl) (by rfl))
              exact L275 10 0 u9 (by omega) (by exact hu9) (by omega) _ _ hP hD hS ls (lv_as (l1 := [(0, .ref X.1), (3, .int (nI (cN (zq Z.1) 512))), (6, .int (b2 (decide (cN (zq Z.1) 512 - rk ≤ cN (zq Z.1) a0)))), (7, .int (anF (zq Z.1) (cN (zq Z.1) 512) rk)), (8, .int (orF (zq Z.1) (cN (zq Z.1) 512) rk)), (9, .int (nI 1)), (10, .int (nI 0))]) (lv_sub hl [1, 4, 7, 8, 9, 10, 0] rfl) (by rfl))
            refine lv_iload hx hb dL_areFoldings_66 (lv_at hl 10 rfl) ?_
            refine lv_iload_n hx hb dL_areFoldings_68 rfl (lv_at hl 3 rfl) ?_
            refine lv_icmp_ge (tgt := 272) hx hb dL_areFoldings_69 (by decide) (fun c_69 => ?_) (fun c_69 => ?_)
            · exact J66 (Or.inl (fe c_69 (by omega) (by omega)))
            · have hlt : rk < cN (zq Z.1) 512 := fl c_69 (by omega) (by omega)
              refine lv_iload hx hb dL_areFoldings_72 (lv_at hl 10 rfl) ?_
              refine lv_bipush (v := nI 40) hx hb dL_areFoldings_74 (by decide) ?_
              refine lv_icmp_ge (tgt := 272) hx hb dL_areFoldings_76 (by decide) (fun c_76 => ?_) (fun c_76 => ?_)
              · exact J66 (Or.inr (fe c_76 (by omega) (by omega)))
              · have h40 : rk < 40 := fl c_76 (by omega) (by omega)
                refine lv_iload hx hb dL_areFoldings_79 (lv_at hl 9 rfl) ?_
                refine lv_if_eq (tgt := 272) hx hb dL_areFoldings_81 (by decide) (fun c_81 => ?_) (fun c_81 => ?_)
                · exact absurd c_81 (by decide)
                · refine lv_aload_n hx hb dL_areFoldings_84 rfl (lv_at hl 0 rfl) ?_
                  refine lv_iload_n hx hb dL_areFoldings_85 rfl (lv_at hl 3 rfl) ?_
                  refine lv_iconst (v := nI 1) hx hb dL_areFoldings_86 (by decide) ?_
                  refine lv_isub hx hb dL_areFoldings_87 ?_
                  refine lv_cgi (y := nI ((cN (zq Z.1) 512) - 1)) (pk_sub (by omega)) ?_
                  refine lv_iload hx hb dL_areFoldings_88 (lv_at hl 10 rfl) ?_
                  refine lv_isub hx hb dL_areFoldings_90 ?_
                  refine lv_cgi (y := nI (((cN (zq Z.1) 512) - 1) - rk)) (pk_sub (by omega)) ?_
                  refine wr_g1i (pre := [(q_2, .inl (G.2.1, 10, .inl f9))]) (mid := cT G X Z u9) (va_runV (As := [.int (nI (((cN (zq Z.1) 512) - 1) - rk))]) (rest := []) ⟨hx, hb, hml, hown, hts⟩ (k_fol l G _ X Z u9 hZ hz hu9 (nI (((cN (zq Z.1) 512) - 1) - rk)) (nI_pos (by omega))) (cwV 1 hts gL_areFoldings_X6_folding rfl rfl rfl (by decide +kernel) ⟨Nat.le_of_ble_eq_true rfl, Nat.le_of_ble_eq_true rfl⟩) (wV1 (pre := [(q_2, .inl (G.2.1, 10, .inl f9))]) (mid := cT G X Z u9) (va_recv (ws := [(q_2, .inl (G.2.1, 10, .inl f9))] ++ (cT G X Z u9)) hK hP (ci := 5) (q0 := 1) rfl rfl) hK hN hP hD) rfl rfl hl.1 rfl (lv_room (Nat.le_of_ble_eq_true rfl)) dL_areFoldings_91 ⟨Nat.le_of_ble_eq_true rfl, Nat.le_of_ble_eq_true rfl⟩) hP hD hS hA (fun r u_7 H locs hw hP9 hD9 hS => ?_)
                  obtain ⟨rfl, hvu_7⟩ := hw
                  have hP : PP G ([(q_2, .inl (G.2.1, 10, .inl f9))] ++ (cT G X Z u_7)) _ := hP9
                  have hD : va_D Ar ([(q_2, .inl (G.2.1, 10, .inl f9))] ++ (cT G X Z u_7)) := hD9
                  obtain ⟨m, hm, hqm, hcm, em⟩ := fol_is (q := zq Z.1) (r := cN (zq Z.1) 512 - 1 - rk) (by omega)
                  refine lv_cgi (y := nI m) em ?_
                  refine lv_istore (lv' := [(11, .int (nI m)), (0, .ref X.1), (1, .int (Z.1 0 0)), (2, .int (Z.1 0 1)), (3, .int (nI (cN (zq Z.1) 512))), (4, .ref q_2), (5, .int bf), (6, .int (b2 (decide (cN (zq Z.1) 512 - rk ≤ cN (zq Z.1) a0)))), (7, .int (anF (zq Z.1) (cN (zq Z.1) 512) rk)), (8, .int (orF (zq Z.1) (cN (zq Z.1) 512) rk)), (9, .int (nI 1)), (10, .int (nI rk))]) hx hb dL_areFoldings_94 hl (by decide) rfl (fun ls hl => ?_)
                  refine lv_iload hx hb dL_areFoldings_96 (lv_at hl 11 rfl) ?_
                  have J98 : W pG l eG (RM 15 1 10) s mG ([.ref X.1, .int (Z.1 0 0), .int (Z.1 0 1)] : List Value).toArray below meth cG H locs (0 + 1) (0 + 10) (MQ below (wQi G (S := CU) (fun r u9 => r = nI 1 ∧ CV Z.1 u9) (fun u9 => cT G X Z u9) Ar) ([.ref X.1, .int (Z.1 0 0), .int (Z.1 0 1)] : List Value).toArray s 1 10 Ar) (F0 mG 108 ls []) := by
                    refine lv_iload hx hb dL_areFoldings_108 (lv_at hl 0 rfl) ?_
                    refine lv_iload_n hx hb dL_areFoldings_110 rfl (lv_at hl 3 rfl) ?_
                    refine lv_iand hx hb dL_areFoldings_111 ?_
                    refine lv_if_ne (tgt := 132) hx hb dL_areFoldings_112 (by decide) (fun c_112 => ?_) (fun c_112 => ?_)
                    · exact absurd (zq_fit hqm).2 c_112
                    · refine lv_iload hx hb dL_areFoldings_115 (lv_at hl 0 rfl) ?_
                      refine lv_if_lt (tgt := 132) hx hb dL_areFoldings_117 (by decide) (fun c_117 => ?_) (fun c_117 => ?_)
                      · exact absurd c_117 (nI_pos (by omega))
                      · refine lv_iload hx hb dL_areFoldings_120 (lv_at hl 0 rfl) ?_
                        refine lv_sipush (v := nI 512) hx hb dL_areFoldings_122 (by decide +kernel) ?_
                        refine lv_icmp_ge (tgt := 132) hx hb dL_areFoldings_125 (by decide) (fun c_125 => ?_) (fun c_125 => ?_)
                        · exact absurd c_125 (lt_nI hm (by omega))
                        · refine lv_iconst (v := nI 1) hx hb dL_areFoldings_128 (by decide) ?_
                          refine lv_goto (tgt := 133) hx hb dL_areFoldings_129 (by decide) ?_
                          refine lv_istore (lv' := [(9, .int (nI 1)), (11, .int (nI m)), (0, .ref X.1), (1, .int (Z.1 0 0)), (2, .int (Z.1 0 1)), (3, .int (nI (cN (zq Z.1) 512))), (4, .ref q_2), (5, .int bf), (6, .int (b2 (decide (cN (zq Z.1) 512 - rk ≤ cN (zq Z.1) a0)))), (7, .int (anF (zq Z.1) (cN (zq Z.1) 512) rk)), (8, .int (orF (zq Z.1) (cN (zq Z.1) 512) rk)), (10, .int (nI rk))]) hx hb dL_areFoldings_133 hl (by decide) rfl (fun ls hl => ?_)
                          refine lv_iload hx hb dL_areFoldings_135 (lv_at hl 1 rfl) ?_
                          refine lv_istore (lv' := [(5, .int (nI m)), (9, .int (nI 1)), (11, .int (nI m)), (0, .ref X.1), (1, .int (Z.1 0 0)), (2, .int (Z.1 0 1)), (3, .int (nI (cN (zq Z.1) 512))), (4, .ref q_2), (6, .int (b2 (decide (cN (zq Z.1) 512 - rk ≤ cN (zq Z.1) a0)))), (7, .int (anF (zq Z.1) (cN (zq Z.1) 512) rk)), (8, .int (orF (zq Z.1) (cN (zq Z.1) 512) rk)), (10, .int (nI rk))]) hx hb dL_areFoldings_137 hl (by decide) rfl (fun ls hl => ?_)
                          refine lv_aload hx hb dL_areFoldings_139 (lv_at hl 7 rfl) ?_
                          refine lv_iload hx hb dL_areFoldings_141 (lv_at hl 2 rfl) ?_
                          refine wr_gov (pre := []) (mid := [(q_2, .inl (G.2.1, 10, .inl f9))]) (suf := cT G X Z u_7) (va_runS (As := [.ref q_2, .int (nI m)]) (rest := []) ⟨hx, hb, hml, hown, hts⟩ (k_lay l G _ q_2 f9 hf9 (nI m)) (va_cwS 2 hts gL_areFoldings_L_lay rfl rfl rfl (by decide +kernel) ⟨Nat.le_of_ble_eq_true rfl, Nat.le_of_ble_eq_true rfl⟩) (wS (pre := []) (mid := [(q_2, .inl (G.2.1, 10, .inl f9))]) (suf := cT G X Z u_7) hK hN hP hD) rfl rfl hl.1 rfl (lv_room (Nat.le_of_ble_eq_true rfl)) dL_areFoldings_143 ⟨Nat.le_of_ble_eq_true rfl, Nat.le_of_ble_eq_true rfl⟩) hP hD hS hA (fun u_143 H locs hw hP9 hD9 hS => ?_)
                          have hP : PP G ([(q_2, .inl (G.2.1, 10, .inl (atF (nI m))))] ++ (cT G X Z u_7)) _ := hP9
                          have hD : va_D Ar ([(q_2, .inl (G.2.1, 10, .inl (atF (nI m))))] ++ (cT G X Z u_7)) := hD9
                          refine lv_iconst (v := nI 0) hx hb dL_areFoldings_146 (by decide) ?_
                          refine lv_istore (lv' := [(12, .int (nI 0)), (5, .int (nI m)), (9, .int (nI 1)), (11, .int (nI m)), (0, .ref X.1), (1, .int (Z.1 0 0)), (2, .int (Z.1 0 1)), (3, .int (nI (cN (zq Z.1) 512))), (4, .ref q_2), (6, .int (b2 (decide (cN (zq Z.1) 512 - rk ≤ cN (zq Z.1) a0)))), (7, .int (anF (zq Z.1) (cN (zq Z.1) 512) rk)), (8, .int (orF (zq Z.1) (cN (zq Z.1) 512) rk)), (10, .int (nI rk))]) hx hb dL_areFoldings_147 hl (by decide) rfl (fun ls hl => ?_)
                          have L149 : ∀ (fu149 : Nat) (k : Nat) (u8 : CU) (hk : k ≤ 36) (hu8 : CV Z.1 u8), 37 ≤ k + fu149 → ∀ (H : Heap) (locs : List Loc), PP G ([(q_2, .inl (G.2.1, 10, .inl (atF (nI m))))] ++ (cT G X Z u8)) H → va_D Ar ([(q_2, .inl (G.2.1, 10, .inl (atF (nI m))))] ++ (cT G X Z u8)) → va_S Ar s.heap H locs → ∀ ls : Array Slot, lv_has ls 14 [(0, .ref X.1), (1, .int (Z.1 0 0)), (2, .int (Z.1 0 1)), (3, .int (nI (cN (zq Z.1) 512))), (4, .ref q_2), (5, .int (nI m)), (6, .int (b2 (decide (cN (zq Z.1) 512 - rk ≤ cN (zq Z.1) a0)))), (7, .int (anF (zq Z.1) (cN (zq Z.1) 512) rk)), (8, .int (orF (zq Z.1) (cN (zq Z.1) 512) rk)), (9, .int (nI 1)), (10, .int (nI rk)), (11, .int (nI m)), (12, .int (nI k))] → W pG l eG (RM 15 1 10) s mG ([.ref X.1, .int (Z.1 0 0), .int (Z.1 0 1)] : List Value).toArray below meth cG H locs (0 + 1) (0 + 10) (MQ below (wQi G (S := CU) (fun r u9 => r = nI 1 ∧ CV Z.1 u9) (fun u9 => cT G X Z u9) Ar) ([.ref X.1, .int (Z.1 0 0), .int (Z.1 0 1)] : List Value).toArray s 1 10 Ar) (F0 mG 149 ls []) := by
                            intro fu149
                            induction fu149 with
                            | zero => intro k u8 hk hu8 hfu149; exact absurd hfu149 (by omega)
                            | succ fu149 ih149 =>
                              intro k u8 hk hu8 hfu149 H locs hP hD hS ls hl
                              refine lv_iload hx hb dL_areFoldings_149 (lv_at hl 12 rfl) ?_
                              refine lv_bipush (v := nI 36) hx hb dL_areFoldings_151 (by decide) ?_
                              refine lv_icmp_ge (tgt := 234) hx hb dL_areFoldings_153 (by decide) (fun c_153 => ?_) (fun c_153 => ?_)
                              · refine lv_iload hx hb dL_areFoldings_234 (lv_at hl 6 rfl) ?_
                                refine lv_if_ne (tgt := 245) hx hb dL_areFoldings_236 (by decide) (fun c_236 => ?_) (fun c_236 => ?_)
                                · refine lv_iconst (v := nI 1) hx hb dL_areFoldings_245 (by decide) ?_
                                  refine lv_goto (tgt := 250) hx hb dL_areFoldings_246 (by decide) ?_
                                  refine lv_istore (lv' := [(6, .int (nI 1)), (0, .ref X.1), (1, .int (Z.1 0 0)), (2, .int (Z.1 0 1)), (3, .int (nI (cN (zq Z.1) 512))), (4, .ref q_2), (5, .int (nI m)), (7, .int (anF (zq Z.1) (cN (zq Z.1) 512) rk)), (8, .int (orF (zq Z.1) (cN (zq Z.1) 512) rk)), (9, .int (nI 1)), (10, .int (nI rk)), (11, .int (nI m)), (12, .int (nI k))]) hx hb dL_areFoldings_250 hl (by decide) rfl (fun ls hl => ?_)
                                  refine lv_iload hx hb dL_areFoldings_252 (lv_at hl 7 rfl) ?_
                                  refine lv_iload hx hb dL_areFoldings_254 (lv_at hl 11 rfl) ?_
                                  refine lv_iand hx hb dL_areFoldings_256 ?_
                                  refine lv_istore (lv' := [(7, .int ((anF (zq Z.1) (cN (zq Z.1) 512) rk) &&& (nI m))), (6, .int (nI 1)), (0, .ref X.1), (1, .int (Z.1 0 0)), (2, .int (Z.1 0 1)), (3, .int (nI (cN (zq Z.1) 512))), (4, .ref q_2), (5, .int (nI m)), (8, .int (orF (zq Z.1) (cN (zq Z.1) 512) rk)), (9, .int (nI 1)), (10, .int (nI rk)), (11, .int (nI m)), (12, .int (nI k))]) hx hb dL_areFoldings_257 hl (by decide) rfl (fun ls hl => ?_)
                                  refine lv_iload hx hb dL_areFoldings_259 (lv_at hl 8 rfl) ?_
                                  refine lv_iload hx hb dL_areFoldings_261 (lv_at hl 11 rfl) ?_
                                  refine lv_ior hx hb dL_areFoldings_263 ?_
                                  refine lv_istore (lv' := [(8, .int ((orF (zq Z.1) (cN (zq Z.1) 512) rk) ||| (nI m))), (7, .int ((anF (zq Z.1) (cN (zq Z.1) 512) rk) &&& (nI m))), (6, .int (nI 1)), (0, .ref X.1), (1, .int (Z.1 0 0)), (2, .int (Z.1 0 1)), (3, .int (nI (cN (zq Z.1) 512))), (4, .ref q_2), (5, .int (nI m)), (9, .int (nI 1)), (10, .int (nI rk)), (11, .int (nI m)), (12, .int (nI k))]) hx hb dL_areFoldings_264 hl (by decide) rfl (fun ls hl => ?_)
                                  refine lv_iinc (v := nI (rk + 1)) (lv' := [(10, .int (nI (rk + 1))), (8, .int ((orF (zq Z.1) (cN (zq Z.1) 512) rk) ||| (nI m))), (7, .int ((anF (zq Z.1) (cN (zq Z.1) 512) rk) &&& (nI m))), (6, .int (nI 1)), (0, .ref X.1), (1, .int (Z.1 0 0)), (2, .int (Z.1 0 1)), (3, .int (nI (cN (zq Z.1) 512))), (4, .ref q_2), (5, .int (nI m)), (9, .int (nI 1)), (11, .int (nI m)), (12, .int (nI k))]) hx hb dL_areFoldings_266 hl (k := 10) rfl (iincN rk) (by decide) rfl (fun ls hl => ?_)
                                  refine lv_goto (tgt := 66) hx hb dL_areFoldings_269 (by decide) ?_
                                  exact ih66 (rk + 1) (nI m) (atF (nI m)) u8 (by omega) (by omega) (by exact Or.inr ⟨m, hm, hqm, by omega, rfl⟩) (by rfl) (by exact hu8) (by omega) _ _ hP hD hS ls (lv_as (l1 := [(0, .ref X.1), (1, .int (Z.1 0 0)), (2, .int (Z.1 0 1)), (3, .int (nI (cN (zq Z.1) 512))), (4, .ref q_2), (5, .int (nI m)), (6, .int (nI 1)), (7, .int ((anF (zq Z.1) (cN (zq Z.1) 512) rk) &&& (nI m))), (8, .int ((orF (zq Z.1) (cN (zq Z.1) 512) rk) ||| (nI m))), (9, .int (nI 1)), (10, .int (nI (rk + 1)))]) (lv_sub hl [4, 5, 6, 7, 8, 9, 3, 2, 1, 10, 0] rfl) (by rw [anF_s em, orF_s em, isth_1 c_236] <;> rfl))
                                · refine lv_iload hx hb dL_areFoldings_239 (lv_at hl 11 rfl) ?_
                                  refine lv_iload_n hx hb dL_areFoldings_241 rfl (lv_at hl 1 rfl) ?_
                                  refine lv_icmp_ne (tgt := 249) hx hb dL_areFoldings_242 (by decide) (fun c_242 => ?_) (fun c_242 => ?_)
                                  · refine lv_iconst (v := nI 0) hx hb dL_areFoldings_249 (by decide) ?_
                                    refine lv_istore (lv' := [(6, .int (nI 0)), (0, .ref X.1), (1, .int (Z.1 0 0)), (2, .int (Z.1 0 1)), (3, .int (nI (cN (zq Z.1) 512))), (4, .ref q_2), (5, .int (nI m)), (7, .int (anF (zq Z.1) (cN (zq Z.1) 512) rk)), (8, .int (orF (zq Z.1) (cN (zq Z.1) 512) rk)), (9, .int (nI 1)), (10, .int (nI rk)), (11, .int (nI m)), (12, .int (nI k))]) hx hb dL_areFoldings_250 hl (by decide) rfl (fun ls hl => ?_)
                                    refine lv_iload hx hb dL_areFoldings_252 (lv_at hl 7 rfl) ?_
                                    refine lv_iload hx hb dL_areFoldings_254 (lv_at hl 11 rfl) ?_
                                    refine lv_iand hx hb dL_areFoldings_256 ?_
                                    refine lv_istore (lv' := [(7, .int ((anF (zq Z.1) (cN (zq Z.1) 512) rk) &&& (nI m))), (6, .int (nI 0)), (0, .ref X.1), (1, .int (Z.1 0 0)), (2, .int (Z.1 0 1)), (3, .int (nI (cN (zq Z.1) 512))), (4, .ref q_2), (5, .int (nI m)), (8, .int (orF (zq Z.1) (cN (zq Z.1) 512) rk)), (9, .int (nI 1)), (10, .int (nI rk)), (11, .int (nI m)), (12, .int (nI k))]) hx hb dL_areFoldings_257 hl (by decide) rfl (fun ls hl => ?_)
                                    refine lv_iload hx hb dL_areFoldings_259 (lv_at hl 8 rfl) ?_
                                    refine lv_iload hx hb dL_areFoldings_261 (lv_at hl 11 rfl) ?_
                                    refine lv_ior hx hb dL_areFoldings_263 ?_
                                    refine lv_istore (lv' := [(8, .int ((orF (zq Z.1) (cN (zq Z.1) 512) rk) ||| (nI m))), (7, .int ((anF (zq Z.1) (cN (zq Z.1) 512) rk) &&& (nI m))), (6, .int (nI 0)), (0, .ref X.1), (1, .int (Z.1 0 0)), (2, .int (Z.1 0 1)), (3, .int (nI (cN (zq Z.1) 512))), (4, .ref q_2), (5, .int (nI m)), (9, .int (nI 1)), (10, .int (nI rk)), (11, .int (nI m)), (12, .int (nI k))]) hx hb dL_areFoldings_264 hl (by decide) rfl (fun ls hl => ?_)
                                    refine lv_iinc (v := nI (rk + 1)) (lv' := [(10, .int (nI (rk + 1))), (8, .int ((orF (zq Z.1) (cN (zq Z.1) 512) rk) ||| (nI m))), (7, .int ((anF (zq Z.1) (cN (zq Z.1) 512) rk) &&& (nI m))), (6, .int (nI 0)), (0, .ref X.1), (1, .int (Z.1 0 0)), (2, .int (Z.1 0 1)), (3, .int (nI (cN (zq Z.1) 512))), (4, .ref q_2), (5, .int (nI m)), (9, .int (nI 1)), (11, .int (nI m)), (12, .int (nI k))]) hx hb dL_areFoldings_266 hl (k := 10) rfl (iincN rk) (by decide) rfl (fun ls hl => ?_)
                                    refine lv_goto (tgt := 66) hx hb dL_areFoldings_269 (by decide) ?_
                                    exact ih66 (rk + 1) (nI m) (atF (nI m)) u8 (by omega) (by omega) (by exact Or.inr ⟨m, hm, hqm, by omega, rfl⟩) (by rfl) (by exact hu8) (by omega) _ _ hP hD hS ls (lv_as (l1 := [(0, .ref X.1), (1, .int (Z.1 0 0)), (2, .int (Z.1 0 1)), (3, .int (nI (cN (zq Z.1) 512))), (4, .ref q_2), (5, .int (nI m)), (6, .int (nI 0)), (7, .int ((anF (zq Z.1) (cN (zq Z.1) 512) rk) &&& (nI m))), (8, .int ((orF (zq Z.1) (cN (zq Z.1) 512) rk) ||| (nI m))), (9, .int (nI 1)), (10, .int (nI (rk + 1)))]) (lv_sub hl [4, 5, 6, 7, 8, 9, 3, 2, 1, 10, 0] rfl) (by rw [anF_s em, orF_s em, isth_2 c_236 (fun h => c_242 (by rw [ea0, cN_inj hqm (zq_fo hZ ea0) (hcm.trans h.symm)]))] <;> rfl))
                                  · refine lv_iconst (v := nI 1) hx hb dL_areFoldings_245 (by decide) ?_
                                    refine lv_goto (tgt := 250) hx hb dL_areFoldings_246 (by decide) ?_
                                    refine lv_istore (lv' := [(6, .int (nI 1)), (0, .ref X.1), (1, .int (Z.1 0 0)), (2, .int (Z.1 0 1)), (3, .int (nI (cN (zq Z.1) 512))), (4, .ref q_2), (5, .int (nI m)), (7, .int (anF (zq Z.1) (cN (zq Z.1) 512) rk)), (8, .int (orF (zq Z.1) (cN (zq Z.1) 512) rk)), (9, .int (nI 1)), (10, .int (nI rk)), (11, .int (nI m)), (12, .int (nI k))]) hx hb dL_areFoldings_250 hl (by decide) rfl (fun ls hl => ?_)
                                    refine lv_iload hx hb dL_areFoldings_252 (lv_at hl 7 rfl) ?_
                                    refine lv_iload hx hb dL_areFoldings_254 (lv_at hl 11 rfl) ?_
                                    refine lv_iand hx hb dL_areFoldings_256 ?_
                                    refine lv_istore (lv' := [(7, .int ((anF (zq Z.1) (cN (zq Z.1) 512) rk) &&& (nI m))), (6, .int (nI 1)), (0, .ref X.1), (1, .int (Z.1 0 0)), (2, .int (Z.1 0 1)), (3, .int (nI (cN (zq Z.1) 512))), (4, .ref q_2), (5, .int (nI m)), (8, .int (orF (zq Z.1) (cN (zq Z.1) 512) rk)), (9, .int (nI 1)), (10, .int (nI rk)), (11, .int (nI m)), (12, .int (nI k))]) hx hb dL_areFoldings_257 hl (by decide) rfl (fun ls hl => ?_)
                                    refine lv_iload hx hb dL_areFoldings_259 (lv_at hl 8 rfl) ?_
                                    refine lv_iload hx hb dL_areFoldings_261 (lv_at hl 11 rfl) ?_
                                    refine lv_ior hx hb dL_areFoldings_263 ?_
                                    refine lv_istore (lv' := [(8, .int ((orF (zq Z.1) (cN (zq Z.1) 512) rk) ||| (nI m))), (7, .int ((anF (zq Z.1) (cN (zq Z.1) 512) rk) &&& (nI m))), (6, .int (nI 1)), (0, .ref X.1), (1, .int (Z.1 0 0)), (2, .int (Z.1 0 1)), (3, .int (nI (cN (zq Z.1) 512))), (4, .ref q_2), (5, .int (nI m)), (9, .int (nI 1)), (10, .int (nI rk)), (11, .int (nI m)), (12, .int (nI k))]) hx hb dL_areFoldings_264 hl (by decide) rfl (fun ls hl => ?_)
                                    refine lv_iinc (v := nI (rk + 1)) (lv' := [(10, .int (nI (rk + 1))), (8, .int ((orF (zq Z.1) (cN (zq Z.1) 512) rk) ||| (nI m))), (7, .int ((anF (zq Z.1) (cN (zq Z.1) 512) rk) &&& (nI m))), (6, .int (nI 1)), (0, .ref X.1), (1, .int (Z.1 0 0)), (2, .int (Z.1 0 1)), (3, .int (nI (cN (zq Z.1) 512))), (4, .ref q_2), (5, .int (nI m)), (9, .int (nI 1)), (11, .int (nI m)), (12, .int (nI k))]) hx hb dL_areFoldings_266 hl (k := 10) rfl (iincN rk) (by decide) rfl (fun ls hl => ?_)
                                    refine lv_goto (tgt := 66) hx hb dL_areFoldings_269 (by decide) ?_
                                    exact ih66 (rk + 1) (nI m) (atF (nI m)) u8 (by omega) (by omega) (by exact Or.inr ⟨m, hm, hqm, by omega, rfl⟩) (by rfl) (by exact hu8) (by omega) _ _ hP hD hS ls (lv_as (l1 := [(0, .ref X.1), (1, .int (Z.1 0 0)), (2, .int (Z.1 0 1)), (3, .int (nI (cN (zq Z.1) 512))), (4, .ref q_2), (5, .int (nI m)), (6, .int (nI 1)), (7, .int ((anF (zq Z.1) (cN (zq Z.1) 512) rk) &&& (nI m))), (8, .int ((orF (zq Z.1) (cN (zq Z.1) 512) rk) ||| (nI m))), (9, .int (nI 1)), (10, .int (nI (rk + 1)))]) (lv_sub hl [4, 5, 6, 7, 8, 9, 3, 2, 1, 10, 0] rfl) (by rw [anF_s em, orF_s em, isth_3 (show cN (zq Z.1) a0 = cN (zq Z.1) 512 - 1 - rk by rw [← nIe (c_242.trans ea0) (by omega) (by omega)]; exact hcm)] <;> rfl))
                              · have hk1 : k < 36 := fl c_153 (by omega) (by omega)
                                refine lv_iload hx hb dL_areFoldings_156 (lv_at hl 9 rfl) ?_
                                refine lv_if_eq (tgt := 234) hx hb dL_areFoldings_158 (by decide) (fun c_158 => ?_) (fun c_158 => ?_)
                                · exact absurd c_158 (by decide)
                                · refine lv_aload_n hx hb dL_areFoldings_161 rfl (lv_at hl 0 rfl) ?_
                                  refine lv_iload hx hb dL_areFoldings_162 (lv_at hl 12 rfl) ?_
                                  refine lv_bipush (v := nI 6) hx hb dL_areFoldings_164 (by decide) ?_
                                  refine lv_idiv hx hb dL_areFoldings_166 (by decide) ?_
                                  refine lv_cgi (y := nI (k / 6)) (pk_div (by omega) (by omega) (by omega)) ?_
                                  refine lv_iload hx hb dL_areFoldings_167 (lv_at hl 12 rfl) ?_
                                  refine lv_bipush (v := nI 6) hx hb dL_areFoldings_169 (by decide) ?_
                                  refine lv_irem hx hb dL_areFoldings_171 (by decide) ?_
                                  refine lv_cgi (y := nI (k % 6)) (pk_rem (by omega) (by omega) (by omega)) ?_
                                  refine lv_iconst (v := nI 3) hx hb dL_areFoldings_172 (by decide) ?_
                                  refine rd_go (va_runV (As := [.int (nI (k / 6)), .int (nI (k % 6)), .int (nI 3)]) (rest := []) ⟨hx, hb, hml, hown, hts⟩ (k_bt3 l G X Z u8 hZ hz (k / 6) (k % 6) (by omega) (by omega)) (cwV 3 hts gL_areFoldings_X6_between rfl rfl rfl (by decide +kernel) ⟨Nat.le_of_ble_eq_true rfl, Nat.le_of_ble_eq_true rfl⟩) (rV (ws := cT G X Z u8) (va_recv (ws := [(q_2, .inl (G.2.1, 10, .inl (atF (nI m))))] ++ (cT G X Z u8)) hK hP (ci := 5) (q0 := 1) rfl rfl) hK hN (P_suf (pre := [(q_2, .inl (G.2.1, 10, .inl (atF (nI m))))]) hP)) rfl rfl hl.1 rfl (lv_room (Nat.le_of_ble_eq_true rfl)) dL_areFoldings_173 ⟨Nat.le_of_ble_eq_true rfl, Nat.le_of_ble_eq_true rfl⟩) ?_
                                  refine lv_istore (lv' := [(13, .int (abt (Z.1 3) (Z.1 4) (Z.1 5) (zN Z.1) (nI (cl (Z.1 2 (k / 6)))) (nI (cl (Z.1 2 (k % 6)))))), (0, .ref X.1), (1, .int (Z.1 0 0)), (2, .int (Z.1 0 1)), (3, .int (nI (cN (zq Z.1) 512))), (4, .ref q_2), (5, .int (nI m)), (6, .int (b2 (decide (cN (zq Z.1) 512 - rk ≤ cN (zq Z.1) a0)))), (7, .int (anF (zq Z.1) (cN (zq Z.1) 512) rk)), (8, .int (orF (zq Z.1) (cN (zq Z.1) 512) rk)), (9, .int (nI 1)), (10, .int (nI rk)), (11, .int (nI m)), (12, .int (nI k))]) hx hb dL_areFoldings_176 hl (by decide) rfl (fun ls hl => ?_)
                                  refine lv_iload hx hb dL_areFoldings_178 (lv_at hl 0 rfl) ?_
                                  refine lv_iconst (v := (-1)) hx hb dL_areFoldings_180 (by decide) ?_
                                  refine lv_icmp_eq (tgt := 221) hx hb dL_areFoldings_181 (by decide) (fun c_181 => ?_) (fun c_181 => ?_)
                                  · refine lv_iconst (v := nI 1) hx hb dL_areFoldings_221 (by decide) ?_
                                    refine lv_goto (tgt := 226) hx hb dL_areFoldings_222 (by decide) ?_
                                    refine lv_istore (lv' := [(9, .int (nI 1)), (13, .int (abt (Z.1 3) (Z.1 4) (Z.1 5) (zN Z.1) (nI (cl (Z.1 2 (k / 6)))) (nI (cl (Z.1 2 (k % 6)))))), (0, .ref X.1), (1, .int (Z.1 0 0)), (2, .int (Z.1 0 1)), (3, .int (nI (cN (zq Z.1) 512))), (4, .ref q_2), (5, .int (nI m)), (6, .int (b2 (decide (cN (zq Z.1) 512 - rk ≤ cN (zq Z.1) a0)))), (7, .int (anF (zq Z.1) (cN (zq Z.1) 512) rk)), (8, .int (orF (zq Z.1) (cN (zq Z.1) 512) rk)), (10, .int (nI rk)), (11, .int (nI m)), (12, .int (nI k))]) hx hb dL_areFoldings_226 hl (by decide) rfl (fun ls hl => ?_)
                                    refine lv_iinc (v := nI (k + 1)) (lv' := [(12, .int (nI (k + 1))), (9, .int (nI 1)), (13, .int (abt (Z.1 3) (Z.1 4) (Z.1 5) (zN Z.1) (nI (cl (Z.1 2 (k / 6)))) (nI (cl (Z.1 2 (k % 6)))))), (0, .ref X.1), (1, .int (Z.1 0 0)), (2, .int (Z.1 0 1)), (3, .int (nI (cN (zq Z.1) 512))), (4, .ref q_2), (5, .int (nI m)), (6, .int (b2 (decide (cN (zq Z.1) 512 - rk ≤ cN (zq Z.1) a0)))), (7, .int (anF (zq Z.1) (cN (zq Z.1) 512) rk)), (8, .int (orF (zq Z.1) (cN (zq Z.1) 512) rk)), (10, .int (nI rk)), (11, .int (nI m))]) hx hb dL_areFoldings_228 hl (k := 13) rfl (iincN k) (by decide) rfl (fun ls hl => ?_)
                                    refine lv_goto (tgt := 149) hx hb dL_areFoldings_231 (by decide) ?_
                                    exact ih149 (k + 1) u8 (by omega) (by exact hu8) (by omega) _ _ hP hD hS ls (lv_as (l1 := [(0, .ref X.1), (1, .int (Z.1 0 0)), (2, .int (Z.1 0 1)), (3, .int (nI (cN (zq Z.1) 512))), (4, .ref q_2), (5, .int (nI m)), (6, .int (b2 (decide (cN (zq Z.1) 512 - rk ≤ cN (zq Z.1) a0)))), (7, .int (anF (zq Z.1) (cN (zq Z.1) 512) rk)), (8, .int (orF (zq Z.1) (cN (zq Z.1) 512) rk)), (9, .int (nI 1)), (10, .int (nI rk)), (11, .int (nI m)), (12, .int (nI (k + 1)))]) (lv_sub hl [3, 4, 5, 6, 7, 8, 9, 10, 11, 1, 12, 13, 0] rfl) (by rfl))
                                  · refine lv_iload hx hb dL_areFoldings_184 (lv_at hl 0 rfl) ?_
                                    refine lv_aload hx hb dL_areFoldings_186 (lv_at hl 5 rfl) ?_
                                    refine lv_aload_n hx hb dL_areFoldings_188 rfl (lv_at hl 1 rfl) ?_
                                    refine lv_iload hx hb dL_areFoldings_189 (lv_at hl 13 rfl) ?_
                                    refine lv_bipush (v := nI 6) hx hb dL_areFoldings_191 (by decide) ?_
                                    refine lv_idiv hx hb dL_areFoldings_193 (by decide) ?_
                                    refine lv_cgi (y := nI (k / 6)) (pk_div (by omega) (by omega) (by omega)) ?_
                                    refine rd_go (va_runV (As := [.int (nI (k / 6))]) (rest := [.ref q_2, .int (abt (Z.1 3) (Z.1 4) (Z.1 5) (zN Z.1) (nI (cl (Z.1 2 (k / 6)))) (nI (cl (Z.1 2 (k % 6)))))]) ⟨hx, hb, hml, hown, hts⟩ (k_town l G X Z u8 hZ hz (k / 6) (by omega)) (cwV 1 hts gL_areFoldings_X6_town rfl rfl rfl (by decide +kernel) ⟨Nat.le_of_ble_eq_true rfl, Nat.le_of_ble_eq_true rfl⟩) (rV (ws := cT G X Z u8) (va_recv (ws := [(q_2, .inl (G.2.1, 10, .inl (atF (nI m))))] ++ (cT G X Z u8)) hK hP (ci := 5) (q0 := 1) rfl rfl) hK hN (P_suf (pre := [(q_2, .inl (G.2.1, 10, .inl (atF (nI m))))]) hP)) rfl rfl hl.1 rfl (lv_room (Nat.le_of_ble_eq_true rfl)) dL_areFoldings_194 ⟨Nat.le_of_ble_eq_true rfl, Nat.le_of_ble_eq_true rfl⟩) ?_
                                    refine va_iald (D := G.1) (ws := [(q_2, .inl (G.2.1, 10, .inl (atF (nI m))))] ++ (cT G X Z u8)) hx hb hK hP 0 0 (n := 10) rfl rfl (okg_P hZ _ (by omega)) dL_areFoldings_197 ?_
                                    refine lv_aload hx hb dL_areFoldings_198 (lv_at hl 5 rfl) ?_
                                    refine lv_aload_n hx hb dL_areFoldings_200 rfl (lv_at hl 1 rfl) ?_
                                    refine lv_iload hx hb dL_areFoldings_201 (lv_at hl 13 rfl) ?_
                                    refine lv_bipush (v := nI 6) hx hb dL_areFoldings_203 (by decide) ?_
                                    refine lv_irem hx hb dL_areFoldings_205 (by decide) ?_
                                    refine lv_cgi (y := nI (k % 6)) (pk_rem (by omega) (by omega) (by omega)) ?_
                                    refine rd_go (va_runV (As := [.int (nI (k % 6))]) (rest := [.ref q_2, .int ((atF (nI m)) (Z.1 2 (k / 6)).toNatClampNeg), .int (abt (Z.1 3) (Z.1 4) (Z.1 5) (zN Z.1) (nI (cl (Z.1 2 (k / 6)))) (nI (cl (Z.1 2 (k % 6)))))]) ⟨hx, hb, hml, hown, hts⟩ (k_town l G X Z u8 hZ hz (k % 6) (by omega)) (cwV 1 hts gL_areFoldings_X6_town rfl rfl rfl (by decide +kernel) ⟨Nat.le_of_ble_eq_true rfl, Nat.le_of_ble_eq_true rfl⟩) (rV (ws := cT G X Z u8) (va_recv (ws := [(q_2, .inl (G.2.1, 10, .inl (atF (nI m))))] ++ (cT G X Z u8)) hK hP (ci := 5) (q0 := 1) rfl rfl) hK hN (P_suf (pre := [(q_2, .inl (G.2.1, 10, .inl (atF (nI m))))]) hP)) rfl rfl hl.1 rfl (lv_room (Nat.le_of_ble_eq_true rfl)) dL_areFoldings_206 ⟨Nat.le_of_ble_eq_true rfl, Nat.le_of_ble_eq_true rfl⟩) ?_
                                    refine va_iald (D := G.1) (ws := [(q_2, .inl (G.2.1, 10, .inl (atF (nI m))))] ++ (cT G X Z u8)) hx hb hK hP 0 0 (n := 10) rfl rfl (okg_P hZ _ (by omega)) dL_areFoldings_209 ?_
                                    refine lv_icmp_ne (tgt := 217) hx hb dL_areFoldings_210 (by decide) (fun c_210 => ?_) (fun c_210 => ?_)
                                    · refine lv_iconst (v := nI 0) hx hb dL_areFoldings_217 (by decide) ?_
                                      refine lv_icmp_ne (tgt := 225) hx hb dL_areFoldings_218 (by decide) (fun c_218 => ?_) (fun c_218 => ?_)
                                      · exact (c_218 (kp_f hZ (by omega) (by omega) hm hqm c_181 c_210)).elim
                                      · refine lv_iconst (v := nI 1) hx hb dL_areFoldings_221 (by decide) ?_
                                        refine lv_goto (tgt := 226) hx hb dL_areFoldings_222 (by decide) ?_
                                        refine lv_istore (lv' := [(9, .int (nI 1)), (13, .int (abt (Z.1 3) (Z.1 4) (Z.1 5) (zN Z.1) (nI (cl (Z.1 2 (k / 6)))) (nI (cl (Z.1 2 (k % 6)))))), (0, .ref X.1), (1, .int (Z.1 0 0)), (2, .int (Z.1 0 1)), (3, .int (nI (cN (zq Z.1) 512))), (4, .ref q_2), (5, .int (nI m)), (6, .int (b2 (decide (cN (zq Z.1) 512 - rk ≤ cN (zq Z.1) a0)))), (7, .int (anF (zq Z.1) (cN (zq Z.1) 512) rk)), (8, .int (orF (zq Z.1) (cN (zq Z.1) 512) rk)), (10, .int (nI rk)), (11, .int (nI m)), (12, .int (nI k))]) hx hb dL_areFoldings_226 hl (by decide) rfl (fun ls hl => ?_)
                                        refine lv_iinc (v := nI (k + 1)) (lv' := [(12, .int (nI (k + 1))), (9, .int (nI 1)), (13, .int (abt (Z.1 3) (Z.1 4) (Z.1 5) (zN Z.1) (nI (cl (Z.1 2 (k / 6)))) (nI (cl (Z.1 2 (k % 6)))))), (0, .ref X.1), (1, .int (Z.1 0 0)), (2, .int (Z.1 0 1)), (3, .int (nI (cN (zq Z.1) 512))), (4, .ref q_2), (5, .int (nI m)), (6, .int (b2 (decide (cN (zq Z.1) 512 - rk ≤ cN (zq Z.1) a0)))), (7, .int (anF (zq Z.1) (cN (zq Z.1) 512) rk)), (8, .int (orF (zq Z.1) (cN (zq Z.1) 512) rk)), (10, .int (nI rk)), (11, .int (nI m))]) hx hb dL_areFoldings_228 hl (k := 13) rfl (iincN k) (by decide) rfl (fun ls hl => ?_)
                                        refine lv_goto (tgt := 149) hx hb dL_areFoldings_231 (by decide) ?_
                                        exact ih149 (k + 1) u8 (by omega) (by exact hu8) (by omega) _ _ hP hD hS ls (lv_as (l1 := [(0, .ref X.1), (1, .int (Z.1 0 0)), (2, .int (Z.1 0 1)), (3, .int (nI (cN (zq Z.1) 512))), (4, .ref q_2), (5, .int (nI m)), (6, .int (b2 (decide (cN (zq Z.1) 512 - rk ≤ cN (zq Z.1) a0)))), (7, .int (anF (zq Z.1) (cN (zq Z.1) 512) rk)), (8, .int (orF (zq Z.1) (cN (zq Z.1) 512) rk)), (9, .int (nI 1)), (10, .int (nI rk)), (11, .int (nI m)), (12, .int (nI (k + 1)))]) (lv_sub hl [3, 4, 5, 6, 7, 8, 9, 10, 11, 1, 12, 13, 0] rfl) (by rfl))
                                    · refine lv_iconst (v := nI 1) hx hb dL_areFoldings_213 (by decide) ?_
                                      refine lv_goto (tgt := 218) hx hb dL_areFoldings_214 (by decide) ?_
                                      refine lv_icmp_ne (tgt := 225) hx hb dL_areFoldings_218 (by decide) (fun c_218 => ?_) (fun c_218 => ?_)
                                      · exact (c_218 (kp_t hZ (by omega) (by omega) hm hqm c_181 c_210)).elim
                                      · refine lv_iconst (v := nI 1) hx hb dL_areFoldings_221 (by decide) ?_
                                        refine lv_goto (tgt := 226) hx hb dL_areFoldings_222 (by decide) ?_
                                        refine lv_istore (lv' := [(9, .int (nI 1)), (13, .int (abt (Z.1 3) (Z.1 4) (Z.1 5) (zN Z.1) (nI (cl (Z.1 2 (k / 6)))) (nI (cl (Z.1 2 (k % 6)))))), (0, .ref X.1), (1, .int (Z.1 0 0)), (2, .int (Z.1 0 1)), (3, .int (nI (cN (zq Z.1) 512))), (4, .ref q_2), (5, .int (nI m)), (6, .int (b2 (decide (cN (zq Z.1) 512 - rk ≤ cN (zq Z.1) a0)))), (7, .int (anF (zq Z.1) (cN (zq Z.1) 512) rk)), (8, .int (orF (zq Z.1) (cN (zq Z.1) 512) rk)), (10, .int (nI rk)), (11, .int (nI m)), (12, .int (nI k))]) hx hb dL_areFoldings_226 hl (by decide) rfl (fun ls hl => ?_)
                                        refine lv_iinc (v := nI (k + 1)) (lv' := [(12, .int (nI (k + 1))), (9, .int (nI 1)), (13, .int (abt (Z.1 3) (Z.1 4) (Z.1 5) (zN Z.1) (nI (cl (Z.1 2 (k / 6)))) (nI (cl (Z.1 2 (k % 6)))))), (0, .ref X.1), (1, .int (Z.1 0 0)), (2, .int (Z.1 0 1)), (3, .int (nI (cN (zq Z.1) 512))), (4, .ref q_2), (5, .int (nI m)), (6, .int (b2 (decide (cN (zq Z.1) 512 - rk ≤ cN (zq Z.1) a0)))), (7, .int (anF (zq Z.1) (cN (zq Z.1) 512) rk)), (8, .int (orF (zq Z.1) (cN (zq Z.1) 512) rk)), (10, .int (nI rk)), (11, .int (nI m))]) hx hb dL_areFoldings_228 hl (k := 13) rfl (iincN k) (by decide) rfl (fun ls hl => ?_)
                                        refine lv_goto (tgt := 149) hx hb dL_areFoldings_231 (by decide) ?_
                                        exact ih149 (k + 1) u8 (by omega) (by exact hu8) (by omega) _ _ hP hD hS ls (lv_as (l1 := [(0, .ref X.1), (1, .int (Z.1 0 0)), (2, .int (Z.1 0 1)), (3, .int (nI (cN (zq Z.1) 512))), (4, .ref q_2), (5, .int (nI m)), (6, .int (b2 (decide (cN (zq Z.1) 512 - rk ≤ cN (zq Z.1) a0)))), (7, .int (anF (zq Z.1) (cN (zq Z.1) 512) rk)), (8, .int (orF (zq Z.1) (cN (zq Z.1) 512) rk)), (9, .int (nI 1)), (10, .int (nI rk)), (11, .int (nI m)), (12, .int (nI (k + 1)))]) (lv_sub hl [3, 4, 5, 6, 7, 8, 9, 10, 11, 1, 12, 13, 0] rfl) (by rfl))
                          exact L149 37 0 u_7 (by omega) (by exact hvu_7) (by omega) _ _ hP hD hS ls (lv_as (l1 := [(0, .ref X.1), (1, .int (Z.1 0 0)), (2, .int (Z.1 0 1)), (3, .int (nI (cN (zq Z.1) 512))), (4, .ref q_2), (5, .int (nI m)), (6, .int (b2 (decide (cN (zq Z.1) 512 - rk ≤ cN (zq Z.1) a0)))), (7, .int (anF (zq Z.1) (cN (zq Z.1) 512) rk)), (8, .int (orF (zq Z.1) (cN (zq Z.1) 512) rk)), (9, .int (nI 1)), (10, .int (nI rk)), (11, .int (nI m)), (12, .int (nI 0))]) (lv_sub hl [4, 5, 6, 7, 8, 1, 9, 10, 11, 2, 12, 3, 0] rfl) (by rfl))
                  refine lv_if_eq (tgt := 108) hx hb dL_areFoldings_98 (by decide) (fun c_98 => ?_) (fun c_98 => ?_)
                  · exact J98
                  · refine lv_iload hx hb dL_areFoldings_101 (lv_at hl 0 rfl) ?_
                    refine lv_iload hx hb dL_areFoldings_103 (lv_at hl 6 rfl) ?_
                    refine lv_icmp_ge (tgt := 132) hx hb dL_areFoldings_105 (by decide) (fun c_105 => ?_) (fun c_105 => ?_)
                    · obtain ⟨mb, h1, h2, h3, rfl⟩ := hbf.resolve_left (fun h => c_98 (by rw [h]; rfl))
                      exact absurd c_105 (lt_nI (cN_lt (q := zq Z.1) (by omega)) (by omega))
                    · exact J98
        exact L66 41 0 (-1) (fun _ => 0) u_5 (by omega) (by omega) (by exact Or.inl rfl) (by rfl) (by exact hvu_5) (by omega) _ _ hP hD hS ls (lv_as (l1 := [(0, .ref X.1), (1, .int (Z.1 0 0)), (2, .int (Z.1 0 1)), (3, .int (nI (cN (zq Z.1) 512))), (4, .ref q_2), (5, .int (-1)), (6, .int (nI 0)), (7, .int (nI 511)), (8, .int (nI 0)), (9, .int (nI 1)), (10, .int (nI 0))]) (lv_sub hl [8, 9, 10, 7, 6, 5, 4, 3, 2, 1, 0] rfl) (by rw [isth_0 (show cN (zq Z.1) a0 < cN (zq Z.1) 512 by omega)] <;> rfl))

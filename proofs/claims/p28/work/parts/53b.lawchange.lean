set_option maxHeartbeats 4000000 in
set_option maxRecDepth 100000 in
theorem k_change (l : Launch) (G : GG) (sz : Nat) (X : AD) (Z : ZZ) (u : CU) {B : Nat} (hZ : OKg B Z.1) (hz : Z.2.2.2.1 ≤ 6) (hu : CV Z.1 u) (xx yy : Int32) : WRi l yL_change wsL_change 16 G [.ref X.1, .int xx, .int yy] (cT G X Z u) sz (S := ZZ × CU) (fun r v9 => r = nI 1 ∧ OKg (B + 1) v9.1.1 ∧ v9.1.2.2.2.1 ≤ 6 ∧ v9.1.2.2.2.2.1 = Z.2.2.2.2.1 ∧ CV v9.1.1 v9.2) (fun v9 => cT G X v9.1 v9.2) 0 0 := by
  refine wr_of (l := l) (y := yL_change) (w := wsL_change) (d := 16) (G := G) (As := [.ref X.1, .int xx, .int yy]) (sz := sz) (mc := 0) (ms := 0) (cc := cL_change) (maxL := 19) (ret := (some .boolean)) (Qc := fun Ar => wQi G (S := ZZ × CU) (fun r v9 => r = nI 1 ∧ OKg (B + 1) v9.1.1 ∧ v9.1.2.2.2.1 ≤ 6 ∧ v9.1.2.2.2.2.1 = Z.2.2.2.2.1 ∧ CV v9.1.1 v9.2) (fun v9 => cT G X v9.1 v9.2) Ar) (by decide) rfl (Nat.le_of_ble_eq_true rfl) ?_
  intro pG eG s mG below meth cG hsz hx hb hr hml hts hown hlocks hnm hP hK hN Ar hD hA hS ls hl
  have hown : s.vm.findClass RL = some mG.cls := hown
  have hP : PP G (cT G X Z u) s.heap := hP
  have hD : va_D Ar (cT G X Z u) := hD
  have hl : lv_has ls 19 [(0, .ref X.1), (1, .int xx), (2, .int yy)] := hl
  have hb3 : lowN yy 9 < 9 := lowN_lt _ (by omega)
  have hb4 : lowN yy 6 < 6 := lowN_lt _ (by omega)
  have hb5 : lowN (yy >>> (nI 4 &&& 31)) 6 < 6 := lowN_lt _ (by omega)
  have hb10 : lowN (yy >>> (nI 4 &&& 31)) 10 < 10 := lowN_lt _ (by omega)
  have hb512 : lowN (yy >>> (nI 2 &&& 31)) 512 < 512 := lowN_lt _ (by omega)
  refine lv_iload_n hx hb dL_change_0 rfl (lv_at hl 2 rfl) ?_
  refine lv_bipush (v := nI 9) hx hb dL_change_1 (by decide) ?_
  refine rd_go (va_runS (As := [.int yy, .int (nI 9)]) (rest := []) ⟨hx, hb, hml, hown, hts⟩ (c_L_low l G yy 9 (by omega) (by omega)) (va_cwS 2 hts gL_change_L_low rfl rfl rfl (by decide +kernel) ⟨Nat.le_of_ble_eq_true rfl, Nat.le_of_ble_eq_true rfl⟩) (rS (ws := []) hK hN P_nil) rfl rfl hl.1 rfl (lv_room (Nat.le_of_ble_eq_true rfl)) dL_change_3 ⟨Nat.le_of_ble_eq_true rfl, Nat.le_of_ble_eq_true rfl⟩) ?_
  refine lv_istore_n (lv' := [(3, .int (nI (lowN yy 9))), (0, .ref X.1), (1, .int xx), (2, .int yy)]) hx hb dL_change_6 rfl hl (by decide) rfl (fun ls hl => ?_)
  refine lv_iload_n hx hb dL_change_7 rfl (lv_at hl 3 rfl) ?_
  refine lv_bipush (v := nI 6) hx hb dL_change_8 (by decide) ?_
  refine rd_go (va_runS (As := [.int yy, .int (nI 6)]) (rest := []) ⟨hx, hb, hml, hown, hts⟩ (c_L_low l G yy 6 (by omega) (by omega)) (va_cwS 2 hts gL_change_L_low rfl rfl rfl (by decide +kernel) ⟨Nat.le_of_ble_eq_true rfl, Nat.le_of_ble_eq_true rfl⟩) (rS (ws := []) hK hN P_nil) rfl rfl hl.1 rfl (lv_room (Nat.le_of_ble_eq_true rfl)) dL_change_10 ⟨Nat.le_of_ble_eq_true rfl, Nat.le_of_ble_eq_true rfl⟩) ?_
  refine lv_istore (lv' := [(4, .int (nI (lowN yy 6))), (3, .int (nI (lowN yy 9))), (0, .ref X.1), (1, .int xx), (2, .int yy)]) hx hb dL_change_13 hl (by decide) rfl (fun ls hl => ?_)
  refine lv_iload_n hx hb dL_change_15 rfl (lv_at hl 4 rfl) ?_
  refine lv_iconst (v := nI 4) hx hb dL_change_16 (by decide) ?_
  refine lv_ishr hx hb dL_change_17 ?_
  refine lv_bipush (v := nI 6) hx hb dL_change_18 (by decide) ?_
  refine rd_go (va_runS (As := [.int (yy >>> ((nI 4) &&& 31)), .int (nI 6)]) (rest := []) ⟨hx, hb, hml, hown, hts⟩ (c_L_low l G (yy >>> ((nI 4) &&& 31)) 6 (by omega) (by omega)) (va_cwS 2 hts gL_change_L_low rfl rfl rfl (by decide +kernel) ⟨Nat.le_of_ble_eq_true rfl, Nat.le_of_ble_eq_true rfl⟩) (rS (ws := []) hK hN P_nil) rfl rfl hl.1 rfl (lv_room (Nat.le_of_ble_eq_true rfl)) dL_change_20 ⟨Nat.le_of_ble_eq_true rfl, Nat.le_of_ble_eq_true rfl⟩) ?_
  refine lv_istore (lv' := [(5, .int (nI (lowN (yy >>> ((nI 4) &&& 31)) 6))), (4, .int (nI (lowN yy 6))), (3, .int (nI (lowN yy 9))), (0, .ref X.1), (1, .int xx), (2, .int yy)]) hx hb dL_change_23 hl (by decide) rfl (fun ls hl => ?_)
  refine lv_aload_n hx hb dL_change_25 rfl (lv_at hl 3 rfl) ?_
  refine lv_bipush (v := nI 9) hx hb dL_change_26 (by decide) ?_
  refine wr_woi (mid := cT G X Z u) (va_runV (As := [.int (nI 9)]) (rest := []) ⟨hx, hb, hml, hown, hts⟩ (k_co9 l G _ X Z u hZ hz hu) (cwV 1 hts gL_change_X6_count rfl rfl rfl (by decide +kernel) ⟨Nat.le_of_ble_eq_true rfl, Nat.le_of_ble_eq_true rfl⟩) (wVw (mid := cT G X Z u) (va_recv (ws := cT G X Z u) hK hP (ci := 5) (q0 := 0) rfl rfl) hK hN hP hD) rfl rfl hl.1 rfl (lv_room (Nat.le_of_ble_eq_true rfl)) dL_change_28 ⟨Nat.le_of_ble_eq_true rfl, Nat.le_of_ble_eq_true rfl⟩) hP hD hS hA (fun r u_1 H locs hw hP9 hD9 hS => ?_)
  obtain ⟨rfl, hvu_1⟩ := hw
  have hP : PP G (cT G X Z u_1) _ := hP9
  have hD : va_D Ar (cT G X Z u_1) := hD9
  refine lv_istore (lv' := [(6, .int (Z.1 0 5)), (5, .int (nI (lowN (yy >>> ((nI 4) &&& 31)) 6))), (4, .int (nI (lowN yy 6))), (3, .int (nI (lowN yy 9))), (0, .ref X.1), (1, .int xx), (2, .int yy)]) hx hb dL_change_31 hl (by decide) rfl (fun ls hl => ?_)
  refine lv_aload_n hx hb dL_change_33 rfl (lv_at hl 4 rfl) ?_
  refine lv_iconst (v := nI 3) hx hb dL_change_34 (by decide) ?_
  refine wr_woi (mid := cT G X Z u_1) (va_runV (As := [.int (nI 3)]) (rest := []) ⟨hx, hb, hml, hown, hts⟩ (k_co3 l G _ X Z u_1 hZ hz hvu_1) (cwV 1 hts gL_change_X6_count rfl rfl rfl (by decide +kernel) ⟨Nat.le_of_ble_eq_true rfl, Nat.le_of_ble_eq_true rfl⟩) (wVw (mid := cT G X Z u_1) (va_recv (ws := cT G X Z u_1) hK hP (ci := 5) (q0 := 0) rfl rfl) hK hN hP hD) rfl rfl hl.1 rfl (lv_room (Nat.le_of_ble_eq_true rfl)) dL_change_35 ⟨Nat.le_of_ble_eq_true rfl, Nat.le_of_ble_eq_true rfl⟩) hP hD hS hA (fun r u_2 H locs hw hP9 hD9 hS => ?_)
  obtain ⟨rfl, hvu_2⟩ := hw
  have hP : PP G (cT G X Z u_2) _ := hP9
  have hD : va_D Ar (cT G X Z u_2) := hD9
  refine lv_istore (lv' := [(7, .int (Z.1 0 6)), (6, .int (Z.1 0 5)), (5, .int (nI (lowN (yy >>> ((nI 4) &&& 31)) 6))), (4, .int (nI (lowN yy 6))), (3, .int (nI (lowN yy 9))), (0, .ref X.1), (1, .int xx), (2, .int yy)]) hx hb dL_change_38 hl (by decide) rfl (fun ls hl => ?_)
  refine lv_iconst (v := nI 0) hx hb dL_change_40 (by decide) ?_
  refine lv_istore (lv' := [(8, .int (nI 0)), (7, .int (Z.1 0 6)), (6, .int (Z.1 0 5)), (5, .int (nI (lowN (yy >>> ((nI 4) &&& 31)) 6))), (4, .int (nI (lowN yy 6))), (3, .int (nI (lowN yy 9))), (0, .ref X.1), (1, .int xx), (2, .int yy)]) hx hb dL_change_41 hl (by decide) rfl (fun ls hl => ?_)
  refine lv_iload_n hx hb dL_change_43 rfl (lv_at hl 7 rfl) ?_
  refine lv_bipush (v := nI 14) hx hb dL_change_44 (by decide) ?_
  refine rd_go (va_runS (As := [.int xx, .int (nI 14)]) (rest := []) ⟨hx, hb, hml, hown, hts⟩ (c_L_low l G xx 14 (by omega) (by omega)) (va_cwS 2 hts gL_change_L_low rfl rfl rfl (by decide +kernel) ⟨Nat.le_of_ble_eq_true rfl, Nat.le_of_ble_eq_true rfl⟩) (rS (ws := []) hK hN P_nil) rfl rfl hl.1 rfl (lv_room (Nat.le_of_ble_eq_true rfl)) dL_change_46 ⟨Nat.le_of_ble_eq_true rfl, Nat.le_of_ble_eq_true rfl⟩) ?_
  have T116 : W pG l eG (RM 16 0 0) s mG ([.ref X.1, .int xx, .int yy] : List Value).toArray below meth cG H locs 0 0 (MQ below (wQi G (S := ZZ × CU) (fun r v9 => r = nI 1 ∧ OKg (B + 1) v9.1.1 ∧ v9.1.2.2.2.1 ≤ 6 ∧ v9.1.2.2.2.2.1 = Z.2.2.2.2.1 ∧ CV v9.1.1 v9.2) (fun v9 => cT G X v9.1 v9.2) Ar) ([.ref X.1, .int xx, .int yy] : List Value).toArray s 0 0 Ar) (F0 mG 116 ls []) := by
    refine lv_aload_n hx hb dL_change_116 rfl (lv_at hl 6 rfl) ?_
    refine lv_iload_n hx hb dL_change_117 rfl (lv_at hl 5 rfl) ?_
    refine lv_iconst (v := nI 2) hx hb dL_change_118 (by decide) ?_
    refine wr_woi (mid := cT G X Z u_2) (va_runV (As := [.int (nI (lowN yy 9)), .int (nI 2)]) (rest := []) ⟨hx, hb, hml, hown, hts⟩ (k_cr2 l G _ X Z u_2 hZ hz hvu_2 (lowN yy 9) (by omega)) (cwV 2 hts gL_change_X6_creaseOf rfl rfl rfl (by decide +kernel) ⟨Nat.le_of_ble_eq_true rfl, Nat.le_of_ble_eq_true rfl⟩) (wVw (mid := cT G X Z u_2) (va_recv (ws := cT G X Z u_2) hK hP (ci := 5) (q0 := 0) rfl rfl) hK hN hP hD) rfl rfl hl.1 rfl (lv_room (Nat.le_of_ble_eq_true rfl)) dL_change_119 ⟨Nat.le_of_ble_eq_true rfl, Nat.le_of_ble_eq_true rfl⟩) hP hD hS hA (fun r u_3 H locs hw hP9 hD9 hS => ?_)
    obtain ⟨rfl, hvu_3⟩ := hw
    have hP : PP G (cT G X Z u_3) _ := hP9
    have hD : va_D Ar (cT G X Z u_3) := hD9
    refine lv_iconst (v := nI 1) hx hb dL_change_122 (by decide) ?_
    refine lv_icmp_ne (tgt := 130) hx hb dL_change_123 (by decide) (fun c_123 => ?_) (fun c_123 => ?_)
    · refine lv_iconst (v := nI 0) hx hb dL_change_130 (by decide) ?_
      refine lv_istore (lv' := [(9, .int (nI 0)), (8, .int (nI 0)), (7, .int (Z.1 0 6)), (6, .int (Z.1 0 5)), (5, .int (nI (lowN (yy >>> ((nI 4) &&& 31)) 6))), (4, .int (nI (lowN yy 6))), (3, .int (nI (lowN yy 9))), (0, .ref X.1), (1, .int xx), (2, .int yy)]) hx hb dL_change_131 hl (by decide) rfl (fun ls hl => ?_)
      refine lv_aload_n hx hb dL_change_133 rfl (lv_at hl 7 rfl) ?_
      refine lv_iload_n hx hb dL_change_134 rfl (lv_at hl 6 rfl) ?_
      refine lv_iconst (v := nI 0) hx hb dL_change_135 (by decide) ?_
      refine wr_woi (mid := cT G X Z u_3) (va_runV (As := [.int (nI (lowN yy 9)), .int (nI 0)]) (rest := []) ⟨hx, hb, hml, hown, hts⟩ (k_cr0 l G _ X Z u_3 hZ hz hvu_3 (lowN yy 9) (by omega)) (cwV 2 hts gL_change_X6_creaseOf rfl rfl rfl (by decide +kernel) ⟨Nat.le_of_ble_eq_true rfl, Nat.le_of_ble_eq_true rfl⟩) (wVw (mid := cT G X Z u_3) (va_recv (ws := cT G X Z u_3) hK hP (ci := 5) (q0 := 0) rfl rfl) hK hN hP hD) rfl rfl hl.1 rfl (lv_room (Nat.le_of_ble_eq_true rfl)) dL_change_136 ⟨Nat.le_of_ble_eq_true rfl, Nat.le_of_ble_eq_true rfl⟩) hP hD hS hA (fun r u_4 H locs hw hP9 hD9 hS => ?_)
      obtain ⟨rfl, hvu_4⟩ := hw
      have hP : PP G (cT G X Z u_4) _ := hP9
      have hD : va_D Ar (cT G X Z u_4) := hD9
      refine lv_istore (lv' := [(8, .int (bI (Z.1 0 0) (nI (lowN yy 9)))), (9, .int (nI 0)), (7, .int (Z.1 0 6)), (6, .int (Z.1 0 5)), (5, .int (nI (lowN (yy >>> ((nI 4) &&& 31)) 6))), (4, .int (nI (lowN yy 6))), (3, .int (nI (lowN yy 9))), (0, .ref X.1), (1, .int xx), (2, .int yy)]) hx hb dL_change_139 hl (by decide) rfl (fun ls hl => ?_)
      refine lv_aload_n hx hb dL_change_141 rfl (lv_at hl 7 rfl) ?_
      refine lv_iload_n hx hb dL_change_142 rfl (lv_at hl 6 rfl) ?_
      refine lv_iconst (v := nI 1) hx hb dL_change_143 (by decide) ?_
      refine wr_woi (mid := cT G X Z u_4) (va_runV (As := [.int (nI (lowN yy 9)), .int (nI 1)]) (rest := []) ⟨hx, hb, hml, hown, hts⟩ (k_cr1 l G _ X Z u_4 hZ hz hvu_4 (lowN yy 9) (by omega)) (cwV 2 hts gL_change_X6_creaseOf rfl rfl rfl (by decide +kernel) ⟨Nat.le_of_ble_eq_true rfl, Nat.le_of_ble_eq_true rfl⟩) (wVw (mid := cT G X Z u_4) (va_recv (ws := cT G X Z u_4) hK hP (ci := 5) (q0 := 0) rfl rfl) hK hN hP hD) rfl rfl hl.1 rfl (lv_room (Nat.le_of_ble_eq_true rfl)) dL_change_144 ⟨Nat.le_of_ble_eq_true rfl, Nat.le_of_ble_eq_true rfl⟩) hP hD hS hA (fun r u_5 H locs hw hP9 hD9 hS => ?_)
      obtain ⟨rfl, hvu_5⟩ := hw
      have hP : PP G (cT G X Z u_5) _ := hP9
      have hD : va_D Ar (cT G X Z u_5) := hD9
      refine lv_istore (lv' := [(10, .int (Z.1 1 (lowN yy 9))), (8, .int (bI (Z.1 0 0) (nI (lowN yy 9)))), (9, .int (nI 0)), (7, .int (Z.1 0 6)), (6, .int (Z.1 0 5)), (5, .int (nI (lowN (yy >>> ((nI 4) &&& 31)) 6))), (4, .int (nI (lowN yy 6))), (3, .int (nI (lowN yy 9))), (0, .ref X.1), (1, .int xx), (2, .int yy)]) hx hb dL_change_147 hl (by decide) rfl (fun ls hl => ?_)
      refine lv_aload_n hx hb dL_change_149 rfl (lv_at hl 8 rfl) ?_
      refine lv_iload_n hx hb dL_change_150 rfl (lv_at hl 7 rfl) ?_
      refine wr_woi (mid := cT G X Z u_5) (va_runV (As := [.int (nI (lowN yy 9))]) (rest := []) ⟨hx, hb, hml, hown, hts⟩ (k_fold l G _ X Z u_5 hZ hz (lowN yy 9) (by omega)) (cwV 1 hts gL_change_X6_fold rfl rfl rfl (by decide +kernel) ⟨Nat.le_of_ble_eq_true rfl, Nat.le_of_ble_eq_true rfl⟩) (wVw (mid := cT G X Z u_5) (va_recv (ws := cT G X Z u_5) hK hP (ci := 5) (q0 := 0) rfl rfl) hK hN hP hD) rfl rfl hl.1 rfl (lv_room (Nat.le_of_ble_eq_true rfl)) dL_change_151 ⟨Nat.le_of_ble_eq_true rfl, Nat.le_of_ble_eq_true rfl⟩) hP hD hS hA (fun r u9 H locs hw hP9 hD9 hS => ?_)
      subst hw
      have hP : PP G (cT G X (zS Z (gFold Z.1 (lowN yy 9))) (u_5.1, u_5.2.1, nI 0)) _ := hP9
      have hD : va_D Ar (cT G X (zS Z (gFold Z.1 (lowN yy 9))) (u_5.1, u_5.2.1, nI 0)) := hD9
      have hZ9 : OKg (B + 1) (zS Z (gFold Z.1 (lowN yy 9))).1 := ok_fold hZ (by omega)
      have hz9 : (zS Z (gFold Z.1 (lowN yy 9))).2.2.2.1 ≤ 6 := svm_le hz
      have hc9 : CV (zS Z (gFold Z.1 (lowN yy 9))).1 (u_5.1, u_5.2.1, nI 0) := Or.inl rfl
      refine lv_cgi (y := bI (Z.1 0 0 ^^^ ms1 (nI (lowN yy 9))) (nI (lowN yy 9))) (if_neg c_123) ?_
      refine lv_istore (lv' := [(11, .int (bI (Z.1 0 0 ^^^ ms1 (nI (lowN yy 9))) (nI (lowN yy 9)))), (10, .int (Z.1 1 (lowN yy 9))), (8, .int (bI (Z.1 0 0) (nI (lowN yy 9)))), (9, .int (nI 0)), (7, .int (Z.1 0 6)), (6, .int (Z.1 0 5)), (5, .int (nI (lowN (yy >>> ((nI 4) &&& 31)) 6))), (4, .int (nI (lowN yy 6))), (3, .int (nI (lowN yy 9))), (0, .ref X.1), (1, .int xx), (2, .int yy)]) hx hb dL_change_154 hl (by decide) rfl (fun ls hl => ?_)
      refine lv_iload hx hb dL_change_156 (lv_at hl 3 rfl) ?_
      refine lv_if_eq (tgt := 198) hx hb dL_change_158 (by decide) (fun c_158 => ?_) (fun c_158 => ?_)
      · refine lv_iload hx hb dL_change_198 (lv_at hl 0 rfl) ?_
        refine lv_iconst (v := nI 1) hx hb dL_change_200 (by decide) ?_
        refine lv_iload hx hb dL_change_201 (lv_at hl 2 rfl) ?_
        refine lv_isub hx hb dL_change_203 ?_
        refine lv_icmp_ne (tgt := 245) hx hb dL_change_204 (by decide) (fun c_204 => ?_) (fun c_204 => ?_)
        · exact (c_204 (flip_eq hZ (by omega))).elim
        · refine lv_aload_n hx hb dL_change_207 rfl (lv_at hl 9 rfl) ?_
          refine lv_iload_n hx hb dL_change_208 rfl (lv_at hl 8 rfl) ?_
          refine lv_iconst (v := nI 0) hx hb dL_change_209 (by decide) ?_
          refine wr_woi (mid := cT G X (zS Z (gFold Z.1 (lowN yy 9))) (u_5.1, u_5.2.1, nI 0)) (va_runV (As := [.int (nI (lowN yy 9)), .int (nI 0)]) (rest := []) ⟨hx, hb, hml, hown, hts⟩ (k_cr0 l G _ X (zS Z (gFold Z.1 (lowN yy 9))) (u_5.1, u_5.2.1, nI 0) hZ9 hz9 hc9 (lowN yy 9) (by omega)) (cwV 2 hts gL_change_X6_creaseOf rfl rfl rfl (by decide +kernel) ⟨Nat.le_of_ble_eq_true rfl, Nat.le_of_ble_eq_true rfl⟩) (wVw (mid := cT G X (zS Z (gFold Z.1 (lowN yy 9))) (u_5.1, u_5.2.1, nI 0)) (va_recv (ws := cT G X (zS Z (gFold Z.1 (lowN yy 9))) (u_5.1, u_5.2.1, nI 0)) hK hP (ci := 5) (q0 := 0) rfl rfl) hK hN hP hD) rfl rfl hl.1 rfl (lv_room (Nat.le_of_ble_eq_true rfl)) dL_change_210 ⟨Nat.le_of_ble_eq_true rfl, Nat.le_of_ble_eq_true rfl⟩) hP hD hS hA (fun r u_6 H locs hw hP9 hD9 hS => ?_)
          obtain ⟨rfl, hvu_6⟩ := hw
          have hP : PP G (cT G X (zS Z (gFold Z.1 (lowN yy 9))) u_6) _ := hP9
          have hD : va_D Ar (cT G X (zS Z (gFold Z.1 (lowN yy 9))) u_6) := hD9
          refine lv_iconst (v := nI 1) hx hb dL_change_213 (by decide) ?_
          refine lv_iload hx hb dL_change_214 (lv_at hl 2 rfl) ?_
          refine lv_isub hx hb dL_change_216 ?_
          refine lv_icmp_ne (tgt := 245) hx hb dL_change_217 (by decide) (fun c_217 => ?_) (fun c_217 => ?_)
          · exact (c_217 (by show bI (if tornC (Z.1 0 1) (lowN yy 9) then Z.1 0 0 else Z.1 0 0 ^^^ ms1 (nI (lowN yy 9))) (nI (lowN yy 9)) = _; rw [if_neg c_123]; exact flip_eq hZ (by omega))).elim
          · refine lv_aload_n hx hb dL_change_220 rfl (lv_at hl 9 rfl) ?_
            refine lv_iload_n hx hb dL_change_221 rfl (lv_at hl 8 rfl) ?_
            refine lv_iconst (v := nI 1) hx hb dL_change_222 (by decide) ?_
            refine wr_woi (mid := cT G X (zS Z (gFold Z.1 (lowN yy 9))) u_6) (va_runV (As := [.int (nI (lowN yy 9)), .int (nI 1)]) (rest := []) ⟨hx, hb, hml, hown, hts⟩ (k_cr1 l G _ X (zS Z (gFold Z.1 (lowN yy 9))) u_6 hZ9 hz9 hvu_6 (lowN yy 9) (by omega)) (cwV 2 hts gL_change_X6_creaseOf rfl rfl rfl (by decide +kernel) ⟨Nat.le_of_ble_eq_true rfl, Nat.le_of_ble_eq_true rfl⟩) (wVw (mid := cT G X (zS Z (gFold Z.1 (lowN yy 9))) u_6) (va_recv (ws := cT G X (zS Z (gFold Z.1 (lowN yy 9))) u_6) hK hP (ci := 5) (q0 := 0) rfl rfl) hK hN hP hD) rfl rfl hl.1 rfl (lv_room (Nat.le_of_ble_eq_true rfl)) dL_change_223 ⟨Nat.le_of_ble_eq_true rfl, Nat.le_of_ble_eq_true rfl⟩) hP hD hS hA (fun r u_7 H locs hw hP9 hD9 hS => ?_)
            obtain ⟨rfl, hvu_7⟩ := hw
            have hP : PP G (cT G X (zS Z (gFold Z.1 (lowN yy 9))) u_7) _ := hP9
            have hD : va_D Ar (cT G X (zS Z (gFold Z.1 (lowN yy 9))) u_7) := hD9
            refine lv_iload hx hb dL_change_226 (lv_at hl 1 rfl) ?_
            refine lv_iconst (v := nI 1) hx hb dL_change_228 (by decide) ?_
            refine lv_iadd hx hb dL_change_229 ?_
            refine lv_icmp_ne (tgt := 245) hx hb dL_change_230 (by decide) (fun c_230 => ?_) (fun c_230 => ?_)
            · exact (c_230 ((congrFun (show (zS Z (gFold Z.1 (lowN yy 9))).1 1 = upd (Z.1 1) (lowN yy 9) (Z.1 1 (lowN yy 9) + nI 1) from if_neg c_123) _).trans upd_s)).elim
            · refine lv_aload_n hx hb dL_change_233 rfl (lv_at hl 9 rfl) ?_
              refine lv_iconst (v := nI 3) hx hb dL_change_234 (by decide) ?_
              refine wr_woi (mid := cT G X (zS Z (gFold Z.1 (lowN yy 9))) u_7) (va_runV (As := [.int (nI 3)]) (rest := []) ⟨hx, hb, hml, hown, hts⟩ (k_co3 l G _ X (zS Z (gFold Z.1 (lowN yy 9))) u_7 hZ9 hz9 hvu_7) (cwV 1 hts gL_change_X6_count rfl rfl rfl (by decide +kernel) ⟨Nat.le_of_ble_eq_true rfl, Nat.le_of_ble_eq_true rfl⟩) (wVw (mid := cT G X (zS Z (gFold Z.1 (lowN yy 9))) u_7) (va_recv (ws := cT G X (zS Z (gFold Z.1 (lowN yy 9))) u_7) hK hP (ci := 5) (q0 := 0) rfl rfl) hK hN hP hD) rfl rfl hl.1 rfl (lv_room (Nat.le_of_ble_eq_true rfl)) dL_change_235 ⟨Nat.le_of_ble_eq_true rfl, Nat.le_of_ble_eq_true rfl⟩) hP hD hS hA (fun r u_8 H locs hw hP9 hD9 hS => ?_)
              obtain ⟨rfl, hvu_8⟩ := hw
              have hP : PP G (cT G X (zS Z (gFold Z.1 (lowN yy 9))) u_8) _ := hP9
              have hD : va_D Ar (cT G X (zS Z (gFold Z.1 (lowN yy 9))) u_8) := hD9
              refine lv_if_ne (tgt := 245) hx hb dL_change_238 (by decide) (fun c_238 => ?_) (fun c_238 => ?_)
              · exact (c_238 (if_neg c_123)).elim
              · refine lv_iconst (v := nI 1) hx hb dL_change_241 (by decide) ?_
                refine lv_goto (tgt := 246) hx hb dL_change_242 (by decide) ?_
                exact wr_zret (G := G) (S := ZZ × CU) (zS Z (gFold Z.1 (lowN yy 9)), u_8) hx hb hr hlocks (by first | decide | exact b2_nar _) hP hD hS (Nat.le_of_ble_eq_true rfl) (Nat.le_of_ble_eq_true rfl) (by exact ⟨rfl, hZ9, hz9, rfl, hvu_8⟩) dL_change_246
      · exact absurd c_158 (by decide)
    · refine lv_iconst (v := nI 1) hx hb dL_change_126 (by decide) ?_
      refine lv_goto (tgt := 131) hx hb dL_change_127 (by decide) ?_
      refine lv_istore (lv' := [(9, .int (nI 1)), (8, .int (nI 0)), (7, .int (Z.1 0 6)), (6, .int (Z.1 0 5)), (5, .int (nI (lowN (yy >>> ((nI 4) &&& 31)) 6))), (4, .int (nI (lowN yy 6))), (3, .int (nI (lowN yy 9))), (0, .ref X.1), (1, .int xx), (2, .int yy)]) hx hb dL_change_131 hl (by decide) rfl (fun ls hl => ?_)
      refine lv_aload_n hx hb dL_change_133 rfl (lv_at hl 7 rfl) ?_
      refine lv_iload_n hx hb dL_change_134 rfl (lv_at hl 6 rfl) ?_
      refine lv_iconst (v := nI 0) hx hb dL_change_135 (by decide) ?_
      refine wr_woi (mid := cT G X Z u_3) (va_runV (As := [.int (nI (lowN yy 9)), .int (nI 0)]) (rest := []) ⟨hx, hb, hml, hown, hts⟩ (k_cr0 l G _ X Z u_3 hZ hz hvu_3 (lowN yy 9) (by omega)) (cwV 2 hts gL_change_X6_creaseOf rfl rfl rfl (by decide +kernel) ⟨Nat.le_of_ble_eq_true rfl, Nat.le_of_ble_eq_true rfl⟩) (wVw (mid := cT G X Z u_3) (va_recv (ws := cT G X Z u_3) hK hP (ci := 5) (q0 := 0) rfl rfl) hK hN hP hD) rfl rfl hl.1 rfl (lv_room (Nat.le_of_ble_eq_true rfl)) dL_change_136 ⟨Nat.le_of_ble_eq_true rfl, Nat.le_of_ble_eq_true rfl⟩) hP hD hS hA (fun r u_9 H locs hw hP9 hD9 hS => ?_)
      obtain ⟨rfl, hvu_9⟩ := hw
      have hP : PP G (cT G X Z u_9) _ := hP9
      have hD : va_D Ar (cT G X Z u_9) := hD9
      refine lv_istore (lv' := [(8, .int (bI (Z.1 0 0) (nI (lowN yy 9)))), (9, .int (nI 1)), (7, .int (Z.1 0 6)), (6, .int (Z.1 0 5)), (5, .int (nI (lowN (yy >>> ((nI 4) &&& 31)) 6))), (4, .int (nI (lowN yy 6))), (3, .int (nI (lowN yy 9))), (0, .ref X.1), (1, .int xx), (2, .int yy)]) hx hb dL_change_139 hl (by decide) rfl (fun ls hl => ?_)
      refine lv_aload_n hx hb dL_change_141 rfl (lv_at hl 7 rfl) ?_
      refine lv_iload_n hx hb dL_change_142 rfl (lv_at hl 6 rfl) ?_
      refine lv_iconst (v := nI 1) hx hb dL_change_143 (by decide) ?_
      refine wr_woi (mid := cT G X Z u_9) (va_runV (As := [.int (nI (lowN yy 9)), .int (nI 1)]) (rest := []) ⟨hx, hb, hml, hown, hts⟩ (k_cr1 l G _ X Z u_9 hZ hz hvu_9 (lowN yy 9) (by omega)) (cwV 2 hts gL_change_X6_creaseOf rfl rfl rfl (by decide +kernel) ⟨Nat.le_of_ble_eq_true rfl, Nat.le_of_ble_eq_true rfl⟩) (wVw (mid := cT G X Z u_9) (va_recv (ws := cT G X Z u_9) hK hP (ci := 5) (q0 := 0) rfl rfl) hK hN hP hD) rfl rfl hl.1 rfl (lv_room (Nat.le_of_ble_eq_true rfl)) dL_change_144 ⟨Nat.le_of_ble_eq_true rfl, Nat.le_of_ble_eq_true rfl⟩) hP hD hS hA (fun r u_10 H locs hw hP9 hD9 hS => ?_)
      obtain ⟨rfl, hvu_10⟩ := hw
      have hP : PP G (cT G X Z u_10) _ := hP9
      have hD : va_D Ar (cT G X Z u_10) := hD9
      refine lv_istore (lv' := [(10, .int (Z.1 1 (lowN yy 9))), (8, .int (bI (Z.1 0 0) (nI (lowN yy 9)))), (9, .int (nI 1)), (7, .int (Z.1 0 6)), (6, .int (Z.1 0 5)), (5, .int (nI (lowN (yy >>> ((nI 4) &&& 31)) 6))), (4, .int (nI (lowN yy 6))), (3, .int (nI (lowN yy 9))), (0, .ref X.1), (1, .int xx), (2, .int yy)]) hx hb dL_change_147 hl (by decide) rfl (fun ls hl => ?_)
      refine lv_aload_n hx hb dL_change_149 rfl (lv_at hl 8 rfl) ?_
      refine lv_iload_n hx hb dL_change_150 rfl (lv_at hl 7 rfl) ?_
      refine wr_woi (mid := cT G X Z u_10) (va_runV (As := [.int (nI (lowN yy 9))]) (rest := []) ⟨hx, hb, hml, hown, hts⟩ (k_fold l G _ X Z u_10 hZ hz (lowN yy 9) (by omega)) (cwV 1 hts gL_change_X6_fold rfl rfl rfl (by decide +kernel) ⟨Nat.le_of_ble_eq_true rfl, Nat.le_of_ble_eq_true rfl⟩) (wVw (mid := cT G X Z u_10) (va_recv (ws := cT G X Z u_10) hK hP (ci := 5) (q0 := 0) rfl rfl) hK hN hP hD) rfl rfl hl.1 rfl (lv_room (Nat.le_of_ble_eq_true rfl)) dL_change_151 ⟨Nat.le_of_ble_eq_true rfl, Nat.le_of_ble_eq_true rfl⟩) hP hD hS hA (fun r u9 H locs hw hP9 hD9 hS => ?_)
      subst hw
      have hP : PP G (cT G X (zS Z (gFold Z.1 (lowN yy 9))) (u_10.1, u_10.2.1, nI 0)) _ := hP9
      have hD : va_D Ar (cT G X (zS Z (gFold Z.1 (lowN yy 9))) (u_10.1, u_10.2.1, nI 0)) := hD9
      have hZ9 : OKg (B + 1) (zS Z (gFold Z.1 (lowN yy 9))).1 := ok_fold hZ (by omega)
      have hz9 : (zS Z (gFold Z.1 (lowN yy 9))).2.2.2.1 ≤ 6 := svm_le hz
      have hc9 : CV (zS Z (gFold Z.1 (lowN yy 9))).1 (u_10.1, u_10.2.1, nI 0) := Or.inl rfl
      refine lv_cgi (y := (-1)) (if_pos c_123) ?_
      refine lv_istore (lv' := [(11, .int (-1)), (10, .int (Z.1 1 (lowN yy 9))), (8, .int (bI (Z.1 0 0) (nI (lowN yy 9)))), (9, .int (nI 1)), (7, .int (Z.1 0 6)), (6, .int (Z.1 0 5)), (5, .int (nI (lowN (yy >>> ((nI 4) &&& 31)) 6))), (4, .int (nI (lowN yy 6))), (3, .int (nI (lowN yy 9))), (0, .ref X.1), (1, .int xx), (2, .int yy)]) hx hb dL_change_154 hl (by decide) rfl (fun ls hl => ?_)
      refine lv_iload hx hb dL_change_156 (lv_at hl 3 rfl) ?_
      refine lv_if_eq (tgt := 198) hx hb dL_change_158 (by decide) (fun c_158 => ?_) (fun c_158 => ?_)
      · exact absurd c_158 (by decide)
      · refine lv_iload hx hb dL_change_161 (lv_at hl 0 rfl) ?_
        refine lv_iconst (v := (-1)) hx hb dL_change_163 (by decide) ?_
        refine lv_icmp_ne (tgt := 194) hx hb dL_change_164 (by decide) (fun c_164 => ?_) (fun c_164 => ?_)
        · exact absurd rfl c_164
        · refine lv_aload_n hx hb dL_change_167 rfl (lv_at hl 9 rfl) ?_
          refine lv_bipush (v := nI 9) hx hb dL_change_168 (by decide) ?_
          refine wr_woi (mid := cT G X (zS Z (gFold Z.1 (lowN yy 9))) (u_10.1, u_10.2.1, nI 0)) (va_runV (As := [.int (nI 9)]) (rest := []) ⟨hx, hb, hml, hown, hts⟩ (k_co9 l G _ X (zS Z (gFold Z.1 (lowN yy 9))) (u_10.1, u_10.2.1, nI 0) hZ9 hz9 hc9) (cwV 1 hts gL_change_X6_count rfl rfl rfl (by decide +kernel) ⟨Nat.le_of_ble_eq_true rfl, Nat.le_of_ble_eq_true rfl⟩) (wVw (mid := cT G X (zS Z (gFold Z.1 (lowN yy 9))) (u_10.1, u_10.2.1, nI 0)) (va_recv (ws := cT G X (zS Z (gFold Z.1 (lowN yy 9))) (u_10.1, u_10.2.1, nI 0)) hK hP (ci := 5) (q0 := 0) rfl rfl) hK hN hP hD) rfl rfl hl.1 rfl (lv_room (Nat.le_of_ble_eq_true rfl)) dL_change_170 ⟨Nat.le_of_ble_eq_true rfl, Nat.le_of_ble_eq_true rfl⟩) hP hD hS hA (fun r u_11 H locs hw hP9 hD9 hS => ?_)
          obtain ⟨rfl, hvu_11⟩ := hw
          have hP : PP G (cT G X (zS Z (gFold Z.1 (lowN yy 9))) u_11) _ := hP9
          have hD : va_D Ar (cT G X (zS Z (gFold Z.1 (lowN yy 9))) u_11) := hD9
          refine lv_iload hx hb dL_change_173 (lv_at hl 5 rfl) ?_
          refine lv_iconst (v := nI 1) hx hb dL_change_175 (by decide) ?_
          refine lv_iadd hx hb dL_change_176 ?_
          refine lv_icmp_ne (tgt := 194) hx hb dL_change_177 (by decide) (fun c_177 => ?_) (fun c_177 => ?_)
          · exact (c_177 (if_pos c_123)).elim
          · refine lv_aload_n hx hb dL_change_180 rfl (lv_at hl 9 rfl) ?_
            refine lv_iconst (v := nI 3) hx hb dL_change_181 (by decide) ?_
            refine wr_woi (mid := cT G X (zS Z (gFold Z.1 (lowN yy 9))) u_11) (va_runV (As := [.int (nI 3)]) (rest := []) ⟨hx, hb, hml, hown, hts⟩ (k_co3 l G _ X (zS Z (gFold Z.1 (lowN yy 9))) u_11 hZ9 hz9 hvu_11) (cwV 1 hts gL_change_X6_count rfl rfl rfl (by decide +kernel) ⟨Nat.le_of_ble_eq_true rfl, Nat.le_of_ble_eq_true rfl⟩) (wVw (mid := cT G X (zS Z (gFold Z.1 (lowN yy 9))) u_11) (va_recv (ws := cT G X (zS Z (gFold Z.1 (lowN yy 9))) u_11) hK hP (ci := 5) (q0 := 0) rfl rfl) hK hN hP hD) rfl rfl hl.1 rfl (lv_room (Nat.le_of_ble_eq_true rfl)) dL_change_182 ⟨Nat.le_of_ble_eq_true rfl, Nat.le_of_ble_eq_true rfl⟩) hP hD hS hA (fun r u_12 H locs hw hP9 hD9 hS => ?_)
            obtain ⟨rfl, hvu_12⟩ := hw
            have hP : PP G (cT G X (zS Z (gFold Z.1 (lowN yy 9))) u_12) _ := hP9
            have hD : va_D Ar (cT G X (zS Z (gFold Z.1 (lowN yy 9))) u_12) := hD9
            refine lv_iload hx hb dL_change_185 (lv_at hl 4 rfl) ?_
            refine lv_icmp_ne (tgt := 194) hx hb dL_change_187 (by decide) (fun c_187 => ?_) (fun c_187 => ?_)
            · exact (c_187 (if_pos c_123)).elim
            · refine lv_iconst (v := nI 1) hx hb dL_change_190 (by decide) ?_
              refine lv_goto (tgt := 246) hx hb dL_change_191 (by decide) ?_
              exact wr_zret (G := G) (S := ZZ × CU) (zS Z (gFold Z.1 (lowN yy 9)), u_12) hx hb hr hlocks (by first | decide | exact b2_nar _) hP hD hS (Nat.le_of_ble_eq_true rfl) (Nat.le_of_ble_eq_true rfl) (by exact ⟨rfl, hZ9, hz9, rfl, hvu_12⟩) dL_change_246
  have T247 : W pG l eG (RM 16 0 0) s mG ([.ref X.1, .int xx, .int yy] : List Value).toArray below meth cG H locs 0 0 (MQ below (wQi G (S := ZZ × CU) (fun r v9 => r = nI 1 ∧ OKg (B + 1) v9.1.1 ∧ v9.1.2.2.2.1 ≤ 6 ∧ v9.1.2.2.2.2.1 = Z.2.2.2.2.1 ∧ CV v9.1.1 v9.2) (fun v9 => cT G X v9.1 v9.2) Ar) ([.ref X.1, .int xx, .int yy] : List Value).toArray s 0 0 Ar) (F0 mG 247 ls []) := by
    refine lv_aload_n hx hb dL_change_247 rfl (lv_at hl 6 rfl) ?_
    refine lv_iload hx hb dL_change_248 (lv_at hl 4 rfl) ?_
    refine rd_go (va_runV (As := [.int (nI (lowN yy 6))]) (rest := []) ⟨hx, hb, hml, hown, hts⟩ (k_town l G X Z u_2 hZ hz (lowN yy 6) (by omega)) (cwV 1 hts gL_change_X6_town rfl rfl rfl (by decide +kernel) ⟨Nat.le_of_ble_eq_true rfl, Nat.le_of_ble_eq_true rfl⟩) (rV (ws := cT G X Z u_2) (va_recv (ws := cT G X Z u_2) hK hP (ci := 5) (q0 := 0) rfl rfl) hK hN hP) rfl rfl hl.1 rfl (lv_room (Nat.le_of_ble_eq_true rfl)) dL_change_250 ⟨Nat.le_of_ble_eq_true rfl, Nat.le_of_ble_eq_true rfl⟩) ?_
    refine lv_istore (lv' := [(8, .int (Z.1 2 (lowN yy 6))), (7, .int (Z.1 0 6)), (6, .int (Z.1 0 5)), (5, .int (nI (lowN (yy >>> ((nI 4) &&& 31)) 6))), (4, .int (nI (lowN yy 6))), (3, .int (nI (lowN yy 9))), (0, .ref X.1), (1, .int xx), (2, .int yy)]) hx hb dL_change_253 hl (by decide) rfl (fun ls hl => ?_)
    refine lv_aload_n hx hb dL_change_255 rfl (lv_at hl 6 rfl) ?_
    refine lv_iload hx hb dL_change_256 (lv_at hl 4 rfl) ?_
    refine lv_iload_n hx hb dL_change_258 rfl (lv_at hl 8 rfl) ?_
    refine lv_iconst (v := nI 4) hx hb dL_change_259 (by decide) ?_
    refine lv_ishr hx hb dL_change_260 ?_
    refine lv_bipush (v := nI 10) hx hb dL_change_261 (by decide) ?_
    refine rd_go (va_runS (As := [.int (yy >>> ((nI 4) &&& 31)), .int (nI 10)]) (rest := [.int (nI (lowN yy 6)), .ref X.1]) ⟨hx, hb, hml, hown, hts⟩ (c_L_low l G (yy >>> ((nI 4) &&& 31)) 10 (by omega) (by omega)) (va_cwS 2 hts gL_change_L_low rfl rfl rfl (by decide +kernel) ⟨Nat.le_of_ble_eq_true rfl, Nat.le_of_ble_eq_true rfl⟩) (rS (ws := []) hK hN P_nil) rfl rfl hl.1 rfl (lv_room (Nat.le_of_ble_eq_true rfl)) dL_change_263 ⟨Nat.le_of_ble_eq_true rfl, Nat.le_of_ble_eq_true rfl⟩) ?_
    refine wr_woi (mid := cT G X Z u_2) (va_runV (As := [.int (nI (lowN yy 6)), .int (nI (lowN (yy >>> ((nI 4) &&& 31)) 10))]) (rest := []) ⟨hx, hb, hml, hown, hts⟩ (k_move l G _ X Z u_2 hZ hz (lowN yy 6) (by omega) (lowN (yy >>> ((nI 4) &&& 31)) 10) (by omega)) (cwV 2 hts gL_change_X6_move rfl rfl rfl (by decide +kernel) ⟨Nat.le_of_ble_eq_true rfl, Nat.le_of_ble_eq_true rfl⟩) (wVw (mid := cT G X Z u_2) (va_recv (ws := cT G X Z u_2) hK hP (ci := 5) (q0 := 0) rfl rfl) hK hN hP hD) rfl rfl hl.1 rfl (lv_room (Nat.le_of_ble_eq_true rfl)) dL_change_266 ⟨Nat.le_of_ble_eq_true rfl, Nat.le_of_ble_eq_true rfl⟩) hP hD hS hA (fun r u9 H locs hw hP9 hD9 hS => ?_)
    subst hw
    have hP : PP G (cT G X (zS Z (gMove Z.1 (lowN yy 6) (lowN (yy >>> ((nI 4) &&& 31)) 10))) (u_2.1, u_2.2.1, nI 0)) _ := hP9
    have hD : va_D Ar (cT G X (zS Z (gMove Z.1 (lowN yy 6) (lowN (yy >>> ((nI 4) &&& 31)) 10))) (u_2.1, u_2.2.1, nI 0)) := hD9
    have hZ9 : OKg (B + 1) (zS Z (gMove Z.1 (lowN yy 6) (lowN (yy >>> ((nI 4) &&& 31)) 10))).1 := ok_move hZ (by omega) (by omega)
    have hz9 : (zS Z (gMove Z.1 (lowN yy 6) (lowN (yy >>> ((nI 4) &&& 31)) 10))).2.2.2.1 ≤ 6 := svm_le hz
    have hc9 : CV (zS Z (gMove Z.1 (lowN yy 6) (lowN (yy >>> ((nI 4) &&& 31)) 10))).1 (u_2.1, u_2.2.1, nI 0) := Or.inl rfl
    refine lv_iload hx hb dL_change_269 (lv_at hl 0 rfl) ?_
    refine lv_icmp_ne (tgt := 303) hx hb dL_change_271 (by decide) (fun c_271 => ?_) (fun c_271 => ?_)
    · exact absurd rfl c_271
    · refine lv_aload_n hx hb dL_change_274 rfl (lv_at hl 6 rfl) ?_
      refine lv_iload hx hb dL_change_275 (lv_at hl 4 rfl) ?_
      refine rd_go (va_runV (As := [.int (nI (lowN yy 6))]) (rest := []) ⟨hx, hb, hml, hown, hts⟩ (k_town l G X (zS Z (gMove Z.1 (lowN yy 6) (lowN (yy >>> ((nI 4) &&& 31)) 10))) (u_2.1, u_2.2.1, nI 0) hZ9 hz9 (lowN yy 6) (by omega)) (cwV 1 hts gL_change_X6_town rfl rfl rfl (by decide +kernel) ⟨Nat.le_of_ble_eq_true rfl, Nat.le_of_ble_eq_true rfl⟩) (rV (ws := cT G X (zS Z (gMove Z.1 (lowN yy 6) (lowN (yy >>> ((nI 4) &&& 31)) 10))) (u_2.1, u_2.2.1, nI 0)) (va_recv (ws := cT G X (zS Z (gMove Z.1 (lowN yy 6) (lowN (yy >>> ((nI 4) &&& 31)) 10))) (u_2.1, u_2.2.1, nI 0)) hK hP (ci := 5) (q0 := 0) rfl rfl) hK hN hP) rfl rfl hl.1 rfl (lv_room (Nat.le_of_ble_eq_true rfl)) dL_change_277 ⟨Nat.le_of_ble_eq_true rfl, Nat.le_of_ble_eq_true rfl⟩) ?_
      refine lv_iload_n hx hb dL_change_280 rfl (lv_at hl 8 rfl) ?_
      refine lv_iconst (v := nI 4) hx hb dL_change_281 (by decide) ?_
      refine lv_ishr hx hb dL_change_282 ?_
      refine lv_bipush (v := nI 10) hx hb dL_change_283 (by decide) ?_
      refine rd_go (va_runS (As := [.int (yy >>> ((nI 4) &&& 31)), .int (nI 10)]) (rest := [.int ((zS Z (gMove Z.1 (lowN yy 6) (lowN (yy >>> ((nI 4) &&& 31)) 10))).1 2 (lowN yy 6))]) ⟨hx, hb, hml, hown, hts⟩ (c_L_low l G (yy >>> ((nI 4) &&& 31)) 10 (by omega) (by omega)) (va_cwS 2 hts gL_change_L_low rfl rfl rfl (by decide +kernel) ⟨Nat.le_of_ble_eq_true rfl, Nat.le_of_ble_eq_true rfl⟩) (rS (ws := []) hK hN P_nil) rfl rfl hl.1 rfl (lv_room (Nat.le_of_ble_eq_true rfl)) dL_change_285 ⟨Nat.le_of_ble_eq_true rfl, Nat.le_of_ble_eq_true rfl⟩) ?_
      refine lv_icmp_ne (tgt := 303) hx hb dL_change_288 (by decide) (fun c_288 => ?_) (fun c_288 => ?_)
      · exact (c_288 upd_s).elim
      · refine lv_aload_n hx hb dL_change_291 rfl (lv_at hl 6 rfl) ?_
        refine lv_iconst (v := nI 3) hx hb dL_change_292 (by decide) ?_
        refine wr_woi (mid := cT G X (zS Z (gMove Z.1 (lowN yy 6) (lowN (yy >>> ((nI 4) &&& 31)) 10))) (u_2.1, u_2.2.1, nI 0)) (va_runV (As := [.int (nI 3)]) (rest := []) ⟨hx, hb, hml, hown, hts⟩ (k_co3 l G _ X (zS Z (gMove Z.1 (lowN yy 6) (lowN (yy >>> ((nI 4) &&& 31)) 10))) (u_2.1, u_2.2.1, nI 0) hZ9 hz9 hc9) (cwV 1 hts gL_change_X6_count rfl rfl rfl (by decide +kernel) ⟨Nat.le_of_ble_eq_true rfl, Nat.le_of_ble_eq_true rfl⟩) (wVw (mid := cT G X (zS Z (gMove Z.1 (lowN yy 6) (lowN (yy >>> ((nI 4) &&& 31)) 10))) (u_2.1, u_2.2.1, nI 0)) (va_recv (ws := cT G X (zS Z (gMove Z.1 (lowN yy 6) (lowN (yy >>> ((nI 4) &&& 31)) 10))) (u_2.1, u_2.2.1, nI 0)) hK hP (ci := 5) (q0 := 0) rfl rfl) hK hN hP hD) rfl rfl hl.1 rfl (lv_room (Nat.le_of_ble_eq_true rfl)) dL_change_293 ⟨Nat.le_of_ble_eq_true rfl, Nat.le_of_ble_eq_true rfl⟩) hP hD hS hA (fun r u_13 H locs hw hP9 hD9 hS => ?_)
        obtain ⟨rfl, hvu_13⟩ := hw
        have hP : PP G (cT G X (zS Z (gMove Z.1 (lowN yy 6) (lowN (yy >>> ((nI 4) &&& 31)) 10))) u_13) _ := hP9
        have hD : va_D Ar (cT G X (zS Z (gMove Z.1 (lowN yy 6) (lowN (yy >>> ((nI 4) &&& 31)) 10))) u_13) := hD9
        refine lv_if_ne (tgt := 303) hx hb dL_change_296 (by decide) (fun c_296 => ?_) (fun c_296 => ?_)
        · exact (c_296 rfl).elim
        · refine lv_iconst (v := nI 1) hx hb dL_change_299 (by decide) ?_
          refine lv_goto (tgt := 304) hx hb dL_change_300 (by decide) ?_
          exact wr_zret (G := G) (S := ZZ × CU) (zS Z (gMove Z.1 (lowN yy 6) (lowN (yy >>> ((nI 4) &&& 31)) 10)), u_13) hx hb hr hlocks (by first | decide | exact b2_nar _) hP hD hS (Nat.le_of_ble_eq_true rfl) (Nat.le_of_ble_eq_true rfl) (by exact ⟨rfl, hZ9, hz9, rfl, hvu_13⟩) dL_change_304
  have T305 : W pG l eG (RM 16 0 0) s mG ([.ref X.1, .int xx, .int yy] : List Value).toArray below meth cG H locs 0 0 (MQ below (wQi G (S := ZZ × CU) (fun r v9 => r = nI 1 ∧ OKg (B + 1) v9.1.1 ∧ v9.1.2.2.2.1 ≤ 6 ∧ v9.1.2.2.2.2.1 = Z.2.2.2.2.1 ∧ CV v9.1.1 v9.2) (fun v9 => cT G X v9.1 v9.2) Ar) ([.ref X.1, .int xx, .int yy] : List Value).toArray s 0 0 Ar) (F0 mG 305 ls []) := by
    refine lv_aload_n hx hb dL_change_305 rfl (lv_at hl 6 rfl) ?_
    refine lv_iconst (v := nI 1) hx hb dL_change_306 (by decide) ?_
    refine lv_iload_n hx hb dL_change_307 rfl (lv_at hl 8 rfl) ?_
    refine lv_bipush (v := nI 9) hx hb dL_change_308 (by decide) ?_
    refine rd_go (va_runS (As := [.int yy, .int (nI 9)]) (rest := [.int (nI 1), .ref X.1]) ⟨hx, hb, hml, hown, hts⟩ (c_L_low l G yy 9 (by omega) (by omega)) (va_cwS 2 hts gL_change_L_low rfl rfl rfl (by decide +kernel) ⟨Nat.le_of_ble_eq_true rfl, Nat.le_of_ble_eq_true rfl⟩) (rS (ws := []) hK hN P_nil) rfl rfl hl.1 rfl (lv_room (Nat.le_of_ble_eq_true rfl)) dL_change_310 ⟨Nat.le_of_ble_eq_true rfl, Nat.le_of_ble_eq_true rfl⟩) ?_
    refine lv_iadd hx hb dL_change_313 ?_
    refine lv_cgi (y := nI (1 + (lowN yy 9))) (nI_add _ _) ?_
    refine wr_woi (mid := cT G X Z u_2) (va_runS (As := [.ref X.1, .int (nI (1 + (lowN yy 9)))]) (rest := []) ⟨hx, hb, hml, hown, hts⟩ (k_pulls l G _ X Z u_2 hZ hz hvu_2 (1 + (lowN yy 9)) (by omega) (by omega)) (va_cwS 2 hts gL_change_L_pulls rfl rfl rfl (by decide +kernel) ⟨Nat.le_of_ble_eq_true rfl, Nat.le_of_ble_eq_true rfl⟩) (wSw (mid := cT G X Z u_2) hK hN hP hD) rfl rfl hl.1 rfl (lv_room (Nat.le_of_ble_eq_true rfl)) dL_change_314 ⟨Nat.le_of_ble_eq_true rfl, Nat.le_of_ble_eq_true rfl⟩) hP hD hS hA (fun r u7 H locs hw hP9 hD9 hS => ?_)
    obtain ⟨rfl, hc7⟩ := hw
    have hP : PP G (cT G X (zS Z (gPull Z.1 (1 + (lowN yy 9)))) u7) _ := hP9
    have hD : va_D Ar (cT G X (zS Z (gPull Z.1 (1 + (lowN yy 9)))) u7) := hD9
    have hZ9 : OKg (B + 1) (zS Z (gPull Z.1 (1 + (lowN yy 9)))).1 := ok_pull hZ (1 + (lowN yy 9))
    have hz9 : (zS Z (gPull Z.1 (1 + (lowN yy 9)))).2.2.2.1 ≤ 6 := svm_le hz
    exact wr_zret (G := G) (S := ZZ × CU) (zS Z (gPull Z.1 (1 + (lowN yy 9))), u7) hx hb hr hlocks (by first | decide | exact b2_nar _) hP hD hS (Nat.le_of_ble_eq_true rfl) (Nat.le_of_ble_eq_true rfl) (by exact ⟨rfl, hZ9, hz9, rfl, hc7⟩) dL_change_317
  have T318 : W pG l eG (RM 16 0 0) s mG ([.ref X.1, .int xx, .int yy] : List Value).toArray below meth cG H locs 0 0 (MQ below (wQi G (S := ZZ × CU) (fun r v9 => r = nI 1 ∧ OKg (B + 1) v9.1.1 ∧ v9.1.2.2.2.1 ≤ 6 ∧ v9.1.2.2.2.2.1 = Z.2.2.2.2.1 ∧ CV v9.1.1 v9.2) (fun v9 => cT G X v9.1 v9.2) Ar) ([.ref X.1, .int xx, .int yy] : List Value).toArray s 0 0 Ar) (F0 mG 318 ls []) := by
    refine lv_aload_n hx hb dL_change_318 rfl (lv_at hl 6 rfl) ?_
    refine lv_iconst (v := nI 1) hx hb dL_change_319 (by decide) ?_
    refine wr_woi (mid := cT G X Z u_2) (va_runV (As := [.int (nI 1)]) (rest := []) ⟨hx, hb, hml, hown, hts⟩ (k_co1 l G _ X Z u_2 hZ hz hvu_2) (cwV 1 hts gL_change_X6_count rfl rfl rfl (by decide +kernel) ⟨Nat.le_of_ble_eq_true rfl, Nat.le_of_ble_eq_true rfl⟩) (wVw (mid := cT G X Z u_2) (va_recv (ws := cT G X Z u_2) hK hP (ci := 5) (q0 := 0) rfl rfl) hK hN hP hD) rfl rfl hl.1 rfl (lv_room (Nat.le_of_ble_eq_true rfl)) dL_change_320 ⟨Nat.le_of_ble_eq_true rfl, Nat.le_of_ble_eq_true rfl⟩) hP hD hS hA (fun r u_14 H locs hw hP9 hD9 hS => ?_)
    obtain ⟨rfl, hvu_14⟩ := hw
    have hP : PP G (cT G X Z u_14) _ := hP9
    have hD : va_D Ar (cT G X Z u_14) := hD9
    refine lv_istore (lv' := [(12, .int (bcn (Z.1 0 1))), (8, .int (nI 0)), (7, .int (Z.1 0 6)), (6, .int (Z.1 0 5)), (5, .int (nI (lowN (yy >>> ((nI 4) &&& 31)) 6))), (4, .int (nI (lowN yy 6))), (3, .int (nI (lowN yy 9))), (0, .ref X.1), (1, .int xx), (2, .int yy)]) hx hb dL_change_323 hl (by decide) rfl (fun ls hl => ?_)
    refine lv_iload_n hx hb dL_change_325 rfl (lv_at hl 9 rfl) ?_
    refine lv_bipush (v := nI 7) hx hb dL_change_326 (by decide) ?_
    refine lv_iand hx hb dL_change_328 ?_
    refine lv_if_ne (tgt := 394) hx hb dL_change_329 (by decide) (fun c_329 => ?_) (fun c_329 => ?_)
    · refine lv_iconst (v := nI 1) hx hb dL_change_394 (by decide) ?_
      refine lv_goto (tgt := 399) hx hb dL_change_395 (by decide) ?_
      exact wr_zret (G := G) (S := ZZ × CU) (Z, u_14) hx hb hr hlocks (by first | decide | exact b2_nar _) hP hD hS (Nat.le_of_ble_eq_true rfl) (Nat.le_of_ble_eq_true rfl) (by exact ⟨rfl, ok_mono (by omega) hZ, hz, rfl, hvu_14⟩) dL_change_399
    · refine lv_aload_n hx hb dL_change_332 rfl (lv_at hl 7 rfl) ?_
      refine wr_woi (mid := cT G X Z u_14) (va_runV (As := []) (rest := []) ⟨hx, hb, hml, hown, hts⟩ (k_renew l G _ X Z u_14 hZ hz ) (cwV 0 hts gL_change_X6_renew rfl rfl rfl (by decide +kernel) ⟨Nat.le_of_ble_eq_true rfl, Nat.le_of_ble_eq_true rfl⟩) (wVw (mid := cT G X Z u_14) (va_recv (ws := cT G X Z u_14) hK hP (ci := 5) (q0 := 0) rfl rfl) hK hN hP hD) rfl rfl hl.1 rfl (lv_room (Nat.le_of_ble_eq_true rfl)) dL_change_333 ⟨Nat.le_of_ble_eq_true rfl, Nat.le_of_ble_eq_true rfl⟩) hP hD hS hA (fun r u9 H locs hw hP9 hD9 hS => ?_)
      subst hw
      have hP : PP G (cT G X (zS Z (gRenew Z.1)) (u_14.1, u_14.2.1, nI 0)) _ := hP9
      have hD : va_D Ar (cT G X (zS Z (gRenew Z.1)) (u_14.1, u_14.2.1, nI 0)) := hD9
      have hZ9 : OKg (B + 1) (zS Z (gRenew Z.1)).1 := ok_renew hZ
      have hz9 : (zS Z (gRenew Z.1)).2.2.2.1 ≤ 6 := svm_le hz
      have hc9 : CV (zS Z (gRenew Z.1)).1 (u_14.1, u_14.2.1, nI 0) := Or.inl rfl
      refine lv_iload hx hb dL_change_336 (lv_at hl 0 rfl) ?_
      refine lv_icmp_ne (tgt := 398) hx hb dL_change_338 (by decide) (fun c_338 => ?_) (fun c_338 => ?_)
      · exact absurd rfl c_338
      · refine lv_aload_n hx hb dL_change_341 rfl (lv_at hl 7 rfl) ?_
        refine lv_iconst (v := nI 0) hx hb dL_change_342 (by decide) ?_
        refine wr_woi (mid := cT G X (zS Z (gRenew Z.1)) (u_14.1, u_14.2.1, nI 0)) (va_runV (As := [.int (nI 0)]) (rest := []) ⟨hx, hb, hml, hown, hts⟩ (k_co0 l G _ X (zS Z (gRenew Z.1)) (u_14.1, u_14.2.1, nI 0) hZ9 hz9 hc9) (cwV 1 hts gL_change_X6_count rfl rfl rfl (by decide +kernel) ⟨Nat.le_of_ble_eq_true rfl, Nat.le_of_ble_eq_true rfl⟩) (wVw (mid := cT G X (zS Z (gRenew Z.1)) (u_14.1, u_14.2.1, nI 0)) (va_recv (ws := cT G X (zS Z (gRenew Z.1)) (u_14.1, u_14.2.1, nI 0)) hK hP (ci := 5) (q0 := 0) rfl rfl) hK hN hP hD) rfl rfl hl.1 rfl (lv_room (Nat.le_of_ble_eq_true rfl)) dL_change_343 ⟨Nat.le_of_ble_eq_true rfl, Nat.le_of_ble_eq_true rfl⟩) hP hD hS hA (fun r u_15 H locs hw hP9 hD9 hS => ?_)
        obtain ⟨rfl, hvu_15⟩ := hw
        have hP : PP G (cT G X (zS Z (gRenew Z.1)) u_15) _ := hP9
        have hD : va_D Ar (cT G X (zS Z (gRenew Z.1)) u_15) := hD9
        refine lv_if_ne (tgt := 398) hx hb dL_change_346 (by decide) (fun c_346 => ?_) (fun c_346 => ?_)
        · exact (c_346 (show bcn (nI 0) = 0 by decide +kernel)).elim
        · refine lv_aload_n hx hb dL_change_349 rfl (lv_at hl 7 rfl) ?_
          refine lv_iconst (v := nI 1) hx hb dL_change_350 (by decide) ?_
          refine wr_woi (mid := cT G X (zS Z (gRenew Z.1)) u_15) (va_runV (As := [.int (nI 1)]) (rest := []) ⟨hx, hb, hml, hown, hts⟩ (k_co1 l G _ X (zS Z (gRenew Z.1)) u_15 hZ9 hz9 hvu_15) (cwV 1 hts gL_change_X6_count rfl rfl rfl (by decide +kernel) ⟨Nat.le_of_ble_eq_true rfl, Nat.le_of_ble_eq_true rfl⟩) (wVw (mid := cT G X (zS Z (gRenew Z.1)) u_15) (va_recv (ws := cT G X (zS Z (gRenew Z.1)) u_15) hK hP (ci := 5) (q0 := 0) rfl rfl) hK hN hP hD) rfl rfl hl.1 rfl (lv_room (Nat.le_of_ble_eq_true rfl)) dL_change_351 ⟨Nat.le_of_ble_eq_true rfl, Nat.le_of_ble_eq_true rfl⟩) hP hD hS hA (fun r u_16 H locs hw hP9 hD9 hS => ?_)
          obtain ⟨rfl, hvu_16⟩ := hw
          have hP : PP G (cT G X (zS Z (gRenew Z.1)) u_16) _ := hP9
          have hD : va_D Ar (cT G X (zS Z (gRenew Z.1)) u_16) := hD9
          refine lv_if_ne (tgt := 398) hx hb dL_change_354 (by decide) (fun c_354 => ?_) (fun c_354 => ?_)
          · exact (c_354 (show bcn (nI 0) = 0 by decide +kernel)).elim
          · refine lv_aload_n hx hb dL_change_357 rfl (lv_at hl 7 rfl) ?_
            refine lv_iconst (v := nI 2) hx hb dL_change_358 (by decide) ?_
            refine wr_woi (mid := cT G X (zS Z (gRenew Z.1)) u_16) (va_runV (As := [.int (nI 2)]) (rest := []) ⟨hx, hb, hml, hown, hts⟩ (k_co2 l G _ X (zS Z (gRenew Z.1)) u_16 hZ9 hz9 hvu_16) (cwV 1 hts gL_change_X6_count rfl rfl rfl (by decide +kernel) ⟨Nat.le_of_ble_eq_true rfl, Nat.le_of_ble_eq_true rfl⟩) (wVw (mid := cT G X (zS Z (gRenew Z.1)) u_16) (va_recv (ws := cT G X (zS Z (gRenew Z.1)) u_16) hK hP (ci := 5) (q0 := 0) rfl rfl) hK hN hP hD) rfl rfl hl.1 rfl (lv_room (Nat.le_of_ble_eq_true rfl)) dL_change_359 ⟨Nat.le_of_ble_eq_true rfl, Nat.le_of_ble_eq_true rfl⟩) hP hD hS hA (fun r u_17 H locs hw hP9 hD9 hS => ?_)
            obtain ⟨rfl, hvu_17⟩ := hw
            have hP : PP G (cT G X (zS Z (gRenew Z.1)) u_17) _ := hP9
            have hD : va_D Ar (cT G X (zS Z (gRenew Z.1)) u_17) := hD9
            refine lv_bipush (v := nI 10) hx hb dL_change_362 (by decide) ?_
            refine lv_icmp_ne (tgt := 398) hx hb dL_change_364 (by decide) (fun c_364 => ?_) (fun c_364 => ?_)
            · exact (c_364 wd_0).elim
            · refine lv_aload_n hx hb dL_change_367 rfl (lv_at hl 7 rfl) ?_
              refine lv_iconst (v := nI 3) hx hb dL_change_368 (by decide) ?_
              refine wr_woi (mid := cT G X (zS Z (gRenew Z.1)) u_17) (va_runV (As := [.int (nI 3)]) (rest := []) ⟨hx, hb, hml, hown, hts⟩ (k_co3 l G _ X (zS Z (gRenew Z.1)) u_17 hZ9 hz9 hvu_17) (cwV 1 hts gL_change_X6_count rfl rfl rfl (by decide +kernel) ⟨Nat.le_of_ble_eq_true rfl, Nat.le_of_ble_eq_true rfl⟩) (wVw (mid := cT G X (zS Z (gRenew Z.1)) u_17) (va_recv (ws := cT G X (zS Z (gRenew Z.1)) u_17) hK hP (ci := 5) (q0 := 0) rfl rfl) hK hN hP hD) rfl rfl hl.1 rfl (lv_room (Nat.le_of_ble_eq_true rfl)) dL_change_369 ⟨Nat.le_of_ble_eq_true rfl, Nat.le_of_ble_eq_true rfl⟩) hP hD hS hA (fun r u_18 H locs hw hP9 hD9 hS => ?_)
              obtain ⟨rfl, hvu_18⟩ := hw
              have hP : PP G (cT G X (zS Z (gRenew Z.1)) u_18) _ := hP9
              have hD : va_D Ar (cT G X (zS Z (gRenew Z.1)) u_18) := hD9
              refine lv_if_ne (tgt := 398) hx hb dL_change_372 (by decide) (fun c_372 => ?_) (fun c_372 => ?_)
              · exact (c_372 rfl).elim
              · refine lv_aload_n hx hb dL_change_375 rfl (lv_at hl 7 rfl) ?_
                refine lv_iconst (v := nI 4) hx hb dL_change_376 (by decide) ?_
                refine wr_woi (mid := cT G X (zS Z (gRenew Z.1)) u_18) (va_runV (As := [.int (nI 4)]) (rest := []) ⟨hx, hb, hml, hown, hts⟩ (k_co4 l G _ X (zS Z (gRenew Z.1)) u_18 hZ9 hz9 hvu_18) (cwV 1 hts gL_change_X6_count rfl rfl rfl (by decide +kernel) ⟨Nat.le_of_ble_eq_true rfl, Nat.le_of_ble_eq_true rfl⟩) (wVw (mid := cT G X (zS Z (gRenew Z.1)) u_18) (va_recv (ws := cT G X (zS Z (gRenew Z.1)) u_18) hK hP (ci := 5) (q0 := 0) rfl rfl) hK hN hP hD) rfl rfl hl.1 rfl (lv_room (Nat.le_of_ble_eq_true rfl)) dL_change_377 ⟨Nat.le_of_ble_eq_true rfl, Nat.le_of_ble_eq_true rfl⟩) hP hD hS hA (fun r u_19 H locs hw hP9 hD9 hS => ?_)
                obtain ⟨rfl, hvu_19⟩ := hw
                have hP : PP G (cT G X (zS Z (gRenew Z.1)) u_19) _ := hP9
                have hD : va_D Ar (cT G X (zS Z (gRenew Z.1)) u_19) := hD9
                refine lv_sipush (v := nI 512) hx hb dL_change_380 (by decide +kernel) ?_
                refine lv_icmp_ne (tgt := 398) hx hb dL_change_383 (by decide) (fun c_383 => ?_) (fun c_383 => ?_)
                · exact (c_383 (congrArg nI (zq_renew _))).elim
                · refine lv_aload_n hx hb dL_change_386 rfl (lv_at hl 7 rfl) ?_
                  refine rd_go (va_runV (As := []) (rest := []) ⟨hx, hb, hml, hown, hts⟩ (k_weak l G X (zS Z (gRenew Z.1)) u_19 hZ9 hz9) (cwV 0 hts gL_change_X6_weakest rfl rfl rfl (by decide +kernel) ⟨Nat.le_of_ble_eq_true rfl, Nat.le_of_ble_eq_true rfl⟩) (rV (ws := cT G X (zS Z (gRenew Z.1)) u_19) (va_recv (ws := cT G X (zS Z (gRenew Z.1)) u_19) hK hP (ci := 5) (q0 := 0) rfl rfl) hK hN hP) rfl rfl hl.1 rfl (lv_room (Nat.le_of_ble_eq_true rfl)) dL_change_387 ⟨Nat.le_of_ble_eq_true rfl, Nat.le_of_ble_eq_true rfl⟩) ?_
                  refine lv_iconst (v := (-1)) hx hb dL_change_390 (by decide) ?_
                  refine lv_icmp_ne (tgt := 398) hx hb dL_change_391 (by decide) (fun c_391 => ?_) (fun c_391 => ?_)
                  · exact (c_391 (congrArg Prod.fst (wk_0 _ 9 (by omega)))).elim
                  · refine lv_iconst (v := nI 1) hx hb dL_change_394 (by decide) ?_
                    refine lv_goto (tgt := 399) hx hb dL_change_395 (by decide) ?_
                    exact wr_zret (G := G) (S := ZZ × CU) (zS Z (gRenew Z.1), u_19) hx hb hr hlocks (by first | decide | exact b2_nar _) hP hD hS (Nat.le_of_ble_eq_true rfl) (Nat.le_of_ble_eq_true rfl) (by exact ⟨rfl, hZ9, hz9, rfl, hvu_19⟩) dL_change_399
  have T400 : W pG l eG (RM 16 0 0) s mG ([.ref X.1, .int xx, .int yy] : List Value).toArray below meth cG H locs 0 0 (MQ below (wQi G (S := ZZ × CU) (fun r v9 => r = nI 1 ∧ OKg (B + 1) v9.1.1 ∧ v9.1.2.2.2.1 ≤ 6 ∧ v9.1.2.2.2.2.1 = Z.2.2.2.2.1 ∧ CV v9.1.1 v9.2) (fun v9 => cT G X v9.1 v9.2) Ar) ([.ref X.1, .int xx, .int yy] : List Value).toArray s 0 0 Ar) (F0 mG 400 ls []) := by
    refine lv_iload hx hb dL_change_400 (lv_at hl 4 rfl) ?_
    refine lv_iload hx hb dL_change_402 (lv_at hl 3 rfl) ?_
    refine lv_icmp_ne (tgt := 409) hx hb dL_change_404 (by decide) (fun c_404 => ?_) (fun c_404 => ?_)
    · have hto : lowN yy 6 ≠ lowN (yy >>> (nI 4 &&& 31)) 6 := nIn c_404
      refine lv_aload_n hx hb dL_change_409 rfl (lv_at hl 6 rfl) ?_
      refine lv_iload hx hb dL_change_410 (lv_at hl 4 rfl) ?_
      refine lv_iload hx hb dL_change_412 (lv_at hl 3 rfl) ?_
      refine lv_iconst (v := nI 3) hx hb dL_change_414 (by decide) ?_
      refine rd_go (va_runV (As := [.int (nI (lowN yy 6)), .int (nI (lowN (yy >>> ((nI 4) &&& 31)) 6)), .int (nI 3)]) (rest := []) ⟨hx, hb, hml, hown, hts⟩ (k_bt3 l G X Z u_2 hZ hz (lowN yy 6) (lowN (yy >>> ((nI 4) &&& 31)) 6) (by omega) (by omega)) (cwV 3 hts gL_change_X6_between rfl rfl rfl (by decide +kernel) ⟨Nat.le_of_ble_eq_true rfl, Nat.le_of_ble_eq_true rfl⟩) (rV (ws := cT G X Z u_2) (va_recv (ws := cT G X Z u_2) hK hP (ci := 5) (q0 := 0) rfl rfl) hK hN hP) rfl rfl hl.1 rfl (lv_room (Nat.le_of_ble_eq_true rfl)) dL_change_415 ⟨Nat.le_of_ble_eq_true rfl, Nat.le_of_ble_eq_true rfl⟩) ?_
      refine lv_istore (lv' := [(8, .int (abt (Z.1 3) (Z.1 4) (Z.1 5) (zN Z.1) (nI (cl (Z.1 2 (lowN yy 6)))) (nI (cl (Z.1 2 (lowN (yy >>> ((nI 4) &&& 31)) 6)))))), (7, .int (Z.1 0 6)), (6, .int (Z.1 0 5)), (5, .int (nI (lowN (yy >>> ((nI 4) &&& 31)) 6))), (4, .int (nI (lowN yy 6))), (3, .int (nI (lowN yy 9))), (0, .ref X.1), (1, .int xx), (2, .int yy)]) hx hb dL_change_418 hl (by decide) rfl (fun ls hl => ?_)
      refine lv_aload_n hx hb dL_change_420 rfl (lv_at hl 6 rfl) ?_
      refine lv_bipush (v := nI 6) hx hb dL_change_421 (by decide) ?_
      refine wr_woi (mid := cT G X Z u_2) (va_runV (As := [.int (nI 6)]) (rest := []) ⟨hx, hb, hml, hown, hts⟩ (k_co6 l G _ X Z u_2 hZ hz hvu_2) (cwV 1 hts gL_change_X6_count rfl rfl rfl (by decide +kernel) ⟨Nat.le_of_ble_eq_true rfl, Nat.le_of_ble_eq_true rfl⟩) (wVw (mid := cT G X Z u_2) (va_recv (ws := cT G X Z u_2) hK hP (ci := 5) (q0 := 0) rfl rfl) hK hN hP hD) rfl rfl hl.1 rfl (lv_room (Nat.le_of_ble_eq_true rfl)) dL_change_423 ⟨Nat.le_of_ble_eq_true rfl, Nat.le_of_ble_eq_true rfl⟩) hP hD hS hA (fun r u_20 H locs hw hP9 hD9 hS => ?_)
      obtain ⟨rfl, hvu_20⟩ := hw
      have hP : PP G (cT G X Z u_20) _ := hP9
      have hD : va_D Ar (cT G X Z u_20) := hD9
      refine lv_istore (lv' := [(13, .int (Z.1 0 2)), (8, .int (abt (Z.1 3) (Z.1 4) (Z.1 5) (zN Z.1) (nI (cl (Z.1 2 (lowN yy 6)))) (nI (cl (Z.1 2 (lowN (yy >>> ((nI 4) &&& 31)) 6)))))), (7, .int (Z.1 0 6)), (6, .int (Z.1 0 5)), (5, .int (nI (lowN (yy >>> ((nI 4) &&& 31)) 6))), (4, .int (nI (lowN yy 6))), (3, .int (nI (lowN yy 9))), (0, .ref X.1), (1, .int xx), (2, .int yy)]) hx hb dL_change_426 hl (by decide) rfl (fun ls hl => ?_)
      refine lv_aload_n hx hb dL_change_428 rfl (lv_at hl 7 rfl) ?_
      refine lv_iload hx hb dL_change_429 (lv_at hl 5 rfl) ?_
      refine lv_iload hx hb dL_change_431 (lv_at hl 4 rfl) ?_
      refine wr_woi (mid := cT G X Z u_20) (va_runV (As := [.int (nI (lowN yy 6)), .int (nI (lowN (yy >>> ((nI 4) &&& 31)) 6))]) (rest := []) ⟨hx, hb, hml, hown, hts⟩ (k_ask l G _ X Z u_20 hZ hz (lowN yy 6) (lowN (yy >>> ((nI 4) &&& 31)) 6) (by omega) (by omega) (by omega)) (cwV 2 hts gL_change_X6_ask rfl rfl rfl (by decide +kernel) ⟨Nat.le_of_ble_eq_true rfl, Nat.le_of_ble_eq_true rfl⟩) (wVw (mid := cT G X Z u_20) (va_recv (ws := cT G X Z u_20) hK hP (ci := 5) (q0 := 0) rfl rfl) hK hN hP hD) rfl rfl hl.1 rfl (lv_room (Nat.le_of_ble_eq_true rfl)) dL_change_433 ⟨Nat.le_of_ble_eq_true rfl, Nat.le_of_ble_eq_true rfl⟩) hP hD hS hA (fun r u9 H locs hw hP9 hD9 hS => ?_)
      subst hw
      have hP : PP G (cT G X (zS Z (gAsk Z.1 (lowN yy 6) (lowN (yy >>> ((nI 4) &&& 31)) 6))) (u_20.1, u_20.2.1, nI 0)) _ := hP9
      have hD : va_D Ar (cT G X (zS Z (gAsk Z.1 (lowN yy 6) (lowN (yy >>> ((nI 4) &&& 31)) 6))) (u_20.1, u_20.2.1, nI 0)) := hD9
      have hZ9 : OKg (B + 1) (zS Z (gAsk Z.1 (lowN yy 6) (lowN (yy >>> ((nI 4) &&& 31)) 6))).1 := ok_ask hZ (by omega) (by omega)
      have hz9 : (zS Z (gAsk Z.1 (lowN yy 6) (lowN (yy >>> ((nI 4) &&& 31)) 6))).2.2.2.1 ≤ 6 := svm_le hz
      have hc9 : CV (zS Z (gAsk Z.1 (lowN yy 6) (lowN (yy >>> ((nI 4) &&& 31)) 6))).1 (u_20.1, u_20.2.1, nI 0) := Or.inl rfl
      refine lv_istore (lv' := [(14, .int (if refdC (Z.1 3) (Z.1 4) (Z.1 5) (zN Z.1) (nI (cl (Z.1 2 (lowN yy 6)))) (nI (cl (Z.1 2 (lowN (yy >>> ((nI 4) &&& 31)) 6)))) then -1 else b2 (mt (Z.1 0 0) (cl (Z.1 2 (lowN yy 6))) (cl (Z.1 2 (lowN (yy >>> ((nI 4) &&& 31)) 6)))))), (13, .int (Z.1 0 2)), (8, .int (abt (Z.1 3) (Z.1 4) (Z.1 5) (zN Z.1) (nI (cl (Z.1 2 (lowN yy 6)))) (nI (cl (Z.1 2 (lowN (yy >>> ((nI 4) &&& 31)) 6)))))), (7, .int (Z.1 0 6)), (6, .int (Z.1 0 5)), (5, .int (nI (lowN (yy >>> ((nI 4) &&& 31)) 6))), (4, .int (nI (lowN yy 6))), (3, .int (nI (lowN yy 9))), (0, .ref X.1), (1, .int xx), (2, .int yy)]) hx hb dL_change_436 hl (by decide) rfl (fun ls hl => ?_)
      refine lv_iload hx hb dL_change_438 (lv_at hl 2 rfl) ?_
      refine lv_iconst (v := (-1)) hx hb dL_change_440 (by decide) ?_
      refine lv_icmp_ne (tgt := 451) hx hb dL_change_441 (by decide) (fun c_441 => ?_) (fun c_441 => ?_)
      · have hrf : refdC (Z.1 3) (Z.1 4) (Z.1 5) (zN Z.1) (nI (cl (Z.1 2 (lowN yy 6)))) (nI (cl (Z.1 2 (lowN (yy >>> (nI 4 &&& 31)) 6)))) := Or.inr c_441
        refine lv_iload hx hb dL_change_451 (lv_at hl 0 rfl) ?_
        refine lv_iconst (v := (-1)) hx hb dL_change_453 (by decide) ?_
        refine lv_icmp_ne (tgt := 495) hx hb dL_change_454 (by decide) (fun c_454 => ?_) (fun c_454 => ?_)
        · exact (c_454 (if_pos hrf)).elim
        · refine lv_aload_n hx hb dL_change_457 rfl (lv_at hl 8 rfl) ?_
          refine lv_bipush (v := nI 9) hx hb dL_change_458 (by decide) ?_
          refine wr_woi (mid := cT G X (zS Z (gAsk Z.1 (lowN yy 6) (lowN (yy >>> ((nI 4) &&& 31)) 6))) (u_20.1, u_20.2.1, nI 0)) (va_runV (As := [.int (nI 9)]) (rest := []) ⟨hx, hb, hml, hown, hts⟩ (k_co9 l G _ X (zS Z (gAsk Z.1 (lowN yy 6) (lowN (yy >>> ((nI 4) &&& 31)) 6))) (u_20.1, u_20.2.1, nI 0) hZ9 hz9 hc9) (cwV 1 hts gL_change_X6_count rfl rfl rfl (by decide +kernel) ⟨Nat.le_of_ble_eq_true rfl, Nat.le_of_ble_eq_true rfl⟩) (wVw (mid := cT G X (zS Z (gAsk Z.1 (lowN yy 6) (lowN (yy >>> ((nI 4) &&& 31)) 6))) (u_20.1, u_20.2.1, nI 0)) (va_recv (ws := cT G X (zS Z (gAsk Z.1 (lowN yy 6) (lowN (yy >>> ((nI 4) &&& 31)) 6))) (u_20.1, u_20.2.1, nI 0)) hK hP (ci := 5) (q0 := 0) rfl rfl) hK hN hP hD) rfl rfl hl.1 rfl (lv_room (Nat.le_of_ble_eq_true rfl)) dL_change_460 ⟨Nat.le_of_ble_eq_true rfl, Nat.le_of_ble_eq_true rfl⟩) hP hD hS hA (fun r u_21 H locs hw hP9 hD9 hS => ?_)
          obtain ⟨rfl, hvu_21⟩ := hw
          have hP : PP G (cT G X (zS Z (gAsk Z.1 (lowN yy 6) (lowN (yy >>> ((nI 4) &&& 31)) 6))) u_21) _ := hP9
          have hD : va_D Ar (cT G X (zS Z (gAsk Z.1 (lowN yy 6) (lowN (yy >>> ((nI 4) &&& 31)) 6))) u_21) := hD9
          refine lv_iload hx hb dL_change_463 (lv_at hl 4 rfl) ?_
          refine lv_iconst (v := nI 1) hx hb dL_change_465 (by decide) ?_
          refine lv_iadd hx hb dL_change_466 ?_
          refine lv_icmp_ne (tgt := 495) hx hb dL_change_467 (by decide) (fun c_467 => ?_) (fun c_467 => ?_)
          · exact (c_467 (if_pos hrf)).elim
          · refine lv_aload_n hx hb dL_change_470 rfl (lv_at hl 8 rfl) ?_
            refine lv_iconst (v := nI 3) hx hb dL_change_471 (by decide) ?_
            refine wr_woi (mid := cT G X (zS Z (gAsk Z.1 (lowN yy 6) (lowN (yy >>> ((nI 4) &&& 31)) 6))) u_21) (va_runV (As := [.int (nI 3)]) (rest := []) ⟨hx, hb, hml, hown, hts⟩ (k_co3 l G _ X (zS Z (gAsk Z.1 (lowN yy 6) (lowN (yy >>> ((nI 4) &&& 31)) 6))) u_21 hZ9 hz9 hvu_21) (cwV 1 hts gL_change_X6_count rfl rfl rfl (by decide +kernel) ⟨Nat.le_of_ble_eq_true rfl, Nat.le_of_ble_eq_true rfl⟩) (wVw (mid := cT G X (zS Z (gAsk Z.1 (lowN yy 6) (lowN (yy >>> ((nI 4) &&& 31)) 6))) u_21) (va_recv (ws := cT G X (zS Z (gAsk Z.1 (lowN yy 6) (lowN (yy >>> ((nI 4) &&& 31)) 6))) u_21) hK hP (ci := 5) (q0 := 0) rfl rfl) hK hN hP hD) rfl rfl hl.1 rfl (lv_room (Nat.le_of_ble_eq_true rfl)) dL_change_472 ⟨Nat.le_of_ble_eq_true rfl, Nat.le_of_ble_eq_true rfl⟩) hP hD hS hA (fun r u_22 H locs hw hP9 hD9 hS => ?_)
            obtain ⟨rfl, hvu_22⟩ := hw
            have hP : PP G (cT G X (zS Z (gAsk Z.1 (lowN yy 6) (lowN (yy >>> ((nI 4) &&& 31)) 6))) u_22) _ := hP9
            have hD : va_D Ar (cT G X (zS Z (gAsk Z.1 (lowN yy 6) (lowN (yy >>> ((nI 4) &&& 31)) 6))) u_22) := hD9
            refine lv_iload hx hb dL_change_475 (lv_at hl 3 rfl) ?_
            refine lv_icmp_ne (tgt := 495) hx hb dL_change_477 (by decide) (fun c_477 => ?_) (fun c_477 => ?_)
            · exact (c_477 (if_pos hrf)).elim
            · refine lv_aload_n hx hb dL_change_480 rfl (lv_at hl 8 rfl) ?_
              refine lv_bipush (v := nI 6) hx hb dL_change_481 (by decide) ?_
              refine wr_woi (mid := cT G X (zS Z (gAsk Z.1 (lowN yy 6) (lowN (yy >>> ((nI 4) &&& 31)) 6))) u_22) (va_runV (As := [.int (nI 6)]) (rest := []) ⟨hx, hb, hml, hown, hts⟩ (k_co6 l G _ X (zS Z (gAsk Z.1 (lowN yy 6) (lowN (yy >>> ((nI 4) &&& 31)) 6))) u_22 hZ9 hz9 hvu_22) (cwV 1 hts gL_change_X6_count rfl rfl rfl (by decide +kernel) ⟨Nat.le_of_ble_eq_true rfl, Nat.le_of_ble_eq_true rfl⟩) (wVw (mid := cT G X (zS Z (gAsk Z.1 (lowN yy 6) (lowN (yy >>> ((nI 4) &&& 31)) 6))) u_22) (va_recv (ws := cT G X (zS Z (gAsk Z.1 (lowN yy 6) (lowN (yy >>> ((nI 4) &&& 31)) 6))) u_22) hK hP (ci := 5) (q0 := 0) rfl rfl) hK hN hP hD) rfl rfl hl.1 rfl (lv_room (Nat.le_of_ble_eq_true rfl)) dL_change_483 ⟨Nat.le_of_ble_eq_true rfl, Nat.le_of_ble_eq_true rfl⟩) hP hD hS hA (fun r u_23 H locs hw hP9 hD9 hS => ?_)
              obtain ⟨rfl, hvu_23⟩ := hw
              have hP : PP G (cT G X (zS Z (gAsk Z.1 (lowN yy 6) (lowN (yy >>> ((nI 4) &&& 31)) 6))) u_23) _ := hP9
              have hD : va_D Ar (cT G X (zS Z (gAsk Z.1 (lowN yy 6) (lowN (yy >>> ((nI 4) &&& 31)) 6))) u_23) := hD9
              refine lv_iload hx hb dL_change_486 (lv_at hl 1 rfl) ?_
              refine lv_icmp_ne (tgt := 495) hx hb dL_change_488 (by decide) (fun c_488 => ?_) (fun c_488 => ?_)
              · exact (c_488 (if_pos hrf)).elim
              · refine lv_iconst (v := nI 1) hx hb dL_change_491 (by decide) ?_
                refine lv_goto (tgt := 496) hx hb dL_change_492 (by decide) ?_
                exact wr_zret (G := G) (S := ZZ × CU) (zS Z (gAsk Z.1 (lowN yy 6) (lowN (yy >>> ((nI 4) &&& 31)) 6)), u_23) hx hb hr hlocks (by first | decide | exact b2_nar _) hP hD hS (Nat.le_of_ble_eq_true rfl) (Nat.le_of_ble_eq_true rfl) (by exact ⟨rfl, hZ9, hz9, rfl, hvu_23⟩) dL_change_496
      · refine lv_iload hx hb dL_change_444 (lv_at hl 3 rfl) ?_
        refine lv_bipush (v := nI 12) hx hb dL_change_446 (by decide) ?_
        refine lv_icmp_ne (tgt := 497) hx hb dL_change_448 (by decide) (fun c_448 => ?_) (fun c_448 => ?_)
        · have hrf : ¬ refdC (Z.1 3) (Z.1 4) (Z.1 5) (zN Z.1) (nI (cl (Z.1 2 (lowN yy 6)))) (nI (cl (Z.1 2 (lowN (yy >>> (nI 4 &&& 31)) 6)))) := fun h => h.elim (fun h => c_448 (hZ.1.trans (by rw [show zN Z.1 = 12 by have := okg_n hZ; omega]))) (fun h => h c_441)
          refine lv_iload hx hb dL_change_497 (lv_at hl 0 rfl) ?_
          refine lv_aload_n hx hb dL_change_499 rfl (lv_at hl 8 rfl) ?_
          refine lv_iload hx hb dL_change_500 (lv_at hl 6 rfl) ?_
          refine lv_iload hx hb dL_change_502 (lv_at hl 5 rfl) ?_
          refine lv_iconst (v := nI 2) hx hb dL_change_504 (by decide) ?_
          refine rd_go (va_runV (As := [.int (nI (lowN yy 6)), .int (nI (lowN (yy >>> ((nI 4) &&& 31)) 6)), .int (nI 2)]) (rest := [.int (if refdC (Z.1 3) (Z.1 4) (Z.1 5) (zN Z.1) (nI (cl (Z.1 2 (lowN yy 6)))) (nI (cl (Z.1 2 (lowN (yy >>> ((nI 4) &&& 31)) 6)))) then -1 else b2 (mt (Z.1 0 0) (cl (Z.1 2 (lowN yy 6))) (cl (Z.1 2 (lowN (yy >>> ((nI 4) &&& 31)) 6)))))]) ⟨hx, hb, hml, hown, hts⟩ (k_bt2 l G X (zS Z (gAsk Z.1 (lowN yy 6) (lowN (yy >>> ((nI 4) &&& 31)) 6))) (u_20.1, u_20.2.1, nI 0) hZ9 hz9 (lowN yy 6) (lowN (yy >>> ((nI 4) &&& 31)) 6) (by omega) (by omega)) (cwV 3 hts gL_change_X6_between rfl rfl rfl (by decide +kernel) ⟨Nat.le_of_ble_eq_true rfl, Nat.le_of_ble_eq_true rfl⟩) (rV (ws := cT G X (zS Z (gAsk Z.1 (lowN yy 6) (lowN (yy >>> ((nI 4) &&& 31)) 6))) (u_20.1, u_20.2.1, nI 0)) (va_recv (ws := cT G X (zS Z (gAsk Z.1 (lowN yy 6) (lowN (yy >>> ((nI 4) &&& 31)) 6))) (u_20.1, u_20.2.1, nI 0)) hK hP (ci := 5) (q0 := 0) rfl rfl) hK hN hP) rfl rfl hl.1 rfl (lv_room (Nat.le_of_ble_eq_true rfl)) dL_change_505 ⟨Nat.le_of_ble_eq_true rfl, Nat.le_of_ble_eq_true rfl⟩) ?_
          refine lv_icmp_ne (tgt := 568) hx hb dL_change_508 (by decide) (fun c_508 => ?_) (fun c_508 => ?_)
          · exact (c_508 (if_neg hrf)).elim
          · refine lv_aload_n hx hb dL_change_511 rfl (lv_at hl 8 rfl) ?_
            refine lv_iload hx hb dL_change_512 (lv_at hl 6 rfl) ?_
            refine lv_iload hx hb dL_change_514 (lv_at hl 5 rfl) ?_
            refine lv_iconst (v := nI 3) hx hb dL_change_516 (by decide) ?_
            refine rd_go (va_runV (As := [.int (nI (lowN yy 6)), .int (nI (lowN (yy >>> ((nI 4) &&& 31)) 6)), .int (nI 3)]) (rest := []) ⟨hx, hb, hml, hown, hts⟩ (k_bt3 l G X (zS Z (gAsk Z.1 (lowN yy 6) (lowN (yy >>> ((nI 4) &&& 31)) 6))) (u_20.1, u_20.2.1, nI 0) hZ9 hz9 (lowN yy 6) (lowN (yy >>> ((nI 4) &&& 31)) 6) (by omega) (by omega)) (cwV 3 hts gL_change_X6_between rfl rfl rfl (by decide +kernel) ⟨Nat.le_of_ble_eq_true rfl, Nat.le_of_ble_eq_true rfl⟩) (rV (ws := cT G X (zS Z (gAsk Z.1 (lowN yy 6) (lowN (yy >>> ((nI 4) &&& 31)) 6))) (u_20.1, u_20.2.1, nI 0)) (va_recv (ws := cT G X (zS Z (gAsk Z.1 (lowN yy 6) (lowN (yy >>> ((nI 4) &&& 31)) 6))) (u_20.1, u_20.2.1, nI 0)) hK hP (ci := 5) (q0 := 0) rfl rfl) hK hN hP) rfl rfl hl.1 rfl (lv_room (Nat.le_of_ble_eq_true rfl)) dL_change_517 ⟨Nat.le_of_ble_eq_true rfl, Nat.le_of_ble_eq_true rfl⟩) ?_
            refine lv_iload hx hb dL_change_520 (lv_at hl 0 rfl) ?_
            refine lv_icmp_ne (tgt := 568) hx hb dL_change_522 (by decide) (fun c_522 => ?_) (fun c_522 => ?_)
            · exact (c_522 ((ask_kept hZ (by omega) (by omega) hrf).trans (if_neg hrf).symm)).elim
            · refine lv_aload_n hx hb dL_change_525 rfl (lv_at hl 8 rfl) ?_
              refine lv_iload hx hb dL_change_526 (lv_at hl 5 rfl) ?_
              refine lv_iload hx hb dL_change_528 (lv_at hl 6 rfl) ?_
              refine lv_iconst (v := nI 3) hx hb dL_change_530 (by decide) ?_
              refine rd_go (va_runV (As := [.int (nI (lowN (yy >>> ((nI 4) &&& 31)) 6)), .int (nI (lowN yy 6)), .int (nI 3)]) (rest := []) ⟨hx, hb, hml, hown, hts⟩ (k_bt3 l G X (zS Z (gAsk Z.1 (lowN yy 6) (lowN (yy >>> ((nI 4) &&& 31)) 6))) (u_20.1, u_20.2.1, nI 0) hZ9 hz9 (lowN (yy >>> ((nI 4) &&& 31)) 6) (lowN yy 6) (by omega) (by omega)) (cwV 3 hts gL_change_X6_between rfl rfl rfl (by decide +kernel) ⟨Nat.le_of_ble_eq_true rfl, Nat.le_of_ble_eq_true rfl⟩) (rV (ws := cT G X (zS Z (gAsk Z.1 (lowN yy 6) (lowN (yy >>> ((nI 4) &&& 31)) 6))) (u_20.1, u_20.2.1, nI 0)) (va_recv (ws := cT G X (zS Z (gAsk Z.1 (lowN yy 6) (lowN (yy >>> ((nI 4) &&& 31)) 6))) (u_20.1, u_20.2.1, nI 0)) hK hP (ci := 5) (q0 := 0) rfl rfl) hK hN hP) rfl rfl hl.1 rfl (lv_room (Nat.le_of_ble_eq_true rfl)) dL_change_531 ⟨Nat.le_of_ble_eq_true rfl, Nat.le_of_ble_eq_true rfl⟩) ?_
              refine lv_iload hx hb dL_change_534 (lv_at hl 0 rfl) ?_
              refine lv_icmp_ne (tgt := 568) hx hb dL_change_536 (by decide) (fun c_536 => ?_) (fun c_536 => ?_)
              · exact (c_536 ((kp_cm hZ9 (by omega) (by omega)).trans ((ask_kept hZ (by omega) (by omega) hrf).trans (if_neg hrf).symm))).elim
              · refine lv_aload_n hx hb dL_change_539 rfl (lv_at hl 8 rfl) ?_
                refine lv_iconst (v := nI 3) hx hb dL_change_540 (by decide) ?_
                refine wr_woi (mid := cT G X (zS Z (gAsk Z.1 (lowN yy 6) (lowN (yy >>> ((nI 4) &&& 31)) 6))) (u_20.1, u_20.2.1, nI 0)) (va_runV (As := [.int (nI 3)]) (rest := []) ⟨hx, hb, hml, hown, hts⟩ (k_co3 l G _ X (zS Z (gAsk Z.1 (lowN yy 6) (lowN (yy >>> ((nI 4) &&& 31)) 6))) (u_20.1, u_20.2.1, nI 0) hZ9 hz9 hc9) (cwV 1 hts gL_change_X6_count rfl rfl rfl (by decide +kernel) ⟨Nat.le_of_ble_eq_true rfl, Nat.le_of_ble_eq_true rfl⟩) (wVw (mid := cT G X (zS Z (gAsk Z.1 (lowN yy 6) (lowN (yy >>> ((nI 4) &&& 31)) 6))) (u_20.1, u_20.2.1, nI 0)) (va_recv (ws := cT G X (zS Z (gAsk Z.1 (lowN yy 6) (lowN (yy >>> ((nI 4) &&& 31)) 6))) (u_20.1, u_20.2.1, nI 0)) hK hP (ci := 5) (q0 := 0) rfl rfl) hK hN hP hD) rfl rfl hl.1 rfl (lv_room (Nat.le_of_ble_eq_true rfl)) dL_change_541 ⟨Nat.le_of_ble_eq_true rfl, Nat.le_of_ble_eq_true rfl⟩) hP hD hS hA (fun r u_24 H locs hw hP9 hD9 hS => ?_)
                obtain ⟨rfl, hvu_24⟩ := hw
                have hP : PP G (cT G X (zS Z (gAsk Z.1 (lowN yy 6) (lowN (yy >>> ((nI 4) &&& 31)) 6))) u_24) _ := hP9
                have hD : va_D Ar (cT G X (zS Z (gAsk Z.1 (lowN yy 6) (lowN (yy >>> ((nI 4) &&& 31)) 6))) u_24) := hD9
                refine lv_iload hx hb dL_change_544 (lv_at hl 3 rfl) ?_
                refine lv_iconst (v := nI 1) hx hb dL_change_546 (by decide) ?_
                refine lv_iadd hx hb dL_change_547 ?_
                refine lv_icmp_ne (tgt := 568) hx hb dL_change_548 (by decide) (fun c_548 => ?_) (fun c_548 => ?_)
                · exact (c_548 ((if_neg hrf).trans (by rw [hZ.1]; exact (nI_p1 _).symm))).elim
                · refine lv_aload_n hx hb dL_change_551 rfl (lv_at hl 8 rfl) ?_
                  refine lv_bipush (v := nI 6) hx hb dL_change_552 (by decide) ?_
                  refine wr_woi (mid := cT G X (zS Z (gAsk Z.1 (lowN yy 6) (lowN (yy >>> ((nI 4) &&& 31)) 6))) u_24) (va_runV (As := [.int (nI 6)]) (rest := []) ⟨hx, hb, hml, hown, hts⟩ (k_co6 l G _ X (zS Z (gAsk Z.1 (lowN yy 6) (lowN (yy >>> ((nI 4) &&& 31)) 6))) u_24 hZ9 hz9 hvu_24) (cwV 1 hts gL_change_X6_count rfl rfl rfl (by decide +kernel) ⟨Nat.le_of_ble_eq_true rfl, Nat.le_of_ble_eq_true rfl⟩) (wVw (mid := cT G X (zS Z (gAsk Z.1 (lowN yy 6) (lowN (yy >>> ((nI 4) &&& 31)) 6))) u_24) (va_recv (ws := cT G X (zS Z (gAsk Z.1 (lowN yy 6) (lowN (yy >>> ((nI 4) &&& 31)) 6))) u_24) hK hP (ci := 5) (q0 := 0) rfl rfl) hK hN hP hD) rfl rfl hl.1 rfl (lv_room (Nat.le_of_ble_eq_true rfl)) dL_change_554 ⟨Nat.le_of_ble_eq_true rfl, Nat.le_of_ble_eq_true rfl⟩) hP hD hS hA (fun r u_25 H locs hw hP9 hD9 hS => ?_)
                  obtain ⟨rfl, hvu_25⟩ := hw
                  have hP : PP G (cT G X (zS Z (gAsk Z.1 (lowN yy 6) (lowN (yy >>> ((nI 4) &&& 31)) 6))) u_25) _ := hP9
                  have hD : va_D Ar (cT G X (zS Z (gAsk Z.1 (lowN yy 6) (lowN (yy >>> ((nI 4) &&& 31)) 6))) u_25) := hD9
                  refine lv_iload hx hb dL_change_557 (lv_at hl 1 rfl) ?_
                  refine lv_iconst (v := nI 1) hx hb dL_change_559 (by decide) ?_
                  refine lv_iadd hx hb dL_change_560 ?_
                  refine lv_icmp_ne (tgt := 568) hx hb dL_change_561 (by decide) (fun c_561 => ?_) (fun c_561 => ?_)
                  · exact (c_561 (if_neg hrf)).elim
                  · refine lv_iconst (v := nI 1) hx hb dL_change_564 (by decide) ?_
                    refine lv_goto (tgt := 569) hx hb dL_change_565 (by decide) ?_
                    exact wr_zret (G := G) (S := ZZ × CU) (zS Z (gAsk Z.1 (lowN yy 6) (lowN (yy >>> ((nI 4) &&& 31)) 6)), u_25) hx hb hr hlocks (by first | decide | exact b2_nar _) hP hD hS (Nat.le_of_ble_eq_true rfl) (Nat.le_of_ble_eq_true rfl) (by exact ⟨rfl, hZ9, hz9, rfl, hvu_25⟩) dL_change_569
        · have hrf : refdC (Z.1 3) (Z.1 4) (Z.1 5) (zN Z.1) (nI (cl (Z.1 2 (lowN yy 6)))) (nI (cl (Z.1 2 (lowN (yy >>> (nI 4 &&& 31)) 6)))) := Or.inl (by have h3 := okg_n hZ; have h2 := nIe (hZ.1.symm.trans c_448) (by omega) (by omega); omega)
          refine lv_iload hx hb dL_change_451 (lv_at hl 0 rfl) ?_
          refine lv_iconst (v := (-1)) hx hb dL_change_453 (by decide) ?_
          refine lv_icmp_ne (tgt := 495) hx hb dL_change_454 (by decide) (fun c_454 => ?_) (fun c_454 => ?_)
          · exact (c_454 (if_pos hrf)).elim
          · refine lv_aload_n hx hb dL_change_457 rfl (lv_at hl 8 rfl) ?_
            refine lv_bipush (v := nI 9) hx hb dL_change_458 (by decide) ?_
            refine wr_woi (mid := cT G X (zS Z (gAsk Z.1 (lowN yy 6) (lowN (yy >>> ((nI 4) &&& 31)) 6))) (u_20.1, u_20.2.1, nI 0)) (va_runV (As := [.int (nI 9)]) (rest := []) ⟨hx, hb, hml, hown, hts⟩ (k_co9 l G _ X (zS Z (gAsk Z.1 (lowN yy 6) (lowN (yy >>> ((nI 4) &&& 31)) 6))) (u_20.1, u_20.2.1, nI 0) hZ9 hz9 hc9) (cwV 1 hts gL_change_X6_count rfl rfl rfl (by decide +kernel) ⟨Nat.le_of_ble_eq_true rfl, Nat.le_of_ble_eq_true rfl⟩) (wVw (mid := cT G X (zS Z (gAsk Z.1 (lowN yy 6) (lowN (yy >>> ((nI 4) &&& 31)) 6))) (u_20.1, u_20.2.1, nI 0)) (va_recv (ws := cT G X (zS Z (gAsk Z.1 (lowN yy 6) (lowN (yy >>> ((nI 4) &&& 31)) 6))) (u_20.1, u_20.2.1, nI 0)) hK hP (ci := 5) (q0 := 0) rfl rfl) hK hN hP hD) rfl rfl hl.1 rfl (lv_room (Nat.le_of_ble_eq_true rfl)) dL_change_460 ⟨Nat.le_of_ble_eq_true rfl, Nat.le_of_ble_eq_true rfl⟩) hP hD hS hA (fun r u_26 H locs hw hP9 hD9 hS => ?_)
            obtain ⟨rfl, hvu_26⟩ := hw
            have hP : PP G (cT G X (zS Z (gAsk Z.1 (lowN yy 6) (lowN (yy >>> ((nI 4) &&& 31)) 6))) u_26) _ := hP9
            have hD : va_D Ar (cT G X (zS Z (gAsk Z.1 (lowN yy 6) (lowN (yy >>> ((nI 4) &&& 31)) 6))) u_26) := hD9
            refine lv_iload hx hb dL_change_463 (lv_at hl 4 rfl) ?_
            refine lv_iconst (v := nI 1) hx hb dL_change_465 (by decide) ?_
            refine lv_iadd hx hb dL_change_466 ?_
            refine lv_icmp_ne (tgt := 495) hx hb dL_change_467 (by decide) (fun c_467 => ?_) (fun c_467 => ?_)
            · exact (c_467 (if_pos hrf)).elim
            · refine lv_aload_n hx hb dL_change_470 rfl (lv_at hl 8 rfl) ?_
              refine lv_iconst (v := nI 3) hx hb dL_change_471 (by decide) ?_
              refine wr_woi (mid := cT G X (zS Z (gAsk Z.1 (lowN yy 6) (lowN (yy >>> ((nI 4) &&& 31)) 6))) u_26) (va_runV (As := [.int (nI 3)]) (rest := []) ⟨hx, hb, hml, hown, hts⟩ (k_co3 l G _ X (zS Z (gAsk Z.1 (lowN yy 6) (lowN (yy >>> ((nI 4) &&& 31)) 6))) u_26 hZ9 hz9 hvu_26) (cwV 1 hts gL_change_X6_count rfl rfl rfl (by decide +kernel) ⟨Nat.le_of_ble_eq_true rfl, Nat.le_of_ble_eq_true rfl⟩) (wVw (mid := cT G X (zS Z (gAsk Z.1 (lowN yy 6) (lowN (yy >>> ((nI 4) &&& 31)) 6))) u_26) (va_recv (ws := cT G X (zS Z (gAsk Z.1 (lowN yy 6) (lowN (yy >>> ((nI 4) &&& 31)) 6))) u_26) hK hP (ci := 5) (q0 := 0) rfl rfl) hK hN hP hD) rfl rfl hl.1 rfl (lv_room (Nat.le_of_ble_eq_true rfl)) dL_change_472 ⟨Nat.le_of_ble_eq_true rfl, Nat.le_of_ble_eq_true rfl⟩) hP hD hS hA (fun r u_27 H locs hw hP9 hD9 hS => ?_)
              obtain ⟨rfl, hvu_27⟩ := hw
              have hP : PP G (cT G X (zS Z (gAsk Z.1 (lowN yy 6) (lowN (yy >>> ((nI 4) &&& 31)) 6))) u_27) _ := hP9
              have hD : va_D Ar (cT G X (zS Z (gAsk Z.1 (lowN yy 6) (lowN (yy >>> ((nI 4) &&& 31)) 6))) u_27) := hD9
              refine lv_iload hx hb dL_change_475 (lv_at hl 3 rfl) ?_
              refine lv_icmp_ne (tgt := 495) hx hb dL_change_477 (by decide) (fun c_477 => ?_) (fun c_477 => ?_)
              · exact (c_477 (if_pos hrf)).elim
              · refine lv_aload_n hx hb dL_change_480 rfl (lv_at hl 8 rfl) ?_
                refine lv_bipush (v := nI 6) hx hb dL_change_481 (by decide) ?_
                refine wr_woi (mid := cT G X (zS Z (gAsk Z.1 (lowN yy 6) (lowN (yy >>> ((nI 4) &&& 31)) 6))) u_27) (va_runV (As := [.int (nI 6)]) (rest := []) ⟨hx, hb, hml, hown, hts⟩ (k_co6 l G _ X (zS Z (gAsk Z.1 (lowN yy 6) (lowN (yy >>> ((nI 4) &&& 31)) 6))) u_27 hZ9 hz9 hvu_27) (cwV 1 hts gL_change_X6_count rfl rfl rfl (by decide +kernel) ⟨Nat.le_of_ble_eq_true rfl, Nat.le_of_ble_eq_true rfl⟩) (wVw (mid := cT G X (zS Z (gAsk Z.1 (lowN yy 6) (lowN (yy >>> ((nI 4) &&& 31)) 6))) u_27) (va_recv (ws := cT G X (zS Z (gAsk Z.1 (lowN yy 6) (lowN (yy >>> ((nI 4) &&& 31)) 6))) u_27) hK hP (ci := 5) (q0 := 0) rfl rfl) hK hN hP hD) rfl rfl hl.1 rfl (lv_room (Nat.le_of_ble_eq_true rfl)) dL_change_483 ⟨Nat.le_of_ble_eq_true rfl, Nat.le_of_ble_eq_true rfl⟩) hP hD hS hA (fun r u_28 H locs hw hP9 hD9 hS => ?_)
                obtain ⟨rfl, hvu_28⟩ := hw
                have hP : PP G (cT G X (zS Z (gAsk Z.1 (lowN yy 6) (lowN (yy >>> ((nI 4) &&& 31)) 6))) u_28) _ := hP9
                have hD : va_D Ar (cT G X (zS Z (gAsk Z.1 (lowN yy 6) (lowN (yy >>> ((nI 4) &&& 31)) 6))) u_28) := hD9
                refine lv_iload hx hb dL_change_486 (lv_at hl 1 rfl) ?_
                refine lv_icmp_ne (tgt := 495) hx hb dL_change_488 (by decide) (fun c_488 => ?_) (fun c_488 => ?_)
                · exact (c_488 (if_pos hrf)).elim
                · refine lv_iconst (v := nI 1) hx hb dL_change_491 (by decide) ?_
                  refine lv_goto (tgt := 496) hx hb dL_change_492 (by decide) ?_
                  exact wr_zret (G := G) (S := ZZ × CU) (zS Z (gAsk Z.1 (lowN yy 6) (lowN (yy >>> ((nI 4) &&& 31)) 6)), u_28) hx hb hr hlocks (by first | decide | exact b2_nar _) hP hD hS (Nat.le_of_ble_eq_true rfl) (Nat.le_of_ble_eq_true rfl) (by exact ⟨rfl, hZ9, hz9, rfl, hvu_28⟩) dL_change_496
    · refine lv_iconst (v := nI 1) hx hb dL_change_407 (by decide) ?_
      exact wr_zret (G := G) (S := ZZ × CU) (Z, u_2) hx hb hr hlocks (by first | decide | exact b2_nar _) hP hD hS (Nat.le_of_ble_eq_true rfl) (Nat.le_of_ble_eq_true rfl) (by exact ⟨rfl, ok_mono (by omega) hZ, hz, rfl, hvu_2⟩) dL_change_408
  have T570 : W pG l eG (RM 16 0 0) s mG ([.ref X.1, .int xx, .int yy] : List Value).toArray below meth cG H locs 0 0 (MQ below (wQi G (S := ZZ × CU) (fun r v9 => r = nI 1 ∧ OKg (B + 1) v9.1.1 ∧ v9.1.2.2.2.1 ≤ 6 ∧ v9.1.2.2.2.2.1 = Z.2.2.2.2.1 ∧ CV v9.1.1 v9.2) (fun v9 => cT G X v9.1 v9.2) Ar) ([.ref X.1, .int xx, .int yy] : List Value).toArray s 0 0 Ar) (F0 mG 570 ls []) := by
    obtain ⟨a0, ha0, ea0⟩ := okg_a hZ
    refine lv_iload_n hx hb dL_change_570 rfl (lv_at hl 8 rfl) ?_
    refine lv_iconst (v := nI 3) hx hb dL_change_571 (by decide) ?_
    refine lv_iand hx hb dL_change_572 ?_
    refine lv_if_ne (tgt := 583) hx hb dL_change_573 (by decide) (fun c_573 => ?_) (fun c_573 => ?_)
    · refine lv_iload_n hx hb dL_change_583 rfl (lv_at hl 8 rfl) ?_
      refine lv_iconst (v := nI 2) hx hb dL_change_584 (by decide) ?_
      refine lv_ishr hx hb dL_change_585 ?_
      refine lv_sipush (v := nI 512) hx hb dL_change_586 (by decide +kernel) ?_
      refine rd_go (va_runS (As := [.int (yy >>> ((nI 2) &&& 31)), .int (nI 512)]) (rest := []) ⟨hx, hb, hml, hown, hts⟩ (c_L_low l G (yy >>> ((nI 2) &&& 31)) 512 (by omega) (by omega)) (va_cwS 2 hts gL_change_L_low rfl rfl rfl (by decide +kernel) ⟨Nat.le_of_ble_eq_true rfl, Nat.le_of_ble_eq_true rfl⟩) (rS (ws := []) hK hN P_nil) rfl rfl hl.1 rfl (lv_room (Nat.le_of_ble_eq_true rfl)) dL_change_589 ⟨Nat.le_of_ble_eq_true rfl, Nat.le_of_ble_eq_true rfl⟩) ?_
      refine lv_istore (lv' := [(15, .int (nI (lowN (yy >>> ((nI 2) &&& 31)) 512))), (8, .int (nI 0)), (7, .int (Z.1 0 6)), (6, .int (Z.1 0 5)), (5, .int (nI (lowN (yy >>> ((nI 4) &&& 31)) 6))), (4, .int (nI (lowN yy 6))), (3, .int (nI (lowN yy 9))), (0, .ref X.1), (1, .int xx), (2, .int yy)]) hx hb dL_change_592 hl (by decide) rfl (fun ls hl => ?_)
      refine lv_aload_n hx hb dL_change_594 rfl (lv_at hl 7 rfl) ?_
      refine lv_bipush (v := nI 8) hx hb dL_change_595 (by decide) ?_
      refine wr_woi (mid := cT G X Z u_2) (va_runV (As := [.int (nI 8)]) (rest := []) ⟨hx, hb, hml, hown, hts⟩ (k_co8 l G _ X Z u_2 hZ hz hvu_2) (cwV 1 hts gL_change_X6_count rfl rfl rfl (by decide +kernel) ⟨Nat.le_of_ble_eq_true rfl, Nat.le_of_ble_eq_true rfl⟩) (wVw (mid := cT G X Z u_2) (va_recv (ws := cT G X Z u_2) hK hP (ci := 5) (q0 := 0) rfl rfl) hK hN hP hD) rfl rfl hl.1 rfl (lv_room (Nat.le_of_ble_eq_true rfl)) dL_change_597 ⟨Nat.le_of_ble_eq_true rfl, Nat.le_of_ble_eq_true rfl⟩) hP hD hS hA (fun r u_29 H locs hw hP9 hD9 hS => ?_)
      obtain ⟨rfl, hvu_29⟩ := hw
      have hP : PP G (cT G X Z u_29) _ := hP9
      have hD : va_D Ar (cT G X Z u_29) := hD9
      refine lv_istore (lv' := [(16, .int (Z.1 0 4)), (15, .int (nI (lowN (yy >>> ((nI 2) &&& 31)) 512))), (8, .int (nI 0)), (7, .int (Z.1 0 6)), (6, .int (Z.1 0 5)), (5, .int (nI (lowN (yy >>> ((nI 4) &&& 31)) 6))), (4, .int (nI (lowN yy 6))), (3, .int (nI (lowN yy 9))), (0, .ref X.1), (1, .int xx), (2, .int yy)]) hx hb dL_change_600 hl (by decide) rfl (fun ls hl => ?_)
      refine lv_aload_n hx hb dL_change_602 rfl (lv_at hl 8 rfl) ?_
      refine lv_bipush (v := nI 7) hx hb dL_change_603 (by decide) ?_
      refine wr_woi (mid := cT G X Z u_29) (va_runV (As := [.int (nI 7)]) (rest := []) ⟨hx, hb, hml, hown, hts⟩ (k_co7 l G _ X Z u_29 hZ hz hvu_29) (cwV 1 hts gL_change_X6_count rfl rfl rfl (by decide +kernel) ⟨Nat.le_of_ble_eq_true rfl, Nat.le_of_ble_eq_true rfl⟩) (wVw (mid := cT G X Z u_29) (va_recv (ws := cT G X Z u_29) hK hP (ci := 5) (q0 := 0) rfl rfl) hK hN hP hD) rfl rfl hl.1 rfl (lv_room (Nat.le_of_ble_eq_true rfl)) dL_change_605 ⟨Nat.le_of_ble_eq_true rfl, Nat.le_of_ble_eq_true rfl⟩) hP hD hS hA (fun r u_30 H locs hw hP9 hD9 hS => ?_)
      obtain ⟨rfl, hvu_30⟩ := hw
      have hP : PP G (cT G X Z u_30) _ := hP9
      have hD : va_D Ar (cT G X Z u_30) := hD9
      refine lv_istore (lv' := [(17, .int (Z.1 0 3)), (16, .int (Z.1 0 4)), (15, .int (nI (lowN (yy >>> ((nI 2) &&& 31)) 512))), (8, .int (nI 0)), (7, .int (Z.1 0 6)), (6, .int (Z.1 0 5)), (5, .int (nI (lowN (yy >>> ((nI 4) &&& 31)) 6))), (4, .int (nI (lowN yy 6))), (3, .int (nI (lowN yy 9))), (0, .ref X.1), (1, .int xx), (2, .int yy)]) hx hb dL_change_608 hl (by decide) rfl (fun ls hl => ?_)
      refine lv_iload hx hb dL_change_610 (lv_at hl 2 rfl) ?_
      refine lv_aload_n hx hb dL_change_612 rfl (lv_at hl 9 rfl) ?_
      refine wr_woi (mid := cT G X Z u_30) (va_runS (As := [.ref X.1]) (rest := [.int (nI (lowN (yy >>> ((nI 2) &&& 31)) 512))]) ⟨hx, hb, hml, hown, hts⟩ (k_folded l G _ X Z u_30 hZ hz hvu_30) (va_cwS 1 hts gL_change_L_folded rfl rfl rfl (by decide +kernel) ⟨Nat.le_of_ble_eq_true rfl, Nat.le_of_ble_eq_true rfl⟩) (wSw (mid := cT G X Z u_30) hK hN hP hD) rfl rfl hl.1 rfl (lv_room (Nat.le_of_ble_eq_true rfl)) dL_change_613 ⟨Nat.le_of_ble_eq_true rfl, Nat.le_of_ble_eq_true rfl⟩) hP hD hS hA (fun r u_31 H locs hw hP9 hD9 hS => ?_)
      obtain ⟨rfl, hvu_31⟩ := hw
      have hP : PP G (cT G X Z u_31) _ := hP9
      have hD : va_D Ar (cT G X Z u_31) := hD9
      refine lv_ixor hx hb dL_change_616 ?_
      refine rd_go (va_runS (As := [.int ((nI (lowN (yy >>> ((nI 2) &&& 31)) 512)) ^^^ (Z.1 0 0))]) (rest := []) ⟨hx, hb, hml, hown, hts⟩ (c_L_bits l G ((nI (lowN (yy >>> ((nI 2) &&& 31)) 512)) ^^^ (Z.1 0 0))) (va_cwS 1 hts gL_change_L_bits rfl rfl rfl (by decide +kernel) ⟨Nat.le_of_ble_eq_true rfl, Nat.le_of_ble_eq_true rfl⟩) (rS (ws := []) hK hN P_nil) rfl rfl hl.1 rfl (lv_room (Nat.le_of_ble_eq_true rfl)) dL_change_617 ⟨Nat.le_of_ble_eq_true rfl, Nat.le_of_ble_eq_true rfl⟩) ?_
      refine lv_istore (lv' := [(18, .int (bitsL ((nI (lowN (yy >>> ((nI 2) &&& 31)) 512)) ^^^ (Z.1 0 0)))), (17, .int (Z.1 0 3)), (16, .int (Z.1 0 4)), (15, .int (nI (lowN (yy >>> ((nI 2) &&& 31)) 512))), (8, .int (nI 0)), (7, .int (Z.1 0 6)), (6, .int (Z.1 0 5)), (5, .int (nI (lowN (yy >>> ((nI 4) &&& 31)) 6))), (4, .int (nI (lowN yy 6))), (3, .int (nI (lowN yy 9))), (0, .ref X.1), (1, .int xx), (2, .int yy)]) hx hb dL_change_620 hl (by decide) rfl (fun ls hl => ?_)
      refine lv_aload_n hx hb dL_change_622 rfl (lv_at hl 10 rfl) ?_
      refine lv_iload hx hb dL_change_623 (lv_at hl 3 rfl) ?_
      refine wr_woi (mid := cT G X Z u_31) (va_runV (As := [.int (nI (lowN (yy >>> ((nI 2) &&& 31)) 512))]) (rest := []) ⟨hx, hb, hml, hown, hts⟩ (k_guess l G _ X Z u_31 hZ hz (lowN (yy >>> ((nI 2) &&& 31)) 512) (by omega)) (cwV 1 hts gL_change_X6_guess rfl rfl rfl (by decide +kernel) ⟨Nat.le_of_ble_eq_true rfl, Nat.le_of_ble_eq_true rfl⟩) (wVw (mid := cT G X Z u_31) (va_recv (ws := cT G X Z u_31) hK hP (ci := 5) (q0 := 0) rfl rfl) hK hN hP hD) rfl rfl hl.1 rfl (lv_room (Nat.le_of_ble_eq_true rfl)) dL_change_625 ⟨Nat.le_of_ble_eq_true rfl, Nat.le_of_ble_eq_true rfl⟩) hP hD hS hA (fun r u9 H locs hw hP9 hD9 hS => ?_)
      subst hw
      have hP : PP G (cT G X (zS Z (gGues Z.1 (lowN (yy >>> ((nI 2) &&& 31)) 512))) (u_31.1, u_31.2.1, nI 0)) _ := hP9
      have hD : va_D Ar (cT G X (zS Z (gGues Z.1 (lowN (yy >>> ((nI 2) &&& 31)) 512))) (u_31.1, u_31.2.1, nI 0)) := hD9
      have hZ9 : OKg (B + 1) (zS Z (gGues Z.1 (lowN (yy >>> ((nI 2) &&& 31)) 512))).1 := ok_gues hZ (by omega)
      have hz9 : (zS Z (gGues Z.1 (lowN (yy >>> ((nI 2) &&& 31)) 512))).2.2.2.1 ≤ 6 := svm_le hz
      have hc9 : CV (zS Z (gGues Z.1 (lowN (yy >>> ((nI 2) &&& 31)) 512))).1 (u_31.1, u_31.2.1, nI 0) := Or.inl rfl
      refine lv_iload hx hb dL_change_628 (lv_at hl 0 rfl) ?_
      refine lv_if_ne (tgt := 638) hx hb dL_change_630 (by decide) (fun c_630 => ?_) (fun c_630 => ?_)
      · have hqe : ¬ nI (lowN (yy >>> ((nI 2) &&& 31)) 512) = Z.1 0 0 := by have h := c_630; rw [ea0] at h; exact fun h2 => h ((bits0 (by omega) ha0).mpr (h2.trans ea0))
        refine lv_bipush (v := nI 9) hx hb dL_change_638 (by decide) ?_
        refine lv_iload hx hb dL_change_640 (lv_at hl 0 rfl) ?_
        refine lv_isub hx hb dL_change_642 ?_
        refine lv_icmp_ne (tgt := 695) hx hb dL_change_643 (by decide) (fun c_643 => ?_) (fun c_643 => ?_)
        · exact (c_643 ((if_neg hqe).trans (by rw [ea0, bits_x (by omega) ha0]))).elim
        · refine lv_aload_n hx hb dL_change_646 rfl (lv_at hl 10 rfl) ?_
          refine lv_bipush (v := nI 7) hx hb dL_change_647 (by decide) ?_
          refine wr_woi (mid := cT G X (zS Z (gGues Z.1 (lowN (yy >>> ((nI 2) &&& 31)) 512))) (u_31.1, u_31.2.1, nI 0)) (va_runV (As := [.int (nI 7)]) (rest := []) ⟨hx, hb, hml, hown, hts⟩ (k_co7 l G _ X (zS Z (gGues Z.1 (lowN (yy >>> ((nI 2) &&& 31)) 512))) (u_31.1, u_31.2.1, nI 0) hZ9 hz9 hc9) (cwV 1 hts gL_change_X6_count rfl rfl rfl (by decide +kernel) ⟨Nat.le_of_ble_eq_true rfl, Nat.le_of_ble_eq_true rfl⟩) (wVw (mid := cT G X (zS Z (gGues Z.1 (lowN (yy >>> ((nI 2) &&& 31)) 512))) (u_31.1, u_31.2.1, nI 0)) (va_recv (ws := cT G X (zS Z (gGues Z.1 (lowN (yy >>> ((nI 2) &&& 31)) 512))) (u_31.1, u_31.2.1, nI 0)) hK hP (ci := 5) (q0 := 0) rfl rfl) hK hN hP hD) rfl rfl hl.1 rfl (lv_room (Nat.le_of_ble_eq_true rfl)) dL_change_649 ⟨Nat.le_of_ble_eq_true rfl, Nat.le_of_ble_eq_true rfl⟩) hP hD hS hA (fun r u_32 H locs hw hP9 hD9 hS => ?_)
          obtain ⟨rfl, hvu_32⟩ := hw
          have hP : PP G (cT G X (zS Z (gGues Z.1 (lowN (yy >>> ((nI 2) &&& 31)) 512))) u_32) _ := hP9
          have hD : va_D Ar (cT G X (zS Z (gGues Z.1 (lowN (yy >>> ((nI 2) &&& 31)) 512))) u_32) := hD9
          refine lv_iload hx hb dL_change_652 (lv_at hl 1 rfl) ?_
          refine lv_iconst (v := nI 1) hx hb dL_change_654 (by decide) ?_
          refine lv_iadd hx hb dL_change_655 ?_
          refine lv_icmp_ne (tgt := 695) hx hb dL_change_656 (by decide) (fun c_656 => ?_) (fun c_656 => ?_)
          · exact (c_656 rfl).elim
          · refine lv_aload_n hx hb dL_change_659 rfl (lv_at hl 10 rfl) ?_
            refine lv_bipush (v := nI 8) hx hb dL_change_660 (by decide) ?_
            refine wr_woi (mid := cT G X (zS Z (gGues Z.1 (lowN (yy >>> ((nI 2) &&& 31)) 512))) u_32) (va_runV (As := [.int (nI 8)]) (rest := []) ⟨hx, hb, hml, hown, hts⟩ (k_co8 l G _ X (zS Z (gGues Z.1 (lowN (yy >>> ((nI 2) &&& 31)) 512))) u_32 hZ9 hz9 hvu_32) (cwV 1 hts gL_change_X6_count rfl rfl rfl (by decide +kernel) ⟨Nat.le_of_ble_eq_true rfl, Nat.le_of_ble_eq_true rfl⟩) (wVw (mid := cT G X (zS Z (gGues Z.1 (lowN (yy >>> ((nI 2) &&& 31)) 512))) u_32) (va_recv (ws := cT G X (zS Z (gGues Z.1 (lowN (yy >>> ((nI 2) &&& 31)) 512))) u_32) hK hP (ci := 5) (q0 := 0) rfl rfl) hK hN hP hD) rfl rfl hl.1 rfl (lv_room (Nat.le_of_ble_eq_true rfl)) dL_change_662 ⟨Nat.le_of_ble_eq_true rfl, Nat.le_of_ble_eq_true rfl⟩) hP hD hS hA (fun r u_33 H locs hw hP9 hD9 hS => ?_)
            obtain ⟨rfl, hvu_33⟩ := hw
            have hP : PP G (cT G X (zS Z (gGues Z.1 (lowN (yy >>> ((nI 2) &&& 31)) 512))) u_33) _ := hP9
            have hD : va_D Ar (cT G X (zS Z (gGues Z.1 (lowN (yy >>> ((nI 2) &&& 31)) 512))) u_33) := hD9
            refine lv_iload hx hb dL_change_665 (lv_at hl 2 rfl) ?_
            refine lv_iload hx hb dL_change_667 (lv_at hl 0 rfl) ?_
            refine lv_if_ne (tgt := 676) hx hb dL_change_669 (by decide) (fun c_669 => ?_) (fun c_669 => ?_)
            · refine lv_iconst (v := nI 0) hx hb dL_change_676 (by decide) ?_
              refine lv_iadd hx hb dL_change_677 ?_
              refine lv_icmp_ne (tgt := 695) hx hb dL_change_678 (by decide) (fun c_678 => ?_) (fun c_678 => ?_)
              · exact (c_678 ((if_neg hqe).trans (addz _).symm)).elim
              · refine lv_aload_n hx hb dL_change_681 rfl (lv_at hl 10 rfl) ?_
                refine lv_iconst (v := nI 3) hx hb dL_change_682 (by decide) ?_
                refine wr_woi (mid := cT G X (zS Z (gGues Z.1 (lowN (yy >>> ((nI 2) &&& 31)) 512))) u_33) (va_runV (As := [.int (nI 3)]) (rest := []) ⟨hx, hb, hml, hown, hts⟩ (k_co3 l G _ X (zS Z (gGues Z.1 (lowN (yy >>> ((nI 2) &&& 31)) 512))) u_33 hZ9 hz9 hvu_33) (cwV 1 hts gL_change_X6_count rfl rfl rfl (by decide +kernel) ⟨Nat.le_of_ble_eq_true rfl, Nat.le_of_ble_eq_true rfl⟩) (wVw (mid := cT G X (zS Z (gGues Z.1 (lowN (yy >>> ((nI 2) &&& 31)) 512))) u_33) (va_recv (ws := cT G X (zS Z (gGues Z.1 (lowN (yy >>> ((nI 2) &&& 31)) 512))) u_33) hK hP (ci := 5) (q0 := 0) rfl rfl) hK hN hP hD) rfl rfl hl.1 rfl (lv_room (Nat.le_of_ble_eq_true rfl)) dL_change_683 ⟨Nat.le_of_ble_eq_true rfl, Nat.le_of_ble_eq_true rfl⟩) hP hD hS hA (fun r u_34 H locs hw hP9 hD9 hS => ?_)
                obtain ⟨rfl, hvu_34⟩ := hw
                have hP : PP G (cT G X (zS Z (gGues Z.1 (lowN (yy >>> ((nI 2) &&& 31)) 512))) u_34) _ := hP9
                have hD : va_D Ar (cT G X (zS Z (gGues Z.1 (lowN (yy >>> ((nI 2) &&& 31)) 512))) u_34) := hD9
                refine lv_iload hx hb dL_change_686 (lv_at hl 5 rfl) ?_
                refine lv_icmp_ne (tgt := 695) hx hb dL_change_688 (by decide) (fun c_688 => ?_) (fun c_688 => ?_)
                · exact (c_688 rfl).elim
                · refine lv_iconst (v := nI 1) hx hb dL_change_691 (by decide) ?_
                  refine lv_goto (tgt := 696) hx hb dL_change_692 (by decide) ?_
                  exact wr_zret (G := G) (S := ZZ × CU) (zS Z (gGues Z.1 (lowN (yy >>> ((nI 2) &&& 31)) 512)), u_34) hx hb hr hlocks (by first | decide | exact b2_nar _) hP hD hS (Nat.le_of_ble_eq_true rfl) (Nat.le_of_ble_eq_true rfl) (by exact ⟨rfl, hZ9, hz9, rfl, hvu_34⟩) dL_change_696
            · exact absurd c_669 c_630
      · have hqe : nI (lowN (yy >>> ((nI 2) &&& 31)) 512) = Z.1 0 0 := by have h := c_630; rw [ea0] at h; exact ((bits0 (by omega) ha0).mp h).trans ea0.symm
        refine lv_bipush (v := nI 10) hx hb dL_change_633 (by decide) ?_
        refine lv_goto (tgt := 643) hx hb dL_change_635 (by decide) ?_
        refine lv_icmp_ne (tgt := 695) hx hb dL_change_643 (by decide) (fun c_643 => ?_) (fun c_643 => ?_)
        · exact (c_643 (if_pos hqe)).elim
        · refine lv_aload_n hx hb dL_change_646 rfl (lv_at hl 10 rfl) ?_
          refine lv_bipush (v := nI 7) hx hb dL_change_647 (by decide) ?_
          refine wr_woi (mid := cT G X (zS Z (gGues Z.1 (lowN (yy >>> ((nI 2) &&& 31)) 512))) (u_31.1, u_31.2.1, nI 0)) (va_runV (As := [.int (nI 7)]) (rest := []) ⟨hx, hb, hml, hown, hts⟩ (k_co7 l G _ X (zS Z (gGues Z.1 (lowN (yy >>> ((nI 2) &&& 31)) 512))) (u_31.1, u_31.2.1, nI 0) hZ9 hz9 hc9) (cwV 1 hts gL_change_X6_count rfl rfl rfl (by decide +kernel) ⟨Nat.le_of_ble_eq_true rfl, Nat.le_of_ble_eq_true rfl⟩) (wVw (mid := cT G X (zS Z (gGues Z.1 (lowN (yy >>> ((nI 2) &&& 31)) 512))) (u_31.1, u_31.2.1, nI 0)) (va_recv (ws := cT G X (zS Z (gGues Z.1 (lowN (yy >>> ((nI 2) &&& 31)) 512))) (u_31.1, u_31.2.1, nI 0)) hK hP (ci := 5) (q0 := 0) rfl rfl) hK hN hP hD) rfl rfl hl.1 rfl (lv_room (Nat.le_of_ble_eq_true rfl)) dL_change_649 ⟨Nat.le_of_ble_eq_true rfl, Nat.le_of_ble_eq_true rfl⟩) hP hD hS hA (fun r u_35 H locs hw hP9 hD9 hS => ?_)
          obtain ⟨rfl, hvu_35⟩ := hw
          have hP : PP G (cT G X (zS Z (gGues Z.1 (lowN (yy >>> ((nI 2) &&& 31)) 512))) u_35) _ := hP9
          have hD : va_D Ar (cT G X (zS Z (gGues Z.1 (lowN (yy >>> ((nI 2) &&& 31)) 512))) u_35) := hD9
          refine lv_iload hx hb dL_change_652 (lv_at hl 1 rfl) ?_
          refine lv_iconst (v := nI 1) hx hb dL_change_654 (by decide) ?_
          refine lv_iadd hx hb dL_change_655 ?_
          refine lv_icmp_ne (tgt := 695) hx hb dL_change_656 (by decide) (fun c_656 => ?_) (fun c_656 => ?_)
          · exact (c_656 rfl).elim
          · refine lv_aload_n hx hb dL_change_659 rfl (lv_at hl 10 rfl) ?_
            refine lv_bipush (v := nI 8) hx hb dL_change_660 (by decide) ?_
            refine wr_woi (mid := cT G X (zS Z (gGues Z.1 (lowN (yy >>> ((nI 2) &&& 31)) 512))) u_35) (va_runV (As := [.int (nI 8)]) (rest := []) ⟨hx, hb, hml, hown, hts⟩ (k_co8 l G _ X (zS Z (gGues Z.1 (lowN (yy >>> ((nI 2) &&& 31)) 512))) u_35 hZ9 hz9 hvu_35) (cwV 1 hts gL_change_X6_count rfl rfl rfl (by decide +kernel) ⟨Nat.le_of_ble_eq_true rfl, Nat.le_of_ble_eq_true rfl⟩) (wVw (mid := cT G X (zS Z (gGues Z.1 (lowN (yy >>> ((nI 2) &&& 31)) 512))) u_35) (va_recv (ws := cT G X (zS Z (gGues Z.1 (lowN (yy >>> ((nI 2) &&& 31)) 512))) u_35) hK hP (ci := 5) (q0 := 0) rfl rfl) hK hN hP hD) rfl rfl hl.1 rfl (lv_room (Nat.le_of_ble_eq_true rfl)) dL_change_662 ⟨Nat.le_of_ble_eq_true rfl, Nat.le_of_ble_eq_true rfl⟩) hP hD hS hA (fun r u_36 H locs hw hP9 hD9 hS => ?_)
            obtain ⟨rfl, hvu_36⟩ := hw
            have hP : PP G (cT G X (zS Z (gGues Z.1 (lowN (yy >>> ((nI 2) &&& 31)) 512))) u_36) _ := hP9
            have hD : va_D Ar (cT G X (zS Z (gGues Z.1 (lowN (yy >>> ((nI 2) &&& 31)) 512))) u_36) := hD9
            refine lv_iload hx hb dL_change_665 (lv_at hl 2 rfl) ?_
            refine lv_iload hx hb dL_change_667 (lv_at hl 0 rfl) ?_
            refine lv_if_ne (tgt := 676) hx hb dL_change_669 (by decide) (fun c_669 => ?_) (fun c_669 => ?_)
            · exact absurd c_630 c_669
            · refine lv_iconst (v := nI 1) hx hb dL_change_672 (by decide) ?_
              refine lv_goto (tgt := 677) hx hb dL_change_673 (by decide) ?_
              refine lv_iadd hx hb dL_change_677 ?_
              refine lv_icmp_ne (tgt := 695) hx hb dL_change_678 (by decide) (fun c_678 => ?_) (fun c_678 => ?_)
              · exact (c_678 (if_pos hqe)).elim
              · refine lv_aload_n hx hb dL_change_681 rfl (lv_at hl 10 rfl) ?_
                refine lv_iconst (v := nI 3) hx hb dL_change_682 (by decide) ?_
                refine wr_woi (mid := cT G X (zS Z (gGues Z.1 (lowN (yy >>> ((nI 2) &&& 31)) 512))) u_36) (va_runV (As := [.int (nI 3)]) (rest := []) ⟨hx, hb, hml, hown, hts⟩ (k_co3 l G _ X (zS Z (gGues Z.1 (lowN (yy >>> ((nI 2) &&& 31)) 512))) u_36 hZ9 hz9 hvu_36) (cwV 1 hts gL_change_X6_count rfl rfl rfl (by decide +kernel) ⟨Nat.le_of_ble_eq_true rfl, Nat.le_of_ble_eq_true rfl⟩) (wVw (mid := cT G X (zS Z (gGues Z.1 (lowN (yy >>> ((nI 2) &&& 31)) 512))) u_36) (va_recv (ws := cT G X (zS Z (gGues Z.1 (lowN (yy >>> ((nI 2) &&& 31)) 512))) u_36) hK hP (ci := 5) (q0 := 0) rfl rfl) hK hN hP hD) rfl rfl hl.1 rfl (lv_room (Nat.le_of_ble_eq_true rfl)) dL_change_683 ⟨Nat.le_of_ble_eq_true rfl, Nat.le_of_ble_eq_true rfl⟩) hP hD hS hA (fun r u_37 H locs hw hP9 hD9 hS => ?_)
                obtain ⟨rfl, hvu_37⟩ := hw
                have hP : PP G (cT G X (zS Z (gGues Z.1 (lowN (yy >>> ((nI 2) &&& 31)) 512))) u_37) _ := hP9
                have hD : va_D Ar (cT G X (zS Z (gGues Z.1 (lowN (yy >>> ((nI 2) &&& 31)) 512))) u_37) := hD9
                refine lv_iload hx hb dL_change_686 (lv_at hl 5 rfl) ?_
                refine lv_icmp_ne (tgt := 695) hx hb dL_change_688 (by decide) (fun c_688 => ?_) (fun c_688 => ?_)
                · exact (c_688 rfl).elim
                · refine lv_iconst (v := nI 1) hx hb dL_change_691 (by decide) ?_
                  refine lv_goto (tgt := 696) hx hb dL_change_692 (by decide) ?_
                  exact wr_zret (G := G) (S := ZZ × CU) (zS Z (gGues Z.1 (lowN (yy >>> ((nI 2) &&& 31)) 512)), u_37) hx hb hr hlocks (by first | decide | exact b2_nar _) hP hD hS (Nat.le_of_ble_eq_true rfl) (Nat.le_of_ble_eq_true rfl) (by exact ⟨rfl, hZ9, hz9, rfl, hvu_37⟩) dL_change_696
    · refine lv_aload_n hx hb dL_change_576 rfl (lv_at hl 6 rfl) ?_
      refine wr_woi (mid := cT G X Z u_2) (va_runS (As := [.ref X.1]) (rest := []) ⟨hx, hb, hml, hown, hts⟩ (k_folded l G _ X Z u_2 hZ hz hvu_2) (va_cwS 1 hts gL_change_L_folded rfl rfl rfl (by decide +kernel) ⟨Nat.le_of_ble_eq_true rfl, Nat.le_of_ble_eq_true rfl⟩) (wSw (mid := cT G X Z u_2) hK hN hP hD) rfl rfl hl.1 rfl (lv_room (Nat.le_of_ble_eq_true rfl)) dL_change_577 ⟨Nat.le_of_ble_eq_true rfl, Nat.le_of_ble_eq_true rfl⟩) hP hD hS hA (fun r u_38 H locs hw hP9 hD9 hS => ?_)
      obtain ⟨rfl, hvu_38⟩ := hw
      have hP : PP G (cT G X Z u_38) _ := hP9
      have hD : va_D Ar (cT G X Z u_38) := hD9
      refine lv_cgi (y := nI a0) ea0 ?_
      refine lv_goto (tgt := 592) hx hb dL_change_580 (by decide) ?_
      refine lv_istore (lv' := [(15, .int (nI a0)), (8, .int (nI 0)), (7, .int (Z.1 0 6)), (6, .int (Z.1 0 5)), (5, .int (nI (lowN (yy >>> ((nI 4) &&& 31)) 6))), (4, .int (nI (lowN yy 6))), (3, .int (nI (lowN yy 9))), (0, .ref X.1), (1, .int xx), (2, .int yy)]) hx hb dL_change_592 hl (by decide) rfl (fun ls hl => ?_)
      refine lv_aload_n hx hb dL_change_594 rfl (lv_at hl 7 rfl) ?_
      refine lv_bipush (v := nI 8) hx hb dL_change_595 (by decide) ?_
      refine wr_woi (mid := cT G X Z u_38) (va_runV (As := [.int (nI 8)]) (rest := []) ⟨hx, hb, hml, hown, hts⟩ (k_co8 l G _ X Z u_38 hZ hz hvu_38) (cwV 1 hts gL_change_X6_count rfl rfl rfl (by decide +kernel) ⟨Nat.le_of_ble_eq_true rfl, Nat.le_of_ble_eq_true rfl⟩) (wVw (mid := cT G X Z u_38) (va_recv (ws := cT G X Z u_38) hK hP (ci := 5) (q0 := 0) rfl rfl) hK hN hP hD) rfl rfl hl.1 rfl (lv_room (Nat.le_of_ble_eq_true rfl)) dL_change_597 ⟨Nat.le_of_ble_eq_true rfl, Nat.le_of_ble_eq_true rfl⟩) hP hD hS hA (fun r u_39 H locs hw hP9 hD9 hS => ?_)
      obtain ⟨rfl, hvu_39⟩ := hw
      have hP : PP G (cT G X Z u_39) _ := hP9
      have hD : va_D Ar (cT G X Z u_39) := hD9
      refine lv_istore (lv' := [(16, .int (Z.1 0 4)), (15, .int (nI a0)), (8, .int (nI 0)), (7, .int (Z.1 0 6)), (6, .int (Z.1 0 5)), (5, .int (nI (lowN (yy >>> ((nI 4) &&& 31)) 6))), (4, .int (nI (lowN yy 6))), (3, .int (nI (lowN yy 9))), (0, .ref X.1), (1, .int xx), (2, .int yy)]) hx hb dL_change_600 hl (by decide) rfl (fun ls hl => ?_)
      refine lv_aload_n hx hb dL_change_602 rfl (lv_at hl 8 rfl) ?_
      refine lv_bipush (v := nI 7) hx hb dL_change_603 (by decide) ?_
      refine wr_woi (mid := cT G X Z u_39) (va_runV (As := [.int (nI 7)]) (rest := []) ⟨hx, hb, hml, hown, hts⟩ (k_co7 l G _ X Z u_39 hZ hz hvu_39) (cwV 1 hts gL_change_X6_count rfl rfl rfl (by decide +kernel) ⟨Nat.le_of_ble_eq_true rfl, Nat.le_of_ble_eq_true rfl⟩) (wVw (mid := cT G X Z u_39) (va_recv (ws := cT G X Z u_39) hK hP (ci := 5) (q0 := 0) rfl rfl) hK hN hP hD) rfl rfl hl.1 rfl (lv_room (Nat.le_of_ble_eq_true rfl)) dL_change_605 ⟨Nat.le_of_ble_eq_true rfl, Nat.le_of_ble_eq_true rfl⟩) hP hD hS hA (fun r u_40 H locs hw hP9 hD9 hS => ?_)
      obtain ⟨rfl, hvu_40⟩ := hw
      have hP : PP G (cT G X Z u_40) _ := hP9
      have hD : va_D Ar (cT G X Z u_40) := hD9
      refine lv_istore (lv' := [(17, .int (Z.1 0 3)), (16, .int (Z.1 0 4)), (15, .int (nI a0)), (8, .int (nI 0)), (7, .int (Z.1 0 6)), (6, .int (Z.1 0 5)), (5, .int (nI (lowN (yy >>> ((nI 4) &&& 31)) 6))), (4, .int (nI (lowN yy 6))), (3, .int (nI (lowN yy 9))), (0, .ref X.1), (1, .int xx), (2, .int yy)]) hx hb dL_change_608 hl (by decide) rfl (fun ls hl => ?_)
      refine lv_iload hx hb dL_change_610 (lv_at hl 2 rfl) ?_
      refine lv_aload_n hx hb dL_change_612 rfl (lv_at hl 9 rfl) ?_
      refine wr_woi (mid := cT G X Z u_40) (va_runS (As := [.ref X.1]) (rest := [.int (nI a0)]) ⟨hx, hb, hml, hown, hts⟩ (k_folded l G _ X Z u_40 hZ hz hvu_40) (va_cwS 1 hts gL_change_L_folded rfl rfl rfl (by decide +kernel) ⟨Nat.le_of_ble_eq_true rfl, Nat.le_of_ble_eq_true rfl⟩) (wSw (mid := cT G X Z u_40) hK hN hP hD) rfl rfl hl.1 rfl (lv_room (Nat.le_of_ble_eq_true rfl)) dL_change_613 ⟨Nat.le_of_ble_eq_true rfl, Nat.le_of_ble_eq_true rfl⟩) hP hD hS hA (fun r u_41 H locs hw hP9 hD9 hS => ?_)
      obtain ⟨rfl, hvu_41⟩ := hw
      have hP : PP G (cT G X Z u_41) _ := hP9
      have hD : va_D Ar (cT G X Z u_41) := hD9
      refine lv_ixor hx hb dL_change_616 ?_
      refine rd_go (va_runS (As := [.int ((nI a0) ^^^ (Z.1 0 0))]) (rest := []) ⟨hx, hb, hml, hown, hts⟩ (c_L_bits l G ((nI a0) ^^^ (Z.1 0 0))) (va_cwS 1 hts gL_change_L_bits rfl rfl rfl (by decide +kernel) ⟨Nat.le_of_ble_eq_true rfl, Nat.le_of_ble_eq_true rfl⟩) (rS (ws := []) hK hN P_nil) rfl rfl hl.1 rfl (lv_room (Nat.le_of_ble_eq_true rfl)) dL_change_617 ⟨Nat.le_of_ble_eq_true rfl, Nat.le_of_ble_eq_true rfl⟩) ?_
      refine lv_istore (lv' := [(18, .int (bitsL ((nI a0) ^^^ (Z.1 0 0)))), (17, .int (Z.1 0 3)), (16, .int (Z.1 0 4)), (15, .int (nI a0)), (8, .int (nI 0)), (7, .int (Z.1 0 6)), (6, .int (Z.1 0 5)), (5, .int (nI (lowN (yy >>> ((nI 4) &&& 31)) 6))), (4, .int (nI (lowN yy 6))), (3, .int (nI (lowN yy 9))), (0, .ref X.1), (1, .int xx), (2, .int yy)]) hx hb dL_change_620 hl (by decide) rfl (fun ls hl => ?_)
      refine lv_aload_n hx hb dL_change_622 rfl (lv_at hl 10 rfl) ?_
      refine lv_iload hx hb dL_change_623 (lv_at hl 3 rfl) ?_
      refine wr_woi (mid := cT G X Z u_41) (va_runV (As := [.int (nI a0)]) (rest := []) ⟨hx, hb, hml, hown, hts⟩ (k_guess l G _ X Z u_41 hZ hz a0 (by omega)) (cwV 1 hts gL_change_X6_guess rfl rfl rfl (by decide +kernel) ⟨Nat.le_of_ble_eq_true rfl, Nat.le_of_ble_eq_true rfl⟩) (wVw (mid := cT G X Z u_41) (va_recv (ws := cT G X Z u_41) hK hP (ci := 5) (q0 := 0) rfl rfl) hK hN hP hD) rfl rfl hl.1 rfl (lv_room (Nat.le_of_ble_eq_true rfl)) dL_change_625 ⟨Nat.le_of_ble_eq_true rfl, Nat.le_of_ble_eq_true rfl⟩) hP hD hS hA (fun r u9 H locs hw hP9 hD9 hS => ?_)
      subst hw
      have hP : PP G (cT G X (zS Z (gGues Z.1 a0)) (u_41.1, u_41.2.1, nI 0)) _ := hP9
      have hD : va_D Ar (cT G X (zS Z (gGues Z.1 a0)) (u_41.1, u_41.2.1, nI 0)) := hD9
      have hZ9 : OKg (B + 1) (zS Z (gGues Z.1 a0)).1 := ok_gues hZ (by omega)
      have hz9 : (zS Z (gGues Z.1 a0)).2.2.2.1 ≤ 6 := svm_le hz
      have hc9 : CV (zS Z (gGues Z.1 a0)).1 (u_41.1, u_41.2.1, nI 0) := Or.inl rfl
      refine lv_iload hx hb dL_change_628 (lv_at hl 0 rfl) ?_
      refine lv_if_ne (tgt := 638) hx hb dL_change_630 (by decide) (fun c_630 => ?_) (fun c_630 => ?_)
      · have hqe : ¬ nI (a0) = Z.1 0 0 := by have h := c_630; rw [ea0] at h; exact fun h2 => h ((bits0 (by omega) ha0).mpr (h2.trans ea0))
        refine lv_bipush (v := nI 9) hx hb dL_change_638 (by decide) ?_
        refine lv_iload hx hb dL_change_640 (lv_at hl 0 rfl) ?_
        refine lv_isub hx hb dL_change_642 ?_
        refine lv_icmp_ne (tgt := 695) hx hb dL_change_643 (by decide) (fun c_643 => ?_) (fun c_643 => ?_)
        · exact (c_643 ((if_neg hqe).trans (by rw [ea0, bits_x (by omega) ha0]))).elim
        · refine lv_aload_n hx hb dL_change_646 rfl (lv_at hl 10 rfl) ?_
          refine lv_bipush (v := nI 7) hx hb dL_change_647 (by decide) ?_
          refine wr_woi (mid := cT G X (zS Z (gGues Z.1 a0)) (u_41.1, u_41.2.1, nI 0)) (va_runV (As := [.int (nI 7)]) (rest := []) ⟨hx, hb, hml, hown, hts⟩ (k_co7 l G _ X (zS Z (gGues Z.1 a0)) (u_41.1, u_41.2.1, nI 0) hZ9 hz9 hc9) (cwV 1 hts gL_change_X6_count rfl rfl rfl (by decide +kernel) ⟨Nat.le_of_ble_eq_true rfl, Nat.le_of_ble_eq_true rfl⟩) (wVw (mid := cT G X (zS Z (gGues Z.1 a0)) (u_41.1, u_41.2.1, nI 0)) (va_recv (ws := cT G X (zS Z (gGues Z.1 a0)) (u_41.1, u_41.2.1, nI 0)) hK hP (ci := 5) (q0 := 0) rfl rfl) hK hN hP hD) rfl rfl hl.1 rfl (lv_room (Nat.le_of_ble_eq_true rfl)) dL_change_649 ⟨Nat.le_of_ble_eq_true rfl, Nat.le_of_ble_eq_true rfl⟩) hP hD hS hA (fun r u_42 H locs hw hP9 hD9 hS => ?_)
          obtain ⟨rfl, hvu_42⟩ := hw
          have hP : PP G (cT G X (zS Z (gGues Z.1 a0)) u_42) _ := hP9
          have hD : va_D Ar (cT G X (zS Z (gGues Z.1 a0)) u_42) := hD9
          refine lv_iload hx hb dL_change_652 (lv_at hl 1 rfl) ?_
          refine lv_iconst (v := nI 1) hx hb dL_change_654 (by decide) ?_
          refine lv_iadd hx hb dL_change_655 ?_
          refine lv_icmp_ne (tgt := 695) hx hb dL_change_656 (by decide) (fun c_656 => ?_) (fun c_656 => ?_)
          · exact (c_656 rfl).elim
          · refine lv_aload_n hx hb dL_change_659 rfl (lv_at hl 10 rfl) ?_
            refine lv_bipush (v := nI 8) hx hb dL_change_660 (by decide) ?_
            refine wr_woi (mid := cT G X (zS Z (gGues Z.1 a0)) u_42) (va_runV (As := [.int (nI 8)]) (rest := []) ⟨hx, hb, hml, hown, hts⟩ (k_co8 l G _ X (zS Z (gGues Z.1 a0)) u_42 hZ9 hz9 hvu_42) (cwV 1 hts gL_change_X6_count rfl rfl rfl (by decide +kernel) ⟨Nat.le_of_ble_eq_true rfl, Nat.le_of_ble_eq_true rfl⟩) (wVw (mid := cT G X (zS Z (gGues Z.1 a0)) u_42) (va_recv (ws := cT G X (zS Z (gGues Z.1 a0)) u_42) hK hP (ci := 5) (q0 := 0) rfl rfl) hK hN hP hD) rfl rfl hl.1 rfl (lv_room (Nat.le_of_ble_eq_true rfl)) dL_change_662 ⟨Nat.le_of_ble_eq_true rfl, Nat.le_of_ble_eq_true rfl⟩) hP hD hS hA (fun r u_43 H locs hw hP9 hD9 hS => ?_)
            obtain ⟨rfl, hvu_43⟩ := hw
            have hP : PP G (cT G X (zS Z (gGues Z.1 a0)) u_43) _ := hP9
            have hD : va_D Ar (cT G X (zS Z (gGues Z.1 a0)) u_43) := hD9
            refine lv_iload hx hb dL_change_665 (lv_at hl 2 rfl) ?_
            refine lv_iload hx hb dL_change_667 (lv_at hl 0 rfl) ?_
            refine lv_if_ne (tgt := 676) hx hb dL_change_669 (by decide) (fun c_669 => ?_) (fun c_669 => ?_)
            · refine lv_iconst (v := nI 0) hx hb dL_change_676 (by decide) ?_
              refine lv_iadd hx hb dL_change_677 ?_
              refine lv_icmp_ne (tgt := 695) hx hb dL_change_678 (by decide) (fun c_678 => ?_) (fun c_678 => ?_)
              · exact (c_678 ((if_neg hqe).trans (addz _).symm)).elim
              · refine lv_aload_n hx hb dL_change_681 rfl (lv_at hl 10 rfl) ?_
                refine lv_iconst (v := nI 3) hx hb dL_change_682 (by decide) ?_
                refine wr_woi (mid := cT G X (zS Z (gGues Z.1 a0)) u_43) (va_runV (As := [.int (nI 3)]) (rest := []) ⟨hx, hb, hml, hown, hts⟩ (k_co3 l G _ X (zS Z (gGues Z.1 a0)) u_43 hZ9 hz9 hvu_43) (cwV 1 hts gL_change_X6_count rfl rfl rfl (by decide +kernel) ⟨Nat.le_of_ble_eq_true rfl, Nat.le_of_ble_eq_true rfl⟩) (wVw (mid := cT G X (zS Z (gGues Z.1 a0)) u_43) (va_recv (ws := cT G X (zS Z (gGues Z.1 a0)) u_43) hK hP (ci := 5) (q0 := 0) rfl rfl) hK hN hP hD) rfl rfl hl.1 rfl (lv_room (Nat.le_of_ble_eq_true rfl)) dL_change_683 ⟨Nat.le_of_ble_eq_true rfl, Nat.le_of_ble_eq_true rfl⟩) hP hD hS hA (fun r u_44 H locs hw hP9 hD9 hS => ?_)
                obtain ⟨rfl, hvu_44⟩ := hw
                have hP : PP G (cT G X (zS Z (gGues Z.1 a0)) u_44) _ := hP9
                have hD : va_D Ar (cT G X (zS Z (gGues Z.1 a0)) u_44) := hD9
                refine lv_iload hx hb dL_change_686 (lv_at hl 5 rfl) ?_
                refine lv_icmp_ne (tgt := 695) hx hb dL_change_688 (by decide) (fun c_688 => ?_) (fun c_688 => ?_)
                · exact (c_688 rfl).elim
                · refine lv_iconst (v := nI 1) hx hb dL_change_691 (by decide) ?_
                  refine lv_goto (tgt := 696) hx hb dL_change_692 (by decide) ?_
                  exact wr_zret (G := G) (S := ZZ × CU) (zS Z (gGues Z.1 a0), u_44) hx hb hr hlocks (by first | decide | exact b2_nar _) hP hD hS (Nat.le_of_ble_eq_true rfl) (Nat.le_of_ble_eq_true rfl) (by exact ⟨rfl, hZ9, hz9, rfl, hvu_44⟩) dL_change_696
            · exact absurd c_669 c_630
      · have hqe : nI (a0) = Z.1 0 0 := by have h := c_630; rw [ea0] at h; exact ((bits0 (by omega) ha0).mp h).trans ea0.symm
        refine lv_bipush (v := nI 10) hx hb dL_change_633 (by decide) ?_
        refine lv_goto (tgt := 643) hx hb dL_change_635 (by decide) ?_
        refine lv_icmp_ne (tgt := 695) hx hb dL_change_643 (by decide) (fun c_643 => ?_) (fun c_643 => ?_)
        · exact (c_643 (if_pos hqe)).elim
        · refine lv_aload_n hx hb dL_change_646 rfl (lv_at hl 10 rfl) ?_
          refine lv_bipush (v := nI 7) hx hb dL_change_647 (by decide) ?_
          refine wr_woi (mid := cT G X (zS Z (gGues Z.1 a0)) (u_41.1, u_41.2.1, nI 0)) (va_runV (As := [.int (nI 7)]) (rest := []) ⟨hx, hb, hml, hown, hts⟩ (k_co7 l G _ X (zS Z (gGues Z.1 a0)) (u_41.1, u_41.2.1, nI 0) hZ9 hz9 hc9) (cwV 1 hts gL_change_X6_count rfl rfl rfl (by decide +kernel) ⟨Nat.le_of_ble_eq_true rfl, Nat.le_of_ble_eq_true rfl⟩) (wVw (mid := cT G X (zS Z (gGues Z.1 a0)) (u_41.1, u_41.2.1, nI 0)) (va_recv (ws := cT G X (zS Z (gGues Z.1 a0)) (u_41.1, u_41.2.1, nI 0)) hK hP (ci := 5) (q0 := 0) rfl rfl) hK hN hP hD) rfl rfl hl.1 rfl (lv_room (Nat.le_of_ble_eq_true rfl)) dL_change_649 ⟨Nat.le_of_ble_eq_true rfl, Nat.le_of_ble_eq_true rfl⟩) hP hD hS hA (fun r u_45 H locs hw hP9 hD9 hS => ?_)
          obtain ⟨rfl, hvu_45⟩ := hw
          have hP : PP G (cT G X (zS Z (gGues Z.1 a0)) u_45) _ := hP9
          have hD : va_D Ar (cT G X (zS Z (gGues Z.1 a0)) u_45) := hD9
          refine lv_iload hx hb dL_change_652 (lv_at hl 1 rfl) ?_
          refine lv_iconst (v := nI 1) hx hb dL_change_654 (by decide) ?_
          refine lv_iadd hx hb dL_change_655 ?_
          refine lv_icmp_ne (tgt := 695) hx hb dL_change_656 (by decide) (fun c_656 => ?_) (fun c_656 => ?_)
          · exact (c_656 rfl).elim
          · refine lv_aload_n hx hb dL_change_659 rfl (lv_at hl 10 rfl) ?_
            refine lv_bipush (v := nI 8) hx hb dL_change_660 (by decide) ?_
            refine wr_woi (mid := cT G X (zS Z (gGues Z.1 a0)) u_45) (va_runV (As := [.int (nI 8)]) (rest := []) ⟨hx, hb, hml, hown, hts⟩ (k_co8 l G _ X (zS Z (gGues Z.1 a0)) u_45 hZ9 hz9 hvu_45) (cwV 1 hts gL_change_X6_count rfl rfl rfl (by decide +kernel) ⟨Nat.le_of_ble_eq_true rfl, Nat.le_of_ble_eq_true rfl⟩) (wVw (mid := cT G X (zS Z (gGues Z.1 a0)) u_45) (va_recv (ws := cT G X (zS Z (gGues Z.1 a0)) u_45) hK hP (ci := 5) (q0 := 0) rfl rfl) hK hN hP hD) rfl rfl hl.1 rfl (lv_room (Nat.le_of_ble_eq_true rfl)) dL_change_662 ⟨Nat.le_of_ble_eq_true rfl, Nat.le_of_ble_eq_true rfl⟩) hP hD hS hA (fun r u_46 H locs hw hP9 hD9 hS => ?_)
            obtain ⟨rfl, hvu_46⟩ := hw
            have hP : PP G (cT G X (zS Z (gGues Z.1 a0)) u_46) _ := hP9
            have hD : va_D Ar (cT G X (zS Z (gGues Z.1 a0)) u_46) := hD9
            refine lv_iload hx hb dL_change_665 (lv_at hl 2 rfl) ?_
            refine lv_iload hx hb dL_change_667 (lv_at hl 0 rfl) ?_
            refine lv_if_ne (tgt := 676) hx hb dL_change_669 (by decide) (fun c_669 => ?_) (fun c_669 => ?_)
            · exact absurd c_630 c_669
            · refine lv_iconst (v := nI 1) hx hb dL_change_672 (by decide) ?_
              refine lv_goto (tgt := 677) hx hb dL_change_673 (by decide) ?_
              refine lv_iadd hx hb dL_change_677 ?_
              refine lv_icmp_ne (tgt := 695) hx hb dL_change_678 (by decide) (fun c_678 => ?_) (fun c_678 => ?_)
              · exact (c_678 (if_pos hqe)).elim
              · refine lv_aload_n hx hb dL_change_681 rfl (lv_at hl 10 rfl) ?_
                refine lv_iconst (v := nI 3) hx hb dL_change_682 (by decide) ?_
                refine wr_woi (mid := cT G X (zS Z (gGues Z.1 a0)) u_46) (va_runV (As := [.int (nI 3)]) (rest := []) ⟨hx, hb, hml, hown, hts⟩ (k_co3 l G _ X (zS Z (gGues Z.1 a0)) u_46 hZ9 hz9 hvu_46) (cwV 1 hts gL_change_X6_count rfl rfl rfl (by decide +kernel) ⟨Nat.le_of_ble_eq_true rfl, Nat.le_of_ble_eq_true rfl⟩) (wVw (mid := cT G X (zS Z (gGues Z.1 a0)) u_46) (va_recv (ws := cT G X (zS Z (gGues Z.1 a0)) u_46) hK hP (ci := 5) (q0 := 0) rfl rfl) hK hN hP hD) rfl rfl hl.1 rfl (lv_room (Nat.le_of_ble_eq_true rfl)) dL_change_683 ⟨Nat.le_of_ble_eq_true rfl, Nat.le_of_ble_eq_true rfl⟩) hP hD hS hA (fun r u_47 H locs hw hP9 hD9 hS => ?_)
                obtain ⟨rfl, hvu_47⟩ := hw
                have hP : PP G (cT G X (zS Z (gGues Z.1 a0)) u_47) _ := hP9
                have hD : va_D Ar (cT G X (zS Z (gGues Z.1 a0)) u_47) := hD9
                refine lv_iload hx hb dL_change_686 (lv_at hl 5 rfl) ?_
                refine lv_icmp_ne (tgt := 695) hx hb dL_change_688 (by decide) (fun c_688 => ?_) (fun c_688 => ?_)
                · exact (c_688 rfl).elim
                · refine lv_iconst (v := nI 1) hx hb dL_change_691 (by decide) ?_
                  refine lv_goto (tgt := 696) hx hb dL_change_692 (by decide) ?_
                  exact wr_zret (G := G) (S := ZZ × CU) (zS Z (gGues Z.1 a0), u_47) hx hb hr hlocks (by first | decide | exact b2_nar _) hP hD hS (Nat.le_of_ble_eq_true rfl) (Nat.le_of_ble_eq_true rfl) (by exact ⟨rfl, hZ9, hz9, rfl, hvu_47⟩) dL_change_696
  have T697 : W pG l eG (RM 16 0 0) s mG ([.ref X.1, .int xx, .int yy] : List Value).toArray below meth cG H locs 0 0 (MQ below (wQi G (S := ZZ × CU) (fun r v9 => r = nI 1 ∧ OKg (B + 1) v9.1.1 ∧ v9.1.2.2.2.1 ≤ 6 ∧ v9.1.2.2.2.2.1 = Z.2.2.2.2.1 ∧ CV v9.1.1 v9.2) (fun v9 => cT G X v9.1 v9.2) Ar) ([.ref X.1, .int xx, .int yy] : List Value).toArray s 0 0 Ar) (F0 mG 697 ls []) := by
    refine lv_iload_n hx hb dL_change_697 rfl (lv_at hl 8 rfl) ?_
    refine lv_iconst (v := nI 3) hx hb dL_change_698 (by decide) ?_
    refine lv_iand hx hb dL_change_699 ?_
    refine lv_if_ne (tgt := 720) hx hb dL_change_700 (by decide) (fun c_700 => ?_) (fun c_700 => ?_)
    · refine lv_iconst (v := nI 1) hx hb dL_change_720 (by decide) ?_
      refine lv_goto (tgt := 725) hx hb dL_change_721 (by decide) ?_
      exact wr_zret (G := G) (S := ZZ × CU) (Z, u_2) hx hb hr hlocks (by first | decide | exact b2_nar _) hP hD hS (Nat.le_of_ble_eq_true rfl) (Nat.le_of_ble_eq_true rfl) (by exact ⟨rfl, ok_mono (by omega) hZ, hz, rfl, hvu_2⟩) dL_change_725
    · refine lv_aload_n hx hb dL_change_703 rfl (lv_at hl 6 rfl) ?_
      refine wr_woi (mid := cT G X Z u_2) (va_runV (As := []) (rest := []) ⟨hx, hb, hml, hown, hts⟩ (k_forget l G _ X Z u_2 hZ hz ) (cwV 0 hts gL_change_X6_forget rfl rfl rfl (by decide +kernel) ⟨Nat.le_of_ble_eq_true rfl, Nat.le_of_ble_eq_true rfl⟩) (wVw (mid := cT G X Z u_2) (va_recv (ws := cT G X Z u_2) hK hP (ci := 5) (q0 := 0) rfl rfl) hK hN hP hD) rfl rfl hl.1 rfl (lv_room (Nat.le_of_ble_eq_true rfl)) dL_change_704 ⟨Nat.le_of_ble_eq_true rfl, Nat.le_of_ble_eq_true rfl⟩) hP hD hS hA (fun r u9 H locs hw hP9 hD9 hS => ?_)
      subst hw
      have hP : PP G (cT G X (zS Z (gForg Z.1)) (u_2.1, u_2.2.1, nI 0)) _ := hP9
      have hD : va_D Ar (cT G X (zS Z (gForg Z.1)) (u_2.1, u_2.2.1, nI 0)) := hD9
      have hZ9 : OKg (B + 1) (zS Z (gForg Z.1)).1 := ok_forg hZ
      have hz9 : (zS Z (gForg Z.1)).2.2.2.1 ≤ 6 := svm_le hz
      have hc9 : CV (zS Z (gForg Z.1)).1 (u_2.1, u_2.2.1, nI 0) := Or.inl rfl
      refine lv_iload hx hb dL_change_707 (lv_at hl 1 rfl) ?_
      refine lv_icmp_ne (tgt := 724) hx hb dL_change_709 (by decide) (fun c_709 => ?_) (fun c_709 => ?_)
      · exact absurd rfl c_709
      · refine lv_aload_n hx hb dL_change_712 rfl (lv_at hl 6 rfl) ?_
        refine lv_iconst (v := nI 3) hx hb dL_change_713 (by decide) ?_
        refine wr_woi (mid := cT G X (zS Z (gForg Z.1)) (u_2.1, u_2.2.1, nI 0)) (va_runV (As := [.int (nI 3)]) (rest := []) ⟨hx, hb, hml, hown, hts⟩ (k_co3 l G _ X (zS Z (gForg Z.1)) (u_2.1, u_2.2.1, nI 0) hZ9 hz9 hc9) (cwV 1 hts gL_change_X6_count rfl rfl rfl (by decide +kernel) ⟨Nat.le_of_ble_eq_true rfl, Nat.le_of_ble_eq_true rfl⟩) (wVw (mid := cT G X (zS Z (gForg Z.1)) (u_2.1, u_2.2.1, nI 0)) (va_recv (ws := cT G X (zS Z (gForg Z.1)) (u_2.1, u_2.2.1, nI 0)) hK hP (ci := 5) (q0 := 0) rfl rfl) hK hN hP hD) rfl rfl hl.1 rfl (lv_room (Nat.le_of_ble_eq_true rfl)) dL_change_714 ⟨Nat.le_of_ble_eq_true rfl, Nat.le_of_ble_eq_true rfl⟩) hP hD hS hA (fun r u_48 H locs hw hP9 hD9 hS => ?_)
        obtain ⟨rfl, hvu_48⟩ := hw
        have hP : PP G (cT G X (zS Z (gForg Z.1)) u_48) _ := hP9
        have hD : va_D Ar (cT G X (zS Z (gForg Z.1)) u_48) := hD9
        refine lv_if_ne (tgt := 724) hx hb dL_change_717 (by decide) (fun c_717 => ?_) (fun c_717 => ?_)
        · exact (c_717 rfl).elim
        · refine lv_iconst (v := nI 1) hx hb dL_change_720 (by decide) ?_
          refine lv_goto (tgt := 725) hx hb dL_change_721 (by decide) ?_
          exact wr_zret (G := G) (S := ZZ × CU) (zS Z (gForg Z.1), u_48) hx hb hr hlocks (by first | decide | exact b2_nar _) hP hD hS (Nat.le_of_ble_eq_true rfl) (Nat.le_of_ble_eq_true rfl) (by exact ⟨rfl, hZ9, hz9, rfl, hvu_48⟩) dL_change_725
  obtain ⟨v9, hv9, ev9⟩ : ∃ v, v < 14 ∧ nI (lowN xx 14) = nI v := ⟨_, lowN_lt xx (by omega), rfl⟩
  refine lv_cgi (y := nI v9) ev9 ?_
  match v9, hv9 with
  | 0, _ => refine lv_tableIn (off := 67) (tgt := 116) hx hb dL_change_49 (by decide) (by decide) (by decide) (by decide) ?_; exact T116
  | 1, _ => refine lv_tableIn (off := 67) (tgt := 116) hx hb dL_change_49 (by decide) (by decide) (by decide) (by decide) ?_; exact T116
  | 2, _ => refine lv_tableIn (off := 67) (tgt := 116) hx hb dL_change_49 (by decide) (by decide) (by decide) (by decide) ?_; exact T116
  | 3, _ => refine lv_tableIn (off := 198) (tgt := 247) hx hb dL_change_49 (by decide) (by decide) (by decide) (by decide) ?_; exact T247
  | 4, _ => refine lv_tableIn (off := 198) (tgt := 247) hx hb dL_change_49 (by decide) (by decide) (by decide) (by decide) ?_; exact T247
  | 5, _ => refine lv_tableIn (off := 256) (tgt := 305) hx hb dL_change_49 (by decide) (by decide) (by decide) (by decide) ?_; exact T305
  | 6, _ => refine lv_tableIn (off := 269) (tgt := 318) hx hb dL_change_49 (by decide) (by decide) (by decide) (by decide) ?_; exact T318
  | 7, _ => refine lv_tableIn (off := 351) (tgt := 400) hx hb dL_change_49 (by decide) (by decide) (by decide) (by decide) ?_; exact T400
  | 8, _ => refine lv_tableIn (off := 351) (tgt := 400) hx hb dL_change_49 (by decide) (by decide) (by decide) (by decide) ?_; exact T400
  | 9, _ => refine lv_tableIn (off := 351) (tgt := 400) hx hb dL_change_49 (by decide) (by decide) (by decide) (by decide) ?_; exact T400
  | 10, _ => refine lv_tableIn (off := 351) (tgt := 400) hx hb dL_change_49 (by decide) (by decide) (by decide) (by decide) ?_; exact T400
  | 11, _ => refine lv_tableIn (off := 521) (tgt := 570) hx hb dL_change_49 (by decide) (by decide) (by decide) (by decide) ?_; exact T570
  | 12, _ => refine lv_tableIn (off := 521) (tgt := 570) hx hb dL_change_49 (by decide) (by decide) (by decide) (by decide) ?_; exact T570
  | 13, _ => refine lv_tableOut (tgt := 697) hx hb dL_change_49 (by decide) (by decide) ?_; exact T697
  | k + 14, h => exact absurd h (by omega)

set_option maxHeartbeats 4000000 in
set_option maxRecDepth 100000 in
theorem k_asks (l : Launch) (G : GG) (sz : Nat) (X : AD) (Z : ZZ) (u : CU) {B : Nat} (hZ : OKg B Z.1) (hz : Z.2.2.2.1 ≤ 6) (hu : CV Z.1 u) (xx : Int32) : WRi l yL_asks wsL_asks 15 G [.ref X.1, .int xx] (cT G X Z u) sz (S := CU) (fun r u9 => r = nI 1 ∧ CV Z.1 u9) (fun u9 => cT G X Z u9) 0 0 := by
  refine wr_of (l := l) (y := yL_asks) (w := wsL_asks) (d := 15) (G := G) (As := [.ref X.1, .int xx]) (sz := sz) (mc := 0) (ms := 0) (cc := cL_asks) (maxL := 12) (ret := (some .boolean)) (Qc := fun Ar => wQi G (S := CU) (fun r u9 => r = nI 1 ∧ CV Z.1 u9) (fun u9 => cT G X Z u9) Ar) (by decide) rfl (Nat.le_of_ble_eq_true rfl) ?_
  intro pG eG s mG below meth cG hsz hx hb hr hml hts hown hlocks hnm hP hK hN Ar hD hA hS ls hl
  have hown : s.vm.findClass RL = some mG.cls := hown
  have hP : PP G (cT G X Z u) s.heap := hP
  have hD : va_D Ar (cT G X Z u) := hD
  have hl : lv_has ls 12 [(0, .ref X.1), (1, .int xx)] := hl
  have hc512 := cN_le (zq Z.1) 512
  obtain ⟨f0, hR0⟩ := hZ.2.1
  have hx6 : lowN xx 6 < 6 := lowN_lt _ (by omega)
  have hx5 : lowN (xx >>> (nI 3 &&& 31)) 5 < 5 := lowN_lt _ (by omega)
  refine lv_aload_n hx hb dL_asks_0 rfl (lv_at hl 0 rfl) ?_
  refine wr_woi (mid := cT G X Z u) (va_runV (As := []) (rest := []) ⟨hx, hb, hml, hown, hts⟩ (k_best l G _ X Z u hZ hz hu) (cwV 0 hts gL_asks_X6_bestQuestion rfl rfl rfl (by decide +kernel) ⟨Nat.le_of_ble_eq_true rfl, Nat.le_of_ble_eq_true rfl⟩) (wVw (mid := cT G X Z u) (va_recv (ws := cT G X Z u) hK hP (ci := 5) (q0 := 0) rfl rfl) hK hN hP hD) rfl rfl hl.1 rfl (lv_room (Nat.le_of_ble_eq_true rfl)) dL_asks_1 ⟨Nat.le_of_ble_eq_true rfl, Nat.le_of_ble_eq_true rfl⟩) hP hD hS hA (fun r u_1 H locs hw hP9 hD9 hS => ?_)
  obtain ⟨rfl, hvu_1⟩ := hw
  have hP : PP G (cT G X Z u_1) _ := hP9
  have hD : va_D Ar (cT G X Z u_1) := hD9
  refine lv_istore_n (lv' := [(2, .int ((outC (askW (Z.1 2) (Z.1 3) (Z.1 4) (Z.1 5) (zN Z.1)) (worW (zq Z.1) (Z.1 2)) 6).1)), (0, .ref X.1), (1, .int xx)]) hx hb dL_asks_4 rfl hl (by decide) rfl (fun ls hl => ?_)
  refine lv_aload_n hx hb dL_asks_5 rfl (lv_at hl 1 rfl) ?_
  refine lv_iconst (v := nI 4) hx hb dL_asks_6 (by decide) ?_
  refine wr_woi (mid := cT G X Z u_1) (va_runV (As := [.int (nI 4)]) (rest := []) ⟨hx, hb, hml, hown, hts⟩ (k_co4 l G _ X Z u_1 hZ hz hvu_1) (cwV 1 hts gL_asks_X6_count rfl rfl rfl (by decide +kernel) ⟨Nat.le_of_ble_eq_true rfl, Nat.le_of_ble_eq_true rfl⟩) (wVw (mid := cT G X Z u_1) (va_recv (ws := cT G X Z u_1) hK hP (ci := 5) (q0 := 0) rfl rfl) hK hN hP hD) rfl rfl hl.1 rfl (lv_room (Nat.le_of_ble_eq_true rfl)) dL_asks_7 ⟨Nat.le_of_ble_eq_true rfl, Nat.le_of_ble_eq_true rfl⟩) hP hD hS hA (fun r u_2 H locs hw hP9 hD9 hS => ?_)
  obtain ⟨rfl, hvu_2⟩ := hw
  have hP : PP G (cT G X Z u_2) _ := hP9
  have hD : va_D Ar (cT G X Z u_2) := hD9
  refine lv_istore_n (lv' := [(3, .int (nI (cN (zq Z.1) 512))), (2, .int ((outC (askW (Z.1 2) (Z.1 3) (Z.1 4) (Z.1 5) (zN Z.1)) (worW (zq Z.1) (Z.1 2)) 6).1)), (0, .ref X.1), (1, .int xx)]) hx hb dL_asks_10 rfl hl (by decide) rfl (fun ls hl => ?_)
  refine lv_iconst (v := (-1)) hx hb dL_asks_11 (by decide) ?_
  refine lv_istore (lv' := [(4, .int (-1)), (3, .int (nI (cN (zq Z.1) 512))), (2, .int ((outC (askW (Z.1 2) (Z.1 3) (Z.1 4) (Z.1 5) (zN Z.1)) (worW (zq Z.1) (Z.1 2)) 6).1)), (0, .ref X.1), (1, .int xx)]) hx hb dL_asks_12 hl (by decide) rfl (fun ls hl => ?_)
  refine lv_iconst (v := nI 0) hx hb dL_asks_14 (by decide) ?_
  refine lv_istore (lv' := [(5, .int (nI 0)), (4, .int (-1)), (3, .int (nI (cN (zq Z.1) 512))), (2, .int ((outC (askW (Z.1 2) (Z.1 3) (Z.1 4) (Z.1 5) (zN Z.1)) (worW (zq Z.1) (Z.1 2)) 6).1)), (0, .ref X.1), (1, .int xx)]) hx hb dL_asks_15 hl (by decide) rfl (fun ls hl => ?_)
  refine lv_iconst (v := nI 0) hx hb dL_asks_17 (by decide) ?_
  refine lv_istore (lv' := [(6, .int (nI 0)), (5, .int (nI 0)), (4, .int (-1)), (3, .int (nI (cN (zq Z.1) 512))), (2, .int ((outC (askW (Z.1 2) (Z.1 3) (Z.1 4) (Z.1 5) (zN Z.1)) (worW (zq Z.1) (Z.1 2)) 6).1)), (0, .ref X.1), (1, .int xx)]) hx hb dL_asks_18 hl (by decide) rfl (fun ls hl => ?_)
  have L20 : ∀ (fu20 : Nat) (k : Nat) (u9 : CU) (hk : k ≤ 36) (hu9 : CV Z.1 u9), 37 ≤ k + fu20 → ∀ (H : Heap) (locs : List Loc), PP G (cT G X Z u9) H → va_D Ar (cT G X Z u9) → va_S Ar s.heap H locs → ∀ ls : Array Slot, lv_has ls 12 [(0, .ref X.1), (1, .int xx), (2, .int ((outC (askW (Z.1 2) (Z.1 3) (Z.1 4) (Z.1 5) (zN Z.1)) (worW (zq Z.1) (Z.1 2)) 6).1)), (3, .int (nI (cN (zq Z.1) 512))), (4, .int ((qsM f0 (zN Z.1) k).1)), (5, .int ((qsM f0 (zN Z.1) k).2)), (6, .int (nI k))] → W pG l eG (RM 15 0 0) s mG ([.ref X.1, .int xx] : List Value).toArray below meth cG H locs 0 0 (MQ below (wQi G (S := CU) (fun r u9 => r = nI 1 ∧ CV Z.1 u9) (fun u9 => cT G X Z u9) Ar) ([.ref X.1, .int xx] : List Value).toArray s 0 0 Ar) (F0 mG 20 ls []) := by
    intro fu20
    induction fu20 with
    | zero => intro k u9 hk hu9 hfu20; exact absurd hfu20 (by omega)
    | succ fu20 ih20 =>
      intro k u9 hk hu9 hfu20 H locs hP hD hS ls hl
      refine lv_iload hx hb dL_asks_20 (lv_at hl 6 rfl) ?_
      refine lv_bipush (v := nI 36) hx hb dL_asks_22 (by decide) ?_
      refine lv_icmp_ge (tgt := 165) hx hb dL_asks_24 (by decide) (fun c_24 => ?_) (fun c_24 => ?_)
      · obtain rfl : k = 36 := by have := fe c_24 (by omega) (by omega); omega
        refine lv_iload_n hx hb dL_asks_165 rfl (lv_at hl 1 rfl) ?_
        refine lv_bipush (v := nI 6) hx hb dL_asks_166 (by decide) ?_
        refine rd_go (va_runS (As := [.int xx, .int (nI 6)]) (rest := []) ⟨hx, hb, hml, hown, hts⟩ (c_L_low l G xx 6 (by omega) (by omega)) (va_cwS 2 hts gL_asks_L_low rfl rfl rfl (by decide +kernel) ⟨Nat.le_of_ble_eq_true rfl, Nat.le_of_ble_eq_true rfl⟩) (rS (ws := []) hK hN P_nil) rfl rfl hl.1 rfl (lv_room (Nat.le_of_ble_eq_true rfl)) dL_asks_168 ⟨Nat.le_of_ble_eq_true rfl, Nat.le_of_ble_eq_true rfl⟩) ?_
        refine lv_istore (lv' := [(6, .int (nI (lowN xx 6))), (0, .ref X.1), (1, .int xx), (2, .int ((outC (askW (Z.1 2) (Z.1 3) (Z.1 4) (Z.1 5) (zN Z.1)) (worW (zq Z.1) (Z.1 2)) 6).1)), (3, .int (nI (cN (zq Z.1) 512))), (4, .int ((qsM f0 (zN Z.1) 36).1)), (5, .int ((qsM f0 (zN Z.1) 36).2))]) hx hb dL_asks_171 hl (by decide) rfl (fun ls hl => ?_)
        refine lv_iload hx hb dL_asks_173 (lv_at hl 0 rfl) ?_
        refine lv_iconst (v := nI 1) hx hb dL_asks_175 (by decide) ?_
        refine lv_iadd hx hb dL_asks_176 ?_
        refine lv_cgi (y := nI ((lowN xx 6) + 1)) (nI_add _ _) ?_
        refine lv_iload_n hx hb dL_asks_177 rfl (lv_at hl 2 rfl) ?_
        refine lv_iconst (v := nI 3) hx hb dL_asks_178 (by decide) ?_
        refine lv_ishr hx hb dL_asks_179 ?_
        refine lv_iconst (v := nI 5) hx hb dL_asks_180 (by decide) ?_
        refine rd_go (va_runS (As := [.int (xx >>> ((nI 3) &&& 31)), .int (nI 5)]) (rest := [.int (nI ((lowN xx 6) + 1))]) ⟨hx, hb, hml, hown, hts⟩ (c_L_low l G (xx >>> ((nI 3) &&& 31)) 5 (by omega) (by omega)) (va_cwS 2 hts gL_asks_L_low rfl rfl rfl (by decide +kernel) ⟨Nat.le_of_ble_eq_true rfl, Nat.le_of_ble_eq_true rfl⟩) (rS (ws := []) hK hN P_nil) rfl rfl hl.1 rfl (lv_room (Nat.le_of_ble_eq_true rfl)) dL_asks_181 ⟨Nat.le_of_ble_eq_true rfl, Nat.le_of_ble_eq_true rfl⟩) ?_
        refine lv_iadd hx hb dL_asks_184 ?_
        refine lv_cgi (y := nI (((lowN xx 6) + 1) + (lowN (xx >>> ((nI 3) &&& 31)) 5))) (nI_add _ _) ?_
        refine lv_bipush (v := nI 6) hx hb dL_asks_185 (by decide) ?_
        refine lv_irem hx hb dL_asks_187 (by decide) ?_
        refine lv_cgi (y := nI ((((lowN xx 6) + 1) + (lowN (xx >>> ((nI 3) &&& 31)) 5)) % 6)) (pk_rem (by omega) (by omega) (by omega)) ?_
        refine lv_istore (lv' := [(7, .int (nI ((((lowN xx 6) + 1) + (lowN (xx >>> ((nI 3) &&& 31)) 5)) % 6))), (6, .int (nI (lowN xx 6))), (0, .ref X.1), (1, .int xx), (2, .int ((outC (askW (Z.1 2) (Z.1 3) (Z.1 4) (Z.1 5) (zN Z.1)) (worW (zq Z.1) (Z.1 2)) 6).1)), (3, .int (nI (cN (zq Z.1) 512))), (4, .int ((qsM f0 (zN Z.1) 36).1)), (5, .int ((qsM f0 (zN Z.1) 36).2))]) hx hb dL_asks_188 hl (by decide) rfl (fun ls hl => ?_)
        refine lv_aload_n hx hb dL_asks_190 rfl (lv_at hl 2 rfl) ?_
        refine lv_iload hx hb dL_asks_191 (lv_at hl 1 rfl) ?_
        refine lv_iload hx hb dL_asks_193 (lv_at hl 0 rfl) ?_
        refine lv_iconst (v := nI 3) hx hb dL_asks_195 (by decide) ?_
        refine rd_go (va_runV (As := [.int (nI (lowN xx 6)), .int (nI ((((lowN xx 6) + 1) + (lowN (xx >>> ((nI 3) &&& 31)) 5)) % 6)), .int (nI 3)]) (rest := []) ⟨hx, hb, hml, hown, hts⟩ (k_bt3 l G X Z u9 hZ hz (lowN xx 6) ((((lowN xx 6) + 1) + (lowN (xx >>> ((nI 3) &&& 31)) 5)) % 6) (by omega) (by omega)) (cwV 3 hts gL_asks_X6_between rfl rfl rfl (by decide +kernel) ⟨Nat.le_of_ble_eq_true rfl, Nat.le_of_ble_eq_true rfl⟩) (rV (ws := cT G X Z u9) (va_recv (ws := cT G X Z u9) hK hP (ci := 5) (q0 := 0) rfl rfl) hK hN hP) rfl rfl hl.1 rfl (lv_room (Nat.le_of_ble_eq_true rfl)) dL_asks_196 ⟨Nat.le_of_ble_eq_true rfl, Nat.le_of_ble_eq_true rfl⟩) ?_
        refine lv_istore (lv' := [(8, .int (abt (Z.1 3) (Z.1 4) (Z.1 5) (zN Z.1) (nI (cl (Z.1 2 (lowN xx 6)))) (nI (cl (Z.1 2 ((((lowN xx 6) + 1) + (lowN (xx >>> ((nI 3) &&& 31)) 5)) % 6)))))), (7, .int (nI ((((lowN xx 6) + 1) + (lowN (xx >>> ((nI 3) &&& 31)) 5)) % 6))), (6, .int (nI (lowN xx 6))), (0, .ref X.1), (1, .int xx), (2, .int ((outC (askW (Z.1 2) (Z.1 3) (Z.1 4) (Z.1 5) (zN Z.1)) (worW (zq Z.1) (Z.1 2)) 6).1)), (3, .int (nI (cN (zq Z.1) 512))), (4, .int ((qsM f0 (zN Z.1) 36).1)), (5, .int ((qsM f0 (zN Z.1) 36).2))]) hx hb dL_asks_199 hl (by decide) rfl (fun ls hl => ?_)
        refine lv_iload_n hx hb dL_asks_201 rfl (lv_at hl 5 rfl) ?_
        refine lv_iload hx hb dL_asks_202 (lv_at hl 7 rfl) ?_
        refine lv_icmp_ne (tgt := 239) hx hb dL_asks_204 (by decide) (fun c_204 => ?_) (fun c_204 => ?_)
        · exact (c_204 (lk_bq hR0).symm).elim
        · refine lv_iload hx hb dL_asks_207 (lv_at hl 0 rfl) ?_
          refine lv_iconst (v := (-1)) hx hb dL_asks_209 (by decide) ?_
          refine lv_icmp_eq (tgt := 235) hx hb dL_asks_210 (by decide) (fun c_210 => ?_) (fun c_210 => ?_)
          · refine lv_iconst (v := nI 1) hx hb dL_asks_235 (by decide) ?_
            refine lv_goto (tgt := 240) hx hb dL_asks_236 (by decide) ?_
            exact wr_zret (G := G) (S := CU) u9 hx hb hr hlocks (by first | decide | exact b2_nar _) hP hD hS (Nat.le_of_ble_eq_true rfl) (Nat.le_of_ble_eq_true rfl) (by exact ⟨rfl, hu9⟩) dL_asks_240
          · refine lv_aload_n hx hb dL_asks_213 rfl (lv_at hl 3 rfl) ?_
            refine lv_iload hx hb dL_asks_214 (lv_at hl 2 rfl) ?_
            refine lv_iload hx hb dL_asks_216 (lv_at hl 1 rfl) ?_
            refine wr_woi (mid := cT G X Z u9) (va_runV (As := [.int (nI (lowN xx 6)), .int (nI ((((lowN xx 6) + 1) + (lowN (xx >>> ((nI 3) &&& 31)) 5)) % 6))]) (rest := []) ⟨hx, hb, hml, hown, hts⟩ (k_ift l G _ X Z u9 hZ hz hu9 (lowN xx 6) ((((lowN xx 6) + 1) + (lowN (xx >>> ((nI 3) &&& 31)) 5)) % 6) (by omega) (by omega) (by omega)) (cwV 2 hts gL_asks_X6_ifTouching rfl rfl rfl (by decide +kernel) ⟨Nat.le_of_ble_eq_true rfl, Nat.le_of_ble_eq_true rfl⟩) (wVw (mid := cT G X Z u9) (va_recv (ws := cT G X Z u9) hK hP (ci := 5) (q0 := 0) rfl rfl) hK hN hP hD) rfl rfl hl.1 rfl (lv_room (Nat.le_of_ble_eq_true rfl)) dL_asks_218 ⟨Nat.le_of_ble_eq_true rfl, Nat.le_of_ble_eq_true rfl⟩) hP hD hS hA (fun r u_3 H locs hw hP9 hD9 hS => ?_)
            obtain ⟨rfl, hvu_3⟩ := hw
            have hP : PP G (cT G X Z u_3) _ := hP9
            have hD : va_D Ar (cT G X Z u_3) := hD9
            refine lv_iload hx hb dL_asks_221 (lv_at hl 0 rfl) ?_
            refine lv_iconst (v := nI 1) hx hb dL_asks_223 (by decide) ?_
            refine lv_icmp_ne (tgt := 231) hx hb dL_asks_224 (by decide) (fun c_224 => ?_) (fun c_224 => ?_)
            · refine lv_iconst (v := nI 0) hx hb dL_asks_231 (by decide) ?_
              refine lv_icmp_ne (tgt := 239) hx hb dL_asks_232 (by decide) (fun c_232 => ?_) (fun c_232 => ?_)
              · exact (c_232 ((me_kept hZ (by omega) (by omega) c_210).trans (if_neg c_224))).elim
              · refine lv_iconst (v := nI 1) hx hb dL_asks_235 (by decide) ?_
                refine lv_goto (tgt := 240) hx hb dL_asks_236 (by decide) ?_
                exact wr_zret (G := G) (S := CU) u_3 hx hb hr hlocks (by first | decide | exact b2_nar _) hP hD hS (Nat.le_of_ble_eq_true rfl) (Nat.le_of_ble_eq_true rfl) (by exact ⟨rfl, hvu_3⟩) dL_asks_240
            · refine lv_iload_n hx hb dL_asks_227 rfl (lv_at hl 6 rfl) ?_
              refine lv_goto (tgt := 232) hx hb dL_asks_228 (by decide) ?_
              refine lv_icmp_ne (tgt := 239) hx hb dL_asks_232 (by decide) (fun c_232 => ?_) (fun c_232 => ?_)
              · exact (c_232 ((me_kept hZ (by omega) (by omega) c_210).trans (if_pos c_224))).elim
              · refine lv_iconst (v := nI 1) hx hb dL_asks_235 (by decide) ?_
                refine lv_goto (tgt := 240) hx hb dL_asks_236 (by decide) ?_
                exact wr_zret (G := G) (S := CU) u_3 hx hb hr hlocks (by first | decide | exact b2_nar _) hP hD hS (Nat.le_of_ble_eq_true rfl) (Nat.le_of_ble_eq_true rfl) (by exact ⟨rfl, hvu_3⟩) dL_asks_240
      · have hk1 : k < 36 := fl c_24 (by omega) (by omega)
        refine lv_iload hx hb dL_asks_27 (lv_at hl 6 rfl) ?_
        refine lv_bipush (v := nI 6) hx hb dL_asks_29 (by decide) ?_
        refine lv_idiv hx hb dL_asks_31 (by decide) ?_
        refine lv_cgi (y := nI (k / 6)) (pk_div (by omega) (by omega) (by omega)) ?_
        refine lv_istore (lv' := [(7, .int (nI (k / 6))), (0, .ref X.1), (1, .int xx), (2, .int ((outC (askW (Z.1 2) (Z.1 3) (Z.1 4) (Z.1 5) (zN Z.1)) (worW (zq Z.1) (Z.1 2)) 6).1)), (3, .int (nI (cN (zq Z.1) 512))), (4, .int ((qsM f0 (zN Z.1) k).1)), (5, .int ((qsM f0 (zN Z.1) k).2)), (6, .int (nI k))]) hx hb dL_asks_32 hl (by decide) rfl (fun ls hl => ?_)
        refine lv_iload hx hb dL_asks_34 (lv_at hl 7 rfl) ?_
        refine lv_bipush (v := nI 6) hx hb dL_asks_36 (by decide) ?_
        refine lv_irem hx hb dL_asks_38 (by decide) ?_
        refine lv_cgi (y := nI (k % 6)) (pk_rem (by omega) (by omega) (by omega)) ?_
        refine lv_istore (lv' := [(8, .int (nI (k % 6))), (7, .int (nI (k / 6))), (0, .ref X.1), (1, .int xx), (2, .int ((outC (askW (Z.1 2) (Z.1 3) (Z.1 4) (Z.1 5) (zN Z.1)) (worW (zq Z.1) (Z.1 2)) 6).1)), (3, .int (nI (cN (zq Z.1) 512))), (4, .int ((qsM f0 (zN Z.1) k).1)), (5, .int ((qsM f0 (zN Z.1) k).2)), (6, .int (nI k))]) hx hb dL_asks_39 hl (by decide) rfl (fun ls hl => ?_)
        refine lv_iload hx hb dL_asks_41 (lv_at hl 1 rfl) ?_
        refine lv_iload hx hb dL_asks_43 (lv_at hl 0 rfl) ?_
        refine lv_icmp_ge (tgt := 159) hx hb dL_asks_45 (by decide) (fun c_45 => ?_) (fun c_45 => ?_)
        · refine lv_iinc (v := nI (k + 1)) (lv' := [(6, .int (nI (k + 1))), (8, .int (nI (k % 6))), (7, .int (nI (k / 6))), (0, .ref X.1), (1, .int xx), (2, .int ((outC (askW (Z.1 2) (Z.1 3) (Z.1 4) (Z.1 5) (zN Z.1)) (worW (zq Z.1) (Z.1 2)) 6).1)), (3, .int (nI (cN (zq Z.1) 512))), (4, .int ((qsM f0 (zN Z.1) k).1)), (5, .int ((qsM f0 (zN Z.1) k).2))]) hx hb dL_asks_159 hl (k := 8) rfl (iincN k) (by decide) rfl (fun ls hl => ?_)
          refine lv_goto (tgt := 20) hx hb dL_asks_162 (by decide) ?_
          exact ih20 (k + 1) u9 (by omega) (by exact hu9) (by omega) _ _ hP hD hS ls (lv_as (l1 := [(0, .ref X.1), (1, .int xx), (2, .int ((outC (askW (Z.1 2) (Z.1 3) (Z.1 4) (Z.1 5) (zN Z.1)) (worW (zq Z.1) (Z.1 2)) 6).1)), (3, .int (nI (cN (zq Z.1) 512))), (4, .int ((qsM f0 (zN Z.1) k).1)), (5, .int ((qsM f0 (zN Z.1) k).2)), (6, .int (nI (k + 1)))]) (lv_sub hl [3, 4, 5, 6, 7, 8, 0] rfl) (by rw [qs_no hZ hR0 hk1 (fun h => absurd h.1 (by have := fe c_45 (by omega) (by omega); omega))] <;> rfl))
        · have h45 : k / 6 < k % 6 := fl c_45 (by omega) (by omega)
          refine lv_aload_n hx hb dL_asks_48 rfl (lv_at hl 2 rfl) ?_
          refine lv_iload hx hb dL_asks_49 (lv_at hl 1 rfl) ?_
          refine rd_go (va_runV (As := [.int (nI (k / 6))]) (rest := []) ⟨hx, hb, hml, hown, hts⟩ (k_town l G X Z u9 hZ hz (k / 6) (by omega)) (cwV 1 hts gL_asks_X6_town rfl rfl rfl (by decide +kernel) ⟨Nat.le_of_ble_eq_true rfl, Nat.le_of_ble_eq_true rfl⟩) (rV (ws := cT G X Z u9) (va_recv (ws := cT G X Z u9) hK hP (ci := 5) (q0 := 0) rfl rfl) hK hN hP) rfl rfl hl.1 rfl (lv_room (Nat.le_of_ble_eq_true rfl)) dL_asks_51 ⟨Nat.le_of_ble_eq_true rfl, Nat.le_of_ble_eq_true rfl⟩) ?_
          refine lv_aload_n hx hb dL_asks_54 rfl (lv_at hl 2 rfl) ?_
          refine lv_iload hx hb dL_asks_55 (lv_at hl 0 rfl) ?_
          refine rd_go (va_runV (As := [.int (nI (k % 6))]) (rest := [.int (Z.1 2 (k / 6))]) ⟨hx, hb, hml, hown, hts⟩ (k_town l G X Z u9 hZ hz (k % 6) (by omega)) (cwV 1 hts gL_asks_X6_town rfl rfl rfl (by decide +kernel) ⟨Nat.le_of_ble_eq_true rfl, Nat.le_of_ble_eq_true rfl⟩) (rV (ws := cT G X Z u9) (va_recv (ws := cT G X Z u9) hK hP (ci := 5) (q0 := 0) rfl rfl) hK hN hP) rfl rfl hl.1 rfl (lv_room (Nat.le_of_ble_eq_true rfl)) dL_asks_57 ⟨Nat.le_of_ble_eq_true rfl, Nat.le_of_ble_eq_true rfl⟩) ?_
          refine lv_icmp_eq (tgt := 159) hx hb dL_asks_60 (by decide) (fun c_60 => ?_) (fun c_60 => ?_)
          · refine lv_iinc (v := nI (k + 1)) (lv' := [(6, .int (nI (k + 1))), (8, .int (nI (k % 6))), (7, .int (nI (k / 6))), (0, .ref X.1), (1, .int xx), (2, .int ((outC (askW (Z.1 2) (Z.1 3) (Z.1 4) (Z.1 5) (zN Z.1)) (worW (zq Z.1) (Z.1 2)) 6).1)), (3, .int (nI (cN (zq Z.1) 512))), (4, .int ((qsM f0 (zN Z.1) k).1)), (5, .int ((qsM f0 (zN Z.1) k).2))]) hx hb dL_asks_159 hl (k := 8) rfl (iincN k) (by decide) rfl (fun ls hl => ?_)
            refine lv_goto (tgt := 20) hx hb dL_asks_162 (by decide) ?_
            exact ih20 (k + 1) u9 (by omega) (by exact hu9) (by omega) _ _ hP hD hS ls (lv_as (l1 := [(0, .ref X.1), (1, .int xx), (2, .int ((outC (askW (Z.1 2) (Z.1 3) (Z.1 4) (Z.1 5) (zN Z.1)) (worW (zq Z.1) (Z.1 2)) 6).1)), (3, .int (nI (cN (zq Z.1) 512))), (4, .int ((qsM f0 (zN Z.1) k).1)), (5, .int ((qsM f0 (zN Z.1) k).2)), (6, .int (nI (k + 1)))]) (lv_sub hl [3, 4, 5, 6, 7, 8, 0] rfl) (by rw [qs_no hZ hR0 hk1 (fun h => h.2.1 c_60)] <;> rfl))
          · refine lv_aload_n hx hb dL_asks_63 rfl (lv_at hl 2 rfl) ?_
            refine lv_iload hx hb dL_asks_64 (lv_at hl 1 rfl) ?_
            refine lv_iload hx hb dL_asks_66 (lv_at hl 0 rfl) ?_
            refine lv_iconst (v := nI 3) hx hb dL_asks_68 (by decide) ?_
            refine rd_go (va_runV (As := [.int (nI (k / 6)), .int (nI (k % 6)), .int (nI 3)]) (rest := []) ⟨hx, hb, hml, hown, hts⟩ (k_bt3 l G X Z u9 hZ hz (k / 6) (k % 6) (by omega) (by omega)) (cwV 3 hts gL_asks_X6_between rfl rfl rfl (by decide +kernel) ⟨Nat.le_of_ble_eq_true rfl, Nat.le_of_ble_eq_true rfl⟩) (rV (ws := cT G X Z u9) (va_recv (ws := cT G X Z u9) hK hP (ci := 5) (q0 := 0) rfl rfl) hK hN hP) rfl rfl hl.1 rfl (lv_room (Nat.le_of_ble_eq_true rfl)) dL_asks_69 ⟨Nat.le_of_ble_eq_true rfl, Nat.le_of_ble_eq_true rfl⟩) ?_
            refine lv_iconst (v := (-1)) hx hb dL_asks_72 (by decide) ?_
            refine lv_icmp_ne (tgt := 159) hx hb dL_asks_73 (by decide) (fun c_73 => ?_) (fun c_73 => ?_)
            · refine lv_iinc (v := nI (k + 1)) (lv' := [(6, .int (nI (k + 1))), (8, .int (nI (k % 6))), (7, .int (nI (k / 6))), (0, .ref X.1), (1, .int xx), (2, .int ((outC (askW (Z.1 2) (Z.1 3) (Z.1 4) (Z.1 5) (zN Z.1)) (worW (zq Z.1) (Z.1 2)) 6).1)), (3, .int (nI (cN (zq Z.1) 512))), (4, .int ((qsM f0 (zN Z.1) k).1)), (5, .int ((qsM f0 (zN Z.1) k).2))]) hx hb dL_asks_159 hl (k := 8) rfl (iincN k) (by decide) rfl (fun ls hl => ?_)
              refine lv_goto (tgt := 20) hx hb dL_asks_162 (by decide) ?_
              exact ih20 (k + 1) u9 (by omega) (by exact hu9) (by omega) _ _ hP hD hS ls (lv_as (l1 := [(0, .ref X.1), (1, .int xx), (2, .int ((outC (askW (Z.1 2) (Z.1 3) (Z.1 4) (Z.1 5) (zN Z.1)) (worW (zq Z.1) (Z.1 2)) 6).1)), (3, .int (nI (cN (zq Z.1) 512))), (4, .int ((qsM f0 (zN Z.1) k).1)), (5, .int ((qsM f0 (zN Z.1) k).2)), (6, .int (nI (k + 1)))]) (lv_sub hl [3, 4, 5, 6, 7, 8, 0] rfl) (by rw [qs_no hZ hR0 hk1 (fun h => c_73 h.2.2)] <;> rfl))
            · refine lv_aload_n hx hb dL_asks_76 rfl (lv_at hl 2 rfl) ?_
              refine lv_iload hx hb dL_asks_77 (lv_at hl 1 rfl) ?_
              refine lv_iload hx hb dL_asks_79 (lv_at hl 0 rfl) ?_
              refine wr_woi (mid := cT G X Z u9) (va_runV (As := [.int (nI (k / 6)), .int (nI (k % 6))]) (rest := []) ⟨hx, hb, hml, hown, hts⟩ (k_ift l G _ X Z u9 hZ hz hu9 (k / 6) (k % 6) (by omega) (by omega) (by omega)) (cwV 2 hts gL_asks_X6_ifTouching rfl rfl rfl (by decide +kernel) ⟨Nat.le_of_ble_eq_true rfl, Nat.le_of_ble_eq_true rfl⟩) (wVw (mid := cT G X Z u9) (va_recv (ws := cT G X Z u9) hK hP (ci := 5) (q0 := 0) rfl rfl) hK hN hP hD) rfl rfl hl.1 rfl (lv_room (Nat.le_of_ble_eq_true rfl)) dL_asks_81 ⟨Nat.le_of_ble_eq_true rfl, Nat.le_of_ble_eq_true rfl⟩) hP hD hS hA (fun r u_4 H locs hw hP9 hD9 hS => ?_)
              obtain ⟨rfl, hvu_4⟩ := hw
              have hP : PP G (cT G X Z u_4) _ := hP9
              have hD : va_D Ar (cT G X Z u_4) := hD9
              have hbc := cN_tQ (zq Z.1) (cl (Z.1 2 (k / 6))) (cl (Z.1 2 (k % 6))) 512
              refine lv_cgi (y := nI (cN (tQ (zq Z.1) (cl (Z.1 2 (k / 6))) (cl (Z.1 2 (k % 6)))) 512)) (me_cN _ _ _ 512) ?_
              refine lv_istore (lv' := [(9, .int (nI (cN (tQ (zq Z.1) (cl (Z.1 2 (k / 6))) (cl (Z.1 2 (k % 6)))) 512))), (8, .int (nI (k % 6))), (7, .int (nI (k / 6))), (0, .ref X.1), (1, .int xx), (2, .int ((outC (askW (Z.1 2) (Z.1 3) (Z.1 4) (Z.1 5) (zN Z.1)) (worW (zq Z.1) (Z.1 2)) 6).1)), (3, .int (nI (cN (zq Z.1) 512))), (4, .int ((qsM f0 (zN Z.1) k).1)), (5, .int ((qsM f0 (zN Z.1) k).2)), (6, .int (nI k))]) hx hb dL_asks_84 hl (by decide) rfl (fun ls hl => ?_)
              refine lv_iload hx hb dL_asks_86 (lv_at hl 0 rfl) ?_
              refine lv_iconst (v := nI 2) hx hb dL_asks_88 (by decide) ?_
              refine lv_imul hx hb dL_asks_89 ?_
              refine lv_cgi (y := nI ((cN (tQ (zq Z.1) (cl (Z.1 2 (k / 6))) (cl (Z.1 2 (k % 6)))) 512) * 2)) (pk_mul _ _) ?_
              refine lv_iload_n hx hb dL_asks_90 rfl (lv_at hl 6 rfl) ?_
              have J91 : W pG l eG (RM 15 0 0) s mG ([.ref X.1, .int xx] : List Value).toArray below meth cG H locs 0 0 (MQ below (wQi G (S := CU) (fun r u9 => r = nI 1 ∧ CV Z.1 u9) (fun u9 => cT G X Z u9) Ar) ([.ref X.1, .int xx] : List Value).toArray s 0 0 Ar) (F0 mG 103 ls [.int (mlC (zq Z.1) (cl (Z.1 2 (k / 6))) (cl (Z.1 2 (k % 6))))]) := by
                refine lv_istore (lv' := [(10, .int (mlC (zq Z.1) (cl (Z.1 2 (k / 6))) (cl (Z.1 2 (k % 6))))), (9, .int (nI (cN (tQ (zq Z.1) (cl (Z.1 2 (k / 6))) (cl (Z.1 2 (k % 6)))) 512))), (8, .int (nI (k % 6))), (7, .int (nI (k / 6))), (0, .ref X.1), (1, .int xx), (2, .int ((outC (askW (Z.1 2) (Z.1 3) (Z.1 4) (Z.1 5) (zN Z.1)) (worW (zq Z.1) (Z.1 2)) 6).1)), (3, .int (nI (cN (zq Z.1) 512))), (4, .int ((qsM f0 (zN Z.1) k).1)), (5, .int ((qsM f0 (zN Z.1) k).2)), (6, .int (nI k))]) hx hb dL_asks_103 hl (by decide) rfl (fun ls hl => ?_)
                refine lv_iload hx hb dL_asks_105 (lv_at hl 8 rfl) ?_
                refine lv_iconst (v := (-1)) hx hb dL_asks_107 (by decide) ?_
                refine lv_icmp_eq (tgt := 118) hx hb dL_asks_108 (by decide) (fun c_108 => ?_) (fun c_108 => ?_)
                · refine lv_iconst (v := nI 1) hx hb dL_asks_118 (by decide) ?_
                  refine lv_goto (tgt := 123) hx hb dL_asks_119 (by decide) ?_
                  refine lv_istore (lv' := [(11, .int (nI 1)), (10, .int (mlC (zq Z.1) (cl (Z.1 2 (k / 6))) (cl (Z.1 2 (k % 6))))), (9, .int (nI (cN (tQ (zq Z.1) (cl (Z.1 2 (k / 6))) (cl (Z.1 2 (k % 6)))) 512))), (8, .int (nI (k % 6))), (7, .int (nI (k / 6))), (0, .ref X.1), (1, .int xx), (2, .int ((outC (askW (Z.1 2) (Z.1 3) (Z.1 4) (Z.1 5) (zN Z.1)) (worW (zq Z.1) (Z.1 2)) 6).1)), (3, .int (nI (cN (zq Z.1) 512))), (4, .int ((qsM f0 (zN Z.1) k).1)), (5, .int ((qsM f0 (zN Z.1) k).2)), (6, .int (nI k))]) hx hb dL_asks_123 hl (by decide) rfl (fun ls hl => ?_)
                  refine lv_iload hx hb dL_asks_125 (lv_at hl 0 rfl) ?_
                  refine lv_if_eq (tgt := 141) hx hb dL_asks_127 (by decide) (fun c_127 => ?_) (fun c_127 => ?_)
                  · exact absurd c_127 (by decide)
                  · refine lv_bipush (v := nI 10) hx hb dL_asks_130 (by decide) ?_
                    refine lv_iload hx hb dL_asks_132 (lv_at hl 4 rfl) ?_
                    refine lv_imul hx hb dL_asks_134 ?_
                    refine lv_cgi (y := nI (10 * (k / 6))) (pk_mul _ _) ?_
                    refine lv_iload hx hb dL_asks_135 (lv_at hl 3 rfl) ?_
                    refine lv_iadd hx hb dL_asks_137 ?_
                    refine lv_cgi (y := nI ((10 * (k / 6)) + (k % 6))) (nI_add _ _) ?_
                    refine lv_goto (tgt := 143) hx hb dL_asks_138 (by decide) ?_
                    refine lv_istore (lv' := [(4, .int (nI ((10 * (k / 6)) + (k % 6)))), (11, .int (nI 1)), (10, .int (mlC (zq Z.1) (cl (Z.1 2 (k / 6))) (cl (Z.1 2 (k % 6))))), (9, .int (nI (cN (tQ (zq Z.1) (cl (Z.1 2 (k / 6))) (cl (Z.1 2 (k % 6)))) 512))), (8, .int (nI (k % 6))), (7, .int (nI (k / 6))), (0, .ref X.1), (1, .int xx), (2, .int ((outC (askW (Z.1 2) (Z.1 3) (Z.1 4) (Z.1 5) (zN Z.1)) (worW (zq Z.1) (Z.1 2)) 6).1)), (3, .int (nI (cN (zq Z.1) 512))), (5, .int ((qsM f0 (zN Z.1) k).2)), (6, .int (nI k))]) hx hb dL_asks_143 hl (by decide) rfl (fun ls hl => ?_)
                    refine lv_iload hx hb dL_asks_145 (lv_at hl 1 rfl) ?_
                    refine lv_if_eq (tgt := 155) hx hb dL_asks_147 (by decide) (fun c_147 => ?_) (fun c_147 => ?_)
                    · exact absurd c_147 (by decide)
                    · refine lv_iload hx hb dL_asks_150 (lv_at hl 2 rfl) ?_
                      refine lv_goto (tgt := 157) hx hb dL_asks_152 (by decide) ?_
                      refine lv_istore (lv' := [(5, .int (mlC (zq Z.1) (cl (Z.1 2 (k / 6))) (cl (Z.1 2 (k % 6))))), (4, .int (nI ((10 * (k / 6)) + (k % 6)))), (11, .int (nI 1)), (10, .int (mlC (zq Z.1) (cl (Z.1 2 (k / 6))) (cl (Z.1 2 (k % 6))))), (9, .int (nI (cN (tQ (zq Z.1) (cl (Z.1 2 (k / 6))) (cl (Z.1 2 (k % 6)))) 512))), (8, .int (nI (k % 6))), (7, .int (nI (k / 6))), (0, .ref X.1), (1, .int xx), (2, .int ((outC (askW (Z.1 2) (Z.1 3) (Z.1 4) (Z.1 5) (zN Z.1)) (worW (zq Z.1) (Z.1 2)) 6).1)), (3, .int (nI (cN (zq Z.1) 512))), (6, .int (nI k))]) hx hb dL_asks_157 hl (by decide) rfl (fun ls hl => ?_)
                      refine lv_iinc (v := nI (k + 1)) (lv' := [(6, .int (nI (k + 1))), (5, .int (mlC (zq Z.1) (cl (Z.1 2 (k / 6))) (cl (Z.1 2 (k % 6))))), (4, .int (nI ((10 * (k / 6)) + (k % 6)))), (11, .int (nI 1)), (10, .int (mlC (zq Z.1) (cl (Z.1 2 (k / 6))) (cl (Z.1 2 (k % 6))))), (9, .int (nI (cN (tQ (zq Z.1) (cl (Z.1 2 (k / 6))) (cl (Z.1 2 (k % 6)))) 512))), (8, .int (nI (k % 6))), (7, .int (nI (k / 6))), (0, .ref X.1), (1, .int xx), (2, .int ((outC (askW (Z.1 2) (Z.1 3) (Z.1 4) (Z.1 5) (zN Z.1)) (worW (zq Z.1) (Z.1 2)) 6).1)), (3, .int (nI (cN (zq Z.1) 512)))]) hx hb dL_asks_159 hl (k := 11) rfl (iincN k) (by decide) rfl (fun ls hl => ?_)
                      refine lv_goto (tgt := 20) hx hb dL_asks_162 (by decide) ?_
                      exact ih20 (k + 1) u_4 (by omega) (by exact hvu_4) (by omega) _ _ hP hD hS ls (lv_as (l1 := [(0, .ref X.1), (1, .int xx), (2, .int ((outC (askW (Z.1 2) (Z.1 3) (Z.1 4) (Z.1 5) (zN Z.1)) (worW (zq Z.1) (Z.1 2)) 6).1)), (3, .int (nI (cN (zq Z.1) 512))), (4, .int (nI ((10 * (k / 6)) + (k % 6)))), (5, .int (mlC (zq Z.1) (cl (Z.1 2 (k / 6))) (cl (Z.1 2 (k % 6))))), (6, .int (nI (k + 1)))]) (lv_sub hl [8, 9, 10, 11, 2, 1, 0] rfl) (by rw [qs_yes hZ hR0 hk1 (fl c_45 (by omega) (by omega)) c_60 c_73 (Or.inl c_108)] <;> rfl))
                · refine lv_iload hx hb dL_asks_111 (lv_at hl 0 rfl) ?_
                  refine lv_iload hx hb dL_asks_113 (lv_at hl 9 rfl) ?_
                  refine lv_icmp_ge (tgt := 122) hx hb dL_asks_115 (by decide) (fun c_115 => ?_) (fun c_115 => ?_)
                  · refine lv_iconst (v := nI 0) hx hb dL_asks_122 (by decide) ?_
                    refine lv_istore (lv' := [(11, .int (nI 0)), (10, .int (mlC (zq Z.1) (cl (Z.1 2 (k / 6))) (cl (Z.1 2 (k % 6))))), (9, .int (nI (cN (tQ (zq Z.1) (cl (Z.1 2 (k / 6))) (cl (Z.1 2 (k % 6)))) 512))), (8, .int (nI (k % 6))), (7, .int (nI (k / 6))), (0, .ref X.1), (1, .int xx), (2, .int ((outC (askW (Z.1 2) (Z.1 3) (Z.1 4) (Z.1 5) (zN Z.1)) (worW (zq Z.1) (Z.1 2)) 6).1)), (3, .int (nI (cN (zq Z.1) 512))), (4, .int ((qsM f0 (zN Z.1) k).1)), (5, .int ((qsM f0 (zN Z.1) k).2)), (6, .int (nI k))]) hx hb dL_asks_123 hl (by decide) rfl (fun ls hl => ?_)
                    refine lv_iload hx hb dL_asks_125 (lv_at hl 0 rfl) ?_
                    refine lv_if_eq (tgt := 141) hx hb dL_asks_127 (by decide) (fun c_127 => ?_) (fun c_127 => ?_)
                    · refine lv_iload hx hb dL_asks_141 (lv_at hl 9 rfl) ?_
                      refine lv_istore (lv' := [(4, .int ((qsM f0 (zN Z.1) k).1)), (11, .int (nI 0)), (10, .int (mlC (zq Z.1) (cl (Z.1 2 (k / 6))) (cl (Z.1 2 (k % 6))))), (9, .int (nI (cN (tQ (zq Z.1) (cl (Z.1 2 (k / 6))) (cl (Z.1 2 (k % 6)))) 512))), (8, .int (nI (k % 6))), (7, .int (nI (k / 6))), (0, .ref X.1), (1, .int xx), (2, .int ((outC (askW (Z.1 2) (Z.1 3) (Z.1 4) (Z.1 5) (zN Z.1)) (worW (zq Z.1) (Z.1 2)) 6).1)), (3, .int (nI (cN (zq Z.1) 512))), (5, .int ((qsM f0 (zN Z.1) k).2)), (6, .int (nI k))]) hx hb dL_asks_143 hl (by decide) rfl (fun ls hl => ?_)
                      refine lv_iload hx hb dL_asks_145 (lv_at hl 1 rfl) ?_
                      refine lv_if_eq (tgt := 155) hx hb dL_asks_147 (by decide) (fun c_147 => ?_) (fun c_147 => ?_)
                      · refine lv_iload hx hb dL_asks_155 (lv_at hl 10 rfl) ?_
                        refine lv_istore (lv' := [(5, .int ((qsM f0 (zN Z.1) k).2)), (4, .int ((qsM f0 (zN Z.1) k).1)), (11, .int (nI 0)), (10, .int (mlC (zq Z.1) (cl (Z.1 2 (k / 6))) (cl (Z.1 2 (k % 6))))), (9, .int (nI (cN (tQ (zq Z.1) (cl (Z.1 2 (k / 6))) (cl (Z.1 2 (k % 6)))) 512))), (8, .int (nI (k % 6))), (7, .int (nI (k / 6))), (0, .ref X.1), (1, .int xx), (2, .int ((outC (askW (Z.1 2) (Z.1 3) (Z.1 4) (Z.1 5) (zN Z.1)) (worW (zq Z.1) (Z.1 2)) 6).1)), (3, .int (nI (cN (zq Z.1) 512))), (6, .int (nI k))]) hx hb dL_asks_157 hl (by decide) rfl (fun ls hl => ?_)
                        refine lv_iinc (v := nI (k + 1)) (lv' := [(6, .int (nI (k + 1))), (5, .int ((qsM f0 (zN Z.1) k).2)), (4, .int ((qsM f0 (zN Z.1) k).1)), (11, .int (nI 0)), (10, .int (mlC (zq Z.1) (cl (Z.1 2 (k / 6))) (cl (Z.1 2 (k % 6))))), (9, .int (nI (cN (tQ (zq Z.1) (cl (Z.1 2 (k / 6))) (cl (Z.1 2 (k % 6)))) 512))), (8, .int (nI (k % 6))), (7, .int (nI (k / 6))), (0, .ref X.1), (1, .int xx), (2, .int ((outC (askW (Z.1 2) (Z.1 3) (Z.1 4) (Z.1 5) (zN Z.1)) (worW (zq Z.1) (Z.1 2)) 6).1)), (3, .int (nI (cN (zq Z.1) 512)))]) hx hb dL_asks_159 hl (k := 11) rfl (iincN k) (by decide) rfl (fun ls hl => ?_)
                        refine lv_goto (tgt := 20) hx hb dL_asks_162 (by decide) ?_
                        exact ih20 (k + 1) u_4 (by omega) (by exact hvu_4) (by omega) _ _ hP hD hS ls (lv_as (l1 := [(0, .ref X.1), (1, .int xx), (2, .int ((outC (askW (Z.1 2) (Z.1 3) (Z.1 4) (Z.1 5) (zN Z.1)) (worW (zq Z.1) (Z.1 2)) 6).1)), (3, .int (nI (cN (zq Z.1) 512))), (4, .int ((qsM f0 (zN Z.1) k).1)), (5, .int ((qsM f0 (zN Z.1) k).2)), (6, .int (nI (k + 1)))]) (lv_sub hl [8, 9, 10, 11, 2, 1, 0] rfl) (by rw [qs_keep hZ hR0 hk1 c_108 c_115] <;> rfl))
                      · exact absurd c_147 (by decide)
                    · exact absurd c_127 (by decide)
                  · refine lv_iconst (v := nI 1) hx hb dL_asks_118 (by decide) ?_
                    refine lv_goto (tgt := 123) hx hb dL_asks_119 (by decide) ?_
                    refine lv_istore (lv' := [(11, .int (nI 1)), (10, .int (mlC (zq Z.1) (cl (Z.1 2 (k / 6))) (cl (Z.1 2 (k % 6))))), (9, .int (nI (cN (tQ (zq Z.1) (cl (Z.1 2 (k / 6))) (cl (Z.1 2 (k % 6)))) 512))), (8, .int (nI (k % 6))), (7, .int (nI (k / 6))), (0, .ref X.1), (1, .int xx), (2, .int ((outC (askW (Z.1 2) (Z.1 3) (Z.1 4) (Z.1 5) (zN Z.1)) (worW (zq Z.1) (Z.1 2)) 6).1)), (3, .int (nI (cN (zq Z.1) 512))), (4, .int ((qsM f0 (zN Z.1) k).1)), (5, .int ((qsM f0 (zN Z.1) k).2)), (6, .int (nI k))]) hx hb dL_asks_123 hl (by decide) rfl (fun ls hl => ?_)
                    refine lv_iload hx hb dL_asks_125 (lv_at hl 0 rfl) ?_
                    refine lv_if_eq (tgt := 141) hx hb dL_asks_127 (by decide) (fun c_127 => ?_) (fun c_127 => ?_)
                    · exact absurd c_127 (by decide)
                    · refine lv_bipush (v := nI 10) hx hb dL_asks_130 (by decide) ?_
                      refine lv_iload hx hb dL_asks_132 (lv_at hl 4 rfl) ?_
                      refine lv_imul hx hb dL_asks_134 ?_
                      refine lv_cgi (y := nI (10 * (k / 6))) (pk_mul _ _) ?_
                      refine lv_iload hx hb dL_asks_135 (lv_at hl 3 rfl) ?_
                      refine lv_iadd hx hb dL_asks_137 ?_
                      refine lv_cgi (y := nI ((10 * (k / 6)) + (k % 6))) (nI_add _ _) ?_
                      refine lv_goto (tgt := 143) hx hb dL_asks_138 (by decide) ?_
                      refine lv_istore (lv' := [(4, .int (nI ((10 * (k / 6)) + (k % 6)))), (11, .int (nI 1)), (10, .int (mlC (zq Z.1) (cl (Z.1 2 (k / 6))) (cl (Z.1 2 (k % 6))))), (9, .int (nI (cN (tQ (zq Z.1) (cl (Z.1 2 (k / 6))) (cl (Z.1 2 (k % 6)))) 512))), (8, .int (nI (k % 6))), (7, .int (nI (k / 6))), (0, .ref X.1), (1, .int xx), (2, .int ((outC (askW (Z.1 2) (Z.1 3) (Z.1 4) (Z.1 5) (zN Z.1)) (worW (zq Z.1) (Z.1 2)) 6).1)), (3, .int (nI (cN (zq Z.1) 512))), (5, .int ((qsM f0 (zN Z.1) k).2)), (6, .int (nI k))]) hx hb dL_asks_143 hl (by decide) rfl (fun ls hl => ?_)
                      refine lv_iload hx hb dL_asks_145 (lv_at hl 1 rfl) ?_
                      refine lv_if_eq (tgt := 155) hx hb dL_asks_147 (by decide) (fun c_147 => ?_) (fun c_147 => ?_)
                      · exact absurd c_147 (by decide)
                      · refine lv_iload hx hb dL_asks_150 (lv_at hl 2 rfl) ?_
                        refine lv_goto (tgt := 157) hx hb dL_asks_152 (by decide) ?_
                        refine lv_istore (lv' := [(5, .int (mlC (zq Z.1) (cl (Z.1 2 (k / 6))) (cl (Z.1 2 (k % 6))))), (4, .int (nI ((10 * (k / 6)) + (k % 6)))), (11, .int (nI 1)), (10, .int (mlC (zq Z.1) (cl (Z.1 2 (k / 6))) (cl (Z.1 2 (k % 6))))), (9, .int (nI (cN (tQ (zq Z.1) (cl (Z.1 2 (k / 6))) (cl (Z.1 2 (k % 6)))) 512))), (8, .int (nI (k % 6))), (7, .int (nI (k / 6))), (0, .ref X.1), (1, .int xx), (2, .int ((outC (askW (Z.1 2) (Z.1 3) (Z.1 4) (Z.1 5) (zN Z.1)) (worW (zq Z.1) (Z.1 2)) 6).1)), (3, .int (nI (cN (zq Z.1) 512))), (6, .int (nI k))]) hx hb dL_asks_157 hl (by decide) rfl (fun ls hl => ?_)
                        refine lv_iinc (v := nI (k + 1)) (lv' := [(6, .int (nI (k + 1))), (5, .int (mlC (zq Z.1) (cl (Z.1 2 (k / 6))) (cl (Z.1 2 (k % 6))))), (4, .int (nI ((10 * (k / 6)) + (k % 6)))), (11, .int (nI 1)), (10, .int (mlC (zq Z.1) (cl (Z.1 2 (k / 6))) (cl (Z.1 2 (k % 6))))), (9, .int (nI (cN (tQ (zq Z.1) (cl (Z.1 2 (k / 6))) (cl (Z.1 2 (k % 6)))) 512))), (8, .int (nI (k % 6))), (7, .int (nI (k / 6))), (0, .ref X.1), (1, .int xx), (2, .int ((outC (askW (Z.1 2) (Z.1 3) (Z.1 4) (Z.1 5) (zN Z.1)) (worW (zq Z.1) (Z.1 2)) 6).1)), (3, .int (nI (cN (zq Z.1) 512)))]) hx hb dL_asks_159 hl (k := 11) rfl (iincN k) (by decide) rfl (fun ls hl => ?_)
                        refine lv_goto (tgt := 20) hx hb dL_asks_162 (by decide) ?_
                        exact ih20 (k + 1) u_4 (by omega) (by exact hvu_4) (by omega) _ _ hP hD hS ls (lv_as (l1 := [(0, .ref X.1), (1, .int xx), (2, .int ((outC (askW (Z.1 2) (Z.1 3) (Z.1 4) (Z.1 5) (zN Z.1)) (worW (zq Z.1) (Z.1 2)) 6).1)), (3, .int (nI (cN (zq Z.1) 512))), (4, .int (nI ((10 * (k / 6)) + (k % 6)))), (5, .int (mlC (zq Z.1) (cl (Z.1 2 (k / 6))) (cl (Z.1 2 (k % 6))))), (6, .int (nI (k + 1)))]) (lv_sub hl [8, 9, 10, 11, 2, 1, 0] rfl) (by rw [qs_yes hZ hR0 hk1 (fl c_45 (by omega) (by omega)) c_60 c_73 (Or.inr c_115)] <;> rfl))
              refine lv_icmp_le (tgt := 99) hx hb dL_asks_91 (by decide) (fun c_91 => ?_) (fun c_91 => ?_)
              · refine lv_iload_n hx hb dL_asks_99 rfl (lv_at hl 6 rfl) ?_
                refine lv_iload hx hb dL_asks_100 (lv_at hl 0 rfl) ?_
                refine lv_isub hx hb dL_asks_102 ?_
                refine lv_cgi (y := nI ((cN (zq Z.1) 512) - (cN (tQ (zq Z.1) (cl (Z.1 2 (k / 6))) (cl (Z.1 2 (k % 6)))) 512))) (pk_sub (by omega)) ?_
                exact lv_cgi (y := mlC (zq Z.1) (cl (Z.1 2 (k / 6))) (cl (Z.1 2 (k % 6)))) (by exact ml_b c_91) J91
              · refine lv_iload hx hb dL_asks_94 (lv_at hl 0 rfl) ?_
                refine lv_goto (tgt := 103) hx hb dL_asks_96 (by decide) ?_
                exact lv_cgi (y := mlC (zq Z.1) (cl (Z.1 2 (k / 6))) (cl (Z.1 2 (k % 6)))) (by exact ml_a c_91) J91
  exact L20 37 0 u_2 (by omega) (by exact hvu_2) (by omega) _ _ hP hD hS ls (lv_as (l1 := [(0, .ref X.1), (1, .int xx), (2, .int ((outC (askW (Z.1 2) (Z.1 3) (Z.1 4) (Z.1 5) (zN Z.1)) (worW (zq Z.1) (Z.1 2)) 6).1)), (3, .int (nI (cN (zq Z.1) 512))), (4, .int (-1)), (5, .int (nI 0)), (6, .int (nI 0))]) (lv_sub hl [5, 6, 4, 3, 2, 1, 0] rfl) (by rfl))

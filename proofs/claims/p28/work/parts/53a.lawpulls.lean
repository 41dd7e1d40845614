theorem orS_tn {B : Nat} {g : Nat → Nat → Int32} (h : OKg B g) : orS (fun k => bI (g 0 1) (nI k)) 9 = g 0 1 := by
  obtain ⟨a, ha, e⟩ := okg_b h
  rw [e]; exact orS_eq ha

set_option maxHeartbeats 4000000 in
set_option maxRecDepth 100000 in
theorem k_pulls (l : Launch) (G : GG) (sz : Nat) (X : AD) (Z : ZZ) (u : CU) {B : Nat} (hZ : OKg B Z.1) (hz : Z.2.2.2.1 ≤ 6) (hu : CV Z.1 u) (y : Nat) (hy1 : 1 ≤ y) (hy9 : y ≤ 9) : WRi l yL_pulls wsL_pulls 15 G [.ref X.1, .int (nI y)] (cT G X Z u) sz (S := CU) (fun r u9 => r = nI 1 ∧ CV (gPull Z.1 y) u9) (fun u9 => cT G X (zS Z (gPull Z.1 y)) u9) 0 0 := by
  refine wr_of (l := l) (y := yL_pulls) (w := wsL_pulls) (d := 15) (G := G) (As := [.ref X.1, .int (nI y)]) (sz := sz) (mc := 0) (ms := 0) (cc := cL_pulls) (maxL := 8) (ret := (some .boolean)) (Qc := fun Ar => wQi G (S := CU) (fun r u9 => r = nI 1 ∧ CV (gPull Z.1 y) u9) (fun u9 => cT G X (zS Z (gPull Z.1 y)) u9) Ar) (by decide) rfl (Nat.le_of_ble_eq_true rfl) ?_
  intro pG eG s mG below meth cG hsz hx hb hr hml hts hown hlocks hnm hP hK hN Ar hD hA hS ls hl
  have hown : s.vm.findClass RL = some mG.cls := hown
  have hP : PP G (cT G X Z u) s.heap := hP
  have hD : va_D Ar (cT G X Z u) := hD
  have hl : lv_has ls 8 [(0, .ref X.1), (1, .int (nI y))] := hl
  refine lv_iconst (v := nI 0) hx hb dL_pulls_0 (by decide) ?_
  refine lv_istore_n (lv' := [(2, .int (nI 0)), (0, .ref X.1), (1, .int (nI y))]) hx hb dL_pulls_1 rfl hl (by decide) rfl (fun ls hl => ?_)
  refine lv_iconst (v := nI 0) hx hb dL_pulls_2 (by decide) ?_
  refine lv_istore_n (lv' := [(3, .int (nI 0)), (2, .int (nI 0)), (0, .ref X.1), (1, .int (nI y))]) hx hb dL_pulls_3 rfl hl (by decide) rfl (fun ls hl => ?_)
  refine lv_aload_n hx hb dL_pulls_4 rfl (lv_at hl 2 rfl) ?_
  refine lv_iconst (v := nI 3) hx hb dL_pulls_5 (by decide) ?_
  refine wr_woi (mid := cT G X Z u) (va_runV (As := [.int (nI 3)]) (rest := []) ⟨hx, hb, hml, hown, hts⟩ (k_co3 l G _ X Z u hZ hz hu) (cwV 1 hts gL_pulls_X6_count rfl rfl rfl (by decide +kernel) ⟨Nat.le_of_ble_eq_true rfl, Nat.le_of_ble_eq_true rfl⟩) (wVw (mid := cT G X Z u) (va_recv (ws := cT G X Z u) hK hP (ci := 5) (q0 := 0) rfl rfl) hK hN hP hD) rfl rfl hl.1 rfl (lv_room (Nat.le_of_ble_eq_true rfl)) dL_pulls_6 ⟨Nat.le_of_ble_eq_true rfl, Nat.le_of_ble_eq_true rfl⟩) hP hD hS hA (fun r u_1 H locs hw hP9 hD9 hS => ?_)
  obtain ⟨rfl, hvu_1⟩ := hw
  have hP : PP G (cT G X Z u_1) _ := hP9
  have hD : va_D Ar (cT G X Z u_1) := hD9
  refine lv_istore (lv' := [(4, .int (Z.1 0 6)), (3, .int (nI 0)), (2, .int (nI 0)), (0, .ref X.1), (1, .int (nI y))]) hx hb dL_pulls_9 hl (by decide) rfl (fun ls hl => ?_)
  refine lv_iconst (v := nI 0) hx hb dL_pulls_11 (by decide) ?_
  refine lv_istore (lv' := [(5, .int (nI 0)), (4, .int (Z.1 0 6)), (3, .int (nI 0)), (2, .int (nI 0)), (0, .ref X.1), (1, .int (nI y))]) hx hb dL_pulls_12 hl (by decide) rfl (fun ls hl => ?_)
  have L14 : ∀ (fu14 : Nat) (k : Nat) (u9 : CU) (hk : k ≤ 9) (hu9 : CV Z.1 u9), 10 ≤ k + fu14 → ∀ (H : Heap) (locs : List Loc), PP G (cT G X Z u9) H → va_D Ar (cT G X Z u9) → va_S Ar s.heap H locs → ∀ ls : Array Slot, lv_has ls 8 [(0, .ref X.1), (1, .int (nI y)), (2, .int (orS (fun k => bI (Z.1 0 1) (nI k)) k)), (3, .int (teaS (Z.1 0 0) (Z.1 1) (nI (10 - y)) k)), (4, .int (Z.1 0 6)), (5, .int (nI k))] → W pG l eG (RM 15 0 0) s mG ([.ref X.1, .int (nI y)] : List Value).toArray below meth cG H locs 0 0 (MQ below (wQi G (S := CU) (fun r u9 => r = nI 1 ∧ CV (gPull Z.1 y) u9) (fun u9 => cT G X (zS Z (gPull Z.1 y)) u9) Ar) ([.ref X.1, .int (nI y)] : List Value).toArray s 0 0 Ar) (F0 mG 14 ls []) := by
    intro fu14
    induction fu14 with
    | zero => intro k u9 hk hu9 hfu14; exact absurd hfu14 (by omega)
    | succ fu14 ih14 =>
      intro k u9 hk hu9 hfu14 H locs hP hD hS ls hl
      refine lv_iload hx hb dL_pulls_14 (lv_at hl 5 rfl) ?_
      refine lv_bipush (v := nI 9) hx hb dL_pulls_16 (by decide) ?_
      refine lv_icmp_ge (tgt := 76) hx hb dL_pulls_18 (by decide) (fun c_18 => ?_) (fun c_18 => ?_)
      · obtain rfl : k = 9 := by have := fe c_18 (by omega) (by omega); omega
        have hl : lv_has ls 8 [(0, .ref X.1), (1, .int (nI y)), (2, .int (Z.1 0 1)), (3, .int (tea Z.1 y)), (4, .int (Z.1 0 6)), (5, .int (nI 9))] := lv_as hl (by rw [orS_tn hZ] <;> rfl)
        refine lv_aload_n hx hb dL_pulls_76 rfl (lv_at hl 0 rfl) ?_
        refine wr_woi (mid := cT G X Z u9) (va_runS (As := [.ref X.1]) (rest := []) ⟨hx, hb, hml, hown, hts⟩ (k_folded l G _ X Z u9 hZ hz hu9) (va_cwS 1 hts gL_pulls_L_folded rfl rfl rfl (by decide +kernel) ⟨Nat.le_of_ble_eq_true rfl, Nat.le_of_ble_eq_true rfl⟩) (wSw (mid := cT G X Z u9) hK hN hP hD) rfl rfl hl.1 rfl (lv_room (Nat.le_of_ble_eq_true rfl)) dL_pulls_77 ⟨Nat.le_of_ble_eq_true rfl, Nat.le_of_ble_eq_true rfl⟩) hP hD hS hA (fun r u_2 H locs hw hP9 hD9 hS => ?_)
        obtain ⟨rfl, hvu_2⟩ := hw
        have hP : PP G (cT G X Z u_2) _ := hP9
        have hD : va_D Ar (cT G X Z u_2) := hD9
        refine lv_istore (lv' := [(5, .int (Z.1 0 0)), (0, .ref X.1), (1, .int (nI y)), (2, .int (Z.1 0 1)), (3, .int (tea Z.1 y)), (4, .int (Z.1 0 6))]) hx hb dL_pulls_80 hl (by decide) rfl (fun ls hl => ?_)
        refine lv_aload_n hx hb dL_pulls_82 rfl (lv_at hl 1 rfl) ?_
        refine lv_iload_n hx hb dL_pulls_83 rfl (lv_at hl 2 rfl) ?_
        refine wr_woi (mid := cT G X Z u_2) (va_runV (As := [.int (nI y)]) (rest := []) ⟨hx, hb, hml, hown, hts⟩ (k_pull l G _ X Z u_2 hZ hz y (by omega) (by omega)) (cwV 1 hts gL_pulls_X6_pull rfl rfl rfl (by decide +kernel) ⟨Nat.le_of_ble_eq_true rfl, Nat.le_of_ble_eq_true rfl⟩) (wVw (mid := cT G X Z u_2) (va_recv (ws := cT G X Z u_2) hK hP (ci := 5) (q0 := 0) rfl rfl) hK hN hP hD) rfl rfl hl.1 rfl (lv_room (Nat.le_of_ble_eq_true rfl)) dL_pulls_84 ⟨Nat.le_of_ble_eq_true rfl, Nat.le_of_ble_eq_true rfl⟩) hP hD hS hA (fun r u9 H locs hw hP9 hD9 hS => ?_)
        subst hw
        have hP : PP G (cT G X (zS Z (gPull Z.1 y)) (u_2.1, u_2.2.1, nI 0)) _ := hP9
        have hD : va_D Ar (cT G X (zS Z (gPull Z.1 y)) (u_2.1, u_2.2.1, nI 0)) := hD9
        have hZ9 : OKg (B + 1) (zS Z (gPull Z.1 y)).1 := ok_pull hZ y
        have hz9 : (zS Z (gPull Z.1 y)).2.2.2.1 ≤ 6 := svm_le hz
        have hc9 : CV (zS Z (gPull Z.1 y)).1 (u_2.1, u_2.2.1, nI 0) := Or.inl rfl
        refine lv_iload_n hx hb dL_pulls_87 rfl (lv_at hl 4 rfl) ?_
        refine rd_go (va_runS (As := [.int (tea Z.1 y)]) (rest := [.int (bcn (tea Z.1 y))]) ⟨hx, hb, hml, hown, hts⟩ (c_L_bits l G (tea Z.1 y)) (va_cwS 1 hts gL_pulls_L_bits rfl rfl rfl (by decide +kernel) ⟨Nat.le_of_ble_eq_true rfl, Nat.le_of_ble_eq_true rfl⟩) (rS (ws := []) hK hN P_nil) rfl rfl hl.1 rfl (lv_room (Nat.le_of_ble_eq_true rfl)) dL_pulls_88 ⟨Nat.le_of_ble_eq_true rfl, Nat.le_of_ble_eq_true rfl⟩) ?_
        refine lv_icmp_ne (tgt := 129) hx hb dL_pulls_91 (by decide) (fun c_91 => ?_) (fun c_91 => ?_)
        · exact absurd (tea_bits _ _).symm c_91
        · refine lv_aload_n hx hb dL_pulls_94 rfl (lv_at hl 1 rfl) ?_
          refine wr_woi (mid := cT G X (zS Z (gPull Z.1 y)) (u_2.1, u_2.2.1, nI 0)) (va_runS (As := [.ref X.1]) (rest := []) ⟨hx, hb, hml, hown, hts⟩ (k_folded l G _ X (zS Z (gPull Z.1 y)) (u_2.1, u_2.2.1, nI 0) hZ9 hz9 hc9) (va_cwS 1 hts gL_pulls_L_folded rfl rfl rfl (by decide +kernel) ⟨Nat.le_of_ble_eq_true rfl, Nat.le_of_ble_eq_true rfl⟩) (wSw (mid := cT G X (zS Z (gPull Z.1 y)) (u_2.1, u_2.2.1, nI 0)) hK hN hP hD) rfl rfl hl.1 rfl (lv_room (Nat.le_of_ble_eq_true rfl)) dL_pulls_95 ⟨Nat.le_of_ble_eq_true rfl, Nat.le_of_ble_eq_true rfl⟩) hP hD hS hA (fun r u_3 H locs hw hP9 hD9 hS => ?_)
          obtain ⟨rfl, hvu_3⟩ := hw
          have hP : PP G (cT G X (zS Z (gPull Z.1 y)) u_3) _ := hP9
          have hD : va_D Ar (cT G X (zS Z (gPull Z.1 y)) u_3) := hD9
          refine lv_iload hx hb dL_pulls_98 (lv_at hl 0 rfl) ?_
          refine lv_iload_n hx hb dL_pulls_100 rfl (lv_at hl 4 rfl) ?_
          refine lv_iconst (v := (-1)) hx hb dL_pulls_101 (by decide) ?_
          refine lv_ixor hx hb dL_pulls_102 ?_
          refine lv_iand hx hb dL_pulls_103 ?_
          refine lv_icmp_ne (tgt := 129) hx hb dL_pulls_104 (by decide) (fun c_104 => ?_) (fun c_104 => ?_)
          · exact absurd rfl c_104
          · refine lv_aload_n hx hb dL_pulls_107 rfl (lv_at hl 1 rfl) ?_
            refine lv_iconst (v := nI 3) hx hb dL_pulls_108 (by decide) ?_
            refine wr_woi (mid := cT G X (zS Z (gPull Z.1 y)) u_3) (va_runV (As := [.int (nI 3)]) (rest := []) ⟨hx, hb, hml, hown, hts⟩ (k_co3 l G _ X (zS Z (gPull Z.1 y)) u_3 hZ9 hz9 hvu_3) (cwV 1 hts gL_pulls_X6_count rfl rfl rfl (by decide +kernel) ⟨Nat.le_of_ble_eq_true rfl, Nat.le_of_ble_eq_true rfl⟩) (wVw (mid := cT G X (zS Z (gPull Z.1 y)) u_3) (va_recv (ws := cT G X (zS Z (gPull Z.1 y)) u_3) hK hP (ci := 5) (q0 := 0) rfl rfl) hK hN hP hD) rfl rfl hl.1 rfl (lv_room (Nat.le_of_ble_eq_true rfl)) dL_pulls_109 ⟨Nat.le_of_ble_eq_true rfl, Nat.le_of_ble_eq_true rfl⟩) hP hD hS hA (fun r u_4 H locs hw hP9 hD9 hS => ?_)
            obtain ⟨rfl, hvu_4⟩ := hw
            have hP : PP G (cT G X (zS Z (gPull Z.1 y)) u_4) _ := hP9
            have hD : va_D Ar (cT G X (zS Z (gPull Z.1 y)) u_4) := hD9
            refine lv_iload_n hx hb dL_pulls_112 rfl (lv_at hl 4 rfl) ?_
            have J113 : W pG l eG (RM 15 0 0) s mG ([.ref X.1, .int (nI y)] : List Value).toArray below meth cG H locs 0 0 (MQ below (wQi G (S := CU) (fun r u9 => r = nI 1 ∧ CV (gPull Z.1 y) u9) (fun u9 => cT G X (zS Z (gPull Z.1 y)) u9) Ar) ([.ref X.1, .int (nI y)] : List Value).toArray s 0 0 Ar) (F0 mG 122 ls [.int ((zS Z (gPull Z.1 y)).1 0 6), .int ((zS Z (gPull Z.1 y)).1 0 6)]) := by
              refine lv_icmp_ne (tgt := 129) hx hb dL_pulls_122 (by decide) (fun c_122 => ?_) (fun c_122 => ?_)
              · exact absurd rfl c_122
              · refine lv_iconst (v := nI 1) hx hb dL_pulls_125 (by decide) ?_
                refine lv_goto (tgt := 130) hx hb dL_pulls_126 (by decide) ?_
                refine lv_istore (lv' := [(6, .int (nI 1)), (5, .int (Z.1 0 0)), (0, .ref X.1), (1, .int (nI y)), (2, .int (Z.1 0 1)), (3, .int (tea Z.1 y)), (4, .int (Z.1 0 6))]) hx hb dL_pulls_130 hl (by decide) rfl (fun ls hl => ?_)
                refine lv_iconst (v := nI 0) hx hb dL_pulls_132 (by decide) ?_
                refine lv_istore (lv' := [(7, .int (nI 0)), (6, .int (nI 1)), (5, .int (Z.1 0 0)), (0, .ref X.1), (1, .int (nI y)), (2, .int (Z.1 0 1)), (3, .int (tea Z.1 y)), (4, .int (Z.1 0 6))]) hx hb dL_pulls_133 hl (by decide) rfl (fun ls hl => ?_)
                have L135 : ∀ (fu135 : Nat) (k : Nat) (u8 : CU) (hk : k ≤ 9) (hu8 : CV (zS Z (gPull Z.1 y)).1 u8), 10 ≤ k + fu135 → ∀ (H : Heap) (locs : List Loc), PP G (cT G X (zS Z (gPull Z.1 y)) u8) H → va_D Ar (cT G X (zS Z (gPull Z.1 y)) u8) → va_S Ar s.heap H locs → ∀ ls : Array Slot, lv_has ls 8 [(0, .ref X.1), (2, .int (Z.1 0 1)), (3, .int (tea Z.1 y)), (6, .int (nI 1)), (7, .int (nI k))] → W pG l eG (RM 15 0 0) s mG ([.ref X.1, .int (nI y)] : List Value).toArray below meth cG H locs 0 0 (MQ below (wQi G (S := CU) (fun r u9 => r = nI 1 ∧ CV (gPull Z.1 y) u9) (fun u9 => cT G X (zS Z (gPull Z.1 y)) u9) Ar) ([.ref X.1, .int (nI y)] : List Value).toArray s 0 0 Ar) (F0 mG 135 ls []) := by
                  intro fu135
                  induction fu135 with
                  | zero => intro k u8 hk hu8 hfu135; exact absurd hfu135 (by omega)
                  | succ fu135 ih135 =>
                    intro k u8 hk hu8 hfu135 H locs hP hD hS ls hl
                    refine lv_iload hx hb dL_pulls_135 (lv_at hl 4 rfl) ?_
                    refine lv_bipush (v := nI 9) hx hb dL_pulls_137 (by decide) ?_
                    refine lv_icmp_ge (tgt := 178) hx hb dL_pulls_139 (by decide) (fun c_139 => ?_) (fun c_139 => ?_)
                    · refine lv_iload hx hb dL_pulls_178 (lv_at hl 3 rfl) ?_
                      exact wr_zret (G := G) (S := CU) u8 hx hb hr hlocks (by first | decide | exact b2_nar _) hP hD hS (Nat.le_of_ble_eq_true rfl) (Nat.le_of_ble_eq_true rfl) (by exact ⟨rfl, hu8⟩) dL_pulls_180
                    · have hk1 : k < 9 := fl c_139 (by omega) (by omega)
                      refine lv_iload hx hb dL_pulls_142 (lv_at hl 3 rfl) ?_
                      refine lv_if_eq (tgt := 178) hx hb dL_pulls_144 (by decide) (fun c_144 => ?_) (fun c_144 => ?_)
                      · exact absurd c_144 (by decide)
                      · refine lv_aload_n hx hb dL_pulls_147 rfl (lv_at hl 0 rfl) ?_
                        refine lv_iload hx hb dL_pulls_148 (lv_at hl 4 rfl) ?_
                        refine lv_iconst (v := nI 2) hx hb dL_pulls_150 (by decide) ?_
                        refine wr_woi (mid := cT G X (zS Z (gPull Z.1 y)) u8) (va_runV (As := [.int (nI k), .int (nI 2)]) (rest := []) ⟨hx, hb, hml, hown, hts⟩ (k_cr2 l G _ X (zS Z (gPull Z.1 y)) u8 hZ9 hz9 hu8 k (by omega)) (cwV 2 hts gL_pulls_X6_creaseOf rfl rfl rfl (by decide +kernel) ⟨Nat.le_of_ble_eq_true rfl, Nat.le_of_ble_eq_true rfl⟩) (wVw (mid := cT G X (zS Z (gPull Z.1 y)) u8) (va_recv (ws := cT G X (zS Z (gPull Z.1 y)) u8) hK hP (ci := 5) (q0 := 0) rfl rfl) hK hN hP hD) rfl rfl hl.1 rfl (lv_room (Nat.le_of_ble_eq_true rfl)) dL_pulls_151 ⟨Nat.le_of_ble_eq_true rfl, Nat.le_of_ble_eq_true rfl⟩) hP hD hS hA (fun r u_5 H locs hw hP9 hD9 hS => ?_)
                        obtain ⟨rfl, hvu_5⟩ := hw
                        have hP : PP G (cT G X (zS Z (gPull Z.1 y)) u_5) _ := hP9
                        have hD : va_D Ar (cT G X (zS Z (gPull Z.1 y)) u_5) := hD9
                        refine lv_iload_n hx hb dL_pulls_154 rfl (lv_at hl 1 rfl) ?_
                        refine lv_iload_n hx hb dL_pulls_155 rfl (lv_at hl 2 rfl) ?_
                        refine lv_ior hx hb dL_pulls_156 ?_
                        refine lv_iload hx hb dL_pulls_157 (lv_at hl 4 rfl) ?_
                        refine lv_ishr hx hb dL_pulls_159 ?_
                        refine lv_iconst (v := nI 1) hx hb dL_pulls_160 (by decide) ?_
                        refine lv_iand hx hb dL_pulls_161 ?_
                        refine lv_icmp_ne (tgt := 169) hx hb dL_pulls_162 (by decide) (fun c_162 => ?_) (fun c_162 => ?_)
                        · exact absurd rfl c_162
                        · refine lv_iconst (v := nI 1) hx hb dL_pulls_165 (by decide) ?_
                          refine lv_goto (tgt := 170) hx hb dL_pulls_166 (by decide) ?_
                          refine lv_istore (lv' := [(6, .int (nI 1)), (0, .ref X.1), (2, .int (Z.1 0 1)), (3, .int (tea Z.1 y)), (7, .int (nI k))]) hx hb dL_pulls_170 hl (by decide) rfl (fun ls hl => ?_)
                          refine lv_iinc (v := nI (k + 1)) (lv' := [(7, .int (nI (k + 1))), (6, .int (nI 1)), (0, .ref X.1), (2, .int (Z.1 0 1)), (3, .int (tea Z.1 y))]) hx hb dL_pulls_172 hl (k := 4) rfl (iincN k) (by decide) rfl (fun ls hl => ?_)
                          refine lv_goto (tgt := 135) hx hb dL_pulls_175 (by decide) ?_
                          exact ih135 (k + 1) u_5 (by omega) (by exact hvu_5) (by omega) _ _ hP hD hS ls (lv_as (l1 := [(0, .ref X.1), (2, .int (Z.1 0 1)), (3, .int (tea Z.1 y)), (6, .int (nI 1)), (7, .int (nI (k + 1)))]) (lv_sub hl [2, 3, 4, 1, 0] rfl) (by rfl))
                exact L135 10 0 u_4 (by omega) (by exact hvu_4) (by omega) _ _ hP hD hS ls (lv_as (l1 := [(0, .ref X.1), (2, .int (Z.1 0 1)), (3, .int (tea Z.1 y)), (6, .int (nI 1)), (7, .int (nI 0))]) (lv_sub hl [3, 5, 6, 1, 0] rfl) (by rfl))
            refine lv_if_ne (tgt := 121) hx hb dL_pulls_113 (by decide) (fun c_113 => ?_) (fun c_113 => ?_)
            · refine lv_iconst (v := nI 0) hx hb dL_pulls_121 (by decide) ?_
              exact lv_cgi (y := (zS Z (gPull Z.1 y)).1 0 6) (by exact (if_neg c_113).symm) J113
            · refine lv_iload hx hb dL_pulls_116 (lv_at hl 5 rfl) ?_
              refine lv_goto (tgt := 122) hx hb dL_pulls_118 (by decide) ?_
              exact lv_cgi (y := (zS Z (gPull Z.1 y)).1 0 6) (by exact (if_pos c_113).symm) J113
      · have hk1 : k < 9 := fl c_18 (by omega) (by omega)
        refine lv_iload_n hx hb dL_pulls_21 rfl (lv_at hl 2 rfl) ?_
        refine lv_aload_n hx hb dL_pulls_22 rfl (lv_at hl 0 rfl) ?_
        refine lv_iload hx hb dL_pulls_23 (lv_at hl 5 rfl) ?_
        refine lv_iconst (v := nI 2) hx hb dL_pulls_25 (by decide) ?_
        refine wr_woi (mid := cT G X Z u9) (va_runV (As := [.int (nI k), .int (nI 2)]) (rest := [.int (orS (fun k => bI (Z.1 0 1) (nI k)) k)]) ⟨hx, hb, hml, hown, hts⟩ (k_cr2 l G _ X Z u9 hZ hz hu9 k (by omega)) (cwV 2 hts gL_pulls_X6_creaseOf rfl rfl rfl (by decide +kernel) ⟨Nat.le_of_ble_eq_true rfl, Nat.le_of_ble_eq_true rfl⟩) (wVw (mid := cT G X Z u9) (va_recv (ws := cT G X Z u9) hK hP (ci := 5) (q0 := 0) rfl rfl) hK hN hP hD) rfl rfl hl.1 rfl (lv_room (Nat.le_of_ble_eq_true rfl)) dL_pulls_26 ⟨Nat.le_of_ble_eq_true rfl, Nat.le_of_ble_eq_true rfl⟩) hP hD hS hA (fun r u_6 H locs hw hP9 hD9 hS => ?_)
        obtain ⟨rfl, hvu_6⟩ := hw
        have hP : PP G (cT G X Z u_6) _ := hP9
        have hD : va_D Ar (cT G X Z u_6) := hD9
        refine lv_iload hx hb dL_pulls_29 (lv_at hl 5 rfl) ?_
        refine lv_ishl hx hb dL_pulls_31 ?_
        refine lv_ior hx hb dL_pulls_32 ?_
        refine lv_istore_n (lv' := [(2, .int ((orS (fun k => bI (Z.1 0 1) (nI k)) k) ||| ((bI (Z.1 0 1) (nI k)) <<< ((nI k) &&& 31)))), (0, .ref X.1), (1, .int (nI y)), (3, .int (teaS (Z.1 0 0) (Z.1 1) (nI (10 - y)) k)), (4, .int (Z.1 0 6)), (5, .int (nI k))]) hx hb dL_pulls_33 rfl hl (by decide) rfl (fun ls hl => ?_)
        refine lv_iload_n hx hb dL_pulls_34 rfl (lv_at hl 3 rfl) ?_
        refine lv_aload_n hx hb dL_pulls_35 rfl (lv_at hl 1 rfl) ?_
        refine lv_iload hx hb dL_pulls_36 (lv_at hl 5 rfl) ?_
        refine lv_iconst (v := nI 0) hx hb dL_pulls_38 (by decide) ?_
        refine wr_woi (mid := cT G X Z u_6) (va_runV (As := [.int (nI k), .int (nI 0)]) (rest := [.int (teaS (Z.1 0 0) (Z.1 1) (nI (10 - y)) k)]) ⟨hx, hb, hml, hown, hts⟩ (k_cr0 l G _ X Z u_6 hZ hz hvu_6 k (by omega)) (cwV 2 hts gL_pulls_X6_creaseOf rfl rfl rfl (by decide +kernel) ⟨Nat.le_of_ble_eq_true rfl, Nat.le_of_ble_eq_true rfl⟩) (wVw (mid := cT G X Z u_6) (va_recv (ws := cT G X Z u_6) hK hP (ci := 5) (q0 := 0) rfl rfl) hK hN hP hD) rfl rfl hl.1 rfl (lv_room (Nat.le_of_ble_eq_true rfl)) dL_pulls_39 ⟨Nat.le_of_ble_eq_true rfl, Nat.le_of_ble_eq_true rfl⟩) hP hD hS hA (fun r u_7 H locs hw hP9 hD9 hS => ?_)
        obtain ⟨rfl, hvu_7⟩ := hw
        have hP : PP G (cT G X Z u_7) _ := hP9
        have hD : va_D Ar (cT G X Z u_7) := hD9
        refine lv_iconst (v := nI 1) hx hb dL_pulls_42 (by decide) ?_
        refine lv_icmp_ne (tgt := 67) hx hb dL_pulls_43 (by decide) (fun c_43 => ?_) (fun c_43 => ?_)
        · refine lv_iconst (v := nI 0) hx hb dL_pulls_67 (by decide) ?_
          refine lv_ior hx hb dL_pulls_68 ?_
          refine lv_istore_n (lv' := [(3, .int ((teaS (Z.1 0 0) (Z.1 1) (nI (10 - y)) k) ||| (nI 0))), (2, .int ((orS (fun k => bI (Z.1 0 1) (nI k)) k) ||| ((bI (Z.1 0 1) (nI k)) <<< ((nI k) &&& 31)))), (0, .ref X.1), (1, .int (nI y)), (4, .int (Z.1 0 6)), (5, .int (nI k))]) hx hb dL_pulls_69 rfl hl (by decide) rfl (fun ls hl => ?_)
          refine lv_iinc (v := nI (k + 1)) (lv' := [(5, .int (nI (k + 1))), (3, .int ((teaS (Z.1 0 0) (Z.1 1) (nI (10 - y)) k) ||| (nI 0))), (2, .int ((orS (fun k => bI (Z.1 0 1) (nI k)) k) ||| ((bI (Z.1 0 1) (nI k)) <<< ((nI k) &&& 31)))), (0, .ref X.1), (1, .int (nI y)), (4, .int (Z.1 0 6))]) hx hb dL_pulls_70 hl (k := 5) rfl (iincN k) (by decide) rfl (fun ls hl => ?_)
          refine lv_goto (tgt := 14) hx hb dL_pulls_73 (by decide) ?_
          exact ih14 (k + 1) u_7 (by omega) (by exact hvu_7) (by omega) _ _ hP hD hS ls (lv_as (l1 := [(0, .ref X.1), (1, .int (nI y)), (2, .int ((orS (fun k => bI (Z.1 0 1) (nI k)) k) ||| ((bI (Z.1 0 1) (nI k)) <<< ((nI k) &&& 31)))), (3, .int ((teaS (Z.1 0 0) (Z.1 1) (nI (10 - y)) k) ||| (nI 0))), (4, .int (Z.1 0 6)), (5, .int (nI (k + 1)))]) (lv_sub hl [3, 4, 2, 1, 5, 0] rfl) (by rw [or0, teaS, if_neg (fun h => c_43 h.1)] <;> rfl))
        · refine lv_aload_n hx hb dL_pulls_46 rfl (lv_at hl 1 rfl) ?_
          refine lv_iload hx hb dL_pulls_47 (lv_at hl 5 rfl) ?_
          refine lv_iconst (v := nI 1) hx hb dL_pulls_49 (by decide) ?_
          refine wr_woi (mid := cT G X Z u_7) (va_runV (As := [.int (nI k), .int (nI 1)]) (rest := [.int (teaS (Z.1 0 0) (Z.1 1) (nI (10 - y)) k)]) ⟨hx, hb, hml, hown, hts⟩ (k_cr1 l G _ X Z u_7 hZ hz hvu_7 k (by omega)) (cwV 2 hts gL_pulls_X6_creaseOf rfl rfl rfl (by decide +kernel) ⟨Nat.le_of_ble_eq_true rfl, Nat.le_of_ble_eq_true rfl⟩) (wVw (mid := cT G X Z u_7) (va_recv (ws := cT G X Z u_7) hK hP (ci := 5) (q0 := 0) rfl rfl) hK hN hP hD) rfl rfl hl.1 rfl (lv_room (Nat.le_of_ble_eq_true rfl)) dL_pulls_50 ⟨Nat.le_of_ble_eq_true rfl, Nat.le_of_ble_eq_true rfl⟩) hP hD hS hA (fun r u_8 H locs hw hP9 hD9 hS => ?_)
          obtain ⟨rfl, hvu_8⟩ := hw
          have hP : PP G (cT G X Z u_8) _ := hP9
          have hD : va_D Ar (cT G X Z u_8) := hD9
          refine lv_bipush (v := nI 10) hx hb dL_pulls_53 (by decide) ?_
          refine lv_iload_n hx hb dL_pulls_55 rfl (lv_at hl 2 rfl) ?_
          refine lv_isub hx hb dL_pulls_56 ?_
          refine lv_cgi (y := nI (10 - y)) (pk_sub (by omega)) ?_
          refine lv_icmp_lt (tgt := 67) hx hb dL_pulls_57 (by decide) (fun c_57 => ?_) (fun c_57 => ?_)
          · refine lv_iconst (v := nI 0) hx hb dL_pulls_67 (by decide) ?_
            refine lv_ior hx hb dL_pulls_68 ?_
            refine lv_istore_n (lv' := [(3, .int ((teaS (Z.1 0 0) (Z.1 1) (nI (10 - y)) k) ||| (nI 0))), (2, .int ((orS (fun k => bI (Z.1 0 1) (nI k)) k) ||| ((bI (Z.1 0 1) (nI k)) <<< ((nI k) &&& 31)))), (0, .ref X.1), (1, .int (nI y)), (4, .int (Z.1 0 6)), (5, .int (nI k))]) hx hb dL_pulls_69 rfl hl (by decide) rfl (fun ls hl => ?_)
            refine lv_iinc (v := nI (k + 1)) (lv' := [(5, .int (nI (k + 1))), (3, .int ((teaS (Z.1 0 0) (Z.1 1) (nI (10 - y)) k) ||| (nI 0))), (2, .int ((orS (fun k => bI (Z.1 0 1) (nI k)) k) ||| ((bI (Z.1 0 1) (nI k)) <<< ((nI k) &&& 31)))), (0, .ref X.1), (1, .int (nI y)), (4, .int (Z.1 0 6))]) hx hb dL_pulls_70 hl (k := 5) rfl (iincN k) (by decide) rfl (fun ls hl => ?_)
            refine lv_goto (tgt := 14) hx hb dL_pulls_73 (by decide) ?_
            exact ih14 (k + 1) u_8 (by omega) (by exact hvu_8) (by omega) _ _ hP hD hS ls (lv_as (l1 := [(0, .ref X.1), (1, .int (nI y)), (2, .int ((orS (fun k => bI (Z.1 0 1) (nI k)) k) ||| ((bI (Z.1 0 1) (nI k)) <<< ((nI k) &&& 31)))), (3, .int ((teaS (Z.1 0 0) (Z.1 1) (nI (10 - y)) k) ||| (nI 0))), (4, .int (Z.1 0 6)), (5, .int (nI (k + 1)))]) (lv_sub hl [3, 4, 2, 1, 5, 0] rfl) (by rw [or0, teaS, if_neg (fun h => h.2 c_57)] <;> rfl))
          · refine lv_iconst (v := nI 1) hx hb dL_pulls_60 (by decide) ?_
            refine lv_iload hx hb dL_pulls_61 (lv_at hl 5 rfl) ?_
            refine lv_ishl hx hb dL_pulls_63 ?_
            refine lv_goto (tgt := 68) hx hb dL_pulls_64 (by decide) ?_
            refine lv_ior hx hb dL_pulls_68 ?_
            refine lv_istore_n (lv' := [(3, .int ((teaS (Z.1 0 0) (Z.1 1) (nI (10 - y)) k) ||| ((nI 1) <<< ((nI k) &&& 31)))), (2, .int ((orS (fun k => bI (Z.1 0 1) (nI k)) k) ||| ((bI (Z.1 0 1) (nI k)) <<< ((nI k) &&& 31)))), (0, .ref X.1), (1, .int (nI y)), (4, .int (Z.1 0 6)), (5, .int (nI k))]) hx hb dL_pulls_69 rfl hl (by decide) rfl (fun ls hl => ?_)
            refine lv_iinc (v := nI (k + 1)) (lv' := [(5, .int (nI (k + 1))), (3, .int ((teaS (Z.1 0 0) (Z.1 1) (nI (10 - y)) k) ||| ((nI 1) <<< ((nI k) &&& 31)))), (2, .int ((orS (fun k => bI (Z.1 0 1) (nI k)) k) ||| ((bI (Z.1 0 1) (nI k)) <<< ((nI k) &&& 31)))), (0, .ref X.1), (1, .int (nI y)), (4, .int (Z.1 0 6))]) hx hb dL_pulls_70 hl (k := 5) rfl (iincN k) (by decide) rfl (fun ls hl => ?_)
            refine lv_goto (tgt := 14) hx hb dL_pulls_73 (by decide) ?_
            exact ih14 (k + 1) u_8 (by omega) (by exact hvu_8) (by omega) _ _ hP hD hS ls (lv_as (l1 := [(0, .ref X.1), (1, .int (nI y)), (2, .int ((orS (fun k => bI (Z.1 0 1) (nI k)) k) ||| ((bI (Z.1 0 1) (nI k)) <<< ((nI k) &&& 31)))), (3, .int ((teaS (Z.1 0 0) (Z.1 1) (nI (10 - y)) k) ||| ((nI 1) <<< ((nI k) &&& 31)))), (4, .int (Z.1 0 6)), (5, .int (nI (k + 1)))]) (lv_sub hl [3, 4, 2, 1, 5, 0] rfl) (by rw [teaS, if_pos ⟨c_43, c_57⟩] <;> rfl))
  exact L14 10 0 u_1 (by omega) (by exact hvu_1) (by omega) _ _ hP hD hS ls (lv_as (l1 := [(0, .ref X.1), (1, .int (nI y)), (2, .int (nI 0)), (3, .int (nI 0)), (4, .int (Z.1 0 6)), (5, .int (nI 0))]) (lv_sub hl [4, 5, 3, 2, 1, 0] rfl) (by rfl))

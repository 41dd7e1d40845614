set_option maxHeartbeats 4000000 in
set_option maxRecDepth 100000 in
theorem c_X7_ofPanel (l : Launch) (G : GG) (sz : Nat) (A : Nat → Nat) (th sm le : Int32) (dg : Int64) (f sl ik sv tx pl : Nat → Int32) (q : Nat) (hq : q < 10) (v : Nat) (hv2 : v ≤ 2) : WRi l yX7_ofPanel wsX7_ofPanel 2 G [.ref (A 0), .int (nI q), .int (nI v)] (mW G A th sm le dg f sl ik sv tx pl) sz (S := Nat → Int32) (fun r _ => r = opM f q v) (fun u => mW G A th sm le dg f sl ik sv tx u) 0 0 := by
  refine wr_of (l := l) (y := yX7_ofPanel) (w := wsX7_ofPanel) (d := 2) (G := G) (As := [.ref (A 0), .int (nI q), .int (nI v)]) (sz := sz) (mc := 0) (ms := 0) (cc := cX7_ofPanel) (maxL := 6) (ret := (some .int)) (Qc := fun Ar => wQi G (S := Nat → Int32) (fun r _ => r = opM f q v) (fun u => mW G A th sm le dg f sl ik sv tx u) Ar) (by decide) rfl (Nat.le_of_ble_eq_true rfl) ?_
  intro pG eG s mG below meth cG hsz hx hb hr hml hts hown hlocks hnm hP hK hN Ar hD hA hS ls hl
  have hown : s.vm.findClass RX7 = some mG.cls := hown
  have hP : PP G (mW G A th sm le dg f sl ik sv tx pl) s.heap := hP
  have hD : va_D Ar (mW G A th sm le dg f sl ik sv tx pl) := hD
  have hl : lv_has ls 6 [(0, .ref (A 0)), (1, .int (nI q)), (2, .int (nI v))] := hl
  refine lv_aload_n hx hb dX7_ofPanel_0 rfl (lv_at hl 0 rfl) ?_
  refine lv_aload_n hx hb dX7_ofPanel_1 rfl (lv_at hl 0 rfl) ?_
  refine va_get (D := G.1) (ws := mW G A th sm le dg f sl ik sv tx pl) (ci := 6) (v := .ref (A 1)) (C := RX7) (T := TX7) (N := 10) hx hb hts (fun _ h => List.mem_cons_of_mem _ (List.mem_append_right _ (h))) hown hK hP 0 rfl rfl 1 (by decide) (hts (.fieldLink RX7 7 "CreaseMapsModel" "s" "[I") (List.mem_of_getElem? (i := 1) rfl)) (fun _ h9 => h9) rfl dX7_ofPanel_2 ?_
  refine lv_iconst (v := nI 0) hx hb dX7_ofPanel_5 (by decide) ?_
  refine va_iald (D := G.1) (ws := mW G A th sm le dg f sl ik sv tx pl) hx hb hK hP 1 0 (n := 58) rfl rfl (by first | assumption | exact vp_in_nI (by omega) (by omega)) dX7_ofPanel_6 ?_
  refine lv_cgi (y := f 0) rfl ?_
  refine wr_gov (pre := []) (mid := mW G A th sm le dg f sl ik sv tx pl) (suf := []) (va_runV (As := [.int (f 0)]) (rest := []) ⟨hx, hb, hml, hown, hts⟩ (c_X7_lay l G _ A th sm le dg f sl ik sv tx pl (f 0)) (cwV 1 hts gX7_ofPanel_X7_lay rfl rfl rfl (by decide +kernel) ⟨Nat.le_of_ble_eq_true rfl, Nat.le_of_ble_eq_true rfl⟩) (wV (pre := []) (mid := mW G A th sm le dg f sl ik sv tx pl) (suf := []) (va_recv (ws := mW G A th sm le dg f sl ik sv tx pl) hK hP (ci := 6) (q0 := 0) rfl rfl) hK hN hP hD) rfl rfl hl.1 rfl (lv_room (Nat.le_of_ble_eq_true rfl)) dX7_ofPanel_7 ⟨Nat.le_of_ble_eq_true rfl, Nat.le_of_ble_eq_true rfl⟩) hP hD hS hA (fun u_1 H locs hw hP9 hD9 hS => ?_)
  have hu_1 : ∀ j, j < 10 → u_1 j = (pw (f 0) j).1 := hw
  have hP : PP G (mW G A th sm le dg f sl ik sv tx u_1) _ := hP9
  have hD : va_D Ar (mW G A th sm le dg f sl ik sv tx u_1) := hD9
  refine lv_iconst (v := nI 0) hx hb dX7_ofPanel_10 (by decide) ?_
  refine lv_istore_n (lv' := [(3, .int (nI 0)), (0, .ref (A 0)), (1, .int (nI q)), (2, .int (nI v))]) hx hb dX7_ofPanel_11 rfl hl (by decide) rfl (fun ls hl => ?_)
  refine lv_iconst (v := nI 0) hx hb dX7_ofPanel_12 (by decide) ?_
  refine lv_istore (lv' := [(4, .int (nI 0)), (3, .int (nI 0)), (0, .ref (A 0)), (1, .int (nI q)), (2, .int (nI v))]) hx hb dX7_ofPanel_13 hl (by decide) rfl (fun ls hl => ?_)
  refine lv_iconst (v := nI 0) hx hb dX7_ofPanel_15 (by decide) ?_
  refine lv_istore (lv' := [(5, .int (nI 0)), (4, .int (nI 0)), (3, .int (nI 0)), (0, .ref (A 0)), (1, .int (nI q)), (2, .int (nI v))]) hx hb dX7_ofPanel_16 hl (by decide) rfl (fun ls hl => ?_)
  have L18 : ∀ (fu : Nat) (k : Nat) (hk : k ≤ 6), 6 + 1 ≤ k + fu → ∀ (H : Heap) (locs : List Loc), PP G (mW G A th sm le dg f sl ik sv tx u_1) H → va_D Ar (mW G A th sm le dg f sl ik sv tx u_1) → va_S Ar s.heap H locs → ∀ ls : Array Slot, lv_has ls 6 [(0, .ref (A 0)), (1, .int (nI q)), (2, .int (nI v)), (3, .int (tnM f (nI q) k)), (4, .int (nI 0)), (5, .int (nI k))] → W pG l eG (RM 2 0 0) s mG ([.ref (A 0), .int (nI q), .int (nI v)] : List Value).toArray below meth cG H locs 0 0 (MQ below (wQi G (S := Nat → Int32) (fun r _ => r = opM f q v) (fun u => mW G A th sm le dg f sl ik sv tx u) Ar) ([.ref (A 0), .int (nI q), .int (nI v)] : List Value).toArray s 0 0 Ar) (F0 mG 18 ls []) := by
    intro fu
    induction fu with
    | zero => intro k hk hfu; exact absurd hfu (by omega)
    | succ fu ih =>
      intro k hk hfu H locs hP hD hS ls hl
      refine lv_iload hx hb dX7_ofPanel_18 (lv_at hl 5 rfl) ?_
      refine lv_bipush (v := nI 6) hx hb dX7_ofPanel_20 (by decide) ?_
      refine lv_icmp_ge (tgt := 56) hx hb dX7_ofPanel_22 (by decide) (fun c_22 => ?_) (fun c_22 => ?_)
      · have q1 : 6 ≤ k := fe c_22 (by omega) (by omega)
        refine lv_iconst (v := nI 0) hx hb dX7_ofPanel_56 (by decide) ?_
        refine lv_istore (lv' := [(5, .int (nI 0)), (0, .ref (A 0)), (1, .int (nI q)), (2, .int (nI v)), (3, .int (tnM f (nI q) k)), (4, .int (nI 0))]) hx hb dX7_ofPanel_57 hl (by decide) rfl (fun ls hl => ?_)
        have L59 : ∀ (fu : Nat) (j : Nat) (hj : j ≤ 10), 10 + 1 ≤ j + fu → ∀ (H : Heap) (locs : List Loc), PP G (mW G A th sm le dg f sl ik sv tx u_1) H → va_D Ar (mW G A th sm le dg f sl ik sv tx u_1) → va_S Ar s.heap H locs → ∀ ls : Array Slot, lv_has ls 6 [(0, .ref (A 0)), (1, .int (nI q)), (2, .int (nI v)), (3, .int (tnM f (nI q) 6)), (4, .int (sumI (fun j => b2 (decide ((pw (f 0) j).1 = (pw (f 0) q).1))) j)), (5, .int (nI j))] → W pG l eG (RM 2 0 0) s mG ([.ref (A 0), .int (nI q), .int (nI v)] : List Value).toArray below meth cG H locs 0 0 (MQ below (wQi G (S := Nat → Int32) (fun r _ => r = opM f q v) (fun u => mW G A th sm le dg f sl ik sv tx u) Ar) ([.ref (A 0), .int (nI q), .int (nI v)] : List Value).toArray s 0 0 Ar) (F0 mG 59 ls []) := by
          intro fu
          induction fu with
          | zero => intro j hj hfu; exact absurd hfu (by omega)
          | succ fu ih =>
            intro j hj hfu H locs hP hD hS ls hl
            refine lv_iload hx hb dX7_ofPanel_59 (lv_at hl 5 rfl) ?_
            refine lv_bipush (v := nI 10) hx hb dX7_ofPanel_61 (by decide) ?_
            refine lv_icmp_ge (tgt := 98) hx hb dX7_ofPanel_63 (by decide) (fun c_63 => ?_) (fun c_63 => ?_)
            · have q1 : 10 ≤ j := fe c_63 (by omega) (by omega)
              refine lv_iload_n hx hb dX7_ofPanel_98 rfl (lv_at hl 2 rfl) ?_
              refine lv_if_ne (tgt := 114) hx hb dX7_ofPanel_99 (by decide) (fun c_99 => ?_) (fun c_99 => ?_)
              · have c_99 : v ≠ 0 := nIn c_99
                refine lv_iload_n hx hb dX7_ofPanel_114 rfl (lv_at hl 2 rfl) ?_
                refine lv_iconst (v := nI 1) hx hb dX7_ofPanel_115 (by decide) ?_
                refine lv_icmp_ne (tgt := 123) hx hb dX7_ofPanel_116 (by decide) (fun c_116 => ?_) (fun c_116 => ?_)
                · have c_116 : v ≠ 1 := nIn c_116
                  refine lv_iload hx hb dX7_ofPanel_123 (lv_at hl 4 rfl) ?_
                  exact wr_iret (G := G) (S := Nat → Int32) u_1 hx hb hr hlocks hP hD hS (Nat.le_of_ble_eq_true rfl) (Nat.le_of_ble_eq_true rfl) (by unfold opM; rw [if_neg c_99, if_neg c_116, show j = 10 by omega]) dX7_ofPanel_125
                · have c_116 : v = 1 := nIe c_116 (by omega) (by omega)
                  refine lv_iload_n hx hb dX7_ofPanel_119 rfl (lv_at hl 3 rfl) ?_
                  refine lv_goto (tgt := 125) hx hb dX7_ofPanel_120 (by decide) ?_
                  exact wr_iret (G := G) (S := Nat → Int32) u_1 hx hb hr hlocks hP hD hS (Nat.le_of_ble_eq_true rfl) (Nat.le_of_ble_eq_true rfl) (by unfold opM; rw [if_neg c_99, if_pos c_116]) dX7_ofPanel_125
              · have c_99 : v = 0 := nIe c_99 (by omega) (by omega)
                refine lv_bipush (v := nI 100) hx hb dX7_ofPanel_102 (by decide) ?_
                refine lv_aload_n hx hb dX7_ofPanel_104 rfl (lv_at hl 0 rfl) ?_
                refine va_get (D := G.1) (ws := mW G A th sm le dg f sl ik sv tx u_1) (ci := 6) (v := .ref (A 6)) (C := RX7) (T := TX7) (N := 10) hx hb hts (fun _ h => List.mem_cons_of_mem _ (List.mem_append_right _ (h))) hown hK hP 0 rfl rfl 8 (by decide) (hts (.fieldLink RX7 26 "CreaseMapsModel" "place" "[I") (List.mem_of_getElem? (i := 2) rfl)) (fun _ h9 => h9) rfl dX7_ofPanel_105 ?_
                refine lv_iload_n hx hb dX7_ofPanel_108 rfl (lv_at hl 1 rfl) ?_
                refine va_iald (D := G.1) (ws := mW G A th sm le dg f sl ik sv tx u_1) hx hb hK hP 6 0 (n := 10) rfl rfl (by first | assumption | exact vp_in_nI (by omega) (by omega)) dX7_ofPanel_109 ?_
                refine lv_cgi (y := u_1 q) (by rw [nI_clamp (by omega)]) ?_
                refine lv_cgi (y := (pw (f 0) q).1) (hu_1 _ (by omega)) ?_
                refine lv_iadd hx hb dX7_ofPanel_110 ?_
                refine lv_goto (tgt := 125) hx hb dX7_ofPanel_111 (by decide) ?_
                exact wr_iret (G := G) (S := Nat → Int32) u_1 hx hb hr hlocks hP hD hS (Nat.le_of_ble_eq_true rfl) (Nat.le_of_ble_eq_true rfl) (by unfold opM; rw [if_pos c_99]) dX7_ofPanel_125
            · have q1 : j < 10 := fl c_63 (by omega) (by omega)
              refine lv_iload hx hb dX7_ofPanel_66 (lv_at hl 4 rfl) ?_
              refine lv_aload_n hx hb dX7_ofPanel_68 rfl (lv_at hl 0 rfl) ?_
              refine va_get (D := G.1) (ws := mW G A th sm le dg f sl ik sv tx u_1) (ci := 6) (v := .ref (A 6)) (C := RX7) (T := TX7) (N := 10) hx hb hts (fun _ h => List.mem_cons_of_mem _ (List.mem_append_right _ (h))) hown hK hP 0 rfl rfl 8 (by decide) (hts (.fieldLink RX7 26 "CreaseMapsModel" "place" "[I") (List.mem_of_getElem? (i := 2) rfl)) (fun _ h9 => h9) rfl dX7_ofPanel_69 ?_
              refine lv_iload hx hb dX7_ofPanel_72 (lv_at hl 5 rfl) ?_
              refine va_iald (D := G.1) (ws := mW G A th sm le dg f sl ik sv tx u_1) hx hb hK hP 6 0 (n := 10) rfl rfl (by first | assumption | exact vp_in_nI (by omega) (by omega)) dX7_ofPanel_74 ?_
              refine lv_cgi (y := u_1 j) (by rw [nI_clamp (by omega)]) ?_
              refine lv_cgi (y := (pw (f 0) j).1) (hu_1 _ (by omega)) ?_
              refine lv_aload_n hx hb dX7_ofPanel_75 rfl (lv_at hl 0 rfl) ?_
              refine va_get (D := G.1) (ws := mW G A th sm le dg f sl ik sv tx u_1) (ci := 6) (v := .ref (A 6)) (C := RX7) (T := TX7) (N := 10) hx hb hts (fun _ h => List.mem_cons_of_mem _ (List.mem_append_right _ (h))) hown hK hP 0 rfl rfl 8 (by decide) (hts (.fieldLink RX7 26 "CreaseMapsModel" "place" "[I") (List.mem_of_getElem? (i := 2) rfl)) (fun _ h9 => h9) rfl dX7_ofPanel_76 ?_
              refine lv_iload_n hx hb dX7_ofPanel_79 rfl (lv_at hl 1 rfl) ?_
              refine va_iald (D := G.1) (ws := mW G A th sm le dg f sl ik sv tx u_1) hx hb hK hP 6 0 (n := 10) rfl rfl (by first | assumption | exact vp_in_nI (by omega) (by omega)) dX7_ofPanel_80 ?_
              refine lv_cgi (y := u_1 q) (by rw [nI_clamp (by omega)]) ?_
              refine lv_cgi (y := (pw (f 0) q).1) (hu_1 _ (by omega)) ?_
              refine lv_icmp_ne (tgt := 88) hx hb dX7_ofPanel_81 (by decide) (fun c_81 => ?_) (fun c_81 => ?_)
              · refine lv_iconst (v := nI 0) hx hb dX7_ofPanel_88 (by decide) ?_
                refine lv_iadd hx hb dX7_ofPanel_89 ?_
                refine lv_istore (lv' := [(4, .int ((sumI (fun j => b2 (decide ((pw (f 0) j).1 = (pw (f 0) q).1))) j) + (nI 0))), (0, .ref (A 0)), (1, .int (nI q)), (2, .int (nI v)), (3, .int (tnM f (nI q) 6)), (5, .int (nI j))]) hx hb dX7_ofPanel_90 hl (by decide) rfl (fun ls hl => ?_)
                refine lv_iinc (v := nI (j + 1)) (lv' := [(5, .int (nI (j + 1))), (4, .int ((sumI (fun j => b2 (decide ((pw (f 0) j).1 = (pw (f 0) q).1))) j) + (nI 0))), (0, .ref (A 0)), (1, .int (nI q)), (2, .int (nI v)), (3, .int (tnM f (nI q) 6))]) hx hb dX7_ofPanel_92 hl (k := 5) rfl (iincN j) (by decide) rfl (fun ls hl => ?_)
                refine lv_goto (tgt := 59) hx hb dX7_ofPanel_95 (by decide) ?_
                exact ih (j + 1) (by omega) (by omega) _ _ hP hD hS ls (lv_as (l1 := [(0, .ref (A 0)), (1, .int (nI q)), (2, .int (nI v)), (3, .int (tnM f (nI q) 6)), (4, .int ((sumI (fun j => b2 (decide ((pw (f 0) j).1 = (pw (f 0) q).1))) j) + (nI 0))), (5, .int (nI (j + 1)))]) (lv_sub hl [2, 3, 4, 5, 1, 0] rfl) (by rw [sumI]; first | rw [← b2p c_81] | rw [← b2q c_81]))
              · refine lv_iconst (v := nI 1) hx hb dX7_ofPanel_84 (by decide) ?_
                refine lv_goto (tgt := 89) hx hb dX7_ofPanel_85 (by decide) ?_
                refine lv_iadd hx hb dX7_ofPanel_89 ?_
                refine lv_istore (lv' := [(4, .int ((sumI (fun j => b2 (decide ((pw (f 0) j).1 = (pw (f 0) q).1))) j) + (nI 1))), (0, .ref (A 0)), (1, .int (nI q)), (2, .int (nI v)), (3, .int (tnM f (nI q) 6)), (5, .int (nI j))]) hx hb dX7_ofPanel_90 hl (by decide) rfl (fun ls hl => ?_)
                refine lv_iinc (v := nI (j + 1)) (lv' := [(5, .int (nI (j + 1))), (4, .int ((sumI (fun j => b2 (decide ((pw (f 0) j).1 = (pw (f 0) q).1))) j) + (nI 1))), (0, .ref (A 0)), (1, .int (nI q)), (2, .int (nI v)), (3, .int (tnM f (nI q) 6))]) hx hb dX7_ofPanel_92 hl (k := 5) rfl (iincN j) (by decide) rfl (fun ls hl => ?_)
                refine lv_goto (tgt := 59) hx hb dX7_ofPanel_95 (by decide) ?_
                exact ih (j + 1) (by omega) (by omega) _ _ hP hD hS ls (lv_as (l1 := [(0, .ref (A 0)), (1, .int (nI q)), (2, .int (nI v)), (3, .int (tnM f (nI q) 6)), (4, .int ((sumI (fun j => b2 (decide ((pw (f 0) j).1 = (pw (f 0) q).1))) j) + (nI 1))), (5, .int (nI (j + 1)))]) (lv_sub hl [2, 3, 4, 5, 1, 0] rfl) (by rw [sumI]; first | rw [← b2p c_81] | rw [← b2q c_81]))
        exact L59 11 0 (by omega) (by omega) _ _ hP hD hS ls (lv_as (l1 := [(0, .ref (A 0)), (1, .int (nI q)), (2, .int (nI v)), (3, .int (tnM f (nI q) k)), (4, .int (nI 0)), (5, .int (nI 0))]) (lv_sub hl [1, 2, 3, 4, 5, 0] rfl) (by rw [show k = 6 by omega]; rfl))
      · have q1 : k < 6 := fl c_22 (by omega) (by omega)
        refine lv_iload_n hx hb dX7_ofPanel_25 rfl (lv_at hl 3 rfl) ?_
        refine lv_aload_n hx hb dX7_ofPanel_26 rfl (lv_at hl 0 rfl) ?_
        refine va_get (D := G.1) (ws := mW G A th sm le dg f sl ik sv tx u_1) (ci := 6) (v := .ref (A 1)) (C := RX7) (T := TX7) (N := 10) hx hb hts (fun _ h => List.mem_cons_of_mem _ (List.mem_append_right _ (h))) hown hK hP 0 rfl rfl 1 (by decide) (hts (.fieldLink RX7 7 "CreaseMapsModel" "s" "[I") (List.mem_of_getElem? (i := 1) rfl)) (fun _ h9 => h9) rfl dX7_ofPanel_27 ?_
        refine lv_bipush (v := nI 11) hx hb dX7_ofPanel_30 (by decide) ?_
        refine lv_iload hx hb dX7_ofPanel_32 (lv_at hl 5 rfl) ?_
        refine lv_iadd hx hb dX7_ofPanel_34 ?_
        refine lv_cgi (y := nI (11 + k)) (nI_add _ _) ?_
        refine va_iald (D := G.1) (ws := mW G A th sm le dg f sl ik sv tx u_1) hx hb hK hP 1 0 (n := 58) rfl rfl (by first | assumption | exact vp_in_nI (by omega) (by omega)) dX7_ofPanel_35 ?_
        refine lv_cgi (y := f (11 + k)) (by rw [nI_clamp (by omega)]) ?_
        refine lv_iload_n hx hb dX7_ofPanel_36 rfl (lv_at hl 1 rfl) ?_
        refine lv_icmp_ne (tgt := 47) hx hb dX7_ofPanel_37 (by decide) (fun c_37 => ?_) (fun c_37 => ?_)
        · refine lv_iconst (v := nI 0) hx hb dX7_ofPanel_47 (by decide) ?_
          refine lv_ior hx hb dX7_ofPanel_48 ?_
          refine lv_istore_n (lv' := [(3, .int ((tnM f (nI q) k) ||| (nI 0))), (0, .ref (A 0)), (1, .int (nI q)), (2, .int (nI v)), (4, .int (nI 0)), (5, .int (nI k))]) hx hb dX7_ofPanel_49 rfl hl (by decide) rfl (fun ls hl => ?_)
          refine lv_iinc (v := nI (k + 1)) (lv' := [(5, .int (nI (k + 1))), (3, .int ((tnM f (nI q) k) ||| (nI 0))), (0, .ref (A 0)), (1, .int (nI q)), (2, .int (nI v)), (4, .int (nI 0))]) hx hb dX7_ofPanel_50 hl (k := 5) rfl (iincN k) (by decide) rfl (fun ls hl => ?_)
          refine lv_goto (tgt := 18) hx hb dX7_ofPanel_53 (by decide) ?_
          exact ih (k + 1) (by omega) (by omega) _ _ hP hD hS ls (lv_as (l1 := [(0, .ref (A 0)), (1, .int (nI q)), (2, .int (nI v)), (3, .int ((tnM f (nI q) k) ||| (nI 0))), (4, .int (nI 0)), (5, .int (nI (k + 1)))]) (lv_sub hl [2, 3, 4, 1, 5, 0] rfl) (by rw [tnM]; first | rw [if_pos c_37] | rw [if_neg c_37]))
        · refine lv_iconst (v := nI 1) hx hb dX7_ofPanel_40 (by decide) ?_
          refine lv_iload hx hb dX7_ofPanel_41 (lv_at hl 5 rfl) ?_
          refine lv_ishl hx hb dX7_ofPanel_43 ?_
          refine lv_goto (tgt := 48) hx hb dX7_ofPanel_44 (by decide) ?_
          refine lv_ior hx hb dX7_ofPanel_48 ?_
          refine lv_istore_n (lv' := [(3, .int ((tnM f (nI q) k) ||| ((nI 1) <<< ((nI k) &&& 31)))), (0, .ref (A 0)), (1, .int (nI q)), (2, .int (nI v)), (4, .int (nI 0)), (5, .int (nI k))]) hx hb dX7_ofPanel_49 rfl hl (by decide) rfl (fun ls hl => ?_)
          refine lv_iinc (v := nI (k + 1)) (lv' := [(5, .int (nI (k + 1))), (3, .int ((tnM f (nI q) k) ||| ((nI 1) <<< ((nI k) &&& 31)))), (0, .ref (A 0)), (1, .int (nI q)), (2, .int (nI v)), (4, .int (nI 0))]) hx hb dX7_ofPanel_50 hl (k := 5) rfl (iincN k) (by decide) rfl (fun ls hl => ?_)
          refine lv_goto (tgt := 18) hx hb dX7_ofPanel_53 (by decide) ?_
          exact ih (k + 1) (by omega) (by omega) _ _ hP hD hS ls (lv_as (l1 := [(0, .ref (A 0)), (1, .int (nI q)), (2, .int (nI v)), (3, .int ((tnM f (nI q) k) ||| ((nI 1) <<< ((nI k) &&& 31)))), (4, .int (nI 0)), (5, .int (nI (k + 1)))]) (lv_sub hl [2, 3, 4, 1, 5, 0] rfl) (by rw [tnM]; first | rw [if_pos c_37] | rw [if_neg c_37]))
  exact L18 7 0 (by omega) (by omega) _ _ hP hD hS ls (lv_as (l1 := [(0, .ref (A 0)), (1, .int (nI q)), (2, .int (nI v)), (3, .int (nI 0)), (4, .int (nI 0)), (5, .int (nI 0))]) (lv_sub hl [3, 4, 5, 2, 1, 0] rfl) (by rfl))

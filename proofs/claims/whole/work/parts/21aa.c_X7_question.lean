set_option maxHeartbeats 4000000 in
set_option maxRecDepth 100000 in
theorem c_X7_question (l : Launch) (G : GG) (sz : Nat) (A : Nat → Nat) (th sm le : Int32) (dg : Int64) (f sl ik sv tx pl : Nat → Int32) (n : Nat) (hn : f 17 = nI n) (hn2 : n ≤ 12) (hv : okA f) (ht : okT f) : WRi l yX7_question wsX7_question 4 G [.ref (A 0)] (mW G A th sm le dg f sl ik sv tx pl) sz (S := Nat → Int32) (fun r _ => r = (qsM f n 36).1) (fun u => mW G A th sm le dg f sl ik sv tx u) 0 0 := by
  refine wr_of (l := l) (y := yX7_question) (w := wsX7_question) (d := 4) (G := G) (As := [.ref (A 0)]) (sz := sz) (mc := 0) (ms := 0) (cc := cX7_question) (maxL := 10) (ret := (some .int)) (Qc := fun Ar => wQi G (S := Nat → Int32) (fun r _ => r = (qsM f n 36).1) (fun u => mW G A th sm le dg f sl ik sv tx u) Ar) (by decide) rfl (Nat.le_of_ble_eq_true rfl) ?_
  intro pG eG s mG below meth cG hsz hx hb hr hml hts hown hlocks hnm hP hK hN Ar hD hA hS ls hl
  have hown : s.vm.findClass RX7 = some mG.cls := hown
  have hP : PP G (mW G A th sm le dg f sl ik sv tx pl) s.heap := hP
  have hD : va_D Ar (mW G A th sm le dg f sl ik sv tx pl) := hD
  have hl : lv_has ls 10 [(0, .ref (A 0))] := hl
  refine lv_aload_n hx hb dX7_question_0 rfl (lv_at hl 0 rfl) ?_
  refine wr_goi (pre := []) (mid := mW G A th sm le dg f sl ik sv tx pl) (suf := []) (va_runV (As := []) (rest := []) ⟨hx, hb, hml, hown, hts⟩ (c_X7_fitting l G _ A th sm le dg f sl ik sv tx pl n hn hn2 hv) (cwV 0 hts gX7_question_X7_fitting rfl rfl rfl (by decide +kernel) ⟨Nat.le_of_ble_eq_true rfl, Nat.le_of_ble_eq_true rfl⟩) (wV (pre := []) (mid := mW G A th sm le dg f sl ik sv tx pl) (suf := []) (va_recv (ws := mW G A th sm le dg f sl ik sv tx pl) hK hP (ci := 6) (q0 := 0) rfl rfl) hK hN hP hD) rfl rfl hl.1 rfl (lv_room (Nat.le_of_ble_eq_true rfl)) dX7_question_1 ⟨Nat.le_of_ble_eq_true rfl, Nat.le_of_ble_eq_true rfl⟩) hP hD hS hA (fun r u_1 H locs hw hP9 hD9 hS => ?_)
  subst hw
  have hP : PP G (mW G A th sm le dg f sl ik sv tx u_1) _ := hP9
  have hD : va_D Ar (mW G A th sm le dg f sl ik sv tx u_1) := hD9
  refine lv_istore_n (lv' := [(1, .int (fitN f n)), (0, .ref (A 0))]) hx hb dX7_question_4 rfl hl (by decide) rfl (fun ls hl => ?_)
  refine lv_iconst (v := (-1)) hx hb dX7_question_5 (by decide) ?_
  refine lv_istore_n (lv' := [(2, .int (-1)), (1, .int (fitN f n)), (0, .ref (A 0))]) hx hb dX7_question_6 rfl hl (by decide) rfl (fun ls hl => ?_)
  refine lv_iconst (v := nI 0) hx hb dX7_question_7 (by decide) ?_
  refine lv_istore_n (lv' := [(3, .int (nI 0)), (2, .int (-1)), (1, .int (fitN f n)), (0, .ref (A 0))]) hx hb dX7_question_8 rfl hl (by decide) rfl (fun ls hl => ?_)
  refine lv_iconst (v := nI 0) hx hb dX7_question_9 (by decide) ?_
  refine lv_istore (lv' := [(4, .int (nI 0)), (3, .int (nI 0)), (2, .int (-1)), (1, .int (fitN f n)), (0, .ref (A 0))]) hx hb dX7_question_10 hl (by decide) rfl (fun ls hl => ?_)
  have L12 : ∀ (fu : Nat) (k : Nat) (q : Nat → Int32) (hk : k ≤ 36), 36 + 1 ≤ k + fu → ∀ (H : Heap) (locs : List Loc), PP G (mW G A th sm le dg f sl ik sv tx q) H → va_D Ar (mW G A th sm le dg f sl ik sv tx q) → va_S Ar s.heap H locs → ∀ ls : Array Slot, lv_has ls 10 [(0, .ref (A 0)), (1, .int (fitN f n)), (2, .int ((qsM f n k).1)), (3, .int ((qsM f n k).2)), (4, .int (nI k))] → W pG l eG (RM 4 0 0) s mG ([.ref (A 0)] : List Value).toArray below meth cG H locs 0 0 (MQ below (wQi G (S := Nat → Int32) (fun r _ => r = (qsM f n 36).1) (fun u => mW G A th sm le dg f sl ik sv tx u) Ar) ([.ref (A 0)] : List Value).toArray s 0 0 Ar) (F0 mG 12 ls []) := by
    intro fu
    induction fu with
    | zero => intro k q hk hfu; exact absurd hfu (by omega)
    | succ fu ih =>
      intro k q hk hfu H locs hP hD hS ls hl
      refine lv_iload hx hb dX7_question_12 (lv_at hl 4 rfl) ?_
      refine lv_bipush (v := nI 36) hx hb dX7_question_14 (by decide) ?_
      refine lv_icmp_ge (tgt := 171) hx hb dX7_question_16 (by decide) (fun c_16 => ?_) (fun c_16 => ?_)
      · have q1 : 36 ≤ k := fe c_16 (by omega) (by omega)
        refine lv_iload_n hx hb dX7_question_171 rfl (lv_at hl 2 rfl) ?_
        exact wr_iret (G := G) (S := Nat → Int32) q hx hb hr hlocks hP hD hS (Nat.le_of_ble_eq_true rfl) (Nat.le_of_ble_eq_true rfl) (by rw [show k = 36 by omega]) dX7_question_172
      · have q1 : k < 36 := fl c_16 (by omega) (by omega)
        have h1 : vp_in (f (11 + (k / 6))) 10 := ht _ (by omega)
        have h2 : vp_in (f (11 + (k % 6))) 10 := ht _ (by omega)
        refine lv_aload_n hx hb dX7_question_19 rfl (lv_at hl 0 rfl) ?_
        refine va_get (D := G.1) (ws := mW G A th sm le dg f sl ik sv tx q) (ci := 6) (v := .ref (A 1)) (C := RX7) (T := TX7) (N := 10) hx hb hts (fun _ h => List.mem_cons_of_mem _ (List.mem_append_right _ (h))) hown hK hP 0 rfl rfl 1 (by decide) (hts (.fieldLink RX7 7 "CreaseMapsModel" "s" "[I") (List.mem_of_getElem? (i := 1) rfl)) (fun _ h9 => h9) rfl dX7_question_20 ?_
        refine lv_bipush (v := nI 11) hx hb dX7_question_23 (by decide) ?_
        refine lv_iload hx hb dX7_question_25 (lv_at hl 4 rfl) ?_
        refine lv_bipush (v := nI 6) hx hb dX7_question_27 (by decide) ?_
        refine lv_idiv hx hb dX7_question_29 (by decide) ?_
        refine lv_cgi (y := nI (k / 6)) (pk_div (by omega) (by omega) (by omega)) ?_
        refine lv_iadd hx hb dX7_question_30 ?_
        refine lv_cgi (y := nI (11 + (k / 6))) (nI_add _ _) ?_
        refine va_iald (D := G.1) (ws := mW G A th sm le dg f sl ik sv tx q) hx hb hK hP 1 0 (n := 58) rfl rfl (by first | assumption | exact vp_in_nI (by omega) (by omega)) dX7_question_31 ?_
        refine lv_cgi (y := f (11 + (k / 6))) (by rw [nI_clamp (by omega)]) ?_
        refine lv_istore (lv' := [(5, .int (f (11 + (k / 6)))), (0, .ref (A 0)), (1, .int (fitN f n)), (2, .int ((qsM f n k).1)), (3, .int ((qsM f n k).2)), (4, .int (nI k))]) hx hb dX7_question_32 hl (by decide) rfl (fun ls hl => ?_)
        refine lv_aload_n hx hb dX7_question_34 rfl (lv_at hl 1 rfl) ?_
        refine va_get (D := G.1) (ws := mW G A th sm le dg f sl ik sv tx q) (ci := 6) (v := .ref (A 1)) (C := RX7) (T := TX7) (N := 10) hx hb hts (fun _ h => List.mem_cons_of_mem _ (List.mem_append_right _ (h))) hown hK hP 0 rfl rfl 1 (by decide) (hts (.fieldLink RX7 7 "CreaseMapsModel" "s" "[I") (List.mem_of_getElem? (i := 1) rfl)) (fun _ h9 => h9) rfl dX7_question_35 ?_
        refine lv_bipush (v := nI 11) hx hb dX7_question_38 (by decide) ?_
        refine lv_iload hx hb dX7_question_40 (lv_at hl 5 rfl) ?_
        refine lv_bipush (v := nI 6) hx hb dX7_question_42 (by decide) ?_
        refine lv_irem hx hb dX7_question_44 (by decide) ?_
        refine lv_cgi (y := nI (k % 6)) (pk_rem (by omega) (by omega) (by omega)) ?_
        refine lv_iadd hx hb dX7_question_45 ?_
        refine lv_cgi (y := nI (11 + (k % 6))) (nI_add _ _) ?_
        refine va_iald (D := G.1) (ws := mW G A th sm le dg f sl ik sv tx q) hx hb hK hP 1 0 (n := 58) rfl rfl (by first | assumption | exact vp_in_nI (by omega) (by omega)) dX7_question_46 ?_
        refine lv_cgi (y := f (11 + (k % 6))) (by rw [nI_clamp (by omega)]) ?_
        refine lv_istore (lv' := [(6, .int (f (11 + (k % 6)))), (5, .int (f (11 + (k / 6)))), (0, .ref (A 0)), (1, .int (fitN f n)), (2, .int ((qsM f n k).1)), (3, .int ((qsM f n k).2)), (4, .int (nI k))]) hx hb dX7_question_47 hl (by decide) rfl (fun ls hl => ?_)
        refine lv_iload hx hb dX7_question_49 (lv_at hl 6 rfl) ?_
        refine lv_bipush (v := nI 6) hx hb dX7_question_51 (by decide) ?_
        refine lv_idiv hx hb dX7_question_53 (by decide) ?_
        refine lv_cgi (y := nI (k / 6)) (pk_div (by omega) (by omega) (by omega)) ?_
        refine lv_iload hx hb dX7_question_54 (lv_at hl 6 rfl) ?_
        refine lv_bipush (v := nI 6) hx hb dX7_question_56 (by decide) ?_
        refine lv_irem hx hb dX7_question_58 (by decide) ?_
        refine lv_cgi (y := nI (k % 6)) (pk_rem (by omega) (by omega) (by omega)) ?_
        refine lv_icmp_ge (tgt := 165) hx hb dX7_question_59 (by decide) (fun c_59 => ?_) (fun c_59 => ?_)
        · have c_59 : ¬ k / 6 < k % 6 := by have := fe c_59 (by omega) (by omega); omega
          refine lv_iinc (v := nI (k + 1)) (lv' := [(4, .int (nI (k + 1))), (6, .int (f (11 + (k % 6)))), (5, .int (f (11 + (k / 6)))), (0, .ref (A 0)), (1, .int (fitN f n)), (2, .int ((qsM f n k).1)), (3, .int ((qsM f n k).2))]) hx hb dX7_question_165 hl (k := 6) rfl (iincN k) (by decide) rfl (fun ls hl => ?_)
          refine lv_goto (tgt := 12) hx hb dX7_question_168 (by decide) ?_
          have q9 : qask f n k = false := by unfold qask; simp [c_59]
          exact ih (k + 1) q (by omega) (by omega) _ _ hP hD hS ls (lv_as (l1 := [(0, .ref (A 0)), (1, .int (fitN f n)), (2, .int ((qsM f n k).1)), (3, .int ((qsM f n k).2)), (4, .int (nI (k + 1)))]) (lv_sub hl [3, 4, 5, 6, 0] rfl) (by rw [qsM, if_neg (fun h => Bool.false_ne_true (q9.symm.trans h.1))]))
        · have c_59 : k / 6 < k % 6 := fl c_59 (by omega) (by omega)
          refine lv_iload hx hb dX7_question_62 (lv_at hl 1 rfl) ?_
          refine lv_iload hx hb dX7_question_64 (lv_at hl 0 rfl) ?_
          refine lv_icmp_eq (tgt := 165) hx hb dX7_question_66 (by decide) (fun c_66 => ?_) (fun c_66 => ?_)
          · have c_66 : qo f k = qt f k := c_66
            refine lv_iinc (v := nI (k + 1)) (lv' := [(4, .int (nI (k + 1))), (6, .int (f (11 + (k % 6)))), (5, .int (f (11 + (k / 6)))), (0, .ref (A 0)), (1, .int (fitN f n)), (2, .int ((qsM f n k).1)), (3, .int ((qsM f n k).2))]) hx hb dX7_question_165 hl (k := 6) rfl (iincN k) (by decide) rfl (fun ls hl => ?_)
            refine lv_goto (tgt := 12) hx hb dX7_question_168 (by decide) ?_
            have q9 : qask f n k = false := by unfold qask; simp [c_59, c_66]
            exact ih (k + 1) q (by omega) (by omega) _ _ hP hD hS ls (lv_as (l1 := [(0, .ref (A 0)), (1, .int (fitN f n)), (2, .int ((qsM f n k).1)), (3, .int ((qsM f n k).2)), (4, .int (nI (k + 1)))]) (lv_sub hl [3, 4, 5, 6, 0] rfl) (by rw [qsM, if_neg (fun h => Bool.false_ne_true (q9.symm.trans h.1))]))
          · have c_66 : ¬ qo f k = qt f k := c_66
            refine lv_aload_n hx hb dX7_question_69 rfl (lv_at hl 2 rfl) ?_
            refine lv_iload hx hb dX7_question_70 (lv_at hl 1 rfl) ?_
            refine lv_iload hx hb dX7_question_72 (lv_at hl 0 rfl) ?_
            refine rd_go (va_runV (As := [.int (f (11 + (k / 6))), .int (f (11 + (k % 6)))]) (rest := []) ⟨hx, hb, hml, hown, hts⟩ (c_X7_keptFor l G A th sm le dg f sl ik sv tx q n (by assumption) hn2 (f (11 + (k / 6))) (f (11 + (k % 6)))) (cwV 2 hts gX7_question_X7_keptFor rfl rfl rfl (by decide +kernel) ⟨Nat.le_of_ble_eq_true rfl, Nat.le_of_ble_eq_true rfl⟩) (rV (ws := mW G A th sm le dg f sl ik sv tx q) (va_recv (ws := mW G A th sm le dg f sl ik sv tx q) hK hP (ci := 6) (q0 := 0) rfl rfl) hK hN hP) rfl rfl hl.1 rfl (lv_room (Nat.le_of_ble_eq_true rfl)) dX7_question_74 ⟨Nat.le_of_ble_eq_true rfl, Nat.le_of_ble_eq_true rfl⟩) ?_
            refine lv_iconst (v := (-1)) hx hb dX7_question_77 (by decide) ?_
            refine lv_icmp_ne (tgt := 165) hx hb dX7_question_78 (by decide) (fun c_78 => ?_) (fun c_78 => ?_)
            · have c_78 : ¬ kept f (qo f k) (qt f k) n = -1 := c_78
              refine lv_iinc (v := nI (k + 1)) (lv' := [(4, .int (nI (k + 1))), (6, .int (f (11 + (k % 6)))), (5, .int (f (11 + (k / 6)))), (0, .ref (A 0)), (1, .int (fitN f n)), (2, .int ((qsM f n k).1)), (3, .int ((qsM f n k).2))]) hx hb dX7_question_165 hl (k := 6) rfl (iincN k) (by decide) rfl (fun ls hl => ?_)
              refine lv_goto (tgt := 12) hx hb dX7_question_168 (by decide) ?_
              have q9 : qask f n k = false := by unfold qask; simp [c_59, c_66, c_78]
              exact ih (k + 1) q (by omega) (by omega) _ _ hP hD hS ls (lv_as (l1 := [(0, .ref (A 0)), (1, .int (fitN f n)), (2, .int ((qsM f n k).1)), (3, .int ((qsM f n k).2)), (4, .int (nI (k + 1)))]) (lv_sub hl [3, 4, 5, 6, 0] rfl) (by rw [qsM, if_neg (fun h => Bool.false_ne_true (q9.symm.trans h.1))]))
            · have c_78 : kept f (qo f k) (qt f k) n = -1 := c_78
              refine lv_aload_n hx hb dX7_question_81 rfl (lv_at hl 2 rfl) ?_
              refine lv_iload hx hb dX7_question_82 (lv_at hl 1 rfl) ?_
              refine lv_iload hx hb dX7_question_84 (lv_at hl 0 rfl) ?_
              refine wr_goi (pre := []) (mid := mW G A th sm le dg f sl ik sv tx q) (suf := []) (va_runV (As := [.int (f (11 + (k / 6))), .int (f (11 + (k % 6)))]) (rest := []) ⟨hx, hb, hml, hown, hts⟩ (c_X7_touching l G _ A th sm le dg f sl ik sv tx q n hn hn2 hv (f (11 + (k / 6))) (f (11 + (k % 6))) (by assumption) (by assumption)) (cwV 2 hts gX7_question_X7_touching rfl rfl rfl (by decide +kernel) ⟨Nat.le_of_ble_eq_true rfl, Nat.le_of_ble_eq_true rfl⟩) (wV (pre := []) (mid := mW G A th sm le dg f sl ik sv tx q) (suf := []) (va_recv (ws := mW G A th sm le dg f sl ik sv tx q) hK hP (ci := 6) (q0 := 0) rfl rfl) hK hN hP hD) rfl rfl hl.1 rfl (lv_room (Nat.le_of_ble_eq_true rfl)) dX7_question_86 ⟨Nat.le_of_ble_eq_true rfl, Nat.le_of_ble_eq_true rfl⟩) hP hD hS hA (fun r u_2 H locs hw hP9 hD9 hS => ?_)
              subst hw
              have hP : PP G (mW G A th sm le dg f sl ik sv tx u_2) _ := hP9
              have hD : va_D Ar (mW G A th sm le dg f sl ik sv tx u_2) := hD9
              refine lv_istore (lv' := [(7, .int (touN f n (f (11 + (k / 6))) (f (11 + (k % 6))))), (6, .int (f (11 + (k % 6)))), (5, .int (f (11 + (k / 6)))), (0, .ref (A 0)), (1, .int (fitN f n)), (2, .int ((qsM f n k).1)), (3, .int ((qsM f n k).2)), (4, .int (nI k))]) hx hb dX7_question_89 hl (by decide) rfl (fun ls hl => ?_)
              refine lv_iload hx hb dX7_question_91 (lv_at hl 0 rfl) ?_
              refine lv_iload_n hx hb dX7_question_93 rfl (lv_at hl 4 rfl) ?_
              refine lv_iload hx hb dX7_question_94 (lv_at hl 0 rfl) ?_
              refine lv_isub hx hb dX7_question_96 ?_
              refine lv_icmp_le (tgt := 105) hx hb dX7_question_97 (by decide) (fun c_97 => ?_) (fun c_97 => ?_)
              · refine lv_iload_n hx hb dX7_question_105 rfl (lv_at hl 4 rfl) ?_
                refine lv_iload hx hb dX7_question_106 (lv_at hl 0 rfl) ?_
                refine lv_isub hx hb dX7_question_108 ?_
                refine lv_istore (lv' := [(8, .int ((fitN f n) - (touN f n (f (11 + (k / 6))) (f (11 + (k % 6)))))), (7, .int (touN f n (f (11 + (k / 6))) (f (11 + (k % 6))))), (6, .int (f (11 + (k % 6)))), (5, .int (f (11 + (k / 6)))), (0, .ref (A 0)), (1, .int (fitN f n)), (2, .int ((qsM f n k).1)), (3, .int ((qsM f n k).2)), (4, .int (nI k))]) hx hb dX7_question_109 hl (by decide) rfl (fun ls hl => ?_)
                refine lv_iload_n hx hb dX7_question_111 rfl (lv_at hl 6 rfl) ?_
                refine lv_iconst (v := (-1)) hx hb dX7_question_112 (by decide) ?_
                refine lv_icmp_eq (tgt := 122) hx hb dX7_question_113 (by decide) (fun c_113 => ?_) (fun c_113 => ?_)
                · refine lv_iconst (v := nI 1) hx hb dX7_question_122 (by decide) ?_
                  refine lv_goto (tgt := 127) hx hb dX7_question_123 (by decide) ?_
                  refine lv_istore (lv' := [(9, .int (nI 1)), (8, .int ((fitN f n) - (touN f n (f (11 + (k / 6))) (f (11 + (k % 6)))))), (7, .int (touN f n (f (11 + (k / 6))) (f (11 + (k % 6))))), (6, .int (f (11 + (k % 6)))), (5, .int (f (11 + (k / 6)))), (0, .ref (A 0)), (1, .int (fitN f n)), (2, .int ((qsM f n k).1)), (3, .int ((qsM f n k).2)), (4, .int (nI k))]) hx hb dX7_question_127 hl (by decide) rfl (fun ls hl => ?_)
                  refine lv_iload hx hb dX7_question_129 (lv_at hl 0 rfl) ?_
                  refine lv_if_eq (tgt := 151) hx hb dX7_question_131 (by decide) (fun c_131 => ?_) (fun c_131 => ?_)
                  · exact absurd c_131 (by decide)
                  · refine lv_bipush (v := nI 10) hx hb dX7_question_134 (by decide) ?_
                    refine lv_iload hx hb dX7_question_136 (lv_at hl 9 rfl) ?_
                    refine lv_bipush (v := nI 6) hx hb dX7_question_138 (by decide) ?_
                    refine lv_idiv hx hb dX7_question_140 (by decide) ?_
                    refine lv_cgi (y := nI (k / 6)) (pk_div (by omega) (by omega) (by omega)) ?_
                    refine lv_imul hx hb dX7_question_141 ?_
                    refine lv_cgi (y := nI (10 * (k / 6))) (pk_mul _ _) ?_
                    refine lv_iload hx hb dX7_question_142 (lv_at hl 9 rfl) ?_
                    refine lv_bipush (v := nI 6) hx hb dX7_question_144 (by decide) ?_
                    refine lv_irem hx hb dX7_question_146 (by decide) ?_
                    refine lv_cgi (y := nI (k % 6)) (pk_rem (by omega) (by omega) (by omega)) ?_
                    refine lv_iadd hx hb dX7_question_147 ?_
                    refine lv_cgi (y := nI ((10 * (k / 6)) + (k % 6))) (nI_add _ _) ?_
                    refine lv_goto (tgt := 152) hx hb dX7_question_148 (by decide) ?_
                    refine lv_istore_n (lv' := [(2, .int (nI ((10 * (k / 6)) + (k % 6)))), (9, .int (nI 1)), (8, .int ((fitN f n) - (touN f n (f (11 + (k / 6))) (f (11 + (k % 6)))))), (7, .int (touN f n (f (11 + (k / 6))) (f (11 + (k % 6))))), (6, .int (f (11 + (k % 6)))), (5, .int (f (11 + (k / 6)))), (0, .ref (A 0)), (1, .int (fitN f n)), (3, .int ((qsM f n k).2)), (4, .int (nI k))]) hx hb dX7_question_152 rfl hl (by decide) rfl (fun ls hl => ?_)
                    refine lv_iload hx hb dX7_question_153 (lv_at hl 1 rfl) ?_
                    refine lv_if_eq (tgt := 163) hx hb dX7_question_155 (by decide) (fun c_155 => ?_) (fun c_155 => ?_)
                    · exact absurd c_155 (by decide)
                    · refine lv_iload hx hb dX7_question_158 (lv_at hl 2 rfl) ?_
                      refine lv_goto (tgt := 164) hx hb dX7_question_160 (by decide) ?_
                      refine lv_istore_n (lv' := [(3, .int ((fitN f n) - (touN f n (f (11 + (k / 6))) (f (11 + (k % 6)))))), (2, .int (nI ((10 * (k / 6)) + (k % 6)))), (9, .int (nI 1)), (8, .int ((fitN f n) - (touN f n (f (11 + (k / 6))) (f (11 + (k % 6)))))), (7, .int (touN f n (f (11 + (k / 6))) (f (11 + (k % 6))))), (6, .int (f (11 + (k % 6)))), (5, .int (f (11 + (k / 6)))), (0, .ref (A 0)), (1, .int (fitN f n)), (4, .int (nI k))]) hx hb dX7_question_164 rfl hl (by decide) rfl (fun ls hl => ?_)
                      refine lv_iinc (v := nI (k + 1)) (lv' := [(4, .int (nI (k + 1))), (3, .int ((fitN f n) - (touN f n (f (11 + (k / 6))) (f (11 + (k % 6)))))), (2, .int (nI ((10 * (k / 6)) + (k % 6)))), (9, .int (nI 1)), (8, .int ((fitN f n) - (touN f n (f (11 + (k / 6))) (f (11 + (k % 6)))))), (7, .int (touN f n (f (11 + (k / 6))) (f (11 + (k % 6))))), (6, .int (f (11 + (k % 6)))), (5, .int (f (11 + (k / 6)))), (0, .ref (A 0)), (1, .int (fitN f n))]) hx hb dX7_question_165 hl (k := 9) rfl (iincN k) (by decide) rfl (fun ls hl => ?_)
                      refine lv_goto (tgt := 12) hx hb dX7_question_168 (by decide) ?_
                      have q9 : qask f n k = true := by unfold qask; simp [c_59, c_66, c_78]
                      have q8 : qwor f n k = (fitN f n) - (touN f n (f (11 + (k / 6))) (f (11 + (k % 6)))) := if_pos c_97
                      exact ih (k + 1) u_2 (by omega) (by omega) _ _ hP hD hS ls (lv_as (l1 := [(0, .ref (A 0)), (1, .int (fitN f n)), (2, .int (nI ((10 * (k / 6)) + (k % 6)))), (3, .int ((fitN f n) - (touN f n (f (11 + (k / 6))) (f (11 + (k % 6)))))), (4, .int (nI (k + 1)))]) (lv_sub hl [8, 9, 2, 1, 0] rfl) (by rw [qsM, if_pos ⟨q9, Or.inl c_113⟩, q8]))
                · refine lv_iload hx hb dX7_question_116 (lv_at hl 0 rfl) ?_
                  refine lv_iload_n hx hb dX7_question_118 rfl (lv_at hl 7 rfl) ?_
                  refine lv_icmp_ge (tgt := 126) hx hb dX7_question_119 (by decide) (fun c_119 => ?_) (fun c_119 => ?_)
                  · refine lv_iconst (v := nI 0) hx hb dX7_question_126 (by decide) ?_
                    refine lv_istore (lv' := [(9, .int (nI 0)), (8, .int ((fitN f n) - (touN f n (f (11 + (k / 6))) (f (11 + (k % 6)))))), (7, .int (touN f n (f (11 + (k / 6))) (f (11 + (k % 6))))), (6, .int (f (11 + (k % 6)))), (5, .int (f (11 + (k / 6)))), (0, .ref (A 0)), (1, .int (fitN f n)), (2, .int ((qsM f n k).1)), (3, .int ((qsM f n k).2)), (4, .int (nI k))]) hx hb dX7_question_127 hl (by decide) rfl (fun ls hl => ?_)
                    refine lv_iload hx hb dX7_question_129 (lv_at hl 0 rfl) ?_
                    refine lv_if_eq (tgt := 151) hx hb dX7_question_131 (by decide) (fun c_131 => ?_) (fun c_131 => ?_)
                    · refine lv_iload_n hx hb dX7_question_151 rfl (lv_at hl 7 rfl) ?_
                      refine lv_istore_n (lv' := [(2, .int ((qsM f n k).1)), (9, .int (nI 0)), (8, .int ((fitN f n) - (touN f n (f (11 + (k / 6))) (f (11 + (k % 6)))))), (7, .int (touN f n (f (11 + (k / 6))) (f (11 + (k % 6))))), (6, .int (f (11 + (k % 6)))), (5, .int (f (11 + (k / 6)))), (0, .ref (A 0)), (1, .int (fitN f n)), (3, .int ((qsM f n k).2)), (4, .int (nI k))]) hx hb dX7_question_152 rfl hl (by decide) rfl (fun ls hl => ?_)
                      refine lv_iload hx hb dX7_question_153 (lv_at hl 1 rfl) ?_
                      refine lv_if_eq (tgt := 163) hx hb dX7_question_155 (by decide) (fun c_155 => ?_) (fun c_155 => ?_)
                      · refine lv_iload_n hx hb dX7_question_163 rfl (lv_at hl 8 rfl) ?_
                        refine lv_istore_n (lv' := [(3, .int ((qsM f n k).2)), (2, .int ((qsM f n k).1)), (9, .int (nI 0)), (8, .int ((fitN f n) - (touN f n (f (11 + (k / 6))) (f (11 + (k % 6)))))), (7, .int (touN f n (f (11 + (k / 6))) (f (11 + (k % 6))))), (6, .int (f (11 + (k % 6)))), (5, .int (f (11 + (k / 6)))), (0, .ref (A 0)), (1, .int (fitN f n)), (4, .int (nI k))]) hx hb dX7_question_164 rfl hl (by decide) rfl (fun ls hl => ?_)
                        refine lv_iinc (v := nI (k + 1)) (lv' := [(4, .int (nI (k + 1))), (3, .int ((qsM f n k).2)), (2, .int ((qsM f n k).1)), (9, .int (nI 0)), (8, .int ((fitN f n) - (touN f n (f (11 + (k / 6))) (f (11 + (k % 6)))))), (7, .int (touN f n (f (11 + (k / 6))) (f (11 + (k % 6))))), (6, .int (f (11 + (k % 6)))), (5, .int (f (11 + (k / 6)))), (0, .ref (A 0)), (1, .int (fitN f n))]) hx hb dX7_question_165 hl (k := 9) rfl (iincN k) (by decide) rfl (fun ls hl => ?_)
                        refine lv_goto (tgt := 12) hx hb dX7_question_168 (by decide) ?_
                        have q9 : qask f n k = true := by unfold qask; simp [c_59, c_66, c_78]
                        have q8 : qwor f n k = (fitN f n) - (touN f n (f (11 + (k / 6))) (f (11 + (k % 6)))) := if_pos c_97
                        exact ih (k + 1) u_2 (by omega) (by omega) _ _ hP hD hS ls (lv_as (l1 := [(0, .ref (A 0)), (1, .int (fitN f n)), (2, .int ((qsM f n k).1)), (3, .int ((qsM f n k).2)), (4, .int (nI (k + 1)))]) (lv_sub hl [8, 9, 2, 1, 0] rfl) (by rw [qsM, if_neg (fun h => h.2.elim c_113 (fun h => Int32.not_lt.mpr c_119 (q8 ▸ h)))]))
                      · exact absurd c_155 (by decide)
                    · exact absurd c_131 (by decide)
                  · refine lv_iconst (v := nI 1) hx hb dX7_question_122 (by decide) ?_
                    refine lv_goto (tgt := 127) hx hb dX7_question_123 (by decide) ?_
                    refine lv_istore (lv' := [(9, .int (nI 1)), (8, .int ((fitN f n) - (touN f n (f (11 + (k / 6))) (f (11 + (k % 6)))))), (7, .int (touN f n (f (11 + (k / 6))) (f (11 + (k % 6))))), (6, .int (f (11 + (k % 6)))), (5, .int (f (11 + (k / 6)))), (0, .ref (A 0)), (1, .int (fitN f n)), (2, .int ((qsM f n k).1)), (3, .int ((qsM f n k).2)), (4, .int (nI k))]) hx hb dX7_question_127 hl (by decide) rfl (fun ls hl => ?_)
                    refine lv_iload hx hb dX7_question_129 (lv_at hl 0 rfl) ?_
                    refine lv_if_eq (tgt := 151) hx hb dX7_question_131 (by decide) (fun c_131 => ?_) (fun c_131 => ?_)
                    · exact absurd c_131 (by decide)
                    · refine lv_bipush (v := nI 10) hx hb dX7_question_134 (by decide) ?_
                      refine lv_iload hx hb dX7_question_136 (lv_at hl 9 rfl) ?_
                      refine lv_bipush (v := nI 6) hx hb dX7_question_138 (by decide) ?_
                      refine lv_idiv hx hb dX7_question_140 (by decide) ?_
                      refine lv_cgi (y := nI (k / 6)) (pk_div (by omega) (by omega) (by omega)) ?_
                      refine lv_imul hx hb dX7_question_141 ?_
                      refine lv_cgi (y := nI (10 * (k / 6))) (pk_mul _ _) ?_
                      refine lv_iload hx hb dX7_question_142 (lv_at hl 9 rfl) ?_
                      refine lv_bipush (v := nI 6) hx hb dX7_question_144 (by decide) ?_
                      refine lv_irem hx hb dX7_question_146 (by decide) ?_
                      refine lv_cgi (y := nI (k % 6)) (pk_rem (by omega) (by omega) (by omega)) ?_
                      refine lv_iadd hx hb dX7_question_147 ?_
                      refine lv_cgi (y := nI ((10 * (k / 6)) + (k % 6))) (nI_add _ _) ?_
                      refine lv_goto (tgt := 152) hx hb dX7_question_148 (by decide) ?_
                      refine lv_istore_n (lv' := [(2, .int (nI ((10 * (k / 6)) + (k % 6)))), (9, .int (nI 1)), (8, .int ((fitN f n) - (touN f n (f (11 + (k / 6))) (f (11 + (k % 6)))))), (7, .int (touN f n (f (11 + (k / 6))) (f (11 + (k % 6))))), (6, .int (f (11 + (k % 6)))), (5, .int (f (11 + (k / 6)))), (0, .ref (A 0)), (1, .int (fitN f n)), (3, .int ((qsM f n k).2)), (4, .int (nI k))]) hx hb dX7_question_152 rfl hl (by decide) rfl (fun ls hl => ?_)
                      refine lv_iload hx hb dX7_question_153 (lv_at hl 1 rfl) ?_
                      refine lv_if_eq (tgt := 163) hx hb dX7_question_155 (by decide) (fun c_155 => ?_) (fun c_155 => ?_)
                      · exact absurd c_155 (by decide)
                      · refine lv_iload hx hb dX7_question_158 (lv_at hl 2 rfl) ?_
                        refine lv_goto (tgt := 164) hx hb dX7_question_160 (by decide) ?_
                        refine lv_istore_n (lv' := [(3, .int ((fitN f n) - (touN f n (f (11 + (k / 6))) (f (11 + (k % 6)))))), (2, .int (nI ((10 * (k / 6)) + (k % 6)))), (9, .int (nI 1)), (8, .int ((fitN f n) - (touN f n (f (11 + (k / 6))) (f (11 + (k % 6)))))), (7, .int (touN f n (f (11 + (k / 6))) (f (11 + (k % 6))))), (6, .int (f (11 + (k % 6)))), (5, .int (f (11 + (k / 6)))), (0, .ref (A 0)), (1, .int (fitN f n)), (4, .int (nI k))]) hx hb dX7_question_164 rfl hl (by decide) rfl (fun ls hl => ?_)
                        refine lv_iinc (v := nI (k + 1)) (lv' := [(4, .int (nI (k + 1))), (3, .int ((fitN f n) - (touN f n (f (11 + (k / 6))) (f (11 + (k % 6)))))), (2, .int (nI ((10 * (k / 6)) + (k % 6)))), (9, .int (nI 1)), (8, .int ((fitN f n) - (touN f n (f (11 + (k / 6))) (f (11 + (k % 6)))))), (7, .int (touN f n (f (11 + (k / 6))) (f (11 + (k % 6))))), (6, .int (f (11 + (k % 6)))), (5, .int (f (11 + (k / 6)))), (0, .ref (A 0)), (1, .int (fitN f n))]) hx hb dX7_question_165 hl (k := 9) rfl (iincN k) (by decide) rfl (fun ls hl => ?_)
                        refine lv_goto (tgt := 12) hx hb dX7_question_168 (by decide) ?_
                        have q9 : qask f n k = true := by unfold qask; simp [c_59, c_66, c_78]
                        have q8 : qwor f n k = (fitN f n) - (touN f n (f (11 + (k / 6))) (f (11 + (k % 6)))) := if_pos c_97
                        exact ih (k + 1) u_2 (by omega) (by omega) _ _ hP hD hS ls (lv_as (l1 := [(0, .ref (A 0)), (1, .int (fitN f n)), (2, .int (nI ((10 * (k / 6)) + (k % 6)))), (3, .int ((fitN f n) - (touN f n (f (11 + (k / 6))) (f (11 + (k % 6)))))), (4, .int (nI (k + 1)))]) (lv_sub hl [8, 9, 2, 1, 0] rfl) (by rw [qsM, if_pos ⟨q9, Or.inr (q8.symm ▸ Int32.not_le.mp c_119)⟩, q8]))
              · refine lv_iload hx hb dX7_question_100 (lv_at hl 0 rfl) ?_
                refine lv_goto (tgt := 109) hx hb dX7_question_102 (by decide) ?_
                refine lv_istore (lv' := [(8, .int (touN f n (f (11 + (k / 6))) (f (11 + (k % 6))))), (7, .int (touN f n (f (11 + (k / 6))) (f (11 + (k % 6))))), (6, .int (f (11 + (k % 6)))), (5, .int (f (11 + (k / 6)))), (0, .ref (A 0)), (1, .int (fitN f n)), (2, .int ((qsM f n k).1)), (3, .int ((qsM f n k).2)), (4, .int (nI k))]) hx hb dX7_question_109 hl (by decide) rfl (fun ls hl => ?_)
                refine lv_iload_n hx hb dX7_question_111 rfl (lv_at hl 6 rfl) ?_
                refine lv_iconst (v := (-1)) hx hb dX7_question_112 (by decide) ?_
                refine lv_icmp_eq (tgt := 122) hx hb dX7_question_113 (by decide) (fun c_113 => ?_) (fun c_113 => ?_)
                · refine lv_iconst (v := nI 1) hx hb dX7_question_122 (by decide) ?_
                  refine lv_goto (tgt := 127) hx hb dX7_question_123 (by decide) ?_
                  refine lv_istore (lv' := [(9, .int (nI 1)), (8, .int (touN f n (f (11 + (k / 6))) (f (11 + (k % 6))))), (7, .int (touN f n (f (11 + (k / 6))) (f (11 + (k % 6))))), (6, .int (f (11 + (k % 6)))), (5, .int (f (11 + (k / 6)))), (0, .ref (A 0)), (1, .int (fitN f n)), (2, .int ((qsM f n k).1)), (3, .int ((qsM f n k).2)), (4, .int (nI k))]) hx hb dX7_question_127 hl (by decide) rfl (fun ls hl => ?_)
                  refine lv_iload hx hb dX7_question_129 (lv_at hl 0 rfl) ?_
                  refine lv_if_eq (tgt := 151) hx hb dX7_question_131 (by decide) (fun c_131 => ?_) (fun c_131 => ?_)
                  · exact absurd c_131 (by decide)
                  · refine lv_bipush (v := nI 10) hx hb dX7_question_134 (by decide) ?_
                    refine lv_iload hx hb dX7_question_136 (lv_at hl 9 rfl) ?_
                    refine lv_bipush (v := nI 6) hx hb dX7_question_138 (by decide) ?_
                    refine lv_idiv hx hb dX7_question_140 (by decide) ?_
                    refine lv_cgi (y := nI (k / 6)) (pk_div (by omega) (by omega) (by omega)) ?_
                    refine lv_imul hx hb dX7_question_141 ?_
                    refine lv_cgi (y := nI (10 * (k / 6))) (pk_mul _ _) ?_
                    refine lv_iload hx hb dX7_question_142 (lv_at hl 9 rfl) ?_
                    refine lv_bipush (v := nI 6) hx hb dX7_question_144 (by decide) ?_
                    refine lv_irem hx hb dX7_question_146 (by decide) ?_
                    refine lv_cgi (y := nI (k % 6)) (pk_rem (by omega) (by omega) (by omega)) ?_
                    refine lv_iadd hx hb dX7_question_147 ?_
                    refine lv_cgi (y := nI ((10 * (k / 6)) + (k % 6))) (nI_add _ _) ?_
                    refine lv_goto (tgt := 152) hx hb dX7_question_148 (by decide) ?_
                    refine lv_istore_n (lv' := [(2, .int (nI ((10 * (k / 6)) + (k % 6)))), (9, .int (nI 1)), (8, .int (touN f n (f (11 + (k / 6))) (f (11 + (k % 6))))), (7, .int (touN f n (f (11 + (k / 6))) (f (11 + (k % 6))))), (6, .int (f (11 + (k % 6)))), (5, .int (f (11 + (k / 6)))), (0, .ref (A 0)), (1, .int (fitN f n)), (3, .int ((qsM f n k).2)), (4, .int (nI k))]) hx hb dX7_question_152 rfl hl (by decide) rfl (fun ls hl => ?_)
                    refine lv_iload hx hb dX7_question_153 (lv_at hl 1 rfl) ?_
                    refine lv_if_eq (tgt := 163) hx hb dX7_question_155 (by decide) (fun c_155 => ?_) (fun c_155 => ?_)
                    · exact absurd c_155 (by decide)
                    · refine lv_iload hx hb dX7_question_158 (lv_at hl 2 rfl) ?_
                      refine lv_goto (tgt := 164) hx hb dX7_question_160 (by decide) ?_
                      refine lv_istore_n (lv' := [(3, .int (touN f n (f (11 + (k / 6))) (f (11 + (k % 6))))), (2, .int (nI ((10 * (k / 6)) + (k % 6)))), (9, .int (nI 1)), (8, .int (touN f n (f (11 + (k / 6))) (f (11 + (k % 6))))), (7, .int (touN f n (f (11 + (k / 6))) (f (11 + (k % 6))))), (6, .int (f (11 + (k % 6)))), (5, .int (f (11 + (k / 6)))), (0, .ref (A 0)), (1, .int (fitN f n)), (4, .int (nI k))]) hx hb dX7_question_164 rfl hl (by decide) rfl (fun ls hl => ?_)
                      refine lv_iinc (v := nI (k + 1)) (lv' := [(4, .int (nI (k + 1))), (3, .int (touN f n (f (11 + (k / 6))) (f (11 + (k % 6))))), (2, .int (nI ((10 * (k / 6)) + (k % 6)))), (9, .int (nI 1)), (8, .int (touN f n (f (11 + (k / 6))) (f (11 + (k % 6))))), (7, .int (touN f n (f (11 + (k / 6))) (f (11 + (k % 6))))), (6, .int (f (11 + (k % 6)))), (5, .int (f (11 + (k / 6)))), (0, .ref (A 0)), (1, .int (fitN f n))]) hx hb dX7_question_165 hl (k := 9) rfl (iincN k) (by decide) rfl (fun ls hl => ?_)
                      refine lv_goto (tgt := 12) hx hb dX7_question_168 (by decide) ?_
                      have q9 : qask f n k = true := by unfold qask; simp [c_59, c_66, c_78]
                      have q8 : qwor f n k = touN f n (f (11 + (k / 6))) (f (11 + (k % 6))) := if_neg c_97
                      exact ih (k + 1) u_2 (by omega) (by omega) _ _ hP hD hS ls (lv_as (l1 := [(0, .ref (A 0)), (1, .int (fitN f n)), (2, .int (nI ((10 * (k / 6)) + (k % 6)))), (3, .int (touN f n (f (11 + (k / 6))) (f (11 + (k % 6))))), (4, .int (nI (k + 1)))]) (lv_sub hl [8, 9, 2, 1, 0] rfl) (by rw [qsM, if_pos ⟨q9, Or.inl c_113⟩, q8]))
                · refine lv_iload hx hb dX7_question_116 (lv_at hl 0 rfl) ?_
                  refine lv_iload_n hx hb dX7_question_118 rfl (lv_at hl 7 rfl) ?_
                  refine lv_icmp_ge (tgt := 126) hx hb dX7_question_119 (by decide) (fun c_119 => ?_) (fun c_119 => ?_)
                  · refine lv_iconst (v := nI 0) hx hb dX7_question_126 (by decide) ?_
                    refine lv_istore (lv' := [(9, .int (nI 0)), (8, .int (touN f n (f (11 + (k / 6))) (f (11 + (k % 6))))), (7, .int (touN f n (f (11 + (k / 6))) (f (11 + (k % 6))))), (6, .int (f (11 + (k % 6)))), (5, .int (f (11 + (k / 6)))), (0, .ref (A 0)), (1, .int (fitN f n)), (2, .int ((qsM f n k).1)), (3, .int ((qsM f n k).2)), (4, .int (nI k))]) hx hb dX7_question_127 hl (by decide) rfl (fun ls hl => ?_)
                    refine lv_iload hx hb dX7_question_129 (lv_at hl 0 rfl) ?_
                    refine lv_if_eq (tgt := 151) hx hb dX7_question_131 (by decide) (fun c_131 => ?_) (fun c_131 => ?_)
                    · refine lv_iload_n hx hb dX7_question_151 rfl (lv_at hl 7 rfl) ?_
                      refine lv_istore_n (lv' := [(2, .int ((qsM f n k).1)), (9, .int (nI 0)), (8, .int (touN f n (f (11 + (k / 6))) (f (11 + (k % 6))))), (7, .int (touN f n (f (11 + (k / 6))) (f (11 + (k % 6))))), (6, .int (f (11 + (k % 6)))), (5, .int (f (11 + (k / 6)))), (0, .ref (A 0)), (1, .int (fitN f n)), (3, .int ((qsM f n k).2)), (4, .int (nI k))]) hx hb dX7_question_152 rfl hl (by decide) rfl (fun ls hl => ?_)
                      refine lv_iload hx hb dX7_question_153 (lv_at hl 1 rfl) ?_
                      refine lv_if_eq (tgt := 163) hx hb dX7_question_155 (by decide) (fun c_155 => ?_) (fun c_155 => ?_)
                      · refine lv_iload_n hx hb dX7_question_163 rfl (lv_at hl 8 rfl) ?_
                        refine lv_istore_n (lv' := [(3, .int ((qsM f n k).2)), (2, .int ((qsM f n k).1)), (9, .int (nI 0)), (8, .int (touN f n (f (11 + (k / 6))) (f (11 + (k % 6))))), (7, .int (touN f n (f (11 + (k / 6))) (f (11 + (k % 6))))), (6, .int (f (11 + (k % 6)))), (5, .int (f (11 + (k / 6)))), (0, .ref (A 0)), (1, .int (fitN f n)), (4, .int (nI k))]) hx hb dX7_question_164 rfl hl (by decide) rfl (fun ls hl => ?_)
                        refine lv_iinc (v := nI (k + 1)) (lv' := [(4, .int (nI (k + 1))), (3, .int ((qsM f n k).2)), (2, .int ((qsM f n k).1)), (9, .int (nI 0)), (8, .int (touN f n (f (11 + (k / 6))) (f (11 + (k % 6))))), (7, .int (touN f n (f (11 + (k / 6))) (f (11 + (k % 6))))), (6, .int (f (11 + (k % 6)))), (5, .int (f (11 + (k / 6)))), (0, .ref (A 0)), (1, .int (fitN f n))]) hx hb dX7_question_165 hl (k := 9) rfl (iincN k) (by decide) rfl (fun ls hl => ?_)
                        refine lv_goto (tgt := 12) hx hb dX7_question_168 (by decide) ?_
                        have q9 : qask f n k = true := by unfold qask; simp [c_59, c_66, c_78]
                        have q8 : qwor f n k = touN f n (f (11 + (k / 6))) (f (11 + (k % 6))) := if_neg c_97
                        exact ih (k + 1) u_2 (by omega) (by omega) _ _ hP hD hS ls (lv_as (l1 := [(0, .ref (A 0)), (1, .int (fitN f n)), (2, .int ((qsM f n k).1)), (3, .int ((qsM f n k).2)), (4, .int (nI (k + 1)))]) (lv_sub hl [8, 9, 2, 1, 0] rfl) (by rw [qsM, if_neg (fun h => h.2.elim c_113 (fun h => Int32.not_lt.mpr c_119 (q8 ▸ h)))]))
                      · exact absurd c_155 (by decide)
                    · exact absurd c_131 (by decide)
                  · refine lv_iconst (v := nI 1) hx hb dX7_question_122 (by decide) ?_
                    refine lv_goto (tgt := 127) hx hb dX7_question_123 (by decide) ?_
                    refine lv_istore (lv' := [(9, .int (nI 1)), (8, .int (touN f n (f (11 + (k / 6))) (f (11 + (k % 6))))), (7, .int (touN f n (f (11 + (k / 6))) (f (11 + (k % 6))))), (6, .int (f (11 + (k % 6)))), (5, .int (f (11 + (k / 6)))), (0, .ref (A 0)), (1, .int (fitN f n)), (2, .int ((qsM f n k).1)), (3, .int ((qsM f n k).2)), (4, .int (nI k))]) hx hb dX7_question_127 hl (by decide) rfl (fun ls hl => ?_)
                    refine lv_iload hx hb dX7_question_129 (lv_at hl 0 rfl) ?_
                    refine lv_if_eq (tgt := 151) hx hb dX7_question_131 (by decide) (fun c_131 => ?_) (fun c_131 => ?_)
                    · exact absurd c_131 (by decide)
                    · refine lv_bipush (v := nI 10) hx hb dX7_question_134 (by decide) ?_
                      refine lv_iload hx hb dX7_question_136 (lv_at hl 9 rfl) ?_
                      refine lv_bipush (v := nI 6) hx hb dX7_question_138 (by decide) ?_
                      refine lv_idiv hx hb dX7_question_140 (by decide) ?_
                      refine lv_cgi (y := nI (k / 6)) (pk_div (by omega) (by omega) (by omega)) ?_
                      refine lv_imul hx hb dX7_question_141 ?_
                      refine lv_cgi (y := nI (10 * (k / 6))) (pk_mul _ _) ?_
                      refine lv_iload hx hb dX7_question_142 (lv_at hl 9 rfl) ?_
                      refine lv_bipush (v := nI 6) hx hb dX7_question_144 (by decide) ?_
                      refine lv_irem hx hb dX7_question_146 (by decide) ?_
                      refine lv_cgi (y := nI (k % 6)) (pk_rem (by omega) (by omega) (by omega)) ?_
                      refine lv_iadd hx hb dX7_question_147 ?_
                      refine lv_cgi (y := nI ((10 * (k / 6)) + (k % 6))) (nI_add _ _) ?_
                      refine lv_goto (tgt := 152) hx hb dX7_question_148 (by decide) ?_
                      refine lv_istore_n (lv' := [(2, .int (nI ((10 * (k / 6)) + (k % 6)))), (9, .int (nI 1)), (8, .int (touN f n (f (11 + (k / 6))) (f (11 + (k % 6))))), (7, .int (touN f n (f (11 + (k / 6))) (f (11 + (k % 6))))), (6, .int (f (11 + (k % 6)))), (5, .int (f (11 + (k / 6)))), (0, .ref (A 0)), (1, .int (fitN f n)), (3, .int ((qsM f n k).2)), (4, .int (nI k))]) hx hb dX7_question_152 rfl hl (by decide) rfl (fun ls hl => ?_)
                      refine lv_iload hx hb dX7_question_153 (lv_at hl 1 rfl) ?_
                      refine lv_if_eq (tgt := 163) hx hb dX7_question_155 (by decide) (fun c_155 => ?_) (fun c_155 => ?_)
                      · exact absurd c_155 (by decide)
                      · refine lv_iload hx hb dX7_question_158 (lv_at hl 2 rfl) ?_
                        refine lv_goto (tgt := 164) hx hb dX7_question_160 (by decide) ?_
                        refine lv_istore_n (lv' := [(3, .int (touN f n (f (11 + (k / 6))) (f (11 + (k % 6))))), (2, .int (nI ((10 * (k / 6)) + (k % 6)))), (9, .int (nI 1)), (8, .int (touN f n (f (11 + (k / 6))) (f (11 + (k % 6))))), (7, .int (touN f n (f (11 + (k / 6))) (f (11 + (k % 6))))), (6, .int (f (11 + (k % 6)))), (5, .int (f (11 + (k / 6)))), (0, .ref (A 0)), (1, .int (fitN f n)), (4, .int (nI k))]) hx hb dX7_question_164 rfl hl (by decide) rfl (fun ls hl => ?_)
                        refine lv_iinc (v := nI (k + 1)) (lv' := [(4, .int (nI (k + 1))), (3, .int (touN f n (f (11 + (k / 6))) (f (11 + (k % 6))))), (2, .int (nI ((10 * (k / 6)) + (k % 6)))), (9, .int (nI 1)), (8, .int (touN f n (f (11 + (k / 6))) (f (11 + (k % 6))))), (7, .int (touN f n (f (11 + (k / 6))) (f (11 + (k % 6))))), (6, .int (f (11 + (k % 6)))), (5, .int (f (11 + (k / 6)))), (0, .ref (A 0)), (1, .int (fitN f n))]) hx hb dX7_question_165 hl (k := 9) rfl (iincN k) (by decide) rfl (fun ls hl => ?_)
                        refine lv_goto (tgt := 12) hx hb dX7_question_168 (by decide) ?_
                        have q9 : qask f n k = true := by unfold qask; simp [c_59, c_66, c_78]
                        have q8 : qwor f n k = touN f n (f (11 + (k / 6))) (f (11 + (k % 6))) := if_neg c_97
                        exact ih (k + 1) u_2 (by omega) (by omega) _ _ hP hD hS ls (lv_as (l1 := [(0, .ref (A 0)), (1, .int (fitN f n)), (2, .int (nI ((10 * (k / 6)) + (k % 6)))), (3, .int (touN f n (f (11 + (k / 6))) (f (11 + (k % 6))))), (4, .int (nI (k + 1)))]) (lv_sub hl [8, 9, 2, 1, 0] rfl) (by rw [qsM, if_pos ⟨q9, Or.inr (q8.symm ▸ Int32.not_le.mp c_119)⟩, q8]))
  exact L12 37 0 u_1 (by omega) (by omega) _ _ hP hD hS ls (lv_as (l1 := [(0, .ref (A 0)), (1, .int (fitN f n)), (2, .int (-1)), (3, .int (nI 0)), (4, .int (nI 0))]) (lv_sub hl [4, 3, 2, 1, 0] rfl) (by rfl))

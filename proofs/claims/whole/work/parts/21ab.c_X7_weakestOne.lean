set_option maxHeartbeats 4000000 in
set_option maxRecDepth 100000 in
theorem c_X7_weakestOne (l : Launch) (G : GG) (A : Nat → Nat) (th sm le : Int32) (dg : Int64) (f sl ik sv tx pl : Nat → Int32) : RD l yX7_weakestOne wsX7_weakestOne 1 G [.ref (A 0)] (mW G A th sm le dg f sl ik sv tx pl) (some (.int (wkM f 9))) := by
  refine rd_of (cc := cX7_weakestOne) (maxL := 3) (ret := (some .int)) (by decide) rfl (Nat.le_of_ble_eq_true rfl) ?_
  intro pG eG s mG below meth cG hx hb hr hml hts hown hlocks hP hK hN ls hl
  have hown : s.vm.findClass RX7 = some mG.cls := hown
  have hl : lv_has ls 3 [(0, .ref (A 0))] := hl
  refine lv_iconst (v := (-1)) hx hb dX7_weakestOne_0 (by decide) ?_
  refine lv_istore_n (lv' := [(1, .int (-1)), (0, .ref (A 0))]) hx hb dX7_weakestOne_1 rfl hl (by decide) rfl (fun ls hl => ?_)
  refine lv_bipush (v := nI 8) hx hb dX7_weakestOne_2 (by decide) ?_
  refine lv_istore_n (lv' := [(2, .int (nI 8)), (1, .int (-1)), (0, .ref (A 0))]) hx hb dX7_weakestOne_4 rfl hl (by decide) rfl (fun ls hl => ?_)
  have L5 : ∀ (fu : Nat) (d : Nat) (hd : d ≤ 9), 9 + 1 ≤ d + fu → ∀ ls : Array Slot, lv_has ls 3 [(0, .ref (A 0)), (1, .int (wkM f d)), (2, .int (wkc d))] → W pG l eG (RM 1 0 0) s mG ([.ref (A 0)] : List Value).toArray below meth cG s.heap [] 0 0 (MQ below (rQ (some (.int (wkM f 9)))) ([.ref (A 0)] : List Value).toArray s 0 0 (fun _ => False)) (F0 mG 5 ls []) := by
    intro fu
    induction fu with
    | zero => intro d hd hfu; exact absurd hfu (by omega)
    | succ fu ih =>
      intro d hd hfu ls hl
      refine lv_iload_n hx hb dX7_weakestOne_5 rfl (lv_at hl 2 rfl) ?_
      refine lv_if_lt (tgt := 59) hx hb dX7_weakestOne_6 (by decide) (fun c_6 => ?_) (fun c_6 => ?_)
      · have q1 := wkc_lt c_6
        refine lv_iload_n hx hb dX7_weakestOne_59 rfl (lv_at hl 1 rfl) ?_
        exact rd_iret hx hb hr hlocks (by rw [show d = 9 by omega]) dX7_weakestOne_60
      · have q1 : d < 9 := wkc_ge c_6
        have hl := lv_as (l2 := [(0, .ref (A 0)), (1, .int (wkM f d)), (2, .int (nI (8 - d)))]) hl (by rw [show wkc d = nI (8 - d) from if_pos q1])
        refine lv_aload_n hx hb dX7_weakestOne_9 rfl (lv_at hl 0 rfl) ?_
        refine va_get (D := G.1) (ws := mW G A th sm le dg f sl ik sv tx pl) (ci := 6) (v := .ref (A 1)) (C := RX7) (T := TX7) (N := 10) hx hb hts (fun _ h => List.mem_cons_of_mem _ (List.mem_append_right _ (h))) hown hK hP 0 rfl rfl 1 (by decide) (hts (.fieldLink RX7 7 "CreaseMapsModel" "s" "[I") (List.mem_of_getElem? (i := 1) rfl)) (fun _ h9 => h9) rfl dX7_weakestOne_10 ?_
        refine lv_iconst (v := nI 0) hx hb dX7_weakestOne_13 (by decide) ?_
        refine va_iald (D := G.1) (ws := mW G A th sm le dg f sl ik sv tx pl) hx hb hK hP 1 0 (n := 58) rfl rfl (by first | assumption | exact vp_in_nI (by omega) (by omega)) dX7_weakestOne_14 ?_
        refine lv_cgi (y := f 0) rfl ?_
        refine lv_iload_n hx hb dX7_weakestOne_15 rfl (lv_at hl 2 rfl) ?_
        refine lv_ishr hx hb dX7_weakestOne_16 ?_
        refine lv_iconst (v := nI 1) hx hb dX7_weakestOne_17 (by decide) ?_
        refine lv_iand hx hb dX7_weakestOne_18 ?_
        refine lv_iconst (v := nI 1) hx hb dX7_weakestOne_19 (by decide) ?_
        refine lv_icmp_ne (tgt := 51) hx hb dX7_weakestOne_20 (by decide) (fun c_20 => ?_) (fun c_20 => ?_)
        · refine lv_iload_n hx hb dX7_weakestOne_51 rfl (lv_at hl 1 rfl) ?_
          refine lv_istore_n (lv' := [(1, .int (wkM f d)), (0, .ref (A 0)), (2, .int (nI (8 - d)))]) hx hb dX7_weakestOne_52 rfl hl (by decide) rfl (fun ls hl => ?_)
          refine lv_iinc (v := (nI (8 - d)) + Int32.ofInt (-1)) (lv' := [(2, .int ((nI (8 - d)) + Int32.ofInt (-1))), (1, .int (wkM f d)), (0, .ref (A 0))]) hx hb dX7_weakestOne_53 hl (k := 2) rfl rfl (by decide) rfl (fun ls hl => ?_)
          refine lv_goto (tgt := 5) hx hb dX7_weakestOne_56 (by decide) ?_
          exact ih (d + 1) (by omega) (by omega) ls (lv_as (l1 := [(0, .ref (A 0)), (1, .int (wkM f d)), (2, .int ((nI (8 - d)) + Int32.ofInt (-1)))]) (lv_sub hl [2, 1, 0] rfl) (by rw [wkM, if_neg (fun h => c_20 h.1), wkc_s q1]))
        · refine lv_iload_n hx hb dX7_weakestOne_23 rfl (lv_at hl 1 rfl) ?_
          refine lv_iconst (v := (-1)) hx hb dX7_weakestOne_24 (by decide) ?_
          refine lv_icmp_eq (tgt := 47) hx hb dX7_weakestOne_25 (by decide) (fun c_25 => ?_) (fun c_25 => ?_)
          · refine lv_iload_n hx hb dX7_weakestOne_47 rfl (lv_at hl 2 rfl) ?_
            refine lv_goto (tgt := 52) hx hb dX7_weakestOne_48 (by decide) ?_
            refine lv_istore_n (lv' := [(1, .int (nI (8 - d))), (0, .ref (A 0)), (2, .int (nI (8 - d)))]) hx hb dX7_weakestOne_52 rfl hl (by decide) rfl (fun ls hl => ?_)
            refine lv_iinc (v := (nI (8 - d)) + Int32.ofInt (-1)) (lv' := [(2, .int ((nI (8 - d)) + Int32.ofInt (-1))), (1, .int (nI (8 - d))), (0, .ref (A 0))]) hx hb dX7_weakestOne_53 hl (k := 2) rfl rfl (by decide) rfl (fun ls hl => ?_)
            refine lv_goto (tgt := 5) hx hb dX7_weakestOne_56 (by decide) ?_
            exact ih (d + 1) (by omega) (by omega) ls (lv_as (l1 := [(0, .ref (A 0)), (1, .int (nI (8 - d))), (2, .int ((nI (8 - d)) + Int32.ofInt (-1)))]) (lv_sub hl [2, 1, 0] rfl) (by rw [wkM, if_pos ⟨c_20, Or.inl c_25⟩, wkc_s q1]))
          · refine lv_aload_n hx hb dX7_weakestOne_28 rfl (lv_at hl 0 rfl) ?_
            refine va_get (D := G.1) (ws := mW G A th sm le dg f sl ik sv tx pl) (ci := 6) (v := .ref (A 1)) (C := RX7) (T := TX7) (N := 10) hx hb hts (fun _ h => List.mem_cons_of_mem _ (List.mem_append_right _ (h))) hown hK hP 0 rfl rfl 1 (by decide) (hts (.fieldLink RX7 7 "CreaseMapsModel" "s" "[I") (List.mem_of_getElem? (i := 1) rfl)) (fun _ h9 => h9) rfl dX7_weakestOne_29 ?_
            refine lv_iconst (v := nI 2) hx hb dX7_weakestOne_32 (by decide) ?_
            refine lv_iload_n hx hb dX7_weakestOne_33 rfl (lv_at hl 2 rfl) ?_
            refine lv_iadd hx hb dX7_weakestOne_34 ?_
            refine lv_cgi (y := nI (2 + (8 - d))) (nI_add _ _) ?_
            refine va_iald (D := G.1) (ws := mW G A th sm le dg f sl ik sv tx pl) hx hb hK hP 1 0 (n := 58) rfl rfl (by first | assumption | exact vp_in_nI (by omega) (by omega)) dX7_weakestOne_35 ?_
            refine lv_cgi (y := f (2 + (8 - d))) (by rw [nI_clamp (by omega)]) ?_
            refine lv_aload_n hx hb dX7_weakestOne_36 rfl (lv_at hl 0 rfl) ?_
            refine va_get (D := G.1) (ws := mW G A th sm le dg f sl ik sv tx pl) (ci := 6) (v := .ref (A 1)) (C := RX7) (T := TX7) (N := 10) hx hb hts (fun _ h => List.mem_cons_of_mem _ (List.mem_append_right _ (h))) hown hK hP 0 rfl rfl 1 (by decide) (hts (.fieldLink RX7 7 "CreaseMapsModel" "s" "[I") (List.mem_of_getElem? (i := 1) rfl)) (fun _ h9 => h9) rfl dX7_weakestOne_37 ?_
            refine lv_iconst (v := nI 2) hx hb dX7_weakestOne_40 (by decide) ?_
            refine lv_iload_n hx hb dX7_weakestOne_41 rfl (lv_at hl 1 rfl) ?_
            refine lv_iadd hx hb dX7_weakestOne_42 ?_
            refine va_iald (D := G.1) (ws := mW G A th sm le dg f sl ik sv tx pl) hx hb hK hP 1 0 (n := 58) rfl rfl (wkM_vp c_25) dX7_weakestOne_43 ?_
            refine lv_icmp_lt (tgt := 51) hx hb dX7_weakestOne_44 (by decide) (fun c_44 => ?_) (fun c_44 => ?_)
            · refine lv_iload_n hx hb dX7_weakestOne_51 rfl (lv_at hl 1 rfl) ?_
              refine lv_istore_n (lv' := [(1, .int (wkM f d)), (0, .ref (A 0)), (2, .int (nI (8 - d)))]) hx hb dX7_weakestOne_52 rfl hl (by decide) rfl (fun ls hl => ?_)
              refine lv_iinc (v := (nI (8 - d)) + Int32.ofInt (-1)) (lv' := [(2, .int ((nI (8 - d)) + Int32.ofInt (-1))), (1, .int (wkM f d)), (0, .ref (A 0))]) hx hb dX7_weakestOne_53 hl (k := 2) rfl rfl (by decide) rfl (fun ls hl => ?_)
              refine lv_goto (tgt := 5) hx hb dX7_weakestOne_56 (by decide) ?_
              exact ih (d + 1) (by omega) (by omega) ls (lv_as (l1 := [(0, .ref (A 0)), (1, .int (wkM f d)), (2, .int ((nI (8 - d)) + Int32.ofInt (-1)))]) (lv_sub hl [2, 1, 0] rfl) (by rw [wkM, if_neg (fun h => h.2.elim c_25 (fun h => h c_44)), wkc_s q1]))
            · refine lv_iload_n hx hb dX7_weakestOne_47 rfl (lv_at hl 2 rfl) ?_
              refine lv_goto (tgt := 52) hx hb dX7_weakestOne_48 (by decide) ?_
              refine lv_istore_n (lv' := [(1, .int (nI (8 - d))), (0, .ref (A 0)), (2, .int (nI (8 - d)))]) hx hb dX7_weakestOne_52 rfl hl (by decide) rfl (fun ls hl => ?_)
              refine lv_iinc (v := (nI (8 - d)) + Int32.ofInt (-1)) (lv' := [(2, .int ((nI (8 - d)) + Int32.ofInt (-1))), (1, .int (nI (8 - d))), (0, .ref (A 0))]) hx hb dX7_weakestOne_53 hl (k := 2) rfl rfl (by decide) rfl (fun ls hl => ?_)
              refine lv_goto (tgt := 5) hx hb dX7_weakestOne_56 (by decide) ?_
              exact ih (d + 1) (by omega) (by omega) ls (lv_as (l1 := [(0, .ref (A 0)), (1, .int (nI (8 - d))), (2, .int ((nI (8 - d)) + Int32.ofInt (-1)))]) (lv_sub hl [2, 1, 0] rfl) (by rw [wkM, if_pos ⟨c_20, Or.inr c_44⟩, wkc_s q1]))
  exact L5 10 0 (by omega) (by omega) ls (lv_as (l1 := [(0, .ref (A 0)), (1, .int (-1)), (2, .int (nI 8))]) (lv_sub hl [2, 1, 0] rfl) (by rfl))

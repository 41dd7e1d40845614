set_option maxHeartbeats 4000000 in
set_option maxRecDepth 100000 in
theorem c_X6_bitsOfShare (l : Launch) (G : GG) (n : Nat) (hn5 : n ≤ 512) : RD l yX6_bitsOfShare wsX6_bitsOfShare 1 G [.double (shV n)] (([] : va_W)) (some (.long (bitV n))) := by
  refine rd_of (cc := cX6_bitsOfShare) (maxL := 8) (ret := (some .long)) (by decide) rfl (Nat.le_of_ble_eq_true rfl) ?_
  intro pG eG s mG below meth cG hx hb hr hml hts hown hlocks hP hK hN ls hl
  have hown : s.vm.findClass RX6 = some mG.cls := hown
  have hl : lv_has ls 8 [(0, .double (shV n))] := hl
  refine lv_dload_n hx hb dX6_bitsOfShare_0 rfl (lv_at hl 0 rfl) ?_
  refine lv_dconst0 hx hb dX6_bitsOfShare_1 ?_
  refine lv_dcmp hx hb dX6_bitsOfShare_2 ?_
  refine lv_if_gt (tgt := 8) hx hb dX6_bitsOfShare_3 (by decide) (fun c_3 => ?_) (fun c_3 => ?_)
  · have h0 : n ≠ 0 := (okV_1 hn5).2.2.mp c_3
    refine lv_dload_n hx hb dX6_bitsOfShare_8 rfl (lv_at hl 0 rfl) ?_
    refine lv_dstore_n (lv' := [(2, .double (shV n)), (0, .double (shV n))]) hx hb dX6_bitsOfShare_9 rfl hl (by decide) rfl (fun ls hl => ?_)
    refine lv_ldc2 hx hb hown (hts (.constantLong RX6 286 (1023)) (List.mem_of_getElem? (i := 1) rfl)) dX6_bitsOfShare_10 ?_
    refine lv_lstore (lv' := [(4, .long (1023)), (2, .double (shV n)), (0, .double (shV n))]) hx hb dX6_bitsOfShare_13 hl (by decide) rfl (fun ls hl => ?_)
    refine lv_iconst (v := nI 0) hx hb dX6_bitsOfShare_15 (by decide) ?_
    refine lv_istore (lv' := [(6, .int (nI 0)), (4, .long (1023)), (2, .double (shV n)), (0, .double (shV n))]) hx hb dX6_bitsOfShare_16 hl (by decide) rfl (fun ls hl => ?_)
    have L18 : ∀ (fu18 : Nat) (k : Nat) (hk : k ≤ kV n), kV n + 1 ≤ k + fu18 → ∀ ls : Array Slot, lv_has ls 8 [(2, .double (scV (shV n) k)), (4, .long (pwr k)), (6, .int (nI k))] → W pG l eG (RM 1 0 0) s mG ([.double (shV n)] : List Value).toArray below meth cG s.heap [] 0 0 (MQ below (rQ (some (.long (bitV n)))) ([.double (shV n)] : List Value).toArray s 0 0 (fun _ => False)) (F0 mG 18 ls []) := by
      intro fu18
      induction fu18 with
      | zero => intro k hk hfu18; exact absurd hfu18 (by omega)
      | succ fu18 ih18 =>
        intro k hk hfu18 ls hl
        have hk9 := (okV_2 hn5 h0).1
        refine lv_iload hx hb dX6_bitsOfShare_18 (lv_at hl 2 rfl) ?_
        refine lv_sipush (v := nI 1022) hx hb dX6_bitsOfShare_20 (by decide +kernel) ?_
        refine lv_icmp_ge (tgt := 50) hx hb dX6_bitsOfShare_23 (by decide) (fun c_23 => ?_) (fun c_23 => ?_)
        · exact absurd (fe c_23 (by omega) (by omega)) (by have := (okV_2 hn5 h0).1; omega)
        · refine lv_dload_n hx hb dX6_bitsOfShare_26 rfl (lv_at hl 0 rfl) ?_
          refine lv_dconst1 hx hb dX6_bitsOfShare_27 ?_
          refine lv_dcmp hx hb dX6_bitsOfShare_28 ?_
          refine lv_if_ge (tgt := 50) hx hb dX6_bitsOfShare_29 (by decide) (fun c_29 => ?_) (fun c_29 => ?_)
          · have q1 : k = kV n := ((okV_2 hn5 h0).2.2.2.1 k hk).mp c_29
            refine lv_dload_n hx hb dX6_bitsOfShare_50 rfl (lv_at hl 0 rfl) ?_
            refine lv_dconst1 hx hb dX6_bitsOfShare_51 ?_
            refine lv_dsub hx hb dX6_bitsOfShare_52 (by rw [q1]; exact (okV_2 hn5 h0).2.1) ?_
            refine lv_ldc2d hx hb hown (hts (.constantDouble RX6 290 (4841369599423283200)) (List.mem_of_getElem? (i := 3) rfl)) dX6_bitsOfShare_53 ?_
            refine lv_dmul hx hb dX6_bitsOfShare_56 (by rw [q1]; exact (okV_2 hn5 h0).2.2.1) ?_
            refine lv_d2l hx hb dX6_bitsOfShare_57 ?_
            refine lv_lstore (lv' := [(6, .long (FP.d2l (FP.dmul (FP.dsub (scV (shV n) k) FP.dconst1) (4841369599423283200)))), (2, .double (scV (shV n) k)), (4, .long (pwr k))]) hx hb dX6_bitsOfShare_58 hl (by decide) rfl (fun ls hl => ?_)
            refine lv_lload hx hb dX6_bitsOfShare_60 (lv_at hl 2 rfl) ?_
            refine lv_bipush (v := nI 52) hx hb dX6_bitsOfShare_62 (by decide) ?_
            refine lv_lshl (v := (pwr k) <<< ((nI 52).toInt64 &&& 63)) hx hb dX6_bitsOfShare_64 rfl ?_
            refine lv_lload hx hb dX6_bitsOfShare_65 (lv_at hl 0 rfl) ?_
            refine lv_ladd hx hb dX6_bitsOfShare_67 ?_
            exact rd_lret hx hb hr hlocks (by unfold bitV; rw [if_neg h0, pwr_sh (by omega), q1]) dX6_bitsOfShare_68
          · have q1 : k < kV n := by have := mt ((okV_2 hn5 h0).2.2.2.1 k hk).mpr c_29; omega
            refine lv_dload_n hx hb dX6_bitsOfShare_32 rfl (lv_at hl 0 rfl) ?_
            refine lv_ldc2d hx hb hown (hts (.constantDouble RX6 288 (4611686018427387904)) (List.mem_of_getElem? (i := 2) rfl)) dX6_bitsOfShare_33 ?_
            refine lv_dmul hx hb dX6_bitsOfShare_36 (dmul_ok hn5 h0 q1) ?_
            refine lv_cgv (y := .double (scV (shV n) (k + 1))) (congrArg Value.double ((okV_2 hn5 h0).2.2.2.2 k q1).1) ?_
            refine lv_dstore_n (lv' := [(2, .double (scV (shV n) (k + 1))), (4, .long (pwr k)), (6, .int (nI k))]) hx hb dX6_bitsOfShare_37 rfl hl (by decide) rfl (fun ls hl => ?_)
            refine lv_lload hx hb dX6_bitsOfShare_38 (lv_at hl 1 rfl) ?_
            refine lv_lconst (v := 1) hx hb dX6_bitsOfShare_40 (by decide) ?_
            refine lv_lsub hx hb dX6_bitsOfShare_41 ?_
            refine lv_lstore (lv' := [(4, .long ((pwr k) - (1 : Int64))), (2, .double (scV (shV n) (k + 1))), (6, .int (nI k))]) hx hb dX6_bitsOfShare_42 hl (by decide) rfl (fun ls hl => ?_)
            refine lv_iinc (v := nI (k + 1)) (lv' := [(6, .int (nI (k + 1))), (4, .long ((pwr k) - (1 : Int64))), (2, .double (scV (shV n) (k + 1)))]) hx hb dX6_bitsOfShare_44 hl (k := 2) rfl (iincN k) (by decide) rfl (fun ls hl => ?_)
            refine lv_goto (tgt := 18) hx hb dX6_bitsOfShare_47 (by decide) ?_
            exact ih18 (k + 1) (by omega) (by omega) ls (lv_as (l1 := [(2, .double (scV (shV n) (k + 1))), (4, .long ((pwr k) - (1 : Int64))), (6, .int (nI (k + 1)))]) (lv_sub hl [2, 1, 0] rfl) (by rfl))
    exact L18 (kV n + 1) 0 (by omega) (by omega) ls (lv_as (l1 := [(2, .double (shV n)), (4, .long (1023)), (6, .int (nI 0))]) (lv_sub hl [2, 1, 0] rfl) (by rw [scV_0]; try rfl))
  · have h0 : n = 0 := Classical.byContradiction (fun h => c_3 ((okV_1 hn5).2.2.mpr h))
    refine lv_lconst (v := 0) hx hb dX6_bitsOfShare_6 (by decide) ?_
    exact rd_lret hx hb hr hlocks (by unfold bitV; rw [if_pos h0]) dX6_bitsOfShare_7

set_option maxHeartbeats 4000000 in
set_option maxRecDepth 100000 in
theorem c_X7_bitsOf (l : Launch) (G : GG) (n : Nat) (hn5 : n ≤ 512) : RD l yX7_bitsOf wsX7_bitsOf 1 G [.double (shV n)] (([] : va_W)) (some (.long (bitV n))) := by
  refine rd_of (cc := cX7_bitsOf) (maxL := 6) (ret := (some .long)) (by decide) rfl (Nat.le_of_ble_eq_true rfl) ?_
  intro pG eG s mG below meth cG hx hb hr hml hts hown hlocks hP hK hN ls hl
  have hown : s.vm.findClass RX7 = some mG.cls := hown
  have hl : lv_has ls 6 [(0, .double (shV n))] := hl
  refine lv_dload_n hx hb dX7_bitsOf_0 rfl (lv_at hl 0 rfl) ?_
  refine lv_dconst0 hx hb dX7_bitsOf_1 ?_
  refine lv_dcmp hx hb dX7_bitsOf_2 ?_
  refine lv_if_ne (tgt := 8) hx hb dX7_bitsOf_3 (by decide) (fun c_3 => ?_) (fun c_3 => ?_)
  · have h0 : n ≠ 0 := fun h => c_3 ((okV_1 hn5).2.1.mpr h)
    refine lv_ldc2 hx hb hown (hts (.constantLong RX7 144 (1023)) (List.mem_of_getElem? (i := 1) rfl)) dX7_bitsOf_8 ?_
    refine lv_lstore_n (lv' := [(2, .long (1023)), (0, .double (shV n))]) hx hb dX7_bitsOf_11 rfl hl (by decide) rfl (fun ls hl => ?_)
    refine lv_dload_n hx hb dX7_bitsOf_12 rfl (lv_at hl 1 rfl) ?_
    refine lv_dstore (lv' := [(4, .double (shV n)), (2, .long (1023)), (0, .double (shV n))]) hx hb dX7_bitsOf_13 hl (by decide) rfl (fun ls hl => ?_)
    have L15 : ∀ (fu15 : Nat) (k : Nat) (hk : k ≤ kV n), kV n + 1 ≤ k + fu15 → ∀ ls : Array Slot, lv_has ls 6 [(2, .long (pwr k)), (4, .double (scV (shV n) k))] → W pG l eG (RM 1 0 0) s mG ([.double (shV n)] : List Value).toArray below meth cG s.heap [] 0 0 (MQ below (rQ (some (.long (bitV n)))) ([.double (shV n)] : List Value).toArray s 0 0 (fun _ => False)) (F0 mG 15 ls []) := by
      intro fu15
      induction fu15 with
      | zero => intro k hk hfu15; exact absurd hfu15 (by omega)
      | succ fu15 ih15 =>
        intro k hk hfu15 ls hl
        refine lv_dload hx hb dX7_bitsOf_15 (lv_at hl 1 rfl) ?_
        refine lv_dconst1 hx hb dX7_bitsOf_17 ?_
        refine lv_dcmp hx hb dX7_bitsOf_18 ?_
        refine lv_if_ge (tgt := 37) hx hb dX7_bitsOf_19 (by decide) (fun c_19 => ?_) (fun c_19 => ?_)
        · have q1 : k = kV n := ((okV_2 hn5 h0).2.2.2.1 k hk).mp c_19
          refine lv_lload_n hx hb dX7_bitsOf_37 rfl (lv_at hl 0 rfl) ?_
          refine lv_ldc2 hx hb hown (hts (.constantLong RX7 148 (4503599627370496)) (List.mem_of_getElem? (i := 3) rfl)) dX7_bitsOf_38 ?_
          refine lv_lmul hx hb dX7_bitsOf_41 ?_
          refine lv_dload hx hb dX7_bitsOf_42 (lv_at hl 1 rfl) ?_
          refine lv_dconst1 hx hb dX7_bitsOf_44 ?_
          refine lv_dsub hx hb dX7_bitsOf_45 (by rw [q1]; exact (okV_2 hn5 h0).2.1) ?_
          refine lv_ldc2d hx hb hown (hts (.constantDouble RX7 150 (4841369599423283200)) (List.mem_of_getElem? (i := 4) rfl)) dX7_bitsOf_46 ?_
          refine lv_dmul hx hb dX7_bitsOf_49 (by rw [q1]; exact (okV_2 hn5 h0).2.2.1) ?_
          refine lv_d2l hx hb dX7_bitsOf_50 ?_
          refine lv_ladd hx hb dX7_bitsOf_51 ?_
          exact rd_lret hx hb hr hlocks (by unfold bitV; rw [if_neg h0, q1]) dX7_bitsOf_52
        · have q1 : k < kV n := by have := mt ((okV_2 hn5 h0).2.2.2.1 k hk).mpr c_19; omega
          refine lv_dload hx hb dX7_bitsOf_22 (lv_at hl 1 rfl) ?_
          refine lv_ldc2d hx hb hown (hts (.constantDouble RX7 146 (4611686018427387904)) (List.mem_of_getElem? (i := 2) rfl)) dX7_bitsOf_24 ?_
          refine lv_dmul hx hb dX7_bitsOf_27 (dmul_ok hn5 h0 q1) ?_
          refine lv_cgv (y := .double (scV (shV n) (k + 1))) (congrArg Value.double ((okV_2 hn5 h0).2.2.2.2 k q1).1) ?_
          refine lv_dstore (lv' := [(4, .double (scV (shV n) (k + 1))), (2, .long (pwr k))]) hx hb dX7_bitsOf_28 hl (by decide) rfl (fun ls hl => ?_)
          refine lv_lload_n hx hb dX7_bitsOf_30 rfl (lv_at hl 1 rfl) ?_
          refine lv_lconst (v := 1) hx hb dX7_bitsOf_31 (by decide) ?_
          refine lv_lsub hx hb dX7_bitsOf_32 ?_
          refine lv_lstore_n (lv' := [(2, .long ((pwr k) - (1 : Int64))), (4, .double (scV (shV n) (k + 1)))]) hx hb dX7_bitsOf_33 rfl hl (by decide) rfl (fun ls hl => ?_)
          refine lv_goto (tgt := 15) hx hb dX7_bitsOf_34 (by decide) ?_
          exact ih15 (k + 1) (by omega) (by omega) ls (lv_as (l1 := [(2, .long ((pwr k) - (1 : Int64))), (4, .double (scV (shV n) (k + 1)))]) (lv_sub hl [0, 1] rfl) (by rfl))
    exact L15 (kV n + 1) 0 (by omega) (by omega) ls (lv_as (l1 := [(2, .long (1023)), (4, .double (shV n))]) (lv_sub hl [1, 0] rfl) (by rw [scV_0]; try rfl))
  · have h0 : n = 0 := (okV_1 hn5).2.1.mp c_3
    refine lv_lconst (v := 0) hx hb dX7_bitsOf_6 (by decide) ?_
    exact rd_lret hx hb hr hlocks (by unfold bitV; rw [if_pos h0]) dX7_bitsOf_7

set_option maxHeartbeats 8000000 in
set_option maxRecDepth 100000 in
theorem L_append_no1 {p : Program} {l : Launch} {e : Env} {s : State} {m : MethodId} {args : Array Value} {below : List Frame} {meth : Method} {cd : Code} {Q : State → Prop} {G : GG} {Ar : Nat → Prop} {b9 L : Nat} {xs : Nat → Int32} {xa so oa : Nat} {b ce a hh A : Nat → Nat} (hE : LE9 p l s m args cd G Ar b9 L xs) {j : Nat} (hj : 4 * j + 4 ≤ L) (hL : L ≤ 2048) (hHd : LH p l e s m args below meth cd Q G Ar b9 xa so oa b ce a hh A (j + 1))
    (og : Nat → Int64) (sg : Nat → Int32) (ln : Nat) (hln : ln ≤ 60) (mk : Nat → Int32) (cs up fo tn : Int32) (w t lo hi me : Nat → Int32) (n : Nat) (qu gu ri re : Int32) (P : Nat → Nat → Nat) (F : Nat → Nat → Nat → Int32) (z : Nat) (hz : z ≤ 6) (o0 : SLO) (o1 : SLO) (th : Int32) (dg : Int64) (f sl ik sv pl : Nat → Int32) (x : Int32) (hx0 : ¬ inB x (nI 33) (nI 126))
    (hRS : RS j fo tn w t lo hi me n qu gu ri re f) (hcv : cenV (qS tn lo hi me n) mk cs up) (hHI : HI j z F sv) (hs0 : SLr j o0 (ik 0) sl) (hs1 : SLr j o1 (ik 1) (fun j => sl (58 + j))) (hp0 : xs (4 * j + 1) = x)
    {H : Heap} {locs : List Loc} (hP : PP G (mW G A th (nI z) (nI ln) dg f sl ik sv sg pl ++ (oW G oa og ++ cW G xa so b ce a hh sg ln mk cs up fo tn w t lo hi me (nI n) qu gu ri re P F z o0 o1)) H) (hD : va_D Ar (mW G A th (nI z) (nI ln) dg f sl ik sv sg pl ++ (oW G oa og ++ cW G xa so b ce a hh sg ln mk cs up fo tn w t lo hi me (nI n) qu gu ri re P F z o0 o1))) (hS : va_S Ar s.heap H locs) {ls : Array Slot} (hl : lv_has ls 9 [(0, .ref b9), (1, .ref xa), (2, .ref (A 0)), (3, .ref oa), (4, .int (nI (4 * j)))]) : W p l e room_1 s m args below meth cd H locs (100 + 7 * j) (2000 + 64 * j) Q (F0 m 482 ls []) := by
  obtain ⟨hx, hb, hml, hown, hts, hfl, ⟨hK, hN, hX, hZ0⟩, hA, hXs, hbl, hbA⟩ := id hE
  have hn : n ≤ 12 := hRS.1.1
  have hn17 : f 17 = nI n := hRS.2.1.2.2.1
  have hT : okP t := hRS.2.2.1.2.1
  have hvL : okL lo hi := hRS.2.2.1.2.2.1
  have hvA : okA f := hRS.2.2.1.2.2.2
  have htF : okT f := fun i hi => by rw [hRS.2.1.2.2.2.2 i hi]; exact hT i hi
  refine lv_aload_n hx hb dL_law_482 rfl (lv_at hl 1 rfl) ?_
  refine lv_aload_n hx hb dL_law_483 rfl (lv_at hl 0 rfl) ?_
  refine lv_iload hx hb dL_law_484 (lv_at hl 4 rfl) ?_
  refine lv_iconst (v := nI 1) hx hb dL_law_486 (by decide) ?_
  refine lv_iadd hx hb dL_law_487 ?_
  refine lv_cgi (y := nI ((4 * j) + 1)) (nI_add _ _) ?_
  refine va_sld hx hb hXs hbl hbA hS (vp_in_nI (by omega) (by omega)) dL_law_488 ?_
  refine lv_cgi (y := x) (by rw [nI_clamp (by omega)]; exact hp0) ?_
  refine lv_aload_n hx hb dL_law_489 rfl (lv_at hl 3 rfl) ?_
  refine wr_g1i (pre := mW G A th (nI z) (nI ln) dg f sl ik sv sg pl) (mid := oW G oa og ++ cW G xa so b ce a hh sg ln mk cs up fo tn w t lo hi me (nI n) qu gu ri re P F z o0 o1) (vx_runSW (As := [.ref xa, .int x, .ref oa]) (rest := []) ⟨hx, hb, hml, hown, hts⟩ (w_append_t1 l G _ xa oa _ _ og x (t_X6_append_no1 l hfl G xa _ _ x hx0)) (vx_cwSW 3 hts gL_law_L_append rfl rfl rfl (by decide +kernel) ⟨Nat.le_of_ble_eq_true rfl, Nat.le_of_ble_eq_true rfl⟩) (lxS1 (pre := mW G A th (nI z) (nI ln) dg f sl ik sv sg pl) (mid := oW G oa og ++ cW G xa so b ce a hh sg ln mk cs up fo tn w t lo hi me (nI n) qu gu ri re P F z o0 o1) hK hN hX (XZ_at hZ0 hS hA) hP hD) rfl rfl hl.1 rfl (lv_room (Nat.le_of_ble_eq_true rfl)) dL_law_490 ⟨by show 100 + 7 * j + 1 ≤ 601024; omega, by show 2000 + 64 * j + 6 ≤ 7293034; omega⟩) hP hD hS hA (fun r6 u6 H locs hw6 hP9 hD9 hS => ?_)
  have hw6 : r6 = nI 1 := hw6
  subst hw6
  have hP : PP G (mW G A th (nI z) (nI ln) dg f sl ik sv sg pl ++ (oW G oa og ++ cW G xa so b ce a hh sg ln mk cs up fo tn w t lo hi me (nI n) qu gu ri re P F z o0 o1)) _ := hP9
  have hD : va_D Ar (mW G A th (nI z) (nI ln) dg f sl ik sv sg pl ++ (oW G oa og ++ cW G xa so b ce a hh sg ln mk cs up fo tn w t lo hi me (nI n) qu gu ri re P F z o0 o1)) := hD9
  refine lv_istore (lv' := [(5, .int (nI 1)), (0, .ref b9), (1, .ref xa), (2, .ref (A 0)), (3, .ref oa), (4, .int (nI (4 * j)))]) hx hb dL_law_493 hl (by decide) rfl (fun ls hl => ?_)
  refine lv_aload_n hx hb dL_law_495 rfl (lv_at hl 3 rfl) ?_
  refine lv_aload_n hx hb dL_law_496 rfl (lv_at hl 1 rfl) ?_
  refine lv_iload hx hb dL_law_497 (lv_at hl 5 rfl) ?_
  refine lv_iconst (v := nI 1) hx hb dL_law_499 (by decide) ?_
  refine lv_iadd hx hb dL_law_500 ?_
  refine lv_cgi (y := nI ((4 * j) + 1)) (nI_add _ _) ?_
  refine va_sld hx hb hXs hbl hbA hS (vp_in_nI (by omega) (by omega)) dL_law_501 ?_
  refine lv_cgi (y := x) (by rw [nI_clamp (by omega)]; exact hp0) ?_
  refine wr_goi (pre := []) (mid := mW G A th (nI z) (nI ln) dg f sl ik sv sg pl) (suf := oW G oa og ++ cW G xa so b ce a hh sg ln mk cs up fo tn w t lo hi me (nI n) qu gu ri re P F z o0 o1) (va_runV (As := [.int x]) (rest := []) ⟨hx, hb, hml, hown, hts⟩ (c_X7_append_no1 l G _ A th (nI z) dg f sl ik sv sg pl ln hln x hx0) (cwV 1 hts gL_law_X7_append rfl rfl rfl (by decide +kernel) ⟨Nat.le_of_ble_eq_true rfl, Nat.le_of_ble_eq_true rfl⟩) (wV (pre := []) (mid := mW G A th (nI z) (nI ln) dg f sl ik sv sg pl) (suf := oW G oa og ++ cW G xa so b ce a hh sg ln mk cs up fo tn w t lo hi me (nI n) qu gu ri re P F z o0 o1) (va_recv (ws := mW G A th (nI z) (nI ln) dg f sl ik sv sg pl ++ (oW G oa og ++ cW G xa so b ce a hh sg ln mk cs up fo tn w t lo hi me (nI n) qu gu ri re P F z o0 o1)) hK hP (ci := 6) (q0 := 0) rfl rfl) hK hN hP hD) rfl rfl hl.1 rfl (lv_room (Nat.le_of_ble_eq_true rfl)) dL_law_502 ⟨by show 100 + 7 * j + 1 + 0 ≤ 601024; omega, by show 2000 + 64 * j + 6 + 0 ≤ 7293034; omega⟩) hP hD hS hA (fun r7 u7 H locs hw7 hP9 hD9 hS => ?_)
  have hw7 : r7 = nI 0 := hw7
  subst hw7
  have hP : PP G (mW G A (nI 1) (nI z) (nI ln) dg f sl ik sv sg pl ++ (oW G oa og ++ cW G xa so b ce a hh sg ln mk cs up fo tn w t lo hi me (nI n) qu gu ri re P F z o0 o1)) _ := hP9
  have hD : va_D Ar (mW G A (nI 1) (nI z) (nI ln) dg f sl ik sv sg pl ++ (oW G oa og ++ cW G xa so b ce a hh sg ln mk cs up fo tn w t lo hi me (nI n) qu gu ri re P F z o0 o1)) := hD9
  refine lv_istore (lv' := [(6, .int (nI 0)), (5, .int (nI 1)), (0, .ref b9), (1, .ref xa), (2, .ref (A 0)), (3, .ref oa), (4, .int (nI (4 * j)))]) hx hb dL_law_505 hl (by decide) rfl (fun ls hl => ?_)
  refine lv_aload_n hx hb dL_law_507 rfl (lv_at hl 4 rfl) ?_
  refine rd_go (va_runV (As := []) (rest := []) ⟨hx, hb, hml, hown, hts⟩ (c_X7_thrown l G A (nI 1) (nI z) (nI ln) dg f sl ik sv sg pl) (cwV 0 hts gL_law_X7_thrown rfl rfl rfl (by decide +kernel) ⟨Nat.le_of_ble_eq_true rfl, Nat.le_of_ble_eq_true rfl⟩) (rV (ws := mW G A (nI 1) (nI z) (nI ln) dg f sl ik sv sg pl) (va_recv (ws := mW G A (nI 1) (nI z) (nI ln) dg f sl ik sv sg pl ++ (oW G oa og ++ cW G xa so b ce a hh sg ln mk cs up fo tn w t lo hi me (nI n) qu gu ri re P F z o0 o1)) hK hP (ci := 6) (q0 := 0) rfl rfl) hK hN (P_mid (pre := []) (mid := mW G A (nI 1) (nI z) (nI ln) dg f sl ik sv sg pl) (suf := oW G oa og ++ cW G xa so b ce a hh sg ln mk cs up fo tn w t lo hi me (nI n) qu gu ri re P F z o0 o1) hP)) rfl rfl hl.1 rfl (lv_room (Nat.le_of_ble_eq_true rfl)) dL_law_508 ⟨by show 100 + 7 * j + 1 + 0 + 0 ≤ 601024; omega, by show 2000 + 64 * j + 6 + 0 + 0 ≤ 7293034; omega⟩) ?_
  refine lv_iload hx hb dL_law_511 (lv_at hl 1 rfl) ?_
  refine lv_icmp_eq (tgt := 518) hx hb dL_law_513 (by decide) (fun c_513 => ?_) (fun c_513 => by exact absurd c_513 (by decide))
  refine lv_iload hx hb dL_law_518 (lv_at hl 1 rfl) ?_
  refine lv_if_ne (tgt := 535) hx hb dL_law_520 (by decide) (fun c_520 => ?_) (fun c_520 => by exact absurd c_520 (by decide))
  refine lv_goto (tgt := 1297) hx hb dL_law_535 (by decide) ?_
  refine lv_iinc (v := nI (4 * (j + 1))) (lv' := [(4, .int (nI (4 * (j + 1)))), (6, .int (nI 0)), (5, .int (nI 1)), (0, .ref b9), (1, .ref xa), (2, .ref (A 0)), (3, .ref oa)]) hx hb dL_law_1297 hl (k := 6) rfl (iinc4 (4 * j)) (by decide) rfl (fun ls hl => ?_)
  refine lv_goto (tgt := 23) hx hb dL_law_1300 (by decide) ?_
  refine W.widen (k := 100 + 7 * (j + 1)) (n := 2000 + 64 * (j + 1)) (by omega) (by omega) ?_
  exact hHd _ _ _ ⟨og, sg, ln, mk, cs, up, fo, tn, w, t, lo, hi, me, nI n, qu, gu, ri, re, P, F, z, o0, o1, nI 1, dg, f, sl, ik, sv, pl, rfl, hln, hz, (RG_mono (Nat.le_succ _) (RG_of hRS)), (cen_of hn hcv), (HI_mono (Nat.le_succ _) hHI), (SLr_mono (Nat.le_succ _) hs0), (SLr_mono (Nat.le_succ _) hs1)⟩ hP hD hS ls (lv_sub hl [3, 4, 5, 6, 0] rfl)

set_option maxHeartbeats 8000000 in
set_option maxRecDepth 100000 in
theorem L_append_no2 {p : Program} {l : Launch} {e : Env} {s : State} {m : MethodId} {args : Array Value} {below : List Frame} {meth : Method} {cd : Code} {Q : State → Prop} {G : GG} {Ar : Nat → Prop} {b9 L : Nat} {xs : Nat → Int32} {xa so oa : Nat} {b ce a hh A : Nat → Nat} (hE : LE9 p l s m args cd G Ar b9 L xs) {j : Nat} (hj : 4 * j + 4 ≤ L) (hL : L ≤ 2048) (hHd : LH p l e s m args below meth cd Q G Ar b9 xa so oa b ce a hh A (j + 1))
    (og : Nat → Int64) (sg : Nat → Int32) (ln : Nat) (hln : ln ≤ 60) (mk : Nat → Int32) (cs up fo tn : Int32) (w t lo hi me : Nat → Int32) (n : Nat) (qu gu ri re : Int32) (P : Nat → Nat → Nat) (F : Nat → Nat → Nat → Int32) (z : Nat) (hz : z ≤ 6) (o0 : SLO) (o1 : SLO) (th : Int32) (dg : Int64) (f sl ik sv pl : Nat → Int32) (c : Nat) (hc : 33 ≤ c) (hc2 : c ≤ 126) (hl6 : ln = 60)
    (hRS : RS j fo tn w t lo hi me n qu gu ri re f) (hcv : cenV (qS tn lo hi me n) mk cs up) (hHI : HI j z F sv) (hs0 : SLr j o0 (ik 0) sl) (hs1 : SLr j o1 (ik 1) (fun j => sl (58 + j))) (hp0 : xs (4 * j + 1) = nI c)
    {H : Heap} {locs : List Loc} (hP : PP G (mW G A th (nI z) (nI ln) dg f sl ik sv sg pl ++ (oW G oa og ++ cW G xa so b ce a hh sg ln mk cs up fo tn w t lo hi me (nI n) qu gu ri re P F z o0 o1)) H) (hD : va_D Ar (mW G A th (nI z) (nI ln) dg f sl ik sv sg pl ++ (oW G oa og ++ cW G xa so b ce a hh sg ln mk cs up fo tn w t lo hi me (nI n) qu gu ri re P F z o0 o1))) (hS : va_S Ar s.heap H locs) {ls : Array Slot} (hl : lv_has ls 9 [(0, .ref b9), (1, .ref xa), (2, .ref (A 0)), (3, .ref oa), (4, .int (nI (4 * j)))]) : W p l e room_1 s m args below meth cd H locs (100 + 7 * j) (2000 + 64 * j) Q (F0 m 482 ls []) := by
  obtain ⟨hx, hb, hml, hown, hts, hfl, ⟨hK, hN, hX, hZ0⟩, hA, hXs, hbl, hbA⟩ := id hE
  have hn : n ≤ 12 := hRS.1.1
  have hn17 : f 17 = nI n := hRS.2.1.2.2.1
  have hT : okP t := hRS.2.2.1.2.1
  have hvL : okL lo hi := hRS.2.2.1.2.2.1
  have hvA : okA f := hRS.2.2.1.2.2.2
  have htF : okT f := fun i hi => by rw [hRS.2.1.2.2.2.2 i hi]; exact hT i hi
  refine lv_aload_n hx hb dL_law_482 rfl (lv_at hl 1 rfl) ?_
  refine lv_aload_n hx hb dL_law_483 rfl (lv_at hl 0 rfl) ?_
  refine lv_iload hx hb dL_law_484 (lv_at hl 4 rfl) ?_
  refine lv_iconst (v := nI 1) hx hb dL_law_486 (by decide) ?_
  refine lv_iadd hx hb dL_law_487 ?_
  refine lv_cgi (y := nI ((4 * j) + 1)) (nI_add _ _) ?_
  refine va_sld hx hb hXs hbl hbA hS (vp_in_nI (by omega) (by omega)) dL_law_488 ?_
  refine lv_cgi (y := nI c) (by rw [nI_clamp (by omega)]; exact hp0) ?_
  refine lv_aload_n hx hb dL_law_489 rfl (lv_at hl 3 rfl) ?_
  refine wr_g1i (pre := mW G A th (nI z) (nI ln) dg f sl ik sv sg pl) (mid := oW G oa og ++ cW G xa so b ce a hh sg ln mk cs up fo tn w t lo hi me (nI n) qu gu ri re P F z o0 o1) (vx_runSW (As := [.ref xa, .int (nI c), .ref oa]) (rest := []) ⟨hx, hb, hml, hown, hts⟩ (w_append_t2 l G _ xa oa _ _ og (nI c) (t_X6_append_no2 l hfl G xa so b ce a hh sg ln hln mk cs up fo tn w t lo hi me n hn qu gu ri re P F z hz o0 o1 c hc hc2 hl6)) (vx_cwSW 3 hts gL_law_L_append rfl rfl rfl (by decide +kernel) ⟨Nat.le_of_ble_eq_true rfl, Nat.le_of_ble_eq_true rfl⟩) (lxS1 (pre := mW G A th (nI z) (nI ln) dg f sl ik sv sg pl) (mid := oW G oa og ++ cW G xa so b ce a hh sg ln mk cs up fo tn w t lo hi me (nI n) qu gu ri re P F z o0 o1) hK hN hX (XZ_at hZ0 hS hA) hP hD) rfl rfl hl.1 rfl (lv_room (Nat.le_of_ble_eq_true rfl)) dL_law_490 ⟨by show 100 + 7 * j + 1 ≤ 601024; omega, by show 2000 + 64 * j + 6 ≤ 7293034; omega⟩) hP hD hS hA (fun r6 u6 H locs hw6 hP9 hD9 hS => ?_)
  have hw6 : r6 = nI 2 := hw6
  subst hw6
  have hP : PP G (mW G A th (nI z) (nI ln) dg f sl ik sv sg pl ++ (oW G oa og ++ cW G xa so b ce a hh sg ln mk cs up fo tn w t lo hi me (nI n) qu gu ri re P F z o0 o1)) _ := hP9
  have hD : va_D Ar (mW G A th (nI z) (nI ln) dg f sl ik sv sg pl ++ (oW G oa og ++ cW G xa so b ce a hh sg ln mk cs up fo tn w t lo hi me (nI n) qu gu ri re P F z o0 o1)) := hD9
  refine lv_istore (lv' := [(5, .int (nI 2)), (0, .ref b9), (1, .ref xa), (2, .ref (A 0)), (3, .ref oa), (4, .int (nI (4 * j)))]) hx hb dL_law_493 hl (by decide) rfl (fun ls hl => ?_)
  refine lv_aload_n hx hb dL_law_495 rfl (lv_at hl 3 rfl) ?_
  refine lv_aload_n hx hb dL_law_496 rfl (lv_at hl 1 rfl) ?_
  refine lv_iload hx hb dL_law_497 (lv_at hl 5 rfl) ?_
  refine lv_iconst (v := nI 1) hx hb dL_law_499 (by decide) ?_
  refine lv_iadd hx hb dL_law_500 ?_
  refine lv_cgi (y := nI ((4 * j) + 1)) (nI_add _ _) ?_
  refine va_sld hx hb hXs hbl hbA hS (vp_in_nI (by omega) (by omega)) dL_law_501 ?_
  refine lv_cgi (y := nI c) (by rw [nI_clamp (by omega)]; exact hp0) ?_
  refine wr_goi (pre := []) (mid := mW G A th (nI z) (nI ln) dg f sl ik sv sg pl) (suf := oW G oa og ++ cW G xa so b ce a hh sg ln mk cs up fo tn w t lo hi me (nI n) qu gu ri re P F z o0 o1) (va_runV (As := [.int (nI c)]) (rest := []) ⟨hx, hb, hml, hown, hts⟩ (c_X7_append_no2 l G _ A th (nI z) dg f sl ik sv sg pl ln hln (nI c) (inB_n hc hc2 (by decide)) hl6) (cwV 1 hts gL_law_X7_append rfl rfl rfl (by decide +kernel) ⟨Nat.le_of_ble_eq_true rfl, Nat.le_of_ble_eq_true rfl⟩) (wV (pre := []) (mid := mW G A th (nI z) (nI ln) dg f sl ik sv sg pl) (suf := oW G oa og ++ cW G xa so b ce a hh sg ln mk cs up fo tn w t lo hi me (nI n) qu gu ri re P F z o0 o1) (va_recv (ws := mW G A th (nI z) (nI ln) dg f sl ik sv sg pl ++ (oW G oa og ++ cW G xa so b ce a hh sg ln mk cs up fo tn w t lo hi me (nI n) qu gu ri re P F z o0 o1)) hK hP (ci := 6) (q0 := 0) rfl rfl) hK hN hP hD) rfl rfl hl.1 rfl (lv_room (Nat.le_of_ble_eq_true rfl)) dL_law_502 ⟨by show 100 + 7 * j + 1 + 0 ≤ 601024; omega, by show 2000 + 64 * j + 6 + 0 ≤ 7293034; omega⟩) hP hD hS hA (fun r7 u7 H locs hw7 hP9 hD9 hS => ?_)
  have hw7 : r7 = nI 0 := hw7
  subst hw7
  have hP : PP G (mW G A (nI 2) (nI z) (nI ln) dg f sl ik sv sg pl ++ (oW G oa og ++ cW G xa so b ce a hh sg ln mk cs up fo tn w t lo hi me (nI n) qu gu ri re P F z o0 o1)) _ := hP9
  have hD : va_D Ar (mW G A (nI 2) (nI z) (nI ln) dg f sl ik sv sg pl ++ (oW G oa og ++ cW G xa so b ce a hh sg ln mk cs up fo tn w t lo hi me (nI n) qu gu ri re P F z o0 o1)) := hD9
  refine lv_istore (lv' := [(6, .int (nI 0)), (5, .int (nI 2)), (0, .ref b9), (1, .ref xa), (2, .ref (A 0)), (3, .ref oa), (4, .int (nI (4 * j)))]) hx hb dL_law_505 hl (by decide) rfl (fun ls hl => ?_)
  refine lv_aload_n hx hb dL_law_507 rfl (lv_at hl 4 rfl) ?_
  refine rd_go (va_runV (As := []) (rest := []) ⟨hx, hb, hml, hown, hts⟩ (c_X7_thrown l G A (nI 2) (nI z) (nI ln) dg f sl ik sv sg pl) (cwV 0 hts gL_law_X7_thrown rfl rfl rfl (by decide +kernel) ⟨Nat.le_of_ble_eq_true rfl, Nat.le_of_ble_eq_true rfl⟩) (rV (ws := mW G A (nI 2) (nI z) (nI ln) dg f sl ik sv sg pl) (va_recv (ws := mW G A (nI 2) (nI z) (nI ln) dg f sl ik sv sg pl ++ (oW G oa og ++ cW G xa so b ce a hh sg ln mk cs up fo tn w t lo hi me (nI n) qu gu ri re P F z o0 o1)) hK hP (ci := 6) (q0 := 0) rfl rfl) hK hN (P_mid (pre := []) (mid := mW G A (nI 2) (nI z) (nI ln) dg f sl ik sv sg pl) (suf := oW G oa og ++ cW G xa so b ce a hh sg ln mk cs up fo tn w t lo hi me (nI n) qu gu ri re P F z o0 o1) hP)) rfl rfl hl.1 rfl (lv_room (Nat.le_of_ble_eq_true rfl)) dL_law_508 ⟨by show 100 + 7 * j + 1 + 0 + 0 ≤ 601024; omega, by show 2000 + 64 * j + 6 + 0 + 0 ≤ 7293034; omega⟩) ?_
  refine lv_iload hx hb dL_law_511 (lv_at hl 1 rfl) ?_
  refine lv_icmp_eq (tgt := 518) hx hb dL_law_513 (by decide) (fun c_513 => ?_) (fun c_513 => by exact absurd c_513 (by decide))
  refine lv_iload hx hb dL_law_518 (lv_at hl 1 rfl) ?_
  refine lv_if_ne (tgt := 535) hx hb dL_law_520 (by decide) (fun c_520 => ?_) (fun c_520 => by exact absurd c_520 (by decide))
  refine lv_goto (tgt := 1297) hx hb dL_law_535 (by decide) ?_
  refine lv_iinc (v := nI (4 * (j + 1))) (lv' := [(4, .int (nI (4 * (j + 1)))), (6, .int (nI 0)), (5, .int (nI 2)), (0, .ref b9), (1, .ref xa), (2, .ref (A 0)), (3, .ref oa)]) hx hb dL_law_1297 hl (k := 6) rfl (iinc4 (4 * j)) (by decide) rfl (fun ls hl => ?_)
  refine lv_goto (tgt := 23) hx hb dL_law_1300 (by decide) ?_
  refine W.widen (k := 100 + 7 * (j + 1)) (n := 2000 + 64 * (j + 1)) (by omega) (by omega) ?_
  exact hHd _ _ _ ⟨og, sg, ln, mk, cs, up, fo, tn, w, t, lo, hi, me, nI n, qu, gu, ri, re, P, F, z, o0, o1, nI 2, dg, f, sl, ik, sv, pl, rfl, hln, hz, (RG_mono (Nat.le_succ _) (RG_of hRS)), (cen_of hn hcv), (HI_mono (Nat.le_succ _) hHI), (SLr_mono (Nat.le_succ _) hs0), (SLr_mono (Nat.le_succ _) hs1)⟩ hP hD hS ls (lv_sub hl [3, 4, 5, 6, 0] rfl)

set_option maxHeartbeats 8000000 in
set_option maxRecDepth 100000 in
theorem L_load_no {p : Program} {l : Launch} {e : Env} {s : State} {m : MethodId} {args : Array Value} {below : List Frame} {meth : Method} {cd : Code} {Q : State → Prop} {G : GG} {Ar : Nat → Prop} {b9 L : Nat} {xs : Nat → Int32} {xa so oa : Nat} {b ce a hh A : Nat → Nat} (hE : LE9 p l s m args cd G Ar b9 L xs) {j : Nat} (hj : 4 * j + 4 ≤ L) (hL : L ≤ 2048) (hHd : LH p l e s m args below meth cd Q G Ar b9 xa so oa b ce a hh A (j + 1))
    (og : Nat → Int64) (sg : Nat → Int32) (ln : Nat) (hln : ln ≤ 60) (mk : Nat → Int32) (cs up fo tn : Int32) (w t lo hi me : Nat → Int32) (n : Nat) (qu gu ri re : Int32) (P : Nat → Nat → Nat) (F : Nat → Nat → Nat → Int32) (z : Nat) (hz : z ≤ 6) (o0 : SLO) (o1 : SLO) (th : Int32) (dg : Int64) (f sl ik sv pl : Nat → Int32) (htl : tlsC sg ln = false)
    (hRS : RS j fo tn w t lo hi me n qu gu ri re f) (hcv : cenV (qS tn lo hi me n) mk cs up) (hHI : HI j z F sv) (hs0 : SLr j o0 (ik 0) sl) (hs1 : SLr j o1 (ik 1) (fun j => sl (58 + j))) 
    {H : Heap} {locs : List Loc} (hP : PP G (mW G A th (nI z) (nI ln) dg f sl ik sv sg pl ++ (oW G oa og ++ cW G xa so b ce a hh sg ln mk cs up fo tn w t lo hi me (nI n) qu gu ri re P F z o0 o1)) H) (hD : va_D Ar (mW G A th (nI z) (nI ln) dg f sl ik sv sg pl ++ (oW G oa og ++ cW G xa so b ce a hh sg ln mk cs up fo tn w t lo hi me (nI n) qu gu ri re P F z o0 o1))) (hS : va_S Ar s.heap H locs) {ls : Array Slot} (hl : lv_has ls 9 [(0, .ref b9), (1, .ref xa), (2, .ref (A 0)), (3, .ref oa), (4, .int (nI (4 * j)))]) : W p l e room_1 s m args below meth cd H locs (100 + 7 * j) (2000 + 64 * j) Q (F0 m 564 ls []) := by
  obtain ⟨hx, hb, hml, hown, hts, hfl, ⟨hK, hN, hX, hZ0⟩, hA, hXs, hbl, hbA⟩ := id hE
  have hn : n ≤ 12 := hRS.1.1
  have hn17 : f 17 = nI n := hRS.2.1.2.2.1
  have hT : okP t := hRS.2.2.1.2.1
  have hvL : okL lo hi := hRS.2.2.1.2.2.1
  have hvA : okA f := hRS.2.2.1.2.2.2
  have htF : okT f := fun i hi => by rw [hRS.2.1.2.2.2.2 i hi]; exact hT i hi
  refine lv_aload_n hx hb dL_law_564 rfl (lv_at hl 1 rfl) ?_
  refine lv_aload_n hx hb dL_law_565 rfl (lv_at hl 3 rfl) ?_
  refine wr_g1i (pre := mW G A th (nI z) (nI ln) dg f sl ik sv sg pl) (mid := oW G oa og ++ cW G xa so b ce a hh sg ln mk cs up fo tn w t lo hi me (nI n) qu gu ri re P F z o0 o1) (vx_runSW (As := [.ref xa, .ref oa]) (rest := []) ⟨hx, hb, hml, hown, hts⟩ (w_load_t1 l G _ xa oa _ _ og  (t_X6_load_no l hfl G xa so b ce a hh sg ln hln mk cs up fo tn w t lo hi me n hn qu gu ri re P F z hz o0 o1 htl)) (vx_cwSW 2 hts gL_law_L_load rfl rfl rfl (by decide +kernel) ⟨Nat.le_of_ble_eq_true rfl, Nat.le_of_ble_eq_true rfl⟩) (lxS1 (pre := mW G A th (nI z) (nI ln) dg f sl ik sv sg pl) (mid := oW G oa og ++ cW G xa so b ce a hh sg ln mk cs up fo tn w t lo hi me (nI n) qu gu ri re P F z o0 o1) hK hN hX (XZ_at hZ0 hS hA) hP hD) rfl rfl hl.1 rfl (lv_room (Nat.le_of_ble_eq_true rfl)) dL_law_566 ⟨by show 100 + 7 * j + 1 ≤ 601024; omega, by show 2000 + 64 * j + 6 ≤ 7293034; omega⟩) hP hD hS hA (fun r6 u6 H locs hw6 hP9 hD9 hS => ?_)
  have hw6 : r6 = nI 1 := hw6
  subst hw6
  have hP : PP G (mW G A th (nI z) (nI ln) dg f sl ik sv sg pl ++ (oW G oa og ++ cW G xa so b ce a hh sg ln mk cs up fo tn w t lo hi me (nI n) qu gu ri re P F z o0 o1)) _ := hP9
  have hD : va_D Ar (mW G A th (nI z) (nI ln) dg f sl ik sv sg pl ++ (oW G oa og ++ cW G xa so b ce a hh sg ln mk cs up fo tn w t lo hi me (nI n) qu gu ri re P F z o0 o1)) := hD9
  refine lv_istore (lv' := [(5, .int (nI 1)), (0, .ref b9), (1, .ref xa), (2, .ref (A 0)), (3, .ref oa), (4, .int (nI (4 * j)))]) hx hb dL_law_569 hl (by decide) rfl (fun ls hl => ?_)
  refine lv_aload_n hx hb dL_law_571 rfl (lv_at hl 3 rfl) ?_
  refine wr_goi (pre := []) (mid := mW G A th (nI z) (nI ln) dg f sl ik sv sg pl) (suf := oW G oa og ++ cW G xa so b ce a hh sg ln mk cs up fo tn w t lo hi me (nI n) qu gu ri re P F z o0 o1) (va_runV (As := []) (rest := []) ⟨hx, hb, hml, hown, hts⟩ (c_X7_load_no l G _ A th dg f sl ik sv sg pl z hz ln hln (fun h => Bool.false_ne_true (htl.symm.trans ((tls_eq hln).mp h)))) (cwV 0 hts gL_law_X7_load rfl rfl rfl (by decide +kernel) ⟨Nat.le_of_ble_eq_true rfl, Nat.le_of_ble_eq_true rfl⟩) (wV (pre := []) (mid := mW G A th (nI z) (nI ln) dg f sl ik sv sg pl) (suf := oW G oa og ++ cW G xa so b ce a hh sg ln mk cs up fo tn w t lo hi me (nI n) qu gu ri re P F z o0 o1) (va_recv (ws := mW G A th (nI z) (nI ln) dg f sl ik sv sg pl ++ (oW G oa og ++ cW G xa so b ce a hh sg ln mk cs up fo tn w t lo hi me (nI n) qu gu ri re P F z o0 o1)) hK hP (ci := 6) (q0 := 0) rfl rfl) hK hN hP hD) rfl rfl hl.1 rfl (lv_room (Nat.le_of_ble_eq_true rfl)) dL_law_572 ⟨by show 100 + 7 * j + 1 + 0 ≤ 601024; omega, by show 2000 + 64 * j + 6 + 0 ≤ 7293034; omega⟩) hP hD hS hA (fun r7 u7 H locs hw7 hP9 hD9 hS => ?_)
  have hw7 : r7 = nI 0 := hw7
  subst hw7
  have hP : PP G (mW G A (nI 1) (nI z) (nI ln) dg f sl ik sv sg pl ++ (oW G oa og ++ cW G xa so b ce a hh sg ln mk cs up fo tn w t lo hi me (nI n) qu gu ri re P F z o0 o1)) _ := hP9
  have hD : va_D Ar (mW G A (nI 1) (nI z) (nI ln) dg f sl ik sv sg pl ++ (oW G oa og ++ cW G xa so b ce a hh sg ln mk cs up fo tn w t lo hi me (nI n) qu gu ri re P F z o0 o1)) := hD9
  refine lv_istore (lv' := [(6, .int (nI 0)), (5, .int (nI 1)), (0, .ref b9), (1, .ref xa), (2, .ref (A 0)), (3, .ref oa), (4, .int (nI (4 * j)))]) hx hb dL_law_575 hl (by decide) rfl (fun ls hl => ?_)
  refine lv_aload_n hx hb dL_law_577 rfl (lv_at hl 4 rfl) ?_
  refine rd_go (va_runV (As := []) (rest := []) ⟨hx, hb, hml, hown, hts⟩ (c_X7_thrown l G A (nI 1) (nI z) (nI ln) dg f sl ik sv sg pl) (cwV 0 hts gL_law_X7_thrown rfl rfl rfl (by decide +kernel) ⟨Nat.le_of_ble_eq_true rfl, Nat.le_of_ble_eq_true rfl⟩) (rV (ws := mW G A (nI 1) (nI z) (nI ln) dg f sl ik sv sg pl) (va_recv (ws := mW G A (nI 1) (nI z) (nI ln) dg f sl ik sv sg pl ++ (oW G oa og ++ cW G xa so b ce a hh sg ln mk cs up fo tn w t lo hi me (nI n) qu gu ri re P F z o0 o1)) hK hP (ci := 6) (q0 := 0) rfl rfl) hK hN (P_mid (pre := []) (mid := mW G A (nI 1) (nI z) (nI ln) dg f sl ik sv sg pl) (suf := oW G oa og ++ cW G xa so b ce a hh sg ln mk cs up fo tn w t lo hi me (nI n) qu gu ri re P F z o0 o1) hP)) rfl rfl hl.1 rfl (lv_room (Nat.le_of_ble_eq_true rfl)) dL_law_578 ⟨by show 100 + 7 * j + 1 + 0 + 0 ≤ 601024; omega, by show 2000 + 64 * j + 6 + 0 + 0 ≤ 7293034; omega⟩) ?_
  refine lv_iload hx hb dL_law_581 (lv_at hl 1 rfl) ?_
  refine lv_icmp_eq (tgt := 588) hx hb dL_law_583 (by decide) (fun c_583 => ?_) (fun c_583 => by exact absurd c_583 (by decide))
  refine lv_iload hx hb dL_law_588 (lv_at hl 1 rfl) ?_
  refine lv_if_ne (tgt := 605) hx hb dL_law_590 (by decide) (fun c_590 => ?_) (fun c_590 => by exact absurd c_590 (by decide))
  refine lv_goto (tgt := 1297) hx hb dL_law_605 (by decide) ?_
  refine lv_iinc (v := nI (4 * (j + 1))) (lv' := [(4, .int (nI (4 * (j + 1)))), (6, .int (nI 0)), (5, .int (nI 1)), (0, .ref b9), (1, .ref xa), (2, .ref (A 0)), (3, .ref oa)]) hx hb dL_law_1297 hl (k := 6) rfl (iinc4 (4 * j)) (by decide) rfl (fun ls hl => ?_)
  refine lv_goto (tgt := 23) hx hb dL_law_1300 (by decide) ?_
  refine W.widen (k := 100 + 7 * (j + 1)) (n := 2000 + 64 * (j + 1)) (by omega) (by omega) ?_
  exact hHd _ _ _ ⟨og, sg, ln, mk, cs, up, fo, tn, w, t, lo, hi, me, nI n, qu, gu, ri, re, P, F, z, o0, o1, nI 1, dg, f, sl, ik, sv, pl, rfl, hln, hz, (RG_mono (Nat.le_succ _) (RG_of hRS)), (cen_of hn hcv), (HI_mono (Nat.le_succ _) hHI), (SLr_mono (Nat.le_succ _) hs0), (SLr_mono (Nat.le_succ _) hs1)⟩ hP hD hS ls (lv_sub hl [3, 4, 5, 6, 0] rfl)

set_option maxHeartbeats 8000000 in
set_option maxRecDepth 100000 in
theorem L_keep_no {p : Program} {l : Launch} {e : Env} {s : State} {m : MethodId} {args : Array Value} {below : List Frame} {meth : Method} {cd : Code} {Q : State → Prop} {G : GG} {Ar : Nat → Prop} {b9 L : Nat} {xs : Nat → Int32} {xa so oa : Nat} {b ce a hh A : Nat → Nat} (hE : LE9 p l s m args cd G Ar b9 L xs) {j : Nat} (hj : 4 * j + 4 ≤ L) (hL : L ≤ 2048) (hHd : LH p l e s m args below meth cd Q G Ar b9 xa so oa b ce a hh A (j + 1))
    (og : Nat → Int64) (sg : Nat → Int32) (ln : Nat) (hln : ln ≤ 60) (mk : Nat → Int32) (cs up fo tn : Int32) (w t lo hi me : Nat → Int32) (n : Nat) (qu gu ri re : Int32) (P : Nat → Nat → Nat) (F : Nat → Nat → Nat → Int32) (z : Nat) (hz : z ≤ 6) (o0 : SLO) (o1 : SLO) (th : Int32) (dg : Int64) (f sl ik sv pl : Nat → Int32) (x : Int32) (hx0 : ¬ inB x (nI 0) (nI 1))
    (hRS : RS j fo tn w t lo hi me n qu gu ri re f) (hcv : cenV (qS tn lo hi me n) mk cs up) (hHI : HI j z F sv) (hs0 : SLr j o0 (ik 0) sl) (hs1 : SLr j o1 (ik 1) (fun j => sl (58 + j))) (hp0 : xs (4 * j + 1) = x)
    {H : Heap} {locs : List Loc} (hP : PP G (mW G A th (nI z) (nI ln) dg f sl ik sv sg pl ++ (oW G oa og ++ cW G xa so b ce a hh sg ln mk cs up fo tn w t lo hi me (nI n) qu gu ri re P F z o0 o1)) H) (hD : va_D Ar (mW G A th (nI z) (nI ln) dg f sl ik sv sg pl ++ (oW G oa og ++ cW G xa so b ce a hh sg ln mk cs up fo tn w t lo hi me (nI n) qu gu ri re P F z o0 o1))) (hS : va_S Ar s.heap H locs) {ls : Array Slot} (hl : lv_has ls 9 [(0, .ref b9), (1, .ref xa), (2, .ref (A 0)), (3, .ref oa), (4, .int (nI (4 * j)))]) : W p l e room_1 s m args below meth cd H locs (100 + 7 * j) (2000 + 64 * j) Q (F0 m 608 ls []) := by
  obtain ⟨hx, hb, hml, hown, hts, hfl, ⟨hK, hN, hX, hZ0⟩, hA, hXs, hbl, hbA⟩ := id hE
  have hn : n ≤ 12 := hRS.1.1
  have hn17 : f 17 = nI n := hRS.2.1.2.2.1
  have hT : okP t := hRS.2.2.1.2.1
  have hvL : okL lo hi := hRS.2.2.1.2.2.1
  have hvA : okA f := hRS.2.2.1.2.2.2
  have htF : okT f := fun i hi => by rw [hRS.2.1.2.2.2.2 i hi]; exact hT i hi
  refine lv_aload_n hx hb dL_law_608 rfl (lv_at hl 1 rfl) ?_
  refine lv_aload_n hx hb dL_law_609 rfl (lv_at hl 0 rfl) ?_
  refine lv_iload hx hb dL_law_610 (lv_at hl 4 rfl) ?_
  refine lv_iconst (v := nI 1) hx hb dL_law_612 (by decide) ?_
  refine lv_iadd hx hb dL_law_613 ?_
  refine lv_cgi (y := nI ((4 * j) + 1)) (nI_add _ _) ?_
  refine va_sld hx hb hXs hbl hbA hS (vp_in_nI (by omega) (by omega)) dL_law_614 ?_
  refine lv_cgi (y := x) (by rw [nI_clamp (by omega)]; exact hp0) ?_
  refine lv_aload_n hx hb dL_law_615 rfl (lv_at hl 3 rfl) ?_
  refine wr_g1i (pre := mW G A th (nI z) (nI ln) dg f sl ik sv sg pl) (mid := oW G oa og ++ cW G xa so b ce a hh sg ln mk cs up fo tn w t lo hi me (nI n) qu gu ri re P F z o0 o1) (vx_runSW (As := [.ref xa, .int x, .ref oa]) (rest := []) ⟨hx, hb, hml, hown, hts⟩ (w_keep_t1 l G _ xa oa _ _ og x (t_X6_keep_no l hfl G xa _ _ x hx0)) (vx_cwSW 3 hts gL_law_L_keep rfl rfl rfl (by decide +kernel) ⟨Nat.le_of_ble_eq_true rfl, Nat.le_of_ble_eq_true rfl⟩) (lxS1 (pre := mW G A th (nI z) (nI ln) dg f sl ik sv sg pl) (mid := oW G oa og ++ cW G xa so b ce a hh sg ln mk cs up fo tn w t lo hi me (nI n) qu gu ri re P F z o0 o1) hK hN hX (XZ_at hZ0 hS hA) hP hD) rfl rfl hl.1 rfl (lv_room (Nat.le_of_ble_eq_true rfl)) dL_law_616 ⟨by show 100 + 7 * j + 1 ≤ 601024; omega, by show 2000 + 64 * j + 6 ≤ 7293034; omega⟩) hP hD hS hA (fun r6 u6 H locs hw6 hP9 hD9 hS => ?_)
  have hw6 : r6 = nI 1 := hw6
  subst hw6
  have hP : PP G (mW G A th (nI z) (nI ln) dg f sl ik sv sg pl ++ (oW G oa og ++ cW G xa so b ce a hh sg ln mk cs up fo tn w t lo hi me (nI n) qu gu ri re P F z o0 o1)) _ := hP9
  have hD : va_D Ar (mW G A th (nI z) (nI ln) dg f sl ik sv sg pl ++ (oW G oa og ++ cW G xa so b ce a hh sg ln mk cs up fo tn w t lo hi me (nI n) qu gu ri re P F z o0 o1)) := hD9
  refine lv_istore (lv' := [(5, .int (nI 1)), (0, .ref b9), (1, .ref xa), (2, .ref (A 0)), (3, .ref oa), (4, .int (nI (4 * j)))]) hx hb dL_law_619 hl (by decide) rfl (fun ls hl => ?_)
  refine lv_aload_n hx hb dL_law_621 rfl (lv_at hl 3 rfl) ?_
  refine lv_aload_n hx hb dL_law_622 rfl (lv_at hl 1 rfl) ?_
  refine lv_iload hx hb dL_law_623 (lv_at hl 5 rfl) ?_
  refine lv_iconst (v := nI 1) hx hb dL_law_625 (by decide) ?_
  refine lv_iadd hx hb dL_law_626 ?_
  refine lv_cgi (y := nI ((4 * j) + 1)) (nI_add _ _) ?_
  refine va_sld hx hb hXs hbl hbA hS (vp_in_nI (by omega) (by omega)) dL_law_627 ?_
  refine lv_cgi (y := x) (by rw [nI_clamp (by omega)]; exact hp0) ?_
  refine wr_goi (pre := []) (mid := mW G A th (nI z) (nI ln) dg f sl ik sv sg pl) (suf := oW G oa og ++ cW G xa so b ce a hh sg ln mk cs up fo tn w t lo hi me (nI n) qu gu ri re P F z o0 o1) (va_runV (As := [.int x]) (rest := []) ⟨hx, hb, hml, hown, hts⟩ (c_X7_keep_no l G _ A th (nI z) (nI ln) dg f sl ik sv sg pl x hx0) (cwV 1 hts gL_law_X7_keep rfl rfl rfl (by decide +kernel) ⟨Nat.le_of_ble_eq_true rfl, Nat.le_of_ble_eq_true rfl⟩) (wV (pre := []) (mid := mW G A th (nI z) (nI ln) dg f sl ik sv sg pl) (suf := oW G oa og ++ cW G xa so b ce a hh sg ln mk cs up fo tn w t lo hi me (nI n) qu gu ri re P F z o0 o1) (va_recv (ws := mW G A th (nI z) (nI ln) dg f sl ik sv sg pl ++ (oW G oa og ++ cW G xa so b ce a hh sg ln mk cs up fo tn w t lo hi me (nI n) qu gu ri re P F z o0 o1)) hK hP (ci := 6) (q0 := 0) rfl rfl) hK hN hP hD) rfl rfl hl.1 rfl (lv_room (Nat.le_of_ble_eq_true rfl)) dL_law_628 ⟨by show 100 + 7 * j + 1 + 0 ≤ 601024; omega, by show 2000 + 64 * j + 6 + 0 ≤ 7293034; omega⟩) hP hD hS hA (fun r7 u7 H locs hw7 hP9 hD9 hS => ?_)
  have hw7 : r7 = nI 0 := hw7
  subst hw7
  have hP : PP G (mW G A (nI 1) (nI z) (nI ln) dg f sl ik sv sg pl ++ (oW G oa og ++ cW G xa so b ce a hh sg ln mk cs up fo tn w t lo hi me (nI n) qu gu ri re P F z o0 o1)) _ := hP9
  have hD : va_D Ar (mW G A (nI 1) (nI z) (nI ln) dg f sl ik sv sg pl ++ (oW G oa og ++ cW G xa so b ce a hh sg ln mk cs up fo tn w t lo hi me (nI n) qu gu ri re P F z o0 o1)) := hD9
  refine lv_istore (lv' := [(6, .int (nI 0)), (5, .int (nI 1)), (0, .ref b9), (1, .ref xa), (2, .ref (A 0)), (3, .ref oa), (4, .int (nI (4 * j)))]) hx hb dL_law_631 hl (by decide) rfl (fun ls hl => ?_)
  refine lv_aload_n hx hb dL_law_633 rfl (lv_at hl 4 rfl) ?_
  refine rd_go (va_runV (As := []) (rest := []) ⟨hx, hb, hml, hown, hts⟩ (c_X7_thrown l G A (nI 1) (nI z) (nI ln) dg f sl ik sv sg pl) (cwV 0 hts gL_law_X7_thrown rfl rfl rfl (by decide +kernel) ⟨Nat.le_of_ble_eq_true rfl, Nat.le_of_ble_eq_true rfl⟩) (rV (ws := mW G A (nI 1) (nI z) (nI ln) dg f sl ik sv sg pl) (va_recv (ws := mW G A (nI 1) (nI z) (nI ln) dg f sl ik sv sg pl ++ (oW G oa og ++ cW G xa so b ce a hh sg ln mk cs up fo tn w t lo hi me (nI n) qu gu ri re P F z o0 o1)) hK hP (ci := 6) (q0 := 0) rfl rfl) hK hN (P_mid (pre := []) (mid := mW G A (nI 1) (nI z) (nI ln) dg f sl ik sv sg pl) (suf := oW G oa og ++ cW G xa so b ce a hh sg ln mk cs up fo tn w t lo hi me (nI n) qu gu ri re P F z o0 o1) hP)) rfl rfl hl.1 rfl (lv_room (Nat.le_of_ble_eq_true rfl)) dL_law_634 ⟨by show 100 + 7 * j + 1 + 0 + 0 ≤ 601024; omega, by show 2000 + 64 * j + 6 + 0 + 0 ≤ 7293034; omega⟩) ?_
  refine lv_iload hx hb dL_law_637 (lv_at hl 1 rfl) ?_
  refine lv_icmp_eq (tgt := 644) hx hb dL_law_639 (by decide) (fun c_639 => ?_) (fun c_639 => by exact absurd c_639 (by decide))
  refine lv_iload hx hb dL_law_644 (lv_at hl 1 rfl) ?_
  refine lv_if_ne (tgt := 661) hx hb dL_law_646 (by decide) (fun c_646 => ?_) (fun c_646 => by exact absurd c_646 (by decide))
  refine lv_goto (tgt := 1297) hx hb dL_law_661 (by decide) ?_
  refine lv_iinc (v := nI (4 * (j + 1))) (lv' := [(4, .int (nI (4 * (j + 1)))), (6, .int (nI 0)), (5, .int (nI 1)), (0, .ref b9), (1, .ref xa), (2, .ref (A 0)), (3, .ref oa)]) hx hb dL_law_1297 hl (k := 6) rfl (iinc4 (4 * j)) (by decide) rfl (fun ls hl => ?_)
  refine lv_goto (tgt := 23) hx hb dL_law_1300 (by decide) ?_
  refine W.widen (k := 100 + 7 * (j + 1)) (n := 2000 + 64 * (j + 1)) (by omega) (by omega) ?_
  exact hHd _ _ _ ⟨og, sg, ln, mk, cs, up, fo, tn, w, t, lo, hi, me, nI n, qu, gu, ri, re, P, F, z, o0, o1, nI 1, dg, f, sl, ik, sv, pl, rfl, hln, hz, (RG_mono (Nat.le_succ _) (RG_of hRS)), (cen_of hn hcv), (HI_mono (Nat.le_succ _) hHI), (SLr_mono (Nat.le_succ _) hs0), (SLr_mono (Nat.le_succ _) hs1)⟩ hP hD hS ls (lv_sub hl [3, 4, 5, 6, 0] rfl)

set_option maxHeartbeats 8000000 in
set_option maxRecDepth 100000 in
theorem L_goBack_no1 {p : Program} {l : Launch} {e : Env} {s : State} {m : MethodId} {args : Array Value} {below : List Frame} {meth : Method} {cd : Code} {Q : State → Prop} {G : GG} {Ar : Nat → Prop} {b9 L : Nat} {xs : Nat → Int32} {xa so oa : Nat} {b ce a hh A : Nat → Nat} (hE : LE9 p l s m args cd G Ar b9 L xs) {j : Nat} (hj : 4 * j + 4 ≤ L) (hL : L ≤ 2048) (hHd : LH p l e s m args below meth cd Q G Ar b9 xa so oa b ce a hh A (j + 1))
    (og : Nat → Int64) (sg : Nat → Int32) (ln : Nat) (hln : ln ≤ 60) (mk : Nat → Int32) (cs up fo tn : Int32) (w t lo hi me : Nat → Int32) (n : Nat) (qu gu ri re : Int32) (P : Nat → Nat → Nat) (F : Nat → Nat → Nat → Int32) (z : Nat) (hz : z ≤ 6) (o0 : SLO) (o1 : SLO) (th : Int32) (dg : Int64) (f sl ik sv pl : Nat → Int32) (x : Int32) (hx0 : ¬ inB x (nI 0) (nI 1))
    (hRS : RS j fo tn w t lo hi me n qu gu ri re f) (hcv : cenV (qS tn lo hi me n) mk cs up) (hHI : HI j z F sv) (hs0 : SLr j o0 (ik 0) sl) (hs1 : SLr j o1 (ik 1) (fun j => sl (58 + j))) (hp0 : xs (4 * j + 1) = x)
    {H : Heap} {locs : List Loc} (hP : PP G (mW G A th (nI z) (nI ln) dg f sl ik sv sg pl ++ (oW G oa og ++ cW G xa so b ce a hh sg ln mk cs up fo tn w t lo hi me (nI n) qu gu ri re P F z o0 o1)) H) (hD : va_D Ar (mW G A th (nI z) (nI ln) dg f sl ik sv sg pl ++ (oW G oa og ++ cW G xa so b ce a hh sg ln mk cs up fo tn w t lo hi me (nI n) qu gu ri re P F z o0 o1))) (hS : va_S Ar s.heap H locs) {ls : Array Slot} (hl : lv_has ls 9 [(0, .ref b9), (1, .ref xa), (2, .ref (A 0)), (3, .ref oa), (4, .int (nI (4 * j)))]) : W p l e room_1 s m args below meth cd H locs (100 + 7 * j) (2000 + 64 * j) Q (F0 m 664 ls []) := by
  obtain ⟨hx, hb, hml, hown, hts, hfl, ⟨hK, hN, hX, hZ0⟩, hA, hXs, hbl, hbA⟩ := id hE
  have hn : n ≤ 12 := hRS.1.1
  have hn17 : f 17 = nI n := hRS.2.1.2.2.1
  have hT : okP t := hRS.2.2.1.2.1
  have hvL : okL lo hi := hRS.2.2.1.2.2.1
  have hvA : okA f := hRS.2.2.1.2.2.2
  have htF : okT f := fun i hi => by rw [hRS.2.1.2.2.2.2 i hi]; exact hT i hi
  refine lv_aload_n hx hb dL_law_664 rfl (lv_at hl 1 rfl) ?_
  refine lv_aload_n hx hb dL_law_665 rfl (lv_at hl 0 rfl) ?_
  refine lv_iload hx hb dL_law_666 (lv_at hl 4 rfl) ?_
  refine lv_iconst (v := nI 1) hx hb dL_law_668 (by decide) ?_
  refine lv_iadd hx hb dL_law_669 ?_
  refine lv_cgi (y := nI ((4 * j) + 1)) (nI_add _ _) ?_
  refine va_sld hx hb hXs hbl hbA hS (vp_in_nI (by omega) (by omega)) dL_law_670 ?_
  refine lv_cgi (y := x) (by rw [nI_clamp (by omega)]; exact hp0) ?_
  refine lv_aload_n hx hb dL_law_671 rfl (lv_at hl 3 rfl) ?_
  refine wr_g1i (pre := mW G A th (nI z) (nI ln) dg f sl ik sv sg pl) (mid := oW G oa og ++ cW G xa so b ce a hh sg ln mk cs up fo tn w t lo hi me (nI n) qu gu ri re P F z o0 o1) (vx_runSW (As := [.ref xa, .int x, .ref oa]) (rest := []) ⟨hx, hb, hml, hown, hts⟩ (w_goBack_t1 l G _ xa oa _ _ og x (t_X6_goBack_no1 l hfl G xa _ _ x hx0)) (vx_cwSW 3 hts gL_law_L_goBack rfl rfl rfl (by decide +kernel) ⟨Nat.le_of_ble_eq_true rfl, Nat.le_of_ble_eq_true rfl⟩) (lxS1 (pre := mW G A th (nI z) (nI ln) dg f sl ik sv sg pl) (mid := oW G oa og ++ cW G xa so b ce a hh sg ln mk cs up fo tn w t lo hi me (nI n) qu gu ri re P F z o0 o1) hK hN hX (XZ_at hZ0 hS hA) hP hD) rfl rfl hl.1 rfl (lv_room (Nat.le_of_ble_eq_true rfl)) dL_law_672 ⟨by show 100 + 7 * j + 1 ≤ 601024; omega, by show 2000 + 64 * j + 6 ≤ 7293034; omega⟩) hP hD hS hA (fun r6 u6 H locs hw6 hP9 hD9 hS => ?_)
  have hw6 : r6 = nI 1 := hw6
  subst hw6
  have hP : PP G (mW G A th (nI z) (nI ln) dg f sl ik sv sg pl ++ (oW G oa og ++ cW G xa so b ce a hh sg ln mk cs up fo tn w t lo hi me (nI n) qu gu ri re P F z o0 o1)) _ := hP9
  have hD : va_D Ar (mW G A th (nI z) (nI ln) dg f sl ik sv sg pl ++ (oW G oa og ++ cW G xa so b ce a hh sg ln mk cs up fo tn w t lo hi me (nI n) qu gu ri re P F z o0 o1)) := hD9
  refine lv_istore (lv' := [(5, .int (nI 1)), (0, .ref b9), (1, .ref xa), (2, .ref (A 0)), (3, .ref oa), (4, .int (nI (4 * j)))]) hx hb dL_law_675 hl (by decide) rfl (fun ls hl => ?_)
  refine lv_aload_n hx hb dL_law_677 rfl (lv_at hl 3 rfl) ?_
  refine lv_aload_n hx hb dL_law_678 rfl (lv_at hl 1 rfl) ?_
  refine lv_iload hx hb dL_law_679 (lv_at hl 5 rfl) ?_
  refine lv_iconst (v := nI 1) hx hb dL_law_681 (by decide) ?_
  refine lv_iadd hx hb dL_law_682 ?_
  refine lv_cgi (y := nI ((4 * j) + 1)) (nI_add _ _) ?_
  refine va_sld hx hb hXs hbl hbA hS (vp_in_nI (by omega) (by omega)) dL_law_683 ?_
  refine lv_cgi (y := x) (by rw [nI_clamp (by omega)]; exact hp0) ?_
  refine wr_goi (pre := []) (mid := mW G A th (nI z) (nI ln) dg f sl ik sv sg pl) (suf := oW G oa og ++ cW G xa so b ce a hh sg ln mk cs up fo tn w t lo hi me (nI n) qu gu ri re P F z o0 o1) (va_runV (As := [.int x]) (rest := []) ⟨hx, hb, hml, hown, hts⟩ (c_X7_goBack_no1 l G _ A th (nI ln) dg f sl ik sv sg pl z hz x hx0) (cwV 1 hts gL_law_X7_goBack rfl rfl rfl (by decide +kernel) ⟨Nat.le_of_ble_eq_true rfl, Nat.le_of_ble_eq_true rfl⟩) (wV (pre := []) (mid := mW G A th (nI z) (nI ln) dg f sl ik sv sg pl) (suf := oW G oa og ++ cW G xa so b ce a hh sg ln mk cs up fo tn w t lo hi me (nI n) qu gu ri re P F z o0 o1) (va_recv (ws := mW G A th (nI z) (nI ln) dg f sl ik sv sg pl ++ (oW G oa og ++ cW G xa so b ce a hh sg ln mk cs up fo tn w t lo hi me (nI n) qu gu ri re P F z o0 o1)) hK hP (ci := 6) (q0 := 0) rfl rfl) hK hN hP hD) rfl rfl hl.1 rfl (lv_room (Nat.le_of_ble_eq_true rfl)) dL_law_684 ⟨by show 100 + 7 * j + 1 + 0 ≤ 601024; omega, by show 2000 + 64 * j + 6 + 0 ≤ 7293034; omega⟩) hP hD hS hA (fun r7 u7 H locs hw7 hP9 hD9 hS => ?_)
  have hw7 : r7 = nI 0 := hw7
  subst hw7
  have hP : PP G (mW G A (nI 1) (nI z) (nI ln) dg f sl ik sv sg pl ++ (oW G oa og ++ cW G xa so b ce a hh sg ln mk cs up fo tn w t lo hi me (nI n) qu gu ri re P F z o0 o1)) _ := hP9
  have hD : va_D Ar (mW G A (nI 1) (nI z) (nI ln) dg f sl ik sv sg pl ++ (oW G oa og ++ cW G xa so b ce a hh sg ln mk cs up fo tn w t lo hi me (nI n) qu gu ri re P F z o0 o1)) := hD9
  refine lv_istore (lv' := [(6, .int (nI 0)), (5, .int (nI 1)), (0, .ref b9), (1, .ref xa), (2, .ref (A 0)), (3, .ref oa), (4, .int (nI (4 * j)))]) hx hb dL_law_687 hl (by decide) rfl (fun ls hl => ?_)
  refine lv_aload_n hx hb dL_law_689 rfl (lv_at hl 4 rfl) ?_
  refine rd_go (va_runV (As := []) (rest := []) ⟨hx, hb, hml, hown, hts⟩ (c_X7_thrown l G A (nI 1) (nI z) (nI ln) dg f sl ik sv sg pl) (cwV 0 hts gL_law_X7_thrown rfl rfl rfl (by decide +kernel) ⟨Nat.le_of_ble_eq_true rfl, Nat.le_of_ble_eq_true rfl⟩) (rV (ws := mW G A (nI 1) (nI z) (nI ln) dg f sl ik sv sg pl) (va_recv (ws := mW G A (nI 1) (nI z) (nI ln) dg f sl ik sv sg pl ++ (oW G oa og ++ cW G xa so b ce a hh sg ln mk cs up fo tn w t lo hi me (nI n) qu gu ri re P F z o0 o1)) hK hP (ci := 6) (q0 := 0) rfl rfl) hK hN (P_mid (pre := []) (mid := mW G A (nI 1) (nI z) (nI ln) dg f sl ik sv sg pl) (suf := oW G oa og ++ cW G xa so b ce a hh sg ln mk cs up fo tn w t lo hi me (nI n) qu gu ri re P F z o0 o1) hP)) rfl rfl hl.1 rfl (lv_room (Nat.le_of_ble_eq_true rfl)) dL_law_690 ⟨by show 100 + 7 * j + 1 + 0 + 0 ≤ 601024; omega, by show 2000 + 64 * j + 6 + 0 + 0 ≤ 7293034; omega⟩) ?_
  refine lv_iload hx hb dL_law_693 (lv_at hl 1 rfl) ?_
  refine lv_icmp_eq (tgt := 700) hx hb dL_law_695 (by decide) (fun c_695 => ?_) (fun c_695 => by exact absurd c_695 (by decide))
  refine lv_iload hx hb dL_law_700 (lv_at hl 1 rfl) ?_
  refine lv_if_ne (tgt := 717) hx hb dL_law_702 (by decide) (fun c_702 => ?_) (fun c_702 => by exact absurd c_702 (by decide))
  refine lv_goto (tgt := 1297) hx hb dL_law_717 (by decide) ?_
  refine lv_iinc (v := nI (4 * (j + 1))) (lv' := [(4, .int (nI (4 * (j + 1)))), (6, .int (nI 0)), (5, .int (nI 1)), (0, .ref b9), (1, .ref xa), (2, .ref (A 0)), (3, .ref oa)]) hx hb dL_law_1297 hl (k := 6) rfl (iinc4 (4 * j)) (by decide) rfl (fun ls hl => ?_)
  refine lv_goto (tgt := 23) hx hb dL_law_1300 (by decide) ?_
  refine W.widen (k := 100 + 7 * (j + 1)) (n := 2000 + 64 * (j + 1)) (by omega) (by omega) ?_
  exact hHd _ _ _ ⟨og, sg, ln, mk, cs, up, fo, tn, w, t, lo, hi, me, nI n, qu, gu, ri, re, P, F, z, o0, o1, nI 1, dg, f, sl, ik, sv, pl, rfl, hln, hz, (RG_mono (Nat.le_succ _) (RG_of hRS)), (cen_of hn hcv), (HI_mono (Nat.le_succ _) hHI), (SLr_mono (Nat.le_succ _) hs0), (SLr_mono (Nat.le_succ _) hs1)⟩ hP hD hS ls (lv_sub hl [3, 4, 5, 6, 0] rfl)

set_option maxHeartbeats 8000000 in
set_option maxRecDepth 100000 in
theorem L_goBack_no2_0 {p : Program} {l : Launch} {e : Env} {s : State} {m : MethodId} {args : Array Value} {below : List Frame} {meth : Method} {cd : Code} {Q : State → Prop} {G : GG} {Ar : Nat → Prop} {b9 L : Nat} {xs : Nat → Int32} {xa so oa : Nat} {b ce a hh A : Nat → Nat} (hE : LE9 p l s m args cd G Ar b9 L xs) {j : Nat} (hj : 4 * j + 4 ≤ L) (hL : L ≤ 2048) (hHd : LH p l e s m args below meth cd Q G Ar b9 xa so oa b ce a hh A (j + 1))
    (og : Nat → Int64) (sg : Nat → Int32) (ln : Nat) (hln : ln ≤ 60) (mk : Nat → Int32) (cs up fo tn : Int32) (w t lo hi me : Nat → Int32) (n : Nat) (qu gu ri re : Int32) (P : Nat → Nat → Nat) (F : Nat → Nat → Nat → Int32) (z : Nat) (hz : z ≤ 6) (o1 : SLO) (th : Int32) (dg : Int64) (f sl ik sv pl : Nat → Int32) 
    (hRS : RS j fo tn w t lo hi me n qu gu ri re f) (hcv : cenV (qS tn lo hi me n) mk cs up) (hHI : HI j z F sv) (hs0 : SLr j none (ik 0) sl) (hs1 : SLr j o1 (ik 1) (fun j => sl (58 + j))) (hp0 : xs (4 * j + 1) = nI 0)
    {H : Heap} {locs : List Loc} (hP : PP G (mW G A th (nI z) (nI ln) dg f sl ik sv sg pl ++ (oW G oa og ++ cW G xa so b ce a hh sg ln mk cs up fo tn w t lo hi me (nI n) qu gu ri re P F z none o1)) H) (hD : va_D Ar (mW G A th (nI z) (nI ln) dg f sl ik sv sg pl ++ (oW G oa og ++ cW G xa so b ce a hh sg ln mk cs up fo tn w t lo hi me (nI n) qu gu ri re P F z none o1))) (hS : va_S Ar s.heap H locs) {ls : Array Slot} (hl : lv_has ls 9 [(0, .ref b9), (1, .ref xa), (2, .ref (A 0)), (3, .ref oa), (4, .int (nI (4 * j)))]) : W p l e room_1 s m args below meth cd H locs (100 + 7 * j) (2000 + 64 * j) Q (F0 m 664 ls []) := by
  obtain ⟨hx, hb, hml, hown, hts, hfl, ⟨hK, hN, hX, hZ0⟩, hA, hXs, hbl, hbA⟩ := id hE
  have hn : n ≤ 12 := hRS.1.1
  have hn17 : f 17 = nI n := hRS.2.1.2.2.1
  have hT : okP t := hRS.2.2.1.2.1
  have hvL : okL lo hi := hRS.2.2.1.2.2.1
  have hvA : okA f := hRS.2.2.1.2.2.2
  have htF : okT f := fun i hi => by rw [hRS.2.1.2.2.2.2 i hi]; exact hT i hi
  refine lv_aload_n hx hb dL_law_664 rfl (lv_at hl 1 rfl) ?_
  refine lv_aload_n hx hb dL_law_665 rfl (lv_at hl 0 rfl) ?_
  refine lv_iload hx hb dL_law_666 (lv_at hl 4 rfl) ?_
  refine lv_iconst (v := nI 1) hx hb dL_law_668 (by decide) ?_
  refine lv_iadd hx hb dL_law_669 ?_
  refine lv_cgi (y := nI ((4 * j) + 1)) (nI_add _ _) ?_
  refine va_sld hx hb hXs hbl hbA hS (vp_in_nI (by omega) (by omega)) dL_law_670 ?_
  refine lv_cgi (y := nI 0) (by rw [nI_clamp (by omega)]; exact hp0) ?_
  refine lv_aload_n hx hb dL_law_671 rfl (lv_at hl 3 rfl) ?_
  refine wr_g1i (pre := mW G A th (nI z) (nI ln) dg f sl ik sv sg pl) (mid := oW G oa og ++ cW G xa so b ce a hh sg ln mk cs up fo tn w t lo hi me (nI n) qu gu ri re P F z none o1) (vx_runSW (As := [.ref xa, .int (nI 0), .ref oa]) (rest := []) ⟨hx, hb, hml, hown, hts⟩ (w_goBack_t2 l G _ xa oa _ _ og (nI 0) (t_X6_goBack_no2_0 l hfl G xa so b ce a hh sg ln hln mk cs up fo tn w t lo hi me n hn qu gu ri re P F z hz o1)) (vx_cwSW 3 hts gL_law_L_goBack rfl rfl rfl (by decide +kernel) ⟨Nat.le_of_ble_eq_true rfl, Nat.le_of_ble_eq_true rfl⟩) (lxS1 (pre := mW G A th (nI z) (nI ln) dg f sl ik sv sg pl) (mid := oW G oa og ++ cW G xa so b ce a hh sg ln mk cs up fo tn w t lo hi me (nI n) qu gu ri re P F z none o1) hK hN hX (XZ_at hZ0 hS hA) hP hD) rfl rfl hl.1 rfl (lv_room (Nat.le_of_ble_eq_true rfl)) dL_law_672 ⟨by show 100 + 7 * j + 1 ≤ 601024; omega, by show 2000 + 64 * j + 6 ≤ 7293034; omega⟩) hP hD hS hA (fun r6 u6 H locs hw6 hP9 hD9 hS => ?_)
  have hw6 : r6 = nI 2 := hw6
  subst hw6
  have hP : PP G (mW G A th (nI z) (nI ln) dg f sl ik sv sg pl ++ (oW G oa og ++ cW G xa so b ce a hh sg ln mk cs up fo tn w t lo hi me (nI n) qu gu ri re P F z none o1)) _ := hP9
  have hD : va_D Ar (mW G A th (nI z) (nI ln) dg f sl ik sv sg pl ++ (oW G oa og ++ cW G xa so b ce a hh sg ln mk cs up fo tn w t lo hi me (nI n) qu gu ri re P F z none o1)) := hD9
  refine lv_istore (lv' := [(5, .int (nI 2)), (0, .ref b9), (1, .ref xa), (2, .ref (A 0)), (3, .ref oa), (4, .int (nI (4 * j)))]) hx hb dL_law_675 hl (by decide) rfl (fun ls hl => ?_)
  refine lv_aload_n hx hb dL_law_677 rfl (lv_at hl 3 rfl) ?_
  refine lv_aload_n hx hb dL_law_678 rfl (lv_at hl 1 rfl) ?_
  refine lv_iload hx hb dL_law_679 (lv_at hl 5 rfl) ?_
  refine lv_iconst (v := nI 1) hx hb dL_law_681 (by decide) ?_
  refine lv_iadd hx hb dL_law_682 ?_
  refine lv_cgi (y := nI ((4 * j) + 1)) (nI_add _ _) ?_
  refine va_sld hx hb hXs hbl hbA hS (vp_in_nI (by omega) (by omega)) dL_law_683 ?_
  refine lv_cgi (y := nI 0) (by rw [nI_clamp (by omega)]; exact hp0) ?_
  refine wr_goi (pre := []) (mid := mW G A th (nI z) (nI ln) dg f sl ik sv sg pl) (suf := oW G oa og ++ cW G xa so b ce a hh sg ln mk cs up fo tn w t lo hi me (nI n) qu gu ri re P F z none o1) (va_runV (As := [.int (nI 0)]) (rest := []) ⟨hx, hb, hml, hown, hts⟩ (c_X7_goBack_no2 l G _ A th (nI ln) dg f sl ik sv sg pl z hz 0 (by omega) hs0) (cwV 1 hts gL_law_X7_goBack rfl rfl rfl (by decide +kernel) ⟨Nat.le_of_ble_eq_true rfl, Nat.le_of_ble_eq_true rfl⟩) (wV (pre := []) (mid := mW G A th (nI z) (nI ln) dg f sl ik sv sg pl) (suf := oW G oa og ++ cW G xa so b ce a hh sg ln mk cs up fo tn w t lo hi me (nI n) qu gu ri re P F z none o1) (va_recv (ws := mW G A th (nI z) (nI ln) dg f sl ik sv sg pl ++ (oW G oa og ++ cW G xa so b ce a hh sg ln mk cs up fo tn w t lo hi me (nI n) qu gu ri re P F z none o1)) hK hP (ci := 6) (q0 := 0) rfl rfl) hK hN hP hD) rfl rfl hl.1 rfl (lv_room (Nat.le_of_ble_eq_true rfl)) dL_law_684 ⟨by show 100 + 7 * j + 1 + 0 ≤ 601024; omega, by show 2000 + 64 * j + 6 + 0 ≤ 7293034; omega⟩) hP hD hS hA (fun r7 u7 H locs hw7 hP9 hD9 hS => ?_)
  have hw7 : r7 = nI 0 := hw7
  subst hw7
  have hP : PP G (mW G A (nI 2) (nI z) (nI ln) dg f sl ik sv sg pl ++ (oW G oa og ++ cW G xa so b ce a hh sg ln mk cs up fo tn w t lo hi me (nI n) qu gu ri re P F z none o1)) _ := hP9
  have hD : va_D Ar (mW G A (nI 2) (nI z) (nI ln) dg f sl ik sv sg pl ++ (oW G oa og ++ cW G xa so b ce a hh sg ln mk cs up fo tn w t lo hi me (nI n) qu gu ri re P F z none o1)) := hD9
  refine lv_istore (lv' := [(6, .int (nI 0)), (5, .int (nI 2)), (0, .ref b9), (1, .ref xa), (2, .ref (A 0)), (3, .ref oa), (4, .int (nI (4 * j)))]) hx hb dL_law_687 hl (by decide) rfl (fun ls hl => ?_)
  refine lv_aload_n hx hb dL_law_689 rfl (lv_at hl 4 rfl) ?_
  refine rd_go (va_runV (As := []) (rest := []) ⟨hx, hb, hml, hown, hts⟩ (c_X7_thrown l G A (nI 2) (nI z) (nI ln) dg f sl ik sv sg pl) (cwV 0 hts gL_law_X7_thrown rfl rfl rfl (by decide +kernel) ⟨Nat.le_of_ble_eq_true rfl, Nat.le_of_ble_eq_true rfl⟩) (rV (ws := mW G A (nI 2) (nI z) (nI ln) dg f sl ik sv sg pl) (va_recv (ws := mW G A (nI 2) (nI z) (nI ln) dg f sl ik sv sg pl ++ (oW G oa og ++ cW G xa so b ce a hh sg ln mk cs up fo tn w t lo hi me (nI n) qu gu ri re P F z none o1)) hK hP (ci := 6) (q0 := 0) rfl rfl) hK hN (P_mid (pre := []) (mid := mW G A (nI 2) (nI z) (nI ln) dg f sl ik sv sg pl) (suf := oW G oa og ++ cW G xa so b ce a hh sg ln mk cs up fo tn w t lo hi me (nI n) qu gu ri re P F z none o1) hP)) rfl rfl hl.1 rfl (lv_room (Nat.le_of_ble_eq_true rfl)) dL_law_690 ⟨by show 100 + 7 * j + 1 + 0 + 0 ≤ 601024; omega, by show 2000 + 64 * j + 6 + 0 + 0 ≤ 7293034; omega⟩) ?_
  refine lv_iload hx hb dL_law_693 (lv_at hl 1 rfl) ?_
  refine lv_icmp_eq (tgt := 700) hx hb dL_law_695 (by decide) (fun c_695 => ?_) (fun c_695 => by exact absurd c_695 (by decide))
  refine lv_iload hx hb dL_law_700 (lv_at hl 1 rfl) ?_
  refine lv_if_ne (tgt := 717) hx hb dL_law_702 (by decide) (fun c_702 => ?_) (fun c_702 => by exact absurd c_702 (by decide))
  refine lv_goto (tgt := 1297) hx hb dL_law_717 (by decide) ?_
  refine lv_iinc (v := nI (4 * (j + 1))) (lv' := [(4, .int (nI (4 * (j + 1)))), (6, .int (nI 0)), (5, .int (nI 2)), (0, .ref b9), (1, .ref xa), (2, .ref (A 0)), (3, .ref oa)]) hx hb dL_law_1297 hl (k := 6) rfl (iinc4 (4 * j)) (by decide) rfl (fun ls hl => ?_)
  refine lv_goto (tgt := 23) hx hb dL_law_1300 (by decide) ?_
  refine W.widen (k := 100 + 7 * (j + 1)) (n := 2000 + 64 * (j + 1)) (by omega) (by omega) ?_
  exact hHd _ _ _ ⟨og, sg, ln, mk, cs, up, fo, tn, w, t, lo, hi, me, nI n, qu, gu, ri, re, P, F, z, none, o1, nI 2, dg, f, sl, ik, sv, pl, rfl, hln, hz, (RG_mono (Nat.le_succ _) (RG_of hRS)), (cen_of hn hcv), (HI_mono (Nat.le_succ _) hHI), (SLr_mono (Nat.le_succ _) hs0), (SLr_mono (Nat.le_succ _) hs1)⟩ hP hD hS ls (lv_sub hl [3, 4, 5, 6, 0] rfl)

set_option maxHeartbeats 8000000 in
set_option maxRecDepth 100000 in
theorem L_goBack_no2_1 {p : Program} {l : Launch} {e : Env} {s : State} {m : MethodId} {args : Array Value} {below : List Frame} {meth : Method} {cd : Code} {Q : State → Prop} {G : GG} {Ar : Nat → Prop} {b9 L : Nat} {xs : Nat → Int32} {xa so oa : Nat} {b ce a hh A : Nat → Nat} (hE : LE9 p l s m args cd G Ar b9 L xs) {j : Nat} (hj : 4 * j + 4 ≤ L) (hL : L ≤ 2048) (hHd : LH p l e s m args below meth cd Q G Ar b9 xa so oa b ce a hh A (j + 1))
    (og : Nat → Int64) (sg : Nat → Int32) (ln : Nat) (hln : ln ≤ 60) (mk : Nat → Int32) (cs up fo tn : Int32) (w t lo hi me : Nat → Int32) (n : Nat) (qu gu ri re : Int32) (P : Nat → Nat → Nat) (F : Nat → Nat → Nat → Int32) (z : Nat) (hz : z ≤ 6) (o0 : SLO) (th : Int32) (dg : Int64) (f sl ik sv pl : Nat → Int32) 
    (hRS : RS j fo tn w t lo hi me n qu gu ri re f) (hcv : cenV (qS tn lo hi me n) mk cs up) (hHI : HI j z F sv) (hs0 : SLr j o0 (ik 0) sl) (hs1 : SLr j none (ik 1) (fun j => sl (58 + j))) (hp0 : xs (4 * j + 1) = nI 1)
    {H : Heap} {locs : List Loc} (hP : PP G (mW G A th (nI z) (nI ln) dg f sl ik sv sg pl ++ (oW G oa og ++ cW G xa so b ce a hh sg ln mk cs up fo tn w t lo hi me (nI n) qu gu ri re P F z o0 none)) H) (hD : va_D Ar (mW G A th (nI z) (nI ln) dg f sl ik sv sg pl ++ (oW G oa og ++ cW G xa so b ce a hh sg ln mk cs up fo tn w t lo hi me (nI n) qu gu ri re P F z o0 none))) (hS : va_S Ar s.heap H locs) {ls : Array Slot} (hl : lv_has ls 9 [(0, .ref b9), (1, .ref xa), (2, .ref (A 0)), (3, .ref oa), (4, .int (nI (4 * j)))]) : W p l e room_1 s m args below meth cd H locs (100 + 7 * j) (2000 + 64 * j) Q (F0 m 664 ls []) := by
  obtain ⟨hx, hb, hml, hown, hts, hfl, ⟨hK, hN, hX, hZ0⟩, hA, hXs, hbl, hbA⟩ := id hE
  have hn : n ≤ 12 := hRS.1.1
  have hn17 : f 17 = nI n := hRS.2.1.2.2.1
  have hT : okP t := hRS.2.2.1.2.1
  have hvL : okL lo hi := hRS.2.2.1.2.2.1
  have hvA : okA f := hRS.2.2.1.2.2.2
  have htF : okT f := fun i hi => by rw [hRS.2.1.2.2.2.2 i hi]; exact hT i hi
  refine lv_aload_n hx hb dL_law_664 rfl (lv_at hl 1 rfl) ?_
  refine lv_aload_n hx hb dL_law_665 rfl (lv_at hl 0 rfl) ?_
  refine lv_iload hx hb dL_law_666 (lv_at hl 4 rfl) ?_
  refine lv_iconst (v := nI 1) hx hb dL_law_668 (by decide) ?_
  refine lv_iadd hx hb dL_law_669 ?_
  refine lv_cgi (y := nI ((4 * j) + 1)) (nI_add _ _) ?_
  refine va_sld hx hb hXs hbl hbA hS (vp_in_nI (by omega) (by omega)) dL_law_670 ?_
  refine lv_cgi (y := nI 1) (by rw [nI_clamp (by omega)]; exact hp0) ?_
  refine lv_aload_n hx hb dL_law_671 rfl (lv_at hl 3 rfl) ?_
  refine wr_g1i (pre := mW G A th (nI z) (nI ln) dg f sl ik sv sg pl) (mid := oW G oa og ++ cW G xa so b ce a hh sg ln mk cs up fo tn w t lo hi me (nI n) qu gu ri re P F z o0 none) (vx_runSW (As := [.ref xa, .int (nI 1), .ref oa]) (rest := []) ⟨hx, hb, hml, hown, hts⟩ (w_goBack_t2 l G _ xa oa _ _ og (nI 1) (t_X6_goBack_no2_1 l hfl G xa so b ce a hh sg ln hln mk cs up fo tn w t lo hi me n hn qu gu ri re P F z hz o0)) (vx_cwSW 3 hts gL_law_L_goBack rfl rfl rfl (by decide +kernel) ⟨Nat.le_of_ble_eq_true rfl, Nat.le_of_ble_eq_true rfl⟩) (lxS1 (pre := mW G A th (nI z) (nI ln) dg f sl ik sv sg pl) (mid := oW G oa og ++ cW G xa so b ce a hh sg ln mk cs up fo tn w t lo hi me (nI n) qu gu ri re P F z o0 none) hK hN hX (XZ_at hZ0 hS hA) hP hD) rfl rfl hl.1 rfl (lv_room (Nat.le_of_ble_eq_true rfl)) dL_law_672 ⟨by show 100 + 7 * j + 1 ≤ 601024; omega, by show 2000 + 64 * j + 6 ≤ 7293034; omega⟩) hP hD hS hA (fun r6 u6 H locs hw6 hP9 hD9 hS => ?_)
  have hw6 : r6 = nI 2 := hw6
  subst hw6
  have hP : PP G (mW G A th (nI z) (nI ln) dg f sl ik sv sg pl ++ (oW G oa og ++ cW G xa so b ce a hh sg ln mk cs up fo tn w t lo hi me (nI n) qu gu ri re P F z o0 none)) _ := hP9
  have hD : va_D Ar (mW G A th (nI z) (nI ln) dg f sl ik sv sg pl ++ (oW G oa og ++ cW G xa so b ce a hh sg ln mk cs up fo tn w t lo hi me (nI n) qu gu ri re P F z o0 none)) := hD9
  refine lv_istore (lv' := [(5, .int (nI 2)), (0, .ref b9), (1, .ref xa), (2, .ref (A 0)), (3, .ref oa), (4, .int (nI (4 * j)))]) hx hb dL_law_675 hl (by decide) rfl (fun ls hl => ?_)
  refine lv_aload_n hx hb dL_law_677 rfl (lv_at hl 3 rfl) ?_
  refine lv_aload_n hx hb dL_law_678 rfl (lv_at hl 1 rfl) ?_
  refine lv_iload hx hb dL_law_679 (lv_at hl 5 rfl) ?_
  refine lv_iconst (v := nI 1) hx hb dL_law_681 (by decide) ?_
  refine lv_iadd hx hb dL_law_682 ?_
  refine lv_cgi (y := nI ((4 * j) + 1)) (nI_add _ _) ?_
  refine va_sld hx hb hXs hbl hbA hS (vp_in_nI (by omega) (by omega)) dL_law_683 ?_
  refine lv_cgi (y := nI 1) (by rw [nI_clamp (by omega)]; exact hp0) ?_
  refine wr_goi (pre := []) (mid := mW G A th (nI z) (nI ln) dg f sl ik sv sg pl) (suf := oW G oa og ++ cW G xa so b ce a hh sg ln mk cs up fo tn w t lo hi me (nI n) qu gu ri re P F z o0 none) (va_runV (As := [.int (nI 1)]) (rest := []) ⟨hx, hb, hml, hown, hts⟩ (c_X7_goBack_no2 l G _ A th (nI ln) dg f sl ik sv sg pl z hz 1 (by omega) hs1) (cwV 1 hts gL_law_X7_goBack rfl rfl rfl (by decide +kernel) ⟨Nat.le_of_ble_eq_true rfl, Nat.le_of_ble_eq_true rfl⟩) (wV (pre := []) (mid := mW G A th (nI z) (nI ln) dg f sl ik sv sg pl) (suf := oW G oa og ++ cW G xa so b ce a hh sg ln mk cs up fo tn w t lo hi me (nI n) qu gu ri re P F z o0 none) (va_recv (ws := mW G A th (nI z) (nI ln) dg f sl ik sv sg pl ++ (oW G oa og ++ cW G xa so b ce a hh sg ln mk cs up fo tn w t lo hi me (nI n) qu gu ri re P F z o0 none)) hK hP (ci := 6) (q0 := 0) rfl rfl) hK hN hP hD) rfl rfl hl.1 rfl (lv_room (Nat.le_of_ble_eq_true rfl)) dL_law_684 ⟨by show 100 + 7 * j + 1 + 0 ≤ 601024; omega, by show 2000 + 64 * j + 6 + 0 ≤ 7293034; omega⟩) hP hD hS hA (fun r7 u7 H locs hw7 hP9 hD9 hS => ?_)
  have hw7 : r7 = nI 0 := hw7
  subst hw7
  have hP : PP G (mW G A (nI 2) (nI z) (nI ln) dg f sl ik sv sg pl ++ (oW G oa og ++ cW G xa so b ce a hh sg ln mk cs up fo tn w t lo hi me (nI n) qu gu ri re P F z o0 none)) _ := hP9
  have hD : va_D Ar (mW G A (nI 2) (nI z) (nI ln) dg f sl ik sv sg pl ++ (oW G oa og ++ cW G xa so b ce a hh sg ln mk cs up fo tn w t lo hi me (nI n) qu gu ri re P F z o0 none)) := hD9
  refine lv_istore (lv' := [(6, .int (nI 0)), (5, .int (nI 2)), (0, .ref b9), (1, .ref xa), (2, .ref (A 0)), (3, .ref oa), (4, .int (nI (4 * j)))]) hx hb dL_law_687 hl (by decide) rfl (fun ls hl => ?_)
  refine lv_aload_n hx hb dL_law_689 rfl (lv_at hl 4 rfl) ?_
  refine rd_go (va_runV (As := []) (rest := []) ⟨hx, hb, hml, hown, hts⟩ (c_X7_thrown l G A (nI 2) (nI z) (nI ln) dg f sl ik sv sg pl) (cwV 0 hts gL_law_X7_thrown rfl rfl rfl (by decide +kernel) ⟨Nat.le_of_ble_eq_true rfl, Nat.le_of_ble_eq_true rfl⟩) (rV (ws := mW G A (nI 2) (nI z) (nI ln) dg f sl ik sv sg pl) (va_recv (ws := mW G A (nI 2) (nI z) (nI ln) dg f sl ik sv sg pl ++ (oW G oa og ++ cW G xa so b ce a hh sg ln mk cs up fo tn w t lo hi me (nI n) qu gu ri re P F z o0 none)) hK hP (ci := 6) (q0 := 0) rfl rfl) hK hN (P_mid (pre := []) (mid := mW G A (nI 2) (nI z) (nI ln) dg f sl ik sv sg pl) (suf := oW G oa og ++ cW G xa so b ce a hh sg ln mk cs up fo tn w t lo hi me (nI n) qu gu ri re P F z o0 none) hP)) rfl rfl hl.1 rfl (lv_room (Nat.le_of_ble_eq_true rfl)) dL_law_690 ⟨by show 100 + 7 * j + 1 + 0 + 0 ≤ 601024; omega, by show 2000 + 64 * j + 6 + 0 + 0 ≤ 7293034; omega⟩) ?_
  refine lv_iload hx hb dL_law_693 (lv_at hl 1 rfl) ?_
  refine lv_icmp_eq (tgt := 700) hx hb dL_law_695 (by decide) (fun c_695 => ?_) (fun c_695 => by exact absurd c_695 (by decide))
  refine lv_iload hx hb dL_law_700 (lv_at hl 1 rfl) ?_
  refine lv_if_ne (tgt := 717) hx hb dL_law_702 (by decide) (fun c_702 => ?_) (fun c_702 => by exact absurd c_702 (by decide))
  refine lv_goto (tgt := 1297) hx hb dL_law_717 (by decide) ?_
  refine lv_iinc (v := nI (4 * (j + 1))) (lv' := [(4, .int (nI (4 * (j + 1)))), (6, .int (nI 0)), (5, .int (nI 2)), (0, .ref b9), (1, .ref xa), (2, .ref (A 0)), (3, .ref oa)]) hx hb dL_law_1297 hl (k := 6) rfl (iinc4 (4 * j)) (by decide) rfl (fun ls hl => ?_)
  refine lv_goto (tgt := 23) hx hb dL_law_1300 (by decide) ?_
  refine W.widen (k := 100 + 7 * (j + 1)) (n := 2000 + 64 * (j + 1)) (by omega) (by omega) ?_
  exact hHd _ _ _ ⟨og, sg, ln, mk, cs, up, fo, tn, w, t, lo, hi, me, nI n, qu, gu, ri, re, P, F, z, o0, none, nI 2, dg, f, sl, ik, sv, pl, rfl, hln, hz, (RG_mono (Nat.le_succ _) (RG_of hRS)), (cen_of hn hcv), (HI_mono (Nat.le_succ _) hHI), (SLr_mono (Nat.le_succ _) hs0), (SLr_mono (Nat.le_succ _) hs1)⟩ hP hD hS ls (lv_sub hl [3, 4, 5, 6, 0] rfl)

set_option maxHeartbeats 8000000 in
set_option maxRecDepth 100000 in
theorem L_undo_no {p : Program} {l : Launch} {e : Env} {s : State} {m : MethodId} {args : Array Value} {below : List Frame} {meth : Method} {cd : Code} {Q : State → Prop} {G : GG} {Ar : Nat → Prop} {b9 L : Nat} {xs : Nat → Int32} {xa so oa : Nat} {b ce a hh A : Nat → Nat} (hE : LE9 p l s m args cd G Ar b9 L xs) {j : Nat} (hj : 4 * j + 4 ≤ L) (hL : L ≤ 2048) (hHd : LH p l e s m args below meth cd Q G Ar b9 xa so oa b ce a hh A (j + 1))
    (og : Nat → Int64) (sg : Nat → Int32) (ln : Nat) (hln : ln ≤ 60) (mk : Nat → Int32) (cs up fo tn : Int32) (w t lo hi me : Nat → Int32) (n : Nat) (qu gu ri re : Int32) (P : Nat → Nat → Nat) (F : Nat → Nat → Nat → Int32)  (o0 : SLO) (o1 : SLO) (th : Int32) (dg : Int64) (f sl ik sv pl : Nat → Int32) 
    (hRS : RS j fo tn w t lo hi me n qu gu ri re f) (hcv : cenV (qS tn lo hi me n) mk cs up) (hHI : HI j 0 F sv) (hs0 : SLr j o0 (ik 0) sl) (hs1 : SLr j o1 (ik 1) (fun j => sl (58 + j))) 
    {H : Heap} {locs : List Loc} (hP : PP G (mW G A th (nI 0) (nI ln) dg f sl ik sv sg pl ++ (oW G oa og ++ cW G xa so b ce a hh sg ln mk cs up fo tn w t lo hi me (nI n) qu gu ri re P F 0 o0 o1)) H) (hD : va_D Ar (mW G A th (nI 0) (nI ln) dg f sl ik sv sg pl ++ (oW G oa og ++ cW G xa so b ce a hh sg ln mk cs up fo tn w t lo hi me (nI n) qu gu ri re P F 0 o0 o1))) (hS : va_S Ar s.heap H locs) {ls : Array Slot} (hl : lv_has ls 9 [(0, .ref b9), (1, .ref xa), (2, .ref (A 0)), (3, .ref oa), (4, .int (nI (4 * j)))]) : W p l e room_1 s m args below meth cd H locs (100 + 7 * j) (2000 + 64 * j) Q (F0 m 720 ls []) := by
  obtain ⟨hx, hb, hml, hown, hts, hfl, ⟨hK, hN, hX, hZ0⟩, hA, hXs, hbl, hbA⟩ := id hE
  have hn : n ≤ 12 := hRS.1.1
  have hn17 : f 17 = nI n := hRS.2.1.2.2.1
  have hT : okP t := hRS.2.2.1.2.1
  have hvL : okL lo hi := hRS.2.2.1.2.2.1
  have hvA : okA f := hRS.2.2.1.2.2.2
  have htF : okT f := fun i hi => by rw [hRS.2.1.2.2.2.2 i hi]; exact hT i hi
  have hz : 0 ≤ 6 := by omega
  refine lv_aload_n hx hb dL_law_720 rfl (lv_at hl 1 rfl) ?_
  refine lv_aload_n hx hb dL_law_721 rfl (lv_at hl 3 rfl) ?_
  refine wr_g1i (pre := mW G A th (nI 0) (nI ln) dg f sl ik sv sg pl) (mid := oW G oa og ++ cW G xa so b ce a hh sg ln mk cs up fo tn w t lo hi me (nI n) qu gu ri re P F 0 o0 o1) (vx_runSW (As := [.ref xa, .ref oa]) (rest := []) ⟨hx, hb, hml, hown, hts⟩ (w_undo_t1 l G _ xa oa _ _ og  (t_X6_undo_no l hfl G xa so b ce a hh sg ln hln mk cs up fo tn w t lo hi me n hn qu gu ri re P F o0 o1)) (vx_cwSW 2 hts gL_law_L_undo rfl rfl rfl (by decide +kernel) ⟨Nat.le_of_ble_eq_true rfl, Nat.le_of_ble_eq_true rfl⟩) (lxS1 (pre := mW G A th (nI 0) (nI ln) dg f sl ik sv sg pl) (mid := oW G oa og ++ cW G xa so b ce a hh sg ln mk cs up fo tn w t lo hi me (nI n) qu gu ri re P F 0 o0 o1) hK hN hX (XZ_at hZ0 hS hA) hP hD) rfl rfl hl.1 rfl (lv_room (Nat.le_of_ble_eq_true rfl)) dL_law_722 ⟨by show 100 + 7 * j + 1 ≤ 601024; omega, by show 2000 + 64 * j + 6 ≤ 7293034; omega⟩) hP hD hS hA (fun r6 u6 H locs hw6 hP9 hD9 hS => ?_)
  have hw6 : r6 = nI 1 := hw6
  subst hw6
  have hP : PP G (mW G A th (nI 0) (nI ln) dg f sl ik sv sg pl ++ (oW G oa og ++ cW G xa so b ce a hh sg ln mk cs up fo tn w t lo hi me (nI n) qu gu ri re P F 0 o0 o1)) _ := hP9
  have hD : va_D Ar (mW G A th (nI 0) (nI ln) dg f sl ik sv sg pl ++ (oW G oa og ++ cW G xa so b ce a hh sg ln mk cs up fo tn w t lo hi me (nI n) qu gu ri re P F 0 o0 o1)) := hD9
  refine lv_istore (lv' := [(5, .int (nI 1)), (0, .ref b9), (1, .ref xa), (2, .ref (A 0)), (3, .ref oa), (4, .int (nI (4 * j)))]) hx hb dL_law_725 hl (by decide) rfl (fun ls hl => ?_)
  refine lv_aload_n hx hb dL_law_727 rfl (lv_at hl 3 rfl) ?_
  refine wr_goi (pre := []) (mid := mW G A th (nI 0) (nI ln) dg f sl ik sv sg pl) (suf := oW G oa og ++ cW G xa so b ce a hh sg ln mk cs up fo tn w t lo hi me (nI n) qu gu ri re P F 0 o0 o1) (va_runV (As := []) (rest := []) ⟨hx, hb, hml, hown, hts⟩ (c_X7_undo_no l G _ A th (nI ln) dg f sl ik sv sg pl 0 (by omega) rfl) (cwV 0 hts gL_law_X7_undo rfl rfl rfl (by decide +kernel) ⟨Nat.le_of_ble_eq_true rfl, Nat.le_of_ble_eq_true rfl⟩) (wV (pre := []) (mid := mW G A th (nI 0) (nI ln) dg f sl ik sv sg pl) (suf := oW G oa og ++ cW G xa so b ce a hh sg ln mk cs up fo tn w t lo hi me (nI n) qu gu ri re P F 0 o0 o1) (va_recv (ws := mW G A th (nI 0) (nI ln) dg f sl ik sv sg pl ++ (oW G oa og ++ cW G xa so b ce a hh sg ln mk cs up fo tn w t lo hi me (nI n) qu gu ri re P F 0 o0 o1)) hK hP (ci := 6) (q0 := 0) rfl rfl) hK hN hP hD) rfl rfl hl.1 rfl (lv_room (Nat.le_of_ble_eq_true rfl)) dL_law_728 ⟨by show 100 + 7 * j + 1 + 0 ≤ 601024; omega, by show 2000 + 64 * j + 6 + 0 ≤ 7293034; omega⟩) hP hD hS hA (fun r7 u7 H locs hw7 hP9 hD9 hS => ?_)
  have hw7 : r7 = nI 0 := hw7
  subst hw7
  have hP : PP G (mW G A (nI 1) (nI 0) (nI ln) dg f sl ik sv sg pl ++ (oW G oa og ++ cW G xa so b ce a hh sg ln mk cs up fo tn w t lo hi me (nI n) qu gu ri re P F 0 o0 o1)) _ := hP9
  have hD : va_D Ar (mW G A (nI 1) (nI 0) (nI ln) dg f sl ik sv sg pl ++ (oW G oa og ++ cW G xa so b ce a hh sg ln mk cs up fo tn w t lo hi me (nI n) qu gu ri re P F 0 o0 o1)) := hD9
  refine lv_istore (lv' := [(6, .int (nI 0)), (5, .int (nI 1)), (0, .ref b9), (1, .ref xa), (2, .ref (A 0)), (3, .ref oa), (4, .int (nI (4 * j)))]) hx hb dL_law_731 hl (by decide) rfl (fun ls hl => ?_)
  refine lv_aload_n hx hb dL_law_733 rfl (lv_at hl 4 rfl) ?_
  refine rd_go (va_runV (As := []) (rest := []) ⟨hx, hb, hml, hown, hts⟩ (c_X7_thrown l G A (nI 1) (nI 0) (nI ln) dg f sl ik sv sg pl) (cwV 0 hts gL_law_X7_thrown rfl rfl rfl (by decide +kernel) ⟨Nat.le_of_ble_eq_true rfl, Nat.le_of_ble_eq_true rfl⟩) (rV (ws := mW G A (nI 1) (nI 0) (nI ln) dg f sl ik sv sg pl) (va_recv (ws := mW G A (nI 1) (nI 0) (nI ln) dg f sl ik sv sg pl ++ (oW G oa og ++ cW G xa so b ce a hh sg ln mk cs up fo tn w t lo hi me (nI n) qu gu ri re P F 0 o0 o1)) hK hP (ci := 6) (q0 := 0) rfl rfl) hK hN (P_mid (pre := []) (mid := mW G A (nI 1) (nI 0) (nI ln) dg f sl ik sv sg pl) (suf := oW G oa og ++ cW G xa so b ce a hh sg ln mk cs up fo tn w t lo hi me (nI n) qu gu ri re P F 0 o0 o1) hP)) rfl rfl hl.1 rfl (lv_room (Nat.le_of_ble_eq_true rfl)) dL_law_734 ⟨by show 100 + 7 * j + 1 + 0 + 0 ≤ 601024; omega, by show 2000 + 64 * j + 6 + 0 + 0 ≤ 7293034; omega⟩) ?_
  refine lv_iload hx hb dL_law_737 (lv_at hl 1 rfl) ?_
  refine lv_icmp_eq (tgt := 744) hx hb dL_law_739 (by decide) (fun c_739 => ?_) (fun c_739 => by exact absurd c_739 (by decide))
  refine lv_iload hx hb dL_law_744 (lv_at hl 1 rfl) ?_
  refine lv_if_ne (tgt := 761) hx hb dL_law_746 (by decide) (fun c_746 => ?_) (fun c_746 => by exact absurd c_746 (by decide))
  refine lv_goto (tgt := 1297) hx hb dL_law_761 (by decide) ?_
  refine lv_iinc (v := nI (4 * (j + 1))) (lv' := [(4, .int (nI (4 * (j + 1)))), (6, .int (nI 0)), (5, .int (nI 1)), (0, .ref b9), (1, .ref xa), (2, .ref (A 0)), (3, .ref oa)]) hx hb dL_law_1297 hl (k := 6) rfl (iinc4 (4 * j)) (by decide) rfl (fun ls hl => ?_)
  refine lv_goto (tgt := 23) hx hb dL_law_1300 (by decide) ?_
  refine W.widen (k := 100 + 7 * (j + 1)) (n := 2000 + 64 * (j + 1)) (by omega) (by omega) ?_
  exact hHd _ _ _ ⟨og, sg, ln, mk, cs, up, fo, tn, w, t, lo, hi, me, nI n, qu, gu, ri, re, P, F, 0, o0, o1, nI 1, dg, f, sl, ik, sv, pl, rfl, hln, hz, (RG_mono (Nat.le_succ _) (RG_of hRS)), (cen_of hn hcv), (HI_mono (Nat.le_succ _) hHI), (SLr_mono (Nat.le_succ _) hs0), (SLr_mono (Nat.le_succ _) hs1)⟩ hP hD hS ls (lv_sub hl [3, 4, 5, 6, 0] rfl)

set_option maxHeartbeats 8000000 in
set_option maxRecDepth 100000 in
theorem L_panelOf_no1 {p : Program} {l : Launch} {e : Env} {s : State} {m : MethodId} {args : Array Value} {below : List Frame} {meth : Method} {cd : Code} {Q : State → Prop} {G : GG} {Ar : Nat → Prop} {b9 L : Nat} {xs : Nat → Int32} {xa so oa : Nat} {b ce a hh A : Nat → Nat} (hE : LE9 p l s m args cd G Ar b9 L xs) {j : Nat} (hj : 4 * j + 4 ≤ L) (hL : L ≤ 2048) (hHd : LH p l e s m args below meth cd Q G Ar b9 xa so oa b ce a hh A (j + 1))
    (og : Nat → Int64) (sg : Nat → Int32) (ln : Nat) (hln : ln ≤ 60) (mk : Nat → Int32) (cs up fo tn : Int32) (w t lo hi me : Nat → Int32) (n : Nat) (qu gu ri re : Int32) (P : Nat → Nat → Nat) (F : Nat → Nat → Nat → Int32) (z : Nat) (hz : z ≤ 6) (o0 : SLO) (o1 : SLO) (th : Int32) (dg : Int64) (f sl ik sv pl : Nat → Int32) (x y : Int32) (hx0 : ¬ inB x (nI 0) (nI 9))
    (hRS : RS j fo tn w t lo hi me n qu gu ri re f) (hcv : cenV (qS tn lo hi me n) mk cs up) (hHI : HI j z F sv) (hs0 : SLr j o0 (ik 0) sl) (hs1 : SLr j o1 (ik 1) (fun j => sl (58 + j))) (hp0 : xs (4 * j + 1) = x) (hp1 : xs (4 * j + 2) = y)
    {H : Heap} {locs : List Loc} (hP : PP G (mW G A th (nI z) (nI ln) dg f sl ik sv sg pl ++ (oW G oa og ++ cW G xa so b ce a hh sg ln mk cs up fo tn w t lo hi me (nI n) qu gu ri re P F z o0 o1)) H) (hD : va_D Ar (mW G A th (nI z) (nI ln) dg f sl ik sv sg pl ++ (oW G oa og ++ cW G xa so b ce a hh sg ln mk cs up fo tn w t lo hi me (nI n) qu gu ri re P F z o0 o1))) (hS : va_S Ar s.heap H locs) {ls : Array Slot} (hl : lv_has ls 9 [(0, .ref b9), (1, .ref xa), (2, .ref (A 0)), (3, .ref oa), (4, .int (nI (4 * j)))]) : W p l e room_1 s m args below meth cd H locs (100 + 7 * j) (2000 + 64 * j) Q (F0 m 764 ls []) := by
  obtain ⟨hx, hb, hml, hown, hts, hfl, ⟨hK, hN, hX, hZ0⟩, hA, hXs, hbl, hbA⟩ := id hE
  have hn : n ≤ 12 := hRS.1.1
  have hn17 : f 17 = nI n := hRS.2.1.2.2.1
  have hT : okP t := hRS.2.2.1.2.1
  have hvL : okL lo hi := hRS.2.2.1.2.2.1
  have hvA : okA f := hRS.2.2.1.2.2.2
  have htF : okT f := fun i hi => by rw [hRS.2.1.2.2.2.2 i hi]; exact hT i hi
  refine lv_aload_n hx hb dL_law_764 rfl (lv_at hl 1 rfl) ?_
  refine lv_aload_n hx hb dL_law_765 rfl (lv_at hl 0 rfl) ?_
  refine lv_iload hx hb dL_law_766 (lv_at hl 4 rfl) ?_
  refine lv_iconst (v := nI 1) hx hb dL_law_768 (by decide) ?_
  refine lv_iadd hx hb dL_law_769 ?_
  refine lv_cgi (y := nI ((4 * j) + 1)) (nI_add _ _) ?_
  refine va_sld hx hb hXs hbl hbA hS (vp_in_nI (by omega) (by omega)) dL_law_770 ?_
  refine lv_cgi (y := x) (by rw [nI_clamp (by omega)]; exact hp0) ?_
  refine lv_aload_n hx hb dL_law_771 rfl (lv_at hl 0 rfl) ?_
  refine lv_iload hx hb dL_law_772 (lv_at hl 4 rfl) ?_
  refine lv_iconst (v := nI 2) hx hb dL_law_774 (by decide) ?_
  refine lv_iadd hx hb dL_law_775 ?_
  refine lv_cgi (y := nI ((4 * j) + 2)) (nI_add _ _) ?_
  refine va_sld hx hb hXs hbl hbA hS (vp_in_nI (by omega) (by omega)) dL_law_776 ?_
  refine lv_cgi (y := y) (by rw [nI_clamp (by omega)]; exact hp1) ?_
  refine lv_aload_n hx hb dL_law_777 rfl (lv_at hl 3 rfl) ?_
  refine wr_g1i (pre := mW G A th (nI z) (nI ln) dg f sl ik sv sg pl) (mid := oW G oa og ++ cW G xa so b ce a hh sg ln mk cs up fo tn w t lo hi me (nI n) qu gu ri re P F z o0 o1) (vx_runSW (As := [.ref xa, .int x, .int y, .ref oa]) (rest := []) ⟨hx, hb, hml, hown, hts⟩ (w_panelOf_t1 l G _ xa oa _ _ og x y (t_X6_panelOf_no1 l hfl G xa _ _ x y hx0)) (vx_cwSW 4 hts gL_law_L_panelOf rfl rfl rfl (by decide +kernel) ⟨Nat.le_of_ble_eq_true rfl, Nat.le_of_ble_eq_true rfl⟩) (lxS1 (pre := mW G A th (nI z) (nI ln) dg f sl ik sv sg pl) (mid := oW G oa og ++ cW G xa so b ce a hh sg ln mk cs up fo tn w t lo hi me (nI n) qu gu ri re P F z o0 o1) hK hN hX (XZ_at hZ0 hS hA) hP hD) rfl rfl hl.1 rfl (lv_room (Nat.le_of_ble_eq_true rfl)) dL_law_778 ⟨by show 100 + 7 * j + 1 ≤ 601024; omega, by show 2000 + 64 * j + 6 ≤ 7293034; omega⟩) hP hD hS hA (fun r6 u6 H locs hw6 hP9 hD9 hS => ?_)
  have hw6 : r6 = nI 1 := hw6
  subst hw6
  have hP : PP G (mW G A th (nI z) (nI ln) dg f sl ik sv sg pl ++ (oW G oa og ++ cW G xa so b ce a hh sg ln mk cs up fo tn w t lo hi me (nI n) qu gu ri re P F z o0 o1)) _ := hP9
  have hD : va_D Ar (mW G A th (nI z) (nI ln) dg f sl ik sv sg pl ++ (oW G oa og ++ cW G xa so b ce a hh sg ln mk cs up fo tn w t lo hi me (nI n) qu gu ri re P F z o0 o1)) := hD9
  refine lv_istore (lv' := [(5, .int (nI 1)), (0, .ref b9), (1, .ref xa), (2, .ref (A 0)), (3, .ref oa), (4, .int (nI (4 * j)))]) hx hb dL_law_781 hl (by decide) rfl (fun ls hl => ?_)
  refine lv_aload_n hx hb dL_law_783 rfl (lv_at hl 3 rfl) ?_
  refine lv_aload_n hx hb dL_law_784 rfl (lv_at hl 1 rfl) ?_
  refine lv_iload hx hb dL_law_785 (lv_at hl 5 rfl) ?_
  refine lv_iconst (v := nI 1) hx hb dL_law_787 (by decide) ?_
  refine lv_iadd hx hb dL_law_788 ?_
  refine lv_cgi (y := nI ((4 * j) + 1)) (nI_add _ _) ?_
  refine va_sld hx hb hXs hbl hbA hS (vp_in_nI (by omega) (by omega)) dL_law_789 ?_
  refine lv_cgi (y := x) (by rw [nI_clamp (by omega)]; exact hp0) ?_
  refine lv_aload_n hx hb dL_law_790 rfl (lv_at hl 1 rfl) ?_
  refine lv_iload hx hb dL_law_791 (lv_at hl 5 rfl) ?_
  refine lv_iconst (v := nI 2) hx hb dL_law_793 (by decide) ?_
  refine lv_iadd hx hb dL_law_794 ?_
  refine lv_cgi (y := nI ((4 * j) + 2)) (nI_add _ _) ?_
  refine va_sld hx hb hXs hbl hbA hS (vp_in_nI (by omega) (by omega)) dL_law_795 ?_
  refine lv_cgi (y := y) (by rw [nI_clamp (by omega)]; exact hp1) ?_
  refine wr_goi (pre := []) (mid := mW G A th (nI z) (nI ln) dg f sl ik sv sg pl) (suf := oW G oa og ++ cW G xa so b ce a hh sg ln mk cs up fo tn w t lo hi me (nI n) qu gu ri re P F z o0 o1) (va_runV (As := [.int x, .int y]) (rest := []) ⟨hx, hb, hml, hown, hts⟩ (c_X7_panelOf_no1 l G _ A th (nI z) (nI ln) dg f sl ik sv sg pl x y hx0) (cwV 2 hts gL_law_X7_panelOf rfl rfl rfl (by decide +kernel) ⟨Nat.le_of_ble_eq_true rfl, Nat.le_of_ble_eq_true rfl⟩) (wV (pre := []) (mid := mW G A th (nI z) (nI ln) dg f sl ik sv sg pl) (suf := oW G oa og ++ cW G xa so b ce a hh sg ln mk cs up fo tn w t lo hi me (nI n) qu gu ri re P F z o0 o1) (va_recv (ws := mW G A th (nI z) (nI ln) dg f sl ik sv sg pl ++ (oW G oa og ++ cW G xa so b ce a hh sg ln mk cs up fo tn w t lo hi me (nI n) qu gu ri re P F z o0 o1)) hK hP (ci := 6) (q0 := 0) rfl rfl) hK hN hP hD) rfl rfl hl.1 rfl (lv_room (Nat.le_of_ble_eq_true rfl)) dL_law_796 ⟨by show 100 + 7 * j + 1 + 0 ≤ 601024; omega, by show 2000 + 64 * j + 6 + 0 ≤ 7293034; omega⟩) hP hD hS hA (fun r7 u7 H locs hw7 hP9 hD9 hS => ?_)
  have hw7 : r7 = nI 0 := hw7
  subst hw7
  have hP : PP G (mW G A (nI 1) (nI z) (nI ln) dg f sl ik sv sg pl ++ (oW G oa og ++ cW G xa so b ce a hh sg ln mk cs up fo tn w t lo hi me (nI n) qu gu ri re P F z o0 o1)) _ := hP9
  have hD : va_D Ar (mW G A (nI 1) (nI z) (nI ln) dg f sl ik sv sg pl ++ (oW G oa og ++ cW G xa so b ce a hh sg ln mk cs up fo tn w t lo hi me (nI n) qu gu ri re P F z o0 o1)) := hD9
  refine lv_istore (lv' := [(6, .int (nI 0)), (5, .int (nI 1)), (0, .ref b9), (1, .ref xa), (2, .ref (A 0)), (3, .ref oa), (4, .int (nI (4 * j)))]) hx hb dL_law_799 hl (by decide) rfl (fun ls hl => ?_)
  refine lv_aload_n hx hb dL_law_801 rfl (lv_at hl 4 rfl) ?_
  refine rd_go (va_runV (As := []) (rest := []) ⟨hx, hb, hml, hown, hts⟩ (c_X7_thrown l G A (nI 1) (nI z) (nI ln) dg f sl ik sv sg pl) (cwV 0 hts gL_law_X7_thrown rfl rfl rfl (by decide +kernel) ⟨Nat.le_of_ble_eq_true rfl, Nat.le_of_ble_eq_true rfl⟩) (rV (ws := mW G A (nI 1) (nI z) (nI ln) dg f sl ik sv sg pl) (va_recv (ws := mW G A (nI 1) (nI z) (nI ln) dg f sl ik sv sg pl ++ (oW G oa og ++ cW G xa so b ce a hh sg ln mk cs up fo tn w t lo hi me (nI n) qu gu ri re P F z o0 o1)) hK hP (ci := 6) (q0 := 0) rfl rfl) hK hN (P_mid (pre := []) (mid := mW G A (nI 1) (nI z) (nI ln) dg f sl ik sv sg pl) (suf := oW G oa og ++ cW G xa so b ce a hh sg ln mk cs up fo tn w t lo hi me (nI n) qu gu ri re P F z o0 o1) hP)) rfl rfl hl.1 rfl (lv_room (Nat.le_of_ble_eq_true rfl)) dL_law_802 ⟨by show 100 + 7 * j + 1 + 0 + 0 ≤ 601024; omega, by show 2000 + 64 * j + 6 + 0 + 0 ≤ 7293034; omega⟩) ?_
  refine lv_iload hx hb dL_law_805 (lv_at hl 1 rfl) ?_
  refine lv_icmp_eq (tgt := 812) hx hb dL_law_807 (by decide) (fun c_807 => ?_) (fun c_807 => by exact absurd c_807 (by decide))
  refine lv_iload hx hb dL_law_812 (lv_at hl 1 rfl) ?_
  refine lv_if_ne (tgt := 829) hx hb dL_law_814 (by decide) (fun c_814 => ?_) (fun c_814 => by exact absurd c_814 (by decide))
  refine lv_goto (tgt := 1297) hx hb dL_law_829 (by decide) ?_
  refine lv_iinc (v := nI (4 * (j + 1))) (lv' := [(4, .int (nI (4 * (j + 1)))), (6, .int (nI 0)), (5, .int (nI 1)), (0, .ref b9), (1, .ref xa), (2, .ref (A 0)), (3, .ref oa)]) hx hb dL_law_1297 hl (k := 6) rfl (iinc4 (4 * j)) (by decide) rfl (fun ls hl => ?_)
  refine lv_goto (tgt := 23) hx hb dL_law_1300 (by decide) ?_
  refine W.widen (k := 100 + 7 * (j + 1)) (n := 2000 + 64 * (j + 1)) (by omega) (by omega) ?_
  exact hHd _ _ _ ⟨og, sg, ln, mk, cs, up, fo, tn, w, t, lo, hi, me, nI n, qu, gu, ri, re, P, F, z, o0, o1, nI 1, dg, f, sl, ik, sv, pl, rfl, hln, hz, (RG_mono (Nat.le_succ _) (RG_of hRS)), (cen_of hn hcv), (HI_mono (Nat.le_succ _) hHI), (SLr_mono (Nat.le_succ _) hs0), (SLr_mono (Nat.le_succ _) hs1)⟩ hP hD hS ls (lv_sub hl [3, 4, 5, 6, 0] rfl)

set_option maxHeartbeats 8000000 in
set_option maxRecDepth 100000 in
theorem L_panelOf_no2 {p : Program} {l : Launch} {e : Env} {s : State} {m : MethodId} {args : Array Value} {below : List Frame} {meth : Method} {cd : Code} {Q : State → Prop} {G : GG} {Ar : Nat → Prop} {b9 L : Nat} {xs : Nat → Int32} {xa so oa : Nat} {b ce a hh A : Nat → Nat} (hE : LE9 p l s m args cd G Ar b9 L xs) {j : Nat} (hj : 4 * j + 4 ≤ L) (hL : L ≤ 2048) (hHd : LH p l e s m args below meth cd Q G Ar b9 xa so oa b ce a hh A (j + 1))
    (og : Nat → Int64) (sg : Nat → Int32) (ln : Nat) (hln : ln ≤ 60) (mk : Nat → Int32) (cs up fo tn : Int32) (w t lo hi me : Nat → Int32) (n : Nat) (qu gu ri re : Int32) (P : Nat → Nat → Nat) (F : Nat → Nat → Nat → Int32) (z : Nat) (hz : z ≤ 6) (o0 : SLO) (o1 : SLO) (th : Int32) (dg : Int64) (f sl ik sv pl : Nat → Int32) (q : Nat) (hq : q < 10) (y : Int32) (hw0 : ¬ inB y (nI 0) (nI 2))
    (hRS : RS j fo tn w t lo hi me n qu gu ri re f) (hcv : cenV (qS tn lo hi me n) mk cs up) (hHI : HI j z F sv) (hs0 : SLr j o0 (ik 0) sl) (hs1 : SLr j o1 (ik 1) (fun j => sl (58 + j))) (hp0 : xs (4 * j + 1) = nI q) (hp1 : xs (4 * j + 2) = y)
    {H : Heap} {locs : List Loc} (hP : PP G (mW G A th (nI z) (nI ln) dg f sl ik sv sg pl ++ (oW G oa og ++ cW G xa so b ce a hh sg ln mk cs up fo tn w t lo hi me (nI n) qu gu ri re P F z o0 o1)) H) (hD : va_D Ar (mW G A th (nI z) (nI ln) dg f sl ik sv sg pl ++ (oW G oa og ++ cW G xa so b ce a hh sg ln mk cs up fo tn w t lo hi me (nI n) qu gu ri re P F z o0 o1))) (hS : va_S Ar s.heap H locs) {ls : Array Slot} (hl : lv_has ls 9 [(0, .ref b9), (1, .ref xa), (2, .ref (A 0)), (3, .ref oa), (4, .int (nI (4 * j)))]) : W p l e room_1 s m args below meth cd H locs (100 + 7 * j) (2000 + 64 * j) Q (F0 m 764 ls []) := by
  obtain ⟨hx, hb, hml, hown, hts, hfl, ⟨hK, hN, hX, hZ0⟩, hA, hXs, hbl, hbA⟩ := id hE
  have hn : n ≤ 12 := hRS.1.1
  have hn17 : f 17 = nI n := hRS.2.1.2.2.1
  have hT : okP t := hRS.2.2.1.2.1
  have hvL : okL lo hi := hRS.2.2.1.2.2.1
  have hvA : okA f := hRS.2.2.1.2.2.2
  have htF : okT f := fun i hi => by rw [hRS.2.1.2.2.2.2 i hi]; exact hT i hi
  refine lv_aload_n hx hb dL_law_764 rfl (lv_at hl 1 rfl) ?_
  refine lv_aload_n hx hb dL_law_765 rfl (lv_at hl 0 rfl) ?_
  refine lv_iload hx hb dL_law_766 (lv_at hl 4 rfl) ?_
  refine lv_iconst (v := nI 1) hx hb dL_law_768 (by decide) ?_
  refine lv_iadd hx hb dL_law_769 ?_
  refine lv_cgi (y := nI ((4 * j) + 1)) (nI_add _ _) ?_
  refine va_sld hx hb hXs hbl hbA hS (vp_in_nI (by omega) (by omega)) dL_law_770 ?_
  refine lv_cgi (y := nI q) (by rw [nI_clamp (by omega)]; exact hp0) ?_
  refine lv_aload_n hx hb dL_law_771 rfl (lv_at hl 0 rfl) ?_
  refine lv_iload hx hb dL_law_772 (lv_at hl 4 rfl) ?_
  refine lv_iconst (v := nI 2) hx hb dL_law_774 (by decide) ?_
  refine lv_iadd hx hb dL_law_775 ?_
  refine lv_cgi (y := nI ((4 * j) + 2)) (nI_add _ _) ?_
  refine va_sld hx hb hXs hbl hbA hS (vp_in_nI (by omega) (by omega)) dL_law_776 ?_
  refine lv_cgi (y := y) (by rw [nI_clamp (by omega)]; exact hp1) ?_
  refine lv_aload_n hx hb dL_law_777 rfl (lv_at hl 3 rfl) ?_
  refine wr_g1i (pre := mW G A th (nI z) (nI ln) dg f sl ik sv sg pl) (mid := oW G oa og ++ cW G xa so b ce a hh sg ln mk cs up fo tn w t lo hi me (nI n) qu gu ri re P F z o0 o1) (vx_runSW (As := [.ref xa, .int (nI q), .int y, .ref oa]) (rest := []) ⟨hx, hb, hml, hown, hts⟩ (w_panelOf_t2 l G _ xa oa _ _ og (nI q) y (t_X6_panelOf_no2 l hfl G xa _ _ q hq y hw0)) (vx_cwSW 4 hts gL_law_L_panelOf rfl rfl rfl (by decide +kernel) ⟨Nat.le_of_ble_eq_true rfl, Nat.le_of_ble_eq_true rfl⟩) (lxS1 (pre := mW G A th (nI z) (nI ln) dg f sl ik sv sg pl) (mid := oW G oa og ++ cW G xa so b ce a hh sg ln mk cs up fo tn w t lo hi me (nI n) qu gu ri re P F z o0 o1) hK hN hX (XZ_at hZ0 hS hA) hP hD) rfl rfl hl.1 rfl (lv_room (Nat.le_of_ble_eq_true rfl)) dL_law_778 ⟨by show 100 + 7 * j + 1 ≤ 601024; omega, by show 2000 + 64 * j + 6 ≤ 7293034; omega⟩) hP hD hS hA (fun r6 u6 H locs hw6 hP9 hD9 hS => ?_)
  have hw6 : r6 = nI 2 := hw6
  subst hw6
  have hP : PP G (mW G A th (nI z) (nI ln) dg f sl ik sv sg pl ++ (oW G oa og ++ cW G xa so b ce a hh sg ln mk cs up fo tn w t lo hi me (nI n) qu gu ri re P F z o0 o1)) _ := hP9
  have hD : va_D Ar (mW G A th (nI z) (nI ln) dg f sl ik sv sg pl ++ (oW G oa og ++ cW G xa so b ce a hh sg ln mk cs up fo tn w t lo hi me (nI n) qu gu ri re P F z o0 o1)) := hD9
  refine lv_istore (lv' := [(5, .int (nI 2)), (0, .ref b9), (1, .ref xa), (2, .ref (A 0)), (3, .ref oa), (4, .int (nI (4 * j)))]) hx hb dL_law_781 hl (by decide) rfl (fun ls hl => ?_)
  refine lv_aload_n hx hb dL_law_783 rfl (lv_at hl 3 rfl) ?_
  refine lv_aload_n hx hb dL_law_784 rfl (lv_at hl 1 rfl) ?_
  refine lv_iload hx hb dL_law_785 (lv_at hl 5 rfl) ?_
  refine lv_iconst (v := nI 1) hx hb dL_law_787 (by decide) ?_
  refine lv_iadd hx hb dL_law_788 ?_
  refine lv_cgi (y := nI ((4 * j) + 1)) (nI_add _ _) ?_
  refine va_sld hx hb hXs hbl hbA hS (vp_in_nI (by omega) (by omega)) dL_law_789 ?_
  refine lv_cgi (y := nI q) (by rw [nI_clamp (by omega)]; exact hp0) ?_
  refine lv_aload_n hx hb dL_law_790 rfl (lv_at hl 1 rfl) ?_
  refine lv_iload hx hb dL_law_791 (lv_at hl 5 rfl) ?_
  refine lv_iconst (v := nI 2) hx hb dL_law_793 (by decide) ?_
  refine lv_iadd hx hb dL_law_794 ?_
  refine lv_cgi (y := nI ((4 * j) + 2)) (nI_add _ _) ?_
  refine va_sld hx hb hXs hbl hbA hS (vp_in_nI (by omega) (by omega)) dL_law_795 ?_
  refine lv_cgi (y := y) (by rw [nI_clamp (by omega)]; exact hp1) ?_
  refine wr_goi (pre := []) (mid := mW G A th (nI z) (nI ln) dg f sl ik sv sg pl) (suf := oW G oa og ++ cW G xa so b ce a hh sg ln mk cs up fo tn w t lo hi me (nI n) qu gu ri re P F z o0 o1) (va_runV (As := [.int (nI q), .int y]) (rest := []) ⟨hx, hb, hml, hown, hts⟩ (c_X7_panelOf_no2 l G _ A th (nI z) (nI ln) dg f sl ik sv sg pl (nI q) y (inB_n (Nat.zero_le _) (by omega) (by decide)) hw0) (cwV 2 hts gL_law_X7_panelOf rfl rfl rfl (by decide +kernel) ⟨Nat.le_of_ble_eq_true rfl, Nat.le_of_ble_eq_true rfl⟩) (wV (pre := []) (mid := mW G A th (nI z) (nI ln) dg f sl ik sv sg pl) (suf := oW G oa og ++ cW G xa so b ce a hh sg ln mk cs up fo tn w t lo hi me (nI n) qu gu ri re P F z o0 o1) (va_recv (ws := mW G A th (nI z) (nI ln) dg f sl ik sv sg pl ++ (oW G oa og ++ cW G xa so b ce a hh sg ln mk cs up fo tn w t lo hi me (nI n) qu gu ri re P F z o0 o1)) hK hP (ci := 6) (q0 := 0) rfl rfl) hK hN hP hD) rfl rfl hl.1 rfl (lv_room (Nat.le_of_ble_eq_true rfl)) dL_law_796 ⟨by show 100 + 7 * j + 1 + 0 ≤ 601024; omega, by show 2000 + 64 * j + 6 + 0 ≤ 7293034; omega⟩) hP hD hS hA (fun r7 u7 H locs hw7 hP9 hD9 hS => ?_)
  have hw7 : r7 = nI 0 := hw7
  subst hw7
  have hP : PP G (mW G A (nI 2) (nI z) (nI ln) dg f sl ik sv sg pl ++ (oW G oa og ++ cW G xa so b ce a hh sg ln mk cs up fo tn w t lo hi me (nI n) qu gu ri re P F z o0 o1)) _ := hP9
  have hD : va_D Ar (mW G A (nI 2) (nI z) (nI ln) dg f sl ik sv sg pl ++ (oW G oa og ++ cW G xa so b ce a hh sg ln mk cs up fo tn w t lo hi me (nI n) qu gu ri re P F z o0 o1)) := hD9
  refine lv_istore (lv' := [(6, .int (nI 0)), (5, .int (nI 2)), (0, .ref b9), (1, .ref xa), (2, .ref (A 0)), (3, .ref oa), (4, .int (nI (4 * j)))]) hx hb dL_law_799 hl (by decide) rfl (fun ls hl => ?_)
  refine lv_aload_n hx hb dL_law_801 rfl (lv_at hl 4 rfl) ?_
  refine rd_go (va_runV (As := []) (rest := []) ⟨hx, hb, hml, hown, hts⟩ (c_X7_thrown l G A (nI 2) (nI z) (nI ln) dg f sl ik sv sg pl) (cwV 0 hts gL_law_X7_thrown rfl rfl rfl (by decide +kernel) ⟨Nat.le_of_ble_eq_true rfl, Nat.le_of_ble_eq_true rfl⟩) (rV (ws := mW G A (nI 2) (nI z) (nI ln) dg f sl ik sv sg pl) (va_recv (ws := mW G A (nI 2) (nI z) (nI ln) dg f sl ik sv sg pl ++ (oW G oa og ++ cW G xa so b ce a hh sg ln mk cs up fo tn w t lo hi me (nI n) qu gu ri re P F z o0 o1)) hK hP (ci := 6) (q0 := 0) rfl rfl) hK hN (P_mid (pre := []) (mid := mW G A (nI 2) (nI z) (nI ln) dg f sl ik sv sg pl) (suf := oW G oa og ++ cW G xa so b ce a hh sg ln mk cs up fo tn w t lo hi me (nI n) qu gu ri re P F z o0 o1) hP)) rfl rfl hl.1 rfl (lv_room (Nat.le_of_ble_eq_true rfl)) dL_law_802 ⟨by show 100 + 7 * j + 1 + 0 + 0 ≤ 601024; omega, by show 2000 + 64 * j + 6 + 0 + 0 ≤ 7293034; omega⟩) ?_
  refine lv_iload hx hb dL_law_805 (lv_at hl 1 rfl) ?_
  refine lv_icmp_eq (tgt := 812) hx hb dL_law_807 (by decide) (fun c_807 => ?_) (fun c_807 => by exact absurd c_807 (by decide))
  refine lv_iload hx hb dL_law_812 (lv_at hl 1 rfl) ?_
  refine lv_if_ne (tgt := 829) hx hb dL_law_814 (by decide) (fun c_814 => ?_) (fun c_814 => by exact absurd c_814 (by decide))
  refine lv_goto (tgt := 1297) hx hb dL_law_829 (by decide) ?_
  refine lv_iinc (v := nI (4 * (j + 1))) (lv' := [(4, .int (nI (4 * (j + 1)))), (6, .int (nI 0)), (5, .int (nI 2)), (0, .ref b9), (1, .ref xa), (2, .ref (A 0)), (3, .ref oa)]) hx hb dL_law_1297 hl (k := 6) rfl (iinc4 (4 * j)) (by decide) rfl (fun ls hl => ?_)
  refine lv_goto (tgt := 23) hx hb dL_law_1300 (by decide) ?_
  refine W.widen (k := 100 + 7 * (j + 1)) (n := 2000 + 64 * (j + 1)) (by omega) (by omega) ?_
  exact hHd _ _ _ ⟨og, sg, ln, mk, cs, up, fo, tn, w, t, lo, hi, me, nI n, qu, gu, ri, re, P, F, z, o0, o1, nI 2, dg, f, sl, ik, sv, pl, rfl, hln, hz, (RG_mono (Nat.le_succ _) (RG_of hRS)), (cen_of hn hcv), (HI_mono (Nat.le_succ _) hHI), (SLr_mono (Nat.le_succ _) hs0), (SLr_mono (Nat.le_succ _) hs1)⟩ hP hD hS ls (lv_sub hl [3, 4, 5, 6, 0] rfl)

set_option maxHeartbeats 8000000 in
set_option maxRecDepth 100000 in
theorem L_creaseOf_no1 {p : Program} {l : Launch} {e : Env} {s : State} {m : MethodId} {args : Array Value} {below : List Frame} {meth : Method} {cd : Code} {Q : State → Prop} {G : GG} {Ar : Nat → Prop} {b9 L : Nat} {xs : Nat → Int32} {xa so oa : Nat} {b ce a hh A : Nat → Nat} (hE : LE9 p l s m args cd G Ar b9 L xs) {j : Nat} (hj : 4 * j + 4 ≤ L) (hL : L ≤ 2048) (hHd : LH p l e s m args below meth cd Q G Ar b9 xa so oa b ce a hh A (j + 1))
    (og : Nat → Int64) (sg : Nat → Int32) (ln : Nat) (hln : ln ≤ 60) (mk : Nat → Int32) (cs up fo tn : Int32) (w t lo hi me : Nat → Int32) (n : Nat) (qu gu ri re : Int32) (P : Nat → Nat → Nat) (F : Nat → Nat → Nat → Int32) (z : Nat) (hz : z ≤ 6) (o0 : SLO) (o1 : SLO) (th : Int32) (dg : Int64) (f sl ik sv pl : Nat → Int32) (x y : Int32) (hx0 : ¬ inB x (nI 0) (nI 8))
    (hRS : RS j fo tn w t lo hi me n qu gu ri re f) (hcv : cenV (qS tn lo hi me n) mk cs up) (hHI : HI j z F sv) (hs0 : SLr j o0 (ik 0) sl) (hs1 : SLr j o1 (ik 1) (fun j => sl (58 + j))) (hp0 : xs (4 * j + 1) = x) (hp1 : xs (4 * j + 2) = y)
    {H : Heap} {locs : List Loc} (hP : PP G (mW G A th (nI z) (nI ln) dg f sl ik sv sg pl ++ (oW G oa og ++ cW G xa so b ce a hh sg ln mk cs up fo tn w t lo hi me (nI n) qu gu ri re P F z o0 o1)) H) (hD : va_D Ar (mW G A th (nI z) (nI ln) dg f sl ik sv sg pl ++ (oW G oa og ++ cW G xa so b ce a hh sg ln mk cs up fo tn w t lo hi me (nI n) qu gu ri re P F z o0 o1))) (hS : va_S Ar s.heap H locs) {ls : Array Slot} (hl : lv_has ls 9 [(0, .ref b9), (1, .ref xa), (2, .ref (A 0)), (3, .ref oa), (4, .int (nI (4 * j)))]) : W p l e room_1 s m args below meth cd H locs (100 + 7 * j) (2000 + 64 * j) Q (F0 m 832 ls []) := by
  obtain ⟨hx, hb, hml, hown, hts, hfl, ⟨hK, hN, hX, hZ0⟩, hA, hXs, hbl, hbA⟩ := id hE
  have hn : n ≤ 12 := hRS.1.1
  have hn17 : f 17 = nI n := hRS.2.1.2.2.1
  have hT : okP t := hRS.2.2.1.2.1
  have hvL : okL lo hi := hRS.2.2.1.2.2.1
  have hvA : okA f := hRS.2.2.1.2.2.2
  have htF : okT f := fun i hi => by rw [hRS.2.1.2.2.2.2 i hi]; exact hT i hi
  refine lv_aload_n hx hb dL_law_832 rfl (lv_at hl 1 rfl) ?_
  refine lv_aload_n hx hb dL_law_833 rfl (lv_at hl 0 rfl) ?_
  refine lv_iload hx hb dL_law_834 (lv_at hl 4 rfl) ?_
  refine lv_iconst (v := nI 1) hx hb dL_law_836 (by decide) ?_
  refine lv_iadd hx hb dL_law_837 ?_
  refine lv_cgi (y := nI ((4 * j) + 1)) (nI_add _ _) ?_
  refine va_sld hx hb hXs hbl hbA hS (vp_in_nI (by omega) (by omega)) dL_law_838 ?_
  refine lv_cgi (y := x) (by rw [nI_clamp (by omega)]; exact hp0) ?_
  refine lv_aload_n hx hb dL_law_839 rfl (lv_at hl 0 rfl) ?_
  refine lv_iload hx hb dL_law_840 (lv_at hl 4 rfl) ?_
  refine lv_iconst (v := nI 2) hx hb dL_law_842 (by decide) ?_
  refine lv_iadd hx hb dL_law_843 ?_
  refine lv_cgi (y := nI ((4 * j) + 2)) (nI_add _ _) ?_
  refine va_sld hx hb hXs hbl hbA hS (vp_in_nI (by omega) (by omega)) dL_law_844 ?_
  refine lv_cgi (y := y) (by rw [nI_clamp (by omega)]; exact hp1) ?_
  refine lv_aload_n hx hb dL_law_845 rfl (lv_at hl 3 rfl) ?_
  refine wr_g1i (pre := mW G A th (nI z) (nI ln) dg f sl ik sv sg pl) (mid := oW G oa og ++ cW G xa so b ce a hh sg ln mk cs up fo tn w t lo hi me (nI n) qu gu ri re P F z o0 o1) (vx_runSW (As := [.ref xa, .int x, .int y, .ref oa]) (rest := []) ⟨hx, hb, hml, hown, hts⟩ (w_creaseOf_t1 l G _ xa oa _ _ og x y (t_X6_creaseOf_no1 l hfl G xa _ _ x y hx0)) (vx_cwSW 4 hts gL_law_L_creaseOf rfl rfl rfl (by decide +kernel) ⟨Nat.le_of_ble_eq_true rfl, Nat.le_of_ble_eq_true rfl⟩) (lxS1 (pre := mW G A th (nI z) (nI ln) dg f sl ik sv sg pl) (mid := oW G oa og ++ cW G xa so b ce a hh sg ln mk cs up fo tn w t lo hi me (nI n) qu gu ri re P F z o0 o1) hK hN hX (XZ_at hZ0 hS hA) hP hD) rfl rfl hl.1 rfl (lv_room (Nat.le_of_ble_eq_true rfl)) dL_law_846 ⟨by show 100 + 7 * j + 1 ≤ 601024; omega, by show 2000 + 64 * j + 6 ≤ 7293034; omega⟩) hP hD hS hA (fun r6 u6 H locs hw6 hP9 hD9 hS => ?_)
  have hw6 : r6 = nI 1 := hw6
  subst hw6
  have hP : PP G (mW G A th (nI z) (nI ln) dg f sl ik sv sg pl ++ (oW G oa og ++ cW G xa so b ce a hh sg ln mk cs up fo tn w t lo hi me (nI n) qu gu ri re P F z o0 o1)) _ := hP9
  have hD : va_D Ar (mW G A th (nI z) (nI ln) dg f sl ik sv sg pl ++ (oW G oa og ++ cW G xa so b ce a hh sg ln mk cs up fo tn w t lo hi me (nI n) qu gu ri re P F z o0 o1)) := hD9
  refine lv_istore (lv' := [(5, .int (nI 1)), (0, .ref b9), (1, .ref xa), (2, .ref (A 0)), (3, .ref oa), (4, .int (nI (4 * j)))]) hx hb dL_law_849 hl (by decide) rfl (fun ls hl => ?_)
  refine lv_aload_n hx hb dL_law_851 rfl (lv_at hl 3 rfl) ?_
  refine lv_aload_n hx hb dL_law_852 rfl (lv_at hl 1 rfl) ?_
  refine lv_iload hx hb dL_law_853 (lv_at hl 5 rfl) ?_
  refine lv_iconst (v := nI 1) hx hb dL_law_855 (by decide) ?_
  refine lv_iadd hx hb dL_law_856 ?_
  refine lv_cgi (y := nI ((4 * j) + 1)) (nI_add _ _) ?_
  refine va_sld hx hb hXs hbl hbA hS (vp_in_nI (by omega) (by omega)) dL_law_857 ?_
  refine lv_cgi (y := x) (by rw [nI_clamp (by omega)]; exact hp0) ?_
  refine lv_aload_n hx hb dL_law_858 rfl (lv_at hl 1 rfl) ?_
  refine lv_iload hx hb dL_law_859 (lv_at hl 5 rfl) ?_
  refine lv_iconst (v := nI 2) hx hb dL_law_861 (by decide) ?_
  refine lv_iadd hx hb dL_law_862 ?_
  refine lv_cgi (y := nI ((4 * j) + 2)) (nI_add _ _) ?_
  refine va_sld hx hb hXs hbl hbA hS (vp_in_nI (by omega) (by omega)) dL_law_863 ?_
  refine lv_cgi (y := y) (by rw [nI_clamp (by omega)]; exact hp1) ?_
  refine wr_goi (pre := []) (mid := mW G A th (nI z) (nI ln) dg f sl ik sv sg pl) (suf := oW G oa og ++ cW G xa so b ce a hh sg ln mk cs up fo tn w t lo hi me (nI n) qu gu ri re P F z o0 o1) (va_runV (As := [.int x, .int y]) (rest := []) ⟨hx, hb, hml, hown, hts⟩ (c_X7_creaseOf_no1 l G _ A th (nI z) (nI ln) dg f sl ik sv sg pl x y hx0) (cwV 2 hts gL_law_X7_creaseOf rfl rfl rfl (by decide +kernel) ⟨Nat.le_of_ble_eq_true rfl, Nat.le_of_ble_eq_true rfl⟩) (wV (pre := []) (mid := mW G A th (nI z) (nI ln) dg f sl ik sv sg pl) (suf := oW G oa og ++ cW G xa so b ce a hh sg ln mk cs up fo tn w t lo hi me (nI n) qu gu ri re P F z o0 o1) (va_recv (ws := mW G A th (nI z) (nI ln) dg f sl ik sv sg pl ++ (oW G oa og ++ cW G xa so b ce a hh sg ln mk cs up fo tn w t lo hi me (nI n) qu gu ri re P F z o0 o1)) hK hP (ci := 6) (q0 := 0) rfl rfl) hK hN hP hD) rfl rfl hl.1 rfl (lv_room (Nat.le_of_ble_eq_true rfl)) dL_law_864 ⟨by show 100 + 7 * j + 1 + 0 ≤ 601024; omega, by show 2000 + 64 * j + 6 + 0 ≤ 7293034; omega⟩) hP hD hS hA (fun r7 u7 H locs hw7 hP9 hD9 hS => ?_)
  have hw7 : r7 = nI 0 := hw7
  subst hw7
  have hP : PP G (mW G A (nI 1) (nI z) (nI ln) dg f sl ik sv sg pl ++ (oW G oa og ++ cW G xa so b ce a hh sg ln mk cs up fo tn w t lo hi me (nI n) qu gu ri re P F z o0 o1)) _ := hP9
  have hD : va_D Ar (mW G A (nI 1) (nI z) (nI ln) dg f sl ik sv sg pl ++ (oW G oa og ++ cW G xa so b ce a hh sg ln mk cs up fo tn w t lo hi me (nI n) qu gu ri re P F z o0 o1)) := hD9
  refine lv_istore (lv' := [(6, .int (nI 0)), (5, .int (nI 1)), (0, .ref b9), (1, .ref xa), (2, .ref (A 0)), (3, .ref oa), (4, .int (nI (4 * j)))]) hx hb dL_law_867 hl (by decide) rfl (fun ls hl => ?_)
  refine lv_aload_n hx hb dL_law_869 rfl (lv_at hl 4 rfl) ?_
  refine rd_go (va_runV (As := []) (rest := []) ⟨hx, hb, hml, hown, hts⟩ (c_X7_thrown l G A (nI 1) (nI z) (nI ln) dg f sl ik sv sg pl) (cwV 0 hts gL_law_X7_thrown rfl rfl rfl (by decide +kernel) ⟨Nat.le_of_ble_eq_true rfl, Nat.le_of_ble_eq_true rfl⟩) (rV (ws := mW G A (nI 1) (nI z) (nI ln) dg f sl ik sv sg pl) (va_recv (ws := mW G A (nI 1) (nI z) (nI ln) dg f sl ik sv sg pl ++ (oW G oa og ++ cW G xa so b ce a hh sg ln mk cs up fo tn w t lo hi me (nI n) qu gu ri re P F z o0 o1)) hK hP (ci := 6) (q0 := 0) rfl rfl) hK hN (P_mid (pre := []) (mid := mW G A (nI 1) (nI z) (nI ln) dg f sl ik sv sg pl) (suf := oW G oa og ++ cW G xa so b ce a hh sg ln mk cs up fo tn w t lo hi me (nI n) qu gu ri re P F z o0 o1) hP)) rfl rfl hl.1 rfl (lv_room (Nat.le_of_ble_eq_true rfl)) dL_law_870 ⟨by show 100 + 7 * j + 1 + 0 + 0 ≤ 601024; omega, by show 2000 + 64 * j + 6 + 0 + 0 ≤ 7293034; omega⟩) ?_
  refine lv_iload hx hb dL_law_873 (lv_at hl 1 rfl) ?_
  refine lv_icmp_eq (tgt := 880) hx hb dL_law_875 (by decide) (fun c_875 => ?_) (fun c_875 => by exact absurd c_875 (by decide))
  refine lv_iload hx hb dL_law_880 (lv_at hl 1 rfl) ?_
  refine lv_if_ne (tgt := 897) hx hb dL_law_882 (by decide) (fun c_882 => ?_) (fun c_882 => by exact absurd c_882 (by decide))
  refine lv_goto (tgt := 1297) hx hb dL_law_897 (by decide) ?_
  refine lv_iinc (v := nI (4 * (j + 1))) (lv' := [(4, .int (nI (4 * (j + 1)))), (6, .int (nI 0)), (5, .int (nI 1)), (0, .ref b9), (1, .ref xa), (2, .ref (A 0)), (3, .ref oa)]) hx hb dL_law_1297 hl (k := 6) rfl (iinc4 (4 * j)) (by decide) rfl (fun ls hl => ?_)
  refine lv_goto (tgt := 23) hx hb dL_law_1300 (by decide) ?_
  refine W.widen (k := 100 + 7 * (j + 1)) (n := 2000 + 64 * (j + 1)) (by omega) (by omega) ?_
  exact hHd _ _ _ ⟨og, sg, ln, mk, cs, up, fo, tn, w, t, lo, hi, me, nI n, qu, gu, ri, re, P, F, z, o0, o1, nI 1, dg, f, sl, ik, sv, pl, rfl, hln, hz, (RG_mono (Nat.le_succ _) (RG_of hRS)), (cen_of hn hcv), (HI_mono (Nat.le_succ _) hHI), (SLr_mono (Nat.le_succ _) hs0), (SLr_mono (Nat.le_succ _) hs1)⟩ hP hD hS ls (lv_sub hl [3, 4, 5, 6, 0] rfl)

set_option maxHeartbeats 8000000 in
set_option maxRecDepth 100000 in
theorem L_creaseOf_no2 {p : Program} {l : Launch} {e : Env} {s : State} {m : MethodId} {args : Array Value} {below : List Frame} {meth : Method} {cd : Code} {Q : State → Prop} {G : GG} {Ar : Nat → Prop} {b9 L : Nat} {xs : Nat → Int32} {xa so oa : Nat} {b ce a hh A : Nat → Nat} (hE : LE9 p l s m args cd G Ar b9 L xs) {j : Nat} (hj : 4 * j + 4 ≤ L) (hL : L ≤ 2048) (hHd : LH p l e s m args below meth cd Q G Ar b9 xa so oa b ce a hh A (j + 1))
    (og : Nat → Int64) (sg : Nat → Int32) (ln : Nat) (hln : ln ≤ 60) (mk : Nat → Int32) (cs up fo tn : Int32) (w t lo hi me : Nat → Int32) (n : Nat) (qu gu ri re : Int32) (P : Nat → Nat → Nat) (F : Nat → Nat → Nat → Int32) (z : Nat) (hz : z ≤ 6) (o0 : SLO) (o1 : SLO) (th : Int32) (dg : Int64) (f sl ik sv pl : Nat → Int32) (q : Nat) (hq : q < 9) (y : Int32) (hw0 : ¬ inB y (nI 0) (nI 3))
    (hRS : RS j fo tn w t lo hi me n qu gu ri re f) (hcv : cenV (qS tn lo hi me n) mk cs up) (hHI : HI j z F sv) (hs0 : SLr j o0 (ik 0) sl) (hs1 : SLr j o1 (ik 1) (fun j => sl (58 + j))) (hp0 : xs (4 * j + 1) = nI q) (hp1 : xs (4 * j + 2) = y)
    {H : Heap} {locs : List Loc} (hP : PP G (mW G A th (nI z) (nI ln) dg f sl ik sv sg pl ++ (oW G oa og ++ cW G xa so b ce a hh sg ln mk cs up fo tn w t lo hi me (nI n) qu gu ri re P F z o0 o1)) H) (hD : va_D Ar (mW G A th (nI z) (nI ln) dg f sl ik sv sg pl ++ (oW G oa og ++ cW G xa so b ce a hh sg ln mk cs up fo tn w t lo hi me (nI n) qu gu ri re P F z o0 o1))) (hS : va_S Ar s.heap H locs) {ls : Array Slot} (hl : lv_has ls 9 [(0, .ref b9), (1, .ref xa), (2, .ref (A 0)), (3, .ref oa), (4, .int (nI (4 * j)))]) : W p l e room_1 s m args below meth cd H locs (100 + 7 * j) (2000 + 64 * j) Q (F0 m 832 ls []) := by
  obtain ⟨hx, hb, hml, hown, hts, hfl, ⟨hK, hN, hX, hZ0⟩, hA, hXs, hbl, hbA⟩ := id hE
  have hn : n ≤ 12 := hRS.1.1
  have hn17 : f 17 = nI n := hRS.2.1.2.2.1
  have hT : okP t := hRS.2.2.1.2.1
  have hvL : okL lo hi := hRS.2.2.1.2.2.1
  have hvA : okA f := hRS.2.2.1.2.2.2
  have htF : okT f := fun i hi => by rw [hRS.2.1.2.2.2.2 i hi]; exact hT i hi
  refine lv_aload_n hx hb dL_law_832 rfl (lv_at hl 1 rfl) ?_
  refine lv_aload_n hx hb dL_law_833 rfl (lv_at hl 0 rfl) ?_
  refine lv_iload hx hb dL_law_834 (lv_at hl 4 rfl) ?_
  refine lv_iconst (v := nI 1) hx hb dL_law_836 (by decide) ?_
  refine lv_iadd hx hb dL_law_837 ?_
  refine lv_cgi (y := nI ((4 * j) + 1)) (nI_add _ _) ?_
  refine va_sld hx hb hXs hbl hbA hS (vp_in_nI (by omega) (by omega)) dL_law_838 ?_
  refine lv_cgi (y := nI q) (by rw [nI_clamp (by omega)]; exact hp0) ?_
  refine lv_aload_n hx hb dL_law_839 rfl (lv_at hl 0 rfl) ?_
  refine lv_iload hx hb dL_law_840 (lv_at hl 4 rfl) ?_
  refine lv_iconst (v := nI 2) hx hb dL_law_842 (by decide) ?_
  refine lv_iadd hx hb dL_law_843 ?_
  refine lv_cgi (y := nI ((4 * j) + 2)) (nI_add _ _) ?_
  refine va_sld hx hb hXs hbl hbA hS (vp_in_nI (by omega) (by omega)) dL_law_844 ?_
  refine lv_cgi (y := y) (by rw [nI_clamp (by omega)]; exact hp1) ?_
  refine lv_aload_n hx hb dL_law_845 rfl (lv_at hl 3 rfl) ?_
  refine wr_g1i (pre := mW G A th (nI z) (nI ln) dg f sl ik sv sg pl) (mid := oW G oa og ++ cW G xa so b ce a hh sg ln mk cs up fo tn w t lo hi me (nI n) qu gu ri re P F z o0 o1) (vx_runSW (As := [.ref xa, .int (nI q), .int y, .ref oa]) (rest := []) ⟨hx, hb, hml, hown, hts⟩ (w_creaseOf_t2 l G _ xa oa _ _ og (nI q) y (t_X6_creaseOf_no2 l hfl G xa _ _ q hq y hw0)) (vx_cwSW 4 hts gL_law_L_creaseOf rfl rfl rfl (by decide +kernel) ⟨Nat.le_of_ble_eq_true rfl, Nat.le_of_ble_eq_true rfl⟩) (lxS1 (pre := mW G A th (nI z) (nI ln) dg f sl ik sv sg pl) (mid := oW G oa og ++ cW G xa so b ce a hh sg ln mk cs up fo tn w t lo hi me (nI n) qu gu ri re P F z o0 o1) hK hN hX (XZ_at hZ0 hS hA) hP hD) rfl rfl hl.1 rfl (lv_room (Nat.le_of_ble_eq_true rfl)) dL_law_846 ⟨by show 100 + 7 * j + 1 ≤ 601024; omega, by show 2000 + 64 * j + 6 ≤ 7293034; omega⟩) hP hD hS hA (fun r6 u6 H locs hw6 hP9 hD9 hS => ?_)
  have hw6 : r6 = nI 2 := hw6
  subst hw6
  have hP : PP G (mW G A th (nI z) (nI ln) dg f sl ik sv sg pl ++ (oW G oa og ++ cW G xa so b ce a hh sg ln mk cs up fo tn w t lo hi me (nI n) qu gu ri re P F z o0 o1)) _ := hP9
  have hD : va_D Ar (mW G A th (nI z) (nI ln) dg f sl ik sv sg pl ++ (oW G oa og ++ cW G xa so b ce a hh sg ln mk cs up fo tn w t lo hi me (nI n) qu gu ri re P F z o0 o1)) := hD9
  refine lv_istore (lv' := [(5, .int (nI 2)), (0, .ref b9), (1, .ref xa), (2, .ref (A 0)), (3, .ref oa), (4, .int (nI (4 * j)))]) hx hb dL_law_849 hl (by decide) rfl (fun ls hl => ?_)
  refine lv_aload_n hx hb dL_law_851 rfl (lv_at hl 3 rfl) ?_
  refine lv_aload_n hx hb dL_law_852 rfl (lv_at hl 1 rfl) ?_
  refine lv_iload hx hb dL_law_853 (lv_at hl 5 rfl) ?_
  refine lv_iconst (v := nI 1) hx hb dL_law_855 (by decide) ?_
  refine lv_iadd hx hb dL_law_856 ?_
  refine lv_cgi (y := nI ((4 * j) + 1)) (nI_add _ _) ?_
  refine va_sld hx hb hXs hbl hbA hS (vp_in_nI (by omega) (by omega)) dL_law_857 ?_
  refine lv_cgi (y := nI q) (by rw [nI_clamp (by omega)]; exact hp0) ?_
  refine lv_aload_n hx hb dL_law_858 rfl (lv_at hl 1 rfl) ?_
  refine lv_iload hx hb dL_law_859 (lv_at hl 5 rfl) ?_
  refine lv_iconst (v := nI 2) hx hb dL_law_861 (by decide) ?_
  refine lv_iadd hx hb dL_law_862 ?_
  refine lv_cgi (y := nI ((4 * j) + 2)) (nI_add _ _) ?_
  refine va_sld hx hb hXs hbl hbA hS (vp_in_nI (by omega) (by omega)) dL_law_863 ?_
  refine lv_cgi (y := y) (by rw [nI_clamp (by omega)]; exact hp1) ?_
  refine wr_goi (pre := []) (mid := mW G A th (nI z) (nI ln) dg f sl ik sv sg pl) (suf := oW G oa og ++ cW G xa so b ce a hh sg ln mk cs up fo tn w t lo hi me (nI n) qu gu ri re P F z o0 o1) (va_runV (As := [.int (nI q), .int y]) (rest := []) ⟨hx, hb, hml, hown, hts⟩ (c_X7_creaseOf_no2 l G _ A th (nI z) (nI ln) dg f sl ik sv sg pl (nI q) y (inB_n (Nat.zero_le _) (by omega) (by decide)) hw0) (cwV 2 hts gL_law_X7_creaseOf rfl rfl rfl (by decide +kernel) ⟨Nat.le_of_ble_eq_true rfl, Nat.le_of_ble_eq_true rfl⟩) (wV (pre := []) (mid := mW G A th (nI z) (nI ln) dg f sl ik sv sg pl) (suf := oW G oa og ++ cW G xa so b ce a hh sg ln mk cs up fo tn w t lo hi me (nI n) qu gu ri re P F z o0 o1) (va_recv (ws := mW G A th (nI z) (nI ln) dg f sl ik sv sg pl ++ (oW G oa og ++ cW G xa so b ce a hh sg ln mk cs up fo tn w t lo hi me (nI n) qu gu ri re P F z o0 o1)) hK hP (ci := 6) (q0 := 0) rfl rfl) hK hN hP hD) rfl rfl hl.1 rfl (lv_room (Nat.le_of_ble_eq_true rfl)) dL_law_864 ⟨by show 100 + 7 * j + 1 + 0 ≤ 601024; omega, by show 2000 + 64 * j + 6 + 0 ≤ 7293034; omega⟩) hP hD hS hA (fun r7 u7 H locs hw7 hP9 hD9 hS => ?_)
  have hw7 : r7 = nI 0 := hw7
  subst hw7
  have hP : PP G (mW G A (nI 2) (nI z) (nI ln) dg f sl ik sv sg pl ++ (oW G oa og ++ cW G xa so b ce a hh sg ln mk cs up fo tn w t lo hi me (nI n) qu gu ri re P F z o0 o1)) _ := hP9
  have hD : va_D Ar (mW G A (nI 2) (nI z) (nI ln) dg f sl ik sv sg pl ++ (oW G oa og ++ cW G xa so b ce a hh sg ln mk cs up fo tn w t lo hi me (nI n) qu gu ri re P F z o0 o1)) := hD9
  refine lv_istore (lv' := [(6, .int (nI 0)), (5, .int (nI 2)), (0, .ref b9), (1, .ref xa), (2, .ref (A 0)), (3, .ref oa), (4, .int (nI (4 * j)))]) hx hb dL_law_867 hl (by decide) rfl (fun ls hl => ?_)
  refine lv_aload_n hx hb dL_law_869 rfl (lv_at hl 4 rfl) ?_
  refine rd_go (va_runV (As := []) (rest := []) ⟨hx, hb, hml, hown, hts⟩ (c_X7_thrown l G A (nI 2) (nI z) (nI ln) dg f sl ik sv sg pl) (cwV 0 hts gL_law_X7_thrown rfl rfl rfl (by decide +kernel) ⟨Nat.le_of_ble_eq_true rfl, Nat.le_of_ble_eq_true rfl⟩) (rV (ws := mW G A (nI 2) (nI z) (nI ln) dg f sl ik sv sg pl) (va_recv (ws := mW G A (nI 2) (nI z) (nI ln) dg f sl ik sv sg pl ++ (oW G oa og ++ cW G xa so b ce a hh sg ln mk cs up fo tn w t lo hi me (nI n) qu gu ri re P F z o0 o1)) hK hP (ci := 6) (q0 := 0) rfl rfl) hK hN (P_mid (pre := []) (mid := mW G A (nI 2) (nI z) (nI ln) dg f sl ik sv sg pl) (suf := oW G oa og ++ cW G xa so b ce a hh sg ln mk cs up fo tn w t lo hi me (nI n) qu gu ri re P F z o0 o1) hP)) rfl rfl hl.1 rfl (lv_room (Nat.le_of_ble_eq_true rfl)) dL_law_870 ⟨by show 100 + 7 * j + 1 + 0 + 0 ≤ 601024; omega, by show 2000 + 64 * j + 6 + 0 + 0 ≤ 7293034; omega⟩) ?_
  refine lv_iload hx hb dL_law_873 (lv_at hl 1 rfl) ?_
  refine lv_icmp_eq (tgt := 880) hx hb dL_law_875 (by decide) (fun c_875 => ?_) (fun c_875 => by exact absurd c_875 (by decide))
  refine lv_iload hx hb dL_law_880 (lv_at hl 1 rfl) ?_
  refine lv_if_ne (tgt := 897) hx hb dL_law_882 (by decide) (fun c_882 => ?_) (fun c_882 => by exact absurd c_882 (by decide))
  refine lv_goto (tgt := 1297) hx hb dL_law_897 (by decide) ?_
  refine lv_iinc (v := nI (4 * (j + 1))) (lv' := [(4, .int (nI (4 * (j + 1)))), (6, .int (nI 0)), (5, .int (nI 2)), (0, .ref b9), (1, .ref xa), (2, .ref (A 0)), (3, .ref oa)]) hx hb dL_law_1297 hl (k := 6) rfl (iinc4 (4 * j)) (by decide) rfl (fun ls hl => ?_)
  refine lv_goto (tgt := 23) hx hb dL_law_1300 (by decide) ?_
  refine W.widen (k := 100 + 7 * (j + 1)) (n := 2000 + 64 * (j + 1)) (by omega) (by omega) ?_
  exact hHd _ _ _ ⟨og, sg, ln, mk, cs, up, fo, tn, w, t, lo, hi, me, nI n, qu, gu, ri, re, P, F, z, o0, o1, nI 2, dg, f, sl, ik, sv, pl, rfl, hln, hz, (RG_mono (Nat.le_succ _) (RG_of hRS)), (cen_of hn hcv), (HI_mono (Nat.le_succ _) hHI), (SLr_mono (Nat.le_succ _) hs0), (SLr_mono (Nat.le_succ _) hs1)⟩ hP hD hS ls (lv_sub hl [3, 4, 5, 6, 0] rfl)

set_option maxHeartbeats 8000000 in
set_option maxRecDepth 100000 in
theorem L_between_no1a {p : Program} {l : Launch} {e : Env} {s : State} {m : MethodId} {args : Array Value} {below : List Frame} {meth : Method} {cd : Code} {Q : State → Prop} {G : GG} {Ar : Nat → Prop} {b9 L : Nat} {xs : Nat → Int32} {xa so oa : Nat} {b ce a hh A : Nat → Nat} (hE : LE9 p l s m args cd G Ar b9 L xs) {j : Nat} (hj : 4 * j + 4 ≤ L) (hL : L ≤ 2048) (hHd : LH p l e s m args below meth cd Q G Ar b9 xa so oa b ce a hh A (j + 1))
    (og : Nat → Int64) (sg : Nat → Int32) (ln : Nat) (hln : ln ≤ 60) (mk : Nat → Int32) (cs up fo tn : Int32) (w t lo hi me : Nat → Int32) (n : Nat) (qu gu ri re : Int32) (P : Nat → Nat → Nat) (F : Nat → Nat → Nat → Int32) (z : Nat) (hz : z ≤ 6) (o0 : SLO) (o1 : SLO) (th : Int32) (dg : Int64) (f sl ik sv pl : Nat → Int32) (x y v : Int32) (hx0 : ¬ inB x (nI 0) (nI 5))
    (hRS : RS j fo tn w t lo hi me n qu gu ri re f) (hcv : cenV (qS tn lo hi me n) mk cs up) (hHI : HI j z F sv) (hs0 : SLr j o0 (ik 0) sl) (hs1 : SLr j o1 (ik 1) (fun j => sl (58 + j))) (hp0 : xs (4 * j + 1) = x) (hp1 : xs (4 * j + 2) = y) (hp2 : xs (4 * j + 3) = v)
    {H : Heap} {locs : List Loc} (hP : PP G (mW G A th (nI z) (nI ln) dg f sl ik sv sg pl ++ (oW G oa og ++ cW G xa so b ce a hh sg ln mk cs up fo tn w t lo hi me (nI n) qu gu ri re P F z o0 o1)) H) (hD : va_D Ar (mW G A th (nI z) (nI ln) dg f sl ik sv sg pl ++ (oW G oa og ++ cW G xa so b ce a hh sg ln mk cs up fo tn w t lo hi me (nI n) qu gu ri re P F z o0 o1))) (hS : va_S Ar s.heap H locs) {ls : Array Slot} (hl : lv_has ls 9 [(0, .ref b9), (1, .ref xa), (2, .ref (A 0)), (3, .ref oa), (4, .int (nI (4 * j)))]) : W p l e room_1 s m args below meth cd H locs (100 + 7 * j) (2000 + 64 * j) Q (F0 m 900 ls []) := by
  obtain ⟨hx, hb, hml, hown, hts, hfl, ⟨hK, hN, hX, hZ0⟩, hA, hXs, hbl, hbA⟩ := id hE
  have hn : n ≤ 12 := hRS.1.1
  have hn17 : f 17 = nI n := hRS.2.1.2.2.1
  have hT : okP t := hRS.2.2.1.2.1
  have hvL : okL lo hi := hRS.2.2.1.2.2.1
  have hvA : okA f := hRS.2.2.1.2.2.2
  have htF : okT f := fun i hi => by rw [hRS.2.1.2.2.2.2 i hi]; exact hT i hi
  refine lv_aload_n hx hb dL_law_900 rfl (lv_at hl 1 rfl) ?_
  refine lv_aload_n hx hb dL_law_901 rfl (lv_at hl 0 rfl) ?_
  refine lv_iload hx hb dL_law_902 (lv_at hl 4 rfl) ?_
  refine lv_iconst (v := nI 1) hx hb dL_law_904 (by decide) ?_
  refine lv_iadd hx hb dL_law_905 ?_
  refine lv_cgi (y := nI ((4 * j) + 1)) (nI_add _ _) ?_
  refine va_sld hx hb hXs hbl hbA hS (vp_in_nI (by omega) (by omega)) dL_law_906 ?_
  refine lv_cgi (y := x) (by rw [nI_clamp (by omega)]; exact hp0) ?_
  refine lv_aload_n hx hb dL_law_907 rfl (lv_at hl 0 rfl) ?_
  refine lv_iload hx hb dL_law_908 (lv_at hl 4 rfl) ?_
  refine lv_iconst (v := nI 2) hx hb dL_law_910 (by decide) ?_
  refine lv_iadd hx hb dL_law_911 ?_
  refine lv_cgi (y := nI ((4 * j) + 2)) (nI_add _ _) ?_
  refine va_sld hx hb hXs hbl hbA hS (vp_in_nI (by omega) (by omega)) dL_law_912 ?_
  refine lv_cgi (y := y) (by rw [nI_clamp (by omega)]; exact hp1) ?_
  refine lv_aload_n hx hb dL_law_913 rfl (lv_at hl 0 rfl) ?_
  refine lv_iload hx hb dL_law_914 (lv_at hl 4 rfl) ?_
  refine lv_iconst (v := nI 3) hx hb dL_law_916 (by decide) ?_
  refine lv_iadd hx hb dL_law_917 ?_
  refine lv_cgi (y := nI ((4 * j) + 3)) (nI_add _ _) ?_
  refine va_sld hx hb hXs hbl hbA hS (vp_in_nI (by omega) (by omega)) dL_law_918 ?_
  refine lv_cgi (y := v) (by rw [nI_clamp (by omega)]; exact hp2) ?_
  refine lv_aload_n hx hb dL_law_919 rfl (lv_at hl 3 rfl) ?_
  refine wr_g1i (pre := mW G A th (nI z) (nI ln) dg f sl ik sv sg pl) (mid := oW G oa og ++ cW G xa so b ce a hh sg ln mk cs up fo tn w t lo hi me (nI n) qu gu ri re P F z o0 o1) (vx_runSW (As := [.ref xa, .int x, .int y, .int v, .ref oa]) (rest := []) ⟨hx, hb, hml, hown, hts⟩ (w_between_t1 l G _ xa oa _ _ og x y v (t_X6_between_no1a l hfl G xa _ _ x y v hx0)) (vx_cwSW 5 hts gL_law_L_between rfl rfl rfl (by decide +kernel) ⟨Nat.le_of_ble_eq_true rfl, Nat.le_of_ble_eq_true rfl⟩) (lxS1 (pre := mW G A th (nI z) (nI ln) dg f sl ik sv sg pl) (mid := oW G oa og ++ cW G xa so b ce a hh sg ln mk cs up fo tn w t lo hi me (nI n) qu gu ri re P F z o0 o1) hK hN hX (XZ_at hZ0 hS hA) hP hD) rfl rfl hl.1 rfl (lv_room (Nat.le_of_ble_eq_true rfl)) dL_law_920 ⟨by show 100 + 7 * j + 1 ≤ 601024; omega, by show 2000 + 64 * j + 6 ≤ 7293034; omega⟩) hP hD hS hA (fun r6 u6 H locs hw6 hP9 hD9 hS => ?_)
  have hw6 : r6 = nI 1 := hw6
  subst hw6
  have hP : PP G (mW G A th (nI z) (nI ln) dg f sl ik sv sg pl ++ (oW G oa og ++ cW G xa so b ce a hh sg ln mk cs up fo tn w t lo hi me (nI n) qu gu ri re P F z o0 o1)) _ := hP9
  have hD : va_D Ar (mW G A th (nI z) (nI ln) dg f sl ik sv sg pl ++ (oW G oa og ++ cW G xa so b ce a hh sg ln mk cs up fo tn w t lo hi me (nI n) qu gu ri re P F z o0 o1)) := hD9
  refine lv_istore (lv' := [(5, .int (nI 1)), (0, .ref b9), (1, .ref xa), (2, .ref (A 0)), (3, .ref oa), (4, .int (nI (4 * j)))]) hx hb dL_law_923 hl (by decide) rfl (fun ls hl => ?_)
  refine lv_aload_n hx hb dL_law_925 rfl (lv_at hl 3 rfl) ?_
  refine lv_aload_n hx hb dL_law_926 rfl (lv_at hl 1 rfl) ?_
  refine lv_iload hx hb dL_law_927 (lv_at hl 5 rfl) ?_
  refine lv_iconst (v := nI 1) hx hb dL_law_929 (by decide) ?_
  refine lv_iadd hx hb dL_law_930 ?_
  refine lv_cgi (y := nI ((4 * j) + 1)) (nI_add _ _) ?_
  refine va_sld hx hb hXs hbl hbA hS (vp_in_nI (by omega) (by omega)) dL_law_931 ?_
  refine lv_cgi (y := x) (by rw [nI_clamp (by omega)]; exact hp0) ?_
  refine lv_aload_n hx hb dL_law_932 rfl (lv_at hl 1 rfl) ?_
  refine lv_iload hx hb dL_law_933 (lv_at hl 5 rfl) ?_
  refine lv_iconst (v := nI 2) hx hb dL_law_935 (by decide) ?_
  refine lv_iadd hx hb dL_law_936 ?_
  refine lv_cgi (y := nI ((4 * j) + 2)) (nI_add _ _) ?_
  refine va_sld hx hb hXs hbl hbA hS (vp_in_nI (by omega) (by omega)) dL_law_937 ?_
  refine lv_cgi (y := y) (by rw [nI_clamp (by omega)]; exact hp1) ?_
  refine lv_aload_n hx hb dL_law_938 rfl (lv_at hl 1 rfl) ?_
  refine lv_iload hx hb dL_law_939 (lv_at hl 5 rfl) ?_
  refine lv_iconst (v := nI 3) hx hb dL_law_941 (by decide) ?_
  refine lv_iadd hx hb dL_law_942 ?_
  refine lv_cgi (y := nI ((4 * j) + 3)) (nI_add _ _) ?_
  refine va_sld hx hb hXs hbl hbA hS (vp_in_nI (by omega) (by omega)) dL_law_943 ?_
  refine lv_cgi (y := v) (by rw [nI_clamp (by omega)]; exact hp2) ?_
  refine wr_goi (pre := []) (mid := mW G A th (nI z) (nI ln) dg f sl ik sv sg pl) (suf := oW G oa og ++ cW G xa so b ce a hh sg ln mk cs up fo tn w t lo hi me (nI n) qu gu ri re P F z o0 o1) (va_runV (As := [.int x, .int y, .int v]) (rest := []) ⟨hx, hb, hml, hown, hts⟩ (c_X7_between_no1 l G _ A th (nI z) (nI ln) dg f sl ik sv sg pl x y v (fun h => hx0 h.1)) (cwV 3 hts gL_law_X7_between rfl rfl rfl (by decide +kernel) ⟨Nat.le_of_ble_eq_true rfl, Nat.le_of_ble_eq_true rfl⟩) (wV (pre := []) (mid := mW G A th (nI z) (nI ln) dg f sl ik sv sg pl) (suf := oW G oa og ++ cW G xa so b ce a hh sg ln mk cs up fo tn w t lo hi me (nI n) qu gu ri re P F z o0 o1) (va_recv (ws := mW G A th (nI z) (nI ln) dg f sl ik sv sg pl ++ (oW G oa og ++ cW G xa so b ce a hh sg ln mk cs up fo tn w t lo hi me (nI n) qu gu ri re P F z o0 o1)) hK hP (ci := 6) (q0 := 0) rfl rfl) hK hN hP hD) rfl rfl hl.1 rfl (lv_room (Nat.le_of_ble_eq_true rfl)) dL_law_944 ⟨by show 100 + 7 * j + 1 + 0 ≤ 601024; omega, by show 2000 + 64 * j + 6 + 0 ≤ 7293034; omega⟩) hP hD hS hA (fun r7 u7 H locs hw7 hP9 hD9 hS => ?_)
  have hw7 : r7 = nI 0 := hw7
  subst hw7
  have hP : PP G (mW G A (nI 1) (nI z) (nI ln) dg f sl ik sv sg pl ++ (oW G oa og ++ cW G xa so b ce a hh sg ln mk cs up fo tn w t lo hi me (nI n) qu gu ri re P F z o0 o1)) _ := hP9
  have hD : va_D Ar (mW G A (nI 1) (nI z) (nI ln) dg f sl ik sv sg pl ++ (oW G oa og ++ cW G xa so b ce a hh sg ln mk cs up fo tn w t lo hi me (nI n) qu gu ri re P F z o0 o1)) := hD9
  refine lv_istore (lv' := [(6, .int (nI 0)), (5, .int (nI 1)), (0, .ref b9), (1, .ref xa), (2, .ref (A 0)), (3, .ref oa), (4, .int (nI (4 * j)))]) hx hb dL_law_947 hl (by decide) rfl (fun ls hl => ?_)
  refine lv_aload_n hx hb dL_law_949 rfl (lv_at hl 4 rfl) ?_
  refine rd_go (va_runV (As := []) (rest := []) ⟨hx, hb, hml, hown, hts⟩ (c_X7_thrown l G A (nI 1) (nI z) (nI ln) dg f sl ik sv sg pl) (cwV 0 hts gL_law_X7_thrown rfl rfl rfl (by decide +kernel) ⟨Nat.le_of_ble_eq_true rfl, Nat.le_of_ble_eq_true rfl⟩) (rV (ws := mW G A (nI 1) (nI z) (nI ln) dg f sl ik sv sg pl) (va_recv (ws := mW G A (nI 1) (nI z) (nI ln) dg f sl ik sv sg pl ++ (oW G oa og ++ cW G xa so b ce a hh sg ln mk cs up fo tn w t lo hi me (nI n) qu gu ri re P F z o0 o1)) hK hP (ci := 6) (q0 := 0) rfl rfl) hK hN (P_mid (pre := []) (mid := mW G A (nI 1) (nI z) (nI ln) dg f sl ik sv sg pl) (suf := oW G oa og ++ cW G xa so b ce a hh sg ln mk cs up fo tn w t lo hi me (nI n) qu gu ri re P F z o0 o1) hP)) rfl rfl hl.1 rfl (lv_room (Nat.le_of_ble_eq_true rfl)) dL_law_950 ⟨by show 100 + 7 * j + 1 + 0 + 0 ≤ 601024; omega, by show 2000 + 64 * j + 6 + 0 + 0 ≤ 7293034; omega⟩) ?_
  refine lv_iload hx hb dL_law_953 (lv_at hl 1 rfl) ?_
  refine lv_icmp_eq (tgt := 960) hx hb dL_law_955 (by decide) (fun c_955 => ?_) (fun c_955 => by exact absurd c_955 (by decide))
  refine lv_iload hx hb dL_law_960 (lv_at hl 1 rfl) ?_
  refine lv_if_ne (tgt := 977) hx hb dL_law_962 (by decide) (fun c_962 => ?_) (fun c_962 => by exact absurd c_962 (by decide))
  refine lv_goto (tgt := 1297) hx hb dL_law_977 (by decide) ?_
  refine lv_iinc (v := nI (4 * (j + 1))) (lv' := [(4, .int (nI (4 * (j + 1)))), (6, .int (nI 0)), (5, .int (nI 1)), (0, .ref b9), (1, .ref xa), (2, .ref (A 0)), (3, .ref oa)]) hx hb dL_law_1297 hl (k := 6) rfl (iinc4 (4 * j)) (by decide) rfl (fun ls hl => ?_)
  refine lv_goto (tgt := 23) hx hb dL_law_1300 (by decide) ?_
  refine W.widen (k := 100 + 7 * (j + 1)) (n := 2000 + 64 * (j + 1)) (by omega) (by omega) ?_
  exact hHd _ _ _ ⟨og, sg, ln, mk, cs, up, fo, tn, w, t, lo, hi, me, nI n, qu, gu, ri, re, P, F, z, o0, o1, nI 1, dg, f, sl, ik, sv, pl, rfl, hln, hz, (RG_mono (Nat.le_succ _) (RG_of hRS)), (cen_of hn hcv), (HI_mono (Nat.le_succ _) hHI), (SLr_mono (Nat.le_succ _) hs0), (SLr_mono (Nat.le_succ _) hs1)⟩ hP hD hS ls (lv_sub hl [3, 4, 5, 6, 0] rfl)

set_option maxHeartbeats 8000000 in
set_option maxRecDepth 100000 in
theorem L_between_no1b {p : Program} {l : Launch} {e : Env} {s : State} {m : MethodId} {args : Array Value} {below : List Frame} {meth : Method} {cd : Code} {Q : State → Prop} {G : GG} {Ar : Nat → Prop} {b9 L : Nat} {xs : Nat → Int32} {xa so oa : Nat} {b ce a hh A : Nat → Nat} (hE : LE9 p l s m args cd G Ar b9 L xs) {j : Nat} (hj : 4 * j + 4 ≤ L) (hL : L ≤ 2048) (hHd : LH p l e s m args below meth cd Q G Ar b9 xa so oa b ce a hh A (j + 1))
    (og : Nat → Int64) (sg : Nat → Int32) (ln : Nat) (hln : ln ≤ 60) (mk : Nat → Int32) (cs up fo tn : Int32) (w t lo hi me : Nat → Int32) (n : Nat) (qu gu ri re : Int32) (P : Nat → Nat → Nat) (F : Nat → Nat → Nat → Int32) (z : Nat) (hz : z ≤ 6) (o0 : SLO) (o1 : SLO) (th : Int32) (dg : Int64) (f sl ik sv pl : Nat → Int32) (t9 : Nat) (ht9 : t9 < 6) (y v : Int32) (hx0 : ¬ inB y (nI 0) (nI 5))
    (hRS : RS j fo tn w t lo hi me n qu gu ri re f) (hcv : cenV (qS tn lo hi me n) mk cs up) (hHI : HI j z F sv) (hs0 : SLr j o0 (ik 0) sl) (hs1 : SLr j o1 (ik 1) (fun j => sl (58 + j))) (hp0 : xs (4 * j + 1) = nI t9) (hp1 : xs (4 * j + 2) = y) (hp2 : xs (4 * j + 3) = v)
    {H : Heap} {locs : List Loc} (hP : PP G (mW G A th (nI z) (nI ln) dg f sl ik sv sg pl ++ (oW G oa og ++ cW G xa so b ce a hh sg ln mk cs up fo tn w t lo hi me (nI n) qu gu ri re P F z o0 o1)) H) (hD : va_D Ar (mW G A th (nI z) (nI ln) dg f sl ik sv sg pl ++ (oW G oa og ++ cW G xa so b ce a hh sg ln mk cs up fo tn w t lo hi me (nI n) qu gu ri re P F z o0 o1))) (hS : va_S Ar s.heap H locs) {ls : Array Slot} (hl : lv_has ls 9 [(0, .ref b9), (1, .ref xa), (2, .ref (A 0)), (3, .ref oa), (4, .int (nI (4 * j)))]) : W p l e room_1 s m args below meth cd H locs (100 + 7 * j) (2000 + 64 * j) Q (F0 m 900 ls []) := by
  obtain ⟨hx, hb, hml, hown, hts, hfl, ⟨hK, hN, hX, hZ0⟩, hA, hXs, hbl, hbA⟩ := id hE
  have hn : n ≤ 12 := hRS.1.1
  have hn17 : f 17 = nI n := hRS.2.1.2.2.1
  have hT : okP t := hRS.2.2.1.2.1
  have hvL : okL lo hi := hRS.2.2.1.2.2.1
  have hvA : okA f := hRS.2.2.1.2.2.2
  have htF : okT f := fun i hi => by rw [hRS.2.1.2.2.2.2 i hi]; exact hT i hi
  refine lv_aload_n hx hb dL_law_900 rfl (lv_at hl 1 rfl) ?_
  refine lv_aload_n hx hb dL_law_901 rfl (lv_at hl 0 rfl) ?_
  refine lv_iload hx hb dL_law_902 (lv_at hl 4 rfl) ?_
  refine lv_iconst (v := nI 1) hx hb dL_law_904 (by decide) ?_
  refine lv_iadd hx hb dL_law_905 ?_
  refine lv_cgi (y := nI ((4 * j) + 1)) (nI_add _ _) ?_
  refine va_sld hx hb hXs hbl hbA hS (vp_in_nI (by omega) (by omega)) dL_law_906 ?_
  refine lv_cgi (y := nI t9) (by rw [nI_clamp (by omega)]; exact hp0) ?_
  refine lv_aload_n hx hb dL_law_907 rfl (lv_at hl 0 rfl) ?_
  refine lv_iload hx hb dL_law_908 (lv_at hl 4 rfl) ?_
  refine lv_iconst (v := nI 2) hx hb dL_law_910 (by decide) ?_
  refine lv_iadd hx hb dL_law_911 ?_
  refine lv_cgi (y := nI ((4 * j) + 2)) (nI_add _ _) ?_
  refine va_sld hx hb hXs hbl hbA hS (vp_in_nI (by omega) (by omega)) dL_law_912 ?_
  refine lv_cgi (y := y) (by rw [nI_clamp (by omega)]; exact hp1) ?_
  refine lv_aload_n hx hb dL_law_913 rfl (lv_at hl 0 rfl) ?_
  refine lv_iload hx hb dL_law_914 (lv_at hl 4 rfl) ?_
  refine lv_iconst (v := nI 3) hx hb dL_law_916 (by decide) ?_
  refine lv_iadd hx hb dL_law_917 ?_
  refine lv_cgi (y := nI ((4 * j) + 3)) (nI_add _ _) ?_
  refine va_sld hx hb hXs hbl hbA hS (vp_in_nI (by omega) (by omega)) dL_law_918 ?_
  refine lv_cgi (y := v) (by rw [nI_clamp (by omega)]; exact hp2) ?_
  refine lv_aload_n hx hb dL_law_919 rfl (lv_at hl 3 rfl) ?_
  refine wr_g1i (pre := mW G A th (nI z) (nI ln) dg f sl ik sv sg pl) (mid := oW G oa og ++ cW G xa so b ce a hh sg ln mk cs up fo tn w t lo hi me (nI n) qu gu ri re P F z o0 o1) (vx_runSW (As := [.ref xa, .int (nI t9), .int y, .int v, .ref oa]) (rest := []) ⟨hx, hb, hml, hown, hts⟩ (w_between_t1 l G _ xa oa _ _ og (nI t9) y v (t_X6_between_no1b l hfl G xa _ _ t9 ht9 y v hx0)) (vx_cwSW 5 hts gL_law_L_between rfl rfl rfl (by decide +kernel) ⟨Nat.le_of_ble_eq_true rfl, Nat.le_of_ble_eq_true rfl⟩) (lxS1 (pre := mW G A th (nI z) (nI ln) dg f sl ik sv sg pl) (mid := oW G oa og ++ cW G xa so b ce a hh sg ln mk cs up fo tn w t lo hi me (nI n) qu gu ri re P F z o0 o1) hK hN hX (XZ_at hZ0 hS hA) hP hD) rfl rfl hl.1 rfl (lv_room (Nat.le_of_ble_eq_true rfl)) dL_law_920 ⟨by show 100 + 7 * j + 1 ≤ 601024; omega, by show 2000 + 64 * j + 6 ≤ 7293034; omega⟩) hP hD hS hA (fun r6 u6 H locs hw6 hP9 hD9 hS => ?_)
  have hw6 : r6 = nI 1 := hw6
  subst hw6
  have hP : PP G (mW G A th (nI z) (nI ln) dg f sl ik sv sg pl ++ (oW G oa og ++ cW G xa so b ce a hh sg ln mk cs up fo tn w t lo hi me (nI n) qu gu ri re P F z o0 o1)) _ := hP9
  have hD : va_D Ar (mW G A th (nI z) (nI ln) dg f sl ik sv sg pl ++ (oW G oa og ++ cW G xa so b ce a hh sg ln mk cs up fo tn w t lo hi me (nI n) qu gu ri re P F z o0 o1)) := hD9
  refine lv_istore (lv' := [(5, .int (nI 1)), (0, .ref b9), (1, .ref xa), (2, .ref (A 0)), (3, .ref oa), (4, .int (nI (4 * j)))]) hx hb dL_law_923 hl (by decide) rfl (fun ls hl => ?_)
  refine lv_aload_n hx hb dL_law_925 rfl (lv_at hl 3 rfl) ?_
  refine lv_aload_n hx hb dL_law_926 rfl (lv_at hl 1 rfl) ?_
  refine lv_iload hx hb dL_law_927 (lv_at hl 5 rfl) ?_
  refine lv_iconst (v := nI 1) hx hb dL_law_929 (by decide) ?_
  refine lv_iadd hx hb dL_law_930 ?_
  refine lv_cgi (y := nI ((4 * j) + 1)) (nI_add _ _) ?_
  refine va_sld hx hb hXs hbl hbA hS (vp_in_nI (by omega) (by omega)) dL_law_931 ?_
  refine lv_cgi (y := nI t9) (by rw [nI_clamp (by omega)]; exact hp0) ?_
  refine lv_aload_n hx hb dL_law_932 rfl (lv_at hl 1 rfl) ?_
  refine lv_iload hx hb dL_law_933 (lv_at hl 5 rfl) ?_
  refine lv_iconst (v := nI 2) hx hb dL_law_935 (by decide) ?_
  refine lv_iadd hx hb dL_law_936 ?_
  refine lv_cgi (y := nI ((4 * j) + 2)) (nI_add _ _) ?_
  refine va_sld hx hb hXs hbl hbA hS (vp_in_nI (by omega) (by omega)) dL_law_937 ?_
  refine lv_cgi (y := y) (by rw [nI_clamp (by omega)]; exact hp1) ?_
  refine lv_aload_n hx hb dL_law_938 rfl (lv_at hl 1 rfl) ?_
  refine lv_iload hx hb dL_law_939 (lv_at hl 5 rfl) ?_
  refine lv_iconst (v := nI 3) hx hb dL_law_941 (by decide) ?_
  refine lv_iadd hx hb dL_law_942 ?_
  refine lv_cgi (y := nI ((4 * j) + 3)) (nI_add _ _) ?_
  refine va_sld hx hb hXs hbl hbA hS (vp_in_nI (by omega) (by omega)) dL_law_943 ?_
  refine lv_cgi (y := v) (by rw [nI_clamp (by omega)]; exact hp2) ?_
  refine wr_goi (pre := []) (mid := mW G A th (nI z) (nI ln) dg f sl ik sv sg pl) (suf := oW G oa og ++ cW G xa so b ce a hh sg ln mk cs up fo tn w t lo hi me (nI n) qu gu ri re P F z o0 o1) (va_runV (As := [.int (nI t9), .int y, .int v]) (rest := []) ⟨hx, hb, hml, hown, hts⟩ (c_X7_between_no1 l G _ A th (nI z) (nI ln) dg f sl ik sv sg pl (nI t9) y v (fun h => hx0 h.2)) (cwV 3 hts gL_law_X7_between rfl rfl rfl (by decide +kernel) ⟨Nat.le_of_ble_eq_true rfl, Nat.le_of_ble_eq_true rfl⟩) (wV (pre := []) (mid := mW G A th (nI z) (nI ln) dg f sl ik sv sg pl) (suf := oW G oa og ++ cW G xa so b ce a hh sg ln mk cs up fo tn w t lo hi me (nI n) qu gu ri re P F z o0 o1) (va_recv (ws := mW G A th (nI z) (nI ln) dg f sl ik sv sg pl ++ (oW G oa og ++ cW G xa so b ce a hh sg ln mk cs up fo tn w t lo hi me (nI n) qu gu ri re P F z o0 o1)) hK hP (ci := 6) (q0 := 0) rfl rfl) hK hN hP hD) rfl rfl hl.1 rfl (lv_room (Nat.le_of_ble_eq_true rfl)) dL_law_944 ⟨by show 100 + 7 * j + 1 + 0 ≤ 601024; omega, by show 2000 + 64 * j + 6 + 0 ≤ 7293034; omega⟩) hP hD hS hA (fun r7 u7 H locs hw7 hP9 hD9 hS => ?_)
  have hw7 : r7 = nI 0 := hw7
  subst hw7
  have hP : PP G (mW G A (nI 1) (nI z) (nI ln) dg f sl ik sv sg pl ++ (oW G oa og ++ cW G xa so b ce a hh sg ln mk cs up fo tn w t lo hi me (nI n) qu gu ri re P F z o0 o1)) _ := hP9
  have hD : va_D Ar (mW G A (nI 1) (nI z) (nI ln) dg f sl ik sv sg pl ++ (oW G oa og ++ cW G xa so b ce a hh sg ln mk cs up fo tn w t lo hi me (nI n) qu gu ri re P F z o0 o1)) := hD9
  refine lv_istore (lv' := [(6, .int (nI 0)), (5, .int (nI 1)), (0, .ref b9), (1, .ref xa), (2, .ref (A 0)), (3, .ref oa), (4, .int (nI (4 * j)))]) hx hb dL_law_947 hl (by decide) rfl (fun ls hl => ?_)
  refine lv_aload_n hx hb dL_law_949 rfl (lv_at hl 4 rfl) ?_
  refine rd_go (va_runV (As := []) (rest := []) ⟨hx, hb, hml, hown, hts⟩ (c_X7_thrown l G A (nI 1) (nI z) (nI ln) dg f sl ik sv sg pl) (cwV 0 hts gL_law_X7_thrown rfl rfl rfl (by decide +kernel) ⟨Nat.le_of_ble_eq_true rfl, Nat.le_of_ble_eq_true rfl⟩) (rV (ws := mW G A (nI 1) (nI z) (nI ln) dg f sl ik sv sg pl) (va_recv (ws := mW G A (nI 1) (nI z) (nI ln) dg f sl ik sv sg pl ++ (oW G oa og ++ cW G xa so b ce a hh sg ln mk cs up fo tn w t lo hi me (nI n) qu gu ri re P F z o0 o1)) hK hP (ci := 6) (q0 := 0) rfl rfl) hK hN (P_mid (pre := []) (mid := mW G A (nI 1) (nI z) (nI ln) dg f sl ik sv sg pl) (suf := oW G oa og ++ cW G xa so b ce a hh sg ln mk cs up fo tn w t lo hi me (nI n) qu gu ri re P F z o0 o1) hP)) rfl rfl hl.1 rfl (lv_room (Nat.le_of_ble_eq_true rfl)) dL_law_950 ⟨by show 100 + 7 * j + 1 + 0 + 0 ≤ 601024; omega, by show 2000 + 64 * j + 6 + 0 + 0 ≤ 7293034; omega⟩) ?_
  refine lv_iload hx hb dL_law_953 (lv_at hl 1 rfl) ?_
  refine lv_icmp_eq (tgt := 960) hx hb dL_law_955 (by decide) (fun c_955 => ?_) (fun c_955 => by exact absurd c_955 (by decide))
  refine lv_iload hx hb dL_law_960 (lv_at hl 1 rfl) ?_
  refine lv_if_ne (tgt := 977) hx hb dL_law_962 (by decide) (fun c_962 => ?_) (fun c_962 => by exact absurd c_962 (by decide))
  refine lv_goto (tgt := 1297) hx hb dL_law_977 (by decide) ?_
  refine lv_iinc (v := nI (4 * (j + 1))) (lv' := [(4, .int (nI (4 * (j + 1)))), (6, .int (nI 0)), (5, .int (nI 1)), (0, .ref b9), (1, .ref xa), (2, .ref (A 0)), (3, .ref oa)]) hx hb dL_law_1297 hl (k := 6) rfl (iinc4 (4 * j)) (by decide) rfl (fun ls hl => ?_)
  refine lv_goto (tgt := 23) hx hb dL_law_1300 (by decide) ?_
  refine W.widen (k := 100 + 7 * (j + 1)) (n := 2000 + 64 * (j + 1)) (by omega) (by omega) ?_
  exact hHd _ _ _ ⟨og, sg, ln, mk, cs, up, fo, tn, w, t, lo, hi, me, nI n, qu, gu, ri, re, P, F, z, o0, o1, nI 1, dg, f, sl, ik, sv, pl, rfl, hln, hz, (RG_mono (Nat.le_succ _) (RG_of hRS)), (cen_of hn hcv), (HI_mono (Nat.le_succ _) hHI), (SLr_mono (Nat.le_succ _) hs0), (SLr_mono (Nat.le_succ _) hs1)⟩ hP hD hS ls (lv_sub hl [3, 4, 5, 6, 0] rfl)

set_option maxHeartbeats 8000000 in
set_option maxRecDepth 100000 in
theorem L_between_no2 {p : Program} {l : Launch} {e : Env} {s : State} {m : MethodId} {args : Array Value} {below : List Frame} {meth : Method} {cd : Code} {Q : State → Prop} {G : GG} {Ar : Nat → Prop} {b9 L : Nat} {xs : Nat → Int32} {xa so oa : Nat} {b ce a hh A : Nat → Nat} (hE : LE9 p l s m args cd G Ar b9 L xs) {j : Nat} (hj : 4 * j + 4 ≤ L) (hL : L ≤ 2048) (hHd : LH p l e s m args below meth cd Q G Ar b9 xa so oa b ce a hh A (j + 1))
    (og : Nat → Int64) (sg : Nat → Int32) (ln : Nat) (hln : ln ≤ 60) (mk : Nat → Int32) (cs up fo tn : Int32) (w t lo hi me : Nat → Int32) (n : Nat) (qu gu ri re : Int32) (P : Nat → Nat → Nat) (F : Nat → Nat → Nat → Int32) (z : Nat) (hz : z ≤ 6) (o0 : SLO) (o1 : SLO) (th : Int32) (dg : Int64) (f sl ik sv pl : Nat → Int32) (t9 o9 : Nat) (ht9 : t9 < 6) (ho9 : o9 < 6) (v : Int32) (hw0 : ¬ inB v (nI 0) (nI 3))
    (hRS : RS j fo tn w t lo hi me n qu gu ri re f) (hcv : cenV (qS tn lo hi me n) mk cs up) (hHI : HI j z F sv) (hs0 : SLr j o0 (ik 0) sl) (hs1 : SLr j o1 (ik 1) (fun j => sl (58 + j))) (hp0 : xs (4 * j + 1) = nI t9) (hp1 : xs (4 * j + 2) = nI o9) (hp2 : xs (4 * j + 3) = v)
    {H : Heap} {locs : List Loc} (hP : PP G (mW G A th (nI z) (nI ln) dg f sl ik sv sg pl ++ (oW G oa og ++ cW G xa so b ce a hh sg ln mk cs up fo tn w t lo hi me (nI n) qu gu ri re P F z o0 o1)) H) (hD : va_D Ar (mW G A th (nI z) (nI ln) dg f sl ik sv sg pl ++ (oW G oa og ++ cW G xa so b ce a hh sg ln mk cs up fo tn w t lo hi me (nI n) qu gu ri re P F z o0 o1))) (hS : va_S Ar s.heap H locs) {ls : Array Slot} (hl : lv_has ls 9 [(0, .ref b9), (1, .ref xa), (2, .ref (A 0)), (3, .ref oa), (4, .int (nI (4 * j)))]) : W p l e room_1 s m args below meth cd H locs (100 + 7 * j) (2000 + 64 * j) Q (F0 m 900 ls []) := by
  obtain ⟨hx, hb, hml, hown, hts, hfl, ⟨hK, hN, hX, hZ0⟩, hA, hXs, hbl, hbA⟩ := id hE
  have hn : n ≤ 12 := hRS.1.1
  have hn17 : f 17 = nI n := hRS.2.1.2.2.1
  have hT : okP t := hRS.2.2.1.2.1
  have hvL : okL lo hi := hRS.2.2.1.2.2.1
  have hvA : okA f := hRS.2.2.1.2.2.2
  have htF : okT f := fun i hi => by rw [hRS.2.1.2.2.2.2 i hi]; exact hT i hi
  refine lv_aload_n hx hb dL_law_900 rfl (lv_at hl 1 rfl) ?_
  refine lv_aload_n hx hb dL_law_901 rfl (lv_at hl 0 rfl) ?_
  refine lv_iload hx hb dL_law_902 (lv_at hl 4 rfl) ?_
  refine lv_iconst (v := nI 1) hx hb dL_law_904 (by decide) ?_
  refine lv_iadd hx hb dL_law_905 ?_
  refine lv_cgi (y := nI ((4 * j) + 1)) (nI_add _ _) ?_
  refine va_sld hx hb hXs hbl hbA hS (vp_in_nI (by omega) (by omega)) dL_law_906 ?_
  refine lv_cgi (y := nI t9) (by rw [nI_clamp (by omega)]; exact hp0) ?_
  refine lv_aload_n hx hb dL_law_907 rfl (lv_at hl 0 rfl) ?_
  refine lv_iload hx hb dL_law_908 (lv_at hl 4 rfl) ?_
  refine lv_iconst (v := nI 2) hx hb dL_law_910 (by decide) ?_
  refine lv_iadd hx hb dL_law_911 ?_
  refine lv_cgi (y := nI ((4 * j) + 2)) (nI_add _ _) ?_
  refine va_sld hx hb hXs hbl hbA hS (vp_in_nI (by omega) (by omega)) dL_law_912 ?_
  refine lv_cgi (y := nI o9) (by rw [nI_clamp (by omega)]; exact hp1) ?_
  refine lv_aload_n hx hb dL_law_913 rfl (lv_at hl 0 rfl) ?_
  refine lv_iload hx hb dL_law_914 (lv_at hl 4 rfl) ?_
  refine lv_iconst (v := nI 3) hx hb dL_law_916 (by decide) ?_
  refine lv_iadd hx hb dL_law_917 ?_
  refine lv_cgi (y := nI ((4 * j) + 3)) (nI_add _ _) ?_
  refine va_sld hx hb hXs hbl hbA hS (vp_in_nI (by omega) (by omega)) dL_law_918 ?_
  refine lv_cgi (y := v) (by rw [nI_clamp (by omega)]; exact hp2) ?_
  refine lv_aload_n hx hb dL_law_919 rfl (lv_at hl 3 rfl) ?_
  refine wr_g1i (pre := mW G A th (nI z) (nI ln) dg f sl ik sv sg pl) (mid := oW G oa og ++ cW G xa so b ce a hh sg ln mk cs up fo tn w t lo hi me (nI n) qu gu ri re P F z o0 o1) (vx_runSW (As := [.ref xa, .int (nI t9), .int (nI o9), .int v, .ref oa]) (rest := []) ⟨hx, hb, hml, hown, hts⟩ (w_between_t2 l G _ xa oa _ _ og (nI t9) (nI o9) v (t_X6_between_no2 l hfl G xa _ _ t9 o9 ht9 ho9 v hw0)) (vx_cwSW 5 hts gL_law_L_between rfl rfl rfl (by decide +kernel) ⟨Nat.le_of_ble_eq_true rfl, Nat.le_of_ble_eq_true rfl⟩) (lxS1 (pre := mW G A th (nI z) (nI ln) dg f sl ik sv sg pl) (mid := oW G oa og ++ cW G xa so b ce a hh sg ln mk cs up fo tn w t lo hi me (nI n) qu gu ri re P F z o0 o1) hK hN hX (XZ_at hZ0 hS hA) hP hD) rfl rfl hl.1 rfl (lv_room (Nat.le_of_ble_eq_true rfl)) dL_law_920 ⟨by show 100 + 7 * j + 1 ≤ 601024; omega, by show 2000 + 64 * j + 6 ≤ 7293034; omega⟩) hP hD hS hA (fun r6 u6 H locs hw6 hP9 hD9 hS => ?_)
  have hw6 : r6 = nI 2 := hw6
  subst hw6
  have hP : PP G (mW G A th (nI z) (nI ln) dg f sl ik sv sg pl ++ (oW G oa og ++ cW G xa so b ce a hh sg ln mk cs up fo tn w t lo hi me (nI n) qu gu ri re P F z o0 o1)) _ := hP9
  have hD : va_D Ar (mW G A th (nI z) (nI ln) dg f sl ik sv sg pl ++ (oW G oa og ++ cW G xa so b ce a hh sg ln mk cs up fo tn w t lo hi me (nI n) qu gu ri re P F z o0 o1)) := hD9
  refine lv_istore (lv' := [(5, .int (nI 2)), (0, .ref b9), (1, .ref xa), (2, .ref (A 0)), (3, .ref oa), (4, .int (nI (4 * j)))]) hx hb dL_law_923 hl (by decide) rfl (fun ls hl => ?_)
  refine lv_aload_n hx hb dL_law_925 rfl (lv_at hl 3 rfl) ?_
  refine lv_aload_n hx hb dL_law_926 rfl (lv_at hl 1 rfl) ?_
  refine lv_iload hx hb dL_law_927 (lv_at hl 5 rfl) ?_
  refine lv_iconst (v := nI 1) hx hb dL_law_929 (by decide) ?_
  refine lv_iadd hx hb dL_law_930 ?_
  refine lv_cgi (y := nI ((4 * j) + 1)) (nI_add _ _) ?_
  refine va_sld hx hb hXs hbl hbA hS (vp_in_nI (by omega) (by omega)) dL_law_931 ?_
  refine lv_cgi (y := nI t9) (by rw [nI_clamp (by omega)]; exact hp0) ?_
  refine lv_aload_n hx hb dL_law_932 rfl (lv_at hl 1 rfl) ?_
  refine lv_iload hx hb dL_law_933 (lv_at hl 5 rfl) ?_
  refine lv_iconst (v := nI 2) hx hb dL_law_935 (by decide) ?_
  refine lv_iadd hx hb dL_law_936 ?_
  refine lv_cgi (y := nI ((4 * j) + 2)) (nI_add _ _) ?_
  refine va_sld hx hb hXs hbl hbA hS (vp_in_nI (by omega) (by omega)) dL_law_937 ?_
  refine lv_cgi (y := nI o9) (by rw [nI_clamp (by omega)]; exact hp1) ?_
  refine lv_aload_n hx hb dL_law_938 rfl (lv_at hl 1 rfl) ?_
  refine lv_iload hx hb dL_law_939 (lv_at hl 5 rfl) ?_
  refine lv_iconst (v := nI 3) hx hb dL_law_941 (by decide) ?_
  refine lv_iadd hx hb dL_law_942 ?_
  refine lv_cgi (y := nI ((4 * j) + 3)) (nI_add _ _) ?_
  refine va_sld hx hb hXs hbl hbA hS (vp_in_nI (by omega) (by omega)) dL_law_943 ?_
  refine lv_cgi (y := v) (by rw [nI_clamp (by omega)]; exact hp2) ?_
  refine wr_goi (pre := []) (mid := mW G A th (nI z) (nI ln) dg f sl ik sv sg pl) (suf := oW G oa og ++ cW G xa so b ce a hh sg ln mk cs up fo tn w t lo hi me (nI n) qu gu ri re P F z o0 o1) (va_runV (As := [.int (nI t9), .int (nI o9), .int v]) (rest := []) ⟨hx, hb, hml, hown, hts⟩ (c_X7_between_no2 l G _ A th (nI z) (nI ln) dg f sl ik sv sg pl (nI t9) (nI o9) v (inB_n (Nat.zero_le _) (by omega) (by decide)) (inB_n (Nat.zero_le _) (by omega) (by decide)) hw0) (cwV 3 hts gL_law_X7_between rfl rfl rfl (by decide +kernel) ⟨Nat.le_of_ble_eq_true rfl, Nat.le_of_ble_eq_true rfl⟩) (wV (pre := []) (mid := mW G A th (nI z) (nI ln) dg f sl ik sv sg pl) (suf := oW G oa og ++ cW G xa so b ce a hh sg ln mk cs up fo tn w t lo hi me (nI n) qu gu ri re P F z o0 o1) (va_recv (ws := mW G A th (nI z) (nI ln) dg f sl ik sv sg pl ++ (oW G oa og ++ cW G xa so b ce a hh sg ln mk cs up fo tn w t lo hi me (nI n) qu gu ri re P F z o0 o1)) hK hP (ci := 6) (q0 := 0) rfl rfl) hK hN hP hD) rfl rfl hl.1 rfl (lv_room (Nat.le_of_ble_eq_true rfl)) dL_law_944 ⟨by show 100 + 7 * j + 1 + 0 ≤ 601024; omega, by show 2000 + 64 * j + 6 + 0 ≤ 7293034; omega⟩) hP hD hS hA (fun r7 u7 H locs hw7 hP9 hD9 hS => ?_)
  have hw7 : r7 = nI 0 := hw7
  subst hw7
  have hP : PP G (mW G A (nI 2) (nI z) (nI ln) dg f sl ik sv sg pl ++ (oW G oa og ++ cW G xa so b ce a hh sg ln mk cs up fo tn w t lo hi me (nI n) qu gu ri re P F z o0 o1)) _ := hP9
  have hD : va_D Ar (mW G A (nI 2) (nI z) (nI ln) dg f sl ik sv sg pl ++ (oW G oa og ++ cW G xa so b ce a hh sg ln mk cs up fo tn w t lo hi me (nI n) qu gu ri re P F z o0 o1)) := hD9
  refine lv_istore (lv' := [(6, .int (nI 0)), (5, .int (nI 2)), (0, .ref b9), (1, .ref xa), (2, .ref (A 0)), (3, .ref oa), (4, .int (nI (4 * j)))]) hx hb dL_law_947 hl (by decide) rfl (fun ls hl => ?_)
  refine lv_aload_n hx hb dL_law_949 rfl (lv_at hl 4 rfl) ?_
  refine rd_go (va_runV (As := []) (rest := []) ⟨hx, hb, hml, hown, hts⟩ (c_X7_thrown l G A (nI 2) (nI z) (nI ln) dg f sl ik sv sg pl) (cwV 0 hts gL_law_X7_thrown rfl rfl rfl (by decide +kernel) ⟨Nat.le_of_ble_eq_true rfl, Nat.le_of_ble_eq_true rfl⟩) (rV (ws := mW G A (nI 2) (nI z) (nI ln) dg f sl ik sv sg pl) (va_recv (ws := mW G A (nI 2) (nI z) (nI ln) dg f sl ik sv sg pl ++ (oW G oa og ++ cW G xa so b ce a hh sg ln mk cs up fo tn w t lo hi me (nI n) qu gu ri re P F z o0 o1)) hK hP (ci := 6) (q0 := 0) rfl rfl) hK hN (P_mid (pre := []) (mid := mW G A (nI 2) (nI z) (nI ln) dg f sl ik sv sg pl) (suf := oW G oa og ++ cW G xa so b ce a hh sg ln mk cs up fo tn w t lo hi me (nI n) qu gu ri re P F z o0 o1) hP)) rfl rfl hl.1 rfl (lv_room (Nat.le_of_ble_eq_true rfl)) dL_law_950 ⟨by show 100 + 7 * j + 1 + 0 + 0 ≤ 601024; omega, by show 2000 + 64 * j + 6 + 0 + 0 ≤ 7293034; omega⟩) ?_
  refine lv_iload hx hb dL_law_953 (lv_at hl 1 rfl) ?_
  refine lv_icmp_eq (tgt := 960) hx hb dL_law_955 (by decide) (fun c_955 => ?_) (fun c_955 => by exact absurd c_955 (by decide))
  refine lv_iload hx hb dL_law_960 (lv_at hl 1 rfl) ?_
  refine lv_if_ne (tgt := 977) hx hb dL_law_962 (by decide) (fun c_962 => ?_) (fun c_962 => by exact absurd c_962 (by decide))
  refine lv_goto (tgt := 1297) hx hb dL_law_977 (by decide) ?_
  refine lv_iinc (v := nI (4 * (j + 1))) (lv' := [(4, .int (nI (4 * (j + 1)))), (6, .int (nI 0)), (5, .int (nI 2)), (0, .ref b9), (1, .ref xa), (2, .ref (A 0)), (3, .ref oa)]) hx hb dL_law_1297 hl (k := 6) rfl (iinc4 (4 * j)) (by decide) rfl (fun ls hl => ?_)
  refine lv_goto (tgt := 23) hx hb dL_law_1300 (by decide) ?_
  refine W.widen (k := 100 + 7 * (j + 1)) (n := 2000 + 64 * (j + 1)) (by omega) (by omega) ?_
  exact hHd _ _ _ ⟨og, sg, ln, mk, cs, up, fo, tn, w, t, lo, hi, me, nI n, qu, gu, ri, re, P, F, z, o0, o1, nI 2, dg, f, sl, ik, sv, pl, rfl, hln, hz, (RG_mono (Nat.le_succ _) (RG_of hRS)), (cen_of hn hcv), (HI_mono (Nat.le_succ _) hHI), (SLr_mono (Nat.le_succ _) hs0), (SLr_mono (Nat.le_succ _) hs1)⟩ hP hD hS ls (lv_sub hl [3, 4, 5, 6, 0] rfl)

set_option maxHeartbeats 8000000 in
set_option maxRecDepth 100000 in
theorem L_town_no {p : Program} {l : Launch} {e : Env} {s : State} {m : MethodId} {args : Array Value} {below : List Frame} {meth : Method} {cd : Code} {Q : State → Prop} {G : GG} {Ar : Nat → Prop} {b9 L : Nat} {xs : Nat → Int32} {xa so oa : Nat} {b ce a hh A : Nat → Nat} (hE : LE9 p l s m args cd G Ar b9 L xs) {j : Nat} (hj : 4 * j + 4 ≤ L) (hL : L ≤ 2048) (hHd : LH p l e s m args below meth cd Q G Ar b9 xa so oa b ce a hh A (j + 1))
    (og : Nat → Int64) (sg : Nat → Int32) (ln : Nat) (hln : ln ≤ 60) (mk : Nat → Int32) (cs up fo tn : Int32) (w t lo hi me : Nat → Int32) (n : Nat) (qu gu ri re : Int32) (P : Nat → Nat → Nat) (F : Nat → Nat → Nat → Int32) (z : Nat) (hz : z ≤ 6) (o0 : SLO) (o1 : SLO) (th : Int32) (dg : Int64) (f sl ik sv pl : Nat → Int32) (x : Int32) (hx0 : ¬ inB x (nI 0) (nI 5))
    (hRS : RS j fo tn w t lo hi me n qu gu ri re f) (hcv : cenV (qS tn lo hi me n) mk cs up) (hHI : HI j z F sv) (hs0 : SLr j o0 (ik 0) sl) (hs1 : SLr j o1 (ik 1) (fun j => sl (58 + j))) (hp0 : xs (4 * j + 1) = x)
    {H : Heap} {locs : List Loc} (hP : PP G (mW G A th (nI z) (nI ln) dg f sl ik sv sg pl ++ (oW G oa og ++ cW G xa so b ce a hh sg ln mk cs up fo tn w t lo hi me (nI n) qu gu ri re P F z o0 o1)) H) (hD : va_D Ar (mW G A th (nI z) (nI ln) dg f sl ik sv sg pl ++ (oW G oa og ++ cW G xa so b ce a hh sg ln mk cs up fo tn w t lo hi me (nI n) qu gu ri re P F z o0 o1))) (hS : va_S Ar s.heap H locs) {ls : Array Slot} (hl : lv_has ls 9 [(0, .ref b9), (1, .ref xa), (2, .ref (A 0)), (3, .ref oa), (4, .int (nI (4 * j)))]) : W p l e room_1 s m args below meth cd H locs (100 + 7 * j) (2000 + 64 * j) Q (F0 m 980 ls []) := by
  obtain ⟨hx, hb, hml, hown, hts, hfl, ⟨hK, hN, hX, hZ0⟩, hA, hXs, hbl, hbA⟩ := id hE
  have hn : n ≤ 12 := hRS.1.1
  have hn17 : f 17 = nI n := hRS.2.1.2.2.1
  have hT : okP t := hRS.2.2.1.2.1
  have hvL : okL lo hi := hRS.2.2.1.2.2.1
  have hvA : okA f := hRS.2.2.1.2.2.2
  have htF : okT f := fun i hi => by rw [hRS.2.1.2.2.2.2 i hi]; exact hT i hi
  refine lv_aload_n hx hb dL_law_980 rfl (lv_at hl 1 rfl) ?_
  refine lv_aload_n hx hb dL_law_981 rfl (lv_at hl 0 rfl) ?_
  refine lv_iload hx hb dL_law_982 (lv_at hl 4 rfl) ?_
  refine lv_iconst (v := nI 1) hx hb dL_law_984 (by decide) ?_
  refine lv_iadd hx hb dL_law_985 ?_
  refine lv_cgi (y := nI ((4 * j) + 1)) (nI_add _ _) ?_
  refine va_sld hx hb hXs hbl hbA hS (vp_in_nI (by omega) (by omega)) dL_law_986 ?_
  refine lv_cgi (y := x) (by rw [nI_clamp (by omega)]; exact hp0) ?_
  refine lv_aload_n hx hb dL_law_987 rfl (lv_at hl 3 rfl) ?_
  refine wr_g1i (pre := mW G A th (nI z) (nI ln) dg f sl ik sv sg pl) (mid := oW G oa og ++ cW G xa so b ce a hh sg ln mk cs up fo tn w t lo hi me (nI n) qu gu ri re P F z o0 o1) (vx_runSW (As := [.ref xa, .int x, .ref oa]) (rest := []) ⟨hx, hb, hml, hown, hts⟩ (w_town_t1 l G _ xa oa _ _ og x (t_X6_town_no l hfl G xa _ _ x hx0)) (vx_cwSW 3 hts gL_law_L_town rfl rfl rfl (by decide +kernel) ⟨Nat.le_of_ble_eq_true rfl, Nat.le_of_ble_eq_true rfl⟩) (lxS1 (pre := mW G A th (nI z) (nI ln) dg f sl ik sv sg pl) (mid := oW G oa og ++ cW G xa so b ce a hh sg ln mk cs up fo tn w t lo hi me (nI n) qu gu ri re P F z o0 o1) hK hN hX (XZ_at hZ0 hS hA) hP hD) rfl rfl hl.1 rfl (lv_room (Nat.le_of_ble_eq_true rfl)) dL_law_988 ⟨by show 100 + 7 * j + 1 ≤ 601024; omega, by show 2000 + 64 * j + 6 ≤ 7293034; omega⟩) hP hD hS hA (fun r6 u6 H locs hw6 hP9 hD9 hS => ?_)
  have hw6 : r6 = nI 1 := hw6
  subst hw6
  have hP : PP G (mW G A th (nI z) (nI ln) dg f sl ik sv sg pl ++ (oW G oa og ++ cW G xa so b ce a hh sg ln mk cs up fo tn w t lo hi me (nI n) qu gu ri re P F z o0 o1)) _ := hP9
  have hD : va_D Ar (mW G A th (nI z) (nI ln) dg f sl ik sv sg pl ++ (oW G oa og ++ cW G xa so b ce a hh sg ln mk cs up fo tn w t lo hi me (nI n) qu gu ri re P F z o0 o1)) := hD9
  refine lv_istore (lv' := [(5, .int (nI 1)), (0, .ref b9), (1, .ref xa), (2, .ref (A 0)), (3, .ref oa), (4, .int (nI (4 * j)))]) hx hb dL_law_991 hl (by decide) rfl (fun ls hl => ?_)
  refine lv_aload_n hx hb dL_law_993 rfl (lv_at hl 3 rfl) ?_
  refine lv_aload_n hx hb dL_law_994 rfl (lv_at hl 1 rfl) ?_
  refine lv_iload hx hb dL_law_995 (lv_at hl 5 rfl) ?_
  refine lv_iconst (v := nI 1) hx hb dL_law_997 (by decide) ?_
  refine lv_iadd hx hb dL_law_998 ?_
  refine lv_cgi (y := nI ((4 * j) + 1)) (nI_add _ _) ?_
  refine va_sld hx hb hXs hbl hbA hS (vp_in_nI (by omega) (by omega)) dL_law_999 ?_
  refine lv_cgi (y := x) (by rw [nI_clamp (by omega)]; exact hp0) ?_
  refine wr_goi (pre := []) (mid := mW G A th (nI z) (nI ln) dg f sl ik sv sg pl) (suf := oW G oa og ++ cW G xa so b ce a hh sg ln mk cs up fo tn w t lo hi me (nI n) qu gu ri re P F z o0 o1) (va_runV (As := [.int x]) (rest := []) ⟨hx, hb, hml, hown, hts⟩ (c_X7_town_no l G _ A th (nI z) (nI ln) dg f sl ik sv sg pl x hx0) (cwV 1 hts gL_law_X7_town rfl rfl rfl (by decide +kernel) ⟨Nat.le_of_ble_eq_true rfl, Nat.le_of_ble_eq_true rfl⟩) (wV (pre := []) (mid := mW G A th (nI z) (nI ln) dg f sl ik sv sg pl) (suf := oW G oa og ++ cW G xa so b ce a hh sg ln mk cs up fo tn w t lo hi me (nI n) qu gu ri re P F z o0 o1) (va_recv (ws := mW G A th (nI z) (nI ln) dg f sl ik sv sg pl ++ (oW G oa og ++ cW G xa so b ce a hh sg ln mk cs up fo tn w t lo hi me (nI n) qu gu ri re P F z o0 o1)) hK hP (ci := 6) (q0 := 0) rfl rfl) hK hN hP hD) rfl rfl hl.1 rfl (lv_room (Nat.le_of_ble_eq_true rfl)) dL_law_1000 ⟨by show 100 + 7 * j + 1 + 0 ≤ 601024; omega, by show 2000 + 64 * j + 6 + 0 ≤ 7293034; omega⟩) hP hD hS hA (fun r7 u7 H locs hw7 hP9 hD9 hS => ?_)
  have hw7 : r7 = nI 0 := hw7
  subst hw7
  have hP : PP G (mW G A (nI 1) (nI z) (nI ln) dg f sl ik sv sg pl ++ (oW G oa og ++ cW G xa so b ce a hh sg ln mk cs up fo tn w t lo hi me (nI n) qu gu ri re P F z o0 o1)) _ := hP9
  have hD : va_D Ar (mW G A (nI 1) (nI z) (nI ln) dg f sl ik sv sg pl ++ (oW G oa og ++ cW G xa so b ce a hh sg ln mk cs up fo tn w t lo hi me (nI n) qu gu ri re P F z o0 o1)) := hD9
  refine lv_istore (lv' := [(6, .int (nI 0)), (5, .int (nI 1)), (0, .ref b9), (1, .ref xa), (2, .ref (A 0)), (3, .ref oa), (4, .int (nI (4 * j)))]) hx hb dL_law_1003 hl (by decide) rfl (fun ls hl => ?_)
  refine lv_aload_n hx hb dL_law_1005 rfl (lv_at hl 4 rfl) ?_
  refine rd_go (va_runV (As := []) (rest := []) ⟨hx, hb, hml, hown, hts⟩ (c_X7_thrown l G A (nI 1) (nI z) (nI ln) dg f sl ik sv sg pl) (cwV 0 hts gL_law_X7_thrown rfl rfl rfl (by decide +kernel) ⟨Nat.le_of_ble_eq_true rfl, Nat.le_of_ble_eq_true rfl⟩) (rV (ws := mW G A (nI 1) (nI z) (nI ln) dg f sl ik sv sg pl) (va_recv (ws := mW G A (nI 1) (nI z) (nI ln) dg f sl ik sv sg pl ++ (oW G oa og ++ cW G xa so b ce a hh sg ln mk cs up fo tn w t lo hi me (nI n) qu gu ri re P F z o0 o1)) hK hP (ci := 6) (q0 := 0) rfl rfl) hK hN (P_mid (pre := []) (mid := mW G A (nI 1) (nI z) (nI ln) dg f sl ik sv sg pl) (suf := oW G oa og ++ cW G xa so b ce a hh sg ln mk cs up fo tn w t lo hi me (nI n) qu gu ri re P F z o0 o1) hP)) rfl rfl hl.1 rfl (lv_room (Nat.le_of_ble_eq_true rfl)) dL_law_1006 ⟨by show 100 + 7 * j + 1 + 0 + 0 ≤ 601024; omega, by show 2000 + 64 * j + 6 + 0 + 0 ≤ 7293034; omega⟩) ?_
  refine lv_iload hx hb dL_law_1009 (lv_at hl 1 rfl) ?_
  refine lv_icmp_eq (tgt := 1016) hx hb dL_law_1011 (by decide) (fun c_1011 => ?_) (fun c_1011 => by exact absurd c_1011 (by decide))
  refine lv_iload hx hb dL_law_1016 (lv_at hl 1 rfl) ?_
  refine lv_if_ne (tgt := 1033) hx hb dL_law_1018 (by decide) (fun c_1018 => ?_) (fun c_1018 => by exact absurd c_1018 (by decide))
  refine lv_goto (tgt := 1297) hx hb dL_law_1033 (by decide) ?_
  refine lv_iinc (v := nI (4 * (j + 1))) (lv' := [(4, .int (nI (4 * (j + 1)))), (6, .int (nI 0)), (5, .int (nI 1)), (0, .ref b9), (1, .ref xa), (2, .ref (A 0)), (3, .ref oa)]) hx hb dL_law_1297 hl (k := 6) rfl (iinc4 (4 * j)) (by decide) rfl (fun ls hl => ?_)
  refine lv_goto (tgt := 23) hx hb dL_law_1300 (by decide) ?_
  refine W.widen (k := 100 + 7 * (j + 1)) (n := 2000 + 64 * (j + 1)) (by omega) (by omega) ?_
  exact hHd _ _ _ ⟨og, sg, ln, mk, cs, up, fo, tn, w, t, lo, hi, me, nI n, qu, gu, ri, re, P, F, z, o0, o1, nI 1, dg, f, sl, ik, sv, pl, rfl, hln, hz, (RG_mono (Nat.le_succ _) (RG_of hRS)), (cen_of hn hcv), (HI_mono (Nat.le_succ _) hHI), (SLr_mono (Nat.le_succ _) hs0), (SLr_mono (Nat.le_succ _) hs1)⟩ hP hD hS ls (lv_sub hl [3, 4, 5, 6, 0] rfl)

set_option maxHeartbeats 8000000 in
set_option maxRecDepth 100000 in
theorem L_count_no {p : Program} {l : Launch} {e : Env} {s : State} {m : MethodId} {args : Array Value} {below : List Frame} {meth : Method} {cd : Code} {Q : State → Prop} {G : GG} {Ar : Nat → Prop} {b9 L : Nat} {xs : Nat → Int32} {xa so oa : Nat} {b ce a hh A : Nat → Nat} (hE : LE9 p l s m args cd G Ar b9 L xs) {j : Nat} (hj : 4 * j + 4 ≤ L) (hL : L ≤ 2048) (hHd : LH p l e s m args below meth cd Q G Ar b9 xa so oa b ce a hh A (j + 1))
    (og : Nat → Int64) (sg : Nat → Int32) (ln : Nat) (hln : ln ≤ 60) (mk : Nat → Int32) (cs up fo tn : Int32) (w t lo hi me : Nat → Int32) (n : Nat) (qu gu ri re : Int32) (P : Nat → Nat → Nat) (F : Nat → Nat → Nat → Int32) (z : Nat) (hz : z ≤ 6) (o0 : SLO) (o1 : SLO) (th : Int32) (dg : Int64) (f sl ik sv pl : Nat → Int32) (x : Int32) (hw0 : ¬ inB x (nI 0) (nI 10))
    (hRS : RS j fo tn w t lo hi me n qu gu ri re f) (hcv : cenV (qS tn lo hi me n) mk cs up) (hHI : HI j z F sv) (hs0 : SLr j o0 (ik 0) sl) (hs1 : SLr j o1 (ik 1) (fun j => sl (58 + j))) (hp0 : xs (4 * j + 1) = x)
    {H : Heap} {locs : List Loc} (hP : PP G (mW G A th (nI z) (nI ln) dg f sl ik sv sg pl ++ (oW G oa og ++ cW G xa so b ce a hh sg ln mk cs up fo tn w t lo hi me (nI n) qu gu ri re P F z o0 o1)) H) (hD : va_D Ar (mW G A th (nI z) (nI ln) dg f sl ik sv sg pl ++ (oW G oa og ++ cW G xa so b ce a hh sg ln mk cs up fo tn w t lo hi me (nI n) qu gu ri re P F z o0 o1))) (hS : va_S Ar s.heap H locs) {ls : Array Slot} (hl : lv_has ls 9 [(0, .ref b9), (1, .ref xa), (2, .ref (A 0)), (3, .ref oa), (4, .int (nI (4 * j)))]) : W p l e room_1 s m args below meth cd H locs (100 + 7 * j) (2000 + 64 * j) Q (F0 m 1036 ls []) := by
  obtain ⟨hx, hb, hml, hown, hts, hfl, ⟨hK, hN, hX, hZ0⟩, hA, hXs, hbl, hbA⟩ := id hE
  have hn : n ≤ 12 := hRS.1.1
  have hn17 : f 17 = nI n := hRS.2.1.2.2.1
  have hT : okP t := hRS.2.2.1.2.1
  have hvL : okL lo hi := hRS.2.2.1.2.2.1
  have hvA : okA f := hRS.2.2.1.2.2.2
  have htF : okT f := fun i hi => by rw [hRS.2.1.2.2.2.2 i hi]; exact hT i hi
  refine lv_aload_n hx hb dL_law_1036 rfl (lv_at hl 1 rfl) ?_
  refine lv_aload_n hx hb dL_law_1037 rfl (lv_at hl 0 rfl) ?_
  refine lv_iload hx hb dL_law_1038 (lv_at hl 4 rfl) ?_
  refine lv_iconst (v := nI 1) hx hb dL_law_1040 (by decide) ?_
  refine lv_iadd hx hb dL_law_1041 ?_
  refine lv_cgi (y := nI ((4 * j) + 1)) (nI_add _ _) ?_
  refine va_sld hx hb hXs hbl hbA hS (vp_in_nI (by omega) (by omega)) dL_law_1042 ?_
  refine lv_cgi (y := x) (by rw [nI_clamp (by omega)]; exact hp0) ?_
  refine lv_aload_n hx hb dL_law_1043 rfl (lv_at hl 3 rfl) ?_
  refine wr_g1i (pre := mW G A th (nI z) (nI ln) dg f sl ik sv sg pl) (mid := oW G oa og ++ cW G xa so b ce a hh sg ln mk cs up fo tn w t lo hi me (nI n) qu gu ri re P F z o0 o1) (vx_runSW (As := [.ref xa, .int x, .ref oa]) (rest := []) ⟨hx, hb, hml, hown, hts⟩ (w_count_t1 l G _ xa oa _ _ og x (t_X6_count_no l hfl G xa _ _ x hw0)) (vx_cwSW 3 hts gL_law_L_count rfl rfl rfl (by decide +kernel) ⟨Nat.le_of_ble_eq_true rfl, Nat.le_of_ble_eq_true rfl⟩) (lxS1 (pre := mW G A th (nI z) (nI ln) dg f sl ik sv sg pl) (mid := oW G oa og ++ cW G xa so b ce a hh sg ln mk cs up fo tn w t lo hi me (nI n) qu gu ri re P F z o0 o1) hK hN hX (XZ_at hZ0 hS hA) hP hD) rfl rfl hl.1 rfl (lv_room (Nat.le_of_ble_eq_true rfl)) dL_law_1044 ⟨by show 100 + 7 * j + 1 ≤ 601024; omega, by show 2000 + 64 * j + 6 ≤ 7293034; omega⟩) hP hD hS hA (fun r6 u6 H locs hw6 hP9 hD9 hS => ?_)
  have hw6 : r6 = nI 1 := hw6
  subst hw6
  have hP : PP G (mW G A th (nI z) (nI ln) dg f sl ik sv sg pl ++ (oW G oa og ++ cW G xa so b ce a hh sg ln mk cs up fo tn w t lo hi me (nI n) qu gu ri re P F z o0 o1)) _ := hP9
  have hD : va_D Ar (mW G A th (nI z) (nI ln) dg f sl ik sv sg pl ++ (oW G oa og ++ cW G xa so b ce a hh sg ln mk cs up fo tn w t lo hi me (nI n) qu gu ri re P F z o0 o1)) := hD9
  refine lv_istore (lv' := [(5, .int (nI 1)), (0, .ref b9), (1, .ref xa), (2, .ref (A 0)), (3, .ref oa), (4, .int (nI (4 * j)))]) hx hb dL_law_1047 hl (by decide) rfl (fun ls hl => ?_)
  refine lv_aload_n hx hb dL_law_1049 rfl (lv_at hl 3 rfl) ?_
  refine lv_aload_n hx hb dL_law_1050 rfl (lv_at hl 1 rfl) ?_
  refine lv_iload hx hb dL_law_1051 (lv_at hl 5 rfl) ?_
  refine lv_iconst (v := nI 1) hx hb dL_law_1053 (by decide) ?_
  refine lv_iadd hx hb dL_law_1054 ?_
  refine lv_cgi (y := nI ((4 * j) + 1)) (nI_add _ _) ?_
  refine va_sld hx hb hXs hbl hbA hS (vp_in_nI (by omega) (by omega)) dL_law_1055 ?_
  refine lv_cgi (y := x) (by rw [nI_clamp (by omega)]; exact hp0) ?_
  refine wr_goi (pre := []) (mid := mW G A th (nI z) (nI ln) dg f sl ik sv sg pl) (suf := oW G oa og ++ cW G xa so b ce a hh sg ln mk cs up fo tn w t lo hi me (nI n) qu gu ri re P F z o0 o1) (va_runV (As := [.int x]) (rest := []) ⟨hx, hb, hml, hown, hts⟩ (c_X7_count_no l G _ A th (nI z) (nI ln) dg f sl ik sv sg pl x hw0) (cwV 1 hts gL_law_X7_count rfl rfl rfl (by decide +kernel) ⟨Nat.le_of_ble_eq_true rfl, Nat.le_of_ble_eq_true rfl⟩) (wV (pre := []) (mid := mW G A th (nI z) (nI ln) dg f sl ik sv sg pl) (suf := oW G oa og ++ cW G xa so b ce a hh sg ln mk cs up fo tn w t lo hi me (nI n) qu gu ri re P F z o0 o1) (va_recv (ws := mW G A th (nI z) (nI ln) dg f sl ik sv sg pl ++ (oW G oa og ++ cW G xa so b ce a hh sg ln mk cs up fo tn w t lo hi me (nI n) qu gu ri re P F z o0 o1)) hK hP (ci := 6) (q0 := 0) rfl rfl) hK hN hP hD) rfl rfl hl.1 rfl (lv_room (Nat.le_of_ble_eq_true rfl)) dL_law_1056 ⟨by show 100 + 7 * j + 1 + 0 ≤ 601024; omega, by show 2000 + 64 * j + 6 + 0 ≤ 7293034; omega⟩) hP hD hS hA (fun r7 u7 H locs hw7 hP9 hD9 hS => ?_)
  have hw7 : r7 = nI 0 := hw7
  subst hw7
  have hP : PP G (mW G A (nI 1) (nI z) (nI ln) dg f sl ik sv sg pl ++ (oW G oa og ++ cW G xa so b ce a hh sg ln mk cs up fo tn w t lo hi me (nI n) qu gu ri re P F z o0 o1)) _ := hP9
  have hD : va_D Ar (mW G A (nI 1) (nI z) (nI ln) dg f sl ik sv sg pl ++ (oW G oa og ++ cW G xa so b ce a hh sg ln mk cs up fo tn w t lo hi me (nI n) qu gu ri re P F z o0 o1)) := hD9
  refine lv_istore (lv' := [(6, .int (nI 0)), (5, .int (nI 1)), (0, .ref b9), (1, .ref xa), (2, .ref (A 0)), (3, .ref oa), (4, .int (nI (4 * j)))]) hx hb dL_law_1059 hl (by decide) rfl (fun ls hl => ?_)
  refine lv_aload_n hx hb dL_law_1061 rfl (lv_at hl 4 rfl) ?_
  refine rd_go (va_runV (As := []) (rest := []) ⟨hx, hb, hml, hown, hts⟩ (c_X7_thrown l G A (nI 1) (nI z) (nI ln) dg f sl ik sv sg pl) (cwV 0 hts gL_law_X7_thrown rfl rfl rfl (by decide +kernel) ⟨Nat.le_of_ble_eq_true rfl, Nat.le_of_ble_eq_true rfl⟩) (rV (ws := mW G A (nI 1) (nI z) (nI ln) dg f sl ik sv sg pl) (va_recv (ws := mW G A (nI 1) (nI z) (nI ln) dg f sl ik sv sg pl ++ (oW G oa og ++ cW G xa so b ce a hh sg ln mk cs up fo tn w t lo hi me (nI n) qu gu ri re P F z o0 o1)) hK hP (ci := 6) (q0 := 0) rfl rfl) hK hN (P_mid (pre := []) (mid := mW G A (nI 1) (nI z) (nI ln) dg f sl ik sv sg pl) (suf := oW G oa og ++ cW G xa so b ce a hh sg ln mk cs up fo tn w t lo hi me (nI n) qu gu ri re P F z o0 o1) hP)) rfl rfl hl.1 rfl (lv_room (Nat.le_of_ble_eq_true rfl)) dL_law_1062 ⟨by show 100 + 7 * j + 1 + 0 + 0 ≤ 601024; omega, by show 2000 + 64 * j + 6 + 0 + 0 ≤ 7293034; omega⟩) ?_
  refine lv_iload hx hb dL_law_1065 (lv_at hl 1 rfl) ?_
  refine lv_icmp_eq (tgt := 1072) hx hb dL_law_1067 (by decide) (fun c_1067 => ?_) (fun c_1067 => by exact absurd c_1067 (by decide))
  refine lv_iload hx hb dL_law_1072 (lv_at hl 1 rfl) ?_
  refine lv_if_ne (tgt := 1089) hx hb dL_law_1074 (by decide) (fun c_1074 => ?_) (fun c_1074 => by exact absurd c_1074 (by decide))
  refine lv_goto (tgt := 1297) hx hb dL_law_1089 (by decide) ?_
  refine lv_iinc (v := nI (4 * (j + 1))) (lv' := [(4, .int (nI (4 * (j + 1)))), (6, .int (nI 0)), (5, .int (nI 1)), (0, .ref b9), (1, .ref xa), (2, .ref (A 0)), (3, .ref oa)]) hx hb dL_law_1297 hl (k := 6) rfl (iinc4 (4 * j)) (by decide) rfl (fun ls hl => ?_)
  refine lv_goto (tgt := 23) hx hb dL_law_1300 (by decide) ?_
  refine W.widen (k := 100 + 7 * (j + 1)) (n := 2000 + 64 * (j + 1)) (by omega) (by omega) ?_
  exact hHd _ _ _ ⟨og, sg, ln, mk, cs, up, fo, tn, w, t, lo, hi, me, nI n, qu, gu, ri, re, P, F, z, o0, o1, nI 1, dg, f, sl, ik, sv, pl, rfl, hln, hz, (RG_mono (Nat.le_succ _) (RG_of hRS)), (cen_of hn hcv), (HI_mono (Nat.le_succ _) hHI), (SLr_mono (Nat.le_succ _) hs0), (SLr_mono (Nat.le_succ _) hs1)⟩ hP hD hS ls (lv_sub hl [3, 4, 5, 6, 0] rfl)

set_option maxHeartbeats 8000000 in
set_option maxRecDepth 100000 in
theorem L_folding_no {p : Program} {l : Launch} {e : Env} {s : State} {m : MethodId} {args : Array Value} {below : List Frame} {meth : Method} {cd : Code} {Q : State → Prop} {G : GG} {Ar : Nat → Prop} {b9 L : Nat} {xs : Nat → Int32} {xa so oa : Nat} {b ce a hh A : Nat → Nat} (hE : LE9 p l s m args cd G Ar b9 L xs) {j : Nat} (hj : 4 * j + 4 ≤ L) (hL : L ≤ 2048) (hHd : LH p l e s m args below meth cd Q G Ar b9 xa so oa b ce a hh A (j + 1))
    (og : Nat → Int64) (sg : Nat → Int32) (ln : Nat) (hln : ln ≤ 60) (mk : Nat → Int32) (cs up fo tn : Int32) (w t lo hi me : Nat → Int32) (n : Nat) (qu gu ri re : Int32) (P : Nat → Nat → Nat) (F : Nat → Nat → Nat → Int32) (z : Nat) (hz : z ≤ 6) (o0 : SLO) (o1 : SLO) (th : Int32) (dg : Int64) (f sl ik sv pl : Nat → Int32) (x : Int32) (hx0 : x < 0)
    (hRS : RS j fo tn w t lo hi me n qu gu ri re f) (hcv : cenV (qS tn lo hi me n) mk cs up) (hHI : HI j z F sv) (hs0 : SLr j o0 (ik 0) sl) (hs1 : SLr j o1 (ik 1) (fun j => sl (58 + j))) (hp0 : xs (4 * j + 1) = x)
    {H : Heap} {locs : List Loc} (hP : PP G (mW G A th (nI z) (nI ln) dg f sl ik sv sg pl ++ (oW G oa og ++ cW G xa so b ce a hh sg ln mk cs up fo tn w t lo hi me (nI n) qu gu ri re P F z o0 o1)) H) (hD : va_D Ar (mW G A th (nI z) (nI ln) dg f sl ik sv sg pl ++ (oW G oa og ++ cW G xa so b ce a hh sg ln mk cs up fo tn w t lo hi me (nI n) qu gu ri re P F z o0 o1))) (hS : va_S Ar s.heap H locs) {ls : Array Slot} (hl : lv_has ls 9 [(0, .ref b9), (1, .ref xa), (2, .ref (A 0)), (3, .ref oa), (4, .int (nI (4 * j)))]) : W p l e room_1 s m args below meth cd H locs (100 + 7 * j) (2000 + 64 * j) Q (F0 m 1173 ls []) := by
  obtain ⟨hx, hb, hml, hown, hts, hfl, ⟨hK, hN, hX, hZ0⟩, hA, hXs, hbl, hbA⟩ := id hE
  have hn : n ≤ 12 := hRS.1.1
  have hn17 : f 17 = nI n := hRS.2.1.2.2.1
  have hT : okP t := hRS.2.2.1.2.1
  have hvL : okL lo hi := hRS.2.2.1.2.2.1
  have hvA : okA f := hRS.2.2.1.2.2.2
  have htF : okT f := fun i hi => by rw [hRS.2.1.2.2.2.2 i hi]; exact hT i hi
  refine lv_aload_n hx hb dL_law_1173 rfl (lv_at hl 1 rfl) ?_
  refine lv_aload_n hx hb dL_law_1174 rfl (lv_at hl 0 rfl) ?_
  refine lv_iload hx hb dL_law_1175 (lv_at hl 4 rfl) ?_
  refine lv_iconst (v := nI 1) hx hb dL_law_1177 (by decide) ?_
  refine lv_iadd hx hb dL_law_1178 ?_
  refine lv_cgi (y := nI ((4 * j) + 1)) (nI_add _ _) ?_
  refine va_sld hx hb hXs hbl hbA hS (vp_in_nI (by omega) (by omega)) dL_law_1179 ?_
  refine lv_cgi (y := x) (by rw [nI_clamp (by omega)]; exact hp0) ?_
  refine lv_aload_n hx hb dL_law_1180 rfl (lv_at hl 3 rfl) ?_
  refine wr_g1i (pre := mW G A th (nI z) (nI ln) dg f sl ik sv sg pl) (mid := oW G oa og ++ cW G xa so b ce a hh sg ln mk cs up fo tn w t lo hi me (nI n) qu gu ri re P F z o0 o1) (vx_runSW (As := [.ref xa, .int x, .ref oa]) (rest := []) ⟨hx, hb, hml, hown, hts⟩ (w_folding_t1 l G _ xa oa _ _ og x (t_X6_folding_no l hfl G xa _ _ x hx0)) (vx_cwSW 3 hts gL_law_L_folding rfl rfl rfl (by decide +kernel) ⟨Nat.le_of_ble_eq_true rfl, Nat.le_of_ble_eq_true rfl⟩) (lxS1 (pre := mW G A th (nI z) (nI ln) dg f sl ik sv sg pl) (mid := oW G oa og ++ cW G xa so b ce a hh sg ln mk cs up fo tn w t lo hi me (nI n) qu gu ri re P F z o0 o1) hK hN hX (XZ_at hZ0 hS hA) hP hD) rfl rfl hl.1 rfl (lv_room (Nat.le_of_ble_eq_true rfl)) dL_law_1181 ⟨by show 100 + 7 * j + 1 ≤ 601024; omega, by show 2000 + 64 * j + 6 ≤ 7293034; omega⟩) hP hD hS hA (fun r6 u6 H locs hw6 hP9 hD9 hS => ?_)
  have hw6 : r6 = nI 1 := hw6
  subst hw6
  have hP : PP G (mW G A th (nI z) (nI ln) dg f sl ik sv sg pl ++ (oW G oa og ++ cW G xa so b ce a hh sg ln mk cs up fo tn w t lo hi me (nI n) qu gu ri re P F z o0 o1)) _ := hP9
  have hD : va_D Ar (mW G A th (nI z) (nI ln) dg f sl ik sv sg pl ++ (oW G oa og ++ cW G xa so b ce a hh sg ln mk cs up fo tn w t lo hi me (nI n) qu gu ri re P F z o0 o1)) := hD9
  refine lv_istore (lv' := [(5, .int (nI 1)), (0, .ref b9), (1, .ref xa), (2, .ref (A 0)), (3, .ref oa), (4, .int (nI (4 * j)))]) hx hb dL_law_1184 hl (by decide) rfl (fun ls hl => ?_)
  refine lv_aload_n hx hb dL_law_1186 rfl (lv_at hl 3 rfl) ?_
  refine lv_aload_n hx hb dL_law_1187 rfl (lv_at hl 1 rfl) ?_
  refine lv_iload hx hb dL_law_1188 (lv_at hl 5 rfl) ?_
  refine lv_iconst (v := nI 1) hx hb dL_law_1190 (by decide) ?_
  refine lv_iadd hx hb dL_law_1191 ?_
  refine lv_cgi (y := nI ((4 * j) + 1)) (nI_add _ _) ?_
  refine va_sld hx hb hXs hbl hbA hS (vp_in_nI (by omega) (by omega)) dL_law_1192 ?_
  refine lv_cgi (y := x) (by rw [nI_clamp (by omega)]; exact hp0) ?_
  refine wr_goi (pre := []) (mid := mW G A th (nI z) (nI ln) dg f sl ik sv sg pl) (suf := oW G oa og ++ cW G xa so b ce a hh sg ln mk cs up fo tn w t lo hi me (nI n) qu gu ri re P F z o0 o1) (va_runV (As := [.int x]) (rest := []) ⟨hx, hb, hml, hown, hts⟩ (c_X7_folding_no l G _ A th (nI z) (nI ln) dg f sl ik sv sg pl x hx0) (cwV 1 hts gL_law_X7_folding rfl rfl rfl (by decide +kernel) ⟨Nat.le_of_ble_eq_true rfl, Nat.le_of_ble_eq_true rfl⟩) (wV (pre := []) (mid := mW G A th (nI z) (nI ln) dg f sl ik sv sg pl) (suf := oW G oa og ++ cW G xa so b ce a hh sg ln mk cs up fo tn w t lo hi me (nI n) qu gu ri re P F z o0 o1) (va_recv (ws := mW G A th (nI z) (nI ln) dg f sl ik sv sg pl ++ (oW G oa og ++ cW G xa so b ce a hh sg ln mk cs up fo tn w t lo hi me (nI n) qu gu ri re P F z o0 o1)) hK hP (ci := 6) (q0 := 0) rfl rfl) hK hN hP hD) rfl rfl hl.1 rfl (lv_room (Nat.le_of_ble_eq_true rfl)) dL_law_1193 ⟨by show 100 + 7 * j + 1 + 0 ≤ 601024; omega, by show 2000 + 64 * j + 6 + 0 ≤ 7293034; omega⟩) hP hD hS hA (fun r7 u7 H locs hw7 hP9 hD9 hS => ?_)
  have hw7 : r7 = nI 0 := hw7
  subst hw7
  have hP : PP G (mW G A (nI 1) (nI z) (nI ln) dg f sl ik sv sg pl ++ (oW G oa og ++ cW G xa so b ce a hh sg ln mk cs up fo tn w t lo hi me (nI n) qu gu ri re P F z o0 o1)) _ := hP9
  have hD : va_D Ar (mW G A (nI 1) (nI z) (nI ln) dg f sl ik sv sg pl ++ (oW G oa og ++ cW G xa so b ce a hh sg ln mk cs up fo tn w t lo hi me (nI n) qu gu ri re P F z o0 o1)) := hD9
  refine lv_istore (lv' := [(6, .int (nI 0)), (5, .int (nI 1)), (0, .ref b9), (1, .ref xa), (2, .ref (A 0)), (3, .ref oa), (4, .int (nI (4 * j)))]) hx hb dL_law_1196 hl (by decide) rfl (fun ls hl => ?_)
  refine lv_aload_n hx hb dL_law_1198 rfl (lv_at hl 4 rfl) ?_
  refine rd_go (va_runV (As := []) (rest := []) ⟨hx, hb, hml, hown, hts⟩ (c_X7_thrown l G A (nI 1) (nI z) (nI ln) dg f sl ik sv sg pl) (cwV 0 hts gL_law_X7_thrown rfl rfl rfl (by decide +kernel) ⟨Nat.le_of_ble_eq_true rfl, Nat.le_of_ble_eq_true rfl⟩) (rV (ws := mW G A (nI 1) (nI z) (nI ln) dg f sl ik sv sg pl) (va_recv (ws := mW G A (nI 1) (nI z) (nI ln) dg f sl ik sv sg pl ++ (oW G oa og ++ cW G xa so b ce a hh sg ln mk cs up fo tn w t lo hi me (nI n) qu gu ri re P F z o0 o1)) hK hP (ci := 6) (q0 := 0) rfl rfl) hK hN (P_mid (pre := []) (mid := mW G A (nI 1) (nI z) (nI ln) dg f sl ik sv sg pl) (suf := oW G oa og ++ cW G xa so b ce a hh sg ln mk cs up fo tn w t lo hi me (nI n) qu gu ri re P F z o0 o1) hP)) rfl rfl hl.1 rfl (lv_room (Nat.le_of_ble_eq_true rfl)) dL_law_1199 ⟨by show 100 + 7 * j + 1 + 0 + 0 ≤ 601024; omega, by show 2000 + 64 * j + 6 + 0 + 0 ≤ 7293034; omega⟩) ?_
  refine lv_iload hx hb dL_law_1202 (lv_at hl 1 rfl) ?_
  refine lv_icmp_eq (tgt := 1209) hx hb dL_law_1204 (by decide) (fun c_1204 => ?_) (fun c_1204 => by exact absurd c_1204 (by decide))
  refine lv_iload hx hb dL_law_1209 (lv_at hl 1 rfl) ?_
  refine lv_if_ne (tgt := 1226) hx hb dL_law_1211 (by decide) (fun c_1211 => ?_) (fun c_1211 => by exact absurd c_1211 (by decide))
  refine lv_goto (tgt := 1297) hx hb dL_law_1226 (by decide) ?_
  refine lv_iinc (v := nI (4 * (j + 1))) (lv' := [(4, .int (nI (4 * (j + 1)))), (6, .int (nI 0)), (5, .int (nI 1)), (0, .ref b9), (1, .ref xa), (2, .ref (A 0)), (3, .ref oa)]) hx hb dL_law_1297 hl (k := 6) rfl (iinc4 (4 * j)) (by decide) rfl (fun ls hl => ?_)
  refine lv_goto (tgt := 23) hx hb dL_law_1300 (by decide) ?_
  refine W.widen (k := 100 + 7 * (j + 1)) (n := 2000 + 64 * (j + 1)) (by omega) (by omega) ?_
  exact hHd _ _ _ ⟨og, sg, ln, mk, cs, up, fo, tn, w, t, lo, hi, me, nI n, qu, gu, ri, re, P, F, z, o0, o1, nI 1, dg, f, sl, ik, sv, pl, rfl, hln, hz, (RG_mono (Nat.le_succ _) (RG_of hRS)), (cen_of hn hcv), (HI_mono (Nat.le_succ _) hHI), (SLr_mono (Nat.le_succ _) hs0), (SLr_mono (Nat.le_succ _) hs1)⟩ hP hD hS ls (lv_sub hl [3, 4, 5, 6, 0] rfl)

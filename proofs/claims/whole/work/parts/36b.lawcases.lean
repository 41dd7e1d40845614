set_option maxHeartbeats 8000000 in
set_option maxRecDepth 100000 in
theorem L_between {p : Program} {l : Launch} {e : Env} {s : State} {m : MethodId} {args : Array Value} {below : List Frame} {meth : Method} {cd : Code} {Q : State → Prop} {G : GG} {Ar : Nat → Prop} {b9 L : Nat} {xs : Nat → Int32} {xa so oa : Nat} {b ce a hh A : Nat → Nat} (hE : LE9 p l s m args cd G Ar b9 L xs) {j : Nat} (hj : 4 * j + 4 ≤ L) (hL : L ≤ 2048) (hHd : LH p l e s m args below meth cd Q G Ar b9 xa so oa b ce a hh A (j + 1))
    (og : Nat → Int64) (sg : Nat → Int32) (ln : Nat) (hln : ln ≤ 60) (mk : Nat → Int32) (cs up fo tn : Int32) (w t lo hi me : Nat → Int32) (n : Nat) (qu gu ri re : Int32) (P : Nat → Nat → Nat) (F : Nat → Nat → Nat → Int32) (z : Nat) (hz : z ≤ 6) (o0 : SLO) (o1 : SLO) (th : Int32) (dg : Int64) (f sl ik sv pl : Nat → Int32) (i o : Nat) (hi6 : i < 6) (ho : o < 6) (v : Nat) (hv3 : v ≤ 3)
    (hRS : RS j fo tn w t lo hi me n qu gu ri re f) (hcv : cenV (qS tn lo hi me n) mk cs up) (hHI : HI j z F sv) (hs0 : SLr j o0 (ik 0) sl) (hs1 : SLr j o1 (ik 1) (fun j => sl (58 + j))) (hp0 : xs (4 * j + 1) = nI i) (hp1 : xs (4 * j + 2) = nI o) (hp2 : xs (4 * j + 3) = nI v)
    {H : Heap} {locs : List Loc} (hP : PP G (mW G A th (nI z) (nI ln) dg f sl ik sv sg pl ++ (oW G oa og ++ cW G xa so b ce a hh sg ln mk cs up fo tn w t lo hi me (nI n) qu gu ri re P F z o0 o1)) H) (hD : va_D Ar (mW G A th (nI z) (nI ln) dg f sl ik sv sg pl ++ (oW G oa og ++ cW G xa so b ce a hh sg ln mk cs up fo tn w t lo hi me (nI n) qu gu ri re P F z o0 o1))) (hS : va_S Ar s.heap H locs) {ls : Array Slot} (hl : lv_has ls 9 [(0, .ref b9), (1, .ref xa), (2, .ref (A 0)), (3, .ref oa), (4, .int (nI (4 * j)))]) : W p l e room_1 s m args below meth cd H locs (100 + 7 * j) (2000 + 64 * j) Q (F0 m 900 ls []) := by
  obtain ⟨hx, hb, hml, hown, hts, hfl, ⟨hK, hN, hX, hZ0⟩, hA, hXs, hbl, hbA⟩ := id hE
  have hn : n ≤ 12 := hRS.1.1
  have hn17 : f 17 = nI n := hRS.2.1.2.2.1
  have hT : okP t := hRS.2.2.1.2.1
  have hvL : okL lo hi := hRS.2.2.1.2.2.1
  have hvA : okA f := hRS.2.2.1.2.2.2
  have htF : okT f := fun i hi => by rw [hRS.2.1.2.2.2.2 i hi]; exact hT i hi
  refine lv_aload_n hx hb dL_law_900 rfl (lv_at hl 1 rfl) ?_
  refine lv_aload_n hx hb dL_law_901 rfl (lv_at hl 0 rfl) ?_
  refine lv_iload hx hb dL_law_902 (lv_at hl 4 rfl) ?_
  refine lv_iconst (v := nI 1) hx hb dL_law_904 (by decide) ?_
  refine lv_iadd hx hb dL_law_905 ?_
  refine lv_cgi (y := nI ((4 * j) + 1)) (nI_add _ _) ?_
  refine va_sld hx hb hXs hbl hbA hS (vp_in_nI (by omega) (by omega)) dL_law_906 ?_
  refine lv_cgi (y := nI i) (by rw [nI_clamp (by omega)]; exact hp0) ?_
  refine lv_aload_n hx hb dL_law_907 rfl (lv_at hl 0 rfl) ?_
  refine lv_iload hx hb dL_law_908 (lv_at hl 4 rfl) ?_
  refine lv_iconst (v := nI 2) hx hb dL_law_910 (by decide) ?_
  refine lv_iadd hx hb dL_law_911 ?_
  refine lv_cgi (y := nI ((4 * j) + 2)) (nI_add _ _) ?_
  refine va_sld hx hb hXs hbl hbA hS (vp_in_nI (by omega) (by omega)) dL_law_912 ?_
  refine lv_cgi (y := nI o) (by rw [nI_clamp (by omega)]; exact hp1) ?_
  refine lv_aload_n hx hb dL_law_913 rfl (lv_at hl 0 rfl) ?_
  refine lv_iload hx hb dL_law_914 (lv_at hl 4 rfl) ?_
  refine lv_iconst (v := nI 3) hx hb dL_law_916 (by decide) ?_
  refine lv_iadd hx hb dL_law_917 ?_
  refine lv_cgi (y := nI ((4 * j) + 3)) (nI_add _ _) ?_
  refine va_sld hx hb hXs hbl hbA hS (vp_in_nI (by omega) (by omega)) dL_law_918 ?_
  refine lv_cgi (y := nI v) (by rw [nI_clamp (by omega)]; exact hp2) ?_
  refine lv_aload_n hx hb dL_law_919 rfl (lv_at hl 3 rfl) ?_
  refine wr_g1i (pre := mW G A th (nI z) (nI ln) dg f sl ik sv sg pl) (mid := oW G oa og ++ cW G xa so b ce a hh sg ln mk cs up fo tn w t lo hi me (nI n) qu gu ri re P F z o0 o1) (vx_runSW (As := [.ref xa, .int (nI i), .int (nI o), .int (nI v), .ref oa]) (rest := []) ⟨hx, hb, hml, hown, hts⟩ (w_between_ok l G _ xa oa _ _ og (nI i) (nI o) (nI v) (rd_wr (c_X6_between l G xa so b ce a hh sg ln hln mk cs up fo tn w t lo hi me n hn qu gu ri re P F z hz o0 o1 i o hi6 ho (hT i hi6) (hT o ho) v hv3))) (vx_cwSW 5 hts gL_law_L_between rfl rfl rfl (by decide +kernel) ⟨Nat.le_of_ble_eq_true rfl, Nat.le_of_ble_eq_true rfl⟩) (lxS1 (pre := mW G A th (nI z) (nI ln) dg f sl ik sv sg pl) (mid := oW G oa og ++ cW G xa so b ce a hh sg ln mk cs up fo tn w t lo hi me (nI n) qu gu ri re P F z o0 o1) hK hN hX (XZ_at hZ0 hS hA) hP hD) rfl rfl hl.1 rfl (lv_room (Nat.le_of_ble_eq_true rfl)) dL_law_920 ⟨by show 100 + 7 * j + 0 ≤ 601024; omega, by show 2000 + 64 * j + 0 ≤ 7293034; omega⟩) hP hD hS hA (fun r6 u6 H locs hw6 hP9 hD9 hS => ?_)
  obtain ⟨v6, u6⟩ := u6
  have hw6 : r6 = nI 0 ∧ v6 = obC fo t lo hi me n i o v := hw6
  obtain ⟨rfl, rfl⟩ := hw6
  have hP : PP G (mW G A th (nI z) (nI ln) dg f sl ik sv sg pl ++ (oW G oa (vp_updL og 0 ((obC fo t lo hi me n i o v).toInt64)) ++ cW G xa so b ce a hh sg ln mk cs up fo tn w t lo hi me (nI n) qu gu ri re P F z o0 o1)) _ := hP9
  have hD : va_D Ar (mW G A th (nI z) (nI ln) dg f sl ik sv sg pl ++ (oW G oa (vp_updL og 0 ((obC fo t lo hi me n i o v).toInt64)) ++ cW G xa so b ce a hh sg ln mk cs up fo tn w t lo hi me (nI n) qu gu ri re P F z o0 o1)) := hD9
  refine lv_istore (lv' := [(5, .int (nI 0)), (0, .ref b9), (1, .ref xa), (2, .ref (A 0)), (3, .ref oa), (4, .int (nI (4 * j)))]) hx hb dL_law_923 hl (by decide) rfl (fun ls hl => ?_)
  refine lv_aload_n hx hb dL_law_925 rfl (lv_at hl 3 rfl) ?_
  refine lv_aload_n hx hb dL_law_926 rfl (lv_at hl 1 rfl) ?_
  refine lv_iload hx hb dL_law_927 (lv_at hl 5 rfl) ?_
  refine lv_iconst (v := nI 1) hx hb dL_law_929 (by decide) ?_
  refine lv_iadd hx hb dL_law_930 ?_
  refine lv_cgi (y := nI ((4 * j) + 1)) (nI_add _ _) ?_
  refine va_sld hx hb hXs hbl hbA hS (vp_in_nI (by omega) (by omega)) dL_law_931 ?_
  refine lv_cgi (y := nI i) (by rw [nI_clamp (by omega)]; exact hp0) ?_
  refine lv_aload_n hx hb dL_law_932 rfl (lv_at hl 1 rfl) ?_
  refine lv_iload hx hb dL_law_933 (lv_at hl 5 rfl) ?_
  refine lv_iconst (v := nI 2) hx hb dL_law_935 (by decide) ?_
  refine lv_iadd hx hb dL_law_936 ?_
  refine lv_cgi (y := nI ((4 * j) + 2)) (nI_add _ _) ?_
  refine va_sld hx hb hXs hbl hbA hS (vp_in_nI (by omega) (by omega)) dL_law_937 ?_
  refine lv_cgi (y := nI o) (by rw [nI_clamp (by omega)]; exact hp1) ?_
  refine lv_aload_n hx hb dL_law_938 rfl (lv_at hl 1 rfl) ?_
  refine lv_iload hx hb dL_law_939 (lv_at hl 5 rfl) ?_
  refine lv_iconst (v := nI 3) hx hb dL_law_941 (by decide) ?_
  refine lv_iadd hx hb dL_law_942 ?_
  refine lv_cgi (y := nI ((4 * j) + 3)) (nI_add _ _) ?_
  refine va_sld hx hb hXs hbl hbA hS (vp_in_nI (by omega) (by omega)) dL_law_943 ?_
  refine lv_cgi (y := nI v) (by rw [nI_clamp (by omega)]; exact hp2) ?_
  refine wr_goi (pre := []) (mid := mW G A th (nI z) (nI ln) dg f sl ik sv sg pl) (suf := oW G oa (vp_updL og 0 ((obC fo t lo hi me n i o v).toInt64)) ++ cW G xa so b ce a hh sg ln mk cs up fo tn w t lo hi me (nI n) qu gu ri re P F z o0 o1) (va_runV (As := [.int (nI i), .int (nI o), .int (nI v)]) (rest := []) ⟨hx, hb, hml, hown, hts⟩ (c_X7_between l G _ A th (nI z) (nI ln) dg f sl ik sv sg pl n hn17 hn hvA htF i o hi6 ho v hv3) (cwV 3 hts gL_law_X7_between rfl rfl rfl (by decide +kernel) ⟨Nat.le_of_ble_eq_true rfl, Nat.le_of_ble_eq_true rfl⟩) (wV (pre := []) (mid := mW G A th (nI z) (nI ln) dg f sl ik sv sg pl) (suf := oW G oa (vp_updL og 0 ((obC fo t lo hi me n i o v).toInt64)) ++ cW G xa so b ce a hh sg ln mk cs up fo tn w t lo hi me (nI n) qu gu ri re P F z o0 o1) (va_recv (ws := mW G A th (nI z) (nI ln) dg f sl ik sv sg pl ++ (oW G oa (vp_updL og 0 ((obC fo t lo hi me n i o v).toInt64)) ++ cW G xa so b ce a hh sg ln mk cs up fo tn w t lo hi me (nI n) qu gu ri re P F z o0 o1)) hK hP (ci := 6) (q0 := 0) rfl rfl) hK hN hP hD) rfl rfl hl.1 rfl (lv_room (Nat.le_of_ble_eq_true rfl)) dL_law_944 ⟨by show 100 + 7 * j + 0 + 0 ≤ 601024; omega, by show 2000 + 64 * j + 0 + 0 ≤ 7293034; omega⟩) hP hD hS hA (fun r7 u7 H locs hw7 hP9 hD9 hS => ?_)
  have hw7 : r7 = obM f n (f (11 + i)) (f (11 + o)) v := hw7
  subst hw7
  have hP : PP G (mW G A (nI 0) (nI z) (nI ln) dg f sl ik sv sg u7 ++ (oW G oa (vp_updL og 0 ((obC fo t lo hi me n i o v).toInt64)) ++ cW G xa so b ce a hh sg ln mk cs up fo tn w t lo hi me (nI n) qu gu ri re P F z o0 o1)) _ := hP9
  have hD : va_D Ar (mW G A (nI 0) (nI z) (nI ln) dg f sl ik sv sg u7 ++ (oW G oa (vp_updL og 0 ((obC fo t lo hi me n i o v).toInt64)) ++ cW G xa so b ce a hh sg ln mk cs up fo tn w t lo hi me (nI n) qu gu ri re P F z o0 o1)) := hD9
  refine lv_istore (lv' := [(6, .int (obM f n (f (11 + i)) (f (11 + o)) v)), (5, .int (nI 0)), (0, .ref b9), (1, .ref xa), (2, .ref (A 0)), (3, .ref oa), (4, .int (nI (4 * j)))]) hx hb dL_law_947 hl (by decide) rfl (fun ls hl => ?_)
  refine lv_aload_n hx hb dL_law_949 rfl (lv_at hl 4 rfl) ?_
  refine rd_go (va_runV (As := []) (rest := []) ⟨hx, hb, hml, hown, hts⟩ (c_X7_thrown l G A (nI 0) (nI z) (nI ln) dg f sl ik sv sg u7) (cwV 0 hts gL_law_X7_thrown rfl rfl rfl (by decide +kernel) ⟨Nat.le_of_ble_eq_true rfl, Nat.le_of_ble_eq_true rfl⟩) (rV (ws := mW G A (nI 0) (nI z) (nI ln) dg f sl ik sv sg u7) (va_recv (ws := mW G A (nI 0) (nI z) (nI ln) dg f sl ik sv sg u7 ++ (oW G oa (vp_updL og 0 ((obC fo t lo hi me n i o v).toInt64)) ++ cW G xa so b ce a hh sg ln mk cs up fo tn w t lo hi me (nI n) qu gu ri re P F z o0 o1)) hK hP (ci := 6) (q0 := 0) rfl rfl) hK hN (P_mid (pre := []) (mid := mW G A (nI 0) (nI z) (nI ln) dg f sl ik sv sg u7) (suf := oW G oa (vp_updL og 0 ((obC fo t lo hi me n i o v).toInt64)) ++ cW G xa so b ce a hh sg ln mk cs up fo tn w t lo hi me (nI n) qu gu ri re P F z o0 o1) hP)) rfl rfl hl.1 rfl (lv_room (Nat.le_of_ble_eq_true rfl)) dL_law_950 ⟨by show 100 + 7 * j + 0 + 0 + 0 ≤ 601024; omega, by show 2000 + 64 * j + 0 + 0 + 0 ≤ 7293034; omega⟩) ?_
  refine lv_iload hx hb dL_law_953 (lv_at hl 1 rfl) ?_
  refine lv_icmp_eq (tgt := 960) hx hb dL_law_955 (by decide) (fun c_955 => ?_) (fun c_955 => by exact absurd c_955 (by decide))
  refine lv_iload hx hb dL_law_960 (lv_at hl 1 rfl) ?_
  refine lv_if_ne (tgt := 977) hx hb dL_law_962 (by decide) (fun c_962 => by exact absurd c_962 (by decide)) (fun c_962 => ?_)
  refine lv_aload_n hx hb dL_law_965 rfl (lv_at hl 5 rfl) ?_
  refine lv_iconst (v := nI 0) hx hb dL_law_966 (by decide) ?_
  refine va_lald (D := G.1) (ws := mW G A (nI 0) (nI z) (nI ln) dg f sl ik sv sg u7 ++ (oW G oa (vp_updL og 0 ((obC fo t lo hi me n i o v).toInt64)) ++ cW G xa so b ce a hh sg ln mk cs up fo tn w t lo hi me (nI n) qu gu ri re P F z o0 o1)) hx hb hK hP 7 3 (n := 1) rfl rfl (vp_in_nI (by decide) (by decide)) dL_law_967 ?_
  refine lv_cgl (y := (obC fo t lo hi me n i o v).toInt64) vpL ?_
  refine lv_iload hx hb dL_law_968 (lv_at hl 0 rfl) ?_
  refine lv_i2l (v := (obM f n (f (11 + i)) (f (11 + o)) v).toInt64) hx hb dL_law_970 rfl ?_
  refine lv_cgl (y := (obC fo t lo hi me n i o v).toInt64) (by rw [lk_ob hRS hi6 ho]) ?_
  refine W.lcmp hx hb dL_law_971 ?_
  refine lv_cgi (y := nI 0) (lg_self _) ?_
  refine lv_if_eq (tgt := 977) hx hb dL_law_972 (by decide) (fun c_972 => ?_) (fun c_972 => by exact absurd c_972 (by decide))
  refine lv_goto (tgt := 1297) hx hb dL_law_977 (by decide) ?_
  refine lv_iinc (v := nI (4 * (j + 1))) (lv' := [(4, .int (nI (4 * (j + 1)))), (6, .int (obM f n (f (11 + i)) (f (11 + o)) v)), (5, .int (nI 0)), (0, .ref b9), (1, .ref xa), (2, .ref (A 0)), (3, .ref oa)]) hx hb dL_law_1297 hl (k := 6) rfl (iinc4 (4 * j)) (by decide) rfl (fun ls hl => ?_)
  refine lv_goto (tgt := 23) hx hb dL_law_1300 (by decide) ?_
  refine W.widen (k := 100 + 7 * (j + 1)) (n := 2000 + 64 * (j + 1)) (by omega) (by omega) ?_
  exact hHd _ _ _ ⟨vp_updL og 0 ((obC fo t lo hi me n i o v).toInt64), sg, ln, mk, cs, up, fo, tn, w, t, lo, hi, me, nI n, qu, gu, ri, re, P, F, z, o0, o1, nI 0, dg, f, sl, ik, sv, u7, rfl, hln, hz, (RG_mono (Nat.le_succ _) (RG_of hRS)), (cen_of hn hcv), (HI_mono (Nat.le_succ _) hHI), (SLr_mono (Nat.le_succ _) hs0), (SLr_mono (Nat.le_succ _) hs1)⟩ hP hD hS ls (lv_sub hl [3, 4, 5, 6, 0] rfl)

set_option maxHeartbeats 8000000 in
set_option maxRecDepth 100000 in
theorem L_town {p : Program} {l : Launch} {e : Env} {s : State} {m : MethodId} {args : Array Value} {below : List Frame} {meth : Method} {cd : Code} {Q : State → Prop} {G : GG} {Ar : Nat → Prop} {b9 L : Nat} {xs : Nat → Int32} {xa so oa : Nat} {b ce a hh A : Nat → Nat} (hE : LE9 p l s m args cd G Ar b9 L xs) {j : Nat} (hj : 4 * j + 4 ≤ L) (hL : L ≤ 2048) (hHd : LH p l e s m args below meth cd Q G Ar b9 xa so oa b ce a hh A (j + 1))
    (og : Nat → Int64) (sg : Nat → Int32) (ln : Nat) (hln : ln ≤ 60) (mk : Nat → Int32) (cs up fo tn : Int32) (w t lo hi me : Nat → Int32) (n : Nat) (qu gu ri re : Int32) (P : Nat → Nat → Nat) (F : Nat → Nat → Nat → Int32) (z : Nat) (hz : z ≤ 6) (o0 : SLO) (o1 : SLO) (th : Int32) (dg : Int64) (f sl ik sv pl : Nat → Int32) (i : Nat) (hi6 : i < 6)
    (hRS : RS j fo tn w t lo hi me n qu gu ri re f) (hcv : cenV (qS tn lo hi me n) mk cs up) (hHI : HI j z F sv) (hs0 : SLr j o0 (ik 0) sl) (hs1 : SLr j o1 (ik 1) (fun j => sl (58 + j))) (hp0 : xs (4 * j + 1) = nI i)
    {H : Heap} {locs : List Loc} (hP : PP G (mW G A th (nI z) (nI ln) dg f sl ik sv sg pl ++ (oW G oa og ++ cW G xa so b ce a hh sg ln mk cs up fo tn w t lo hi me (nI n) qu gu ri re P F z o0 o1)) H) (hD : va_D Ar (mW G A th (nI z) (nI ln) dg f sl ik sv sg pl ++ (oW G oa og ++ cW G xa so b ce a hh sg ln mk cs up fo tn w t lo hi me (nI n) qu gu ri re P F z o0 o1))) (hS : va_S Ar s.heap H locs) {ls : Array Slot} (hl : lv_has ls 9 [(0, .ref b9), (1, .ref xa), (2, .ref (A 0)), (3, .ref oa), (4, .int (nI (4 * j)))]) : W p l e room_1 s m args below meth cd H locs (100 + 7 * j) (2000 + 64 * j) Q (F0 m 980 ls []) := by
  obtain ⟨hx, hb, hml, hown, hts, hfl, ⟨hK, hN, hX, hZ0⟩, hA, hXs, hbl, hbA⟩ := id hE
  have hn : n ≤ 12 := hRS.1.1
  have hn17 : f 17 = nI n := hRS.2.1.2.2.1
  have hT : okP t := hRS.2.2.1.2.1
  have hvL : okL lo hi := hRS.2.2.1.2.2.1
  have hvA : okA f := hRS.2.2.1.2.2.2
  have htF : okT f := fun i hi => by rw [hRS.2.1.2.2.2.2 i hi]; exact hT i hi
  refine lv_aload_n hx hb dL_law_980 rfl (lv_at hl 1 rfl) ?_
  refine lv_aload_n hx hb dL_law_981 rfl (lv_at hl 0 rfl) ?_
  refine lv_iload hx hb dL_law_982 (lv_at hl 4 rfl) ?_
  refine lv_iconst (v := nI 1) hx hb dL_law_984 (by decide) ?_
  refine lv_iadd hx hb dL_law_985 ?_
  refine lv_cgi (y := nI ((4 * j) + 1)) (nI_add _ _) ?_
  refine va_sld hx hb hXs hbl hbA hS (vp_in_nI (by omega) (by omega)) dL_law_986 ?_
  refine lv_cgi (y := nI i) (by rw [nI_clamp (by omega)]; exact hp0) ?_
  refine lv_aload_n hx hb dL_law_987 rfl (lv_at hl 3 rfl) ?_
  refine wr_g1i (pre := mW G A th (nI z) (nI ln) dg f sl ik sv sg pl) (mid := oW G oa og ++ cW G xa so b ce a hh sg ln mk cs up fo tn w t lo hi me (nI n) qu gu ri re P F z o0 o1) (vx_runSW (As := [.ref xa, .int (nI i), .ref oa]) (rest := []) ⟨hx, hb, hml, hown, hts⟩ (w_town_ok l G _ xa oa _ _ og (nI i) (rd_wr (c_X6_town_ok l G xa so b ce a hh sg ln hln mk cs up fo tn w t lo hi me n hn qu gu ri re P F z hz o0 o1 i hi6))) (vx_cwSW 3 hts gL_law_L_town rfl rfl rfl (by decide +kernel) ⟨Nat.le_of_ble_eq_true rfl, Nat.le_of_ble_eq_true rfl⟩) (lxS1 (pre := mW G A th (nI z) (nI ln) dg f sl ik sv sg pl) (mid := oW G oa og ++ cW G xa so b ce a hh sg ln mk cs up fo tn w t lo hi me (nI n) qu gu ri re P F z o0 o1) hK hN hX (XZ_at hZ0 hS hA) hP hD) rfl rfl hl.1 rfl (lv_room (Nat.le_of_ble_eq_true rfl)) dL_law_988 ⟨by show 100 + 7 * j + 0 ≤ 601024; omega, by show 2000 + 64 * j + 0 ≤ 7293034; omega⟩) hP hD hS hA (fun r6 u6 H locs hw6 hP9 hD9 hS => ?_)
  obtain ⟨v6, u6⟩ := u6
  have hw6 : r6 = nI 0 ∧ v6 = t i := hw6
  obtain ⟨rfl, rfl⟩ := hw6
  have hP : PP G (mW G A th (nI z) (nI ln) dg f sl ik sv sg pl ++ (oW G oa (vp_updL og 0 ((t i).toInt64)) ++ cW G xa so b ce a hh sg ln mk cs up fo tn w t lo hi me (nI n) qu gu ri re P F z o0 o1)) _ := hP9
  have hD : va_D Ar (mW G A th (nI z) (nI ln) dg f sl ik sv sg pl ++ (oW G oa (vp_updL og 0 ((t i).toInt64)) ++ cW G xa so b ce a hh sg ln mk cs up fo tn w t lo hi me (nI n) qu gu ri re P F z o0 o1)) := hD9
  refine lv_istore (lv' := [(5, .int (nI 0)), (0, .ref b9), (1, .ref xa), (2, .ref (A 0)), (3, .ref oa), (4, .int (nI (4 * j)))]) hx hb dL_law_991 hl (by decide) rfl (fun ls hl => ?_)
  refine lv_aload_n hx hb dL_law_993 rfl (lv_at hl 3 rfl) ?_
  refine lv_aload_n hx hb dL_law_994 rfl (lv_at hl 1 rfl) ?_
  refine lv_iload hx hb dL_law_995 (lv_at hl 5 rfl) ?_
  refine lv_iconst (v := nI 1) hx hb dL_law_997 (by decide) ?_
  refine lv_iadd hx hb dL_law_998 ?_
  refine lv_cgi (y := nI ((4 * j) + 1)) (nI_add _ _) ?_
  refine va_sld hx hb hXs hbl hbA hS (vp_in_nI (by omega) (by omega)) dL_law_999 ?_
  refine lv_cgi (y := nI i) (by rw [nI_clamp (by omega)]; exact hp0) ?_
  refine wr_goi (pre := []) (mid := mW G A th (nI z) (nI ln) dg f sl ik sv sg pl) (suf := oW G oa (vp_updL og 0 ((t i).toInt64)) ++ cW G xa so b ce a hh sg ln mk cs up fo tn w t lo hi me (nI n) qu gu ri re P F z o0 o1) (va_runV (As := [.int (nI i)]) (rest := []) ⟨hx, hb, hml, hown, hts⟩ (c_X7_town l G _ A th (nI z) (nI ln) dg f sl ik sv sg pl i hi6) (cwV 1 hts gL_law_X7_town rfl rfl rfl (by decide +kernel) ⟨Nat.le_of_ble_eq_true rfl, Nat.le_of_ble_eq_true rfl⟩) (wV (pre := []) (mid := mW G A th (nI z) (nI ln) dg f sl ik sv sg pl) (suf := oW G oa (vp_updL og 0 ((t i).toInt64)) ++ cW G xa so b ce a hh sg ln mk cs up fo tn w t lo hi me (nI n) qu gu ri re P F z o0 o1) (va_recv (ws := mW G A th (nI z) (nI ln) dg f sl ik sv sg pl ++ (oW G oa (vp_updL og 0 ((t i).toInt64)) ++ cW G xa so b ce a hh sg ln mk cs up fo tn w t lo hi me (nI n) qu gu ri re P F z o0 o1)) hK hP (ci := 6) (q0 := 0) rfl rfl) hK hN hP hD) rfl rfl hl.1 rfl (lv_room (Nat.le_of_ble_eq_true rfl)) dL_law_1000 ⟨by show 100 + 7 * j + 0 + 0 ≤ 601024; omega, by show 2000 + 64 * j + 0 + 0 ≤ 7293034; omega⟩) hP hD hS hA (fun r7 u7 H locs hw7 hP9 hD9 hS => ?_)
  have hw7 : r7 = f (11 + i) := hw7
  subst hw7
  have hP : PP G (mW G A (nI 0) (nI z) (nI ln) dg f sl ik sv sg pl ++ (oW G oa (vp_updL og 0 ((t i).toInt64)) ++ cW G xa so b ce a hh sg ln mk cs up fo tn w t lo hi me (nI n) qu gu ri re P F z o0 o1)) _ := hP9
  have hD : va_D Ar (mW G A (nI 0) (nI z) (nI ln) dg f sl ik sv sg pl ++ (oW G oa (vp_updL og 0 ((t i).toInt64)) ++ cW G xa so b ce a hh sg ln mk cs up fo tn w t lo hi me (nI n) qu gu ri re P F z o0 o1)) := hD9
  refine lv_istore (lv' := [(6, .int (f (11 + i))), (5, .int (nI 0)), (0, .ref b9), (1, .ref xa), (2, .ref (A 0)), (3, .ref oa), (4, .int (nI (4 * j)))]) hx hb dL_law_1003 hl (by decide) rfl (fun ls hl => ?_)
  refine lv_aload_n hx hb dL_law_1005 rfl (lv_at hl 4 rfl) ?_
  refine rd_go (va_runV (As := []) (rest := []) ⟨hx, hb, hml, hown, hts⟩ (c_X7_thrown l G A (nI 0) (nI z) (nI ln) dg f sl ik sv sg pl) (cwV 0 hts gL_law_X7_thrown rfl rfl rfl (by decide +kernel) ⟨Nat.le_of_ble_eq_true rfl, Nat.le_of_ble_eq_true rfl⟩) (rV (ws := mW G A (nI 0) (nI z) (nI ln) dg f sl ik sv sg pl) (va_recv (ws := mW G A (nI 0) (nI z) (nI ln) dg f sl ik sv sg pl ++ (oW G oa (vp_updL og 0 ((t i).toInt64)) ++ cW G xa so b ce a hh sg ln mk cs up fo tn w t lo hi me (nI n) qu gu ri re P F z o0 o1)) hK hP (ci := 6) (q0 := 0) rfl rfl) hK hN (P_mid (pre := []) (mid := mW G A (nI 0) (nI z) (nI ln) dg f sl ik sv sg pl) (suf := oW G oa (vp_updL og 0 ((t i).toInt64)) ++ cW G xa so b ce a hh sg ln mk cs up fo tn w t lo hi me (nI n) qu gu ri re P F z o0 o1) hP)) rfl rfl hl.1 rfl (lv_room (Nat.le_of_ble_eq_true rfl)) dL_law_1006 ⟨by show 100 + 7 * j + 0 + 0 + 0 ≤ 601024; omega, by show 2000 + 64 * j + 0 + 0 + 0 ≤ 7293034; omega⟩) ?_
  refine lv_iload hx hb dL_law_1009 (lv_at hl 1 rfl) ?_
  refine lv_icmp_eq (tgt := 1016) hx hb dL_law_1011 (by decide) (fun c_1011 => ?_) (fun c_1011 => by exact absurd c_1011 (by decide))
  refine lv_iload hx hb dL_law_1016 (lv_at hl 1 rfl) ?_
  refine lv_if_ne (tgt := 1033) hx hb dL_law_1018 (by decide) (fun c_1018 => by exact absurd c_1018 (by decide)) (fun c_1018 => ?_)
  refine lv_aload_n hx hb dL_law_1021 rfl (lv_at hl 5 rfl) ?_
  refine lv_iconst (v := nI 0) hx hb dL_law_1022 (by decide) ?_
  refine va_lald (D := G.1) (ws := mW G A (nI 0) (nI z) (nI ln) dg f sl ik sv sg pl ++ (oW G oa (vp_updL og 0 ((t i).toInt64)) ++ cW G xa so b ce a hh sg ln mk cs up fo tn w t lo hi me (nI n) qu gu ri re P F z o0 o1)) hx hb hK hP 7 3 (n := 1) rfl rfl (vp_in_nI (by decide) (by decide)) dL_law_1023 ?_
  refine lv_cgl (y := (t i).toInt64) vpL ?_
  refine lv_iload hx hb dL_law_1024 (lv_at hl 0 rfl) ?_
  refine lv_i2l (v := (f (11 + i)).toInt64) hx hb dL_law_1026 rfl ?_
  refine lv_cgl (y := (t i).toInt64) (by rw [hRS.2.1.2.2.2.2 i hi6]) ?_
  refine W.lcmp hx hb dL_law_1027 ?_
  refine lv_cgi (y := nI 0) (lg_self _) ?_
  refine lv_if_eq (tgt := 1033) hx hb dL_law_1028 (by decide) (fun c_1028 => ?_) (fun c_1028 => by exact absurd c_1028 (by decide))
  refine lv_goto (tgt := 1297) hx hb dL_law_1033 (by decide) ?_
  refine lv_iinc (v := nI (4 * (j + 1))) (lv' := [(4, .int (nI (4 * (j + 1)))), (6, .int (f (11 + i))), (5, .int (nI 0)), (0, .ref b9), (1, .ref xa), (2, .ref (A 0)), (3, .ref oa)]) hx hb dL_law_1297 hl (k := 6) rfl (iinc4 (4 * j)) (by decide) rfl (fun ls hl => ?_)
  refine lv_goto (tgt := 23) hx hb dL_law_1300 (by decide) ?_
  refine W.widen (k := 100 + 7 * (j + 1)) (n := 2000 + 64 * (j + 1)) (by omega) (by omega) ?_
  exact hHd _ _ _ ⟨vp_updL og 0 ((t i).toInt64), sg, ln, mk, cs, up, fo, tn, w, t, lo, hi, me, nI n, qu, gu, ri, re, P, F, z, o0, o1, nI 0, dg, f, sl, ik, sv, pl, rfl, hln, hz, (RG_mono (Nat.le_succ _) (RG_of hRS)), (cen_of hn hcv), (HI_mono (Nat.le_succ _) hHI), (SLr_mono (Nat.le_succ _) hs0), (SLr_mono (Nat.le_succ _) hs1)⟩ hP hD hS ls (lv_sub hl [3, 4, 5, 6, 0] rfl)

set_option maxHeartbeats 8000000 in
set_option maxRecDepth 100000 in
theorem L_count {p : Program} {l : Launch} {e : Env} {s : State} {m : MethodId} {args : Array Value} {below : List Frame} {meth : Method} {cd : Code} {Q : State → Prop} {G : GG} {Ar : Nat → Prop} {b9 L : Nat} {xs : Nat → Int32} {xa so oa : Nat} {b ce a hh A : Nat → Nat} (hE : LE9 p l s m args cd G Ar b9 L xs) {j : Nat} (hj : 4 * j + 4 ≤ L) (hL : L ≤ 2048) (hHd : LH p l e s m args below meth cd Q G Ar b9 xa so oa b ce a hh A (j + 1))
    (og : Nat → Int64) (sg : Nat → Int32) (ln : Nat) (hln : ln ≤ 60) (mk : Nat → Int32) (cs up fo tn : Int32) (w t lo hi me : Nat → Int32) (n : Nat) (qu gu ri re : Int32) (P : Nat → Nat → Nat) (F : Nat → Nat → Nat → Int32) (z : Nat) (hz : z ≤ 6) (o0 : SLO) (o1 : SLO) (th : Int32) (dg : Int64) (f sl ik sv pl : Nat → Int32) (v : Nat) (hv10 : v ≤ 10)
    (hRS : RS j fo tn w t lo hi me n qu gu ri re f) (hcv : cenV (qS tn lo hi me n) mk cs up) (hHI : HI j z F sv) (hs0 : SLr j o0 (ik 0) sl) (hs1 : SLr j o1 (ik 1) (fun j => sl (58 + j))) (hp0 : xs (4 * j + 1) = nI v)
    {H : Heap} {locs : List Loc} (hP : PP G (mW G A th (nI z) (nI ln) dg f sl ik sv sg pl ++ (oW G oa og ++ cW G xa so b ce a hh sg ln mk cs up fo tn w t lo hi me (nI n) qu gu ri re P F z o0 o1)) H) (hD : va_D Ar (mW G A th (nI z) (nI ln) dg f sl ik sv sg pl ++ (oW G oa og ++ cW G xa so b ce a hh sg ln mk cs up fo tn w t lo hi me (nI n) qu gu ri re P F z o0 o1))) (hS : va_S Ar s.heap H locs) {ls : Array Slot} (hl : lv_has ls 9 [(0, .ref b9), (1, .ref xa), (2, .ref (A 0)), (3, .ref oa), (4, .int (nI (4 * j)))]) : W p l e room_1 s m args below meth cd H locs (100 + 7 * j) (2000 + 64 * j) Q (F0 m 1036 ls []) := by
  obtain ⟨hx, hb, hml, hown, hts, hfl, ⟨hK, hN, hX, hZ0⟩, hA, hXs, hbl, hbA⟩ := id hE
  have hn : n ≤ 12 := hRS.1.1
  have hn17 : f 17 = nI n := hRS.2.1.2.2.1
  have hT : okP t := hRS.2.2.1.2.1
  have hvL : okL lo hi := hRS.2.2.1.2.2.1
  have hvA : okA f := hRS.2.2.1.2.2.2
  have htF : okT f := fun i hi => by rw [hRS.2.1.2.2.2.2 i hi]; exact hT i hi
  refine lv_aload_n hx hb dL_law_1036 rfl (lv_at hl 1 rfl) ?_
  refine lv_aload_n hx hb dL_law_1037 rfl (lv_at hl 0 rfl) ?_
  refine lv_iload hx hb dL_law_1038 (lv_at hl 4 rfl) ?_
  refine lv_iconst (v := nI 1) hx hb dL_law_1040 (by decide) ?_
  refine lv_iadd hx hb dL_law_1041 ?_
  refine lv_cgi (y := nI ((4 * j) + 1)) (nI_add _ _) ?_
  refine va_sld hx hb hXs hbl hbA hS (vp_in_nI (by omega) (by omega)) dL_law_1042 ?_
  refine lv_cgi (y := nI v) (by rw [nI_clamp (by omega)]; exact hp0) ?_
  refine lv_aload_n hx hb dL_law_1043 rfl (lv_at hl 3 rfl) ?_
  refine wr_g1i (pre := mW G A th (nI z) (nI ln) dg f sl ik sv sg pl) (mid := oW G oa og ++ cW G xa so b ce a hh sg ln mk cs up fo tn w t lo hi me (nI n) qu gu ri re P F z o0 o1) (vx_runSW (As := [.ref xa, .int (nI v), .ref oa]) (rest := []) ⟨hx, hb, hml, hown, hts⟩ (w_count_ok l G _ xa oa _ _ og (nI v) (fun sz => c_X6_count l G sz xa so b ce a hh sg ln hln mk cs up fo tn w t lo hi me n hn qu gu ri re P F z hz o0 o1 hvL hcv v hv10)) (vx_cwSW 3 hts gL_law_L_count rfl rfl rfl (by decide +kernel) ⟨Nat.le_of_ble_eq_true rfl, Nat.le_of_ble_eq_true rfl⟩) (lxS1 (pre := mW G A th (nI z) (nI ln) dg f sl ik sv sg pl) (mid := oW G oa og ++ cW G xa so b ce a hh sg ln mk cs up fo tn w t lo hi me (nI n) qu gu ri re P F z o0 o1) hK hN hX (XZ_at hZ0 hS hA) hP hD) rfl rfl hl.1 rfl (lv_room (Nat.le_of_ble_eq_true rfl)) dL_law_1044 ⟨by show 100 + 7 * j + 0 ≤ 601024; omega, by show 2000 + 64 * j + 0 ≤ 7293034; omega⟩) hP hD hS hA (fun r6 u6 H locs hw6 hP9 hD9 hS => ?_)
  obtain ⟨v6, u6⟩ := u6
  have hw6 : r6 = nI 0 ∧ (v6 = coC fo tn lo hi me n (qS tn lo hi me n) qu gu ri re z v ∧ cenV (qS tn lo hi me n) u6.1 u6.2.1 u6.2.2) := hw6
  obtain ⟨rfl, rfl, hcv6⟩ := hw6
  have hP : PP G (mW G A th (nI z) (nI ln) dg f sl ik sv sg pl ++ (oW G oa (vp_updL og 0 ((coC fo tn lo hi me n (qS tn lo hi me n) qu gu ri re z v).toInt64)) ++ cW G xa so b ce a hh sg ln u6.1 u6.2.1 u6.2.2 fo tn w t lo hi me (nI n) qu gu ri re P F z o0 o1)) _ := hP9
  have hD : va_D Ar (mW G A th (nI z) (nI ln) dg f sl ik sv sg pl ++ (oW G oa (vp_updL og 0 ((coC fo tn lo hi me n (qS tn lo hi me n) qu gu ri re z v).toInt64)) ++ cW G xa so b ce a hh sg ln u6.1 u6.2.1 u6.2.2 fo tn w t lo hi me (nI n) qu gu ri re P F z o0 o1)) := hD9
  refine lv_istore (lv' := [(5, .int (nI 0)), (0, .ref b9), (1, .ref xa), (2, .ref (A 0)), (3, .ref oa), (4, .int (nI (4 * j)))]) hx hb dL_law_1047 hl (by decide) rfl (fun ls hl => ?_)
  refine lv_aload_n hx hb dL_law_1049 rfl (lv_at hl 3 rfl) ?_
  refine lv_aload_n hx hb dL_law_1050 rfl (lv_at hl 1 rfl) ?_
  refine lv_iload hx hb dL_law_1051 (lv_at hl 5 rfl) ?_
  refine lv_iconst (v := nI 1) hx hb dL_law_1053 (by decide) ?_
  refine lv_iadd hx hb dL_law_1054 ?_
  refine lv_cgi (y := nI ((4 * j) + 1)) (nI_add _ _) ?_
  refine va_sld hx hb hXs hbl hbA hS (vp_in_nI (by omega) (by omega)) dL_law_1055 ?_
  refine lv_cgi (y := nI v) (by rw [nI_clamp (by omega)]; exact hp0) ?_
  refine wr_goi (pre := []) (mid := mW G A th (nI z) (nI ln) dg f sl ik sv sg pl) (suf := oW G oa (vp_updL og 0 ((coC fo tn lo hi me n (qS tn lo hi me n) qu gu ri re z v).toInt64)) ++ cW G xa so b ce a hh sg ln u6.1 u6.2.1 u6.2.2 fo tn w t lo hi me (nI n) qu gu ri re P F z o0 o1) (va_runV (As := [.int (nI v)]) (rest := []) ⟨hx, hb, hml, hown, hts⟩ (c_X7_count l G _ A th (nI ln) dg f sl ik sv sg pl z hz n hn17 hn hvA v hv10) (cwV 1 hts gL_law_X7_count rfl rfl rfl (by decide +kernel) ⟨Nat.le_of_ble_eq_true rfl, Nat.le_of_ble_eq_true rfl⟩) (wV (pre := []) (mid := mW G A th (nI z) (nI ln) dg f sl ik sv sg pl) (suf := oW G oa (vp_updL og 0 ((coC fo tn lo hi me n (qS tn lo hi me n) qu gu ri re z v).toInt64)) ++ cW G xa so b ce a hh sg ln u6.1 u6.2.1 u6.2.2 fo tn w t lo hi me (nI n) qu gu ri re P F z o0 o1) (va_recv (ws := mW G A th (nI z) (nI ln) dg f sl ik sv sg pl ++ (oW G oa (vp_updL og 0 ((coC fo tn lo hi me n (qS tn lo hi me n) qu gu ri re z v).toInt64)) ++ cW G xa so b ce a hh sg ln u6.1 u6.2.1 u6.2.2 fo tn w t lo hi me (nI n) qu gu ri re P F z o0 o1)) hK hP (ci := 6) (q0 := 0) rfl rfl) hK hN hP hD) rfl rfl hl.1 rfl (lv_room (Nat.le_of_ble_eq_true rfl)) dL_law_1056 ⟨by show 100 + 7 * j + 0 + 0 ≤ 601024; omega, by show 2000 + 64 * j + 0 + 0 ≤ 7293034; omega⟩) hP hD hS hA (fun r7 u7 H locs hw7 hP9 hD9 hS => ?_)
  have hw7 : r7 = coM f n z v := hw7
  subst hw7
  have hP : PP G (mW G A (nI 0) (nI z) (nI ln) dg f sl ik sv sg u7 ++ (oW G oa (vp_updL og 0 ((coC fo tn lo hi me n (qS tn lo hi me n) qu gu ri re z v).toInt64)) ++ cW G xa so b ce a hh sg ln u6.1 u6.2.1 u6.2.2 fo tn w t lo hi me (nI n) qu gu ri re P F z o0 o1)) _ := hP9
  have hD : va_D Ar (mW G A (nI 0) (nI z) (nI ln) dg f sl ik sv sg u7 ++ (oW G oa (vp_updL og 0 ((coC fo tn lo hi me n (qS tn lo hi me n) qu gu ri re z v).toInt64)) ++ cW G xa so b ce a hh sg ln u6.1 u6.2.1 u6.2.2 fo tn w t lo hi me (nI n) qu gu ri re P F z o0 o1)) := hD9
  refine lv_istore (lv' := [(6, .int (coM f n z v)), (5, .int (nI 0)), (0, .ref b9), (1, .ref xa), (2, .ref (A 0)), (3, .ref oa), (4, .int (nI (4 * j)))]) hx hb dL_law_1059 hl (by decide) rfl (fun ls hl => ?_)
  refine lv_aload_n hx hb dL_law_1061 rfl (lv_at hl 4 rfl) ?_
  refine rd_go (va_runV (As := []) (rest := []) ⟨hx, hb, hml, hown, hts⟩ (c_X7_thrown l G A (nI 0) (nI z) (nI ln) dg f sl ik sv sg u7) (cwV 0 hts gL_law_X7_thrown rfl rfl rfl (by decide +kernel) ⟨Nat.le_of_ble_eq_true rfl, Nat.le_of_ble_eq_true rfl⟩) (rV (ws := mW G A (nI 0) (nI z) (nI ln) dg f sl ik sv sg u7) (va_recv (ws := mW G A (nI 0) (nI z) (nI ln) dg f sl ik sv sg u7 ++ (oW G oa (vp_updL og 0 ((coC fo tn lo hi me n (qS tn lo hi me n) qu gu ri re z v).toInt64)) ++ cW G xa so b ce a hh sg ln u6.1 u6.2.1 u6.2.2 fo tn w t lo hi me (nI n) qu gu ri re P F z o0 o1)) hK hP (ci := 6) (q0 := 0) rfl rfl) hK hN (P_mid (pre := []) (mid := mW G A (nI 0) (nI z) (nI ln) dg f sl ik sv sg u7) (suf := oW G oa (vp_updL og 0 ((coC fo tn lo hi me n (qS tn lo hi me n) qu gu ri re z v).toInt64)) ++ cW G xa so b ce a hh sg ln u6.1 u6.2.1 u6.2.2 fo tn w t lo hi me (nI n) qu gu ri re P F z o0 o1) hP)) rfl rfl hl.1 rfl (lv_room (Nat.le_of_ble_eq_true rfl)) dL_law_1062 ⟨by show 100 + 7 * j + 0 + 0 + 0 ≤ 601024; omega, by show 2000 + 64 * j + 0 + 0 + 0 ≤ 7293034; omega⟩) ?_
  refine lv_iload hx hb dL_law_1065 (lv_at hl 1 rfl) ?_
  refine lv_icmp_eq (tgt := 1072) hx hb dL_law_1067 (by decide) (fun c_1067 => ?_) (fun c_1067 => by exact absurd c_1067 (by decide))
  refine lv_iload hx hb dL_law_1072 (lv_at hl 1 rfl) ?_
  refine lv_if_ne (tgt := 1089) hx hb dL_law_1074 (by decide) (fun c_1074 => by exact absurd c_1074 (by decide)) (fun c_1074 => ?_)
  refine lv_aload_n hx hb dL_law_1077 rfl (lv_at hl 5 rfl) ?_
  refine lv_iconst (v := nI 0) hx hb dL_law_1078 (by decide) ?_
  refine va_lald (D := G.1) (ws := mW G A (nI 0) (nI z) (nI ln) dg f sl ik sv sg u7 ++ (oW G oa (vp_updL og 0 ((coC fo tn lo hi me n (qS tn lo hi me n) qu gu ri re z v).toInt64)) ++ cW G xa so b ce a hh sg ln u6.1 u6.2.1 u6.2.2 fo tn w t lo hi me (nI n) qu gu ri re P F z o0 o1)) hx hb hK hP 7 3 (n := 1) rfl rfl (vp_in_nI (by decide) (by decide)) dL_law_1079 ?_
  refine lv_cgl (y := (coC fo tn lo hi me n (qS tn lo hi me n) qu gu ri re z v).toInt64) vpL ?_
  refine lv_iload hx hb dL_law_1080 (lv_at hl 0 rfl) ?_
  refine lv_i2l (v := (coM f n z v).toInt64) hx hb dL_law_1082 rfl ?_
  refine lv_cgl (y := (coC fo tn lo hi me n (qS tn lo hi me n) qu gu ri re z v).toInt64) (by rw [lk_co hRS hv10]) ?_
  refine W.lcmp hx hb dL_law_1083 ?_
  refine lv_cgi (y := nI 0) (lg_self _) ?_
  refine lv_if_eq (tgt := 1089) hx hb dL_law_1084 (by decide) (fun c_1084 => ?_) (fun c_1084 => by exact absurd c_1084 (by decide))
  refine lv_goto (tgt := 1297) hx hb dL_law_1089 (by decide) ?_
  refine lv_iinc (v := nI (4 * (j + 1))) (lv' := [(4, .int (nI (4 * (j + 1)))), (6, .int (coM f n z v)), (5, .int (nI 0)), (0, .ref b9), (1, .ref xa), (2, .ref (A 0)), (3, .ref oa)]) hx hb dL_law_1297 hl (k := 6) rfl (iinc4 (4 * j)) (by decide) rfl (fun ls hl => ?_)
  refine lv_goto (tgt := 23) hx hb dL_law_1300 (by decide) ?_
  refine W.widen (k := 100 + 7 * (j + 1)) (n := 2000 + 64 * (j + 1)) (by omega) (by omega) ?_
  exact hHd _ _ _ ⟨vp_updL og 0 ((coC fo tn lo hi me n (qS tn lo hi me n) qu gu ri re z v).toInt64), sg, ln, u6.1, u6.2.1, u6.2.2, fo, tn, w, t, lo, hi, me, nI n, qu, gu, ri, re, P, F, z, o0, o1, nI 0, dg, f, sl, ik, sv, u7, rfl, hln, hz, (RG_mono (Nat.le_succ _) (RG_of hRS)), (cen_of hn hcv6), (HI_mono (Nat.le_succ _) hHI), (SLr_mono (Nat.le_succ _) hs0), (SLr_mono (Nat.le_succ _) hs1)⟩ hP hD hS ls (lv_sub hl [3, 4, 5, 6, 0] rfl)

set_option maxHeartbeats 8000000 in
set_option maxRecDepth 100000 in
theorem L_ifTouching {p : Program} {l : Launch} {e : Env} {s : State} {m : MethodId} {args : Array Value} {below : List Frame} {meth : Method} {cd : Code} {Q : State → Prop} {G : GG} {Ar : Nat → Prop} {b9 L : Nat} {xs : Nat → Int32} {xa so oa : Nat} {b ce a hh A : Nat → Nat} (hE : LE9 p l s m args cd G Ar b9 L xs) {j : Nat} (hj : 4 * j + 4 ≤ L) (hL : L ≤ 2048) (hHd : LH p l e s m args below meth cd Q G Ar b9 xa so oa b ce a hh A (j + 1))
    (og : Nat → Int64) (sg : Nat → Int32) (ln : Nat) (hln : ln ≤ 60) (mk : Nat → Int32) (cs up fo tn : Int32) (w t lo hi me : Nat → Int32) (n : Nat) (qu gu ri re : Int32) (P : Nat → Nat → Nat) (F : Nat → Nat → Nat → Int32) (z : Nat) (hz : z ≤ 6) (o0 : SLO) (o1 : SLO) (th : Int32) (dg : Int64) (f sl ik sv pl : Nat → Int32) (i o : Nat) (hi6 : i < 6) (ho : o < 6) (hto : i ≠ o)
    (hRS : RS j fo tn w t lo hi me n qu gu ri re f) (hcv : cenV (qS tn lo hi me n) mk cs up) (hHI : HI j z F sv) (hs0 : SLr j o0 (ik 0) sl) (hs1 : SLr j o1 (ik 1) (fun j => sl (58 + j))) (hp0 : xs (4 * j + 1) = nI i) (hp1 : xs (4 * j + 2) = nI o)
    {H : Heap} {locs : List Loc} (hP : PP G (mW G A th (nI z) (nI ln) dg f sl ik sv sg pl ++ (oW G oa og ++ cW G xa so b ce a hh sg ln mk cs up fo tn w t lo hi me (nI n) qu gu ri re P F z o0 o1)) H) (hD : va_D Ar (mW G A th (nI z) (nI ln) dg f sl ik sv sg pl ++ (oW G oa og ++ cW G xa so b ce a hh sg ln mk cs up fo tn w t lo hi me (nI n) qu gu ri re P F z o0 o1))) (hS : va_S Ar s.heap H locs) {ls : Array Slot} (hl : lv_has ls 9 [(0, .ref b9), (1, .ref xa), (2, .ref (A 0)), (3, .ref oa), (4, .int (nI (4 * j)))]) : W p l e room_1 s m args below meth cd H locs (100 + 7 * j) (2000 + 64 * j) Q (F0 m 1092 ls []) := by
  obtain ⟨hx, hb, hml, hown, hts, hfl, ⟨hK, hN, hX, hZ0⟩, hA, hXs, hbl, hbA⟩ := id hE
  have hn : n ≤ 12 := hRS.1.1
  have hn17 : f 17 = nI n := hRS.2.1.2.2.1
  have hT : okP t := hRS.2.2.1.2.1
  have hvL : okL lo hi := hRS.2.2.1.2.2.1
  have hvA : okA f := hRS.2.2.1.2.2.2
  have htF : okT f := fun i hi => by rw [hRS.2.1.2.2.2.2 i hi]; exact hT i hi
  refine lv_aload_n hx hb dL_law_1092 rfl (lv_at hl 1 rfl) ?_
  refine lv_aload_n hx hb dL_law_1093 rfl (lv_at hl 0 rfl) ?_
  refine lv_iload hx hb dL_law_1094 (lv_at hl 4 rfl) ?_
  refine lv_iconst (v := nI 1) hx hb dL_law_1096 (by decide) ?_
  refine lv_iadd hx hb dL_law_1097 ?_
  refine lv_cgi (y := nI ((4 * j) + 1)) (nI_add _ _) ?_
  refine va_sld hx hb hXs hbl hbA hS (vp_in_nI (by omega) (by omega)) dL_law_1098 ?_
  refine lv_cgi (y := nI i) (by rw [nI_clamp (by omega)]; exact hp0) ?_
  refine lv_aload_n hx hb dL_law_1099 rfl (lv_at hl 0 rfl) ?_
  refine lv_iload hx hb dL_law_1100 (lv_at hl 4 rfl) ?_
  refine lv_iconst (v := nI 2) hx hb dL_law_1102 (by decide) ?_
  refine lv_iadd hx hb dL_law_1103 ?_
  refine lv_cgi (y := nI ((4 * j) + 2)) (nI_add _ _) ?_
  refine va_sld hx hb hXs hbl hbA hS (vp_in_nI (by omega) (by omega)) dL_law_1104 ?_
  refine lv_cgi (y := nI o) (by rw [nI_clamp (by omega)]; exact hp1) ?_
  refine lv_aload_n hx hb dL_law_1105 rfl (lv_at hl 3 rfl) ?_
  refine wr_g1i (pre := mW G A th (nI z) (nI ln) dg f sl ik sv sg pl) (mid := oW G oa og ++ cW G xa so b ce a hh sg ln mk cs up fo tn w t lo hi me (nI n) qu gu ri re P F z o0 o1) (vx_runSW (As := [.ref xa, .int (nI i), .int (nI o), .ref oa]) (rest := []) ⟨hx, hb, hml, hown, hts⟩ (w_ifTouching_ok l G _ xa oa _ _ og (nI i) (nI o) (fun sz => c_X6_ifTouching l G sz xa so b ce a hh sg ln hln mk cs up fo tn w t lo hi me n hn qu gu ri re P F z hz o0 o1 hvL hcv i o hi6 ho (hT i hi6) (hT o ho) hto)) (vx_cwSW 4 hts gL_law_L_ifTouching rfl rfl rfl (by decide +kernel) ⟨Nat.le_of_ble_eq_true rfl, Nat.le_of_ble_eq_true rfl⟩) (lxS1 (pre := mW G A th (nI z) (nI ln) dg f sl ik sv sg pl) (mid := oW G oa og ++ cW G xa so b ce a hh sg ln mk cs up fo tn w t lo hi me (nI n) qu gu ri re P F z o0 o1) hK hN hX (XZ_at hZ0 hS hA) hP hD) rfl rfl hl.1 rfl (lv_room (Nat.le_of_ble_eq_true rfl)) dL_law_1106 ⟨by show 100 + 7 * j + 0 ≤ 601024; omega, by show 2000 + 64 * j + 0 ≤ 7293034; omega⟩) hP hD hS hA (fun r6 u6 H locs hw6 hP9 hD9 hS => ?_)
  obtain ⟨v6, u6⟩ := u6
  have hw6 : r6 = nI 0 ∧ (v6 = meS (qS tn lo hi me n) (cl (t i)) (cl (t o)) ∧ cenV (qS tn lo hi me n) u6.1 u6.2.1 u6.2.2) := hw6
  obtain ⟨rfl, rfl, hcv6⟩ := hw6
  have hP : PP G (mW G A th (nI z) (nI ln) dg f sl ik sv sg pl ++ (oW G oa (vp_updL og 0 ((meS (qS tn lo hi me n) (cl (t i)) (cl (t o))).toInt64)) ++ cW G xa so b ce a hh sg ln u6.1 u6.2.1 u6.2.2 fo tn w t lo hi me (nI n) qu gu ri re P F z o0 o1)) _ := hP9
  have hD : va_D Ar (mW G A th (nI z) (nI ln) dg f sl ik sv sg pl ++ (oW G oa (vp_updL og 0 ((meS (qS tn lo hi me n) (cl (t i)) (cl (t o))).toInt64)) ++ cW G xa so b ce a hh sg ln u6.1 u6.2.1 u6.2.2 fo tn w t lo hi me (nI n) qu gu ri re P F z o0 o1)) := hD9
  refine lv_istore (lv' := [(5, .int (nI 0)), (0, .ref b9), (1, .ref xa), (2, .ref (A 0)), (3, .ref oa), (4, .int (nI (4 * j)))]) hx hb dL_law_1109 hl (by decide) rfl (fun ls hl => ?_)
  refine lv_aload_n hx hb dL_law_1111 rfl (lv_at hl 3 rfl) ?_
  refine lv_aload_n hx hb dL_law_1112 rfl (lv_at hl 1 rfl) ?_
  refine lv_iload hx hb dL_law_1113 (lv_at hl 5 rfl) ?_
  refine lv_iconst (v := nI 1) hx hb dL_law_1115 (by decide) ?_
  refine lv_iadd hx hb dL_law_1116 ?_
  refine lv_cgi (y := nI ((4 * j) + 1)) (nI_add _ _) ?_
  refine va_sld hx hb hXs hbl hbA hS (vp_in_nI (by omega) (by omega)) dL_law_1117 ?_
  refine lv_cgi (y := nI i) (by rw [nI_clamp (by omega)]; exact hp0) ?_
  refine lv_aload_n hx hb dL_law_1118 rfl (lv_at hl 1 rfl) ?_
  refine lv_iload hx hb dL_law_1119 (lv_at hl 5 rfl) ?_
  refine lv_iconst (v := nI 2) hx hb dL_law_1121 (by decide) ?_
  refine lv_iadd hx hb dL_law_1122 ?_
  refine lv_cgi (y := nI ((4 * j) + 2)) (nI_add _ _) ?_
  refine va_sld hx hb hXs hbl hbA hS (vp_in_nI (by omega) (by omega)) dL_law_1123 ?_
  refine lv_cgi (y := nI o) (by rw [nI_clamp (by omega)]; exact hp1) ?_
  refine wr_goi (pre := []) (mid := mW G A th (nI z) (nI ln) dg f sl ik sv sg pl) (suf := oW G oa (vp_updL og 0 ((meS (qS tn lo hi me n) (cl (t i)) (cl (t o))).toInt64)) ++ cW G xa so b ce a hh sg ln u6.1 u6.2.1 u6.2.2 fo tn w t lo hi me (nI n) qu gu ri re P F z o0 o1) (va_runV (As := [.int (nI i), .int (nI o)]) (rest := []) ⟨hx, hb, hml, hown, hts⟩ (c_X7_ifTouching l G _ A th (nI z) (nI ln) dg f sl ik sv sg pl n hn17 hn hvA i o hi6 ho hto (by rw [hRS.2.1.2.2.2.2 i hi6]; exact hT i hi6) (by rw [hRS.2.1.2.2.2.2 o ho]; exact hT o ho)) (cwV 2 hts gL_law_X7_ifTouching rfl rfl rfl (by decide +kernel) ⟨Nat.le_of_ble_eq_true rfl, Nat.le_of_ble_eq_true rfl⟩) (wV (pre := []) (mid := mW G A th (nI z) (nI ln) dg f sl ik sv sg pl) (suf := oW G oa (vp_updL og 0 ((meS (qS tn lo hi me n) (cl (t i)) (cl (t o))).toInt64)) ++ cW G xa so b ce a hh sg ln u6.1 u6.2.1 u6.2.2 fo tn w t lo hi me (nI n) qu gu ri re P F z o0 o1) (va_recv (ws := mW G A th (nI z) (nI ln) dg f sl ik sv sg pl ++ (oW G oa (vp_updL og 0 ((meS (qS tn lo hi me n) (cl (t i)) (cl (t o))).toInt64)) ++ cW G xa so b ce a hh sg ln u6.1 u6.2.1 u6.2.2 fo tn w t lo hi me (nI n) qu gu ri re P F z o0 o1)) hK hP (ci := 6) (q0 := 0) rfl rfl) hK hN hP hD) rfl rfl hl.1 rfl (lv_room (Nat.le_of_ble_eq_true rfl)) dL_law_1124 ⟨by show 100 + 7 * j + 0 + 0 ≤ 601024; omega, by show 2000 + 64 * j + 0 + 0 ≤ 7293034; omega⟩) hP hD hS hA (fun r7 u7 H locs hw7 hP9 hD9 hS => ?_)
  have hw7 : r7 = touN f n (f (11 + i)) (f (11 + o)) := hw7
  subst hw7
  have hP : PP G (mW G A (nI 0) (nI z) (nI ln) dg f sl ik sv sg u7 ++ (oW G oa (vp_updL og 0 ((meS (qS tn lo hi me n) (cl (t i)) (cl (t o))).toInt64)) ++ cW G xa so b ce a hh sg ln u6.1 u6.2.1 u6.2.2 fo tn w t lo hi me (nI n) qu gu ri re P F z o0 o1)) _ := hP9
  have hD : va_D Ar (mW G A (nI 0) (nI z) (nI ln) dg f sl ik sv sg u7 ++ (oW G oa (vp_updL og 0 ((meS (qS tn lo hi me n) (cl (t i)) (cl (t o))).toInt64)) ++ cW G xa so b ce a hh sg ln u6.1 u6.2.1 u6.2.2 fo tn w t lo hi me (nI n) qu gu ri re P F z o0 o1)) := hD9
  refine lv_istore (lv' := [(6, .int (touN f n (f (11 + i)) (f (11 + o)))), (5, .int (nI 0)), (0, .ref b9), (1, .ref xa), (2, .ref (A 0)), (3, .ref oa), (4, .int (nI (4 * j)))]) hx hb dL_law_1127 hl (by decide) rfl (fun ls hl => ?_)
  refine lv_aload_n hx hb dL_law_1129 rfl (lv_at hl 4 rfl) ?_
  refine rd_go (va_runV (As := []) (rest := []) ⟨hx, hb, hml, hown, hts⟩ (c_X7_thrown l G A (nI 0) (nI z) (nI ln) dg f sl ik sv sg u7) (cwV 0 hts gL_law_X7_thrown rfl rfl rfl (by decide +kernel) ⟨Nat.le_of_ble_eq_true rfl, Nat.le_of_ble_eq_true rfl⟩) (rV (ws := mW G A (nI 0) (nI z) (nI ln) dg f sl ik sv sg u7) (va_recv (ws := mW G A (nI 0) (nI z) (nI ln) dg f sl ik sv sg u7 ++ (oW G oa (vp_updL og 0 ((meS (qS tn lo hi me n) (cl (t i)) (cl (t o))).toInt64)) ++ cW G xa so b ce a hh sg ln u6.1 u6.2.1 u6.2.2 fo tn w t lo hi me (nI n) qu gu ri re P F z o0 o1)) hK hP (ci := 6) (q0 := 0) rfl rfl) hK hN (P_mid (pre := []) (mid := mW G A (nI 0) (nI z) (nI ln) dg f sl ik sv sg u7) (suf := oW G oa (vp_updL og 0 ((meS (qS tn lo hi me n) (cl (t i)) (cl (t o))).toInt64)) ++ cW G xa so b ce a hh sg ln u6.1 u6.2.1 u6.2.2 fo tn w t lo hi me (nI n) qu gu ri re P F z o0 o1) hP)) rfl rfl hl.1 rfl (lv_room (Nat.le_of_ble_eq_true rfl)) dL_law_1130 ⟨by show 100 + 7 * j + 0 + 0 + 0 ≤ 601024; omega, by show 2000 + 64 * j + 0 + 0 + 0 ≤ 7293034; omega⟩) ?_
  refine lv_iload hx hb dL_law_1133 (lv_at hl 1 rfl) ?_
  refine lv_icmp_eq (tgt := 1140) hx hb dL_law_1135 (by decide) (fun c_1135 => ?_) (fun c_1135 => by exact absurd c_1135 (by decide))
  refine lv_iload hx hb dL_law_1140 (lv_at hl 1 rfl) ?_
  refine lv_if_ne (tgt := 1157) hx hb dL_law_1142 (by decide) (fun c_1142 => by exact absurd c_1142 (by decide)) (fun c_1142 => ?_)
  refine lv_aload_n hx hb dL_law_1145 rfl (lv_at hl 5 rfl) ?_
  refine lv_iconst (v := nI 0) hx hb dL_law_1146 (by decide) ?_
  refine va_lald (D := G.1) (ws := mW G A (nI 0) (nI z) (nI ln) dg f sl ik sv sg u7 ++ (oW G oa (vp_updL og 0 ((meS (qS tn lo hi me n) (cl (t i)) (cl (t o))).toInt64)) ++ cW G xa so b ce a hh sg ln u6.1 u6.2.1 u6.2.2 fo tn w t lo hi me (nI n) qu gu ri re P F z o0 o1)) hx hb hK hP 7 3 (n := 1) rfl rfl (vp_in_nI (by decide) (by decide)) dL_law_1147 ?_
  refine lv_cgl (y := (meS (qS tn lo hi me n) (cl (t i)) (cl (t o))).toInt64) vpL ?_
  refine lv_iload hx hb dL_law_1148 (lv_at hl 0 rfl) ?_
  refine lv_i2l (v := (touN f n (f (11 + i)) (f (11 + o))).toInt64) hx hb dL_law_1150 rfl ?_
  refine lv_cgl (y := (meS (qS tn lo hi me n) (cl (t i)) (cl (t o))).toInt64) (by rw [lk_tou hRS hi6 ho]) ?_
  refine W.lcmp hx hb dL_law_1151 ?_
  refine lv_cgi (y := nI 0) (lg_self _) ?_
  refine lv_if_eq (tgt := 1157) hx hb dL_law_1152 (by decide) (fun c_1152 => ?_) (fun c_1152 => by exact absurd c_1152 (by decide))
  refine lv_goto (tgt := 1297) hx hb dL_law_1157 (by decide) ?_
  refine lv_iinc (v := nI (4 * (j + 1))) (lv' := [(4, .int (nI (4 * (j + 1)))), (6, .int (touN f n (f (11 + i)) (f (11 + o)))), (5, .int (nI 0)), (0, .ref b9), (1, .ref xa), (2, .ref (A 0)), (3, .ref oa)]) hx hb dL_law_1297 hl (k := 6) rfl (iinc4 (4 * j)) (by decide) rfl (fun ls hl => ?_)
  refine lv_goto (tgt := 23) hx hb dL_law_1300 (by decide) ?_
  refine W.widen (k := 100 + 7 * (j + 1)) (n := 2000 + 64 * (j + 1)) (by omega) (by omega) ?_
  exact hHd _ _ _ ⟨vp_updL og 0 ((meS (qS tn lo hi me n) (cl (t i)) (cl (t o))).toInt64), sg, ln, u6.1, u6.2.1, u6.2.2, fo, tn, w, t, lo, hi, me, nI n, qu, gu, ri, re, P, F, z, o0, o1, nI 0, dg, f, sl, ik, sv, u7, rfl, hln, hz, (RG_mono (Nat.le_succ _) (RG_of hRS)), (cen_of hn hcv6), (HI_mono (Nat.le_succ _) hHI), (SLr_mono (Nat.le_succ _) hs0), (SLr_mono (Nat.le_succ _) hs1)⟩ hP hD hS ls (lv_sub hl [3, 4, 5, 6, 0] rfl)

set_option maxHeartbeats 8000000 in
set_option maxRecDepth 100000 in
theorem L_bestQuestion {p : Program} {l : Launch} {e : Env} {s : State} {m : MethodId} {args : Array Value} {below : List Frame} {meth : Method} {cd : Code} {Q : State → Prop} {G : GG} {Ar : Nat → Prop} {b9 L : Nat} {xs : Nat → Int32} {xa so oa : Nat} {b ce a hh A : Nat → Nat} (hE : LE9 p l s m args cd G Ar b9 L xs) {j : Nat} (hj : 4 * j + 4 ≤ L) (hL : L ≤ 2048) (hHd : LH p l e s m args below meth cd Q G Ar b9 xa so oa b ce a hh A (j + 1))
    (og : Nat → Int64) (sg : Nat → Int32) (ln : Nat) (hln : ln ≤ 60) (mk : Nat → Int32) (cs up fo tn : Int32) (w t lo hi me : Nat → Int32) (n : Nat) (qu gu ri re : Int32) (P : Nat → Nat → Nat) (F : Nat → Nat → Nat → Int32) (z : Nat) (hz : z ≤ 6) (o0 : SLO) (o1 : SLO) (th : Int32) (dg : Int64) (f sl ik sv pl : Nat → Int32) 
    (hRS : RS j fo tn w t lo hi me n qu gu ri re f) (hcv : cenV (qS tn lo hi me n) mk cs up) (hHI : HI j z F sv) (hs0 : SLr j o0 (ik 0) sl) (hs1 : SLr j o1 (ik 1) (fun j => sl (58 + j))) 
    {H : Heap} {locs : List Loc} (hP : PP G (mW G A th (nI z) (nI ln) dg f sl ik sv sg pl ++ (oW G oa og ++ cW G xa so b ce a hh sg ln mk cs up fo tn w t lo hi me (nI n) qu gu ri re P F z o0 o1)) H) (hD : va_D Ar (mW G A th (nI z) (nI ln) dg f sl ik sv sg pl ++ (oW G oa og ++ cW G xa so b ce a hh sg ln mk cs up fo tn w t lo hi me (nI n) qu gu ri re P F z o0 o1))) (hS : va_S Ar s.heap H locs) {ls : Array Slot} (hl : lv_has ls 9 [(0, .ref b9), (1, .ref xa), (2, .ref (A 0)), (3, .ref oa), (4, .int (nI (4 * j)))]) : W p l e room_1 s m args below meth cd H locs (100 + 7 * j) (2000 + 64 * j) Q (F0 m 1160 ls []) := by
  obtain ⟨hx, hb, hml, hown, hts, hfl, ⟨hK, hN, hX, hZ0⟩, hA, hXs, hbl, hbA⟩ := id hE
  have hn : n ≤ 12 := hRS.1.1
  have hn17 : f 17 = nI n := hRS.2.1.2.2.1
  have hT : okP t := hRS.2.2.1.2.1
  have hvL : okL lo hi := hRS.2.2.1.2.2.1
  have hvA : okA f := hRS.2.2.1.2.2.2
  have htF : okT f := fun i hi => by rw [hRS.2.1.2.2.2.2 i hi]; exact hT i hi
  refine lv_aload_n hx hb dL_law_1160 rfl (lv_at hl 1 rfl) ?_
  refine wr_g1i (pre := mW G A th (nI z) (nI ln) dg f sl ik sv sg pl ++ oW G oa og) (mid := cW G xa so b ce a hh sg ln mk cs up fo tn w t lo hi me (nI n) qu gu ri re P F z o0 o1) (va_runV (As := []) (rest := []) ⟨hx, hb, hml, hown, hts⟩ (c_X6_bestQuestion l G _ xa so b ce a hh sg ln hln mk cs up fo tn w t lo hi me n hn qu gu ri re P F z hz o0 o1 hvL hcv hT) (cwV 0 hts gL_law_X6_bestQuestion rfl rfl rfl (by decide +kernel) ⟨Nat.le_of_ble_eq_true rfl, Nat.le_of_ble_eq_true rfl⟩) (wV1 (pre := mW G A th (nI z) (nI ln) dg f sl ik sv sg pl ++ oW G oa og) (mid := cW G xa so b ce a hh sg ln mk cs up fo tn w t lo hi me (nI n) qu gu ri re P F z o0 o1) (va_recv (ws := mW G A th (nI z) (nI ln) dg f sl ik sv sg pl ++ (oW G oa og ++ cW G xa so b ce a hh sg ln mk cs up fo tn w t lo hi me (nI n) qu gu ri re P F z o0 o1)) hK hP (ci := 5) (q0 := 8) rfl rfl) hK hN hP hD) rfl rfl hl.1 rfl (lv_room (Nat.le_of_ble_eq_true rfl)) dL_law_1161 ⟨by show 100 + 7 * j + 0 ≤ 601024; omega, by show 2000 + 64 * j + 0 ≤ 7293034; omega⟩) hP hD hS hA (fun r6 u6 H locs hw6 hP9 hD9 hS => ?_)
  have hw6 : r6 = (outC (askW t lo hi me n) (worW (qS tn lo hi me n) t) 6).1 ∧ cenV (qS tn lo hi me n) u6.1 u6.2.1 u6.2.2 := hw6
  obtain ⟨rfl, hcv6⟩ := hw6
  have hP : PP G (mW G A th (nI z) (nI ln) dg f sl ik sv sg pl ++ (oW G oa og ++ cW G xa so b ce a hh sg ln u6.1 u6.2.1 u6.2.2 fo tn w t lo hi me (nI n) qu gu ri re P F z o0 o1)) _ := hP9
  have hD : va_D Ar (mW G A th (nI z) (nI ln) dg f sl ik sv sg pl ++ (oW G oa og ++ cW G xa so b ce a hh sg ln u6.1 u6.2.1 u6.2.2 fo tn w t lo hi me (nI n) qu gu ri re P F z o0 o1)) := hD9
  refine lv_aload_n hx hb dL_law_1164 rfl (lv_at hl 2 rfl) ?_
  refine wr_goi (pre := []) (mid := mW G A th (nI z) (nI ln) dg f sl ik sv sg pl) (suf := oW G oa og ++ cW G xa so b ce a hh sg ln u6.1 u6.2.1 u6.2.2 fo tn w t lo hi me (nI n) qu gu ri re P F z o0 o1) (va_runV (As := []) (rest := [.int ((outC (askW t lo hi me n) (worW (qS tn lo hi me n) t) 6).1)]) ⟨hx, hb, hml, hown, hts⟩ (c_X7_bestQuestion l G _ A th (nI z) (nI ln) dg f sl ik sv sg pl n hn17 hn hvA htF) (cwV 0 hts gL_law_X7_bestQuestion rfl rfl rfl (by decide +kernel) ⟨Nat.le_of_ble_eq_true rfl, Nat.le_of_ble_eq_true rfl⟩) (wV (pre := []) (mid := mW G A th (nI z) (nI ln) dg f sl ik sv sg pl) (suf := oW G oa og ++ cW G xa so b ce a hh sg ln u6.1 u6.2.1 u6.2.2 fo tn w t lo hi me (nI n) qu gu ri re P F z o0 o1) (va_recv (ws := mW G A th (nI z) (nI ln) dg f sl ik sv sg pl ++ (oW G oa og ++ cW G xa so b ce a hh sg ln u6.1 u6.2.1 u6.2.2 fo tn w t lo hi me (nI n) qu gu ri re P F z o0 o1)) hK hP (ci := 6) (q0 := 0) rfl rfl) hK hN hP hD) rfl rfl hl.1 rfl (lv_room (Nat.le_of_ble_eq_true rfl)) dL_law_1165 ⟨by show 100 + 7 * j + 0 + 0 ≤ 601024; omega, by show 2000 + 64 * j + 0 + 0 ≤ 7293034; omega⟩) hP hD hS hA (fun r7 u7 H locs hw7 hP9 hD9 hS => ?_)
  have hw7 : r7 = (qsM f n 36).1 := hw7
  subst hw7
  have hP : PP G (mW G A (nI 0) (nI z) (nI ln) dg f sl ik sv sg u7 ++ (oW G oa og ++ cW G xa so b ce a hh sg ln u6.1 u6.2.1 u6.2.2 fo tn w t lo hi me (nI n) qu gu ri re P F z o0 o1)) _ := hP9
  have hD : va_D Ar (mW G A (nI 0) (nI z) (nI ln) dg f sl ik sv sg u7 ++ (oW G oa og ++ cW G xa so b ce a hh sg ln u6.1 u6.2.1 u6.2.2 fo tn w t lo hi me (nI n) qu gu ri re P F z o0 o1)) := hD9
  refine lv_cgi (y := (outC (askW t lo hi me n) (worW (qS tn lo hi me n) t) 6).1) (lk_bq hRS) ?_
  refine lv_icmp_eq (tgt := 1297) hx hb dL_law_1168 (by decide) (fun c_1168 => ?_) (fun c_1168 => by exact absurd rfl c_1168)
  refine lv_iinc (v := nI (4 * (j + 1))) (lv' := [(4, .int (nI (4 * (j + 1)))), (0, .ref b9), (1, .ref xa), (2, .ref (A 0)), (3, .ref oa)]) hx hb dL_law_1297 hl (k := 4) rfl (iinc4 (4 * j)) (by decide) rfl (fun ls hl => ?_)
  refine lv_goto (tgt := 23) hx hb dL_law_1300 (by decide) ?_
  refine W.widen (k := 100 + 7 * (j + 1)) (n := 2000 + 64 * (j + 1)) (by omega) (by omega) ?_
  exact hHd _ _ _ ⟨og, sg, ln, u6.1, u6.2.1, u6.2.2, fo, tn, w, t, lo, hi, me, nI n, qu, gu, ri, re, P, F, z, o0, o1, nI 0, dg, f, sl, ik, sv, u7, rfl, hln, hz, (RG_mono (Nat.le_succ _) (RG_of hRS)), (cen_of hn hcv6), (HI_mono (Nat.le_succ _) hHI), (SLr_mono (Nat.le_succ _) hs0), (SLr_mono (Nat.le_succ _) hs1)⟩ hP hD hS ls (lv_sub hl [1, 2, 3, 4, 0] rfl)

set_option maxHeartbeats 8000000 in
set_option maxRecDepth 100000 in
theorem L_folding {p : Program} {l : Launch} {e : Env} {s : State} {m : MethodId} {args : Array Value} {below : List Frame} {meth : Method} {cd : Code} {Q : State → Prop} {G : GG} {Ar : Nat → Prop} {b9 L : Nat} {xs : Nat → Int32} {xa so oa : Nat} {b ce a hh A : Nat → Nat} (hE : LE9 p l s m args cd G Ar b9 L xs) {j : Nat} (hj : 4 * j + 4 ≤ L) (hL : L ≤ 2048) (hHd : LH p l e s m args below meth cd Q G Ar b9 xa so oa b ce a hh A (j + 1))
    (og : Nat → Int64) (sg : Nat → Int32) (ln : Nat) (hln : ln ≤ 60) (mk : Nat → Int32) (cs up fo tn : Int32) (w t lo hi me : Nat → Int32) (n : Nat) (qu gu ri re : Int32) (P : Nat → Nat → Nat) (F : Nat → Nat → Nat → Int32) (z : Nat) (hz : z ≤ 6) (o0 : SLO) (o1 : SLO) (th : Int32) (dg : Int64) (f sl ik sv pl : Nat → Int32) (x : Int32) (hx0 : ¬ x < 0)
    (hRS : RS j fo tn w t lo hi me n qu gu ri re f) (hcv : cenV (qS tn lo hi me n) mk cs up) (hHI : HI j z F sv) (hs0 : SLr j o0 (ik 0) sl) (hs1 : SLr j o1 (ik 1) (fun j => sl (58 + j))) (hp0 : xs (4 * j + 1) = x)
    {H : Heap} {locs : List Loc} (hP : PP G (mW G A th (nI z) (nI ln) dg f sl ik sv sg pl ++ (oW G oa og ++ cW G xa so b ce a hh sg ln mk cs up fo tn w t lo hi me (nI n) qu gu ri re P F z o0 o1)) H) (hD : va_D Ar (mW G A th (nI z) (nI ln) dg f sl ik sv sg pl ++ (oW G oa og ++ cW G xa so b ce a hh sg ln mk cs up fo tn w t lo hi me (nI n) qu gu ri re P F z o0 o1))) (hS : va_S Ar s.heap H locs) {ls : Array Slot} (hl : lv_has ls 9 [(0, .ref b9), (1, .ref xa), (2, .ref (A 0)), (3, .ref oa), (4, .int (nI (4 * j)))]) : W p l e room_1 s m args below meth cd H locs (100 + 7 * j) (2000 + 64 * j) Q (F0 m 1173 ls []) := by
  obtain ⟨hx, hb, hml, hown, hts, hfl, ⟨hK, hN, hX, hZ0⟩, hA, hXs, hbl, hbA⟩ := id hE
  have hn : n ≤ 12 := hRS.1.1
  have hn17 : f 17 = nI n := hRS.2.1.2.2.1
  have hT : okP t := hRS.2.2.1.2.1
  have hvL : okL lo hi := hRS.2.2.1.2.2.1
  have hvA : okA f := hRS.2.2.1.2.2.2
  have htF : okT f := fun i hi => by rw [hRS.2.1.2.2.2.2 i hi]; exact hT i hi
  refine lv_aload_n hx hb dL_law_1173 rfl (lv_at hl 1 rfl) ?_
  refine lv_aload_n hx hb dL_law_1174 rfl (lv_at hl 0 rfl) ?_
  refine lv_iload hx hb dL_law_1175 (lv_at hl 4 rfl) ?_
  refine lv_iconst (v := nI 1) hx hb dL_law_1177 (by decide) ?_
  refine lv_iadd hx hb dL_law_1178 ?_
  refine lv_cgi (y := nI ((4 * j) + 1)) (nI_add _ _) ?_
  refine va_sld hx hb hXs hbl hbA hS (vp_in_nI (by omega) (by omega)) dL_law_1179 ?_
  refine lv_cgi (y := x) (by rw [nI_clamp (by omega)]; exact hp0) ?_
  refine lv_aload_n hx hb dL_law_1180 rfl (lv_at hl 3 rfl) ?_
  refine wr_g1i (pre := mW G A th (nI z) (nI ln) dg f sl ik sv sg pl) (mid := oW G oa og ++ cW G xa so b ce a hh sg ln mk cs up fo tn w t lo hi me (nI n) qu gu ri re P F z o0 o1) (vx_runSW (As := [.ref xa, .int x, .ref oa]) (rest := []) ⟨hx, hb, hml, hown, hts⟩ (w_folding_ok l G _ xa oa _ _ og x (fun sz => c_X6_folding l G sz xa so b ce a hh sg ln hln mk cs up fo tn w t lo hi me n hn qu gu ri re P F z hz o0 o1 hvL hcv x hx0)) (vx_cwSW 3 hts gL_law_L_folding rfl rfl rfl (by decide +kernel) ⟨Nat.le_of_ble_eq_true rfl, Nat.le_of_ble_eq_true rfl⟩) (lxS1 (pre := mW G A th (nI z) (nI ln) dg f sl ik sv sg pl) (mid := oW G oa og ++ cW G xa so b ce a hh sg ln mk cs up fo tn w t lo hi me (nI n) qu gu ri re P F z o0 o1) hK hN hX (XZ_at hZ0 hS hA) hP hD) rfl rfl hl.1 rfl (lv_room (Nat.le_of_ble_eq_true rfl)) dL_law_1181 ⟨by show 100 + 7 * j + 0 ≤ 601024; omega, by show 2000 + 64 * j + 0 ≤ 7293034; omega⟩) hP hD hS hA (fun r6 u6 H locs hw6 hP9 hD9 hS => ?_)
  obtain ⟨v6, u6⟩ := u6
  have hw6 : r6 = nI 0 ∧ (v6 = faM (qS tn lo hi me n) x 512 0 ∧ cenV (qS tn lo hi me n) u6.1 u6.2.1 u6.2.2) := hw6
  obtain ⟨rfl, rfl, hcv6⟩ := hw6
  have hP : PP G (mW G A th (nI z) (nI ln) dg f sl ik sv sg pl ++ (oW G oa (vp_updL og 0 ((faM (qS tn lo hi me n) x 512 0).toInt64)) ++ cW G xa so b ce a hh sg ln u6.1 u6.2.1 u6.2.2 fo tn w t lo hi me (nI n) qu gu ri re P F z o0 o1)) _ := hP9
  have hD : va_D Ar (mW G A th (nI z) (nI ln) dg f sl ik sv sg pl ++ (oW G oa (vp_updL og 0 ((faM (qS tn lo hi me n) x 512 0).toInt64)) ++ cW G xa so b ce a hh sg ln u6.1 u6.2.1 u6.2.2 fo tn w t lo hi me (nI n) qu gu ri re P F z o0 o1)) := hD9
  refine lv_istore (lv' := [(5, .int (nI 0)), (0, .ref b9), (1, .ref xa), (2, .ref (A 0)), (3, .ref oa), (4, .int (nI (4 * j)))]) hx hb dL_law_1184 hl (by decide) rfl (fun ls hl => ?_)
  refine lv_aload_n hx hb dL_law_1186 rfl (lv_at hl 3 rfl) ?_
  refine lv_aload_n hx hb dL_law_1187 rfl (lv_at hl 1 rfl) ?_
  refine lv_iload hx hb dL_law_1188 (lv_at hl 5 rfl) ?_
  refine lv_iconst (v := nI 1) hx hb dL_law_1190 (by decide) ?_
  refine lv_iadd hx hb dL_law_1191 ?_
  refine lv_cgi (y := nI ((4 * j) + 1)) (nI_add _ _) ?_
  refine va_sld hx hb hXs hbl hbA hS (vp_in_nI (by omega) (by omega)) dL_law_1192 ?_
  refine lv_cgi (y := x) (by rw [nI_clamp (by omega)]; exact hp0) ?_
  refine wr_goi (pre := []) (mid := mW G A th (nI z) (nI ln) dg f sl ik sv sg pl) (suf := oW G oa (vp_updL og 0 ((faM (qS tn lo hi me n) x 512 0).toInt64)) ++ cW G xa so b ce a hh sg ln u6.1 u6.2.1 u6.2.2 fo tn w t lo hi me (nI n) qu gu ri re P F z o0 o1) (va_runV (As := [.int x]) (rest := []) ⟨hx, hb, hml, hown, hts⟩ (c_X7_folding l G _ A th (nI z) (nI ln) dg f sl ik sv sg pl n hn17 hn hvA x hx0) (cwV 1 hts gL_law_X7_folding rfl rfl rfl (by decide +kernel) ⟨Nat.le_of_ble_eq_true rfl, Nat.le_of_ble_eq_true rfl⟩) (wV (pre := []) (mid := mW G A th (nI z) (nI ln) dg f sl ik sv sg pl) (suf := oW G oa (vp_updL og 0 ((faM (qS tn lo hi me n) x 512 0).toInt64)) ++ cW G xa so b ce a hh sg ln u6.1 u6.2.1 u6.2.2 fo tn w t lo hi me (nI n) qu gu ri re P F z o0 o1) (va_recv (ws := mW G A th (nI z) (nI ln) dg f sl ik sv sg pl ++ (oW G oa (vp_updL og 0 ((faM (qS tn lo hi me n) x 512 0).toInt64)) ++ cW G xa so b ce a hh sg ln u6.1 u6.2.1 u6.2.2 fo tn w t lo hi me (nI n) qu gu ri re P F z o0 o1)) hK hP (ci := 6) (q0 := 0) rfl rfl) hK hN hP hD) rfl rfl hl.1 rfl (lv_room (Nat.le_of_ble_eq_true rfl)) dL_law_1193 ⟨by show 100 + 7 * j + 0 + 0 ≤ 601024; omega, by show 2000 + 64 * j + 0 + 0 ≤ 7293034; omega⟩) hP hD hS hA (fun r7 u7 H locs hw7 hP9 hD9 hS => ?_)
  have hw7 : r7 = faM (qM f n) x 512 0 := hw7
  subst hw7
  have hP : PP G (mW G A (nI 0) (nI z) (nI ln) dg f sl ik sv sg u7 ++ (oW G oa (vp_updL og 0 ((faM (qS tn lo hi me n) x 512 0).toInt64)) ++ cW G xa so b ce a hh sg ln u6.1 u6.2.1 u6.2.2 fo tn w t lo hi me (nI n) qu gu ri re P F z o0 o1)) _ := hP9
  have hD : va_D Ar (mW G A (nI 0) (nI z) (nI ln) dg f sl ik sv sg u7 ++ (oW G oa (vp_updL og 0 ((faM (qS tn lo hi me n) x 512 0).toInt64)) ++ cW G xa so b ce a hh sg ln u6.1 u6.2.1 u6.2.2 fo tn w t lo hi me (nI n) qu gu ri re P F z o0 o1)) := hD9
  refine lv_istore (lv' := [(6, .int (faM (qM f n) x 512 0)), (5, .int (nI 0)), (0, .ref b9), (1, .ref xa), (2, .ref (A 0)), (3, .ref oa), (4, .int (nI (4 * j)))]) hx hb dL_law_1196 hl (by decide) rfl (fun ls hl => ?_)
  refine lv_aload_n hx hb dL_law_1198 rfl (lv_at hl 4 rfl) ?_
  refine rd_go (va_runV (As := []) (rest := []) ⟨hx, hb, hml, hown, hts⟩ (c_X7_thrown l G A (nI 0) (nI z) (nI ln) dg f sl ik sv sg u7) (cwV 0 hts gL_law_X7_thrown rfl rfl rfl (by decide +kernel) ⟨Nat.le_of_ble_eq_true rfl, Nat.le_of_ble_eq_true rfl⟩) (rV (ws := mW G A (nI 0) (nI z) (nI ln) dg f sl ik sv sg u7) (va_recv (ws := mW G A (nI 0) (nI z) (nI ln) dg f sl ik sv sg u7 ++ (oW G oa (vp_updL og 0 ((faM (qS tn lo hi me n) x 512 0).toInt64)) ++ cW G xa so b ce a hh sg ln u6.1 u6.2.1 u6.2.2 fo tn w t lo hi me (nI n) qu gu ri re P F z o0 o1)) hK hP (ci := 6) (q0 := 0) rfl rfl) hK hN (P_mid (pre := []) (mid := mW G A (nI 0) (nI z) (nI ln) dg f sl ik sv sg u7) (suf := oW G oa (vp_updL og 0 ((faM (qS tn lo hi me n) x 512 0).toInt64)) ++ cW G xa so b ce a hh sg ln u6.1 u6.2.1 u6.2.2 fo tn w t lo hi me (nI n) qu gu ri re P F z o0 o1) hP)) rfl rfl hl.1 rfl (lv_room (Nat.le_of_ble_eq_true rfl)) dL_law_1199 ⟨by show 100 + 7 * j + 0 + 0 + 0 ≤ 601024; omega, by show 2000 + 64 * j + 0 + 0 + 0 ≤ 7293034; omega⟩) ?_
  refine lv_iload hx hb dL_law_1202 (lv_at hl 1 rfl) ?_
  refine lv_icmp_eq (tgt := 1209) hx hb dL_law_1204 (by decide) (fun c_1204 => ?_) (fun c_1204 => by exact absurd c_1204 (by decide))
  refine lv_iload hx hb dL_law_1209 (lv_at hl 1 rfl) ?_
  refine lv_if_ne (tgt := 1226) hx hb dL_law_1211 (by decide) (fun c_1211 => by exact absurd c_1211 (by decide)) (fun c_1211 => ?_)
  refine lv_aload_n hx hb dL_law_1214 rfl (lv_at hl 5 rfl) ?_
  refine lv_iconst (v := nI 0) hx hb dL_law_1215 (by decide) ?_
  refine va_lald (D := G.1) (ws := mW G A (nI 0) (nI z) (nI ln) dg f sl ik sv sg u7 ++ (oW G oa (vp_updL og 0 ((faM (qS tn lo hi me n) x 512 0).toInt64)) ++ cW G xa so b ce a hh sg ln u6.1 u6.2.1 u6.2.2 fo tn w t lo hi me (nI n) qu gu ri re P F z o0 o1)) hx hb hK hP 7 3 (n := 1) rfl rfl (vp_in_nI (by decide) (by decide)) dL_law_1216 ?_
  refine lv_cgl (y := (faM (qS tn lo hi me n) x 512 0).toInt64) vpL ?_
  refine lv_iload hx hb dL_law_1217 (lv_at hl 0 rfl) ?_
  refine lv_i2l (v := (faM (qM f n) x 512 0).toInt64) hx hb dL_law_1219 rfl ?_
  refine lv_cgl (y := (faM (qS tn lo hi me n) x 512 0).toInt64) (by rw [lk_fa hRS x]) ?_
  refine W.lcmp hx hb dL_law_1220 ?_
  refine lv_cgi (y := nI 0) (lg_self _) ?_
  refine lv_if_eq (tgt := 1226) hx hb dL_law_1221 (by decide) (fun c_1221 => ?_) (fun c_1221 => by exact absurd c_1221 (by decide))
  refine lv_goto (tgt := 1297) hx hb dL_law_1226 (by decide) ?_
  refine lv_iinc (v := nI (4 * (j + 1))) (lv' := [(4, .int (nI (4 * (j + 1)))), (6, .int (faM (qM f n) x 512 0)), (5, .int (nI 0)), (0, .ref b9), (1, .ref xa), (2, .ref (A 0)), (3, .ref oa)]) hx hb dL_law_1297 hl (k := 6) rfl (iinc4 (4 * j)) (by decide) rfl (fun ls hl => ?_)
  refine lv_goto (tgt := 23) hx hb dL_law_1300 (by decide) ?_
  refine W.widen (k := 100 + 7 * (j + 1)) (n := 2000 + 64 * (j + 1)) (by omega) (by omega) ?_
  exact hHd _ _ _ ⟨vp_updL og 0 ((faM (qS tn lo hi me n) x 512 0).toInt64), sg, ln, u6.1, u6.2.1, u6.2.2, fo, tn, w, t, lo, hi, me, nI n, qu, gu, ri, re, P, F, z, o0, o1, nI 0, dg, f, sl, ik, sv, u7, rfl, hln, hz, (RG_mono (Nat.le_succ _) (RG_of hRS)), (cen_of hn hcv6), (HI_mono (Nat.le_succ _) hHI), (SLr_mono (Nat.le_succ _) hs0), (SLr_mono (Nat.le_succ _) hs1)⟩ hP hD hS ls (lv_sub hl [3, 4, 5, 6, 0] rfl)

set_option maxHeartbeats 8000000 in
set_option maxRecDepth 100000 in
theorem L_weakest {p : Program} {l : Launch} {e : Env} {s : State} {m : MethodId} {args : Array Value} {below : List Frame} {meth : Method} {cd : Code} {Q : State → Prop} {G : GG} {Ar : Nat → Prop} {b9 L : Nat} {xs : Nat → Int32} {xa so oa : Nat} {b ce a hh A : Nat → Nat} (hE : LE9 p l s m args cd G Ar b9 L xs) {j : Nat} (hj : 4 * j + 4 ≤ L) (hL : L ≤ 2048) (hHd : LH p l e s m args below meth cd Q G Ar b9 xa so oa b ce a hh A (j + 1))
    (og : Nat → Int64) (sg : Nat → Int32) (ln : Nat) (hln : ln ≤ 60) (mk : Nat → Int32) (cs up fo tn : Int32) (w t lo hi me : Nat → Int32) (n : Nat) (qu gu ri re : Int32) (P : Nat → Nat → Nat) (F : Nat → Nat → Nat → Int32) (z : Nat) (hz : z ≤ 6) (o0 : SLO) (o1 : SLO) (th : Int32) (dg : Int64) (f sl ik sv pl : Nat → Int32) 
    (hRS : RS j fo tn w t lo hi me n qu gu ri re f) (hcv : cenV (qS tn lo hi me n) mk cs up) (hHI : HI j z F sv) (hs0 : SLr j o0 (ik 0) sl) (hs1 : SLr j o1 (ik 1) (fun j => sl (58 + j))) 
    {H : Heap} {locs : List Loc} (hP : PP G (mW G A th (nI z) (nI ln) dg f sl ik sv sg pl ++ (oW G oa og ++ cW G xa so b ce a hh sg ln mk cs up fo tn w t lo hi me (nI n) qu gu ri re P F z o0 o1)) H) (hD : va_D Ar (mW G A th (nI z) (nI ln) dg f sl ik sv sg pl ++ (oW G oa og ++ cW G xa so b ce a hh sg ln mk cs up fo tn w t lo hi me (nI n) qu gu ri re P F z o0 o1))) (hS : va_S Ar s.heap H locs) {ls : Array Slot} (hl : lv_has ls 9 [(0, .ref b9), (1, .ref xa), (2, .ref (A 0)), (3, .ref oa), (4, .int (nI (4 * j)))]) : W p l e room_1 s m args below meth cd H locs (100 + 7 * j) (2000 + 64 * j) Q (F0 m 1229 ls []) := by
  obtain ⟨hx, hb, hml, hown, hts, hfl, ⟨hK, hN, hX, hZ0⟩, hA, hXs, hbl, hbA⟩ := id hE
  have hn : n ≤ 12 := hRS.1.1
  have hn17 : f 17 = nI n := hRS.2.1.2.2.1
  have hT : okP t := hRS.2.2.1.2.1
  have hvL : okL lo hi := hRS.2.2.1.2.2.1
  have hvA : okA f := hRS.2.2.1.2.2.2
  have htF : okT f := fun i hi => by rw [hRS.2.1.2.2.2.2 i hi]; exact hT i hi
  refine lv_aload_n hx hb dL_law_1229 rfl (lv_at hl 1 rfl) ?_
  refine wr_g1i (pre := mW G A th (nI z) (nI ln) dg f sl ik sv sg pl ++ oW G oa og) (mid := cW G xa so b ce a hh sg ln mk cs up fo tn w t lo hi me (nI n) qu gu ri re P F z o0 o1) (va_runV (As := []) (rest := []) ⟨hx, hb, hml, hown, hts⟩ (rd_wr (c_X6_weakest l G xa so b ce a hh sg ln hln mk cs up fo tn w t lo hi me n hn qu gu ri re P F z hz o0 o1) _) (cwV 0 hts gL_law_X6_weakest rfl rfl rfl (by decide +kernel) ⟨Nat.le_of_ble_eq_true rfl, Nat.le_of_ble_eq_true rfl⟩) (wV1 (pre := mW G A th (nI z) (nI ln) dg f sl ik sv sg pl ++ oW G oa og) (mid := cW G xa so b ce a hh sg ln mk cs up fo tn w t lo hi me (nI n) qu gu ri re P F z o0 o1) (va_recv (ws := mW G A th (nI z) (nI ln) dg f sl ik sv sg pl ++ (oW G oa og ++ cW G xa so b ce a hh sg ln mk cs up fo tn w t lo hi me (nI n) qu gu ri re P F z o0 o1)) hK hP (ci := 5) (q0 := 8) rfl rfl) hK hN hP hD) rfl rfl hl.1 rfl (lv_room (Nat.le_of_ble_eq_true rfl)) dL_law_1230 ⟨by show 100 + 7 * j + 0 ≤ 601024; omega, by show 2000 + 64 * j + 0 ≤ 7293034; omega⟩) hP hD hS hA (fun r6 u6 H locs hw6 hP9 hD9 hS => ?_)
  have hw6 : r6 = (wkC fo w 9).1 := hw6
  subst hw6
  have hP : PP G (mW G A th (nI z) (nI ln) dg f sl ik sv sg pl ++ (oW G oa og ++ cW G xa so b ce a hh sg ln mk cs up fo tn w t lo hi me (nI n) qu gu ri re P F z o0 o1)) _ := hP9
  have hD : va_D Ar (mW G A th (nI z) (nI ln) dg f sl ik sv sg pl ++ (oW G oa og ++ cW G xa so b ce a hh sg ln mk cs up fo tn w t lo hi me (nI n) qu gu ri re P F z o0 o1)) := hD9
  refine lv_aload_n hx hb dL_law_1233 rfl (lv_at hl 2 rfl) ?_
  refine wr_goi (pre := []) (mid := mW G A th (nI z) (nI ln) dg f sl ik sv sg pl) (suf := oW G oa og ++ cW G xa so b ce a hh sg ln mk cs up fo tn w t lo hi me (nI n) qu gu ri re P F z o0 o1) (va_runV (As := []) (rest := [.int ((wkC fo w 9).1)]) ⟨hx, hb, hml, hown, hts⟩ (c_X7_weakest l G _ A th (nI z) (nI ln) dg f sl ik sv sg pl) (cwV 0 hts gL_law_X7_weakest rfl rfl rfl (by decide +kernel) ⟨Nat.le_of_ble_eq_true rfl, Nat.le_of_ble_eq_true rfl⟩) (wV (pre := []) (mid := mW G A th (nI z) (nI ln) dg f sl ik sv sg pl) (suf := oW G oa og ++ cW G xa so b ce a hh sg ln mk cs up fo tn w t lo hi me (nI n) qu gu ri re P F z o0 o1) (va_recv (ws := mW G A th (nI z) (nI ln) dg f sl ik sv sg pl ++ (oW G oa og ++ cW G xa so b ce a hh sg ln mk cs up fo tn w t lo hi me (nI n) qu gu ri re P F z o0 o1)) hK hP (ci := 6) (q0 := 0) rfl rfl) hK hN hP hD) rfl rfl hl.1 rfl (lv_room (Nat.le_of_ble_eq_true rfl)) dL_law_1234 ⟨by show 100 + 7 * j + 0 + 0 ≤ 601024; omega, by show 2000 + 64 * j + 0 + 0 ≤ 7293034; omega⟩) hP hD hS hA (fun r7 u7 H locs hw7 hP9 hD9 hS => ?_)
  have hw7 : r7 = wkM f 9 := hw7
  subst hw7
  have hP : PP G (mW G A (nI 0) (nI z) (nI ln) dg f sl ik sv sg pl ++ (oW G oa og ++ cW G xa so b ce a hh sg ln mk cs up fo tn w t lo hi me (nI n) qu gu ri re P F z o0 o1)) _ := hP9
  have hD : va_D Ar (mW G A (nI 0) (nI z) (nI ln) dg f sl ik sv sg pl ++ (oW G oa og ++ cW G xa so b ce a hh sg ln mk cs up fo tn w t lo hi me (nI n) qu gu ri re P F z o0 o1)) := hD9
  refine lv_cgi (y := (wkC fo w 9).1) (lk_wk hRS (by omega)) ?_
  refine lv_icmp_eq (tgt := 1297) hx hb dL_law_1237 (by decide) (fun c_1237 => ?_) (fun c_1237 => by exact absurd rfl c_1237)
  refine lv_iinc (v := nI (4 * (j + 1))) (lv' := [(4, .int (nI (4 * (j + 1)))), (0, .ref b9), (1, .ref xa), (2, .ref (A 0)), (3, .ref oa)]) hx hb dL_law_1297 hl (k := 4) rfl (iinc4 (4 * j)) (by decide) rfl (fun ls hl => ?_)
  refine lv_goto (tgt := 23) hx hb dL_law_1300 (by decide) ?_
  refine W.widen (k := 100 + 7 * (j + 1)) (n := 2000 + 64 * (j + 1)) (by omega) (by omega) ?_
  exact hHd _ _ _ ⟨og, sg, ln, mk, cs, up, fo, tn, w, t, lo, hi, me, nI n, qu, gu, ri, re, P, F, z, o0, o1, nI 0, dg, f, sl, ik, sv, pl, rfl, hln, hz, (RG_mono (Nat.le_succ _) (RG_of hRS)), (cen_of hn hcv), (HI_mono (Nat.le_succ _) hHI), (SLr_mono (Nat.le_succ _) hs0), (SLr_mono (Nat.le_succ _) hs1)⟩ hP hD hS ls (lv_sub hl [1, 2, 3, 4, 0] rfl)

set_option maxHeartbeats 8000000 in
set_option maxRecDepth 100000 in
theorem L_sureShare {p : Program} {l : Launch} {e : Env} {s : State} {m : MethodId} {args : Array Value} {below : List Frame} {meth : Method} {cd : Code} {Q : State → Prop} {G : GG} {Ar : Nat → Prop} {b9 L : Nat} {xs : Nat → Int32} {xa so oa : Nat} {b ce a hh A : Nat → Nat} (hE : LE9 p l s m args cd G Ar b9 L xs) {j : Nat} (hj : 4 * j + 4 ≤ L) (hL : L ≤ 2048) (hHd : LH p l e s m args below meth cd Q G Ar b9 xa so oa b ce a hh A (j + 1))
    (og : Nat → Int64) (sg : Nat → Int32) (ln : Nat) (hln : ln ≤ 60) (mk : Nat → Int32) (cs up fo tn : Int32) (w t lo hi me : Nat → Int32) (n : Nat) (qu gu ri re : Int32) (P : Nat → Nat → Nat) (F : Nat → Nat → Nat → Int32) (z : Nat) (hz : z ≤ 6) (o0 : SLO) (o1 : SLO) (th : Int32) (dg : Int64) (f sl ik sv pl : Nat → Int32) 
    (hRS : RS j fo tn w t lo hi me n qu gu ri re f) (hcv : cenV (qS tn lo hi me n) mk cs up) (hHI : HI j z F sv) (hs0 : SLr j o0 (ik 0) sl) (hs1 : SLr j o1 (ik 1) (fun j => sl (58 + j))) 
    {H : Heap} {locs : List Loc} (hP : PP G (mW G A th (nI z) (nI ln) dg f sl ik sv sg pl ++ (oW G oa og ++ cW G xa so b ce a hh sg ln mk cs up fo tn w t lo hi me (nI n) qu gu ri re P F z o0 o1)) H) (hD : va_D Ar (mW G A th (nI z) (nI ln) dg f sl ik sv sg pl ++ (oW G oa og ++ cW G xa so b ce a hh sg ln mk cs up fo tn w t lo hi me (nI n) qu gu ri re P F z o0 o1))) (hS : va_S Ar s.heap H locs) {ls : Array Slot} (hl : lv_has ls 9 [(0, .ref b9), (1, .ref xa), (2, .ref (A 0)), (3, .ref oa), (4, .int (nI (4 * j)))]) : W p l e room_1 s m args below meth cd H locs (100 + 7 * j) (2000 + 64 * j) Q (F0 m 1242 ls []) := by
  obtain ⟨hx, hb, hml, hown, hts, hfl, ⟨hK, hN, hX, hZ0⟩, hA, hXs, hbl, hbA⟩ := id hE
  have hn : n ≤ 12 := hRS.1.1
  have hn17 : f 17 = nI n := hRS.2.1.2.2.1
  have hT : okP t := hRS.2.2.1.2.1
  have hvL : okL lo hi := hRS.2.2.1.2.2.1
  have hvA : okA f := hRS.2.2.1.2.2.2
  have htF : okT f := fun i hi => by rw [hRS.2.1.2.2.2.2 i hi]; exact hT i hi
  refine lv_aload_n hx hb dL_law_1242 rfl (lv_at hl 1 rfl) ?_
  refine wr_g1d (pre := mW G A th (nI z) (nI ln) dg f sl ik sv sg pl ++ oW G oa og) (mid := cW G xa so b ce a hh sg ln mk cs up fo tn w t lo hi me (nI n) qu gu ri re P F z o0 o1) (va_runV (As := []) (rest := []) ⟨hx, hb, hml, hown, hts⟩ (c_X6_sureShare l G _ xa so b ce a hh sg ln hln mk cs up fo tn w t lo hi me n hn qu gu ri re P F z hz o0 o1 hvL hcv) (cwV 0 hts gL_law_X6_sureShare rfl rfl rfl (by decide +kernel) ⟨Nat.le_of_ble_eq_true rfl, Nat.le_of_ble_eq_true rfl⟩) (wV1 (pre := mW G A th (nI z) (nI ln) dg f sl ik sv sg pl ++ oW G oa og) (mid := cW G xa so b ce a hh sg ln mk cs up fo tn w t lo hi me (nI n) qu gu ri re P F z o0 o1) (va_recv (ws := mW G A th (nI z) (nI ln) dg f sl ik sv sg pl ++ (oW G oa og ++ cW G xa so b ce a hh sg ln mk cs up fo tn w t lo hi me (nI n) qu gu ri re P F z o0 o1)) hK hP (ci := 5) (q0 := 8) rfl rfl) hK hN hP hD) rfl rfl hl.1 rfl (lv_room (Nat.le_of_ble_eq_true rfl)) dL_law_1243 ⟨by show 100 + 7 * j + 0 ≤ 601024; omega, by show 2000 + 64 * j + 0 ≤ 7293034; omega⟩) hP hD hS hA (fun r6 u6 H locs hw6 hP9 hD9 hS => ?_)
  have hw6 : r6 = shV (cN (qS tn lo hi me n) 512) ∧ cenV (qS tn lo hi me n) u6.1 u6.2.1 u6.2.2 := hw6
  obtain ⟨rfl, hcv6⟩ := hw6
  have hP : PP G (mW G A th (nI z) (nI ln) dg f sl ik sv sg pl ++ (oW G oa og ++ cW G xa so b ce a hh sg ln u6.1 u6.2.1 u6.2.2 fo tn w t lo hi me (nI n) qu gu ri re P F z o0 o1)) _ := hP9
  have hD : va_D Ar (mW G A th (nI z) (nI ln) dg f sl ik sv sg pl ++ (oW G oa og ++ cW G xa so b ce a hh sg ln u6.1 u6.2.1 u6.2.2 fo tn w t lo hi me (nI n) qu gu ri re P F z o0 o1)) := hD9
  refine lv_dstore (lv' := [(5, .double (shV (cN (qS tn lo hi me n) 512))), (0, .ref b9), (1, .ref xa), (2, .ref (A 0)), (3, .ref oa), (4, .int (nI (4 * j)))]) hx hb dL_law_1246 hl (by decide) rfl (fun ls hl => ?_)
  refine lv_aload_n hx hb dL_law_1248 rfl (lv_at hl 3 rfl) ?_
  refine wr_god (pre := []) (mid := mW G A th (nI z) (nI ln) dg f sl ik sv sg pl) (suf := oW G oa og ++ cW G xa so b ce a hh sg ln u6.1 u6.2.1 u6.2.2 fo tn w t lo hi me (nI n) qu gu ri re P F z o0 o1) (va_runV (As := []) (rest := []) ⟨hx, hb, hml, hown, hts⟩ (c_X7_sureShare l G _ A th (nI z) (nI ln) dg f sl ik sv sg pl n hn17 hn hvA) (cwV 0 hts gL_law_X7_sureShare rfl rfl rfl (by decide +kernel) ⟨Nat.le_of_ble_eq_true rfl, Nat.le_of_ble_eq_true rfl⟩) (wV (pre := []) (mid := mW G A th (nI z) (nI ln) dg f sl ik sv sg pl) (suf := oW G oa og ++ cW G xa so b ce a hh sg ln u6.1 u6.2.1 u6.2.2 fo tn w t lo hi me (nI n) qu gu ri re P F z o0 o1) (va_recv (ws := mW G A th (nI z) (nI ln) dg f sl ik sv sg pl ++ (oW G oa og ++ cW G xa so b ce a hh sg ln u6.1 u6.2.1 u6.2.2 fo tn w t lo hi me (nI n) qu gu ri re P F z o0 o1)) hK hP (ci := 6) (q0 := 0) rfl rfl) hK hN hP hD) rfl rfl hl.1 rfl (lv_room (Nat.le_of_ble_eq_true rfl)) dL_law_1249 ⟨by show 100 + 7 * j + 0 + 0 ≤ 601024; omega, by show 2000 + 64 * j + 0 + 0 ≤ 7293034; omega⟩) hP hD hS hA (fun r7 u7 H locs hw7 hP9 hD9 hS => ?_)
  have hw7 : r7 = shV (cN (qM f n) 512) := hw7
  subst hw7
  have hP : PP G (mW G A (nI 0) (nI z) (nI ln) dg f sl ik sv sg u7 ++ (oW G oa og ++ cW G xa so b ce a hh sg ln u6.1 u6.2.1 u6.2.2 fo tn w t lo hi me (nI n) qu gu ri re P F z o0 o1)) _ := hP9
  have hD : va_D Ar (mW G A (nI 0) (nI z) (nI ln) dg f sl ik sv sg u7 ++ (oW G oa og ++ cW G xa so b ce a hh sg ln u6.1 u6.2.1 u6.2.2 fo tn w t lo hi me (nI n) qu gu ri re P F z o0 o1)) := hD9
  refine lv_cgv (y := .double (shV (cN (qS tn lo hi me n) 512))) (by rw [lk_cN hRS]) ?_
  refine lv_dstore (lv' := [(7, .double (shV (cN (qS tn lo hi me n) 512))), (5, .double (shV (cN (qS tn lo hi me n) 512))), (0, .ref b9), (1, .ref xa), (2, .ref (A 0)), (3, .ref oa), (4, .int (nI (4 * j)))]) hx hb dL_law_1252 hl (by decide) rfl (fun ls hl => ?_)
  refine lv_dload hx hb dL_law_1254 (lv_at hl 1 rfl) ?_
  refine lv_dload hx hb dL_law_1256 (lv_at hl 0 rfl) ?_
  refine lv_dcmp hx hb dL_law_1258 ?_
  refine lv_cgi (y := nI 0) (self_V (cN_le _ 512)) ?_
  refine lv_if_eq (tgt := 1280) hx hb dL_law_1259 (by decide) (fun c_1259 => ?_) (fun c_1259 => by exact absurd c_1259 (by decide))
  refine lv_goto (tgt := 1297) hx hb dL_law_1280 (by decide) ?_
  refine lv_iinc (v := nI (4 * (j + 1))) (lv' := [(4, .int (nI (4 * (j + 1)))), (7, .double (shV (cN (qS tn lo hi me n) 512))), (5, .double (shV (cN (qS tn lo hi me n) 512))), (0, .ref b9), (1, .ref xa), (2, .ref (A 0)), (3, .ref oa)]) hx hb dL_law_1297 hl (k := 6) rfl (iinc4 (4 * j)) (by decide) rfl (fun ls hl => ?_)
  refine lv_goto (tgt := 23) hx hb dL_law_1300 (by decide) ?_
  refine W.widen (k := 100 + 7 * (j + 1)) (n := 2000 + 64 * (j + 1)) (by omega) (by omega) ?_
  exact hHd _ _ _ ⟨og, sg, ln, u6.1, u6.2.1, u6.2.2, fo, tn, w, t, lo, hi, me, nI n, qu, gu, ri, re, P, F, z, o0, o1, nI 0, dg, f, sl, ik, sv, u7, rfl, hln, hz, (RG_mono (Nat.le_succ _) (RG_of hRS)), (cen_of hn hcv6), (HI_mono (Nat.le_succ _) hHI), (SLr_mono (Nat.le_succ _) hs0), (SLr_mono (Nat.le_succ _) hs1)⟩ hP hD hS ls (lv_sub hl [3, 4, 5, 6, 0] rfl)

set_option maxHeartbeats 8000000 in
set_option maxRecDepth 100000 in
theorem L_digest {p : Program} {l : Launch} {e : Env} {s : State} {m : MethodId} {args : Array Value} {below : List Frame} {meth : Method} {cd : Code} {Q : State → Prop} {G : GG} {Ar : Nat → Prop} {b9 L : Nat} {xs : Nat → Int32} {xa so oa : Nat} {b ce a hh A : Nat → Nat} (hE : LE9 p l s m args cd G Ar b9 L xs) {j : Nat} (hj : 4 * j + 4 ≤ L) (hL : L ≤ 2048) (hHd : LH p l e s m args below meth cd Q G Ar b9 xa so oa b ce a hh A (j + 1))
    (og : Nat → Int64) (sg : Nat → Int32) (ln : Nat) (hln : ln ≤ 60) (mk : Nat → Int32) (cs up fo tn : Int32) (w t lo hi me : Nat → Int32) (n : Nat) (qu gu ri re : Int32) (P : Nat → Nat → Nat) (F : Nat → Nat → Nat → Int32) (z : Nat) (hz : z ≤ 6) (o0 : SLO) (o1 : SLO) (th : Int32) (dg : Int64) (f sl ik sv pl : Nat → Int32) 
    (hRS : RS j fo tn w t lo hi me n qu gu ri re f) (hcv : cenV (qS tn lo hi me n) mk cs up) (hHI : HI j z F sv) (hs0 : SLr j o0 (ik 0) sl) (hs1 : SLr j o1 (ik 1) (fun j => sl (58 + j))) 
    {H : Heap} {locs : List Loc} (hP : PP G (mW G A th (nI z) (nI ln) dg f sl ik sv sg pl ++ (oW G oa og ++ cW G xa so b ce a hh sg ln mk cs up fo tn w t lo hi me (nI n) qu gu ri re P F z o0 o1)) H) (hD : va_D Ar (mW G A th (nI z) (nI ln) dg f sl ik sv sg pl ++ (oW G oa og ++ cW G xa so b ce a hh sg ln mk cs up fo tn w t lo hi me (nI n) qu gu ri re P F z o0 o1))) (hS : va_S Ar s.heap H locs) {ls : Array Slot} (hl : lv_has ls 9 [(0, .ref b9), (1, .ref xa), (2, .ref (A 0)), (3, .ref oa), (4, .int (nI (4 * j)))]) : W p l e room_1 s m args below meth cd H locs (100 + 7 * j) (2000 + 64 * j) Q (F0 m 1283 ls []) := by
  obtain ⟨hx, hb, hml, hown, hts, hfl, ⟨hK, hN, hX, hZ0⟩, hA, hXs, hbl, hbA⟩ := id hE
  have hn : n ≤ 12 := hRS.1.1
  have hn17 : f 17 = nI n := hRS.2.1.2.2.1
  have hT : okP t := hRS.2.2.1.2.1
  have hvL : okL lo hi := hRS.2.2.1.2.2.1
  have hvA : okA f := hRS.2.2.1.2.2.2
  have htF : okT f := fun i hi => by rw [hRS.2.1.2.2.2.2 i hi]; exact hT i hi
  refine lv_aload_n hx hb dL_law_1283 rfl (lv_at hl 1 rfl) ?_
  refine wr_g1l (pre := mW G A th (nI z) (nI ln) dg f sl ik sv sg pl ++ oW G oa og) (mid := cW G xa so b ce a hh sg ln mk cs up fo tn w t lo hi me (nI n) qu gu ri re P F z o0 o1) (va_runV (As := []) (rest := []) ⟨hx, hb, hml, hown, hts⟩ (c_X6_digest l G _ xa so b ce a hh sg ln hln mk cs up fo tn w t lo hi me n hn qu gu ri re P F z hz o0 o1 hvL hcv hT) (cwV 0 hts gL_law_X6_digest rfl rfl rfl (by decide +kernel) ⟨Nat.le_of_ble_eq_true rfl, Nat.le_of_ble_eq_true rfl⟩) (wV1 (pre := mW G A th (nI z) (nI ln) dg f sl ik sv sg pl ++ oW G oa og) (mid := cW G xa so b ce a hh sg ln mk cs up fo tn w t lo hi me (nI n) qu gu ri re P F z o0 o1) (va_recv (ws := mW G A th (nI z) (nI ln) dg f sl ik sv sg pl ++ (oW G oa og ++ cW G xa so b ce a hh sg ln mk cs up fo tn w t lo hi me (nI n) qu gu ri re P F z o0 o1)) hK hP (ci := 5) (q0 := 8) rfl rfl) hK hN hP hD) rfl rfl hl.1 rfl (lv_room (Nat.le_of_ble_eq_true rfl)) dL_law_1284 ⟨by show 100 + 7 * j + 0 ≤ 601024; omega, by show 2000 + 64 * j + 0 ≤ 7293034; omega⟩) hP hD hS hA (fun r6 u6 H locs hw6 hP9 hD9 hS => ?_)
  have hw6 : r6 = digC fo tn w t lo hi me n qu gu ri re z o0 o1 sg ln ∧ cenV (qS tn lo hi me n) u6.1 u6.2.1 u6.2.2 := hw6
  obtain ⟨rfl, hcv6⟩ := hw6
  have hP : PP G (mW G A th (nI z) (nI ln) dg f sl ik sv sg pl ++ (oW G oa og ++ cW G xa so b ce a hh sg ln u6.1 u6.2.1 u6.2.2 fo tn w t lo hi me (nI n) qu gu ri re P F z o0 o1)) _ := hP9
  have hD : va_D Ar (mW G A th (nI z) (nI ln) dg f sl ik sv sg pl ++ (oW G oa og ++ cW G xa so b ce a hh sg ln u6.1 u6.2.1 u6.2.2 fo tn w t lo hi me (nI n) qu gu ri re P F z o0 o1)) := hD9
  refine lv_aload_n hx hb dL_law_1287 rfl (lv_at hl 2 rfl) ?_
  refine wr_gol (pre := []) (mid := mW G A th (nI z) (nI ln) dg f sl ik sv sg pl) (suf := oW G oa og ++ cW G xa so b ce a hh sg ln u6.1 u6.2.1 u6.2.2 fo tn w t lo hi me (nI n) qu gu ri re P F z o0 o1) (va_runV (As := []) (rest := [.long (digC fo tn w t lo hi me n qu gu ri re z o0 o1 sg ln)]) ⟨hx, hb, hml, hown, hts⟩ (c_X7_digest l G _ A th dg f sl ik sv sg pl z hz ln hln n hn17 hn hvA htF) (cwV 0 hts gL_law_X7_digest rfl rfl rfl (by decide +kernel) ⟨Nat.le_of_ble_eq_true rfl, Nat.le_of_ble_eq_true rfl⟩) (wV (pre := []) (mid := mW G A th (nI z) (nI ln) dg f sl ik sv sg pl) (suf := oW G oa og ++ cW G xa so b ce a hh sg ln u6.1 u6.2.1 u6.2.2 fo tn w t lo hi me (nI n) qu gu ri re P F z o0 o1) (va_recv (ws := mW G A th (nI z) (nI ln) dg f sl ik sv sg pl ++ (oW G oa og ++ cW G xa so b ce a hh sg ln u6.1 u6.2.1 u6.2.2 fo tn w t lo hi me (nI n) qu gu ri re P F z o0 o1)) hK hP (ci := 6) (q0 := 0) rfl rfl) hK hN hP hD) rfl rfl hl.1 rfl (lv_room (Nat.le_of_ble_eq_true rfl)) dL_law_1288 ⟨by show 100 + 7 * j + 0 + 0 ≤ 601024; omega, by show 2000 + 64 * j + 0 + 0 ≤ 7293034; omega⟩) hP hD hS hA (fun r7 u7 H locs hw7 hP9 hD9 hS => ?_)
  have hw7 : r7 = digM f n z ik sg ln := hw7
  subst hw7
  have hP : PP G (mW G A (nI 0) (nI z) (nI ln) (digM f n z ik sg ln) f sl ik sv sg u7 ++ (oW G oa og ++ cW G xa so b ce a hh sg ln u6.1 u6.2.1 u6.2.2 fo tn w t lo hi me (nI n) qu gu ri re P F z o0 o1)) _ := hP9
  have hD : va_D Ar (mW G A (nI 0) (nI z) (nI ln) (digM f n z ik sg ln) f sl ik sv sg u7 ++ (oW G oa og ++ cW G xa so b ce a hh sg ln u6.1 u6.2.1 u6.2.2 fo tn w t lo hi me (nI n) qu gu ri re P F z o0 o1)) := hD9
  refine lv_cgl (y := (digC fo tn w t lo hi me n qu gu ri re z o0 o1 sg ln)) (by rw [lk_dig hRS (by omega) hs0 hs1]) ?_
  refine W.lcmp hx hb dL_law_1291 ?_
  refine lv_cgi (y := nI 0) (lg_self _) ?_
  refine lv_if_eq (tgt := 1297) hx hb dL_law_1292 (by decide) (fun c_1292 => ?_) (fun c_1292 => by exact absurd c_1292 (by decide))
  refine lv_iinc (v := nI (4 * (j + 1))) (lv' := [(4, .int (nI (4 * (j + 1)))), (0, .ref b9), (1, .ref xa), (2, .ref (A 0)), (3, .ref oa)]) hx hb dL_law_1297 hl (k := 4) rfl (iinc4 (4 * j)) (by decide) rfl (fun ls hl => ?_)
  refine lv_goto (tgt := 23) hx hb dL_law_1300 (by decide) ?_
  refine W.widen (k := 100 + 7 * (j + 1)) (n := 2000 + 64 * (j + 1)) (by omega) (by omega) ?_
  exact hHd _ _ _ ⟨og, sg, ln, u6.1, u6.2.1, u6.2.2, fo, tn, w, t, lo, hi, me, nI n, qu, gu, ri, re, P, F, z, o0, o1, nI 0, digM f n z ik sg ln, f, sl, ik, sv, u7, rfl, hln, hz, (RG_mono (Nat.le_succ _) (RG_of hRS)), (cen_of hn hcv6), (HI_mono (Nat.le_succ _) hHI), (SLr_mono (Nat.le_succ _) hs0), (SLr_mono (Nat.le_succ _) hs1)⟩ hP hD hS ls (lv_sub hl [1, 2, 3, 4, 0] rfl)

set_option maxHeartbeats 8000000 in
set_option maxRecDepth 100000 in
theorem L_fold_no {p : Program} {l : Launch} {e : Env} {s : State} {m : MethodId} {args : Array Value} {below : List Frame} {meth : Method} {cd : Code} {Q : State → Prop} {G : GG} {Ar : Nat → Prop} {b9 L : Nat} {xs : Nat → Int32} {xa so oa : Nat} {b ce a hh A : Nat → Nat} (hE : LE9 p l s m args cd G Ar b9 L xs) {j : Nat} (hj : 4 * j + 4 ≤ L) (hL : L ≤ 2048) (hHd : LH p l e s m args below meth cd Q G Ar b9 xa so oa b ce a hh A (j + 1))
    (og : Nat → Int64) (sg : Nat → Int32) (ln : Nat) (hln : ln ≤ 60) (mk : Nat → Int32) (cs up fo tn : Int32) (w t lo hi me : Nat → Int32) (n : Nat) (qu gu ri re : Int32) (P : Nat → Nat → Nat) (F : Nat → Nat → Nat → Int32) (z : Nat) (hz : z ≤ 6) (o0 : SLO) (o1 : SLO) (th : Int32) (dg : Int64) (f sl ik sv pl : Nat → Int32) (x : Int32) (hx0 : ¬ inB x (nI 0) (nI 8))
    (hRS : RS j fo tn w t lo hi me n qu gu ri re f) (hcv : cenV (qS tn lo hi me n) mk cs up) (hHI : HI j z F sv) (hs0 : SLr j o0 (ik 0) sl) (hs1 : SLr j o1 (ik 1) (fun j => sl (58 + j))) (hp0 : xs (4 * j + 1) = x)
    {H : Heap} {locs : List Loc} (hP : PP G (mW G A th (nI z) (nI ln) dg f sl ik sv sg pl ++ (oW G oa og ++ cW G xa so b ce a hh sg ln mk cs up fo tn w t lo hi me (nI n) qu gu ri re P F z o0 o1)) H) (hD : va_D Ar (mW G A th (nI z) (nI ln) dg f sl ik sv sg pl ++ (oW G oa og ++ cW G xa so b ce a hh sg ln mk cs up fo tn w t lo hi me (nI n) qu gu ri re P F z o0 o1))) (hS : va_S Ar s.heap H locs) {ls : Array Slot} (hl : lv_has ls 9 [(0, .ref b9), (1, .ref xa), (2, .ref (A 0)), (3, .ref oa), (4, .int (nI (4 * j)))]) : W p l e room_1 s m args below meth cd H locs (100 + 7 * j) (2000 + 64 * j) Q (F0 m 152 ls []) := by
  obtain ⟨hx, hb, hml, hown, hts, hfl, ⟨hK, hN, hX, hZ0⟩, hA, hXs, hbl, hbA⟩ := id hE
  have hn : n ≤ 12 := hRS.1.1
  have hn17 : f 17 = nI n := hRS.2.1.2.2.1
  have hT : okP t := hRS.2.2.1.2.1
  have hvL : okL lo hi := hRS.2.2.1.2.2.1
  have hvA : okA f := hRS.2.2.1.2.2.2
  have htF : okT f := fun i hi => by rw [hRS.2.1.2.2.2.2 i hi]; exact hT i hi
  refine lv_aload_n hx hb dL_law_152 rfl (lv_at hl 1 rfl) ?_
  refine lv_aload_n hx hb dL_law_153 rfl (lv_at hl 0 rfl) ?_
  refine lv_iload hx hb dL_law_154 (lv_at hl 4 rfl) ?_
  refine lv_iconst (v := nI 1) hx hb dL_law_156 (by decide) ?_
  refine lv_iadd hx hb dL_law_157 ?_
  refine lv_cgi (y := nI ((4 * j) + 1)) (nI_add _ _) ?_
  refine va_sld hx hb hXs hbl hbA hS (vp_in_nI (by omega) (by omega)) dL_law_158 ?_
  refine lv_cgi (y := x) (by rw [nI_clamp (by omega)]; exact hp0) ?_
  refine lv_aload_n hx hb dL_law_159 rfl (lv_at hl 3 rfl) ?_
  refine wr_g1i (pre := mW G A th (nI z) (nI ln) dg f sl ik sv sg pl) (mid := oW G oa og ++ cW G xa so b ce a hh sg ln mk cs up fo tn w t lo hi me (nI n) qu gu ri re P F z o0 o1) (vx_runSW (As := [.ref xa, .int x, .ref oa]) (rest := []) ⟨hx, hb, hml, hown, hts⟩ (w_fold_t1 l G _ xa oa _ _ og x (t_X6_fold_no l hfl G xa _ _ x hx0)) (vx_cwSW 3 hts gL_law_L_fold rfl rfl rfl (by decide +kernel) ⟨Nat.le_of_ble_eq_true rfl, Nat.le_of_ble_eq_true rfl⟩) (lxS1 (pre := mW G A th (nI z) (nI ln) dg f sl ik sv sg pl) (mid := oW G oa og ++ cW G xa so b ce a hh sg ln mk cs up fo tn w t lo hi me (nI n) qu gu ri re P F z o0 o1) hK hN hX (XZ_at hZ0 hS hA) hP hD) rfl rfl hl.1 rfl (lv_room (Nat.le_of_ble_eq_true rfl)) dL_law_160 ⟨by show 100 + 7 * j + 1 ≤ 601024; omega, by show 2000 + 64 * j + 6 ≤ 7293034; omega⟩) hP hD hS hA (fun r6 u6 H locs hw6 hP9 hD9 hS => ?_)
  have hw6 : r6 = nI 1 := hw6
  subst hw6
  have hP : PP G (mW G A th (nI z) (nI ln) dg f sl ik sv sg pl ++ (oW G oa og ++ cW G xa so b ce a hh sg ln mk cs up fo tn w t lo hi me (nI n) qu gu ri re P F z o0 o1)) _ := hP9
  have hD : va_D Ar (mW G A th (nI z) (nI ln) dg f sl ik sv sg pl ++ (oW G oa og ++ cW G xa so b ce a hh sg ln mk cs up fo tn w t lo hi me (nI n) qu gu ri re P F z o0 o1)) := hD9
  refine lv_istore (lv' := [(5, .int (nI 1)), (0, .ref b9), (1, .ref xa), (2, .ref (A 0)), (3, .ref oa), (4, .int (nI (4 * j)))]) hx hb dL_law_163 hl (by decide) rfl (fun ls hl => ?_)
  refine lv_aload_n hx hb dL_law_165 rfl (lv_at hl 3 rfl) ?_
  refine lv_aload_n hx hb dL_law_166 rfl (lv_at hl 1 rfl) ?_
  refine lv_iload hx hb dL_law_167 (lv_at hl 5 rfl) ?_
  refine lv_iconst (v := nI 1) hx hb dL_law_169 (by decide) ?_
  refine lv_iadd hx hb dL_law_170 ?_
  refine lv_cgi (y := nI ((4 * j) + 1)) (nI_add _ _) ?_
  refine va_sld hx hb hXs hbl hbA hS (vp_in_nI (by omega) (by omega)) dL_law_171 ?_
  refine lv_cgi (y := x) (by rw [nI_clamp (by omega)]; exact hp0) ?_
  refine wr_goi (pre := []) (mid := mW G A th (nI z) (nI ln) dg f sl ik sv sg pl) (suf := oW G oa og ++ cW G xa so b ce a hh sg ln mk cs up fo tn w t lo hi me (nI n) qu gu ri re P F z o0 o1) (va_runV (As := [.int x]) (rest := []) ⟨hx, hb, hml, hown, hts⟩ (c_X7_fold_no l G _ A th (nI ln) dg f sl ik sv sg pl z hz x hx0) (cwV 1 hts gL_law_X7_fold rfl rfl rfl (by decide +kernel) ⟨Nat.le_of_ble_eq_true rfl, Nat.le_of_ble_eq_true rfl⟩) (wV (pre := []) (mid := mW G A th (nI z) (nI ln) dg f sl ik sv sg pl) (suf := oW G oa og ++ cW G xa so b ce a hh sg ln mk cs up fo tn w t lo hi me (nI n) qu gu ri re P F z o0 o1) (va_recv (ws := mW G A th (nI z) (nI ln) dg f sl ik sv sg pl ++ (oW G oa og ++ cW G xa so b ce a hh sg ln mk cs up fo tn w t lo hi me (nI n) qu gu ri re P F z o0 o1)) hK hP (ci := 6) (q0 := 0) rfl rfl) hK hN hP hD) rfl rfl hl.1 rfl (lv_room (Nat.le_of_ble_eq_true rfl)) dL_law_172 ⟨by show 100 + 7 * j + 1 + 0 ≤ 601024; omega, by show 2000 + 64 * j + 6 + 0 ≤ 7293034; omega⟩) hP hD hS hA (fun r7 u7 H locs hw7 hP9 hD9 hS => ?_)
  have hw7 : r7 = nI 0 := hw7
  subst hw7
  have hP : PP G (mW G A (nI 1) (nI z) (nI ln) dg f sl ik sv sg pl ++ (oW G oa og ++ cW G xa so b ce a hh sg ln mk cs up fo tn w t lo hi me (nI n) qu gu ri re P F z o0 o1)) _ := hP9
  have hD : va_D Ar (mW G A (nI 1) (nI z) (nI ln) dg f sl ik sv sg pl ++ (oW G oa og ++ cW G xa so b ce a hh sg ln mk cs up fo tn w t lo hi me (nI n) qu gu ri re P F z o0 o1)) := hD9
  refine lv_istore (lv' := [(6, .int (nI 0)), (5, .int (nI 1)), (0, .ref b9), (1, .ref xa), (2, .ref (A 0)), (3, .ref oa), (4, .int (nI (4 * j)))]) hx hb dL_law_175 hl (by decide) rfl (fun ls hl => ?_)
  refine lv_aload_n hx hb dL_law_177 rfl (lv_at hl 4 rfl) ?_
  refine rd_go (va_runV (As := []) (rest := []) ⟨hx, hb, hml, hown, hts⟩ (c_X7_thrown l G A (nI 1) (nI z) (nI ln) dg f sl ik sv sg pl) (cwV 0 hts gL_law_X7_thrown rfl rfl rfl (by decide +kernel) ⟨Nat.le_of_ble_eq_true rfl, Nat.le_of_ble_eq_true rfl⟩) (rV (ws := mW G A (nI 1) (nI z) (nI ln) dg f sl ik sv sg pl) (va_recv (ws := mW G A (nI 1) (nI z) (nI ln) dg f sl ik sv sg pl ++ (oW G oa og ++ cW G xa so b ce a hh sg ln mk cs up fo tn w t lo hi me (nI n) qu gu ri re P F z o0 o1)) hK hP (ci := 6) (q0 := 0) rfl rfl) hK hN (P_mid (pre := []) (mid := mW G A (nI 1) (nI z) (nI ln) dg f sl ik sv sg pl) (suf := oW G oa og ++ cW G xa so b ce a hh sg ln mk cs up fo tn w t lo hi me (nI n) qu gu ri re P F z o0 o1) hP)) rfl rfl hl.1 rfl (lv_room (Nat.le_of_ble_eq_true rfl)) dL_law_178 ⟨by show 100 + 7 * j + 1 + 0 + 0 ≤ 601024; omega, by show 2000 + 64 * j + 6 + 0 + 0 ≤ 7293034; omega⟩) ?_
  refine lv_iload hx hb dL_law_181 (lv_at hl 1 rfl) ?_
  refine lv_icmp_eq (tgt := 188) hx hb dL_law_183 (by decide) (fun c_183 => ?_) (fun c_183 => by exact absurd c_183 (by decide))
  refine lv_iload hx hb dL_law_188 (lv_at hl 1 rfl) ?_
  refine lv_if_ne (tgt := 205) hx hb dL_law_190 (by decide) (fun c_190 => ?_) (fun c_190 => by exact absurd c_190 (by decide))
  refine lv_goto (tgt := 1297) hx hb dL_law_205 (by decide) ?_
  refine lv_iinc (v := nI (4 * (j + 1))) (lv' := [(4, .int (nI (4 * (j + 1)))), (6, .int (nI 0)), (5, .int (nI 1)), (0, .ref b9), (1, .ref xa), (2, .ref (A 0)), (3, .ref oa)]) hx hb dL_law_1297 hl (k := 6) rfl (iinc4 (4 * j)) (by decide) rfl (fun ls hl => ?_)
  refine lv_goto (tgt := 23) hx hb dL_law_1300 (by decide) ?_
  refine W.widen (k := 100 + 7 * (j + 1)) (n := 2000 + 64 * (j + 1)) (by omega) (by omega) ?_
  exact hHd _ _ _ ⟨og, sg, ln, mk, cs, up, fo, tn, w, t, lo, hi, me, nI n, qu, gu, ri, re, P, F, z, o0, o1, nI 1, dg, f, sl, ik, sv, pl, rfl, hln, hz, (RG_mono (Nat.le_succ _) (RG_of hRS)), (cen_of hn hcv), (HI_mono (Nat.le_succ _) hHI), (SLr_mono (Nat.le_succ _) hs0), (SLr_mono (Nat.le_succ _) hs1)⟩ hP hD hS ls (lv_sub hl [3, 4, 5, 6, 0] rfl)

set_option maxHeartbeats 8000000 in
set_option maxRecDepth 100000 in
theorem L_move_no1 {p : Program} {l : Launch} {e : Env} {s : State} {m : MethodId} {args : Array Value} {below : List Frame} {meth : Method} {cd : Code} {Q : State → Prop} {G : GG} {Ar : Nat → Prop} {b9 L : Nat} {xs : Nat → Int32} {xa so oa : Nat} {b ce a hh A : Nat → Nat} (hE : LE9 p l s m args cd G Ar b9 L xs) {j : Nat} (hj : 4 * j + 4 ≤ L) (hL : L ≤ 2048) (hHd : LH p l e s m args below meth cd Q G Ar b9 xa so oa b ce a hh A (j + 1))
    (og : Nat → Int64) (sg : Nat → Int32) (ln : Nat) (hln : ln ≤ 60) (mk : Nat → Int32) (cs up fo tn : Int32) (w t lo hi me : Nat → Int32) (n : Nat) (qu gu ri re : Int32) (P : Nat → Nat → Nat) (F : Nat → Nat → Nat → Int32) (z : Nat) (hz : z ≤ 6) (o0 : SLO) (o1 : SLO) (th : Int32) (dg : Int64) (f sl ik sv pl : Nat → Int32) (x y : Int32) (hx0 : ¬ inB x (nI 0) (nI 5))
    (hRS : RS j fo tn w t lo hi me n qu gu ri re f) (hcv : cenV (qS tn lo hi me n) mk cs up) (hHI : HI j z F sv) (hs0 : SLr j o0 (ik 0) sl) (hs1 : SLr j o1 (ik 1) (fun j => sl (58 + j))) (hp0 : xs (4 * j + 1) = x) (hp1 : xs (4 * j + 2) = y)
    {H : Heap} {locs : List Loc} (hP : PP G (mW G A th (nI z) (nI ln) dg f sl ik sv sg pl ++ (oW G oa og ++ cW G xa so b ce a hh sg ln mk cs up fo tn w t lo hi me (nI n) qu gu ri re P F z o0 o1)) H) (hD : va_D Ar (mW G A th (nI z) (nI ln) dg f sl ik sv sg pl ++ (oW G oa og ++ cW G xa so b ce a hh sg ln mk cs up fo tn w t lo hi me (nI n) qu gu ri re P F z o0 o1))) (hS : va_S Ar s.heap H locs) {ls : Array Slot} (hl : lv_has ls 9 [(0, .ref b9), (1, .ref xa), (2, .ref (A 0)), (3, .ref oa), (4, .int (nI (4 * j)))]) : W p l e room_1 s m args below meth cd H locs (100 + 7 * j) (2000 + 64 * j) Q (F0 m 208 ls []) := by
  obtain ⟨hx, hb, hml, hown, hts, hfl, ⟨hK, hN, hX, hZ0⟩, hA, hXs, hbl, hbA⟩ := id hE
  have hn : n ≤ 12 := hRS.1.1
  have hn17 : f 17 = nI n := hRS.2.1.2.2.1
  have hT : okP t := hRS.2.2.1.2.1
  have hvL : okL lo hi := hRS.2.2.1.2.2.1
  have hvA : okA f := hRS.2.2.1.2.2.2
  have htF : okT f := fun i hi => by rw [hRS.2.1.2.2.2.2 i hi]; exact hT i hi
  refine lv_aload_n hx hb dL_law_208 rfl (lv_at hl 1 rfl) ?_
  refine lv_aload_n hx hb dL_law_209 rfl (lv_at hl 0 rfl) ?_
  refine lv_iload hx hb dL_law_210 (lv_at hl 4 rfl) ?_
  refine lv_iconst (v := nI 1) hx hb dL_law_212 (by decide) ?_
  refine lv_iadd hx hb dL_law_213 ?_
  refine lv_cgi (y := nI ((4 * j) + 1)) (nI_add _ _) ?_
  refine va_sld hx hb hXs hbl hbA hS (vp_in_nI (by omega) (by omega)) dL_law_214 ?_
  refine lv_cgi (y := x) (by rw [nI_clamp (by omega)]; exact hp0) ?_
  refine lv_aload_n hx hb dL_law_215 rfl (lv_at hl 0 rfl) ?_
  refine lv_iload hx hb dL_law_216 (lv_at hl 4 rfl) ?_
  refine lv_iconst (v := nI 2) hx hb dL_law_218 (by decide) ?_
  refine lv_iadd hx hb dL_law_219 ?_
  refine lv_cgi (y := nI ((4 * j) + 2)) (nI_add _ _) ?_
  refine va_sld hx hb hXs hbl hbA hS (vp_in_nI (by omega) (by omega)) dL_law_220 ?_
  refine lv_cgi (y := y) (by rw [nI_clamp (by omega)]; exact hp1) ?_
  refine lv_aload_n hx hb dL_law_221 rfl (lv_at hl 3 rfl) ?_
  refine wr_g1i (pre := mW G A th (nI z) (nI ln) dg f sl ik sv sg pl) (mid := oW G oa og ++ cW G xa so b ce a hh sg ln mk cs up fo tn w t lo hi me (nI n) qu gu ri re P F z o0 o1) (vx_runSW (As := [.ref xa, .int x, .int y, .ref oa]) (rest := []) ⟨hx, hb, hml, hown, hts⟩ (w_move_t1 l G _ xa oa _ _ og x y (t_X6_move_no1 l hfl G xa _ _ x y hx0)) (vx_cwSW 4 hts gL_law_L_move rfl rfl rfl (by decide +kernel) ⟨Nat.le_of_ble_eq_true rfl, Nat.le_of_ble_eq_true rfl⟩) (lxS1 (pre := mW G A th (nI z) (nI ln) dg f sl ik sv sg pl) (mid := oW G oa og ++ cW G xa so b ce a hh sg ln mk cs up fo tn w t lo hi me (nI n) qu gu ri re P F z o0 o1) hK hN hX (XZ_at hZ0 hS hA) hP hD) rfl rfl hl.1 rfl (lv_room (Nat.le_of_ble_eq_true rfl)) dL_law_222 ⟨by show 100 + 7 * j + 1 ≤ 601024; omega, by show 2000 + 64 * j + 6 ≤ 7293034; omega⟩) hP hD hS hA (fun r6 u6 H locs hw6 hP9 hD9 hS => ?_)
  have hw6 : r6 = nI 1 := hw6
  subst hw6
  have hP : PP G (mW G A th (nI z) (nI ln) dg f sl ik sv sg pl ++ (oW G oa og ++ cW G xa so b ce a hh sg ln mk cs up fo tn w t lo hi me (nI n) qu gu ri re P F z o0 o1)) _ := hP9
  have hD : va_D Ar (mW G A th (nI z) (nI ln) dg f sl ik sv sg pl ++ (oW G oa og ++ cW G xa so b ce a hh sg ln mk cs up fo tn w t lo hi me (nI n) qu gu ri re P F z o0 o1)) := hD9
  refine lv_istore (lv' := [(5, .int (nI 1)), (0, .ref b9), (1, .ref xa), (2, .ref (A 0)), (3, .ref oa), (4, .int (nI (4 * j)))]) hx hb dL_law_225 hl (by decide) rfl (fun ls hl => ?_)
  refine lv_aload_n hx hb dL_law_227 rfl (lv_at hl 3 rfl) ?_
  refine lv_aload_n hx hb dL_law_228 rfl (lv_at hl 1 rfl) ?_
  refine lv_iload hx hb dL_law_229 (lv_at hl 5 rfl) ?_
  refine lv_iconst (v := nI 1) hx hb dL_law_231 (by decide) ?_
  refine lv_iadd hx hb dL_law_232 ?_
  refine lv_cgi (y := nI ((4 * j) + 1)) (nI_add _ _) ?_
  refine va_sld hx hb hXs hbl hbA hS (vp_in_nI (by omega) (by omega)) dL_law_233 ?_
  refine lv_cgi (y := x) (by rw [nI_clamp (by omega)]; exact hp0) ?_
  refine lv_aload_n hx hb dL_law_234 rfl (lv_at hl 1 rfl) ?_
  refine lv_iload hx hb dL_law_235 (lv_at hl 5 rfl) ?_
  refine lv_iconst (v := nI 2) hx hb dL_law_237 (by decide) ?_
  refine lv_iadd hx hb dL_law_238 ?_
  refine lv_cgi (y := nI ((4 * j) + 2)) (nI_add _ _) ?_
  refine va_sld hx hb hXs hbl hbA hS (vp_in_nI (by omega) (by omega)) dL_law_239 ?_
  refine lv_cgi (y := y) (by rw [nI_clamp (by omega)]; exact hp1) ?_
  refine wr_goi (pre := []) (mid := mW G A th (nI z) (nI ln) dg f sl ik sv sg pl) (suf := oW G oa og ++ cW G xa so b ce a hh sg ln mk cs up fo tn w t lo hi me (nI n) qu gu ri re P F z o0 o1) (va_runV (As := [.int x, .int y]) (rest := []) ⟨hx, hb, hml, hown, hts⟩ (c_X7_move_no1 l G _ A th (nI ln) dg f sl ik sv sg pl z hz x y hx0) (cwV 2 hts gL_law_X7_move rfl rfl rfl (by decide +kernel) ⟨Nat.le_of_ble_eq_true rfl, Nat.le_of_ble_eq_true rfl⟩) (wV (pre := []) (mid := mW G A th (nI z) (nI ln) dg f sl ik sv sg pl) (suf := oW G oa og ++ cW G xa so b ce a hh sg ln mk cs up fo tn w t lo hi me (nI n) qu gu ri re P F z o0 o1) (va_recv (ws := mW G A th (nI z) (nI ln) dg f sl ik sv sg pl ++ (oW G oa og ++ cW G xa so b ce a hh sg ln mk cs up fo tn w t lo hi me (nI n) qu gu ri re P F z o0 o1)) hK hP (ci := 6) (q0 := 0) rfl rfl) hK hN hP hD) rfl rfl hl.1 rfl (lv_room (Nat.le_of_ble_eq_true rfl)) dL_law_240 ⟨by show 100 + 7 * j + 1 + 0 ≤ 601024; omega, by show 2000 + 64 * j + 6 + 0 ≤ 7293034; omega⟩) hP hD hS hA (fun r7 u7 H locs hw7 hP9 hD9 hS => ?_)
  have hw7 : r7 = nI 0 := hw7
  subst hw7
  have hP : PP G (mW G A (nI 1) (nI z) (nI ln) dg f sl ik sv sg pl ++ (oW G oa og ++ cW G xa so b ce a hh sg ln mk cs up fo tn w t lo hi me (nI n) qu gu ri re P F z o0 o1)) _ := hP9
  have hD : va_D Ar (mW G A (nI 1) (nI z) (nI ln) dg f sl ik sv sg pl ++ (oW G oa og ++ cW G xa so b ce a hh sg ln mk cs up fo tn w t lo hi me (nI n) qu gu ri re P F z o0 o1)) := hD9
  refine lv_istore (lv' := [(6, .int (nI 0)), (5, .int (nI 1)), (0, .ref b9), (1, .ref xa), (2, .ref (A 0)), (3, .ref oa), (4, .int (nI (4 * j)))]) hx hb dL_law_243 hl (by decide) rfl (fun ls hl => ?_)
  refine lv_aload_n hx hb dL_law_245 rfl (lv_at hl 4 rfl) ?_
  refine rd_go (va_runV (As := []) (rest := []) ⟨hx, hb, hml, hown, hts⟩ (c_X7_thrown l G A (nI 1) (nI z) (nI ln) dg f sl ik sv sg pl) (cwV 0 hts gL_law_X7_thrown rfl rfl rfl (by decide +kernel) ⟨Nat.le_of_ble_eq_true rfl, Nat.le_of_ble_eq_true rfl⟩) (rV (ws := mW G A (nI 1) (nI z) (nI ln) dg f sl ik sv sg pl) (va_recv (ws := mW G A (nI 1) (nI z) (nI ln) dg f sl ik sv sg pl ++ (oW G oa og ++ cW G xa so b ce a hh sg ln mk cs up fo tn w t lo hi me (nI n) qu gu ri re P F z o0 o1)) hK hP (ci := 6) (q0 := 0) rfl rfl) hK hN (P_mid (pre := []) (mid := mW G A (nI 1) (nI z) (nI ln) dg f sl ik sv sg pl) (suf := oW G oa og ++ cW G xa so b ce a hh sg ln mk cs up fo tn w t lo hi me (nI n) qu gu ri re P F z o0 o1) hP)) rfl rfl hl.1 rfl (lv_room (Nat.le_of_ble_eq_true rfl)) dL_law_246 ⟨by show 100 + 7 * j + 1 + 0 + 0 ≤ 601024; omega, by show 2000 + 64 * j + 6 + 0 + 0 ≤ 7293034; omega⟩) ?_
  refine lv_iload hx hb dL_law_249 (lv_at hl 1 rfl) ?_
  refine lv_icmp_eq (tgt := 256) hx hb dL_law_251 (by decide) (fun c_251 => ?_) (fun c_251 => by exact absurd c_251 (by decide))
  refine lv_iload hx hb dL_law_256 (lv_at hl 1 rfl) ?_
  refine lv_if_ne (tgt := 273) hx hb dL_law_258 (by decide) (fun c_258 => ?_) (fun c_258 => by exact absurd c_258 (by decide))
  refine lv_goto (tgt := 1297) hx hb dL_law_273 (by decide) ?_
  refine lv_iinc (v := nI (4 * (j + 1))) (lv' := [(4, .int (nI (4 * (j + 1)))), (6, .int (nI 0)), (5, .int (nI 1)), (0, .ref b9), (1, .ref xa), (2, .ref (A 0)), (3, .ref oa)]) hx hb dL_law_1297 hl (k := 6) rfl (iinc4 (4 * j)) (by decide) rfl (fun ls hl => ?_)
  refine lv_goto (tgt := 23) hx hb dL_law_1300 (by decide) ?_
  refine W.widen (k := 100 + 7 * (j + 1)) (n := 2000 + 64 * (j + 1)) (by omega) (by omega) ?_
  exact hHd _ _ _ ⟨og, sg, ln, mk, cs, up, fo, tn, w, t, lo, hi, me, nI n, qu, gu, ri, re, P, F, z, o0, o1, nI 1, dg, f, sl, ik, sv, pl, rfl, hln, hz, (RG_mono (Nat.le_succ _) (RG_of hRS)), (cen_of hn hcv), (HI_mono (Nat.le_succ _) hHI), (SLr_mono (Nat.le_succ _) hs0), (SLr_mono (Nat.le_succ _) hs1)⟩ hP hD hS ls (lv_sub hl [3, 4, 5, 6, 0] rfl)

set_option maxHeartbeats 8000000 in
set_option maxRecDepth 100000 in
theorem L_move_no2 {p : Program} {l : Launch} {e : Env} {s : State} {m : MethodId} {args : Array Value} {below : List Frame} {meth : Method} {cd : Code} {Q : State → Prop} {G : GG} {Ar : Nat → Prop} {b9 L : Nat} {xs : Nat → Int32} {xa so oa : Nat} {b ce a hh A : Nat → Nat} (hE : LE9 p l s m args cd G Ar b9 L xs) {j : Nat} (hj : 4 * j + 4 ≤ L) (hL : L ≤ 2048) (hHd : LH p l e s m args below meth cd Q G Ar b9 xa so oa b ce a hh A (j + 1))
    (og : Nat → Int64) (sg : Nat → Int32) (ln : Nat) (hln : ln ≤ 60) (mk : Nat → Int32) (cs up fo tn : Int32) (w t lo hi me : Nat → Int32) (n : Nat) (qu gu ri re : Int32) (P : Nat → Nat → Nat) (F : Nat → Nat → Nat → Int32) (z : Nat) (hz : z ≤ 6) (o0 : SLO) (o1 : SLO) (th : Int32) (dg : Int64) (f sl ik sv pl : Nat → Int32) (t9 : Nat) (ht9 : t9 < 6) (y : Int32) (hx0 : ¬ inB y (nI 0) (nI 9))
    (hRS : RS j fo tn w t lo hi me n qu gu ri re f) (hcv : cenV (qS tn lo hi me n) mk cs up) (hHI : HI j z F sv) (hs0 : SLr j o0 (ik 0) sl) (hs1 : SLr j o1 (ik 1) (fun j => sl (58 + j))) (hp0 : xs (4 * j + 1) = nI t9) (hp1 : xs (4 * j + 2) = y)
    {H : Heap} {locs : List Loc} (hP : PP G (mW G A th (nI z) (nI ln) dg f sl ik sv sg pl ++ (oW G oa og ++ cW G xa so b ce a hh sg ln mk cs up fo tn w t lo hi me (nI n) qu gu ri re P F z o0 o1)) H) (hD : va_D Ar (mW G A th (nI z) (nI ln) dg f sl ik sv sg pl ++ (oW G oa og ++ cW G xa so b ce a hh sg ln mk cs up fo tn w t lo hi me (nI n) qu gu ri re P F z o0 o1))) (hS : va_S Ar s.heap H locs) {ls : Array Slot} (hl : lv_has ls 9 [(0, .ref b9), (1, .ref xa), (2, .ref (A 0)), (3, .ref oa), (4, .int (nI (4 * j)))]) : W p l e room_1 s m args below meth cd H locs (100 + 7 * j) (2000 + 64 * j) Q (F0 m 208 ls []) := by
  obtain ⟨hx, hb, hml, hown, hts, hfl, ⟨hK, hN, hX, hZ0⟩, hA, hXs, hbl, hbA⟩ := id hE
  have hn : n ≤ 12 := hRS.1.1
  have hn17 : f 17 = nI n := hRS.2.1.2.2.1
  have hT : okP t := hRS.2.2.1.2.1
  have hvL : okL lo hi := hRS.2.2.1.2.2.1
  have hvA : okA f := hRS.2.2.1.2.2.2
  have htF : okT f := fun i hi => by rw [hRS.2.1.2.2.2.2 i hi]; exact hT i hi
  refine lv_aload_n hx hb dL_law_208 rfl (lv_at hl 1 rfl) ?_
  refine lv_aload_n hx hb dL_law_209 rfl (lv_at hl 0 rfl) ?_
  refine lv_iload hx hb dL_law_210 (lv_at hl 4 rfl) ?_
  refine lv_iconst (v := nI 1) hx hb dL_law_212 (by decide) ?_
  refine lv_iadd hx hb dL_law_213 ?_
  refine lv_cgi (y := nI ((4 * j) + 1)) (nI_add _ _) ?_
  refine va_sld hx hb hXs hbl hbA hS (vp_in_nI (by omega) (by omega)) dL_law_214 ?_
  refine lv_cgi (y := nI t9) (by rw [nI_clamp (by omega)]; exact hp0) ?_
  refine lv_aload_n hx hb dL_law_215 rfl (lv_at hl 0 rfl) ?_
  refine lv_iload hx hb dL_law_216 (lv_at hl 4 rfl) ?_
  refine lv_iconst (v := nI 2) hx hb dL_law_218 (by decide) ?_
  refine lv_iadd hx hb dL_law_219 ?_
  refine lv_cgi (y := nI ((4 * j) + 2)) (nI_add _ _) ?_
  refine va_sld hx hb hXs hbl hbA hS (vp_in_nI (by omega) (by omega)) dL_law_220 ?_
  refine lv_cgi (y := y) (by rw [nI_clamp (by omega)]; exact hp1) ?_
  refine lv_aload_n hx hb dL_law_221 rfl (lv_at hl 3 rfl) ?_
  refine wr_g1i (pre := mW G A th (nI z) (nI ln) dg f sl ik sv sg pl) (mid := oW G oa og ++ cW G xa so b ce a hh sg ln mk cs up fo tn w t lo hi me (nI n) qu gu ri re P F z o0 o1) (vx_runSW (As := [.ref xa, .int (nI t9), .int y, .ref oa]) (rest := []) ⟨hx, hb, hml, hown, hts⟩ (w_move_t2 l G _ xa oa _ _ og (nI t9) y (t_X6_move_no2 l hfl G xa _ _ t9 ht9 y hx0)) (vx_cwSW 4 hts gL_law_L_move rfl rfl rfl (by decide +kernel) ⟨Nat.le_of_ble_eq_true rfl, Nat.le_of_ble_eq_true rfl⟩) (lxS1 (pre := mW G A th (nI z) (nI ln) dg f sl ik sv sg pl) (mid := oW G oa og ++ cW G xa so b ce a hh sg ln mk cs up fo tn w t lo hi me (nI n) qu gu ri re P F z o0 o1) hK hN hX (XZ_at hZ0 hS hA) hP hD) rfl rfl hl.1 rfl (lv_room (Nat.le_of_ble_eq_true rfl)) dL_law_222 ⟨by show 100 + 7 * j + 1 ≤ 601024; omega, by show 2000 + 64 * j + 6 ≤ 7293034; omega⟩) hP hD hS hA (fun r6 u6 H locs hw6 hP9 hD9 hS => ?_)
  have hw6 : r6 = nI 2 := hw6
  subst hw6
  have hP : PP G (mW G A th (nI z) (nI ln) dg f sl ik sv sg pl ++ (oW G oa og ++ cW G xa so b ce a hh sg ln mk cs up fo tn w t lo hi me (nI n) qu gu ri re P F z o0 o1)) _ := hP9
  have hD : va_D Ar (mW G A th (nI z) (nI ln) dg f sl ik sv sg pl ++ (oW G oa og ++ cW G xa so b ce a hh sg ln mk cs up fo tn w t lo hi me (nI n) qu gu ri re P F z o0 o1)) := hD9
  refine lv_istore (lv' := [(5, .int (nI 2)), (0, .ref b9), (1, .ref xa), (2, .ref (A 0)), (3, .ref oa), (4, .int (nI (4 * j)))]) hx hb dL_law_225 hl (by decide) rfl (fun ls hl => ?_)
  refine lv_aload_n hx hb dL_law_227 rfl (lv_at hl 3 rfl) ?_
  refine lv_aload_n hx hb dL_law_228 rfl (lv_at hl 1 rfl) ?_
  refine lv_iload hx hb dL_law_229 (lv_at hl 5 rfl) ?_
  refine lv_iconst (v := nI 1) hx hb dL_law_231 (by decide) ?_
  refine lv_iadd hx hb dL_law_232 ?_
  refine lv_cgi (y := nI ((4 * j) + 1)) (nI_add _ _) ?_
  refine va_sld hx hb hXs hbl hbA hS (vp_in_nI (by omega) (by omega)) dL_law_233 ?_
  refine lv_cgi (y := nI t9) (by rw [nI_clamp (by omega)]; exact hp0) ?_
  refine lv_aload_n hx hb dL_law_234 rfl (lv_at hl 1 rfl) ?_
  refine lv_iload hx hb dL_law_235 (lv_at hl 5 rfl) ?_
  refine lv_iconst (v := nI 2) hx hb dL_law_237 (by decide) ?_
  refine lv_iadd hx hb dL_law_238 ?_
  refine lv_cgi (y := nI ((4 * j) + 2)) (nI_add _ _) ?_
  refine va_sld hx hb hXs hbl hbA hS (vp_in_nI (by omega) (by omega)) dL_law_239 ?_
  refine lv_cgi (y := y) (by rw [nI_clamp (by omega)]; exact hp1) ?_
  refine wr_goi (pre := []) (mid := mW G A th (nI z) (nI ln) dg f sl ik sv sg pl) (suf := oW G oa og ++ cW G xa so b ce a hh sg ln mk cs up fo tn w t lo hi me (nI n) qu gu ri re P F z o0 o1) (va_runV (As := [.int (nI t9), .int y]) (rest := []) ⟨hx, hb, hml, hown, hts⟩ (c_X7_move_no2 l G _ A th (nI ln) dg f sl ik sv sg pl z hz (nI t9) y (inB_n (Nat.zero_le _) (by omega) (by decide)) hx0) (cwV 2 hts gL_law_X7_move rfl rfl rfl (by decide +kernel) ⟨Nat.le_of_ble_eq_true rfl, Nat.le_of_ble_eq_true rfl⟩) (wV (pre := []) (mid := mW G A th (nI z) (nI ln) dg f sl ik sv sg pl) (suf := oW G oa og ++ cW G xa so b ce a hh sg ln mk cs up fo tn w t lo hi me (nI n) qu gu ri re P F z o0 o1) (va_recv (ws := mW G A th (nI z) (nI ln) dg f sl ik sv sg pl ++ (oW G oa og ++ cW G xa so b ce a hh sg ln mk cs up fo tn w t lo hi me (nI n) qu gu ri re P F z o0 o1)) hK hP (ci := 6) (q0 := 0) rfl rfl) hK hN hP hD) rfl rfl hl.1 rfl (lv_room (Nat.le_of_ble_eq_true rfl)) dL_law_240 ⟨by show 100 + 7 * j + 1 + 0 ≤ 601024; omega, by show 2000 + 64 * j + 6 + 0 ≤ 7293034; omega⟩) hP hD hS hA (fun r7 u7 H locs hw7 hP9 hD9 hS => ?_)
  have hw7 : r7 = nI 0 := hw7
  subst hw7
  have hP : PP G (mW G A (nI 2) (nI z) (nI ln) dg f sl ik sv sg pl ++ (oW G oa og ++ cW G xa so b ce a hh sg ln mk cs up fo tn w t lo hi me (nI n) qu gu ri re P F z o0 o1)) _ := hP9
  have hD : va_D Ar (mW G A (nI 2) (nI z) (nI ln) dg f sl ik sv sg pl ++ (oW G oa og ++ cW G xa so b ce a hh sg ln mk cs up fo tn w t lo hi me (nI n) qu gu ri re P F z o0 o1)) := hD9
  refine lv_istore (lv' := [(6, .int (nI 0)), (5, .int (nI 2)), (0, .ref b9), (1, .ref xa), (2, .ref (A 0)), (3, .ref oa), (4, .int (nI (4 * j)))]) hx hb dL_law_243 hl (by decide) rfl (fun ls hl => ?_)
  refine lv_aload_n hx hb dL_law_245 rfl (lv_at hl 4 rfl) ?_
  refine rd_go (va_runV (As := []) (rest := []) ⟨hx, hb, hml, hown, hts⟩ (c_X7_thrown l G A (nI 2) (nI z) (nI ln) dg f sl ik sv sg pl) (cwV 0 hts gL_law_X7_thrown rfl rfl rfl (by decide +kernel) ⟨Nat.le_of_ble_eq_true rfl, Nat.le_of_ble_eq_true rfl⟩) (rV (ws := mW G A (nI 2) (nI z) (nI ln) dg f sl ik sv sg pl) (va_recv (ws := mW G A (nI 2) (nI z) (nI ln) dg f sl ik sv sg pl ++ (oW G oa og ++ cW G xa so b ce a hh sg ln mk cs up fo tn w t lo hi me (nI n) qu gu ri re P F z o0 o1)) hK hP (ci := 6) (q0 := 0) rfl rfl) hK hN (P_mid (pre := []) (mid := mW G A (nI 2) (nI z) (nI ln) dg f sl ik sv sg pl) (suf := oW G oa og ++ cW G xa so b ce a hh sg ln mk cs up fo tn w t lo hi me (nI n) qu gu ri re P F z o0 o1) hP)) rfl rfl hl.1 rfl (lv_room (Nat.le_of_ble_eq_true rfl)) dL_law_246 ⟨by show 100 + 7 * j + 1 + 0 + 0 ≤ 601024; omega, by show 2000 + 64 * j + 6 + 0 + 0 ≤ 7293034; omega⟩) ?_
  refine lv_iload hx hb dL_law_249 (lv_at hl 1 rfl) ?_
  refine lv_icmp_eq (tgt := 256) hx hb dL_law_251 (by decide) (fun c_251 => ?_) (fun c_251 => by exact absurd c_251 (by decide))
  refine lv_iload hx hb dL_law_256 (lv_at hl 1 rfl) ?_
  refine lv_if_ne (tgt := 273) hx hb dL_law_258 (by decide) (fun c_258 => ?_) (fun c_258 => by exact absurd c_258 (by decide))
  refine lv_goto (tgt := 1297) hx hb dL_law_273 (by decide) ?_
  refine lv_iinc (v := nI (4 * (j + 1))) (lv' := [(4, .int (nI (4 * (j + 1)))), (6, .int (nI 0)), (5, .int (nI 2)), (0, .ref b9), (1, .ref xa), (2, .ref (A 0)), (3, .ref oa)]) hx hb dL_law_1297 hl (k := 6) rfl (iinc4 (4 * j)) (by decide) rfl (fun ls hl => ?_)
  refine lv_goto (tgt := 23) hx hb dL_law_1300 (by decide) ?_
  refine W.widen (k := 100 + 7 * (j + 1)) (n := 2000 + 64 * (j + 1)) (by omega) (by omega) ?_
  exact hHd _ _ _ ⟨og, sg, ln, mk, cs, up, fo, tn, w, t, lo, hi, me, nI n, qu, gu, ri, re, P, F, z, o0, o1, nI 2, dg, f, sl, ik, sv, pl, rfl, hln, hz, (RG_mono (Nat.le_succ _) (RG_of hRS)), (cen_of hn hcv), (HI_mono (Nat.le_succ _) hHI), (SLr_mono (Nat.le_succ _) hs0), (SLr_mono (Nat.le_succ _) hs1)⟩ hP hD hS ls (lv_sub hl [3, 4, 5, 6, 0] rfl)

set_option maxHeartbeats 8000000 in
set_option maxRecDepth 100000 in
theorem L_pull_no {p : Program} {l : Launch} {e : Env} {s : State} {m : MethodId} {args : Array Value} {below : List Frame} {meth : Method} {cd : Code} {Q : State → Prop} {G : GG} {Ar : Nat → Prop} {b9 L : Nat} {xs : Nat → Int32} {xa so oa : Nat} {b ce a hh A : Nat → Nat} (hE : LE9 p l s m args cd G Ar b9 L xs) {j : Nat} (hj : 4 * j + 4 ≤ L) (hL : L ≤ 2048) (hHd : LH p l e s m args below meth cd Q G Ar b9 xa so oa b ce a hh A (j + 1))
    (og : Nat → Int64) (sg : Nat → Int32) (ln : Nat) (hln : ln ≤ 60) (mk : Nat → Int32) (cs up fo tn : Int32) (w t lo hi me : Nat → Int32) (n : Nat) (qu gu ri re : Int32) (P : Nat → Nat → Nat) (F : Nat → Nat → Nat → Int32) (z : Nat) (hz : z ≤ 6) (o0 : SLO) (o1 : SLO) (th : Int32) (dg : Int64) (f sl ik sv pl : Nat → Int32) (x : Int32) (hx0 : ¬ inB x (nI 1) (nI 9))
    (hRS : RS j fo tn w t lo hi me n qu gu ri re f) (hcv : cenV (qS tn lo hi me n) mk cs up) (hHI : HI j z F sv) (hs0 : SLr j o0 (ik 0) sl) (hs1 : SLr j o1 (ik 1) (fun j => sl (58 + j))) (hp0 : xs (4 * j + 1) = x)
    {H : Heap} {locs : List Loc} (hP : PP G (mW G A th (nI z) (nI ln) dg f sl ik sv sg pl ++ (oW G oa og ++ cW G xa so b ce a hh sg ln mk cs up fo tn w t lo hi me (nI n) qu gu ri re P F z o0 o1)) H) (hD : va_D Ar (mW G A th (nI z) (nI ln) dg f sl ik sv sg pl ++ (oW G oa og ++ cW G xa so b ce a hh sg ln mk cs up fo tn w t lo hi me (nI n) qu gu ri re P F z o0 o1))) (hS : va_S Ar s.heap H locs) {ls : Array Slot} (hl : lv_has ls 9 [(0, .ref b9), (1, .ref xa), (2, .ref (A 0)), (3, .ref oa), (4, .int (nI (4 * j)))]) : W p l e room_1 s m args below meth cd H locs (100 + 7 * j) (2000 + 64 * j) Q (F0 m 276 ls []) := by
  obtain ⟨hx, hb, hml, hown, hts, hfl, ⟨hK, hN, hX, hZ0⟩, hA, hXs, hbl, hbA⟩ := id hE
  have hn : n ≤ 12 := hRS.1.1
  have hn17 : f 17 = nI n := hRS.2.1.2.2.1
  have hT : okP t := hRS.2.2.1.2.1
  have hvL : okL lo hi := hRS.2.2.1.2.2.1
  have hvA : okA f := hRS.2.2.1.2.2.2
  have htF : okT f := fun i hi => by rw [hRS.2.1.2.2.2.2 i hi]; exact hT i hi
  refine lv_aload_n hx hb dL_law_276 rfl (lv_at hl 1 rfl) ?_
  refine lv_aload_n hx hb dL_law_277 rfl (lv_at hl 0 rfl) ?_
  refine lv_iload hx hb dL_law_278 (lv_at hl 4 rfl) ?_
  refine lv_iconst (v := nI 1) hx hb dL_law_280 (by decide) ?_
  refine lv_iadd hx hb dL_law_281 ?_
  refine lv_cgi (y := nI ((4 * j) + 1)) (nI_add _ _) ?_
  refine va_sld hx hb hXs hbl hbA hS (vp_in_nI (by omega) (by omega)) dL_law_282 ?_
  refine lv_cgi (y := x) (by rw [nI_clamp (by omega)]; exact hp0) ?_
  refine lv_aload_n hx hb dL_law_283 rfl (lv_at hl 3 rfl) ?_
  refine wr_g1i (pre := mW G A th (nI z) (nI ln) dg f sl ik sv sg pl) (mid := oW G oa og ++ cW G xa so b ce a hh sg ln mk cs up fo tn w t lo hi me (nI n) qu gu ri re P F z o0 o1) (vx_runSW (As := [.ref xa, .int x, .ref oa]) (rest := []) ⟨hx, hb, hml, hown, hts⟩ (w_pull_t1 l G _ xa oa _ _ og x (t_X6_pull_no l hfl G xa _ _ x hx0)) (vx_cwSW 3 hts gL_law_L_pull rfl rfl rfl (by decide +kernel) ⟨Nat.le_of_ble_eq_true rfl, Nat.le_of_ble_eq_true rfl⟩) (lxS1 (pre := mW G A th (nI z) (nI ln) dg f sl ik sv sg pl) (mid := oW G oa og ++ cW G xa so b ce a hh sg ln mk cs up fo tn w t lo hi me (nI n) qu gu ri re P F z o0 o1) hK hN hX (XZ_at hZ0 hS hA) hP hD) rfl rfl hl.1 rfl (lv_room (Nat.le_of_ble_eq_true rfl)) dL_law_284 ⟨by show 100 + 7 * j + 1 ≤ 601024; omega, by show 2000 + 64 * j + 6 ≤ 7293034; omega⟩) hP hD hS hA (fun r6 u6 H locs hw6 hP9 hD9 hS => ?_)
  have hw6 : r6 = nI 1 := hw6
  subst hw6
  have hP : PP G (mW G A th (nI z) (nI ln) dg f sl ik sv sg pl ++ (oW G oa og ++ cW G xa so b ce a hh sg ln mk cs up fo tn w t lo hi me (nI n) qu gu ri re P F z o0 o1)) _ := hP9
  have hD : va_D Ar (mW G A th (nI z) (nI ln) dg f sl ik sv sg pl ++ (oW G oa og ++ cW G xa so b ce a hh sg ln mk cs up fo tn w t lo hi me (nI n) qu gu ri re P F z o0 o1)) := hD9
  refine lv_istore (lv' := [(5, .int (nI 1)), (0, .ref b9), (1, .ref xa), (2, .ref (A 0)), (3, .ref oa), (4, .int (nI (4 * j)))]) hx hb dL_law_287 hl (by decide) rfl (fun ls hl => ?_)
  refine lv_aload_n hx hb dL_law_289 rfl (lv_at hl 3 rfl) ?_
  refine lv_aload_n hx hb dL_law_290 rfl (lv_at hl 1 rfl) ?_
  refine lv_iload hx hb dL_law_291 (lv_at hl 5 rfl) ?_
  refine lv_iconst (v := nI 1) hx hb dL_law_293 (by decide) ?_
  refine lv_iadd hx hb dL_law_294 ?_
  refine lv_cgi (y := nI ((4 * j) + 1)) (nI_add _ _) ?_
  refine va_sld hx hb hXs hbl hbA hS (vp_in_nI (by omega) (by omega)) dL_law_295 ?_
  refine lv_cgi (y := x) (by rw [nI_clamp (by omega)]; exact hp0) ?_
  refine wr_goi (pre := []) (mid := mW G A th (nI z) (nI ln) dg f sl ik sv sg pl) (suf := oW G oa og ++ cW G xa so b ce a hh sg ln mk cs up fo tn w t lo hi me (nI n) qu gu ri re P F z o0 o1) (va_runV (As := [.int x]) (rest := []) ⟨hx, hb, hml, hown, hts⟩ (c_X7_pull_no l G _ A th (nI ln) dg f sl ik sv sg pl z hz x hx0) (cwV 1 hts gL_law_X7_pull rfl rfl rfl (by decide +kernel) ⟨Nat.le_of_ble_eq_true rfl, Nat.le_of_ble_eq_true rfl⟩) (wV (pre := []) (mid := mW G A th (nI z) (nI ln) dg f sl ik sv sg pl) (suf := oW G oa og ++ cW G xa so b ce a hh sg ln mk cs up fo tn w t lo hi me (nI n) qu gu ri re P F z o0 o1) (va_recv (ws := mW G A th (nI z) (nI ln) dg f sl ik sv sg pl ++ (oW G oa og ++ cW G xa so b ce a hh sg ln mk cs up fo tn w t lo hi me (nI n) qu gu ri re P F z o0 o1)) hK hP (ci := 6) (q0 := 0) rfl rfl) hK hN hP hD) rfl rfl hl.1 rfl (lv_room (Nat.le_of_ble_eq_true rfl)) dL_law_296 ⟨by show 100 + 7 * j + 1 + 0 ≤ 601024; omega, by show 2000 + 64 * j + 6 + 0 ≤ 7293034; omega⟩) hP hD hS hA (fun r7 u7 H locs hw7 hP9 hD9 hS => ?_)
  have hw7 : r7 = nI 0 := hw7
  subst hw7
  have hP : PP G (mW G A (nI 1) (nI z) (nI ln) dg f sl ik sv sg pl ++ (oW G oa og ++ cW G xa so b ce a hh sg ln mk cs up fo tn w t lo hi me (nI n) qu gu ri re P F z o0 o1)) _ := hP9
  have hD : va_D Ar (mW G A (nI 1) (nI z) (nI ln) dg f sl ik sv sg pl ++ (oW G oa og ++ cW G xa so b ce a hh sg ln mk cs up fo tn w t lo hi me (nI n) qu gu ri re P F z o0 o1)) := hD9
  refine lv_istore (lv' := [(6, .int (nI 0)), (5, .int (nI 1)), (0, .ref b9), (1, .ref xa), (2, .ref (A 0)), (3, .ref oa), (4, .int (nI (4 * j)))]) hx hb dL_law_299 hl (by decide) rfl (fun ls hl => ?_)
  refine lv_aload_n hx hb dL_law_301 rfl (lv_at hl 4 rfl) ?_
  refine rd_go (va_runV (As := []) (rest := []) ⟨hx, hb, hml, hown, hts⟩ (c_X7_thrown l G A (nI 1) (nI z) (nI ln) dg f sl ik sv sg pl) (cwV 0 hts gL_law_X7_thrown rfl rfl rfl (by decide +kernel) ⟨Nat.le_of_ble_eq_true rfl, Nat.le_of_ble_eq_true rfl⟩) (rV (ws := mW G A (nI 1) (nI z) (nI ln) dg f sl ik sv sg pl) (va_recv (ws := mW G A (nI 1) (nI z) (nI ln) dg f sl ik sv sg pl ++ (oW G oa og ++ cW G xa so b ce a hh sg ln mk cs up fo tn w t lo hi me (nI n) qu gu ri re P F z o0 o1)) hK hP (ci := 6) (q0 := 0) rfl rfl) hK hN (P_mid (pre := []) (mid := mW G A (nI 1) (nI z) (nI ln) dg f sl ik sv sg pl) (suf := oW G oa og ++ cW G xa so b ce a hh sg ln mk cs up fo tn w t lo hi me (nI n) qu gu ri re P F z o0 o1) hP)) rfl rfl hl.1 rfl (lv_room (Nat.le_of_ble_eq_true rfl)) dL_law_302 ⟨by show 100 + 7 * j + 1 + 0 + 0 ≤ 601024; omega, by show 2000 + 64 * j + 6 + 0 + 0 ≤ 7293034; omega⟩) ?_
  refine lv_iload hx hb dL_law_305 (lv_at hl 1 rfl) ?_
  refine lv_icmp_eq (tgt := 312) hx hb dL_law_307 (by decide) (fun c_307 => ?_) (fun c_307 => by exact absurd c_307 (by decide))
  refine lv_iload hx hb dL_law_312 (lv_at hl 1 rfl) ?_
  refine lv_if_ne (tgt := 329) hx hb dL_law_314 (by decide) (fun c_314 => ?_) (fun c_314 => by exact absurd c_314 (by decide))
  refine lv_goto (tgt := 1297) hx hb dL_law_329 (by decide) ?_
  refine lv_iinc (v := nI (4 * (j + 1))) (lv' := [(4, .int (nI (4 * (j + 1)))), (6, .int (nI 0)), (5, .int (nI 1)), (0, .ref b9), (1, .ref xa), (2, .ref (A 0)), (3, .ref oa)]) hx hb dL_law_1297 hl (k := 6) rfl (iinc4 (4 * j)) (by decide) rfl (fun ls hl => ?_)
  refine lv_goto (tgt := 23) hx hb dL_law_1300 (by decide) ?_
  refine W.widen (k := 100 + 7 * (j + 1)) (n := 2000 + 64 * (j + 1)) (by omega) (by omega) ?_
  exact hHd _ _ _ ⟨og, sg, ln, mk, cs, up, fo, tn, w, t, lo, hi, me, nI n, qu, gu, ri, re, P, F, z, o0, o1, nI 1, dg, f, sl, ik, sv, pl, rfl, hln, hz, (RG_mono (Nat.le_succ _) (RG_of hRS)), (cen_of hn hcv), (HI_mono (Nat.le_succ _) hHI), (SLr_mono (Nat.le_succ _) hs0), (SLr_mono (Nat.le_succ _) hs1)⟩ hP hD hS ls (lv_sub hl [3, 4, 5, 6, 0] rfl)

set_option maxHeartbeats 8000000 in
set_option maxRecDepth 100000 in
theorem L_ask_noa {p : Program} {l : Launch} {e : Env} {s : State} {m : MethodId} {args : Array Value} {below : List Frame} {meth : Method} {cd : Code} {Q : State → Prop} {G : GG} {Ar : Nat → Prop} {b9 L : Nat} {xs : Nat → Int32} {xa so oa : Nat} {b ce a hh A : Nat → Nat} (hE : LE9 p l s m args cd G Ar b9 L xs) {j : Nat} (hj : 4 * j + 4 ≤ L) (hL : L ≤ 2048) (hHd : LH p l e s m args below meth cd Q G Ar b9 xa so oa b ce a hh A (j + 1))
    (og : Nat → Int64) (sg : Nat → Int32) (ln : Nat) (hln : ln ≤ 60) (mk : Nat → Int32) (cs up fo tn : Int32) (w t lo hi me : Nat → Int32) (n : Nat) (qu gu ri re : Int32) (P : Nat → Nat → Nat) (F : Nat → Nat → Nat → Int32) (z : Nat) (hz : z ≤ 6) (o0 : SLO) (o1 : SLO) (th : Int32) (dg : Int64) (f sl ik sv pl : Nat → Int32) (x y : Int32) (hx0 : ¬ inB x (nI 0) (nI 5))
    (hRS : RS j fo tn w t lo hi me n qu gu ri re f) (hcv : cenV (qS tn lo hi me n) mk cs up) (hHI : HI j z F sv) (hs0 : SLr j o0 (ik 0) sl) (hs1 : SLr j o1 (ik 1) (fun j => sl (58 + j))) (hp0 : xs (4 * j + 1) = x) (hp1 : xs (4 * j + 2) = y)
    {H : Heap} {locs : List Loc} (hP : PP G (mW G A th (nI z) (nI ln) dg f sl ik sv sg pl ++ (oW G oa og ++ cW G xa so b ce a hh sg ln mk cs up fo tn w t lo hi me (nI n) qu gu ri re P F z o0 o1)) H) (hD : va_D Ar (mW G A th (nI z) (nI ln) dg f sl ik sv sg pl ++ (oW G oa og ++ cW G xa so b ce a hh sg ln mk cs up fo tn w t lo hi me (nI n) qu gu ri re P F z o0 o1))) (hS : va_S Ar s.heap H locs) {ls : Array Slot} (hl : lv_has ls 9 [(0, .ref b9), (1, .ref xa), (2, .ref (A 0)), (3, .ref oa), (4, .int (nI (4 * j)))]) : W p l e room_1 s m args below meth cd H locs (100 + 7 * j) (2000 + 64 * j) Q (F0 m 345 ls []) := by
  obtain ⟨hx, hb, hml, hown, hts, hfl, ⟨hK, hN, hX, hZ0⟩, hA, hXs, hbl, hbA⟩ := id hE
  have hn : n ≤ 12 := hRS.1.1
  have hn17 : f 17 = nI n := hRS.2.1.2.2.1
  have hT : okP t := hRS.2.2.1.2.1
  have hvL : okL lo hi := hRS.2.2.1.2.2.1
  have hvA : okA f := hRS.2.2.1.2.2.2
  have htF : okT f := fun i hi => by rw [hRS.2.1.2.2.2.2 i hi]; exact hT i hi
  refine lv_aload_n hx hb dL_law_345 rfl (lv_at hl 1 rfl) ?_
  refine lv_aload_n hx hb dL_law_346 rfl (lv_at hl 0 rfl) ?_
  refine lv_iload hx hb dL_law_347 (lv_at hl 4 rfl) ?_
  refine lv_iconst (v := nI 1) hx hb dL_law_349 (by decide) ?_
  refine lv_iadd hx hb dL_law_350 ?_
  refine lv_cgi (y := nI ((4 * j) + 1)) (nI_add _ _) ?_
  refine va_sld hx hb hXs hbl hbA hS (vp_in_nI (by omega) (by omega)) dL_law_351 ?_
  refine lv_cgi (y := x) (by rw [nI_clamp (by omega)]; exact hp0) ?_
  refine lv_aload_n hx hb dL_law_352 rfl (lv_at hl 0 rfl) ?_
  refine lv_iload hx hb dL_law_353 (lv_at hl 4 rfl) ?_
  refine lv_iconst (v := nI 2) hx hb dL_law_355 (by decide) ?_
  refine lv_iadd hx hb dL_law_356 ?_
  refine lv_cgi (y := nI ((4 * j) + 2)) (nI_add _ _) ?_
  refine va_sld hx hb hXs hbl hbA hS (vp_in_nI (by omega) (by omega)) dL_law_357 ?_
  refine lv_cgi (y := y) (by rw [nI_clamp (by omega)]; exact hp1) ?_
  refine lv_aload_n hx hb dL_law_358 rfl (lv_at hl 3 rfl) ?_
  refine wr_g1i (pre := mW G A th (nI z) (nI ln) dg f sl ik sv sg pl) (mid := oW G oa og ++ cW G xa so b ce a hh sg ln mk cs up fo tn w t lo hi me (nI n) qu gu ri re P F z o0 o1) (vx_runSW (As := [.ref xa, .int x, .int y, .ref oa]) (rest := []) ⟨hx, hb, hml, hown, hts⟩ (w_ask_t1 l G _ xa oa _ _ og x y (t_X6_ask_noa l hfl G xa _ _ x y hx0)) (vx_cwSW 4 hts gL_law_L_ask rfl rfl rfl (by decide +kernel) ⟨Nat.le_of_ble_eq_true rfl, Nat.le_of_ble_eq_true rfl⟩) (lxS1 (pre := mW G A th (nI z) (nI ln) dg f sl ik sv sg pl) (mid := oW G oa og ++ cW G xa so b ce a hh sg ln mk cs up fo tn w t lo hi me (nI n) qu gu ri re P F z o0 o1) hK hN hX (XZ_at hZ0 hS hA) hP hD) rfl rfl hl.1 rfl (lv_room (Nat.le_of_ble_eq_true rfl)) dL_law_359 ⟨by show 100 + 7 * j + 1 ≤ 601024; omega, by show 2000 + 64 * j + 6 ≤ 7293034; omega⟩) hP hD hS hA (fun r6 u6 H locs hw6 hP9 hD9 hS => ?_)
  have hw6 : r6 = nI 1 := hw6
  subst hw6
  have hP : PP G (mW G A th (nI z) (nI ln) dg f sl ik sv sg pl ++ (oW G oa og ++ cW G xa so b ce a hh sg ln mk cs up fo tn w t lo hi me (nI n) qu gu ri re P F z o0 o1)) _ := hP9
  have hD : va_D Ar (mW G A th (nI z) (nI ln) dg f sl ik sv sg pl ++ (oW G oa og ++ cW G xa so b ce a hh sg ln mk cs up fo tn w t lo hi me (nI n) qu gu ri re P F z o0 o1)) := hD9
  refine lv_istore (lv' := [(5, .int (nI 1)), (0, .ref b9), (1, .ref xa), (2, .ref (A 0)), (3, .ref oa), (4, .int (nI (4 * j)))]) hx hb dL_law_362 hl (by decide) rfl (fun ls hl => ?_)
  refine lv_aload_n hx hb dL_law_364 rfl (lv_at hl 3 rfl) ?_
  refine lv_aload_n hx hb dL_law_365 rfl (lv_at hl 1 rfl) ?_
  refine lv_iload hx hb dL_law_366 (lv_at hl 5 rfl) ?_
  refine lv_iconst (v := nI 1) hx hb dL_law_368 (by decide) ?_
  refine lv_iadd hx hb dL_law_369 ?_
  refine lv_cgi (y := nI ((4 * j) + 1)) (nI_add _ _) ?_
  refine va_sld hx hb hXs hbl hbA hS (vp_in_nI (by omega) (by omega)) dL_law_370 ?_
  refine lv_cgi (y := x) (by rw [nI_clamp (by omega)]; exact hp0) ?_
  refine lv_aload_n hx hb dL_law_371 rfl (lv_at hl 1 rfl) ?_
  refine lv_iload hx hb dL_law_372 (lv_at hl 5 rfl) ?_
  refine lv_iconst (v := nI 2) hx hb dL_law_374 (by decide) ?_
  refine lv_iadd hx hb dL_law_375 ?_
  refine lv_cgi (y := nI ((4 * j) + 2)) (nI_add _ _) ?_
  refine va_sld hx hb hXs hbl hbA hS (vp_in_nI (by omega) (by omega)) dL_law_376 ?_
  refine lv_cgi (y := y) (by rw [nI_clamp (by omega)]; exact hp1) ?_
  refine wr_goi (pre := []) (mid := mW G A th (nI z) (nI ln) dg f sl ik sv sg pl) (suf := oW G oa og ++ cW G xa so b ce a hh sg ln mk cs up fo tn w t lo hi me (nI n) qu gu ri re P F z o0 o1) (va_runV (As := [.int x, .int y]) (rest := []) ⟨hx, hb, hml, hown, hts⟩ (c_X7_ask_no1 l G _ A th (nI ln) dg f sl ik sv sg pl z hz x y (fun h => hx0 h.1)) (cwV 2 hts gL_law_X7_ask rfl rfl rfl (by decide +kernel) ⟨Nat.le_of_ble_eq_true rfl, Nat.le_of_ble_eq_true rfl⟩) (wV (pre := []) (mid := mW G A th (nI z) (nI ln) dg f sl ik sv sg pl) (suf := oW G oa og ++ cW G xa so b ce a hh sg ln mk cs up fo tn w t lo hi me (nI n) qu gu ri re P F z o0 o1) (va_recv (ws := mW G A th (nI z) (nI ln) dg f sl ik sv sg pl ++ (oW G oa og ++ cW G xa so b ce a hh sg ln mk cs up fo tn w t lo hi me (nI n) qu gu ri re P F z o0 o1)) hK hP (ci := 6) (q0 := 0) rfl rfl) hK hN hP hD) rfl rfl hl.1 rfl (lv_room (Nat.le_of_ble_eq_true rfl)) dL_law_377 ⟨by show 100 + 7 * j + 1 + 0 ≤ 601024; omega, by show 2000 + 64 * j + 6 + 0 ≤ 7293034; omega⟩) hP hD hS hA (fun r7 u7 H locs hw7 hP9 hD9 hS => ?_)
  have hw7 : r7 = nI 0 := hw7
  subst hw7
  have hP : PP G (mW G A (nI 1) (nI z) (nI ln) dg f sl ik sv sg pl ++ (oW G oa og ++ cW G xa so b ce a hh sg ln mk cs up fo tn w t lo hi me (nI n) qu gu ri re P F z o0 o1)) _ := hP9
  have hD : va_D Ar (mW G A (nI 1) (nI z) (nI ln) dg f sl ik sv sg pl ++ (oW G oa og ++ cW G xa so b ce a hh sg ln mk cs up fo tn w t lo hi me (nI n) qu gu ri re P F z o0 o1)) := hD9
  refine lv_istore (lv' := [(6, .int (nI 0)), (5, .int (nI 1)), (0, .ref b9), (1, .ref xa), (2, .ref (A 0)), (3, .ref oa), (4, .int (nI (4 * j)))]) hx hb dL_law_380 hl (by decide) rfl (fun ls hl => ?_)
  refine lv_aload_n hx hb dL_law_382 rfl (lv_at hl 4 rfl) ?_
  refine rd_go (va_runV (As := []) (rest := []) ⟨hx, hb, hml, hown, hts⟩ (c_X7_thrown l G A (nI 1) (nI z) (nI ln) dg f sl ik sv sg pl) (cwV 0 hts gL_law_X7_thrown rfl rfl rfl (by decide +kernel) ⟨Nat.le_of_ble_eq_true rfl, Nat.le_of_ble_eq_true rfl⟩) (rV (ws := mW G A (nI 1) (nI z) (nI ln) dg f sl ik sv sg pl) (va_recv (ws := mW G A (nI 1) (nI z) (nI ln) dg f sl ik sv sg pl ++ (oW G oa og ++ cW G xa so b ce a hh sg ln mk cs up fo tn w t lo hi me (nI n) qu gu ri re P F z o0 o1)) hK hP (ci := 6) (q0 := 0) rfl rfl) hK hN (P_mid (pre := []) (mid := mW G A (nI 1) (nI z) (nI ln) dg f sl ik sv sg pl) (suf := oW G oa og ++ cW G xa so b ce a hh sg ln mk cs up fo tn w t lo hi me (nI n) qu gu ri re P F z o0 o1) hP)) rfl rfl hl.1 rfl (lv_room (Nat.le_of_ble_eq_true rfl)) dL_law_383 ⟨by show 100 + 7 * j + 1 + 0 + 0 ≤ 601024; omega, by show 2000 + 64 * j + 6 + 0 + 0 ≤ 7293034; omega⟩) ?_
  refine lv_iload hx hb dL_law_386 (lv_at hl 1 rfl) ?_
  refine lv_icmp_eq (tgt := 393) hx hb dL_law_388 (by decide) (fun c_388 => ?_) (fun c_388 => by exact absurd c_388 (by decide))
  refine lv_iload hx hb dL_law_393 (lv_at hl 1 rfl) ?_
  refine lv_if_ne (tgt := 410) hx hb dL_law_395 (by decide) (fun c_395 => ?_) (fun c_395 => by exact absurd c_395 (by decide))
  refine lv_goto (tgt := 1297) hx hb dL_law_410 (by decide) ?_
  refine lv_iinc (v := nI (4 * (j + 1))) (lv' := [(4, .int (nI (4 * (j + 1)))), (6, .int (nI 0)), (5, .int (nI 1)), (0, .ref b9), (1, .ref xa), (2, .ref (A 0)), (3, .ref oa)]) hx hb dL_law_1297 hl (k := 6) rfl (iinc4 (4 * j)) (by decide) rfl (fun ls hl => ?_)
  refine lv_goto (tgt := 23) hx hb dL_law_1300 (by decide) ?_
  refine W.widen (k := 100 + 7 * (j + 1)) (n := 2000 + 64 * (j + 1)) (by omega) (by omega) ?_
  exact hHd _ _ _ ⟨og, sg, ln, mk, cs, up, fo, tn, w, t, lo, hi, me, nI n, qu, gu, ri, re, P, F, z, o0, o1, nI 1, dg, f, sl, ik, sv, pl, rfl, hln, hz, (RG_mono (Nat.le_succ _) (RG_of hRS)), (cen_of hn hcv), (HI_mono (Nat.le_succ _) hHI), (SLr_mono (Nat.le_succ _) hs0), (SLr_mono (Nat.le_succ _) hs1)⟩ hP hD hS ls (lv_sub hl [3, 4, 5, 6, 0] rfl)

set_option maxHeartbeats 8000000 in
set_option maxRecDepth 100000 in
theorem L_ask_nob {p : Program} {l : Launch} {e : Env} {s : State} {m : MethodId} {args : Array Value} {below : List Frame} {meth : Method} {cd : Code} {Q : State → Prop} {G : GG} {Ar : Nat → Prop} {b9 L : Nat} {xs : Nat → Int32} {xa so oa : Nat} {b ce a hh A : Nat → Nat} (hE : LE9 p l s m args cd G Ar b9 L xs) {j : Nat} (hj : 4 * j + 4 ≤ L) (hL : L ≤ 2048) (hHd : LH p l e s m args below meth cd Q G Ar b9 xa so oa b ce a hh A (j + 1))
    (og : Nat → Int64) (sg : Nat → Int32) (ln : Nat) (hln : ln ≤ 60) (mk : Nat → Int32) (cs up fo tn : Int32) (w t lo hi me : Nat → Int32) (n : Nat) (qu gu ri re : Int32) (P : Nat → Nat → Nat) (F : Nat → Nat → Nat → Int32) (z : Nat) (hz : z ≤ 6) (o0 : SLO) (o1 : SLO) (th : Int32) (dg : Int64) (f sl ik sv pl : Nat → Int32) (t9 : Nat) (ht9 : t9 < 6) (y : Int32) (hx0 : ¬ inB y (nI 0) (nI 5))
    (hRS : RS j fo tn w t lo hi me n qu gu ri re f) (hcv : cenV (qS tn lo hi me n) mk cs up) (hHI : HI j z F sv) (hs0 : SLr j o0 (ik 0) sl) (hs1 : SLr j o1 (ik 1) (fun j => sl (58 + j))) (hp0 : xs (4 * j + 1) = nI t9) (hp1 : xs (4 * j + 2) = y)
    {H : Heap} {locs : List Loc} (hP : PP G (mW G A th (nI z) (nI ln) dg f sl ik sv sg pl ++ (oW G oa og ++ cW G xa so b ce a hh sg ln mk cs up fo tn w t lo hi me (nI n) qu gu ri re P F z o0 o1)) H) (hD : va_D Ar (mW G A th (nI z) (nI ln) dg f sl ik sv sg pl ++ (oW G oa og ++ cW G xa so b ce a hh sg ln mk cs up fo tn w t lo hi me (nI n) qu gu ri re P F z o0 o1))) (hS : va_S Ar s.heap H locs) {ls : Array Slot} (hl : lv_has ls 9 [(0, .ref b9), (1, .ref xa), (2, .ref (A 0)), (3, .ref oa), (4, .int (nI (4 * j)))]) : W p l e room_1 s m args below meth cd H locs (100 + 7 * j) (2000 + 64 * j) Q (F0 m 345 ls []) := by
  obtain ⟨hx, hb, hml, hown, hts, hfl, ⟨hK, hN, hX, hZ0⟩, hA, hXs, hbl, hbA⟩ := id hE
  have hn : n ≤ 12 := hRS.1.1
  have hn17 : f 17 = nI n := hRS.2.1.2.2.1
  have hT : okP t := hRS.2.2.1.2.1
  have hvL : okL lo hi := hRS.2.2.1.2.2.1
  have hvA : okA f := hRS.2.2.1.2.2.2
  have htF : okT f := fun i hi => by rw [hRS.2.1.2.2.2.2 i hi]; exact hT i hi
  refine lv_aload_n hx hb dL_law_345 rfl (lv_at hl 1 rfl) ?_
  refine lv_aload_n hx hb dL_law_346 rfl (lv_at hl 0 rfl) ?_
  refine lv_iload hx hb dL_law_347 (lv_at hl 4 rfl) ?_
  refine lv_iconst (v := nI 1) hx hb dL_law_349 (by decide) ?_
  refine lv_iadd hx hb dL_law_350 ?_
  refine lv_cgi (y := nI ((4 * j) + 1)) (nI_add _ _) ?_
  refine va_sld hx hb hXs hbl hbA hS (vp_in_nI (by omega) (by omega)) dL_law_351 ?_
  refine lv_cgi (y := nI t9) (by rw [nI_clamp (by omega)]; exact hp0) ?_
  refine lv_aload_n hx hb dL_law_352 rfl (lv_at hl 0 rfl) ?_
  refine lv_iload hx hb dL_law_353 (lv_at hl 4 rfl) ?_
  refine lv_iconst (v := nI 2) hx hb dL_law_355 (by decide) ?_
  refine lv_iadd hx hb dL_law_356 ?_
  refine lv_cgi (y := nI ((4 * j) + 2)) (nI_add _ _) ?_
  refine va_sld hx hb hXs hbl hbA hS (vp_in_nI (by omega) (by omega)) dL_law_357 ?_
  refine lv_cgi (y := y) (by rw [nI_clamp (by omega)]; exact hp1) ?_
  refine lv_aload_n hx hb dL_law_358 rfl (lv_at hl 3 rfl) ?_
  refine wr_g1i (pre := mW G A th (nI z) (nI ln) dg f sl ik sv sg pl) (mid := oW G oa og ++ cW G xa so b ce a hh sg ln mk cs up fo tn w t lo hi me (nI n) qu gu ri re P F z o0 o1) (vx_runSW (As := [.ref xa, .int (nI t9), .int y, .ref oa]) (rest := []) ⟨hx, hb, hml, hown, hts⟩ (w_ask_t1 l G _ xa oa _ _ og (nI t9) y (t_X6_ask_nob l hfl G xa _ _ t9 ht9 y hx0)) (vx_cwSW 4 hts gL_law_L_ask rfl rfl rfl (by decide +kernel) ⟨Nat.le_of_ble_eq_true rfl, Nat.le_of_ble_eq_true rfl⟩) (lxS1 (pre := mW G A th (nI z) (nI ln) dg f sl ik sv sg pl) (mid := oW G oa og ++ cW G xa so b ce a hh sg ln mk cs up fo tn w t lo hi me (nI n) qu gu ri re P F z o0 o1) hK hN hX (XZ_at hZ0 hS hA) hP hD) rfl rfl hl.1 rfl (lv_room (Nat.le_of_ble_eq_true rfl)) dL_law_359 ⟨by show 100 + 7 * j + 1 ≤ 601024; omega, by show 2000 + 64 * j + 6 ≤ 7293034; omega⟩) hP hD hS hA (fun r6 u6 H locs hw6 hP9 hD9 hS => ?_)
  have hw6 : r6 = nI 1 := hw6
  subst hw6
  have hP : PP G (mW G A th (nI z) (nI ln) dg f sl ik sv sg pl ++ (oW G oa og ++ cW G xa so b ce a hh sg ln mk cs up fo tn w t lo hi me (nI n) qu gu ri re P F z o0 o1)) _ := hP9
  have hD : va_D Ar (mW G A th (nI z) (nI ln) dg f sl ik sv sg pl ++ (oW G oa og ++ cW G xa so b ce a hh sg ln mk cs up fo tn w t lo hi me (nI n) qu gu ri re P F z o0 o1)) := hD9
  refine lv_istore (lv' := [(5, .int (nI 1)), (0, .ref b9), (1, .ref xa), (2, .ref (A 0)), (3, .ref oa), (4, .int (nI (4 * j)))]) hx hb dL_law_362 hl (by decide) rfl (fun ls hl => ?_)
  refine lv_aload_n hx hb dL_law_364 rfl (lv_at hl 3 rfl) ?_
  refine lv_aload_n hx hb dL_law_365 rfl (lv_at hl 1 rfl) ?_
  refine lv_iload hx hb dL_law_366 (lv_at hl 5 rfl) ?_
  refine lv_iconst (v := nI 1) hx hb dL_law_368 (by decide) ?_
  refine lv_iadd hx hb dL_law_369 ?_
  refine lv_cgi (y := nI ((4 * j) + 1)) (nI_add _ _) ?_
  refine va_sld hx hb hXs hbl hbA hS (vp_in_nI (by omega) (by omega)) dL_law_370 ?_
  refine lv_cgi (y := nI t9) (by rw [nI_clamp (by omega)]; exact hp0) ?_
  refine lv_aload_n hx hb dL_law_371 rfl (lv_at hl 1 rfl) ?_
  refine lv_iload hx hb dL_law_372 (lv_at hl 5 rfl) ?_
  refine lv_iconst (v := nI 2) hx hb dL_law_374 (by decide) ?_
  refine lv_iadd hx hb dL_law_375 ?_
  refine lv_cgi (y := nI ((4 * j) + 2)) (nI_add _ _) ?_
  refine va_sld hx hb hXs hbl hbA hS (vp_in_nI (by omega) (by omega)) dL_law_376 ?_
  refine lv_cgi (y := y) (by rw [nI_clamp (by omega)]; exact hp1) ?_
  refine wr_goi (pre := []) (mid := mW G A th (nI z) (nI ln) dg f sl ik sv sg pl) (suf := oW G oa og ++ cW G xa so b ce a hh sg ln mk cs up fo tn w t lo hi me (nI n) qu gu ri re P F z o0 o1) (va_runV (As := [.int (nI t9), .int y]) (rest := []) ⟨hx, hb, hml, hown, hts⟩ (c_X7_ask_no1 l G _ A th (nI ln) dg f sl ik sv sg pl z hz (nI t9) y (fun h => hx0 h.2)) (cwV 2 hts gL_law_X7_ask rfl rfl rfl (by decide +kernel) ⟨Nat.le_of_ble_eq_true rfl, Nat.le_of_ble_eq_true rfl⟩) (wV (pre := []) (mid := mW G A th (nI z) (nI ln) dg f sl ik sv sg pl) (suf := oW G oa og ++ cW G xa so b ce a hh sg ln mk cs up fo tn w t lo hi me (nI n) qu gu ri re P F z o0 o1) (va_recv (ws := mW G A th (nI z) (nI ln) dg f sl ik sv sg pl ++ (oW G oa og ++ cW G xa so b ce a hh sg ln mk cs up fo tn w t lo hi me (nI n) qu gu ri re P F z o0 o1)) hK hP (ci := 6) (q0 := 0) rfl rfl) hK hN hP hD) rfl rfl hl.1 rfl (lv_room (Nat.le_of_ble_eq_true rfl)) dL_law_377 ⟨by show 100 + 7 * j + 1 + 0 ≤ 601024; omega, by show 2000 + 64 * j + 6 + 0 ≤ 7293034; omega⟩) hP hD hS hA (fun r7 u7 H locs hw7 hP9 hD9 hS => ?_)
  have hw7 : r7 = nI 0 := hw7
  subst hw7
  have hP : PP G (mW G A (nI 1) (nI z) (nI ln) dg f sl ik sv sg pl ++ (oW G oa og ++ cW G xa so b ce a hh sg ln mk cs up fo tn w t lo hi me (nI n) qu gu ri re P F z o0 o1)) _ := hP9
  have hD : va_D Ar (mW G A (nI 1) (nI z) (nI ln) dg f sl ik sv sg pl ++ (oW G oa og ++ cW G xa so b ce a hh sg ln mk cs up fo tn w t lo hi me (nI n) qu gu ri re P F z o0 o1)) := hD9
  refine lv_istore (lv' := [(6, .int (nI 0)), (5, .int (nI 1)), (0, .ref b9), (1, .ref xa), (2, .ref (A 0)), (3, .ref oa), (4, .int (nI (4 * j)))]) hx hb dL_law_380 hl (by decide) rfl (fun ls hl => ?_)
  refine lv_aload_n hx hb dL_law_382 rfl (lv_at hl 4 rfl) ?_
  refine rd_go (va_runV (As := []) (rest := []) ⟨hx, hb, hml, hown, hts⟩ (c_X7_thrown l G A (nI 1) (nI z) (nI ln) dg f sl ik sv sg pl) (cwV 0 hts gL_law_X7_thrown rfl rfl rfl (by decide +kernel) ⟨Nat.le_of_ble_eq_true rfl, Nat.le_of_ble_eq_true rfl⟩) (rV (ws := mW G A (nI 1) (nI z) (nI ln) dg f sl ik sv sg pl) (va_recv (ws := mW G A (nI 1) (nI z) (nI ln) dg f sl ik sv sg pl ++ (oW G oa og ++ cW G xa so b ce a hh sg ln mk cs up fo tn w t lo hi me (nI n) qu gu ri re P F z o0 o1)) hK hP (ci := 6) (q0 := 0) rfl rfl) hK hN (P_mid (pre := []) (mid := mW G A (nI 1) (nI z) (nI ln) dg f sl ik sv sg pl) (suf := oW G oa og ++ cW G xa so b ce a hh sg ln mk cs up fo tn w t lo hi me (nI n) qu gu ri re P F z o0 o1) hP)) rfl rfl hl.1 rfl (lv_room (Nat.le_of_ble_eq_true rfl)) dL_law_383 ⟨by show 100 + 7 * j + 1 + 0 + 0 ≤ 601024; omega, by show 2000 + 64 * j + 6 + 0 + 0 ≤ 7293034; omega⟩) ?_
  refine lv_iload hx hb dL_law_386 (lv_at hl 1 rfl) ?_
  refine lv_icmp_eq (tgt := 393) hx hb dL_law_388 (by decide) (fun c_388 => ?_) (fun c_388 => by exact absurd c_388 (by decide))
  refine lv_iload hx hb dL_law_393 (lv_at hl 1 rfl) ?_
  refine lv_if_ne (tgt := 410) hx hb dL_law_395 (by decide) (fun c_395 => ?_) (fun c_395 => by exact absurd c_395 (by decide))
  refine lv_goto (tgt := 1297) hx hb dL_law_410 (by decide) ?_
  refine lv_iinc (v := nI (4 * (j + 1))) (lv' := [(4, .int (nI (4 * (j + 1)))), (6, .int (nI 0)), (5, .int (nI 1)), (0, .ref b9), (1, .ref xa), (2, .ref (A 0)), (3, .ref oa)]) hx hb dL_law_1297 hl (k := 6) rfl (iinc4 (4 * j)) (by decide) rfl (fun ls hl => ?_)
  refine lv_goto (tgt := 23) hx hb dL_law_1300 (by decide) ?_
  refine W.widen (k := 100 + 7 * (j + 1)) (n := 2000 + 64 * (j + 1)) (by omega) (by omega) ?_
  exact hHd _ _ _ ⟨og, sg, ln, mk, cs, up, fo, tn, w, t, lo, hi, me, nI n, qu, gu, ri, re, P, F, z, o0, o1, nI 1, dg, f, sl, ik, sv, pl, rfl, hln, hz, (RG_mono (Nat.le_succ _) (RG_of hRS)), (cen_of hn hcv), (HI_mono (Nat.le_succ _) hHI), (SLr_mono (Nat.le_succ _) hs0), (SLr_mono (Nat.le_succ _) hs1)⟩ hP hD hS ls (lv_sub hl [3, 4, 5, 6, 0] rfl)

set_option maxHeartbeats 8000000 in
set_option maxRecDepth 100000 in
theorem L_ask_noc {p : Program} {l : Launch} {e : Env} {s : State} {m : MethodId} {args : Array Value} {below : List Frame} {meth : Method} {cd : Code} {Q : State → Prop} {G : GG} {Ar : Nat → Prop} {b9 L : Nat} {xs : Nat → Int32} {xa so oa : Nat} {b ce a hh A : Nat → Nat} (hE : LE9 p l s m args cd G Ar b9 L xs) {j : Nat} (hj : 4 * j + 4 ≤ L) (hL : L ≤ 2048) (hHd : LH p l e s m args below meth cd Q G Ar b9 xa so oa b ce a hh A (j + 1))
    (og : Nat → Int64) (sg : Nat → Int32) (ln : Nat) (hln : ln ≤ 60) (mk : Nat → Int32) (cs up fo tn : Int32) (w t lo hi me : Nat → Int32) (n : Nat) (qu gu ri re : Int32) (P : Nat → Nat → Nat) (F : Nat → Nat → Nat → Int32) (z : Nat) (hz : z ≤ 6) (o0 : SLO) (o1 : SLO) (th : Int32) (dg : Int64) (f sl ik sv pl : Nat → Int32) (t9 : Nat) (ht9 : t9 < 6)
    (hRS : RS j fo tn w t lo hi me n qu gu ri re f) (hcv : cenV (qS tn lo hi me n) mk cs up) (hHI : HI j z F sv) (hs0 : SLr j o0 (ik 0) sl) (hs1 : SLr j o1 (ik 1) (fun j => sl (58 + j))) (hp0 : xs (4 * j + 1) = nI t9) (hp1 : xs (4 * j + 2) = nI t9)
    {H : Heap} {locs : List Loc} (hP : PP G (mW G A th (nI z) (nI ln) dg f sl ik sv sg pl ++ (oW G oa og ++ cW G xa so b ce a hh sg ln mk cs up fo tn w t lo hi me (nI n) qu gu ri re P F z o0 o1)) H) (hD : va_D Ar (mW G A th (nI z) (nI ln) dg f sl ik sv sg pl ++ (oW G oa og ++ cW G xa so b ce a hh sg ln mk cs up fo tn w t lo hi me (nI n) qu gu ri re P F z o0 o1))) (hS : va_S Ar s.heap H locs) {ls : Array Slot} (hl : lv_has ls 9 [(0, .ref b9), (1, .ref xa), (2, .ref (A 0)), (3, .ref oa), (4, .int (nI (4 * j)))]) : W p l e room_1 s m args below meth cd H locs (100 + 7 * j) (2000 + 64 * j) Q (F0 m 345 ls []) := by
  obtain ⟨hx, hb, hml, hown, hts, hfl, ⟨hK, hN, hX, hZ0⟩, hA, hXs, hbl, hbA⟩ := id hE
  have hn : n ≤ 12 := hRS.1.1
  have hn17 : f 17 = nI n := hRS.2.1.2.2.1
  have hT : okP t := hRS.2.2.1.2.1
  have hvL : okL lo hi := hRS.2.2.1.2.2.1
  have hvA : okA f := hRS.2.2.1.2.2.2
  have htF : okT f := fun i hi => by rw [hRS.2.1.2.2.2.2 i hi]; exact hT i hi
  refine lv_aload_n hx hb dL_law_345 rfl (lv_at hl 1 rfl) ?_
  refine lv_aload_n hx hb dL_law_346 rfl (lv_at hl 0 rfl) ?_
  refine lv_iload hx hb dL_law_347 (lv_at hl 4 rfl) ?_
  refine lv_iconst (v := nI 1) hx hb dL_law_349 (by decide) ?_
  refine lv_iadd hx hb dL_law_350 ?_
  refine lv_cgi (y := nI ((4 * j) + 1)) (nI_add _ _) ?_
  refine va_sld hx hb hXs hbl hbA hS (vp_in_nI (by omega) (by omega)) dL_law_351 ?_
  refine lv_cgi (y := nI t9) (by rw [nI_clamp (by omega)]; exact hp0) ?_
  refine lv_aload_n hx hb dL_law_352 rfl (lv_at hl 0 rfl) ?_
  refine lv_iload hx hb dL_law_353 (lv_at hl 4 rfl) ?_
  refine lv_iconst (v := nI 2) hx hb dL_law_355 (by decide) ?_
  refine lv_iadd hx hb dL_law_356 ?_
  refine lv_cgi (y := nI ((4 * j) + 2)) (nI_add _ _) ?_
  refine va_sld hx hb hXs hbl hbA hS (vp_in_nI (by omega) (by omega)) dL_law_357 ?_
  refine lv_cgi (y := nI t9) (by rw [nI_clamp (by omega)]; exact hp1) ?_
  refine lv_aload_n hx hb dL_law_358 rfl (lv_at hl 3 rfl) ?_
  refine wr_g1i (pre := mW G A th (nI z) (nI ln) dg f sl ik sv sg pl) (mid := oW G oa og ++ cW G xa so b ce a hh sg ln mk cs up fo tn w t lo hi me (nI n) qu gu ri re P F z o0 o1) (vx_runSW (As := [.ref xa, .int (nI t9), .int (nI t9), .ref oa]) (rest := []) ⟨hx, hb, hml, hown, hts⟩ (w_ask_t2 l G _ xa oa _ _ og (nI t9) (nI t9) (t_X6_ask_noc l hfl G xa _ _ t9 ht9)) (vx_cwSW 4 hts gL_law_L_ask rfl rfl rfl (by decide +kernel) ⟨Nat.le_of_ble_eq_true rfl, Nat.le_of_ble_eq_true rfl⟩) (lxS1 (pre := mW G A th (nI z) (nI ln) dg f sl ik sv sg pl) (mid := oW G oa og ++ cW G xa so b ce a hh sg ln mk cs up fo tn w t lo hi me (nI n) qu gu ri re P F z o0 o1) hK hN hX (XZ_at hZ0 hS hA) hP hD) rfl rfl hl.1 rfl (lv_room (Nat.le_of_ble_eq_true rfl)) dL_law_359 ⟨by show 100 + 7 * j + 1 ≤ 601024; omega, by show 2000 + 64 * j + 6 ≤ 7293034; omega⟩) hP hD hS hA (fun r6 u6 H locs hw6 hP9 hD9 hS => ?_)
  have hw6 : r6 = nI 2 := hw6
  subst hw6
  have hP : PP G (mW G A th (nI z) (nI ln) dg f sl ik sv sg pl ++ (oW G oa og ++ cW G xa so b ce a hh sg ln mk cs up fo tn w t lo hi me (nI n) qu gu ri re P F z o0 o1)) _ := hP9
  have hD : va_D Ar (mW G A th (nI z) (nI ln) dg f sl ik sv sg pl ++ (oW G oa og ++ cW G xa so b ce a hh sg ln mk cs up fo tn w t lo hi me (nI n) qu gu ri re P F z o0 o1)) := hD9
  refine lv_istore (lv' := [(5, .int (nI 2)), (0, .ref b9), (1, .ref xa), (2, .ref (A 0)), (3, .ref oa), (4, .int (nI (4 * j)))]) hx hb dL_law_362 hl (by decide) rfl (fun ls hl => ?_)
  refine lv_aload_n hx hb dL_law_364 rfl (lv_at hl 3 rfl) ?_
  refine lv_aload_n hx hb dL_law_365 rfl (lv_at hl 1 rfl) ?_
  refine lv_iload hx hb dL_law_366 (lv_at hl 5 rfl) ?_
  refine lv_iconst (v := nI 1) hx hb dL_law_368 (by decide) ?_
  refine lv_iadd hx hb dL_law_369 ?_
  refine lv_cgi (y := nI ((4 * j) + 1)) (nI_add _ _) ?_
  refine va_sld hx hb hXs hbl hbA hS (vp_in_nI (by omega) (by omega)) dL_law_370 ?_
  refine lv_cgi (y := nI t9) (by rw [nI_clamp (by omega)]; exact hp0) ?_
  refine lv_aload_n hx hb dL_law_371 rfl (lv_at hl 1 rfl) ?_
  refine lv_iload hx hb dL_law_372 (lv_at hl 5 rfl) ?_
  refine lv_iconst (v := nI 2) hx hb dL_law_374 (by decide) ?_
  refine lv_iadd hx hb dL_law_375 ?_
  refine lv_cgi (y := nI ((4 * j) + 2)) (nI_add _ _) ?_
  refine va_sld hx hb hXs hbl hbA hS (vp_in_nI (by omega) (by omega)) dL_law_376 ?_
  refine lv_cgi (y := nI t9) (by rw [nI_clamp (by omega)]; exact hp1) ?_
  refine wr_goi (pre := []) (mid := mW G A th (nI z) (nI ln) dg f sl ik sv sg pl) (suf := oW G oa og ++ cW G xa so b ce a hh sg ln mk cs up fo tn w t lo hi me (nI n) qu gu ri re P F z o0 o1) (va_runV (As := [.int (nI t9), .int (nI t9)]) (rest := []) ⟨hx, hb, hml, hown, hts⟩ (c_X7_ask_no2 l G _ A th (nI ln) dg f sl ik sv sg pl z hz (nI t9) (inB_n (Nat.zero_le _) (by omega) (by decide))) (cwV 2 hts gL_law_X7_ask rfl rfl rfl (by decide +kernel) ⟨Nat.le_of_ble_eq_true rfl, Nat.le_of_ble_eq_true rfl⟩) (wV (pre := []) (mid := mW G A th (nI z) (nI ln) dg f sl ik sv sg pl) (suf := oW G oa og ++ cW G xa so b ce a hh sg ln mk cs up fo tn w t lo hi me (nI n) qu gu ri re P F z o0 o1) (va_recv (ws := mW G A th (nI z) (nI ln) dg f sl ik sv sg pl ++ (oW G oa og ++ cW G xa so b ce a hh sg ln mk cs up fo tn w t lo hi me (nI n) qu gu ri re P F z o0 o1)) hK hP (ci := 6) (q0 := 0) rfl rfl) hK hN hP hD) rfl rfl hl.1 rfl (lv_room (Nat.le_of_ble_eq_true rfl)) dL_law_377 ⟨by show 100 + 7 * j + 1 + 0 ≤ 601024; omega, by show 2000 + 64 * j + 6 + 0 ≤ 7293034; omega⟩) hP hD hS hA (fun r7 u7 H locs hw7 hP9 hD9 hS => ?_)
  have hw7 : r7 = nI 0 := hw7
  subst hw7
  have hP : PP G (mW G A (nI 2) (nI z) (nI ln) dg f sl ik sv sg pl ++ (oW G oa og ++ cW G xa so b ce a hh sg ln mk cs up fo tn w t lo hi me (nI n) qu gu ri re P F z o0 o1)) _ := hP9
  have hD : va_D Ar (mW G A (nI 2) (nI z) (nI ln) dg f sl ik sv sg pl ++ (oW G oa og ++ cW G xa so b ce a hh sg ln mk cs up fo tn w t lo hi me (nI n) qu gu ri re P F z o0 o1)) := hD9
  refine lv_istore (lv' := [(6, .int (nI 0)), (5, .int (nI 2)), (0, .ref b9), (1, .ref xa), (2, .ref (A 0)), (3, .ref oa), (4, .int (nI (4 * j)))]) hx hb dL_law_380 hl (by decide) rfl (fun ls hl => ?_)
  refine lv_aload_n hx hb dL_law_382 rfl (lv_at hl 4 rfl) ?_
  refine rd_go (va_runV (As := []) (rest := []) ⟨hx, hb, hml, hown, hts⟩ (c_X7_thrown l G A (nI 2) (nI z) (nI ln) dg f sl ik sv sg pl) (cwV 0 hts gL_law_X7_thrown rfl rfl rfl (by decide +kernel) ⟨Nat.le_of_ble_eq_true rfl, Nat.le_of_ble_eq_true rfl⟩) (rV (ws := mW G A (nI 2) (nI z) (nI ln) dg f sl ik sv sg pl) (va_recv (ws := mW G A (nI 2) (nI z) (nI ln) dg f sl ik sv sg pl ++ (oW G oa og ++ cW G xa so b ce a hh sg ln mk cs up fo tn w t lo hi me (nI n) qu gu ri re P F z o0 o1)) hK hP (ci := 6) (q0 := 0) rfl rfl) hK hN (P_mid (pre := []) (mid := mW G A (nI 2) (nI z) (nI ln) dg f sl ik sv sg pl) (suf := oW G oa og ++ cW G xa so b ce a hh sg ln mk cs up fo tn w t lo hi me (nI n) qu gu ri re P F z o0 o1) hP)) rfl rfl hl.1 rfl (lv_room (Nat.le_of_ble_eq_true rfl)) dL_law_383 ⟨by show 100 + 7 * j + 1 + 0 + 0 ≤ 601024; omega, by show 2000 + 64 * j + 6 + 0 + 0 ≤ 7293034; omega⟩) ?_
  refine lv_iload hx hb dL_law_386 (lv_at hl 1 rfl) ?_
  refine lv_icmp_eq (tgt := 393) hx hb dL_law_388 (by decide) (fun c_388 => ?_) (fun c_388 => by exact absurd c_388 (by decide))
  refine lv_iload hx hb dL_law_393 (lv_at hl 1 rfl) ?_
  refine lv_if_ne (tgt := 410) hx hb dL_law_395 (by decide) (fun c_395 => ?_) (fun c_395 => by exact absurd c_395 (by decide))
  refine lv_goto (tgt := 1297) hx hb dL_law_410 (by decide) ?_
  refine lv_iinc (v := nI (4 * (j + 1))) (lv' := [(4, .int (nI (4 * (j + 1)))), (6, .int (nI 0)), (5, .int (nI 2)), (0, .ref b9), (1, .ref xa), (2, .ref (A 0)), (3, .ref oa)]) hx hb dL_law_1297 hl (k := 6) rfl (iinc4 (4 * j)) (by decide) rfl (fun ls hl => ?_)
  refine lv_goto (tgt := 23) hx hb dL_law_1300 (by decide) ?_
  refine W.widen (k := 100 + 7 * (j + 1)) (n := 2000 + 64 * (j + 1)) (by omega) (by omega) ?_
  exact hHd _ _ _ ⟨og, sg, ln, mk, cs, up, fo, tn, w, t, lo, hi, me, nI n, qu, gu, ri, re, P, F, z, o0, o1, nI 2, dg, f, sl, ik, sv, pl, rfl, hln, hz, (RG_mono (Nat.le_succ _) (RG_of hRS)), (cen_of hn hcv), (HI_mono (Nat.le_succ _) hHI), (SLr_mono (Nat.le_succ _) hs0), (SLr_mono (Nat.le_succ _) hs1)⟩ hP hD hS ls (lv_sub hl [3, 4, 5, 6, 0] rfl)

set_option maxHeartbeats 8000000 in
set_option maxRecDepth 100000 in
theorem L_ifTouching_noa {p : Program} {l : Launch} {e : Env} {s : State} {m : MethodId} {args : Array Value} {below : List Frame} {meth : Method} {cd : Code} {Q : State → Prop} {G : GG} {Ar : Nat → Prop} {b9 L : Nat} {xs : Nat → Int32} {xa so oa : Nat} {b ce a hh A : Nat → Nat} (hE : LE9 p l s m args cd G Ar b9 L xs) {j : Nat} (hj : 4 * j + 4 ≤ L) (hL : L ≤ 2048) (hHd : LH p l e s m args below meth cd Q G Ar b9 xa so oa b ce a hh A (j + 1))
    (og : Nat → Int64) (sg : Nat → Int32) (ln : Nat) (hln : ln ≤ 60) (mk : Nat → Int32) (cs up fo tn : Int32) (w t lo hi me : Nat → Int32) (n : Nat) (qu gu ri re : Int32) (P : Nat → Nat → Nat) (F : Nat → Nat → Nat → Int32) (z : Nat) (hz : z ≤ 6) (o0 : SLO) (o1 : SLO) (th : Int32) (dg : Int64) (f sl ik sv pl : Nat → Int32) (x y : Int32) (hx0 : ¬ inB x (nI 0) (nI 5))
    (hRS : RS j fo tn w t lo hi me n qu gu ri re f) (hcv : cenV (qS tn lo hi me n) mk cs up) (hHI : HI j z F sv) (hs0 : SLr j o0 (ik 0) sl) (hs1 : SLr j o1 (ik 1) (fun j => sl (58 + j))) (hp0 : xs (4 * j + 1) = x) (hp1 : xs (4 * j + 2) = y)
    {H : Heap} {locs : List Loc} (hP : PP G (mW G A th (nI z) (nI ln) dg f sl ik sv sg pl ++ (oW G oa og ++ cW G xa so b ce a hh sg ln mk cs up fo tn w t lo hi me (nI n) qu gu ri re P F z o0 o1)) H) (hD : va_D Ar (mW G A th (nI z) (nI ln) dg f sl ik sv sg pl ++ (oW G oa og ++ cW G xa so b ce a hh sg ln mk cs up fo tn w t lo hi me (nI n) qu gu ri re P F z o0 o1))) (hS : va_S Ar s.heap H locs) {ls : Array Slot} (hl : lv_has ls 9 [(0, .ref b9), (1, .ref xa), (2, .ref (A 0)), (3, .ref oa), (4, .int (nI (4 * j)))]) : W p l e room_1 s m args below meth cd H locs (100 + 7 * j) (2000 + 64 * j) Q (F0 m 1092 ls []) := by
  obtain ⟨hx, hb, hml, hown, hts, hfl, ⟨hK, hN, hX, hZ0⟩, hA, hXs, hbl, hbA⟩ := id hE
  have hn : n ≤ 12 := hRS.1.1
  have hn17 : f 17 = nI n := hRS.2.1.2.2.1
  have hT : okP t := hRS.2.2.1.2.1
  have hvL : okL lo hi := hRS.2.2.1.2.2.1
  have hvA : okA f := hRS.2.2.1.2.2.2
  have htF : okT f := fun i hi => by rw [hRS.2.1.2.2.2.2 i hi]; exact hT i hi
  refine lv_aload_n hx hb dL_law_1092 rfl (lv_at hl 1 rfl) ?_
  refine lv_aload_n hx hb dL_law_1093 rfl (lv_at hl 0 rfl) ?_
  refine lv_iload hx hb dL_law_1094 (lv_at hl 4 rfl) ?_
  refine lv_iconst (v := nI 1) hx hb dL_law_1096 (by decide) ?_
  refine lv_iadd hx hb dL_law_1097 ?_
  refine lv_cgi (y := nI ((4 * j) + 1)) (nI_add _ _) ?_
  refine va_sld hx hb hXs hbl hbA hS (vp_in_nI (by omega) (by omega)) dL_law_1098 ?_
  refine lv_cgi (y := x) (by rw [nI_clamp (by omega)]; exact hp0) ?_
  refine lv_aload_n hx hb dL_law_1099 rfl (lv_at hl 0 rfl) ?_
  refine lv_iload hx hb dL_law_1100 (lv_at hl 4 rfl) ?_
  refine lv_iconst (v := nI 2) hx hb dL_law_1102 (by decide) ?_
  refine lv_iadd hx hb dL_law_1103 ?_
  refine lv_cgi (y := nI ((4 * j) + 2)) (nI_add _ _) ?_
  refine va_sld hx hb hXs hbl hbA hS (vp_in_nI (by omega) (by omega)) dL_law_1104 ?_
  refine lv_cgi (y := y) (by rw [nI_clamp (by omega)]; exact hp1) ?_
  refine lv_aload_n hx hb dL_law_1105 rfl (lv_at hl 3 rfl) ?_
  refine wr_g1i (pre := mW G A th (nI z) (nI ln) dg f sl ik sv sg pl) (mid := oW G oa og ++ cW G xa so b ce a hh sg ln mk cs up fo tn w t lo hi me (nI n) qu gu ri re P F z o0 o1) (vx_runSW (As := [.ref xa, .int x, .int y, .ref oa]) (rest := []) ⟨hx, hb, hml, hown, hts⟩ (w_ifTouching_t1 l G _ xa oa _ _ og x y (t_X6_ifTouching_noa l hfl G xa _ _ x y hx0)) (vx_cwSW 4 hts gL_law_L_ifTouching rfl rfl rfl (by decide +kernel) ⟨Nat.le_of_ble_eq_true rfl, Nat.le_of_ble_eq_true rfl⟩) (lxS1 (pre := mW G A th (nI z) (nI ln) dg f sl ik sv sg pl) (mid := oW G oa og ++ cW G xa so b ce a hh sg ln mk cs up fo tn w t lo hi me (nI n) qu gu ri re P F z o0 o1) hK hN hX (XZ_at hZ0 hS hA) hP hD) rfl rfl hl.1 rfl (lv_room (Nat.le_of_ble_eq_true rfl)) dL_law_1106 ⟨by show 100 + 7 * j + 1 ≤ 601024; omega, by show 2000 + 64 * j + 6 ≤ 7293034; omega⟩) hP hD hS hA (fun r6 u6 H locs hw6 hP9 hD9 hS => ?_)
  have hw6 : r6 = nI 1 := hw6
  subst hw6
  have hP : PP G (mW G A th (nI z) (nI ln) dg f sl ik sv sg pl ++ (oW G oa og ++ cW G xa so b ce a hh sg ln mk cs up fo tn w t lo hi me (nI n) qu gu ri re P F z o0 o1)) _ := hP9
  have hD : va_D Ar (mW G A th (nI z) (nI ln) dg f sl ik sv sg pl ++ (oW G oa og ++ cW G xa so b ce a hh sg ln mk cs up fo tn w t lo hi me (nI n) qu gu ri re P F z o0 o1)) := hD9
  refine lv_istore (lv' := [(5, .int (nI 1)), (0, .ref b9), (1, .ref xa), (2, .ref (A 0)), (3, .ref oa), (4, .int (nI (4 * j)))]) hx hb dL_law_1109 hl (by decide) rfl (fun ls hl => ?_)
  refine lv_aload_n hx hb dL_law_1111 rfl (lv_at hl 3 rfl) ?_
  refine lv_aload_n hx hb dL_law_1112 rfl (lv_at hl 1 rfl) ?_
  refine lv_iload hx hb dL_law_1113 (lv_at hl 5 rfl) ?_
  refine lv_iconst (v := nI 1) hx hb dL_law_1115 (by decide) ?_
  refine lv_iadd hx hb dL_law_1116 ?_
  refine lv_cgi (y := nI ((4 * j) + 1)) (nI_add _ _) ?_
  refine va_sld hx hb hXs hbl hbA hS (vp_in_nI (by omega) (by omega)) dL_law_1117 ?_
  refine lv_cgi (y := x) (by rw [nI_clamp (by omega)]; exact hp0) ?_
  refine lv_aload_n hx hb dL_law_1118 rfl (lv_at hl 1 rfl) ?_
  refine lv_iload hx hb dL_law_1119 (lv_at hl 5 rfl) ?_
  refine lv_iconst (v := nI 2) hx hb dL_law_1121 (by decide) ?_
  refine lv_iadd hx hb dL_law_1122 ?_
  refine lv_cgi (y := nI ((4 * j) + 2)) (nI_add _ _) ?_
  refine va_sld hx hb hXs hbl hbA hS (vp_in_nI (by omega) (by omega)) dL_law_1123 ?_
  refine lv_cgi (y := y) (by rw [nI_clamp (by omega)]; exact hp1) ?_
  refine wr_goi (pre := []) (mid := mW G A th (nI z) (nI ln) dg f sl ik sv sg pl) (suf := oW G oa og ++ cW G xa so b ce a hh sg ln mk cs up fo tn w t lo hi me (nI n) qu gu ri re P F z o0 o1) (va_runV (As := [.int x, .int y]) (rest := []) ⟨hx, hb, hml, hown, hts⟩ (c_X7_ifTouching_no1 l G _ A th (nI z) (nI ln) dg f sl ik sv sg pl x y (fun h => hx0 h.1)) (cwV 2 hts gL_law_X7_ifTouching rfl rfl rfl (by decide +kernel) ⟨Nat.le_of_ble_eq_true rfl, Nat.le_of_ble_eq_true rfl⟩) (wV (pre := []) (mid := mW G A th (nI z) (nI ln) dg f sl ik sv sg pl) (suf := oW G oa og ++ cW G xa so b ce a hh sg ln mk cs up fo tn w t lo hi me (nI n) qu gu ri re P F z o0 o1) (va_recv (ws := mW G A th (nI z) (nI ln) dg f sl ik sv sg pl ++ (oW G oa og ++ cW G xa so b ce a hh sg ln mk cs up fo tn w t lo hi me (nI n) qu gu ri re P F z o0 o1)) hK hP (ci := 6) (q0 := 0) rfl rfl) hK hN hP hD) rfl rfl hl.1 rfl (lv_room (Nat.le_of_ble_eq_true rfl)) dL_law_1124 ⟨by show 100 + 7 * j + 1 + 0 ≤ 601024; omega, by show 2000 + 64 * j + 6 + 0 ≤ 7293034; omega⟩) hP hD hS hA (fun r7 u7 H locs hw7 hP9 hD9 hS => ?_)
  have hw7 : r7 = nI 0 := hw7
  subst hw7
  have hP : PP G (mW G A (nI 1) (nI z) (nI ln) dg f sl ik sv sg pl ++ (oW G oa og ++ cW G xa so b ce a hh sg ln mk cs up fo tn w t lo hi me (nI n) qu gu ri re P F z o0 o1)) _ := hP9
  have hD : va_D Ar (mW G A (nI 1) (nI z) (nI ln) dg f sl ik sv sg pl ++ (oW G oa og ++ cW G xa so b ce a hh sg ln mk cs up fo tn w t lo hi me (nI n) qu gu ri re P F z o0 o1)) := hD9
  refine lv_istore (lv' := [(6, .int (nI 0)), (5, .int (nI 1)), (0, .ref b9), (1, .ref xa), (2, .ref (A 0)), (3, .ref oa), (4, .int (nI (4 * j)))]) hx hb dL_law_1127 hl (by decide) rfl (fun ls hl => ?_)
  refine lv_aload_n hx hb dL_law_1129 rfl (lv_at hl 4 rfl) ?_
  refine rd_go (va_runV (As := []) (rest := []) ⟨hx, hb, hml, hown, hts⟩ (c_X7_thrown l G A (nI 1) (nI z) (nI ln) dg f sl ik sv sg pl) (cwV 0 hts gL_law_X7_thrown rfl rfl rfl (by decide +kernel) ⟨Nat.le_of_ble_eq_true rfl, Nat.le_of_ble_eq_true rfl⟩) (rV (ws := mW G A (nI 1) (nI z) (nI ln) dg f sl ik sv sg pl) (va_recv (ws := mW G A (nI 1) (nI z) (nI ln) dg f sl ik sv sg pl ++ (oW G oa og ++ cW G xa so b ce a hh sg ln mk cs up fo tn w t lo hi me (nI n) qu gu ri re P F z o0 o1)) hK hP (ci := 6) (q0 := 0) rfl rfl) hK hN (P_mid (pre := []) (mid := mW G A (nI 1) (nI z) (nI ln) dg f sl ik sv sg pl) (suf := oW G oa og ++ cW G xa so b ce a hh sg ln mk cs up fo tn w t lo hi me (nI n) qu gu ri re P F z o0 o1) hP)) rfl rfl hl.1 rfl (lv_room (Nat.le_of_ble_eq_true rfl)) dL_law_1130 ⟨by show 100 + 7 * j + 1 + 0 + 0 ≤ 601024; omega, by show 2000 + 64 * j + 6 + 0 + 0 ≤ 7293034; omega⟩) ?_
  refine lv_iload hx hb dL_law_1133 (lv_at hl 1 rfl) ?_
  refine lv_icmp_eq (tgt := 1140) hx hb dL_law_1135 (by decide) (fun c_1135 => ?_) (fun c_1135 => by exact absurd c_1135 (by decide))
  refine lv_iload hx hb dL_law_1140 (lv_at hl 1 rfl) ?_
  refine lv_if_ne (tgt := 1157) hx hb dL_law_1142 (by decide) (fun c_1142 => ?_) (fun c_1142 => by exact absurd c_1142 (by decide))
  refine lv_goto (tgt := 1297) hx hb dL_law_1157 (by decide) ?_
  refine lv_iinc (v := nI (4 * (j + 1))) (lv' := [(4, .int (nI (4 * (j + 1)))), (6, .int (nI 0)), (5, .int (nI 1)), (0, .ref b9), (1, .ref xa), (2, .ref (A 0)), (3, .ref oa)]) hx hb dL_law_1297 hl (k := 6) rfl (iinc4 (4 * j)) (by decide) rfl (fun ls hl => ?_)
  refine lv_goto (tgt := 23) hx hb dL_law_1300 (by decide) ?_
  refine W.widen (k := 100 + 7 * (j + 1)) (n := 2000 + 64 * (j + 1)) (by omega) (by omega) ?_
  exact hHd _ _ _ ⟨og, sg, ln, mk, cs, up, fo, tn, w, t, lo, hi, me, nI n, qu, gu, ri, re, P, F, z, o0, o1, nI 1, dg, f, sl, ik, sv, pl, rfl, hln, hz, (RG_mono (Nat.le_succ _) (RG_of hRS)), (cen_of hn hcv), (HI_mono (Nat.le_succ _) hHI), (SLr_mono (Nat.le_succ _) hs0), (SLr_mono (Nat.le_succ _) hs1)⟩ hP hD hS ls (lv_sub hl [3, 4, 5, 6, 0] rfl)

set_option maxHeartbeats 8000000 in
set_option maxRecDepth 100000 in
theorem L_ifTouching_nob {p : Program} {l : Launch} {e : Env} {s : State} {m : MethodId} {args : Array Value} {below : List Frame} {meth : Method} {cd : Code} {Q : State → Prop} {G : GG} {Ar : Nat → Prop} {b9 L : Nat} {xs : Nat → Int32} {xa so oa : Nat} {b ce a hh A : Nat → Nat} (hE : LE9 p l s m args cd G Ar b9 L xs) {j : Nat} (hj : 4 * j + 4 ≤ L) (hL : L ≤ 2048) (hHd : LH p l e s m args below meth cd Q G Ar b9 xa so oa b ce a hh A (j + 1))
    (og : Nat → Int64) (sg : Nat → Int32) (ln : Nat) (hln : ln ≤ 60) (mk : Nat → Int32) (cs up fo tn : Int32) (w t lo hi me : Nat → Int32) (n : Nat) (qu gu ri re : Int32) (P : Nat → Nat → Nat) (F : Nat → Nat → Nat → Int32) (z : Nat) (hz : z ≤ 6) (o0 : SLO) (o1 : SLO) (th : Int32) (dg : Int64) (f sl ik sv pl : Nat → Int32) (t9 : Nat) (ht9 : t9 < 6) (y : Int32) (hx0 : ¬ inB y (nI 0) (nI 5))
    (hRS : RS j fo tn w t lo hi me n qu gu ri re f) (hcv : cenV (qS tn lo hi me n) mk cs up) (hHI : HI j z F sv) (hs0 : SLr j o0 (ik 0) sl) (hs1 : SLr j o1 (ik 1) (fun j => sl (58 + j))) (hp0 : xs (4 * j + 1) = nI t9) (hp1 : xs (4 * j + 2) = y)
    {H : Heap} {locs : List Loc} (hP : PP G (mW G A th (nI z) (nI ln) dg f sl ik sv sg pl ++ (oW G oa og ++ cW G xa so b ce a hh sg ln mk cs up fo tn w t lo hi me (nI n) qu gu ri re P F z o0 o1)) H) (hD : va_D Ar (mW G A th (nI z) (nI ln) dg f sl ik sv sg pl ++ (oW G oa og ++ cW G xa so b ce a hh sg ln mk cs up fo tn w t lo hi me (nI n) qu gu ri re P F z o0 o1))) (hS : va_S Ar s.heap H locs) {ls : Array Slot} (hl : lv_has ls 9 [(0, .ref b9), (1, .ref xa), (2, .ref (A 0)), (3, .ref oa), (4, .int (nI (4 * j)))]) : W p l e room_1 s m args below meth cd H locs (100 + 7 * j) (2000 + 64 * j) Q (F0 m 1092 ls []) := by
  obtain ⟨hx, hb, hml, hown, hts, hfl, ⟨hK, hN, hX, hZ0⟩, hA, hXs, hbl, hbA⟩ := id hE
  have hn : n ≤ 12 := hRS.1.1
  have hn17 : f 17 = nI n := hRS.2.1.2.2.1
  have hT : okP t := hRS.2.2.1.2.1
  have hvL : okL lo hi := hRS.2.2.1.2.2.1
  have hvA : okA f := hRS.2.2.1.2.2.2
  have htF : okT f := fun i hi => by rw [hRS.2.1.2.2.2.2 i hi]; exact hT i hi
  refine lv_aload_n hx hb dL_law_1092 rfl (lv_at hl 1 rfl) ?_
  refine lv_aload_n hx hb dL_law_1093 rfl (lv_at hl 0 rfl) ?_
  refine lv_iload hx hb dL_law_1094 (lv_at hl 4 rfl) ?_
  refine lv_iconst (v := nI 1) hx hb dL_law_1096 (by decide) ?_
  refine lv_iadd hx hb dL_law_1097 ?_
  refine lv_cgi (y := nI ((4 * j) + 1)) (nI_add _ _) ?_
  refine va_sld hx hb hXs hbl hbA hS (vp_in_nI (by omega) (by omega)) dL_law_1098 ?_
  refine lv_cgi (y := nI t9) (by rw [nI_clamp (by omega)]; exact hp0) ?_
  refine lv_aload_n hx hb dL_law_1099 rfl (lv_at hl 0 rfl) ?_
  refine lv_iload hx hb dL_law_1100 (lv_at hl 4 rfl) ?_
  refine lv_iconst (v := nI 2) hx hb dL_law_1102 (by decide) ?_
  refine lv_iadd hx hb dL_law_1103 ?_
  refine lv_cgi (y := nI ((4 * j) + 2)) (nI_add _ _) ?_
  refine va_sld hx hb hXs hbl hbA hS (vp_in_nI (by omega) (by omega)) dL_law_1104 ?_
  refine lv_cgi (y := y) (by rw [nI_clamp (by omega)]; exact hp1) ?_
  refine lv_aload_n hx hb dL_law_1105 rfl (lv_at hl 3 rfl) ?_
  refine wr_g1i (pre := mW G A th (nI z) (nI ln) dg f sl ik sv sg pl) (mid := oW G oa og ++ cW G xa so b ce a hh sg ln mk cs up fo tn w t lo hi me (nI n) qu gu ri re P F z o0 o1) (vx_runSW (As := [.ref xa, .int (nI t9), .int y, .ref oa]) (rest := []) ⟨hx, hb, hml, hown, hts⟩ (w_ifTouching_t1 l G _ xa oa _ _ og (nI t9) y (t_X6_ifTouching_nob l hfl G xa _ _ t9 ht9 y hx0)) (vx_cwSW 4 hts gL_law_L_ifTouching rfl rfl rfl (by decide +kernel) ⟨Nat.le_of_ble_eq_true rfl, Nat.le_of_ble_eq_true rfl⟩) (lxS1 (pre := mW G A th (nI z) (nI ln) dg f sl ik sv sg pl) (mid := oW G oa og ++ cW G xa so b ce a hh sg ln mk cs up fo tn w t lo hi me (nI n) qu gu ri re P F z o0 o1) hK hN hX (XZ_at hZ0 hS hA) hP hD) rfl rfl hl.1 rfl (lv_room (Nat.le_of_ble_eq_true rfl)) dL_law_1106 ⟨by show 100 + 7 * j + 1 ≤ 601024; omega, by show 2000 + 64 * j + 6 ≤ 7293034; omega⟩) hP hD hS hA (fun r6 u6 H locs hw6 hP9 hD9 hS => ?_)
  have hw6 : r6 = nI 1 := hw6
  subst hw6
  have hP : PP G (mW G A th (nI z) (nI ln) dg f sl ik sv sg pl ++ (oW G oa og ++ cW G xa so b ce a hh sg ln mk cs up fo tn w t lo hi me (nI n) qu gu ri re P F z o0 o1)) _ := hP9
  have hD : va_D Ar (mW G A th (nI z) (nI ln) dg f sl ik sv sg pl ++ (oW G oa og ++ cW G xa so b ce a hh sg ln mk cs up fo tn w t lo hi me (nI n) qu gu ri re P F z o0 o1)) := hD9
  refine lv_istore (lv' := [(5, .int (nI 1)), (0, .ref b9), (1, .ref xa), (2, .ref (A 0)), (3, .ref oa), (4, .int (nI (4 * j)))]) hx hb dL_law_1109 hl (by decide) rfl (fun ls hl => ?_)
  refine lv_aload_n hx hb dL_law_1111 rfl (lv_at hl 3 rfl) ?_
  refine lv_aload_n hx hb dL_law_1112 rfl (lv_at hl 1 rfl) ?_
  refine lv_iload hx hb dL_law_1113 (lv_at hl 5 rfl) ?_
  refine lv_iconst (v := nI 1) hx hb dL_law_1115 (by decide) ?_
  refine lv_iadd hx hb dL_law_1116 ?_
  refine lv_cgi (y := nI ((4 * j) + 1)) (nI_add _ _) ?_
  refine va_sld hx hb hXs hbl hbA hS (vp_in_nI (by omega) (by omega)) dL_law_1117 ?_
  refine lv_cgi (y := nI t9) (by rw [nI_clamp (by omega)]; exact hp0) ?_
  refine lv_aload_n hx hb dL_law_1118 rfl (lv_at hl 1 rfl) ?_
  refine lv_iload hx hb dL_law_1119 (lv_at hl 5 rfl) ?_
  refine lv_iconst (v := nI 2) hx hb dL_law_1121 (by decide) ?_
  refine lv_iadd hx hb dL_law_1122 ?_
  refine lv_cgi (y := nI ((4 * j) + 2)) (nI_add _ _) ?_
  refine va_sld hx hb hXs hbl hbA hS (vp_in_nI (by omega) (by omega)) dL_law_1123 ?_
  refine lv_cgi (y := y) (by rw [nI_clamp (by omega)]; exact hp1) ?_
  refine wr_goi (pre := []) (mid := mW G A th (nI z) (nI ln) dg f sl ik sv sg pl) (suf := oW G oa og ++ cW G xa so b ce a hh sg ln mk cs up fo tn w t lo hi me (nI n) qu gu ri re P F z o0 o1) (va_runV (As := [.int (nI t9), .int y]) (rest := []) ⟨hx, hb, hml, hown, hts⟩ (c_X7_ifTouching_no1 l G _ A th (nI z) (nI ln) dg f sl ik sv sg pl (nI t9) y (fun h => hx0 h.2)) (cwV 2 hts gL_law_X7_ifTouching rfl rfl rfl (by decide +kernel) ⟨Nat.le_of_ble_eq_true rfl, Nat.le_of_ble_eq_true rfl⟩) (wV (pre := []) (mid := mW G A th (nI z) (nI ln) dg f sl ik sv sg pl) (suf := oW G oa og ++ cW G xa so b ce a hh sg ln mk cs up fo tn w t lo hi me (nI n) qu gu ri re P F z o0 o1) (va_recv (ws := mW G A th (nI z) (nI ln) dg f sl ik sv sg pl ++ (oW G oa og ++ cW G xa so b ce a hh sg ln mk cs up fo tn w t lo hi me (nI n) qu gu ri re P F z o0 o1)) hK hP (ci := 6) (q0 := 0) rfl rfl) hK hN hP hD) rfl rfl hl.1 rfl (lv_room (Nat.le_of_ble_eq_true rfl)) dL_law_1124 ⟨by show 100 + 7 * j + 1 + 0 ≤ 601024; omega, by show 2000 + 64 * j + 6 + 0 ≤ 7293034; omega⟩) hP hD hS hA (fun r7 u7 H locs hw7 hP9 hD9 hS => ?_)
  have hw7 : r7 = nI 0 := hw7
  subst hw7
  have hP : PP G (mW G A (nI 1) (nI z) (nI ln) dg f sl ik sv sg pl ++ (oW G oa og ++ cW G xa so b ce a hh sg ln mk cs up fo tn w t lo hi me (nI n) qu gu ri re P F z o0 o1)) _ := hP9
  have hD : va_D Ar (mW G A (nI 1) (nI z) (nI ln) dg f sl ik sv sg pl ++ (oW G oa og ++ cW G xa so b ce a hh sg ln mk cs up fo tn w t lo hi me (nI n) qu gu ri re P F z o0 o1)) := hD9
  refine lv_istore (lv' := [(6, .int (nI 0)), (5, .int (nI 1)), (0, .ref b9), (1, .ref xa), (2, .ref (A 0)), (3, .ref oa), (4, .int (nI (4 * j)))]) hx hb dL_law_1127 hl (by decide) rfl (fun ls hl => ?_)
  refine lv_aload_n hx hb dL_law_1129 rfl (lv_at hl 4 rfl) ?_
  refine rd_go (va_runV (As := []) (rest := []) ⟨hx, hb, hml, hown, hts⟩ (c_X7_thrown l G A (nI 1) (nI z) (nI ln) dg f sl ik sv sg pl) (cwV 0 hts gL_law_X7_thrown rfl rfl rfl (by decide +kernel) ⟨Nat.le_of_ble_eq_true rfl, Nat.le_of_ble_eq_true rfl⟩) (rV (ws := mW G A (nI 1) (nI z) (nI ln) dg f sl ik sv sg pl) (va_recv (ws := mW G A (nI 1) (nI z) (nI ln) dg f sl ik sv sg pl ++ (oW G oa og ++ cW G xa so b ce a hh sg ln mk cs up fo tn w t lo hi me (nI n) qu gu ri re P F z o0 o1)) hK hP (ci := 6) (q0 := 0) rfl rfl) hK hN (P_mid (pre := []) (mid := mW G A (nI 1) (nI z) (nI ln) dg f sl ik sv sg pl) (suf := oW G oa og ++ cW G xa so b ce a hh sg ln mk cs up fo tn w t lo hi me (nI n) qu gu ri re P F z o0 o1) hP)) rfl rfl hl.1 rfl (lv_room (Nat.le_of_ble_eq_true rfl)) dL_law_1130 ⟨by show 100 + 7 * j + 1 + 0 + 0 ≤ 601024; omega, by show 2000 + 64 * j + 6 + 0 + 0 ≤ 7293034; omega⟩) ?_
  refine lv_iload hx hb dL_law_1133 (lv_at hl 1 rfl) ?_
  refine lv_icmp_eq (tgt := 1140) hx hb dL_law_1135 (by decide) (fun c_1135 => ?_) (fun c_1135 => by exact absurd c_1135 (by decide))
  refine lv_iload hx hb dL_law_1140 (lv_at hl 1 rfl) ?_
  refine lv_if_ne (tgt := 1157) hx hb dL_law_1142 (by decide) (fun c_1142 => ?_) (fun c_1142 => by exact absurd c_1142 (by decide))
  refine lv_goto (tgt := 1297) hx hb dL_law_1157 (by decide) ?_
  refine lv_iinc (v := nI (4 * (j + 1))) (lv' := [(4, .int (nI (4 * (j + 1)))), (6, .int (nI 0)), (5, .int (nI 1)), (0, .ref b9), (1, .ref xa), (2, .ref (A 0)), (3, .ref oa)]) hx hb dL_law_1297 hl (k := 6) rfl (iinc4 (4 * j)) (by decide) rfl (fun ls hl => ?_)
  refine lv_goto (tgt := 23) hx hb dL_law_1300 (by decide) ?_
  refine W.widen (k := 100 + 7 * (j + 1)) (n := 2000 + 64 * (j + 1)) (by omega) (by omega) ?_
  exact hHd _ _ _ ⟨og, sg, ln, mk, cs, up, fo, tn, w, t, lo, hi, me, nI n, qu, gu, ri, re, P, F, z, o0, o1, nI 1, dg, f, sl, ik, sv, pl, rfl, hln, hz, (RG_mono (Nat.le_succ _) (RG_of hRS)), (cen_of hn hcv), (HI_mono (Nat.le_succ _) hHI), (SLr_mono (Nat.le_succ _) hs0), (SLr_mono (Nat.le_succ _) hs1)⟩ hP hD hS ls (lv_sub hl [3, 4, 5, 6, 0] rfl)

set_option maxHeartbeats 8000000 in
set_option maxRecDepth 100000 in
theorem L_ifTouching_noc {p : Program} {l : Launch} {e : Env} {s : State} {m : MethodId} {args : Array Value} {below : List Frame} {meth : Method} {cd : Code} {Q : State → Prop} {G : GG} {Ar : Nat → Prop} {b9 L : Nat} {xs : Nat → Int32} {xa so oa : Nat} {b ce a hh A : Nat → Nat} (hE : LE9 p l s m args cd G Ar b9 L xs) {j : Nat} (hj : 4 * j + 4 ≤ L) (hL : L ≤ 2048) (hHd : LH p l e s m args below meth cd Q G Ar b9 xa so oa b ce a hh A (j + 1))
    (og : Nat → Int64) (sg : Nat → Int32) (ln : Nat) (hln : ln ≤ 60) (mk : Nat → Int32) (cs up fo tn : Int32) (w t lo hi me : Nat → Int32) (n : Nat) (qu gu ri re : Int32) (P : Nat → Nat → Nat) (F : Nat → Nat → Nat → Int32) (z : Nat) (hz : z ≤ 6) (o0 : SLO) (o1 : SLO) (th : Int32) (dg : Int64) (f sl ik sv pl : Nat → Int32) (t9 : Nat) (ht9 : t9 < 6)
    (hRS : RS j fo tn w t lo hi me n qu gu ri re f) (hcv : cenV (qS tn lo hi me n) mk cs up) (hHI : HI j z F sv) (hs0 : SLr j o0 (ik 0) sl) (hs1 : SLr j o1 (ik 1) (fun j => sl (58 + j))) (hp0 : xs (4 * j + 1) = nI t9) (hp1 : xs (4 * j + 2) = nI t9)
    {H : Heap} {locs : List Loc} (hP : PP G (mW G A th (nI z) (nI ln) dg f sl ik sv sg pl ++ (oW G oa og ++ cW G xa so b ce a hh sg ln mk cs up fo tn w t lo hi me (nI n) qu gu ri re P F z o0 o1)) H) (hD : va_D Ar (mW G A th (nI z) (nI ln) dg f sl ik sv sg pl ++ (oW G oa og ++ cW G xa so b ce a hh sg ln mk cs up fo tn w t lo hi me (nI n) qu gu ri re P F z o0 o1))) (hS : va_S Ar s.heap H locs) {ls : Array Slot} (hl : lv_has ls 9 [(0, .ref b9), (1, .ref xa), (2, .ref (A 0)), (3, .ref oa), (4, .int (nI (4 * j)))]) : W p l e room_1 s m args below meth cd H locs (100 + 7 * j) (2000 + 64 * j) Q (F0 m 1092 ls []) := by
  obtain ⟨hx, hb, hml, hown, hts, hfl, ⟨hK, hN, hX, hZ0⟩, hA, hXs, hbl, hbA⟩ := id hE
  have hn : n ≤ 12 := hRS.1.1
  have hn17 : f 17 = nI n := hRS.2.1.2.2.1
  have hT : okP t := hRS.2.2.1.2.1
  have hvL : okL lo hi := hRS.2.2.1.2.2.1
  have hvA : okA f := hRS.2.2.1.2.2.2
  have htF : okT f := fun i hi => by rw [hRS.2.1.2.2.2.2 i hi]; exact hT i hi
  refine lv_aload_n hx hb dL_law_1092 rfl (lv_at hl 1 rfl) ?_
  refine lv_aload_n hx hb dL_law_1093 rfl (lv_at hl 0 rfl) ?_
  refine lv_iload hx hb dL_law_1094 (lv_at hl 4 rfl) ?_
  refine lv_iconst (v := nI 1) hx hb dL_law_1096 (by decide) ?_
  refine lv_iadd hx hb dL_law_1097 ?_
  refine lv_cgi (y := nI ((4 * j) + 1)) (nI_add _ _) ?_
  refine va_sld hx hb hXs hbl hbA hS (vp_in_nI (by omega) (by omega)) dL_law_1098 ?_
  refine lv_cgi (y := nI t9) (by rw [nI_clamp (by omega)]; exact hp0) ?_
  refine lv_aload_n hx hb dL_law_1099 rfl (lv_at hl 0 rfl) ?_
  refine lv_iload hx hb dL_law_1100 (lv_at hl 4 rfl) ?_
  refine lv_iconst (v := nI 2) hx hb dL_law_1102 (by decide) ?_
  refine lv_iadd hx hb dL_law_1103 ?_
  refine lv_cgi (y := nI ((4 * j) + 2)) (nI_add _ _) ?_
  refine va_sld hx hb hXs hbl hbA hS (vp_in_nI (by omega) (by omega)) dL_law_1104 ?_
  refine lv_cgi (y := nI t9) (by rw [nI_clamp (by omega)]; exact hp1) ?_
  refine lv_aload_n hx hb dL_law_1105 rfl (lv_at hl 3 rfl) ?_
  refine wr_g1i (pre := mW G A th (nI z) (nI ln) dg f sl ik sv sg pl) (mid := oW G oa og ++ cW G xa so b ce a hh sg ln mk cs up fo tn w t lo hi me (nI n) qu gu ri re P F z o0 o1) (vx_runSW (As := [.ref xa, .int (nI t9), .int (nI t9), .ref oa]) (rest := []) ⟨hx, hb, hml, hown, hts⟩ (w_ifTouching_t2 l G _ xa oa _ _ og (nI t9) (nI t9) (t_X6_ifTouching_noc l hfl G xa _ _ t9 ht9)) (vx_cwSW 4 hts gL_law_L_ifTouching rfl rfl rfl (by decide +kernel) ⟨Nat.le_of_ble_eq_true rfl, Nat.le_of_ble_eq_true rfl⟩) (lxS1 (pre := mW G A th (nI z) (nI ln) dg f sl ik sv sg pl) (mid := oW G oa og ++ cW G xa so b ce a hh sg ln mk cs up fo tn w t lo hi me (nI n) qu gu ri re P F z o0 o1) hK hN hX (XZ_at hZ0 hS hA) hP hD) rfl rfl hl.1 rfl (lv_room (Nat.le_of_ble_eq_true rfl)) dL_law_1106 ⟨by show 100 + 7 * j + 1 ≤ 601024; omega, by show 2000 + 64 * j + 6 ≤ 7293034; omega⟩) hP hD hS hA (fun r6 u6 H locs hw6 hP9 hD9 hS => ?_)
  have hw6 : r6 = nI 2 := hw6
  subst hw6
  have hP : PP G (mW G A th (nI z) (nI ln) dg f sl ik sv sg pl ++ (oW G oa og ++ cW G xa so b ce a hh sg ln mk cs up fo tn w t lo hi me (nI n) qu gu ri re P F z o0 o1)) _ := hP9
  have hD : va_D Ar (mW G A th (nI z) (nI ln) dg f sl ik sv sg pl ++ (oW G oa og ++ cW G xa so b ce a hh sg ln mk cs up fo tn w t lo hi me (nI n) qu gu ri re P F z o0 o1)) := hD9
  refine lv_istore (lv' := [(5, .int (nI 2)), (0, .ref b9), (1, .ref xa), (2, .ref (A 0)), (3, .ref oa), (4, .int (nI (4 * j)))]) hx hb dL_law_1109 hl (by decide) rfl (fun ls hl => ?_)
  refine lv_aload_n hx hb dL_law_1111 rfl (lv_at hl 3 rfl) ?_
  refine lv_aload_n hx hb dL_law_1112 rfl (lv_at hl 1 rfl) ?_
  refine lv_iload hx hb dL_law_1113 (lv_at hl 5 rfl) ?_
  refine lv_iconst (v := nI 1) hx hb dL_law_1115 (by decide) ?_
  refine lv_iadd hx hb dL_law_1116 ?_
  refine lv_cgi (y := nI ((4 * j) + 1)) (nI_add _ _) ?_
  refine va_sld hx hb hXs hbl hbA hS (vp_in_nI (by omega) (by omega)) dL_law_1117 ?_
  refine lv_cgi (y := nI t9) (by rw [nI_clamp (by omega)]; exact hp0) ?_
  refine lv_aload_n hx hb dL_law_1118 rfl (lv_at hl 1 rfl) ?_
  refine lv_iload hx hb dL_law_1119 (lv_at hl 5 rfl) ?_
  refine lv_iconst (v := nI 2) hx hb dL_law_1121 (by decide) ?_
  refine lv_iadd hx hb dL_law_1122 ?_
  refine lv_cgi (y := nI ((4 * j) + 2)) (nI_add _ _) ?_
  refine va_sld hx hb hXs hbl hbA hS (vp_in_nI (by omega) (by omega)) dL_law_1123 ?_
  refine lv_cgi (y := nI t9) (by rw [nI_clamp (by omega)]; exact hp1) ?_
  refine wr_goi (pre := []) (mid := mW G A th (nI z) (nI ln) dg f sl ik sv sg pl) (suf := oW G oa og ++ cW G xa so b ce a hh sg ln mk cs up fo tn w t lo hi me (nI n) qu gu ri re P F z o0 o1) (va_runV (As := [.int (nI t9), .int (nI t9)]) (rest := []) ⟨hx, hb, hml, hown, hts⟩ (c_X7_ifTouching_no2 l G _ A th (nI z) (nI ln) dg f sl ik sv sg pl (nI t9) (inB_n (Nat.zero_le _) (by omega) (by decide))) (cwV 2 hts gL_law_X7_ifTouching rfl rfl rfl (by decide +kernel) ⟨Nat.le_of_ble_eq_true rfl, Nat.le_of_ble_eq_true rfl⟩) (wV (pre := []) (mid := mW G A th (nI z) (nI ln) dg f sl ik sv sg pl) (suf := oW G oa og ++ cW G xa so b ce a hh sg ln mk cs up fo tn w t lo hi me (nI n) qu gu ri re P F z o0 o1) (va_recv (ws := mW G A th (nI z) (nI ln) dg f sl ik sv sg pl ++ (oW G oa og ++ cW G xa so b ce a hh sg ln mk cs up fo tn w t lo hi me (nI n) qu gu ri re P F z o0 o1)) hK hP (ci := 6) (q0 := 0) rfl rfl) hK hN hP hD) rfl rfl hl.1 rfl (lv_room (Nat.le_of_ble_eq_true rfl)) dL_law_1124 ⟨by show 100 + 7 * j + 1 + 0 ≤ 601024; omega, by show 2000 + 64 * j + 6 + 0 ≤ 7293034; omega⟩) hP hD hS hA (fun r7 u7 H locs hw7 hP9 hD9 hS => ?_)
  have hw7 : r7 = nI 0 := hw7
  subst hw7
  have hP : PP G (mW G A (nI 2) (nI z) (nI ln) dg f sl ik sv sg pl ++ (oW G oa og ++ cW G xa so b ce a hh sg ln mk cs up fo tn w t lo hi me (nI n) qu gu ri re P F z o0 o1)) _ := hP9
  have hD : va_D Ar (mW G A (nI 2) (nI z) (nI ln) dg f sl ik sv sg pl ++ (oW G oa og ++ cW G xa so b ce a hh sg ln mk cs up fo tn w t lo hi me (nI n) qu gu ri re P F z o0 o1)) := hD9
  refine lv_istore (lv' := [(6, .int (nI 0)), (5, .int (nI 2)), (0, .ref b9), (1, .ref xa), (2, .ref (A 0)), (3, .ref oa), (4, .int (nI (4 * j)))]) hx hb dL_law_1127 hl (by decide) rfl (fun ls hl => ?_)
  refine lv_aload_n hx hb dL_law_1129 rfl (lv_at hl 4 rfl) ?_
  refine rd_go (va_runV (As := []) (rest := []) ⟨hx, hb, hml, hown, hts⟩ (c_X7_thrown l G A (nI 2) (nI z) (nI ln) dg f sl ik sv sg pl) (cwV 0 hts gL_law_X7_thrown rfl rfl rfl (by decide +kernel) ⟨Nat.le_of_ble_eq_true rfl, Nat.le_of_ble_eq_true rfl⟩) (rV (ws := mW G A (nI 2) (nI z) (nI ln) dg f sl ik sv sg pl) (va_recv (ws := mW G A (nI 2) (nI z) (nI ln) dg f sl ik sv sg pl ++ (oW G oa og ++ cW G xa so b ce a hh sg ln mk cs up fo tn w t lo hi me (nI n) qu gu ri re P F z o0 o1)) hK hP (ci := 6) (q0 := 0) rfl rfl) hK hN (P_mid (pre := []) (mid := mW G A (nI 2) (nI z) (nI ln) dg f sl ik sv sg pl) (suf := oW G oa og ++ cW G xa so b ce a hh sg ln mk cs up fo tn w t lo hi me (nI n) qu gu ri re P F z o0 o1) hP)) rfl rfl hl.1 rfl (lv_room (Nat.le_of_ble_eq_true rfl)) dL_law_1130 ⟨by show 100 + 7 * j + 1 + 0 + 0 ≤ 601024; omega, by show 2000 + 64 * j + 6 + 0 + 0 ≤ 7293034; omega⟩) ?_
  refine lv_iload hx hb dL_law_1133 (lv_at hl 1 rfl) ?_
  refine lv_icmp_eq (tgt := 1140) hx hb dL_law_1135 (by decide) (fun c_1135 => ?_) (fun c_1135 => by exact absurd c_1135 (by decide))
  refine lv_iload hx hb dL_law_1140 (lv_at hl 1 rfl) ?_
  refine lv_if_ne (tgt := 1157) hx hb dL_law_1142 (by decide) (fun c_1142 => ?_) (fun c_1142 => by exact absurd c_1142 (by decide))
  refine lv_goto (tgt := 1297) hx hb dL_law_1157 (by decide) ?_
  refine lv_iinc (v := nI (4 * (j + 1))) (lv' := [(4, .int (nI (4 * (j + 1)))), (6, .int (nI 0)), (5, .int (nI 2)), (0, .ref b9), (1, .ref xa), (2, .ref (A 0)), (3, .ref oa)]) hx hb dL_law_1297 hl (k := 6) rfl (iinc4 (4 * j)) (by decide) rfl (fun ls hl => ?_)
  refine lv_goto (tgt := 23) hx hb dL_law_1300 (by decide) ?_
  refine W.widen (k := 100 + 7 * (j + 1)) (n := 2000 + 64 * (j + 1)) (by omega) (by omega) ?_
  exact hHd _ _ _ ⟨og, sg, ln, mk, cs, up, fo, tn, w, t, lo, hi, me, nI n, qu, gu, ri, re, P, F, z, o0, o1, nI 2, dg, f, sl, ik, sv, pl, rfl, hln, hz, (RG_mono (Nat.le_succ _) (RG_of hRS)), (cen_of hn hcv), (HI_mono (Nat.le_succ _) hHI), (SLr_mono (Nat.le_succ _) hs0), (SLr_mono (Nat.le_succ _) hs1)⟩ hP hD hS ls (lv_sub hl [3, 4, 5, 6, 0] rfl)

set_option maxHeartbeats 8000000 in
set_option maxRecDepth 100000 in
theorem L_guess_no {p : Program} {l : Launch} {e : Env} {s : State} {m : MethodId} {args : Array Value} {below : List Frame} {meth : Method} {cd : Code} {Q : State → Prop} {G : GG} {Ar : Nat → Prop} {b9 L : Nat} {xs : Nat → Int32} {xa so oa : Nat} {b ce a hh A : Nat → Nat} (hE : LE9 p l s m args cd G Ar b9 L xs) {j : Nat} (hj : 4 * j + 4 ≤ L) (hL : L ≤ 2048) (hHd : LH p l e s m args below meth cd Q G Ar b9 xa so oa b ce a hh A (j + 1))
    (og : Nat → Int64) (sg : Nat → Int32) (ln : Nat) (hln : ln ≤ 60) (mk : Nat → Int32) (cs up fo tn : Int32) (w t lo hi me : Nat → Int32) (n : Nat) (qu gu ri re : Int32) (P : Nat → Nat → Nat) (F : Nat → Nat → Nat → Int32) (z : Nat) (hz : z ≤ 6) (o0 : SLO) (o1 : SLO) (th : Int32) (dg : Int64) (f sl ik sv pl : Nat → Int32) (x : Int32) (hx0 : ¬ inB x (nI 0) (nI 511))
    (hRS : RS j fo tn w t lo hi me n qu gu ri re f) (hcv : cenV (qS tn lo hi me n) mk cs up) (hHI : HI j z F sv) (hs0 : SLr j o0 (ik 0) sl) (hs1 : SLr j o1 (ik 1) (fun j => sl (58 + j))) (hp0 : xs (4 * j + 1) = x)
    {H : Heap} {locs : List Loc} (hP : PP G (mW G A th (nI z) (nI ln) dg f sl ik sv sg pl ++ (oW G oa og ++ cW G xa so b ce a hh sg ln mk cs up fo tn w t lo hi me (nI n) qu gu ri re P F z o0 o1)) H) (hD : va_D Ar (mW G A th (nI z) (nI ln) dg f sl ik sv sg pl ++ (oW G oa og ++ cW G xa so b ce a hh sg ln mk cs up fo tn w t lo hi me (nI n) qu gu ri re P F z o0 o1))) (hS : va_S Ar s.heap H locs) {ls : Array Slot} (hl : lv_has ls 9 [(0, .ref b9), (1, .ref xa), (2, .ref (A 0)), (3, .ref oa), (4, .int (nI (4 * j)))]) : W p l e room_1 s m args below meth cd H locs (100 + 7 * j) (2000 + 64 * j) Q (F0 m 413 ls []) := by
  obtain ⟨hx, hb, hml, hown, hts, hfl, ⟨hK, hN, hX, hZ0⟩, hA, hXs, hbl, hbA⟩ := id hE
  have hn : n ≤ 12 := hRS.1.1
  have hn17 : f 17 = nI n := hRS.2.1.2.2.1
  have hT : okP t := hRS.2.2.1.2.1
  have hvL : okL lo hi := hRS.2.2.1.2.2.1
  have hvA : okA f := hRS.2.2.1.2.2.2
  have htF : okT f := fun i hi => by rw [hRS.2.1.2.2.2.2 i hi]; exact hT i hi
  refine lv_aload_n hx hb dL_law_413 rfl (lv_at hl 1 rfl) ?_
  refine lv_aload_n hx hb dL_law_414 rfl (lv_at hl 0 rfl) ?_
  refine lv_iload hx hb dL_law_415 (lv_at hl 4 rfl) ?_
  refine lv_iconst (v := nI 1) hx hb dL_law_417 (by decide) ?_
  refine lv_iadd hx hb dL_law_418 ?_
  refine lv_cgi (y := nI ((4 * j) + 1)) (nI_add _ _) ?_
  refine va_sld hx hb hXs hbl hbA hS (vp_in_nI (by omega) (by omega)) dL_law_419 ?_
  refine lv_cgi (y := x) (by rw [nI_clamp (by omega)]; exact hp0) ?_
  refine lv_aload_n hx hb dL_law_420 rfl (lv_at hl 3 rfl) ?_
  refine wr_g1i (pre := mW G A th (nI z) (nI ln) dg f sl ik sv sg pl) (mid := oW G oa og ++ cW G xa so b ce a hh sg ln mk cs up fo tn w t lo hi me (nI n) qu gu ri re P F z o0 o1) (vx_runSW (As := [.ref xa, .int x, .ref oa]) (rest := []) ⟨hx, hb, hml, hown, hts⟩ (w_guess_t1 l G _ xa oa _ _ og x (t_X6_guess_no l hfl G xa _ _ x hx0)) (vx_cwSW 3 hts gL_law_L_guess rfl rfl rfl (by decide +kernel) ⟨Nat.le_of_ble_eq_true rfl, Nat.le_of_ble_eq_true rfl⟩) (lxS1 (pre := mW G A th (nI z) (nI ln) dg f sl ik sv sg pl) (mid := oW G oa og ++ cW G xa so b ce a hh sg ln mk cs up fo tn w t lo hi me (nI n) qu gu ri re P F z o0 o1) hK hN hX (XZ_at hZ0 hS hA) hP hD) rfl rfl hl.1 rfl (lv_room (Nat.le_of_ble_eq_true rfl)) dL_law_421 ⟨by show 100 + 7 * j + 1 ≤ 601024; omega, by show 2000 + 64 * j + 6 ≤ 7293034; omega⟩) hP hD hS hA (fun r6 u6 H locs hw6 hP9 hD9 hS => ?_)
  have hw6 : r6 = nI 1 := hw6
  subst hw6
  have hP : PP G (mW G A th (nI z) (nI ln) dg f sl ik sv sg pl ++ (oW G oa og ++ cW G xa so b ce a hh sg ln mk cs up fo tn w t lo hi me (nI n) qu gu ri re P F z o0 o1)) _ := hP9
  have hD : va_D Ar (mW G A th (nI z) (nI ln) dg f sl ik sv sg pl ++ (oW G oa og ++ cW G xa so b ce a hh sg ln mk cs up fo tn w t lo hi me (nI n) qu gu ri re P F z o0 o1)) := hD9
  refine lv_istore (lv' := [(5, .int (nI 1)), (0, .ref b9), (1, .ref xa), (2, .ref (A 0)), (3, .ref oa), (4, .int (nI (4 * j)))]) hx hb dL_law_424 hl (by decide) rfl (fun ls hl => ?_)
  refine lv_aload_n hx hb dL_law_426 rfl (lv_at hl 3 rfl) ?_
  refine lv_aload_n hx hb dL_law_427 rfl (lv_at hl 1 rfl) ?_
  refine lv_iload hx hb dL_law_428 (lv_at hl 5 rfl) ?_
  refine lv_iconst (v := nI 1) hx hb dL_law_430 (by decide) ?_
  refine lv_iadd hx hb dL_law_431 ?_
  refine lv_cgi (y := nI ((4 * j) + 1)) (nI_add _ _) ?_
  refine va_sld hx hb hXs hbl hbA hS (vp_in_nI (by omega) (by omega)) dL_law_432 ?_
  refine lv_cgi (y := x) (by rw [nI_clamp (by omega)]; exact hp0) ?_
  refine wr_goi (pre := []) (mid := mW G A th (nI z) (nI ln) dg f sl ik sv sg pl) (suf := oW G oa og ++ cW G xa so b ce a hh sg ln mk cs up fo tn w t lo hi me (nI n) qu gu ri re P F z o0 o1) (va_runV (As := [.int x]) (rest := []) ⟨hx, hb, hml, hown, hts⟩ (c_X7_guess_no l G _ A th (nI ln) dg f sl ik sv sg pl z hz x hx0) (cwV 1 hts gL_law_X7_guess rfl rfl rfl (by decide +kernel) ⟨Nat.le_of_ble_eq_true rfl, Nat.le_of_ble_eq_true rfl⟩) (wV (pre := []) (mid := mW G A th (nI z) (nI ln) dg f sl ik sv sg pl) (suf := oW G oa og ++ cW G xa so b ce a hh sg ln mk cs up fo tn w t lo hi me (nI n) qu gu ri re P F z o0 o1) (va_recv (ws := mW G A th (nI z) (nI ln) dg f sl ik sv sg pl ++ (oW G oa og ++ cW G xa so b ce a hh sg ln mk cs up fo tn w t lo hi me (nI n) qu gu ri re P F z o0 o1)) hK hP (ci := 6) (q0 := 0) rfl rfl) hK hN hP hD) rfl rfl hl.1 rfl (lv_room (Nat.le_of_ble_eq_true rfl)) dL_law_433 ⟨by show 100 + 7 * j + 1 + 0 ≤ 601024; omega, by show 2000 + 64 * j + 6 + 0 ≤ 7293034; omega⟩) hP hD hS hA (fun r7 u7 H locs hw7 hP9 hD9 hS => ?_)
  have hw7 : r7 = nI 0 := hw7
  subst hw7
  have hP : PP G (mW G A (nI 1) (nI z) (nI ln) dg f sl ik sv sg pl ++ (oW G oa og ++ cW G xa so b ce a hh sg ln mk cs up fo tn w t lo hi me (nI n) qu gu ri re P F z o0 o1)) _ := hP9
  have hD : va_D Ar (mW G A (nI 1) (nI z) (nI ln) dg f sl ik sv sg pl ++ (oW G oa og ++ cW G xa so b ce a hh sg ln mk cs up fo tn w t lo hi me (nI n) qu gu ri re P F z o0 o1)) := hD9
  refine lv_istore (lv' := [(6, .int (nI 0)), (5, .int (nI 1)), (0, .ref b9), (1, .ref xa), (2, .ref (A 0)), (3, .ref oa), (4, .int (nI (4 * j)))]) hx hb dL_law_436 hl (by decide) rfl (fun ls hl => ?_)
  refine lv_aload_n hx hb dL_law_438 rfl (lv_at hl 4 rfl) ?_
  refine rd_go (va_runV (As := []) (rest := []) ⟨hx, hb, hml, hown, hts⟩ (c_X7_thrown l G A (nI 1) (nI z) (nI ln) dg f sl ik sv sg pl) (cwV 0 hts gL_law_X7_thrown rfl rfl rfl (by decide +kernel) ⟨Nat.le_of_ble_eq_true rfl, Nat.le_of_ble_eq_true rfl⟩) (rV (ws := mW G A (nI 1) (nI z) (nI ln) dg f sl ik sv sg pl) (va_recv (ws := mW G A (nI 1) (nI z) (nI ln) dg f sl ik sv sg pl ++ (oW G oa og ++ cW G xa so b ce a hh sg ln mk cs up fo tn w t lo hi me (nI n) qu gu ri re P F z o0 o1)) hK hP (ci := 6) (q0 := 0) rfl rfl) hK hN (P_mid (pre := []) (mid := mW G A (nI 1) (nI z) (nI ln) dg f sl ik sv sg pl) (suf := oW G oa og ++ cW G xa so b ce a hh sg ln mk cs up fo tn w t lo hi me (nI n) qu gu ri re P F z o0 o1) hP)) rfl rfl hl.1 rfl (lv_room (Nat.le_of_ble_eq_true rfl)) dL_law_439 ⟨by show 100 + 7 * j + 1 + 0 + 0 ≤ 601024; omega, by show 2000 + 64 * j + 6 + 0 + 0 ≤ 7293034; omega⟩) ?_
  refine lv_iload hx hb dL_law_442 (lv_at hl 1 rfl) ?_
  refine lv_icmp_eq (tgt := 449) hx hb dL_law_444 (by decide) (fun c_444 => ?_) (fun c_444 => by exact absurd c_444 (by decide))
  refine lv_iload hx hb dL_law_449 (lv_at hl 1 rfl) ?_
  refine lv_if_ne (tgt := 466) hx hb dL_law_451 (by decide) (fun c_451 => ?_) (fun c_451 => by exact absurd c_451 (by decide))
  refine lv_goto (tgt := 1297) hx hb dL_law_466 (by decide) ?_
  refine lv_iinc (v := nI (4 * (j + 1))) (lv' := [(4, .int (nI (4 * (j + 1)))), (6, .int (nI 0)), (5, .int (nI 1)), (0, .ref b9), (1, .ref xa), (2, .ref (A 0)), (3, .ref oa)]) hx hb dL_law_1297 hl (k := 6) rfl (iinc4 (4 * j)) (by decide) rfl (fun ls hl => ?_)
  refine lv_goto (tgt := 23) hx hb dL_law_1300 (by decide) ?_
  refine W.widen (k := 100 + 7 * (j + 1)) (n := 2000 + 64 * (j + 1)) (by omega) (by omega) ?_
  exact hHd _ _ _ ⟨og, sg, ln, mk, cs, up, fo, tn, w, t, lo, hi, me, nI n, qu, gu, ri, re, P, F, z, o0, o1, nI 1, dg, f, sl, ik, sv, pl, rfl, hln, hz, (RG_mono (Nat.le_succ _) (RG_of hRS)), (cen_of hn hcv), (HI_mono (Nat.le_succ _) hHI), (SLr_mono (Nat.le_succ _) hs0), (SLr_mono (Nat.le_succ _) hs1)⟩ hP hD hS ls (lv_sub hl [3, 4, 5, 6, 0] rfl)

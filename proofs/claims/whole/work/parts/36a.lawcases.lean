set_option maxHeartbeats 8000000 in
set_option maxRecDepth 100000 in
theorem L_fold {p : Program} {l : Launch} {e : Env} {s : State} {m : MethodId} {args : Array Value} {below : List Frame} {meth : Method} {cd : Code} {Q : State → Prop} {G : GG} {Ar : Nat → Prop} {b9 L : Nat} {xs : Nat → Int32} {xa so oa : Nat} {b ce a hh A : Nat → Nat} (hE : LE9 p l s m args cd G Ar b9 L xs) {j : Nat} (hj : 4 * j + 4 ≤ L) (hL : L ≤ 2048) (hHd : LH p l e s m args below meth cd Q G Ar b9 xa so oa b ce a hh A (j + 1))
    (og : Nat → Int64) (sg : Nat → Int32) (ln : Nat) (hln : ln ≤ 60) (mk : Nat → Int32) (cs up fo tn : Int32) (w t lo hi me : Nat → Int32) (n : Nat) (qu gu ri re : Int32) (P : Nat → Nat → Nat) (F : Nat → Nat → Nat → Int32) (z : Nat) (hz : z ≤ 6) (o0 : SLO) (o1 : SLO) (th : Int32) (dg : Int64) (f sl ik sv pl : Nat → Int32) (c : Nat) (hc : c < 9)
    (hRS : RS j fo tn w t lo hi me n qu gu ri re f) (hcv : cenV (qS tn lo hi me n) mk cs up) (hHI : HI j z F sv) (hs0 : SLr j o0 (ik 0) sl) (hs1 : SLr j o1 (ik 1) (fun j => sl (58 + j))) (hp0 : xs (4 * j + 1) = nI c)
    {H : Heap} {locs : List Loc} (hP : PP G (mW G A th (nI z) (nI ln) dg f sl ik sv sg pl ++ (oW G oa og ++ cW G xa so b ce a hh sg ln mk cs up fo tn w t lo hi me (nI n) qu gu ri re P F z o0 o1)) H) (hD : va_D Ar (mW G A th (nI z) (nI ln) dg f sl ik sv sg pl ++ (oW G oa og ++ cW G xa so b ce a hh sg ln mk cs up fo tn w t lo hi me (nI n) qu gu ri re P F z o0 o1))) (hS : va_S Ar s.heap H locs) {ls : Array Slot} (hl : lv_has ls 9 [(0, .ref b9), (1, .ref xa), (2, .ref (A 0)), (3, .ref oa), (4, .int (nI (4 * j)))]) : W p l e room_1 s m args below meth cd H locs (100 + 7 * j) (2000 + 64 * j) Q (F0 m 152 ls []) := by
  obtain ⟨hx, hb, hml, hown, hts, hfl, ⟨hK, hN, hX, hZ0⟩, hA, hXs, hbl, hbA⟩ := id hE
  have hn : n ≤ 12 := hRS.1.1
  have hn17 : f 17 = nI n := hRS.2.1.2.2.1
  have hT : okP t := hRS.2.2.1.2.1
  have hvL : okL lo hi := hRS.2.2.1.2.2.1
  have hvA : okA f := hRS.2.2.1.2.2.2
  have htF : okT f := fun i hi => by rw [hRS.2.1.2.2.2.2 i hi]; exact hT i hi
  have hst := st_fold hc hRS
  refine lv_aload_n hx hb dL_law_152 rfl (lv_at hl 1 rfl) ?_
  refine lv_aload_n hx hb dL_law_153 rfl (lv_at hl 0 rfl) ?_
  refine lv_iload hx hb dL_law_154 (lv_at hl 4 rfl) ?_
  refine lv_iconst (v := nI 1) hx hb dL_law_156 (by decide) ?_
  refine lv_iadd hx hb dL_law_157 ?_
  refine lv_cgi (y := nI ((4 * j) + 1)) (nI_add _ _) ?_
  refine va_sld hx hb hXs hbl hbA hS (vp_in_nI (by omega) (by omega)) dL_law_158 ?_
  refine lv_cgi (y := nI c) (by rw [nI_clamp (by omega)]; exact hp0) ?_
  refine lv_aload_n hx hb dL_law_159 rfl (lv_at hl 3 rfl) ?_
  refine wr_g1i (pre := mW G A th (nI z) (nI ln) dg f sl ik sv sg pl) (mid := oW G oa og ++ cW G xa so b ce a hh sg ln mk cs up fo tn w t lo hi me (nI n) qu gu ri re P F z o0 o1) (vx_runSW (As := [.ref xa, .int (nI c), .ref oa]) (rest := []) ⟨hx, hb, hml, hown, hts⟩ (w_fold_ok l G _ xa oa _ _ og (nI c) (fun sz => c_X6_fold_ok l G sz xa so b ce a hh sg ln hln mk cs up fo tn w t lo hi me n hn qu gu ri re P F z hz o0 o1 c hc)) (vx_cwSW 3 hts gL_law_L_fold rfl rfl rfl (by decide +kernel) ⟨Nat.le_of_ble_eq_true rfl, Nat.le_of_ble_eq_true rfl⟩) (lxS1 (pre := mW G A th (nI z) (nI ln) dg f sl ik sv sg pl) (mid := oW G oa og ++ cW G xa so b ce a hh sg ln mk cs up fo tn w t lo hi me (nI n) qu gu ri re P F z o0 o1) hK hN hX (XZ_at hZ0 hS hA) hP hD) rfl rfl hl.1 rfl (lv_room (Nat.le_of_ble_eq_true rfl)) dL_law_160 ⟨by show 100 + 7 * j + 0 ≤ 601024; omega, by show 2000 + 64 * j + 0 ≤ 7293034; omega⟩) hP hD hS hA (fun r6 u6 H locs hw6 hP9 hD9 hS => ?_)
  obtain ⟨v6, u6⟩ := u6
  have hw6 : r6 = nI 0 ∧ v6 = if tornC tn c then -1 else bI (fo ^^^ ms1 (nI c)) (nI c) := hw6
  obtain ⟨rfl, rfl⟩ := hw6
  have hP : PP G (mW G A th (nI z) (nI ln) dg f sl ik sv sg pl ++ (oW G oa (vp_updL og 0 ((if tornC tn c then -1 else bI (fo ^^^ ms1 (nI c)) (nI c)).toInt64)) ++ cW G xa so b ce a hh sg ln mk cs (nI 0) (if tornC tn c then fo else fo ^^^ ms1 (nI c)) tn (if tornC tn c then w else upd w c (w c + nI 1)) t lo hi me (if tornC tn c then nI n else nI 0) qu gu ri (if tornC tn c then re + nI 1 else re) (svP P z) (va_up (svP F z) (svm z) (bd fo tn w t lo hi me (nI n) qu gu ri re)) (svm z + 1) o0 o1)) _ := hP9
  have hD : va_D Ar (mW G A th (nI z) (nI ln) dg f sl ik sv sg pl ++ (oW G oa (vp_updL og 0 ((if tornC tn c then -1 else bI (fo ^^^ ms1 (nI c)) (nI c)).toInt64)) ++ cW G xa so b ce a hh sg ln mk cs (nI 0) (if tornC tn c then fo else fo ^^^ ms1 (nI c)) tn (if tornC tn c then w else upd w c (w c + nI 1)) t lo hi me (if tornC tn c then nI n else nI 0) qu gu ri (if tornC tn c then re + nI 1 else re) (svP P z) (va_up (svP F z) (svm z) (bd fo tn w t lo hi me (nI n) qu gu ri re)) (svm z + 1) o0 o1)) := hD9
  refine lv_istore (lv' := [(5, .int (nI 0)), (0, .ref b9), (1, .ref xa), (2, .ref (A 0)), (3, .ref oa), (4, .int (nI (4 * j)))]) hx hb dL_law_163 hl (by decide) rfl (fun ls hl => ?_)
  refine lv_aload_n hx hb dL_law_165 rfl (lv_at hl 3 rfl) ?_
  refine lv_aload_n hx hb dL_law_166 rfl (lv_at hl 1 rfl) ?_
  refine lv_iload hx hb dL_law_167 (lv_at hl 5 rfl) ?_
  refine lv_iconst (v := nI 1) hx hb dL_law_169 (by decide) ?_
  refine lv_iadd hx hb dL_law_170 ?_
  refine lv_cgi (y := nI ((4 * j) + 1)) (nI_add _ _) ?_
  refine va_sld hx hb hXs hbl hbA hS (vp_in_nI (by omega) (by omega)) dL_law_171 ?_
  refine lv_cgi (y := nI c) (by rw [nI_clamp (by omega)]; exact hp0) ?_
  refine wr_goi (pre := []) (mid := mW G A th (nI z) (nI ln) dg f sl ik sv sg pl) (suf := oW G oa (vp_updL og 0 ((if tornC tn c then -1 else bI (fo ^^^ ms1 (nI c)) (nI c)).toInt64)) ++ cW G xa so b ce a hh sg ln mk cs (nI 0) (if tornC tn c then fo else fo ^^^ ms1 (nI c)) tn (if tornC tn c then w else upd w c (w c + nI 1)) t lo hi me (if tornC tn c then nI n else nI 0) qu gu ri (if tornC tn c then re + nI 1 else re) (svP P z) (va_up (svP F z) (svm z) (bd fo tn w t lo hi me (nI n) qu gu ri re)) (svm z + 1) o0 o1) (va_runV (As := [.int (nI c)]) (rest := []) ⟨hx, hb, hml, hown, hts⟩ (c_X7_fold l G _ A th (nI ln) dg f sl ik sv sg pl z hz c hc) (cwV 1 hts gL_law_X7_fold rfl rfl rfl (by decide +kernel) ⟨Nat.le_of_ble_eq_true rfl, Nat.le_of_ble_eq_true rfl⟩) (wV (pre := []) (mid := mW G A th (nI z) (nI ln) dg f sl ik sv sg pl) (suf := oW G oa (vp_updL og 0 ((if tornC tn c then -1 else bI (fo ^^^ ms1 (nI c)) (nI c)).toInt64)) ++ cW G xa so b ce a hh sg ln mk cs (nI 0) (if tornC tn c then fo else fo ^^^ ms1 (nI c)) tn (if tornC tn c then w else upd w c (w c + nI 1)) t lo hi me (if tornC tn c then nI n else nI 0) qu gu ri (if tornC tn c then re + nI 1 else re) (svP P z) (va_up (svP F z) (svm z) (bd fo tn w t lo hi me (nI n) qu gu ri re)) (svm z + 1) o0 o1) (va_recv (ws := mW G A th (nI z) (nI ln) dg f sl ik sv sg pl ++ (oW G oa (vp_updL og 0 ((if tornC tn c then -1 else bI (fo ^^^ ms1 (nI c)) (nI c)).toInt64)) ++ cW G xa so b ce a hh sg ln mk cs (nI 0) (if tornC tn c then fo else fo ^^^ ms1 (nI c)) tn (if tornC tn c then w else upd w c (w c + nI 1)) t lo hi me (if tornC tn c then nI n else nI 0) qu gu ri (if tornC tn c then re + nI 1 else re) (svP P z) (va_up (svP F z) (svm z) (bd fo tn w t lo hi me (nI n) qu gu ri re)) (svm z + 1) o0 o1)) hK hP (ci := 6) (q0 := 0) rfl rfl) hK hN hP hD) rfl rfl hl.1 rfl (lv_room (Nat.le_of_ble_eq_true rfl)) dL_law_172 ⟨by show 100 + 7 * j + 0 + 0 ≤ 601024; omega, by show 2000 + 64 * j + 0 + 0 ≤ 7293034; omega⟩) hP hD hS hA (fun r7 u7 H locs hw7 hP9 hD9 hS => ?_)
  have hw7 : r7 = foldR f c := hw7
  subst hw7
  have hP : PP G (mW G A (nI 0) (nI (svm z + 1)) (nI ln) dg (foldF f c) sl ik (svF sv f z) sg pl ++ (oW G oa (vp_updL og 0 ((if tornC tn c then -1 else bI (fo ^^^ ms1 (nI c)) (nI c)).toInt64)) ++ cW G xa so b ce a hh sg ln mk cs (nI 0) (if tornC tn c then fo else fo ^^^ ms1 (nI c)) tn (if tornC tn c then w else upd w c (w c + nI 1)) t lo hi me (if tornC tn c then nI n else nI 0) qu gu ri (if tornC tn c then re + nI 1 else re) (svP P z) (va_up (svP F z) (svm z) (bd fo tn w t lo hi me (nI n) qu gu ri re)) (svm z + 1) o0 o1)) _ := hP9
  have hD : va_D Ar (mW G A (nI 0) (nI (svm z + 1)) (nI ln) dg (foldF f c) sl ik (svF sv f z) sg pl ++ (oW G oa (vp_updL og 0 ((if tornC tn c then -1 else bI (fo ^^^ ms1 (nI c)) (nI c)).toInt64)) ++ cW G xa so b ce a hh sg ln mk cs (nI 0) (if tornC tn c then fo else fo ^^^ ms1 (nI c)) tn (if tornC tn c then w else upd w c (w c + nI 1)) t lo hi me (if tornC tn c then nI n else nI 0) qu gu ri (if tornC tn c then re + nI 1 else re) (svP P z) (va_up (svP F z) (svm z) (bd fo tn w t lo hi me (nI n) qu gu ri re)) (svm z + 1) o0 o1)) := hD9
  refine lv_istore (lv' := [(6, .int (foldR f c)), (5, .int (nI 0)), (0, .ref b9), (1, .ref xa), (2, .ref (A 0)), (3, .ref oa), (4, .int (nI (4 * j)))]) hx hb dL_law_175 hl (by decide) rfl (fun ls hl => ?_)
  refine lv_aload_n hx hb dL_law_177 rfl (lv_at hl 4 rfl) ?_
  refine rd_go (va_runV (As := []) (rest := []) ⟨hx, hb, hml, hown, hts⟩ (c_X7_thrown l G A (nI 0) (nI (svm z + 1)) (nI ln) dg (foldF f c) sl ik (svF sv f z) sg pl) (cwV 0 hts gL_law_X7_thrown rfl rfl rfl (by decide +kernel) ⟨Nat.le_of_ble_eq_true rfl, Nat.le_of_ble_eq_true rfl⟩) (rV (ws := mW G A (nI 0) (nI (svm z + 1)) (nI ln) dg (foldF f c) sl ik (svF sv f z) sg pl) (va_recv (ws := mW G A (nI 0) (nI (svm z + 1)) (nI ln) dg (foldF f c) sl ik (svF sv f z) sg pl ++ (oW G oa (vp_updL og 0 ((if tornC tn c then -1 else bI (fo ^^^ ms1 (nI c)) (nI c)).toInt64)) ++ cW G xa so b ce a hh sg ln mk cs (nI 0) (if tornC tn c then fo else fo ^^^ ms1 (nI c)) tn (if tornC tn c then w else upd w c (w c + nI 1)) t lo hi me (if tornC tn c then nI n else nI 0) qu gu ri (if tornC tn c then re + nI 1 else re) (svP P z) (va_up (svP F z) (svm z) (bd fo tn w t lo hi me (nI n) qu gu ri re)) (svm z + 1) o0 o1)) hK hP (ci := 6) (q0 := 0) rfl rfl) hK hN (P_mid (pre := []) (mid := mW G A (nI 0) (nI (svm z + 1)) (nI ln) dg (foldF f c) sl ik (svF sv f z) sg pl) (suf := oW G oa (vp_updL og 0 ((if tornC tn c then -1 else bI (fo ^^^ ms1 (nI c)) (nI c)).toInt64)) ++ cW G xa so b ce a hh sg ln mk cs (nI 0) (if tornC tn c then fo else fo ^^^ ms1 (nI c)) tn (if tornC tn c then w else upd w c (w c + nI 1)) t lo hi me (if tornC tn c then nI n else nI 0) qu gu ri (if tornC tn c then re + nI 1 else re) (svP P z) (va_up (svP F z) (svm z) (bd fo tn w t lo hi me (nI n) qu gu ri re)) (svm z + 1) o0 o1) hP)) rfl rfl hl.1 rfl (lv_room (Nat.le_of_ble_eq_true rfl)) dL_law_178 ⟨by show 100 + 7 * j + 0 + 0 + 0 ≤ 601024; omega, by show 2000 + 64 * j + 0 + 0 + 0 ≤ 7293034; omega⟩) ?_
  refine lv_iload hx hb dL_law_181 (lv_at hl 1 rfl) ?_
  refine lv_icmp_eq (tgt := 188) hx hb dL_law_183 (by decide) (fun c_183 => ?_) (fun c_183 => by exact absurd c_183 (by decide))
  refine lv_iload hx hb dL_law_188 (lv_at hl 1 rfl) ?_
  refine lv_if_ne (tgt := 205) hx hb dL_law_190 (by decide) (fun c_190 => by exact absurd c_190 (by decide)) (fun c_190 => ?_)
  refine lv_aload_n hx hb dL_law_193 rfl (lv_at hl 5 rfl) ?_
  refine lv_iconst (v := nI 0) hx hb dL_law_194 (by decide) ?_
  refine va_lald (D := G.1) (ws := mW G A (nI 0) (nI (svm z + 1)) (nI ln) dg (foldF f c) sl ik (svF sv f z) sg pl ++ (oW G oa (vp_updL og 0 ((if tornC tn c then -1 else bI (fo ^^^ ms1 (nI c)) (nI c)).toInt64)) ++ cW G xa so b ce a hh sg ln mk cs (nI 0) (if tornC tn c then fo else fo ^^^ ms1 (nI c)) tn (if tornC tn c then w else upd w c (w c + nI 1)) t lo hi me (if tornC tn c then nI n else nI 0) qu gu ri (if tornC tn c then re + nI 1 else re) (svP P z) (va_up (svP F z) (svm z) (bd fo tn w t lo hi me (nI n) qu gu ri re)) (svm z + 1) o0 o1)) hx hb hK hP 7 3 (n := 1) rfl rfl (vp_in_nI (by decide) (by decide)) dL_law_195 ?_
  refine lv_cgl (y := (if tornC tn c then -1 else bI (fo ^^^ ms1 (nI c)) (nI c)).toInt64) vpL ?_
  refine lv_iload hx hb dL_law_196 (lv_at hl 0 rfl) ?_
  refine lv_i2l (v := (foldR f c).toInt64) hx hb dL_law_198 rfl ?_
  refine lv_cgl (y := (if tornC tn c then -1 else bI (fo ^^^ ms1 (nI c)) (nI c)).toInt64) (by rw [hst.2]) ?_
  refine W.lcmp hx hb dL_law_199 ?_
  refine lv_cgi (y := nI 0) (lg_self _) ?_
  refine lv_if_eq (tgt := 205) hx hb dL_law_200 (by decide) (fun c_200 => ?_) (fun c_200 => by exact absurd c_200 (by decide))
  refine lv_goto (tgt := 1297) hx hb dL_law_205 (by decide) ?_
  refine lv_iinc (v := nI (4 * (j + 1))) (lv' := [(4, .int (nI (4 * (j + 1)))), (6, .int (foldR f c)), (5, .int (nI 0)), (0, .ref b9), (1, .ref xa), (2, .ref (A 0)), (3, .ref oa)]) hx hb dL_law_1297 hl (k := 6) rfl (iinc4 (4 * j)) (by decide) rfl (fun ls hl => ?_)
  refine lv_goto (tgt := 23) hx hb dL_law_1300 (by decide) ?_
  refine W.widen (k := 100 + 7 * (j + 1)) (n := 2000 + 64 * (j + 1)) (by omega) (by omega) ?_
  exact hHd _ _ _ ⟨vp_updL og 0 ((if tornC tn c then -1 else bI (fo ^^^ ms1 (nI c)) (nI c)).toInt64), sg, ln, mk, cs, nI 0, if tornC tn c then fo else fo ^^^ ms1 (nI c), tn, if tornC tn c then w else upd w c (w c + nI 1), t, lo, hi, me, if tornC tn c then nI n else nI 0, qu, gu, ri, if tornC tn c then re + nI 1 else re, svP P z, va_up (svP F z) (svm z) (bd fo tn w t lo hi me (nI n) qu gu ri re), svm z + 1, o0, o1, nI 0, dg, foldF f c, sl, ik, svF sv f z, pl, rfl, hln, (svm_le hz), hst.1, cen_no, (HI_mono (Nat.le_succ _) (HI_save hz hHI hRS)), (SLr_mono (Nat.le_succ _) hs0), (SLr_mono (Nat.le_succ _) hs1)⟩ hP hD hS ls (lv_sub hl [3, 4, 5, 6, 0] rfl)

set_option maxHeartbeats 8000000 in
set_option maxRecDepth 100000 in
theorem L_move {p : Program} {l : Launch} {e : Env} {s : State} {m : MethodId} {args : Array Value} {below : List Frame} {meth : Method} {cd : Code} {Q : State → Prop} {G : GG} {Ar : Nat → Prop} {b9 L : Nat} {xs : Nat → Int32} {xa so oa : Nat} {b ce a hh A : Nat → Nat} (hE : LE9 p l s m args cd G Ar b9 L xs) {j : Nat} (hj : 4 * j + 4 ≤ L) (hL : L ≤ 2048) (hHd : LH p l e s m args below meth cd Q G Ar b9 xa so oa b ce a hh A (j + 1))
    (og : Nat → Int64) (sg : Nat → Int32) (ln : Nat) (hln : ln ≤ 60) (mk : Nat → Int32) (cs up fo tn : Int32) (w t lo hi me : Nat → Int32) (n : Nat) (qu gu ri re : Int32) (P : Nat → Nat → Nat) (F : Nat → Nat → Nat → Int32) (z : Nat) (hz : z ≤ 6) (o0 : SLO) (o1 : SLO) (th : Int32) (dg : Int64) (f sl ik sv pl : Nat → Int32) (i : Nat) (hi6 : i < 6) (q : Nat) (hq : q < 10)
    (hRS : RS j fo tn w t lo hi me n qu gu ri re f) (hcv : cenV (qS tn lo hi me n) mk cs up) (hHI : HI j z F sv) (hs0 : SLr j o0 (ik 0) sl) (hs1 : SLr j o1 (ik 1) (fun j => sl (58 + j))) (hp0 : xs (4 * j + 1) = nI i) (hp1 : xs (4 * j + 2) = nI q)
    {H : Heap} {locs : List Loc} (hP : PP G (mW G A th (nI z) (nI ln) dg f sl ik sv sg pl ++ (oW G oa og ++ cW G xa so b ce a hh sg ln mk cs up fo tn w t lo hi me (nI n) qu gu ri re P F z o0 o1)) H) (hD : va_D Ar (mW G A th (nI z) (nI ln) dg f sl ik sv sg pl ++ (oW G oa og ++ cW G xa so b ce a hh sg ln mk cs up fo tn w t lo hi me (nI n) qu gu ri re P F z o0 o1))) (hS : va_S Ar s.heap H locs) {ls : Array Slot} (hl : lv_has ls 9 [(0, .ref b9), (1, .ref xa), (2, .ref (A 0)), (3, .ref oa), (4, .int (nI (4 * j)))]) : W p l e room_1 s m args below meth cd H locs (100 + 7 * j) (2000 + 64 * j) Q (F0 m 208 ls []) := by
  obtain ⟨hx, hb, hml, hown, hts, hfl, ⟨hK, hN, hX, hZ0⟩, hA, hXs, hbl, hbA⟩ := id hE
  have hn : n ≤ 12 := hRS.1.1
  have hn17 : f 17 = nI n := hRS.2.1.2.2.1
  have hT : okP t := hRS.2.2.1.2.1
  have hvL : okL lo hi := hRS.2.2.1.2.2.1
  have hvA : okA f := hRS.2.2.1.2.2.2
  have htF : okT f := fun i hi => by rw [hRS.2.1.2.2.2.2 i hi]; exact hT i hi
  have hst := st_move hi6 hq hRS
  refine lv_aload_n hx hb dL_law_208 rfl (lv_at hl 1 rfl) ?_
  refine lv_aload_n hx hb dL_law_209 rfl (lv_at hl 0 rfl) ?_
  refine lv_iload hx hb dL_law_210 (lv_at hl 4 rfl) ?_
  refine lv_iconst (v := nI 1) hx hb dL_law_212 (by decide) ?_
  refine lv_iadd hx hb dL_law_213 ?_
  refine lv_cgi (y := nI ((4 * j) + 1)) (nI_add _ _) ?_
  refine va_sld hx hb hXs hbl hbA hS (vp_in_nI (by omega) (by omega)) dL_law_214 ?_
  refine lv_cgi (y := nI i) (by rw [nI_clamp (by omega)]; exact hp0) ?_
  refine lv_aload_n hx hb dL_law_215 rfl (lv_at hl 0 rfl) ?_
  refine lv_iload hx hb dL_law_216 (lv_at hl 4 rfl) ?_
  refine lv_iconst (v := nI 2) hx hb dL_law_218 (by decide) ?_
  refine lv_iadd hx hb dL_law_219 ?_
  refine lv_cgi (y := nI ((4 * j) + 2)) (nI_add _ _) ?_
  refine va_sld hx hb hXs hbl hbA hS (vp_in_nI (by omega) (by omega)) dL_law_220 ?_
  refine lv_cgi (y := nI q) (by rw [nI_clamp (by omega)]; exact hp1) ?_
  refine lv_aload_n hx hb dL_law_221 rfl (lv_at hl 3 rfl) ?_
  refine wr_g1i (pre := mW G A th (nI z) (nI ln) dg f sl ik sv sg pl) (mid := oW G oa og ++ cW G xa so b ce a hh sg ln mk cs up fo tn w t lo hi me (nI n) qu gu ri re P F z o0 o1) (vx_runSW (As := [.ref xa, .int (nI i), .int (nI q), .ref oa]) (rest := []) ⟨hx, hb, hml, hown, hts⟩ (w_move_ok l G _ xa oa _ _ og (nI i) (nI q) (fun sz => c_X6_move_ok l G sz xa so b ce a hh sg ln hln mk cs up fo tn w t lo hi me n hn qu gu ri re P F z hz o0 o1 i hi6 q hq)) (vx_cwSW 4 hts gL_law_L_move rfl rfl rfl (by decide +kernel) ⟨Nat.le_of_ble_eq_true rfl, Nat.le_of_ble_eq_true rfl⟩) (lxS1 (pre := mW G A th (nI z) (nI ln) dg f sl ik sv sg pl) (mid := oW G oa og ++ cW G xa so b ce a hh sg ln mk cs up fo tn w t lo hi me (nI n) qu gu ri re P F z o0 o1) hK hN hX (XZ_at hZ0 hS hA) hP hD) rfl rfl hl.1 rfl (lv_room (Nat.le_of_ble_eq_true rfl)) dL_law_222 ⟨by show 100 + 7 * j + 0 ≤ 601024; omega, by show 2000 + 64 * j + 0 ≤ 7293034; omega⟩) hP hD hS hA (fun r6 u6 H locs hw6 hP9 hD9 hS => ?_)
  obtain ⟨v6, u6⟩ := u6
  have hw6 : r6 = nI 0 ∧ v6 = t i := hw6
  obtain ⟨rfl, rfl⟩ := hw6
  have hP : PP G (mW G A th (nI z) (nI ln) dg f sl ik sv sg pl ++ (oW G oa (vp_updL og 0 ((t i).toInt64)) ++ cW G xa so b ce a hh sg ln mk cs (nI 0) fo tn w (upd t i (nI q)) lo hi me (nI 0) qu gu ri re (svP P z) (va_up (svP F z) (svm z) (bd fo tn w t lo hi me (nI n) qu gu ri re)) (svm z + 1) o0 o1)) _ := hP9
  have hD : va_D Ar (mW G A th (nI z) (nI ln) dg f sl ik sv sg pl ++ (oW G oa (vp_updL og 0 ((t i).toInt64)) ++ cW G xa so b ce a hh sg ln mk cs (nI 0) fo tn w (upd t i (nI q)) lo hi me (nI 0) qu gu ri re (svP P z) (va_up (svP F z) (svm z) (bd fo tn w t lo hi me (nI n) qu gu ri re)) (svm z + 1) o0 o1)) := hD9
  refine lv_istore (lv' := [(5, .int (nI 0)), (0, .ref b9), (1, .ref xa), (2, .ref (A 0)), (3, .ref oa), (4, .int (nI (4 * j)))]) hx hb dL_law_225 hl (by decide) rfl (fun ls hl => ?_)
  refine lv_aload_n hx hb dL_law_227 rfl (lv_at hl 3 rfl) ?_
  refine lv_aload_n hx hb dL_law_228 rfl (lv_at hl 1 rfl) ?_
  refine lv_iload hx hb dL_law_229 (lv_at hl 5 rfl) ?_
  refine lv_iconst (v := nI 1) hx hb dL_law_231 (by decide) ?_
  refine lv_iadd hx hb dL_law_232 ?_
  refine lv_cgi (y := nI ((4 * j) + 1)) (nI_add _ _) ?_
  refine va_sld hx hb hXs hbl hbA hS (vp_in_nI (by omega) (by omega)) dL_law_233 ?_
  refine lv_cgi (y := nI i) (by rw [nI_clamp (by omega)]; exact hp0) ?_
  refine lv_aload_n hx hb dL_law_234 rfl (lv_at hl 1 rfl) ?_
  refine lv_iload hx hb dL_law_235 (lv_at hl 5 rfl) ?_
  refine lv_iconst (v := nI 2) hx hb dL_law_237 (by decide) ?_
  refine lv_iadd hx hb dL_law_238 ?_
  refine lv_cgi (y := nI ((4 * j) + 2)) (nI_add _ _) ?_
  refine va_sld hx hb hXs hbl hbA hS (vp_in_nI (by omega) (by omega)) dL_law_239 ?_
  refine lv_cgi (y := nI q) (by rw [nI_clamp (by omega)]; exact hp1) ?_
  refine wr_goi (pre := []) (mid := mW G A th (nI z) (nI ln) dg f sl ik sv sg pl) (suf := oW G oa (vp_updL og 0 ((t i).toInt64)) ++ cW G xa so b ce a hh sg ln mk cs (nI 0) fo tn w (upd t i (nI q)) lo hi me (nI 0) qu gu ri re (svP P z) (va_up (svP F z) (svm z) (bd fo tn w t lo hi me (nI n) qu gu ri re)) (svm z + 1) o0 o1) (va_runV (As := [.int (nI i), .int (nI q)]) (rest := []) ⟨hx, hb, hml, hown, hts⟩ (c_X7_move l G _ A th (nI ln) dg f sl ik sv sg pl z hz i hi6 q hq) (cwV 2 hts gL_law_X7_move rfl rfl rfl (by decide +kernel) ⟨Nat.le_of_ble_eq_true rfl, Nat.le_of_ble_eq_true rfl⟩) (wV (pre := []) (mid := mW G A th (nI z) (nI ln) dg f sl ik sv sg pl) (suf := oW G oa (vp_updL og 0 ((t i).toInt64)) ++ cW G xa so b ce a hh sg ln mk cs (nI 0) fo tn w (upd t i (nI q)) lo hi me (nI 0) qu gu ri re (svP P z) (va_up (svP F z) (svm z) (bd fo tn w t lo hi me (nI n) qu gu ri re)) (svm z + 1) o0 o1) (va_recv (ws := mW G A th (nI z) (nI ln) dg f sl ik sv sg pl ++ (oW G oa (vp_updL og 0 ((t i).toInt64)) ++ cW G xa so b ce a hh sg ln mk cs (nI 0) fo tn w (upd t i (nI q)) lo hi me (nI 0) qu gu ri re (svP P z) (va_up (svP F z) (svm z) (bd fo tn w t lo hi me (nI n) qu gu ri re)) (svm z + 1) o0 o1)) hK hP (ci := 6) (q0 := 0) rfl rfl) hK hN hP hD) rfl rfl hl.1 rfl (lv_room (Nat.le_of_ble_eq_true rfl)) dL_law_240 ⟨by show 100 + 7 * j + 0 + 0 ≤ 601024; omega, by show 2000 + 64 * j + 0 + 0 ≤ 7293034; omega⟩) hP hD hS hA (fun r7 u7 H locs hw7 hP9 hD9 hS => ?_)
  have hw7 : r7 = f (11 + i) := hw7
  subst hw7
  have hP : PP G (mW G A (nI 0) (nI (svm z + 1)) (nI ln) dg (moveF f i (nI q)) sl ik (svF sv f z) sg pl ++ (oW G oa (vp_updL og 0 ((t i).toInt64)) ++ cW G xa so b ce a hh sg ln mk cs (nI 0) fo tn w (upd t i (nI q)) lo hi me (nI 0) qu gu ri re (svP P z) (va_up (svP F z) (svm z) (bd fo tn w t lo hi me (nI n) qu gu ri re)) (svm z + 1) o0 o1)) _ := hP9
  have hD : va_D Ar (mW G A (nI 0) (nI (svm z + 1)) (nI ln) dg (moveF f i (nI q)) sl ik (svF sv f z) sg pl ++ (oW G oa (vp_updL og 0 ((t i).toInt64)) ++ cW G xa so b ce a hh sg ln mk cs (nI 0) fo tn w (upd t i (nI q)) lo hi me (nI 0) qu gu ri re (svP P z) (va_up (svP F z) (svm z) (bd fo tn w t lo hi me (nI n) qu gu ri re)) (svm z + 1) o0 o1)) := hD9
  refine lv_istore (lv' := [(6, .int (f (11 + i))), (5, .int (nI 0)), (0, .ref b9), (1, .ref xa), (2, .ref (A 0)), (3, .ref oa), (4, .int (nI (4 * j)))]) hx hb dL_law_243 hl (by decide) rfl (fun ls hl => ?_)
  refine lv_aload_n hx hb dL_law_245 rfl (lv_at hl 4 rfl) ?_
  refine rd_go (va_runV (As := []) (rest := []) ⟨hx, hb, hml, hown, hts⟩ (c_X7_thrown l G A (nI 0) (nI (svm z + 1)) (nI ln) dg (moveF f i (nI q)) sl ik (svF sv f z) sg pl) (cwV 0 hts gL_law_X7_thrown rfl rfl rfl (by decide +kernel) ⟨Nat.le_of_ble_eq_true rfl, Nat.le_of_ble_eq_true rfl⟩) (rV (ws := mW G A (nI 0) (nI (svm z + 1)) (nI ln) dg (moveF f i (nI q)) sl ik (svF sv f z) sg pl) (va_recv (ws := mW G A (nI 0) (nI (svm z + 1)) (nI ln) dg (moveF f i (nI q)) sl ik (svF sv f z) sg pl ++ (oW G oa (vp_updL og 0 ((t i).toInt64)) ++ cW G xa so b ce a hh sg ln mk cs (nI 0) fo tn w (upd t i (nI q)) lo hi me (nI 0) qu gu ri re (svP P z) (va_up (svP F z) (svm z) (bd fo tn w t lo hi me (nI n) qu gu ri re)) (svm z + 1) o0 o1)) hK hP (ci := 6) (q0 := 0) rfl rfl) hK hN (P_mid (pre := []) (mid := mW G A (nI 0) (nI (svm z + 1)) (nI ln) dg (moveF f i (nI q)) sl ik (svF sv f z) sg pl) (suf := oW G oa (vp_updL og 0 ((t i).toInt64)) ++ cW G xa so b ce a hh sg ln mk cs (nI 0) fo tn w (upd t i (nI q)) lo hi me (nI 0) qu gu ri re (svP P z) (va_up (svP F z) (svm z) (bd fo tn w t lo hi me (nI n) qu gu ri re)) (svm z + 1) o0 o1) hP)) rfl rfl hl.1 rfl (lv_room (Nat.le_of_ble_eq_true rfl)) dL_law_246 ⟨by show 100 + 7 * j + 0 + 0 + 0 ≤ 601024; omega, by show 2000 + 64 * j + 0 + 0 + 0 ≤ 7293034; omega⟩) ?_
  refine lv_iload hx hb dL_law_249 (lv_at hl 1 rfl) ?_
  refine lv_icmp_eq (tgt := 256) hx hb dL_law_251 (by decide) (fun c_251 => ?_) (fun c_251 => by exact absurd c_251 (by decide))
  refine lv_iload hx hb dL_law_256 (lv_at hl 1 rfl) ?_
  refine lv_if_ne (tgt := 273) hx hb dL_law_258 (by decide) (fun c_258 => by exact absurd c_258 (by decide)) (fun c_258 => ?_)
  refine lv_aload_n hx hb dL_law_261 rfl (lv_at hl 5 rfl) ?_
  refine lv_iconst (v := nI 0) hx hb dL_law_262 (by decide) ?_
  refine va_lald (D := G.1) (ws := mW G A (nI 0) (nI (svm z + 1)) (nI ln) dg (moveF f i (nI q)) sl ik (svF sv f z) sg pl ++ (oW G oa (vp_updL og 0 ((t i).toInt64)) ++ cW G xa so b ce a hh sg ln mk cs (nI 0) fo tn w (upd t i (nI q)) lo hi me (nI 0) qu gu ri re (svP P z) (va_up (svP F z) (svm z) (bd fo tn w t lo hi me (nI n) qu gu ri re)) (svm z + 1) o0 o1)) hx hb hK hP 7 3 (n := 1) rfl rfl (vp_in_nI (by decide) (by decide)) dL_law_263 ?_
  refine lv_cgl (y := (t i).toInt64) vpL ?_
  refine lv_iload hx hb dL_law_264 (lv_at hl 0 rfl) ?_
  refine lv_i2l (v := (f (11 + i)).toInt64) hx hb dL_law_266 rfl ?_
  refine lv_cgl (y := (t i).toInt64) (by rw [hst.2]) ?_
  refine W.lcmp hx hb dL_law_267 ?_
  refine lv_cgi (y := nI 0) (lg_self _) ?_
  refine lv_if_eq (tgt := 273) hx hb dL_law_268 (by decide) (fun c_268 => ?_) (fun c_268 => by exact absurd c_268 (by decide))
  refine lv_goto (tgt := 1297) hx hb dL_law_273 (by decide) ?_
  refine lv_iinc (v := nI (4 * (j + 1))) (lv' := [(4, .int (nI (4 * (j + 1)))), (6, .int (f (11 + i))), (5, .int (nI 0)), (0, .ref b9), (1, .ref xa), (2, .ref (A 0)), (3, .ref oa)]) hx hb dL_law_1297 hl (k := 6) rfl (iinc4 (4 * j)) (by decide) rfl (fun ls hl => ?_)
  refine lv_goto (tgt := 23) hx hb dL_law_1300 (by decide) ?_
  refine W.widen (k := 100 + 7 * (j + 1)) (n := 2000 + 64 * (j + 1)) (by omega) (by omega) ?_
  exact hHd _ _ _ ⟨vp_updL og 0 ((t i).toInt64), sg, ln, mk, cs, nI 0, fo, tn, w, upd t i (nI q), lo, hi, me, nI 0, qu, gu, ri, re, svP P z, va_up (svP F z) (svm z) (bd fo tn w t lo hi me (nI n) qu gu ri re), svm z + 1, o0, o1, nI 0, dg, moveF f i (nI q), sl, ik, svF sv f z, pl, rfl, hln, (svm_le hz), hst.1, cen_no, (HI_mono (Nat.le_succ _) (HI_save hz hHI hRS)), (SLr_mono (Nat.le_succ _) hs0), (SLr_mono (Nat.le_succ _) hs1)⟩ hP hD hS ls (lv_sub hl [3, 4, 5, 6, 0] rfl)

set_option maxHeartbeats 8000000 in
set_option maxRecDepth 100000 in
theorem L_pull {p : Program} {l : Launch} {e : Env} {s : State} {m : MethodId} {args : Array Value} {below : List Frame} {meth : Method} {cd : Code} {Q : State → Prop} {G : GG} {Ar : Nat → Prop} {b9 L : Nat} {xs : Nat → Int32} {xa so oa : Nat} {b ce a hh A : Nat → Nat} (hE : LE9 p l s m args cd G Ar b9 L xs) {j : Nat} (hj : 4 * j + 4 ≤ L) (hL : L ≤ 2048) (hHd : LH p l e s m args below meth cd Q G Ar b9 xa so oa b ce a hh A (j + 1))
    (og : Nat → Int64) (sg : Nat → Int32) (ln : Nat) (hln : ln ≤ 60) (mk : Nat → Int32) (cs up fo tn : Int32) (w t lo hi me : Nat → Int32) (n : Nat) (qu gu ri re : Int32) (P : Nat → Nat → Nat) (F : Nat → Nat → Nat → Int32) (z : Nat) (hz : z ≤ 6) (o0 : SLO) (o1 : SLO) (th : Int32) (dg : Int64) (f sl ik sv pl : Nat → Int32) (y : Nat) (hy1 : 1 ≤ y) (hy9 : y ≤ 9)
    (hRS : RS j fo tn w t lo hi me n qu gu ri re f) (hcv : cenV (qS tn lo hi me n) mk cs up) (hHI : HI j z F sv) (hs0 : SLr j o0 (ik 0) sl) (hs1 : SLr j o1 (ik 1) (fun j => sl (58 + j))) (hp0 : xs (4 * j + 1) = nI y)
    {H : Heap} {locs : List Loc} (hP : PP G (mW G A th (nI z) (nI ln) dg f sl ik sv sg pl ++ (oW G oa og ++ cW G xa so b ce a hh sg ln mk cs up fo tn w t lo hi me (nI n) qu gu ri re P F z o0 o1)) H) (hD : va_D Ar (mW G A th (nI z) (nI ln) dg f sl ik sv sg pl ++ (oW G oa og ++ cW G xa so b ce a hh sg ln mk cs up fo tn w t lo hi me (nI n) qu gu ri re P F z o0 o1))) (hS : va_S Ar s.heap H locs) {ls : Array Slot} (hl : lv_has ls 9 [(0, .ref b9), (1, .ref xa), (2, .ref (A 0)), (3, .ref oa), (4, .int (nI (4 * j)))]) : W p l e room_1 s m args below meth cd H locs (100 + 7 * j) (2000 + 64 * j) Q (F0 m 276 ls []) := by
  obtain ⟨hx, hb, hml, hown, hts, hfl, ⟨hK, hN, hX, hZ0⟩, hA, hXs, hbl, hbA⟩ := id hE
  have hn : n ≤ 12 := hRS.1.1
  have hn17 : f 17 = nI n := hRS.2.1.2.2.1
  have hT : okP t := hRS.2.2.1.2.1
  have hvL : okL lo hi := hRS.2.2.1.2.2.1
  have hvA : okA f := hRS.2.2.1.2.2.2
  have htF : okT f := fun i hi => by rw [hRS.2.1.2.2.2.2 i hi]; exact hT i hi
  have hst := st_pull (y := y) hRS
  refine lv_aload_n hx hb dL_law_276 rfl (lv_at hl 1 rfl) ?_
  refine lv_aload_n hx hb dL_law_277 rfl (lv_at hl 0 rfl) ?_
  refine lv_iload hx hb dL_law_278 (lv_at hl 4 rfl) ?_
  refine lv_iconst (v := nI 1) hx hb dL_law_280 (by decide) ?_
  refine lv_iadd hx hb dL_law_281 ?_
  refine lv_cgi (y := nI ((4 * j) + 1)) (nI_add _ _) ?_
  refine va_sld hx hb hXs hbl hbA hS (vp_in_nI (by omega) (by omega)) dL_law_282 ?_
  refine lv_cgi (y := nI y) (by rw [nI_clamp (by omega)]; exact hp0) ?_
  refine lv_aload_n hx hb dL_law_283 rfl (lv_at hl 3 rfl) ?_
  refine wr_g1i (pre := mW G A th (nI z) (nI ln) dg f sl ik sv sg pl) (mid := oW G oa og ++ cW G xa so b ce a hh sg ln mk cs up fo tn w t lo hi me (nI n) qu gu ri re P F z o0 o1) (vx_runSW (As := [.ref xa, .int (nI y), .ref oa]) (rest := []) ⟨hx, hb, hml, hown, hts⟩ (w_pull_ok l G _ xa oa _ _ og (nI y) (fun sz => c_X6_pull_ok l G sz xa so b ce a hh sg ln hln mk cs up fo tn w t lo hi me n hn qu gu ri re P F z hz o0 o1 y hy1 hy9)) (vx_cwSW 3 hts gL_law_L_pull rfl rfl rfl (by decide +kernel) ⟨Nat.le_of_ble_eq_true rfl, Nat.le_of_ble_eq_true rfl⟩) (lxS1 (pre := mW G A th (nI z) (nI ln) dg f sl ik sv sg pl) (mid := oW G oa og ++ cW G xa so b ce a hh sg ln mk cs up fo tn w t lo hi me (nI n) qu gu ri re P F z o0 o1) hK hN hX (XZ_at hZ0 hS hA) hP hD) rfl rfl hl.1 rfl (lv_room (Nat.le_of_ble_eq_true rfl)) dL_law_284 ⟨by show 100 + 7 * j + 0 ≤ 601024; omega, by show 2000 + 64 * j + 0 ≤ 7293034; omega⟩) hP hD hS hA (fun r6 u6 H locs hw6 hP9 hD9 hS => ?_)
  obtain ⟨v6, u6⟩ := u6
  have hw6 : r6 = nI 0 ∧ v6 = bcn (teaS fo w (nI (10 - y)) 9) := hw6
  obtain ⟨rfl, rfl⟩ := hw6
  have hP : PP G (mW G A th (nI z) (nI ln) dg f sl ik sv sg pl ++ (oW G oa (vp_updL og 0 ((bcn (teaS fo w (nI (10 - y)) 9)).toInt64)) ++ cW G xa so b ce a hh sg ln mk cs (nI 0) (fo &&& (teaS fo w (nI (10 - y)) 9 ^^^ (-1))) (tn ||| teaS fo w (nI (10 - y)) 9) w t lo hi me (if teaS fo w (nI (10 - y)) 9 = 0 then nI n else nI 0) qu gu ri re (svP P z) (va_up (svP F z) (svm z) (bd fo tn w t lo hi me (nI n) qu gu ri re)) (svm z + 1) o0 o1)) _ := hP9
  have hD : va_D Ar (mW G A th (nI z) (nI ln) dg f sl ik sv sg pl ++ (oW G oa (vp_updL og 0 ((bcn (teaS fo w (nI (10 - y)) 9)).toInt64)) ++ cW G xa so b ce a hh sg ln mk cs (nI 0) (fo &&& (teaS fo w (nI (10 - y)) 9 ^^^ (-1))) (tn ||| teaS fo w (nI (10 - y)) 9) w t lo hi me (if teaS fo w (nI (10 - y)) 9 = 0 then nI n else nI 0) qu gu ri re (svP P z) (va_up (svP F z) (svm z) (bd fo tn w t lo hi me (nI n) qu gu ri re)) (svm z + 1) o0 o1)) := hD9
  refine lv_istore (lv' := [(5, .int (nI 0)), (0, .ref b9), (1, .ref xa), (2, .ref (A 0)), (3, .ref oa), (4, .int (nI (4 * j)))]) hx hb dL_law_287 hl (by decide) rfl (fun ls hl => ?_)
  refine lv_aload_n hx hb dL_law_289 rfl (lv_at hl 3 rfl) ?_
  refine lv_aload_n hx hb dL_law_290 rfl (lv_at hl 1 rfl) ?_
  refine lv_iload hx hb dL_law_291 (lv_at hl 5 rfl) ?_
  refine lv_iconst (v := nI 1) hx hb dL_law_293 (by decide) ?_
  refine lv_iadd hx hb dL_law_294 ?_
  refine lv_cgi (y := nI ((4 * j) + 1)) (nI_add _ _) ?_
  refine va_sld hx hb hXs hbl hbA hS (vp_in_nI (by omega) (by omega)) dL_law_295 ?_
  refine lv_cgi (y := nI y) (by rw [nI_clamp (by omega)]; exact hp0) ?_
  refine wr_goi (pre := []) (mid := mW G A th (nI z) (nI ln) dg f sl ik sv sg pl) (suf := oW G oa (vp_updL og 0 ((bcn (teaS fo w (nI (10 - y)) 9)).toInt64)) ++ cW G xa so b ce a hh sg ln mk cs (nI 0) (fo &&& (teaS fo w (nI (10 - y)) 9 ^^^ (-1))) (tn ||| teaS fo w (nI (10 - y)) 9) w t lo hi me (if teaS fo w (nI (10 - y)) 9 = 0 then nI n else nI 0) qu gu ri re (svP P z) (va_up (svP F z) (svm z) (bd fo tn w t lo hi me (nI n) qu gu ri re)) (svm z + 1) o0 o1) (va_runV (As := [.int (nI y)]) (rest := []) ⟨hx, hb, hml, hown, hts⟩ (c_X7_pull l G _ A th (nI ln) dg f sl ik sv sg pl z hz y hy1 hy9) (cwV 1 hts gL_law_X7_pull rfl rfl rfl (by decide +kernel) ⟨Nat.le_of_ble_eq_true rfl, Nat.le_of_ble_eq_true rfl⟩) (wV (pre := []) (mid := mW G A th (nI z) (nI ln) dg f sl ik sv sg pl) (suf := oW G oa (vp_updL og 0 ((bcn (teaS fo w (nI (10 - y)) 9)).toInt64)) ++ cW G xa so b ce a hh sg ln mk cs (nI 0) (fo &&& (teaS fo w (nI (10 - y)) 9 ^^^ (-1))) (tn ||| teaS fo w (nI (10 - y)) 9) w t lo hi me (if teaS fo w (nI (10 - y)) 9 = 0 then nI n else nI 0) qu gu ri re (svP P z) (va_up (svP F z) (svm z) (bd fo tn w t lo hi me (nI n) qu gu ri re)) (svm z + 1) o0 o1) (va_recv (ws := mW G A th (nI z) (nI ln) dg f sl ik sv sg pl ++ (oW G oa (vp_updL og 0 ((bcn (teaS fo w (nI (10 - y)) 9)).toInt64)) ++ cW G xa so b ce a hh sg ln mk cs (nI 0) (fo &&& (teaS fo w (nI (10 - y)) 9 ^^^ (-1))) (tn ||| teaS fo w (nI (10 - y)) 9) w t lo hi me (if teaS fo w (nI (10 - y)) 9 = 0 then nI n else nI 0) qu gu ri re (svP P z) (va_up (svP F z) (svm z) (bd fo tn w t lo hi me (nI n) qu gu ri re)) (svm z + 1) o0 o1)) hK hP (ci := 6) (q0 := 0) rfl rfl) hK hN hP hD) rfl rfl hl.1 rfl (lv_room (Nat.le_of_ble_eq_true rfl)) dL_law_296 ⟨by show 100 + 7 * j + 0 + 0 ≤ 601024; omega, by show 2000 + 64 * j + 0 + 0 ≤ 7293034; omega⟩) hP hD hS hA (fun r7 u7 H locs hw7 hP9 hD9 hS => ?_)
  have hw7 : r7 = bitsM (pullS f y 9) := hw7
  subst hw7
  have hP : PP G (mW G A (nI 0) (nI (svm z + 1)) (nI ln) dg (pullF f y) sl ik (svF sv f z) sg pl ++ (oW G oa (vp_updL og 0 ((bcn (teaS fo w (nI (10 - y)) 9)).toInt64)) ++ cW G xa so b ce a hh sg ln mk cs (nI 0) (fo &&& (teaS fo w (nI (10 - y)) 9 ^^^ (-1))) (tn ||| teaS fo w (nI (10 - y)) 9) w t lo hi me (if teaS fo w (nI (10 - y)) 9 = 0 then nI n else nI 0) qu gu ri re (svP P z) (va_up (svP F z) (svm z) (bd fo tn w t lo hi me (nI n) qu gu ri re)) (svm z + 1) o0 o1)) _ := hP9
  have hD : va_D Ar (mW G A (nI 0) (nI (svm z + 1)) (nI ln) dg (pullF f y) sl ik (svF sv f z) sg pl ++ (oW G oa (vp_updL og 0 ((bcn (teaS fo w (nI (10 - y)) 9)).toInt64)) ++ cW G xa so b ce a hh sg ln mk cs (nI 0) (fo &&& (teaS fo w (nI (10 - y)) 9 ^^^ (-1))) (tn ||| teaS fo w (nI (10 - y)) 9) w t lo hi me (if teaS fo w (nI (10 - y)) 9 = 0 then nI n else nI 0) qu gu ri re (svP P z) (va_up (svP F z) (svm z) (bd fo tn w t lo hi me (nI n) qu gu ri re)) (svm z + 1) o0 o1)) := hD9
  refine lv_istore (lv' := [(6, .int (bitsM (pullS f y 9))), (5, .int (nI 0)), (0, .ref b9), (1, .ref xa), (2, .ref (A 0)), (3, .ref oa), (4, .int (nI (4 * j)))]) hx hb dL_law_299 hl (by decide) rfl (fun ls hl => ?_)
  refine lv_aload_n hx hb dL_law_301 rfl (lv_at hl 4 rfl) ?_
  refine rd_go (va_runV (As := []) (rest := []) ⟨hx, hb, hml, hown, hts⟩ (c_X7_thrown l G A (nI 0) (nI (svm z + 1)) (nI ln) dg (pullF f y) sl ik (svF sv f z) sg pl) (cwV 0 hts gL_law_X7_thrown rfl rfl rfl (by decide +kernel) ⟨Nat.le_of_ble_eq_true rfl, Nat.le_of_ble_eq_true rfl⟩) (rV (ws := mW G A (nI 0) (nI (svm z + 1)) (nI ln) dg (pullF f y) sl ik (svF sv f z) sg pl) (va_recv (ws := mW G A (nI 0) (nI (svm z + 1)) (nI ln) dg (pullF f y) sl ik (svF sv f z) sg pl ++ (oW G oa (vp_updL og 0 ((bcn (teaS fo w (nI (10 - y)) 9)).toInt64)) ++ cW G xa so b ce a hh sg ln mk cs (nI 0) (fo &&& (teaS fo w (nI (10 - y)) 9 ^^^ (-1))) (tn ||| teaS fo w (nI (10 - y)) 9) w t lo hi me (if teaS fo w (nI (10 - y)) 9 = 0 then nI n else nI 0) qu gu ri re (svP P z) (va_up (svP F z) (svm z) (bd fo tn w t lo hi me (nI n) qu gu ri re)) (svm z + 1) o0 o1)) hK hP (ci := 6) (q0 := 0) rfl rfl) hK hN (P_mid (pre := []) (mid := mW G A (nI 0) (nI (svm z + 1)) (nI ln) dg (pullF f y) sl ik (svF sv f z) sg pl) (suf := oW G oa (vp_updL og 0 ((bcn (teaS fo w (nI (10 - y)) 9)).toInt64)) ++ cW G xa so b ce a hh sg ln mk cs (nI 0) (fo &&& (teaS fo w (nI (10 - y)) 9 ^^^ (-1))) (tn ||| teaS fo w (nI (10 - y)) 9) w t lo hi me (if teaS fo w (nI (10 - y)) 9 = 0 then nI n else nI 0) qu gu ri re (svP P z) (va_up (svP F z) (svm z) (bd fo tn w t lo hi me (nI n) qu gu ri re)) (svm z + 1) o0 o1) hP)) rfl rfl hl.1 rfl (lv_room (Nat.le_of_ble_eq_true rfl)) dL_law_302 ⟨by show 100 + 7 * j + 0 + 0 + 0 ≤ 601024; omega, by show 2000 + 64 * j + 0 + 0 + 0 ≤ 7293034; omega⟩) ?_
  refine lv_iload hx hb dL_law_305 (lv_at hl 1 rfl) ?_
  refine lv_icmp_eq (tgt := 312) hx hb dL_law_307 (by decide) (fun c_307 => ?_) (fun c_307 => by exact absurd c_307 (by decide))
  refine lv_iload hx hb dL_law_312 (lv_at hl 1 rfl) ?_
  refine lv_if_ne (tgt := 329) hx hb dL_law_314 (by decide) (fun c_314 => by exact absurd c_314 (by decide)) (fun c_314 => ?_)
  refine lv_aload_n hx hb dL_law_317 rfl (lv_at hl 5 rfl) ?_
  refine lv_iconst (v := nI 0) hx hb dL_law_318 (by decide) ?_
  refine va_lald (D := G.1) (ws := mW G A (nI 0) (nI (svm z + 1)) (nI ln) dg (pullF f y) sl ik (svF sv f z) sg pl ++ (oW G oa (vp_updL og 0 ((bcn (teaS fo w (nI (10 - y)) 9)).toInt64)) ++ cW G xa so b ce a hh sg ln mk cs (nI 0) (fo &&& (teaS fo w (nI (10 - y)) 9 ^^^ (-1))) (tn ||| teaS fo w (nI (10 - y)) 9) w t lo hi me (if teaS fo w (nI (10 - y)) 9 = 0 then nI n else nI 0) qu gu ri re (svP P z) (va_up (svP F z) (svm z) (bd fo tn w t lo hi me (nI n) qu gu ri re)) (svm z + 1) o0 o1)) hx hb hK hP 7 3 (n := 1) rfl rfl (vp_in_nI (by decide) (by decide)) dL_law_319 ?_
  refine lv_cgl (y := (bcn (teaS fo w (nI (10 - y)) 9)).toInt64) vpL ?_
  refine lv_iload hx hb dL_law_320 (lv_at hl 0 rfl) ?_
  refine lv_i2l (v := (bitsM (pullS f y 9)).toInt64) hx hb dL_law_322 rfl ?_
  refine lv_cgl (y := (bcn (teaS fo w (nI (10 - y)) 9)).toInt64) (by rw [hst.2]) ?_
  refine W.lcmp hx hb dL_law_323 ?_
  refine lv_cgi (y := nI 0) (lg_self _) ?_
  refine lv_if_eq (tgt := 329) hx hb dL_law_324 (by decide) (fun c_324 => ?_) (fun c_324 => by exact absurd c_324 (by decide))
  refine lv_goto (tgt := 1297) hx hb dL_law_329 (by decide) ?_
  refine lv_iinc (v := nI (4 * (j + 1))) (lv' := [(4, .int (nI (4 * (j + 1)))), (6, .int (bitsM (pullS f y 9))), (5, .int (nI 0)), (0, .ref b9), (1, .ref xa), (2, .ref (A 0)), (3, .ref oa)]) hx hb dL_law_1297 hl (k := 6) rfl (iinc4 (4 * j)) (by decide) rfl (fun ls hl => ?_)
  refine lv_goto (tgt := 23) hx hb dL_law_1300 (by decide) ?_
  refine W.widen (k := 100 + 7 * (j + 1)) (n := 2000 + 64 * (j + 1)) (by omega) (by omega) ?_
  exact hHd _ _ _ ⟨vp_updL og 0 ((bcn (teaS fo w (nI (10 - y)) 9)).toInt64), sg, ln, mk, cs, nI 0, fo &&& (teaS fo w (nI (10 - y)) 9 ^^^ (-1)), tn ||| teaS fo w (nI (10 - y)) 9, w, t, lo, hi, me, if teaS fo w (nI (10 - y)) 9 = 0 then nI n else nI 0, qu, gu, ri, re, svP P z, va_up (svP F z) (svm z) (bd fo tn w t lo hi me (nI n) qu gu ri re), svm z + 1, o0, o1, nI 0, dg, pullF f y, sl, ik, svF sv f z, pl, rfl, hln, (svm_le hz), hst.1, cen_no, (HI_mono (Nat.le_succ _) (HI_save hz hHI hRS)), (SLr_mono (Nat.le_succ _) hs0), (SLr_mono (Nat.le_succ _) hs1)⟩ hP hD hS ls (lv_sub hl [3, 4, 5, 6, 0] rfl)

set_option maxHeartbeats 8000000 in
set_option maxRecDepth 100000 in
theorem L_renew {p : Program} {l : Launch} {e : Env} {s : State} {m : MethodId} {args : Array Value} {below : List Frame} {meth : Method} {cd : Code} {Q : State → Prop} {G : GG} {Ar : Nat → Prop} {b9 L : Nat} {xs : Nat → Int32} {xa so oa : Nat} {b ce a hh A : Nat → Nat} (hE : LE9 p l s m args cd G Ar b9 L xs) {j : Nat} (hj : 4 * j + 4 ≤ L) (hL : L ≤ 2048) (hHd : LH p l e s m args below meth cd Q G Ar b9 xa so oa b ce a hh A (j + 1))
    (og : Nat → Int64) (sg : Nat → Int32) (ln : Nat) (hln : ln ≤ 60) (mk : Nat → Int32) (cs up fo tn : Int32) (w t lo hi me : Nat → Int32) (n : Nat) (qu gu ri re : Int32) (P : Nat → Nat → Nat) (F : Nat → Nat → Nat → Int32) (z : Nat) (hz : z ≤ 6) (o0 : SLO) (o1 : SLO) (th : Int32) (dg : Int64) (f sl ik sv pl : Nat → Int32) 
    (hRS : RS j fo tn w t lo hi me n qu gu ri re f) (hcv : cenV (qS tn lo hi me n) mk cs up) (hHI : HI j z F sv) (hs0 : SLr j o0 (ik 0) sl) (hs1 : SLr j o1 (ik 1) (fun j => sl (58 + j))) 
    {H : Heap} {locs : List Loc} (hP : PP G (mW G A th (nI z) (nI ln) dg f sl ik sv sg pl ++ (oW G oa og ++ cW G xa so b ce a hh sg ln mk cs up fo tn w t lo hi me (nI n) qu gu ri re P F z o0 o1)) H) (hD : va_D Ar (mW G A th (nI z) (nI ln) dg f sl ik sv sg pl ++ (oW G oa og ++ cW G xa so b ce a hh sg ln mk cs up fo tn w t lo hi me (nI n) qu gu ri re P F z o0 o1))) (hS : va_S Ar s.heap H locs) {ls : Array Slot} (hl : lv_has ls 9 [(0, .ref b9), (1, .ref xa), (2, .ref (A 0)), (3, .ref oa), (4, .int (nI (4 * j)))]) : W p l e room_1 s m args below meth cd H locs (100 + 7 * j) (2000 + 64 * j) Q (F0 m 332 ls []) := by
  obtain ⟨hx, hb, hml, hown, hts, hfl, ⟨hK, hN, hX, hZ0⟩, hA, hXs, hbl, hbA⟩ := id hE
  have hn : n ≤ 12 := hRS.1.1
  have hn17 : f 17 = nI n := hRS.2.1.2.2.1
  have hT : okP t := hRS.2.2.1.2.1
  have hvL : okL lo hi := hRS.2.2.1.2.2.1
  have hvA : okA f := hRS.2.2.1.2.2.2
  have htF : okT f := fun i hi => by rw [hRS.2.1.2.2.2.2 i hi]; exact hT i hi
  have hst := st_renew hRS
  refine lv_aload_n hx hb dL_law_332 rfl (lv_at hl 1 rfl) ?_
  refine wr_g1i (pre := mW G A th (nI z) (nI ln) dg f sl ik sv sg pl ++ oW G oa og) (mid := cW G xa so b ce a hh sg ln mk cs up fo tn w t lo hi me (nI n) qu gu ri re P F z o0 o1) (va_runV (As := []) (rest := []) ⟨hx, hb, hml, hown, hts⟩ (c_X6_renew_ok l G _ xa so b ce a hh sg ln hln mk cs up fo tn w t lo hi me n hn qu gu ri re P F z hz o0 o1 ) (cwV 0 hts gL_law_X6_renew rfl rfl rfl (by decide +kernel) ⟨Nat.le_of_ble_eq_true rfl, Nat.le_of_ble_eq_true rfl⟩) (wV1 (pre := mW G A th (nI z) (nI ln) dg f sl ik sv sg pl ++ oW G oa og) (mid := cW G xa so b ce a hh sg ln mk cs up fo tn w t lo hi me (nI n) qu gu ri re P F z o0 o1) (va_recv (ws := mW G A th (nI z) (nI ln) dg f sl ik sv sg pl ++ (oW G oa og ++ cW G xa so b ce a hh sg ln mk cs up fo tn w t lo hi me (nI n) qu gu ri re P F z o0 o1)) hK hP (ci := 5) (q0 := 8) rfl rfl) hK hN hP hD) rfl rfl hl.1 rfl (lv_room (Nat.le_of_ble_eq_true rfl)) dL_law_333 ⟨by show 100 + 7 * j + 0 ≤ 601024; omega, by show 2000 + 64 * j + 0 ≤ 7293034; omega⟩) hP hD hS hA (fun r6 u6 H locs hw6 hP9 hD9 hS => ?_)
  have hw6 : r6 = bcn tn := hw6
  subst hw6
  have hP : PP G (mW G A th (nI z) (nI ln) dg f sl ik sv sg pl ++ (oW G oa og ++ cW G xa so b ce a hh sg ln mk cs (nI 0) (nI 0) (nI 0) (fun j => if j < 9 then nI 0 else w j) t lo hi me (nI 0) qu gu ri re (svP P z) (va_up (svP F z) (svm z) (bd fo tn w t lo hi me (nI n) qu gu ri re)) (svm z + 1) o0 o1)) _ := hP9
  have hD : va_D Ar (mW G A th (nI z) (nI ln) dg f sl ik sv sg pl ++ (oW G oa og ++ cW G xa so b ce a hh sg ln mk cs (nI 0) (nI 0) (nI 0) (fun j => if j < 9 then nI 0 else w j) t lo hi me (nI 0) qu gu ri re (svP P z) (va_up (svP F z) (svm z) (bd fo tn w t lo hi me (nI n) qu gu ri re)) (svm z + 1) o0 o1)) := hD9
  refine lv_aload_n hx hb dL_law_336 rfl (lv_at hl 2 rfl) ?_
  refine wr_goi (pre := []) (mid := mW G A th (nI z) (nI ln) dg f sl ik sv sg pl) (suf := oW G oa og ++ cW G xa so b ce a hh sg ln mk cs (nI 0) (nI 0) (nI 0) (fun j => if j < 9 then nI 0 else w j) t lo hi me (nI 0) qu gu ri re (svP P z) (va_up (svP F z) (svm z) (bd fo tn w t lo hi me (nI n) qu gu ri re)) (svm z + 1) o0 o1) (va_runV (As := []) (rest := [.int (bcn tn)]) ⟨hx, hb, hml, hown, hts⟩ (c_X7_renew l G _ A th (nI ln) dg f sl ik sv sg pl z hz) (cwV 0 hts gL_law_X7_renew rfl rfl rfl (by decide +kernel) ⟨Nat.le_of_ble_eq_true rfl, Nat.le_of_ble_eq_true rfl⟩) (wV (pre := []) (mid := mW G A th (nI z) (nI ln) dg f sl ik sv sg pl) (suf := oW G oa og ++ cW G xa so b ce a hh sg ln mk cs (nI 0) (nI 0) (nI 0) (fun j => if j < 9 then nI 0 else w j) t lo hi me (nI 0) qu gu ri re (svP P z) (va_up (svP F z) (svm z) (bd fo tn w t lo hi me (nI n) qu gu ri re)) (svm z + 1) o0 o1) (va_recv (ws := mW G A th (nI z) (nI ln) dg f sl ik sv sg pl ++ (oW G oa og ++ cW G xa so b ce a hh sg ln mk cs (nI 0) (nI 0) (nI 0) (fun j => if j < 9 then nI 0 else w j) t lo hi me (nI 0) qu gu ri re (svP P z) (va_up (svP F z) (svm z) (bd fo tn w t lo hi me (nI n) qu gu ri re)) (svm z + 1) o0 o1)) hK hP (ci := 6) (q0 := 0) rfl rfl) hK hN hP hD) rfl rfl hl.1 rfl (lv_room (Nat.le_of_ble_eq_true rfl)) dL_law_337 ⟨by show 100 + 7 * j + 0 + 0 ≤ 601024; omega, by show 2000 + 64 * j + 0 + 0 ≤ 7293034; omega⟩) hP hD hS hA (fun r7 u7 H locs hw7 hP9 hD9 hS => ?_)
  have hw7 : r7 = bitsM (f 1) := hw7
  subst hw7
  have hP : PP G (mW G A (nI 0) (nI (svm z + 1)) (nI ln) dg (anewF f (nI 0)) sl ik (svF sv f z) sg pl ++ (oW G oa og ++ cW G xa so b ce a hh sg ln mk cs (nI 0) (nI 0) (nI 0) (fun j => if j < 9 then nI 0 else w j) t lo hi me (nI 0) qu gu ri re (svP P z) (va_up (svP F z) (svm z) (bd fo tn w t lo hi me (nI n) qu gu ri re)) (svm z + 1) o0 o1)) _ := hP9
  have hD : va_D Ar (mW G A (nI 0) (nI (svm z + 1)) (nI ln) dg (anewF f (nI 0)) sl ik (svF sv f z) sg pl ++ (oW G oa og ++ cW G xa so b ce a hh sg ln mk cs (nI 0) (nI 0) (nI 0) (fun j => if j < 9 then nI 0 else w j) t lo hi me (nI 0) qu gu ri re (svP P z) (va_up (svP F z) (svm z) (bd fo tn w t lo hi me (nI n) qu gu ri re)) (svm z + 1) o0 o1)) := hD9
  refine lv_cgi (y := bcn tn) (hst.2) ?_
  refine lv_icmp_eq (tgt := 1297) hx hb dL_law_340 (by decide) (fun c_340 => ?_) (fun c_340 => by exact absurd rfl c_340)
  refine lv_iinc (v := nI (4 * (j + 1))) (lv' := [(4, .int (nI (4 * (j + 1)))), (0, .ref b9), (1, .ref xa), (2, .ref (A 0)), (3, .ref oa)]) hx hb dL_law_1297 hl (k := 4) rfl (iinc4 (4 * j)) (by decide) rfl (fun ls hl => ?_)
  refine lv_goto (tgt := 23) hx hb dL_law_1300 (by decide) ?_
  refine W.widen (k := 100 + 7 * (j + 1)) (n := 2000 + 64 * (j + 1)) (by omega) (by omega) ?_
  exact hHd _ _ _ ⟨og, sg, ln, mk, cs, nI 0, nI 0, nI 0, fun j => if j < 9 then nI 0 else w j, t, lo, hi, me, nI 0, qu, gu, ri, re, svP P z, va_up (svP F z) (svm z) (bd fo tn w t lo hi me (nI n) qu gu ri re), svm z + 1, o0, o1, nI 0, dg, anewF f (nI 0), sl, ik, svF sv f z, pl, rfl, hln, (svm_le hz), hst.1, cen_no, (HI_mono (Nat.le_succ _) (HI_save hz hHI hRS)), (SLr_mono (Nat.le_succ _) hs0), (SLr_mono (Nat.le_succ _) hs1)⟩ hP hD hS ls (lv_sub hl [1, 2, 3, 4, 0] rfl)

set_option maxHeartbeats 8000000 in
set_option maxRecDepth 100000 in
theorem L_ask {p : Program} {l : Launch} {e : Env} {s : State} {m : MethodId} {args : Array Value} {below : List Frame} {meth : Method} {cd : Code} {Q : State → Prop} {G : GG} {Ar : Nat → Prop} {b9 L : Nat} {xs : Nat → Int32} {xa so oa : Nat} {b ce a hh A : Nat → Nat} (hE : LE9 p l s m args cd G Ar b9 L xs) {j : Nat} (hj : 4 * j + 4 ≤ L) (hL : L ≤ 2048) (hHd : LH p l e s m args below meth cd Q G Ar b9 xa so oa b ce a hh A (j + 1))
    (og : Nat → Int64) (sg : Nat → Int32) (ln : Nat) (hln : ln ≤ 60) (mk : Nat → Int32) (cs up fo tn : Int32) (w t lo hi me : Nat → Int32) (n : Nat) (qu gu ri re : Int32) (P : Nat → Nat → Nat) (F : Nat → Nat → Nat → Int32) (z : Nat) (hz : z ≤ 6) (o0 : SLO) (o1 : SLO) (th : Int32) (dg : Int64) (f sl ik sv pl : Nat → Int32) (i o : Nat) (hi6 : i < 6) (ho : o < 6) (hto : i ≠ o)
    (hRS : RS j fo tn w t lo hi me n qu gu ri re f) (hcv : cenV (qS tn lo hi me n) mk cs up) (hHI : HI j z F sv) (hs0 : SLr j o0 (ik 0) sl) (hs1 : SLr j o1 (ik 1) (fun j => sl (58 + j))) (hp0 : xs (4 * j + 1) = nI i) (hp1 : xs (4 * j + 2) = nI o)
    {H : Heap} {locs : List Loc} (hP : PP G (mW G A th (nI z) (nI ln) dg f sl ik sv sg pl ++ (oW G oa og ++ cW G xa so b ce a hh sg ln mk cs up fo tn w t lo hi me (nI n) qu gu ri re P F z o0 o1)) H) (hD : va_D Ar (mW G A th (nI z) (nI ln) dg f sl ik sv sg pl ++ (oW G oa og ++ cW G xa so b ce a hh sg ln mk cs up fo tn w t lo hi me (nI n) qu gu ri re P F z o0 o1))) (hS : va_S Ar s.heap H locs) {ls : Array Slot} (hl : lv_has ls 9 [(0, .ref b9), (1, .ref xa), (2, .ref (A 0)), (3, .ref oa), (4, .int (nI (4 * j)))]) : W p l e room_1 s m args below meth cd H locs (100 + 7 * j) (2000 + 64 * j) Q (F0 m 345 ls []) := by
  obtain ⟨hx, hb, hml, hown, hts, hfl, ⟨hK, hN, hX, hZ0⟩, hA, hXs, hbl, hbA⟩ := id hE
  have hn : n ≤ 12 := hRS.1.1
  have hn17 : f 17 = nI n := hRS.2.1.2.2.1
  have hT : okP t := hRS.2.2.1.2.1
  have hvL : okL lo hi := hRS.2.2.1.2.2.1
  have hvA : okA f := hRS.2.2.1.2.2.2
  have htF : okT f := fun i hi => by rw [hRS.2.1.2.2.2.2 i hi]; exact hT i hi
  have hst := st_ask hi6 ho hRS
  refine lv_aload_n hx hb dL_law_345 rfl (lv_at hl 1 rfl) ?_
  refine lv_aload_n hx hb dL_law_346 rfl (lv_at hl 0 rfl) ?_
  refine lv_iload hx hb dL_law_347 (lv_at hl 4 rfl) ?_
  refine lv_iconst (v := nI 1) hx hb dL_law_349 (by decide) ?_
  refine lv_iadd hx hb dL_law_350 ?_
  refine lv_cgi (y := nI ((4 * j) + 1)) (nI_add _ _) ?_
  refine va_sld hx hb hXs hbl hbA hS (vp_in_nI (by omega) (by omega)) dL_law_351 ?_
  refine lv_cgi (y := nI i) (by rw [nI_clamp (by omega)]; exact hp0) ?_
  refine lv_aload_n hx hb dL_law_352 rfl (lv_at hl 0 rfl) ?_
  refine lv_iload hx hb dL_law_353 (lv_at hl 4 rfl) ?_
  refine lv_iconst (v := nI 2) hx hb dL_law_355 (by decide) ?_
  refine lv_iadd hx hb dL_law_356 ?_
  refine lv_cgi (y := nI ((4 * j) + 2)) (nI_add _ _) ?_
  refine va_sld hx hb hXs hbl hbA hS (vp_in_nI (by omega) (by omega)) dL_law_357 ?_
  refine lv_cgi (y := nI o) (by rw [nI_clamp (by omega)]; exact hp1) ?_
  refine lv_aload_n hx hb dL_law_358 rfl (lv_at hl 3 rfl) ?_
  refine wr_g1i (pre := mW G A th (nI z) (nI ln) dg f sl ik sv sg pl) (mid := oW G oa og ++ cW G xa so b ce a hh sg ln mk cs up fo tn w t lo hi me (nI n) qu gu ri re P F z o0 o1) (vx_runSW (As := [.ref xa, .int (nI i), .int (nI o), .ref oa]) (rest := []) ⟨hx, hb, hml, hown, hts⟩ (w_ask_ok l G _ xa oa _ _ og (nI i) (nI o) (fun sz => c_X6_ask_ok l G sz xa so b ce a hh sg ln hln mk cs up fo tn w t lo hi me n hn qu gu ri re P F z hz o0 o1 i o hi6 ho hto (hT i hi6) (hT o ho))) (vx_cwSW 4 hts gL_law_L_ask rfl rfl rfl (by decide +kernel) ⟨Nat.le_of_ble_eq_true rfl, Nat.le_of_ble_eq_true rfl⟩) (lxS1 (pre := mW G A th (nI z) (nI ln) dg f sl ik sv sg pl) (mid := oW G oa og ++ cW G xa so b ce a hh sg ln mk cs up fo tn w t lo hi me (nI n) qu gu ri re P F z o0 o1) hK hN hX (XZ_at hZ0 hS hA) hP hD) rfl rfl hl.1 rfl (lv_room (Nat.le_of_ble_eq_true rfl)) dL_law_359 ⟨by show 100 + 7 * j + 0 ≤ 601024; omega, by show 2000 + 64 * j + 0 ≤ 7293034; omega⟩) hP hD hS hA (fun r6 u6 H locs hw6 hP9 hD9 hS => ?_)
  obtain ⟨v6, u6⟩ := u6
  have hw6 : r6 = nI 0 ∧ v6 = if refdC lo hi me n (nI (cl (t i))) (nI (cl (t o))) then -1 else b2 (mt fo (cl (t i)) (cl (t o))) := hw6
  obtain ⟨rfl, rfl⟩ := hw6
  have hP : PP G (mW G A th (nI z) (nI ln) dg f sl ik sv sg pl ++ (oW G oa (vp_updL og 0 ((if refdC lo hi me n (nI (cl (t i))) (nI (cl (t o))) then -1 else b2 (mt fo (cl (t i)) (cl (t o)))).toInt64)) ++ cW G xa so b ce a hh sg ln mk cs (nI 0) fo tn w t (if refdC lo hi me n (nI (cl (t i))) (nI (cl (t o))) then lo else upd lo n (mnI (nI (cl (t i))) (nI (cl (t o))))) (if refdC lo hi me n (nI (cl (t i))) (nI (cl (t o))) then hi else upd hi n (mxI (nI (cl (t i))) (nI (cl (t o))))) (if refdC lo hi me n (nI (cl (t i))) (nI (cl (t o))) then me else upd me n (b2 (mt fo (cl (t i)) (cl (t o))))) (if refdC lo hi me n (nI (cl (t i))) (nI (cl (t o))) then nI n else nI (n + 1)) (if refdC lo hi me n (nI (cl (t i))) (nI (cl (t o))) then qu else qu + nI 1) gu ri (if refdC lo hi me n (nI (cl (t i))) (nI (cl (t o))) then re + nI 1 else re) (svP P z) (va_up (svP F z) (svm z) (bd fo tn w t lo hi me (nI n) qu gu ri re)) (svm z + 1) o0 o1)) _ := hP9
  have hD : va_D Ar (mW G A th (nI z) (nI ln) dg f sl ik sv sg pl ++ (oW G oa (vp_updL og 0 ((if refdC lo hi me n (nI (cl (t i))) (nI (cl (t o))) then -1 else b2 (mt fo (cl (t i)) (cl (t o)))).toInt64)) ++ cW G xa so b ce a hh sg ln mk cs (nI 0) fo tn w t (if refdC lo hi me n (nI (cl (t i))) (nI (cl (t o))) then lo else upd lo n (mnI (nI (cl (t i))) (nI (cl (t o))))) (if refdC lo hi me n (nI (cl (t i))) (nI (cl (t o))) then hi else upd hi n (mxI (nI (cl (t i))) (nI (cl (t o))))) (if refdC lo hi me n (nI (cl (t i))) (nI (cl (t o))) then me else upd me n (b2 (mt fo (cl (t i)) (cl (t o))))) (if refdC lo hi me n (nI (cl (t i))) (nI (cl (t o))) then nI n else nI (n + 1)) (if refdC lo hi me n (nI (cl (t i))) (nI (cl (t o))) then qu else qu + nI 1) gu ri (if refdC lo hi me n (nI (cl (t i))) (nI (cl (t o))) then re + nI 1 else re) (svP P z) (va_up (svP F z) (svm z) (bd fo tn w t lo hi me (nI n) qu gu ri re)) (svm z + 1) o0 o1)) := hD9
  refine lv_istore (lv' := [(5, .int (nI 0)), (0, .ref b9), (1, .ref xa), (2, .ref (A 0)), (3, .ref oa), (4, .int (nI (4 * j)))]) hx hb dL_law_362 hl (by decide) rfl (fun ls hl => ?_)
  refine lv_aload_n hx hb dL_law_364 rfl (lv_at hl 3 rfl) ?_
  refine lv_aload_n hx hb dL_law_365 rfl (lv_at hl 1 rfl) ?_
  refine lv_iload hx hb dL_law_366 (lv_at hl 5 rfl) ?_
  refine lv_iconst (v := nI 1) hx hb dL_law_368 (by decide) ?_
  refine lv_iadd hx hb dL_law_369 ?_
  refine lv_cgi (y := nI ((4 * j) + 1)) (nI_add _ _) ?_
  refine va_sld hx hb hXs hbl hbA hS (vp_in_nI (by omega) (by omega)) dL_law_370 ?_
  refine lv_cgi (y := nI i) (by rw [nI_clamp (by omega)]; exact hp0) ?_
  refine lv_aload_n hx hb dL_law_371 rfl (lv_at hl 1 rfl) ?_
  refine lv_iload hx hb dL_law_372 (lv_at hl 5 rfl) ?_
  refine lv_iconst (v := nI 2) hx hb dL_law_374 (by decide) ?_
  refine lv_iadd hx hb dL_law_375 ?_
  refine lv_cgi (y := nI ((4 * j) + 2)) (nI_add _ _) ?_
  refine va_sld hx hb hXs hbl hbA hS (vp_in_nI (by omega) (by omega)) dL_law_376 ?_
  refine lv_cgi (y := nI o) (by rw [nI_clamp (by omega)]; exact hp1) ?_
  refine wr_goi (pre := []) (mid := mW G A th (nI z) (nI ln) dg f sl ik sv sg pl) (suf := oW G oa (vp_updL og 0 ((if refdC lo hi me n (nI (cl (t i))) (nI (cl (t o))) then -1 else b2 (mt fo (cl (t i)) (cl (t o)))).toInt64)) ++ cW G xa so b ce a hh sg ln mk cs (nI 0) fo tn w t (if refdC lo hi me n (nI (cl (t i))) (nI (cl (t o))) then lo else upd lo n (mnI (nI (cl (t i))) (nI (cl (t o))))) (if refdC lo hi me n (nI (cl (t i))) (nI (cl (t o))) then hi else upd hi n (mxI (nI (cl (t i))) (nI (cl (t o))))) (if refdC lo hi me n (nI (cl (t i))) (nI (cl (t o))) then me else upd me n (b2 (mt fo (cl (t i)) (cl (t o))))) (if refdC lo hi me n (nI (cl (t i))) (nI (cl (t o))) then nI n else nI (n + 1)) (if refdC lo hi me n (nI (cl (t i))) (nI (cl (t o))) then qu else qu + nI 1) gu ri (if refdC lo hi me n (nI (cl (t i))) (nI (cl (t o))) then re + nI 1 else re) (svP P z) (va_up (svP F z) (svm z) (bd fo tn w t lo hi me (nI n) qu gu ri re)) (svm z + 1) o0 o1) (va_runV (As := [.int (nI i), .int (nI o)]) (rest := []) ⟨hx, hb, hml, hown, hts⟩ (c_X7_ask l G _ A th (nI ln) dg f sl ik sv sg pl z hz n hn17 hn i o hi6 ho hto (by rw [hRS.2.1.2.2.2.2 i hi6]; exact hT i hi6) (by rw [hRS.2.1.2.2.2.2 o ho]; exact hT o ho)) (cwV 2 hts gL_law_X7_ask rfl rfl rfl (by decide +kernel) ⟨Nat.le_of_ble_eq_true rfl, Nat.le_of_ble_eq_true rfl⟩) (wV (pre := []) (mid := mW G A th (nI z) (nI ln) dg f sl ik sv sg pl) (suf := oW G oa (vp_updL og 0 ((if refdC lo hi me n (nI (cl (t i))) (nI (cl (t o))) then -1 else b2 (mt fo (cl (t i)) (cl (t o)))).toInt64)) ++ cW G xa so b ce a hh sg ln mk cs (nI 0) fo tn w t (if refdC lo hi me n (nI (cl (t i))) (nI (cl (t o))) then lo else upd lo n (mnI (nI (cl (t i))) (nI (cl (t o))))) (if refdC lo hi me n (nI (cl (t i))) (nI (cl (t o))) then hi else upd hi n (mxI (nI (cl (t i))) (nI (cl (t o))))) (if refdC lo hi me n (nI (cl (t i))) (nI (cl (t o))) then me else upd me n (b2 (mt fo (cl (t i)) (cl (t o))))) (if refdC lo hi me n (nI (cl (t i))) (nI (cl (t o))) then nI n else nI (n + 1)) (if refdC lo hi me n (nI (cl (t i))) (nI (cl (t o))) then qu else qu + nI 1) gu ri (if refdC lo hi me n (nI (cl (t i))) (nI (cl (t o))) then re + nI 1 else re) (svP P z) (va_up (svP F z) (svm z) (bd fo tn w t lo hi me (nI n) qu gu ri re)) (svm z + 1) o0 o1) (va_recv (ws := mW G A th (nI z) (nI ln) dg f sl ik sv sg pl ++ (oW G oa (vp_updL og 0 ((if refdC lo hi me n (nI (cl (t i))) (nI (cl (t o))) then -1 else b2 (mt fo (cl (t i)) (cl (t o)))).toInt64)) ++ cW G xa so b ce a hh sg ln mk cs (nI 0) fo tn w t (if refdC lo hi me n (nI (cl (t i))) (nI (cl (t o))) then lo else upd lo n (mnI (nI (cl (t i))) (nI (cl (t o))))) (if refdC lo hi me n (nI (cl (t i))) (nI (cl (t o))) then hi else upd hi n (mxI (nI (cl (t i))) (nI (cl (t o))))) (if refdC lo hi me n (nI (cl (t i))) (nI (cl (t o))) then me else upd me n (b2 (mt fo (cl (t i)) (cl (t o))))) (if refdC lo hi me n (nI (cl (t i))) (nI (cl (t o))) then nI n else nI (n + 1)) (if refdC lo hi me n (nI (cl (t i))) (nI (cl (t o))) then qu else qu + nI 1) gu ri (if refdC lo hi me n (nI (cl (t i))) (nI (cl (t o))) then re + nI 1 else re) (svP P z) (va_up (svP F z) (svm z) (bd fo tn w t lo hi me (nI n) qu gu ri re)) (svm z + 1) o0 o1)) hK hP (ci := 6) (q0 := 0) rfl rfl) hK hN hP hD) rfl rfl hl.1 rfl (lv_room (Nat.le_of_ble_eq_true rfl)) dL_law_377 ⟨by show 100 + 7 * j + 0 + 0 ≤ 601024; omega, by show 2000 + 64 * j + 0 + 0 ≤ 7293034; omega⟩) hP hD hS hA (fun r7 u7 H locs hw7 hP9 hD9 hS => ?_)
  have hw7 : r7 = askR f n (f (11 + i)) (f (11 + o)) := hw7
  subst hw7
  have hP : PP G (mW G A (nI 0) (nI (svm z + 1)) (nI ln) dg (askF f n (f (11 + i)) (f (11 + o))) sl ik (svF sv f z) sg u7 ++ (oW G oa (vp_updL og 0 ((if refdC lo hi me n (nI (cl (t i))) (nI (cl (t o))) then -1 else b2 (mt fo (cl (t i)) (cl (t o)))).toInt64)) ++ cW G xa so b ce a hh sg ln mk cs (nI 0) fo tn w t (if refdC lo hi me n (nI (cl (t i))) (nI (cl (t o))) then lo else upd lo n (mnI (nI (cl (t i))) (nI (cl (t o))))) (if refdC lo hi me n (nI (cl (t i))) (nI (cl (t o))) then hi else upd hi n (mxI (nI (cl (t i))) (nI (cl (t o))))) (if refdC lo hi me n (nI (cl (t i))) (nI (cl (t o))) then me else upd me n (b2 (mt fo (cl (t i)) (cl (t o))))) (if refdC lo hi me n (nI (cl (t i))) (nI (cl (t o))) then nI n else nI (n + 1)) (if refdC lo hi me n (nI (cl (t i))) (nI (cl (t o))) then qu else qu + nI 1) gu ri (if refdC lo hi me n (nI (cl (t i))) (nI (cl (t o))) then re + nI 1 else re) (svP P z) (va_up (svP F z) (svm z) (bd fo tn w t lo hi me (nI n) qu gu ri re)) (svm z + 1) o0 o1)) _ := hP9
  have hD : va_D Ar (mW G A (nI 0) (nI (svm z + 1)) (nI ln) dg (askF f n (f (11 + i)) (f (11 + o))) sl ik (svF sv f z) sg u7 ++ (oW G oa (vp_updL og 0 ((if refdC lo hi me n (nI (cl (t i))) (nI (cl (t o))) then -1 else b2 (mt fo (cl (t i)) (cl (t o)))).toInt64)) ++ cW G xa so b ce a hh sg ln mk cs (nI 0) fo tn w t (if refdC lo hi me n (nI (cl (t i))) (nI (cl (t o))) then lo else upd lo n (mnI (nI (cl (t i))) (nI (cl (t o))))) (if refdC lo hi me n (nI (cl (t i))) (nI (cl (t o))) then hi else upd hi n (mxI (nI (cl (t i))) (nI (cl (t o))))) (if refdC lo hi me n (nI (cl (t i))) (nI (cl (t o))) then me else upd me n (b2 (mt fo (cl (t i)) (cl (t o))))) (if refdC lo hi me n (nI (cl (t i))) (nI (cl (t o))) then nI n else nI (n + 1)) (if refdC lo hi me n (nI (cl (t i))) (nI (cl (t o))) then qu else qu + nI 1) gu ri (if refdC lo hi me n (nI (cl (t i))) (nI (cl (t o))) then re + nI 1 else re) (svP P z) (va_up (svP F z) (svm z) (bd fo tn w t lo hi me (nI n) qu gu ri re)) (svm z + 1) o0 o1)) := hD9
  refine lv_istore (lv' := [(6, .int (askR f n (f (11 + i)) (f (11 + o)))), (5, .int (nI 0)), (0, .ref b9), (1, .ref xa), (2, .ref (A 0)), (3, .ref oa), (4, .int (nI (4 * j)))]) hx hb dL_law_380 hl (by decide) rfl (fun ls hl => ?_)
  refine lv_aload_n hx hb dL_law_382 rfl (lv_at hl 4 rfl) ?_
  refine rd_go (va_runV (As := []) (rest := []) ⟨hx, hb, hml, hown, hts⟩ (c_X7_thrown l G A (nI 0) (nI (svm z + 1)) (nI ln) dg (askF f n (f (11 + i)) (f (11 + o))) sl ik (svF sv f z) sg u7) (cwV 0 hts gL_law_X7_thrown rfl rfl rfl (by decide +kernel) ⟨Nat.le_of_ble_eq_true rfl, Nat.le_of_ble_eq_true rfl⟩) (rV (ws := mW G A (nI 0) (nI (svm z + 1)) (nI ln) dg (askF f n (f (11 + i)) (f (11 + o))) sl ik (svF sv f z) sg u7) (va_recv (ws := mW G A (nI 0) (nI (svm z + 1)) (nI ln) dg (askF f n (f (11 + i)) (f (11 + o))) sl ik (svF sv f z) sg u7 ++ (oW G oa (vp_updL og 0 ((if refdC lo hi me n (nI (cl (t i))) (nI (cl (t o))) then -1 else b2 (mt fo (cl (t i)) (cl (t o)))).toInt64)) ++ cW G xa so b ce a hh sg ln mk cs (nI 0) fo tn w t (if refdC lo hi me n (nI (cl (t i))) (nI (cl (t o))) then lo else upd lo n (mnI (nI (cl (t i))) (nI (cl (t o))))) (if refdC lo hi me n (nI (cl (t i))) (nI (cl (t o))) then hi else upd hi n (mxI (nI (cl (t i))) (nI (cl (t o))))) (if refdC lo hi me n (nI (cl (t i))) (nI (cl (t o))) then me else upd me n (b2 (mt fo (cl (t i)) (cl (t o))))) (if refdC lo hi me n (nI (cl (t i))) (nI (cl (t o))) then nI n else nI (n + 1)) (if refdC lo hi me n (nI (cl (t i))) (nI (cl (t o))) then qu else qu + nI 1) gu ri (if refdC lo hi me n (nI (cl (t i))) (nI (cl (t o))) then re + nI 1 else re) (svP P z) (va_up (svP F z) (svm z) (bd fo tn w t lo hi me (nI n) qu gu ri re)) (svm z + 1) o0 o1)) hK hP (ci := 6) (q0 := 0) rfl rfl) hK hN (P_mid (pre := []) (mid := mW G A (nI 0) (nI (svm z + 1)) (nI ln) dg (askF f n (f (11 + i)) (f (11 + o))) sl ik (svF sv f z) sg u7) (suf := oW G oa (vp_updL og 0 ((if refdC lo hi me n (nI (cl (t i))) (nI (cl (t o))) then -1 else b2 (mt fo (cl (t i)) (cl (t o)))).toInt64)) ++ cW G xa so b ce a hh sg ln mk cs (nI 0) fo tn w t (if refdC lo hi me n (nI (cl (t i))) (nI (cl (t o))) then lo else upd lo n (mnI (nI (cl (t i))) (nI (cl (t o))))) (if refdC lo hi me n (nI (cl (t i))) (nI (cl (t o))) then hi else upd hi n (mxI (nI (cl (t i))) (nI (cl (t o))))) (if refdC lo hi me n (nI (cl (t i))) (nI (cl (t o))) then me else upd me n (b2 (mt fo (cl (t i)) (cl (t o))))) (if refdC lo hi me n (nI (cl (t i))) (nI (cl (t o))) then nI n else nI (n + 1)) (if refdC lo hi me n (nI (cl (t i))) (nI (cl (t o))) then qu else qu + nI 1) gu ri (if refdC lo hi me n (nI (cl (t i))) (nI (cl (t o))) then re + nI 1 else re) (svP P z) (va_up (svP F z) (svm z) (bd fo tn w t lo hi me (nI n) qu gu ri re)) (svm z + 1) o0 o1) hP)) rfl rfl hl.1 rfl (lv_room (Nat.le_of_ble_eq_true rfl)) dL_law_383 ⟨by show 100 + 7 * j + 0 + 0 + 0 ≤ 601024; omega, by show 2000 + 64 * j + 0 + 0 + 0 ≤ 7293034; omega⟩) ?_
  refine lv_iload hx hb dL_law_386 (lv_at hl 1 rfl) ?_
  refine lv_icmp_eq (tgt := 393) hx hb dL_law_388 (by decide) (fun c_388 => ?_) (fun c_388 => by exact absurd c_388 (by decide))
  refine lv_iload hx hb dL_law_393 (lv_at hl 1 rfl) ?_
  refine lv_if_ne (tgt := 410) hx hb dL_law_395 (by decide) (fun c_395 => by exact absurd c_395 (by decide)) (fun c_395 => ?_)
  refine lv_aload_n hx hb dL_law_398 rfl (lv_at hl 5 rfl) ?_
  refine lv_iconst (v := nI 0) hx hb dL_law_399 (by decide) ?_
  refine va_lald (D := G.1) (ws := mW G A (nI 0) (nI (svm z + 1)) (nI ln) dg (askF f n (f (11 + i)) (f (11 + o))) sl ik (svF sv f z) sg u7 ++ (oW G oa (vp_updL og 0 ((if refdC lo hi me n (nI (cl (t i))) (nI (cl (t o))) then -1 else b2 (mt fo (cl (t i)) (cl (t o)))).toInt64)) ++ cW G xa so b ce a hh sg ln mk cs (nI 0) fo tn w t (if refdC lo hi me n (nI (cl (t i))) (nI (cl (t o))) then lo else upd lo n (mnI (nI (cl (t i))) (nI (cl (t o))))) (if refdC lo hi me n (nI (cl (t i))) (nI (cl (t o))) then hi else upd hi n (mxI (nI (cl (t i))) (nI (cl (t o))))) (if refdC lo hi me n (nI (cl (t i))) (nI (cl (t o))) then me else upd me n (b2 (mt fo (cl (t i)) (cl (t o))))) (if refdC lo hi me n (nI (cl (t i))) (nI (cl (t o))) then nI n else nI (n + 1)) (if refdC lo hi me n (nI (cl (t i))) (nI (cl (t o))) then qu else qu + nI 1) gu ri (if refdC lo hi me n (nI (cl (t i))) (nI (cl (t o))) then re + nI 1 else re) (svP P z) (va_up (svP F z) (svm z) (bd fo tn w t lo hi me (nI n) qu gu ri re)) (svm z + 1) o0 o1)) hx hb hK hP 7 3 (n := 1) rfl rfl (vp_in_nI (by decide) (by decide)) dL_law_400 ?_
  refine lv_cgl (y := (if refdC lo hi me n (nI (cl (t i))) (nI (cl (t o))) then -1 else b2 (mt fo (cl (t i)) (cl (t o)))).toInt64) vpL ?_
  refine lv_iload hx hb dL_law_401 (lv_at hl 0 rfl) ?_
  refine lv_i2l (v := (askR f n (f (11 + i)) (f (11 + o))).toInt64) hx hb dL_law_403 rfl ?_
  refine lv_cgl (y := (if refdC lo hi me n (nI (cl (t i))) (nI (cl (t o))) then -1 else b2 (mt fo (cl (t i)) (cl (t o)))).toInt64) (by rw [hst.2]) ?_
  refine W.lcmp hx hb dL_law_404 ?_
  refine lv_cgi (y := nI 0) (lg_self _) ?_
  refine lv_if_eq (tgt := 410) hx hb dL_law_405 (by decide) (fun c_405 => ?_) (fun c_405 => by exact absurd c_405 (by decide))
  refine lv_goto (tgt := 1297) hx hb dL_law_410 (by decide) ?_
  refine lv_iinc (v := nI (4 * (j + 1))) (lv' := [(4, .int (nI (4 * (j + 1)))), (6, .int (askR f n (f (11 + i)) (f (11 + o)))), (5, .int (nI 0)), (0, .ref b9), (1, .ref xa), (2, .ref (A 0)), (3, .ref oa)]) hx hb dL_law_1297 hl (k := 6) rfl (iinc4 (4 * j)) (by decide) rfl (fun ls hl => ?_)
  refine lv_goto (tgt := 23) hx hb dL_law_1300 (by decide) ?_
  refine W.widen (k := 100 + 7 * (j + 1)) (n := 2000 + 64 * (j + 1)) (by omega) (by omega) ?_
  exact hHd _ _ _ ⟨vp_updL og 0 ((if refdC lo hi me n (nI (cl (t i))) (nI (cl (t o))) then -1 else b2 (mt fo (cl (t i)) (cl (t o)))).toInt64), sg, ln, mk, cs, nI 0, fo, tn, w, t, if refdC lo hi me n (nI (cl (t i))) (nI (cl (t o))) then lo else upd lo n (mnI (nI (cl (t i))) (nI (cl (t o)))), if refdC lo hi me n (nI (cl (t i))) (nI (cl (t o))) then hi else upd hi n (mxI (nI (cl (t i))) (nI (cl (t o)))), if refdC lo hi me n (nI (cl (t i))) (nI (cl (t o))) then me else upd me n (b2 (mt fo (cl (t i)) (cl (t o)))), if refdC lo hi me n (nI (cl (t i))) (nI (cl (t o))) then nI n else nI (n + 1), if refdC lo hi me n (nI (cl (t i))) (nI (cl (t o))) then qu else qu + nI 1, gu, ri, if refdC lo hi me n (nI (cl (t i))) (nI (cl (t o))) then re + nI 1 else re, svP P z, va_up (svP F z) (svm z) (bd fo tn w t lo hi me (nI n) qu gu ri re), svm z + 1, o0, o1, nI 0, dg, askF f n (f (11 + i)) (f (11 + o)), sl, ik, svF sv f z, u7, rfl, hln, (svm_le hz), hst.1, cen_no, (HI_mono (Nat.le_succ _) (HI_save hz hHI hRS)), (SLr_mono (Nat.le_succ _) hs0), (SLr_mono (Nat.le_succ _) hs1)⟩ hP hD hS ls (lv_sub hl [3, 4, 5, 6, 0] rfl)

set_option maxHeartbeats 8000000 in
set_option maxRecDepth 100000 in
theorem L_guess {p : Program} {l : Launch} {e : Env} {s : State} {m : MethodId} {args : Array Value} {below : List Frame} {meth : Method} {cd : Code} {Q : State → Prop} {G : GG} {Ar : Nat → Prop} {b9 L : Nat} {xs : Nat → Int32} {xa so oa : Nat} {b ce a hh A : Nat → Nat} (hE : LE9 p l s m args cd G Ar b9 L xs) {j : Nat} (hj : 4 * j + 4 ≤ L) (hL : L ≤ 2048) (hHd : LH p l e s m args below meth cd Q G Ar b9 xa so oa b ce a hh A (j + 1))
    (og : Nat → Int64) (sg : Nat → Int32) (ln : Nat) (hln : ln ≤ 60) (mk : Nat → Int32) (cs up fo tn : Int32) (w t lo hi me : Nat → Int32) (n : Nat) (qu gu ri re : Int32) (P : Nat → Nat → Nat) (F : Nat → Nat → Nat → Int32) (z : Nat) (hz : z ≤ 6) (o0 : SLO) (o1 : SLO) (th : Int32) (dg : Int64) (f sl ik sv pl : Nat → Int32) (q : Nat) (hq : q < 512)
    (hRS : RS j fo tn w t lo hi me n qu gu ri re f) (hcv : cenV (qS tn lo hi me n) mk cs up) (hHI : HI j z F sv) (hs0 : SLr j o0 (ik 0) sl) (hs1 : SLr j o1 (ik 1) (fun j => sl (58 + j))) (hp0 : xs (4 * j + 1) = nI q)
    {H : Heap} {locs : List Loc} (hP : PP G (mW G A th (nI z) (nI ln) dg f sl ik sv sg pl ++ (oW G oa og ++ cW G xa so b ce a hh sg ln mk cs up fo tn w t lo hi me (nI n) qu gu ri re P F z o0 o1)) H) (hD : va_D Ar (mW G A th (nI z) (nI ln) dg f sl ik sv sg pl ++ (oW G oa og ++ cW G xa so b ce a hh sg ln mk cs up fo tn w t lo hi me (nI n) qu gu ri re P F z o0 o1))) (hS : va_S Ar s.heap H locs) {ls : Array Slot} (hl : lv_has ls 9 [(0, .ref b9), (1, .ref xa), (2, .ref (A 0)), (3, .ref oa), (4, .int (nI (4 * j)))]) : W p l e room_1 s m args below meth cd H locs (100 + 7 * j) (2000 + 64 * j) Q (F0 m 413 ls []) := by
  obtain ⟨hx, hb, hml, hown, hts, hfl, ⟨hK, hN, hX, hZ0⟩, hA, hXs, hbl, hbA⟩ := id hE
  have hn : n ≤ 12 := hRS.1.1
  have hn17 : f 17 = nI n := hRS.2.1.2.2.1
  have hT : okP t := hRS.2.2.1.2.1
  have hvL : okL lo hi := hRS.2.2.1.2.2.1
  have hvA : okA f := hRS.2.2.1.2.2.2
  have htF : okT f := fun i hi => by rw [hRS.2.1.2.2.2.2 i hi]; exact hT i hi
  have hst := st_guess hq hRS
  refine lv_aload_n hx hb dL_law_413 rfl (lv_at hl 1 rfl) ?_
  refine lv_aload_n hx hb dL_law_414 rfl (lv_at hl 0 rfl) ?_
  refine lv_iload hx hb dL_law_415 (lv_at hl 4 rfl) ?_
  refine lv_iconst (v := nI 1) hx hb dL_law_417 (by decide) ?_
  refine lv_iadd hx hb dL_law_418 ?_
  refine lv_cgi (y := nI ((4 * j) + 1)) (nI_add _ _) ?_
  refine va_sld hx hb hXs hbl hbA hS (vp_in_nI (by omega) (by omega)) dL_law_419 ?_
  refine lv_cgi (y := nI q) (by rw [nI_clamp (by omega)]; exact hp0) ?_
  refine lv_aload_n hx hb dL_law_420 rfl (lv_at hl 3 rfl) ?_
  refine wr_g1i (pre := mW G A th (nI z) (nI ln) dg f sl ik sv sg pl) (mid := oW G oa og ++ cW G xa so b ce a hh sg ln mk cs up fo tn w t lo hi me (nI n) qu gu ri re P F z o0 o1) (vx_runSW (As := [.ref xa, .int (nI q), .ref oa]) (rest := []) ⟨hx, hb, hml, hown, hts⟩ (w_guess_ok l G _ xa oa _ _ og (nI q) (fun sz => c_X6_guess_ok l G sz xa so b ce a hh sg ln hln mk cs up fo tn w t lo hi me n hn qu gu ri re P F z hz o0 o1 q hq)) (vx_cwSW 3 hts gL_law_L_guess rfl rfl rfl (by decide +kernel) ⟨Nat.le_of_ble_eq_true rfl, Nat.le_of_ble_eq_true rfl⟩) (lxS1 (pre := mW G A th (nI z) (nI ln) dg f sl ik sv sg pl) (mid := oW G oa og ++ cW G xa so b ce a hh sg ln mk cs up fo tn w t lo hi me (nI n) qu gu ri re P F z o0 o1) hK hN hX (XZ_at hZ0 hS hA) hP hD) rfl rfl hl.1 rfl (lv_room (Nat.le_of_ble_eq_true rfl)) dL_law_421 ⟨by show 100 + 7 * j + 0 ≤ 601024; omega, by show 2000 + 64 * j + 0 ≤ 7293034; omega⟩) hP hD hS hA (fun r6 u6 H locs hw6 hP9 hD9 hS => ?_)
  obtain ⟨v6, u6⟩ := u6
  have hw6 : r6 = nI 0 ∧ v6 = if nI q = fo then nI 10 else nI 9 - bcn (nI q ^^^ fo) := hw6
  obtain ⟨rfl, rfl⟩ := hw6
  have hP : PP G (mW G A th (nI z) (nI ln) dg f sl ik sv sg pl ++ (oW G oa (vp_updL og 0 ((if nI q = fo then nI 10 else nI 9 - bcn (nI q ^^^ fo)).toInt64)) ++ cW G xa so b ce a hh sg ln mk cs (nI 0) fo tn w t lo hi me (nI n) qu (gu + nI 1) (if nI q = fo then ri + nI 1 else ri) re (svP P z) (va_up (svP F z) (svm z) (bd fo tn w t lo hi me (nI n) qu gu ri re)) (svm z + 1) o0 o1)) _ := hP9
  have hD : va_D Ar (mW G A th (nI z) (nI ln) dg f sl ik sv sg pl ++ (oW G oa (vp_updL og 0 ((if nI q = fo then nI 10 else nI 9 - bcn (nI q ^^^ fo)).toInt64)) ++ cW G xa so b ce a hh sg ln mk cs (nI 0) fo tn w t lo hi me (nI n) qu (gu + nI 1) (if nI q = fo then ri + nI 1 else ri) re (svP P z) (va_up (svP F z) (svm z) (bd fo tn w t lo hi me (nI n) qu gu ri re)) (svm z + 1) o0 o1)) := hD9
  refine lv_istore (lv' := [(5, .int (nI 0)), (0, .ref b9), (1, .ref xa), (2, .ref (A 0)), (3, .ref oa), (4, .int (nI (4 * j)))]) hx hb dL_law_424 hl (by decide) rfl (fun ls hl => ?_)
  refine lv_aload_n hx hb dL_law_426 rfl (lv_at hl 3 rfl) ?_
  refine lv_aload_n hx hb dL_law_427 rfl (lv_at hl 1 rfl) ?_
  refine lv_iload hx hb dL_law_428 (lv_at hl 5 rfl) ?_
  refine lv_iconst (v := nI 1) hx hb dL_law_430 (by decide) ?_
  refine lv_iadd hx hb dL_law_431 ?_
  refine lv_cgi (y := nI ((4 * j) + 1)) (nI_add _ _) ?_
  refine va_sld hx hb hXs hbl hbA hS (vp_in_nI (by omega) (by omega)) dL_law_432 ?_
  refine lv_cgi (y := nI q) (by rw [nI_clamp (by omega)]; exact hp0) ?_
  refine wr_goi (pre := []) (mid := mW G A th (nI z) (nI ln) dg f sl ik sv sg pl) (suf := oW G oa (vp_updL og 0 ((if nI q = fo then nI 10 else nI 9 - bcn (nI q ^^^ fo)).toInt64)) ++ cW G xa so b ce a hh sg ln mk cs (nI 0) fo tn w t lo hi me (nI n) qu (gu + nI 1) (if nI q = fo then ri + nI 1 else ri) re (svP P z) (va_up (svP F z) (svm z) (bd fo tn w t lo hi me (nI n) qu gu ri re)) (svm z + 1) o0 o1) (va_runV (As := [.int (nI q)]) (rest := []) ⟨hx, hb, hml, hown, hts⟩ (c_X7_guess l G _ A th (nI ln) dg f sl ik sv sg pl z hz q hq) (cwV 1 hts gL_law_X7_guess rfl rfl rfl (by decide +kernel) ⟨Nat.le_of_ble_eq_true rfl, Nat.le_of_ble_eq_true rfl⟩) (wV (pre := []) (mid := mW G A th (nI z) (nI ln) dg f sl ik sv sg pl) (suf := oW G oa (vp_updL og 0 ((if nI q = fo then nI 10 else nI 9 - bcn (nI q ^^^ fo)).toInt64)) ++ cW G xa so b ce a hh sg ln mk cs (nI 0) fo tn w t lo hi me (nI n) qu (gu + nI 1) (if nI q = fo then ri + nI 1 else ri) re (svP P z) (va_up (svP F z) (svm z) (bd fo tn w t lo hi me (nI n) qu gu ri re)) (svm z + 1) o0 o1) (va_recv (ws := mW G A th (nI z) (nI ln) dg f sl ik sv sg pl ++ (oW G oa (vp_updL og 0 ((if nI q = fo then nI 10 else nI 9 - bcn (nI q ^^^ fo)).toInt64)) ++ cW G xa so b ce a hh sg ln mk cs (nI 0) fo tn w t lo hi me (nI n) qu (gu + nI 1) (if nI q = fo then ri + nI 1 else ri) re (svP P z) (va_up (svP F z) (svm z) (bd fo tn w t lo hi me (nI n) qu gu ri re)) (svm z + 1) o0 o1)) hK hP (ci := 6) (q0 := 0) rfl rfl) hK hN hP hD) rfl rfl hl.1 rfl (lv_room (Nat.le_of_ble_eq_true rfl)) dL_law_433 ⟨by show 100 + 7 * j + 0 + 0 ≤ 601024; omega, by show 2000 + 64 * j + 0 + 0 ≤ 7293034; omega⟩) hP hD hS hA (fun r7 u7 H locs hw7 hP9 hD9 hS => ?_)
  have hw7 : r7 = gueR f (nI q) := hw7
  subst hw7
  have hP : PP G (mW G A (nI 0) (nI (svm z + 1)) (nI ln) dg (gueF f (nI q)) sl ik (svF sv f z) sg pl ++ (oW G oa (vp_updL og 0 ((if nI q = fo then nI 10 else nI 9 - bcn (nI q ^^^ fo)).toInt64)) ++ cW G xa so b ce a hh sg ln mk cs (nI 0) fo tn w t lo hi me (nI n) qu (gu + nI 1) (if nI q = fo then ri + nI 1 else ri) re (svP P z) (va_up (svP F z) (svm z) (bd fo tn w t lo hi me (nI n) qu gu ri re)) (svm z + 1) o0 o1)) _ := hP9
  have hD : va_D Ar (mW G A (nI 0) (nI (svm z + 1)) (nI ln) dg (gueF f (nI q)) sl ik (svF sv f z) sg pl ++ (oW G oa (vp_updL og 0 ((if nI q = fo then nI 10 else nI 9 - bcn (nI q ^^^ fo)).toInt64)) ++ cW G xa so b ce a hh sg ln mk cs (nI 0) fo tn w t lo hi me (nI n) qu (gu + nI 1) (if nI q = fo then ri + nI 1 else ri) re (svP P z) (va_up (svP F z) (svm z) (bd fo tn w t lo hi me (nI n) qu gu ri re)) (svm z + 1) o0 o1)) := hD9
  refine lv_istore (lv' := [(6, .int (gueR f (nI q))), (5, .int (nI 0)), (0, .ref b9), (1, .ref xa), (2, .ref (A 0)), (3, .ref oa), (4, .int (nI (4 * j)))]) hx hb dL_law_436 hl (by decide) rfl (fun ls hl => ?_)
  refine lv_aload_n hx hb dL_law_438 rfl (lv_at hl 4 rfl) ?_
  refine rd_go (va_runV (As := []) (rest := []) ⟨hx, hb, hml, hown, hts⟩ (c_X7_thrown l G A (nI 0) (nI (svm z + 1)) (nI ln) dg (gueF f (nI q)) sl ik (svF sv f z) sg pl) (cwV 0 hts gL_law_X7_thrown rfl rfl rfl (by decide +kernel) ⟨Nat.le_of_ble_eq_true rfl, Nat.le_of_ble_eq_true rfl⟩) (rV (ws := mW G A (nI 0) (nI (svm z + 1)) (nI ln) dg (gueF f (nI q)) sl ik (svF sv f z) sg pl) (va_recv (ws := mW G A (nI 0) (nI (svm z + 1)) (nI ln) dg (gueF f (nI q)) sl ik (svF sv f z) sg pl ++ (oW G oa (vp_updL og 0 ((if nI q = fo then nI 10 else nI 9 - bcn (nI q ^^^ fo)).toInt64)) ++ cW G xa so b ce a hh sg ln mk cs (nI 0) fo tn w t lo hi me (nI n) qu (gu + nI 1) (if nI q = fo then ri + nI 1 else ri) re (svP P z) (va_up (svP F z) (svm z) (bd fo tn w t lo hi me (nI n) qu gu ri re)) (svm z + 1) o0 o1)) hK hP (ci := 6) (q0 := 0) rfl rfl) hK hN (P_mid (pre := []) (mid := mW G A (nI 0) (nI (svm z + 1)) (nI ln) dg (gueF f (nI q)) sl ik (svF sv f z) sg pl) (suf := oW G oa (vp_updL og 0 ((if nI q = fo then nI 10 else nI 9 - bcn (nI q ^^^ fo)).toInt64)) ++ cW G xa so b ce a hh sg ln mk cs (nI 0) fo tn w t lo hi me (nI n) qu (gu + nI 1) (if nI q = fo then ri + nI 1 else ri) re (svP P z) (va_up (svP F z) (svm z) (bd fo tn w t lo hi me (nI n) qu gu ri re)) (svm z + 1) o0 o1) hP)) rfl rfl hl.1 rfl (lv_room (Nat.le_of_ble_eq_true rfl)) dL_law_439 ⟨by show 100 + 7 * j + 0 + 0 + 0 ≤ 601024; omega, by show 2000 + 64 * j + 0 + 0 + 0 ≤ 7293034; omega⟩) ?_
  refine lv_iload hx hb dL_law_442 (lv_at hl 1 rfl) ?_
  refine lv_icmp_eq (tgt := 449) hx hb dL_law_444 (by decide) (fun c_444 => ?_) (fun c_444 => by exact absurd c_444 (by decide))
  refine lv_iload hx hb dL_law_449 (lv_at hl 1 rfl) ?_
  refine lv_if_ne (tgt := 466) hx hb dL_law_451 (by decide) (fun c_451 => by exact absurd c_451 (by decide)) (fun c_451 => ?_)
  refine lv_aload_n hx hb dL_law_454 rfl (lv_at hl 5 rfl) ?_
  refine lv_iconst (v := nI 0) hx hb dL_law_455 (by decide) ?_
  refine va_lald (D := G.1) (ws := mW G A (nI 0) (nI (svm z + 1)) (nI ln) dg (gueF f (nI q)) sl ik (svF sv f z) sg pl ++ (oW G oa (vp_updL og 0 ((if nI q = fo then nI 10 else nI 9 - bcn (nI q ^^^ fo)).toInt64)) ++ cW G xa so b ce a hh sg ln mk cs (nI 0) fo tn w t lo hi me (nI n) qu (gu + nI 1) (if nI q = fo then ri + nI 1 else ri) re (svP P z) (va_up (svP F z) (svm z) (bd fo tn w t lo hi me (nI n) qu gu ri re)) (svm z + 1) o0 o1)) hx hb hK hP 7 3 (n := 1) rfl rfl (vp_in_nI (by decide) (by decide)) dL_law_456 ?_
  refine lv_cgl (y := (if nI q = fo then nI 10 else nI 9 - bcn (nI q ^^^ fo)).toInt64) vpL ?_
  refine lv_iload hx hb dL_law_457 (lv_at hl 0 rfl) ?_
  refine lv_i2l (v := (gueR f (nI q)).toInt64) hx hb dL_law_459 rfl ?_
  refine lv_cgl (y := (if nI q = fo then nI 10 else nI 9 - bcn (nI q ^^^ fo)).toInt64) (by rw [hst.2]) ?_
  refine W.lcmp hx hb dL_law_460 ?_
  refine lv_cgi (y := nI 0) (lg_self _) ?_
  refine lv_if_eq (tgt := 466) hx hb dL_law_461 (by decide) (fun c_461 => ?_) (fun c_461 => by exact absurd c_461 (by decide))
  refine lv_goto (tgt := 1297) hx hb dL_law_466 (by decide) ?_
  refine lv_iinc (v := nI (4 * (j + 1))) (lv' := [(4, .int (nI (4 * (j + 1)))), (6, .int (gueR f (nI q))), (5, .int (nI 0)), (0, .ref b9), (1, .ref xa), (2, .ref (A 0)), (3, .ref oa)]) hx hb dL_law_1297 hl (k := 6) rfl (iinc4 (4 * j)) (by decide) rfl (fun ls hl => ?_)
  refine lv_goto (tgt := 23) hx hb dL_law_1300 (by decide) ?_
  refine W.widen (k := 100 + 7 * (j + 1)) (n := 2000 + 64 * (j + 1)) (by omega) (by omega) ?_
  exact hHd _ _ _ ⟨vp_updL og 0 ((if nI q = fo then nI 10 else nI 9 - bcn (nI q ^^^ fo)).toInt64), sg, ln, mk, cs, nI 0, fo, tn, w, t, lo, hi, me, nI n, qu, gu + nI 1, if nI q = fo then ri + nI 1 else ri, re, svP P z, va_up (svP F z) (svm z) (bd fo tn w t lo hi me (nI n) qu gu ri re), svm z + 1, o0, o1, nI 0, dg, gueF f (nI q), sl, ik, svF sv f z, pl, rfl, hln, (svm_le hz), hst.1, cen_no, (HI_mono (Nat.le_succ _) (HI_save hz hHI hRS)), (SLr_mono (Nat.le_succ _) hs0), (SLr_mono (Nat.le_succ _) hs1)⟩ hP hD hS ls (lv_sub hl [3, 4, 5, 6, 0] rfl)

set_option maxHeartbeats 8000000 in
set_option maxRecDepth 100000 in
theorem L_forget {p : Program} {l : Launch} {e : Env} {s : State} {m : MethodId} {args : Array Value} {below : List Frame} {meth : Method} {cd : Code} {Q : State → Prop} {G : GG} {Ar : Nat → Prop} {b9 L : Nat} {xs : Nat → Int32} {xa so oa : Nat} {b ce a hh A : Nat → Nat} (hE : LE9 p l s m args cd G Ar b9 L xs) {j : Nat} (hj : 4 * j + 4 ≤ L) (hL : L ≤ 2048) (hHd : LH p l e s m args below meth cd Q G Ar b9 xa so oa b ce a hh A (j + 1))
    (og : Nat → Int64) (sg : Nat → Int32) (ln : Nat) (hln : ln ≤ 60) (mk : Nat → Int32) (cs up fo tn : Int32) (w t lo hi me : Nat → Int32) (n : Nat) (qu gu ri re : Int32) (P : Nat → Nat → Nat) (F : Nat → Nat → Nat → Int32) (z : Nat) (hz : z ≤ 6) (o0 : SLO) (o1 : SLO) (th : Int32) (dg : Int64) (f sl ik sv pl : Nat → Int32) 
    (hRS : RS j fo tn w t lo hi me n qu gu ri re f) (hcv : cenV (qS tn lo hi me n) mk cs up) (hHI : HI j z F sv) (hs0 : SLr j o0 (ik 0) sl) (hs1 : SLr j o1 (ik 1) (fun j => sl (58 + j))) 
    {H : Heap} {locs : List Loc} (hP : PP G (mW G A th (nI z) (nI ln) dg f sl ik sv sg pl ++ (oW G oa og ++ cW G xa so b ce a hh sg ln mk cs up fo tn w t lo hi me (nI n) qu gu ri re P F z o0 o1)) H) (hD : va_D Ar (mW G A th (nI z) (nI ln) dg f sl ik sv sg pl ++ (oW G oa og ++ cW G xa so b ce a hh sg ln mk cs up fo tn w t lo hi me (nI n) qu gu ri re P F z o0 o1))) (hS : va_S Ar s.heap H locs) {ls : Array Slot} (hl : lv_has ls 9 [(0, .ref b9), (1, .ref xa), (2, .ref (A 0)), (3, .ref oa), (4, .int (nI (4 * j)))]) : W p l e room_1 s m args below meth cd H locs (100 + 7 * j) (2000 + 64 * j) Q (F0 m 469 ls []) := by
  obtain ⟨hx, hb, hml, hown, hts, hfl, ⟨hK, hN, hX, hZ0⟩, hA, hXs, hbl, hbA⟩ := id hE
  have hn : n ≤ 12 := hRS.1.1
  have hn17 : f 17 = nI n := hRS.2.1.2.2.1
  have hT : okP t := hRS.2.2.1.2.1
  have hvL : okL lo hi := hRS.2.2.1.2.2.1
  have hvA : okA f := hRS.2.2.1.2.2.2
  have htF : okT f := fun i hi => by rw [hRS.2.1.2.2.2.2 i hi]; exact hT i hi
  have hst := st_forget hRS
  refine lv_aload_n hx hb dL_law_469 rfl (lv_at hl 1 rfl) ?_
  refine wr_g1i (pre := mW G A th (nI z) (nI ln) dg f sl ik sv sg pl ++ oW G oa og) (mid := cW G xa so b ce a hh sg ln mk cs up fo tn w t lo hi me (nI n) qu gu ri re P F z o0 o1) (va_runV (As := []) (rest := []) ⟨hx, hb, hml, hown, hts⟩ (c_X6_forget_ok l G _ xa so b ce a hh sg ln hln mk cs up fo tn w t lo hi me n hn qu gu ri re P F z hz o0 o1 ) (cwV 0 hts gL_law_X6_forget rfl rfl rfl (by decide +kernel) ⟨Nat.le_of_ble_eq_true rfl, Nat.le_of_ble_eq_true rfl⟩) (wV1 (pre := mW G A th (nI z) (nI ln) dg f sl ik sv sg pl ++ oW G oa og) (mid := cW G xa so b ce a hh sg ln mk cs up fo tn w t lo hi me (nI n) qu gu ri re P F z o0 o1) (va_recv (ws := mW G A th (nI z) (nI ln) dg f sl ik sv sg pl ++ (oW G oa og ++ cW G xa so b ce a hh sg ln mk cs up fo tn w t lo hi me (nI n) qu gu ri re P F z o0 o1)) hK hP (ci := 5) (q0 := 8) rfl rfl) hK hN hP hD) rfl rfl hl.1 rfl (lv_room (Nat.le_of_ble_eq_true rfl)) dL_law_470 ⟨by show 100 + 7 * j + 0 ≤ 601024; omega, by show 2000 + 64 * j + 0 ≤ 7293034; omega⟩) hP hD hS hA (fun r6 u6 H locs hw6 hP9 hD9 hS => ?_)
  have hw6 : r6 = nI n := hw6
  subst hw6
  have hP : PP G (mW G A th (nI z) (nI ln) dg f sl ik sv sg pl ++ (oW G oa og ++ cW G xa so b ce a hh sg ln mk cs (nI 0) fo tn w t lo hi me (nI 0) qu gu ri re (svP P z) (va_up (svP F z) (svm z) (bd fo tn w t lo hi me (nI n) qu gu ri re)) (svm z + 1) o0 o1)) _ := hP9
  have hD : va_D Ar (mW G A th (nI z) (nI ln) dg f sl ik sv sg pl ++ (oW G oa og ++ cW G xa so b ce a hh sg ln mk cs (nI 0) fo tn w t lo hi me (nI 0) qu gu ri re (svP P z) (va_up (svP F z) (svm z) (bd fo tn w t lo hi me (nI n) qu gu ri re)) (svm z + 1) o0 o1)) := hD9
  refine lv_aload_n hx hb dL_law_473 rfl (lv_at hl 2 rfl) ?_
  refine wr_goi (pre := []) (mid := mW G A th (nI z) (nI ln) dg f sl ik sv sg pl) (suf := oW G oa og ++ cW G xa so b ce a hh sg ln mk cs (nI 0) fo tn w t lo hi me (nI 0) qu gu ri re (svP P z) (va_up (svP F z) (svm z) (bd fo tn w t lo hi me (nI n) qu gu ri re)) (svm z + 1) o0 o1) (va_runV (As := []) (rest := [.int (nI n)]) ⟨hx, hb, hml, hown, hts⟩ (c_X7_forget l G _ A th (nI ln) dg f sl ik sv sg pl z hz) (cwV 0 hts gL_law_X7_forget rfl rfl rfl (by decide +kernel) ⟨Nat.le_of_ble_eq_true rfl, Nat.le_of_ble_eq_true rfl⟩) (wV (pre := []) (mid := mW G A th (nI z) (nI ln) dg f sl ik sv sg pl) (suf := oW G oa og ++ cW G xa so b ce a hh sg ln mk cs (nI 0) fo tn w t lo hi me (nI 0) qu gu ri re (svP P z) (va_up (svP F z) (svm z) (bd fo tn w t lo hi me (nI n) qu gu ri re)) (svm z + 1) o0 o1) (va_recv (ws := mW G A th (nI z) (nI ln) dg f sl ik sv sg pl ++ (oW G oa og ++ cW G xa so b ce a hh sg ln mk cs (nI 0) fo tn w t lo hi me (nI 0) qu gu ri re (svP P z) (va_up (svP F z) (svm z) (bd fo tn w t lo hi me (nI n) qu gu ri re)) (svm z + 1) o0 o1)) hK hP (ci := 6) (q0 := 0) rfl rfl) hK hN hP hD) rfl rfl hl.1 rfl (lv_room (Nat.le_of_ble_eq_true rfl)) dL_law_474 ⟨by show 100 + 7 * j + 0 + 0 ≤ 601024; omega, by show 2000 + 64 * j + 0 + 0 ≤ 7293034; omega⟩) hP hD hS hA (fun r7 u7 H locs hw7 hP9 hD9 hS => ?_)
  have hw7 : r7 = f 17 := hw7
  subst hw7
  have hP : PP G (mW G A (nI 0) (nI (svm z + 1)) (nI ln) dg (zA f 54) sl ik (svF sv f z) sg pl ++ (oW G oa og ++ cW G xa so b ce a hh sg ln mk cs (nI 0) fo tn w t lo hi me (nI 0) qu gu ri re (svP P z) (va_up (svP F z) (svm z) (bd fo tn w t lo hi me (nI n) qu gu ri re)) (svm z + 1) o0 o1)) _ := hP9
  have hD : va_D Ar (mW G A (nI 0) (nI (svm z + 1)) (nI ln) dg (zA f 54) sl ik (svF sv f z) sg pl ++ (oW G oa og ++ cW G xa so b ce a hh sg ln mk cs (nI 0) fo tn w t lo hi me (nI 0) qu gu ri re (svP P z) (va_up (svP F z) (svm z) (bd fo tn w t lo hi me (nI n) qu gu ri re)) (svm z + 1) o0 o1)) := hD9
  refine lv_cgi (y := nI n) (hst.2) ?_
  refine lv_icmp_eq (tgt := 1297) hx hb dL_law_477 (by decide) (fun c_477 => ?_) (fun c_477 => by exact absurd rfl c_477)
  refine lv_iinc (v := nI (4 * (j + 1))) (lv' := [(4, .int (nI (4 * (j + 1)))), (0, .ref b9), (1, .ref xa), (2, .ref (A 0)), (3, .ref oa)]) hx hb dL_law_1297 hl (k := 4) rfl (iinc4 (4 * j)) (by decide) rfl (fun ls hl => ?_)
  refine lv_goto (tgt := 23) hx hb dL_law_1300 (by decide) ?_
  refine W.widen (k := 100 + 7 * (j + 1)) (n := 2000 + 64 * (j + 1)) (by omega) (by omega) ?_
  exact hHd _ _ _ ⟨og, sg, ln, mk, cs, nI 0, fo, tn, w, t, lo, hi, me, nI 0, qu, gu, ri, re, svP P z, va_up (svP F z) (svm z) (bd fo tn w t lo hi me (nI n) qu gu ri re), svm z + 1, o0, o1, nI 0, dg, zA f 54, sl, ik, svF sv f z, pl, rfl, hln, (svm_le hz), hst.1, cen_no, (HI_mono (Nat.le_succ _) (HI_save hz hHI hRS)), (SLr_mono (Nat.le_succ _) hs0), (SLr_mono (Nat.le_succ _) hs1)⟩ hP hD hS ls (lv_sub hl [1, 2, 3, 4, 0] rfl)

set_option maxHeartbeats 8000000 in
set_option maxRecDepth 100000 in
theorem L_load {p : Program} {l : Launch} {e : Env} {s : State} {m : MethodId} {args : Array Value} {below : List Frame} {meth : Method} {cd : Code} {Q : State → Prop} {G : GG} {Ar : Nat → Prop} {b9 L : Nat} {xs : Nat → Int32} {xa so oa : Nat} {b ce a hh A : Nat → Nat} (hE : LE9 p l s m args cd G Ar b9 L xs) {j : Nat} (hj : 4 * j + 4 ≤ L) (hL : L ≤ 2048) (hHd : LH p l e s m args below meth cd Q G Ar b9 xa so oa b ce a hh A (j + 1))
    (og : Nat → Int64) (sg : Nat → Int32) (ln : Nat) (hln : ln ≤ 60) (mk : Nat → Int32) (cs up fo tn : Int32) (w t lo hi me : Nat → Int32) (n : Nat) (qu gu ri re : Int32) (P : Nat → Nat → Nat) (F : Nat → Nat → Nat → Int32) (z : Nat) (hz : z ≤ 6) (o0 : SLO) (o1 : SLO) (th : Int32) (dg : Int64) (f sl ik sv pl : Nat → Int32) (htl : tlsC sg ln = true)
    (hRS : RS j fo tn w t lo hi me n qu gu ri re f) (hcv : cenV (qS tn lo hi me n) mk cs up) (hHI : HI j z F sv) (hs0 : SLr j o0 (ik 0) sl) (hs1 : SLr j o1 (ik 1) (fun j => sl (58 + j))) 
    {H : Heap} {locs : List Loc} (hP : PP G (mW G A th (nI z) (nI ln) dg f sl ik sv sg pl ++ (oW G oa og ++ cW G xa so b ce a hh sg ln mk cs up fo tn w t lo hi me (nI n) qu gu ri re P F z o0 o1)) H) (hD : va_D Ar (mW G A th (nI z) (nI ln) dg f sl ik sv sg pl ++ (oW G oa og ++ cW G xa so b ce a hh sg ln mk cs up fo tn w t lo hi me (nI n) qu gu ri re P F z o0 o1))) (hS : va_S Ar s.heap H locs) {ls : Array Slot} (hl : lv_has ls 9 [(0, .ref b9), (1, .ref xa), (2, .ref (A 0)), (3, .ref oa), (4, .int (nI (4 * j)))]) : W p l e room_1 s m args below meth cd H locs (100 + 7 * j) (2000 + 64 * j) Q (F0 m 564 ls []) := by
  obtain ⟨hx, hb, hml, hown, hts, hfl, ⟨hK, hN, hX, hZ0⟩, hA, hXs, hbl, hbA⟩ := id hE
  have hn : n ≤ 12 := hRS.1.1
  have hn17 : f 17 = nI n := hRS.2.1.2.2.1
  have hT : okP t := hRS.2.2.1.2.1
  have hvL : okL lo hi := hRS.2.2.1.2.2.1
  have hvA : okA f := hRS.2.2.1.2.2.2
  have htF : okT f := fun i hi => by rw [hRS.2.1.2.2.2.2 i hi]; exact hT i hi
  have hst := st_load hln htl hRS
  refine lv_aload_n hx hb dL_law_564 rfl (lv_at hl 1 rfl) ?_
  refine lv_aload_n hx hb dL_law_565 rfl (lv_at hl 3 rfl) ?_
  refine wr_g1i (pre := mW G A th (nI z) (nI ln) dg f sl ik sv sg pl) (mid := oW G oa og ++ cW G xa so b ce a hh sg ln mk cs up fo tn w t lo hi me (nI n) qu gu ri re P F z o0 o1) (vx_runSW (As := [.ref xa, .ref oa]) (rest := []) ⟨hx, hb, hml, hown, hts⟩ (w_load_ok l G _ xa oa _ _ og  (fun sz => c_X6_load_ok l G sz xa so b ce a hh sg ln hln mk cs up fo tn w t lo hi me n hn qu gu ri re P F z hz o0 o1 htl)) (vx_cwSW 2 hts gL_law_L_load rfl rfl rfl (by decide +kernel) ⟨Nat.le_of_ble_eq_true rfl, Nat.le_of_ble_eq_true rfl⟩) (lxS1 (pre := mW G A th (nI z) (nI ln) dg f sl ik sv sg pl) (mid := oW G oa og ++ cW G xa so b ce a hh sg ln mk cs up fo tn w t lo hi me (nI n) qu gu ri re P F z o0 o1) hK hN hX (XZ_at hZ0 hS hA) hP hD) rfl rfl hl.1 rfl (lv_room (Nat.le_of_ble_eq_true rfl)) dL_law_566 ⟨by show 100 + 7 * j + 0 ≤ 601024; omega, by show 2000 + 64 * j + 0 ≤ 7293034; omega⟩) hP hD hS hA (fun r6 u6 H locs hw6 hP9 hD9 hS => ?_)
  obtain ⟨v6, u6⟩ := u6
  have hw6 : r6 = nI 0 ∧ v6 = bcn (fdC sg ln) := hw6
  obtain ⟨rfl, rfl⟩ := hw6
  have hP : PP G (mW G A th (nI z) (nI ln) dg f sl ik sv sg pl ++ (oW G oa (vp_updL og 0 ((bcn (fdC sg ln)).toInt64)) ++ cW G xa so b ce a hh sg 0 mk cs (nI 0) (fdC sg ln) (nI 0) (fun j => if j < 9 then nI 0 else w j) (fun j => if j < 6 then nI (pnC sg ln j) else t j) lo hi me (nI 0) qu gu ri re (svP P z) (va_up (svP F z) (svm z) (bd fo tn w t lo hi me (nI n) qu gu ri re)) (svm z + 1) o0 o1)) _ := hP9
  have hD : va_D Ar (mW G A th (nI z) (nI ln) dg f sl ik sv sg pl ++ (oW G oa (vp_updL og 0 ((bcn (fdC sg ln)).toInt64)) ++ cW G xa so b ce a hh sg 0 mk cs (nI 0) (fdC sg ln) (nI 0) (fun j => if j < 9 then nI 0 else w j) (fun j => if j < 6 then nI (pnC sg ln j) else t j) lo hi me (nI 0) qu gu ri re (svP P z) (va_up (svP F z) (svm z) (bd fo tn w t lo hi me (nI n) qu gu ri re)) (svm z + 1) o0 o1)) := hD9
  refine lv_istore (lv' := [(5, .int (nI 0)), (0, .ref b9), (1, .ref xa), (2, .ref (A 0)), (3, .ref oa), (4, .int (nI (4 * j)))]) hx hb dL_law_569 hl (by decide) rfl (fun ls hl => ?_)
  refine lv_aload_n hx hb dL_law_571 rfl (lv_at hl 3 rfl) ?_
  refine wr_goi (pre := []) (mid := mW G A th (nI z) (nI ln) dg f sl ik sv sg pl) (suf := oW G oa (vp_updL og 0 ((bcn (fdC sg ln)).toInt64)) ++ cW G xa so b ce a hh sg 0 mk cs (nI 0) (fdC sg ln) (nI 0) (fun j => if j < 9 then nI 0 else w j) (fun j => if j < 6 then nI (pnC sg ln j) else t j) lo hi me (nI 0) qu gu ri re (svP P z) (va_up (svP F z) (svm z) (bd fo tn w t lo hi me (nI n) qu gu ri re)) (svm z + 1) o0 o1) (va_runV (As := []) (rest := []) ⟨hx, hb, hml, hown, hts⟩ (c_X7_load l G _ A th dg f sl ik sv sg pl z hz ln hln ((tls_eq hln).mpr htl).1 ((tls_eq hln).mpr htl).2) (cwV 0 hts gL_law_X7_load rfl rfl rfl (by decide +kernel) ⟨Nat.le_of_ble_eq_true rfl, Nat.le_of_ble_eq_true rfl⟩) (wV (pre := []) (mid := mW G A th (nI z) (nI ln) dg f sl ik sv sg pl) (suf := oW G oa (vp_updL og 0 ((bcn (fdC sg ln)).toInt64)) ++ cW G xa so b ce a hh sg 0 mk cs (nI 0) (fdC sg ln) (nI 0) (fun j => if j < 9 then nI 0 else w j) (fun j => if j < 6 then nI (pnC sg ln j) else t j) lo hi me (nI 0) qu gu ri re (svP P z) (va_up (svP F z) (svm z) (bd fo tn w t lo hi me (nI n) qu gu ri re)) (svm z + 1) o0 o1) (va_recv (ws := mW G A th (nI z) (nI ln) dg f sl ik sv sg pl ++ (oW G oa (vp_updL og 0 ((bcn (fdC sg ln)).toInt64)) ++ cW G xa so b ce a hh sg 0 mk cs (nI 0) (fdC sg ln) (nI 0) (fun j => if j < 9 then nI 0 else w j) (fun j => if j < 6 then nI (pnC sg ln j) else t j) lo hi me (nI 0) qu gu ri re (svP P z) (va_up (svP F z) (svm z) (bd fo tn w t lo hi me (nI n) qu gu ri re)) (svm z + 1) o0 o1)) hK hP (ci := 6) (q0 := 0) rfl rfl) hK hN hP hD) rfl rfl hl.1 rfl (lv_room (Nat.le_of_ble_eq_true rfl)) dL_law_572 ⟨by show 100 + 7 * j + 0 + 0 ≤ 601024; omega, by show 2000 + 64 * j + 0 + 0 ≤ 7293034; omega⟩) hP hD hS hA (fun r7 u7 H locs hw7 hP9 hD9 hS => ?_)
  have hw7 : r7 = bitsM (ldS f sg ln).2.1 := hw7
  subst hw7
  have hP : PP G (mW G A (nI 0) (nI (svm z + 1)) (nI 0) dg (loadF f sg ln) sl ik (svF sv f z) sg pl ++ (oW G oa (vp_updL og 0 ((bcn (fdC sg ln)).toInt64)) ++ cW G xa so b ce a hh sg 0 mk cs (nI 0) (fdC sg ln) (nI 0) (fun j => if j < 9 then nI 0 else w j) (fun j => if j < 6 then nI (pnC sg ln j) else t j) lo hi me (nI 0) qu gu ri re (svP P z) (va_up (svP F z) (svm z) (bd fo tn w t lo hi me (nI n) qu gu ri re)) (svm z + 1) o0 o1)) _ := hP9
  have hD : va_D Ar (mW G A (nI 0) (nI (svm z + 1)) (nI 0) dg (loadF f sg ln) sl ik (svF sv f z) sg pl ++ (oW G oa (vp_updL og 0 ((bcn (fdC sg ln)).toInt64)) ++ cW G xa so b ce a hh sg 0 mk cs (nI 0) (fdC sg ln) (nI 0) (fun j => if j < 9 then nI 0 else w j) (fun j => if j < 6 then nI (pnC sg ln j) else t j) lo hi me (nI 0) qu gu ri re (svP P z) (va_up (svP F z) (svm z) (bd fo tn w t lo hi me (nI n) qu gu ri re)) (svm z + 1) o0 o1)) := hD9
  refine lv_istore (lv' := [(6, .int (bitsM (ldS f sg ln).2.1)), (5, .int (nI 0)), (0, .ref b9), (1, .ref xa), (2, .ref (A 0)), (3, .ref oa), (4, .int (nI (4 * j)))]) hx hb dL_law_575 hl (by decide) rfl (fun ls hl => ?_)
  refine lv_aload_n hx hb dL_law_577 rfl (lv_at hl 4 rfl) ?_
  refine rd_go (va_runV (As := []) (rest := []) ⟨hx, hb, hml, hown, hts⟩ (c_X7_thrown l G A (nI 0) (nI (svm z + 1)) (nI 0) dg (loadF f sg ln) sl ik (svF sv f z) sg pl) (cwV 0 hts gL_law_X7_thrown rfl rfl rfl (by decide +kernel) ⟨Nat.le_of_ble_eq_true rfl, Nat.le_of_ble_eq_true rfl⟩) (rV (ws := mW G A (nI 0) (nI (svm z + 1)) (nI 0) dg (loadF f sg ln) sl ik (svF sv f z) sg pl) (va_recv (ws := mW G A (nI 0) (nI (svm z + 1)) (nI 0) dg (loadF f sg ln) sl ik (svF sv f z) sg pl ++ (oW G oa (vp_updL og 0 ((bcn (fdC sg ln)).toInt64)) ++ cW G xa so b ce a hh sg 0 mk cs (nI 0) (fdC sg ln) (nI 0) (fun j => if j < 9 then nI 0 else w j) (fun j => if j < 6 then nI (pnC sg ln j) else t j) lo hi me (nI 0) qu gu ri re (svP P z) (va_up (svP F z) (svm z) (bd fo tn w t lo hi me (nI n) qu gu ri re)) (svm z + 1) o0 o1)) hK hP (ci := 6) (q0 := 0) rfl rfl) hK hN (P_mid (pre := []) (mid := mW G A (nI 0) (nI (svm z + 1)) (nI 0) dg (loadF f sg ln) sl ik (svF sv f z) sg pl) (suf := oW G oa (vp_updL og 0 ((bcn (fdC sg ln)).toInt64)) ++ cW G xa so b ce a hh sg 0 mk cs (nI 0) (fdC sg ln) (nI 0) (fun j => if j < 9 then nI 0 else w j) (fun j => if j < 6 then nI (pnC sg ln j) else t j) lo hi me (nI 0) qu gu ri re (svP P z) (va_up (svP F z) (svm z) (bd fo tn w t lo hi me (nI n) qu gu ri re)) (svm z + 1) o0 o1) hP)) rfl rfl hl.1 rfl (lv_room (Nat.le_of_ble_eq_true rfl)) dL_law_578 ⟨by show 100 + 7 * j + 0 + 0 + 0 ≤ 601024; omega, by show 2000 + 64 * j + 0 + 0 + 0 ≤ 7293034; omega⟩) ?_
  refine lv_iload hx hb dL_law_581 (lv_at hl 1 rfl) ?_
  refine lv_icmp_eq (tgt := 588) hx hb dL_law_583 (by decide) (fun c_583 => ?_) (fun c_583 => by exact absurd c_583 (by decide))
  refine lv_iload hx hb dL_law_588 (lv_at hl 1 rfl) ?_
  refine lv_if_ne (tgt := 605) hx hb dL_law_590 (by decide) (fun c_590 => by exact absurd c_590 (by decide)) (fun c_590 => ?_)
  refine lv_aload_n hx hb dL_law_593 rfl (lv_at hl 5 rfl) ?_
  refine lv_iconst (v := nI 0) hx hb dL_law_594 (by decide) ?_
  refine va_lald (D := G.1) (ws := mW G A (nI 0) (nI (svm z + 1)) (nI 0) dg (loadF f sg ln) sl ik (svF sv f z) sg pl ++ (oW G oa (vp_updL og 0 ((bcn (fdC sg ln)).toInt64)) ++ cW G xa so b ce a hh sg 0 mk cs (nI 0) (fdC sg ln) (nI 0) (fun j => if j < 9 then nI 0 else w j) (fun j => if j < 6 then nI (pnC sg ln j) else t j) lo hi me (nI 0) qu gu ri re (svP P z) (va_up (svP F z) (svm z) (bd fo tn w t lo hi me (nI n) qu gu ri re)) (svm z + 1) o0 o1)) hx hb hK hP 7 3 (n := 1) rfl rfl (vp_in_nI (by decide) (by decide)) dL_law_595 ?_
  refine lv_cgl (y := (bcn (fdC sg ln)).toInt64) vpL ?_
  refine lv_iload hx hb dL_law_596 (lv_at hl 0 rfl) ?_
  refine lv_i2l (v := (bitsM (ldS f sg ln).2.1).toInt64) hx hb dL_law_598 rfl ?_
  refine lv_cgl (y := (bcn (fdC sg ln)).toInt64) (by rw [hst.2]) ?_
  refine W.lcmp hx hb dL_law_599 ?_
  refine lv_cgi (y := nI 0) (lg_self _) ?_
  refine lv_if_eq (tgt := 605) hx hb dL_law_600 (by decide) (fun c_600 => ?_) (fun c_600 => by exact absurd c_600 (by decide))
  refine lv_goto (tgt := 1297) hx hb dL_law_605 (by decide) ?_
  refine lv_iinc (v := nI (4 * (j + 1))) (lv' := [(4, .int (nI (4 * (j + 1)))), (6, .int (bitsM (ldS f sg ln).2.1)), (5, .int (nI 0)), (0, .ref b9), (1, .ref xa), (2, .ref (A 0)), (3, .ref oa)]) hx hb dL_law_1297 hl (k := 6) rfl (iinc4 (4 * j)) (by decide) rfl (fun ls hl => ?_)
  refine lv_goto (tgt := 23) hx hb dL_law_1300 (by decide) ?_
  refine W.widen (k := 100 + 7 * (j + 1)) (n := 2000 + 64 * (j + 1)) (by omega) (by omega) ?_
  exact hHd _ _ _ ⟨vp_updL og 0 ((bcn (fdC sg ln)).toInt64), sg, 0, mk, cs, nI 0, fdC sg ln, nI 0, fun j => if j < 9 then nI 0 else w j, fun j => if j < 6 then nI (pnC sg ln j) else t j, lo, hi, me, nI 0, qu, gu, ri, re, svP P z, va_up (svP F z) (svm z) (bd fo tn w t lo hi me (nI n) qu gu ri re), svm z + 1, o0, o1, nI 0, dg, loadF f sg ln, sl, ik, svF sv f z, pl, rfl, (by omega), (svm_le hz), hst.1, cen_no, (HI_mono (Nat.le_succ _) (HI_save hz hHI hRS)), (SLr_mono (Nat.le_succ _) hs0), (SLr_mono (Nat.le_succ _) hs1)⟩ hP hD hS ls (lv_sub hl [3, 4, 5, 6, 0] rfl)

set_option maxHeartbeats 8000000 in
set_option maxRecDepth 100000 in
theorem L_append {p : Program} {l : Launch} {e : Env} {s : State} {m : MethodId} {args : Array Value} {below : List Frame} {meth : Method} {cd : Code} {Q : State → Prop} {G : GG} {Ar : Nat → Prop} {b9 L : Nat} {xs : Nat → Int32} {xa so oa : Nat} {b ce a hh A : Nat → Nat} (hE : LE9 p l s m args cd G Ar b9 L xs) {j : Nat} (hj : 4 * j + 4 ≤ L) (hL : L ≤ 2048) (hHd : LH p l e s m args below meth cd Q G Ar b9 xa so oa b ce a hh A (j + 1))
    (og : Nat → Int64) (sg : Nat → Int32) (ln : Nat) (hln : ln ≤ 60) (mk : Nat → Int32) (cs up fo tn : Int32) (w t lo hi me : Nat → Int32) (n : Nat) (qu gu ri re : Int32) (P : Nat → Nat → Nat) (F : Nat → Nat → Nat → Int32) (z : Nat) (hz : z ≤ 6) (o0 : SLO) (o1 : SLO) (th : Int32) (dg : Int64) (f sl ik sv pl : Nat → Int32) (c : Nat) (hc : 33 ≤ c) (hc2 : c ≤ 126) (hl6 : ln < 60)
    (hRS : RS j fo tn w t lo hi me n qu gu ri re f) (hcv : cenV (qS tn lo hi me n) mk cs up) (hHI : HI j z F sv) (hs0 : SLr j o0 (ik 0) sl) (hs1 : SLr j o1 (ik 1) (fun j => sl (58 + j))) (hp0 : xs (4 * j + 1) = nI c)
    {H : Heap} {locs : List Loc} (hP : PP G (mW G A th (nI z) (nI ln) dg f sl ik sv sg pl ++ (oW G oa og ++ cW G xa so b ce a hh sg ln mk cs up fo tn w t lo hi me (nI n) qu gu ri re P F z o0 o1)) H) (hD : va_D Ar (mW G A th (nI z) (nI ln) dg f sl ik sv sg pl ++ (oW G oa og ++ cW G xa so b ce a hh sg ln mk cs up fo tn w t lo hi me (nI n) qu gu ri re P F z o0 o1))) (hS : va_S Ar s.heap H locs) {ls : Array Slot} (hl : lv_has ls 9 [(0, .ref b9), (1, .ref xa), (2, .ref (A 0)), (3, .ref oa), (4, .int (nI (4 * j)))]) : W p l e room_1 s m args below meth cd H locs (100 + 7 * j) (2000 + 64 * j) Q (F0 m 482 ls []) := by
  obtain ⟨hx, hb, hml, hown, hts, hfl, ⟨hK, hN, hX, hZ0⟩, hA, hXs, hbl, hbA⟩ := id hE
  have hn : n ≤ 12 := hRS.1.1
  have hn17 : f 17 = nI n := hRS.2.1.2.2.1
  have hT : okP t := hRS.2.2.1.2.1
  have hvL : okL lo hi := hRS.2.2.1.2.2.1
  have hvA : okA f := hRS.2.2.1.2.2.2
  have htF : okT f := fun i hi => by rw [hRS.2.1.2.2.2.2 i hi]; exact hT i hi
  refine lv_aload_n hx hb dL_law_482 rfl (lv_at hl 1 rfl) ?_
  refine lv_aload_n hx hb dL_law_483 rfl (lv_at hl 0 rfl) ?_
  refine lv_iload hx hb dL_law_484 (lv_at hl 4 rfl) ?_
  refine lv_iconst (v := nI 1) hx hb dL_law_486 (by decide) ?_
  refine lv_iadd hx hb dL_law_487 ?_
  refine lv_cgi (y := nI ((4 * j) + 1)) (nI_add _ _) ?_
  refine va_sld hx hb hXs hbl hbA hS (vp_in_nI (by omega) (by omega)) dL_law_488 ?_
  refine lv_cgi (y := nI c) (by rw [nI_clamp (by omega)]; exact hp0) ?_
  refine lv_aload_n hx hb dL_law_489 rfl (lv_at hl 3 rfl) ?_
  refine wr_g1i (pre := mW G A th (nI z) (nI ln) dg f sl ik sv sg pl) (mid := oW G oa og ++ cW G xa so b ce a hh sg ln mk cs up fo tn w t lo hi me (nI n) qu gu ri re P F z o0 o1) (vx_runSW (As := [.ref xa, .int (nI c), .ref oa]) (rest := []) ⟨hx, hb, hml, hown, hts⟩ (w_append_ok l G _ xa oa _ _ og (nI c) (fun sz => c_X6_append_ok l G sz xa so b ce a hh sg ln hln mk cs up fo tn w t lo hi me n hn qu gu ri re P F z hz o0 o1 c hc hc2 hl6)) (vx_cwSW 3 hts gL_law_L_append rfl rfl rfl (by decide +kernel) ⟨Nat.le_of_ble_eq_true rfl, Nat.le_of_ble_eq_true rfl⟩) (lxS1 (pre := mW G A th (nI z) (nI ln) dg f sl ik sv sg pl) (mid := oW G oa og ++ cW G xa so b ce a hh sg ln mk cs up fo tn w t lo hi me (nI n) qu gu ri re P F z o0 o1) hK hN hX (XZ_at hZ0 hS hA) hP hD) rfl rfl hl.1 rfl (lv_room (Nat.le_of_ble_eq_true rfl)) dL_law_490 ⟨by show 100 + 7 * j + 0 ≤ 601024; omega, by show 2000 + 64 * j + 0 ≤ 7293034; omega⟩) hP hD hS hA (fun r6 u6 H locs hw6 hP9 hD9 hS => ?_)
  obtain ⟨v6, u6⟩ := u6
  have hw6 : r6 = nI 0 ∧ v6 = nI (ln + 1) := hw6
  obtain ⟨rfl, rfl⟩ := hw6
  have hP : PP G (mW G A th (nI z) (nI ln) dg f sl ik sv sg pl ++ (oW G oa (vp_updL og 0 ((nI (ln + 1)).toInt64)) ++ cW G xa so b ce a hh (upd sg ln (nI c)) (ln + 1) mk cs up fo tn w t lo hi me (nI n) qu gu ri re P F z o0 o1)) _ := hP9
  have hD : va_D Ar (mW G A th (nI z) (nI ln) dg f sl ik sv sg pl ++ (oW G oa (vp_updL og 0 ((nI (ln + 1)).toInt64)) ++ cW G xa so b ce a hh (upd sg ln (nI c)) (ln + 1) mk cs up fo tn w t lo hi me (nI n) qu gu ri re P F z o0 o1)) := hD9
  refine lv_istore (lv' := [(5, .int (nI 0)), (0, .ref b9), (1, .ref xa), (2, .ref (A 0)), (3, .ref oa), (4, .int (nI (4 * j)))]) hx hb dL_law_493 hl (by decide) rfl (fun ls hl => ?_)
  refine lv_aload_n hx hb dL_law_495 rfl (lv_at hl 3 rfl) ?_
  refine lv_aload_n hx hb dL_law_496 rfl (lv_at hl 1 rfl) ?_
  refine lv_iload hx hb dL_law_497 (lv_at hl 5 rfl) ?_
  refine lv_iconst (v := nI 1) hx hb dL_law_499 (by decide) ?_
  refine lv_iadd hx hb dL_law_500 ?_
  refine lv_cgi (y := nI ((4 * j) + 1)) (nI_add _ _) ?_
  refine va_sld hx hb hXs hbl hbA hS (vp_in_nI (by omega) (by omega)) dL_law_501 ?_
  refine lv_cgi (y := nI c) (by rw [nI_clamp (by omega)]; exact hp0) ?_
  refine wr_goi (pre := []) (mid := mW G A th (nI z) (nI ln) dg f sl ik sv sg pl) (suf := oW G oa (vp_updL og 0 ((nI (ln + 1)).toInt64)) ++ cW G xa so b ce a hh (upd sg ln (nI c)) (ln + 1) mk cs up fo tn w t lo hi me (nI n) qu gu ri re P F z o0 o1) (va_runV (As := [.int (nI c)]) (rest := []) ⟨hx, hb, hml, hown, hts⟩ (c_X7_append l G _ A th (nI z) dg f sl ik sv sg pl ln hln c hc hc2 hl6) (cwV 1 hts gL_law_X7_append rfl rfl rfl (by decide +kernel) ⟨Nat.le_of_ble_eq_true rfl, Nat.le_of_ble_eq_true rfl⟩) (wV (pre := []) (mid := mW G A th (nI z) (nI ln) dg f sl ik sv sg pl) (suf := oW G oa (vp_updL og 0 ((nI (ln + 1)).toInt64)) ++ cW G xa so b ce a hh (upd sg ln (nI c)) (ln + 1) mk cs up fo tn w t lo hi me (nI n) qu gu ri re P F z o0 o1) (va_recv (ws := mW G A th (nI z) (nI ln) dg f sl ik sv sg pl ++ (oW G oa (vp_updL og 0 ((nI (ln + 1)).toInt64)) ++ cW G xa so b ce a hh (upd sg ln (nI c)) (ln + 1) mk cs up fo tn w t lo hi me (nI n) qu gu ri re P F z o0 o1)) hK hP (ci := 6) (q0 := 0) rfl rfl) hK hN hP hD) rfl rfl hl.1 rfl (lv_room (Nat.le_of_ble_eq_true rfl)) dL_law_502 ⟨by show 100 + 7 * j + 0 + 0 ≤ 601024; omega, by show 2000 + 64 * j + 0 + 0 ≤ 7293034; omega⟩) hP hD hS hA (fun r7 u7 H locs hw7 hP9 hD9 hS => ?_)
  have hw7 : r7 = nI (ln + 1) := hw7
  subst hw7
  have hP : PP G (mW G A (nI 0) (nI z) (nI (ln + 1)) dg f sl ik sv (upd sg ln (nI c)) pl ++ (oW G oa (vp_updL og 0 ((nI (ln + 1)).toInt64)) ++ cW G xa so b ce a hh (upd sg ln (nI c)) (ln + 1) mk cs up fo tn w t lo hi me (nI n) qu gu ri re P F z o0 o1)) _ := hP9
  have hD : va_D Ar (mW G A (nI 0) (nI z) (nI (ln + 1)) dg f sl ik sv (upd sg ln (nI c)) pl ++ (oW G oa (vp_updL og 0 ((nI (ln + 1)).toInt64)) ++ cW G xa so b ce a hh (upd sg ln (nI c)) (ln + 1) mk cs up fo tn w t lo hi me (nI n) qu gu ri re P F z o0 o1)) := hD9
  refine lv_istore (lv' := [(6, .int (nI (ln + 1))), (5, .int (nI 0)), (0, .ref b9), (1, .ref xa), (2, .ref (A 0)), (3, .ref oa), (4, .int (nI (4 * j)))]) hx hb dL_law_505 hl (by decide) rfl (fun ls hl => ?_)
  refine lv_aload_n hx hb dL_law_507 rfl (lv_at hl 4 rfl) ?_
  refine rd_go (va_runV (As := []) (rest := []) ⟨hx, hb, hml, hown, hts⟩ (c_X7_thrown l G A (nI 0) (nI z) (nI (ln + 1)) dg f sl ik sv (upd sg ln (nI c)) pl) (cwV 0 hts gL_law_X7_thrown rfl rfl rfl (by decide +kernel) ⟨Nat.le_of_ble_eq_true rfl, Nat.le_of_ble_eq_true rfl⟩) (rV (ws := mW G A (nI 0) (nI z) (nI (ln + 1)) dg f sl ik sv (upd sg ln (nI c)) pl) (va_recv (ws := mW G A (nI 0) (nI z) (nI (ln + 1)) dg f sl ik sv (upd sg ln (nI c)) pl ++ (oW G oa (vp_updL og 0 ((nI (ln + 1)).toInt64)) ++ cW G xa so b ce a hh (upd sg ln (nI c)) (ln + 1) mk cs up fo tn w t lo hi me (nI n) qu gu ri re P F z o0 o1)) hK hP (ci := 6) (q0 := 0) rfl rfl) hK hN (P_mid (pre := []) (mid := mW G A (nI 0) (nI z) (nI (ln + 1)) dg f sl ik sv (upd sg ln (nI c)) pl) (suf := oW G oa (vp_updL og 0 ((nI (ln + 1)).toInt64)) ++ cW G xa so b ce a hh (upd sg ln (nI c)) (ln + 1) mk cs up fo tn w t lo hi me (nI n) qu gu ri re P F z o0 o1) hP)) rfl rfl hl.1 rfl (lv_room (Nat.le_of_ble_eq_true rfl)) dL_law_508 ⟨by show 100 + 7 * j + 0 + 0 + 0 ≤ 601024; omega, by show 2000 + 64 * j + 0 + 0 + 0 ≤ 7293034; omega⟩) ?_
  refine lv_iload hx hb dL_law_511 (lv_at hl 1 rfl) ?_
  refine lv_icmp_eq (tgt := 518) hx hb dL_law_513 (by decide) (fun c_513 => ?_) (fun c_513 => by exact absurd c_513 (by decide))
  refine lv_iload hx hb dL_law_518 (lv_at hl 1 rfl) ?_
  refine lv_if_ne (tgt := 535) hx hb dL_law_520 (by decide) (fun c_520 => by exact absurd c_520 (by decide)) (fun c_520 => ?_)
  refine lv_aload_n hx hb dL_law_523 rfl (lv_at hl 5 rfl) ?_
  refine lv_iconst (v := nI 0) hx hb dL_law_524 (by decide) ?_
  refine va_lald (D := G.1) (ws := mW G A (nI 0) (nI z) (nI (ln + 1)) dg f sl ik sv (upd sg ln (nI c)) pl ++ (oW G oa (vp_updL og 0 ((nI (ln + 1)).toInt64)) ++ cW G xa so b ce a hh (upd sg ln (nI c)) (ln + 1) mk cs up fo tn w t lo hi me (nI n) qu gu ri re P F z o0 o1)) hx hb hK hP 7 3 (n := 1) rfl rfl (vp_in_nI (by decide) (by decide)) dL_law_525 ?_
  refine lv_cgl (y := (nI (ln + 1)).toInt64) vpL ?_
  refine lv_iload hx hb dL_law_526 (lv_at hl 0 rfl) ?_
  refine lv_i2l (v := (nI (ln + 1)).toInt64) hx hb dL_law_528 rfl ?_
  refine W.lcmp hx hb dL_law_529 ?_
  refine lv_cgi (y := nI 0) (lg_self _) ?_
  refine lv_if_eq (tgt := 535) hx hb dL_law_530 (by decide) (fun c_530 => ?_) (fun c_530 => by exact absurd c_530 (by decide))
  refine lv_goto (tgt := 1297) hx hb dL_law_535 (by decide) ?_
  refine lv_iinc (v := nI (4 * (j + 1))) (lv' := [(4, .int (nI (4 * (j + 1)))), (6, .int (nI (ln + 1))), (5, .int (nI 0)), (0, .ref b9), (1, .ref xa), (2, .ref (A 0)), (3, .ref oa)]) hx hb dL_law_1297 hl (k := 6) rfl (iinc4 (4 * j)) (by decide) rfl (fun ls hl => ?_)
  refine lv_goto (tgt := 23) hx hb dL_law_1300 (by decide) ?_
  refine W.widen (k := 100 + 7 * (j + 1)) (n := 2000 + 64 * (j + 1)) (by omega) (by omega) ?_
  exact hHd _ _ _ ⟨vp_updL og 0 ((nI (ln + 1)).toInt64), upd sg ln (nI c), ln + 1, mk, cs, up, fo, tn, w, t, lo, hi, me, nI n, qu, gu, ri, re, P, F, z, o0, o1, nI 0, dg, f, sl, ik, sv, pl, rfl, (by omega), hz, (RG_mono (Nat.le_succ _) (RG_of hRS)), (cen_of hn hcv), (HI_mono (Nat.le_succ _) hHI), (SLr_mono (Nat.le_succ _) hs0), (SLr_mono (Nat.le_succ _) hs1)⟩ hP hD hS ls (lv_sub hl [3, 4, 5, 6, 0] rfl)

set_option maxHeartbeats 8000000 in
set_option maxRecDepth 100000 in
theorem L_clearBuffer {p : Program} {l : Launch} {e : Env} {s : State} {m : MethodId} {args : Array Value} {below : List Frame} {meth : Method} {cd : Code} {Q : State → Prop} {G : GG} {Ar : Nat → Prop} {b9 L : Nat} {xs : Nat → Int32} {xa so oa : Nat} {b ce a hh A : Nat → Nat} (hE : LE9 p l s m args cd G Ar b9 L xs) {j : Nat} (hj : 4 * j + 4 ≤ L) (hL : L ≤ 2048) (hHd : LH p l e s m args below meth cd Q G Ar b9 xa so oa b ce a hh A (j + 1))
    (og : Nat → Int64) (sg : Nat → Int32) (ln : Nat) (hln : ln ≤ 60) (mk : Nat → Int32) (cs up fo tn : Int32) (w t lo hi me : Nat → Int32) (n : Nat) (qu gu ri re : Int32) (P : Nat → Nat → Nat) (F : Nat → Nat → Nat → Int32) (z : Nat) (hz : z ≤ 6) (o0 : SLO) (o1 : SLO) (th : Int32) (dg : Int64) (f sl ik sv pl : Nat → Int32) 
    (hRS : RS j fo tn w t lo hi me n qu gu ri re f) (hcv : cenV (qS tn lo hi me n) mk cs up) (hHI : HI j z F sv) (hs0 : SLr j o0 (ik 0) sl) (hs1 : SLr j o1 (ik 1) (fun j => sl (58 + j))) 
    {H : Heap} {locs : List Loc} (hP : PP G (mW G A th (nI z) (nI ln) dg f sl ik sv sg pl ++ (oW G oa og ++ cW G xa so b ce a hh sg ln mk cs up fo tn w t lo hi me (nI n) qu gu ri re P F z o0 o1)) H) (hD : va_D Ar (mW G A th (nI z) (nI ln) dg f sl ik sv sg pl ++ (oW G oa og ++ cW G xa so b ce a hh sg ln mk cs up fo tn w t lo hi me (nI n) qu gu ri re P F z o0 o1))) (hS : va_S Ar s.heap H locs) {ls : Array Slot} (hl : lv_has ls 9 [(0, .ref b9), (1, .ref xa), (2, .ref (A 0)), (3, .ref oa), (4, .int (nI (4 * j)))]) : W p l e room_1 s m args below meth cd H locs (100 + 7 * j) (2000 + 64 * j) Q (F0 m 538 ls []) := by
  obtain ⟨hx, hb, hml, hown, hts, hfl, ⟨hK, hN, hX, hZ0⟩, hA, hXs, hbl, hbA⟩ := id hE
  have hn : n ≤ 12 := hRS.1.1
  have hn17 : f 17 = nI n := hRS.2.1.2.2.1
  have hT : okP t := hRS.2.2.1.2.1
  have hvL : okL lo hi := hRS.2.2.1.2.2.1
  have hvA : okA f := hRS.2.2.1.2.2.2
  have htF : okT f := fun i hi => by rw [hRS.2.1.2.2.2.2 i hi]; exact hT i hi
  refine lv_aload_n hx hb dL_law_538 rfl (lv_at hl 1 rfl) ?_
  refine wr_g1i (pre := mW G A th (nI z) (nI ln) dg f sl ik sv sg pl ++ oW G oa og) (mid := cW G xa so b ce a hh sg ln mk cs up fo tn w t lo hi me (nI n) qu gu ri re P F z o0 o1) (va_runV (As := []) (rest := []) ⟨hx, hb, hml, hown, hts⟩ (c_X6_clearBuffer_ok l G _ xa so b ce a hh sg ln hln mk cs up fo tn w t lo hi me n hn qu gu ri re P F z hz o0 o1) (cwV 0 hts gL_law_X6_clearBuffer rfl rfl rfl (by decide +kernel) ⟨Nat.le_of_ble_eq_true rfl, Nat.le_of_ble_eq_true rfl⟩) (wV1 (pre := mW G A th (nI z) (nI ln) dg f sl ik sv sg pl ++ oW G oa og) (mid := cW G xa so b ce a hh sg ln mk cs up fo tn w t lo hi me (nI n) qu gu ri re P F z o0 o1) (va_recv (ws := mW G A th (nI z) (nI ln) dg f sl ik sv sg pl ++ (oW G oa og ++ cW G xa so b ce a hh sg ln mk cs up fo tn w t lo hi me (nI n) qu gu ri re P F z o0 o1)) hK hP (ci := 5) (q0 := 8) rfl rfl) hK hN hP hD) rfl rfl hl.1 rfl (lv_room (Nat.le_of_ble_eq_true rfl)) dL_law_539 ⟨by show 100 + 7 * j + 0 ≤ 601024; omega, by show 2000 + 64 * j + 0 ≤ 7293034; omega⟩) hP hD hS hA (fun r6 u6 H locs hw6 hP9 hD9 hS => ?_)
  have hw6 : r6 = nI ln := hw6
  subst hw6
  have hP : PP G (mW G A th (nI z) (nI ln) dg f sl ik sv sg pl ++ (oW G oa og ++ cW G xa so b ce a hh sg 0 mk cs up fo tn w t lo hi me (nI n) qu gu ri re P F z o0 o1)) _ := hP9
  have hD : va_D Ar (mW G A th (nI z) (nI ln) dg f sl ik sv sg pl ++ (oW G oa og ++ cW G xa so b ce a hh sg 0 mk cs up fo tn w t lo hi me (nI n) qu gu ri re P F z o0 o1)) := hD9
  refine lv_aload_n hx hb dL_law_542 rfl (lv_at hl 2 rfl) ?_
  refine wr_goi (pre := []) (mid := mW G A th (nI z) (nI ln) dg f sl ik sv sg pl) (suf := oW G oa og ++ cW G xa so b ce a hh sg 0 mk cs up fo tn w t lo hi me (nI n) qu gu ri re P F z o0 o1) (va_runV (As := []) (rest := [.int (nI ln)]) ⟨hx, hb, hml, hown, hts⟩ (c_X7_clearBuffer l G _ A th (nI z) (nI ln) dg f sl ik sv sg pl) (cwV 0 hts gL_law_X7_clearBuffer rfl rfl rfl (by decide +kernel) ⟨Nat.le_of_ble_eq_true rfl, Nat.le_of_ble_eq_true rfl⟩) (wV (pre := []) (mid := mW G A th (nI z) (nI ln) dg f sl ik sv sg pl) (suf := oW G oa og ++ cW G xa so b ce a hh sg 0 mk cs up fo tn w t lo hi me (nI n) qu gu ri re P F z o0 o1) (va_recv (ws := mW G A th (nI z) (nI ln) dg f sl ik sv sg pl ++ (oW G oa og ++ cW G xa so b ce a hh sg 0 mk cs up fo tn w t lo hi me (nI n) qu gu ri re P F z o0 o1)) hK hP (ci := 6) (q0 := 0) rfl rfl) hK hN hP hD) rfl rfl hl.1 rfl (lv_room (Nat.le_of_ble_eq_true rfl)) dL_law_543 ⟨by show 100 + 7 * j + 0 + 0 ≤ 601024; omega, by show 2000 + 64 * j + 0 + 0 ≤ 7293034; omega⟩) hP hD hS hA (fun r7 u7 H locs hw7 hP9 hD9 hS => ?_)
  have hw7 : r7 = nI ln := hw7
  subst hw7
  have hP : PP G (mW G A (nI 0) (nI z) (nI 0) dg f sl ik sv sg pl ++ (oW G oa og ++ cW G xa so b ce a hh sg 0 mk cs up fo tn w t lo hi me (nI n) qu gu ri re P F z o0 o1)) _ := hP9
  have hD : va_D Ar (mW G A (nI 0) (nI z) (nI 0) dg f sl ik sv sg pl ++ (oW G oa og ++ cW G xa so b ce a hh sg 0 mk cs up fo tn w t lo hi me (nI n) qu gu ri re P F z o0 o1)) := hD9
  refine lv_icmp_eq (tgt := 1297) hx hb dL_law_546 (by decide) (fun c_546 => ?_) (fun c_546 => by exact absurd rfl c_546)
  refine lv_iinc (v := nI (4 * (j + 1))) (lv' := [(4, .int (nI (4 * (j + 1)))), (0, .ref b9), (1, .ref xa), (2, .ref (A 0)), (3, .ref oa)]) hx hb dL_law_1297 hl (k := 4) rfl (iinc4 (4 * j)) (by decide) rfl (fun ls hl => ?_)
  refine lv_goto (tgt := 23) hx hb dL_law_1300 (by decide) ?_
  refine W.widen (k := 100 + 7 * (j + 1)) (n := 2000 + 64 * (j + 1)) (by omega) (by omega) ?_
  exact hHd _ _ _ ⟨og, sg, 0, mk, cs, up, fo, tn, w, t, lo, hi, me, nI n, qu, gu, ri, re, P, F, z, o0, o1, nI 0, dg, f, sl, ik, sv, pl, rfl, (by omega), hz, (RG_mono (Nat.le_succ _) (RG_of hRS)), (cen_of hn hcv), (HI_mono (Nat.le_succ _) hHI), (SLr_mono (Nat.le_succ _) hs0), (SLr_mono (Nat.le_succ _) hs1)⟩ hP hD hS ls (lv_sub hl [1, 2, 3, 4, 0] rfl)

set_option maxHeartbeats 8000000 in
set_option maxRecDepth 100000 in
theorem L_firstError {p : Program} {l : Launch} {e : Env} {s : State} {m : MethodId} {args : Array Value} {below : List Frame} {meth : Method} {cd : Code} {Q : State → Prop} {G : GG} {Ar : Nat → Prop} {b9 L : Nat} {xs : Nat → Int32} {xa so oa : Nat} {b ce a hh A : Nat → Nat} (hE : LE9 p l s m args cd G Ar b9 L xs) {j : Nat} (hj : 4 * j + 4 ≤ L) (hL : L ≤ 2048) (hHd : LH p l e s m args below meth cd Q G Ar b9 xa so oa b ce a hh A (j + 1))
    (og : Nat → Int64) (sg : Nat → Int32) (ln : Nat) (hln : ln ≤ 60) (mk : Nat → Int32) (cs up fo tn : Int32) (w t lo hi me : Nat → Int32) (n : Nat) (qu gu ri re : Int32) (P : Nat → Nat → Nat) (F : Nat → Nat → Nat → Int32) (z : Nat) (hz : z ≤ 6) (o0 : SLO) (o1 : SLO) (th : Int32) (dg : Int64) (f sl ik sv pl : Nat → Int32) 
    (hRS : RS j fo tn w t lo hi me n qu gu ri re f) (hcv : cenV (qS tn lo hi me n) mk cs up) (hHI : HI j z F sv) (hs0 : SLr j o0 (ik 0) sl) (hs1 : SLr j o1 (ik 1) (fun j => sl (58 + j))) 
    {H : Heap} {locs : List Loc} (hP : PP G (mW G A th (nI z) (nI ln) dg f sl ik sv sg pl ++ (oW G oa og ++ cW G xa so b ce a hh sg ln mk cs up fo tn w t lo hi me (nI n) qu gu ri re P F z o0 o1)) H) (hD : va_D Ar (mW G A th (nI z) (nI ln) dg f sl ik sv sg pl ++ (oW G oa og ++ cW G xa so b ce a hh sg ln mk cs up fo tn w t lo hi me (nI n) qu gu ri re P F z o0 o1))) (hS : va_S Ar s.heap H locs) {ls : Array Slot} (hl : lv_has ls 9 [(0, .ref b9), (1, .ref xa), (2, .ref (A 0)), (3, .ref oa), (4, .int (nI (4 * j)))]) : W p l e room_1 s m args below meth cd H locs (100 + 7 * j) (2000 + 64 * j) Q (F0 m 551 ls []) := by
  obtain ⟨hx, hb, hml, hown, hts, hfl, ⟨hK, hN, hX, hZ0⟩, hA, hXs, hbl, hbA⟩ := id hE
  have hn : n ≤ 12 := hRS.1.1
  have hn17 : f 17 = nI n := hRS.2.1.2.2.1
  have hT : okP t := hRS.2.2.1.2.1
  have hvL : okL lo hi := hRS.2.2.1.2.2.1
  have hvA : okA f := hRS.2.2.1.2.2.2
  have htF : okT f := fun i hi => by rw [hRS.2.1.2.2.2.2 i hi]; exact hT i hi
  refine lv_aload_n hx hb dL_law_551 rfl (lv_at hl 1 rfl) ?_
  refine wr_g1i (pre := mW G A th (nI z) (nI ln) dg f sl ik sv sg pl ++ oW G oa og) (mid := cW G xa so b ce a hh sg ln mk cs up fo tn w t lo hi me (nI n) qu gu ri re P F z o0 o1) (va_runV (As := []) (rest := []) ⟨hx, hb, hml, hown, hts⟩ (rd_wr (c_X6_firstError_ok l G xa so b ce a hh sg ln hln mk cs up fo tn w t lo hi me n hn qu gu ri re P F z hz o0 o1) _) (cwV 0 hts gL_law_X6_firstError rfl rfl rfl (by decide +kernel) ⟨Nat.le_of_ble_eq_true rfl, Nat.le_of_ble_eq_true rfl⟩) (wV1 (pre := mW G A th (nI z) (nI ln) dg f sl ik sv sg pl ++ oW G oa og) (mid := cW G xa so b ce a hh sg ln mk cs up fo tn w t lo hi me (nI n) qu gu ri re P F z o0 o1) (va_recv (ws := mW G A th (nI z) (nI ln) dg f sl ik sv sg pl ++ (oW G oa og ++ cW G xa so b ce a hh sg ln mk cs up fo tn w t lo hi me (nI n) qu gu ri re P F z o0 o1)) hK hP (ci := 5) (q0 := 8) rfl rfl) hK hN hP hD) rfl rfl hl.1 rfl (lv_room (Nat.le_of_ble_eq_true rfl)) dL_law_552 ⟨by show 100 + 7 * j + 0 ≤ 601024; omega, by show 2000 + 64 * j + 0 ≤ 7293034; omega⟩) hP hD hS hA (fun r6 u6 H locs hw6 hP9 hD9 hS => ?_)
  have hw6 : r6 = nI (erI sg ln ln 0) := hw6
  subst hw6
  have hP : PP G (mW G A th (nI z) (nI ln) dg f sl ik sv sg pl ++ (oW G oa og ++ cW G xa so b ce a hh sg ln mk cs up fo tn w t lo hi me (nI n) qu gu ri re P F z o0 o1)) _ := hP9
  have hD : va_D Ar (mW G A th (nI z) (nI ln) dg f sl ik sv sg pl ++ (oW G oa og ++ cW G xa so b ce a hh sg ln mk cs up fo tn w t lo hi me (nI n) qu gu ri re P F z o0 o1)) := hD9
  refine lv_aload_n hx hb dL_law_555 rfl (lv_at hl 2 rfl) ?_
  refine wr_goi (pre := []) (mid := mW G A th (nI z) (nI ln) dg f sl ik sv sg pl) (suf := oW G oa og ++ cW G xa so b ce a hh sg ln mk cs up fo tn w t lo hi me (nI n) qu gu ri re P F z o0 o1) (va_runV (As := []) (rest := [.int (nI (erI sg ln ln 0))]) ⟨hx, hb, hml, hown, hts⟩ (c_X7_firstError l G _ A th (nI z) dg f sl ik sv sg pl ln hln) (cwV 0 hts gL_law_X7_firstError rfl rfl rfl (by decide +kernel) ⟨Nat.le_of_ble_eq_true rfl, Nat.le_of_ble_eq_true rfl⟩) (wV (pre := []) (mid := mW G A th (nI z) (nI ln) dg f sl ik sv sg pl) (suf := oW G oa og ++ cW G xa so b ce a hh sg ln mk cs up fo tn w t lo hi me (nI n) qu gu ri re P F z o0 o1) (va_recv (ws := mW G A th (nI z) (nI ln) dg f sl ik sv sg pl ++ (oW G oa og ++ cW G xa so b ce a hh sg ln mk cs up fo tn w t lo hi me (nI n) qu gu ri re P F z o0 o1)) hK hP (ci := 6) (q0 := 0) rfl rfl) hK hN hP hD) rfl rfl hl.1 rfl (lv_room (Nat.le_of_ble_eq_true rfl)) dL_law_556 ⟨by show 100 + 7 * j + 0 + 0 ≤ 601024; omega, by show 2000 + 64 * j + 0 + 0 ≤ 7293034; omega⟩) hP hD hS hA (fun r7 u7 H locs hw7 hP9 hD9 hS => ?_)
  have hw7 : r7 = nI (rgt sg ln 0) := hw7
  subst hw7
  have hP : PP G (mW G A (nI 0) (nI z) (nI ln) dg f sl ik sv sg pl ++ (oW G oa og ++ cW G xa so b ce a hh sg ln mk cs up fo tn w t lo hi me (nI n) qu gu ri re P F z o0 o1)) _ := hP9
  have hD : va_D Ar (mW G A (nI 0) (nI z) (nI ln) dg f sl ik sv sg pl ++ (oW G oa og ++ cW G xa so b ce a hh sg ln mk cs up fo tn w t lo hi me (nI n) qu gu ri re P F z o0 o1)) := hD9
  refine lv_cgi (y := nI (erI sg ln ln 0)) (by rw [rgt_eq hln]) ?_
  refine lv_icmp_eq (tgt := 1297) hx hb dL_law_559 (by decide) (fun c_559 => ?_) (fun c_559 => by exact absurd rfl c_559)
  refine lv_iinc (v := nI (4 * (j + 1))) (lv' := [(4, .int (nI (4 * (j + 1)))), (0, .ref b9), (1, .ref xa), (2, .ref (A 0)), (3, .ref oa)]) hx hb dL_law_1297 hl (k := 4) rfl (iinc4 (4 * j)) (by decide) rfl (fun ls hl => ?_)
  refine lv_goto (tgt := 23) hx hb dL_law_1300 (by decide) ?_
  refine W.widen (k := 100 + 7 * (j + 1)) (n := 2000 + 64 * (j + 1)) (by omega) (by omega) ?_
  exact hHd _ _ _ ⟨og, sg, ln, mk, cs, up, fo, tn, w, t, lo, hi, me, nI n, qu, gu, ri, re, P, F, z, o0, o1, nI 0, dg, f, sl, ik, sv, pl, rfl, hln, hz, (RG_mono (Nat.le_succ _) (RG_of hRS)), (cen_of hn hcv), (HI_mono (Nat.le_succ _) hHI), (SLr_mono (Nat.le_succ _) hs0), (SLr_mono (Nat.le_succ _) hs1)⟩ hP hD hS ls (lv_sub hl [1, 2, 3, 4, 0] rfl)

set_option maxHeartbeats 8000000 in
set_option maxRecDepth 100000 in
theorem L_keep_n0 {p : Program} {l : Launch} {e : Env} {s : State} {m : MethodId} {args : Array Value} {below : List Frame} {meth : Method} {cd : Code} {Q : State → Prop} {G : GG} {Ar : Nat → Prop} {b9 L : Nat} {xs : Nat → Int32} {xa so oa : Nat} {b ce a hh A : Nat → Nat} (hE : LE9 p l s m args cd G Ar b9 L xs) {j : Nat} (hj : 4 * j + 4 ≤ L) (hL : L ≤ 2048) (hHd : LH p l e s m args below meth cd Q G Ar b9 xa so oa b ce a hh A (j + 1))
    (og : Nat → Int64) (sg : Nat → Int32) (ln : Nat) (hln : ln ≤ 60) (mk : Nat → Int32) (cs up fo tn : Int32) (w t lo hi me : Nat → Int32) (n : Nat) (qu gu ri re : Int32) (P : Nat → Nat → Nat) (F : Nat → Nat → Nat → Int32) (z : Nat) (hz : z ≤ 6) (o1 : SLO) (th : Int32) (dg : Int64) (f sl ik sv pl : Nat → Int32) 
    (hRS : RS j fo tn w t lo hi me n qu gu ri re f) (hcv : cenV (qS tn lo hi me n) mk cs up) (hHI : HI j z F sv) (hs0 : SLr j none (ik 0) sl) (hs1 : SLr j o1 (ik 1) (fun j => sl (58 + j))) (hp0 : xs (4 * j + 1) = nI 0)
    {H : Heap} {locs : List Loc} (hP : PP G (mW G A th (nI z) (nI ln) dg f sl ik sv sg pl ++ (oW G oa og ++ cW G xa so b ce a hh sg ln mk cs up fo tn w t lo hi me (nI n) qu gu ri re P F z none o1)) H) (hD : va_D Ar (mW G A th (nI z) (nI ln) dg f sl ik sv sg pl ++ (oW G oa og ++ cW G xa so b ce a hh sg ln mk cs up fo tn w t lo hi me (nI n) qu gu ri re P F z none o1))) (hS : va_S Ar s.heap H locs) {ls : Array Slot} (hl : lv_has ls 9 [(0, .ref b9), (1, .ref xa), (2, .ref (A 0)), (3, .ref oa), (4, .int (nI (4 * j)))]) : W p l e room_1 s m args below meth cd H locs (100 + 7 * j) (2000 + 64 * j) Q (F0 m 608 ls []) := by
  obtain ⟨hx, hb, hml, hown, hts, hfl, ⟨hK, hN, hX, hZ0⟩, hA, hXs, hbl, hbA⟩ := id hE
  have hn : n ≤ 12 := hRS.1.1
  have hn17 : f 17 = nI n := hRS.2.1.2.2.1
  have hT : okP t := hRS.2.2.1.2.1
  have hvL : okL lo hi := hRS.2.2.1.2.2.1
  have hvA : okA f := hRS.2.2.1.2.2.2
  have htF : okT f := fun i hi => by rw [hRS.2.1.2.2.2.2 i hi]; exact hT i hi
  refine lv_aload_n hx hb dL_law_608 rfl (lv_at hl 1 rfl) ?_
  refine lv_aload_n hx hb dL_law_609 rfl (lv_at hl 0 rfl) ?_
  refine lv_iload hx hb dL_law_610 (lv_at hl 4 rfl) ?_
  refine lv_iconst (v := nI 1) hx hb dL_law_612 (by decide) ?_
  refine lv_iadd hx hb dL_law_613 ?_
  refine lv_cgi (y := nI ((4 * j) + 1)) (nI_add _ _) ?_
  refine va_sld hx hb hXs hbl hbA hS (vp_in_nI (by omega) (by omega)) dL_law_614 ?_
  refine lv_cgi (y := nI 0) (by rw [nI_clamp (by omega)]; exact hp0) ?_
  refine lv_aload_n hx hb dL_law_615 rfl (lv_at hl 3 rfl) ?_
  refine wr_g1i (pre := mW G A th (nI z) (nI ln) dg f sl ik sv sg pl) (mid := oW G oa og ++ cW G xa so b ce a hh sg ln mk cs up fo tn w t lo hi me (nI n) qu gu ri re P F z none o1) (vx_runSW (As := [.ref xa, .int (nI 0), .ref oa]) (rest := []) ⟨hx, hb, hml, hown, hts⟩ (w_keep_ok l G _ xa oa _ _ og (nI 0) (fun sz => c_X6_keep_n0 l G sz xa so b ce a hh sg ln hln mk cs up fo tn w t lo hi me n hn qu gu ri re P F z hz none o1)) (vx_cwSW 3 hts gL_law_L_keep rfl rfl rfl (by decide +kernel) ⟨Nat.le_of_ble_eq_true rfl, Nat.le_of_ble_eq_true rfl⟩) (lxS1 (pre := mW G A th (nI z) (nI ln) dg f sl ik sv sg pl) (mid := oW G oa og ++ cW G xa so b ce a hh sg ln mk cs up fo tn w t lo hi me (nI n) qu gu ri re P F z none o1) hK hN hX (XZ_at hZ0 hS hA) hP hD) rfl rfl hl.1 rfl (lv_room (Nat.le_of_ble_eq_true rfl)) dL_law_616 ⟨by show 100 + 7 * j + 7 ≤ 601024; omega, by show 2000 + 64 * j + 64 ≤ 7293034; omega⟩) hP hD hS hA (fun r6 u6 H locs hw6 hP9 hD9 hS => ?_)
  obtain ⟨v6, u6⟩ := u6
  have hw6 : r6 = nI 0 ∧ v6 = nI n := hw6
  obtain ⟨rfl, rfl⟩ := hw6
  have hP : PP G (mW G A th (nI z) (nI ln) dg f sl ik sv sg pl ++ (oW G oa (vp_updL og 0 ((nI n).toInt64)) ++ cW G xa so b ce a hh sg ln mk cs up fo tn w t lo hi me (nI n) qu gu ri re P F z (some (u6, bd fo tn w t lo hi me (nI n) qu gu ri re)) o1)) _ := hP9
  have hD : va_D Ar (mW G A th (nI z) (nI ln) dg f sl ik sv sg pl ++ (oW G oa (vp_updL og 0 ((nI n).toInt64)) ++ cW G xa so b ce a hh sg ln mk cs up fo tn w t lo hi me (nI n) qu gu ri re P F z (some (u6, bd fo tn w t lo hi me (nI n) qu gu ri re)) o1)) := hD9
  refine lv_istore (lv' := [(5, .int (nI 0)), (0, .ref b9), (1, .ref xa), (2, .ref (A 0)), (3, .ref oa), (4, .int (nI (4 * j)))]) hx hb dL_law_619 hl (by decide) rfl (fun ls hl => ?_)
  refine lv_aload_n hx hb dL_law_621 rfl (lv_at hl 3 rfl) ?_
  refine lv_aload_n hx hb dL_law_622 rfl (lv_at hl 1 rfl) ?_
  refine lv_iload hx hb dL_law_623 (lv_at hl 5 rfl) ?_
  refine lv_iconst (v := nI 1) hx hb dL_law_625 (by decide) ?_
  refine lv_iadd hx hb dL_law_626 ?_
  refine lv_cgi (y := nI ((4 * j) + 1)) (nI_add _ _) ?_
  refine va_sld hx hb hXs hbl hbA hS (vp_in_nI (by omega) (by omega)) dL_law_627 ?_
  refine lv_cgi (y := nI 0) (by rw [nI_clamp (by omega)]; exact hp0) ?_
  refine wr_goi (pre := []) (mid := mW G A th (nI z) (nI ln) dg f sl ik sv sg pl) (suf := oW G oa (vp_updL og 0 ((nI n).toInt64)) ++ cW G xa so b ce a hh sg ln mk cs up fo tn w t lo hi me (nI n) qu gu ri re P F z (some (u6, bd fo tn w t lo hi me (nI n) qu gu ri re)) o1) (va_runV (As := [.int (nI 0)]) (rest := []) ⟨hx, hb, hml, hown, hts⟩ (c_X7_keep l G _ A th (nI z) (nI ln) dg f sl ik sv sg pl 0 (by omega)) (cwV 1 hts gL_law_X7_keep rfl rfl rfl (by decide +kernel) ⟨Nat.le_of_ble_eq_true rfl, Nat.le_of_ble_eq_true rfl⟩) (wV (pre := []) (mid := mW G A th (nI z) (nI ln) dg f sl ik sv sg pl) (suf := oW G oa (vp_updL og 0 ((nI n).toInt64)) ++ cW G xa so b ce a hh sg ln mk cs up fo tn w t lo hi me (nI n) qu gu ri re P F z (some (u6, bd fo tn w t lo hi me (nI n) qu gu ri re)) o1) (va_recv (ws := mW G A th (nI z) (nI ln) dg f sl ik sv sg pl ++ (oW G oa (vp_updL og 0 ((nI n).toInt64)) ++ cW G xa so b ce a hh sg ln mk cs up fo tn w t lo hi me (nI n) qu gu ri re P F z (some (u6, bd fo tn w t lo hi me (nI n) qu gu ri re)) o1)) hK hP (ci := 6) (q0 := 0) rfl rfl) hK hN hP hD) rfl rfl hl.1 rfl (lv_room (Nat.le_of_ble_eq_true rfl)) dL_law_628 ⟨by show 100 + 7 * j + 7 + 0 ≤ 601024; omega, by show 2000 + 64 * j + 64 + 0 ≤ 7293034; omega⟩) hP hD hS hA (fun r7 u7 H locs hw7 hP9 hD9 hS => ?_)
  have hw7 : r7 = f 17 := hw7
  subst hw7
  have hP : PP G (mW G A (nI 0) (nI z) (nI ln) dg f (cp sl (58 * 0) f 0 58) (upd ik 0 (nI 1)) sv sg pl ++ (oW G oa (vp_updL og 0 ((nI n).toInt64)) ++ cW G xa so b ce a hh sg ln mk cs up fo tn w t lo hi me (nI n) qu gu ri re P F z (some (u6, bd fo tn w t lo hi me (nI n) qu gu ri re)) o1)) _ := hP9
  have hD : va_D Ar (mW G A (nI 0) (nI z) (nI ln) dg f (cp sl (58 * 0) f 0 58) (upd ik 0 (nI 1)) sv sg pl ++ (oW G oa (vp_updL og 0 ((nI n).toInt64)) ++ cW G xa so b ce a hh sg ln mk cs up fo tn w t lo hi me (nI n) qu gu ri re P F z (some (u6, bd fo tn w t lo hi me (nI n) qu gu ri re)) o1)) := hD9
  refine lv_istore (lv' := [(6, .int (f 17)), (5, .int (nI 0)), (0, .ref b9), (1, .ref xa), (2, .ref (A 0)), (3, .ref oa), (4, .int (nI (4 * j)))]) hx hb dL_law_631 hl (by decide) rfl (fun ls hl => ?_)
  refine lv_aload_n hx hb dL_law_633 rfl (lv_at hl 4 rfl) ?_
  refine rd_go (va_runV (As := []) (rest := []) ⟨hx, hb, hml, hown, hts⟩ (c_X7_thrown l G A (nI 0) (nI z) (nI ln) dg f (cp sl (58 * 0) f 0 58) (upd ik 0 (nI 1)) sv sg pl) (cwV 0 hts gL_law_X7_thrown rfl rfl rfl (by decide +kernel) ⟨Nat.le_of_ble_eq_true rfl, Nat.le_of_ble_eq_true rfl⟩) (rV (ws := mW G A (nI 0) (nI z) (nI ln) dg f (cp sl (58 * 0) f 0 58) (upd ik 0 (nI 1)) sv sg pl) (va_recv (ws := mW G A (nI 0) (nI z) (nI ln) dg f (cp sl (58 * 0) f 0 58) (upd ik 0 (nI 1)) sv sg pl ++ (oW G oa (vp_updL og 0 ((nI n).toInt64)) ++ cW G xa so b ce a hh sg ln mk cs up fo tn w t lo hi me (nI n) qu gu ri re P F z (some (u6, bd fo tn w t lo hi me (nI n) qu gu ri re)) o1)) hK hP (ci := 6) (q0 := 0) rfl rfl) hK hN (P_mid (pre := []) (mid := mW G A (nI 0) (nI z) (nI ln) dg f (cp sl (58 * 0) f 0 58) (upd ik 0 (nI 1)) sv sg pl) (suf := oW G oa (vp_updL og 0 ((nI n).toInt64)) ++ cW G xa so b ce a hh sg ln mk cs up fo tn w t lo hi me (nI n) qu gu ri re P F z (some (u6, bd fo tn w t lo hi me (nI n) qu gu ri re)) o1) hP)) rfl rfl hl.1 rfl (lv_room (Nat.le_of_ble_eq_true rfl)) dL_law_634 ⟨by show 100 + 7 * j + 7 + 0 + 0 ≤ 601024; omega, by show 2000 + 64 * j + 64 + 0 + 0 ≤ 7293034; omega⟩) ?_
  refine lv_iload hx hb dL_law_637 (lv_at hl 1 rfl) ?_
  refine lv_icmp_eq (tgt := 644) hx hb dL_law_639 (by decide) (fun c_639 => ?_) (fun c_639 => by exact absurd c_639 (by decide))
  refine lv_iload hx hb dL_law_644 (lv_at hl 1 rfl) ?_
  refine lv_if_ne (tgt := 661) hx hb dL_law_646 (by decide) (fun c_646 => by exact absurd c_646 (by decide)) (fun c_646 => ?_)
  refine lv_aload_n hx hb dL_law_649 rfl (lv_at hl 5 rfl) ?_
  refine lv_iconst (v := nI 0) hx hb dL_law_650 (by decide) ?_
  refine va_lald (D := G.1) (ws := mW G A (nI 0) (nI z) (nI ln) dg f (cp sl (58 * 0) f 0 58) (upd ik 0 (nI 1)) sv sg pl ++ (oW G oa (vp_updL og 0 ((nI n).toInt64)) ++ cW G xa so b ce a hh sg ln mk cs up fo tn w t lo hi me (nI n) qu gu ri re P F z (some (u6, bd fo tn w t lo hi me (nI n) qu gu ri re)) o1)) hx hb hK hP 7 3 (n := 1) rfl rfl (vp_in_nI (by decide) (by decide)) dL_law_651 ?_
  refine lv_cgl (y := (nI n).toInt64) vpL ?_
  refine lv_iload hx hb dL_law_652 (lv_at hl 0 rfl) ?_
  refine lv_i2l (v := (f 17).toInt64) hx hb dL_law_654 rfl ?_
  refine lv_cgl (y := (nI n).toInt64) (by rw [hn17]) ?_
  refine W.lcmp hx hb dL_law_655 ?_
  refine lv_cgi (y := nI 0) (lg_self _) ?_
  refine lv_if_eq (tgt := 661) hx hb dL_law_656 (by decide) (fun c_656 => ?_) (fun c_656 => by exact absurd c_656 (by decide))
  refine lv_goto (tgt := 1297) hx hb dL_law_661 (by decide) ?_
  refine lv_iinc (v := nI (4 * (j + 1))) (lv' := [(4, .int (nI (4 * (j + 1)))), (6, .int (f 17)), (5, .int (nI 0)), (0, .ref b9), (1, .ref xa), (2, .ref (A 0)), (3, .ref oa)]) hx hb dL_law_1297 hl (k := 6) rfl (iinc4 (4 * j)) (by decide) rfl (fun ls hl => ?_)
  refine lv_goto (tgt := 23) hx hb dL_law_1300 (by decide) ?_
  refine W.widen (k := 100 + 7 * (j + 1)) (n := 2000 + 64 * (j + 1)) (by omega) (by omega) ?_
  exact hHd _ _ _ ⟨vp_updL og 0 ((nI n).toInt64), sg, ln, mk, cs, up, fo, tn, w, t, lo, hi, me, nI n, qu, gu, ri, re, P, F, z, some (u6, bd fo tn w t lo hi me (nI n) qu gu ri re), o1, nI 0, dg, f, cp sl (58 * 0) f 0 58, upd ik 0 (nI 1), sv, pl, rfl, hln, hz, (RG_mono (Nat.le_succ _) (RG_of hRS)), (cen_of hn hcv), (HI_mono (Nat.le_succ _) hHI), ⟨rfl, RG_mono (Nat.le_succ _) (RG_cong (RG_of hRS) (fun q hq => by show cp sl (58 * 0) f 0 58 (q) = f q; rw [cp_in ⟨by omega, by omega⟩]; congr 1; omega))⟩, (SLr_cong (SLr_mono (Nat.le_succ _) hs1) (fun q hq => cp_out (by omega)))⟩ hP hD hS ls (lv_sub hl [3, 4, 5, 6, 0] rfl)

set_option maxHeartbeats 8000000 in
set_option maxRecDepth 100000 in
theorem L_keep_s0 {p : Program} {l : Launch} {e : Env} {s : State} {m : MethodId} {args : Array Value} {below : List Frame} {meth : Method} {cd : Code} {Q : State → Prop} {G : GG} {Ar : Nat → Prop} {b9 L : Nat} {xs : Nat → Int32} {xa so oa : Nat} {b ce a hh A : Nat → Nat} (hE : LE9 p l s m args cd G Ar b9 L xs) {j : Nat} (hj : 4 * j + 4 ≤ L) (hL : L ≤ 2048) (hHd : LH p l e s m args below meth cd Q G Ar b9 xa so oa b ce a hh A (j + 1))
    (og : Nat → Int64) (sg : Nat → Int32) (ln : Nat) (hln : ln ≤ 60) (mk : Nat → Int32) (cs up fo tn : Int32) (w t lo hi me : Nat → Int32) (n : Nat) (qu gu ri re : Int32) (P : Nat → Nat → Nat) (F : Nat → Nat → Nat → Int32) (z : Nat) (hz : z ≤ 6) (o1 : SLO) (th : Int32) (dg : Int64) (f sl ik sv pl : Nat → Int32) (a1 : Nat → Nat) (g1 : Nat → Nat → Int32)
    (hRS : RS j fo tn w t lo hi me n qu gu ri re f) (hcv : cenV (qS tn lo hi me n) mk cs up) (hHI : HI j z F sv) (hs0 : SLr j (some (a1, g1)) (ik 0) sl) (hs1 : SLr j o1 (ik 1) (fun j => sl (58 + j))) (hp0 : xs (4 * j + 1) = nI 0)
    {H : Heap} {locs : List Loc} (hP : PP G (mW G A th (nI z) (nI ln) dg f sl ik sv sg pl ++ (oW G oa og ++ cW G xa so b ce a hh sg ln mk cs up fo tn w t lo hi me (nI n) qu gu ri re P F z (some (a1, g1)) o1)) H) (hD : va_D Ar (mW G A th (nI z) (nI ln) dg f sl ik sv sg pl ++ (oW G oa og ++ cW G xa so b ce a hh sg ln mk cs up fo tn w t lo hi me (nI n) qu gu ri re P F z (some (a1, g1)) o1))) (hS : va_S Ar s.heap H locs) {ls : Array Slot} (hl : lv_has ls 9 [(0, .ref b9), (1, .ref xa), (2, .ref (A 0)), (3, .ref oa), (4, .int (nI (4 * j)))]) : W p l e room_1 s m args below meth cd H locs (100 + 7 * j) (2000 + 64 * j) Q (F0 m 608 ls []) := by
  obtain ⟨hx, hb, hml, hown, hts, hfl, ⟨hK, hN, hX, hZ0⟩, hA, hXs, hbl, hbA⟩ := id hE
  have hn : n ≤ 12 := hRS.1.1
  have hn17 : f 17 = nI n := hRS.2.1.2.2.1
  have hT : okP t := hRS.2.2.1.2.1
  have hvL : okL lo hi := hRS.2.2.1.2.2.1
  have hvA : okA f := hRS.2.2.1.2.2.2
  have htF : okT f := fun i hi => by rw [hRS.2.1.2.2.2.2 i hi]; exact hT i hi
  refine lv_aload_n hx hb dL_law_608 rfl (lv_at hl 1 rfl) ?_
  refine lv_aload_n hx hb dL_law_609 rfl (lv_at hl 0 rfl) ?_
  refine lv_iload hx hb dL_law_610 (lv_at hl 4 rfl) ?_
  refine lv_iconst (v := nI 1) hx hb dL_law_612 (by decide) ?_
  refine lv_iadd hx hb dL_law_613 ?_
  refine lv_cgi (y := nI ((4 * j) + 1)) (nI_add _ _) ?_
  refine va_sld hx hb hXs hbl hbA hS (vp_in_nI (by omega) (by omega)) dL_law_614 ?_
  refine lv_cgi (y := nI 0) (by rw [nI_clamp (by omega)]; exact hp0) ?_
  refine lv_aload_n hx hb dL_law_615 rfl (lv_at hl 3 rfl) ?_
  refine wr_g1i (pre := mW G A th (nI z) (nI ln) dg f sl ik sv sg pl) (mid := oW G oa og ++ cW G xa so b ce a hh sg ln mk cs up fo tn w t lo hi me (nI n) qu gu ri re P F z (some (a1, g1)) o1) (vx_runSW (As := [.ref xa, .int (nI 0), .ref oa]) (rest := []) ⟨hx, hb, hml, hown, hts⟩ (w_keep_ok l G _ xa oa _ _ og (nI 0) (fun sz => c_X6_keep_s0 l G sz xa so b ce a hh sg ln hln mk cs up fo tn w t lo hi me n hn qu gu ri re P F z hz none o1 a1 g1)) (vx_cwSW 3 hts gL_law_L_keep rfl rfl rfl (by decide +kernel) ⟨Nat.le_of_ble_eq_true rfl, Nat.le_of_ble_eq_true rfl⟩) (lxS1 (pre := mW G A th (nI z) (nI ln) dg f sl ik sv sg pl) (mid := oW G oa og ++ cW G xa so b ce a hh sg ln mk cs up fo tn w t lo hi me (nI n) qu gu ri re P F z (some (a1, g1)) o1) hK hN hX (XZ_at hZ0 hS hA) hP hD) rfl rfl hl.1 rfl (lv_room (Nat.le_of_ble_eq_true rfl)) dL_law_616 ⟨by show 100 + 7 * j + 7 ≤ 601024; omega, by show 2000 + 64 * j + 64 ≤ 7293034; omega⟩) hP hD hS hA (fun r6 u6 H locs hw6 hP9 hD9 hS => ?_)
  obtain ⟨v6, u6⟩ := u6
  have hw6 : r6 = nI 0 ∧ v6 = nI n := hw6
  obtain ⟨rfl, rfl⟩ := hw6
  have hP : PP G (mW G A th (nI z) (nI ln) dg f sl ik sv sg pl ++ (oW G oa (vp_updL og 0 ((nI n).toInt64)) ++ cW G xa so b ce a hh sg ln mk cs up fo tn w t lo hi me (nI n) qu gu ri re P F z (some (a1, bd fo tn w t lo hi me (nI n) qu gu ri re)) o1)) _ := hP9
  have hD : va_D Ar (mW G A th (nI z) (nI ln) dg f sl ik sv sg pl ++ (oW G oa (vp_updL og 0 ((nI n).toInt64)) ++ cW G xa so b ce a hh sg ln mk cs up fo tn w t lo hi me (nI n) qu gu ri re P F z (some (a1, bd fo tn w t lo hi me (nI n) qu gu ri re)) o1)) := hD9
  refine lv_istore (lv' := [(5, .int (nI 0)), (0, .ref b9), (1, .ref xa), (2, .ref (A 0)), (3, .ref oa), (4, .int (nI (4 * j)))]) hx hb dL_law_619 hl (by decide) rfl (fun ls hl => ?_)
  refine lv_aload_n hx hb dL_law_621 rfl (lv_at hl 3 rfl) ?_
  refine lv_aload_n hx hb dL_law_622 rfl (lv_at hl 1 rfl) ?_
  refine lv_iload hx hb dL_law_623 (lv_at hl 5 rfl) ?_
  refine lv_iconst (v := nI 1) hx hb dL_law_625 (by decide) ?_
  refine lv_iadd hx hb dL_law_626 ?_
  refine lv_cgi (y := nI ((4 * j) + 1)) (nI_add _ _) ?_
  refine va_sld hx hb hXs hbl hbA hS (vp_in_nI (by omega) (by omega)) dL_law_627 ?_
  refine lv_cgi (y := nI 0) (by rw [nI_clamp (by omega)]; exact hp0) ?_
  refine wr_goi (pre := []) (mid := mW G A th (nI z) (nI ln) dg f sl ik sv sg pl) (suf := oW G oa (vp_updL og 0 ((nI n).toInt64)) ++ cW G xa so b ce a hh sg ln mk cs up fo tn w t lo hi me (nI n) qu gu ri re P F z (some (a1, bd fo tn w t lo hi me (nI n) qu gu ri re)) o1) (va_runV (As := [.int (nI 0)]) (rest := []) ⟨hx, hb, hml, hown, hts⟩ (c_X7_keep l G _ A th (nI z) (nI ln) dg f sl ik sv sg pl 0 (by omega)) (cwV 1 hts gL_law_X7_keep rfl rfl rfl (by decide +kernel) ⟨Nat.le_of_ble_eq_true rfl, Nat.le_of_ble_eq_true rfl⟩) (wV (pre := []) (mid := mW G A th (nI z) (nI ln) dg f sl ik sv sg pl) (suf := oW G oa (vp_updL og 0 ((nI n).toInt64)) ++ cW G xa so b ce a hh sg ln mk cs up fo tn w t lo hi me (nI n) qu gu ri re P F z (some (a1, bd fo tn w t lo hi me (nI n) qu gu ri re)) o1) (va_recv (ws := mW G A th (nI z) (nI ln) dg f sl ik sv sg pl ++ (oW G oa (vp_updL og 0 ((nI n).toInt64)) ++ cW G xa so b ce a hh sg ln mk cs up fo tn w t lo hi me (nI n) qu gu ri re P F z (some (a1, bd fo tn w t lo hi me (nI n) qu gu ri re)) o1)) hK hP (ci := 6) (q0 := 0) rfl rfl) hK hN hP hD) rfl rfl hl.1 rfl (lv_room (Nat.le_of_ble_eq_true rfl)) dL_law_628 ⟨by show 100 + 7 * j + 7 + 0 ≤ 601024; omega, by show 2000 + 64 * j + 64 + 0 ≤ 7293034; omega⟩) hP hD hS hA (fun r7 u7 H locs hw7 hP9 hD9 hS => ?_)
  have hw7 : r7 = f 17 := hw7
  subst hw7
  have hP : PP G (mW G A (nI 0) (nI z) (nI ln) dg f (cp sl (58 * 0) f 0 58) (upd ik 0 (nI 1)) sv sg pl ++ (oW G oa (vp_updL og 0 ((nI n).toInt64)) ++ cW G xa so b ce a hh sg ln mk cs up fo tn w t lo hi me (nI n) qu gu ri re P F z (some (a1, bd fo tn w t lo hi me (nI n) qu gu ri re)) o1)) _ := hP9
  have hD : va_D Ar (mW G A (nI 0) (nI z) (nI ln) dg f (cp sl (58 * 0) f 0 58) (upd ik 0 (nI 1)) sv sg pl ++ (oW G oa (vp_updL og 0 ((nI n).toInt64)) ++ cW G xa so b ce a hh sg ln mk cs up fo tn w t lo hi me (nI n) qu gu ri re P F z (some (a1, bd fo tn w t lo hi me (nI n) qu gu ri re)) o1)) := hD9
  refine lv_istore (lv' := [(6, .int (f 17)), (5, .int (nI 0)), (0, .ref b9), (1, .ref xa), (2, .ref (A 0)), (3, .ref oa), (4, .int (nI (4 * j)))]) hx hb dL_law_631 hl (by decide) rfl (fun ls hl => ?_)
  refine lv_aload_n hx hb dL_law_633 rfl (lv_at hl 4 rfl) ?_
  refine rd_go (va_runV (As := []) (rest := []) ⟨hx, hb, hml, hown, hts⟩ (c_X7_thrown l G A (nI 0) (nI z) (nI ln) dg f (cp sl (58 * 0) f 0 58) (upd ik 0 (nI 1)) sv sg pl) (cwV 0 hts gL_law_X7_thrown rfl rfl rfl (by decide +kernel) ⟨Nat.le_of_ble_eq_true rfl, Nat.le_of_ble_eq_true rfl⟩) (rV (ws := mW G A (nI 0) (nI z) (nI ln) dg f (cp sl (58 * 0) f 0 58) (upd ik 0 (nI 1)) sv sg pl) (va_recv (ws := mW G A (nI 0) (nI z) (nI ln) dg f (cp sl (58 * 0) f 0 58) (upd ik 0 (nI 1)) sv sg pl ++ (oW G oa (vp_updL og 0 ((nI n).toInt64)) ++ cW G xa so b ce a hh sg ln mk cs up fo tn w t lo hi me (nI n) qu gu ri re P F z (some (a1, bd fo tn w t lo hi me (nI n) qu gu ri re)) o1)) hK hP (ci := 6) (q0 := 0) rfl rfl) hK hN (P_mid (pre := []) (mid := mW G A (nI 0) (nI z) (nI ln) dg f (cp sl (58 * 0) f 0 58) (upd ik 0 (nI 1)) sv sg pl) (suf := oW G oa (vp_updL og 0 ((nI n).toInt64)) ++ cW G xa so b ce a hh sg ln mk cs up fo tn w t lo hi me (nI n) qu gu ri re P F z (some (a1, bd fo tn w t lo hi me (nI n) qu gu ri re)) o1) hP)) rfl rfl hl.1 rfl (lv_room (Nat.le_of_ble_eq_true rfl)) dL_law_634 ⟨by show 100 + 7 * j + 7 + 0 + 0 ≤ 601024; omega, by show 2000 + 64 * j + 64 + 0 + 0 ≤ 7293034; omega⟩) ?_
  refine lv_iload hx hb dL_law_637 (lv_at hl 1 rfl) ?_
  refine lv_icmp_eq (tgt := 644) hx hb dL_law_639 (by decide) (fun c_639 => ?_) (fun c_639 => by exact absurd c_639 (by decide))
  refine lv_iload hx hb dL_law_644 (lv_at hl 1 rfl) ?_
  refine lv_if_ne (tgt := 661) hx hb dL_law_646 (by decide) (fun c_646 => by exact absurd c_646 (by decide)) (fun c_646 => ?_)
  refine lv_aload_n hx hb dL_law_649 rfl (lv_at hl 5 rfl) ?_
  refine lv_iconst (v := nI 0) hx hb dL_law_650 (by decide) ?_
  refine va_lald (D := G.1) (ws := mW G A (nI 0) (nI z) (nI ln) dg f (cp sl (58 * 0) f 0 58) (upd ik 0 (nI 1)) sv sg pl ++ (oW G oa (vp_updL og 0 ((nI n).toInt64)) ++ cW G xa so b ce a hh sg ln mk cs up fo tn w t lo hi me (nI n) qu gu ri re P F z (some (a1, bd fo tn w t lo hi me (nI n) qu gu ri re)) o1)) hx hb hK hP 7 3 (n := 1) rfl rfl (vp_in_nI (by decide) (by decide)) dL_law_651 ?_
  refine lv_cgl (y := (nI n).toInt64) vpL ?_
  refine lv_iload hx hb dL_law_652 (lv_at hl 0 rfl) ?_
  refine lv_i2l (v := (f 17).toInt64) hx hb dL_law_654 rfl ?_
  refine lv_cgl (y := (nI n).toInt64) (by rw [hn17]) ?_
  refine W.lcmp hx hb dL_law_655 ?_
  refine lv_cgi (y := nI 0) (lg_self _) ?_
  refine lv_if_eq (tgt := 661) hx hb dL_law_656 (by decide) (fun c_656 => ?_) (fun c_656 => by exact absurd c_656 (by decide))
  refine lv_goto (tgt := 1297) hx hb dL_law_661 (by decide) ?_
  refine lv_iinc (v := nI (4 * (j + 1))) (lv' := [(4, .int (nI (4 * (j + 1)))), (6, .int (f 17)), (5, .int (nI 0)), (0, .ref b9), (1, .ref xa), (2, .ref (A 0)), (3, .ref oa)]) hx hb dL_law_1297 hl (k := 6) rfl (iinc4 (4 * j)) (by decide) rfl (fun ls hl => ?_)
  refine lv_goto (tgt := 23) hx hb dL_law_1300 (by decide) ?_
  refine W.widen (k := 100 + 7 * (j + 1)) (n := 2000 + 64 * (j + 1)) (by omega) (by omega) ?_
  exact hHd _ _ _ ⟨vp_updL og 0 ((nI n).toInt64), sg, ln, mk, cs, up, fo, tn, w, t, lo, hi, me, nI n, qu, gu, ri, re, P, F, z, some (a1, bd fo tn w t lo hi me (nI n) qu gu ri re), o1, nI 0, dg, f, cp sl (58 * 0) f 0 58, upd ik 0 (nI 1), sv, pl, rfl, hln, hz, (RG_mono (Nat.le_succ _) (RG_of hRS)), (cen_of hn hcv), (HI_mono (Nat.le_succ _) hHI), ⟨rfl, RG_mono (Nat.le_succ _) (RG_cong (RG_of hRS) (fun q hq => by show cp sl (58 * 0) f 0 58 (q) = f q; rw [cp_in ⟨by omega, by omega⟩]; congr 1; omega))⟩, (SLr_cong (SLr_mono (Nat.le_succ _) hs1) (fun q hq => cp_out (by omega)))⟩ hP hD hS ls (lv_sub hl [3, 4, 5, 6, 0] rfl)

set_option maxHeartbeats 8000000 in
set_option maxRecDepth 100000 in
theorem L_goBack_0 {p : Program} {l : Launch} {e : Env} {s : State} {m : MethodId} {args : Array Value} {below : List Frame} {meth : Method} {cd : Code} {Q : State → Prop} {G : GG} {Ar : Nat → Prop} {b9 L : Nat} {xs : Nat → Int32} {xa so oa : Nat} {b ce a hh A : Nat → Nat} (hE : LE9 p l s m args cd G Ar b9 L xs) {j : Nat} (hj : 4 * j + 4 ≤ L) (hL : L ≤ 2048) (hHd : LH p l e s m args below meth cd Q G Ar b9 xa so oa b ce a hh A (j + 1))
    (og : Nat → Int64) (sg : Nat → Int32) (ln : Nat) (hln : ln ≤ 60) (mk : Nat → Int32) (cs up fo tn : Int32) (w t lo hi me : Nat → Int32) (n : Nat) (qu gu ri re : Int32) (P : Nat → Nat → Nat) (F : Nat → Nat → Nat → Int32) (z : Nat) (hz : z ≤ 6) (o1 : SLO) (th : Int32) (dg : Int64) (f sl ik sv pl : Nat → Int32) (a1 : Nat → Nat) (g1 : Nat → Nat → Int32)
    (hRS : RS j fo tn w t lo hi me n qu gu ri re f) (hcv : cenV (qS tn lo hi me n) mk cs up) (hHI : HI j z F sv) (hs0 : SLr j (some (a1, g1)) (ik 0) sl) (hs1 : SLr j o1 (ik 1) (fun j => sl (58 + j))) (hp0 : xs (4 * j + 1) = nI 0)
    {H : Heap} {locs : List Loc} (hP : PP G (mW G A th (nI z) (nI ln) dg f sl ik sv sg pl ++ (oW G oa og ++ cW G xa so b ce a hh sg ln mk cs up fo tn w t lo hi me (nI n) qu gu ri re P F z (some (a1, g1)) o1)) H) (hD : va_D Ar (mW G A th (nI z) (nI ln) dg f sl ik sv sg pl ++ (oW G oa og ++ cW G xa so b ce a hh sg ln mk cs up fo tn w t lo hi me (nI n) qu gu ri re P F z (some (a1, g1)) o1))) (hS : va_S Ar s.heap H locs) {ls : Array Slot} (hl : lv_has ls 9 [(0, .ref b9), (1, .ref xa), (2, .ref (A 0)), (3, .ref oa), (4, .int (nI (4 * j)))]) : W p l e room_1 s m args below meth cd H locs (100 + 7 * j) (2000 + 64 * j) Q (F0 m 664 ls []) := by
  obtain ⟨hx, hb, hml, hown, hts, hfl, ⟨hK, hN, hX, hZ0⟩, hA, hXs, hbl, hbA⟩ := id hE
  have hn : n ≤ 12 := hRS.1.1
  have hn17 : f 17 = nI n := hRS.2.1.2.2.1
  have hT : okP t := hRS.2.2.1.2.1
  have hvL : okL lo hi := hRS.2.2.1.2.2.1
  have hvA : okA f := hRS.2.2.1.2.2.2
  have htF : okT f := fun i hi => by rw [hRS.2.1.2.2.2.2 i hi]; exact hT i hi
  have hst : RG j g1 (cp f 0 sl (58 * 0) 58) := RG_cong hs0.2 (fun q hq => by rw [cp_in ⟨by omega, by omega⟩]; first | (congr 1; omega) | rfl)
  have heq9 : cp f 0 sl (58 * 0) 58 17 = g1 0 6 := by obtain ⟨n9, e9, r9⟩ := hst; rw [e9]; exact r9.2.1.2.2.1
  refine lv_aload_n hx hb dL_law_664 rfl (lv_at hl 1 rfl) ?_
  refine lv_aload_n hx hb dL_law_665 rfl (lv_at hl 0 rfl) ?_
  refine lv_iload hx hb dL_law_666 (lv_at hl 4 rfl) ?_
  refine lv_iconst (v := nI 1) hx hb dL_law_668 (by decide) ?_
  refine lv_iadd hx hb dL_law_669 ?_
  refine lv_cgi (y := nI ((4 * j) + 1)) (nI_add _ _) ?_
  refine va_sld hx hb hXs hbl hbA hS (vp_in_nI (by omega) (by omega)) dL_law_670 ?_
  refine lv_cgi (y := nI 0) (by rw [nI_clamp (by omega)]; exact hp0) ?_
  refine lv_aload_n hx hb dL_law_671 rfl (lv_at hl 3 rfl) ?_
  refine wr_g1i (pre := mW G A th (nI z) (nI ln) dg f sl ik sv sg pl) (mid := oW G oa og ++ cW G xa so b ce a hh sg ln mk cs up fo tn w t lo hi me (nI n) qu gu ri re P F z (some (a1, g1)) o1) (vx_runSW (As := [.ref xa, .int (nI 0), .ref oa]) (rest := []) ⟨hx, hb, hml, hown, hts⟩ (w_goBack_ok l G _ xa oa _ _ og (nI 0) (fun sz => c_X6_goBack_0 l G sz xa so b ce a hh sg ln hln mk cs up fo tn w t lo hi me n hn qu gu ri re P F z hz none o1 a1 g1)) (vx_cwSW 3 hts gL_law_L_goBack rfl rfl rfl (by decide +kernel) ⟨Nat.le_of_ble_eq_true rfl, Nat.le_of_ble_eq_true rfl⟩) (lxS1 (pre := mW G A th (nI z) (nI ln) dg f sl ik sv sg pl) (mid := oW G oa og ++ cW G xa so b ce a hh sg ln mk cs up fo tn w t lo hi me (nI n) qu gu ri re P F z (some (a1, g1)) o1) hK hN hX (XZ_at hZ0 hS hA) hP hD) rfl rfl hl.1 rfl (lv_room (Nat.le_of_ble_eq_true rfl)) dL_law_672 ⟨by show 100 + 7 * j + 0 ≤ 601024; omega, by show 2000 + 64 * j + 0 ≤ 7293034; omega⟩) hP hD hS hA (fun r6 u6 H locs hw6 hP9 hD9 hS => ?_)
  obtain ⟨v6, u6⟩ := u6
  have hw6 : r6 = nI 0 ∧ v6 = g1 0 6 := hw6
  obtain ⟨rfl, rfl⟩ := hw6
  have hP : PP G (mW G A th (nI z) (nI ln) dg f sl ik sv sg pl ++ (oW G oa (vp_updL og 0 ((g1 0 6).toInt64)) ++ cW G xa so b ce a hh sg ln mk cs (nI 0) (g1 0 0) (g1 0 1) (g1 1) (g1 2) (g1 3) (g1 4) (g1 5) (g1 0 6) (g1 0 2) (g1 0 3) (g1 0 4) (g1 0 5) (svP P z) (va_up (svP F z) (svm z) (bd fo tn w t lo hi me (nI n) qu gu ri re)) (svm z + 1) (some (a1, g1)) o1)) _ := hP9
  have hD : va_D Ar (mW G A th (nI z) (nI ln) dg f sl ik sv sg pl ++ (oW G oa (vp_updL og 0 ((g1 0 6).toInt64)) ++ cW G xa so b ce a hh sg ln mk cs (nI 0) (g1 0 0) (g1 0 1) (g1 1) (g1 2) (g1 3) (g1 4) (g1 5) (g1 0 6) (g1 0 2) (g1 0 3) (g1 0 4) (g1 0 5) (svP P z) (va_up (svP F z) (svm z) (bd fo tn w t lo hi me (nI n) qu gu ri re)) (svm z + 1) (some (a1, g1)) o1)) := hD9
  refine lv_istore (lv' := [(5, .int (nI 0)), (0, .ref b9), (1, .ref xa), (2, .ref (A 0)), (3, .ref oa), (4, .int (nI (4 * j)))]) hx hb dL_law_675 hl (by decide) rfl (fun ls hl => ?_)
  refine lv_aload_n hx hb dL_law_677 rfl (lv_at hl 3 rfl) ?_
  refine lv_aload_n hx hb dL_law_678 rfl (lv_at hl 1 rfl) ?_
  refine lv_iload hx hb dL_law_679 (lv_at hl 5 rfl) ?_
  refine lv_iconst (v := nI 1) hx hb dL_law_681 (by decide) ?_
  refine lv_iadd hx hb dL_law_682 ?_
  refine lv_cgi (y := nI ((4 * j) + 1)) (nI_add _ _) ?_
  refine va_sld hx hb hXs hbl hbA hS (vp_in_nI (by omega) (by omega)) dL_law_683 ?_
  refine lv_cgi (y := nI 0) (by rw [nI_clamp (by omega)]; exact hp0) ?_
  refine wr_goi (pre := []) (mid := mW G A th (nI z) (nI ln) dg f sl ik sv sg pl) (suf := oW G oa (vp_updL og 0 ((g1 0 6).toInt64)) ++ cW G xa so b ce a hh sg ln mk cs (nI 0) (g1 0 0) (g1 0 1) (g1 1) (g1 2) (g1 3) (g1 4) (g1 5) (g1 0 6) (g1 0 2) (g1 0 3) (g1 0 4) (g1 0 5) (svP P z) (va_up (svP F z) (svm z) (bd fo tn w t lo hi me (nI n) qu gu ri re)) (svm z + 1) (some (a1, g1)) o1) (va_runV (As := [.int (nI 0)]) (rest := []) ⟨hx, hb, hml, hown, hts⟩ (c_X7_goBack l G _ A th (nI ln) dg f sl ik sv sg pl z hz 0 (by omega) hs0.1) (cwV 1 hts gL_law_X7_goBack rfl rfl rfl (by decide +kernel) ⟨Nat.le_of_ble_eq_true rfl, Nat.le_of_ble_eq_true rfl⟩) (wV (pre := []) (mid := mW G A th (nI z) (nI ln) dg f sl ik sv sg pl) (suf := oW G oa (vp_updL og 0 ((g1 0 6).toInt64)) ++ cW G xa so b ce a hh sg ln mk cs (nI 0) (g1 0 0) (g1 0 1) (g1 1) (g1 2) (g1 3) (g1 4) (g1 5) (g1 0 6) (g1 0 2) (g1 0 3) (g1 0 4) (g1 0 5) (svP P z) (va_up (svP F z) (svm z) (bd fo tn w t lo hi me (nI n) qu gu ri re)) (svm z + 1) (some (a1, g1)) o1) (va_recv (ws := mW G A th (nI z) (nI ln) dg f sl ik sv sg pl ++ (oW G oa (vp_updL og 0 ((g1 0 6).toInt64)) ++ cW G xa so b ce a hh sg ln mk cs (nI 0) (g1 0 0) (g1 0 1) (g1 1) (g1 2) (g1 3) (g1 4) (g1 5) (g1 0 6) (g1 0 2) (g1 0 3) (g1 0 4) (g1 0 5) (svP P z) (va_up (svP F z) (svm z) (bd fo tn w t lo hi me (nI n) qu gu ri re)) (svm z + 1) (some (a1, g1)) o1)) hK hP (ci := 6) (q0 := 0) rfl rfl) hK hN hP hD) rfl rfl hl.1 rfl (lv_room (Nat.le_of_ble_eq_true rfl)) dL_law_684 ⟨by show 100 + 7 * j + 0 + 0 ≤ 601024; omega, by show 2000 + 64 * j + 0 + 0 ≤ 7293034; omega⟩) hP hD hS hA (fun r7 u7 H locs hw7 hP9 hD9 hS => ?_)
  have hw7 : r7 = cp f 0 sl (58 * 0) 58 17 := hw7
  subst hw7
  have hP : PP G (mW G A (nI 0) (nI (svm z + 1)) (nI ln) dg (cp f 0 sl (58 * 0) 58) sl ik (svF sv f z) sg pl ++ (oW G oa (vp_updL og 0 ((g1 0 6).toInt64)) ++ cW G xa so b ce a hh sg ln mk cs (nI 0) (g1 0 0) (g1 0 1) (g1 1) (g1 2) (g1 3) (g1 4) (g1 5) (g1 0 6) (g1 0 2) (g1 0 3) (g1 0 4) (g1 0 5) (svP P z) (va_up (svP F z) (svm z) (bd fo tn w t lo hi me (nI n) qu gu ri re)) (svm z + 1) (some (a1, g1)) o1)) _ := hP9
  have hD : va_D Ar (mW G A (nI 0) (nI (svm z + 1)) (nI ln) dg (cp f 0 sl (58 * 0) 58) sl ik (svF sv f z) sg pl ++ (oW G oa (vp_updL og 0 ((g1 0 6).toInt64)) ++ cW G xa so b ce a hh sg ln mk cs (nI 0) (g1 0 0) (g1 0 1) (g1 1) (g1 2) (g1 3) (g1 4) (g1 5) (g1 0 6) (g1 0 2) (g1 0 3) (g1 0 4) (g1 0 5) (svP P z) (va_up (svP F z) (svm z) (bd fo tn w t lo hi me (nI n) qu gu ri re)) (svm z + 1) (some (a1, g1)) o1)) := hD9
  refine lv_istore (lv' := [(6, .int (cp f 0 sl (58 * 0) 58 17)), (5, .int (nI 0)), (0, .ref b9), (1, .ref xa), (2, .ref (A 0)), (3, .ref oa), (4, .int (nI (4 * j)))]) hx hb dL_law_687 hl (by decide) rfl (fun ls hl => ?_)
  refine lv_aload_n hx hb dL_law_689 rfl (lv_at hl 4 rfl) ?_
  refine rd_go (va_runV (As := []) (rest := []) ⟨hx, hb, hml, hown, hts⟩ (c_X7_thrown l G A (nI 0) (nI (svm z + 1)) (nI ln) dg (cp f 0 sl (58 * 0) 58) sl ik (svF sv f z) sg pl) (cwV 0 hts gL_law_X7_thrown rfl rfl rfl (by decide +kernel) ⟨Nat.le_of_ble_eq_true rfl, Nat.le_of_ble_eq_true rfl⟩) (rV (ws := mW G A (nI 0) (nI (svm z + 1)) (nI ln) dg (cp f 0 sl (58 * 0) 58) sl ik (svF sv f z) sg pl) (va_recv (ws := mW G A (nI 0) (nI (svm z + 1)) (nI ln) dg (cp f 0 sl (58 * 0) 58) sl ik (svF sv f z) sg pl ++ (oW G oa (vp_updL og 0 ((g1 0 6).toInt64)) ++ cW G xa so b ce a hh sg ln mk cs (nI 0) (g1 0 0) (g1 0 1) (g1 1) (g1 2) (g1 3) (g1 4) (g1 5) (g1 0 6) (g1 0 2) (g1 0 3) (g1 0 4) (g1 0 5) (svP P z) (va_up (svP F z) (svm z) (bd fo tn w t lo hi me (nI n) qu gu ri re)) (svm z + 1) (some (a1, g1)) o1)) hK hP (ci := 6) (q0 := 0) rfl rfl) hK hN (P_mid (pre := []) (mid := mW G A (nI 0) (nI (svm z + 1)) (nI ln) dg (cp f 0 sl (58 * 0) 58) sl ik (svF sv f z) sg pl) (suf := oW G oa (vp_updL og 0 ((g1 0 6).toInt64)) ++ cW G xa so b ce a hh sg ln mk cs (nI 0) (g1 0 0) (g1 0 1) (g1 1) (g1 2) (g1 3) (g1 4) (g1 5) (g1 0 6) (g1 0 2) (g1 0 3) (g1 0 4) (g1 0 5) (svP P z) (va_up (svP F z) (svm z) (bd fo tn w t lo hi me (nI n) qu gu ri re)) (svm z + 1) (some (a1, g1)) o1) hP)) rfl rfl hl.1 rfl (lv_room (Nat.le_of_ble_eq_true rfl)) dL_law_690 ⟨by show 100 + 7 * j + 0 + 0 + 0 ≤ 601024; omega, by show 2000 + 64 * j + 0 + 0 + 0 ≤ 7293034; omega⟩) ?_
  refine lv_iload hx hb dL_law_693 (lv_at hl 1 rfl) ?_
  refine lv_icmp_eq (tgt := 700) hx hb dL_law_695 (by decide) (fun c_695 => ?_) (fun c_695 => by exact absurd c_695 (by decide))
  refine lv_iload hx hb dL_law_700 (lv_at hl 1 rfl) ?_
  refine lv_if_ne (tgt := 717) hx hb dL_law_702 (by decide) (fun c_702 => by exact absurd c_702 (by decide)) (fun c_702 => ?_)
  refine lv_aload_n hx hb dL_law_705 rfl (lv_at hl 5 rfl) ?_
  refine lv_iconst (v := nI 0) hx hb dL_law_706 (by decide) ?_
  refine va_lald (D := G.1) (ws := mW G A (nI 0) (nI (svm z + 1)) (nI ln) dg (cp f 0 sl (58 * 0) 58) sl ik (svF sv f z) sg pl ++ (oW G oa (vp_updL og 0 ((g1 0 6).toInt64)) ++ cW G xa so b ce a hh sg ln mk cs (nI 0) (g1 0 0) (g1 0 1) (g1 1) (g1 2) (g1 3) (g1 4) (g1 5) (g1 0 6) (g1 0 2) (g1 0 3) (g1 0 4) (g1 0 5) (svP P z) (va_up (svP F z) (svm z) (bd fo tn w t lo hi me (nI n) qu gu ri re)) (svm z + 1) (some (a1, g1)) o1)) hx hb hK hP 7 3 (n := 1) rfl rfl (vp_in_nI (by decide) (by decide)) dL_law_707 ?_
  refine lv_cgl (y := (g1 0 6).toInt64) vpL ?_
  refine lv_iload hx hb dL_law_708 (lv_at hl 0 rfl) ?_
  refine lv_i2l (v := (cp f 0 sl (58 * 0) 58 17).toInt64) hx hb dL_law_710 rfl ?_
  refine lv_cgl (y := (g1 0 6).toInt64) (by rw [heq9]) ?_
  refine W.lcmp hx hb dL_law_711 ?_
  refine lv_cgi (y := nI 0) (lg_self _) ?_
  refine lv_if_eq (tgt := 717) hx hb dL_law_712 (by decide) (fun c_712 => ?_) (fun c_712 => by exact absurd c_712 (by decide))
  refine lv_goto (tgt := 1297) hx hb dL_law_717 (by decide) ?_
  refine lv_iinc (v := nI (4 * (j + 1))) (lv' := [(4, .int (nI (4 * (j + 1)))), (6, .int (cp f 0 sl (58 * 0) 58 17)), (5, .int (nI 0)), (0, .ref b9), (1, .ref xa), (2, .ref (A 0)), (3, .ref oa)]) hx hb dL_law_1297 hl (k := 6) rfl (iinc4 (4 * j)) (by decide) rfl (fun ls hl => ?_)
  refine lv_goto (tgt := 23) hx hb dL_law_1300 (by decide) ?_
  refine W.widen (k := 100 + 7 * (j + 1)) (n := 2000 + 64 * (j + 1)) (by omega) (by omega) ?_
  exact hHd _ _ _ ⟨vp_updL og 0 ((g1 0 6).toInt64), sg, ln, mk, cs, nI 0, g1 0 0, g1 0 1, g1 1, g1 2, g1 3, g1 4, g1 5, g1 0 6, g1 0 2, g1 0 3, g1 0 4, g1 0 5, svP P z, va_up (svP F z) (svm z) (bd fo tn w t lo hi me (nI n) qu gu ri re), svm z + 1, some (a1, g1), o1, nI 0, dg, cp f 0 sl (58 * 0) 58, sl, ik, svF sv f z, pl, rfl, hln, (svm_le hz), (by obtain ⟨n9, e9, r9⟩ := hst; exact ⟨n9, e9, RS_mono (Nat.le_succ _) r9⟩), cen_no, (HI_mono (Nat.le_succ _) (HI_save hz hHI hRS)), (SLr_mono (Nat.le_succ _) hs0), (SLr_mono (Nat.le_succ _) hs1)⟩ hP hD hS ls (lv_sub hl [3, 4, 5, 6, 0] rfl)

set_option maxHeartbeats 8000000 in
set_option maxRecDepth 100000 in
theorem L_keep_n1 {p : Program} {l : Launch} {e : Env} {s : State} {m : MethodId} {args : Array Value} {below : List Frame} {meth : Method} {cd : Code} {Q : State → Prop} {G : GG} {Ar : Nat → Prop} {b9 L : Nat} {xs : Nat → Int32} {xa so oa : Nat} {b ce a hh A : Nat → Nat} (hE : LE9 p l s m args cd G Ar b9 L xs) {j : Nat} (hj : 4 * j + 4 ≤ L) (hL : L ≤ 2048) (hHd : LH p l e s m args below meth cd Q G Ar b9 xa so oa b ce a hh A (j + 1))
    (og : Nat → Int64) (sg : Nat → Int32) (ln : Nat) (hln : ln ≤ 60) (mk : Nat → Int32) (cs up fo tn : Int32) (w t lo hi me : Nat → Int32) (n : Nat) (qu gu ri re : Int32) (P : Nat → Nat → Nat) (F : Nat → Nat → Nat → Int32) (z : Nat) (hz : z ≤ 6) (o0 : SLO) (th : Int32) (dg : Int64) (f sl ik sv pl : Nat → Int32) 
    (hRS : RS j fo tn w t lo hi me n qu gu ri re f) (hcv : cenV (qS tn lo hi me n) mk cs up) (hHI : HI j z F sv) (hs0 : SLr j o0 (ik 0) sl) (hs1 : SLr j none (ik 1) (fun j => sl (58 + j))) (hp0 : xs (4 * j + 1) = nI 1)
    {H : Heap} {locs : List Loc} (hP : PP G (mW G A th (nI z) (nI ln) dg f sl ik sv sg pl ++ (oW G oa og ++ cW G xa so b ce a hh sg ln mk cs up fo tn w t lo hi me (nI n) qu gu ri re P F z o0 none)) H) (hD : va_D Ar (mW G A th (nI z) (nI ln) dg f sl ik sv sg pl ++ (oW G oa og ++ cW G xa so b ce a hh sg ln mk cs up fo tn w t lo hi me (nI n) qu gu ri re P F z o0 none))) (hS : va_S Ar s.heap H locs) {ls : Array Slot} (hl : lv_has ls 9 [(0, .ref b9), (1, .ref xa), (2, .ref (A 0)), (3, .ref oa), (4, .int (nI (4 * j)))]) : W p l e room_1 s m args below meth cd H locs (100 + 7 * j) (2000 + 64 * j) Q (F0 m 608 ls []) := by
  obtain ⟨hx, hb, hml, hown, hts, hfl, ⟨hK, hN, hX, hZ0⟩, hA, hXs, hbl, hbA⟩ := id hE
  have hn : n ≤ 12 := hRS.1.1
  have hn17 : f 17 = nI n := hRS.2.1.2.2.1
  have hT : okP t := hRS.2.2.1.2.1
  have hvL : okL lo hi := hRS.2.2.1.2.2.1
  have hvA : okA f := hRS.2.2.1.2.2.2
  have htF : okT f := fun i hi => by rw [hRS.2.1.2.2.2.2 i hi]; exact hT i hi
  refine lv_aload_n hx hb dL_law_608 rfl (lv_at hl 1 rfl) ?_
  refine lv_aload_n hx hb dL_law_609 rfl (lv_at hl 0 rfl) ?_
  refine lv_iload hx hb dL_law_610 (lv_at hl 4 rfl) ?_
  refine lv_iconst (v := nI 1) hx hb dL_law_612 (by decide) ?_
  refine lv_iadd hx hb dL_law_613 ?_
  refine lv_cgi (y := nI ((4 * j) + 1)) (nI_add _ _) ?_
  refine va_sld hx hb hXs hbl hbA hS (vp_in_nI (by omega) (by omega)) dL_law_614 ?_
  refine lv_cgi (y := nI 1) (by rw [nI_clamp (by omega)]; exact hp0) ?_
  refine lv_aload_n hx hb dL_law_615 rfl (lv_at hl 3 rfl) ?_
  refine wr_g1i (pre := mW G A th (nI z) (nI ln) dg f sl ik sv sg pl) (mid := oW G oa og ++ cW G xa so b ce a hh sg ln mk cs up fo tn w t lo hi me (nI n) qu gu ri re P F z o0 none) (vx_runSW (As := [.ref xa, .int (nI 1), .ref oa]) (rest := []) ⟨hx, hb, hml, hown, hts⟩ (w_keep_ok l G _ xa oa _ _ og (nI 1) (fun sz => c_X6_keep_n1 l G sz xa so b ce a hh sg ln hln mk cs up fo tn w t lo hi me n hn qu gu ri re P F z hz o0 none)) (vx_cwSW 3 hts gL_law_L_keep rfl rfl rfl (by decide +kernel) ⟨Nat.le_of_ble_eq_true rfl, Nat.le_of_ble_eq_true rfl⟩) (lxS1 (pre := mW G A th (nI z) (nI ln) dg f sl ik sv sg pl) (mid := oW G oa og ++ cW G xa so b ce a hh sg ln mk cs up fo tn w t lo hi me (nI n) qu gu ri re P F z o0 none) hK hN hX (XZ_at hZ0 hS hA) hP hD) rfl rfl hl.1 rfl (lv_room (Nat.le_of_ble_eq_true rfl)) dL_law_616 ⟨by show 100 + 7 * j + 7 ≤ 601024; omega, by show 2000 + 64 * j + 64 ≤ 7293034; omega⟩) hP hD hS hA (fun r6 u6 H locs hw6 hP9 hD9 hS => ?_)
  obtain ⟨v6, u6⟩ := u6
  have hw6 : r6 = nI 0 ∧ v6 = nI n := hw6
  obtain ⟨rfl, rfl⟩ := hw6
  have hP : PP G (mW G A th (nI z) (nI ln) dg f sl ik sv sg pl ++ (oW G oa (vp_updL og 0 ((nI n).toInt64)) ++ cW G xa so b ce a hh sg ln mk cs up fo tn w t lo hi me (nI n) qu gu ri re P F z o0 (some (u6, bd fo tn w t lo hi me (nI n) qu gu ri re)))) _ := hP9
  have hD : va_D Ar (mW G A th (nI z) (nI ln) dg f sl ik sv sg pl ++ (oW G oa (vp_updL og 0 ((nI n).toInt64)) ++ cW G xa so b ce a hh sg ln mk cs up fo tn w t lo hi me (nI n) qu gu ri re P F z o0 (some (u6, bd fo tn w t lo hi me (nI n) qu gu ri re)))) := hD9
  refine lv_istore (lv' := [(5, .int (nI 0)), (0, .ref b9), (1, .ref xa), (2, .ref (A 0)), (3, .ref oa), (4, .int (nI (4 * j)))]) hx hb dL_law_619 hl (by decide) rfl (fun ls hl => ?_)
  refine lv_aload_n hx hb dL_law_621 rfl (lv_at hl 3 rfl) ?_
  refine lv_aload_n hx hb dL_law_622 rfl (lv_at hl 1 rfl) ?_
  refine lv_iload hx hb dL_law_623 (lv_at hl 5 rfl) ?_
  refine lv_iconst (v := nI 1) hx hb dL_law_625 (by decide) ?_
  refine lv_iadd hx hb dL_law_626 ?_
  refine lv_cgi (y := nI ((4 * j) + 1)) (nI_add _ _) ?_
  refine va_sld hx hb hXs hbl hbA hS (vp_in_nI (by omega) (by omega)) dL_law_627 ?_
  refine lv_cgi (y := nI 1) (by rw [nI_clamp (by omega)]; exact hp0) ?_
  refine wr_goi (pre := []) (mid := mW G A th (nI z) (nI ln) dg f sl ik sv sg pl) (suf := oW G oa (vp_updL og 0 ((nI n).toInt64)) ++ cW G xa so b ce a hh sg ln mk cs up fo tn w t lo hi me (nI n) qu gu ri re P F z o0 (some (u6, bd fo tn w t lo hi me (nI n) qu gu ri re))) (va_runV (As := [.int (nI 1)]) (rest := []) ⟨hx, hb, hml, hown, hts⟩ (c_X7_keep l G _ A th (nI z) (nI ln) dg f sl ik sv sg pl 1 (by omega)) (cwV 1 hts gL_law_X7_keep rfl rfl rfl (by decide +kernel) ⟨Nat.le_of_ble_eq_true rfl, Nat.le_of_ble_eq_true rfl⟩) (wV (pre := []) (mid := mW G A th (nI z) (nI ln) dg f sl ik sv sg pl) (suf := oW G oa (vp_updL og 0 ((nI n).toInt64)) ++ cW G xa so b ce a hh sg ln mk cs up fo tn w t lo hi me (nI n) qu gu ri re P F z o0 (some (u6, bd fo tn w t lo hi me (nI n) qu gu ri re))) (va_recv (ws := mW G A th (nI z) (nI ln) dg f sl ik sv sg pl ++ (oW G oa (vp_updL og 0 ((nI n).toInt64)) ++ cW G xa so b ce a hh sg ln mk cs up fo tn w t lo hi me (nI n) qu gu ri re P F z o0 (some (u6, bd fo tn w t lo hi me (nI n) qu gu ri re)))) hK hP (ci := 6) (q0 := 0) rfl rfl) hK hN hP hD) rfl rfl hl.1 rfl (lv_room (Nat.le_of_ble_eq_true rfl)) dL_law_628 ⟨by show 100 + 7 * j + 7 + 0 ≤ 601024; omega, by show 2000 + 64 * j + 64 + 0 ≤ 7293034; omega⟩) hP hD hS hA (fun r7 u7 H locs hw7 hP9 hD9 hS => ?_)
  have hw7 : r7 = f 17 := hw7
  subst hw7
  have hP : PP G (mW G A (nI 0) (nI z) (nI ln) dg f (cp sl (58 * 1) f 0 58) (upd ik 1 (nI 1)) sv sg pl ++ (oW G oa (vp_updL og 0 ((nI n).toInt64)) ++ cW G xa so b ce a hh sg ln mk cs up fo tn w t lo hi me (nI n) qu gu ri re P F z o0 (some (u6, bd fo tn w t lo hi me (nI n) qu gu ri re)))) _ := hP9
  have hD : va_D Ar (mW G A (nI 0) (nI z) (nI ln) dg f (cp sl (58 * 1) f 0 58) (upd ik 1 (nI 1)) sv sg pl ++ (oW G oa (vp_updL og 0 ((nI n).toInt64)) ++ cW G xa so b ce a hh sg ln mk cs up fo tn w t lo hi me (nI n) qu gu ri re P F z o0 (some (u6, bd fo tn w t lo hi me (nI n) qu gu ri re)))) := hD9
  refine lv_istore (lv' := [(6, .int (f 17)), (5, .int (nI 0)), (0, .ref b9), (1, .ref xa), (2, .ref (A 0)), (3, .ref oa), (4, .int (nI (4 * j)))]) hx hb dL_law_631 hl (by decide) rfl (fun ls hl => ?_)
  refine lv_aload_n hx hb dL_law_633 rfl (lv_at hl 4 rfl) ?_
  refine rd_go (va_runV (As := []) (rest := []) ⟨hx, hb, hml, hown, hts⟩ (c_X7_thrown l G A (nI 0) (nI z) (nI ln) dg f (cp sl (58 * 1) f 0 58) (upd ik 1 (nI 1)) sv sg pl) (cwV 0 hts gL_law_X7_thrown rfl rfl rfl (by decide +kernel) ⟨Nat.le_of_ble_eq_true rfl, Nat.le_of_ble_eq_true rfl⟩) (rV (ws := mW G A (nI 0) (nI z) (nI ln) dg f (cp sl (58 * 1) f 0 58) (upd ik 1 (nI 1)) sv sg pl) (va_recv (ws := mW G A (nI 0) (nI z) (nI ln) dg f (cp sl (58 * 1) f 0 58) (upd ik 1 (nI 1)) sv sg pl ++ (oW G oa (vp_updL og 0 ((nI n).toInt64)) ++ cW G xa so b ce a hh sg ln mk cs up fo tn w t lo hi me (nI n) qu gu ri re P F z o0 (some (u6, bd fo tn w t lo hi me (nI n) qu gu ri re)))) hK hP (ci := 6) (q0 := 0) rfl rfl) hK hN (P_mid (pre := []) (mid := mW G A (nI 0) (nI z) (nI ln) dg f (cp sl (58 * 1) f 0 58) (upd ik 1 (nI 1)) sv sg pl) (suf := oW G oa (vp_updL og 0 ((nI n).toInt64)) ++ cW G xa so b ce a hh sg ln mk cs up fo tn w t lo hi me (nI n) qu gu ri re P F z o0 (some (u6, bd fo tn w t lo hi me (nI n) qu gu ri re))) hP)) rfl rfl hl.1 rfl (lv_room (Nat.le_of_ble_eq_true rfl)) dL_law_634 ⟨by show 100 + 7 * j + 7 + 0 + 0 ≤ 601024; omega, by show 2000 + 64 * j + 64 + 0 + 0 ≤ 7293034; omega⟩) ?_
  refine lv_iload hx hb dL_law_637 (lv_at hl 1 rfl) ?_
  refine lv_icmp_eq (tgt := 644) hx hb dL_law_639 (by decide) (fun c_639 => ?_) (fun c_639 => by exact absurd c_639 (by decide))
  refine lv_iload hx hb dL_law_644 (lv_at hl 1 rfl) ?_
  refine lv_if_ne (tgt := 661) hx hb dL_law_646 (by decide) (fun c_646 => by exact absurd c_646 (by decide)) (fun c_646 => ?_)
  refine lv_aload_n hx hb dL_law_649 rfl (lv_at hl 5 rfl) ?_
  refine lv_iconst (v := nI 0) hx hb dL_law_650 (by decide) ?_
  refine va_lald (D := G.1) (ws := mW G A (nI 0) (nI z) (nI ln) dg f (cp sl (58 * 1) f 0 58) (upd ik 1 (nI 1)) sv sg pl ++ (oW G oa (vp_updL og 0 ((nI n).toInt64)) ++ cW G xa so b ce a hh sg ln mk cs up fo tn w t lo hi me (nI n) qu gu ri re P F z o0 (some (u6, bd fo tn w t lo hi me (nI n) qu gu ri re)))) hx hb hK hP 7 3 (n := 1) rfl rfl (vp_in_nI (by decide) (by decide)) dL_law_651 ?_
  refine lv_cgl (y := (nI n).toInt64) vpL ?_
  refine lv_iload hx hb dL_law_652 (lv_at hl 0 rfl) ?_
  refine lv_i2l (v := (f 17).toInt64) hx hb dL_law_654 rfl ?_
  refine lv_cgl (y := (nI n).toInt64) (by rw [hn17]) ?_
  refine W.lcmp hx hb dL_law_655 ?_
  refine lv_cgi (y := nI 0) (lg_self _) ?_
  refine lv_if_eq (tgt := 661) hx hb dL_law_656 (by decide) (fun c_656 => ?_) (fun c_656 => by exact absurd c_656 (by decide))
  refine lv_goto (tgt := 1297) hx hb dL_law_661 (by decide) ?_
  refine lv_iinc (v := nI (4 * (j + 1))) (lv' := [(4, .int (nI (4 * (j + 1)))), (6, .int (f 17)), (5, .int (nI 0)), (0, .ref b9), (1, .ref xa), (2, .ref (A 0)), (3, .ref oa)]) hx hb dL_law_1297 hl (k := 6) rfl (iinc4 (4 * j)) (by decide) rfl (fun ls hl => ?_)
  refine lv_goto (tgt := 23) hx hb dL_law_1300 (by decide) ?_
  refine W.widen (k := 100 + 7 * (j + 1)) (n := 2000 + 64 * (j + 1)) (by omega) (by omega) ?_
  exact hHd _ _ _ ⟨vp_updL og 0 ((nI n).toInt64), sg, ln, mk, cs, up, fo, tn, w, t, lo, hi, me, nI n, qu, gu, ri, re, P, F, z, o0, some (u6, bd fo tn w t lo hi me (nI n) qu gu ri re), nI 0, dg, f, cp sl (58 * 1) f 0 58, upd ik 1 (nI 1), sv, pl, rfl, hln, hz, (RG_mono (Nat.le_succ _) (RG_of hRS)), (cen_of hn hcv), (HI_mono (Nat.le_succ _) hHI), (SLr_cong (SLr_mono (Nat.le_succ _) hs0) (fun q hq => cp_out (by omega))), ⟨rfl, RG_mono (Nat.le_succ _) (RG_cong (RG_of hRS) (fun q hq => by show cp sl (58 * 1) f 0 58 (58 + q) = f q; rw [cp_in ⟨by omega, by omega⟩]; congr 1; omega))⟩⟩ hP hD hS ls (lv_sub hl [3, 4, 5, 6, 0] rfl)

set_option maxHeartbeats 8000000 in
set_option maxRecDepth 100000 in
theorem L_keep_s1 {p : Program} {l : Launch} {e : Env} {s : State} {m : MethodId} {args : Array Value} {below : List Frame} {meth : Method} {cd : Code} {Q : State → Prop} {G : GG} {Ar : Nat → Prop} {b9 L : Nat} {xs : Nat → Int32} {xa so oa : Nat} {b ce a hh A : Nat → Nat} (hE : LE9 p l s m args cd G Ar b9 L xs) {j : Nat} (hj : 4 * j + 4 ≤ L) (hL : L ≤ 2048) (hHd : LH p l e s m args below meth cd Q G Ar b9 xa so oa b ce a hh A (j + 1))
    (og : Nat → Int64) (sg : Nat → Int32) (ln : Nat) (hln : ln ≤ 60) (mk : Nat → Int32) (cs up fo tn : Int32) (w t lo hi me : Nat → Int32) (n : Nat) (qu gu ri re : Int32) (P : Nat → Nat → Nat) (F : Nat → Nat → Nat → Int32) (z : Nat) (hz : z ≤ 6) (o0 : SLO) (th : Int32) (dg : Int64) (f sl ik sv pl : Nat → Int32) (a1 : Nat → Nat) (g1 : Nat → Nat → Int32)
    (hRS : RS j fo tn w t lo hi me n qu gu ri re f) (hcv : cenV (qS tn lo hi me n) mk cs up) (hHI : HI j z F sv) (hs0 : SLr j o0 (ik 0) sl) (hs1 : SLr j (some (a1, g1)) (ik 1) (fun j => sl (58 + j))) (hp0 : xs (4 * j + 1) = nI 1)
    {H : Heap} {locs : List Loc} (hP : PP G (mW G A th (nI z) (nI ln) dg f sl ik sv sg pl ++ (oW G oa og ++ cW G xa so b ce a hh sg ln mk cs up fo tn w t lo hi me (nI n) qu gu ri re P F z o0 (some (a1, g1)))) H) (hD : va_D Ar (mW G A th (nI z) (nI ln) dg f sl ik sv sg pl ++ (oW G oa og ++ cW G xa so b ce a hh sg ln mk cs up fo tn w t lo hi me (nI n) qu gu ri re P F z o0 (some (a1, g1))))) (hS : va_S Ar s.heap H locs) {ls : Array Slot} (hl : lv_has ls 9 [(0, .ref b9), (1, .ref xa), (2, .ref (A 0)), (3, .ref oa), (4, .int (nI (4 * j)))]) : W p l e room_1 s m args below meth cd H locs (100 + 7 * j) (2000 + 64 * j) Q (F0 m 608 ls []) := by
  obtain ⟨hx, hb, hml, hown, hts, hfl, ⟨hK, hN, hX, hZ0⟩, hA, hXs, hbl, hbA⟩ := id hE
  have hn : n ≤ 12 := hRS.1.1
  have hn17 : f 17 = nI n := hRS.2.1.2.2.1
  have hT : okP t := hRS.2.2.1.2.1
  have hvL : okL lo hi := hRS.2.2.1.2.2.1
  have hvA : okA f := hRS.2.2.1.2.2.2
  have htF : okT f := fun i hi => by rw [hRS.2.1.2.2.2.2 i hi]; exact hT i hi
  refine lv_aload_n hx hb dL_law_608 rfl (lv_at hl 1 rfl) ?_
  refine lv_aload_n hx hb dL_law_609 rfl (lv_at hl 0 rfl) ?_
  refine lv_iload hx hb dL_law_610 (lv_at hl 4 rfl) ?_
  refine lv_iconst (v := nI 1) hx hb dL_law_612 (by decide) ?_
  refine lv_iadd hx hb dL_law_613 ?_
  refine lv_cgi (y := nI ((4 * j) + 1)) (nI_add _ _) ?_
  refine va_sld hx hb hXs hbl hbA hS (vp_in_nI (by omega) (by omega)) dL_law_614 ?_
  refine lv_cgi (y := nI 1) (by rw [nI_clamp (by omega)]; exact hp0) ?_
  refine lv_aload_n hx hb dL_law_615 rfl (lv_at hl 3 rfl) ?_
  refine wr_g1i (pre := mW G A th (nI z) (nI ln) dg f sl ik sv sg pl) (mid := oW G oa og ++ cW G xa so b ce a hh sg ln mk cs up fo tn w t lo hi me (nI n) qu gu ri re P F z o0 (some (a1, g1))) (vx_runSW (As := [.ref xa, .int (nI 1), .ref oa]) (rest := []) ⟨hx, hb, hml, hown, hts⟩ (w_keep_ok l G _ xa oa _ _ og (nI 1) (fun sz => c_X6_keep_s1 l G sz xa so b ce a hh sg ln hln mk cs up fo tn w t lo hi me n hn qu gu ri re P F z hz o0 none a1 g1)) (vx_cwSW 3 hts gL_law_L_keep rfl rfl rfl (by decide +kernel) ⟨Nat.le_of_ble_eq_true rfl, Nat.le_of_ble_eq_true rfl⟩) (lxS1 (pre := mW G A th (nI z) (nI ln) dg f sl ik sv sg pl) (mid := oW G oa og ++ cW G xa so b ce a hh sg ln mk cs up fo tn w t lo hi me (nI n) qu gu ri re P F z o0 (some (a1, g1))) hK hN hX (XZ_at hZ0 hS hA) hP hD) rfl rfl hl.1 rfl (lv_room (Nat.le_of_ble_eq_true rfl)) dL_law_616 ⟨by show 100 + 7 * j + 7 ≤ 601024; omega, by show 2000 + 64 * j + 64 ≤ 7293034; omega⟩) hP hD hS hA (fun r6 u6 H locs hw6 hP9 hD9 hS => ?_)
  obtain ⟨v6, u6⟩ := u6
  have hw6 : r6 = nI 0 ∧ v6 = nI n := hw6
  obtain ⟨rfl, rfl⟩ := hw6
  have hP : PP G (mW G A th (nI z) (nI ln) dg f sl ik sv sg pl ++ (oW G oa (vp_updL og 0 ((nI n).toInt64)) ++ cW G xa so b ce a hh sg ln mk cs up fo tn w t lo hi me (nI n) qu gu ri re P F z o0 (some (a1, bd fo tn w t lo hi me (nI n) qu gu ri re)))) _ := hP9
  have hD : va_D Ar (mW G A th (nI z) (nI ln) dg f sl ik sv sg pl ++ (oW G oa (vp_updL og 0 ((nI n).toInt64)) ++ cW G xa so b ce a hh sg ln mk cs up fo tn w t lo hi me (nI n) qu gu ri re P F z o0 (some (a1, bd fo tn w t lo hi me (nI n) qu gu ri re)))) := hD9
  refine lv_istore (lv' := [(5, .int (nI 0)), (0, .ref b9), (1, .ref xa), (2, .ref (A 0)), (3, .ref oa), (4, .int (nI (4 * j)))]) hx hb dL_law_619 hl (by decide) rfl (fun ls hl => ?_)
  refine lv_aload_n hx hb dL_law_621 rfl (lv_at hl 3 rfl) ?_
  refine lv_aload_n hx hb dL_law_622 rfl (lv_at hl 1 rfl) ?_
  refine lv_iload hx hb dL_law_623 (lv_at hl 5 rfl) ?_
  refine lv_iconst (v := nI 1) hx hb dL_law_625 (by decide) ?_
  refine lv_iadd hx hb dL_law_626 ?_
  refine lv_cgi (y := nI ((4 * j) + 1)) (nI_add _ _) ?_
  refine va_sld hx hb hXs hbl hbA hS (vp_in_nI (by omega) (by omega)) dL_law_627 ?_
  refine lv_cgi (y := nI 1) (by rw [nI_clamp (by omega)]; exact hp0) ?_
  refine wr_goi (pre := []) (mid := mW G A th (nI z) (nI ln) dg f sl ik sv sg pl) (suf := oW G oa (vp_updL og 0 ((nI n).toInt64)) ++ cW G xa so b ce a hh sg ln mk cs up fo tn w t lo hi me (nI n) qu gu ri re P F z o0 (some (a1, bd fo tn w t lo hi me (nI n) qu gu ri re))) (va_runV (As := [.int (nI 1)]) (rest := []) ⟨hx, hb, hml, hown, hts⟩ (c_X7_keep l G _ A th (nI z) (nI ln) dg f sl ik sv sg pl 1 (by omega)) (cwV 1 hts gL_law_X7_keep rfl rfl rfl (by decide +kernel) ⟨Nat.le_of_ble_eq_true rfl, Nat.le_of_ble_eq_true rfl⟩) (wV (pre := []) (mid := mW G A th (nI z) (nI ln) dg f sl ik sv sg pl) (suf := oW G oa (vp_updL og 0 ((nI n).toInt64)) ++ cW G xa so b ce a hh sg ln mk cs up fo tn w t lo hi me (nI n) qu gu ri re P F z o0 (some (a1, bd fo tn w t lo hi me (nI n) qu gu ri re))) (va_recv (ws := mW G A th (nI z) (nI ln) dg f sl ik sv sg pl ++ (oW G oa (vp_updL og 0 ((nI n).toInt64)) ++ cW G xa so b ce a hh sg ln mk cs up fo tn w t lo hi me (nI n) qu gu ri re P F z o0 (some (a1, bd fo tn w t lo hi me (nI n) qu gu ri re)))) hK hP (ci := 6) (q0 := 0) rfl rfl) hK hN hP hD) rfl rfl hl.1 rfl (lv_room (Nat.le_of_ble_eq_true rfl)) dL_law_628 ⟨by show 100 + 7 * j + 7 + 0 ≤ 601024; omega, by show 2000 + 64 * j + 64 + 0 ≤ 7293034; omega⟩) hP hD hS hA (fun r7 u7 H locs hw7 hP9 hD9 hS => ?_)
  have hw7 : r7 = f 17 := hw7
  subst hw7
  have hP : PP G (mW G A (nI 0) (nI z) (nI ln) dg f (cp sl (58 * 1) f 0 58) (upd ik 1 (nI 1)) sv sg pl ++ (oW G oa (vp_updL og 0 ((nI n).toInt64)) ++ cW G xa so b ce a hh sg ln mk cs up fo tn w t lo hi me (nI n) qu gu ri re P F z o0 (some (a1, bd fo tn w t lo hi me (nI n) qu gu ri re)))) _ := hP9
  have hD : va_D Ar (mW G A (nI 0) (nI z) (nI ln) dg f (cp sl (58 * 1) f 0 58) (upd ik 1 (nI 1)) sv sg pl ++ (oW G oa (vp_updL og 0 ((nI n).toInt64)) ++ cW G xa so b ce a hh sg ln mk cs up fo tn w t lo hi me (nI n) qu gu ri re P F z o0 (some (a1, bd fo tn w t lo hi me (nI n) qu gu ri re)))) := hD9
  refine lv_istore (lv' := [(6, .int (f 17)), (5, .int (nI 0)), (0, .ref b9), (1, .ref xa), (2, .ref (A 0)), (3, .ref oa), (4, .int (nI (4 * j)))]) hx hb dL_law_631 hl (by decide) rfl (fun ls hl => ?_)
  refine lv_aload_n hx hb dL_law_633 rfl (lv_at hl 4 rfl) ?_
  refine rd_go (va_runV (As := []) (rest := []) ⟨hx, hb, hml, hown, hts⟩ (c_X7_thrown l G A (nI 0) (nI z) (nI ln) dg f (cp sl (58 * 1) f 0 58) (upd ik 1 (nI 1)) sv sg pl) (cwV 0 hts gL_law_X7_thrown rfl rfl rfl (by decide +kernel) ⟨Nat.le_of_ble_eq_true rfl, Nat.le_of_ble_eq_true rfl⟩) (rV (ws := mW G A (nI 0) (nI z) (nI ln) dg f (cp sl (58 * 1) f 0 58) (upd ik 1 (nI 1)) sv sg pl) (va_recv (ws := mW G A (nI 0) (nI z) (nI ln) dg f (cp sl (58 * 1) f 0 58) (upd ik 1 (nI 1)) sv sg pl ++ (oW G oa (vp_updL og 0 ((nI n).toInt64)) ++ cW G xa so b ce a hh sg ln mk cs up fo tn w t lo hi me (nI n) qu gu ri re P F z o0 (some (a1, bd fo tn w t lo hi me (nI n) qu gu ri re)))) hK hP (ci := 6) (q0 := 0) rfl rfl) hK hN (P_mid (pre := []) (mid := mW G A (nI 0) (nI z) (nI ln) dg f (cp sl (58 * 1) f 0 58) (upd ik 1 (nI 1)) sv sg pl) (suf := oW G oa (vp_updL og 0 ((nI n).toInt64)) ++ cW G xa so b ce a hh sg ln mk cs up fo tn w t lo hi me (nI n) qu gu ri re P F z o0 (some (a1, bd fo tn w t lo hi me (nI n) qu gu ri re))) hP)) rfl rfl hl.1 rfl (lv_room (Nat.le_of_ble_eq_true rfl)) dL_law_634 ⟨by show 100 + 7 * j + 7 + 0 + 0 ≤ 601024; omega, by show 2000 + 64 * j + 64 + 0 + 0 ≤ 7293034; omega⟩) ?_
  refine lv_iload hx hb dL_law_637 (lv_at hl 1 rfl) ?_
  refine lv_icmp_eq (tgt := 644) hx hb dL_law_639 (by decide) (fun c_639 => ?_) (fun c_639 => by exact absurd c_639 (by decide))
  refine lv_iload hx hb dL_law_644 (lv_at hl 1 rfl) ?_
  refine lv_if_ne (tgt := 661) hx hb dL_law_646 (by decide) (fun c_646 => by exact absurd c_646 (by decide)) (fun c_646 => ?_)
  refine lv_aload_n hx hb dL_law_649 rfl (lv_at hl 5 rfl) ?_
  refine lv_iconst (v := nI 0) hx hb dL_law_650 (by decide) ?_
  refine va_lald (D := G.1) (ws := mW G A (nI 0) (nI z) (nI ln) dg f (cp sl (58 * 1) f 0 58) (upd ik 1 (nI 1)) sv sg pl ++ (oW G oa (vp_updL og 0 ((nI n).toInt64)) ++ cW G xa so b ce a hh sg ln mk cs up fo tn w t lo hi me (nI n) qu gu ri re P F z o0 (some (a1, bd fo tn w t lo hi me (nI n) qu gu ri re)))) hx hb hK hP 7 3 (n := 1) rfl rfl (vp_in_nI (by decide) (by decide)) dL_law_651 ?_
  refine lv_cgl (y := (nI n).toInt64) vpL ?_
  refine lv_iload hx hb dL_law_652 (lv_at hl 0 rfl) ?_
  refine lv_i2l (v := (f 17).toInt64) hx hb dL_law_654 rfl ?_
  refine lv_cgl (y := (nI n).toInt64) (by rw [hn17]) ?_
  refine W.lcmp hx hb dL_law_655 ?_
  refine lv_cgi (y := nI 0) (lg_self _) ?_
  refine lv_if_eq (tgt := 661) hx hb dL_law_656 (by decide) (fun c_656 => ?_) (fun c_656 => by exact absurd c_656 (by decide))
  refine lv_goto (tgt := 1297) hx hb dL_law_661 (by decide) ?_
  refine lv_iinc (v := nI (4 * (j + 1))) (lv' := [(4, .int (nI (4 * (j + 1)))), (6, .int (f 17)), (5, .int (nI 0)), (0, .ref b9), (1, .ref xa), (2, .ref (A 0)), (3, .ref oa)]) hx hb dL_law_1297 hl (k := 6) rfl (iinc4 (4 * j)) (by decide) rfl (fun ls hl => ?_)
  refine lv_goto (tgt := 23) hx hb dL_law_1300 (by decide) ?_
  refine W.widen (k := 100 + 7 * (j + 1)) (n := 2000 + 64 * (j + 1)) (by omega) (by omega) ?_
  exact hHd _ _ _ ⟨vp_updL og 0 ((nI n).toInt64), sg, ln, mk, cs, up, fo, tn, w, t, lo, hi, me, nI n, qu, gu, ri, re, P, F, z, o0, some (a1, bd fo tn w t lo hi me (nI n) qu gu ri re), nI 0, dg, f, cp sl (58 * 1) f 0 58, upd ik 1 (nI 1), sv, pl, rfl, hln, hz, (RG_mono (Nat.le_succ _) (RG_of hRS)), (cen_of hn hcv), (HI_mono (Nat.le_succ _) hHI), (SLr_cong (SLr_mono (Nat.le_succ _) hs0) (fun q hq => cp_out (by omega))), ⟨rfl, RG_mono (Nat.le_succ _) (RG_cong (RG_of hRS) (fun q hq => by show cp sl (58 * 1) f 0 58 (58 + q) = f q; rw [cp_in ⟨by omega, by omega⟩]; congr 1; omega))⟩⟩ hP hD hS ls (lv_sub hl [3, 4, 5, 6, 0] rfl)

set_option maxHeartbeats 8000000 in
set_option maxRecDepth 100000 in
theorem L_goBack_1 {p : Program} {l : Launch} {e : Env} {s : State} {m : MethodId} {args : Array Value} {below : List Frame} {meth : Method} {cd : Code} {Q : State → Prop} {G : GG} {Ar : Nat → Prop} {b9 L : Nat} {xs : Nat → Int32} {xa so oa : Nat} {b ce a hh A : Nat → Nat} (hE : LE9 p l s m args cd G Ar b9 L xs) {j : Nat} (hj : 4 * j + 4 ≤ L) (hL : L ≤ 2048) (hHd : LH p l e s m args below meth cd Q G Ar b9 xa so oa b ce a hh A (j + 1))
    (og : Nat → Int64) (sg : Nat → Int32) (ln : Nat) (hln : ln ≤ 60) (mk : Nat → Int32) (cs up fo tn : Int32) (w t lo hi me : Nat → Int32) (n : Nat) (qu gu ri re : Int32) (P : Nat → Nat → Nat) (F : Nat → Nat → Nat → Int32) (z : Nat) (hz : z ≤ 6) (o0 : SLO) (th : Int32) (dg : Int64) (f sl ik sv pl : Nat → Int32) (a1 : Nat → Nat) (g1 : Nat → Nat → Int32)
    (hRS : RS j fo tn w t lo hi me n qu gu ri re f) (hcv : cenV (qS tn lo hi me n) mk cs up) (hHI : HI j z F sv) (hs0 : SLr j o0 (ik 0) sl) (hs1 : SLr j (some (a1, g1)) (ik 1) (fun j => sl (58 + j))) (hp0 : xs (4 * j + 1) = nI 1)
    {H : Heap} {locs : List Loc} (hP : PP G (mW G A th (nI z) (nI ln) dg f sl ik sv sg pl ++ (oW G oa og ++ cW G xa so b ce a hh sg ln mk cs up fo tn w t lo hi me (nI n) qu gu ri re P F z o0 (some (a1, g1)))) H) (hD : va_D Ar (mW G A th (nI z) (nI ln) dg f sl ik sv sg pl ++ (oW G oa og ++ cW G xa so b ce a hh sg ln mk cs up fo tn w t lo hi me (nI n) qu gu ri re P F z o0 (some (a1, g1))))) (hS : va_S Ar s.heap H locs) {ls : Array Slot} (hl : lv_has ls 9 [(0, .ref b9), (1, .ref xa), (2, .ref (A 0)), (3, .ref oa), (4, .int (nI (4 * j)))]) : W p l e room_1 s m args below meth cd H locs (100 + 7 * j) (2000 + 64 * j) Q (F0 m 664 ls []) := by
  obtain ⟨hx, hb, hml, hown, hts, hfl, ⟨hK, hN, hX, hZ0⟩, hA, hXs, hbl, hbA⟩ := id hE
  have hn : n ≤ 12 := hRS.1.1
  have hn17 : f 17 = nI n := hRS.2.1.2.2.1
  have hT : okP t := hRS.2.2.1.2.1
  have hvL : okL lo hi := hRS.2.2.1.2.2.1
  have hvA : okA f := hRS.2.2.1.2.2.2
  have htF : okT f := fun i hi => by rw [hRS.2.1.2.2.2.2 i hi]; exact hT i hi
  have hst : RG j g1 (cp f 0 sl (58 * 1) 58) := RG_cong hs1.2 (fun q hq => by rw [cp_in ⟨by omega, by omega⟩]; first | (congr 1; omega) | rfl)
  have heq9 : cp f 0 sl (58 * 1) 58 17 = g1 0 6 := by obtain ⟨n9, e9, r9⟩ := hst; rw [e9]; exact r9.2.1.2.2.1
  refine lv_aload_n hx hb dL_law_664 rfl (lv_at hl 1 rfl) ?_
  refine lv_aload_n hx hb dL_law_665 rfl (lv_at hl 0 rfl) ?_
  refine lv_iload hx hb dL_law_666 (lv_at hl 4 rfl) ?_
  refine lv_iconst (v := nI 1) hx hb dL_law_668 (by decide) ?_
  refine lv_iadd hx hb dL_law_669 ?_
  refine lv_cgi (y := nI ((4 * j) + 1)) (nI_add _ _) ?_
  refine va_sld hx hb hXs hbl hbA hS (vp_in_nI (by omega) (by omega)) dL_law_670 ?_
  refine lv_cgi (y := nI 1) (by rw [nI_clamp (by omega)]; exact hp0) ?_
  refine lv_aload_n hx hb dL_law_671 rfl (lv_at hl 3 rfl) ?_
  refine wr_g1i (pre := mW G A th (nI z) (nI ln) dg f sl ik sv sg pl) (mid := oW G oa og ++ cW G xa so b ce a hh sg ln mk cs up fo tn w t lo hi me (nI n) qu gu ri re P F z o0 (some (a1, g1))) (vx_runSW (As := [.ref xa, .int (nI 1), .ref oa]) (rest := []) ⟨hx, hb, hml, hown, hts⟩ (w_goBack_ok l G _ xa oa _ _ og (nI 1) (fun sz => c_X6_goBack_1 l G sz xa so b ce a hh sg ln hln mk cs up fo tn w t lo hi me n hn qu gu ri re P F z hz o0 none a1 g1)) (vx_cwSW 3 hts gL_law_L_goBack rfl rfl rfl (by decide +kernel) ⟨Nat.le_of_ble_eq_true rfl, Nat.le_of_ble_eq_true rfl⟩) (lxS1 (pre := mW G A th (nI z) (nI ln) dg f sl ik sv sg pl) (mid := oW G oa og ++ cW G xa so b ce a hh sg ln mk cs up fo tn w t lo hi me (nI n) qu gu ri re P F z o0 (some (a1, g1))) hK hN hX (XZ_at hZ0 hS hA) hP hD) rfl rfl hl.1 rfl (lv_room (Nat.le_of_ble_eq_true rfl)) dL_law_672 ⟨by show 100 + 7 * j + 0 ≤ 601024; omega, by show 2000 + 64 * j + 0 ≤ 7293034; omega⟩) hP hD hS hA (fun r6 u6 H locs hw6 hP9 hD9 hS => ?_)
  obtain ⟨v6, u6⟩ := u6
  have hw6 : r6 = nI 0 ∧ v6 = g1 0 6 := hw6
  obtain ⟨rfl, rfl⟩ := hw6
  have hP : PP G (mW G A th (nI z) (nI ln) dg f sl ik sv sg pl ++ (oW G oa (vp_updL og 0 ((g1 0 6).toInt64)) ++ cW G xa so b ce a hh sg ln mk cs (nI 0) (g1 0 0) (g1 0 1) (g1 1) (g1 2) (g1 3) (g1 4) (g1 5) (g1 0 6) (g1 0 2) (g1 0 3) (g1 0 4) (g1 0 5) (svP P z) (va_up (svP F z) (svm z) (bd fo tn w t lo hi me (nI n) qu gu ri re)) (svm z + 1) o0 (some (a1, g1)))) _ := hP9
  have hD : va_D Ar (mW G A th (nI z) (nI ln) dg f sl ik sv sg pl ++ (oW G oa (vp_updL og 0 ((g1 0 6).toInt64)) ++ cW G xa so b ce a hh sg ln mk cs (nI 0) (g1 0 0) (g1 0 1) (g1 1) (g1 2) (g1 3) (g1 4) (g1 5) (g1 0 6) (g1 0 2) (g1 0 3) (g1 0 4) (g1 0 5) (svP P z) (va_up (svP F z) (svm z) (bd fo tn w t lo hi me (nI n) qu gu ri re)) (svm z + 1) o0 (some (a1, g1)))) := hD9
  refine lv_istore (lv' := [(5, .int (nI 0)), (0, .ref b9), (1, .ref xa), (2, .ref (A 0)), (3, .ref oa), (4, .int (nI (4 * j)))]) hx hb dL_law_675 hl (by decide) rfl (fun ls hl => ?_)
  refine lv_aload_n hx hb dL_law_677 rfl (lv_at hl 3 rfl) ?_
  refine lv_aload_n hx hb dL_law_678 rfl (lv_at hl 1 rfl) ?_
  refine lv_iload hx hb dL_law_679 (lv_at hl 5 rfl) ?_
  refine lv_iconst (v := nI 1) hx hb dL_law_681 (by decide) ?_
  refine lv_iadd hx hb dL_law_682 ?_
  refine lv_cgi (y := nI ((4 * j) + 1)) (nI_add _ _) ?_
  refine va_sld hx hb hXs hbl hbA hS (vp_in_nI (by omega) (by omega)) dL_law_683 ?_
  refine lv_cgi (y := nI 1) (by rw [nI_clamp (by omega)]; exact hp0) ?_
  refine wr_goi (pre := []) (mid := mW G A th (nI z) (nI ln) dg f sl ik sv sg pl) (suf := oW G oa (vp_updL og 0 ((g1 0 6).toInt64)) ++ cW G xa so b ce a hh sg ln mk cs (nI 0) (g1 0 0) (g1 0 1) (g1 1) (g1 2) (g1 3) (g1 4) (g1 5) (g1 0 6) (g1 0 2) (g1 0 3) (g1 0 4) (g1 0 5) (svP P z) (va_up (svP F z) (svm z) (bd fo tn w t lo hi me (nI n) qu gu ri re)) (svm z + 1) o0 (some (a1, g1))) (va_runV (As := [.int (nI 1)]) (rest := []) ⟨hx, hb, hml, hown, hts⟩ (c_X7_goBack l G _ A th (nI ln) dg f sl ik sv sg pl z hz 1 (by omega) hs1.1) (cwV 1 hts gL_law_X7_goBack rfl rfl rfl (by decide +kernel) ⟨Nat.le_of_ble_eq_true rfl, Nat.le_of_ble_eq_true rfl⟩) (wV (pre := []) (mid := mW G A th (nI z) (nI ln) dg f sl ik sv sg pl) (suf := oW G oa (vp_updL og 0 ((g1 0 6).toInt64)) ++ cW G xa so b ce a hh sg ln mk cs (nI 0) (g1 0 0) (g1 0 1) (g1 1) (g1 2) (g1 3) (g1 4) (g1 5) (g1 0 6) (g1 0 2) (g1 0 3) (g1 0 4) (g1 0 5) (svP P z) (va_up (svP F z) (svm z) (bd fo tn w t lo hi me (nI n) qu gu ri re)) (svm z + 1) o0 (some (a1, g1))) (va_recv (ws := mW G A th (nI z) (nI ln) dg f sl ik sv sg pl ++ (oW G oa (vp_updL og 0 ((g1 0 6).toInt64)) ++ cW G xa so b ce a hh sg ln mk cs (nI 0) (g1 0 0) (g1 0 1) (g1 1) (g1 2) (g1 3) (g1 4) (g1 5) (g1 0 6) (g1 0 2) (g1 0 3) (g1 0 4) (g1 0 5) (svP P z) (va_up (svP F z) (svm z) (bd fo tn w t lo hi me (nI n) qu gu ri re)) (svm z + 1) o0 (some (a1, g1)))) hK hP (ci := 6) (q0 := 0) rfl rfl) hK hN hP hD) rfl rfl hl.1 rfl (lv_room (Nat.le_of_ble_eq_true rfl)) dL_law_684 ⟨by show 100 + 7 * j + 0 + 0 ≤ 601024; omega, by show 2000 + 64 * j + 0 + 0 ≤ 7293034; omega⟩) hP hD hS hA (fun r7 u7 H locs hw7 hP9 hD9 hS => ?_)
  have hw7 : r7 = cp f 0 sl (58 * 1) 58 17 := hw7
  subst hw7
  have hP : PP G (mW G A (nI 0) (nI (svm z + 1)) (nI ln) dg (cp f 0 sl (58 * 1) 58) sl ik (svF sv f z) sg pl ++ (oW G oa (vp_updL og 0 ((g1 0 6).toInt64)) ++ cW G xa so b ce a hh sg ln mk cs (nI 0) (g1 0 0) (g1 0 1) (g1 1) (g1 2) (g1 3) (g1 4) (g1 5) (g1 0 6) (g1 0 2) (g1 0 3) (g1 0 4) (g1 0 5) (svP P z) (va_up (svP F z) (svm z) (bd fo tn w t lo hi me (nI n) qu gu ri re)) (svm z + 1) o0 (some (a1, g1)))) _ := hP9
  have hD : va_D Ar (mW G A (nI 0) (nI (svm z + 1)) (nI ln) dg (cp f 0 sl (58 * 1) 58) sl ik (svF sv f z) sg pl ++ (oW G oa (vp_updL og 0 ((g1 0 6).toInt64)) ++ cW G xa so b ce a hh sg ln mk cs (nI 0) (g1 0 0) (g1 0 1) (g1 1) (g1 2) (g1 3) (g1 4) (g1 5) (g1 0 6) (g1 0 2) (g1 0 3) (g1 0 4) (g1 0 5) (svP P z) (va_up (svP F z) (svm z) (bd fo tn w t lo hi me (nI n) qu gu ri re)) (svm z + 1) o0 (some (a1, g1)))) := hD9
  refine lv_istore (lv' := [(6, .int (cp f 0 sl (58 * 1) 58 17)), (5, .int (nI 0)), (0, .ref b9), (1, .ref xa), (2, .ref (A 0)), (3, .ref oa), (4, .int (nI (4 * j)))]) hx hb dL_law_687 hl (by decide) rfl (fun ls hl => ?_)
  refine lv_aload_n hx hb dL_law_689 rfl (lv_at hl 4 rfl) ?_
  refine rd_go (va_runV (As := []) (rest := []) ⟨hx, hb, hml, hown, hts⟩ (c_X7_thrown l G A (nI 0) (nI (svm z + 1)) (nI ln) dg (cp f 0 sl (58 * 1) 58) sl ik (svF sv f z) sg pl) (cwV 0 hts gL_law_X7_thrown rfl rfl rfl (by decide +kernel) ⟨Nat.le_of_ble_eq_true rfl, Nat.le_of_ble_eq_true rfl⟩) (rV (ws := mW G A (nI 0) (nI (svm z + 1)) (nI ln) dg (cp f 0 sl (58 * 1) 58) sl ik (svF sv f z) sg pl) (va_recv (ws := mW G A (nI 0) (nI (svm z + 1)) (nI ln) dg (cp f 0 sl (58 * 1) 58) sl ik (svF sv f z) sg pl ++ (oW G oa (vp_updL og 0 ((g1 0 6).toInt64)) ++ cW G xa so b ce a hh sg ln mk cs (nI 0) (g1 0 0) (g1 0 1) (g1 1) (g1 2) (g1 3) (g1 4) (g1 5) (g1 0 6) (g1 0 2) (g1 0 3) (g1 0 4) (g1 0 5) (svP P z) (va_up (svP F z) (svm z) (bd fo tn w t lo hi me (nI n) qu gu ri re)) (svm z + 1) o0 (some (a1, g1)))) hK hP (ci := 6) (q0 := 0) rfl rfl) hK hN (P_mid (pre := []) (mid := mW G A (nI 0) (nI (svm z + 1)) (nI ln) dg (cp f 0 sl (58 * 1) 58) sl ik (svF sv f z) sg pl) (suf := oW G oa (vp_updL og 0 ((g1 0 6).toInt64)) ++ cW G xa so b ce a hh sg ln mk cs (nI 0) (g1 0 0) (g1 0 1) (g1 1) (g1 2) (g1 3) (g1 4) (g1 5) (g1 0 6) (g1 0 2) (g1 0 3) (g1 0 4) (g1 0 5) (svP P z) (va_up (svP F z) (svm z) (bd fo tn w t lo hi me (nI n) qu gu ri re)) (svm z + 1) o0 (some (a1, g1))) hP)) rfl rfl hl.1 rfl (lv_room (Nat.le_of_ble_eq_true rfl)) dL_law_690 ⟨by show 100 + 7 * j + 0 + 0 + 0 ≤ 601024; omega, by show 2000 + 64 * j + 0 + 0 + 0 ≤ 7293034; omega⟩) ?_
  refine lv_iload hx hb dL_law_693 (lv_at hl 1 rfl) ?_
  refine lv_icmp_eq (tgt := 700) hx hb dL_law_695 (by decide) (fun c_695 => ?_) (fun c_695 => by exact absurd c_695 (by decide))
  refine lv_iload hx hb dL_law_700 (lv_at hl 1 rfl) ?_
  refine lv_if_ne (tgt := 717) hx hb dL_law_702 (by decide) (fun c_702 => by exact absurd c_702 (by decide)) (fun c_702 => ?_)
  refine lv_aload_n hx hb dL_law_705 rfl (lv_at hl 5 rfl) ?_
  refine lv_iconst (v := nI 0) hx hb dL_law_706 (by decide) ?_
  refine va_lald (D := G.1) (ws := mW G A (nI 0) (nI (svm z + 1)) (nI ln) dg (cp f 0 sl (58 * 1) 58) sl ik (svF sv f z) sg pl ++ (oW G oa (vp_updL og 0 ((g1 0 6).toInt64)) ++ cW G xa so b ce a hh sg ln mk cs (nI 0) (g1 0 0) (g1 0 1) (g1 1) (g1 2) (g1 3) (g1 4) (g1 5) (g1 0 6) (g1 0 2) (g1 0 3) (g1 0 4) (g1 0 5) (svP P z) (va_up (svP F z) (svm z) (bd fo tn w t lo hi me (nI n) qu gu ri re)) (svm z + 1) o0 (some (a1, g1)))) hx hb hK hP 7 3 (n := 1) rfl rfl (vp_in_nI (by decide) (by decide)) dL_law_707 ?_
  refine lv_cgl (y := (g1 0 6).toInt64) vpL ?_
  refine lv_iload hx hb dL_law_708 (lv_at hl 0 rfl) ?_
  refine lv_i2l (v := (cp f 0 sl (58 * 1) 58 17).toInt64) hx hb dL_law_710 rfl ?_
  refine lv_cgl (y := (g1 0 6).toInt64) (by rw [heq9]) ?_
  refine W.lcmp hx hb dL_law_711 ?_
  refine lv_cgi (y := nI 0) (lg_self _) ?_
  refine lv_if_eq (tgt := 717) hx hb dL_law_712 (by decide) (fun c_712 => ?_) (fun c_712 => by exact absurd c_712 (by decide))
  refine lv_goto (tgt := 1297) hx hb dL_law_717 (by decide) ?_
  refine lv_iinc (v := nI (4 * (j + 1))) (lv' := [(4, .int (nI (4 * (j + 1)))), (6, .int (cp f 0 sl (58 * 1) 58 17)), (5, .int (nI 0)), (0, .ref b9), (1, .ref xa), (2, .ref (A 0)), (3, .ref oa)]) hx hb dL_law_1297 hl (k := 6) rfl (iinc4 (4 * j)) (by decide) rfl (fun ls hl => ?_)
  refine lv_goto (tgt := 23) hx hb dL_law_1300 (by decide) ?_
  refine W.widen (k := 100 + 7 * (j + 1)) (n := 2000 + 64 * (j + 1)) (by omega) (by omega) ?_
  exact hHd _ _ _ ⟨vp_updL og 0 ((g1 0 6).toInt64), sg, ln, mk, cs, nI 0, g1 0 0, g1 0 1, g1 1, g1 2, g1 3, g1 4, g1 5, g1 0 6, g1 0 2, g1 0 3, g1 0 4, g1 0 5, svP P z, va_up (svP F z) (svm z) (bd fo tn w t lo hi me (nI n) qu gu ri re), svm z + 1, o0, some (a1, g1), nI 0, dg, cp f 0 sl (58 * 1) 58, sl, ik, svF sv f z, pl, rfl, hln, (svm_le hz), (by obtain ⟨n9, e9, r9⟩ := hst; exact ⟨n9, e9, RS_mono (Nat.le_succ _) r9⟩), cen_no, (HI_mono (Nat.le_succ _) (HI_save hz hHI hRS)), (SLr_mono (Nat.le_succ _) hs0), (SLr_mono (Nat.le_succ _) hs1)⟩ hP hD hS ls (lv_sub hl [3, 4, 5, 6, 0] rfl)

set_option maxHeartbeats 8000000 in
set_option maxRecDepth 100000 in
theorem L_undo {p : Program} {l : Launch} {e : Env} {s : State} {m : MethodId} {args : Array Value} {below : List Frame} {meth : Method} {cd : Code} {Q : State → Prop} {G : GG} {Ar : Nat → Prop} {b9 L : Nat} {xs : Nat → Int32} {xa so oa : Nat} {b ce a hh A : Nat → Nat} (hE : LE9 p l s m args cd G Ar b9 L xs) {j : Nat} (hj : 4 * j + 4 ≤ L) (hL : L ≤ 2048) (hHd : LH p l e s m args below meth cd Q G Ar b9 xa so oa b ce a hh A (j + 1))
    (og : Nat → Int64) (sg : Nat → Int32) (ln : Nat) (hln : ln ≤ 60) (mk : Nat → Int32) (cs up fo tn : Int32) (w t lo hi me : Nat → Int32) (n : Nat) (qu gu ri re : Int32) (P : Nat → Nat → Nat) (F : Nat → Nat → Nat → Int32) (z : Nat) (hz : z ≤ 6) (o0 : SLO) (o1 : SLO) (th : Int32) (dg : Int64) (f sl ik sv pl : Nat → Int32) (hz1 : 1 ≤ z)
    (hRS : RS j fo tn w t lo hi me n qu gu ri re f) (hcv : cenV (qS tn lo hi me n) mk cs up) (hHI : HI j z F sv) (hs0 : SLr j o0 (ik 0) sl) (hs1 : SLr j o1 (ik 1) (fun j => sl (58 + j))) 
    {H : Heap} {locs : List Loc} (hP : PP G (mW G A th (nI z) (nI ln) dg f sl ik sv sg pl ++ (oW G oa og ++ cW G xa so b ce a hh sg ln mk cs up fo tn w t lo hi me (nI n) qu gu ri re P F z o0 o1)) H) (hD : va_D Ar (mW G A th (nI z) (nI ln) dg f sl ik sv sg pl ++ (oW G oa og ++ cW G xa so b ce a hh sg ln mk cs up fo tn w t lo hi me (nI n) qu gu ri re P F z o0 o1))) (hS : va_S Ar s.heap H locs) {ls : Array Slot} (hl : lv_has ls 9 [(0, .ref b9), (1, .ref xa), (2, .ref (A 0)), (3, .ref oa), (4, .int (nI (4 * j)))]) : W p l e room_1 s m args below meth cd H locs (100 + 7 * j) (2000 + 64 * j) Q (F0 m 720 ls []) := by
  obtain ⟨hx, hb, hml, hown, hts, hfl, ⟨hK, hN, hX, hZ0⟩, hA, hXs, hbl, hbA⟩ := id hE
  have hn : n ≤ 12 := hRS.1.1
  have hn17 : f 17 = nI n := hRS.2.1.2.2.1
  have hT : okP t := hRS.2.2.1.2.1
  have hvL : okL lo hi := hRS.2.2.1.2.2.1
  have hvA : okA f := hRS.2.2.1.2.2.2
  have htF : okT f := fun i hi => by rw [hRS.2.1.2.2.2.2 i hi]; exact hT i hi
  have hst : RG j (F (z - 1)) (cp f 0 sv (58 * (z - 1)) 58) := RG_cong (hHI (z - 1) (by omega)) (fun q hq => by rw [cp_in ⟨by omega, by omega⟩]; show sv (58 * (z - 1) + (q - 0)) = sv (58 * (z - 1) + q); congr 1)
  refine lv_aload_n hx hb dL_law_720 rfl (lv_at hl 1 rfl) ?_
  refine lv_aload_n hx hb dL_law_721 rfl (lv_at hl 3 rfl) ?_
  refine wr_g1i (pre := mW G A th (nI z) (nI ln) dg f sl ik sv sg pl) (mid := oW G oa og ++ cW G xa so b ce a hh sg ln mk cs up fo tn w t lo hi me (nI n) qu gu ri re P F z o0 o1) (vx_runSW (As := [.ref xa, .ref oa]) (rest := []) ⟨hx, hb, hml, hown, hts⟩ (w_undo_ok l G _ xa oa _ _ og (fun sz => c_X6_undo_ok l G sz xa so b ce a hh sg ln hln mk cs up fo tn w t lo hi me n hn qu gu ri re P F z hz o0 o1 hz1)) (vx_cwSW 2 hts gL_law_L_undo rfl rfl rfl (by decide +kernel) ⟨Nat.le_of_ble_eq_true rfl, Nat.le_of_ble_eq_true rfl⟩) (lxS1 (pre := mW G A th (nI z) (nI ln) dg f sl ik sv sg pl) (mid := oW G oa og ++ cW G xa so b ce a hh sg ln mk cs up fo tn w t lo hi me (nI n) qu gu ri re P F z o0 o1) hK hN hX (XZ_at hZ0 hS hA) hP hD) rfl rfl hl.1 rfl (lv_room (Nat.le_of_ble_eq_true rfl)) dL_law_722 ⟨by show 100 + 7 * j + 0 ≤ 601024; omega, by show 2000 + 64 * j + 0 ≤ 7293034; omega⟩) hP hD hS hA (fun r6 u6 H locs hw6 hP9 hD9 hS => ?_)
  obtain ⟨v6, u6⟩ := u6
  have hw6 : r6 = nI 0 ∧ v6 = nI (z - 1) := hw6
  obtain ⟨rfl, rfl⟩ := hw6
  have hP : PP G (mW G A th (nI z) (nI ln) dg f sl ik sv sg pl ++ (oW G oa (vp_updL og 0 ((nI (z - 1)).toInt64)) ++ cW G xa so b ce a hh sg ln mk cs (nI 0) (F (z - 1) 0 0) (F (z - 1) 0 1) (F (z - 1) 1) (F (z - 1) 2) (F (z - 1) 3) (F (z - 1) 4) (F (z - 1) 5) (F (z - 1) 0 6) (F (z - 1) 0 2) (F (z - 1) 0 3) (F (z - 1) 0 4) (F (z - 1) 0 5) P F (z - 1) o0 o1)) _ := hP9
  have hD : va_D Ar (mW G A th (nI z) (nI ln) dg f sl ik sv sg pl ++ (oW G oa (vp_updL og 0 ((nI (z - 1)).toInt64)) ++ cW G xa so b ce a hh sg ln mk cs (nI 0) (F (z - 1) 0 0) (F (z - 1) 0 1) (F (z - 1) 1) (F (z - 1) 2) (F (z - 1) 3) (F (z - 1) 4) (F (z - 1) 5) (F (z - 1) 0 6) (F (z - 1) 0 2) (F (z - 1) 0 3) (F (z - 1) 0 4) (F (z - 1) 0 5) P F (z - 1) o0 o1)) := hD9
  refine lv_istore (lv' := [(5, .int (nI 0)), (0, .ref b9), (1, .ref xa), (2, .ref (A 0)), (3, .ref oa), (4, .int (nI (4 * j)))]) hx hb dL_law_725 hl (by decide) rfl (fun ls hl => ?_)
  refine lv_aload_n hx hb dL_law_727 rfl (lv_at hl 3 rfl) ?_
  refine wr_goi (pre := []) (mid := mW G A th (nI z) (nI ln) dg f sl ik sv sg pl) (suf := oW G oa (vp_updL og 0 ((nI (z - 1)).toInt64)) ++ cW G xa so b ce a hh sg ln mk cs (nI 0) (F (z - 1) 0 0) (F (z - 1) 0 1) (F (z - 1) 1) (F (z - 1) 2) (F (z - 1) 3) (F (z - 1) 4) (F (z - 1) 5) (F (z - 1) 0 6) (F (z - 1) 0 2) (F (z - 1) 0 3) (F (z - 1) 0 4) (F (z - 1) 0 5) P F (z - 1) o0 o1) (va_runV (As := []) (rest := []) ⟨hx, hb, hml, hown, hts⟩ (c_X7_undo l G _ A th (nI ln) dg f sl ik sv sg pl z hz hz1) (cwV 0 hts gL_law_X7_undo rfl rfl rfl (by decide +kernel) ⟨Nat.le_of_ble_eq_true rfl, Nat.le_of_ble_eq_true rfl⟩) (wV (pre := []) (mid := mW G A th (nI z) (nI ln) dg f sl ik sv sg pl) (suf := oW G oa (vp_updL og 0 ((nI (z - 1)).toInt64)) ++ cW G xa so b ce a hh sg ln mk cs (nI 0) (F (z - 1) 0 0) (F (z - 1) 0 1) (F (z - 1) 1) (F (z - 1) 2) (F (z - 1) 3) (F (z - 1) 4) (F (z - 1) 5) (F (z - 1) 0 6) (F (z - 1) 0 2) (F (z - 1) 0 3) (F (z - 1) 0 4) (F (z - 1) 0 5) P F (z - 1) o0 o1) (va_recv (ws := mW G A th (nI z) (nI ln) dg f sl ik sv sg pl ++ (oW G oa (vp_updL og 0 ((nI (z - 1)).toInt64)) ++ cW G xa so b ce a hh sg ln mk cs (nI 0) (F (z - 1) 0 0) (F (z - 1) 0 1) (F (z - 1) 1) (F (z - 1) 2) (F (z - 1) 3) (F (z - 1) 4) (F (z - 1) 5) (F (z - 1) 0 6) (F (z - 1) 0 2) (F (z - 1) 0 3) (F (z - 1) 0 4) (F (z - 1) 0 5) P F (z - 1) o0 o1)) hK hP (ci := 6) (q0 := 0) rfl rfl) hK hN hP hD) rfl rfl hl.1 rfl (lv_room (Nat.le_of_ble_eq_true rfl)) dL_law_728 ⟨by show 100 + 7 * j + 0 + 0 ≤ 601024; omega, by show 2000 + 64 * j + 0 + 0 ≤ 7293034; omega⟩) hP hD hS hA (fun r7 u7 H locs hw7 hP9 hD9 hS => ?_)
  have hw7 : r7 = nI (z - 1) := hw7
  subst hw7
  have hP : PP G (mW G A (nI 0) (nI (z - 1)) (nI ln) dg (cp f 0 sv (58 * (z - 1)) 58) sl ik sv sg pl ++ (oW G oa (vp_updL og 0 ((nI (z - 1)).toInt64)) ++ cW G xa so b ce a hh sg ln mk cs (nI 0) (F (z - 1) 0 0) (F (z - 1) 0 1) (F (z - 1) 1) (F (z - 1) 2) (F (z - 1) 3) (F (z - 1) 4) (F (z - 1) 5) (F (z - 1) 0 6) (F (z - 1) 0 2) (F (z - 1) 0 3) (F (z - 1) 0 4) (F (z - 1) 0 5) P F (z - 1) o0 o1)) _ := hP9
  have hD : va_D Ar (mW G A (nI 0) (nI (z - 1)) (nI ln) dg (cp f 0 sv (58 * (z - 1)) 58) sl ik sv sg pl ++ (oW G oa (vp_updL og 0 ((nI (z - 1)).toInt64)) ++ cW G xa so b ce a hh sg ln mk cs (nI 0) (F (z - 1) 0 0) (F (z - 1) 0 1) (F (z - 1) 1) (F (z - 1) 2) (F (z - 1) 3) (F (z - 1) 4) (F (z - 1) 5) (F (z - 1) 0 6) (F (z - 1) 0 2) (F (z - 1) 0 3) (F (z - 1) 0 4) (F (z - 1) 0 5) P F (z - 1) o0 o1)) := hD9
  refine lv_istore (lv' := [(6, .int (nI (z - 1))), (5, .int (nI 0)), (0, .ref b9), (1, .ref xa), (2, .ref (A 0)), (3, .ref oa), (4, .int (nI (4 * j)))]) hx hb dL_law_731 hl (by decide) rfl (fun ls hl => ?_)
  refine lv_aload_n hx hb dL_law_733 rfl (lv_at hl 4 rfl) ?_
  refine rd_go (va_runV (As := []) (rest := []) ⟨hx, hb, hml, hown, hts⟩ (c_X7_thrown l G A (nI 0) (nI (z - 1)) (nI ln) dg (cp f 0 sv (58 * (z - 1)) 58) sl ik sv sg pl) (cwV 0 hts gL_law_X7_thrown rfl rfl rfl (by decide +kernel) ⟨Nat.le_of_ble_eq_true rfl, Nat.le_of_ble_eq_true rfl⟩) (rV (ws := mW G A (nI 0) (nI (z - 1)) (nI ln) dg (cp f 0 sv (58 * (z - 1)) 58) sl ik sv sg pl) (va_recv (ws := mW G A (nI 0) (nI (z - 1)) (nI ln) dg (cp f 0 sv (58 * (z - 1)) 58) sl ik sv sg pl ++ (oW G oa (vp_updL og 0 ((nI (z - 1)).toInt64)) ++ cW G xa so b ce a hh sg ln mk cs (nI 0) (F (z - 1) 0 0) (F (z - 1) 0 1) (F (z - 1) 1) (F (z - 1) 2) (F (z - 1) 3) (F (z - 1) 4) (F (z - 1) 5) (F (z - 1) 0 6) (F (z - 1) 0 2) (F (z - 1) 0 3) (F (z - 1) 0 4) (F (z - 1) 0 5) P F (z - 1) o0 o1)) hK hP (ci := 6) (q0 := 0) rfl rfl) hK hN (P_mid (pre := []) (mid := mW G A (nI 0) (nI (z - 1)) (nI ln) dg (cp f 0 sv (58 * (z - 1)) 58) sl ik sv sg pl) (suf := oW G oa (vp_updL og 0 ((nI (z - 1)).toInt64)) ++ cW G xa so b ce a hh sg ln mk cs (nI 0) (F (z - 1) 0 0) (F (z - 1) 0 1) (F (z - 1) 1) (F (z - 1) 2) (F (z - 1) 3) (F (z - 1) 4) (F (z - 1) 5) (F (z - 1) 0 6) (F (z - 1) 0 2) (F (z - 1) 0 3) (F (z - 1) 0 4) (F (z - 1) 0 5) P F (z - 1) o0 o1) hP)) rfl rfl hl.1 rfl (lv_room (Nat.le_of_ble_eq_true rfl)) dL_law_734 ⟨by show 100 + 7 * j + 0 + 0 + 0 ≤ 601024; omega, by show 2000 + 64 * j + 0 + 0 + 0 ≤ 7293034; omega⟩) ?_
  refine lv_iload hx hb dL_law_737 (lv_at hl 1 rfl) ?_
  refine lv_icmp_eq (tgt := 744) hx hb dL_law_739 (by decide) (fun c_739 => ?_) (fun c_739 => by exact absurd c_739 (by decide))
  refine lv_iload hx hb dL_law_744 (lv_at hl 1 rfl) ?_
  refine lv_if_ne (tgt := 761) hx hb dL_law_746 (by decide) (fun c_746 => by exact absurd c_746 (by decide)) (fun c_746 => ?_)
  refine lv_aload_n hx hb dL_law_749 rfl (lv_at hl 5 rfl) ?_
  refine lv_iconst (v := nI 0) hx hb dL_law_750 (by decide) ?_
  refine va_lald (D := G.1) (ws := mW G A (nI 0) (nI (z - 1)) (nI ln) dg (cp f 0 sv (58 * (z - 1)) 58) sl ik sv sg pl ++ (oW G oa (vp_updL og 0 ((nI (z - 1)).toInt64)) ++ cW G xa so b ce a hh sg ln mk cs (nI 0) (F (z - 1) 0 0) (F (z - 1) 0 1) (F (z - 1) 1) (F (z - 1) 2) (F (z - 1) 3) (F (z - 1) 4) (F (z - 1) 5) (F (z - 1) 0 6) (F (z - 1) 0 2) (F (z - 1) 0 3) (F (z - 1) 0 4) (F (z - 1) 0 5) P F (z - 1) o0 o1)) hx hb hK hP 7 3 (n := 1) rfl rfl (vp_in_nI (by decide) (by decide)) dL_law_751 ?_
  refine lv_cgl (y := (nI (z - 1)).toInt64) vpL ?_
  refine lv_iload hx hb dL_law_752 (lv_at hl 0 rfl) ?_
  refine lv_i2l (v := (nI (z - 1)).toInt64) hx hb dL_law_754 rfl ?_
  refine W.lcmp hx hb dL_law_755 ?_
  refine lv_cgi (y := nI 0) (lg_self _) ?_
  refine lv_if_eq (tgt := 761) hx hb dL_law_756 (by decide) (fun c_756 => ?_) (fun c_756 => by exact absurd c_756 (by decide))
  refine lv_goto (tgt := 1297) hx hb dL_law_761 (by decide) ?_
  refine lv_iinc (v := nI (4 * (j + 1))) (lv' := [(4, .int (nI (4 * (j + 1)))), (6, .int (nI (z - 1))), (5, .int (nI 0)), (0, .ref b9), (1, .ref xa), (2, .ref (A 0)), (3, .ref oa)]) hx hb dL_law_1297 hl (k := 6) rfl (iinc4 (4 * j)) (by decide) rfl (fun ls hl => ?_)
  refine lv_goto (tgt := 23) hx hb dL_law_1300 (by decide) ?_
  refine W.widen (k := 100 + 7 * (j + 1)) (n := 2000 + 64 * (j + 1)) (by omega) (by omega) ?_
  exact hHd _ _ _ ⟨vp_updL og 0 ((nI (z - 1)).toInt64), sg, ln, mk, cs, nI 0, F (z - 1) 0 0, F (z - 1) 0 1, F (z - 1) 1, F (z - 1) 2, F (z - 1) 3, F (z - 1) 4, F (z - 1) 5, F (z - 1) 0 6, F (z - 1) 0 2, F (z - 1) 0 3, F (z - 1) 0 4, F (z - 1) 0 5, P, F, z - 1, o0, o1, nI 0, dg, cp f 0 sv (58 * (z - 1)) 58, sl, ik, sv, pl, rfl, hln, (by omega), (by obtain ⟨n9, e9, r9⟩ := hst; exact ⟨n9, e9, RS_mono (Nat.le_succ _) r9⟩), cen_no, (fun i hi => HI_mono (Nat.le_succ _) hHI i (by omega)), (SLr_mono (Nat.le_succ _) hs0), (SLr_mono (Nat.le_succ _) hs1)⟩ hP hD hS ls (lv_sub hl [3, 4, 5, 6, 0] rfl)

set_option maxHeartbeats 8000000 in
set_option maxRecDepth 100000 in
theorem L_panelOf {p : Program} {l : Launch} {e : Env} {s : State} {m : MethodId} {args : Array Value} {below : List Frame} {meth : Method} {cd : Code} {Q : State → Prop} {G : GG} {Ar : Nat → Prop} {b9 L : Nat} {xs : Nat → Int32} {xa so oa : Nat} {b ce a hh A : Nat → Nat} (hE : LE9 p l s m args cd G Ar b9 L xs) {j : Nat} (hj : 4 * j + 4 ≤ L) (hL : L ≤ 2048) (hHd : LH p l e s m args below meth cd Q G Ar b9 xa so oa b ce a hh A (j + 1))
    (og : Nat → Int64) (sg : Nat → Int32) (ln : Nat) (hln : ln ≤ 60) (mk : Nat → Int32) (cs up fo tn : Int32) (w t lo hi me : Nat → Int32) (n : Nat) (qu gu ri re : Int32) (P : Nat → Nat → Nat) (F : Nat → Nat → Nat → Int32) (z : Nat) (hz : z ≤ 6) (o0 : SLO) (o1 : SLO) (th : Int32) (dg : Int64) (f sl ik sv pl : Nat → Int32) (q : Nat) (hq : q < 10) (v : Nat) (hv2 : v ≤ 2)
    (hRS : RS j fo tn w t lo hi me n qu gu ri re f) (hcv : cenV (qS tn lo hi me n) mk cs up) (hHI : HI j z F sv) (hs0 : SLr j o0 (ik 0) sl) (hs1 : SLr j o1 (ik 1) (fun j => sl (58 + j))) (hp0 : xs (4 * j + 1) = nI q) (hp1 : xs (4 * j + 2) = nI v)
    {H : Heap} {locs : List Loc} (hP : PP G (mW G A th (nI z) (nI ln) dg f sl ik sv sg pl ++ (oW G oa og ++ cW G xa so b ce a hh sg ln mk cs up fo tn w t lo hi me (nI n) qu gu ri re P F z o0 o1)) H) (hD : va_D Ar (mW G A th (nI z) (nI ln) dg f sl ik sv sg pl ++ (oW G oa og ++ cW G xa so b ce a hh sg ln mk cs up fo tn w t lo hi me (nI n) qu gu ri re P F z o0 o1))) (hS : va_S Ar s.heap H locs) {ls : Array Slot} (hl : lv_has ls 9 [(0, .ref b9), (1, .ref xa), (2, .ref (A 0)), (3, .ref oa), (4, .int (nI (4 * j)))]) : W p l e room_1 s m args below meth cd H locs (100 + 7 * j) (2000 + 64 * j) Q (F0 m 764 ls []) := by
  obtain ⟨hx, hb, hml, hown, hts, hfl, ⟨hK, hN, hX, hZ0⟩, hA, hXs, hbl, hbA⟩ := id hE
  have hn : n ≤ 12 := hRS.1.1
  have hn17 : f 17 = nI n := hRS.2.1.2.2.1
  have hT : okP t := hRS.2.2.1.2.1
  have hvL : okL lo hi := hRS.2.2.1.2.2.1
  have hvA : okA f := hRS.2.2.1.2.2.2
  have htF : okT f := fun i hi => by rw [hRS.2.1.2.2.2.2 i hi]; exact hT i hi
  refine lv_aload_n hx hb dL_law_764 rfl (lv_at hl 1 rfl) ?_
  refine lv_aload_n hx hb dL_law_765 rfl (lv_at hl 0 rfl) ?_
  refine lv_iload hx hb dL_law_766 (lv_at hl 4 rfl) ?_
  refine lv_iconst (v := nI 1) hx hb dL_law_768 (by decide) ?_
  refine lv_iadd hx hb dL_law_769 ?_
  refine lv_cgi (y := nI ((4 * j) + 1)) (nI_add _ _) ?_
  refine va_sld hx hb hXs hbl hbA hS (vp_in_nI (by omega) (by omega)) dL_law_770 ?_
  refine lv_cgi (y := nI q) (by rw [nI_clamp (by omega)]; exact hp0) ?_
  refine lv_aload_n hx hb dL_law_771 rfl (lv_at hl 0 rfl) ?_
  refine lv_iload hx hb dL_law_772 (lv_at hl 4 rfl) ?_
  refine lv_iconst (v := nI 2) hx hb dL_law_774 (by decide) ?_
  refine lv_iadd hx hb dL_law_775 ?_
  refine lv_cgi (y := nI ((4 * j) + 2)) (nI_add _ _) ?_
  refine va_sld hx hb hXs hbl hbA hS (vp_in_nI (by omega) (by omega)) dL_law_776 ?_
  refine lv_cgi (y := nI v) (by rw [nI_clamp (by omega)]; exact hp1) ?_
  refine lv_aload_n hx hb dL_law_777 rfl (lv_at hl 3 rfl) ?_
  refine wr_g1i (pre := mW G A th (nI z) (nI ln) dg f sl ik sv sg pl) (mid := oW G oa og ++ cW G xa so b ce a hh sg ln mk cs up fo tn w t lo hi me (nI n) qu gu ri re P F z o0 o1) (vx_runSW (As := [.ref xa, .int (nI q), .int (nI v), .ref oa]) (rest := []) ⟨hx, hb, hml, hown, hts⟩ (w_panelOf_ok l G _ xa oa _ _ og (nI q) (nI v) (rd_wr (c_X6_panelOf l G xa so b ce a hh sg ln hln mk cs up fo tn w t lo hi me n hn qu gu ri re P F z hz o0 o1 q hq v hv2))) (vx_cwSW 4 hts gL_law_L_panelOf rfl rfl rfl (by decide +kernel) ⟨Nat.le_of_ble_eq_true rfl, Nat.le_of_ble_eq_true rfl⟩) (lxS1 (pre := mW G A th (nI z) (nI ln) dg f sl ik sv sg pl) (mid := oW G oa og ++ cW G xa so b ce a hh sg ln mk cs up fo tn w t lo hi me (nI n) qu gu ri re P F z o0 o1) hK hN hX (XZ_at hZ0 hS hA) hP hD) rfl rfl hl.1 rfl (lv_room (Nat.le_of_ble_eq_true rfl)) dL_law_778 ⟨by show 100 + 7 * j + 0 ≤ 601024; omega, by show 2000 + 64 * j + 0 ≤ 7293034; omega⟩) hP hD hS hA (fun r6 u6 H locs hw6 hP9 hD9 hS => ?_)
  obtain ⟨v6, u6⟩ := u6
  have hw6 : r6 = nI 0 ∧ v6 = opC fo t q v := hw6
  obtain ⟨rfl, rfl⟩ := hw6
  have hP : PP G (mW G A th (nI z) (nI ln) dg f sl ik sv sg pl ++ (oW G oa (vp_updL og 0 ((opC fo t q v).toInt64)) ++ cW G xa so b ce a hh sg ln mk cs up fo tn w t lo hi me (nI n) qu gu ri re P F z o0 o1)) _ := hP9
  have hD : va_D Ar (mW G A th (nI z) (nI ln) dg f sl ik sv sg pl ++ (oW G oa (vp_updL og 0 ((opC fo t q v).toInt64)) ++ cW G xa so b ce a hh sg ln mk cs up fo tn w t lo hi me (nI n) qu gu ri re P F z o0 o1)) := hD9
  refine lv_istore (lv' := [(5, .int (nI 0)), (0, .ref b9), (1, .ref xa), (2, .ref (A 0)), (3, .ref oa), (4, .int (nI (4 * j)))]) hx hb dL_law_781 hl (by decide) rfl (fun ls hl => ?_)
  refine lv_aload_n hx hb dL_law_783 rfl (lv_at hl 3 rfl) ?_
  refine lv_aload_n hx hb dL_law_784 rfl (lv_at hl 1 rfl) ?_
  refine lv_iload hx hb dL_law_785 (lv_at hl 5 rfl) ?_
  refine lv_iconst (v := nI 1) hx hb dL_law_787 (by decide) ?_
  refine lv_iadd hx hb dL_law_788 ?_
  refine lv_cgi (y := nI ((4 * j) + 1)) (nI_add _ _) ?_
  refine va_sld hx hb hXs hbl hbA hS (vp_in_nI (by omega) (by omega)) dL_law_789 ?_
  refine lv_cgi (y := nI q) (by rw [nI_clamp (by omega)]; exact hp0) ?_
  refine lv_aload_n hx hb dL_law_790 rfl (lv_at hl 1 rfl) ?_
  refine lv_iload hx hb dL_law_791 (lv_at hl 5 rfl) ?_
  refine lv_iconst (v := nI 2) hx hb dL_law_793 (by decide) ?_
  refine lv_iadd hx hb dL_law_794 ?_
  refine lv_cgi (y := nI ((4 * j) + 2)) (nI_add _ _) ?_
  refine va_sld hx hb hXs hbl hbA hS (vp_in_nI (by omega) (by omega)) dL_law_795 ?_
  refine lv_cgi (y := nI v) (by rw [nI_clamp (by omega)]; exact hp1) ?_
  refine wr_goi (pre := []) (mid := mW G A th (nI z) (nI ln) dg f sl ik sv sg pl) (suf := oW G oa (vp_updL og 0 ((opC fo t q v).toInt64)) ++ cW G xa so b ce a hh sg ln mk cs up fo tn w t lo hi me (nI n) qu gu ri re P F z o0 o1) (va_runV (As := [.int (nI q), .int (nI v)]) (rest := []) ⟨hx, hb, hml, hown, hts⟩ (c_X7_panelOf l G _ A th (nI z) (nI ln) dg f sl ik sv sg pl q hq v hv2) (cwV 2 hts gL_law_X7_panelOf rfl rfl rfl (by decide +kernel) ⟨Nat.le_of_ble_eq_true rfl, Nat.le_of_ble_eq_true rfl⟩) (wV (pre := []) (mid := mW G A th (nI z) (nI ln) dg f sl ik sv sg pl) (suf := oW G oa (vp_updL og 0 ((opC fo t q v).toInt64)) ++ cW G xa so b ce a hh sg ln mk cs up fo tn w t lo hi me (nI n) qu gu ri re P F z o0 o1) (va_recv (ws := mW G A th (nI z) (nI ln) dg f sl ik sv sg pl ++ (oW G oa (vp_updL og 0 ((opC fo t q v).toInt64)) ++ cW G xa so b ce a hh sg ln mk cs up fo tn w t lo hi me (nI n) qu gu ri re P F z o0 o1)) hK hP (ci := 6) (q0 := 0) rfl rfl) hK hN hP hD) rfl rfl hl.1 rfl (lv_room (Nat.le_of_ble_eq_true rfl)) dL_law_796 ⟨by show 100 + 7 * j + 0 + 0 ≤ 601024; omega, by show 2000 + 64 * j + 0 + 0 ≤ 7293034; omega⟩) hP hD hS hA (fun r7 u7 H locs hw7 hP9 hD9 hS => ?_)
  have hw7 : r7 = opM f q v := hw7
  subst hw7
  have hP : PP G (mW G A (nI 0) (nI z) (nI ln) dg f sl ik sv sg u7 ++ (oW G oa (vp_updL og 0 ((opC fo t q v).toInt64)) ++ cW G xa so b ce a hh sg ln mk cs up fo tn w t lo hi me (nI n) qu gu ri re P F z o0 o1)) _ := hP9
  have hD : va_D Ar (mW G A (nI 0) (nI z) (nI ln) dg f sl ik sv sg u7 ++ (oW G oa (vp_updL og 0 ((opC fo t q v).toInt64)) ++ cW G xa so b ce a hh sg ln mk cs up fo tn w t lo hi me (nI n) qu gu ri re P F z o0 o1)) := hD9
  refine lv_istore (lv' := [(6, .int (opM f q v)), (5, .int (nI 0)), (0, .ref b9), (1, .ref xa), (2, .ref (A 0)), (3, .ref oa), (4, .int (nI (4 * j)))]) hx hb dL_law_799 hl (by decide) rfl (fun ls hl => ?_)
  refine lv_aload_n hx hb dL_law_801 rfl (lv_at hl 4 rfl) ?_
  refine rd_go (va_runV (As := []) (rest := []) ⟨hx, hb, hml, hown, hts⟩ (c_X7_thrown l G A (nI 0) (nI z) (nI ln) dg f sl ik sv sg u7) (cwV 0 hts gL_law_X7_thrown rfl rfl rfl (by decide +kernel) ⟨Nat.le_of_ble_eq_true rfl, Nat.le_of_ble_eq_true rfl⟩) (rV (ws := mW G A (nI 0) (nI z) (nI ln) dg f sl ik sv sg u7) (va_recv (ws := mW G A (nI 0) (nI z) (nI ln) dg f sl ik sv sg u7 ++ (oW G oa (vp_updL og 0 ((opC fo t q v).toInt64)) ++ cW G xa so b ce a hh sg ln mk cs up fo tn w t lo hi me (nI n) qu gu ri re P F z o0 o1)) hK hP (ci := 6) (q0 := 0) rfl rfl) hK hN (P_mid (pre := []) (mid := mW G A (nI 0) (nI z) (nI ln) dg f sl ik sv sg u7) (suf := oW G oa (vp_updL og 0 ((opC fo t q v).toInt64)) ++ cW G xa so b ce a hh sg ln mk cs up fo tn w t lo hi me (nI n) qu gu ri re P F z o0 o1) hP)) rfl rfl hl.1 rfl (lv_room (Nat.le_of_ble_eq_true rfl)) dL_law_802 ⟨by show 100 + 7 * j + 0 + 0 + 0 ≤ 601024; omega, by show 2000 + 64 * j + 0 + 0 + 0 ≤ 7293034; omega⟩) ?_
  refine lv_iload hx hb dL_law_805 (lv_at hl 1 rfl) ?_
  refine lv_icmp_eq (tgt := 812) hx hb dL_law_807 (by decide) (fun c_807 => ?_) (fun c_807 => by exact absurd c_807 (by decide))
  refine lv_iload hx hb dL_law_812 (lv_at hl 1 rfl) ?_
  refine lv_if_ne (tgt := 829) hx hb dL_law_814 (by decide) (fun c_814 => by exact absurd c_814 (by decide)) (fun c_814 => ?_)
  refine lv_aload_n hx hb dL_law_817 rfl (lv_at hl 5 rfl) ?_
  refine lv_iconst (v := nI 0) hx hb dL_law_818 (by decide) ?_
  refine va_lald (D := G.1) (ws := mW G A (nI 0) (nI z) (nI ln) dg f sl ik sv sg u7 ++ (oW G oa (vp_updL og 0 ((opC fo t q v).toInt64)) ++ cW G xa so b ce a hh sg ln mk cs up fo tn w t lo hi me (nI n) qu gu ri re P F z o0 o1)) hx hb hK hP 7 3 (n := 1) rfl rfl (vp_in_nI (by decide) (by decide)) dL_law_819 ?_
  refine lv_cgl (y := (opC fo t q v).toInt64) vpL ?_
  refine lv_iload hx hb dL_law_820 (lv_at hl 0 rfl) ?_
  refine lv_i2l (v := (opM f q v).toInt64) hx hb dL_law_822 rfl ?_
  refine lv_cgl (y := (opC fo t q v).toInt64) (by rw [lk_op hRS hq]) ?_
  refine W.lcmp hx hb dL_law_823 ?_
  refine lv_cgi (y := nI 0) (lg_self _) ?_
  refine lv_if_eq (tgt := 829) hx hb dL_law_824 (by decide) (fun c_824 => ?_) (fun c_824 => by exact absurd c_824 (by decide))
  refine lv_goto (tgt := 1297) hx hb dL_law_829 (by decide) ?_
  refine lv_iinc (v := nI (4 * (j + 1))) (lv' := [(4, .int (nI (4 * (j + 1)))), (6, .int (opM f q v)), (5, .int (nI 0)), (0, .ref b9), (1, .ref xa), (2, .ref (A 0)), (3, .ref oa)]) hx hb dL_law_1297 hl (k := 6) rfl (iinc4 (4 * j)) (by decide) rfl (fun ls hl => ?_)
  refine lv_goto (tgt := 23) hx hb dL_law_1300 (by decide) ?_
  refine W.widen (k := 100 + 7 * (j + 1)) (n := 2000 + 64 * (j + 1)) (by omega) (by omega) ?_
  exact hHd _ _ _ ⟨vp_updL og 0 ((opC fo t q v).toInt64), sg, ln, mk, cs, up, fo, tn, w, t, lo, hi, me, nI n, qu, gu, ri, re, P, F, z, o0, o1, nI 0, dg, f, sl, ik, sv, u7, rfl, hln, hz, (RG_mono (Nat.le_succ _) (RG_of hRS)), (cen_of hn hcv), (HI_mono (Nat.le_succ _) hHI), (SLr_mono (Nat.le_succ _) hs0), (SLr_mono (Nat.le_succ _) hs1)⟩ hP hD hS ls (lv_sub hl [3, 4, 5, 6, 0] rfl)

set_option maxHeartbeats 8000000 in
set_option maxRecDepth 100000 in
theorem L_creaseOf {p : Program} {l : Launch} {e : Env} {s : State} {m : MethodId} {args : Array Value} {below : List Frame} {meth : Method} {cd : Code} {Q : State → Prop} {G : GG} {Ar : Nat → Prop} {b9 L : Nat} {xs : Nat → Int32} {xa so oa : Nat} {b ce a hh A : Nat → Nat} (hE : LE9 p l s m args cd G Ar b9 L xs) {j : Nat} (hj : 4 * j + 4 ≤ L) (hL : L ≤ 2048) (hHd : LH p l e s m args below meth cd Q G Ar b9 xa so oa b ce a hh A (j + 1))
    (og : Nat → Int64) (sg : Nat → Int32) (ln : Nat) (hln : ln ≤ 60) (mk : Nat → Int32) (cs up fo tn : Int32) (w t lo hi me : Nat → Int32) (n : Nat) (qu gu ri re : Int32) (P : Nat → Nat → Nat) (F : Nat → Nat → Nat → Int32) (z : Nat) (hz : z ≤ 6) (o0 : SLO) (o1 : SLO) (th : Int32) (dg : Int64) (f sl ik sv pl : Nat → Int32) (q : Nat) (hq : q < 9) (v : Nat) (hv3 : v ≤ 3)
    (hRS : RS j fo tn w t lo hi me n qu gu ri re f) (hcv : cenV (qS tn lo hi me n) mk cs up) (hHI : HI j z F sv) (hs0 : SLr j o0 (ik 0) sl) (hs1 : SLr j o1 (ik 1) (fun j => sl (58 + j))) (hp0 : xs (4 * j + 1) = nI q) (hp1 : xs (4 * j + 2) = nI v)
    {H : Heap} {locs : List Loc} (hP : PP G (mW G A th (nI z) (nI ln) dg f sl ik sv sg pl ++ (oW G oa og ++ cW G xa so b ce a hh sg ln mk cs up fo tn w t lo hi me (nI n) qu gu ri re P F z o0 o1)) H) (hD : va_D Ar (mW G A th (nI z) (nI ln) dg f sl ik sv sg pl ++ (oW G oa og ++ cW G xa so b ce a hh sg ln mk cs up fo tn w t lo hi me (nI n) qu gu ri re P F z o0 o1))) (hS : va_S Ar s.heap H locs) {ls : Array Slot} (hl : lv_has ls 9 [(0, .ref b9), (1, .ref xa), (2, .ref (A 0)), (3, .ref oa), (4, .int (nI (4 * j)))]) : W p l e room_1 s m args below meth cd H locs (100 + 7 * j) (2000 + 64 * j) Q (F0 m 832 ls []) := by
  obtain ⟨hx, hb, hml, hown, hts, hfl, ⟨hK, hN, hX, hZ0⟩, hA, hXs, hbl, hbA⟩ := id hE
  have hn : n ≤ 12 := hRS.1.1
  have hn17 : f 17 = nI n := hRS.2.1.2.2.1
  have hT : okP t := hRS.2.2.1.2.1
  have hvL : okL lo hi := hRS.2.2.1.2.2.1
  have hvA : okA f := hRS.2.2.1.2.2.2
  have htF : okT f := fun i hi => by rw [hRS.2.1.2.2.2.2 i hi]; exact hT i hi
  refine lv_aload_n hx hb dL_law_832 rfl (lv_at hl 1 rfl) ?_
  refine lv_aload_n hx hb dL_law_833 rfl (lv_at hl 0 rfl) ?_
  refine lv_iload hx hb dL_law_834 (lv_at hl 4 rfl) ?_
  refine lv_iconst (v := nI 1) hx hb dL_law_836 (by decide) ?_
  refine lv_iadd hx hb dL_law_837 ?_
  refine lv_cgi (y := nI ((4 * j) + 1)) (nI_add _ _) ?_
  refine va_sld hx hb hXs hbl hbA hS (vp_in_nI (by omega) (by omega)) dL_law_838 ?_
  refine lv_cgi (y := nI q) (by rw [nI_clamp (by omega)]; exact hp0) ?_
  refine lv_aload_n hx hb dL_law_839 rfl (lv_at hl 0 rfl) ?_
  refine lv_iload hx hb dL_law_840 (lv_at hl 4 rfl) ?_
  refine lv_iconst (v := nI 2) hx hb dL_law_842 (by decide) ?_
  refine lv_iadd hx hb dL_law_843 ?_
  refine lv_cgi (y := nI ((4 * j) + 2)) (nI_add _ _) ?_
  refine va_sld hx hb hXs hbl hbA hS (vp_in_nI (by omega) (by omega)) dL_law_844 ?_
  refine lv_cgi (y := nI v) (by rw [nI_clamp (by omega)]; exact hp1) ?_
  refine lv_aload_n hx hb dL_law_845 rfl (lv_at hl 3 rfl) ?_
  refine wr_g1i (pre := mW G A th (nI z) (nI ln) dg f sl ik sv sg pl) (mid := oW G oa og ++ cW G xa so b ce a hh sg ln mk cs up fo tn w t lo hi me (nI n) qu gu ri re P F z o0 o1) (vx_runSW (As := [.ref xa, .int (nI q), .int (nI v), .ref oa]) (rest := []) ⟨hx, hb, hml, hown, hts⟩ (w_creaseOf_ok l G _ xa oa _ _ og (nI q) (nI v) (fun sz => c_X6_creaseOf l G sz xa so b ce a hh sg ln hln mk cs up fo tn w t lo hi me n hn qu gu ri re P F z hz o0 o1 hvL hcv q hq v hv3)) (vx_cwSW 4 hts gL_law_L_creaseOf rfl rfl rfl (by decide +kernel) ⟨Nat.le_of_ble_eq_true rfl, Nat.le_of_ble_eq_true rfl⟩) (lxS1 (pre := mW G A th (nI z) (nI ln) dg f sl ik sv sg pl) (mid := oW G oa og ++ cW G xa so b ce a hh sg ln mk cs up fo tn w t lo hi me (nI n) qu gu ri re P F z o0 o1) hK hN hX (XZ_at hZ0 hS hA) hP hD) rfl rfl hl.1 rfl (lv_room (Nat.le_of_ble_eq_true rfl)) dL_law_846 ⟨by show 100 + 7 * j + 0 ≤ 601024; omega, by show 2000 + 64 * j + 0 ≤ 7293034; omega⟩) hP hD hS hA (fun r6 u6 H locs hw6 hP9 hD9 hS => ?_)
  obtain ⟨v6, u6⟩ := u6
  have hw6 : r6 = nI 0 ∧ (v6 = ocC fo tn w (qS tn lo hi me n) q v ∧ cenV (qS tn lo hi me n) u6.1 u6.2.1 u6.2.2) := hw6
  obtain ⟨rfl, rfl, hcv6⟩ := hw6
  have hP : PP G (mW G A th (nI z) (nI ln) dg f sl ik sv sg pl ++ (oW G oa (vp_updL og 0 ((ocC fo tn w (qS tn lo hi me n) q v).toInt64)) ++ cW G xa so b ce a hh sg ln u6.1 u6.2.1 u6.2.2 fo tn w t lo hi me (nI n) qu gu ri re P F z o0 o1)) _ := hP9
  have hD : va_D Ar (mW G A th (nI z) (nI ln) dg f sl ik sv sg pl ++ (oW G oa (vp_updL og 0 ((ocC fo tn w (qS tn lo hi me n) q v).toInt64)) ++ cW G xa so b ce a hh sg ln u6.1 u6.2.1 u6.2.2 fo tn w t lo hi me (nI n) qu gu ri re P F z o0 o1)) := hD9
  refine lv_istore (lv' := [(5, .int (nI 0)), (0, .ref b9), (1, .ref xa), (2, .ref (A 0)), (3, .ref oa), (4, .int (nI (4 * j)))]) hx hb dL_law_849 hl (by decide) rfl (fun ls hl => ?_)
  refine lv_aload_n hx hb dL_law_851 rfl (lv_at hl 3 rfl) ?_
  refine lv_aload_n hx hb dL_law_852 rfl (lv_at hl 1 rfl) ?_
  refine lv_iload hx hb dL_law_853 (lv_at hl 5 rfl) ?_
  refine lv_iconst (v := nI 1) hx hb dL_law_855 (by decide) ?_
  refine lv_iadd hx hb dL_law_856 ?_
  refine lv_cgi (y := nI ((4 * j) + 1)) (nI_add _ _) ?_
  refine va_sld hx hb hXs hbl hbA hS (vp_in_nI (by omega) (by omega)) dL_law_857 ?_
  refine lv_cgi (y := nI q) (by rw [nI_clamp (by omega)]; exact hp0) ?_
  refine lv_aload_n hx hb dL_law_858 rfl (lv_at hl 1 rfl) ?_
  refine lv_iload hx hb dL_law_859 (lv_at hl 5 rfl) ?_
  refine lv_iconst (v := nI 2) hx hb dL_law_861 (by decide) ?_
  refine lv_iadd hx hb dL_law_862 ?_
  refine lv_cgi (y := nI ((4 * j) + 2)) (nI_add _ _) ?_
  refine va_sld hx hb hXs hbl hbA hS (vp_in_nI (by omega) (by omega)) dL_law_863 ?_
  refine lv_cgi (y := nI v) (by rw [nI_clamp (by omega)]; exact hp1) ?_
  refine wr_goi (pre := []) (mid := mW G A th (nI z) (nI ln) dg f sl ik sv sg pl) (suf := oW G oa (vp_updL og 0 ((ocC fo tn w (qS tn lo hi me n) q v).toInt64)) ++ cW G xa so b ce a hh sg ln u6.1 u6.2.1 u6.2.2 fo tn w t lo hi me (nI n) qu gu ri re P F z o0 o1) (va_runV (As := [.int (nI q), .int (nI v)]) (rest := []) ⟨hx, hb, hml, hown, hts⟩ (c_X7_creaseOf l G _ A th (nI z) (nI ln) dg f sl ik sv sg pl n hn17 hn hvA q hq v hv3) (cwV 2 hts gL_law_X7_creaseOf rfl rfl rfl (by decide +kernel) ⟨Nat.le_of_ble_eq_true rfl, Nat.le_of_ble_eq_true rfl⟩) (wV (pre := []) (mid := mW G A th (nI z) (nI ln) dg f sl ik sv sg pl) (suf := oW G oa (vp_updL og 0 ((ocC fo tn w (qS tn lo hi me n) q v).toInt64)) ++ cW G xa so b ce a hh sg ln u6.1 u6.2.1 u6.2.2 fo tn w t lo hi me (nI n) qu gu ri re P F z o0 o1) (va_recv (ws := mW G A th (nI z) (nI ln) dg f sl ik sv sg pl ++ (oW G oa (vp_updL og 0 ((ocC fo tn w (qS tn lo hi me n) q v).toInt64)) ++ cW G xa so b ce a hh sg ln u6.1 u6.2.1 u6.2.2 fo tn w t lo hi me (nI n) qu gu ri re P F z o0 o1)) hK hP (ci := 6) (q0 := 0) rfl rfl) hK hN hP hD) rfl rfl hl.1 rfl (lv_room (Nat.le_of_ble_eq_true rfl)) dL_law_864 ⟨by show 100 + 7 * j + 0 + 0 ≤ 601024; omega, by show 2000 + 64 * j + 0 + 0 ≤ 7293034; omega⟩) hP hD hS hA (fun r7 u7 H locs hw7 hP9 hD9 hS => ?_)
  have hw7 : r7 = ocM f n q v := hw7
  subst hw7
  have hP : PP G (mW G A (nI 0) (nI z) (nI ln) dg f sl ik sv sg u7 ++ (oW G oa (vp_updL og 0 ((ocC fo tn w (qS tn lo hi me n) q v).toInt64)) ++ cW G xa so b ce a hh sg ln u6.1 u6.2.1 u6.2.2 fo tn w t lo hi me (nI n) qu gu ri re P F z o0 o1)) _ := hP9
  have hD : va_D Ar (mW G A (nI 0) (nI z) (nI ln) dg f sl ik sv sg u7 ++ (oW G oa (vp_updL og 0 ((ocC fo tn w (qS tn lo hi me n) q v).toInt64)) ++ cW G xa so b ce a hh sg ln u6.1 u6.2.1 u6.2.2 fo tn w t lo hi me (nI n) qu gu ri re P F z o0 o1)) := hD9
  refine lv_istore (lv' := [(6, .int (ocM f n q v)), (5, .int (nI 0)), (0, .ref b9), (1, .ref xa), (2, .ref (A 0)), (3, .ref oa), (4, .int (nI (4 * j)))]) hx hb dL_law_867 hl (by decide) rfl (fun ls hl => ?_)
  refine lv_aload_n hx hb dL_law_869 rfl (lv_at hl 4 rfl) ?_
  refine rd_go (va_runV (As := []) (rest := []) ⟨hx, hb, hml, hown, hts⟩ (c_X7_thrown l G A (nI 0) (nI z) (nI ln) dg f sl ik sv sg u7) (cwV 0 hts gL_law_X7_thrown rfl rfl rfl (by decide +kernel) ⟨Nat.le_of_ble_eq_true rfl, Nat.le_of_ble_eq_true rfl⟩) (rV (ws := mW G A (nI 0) (nI z) (nI ln) dg f sl ik sv sg u7) (va_recv (ws := mW G A (nI 0) (nI z) (nI ln) dg f sl ik sv sg u7 ++ (oW G oa (vp_updL og 0 ((ocC fo tn w (qS tn lo hi me n) q v).toInt64)) ++ cW G xa so b ce a hh sg ln u6.1 u6.2.1 u6.2.2 fo tn w t lo hi me (nI n) qu gu ri re P F z o0 o1)) hK hP (ci := 6) (q0 := 0) rfl rfl) hK hN (P_mid (pre := []) (mid := mW G A (nI 0) (nI z) (nI ln) dg f sl ik sv sg u7) (suf := oW G oa (vp_updL og 0 ((ocC fo tn w (qS tn lo hi me n) q v).toInt64)) ++ cW G xa so b ce a hh sg ln u6.1 u6.2.1 u6.2.2 fo tn w t lo hi me (nI n) qu gu ri re P F z o0 o1) hP)) rfl rfl hl.1 rfl (lv_room (Nat.le_of_ble_eq_true rfl)) dL_law_870 ⟨by show 100 + 7 * j + 0 + 0 + 0 ≤ 601024; omega, by show 2000 + 64 * j + 0 + 0 + 0 ≤ 7293034; omega⟩) ?_
  refine lv_iload hx hb dL_law_873 (lv_at hl 1 rfl) ?_
  refine lv_icmp_eq (tgt := 880) hx hb dL_law_875 (by decide) (fun c_875 => ?_) (fun c_875 => by exact absurd c_875 (by decide))
  refine lv_iload hx hb dL_law_880 (lv_at hl 1 rfl) ?_
  refine lv_if_ne (tgt := 897) hx hb dL_law_882 (by decide) (fun c_882 => by exact absurd c_882 (by decide)) (fun c_882 => ?_)
  refine lv_aload_n hx hb dL_law_885 rfl (lv_at hl 5 rfl) ?_
  refine lv_iconst (v := nI 0) hx hb dL_law_886 (by decide) ?_
  refine va_lald (D := G.1) (ws := mW G A (nI 0) (nI z) (nI ln) dg f sl ik sv sg u7 ++ (oW G oa (vp_updL og 0 ((ocC fo tn w (qS tn lo hi me n) q v).toInt64)) ++ cW G xa so b ce a hh sg ln u6.1 u6.2.1 u6.2.2 fo tn w t lo hi me (nI n) qu gu ri re P F z o0 o1)) hx hb hK hP 7 3 (n := 1) rfl rfl (vp_in_nI (by decide) (by decide)) dL_law_887 ?_
  refine lv_cgl (y := (ocC fo tn w (qS tn lo hi me n) q v).toInt64) vpL ?_
  refine lv_iload hx hb dL_law_888 (lv_at hl 0 rfl) ?_
  refine lv_i2l (v := (ocM f n q v).toInt64) hx hb dL_law_890 rfl ?_
  refine lv_cgl (y := (ocC fo tn w (qS tn lo hi me n) q v).toInt64) (by rw [lk_oc hRS hq]) ?_
  refine W.lcmp hx hb dL_law_891 ?_
  refine lv_cgi (y := nI 0) (lg_self _) ?_
  refine lv_if_eq (tgt := 897) hx hb dL_law_892 (by decide) (fun c_892 => ?_) (fun c_892 => by exact absurd c_892 (by decide))
  refine lv_goto (tgt := 1297) hx hb dL_law_897 (by decide) ?_
  refine lv_iinc (v := nI (4 * (j + 1))) (lv' := [(4, .int (nI (4 * (j + 1)))), (6, .int (ocM f n q v)), (5, .int (nI 0)), (0, .ref b9), (1, .ref xa), (2, .ref (A 0)), (3, .ref oa)]) hx hb dL_law_1297 hl (k := 6) rfl (iinc4 (4 * j)) (by decide) rfl (fun ls hl => ?_)
  refine lv_goto (tgt := 23) hx hb dL_law_1300 (by decide) ?_
  refine W.widen (k := 100 + 7 * (j + 1)) (n := 2000 + 64 * (j + 1)) (by omega) (by omega) ?_
  exact hHd _ _ _ ⟨vp_updL og 0 ((ocC fo tn w (qS tn lo hi me n) q v).toInt64), sg, ln, u6.1, u6.2.1, u6.2.2, fo, tn, w, t, lo, hi, me, nI n, qu, gu, ri, re, P, F, z, o0, o1, nI 0, dg, f, sl, ik, sv, u7, rfl, hln, hz, (RG_mono (Nat.le_succ _) (RG_of hRS)), (cen_of hn hcv6), (HI_mono (Nat.le_succ _) hHI), (SLr_mono (Nat.le_succ _) hs0), (SLr_mono (Nat.le_succ _) hs1)⟩ hP hD hS ls (lv_sub hl [3, 4, 5, 6, 0] rfl)

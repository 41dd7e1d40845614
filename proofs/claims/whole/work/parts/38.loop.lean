/-! THE LAW'S LOOP -/
set_option maxHeartbeats 8000000 in
set_option maxRecDepth 100000 in
theorem law_loop {p : Program} {l : Launch} {e : Env} {s : State} {m : MethodId} {args : Array Value} {below : List Frame} {meth : Method} {cd : Code} {Q : State → Prop} {G : GG} {Ar : Nat → Prop} {b9 L : Nat} {xs : Nat → Int32} {xa so oa : Nat} {b ce a hh A : Nat → Nat} (hE : LE9 p l s m args cd G Ar b9 L xs) (hL : L ≤ 2048)
    (hEnd : ∀ (H : Heap) (locs : List Loc) (ls : Array Slot) (ce9 sl9 : Nat), ce9 ≤ 601024 → sl9 ≤ 7293034 → va_S Ar s.heap H locs → W p l e room_1 s m args below meth cd H locs ce9 sl9 Q (F0 m 1303 ls [])) :
    ∀ fu j, j ≤ 512 → 513 ≤ j + fu → LH p l e s m args below meth cd Q G Ar b9 xa so oa b ce a hh A j := by
  intro fu
  induction fu with
  | zero => intro j h1 h2; exact absurd h2 (by omega)
  | succ fu ih =>
    intro j hj5 hfu H locs ws hI hP hD hS ls hl
    obtain ⟨hx, hb, hml, hown, hts, hfl, ⟨hK, hN, hX, hZ0⟩, hA, hXs, hbl, hbA⟩ := id hE
    refine lv_iload hx hb dL_law_23 (lv_at hl 4 rfl) ?_
    refine lv_aload_n hx hb dL_law_25 rfl (lv_at hl 0 rfl) ?_
    refine va_slen hx hb hXs hbl hbA hS dL_law_26 ?_
    refine lv_iconst (v := nI 4) hx hb dL_law_27 (by decide) ?_
    refine lv_isub hx hb dL_law_28 ?_
    refine lv_icmp_gt (tgt := 1303) hx hb dL_law_29 (by decide) (fun c_29 => ?_) (fun c_29 => ?_)
    · exact hEnd H locs ls _ _ (by omega) (by omega) hS
    · have hj : 4 * j + 4 ≤ L := by
        rcases Nat.lt_or_ge L 4 with q | q
        · refine absurd ?_ c_29
          have h1 : nI L - nI 4 < 0 := pk_sneg (by omega) q
          have h0 : (0 : Int32).toInt = 0 := rfl
          show nI L - nI 4 < nI (4 * j)
          rw [Int32.lt_iff_toInt_lt] at h1 ⊢
          rw [nI_toInt (show 4 * j < 2 ^ 31 by omega)]
          omega
        · have e : Int32.ofNat L - nI 4 = nI (L - 4) := pk_sub q
          rw [e] at c_29
          have q2 : ¬ L - 4 < 4 * j := fun z => c_29 (nI_lt z (by omega))
          omega
      have hHd := ih (j + 1) (by omega) (by omega)
      obtain ⟨og, sg, ln, mk, cs, up, fo, tn, w, t, lo, hi, me, nn, qu, gu, ri, re, P, F, z, o0, o1, th, dg, f, sl, ik, sv, pl, hws, hln, hz, hRG, hcen, hHI, hs0, hs1⟩ := hI
      subst hws
      obtain ⟨n, en, hRS⟩ := hRG
      have en : nn = nI n := en
      subst en
      have hRS : RS j fo tn w t lo hi me n qu gu ri re f := hRS
      have hcv : cenV (qS tn lo hi me n) mk cs up := hcen n hRS.1.1 rfl
      refine lv_aload_n hx hb dL_law_32 rfl (lv_at hl 0 rfl) ?_
      refine lv_iload hx hb dL_law_33 (lv_at hl 4 rfl) ?_
      refine va_sld hx hb hXs hbl hbA hS (vp_in_nI (by omega) (by omega)) dL_law_35 ?_
      refine lv_bipush (v := nI 31) hx hb dL_law_36 (by decide) ?_
      refine lv_iand hx hb dL_law_38 ?_
      obtain ⟨v, hv, ev⟩ := pk_andE (xs (nI (4 * j)).toNatClampNeg) (m := nI 31) 5 (by decide)
      refine lv_cgi (y := nI v) ev ?_
      match v, hv with
      | 0, _ => refine lv_tableIn (off := 113) (tgt := 152) hx hb dL_law_39 (by decide) (by decide) (by decide) (by decide) ?_; exact D_fold hE hj hL hHd og sg ln hln mk cs up fo tn w t lo hi me n qu gu ri re P F z hz o0 o1 th dg f sl ik sv pl hRS hcv hHI hs0 hs1 hP hD hS hl
      | 1, _ => refine lv_tableIn (off := 169) (tgt := 208) hx hb dL_law_39 (by decide) (by decide) (by decide) (by decide) ?_; exact D_move hE hj hL hHd og sg ln hln mk cs up fo tn w t lo hi me n qu gu ri re P F z hz o0 o1 th dg f sl ik sv pl hRS hcv hHI hs0 hs1 hP hD hS hl
      | 2, _ => refine lv_tableIn (off := 237) (tgt := 276) hx hb dL_law_39 (by decide) (by decide) (by decide) (by decide) ?_; exact D_pull hE hj hL hHd og sg ln hln mk cs up fo tn w t lo hi me n qu gu ri re P F z hz o0 o1 th dg f sl ik sv pl hRS hcv hHI hs0 hs1 hP hD hS hl
      | 3, _ => refine lv_tableIn (off := 293) (tgt := 332) hx hb dL_law_39 (by decide) (by decide) (by decide) (by decide) ?_; exact D_renew hE hj hL hHd og sg ln hln mk cs up fo tn w t lo hi me n qu gu ri re P F z hz o0 o1 th dg f sl ik sv pl hRS hcv hHI hs0 hs1 hP hD hS hl
      | 4, _ => refine lv_tableIn (off := 306) (tgt := 345) hx hb dL_law_39 (by decide) (by decide) (by decide) (by decide) ?_; exact D_ask hE hj hL hHd og sg ln hln mk cs up fo tn w t lo hi me n qu gu ri re P F z hz o0 o1 th dg f sl ik sv pl hRS hcv hHI hs0 hs1 hP hD hS hl
      | 5, _ => refine lv_tableIn (off := 374) (tgt := 413) hx hb dL_law_39 (by decide) (by decide) (by decide) (by decide) ?_; exact D_guess hE hj hL hHd og sg ln hln mk cs up fo tn w t lo hi me n qu gu ri re P F z hz o0 o1 th dg f sl ik sv pl hRS hcv hHI hs0 hs1 hP hD hS hl
      | 6, _ => refine lv_tableIn (off := 430) (tgt := 469) hx hb dL_law_39 (by decide) (by decide) (by decide) (by decide) ?_; exact D_forget hE hj hL hHd og sg ln hln mk cs up fo tn w t lo hi me n qu gu ri re P F z hz o0 o1 th dg f sl ik sv pl hRS hcv hHI hs0 hs1 hP hD hS hl
      | 7, _ => refine lv_tableIn (off := 443) (tgt := 482) hx hb dL_law_39 (by decide) (by decide) (by decide) (by decide) ?_; exact D_append hE hj hL hHd og sg ln hln mk cs up fo tn w t lo hi me n qu gu ri re P F z hz o0 o1 th dg f sl ik sv pl hRS hcv hHI hs0 hs1 hP hD hS hl
      | 8, _ => refine lv_tableIn (off := 499) (tgt := 538) hx hb dL_law_39 (by decide) (by decide) (by decide) (by decide) ?_; exact D_clearBuffer hE hj hL hHd og sg ln hln mk cs up fo tn w t lo hi me n qu gu ri re P F z hz o0 o1 th dg f sl ik sv pl hRS hcv hHI hs0 hs1 hP hD hS hl
      | 9, _ => refine lv_tableIn (off := 512) (tgt := 551) hx hb dL_law_39 (by decide) (by decide) (by decide) (by decide) ?_; exact D_firstError hE hj hL hHd og sg ln hln mk cs up fo tn w t lo hi me n qu gu ri re P F z hz o0 o1 th dg f sl ik sv pl hRS hcv hHI hs0 hs1 hP hD hS hl
      | 10, _ => refine lv_tableIn (off := 525) (tgt := 564) hx hb dL_law_39 (by decide) (by decide) (by decide) (by decide) ?_; exact D_load hE hj hL hHd og sg ln hln mk cs up fo tn w t lo hi me n qu gu ri re P F z hz o0 o1 th dg f sl ik sv pl hRS hcv hHI hs0 hs1 hP hD hS hl
      | 11, _ => refine lv_tableIn (off := 569) (tgt := 608) hx hb dL_law_39 (by decide) (by decide) (by decide) (by decide) ?_; exact D_keep hE hj hL hHd og sg ln hln mk cs up fo tn w t lo hi me n qu gu ri re P F z hz o0 o1 th dg f sl ik sv pl hRS hcv hHI hs0 hs1 hP hD hS hl
      | 12, _ => refine lv_tableIn (off := 625) (tgt := 664) hx hb dL_law_39 (by decide) (by decide) (by decide) (by decide) ?_; exact D_goBack hE hj hL hHd og sg ln hln mk cs up fo tn w t lo hi me n qu gu ri re P F z hz o0 o1 th dg f sl ik sv pl hRS hcv hHI hs0 hs1 hP hD hS hl
      | 13, _ => refine lv_tableIn (off := 681) (tgt := 720) hx hb dL_law_39 (by decide) (by decide) (by decide) (by decide) ?_; exact D_undo hE hj hL hHd og sg ln hln mk cs up fo tn w t lo hi me n qu gu ri re P F z hz o0 o1 th dg f sl ik sv pl hRS hcv hHI hs0 hs1 hP hD hS hl
      | 14, _ => refine lv_tableIn (off := 725) (tgt := 764) hx hb dL_law_39 (by decide) (by decide) (by decide) (by decide) ?_; exact D_panelOf hE hj hL hHd og sg ln hln mk cs up fo tn w t lo hi me n qu gu ri re P F z hz o0 o1 th dg f sl ik sv pl hRS hcv hHI hs0 hs1 hP hD hS hl
      | 15, _ => refine lv_tableIn (off := 793) (tgt := 832) hx hb dL_law_39 (by decide) (by decide) (by decide) (by decide) ?_; exact D_creaseOf hE hj hL hHd og sg ln hln mk cs up fo tn w t lo hi me n qu gu ri re P F z hz o0 o1 th dg f sl ik sv pl hRS hcv hHI hs0 hs1 hP hD hS hl
      | 16, _ => refine lv_tableIn (off := 861) (tgt := 900) hx hb dL_law_39 (by decide) (by decide) (by decide) (by decide) ?_; exact D_between hE hj hL hHd og sg ln hln mk cs up fo tn w t lo hi me n qu gu ri re P F z hz o0 o1 th dg f sl ik sv pl hRS hcv hHI hs0 hs1 hP hD hS hl
      | 17, _ => refine lv_tableIn (off := 941) (tgt := 980) hx hb dL_law_39 (by decide) (by decide) (by decide) (by decide) ?_; exact D_town hE hj hL hHd og sg ln hln mk cs up fo tn w t lo hi me n qu gu ri re P F z hz o0 o1 th dg f sl ik sv pl hRS hcv hHI hs0 hs1 hP hD hS hl
      | 18, _ => refine lv_tableIn (off := 997) (tgt := 1036) hx hb dL_law_39 (by decide) (by decide) (by decide) (by decide) ?_; exact D_count hE hj hL hHd og sg ln hln mk cs up fo tn w t lo hi me n qu gu ri re P F z hz o0 o1 th dg f sl ik sv pl hRS hcv hHI hs0 hs1 hP hD hS hl
      | 19, _ => refine lv_tableIn (off := 1053) (tgt := 1092) hx hb dL_law_39 (by decide) (by decide) (by decide) (by decide) ?_; exact D_ifTouching hE hj hL hHd og sg ln hln mk cs up fo tn w t lo hi me n qu gu ri re P F z hz o0 o1 th dg f sl ik sv pl hRS hcv hHI hs0 hs1 hP hD hS hl
      | 20, _ => refine lv_tableIn (off := 1121) (tgt := 1160) hx hb dL_law_39 (by decide) (by decide) (by decide) (by decide) ?_; exact D_bestQuestion hE hj hL hHd og sg ln hln mk cs up fo tn w t lo hi me n qu gu ri re P F z hz o0 o1 th dg f sl ik sv pl hRS hcv hHI hs0 hs1 hP hD hS hl
      | 21, _ => refine lv_tableIn (off := 1134) (tgt := 1173) hx hb dL_law_39 (by decide) (by decide) (by decide) (by decide) ?_; exact D_folding hE hj hL hHd og sg ln hln mk cs up fo tn w t lo hi me n qu gu ri re P F z hz o0 o1 th dg f sl ik sv pl hRS hcv hHI hs0 hs1 hP hD hS hl
      | 22, _ => refine lv_tableIn (off := 1190) (tgt := 1229) hx hb dL_law_39 (by decide) (by decide) (by decide) (by decide) ?_; exact D_weakest hE hj hL hHd og sg ln hln mk cs up fo tn w t lo hi me n qu gu ri re P F z hz o0 o1 th dg f sl ik sv pl hRS hcv hHI hs0 hs1 hP hD hS hl
      | 23, _ => refine lv_tableIn (off := 1203) (tgt := 1242) hx hb dL_law_39 (by decide) (by decide) (by decide) (by decide) ?_; exact D_sureShare hE hj hL hHd og sg ln hln mk cs up fo tn w t lo hi me n qu gu ri re P F z hz o0 o1 th dg f sl ik sv pl hRS hcv hHI hs0 hs1 hP hD hS hl
      | 24, _ => refine lv_tableIn (off := 1244) (tgt := 1283) hx hb dL_law_39 (by decide) (by decide) (by decide) (by decide) ?_; exact D_digest hE hj hL hHd og sg ln hln mk cs up fo tn w t lo hi me n qu gu ri re P F z hz o0 o1 th dg f sl ik sv pl hRS hcv hHI hs0 hs1 hP hD hS hl
      | 25, _ => refine lv_tableOut (tgt := 1297) hx hb dL_law_39 (by decide) (by decide) ?_; exact D_idle hE hj hL hHd og sg ln hln mk cs up fo tn w t lo hi me n qu gu ri re P F z hz o0 o1 th dg f sl ik sv pl hRS hcv hHI hs0 hs1 hP hD hS hl
      | 26, _ => refine lv_tableOut (tgt := 1297) hx hb dL_law_39 (by decide) (by decide) ?_; exact D_idle hE hj hL hHd og sg ln hln mk cs up fo tn w t lo hi me n qu gu ri re P F z hz o0 o1 th dg f sl ik sv pl hRS hcv hHI hs0 hs1 hP hD hS hl
      | 27, _ => refine lv_tableOut (tgt := 1297) hx hb dL_law_39 (by decide) (by decide) ?_; exact D_idle hE hj hL hHd og sg ln hln mk cs up fo tn w t lo hi me n qu gu ri re P F z hz o0 o1 th dg f sl ik sv pl hRS hcv hHI hs0 hs1 hP hD hS hl
      | 28, _ => refine lv_tableOut (tgt := 1297) hx hb dL_law_39 (by decide) (by decide) ?_; exact D_idle hE hj hL hHd og sg ln hln mk cs up fo tn w t lo hi me n qu gu ri re P F z hz o0 o1 th dg f sl ik sv pl hRS hcv hHI hs0 hs1 hP hD hS hl
      | 29, _ => refine lv_tableOut (tgt := 1297) hx hb dL_law_39 (by decide) (by decide) ?_; exact D_idle hE hj hL hHd og sg ln hln mk cs up fo tn w t lo hi me n qu gu ri re P F z hz o0 o1 th dg f sl ik sv pl hRS hcv hHI hs0 hs1 hP hD hS hl
      | 30, _ => refine lv_tableOut (tgt := 1297) hx hb dL_law_39 (by decide) (by decide) ?_; exact D_idle hE hj hL hHd og sg ln hln mk cs up fo tn w t lo hi me n qu gu ri re P F z hz o0 o1 th dg f sl ik sv pl hRS hcv hHI hs0 hs1 hP hD hS hl
      | 31, _ => refine lv_tableOut (tgt := 1297) hx hb dL_law_39 (by decide) (by decide) ?_; exact D_idle hE hj hL hHd og sg ln hln mk cs up fo tn w t lo hi me n qu gu ri re P F z hz o0 o1 th dg f sl ik sv pl hRS hcv hHI hs0 hs1 hP hD hS hl
      | k + 32, hk => exact absurd hk (by omega)

/-! WHAT THE START GIVES -/
set_option maxRecDepth 100000 in
set_option maxHeartbeats 4000000 in
theorem st_KK {args : Array Value} {s : State} (hts : ∀ w ∈ lw_tbl, w.before args s = true) : ∃ G : GG, KK G s := by
  have hl : ∀ w ∈ wsL_law, w.before args s = true := fun w h => hts w (wsL_law_in w h)
  obtain ⟨c0, i0, k0⟩ := u_known (C := RX0) (T := TX0) (N := 4) (n := 4) hl (fun w h => List.mem_append_left _ (List.mem_append_left _ (List.mem_append_left _ ((fun _ h => List.mem_append_left _ (List.mem_append_right _ (h))) w h)))) (hts (.instantiable RX0 4) (List.mem_append_right _ (List.mem_of_getElem? (i := 33) (by decide +kernel))))
  obtain ⟨c1, i1, k1⟩ := u_known (C := RX1) (T := TX1) (N := 3) (n := 3) hl (fun w h => List.mem_append_left _ (List.mem_append_left _ (List.mem_append_left _ ((fun _ h => List.mem_append_left _ (List.mem_append_left _ (List.mem_append_right _ (h)))) w h)))) (hts (.instantiable RX1 3) (List.mem_append_right _ (List.mem_of_getElem? (i := 125) (by decide +kernel))))
  obtain ⟨c2, i2, k2⟩ := u_known (C := RX2) (T := TX2) (N := 2) (n := 2) hl (fun w h => List.mem_append_left _ (List.mem_append_left _ (List.mem_append_left _ ((fun _ h => List.mem_append_left _ (List.mem_append_left _ (List.mem_append_left _ (List.mem_append_left _ (List.mem_append_right _ (h)))))) w h)))) (hts (.instantiable RX2 2) (List.mem_append_right _ (List.mem_of_getElem? (i := 93) (by decide +kernel))))
  obtain ⟨c3, i3, k3⟩ := u_known (C := RX4) (T := TX4) (N := 2) (n := 2) hl (fun w h => List.mem_append_left _ (List.mem_append_left _ (List.mem_append_left _ ((fun _ h => List.mem_append_left _ (List.mem_append_left _ (List.mem_append_left _ (List.mem_append_right _ (h))))) w h)))) (hts (.instantiable RX4 2) (List.mem_append_right _ (List.mem_of_getElem? (i := 110) (by decide +kernel))))
  obtain ⟨c4, i4, k4⟩ := u_known (C := RX5) (T := TX5) (N := 9) (n := 9) hl (fun w h => List.mem_append_left _ (List.mem_append_left _ (List.mem_append_left _ ((fun _ h => List.mem_append_left _ (List.mem_append_left _ (List.mem_append_left _ (List.mem_append_left _ (List.mem_append_left _ (List.mem_append_right _ (h))))))) w h)))) (hts (.instantiable RX5 9) (List.mem_append_right _ (List.mem_of_getElem? (i := 27) (by decide +kernel))))
  obtain ⟨c5, i5, k5⟩ := u_known (C := RX6) (T := TX6) (N := 5) (n := 5) hl (fun w h => List.mem_append_left _ (List.mem_append_left _ (List.mem_append_left _ ((fun _ h => List.mem_append_left _ (List.mem_append_left _ (List.mem_append_left _ (List.mem_append_left _ (List.mem_append_left _ (List.mem_append_left _ (List.mem_append_left _ (List.mem_append_right _ (h))))))))) w h)))) (hts (.instantiable RX6 5) (List.mem_append_right _ (List.mem_of_getElem? (i := 19) (by decide +kernel))))
  obtain ⟨c6, i6, k6⟩ := u_known (C := RX7) (T := TX7) (N := 10) (n := 10) hl (fun w h => List.mem_append_left _ (List.mem_append_left _ (List.mem_append_left _ ((fun _ h => List.mem_append_left _ (List.mem_append_left _ (List.mem_append_left _ (List.mem_append_left _ (List.mem_append_left _ (List.mem_append_left _ (List.mem_append_right _ (h)))))))) w h)))) (hts (.instantiable RX7 10) (List.mem_append_right _ (List.mem_of_getElem? (i := 653) (by decide +kernel))))
  obtain ⟨cA, kA, pA, aA1, aA2, aA3⟩ := Cond.arrayClass_spec (hts (.arrayClass .int) (List.mem_append_right _ (List.mem_of_getElem? (i := 52) (by decide +kernel))))
  obtain ⟨cB, kB, pB, aB1, aB2, aB3⟩ := Cond.arrayClass_spec (hts (.arrayClass .boolean) (List.mem_append_right _ (List.mem_of_getElem? (i := 689) (by decide +kernel))))
  obtain ⟨cL, kL, pL, aL1, aL2, aL3⟩ := Cond.arrayClass_spec (hts (.arrayClass .long) (List.mem_append_right _ (List.mem_of_getElem? (i := 932) (by decide +kernel))))
  obtain ⟨pS, cS, kS, s1, s2, s3, s4, s5⟩ := Cond.arrayOver_spec (hts (.arrayOver (.object RX5)) (List.mem_append_right _ (List.mem_of_getElem? (i := 99) (by decide +kernel))))
  refine ⟨((fun k => match k with | 0 => c0 | 1 => c1 | 2 => c2 | 3 => c3 | 4 => c4 | 5 => c5 | _ => c6, fun k => match k with | 0 => i0 | 1 => i1 | 2 => i2 | 3 => i3 | 4 => i4 | 5 => i5 | _ => i6), cA, cB, cS, cL), ?_, ?_⟩
  · intro c q hq
    match c, hq with
    | 0, hq => cases hq; exact k0
    | 1, hq => cases hq; exact k1
    | 2, hq => cases hq; exact k2
    | 3, hq => cases hq; exact k3
    | 4, hq => cases hq; exact k4
    | 5, hq => cases hq; exact k5
    | 6, hq => cases hq; exact k6
    | k + 7, hq => simp [vwCl] at hq
  · intro k q hq
    match k, hq with
    | 0, hq => cases hq; exact ⟨fun n z => ⟨fun k h => (by cases h), kA, aA2, pA, aA3⟩, aA1⟩
    | 1, hq => cases hq; exact ⟨fun n z => ⟨fun k h => (by cases h), kB, aB2, pB, aB3⟩, aB1⟩
    | 2, hq => cases hq; exact ⟨fun n z => ⟨fun k h => (by cases h), kS, s3, pS, s4⟩, kS, pS, s3, s4, s1, s5⟩
    | 3, hq => cases hq; exact ⟨fun n z => ⟨fun k h => (by cases h), kL, aL2, pL, aL3⟩, aL1⟩
    | k + 4, hq => simp [TY] at hq
set_option maxRecDepth 100000 in
theorem st_NW {args : Array Value} {s : State} (hts : ∀ w ∈ lw_tbl, w.before args s = true) : NW s :=
  ⟨va_Nw.of rfl (hts (.methodLinkNest RX5 20 yX0_init RX6) (List.mem_append_right _ (List.mem_of_getElem? (i := 34) (by decide +kernel)))), va_Nw.of rfl (hts (.methodLinkNest RX6 29 yX4_init RX6) (List.mem_append_right _ (List.mem_of_getElem? (i := 111) (by decide +kernel)))), va_Nw.of rfl (hts (.methodLinkNest RX6 36 yX1_init RX6) (List.mem_append_right _ (List.mem_of_getElem? (i := 126) (by decide +kernel)))), va_Nw.of rfl (hts (.methodLinkNest RX1 44 yX6_bit RX6) (List.mem_append_right _ (List.mem_of_getElem? (i := 442) (by decide +kernel)))), va_Nw.of rfl (hts (.methodLinkNest RX5 32 yX6_has RX6) (List.mem_append_right _ (List.mem_of_getElem? (i := 511) (by decide +kernel)))), va_AO.of (hts (.arrayOver (.object RX5)) (List.mem_append_right _ (List.mem_of_getElem? (i := 99) (by decide +kernel))))⟩
theorem str_at {args : Array Value} {s : State} {k : Nat} {tx : String} (h1 : (Cond.stringRef RX6 k tx).before args s = true) (h2 : (Cond.exactly (.string RX6 k) "java/lang/String").before args s = true) : ∃ a, vk_R RX6 k tx a s := by
  obtain ⟨a, c, cell, k', h, -⟩ := Cond.exactly_spec h2
  exact ⟨a, vk_R.of h1 h⟩
set_option maxRecDepth 100000 in
set_option maxHeartbeats 4000000 in
theorem st_XN {args : Array Value} {s : State} (hts : ∀ w ∈ lw_tbl, w.before args s = true) (hgv : (Jvm.Cond.and given_1 narrow_1).before args s = true) : XN s := by
  have hg := flat_of_before _ hgv
  refine ⟨⟨va_Nw.of rfl (hts (.castable IOO IOO) (List.mem_append_right _ (List.mem_of_getElem? (i := 407) (by decide +kernel)))), va_Nw.of rfl (hts (.castable IAE IAE) (List.mem_append_right _ (List.mem_of_getElem? (i := 316) (by decide +kernel)))), va_Nw.of rfl (hts (.castable ISE ISE) (List.mem_append_right _ (List.mem_of_getElem? (i := 547) (by decide +kernel))))⟩, ⟨va_Nc.of (hg (.not (.castable IAE IOO)) (by decide +kernel)), va_Nc.of (hg (.not (.castable ISE IAE)) (by decide +kernel)), va_Nw.of rfl (hts (.declares (Bundle.initS "java/lang/RuntimeException")) (List.mem_append_right _ (List.mem_of_getElem? (i := 318) (by decide +kernel)))), va_Nw.of rfl (hts (.declares (Bundle.initS "java/lang/Exception")) (List.mem_append_right _ (List.mem_of_getElem? (i := 320) (by decide +kernel)))), va_Nw.of rfl (hts (.declares (Bundle.initS Bundle.tN)) (List.mem_append_right _ (List.mem_of_getElem? (i := 322) (by decide +kernel))))⟩, ?_⟩
  intro q hq
  simp only [sRs, List.mem_cons, List.not_mem_nil, or_false] at hq
  rcases hq with rfl | rfl | rfl | rfl | rfl | rfl | rfl | rfl | rfl | rfl | rfl | rfl | rfl | rfl
  · exact str_at (hts (.stringRef RX6 75 "no such panel") (List.mem_append_right _ (List.mem_of_getElem? (i := 414) (by decide +kernel)))) (hg (.exactly (.string RX6 75) "java/lang/String") (by decide +kernel))
  · exact str_at (hts (.stringRef RX6 93 "strength is out of range") (List.mem_append_right _ (List.mem_of_getElem? (i := 506) (by decide +kernel)))) (hg (.exactly (.string RX6 93) "java/lang/String") (by decide +kernel))
  · exact str_at (hts (.stringRef RX6 130 "folding is out of range") (List.mem_append_right _ (List.mem_of_getElem? (i := 535) (by decide +kernel)))) (hg (.exactly (.string RX6 130) "java/lang/String") (by decide +kernel))
  · exact str_at (hts (.stringRef RX6 138 "no such character") (List.mem_append_right _ (List.mem_of_getElem? (i := 544) (by decide +kernel)))) (hg (.exactly (.string RX6 138) "java/lang/String") (by decide +kernel))
  · exact str_at (hts (.stringRef RX6 145 "the buffer is full") (List.mem_append_right _ (List.mem_of_getElem? (i := 554) (by decide +kernel)))) (hg (.exactly (.string RX6 145) "java/lang/String") (by decide +kernel))
  · exact str_at (hts (.stringRef RX6 158 "the buffer does not tell a map") (List.mem_append_right _ (List.mem_of_getElem? (i := 577) (by decide +kernel)))) (hg (.exactly (.string RX6 158) "java/lang/String") (by decide +kernel))
  · exact str_at (hts (.stringRef RX6 173 "no snapshot in the slot") (List.mem_append_right _ (List.mem_of_getElem? (i := 605) (by decide +kernel)))) (hg (.exactly (.string RX6 173) "java/lang/String") (by decide +kernel))
  · exact str_at (hts (.stringRef RX6 176 "no saved state") (List.mem_append_right _ (List.mem_of_getElem? (i := 613) (by decide +kernel)))) (hg (.exactly (.string RX6 176) "java/lang/String") (by decide +kernel))
  · exact str_at (hts (.stringRef RX6 234 "rank is below 0") (List.mem_append_right _ (List.mem_of_getElem? (i := 462) (by decide +kernel)))) (hg (.exactly (.string RX6 234) "java/lang/String") (by decide +kernel))
  · exact str_at (hts (.stringRef RX6 301 "no such crease") (List.mem_append_right _ (List.mem_of_getElem? (i := 437) (by decide +kernel)))) (hg (.exactly (.string RX6 301) "java/lang/String") (by decide +kernel))
  · exact str_at (hts (.stringRef RX6 303 "no such town") (List.mem_append_right _ (List.mem_of_getElem? (i := 454) (by decide +kernel)))) (hg (.exactly (.string RX6 303) "java/lang/String") (by decide +kernel))
  · exact str_at (hts (.stringRef RX6 305 "both towns are the same") (List.mem_append_right _ (List.mem_of_getElem? (i := 523) (by decide +kernel)))) (hg (.exactly (.string RX6 305) "java/lang/String") (by decide +kernel))
  · exact str_at (hts (.stringRef RX6 307 "what is out of range") (List.mem_append_right _ (List.mem_of_getElem? (i := 355) (by decide +kernel)))) (hg (.exactly (.string RX6 307) "java/lang/String") (by decide +kernel))
  · exact str_at (hts (.stringRef RX6 309 "slot is out of range") (List.mem_append_right _ (List.mem_of_getElem? (i := 596) (by decide +kernel)))) (hg (.exactly (.string RX6 309) "java/lang/String") (by decide +kernel))
set_option maxRecDepth 100000 in
theorem st_XZ {args : Array Value} {s : State} {A : Nat → Prop} (hts : ∀ w ∈ lw_tbl, w.before args s = true) (hgv : (Jvm.Cond.and given_1 narrow_1).before args s = true) (hA : ∀ a : Nat, a < s.heap.size → ¬ A a) : XZ A s s.heap := by
  have hg := flat_of_before _ hgv
  exact ⟨vx_Zqof (hts (.laysStatic Bundle.tN "UNASSIGNED_STACK" Bundle.steD) (List.mem_append_right _ (List.mem_of_getElem? (i := 341) (by decide +kernel)))) (hts (.initialized Bundle.tN) (List.mem_append_right _ (List.mem_of_getElem? (i := 8) (by decide +kernel)))) (hg (.isRef (.static Bundle.tN "UNASSIGNED_STACK" Bundle.steD)) (by decide +kernel)) hA, vx_Zqof (hts (.laysStatic Bundle.tN "SUPPRESSED_SENTINEL" Bundle.listD) (List.mem_append_right _ (List.mem_of_getElem? (i := 343) (by decide +kernel)))) (hts (.initialized Bundle.tN) (List.mem_append_right _ (List.mem_of_getElem? (i := 8) (by decide +kernel)))) (hg (.isRef (.static Bundle.tN "SUPPRESSED_SENTINEL" Bundle.listD)) (by decide +kernel)) hA⟩
theorem st_fl {l : Launch} (h : l.flags = flags0) : l.stackTraces = false := by
  unfold Launch.stackTraces
  rw [h]
  decide +kernel

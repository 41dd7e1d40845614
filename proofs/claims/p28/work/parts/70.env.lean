/-! WHAT THE START GIVES -/
set_option maxRecDepth 100000 in
set_option maxHeartbeats 4000000 in
theorem st_KK {args : Array Value} {s : State} (hts : ∀ w ∈ lw_tbl, w.before args s = true) : ∃ G : GG, KK G s := by
  have hl : ∀ w ∈ wsL_law, w.before args s = true := fun w h => hts w (wsL_law_in w h)
  obtain ⟨c0, i0, k0⟩ := u_known (C := RX0) (T := TX0) (N := 4) (n := 4) hl (fun w h => List.mem_append_left _ (List.mem_append_left _ (List.mem_append_left _ ((fun _ h => List.mem_append_left _ (List.mem_append_right _ (h))) w h)))) (hts (.instantiable RX0 4) (List.mem_append_right _ (List.mem_of_getElem? (i := 32) (by decide +kernel))))
  obtain ⟨c1, i1, k1⟩ := u_known (C := RX1) (T := TX1) (N := 3) (n := 3) hl (fun w h => List.mem_append_left _ (List.mem_append_left _ (List.mem_append_left _ ((fun _ h => List.mem_append_left _ (List.mem_append_left _ (List.mem_append_right _ (h)))) w h)))) (hts (.instantiable RX1 3) (List.mem_append_right _ (List.mem_of_getElem? (i := 121) (by decide +kernel))))
  obtain ⟨c2, i2, k2⟩ := u_known (C := RX2) (T := TX2) (N := 2) (n := 2) hl (fun w h => List.mem_append_left _ (List.mem_append_left _ (List.mem_append_left _ ((fun _ h => List.mem_append_left _ (List.mem_append_left _ (List.mem_append_left _ (List.mem_append_left _ (List.mem_append_right _ (h)))))) w h)))) (hts (.instantiable RX2 2) (List.mem_append_right _ (List.mem_of_getElem? (i := 92) (by decide +kernel))))
  obtain ⟨c3, i3, k3⟩ := u_known (C := RX4) (T := TX4) (N := 2) (n := 2) hl (fun w h => List.mem_append_left _ (List.mem_append_left _ (List.mem_append_left _ ((fun _ h => List.mem_append_left _ (List.mem_append_left _ (List.mem_append_left _ (List.mem_append_right _ (h))))) w h)))) (hts (.instantiable RX4 2) (List.mem_append_right _ (List.mem_of_getElem? (i := 109) (by decide +kernel))))
  obtain ⟨c4, i4, k4⟩ := u_known (C := RX5) (T := TX5) (N := 9) (n := 9) hl (fun w h => List.mem_append_left _ (List.mem_append_left _ (List.mem_append_left _ ((fun _ h => List.mem_append_left _ (List.mem_append_left _ (List.mem_append_left _ (List.mem_append_left _ (List.mem_append_left _ (List.mem_append_right _ (h))))))) w h)))) (hts (.instantiable RX5 9) (List.mem_append_right _ (List.mem_of_getElem? (i := 26) (by decide +kernel))))
  obtain ⟨c5, i5, k5⟩ := u_known (C := RX6) (T := TX6) (N := 5) (n := 5) hl (fun w h => List.mem_append_left _ (List.mem_append_left _ (List.mem_append_left _ ((fun _ h => List.mem_append_left _ (List.mem_append_left _ (List.mem_append_left _ (List.mem_append_left _ (List.mem_append_left _ (List.mem_append_left _ (List.mem_append_right _ (h)))))))) w h)))) (hts (.instantiable RX6 5) (List.mem_append_right _ (List.mem_of_getElem? (i := 18) (by decide +kernel))))
  obtain ⟨cA, kA, pA, aA1, aA2, aA3⟩ := Cond.arrayClass_spec (hts (.arrayClass .int) (List.mem_append_right _ (List.mem_of_getElem? (i := 51) (by decide +kernel))))
  obtain ⟨pS, cS, kS, s1, s2, s3, s4, s5⟩ := Cond.arrayOver_spec (hts (.arrayOver (.object RX5)) (List.mem_append_right _ (List.mem_of_getElem? (i := 98) (by decide +kernel))))
  refine ⟨((fun k => match k with | 0 => c0 | 1 => c1 | 2 => c2 | 3 => c3 | 4 => c4 | _ => c5, fun k => match k with | 0 => i0 | 1 => i1 | 2 => i2 | 3 => i3 | 4 => i4 | _ => i5), cA, cA, cS, cA), ?_, ?_⟩
  · intro c q hq
    match c, hq with
    | 0, hq => cases hq; exact k0
    | 1, hq => cases hq; exact k1
    | 2, hq => cases hq; exact k2
    | 3, hq => cases hq; exact k3
    | 4, hq => cases hq; exact k4
    | 5, hq => cases hq; exact k5
    | k + 6, hq => simp [vwCl] at hq
  · intro k q hq
    match k, hq with
    | 0, hq => cases hq; exact ⟨fun n z => ⟨fun k h => (by cases h), kA, aA2, pA, aA3⟩, aA1⟩
    | 1, hq => cases hq; exact ⟨fun n z => ⟨fun k h => (by cases h), kA, aA2, pA, aA3⟩, aA1⟩
    | 2, hq => cases hq; exact ⟨fun n z => ⟨fun k h => (by cases h), kS, s3, pS, s4⟩, kS, pS, s3, s4, s1, s5⟩
    | 3, hq => cases hq; exact ⟨fun n z => ⟨fun k h => (by cases h), kA, aA2, pA, aA3⟩, aA1⟩
    | k + 4, hq => simp [TY] at hq
set_option maxRecDepth 100000 in
theorem st_NW {args : Array Value} {s : State} (hts : ∀ w ∈ lw_tbl, w.before args s = true) : NW s :=
  ⟨va_Nw.of rfl (hts (.methodLinkNest RX5 20 yX0_init RX6) (List.mem_append_right _ (List.mem_of_getElem? (i := 33) (by decide +kernel)))), va_Nw.of rfl (hts (.methodLinkNest RX6 29 yX4_init RX6) (List.mem_append_right _ (List.mem_of_getElem? (i := 110) (by decide +kernel)))), va_Nw.of rfl (hts (.methodLinkNest RX6 36 yX1_init RX6) (List.mem_append_right _ (List.mem_of_getElem? (i := 122) (by decide +kernel)))), va_Nw.of rfl (hts (.methodLinkNest RX1 44 yX6_bit RX6) (List.mem_append_right _ (List.mem_of_getElem? (i := 373) (by decide +kernel)))), va_Nw.of rfl (hts (.methodLinkNest RX5 32 yX6_has RX6) (List.mem_append_right _ (List.mem_of_getElem? (i := 423) (by decide +kernel)))), va_AO.of (hts (.arrayOver (.object RX5)) (List.mem_append_right _ (List.mem_of_getElem? (i := 98) (by decide +kernel))))⟩

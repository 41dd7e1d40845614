/-! THE START OF THE LAW -/
set_option maxHeartbeats 8000000 in
set_option maxRecDepth 100000 in
theorem whole_start {p : Program} {e : Env} {s : State} {m : MethodId} {below : List Frame} {meth : Method} {c : Code} (l : Launch) (hflags : l.flags = flags0) {b9 L : Nat} {xs : Nat → Int32} (hL : L ≤ 260) (C0 : lw_At p s m meth c b9 L xs) : W p l e room_1 s m #[Value.ref b9] below meth c s.heap [] 0 0 (lw_Z below #[Value.ref b9] s) (entryFrame m ([Value.ref b9] : List Value).toArray 8) := by
  obtain ⟨hx, hb, hr, hml, hown, hts0, hXs, hbl, hlocks, hgv⟩ := id C0
  have hts : ∀ w ∈ wsL_law, w.before #[Value.ref b9] s = true := fun w h => hts0 w (wsL_law_in w h)
  have hown : s.vm.findClass RL = some m.cls := hown
  obtain ⟨Ar, hAr⟩ : ∃ A : Nat → Prop, A = fun q => s.heap.size ≤ q := ⟨_, rfl⟩
  have hA : ∀ q : Nat, s.heap.size ≤ q → Ar q := by rw [hAr]; exact fun _ h => h
  have hlo : ∀ q : Nat, Ar q → s.heap.size ≤ q := by rw [hAr]; exact fun _ h => h
  have hbA : ¬ Ar b9 := fun h => Nat.not_le.mpr hbl (hlo _ h)
  obtain ⟨G, hK⟩ := st_KK hts0
  have hN : NW s := st_NW hts0
  have hE : LE8 p l s m #[Value.ref b9] c G Ar b9 L xs := ⟨hx, hb, hml, hown, hts, ⟨hK, hN⟩, hA, hXs, hbl, hbA⟩
  have hEnd : ∀ (H : Heap) (locs : List Loc) (ls : Array Slot) (ce9 sl9 : Nat), ce9 ≤ 600130 → sl9 ≤ 7301080 → va_S Ar s.heap H locs → lv_has ls 8 [(2, .int (nI 1))] → W p l e room_1 s m #[Value.ref b9] below meth c H locs ce9 sl9 (lw_Z below #[Value.ref b9] s) (F0 m 200 ls []) := by
    intro H locs ls ce9 sl9 h1 h2 hS hl
    refine lv_iload_n hx hb dL_law_200 rfl (lv_at hl 0 rfl) ?_
    refine va_forget (fun q hq => hlo _ (hS.2.2 q hq)) ?_
    refine W.widen (k := 600130) (n := 7301080) h1 h2 ?_
    refine W.base ?_
    exact lw_ret (Drawn.sameBut.refl s.drawn lw_cs) hx hb hr hlocks dL_law_201
  have hS : va_S Ar s.heap s.heap [] := va_S.rf
  have hP : PP G ([] : va_W) s.heap := P_nil
  have hD : va_D Ar ([] : va_W) := ⟨fun i j p q h => by simp at h, fun k q h => by simp at h⟩
  have hl := lv_entry ([.ref b9]) (n := 8) (Nat.le_of_ble_eq_true rfl)
  rw [lg_entry_eq]
  generalize (lg_sl ([.ref b9]) ++ List.replicate (8 - (lg_sl ([.ref b9])).length) Slot.unset).toArray = ls at hl ⊢
  have hl : lv_has ls 8 [(0, .ref b9)] := hl
  refine va_new (D := G.1) (ws := ([] : va_W)) (ci := 5) (fs := [.null, .null, .null, .null, .null]) (C := RX6) (T := TX6) (N := 5) hx hb hts (fun w h => List.mem_append_left _ (List.mem_append_left _ (List.mem_append_left _ ((fun _ h => List.mem_append_left _ (List.mem_append_left _ (List.mem_append_left _ (List.mem_append_left _ (List.mem_append_left _ (List.mem_append_left _ (List.mem_append_right _ (h)))))))) w h)))) tyX6 tyX6_ok hown (hts (.classLink RL 10 RX6) (List.mem_of_getElem? (i := 0) rfl)) (hts (.instantiable RX6 5) (List.mem_of_getElem? (i := 1) rfl)) (hts (.initialized RX6) (List.mem_of_getElem? (i := 2) rfl)) hK hP hD hS hA rfl (fun j hj => by rcases (show j = 0 ∨ j = 1 ∨ j = 2 ∨ j = 3 ∨ j = 4 by omega) with rfl | rfl | rfl | rfl | rfl <;> rfl) (Nat.le_of_ble_eq_true rfl) (Nat.le_of_ble_eq_true rfl) dL_law_0 (fun xa H hP hD hS => ?_)
  have hP : PP G (([] : va_W) ++ [(xa, .inr (5, [.null, .null, .null, .null, .null]))]) H := hP
  have hD : va_D Ar (([] : va_W) ++ [(xa, .inr (5, [.null, .null, .null, .null, .null]))]) := hD
  refine lv_dup hx hb dL_law_3 rfl ?_
  refine wr_g1v (pre := ([] : va_W)) (mid := [(xa, .inr (5, [.null, .null, .null, .null, .null]))]) (va_runI (As := []) (rest := [.ref xa]) ⟨hx, hb, hml, hown, hts⟩ (c_X6_init l G _ xa) (cwI 0 hts gL_law_X6_init rfl rfl rfl (hts (.initialized RX6) (List.mem_of_getElem? (i := 2) rfl)) (hts (.methodLink RL 94 yX6_init) (List.mem_of_getElem? (i := 3) rfl)) (hts (.instanceMethod yX6_init) (List.mem_of_getElem? (i := 4) rfl)) rfl (by decide +kernel) ⟨Nat.le_of_ble_eq_true rfl, Nat.le_of_ble_eq_true rfl⟩) (wS1 (pre := ([] : va_W)) (mid := [(xa, .inr (5, [.null, .null, .null, .null, .null]))]) hK hN hP hD) rfl rfl hl.1 rfl (lv_room (Nat.le_of_ble_eq_true rfl)) dL_law_4 ⟨Nat.le_of_ble_eq_true rfl, Nat.le_of_ble_eq_true rfl⟩) hP hD hS hA (fun u6 H locs ht6 hP9 hD9 hS => ?_)
  obtain ⟨a, hh, so, b, ce, t, P, F⟩ := u6
  have ht6 : ∀ j, j < 6 → t j = nI j := ht6
  have hP : PP G (cT G ((xa, so, b, ce, a, hh) : AD) ((bd 0 0 (fun _ => 0) t (fun _ => 0) (fun _ => 0) (fun _ => 0) 0 0 0 0 0, P, F, 0, none, none) : ZZ) ((fun _ => 0, 0, 0) : CU)) H := hP9
  have hD : va_D Ar (cT G ((xa, so, b, ce, a, hh) : AD) ((bd 0 0 (fun _ => 0) t (fun _ => 0) (fun _ => 0) (fun _ => 0) 0 0 0 0 0, P, F, 0, none, none) : ZZ) ((fun _ => 0, 0, 0) : CU)) := hD9
  have hZ : OKg 0 ((bd 0 0 (fun _ => 0) t (fun _ => 0) (fun _ => 0) (fun _ => 0) 0 0 0 0 0, P, F, 0, none, none) : ZZ).1 := ok_RG (st_RG0 ht6) (PR_n0 rfl)
  have hz : ((bd 0 0 (fun _ => 0) t (fun _ => 0) (fun _ => 0) (fun _ => 0) 0 0 0 0 0, P, F, 0, none, none) : ZZ).2.2.2.1 ≤ 6 := Nat.zero_le 6
  have hu : CV ((bd 0 0 (fun _ => 0) t (fun _ => 0) (fun _ => 0) (fun _ => 0) 0 0 0 0 0, P, F, 0, none, none) : ZZ).1 ((fun _ => 0, 0, 0) : CU) := Or.inl rfl
  obtain ⟨X, hXT⟩ : ∃ X : AD, X = ((xa, so, b, ce, a, hh) : AD) := ⟨_, rfl⟩
  have hxa : xa = X.1 := by rw [hXT]
  rw [← hXT] at hP hD
  obtain ⟨Z, hZT⟩ : ∃ Z : ZZ, Z = ((bd 0 0 (fun _ => 0) t (fun _ => 0) (fun _ => 0) (fun _ => 0) 0 0 0 0 0, P, F, 0, none, none) : ZZ) := ⟨_, rfl⟩
  rw [← hZT] at hP hD hZ hz hu
  obtain ⟨u, huT⟩ : ∃ u : CU, u = ((fun _ => 0, 0, 0) : CU) := ⟨_, rfl⟩
  rw [← huT] at hP hD hu
  have hz0 : Z.2.2.2.1 = 0 := by rw [hZT]
  have hPg := hP
  have hDg := hD
  clear hP9 hD9
  subst hxa
  have hP : PP G (cT G X Z u) _ := hPg
  have hD : va_D Ar (cT G X Z u) := hDg
  refine lv_astore_n (lv' := [(1, .ref X.1), (0, .ref b9)]) hx hb dL_law_7 rfl hl (by decide) rfl (fun ls hl => ?_)
  refine lv_aload_n hx hb dL_law_8 rfl (lv_at hl 0 rfl) ?_
  refine lv_iconst (v := nI 3) hx hb dL_law_9 (by decide) ?_
  refine wr_woi (mid := cT G X Z u) (va_runS (As := [.ref X.1, .int (nI 3)]) (rest := []) ⟨hx, hb, hml, hown, hts⟩ (k_holds l G _ X Z u (B := 0) hZ hz hu (by omega) (nI 3)) (va_cwS 2 hts gL_law_L_holds rfl rfl rfl (by decide +kernel) ⟨Nat.le_of_ble_eq_true rfl, Nat.le_of_ble_eq_true rfl⟩) (wSw (mid := cT G X Z u) hK hN hP hD) rfl rfl hl.1 rfl (lv_room (Nat.le_of_ble_eq_true rfl)) dL_law_10 ⟨by show 0 + 1 + 60 + 2 ≤ 600130; omega, by show 0 + 5 + 1200 + 20 ≤ 7301080; omega⟩) hP hD hS hA (fun r u_1 H locs hw hP9 hD9 hS => ?_)
  obtain ⟨rfl, hvu_1⟩ := hw
  have hP : PP G (cT G X Z u_1) _ := hP9
  have hD : va_D Ar (cT G X Z u_1) := hD9
  refine lv_if_eq (tgt := 29) hx hb dL_law_13 (by decide) (fun c_13 => ?_) (fun c_13 => ?_)
  · exact absurd c_13 (by decide)
  · refine lv_aload_n hx hb dL_law_16 rfl (lv_at hl 0 rfl) ?_
    refine lv_bipush (v := nI 10) hx hb dL_law_17 (by decide) ?_
    refine wr_woi (mid := cT G X Z u_1) (va_runV (As := [.int (nI 10)]) (rest := []) ⟨hx, hb, hml, hown, hts⟩ (k_co10 l G _ X Z u_1 hZ hz hvu_1) (cwV 1 hts gL_law_X6_count rfl rfl rfl (by decide +kernel) ⟨Nat.le_of_ble_eq_true rfl, Nat.le_of_ble_eq_true rfl⟩) (wVw (mid := cT G X Z u_1) (va_recv (ws := cT G X Z u_1) hK hP (ci := 5) (q0 := 0) rfl rfl) hK hN hP hD) rfl rfl hl.1 rfl (lv_room (Nat.le_of_ble_eq_true rfl)) dL_law_19 ⟨by show 0 + 1 + 60 + 2 + 0 ≤ 600130; omega, by show 0 + 5 + 1200 + 20 + 0 ≤ 7301080; omega⟩) hP hD hS hA (fun r u_2 H locs hw hP9 hD9 hS => ?_)
    obtain ⟨rfl, hvu_2⟩ := hw
    have hP : PP G (cT G X Z u_2) _ := hP9
    have hD : va_D Ar (cT G X Z u_2) := hD9
    refine lv_if_ne (tgt := 29) hx hb dL_law_22 (by decide) (fun c_22 => ?_) (fun c_22 => ?_)
    · exact (c_22 (congrArg nI hz0)).elim
    · refine lv_iconst (v := nI 1) hx hb dL_law_25 (by decide) ?_
      refine lv_goto (tgt := 30) hx hb dL_law_26 (by decide) ?_
      refine lv_istore_n (lv' := [(2, .int (nI 1)), (1, .ref X.1), (0, .ref b9)]) hx hb dL_law_30 rfl hl (by decide) rfl (fun ls hl => ?_)
      refine lv_aload_n hx hb dL_law_31 rfl (lv_at hl 2 rfl) ?_
      refine va_slen hx hb hXs hbl hbA hS dL_law_32 ?_
      refine lv_iconst (v := nI 2) hx hb dL_law_33 (by decide) ?_
      refine lv_idiv hx hb dL_law_34 (by decide) ?_
      refine lv_cgi (y := nI (L / 2)) (pk_div (a := L) (d := 2) (by omega) (by omega) (by omega)) ?_
      refine lv_bipush (v := nI 30) hx hb dL_law_35 (by decide) ?_
      have hJ : ∀ T : Nat, T ≤ 30 → W p l e room_1 s m #[Value.ref b9] below meth c H locs (0 + 1 + 60 + 2) (0 + 5 + 1200 + 20) (lw_Z below #[Value.ref b9] s) (F0 m 49 ls [.int (nI T)]) := by
        intro T hT
        refine lv_istore_n (lv' := [(3, .int (nI T)), (0, .ref b9), (1, .ref X.1), (2, .int (nI 1))]) hx hb dL_law_49 rfl (lv_sub hl [2, 1, 0] rfl) (by decide) rfl (fun ls hl => ?_)
        refine lv_iconst (v := nI 0) hx hb dL_law_50 (by decide) ?_
        refine lv_istore (lv' := [(4, .int (nI 0)), (3, .int (nI T)), (0, .ref b9), (1, .ref X.1), (2, .int (nI 1))]) hx hb dL_law_51 hl (by decide) rfl (fun ls hl => ?_)
        refine W.widen (k := 100 + 9 * 0) (n := 2000 + 84 * 0) (Nat.le_of_ble_eq_true rfl) (Nat.le_of_ble_eq_true rfl) ?_
        exact law_loop hE hT hL hEnd 31 0 (by omega) (by omega) H locs Z u_2 hZ hz hvu_2 hP hD hS ls (lv_sub hl [2, 3, 4, 1, 0] rfl)
      refine lv_icmp_le (tgt := 45) hx hb dL_law_37 (by decide) (fun c_37 => ?_) (fun c_37 => ?_)
      · refine lv_aload_n hx hb dL_law_45 rfl (lv_at hl 2 rfl) ?_
        refine va_slen hx hb hXs hbl hbA hS dL_law_46 ?_
        refine lv_iconst (v := nI 2) hx hb dL_law_47 (by decide) ?_
        refine lv_idiv hx hb dL_law_48 (by decide) ?_
        refine lv_cgi (y := nI (L / 2)) (pk_div (a := L) (d := 2) (by omega) (by omega) (by omega)) ?_
        exact hJ (L / 2) (fe c_37 (by omega) (by omega))
      · refine lv_bipush (v := nI 30) hx hb dL_law_40 (by decide) ?_
        refine lv_goto (tgt := 49) hx hb dL_law_42 (by decide) ?_
        exact hJ 30 (by omega)

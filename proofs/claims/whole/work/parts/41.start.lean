/-! THE START OF THE LAW -/
theorem wr_g1v {p : Program} {l : Launch} {e : Env} {R : Room} {s : State} {m : MethodId} {args : Array Value} {below : List Frame} {meth : Method} {c : Code} {H : Heap} {locs : List Loc} {cells slots : Nat} {Q : State → Prop} {pc : Nat} {ls : Array Slot} {rest st0 : List Value} {a : Array Value} {A0 : Nat → Prop} {H0 : Heap} {mc ms : Nat} {G : GG} {S : Type} {post : S → Prop} {out : S → va_W} {pre mid : va_W} (hr : va_Run p l e R s m args below meth c H locs cells slots mc ms (F0 m pc ls st0) rest (wQv G post out (va_A mid H.size) a) (va_A mid H.size))
    (hP : PP G (pre ++ mid) H) (hD : va_D A0 (pre ++ mid)) (hS : va_S A0 H0 H locs) (hA : ∀ q, H0.size ≤ q → A0 q)
    (kk : ∀ (u : S) (H1 : Heap) (locs1 : List Loc), post u → PP G (pre ++ out u) H1 → va_D A0 (pre ++ out u) → va_S A0 H0 H1 locs1 → W p l e R s m args below meth c H1 locs1 (cells + mc) (slots + ms) Q (F0 m (pc + 3) ls rest)) :
    W p l e R s m args below meth c H locs cells slots Q (F0 m pc ls st0) :=
  wr_gov (pre := pre) (mid := mid) (suf := []) hr (by rw [List.append_nil]; exact hP) (by rw [List.append_nil]; exact hD) hS hA (fun u H1 l1 h1 h2 h3 h4 => kk u H1 l1 h1 (by rw [List.append_nil] at h2; exact h2) (by rw [List.append_nil] at h3; exact h3) h4)
theorem st_RG0 {t : Nat → Int32} (ht : ∀ j, j < 6 → t j = nI j) : RG 0 (bd 0 0 (fun _ => 0) t (fun _ => 0) (fun _ => 0) (fun _ => 0) 0 0 0 0 0) (iF 6) := by
  have z : ∀ j, j < 11 ∨ 17 ≤ j → iF 6 j = 0 := fun j hj => if_neg (by omega)
  have v0 : vp_in (0 : Int32) 10 := vp_in_nI (n := 0) (by omega) (by omega)
  refine ⟨0, rfl, ⟨⟨by omega, ⟨0, by omega, rfl⟩, ⟨0, by omega, rfl⟩, (show (0 : Int32) &&& 0 = 0 by decide)⟩, ⟨z 0 (by omega), z 1 (by omega), z 17 (by omega), fun j hj => z _ (by omega), fun j hj => ?_⟩, ⟨fun j hj => ⟨0, Nat.le_refl _, rfl⟩, fun j hj => ?_, fun k hk => ⟨v0, v0⟩, fun k hk => ?_⟩, ⟨fun k hk => absurd hk (Nat.not_lt_zero _), rfl⟩, z 54 (by omega), z 55 (by omega), z 56 (by omega), z 57 (by omega)⟩⟩
  · show iF 6 (11 + j) = t j
    rw [ht j hj]
    unfold iF
    rw [if_pos (by omega), show 11 + j - 11 = j by omega]
  · show vp_in (t j) 10
    rw [ht j hj]
    exact vp_in_nI (by omega) (by omega)
  · unfold an
    rw [z _ (by omega), z _ (by omega)]
    exact ⟨v0, v0⟩
set_option maxHeartbeats 8000000 in
set_option maxRecDepth 100000 in
theorem whole_start {p : Program} {e : Env} {s : State} {m : MethodId} {below : List Frame} {meth : Method} {c : Code} (l : Launch) (hflags : l.flags = flags0) {b9 L : Nat} {xs : Nat → Int32} (hL : L ≤ 2048) (C0 : lw_At p s m meth c b9 L xs) : W p l e room_1 s m #[Value.ref b9] below meth c s.heap [] 0 0 (lw_Z below #[Value.ref b9] s) (entryFrame m ([Value.ref b9] : List Value).toArray 9) := by
  obtain ⟨hx, hb, hr, hml, hown, hts, hXs, hbl, hlocks, hgv⟩ := id C0
  have hts9 : ∀ w ∈ wsL_law, w.before #[Value.ref b9] s = true := fun w h => hts w (wsL_law_in w h)
  have hown : s.vm.findClass RL = some m.cls := hown
  obtain ⟨Ar, hAr⟩ : ∃ A : Nat → Prop, A = fun q => s.heap.size ≤ q := ⟨_, rfl⟩
  have hA : ∀ q : Nat, s.heap.size ≤ q → Ar q := by rw [hAr]; exact fun _ h => h
  have hlo : ∀ q : Nat, Ar q → s.heap.size ≤ q := by rw [hAr]; exact fun _ h => h
  have hbA : ¬ Ar b9 := fun h => Nat.not_le.mpr hbl (hlo _ h)
  obtain ⟨G, hK⟩ := st_KK hts
  have hN : NW s := st_NW hts
  have hE : LE9 p l s m #[Value.ref b9] c G Ar b9 L xs := ⟨hx, hb, hml, hown, hts9, st_fl hflags, ⟨hK, hN, st_XN hts hgv, st_XZ hts hgv (fun a h z => Nat.not_le.mpr h (hlo a z))⟩, hA, hXs, hbl, hbA⟩
  have hEnd : ∀ (H : Heap) (locs : List Loc) (ls : Array Slot) (ce9 sl9 : Nat), ce9 ≤ 601024 → sl9 ≤ 7293034 → va_S Ar s.heap H locs → W p l e room_1 s m #[Value.ref b9] below meth c H locs ce9 sl9 (lw_Z below #[Value.ref b9] s) (F0 m 1303 ls []) := by
    intro H locs ls ce9 sl9 h1 h2 hS
    refine lv_iconst (v := 1) hx hb dL_law_1303 (by decide) ?_
    refine va_forget (fun q hq => hlo _ (hS.2.2 q hq)) ?_
    refine W.widen (k := 601024) (n := 7293034) h1 h2 ?_
    refine W.base ?_
    exact lw_ret (Drawn.sameBut.refl s.drawn lw_cs) hx hb hr hlocks dL_law_1304
  have hS : va_S Ar s.heap s.heap [] := va_S.rf
  have hP : PP G ([] : va_W) s.heap := P_nil
  have hD : va_D Ar ([] : va_W) := ⟨fun i j p q h => by simp at h, fun k q h => by simp at h⟩
  have hl := lv_entry ([.ref b9]) (n := 9) (Nat.le_of_ble_eq_true rfl)
  rw [lg_entry_eq]
  generalize (lg_sl ([.ref b9]) ++ List.replicate (9 - (lg_sl ([.ref b9])).length) Slot.unset).toArray = ls at hl ⊢
  have hl : lv_has ls 9 [(0, .ref b9)] := hl
  refine va_new (D := G.1) (ws := ([] : va_W)) (ci := 5) (fs := [.null, .null, .null, .null, .null]) (C := RX6) (T := TX6) (N := 5) hx hb hts9 (fun w h => List.mem_append_left _ (List.mem_append_left _ (List.mem_append_left _ ((fun _ h => List.mem_append_left _ (List.mem_append_left _ (List.mem_append_left _ (List.mem_append_left _ (List.mem_append_left _ (List.mem_append_left _ (List.mem_append_left _ (List.mem_append_right _ (h))))))))) w h)))) tyX6 tyX6_ok hown (hts (.classLink RL 8 RX6) (List.mem_append_right _ (List.mem_of_getElem? (i := 18) (by decide +kernel)))) (hts (.instantiable RX6 5) (List.mem_append_right _ (List.mem_of_getElem? (i := 19) (by decide +kernel)))) (hts (.initialized RX6) (List.mem_append_right _ (List.mem_of_getElem? (i := 1) (by decide +kernel)))) hK hP hD hS hA rfl (fun j hj => by rcases (show j = 0 ∨ j = 1 ∨ j = 2 ∨ j = 3 ∨ j = 4 by omega) with rfl | rfl | rfl | rfl | rfl <;> rfl) (Nat.le_of_ble_eq_true rfl) (Nat.le_of_ble_eq_true rfl) dL_law_0 (fun xa H hP hD hS => ?_)
  have hP : PP G (([] : va_W) ++ [(xa, .inr (5, [.null, .null, .null, .null, .null]))]) H := hP
  have hD : va_D Ar (([] : va_W) ++ [(xa, .inr (5, [.null, .null, .null, .null, .null]))]) := hD
  refine lv_dup hx hb dL_law_3 rfl ?_
  refine wr_g1v (pre := ([] : va_W)) (mid := [(xa, .inr (5, [.null, .null, .null, .null, .null]))]) (va_runI (As := []) (rest := [.ref xa]) ⟨hx, hb, hml, hown, hts9⟩ (c_X6_init l G _ xa) (cwI 0 hts9 gL_law_X6_init rfl rfl rfl (hts (.initialized RX6) (List.mem_append_right _ (List.mem_of_getElem? (i := 1) (by decide +kernel)))) (hts (.methodLink RL 70 yX6_init) (List.mem_append_right _ (List.mem_of_getElem? (i := 20) (by decide +kernel)))) (hts (.instanceMethod yX6_init) (List.mem_append_right _ (List.mem_of_getElem? (i := 21) (by decide +kernel)))) rfl (by decide +kernel) ⟨Nat.le_of_ble_eq_true rfl, Nat.le_of_ble_eq_true rfl⟩) (wS (pre := ([] : va_W)) (mid := [(xa, .inr (5, [.null, .null, .null, .null, .null]))]) (suf := []) hK hN hP hD) rfl rfl hl.1 rfl (lv_room (Nat.le_of_ble_eq_true rfl)) dL_law_4 ⟨Nat.le_of_ble_eq_true rfl, Nat.le_of_ble_eq_true rfl⟩) hP hD hS hA (fun u6 H locs ht6 hP9 hD9 hS => ?_)
  obtain ⟨a, hh, so, b, ce, t, P, F⟩ := u6
  have ht6 : ∀ j, j < 6 → t j = nI j := ht6
  have hP : PP G (cW G xa so b ce a hh (fun _ => 0) 0 (fun _ => 0) 0 0 0 0 (fun _ => 0) t (fun _ => 0) (fun _ => 0) (fun _ => 0) 0 0 0 0 0 P F 0 none none) H := hP9
  have hD : va_D Ar (cW G xa so b ce a hh (fun _ => 0) 0 (fun _ => 0) 0 0 0 0 (fun _ => 0) t (fun _ => 0) (fun _ => 0) (fun _ => 0) 0 0 0 0 0 P F 0 none none) := hD9
  refine lv_astore_n (lv' := [(1, .ref xa), (0, .ref b9)]) hx hb dL_law_7 rfl hl (by decide) rfl (fun ls hl => ?_)
  refine va_new (D := G.1) (ws := cW G xa so b ce a hh (fun _ => 0) 0 (fun _ => 0) 0 0 0 0 (fun _ => 0) t (fun _ => 0) (fun _ => 0) (fun _ => 0) 0 0 0 0 0 P F 0 none none) (ci := 6) (fs := [.int 0, .null, .null, .null, .null, .int 0, .null, .int 0, .null, .long 0]) (C := RX7) (T := TX7) (N := 10) hx hb hts9 (fun w h => List.mem_append_left _ (List.mem_append_left _ (List.mem_append_left _ ((fun _ h => List.mem_append_left _ (List.mem_append_left _ (List.mem_append_left _ (List.mem_append_left _ (List.mem_append_left _ (List.mem_append_left _ (List.mem_append_right _ (h)))))))) w h)))) tyX7 tyX7_ok hown (hts (.classLink RL 71 RX7) (List.mem_append_right _ (List.mem_of_getElem? (i := 652) (by decide +kernel)))) (hts (.instantiable RX7 10) (List.mem_append_right _ (List.mem_of_getElem? (i := 653) (by decide +kernel)))) (hts (.initialized RX7) (List.mem_append_right _ (List.mem_of_getElem? (i := 7) (by decide +kernel)))) hK hP hD hS hA rfl (fun j hj => by rcases (show j = 0 ∨ j = 1 ∨ j = 2 ∨ j = 3 ∨ j = 4 ∨ j = 5 ∨ j = 6 ∨ j = 7 ∨ j = 8 ∨ j = 9 by omega) with rfl | rfl | rfl | rfl | rfl | rfl | rfl | rfl | rfl | rfl <;> rfl) (Nat.le_of_ble_eq_true rfl) (Nat.le_of_ble_eq_true rfl) dL_law_8 (fun ma H hP hD hS => ?_)
  refine lv_dup hx hb dL_law_11 rfl ?_
  refine wr_g1v (pre := cW G xa so b ce a hh (fun _ => 0) 0 (fun _ => 0) 0 0 0 0 (fun _ => 0) t (fun _ => 0) (fun _ => 0) (fun _ => 0) 0 0 0 0 0 P F 0 none none) (mid := [(ma, .inr (6, [.int 0, .null, .null, .null, .null, .int 0, .null, .int 0, .null, .long 0]))]) (va_runI (As := []) (rest := [.ref ma]) ⟨hx, hb, hml, hown, hts9⟩ (c_X7_init l G _ ma) (cwI 0 hts9 gL_law_X7_init rfl rfl rfl (hts (.initialized RX7) (List.mem_append_right _ (List.mem_of_getElem? (i := 7) (by decide +kernel)))) (hts (.methodLink RL 73 yX7_init) (List.mem_append_right _ (List.mem_of_getElem? (i := 654) (by decide +kernel)))) (hts (.instanceMethod yX7_init) (List.mem_append_right _ (List.mem_of_getElem? (i := 655) (by decide +kernel)))) rfl (by decide +kernel) ⟨Nat.le_of_ble_eq_true rfl, Nat.le_of_ble_eq_true rfl⟩) (wS (pre := cW G xa so b ce a hh (fun _ => 0) 0 (fun _ => 0) 0 0 0 0 (fun _ => 0) t (fun _ => 0) (fun _ => 0) (fun _ => 0) 0 0 0 0 0 P F 0 none none) (mid := [(ma, .inr (6, [.int 0, .null, .null, .null, .null, .int 0, .null, .int 0, .null, .long 0]))]) (suf := []) hK hN hP hD) rfl rfl hl.1 rfl (lv_room (Nat.le_of_ble_eq_true rfl)) dL_law_12 ⟨Nat.le_of_ble_eq_true rfl, Nat.le_of_ble_eq_true rfl⟩) hP hD hS hA (fun A H locs hA0 hP9 hD9 hS => ?_)
  have hA0 : A 0 = ma := hA0
  subst hA0
  have hP : PP G (cW G xa so b ce a hh (fun _ => 0) 0 (fun _ => 0) 0 0 0 0 (fun _ => 0) t (fun _ => 0) (fun _ => 0) (fun _ => 0) 0 0 0 0 0 P F 0 none none ++ mW G A 0 0 0 0 (iF 6) (fun _ => 0) (fun _ => 0) (fun _ => 0) (fun _ => 0) (fun _ => 0)) H := hP9
  have hD : va_D Ar (cW G xa so b ce a hh (fun _ => 0) 0 (fun _ => 0) 0 0 0 0 (fun _ => 0) t (fun _ => 0) (fun _ => 0) (fun _ => 0) 0 0 0 0 0 P F 0 none none ++ mW G A 0 0 0 0 (iF 6) (fun _ => 0) (fun _ => 0) (fun _ => 0) (fun _ => 0) (fun _ => 0)) := hD9
  refine lv_astore_n (lv' := [(2, .ref (A 0)), (1, .ref xa), (0, .ref b9)]) hx hb dL_law_15 rfl hl (by decide) rfl (fun ls hl => ?_)
  refine lv_iconst (v := nI 1) hx hb dL_law_16 (by decide) ?_
  refine va_newa (D := G.1) (ws := cW G xa so b ce a hh (fun _ => 0) 0 (fun _ => 0) 0 0 0 0 (fun _ => 0) t (fun _ => 0) (fun _ => 0) (fun _ => 0) 0 0 0 0 0 P F 0 none none ++ mW G A 0 0 0 0 (iF 6) (fun _ => 0) (fun _ => 0) (fun _ => 0) (fun _ => 0) (fun _ => 0)) (atype := .long) (ty := .long) (N' := 1) (a0 := (1, .inr (.inl (fun _ => 0)))) hx hb (hts (.arrayClass .long) (List.mem_append_right _ (List.mem_of_getElem? (i := 932) (by decide +kernel)))) rfl hK hP hD hS hA (fun _ => rfl) (by decide) (by decide) (Nat.le_of_ble_eq_true rfl) (Nat.le_of_ble_eq_true rfl) (Nat.le_of_ble_eq_true rfl) dL_law_17 (fun oa cA H hK2 hP hD hS => ?_)
  obtain rfl : cA = G.2.2.2.2 := newa_id hK2 3 rfl
  have hpm : ((cW G xa so b ce a hh (fun _ => 0) 0 (fun _ => 0) 0 0 0 0 (fun _ => 0) t (fun _ => 0) (fun _ => 0) (fun _ => 0) 0 0 0 0 0 P F 0 none none ++ mW G A 0 0 0 0 (iF 6) (fun _ => 0) (fun _ => 0) (fun _ => 0) (fun _ => 0) (fun _ => 0)) ++ oW G oa (fun _ => 0)).Perm (mW G A 0 0 0 0 (iF 6) (fun _ => 0) (fun _ => 0) (fun _ => 0) (fun _ => 0) (fun _ => 0) ++ (oW G oa (fun _ => 0) ++ cW G xa so b ce a hh (fun _ => 0) 0 (fun _ => 0) 0 0 0 0 (fun _ => 0) t (fun _ => 0) (fun _ => 0) (fun _ => 0) 0 0 0 0 0 P F 0 none none)) := by
    rw [List.append_assoc, ← List.append_assoc (mW G A 0 0 0 0 (iF 6) (fun _ => 0) (fun _ => 0) (fun _ => 0) (fun _ => 0) (fun _ => 0)) (oW G oa (fun _ => 0)) (cW G xa so b ce a hh (fun _ => 0) 0 (fun _ => 0) 0 0 0 0 (fun _ => 0) t (fun _ => 0) (fun _ => 0) (fun _ => 0) 0 0 0 0 0 P F 0 none none)]
    exact List.perm_append_comm
  have hP : PP G (mW G A 0 0 0 0 (iF 6) (fun _ => 0) (fun _ => 0) (fun _ => 0) (fun _ => 0) (fun _ => 0) ++ (oW G oa (fun _ => 0) ++ cW G xa so b ce a hh (fun _ => 0) 0 (fun _ => 0) 0 0 0 0 (fun _ => 0) t (fun _ => 0) (fun _ => 0) (fun _ => 0) 0 0 0 0 0 P F 0 none none)) H := P_perm (G := G) hP hpm
  have hD : va_D Ar (mW G A 0 0 0 0 (iF 6) (fun _ => 0) (fun _ => 0) (fun _ => 0) (fun _ => 0) (fun _ => 0) ++ (oW G oa (fun _ => 0) ++ cW G xa so b ce a hh (fun _ => 0) 0 (fun _ => 0) 0 0 0 0 (fun _ => 0) t (fun _ => 0) (fun _ => 0) (fun _ => 0) 0 0 0 0 0 P F 0 none none)) := D_perm hD hpm
  refine lv_astore_n (lv' := [(3, .ref oa), (2, .ref (A 0)), (1, .ref xa), (0, .ref b9)]) hx hb dL_law_19 rfl hl (by decide) rfl (fun ls hl => ?_)
  refine lv_iconst (v := nI 0) hx hb dL_law_20 (by decide) ?_
  refine lv_istore (lv' := [(4, .int (nI (4 * 0))), (3, .ref oa), (2, .ref (A 0)), (1, .ref xa), (0, .ref b9)]) hx hb dL_law_21 hl (by decide) rfl (fun ls hl => ?_)
  refine W.widen (k := 100 + 7 * 0) (n := 2000 + 64 * 0) (Nat.le_of_ble_eq_true rfl) (Nat.le_of_ble_eq_true rfl) ?_
  exact law_loop (so := so) (b := b) (ce := ce) (a := a) (hh := hh) (A := A) hE hL hEnd 513 0 (by omega) (by omega) H locs _ ⟨(fun _ => 0), (fun _ => 0), 0, (fun _ => 0), 0, 0, 0, 0, (fun _ => 0), t, (fun _ => 0), (fun _ => 0), (fun _ => 0), 0, 0, 0, 0, 0, P, F, 0, none, none, 0, 0, iF 6, (fun _ => 0), (fun _ => 0), (fun _ => 0), (fun _ => 0), rfl, by omega, by omega, st_RG0 ht6, fun _ _ _ => Or.inl rfl, fun i hi => absurd hi (Nat.not_lt_zero _), rfl, rfl⟩ hP hD hS ls (lv_sub hl [4, 3, 2, 1, 0] rfl)

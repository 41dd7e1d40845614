set_option maxHeartbeats 4000000 in
set_option maxRecDepth 100000 in
theorem c_X4_add (l : Launch) (G : GG) (sz : Nat) (b : Nat → Nat) (sg : Nat → Int32) (ln : Nat) (hln : ln ≤ 60) (hl6 : ln < 60) (c : Int32) : WRv l yX4_add wsX4_add 1 G [.ref (b 0), .int c] (txW G b sg (nI ln)) sz (S := Unit) (fun _ => True) (fun _ => txW G b (upd sg ln c) (nI (ln + 1))) 0 0 := by
  refine wr_of (cc := cX4_add) (maxL := 2) (ret := none) (Qc := fun Ar => wQv G (S := Unit) (fun _ => True) (fun _ => txW G b (upd sg ln c) (nI (ln + 1))) Ar) (by decide) rfl (Nat.le_of_ble_eq_true rfl) ?_
  intro pG eG s mG below meth cG hsz hx hb hr hml hts hown hlocks hnm hP hK hN Ar hD hA hS ls hl
  have hown : s.vm.findClass RX4 = some mG.cls := hown
  have hP : PP G (txW G b sg (nI ln)) s.heap := hP
  have hD : va_D Ar (txW G b sg (nI ln)) := hD
  have hl : lv_has ls 2 [(0, .ref (b 0)), (1, .int c)] := hl
  refine lv_aload_n hx hb dX4_add_0 rfl (lv_at hl 0 rfl) ?_
  refine va_get (D := G.1) (ws := txW G b sg (nI ln)) (ci := 3) (v := .int (nI ln)) (C := RX4) (T := TX4) (N := 2) hx hb hts (fun _ h => List.mem_cons_of_mem _ (List.mem_append_right _ (h))) hown hK hP 0 rfl rfl 1 (by decide) (hts (.fieldLink RX4 15 "CreaseMaps$MapText" "length" "I") (List.mem_of_getElem? (i := 1) rfl)) (fun _ h9 => h9) rfl dX4_add_1 ?_
  refine lv_if_lt (tgt := 36) hx hb dX4_add_4 (by decide) (fun c_4 => ?_) (fun c_4 => ?_)
  · exact absurd c_4 (nI_pos (by omega))
  · refine lv_aload_n hx hb dX4_add_7 rfl (lv_at hl 0 rfl) ?_
    refine va_get (D := G.1) (ws := txW G b sg (nI ln)) (ci := 3) (v := .int (nI ln)) (C := RX4) (T := TX4) (N := 2) hx hb hts (fun _ h => List.mem_cons_of_mem _ (List.mem_append_right _ (h))) hown hK hP 0 rfl rfl 1 (by decide) (hts (.fieldLink RX4 15 "CreaseMaps$MapText" "length" "I") (List.mem_of_getElem? (i := 1) rfl)) (fun _ h9 => h9) rfl dX4_add_8 ?_
    refine lv_bipush (v := nI 60) hx hb dX4_add_11 (by decide) ?_
    refine lv_icmp_ge (tgt := 36) hx hb dX4_add_13 (by decide) (fun c_13 => ?_) (fun c_13 => ?_)
    · exact absurd (fe c_13 (by omega) (by omega)) (by omega)
    · refine lv_aload_n hx hb dX4_add_16 rfl (lv_at hl 0 rfl) ?_
      refine va_get (D := G.1) (ws := txW G b sg (nI ln)) (ci := 3) (v := .ref (b 1)) (C := RX4) (T := TX4) (N := 2) hx hb hts (fun _ h => List.mem_cons_of_mem _ (List.mem_append_right _ (h))) hown hK hP 0 rfl rfl 0 (by decide) (hts (.fieldLink RX4 9 "CreaseMaps$MapText" "signs" "[I") (List.mem_of_getElem? (i := 2) rfl)) (fun _ h9 => h9) rfl dX4_add_17 ?_
      refine lv_aload_n hx hb dX4_add_20 rfl (lv_at hl 0 rfl) ?_
      refine va_get (D := G.1) (ws := txW G b sg (nI ln)) (ci := 3) (v := .int (nI ln)) (C := RX4) (T := TX4) (N := 2) hx hb hts (fun _ h => List.mem_cons_of_mem _ (List.mem_append_right _ (h))) hown hK hP 0 rfl rfl 1 (by decide) (hts (.fieldLink RX4 15 "CreaseMaps$MapText" "length" "I") (List.mem_of_getElem? (i := 1) rfl)) (fun _ h9 => h9) rfl dX4_add_21 ?_
      refine lv_iload_n hx hb dX4_add_24 rfl (lv_at hl 1 rfl) ?_
      refine va_iast (D := G.1) (ws := txW G b sg (nI ln)) hx hb hK hP hD hS 1 0 (n := 60) rfl rfl (by first | assumption | exact vp_in_nI (by omega) (by omega)) dX4_add_25 (fun H locs hP hD hS => ?_)
      rw [nI_clamp (by omega)] at hP hD
      have hP : PP G (txW G b (upd sg ln c) (nI ln)) H := hP
      have hD : va_D Ar (txW G b (upd sg ln c) (nI ln)) := hD
      refine lv_aload_n hx hb dX4_add_26 rfl (lv_at hl 0 rfl) ?_
      refine lv_dup hx hb dX4_add_27 rfl ?_
      refine va_get (D := G.1) (ws := txW G b (upd sg ln c) (nI ln)) (ci := 3) (v := .int (nI ln)) (C := RX4) (T := TX4) (N := 2) hx hb hts (fun _ h => List.mem_cons_of_mem _ (List.mem_append_right _ (h))) hown hK hP 0 rfl rfl 1 (by decide) (hts (.fieldLink RX4 15 "CreaseMaps$MapText" "length" "I") (List.mem_of_getElem? (i := 1) rfl)) (fun _ h9 => h9) rfl dX4_add_28 ?_
      refine lv_iconst (v := nI 1) hx hb dX4_add_31 (by decide) ?_
      refine lv_iadd hx hb dX4_add_32 ?_
      refine lv_cgi (y := nI (ln + 1)) (nI_add _ _) ?_
      refine va_put (D := G.1) (ws := txW G b (upd sg ln c) (nI ln)) (ci := 3) (v := .int (nI (ln + 1))) (ty := .int) (C := RX4) (T := TX4) (N := 2) hx hb hts (fun _ h => List.mem_cons_of_mem _ (List.mem_append_right _ (h))) tyX4 tyX4_ok nmX4 hown hK hP hD hS 0 rfl rfl 1 (by decide) (hts (.fieldLink RX4 15 "CreaseMaps$MapText" "length" "I") (List.mem_of_getElem? (i := 1) rfl)) (fun _ h9 => h9) rfl (by decide +kernel) rfl rfl (Nat.le_of_ble_eq_true rfl) dX4_add_33 (fun H locs hP hD hS => ?_)
      have hP : PP G (txW G b (upd sg ln c) (nI (ln + 1))) H := hP
      have hD : va_D Ar (txW G b (upd sg ln c) (nI (ln + 1))) := hD
      exact wr_vret (S := Unit) (out := fun _ => txW G b (upd sg ln c) (nI (ln + 1))) () hx hb hr hlocks hP hD hS (Nat.le_of_ble_eq_true rfl) (Nat.le_of_ble_eq_true rfl) (by trivial) dX4_add_36

set_option maxHeartbeats 4000000 in
set_option maxRecDepth 100000 in
theorem c_X4_clear (l : Launch) (G : GG) (sz : Nat) (b : Nat → Nat) (sg : Nat → Int32) (ln : Int32) : WRv l yX4_clear wsX4_clear 1 G [.ref (b 0)] (txW G b sg ln) sz (S := Unit) (fun _ => True) (fun _ => txW G b sg (nI 0)) 0 0 := by
  refine wr_of (cc := cX4_clear) (maxL := 1) (ret := none) (Qc := fun Ar => wQv G (S := Unit) (fun _ => True) (fun _ => txW G b sg (nI 0)) Ar) (by decide) rfl (Nat.le_of_ble_eq_true rfl) ?_
  intro pG eG s mG below meth cG hsz hx hb hr hml hts hown hlocks hnm hP hK hN Ar hD hA hS ls hl
  have hown : s.vm.findClass RX4 = some mG.cls := hown
  have hP : PP G (txW G b sg ln) s.heap := hP
  have hD : va_D Ar (txW G b sg ln) := hD
  have hl : lv_has ls 1 [(0, .ref (b 0))] := hl
  refine lv_aload_n hx hb dX4_clear_0 rfl (lv_at hl 0 rfl) ?_
  refine lv_iconst (v := nI 0) hx hb dX4_clear_1 (by decide) ?_
  refine va_put (D := G.1) (ws := txW G b sg ln) (ci := 3) (v := .int (nI 0)) (ty := .int) (C := RX4) (T := TX4) (N := 2) hx hb hts (fun _ h => List.mem_cons_of_mem _ (List.mem_append_right _ (h))) tyX4 tyX4_ok nmX4 hown hK hP hD hS 0 rfl rfl 1 (by decide) (hts (.fieldLink RX4 15 "CreaseMaps$MapText" "length" "I") (List.mem_of_getElem? (i := 1) rfl)) (fun _ h9 => h9) rfl (by decide +kernel) rfl rfl (Nat.le_of_ble_eq_true rfl) dX4_clear_2 (fun H locs hP hD hS => ?_)
  have hP : PP G (txW G b sg (nI 0)) H := hP
  have hD : va_D Ar (txW G b sg (nI 0)) := hD
  exact wr_vret (S := Unit) (out := fun _ => txW G b sg (nI 0)) () hx hb hr hlocks hP hD hS (Nat.le_of_ble_eq_true rfl) (Nat.le_of_ble_eq_true rfl) (by trivial) dX4_clear_5

set_option maxHeartbeats 4000000 in
set_option maxRecDepth 100000 in
theorem c_X4_isCrease (l : Launch) (G : GG) (c : Int32) : RD l yX4_isCrease wsX4_isCrease 1 G [.int c] (([] : va_W)) (some (.int (b2 (isMk c)))) := by
  refine rd_of (cc := cX4_isCrease) (maxL := 1) (ret := (some .boolean)) (by decide) rfl (Nat.le_of_ble_eq_true rfl) ?_
  intro pG eG s mG below meth cG hx hb hr hml hts hown hlocks hP hK hN ls hl
  have hown : s.vm.findClass RX4 = some mG.cls := hown
  have hl : lv_has ls 1 [(0, .int c)] := hl
  refine lv_iload_n hx hb dX4_isCrease_0 rfl (lv_at hl 0 rfl) ?_
  refine lv_bipush (v := nI 124) hx hb dX4_isCrease_1 (by decide) ?_
  refine lv_icmp_eq (tgt := 12) hx hb dX4_isCrease_3 (by decide) (fun c_3 => ?_) (fun c_3 => ?_)
  · refine lv_iconst (v := nI 1) hx hb dX4_isCrease_12 (by decide) ?_
    refine lv_goto (tgt := 17) hx hb dX4_isCrease_13 (by decide) ?_
    exact rd_zret hx hb hr hlocks (by first | decide | exact b2_nar _) (by unfold isMk; simp [c_3, b2]) dX4_isCrease_17
  · refine lv_iload_n hx hb dX4_isCrease_6 rfl (lv_at hl 0 rfl) ?_
    refine lv_bipush (v := nI 94) hx hb dX4_isCrease_7 (by decide) ?_
    refine lv_icmp_ne (tgt := 16) hx hb dX4_isCrease_9 (by decide) (fun c_9 => ?_) (fun c_9 => ?_)
    · refine lv_iconst (v := nI 0) hx hb dX4_isCrease_16 (by decide) ?_
      exact rd_zret hx hb hr hlocks (by first | decide | exact b2_nar _) (by unfold isMk; simp [c_3, c_9, b2]) dX4_isCrease_17
    · refine lv_iconst (v := nI 1) hx hb dX4_isCrease_12 (by decide) ?_
      refine lv_goto (tgt := 17) hx hb dX4_isCrease_13 (by decide) ?_
      exact rd_zret hx hb hr hlocks (by first | decide | exact b2_nar _) (by unfold isMk; simp [c_3, c_9, b2]) dX4_isCrease_17

set_option maxHeartbeats 4000000 in
set_option maxRecDepth 100000 in
theorem c_X4_isTown (l : Launch) (G : GG) (c : Int32) : RD l yX4_isTown wsX4_isTown 1 G [.int c] (([] : va_W)) (some (.int (b2 (isTn c)))) := by
  refine rd_of (cc := cX4_isTown) (maxL := 1) (ret := (some .boolean)) (by decide) rfl (Nat.le_of_ble_eq_true rfl) ?_
  intro pG eG s mG below meth cG hx hb hr hml hts hown hlocks hP hK hN ls hl
  have hown : s.vm.findClass RX4 = some mG.cls := hown
  have hl : lv_has ls 1 [(0, .int c)] := hl
  refine lv_iload_n hx hb dX4_isTown_0 rfl (lv_at hl 0 rfl) ?_
  refine lv_bipush (v := nI 97) hx hb dX4_isTown_1 (by decide) ?_
  refine lv_icmp_lt (tgt := 16) hx hb dX4_isTown_3 (by decide) (fun c_3 => ?_) (fun c_3 => ?_)
  · refine lv_iconst (v := nI 0) hx hb dX4_isTown_16 (by decide) ?_
    exact rd_zret hx hb hr hlocks (by first | decide | exact b2_nar _) (by unfold isTn; first | exact b2p ⟨c_3, c_9⟩ | exact b2q (fun h => h.1 c_3) | exact b2q (fun h => h.2 c_9)) dX4_isTown_17
  · refine lv_iload_n hx hb dX4_isTown_6 rfl (lv_at hl 0 rfl) ?_
    refine lv_bipush (v := nI 103) hx hb dX4_isTown_7 (by decide) ?_
    refine lv_icmp_ge (tgt := 16) hx hb dX4_isTown_9 (by decide) (fun c_9 => ?_) (fun c_9 => ?_)
    · refine lv_iconst (v := nI 0) hx hb dX4_isTown_16 (by decide) ?_
      exact rd_zret hx hb hr hlocks (by first | decide | exact b2_nar _) (by unfold isTn; first | exact b2p ⟨c_3, c_9⟩ | exact b2q (fun h => h.1 c_3) | exact b2q (fun h => h.2 c_9)) dX4_isTown_17
    · refine lv_iconst (v := nI 1) hx hb dX4_isTown_12 (by decide) ?_
      refine lv_goto (tgt := 17) hx hb dX4_isTown_13 (by decide) ?_
      exact rd_zret hx hb hr hlocks (by first | decide | exact b2_nar _) (by unfold isTn; first | exact b2p ⟨c_3, c_9⟩ | exact b2q (fun h => h.1 c_3) | exact b2q (fun h => h.2 c_9)) dX4_isTown_17

set_option maxHeartbeats 4000000 in
set_option maxRecDepth 100000 in
theorem c_X4_creasesBefore (l : Launch) (G : GG) (b : Nat → Nat) (sg : Nat → Int32) (ln : Nat) (hln : ln ≤ 60) (e2 : Nat) (he : e2 ≤ 60) : RD l yX4_creasesBefore wsX4_creasesBefore 2 G [.ref (b 0), .int (nI e2)] (txW G b sg (nI ln)) (some (.int (nI (cbN sg e2)))) := by
  refine rd_of (cc := cX4_creasesBefore) (maxL := 4) (ret := (some .int)) (by decide) rfl (Nat.le_of_ble_eq_true rfl) ?_
  intro pG eG s mG below meth cG hx hb hr hml hts hown hlocks hP hK hN ls hl
  have hown : s.vm.findClass RX4 = some mG.cls := hown
  have hl : lv_has ls 4 [(0, .ref (b 0)), (1, .int (nI e2))] := hl
  refine lv_iconst (v := nI 0) hx hb dX4_creasesBefore_0 (by decide) ?_
  refine lv_istore_n (lv' := [(2, .int (nI 0)), (0, .ref (b 0)), (1, .int (nI e2))]) hx hb dX4_creasesBefore_1 rfl hl (by decide) rfl (fun ls hl => ?_)
  refine lv_iconst (v := nI 0) hx hb dX4_creasesBefore_2 (by decide) ?_
  refine lv_istore_n (lv' := [(3, .int (nI 0)), (2, .int (nI 0)), (0, .ref (b 0)), (1, .int (nI e2))]) hx hb dX4_creasesBefore_3 rfl hl (by decide) rfl (fun ls hl => ?_)
  have L4 : ∀ (fu : Nat) (k : Nat) (hk : k ≤ e2), e2 + 1 ≤ k + fu → ∀ ls : Array Slot, lv_has ls 4 [(0, .ref (b 0)), (1, .int (nI e2)), (2, .int (nI (cbN sg k))), (3, .int (nI k))] → W pG l eG (RM 2 0 0) s mG ([.ref (b 0), .int (nI e2)] : List Value).toArray below meth cG s.heap [] 0 0 (MQ below (rQ (some (.int (nI (cbN sg e2))))) ([.ref (b 0), .int (nI e2)] : List Value).toArray s 0 0 (fun _ => False)) (F0 mG 4 ls []) := by
    intro fu
    induction fu with
    | zero => intro k hk hfu; exact absurd hfu (by omega)
    | succ fu ih =>
      intro k hk hfu ls hl
      refine lv_iload_n hx hb dX4_creasesBefore_4 rfl (lv_at hl 3 rfl) ?_
      refine lv_iload_n hx hb dX4_creasesBefore_5 rfl (lv_at hl 1 rfl) ?_
      refine lv_icmp_ge (tgt := 30) hx hb dX4_creasesBefore_6 (by decide) (fun c_6 => ?_) (fun c_6 => ?_)
      · have q1 : e2 ≤ k := fe c_6 (by omega) (by omega)
        refine lv_iload_n hx hb dX4_creasesBefore_30 rfl (lv_at hl 2 rfl) ?_
        exact rd_iret hx hb hr hlocks (by rw [show k = e2 by omega]) dX4_creasesBefore_31
      · have q1 : k < e2 := fl c_6 (by omega) (by omega)
        refine lv_aload_n hx hb dX4_creasesBefore_9 rfl (lv_at hl 0 rfl) ?_
        refine va_get (D := G.1) (ws := txW G b sg (nI ln)) (ci := 3) (v := .ref (b 1)) (C := RX4) (T := TX4) (N := 2) hx hb hts (fun _ h => List.mem_cons_of_mem _ (List.mem_append_right _ (h))) hown hK hP 0 rfl rfl 0 (by decide) (hts (.fieldLink RX4 9 "CreaseMaps$MapText" "signs" "[I") (List.mem_of_getElem? (i := 1) rfl)) (fun _ h9 => h9) rfl dX4_creasesBefore_10 ?_
        refine lv_iload_n hx hb dX4_creasesBefore_13 rfl (lv_at hl 3 rfl) ?_
        refine va_iald (D := G.1) (ws := txW G b sg (nI ln)) hx hb hK hP 1 0 (n := 60) rfl rfl (by first | assumption | exact vp_in_nI (by omega) (by omega)) dX4_creasesBefore_14 ?_
        refine lv_cgi (y := sg k) (by rw [nI_clamp (by omega)]) ?_
        refine rd_go (va_runS (As := [.int (sg k)]) (rest := []) ⟨hx, hb, hml, hown, hts⟩ (c_X4_isCrease l G (sg k)) (va_cwS 1 hts gX4_creasesBefore_X4_isCrease rfl rfl rfl (by decide +kernel) ⟨Nat.le_of_ble_eq_true rfl, Nat.le_of_ble_eq_true rfl⟩) (rS (ws := []) hK hN P_nil) rfl rfl hl.1 rfl (lv_room (Nat.le_of_ble_eq_true rfl)) dX4_creasesBefore_15 ⟨Nat.le_of_ble_eq_true rfl, Nat.le_of_ble_eq_true rfl⟩) ?_
        refine lv_if_eq (tgt := 24) hx hb dX4_creasesBefore_18 (by decide) (fun c_18 => ?_) (fun c_18 => ?_)
        · have c_18 := b2_eq c_18
          refine lv_iinc (v := nI (k + 1)) (lv' := [(3, .int (nI (k + 1))), (0, .ref (b 0)), (1, .int (nI e2)), (2, .int (nI (cbN sg k)))]) hx hb dX4_creasesBefore_24 hl (k := 3) rfl (iincN k) (by decide) rfl (fun ls hl => ?_)
          refine lv_goto (tgt := 4) hx hb dX4_creasesBefore_27 (by decide) ?_
          exact ih (k + 1) (by omega) (by omega) ls (lv_as (l1 := [(0, .ref (b 0)), (1, .int (nI e2)), (2, .int (nI (cbN sg k))), (3, .int (nI (k + 1)))]) (lv_sub hl [1, 2, 3, 0] rfl) (by first | rw [cb_t c_18] | rw [cb_f c_18]))
        · have c_18 := b2_ne c_18
          refine lv_iinc (v := nI ((cbN sg k) + 1)) (lv' := [(2, .int (nI ((cbN sg k) + 1))), (0, .ref (b 0)), (1, .int (nI e2)), (3, .int (nI k))]) hx hb dX4_creasesBefore_21 hl (k := 2) rfl (iincN (cbN sg k)) (by decide) rfl (fun ls hl => ?_)
          refine lv_iinc (v := nI (k + 1)) (lv' := [(3, .int (nI (k + 1))), (2, .int (nI ((cbN sg k) + 1))), (0, .ref (b 0)), (1, .int (nI e2))]) hx hb dX4_creasesBefore_24 hl (k := 3) rfl (iincN k) (by decide) rfl (fun ls hl => ?_)
          refine lv_goto (tgt := 4) hx hb dX4_creasesBefore_27 (by decide) ?_
          exact ih (k + 1) (by omega) (by omega) ls (lv_as (l1 := [(0, .ref (b 0)), (1, .int (nI e2)), (2, .int (nI ((cbN sg k) + 1))), (3, .int (nI (k + 1)))]) (lv_sub hl [2, 3, 1, 0] rfl) (by first | rw [cb_t c_18] | rw [cb_f c_18]))
  exact L4 (e2 + 1) 0 (by omega) (by omega) ls (lv_as (l1 := [(0, .ref (b 0)), (1, .int (nI e2)), (2, .int (nI 0)), (3, .int (nI 0))]) (lv_sub hl [2, 3, 1, 0] rfl) (by rfl))

set_option maxHeartbeats 4000000 in
set_option maxRecDepth 100000 in
theorem c_X4_indexOf (l : Launch) (G : GG) (b : Nat → Nat) (sg : Nat → Int32) (ln : Nat) (hln : ln ≤ 60) (c2 : Int32) : RD l yX4_indexOf wsX4_indexOf 1 G [.ref (b 0), .int c2] (txW G b sg (nI ln)) (some (.int (nI (ixF sg c2 ln 0)))) := by
  refine rd_of (cc := cX4_indexOf) (maxL := 3) (ret := (some .int)) (by decide) rfl (Nat.le_of_ble_eq_true rfl) ?_
  intro pG eG s mG below meth cG hx hb hr hml hts hown hlocks hP hK hN ls hl
  have hown : s.vm.findClass RX4 = some mG.cls := hown
  have hl : lv_has ls 3 [(0, .ref (b 0)), (1, .int c2)] := hl
  refine lv_iconst (v := nI 0) hx hb dX4_indexOf_0 (by decide) ?_
  refine lv_istore_n (lv' := [(2, .int (nI 0)), (0, .ref (b 0)), (1, .int c2)]) hx hb dX4_indexOf_1 rfl hl (by decide) rfl (fun ls hl => ?_)
  have L2 : ∀ (fu : Nat) (k : Nat) (hk : k ≤ ln) (hq : ixF sg c2 (ln - k) k = ixF sg c2 ln 0), ln + 1 ≤ k + fu → ∀ ls : Array Slot, lv_has ls 3 [(0, .ref (b 0)), (1, .int c2), (2, .int (nI k))] → W pG l eG (RM 1 0 0) s mG ([.ref (b 0), .int c2] : List Value).toArray below meth cG s.heap [] 0 0 (MQ below (rQ (some (.int (nI (ixF sg c2 ln 0))))) ([.ref (b 0), .int c2] : List Value).toArray s 0 0 (fun _ => False)) (F0 mG 2 ls []) := by
    intro fu
    induction fu with
    | zero => intro k hk hq hfu; exact absurd hfu (by omega)
    | succ fu ih =>
      intro k hk hq hfu ls hl
      refine lv_iload_n hx hb dX4_indexOf_2 rfl (lv_at hl 2 rfl) ?_
      refine lv_aload_n hx hb dX4_indexOf_3 rfl (lv_at hl 0 rfl) ?_
      refine va_get (D := G.1) (ws := txW G b sg (nI ln)) (ci := 3) (v := .int (nI ln)) (C := RX4) (T := TX4) (N := 2) hx hb hts (fun _ h => List.mem_cons_of_mem _ (List.mem_append_right _ (h))) hown hK hP 0 rfl rfl 1 (by decide) (hts (.fieldLink RX4 15 "CreaseMaps$MapText" "length" "I") (List.mem_of_getElem? (i := 1) rfl)) (fun _ h9 => h9) rfl dX4_indexOf_4 ?_
      refine lv_icmp_ge (tgt := 28) hx hb dX4_indexOf_7 (by decide) (fun c_7 => ?_) (fun c_7 => ?_)
      · have q1 : ln ≤ k := fe c_7 (by omega) (by omega)
        refine lv_aload_n hx hb dX4_indexOf_28 rfl (lv_at hl 0 rfl) ?_
        refine va_get (D := G.1) (ws := txW G b sg (nI ln)) (ci := 3) (v := .int (nI ln)) (C := RX4) (T := TX4) (N := 2) hx hb hts (fun _ h => List.mem_cons_of_mem _ (List.mem_append_right _ (h))) hown hK hP 0 rfl rfl 1 (by decide) (hts (.fieldLink RX4 15 "CreaseMaps$MapText" "length" "I") (List.mem_of_getElem? (i := 1) rfl)) (fun _ h9 => h9) rfl dX4_indexOf_29 ?_
        exact rd_iret hx hb hr hlocks (by first | (rw [← hq, show k = ln by omega, Nat.sub_self]; rfl) | (rw [← hq, show ln - k = (ln - (k + 1)) + 1 by omega, ixF, if_pos c_17])) dX4_indexOf_32
      · have q1 : k < ln := fl c_7 (by omega) (by omega)
        refine lv_aload_n hx hb dX4_indexOf_10 rfl (lv_at hl 0 rfl) ?_
        refine va_get (D := G.1) (ws := txW G b sg (nI ln)) (ci := 3) (v := .ref (b 1)) (C := RX4) (T := TX4) (N := 2) hx hb hts (fun _ h => List.mem_cons_of_mem _ (List.mem_append_right _ (h))) hown hK hP 0 rfl rfl 0 (by decide) (hts (.fieldLink RX4 9 "CreaseMaps$MapText" "signs" "[I") (List.mem_of_getElem? (i := 2) rfl)) (fun _ h9 => h9) rfl dX4_indexOf_11 ?_
        refine lv_iload_n hx hb dX4_indexOf_14 rfl (lv_at hl 2 rfl) ?_
        refine va_iald (D := G.1) (ws := txW G b sg (nI ln)) hx hb hK hP 1 0 (n := 60) rfl rfl (by first | assumption | exact vp_in_nI (by omega) (by omega)) dX4_indexOf_15 ?_
        refine lv_cgi (y := sg k) (by rw [nI_clamp (by omega)]) ?_
        refine lv_iload_n hx hb dX4_indexOf_16 rfl (lv_at hl 1 rfl) ?_
        refine lv_icmp_ne (tgt := 22) hx hb dX4_indexOf_17 (by decide) (fun c_17 => ?_) (fun c_17 => ?_)
        · refine lv_iinc (v := nI (k + 1)) (lv' := [(2, .int (nI (k + 1))), (0, .ref (b 0)), (1, .int c2)]) hx hb dX4_indexOf_22 hl (k := 2) rfl (iincN k) (by decide) rfl (fun ls hl => ?_)
          refine lv_goto (tgt := 2) hx hb dX4_indexOf_25 (by decide) ?_
          exact ih (k + 1) (by omega) (by rw [← hq, show ln - k = (ln - (k + 1)) + 1 by omega, ixF, if_neg c_17]) (by omega) ls (lv_as (l1 := [(0, .ref (b 0)), (1, .int c2), (2, .int (nI (k + 1)))]) (lv_sub hl [1, 2, 0] rfl) (by rfl))
        · refine lv_iload_n hx hb dX4_indexOf_20 rfl (lv_at hl 2 rfl) ?_
          exact rd_iret hx hb hr hlocks (by first | (rw [← hq, show k = ln by omega, Nat.sub_self]; rfl) | (rw [← hq, show ln - k = (ln - (k + 1)) + 1 by omega, ixF, if_pos c_17])) dX4_indexOf_21
  exact L2 (ln + 1) 0 (by omega) (by rfl) (by omega) ls (lv_as (l1 := [(0, .ref (b 0)), (1, .int c2), (2, .int (nI 0))]) (lv_sub hl [1, 2, 0] rfl) (by rfl))

set_option maxHeartbeats 4000000 in
set_option maxRecDepth 100000 in
theorem c_X4_isError (l : Launch) (G : GG) (b : Nat → Nat) (sg : Nat → Int32) (ln : Nat) (hln : ln ≤ 60) (i : Nat) (hi : i < ln) : RD l yX4_isError wsX4_isError 3 G [.ref (b 0), .int (nI i)] (txW G b sg (nI ln)) (some (.int (b2 (erC sg ln i)))) := by
  refine rd_of (cc := cX4_isError) (maxL := 3) (ret := (some .boolean)) (by decide) rfl (Nat.le_of_ble_eq_true rfl) ?_
  intro pG eG s mG below meth cG hx hb hr hml hts hown hlocks hP hK hN ls hl
  have hown : s.vm.findClass RX4 = some mG.cls := hown
  have hl : lv_has ls 3 [(0, .ref (b 0)), (1, .int (nI i))] := hl
  have q2 := cb_le sg i
  have q3 := ix_le sg (sg i) ln 0
  refine lv_aload_n hx hb dX4_isError_0 rfl (lv_at hl 0 rfl) ?_
  refine va_get (D := G.1) (ws := txW G b sg (nI ln)) (ci := 3) (v := .ref (b 1)) (C := RX4) (T := TX4) (N := 2) hx hb hts (fun _ h => List.mem_cons_of_mem _ (List.mem_append_right _ (h))) hown hK hP 0 rfl rfl 0 (by decide) (hts (.fieldLink RX4 9 "CreaseMaps$MapText" "signs" "[I") (List.mem_of_getElem? (i := 1) rfl)) (fun _ h9 => h9) rfl dX4_isError_1 ?_
  refine lv_iload_n hx hb dX4_isError_4 rfl (lv_at hl 1 rfl) ?_
  refine va_iald (D := G.1) (ws := txW G b sg (nI ln)) hx hb hK hP 1 0 (n := 60) rfl rfl (by first | assumption | exact vp_in_nI (by omega) (by omega)) dX4_isError_5 ?_
  refine lv_cgi (y := sg i) (by rw [nI_clamp (by omega)]) ?_
  refine lv_istore_n (lv' := [(2, .int (sg i)), (0, .ref (b 0)), (1, .int (nI i))]) hx hb dX4_isError_6 rfl hl (by decide) rfl (fun ls hl => ?_)
  refine lv_iload_n hx hb dX4_isError_7 rfl (lv_at hl 0 rfl) ?_
  refine rd_go (va_runS (As := [.int (sg i)]) (rest := []) ⟨hx, hb, hml, hown, hts⟩ (c_X4_isCrease l G (sg i)) (va_cwS 1 hts gX4_isError_X4_isCrease rfl rfl rfl (by decide +kernel) ⟨Nat.le_of_ble_eq_true rfl, Nat.le_of_ble_eq_true rfl⟩) (rS (ws := []) hK hN P_nil) rfl rfl hl.1 rfl (lv_room (Nat.le_of_ble_eq_true rfl)) dX4_isError_8 ⟨Nat.le_of_ble_eq_true rfl, Nat.le_of_ble_eq_true rfl⟩) ?_
  refine lv_if_eq (tgt := 30) hx hb dX4_isError_11 (by decide) (fun c_11 => ?_) (fun c_11 => ?_)
  · have c_11 := b2_eq c_11
    refine lv_iload_n hx hb dX4_isError_30 rfl (lv_at hl 0 rfl) ?_
    refine rd_go (va_runS (As := [.int (sg i)]) (rest := []) ⟨hx, hb, hml, hown, hts⟩ (c_X4_isTown l G (sg i)) (va_cwS 1 hts gX4_isError_X4_isTown rfl rfl rfl (by decide +kernel) ⟨Nat.le_of_ble_eq_true rfl, Nat.le_of_ble_eq_true rfl⟩) (rS (ws := []) hK hN P_nil) rfl rfl hl.1 rfl (lv_room (Nat.le_of_ble_eq_true rfl)) dX4_isError_31 ⟨Nat.le_of_ble_eq_true rfl, Nat.le_of_ble_eq_true rfl⟩) ?_
    refine lv_if_eq (tgt := 46) hx hb dX4_isError_34 (by decide) (fun c_34 => ?_) (fun c_34 => ?_)
    · have c_34 := b2_eq c_34
      refine lv_iconst (v := nI 1) hx hb dX4_isError_46 (by decide) ?_
      refine lv_goto (tgt := 51) hx hb dX4_isError_47 (by decide) ?_
      exact rd_zret hx hb hr hlocks (by first | decide | exact b2_nar _) (by unfold erC; simp [c_11, c_34, b2]) dX4_isError_51
    · have c_34 := b2_ne c_34
      refine lv_aload_n hx hb dX4_isError_37 rfl (lv_at hl 1 rfl) ?_
      refine lv_iload_n hx hb dX4_isError_38 rfl (lv_at hl 0 rfl) ?_
      refine rd_go (va_runV (As := [.int (sg i)]) (rest := []) ⟨hx, hb, hml, hown, hts⟩ (c_X4_indexOf l G b sg ln hln (sg i)) (cwV 1 hts gX4_isError_X4_indexOf rfl rfl rfl (by decide +kernel) ⟨Nat.le_of_ble_eq_true rfl, Nat.le_of_ble_eq_true rfl⟩) (rV (ws := txW G b sg (nI ln)) (va_recv (ws := txW G b sg (nI ln)) hK hP (ci := 3) (q0 := 0) rfl rfl) hK hN hP) rfl rfl hl.1 rfl (lv_room (Nat.le_of_ble_eq_true rfl)) dX4_isError_39 ⟨Nat.le_of_ble_eq_true rfl, Nat.le_of_ble_eq_true rfl⟩) ?_
      refine lv_iload_n hx hb dX4_isError_42 rfl (lv_at hl 2 rfl) ?_
      refine lv_icmp_ge (tgt := 50) hx hb dX4_isError_43 (by decide) (fun c_43 => ?_) (fun c_43 => ?_)
      · have c_43 : ¬ ixF sg (sg i) ln 0 < i := by have := fe c_43 (by omega) (by omega); omega
        refine lv_iconst (v := nI 0) hx hb dX4_isError_50 (by decide) ?_
        exact rd_zret hx hb hr hlocks (by first | decide | exact b2_nar _) (by unfold erC; simp [c_11, c_34, c_43, b2]) dX4_isError_51
      · have c_43 : ixF sg (sg i) ln 0 < i := fl c_43 (by omega) (by omega)
        refine lv_iconst (v := nI 1) hx hb dX4_isError_46 (by decide) ?_
        refine lv_goto (tgt := 51) hx hb dX4_isError_47 (by decide) ?_
        exact rd_zret hx hb hr hlocks (by first | decide | exact b2_nar _) (by unfold erC; simp [c_11, c_34, c_43, b2]) dX4_isError_51
  · have c_11 := b2_ne c_11
    refine lv_aload_n hx hb dX4_isError_14 rfl (lv_at hl 1 rfl) ?_
    refine lv_iload_n hx hb dX4_isError_15 rfl (lv_at hl 2 rfl) ?_
    refine rd_go (va_runV (As := [.int (nI i)]) (rest := []) ⟨hx, hb, hml, hown, hts⟩ (c_X4_creasesBefore l G b sg ln hln i (by omega)) (cwV 1 hts gX4_isError_X4_creasesBefore rfl rfl rfl (by decide +kernel) ⟨Nat.le_of_ble_eq_true rfl, Nat.le_of_ble_eq_true rfl⟩) (rV (ws := txW G b sg (nI ln)) (va_recv (ws := txW G b sg (nI ln)) hK hP (ci := 3) (q0 := 0) rfl rfl) hK hN hP) rfl rfl hl.1 rfl (lv_room (Nat.le_of_ble_eq_true rfl)) dX4_isError_16 ⟨Nat.le_of_ble_eq_true rfl, Nat.le_of_ble_eq_true rfl⟩) ?_
    refine lv_bipush (v := nI 9) hx hb dX4_isError_19 (by decide) ?_
    refine lv_icmp_lt (tgt := 28) hx hb dX4_isError_21 (by decide) (fun c_21 => ?_) (fun c_21 => ?_)
    · have c_21 : ¬ 9 ≤ cbN sg i := by have := (nI_ltI (by omega) (by omega)).mp c_21; omega
      refine lv_iconst (v := nI 0) hx hb dX4_isError_28 (by decide) ?_
      exact rd_zret hx hb hr hlocks (by first | decide | exact b2_nar _) (by unfold erC; simp [c_11, c_21, b2]) dX4_isError_29
    · have c_21 : 9 ≤ cbN sg i := Nat.le_of_not_lt (fun h => c_21 (nI_lt h (by omega)))
      refine lv_iconst (v := nI 1) hx hb dX4_isError_24 (by decide) ?_
      refine lv_goto (tgt := 29) hx hb dX4_isError_25 (by decide) ?_
      exact rd_zret hx hb hr hlocks (by first | decide | exact b2_nar _) (by unfold erC; simp [c_11, c_21, b2]) dX4_isError_29

set_option maxHeartbeats 4000000 in
set_option maxRecDepth 100000 in
theorem c_X4_errorIndex (l : Launch) (G : GG) (b : Nat → Nat) (sg : Nat → Int32) (ln : Nat) (hln : ln ≤ 60) : RD l yX4_errorIndex wsX4_errorIndex 4 G [.ref (b 0)] (txW G b sg (nI ln)) (some (.int (nI (erI sg ln ln 0)))) := by
  refine rd_of (cc := cX4_errorIndex) (maxL := 2) (ret := (some .int)) (by decide) rfl (Nat.le_of_ble_eq_true rfl) ?_
  intro pG eG s mG below meth cG hx hb hr hml hts hown hlocks hP hK hN ls hl
  have hown : s.vm.findClass RX4 = some mG.cls := hown
  have hl : lv_has ls 2 [(0, .ref (b 0))] := hl
  refine lv_iconst (v := nI 0) hx hb dX4_errorIndex_0 (by decide) ?_
  refine lv_istore_n (lv' := [(1, .int (nI 0)), (0, .ref (b 0))]) hx hb dX4_errorIndex_1 rfl hl (by decide) rfl (fun ls hl => ?_)
  have L2 : ∀ (fu : Nat) (k : Nat) (hk : k ≤ ln) (hq : erI sg ln (ln - k) k = erI sg ln ln 0), ln + 1 ≤ k + fu → ∀ ls : Array Slot, lv_has ls 2 [(0, .ref (b 0)), (1, .int (nI k))] → W pG l eG (RM 4 0 0) s mG ([.ref (b 0)] : List Value).toArray below meth cG s.heap [] 0 0 (MQ below (rQ (some (.int (nI (erI sg ln ln 0))))) ([.ref (b 0)] : List Value).toArray s 0 0 (fun _ => False)) (F0 mG 2 ls []) := by
    intro fu
    induction fu with
    | zero => intro k hk hq hfu; exact absurd hfu (by omega)
    | succ fu ih =>
      intro k hk hq hfu ls hl
      refine lv_iload_n hx hb dX4_errorIndex_2 rfl (lv_at hl 1 rfl) ?_
      refine lv_aload_n hx hb dX4_errorIndex_3 rfl (lv_at hl 0 rfl) ?_
      refine va_get (D := G.1) (ws := txW G b sg (nI ln)) (ci := 3) (v := .int (nI ln)) (C := RX4) (T := TX4) (N := 2) hx hb hts (fun _ h => List.mem_cons_of_mem _ (List.mem_append_right _ (h))) hown hK hP 0 rfl rfl 1 (by decide) (hts (.fieldLink RX4 15 "CreaseMaps$MapText" "length" "I") (List.mem_of_getElem? (i := 1) rfl)) (fun _ h9 => h9) rfl dX4_errorIndex_4 ?_
      refine lv_icmp_ge (tgt := 26) hx hb dX4_errorIndex_7 (by decide) (fun c_7 => ?_) (fun c_7 => ?_)
      · have q1 : ln ≤ k := fe c_7 (by omega) (by omega)
        refine lv_aload_n hx hb dX4_errorIndex_26 rfl (lv_at hl 0 rfl) ?_
        refine va_get (D := G.1) (ws := txW G b sg (nI ln)) (ci := 3) (v := .int (nI ln)) (C := RX4) (T := TX4) (N := 2) hx hb hts (fun _ h => List.mem_cons_of_mem _ (List.mem_append_right _ (h))) hown hK hP 0 rfl rfl 1 (by decide) (hts (.fieldLink RX4 15 "CreaseMaps$MapText" "length" "I") (List.mem_of_getElem? (i := 1) rfl)) (fun _ h9 => h9) rfl dX4_errorIndex_27 ?_
        exact rd_iret hx hb hr hlocks (by first | (rw [← hq, show k = ln by omega, Nat.sub_self]; rfl) | (rw [← hq, show ln - k = (ln - (k + 1)) + 1 by omega, erI, if_pos (b2_ne c_15)])) dX4_errorIndex_30
      · have q1 : k < ln := fl c_7 (by omega) (by omega)
        refine lv_aload_n hx hb dX4_errorIndex_10 rfl (lv_at hl 0 rfl) ?_
        refine lv_iload_n hx hb dX4_errorIndex_11 rfl (lv_at hl 1 rfl) ?_
        refine rd_go (va_runV (As := [.int (nI k)]) (rest := []) ⟨hx, hb, hml, hown, hts⟩ (c_X4_isError l G b sg ln hln k (by omega)) (cwV 1 hts gX4_errorIndex_X4_isError rfl rfl rfl (by decide +kernel) ⟨Nat.le_of_ble_eq_true rfl, Nat.le_of_ble_eq_true rfl⟩) (rV (ws := txW G b sg (nI ln)) (va_recv (ws := txW G b sg (nI ln)) hK hP (ci := 3) (q0 := 0) rfl rfl) hK hN hP) rfl rfl hl.1 rfl (lv_room (Nat.le_of_ble_eq_true rfl)) dX4_errorIndex_12 ⟨Nat.le_of_ble_eq_true rfl, Nat.le_of_ble_eq_true rfl⟩) ?_
        refine lv_if_eq (tgt := 20) hx hb dX4_errorIndex_15 (by decide) (fun c_15 => ?_) (fun c_15 => ?_)
        · refine lv_iinc (v := nI (k + 1)) (lv' := [(1, .int (nI (k + 1))), (0, .ref (b 0))]) hx hb dX4_errorIndex_20 hl (k := 1) rfl (iincN k) (by decide) rfl (fun ls hl => ?_)
          refine lv_goto (tgt := 2) hx hb dX4_errorIndex_23 (by decide) ?_
          exact ih (k + 1) (by omega) (by rw [← hq, show ln - k = (ln - (k + 1)) + 1 by omega, erI, if_neg (by rw [b2_eq c_15]; exact Bool.false_ne_true)]) (by omega) ls (lv_as (l1 := [(0, .ref (b 0)), (1, .int (nI (k + 1)))]) (lv_sub hl [1, 0] rfl) (by rfl))
        · refine lv_iload_n hx hb dX4_errorIndex_18 rfl (lv_at hl 1 rfl) ?_
          exact rd_iret hx hb hr hlocks (by first | (rw [← hq, show k = ln by omega, Nat.sub_self]; rfl) | (rw [← hq, show ln - k = (ln - (k + 1)) + 1 by omega, erI, if_pos (b2_ne c_15)])) dX4_errorIndex_19
  exact L2 (ln + 1) 0 (by omega) (by rfl) (by omega) ls (lv_as (l1 := [(0, .ref (b 0)), (1, .int (nI 0))]) (lv_sub hl [1, 0] rfl) (by rfl))

set_option maxHeartbeats 4000000 in
set_option maxRecDepth 100000 in
theorem c_X4_tellsMap (l : Launch) (G : GG) (b : Nat → Nat) (sg : Nat → Int32) (ln : Nat) (hln : ln ≤ 60) : RD l yX4_tellsMap wsX4_tellsMap 5 G [.ref (b 0)] (txW G b sg (nI ln)) (some (.int (b2 (tlsC sg ln)))) := by
  refine rd_of (cc := cX4_tellsMap) (maxL := 1) (ret := (some .boolean)) (by decide) rfl (Nat.le_of_ble_eq_true rfl) ?_
  intro pG eG s mG below meth cG hx hb hr hml hts hown hlocks hP hK hN ls hl
  have hown : s.vm.findClass RX4 = some mG.cls := hown
  have hl : lv_has ls 1 [(0, .ref (b 0))] := hl
  have q2 := er_le sg ln ln 0
  have q3 := cb_le sg ln
  refine lv_aload_n hx hb dX4_tellsMap_0 rfl (lv_at hl 0 rfl) ?_
  refine rd_go (va_runV (As := []) (rest := []) ⟨hx, hb, hml, hown, hts⟩ (c_X4_errorIndex l G b sg ln hln ) (cwV 0 hts gX4_tellsMap_X4_errorIndex rfl rfl rfl (by decide +kernel) ⟨Nat.le_of_ble_eq_true rfl, Nat.le_of_ble_eq_true rfl⟩) (rV (ws := txW G b sg (nI ln)) (va_recv (ws := txW G b sg (nI ln)) hK hP (ci := 3) (q0 := 0) rfl rfl) hK hN hP) rfl rfl hl.1 rfl (lv_room (Nat.le_of_ble_eq_true rfl)) dX4_tellsMap_1 ⟨Nat.le_of_ble_eq_true rfl, Nat.le_of_ble_eq_true rfl⟩) ?_
  refine lv_aload_n hx hb dX4_tellsMap_4 rfl (lv_at hl 0 rfl) ?_
  refine va_get (D := G.1) (ws := txW G b sg (nI ln)) (ci := 3) (v := .int (nI ln)) (C := RX4) (T := TX4) (N := 2) hx hb hts (fun _ h => List.mem_cons_of_mem _ (List.mem_append_right _ (h))) hown hK hP 0 rfl rfl 1 (by decide) (hts (.fieldLink RX4 15 "CreaseMaps$MapText" "length" "I") (List.mem_of_getElem? (i := 1) rfl)) (fun _ h9 => h9) rfl dX4_tellsMap_5 ?_
  refine lv_icmp_ne (tgt := 28) hx hb dX4_tellsMap_8 (by decide) (fun c_8 => ?_) (fun c_8 => ?_)
  · have c_8 := nIn c_8
    refine lv_iconst (v := nI 0) hx hb dX4_tellsMap_28 (by decide) ?_
    exact rd_zret hx hb hr hlocks (by first | decide | exact b2_nar _) (by unfold tlsC; simp [c_8, b2]) dX4_tellsMap_29
  · have c_8 := nIe c_8 (by omega) (by omega)
    refine lv_aload_n hx hb dX4_tellsMap_11 rfl (lv_at hl 0 rfl) ?_
    refine lv_aload_n hx hb dX4_tellsMap_12 rfl (lv_at hl 0 rfl) ?_
    refine va_get (D := G.1) (ws := txW G b sg (nI ln)) (ci := 3) (v := .int (nI ln)) (C := RX4) (T := TX4) (N := 2) hx hb hts (fun _ h => List.mem_cons_of_mem _ (List.mem_append_right _ (h))) hown hK hP 0 rfl rfl 1 (by decide) (hts (.fieldLink RX4 15 "CreaseMaps$MapText" "length" "I") (List.mem_of_getElem? (i := 1) rfl)) (fun _ h9 => h9) rfl dX4_tellsMap_13 ?_
    refine rd_go (va_runV (As := [.int (nI ln)]) (rest := []) ⟨hx, hb, hml, hown, hts⟩ (c_X4_creasesBefore l G b sg ln hln ln (by omega)) (cwV 1 hts gX4_tellsMap_X4_creasesBefore rfl rfl rfl (by decide +kernel) ⟨Nat.le_of_ble_eq_true rfl, Nat.le_of_ble_eq_true rfl⟩) (rV (ws := txW G b sg (nI ln)) (va_recv (ws := txW G b sg (nI ln)) hK hP (ci := 3) (q0 := 0) rfl rfl) hK hN hP) rfl rfl hl.1 rfl (lv_room (Nat.le_of_ble_eq_true rfl)) dX4_tellsMap_16 ⟨Nat.le_of_ble_eq_true rfl, Nat.le_of_ble_eq_true rfl⟩) ?_
    refine lv_bipush (v := nI 9) hx hb dX4_tellsMap_19 (by decide) ?_
    refine lv_icmp_ne (tgt := 28) hx hb dX4_tellsMap_21 (by decide) (fun c_21 => ?_) (fun c_21 => ?_)
    · have c_21 := nIn c_21
      refine lv_iconst (v := nI 0) hx hb dX4_tellsMap_28 (by decide) ?_
      exact rd_zret hx hb hr hlocks (by first | decide | exact b2_nar _) (by unfold tlsC; simp [c_8, c_21, b2]) dX4_tellsMap_29
    · have c_21 := nIe c_21 (by omega) (by omega)
      refine lv_iconst (v := nI 1) hx hb dX4_tellsMap_24 (by decide) ?_
      refine lv_goto (tgt := 29) hx hb dX4_tellsMap_25 (by decide) ?_
      exact rd_zret hx hb hr hlocks (by first | decide | exact b2_nar _) (by unfold tlsC; simp [c_8, c_21, b2]) dX4_tellsMap_29

set_option maxHeartbeats 4000000 in
set_option maxRecDepth 100000 in
theorem c_X4_foldingTold (l : Launch) (G : GG) (b : Nat → Nat) (sg : Nat → Int32) (ln : Nat) (hln : ln ≤ 60) : RD l yX4_foldingTold wsX4_foldingTold 2 G [.ref (b 0)] (txW G b sg (nI ln)) (some (.int (fdC sg ln))) := by
  refine rd_of (cc := cX4_foldingTold) (maxL := 4) (ret := (some .int)) (by decide) rfl (Nat.le_of_ble_eq_true rfl) ?_
  intro pG eG s mG below meth cG hx hb hr hml hts hown hlocks hP hK hN ls hl
  have hown : s.vm.findClass RX4 = some mG.cls := hown
  have hl : lv_has ls 4 [(0, .ref (b 0))] := hl
  refine lv_iconst (v := nI 0) hx hb dX4_foldingTold_0 (by decide) ?_
  refine lv_istore_n (lv' := [(1, .int (nI 0)), (0, .ref (b 0))]) hx hb dX4_foldingTold_1 rfl hl (by decide) rfl (fun ls hl => ?_)
  refine lv_iconst (v := nI 0) hx hb dX4_foldingTold_2 (by decide) ?_
  refine lv_istore_n (lv' := [(2, .int (nI 0)), (1, .int (nI 0)), (0, .ref (b 0))]) hx hb dX4_foldingTold_3 rfl hl (by decide) rfl (fun ls hl => ?_)
  refine lv_iconst (v := nI 0) hx hb dX4_foldingTold_4 (by decide) ?_
  refine lv_istore_n (lv' := [(3, .int (nI 0)), (2, .int (nI 0)), (1, .int (nI 0)), (0, .ref (b 0))]) hx hb dX4_foldingTold_5 rfl hl (by decide) rfl (fun ls hl => ?_)
  have L6 : ∀ (fu : Nat) (k : Nat) (hk : k ≤ ln), ln + 1 ≤ k + fu → ∀ ls : Array Slot, lv_has ls 4 [(0, .ref (b 0)), (1, .int (fdC sg k)), (2, .int (nI (cbN sg k))), (3, .int (nI k))] → W pG l eG (RM 2 0 0) s mG ([.ref (b 0)] : List Value).toArray below meth cG s.heap [] 0 0 (MQ below (rQ (some (.int (fdC sg ln)))) ([.ref (b 0)] : List Value).toArray s 0 0 (fun _ => False)) (F0 mG 6 ls []) := by
    intro fu
    induction fu with
    | zero => intro k hk hfu; exact absurd hfu (by omega)
    | succ fu ih =>
      intro k hk hfu ls hl
      refine lv_iload_n hx hb dX4_foldingTold_6 rfl (lv_at hl 3 rfl) ?_
      refine lv_aload_n hx hb dX4_foldingTold_7 rfl (lv_at hl 0 rfl) ?_
      refine va_get (D := G.1) (ws := txW G b sg (nI ln)) (ci := 3) (v := .int (nI ln)) (C := RX4) (T := TX4) (N := 2) hx hb hts (fun _ h => List.mem_cons_of_mem _ (List.mem_append_right _ (h))) hown hK hP 0 rfl rfl 1 (by decide) (hts (.fieldLink RX4 15 "CreaseMaps$MapText" "length" "I") (List.mem_of_getElem? (i := 1) rfl)) (fun _ h9 => h9) rfl dX4_foldingTold_8 ?_
      refine lv_icmp_ge (tgt := 52) hx hb dX4_foldingTold_11 (by decide) (fun c_11 => ?_) (fun c_11 => ?_)
      · have q1 : ln ≤ k := fe c_11 (by omega) (by omega)
        refine lv_iload_n hx hb dX4_foldingTold_52 rfl (lv_at hl 1 rfl) ?_
        exact rd_iret hx hb hr hlocks (by rw [show k = ln by omega]) dX4_foldingTold_53
      · have q1 : k < ln := fl c_11 (by omega) (by omega)
        refine lv_aload_n hx hb dX4_foldingTold_14 rfl (lv_at hl 0 rfl) ?_
        refine va_get (D := G.1) (ws := txW G b sg (nI ln)) (ci := 3) (v := .ref (b 1)) (C := RX4) (T := TX4) (N := 2) hx hb hts (fun _ h => List.mem_cons_of_mem _ (List.mem_append_right _ (h))) hown hK hP 0 rfl rfl 0 (by decide) (hts (.fieldLink RX4 9 "CreaseMaps$MapText" "signs" "[I") (List.mem_of_getElem? (i := 2) rfl)) (fun _ h9 => h9) rfl dX4_foldingTold_15 ?_
        refine lv_iload_n hx hb dX4_foldingTold_18 rfl (lv_at hl 3 rfl) ?_
        refine va_iald (D := G.1) (ws := txW G b sg (nI ln)) hx hb hK hP 1 0 (n := 60) rfl rfl (by first | assumption | exact vp_in_nI (by omega) (by omega)) dX4_foldingTold_19 ?_
        refine lv_cgi (y := sg k) (by rw [nI_clamp (by omega)]) ?_
        refine rd_go (va_runS (As := [.int (sg k)]) (rest := []) ⟨hx, hb, hml, hown, hts⟩ (c_X4_isCrease l G (sg k)) (va_cwS 1 hts gX4_foldingTold_X4_isCrease rfl rfl rfl (by decide +kernel) ⟨Nat.le_of_ble_eq_true rfl, Nat.le_of_ble_eq_true rfl⟩) (rS (ws := []) hK hN P_nil) rfl rfl hl.1 rfl (lv_room (Nat.le_of_ble_eq_true rfl)) dX4_foldingTold_20 ⟨Nat.le_of_ble_eq_true rfl, Nat.le_of_ble_eq_true rfl⟩) ?_
        refine lv_if_eq (tgt := 46) hx hb dX4_foldingTold_23 (by decide) (fun c_23 => ?_) (fun c_23 => ?_)
        · have c_23 := b2_eq c_23
          refine lv_iinc (v := nI (k + 1)) (lv' := [(3, .int (nI (k + 1))), (0, .ref (b 0)), (1, .int (fdC sg k)), (2, .int (nI (cbN sg k)))]) hx hb dX4_foldingTold_46 hl (k := 3) rfl (iincN k) (by decide) rfl (fun ls hl => ?_)
          refine lv_goto (tgt := 6) hx hb dX4_foldingTold_49 (by decide) ?_
          exact ih (k + 1) (by omega) (by omega) ls (lv_as (l1 := [(0, .ref (b 0)), (1, .int (fdC sg k)), (2, .int (nI (cbN sg k))), (3, .int (nI (k + 1)))]) (lv_sub hl [1, 2, 3, 0] rfl) (by rw [fdC]; first | (rw [cb_t c_23, if_pos ⟨c_23, c_34⟩]; done) | (rw [cb_t c_23, if_neg (fun h => c_34 h.2)]; done) | (rw [cb_f c_23, if_neg (fun h => by rw [c_23] at h; exact Bool.false_ne_true h.1)])))
        · have c_23 := b2_ne c_23
          refine lv_aload_n hx hb dX4_foldingTold_26 rfl (lv_at hl 0 rfl) ?_
          refine va_get (D := G.1) (ws := txW G b sg (nI ln)) (ci := 3) (v := .ref (b 1)) (C := RX4) (T := TX4) (N := 2) hx hb hts (fun _ h => List.mem_cons_of_mem _ (List.mem_append_right _ (h))) hown hK hP 0 rfl rfl 0 (by decide) (hts (.fieldLink RX4 9 "CreaseMaps$MapText" "signs" "[I") (List.mem_of_getElem? (i := 2) rfl)) (fun _ h9 => h9) rfl dX4_foldingTold_27 ?_
          refine lv_iload_n hx hb dX4_foldingTold_30 rfl (lv_at hl 3 rfl) ?_
          refine va_iald (D := G.1) (ws := txW G b sg (nI ln)) hx hb hK hP 1 0 (n := 60) rfl rfl (by first | assumption | exact vp_in_nI (by omega) (by omega)) dX4_foldingTold_31 ?_
          refine lv_cgi (y := sg k) (by rw [nI_clamp (by omega)]) ?_
          refine lv_bipush (v := nI 94) hx hb dX4_foldingTold_32 (by decide) ?_
          refine lv_icmp_ne (tgt := 43) hx hb dX4_foldingTold_34 (by decide) (fun c_34 => ?_) (fun c_34 => ?_)
          · refine lv_iinc (v := nI ((cbN sg k) + 1)) (lv' := [(2, .int (nI ((cbN sg k) + 1))), (0, .ref (b 0)), (1, .int (fdC sg k)), (3, .int (nI k))]) hx hb dX4_foldingTold_43 hl (k := 2) rfl (iincN (cbN sg k)) (by decide) rfl (fun ls hl => ?_)
            refine lv_iinc (v := nI (k + 1)) (lv' := [(3, .int (nI (k + 1))), (2, .int (nI ((cbN sg k) + 1))), (0, .ref (b 0)), (1, .int (fdC sg k))]) hx hb dX4_foldingTold_46 hl (k := 3) rfl (iincN k) (by decide) rfl (fun ls hl => ?_)
            refine lv_goto (tgt := 6) hx hb dX4_foldingTold_49 (by decide) ?_
            exact ih (k + 1) (by omega) (by omega) ls (lv_as (l1 := [(0, .ref (b 0)), (1, .int (fdC sg k)), (2, .int (nI ((cbN sg k) + 1))), (3, .int (nI (k + 1)))]) (lv_sub hl [2, 3, 1, 0] rfl) (by rw [fdC]; first | (rw [cb_t c_23, if_pos ⟨c_23, c_34⟩]; done) | (rw [cb_t c_23, if_neg (fun h => c_34 h.2)]; done) | (rw [cb_f c_23, if_neg (fun h => by rw [c_23] at h; exact Bool.false_ne_true h.1)])))
          · refine lv_iload_n hx hb dX4_foldingTold_37 rfl (lv_at hl 1 rfl) ?_
            refine lv_iconst (v := nI 1) hx hb dX4_foldingTold_38 (by decide) ?_
            refine lv_iload_n hx hb dX4_foldingTold_39 rfl (lv_at hl 2 rfl) ?_
            refine lv_ishl hx hb dX4_foldingTold_40 ?_
            refine lv_ior hx hb dX4_foldingTold_41 ?_
            refine lv_istore_n (lv' := [(1, .int ((fdC sg k) ||| ((nI 1) <<< ((nI (cbN sg k)) &&& 31)))), (0, .ref (b 0)), (2, .int (nI (cbN sg k))), (3, .int (nI k))]) hx hb dX4_foldingTold_42 rfl hl (by decide) rfl (fun ls hl => ?_)
            refine lv_iinc (v := nI ((cbN sg k) + 1)) (lv' := [(2, .int (nI ((cbN sg k) + 1))), (1, .int ((fdC sg k) ||| ((nI 1) <<< ((nI (cbN sg k)) &&& 31)))), (0, .ref (b 0)), (3, .int (nI k))]) hx hb dX4_foldingTold_43 hl (k := 2) rfl (iincN (cbN sg k)) (by decide) rfl (fun ls hl => ?_)
            refine lv_iinc (v := nI (k + 1)) (lv' := [(3, .int (nI (k + 1))), (2, .int (nI ((cbN sg k) + 1))), (1, .int ((fdC sg k) ||| ((nI 1) <<< ((nI (cbN sg k)) &&& 31)))), (0, .ref (b 0))]) hx hb dX4_foldingTold_46 hl (k := 3) rfl (iincN k) (by decide) rfl (fun ls hl => ?_)
            refine lv_goto (tgt := 6) hx hb dX4_foldingTold_49 (by decide) ?_
            exact ih (k + 1) (by omega) (by omega) ls (lv_as (l1 := [(0, .ref (b 0)), (1, .int ((fdC sg k) ||| ((nI 1) <<< ((nI (cbN sg k)) &&& 31)))), (2, .int (nI ((cbN sg k) + 1))), (3, .int (nI (k + 1)))]) (lv_sub hl [3, 2, 1, 0] rfl) (by rw [fdC]; first | (rw [cb_t c_23, if_pos ⟨c_23, c_34⟩]; done) | (rw [cb_t c_23, if_neg (fun h => c_34 h.2)]; done) | (rw [cb_f c_23, if_neg (fun h => by rw [c_23] at h; exact Bool.false_ne_true h.1)])))
  exact L6 (ln + 1) 0 (by omega) (by omega) ls (lv_as (l1 := [(0, .ref (b 0)), (1, .int (nI 0)), (2, .int (nI 0)), (3, .int (nI 0))]) (lv_sub hl [3, 2, 1, 0] rfl) (by rfl))

set_option maxHeartbeats 4000000 in
set_option maxRecDepth 100000 in
theorem c_X4_panelTold (l : Launch) (G : GG) (b : Nat → Nat) (sg : Nat → Int32) (ln : Nat) (hln : ln ≤ 60) (t : Nat) (ht : t < 6) : RD l yX4_panelTold wsX4_panelTold 3 G [.ref (b 0), .int (nI t)] (txW G b sg (nI ln)) (some (.int (nI (pnC sg ln t)))) := by
  refine rd_of (cc := cX4_panelTold) (maxL := 3) (ret := (some .int)) (by decide) rfl (Nat.le_of_ble_eq_true rfl) ?_
  intro pG eG s mG below meth cG hx hb hr hml hts hown hlocks hP hK hN ls hl
  have hown : s.vm.findClass RX4 = some mG.cls := hown
  have hl : lv_has ls 3 [(0, .ref (b 0)), (1, .int (nI t))] := hl
  have q3 := ix_le sg (nI (97 + t)) ln 0
  refine lv_aload_n hx hb dX4_panelTold_0 rfl (lv_at hl 0 rfl) ?_
  refine lv_bipush (v := nI 97) hx hb dX4_panelTold_1 (by decide) ?_
  refine lv_iload_n hx hb dX4_panelTold_3 rfl (lv_at hl 1 rfl) ?_
  refine lv_iadd hx hb dX4_panelTold_4 ?_
  refine lv_cgi (y := nI (97 + t)) (nI_add _ _) ?_
  refine rd_go (va_runV (As := [.int (nI (97 + t))]) (rest := []) ⟨hx, hb, hml, hown, hts⟩ (c_X4_indexOf l G b sg ln hln (nI (97 + t))) (cwV 1 hts gX4_panelTold_X4_indexOf rfl rfl rfl (by decide +kernel) ⟨Nat.le_of_ble_eq_true rfl, Nat.le_of_ble_eq_true rfl⟩) (rV (ws := txW G b sg (nI ln)) (va_recv (ws := txW G b sg (nI ln)) hK hP (ci := 3) (q0 := 0) rfl rfl) hK hN hP) rfl rfl hl.1 rfl (lv_room (Nat.le_of_ble_eq_true rfl)) dX4_panelTold_5 ⟨Nat.le_of_ble_eq_true rfl, Nat.le_of_ble_eq_true rfl⟩) ?_
  refine lv_istore_n (lv' := [(2, .int (nI (ixF sg (nI (97 + t)) ln 0))), (0, .ref (b 0)), (1, .int (nI t))]) hx hb dX4_panelTold_8 rfl hl (by decide) rfl (fun ls hl => ?_)
  refine lv_iload_n hx hb dX4_panelTold_9 rfl (lv_at hl 0 rfl) ?_
  refine lv_aload_n hx hb dX4_panelTold_10 rfl (lv_at hl 1 rfl) ?_
  refine va_get (D := G.1) (ws := txW G b sg (nI ln)) (ci := 3) (v := .int (nI ln)) (C := RX4) (T := TX4) (N := 2) hx hb hts (fun _ h => List.mem_cons_of_mem _ (List.mem_append_right _ (h))) hown hK hP 0 rfl rfl 1 (by decide) (hts (.fieldLink RX4 15 "CreaseMaps$MapText" "length" "I") (List.mem_of_getElem? (i := 1) rfl)) (fun _ h9 => h9) rfl dX4_panelTold_11 ?_
  refine lv_icmp_ge (tgt := 25) hx hb dX4_panelTold_14 (by decide) (fun c_14 => ?_) (fun c_14 => ?_)
  · have c_14 : ¬ ixF sg (nI (97 + t)) ln 0 < ln := by have := fe c_14 (by omega) (by omega); omega
    refine lv_iconst (v := nI 0) hx hb dX4_panelTold_25 (by decide) ?_
    exact rd_iret hx hb hr hlocks (by unfold pnC; first | rw [if_pos c_14] | rw [if_neg c_14]) dX4_panelTold_26
  · have c_14 : ixF sg (nI (97 + t)) ln 0 < ln := fl c_14 (by omega) (by omega)
    refine lv_aload_n hx hb dX4_panelTold_17 rfl (lv_at hl 1 rfl) ?_
    refine lv_iload_n hx hb dX4_panelTold_18 rfl (lv_at hl 0 rfl) ?_
    refine rd_go (va_runV (As := [.int (nI (ixF sg (nI (97 + t)) ln 0))]) (rest := []) ⟨hx, hb, hml, hown, hts⟩ (c_X4_creasesBefore l G b sg ln hln (ixF sg (nI (97 + t)) ln 0) (by omega)) (cwV 1 hts gX4_panelTold_X4_creasesBefore rfl rfl rfl (by decide +kernel) ⟨Nat.le_of_ble_eq_true rfl, Nat.le_of_ble_eq_true rfl⟩) (rV (ws := txW G b sg (nI ln)) (va_recv (ws := txW G b sg (nI ln)) hK hP (ci := 3) (q0 := 0) rfl rfl) hK hN hP) rfl rfl hl.1 rfl (lv_room (Nat.le_of_ble_eq_true rfl)) dX4_panelTold_19 ⟨Nat.le_of_ble_eq_true rfl, Nat.le_of_ble_eq_true rfl⟩) ?_
    refine lv_goto (tgt := 26) hx hb dX4_panelTold_22 (by decide) ?_
    exact rd_iret hx hb hr hlocks (by unfold pnC; first | rw [if_pos c_14] | rw [if_neg c_14]) dX4_panelTold_26

set_option maxHeartbeats 4000000 in
set_option maxRecDepth 100000 in
theorem c_X1_lapse (l : Launch) (G : GG) (sz : Nat) (ce : Nat → Nat) (mk : Nat → Int32) (cs up : Int32) : WRv l yX1_lapse wsX1_lapse 1 G [.ref (ce 0)] (ceW G ce mk cs up) sz (S := Unit) (fun _ => True) (fun _ => ceW G ce mk cs (nI 0)) 0 0 := by
  refine wr_of (cc := cX1_lapse) (maxL := 1) (ret := none) (Qc := fun Ar => wQv G (S := Unit) (fun _ => True) (fun _ => ceW G ce mk cs (nI 0)) Ar) (by decide) rfl (Nat.le_of_ble_eq_true rfl) ?_
  intro pG eG s mG below meth cG hsz hx hb hr hml hts hown hlocks hnm hP hK hN Ar hD hA hS ls hl
  have hown : s.vm.findClass RX1 = some mG.cls := hown
  have hP : PP G (ceW G ce mk cs up) s.heap := hP
  have hD : va_D Ar (ceW G ce mk cs up) := hD
  have hl : lv_has ls 1 [(0, .ref (ce 0))] := hl
  refine lv_aload_n hx hb dX1_lapse_0 rfl (lv_at hl 0 rfl) ?_
  refine lv_iconst (v := nI 0) hx hb dX1_lapse_1 (by decide) ?_
  refine va_put (D := G.1) (ws := ceW G ce mk cs up) (ci := 1) (v := .int (nI 0)) (ty := .boolean) (C := RX1) (T := TX1) (N := 3) hx hb hts (fun _ h => List.mem_cons_of_mem _ (List.mem_append_right _ (h))) tyX1 tyX1_ok nmX1 hown hK hP hD hS 0 rfl rfl 2 (by decide) (hts (.fieldLink RX1 15 "CreaseMaps$Census" "upToDate" "Z") (List.mem_of_getElem? (i := 1) rfl)) (fun _ h9 => h9) rfl (by decide +kernel) rfl rfl (Nat.le_of_ble_eq_true rfl) dX1_lapse_2 (fun H locs hP hD hS => ?_)
  have hP : PP G (ceW G ce mk cs (nI 0)) H := hP
  have hD : va_D Ar (ceW G ce mk cs (nI 0)) := hD
  exact wr_vret (S := Unit) (out := fun _ => ceW G ce mk cs (nI 0)) () hx hb hr hlocks hP hD hS (Nat.le_of_ble_eq_true rfl) (Nat.le_of_ble_eq_true rfl) (by trivial) dX1_lapse_5

set_option maxHeartbeats 4000000 in
set_option maxRecDepth 100000 in
theorem c_X1_maskAt (l : Launch) (G : GG) (ce : Nat → Nat) (mk : Nat → Int32) (up : Int32) (c2 : Nat) (hc : c2 ≤ 512) (x : Int32) : RD l yX1_maskAt wsX1_maskAt 1 G [.ref (ce 0), .int x] (ceW G ce mk (nI c2) up) (some (.int (mkA mk c2 x))) := by
  refine rd_of (cc := cX1_maskAt) (maxL := 2) (ret := (some .int)) (by decide) rfl (Nat.le_of_ble_eq_true rfl) ?_
  intro pG eG s mG below meth cG hx hb hr hml hts hown hlocks hP hK hN ls hl
  have hown : s.vm.findClass RX1 = some mG.cls := hown
  have hl : lv_has ls 2 [(0, .ref (ce 0)), (1, .int x)] := hl
  refine lv_iload_n hx hb dX1_maskAt_0 rfl (lv_at hl 1 rfl) ?_
  refine lv_if_lt (tgt := 21) hx hb dX1_maskAt_1 (by decide) (fun c_1 => ?_) (fun c_1 => ?_)
  · refine lv_iconst (v := (-1)) hx hb dX1_maskAt_21 (by decide) ?_
    exact rd_iret hx hb hr hlocks (by unfold mkA; rw [if_neg (fun h => h.1 c_1)]) dX1_maskAt_22
  · refine lv_iload_n hx hb dX1_maskAt_4 rfl (lv_at hl 1 rfl) ?_
    refine lv_aload_n hx hb dX1_maskAt_5 rfl (lv_at hl 0 rfl) ?_
    refine va_get (D := G.1) (ws := ceW G ce mk (nI c2) up) (ci := 1) (v := .int (nI c2)) (C := RX1) (T := TX1) (N := 3) hx hb hts (fun _ h => List.mem_cons_of_mem _ (List.mem_append_right _ (h))) hown hK hP 0 rfl rfl 1 (by decide) (hts (.fieldLink RX1 19 "CreaseMaps$Census" "size" "I") (List.mem_of_getElem? (i := 1) rfl)) (fun _ h9 => h9) rfl dX1_maskAt_6 ?_
    refine lv_icmp_ge (tgt := 21) hx hb dX1_maskAt_9 (by decide) (fun c_9 => ?_) (fun c_9 => ?_)
    · refine lv_iconst (v := (-1)) hx hb dX1_maskAt_21 (by decide) ?_
      exact rd_iret hx hb hr hlocks (by unfold mkA; rw [if_neg (fun h => h.2 c_9)]) dX1_maskAt_22
    · refine lv_aload_n hx hb dX1_maskAt_12 rfl (lv_at hl 0 rfl) ?_
      refine va_get (D := G.1) (ws := ceW G ce mk (nI c2) up) (ci := 1) (v := .ref (ce 1)) (C := RX1) (T := TX1) (N := 3) hx hb hts (fun _ h => List.mem_cons_of_mem _ (List.mem_append_right _ (h))) hown hK hP 0 rfl rfl 0 (by decide) (hts (.fieldLink RX1 9 "CreaseMaps$Census" "masks" "[I") (List.mem_of_getElem? (i := 2) rfl)) (fun _ h9 => h9) rfl dX1_maskAt_13 ?_
      refine lv_iload_n hx hb dX1_maskAt_16 rfl (lv_at hl 1 rfl) ?_
      refine va_iald (D := G.1) (ws := ceW G ce mk (nI c2) up) hx hb hK hP 1 0 (n := 512) rfl rfl (by obtain ⟨j, hj, rfl⟩ := nI_of c_1; exact vp_in_nI (by have := fl c_9 (by omega) hj; omega) (by omega)) dX1_maskAt_17 ?_
      refine lv_goto (tgt := 22) hx hb dX1_maskAt_18 (by decide) ?_
      exact rd_iret hx hb hr hlocks (by unfold mkA; rw [if_pos ⟨c_1, c_9⟩]) dX1_maskAt_22

set_option maxHeartbeats 4000000 in
set_option maxRecDepth 100000 in
theorem c_X1_withMeeting (l : Launch) (G : GG) (ce : Nat → Nat) (mk : Nat → Int32) (up : Int32) (c2 : Nat) (hc : c2 ≤ 512) (x y : Nat) (hx2 : x ≤ 10) (hy2 : y ≤ 10) : RD l yX1_withMeeting wsX1_withMeeting 3 G [.ref (ce 0), .int (nI x), .int (nI y)] (ceW G ce mk (nI c2) up) (some (.int (sumI (fun i => b2 (mt (mk i) x y)) c2))) := by
  refine rd_of (cc := cX1_withMeeting) (maxL := 5) (ret := (some .int)) (by decide) rfl (Nat.le_of_ble_eq_true rfl) ?_
  intro pG eG s mG below meth cG hx hb hr hml hts hown hlocks hP hK hN ls hl
  have hown : s.vm.findClass RX1 = some mG.cls := hown
  have hl : lv_has ls 5 [(0, .ref (ce 0)), (1, .int (nI x)), (2, .int (nI y))] := hl
  refine lv_iconst (v := nI 0) hx hb dX1_withMeeting_0 (by decide) ?_
  refine lv_istore_n (lv' := [(3, .int (nI 0)), (0, .ref (ce 0)), (1, .int (nI x)), (2, .int (nI y))]) hx hb dX1_withMeeting_1 rfl hl (by decide) rfl (fun ls hl => ?_)
  refine lv_iconst (v := nI 0) hx hb dX1_withMeeting_2 (by decide) ?_
  refine lv_istore (lv' := [(4, .int (nI 0)), (3, .int (nI 0)), (0, .ref (ce 0)), (1, .int (nI x)), (2, .int (nI y))]) hx hb dX1_withMeeting_3 hl (by decide) rfl (fun ls hl => ?_)
  have L5 : ∀ (fu : Nat) (k : Nat) (hk : k ≤ c2), c2 + 1 ≤ k + fu → ∀ ls : Array Slot, lv_has ls 5 [(0, .ref (ce 0)), (1, .int (nI x)), (2, .int (nI y)), (3, .int (sumI (fun i => b2 (mt (mk i) x y)) k)), (4, .int (nI k))] → W pG l eG (RM 3 0 0) s mG ([.ref (ce 0), .int (nI x), .int (nI y)] : List Value).toArray below meth cG s.heap [] 0 0 (MQ below (rQ (some (.int (sumI (fun i => b2 (mt (mk i) x y)) c2)))) ([.ref (ce 0), .int (nI x), .int (nI y)] : List Value).toArray s 0 0 (fun _ => False)) (F0 mG 5 ls []) := by
    intro fu
    induction fu with
    | zero => intro k hk hfu; exact absurd hfu (by omega)
    | succ fu ih =>
      intro k hk hfu ls hl
      refine lv_iload hx hb dX1_withMeeting_5 (lv_at hl 4 rfl) ?_
      refine lv_aload_n hx hb dX1_withMeeting_7 rfl (lv_at hl 0 rfl) ?_
      refine va_get (D := G.1) (ws := ceW G ce mk (nI c2) up) (ci := 1) (v := .int (nI c2)) (C := RX1) (T := TX1) (N := 3) hx hb hts (fun _ h => List.mem_cons_of_mem _ (List.mem_append_right _ (h))) hown hK hP 0 rfl rfl 1 (by decide) (hts (.fieldLink RX1 19 "CreaseMaps$Census" "size" "I") (List.mem_of_getElem? (i := 1) rfl)) (fun _ h9 => h9) rfl dX1_withMeeting_8 ?_
      refine lv_icmp_ge (tgt := 35) hx hb dX1_withMeeting_11 (by decide) (fun c_11 => ?_) (fun c_11 => ?_)
      · have q1 : c2 ≤ k := fe c_11 (by omega) (by omega)
        refine lv_iload_n hx hb dX1_withMeeting_35 rfl (lv_at hl 3 rfl) ?_
        exact rd_iret hx hb hr hlocks (by rw [show k = c2 by omega]) dX1_withMeeting_36
      · have q1 : k < c2 := fl c_11 (by omega) (by omega)
        refine lv_iload_n hx hb dX1_withMeeting_14 rfl (lv_at hl 3 rfl) ?_
        refine lv_aload_n hx hb dX1_withMeeting_15 rfl (lv_at hl 0 rfl) ?_
        refine va_get (D := G.1) (ws := ceW G ce mk (nI c2) up) (ci := 1) (v := .ref (ce 1)) (C := RX1) (T := TX1) (N := 3) hx hb hts (fun _ h => List.mem_cons_of_mem _ (List.mem_append_right _ (h))) hown hK hP 0 rfl rfl 0 (by decide) (hts (.fieldLink RX1 9 "CreaseMaps$Census" "masks" "[I") (List.mem_of_getElem? (i := 2) rfl)) (fun _ h9 => h9) rfl dX1_withMeeting_16 ?_
        refine lv_iload hx hb dX1_withMeeting_19 (lv_at hl 4 rfl) ?_
        refine va_iald (D := G.1) (ws := ceW G ce mk (nI c2) up) hx hb hK hP 1 0 (n := 512) rfl rfl (by first | assumption | exact vp_in_nI (by omega) (by omega)) dX1_withMeeting_21 ?_
        refine lv_cgi (y := mk k) (by rw [nI_clamp (by omega)]) ?_
        refine lv_iload_n hx hb dX1_withMeeting_22 rfl (lv_at hl 1 rfl) ?_
        refine lv_iload_n hx hb dX1_withMeeting_23 rfl (lv_at hl 2 rfl) ?_
        refine rd_go (va_runS (As := [.int (mk k), .int (nI x), .int (nI y)]) (rest := [.int (sumI (fun i => b2 (mt (mk i) x y)) k)]) ⟨hx, hb, hml, hown, hts⟩ (c_X3_meeting l G (mk k) x y (by omega) (by omega)) (va_cwS 3 hts gX1_withMeeting_X3_meeting rfl rfl rfl (by decide +kernel) ⟨Nat.le_of_ble_eq_true rfl, Nat.le_of_ble_eq_true rfl⟩) (rS (ws := []) hK hN P_nil) rfl rfl hl.1 rfl (lv_room (Nat.le_of_ble_eq_true rfl)) dX1_withMeeting_24 ⟨Nat.le_of_ble_eq_true rfl, Nat.le_of_ble_eq_true rfl⟩) ?_
        refine lv_iadd hx hb dX1_withMeeting_27 ?_
        refine lv_istore_n (lv' := [(3, .int ((sumI (fun i => b2 (mt (mk i) x y)) k) + (b2 (mt (mk k) x y)))), (0, .ref (ce 0)), (1, .int (nI x)), (2, .int (nI y)), (4, .int (nI k))]) hx hb dX1_withMeeting_28 rfl hl (by decide) rfl (fun ls hl => ?_)
        refine lv_iinc (v := nI (k + 1)) (lv' := [(4, .int (nI (k + 1))), (3, .int ((sumI (fun i => b2 (mt (mk i) x y)) k) + (b2 (mt (mk k) x y)))), (0, .ref (ce 0)), (1, .int (nI x)), (2, .int (nI y))]) hx hb dX1_withMeeting_29 hl (k := 4) rfl (iincN k) (by decide) rfl (fun ls hl => ?_)
        refine lv_goto (tgt := 5) hx hb dX1_withMeeting_32 (by decide) ?_
        exact ih (k + 1) (by omega) (by omega) ls (lv_as (l1 := [(0, .ref (ce 0)), (1, .int (nI x)), (2, .int (nI y)), (3, .int ((sumI (fun i => b2 (mt (mk i) x y)) k) + (b2 (mt (mk k) x y)))), (4, .int (nI (k + 1)))]) (lv_sub hl [2, 3, 4, 1, 0] rfl) (by rfl))
  exact L5 (c2 + 1) 0 (by omega) (by omega) ls (lv_as (l1 := [(0, .ref (ce 0)), (1, .int (nI x)), (2, .int (nI y)), (3, .int (nI 0)), (4, .int (nI 0))]) (lv_sub hl [2, 3, 4, 1, 0] rfl) (by rfl))

set_option maxHeartbeats 4000000 in
set_option maxRecDepth 100000 in
theorem c_X1_surely (l : Launch) (G : GG) (ce : Nat → Nat) (mk : Nat → Int32) (up : Int32) (c2 : Nat) (hc : c2 ≤ 512) (cr : Int32) : RD l yX1_surely wsX1_surely 2 G [.ref (ce 0), .int cr] (ceW G ce mk (nI c2) up) (some (.int (sureC mk c2 cr))) := by
  refine rd_of (cc := cX1_surely) (maxL := 4) (ret := (some .int)) (by decide) rfl (Nat.le_of_ble_eq_true rfl) ?_
  intro pG eG s mG below meth cG hx hb hr hml hts hown hlocks hP hK hN ls hl
  have hown : s.vm.findClass RX1 = some mG.cls := hown
  have hl : lv_has ls 4 [(0, .ref (ce 0)), (1, .int cr)] := hl
  refine lv_iconst (v := nI 0) hx hb dX1_surely_0 (by decide) ?_
  refine lv_istore_n (lv' := [(2, .int (nI 0)), (0, .ref (ce 0)), (1, .int cr)]) hx hb dX1_surely_1 rfl hl (by decide) rfl (fun ls hl => ?_)
  refine lv_iconst (v := nI 0) hx hb dX1_surely_2 (by decide) ?_
  refine lv_istore_n (lv' := [(3, .int (nI 0)), (2, .int (nI 0)), (0, .ref (ce 0)), (1, .int cr)]) hx hb dX1_surely_3 rfl hl (by decide) rfl (fun ls hl => ?_)
  have L4 : ∀ (fu : Nat) (k : Nat) (hk : k ≤ c2), c2 + 1 ≤ k + fu → ∀ ls : Array Slot, lv_has ls 4 [(0, .ref (ce 0)), (1, .int cr), (2, .int (sumI (fun i => bI (mk i) cr) k)), (3, .int (nI k))] → W pG l eG (RM 2 0 0) s mG ([.ref (ce 0), .int cr] : List Value).toArray below meth cG s.heap [] 0 0 (MQ below (rQ (some (.int (sureC mk c2 cr)))) ([.ref (ce 0), .int cr] : List Value).toArray s 0 0 (fun _ => False)) (F0 mG 4 ls []) := by
    intro fu
    induction fu with
    | zero => intro k hk hfu; exact absurd hfu (by omega)
    | succ fu ih =>
      intro k hk hfu ls hl
      refine lv_iload_n hx hb dX1_surely_4 rfl (lv_at hl 3 rfl) ?_
      refine lv_aload_n hx hb dX1_surely_5 rfl (lv_at hl 0 rfl) ?_
      refine va_get (D := G.1) (ws := ceW G ce mk (nI c2) up) (ci := 1) (v := .int (nI c2)) (C := RX1) (T := TX1) (N := 3) hx hb hts (fun _ h => List.mem_cons_of_mem _ (List.mem_append_right _ (h))) hown hK hP 0 rfl rfl 1 (by decide) (hts (.fieldLink RX1 19 "CreaseMaps$Census" "size" "I") (List.mem_of_getElem? (i := 1) rfl)) (fun _ h9 => h9) rfl dX1_surely_6 ?_
      refine lv_icmp_ge (tgt := 31) hx hb dX1_surely_9 (by decide) (fun c_9 => ?_) (fun c_9 => ?_)
      · have q1 : c2 ≤ k := fe c_9 (by omega) (by omega)
        obtain rfl : c2 = k := by omega
        refine lv_iload_n hx hb dX1_surely_31 rfl (lv_at hl 2 rfl) ?_
        refine lv_aload_n hx hb dX1_surely_32 rfl (lv_at hl 0 rfl) ?_
        refine va_get (D := G.1) (ws := ceW G ce mk (nI c2) up) (ci := 1) (v := .int (nI c2)) (C := RX1) (T := TX1) (N := 3) hx hb hts (fun _ h => List.mem_cons_of_mem _ (List.mem_append_right _ (h))) hown hK hP 0 rfl rfl 1 (by decide) (hts (.fieldLink RX1 19 "CreaseMaps$Census" "size" "I") (List.mem_of_getElem? (i := 1) rfl)) (fun _ h9 => h9) rfl dX1_surely_33 ?_
        refine lv_icmp_ne (tgt := 41) hx hb dX1_surely_36 (by decide) (fun c_36 => ?_) (fun c_36 => ?_)
        · refine lv_iload_n hx hb dX1_surely_41 rfl (lv_at hl 2 rfl) ?_
          refine lv_if_ne (tgt := 49) hx hb dX1_surely_42 (by decide) (fun c_42 => ?_) (fun c_42 => ?_)
          · refine lv_iconst (v := (-1)) hx hb dX1_surely_49 (by decide) ?_
            exact rd_iret hx hb hr hlocks (by unfold sureC; first | exact (if_pos c_36).symm | (rw [if_neg c_36]; first | exact (if_pos c_42).symm | exact (if_neg c_42).symm)) dX1_surely_50
          · refine lv_iconst (v := nI 0) hx hb dX1_surely_45 (by decide) ?_
            refine lv_goto (tgt := 50) hx hb dX1_surely_46 (by decide) ?_
            exact rd_iret hx hb hr hlocks (by unfold sureC; first | exact (if_pos c_36).symm | (rw [if_neg c_36]; first | exact (if_pos c_42).symm | exact (if_neg c_42).symm)) dX1_surely_50
        · refine lv_iconst (v := nI 1) hx hb dX1_surely_39 (by decide) ?_
          exact rd_iret hx hb hr hlocks (by unfold sureC; first | exact (if_pos c_36).symm | (rw [if_neg c_36]; first | exact (if_pos c_42).symm | exact (if_neg c_42).symm)) dX1_surely_40
      · have q1 : k < c2 := fl c_9 (by omega) (by omega)
        refine lv_iload_n hx hb dX1_surely_12 rfl (lv_at hl 2 rfl) ?_
        refine lv_aload_n hx hb dX1_surely_13 rfl (lv_at hl 0 rfl) ?_
        refine va_get (D := G.1) (ws := ceW G ce mk (nI c2) up) (ci := 1) (v := .ref (ce 1)) (C := RX1) (T := TX1) (N := 3) hx hb hts (fun _ h => List.mem_cons_of_mem _ (List.mem_append_right _ (h))) hown hK hP 0 rfl rfl 0 (by decide) (hts (.fieldLink RX1 9 "CreaseMaps$Census" "masks" "[I") (List.mem_of_getElem? (i := 2) rfl)) (fun _ h9 => h9) rfl dX1_surely_14 ?_
        refine lv_iload_n hx hb dX1_surely_17 rfl (lv_at hl 3 rfl) ?_
        refine va_iald (D := G.1) (ws := ceW G ce mk (nI c2) up) hx hb hK hP 1 0 (n := 512) rfl rfl (by first | assumption | exact vp_in_nI (by omega) (by omega)) dX1_surely_18 ?_
        refine lv_cgi (y := mk k) (by rw [nI_clamp (by omega)]) ?_
        refine lv_iload_n hx hb dX1_surely_19 rfl (lv_at hl 1 rfl) ?_
        refine rd_go (va_runSN (As := [.int (mk k), .int cr]) (rest := [.int (sumI (fun i => bI (mk i) cr) k)]) ⟨hx, hb, hml, hown, hts⟩ (c_X6_bit l G (mk k) cr) ⟨va_cnB 2 hts gX1_surely_X6_bit_n44 rfl rfl rfl hN.2.2.2.1 (hts (.initialized RX6) (List.mem_of_getElem? (i := 4) rfl)) (by decide +kernel) ⟨Nat.le_of_ble_eq_true rfl, Nat.le_of_ble_eq_true rfl⟩, (hts (.static yX6_bit) (List.mem_of_getElem? (i := 3) rfl)), trivial⟩ (rS (ws := []) hK hN P_nil) rfl rfl hl.1 rfl (lv_room (Nat.le_of_ble_eq_true rfl)) dX1_surely_20 ⟨Nat.le_of_ble_eq_true rfl, Nat.le_of_ble_eq_true rfl⟩) ?_
        refine lv_iadd hx hb dX1_surely_23 ?_
        refine lv_istore_n (lv' := [(2, .int ((sumI (fun i => bI (mk i) cr) k) + (bI (mk k) cr))), (0, .ref (ce 0)), (1, .int cr), (3, .int (nI k))]) hx hb dX1_surely_24 rfl hl (by decide) rfl (fun ls hl => ?_)
        refine lv_iinc (v := nI (k + 1)) (lv' := [(3, .int (nI (k + 1))), (2, .int ((sumI (fun i => bI (mk i) cr) k) + (bI (mk k) cr))), (0, .ref (ce 0)), (1, .int cr)]) hx hb dX1_surely_25 hl (k := 3) rfl (iincN k) (by decide) rfl (fun ls hl => ?_)
        refine lv_goto (tgt := 4) hx hb dX1_surely_28 (by decide) ?_
        exact ih (k + 1) (by omega) (by omega) ls (lv_as (l1 := [(0, .ref (ce 0)), (1, .int cr), (2, .int ((sumI (fun i => bI (mk i) cr) k) + (bI (mk k) cr))), (3, .int (nI (k + 1)))]) (lv_sub hl [2, 3, 1, 0] rfl) (by rfl))
  exact L4 (c2 + 1) 0 (by omega) (by omega) ls (lv_as (l1 := [(0, .ref (ce 0)), (1, .int cr), (2, .int (nI 0)), (3, .int (nI 0))]) (lv_sub hl [2, 3, 1, 0] rfl) (by rfl))

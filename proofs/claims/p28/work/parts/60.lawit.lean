/-! THE LAW: a method that reads the script, an iteration, the loop -/
def cellV (xs : Nat → Int32) (L k : Nat) : Int32 := if L ≤ k then 40503 * nI k + nI 977 else xs k
abbrev cPre (b L : Nat) (xs : Nat → Int32) (As : List Value) : Array Value → State → Prop := va_Pc As (fun U => va_X b L xs U U.heap ∧ b < U.heap.size)
theorem cPre_blind {b L : Nat} {xs : Nat → Int32} {As : List Value} : FrameBlind (cPre b L xs As) := fun _ U g mk q => ⟨q.1, va_X.moved (u := U) (U := U.calling g mk _) (Vm.Alike.refl U.vm) q.2.1, q.2.2⟩
set_option maxHeartbeats 4000000 in
theorem k_cell (l : Launch) {b L : Nat} {xs : Nat → Int32} (k : Nat) (hk : k < 2 ^ 30) (hL : L < 2 ^ 30) : Met l yL_cell wsL_cell (RM 1 0 0) (cPre b L xs [.ref b, .int (nI k)]) (rQ (some (.int (cellV xs L k)))) 0 0 (fun _ => False) := by
  refine Met.ofW (cc := cL_cell) (maxL := 2) (ret := some .int) (by decide) rfl ?_
  intro pG eG s mG args below meth cG s₁ B hml hv
  obtain ⟨rfl, hX, hbl⟩ := hv
  rw [lg_entry_eq]
  have hx := B.exec
  have hb := B.bytes
  have hr := B.returns
  have hts := atoms_spec (ws := wsL_cell) B.pre
  have hown : s.vm.findClass RL = some mG.cls := findClass_of_methodNamed B.named
  have hlocks := B.notSynchronized
  have hS : va_S (fun _ => False) s.heap s.heap [] := va_S.rf
  have hl := lv_entry ([.ref b, .int (nI k)]) (n := 2) (Nat.le_of_ble_eq_true rfl)
  generalize (lg_sl ([.ref b, .int (nI k)]) ++ List.replicate (2 - (lg_sl ([.ref b, .int (nI k)])).length) Slot.unset).toArray = ls at hl ⊢
  have hl : lv_has ls 2 [(0, .ref b), (1, .int (nI k))] := hl
  refine lv_iload_n hx hb dL_cell_0 rfl (lv_at hl 1 rfl) ?_
  refine lv_aload_n hx hb dL_cell_1 rfl (lv_at hl 0 rfl) ?_
  refine va_slen hx hb hX hbl (A := fun _ => False) id hS dL_cell_2 ?_
  refine lv_icmp_ge (tgt := 12) hx hb dL_cell_3 (by decide) (fun c_3 => ?_) (fun c_3 => ?_)
  · have c_3 : nI L ≤ nI k := c_3
    refine lv_ldc hx hb hown (hts (.constant RL 7 (40503)) (List.mem_of_getElem? (i := 1) rfl)) dL_cell_12 ?_
    refine lv_iload_n hx hb dL_cell_14 rfl (lv_at hl 1 rfl) ?_
    refine lv_imul hx hb dL_cell_15 ?_
    refine lv_sipush (v := nI 977) hx hb dL_cell_16 (by decide +kernel) ?_
    refine lv_iadd hx hb dL_cell_19 ?_
    exact rd_iret hx hb hr hlocks (by unfold cellV; rw [if_pos (fe c_3 (by omega) (by omega))]) dL_cell_20
  · have c_3 : ¬ nI L ≤ nI k := c_3
    have hkL := fl c_3 (by omega) (by omega)
    refine lv_aload_n hx hb dL_cell_6 rfl (lv_at hl 0 rfl) ?_
    refine lv_iload_n hx hb dL_cell_7 rfl (lv_at hl 1 rfl) ?_
    refine va_sld hx hb hX hbl (A := fun _ => False) id hS (vp_in_nI hkL (by omega)) dL_cell_8 ?_
    refine lv_goto (tgt := 20) hx hb dL_cell_9 (by decide) ?_
    exact rd_iret hx hb hr hlocks (by unfold cellV; rw [if_neg (by omega), nI_clamp (by omega)]) dL_cell_20
def zK (Z : ZZ) (a1 : Nat → Nat) : ZZ := (Z.1, Z.2.1, Z.2.2.1, Z.2.2.2.1, some (a1, gB Z.1), Z.2.2.2.2.2)
set_option maxRecDepth 100000 in
theorem k_undo2 (l : Launch) (G : GG) (sz : Nat) (X : AD) (Z : ZZ) (g9 : Nat → Nat → Int32) (u : CU) {B : Nat} (hZ : OKg B (zS Z g9).1) (hz : (zS Z g9).2.2.2.1 ≤ 6) : WRi l yX6_undo wsX6_undo 5 G [.ref X.1] (cT G X (zS Z g9) u) sz (S := Unit) (fun r _ => r = nI (svm Z.2.2.2.1)) (fun _ => cT G X (gB (gB Z.1), (zS Z g9).2.1, (zS Z g9).2.2.1, svm Z.2.2.2.1, Z.2.2.2.2.1, Z.2.2.2.2.2) (u.1, u.2.1, nI 0)) 0 0 := by
  have h := k_undo l G sz X (zS Z g9) u hZ hz (Nat.le_add_left 1 _)
  have e : (zS Z g9).2.2.1 ((zS Z g9).2.2.2.1 - 1) = gB Z.1 := va_up_s
  rw [e] at h
  exact h
/-- the machine at the law -/
def LE8 (p : Program) (l : Launch) (s : State) (m : MethodId) (args : Array Value) (c : Code) (G : GG) (Ar : Nat → Prop) (b9 L : Nat) (xs : Nat → Int32) : Prop :=
  p.tables.exec = Jvm.exec ∧ c.code = cL_law ∧ c.maxLocals = 8 ∧ s.vm.findClass RL = some m.cls ∧ (∀ w ∈ wsL_law, w.before args s = true) ∧ (KK G s ∧ NW s) ∧ (∀ q : Nat, s.heap.size ≤ q → Ar q) ∧ va_X b9 L xs s s.heap ∧ b9 < s.heap.size ∧ ¬ Ar b9
/-- the loop's head -/
def LH (p : Program) (l : Launch) (e : Env) (s : State) (m : MethodId) (args : Array Value) (below : List Frame) (meth : Method) (c : Code) (Q : State → Prop) (G : GG) (Ar : Nat → Prop) (b9 : Nat) (X : AD) (T k : Nat) : Prop :=
  ∀ (H : Heap) (locs : List Loc) (Z : ZZ) (u : CU), OKg k Z.1 → Z.2.2.2.1 ≤ 6 → CV Z.1 u → PP G (cT G X Z u) H → va_D Ar (cT G X Z u) → va_S Ar s.heap H locs → ∀ ls : Array Slot, lv_has ls 8 [(0, .ref b9), (1, .ref X.1), (2, .int (nI 1)), (3, .int (nI T)), (4, .int (nI k))] →
    W p l e room_1 s m args below meth c H locs (100 + 9 * k) (2000 + 84 * k) Q (F0 m 53 ls [])
theorem cS1 {b9 L : Nat} {xs : Nat → Int32} {s : State} {H : Heap} {Ar : Nat → Prop} {locs : List Loc} {As : List Value} (hXs : va_X b9 L xs s s.heap) (hbl : b9 < s.heap.size) (hbA : ¬ Ar b9) (hS : va_S Ar s.heap H locs) : PreS s H (cPre b9 L xs As) As :=
  ⟨cPre_blind, fun U hU hW => ⟨rfl, by rw [hU]; exact va_X.moved hW.alike (hXs.kept (hS.2.1 b9 hbl hbA)), by rw [hU]; exact Nat.lt_of_lt_of_le hbl hS.1⟩⟩
set_option maxHeartbeats 8000000 in
set_option maxRecDepth 100000 in
theorem law_it {p : Program} {l : Launch} {e : Env} {s : State} {m : MethodId} {args : Array Value} {below : List Frame} {meth : Method} {cd : Code} {Q : State → Prop} {G : GG} {Ar : Nat → Prop} {b9 L : Nat} {xs : Nat → Int32} {X : AD} (hE : LE8 p l s m args cd G Ar b9 L xs) {k T : Nat} (hkT : k < T) (hT : T ≤ 30) (hL : L ≤ 260) (hHd : LH p l e s m args below meth cd Q G Ar b9 X T (k + 1))
    (Z : ZZ) (u : CU) (hZ : OKg k Z.1) (hz : Z.2.2.2.1 ≤ 6) (hu : CV Z.1 u) {H : Heap} {locs : List Loc} (hP : PP G (cT G X Z u) H) (hD : va_D Ar (cT G X Z u)) (hS : va_S Ar s.heap H locs) {ls : Array Slot} (hl : lv_has ls 8 [(0, .ref b9), (1, .ref X.1), (2, .int (nI 1)), (3, .int (nI T)), (4, .int (nI k))]) : W p l e room_1 s m args below meth cd H locs (100 + 9 * k) (2000 + 84 * k) Q (F0 m 63 ls []) := by
  obtain ⟨hx, hb, hml, hown, hts, ⟨hK, hN⟩, hA, hXs, hbl, hbA⟩ := id hE
  refine lv_aload_n hx hb dL_law_63 rfl (lv_at hl 1 rfl) ?_
  refine lv_iconst (v := nI 3) hx hb dL_law_64 (by decide) ?_
  refine wr_woi (mid := cT G X Z u) (va_runV (As := [.int (nI 3)]) (rest := []) ⟨hx, hb, hml, hown, hts⟩ (k_co3 l G _ X Z u hZ hz hu) (cwV 1 hts gL_law_X6_count rfl rfl rfl (by decide +kernel) ⟨Nat.le_of_ble_eq_true rfl, Nat.le_of_ble_eq_true rfl⟩) (wVw (mid := cT G X Z u) (va_recv (ws := cT G X Z u) hK hP (ci := 5) (q0 := 0) rfl rfl) hK hN hP hD) rfl rfl hl.1 rfl (lv_room (Nat.le_of_ble_eq_true rfl)) dL_law_65 ⟨by show 100 + 9 * k + 0 ≤ 600130; omega, by show 2000 + 84 * k + 0 ≤ 7301080; omega⟩) hP hD hS hA (fun r u_1 H locs hw hP9 hD9 hS => ?_)
  obtain ⟨rfl, hvu_1⟩ := hw
  have hP : PP G (cT G X Z u_1) _ := hP9
  have hD : va_D Ar (cT G X Z u_1) := hD9
  refine lv_istore (lv' := [(5, .int (Z.1 0 6)), (0, .ref b9), (1, .ref X.1), (2, .int (nI 1)), (3, .int (nI T)), (4, .int (nI k))]) hx hb dL_law_68 hl (by decide) rfl (fun ls hl => ?_)
  refine lv_aload_n hx hb dL_law_70 rfl (lv_at hl 2 rfl) ?_
  refine wr_woi (mid := cT G X Z u_1) (va_runS (As := [.ref X.1]) (rest := []) ⟨hx, hb, hml, hown, hts⟩ (k_folded l G _ X Z u_1 hZ hz hvu_1) (va_cwS 1 hts gL_law_L_folded rfl rfl rfl (by decide +kernel) ⟨Nat.le_of_ble_eq_true rfl, Nat.le_of_ble_eq_true rfl⟩) (wSw (mid := cT G X Z u_1) hK hN hP hD) rfl rfl hl.1 rfl (lv_room (Nat.le_of_ble_eq_true rfl)) dL_law_71 ⟨by show 100 + 9 * k + 0 ≤ 600130; omega, by show 2000 + 84 * k + 0 ≤ 7301080; omega⟩) hP hD hS hA (fun r u_2 H locs hw hP9 hD9 hS => ?_)
  obtain ⟨rfl, hvu_2⟩ := hw
  have hP : PP G (cT G X Z u_2) _ := hP9
  have hD : va_D Ar (cT G X Z u_2) := hD9
  refine lv_istore (lv' := [(6, .int (Z.1 0 0)), (5, .int (Z.1 0 6)), (0, .ref b9), (1, .ref X.1), (2, .int (nI 1)), (3, .int (nI T)), (4, .int (nI k))]) hx hb dL_law_74 hl (by decide) rfl (fun ls hl => ?_)
  refine lv_aload_n hx hb dL_law_76 rfl (lv_at hl 3 rfl) ?_
  refine lv_iconst (v := nI 0) hx hb dL_law_77 (by decide) ?_
  have K9 : ∀ (a1 : Nat → Nat) (H : Heap) (locs : List Loc), PP G (cT G X (zK Z a1) u_2) H → va_D Ar (cT G X (zK Z a1) u_2) → va_S Ar s.heap H locs → W p l e room_1 s m args below meth cd H locs (100 + 9 * k + 7) (2000 + 84 * k + 64) Q (F0 m 81 ls [.int (Z.1 0 6)]) := by
    intro a1 H locs hP hD hS
    refine lv_iload hx hb dL_law_81 (lv_at hl 1 rfl) ?_
    refine lv_icmp_ne (tgt := 132) hx hb dL_law_83 (by decide) (fun c_83 => ?_) (fun c_83 => ?_)
    · exact absurd rfl c_83
    · refine lv_aload_n hx hb dL_law_86 rfl (lv_at hl 3 rfl) ?_
      refine lv_aload_n hx hb dL_law_87 rfl (lv_at hl 2 rfl) ?_
      refine lv_iconst (v := nI 2) hx hb dL_law_88 (by decide) ?_
      refine lv_iload hx hb dL_law_89 (lv_at hl 6 rfl) ?_
      refine lv_imul hx hb dL_law_91 ?_
      refine lv_cgi (y := nI (2 * k)) (pk_mul _ _) ?_
      refine rd_go (va_runS (As := [.ref b9, .int (nI (2 * k))]) (rest := [.ref X.1]) ⟨hx, hb, hml, hown, hts⟩ (k_cell l (2 * k) (by omega) (by omega)) (va_cwS 2 hts gL_law_L_cell rfl rfl rfl (by decide +kernel) ⟨Nat.le_of_ble_eq_true rfl, Nat.le_of_ble_eq_true rfl⟩) (cS1 hXs hbl hbA hS) rfl rfl hl.1 rfl (lv_room (Nat.le_of_ble_eq_true rfl)) dL_law_92 ⟨by show 100 + 9 * k + 7 + 0 ≤ 600130; omega, by show 2000 + 84 * k + 64 + 0 ≤ 7301080; omega⟩) ?_
      refine lv_aload_n hx hb dL_law_95 rfl (lv_at hl 2 rfl) ?_
      refine lv_iconst (v := nI 2) hx hb dL_law_96 (by decide) ?_
      refine lv_iload hx hb dL_law_97 (lv_at hl 6 rfl) ?_
      refine lv_imul hx hb dL_law_99 ?_
      refine lv_cgi (y := nI (2 * k)) (pk_mul _ _) ?_
      refine lv_iconst (v := nI 1) hx hb dL_law_100 (by decide) ?_
      refine lv_iadd hx hb dL_law_101 ?_
      refine lv_cgi (y := nI ((2 * k) + 1)) (nI_add _ _) ?_
      refine rd_go (va_runS (As := [.ref b9, .int (nI ((2 * k) + 1))]) (rest := [.int (cellV xs L (2 * k)), .ref X.1]) ⟨hx, hb, hml, hown, hts⟩ (k_cell l ((2 * k) + 1) (by omega) (by omega)) (va_cwS 2 hts gL_law_L_cell rfl rfl rfl (by decide +kernel) ⟨Nat.le_of_ble_eq_true rfl, Nat.le_of_ble_eq_true rfl⟩) (cS1 hXs hbl hbA hS) rfl rfl hl.1 rfl (lv_room (Nat.le_of_ble_eq_true rfl)) dL_law_102 ⟨by show 100 + 9 * k + 7 + 0 ≤ 600130; omega, by show 2000 + 84 * k + 64 + 0 ≤ 7301080; omega⟩) ?_
      refine wr_woi (mid := cT G X (zK Z a1) u_2) (va_runS (As := [.ref X.1, .int (cellV xs L (2 * k)), .int (cellV xs L ((2 * k) + 1))]) (rest := []) ⟨hx, hb, hml, hown, hts⟩ (k_change l G _ X (zK Z a1) u_2 (B := k) hZ hz hvu_2 (cellV xs L (2 * k)) (cellV xs L ((2 * k) + 1))) (va_cwS 3 hts gL_law_L_change rfl rfl rfl (by decide +kernel) ⟨Nat.le_of_ble_eq_true rfl, Nat.le_of_ble_eq_true rfl⟩) (wSw (mid := cT G X (zK Z a1) u_2) hK hN hP hD) rfl rfl hl.1 rfl (lv_room (Nat.le_of_ble_eq_true rfl)) dL_law_105 ⟨by show 100 + 9 * k + 7 + 0 ≤ 600130; omega, by show 2000 + 84 * k + 64 + 0 ≤ 7301080; omega⟩) hP hD hS hA (fun r v9 H locs hw hP9 hD9 hS => ?_)
      obtain ⟨⟨g7, P7, F7, z7, o7, q7⟩, u7⟩ := v9
      obtain ⟨hr9, hZ7, hz7, ho7, hc7⟩ := hw
      have ho7 : o7 = some (a1, gB Z.1) := ho7
      subst hr9 ho7
      have hP : PP G (cT G X (g7, P7, F7, z7, some (a1, gB Z.1), q7) u7) _ := hP9
      have hD : va_D Ar (cT G X (g7, P7, F7, z7, some (a1, gB Z.1), q7) u7) := hD9
      have hZ7 : OKg (k + 1) (g7, P7, F7, z7, some (a1, gB Z.1), q7).1 := hZ7
      have hz7 : (g7, P7, F7, z7, some (a1, gB Z.1), q7).2.2.2.1 ≤ 6 := hz7
      have hc7 : CV (g7, P7, F7, z7, some (a1, gB Z.1), q7).1 u7 := hc7
      refine lv_if_eq (tgt := 132) hx hb dL_law_108 (by decide) (fun c_108 => ?_) (fun c_108 => ?_)
      · exact absurd c_108 (by decide)
      · refine lv_aload_n hx hb dL_law_111 rfl (lv_at hl 3 rfl) ?_
        refine lv_aload_n hx hb dL_law_112 rfl (lv_at hl 2 rfl) ?_
        refine lv_iconst (v := nI 2) hx hb dL_law_113 (by decide) ?_
        refine lv_iload hx hb dL_law_114 (lv_at hl 6 rfl) ?_
        refine lv_imul hx hb dL_law_116 ?_
        refine lv_cgi (y := nI (2 * k)) (pk_mul _ _) ?_
        refine lv_iconst (v := nI 1) hx hb dL_law_117 (by decide) ?_
        refine lv_iadd hx hb dL_law_118 ?_
        refine lv_cgi (y := nI ((2 * k) + 1)) (nI_add _ _) ?_
        refine rd_go (va_runS (As := [.ref b9, .int (nI ((2 * k) + 1))]) (rest := [.ref X.1]) ⟨hx, hb, hml, hown, hts⟩ (k_cell l ((2 * k) + 1) (by omega) (by omega)) (va_cwS 2 hts gL_law_L_cell rfl rfl rfl (by decide +kernel) ⟨Nat.le_of_ble_eq_true rfl, Nat.le_of_ble_eq_true rfl⟩) (cS1 hXs hbl hbA hS) rfl rfl hl.1 rfl (lv_room (Nat.le_of_ble_eq_true rfl)) dL_law_119 ⟨by show 100 + 9 * k + 7 + 0 ≤ 600130; omega, by show 2000 + 84 * k + 64 + 0 ≤ 7301080; omega⟩) ?_
        refine wr_woi (mid := cT G X (g7, P7, F7, z7, some (a1, gB Z.1), q7) u7) (va_runS (As := [.ref X.1, .int (cellV xs L ((2 * k) + 1))]) (rest := []) ⟨hx, hb, hml, hown, hts⟩ (k_holds l G _ X (g7, P7, F7, z7, some (a1, gB Z.1), q7) u7 hZ7 hz7 hc7 (by omega) (cellV xs L ((2 * k) + 1))) (va_cwS 2 hts gL_law_L_holds rfl rfl rfl (by decide +kernel) ⟨Nat.le_of_ble_eq_true rfl, Nat.le_of_ble_eq_true rfl⟩) (wSw (mid := cT G X (g7, P7, F7, z7, some (a1, gB Z.1), q7) u7) hK hN hP hD) rfl rfl hl.1 rfl (lv_room (Nat.le_of_ble_eq_true rfl)) dL_law_122 ⟨by show 100 + 9 * k + 7 + 2 ≤ 600130; omega, by show 2000 + 84 * k + 64 + 20 ≤ 7301080; omega⟩) hP hD hS hA (fun r u_3 H locs hw hP9 hD9 hS => ?_)
        obtain ⟨rfl, hvu_3⟩ := hw
        have hP : PP G (cT G X (g7, P7, F7, z7, some (a1, gB Z.1), q7) u_3) _ := hP9
        have hD : va_D Ar (cT G X (g7, P7, F7, z7, some (a1, gB Z.1), q7) u_3) := hD9
        refine lv_if_eq (tgt := 132) hx hb dL_law_125 (by decide) (fun c_125 => ?_) (fun c_125 => ?_)
        · exact absurd c_125 (by decide)
        · refine lv_iconst (v := nI 1) hx hb dL_law_128 (by decide) ?_
          refine lv_goto (tgt := 133) hx hb dL_law_129 (by decide) ?_
          refine lv_istore_n (lv' := [(2, .int (nI 1)), (6, .int (Z.1 0 0)), (5, .int (Z.1 0 6)), (0, .ref b9), (1, .ref X.1), (3, .int (nI T)), (4, .int (nI k))]) hx hb dL_law_133 rfl hl (by decide) rfl (fun ls hl => ?_)
          refine lv_iload_n hx hb dL_law_134 rfl (lv_at hl 0 rfl) ?_
          refine lv_if_eq (tgt := 194) hx hb dL_law_135 (by decide) (fun c_135 => ?_) (fun c_135 => ?_)
          · exact absurd c_135 (by decide)
          · refine lv_iload hx hb dL_law_138 (lv_at hl 6 rfl) ?_
            refine lv_bipush (v := nI 6) hx hb dL_law_140 (by decide) ?_
            refine lv_irem hx hb dL_law_142 (by decide) ?_
            refine lv_cgi (y := nI (k % 6)) (pk_rem (by omega) (by omega) (by omega)) ?_
            refine lv_iconst (v := nI 5) hx hb dL_law_143 (by decide) ?_
            refine lv_icmp_ne (tgt := 194) hx hb dL_law_144 (by decide) (fun c_144 => ?_) (fun c_144 => ?_)
            · refine lv_iinc (v := nI (k + 1)) (lv' := [(4, .int (nI (k + 1))), (2, .int (nI 1)), (6, .int (Z.1 0 0)), (5, .int (Z.1 0 6)), (0, .ref b9), (1, .ref X.1), (3, .int (nI T))]) hx hb dL_law_194 hl (k := 6) rfl (iincN k) (by decide) rfl (fun ls hl => ?_)
              refine lv_goto (tgt := 53) hx hb dL_law_197 (by decide) ?_
              refine W.widen (k := 100 + 9 * (k + 1)) (n := 2000 + 84 * (k + 1)) (by omega) (by omega) ?_
              exact hHd H locs (g7, P7, F7, z7, some (a1, gB Z.1), q7) u_3 hZ7 hz7 hvu_3 hP hD hS ls (lv_sub hl [4, 5, 1, 6, 0] rfl)
            · refine lv_aload_n hx hb dL_law_147 rfl (lv_at hl 4 rfl) ?_
              refine wr_woi (mid := cT G X (g7, P7, F7, z7, some (a1, gB Z.1), q7) u_3) (va_runS (As := [.ref X.1]) (rest := []) ⟨hx, hb, hml, hown, hts⟩ (k_folded l G _ X (g7, P7, F7, z7, some (a1, gB Z.1), q7) u_3 hZ7 hz7 hvu_3) (va_cwS 1 hts gL_law_L_folded rfl rfl rfl (by decide +kernel) ⟨Nat.le_of_ble_eq_true rfl, Nat.le_of_ble_eq_true rfl⟩) (wSw (mid := cT G X (g7, P7, F7, z7, some (a1, gB Z.1), q7) u_3) hK hN hP hD) rfl rfl hl.1 rfl (lv_room (Nat.le_of_ble_eq_true rfl)) dL_law_148 ⟨by show 100 + 9 * k + 7 + 2 + 0 ≤ 600130; omega, by show 2000 + 84 * k + 64 + 20 + 0 ≤ 7301080; omega⟩) hP hD hS hA (fun r u_4 H locs hw hP9 hD9 hS => ?_)
              obtain ⟨rfl, hvu_4⟩ := hw
              have hP : PP G (cT G X (g7, P7, F7, z7, some (a1, gB Z.1), q7) u_4) _ := hP9
              have hD : va_D Ar (cT G X (g7, P7, F7, z7, some (a1, gB Z.1), q7) u_4) := hD9
              refine lv_istore (lv' := [(7, .int ((g7, P7, F7, z7, some (a1, gB Z.1), q7).1 0 0)), (2, .int (nI 1)), (6, .int (Z.1 0 0)), (5, .int (Z.1 0 6)), (0, .ref b9), (1, .ref X.1), (3, .int (nI T)), (4, .int (nI k))]) hx hb dL_law_151 hl (by decide) rfl (fun ls hl => ?_)
              refine lv_aload_n hx hb dL_law_153 rfl (lv_at hl 5 rfl) ?_
              refine lv_iconst (v := nI 0) hx hb dL_law_154 (by decide) ?_
              refine wr_woi (mid := cT G X (g7, P7, F7, z7, some (a1, gB Z.1), q7) u_4) (va_runV (As := [.int (nI 0)]) (rest := []) ⟨hx, hb, hml, hown, hts⟩ (k_back l G _ X g7 P7 F7 z7 q7 u_4 hZ7 hz7 a1 (gB Z.1)) (cwV 1 hts gL_law_X6_goBack rfl rfl rfl (by decide +kernel) ⟨Nat.le_of_ble_eq_true rfl, Nat.le_of_ble_eq_true rfl⟩) (wVw (mid := cT G X (g7, P7, F7, z7, some (a1, gB Z.1), q7) u_4) (va_recv (ws := cT G X (g7, P7, F7, z7, some (a1, gB Z.1), q7) u_4) hK hP (ci := 5) (q0 := 0) rfl rfl) hK hN hP hD) rfl rfl hl.1 rfl (lv_room (Nat.le_of_ble_eq_true rfl)) dL_law_155 ⟨by show 100 + 9 * k + 7 + 2 + 0 ≤ 600130; omega, by show 2000 + 84 * k + 64 + 20 + 0 ≤ 7301080; omega⟩) hP hD hS hA (fun r u9 H locs hw hP9 hD9 hS => ?_)
              subst hw
              have hP : PP G (cT G X (zS (g7, P7, F7, z7, some (a1, gB Z.1), q7) (gB (gB Z.1))) (u_4.1, u_4.2.1, nI 0)) _ := hP9
              have hD : va_D Ar (cT G X (zS (g7, P7, F7, z7, some (a1, gB Z.1), q7) (gB (gB Z.1))) (u_4.1, u_4.2.1, nI 0)) := hD9
              have hZ8 : OKg k (zS (g7, P7, F7, z7, some (a1, gB Z.1), q7) (gB (gB Z.1))).1 := hZ
              have hz8 : (zS (g7, P7, F7, z7, some (a1, gB Z.1), q7) (gB (gB Z.1))).2.2.2.1 ≤ 6 := svm_le hz7
              have hc8 : CV (zS (g7, P7, F7, z7, some (a1, gB Z.1), q7) (gB (gB Z.1))).1 (u_4.1, u_4.2.1, nI 0) := Or.inl rfl
              refine lv_iload hx hb dL_law_158 (lv_at hl 3 rfl) ?_
              refine lv_icmp_ne (tgt := 192) hx hb dL_law_160 (by decide) (fun c_160 => ?_) (fun c_160 => ?_)
              · exact absurd rfl c_160
              · refine lv_aload_n hx hb dL_law_163 rfl (lv_at hl 5 rfl) ?_
                refine wr_woi (mid := cT G X (zS (g7, P7, F7, z7, some (a1, gB Z.1), q7) (gB (gB Z.1))) (u_4.1, u_4.2.1, nI 0)) (va_runS (As := [.ref X.1]) (rest := []) ⟨hx, hb, hml, hown, hts⟩ (k_folded l G _ X (zS (g7, P7, F7, z7, some (a1, gB Z.1), q7) (gB (gB Z.1))) (u_4.1, u_4.2.1, nI 0) hZ8 hz8 hc8) (va_cwS 1 hts gL_law_L_folded rfl rfl rfl (by decide +kernel) ⟨Nat.le_of_ble_eq_true rfl, Nat.le_of_ble_eq_true rfl⟩) (wSw (mid := cT G X (zS (g7, P7, F7, z7, some (a1, gB Z.1), q7) (gB (gB Z.1))) (u_4.1, u_4.2.1, nI 0)) hK hN hP hD) rfl rfl hl.1 rfl (lv_room (Nat.le_of_ble_eq_true rfl)) dL_law_164 ⟨by show 100 + 9 * k + 7 + 2 + 0 ≤ 600130; omega, by show 2000 + 84 * k + 64 + 20 + 0 ≤ 7301080; omega⟩) hP hD hS hA (fun r u_5 H locs hw hP9 hD9 hS => ?_)
                obtain ⟨rfl, hvu_5⟩ := hw
                have hP : PP G (cT G X (zS (g7, P7, F7, z7, some (a1, gB Z.1), q7) (gB (gB Z.1))) u_5) _ := hP9
                have hD : va_D Ar (cT G X (zS (g7, P7, F7, z7, some (a1, gB Z.1), q7) (gB (gB Z.1))) u_5) := hD9
                refine lv_iload hx hb dL_law_167 (lv_at hl 2 rfl) ?_
                refine lv_icmp_ne (tgt := 192) hx hb dL_law_169 (by decide) (fun c_169 => ?_) (fun c_169 => ?_)
                · exact absurd rfl c_169
                · refine lv_aload_n hx hb dL_law_172 rfl (lv_at hl 5 rfl) ?_
                  refine wr_woi (mid := cT G X (zS (g7, P7, F7, z7, some (a1, gB Z.1), q7) (gB (gB Z.1))) u_5) (va_runV (As := []) (rest := []) ⟨hx, hb, hml, hown, hts⟩ (k_undo2 l G _ X (g7, P7, F7, z7, some (a1, gB Z.1), q7) (gB (gB Z.1)) u_5 hZ8 hz8) (cwV 0 hts gL_law_X6_undo rfl rfl rfl (by decide +kernel) ⟨Nat.le_of_ble_eq_true rfl, Nat.le_of_ble_eq_true rfl⟩) (wVw (mid := cT G X (zS (g7, P7, F7, z7, some (a1, gB Z.1), q7) (gB (gB Z.1))) u_5) (va_recv (ws := cT G X (zS (g7, P7, F7, z7, some (a1, gB Z.1), q7) (gB (gB Z.1))) u_5) hK hP (ci := 5) (q0 := 0) rfl rfl) hK hN hP hD) rfl rfl hl.1 rfl (lv_room (Nat.le_of_ble_eq_true rfl)) dL_law_173 ⟨by show 100 + 9 * k + 7 + 2 + 0 ≤ 600130; omega, by show 2000 + 84 * k + 64 + 20 + 0 ≤ 7301080; omega⟩) hP hD hS hA (fun r u9 H locs hw hP9 hD9 hS => ?_)
                  subst hw
                  have hP : PP G (cT G X (gB (gB (g7, P7, F7, z7, some (a1, gB Z.1), q7).1), (zS (g7, P7, F7, z7, some (a1, gB Z.1), q7) (gB (gB Z.1))).2.1, (zS (g7, P7, F7, z7, some (a1, gB Z.1), q7) (gB (gB Z.1))).2.2.1, svm (g7, P7, F7, z7, some (a1, gB Z.1), q7).2.2.2.1, (g7, P7, F7, z7, some (a1, gB Z.1), q7).2.2.2.2.1, (g7, P7, F7, z7, some (a1, gB Z.1), q7).2.2.2.2.2) (u_5.1, u_5.2.1, nI 0)) _ := hP9
                  have hD : va_D Ar (cT G X (gB (gB (g7, P7, F7, z7, some (a1, gB Z.1), q7).1), (zS (g7, P7, F7, z7, some (a1, gB Z.1), q7) (gB (gB Z.1))).2.1, (zS (g7, P7, F7, z7, some (a1, gB Z.1), q7) (gB (gB Z.1))).2.2.1, svm (g7, P7, F7, z7, some (a1, gB Z.1), q7).2.2.2.1, (g7, P7, F7, z7, some (a1, gB Z.1), q7).2.2.2.2.1, (g7, P7, F7, z7, some (a1, gB Z.1), q7).2.2.2.2.2) (u_5.1, u_5.2.1, nI 0)) := hD9
                  have hZ10 : OKg (k + 1) (gB (gB (g7, P7, F7, z7, some (a1, gB Z.1), q7).1), (zS (g7, P7, F7, z7, some (a1, gB Z.1), q7) (gB (gB Z.1))).2.1, (zS (g7, P7, F7, z7, some (a1, gB Z.1), q7) (gB (gB Z.1))).2.2.1, svm (g7, P7, F7, z7, some (a1, gB Z.1), q7).2.2.2.1, (g7, P7, F7, z7, some (a1, gB Z.1), q7).2.2.2.2.1, (g7, P7, F7, z7, some (a1, gB Z.1), q7).2.2.2.2.2).1 := hZ7
                  have hz10 : (gB (gB (g7, P7, F7, z7, some (a1, gB Z.1), q7).1), (zS (g7, P7, F7, z7, some (a1, gB Z.1), q7) (gB (gB Z.1))).2.1, (zS (g7, P7, F7, z7, some (a1, gB Z.1), q7) (gB (gB Z.1))).2.2.1, svm (g7, P7, F7, z7, some (a1, gB Z.1), q7).2.2.2.1, (g7, P7, F7, z7, some (a1, gB Z.1), q7).2.2.2.2.1, (g7, P7, F7, z7, some (a1, gB Z.1), q7).2.2.2.2.2).2.2.2.1 ≤ 6 := Nat.le_of_succ_le (svm_le hz7)
                  have hc10 : CV (gB (gB (g7, P7, F7, z7, some (a1, gB Z.1), q7).1), (zS (g7, P7, F7, z7, some (a1, gB Z.1), q7) (gB (gB Z.1))).2.1, (zS (g7, P7, F7, z7, some (a1, gB Z.1), q7) (gB (gB Z.1))).2.2.1, svm (g7, P7, F7, z7, some (a1, gB Z.1), q7).2.2.2.1, (g7, P7, F7, z7, some (a1, gB Z.1), q7).2.2.2.2.1, (g7, P7, F7, z7, some (a1, gB Z.1), q7).2.2.2.2.2).1 (u_5.1, u_5.2.1, nI 0) := Or.inl rfl
                  refine lv_if_lt (tgt := 192) hx hb dL_law_176 (by decide) (fun c_176 => ?_) (fun c_176 => ?_)
                  · exact absurd c_176 (nI_pos (by have := hz8; show svm z7 < 2 ^ 31; have h9 : svm z7 + 1 ≤ 6 := hz8; omega))
                  · refine lv_aload_n hx hb dL_law_179 rfl (lv_at hl 5 rfl) ?_
                    refine wr_woi (mid := cT G X (gB (gB (g7, P7, F7, z7, some (a1, gB Z.1), q7).1), (zS (g7, P7, F7, z7, some (a1, gB Z.1), q7) (gB (gB Z.1))).2.1, (zS (g7, P7, F7, z7, some (a1, gB Z.1), q7) (gB (gB Z.1))).2.2.1, svm (g7, P7, F7, z7, some (a1, gB Z.1), q7).2.2.2.1, (g7, P7, F7, z7, some (a1, gB Z.1), q7).2.2.2.2.1, (g7, P7, F7, z7, some (a1, gB Z.1), q7).2.2.2.2.2) (u_5.1, u_5.2.1, nI 0)) (va_runS (As := [.ref X.1]) (rest := []) ⟨hx, hb, hml, hown, hts⟩ (k_folded l G _ X (gB (gB (g7, P7, F7, z7, some (a1, gB Z.1), q7).1), (zS (g7, P7, F7, z7, some (a1, gB Z.1), q7) (gB (gB Z.1))).2.1, (zS (g7, P7, F7, z7, some (a1, gB Z.1), q7) (gB (gB Z.1))).2.2.1, svm (g7, P7, F7, z7, some (a1, gB Z.1), q7).2.2.2.1, (g7, P7, F7, z7, some (a1, gB Z.1), q7).2.2.2.2.1, (g7, P7, F7, z7, some (a1, gB Z.1), q7).2.2.2.2.2) (u_5.1, u_5.2.1, nI 0) hZ10 hz10 hc10) (va_cwS 1 hts gL_law_L_folded rfl rfl rfl (by decide +kernel) ⟨Nat.le_of_ble_eq_true rfl, Nat.le_of_ble_eq_true rfl⟩) (wSw (mid := cT G X (gB (gB (g7, P7, F7, z7, some (a1, gB Z.1), q7).1), (zS (g7, P7, F7, z7, some (a1, gB Z.1), q7) (gB (gB Z.1))).2.1, (zS (g7, P7, F7, z7, some (a1, gB Z.1), q7) (gB (gB Z.1))).2.2.1, svm (g7, P7, F7, z7, some (a1, gB Z.1), q7).2.2.2.1, (g7, P7, F7, z7, some (a1, gB Z.1), q7).2.2.2.2.1, (g7, P7, F7, z7, some (a1, gB Z.1), q7).2.2.2.2.2) (u_5.1, u_5.2.1, nI 0)) hK hN hP hD) rfl rfl hl.1 rfl (lv_room (Nat.le_of_ble_eq_true rfl)) dL_law_180 ⟨by show 100 + 9 * k + 7 + 2 + 0 ≤ 600130; omega, by show 2000 + 84 * k + 64 + 20 + 0 ≤ 7301080; omega⟩) hP hD hS hA (fun r u_6 H locs hw hP9 hD9 hS => ?_)
                    obtain ⟨rfl, hvu_6⟩ := hw
                    have hP : PP G (cT G X (gB (gB (g7, P7, F7, z7, some (a1, gB Z.1), q7).1), (zS (g7, P7, F7, z7, some (a1, gB Z.1), q7) (gB (gB Z.1))).2.1, (zS (g7, P7, F7, z7, some (a1, gB Z.1), q7) (gB (gB Z.1))).2.2.1, svm (g7, P7, F7, z7, some (a1, gB Z.1), q7).2.2.2.1, (g7, P7, F7, z7, some (a1, gB Z.1), q7).2.2.2.2.1, (g7, P7, F7, z7, some (a1, gB Z.1), q7).2.2.2.2.2) u_6) _ := hP9
                    have hD : va_D Ar (cT G X (gB (gB (g7, P7, F7, z7, some (a1, gB Z.1), q7).1), (zS (g7, P7, F7, z7, some (a1, gB Z.1), q7) (gB (gB Z.1))).2.1, (zS (g7, P7, F7, z7, some (a1, gB Z.1), q7) (gB (gB Z.1))).2.2.1, svm (g7, P7, F7, z7, some (a1, gB Z.1), q7).2.2.2.1, (g7, P7, F7, z7, some (a1, gB Z.1), q7).2.2.2.2.1, (g7, P7, F7, z7, some (a1, gB Z.1), q7).2.2.2.2.2) u_6) := hD9
                    refine lv_iload hx hb dL_law_183 (lv_at hl 0 rfl) ?_
                    refine lv_icmp_ne (tgt := 192) hx hb dL_law_185 (by decide) (fun c_185 => ?_) (fun c_185 => ?_)
                    · exact absurd rfl c_185
                    · refine lv_iconst (v := nI 1) hx hb dL_law_188 (by decide) ?_
                      refine lv_goto (tgt := 193) hx hb dL_law_189 (by decide) ?_
                      refine lv_istore_n (lv' := [(2, .int (nI 1)), (7, .int ((g7, P7, F7, z7, some (a1, gB Z.1), q7).1 0 0)), (6, .int (Z.1 0 0)), (5, .int (Z.1 0 6)), (0, .ref b9), (1, .ref X.1), (3, .int (nI T)), (4, .int (nI k))]) hx hb dL_law_193 rfl hl (by decide) rfl (fun ls hl => ?_)
                      refine lv_iinc (v := nI (k + 1)) (lv' := [(4, .int (nI (k + 1))), (2, .int (nI 1)), (7, .int ((g7, P7, F7, z7, some (a1, gB Z.1), q7).1 0 0)), (6, .int (Z.1 0 0)), (5, .int (Z.1 0 6)), (0, .ref b9), (1, .ref X.1), (3, .int (nI T))]) hx hb dL_law_194 hl (k := 7) rfl (iincN k) (by decide) rfl (fun ls hl => ?_)
                      refine lv_goto (tgt := 53) hx hb dL_law_197 (by decide) ?_
                      refine W.widen (k := 100 + 9 * (k + 1)) (n := 2000 + 84 * (k + 1)) (by omega) (by omega) ?_
                      exact hHd H locs (gB (gB (g7, P7, F7, z7, some (a1, gB Z.1), q7).1), (zS (g7, P7, F7, z7, some (a1, gB Z.1), q7) (gB (gB Z.1))).2.1, (zS (g7, P7, F7, z7, some (a1, gB Z.1), q7) (gB (gB Z.1))).2.2.1, svm (g7, P7, F7, z7, some (a1, gB Z.1), q7).2.2.2.1, (g7, P7, F7, z7, some (a1, gB Z.1), q7).2.2.2.2.1, (g7, P7, F7, z7, some (a1, gB Z.1), q7).2.2.2.2.2) u_6 hZ10 hz10 hvu_6 hP hD hS ls (lv_sub hl [5, 6, 1, 7, 0] rfl)
  obtain ⟨g9, P9, F9, z9, o9, q9⟩ := Z
  cases o9 with
  | none =>
    refine wr_woi (mid := cT G X (g9, P9, F9, z9, none, q9) u_2) (va_runV (As := [.int (nI 0)]) (rest := []) ⟨hx, hb, hml, hown, hts⟩ (k_keepn l G _ X g9 P9 F9 z9 q9 u_2 hZ hz) (cwV 1 hts gL_law_X6_keep rfl rfl rfl (by decide +kernel) ⟨Nat.le_of_ble_eq_true rfl, Nat.le_of_ble_eq_true rfl⟩) (wVw (mid := cT G X (g9, P9, F9, z9, none, q9) u_2) (va_recv (ws := cT G X (g9, P9, F9, z9, none, q9) u_2) hK hP (ci := 5) (q0 := 0) rfl rfl) hK hN hP hD) rfl rfl hl.1 rfl (lv_room (Nat.le_of_ble_eq_true rfl)) dL_law_78 ⟨by show 100 + 9 * k + 7 ≤ 600130; omega, by show 2000 + 84 * k + 64 ≤ 7301080; omega⟩) hP hD hS hA (fun r a9 H locs hw hP9 hD9 hS => ?_)
    subst hw
    exact K9 a9 H locs hP9 hD9 hS
  | some x9 =>
    obtain ⟨a1, g1⟩ := x9
    refine wr_woi (mid := cT G X (g9, P9, F9, z9, some (a1, g1), q9) u_2) (va_runV (As := [.int (nI 0)]) (rest := []) ⟨hx, hb, hml, hown, hts⟩ (k_keeps l G _ X g9 P9 F9 z9 q9 u_2 hZ hz a1 g1) (cwV 1 hts gL_law_X6_keep rfl rfl rfl (by decide +kernel) ⟨Nat.le_of_ble_eq_true rfl, Nat.le_of_ble_eq_true rfl⟩) (wVw (mid := cT G X (g9, P9, F9, z9, some (a1, g1), q9) u_2) (va_recv (ws := cT G X (g9, P9, F9, z9, some (a1, g1), q9) u_2) hK hP (ci := 5) (q0 := 0) rfl rfl) hK hN hP hD) rfl rfl hl.1 rfl (lv_room (Nat.le_of_ble_eq_true rfl)) dL_law_78 ⟨by show 100 + 9 * k + 7 ≤ 600130; omega, by show 2000 + 84 * k + 64 ≤ 7301080; omega⟩) hP hD hS hA (fun r u9 H locs hw hP9 hD9 hS => ?_)
    subst hw
    exact K9 a1 H locs hP9 hD9 hS

set_option maxHeartbeats 4000000 in
theorem law_loop {p : Program} {l : Launch} {e : Env} {s : State} {m : MethodId} {args : Array Value} {below : List Frame} {meth : Method} {cd : Code} {Q : State → Prop} {G : GG} {Ar : Nat → Prop} {b9 L : Nat} {xs : Nat → Int32} {X : AD} (hE : LE8 p l s m args cd G Ar b9 L xs) {T : Nat} (hT : T ≤ 30) (hL : L ≤ 260)
    (hEnd : ∀ (H : Heap) (locs : List Loc) (ls : Array Slot) (ce9 sl9 : Nat), ce9 ≤ 600130 → sl9 ≤ 7301080 → va_S Ar s.heap H locs → lv_has ls 8 [(2, .int (nI 1))] → W p l e room_1 s m args below meth cd H locs ce9 sl9 Q (F0 m 200 ls [])) :
    ∀ fu k, k ≤ T → T + 1 ≤ k + fu → LH p l e s m args below meth cd Q G Ar b9 X T k := by
  intro fu
  induction fu with
  | zero => intro k h1 h2; exact absurd h2 (by omega)
  | succ fu ih =>
    intro k hkT hfu H locs Z u hZ hz hu hP hD hS ls hl
    obtain ⟨hx, hb, hml, hown, hts, ⟨hK, hN⟩, hA, hXs, hbl, hbA⟩ := id hE
    refine lv_iload hx hb dL_law_53 (lv_at hl 4 rfl) ?_
    refine lv_iload_n hx hb dL_law_55 rfl (lv_at hl 3 rfl) ?_
    refine lv_icmp_ge (tgt := 200) hx hb dL_law_56 (by decide) (fun c_56 => ?_) (fun c_56 => ?_)
    · exact hEnd H locs ls _ _ (by omega) (by omega) hS (lv_sub hl [2] rfl)
    · have hk := fl c_56 (by omega) (by omega)
      refine lv_iload_n hx hb dL_law_59 rfl (lv_at hl 2 rfl) ?_
      refine lv_if_eq (tgt := 200) hx hb dL_law_60 (by decide) (fun c_60 => absurd c_60 (by decide)) (fun c_60 => ?_)
      exact law_it hE hk hT hL (ih (k + 1) (by omega) (by omega)) Z u hZ hz hu hP hD hS hl

set_option maxHeartbeats 4000000 in
set_option maxRecDepth 100000 in
theorem w_fold_ok (l : Launch) (G : GG) (sz xa oa : Nat) (fs : List Value) (wr : va_W) (og : Nat → Int64) (p0 : Int32) {S : Type} {post : Int32 → S → Prop} {ou : S → va_W} (hc : ∀ sz : Nat, WRi l yX6_fold wsX6_fold 5 G [.ref xa, .int p0] ([(xa, .inr (5, fs))] ++ (wr)) sz (S := S) post ou 0 0) : LWi l yL_fold wsL_fold 6 G [.ref xa, .int p0, .ref oa] ([(oa, .inl (G.2.2.2.2, 1, .inr (.inl og)))] ++ ([(xa, .inr (5, fs))] ++ (wr))) sz (S := Int32 × S) (fun r u => r = nI 0 ∧ post u.1 u.2) (fun u => [(oa, .inl (G.2.2.2.2, 1, .inr (.inl (vp_updL og 0 (u.1.toInt64)))))] ++ ou u.2) 0 0 := by
  refine lw_of (l := l) (y := yL_fold) (w := wsL_fold) (d := 6) (G := G) (As := [.ref xa, .int p0, .ref oa]) (sz := sz) (mc := 0) (ms := 0) (cc := cL_fold) (maxL := 4) (ret := (some .int)) (hh := [(0, 9, 12, 13)]) (Qc := fun Ar => wQi G (S := Int32 × S) (fun r u => r = nI 0 ∧ post u.1 u.2) (fun u => [(oa, .inl (G.2.2.2.2, 1, .inr (.inl (vp_updL og 0 (u.1.toInt64)))))] ++ ou u.2) Ar) (by decide) rfl (Nat.le_of_ble_eq_true rfl) ?_
  intro pG eG s mG below meth cG hx hb hr hml hts hown hlocks htb hP hK hN hX hZ Ar hD hA hS ls hl
  have hown : s.vm.findClass RL = some mG.cls := hown
  have hP : PP G ([(oa, .inl (G.2.2.2.2, 1, .inr (.inl og)))] ++ ([(xa, .inr (5, fs))] ++ (wr))) s.heap := hP
  have hD : va_D Ar ([(oa, .inl (G.2.2.2.2, 1, .inr (.inl og)))] ++ ([(xa, .inr (5, fs))] ++ (wr))) := hD
  have hl : lv_has ls 4 [(0, .ref xa), (1, .int p0), (2, .ref oa)] := hl
  refine lv_aload_n hx hb dL_fold_0 rfl (lv_at hl 2 rfl) ?_
  refine lv_iconst (v := nI 0) hx hb dL_fold_1 (by decide) ?_
  refine lv_aload_n hx hb dL_fold_2 rfl (lv_at hl 0 rfl) ?_
  refine lv_iload_n hx hb dL_fold_3 rfl (lv_at hl 1 rfl) ?_
  refine wr_g1i (pre := [(oa, .inl (G.2.2.2.2, 1, .inr (.inl og)))]) (mid := [(xa, .inr (5, fs))] ++ (wr)) (va_runV (As := [.int p0]) (rest := [.int (nI 0), .ref oa]) ⟨hx, hb, hml, hown, hts⟩ (hc _) (cwV 1 hts gL_fold_X6_fold rfl rfl rfl (by decide +kernel) ⟨Nat.le_of_ble_eq_true rfl, Nat.le_of_ble_eq_true rfl⟩) (wV1 (pre := [(oa, .inl (G.2.2.2.2, 1, .inr (.inl og)))]) (mid := [(xa, .inr (5, fs))] ++ (wr)) (va_recv (ws := [(oa, .inl (G.2.2.2.2, 1, .inr (.inl og)))] ++ ([(xa, .inr (5, fs))] ++ (wr))) hK hP (ci := 5) (q0 := 1) rfl rfl) hK hN hP hD) rfl rfl hl.1 rfl (lv_room (Nat.le_of_ble_eq_true rfl)) dL_fold_4 ⟨Nat.le_of_ble_eq_true rfl, Nat.le_of_ble_eq_true rfl⟩) hP hD hS hA (fun r u H locs hw hP9 hD9 hS => ?_)
  have hP : PP G ([(oa, .inl (G.2.2.2.2, 1, .inr (.inl og)))] ++ (ou u)) _ := hP9
  have hD : va_D Ar ([(oa, .inl (G.2.2.2.2, 1, .inr (.inl og)))] ++ (ou u)) := hD9
  refine lv_i2l (v := r.toInt64) hx hb dL_fold_7 rfl ?_
  refine va_last (D := G.1) (ws := [(oa, .inl (G.2.2.2.2, 1, .inr (.inl og)))] ++ (ou u)) hx hb hK hP hD hS 0 3 (n := 1) rfl rfl (by first | assumption | exact vp_in_nI (by omega) (by omega)) dL_fold_8 (fun H locs hP hD hS => ?_)
  have hP : PP G ([(oa, .inl (G.2.2.2.2, 1, .inr (.inl (vp_updL og 0 r.toInt64))))] ++ (ou u)) _ := hP
  have hD : va_D Ar ([(oa, .inl (G.2.2.2.2, 1, .inr (.inl (vp_updL og 0 r.toInt64))))] ++ (ou u)) := hD
  refine lv_goto (tgt := 15) hx hb dL_fold_9 (by decide) ?_
  refine lv_iconst (v := nI 0) hx hb dL_fold_15 (by decide) ?_
  exact wr_iret (G := G) (S := Int32 × S) (r, u) hx hb hr hlocks hP hD hS (Nat.le_of_ble_eq_true rfl) (Nat.le_of_ble_eq_true rfl) (by exact ⟨rfl, hw⟩) dL_fold_16

set_option maxHeartbeats 4000000 in
set_option maxRecDepth 100000 in
theorem w_fold_t1 (l : Launch) (G : GG) (sz xa oa : Nat) (fs : List Value) (wr : va_W) (og : Nat → Int64) (p0 : Int32) (hc : TH l yX6_fold wsX6_fold 7 G [.ref xa, .int p0] ([(xa, .inr (5, fs))] ++ (wr)) IOO) : LWi l yL_fold wsL_fold 8 G [.ref xa, .int p0, .ref oa] ([(oa, .inl (G.2.2.2.2, 1, .inr (.inl og)))] ++ ([(xa, .inr (5, fs))] ++ (wr))) sz (S := Unit) (fun r _ => r = nI 1) (fun _ => [(oa, .inl (G.2.2.2.2, 1, .inr (.inl og)))] ++ ([(xa, .inr (5, fs))] ++ (wr))) 1 6 := by
  refine lw_of (l := l) (y := yL_fold) (w := wsL_fold) (d := 8) (G := G) (As := [.ref xa, .int p0, .ref oa]) (sz := sz) (mc := 1) (ms := 6) (cc := cL_fold) (maxL := 4) (ret := (some .int)) (hh := [(0, 9, 12, 13)]) (Qc := fun Ar => wQi G (S := Unit) (fun r _ => r = nI 1) (fun _ => [(oa, .inl (G.2.2.2.2, 1, .inr (.inl og)))] ++ ([(xa, .inr (5, fs))] ++ (wr))) Ar) (by decide) rfl (Nat.le_of_ble_eq_true rfl) ?_
  intro pG eG s mG below meth cG hx hb hr hml hts hown hlocks htb hP hK hN hX hZ Ar hD hA hS ls hl
  have hown : s.vm.findClass RL = some mG.cls := hown
  have hP : PP G ([(oa, .inl (G.2.2.2.2, 1, .inr (.inl og)))] ++ ([(xa, .inr (5, fs))] ++ (wr))) s.heap := hP
  have hD : va_D Ar ([(oa, .inl (G.2.2.2.2, 1, .inr (.inl og)))] ++ ([(xa, .inr (5, fs))] ++ (wr))) := hD
  have hl : lv_has ls 4 [(0, .ref xa), (1, .int p0), (2, .ref oa)] := hl
  refine lv_aload_n hx hb dL_fold_0 rfl (lv_at hl 2 rfl) ?_
  refine lv_iconst (v := nI 0) hx hb dL_fold_1 (by decide) ?_
  refine lv_aload_n hx hb dL_fold_2 rfl (lv_at hl 0 rfl) ?_
  refine lv_iload_n hx hb dL_fold_3 rfl (lv_at hl 1 rfl) ?_
  refine wx_go (vx_runV (As := [.int p0]) (rest := [.int (nI 0), .ref oa]) ⟨hx, hb, hml, hown, hts⟩ (hc) (cwV 1 hts gL_fold_X6_fold rfl rfl rfl (by decide +kernel) ⟨Nat.le_of_ble_eq_true rfl, Nat.le_of_ble_eq_true rfl⟩) (xV (ws := [(xa, .inr (5, fs))] ++ (wr)) (va_recv (ws := [(oa, .inl (G.2.2.2.2, 1, .inr (.inl og)))] ++ ([(xa, .inr (5, fs))] ++ (wr))) hK hP (ci := 5) (q0 := 1) rfl rfl) hK hN (P_beh (pre := [(oa, .inl (G.2.2.2.2, 1, .inr (.inl og)))]) hP) hX hZ) rfl rfl hl.1 rfl (lv_room (Nat.le_of_ble_eq_true rfl)) dL_fold_4 ⟨Nat.le_of_ble_eq_true rfl, Nat.le_of_ble_eq_true rfl⟩) hP hS (fun q9 ce H locs hP hS hce hcv hcl => ?_)
  refine vx_catch (own := RL) (name := IOO) (E := IOO) hown [] ⟨0, 9, 12, 13⟩ [] (htb.trans rfl) (fun z hz => absurd hz List.not_mem_nil) (by decide) (by decide) (hts (.classLink RL 13 "java/lang/IndexOutOfBoundsException") (List.mem_of_getElem? (i := 1) rfl)) (va_Nw.use rfl hX.1.1) hce hcv hcl ?_
  refine lv_astore_n (lv' := [(3, .ref q9), (0, .ref xa), (1, .int p0), (2, .ref oa)]) hx hb dL_fold_12 rfl hl (by decide) rfl (fun ls hl => ?_)
  refine lv_iconst (v := nI 1) hx hb dL_fold_13 (by decide) ?_
  exact wr_iret (G := G) (S := Unit) () hx hb hr hlocks hP hD hS (Nat.le_of_ble_eq_true rfl) (Nat.le_of_ble_eq_true rfl) (by rfl) dL_fold_14

set_option maxHeartbeats 4000000 in
set_option maxRecDepth 100000 in
theorem w_move_ok (l : Launch) (G : GG) (sz xa oa : Nat) (fs : List Value) (wr : va_W) (og : Nat → Int64) (p0 p1 : Int32) {S : Type} {post : Int32 → S → Prop} {ou : S → va_W} (hc : ∀ sz : Nat, WRi l yX6_move wsX6_move 5 G [.ref xa, .int p0, .int p1] ([(xa, .inr (5, fs))] ++ (wr)) sz (S := S) post ou 0 0) : LWi l yL_move wsL_move 6 G [.ref xa, .int p0, .int p1, .ref oa] ([(oa, .inl (G.2.2.2.2, 1, .inr (.inl og)))] ++ ([(xa, .inr (5, fs))] ++ (wr))) sz (S := Int32 × S) (fun r u => r = nI 0 ∧ post u.1 u.2) (fun u => [(oa, .inl (G.2.2.2.2, 1, .inr (.inl (vp_updL og 0 (u.1.toInt64)))))] ++ ou u.2) 0 0 := by
  refine lw_of (l := l) (y := yL_move) (w := wsL_move) (d := 6) (G := G) (As := [.ref xa, .int p0, .int p1, .ref oa]) (sz := sz) (mc := 0) (ms := 0) (cc := cL_move) (maxL := 5) (ret := (some .int)) (hh := [(0, 10, 13, 13), (0, 10, 17, 19)]) (Qc := fun Ar => wQi G (S := Int32 × S) (fun r u => r = nI 0 ∧ post u.1 u.2) (fun u => [(oa, .inl (G.2.2.2.2, 1, .inr (.inl (vp_updL og 0 (u.1.toInt64)))))] ++ ou u.2) Ar) (by decide) rfl (Nat.le_of_ble_eq_true rfl) ?_
  intro pG eG s mG below meth cG hx hb hr hml hts hown hlocks htb hP hK hN hX hZ Ar hD hA hS ls hl
  have hown : s.vm.findClass RL = some mG.cls := hown
  have hP : PP G ([(oa, .inl (G.2.2.2.2, 1, .inr (.inl og)))] ++ ([(xa, .inr (5, fs))] ++ (wr))) s.heap := hP
  have hD : va_D Ar ([(oa, .inl (G.2.2.2.2, 1, .inr (.inl og)))] ++ ([(xa, .inr (5, fs))] ++ (wr))) := hD
  have hl : lv_has ls 5 [(0, .ref xa), (1, .int p0), (2, .int p1), (3, .ref oa)] := hl
  refine lv_aload_n hx hb dL_move_0 rfl (lv_at hl 3 rfl) ?_
  refine lv_iconst (v := nI 0) hx hb dL_move_1 (by decide) ?_
  refine lv_aload_n hx hb dL_move_2 rfl (lv_at hl 0 rfl) ?_
  refine lv_iload_n hx hb dL_move_3 rfl (lv_at hl 1 rfl) ?_
  refine lv_iload_n hx hb dL_move_4 rfl (lv_at hl 2 rfl) ?_
  refine wr_g1i (pre := [(oa, .inl (G.2.2.2.2, 1, .inr (.inl og)))]) (mid := [(xa, .inr (5, fs))] ++ (wr)) (va_runV (As := [.int p0, .int p1]) (rest := [.int (nI 0), .ref oa]) ⟨hx, hb, hml, hown, hts⟩ (hc _) (cwV 2 hts gL_move_X6_move rfl rfl rfl (by decide +kernel) ⟨Nat.le_of_ble_eq_true rfl, Nat.le_of_ble_eq_true rfl⟩) (wV1 (pre := [(oa, .inl (G.2.2.2.2, 1, .inr (.inl og)))]) (mid := [(xa, .inr (5, fs))] ++ (wr)) (va_recv (ws := [(oa, .inl (G.2.2.2.2, 1, .inr (.inl og)))] ++ ([(xa, .inr (5, fs))] ++ (wr))) hK hP (ci := 5) (q0 := 1) rfl rfl) hK hN hP hD) rfl rfl hl.1 rfl (lv_room (Nat.le_of_ble_eq_true rfl)) dL_move_5 ⟨Nat.le_of_ble_eq_true rfl, Nat.le_of_ble_eq_true rfl⟩) hP hD hS hA (fun r u H locs hw hP9 hD9 hS => ?_)
  have hP : PP G ([(oa, .inl (G.2.2.2.2, 1, .inr (.inl og)))] ++ (ou u)) _ := hP9
  have hD : va_D Ar ([(oa, .inl (G.2.2.2.2, 1, .inr (.inl og)))] ++ (ou u)) := hD9
  refine lv_i2l (v := r.toInt64) hx hb dL_move_8 rfl ?_
  refine va_last (D := G.1) (ws := [(oa, .inl (G.2.2.2.2, 1, .inr (.inl og)))] ++ (ou u)) hx hb hK hP hD hS 0 3 (n := 1) rfl rfl (by first | assumption | exact vp_in_nI (by omega) (by omega)) dL_move_9 (fun H locs hP hD hS => ?_)
  have hP : PP G ([(oa, .inl (G.2.2.2.2, 1, .inr (.inl (vp_updL og 0 r.toInt64))))] ++ (ou u)) _ := hP
  have hD : va_D Ar ([(oa, .inl (G.2.2.2.2, 1, .inr (.inl (vp_updL og 0 r.toInt64))))] ++ (ou u)) := hD
  refine lv_goto (tgt := 21) hx hb dL_move_10 (by decide) ?_
  refine lv_iconst (v := nI 0) hx hb dL_move_21 (by decide) ?_
  exact wr_iret (G := G) (S := Int32 × S) (r, u) hx hb hr hlocks hP hD hS (Nat.le_of_ble_eq_true rfl) (Nat.le_of_ble_eq_true rfl) (by exact ⟨rfl, hw⟩) dL_move_22

set_option maxHeartbeats 4000000 in
set_option maxRecDepth 100000 in
theorem w_move_t1 (l : Launch) (G : GG) (sz xa oa : Nat) (fs : List Value) (wr : va_W) (og : Nat → Int64) (p0 p1 : Int32) (hc : TH l yX6_move wsX6_move 7 G [.ref xa, .int p0, .int p1] ([(xa, .inr (5, fs))] ++ (wr)) IOO) : LWi l yL_move wsL_move 8 G [.ref xa, .int p0, .int p1, .ref oa] ([(oa, .inl (G.2.2.2.2, 1, .inr (.inl og)))] ++ ([(xa, .inr (5, fs))] ++ (wr))) sz (S := Unit) (fun r _ => r = nI 1) (fun _ => [(oa, .inl (G.2.2.2.2, 1, .inr (.inl og)))] ++ ([(xa, .inr (5, fs))] ++ (wr))) 1 6 := by
  refine lw_of (l := l) (y := yL_move) (w := wsL_move) (d := 8) (G := G) (As := [.ref xa, .int p0, .int p1, .ref oa]) (sz := sz) (mc := 1) (ms := 6) (cc := cL_move) (maxL := 5) (ret := (some .int)) (hh := [(0, 10, 13, 13), (0, 10, 17, 19)]) (Qc := fun Ar => wQi G (S := Unit) (fun r _ => r = nI 1) (fun _ => [(oa, .inl (G.2.2.2.2, 1, .inr (.inl og)))] ++ ([(xa, .inr (5, fs))] ++ (wr))) Ar) (by decide) rfl (Nat.le_of_ble_eq_true rfl) ?_
  intro pG eG s mG below meth cG hx hb hr hml hts hown hlocks htb hP hK hN hX hZ Ar hD hA hS ls hl
  have hown : s.vm.findClass RL = some mG.cls := hown
  have hP : PP G ([(oa, .inl (G.2.2.2.2, 1, .inr (.inl og)))] ++ ([(xa, .inr (5, fs))] ++ (wr))) s.heap := hP
  have hD : va_D Ar ([(oa, .inl (G.2.2.2.2, 1, .inr (.inl og)))] ++ ([(xa, .inr (5, fs))] ++ (wr))) := hD
  have hl : lv_has ls 5 [(0, .ref xa), (1, .int p0), (2, .int p1), (3, .ref oa)] := hl
  refine lv_aload_n hx hb dL_move_0 rfl (lv_at hl 3 rfl) ?_
  refine lv_iconst (v := nI 0) hx hb dL_move_1 (by decide) ?_
  refine lv_aload_n hx hb dL_move_2 rfl (lv_at hl 0 rfl) ?_
  refine lv_iload_n hx hb dL_move_3 rfl (lv_at hl 1 rfl) ?_
  refine lv_iload_n hx hb dL_move_4 rfl (lv_at hl 2 rfl) ?_
  refine wx_go (vx_runV (As := [.int p0, .int p1]) (rest := [.int (nI 0), .ref oa]) ⟨hx, hb, hml, hown, hts⟩ (hc) (cwV 2 hts gL_move_X6_move rfl rfl rfl (by decide +kernel) ⟨Nat.le_of_ble_eq_true rfl, Nat.le_of_ble_eq_true rfl⟩) (xV (ws := [(xa, .inr (5, fs))] ++ (wr)) (va_recv (ws := [(oa, .inl (G.2.2.2.2, 1, .inr (.inl og)))] ++ ([(xa, .inr (5, fs))] ++ (wr))) hK hP (ci := 5) (q0 := 1) rfl rfl) hK hN (P_beh (pre := [(oa, .inl (G.2.2.2.2, 1, .inr (.inl og)))]) hP) hX hZ) rfl rfl hl.1 rfl (lv_room (Nat.le_of_ble_eq_true rfl)) dL_move_5 ⟨Nat.le_of_ble_eq_true rfl, Nat.le_of_ble_eq_true rfl⟩) hP hS (fun q9 ce H locs hP hS hce hcv hcl => ?_)
  refine vx_catch (own := RL) (name := IOO) (E := IOO) hown [] ⟨0, 10, 13, 13⟩ [⟨0, 10, 17, 19⟩] (htb.trans rfl) (fun z hz => absurd hz List.not_mem_nil) (by decide) (by decide) (hts (.classLink RL 13 "java/lang/IndexOutOfBoundsException") (List.mem_of_getElem? (i := 1) rfl)) (va_Nw.use rfl hX.1.1) hce hcv hcl ?_
  refine lv_astore (lv' := [(4, .ref q9), (0, .ref xa), (1, .int p0), (2, .int p1), (3, .ref oa)]) hx hb dL_move_13 hl (by decide) rfl (fun ls hl => ?_)
  refine lv_iconst (v := nI 1) hx hb dL_move_15 (by decide) ?_
  exact wr_iret (G := G) (S := Unit) () hx hb hr hlocks hP hD hS (Nat.le_of_ble_eq_true rfl) (Nat.le_of_ble_eq_true rfl) (by rfl) dL_move_16

set_option maxHeartbeats 4000000 in
set_option maxRecDepth 100000 in
theorem w_move_t2 (l : Launch) (G : GG) (sz xa oa : Nat) (fs : List Value) (wr : va_W) (og : Nat → Int64) (p0 p1 : Int32) (hc : TH l yX6_move wsX6_move 7 G [.ref xa, .int p0, .int p1] ([(xa, .inr (5, fs))] ++ (wr)) IAE) : LWi l yL_move wsL_move 8 G [.ref xa, .int p0, .int p1, .ref oa] ([(oa, .inl (G.2.2.2.2, 1, .inr (.inl og)))] ++ ([(xa, .inr (5, fs))] ++ (wr))) sz (S := Unit) (fun r _ => r = nI 2) (fun _ => [(oa, .inl (G.2.2.2.2, 1, .inr (.inl og)))] ++ ([(xa, .inr (5, fs))] ++ (wr))) 1 6 := by
  refine lw_of (l := l) (y := yL_move) (w := wsL_move) (d := 8) (G := G) (As := [.ref xa, .int p0, .int p1, .ref oa]) (sz := sz) (mc := 1) (ms := 6) (cc := cL_move) (maxL := 5) (ret := (some .int)) (hh := [(0, 10, 13, 13), (0, 10, 17, 19)]) (Qc := fun Ar => wQi G (S := Unit) (fun r _ => r = nI 2) (fun _ => [(oa, .inl (G.2.2.2.2, 1, .inr (.inl og)))] ++ ([(xa, .inr (5, fs))] ++ (wr))) Ar) (by decide) rfl (Nat.le_of_ble_eq_true rfl) ?_
  intro pG eG s mG below meth cG hx hb hr hml hts hown hlocks htb hP hK hN hX hZ Ar hD hA hS ls hl
  have hown : s.vm.findClass RL = some mG.cls := hown
  have hP : PP G ([(oa, .inl (G.2.2.2.2, 1, .inr (.inl og)))] ++ ([(xa, .inr (5, fs))] ++ (wr))) s.heap := hP
  have hD : va_D Ar ([(oa, .inl (G.2.2.2.2, 1, .inr (.inl og)))] ++ ([(xa, .inr (5, fs))] ++ (wr))) := hD
  have hl : lv_has ls 5 [(0, .ref xa), (1, .int p0), (2, .int p1), (3, .ref oa)] := hl
  refine lv_aload_n hx hb dL_move_0 rfl (lv_at hl 3 rfl) ?_
  refine lv_iconst (v := nI 0) hx hb dL_move_1 (by decide) ?_
  refine lv_aload_n hx hb dL_move_2 rfl (lv_at hl 0 rfl) ?_
  refine lv_iload_n hx hb dL_move_3 rfl (lv_at hl 1 rfl) ?_
  refine lv_iload_n hx hb dL_move_4 rfl (lv_at hl 2 rfl) ?_
  refine wx_go (vx_runV (As := [.int p0, .int p1]) (rest := [.int (nI 0), .ref oa]) ⟨hx, hb, hml, hown, hts⟩ (hc) (cwV 2 hts gL_move_X6_move rfl rfl rfl (by decide +kernel) ⟨Nat.le_of_ble_eq_true rfl, Nat.le_of_ble_eq_true rfl⟩) (xV (ws := [(xa, .inr (5, fs))] ++ (wr)) (va_recv (ws := [(oa, .inl (G.2.2.2.2, 1, .inr (.inl og)))] ++ ([(xa, .inr (5, fs))] ++ (wr))) hK hP (ci := 5) (q0 := 1) rfl rfl) hK hN (P_beh (pre := [(oa, .inl (G.2.2.2.2, 1, .inr (.inl og)))]) hP) hX hZ) rfl rfl hl.1 rfl (lv_room (Nat.le_of_ble_eq_true rfl)) dL_move_5 ⟨Nat.le_of_ble_eq_true rfl, Nat.le_of_ble_eq_true rfl⟩) hP hS (fun q9 ce H locs hP hS hce hcv hcl => ?_)
  refine vx_catch (own := RL) (name := IAE) (E := IAE) hown [⟨0, 10, 13, 13⟩] ⟨0, 10, 17, 19⟩ [] (htb.trans rfl) (fun z hz => by obtain rfl := List.mem_singleton.mp hz; exact Or.inr ⟨by decide, IOO, (hts (.classLink RL 13 "java/lang/IndexOutOfBoundsException") (List.mem_of_getElem? (i := 1) rfl)), hX.2.1.1⟩) (by decide) (by decide) (hts (.classLink RL 19 "java/lang/IllegalArgumentException") (List.mem_of_getElem? (i := 2) rfl)) (va_Nw.use rfl hX.1.2.1) hce hcv hcl ?_
  refine lv_astore (lv' := [(4, .ref q9), (0, .ref xa), (1, .int p0), (2, .int p1), (3, .ref oa)]) hx hb dL_move_17 hl (by decide) rfl (fun ls hl => ?_)
  refine lv_iconst (v := nI 2) hx hb dL_move_19 (by decide) ?_
  exact wr_iret (G := G) (S := Unit) () hx hb hr hlocks hP hD hS (Nat.le_of_ble_eq_true rfl) (Nat.le_of_ble_eq_true rfl) (by rfl) dL_move_20

set_option maxHeartbeats 4000000 in
set_option maxRecDepth 100000 in
theorem w_pull_ok (l : Launch) (G : GG) (sz xa oa : Nat) (fs : List Value) (wr : va_W) (og : Nat → Int64) (p0 : Int32) {S : Type} {post : Int32 → S → Prop} {ou : S → va_W} (hc : ∀ sz : Nat, WRi l yX6_pull wsX6_pull 5 G [.ref xa, .int p0] ([(xa, .inr (5, fs))] ++ (wr)) sz (S := S) post ou 0 0) : LWi l yL_pull wsL_pull 6 G [.ref xa, .int p0, .ref oa] ([(oa, .inl (G.2.2.2.2, 1, .inr (.inl og)))] ++ ([(xa, .inr (5, fs))] ++ (wr))) sz (S := Int32 × S) (fun r u => r = nI 0 ∧ post u.1 u.2) (fun u => [(oa, .inl (G.2.2.2.2, 1, .inr (.inl (vp_updL og 0 (u.1.toInt64)))))] ++ ou u.2) 0 0 := by
  refine lw_of (l := l) (y := yL_pull) (w := wsL_pull) (d := 6) (G := G) (As := [.ref xa, .int p0, .ref oa]) (sz := sz) (mc := 0) (ms := 0) (cc := cL_pull) (maxL := 4) (ret := (some .int)) (hh := [(0, 9, 12, 19)]) (Qc := fun Ar => wQi G (S := Int32 × S) (fun r u => r = nI 0 ∧ post u.1 u.2) (fun u => [(oa, .inl (G.2.2.2.2, 1, .inr (.inl (vp_updL og 0 (u.1.toInt64)))))] ++ ou u.2) Ar) (by decide) rfl (Nat.le_of_ble_eq_true rfl) ?_
  intro pG eG s mG below meth cG hx hb hr hml hts hown hlocks htb hP hK hN hX hZ Ar hD hA hS ls hl
  have hown : s.vm.findClass RL = some mG.cls := hown
  have hP : PP G ([(oa, .inl (G.2.2.2.2, 1, .inr (.inl og)))] ++ ([(xa, .inr (5, fs))] ++ (wr))) s.heap := hP
  have hD : va_D Ar ([(oa, .inl (G.2.2.2.2, 1, .inr (.inl og)))] ++ ([(xa, .inr (5, fs))] ++ (wr))) := hD
  have hl : lv_has ls 4 [(0, .ref xa), (1, .int p0), (2, .ref oa)] := hl
  refine lv_aload_n hx hb dL_pull_0 rfl (lv_at hl 2 rfl) ?_
  refine lv_iconst (v := nI 0) hx hb dL_pull_1 (by decide) ?_
  refine lv_aload_n hx hb dL_pull_2 rfl (lv_at hl 0 rfl) ?_
  refine lv_iload_n hx hb dL_pull_3 rfl (lv_at hl 1 rfl) ?_
  refine wr_g1i (pre := [(oa, .inl (G.2.2.2.2, 1, .inr (.inl og)))]) (mid := [(xa, .inr (5, fs))] ++ (wr)) (va_runV (As := [.int p0]) (rest := [.int (nI 0), .ref oa]) ⟨hx, hb, hml, hown, hts⟩ (hc _) (cwV 1 hts gL_pull_X6_pull rfl rfl rfl (by decide +kernel) ⟨Nat.le_of_ble_eq_true rfl, Nat.le_of_ble_eq_true rfl⟩) (wV1 (pre := [(oa, .inl (G.2.2.2.2, 1, .inr (.inl og)))]) (mid := [(xa, .inr (5, fs))] ++ (wr)) (va_recv (ws := [(oa, .inl (G.2.2.2.2, 1, .inr (.inl og)))] ++ ([(xa, .inr (5, fs))] ++ (wr))) hK hP (ci := 5) (q0 := 1) rfl rfl) hK hN hP hD) rfl rfl hl.1 rfl (lv_room (Nat.le_of_ble_eq_true rfl)) dL_pull_4 ⟨Nat.le_of_ble_eq_true rfl, Nat.le_of_ble_eq_true rfl⟩) hP hD hS hA (fun r u H locs hw hP9 hD9 hS => ?_)
  have hP : PP G ([(oa, .inl (G.2.2.2.2, 1, .inr (.inl og)))] ++ (ou u)) _ := hP9
  have hD : va_D Ar ([(oa, .inl (G.2.2.2.2, 1, .inr (.inl og)))] ++ (ou u)) := hD9
  refine lv_i2l (v := r.toInt64) hx hb dL_pull_7 rfl ?_
  refine va_last (D := G.1) (ws := [(oa, .inl (G.2.2.2.2, 1, .inr (.inl og)))] ++ (ou u)) hx hb hK hP hD hS 0 3 (n := 1) rfl rfl (by first | assumption | exact vp_in_nI (by omega) (by omega)) dL_pull_8 (fun H locs hP hD hS => ?_)
  have hP : PP G ([(oa, .inl (G.2.2.2.2, 1, .inr (.inl (vp_updL og 0 r.toInt64))))] ++ (ou u)) _ := hP
  have hD : va_D Ar ([(oa, .inl (G.2.2.2.2, 1, .inr (.inl (vp_updL og 0 r.toInt64))))] ++ (ou u)) := hD
  refine lv_goto (tgt := 15) hx hb dL_pull_9 (by decide) ?_
  refine lv_iconst (v := nI 0) hx hb dL_pull_15 (by decide) ?_
  exact wr_iret (G := G) (S := Int32 × S) (r, u) hx hb hr hlocks hP hD hS (Nat.le_of_ble_eq_true rfl) (Nat.le_of_ble_eq_true rfl) (by exact ⟨rfl, hw⟩) dL_pull_16

set_option maxHeartbeats 4000000 in
set_option maxRecDepth 100000 in
theorem w_pull_t1 (l : Launch) (G : GG) (sz xa oa : Nat) (fs : List Value) (wr : va_W) (og : Nat → Int64) (p0 : Int32) (hc : TH l yX6_pull wsX6_pull 7 G [.ref xa, .int p0] ([(xa, .inr (5, fs))] ++ (wr)) IAE) : LWi l yL_pull wsL_pull 8 G [.ref xa, .int p0, .ref oa] ([(oa, .inl (G.2.2.2.2, 1, .inr (.inl og)))] ++ ([(xa, .inr (5, fs))] ++ (wr))) sz (S := Unit) (fun r _ => r = nI 1) (fun _ => [(oa, .inl (G.2.2.2.2, 1, .inr (.inl og)))] ++ ([(xa, .inr (5, fs))] ++ (wr))) 1 6 := by
  refine lw_of (l := l) (y := yL_pull) (w := wsL_pull) (d := 8) (G := G) (As := [.ref xa, .int p0, .ref oa]) (sz := sz) (mc := 1) (ms := 6) (cc := cL_pull) (maxL := 4) (ret := (some .int)) (hh := [(0, 9, 12, 19)]) (Qc := fun Ar => wQi G (S := Unit) (fun r _ => r = nI 1) (fun _ => [(oa, .inl (G.2.2.2.2, 1, .inr (.inl og)))] ++ ([(xa, .inr (5, fs))] ++ (wr))) Ar) (by decide) rfl (Nat.le_of_ble_eq_true rfl) ?_
  intro pG eG s mG below meth cG hx hb hr hml hts hown hlocks htb hP hK hN hX hZ Ar hD hA hS ls hl
  have hown : s.vm.findClass RL = some mG.cls := hown
  have hP : PP G ([(oa, .inl (G.2.2.2.2, 1, .inr (.inl og)))] ++ ([(xa, .inr (5, fs))] ++ (wr))) s.heap := hP
  have hD : va_D Ar ([(oa, .inl (G.2.2.2.2, 1, .inr (.inl og)))] ++ ([(xa, .inr (5, fs))] ++ (wr))) := hD
  have hl : lv_has ls 4 [(0, .ref xa), (1, .int p0), (2, .ref oa)] := hl
  refine lv_aload_n hx hb dL_pull_0 rfl (lv_at hl 2 rfl) ?_
  refine lv_iconst (v := nI 0) hx hb dL_pull_1 (by decide) ?_
  refine lv_aload_n hx hb dL_pull_2 rfl (lv_at hl 0 rfl) ?_
  refine lv_iload_n hx hb dL_pull_3 rfl (lv_at hl 1 rfl) ?_
  refine wx_go (vx_runV (As := [.int p0]) (rest := [.int (nI 0), .ref oa]) ⟨hx, hb, hml, hown, hts⟩ (hc) (cwV 1 hts gL_pull_X6_pull rfl rfl rfl (by decide +kernel) ⟨Nat.le_of_ble_eq_true rfl, Nat.le_of_ble_eq_true rfl⟩) (xV (ws := [(xa, .inr (5, fs))] ++ (wr)) (va_recv (ws := [(oa, .inl (G.2.2.2.2, 1, .inr (.inl og)))] ++ ([(xa, .inr (5, fs))] ++ (wr))) hK hP (ci := 5) (q0 := 1) rfl rfl) hK hN (P_beh (pre := [(oa, .inl (G.2.2.2.2, 1, .inr (.inl og)))]) hP) hX hZ) rfl rfl hl.1 rfl (lv_room (Nat.le_of_ble_eq_true rfl)) dL_pull_4 ⟨Nat.le_of_ble_eq_true rfl, Nat.le_of_ble_eq_true rfl⟩) hP hS (fun q9 ce H locs hP hS hce hcv hcl => ?_)
  refine vx_catch (own := RL) (name := IAE) (E := IAE) hown [] ⟨0, 9, 12, 19⟩ [] (htb.trans rfl) (fun z hz => absurd hz List.not_mem_nil) (by decide) (by decide) (hts (.classLink RL 19 "java/lang/IllegalArgumentException") (List.mem_of_getElem? (i := 1) rfl)) (va_Nw.use rfl hX.1.2.1) hce hcv hcl ?_
  refine lv_astore_n (lv' := [(3, .ref q9), (0, .ref xa), (1, .int p0), (2, .ref oa)]) hx hb dL_pull_12 rfl hl (by decide) rfl (fun ls hl => ?_)
  refine lv_iconst (v := nI 1) hx hb dL_pull_13 (by decide) ?_
  exact wr_iret (G := G) (S := Unit) () hx hb hr hlocks hP hD hS (Nat.le_of_ble_eq_true rfl) (Nat.le_of_ble_eq_true rfl) (by rfl) dL_pull_14

set_option maxHeartbeats 4000000 in
set_option maxRecDepth 100000 in
theorem w_ask_ok (l : Launch) (G : GG) (sz xa oa : Nat) (fs : List Value) (wr : va_W) (og : Nat → Int64) (p0 p1 : Int32) {S : Type} {post : Int32 → S → Prop} {ou : S → va_W} (hc : ∀ sz : Nat, WRi l yX6_ask wsX6_ask 5 G [.ref xa, .int p0, .int p1] ([(xa, .inr (5, fs))] ++ (wr)) sz (S := S) post ou 0 0) : LWi l yL_ask wsL_ask 6 G [.ref xa, .int p0, .int p1, .ref oa] ([(oa, .inl (G.2.2.2.2, 1, .inr (.inl og)))] ++ ([(xa, .inr (5, fs))] ++ (wr))) sz (S := Int32 × S) (fun r u => r = nI 0 ∧ post u.1 u.2) (fun u => [(oa, .inl (G.2.2.2.2, 1, .inr (.inl (vp_updL og 0 (u.1.toInt64)))))] ++ ou u.2) 0 0 := by
  refine lw_of (l := l) (y := yL_ask) (w := wsL_ask) (d := 6) (G := G) (As := [.ref xa, .int p0, .int p1, .ref oa]) (sz := sz) (mc := 0) (ms := 0) (cc := cL_ask) (maxL := 5) (ret := (some .int)) (hh := [(0, 10, 13, 13), (0, 10, 17, 19)]) (Qc := fun Ar => wQi G (S := Int32 × S) (fun r u => r = nI 0 ∧ post u.1 u.2) (fun u => [(oa, .inl (G.2.2.2.2, 1, .inr (.inl (vp_updL og 0 (u.1.toInt64)))))] ++ ou u.2) Ar) (by decide) rfl (Nat.le_of_ble_eq_true rfl) ?_
  intro pG eG s mG below meth cG hx hb hr hml hts hown hlocks htb hP hK hN hX hZ Ar hD hA hS ls hl
  have hown : s.vm.findClass RL = some mG.cls := hown
  have hP : PP G ([(oa, .inl (G.2.2.2.2, 1, .inr (.inl og)))] ++ ([(xa, .inr (5, fs))] ++ (wr))) s.heap := hP
  have hD : va_D Ar ([(oa, .inl (G.2.2.2.2, 1, .inr (.inl og)))] ++ ([(xa, .inr (5, fs))] ++ (wr))) := hD
  have hl : lv_has ls 5 [(0, .ref xa), (1, .int p0), (2, .int p1), (3, .ref oa)] := hl
  refine lv_aload_n hx hb dL_ask_0 rfl (lv_at hl 3 rfl) ?_
  refine lv_iconst (v := nI 0) hx hb dL_ask_1 (by decide) ?_
  refine lv_aload_n hx hb dL_ask_2 rfl (lv_at hl 0 rfl) ?_
  refine lv_iload_n hx hb dL_ask_3 rfl (lv_at hl 1 rfl) ?_
  refine lv_iload_n hx hb dL_ask_4 rfl (lv_at hl 2 rfl) ?_
  refine wr_g1i (pre := [(oa, .inl (G.2.2.2.2, 1, .inr (.inl og)))]) (mid := [(xa, .inr (5, fs))] ++ (wr)) (va_runV (As := [.int p0, .int p1]) (rest := [.int (nI 0), .ref oa]) ⟨hx, hb, hml, hown, hts⟩ (hc _) (cwV 2 hts gL_ask_X6_ask rfl rfl rfl (by decide +kernel) ⟨Nat.le_of_ble_eq_true rfl, Nat.le_of_ble_eq_true rfl⟩) (wV1 (pre := [(oa, .inl (G.2.2.2.2, 1, .inr (.inl og)))]) (mid := [(xa, .inr (5, fs))] ++ (wr)) (va_recv (ws := [(oa, .inl (G.2.2.2.2, 1, .inr (.inl og)))] ++ ([(xa, .inr (5, fs))] ++ (wr))) hK hP (ci := 5) (q0 := 1) rfl rfl) hK hN hP hD) rfl rfl hl.1 rfl (lv_room (Nat.le_of_ble_eq_true rfl)) dL_ask_5 ⟨Nat.le_of_ble_eq_true rfl, Nat.le_of_ble_eq_true rfl⟩) hP hD hS hA (fun r u H locs hw hP9 hD9 hS => ?_)
  have hP : PP G ([(oa, .inl (G.2.2.2.2, 1, .inr (.inl og)))] ++ (ou u)) _ := hP9
  have hD : va_D Ar ([(oa, .inl (G.2.2.2.2, 1, .inr (.inl og)))] ++ (ou u)) := hD9
  refine lv_i2l (v := r.toInt64) hx hb dL_ask_8 rfl ?_
  refine va_last (D := G.1) (ws := [(oa, .inl (G.2.2.2.2, 1, .inr (.inl og)))] ++ (ou u)) hx hb hK hP hD hS 0 3 (n := 1) rfl rfl (by first | assumption | exact vp_in_nI (by omega) (by omega)) dL_ask_9 (fun H locs hP hD hS => ?_)
  have hP : PP G ([(oa, .inl (G.2.2.2.2, 1, .inr (.inl (vp_updL og 0 r.toInt64))))] ++ (ou u)) _ := hP
  have hD : va_D Ar ([(oa, .inl (G.2.2.2.2, 1, .inr (.inl (vp_updL og 0 r.toInt64))))] ++ (ou u)) := hD
  refine lv_goto (tgt := 21) hx hb dL_ask_10 (by decide) ?_
  refine lv_iconst (v := nI 0) hx hb dL_ask_21 (by decide) ?_
  exact wr_iret (G := G) (S := Int32 × S) (r, u) hx hb hr hlocks hP hD hS (Nat.le_of_ble_eq_true rfl) (Nat.le_of_ble_eq_true rfl) (by exact ⟨rfl, hw⟩) dL_ask_22

set_option maxHeartbeats 4000000 in
set_option maxRecDepth 100000 in
theorem w_ask_t1 (l : Launch) (G : GG) (sz xa oa : Nat) (fs : List Value) (wr : va_W) (og : Nat → Int64) (p0 p1 : Int32) (hc : TH l yX6_ask wsX6_ask 8 G [.ref xa, .int p0, .int p1] ([(xa, .inr (5, fs))] ++ (wr)) IOO) : LWi l yL_ask wsL_ask 9 G [.ref xa, .int p0, .int p1, .ref oa] ([(oa, .inl (G.2.2.2.2, 1, .inr (.inl og)))] ++ ([(xa, .inr (5, fs))] ++ (wr))) sz (S := Unit) (fun r _ => r = nI 1) (fun _ => [(oa, .inl (G.2.2.2.2, 1, .inr (.inl og)))] ++ ([(xa, .inr (5, fs))] ++ (wr))) 1 6 := by
  refine lw_of (l := l) (y := yL_ask) (w := wsL_ask) (d := 9) (G := G) (As := [.ref xa, .int p0, .int p1, .ref oa]) (sz := sz) (mc := 1) (ms := 6) (cc := cL_ask) (maxL := 5) (ret := (some .int)) (hh := [(0, 10, 13, 13), (0, 10, 17, 19)]) (Qc := fun Ar => wQi G (S := Unit) (fun r _ => r = nI 1) (fun _ => [(oa, .inl (G.2.2.2.2, 1, .inr (.inl og)))] ++ ([(xa, .inr (5, fs))] ++ (wr))) Ar) (by decide) rfl (Nat.le_of_ble_eq_true rfl) ?_
  intro pG eG s mG below meth cG hx hb hr hml hts hown hlocks htb hP hK hN hX hZ Ar hD hA hS ls hl
  have hown : s.vm.findClass RL = some mG.cls := hown
  have hP : PP G ([(oa, .inl (G.2.2.2.2, 1, .inr (.inl og)))] ++ ([(xa, .inr (5, fs))] ++ (wr))) s.heap := hP
  have hD : va_D Ar ([(oa, .inl (G.2.2.2.2, 1, .inr (.inl og)))] ++ ([(xa, .inr (5, fs))] ++ (wr))) := hD
  have hl : lv_has ls 5 [(0, .ref xa), (1, .int p0), (2, .int p1), (3, .ref oa)] := hl
  refine lv_aload_n hx hb dL_ask_0 rfl (lv_at hl 3 rfl) ?_
  refine lv_iconst (v := nI 0) hx hb dL_ask_1 (by decide) ?_
  refine lv_aload_n hx hb dL_ask_2 rfl (lv_at hl 0 rfl) ?_
  refine lv_iload_n hx hb dL_ask_3 rfl (lv_at hl 1 rfl) ?_
  refine lv_iload_n hx hb dL_ask_4 rfl (lv_at hl 2 rfl) ?_
  refine wx_go (vx_runV (As := [.int p0, .int p1]) (rest := [.int (nI 0), .ref oa]) ⟨hx, hb, hml, hown, hts⟩ (hc) (cwV 2 hts gL_ask_X6_ask rfl rfl rfl (by decide +kernel) ⟨Nat.le_of_ble_eq_true rfl, Nat.le_of_ble_eq_true rfl⟩) (xV (ws := [(xa, .inr (5, fs))] ++ (wr)) (va_recv (ws := [(oa, .inl (G.2.2.2.2, 1, .inr (.inl og)))] ++ ([(xa, .inr (5, fs))] ++ (wr))) hK hP (ci := 5) (q0 := 1) rfl rfl) hK hN (P_beh (pre := [(oa, .inl (G.2.2.2.2, 1, .inr (.inl og)))]) hP) hX hZ) rfl rfl hl.1 rfl (lv_room (Nat.le_of_ble_eq_true rfl)) dL_ask_5 ⟨Nat.le_of_ble_eq_true rfl, Nat.le_of_ble_eq_true rfl⟩) hP hS (fun q9 ce H locs hP hS hce hcv hcl => ?_)
  refine vx_catch (own := RL) (name := IOO) (E := IOO) hown [] ⟨0, 10, 13, 13⟩ [⟨0, 10, 17, 19⟩] (htb.trans rfl) (fun z hz => absurd hz List.not_mem_nil) (by decide) (by decide) (hts (.classLink RL 13 "java/lang/IndexOutOfBoundsException") (List.mem_of_getElem? (i := 1) rfl)) (va_Nw.use rfl hX.1.1) hce hcv hcl ?_
  refine lv_astore (lv' := [(4, .ref q9), (0, .ref xa), (1, .int p0), (2, .int p1), (3, .ref oa)]) hx hb dL_ask_13 hl (by decide) rfl (fun ls hl => ?_)
  refine lv_iconst (v := nI 1) hx hb dL_ask_15 (by decide) ?_
  exact wr_iret (G := G) (S := Unit) () hx hb hr hlocks hP hD hS (Nat.le_of_ble_eq_true rfl) (Nat.le_of_ble_eq_true rfl) (by rfl) dL_ask_16

set_option maxHeartbeats 4000000 in
set_option maxRecDepth 100000 in
theorem w_ask_t2 (l : Launch) (G : GG) (sz xa oa : Nat) (fs : List Value) (wr : va_W) (og : Nat → Int64) (p0 p1 : Int32) (hc : TH l yX6_ask wsX6_ask 8 G [.ref xa, .int p0, .int p1] ([(xa, .inr (5, fs))] ++ (wr)) IAE) : LWi l yL_ask wsL_ask 9 G [.ref xa, .int p0, .int p1, .ref oa] ([(oa, .inl (G.2.2.2.2, 1, .inr (.inl og)))] ++ ([(xa, .inr (5, fs))] ++ (wr))) sz (S := Unit) (fun r _ => r = nI 2) (fun _ => [(oa, .inl (G.2.2.2.2, 1, .inr (.inl og)))] ++ ([(xa, .inr (5, fs))] ++ (wr))) 1 6 := by
  refine lw_of (l := l) (y := yL_ask) (w := wsL_ask) (d := 9) (G := G) (As := [.ref xa, .int p0, .int p1, .ref oa]) (sz := sz) (mc := 1) (ms := 6) (cc := cL_ask) (maxL := 5) (ret := (some .int)) (hh := [(0, 10, 13, 13), (0, 10, 17, 19)]) (Qc := fun Ar => wQi G (S := Unit) (fun r _ => r = nI 2) (fun _ => [(oa, .inl (G.2.2.2.2, 1, .inr (.inl og)))] ++ ([(xa, .inr (5, fs))] ++ (wr))) Ar) (by decide) rfl (Nat.le_of_ble_eq_true rfl) ?_
  intro pG eG s mG below meth cG hx hb hr hml hts hown hlocks htb hP hK hN hX hZ Ar hD hA hS ls hl
  have hown : s.vm.findClass RL = some mG.cls := hown
  have hP : PP G ([(oa, .inl (G.2.2.2.2, 1, .inr (.inl og)))] ++ ([(xa, .inr (5, fs))] ++ (wr))) s.heap := hP
  have hD : va_D Ar ([(oa, .inl (G.2.2.2.2, 1, .inr (.inl og)))] ++ ([(xa, .inr (5, fs))] ++ (wr))) := hD
  have hl : lv_has ls 5 [(0, .ref xa), (1, .int p0), (2, .int p1), (3, .ref oa)] := hl
  refine lv_aload_n hx hb dL_ask_0 rfl (lv_at hl 3 rfl) ?_
  refine lv_iconst (v := nI 0) hx hb dL_ask_1 (by decide) ?_
  refine lv_aload_n hx hb dL_ask_2 rfl (lv_at hl 0 rfl) ?_
  refine lv_iload_n hx hb dL_ask_3 rfl (lv_at hl 1 rfl) ?_
  refine lv_iload_n hx hb dL_ask_4 rfl (lv_at hl 2 rfl) ?_
  refine wx_go (vx_runV (As := [.int p0, .int p1]) (rest := [.int (nI 0), .ref oa]) ⟨hx, hb, hml, hown, hts⟩ (hc) (cwV 2 hts gL_ask_X6_ask rfl rfl rfl (by decide +kernel) ⟨Nat.le_of_ble_eq_true rfl, Nat.le_of_ble_eq_true rfl⟩) (xV (ws := [(xa, .inr (5, fs))] ++ (wr)) (va_recv (ws := [(oa, .inl (G.2.2.2.2, 1, .inr (.inl og)))] ++ ([(xa, .inr (5, fs))] ++ (wr))) hK hP (ci := 5) (q0 := 1) rfl rfl) hK hN (P_beh (pre := [(oa, .inl (G.2.2.2.2, 1, .inr (.inl og)))]) hP) hX hZ) rfl rfl hl.1 rfl (lv_room (Nat.le_of_ble_eq_true rfl)) dL_ask_5 ⟨Nat.le_of_ble_eq_true rfl, Nat.le_of_ble_eq_true rfl⟩) hP hS (fun q9 ce H locs hP hS hce hcv hcl => ?_)
  refine vx_catch (own := RL) (name := IAE) (E := IAE) hown [⟨0, 10, 13, 13⟩] ⟨0, 10, 17, 19⟩ [] (htb.trans rfl) (fun z hz => by obtain rfl := List.mem_singleton.mp hz; exact Or.inr ⟨by decide, IOO, (hts (.classLink RL 13 "java/lang/IndexOutOfBoundsException") (List.mem_of_getElem? (i := 1) rfl)), hX.2.1.1⟩) (by decide) (by decide) (hts (.classLink RL 19 "java/lang/IllegalArgumentException") (List.mem_of_getElem? (i := 2) rfl)) (va_Nw.use rfl hX.1.2.1) hce hcv hcl ?_
  refine lv_astore (lv' := [(4, .ref q9), (0, .ref xa), (1, .int p0), (2, .int p1), (3, .ref oa)]) hx hb dL_ask_17 hl (by decide) rfl (fun ls hl => ?_)
  refine lv_iconst (v := nI 2) hx hb dL_ask_19 (by decide) ?_
  exact wr_iret (G := G) (S := Unit) () hx hb hr hlocks hP hD hS (Nat.le_of_ble_eq_true rfl) (Nat.le_of_ble_eq_true rfl) (by rfl) dL_ask_20

set_option maxHeartbeats 4000000 in
set_option maxRecDepth 100000 in
theorem w_guess_ok (l : Launch) (G : GG) (sz xa oa : Nat) (fs : List Value) (wr : va_W) (og : Nat → Int64) (p0 : Int32) {S : Type} {post : Int32 → S → Prop} {ou : S → va_W} (hc : ∀ sz : Nat, WRi l yX6_guess wsX6_guess 5 G [.ref xa, .int p0] ([(xa, .inr (5, fs))] ++ (wr)) sz (S := S) post ou 0 0) : LWi l yL_guess wsL_guess 6 G [.ref xa, .int p0, .ref oa] ([(oa, .inl (G.2.2.2.2, 1, .inr (.inl og)))] ++ ([(xa, .inr (5, fs))] ++ (wr))) sz (S := Int32 × S) (fun r u => r = nI 0 ∧ post u.1 u.2) (fun u => [(oa, .inl (G.2.2.2.2, 1, .inr (.inl (vp_updL og 0 (u.1.toInt64)))))] ++ ou u.2) 0 0 := by
  refine lw_of (l := l) (y := yL_guess) (w := wsL_guess) (d := 6) (G := G) (As := [.ref xa, .int p0, .ref oa]) (sz := sz) (mc := 0) (ms := 0) (cc := cL_guess) (maxL := 4) (ret := (some .int)) (hh := [(0, 9, 12, 19)]) (Qc := fun Ar => wQi G (S := Int32 × S) (fun r u => r = nI 0 ∧ post u.1 u.2) (fun u => [(oa, .inl (G.2.2.2.2, 1, .inr (.inl (vp_updL og 0 (u.1.toInt64)))))] ++ ou u.2) Ar) (by decide) rfl (Nat.le_of_ble_eq_true rfl) ?_
  intro pG eG s mG below meth cG hx hb hr hml hts hown hlocks htb hP hK hN hX hZ Ar hD hA hS ls hl
  have hown : s.vm.findClass RL = some mG.cls := hown
  have hP : PP G ([(oa, .inl (G.2.2.2.2, 1, .inr (.inl og)))] ++ ([(xa, .inr (5, fs))] ++ (wr))) s.heap := hP
  have hD : va_D Ar ([(oa, .inl (G.2.2.2.2, 1, .inr (.inl og)))] ++ ([(xa, .inr (5, fs))] ++ (wr))) := hD
  have hl : lv_has ls 4 [(0, .ref xa), (1, .int p0), (2, .ref oa)] := hl
  refine lv_aload_n hx hb dL_guess_0 rfl (lv_at hl 2 rfl) ?_
  refine lv_iconst (v := nI 0) hx hb dL_guess_1 (by decide) ?_
  refine lv_aload_n hx hb dL_guess_2 rfl (lv_at hl 0 rfl) ?_
  refine lv_iload_n hx hb dL_guess_3 rfl (lv_at hl 1 rfl) ?_
  refine wr_g1i (pre := [(oa, .inl (G.2.2.2.2, 1, .inr (.inl og)))]) (mid := [(xa, .inr (5, fs))] ++ (wr)) (va_runV (As := [.int p0]) (rest := [.int (nI 0), .ref oa]) ⟨hx, hb, hml, hown, hts⟩ (hc _) (cwV 1 hts gL_guess_X6_guess rfl rfl rfl (by decide +kernel) ⟨Nat.le_of_ble_eq_true rfl, Nat.le_of_ble_eq_true rfl⟩) (wV1 (pre := [(oa, .inl (G.2.2.2.2, 1, .inr (.inl og)))]) (mid := [(xa, .inr (5, fs))] ++ (wr)) (va_recv (ws := [(oa, .inl (G.2.2.2.2, 1, .inr (.inl og)))] ++ ([(xa, .inr (5, fs))] ++ (wr))) hK hP (ci := 5) (q0 := 1) rfl rfl) hK hN hP hD) rfl rfl hl.1 rfl (lv_room (Nat.le_of_ble_eq_true rfl)) dL_guess_4 ⟨Nat.le_of_ble_eq_true rfl, Nat.le_of_ble_eq_true rfl⟩) hP hD hS hA (fun r u H locs hw hP9 hD9 hS => ?_)
  have hP : PP G ([(oa, .inl (G.2.2.2.2, 1, .inr (.inl og)))] ++ (ou u)) _ := hP9
  have hD : va_D Ar ([(oa, .inl (G.2.2.2.2, 1, .inr (.inl og)))] ++ (ou u)) := hD9
  refine lv_i2l (v := r.toInt64) hx hb dL_guess_7 rfl ?_
  refine va_last (D := G.1) (ws := [(oa, .inl (G.2.2.2.2, 1, .inr (.inl og)))] ++ (ou u)) hx hb hK hP hD hS 0 3 (n := 1) rfl rfl (by first | assumption | exact vp_in_nI (by omega) (by omega)) dL_guess_8 (fun H locs hP hD hS => ?_)
  have hP : PP G ([(oa, .inl (G.2.2.2.2, 1, .inr (.inl (vp_updL og 0 r.toInt64))))] ++ (ou u)) _ := hP
  have hD : va_D Ar ([(oa, .inl (G.2.2.2.2, 1, .inr (.inl (vp_updL og 0 r.toInt64))))] ++ (ou u)) := hD
  refine lv_goto (tgt := 15) hx hb dL_guess_9 (by decide) ?_
  refine lv_iconst (v := nI 0) hx hb dL_guess_15 (by decide) ?_
  exact wr_iret (G := G) (S := Int32 × S) (r, u) hx hb hr hlocks hP hD hS (Nat.le_of_ble_eq_true rfl) (Nat.le_of_ble_eq_true rfl) (by exact ⟨rfl, hw⟩) dL_guess_16

set_option maxHeartbeats 4000000 in
set_option maxRecDepth 100000 in
theorem w_guess_t1 (l : Launch) (G : GG) (sz xa oa : Nat) (fs : List Value) (wr : va_W) (og : Nat → Int64) (p0 : Int32) (hc : TH l yX6_guess wsX6_guess 7 G [.ref xa, .int p0] ([(xa, .inr (5, fs))] ++ (wr)) IAE) : LWi l yL_guess wsL_guess 8 G [.ref xa, .int p0, .ref oa] ([(oa, .inl (G.2.2.2.2, 1, .inr (.inl og)))] ++ ([(xa, .inr (5, fs))] ++ (wr))) sz (S := Unit) (fun r _ => r = nI 1) (fun _ => [(oa, .inl (G.2.2.2.2, 1, .inr (.inl og)))] ++ ([(xa, .inr (5, fs))] ++ (wr))) 1 6 := by
  refine lw_of (l := l) (y := yL_guess) (w := wsL_guess) (d := 8) (G := G) (As := [.ref xa, .int p0, .ref oa]) (sz := sz) (mc := 1) (ms := 6) (cc := cL_guess) (maxL := 4) (ret := (some .int)) (hh := [(0, 9, 12, 19)]) (Qc := fun Ar => wQi G (S := Unit) (fun r _ => r = nI 1) (fun _ => [(oa, .inl (G.2.2.2.2, 1, .inr (.inl og)))] ++ ([(xa, .inr (5, fs))] ++ (wr))) Ar) (by decide) rfl (Nat.le_of_ble_eq_true rfl) ?_
  intro pG eG s mG below meth cG hx hb hr hml hts hown hlocks htb hP hK hN hX hZ Ar hD hA hS ls hl
  have hown : s.vm.findClass RL = some mG.cls := hown
  have hP : PP G ([(oa, .inl (G.2.2.2.2, 1, .inr (.inl og)))] ++ ([(xa, .inr (5, fs))] ++ (wr))) s.heap := hP
  have hD : va_D Ar ([(oa, .inl (G.2.2.2.2, 1, .inr (.inl og)))] ++ ([(xa, .inr (5, fs))] ++ (wr))) := hD
  have hl : lv_has ls 4 [(0, .ref xa), (1, .int p0), (2, .ref oa)] := hl
  refine lv_aload_n hx hb dL_guess_0 rfl (lv_at hl 2 rfl) ?_
  refine lv_iconst (v := nI 0) hx hb dL_guess_1 (by decide) ?_
  refine lv_aload_n hx hb dL_guess_2 rfl (lv_at hl 0 rfl) ?_
  refine lv_iload_n hx hb dL_guess_3 rfl (lv_at hl 1 rfl) ?_
  refine wx_go (vx_runV (As := [.int p0]) (rest := [.int (nI 0), .ref oa]) ⟨hx, hb, hml, hown, hts⟩ (hc) (cwV 1 hts gL_guess_X6_guess rfl rfl rfl (by decide +kernel) ⟨Nat.le_of_ble_eq_true rfl, Nat.le_of_ble_eq_true rfl⟩) (xV (ws := [(xa, .inr (5, fs))] ++ (wr)) (va_recv (ws := [(oa, .inl (G.2.2.2.2, 1, .inr (.inl og)))] ++ ([(xa, .inr (5, fs))] ++ (wr))) hK hP (ci := 5) (q0 := 1) rfl rfl) hK hN (P_beh (pre := [(oa, .inl (G.2.2.2.2, 1, .inr (.inl og)))]) hP) hX hZ) rfl rfl hl.1 rfl (lv_room (Nat.le_of_ble_eq_true rfl)) dL_guess_4 ⟨Nat.le_of_ble_eq_true rfl, Nat.le_of_ble_eq_true rfl⟩) hP hS (fun q9 ce H locs hP hS hce hcv hcl => ?_)
  refine vx_catch (own := RL) (name := IAE) (E := IAE) hown [] ⟨0, 9, 12, 19⟩ [] (htb.trans rfl) (fun z hz => absurd hz List.not_mem_nil) (by decide) (by decide) (hts (.classLink RL 19 "java/lang/IllegalArgumentException") (List.mem_of_getElem? (i := 1) rfl)) (va_Nw.use rfl hX.1.2.1) hce hcv hcl ?_
  refine lv_astore_n (lv' := [(3, .ref q9), (0, .ref xa), (1, .int p0), (2, .ref oa)]) hx hb dL_guess_12 rfl hl (by decide) rfl (fun ls hl => ?_)
  refine lv_iconst (v := nI 1) hx hb dL_guess_13 (by decide) ?_
  exact wr_iret (G := G) (S := Unit) () hx hb hr hlocks hP hD hS (Nat.le_of_ble_eq_true rfl) (Nat.le_of_ble_eq_true rfl) (by rfl) dL_guess_14

set_option maxHeartbeats 4000000 in
set_option maxRecDepth 100000 in
theorem w_append_ok (l : Launch) (G : GG) (sz xa oa : Nat) (fs : List Value) (wr : va_W) (og : Nat → Int64) (p0 : Int32) {S : Type} {post : Int32 → S → Prop} {ou : S → va_W} (hc : ∀ sz : Nat, WRi l yX6_append wsX6_append 2 G [.ref xa, .int p0] ([(xa, .inr (5, fs))] ++ (wr)) sz (S := S) post ou 0 0) : LWi l yL_append wsL_append 3 G [.ref xa, .int p0, .ref oa] ([(oa, .inl (G.2.2.2.2, 1, .inr (.inl og)))] ++ ([(xa, .inr (5, fs))] ++ (wr))) sz (S := Int32 × S) (fun r u => r = nI 0 ∧ post u.1 u.2) (fun u => [(oa, .inl (G.2.2.2.2, 1, .inr (.inl (vp_updL og 0 (u.1.toInt64)))))] ++ ou u.2) 0 0 := by
  refine lw_of (l := l) (y := yL_append) (w := wsL_append) (d := 3) (G := G) (As := [.ref xa, .int p0, .ref oa]) (sz := sz) (mc := 0) (ms := 0) (cc := cL_append) (maxL := 4) (ret := (some .int)) (hh := [(0, 9, 12, 19), (0, 9, 15, 33)]) (Qc := fun Ar => wQi G (S := Int32 × S) (fun r u => r = nI 0 ∧ post u.1 u.2) (fun u => [(oa, .inl (G.2.2.2.2, 1, .inr (.inl (vp_updL og 0 (u.1.toInt64)))))] ++ ou u.2) Ar) (by decide) rfl (Nat.le_of_ble_eq_true rfl) ?_
  intro pG eG s mG below meth cG hx hb hr hml hts hown hlocks htb hP hK hN hX hZ Ar hD hA hS ls hl
  have hown : s.vm.findClass RL = some mG.cls := hown
  have hP : PP G ([(oa, .inl (G.2.2.2.2, 1, .inr (.inl og)))] ++ ([(xa, .inr (5, fs))] ++ (wr))) s.heap := hP
  have hD : va_D Ar ([(oa, .inl (G.2.2.2.2, 1, .inr (.inl og)))] ++ ([(xa, .inr (5, fs))] ++ (wr))) := hD
  have hl : lv_has ls 4 [(0, .ref xa), (1, .int p0), (2, .ref oa)] := hl
  refine lv_aload_n hx hb dL_append_0 rfl (lv_at hl 2 rfl) ?_
  refine lv_iconst (v := nI 0) hx hb dL_append_1 (by decide) ?_
  refine lv_aload_n hx hb dL_append_2 rfl (lv_at hl 0 rfl) ?_
  refine lv_iload_n hx hb dL_append_3 rfl (lv_at hl 1 rfl) ?_
  refine wr_g1i (pre := [(oa, .inl (G.2.2.2.2, 1, .inr (.inl og)))]) (mid := [(xa, .inr (5, fs))] ++ (wr)) (va_runV (As := [.int p0]) (rest := [.int (nI 0), .ref oa]) ⟨hx, hb, hml, hown, hts⟩ (hc _) (cwV 1 hts gL_append_X6_append rfl rfl rfl (by decide +kernel) ⟨Nat.le_of_ble_eq_true rfl, Nat.le_of_ble_eq_true rfl⟩) (wV1 (pre := [(oa, .inl (G.2.2.2.2, 1, .inr (.inl og)))]) (mid := [(xa, .inr (5, fs))] ++ (wr)) (va_recv (ws := [(oa, .inl (G.2.2.2.2, 1, .inr (.inl og)))] ++ ([(xa, .inr (5, fs))] ++ (wr))) hK hP (ci := 5) (q0 := 1) rfl rfl) hK hN hP hD) rfl rfl hl.1 rfl (lv_room (Nat.le_of_ble_eq_true rfl)) dL_append_4 ⟨Nat.le_of_ble_eq_true rfl, Nat.le_of_ble_eq_true rfl⟩) hP hD hS hA (fun r u H locs hw hP9 hD9 hS => ?_)
  have hP : PP G ([(oa, .inl (G.2.2.2.2, 1, .inr (.inl og)))] ++ (ou u)) _ := hP9
  have hD : va_D Ar ([(oa, .inl (G.2.2.2.2, 1, .inr (.inl og)))] ++ (ou u)) := hD9
  refine lv_i2l (v := r.toInt64) hx hb dL_append_7 rfl ?_
  refine va_last (D := G.1) (ws := [(oa, .inl (G.2.2.2.2, 1, .inr (.inl og)))] ++ (ou u)) hx hb hK hP hD hS 0 3 (n := 1) rfl rfl (by first | assumption | exact vp_in_nI (by omega) (by omega)) dL_append_8 (fun H locs hP hD hS => ?_)
  have hP : PP G ([(oa, .inl (G.2.2.2.2, 1, .inr (.inl (vp_updL og 0 r.toInt64))))] ++ (ou u)) _ := hP
  have hD : va_D Ar ([(oa, .inl (G.2.2.2.2, 1, .inr (.inl (vp_updL og 0 r.toInt64))))] ++ (ou u)) := hD
  refine lv_goto (tgt := 18) hx hb dL_append_9 (by decide) ?_
  refine lv_iconst (v := nI 0) hx hb dL_append_18 (by decide) ?_
  exact wr_iret (G := G) (S := Int32 × S) (r, u) hx hb hr hlocks hP hD hS (Nat.le_of_ble_eq_true rfl) (Nat.le_of_ble_eq_true rfl) (by exact ⟨rfl, hw⟩) dL_append_19

set_option maxHeartbeats 4000000 in
set_option maxRecDepth 100000 in
theorem w_append_t1 (l : Launch) (G : GG) (sz xa oa : Nat) (fs : List Value) (wr : va_W) (og : Nat → Int64) (p0 : Int32) (hc : TH l yX6_append wsX6_append 7 G [.ref xa, .int p0] ([(xa, .inr (5, fs))] ++ (wr)) IAE) : LWi l yL_append wsL_append 8 G [.ref xa, .int p0, .ref oa] ([(oa, .inl (G.2.2.2.2, 1, .inr (.inl og)))] ++ ([(xa, .inr (5, fs))] ++ (wr))) sz (S := Unit) (fun r _ => r = nI 1) (fun _ => [(oa, .inl (G.2.2.2.2, 1, .inr (.inl og)))] ++ ([(xa, .inr (5, fs))] ++ (wr))) 1 6 := by
  refine lw_of (l := l) (y := yL_append) (w := wsL_append) (d := 8) (G := G) (As := [.ref xa, .int p0, .ref oa]) (sz := sz) (mc := 1) (ms := 6) (cc := cL_append) (maxL := 4) (ret := (some .int)) (hh := [(0, 9, 12, 19), (0, 9, 15, 33)]) (Qc := fun Ar => wQi G (S := Unit) (fun r _ => r = nI 1) (fun _ => [(oa, .inl (G.2.2.2.2, 1, .inr (.inl og)))] ++ ([(xa, .inr (5, fs))] ++ (wr))) Ar) (by decide) rfl (Nat.le_of_ble_eq_true rfl) ?_
  intro pG eG s mG below meth cG hx hb hr hml hts hown hlocks htb hP hK hN hX hZ Ar hD hA hS ls hl
  have hown : s.vm.findClass RL = some mG.cls := hown
  have hP : PP G ([(oa, .inl (G.2.2.2.2, 1, .inr (.inl og)))] ++ ([(xa, .inr (5, fs))] ++ (wr))) s.heap := hP
  have hD : va_D Ar ([(oa, .inl (G.2.2.2.2, 1, .inr (.inl og)))] ++ ([(xa, .inr (5, fs))] ++ (wr))) := hD
  have hl : lv_has ls 4 [(0, .ref xa), (1, .int p0), (2, .ref oa)] := hl
  refine lv_aload_n hx hb dL_append_0 rfl (lv_at hl 2 rfl) ?_
  refine lv_iconst (v := nI 0) hx hb dL_append_1 (by decide) ?_
  refine lv_aload_n hx hb dL_append_2 rfl (lv_at hl 0 rfl) ?_
  refine lv_iload_n hx hb dL_append_3 rfl (lv_at hl 1 rfl) ?_
  refine wx_go (vx_runV (As := [.int p0]) (rest := [.int (nI 0), .ref oa]) ⟨hx, hb, hml, hown, hts⟩ (hc) (cwV 1 hts gL_append_X6_append rfl rfl rfl (by decide +kernel) ⟨Nat.le_of_ble_eq_true rfl, Nat.le_of_ble_eq_true rfl⟩) (xV (ws := [(xa, .inr (5, fs))] ++ (wr)) (va_recv (ws := [(oa, .inl (G.2.2.2.2, 1, .inr (.inl og)))] ++ ([(xa, .inr (5, fs))] ++ (wr))) hK hP (ci := 5) (q0 := 1) rfl rfl) hK hN (P_beh (pre := [(oa, .inl (G.2.2.2.2, 1, .inr (.inl og)))]) hP) hX hZ) rfl rfl hl.1 rfl (lv_room (Nat.le_of_ble_eq_true rfl)) dL_append_4 ⟨Nat.le_of_ble_eq_true rfl, Nat.le_of_ble_eq_true rfl⟩) hP hS (fun q9 ce H locs hP hS hce hcv hcl => ?_)
  refine vx_catch (own := RL) (name := IAE) (E := IAE) hown [] ⟨0, 9, 12, 19⟩ [⟨0, 9, 15, 33⟩] (htb.trans rfl) (fun z hz => absurd hz List.not_mem_nil) (by decide) (by decide) (hts (.classLink RL 19 "java/lang/IllegalArgumentException") (List.mem_of_getElem? (i := 1) rfl)) (va_Nw.use rfl hX.1.2.1) hce hcv hcl ?_
  refine lv_astore_n (lv' := [(3, .ref q9), (0, .ref xa), (1, .int p0), (2, .ref oa)]) hx hb dL_append_12 rfl hl (by decide) rfl (fun ls hl => ?_)
  refine lv_iconst (v := nI 1) hx hb dL_append_13 (by decide) ?_
  exact wr_iret (G := G) (S := Unit) () hx hb hr hlocks hP hD hS (Nat.le_of_ble_eq_true rfl) (Nat.le_of_ble_eq_true rfl) (by rfl) dL_append_14

set_option maxHeartbeats 4000000 in
set_option maxRecDepth 100000 in
theorem w_append_t2 (l : Launch) (G : GG) (sz xa oa : Nat) (fs : List Value) (wr : va_W) (og : Nat → Int64) (p0 : Int32) (hc : TH l yX6_append wsX6_append 7 G [.ref xa, .int p0] ([(xa, .inr (5, fs))] ++ (wr)) ISE) : LWi l yL_append wsL_append 8 G [.ref xa, .int p0, .ref oa] ([(oa, .inl (G.2.2.2.2, 1, .inr (.inl og)))] ++ ([(xa, .inr (5, fs))] ++ (wr))) sz (S := Unit) (fun r _ => r = nI 2) (fun _ => [(oa, .inl (G.2.2.2.2, 1, .inr (.inl og)))] ++ ([(xa, .inr (5, fs))] ++ (wr))) 1 6 := by
  refine lw_of (l := l) (y := yL_append) (w := wsL_append) (d := 8) (G := G) (As := [.ref xa, .int p0, .ref oa]) (sz := sz) (mc := 1) (ms := 6) (cc := cL_append) (maxL := 4) (ret := (some .int)) (hh := [(0, 9, 12, 19), (0, 9, 15, 33)]) (Qc := fun Ar => wQi G (S := Unit) (fun r _ => r = nI 2) (fun _ => [(oa, .inl (G.2.2.2.2, 1, .inr (.inl og)))] ++ ([(xa, .inr (5, fs))] ++ (wr))) Ar) (by decide) rfl (Nat.le_of_ble_eq_true rfl) ?_
  intro pG eG s mG below meth cG hx hb hr hml hts hown hlocks htb hP hK hN hX hZ Ar hD hA hS ls hl
  have hown : s.vm.findClass RL = some mG.cls := hown
  have hP : PP G ([(oa, .inl (G.2.2.2.2, 1, .inr (.inl og)))] ++ ([(xa, .inr (5, fs))] ++ (wr))) s.heap := hP
  have hD : va_D Ar ([(oa, .inl (G.2.2.2.2, 1, .inr (.inl og)))] ++ ([(xa, .inr (5, fs))] ++ (wr))) := hD
  have hl : lv_has ls 4 [(0, .ref xa), (1, .int p0), (2, .ref oa)] := hl
  refine lv_aload_n hx hb dL_append_0 rfl (lv_at hl 2 rfl) ?_
  refine lv_iconst (v := nI 0) hx hb dL_append_1 (by decide) ?_
  refine lv_aload_n hx hb dL_append_2 rfl (lv_at hl 0 rfl) ?_
  refine lv_iload_n hx hb dL_append_3 rfl (lv_at hl 1 rfl) ?_
  refine wx_go (vx_runV (As := [.int p0]) (rest := [.int (nI 0), .ref oa]) ⟨hx, hb, hml, hown, hts⟩ (hc) (cwV 1 hts gL_append_X6_append rfl rfl rfl (by decide +kernel) ⟨Nat.le_of_ble_eq_true rfl, Nat.le_of_ble_eq_true rfl⟩) (xV (ws := [(xa, .inr (5, fs))] ++ (wr)) (va_recv (ws := [(oa, .inl (G.2.2.2.2, 1, .inr (.inl og)))] ++ ([(xa, .inr (5, fs))] ++ (wr))) hK hP (ci := 5) (q0 := 1) rfl rfl) hK hN (P_beh (pre := [(oa, .inl (G.2.2.2.2, 1, .inr (.inl og)))]) hP) hX hZ) rfl rfl hl.1 rfl (lv_room (Nat.le_of_ble_eq_true rfl)) dL_append_4 ⟨Nat.le_of_ble_eq_true rfl, Nat.le_of_ble_eq_true rfl⟩) hP hS (fun q9 ce H locs hP hS hce hcv hcl => ?_)
  refine vx_catch (own := RL) (name := ISE) (E := ISE) hown [⟨0, 9, 12, 19⟩] ⟨0, 9, 15, 33⟩ [] (htb.trans rfl) (fun z hz => by obtain rfl := List.mem_singleton.mp hz; exact Or.inr ⟨by decide, IAE, (hts (.classLink RL 19 "java/lang/IllegalArgumentException") (List.mem_of_getElem? (i := 1) rfl)), hX.2.1.2.1⟩) (by decide) (by decide) (hts (.classLink RL 33 "java/lang/IllegalStateException") (List.mem_of_getElem? (i := 2) rfl)) (va_Nw.use rfl hX.1.2.2) hce hcv hcl ?_
  refine lv_astore_n (lv' := [(3, .ref q9), (0, .ref xa), (1, .int p0), (2, .ref oa)]) hx hb dL_append_15 rfl hl (by decide) rfl (fun ls hl => ?_)
  refine lv_iconst (v := nI 2) hx hb dL_append_16 (by decide) ?_
  exact wr_iret (G := G) (S := Unit) () hx hb hr hlocks hP hD hS (Nat.le_of_ble_eq_true rfl) (Nat.le_of_ble_eq_true rfl) (by rfl) dL_append_17

set_option maxHeartbeats 4000000 in
set_option maxRecDepth 100000 in
theorem w_load_ok (l : Launch) (G : GG) (sz xa oa : Nat) (fs : List Value) (wr : va_W) (og : Nat → Int64)  {S : Type} {post : Int32 → S → Prop} {ou : S → va_W} (hc : ∀ sz : Nat, WRi l yX6_load wsX6_load 6 G [.ref xa] ([(xa, .inr (5, fs))] ++ (wr)) sz (S := S) post ou 0 0) : LWi l yL_load wsL_load 7 G [.ref xa, .ref oa] ([(oa, .inl (G.2.2.2.2, 1, .inr (.inl og)))] ++ ([(xa, .inr (5, fs))] ++ (wr))) sz (S := Int32 × S) (fun r u => r = nI 0 ∧ post u.1 u.2) (fun u => [(oa, .inl (G.2.2.2.2, 1, .inr (.inl (vp_updL og 0 (u.1.toInt64)))))] ++ ou u.2) 0 0 := by
  refine lw_of (l := l) (y := yL_load) (w := wsL_load) (d := 7) (G := G) (As := [.ref xa, .ref oa]) (sz := sz) (mc := 0) (ms := 0) (cc := cL_load) (maxL := 3) (ret := (some .int)) (hh := [(0, 8, 11, 19)]) (Qc := fun Ar => wQi G (S := Int32 × S) (fun r u => r = nI 0 ∧ post u.1 u.2) (fun u => [(oa, .inl (G.2.2.2.2, 1, .inr (.inl (vp_updL og 0 (u.1.toInt64)))))] ++ ou u.2) Ar) (by decide) rfl (Nat.le_of_ble_eq_true rfl) ?_
  intro pG eG s mG below meth cG hx hb hr hml hts hown hlocks htb hP hK hN hX hZ Ar hD hA hS ls hl
  have hown : s.vm.findClass RL = some mG.cls := hown
  have hP : PP G ([(oa, .inl (G.2.2.2.2, 1, .inr (.inl og)))] ++ ([(xa, .inr (5, fs))] ++ (wr))) s.heap := hP
  have hD : va_D Ar ([(oa, .inl (G.2.2.2.2, 1, .inr (.inl og)))] ++ ([(xa, .inr (5, fs))] ++ (wr))) := hD
  have hl : lv_has ls 3 [(0, .ref xa), (1, .ref oa)] := hl
  refine lv_aload_n hx hb dL_load_0 rfl (lv_at hl 1 rfl) ?_
  refine lv_iconst (v := nI 0) hx hb dL_load_1 (by decide) ?_
  refine lv_aload_n hx hb dL_load_2 rfl (lv_at hl 0 rfl) ?_
  refine wr_g1i (pre := [(oa, .inl (G.2.2.2.2, 1, .inr (.inl og)))]) (mid := [(xa, .inr (5, fs))] ++ (wr)) (va_runV (As := []) (rest := [.int (nI 0), .ref oa]) ⟨hx, hb, hml, hown, hts⟩ (hc _) (cwV 0 hts gL_load_X6_load rfl rfl rfl (by decide +kernel) ⟨Nat.le_of_ble_eq_true rfl, Nat.le_of_ble_eq_true rfl⟩) (wV1 (pre := [(oa, .inl (G.2.2.2.2, 1, .inr (.inl og)))]) (mid := [(xa, .inr (5, fs))] ++ (wr)) (va_recv (ws := [(oa, .inl (G.2.2.2.2, 1, .inr (.inl og)))] ++ ([(xa, .inr (5, fs))] ++ (wr))) hK hP (ci := 5) (q0 := 1) rfl rfl) hK hN hP hD) rfl rfl hl.1 rfl (lv_room (Nat.le_of_ble_eq_true rfl)) dL_load_3 ⟨Nat.le_of_ble_eq_true rfl, Nat.le_of_ble_eq_true rfl⟩) hP hD hS hA (fun r u H locs hw hP9 hD9 hS => ?_)
  have hP : PP G ([(oa, .inl (G.2.2.2.2, 1, .inr (.inl og)))] ++ (ou u)) _ := hP9
  have hD : va_D Ar ([(oa, .inl (G.2.2.2.2, 1, .inr (.inl og)))] ++ (ou u)) := hD9
  refine lv_i2l (v := r.toInt64) hx hb dL_load_6 rfl ?_
  refine va_last (D := G.1) (ws := [(oa, .inl (G.2.2.2.2, 1, .inr (.inl og)))] ++ (ou u)) hx hb hK hP hD hS 0 3 (n := 1) rfl rfl (by first | assumption | exact vp_in_nI (by omega) (by omega)) dL_load_7 (fun H locs hP hD hS => ?_)
  have hP : PP G ([(oa, .inl (G.2.2.2.2, 1, .inr (.inl (vp_updL og 0 r.toInt64))))] ++ (ou u)) _ := hP
  have hD : va_D Ar ([(oa, .inl (G.2.2.2.2, 1, .inr (.inl (vp_updL og 0 r.toInt64))))] ++ (ou u)) := hD
  refine lv_goto (tgt := 14) hx hb dL_load_8 (by decide) ?_
  refine lv_iconst (v := nI 0) hx hb dL_load_14 (by decide) ?_
  exact wr_iret (G := G) (S := Int32 × S) (r, u) hx hb hr hlocks hP hD hS (Nat.le_of_ble_eq_true rfl) (Nat.le_of_ble_eq_true rfl) (by exact ⟨rfl, hw⟩) dL_load_15

set_option maxHeartbeats 4000000 in
set_option maxRecDepth 100000 in
theorem w_load_t1 (l : Launch) (G : GG) (sz xa oa : Nat) (fs : List Value) (wr : va_W) (og : Nat → Int64)  (hc : TH l yX6_load wsX6_load 7 G [.ref xa] ([(xa, .inr (5, fs))] ++ (wr)) IAE) : LWi l yL_load wsL_load 8 G [.ref xa, .ref oa] ([(oa, .inl (G.2.2.2.2, 1, .inr (.inl og)))] ++ ([(xa, .inr (5, fs))] ++ (wr))) sz (S := Unit) (fun r _ => r = nI 1) (fun _ => [(oa, .inl (G.2.2.2.2, 1, .inr (.inl og)))] ++ ([(xa, .inr (5, fs))] ++ (wr))) 1 6 := by
  refine lw_of (l := l) (y := yL_load) (w := wsL_load) (d := 8) (G := G) (As := [.ref xa, .ref oa]) (sz := sz) (mc := 1) (ms := 6) (cc := cL_load) (maxL := 3) (ret := (some .int)) (hh := [(0, 8, 11, 19)]) (Qc := fun Ar => wQi G (S := Unit) (fun r _ => r = nI 1) (fun _ => [(oa, .inl (G.2.2.2.2, 1, .inr (.inl og)))] ++ ([(xa, .inr (5, fs))] ++ (wr))) Ar) (by decide) rfl (Nat.le_of_ble_eq_true rfl) ?_
  intro pG eG s mG below meth cG hx hb hr hml hts hown hlocks htb hP hK hN hX hZ Ar hD hA hS ls hl
  have hown : s.vm.findClass RL = some mG.cls := hown
  have hP : PP G ([(oa, .inl (G.2.2.2.2, 1, .inr (.inl og)))] ++ ([(xa, .inr (5, fs))] ++ (wr))) s.heap := hP
  have hD : va_D Ar ([(oa, .inl (G.2.2.2.2, 1, .inr (.inl og)))] ++ ([(xa, .inr (5, fs))] ++ (wr))) := hD
  have hl : lv_has ls 3 [(0, .ref xa), (1, .ref oa)] := hl
  refine lv_aload_n hx hb dL_load_0 rfl (lv_at hl 1 rfl) ?_
  refine lv_iconst (v := nI 0) hx hb dL_load_1 (by decide) ?_
  refine lv_aload_n hx hb dL_load_2 rfl (lv_at hl 0 rfl) ?_
  refine wx_go (vx_runV (As := []) (rest := [.int (nI 0), .ref oa]) ⟨hx, hb, hml, hown, hts⟩ (hc) (cwV 0 hts gL_load_X6_load rfl rfl rfl (by decide +kernel) ⟨Nat.le_of_ble_eq_true rfl, Nat.le_of_ble_eq_true rfl⟩) (xV (ws := [(xa, .inr (5, fs))] ++ (wr)) (va_recv (ws := [(oa, .inl (G.2.2.2.2, 1, .inr (.inl og)))] ++ ([(xa, .inr (5, fs))] ++ (wr))) hK hP (ci := 5) (q0 := 1) rfl rfl) hK hN (P_beh (pre := [(oa, .inl (G.2.2.2.2, 1, .inr (.inl og)))]) hP) hX hZ) rfl rfl hl.1 rfl (lv_room (Nat.le_of_ble_eq_true rfl)) dL_load_3 ⟨Nat.le_of_ble_eq_true rfl, Nat.le_of_ble_eq_true rfl⟩) hP hS (fun q9 ce H locs hP hS hce hcv hcl => ?_)
  refine vx_catch (own := RL) (name := IAE) (E := IAE) hown [] ⟨0, 8, 11, 19⟩ [] (htb.trans rfl) (fun z hz => absurd hz List.not_mem_nil) (by decide) (by decide) (hts (.classLink RL 19 "java/lang/IllegalArgumentException") (List.mem_of_getElem? (i := 1) rfl)) (va_Nw.use rfl hX.1.2.1) hce hcv hcl ?_
  refine lv_astore_n (lv' := [(2, .ref q9), (0, .ref xa), (1, .ref oa)]) hx hb dL_load_11 rfl hl (by decide) rfl (fun ls hl => ?_)
  refine lv_iconst (v := nI 1) hx hb dL_load_12 (by decide) ?_
  exact wr_iret (G := G) (S := Unit) () hx hb hr hlocks hP hD hS (Nat.le_of_ble_eq_true rfl) (Nat.le_of_ble_eq_true rfl) (by rfl) dL_load_13

set_option maxHeartbeats 4000000 in
set_option maxRecDepth 100000 in
theorem w_keep_ok (l : Launch) (G : GG) (sz xa oa : Nat) (fs : List Value) (wr : va_W) (og : Nat → Int64) (p0 : Int32) {S : Type} {post : Int32 → S → Prop} {ou : S → va_W} (hc : ∀ sz : Nat, WRi l yX6_keep wsX6_keep 4 G [.ref xa, .int p0] ([(xa, .inr (5, fs))] ++ (wr)) sz (S := S) post ou 7 64) : LWi l yL_keep wsL_keep 5 G [.ref xa, .int p0, .ref oa] ([(oa, .inl (G.2.2.2.2, 1, .inr (.inl og)))] ++ ([(xa, .inr (5, fs))] ++ (wr))) sz (S := Int32 × S) (fun r u => r = nI 0 ∧ post u.1 u.2) (fun u => [(oa, .inl (G.2.2.2.2, 1, .inr (.inl (vp_updL og 0 (u.1.toInt64)))))] ++ ou u.2) 7 64 := by
  refine lw_of (l := l) (y := yL_keep) (w := wsL_keep) (d := 5) (G := G) (As := [.ref xa, .int p0, .ref oa]) (sz := sz) (mc := 7) (ms := 64) (cc := cL_keep) (maxL := 4) (ret := (some .int)) (hh := [(0, 9, 12, 19)]) (Qc := fun Ar => wQi G (S := Int32 × S) (fun r u => r = nI 0 ∧ post u.1 u.2) (fun u => [(oa, .inl (G.2.2.2.2, 1, .inr (.inl (vp_updL og 0 (u.1.toInt64)))))] ++ ou u.2) Ar) (by decide) rfl (Nat.le_of_ble_eq_true rfl) ?_
  intro pG eG s mG below meth cG hx hb hr hml hts hown hlocks htb hP hK hN hX hZ Ar hD hA hS ls hl
  have hown : s.vm.findClass RL = some mG.cls := hown
  have hP : PP G ([(oa, .inl (G.2.2.2.2, 1, .inr (.inl og)))] ++ ([(xa, .inr (5, fs))] ++ (wr))) s.heap := hP
  have hD : va_D Ar ([(oa, .inl (G.2.2.2.2, 1, .inr (.inl og)))] ++ ([(xa, .inr (5, fs))] ++ (wr))) := hD
  have hl : lv_has ls 4 [(0, .ref xa), (1, .int p0), (2, .ref oa)] := hl
  refine lv_aload_n hx hb dL_keep_0 rfl (lv_at hl 2 rfl) ?_
  refine lv_iconst (v := nI 0) hx hb dL_keep_1 (by decide) ?_
  refine lv_aload_n hx hb dL_keep_2 rfl (lv_at hl 0 rfl) ?_
  refine lv_iload_n hx hb dL_keep_3 rfl (lv_at hl 1 rfl) ?_
  refine wr_g1i (pre := [(oa, .inl (G.2.2.2.2, 1, .inr (.inl og)))]) (mid := [(xa, .inr (5, fs))] ++ (wr)) (va_runV (As := [.int p0]) (rest := [.int (nI 0), .ref oa]) ⟨hx, hb, hml, hown, hts⟩ (hc _) (cwV 1 hts gL_keep_X6_keep rfl rfl rfl (by decide +kernel) ⟨Nat.le_of_ble_eq_true rfl, Nat.le_of_ble_eq_true rfl⟩) (wV1 (pre := [(oa, .inl (G.2.2.2.2, 1, .inr (.inl og)))]) (mid := [(xa, .inr (5, fs))] ++ (wr)) (va_recv (ws := [(oa, .inl (G.2.2.2.2, 1, .inr (.inl og)))] ++ ([(xa, .inr (5, fs))] ++ (wr))) hK hP (ci := 5) (q0 := 1) rfl rfl) hK hN hP hD) rfl rfl hl.1 rfl (lv_room (Nat.le_of_ble_eq_true rfl)) dL_keep_4 ⟨Nat.le_of_ble_eq_true rfl, Nat.le_of_ble_eq_true rfl⟩) hP hD hS hA (fun r u H locs hw hP9 hD9 hS => ?_)
  have hP : PP G ([(oa, .inl (G.2.2.2.2, 1, .inr (.inl og)))] ++ (ou u)) _ := hP9
  have hD : va_D Ar ([(oa, .inl (G.2.2.2.2, 1, .inr (.inl og)))] ++ (ou u)) := hD9
  refine lv_i2l (v := r.toInt64) hx hb dL_keep_7 rfl ?_
  refine va_last (D := G.1) (ws := [(oa, .inl (G.2.2.2.2, 1, .inr (.inl og)))] ++ (ou u)) hx hb hK hP hD hS 0 3 (n := 1) rfl rfl (by first | assumption | exact vp_in_nI (by omega) (by omega)) dL_keep_8 (fun H locs hP hD hS => ?_)
  have hP : PP G ([(oa, .inl (G.2.2.2.2, 1, .inr (.inl (vp_updL og 0 r.toInt64))))] ++ (ou u)) _ := hP
  have hD : va_D Ar ([(oa, .inl (G.2.2.2.2, 1, .inr (.inl (vp_updL og 0 r.toInt64))))] ++ (ou u)) := hD
  refine lv_goto (tgt := 15) hx hb dL_keep_9 (by decide) ?_
  refine lv_iconst (v := nI 0) hx hb dL_keep_15 (by decide) ?_
  exact wr_iret (G := G) (S := Int32 × S) (r, u) hx hb hr hlocks hP hD hS (Nat.le_of_ble_eq_true rfl) (Nat.le_of_ble_eq_true rfl) (by exact ⟨rfl, hw⟩) dL_keep_16

set_option maxHeartbeats 4000000 in
set_option maxRecDepth 100000 in
theorem w_keep_t1 (l : Launch) (G : GG) (sz xa oa : Nat) (fs : List Value) (wr : va_W) (og : Nat → Int64) (p0 : Int32) (hc : TH l yX6_keep wsX6_keep 7 G [.ref xa, .int p0] ([(xa, .inr (5, fs))] ++ (wr)) IAE) : LWi l yL_keep wsL_keep 8 G [.ref xa, .int p0, .ref oa] ([(oa, .inl (G.2.2.2.2, 1, .inr (.inl og)))] ++ ([(xa, .inr (5, fs))] ++ (wr))) sz (S := Unit) (fun r _ => r = nI 1) (fun _ => [(oa, .inl (G.2.2.2.2, 1, .inr (.inl og)))] ++ ([(xa, .inr (5, fs))] ++ (wr))) 1 6 := by
  refine lw_of (l := l) (y := yL_keep) (w := wsL_keep) (d := 8) (G := G) (As := [.ref xa, .int p0, .ref oa]) (sz := sz) (mc := 1) (ms := 6) (cc := cL_keep) (maxL := 4) (ret := (some .int)) (hh := [(0, 9, 12, 19)]) (Qc := fun Ar => wQi G (S := Unit) (fun r _ => r = nI 1) (fun _ => [(oa, .inl (G.2.2.2.2, 1, .inr (.inl og)))] ++ ([(xa, .inr (5, fs))] ++ (wr))) Ar) (by decide) rfl (Nat.le_of_ble_eq_true rfl) ?_
  intro pG eG s mG below meth cG hx hb hr hml hts hown hlocks htb hP hK hN hX hZ Ar hD hA hS ls hl
  have hown : s.vm.findClass RL = some mG.cls := hown
  have hP : PP G ([(oa, .inl (G.2.2.2.2, 1, .inr (.inl og)))] ++ ([(xa, .inr (5, fs))] ++ (wr))) s.heap := hP
  have hD : va_D Ar ([(oa, .inl (G.2.2.2.2, 1, .inr (.inl og)))] ++ ([(xa, .inr (5, fs))] ++ (wr))) := hD
  have hl : lv_has ls 4 [(0, .ref xa), (1, .int p0), (2, .ref oa)] := hl
  refine lv_aload_n hx hb dL_keep_0 rfl (lv_at hl 2 rfl) ?_
  refine lv_iconst (v := nI 0) hx hb dL_keep_1 (by decide) ?_
  refine lv_aload_n hx hb dL_keep_2 rfl (lv_at hl 0 rfl) ?_
  refine lv_iload_n hx hb dL_keep_3 rfl (lv_at hl 1 rfl) ?_
  refine wx_go (vx_runV (As := [.int p0]) (rest := [.int (nI 0), .ref oa]) ⟨hx, hb, hml, hown, hts⟩ (hc) (cwV 1 hts gL_keep_X6_keep rfl rfl rfl (by decide +kernel) ⟨Nat.le_of_ble_eq_true rfl, Nat.le_of_ble_eq_true rfl⟩) (xV (ws := [(xa, .inr (5, fs))] ++ (wr)) (va_recv (ws := [(oa, .inl (G.2.2.2.2, 1, .inr (.inl og)))] ++ ([(xa, .inr (5, fs))] ++ (wr))) hK hP (ci := 5) (q0 := 1) rfl rfl) hK hN (P_beh (pre := [(oa, .inl (G.2.2.2.2, 1, .inr (.inl og)))]) hP) hX hZ) rfl rfl hl.1 rfl (lv_room (Nat.le_of_ble_eq_true rfl)) dL_keep_4 ⟨Nat.le_of_ble_eq_true rfl, Nat.le_of_ble_eq_true rfl⟩) hP hS (fun q9 ce H locs hP hS hce hcv hcl => ?_)
  refine vx_catch (own := RL) (name := IAE) (E := IAE) hown [] ⟨0, 9, 12, 19⟩ [] (htb.trans rfl) (fun z hz => absurd hz List.not_mem_nil) (by decide) (by decide) (hts (.classLink RL 19 "java/lang/IllegalArgumentException") (List.mem_of_getElem? (i := 1) rfl)) (va_Nw.use rfl hX.1.2.1) hce hcv hcl ?_
  refine lv_astore_n (lv' := [(3, .ref q9), (0, .ref xa), (1, .int p0), (2, .ref oa)]) hx hb dL_keep_12 rfl hl (by decide) rfl (fun ls hl => ?_)
  refine lv_iconst (v := nI 1) hx hb dL_keep_13 (by decide) ?_
  exact wr_iret (G := G) (S := Unit) () hx hb hr hlocks hP hD hS (Nat.le_of_ble_eq_true rfl) (Nat.le_of_ble_eq_true rfl) (by rfl) dL_keep_14

set_option maxHeartbeats 4000000 in
set_option maxRecDepth 100000 in
theorem w_goBack_ok (l : Launch) (G : GG) (sz xa oa : Nat) (fs : List Value) (wr : va_W) (og : Nat → Int64) (p0 : Int32) {S : Type} {post : Int32 → S → Prop} {ou : S → va_W} (hc : ∀ sz : Nat, WRi l yX6_goBack wsX6_goBack 5 G [.ref xa, .int p0] ([(xa, .inr (5, fs))] ++ (wr)) sz (S := S) post ou 0 0) : LWi l yL_goBack wsL_goBack 6 G [.ref xa, .int p0, .ref oa] ([(oa, .inl (G.2.2.2.2, 1, .inr (.inl og)))] ++ ([(xa, .inr (5, fs))] ++ (wr))) sz (S := Int32 × S) (fun r u => r = nI 0 ∧ post u.1 u.2) (fun u => [(oa, .inl (G.2.2.2.2, 1, .inr (.inl (vp_updL og 0 (u.1.toInt64)))))] ++ ou u.2) 0 0 := by
  refine lw_of (l := l) (y := yL_goBack) (w := wsL_goBack) (d := 6) (G := G) (As := [.ref xa, .int p0, .ref oa]) (sz := sz) (mc := 0) (ms := 0) (cc := cL_goBack) (maxL := 4) (ret := (some .int)) (hh := [(0, 9, 12, 19), (0, 9, 15, 33)]) (Qc := fun Ar => wQi G (S := Int32 × S) (fun r u => r = nI 0 ∧ post u.1 u.2) (fun u => [(oa, .inl (G.2.2.2.2, 1, .inr (.inl (vp_updL og 0 (u.1.toInt64)))))] ++ ou u.2) Ar) (by decide) rfl (Nat.le_of_ble_eq_true rfl) ?_
  intro pG eG s mG below meth cG hx hb hr hml hts hown hlocks htb hP hK hN hX hZ Ar hD hA hS ls hl
  have hown : s.vm.findClass RL = some mG.cls := hown
  have hP : PP G ([(oa, .inl (G.2.2.2.2, 1, .inr (.inl og)))] ++ ([(xa, .inr (5, fs))] ++ (wr))) s.heap := hP
  have hD : va_D Ar ([(oa, .inl (G.2.2.2.2, 1, .inr (.inl og)))] ++ ([(xa, .inr (5, fs))] ++ (wr))) := hD
  have hl : lv_has ls 4 [(0, .ref xa), (1, .int p0), (2, .ref oa)] := hl
  refine lv_aload_n hx hb dL_goBack_0 rfl (lv_at hl 2 rfl) ?_
  refine lv_iconst (v := nI 0) hx hb dL_goBack_1 (by decide) ?_
  refine lv_aload_n hx hb dL_goBack_2 rfl (lv_at hl 0 rfl) ?_
  refine lv_iload_n hx hb dL_goBack_3 rfl (lv_at hl 1 rfl) ?_
  refine wr_g1i (pre := [(oa, .inl (G.2.2.2.2, 1, .inr (.inl og)))]) (mid := [(xa, .inr (5, fs))] ++ (wr)) (va_runV (As := [.int p0]) (rest := [.int (nI 0), .ref oa]) ⟨hx, hb, hml, hown, hts⟩ (hc _) (cwV 1 hts gL_goBack_X6_goBack rfl rfl rfl (by decide +kernel) ⟨Nat.le_of_ble_eq_true rfl, Nat.le_of_ble_eq_true rfl⟩) (wV1 (pre := [(oa, .inl (G.2.2.2.2, 1, .inr (.inl og)))]) (mid := [(xa, .inr (5, fs))] ++ (wr)) (va_recv (ws := [(oa, .inl (G.2.2.2.2, 1, .inr (.inl og)))] ++ ([(xa, .inr (5, fs))] ++ (wr))) hK hP (ci := 5) (q0 := 1) rfl rfl) hK hN hP hD) rfl rfl hl.1 rfl (lv_room (Nat.le_of_ble_eq_true rfl)) dL_goBack_4 ⟨Nat.le_of_ble_eq_true rfl, Nat.le_of_ble_eq_true rfl⟩) hP hD hS hA (fun r u H locs hw hP9 hD9 hS => ?_)
  have hP : PP G ([(oa, .inl (G.2.2.2.2, 1, .inr (.inl og)))] ++ (ou u)) _ := hP9
  have hD : va_D Ar ([(oa, .inl (G.2.2.2.2, 1, .inr (.inl og)))] ++ (ou u)) := hD9
  refine lv_i2l (v := r.toInt64) hx hb dL_goBack_7 rfl ?_
  refine va_last (D := G.1) (ws := [(oa, .inl (G.2.2.2.2, 1, .inr (.inl og)))] ++ (ou u)) hx hb hK hP hD hS 0 3 (n := 1) rfl rfl (by first | assumption | exact vp_in_nI (by omega) (by omega)) dL_goBack_8 (fun H locs hP hD hS => ?_)
  have hP : PP G ([(oa, .inl (G.2.2.2.2, 1, .inr (.inl (vp_updL og 0 r.toInt64))))] ++ (ou u)) _ := hP
  have hD : va_D Ar ([(oa, .inl (G.2.2.2.2, 1, .inr (.inl (vp_updL og 0 r.toInt64))))] ++ (ou u)) := hD
  refine lv_goto (tgt := 18) hx hb dL_goBack_9 (by decide) ?_
  refine lv_iconst (v := nI 0) hx hb dL_goBack_18 (by decide) ?_
  exact wr_iret (G := G) (S := Int32 × S) (r, u) hx hb hr hlocks hP hD hS (Nat.le_of_ble_eq_true rfl) (Nat.le_of_ble_eq_true rfl) (by exact ⟨rfl, hw⟩) dL_goBack_19

set_option maxHeartbeats 4000000 in
set_option maxRecDepth 100000 in
theorem w_goBack_t1 (l : Launch) (G : GG) (sz xa oa : Nat) (fs : List Value) (wr : va_W) (og : Nat → Int64) (p0 : Int32) (hc : TH l yX6_goBack wsX6_goBack 7 G [.ref xa, .int p0] ([(xa, .inr (5, fs))] ++ (wr)) IAE) : LWi l yL_goBack wsL_goBack 8 G [.ref xa, .int p0, .ref oa] ([(oa, .inl (G.2.2.2.2, 1, .inr (.inl og)))] ++ ([(xa, .inr (5, fs))] ++ (wr))) sz (S := Unit) (fun r _ => r = nI 1) (fun _ => [(oa, .inl (G.2.2.2.2, 1, .inr (.inl og)))] ++ ([(xa, .inr (5, fs))] ++ (wr))) 1 6 := by
  refine lw_of (l := l) (y := yL_goBack) (w := wsL_goBack) (d := 8) (G := G) (As := [.ref xa, .int p0, .ref oa]) (sz := sz) (mc := 1) (ms := 6) (cc := cL_goBack) (maxL := 4) (ret := (some .int)) (hh := [(0, 9, 12, 19), (0, 9, 15, 33)]) (Qc := fun Ar => wQi G (S := Unit) (fun r _ => r = nI 1) (fun _ => [(oa, .inl (G.2.2.2.2, 1, .inr (.inl og)))] ++ ([(xa, .inr (5, fs))] ++ (wr))) Ar) (by decide) rfl (Nat.le_of_ble_eq_true rfl) ?_
  intro pG eG s mG below meth cG hx hb hr hml hts hown hlocks htb hP hK hN hX hZ Ar hD hA hS ls hl
  have hown : s.vm.findClass RL = some mG.cls := hown
  have hP : PP G ([(oa, .inl (G.2.2.2.2, 1, .inr (.inl og)))] ++ ([(xa, .inr (5, fs))] ++ (wr))) s.heap := hP
  have hD : va_D Ar ([(oa, .inl (G.2.2.2.2, 1, .inr (.inl og)))] ++ ([(xa, .inr (5, fs))] ++ (wr))) := hD
  have hl : lv_has ls 4 [(0, .ref xa), (1, .int p0), (2, .ref oa)] := hl
  refine lv_aload_n hx hb dL_goBack_0 rfl (lv_at hl 2 rfl) ?_
  refine lv_iconst (v := nI 0) hx hb dL_goBack_1 (by decide) ?_
  refine lv_aload_n hx hb dL_goBack_2 rfl (lv_at hl 0 rfl) ?_
  refine lv_iload_n hx hb dL_goBack_3 rfl (lv_at hl 1 rfl) ?_
  refine wx_go (vx_runV (As := [.int p0]) (rest := [.int (nI 0), .ref oa]) ⟨hx, hb, hml, hown, hts⟩ (hc) (cwV 1 hts gL_goBack_X6_goBack rfl rfl rfl (by decide +kernel) ⟨Nat.le_of_ble_eq_true rfl, Nat.le_of_ble_eq_true rfl⟩) (xV (ws := [(xa, .inr (5, fs))] ++ (wr)) (va_recv (ws := [(oa, .inl (G.2.2.2.2, 1, .inr (.inl og)))] ++ ([(xa, .inr (5, fs))] ++ (wr))) hK hP (ci := 5) (q0 := 1) rfl rfl) hK hN (P_beh (pre := [(oa, .inl (G.2.2.2.2, 1, .inr (.inl og)))]) hP) hX hZ) rfl rfl hl.1 rfl (lv_room (Nat.le_of_ble_eq_true rfl)) dL_goBack_4 ⟨Nat.le_of_ble_eq_true rfl, Nat.le_of_ble_eq_true rfl⟩) hP hS (fun q9 ce H locs hP hS hce hcv hcl => ?_)
  refine vx_catch (own := RL) (name := IAE) (E := IAE) hown [] ⟨0, 9, 12, 19⟩ [⟨0, 9, 15, 33⟩] (htb.trans rfl) (fun z hz => absurd hz List.not_mem_nil) (by decide) (by decide) (hts (.classLink RL 19 "java/lang/IllegalArgumentException") (List.mem_of_getElem? (i := 1) rfl)) (va_Nw.use rfl hX.1.2.1) hce hcv hcl ?_
  refine lv_astore_n (lv' := [(3, .ref q9), (0, .ref xa), (1, .int p0), (2, .ref oa)]) hx hb dL_goBack_12 rfl hl (by decide) rfl (fun ls hl => ?_)
  refine lv_iconst (v := nI 1) hx hb dL_goBack_13 (by decide) ?_
  exact wr_iret (G := G) (S := Unit) () hx hb hr hlocks hP hD hS (Nat.le_of_ble_eq_true rfl) (Nat.le_of_ble_eq_true rfl) (by rfl) dL_goBack_14

set_option maxHeartbeats 4000000 in
set_option maxRecDepth 100000 in
theorem w_goBack_t2 (l : Launch) (G : GG) (sz xa oa : Nat) (fs : List Value) (wr : va_W) (og : Nat → Int64) (p0 : Int32) (hc : TH l yX6_goBack wsX6_goBack 7 G [.ref xa, .int p0] ([(xa, .inr (5, fs))] ++ (wr)) ISE) : LWi l yL_goBack wsL_goBack 8 G [.ref xa, .int p0, .ref oa] ([(oa, .inl (G.2.2.2.2, 1, .inr (.inl og)))] ++ ([(xa, .inr (5, fs))] ++ (wr))) sz (S := Unit) (fun r _ => r = nI 2) (fun _ => [(oa, .inl (G.2.2.2.2, 1, .inr (.inl og)))] ++ ([(xa, .inr (5, fs))] ++ (wr))) 1 6 := by
  refine lw_of (l := l) (y := yL_goBack) (w := wsL_goBack) (d := 8) (G := G) (As := [.ref xa, .int p0, .ref oa]) (sz := sz) (mc := 1) (ms := 6) (cc := cL_goBack) (maxL := 4) (ret := (some .int)) (hh := [(0, 9, 12, 19), (0, 9, 15, 33)]) (Qc := fun Ar => wQi G (S := Unit) (fun r _ => r = nI 2) (fun _ => [(oa, .inl (G.2.2.2.2, 1, .inr (.inl og)))] ++ ([(xa, .inr (5, fs))] ++ (wr))) Ar) (by decide) rfl (Nat.le_of_ble_eq_true rfl) ?_
  intro pG eG s mG below meth cG hx hb hr hml hts hown hlocks htb hP hK hN hX hZ Ar hD hA hS ls hl
  have hown : s.vm.findClass RL = some mG.cls := hown
  have hP : PP G ([(oa, .inl (G.2.2.2.2, 1, .inr (.inl og)))] ++ ([(xa, .inr (5, fs))] ++ (wr))) s.heap := hP
  have hD : va_D Ar ([(oa, .inl (G.2.2.2.2, 1, .inr (.inl og)))] ++ ([(xa, .inr (5, fs))] ++ (wr))) := hD
  have hl : lv_has ls 4 [(0, .ref xa), (1, .int p0), (2, .ref oa)] := hl
  refine lv_aload_n hx hb dL_goBack_0 rfl (lv_at hl 2 rfl) ?_
  refine lv_iconst (v := nI 0) hx hb dL_goBack_1 (by decide) ?_
  refine lv_aload_n hx hb dL_goBack_2 rfl (lv_at hl 0 rfl) ?_
  refine lv_iload_n hx hb dL_goBack_3 rfl (lv_at hl 1 rfl) ?_
  refine wx_go (vx_runV (As := [.int p0]) (rest := [.int (nI 0), .ref oa]) ⟨hx, hb, hml, hown, hts⟩ (hc) (cwV 1 hts gL_goBack_X6_goBack rfl rfl rfl (by decide +kernel) ⟨Nat.le_of_ble_eq_true rfl, Nat.le_of_ble_eq_true rfl⟩) (xV (ws := [(xa, .inr (5, fs))] ++ (wr)) (va_recv (ws := [(oa, .inl (G.2.2.2.2, 1, .inr (.inl og)))] ++ ([(xa, .inr (5, fs))] ++ (wr))) hK hP (ci := 5) (q0 := 1) rfl rfl) hK hN (P_beh (pre := [(oa, .inl (G.2.2.2.2, 1, .inr (.inl og)))]) hP) hX hZ) rfl rfl hl.1 rfl (lv_room (Nat.le_of_ble_eq_true rfl)) dL_goBack_4 ⟨Nat.le_of_ble_eq_true rfl, Nat.le_of_ble_eq_true rfl⟩) hP hS (fun q9 ce H locs hP hS hce hcv hcl => ?_)
  refine vx_catch (own := RL) (name := ISE) (E := ISE) hown [⟨0, 9, 12, 19⟩] ⟨0, 9, 15, 33⟩ [] (htb.trans rfl) (fun z hz => by obtain rfl := List.mem_singleton.mp hz; exact Or.inr ⟨by decide, IAE, (hts (.classLink RL 19 "java/lang/IllegalArgumentException") (List.mem_of_getElem? (i := 1) rfl)), hX.2.1.2.1⟩) (by decide) (by decide) (hts (.classLink RL 33 "java/lang/IllegalStateException") (List.mem_of_getElem? (i := 2) rfl)) (va_Nw.use rfl hX.1.2.2) hce hcv hcl ?_
  refine lv_astore_n (lv' := [(3, .ref q9), (0, .ref xa), (1, .int p0), (2, .ref oa)]) hx hb dL_goBack_15 rfl hl (by decide) rfl (fun ls hl => ?_)
  refine lv_iconst (v := nI 2) hx hb dL_goBack_16 (by decide) ?_
  exact wr_iret (G := G) (S := Unit) () hx hb hr hlocks hP hD hS (Nat.le_of_ble_eq_true rfl) (Nat.le_of_ble_eq_true rfl) (by rfl) dL_goBack_17

set_option maxHeartbeats 4000000 in
set_option maxRecDepth 100000 in
theorem w_undo_ok (l : Launch) (G : GG) (sz xa oa : Nat) (fs : List Value) (wr : va_W) (og : Nat → Int64)  {S : Type} {post : Int32 → S → Prop} {ou : S → va_W} (hc : ∀ sz : Nat, WRi l yX6_undo wsX6_undo 5 G [.ref xa] ([(xa, .inr (5, fs))] ++ (wr)) sz (S := S) post ou 0 0) : LWi l yL_undo wsL_undo 6 G [.ref xa, .ref oa] ([(oa, .inl (G.2.2.2.2, 1, .inr (.inl og)))] ++ ([(xa, .inr (5, fs))] ++ (wr))) sz (S := Int32 × S) (fun r u => r = nI 0 ∧ post u.1 u.2) (fun u => [(oa, .inl (G.2.2.2.2, 1, .inr (.inl (vp_updL og 0 (u.1.toInt64)))))] ++ ou u.2) 0 0 := by
  refine lw_of (l := l) (y := yL_undo) (w := wsL_undo) (d := 6) (G := G) (As := [.ref xa, .ref oa]) (sz := sz) (mc := 0) (ms := 0) (cc := cL_undo) (maxL := 3) (ret := (some .int)) (hh := [(0, 8, 11, 33)]) (Qc := fun Ar => wQi G (S := Int32 × S) (fun r u => r = nI 0 ∧ post u.1 u.2) (fun u => [(oa, .inl (G.2.2.2.2, 1, .inr (.inl (vp_updL og 0 (u.1.toInt64)))))] ++ ou u.2) Ar) (by decide) rfl (Nat.le_of_ble_eq_true rfl) ?_
  intro pG eG s mG below meth cG hx hb hr hml hts hown hlocks htb hP hK hN hX hZ Ar hD hA hS ls hl
  have hown : s.vm.findClass RL = some mG.cls := hown
  have hP : PP G ([(oa, .inl (G.2.2.2.2, 1, .inr (.inl og)))] ++ ([(xa, .inr (5, fs))] ++ (wr))) s.heap := hP
  have hD : va_D Ar ([(oa, .inl (G.2.2.2.2, 1, .inr (.inl og)))] ++ ([(xa, .inr (5, fs))] ++ (wr))) := hD
  have hl : lv_has ls 3 [(0, .ref xa), (1, .ref oa)] := hl
  refine lv_aload_n hx hb dL_undo_0 rfl (lv_at hl 1 rfl) ?_
  refine lv_iconst (v := nI 0) hx hb dL_undo_1 (by decide) ?_
  refine lv_aload_n hx hb dL_undo_2 rfl (lv_at hl 0 rfl) ?_
  refine wr_g1i (pre := [(oa, .inl (G.2.2.2.2, 1, .inr (.inl og)))]) (mid := [(xa, .inr (5, fs))] ++ (wr)) (va_runV (As := []) (rest := [.int (nI 0), .ref oa]) ⟨hx, hb, hml, hown, hts⟩ (hc _) (cwV 0 hts gL_undo_X6_undo rfl rfl rfl (by decide +kernel) ⟨Nat.le_of_ble_eq_true rfl, Nat.le_of_ble_eq_true rfl⟩) (wV1 (pre := [(oa, .inl (G.2.2.2.2, 1, .inr (.inl og)))]) (mid := [(xa, .inr (5, fs))] ++ (wr)) (va_recv (ws := [(oa, .inl (G.2.2.2.2, 1, .inr (.inl og)))] ++ ([(xa, .inr (5, fs))] ++ (wr))) hK hP (ci := 5) (q0 := 1) rfl rfl) hK hN hP hD) rfl rfl hl.1 rfl (lv_room (Nat.le_of_ble_eq_true rfl)) dL_undo_3 ⟨Nat.le_of_ble_eq_true rfl, Nat.le_of_ble_eq_true rfl⟩) hP hD hS hA (fun r u H locs hw hP9 hD9 hS => ?_)
  have hP : PP G ([(oa, .inl (G.2.2.2.2, 1, .inr (.inl og)))] ++ (ou u)) _ := hP9
  have hD : va_D Ar ([(oa, .inl (G.2.2.2.2, 1, .inr (.inl og)))] ++ (ou u)) := hD9
  refine lv_i2l (v := r.toInt64) hx hb dL_undo_6 rfl ?_
  refine va_last (D := G.1) (ws := [(oa, .inl (G.2.2.2.2, 1, .inr (.inl og)))] ++ (ou u)) hx hb hK hP hD hS 0 3 (n := 1) rfl rfl (by first | assumption | exact vp_in_nI (by omega) (by omega)) dL_undo_7 (fun H locs hP hD hS => ?_)
  have hP : PP G ([(oa, .inl (G.2.2.2.2, 1, .inr (.inl (vp_updL og 0 r.toInt64))))] ++ (ou u)) _ := hP
  have hD : va_D Ar ([(oa, .inl (G.2.2.2.2, 1, .inr (.inl (vp_updL og 0 r.toInt64))))] ++ (ou u)) := hD
  refine lv_goto (tgt := 14) hx hb dL_undo_8 (by decide) ?_
  refine lv_iconst (v := nI 0) hx hb dL_undo_14 (by decide) ?_
  exact wr_iret (G := G) (S := Int32 × S) (r, u) hx hb hr hlocks hP hD hS (Nat.le_of_ble_eq_true rfl) (Nat.le_of_ble_eq_true rfl) (by exact ⟨rfl, hw⟩) dL_undo_15

set_option maxHeartbeats 4000000 in
set_option maxRecDepth 100000 in
theorem w_undo_t1 (l : Launch) (G : GG) (sz xa oa : Nat) (fs : List Value) (wr : va_W) (og : Nat → Int64)  (hc : TH l yX6_undo wsX6_undo 7 G [.ref xa] ([(xa, .inr (5, fs))] ++ (wr)) ISE) : LWi l yL_undo wsL_undo 8 G [.ref xa, .ref oa] ([(oa, .inl (G.2.2.2.2, 1, .inr (.inl og)))] ++ ([(xa, .inr (5, fs))] ++ (wr))) sz (S := Unit) (fun r _ => r = nI 1) (fun _ => [(oa, .inl (G.2.2.2.2, 1, .inr (.inl og)))] ++ ([(xa, .inr (5, fs))] ++ (wr))) 1 6 := by
  refine lw_of (l := l) (y := yL_undo) (w := wsL_undo) (d := 8) (G := G) (As := [.ref xa, .ref oa]) (sz := sz) (mc := 1) (ms := 6) (cc := cL_undo) (maxL := 3) (ret := (some .int)) (hh := [(0, 8, 11, 33)]) (Qc := fun Ar => wQi G (S := Unit) (fun r _ => r = nI 1) (fun _ => [(oa, .inl (G.2.2.2.2, 1, .inr (.inl og)))] ++ ([(xa, .inr (5, fs))] ++ (wr))) Ar) (by decide) rfl (Nat.le_of_ble_eq_true rfl) ?_
  intro pG eG s mG below meth cG hx hb hr hml hts hown hlocks htb hP hK hN hX hZ Ar hD hA hS ls hl
  have hown : s.vm.findClass RL = some mG.cls := hown
  have hP : PP G ([(oa, .inl (G.2.2.2.2, 1, .inr (.inl og)))] ++ ([(xa, .inr (5, fs))] ++ (wr))) s.heap := hP
  have hD : va_D Ar ([(oa, .inl (G.2.2.2.2, 1, .inr (.inl og)))] ++ ([(xa, .inr (5, fs))] ++ (wr))) := hD
  have hl : lv_has ls 3 [(0, .ref xa), (1, .ref oa)] := hl
  refine lv_aload_n hx hb dL_undo_0 rfl (lv_at hl 1 rfl) ?_
  refine lv_iconst (v := nI 0) hx hb dL_undo_1 (by decide) ?_
  refine lv_aload_n hx hb dL_undo_2 rfl (lv_at hl 0 rfl) ?_
  refine wx_go (vx_runV (As := []) (rest := [.int (nI 0), .ref oa]) ⟨hx, hb, hml, hown, hts⟩ (hc) (cwV 0 hts gL_undo_X6_undo rfl rfl rfl (by decide +kernel) ⟨Nat.le_of_ble_eq_true rfl, Nat.le_of_ble_eq_true rfl⟩) (xV (ws := [(xa, .inr (5, fs))] ++ (wr)) (va_recv (ws := [(oa, .inl (G.2.2.2.2, 1, .inr (.inl og)))] ++ ([(xa, .inr (5, fs))] ++ (wr))) hK hP (ci := 5) (q0 := 1) rfl rfl) hK hN (P_beh (pre := [(oa, .inl (G.2.2.2.2, 1, .inr (.inl og)))]) hP) hX hZ) rfl rfl hl.1 rfl (lv_room (Nat.le_of_ble_eq_true rfl)) dL_undo_3 ⟨Nat.le_of_ble_eq_true rfl, Nat.le_of_ble_eq_true rfl⟩) hP hS (fun q9 ce H locs hP hS hce hcv hcl => ?_)
  refine vx_catch (own := RL) (name := ISE) (E := ISE) hown [] ⟨0, 8, 11, 33⟩ [] (htb.trans rfl) (fun z hz => absurd hz List.not_mem_nil) (by decide) (by decide) (hts (.classLink RL 33 "java/lang/IllegalStateException") (List.mem_of_getElem? (i := 1) rfl)) (va_Nw.use rfl hX.1.2.2) hce hcv hcl ?_
  refine lv_astore_n (lv' := [(2, .ref q9), (0, .ref xa), (1, .ref oa)]) hx hb dL_undo_11 rfl hl (by decide) rfl (fun ls hl => ?_)
  refine lv_iconst (v := nI 1) hx hb dL_undo_12 (by decide) ?_
  exact wr_iret (G := G) (S := Unit) () hx hb hr hlocks hP hD hS (Nat.le_of_ble_eq_true rfl) (Nat.le_of_ble_eq_true rfl) (by rfl) dL_undo_13

set_option maxHeartbeats 4000000 in
set_option maxRecDepth 100000 in
theorem w_panelOf_ok (l : Launch) (G : GG) (sz xa oa : Nat) (fs : List Value) (wr : va_W) (og : Nat → Int64) (p0 p1 : Int32) {S : Type} {post : Int32 → S → Prop} {ou : S → va_W} (hc : ∀ sz : Nat, WRi l yX6_panelOf wsX6_panelOf 4 G [.ref xa, .int p0, .int p1] ([(xa, .inr (5, fs))] ++ (wr)) sz (S := S) post ou 0 0) : LWi l yL_panelOf wsL_panelOf 5 G [.ref xa, .int p0, .int p1, .ref oa] ([(oa, .inl (G.2.2.2.2, 1, .inr (.inl og)))] ++ ([(xa, .inr (5, fs))] ++ (wr))) sz (S := Int32 × S) (fun r u => r = nI 0 ∧ post u.1 u.2) (fun u => [(oa, .inl (G.2.2.2.2, 1, .inr (.inl (vp_updL og 0 (u.1.toInt64)))))] ++ ou u.2) 0 0 := by
  refine lw_of (l := l) (y := yL_panelOf) (w := wsL_panelOf) (d := 5) (G := G) (As := [.ref xa, .int p0, .int p1, .ref oa]) (sz := sz) (mc := 0) (ms := 0) (cc := cL_panelOf) (maxL := 5) (ret := (some .int)) (hh := [(0, 10, 13, 13), (0, 10, 17, 19)]) (Qc := fun Ar => wQi G (S := Int32 × S) (fun r u => r = nI 0 ∧ post u.1 u.2) (fun u => [(oa, .inl (G.2.2.2.2, 1, .inr (.inl (vp_updL og 0 (u.1.toInt64)))))] ++ ou u.2) Ar) (by decide) rfl (Nat.le_of_ble_eq_true rfl) ?_
  intro pG eG s mG below meth cG hx hb hr hml hts hown hlocks htb hP hK hN hX hZ Ar hD hA hS ls hl
  have hown : s.vm.findClass RL = some mG.cls := hown
  have hP : PP G ([(oa, .inl (G.2.2.2.2, 1, .inr (.inl og)))] ++ ([(xa, .inr (5, fs))] ++ (wr))) s.heap := hP
  have hD : va_D Ar ([(oa, .inl (G.2.2.2.2, 1, .inr (.inl og)))] ++ ([(xa, .inr (5, fs))] ++ (wr))) := hD
  have hl : lv_has ls 5 [(0, .ref xa), (1, .int p0), (2, .int p1), (3, .ref oa)] := hl
  refine lv_aload_n hx hb dL_panelOf_0 rfl (lv_at hl 3 rfl) ?_
  refine lv_iconst (v := nI 0) hx hb dL_panelOf_1 (by decide) ?_
  refine lv_aload_n hx hb dL_panelOf_2 rfl (lv_at hl 0 rfl) ?_
  refine lv_iload_n hx hb dL_panelOf_3 rfl (lv_at hl 1 rfl) ?_
  refine lv_iload_n hx hb dL_panelOf_4 rfl (lv_at hl 2 rfl) ?_
  refine wr_g1i (pre := [(oa, .inl (G.2.2.2.2, 1, .inr (.inl og)))]) (mid := [(xa, .inr (5, fs))] ++ (wr)) (va_runV (As := [.int p0, .int p1]) (rest := [.int (nI 0), .ref oa]) ⟨hx, hb, hml, hown, hts⟩ (hc _) (cwV 2 hts gL_panelOf_X6_panelOf rfl rfl rfl (by decide +kernel) ⟨Nat.le_of_ble_eq_true rfl, Nat.le_of_ble_eq_true rfl⟩) (wV1 (pre := [(oa, .inl (G.2.2.2.2, 1, .inr (.inl og)))]) (mid := [(xa, .inr (5, fs))] ++ (wr)) (va_recv (ws := [(oa, .inl (G.2.2.2.2, 1, .inr (.inl og)))] ++ ([(xa, .inr (5, fs))] ++ (wr))) hK hP (ci := 5) (q0 := 1) rfl rfl) hK hN hP hD) rfl rfl hl.1 rfl (lv_room (Nat.le_of_ble_eq_true rfl)) dL_panelOf_5 ⟨Nat.le_of_ble_eq_true rfl, Nat.le_of_ble_eq_true rfl⟩) hP hD hS hA (fun r u H locs hw hP9 hD9 hS => ?_)
  have hP : PP G ([(oa, .inl (G.2.2.2.2, 1, .inr (.inl og)))] ++ (ou u)) _ := hP9
  have hD : va_D Ar ([(oa, .inl (G.2.2.2.2, 1, .inr (.inl og)))] ++ (ou u)) := hD9
  refine lv_i2l (v := r.toInt64) hx hb dL_panelOf_8 rfl ?_
  refine va_last (D := G.1) (ws := [(oa, .inl (G.2.2.2.2, 1, .inr (.inl og)))] ++ (ou u)) hx hb hK hP hD hS 0 3 (n := 1) rfl rfl (by first | assumption | exact vp_in_nI (by omega) (by omega)) dL_panelOf_9 (fun H locs hP hD hS => ?_)
  have hP : PP G ([(oa, .inl (G.2.2.2.2, 1, .inr (.inl (vp_updL og 0 r.toInt64))))] ++ (ou u)) _ := hP
  have hD : va_D Ar ([(oa, .inl (G.2.2.2.2, 1, .inr (.inl (vp_updL og 0 r.toInt64))))] ++ (ou u)) := hD
  refine lv_goto (tgt := 21) hx hb dL_panelOf_10 (by decide) ?_
  refine lv_iconst (v := nI 0) hx hb dL_panelOf_21 (by decide) ?_
  exact wr_iret (G := G) (S := Int32 × S) (r, u) hx hb hr hlocks hP hD hS (Nat.le_of_ble_eq_true rfl) (Nat.le_of_ble_eq_true rfl) (by exact ⟨rfl, hw⟩) dL_panelOf_22

set_option maxHeartbeats 4000000 in
set_option maxRecDepth 100000 in
theorem w_panelOf_t1 (l : Launch) (G : GG) (sz xa oa : Nat) (fs : List Value) (wr : va_W) (og : Nat → Int64) (p0 p1 : Int32) (hc : TH l yX6_panelOf wsX6_panelOf 7 G [.ref xa, .int p0, .int p1] ([(xa, .inr (5, fs))] ++ (wr)) IOO) : LWi l yL_panelOf wsL_panelOf 8 G [.ref xa, .int p0, .int p1, .ref oa] ([(oa, .inl (G.2.2.2.2, 1, .inr (.inl og)))] ++ ([(xa, .inr (5, fs))] ++ (wr))) sz (S := Unit) (fun r _ => r = nI 1) (fun _ => [(oa, .inl (G.2.2.2.2, 1, .inr (.inl og)))] ++ ([(xa, .inr (5, fs))] ++ (wr))) 1 6 := by
  refine lw_of (l := l) (y := yL_panelOf) (w := wsL_panelOf) (d := 8) (G := G) (As := [.ref xa, .int p0, .int p1, .ref oa]) (sz := sz) (mc := 1) (ms := 6) (cc := cL_panelOf) (maxL := 5) (ret := (some .int)) (hh := [(0, 10, 13, 13), (0, 10, 17, 19)]) (Qc := fun Ar => wQi G (S := Unit) (fun r _ => r = nI 1) (fun _ => [(oa, .inl (G.2.2.2.2, 1, .inr (.inl og)))] ++ ([(xa, .inr (5, fs))] ++ (wr))) Ar) (by decide) rfl (Nat.le_of_ble_eq_true rfl) ?_
  intro pG eG s mG below meth cG hx hb hr hml hts hown hlocks htb hP hK hN hX hZ Ar hD hA hS ls hl
  have hown : s.vm.findClass RL = some mG.cls := hown
  have hP : PP G ([(oa, .inl (G.2.2.2.2, 1, .inr (.inl og)))] ++ ([(xa, .inr (5, fs))] ++ (wr))) s.heap := hP
  have hD : va_D Ar ([(oa, .inl (G.2.2.2.2, 1, .inr (.inl og)))] ++ ([(xa, .inr (5, fs))] ++ (wr))) := hD
  have hl : lv_has ls 5 [(0, .ref xa), (1, .int p0), (2, .int p1), (3, .ref oa)] := hl
  refine lv_aload_n hx hb dL_panelOf_0 rfl (lv_at hl 3 rfl) ?_
  refine lv_iconst (v := nI 0) hx hb dL_panelOf_1 (by decide) ?_
  refine lv_aload_n hx hb dL_panelOf_2 rfl (lv_at hl 0 rfl) ?_
  refine lv_iload_n hx hb dL_panelOf_3 rfl (lv_at hl 1 rfl) ?_
  refine lv_iload_n hx hb dL_panelOf_4 rfl (lv_at hl 2 rfl) ?_
  refine wx_go (vx_runV (As := [.int p0, .int p1]) (rest := [.int (nI 0), .ref oa]) ⟨hx, hb, hml, hown, hts⟩ (hc) (cwV 2 hts gL_panelOf_X6_panelOf rfl rfl rfl (by decide +kernel) ⟨Nat.le_of_ble_eq_true rfl, Nat.le_of_ble_eq_true rfl⟩) (xV (ws := [(xa, .inr (5, fs))] ++ (wr)) (va_recv (ws := [(oa, .inl (G.2.2.2.2, 1, .inr (.inl og)))] ++ ([(xa, .inr (5, fs))] ++ (wr))) hK hP (ci := 5) (q0 := 1) rfl rfl) hK hN (P_beh (pre := [(oa, .inl (G.2.2.2.2, 1, .inr (.inl og)))]) hP) hX hZ) rfl rfl hl.1 rfl (lv_room (Nat.le_of_ble_eq_true rfl)) dL_panelOf_5 ⟨Nat.le_of_ble_eq_true rfl, Nat.le_of_ble_eq_true rfl⟩) hP hS (fun q9 ce H locs hP hS hce hcv hcl => ?_)
  refine vx_catch (own := RL) (name := IOO) (E := IOO) hown [] ⟨0, 10, 13, 13⟩ [⟨0, 10, 17, 19⟩] (htb.trans rfl) (fun z hz => absurd hz List.not_mem_nil) (by decide) (by decide) (hts (.classLink RL 13 "java/lang/IndexOutOfBoundsException") (List.mem_of_getElem? (i := 1) rfl)) (va_Nw.use rfl hX.1.1) hce hcv hcl ?_
  refine lv_astore (lv' := [(4, .ref q9), (0, .ref xa), (1, .int p0), (2, .int p1), (3, .ref oa)]) hx hb dL_panelOf_13 hl (by decide) rfl (fun ls hl => ?_)
  refine lv_iconst (v := nI 1) hx hb dL_panelOf_15 (by decide) ?_
  exact wr_iret (G := G) (S := Unit) () hx hb hr hlocks hP hD hS (Nat.le_of_ble_eq_true rfl) (Nat.le_of_ble_eq_true rfl) (by rfl) dL_panelOf_16

set_option maxHeartbeats 4000000 in
set_option maxRecDepth 100000 in
theorem w_panelOf_t2 (l : Launch) (G : GG) (sz xa oa : Nat) (fs : List Value) (wr : va_W) (og : Nat → Int64) (p0 p1 : Int32) (hc : TH l yX6_panelOf wsX6_panelOf 7 G [.ref xa, .int p0, .int p1] ([(xa, .inr (5, fs))] ++ (wr)) IAE) : LWi l yL_panelOf wsL_panelOf 8 G [.ref xa, .int p0, .int p1, .ref oa] ([(oa, .inl (G.2.2.2.2, 1, .inr (.inl og)))] ++ ([(xa, .inr (5, fs))] ++ (wr))) sz (S := Unit) (fun r _ => r = nI 2) (fun _ => [(oa, .inl (G.2.2.2.2, 1, .inr (.inl og)))] ++ ([(xa, .inr (5, fs))] ++ (wr))) 1 6 := by
  refine lw_of (l := l) (y := yL_panelOf) (w := wsL_panelOf) (d := 8) (G := G) (As := [.ref xa, .int p0, .int p1, .ref oa]) (sz := sz) (mc := 1) (ms := 6) (cc := cL_panelOf) (maxL := 5) (ret := (some .int)) (hh := [(0, 10, 13, 13), (0, 10, 17, 19)]) (Qc := fun Ar => wQi G (S := Unit) (fun r _ => r = nI 2) (fun _ => [(oa, .inl (G.2.2.2.2, 1, .inr (.inl og)))] ++ ([(xa, .inr (5, fs))] ++ (wr))) Ar) (by decide) rfl (Nat.le_of_ble_eq_true rfl) ?_
  intro pG eG s mG below meth cG hx hb hr hml hts hown hlocks htb hP hK hN hX hZ Ar hD hA hS ls hl
  have hown : s.vm.findClass RL = some mG.cls := hown
  have hP : PP G ([(oa, .inl (G.2.2.2.2, 1, .inr (.inl og)))] ++ ([(xa, .inr (5, fs))] ++ (wr))) s.heap := hP
  have hD : va_D Ar ([(oa, .inl (G.2.2.2.2, 1, .inr (.inl og)))] ++ ([(xa, .inr (5, fs))] ++ (wr))) := hD
  have hl : lv_has ls 5 [(0, .ref xa), (1, .int p0), (2, .int p1), (3, .ref oa)] := hl
  refine lv_aload_n hx hb dL_panelOf_0 rfl (lv_at hl 3 rfl) ?_
  refine lv_iconst (v := nI 0) hx hb dL_panelOf_1 (by decide) ?_
  refine lv_aload_n hx hb dL_panelOf_2 rfl (lv_at hl 0 rfl) ?_
  refine lv_iload_n hx hb dL_panelOf_3 rfl (lv_at hl 1 rfl) ?_
  refine lv_iload_n hx hb dL_panelOf_4 rfl (lv_at hl 2 rfl) ?_
  refine wx_go (vx_runV (As := [.int p0, .int p1]) (rest := [.int (nI 0), .ref oa]) ⟨hx, hb, hml, hown, hts⟩ (hc) (cwV 2 hts gL_panelOf_X6_panelOf rfl rfl rfl (by decide +kernel) ⟨Nat.le_of_ble_eq_true rfl, Nat.le_of_ble_eq_true rfl⟩) (xV (ws := [(xa, .inr (5, fs))] ++ (wr)) (va_recv (ws := [(oa, .inl (G.2.2.2.2, 1, .inr (.inl og)))] ++ ([(xa, .inr (5, fs))] ++ (wr))) hK hP (ci := 5) (q0 := 1) rfl rfl) hK hN (P_beh (pre := [(oa, .inl (G.2.2.2.2, 1, .inr (.inl og)))]) hP) hX hZ) rfl rfl hl.1 rfl (lv_room (Nat.le_of_ble_eq_true rfl)) dL_panelOf_5 ⟨Nat.le_of_ble_eq_true rfl, Nat.le_of_ble_eq_true rfl⟩) hP hS (fun q9 ce H locs hP hS hce hcv hcl => ?_)
  refine vx_catch (own := RL) (name := IAE) (E := IAE) hown [⟨0, 10, 13, 13⟩] ⟨0, 10, 17, 19⟩ [] (htb.trans rfl) (fun z hz => by obtain rfl := List.mem_singleton.mp hz; exact Or.inr ⟨by decide, IOO, (hts (.classLink RL 13 "java/lang/IndexOutOfBoundsException") (List.mem_of_getElem? (i := 1) rfl)), hX.2.1.1⟩) (by decide) (by decide) (hts (.classLink RL 19 "java/lang/IllegalArgumentException") (List.mem_of_getElem? (i := 2) rfl)) (va_Nw.use rfl hX.1.2.1) hce hcv hcl ?_
  refine lv_astore (lv' := [(4, .ref q9), (0, .ref xa), (1, .int p0), (2, .int p1), (3, .ref oa)]) hx hb dL_panelOf_17 hl (by decide) rfl (fun ls hl => ?_)
  refine lv_iconst (v := nI 2) hx hb dL_panelOf_19 (by decide) ?_
  exact wr_iret (G := G) (S := Unit) () hx hb hr hlocks hP hD hS (Nat.le_of_ble_eq_true rfl) (Nat.le_of_ble_eq_true rfl) (by rfl) dL_panelOf_20

set_option maxHeartbeats 4000000 in
set_option maxRecDepth 100000 in
theorem w_creaseOf_ok (l : Launch) (G : GG) (sz xa oa : Nat) (fs : List Value) (wr : va_W) (og : Nat → Int64) (p0 p1 : Int32) {S : Type} {post : Int32 → S → Prop} {ou : S → va_W} (hc : ∀ sz : Nat, WRi l yX6_creaseOf wsX6_creaseOf 5 G [.ref xa, .int p0, .int p1] ([(xa, .inr (5, fs))] ++ (wr)) sz (S := S) post ou 0 0) : LWi l yL_creaseOf wsL_creaseOf 6 G [.ref xa, .int p0, .int p1, .ref oa] ([(oa, .inl (G.2.2.2.2, 1, .inr (.inl og)))] ++ ([(xa, .inr (5, fs))] ++ (wr))) sz (S := Int32 × S) (fun r u => r = nI 0 ∧ post u.1 u.2) (fun u => [(oa, .inl (G.2.2.2.2, 1, .inr (.inl (vp_updL og 0 (u.1.toInt64)))))] ++ ou u.2) 0 0 := by
  refine lw_of (l := l) (y := yL_creaseOf) (w := wsL_creaseOf) (d := 6) (G := G) (As := [.ref xa, .int p0, .int p1, .ref oa]) (sz := sz) (mc := 0) (ms := 0) (cc := cL_creaseOf) (maxL := 5) (ret := (some .int)) (hh := [(0, 10, 13, 13), (0, 10, 17, 19)]) (Qc := fun Ar => wQi G (S := Int32 × S) (fun r u => r = nI 0 ∧ post u.1 u.2) (fun u => [(oa, .inl (G.2.2.2.2, 1, .inr (.inl (vp_updL og 0 (u.1.toInt64)))))] ++ ou u.2) Ar) (by decide) rfl (Nat.le_of_ble_eq_true rfl) ?_
  intro pG eG s mG below meth cG hx hb hr hml hts hown hlocks htb hP hK hN hX hZ Ar hD hA hS ls hl
  have hown : s.vm.findClass RL = some mG.cls := hown
  have hP : PP G ([(oa, .inl (G.2.2.2.2, 1, .inr (.inl og)))] ++ ([(xa, .inr (5, fs))] ++ (wr))) s.heap := hP
  have hD : va_D Ar ([(oa, .inl (G.2.2.2.2, 1, .inr (.inl og)))] ++ ([(xa, .inr (5, fs))] ++ (wr))) := hD
  have hl : lv_has ls 5 [(0, .ref xa), (1, .int p0), (2, .int p1), (3, .ref oa)] := hl
  refine lv_aload_n hx hb dL_creaseOf_0 rfl (lv_at hl 3 rfl) ?_
  refine lv_iconst (v := nI 0) hx hb dL_creaseOf_1 (by decide) ?_
  refine lv_aload_n hx hb dL_creaseOf_2 rfl (lv_at hl 0 rfl) ?_
  refine lv_iload_n hx hb dL_creaseOf_3 rfl (lv_at hl 1 rfl) ?_
  refine lv_iload_n hx hb dL_creaseOf_4 rfl (lv_at hl 2 rfl) ?_
  refine wr_g1i (pre := [(oa, .inl (G.2.2.2.2, 1, .inr (.inl og)))]) (mid := [(xa, .inr (5, fs))] ++ (wr)) (va_runV (As := [.int p0, .int p1]) (rest := [.int (nI 0), .ref oa]) ⟨hx, hb, hml, hown, hts⟩ (hc _) (cwV 2 hts gL_creaseOf_X6_creaseOf rfl rfl rfl (by decide +kernel) ⟨Nat.le_of_ble_eq_true rfl, Nat.le_of_ble_eq_true rfl⟩) (wV1 (pre := [(oa, .inl (G.2.2.2.2, 1, .inr (.inl og)))]) (mid := [(xa, .inr (5, fs))] ++ (wr)) (va_recv (ws := [(oa, .inl (G.2.2.2.2, 1, .inr (.inl og)))] ++ ([(xa, .inr (5, fs))] ++ (wr))) hK hP (ci := 5) (q0 := 1) rfl rfl) hK hN hP hD) rfl rfl hl.1 rfl (lv_room (Nat.le_of_ble_eq_true rfl)) dL_creaseOf_5 ⟨Nat.le_of_ble_eq_true rfl, Nat.le_of_ble_eq_true rfl⟩) hP hD hS hA (fun r u H locs hw hP9 hD9 hS => ?_)
  have hP : PP G ([(oa, .inl (G.2.2.2.2, 1, .inr (.inl og)))] ++ (ou u)) _ := hP9
  have hD : va_D Ar ([(oa, .inl (G.2.2.2.2, 1, .inr (.inl og)))] ++ (ou u)) := hD9
  refine lv_i2l (v := r.toInt64) hx hb dL_creaseOf_8 rfl ?_
  refine va_last (D := G.1) (ws := [(oa, .inl (G.2.2.2.2, 1, .inr (.inl og)))] ++ (ou u)) hx hb hK hP hD hS 0 3 (n := 1) rfl rfl (by first | assumption | exact vp_in_nI (by omega) (by omega)) dL_creaseOf_9 (fun H locs hP hD hS => ?_)
  have hP : PP G ([(oa, .inl (G.2.2.2.2, 1, .inr (.inl (vp_updL og 0 r.toInt64))))] ++ (ou u)) _ := hP
  have hD : va_D Ar ([(oa, .inl (G.2.2.2.2, 1, .inr (.inl (vp_updL og 0 r.toInt64))))] ++ (ou u)) := hD
  refine lv_goto (tgt := 21) hx hb dL_creaseOf_10 (by decide) ?_
  refine lv_iconst (v := nI 0) hx hb dL_creaseOf_21 (by decide) ?_
  exact wr_iret (G := G) (S := Int32 × S) (r, u) hx hb hr hlocks hP hD hS (Nat.le_of_ble_eq_true rfl) (Nat.le_of_ble_eq_true rfl) (by exact ⟨rfl, hw⟩) dL_creaseOf_22

set_option maxHeartbeats 4000000 in
set_option maxRecDepth 100000 in
theorem w_creaseOf_t1 (l : Launch) (G : GG) (sz xa oa : Nat) (fs : List Value) (wr : va_W) (og : Nat → Int64) (p0 p1 : Int32) (hc : TH l yX6_creaseOf wsX6_creaseOf 7 G [.ref xa, .int p0, .int p1] ([(xa, .inr (5, fs))] ++ (wr)) IOO) : LWi l yL_creaseOf wsL_creaseOf 8 G [.ref xa, .int p0, .int p1, .ref oa] ([(oa, .inl (G.2.2.2.2, 1, .inr (.inl og)))] ++ ([(xa, .inr (5, fs))] ++ (wr))) sz (S := Unit) (fun r _ => r = nI 1) (fun _ => [(oa, .inl (G.2.2.2.2, 1, .inr (.inl og)))] ++ ([(xa, .inr (5, fs))] ++ (wr))) 1 6 := by
  refine lw_of (l := l) (y := yL_creaseOf) (w := wsL_creaseOf) (d := 8) (G := G) (As := [.ref xa, .int p0, .int p1, .ref oa]) (sz := sz) (mc := 1) (ms := 6) (cc := cL_creaseOf) (maxL := 5) (ret := (some .int)) (hh := [(0, 10, 13, 13), (0, 10, 17, 19)]) (Qc := fun Ar => wQi G (S := Unit) (fun r _ => r = nI 1) (fun _ => [(oa, .inl (G.2.2.2.2, 1, .inr (.inl og)))] ++ ([(xa, .inr (5, fs))] ++ (wr))) Ar) (by decide) rfl (Nat.le_of_ble_eq_true rfl) ?_
  intro pG eG s mG below meth cG hx hb hr hml hts hown hlocks htb hP hK hN hX hZ Ar hD hA hS ls hl
  have hown : s.vm.findClass RL = some mG.cls := hown
  have hP : PP G ([(oa, .inl (G.2.2.2.2, 1, .inr (.inl og)))] ++ ([(xa, .inr (5, fs))] ++ (wr))) s.heap := hP
  have hD : va_D Ar ([(oa, .inl (G.2.2.2.2, 1, .inr (.inl og)))] ++ ([(xa, .inr (5, fs))] ++ (wr))) := hD
  have hl : lv_has ls 5 [(0, .ref xa), (1, .int p0), (2, .int p1), (3, .ref oa)] := hl
  refine lv_aload_n hx hb dL_creaseOf_0 rfl (lv_at hl 3 rfl) ?_
  refine lv_iconst (v := nI 0) hx hb dL_creaseOf_1 (by decide) ?_
  refine lv_aload_n hx hb dL_creaseOf_2 rfl (lv_at hl 0 rfl) ?_
  refine lv_iload_n hx hb dL_creaseOf_3 rfl (lv_at hl 1 rfl) ?_
  refine lv_iload_n hx hb dL_creaseOf_4 rfl (lv_at hl 2 rfl) ?_
  refine wx_go (vx_runV (As := [.int p0, .int p1]) (rest := [.int (nI 0), .ref oa]) ⟨hx, hb, hml, hown, hts⟩ (hc) (cwV 2 hts gL_creaseOf_X6_creaseOf rfl rfl rfl (by decide +kernel) ⟨Nat.le_of_ble_eq_true rfl, Nat.le_of_ble_eq_true rfl⟩) (xV (ws := [(xa, .inr (5, fs))] ++ (wr)) (va_recv (ws := [(oa, .inl (G.2.2.2.2, 1, .inr (.inl og)))] ++ ([(xa, .inr (5, fs))] ++ (wr))) hK hP (ci := 5) (q0 := 1) rfl rfl) hK hN (P_beh (pre := [(oa, .inl (G.2.2.2.2, 1, .inr (.inl og)))]) hP) hX hZ) rfl rfl hl.1 rfl (lv_room (Nat.le_of_ble_eq_true rfl)) dL_creaseOf_5 ⟨Nat.le_of_ble_eq_true rfl, Nat.le_of_ble_eq_true rfl⟩) hP hS (fun q9 ce H locs hP hS hce hcv hcl => ?_)
  refine vx_catch (own := RL) (name := IOO) (E := IOO) hown [] ⟨0, 10, 13, 13⟩ [⟨0, 10, 17, 19⟩] (htb.trans rfl) (fun z hz => absurd hz List.not_mem_nil) (by decide) (by decide) (hts (.classLink RL 13 "java/lang/IndexOutOfBoundsException") (List.mem_of_getElem? (i := 1) rfl)) (va_Nw.use rfl hX.1.1) hce hcv hcl ?_
  refine lv_astore (lv' := [(4, .ref q9), (0, .ref xa), (1, .int p0), (2, .int p1), (3, .ref oa)]) hx hb dL_creaseOf_13 hl (by decide) rfl (fun ls hl => ?_)
  refine lv_iconst (v := nI 1) hx hb dL_creaseOf_15 (by decide) ?_
  exact wr_iret (G := G) (S := Unit) () hx hb hr hlocks hP hD hS (Nat.le_of_ble_eq_true rfl) (Nat.le_of_ble_eq_true rfl) (by rfl) dL_creaseOf_16

set_option maxHeartbeats 4000000 in
set_option maxRecDepth 100000 in
theorem w_creaseOf_t2 (l : Launch) (G : GG) (sz xa oa : Nat) (fs : List Value) (wr : va_W) (og : Nat → Int64) (p0 p1 : Int32) (hc : TH l yX6_creaseOf wsX6_creaseOf 7 G [.ref xa, .int p0, .int p1] ([(xa, .inr (5, fs))] ++ (wr)) IAE) : LWi l yL_creaseOf wsL_creaseOf 8 G [.ref xa, .int p0, .int p1, .ref oa] ([(oa, .inl (G.2.2.2.2, 1, .inr (.inl og)))] ++ ([(xa, .inr (5, fs))] ++ (wr))) sz (S := Unit) (fun r _ => r = nI 2) (fun _ => [(oa, .inl (G.2.2.2.2, 1, .inr (.inl og)))] ++ ([(xa, .inr (5, fs))] ++ (wr))) 1 6 := by
  refine lw_of (l := l) (y := yL_creaseOf) (w := wsL_creaseOf) (d := 8) (G := G) (As := [.ref xa, .int p0, .int p1, .ref oa]) (sz := sz) (mc := 1) (ms := 6) (cc := cL_creaseOf) (maxL := 5) (ret := (some .int)) (hh := [(0, 10, 13, 13), (0, 10, 17, 19)]) (Qc := fun Ar => wQi G (S := Unit) (fun r _ => r = nI 2) (fun _ => [(oa, .inl (G.2.2.2.2, 1, .inr (.inl og)))] ++ ([(xa, .inr (5, fs))] ++ (wr))) Ar) (by decide) rfl (Nat.le_of_ble_eq_true rfl) ?_
  intro pG eG s mG below meth cG hx hb hr hml hts hown hlocks htb hP hK hN hX hZ Ar hD hA hS ls hl
  have hown : s.vm.findClass RL = some mG.cls := hown
  have hP : PP G ([(oa, .inl (G.2.2.2.2, 1, .inr (.inl og)))] ++ ([(xa, .inr (5, fs))] ++ (wr))) s.heap := hP
  have hD : va_D Ar ([(oa, .inl (G.2.2.2.2, 1, .inr (.inl og)))] ++ ([(xa, .inr (5, fs))] ++ (wr))) := hD
  have hl : lv_has ls 5 [(0, .ref xa), (1, .int p0), (2, .int p1), (3, .ref oa)] := hl
  refine lv_aload_n hx hb dL_creaseOf_0 rfl (lv_at hl 3 rfl) ?_
  refine lv_iconst (v := nI 0) hx hb dL_creaseOf_1 (by decide) ?_
  refine lv_aload_n hx hb dL_creaseOf_2 rfl (lv_at hl 0 rfl) ?_
  refine lv_iload_n hx hb dL_creaseOf_3 rfl (lv_at hl 1 rfl) ?_
  refine lv_iload_n hx hb dL_creaseOf_4 rfl (lv_at hl 2 rfl) ?_
  refine wx_go (vx_runV (As := [.int p0, .int p1]) (rest := [.int (nI 0), .ref oa]) ⟨hx, hb, hml, hown, hts⟩ (hc) (cwV 2 hts gL_creaseOf_X6_creaseOf rfl rfl rfl (by decide +kernel) ⟨Nat.le_of_ble_eq_true rfl, Nat.le_of_ble_eq_true rfl⟩) (xV (ws := [(xa, .inr (5, fs))] ++ (wr)) (va_recv (ws := [(oa, .inl (G.2.2.2.2, 1, .inr (.inl og)))] ++ ([(xa, .inr (5, fs))] ++ (wr))) hK hP (ci := 5) (q0 := 1) rfl rfl) hK hN (P_beh (pre := [(oa, .inl (G.2.2.2.2, 1, .inr (.inl og)))]) hP) hX hZ) rfl rfl hl.1 rfl (lv_room (Nat.le_of_ble_eq_true rfl)) dL_creaseOf_5 ⟨Nat.le_of_ble_eq_true rfl, Nat.le_of_ble_eq_true rfl⟩) hP hS (fun q9 ce H locs hP hS hce hcv hcl => ?_)
  refine vx_catch (own := RL) (name := IAE) (E := IAE) hown [⟨0, 10, 13, 13⟩] ⟨0, 10, 17, 19⟩ [] (htb.trans rfl) (fun z hz => by obtain rfl := List.mem_singleton.mp hz; exact Or.inr ⟨by decide, IOO, (hts (.classLink RL 13 "java/lang/IndexOutOfBoundsException") (List.mem_of_getElem? (i := 1) rfl)), hX.2.1.1⟩) (by decide) (by decide) (hts (.classLink RL 19 "java/lang/IllegalArgumentException") (List.mem_of_getElem? (i := 2) rfl)) (va_Nw.use rfl hX.1.2.1) hce hcv hcl ?_
  refine lv_astore (lv' := [(4, .ref q9), (0, .ref xa), (1, .int p0), (2, .int p1), (3, .ref oa)]) hx hb dL_creaseOf_17 hl (by decide) rfl (fun ls hl => ?_)
  refine lv_iconst (v := nI 2) hx hb dL_creaseOf_19 (by decide) ?_
  exact wr_iret (G := G) (S := Unit) () hx hb hr hlocks hP hD hS (Nat.le_of_ble_eq_true rfl) (Nat.le_of_ble_eq_true rfl) (by rfl) dL_creaseOf_20

set_option maxHeartbeats 4000000 in
set_option maxRecDepth 100000 in
theorem w_between_ok (l : Launch) (G : GG) (sz xa oa : Nat) (fs : List Value) (wr : va_W) (og : Nat → Int64) (p0 p1 p2 : Int32) {S : Type} {post : Int32 → S → Prop} {ou : S → va_W} (hc : ∀ sz : Nat, WRi l yX6_between wsX6_between 4 G [.ref xa, .int p0, .int p1, .int p2] ([(xa, .inr (5, fs))] ++ (wr)) sz (S := S) post ou 0 0) : LWi l yL_between wsL_between 5 G [.ref xa, .int p0, .int p1, .int p2, .ref oa] ([(oa, .inl (G.2.2.2.2, 1, .inr (.inl og)))] ++ ([(xa, .inr (5, fs))] ++ (wr))) sz (S := Int32 × S) (fun r u => r = nI 0 ∧ post u.1 u.2) (fun u => [(oa, .inl (G.2.2.2.2, 1, .inr (.inl (vp_updL og 0 (u.1.toInt64)))))] ++ ou u.2) 0 0 := by
  refine lw_of (l := l) (y := yL_between) (w := wsL_between) (d := 5) (G := G) (As := [.ref xa, .int p0, .int p1, .int p2, .ref oa]) (sz := sz) (mc := 0) (ms := 0) (cc := cL_between) (maxL := 6) (ret := (some .int)) (hh := [(0, 12, 15, 13), (0, 12, 19, 19)]) (Qc := fun Ar => wQi G (S := Int32 × S) (fun r u => r = nI 0 ∧ post u.1 u.2) (fun u => [(oa, .inl (G.2.2.2.2, 1, .inr (.inl (vp_updL og 0 (u.1.toInt64)))))] ++ ou u.2) Ar) (by decide) rfl (Nat.le_of_ble_eq_true rfl) ?_
  intro pG eG s mG below meth cG hx hb hr hml hts hown hlocks htb hP hK hN hX hZ Ar hD hA hS ls hl
  have hown : s.vm.findClass RL = some mG.cls := hown
  have hP : PP G ([(oa, .inl (G.2.2.2.2, 1, .inr (.inl og)))] ++ ([(xa, .inr (5, fs))] ++ (wr))) s.heap := hP
  have hD : va_D Ar ([(oa, .inl (G.2.2.2.2, 1, .inr (.inl og)))] ++ ([(xa, .inr (5, fs))] ++ (wr))) := hD
  have hl : lv_has ls 6 [(0, .ref xa), (1, .int p0), (2, .int p1), (3, .int p2), (4, .ref oa)] := hl
  refine lv_aload hx hb dL_between_0 (lv_at hl 4 rfl) ?_
  refine lv_iconst (v := nI 0) hx hb dL_between_2 (by decide) ?_
  refine lv_aload_n hx hb dL_between_3 rfl (lv_at hl 0 rfl) ?_
  refine lv_iload_n hx hb dL_between_4 rfl (lv_at hl 1 rfl) ?_
  refine lv_iload_n hx hb dL_between_5 rfl (lv_at hl 2 rfl) ?_
  refine lv_iload_n hx hb dL_between_6 rfl (lv_at hl 3 rfl) ?_
  refine wr_g1i (pre := [(oa, .inl (G.2.2.2.2, 1, .inr (.inl og)))]) (mid := [(xa, .inr (5, fs))] ++ (wr)) (va_runV (As := [.int p0, .int p1, .int p2]) (rest := [.int (nI 0), .ref oa]) ⟨hx, hb, hml, hown, hts⟩ (hc _) (cwV 3 hts gL_between_X6_between rfl rfl rfl (by decide +kernel) ⟨Nat.le_of_ble_eq_true rfl, Nat.le_of_ble_eq_true rfl⟩) (wV1 (pre := [(oa, .inl (G.2.2.2.2, 1, .inr (.inl og)))]) (mid := [(xa, .inr (5, fs))] ++ (wr)) (va_recv (ws := [(oa, .inl (G.2.2.2.2, 1, .inr (.inl og)))] ++ ([(xa, .inr (5, fs))] ++ (wr))) hK hP (ci := 5) (q0 := 1) rfl rfl) hK hN hP hD) rfl rfl hl.1 rfl (lv_room (Nat.le_of_ble_eq_true rfl)) dL_between_7 ⟨Nat.le_of_ble_eq_true rfl, Nat.le_of_ble_eq_true rfl⟩) hP hD hS hA (fun r u H locs hw hP9 hD9 hS => ?_)
  have hP : PP G ([(oa, .inl (G.2.2.2.2, 1, .inr (.inl og)))] ++ (ou u)) _ := hP9
  have hD : va_D Ar ([(oa, .inl (G.2.2.2.2, 1, .inr (.inl og)))] ++ (ou u)) := hD9
  refine lv_i2l (v := r.toInt64) hx hb dL_between_10 rfl ?_
  refine va_last (D := G.1) (ws := [(oa, .inl (G.2.2.2.2, 1, .inr (.inl og)))] ++ (ou u)) hx hb hK hP hD hS 0 3 (n := 1) rfl rfl (by first | assumption | exact vp_in_nI (by omega) (by omega)) dL_between_11 (fun H locs hP hD hS => ?_)
  have hP : PP G ([(oa, .inl (G.2.2.2.2, 1, .inr (.inl (vp_updL og 0 r.toInt64))))] ++ (ou u)) _ := hP
  have hD : va_D Ar ([(oa, .inl (G.2.2.2.2, 1, .inr (.inl (vp_updL og 0 r.toInt64))))] ++ (ou u)) := hD
  refine lv_goto (tgt := 23) hx hb dL_between_12 (by decide) ?_
  refine lv_iconst (v := nI 0) hx hb dL_between_23 (by decide) ?_
  exact wr_iret (G := G) (S := Int32 × S) (r, u) hx hb hr hlocks hP hD hS (Nat.le_of_ble_eq_true rfl) (Nat.le_of_ble_eq_true rfl) (by exact ⟨rfl, hw⟩) dL_between_24

set_option maxHeartbeats 4000000 in
set_option maxRecDepth 100000 in
theorem w_between_t1 (l : Launch) (G : GG) (sz xa oa : Nat) (fs : List Value) (wr : va_W) (og : Nat → Int64) (p0 p1 p2 : Int32) (hc : TH l yX6_between wsX6_between 7 G [.ref xa, .int p0, .int p1, .int p2] ([(xa, .inr (5, fs))] ++ (wr)) IOO) : LWi l yL_between wsL_between 8 G [.ref xa, .int p0, .int p1, .int p2, .ref oa] ([(oa, .inl (G.2.2.2.2, 1, .inr (.inl og)))] ++ ([(xa, .inr (5, fs))] ++ (wr))) sz (S := Unit) (fun r _ => r = nI 1) (fun _ => [(oa, .inl (G.2.2.2.2, 1, .inr (.inl og)))] ++ ([(xa, .inr (5, fs))] ++ (wr))) 1 6 := by
  refine lw_of (l := l) (y := yL_between) (w := wsL_between) (d := 8) (G := G) (As := [.ref xa, .int p0, .int p1, .int p2, .ref oa]) (sz := sz) (mc := 1) (ms := 6) (cc := cL_between) (maxL := 6) (ret := (some .int)) (hh := [(0, 12, 15, 13), (0, 12, 19, 19)]) (Qc := fun Ar => wQi G (S := Unit) (fun r _ => r = nI 1) (fun _ => [(oa, .inl (G.2.2.2.2, 1, .inr (.inl og)))] ++ ([(xa, .inr (5, fs))] ++ (wr))) Ar) (by decide) rfl (Nat.le_of_ble_eq_true rfl) ?_
  intro pG eG s mG below meth cG hx hb hr hml hts hown hlocks htb hP hK hN hX hZ Ar hD hA hS ls hl
  have hown : s.vm.findClass RL = some mG.cls := hown
  have hP : PP G ([(oa, .inl (G.2.2.2.2, 1, .inr (.inl og)))] ++ ([(xa, .inr (5, fs))] ++ (wr))) s.heap := hP
  have hD : va_D Ar ([(oa, .inl (G.2.2.2.2, 1, .inr (.inl og)))] ++ ([(xa, .inr (5, fs))] ++ (wr))) := hD
  have hl : lv_has ls 6 [(0, .ref xa), (1, .int p0), (2, .int p1), (3, .int p2), (4, .ref oa)] := hl
  refine lv_aload hx hb dL_between_0 (lv_at hl 4 rfl) ?_
  refine lv_iconst (v := nI 0) hx hb dL_between_2 (by decide) ?_
  refine lv_aload_n hx hb dL_between_3 rfl (lv_at hl 0 rfl) ?_
  refine lv_iload_n hx hb dL_between_4 rfl (lv_at hl 1 rfl) ?_
  refine lv_iload_n hx hb dL_between_5 rfl (lv_at hl 2 rfl) ?_
  refine lv_iload_n hx hb dL_between_6 rfl (lv_at hl 3 rfl) ?_
  refine wx_go (vx_runV (As := [.int p0, .int p1, .int p2]) (rest := [.int (nI 0), .ref oa]) ⟨hx, hb, hml, hown, hts⟩ (hc) (cwV 3 hts gL_between_X6_between rfl rfl rfl (by decide +kernel) ⟨Nat.le_of_ble_eq_true rfl, Nat.le_of_ble_eq_true rfl⟩) (xV (ws := [(xa, .inr (5, fs))] ++ (wr)) (va_recv (ws := [(oa, .inl (G.2.2.2.2, 1, .inr (.inl og)))] ++ ([(xa, .inr (5, fs))] ++ (wr))) hK hP (ci := 5) (q0 := 1) rfl rfl) hK hN (P_beh (pre := [(oa, .inl (G.2.2.2.2, 1, .inr (.inl og)))]) hP) hX hZ) rfl rfl hl.1 rfl (lv_room (Nat.le_of_ble_eq_true rfl)) dL_between_7 ⟨Nat.le_of_ble_eq_true rfl, Nat.le_of_ble_eq_true rfl⟩) hP hS (fun q9 ce H locs hP hS hce hcv hcl => ?_)
  refine vx_catch (own := RL) (name := IOO) (E := IOO) hown [] ⟨0, 12, 15, 13⟩ [⟨0, 12, 19, 19⟩] (htb.trans rfl) (fun z hz => absurd hz List.not_mem_nil) (by decide) (by decide) (hts (.classLink RL 13 "java/lang/IndexOutOfBoundsException") (List.mem_of_getElem? (i := 1) rfl)) (va_Nw.use rfl hX.1.1) hce hcv hcl ?_
  refine lv_astore (lv' := [(5, .ref q9), (0, .ref xa), (1, .int p0), (2, .int p1), (3, .int p2), (4, .ref oa)]) hx hb dL_between_15 hl (by decide) rfl (fun ls hl => ?_)
  refine lv_iconst (v := nI 1) hx hb dL_between_17 (by decide) ?_
  exact wr_iret (G := G) (S := Unit) () hx hb hr hlocks hP hD hS (Nat.le_of_ble_eq_true rfl) (Nat.le_of_ble_eq_true rfl) (by rfl) dL_between_18

set_option maxHeartbeats 4000000 in
set_option maxRecDepth 100000 in
theorem w_between_t2 (l : Launch) (G : GG) (sz xa oa : Nat) (fs : List Value) (wr : va_W) (og : Nat → Int64) (p0 p1 p2 : Int32) (hc : TH l yX6_between wsX6_between 7 G [.ref xa, .int p0, .int p1, .int p2] ([(xa, .inr (5, fs))] ++ (wr)) IAE) : LWi l yL_between wsL_between 8 G [.ref xa, .int p0, .int p1, .int p2, .ref oa] ([(oa, .inl (G.2.2.2.2, 1, .inr (.inl og)))] ++ ([(xa, .inr (5, fs))] ++ (wr))) sz (S := Unit) (fun r _ => r = nI 2) (fun _ => [(oa, .inl (G.2.2.2.2, 1, .inr (.inl og)))] ++ ([(xa, .inr (5, fs))] ++ (wr))) 1 6 := by
  refine lw_of (l := l) (y := yL_between) (w := wsL_between) (d := 8) (G := G) (As := [.ref xa, .int p0, .int p1, .int p2, .ref oa]) (sz := sz) (mc := 1) (ms := 6) (cc := cL_between) (maxL := 6) (ret := (some .int)) (hh := [(0, 12, 15, 13), (0, 12, 19, 19)]) (Qc := fun Ar => wQi G (S := Unit) (fun r _ => r = nI 2) (fun _ => [(oa, .inl (G.2.2.2.2, 1, .inr (.inl og)))] ++ ([(xa, .inr (5, fs))] ++ (wr))) Ar) (by decide) rfl (Nat.le_of_ble_eq_true rfl) ?_
  intro pG eG s mG below meth cG hx hb hr hml hts hown hlocks htb hP hK hN hX hZ Ar hD hA hS ls hl
  have hown : s.vm.findClass RL = some mG.cls := hown
  have hP : PP G ([(oa, .inl (G.2.2.2.2, 1, .inr (.inl og)))] ++ ([(xa, .inr (5, fs))] ++ (wr))) s.heap := hP
  have hD : va_D Ar ([(oa, .inl (G.2.2.2.2, 1, .inr (.inl og)))] ++ ([(xa, .inr (5, fs))] ++ (wr))) := hD
  have hl : lv_has ls 6 [(0, .ref xa), (1, .int p0), (2, .int p1), (3, .int p2), (4, .ref oa)] := hl
  refine lv_aload hx hb dL_between_0 (lv_at hl 4 rfl) ?_
  refine lv_iconst (v := nI 0) hx hb dL_between_2 (by decide) ?_
  refine lv_aload_n hx hb dL_between_3 rfl (lv_at hl 0 rfl) ?_
  refine lv_iload_n hx hb dL_between_4 rfl (lv_at hl 1 rfl) ?_
  refine lv_iload_n hx hb dL_between_5 rfl (lv_at hl 2 rfl) ?_
  refine lv_iload_n hx hb dL_between_6 rfl (lv_at hl 3 rfl) ?_
  refine wx_go (vx_runV (As := [.int p0, .int p1, .int p2]) (rest := [.int (nI 0), .ref oa]) ⟨hx, hb, hml, hown, hts⟩ (hc) (cwV 3 hts gL_between_X6_between rfl rfl rfl (by decide +kernel) ⟨Nat.le_of_ble_eq_true rfl, Nat.le_of_ble_eq_true rfl⟩) (xV (ws := [(xa, .inr (5, fs))] ++ (wr)) (va_recv (ws := [(oa, .inl (G.2.2.2.2, 1, .inr (.inl og)))] ++ ([(xa, .inr (5, fs))] ++ (wr))) hK hP (ci := 5) (q0 := 1) rfl rfl) hK hN (P_beh (pre := [(oa, .inl (G.2.2.2.2, 1, .inr (.inl og)))]) hP) hX hZ) rfl rfl hl.1 rfl (lv_room (Nat.le_of_ble_eq_true rfl)) dL_between_7 ⟨Nat.le_of_ble_eq_true rfl, Nat.le_of_ble_eq_true rfl⟩) hP hS (fun q9 ce H locs hP hS hce hcv hcl => ?_)
  refine vx_catch (own := RL) (name := IAE) (E := IAE) hown [⟨0, 12, 15, 13⟩] ⟨0, 12, 19, 19⟩ [] (htb.trans rfl) (fun z hz => by obtain rfl := List.mem_singleton.mp hz; exact Or.inr ⟨by decide, IOO, (hts (.classLink RL 13 "java/lang/IndexOutOfBoundsException") (List.mem_of_getElem? (i := 1) rfl)), hX.2.1.1⟩) (by decide) (by decide) (hts (.classLink RL 19 "java/lang/IllegalArgumentException") (List.mem_of_getElem? (i := 2) rfl)) (va_Nw.use rfl hX.1.2.1) hce hcv hcl ?_
  refine lv_astore (lv' := [(5, .ref q9), (0, .ref xa), (1, .int p0), (2, .int p1), (3, .int p2), (4, .ref oa)]) hx hb dL_between_19 hl (by decide) rfl (fun ls hl => ?_)
  refine lv_iconst (v := nI 2) hx hb dL_between_21 (by decide) ?_
  exact wr_iret (G := G) (S := Unit) () hx hb hr hlocks hP hD hS (Nat.le_of_ble_eq_true rfl) (Nat.le_of_ble_eq_true rfl) (by rfl) dL_between_22

set_option maxHeartbeats 4000000 in
set_option maxRecDepth 100000 in
theorem w_town_ok (l : Launch) (G : GG) (sz xa oa : Nat) (fs : List Value) (wr : va_W) (og : Nat → Int64) (p0 : Int32) {S : Type} {post : Int32 → S → Prop} {ou : S → va_W} (hc : ∀ sz : Nat, WRi l yX6_town wsX6_town 2 G [.ref xa, .int p0] ([(xa, .inr (5, fs))] ++ (wr)) sz (S := S) post ou 0 0) : LWi l yL_town wsL_town 3 G [.ref xa, .int p0, .ref oa] ([(oa, .inl (G.2.2.2.2, 1, .inr (.inl og)))] ++ ([(xa, .inr (5, fs))] ++ (wr))) sz (S := Int32 × S) (fun r u => r = nI 0 ∧ post u.1 u.2) (fun u => [(oa, .inl (G.2.2.2.2, 1, .inr (.inl (vp_updL og 0 (u.1.toInt64)))))] ++ ou u.2) 0 0 := by
  refine lw_of (l := l) (y := yL_town) (w := wsL_town) (d := 3) (G := G) (As := [.ref xa, .int p0, .ref oa]) (sz := sz) (mc := 0) (ms := 0) (cc := cL_town) (maxL := 4) (ret := (some .int)) (hh := [(0, 9, 12, 13)]) (Qc := fun Ar => wQi G (S := Int32 × S) (fun r u => r = nI 0 ∧ post u.1 u.2) (fun u => [(oa, .inl (G.2.2.2.2, 1, .inr (.inl (vp_updL og 0 (u.1.toInt64)))))] ++ ou u.2) Ar) (by decide) rfl (Nat.le_of_ble_eq_true rfl) ?_
  intro pG eG s mG below meth cG hx hb hr hml hts hown hlocks htb hP hK hN hX hZ Ar hD hA hS ls hl
  have hown : s.vm.findClass RL = some mG.cls := hown
  have hP : PP G ([(oa, .inl (G.2.2.2.2, 1, .inr (.inl og)))] ++ ([(xa, .inr (5, fs))] ++ (wr))) s.heap := hP
  have hD : va_D Ar ([(oa, .inl (G.2.2.2.2, 1, .inr (.inl og)))] ++ ([(xa, .inr (5, fs))] ++ (wr))) := hD
  have hl : lv_has ls 4 [(0, .ref xa), (1, .int p0), (2, .ref oa)] := hl
  refine lv_aload_n hx hb dL_town_0 rfl (lv_at hl 2 rfl) ?_
  refine lv_iconst (v := nI 0) hx hb dL_town_1 (by decide) ?_
  refine lv_aload_n hx hb dL_town_2 rfl (lv_at hl 0 rfl) ?_
  refine lv_iload_n hx hb dL_town_3 rfl (lv_at hl 1 rfl) ?_
  refine wr_g1i (pre := [(oa, .inl (G.2.2.2.2, 1, .inr (.inl og)))]) (mid := [(xa, .inr (5, fs))] ++ (wr)) (va_runV (As := [.int p0]) (rest := [.int (nI 0), .ref oa]) ⟨hx, hb, hml, hown, hts⟩ (hc _) (cwV 1 hts gL_town_X6_town rfl rfl rfl (by decide +kernel) ⟨Nat.le_of_ble_eq_true rfl, Nat.le_of_ble_eq_true rfl⟩) (wV1 (pre := [(oa, .inl (G.2.2.2.2, 1, .inr (.inl og)))]) (mid := [(xa, .inr (5, fs))] ++ (wr)) (va_recv (ws := [(oa, .inl (G.2.2.2.2, 1, .inr (.inl og)))] ++ ([(xa, .inr (5, fs))] ++ (wr))) hK hP (ci := 5) (q0 := 1) rfl rfl) hK hN hP hD) rfl rfl hl.1 rfl (lv_room (Nat.le_of_ble_eq_true rfl)) dL_town_4 ⟨Nat.le_of_ble_eq_true rfl, Nat.le_of_ble_eq_true rfl⟩) hP hD hS hA (fun r u H locs hw hP9 hD9 hS => ?_)
  have hP : PP G ([(oa, .inl (G.2.2.2.2, 1, .inr (.inl og)))] ++ (ou u)) _ := hP9
  have hD : va_D Ar ([(oa, .inl (G.2.2.2.2, 1, .inr (.inl og)))] ++ (ou u)) := hD9
  refine lv_i2l (v := r.toInt64) hx hb dL_town_7 rfl ?_
  refine va_last (D := G.1) (ws := [(oa, .inl (G.2.2.2.2, 1, .inr (.inl og)))] ++ (ou u)) hx hb hK hP hD hS 0 3 (n := 1) rfl rfl (by first | assumption | exact vp_in_nI (by omega) (by omega)) dL_town_8 (fun H locs hP hD hS => ?_)
  have hP : PP G ([(oa, .inl (G.2.2.2.2, 1, .inr (.inl (vp_updL og 0 r.toInt64))))] ++ (ou u)) _ := hP
  have hD : va_D Ar ([(oa, .inl (G.2.2.2.2, 1, .inr (.inl (vp_updL og 0 r.toInt64))))] ++ (ou u)) := hD
  refine lv_goto (tgt := 15) hx hb dL_town_9 (by decide) ?_
  refine lv_iconst (v := nI 0) hx hb dL_town_15 (by decide) ?_
  exact wr_iret (G := G) (S := Int32 × S) (r, u) hx hb hr hlocks hP hD hS (Nat.le_of_ble_eq_true rfl) (Nat.le_of_ble_eq_true rfl) (by exact ⟨rfl, hw⟩) dL_town_16

set_option maxHeartbeats 4000000 in
set_option maxRecDepth 100000 in
theorem w_town_t1 (l : Launch) (G : GG) (sz xa oa : Nat) (fs : List Value) (wr : va_W) (og : Nat → Int64) (p0 : Int32) (hc : TH l yX6_town wsX6_town 7 G [.ref xa, .int p0] ([(xa, .inr (5, fs))] ++ (wr)) IOO) : LWi l yL_town wsL_town 8 G [.ref xa, .int p0, .ref oa] ([(oa, .inl (G.2.2.2.2, 1, .inr (.inl og)))] ++ ([(xa, .inr (5, fs))] ++ (wr))) sz (S := Unit) (fun r _ => r = nI 1) (fun _ => [(oa, .inl (G.2.2.2.2, 1, .inr (.inl og)))] ++ ([(xa, .inr (5, fs))] ++ (wr))) 1 6 := by
  refine lw_of (l := l) (y := yL_town) (w := wsL_town) (d := 8) (G := G) (As := [.ref xa, .int p0, .ref oa]) (sz := sz) (mc := 1) (ms := 6) (cc := cL_town) (maxL := 4) (ret := (some .int)) (hh := [(0, 9, 12, 13)]) (Qc := fun Ar => wQi G (S := Unit) (fun r _ => r = nI 1) (fun _ => [(oa, .inl (G.2.2.2.2, 1, .inr (.inl og)))] ++ ([(xa, .inr (5, fs))] ++ (wr))) Ar) (by decide) rfl (Nat.le_of_ble_eq_true rfl) ?_
  intro pG eG s mG below meth cG hx hb hr hml hts hown hlocks htb hP hK hN hX hZ Ar hD hA hS ls hl
  have hown : s.vm.findClass RL = some mG.cls := hown
  have hP : PP G ([(oa, .inl (G.2.2.2.2, 1, .inr (.inl og)))] ++ ([(xa, .inr (5, fs))] ++ (wr))) s.heap := hP
  have hD : va_D Ar ([(oa, .inl (G.2.2.2.2, 1, .inr (.inl og)))] ++ ([(xa, .inr (5, fs))] ++ (wr))) := hD
  have hl : lv_has ls 4 [(0, .ref xa), (1, .int p0), (2, .ref oa)] := hl
  refine lv_aload_n hx hb dL_town_0 rfl (lv_at hl 2 rfl) ?_
  refine lv_iconst (v := nI 0) hx hb dL_town_1 (by decide) ?_
  refine lv_aload_n hx hb dL_town_2 rfl (lv_at hl 0 rfl) ?_
  refine lv_iload_n hx hb dL_town_3 rfl (lv_at hl 1 rfl) ?_
  refine wx_go (vx_runV (As := [.int p0]) (rest := [.int (nI 0), .ref oa]) ⟨hx, hb, hml, hown, hts⟩ (hc) (cwV 1 hts gL_town_X6_town rfl rfl rfl (by decide +kernel) ⟨Nat.le_of_ble_eq_true rfl, Nat.le_of_ble_eq_true rfl⟩) (xV (ws := [(xa, .inr (5, fs))] ++ (wr)) (va_recv (ws := [(oa, .inl (G.2.2.2.2, 1, .inr (.inl og)))] ++ ([(xa, .inr (5, fs))] ++ (wr))) hK hP (ci := 5) (q0 := 1) rfl rfl) hK hN (P_beh (pre := [(oa, .inl (G.2.2.2.2, 1, .inr (.inl og)))]) hP) hX hZ) rfl rfl hl.1 rfl (lv_room (Nat.le_of_ble_eq_true rfl)) dL_town_4 ⟨Nat.le_of_ble_eq_true rfl, Nat.le_of_ble_eq_true rfl⟩) hP hS (fun q9 ce H locs hP hS hce hcv hcl => ?_)
  refine vx_catch (own := RL) (name := IOO) (E := IOO) hown [] ⟨0, 9, 12, 13⟩ [] (htb.trans rfl) (fun z hz => absurd hz List.not_mem_nil) (by decide) (by decide) (hts (.classLink RL 13 "java/lang/IndexOutOfBoundsException") (List.mem_of_getElem? (i := 1) rfl)) (va_Nw.use rfl hX.1.1) hce hcv hcl ?_
  refine lv_astore_n (lv' := [(3, .ref q9), (0, .ref xa), (1, .int p0), (2, .ref oa)]) hx hb dL_town_12 rfl hl (by decide) rfl (fun ls hl => ?_)
  refine lv_iconst (v := nI 1) hx hb dL_town_13 (by decide) ?_
  exact wr_iret (G := G) (S := Unit) () hx hb hr hlocks hP hD hS (Nat.le_of_ble_eq_true rfl) (Nat.le_of_ble_eq_true rfl) (by rfl) dL_town_14

set_option maxHeartbeats 4000000 in
set_option maxRecDepth 100000 in
theorem w_count_ok (l : Launch) (G : GG) (sz xa oa : Nat) (fs : List Value) (wr : va_W) (og : Nat → Int64) (p0 : Int32) {S : Type} {post : Int32 → S → Prop} {ou : S → va_W} (hc : ∀ sz : Nat, WRi l yX6_count wsX6_count 14 G [.ref xa, .int p0] ([(xa, .inr (5, fs))] ++ (wr)) sz (S := S) post ou 0 0) : LWi l yL_count wsL_count 15 G [.ref xa, .int p0, .ref oa] ([(oa, .inl (G.2.2.2.2, 1, .inr (.inl og)))] ++ ([(xa, .inr (5, fs))] ++ (wr))) sz (S := Int32 × S) (fun r u => r = nI 0 ∧ post u.1 u.2) (fun u => [(oa, .inl (G.2.2.2.2, 1, .inr (.inl (vp_updL og 0 (u.1.toInt64)))))] ++ ou u.2) 0 0 := by
  refine lw_of (l := l) (y := yL_count) (w := wsL_count) (d := 15) (G := G) (As := [.ref xa, .int p0, .ref oa]) (sz := sz) (mc := 0) (ms := 0) (cc := cL_count) (maxL := 4) (ret := (some .int)) (hh := [(0, 9, 12, 19)]) (Qc := fun Ar => wQi G (S := Int32 × S) (fun r u => r = nI 0 ∧ post u.1 u.2) (fun u => [(oa, .inl (G.2.2.2.2, 1, .inr (.inl (vp_updL og 0 (u.1.toInt64)))))] ++ ou u.2) Ar) (by decide) rfl (Nat.le_of_ble_eq_true rfl) ?_
  intro pG eG s mG below meth cG hx hb hr hml hts hown hlocks htb hP hK hN hX hZ Ar hD hA hS ls hl
  have hown : s.vm.findClass RL = some mG.cls := hown
  have hP : PP G ([(oa, .inl (G.2.2.2.2, 1, .inr (.inl og)))] ++ ([(xa, .inr (5, fs))] ++ (wr))) s.heap := hP
  have hD : va_D Ar ([(oa, .inl (G.2.2.2.2, 1, .inr (.inl og)))] ++ ([(xa, .inr (5, fs))] ++ (wr))) := hD
  have hl : lv_has ls 4 [(0, .ref xa), (1, .int p0), (2, .ref oa)] := hl
  refine lv_aload_n hx hb dL_count_0 rfl (lv_at hl 2 rfl) ?_
  refine lv_iconst (v := nI 0) hx hb dL_count_1 (by decide) ?_
  refine lv_aload_n hx hb dL_count_2 rfl (lv_at hl 0 rfl) ?_
  refine lv_iload_n hx hb dL_count_3 rfl (lv_at hl 1 rfl) ?_
  refine wr_g1i (pre := [(oa, .inl (G.2.2.2.2, 1, .inr (.inl og)))]) (mid := [(xa, .inr (5, fs))] ++ (wr)) (va_runV (As := [.int p0]) (rest := [.int (nI 0), .ref oa]) ⟨hx, hb, hml, hown, hts⟩ (hc _) (cwV 1 hts gL_count_X6_count rfl rfl rfl (by decide +kernel) ⟨Nat.le_of_ble_eq_true rfl, Nat.le_of_ble_eq_true rfl⟩) (wV1 (pre := [(oa, .inl (G.2.2.2.2, 1, .inr (.inl og)))]) (mid := [(xa, .inr (5, fs))] ++ (wr)) (va_recv (ws := [(oa, .inl (G.2.2.2.2, 1, .inr (.inl og)))] ++ ([(xa, .inr (5, fs))] ++ (wr))) hK hP (ci := 5) (q0 := 1) rfl rfl) hK hN hP hD) rfl rfl hl.1 rfl (lv_room (Nat.le_of_ble_eq_true rfl)) dL_count_4 ⟨Nat.le_of_ble_eq_true rfl, Nat.le_of_ble_eq_true rfl⟩) hP hD hS hA (fun r u H locs hw hP9 hD9 hS => ?_)
  have hP : PP G ([(oa, .inl (G.2.2.2.2, 1, .inr (.inl og)))] ++ (ou u)) _ := hP9
  have hD : va_D Ar ([(oa, .inl (G.2.2.2.2, 1, .inr (.inl og)))] ++ (ou u)) := hD9
  refine lv_i2l (v := r.toInt64) hx hb dL_count_7 rfl ?_
  refine va_last (D := G.1) (ws := [(oa, .inl (G.2.2.2.2, 1, .inr (.inl og)))] ++ (ou u)) hx hb hK hP hD hS 0 3 (n := 1) rfl rfl (by first | assumption | exact vp_in_nI (by omega) (by omega)) dL_count_8 (fun H locs hP hD hS => ?_)
  have hP : PP G ([(oa, .inl (G.2.2.2.2, 1, .inr (.inl (vp_updL og 0 r.toInt64))))] ++ (ou u)) _ := hP
  have hD : va_D Ar ([(oa, .inl (G.2.2.2.2, 1, .inr (.inl (vp_updL og 0 r.toInt64))))] ++ (ou u)) := hD
  refine lv_goto (tgt := 15) hx hb dL_count_9 (by decide) ?_
  refine lv_iconst (v := nI 0) hx hb dL_count_15 (by decide) ?_
  exact wr_iret (G := G) (S := Int32 × S) (r, u) hx hb hr hlocks hP hD hS (Nat.le_of_ble_eq_true rfl) (Nat.le_of_ble_eq_true rfl) (by exact ⟨rfl, hw⟩) dL_count_16

set_option maxHeartbeats 4000000 in
set_option maxRecDepth 100000 in
theorem w_count_t1 (l : Launch) (G : GG) (sz xa oa : Nat) (fs : List Value) (wr : va_W) (og : Nat → Int64) (p0 : Int32) (hc : TH l yX6_count wsX6_count 7 G [.ref xa, .int p0] ([(xa, .inr (5, fs))] ++ (wr)) IAE) : LWi l yL_count wsL_count 8 G [.ref xa, .int p0, .ref oa] ([(oa, .inl (G.2.2.2.2, 1, .inr (.inl og)))] ++ ([(xa, .inr (5, fs))] ++ (wr))) sz (S := Unit) (fun r _ => r = nI 1) (fun _ => [(oa, .inl (G.2.2.2.2, 1, .inr (.inl og)))] ++ ([(xa, .inr (5, fs))] ++ (wr))) 1 6 := by
  refine lw_of (l := l) (y := yL_count) (w := wsL_count) (d := 8) (G := G) (As := [.ref xa, .int p0, .ref oa]) (sz := sz) (mc := 1) (ms := 6) (cc := cL_count) (maxL := 4) (ret := (some .int)) (hh := [(0, 9, 12, 19)]) (Qc := fun Ar => wQi G (S := Unit) (fun r _ => r = nI 1) (fun _ => [(oa, .inl (G.2.2.2.2, 1, .inr (.inl og)))] ++ ([(xa, .inr (5, fs))] ++ (wr))) Ar) (by decide) rfl (Nat.le_of_ble_eq_true rfl) ?_
  intro pG eG s mG below meth cG hx hb hr hml hts hown hlocks htb hP hK hN hX hZ Ar hD hA hS ls hl
  have hown : s.vm.findClass RL = some mG.cls := hown
  have hP : PP G ([(oa, .inl (G.2.2.2.2, 1, .inr (.inl og)))] ++ ([(xa, .inr (5, fs))] ++ (wr))) s.heap := hP
  have hD : va_D Ar ([(oa, .inl (G.2.2.2.2, 1, .inr (.inl og)))] ++ ([(xa, .inr (5, fs))] ++ (wr))) := hD
  have hl : lv_has ls 4 [(0, .ref xa), (1, .int p0), (2, .ref oa)] := hl
  refine lv_aload_n hx hb dL_count_0 rfl (lv_at hl 2 rfl) ?_
  refine lv_iconst (v := nI 0) hx hb dL_count_1 (by decide) ?_
  refine lv_aload_n hx hb dL_count_2 rfl (lv_at hl 0 rfl) ?_
  refine lv_iload_n hx hb dL_count_3 rfl (lv_at hl 1 rfl) ?_
  refine wx_go (vx_runV (As := [.int p0]) (rest := [.int (nI 0), .ref oa]) ⟨hx, hb, hml, hown, hts⟩ (hc) (cwV 1 hts gL_count_X6_count rfl rfl rfl (by decide +kernel) ⟨Nat.le_of_ble_eq_true rfl, Nat.le_of_ble_eq_true rfl⟩) (xV (ws := [(xa, .inr (5, fs))] ++ (wr)) (va_recv (ws := [(oa, .inl (G.2.2.2.2, 1, .inr (.inl og)))] ++ ([(xa, .inr (5, fs))] ++ (wr))) hK hP (ci := 5) (q0 := 1) rfl rfl) hK hN (P_beh (pre := [(oa, .inl (G.2.2.2.2, 1, .inr (.inl og)))]) hP) hX hZ) rfl rfl hl.1 rfl (lv_room (Nat.le_of_ble_eq_true rfl)) dL_count_4 ⟨Nat.le_of_ble_eq_true rfl, Nat.le_of_ble_eq_true rfl⟩) hP hS (fun q9 ce H locs hP hS hce hcv hcl => ?_)
  refine vx_catch (own := RL) (name := IAE) (E := IAE) hown [] ⟨0, 9, 12, 19⟩ [] (htb.trans rfl) (fun z hz => absurd hz List.not_mem_nil) (by decide) (by decide) (hts (.classLink RL 19 "java/lang/IllegalArgumentException") (List.mem_of_getElem? (i := 1) rfl)) (va_Nw.use rfl hX.1.2.1) hce hcv hcl ?_
  refine lv_astore_n (lv' := [(3, .ref q9), (0, .ref xa), (1, .int p0), (2, .ref oa)]) hx hb dL_count_12 rfl hl (by decide) rfl (fun ls hl => ?_)
  refine lv_iconst (v := nI 1) hx hb dL_count_13 (by decide) ?_
  exact wr_iret (G := G) (S := Unit) () hx hb hr hlocks hP hD hS (Nat.le_of_ble_eq_true rfl) (Nat.le_of_ble_eq_true rfl) (by rfl) dL_count_14

set_option maxHeartbeats 4000000 in
set_option maxRecDepth 100000 in
theorem w_ifTouching_ok (l : Launch) (G : GG) (sz xa oa : Nat) (fs : List Value) (wr : va_W) (og : Nat → Int64) (p0 p1 : Int32) {S : Type} {post : Int32 → S → Prop} {ou : S → va_W} (hc : ∀ sz : Nat, WRi l yX6_ifTouching wsX6_ifTouching 5 G [.ref xa, .int p0, .int p1] ([(xa, .inr (5, fs))] ++ (wr)) sz (S := S) post ou 0 0) : LWi l yL_ifTouching wsL_ifTouching 6 G [.ref xa, .int p0, .int p1, .ref oa] ([(oa, .inl (G.2.2.2.2, 1, .inr (.inl og)))] ++ ([(xa, .inr (5, fs))] ++ (wr))) sz (S := Int32 × S) (fun r u => r = nI 0 ∧ post u.1 u.2) (fun u => [(oa, .inl (G.2.2.2.2, 1, .inr (.inl (vp_updL og 0 (u.1.toInt64)))))] ++ ou u.2) 0 0 := by
  refine lw_of (l := l) (y := yL_ifTouching) (w := wsL_ifTouching) (d := 6) (G := G) (As := [.ref xa, .int p0, .int p1, .ref oa]) (sz := sz) (mc := 0) (ms := 0) (cc := cL_ifTouching) (maxL := 5) (ret := (some .int)) (hh := [(0, 10, 13, 13), (0, 10, 17, 19)]) (Qc := fun Ar => wQi G (S := Int32 × S) (fun r u => r = nI 0 ∧ post u.1 u.2) (fun u => [(oa, .inl (G.2.2.2.2, 1, .inr (.inl (vp_updL og 0 (u.1.toInt64)))))] ++ ou u.2) Ar) (by decide) rfl (Nat.le_of_ble_eq_true rfl) ?_
  intro pG eG s mG below meth cG hx hb hr hml hts hown hlocks htb hP hK hN hX hZ Ar hD hA hS ls hl
  have hown : s.vm.findClass RL = some mG.cls := hown
  have hP : PP G ([(oa, .inl (G.2.2.2.2, 1, .inr (.inl og)))] ++ ([(xa, .inr (5, fs))] ++ (wr))) s.heap := hP
  have hD : va_D Ar ([(oa, .inl (G.2.2.2.2, 1, .inr (.inl og)))] ++ ([(xa, .inr (5, fs))] ++ (wr))) := hD
  have hl : lv_has ls 5 [(0, .ref xa), (1, .int p0), (2, .int p1), (3, .ref oa)] := hl
  refine lv_aload_n hx hb dL_ifTouching_0 rfl (lv_at hl 3 rfl) ?_
  refine lv_iconst (v := nI 0) hx hb dL_ifTouching_1 (by decide) ?_
  refine lv_aload_n hx hb dL_ifTouching_2 rfl (lv_at hl 0 rfl) ?_
  refine lv_iload_n hx hb dL_ifTouching_3 rfl (lv_at hl 1 rfl) ?_
  refine lv_iload_n hx hb dL_ifTouching_4 rfl (lv_at hl 2 rfl) ?_
  refine wr_g1i (pre := [(oa, .inl (G.2.2.2.2, 1, .inr (.inl og)))]) (mid := [(xa, .inr (5, fs))] ++ (wr)) (va_runV (As := [.int p0, .int p1]) (rest := [.int (nI 0), .ref oa]) ⟨hx, hb, hml, hown, hts⟩ (hc _) (cwV 2 hts gL_ifTouching_X6_ifTouching rfl rfl rfl (by decide +kernel) ⟨Nat.le_of_ble_eq_true rfl, Nat.le_of_ble_eq_true rfl⟩) (wV1 (pre := [(oa, .inl (G.2.2.2.2, 1, .inr (.inl og)))]) (mid := [(xa, .inr (5, fs))] ++ (wr)) (va_recv (ws := [(oa, .inl (G.2.2.2.2, 1, .inr (.inl og)))] ++ ([(xa, .inr (5, fs))] ++ (wr))) hK hP (ci := 5) (q0 := 1) rfl rfl) hK hN hP hD) rfl rfl hl.1 rfl (lv_room (Nat.le_of_ble_eq_true rfl)) dL_ifTouching_5 ⟨Nat.le_of_ble_eq_true rfl, Nat.le_of_ble_eq_true rfl⟩) hP hD hS hA (fun r u H locs hw hP9 hD9 hS => ?_)
  have hP : PP G ([(oa, .inl (G.2.2.2.2, 1, .inr (.inl og)))] ++ (ou u)) _ := hP9
  have hD : va_D Ar ([(oa, .inl (G.2.2.2.2, 1, .inr (.inl og)))] ++ (ou u)) := hD9
  refine lv_i2l (v := r.toInt64) hx hb dL_ifTouching_8 rfl ?_
  refine va_last (D := G.1) (ws := [(oa, .inl (G.2.2.2.2, 1, .inr (.inl og)))] ++ (ou u)) hx hb hK hP hD hS 0 3 (n := 1) rfl rfl (by first | assumption | exact vp_in_nI (by omega) (by omega)) dL_ifTouching_9 (fun H locs hP hD hS => ?_)
  have hP : PP G ([(oa, .inl (G.2.2.2.2, 1, .inr (.inl (vp_updL og 0 r.toInt64))))] ++ (ou u)) _ := hP
  have hD : va_D Ar ([(oa, .inl (G.2.2.2.2, 1, .inr (.inl (vp_updL og 0 r.toInt64))))] ++ (ou u)) := hD
  refine lv_goto (tgt := 21) hx hb dL_ifTouching_10 (by decide) ?_
  refine lv_iconst (v := nI 0) hx hb dL_ifTouching_21 (by decide) ?_
  exact wr_iret (G := G) (S := Int32 × S) (r, u) hx hb hr hlocks hP hD hS (Nat.le_of_ble_eq_true rfl) (Nat.le_of_ble_eq_true rfl) (by exact ⟨rfl, hw⟩) dL_ifTouching_22

set_option maxHeartbeats 4000000 in
set_option maxRecDepth 100000 in
theorem w_ifTouching_t1 (l : Launch) (G : GG) (sz xa oa : Nat) (fs : List Value) (wr : va_W) (og : Nat → Int64) (p0 p1 : Int32) (hc : TH l yX6_ifTouching wsX6_ifTouching 8 G [.ref xa, .int p0, .int p1] ([(xa, .inr (5, fs))] ++ (wr)) IOO) : LWi l yL_ifTouching wsL_ifTouching 9 G [.ref xa, .int p0, .int p1, .ref oa] ([(oa, .inl (G.2.2.2.2, 1, .inr (.inl og)))] ++ ([(xa, .inr (5, fs))] ++ (wr))) sz (S := Unit) (fun r _ => r = nI 1) (fun _ => [(oa, .inl (G.2.2.2.2, 1, .inr (.inl og)))] ++ ([(xa, .inr (5, fs))] ++ (wr))) 1 6 := by
  refine lw_of (l := l) (y := yL_ifTouching) (w := wsL_ifTouching) (d := 9) (G := G) (As := [.ref xa, .int p0, .int p1, .ref oa]) (sz := sz) (mc := 1) (ms := 6) (cc := cL_ifTouching) (maxL := 5) (ret := (some .int)) (hh := [(0, 10, 13, 13), (0, 10, 17, 19)]) (Qc := fun Ar => wQi G (S := Unit) (fun r _ => r = nI 1) (fun _ => [(oa, .inl (G.2.2.2.2, 1, .inr (.inl og)))] ++ ([(xa, .inr (5, fs))] ++ (wr))) Ar) (by decide) rfl (Nat.le_of_ble_eq_true rfl) ?_
  intro pG eG s mG below meth cG hx hb hr hml hts hown hlocks htb hP hK hN hX hZ Ar hD hA hS ls hl
  have hown : s.vm.findClass RL = some mG.cls := hown
  have hP : PP G ([(oa, .inl (G.2.2.2.2, 1, .inr (.inl og)))] ++ ([(xa, .inr (5, fs))] ++ (wr))) s.heap := hP
  have hD : va_D Ar ([(oa, .inl (G.2.2.2.2, 1, .inr (.inl og)))] ++ ([(xa, .inr (5, fs))] ++ (wr))) := hD
  have hl : lv_has ls 5 [(0, .ref xa), (1, .int p0), (2, .int p1), (3, .ref oa)] := hl
  refine lv_aload_n hx hb dL_ifTouching_0 rfl (lv_at hl 3 rfl) ?_
  refine lv_iconst (v := nI 0) hx hb dL_ifTouching_1 (by decide) ?_
  refine lv_aload_n hx hb dL_ifTouching_2 rfl (lv_at hl 0 rfl) ?_
  refine lv_iload_n hx hb dL_ifTouching_3 rfl (lv_at hl 1 rfl) ?_
  refine lv_iload_n hx hb dL_ifTouching_4 rfl (lv_at hl 2 rfl) ?_
  refine wx_go (vx_runV (As := [.int p0, .int p1]) (rest := [.int (nI 0), .ref oa]) ⟨hx, hb, hml, hown, hts⟩ (hc) (cwV 2 hts gL_ifTouching_X6_ifTouching rfl rfl rfl (by decide +kernel) ⟨Nat.le_of_ble_eq_true rfl, Nat.le_of_ble_eq_true rfl⟩) (xV (ws := [(xa, .inr (5, fs))] ++ (wr)) (va_recv (ws := [(oa, .inl (G.2.2.2.2, 1, .inr (.inl og)))] ++ ([(xa, .inr (5, fs))] ++ (wr))) hK hP (ci := 5) (q0 := 1) rfl rfl) hK hN (P_beh (pre := [(oa, .inl (G.2.2.2.2, 1, .inr (.inl og)))]) hP) hX hZ) rfl rfl hl.1 rfl (lv_room (Nat.le_of_ble_eq_true rfl)) dL_ifTouching_5 ⟨Nat.le_of_ble_eq_true rfl, Nat.le_of_ble_eq_true rfl⟩) hP hS (fun q9 ce H locs hP hS hce hcv hcl => ?_)
  refine vx_catch (own := RL) (name := IOO) (E := IOO) hown [] ⟨0, 10, 13, 13⟩ [⟨0, 10, 17, 19⟩] (htb.trans rfl) (fun z hz => absurd hz List.not_mem_nil) (by decide) (by decide) (hts (.classLink RL 13 "java/lang/IndexOutOfBoundsException") (List.mem_of_getElem? (i := 1) rfl)) (va_Nw.use rfl hX.1.1) hce hcv hcl ?_
  refine lv_astore (lv' := [(4, .ref q9), (0, .ref xa), (1, .int p0), (2, .int p1), (3, .ref oa)]) hx hb dL_ifTouching_13 hl (by decide) rfl (fun ls hl => ?_)
  refine lv_iconst (v := nI 1) hx hb dL_ifTouching_15 (by decide) ?_
  exact wr_iret (G := G) (S := Unit) () hx hb hr hlocks hP hD hS (Nat.le_of_ble_eq_true rfl) (Nat.le_of_ble_eq_true rfl) (by rfl) dL_ifTouching_16

set_option maxHeartbeats 4000000 in
set_option maxRecDepth 100000 in
theorem w_ifTouching_t2 (l : Launch) (G : GG) (sz xa oa : Nat) (fs : List Value) (wr : va_W) (og : Nat → Int64) (p0 p1 : Int32) (hc : TH l yX6_ifTouching wsX6_ifTouching 8 G [.ref xa, .int p0, .int p1] ([(xa, .inr (5, fs))] ++ (wr)) IAE) : LWi l yL_ifTouching wsL_ifTouching 9 G [.ref xa, .int p0, .int p1, .ref oa] ([(oa, .inl (G.2.2.2.2, 1, .inr (.inl og)))] ++ ([(xa, .inr (5, fs))] ++ (wr))) sz (S := Unit) (fun r _ => r = nI 2) (fun _ => [(oa, .inl (G.2.2.2.2, 1, .inr (.inl og)))] ++ ([(xa, .inr (5, fs))] ++ (wr))) 1 6 := by
  refine lw_of (l := l) (y := yL_ifTouching) (w := wsL_ifTouching) (d := 9) (G := G) (As := [.ref xa, .int p0, .int p1, .ref oa]) (sz := sz) (mc := 1) (ms := 6) (cc := cL_ifTouching) (maxL := 5) (ret := (some .int)) (hh := [(0, 10, 13, 13), (0, 10, 17, 19)]) (Qc := fun Ar => wQi G (S := Unit) (fun r _ => r = nI 2) (fun _ => [(oa, .inl (G.2.2.2.2, 1, .inr (.inl og)))] ++ ([(xa, .inr (5, fs))] ++ (wr))) Ar) (by decide) rfl (Nat.le_of_ble_eq_true rfl) ?_
  intro pG eG s mG below meth cG hx hb hr hml hts hown hlocks htb hP hK hN hX hZ Ar hD hA hS ls hl
  have hown : s.vm.findClass RL = some mG.cls := hown
  have hP : PP G ([(oa, .inl (G.2.2.2.2, 1, .inr (.inl og)))] ++ ([(xa, .inr (5, fs))] ++ (wr))) s.heap := hP
  have hD : va_D Ar ([(oa, .inl (G.2.2.2.2, 1, .inr (.inl og)))] ++ ([(xa, .inr (5, fs))] ++ (wr))) := hD
  have hl : lv_has ls 5 [(0, .ref xa), (1, .int p0), (2, .int p1), (3, .ref oa)] := hl
  refine lv_aload_n hx hb dL_ifTouching_0 rfl (lv_at hl 3 rfl) ?_
  refine lv_iconst (v := nI 0) hx hb dL_ifTouching_1 (by decide) ?_
  refine lv_aload_n hx hb dL_ifTouching_2 rfl (lv_at hl 0 rfl) ?_
  refine lv_iload_n hx hb dL_ifTouching_3 rfl (lv_at hl 1 rfl) ?_
  refine lv_iload_n hx hb dL_ifTouching_4 rfl (lv_at hl 2 rfl) ?_
  refine wx_go (vx_runV (As := [.int p0, .int p1]) (rest := [.int (nI 0), .ref oa]) ⟨hx, hb, hml, hown, hts⟩ (hc) (cwV 2 hts gL_ifTouching_X6_ifTouching rfl rfl rfl (by decide +kernel) ⟨Nat.le_of_ble_eq_true rfl, Nat.le_of_ble_eq_true rfl⟩) (xV (ws := [(xa, .inr (5, fs))] ++ (wr)) (va_recv (ws := [(oa, .inl (G.2.2.2.2, 1, .inr (.inl og)))] ++ ([(xa, .inr (5, fs))] ++ (wr))) hK hP (ci := 5) (q0 := 1) rfl rfl) hK hN (P_beh (pre := [(oa, .inl (G.2.2.2.2, 1, .inr (.inl og)))]) hP) hX hZ) rfl rfl hl.1 rfl (lv_room (Nat.le_of_ble_eq_true rfl)) dL_ifTouching_5 ⟨Nat.le_of_ble_eq_true rfl, Nat.le_of_ble_eq_true rfl⟩) hP hS (fun q9 ce H locs hP hS hce hcv hcl => ?_)
  refine vx_catch (own := RL) (name := IAE) (E := IAE) hown [⟨0, 10, 13, 13⟩] ⟨0, 10, 17, 19⟩ [] (htb.trans rfl) (fun z hz => by obtain rfl := List.mem_singleton.mp hz; exact Or.inr ⟨by decide, IOO, (hts (.classLink RL 13 "java/lang/IndexOutOfBoundsException") (List.mem_of_getElem? (i := 1) rfl)), hX.2.1.1⟩) (by decide) (by decide) (hts (.classLink RL 19 "java/lang/IllegalArgumentException") (List.mem_of_getElem? (i := 2) rfl)) (va_Nw.use rfl hX.1.2.1) hce hcv hcl ?_
  refine lv_astore (lv' := [(4, .ref q9), (0, .ref xa), (1, .int p0), (2, .int p1), (3, .ref oa)]) hx hb dL_ifTouching_17 hl (by decide) rfl (fun ls hl => ?_)
  refine lv_iconst (v := nI 2) hx hb dL_ifTouching_19 (by decide) ?_
  exact wr_iret (G := G) (S := Unit) () hx hb hr hlocks hP hD hS (Nat.le_of_ble_eq_true rfl) (Nat.le_of_ble_eq_true rfl) (by rfl) dL_ifTouching_20

set_option maxHeartbeats 4000000 in
set_option maxRecDepth 100000 in
theorem w_folding_ok (l : Launch) (G : GG) (sz xa oa : Nat) (fs : List Value) (wr : va_W) (og : Nat → Int64) (p0 : Int32) {S : Type} {post : Int32 → S → Prop} {ou : S → va_W} (hc : ∀ sz : Nat, WRi l yX6_folding wsX6_folding 5 G [.ref xa, .int p0] ([(xa, .inr (5, fs))] ++ (wr)) sz (S := S) post ou 0 0) : LWi l yL_folding wsL_folding 6 G [.ref xa, .int p0, .ref oa] ([(oa, .inl (G.2.2.2.2, 1, .inr (.inl og)))] ++ ([(xa, .inr (5, fs))] ++ (wr))) sz (S := Int32 × S) (fun r u => r = nI 0 ∧ post u.1 u.2) (fun u => [(oa, .inl (G.2.2.2.2, 1, .inr (.inl (vp_updL og 0 (u.1.toInt64)))))] ++ ou u.2) 0 0 := by
  refine lw_of (l := l) (y := yL_folding) (w := wsL_folding) (d := 6) (G := G) (As := [.ref xa, .int p0, .ref oa]) (sz := sz) (mc := 0) (ms := 0) (cc := cL_folding) (maxL := 4) (ret := (some .int)) (hh := [(0, 9, 12, 19)]) (Qc := fun Ar => wQi G (S := Int32 × S) (fun r u => r = nI 0 ∧ post u.1 u.2) (fun u => [(oa, .inl (G.2.2.2.2, 1, .inr (.inl (vp_updL og 0 (u.1.toInt64)))))] ++ ou u.2) Ar) (by decide) rfl (Nat.le_of_ble_eq_true rfl) ?_
  intro pG eG s mG below meth cG hx hb hr hml hts hown hlocks htb hP hK hN hX hZ Ar hD hA hS ls hl
  have hown : s.vm.findClass RL = some mG.cls := hown
  have hP : PP G ([(oa, .inl (G.2.2.2.2, 1, .inr (.inl og)))] ++ ([(xa, .inr (5, fs))] ++ (wr))) s.heap := hP
  have hD : va_D Ar ([(oa, .inl (G.2.2.2.2, 1, .inr (.inl og)))] ++ ([(xa, .inr (5, fs))] ++ (wr))) := hD
  have hl : lv_has ls 4 [(0, .ref xa), (1, .int p0), (2, .ref oa)] := hl
  refine lv_aload_n hx hb dL_folding_0 rfl (lv_at hl 2 rfl) ?_
  refine lv_iconst (v := nI 0) hx hb dL_folding_1 (by decide) ?_
  refine lv_aload_n hx hb dL_folding_2 rfl (lv_at hl 0 rfl) ?_
  refine lv_iload_n hx hb dL_folding_3 rfl (lv_at hl 1 rfl) ?_
  refine wr_g1i (pre := [(oa, .inl (G.2.2.2.2, 1, .inr (.inl og)))]) (mid := [(xa, .inr (5, fs))] ++ (wr)) (va_runV (As := [.int p0]) (rest := [.int (nI 0), .ref oa]) ⟨hx, hb, hml, hown, hts⟩ (hc _) (cwV 1 hts gL_folding_X6_folding rfl rfl rfl (by decide +kernel) ⟨Nat.le_of_ble_eq_true rfl, Nat.le_of_ble_eq_true rfl⟩) (wV1 (pre := [(oa, .inl (G.2.2.2.2, 1, .inr (.inl og)))]) (mid := [(xa, .inr (5, fs))] ++ (wr)) (va_recv (ws := [(oa, .inl (G.2.2.2.2, 1, .inr (.inl og)))] ++ ([(xa, .inr (5, fs))] ++ (wr))) hK hP (ci := 5) (q0 := 1) rfl rfl) hK hN hP hD) rfl rfl hl.1 rfl (lv_room (Nat.le_of_ble_eq_true rfl)) dL_folding_4 ⟨Nat.le_of_ble_eq_true rfl, Nat.le_of_ble_eq_true rfl⟩) hP hD hS hA (fun r u H locs hw hP9 hD9 hS => ?_)
  have hP : PP G ([(oa, .inl (G.2.2.2.2, 1, .inr (.inl og)))] ++ (ou u)) _ := hP9
  have hD : va_D Ar ([(oa, .inl (G.2.2.2.2, 1, .inr (.inl og)))] ++ (ou u)) := hD9
  refine lv_i2l (v := r.toInt64) hx hb dL_folding_7 rfl ?_
  refine va_last (D := G.1) (ws := [(oa, .inl (G.2.2.2.2, 1, .inr (.inl og)))] ++ (ou u)) hx hb hK hP hD hS 0 3 (n := 1) rfl rfl (by first | assumption | exact vp_in_nI (by omega) (by omega)) dL_folding_8 (fun H locs hP hD hS => ?_)
  have hP : PP G ([(oa, .inl (G.2.2.2.2, 1, .inr (.inl (vp_updL og 0 r.toInt64))))] ++ (ou u)) _ := hP
  have hD : va_D Ar ([(oa, .inl (G.2.2.2.2, 1, .inr (.inl (vp_updL og 0 r.toInt64))))] ++ (ou u)) := hD
  refine lv_goto (tgt := 15) hx hb dL_folding_9 (by decide) ?_
  refine lv_iconst (v := nI 0) hx hb dL_folding_15 (by decide) ?_
  exact wr_iret (G := G) (S := Int32 × S) (r, u) hx hb hr hlocks hP hD hS (Nat.le_of_ble_eq_true rfl) (Nat.le_of_ble_eq_true rfl) (by exact ⟨rfl, hw⟩) dL_folding_16

set_option maxHeartbeats 4000000 in
set_option maxRecDepth 100000 in
theorem w_folding_t1 (l : Launch) (G : GG) (sz xa oa : Nat) (fs : List Value) (wr : va_W) (og : Nat → Int64) (p0 : Int32) (hc : TH l yX6_folding wsX6_folding 7 G [.ref xa, .int p0] ([(xa, .inr (5, fs))] ++ (wr)) IAE) : LWi l yL_folding wsL_folding 8 G [.ref xa, .int p0, .ref oa] ([(oa, .inl (G.2.2.2.2, 1, .inr (.inl og)))] ++ ([(xa, .inr (5, fs))] ++ (wr))) sz (S := Unit) (fun r _ => r = nI 1) (fun _ => [(oa, .inl (G.2.2.2.2, 1, .inr (.inl og)))] ++ ([(xa, .inr (5, fs))] ++ (wr))) 1 6 := by
  refine lw_of (l := l) (y := yL_folding) (w := wsL_folding) (d := 8) (G := G) (As := [.ref xa, .int p0, .ref oa]) (sz := sz) (mc := 1) (ms := 6) (cc := cL_folding) (maxL := 4) (ret := (some .int)) (hh := [(0, 9, 12, 19)]) (Qc := fun Ar => wQi G (S := Unit) (fun r _ => r = nI 1) (fun _ => [(oa, .inl (G.2.2.2.2, 1, .inr (.inl og)))] ++ ([(xa, .inr (5, fs))] ++ (wr))) Ar) (by decide) rfl (Nat.le_of_ble_eq_true rfl) ?_
  intro pG eG s mG below meth cG hx hb hr hml hts hown hlocks htb hP hK hN hX hZ Ar hD hA hS ls hl
  have hown : s.vm.findClass RL = some mG.cls := hown
  have hP : PP G ([(oa, .inl (G.2.2.2.2, 1, .inr (.inl og)))] ++ ([(xa, .inr (5, fs))] ++ (wr))) s.heap := hP
  have hD : va_D Ar ([(oa, .inl (G.2.2.2.2, 1, .inr (.inl og)))] ++ ([(xa, .inr (5, fs))] ++ (wr))) := hD
  have hl : lv_has ls 4 [(0, .ref xa), (1, .int p0), (2, .ref oa)] := hl
  refine lv_aload_n hx hb dL_folding_0 rfl (lv_at hl 2 rfl) ?_
  refine lv_iconst (v := nI 0) hx hb dL_folding_1 (by decide) ?_
  refine lv_aload_n hx hb dL_folding_2 rfl (lv_at hl 0 rfl) ?_
  refine lv_iload_n hx hb dL_folding_3 rfl (lv_at hl 1 rfl) ?_
  refine wx_go (vx_runV (As := [.int p0]) (rest := [.int (nI 0), .ref oa]) ⟨hx, hb, hml, hown, hts⟩ (hc) (cwV 1 hts gL_folding_X6_folding rfl rfl rfl (by decide +kernel) ⟨Nat.le_of_ble_eq_true rfl, Nat.le_of_ble_eq_true rfl⟩) (xV (ws := [(xa, .inr (5, fs))] ++ (wr)) (va_recv (ws := [(oa, .inl (G.2.2.2.2, 1, .inr (.inl og)))] ++ ([(xa, .inr (5, fs))] ++ (wr))) hK hP (ci := 5) (q0 := 1) rfl rfl) hK hN (P_beh (pre := [(oa, .inl (G.2.2.2.2, 1, .inr (.inl og)))]) hP) hX hZ) rfl rfl hl.1 rfl (lv_room (Nat.le_of_ble_eq_true rfl)) dL_folding_4 ⟨Nat.le_of_ble_eq_true rfl, Nat.le_of_ble_eq_true rfl⟩) hP hS (fun q9 ce H locs hP hS hce hcv hcl => ?_)
  refine vx_catch (own := RL) (name := IAE) (E := IAE) hown [] ⟨0, 9, 12, 19⟩ [] (htb.trans rfl) (fun z hz => absurd hz List.not_mem_nil) (by decide) (by decide) (hts (.classLink RL 19 "java/lang/IllegalArgumentException") (List.mem_of_getElem? (i := 1) rfl)) (va_Nw.use rfl hX.1.2.1) hce hcv hcl ?_
  refine lv_astore_n (lv' := [(3, .ref q9), (0, .ref xa), (1, .int p0), (2, .ref oa)]) hx hb dL_folding_12 rfl hl (by decide) rfl (fun ls hl => ?_)
  refine lv_iconst (v := nI 1) hx hb dL_folding_13 (by decide) ?_
  exact wr_iret (G := G) (S := Unit) () hx hb hr hlocks hP hD hS (Nat.le_of_ble_eq_true rfl) (Nat.le_of_ble_eq_true rfl) (by rfl) dL_folding_14

/-! THE LAW'S SMALL METHODS: what they answer -/
theorem P_suf {G : GG} {pre mid : va_W} {H : Heap} (h : PP G (pre ++ mid) H) : PP G mid H := P_mem h (fun q hq => List.mem_append_right _ hq)
theorem D_suf {A : Nat → Prop} {pre mid : va_W} (h : va_D A (pre ++ mid)) : va_D A mid := (D_app.mp h).2.1
section LQ
variable {p : Program} {l : Launch} {e : Env} {R : Room} {s : State} {m : MethodId} {args : Array Value} {below : List Frame} {meth : Method} {c : Code} {H : Heap} {locs : List Loc} {cells slots : Nat} {Q : State → Prop}
variable {pc : Nat} {ls : Array Slot} {rest st0 : List Value} {a : Array Value} {A0 : Nat → Prop} {H0 : Heap} {mc ms : Nat} {G : GG}
theorem wS1 {As : List Value} {pre mid : va_W} (hK : KK G s) (hN : NW s) (hP : PP G (pre ++ mid) H) (hD : va_D A0 (pre ++ mid)) : PreS s H (wP G As mid H.size) As :=
  wS (pre := pre) (mid := mid) (suf := []) hK hN (by rw [List.append_nil]; exact hP) (by rw [List.append_nil]; exact hD)
theorem wV1 {As : List Value} {pre mid : va_W} {C : String} {b : Addr} (hr : ∃ cellB : Cell, H[b]? = some cellB ∧ cellB.vm.isStatics = false ∧ s.vm.findClass C = some cellB.cls) (hK : KK G s) (hN : NW s) (hP : PP G (pre ++ mid) H) (hD : va_D A0 (pre ++ mid)) : PreV s H C b (wP G (.ref b :: As) mid H.size) As :=
  wV (pre := pre) (mid := mid) (suf := []) hr hK hN (by rw [List.append_nil]; exact hP) (by rw [List.append_nil]; exact hD)
theorem wr_g1i {S : Type} {post : Int32 → S → Prop} {out : S → va_W} {pre mid : va_W} (hr : va_Run p l e R s m args below meth c H locs cells slots mc ms (F0 m pc ls st0) rest (wQi G post out (va_A mid H.size) a) (va_A mid H.size))
    (hP : PP G (pre ++ mid) H) (hD : va_D A0 (pre ++ mid)) (hS : va_S A0 H0 H locs) (hA : ∀ q, H0.size ≤ q → A0 q)
    (kk : ∀ (r : Int32) (u : S) (H1 : Heap) (locs1 : List Loc), post r u → PP G (pre ++ out u) H1 → va_D A0 (pre ++ out u) → va_S A0 H0 H1 locs1 → W p l e R s m args below meth c H1 locs1 (cells + mc) (slots + ms) Q (F0 m (pc + 3) ls (.int r :: rest))) :
    W p l e R s m args below meth c H locs cells slots Q (F0 m pc ls st0) :=
  wr_goi (pre := pre) (mid := mid) (suf := []) hr (by rw [List.append_nil]; exact hP) (by rw [List.append_nil]; exact hD) hS hA (fun r u H1 l1 h1 h2 h3 h4 => kk r u H1 l1 h1 (by rw [List.append_nil] at h2; exact h2) (by rw [List.append_nil] at h3; exact h3) h4)
theorem wr_g1v {S : Type} {post : S → Prop} {out : S → va_W} {pre mid : va_W} (hr : va_Run p l e R s m args below meth c H locs cells slots mc ms (F0 m pc ls st0) rest (wQv G post out (va_A mid H.size) a) (va_A mid H.size))
    (hP : PP G (pre ++ mid) H) (hD : va_D A0 (pre ++ mid)) (hS : va_S A0 H0 H locs) (hA : ∀ q, H0.size ≤ q → A0 q)
    (kk : ∀ (u : S) (H1 : Heap) (locs1 : List Loc), post u → PP G (pre ++ out u) H1 → va_D A0 (pre ++ out u) → va_S A0 H0 H1 locs1 → W p l e R s m args below meth c H1 locs1 (cells + mc) (slots + ms) Q (F0 m (pc + 3) ls rest)) :
    W p l e R s m args below meth c H locs cells slots Q (F0 m pc ls st0) :=
  wr_gov (pre := pre) (mid := mid) (suf := []) hr (by rw [List.append_nil]; exact hP) (by rw [List.append_nil]; exact hD) hS hA (fun u H1 l1 h1 h2 h3 h4 => kk u H1 l1 h1 (by rw [List.append_nil] at h2; exact h2) (by rw [List.append_nil] at h3; exact h3) h4)
end LQ
/-- a number from 0 to n - 1 -/
def lowN (v : Int32) (n : Nat) : Nat := cl (v &&& (2147483647)) % n
theorem lowN_lt (v : Int32) {n : Nat} (h : 0 < n) : lowN v n < n := Nat.mod_lt _ h
abbrev bitsL (x : Int32) : Int32 := sumI (fun k => bI x (nI k)) 10
def orS (h : Nat → Int32) : Nat → Int32
  | 0 => nI 0
  | k + 1 => orS h k ||| (h k <<< (nI k &&& 31))
/-- the same, from the last one on -/
def orD (h : Nat → Int32) : Nat → Int32
  | 0 => nI 0
  | d + 1 => orD h d ||| (h (8 - d) <<< (nI (8 - d) &&& 31))
theorem orS_all : (List.range 512).all (fun a => decide (orS (fun k => bI (nI a) (nI k)) 9 = nI a)) = true := by decide +kernel
theorem orD_all : (List.range 512).all (fun a => decide (orD (fun k => bI (nI a) (nI k)) 9 = nI a)) = true := by decide +kernel
theorem bitsL_all : (List.range 512).all (fun a => decide (bitsL (nI a) = bcn (nI a))) = true := by decide +kernel
theorem orS_eq {a : Nat} (h : a < 512) : orS (fun k => bI (nI a) (nI k)) 9 = nI a := of_decide_eq_true (all_of orS_all h)
theorem orD_eq {a : Nat} (h : a < 512) : orD (fun k => bI (nI a) (nI k)) 9 = nI a := of_decide_eq_true (all_of orD_all h)
theorem bitsL_eq {a : Nat} (h : a < 512) : bitsL (nI a) = bcn (nI a) := of_decide_eq_true (all_of bitsL_all h)
theorem okg_a {B : Nat} {g : Nat → Nat → Int32} (h : OKg B g) : ∃ a, a < 512 ∧ g 0 0 = nI a := by obtain ⟨-, ⟨f, hR⟩, -⟩ := h; exact hR.1.2.1
theorem okg_b {B : Nat} {g : Nat → Nat → Int32} (h : OKg B g) : ∃ a, a < 512 ∧ g 0 1 = nI a := by obtain ⟨-, ⟨f, hR⟩, -⟩ := h; exact hR.1.2.2.1
theorem orS_fo {B : Nat} {g : Nat → Nat → Int32} (h : OKg B g) : orS (fun k => bI (g 0 0) (nI k)) 9 = g 0 0 := by
  obtain ⟨a, ha, e⟩ := okg_a h
  rw [e]; exact orS_eq ha
theorem bI_01 (x k : Int32) : bI x k = nI 0 ∨ bI x k = nI 1 := by
  obtain ⟨j, hj, e⟩ := pk_andE (x >>> (k &&& 31)) (m := nI 1) 1 (by decide)
  show (x >>> (k &&& 31)) &&& nI 1 = nI 0 ∨ (x >>> (k &&& 31)) &&& nI 1 = nI 1
  rw [e]
  rcases (show j = 0 ∨ j = 1 by omega) with rfl | rfl
  · exact Or.inl rfl
  · exact Or.inr rfl
theorem ly_1 (fo : Int32) (k : Nat) : (pw fo k).1 + (pw fo k).2 * (nI 1 - bI fo (nI k)) = (pw fo (k + 1)).1 := by
  rcases bI_01 fo (nI k) with h | h
  · rw [pw_f (by rw [h]; decide), h, show nI 1 - nI 0 = 1 by decide, Int32.mul_one]
  · rw [pw_t h, h, show nI 1 - nI 1 = 0 by decide, Int32.mul_zero, Int32.add_zero]
theorem ly_2 (fo : Int32) (k : Nat) : (pw fo k).2 - nI 2 * (pw fo k).2 * bI fo (nI k) = (pw fo (k + 1)).2 := by
  rcases bI_01 fo (nI k) with h | h
  · rw [pw_f (by rw [h]; decide), h, show nI 0 = 0 by decide, Int32.mul_zero, Int32.sub_zero]
  · rw [pw_t h, h, show nI 1 = 1 by decide, Int32.mul_one]
    rcases pw_way fo k with w | w
    · rw [w]; show nI 1 - nI 2 * nI 1 = -nI 1; decide
    · rw [w]; show (-1 : Int32) - nI 2 * (-1) = -(-1); decide
/-- the places of the panels -/
abbrev atF (fo : Int32) (j : Nat) : Int32 := (pw fo j).1
def lyF (fo : Int32) (f : Nat → Int32) (k : Nat) : Nat → Int32 := fun j => if j < k then (pw fo j).1 else f j
theorem lyF_1 {fo : Int32} {f : Nat → Int32} (h : f 0 = nI 0) : f = lyF fo f 1 := by
  funext j; unfold lyF
  by_cases hj : j < 1
  · rw [if_pos hj, show j = 0 by omega, h]; rfl
  · rw [if_neg hj]
theorem lyF_s (fo : Int32) (f : Nat → Int32) (k : Nat) {v : Int32} (h : v = (pw fo k).1) : upd (lyF fo f k) k v = lyF fo f (k + 1) := by
  rw [h]
  funext j; unfold upd lyF
  by_cases hj : j = k
  · rw [if_pos hj, if_pos (by omega), hj]
  · rw [if_neg hj]
    by_cases h2 : j < k
    · rw [if_pos h2, if_pos (by omega)]
    · rw [if_neg h2, if_neg (by omega)]
theorem lyF_at {fo : Int32} {f : Nat → Int32} {k j : Nat} (h : j < k) : lyF fo f k j = (pw fo j).1 := if_pos h
set_option maxHeartbeats 4000000 in
set_option maxRecDepth 100000 in
theorem c_L_low (l : Launch) (G : GG) (v : Int32) (n : Nat) (hn1 : 0 < n) (hn9 : n < 2 ^ 30) : RD l yL_low wsL_low 1 G [.int v, .int (nI n)] (([] : va_W)) (some (.int (nI (lowN v n)))) := by
  refine rd_of (cc := cL_low) (maxL := 2) (ret := (some .int)) (by decide) rfl (Nat.le_of_ble_eq_true rfl) ?_
  intro pG eG s mG below meth cG hx hb hr hml hts hown hlocks hP hK hN ls hl
  have hown : s.vm.findClass RL = some mG.cls := hown
  have hl : lv_has ls 2 [(0, .int v), (1, .int (nI n))] := hl
  have hn0 : ¬ nI n = 0 := fun h => absurd (nIe (show nI n = nI 0 from h) (by omega) (by decide)) (by omega)
  refine lv_iload_n hx hb dL_low_0 rfl (lv_at hl 0 rfl) ?_
  refine lv_ldc hx hb hown (hts (.constant RL 8 (2147483647)) (List.mem_of_getElem? (i := 1) rfl)) dL_low_1 ?_
  refine lv_iand hx hb dL_low_3 ?_
  obtain ⟨r9, hr9, er9⟩ := pk_andE v (m := (2147483647)) 31 (by decide)
  refine lv_cgi (y := nI r9) er9 ?_
  refine lv_iload_n hx hb dL_low_4 rfl (lv_at hl 1 rfl) ?_
  refine lv_irem hx hb dL_low_5 hn0 ?_
  refine lv_cgi (y := nI (r9 % n)) (pk_rem (by omega) (by omega) (by omega)) ?_
  exact rd_iret hx hb hr hlocks (by unfold lowN; rw [er9]; show nI (r9 % n) = nI ((nI r9).toNatClampNeg % n); rw [nI_clamp hr9]) dL_low_6

set_option maxHeartbeats 4000000 in
set_option maxRecDepth 100000 in
theorem c_L_bits (l : Launch) (G : GG) (x : Int32) : RD l yL_bits wsL_bits 1 G [.int x] (([] : va_W)) (some (.int (bitsL x))) := by
  refine rd_of (cc := cL_bits) (maxL := 3) (ret := (some .int)) (by decide) rfl (Nat.le_of_ble_eq_true rfl) ?_
  intro pG eG s mG below meth cG hx hb hr hml hts hown hlocks hP hK hN ls hl
  have hown : s.vm.findClass RL = some mG.cls := hown
  have hl : lv_has ls 3 [(0, .int x)] := hl
  refine lv_iconst (v := nI 0) hx hb dL_bits_0 (by decide) ?_
  refine lv_istore_n (lv' := [(1, .int (nI 0)), (0, .int x)]) hx hb dL_bits_1 rfl hl (by decide) rfl (fun ls hl => ?_)
  refine lv_iconst (v := nI 0) hx hb dL_bits_2 (by decide) ?_
  refine lv_istore_n (lv' := [(2, .int (nI 0)), (1, .int (nI 0)), (0, .int x)]) hx hb dL_bits_3 rfl hl (by decide) rfl (fun ls hl => ?_)
  have L4 : ∀ (fu4 : Nat) (k : Nat) (hk : k ≤ 10), 11 ≤ k + fu4 → ∀ ls : Array Slot, lv_has ls 3 [(0, .int x), (1, .int (sumI (fun k => bI x (nI k)) k)), (2, .int (nI k))] → W pG l eG (RM 1 0 0) s mG ([.int x] : List Value).toArray below meth cG s.heap [] 0 0 (MQ below (rQ (some (.int (bitsL x)))) ([.int x] : List Value).toArray s 0 0 (fun _ => False)) (F0 mG 4 ls []) := by
    intro fu4
    induction fu4 with
    | zero => intro k hk hfu4; exact absurd hfu4 (by omega)
    | succ fu4 ih4 =>
      intro k hk hfu4 ls hl
      refine lv_iload_n hx hb dL_bits_4 rfl (lv_at hl 2 rfl) ?_
      refine lv_bipush (v := nI 10) hx hb dL_bits_5 (by decide) ?_
      refine lv_icmp_ge (tgt := 24) hx hb dL_bits_7 (by decide) (fun c_7 => ?_) (fun c_7 => ?_)
      · obtain rfl : k = 10 := by have := fe c_7 (by omega) (by omega); omega
        refine lv_iload_n hx hb dL_bits_24 rfl (lv_at hl 1 rfl) ?_
        exact rd_iret hx hb hr hlocks (by rfl) dL_bits_25
      · have hk1 : k < 10 := fl c_7 (by omega) (by omega)
        refine lv_iload_n hx hb dL_bits_10 rfl (lv_at hl 1 rfl) ?_
        refine lv_iload_n hx hb dL_bits_11 rfl (lv_at hl 0 rfl) ?_
        refine lv_iload_n hx hb dL_bits_12 rfl (lv_at hl 2 rfl) ?_
        refine lv_ishr hx hb dL_bits_13 ?_
        refine lv_iconst (v := nI 1) hx hb dL_bits_14 (by decide) ?_
        refine lv_iand hx hb dL_bits_15 ?_
        refine lv_iadd hx hb dL_bits_16 ?_
        refine lv_istore_n (lv' := [(1, .int ((sumI (fun k => bI x (nI k)) k) + ((x >>> ((nI k) &&& 31)) &&& (nI 1)))), (0, .int x), (2, .int (nI k))]) hx hb dL_bits_17 rfl hl (by decide) rfl (fun ls hl => ?_)
        refine lv_iinc (v := nI (k + 1)) (lv' := [(2, .int (nI (k + 1))), (1, .int ((sumI (fun k => bI x (nI k)) k) + ((x >>> ((nI k) &&& 31)) &&& (nI 1)))), (0, .int x)]) hx hb dL_bits_18 hl (k := 2) rfl (iincN k) (by decide) rfl (fun ls hl => ?_)
        refine lv_goto (tgt := 4) hx hb dL_bits_21 (by decide) ?_
        exact ih4 (k + 1) (by omega) (by omega) ls (lv_as (l1 := [(0, .int x), (1, .int ((sumI (fun k => bI x (nI k)) k) + ((x >>> ((nI k) &&& 31)) &&& (nI 1)))), (2, .int (nI (k + 1)))]) (lv_sub hl [2, 1, 0] rfl) (by rfl))
  exact L4 11 0 (by omega) (by omega) ls (lv_as (l1 := [(0, .int x), (1, .int (nI 0)), (2, .int (nI 0))]) (lv_sub hl [2, 1, 0] rfl) (by rfl))

set_option maxHeartbeats 4000000 in
set_option maxRecDepth 100000 in
theorem k_folded (l : Launch) (G : GG) (sz : Nat) (X : AD) (Z : ZZ) (u : CU) {B : Nat} (hZ : OKg B Z.1) (hz : Z.2.2.2.1 ≤ 6) (hu : CV Z.1 u) : WRi l yL_folded wsL_folded 6 G [.ref X.1] (cT G X Z u) sz (S := CU) (fun r u9 => r = Z.1 0 0 ∧ CV Z.1 u9) (fun u9 => cT G X Z u9) 0 0 := by
  refine wr_of (l := l) (y := yL_folded) (w := wsL_folded) (d := 6) (G := G) (As := [.ref X.1]) (sz := sz) (mc := 0) (ms := 0) (cc := cL_folded) (maxL := 3) (ret := (some .int)) (Qc := fun Ar => wQi G (S := CU) (fun r u9 => r = Z.1 0 0 ∧ CV Z.1 u9) (fun u9 => cT G X Z u9) Ar) (by decide) rfl (Nat.le_of_ble_eq_true rfl) ?_
  intro pG eG s mG below meth cG hsz hx hb hr hml hts hown hlocks hnm hP hK hN Ar hD hA hS ls hl
  have hown : s.vm.findClass RL = some mG.cls := hown
  have hP : PP G (cT G X Z u) s.heap := hP
  have hD : va_D Ar (cT G X Z u) := hD
  have hl : lv_has ls 3 [(0, .ref X.1)] := hl
  refine lv_iconst (v := nI 0) hx hb dL_folded_0 (by decide) ?_
  refine lv_istore_n (lv' := [(1, .int (nI 0)), (0, .ref X.1)]) hx hb dL_folded_1 rfl hl (by decide) rfl (fun ls hl => ?_)
  refine lv_iconst (v := nI 0) hx hb dL_folded_2 (by decide) ?_
  refine lv_istore_n (lv' := [(2, .int (nI 0)), (1, .int (nI 0)), (0, .ref X.1)]) hx hb dL_folded_3 rfl hl (by decide) rfl (fun ls hl => ?_)
  have L4 : ∀ (fu4 : Nat) (k : Nat) (u9 : CU) (hk : k ≤ 9) (hu9 : CV Z.1 u9), 10 ≤ k + fu4 → ∀ (H : Heap) (locs : List Loc), PP G (cT G X Z u9) H → va_D Ar (cT G X Z u9) → va_S Ar s.heap H locs → ∀ ls : Array Slot, lv_has ls 3 [(0, .ref X.1), (1, .int (orS (fun k => bI (Z.1 0 0) (nI k)) k)), (2, .int (nI k))] → W pG l eG (RM 6 0 0) s mG ([.ref X.1] : List Value).toArray below meth cG H locs 0 0 (MQ below (wQi G (S := CU) (fun r u9 => r = Z.1 0 0 ∧ CV Z.1 u9) (fun u9 => cT G X Z u9) Ar) ([.ref X.1] : List Value).toArray s 0 0 Ar) (F0 mG 4 ls []) := by
    intro fu4
    induction fu4 with
    | zero => intro k u9 hk hu9 hfu4; exact absurd hfu4 (by omega)
    | succ fu4 ih4 =>
      intro k u9 hk hu9 hfu4 H locs hP hD hS ls hl
      refine lv_iload_n hx hb dL_folded_4 rfl (lv_at hl 2 rfl) ?_
      refine lv_bipush (v := nI 9) hx hb dL_folded_5 (by decide) ?_
      refine lv_icmp_ge (tgt := 27) hx hb dL_folded_7 (by decide) (fun c_7 => ?_) (fun c_7 => ?_)
      · obtain rfl : k = 9 := by have := fe c_7 (by omega) (by omega); omega
        refine lv_iload_n hx hb dL_folded_27 rfl (lv_at hl 1 rfl) ?_
        exact wr_iret (G := G) (S := CU) u9 hx hb hr hlocks hP hD hS (Nat.le_of_ble_eq_true rfl) (Nat.le_of_ble_eq_true rfl) (by exact ⟨orS_fo hZ, hu9⟩) dL_folded_28
      · have hk1 : k < 9 := fl c_7 (by omega) (by omega)
        refine lv_iload_n hx hb dL_folded_10 rfl (lv_at hl 1 rfl) ?_
        refine lv_aload_n hx hb dL_folded_11 rfl (lv_at hl 0 rfl) ?_
        refine lv_iload_n hx hb dL_folded_12 rfl (lv_at hl 2 rfl) ?_
        refine lv_iconst (v := nI 0) hx hb dL_folded_13 (by decide) ?_
        refine wr_woi (mid := cT G X Z u9) (va_runV (As := [.int (nI k), .int (nI 0)]) (rest := [.int (orS (fun k => bI (Z.1 0 0) (nI k)) k)]) ⟨hx, hb, hml, hown, hts⟩ (k_cr0 l G _ X Z u9 hZ hz hu9 k (by omega)) (cwV 2 hts gL_folded_X6_creaseOf rfl rfl rfl (by decide +kernel) ⟨Nat.le_of_ble_eq_true rfl, Nat.le_of_ble_eq_true rfl⟩) (wVw (mid := cT G X Z u9) (va_recv (ws := cT G X Z u9) hK hP (ci := 5) (q0 := 0) rfl rfl) hK hN hP hD) rfl rfl hl.1 rfl (lv_room (Nat.le_of_ble_eq_true rfl)) dL_folded_14 ⟨Nat.le_of_ble_eq_true rfl, Nat.le_of_ble_eq_true rfl⟩) hP hD hS hA (fun r u_1 H locs hw hP9 hD9 hS => ?_)
        obtain ⟨rfl, hvu_1⟩ := hw
        have hP : PP G (cT G X Z u_1) _ := hP9
        have hD : va_D Ar (cT G X Z u_1) := hD9
        refine lv_iload_n hx hb dL_folded_17 rfl (lv_at hl 2 rfl) ?_
        refine lv_ishl hx hb dL_folded_18 ?_
        refine lv_ior hx hb dL_folded_19 ?_
        refine lv_istore_n (lv' := [(1, .int ((orS (fun k => bI (Z.1 0 0) (nI k)) k) ||| ((bI (Z.1 0 0) (nI k)) <<< ((nI k) &&& 31)))), (0, .ref X.1), (2, .int (nI k))]) hx hb dL_folded_20 rfl hl (by decide) rfl (fun ls hl => ?_)
        refine lv_iinc (v := nI (k + 1)) (lv' := [(2, .int (nI (k + 1))), (1, .int ((orS (fun k => bI (Z.1 0 0) (nI k)) k) ||| ((bI (Z.1 0 0) (nI k)) <<< ((nI k) &&& 31)))), (0, .ref X.1)]) hx hb dL_folded_21 hl (k := 2) rfl (iincN k) (by decide) rfl (fun ls hl => ?_)
        refine lv_goto (tgt := 4) hx hb dL_folded_24 (by decide) ?_
        exact ih4 (k + 1) u_1 (by omega) (by exact hvu_1) (by omega) _ _ hP hD hS ls (lv_as (l1 := [(0, .ref X.1), (1, .int ((orS (fun k => bI (Z.1 0 0) (nI k)) k) ||| ((bI (Z.1 0 0) (nI k)) <<< ((nI k) &&& 31)))), (2, .int (nI (k + 1)))]) (lv_sub hl [2, 1, 0] rfl) (by rfl))
  exact L4 10 0 u (by omega) (by exact hu) (by omega) _ _ hP hD hS ls (lv_as (l1 := [(0, .ref X.1), (1, .int (nI 0)), (2, .int (nI 0))]) (lv_sub hl [2, 1, 0] rfl) (by rfl))

set_option maxHeartbeats 4000000 in
set_option maxRecDepth 100000 in
theorem k_lay (l : Launch) (G : GG) (sz : Nat) (b : Nat) (f : Nat → Int32) (hf : f 0 = nI 0) (fo : Int32) : WRv l yL_lay wsL_lay 1 G [.ref b, .int fo] ([(b, .inl (G.2.1, 10, .inl f))]) sz (S := Unit) (fun _ => True) (fun _ => [(b, .inl (G.2.1, 10, .inl (atF fo)))]) 0 0 := by
  refine wr_of (l := l) (y := yL_lay) (w := wsL_lay) (d := 1) (G := G) (As := [.ref b, .int fo]) (sz := sz) (mc := 0) (ms := 0) (cc := cL_lay) (maxL := 5) (ret := none) (Qc := fun Ar => wQv G (S := Unit) (fun _ => True) (fun _ => [(b, .inl (G.2.1, 10, .inl (atF fo)))]) Ar) (by decide) rfl (Nat.le_of_ble_eq_true rfl) ?_
  intro pG eG s mG below meth cG hsz hx hb hr hml hts hown hlocks hnm hP hK hN Ar hD hA hS ls hl
  have hown : s.vm.findClass RL = some mG.cls := hown
  have hP : PP G ([(b, .inl (G.2.1, 10, .inl f))]) s.heap := hP
  have hD : va_D Ar ([(b, .inl (G.2.1, 10, .inl f))]) := hD
  have hl : lv_has ls 5 [(0, .ref b), (1, .int fo)] := hl
  refine lv_iconst (v := nI 1) hx hb dL_lay_0 (by decide) ?_
  refine lv_istore_n (lv' := [(2, .int (nI 1)), (0, .ref b), (1, .int fo)]) hx hb dL_lay_1 rfl hl (by decide) rfl (fun ls hl => ?_)
  refine lv_iconst (v := nI 1) hx hb dL_lay_2 (by decide) ?_
  refine lv_istore_n (lv' := [(3, .int (nI 1)), (2, .int (nI 1)), (0, .ref b), (1, .int fo)]) hx hb dL_lay_3 rfl hl (by decide) rfl (fun ls hl => ?_)
  have L4 : ∀ (fu4 : Nat) (k : Nat) (hk : k ≤ 9), 10 ≤ k + fu4 → ∀ (H : Heap) (locs : List Loc), PP G ([(b, .inl (G.2.1, 10, .inl (lyF fo f (k + 1))))]) H → va_D Ar ([(b, .inl (G.2.1, 10, .inl (lyF fo f (k + 1))))]) → va_S Ar s.heap H locs → ∀ ls : Array Slot, lv_has ls 5 [(0, .ref b), (1, .int fo), (2, .int ((pw fo k).2)), (3, .int (nI (k + 1)))] → W pG l eG (RM 1 0 0) s mG ([.ref b, .int fo] : List Value).toArray below meth cG H locs 0 0 (MQ below (wQv G (S := Unit) (fun _ => True) (fun _ => [(b, .inl (G.2.1, 10, .inl (atF fo)))]) Ar) ([.ref b, .int fo] : List Value).toArray s 0 0 Ar) (F0 mG 4 ls []) := by
    intro fu4
    induction fu4 with
    | zero => intro k hk hfu4; exact absurd hfu4 (by omega)
    | succ fu4 ih4 =>
      intro k hk hfu4 H locs hP hD hS ls hl
      refine lv_iload_n hx hb dL_lay_4 rfl (lv_at hl 3 rfl) ?_
      refine lv_bipush (v := nI 10) hx hb dL_lay_5 (by decide) ?_
      refine lv_icmp_ge (tgt := 49) hx hb dL_lay_7 (by decide) (fun c_7 => ?_) (fun c_7 => ?_)
      · obtain rfl : k = 9 := by have := fe c_7 (by omega) (by omega); omega
        exact wr_vret (G := G) (S := Unit) () hx hb hr hlocks (P_cong (g := atF fo) hP 0 (a := b) (cA := G.2.1) (n := 10) rfl (fun j hj => lyF_at hj)) (D_cong (g := atF fo) hD 0 (a := b) (cA := G.2.1) (n := 10) rfl) hS (Nat.le_of_ble_eq_true rfl) (Nat.le_of_ble_eq_true rfl) (by trivial) dL_lay_49
      · have hk1 : k < 9 := by have := fl c_7 (by omega) (by omega); omega
        refine lv_iload_n hx hb dL_lay_10 rfl (lv_at hl 1 rfl) ?_
        refine lv_iload_n hx hb dL_lay_11 rfl (lv_at hl 3 rfl) ?_
        refine lv_iconst (v := nI 1) hx hb dL_lay_12 (by decide) ?_
        refine lv_isub hx hb dL_lay_13 ?_
        refine lv_cgi (y := nI ((k + 1) - 1)) (pk_sub (by omega)) ?_
        refine lv_cgi (y := nI k) (by rw [Nat.add_sub_cancel]) ?_
        refine lv_ishr hx hb dL_lay_14 ?_
        refine lv_iconst (v := nI 1) hx hb dL_lay_15 (by decide) ?_
        refine lv_iand hx hb dL_lay_16 ?_
        refine lv_istore (lv' := [(4, .int ((fo >>> ((nI k) &&& 31)) &&& (nI 1))), (0, .ref b), (1, .int fo), (2, .int ((pw fo k).2)), (3, .int (nI (k + 1)))]) hx hb dL_lay_17 hl (by decide) rfl (fun ls hl => ?_)
        refine lv_aload_n hx hb dL_lay_19 rfl (lv_at hl 1 rfl) ?_
        refine lv_iload_n hx hb dL_lay_20 rfl (lv_at hl 4 rfl) ?_
        refine lv_aload_n hx hb dL_lay_21 rfl (lv_at hl 1 rfl) ?_
        refine lv_iload_n hx hb dL_lay_22 rfl (lv_at hl 4 rfl) ?_
        refine lv_iconst (v := nI 1) hx hb dL_lay_23 (by decide) ?_
        refine lv_isub hx hb dL_lay_24 ?_
        refine lv_cgi (y := nI ((k + 1) - 1)) (pk_sub (by omega)) ?_
        refine lv_cgi (y := nI k) (by rw [Nat.add_sub_cancel]) ?_
        refine va_iald (D := G.1) (ws := [(b, .inl (G.2.1, 10, .inl (lyF fo f (k + 1))))]) hx hb hK hP 0 0 (n := 10) rfl rfl (by first | assumption | exact vp_in_nI (by omega) (by omega)) dL_lay_25 ?_
        refine lv_cgi (y := (lyF fo f (k + 1)) k) (by rw [nI_clamp (by omega)]) ?_
        refine lv_iload_n hx hb dL_lay_26 rfl (lv_at hl 3 rfl) ?_
        refine lv_iconst (v := nI 1) hx hb dL_lay_27 (by decide) ?_
        refine lv_iload hx hb dL_lay_28 (lv_at hl 0 rfl) ?_
        refine lv_isub hx hb dL_lay_30 ?_
        refine lv_imul hx hb dL_lay_31 ?_
        refine lv_iadd hx hb dL_lay_32 ?_
        refine va_iast (D := G.1) (ws := [(b, .inl (G.2.1, 10, .inl (lyF fo f (k + 1))))]) hx hb hK hP hD hS 0 0 (n := 10) rfl rfl (by first | assumption | exact vp_in_nI (by omega) (by omega)) dL_lay_33 (fun H locs hP hD hS => ?_)
        rw [nI_clamp (by omega)] at hP hD
        have hP : PP G ([(b, .inl (G.2.1, 10, .inl (upd (lyF fo f (k + 1)) (k + 1) (((lyF fo f (k + 1)) k) + (((pw fo k).2) * ((nI 1) - ((fo >>> ((nI k) &&& 31)) &&& (nI 1))))))))]) _ := hP
        have hD : va_D Ar ([(b, .inl (G.2.1, 10, .inl (upd (lyF fo f (k + 1)) (k + 1) (((lyF fo f (k + 1)) k) + (((pw fo k).2) * ((nI 1) - ((fo >>> ((nI k) &&& 31)) &&& (nI 1))))))))]) := hD
        refine lv_iload_n hx hb dL_lay_34 rfl (lv_at hl 3 rfl) ?_
        refine lv_iconst (v := nI 2) hx hb dL_lay_35 (by decide) ?_
        refine lv_iload_n hx hb dL_lay_36 rfl (lv_at hl 3 rfl) ?_
        refine lv_imul hx hb dL_lay_37 ?_
        refine lv_iload hx hb dL_lay_38 (lv_at hl 0 rfl) ?_
        refine lv_imul hx hb dL_lay_40 ?_
        refine lv_isub hx hb dL_lay_41 ?_
        refine lv_istore_n (lv' := [(2, .int (((pw fo k).2) - (((nI 2) * ((pw fo k).2)) * ((fo >>> ((nI k) &&& 31)) &&& (nI 1))))), (4, .int ((fo >>> ((nI k) &&& 31)) &&& (nI 1))), (0, .ref b), (1, .int fo), (3, .int (nI (k + 1)))]) hx hb dL_lay_42 rfl hl (by decide) rfl (fun ls hl => ?_)
        refine lv_iinc (v := nI ((k + 1) + 1)) (lv' := [(3, .int (nI ((k + 1) + 1))), (2, .int (((pw fo k).2) - (((nI 2) * ((pw fo k).2)) * ((fo >>> ((nI k) &&& 31)) &&& (nI 1))))), (4, .int ((fo >>> ((nI k) &&& 31)) &&& (nI 1))), (0, .ref b), (1, .int fo)]) hx hb dL_lay_43 hl (k := 4) rfl (iincN (k + 1)) (by decide) rfl (fun ls hl => ?_)
        refine lv_goto (tgt := 4) hx hb dL_lay_46 (by decide) ?_
        exact ih4 (k + 1) (by omega) (by omega) _ _ (PP_as hP (by rw [lyF_s fo f (k + 1) (by rw [lyF_at (by omega)]; exact ly_1 fo k)])) (D_as hD (by rw [lyF_s fo f (k + 1) (by rw [lyF_at (by omega)]; exact ly_1 fo k)])) hS ls (lv_as (l1 := [(0, .ref b), (1, .int fo), (2, .int (((pw fo k).2) - (((nI 2) * ((pw fo k).2)) * ((fo >>> ((nI k) &&& 31)) &&& (nI 1))))), (3, .int (nI ((k + 1) + 1)))]) (lv_sub hl [3, 4, 1, 0] rfl) (by rw [ly_2]))
  exact L4 10 0 (by omega) (by omega) _ _ (PP_as hP (by exact congrArg (fun F : Nat → Int32 => ([(b, .inl (G.2.1, 10, .inl F))] : va_W)) (lyF_1 hf))) (D_as hD (by exact congrArg (fun F : Nat → Int32 => ([(b, .inl (G.2.1, 10, .inl F))] : va_W)) (lyF_1 hf))) hS ls (lv_as (l1 := [(0, .ref b), (1, .int fo), (2, .int (nI 1)), (3, .int (nI 1))]) (lv_sub hl [2, 3, 1, 0] rfl) (by rfl))

/-! THE WORDS OF MY CONTRACTS: readers (the heap stays), writers (a world in, a world out), their calls -/
abbrev vwCl : List vw_C := [(RX0, TX0, 4), (RX1, TX1, 3), (RX2, TX2, 2), (RX4, TX4, 2), (RX5, TX5, 9), (RX6, TX6, 5)]
abbrev GG : Type := va_G × ClassId × ClassId × ClassId × ClassId
abbrev TY (G : GG) : List (ClassId × FieldType) := [(G.2.1, .int), (G.2.1, .int), (G.2.2.2.1, .object "CreaseMaps$State"), (G.2.1, .int)]
abbrev KK (G : GG) (U : State) : Prop := va_K G.1 vwCl (TY G) U
abbrev PP (G : GG) (ws : va_W) (H : Heap) : Prop := va_P G.1 vwCl ws H
/-- the nest words, and the class of the arrays of States -/
def NW (U : State) : Prop := va_Nw (.methodLinkNest RX5 20 yX0_init RX6) U ∧ va_Nw (.methodLinkNest RX6 29 yX4_init RX6) U ∧ va_Nw (.methodLinkNest RX6 36 yX1_init RX6) U ∧ va_Nw (.methodLinkNest RX1 44 yX6_bit RX6) U ∧ va_Nw (.methodLinkNest RX5 32 yX6_has RX6) U ∧ va_AO RX5 U
theorem NW.warm {s U : State} (hW : s.WarmedH U.vm) (h : NW s) : NW U := ⟨va_Nw.warmM hW h.1, va_Nw.warmM hW h.2.1, va_Nw.warmM hW h.2.2.1, va_Nw.warmM hW h.2.2.2.1, va_Nw.warmM hW h.2.2.2.2.1, h.2.2.2.2.2.moved hW.alike⟩
theorem NW.same {u U : State} (hv : u.vm = U.vm) (h : NW u) : NW U := ⟨va_Nw.same rfl hv h.1, va_Nw.same rfl hv h.2.1, va_Nw.same rfl hv h.2.2.1, va_Nw.same rfl hv h.2.2.2.1, va_Nw.same rfl hv h.2.2.2.2.1, h.2.2.2.2.2.moved (hv ▸ Vm.Alike.refl u.vm)⟩
abbrev RM (d mc ms : Nat) : Room := { frames := d, cells := mc, slots := ms, locals := 40 * d }
def rQ (v : Option Value) : Array Value → State → Outcome → State → Prop := fun _ st o t => o = .returned v ∧ t.heap = st.heap
abbrev rP (G : GG) (As : List Value) (ws : va_W) : Array Value → State → Prop := va_Pc As (fun U => PP G ws U.heap ∧ KK G U ∧ NW U)
abbrev RD (l : Launch) (y : MethodName) (w : List Cond) (d : Nat) (G : GG) (As : List Value) (ws : va_W) (v : Option Value) : Prop :=
  Met l y w (RM d 0 0) (rP G As ws) (rQ v) 0 0 (fun _ => False)
abbrev wP (G : GG) (As : List Value) (ws : va_W) (sz : Nat) : Array Value → State → Prop := va_Pc As (fun U => U.heap.size = sz ∧ PP G ws U.heap ∧ KK G U ∧ NW U ∧ va_D (fun _ => True) ws)
abbrev wB (G : GG) (A : Nat → Prop) {S : Type} (out : S → va_W) : S → State → Prop := fun u t => PP G (out u) t.heap ∧ va_D A (out u)
abbrev wQi (G : GG) {S : Type} (post : Int32 → S → Prop) (out : S → va_W) (A : Nat → Prop) : Array Value → State → Outcome → State → Prop := va_Qi post (wB G A out) A
abbrev wQv (G : GG) {S : Type} (post : S → Prop) (out : S → va_W) (A : Nat → Prop) : Array Value → State → Outcome → State → Prop := va_Qv post (wB G A out) A
abbrev wQl (G : GG) {S : Type} (post : Int64 → S → Prop) (out : S → va_W) (A : Nat → Prop) : Array Value → State → Outcome → State → Prop := va_Ql post (wB G A out) A
abbrev wQd (G : GG) {S : Type} (post : UInt64 → S → Prop) (out : S → va_W) (A : Nat → Prop) : Array Value → State → Outcome → State → Prop := va_Qd post (wB G A out) A
abbrev WRi (l : Launch) (y : MethodName) (w : List Cond) (d : Nat) (G : GG) (As : List Value) (ws : va_W) (sz : Nat) {S : Type} (post : Int32 → S → Prop) (out : S → va_W) (mc ms : Nat) : Prop :=
  Met l y w (RM d mc ms) (wP G As ws sz) (wQi G post out (va_A ws sz)) mc ms (va_A ws sz)
abbrev WRv (l : Launch) (y : MethodName) (w : List Cond) (d : Nat) (G : GG) (As : List Value) (ws : va_W) (sz : Nat) {S : Type} (post : S → Prop) (out : S → va_W) (mc ms : Nat) : Prop :=
  Met l y w (RM d mc ms) (wP G As ws sz) (wQv G post out (va_A ws sz)) mc ms (va_A ws sz)
abbrev WRd (l : Launch) (y : MethodName) (w : List Cond) (d : Nat) (G : GG) (As : List Value) (ws : va_W) (sz : Nat) {S : Type} (post : UInt64 → S → Prop) (out : S → va_W) (mc ms : Nat) : Prop :=
  Met l y w (RM d mc ms) (wP G As ws sz) (wQd G post out (va_A ws sz)) mc ms (va_A ws sz)
/-- the locals by another list that is the same one -/
theorem lv_as {ls : Array Slot} {n : Nat} {l1 l2 : List (Nat × Value)} (h : lv_has ls n l1) (e : l1 = l2) : lv_has ls n l2 := e ▸ h
theorem PP_as {G : GG} {w1 w2 : va_W} {H : Heap} (h : PP G w1 H) (e : w1 = w2) : PP G w2 H := e ▸ h
theorem D_as {A : Nat → Prop} {w1 w2 : va_W} (h : va_D A w1) (e : w1 = w2) : va_D A w2 := e ▸ h
/-- worlds by their members -/
theorem P_mem {G : GG} {ws ws' : va_W} {H : Heap} (h : PP G ws H) (hs : ∀ q ∈ ws', q ∈ ws) : PP G ws' H := by
  intro k q hk
  obtain ⟨i, hi⟩ := List.getElem?_of_mem (hs q (List.mem_of_getElem? hk))
  exact h i q hi
theorem P_mid {G : GG} {pre mid suf : va_W} {H : Heap} (h : PP G (pre ++ (mid ++ suf)) H) : PP G mid H :=
  P_mem h (fun q hq => List.mem_append_right _ (List.mem_append_left _ hq))
theorem P_app {G : GG} {a b : va_W} {H : Heap} (h : PP G a H) (h2 : PP G b H) : PP G (a ++ b) H := by
  intro k q hk
  rcases List.mem_append.mp (List.mem_of_getElem? hk) with hm | hm
  · obtain ⟨i, hi⟩ := List.getElem?_of_mem hm; exact h i q hi
  · obtain ⟨i, hi⟩ := List.getElem?_of_mem hm; exact h2 i q hi
theorem D_iff {A : Nat → Prop} {ws : va_W} : va_D A ws ↔ (ws.map Prod.fst).Nodup ∧ ∀ q ∈ ws, A q.1 := by
  constructor
  · rintro ⟨h1, h2⟩
    refine ⟨List.pairwise_iff_getElem.mpr ?_, fun q hq => ?_⟩
    · intro i j hi hj hij e
      rw [List.length_map] at hi hj
      rw [List.getElem_map, List.getElem_map] at e
      have := h1 i j _ _ (List.getElem?_eq_getElem hi) (List.getElem?_eq_getElem hj) e
      omega
    · obtain ⟨i, hi⟩ := List.getElem?_of_mem hq
      exact h2 i q hi
  · rintro ⟨h1, h2⟩
    refine ⟨fun i j p q hp hq e => ?_, fun k q hk => h2 q (List.mem_of_getElem? hk)⟩
    obtain ⟨hi, ei⟩ := List.getElem?_eq_some_iff.mp hp
    obtain ⟨hj, ej⟩ := List.getElem?_eq_some_iff.mp hq
    have h3 := List.pairwise_iff_getElem.mp h1
    rcases Nat.lt_trichotomy i j with h | h | h
    · exact absurd (by rw [List.getElem_map, List.getElem_map, ei, ej]; exact e) (h3 i j (by rw [List.length_map]; exact hi) (by rw [List.length_map]; exact hj) h)
    · exact h
    · exact absurd (by rw [List.getElem_map, List.getElem_map, ei, ej]; exact e.symm) (h3 j i (by rw [List.length_map]; exact hj) (by rw [List.length_map]; exact hi) h)
theorem D_perm {A : Nat → Prop} {ws ws' : va_W} (h : va_D A ws) (hp : ws.Perm ws') : va_D A ws' := by
  rw [D_iff] at h ⊢
  exact ⟨(hp.map _).nodup_iff.mp h.1, fun q hq => h.2 q (hp.mem_iff.mpr hq)⟩
theorem P_perm {G : GG} {ws ws' : va_W} {H : Heap} (h : PP G ws H) (hp : ws.Perm ws') : PP G ws' H := P_mem h (fun q hq => hp.mem_iff.mpr hq)
theorem D_app {A : Nat → Prop} {a b : va_W} : va_D A (a ++ b) ↔ va_D A a ∧ va_D A b ∧ ∀ x ∈ a, ∀ y ∈ b, x.1 ≠ y.1 := by
  simp only [D_iff, List.map_append, List.nodup_append, List.mem_append, List.mem_map]
  constructor
  · rintro ⟨⟨h1, h2, h3⟩, h4⟩
    exact ⟨⟨h1, fun q hq => h4 q (Or.inl hq)⟩, ⟨h2, fun q hq => h4 q (Or.inr hq)⟩, fun x hx y hy => h3 _ ⟨x, hx, rfl⟩ _ ⟨y, hy, rfl⟩⟩
  · rintro ⟨⟨h1, h2⟩, ⟨h3, h4⟩, h5⟩
    refine ⟨⟨h1, h3, ?_⟩, fun q hq => hq.elim (h2 q) (h4 q)⟩
    rintro _ ⟨x, hx, rfl⟩ _ ⟨y, hy, rfl⟩
    exact h5 x hx y hy
theorem D_mid {A : Nat → Prop} {pre mid suf : va_W} (h : va_D A (pre ++ (mid ++ suf))) : va_D A mid := (D_app.mp (D_app.mp h).2.1).1
/-- behind a call: the cells ahead, the callee's world, the cells behind -/
theorem f_join {G : GG} {A0 : Nat → Prop} {pre mid suf w1 : va_W} {H H1 : Heap} (hP : PP G (pre ++ (mid ++ suf)) H) (hD : va_D A0 (pre ++ (mid ++ suf)))
    (hk : ∀ q : Nat, q < H.size → ¬ va_A mid H.size q → H1[q]? = H[q]?) (hF : ∀ q, va_A mid H.size q → A0 q) (hP1 : PP G w1 H1) (hD1 : va_D (va_A mid H.size) w1) :
    PP G (pre ++ (w1 ++ suf)) H1 ∧ va_D A0 (pre ++ (w1 ++ suf)) := by
  obtain ⟨dp, dms, apm⟩ := D_app.mp hD
  obtain ⟨dm, ds, ams⟩ := D_app.mp dms
  have old : ∀ (a : va_W), (∀ x ∈ a, x ∈ pre ++ (mid ++ suf)) → (∀ x ∈ a, ∀ y ∈ mid, x.1 ≠ y.1) → PP G a H1 ∧ ∀ x ∈ a, ∀ y ∈ w1, x.1 ≠ y.1 := by
    intro a ha hm
    have hn : ∀ x ∈ a, x.1 < H.size ∧ ¬ va_A mid H.size x.1 := by
      intro x hx
      obtain ⟨i, hi⟩ := List.getElem?_of_mem (ha x hx)
      have hl := (hP i x hi).lt
      refine ⟨hl, fun h => ?_⟩
      rcases h with ⟨k, e, h⟩ | h
      · exact hm x hx _ (List.mem_of_getElem? h) rfl
      · omega
    refine ⟨fun k x hx => ?_, fun x hx y hy e => ?_⟩
    · have hm2 := List.mem_of_getElem? hx
      obtain ⟨i, hi⟩ := List.getElem?_of_mem (ha x hm2)
      exact (hP i x hi).kept (hk x.1 (hn x hm2).1 (hn x hm2).2)
    · obtain ⟨j, hj⟩ := List.getElem?_of_mem hy
      exact (hn x hx).2 (e ▸ hD1.2 j y hj)
  have op := old pre (fun x hx => List.mem_append_left _ hx) (fun x hx y hy => apm x hx y (List.mem_append_left _ hy))
  have os := old suf (fun x hx => List.mem_append_right _ (List.mem_append_right _ hx)) (fun x hx y hy => (ams y hy x hx).symm)
  refine ⟨P_app op.1 (P_app hP1 os.1), D_app.mpr ⟨dp, D_app.mpr ⟨hD1.weaken (fun k q _ h => hF q.1 h), ds, fun x hx y hy => (os.2 y hy x hx).symm⟩, fun x hx y hy => ?_⟩⟩
  rcases List.mem_append.mp hy with h | h
  · exact op.2 x hx y h
  · exact apm x hx y (List.mem_append_right _ h)
theorem f_free {G : GG} {A0 : Nat → Prop} {pre mid suf : va_W} {H0 H : Heap} {locs : List Loc} (hD : va_D A0 (pre ++ (mid ++ suf))) (hS : va_S A0 H0 H locs) (hA : ∀ q, H0.size ≤ q → A0 q) : ∀ q, va_A mid H.size q → A0 q := by
  intro q h
  rcases h with ⟨k, e, h⟩ | h
  · exact (D_iff.mp (D_mid hD)).2 _ (List.mem_of_getElem? h)
  · exact hA q (Nat.le_trans hS.1 h)
section CA
variable {p : Program} {l : Launch} {e : Env} {R : Room} {s : State} {m : MethodId} {args : Array Value} {below : List Frame} {meth : Method} {c : Code} {H : Heap} {locs : List Loc} {cells slots : Nat} {Q : State → Prop}
variable {pc : Nat} {ls : Array Slot} {rest st0 : List Value} {a : Array Value} {A0 : Nat → Prop} {H0 : Heap} {mc ms : Nat} {G : GG}
theorem rPre_blind {As : List Value} {ws : va_W} : FrameBlind (rP G As ws) := fun _ U g mk q => ⟨q.1, q.2.1, va_K.moved (u := U) (U := U.calling g mk _) (Vm.Alike.refl U.vm) q.2.2.1, NW.same (u := U) (U := U.calling g mk _) rfl q.2.2.2⟩
theorem wPre_blind {As : List Value} {ws : va_W} {sz : Nat} : FrameBlind (wP G As ws sz) := fun _ U g mk q => ⟨q.1, q.2.1, q.2.2.1, va_K.moved (u := U) (U := U.calling g mk _) (Vm.Alike.refl U.vm) q.2.2.2.1, NW.same (u := U) (U := U.calling g mk _) rfl q.2.2.2.2.1, q.2.2.2.2.2⟩
theorem rS {As : List Value} {ws : va_W} (hK : KK G s) (hN : NW s) (hP : PP G ws H) : PreS s H (rP G As ws) As := ⟨rPre_blind, fun U hU hW => ⟨rfl, by rw [hU]; exact hP, va_K.moved hW.alike hK, hN.warm hW⟩⟩
theorem rV {As : List Value} {ws : va_W} {C : String} {b : Addr} (hr : ∃ cellB : Cell, H[b]? = some cellB ∧ cellB.vm.isStatics = false ∧ s.vm.findClass C = some cellB.cls) (hK : KK G s) (hN : NW s) (hP : PP G ws H) : PreV s H C b (rP G (.ref b :: As) ws) As := ⟨rPre_blind, hr, fun U hU hW => ⟨rfl, by rw [hU]; exact hP, va_K.moved hW.alike hK, hN.warm hW⟩⟩
theorem wS {As : List Value} {pre mid suf : va_W} (hK : KK G s) (hN : NW s) (hP : PP G (pre ++ (mid ++ suf)) H) (hD : va_D A0 (pre ++ (mid ++ suf))) : PreS s H (wP G As mid H.size) As :=
  ⟨wPre_blind, fun U hU hW => ⟨rfl, by rw [hU], by rw [hU]; exact P_mid hP, va_K.moved hW.alike hK, hN.warm hW, (D_mid hD).weaken (fun _ _ _ _ => trivial)⟩⟩
theorem wV {As : List Value} {pre mid suf : va_W} {C : String} {b : Addr} (hr : ∃ cellB : Cell, H[b]? = some cellB ∧ cellB.vm.isStatics = false ∧ s.vm.findClass C = some cellB.cls) (hK : KK G s) (hN : NW s) (hP : PP G (pre ++ (mid ++ suf)) H) (hD : va_D A0 (pre ++ (mid ++ suf))) : PreV s H C b (wP G (.ref b :: As) mid H.size) As :=
  ⟨wPre_blind, hr, fun U hU hW => ⟨rfl, by rw [hU], by rw [hU]; exact P_mid hP, va_K.moved hW.alike hK, hN.warm hW, (D_mid hD).weaken (fun _ _ _ _ => trivial)⟩⟩
/-- a reader has been called: its answer lies on the stack -/
theorem rd_go {v : Value} (hr : va_Run p l e R s m args below meth c H locs cells slots 0 0 (F0 m pc ls st0) rest (rQ (some v) a) (fun _ => False))
    (kk : W p l e R s m args below meth c H locs cells slots Q (F0 m (pc + 3) ls (v :: rest))) : W p l e R s m args below meth c H locs cells slots Q (F0 m pc ls st0) := by
  intro T hT X
  obtain ⟨w, st₀, t, T', L, h0, X', hL, e1, e2, ⟨hv, hk⟩, st⟩ := hr T hT X
  cases hv
  cases L with
  | cons q L => exact absurd (hL q List.mem_cons_self) id
  | nil =>
    rw [List.append_nil] at X'
    obtain ⟨t2, a1, b1⟩ := kk T' (by rw [e1, hk, h0]) X'
    exact ⟨t2, st t2 a1, b1⟩
theorem rd_iret {cc : ByteArray} {v v' : Int32} (hexec : p.tables.exec = Jvm.exec) (hb : c.code = cc) (hr : meth.sig.returnType = some .int) (hlocks : meth.locks = false) (hv : v = v') {pc : Nat} {ls : Array Slot} (hdg : decode cc pc = .ok (.ireturn, 1)) :
    W p l e R s m args below meth c s.heap [] 0 0 (MQ below (rQ (some (.int v'))) args s 0 0 (fun _ => False)) (F0 m pc ls [.int v]) :=
  W.iret hexec hb hr (fun t ht _ => ⟨by rw [hv], ht⟩) (fun q h => absurd h List.not_mem_nil) hdg hlocks
theorem rd_zret {cc : ByteArray} {v v' : Int32} (hexec : p.tables.exec = Jvm.exec) (hb : c.code = cc) (hr : meth.sig.returnType = some .boolean) (hlocks : meth.locks = false) (hn : narrow .boolean (.int v) = .int v) (hv : v = v') {pc : Nat} {ls : Array Slot} (hdg : decode cc pc = .ok (.ireturn, 1)) :
    W p l e R s m args below meth c s.heap [] 0 0 (MQ below (rQ (some (.int v'))) args s 0 0 (fun _ => False)) (F0 m pc ls [.int v]) :=
  W.zret hexec hb hr hn (fun t ht _ => ⟨by rw [hv], ht⟩) (fun q h => absurd h List.not_mem_nil) hdg hlocks
/-- a writer has been called -/
theorem wr_goi {S : Type} {post : Int32 → S → Prop} {out : S → va_W} {pre mid suf : va_W} (hr : va_Run p l e R s m args below meth c H locs cells slots mc ms (F0 m pc ls st0) rest (wQi G post out (va_A mid H.size) a) (va_A mid H.size))
    (hP : PP G (pre ++ (mid ++ suf)) H) (hD : va_D A0 (pre ++ (mid ++ suf))) (hS : va_S A0 H0 H locs) (hA : ∀ q, H0.size ≤ q → A0 q)
    (kk : ∀ (r : Int32) (u : S) (H1 : Heap) (locs1 : List Loc), post r u → PP G (pre ++ (out u ++ suf)) H1 → va_D A0 (pre ++ (out u ++ suf)) → va_S A0 H0 H1 locs1 → W p l e R s m args below meth c H1 locs1 (cells + mc) (slots + ms) Q (F0 m (pc + 3) ls (.int r :: rest))) :
    W p l e R s m args below meth c H locs cells slots Q (F0 m pc ls st0) := by
  have hF := f_free (G := G) hD hS hA
  refine va_calli hr hS (fun q _ h => hF q h) hF (fun r u t H1 locs1 ht hvm hw hB hz hk hS1 => ?_)
  obtain ⟨h1, h2⟩ := hB
  rw [ht] at h1
  obtain ⟨j1, j2⟩ := f_join hP hD hk hF h1 h2
  exact kk r u H1 locs1 hw j1 j2 hS1
theorem wr_gov {S : Type} {post : S → Prop} {out : S → va_W} {pre mid suf : va_W} (hr : va_Run p l e R s m args below meth c H locs cells slots mc ms (F0 m pc ls st0) rest (wQv G post out (va_A mid H.size) a) (va_A mid H.size))
    (hP : PP G (pre ++ (mid ++ suf)) H) (hD : va_D A0 (pre ++ (mid ++ suf))) (hS : va_S A0 H0 H locs) (hA : ∀ q, H0.size ≤ q → A0 q)
    (kk : ∀ (u : S) (H1 : Heap) (locs1 : List Loc), post u → PP G (pre ++ (out u ++ suf)) H1 → va_D A0 (pre ++ (out u ++ suf)) → va_S A0 H0 H1 locs1 → W p l e R s m args below meth c H1 locs1 (cells + mc) (slots + ms) Q (F0 m (pc + 3) ls rest)) :
    W p l e R s m args below meth c H locs cells slots Q (F0 m pc ls st0) := by
  have hF := f_free (G := G) hD hS hA
  refine va_callv hr hS (fun q _ h => hF q h) hF (fun u t H1 locs1 ht hvm hw hB hz hk hS1 => ?_)
  obtain ⟨h1, h2⟩ := hB
  rw [ht] at h1
  obtain ⟨j1, j2⟩ := f_join hP hD hk hF h1 h2
  exact kk u H1 locs1 hw j1 j2 hS1
theorem wr_gol {S : Type} {post : Int64 → S → Prop} {out : S → va_W} {pre mid suf : va_W} (hr : va_Run p l e R s m args below meth c H locs cells slots mc ms (F0 m pc ls st0) rest (wQl G post out (va_A mid H.size) a) (va_A mid H.size))
    (hP : PP G (pre ++ (mid ++ suf)) H) (hD : va_D A0 (pre ++ (mid ++ suf))) (hS : va_S A0 H0 H locs) (hA : ∀ q, H0.size ≤ q → A0 q)
    (kk : ∀ (r : Int64) (u : S) (H1 : Heap) (locs1 : List Loc), post r u → PP G (pre ++ (out u ++ suf)) H1 → va_D A0 (pre ++ (out u ++ suf)) → va_S A0 H0 H1 locs1 → W p l e R s m args below meth c H1 locs1 (cells + mc) (slots + ms) Q (F0 m (pc + 3) ls (.long r :: rest))) :
    W p l e R s m args below meth c H locs cells slots Q (F0 m pc ls st0) := by
  have hF := f_free (G := G) hD hS hA
  refine va_calll hr hS (fun q _ h => hF q h) hF (fun r u t H1 locs1 ht hvm hw hB hz hk hS1 => ?_)
  obtain ⟨h1, h2⟩ := hB
  rw [ht] at h1
  obtain ⟨j1, j2⟩ := f_join hP hD hk hF h1 h2
  exact kk r u H1 locs1 hw j1 j2 hS1
theorem wr_god {S : Type} {post : UInt64 → S → Prop} {out : S → va_W} {pre mid suf : va_W} (hr : va_Run p l e R s m args below meth c H locs cells slots mc ms (F0 m pc ls st0) rest (wQd G post out (va_A mid H.size) a) (va_A mid H.size))
    (hP : PP G (pre ++ (mid ++ suf)) H) (hD : va_D A0 (pre ++ (mid ++ suf))) (hS : va_S A0 H0 H locs) (hA : ∀ q, H0.size ≤ q → A0 q)
    (kk : ∀ (r : UInt64) (u : S) (H1 : Heap) (locs1 : List Loc), post r u → PP G (pre ++ (out u ++ suf)) H1 → va_D A0 (pre ++ (out u ++ suf)) → va_S A0 H0 H1 locs1 → W p l e R s m args below meth c H1 locs1 (cells + mc) (slots + ms) Q (F0 m (pc + 3) ls (.double r :: rest))) :
    W p l e R s m args below meth c H locs cells slots Q (F0 m pc ls st0) := by
  have hF := f_free (G := G) hD hS hA
  refine va_calld hr hS (fun q _ h => hF q h) hF (fun r u t H1 locs1 ht hvm hw hB hz hk hS1 => ?_)
  obtain ⟨h1, h2⟩ := hB
  rw [ht] at h1
  obtain ⟨j1, j2⟩ := f_join hP hD hk hF h1 h2
  exact kk r u H1 locs1 hw j1 j2 hS1
/-- a writer's ends -/
theorem wr_iret {cc : ByteArray} {S : Type} {post : Int32 → S → Prop} {out : S → va_W} {A : Nat → Prop} {v : Int32} (u : S) (hexec : p.tables.exec = Jvm.exec) (hb : c.code = cc) (hr : meth.sig.returnType = some .int) (hlocks : meth.locks = false)
    (hP : PP G (out u) H) (hD : va_D A (out u)) (hS : va_S A s.heap H locs) (hc : cells ≤ mc) (hs : slots ≤ ms) (hp : post v u) {pc : Nat} {ls : Array Slot} (hdg : decode cc pc = .ok (.ireturn, 1)) :
    W p l e R s m args below meth c H locs cells slots (MQ below (wQi G post out A) args s mc ms A) (F0 m pc ls [.int v]) := by
  refine W.widen (k := mc) (n := ms) hc hs ?_
  exact W.iret hexec hb hr (fun t ht _ => ⟨⟨v, u, rfl, hp, by rw [ht]; exact hP, hD⟩, hS.F ht⟩) hS.2.2 hdg hlocks
theorem wr_dret {cc : ByteArray} {S : Type} {post : UInt64 → S → Prop} {out : S → va_W} {A : Nat → Prop} {v : UInt64} (u : S) (hexec : p.tables.exec = Jvm.exec) (hb : c.code = cc) (hr : meth.sig.returnType = some .double) (hlocks : meth.locks = false)
    (hP : PP G (out u) H) (hD : va_D A (out u)) (hS : va_S A s.heap H locs) (hc : cells ≤ mc) (hs : slots ≤ ms) (hp : post v u) {pc : Nat} {ls : Array Slot} (hdg : decode cc pc = .ok (.dreturn, 1)) :
    W p l e R s m args below meth c H locs cells slots (MQ below (wQd G post out A) args s mc ms A) (F0 m pc ls [.double v]) := by
  refine W.widen (k := mc) (n := ms) hc hs ?_
  exact W.dret hexec hb hr (fun t ht _ => ⟨⟨v, u, rfl, hp, by rw [ht]; exact hP, hD⟩, hS.F ht⟩) hS.2.2 hdg hlocks
theorem wr_vret {cc : ByteArray} {S : Type} {post : S → Prop} {out : S → va_W} {A : Nat → Prop} (u : S) (hexec : p.tables.exec = Jvm.exec) (hb : c.code = cc) (hr : meth.sig.returnType = none) (hlocks : meth.locks = false)
    (hP : PP G (out u) H) (hD : va_D A (out u)) (hS : va_S A s.heap H locs) (hc : cells ≤ mc) (hs : slots ≤ ms) (hp : post u) {pc : Nat} {ls : Array Slot} (hdg : decode cc pc = .ok (.return_, 1)) :
    W p l e R s m args below meth c H locs cells slots (MQ below (wQv G post out A) args s mc ms A) (F0 m pc ls []) := by
  refine W.widen (k := mc) (n := ms) hc hs ?_
  exact W.vret hexec hb hr (fun t ht _ => ⟨⟨u, rfl, hp, by rw [ht]; exact hP, hD⟩, hS.F ht⟩) hS.2.2 hdg hlocks
end CA
/-- a reader's body -/
theorem rd_of {l : Launch} {y : MethodName} {w w' : List Cond} {d : Nat} {G : GG} {As : List Value} {ws : va_W} {v : Option Value} {cc : ByteArray} {maxL : Nat} {ret : Option FieldType} (hy : plainName y.cls = true) (hw : w = Cond.code y cc maxL ret :: w') (hn : (lg_sl As).length ≤ maxL)
    (body : ∀ (p : Program) (e : Env) (s : State) (m : MethodId) (below : List Frame) (meth : Method) (c : Code), p.tables.exec = Jvm.exec → c.code = cc → meth.sig.returnType = ret → c.maxLocals = maxL → (∀ q ∈ w, q.before As.toArray s = true) → s.vm.findClass y.cls = some m.cls → meth.locks = false →
      PP G ws s.heap → KK G s → NW s → ∀ ls : Array Slot, lv_has ls maxL (lv_args 0 As) →
      W p l e (RM d 0 0) s m As.toArray below meth c s.heap [] 0 0 (MQ below (rQ v) As.toArray s 0 0 (fun _ => False)) (F0 m 0 ls [])) : RD l y w d G As ws v := by
  refine Met.ofW (cc := cc) (maxL := maxL) (ret := ret) hy hw ?_
  intro p e s m args below meth c s₁ B hml hv
  obtain ⟨rfl, hP, hK, hN⟩ := hv
  rw [lg_entry_eq]
  exact body p e s m below meth c B.exec B.bytes B.returns hml (atoms_spec (ws := w) B.pre) (findClass_of_methodNamed B.named) B.notSynchronized hP hK hN _ (lv_entry As hn)
/-- a writer's body -/
theorem wr_of {l : Launch} {y : MethodName} {w w' : List Cond} {d : Nat} {G : GG} {As : List Value} {ws : va_W} {sz mc ms : Nat} {Qc : (Nat → Prop) → Array Value → State → Outcome → State → Prop} {cc : ByteArray} {maxL : Nat} {ret : Option FieldType} (hy : plainName y.cls = true) (hw : w = Cond.code y cc maxL ret :: w') (hn : (lg_sl As).length ≤ maxL)
    (body : ∀ (p : Program) (e : Env) (s : State) (m : MethodId) (below : List Frame) (meth : Method) (c : Code), s.heap.size = sz → p.tables.exec = Jvm.exec → c.code = cc → meth.sig.returnType = ret → c.maxLocals = maxL → (∀ q ∈ w, q.before As.toArray s = true) → s.vm.findClass y.cls = some m.cls → meth.locks = false → meth.name = y.name →
      PP G ws s.heap → KK G s → NW s → ∀ A : Nat → Prop, va_D A ws → (∀ q : Nat, s.heap.size ≤ q → A q) → va_S A s.heap s.heap [] → ∀ ls : Array Slot, lv_has ls maxL (lv_args 0 As) →
      W p l e (RM d mc ms) s m As.toArray below meth c s.heap [] 0 0 (MQ below (Qc A) As.toArray s mc ms A) (F0 m 0 ls [])) : Met l y w (RM d mc ms) (wP G As ws sz) (Qc (va_A ws sz)) mc ms (va_A ws sz) := by
  refine Met.ofW (cc := cc) (maxL := maxL) (ret := ret) hy hw ?_
  intro p e s m args below meth c s₁ B hml hv
  obtain ⟨rfl, hsz, hP, hK, hN, hD0⟩ := hv
  rw [lg_entry_eq]
  exact body p e s m below meth c hsz B.exec B.bytes B.returns hml (atoms_spec (ws := w) B.pre) (findClass_of_methodNamed B.named) B.notSynchronized (name_of_methodNamed B.named B.method).1 hP hK hN _ hD0.self (fun q h => Or.inr (by rw [← hsz]; exact h)) va_S.rf _ (lv_entry As hn)


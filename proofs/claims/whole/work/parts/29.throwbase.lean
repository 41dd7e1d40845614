/-! WHAT A THROW WANTS, AND WHAT COMES OF IT -/
abbrev IOO : String := "java/lang/IndexOutOfBoundsException"
abbrev IAE : String := "java/lang/IllegalArgumentException"
abbrev ISE : String := "java/lang/IllegalStateException"
abbrev nmE : List String := ["java/lang/RuntimeException", "java/lang/Exception"]
def sRs : List (Nat × String) := [(75, "no such panel"), (93, "strength is out of range"), (130, "folding is out of range"), (138, "no such character"), (145, "the buffer is full"), (158, "the buffer does not tell a map"), (173, "no snapshot in the slot"), (176, "no saved state"), (234, "rank is below 0"), (301, "no such crease"), (303, "no such town"), (305, "both towns are the same"), (307, "what is out of range"), (309, "slot is out of range")]
def dW (U : State) : Prop := va_Nw (.declares (Bundle.initS "java/lang/RuntimeException")) U ∧ va_Nw (.declares (Bundle.initS "java/lang/Exception")) U ∧ va_Nw (.declares (Bundle.initS Bundle.tN)) U
theorem dW.warm {s U : State} (hW : s.WarmedH U.vm) (h : dW s) : dW U := ⟨va_Nw.warmD hW h.1, va_Nw.warmD hW h.2.1, va_Nw.warmD hW h.2.2⟩
theorem dW.same {u U : State} (hv : u.vm = U.vm) (h : dW u) : dW U := ⟨va_Nw.same rfl hv h.1, va_Nw.same rfl hv h.2.1, va_Nw.same rfl hv h.2.2⟩
def XN (U : State) : Prop := (va_Nw (.castable IOO IOO) U ∧ va_Nw (.castable IAE IAE) U ∧ va_Nw (.castable ISE ISE) U) ∧ (va_Nc IAE IOO U ∧ va_Nc ISE IAE U ∧ dW U) ∧ ∀ q ∈ sRs, ∃ a, vk_R RX6 q.1 q.2 a U
theorem XN.warm {s U : State} (hW : s.WarmedH U.vm) (h : XN s) : XN U := ⟨⟨va_Nw.warmC hW h.1.1, va_Nw.warmC hW h.1.2.1, va_Nw.warmC hW h.1.2.2⟩, ⟨va_Nc.moved hW.alike h.2.1.1, va_Nc.moved hW.alike h.2.1.2.1, dW.warm hW h.2.1.2.2⟩, fun q hq => by obtain ⟨a, ha⟩ := h.2.2 q hq; exact ⟨a, vk_R.warm hW ha⟩⟩
theorem XN.same {u U : State} (hv : u.vm = U.vm) (h : XN u) : XN U := ⟨⟨va_Nw.same rfl hv h.1.1, va_Nw.same rfl hv h.1.2.1, va_Nw.same rfl hv h.1.2.2⟩, ⟨va_Nc.moved (hv ▸ Vm.Alike.refl u.vm) h.2.1.1, va_Nc.moved (hv ▸ Vm.Alike.refl u.vm) h.2.1.2.1, dW.same hv h.2.1.2.2⟩, fun q hq => by obtain ⟨a, ha⟩ := h.2.2 q hq; exact ⟨a, vk_R.same hv.symm ha⟩⟩
def XZ (A : Nat → Prop) (U : State) (H : Heap) : Prop := vx_Zq Bundle.tN "UNASSIGNED_STACK" Bundle.steD A U H ∧ vx_Zq Bundle.tN "SUPPRESSED_SENTINEL" Bundle.listD A U H
theorem XZ.moved {A : Nat → Prop} {u U : State} {H : Heap} (hvm : u.vm.Alike U.vm) (h : XZ A u H) : XZ A U H := ⟨vx_Zq.moved hvm h.1, vx_Zq.moved hvm h.2⟩
theorem XZ.kept {A : Nat → Prop} {U : State} {H H1 : Heap} (h : XZ A U H) (hq : ∀ a : Nat, a < H.size → ¬ A a → H1[a]? = H[a]?) : XZ A U H1 := ⟨vx_Zq.kept h.1 hq, vx_Zq.kept h.2 hq⟩
theorem XZ.narrow {A B : Nat → Prop} {U : State} {H : Heap} (h : XZ A U H) (hAB : ∀ q, B q → A q) : XZ B U H := ⟨vx_Zq.narrow h.1 hAB, vx_Zq.narrow h.2 hAB⟩
abbrev nA (sz : Nat) : Nat → Prop := fun q => sz ≤ q
abbrev xP (G : GG) (As : List Value) (ws : va_W) : Array Value → State → Prop := va_Pc As (fun U => PP G ws U.heap ∧ KK G U ∧ NW U ∧ XN U ∧ XZ (nA U.heap.size) U U.heap)
def xX (E : String) : String → State → State → Prop := fun E' st t => E' = E ∧ va_F (fun _ => False) st t
abbrev nQ : Array Value → State → Outcome → State → Prop := fun _ _ _ _ => False
abbrev TH (l : Launch) (y : MethodName) (w : List Cond) (d : Nat) (G : GG) (As : List Value) (ws : va_W) (E : String) : Prop :=
  vx_Met l y w (RM d 1 6) (xP G As ws) nQ (xX E) 1 6 (fun _ => False)
theorem xPre_blind {G : GG} {As : List Value} {ws : va_W} : FrameBlind (xP G As ws) := fun _ U g mk q => ⟨q.1, q.2.1, va_K.moved (u := U) (U := U.calling g mk _) (Vm.Alike.refl U.vm) q.2.2.1, NW.same (u := U) (U := U.calling g mk _) rfl q.2.2.2.1, XN.same (u := U) (U := U.calling g mk _) rfl q.2.2.2.2.1, XZ.moved (u := U) (U := U.calling g mk _) (Vm.Alike.refl U.vm) q.2.2.2.2.2⟩
theorem xS {G : GG} {s : State} {H : Heap} {As : List Value} {ws : va_W} (hK : KK G s) (hN : NW s) (hP : PP G ws H) (hX : XN s) (hZ : XZ (nA H.size) s H) : PreS s H (xP G As ws) As := ⟨xPre_blind, fun U hU hW => ⟨rfl, by rw [hU]; exact hP, va_K.moved hW.alike hK, hN.warm hW, hX.warm hW, by rw [hU]; exact hZ.moved hW.alike⟩⟩
theorem xV {G : GG} {s : State} {H : Heap} {As : List Value} {ws : va_W} {C : String} {b : Addr} (hr : ∃ cellB : Cell, H[b]? = some cellB ∧ cellB.vm.isStatics = false ∧ s.vm.findClass C = some cellB.cls) (hK : KK G s) (hN : NW s) (hP : PP G ws H) (hX : XN s) (hZ : XZ (nA H.size) s H) : PreV s H C b (xP G (.ref b :: As) ws) As := ⟨xPre_blind, hr, fun U hU hW => ⟨rfl, by rw [hU]; exact hP, va_K.moved hW.alike hK, hN.warm hW, hX.warm hW, by rw [hU]; exact hZ.moved hW.alike⟩⟩
/-- a body that throws -/
theorem th_of {l : Launch} {y : MethodName} {w w' : List Cond} {d : Nat} {G : GG} {As : List Value} {ws : va_W} {E : String} {cc : ByteArray} {maxL : Nat} {ret : Option FieldType} (hy : plainName y.cls = true) (hw : w = Cond.code y cc maxL ret :: w') (hn : (lg_sl As).length ≤ maxL)
    (body : ∀ (p : Program) (e : Env) (s : State) (m : MethodId) (below : List Frame) (meth : Method) (c : Code), p.tables.exec = Jvm.exec → c.code = cc → c.maxLocals = maxL → (∀ q ∈ w, q.before As.toArray s = true) → s.vm.findClass y.cls = some m.cls → meth.locks = false → (∀ x ∈ c.exceptionTable.toList, False) →
      PP G ws s.heap → KK G s → NW s → XN s → XZ (nA s.heap.size) s s.heap → ∀ ls : Array Slot, lv_has ls maxL (lv_args 0 As) →
      W p l e (RM d 1 6) s m As.toArray below meth c s.heap [] 0 0 (vx_MQ below nQ (xX E) As.toArray s 1 6 (fun _ => False)) (F0 m 0 ls [])) : TH l y w d G As ws E := by
  refine vx_ofW (cc := cc) (maxL := maxL) (ret := ret) hy hw ?_
  intro p e s m args below meth c s₁ B hml ht hv
  obtain ⟨rfl, hP, hK, hN, hX, hZ⟩ := hv
  rw [lg_entry_eq]
  exact body p e s m below meth c B.exec B.bytes hml (atoms_spec (ws := w) B.pre) (findClass_of_methodNamed B.named) B.notSynchronized ht hP hK hN hX hZ _ (lv_entry As hn)
def thE (E : String) (ik ic : Nat) : Prop := Bundle.fit E = true ∧ (∀ n ∈ nmE, Bundle.fit n = true) ∧ (∀ w ∈ (vx_atS RX6 ic E nmE).filter (fun w => !goodWord w), w ∈ [Cond.castable E E, Cond.declares (Bundle.initS "java/lang/RuntimeException"), Cond.declares (Bundle.initS "java/lang/Exception"), Cond.declares (Bundle.initS Bundle.tN)]) ∧ ∀ w ∈ Cond.classLink RX6 ik E :: Cond.initialized E :: vx_atS RX6 ic E nmE, vx_ot w = true
theorem th_IOO : thE IOO 184 186 := ⟨by decide +kernel, by decide +kernel, by decide +kernel, by decide +kernel⟩
theorem th_IAE : thE IAE 73 77 := ⟨by decide +kernel, by decide +kernel, by decide +kernel, by decide +kernel⟩
theorem th_ISE : thE ISE 143 147 := ⟨by decide +kernel, by decide +kernel, by decide +kernel, by decide +kernel⟩
section TR
variable {p : Program} {l : Launch} {e : Env} {s : State} {m : MethodId} {args : Array Value} {below : List Frame} {meth : Method} {c : Code} {cc : ByteArray} {pc d : Nat} {ls : Array Slot} {E text : String} {ik is ic : Nat}
theorem th_row (hx : p.tables.exec = Jvm.exec) (hb : c.code = cc) (hfl : l.stackTraces = false) (hd : 6 ≤ d) (hown : s.vm.findClass RX6 = some m.cls) (hE : thE E ik ic)
    (hk : (Cond.classLink RX6 ik E).before args s = true) (hini : (Cond.initialized E).before args s = true) (hcs : va_Nw (.castable E E) s) (hdc : dW s) (hgw : ∀ w ∈ (vx_atS RX6 ic E nmE).filter goodWord, w.before args s = true) (hstr : ∃ a, vk_R RX6 is text a s)
    (hZ : XZ (nA s.heap.size) s s.heap) (hsize : ls.size = c.maxLocals)
    (d0 : decode cc pc = .ok (.new ik, 3)) (d3 : decode cc (pc + 3) = .ok (.dup, 1)) (d4 : decode cc (pc + 4) = .ok (.ldc is, 2)) (d6 : decode cc (pc + 6) = .ok (.invokespecial ic, 3)) (d9 : decode cc (pc + 9) = .ok (.athrow, 1))
    (hex : ∀ x ∈ c.exceptionTable.toList, False) (hlocks : meth.locks = false) :
    W p l e (RM d 1 6) s m args below meth c s.heap [] 0 0 (vx_MQ below nQ (xX E) args s 1 6 (fun _ => False)) (F0 m pc ls []) := by
  obtain ⟨a9, hR⟩ := hstr
  refine vx_throwS (own := RX6) (cls := E) (text := text) (names := nmE) (sa := a9) (A := nA s.heap.size) hx hb hfl hown hE.1 hE.2.1 hk hini hR (vx_hat hgw hE.2.2.1 (vx_c (va_Nw.use rfl hcs) (vx_c (va_Nw.use rfl hdc.1) (vx_c (va_Nw.use rfl hdc.2.1) (vx_c (va_Nw.use rfl hdc.2.2) vx_n))))) hE.2.2.2 hZ.1 hZ.2 va_S.rf hsize d0 d3 d4 d6 d9 (fun x hx9 => (hex x hx9).elim) ?_ ?_ (Nat.le_refl _) (Nat.le_refl _) hlocks (fun t _ h1 h2 => ⟨rfl, h1, fun q hq _ => h2 q hq⟩) (fun z h => absurd h List.not_mem_nil) (Nat.le_refl _) (Nat.le_refl _)
  · show 5 < d; omega
  · show 82 ≤ 40 * d; omega
theorem th_rowW (hx : p.tables.exec = Jvm.exec) (hb : c.code = cc) (hfl : l.stackTraces = false) (hd : 6 ≤ d) (hown : s.vm.findClass RX6 = some m.cls) (hE : thE E ik ic)
    (hk : (Cond.classLink RX6 ik E).before args s = true) (hini : (Cond.initialized E).before args s = true) (hcs : va_Nw (.castable E E) s) (hdc : dW s) (hgw : ∀ w ∈ (vx_atS RX6 ic E nmE).filter goodWord, w.before args s = true) (hstr : ∃ a, vk_R RX6 is text a s)
    (hZ : XZ (nA s.heap.size) s s.heap) (hsize : ls.size = c.maxLocals)
    (d0 : decode cc pc = .ok (.new ik, 3)) (d3 : decode cc (pc + 3) = .ok (.dup, 1)) (d4 : decode cc (pc + 4) = .ok (.ldc_w is, 3)) (d7 : decode cc (pc + 7) = .ok (.invokespecial ic, 3)) (d10 : decode cc (pc + 10) = .ok (.athrow, 1))
    (hex : ∀ x ∈ c.exceptionTable.toList, False) (hlocks : meth.locks = false) :
    W p l e (RM d 1 6) s m args below meth c s.heap [] 0 0 (vx_MQ below nQ (xX E) args s 1 6 (fun _ => False)) (F0 m pc ls []) := by
  obtain ⟨a9, hR⟩ := hstr
  refine vx_throwSW (own := RX6) (cls := E) (text := text) (names := nmE) (sa := a9) (A := nA s.heap.size) hx hb hfl hown hE.1 hE.2.1 hk hini hR (vx_hat hgw hE.2.2.1 (vx_c (va_Nw.use rfl hcs) (vx_c (va_Nw.use rfl hdc.1) (vx_c (va_Nw.use rfl hdc.2.1) (vx_c (va_Nw.use rfl hdc.2.2) vx_n))))) hE.2.2.2 hZ.1 hZ.2 va_S.rf hsize d0 d3 d4 d7 d10 (fun x hx9 => (hex x hx9).elim) ?_ ?_ (Nat.le_refl _) (Nat.le_refl _) hlocks (fun t _ h1 h2 => ⟨rfl, h1, fun q hq _ => h2 q hq⟩) (fun z h => absurd h List.not_mem_nil) (Nat.le_refl _) (Nat.le_refl _)
  · show 5 < d; omega
  · show 82 ≤ 40 * d; omega
/-- a call that throws, in a body that passes it on -/
theorem th_go {R : Room} {a : Array Value} {st0 rest : List Value} (hr : vx_Run p l e R s m args below meth c s.heap [] 0 0 1 6 (F0 m pc ls st0) rest (nQ a) (xX E) (fun _ => False)) (hex : ∀ x ∈ c.exceptionTable.toList, False) (hlocks : meth.locks = false) :
    W p l e R s m args below meth c s.heap [] 0 0 (vx_MQ below nQ (xX E) args s 1 6 (fun _ => False)) (F0 m pc ls st0) := by
  intro T hT X
  rcases hr T hT X with ⟨v, st₀, t, T', L, h0, X', hL, e1, e2, hq, st⟩ | ⟨q, st₀, t, T', L, E', ce, h0, X', hL, e1, e2, hxc, hce, hcv, hcl, st⟩
  · exact hq.elim
  · obtain ⟨hE, hF1, hF2⟩ := hxc
    rw [h0] at hF1 hF2
    obtain ⟨t2, a1, b1⟩ := vx_out (Qc := nQ) (XC := xX E) (mc := 1) (ms := 6) (free := fun _ => False) (E := E') (q := q) (H := T'.heap) (locs := [] ++ L) (cells := 0 + 1) (slots := 0 + 6) (pc := pc) (ls := ls) (rest := rest) (p := p) (l := l) (e := e) (R := R) (s := s) (m := m) (args := args) (below := below) (meth := meth) (c := c) (fun x hx => (hex x hx).elim) hlocks (by rw [e1]; exact hce) hcv hcl
      (fun t3 h3 _ => ⟨hE, by rw [h3, e1]; exact hF1, fun q h1 h2 => by rw [h3, e1]; exact hF2 q h1 h2⟩) (fun z hz => hL z (by rw [List.nil_append] at hz; exact hz)) (Nat.le_refl _) (Nat.le_refl _) T' rfl X'
    exact ⟨t2, st.trans a1, b1⟩
end TR
/-- small facts of ranges -/
theorem le_of_lt1 {x : Int32} {k : Nat} (hk : k + 1 < 2 ^ 31) (h : x < nI (k + 1)) : x ≤ nI k := by
  rw [Int32.lt_iff_toInt_lt, nI_toInt hk] at h
  rw [Int32.le_iff_toInt_le, nI_toInt (by omega)]
  omega
theorem inB_of {x : Int32} {m : Nat} (hm : m < 2 ^ 31) (h : inB x (nI 0) (nI m)) : ∃ k : Nat, k < m + 1 ∧ x = nI k := by
  obtain ⟨j, hj, rfl⟩ := nI_of (Int32.not_lt.mpr (show 0 ≤ x from h.1))
  exact ⟨j, by have := (nI_leI hj hm).mp h.2; omega, rfl⟩
theorem ni0 {x : Int32} (h : ¬ x < 0) : nI 0 ≤ x := Int32.not_lt.mp h
/-- a method with an exception table, called plainly -/
theorem met_ofWH {l : Launch} {y : MethodName} {ws ws' : List Cond} {rm : Room} {Pc : Array Value → State → Prop} {Qc : Array Value → State → Outcome → State → Prop} {mc ms : Nat} {free : Addr → Prop} {cc : ByteArray} {maxL : Nat} {ret : Option FieldType} {hh : List (Nat × Nat × Nat × Nat)}
    (hy : plainName y.cls = true) (hw : ws = Cond.codeWith y cc maxL ret hh :: ws')
    (body : ∀ p e s m args below meth c s₁, BodyLoose p l y (headSpec ws rm) cc maxL ret e s m args below meth c s₁ → c.maxLocals = maxL → c.exceptionTable.toList = tableOf hh → Pc args s →
      W p l e (headSpec ws rm).room s m args below meth c s.heap [] 0 0 (MQ below Qc args s mc ms free) (entryFrame m args maxL)) : Met l y ws rm Pc Qc mc ms free := by
  refine MetFree.of_bodyS (code := cc) (maxLocals := maxL) (ret := ret) hy ?_ ?_
  · intro args s m h hn
    obtain ⟨m9, meth, c, hn9, h1, h2, h3, h4, -, h5, h6, -⟩ := Cond.codeWith_spec (atoms_spec (ws := ws) h _ (by rw [hw]; exact List.mem_cons_self))
    cases hn.symm.trans hn9
    exact ⟨meth, c, h1, h2, h3, h4, h5, h6⟩
  · intro p e s m args below meth c s₁ B hml hP _
    have hh0 : s₁.heap = s.heap := by rw [B.state]; rfl
    have ht : c.exceptionTable.toList = tableOf hh := vx_table (x := y) B (atoms_spec (ws := ws) B.pre _ (by rw [hw]; exact List.mem_cons_self))
    obtain ⟨t, a1, o, b1, b2, b3⟩ := body p e s m args below meth c s₁ B hml ht hP s₁ hh0 (Stand.of_body B)
    exact ⟨t, o, a1, b1, b2, ⟨b3.1, b3.2⟩⟩
/-- a wrapper of the law's -/
abbrev lxP (G : GG) (As : List Value) (ws : va_W) (sz : Nat) : Array Value → State → Prop := va_Pc As (fun U => U.heap.size = sz ∧ PP G ws U.heap ∧ KK G U ∧ NW U ∧ va_D (fun _ => True) ws ∧ XN U ∧ XZ (nA sz) U U.heap)
abbrev LWi (l : Launch) (y : MethodName) (w : List Cond) (d : Nat) (G : GG) (As : List Value) (ws : va_W) (sz : Nat) {S : Type} (post : Int32 → S → Prop) (out : S → va_W) (mc ms : Nat) : Prop :=
  Met l y w (RM d mc ms) (lxP G As ws sz) (wQi G post out (va_A ws sz)) mc ms (va_A ws sz)
theorem lxPre_blind {G : GG} {As : List Value} {ws : va_W} {sz : Nat} : FrameBlind (lxP G As ws sz) := fun _ U g mk q => ⟨q.1, q.2.1, q.2.2.1, va_K.moved (u := U) (U := U.calling g mk _) (Vm.Alike.refl U.vm) q.2.2.2.1, NW.same (u := U) (U := U.calling g mk _) rfl q.2.2.2.2.1, q.2.2.2.2.2.1, XN.same (u := U) (U := U.calling g mk _) rfl q.2.2.2.2.2.2.1, XZ.moved (u := U) (U := U.calling g mk _) (Vm.Alike.refl U.vm) q.2.2.2.2.2.2.2⟩
theorem lxS {G : GG} {s : State} {H : Heap} {A0 : Nat → Prop} {As : List Value} {pre mid suf : va_W} (hK : KK G s) (hN : NW s) (hX : XN s) (hZ : XZ (nA H.size) s H) (hP : PP G (pre ++ (mid ++ suf)) H) (hD : va_D A0 (pre ++ (mid ++ suf))) : PreS s H (lxP G As mid H.size) As :=
  ⟨lxPre_blind, fun U hU hW => ⟨rfl, by rw [hU], by rw [hU]; exact P_mid hP, va_K.moved hW.alike hK, hN.warm hW, (D_mid hD).weaken (fun _ _ _ _ => trivial), hX.warm hW, by rw [hU]; exact hZ.moved hW.alike⟩⟩
theorem lw_of {l : Launch} {y : MethodName} {w w' : List Cond} {d : Nat} {G : GG} {As : List Value} {ws : va_W} {sz mc ms : Nat} {Qc : (Nat → Prop) → Array Value → State → Outcome → State → Prop} {cc : ByteArray} {maxL : Nat} {ret : Option FieldType} {hh : List (Nat × Nat × Nat × Nat)} (hy : plainName y.cls = true) (hw : w = Cond.codeWith y cc maxL ret hh :: w') (hn : (lg_sl As).length ≤ maxL)
    (body : ∀ (p : Program) (e : Env) (s : State) (m : MethodId) (below : List Frame) (meth : Method) (c : Code), p.tables.exec = Jvm.exec → c.code = cc → meth.sig.returnType = ret → c.maxLocals = maxL → (∀ q ∈ w, q.before As.toArray s = true) → s.vm.findClass y.cls = some m.cls → meth.locks = false → c.exceptionTable.toList = tableOf hh →
      PP G ws s.heap → KK G s → NW s → XN s → XZ (nA s.heap.size) s s.heap → ∀ A : Nat → Prop, va_D A ws → (∀ q : Nat, s.heap.size ≤ q → A q) → va_S A s.heap s.heap [] → ∀ ls : Array Slot, lv_has ls maxL (lv_args 0 As) →
      W p l e (RM d mc ms) s m As.toArray below meth c s.heap [] 0 0 (MQ below (Qc A) As.toArray s mc ms A) (F0 m 0 ls [])) : Met l y w (RM d mc ms) (lxP G As ws sz) (Qc (va_A ws sz)) mc ms (va_A ws sz) := by
  refine met_ofWH (cc := cc) (maxL := maxL) (ret := ret) (hh := hh) hy hw ?_
  intro p e s m args below meth c s₁ B hml ht hv
  obtain ⟨rfl, hsz, hP, hK, hN, hD0, hX, hZ⟩ := hv
  rw [lg_entry_eq]
  exact body p e s m below meth c B.exec B.bytes B.returns hml (atoms_spec (ws := w) B.pre) (findClass_of_methodNamed B.named) B.notSynchronized ht hP hK hN hX (by rw [hsz]; exact hZ) _ hD0.self (fun q h => Or.inr (by rw [← hsz]; exact h)) va_S.rf _ (lv_entry As hn)
theorem P_old {G : GG} {ws : va_W} {H H1 : Heap} (h : PP G ws H) (hq : ∀ q : Nat, q < H.size → H1[q]? = H[q]?) : PP G ws H1 := fun k q hk => (h k q hk).kept (hq _ (h k q hk).lt)
section LG
variable {p : Program} {l : Launch} {e : Env} {R : Room} {s : State} {m : MethodId} {args : Array Value} {below : List Frame} {meth : Method} {c : Code} {H : Heap} {locs : List Loc} {cells slots : Nat} {Q : State → Prop}
variable {pc : Nat} {ls : Array Slot} {rest st0 : List Value} {a : Array Value} {A0 : Nat → Prop} {H0 : Heap} {mc ms : Nat} {G : GG}
/-- a writer whose world is all that lies behind the first cells -/
theorem wr_g1i {S : Type} {post : Int32 → S → Prop} {out : S → va_W} {pre mid : va_W} (hr : va_Run p l e R s m args below meth c H locs cells slots mc ms (F0 m pc ls st0) rest (wQi G post out (va_A mid H.size) a) (va_A mid H.size))
    (hP : PP G (pre ++ mid) H) (hD : va_D A0 (pre ++ mid)) (hS : va_S A0 H0 H locs) (hA : ∀ q, H0.size ≤ q → A0 q)
    (kk : ∀ (r : Int32) (u : S) (H1 : Heap) (locs1 : List Loc), post r u → PP G (pre ++ out u) H1 → va_D A0 (pre ++ out u) → va_S A0 H0 H1 locs1 → W p l e R s m args below meth c H1 locs1 (cells + mc) (slots + ms) Q (F0 m (pc + 3) ls (.int r :: rest))) :
    W p l e R s m args below meth c H locs cells slots Q (F0 m pc ls st0) :=
  wr_goi (pre := pre) (mid := mid) (suf := []) hr (by rw [List.append_nil]; exact hP) (by rw [List.append_nil]; exact hD) hS hA (fun r u H1 l1 h1 h2 h3 h4 => kk r u H1 l1 h1 (by rw [List.append_nil] at h2; exact h2) (by rw [List.append_nil] at h3; exact h3) h4)
theorem wV1 {As : List Value} {pre mid : va_W} {C : String} {b : Addr} (hr : ∃ cellB : Cell, H[b]? = some cellB ∧ cellB.vm.isStatics = false ∧ s.vm.findClass C = some cellB.cls) (hK : KK G s) (hN : NW s) (hP : PP G (pre ++ mid) H) (hD : va_D A0 (pre ++ mid)) : PreV s H C b (wP G (.ref b :: As) mid H.size) As :=
  wV (pre := pre) (mid := mid) (suf := []) hr hK hN (by rw [List.append_nil]; exact hP) (by rw [List.append_nil]; exact hD)
theorem P_beh {pre mid : va_W} (h : PP G (pre ++ mid) H) : PP G mid H := P_mem h (fun q hq => List.mem_append_right _ hq)
/-- a call that throws, where it may be caught -/
theorem wx_go {ws : va_W} {E : String} (hr : vx_Run p l e R s m args below meth c H locs cells slots 1 6 (F0 m pc ls st0) rest (nQ a) (xX E) (fun _ => False)) (hP : PP G ws H) (hS : va_S A0 H0 H locs)
    (kk : ∀ (q : Nat) (ce : Cell) (H1 : Heap) (locs1 : List Loc), PP G ws H1 → va_S A0 H0 H1 locs1 → H1[q]? = some ce → ce.vm = .none → s.vm.findClass E = some ce.cls → vx_W p l e R s m args below meth c H1 locs1 (cells + 1) (slots + 6) Q (F0 m pc ls rest) q) :
    W p l e R s m args below meth c H locs cells slots Q (F0 m pc ls st0) := by
  intro T hT X
  rcases hr T hT X with ⟨v, st₀, t, T', L, h0, X', hL, e1, e2, hq, st⟩ | ⟨q, st₀, t, T', L, E', ce, h0, X', hL, e1, e2, hxc, hce, hcv, hcl, st⟩
  · exact hq.elim
  · obtain ⟨rfl, hF⟩ := hxc
    obtain ⟨k1, k2, k3⟩ := vx_keep (A1 := fun _ => False) (free := fun _ => False) h0 e1 hS (fun q _ h => h.elim) (fun q h => h.elim) hL hF
    obtain ⟨t2, a1, b1⟩ := kk q ce T'.heap (locs ++ L) (P_old hP (fun q hq => k2 q hq id)) k3 (by rw [e1]; exact hce) hcv hcl T' rfl X'
    exact ⟨t2, st.trans a1, b1⟩
end LG

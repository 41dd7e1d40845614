/-! THE LAW: what stands at the loop's head, and what a case is given -/
abbrev cW (G : GG) (xa so : Nat) (b ce a hh : Nat → Nat) (sg : Nat → Int32) (ln : Nat) (mk : Nat → Int32) (cs up fo tn : Int32) (w t lo hi me : Nat → Int32) (nn qu gu ri re : Int32) (P : Nat → Nat → Nat) (F : Nat → Nat → Nat → Int32) (z : Nat) (o0 o1 : SLO) : va_W := [(xa, .inr (5, [.ref (a 0), .ref (hh 0), .ref so, .ref (b 0), .ref (ce 0)]))] ++ ([(so, .inl (G.2.2.2.1, 2, .inr (.inr (.inr (.inr (slR o0 o1))))))] ++ (txW G b sg (nI ln) ++ (ceW G ce mk cs up ++ (stW G a fo tn w t lo hi me nn qu gu ri re ++ ([(hh 0, .inr (2, [.ref (hh 1), .int (nI z)]))] ++ (hiR G hh P F ++ (slS G o0 ++ (slS G o1))))))))
abbrev oW (G : GG) (oa : Nat) (og : Nat → Int64) : va_W := [(oa, .inl (G.2.2.2.2, 1, .inr (.inl og)))]
def cenG (tn : Int32) (lo hi me : Nat → Int32) (nn : Int32) (mk : Nat → Int32) (cs up : Int32) : Prop := ∀ n, n ≤ 12 → nn = nI n → cenV (qS tn lo hi me n) mk cs up
theorem cen_of {tn : Int32} {lo hi me : Nat → Int32} {n : Nat} {mk : Nat → Int32} {cs up : Int32} (hn : n ≤ 12) (h : cenV (qS tn lo hi me n) mk cs up) : cenG tn lo hi me (nI n) mk cs up := fun n' h1 h2 => by
  obtain rfl : n = n' := nIe h2 (by omega) (by omega)
  exact h
theorem cen_no {tn : Int32} {lo hi me : Nat → Int32} {nn : Int32} {mk : Nat → Int32} {cs : Int32} : cenG tn lo hi me nn mk cs (nI 0) := fun _ _ _ => Or.inl rfl
def INV (G : GG) (xa so oa : Nat) (b ce a hh A : Nat → Nat) (B : Nat) (ws : va_W) : Prop :=
  ∃ (og : Nat → Int64) (sg : Nat → Int32) (ln : Nat) (mk : Nat → Int32) (cs up fo tn : Int32) (w t lo hi me : Nat → Int32) (nn qu gu ri re : Int32) (P : Nat → Nat → Nat) (F : Nat → Nat → Nat → Int32) (z : Nat) (o0 o1 : SLO) (th : Int32) (dg : Int64) (f sl ik sv pl : Nat → Int32),
    ws = mW G A th (nI z) (nI ln) dg f sl ik sv sg pl ++ (oW G oa og ++ cW G xa so b ce a hh sg ln mk cs up fo tn w t lo hi me nn qu gu ri re P F z o0 o1) ∧
    ln ≤ 60 ∧ z ≤ 6 ∧ RG B (bd fo tn w t lo hi me nn qu gu ri re) f ∧ cenG tn lo hi me nn mk cs up ∧ HI B z F sv ∧ SLr B o0 (ik 0) sl ∧ SLr B o1 (ik 1) (fun j => sl (58 + j))
/-- the machine at the law -/
def LE9 (p : Program) (l : Launch) (s : State) (m : MethodId) (args : Array Value) (c : Code) (G : GG) (Ar : Nat → Prop) (b9 L : Nat) (xs : Nat → Int32) : Prop :=
  p.tables.exec = Jvm.exec ∧ c.code = cL_law ∧ c.maxLocals = 9 ∧ s.vm.findClass RL = some m.cls ∧ (∀ w ∈ wsL_law, w.before args s = true) ∧ l.stackTraces = false ∧ (KK G s ∧ NW s ∧ XN s ∧ XZ Ar s s.heap) ∧ (∀ q : Nat, s.heap.size ≤ q → Ar q) ∧ va_X b9 L xs s s.heap ∧ b9 < s.heap.size ∧ ¬ Ar b9
/-- the loop's head, with a state that is right -/
def LH (p : Program) (l : Launch) (e : Env) (s : State) (m : MethodId) (args : Array Value) (below : List Frame) (meth : Method) (c : Code) (Q : State → Prop) (G : GG) (Ar : Nat → Prop) (b9 : Nat) (xa so oa : Nat) (b ce a hh A : Nat → Nat) (j : Nat) : Prop :=
  ∀ (H : Heap) (locs : List Loc) (ws : va_W), INV G xa so oa b ce a hh A j ws → PP G ws H → va_D Ar ws → va_S Ar s.heap H locs → ∀ ls : Array Slot, lv_has ls 9 [(0, .ref b9), (1, .ref xa), (2, .ref (A 0)), (3, .ref oa), (4, .int (nI (4 * j)))] →
    W p l e room_1 s m args below meth c H locs (100 + 7 * j) (2000 + 64 * j) Q (F0 m 23 ls [])
theorem XZ_at {Ar : Nat → Prop} {s : State} {H : Heap} {locs : List Loc} (h : XZ Ar s s.heap) (hS : va_S Ar s.heap H locs) (hA : ∀ q, s.heap.size ≤ q → Ar q) : XZ (nA H.size) s H := (h.kept hS.2.1).narrow (fun q hq => hA q (Nat.le_trans hS.1 hq))
theorem lxS1 {G : GG} {s : State} {H : Heap} {A0 : Nat → Prop} {As : List Value} {pre mid : va_W} (hK : KK G s) (hN : NW s) (hX : XN s) (hZ : XZ (nA H.size) s H) (hP : PP G (pre ++ mid) H) (hD : va_D A0 (pre ++ mid)) : PreS s H (lxP G As mid H.size) As :=
  lxS (pre := pre) (mid := mid) (suf := []) hK hN hX hZ (by rw [List.append_nil]; exact hP) (by rw [List.append_nil]; exact hD)
theorem lg_self (x : Int64) : lg_cmp x x = nI 0 := by
  unfold lg_cmp
  rw [if_neg (by intro h; exact absurd h Int64.lt_irrefl), if_pos rfl]; rfl
theorem iinc4 (k : Nat) : nI k + Int32.ofInt 4 = nI (k + 4) := nI_add k 4
theorem vpL {g : Nat → Int64} {x : Int64} : vp_updL g 0 x 0 = x := if_pos rfl
section L1
variable {p : Program} {l : Launch} {e : Env} {R : Room} {s : State} {m : MethodId} {args : Array Value} {below : List Frame} {meth : Method} {c : Code} {H : Heap} {locs : List Loc} {cells slots : Nat} {Q : State → Prop}
variable {pc : Nat} {ls : Array Slot} {rest st0 : List Value} {a : Array Value} {A0 : Nat → Prop} {H0 : Heap} {mc ms : Nat} {G : GG}
theorem wr_g1l {S : Type} {post : Int64 → S → Prop} {out : S → va_W} {pre mid : va_W} (hr : va_Run p l e R s m args below meth c H locs cells slots mc ms (F0 m pc ls st0) rest (wQl G post out (va_A mid H.size) a) (va_A mid H.size))
    (hP : PP G (pre ++ mid) H) (hD : va_D A0 (pre ++ mid)) (hS : va_S A0 H0 H locs) (hA : ∀ q, H0.size ≤ q → A0 q)
    (kk : ∀ (r : Int64) (u : S) (H1 : Heap) (locs1 : List Loc), post r u → PP G (pre ++ out u) H1 → va_D A0 (pre ++ out u) → va_S A0 H0 H1 locs1 → W p l e R s m args below meth c H1 locs1 (cells + mc) (slots + ms) Q (F0 m (pc + 3) ls (.long r :: rest))) :
    W p l e R s m args below meth c H locs cells slots Q (F0 m pc ls st0) :=
  wr_gol (pre := pre) (mid := mid) (suf := []) hr (by rw [List.append_nil]; exact hP) (by rw [List.append_nil]; exact hD) hS hA (fun r u H1 l1 h1 h2 h3 h4 => kk r u H1 l1 h1 (by rw [List.append_nil] at h2; exact h2) (by rw [List.append_nil] at h3; exact h3) h4)
theorem wr_g1d {S : Type} {post : UInt64 → S → Prop} {out : S → va_W} {pre mid : va_W} (hr : va_Run p l e R s m args below meth c H locs cells slots mc ms (F0 m pc ls st0) rest (wQd G post out (va_A mid H.size) a) (va_A mid H.size))
    (hP : PP G (pre ++ mid) H) (hD : va_D A0 (pre ++ mid)) (hS : va_S A0 H0 H locs) (hA : ∀ q, H0.size ≤ q → A0 q)
    (kk : ∀ (r : UInt64) (u : S) (H1 : Heap) (locs1 : List Loc), post r u → PP G (pre ++ out u) H1 → va_D A0 (pre ++ out u) → va_S A0 H0 H1 locs1 → W p l e R s m args below meth c H1 locs1 (cells + mc) (slots + ms) Q (F0 m (pc + 3) ls (.double r :: rest))) :
    W p l e R s m args below meth c H locs cells slots Q (F0 m pc ls st0) :=
  wr_god (pre := pre) (mid := mid) (suf := []) hr (by rw [List.append_nil]; exact hP) (by rw [List.append_nil]; exact hD) hS hA (fun r u H1 l1 h1 h2 h3 h4 => kk r u H1 l1 h1 (by rw [List.append_nil] at h2; exact h2) (by rw [List.append_nil] at h3; exact h3) h4)
end L1
def selfV (n : Nat) : Bool := decide (cmL (shV n) (shV n) = 0)
theorem self_all : (List.range 513).all selfV = true := by decide +kernel
theorem self_V {n : Nat} (h : n ≤ 512) : cmL (shV n) (shV n) = nI 0 := of_decide_eq_true (all_of self_all (show n < 513 by omega))

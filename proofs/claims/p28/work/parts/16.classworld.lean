/-! THE CLASS'S WHOLE WORLD -/
abbrev SLO : Type := Option ((Nat → Nat) × (Nat → Nat → Int32))
def slR (o0 o1 : SLO) : Nat → Option Nat := fun i => if i = 0 then o0.map (fun x => x.1 0) else if i = 1 then o1.map (fun x => x.1 0) else none
def slS (G : GG) (o : SLO) : va_W := match o with
  | none => []
  | some x => stG G x.1 x.2
def hiR (G : GG) (hb : Nat → Nat) (P : Nat → Nat → Nat) (F : Nat → Nat → Nat → Int32) : va_W :=
  [(hb 1, .inl (G.2.2.2.1, 6, .inr (.inr (.inr (.inr (hsR P))))))] ++ (stG G (P 0) (F 0) ++ (stG G (P 1) (F 1) ++ (stG G (P 2) (F 2) ++ (stG G (P 3) (F 3) ++ (stG G (P 4) (F 4) ++ stG G (P 5) (F 5))))))
theorem hsR_new (P : Nat → Nat → Nat) : va_up (va_up (va_up (va_up (va_up (va_up (fun _ => none) 0 (some (P 0 0))) 1 (some (P 1 0))) 2 (some (P 2 0))) 3 (some (P 3 0))) 4 (some (P 4 0))) 5 (some (P 5 0)) = hsR P := by
  funext i
  match i with
  | 0 => rfl
  | 1 => rfl
  | 2 => rfl
  | 3 => rfl
  | 4 => rfl
  | 5 => rfl
  | k + 6 =>
    unfold va_up hsR
    simp
theorem slR_none : (fun _ => none) = slR none none := by
  funext i; unfold slR; simp
section RV
variable {p : Program} {l : Launch} {e : Env} {R : Room} {s : State} {m : MethodId} {args : Array Value} {below : List Frame} {meth : Method} {c : Code} {H : Heap} {locs : List Loc} {cells slots : Nat} {Q : State → Prop}
variable {pc : Nat} {ls : Array Slot} {rest st0 : List Value} {a : Array Value}
/-- a reader that answers nothing has been called -/
theorem rd_gov (hr : va_Run p l e R s m args below meth c H locs cells slots 0 0 (F0 m pc ls st0) rest (rQ none a) (fun _ => False))
    (kk : W p l e R s m args below meth c H locs cells slots Q (F0 m (pc + 3) ls rest)) : W p l e R s m args below meth c H locs cells slots Q (F0 m pc ls st0) := by
  intro T hT X
  obtain ⟨w, st₀, t, T', L, h0, X', hL, e1, e2, ⟨hv, hk⟩, st⟩ := hr T hT X
  cases hv
  cases L with
  | cons q L => exact absurd (hL q List.mem_cons_self) id
  | nil =>
    rw [List.append_nil] at X'
    obtain ⟨t2, a1, b1⟩ := kk T' (by rw [e1, hk, h0]) X'
    exact ⟨t2, st t2 a1, b1⟩
theorem rd_vret {cc : ByteArray} (hexec : p.tables.exec = Jvm.exec) (hb : c.code = cc) (hr : meth.sig.returnType = none) (hlocks : meth.locks = false) {pc : Nat} {ls : Array Slot} (hdg : decode cc pc = .ok (.return_, 1)) :
    W p l e R s m args below meth c s.heap [] 0 0 (MQ below (rQ none) args s 0 0 (fun _ => False)) (F0 m pc ls []) :=
  W.vret hexec hb hr (fun t ht _ => ⟨rfl, ht⟩) (fun q h => absurd h List.not_mem_nil) hdg hlocks
/-- a writer that answers a cell of its world: which one is said -/
theorem svm_le {m : Nat} (h : m ≤ 6) : svm m + 1 ≤ 6 := by unfold svm; split <;> omega
theorem wr_goa {G : GG} {A0 : Nat → Prop} {H0 : Heap} {mc ms : Nat} {S : Type} {post : S → Prop} {x : Nat} {out : S → va_W} {pre mid suf : va_W} (hr : va_Run p l e R s m args below meth c H locs cells slots mc ms (F0 m pc ls st0) rest (va_Qr post (fun u a t => a = x ∧ wB G (va_A mid H.size) out u t) (va_A mid H.size) a) (va_A mid H.size))
    (hP : PP G (pre ++ (mid ++ suf)) H) (hD : va_D A0 (pre ++ (mid ++ suf))) (hS : va_S A0 H0 H locs) (hA : ∀ q, H0.size ≤ q → A0 q)
    (kk : ∀ (u : S) (H1 : Heap) (locs1 : List Loc), post u → PP G (pre ++ (out u ++ suf)) H1 → va_D A0 (pre ++ (out u ++ suf)) → va_S A0 H0 H1 locs1 → W p l e R s m args below meth c H1 locs1 (cells + mc) (slots + ms) Q (F0 m (pc + 3) ls (.ref x :: rest))) :
    W p l e R s m args below meth c H locs cells slots Q (F0 m pc ls st0) := by
  have hF := f_free (G := G) hD hS hA
  refine va_callr hr hS (fun q _ h => hF q h) hF (fun u r t H1 locs1 ht hvm hw hB hz hk hS1 => ?_)
  obtain ⟨hxa, h1, h2⟩ := hB
  subst hxa
  rw [ht] at h1
  obtain ⟨j1, j2⟩ := f_join hP hD hk hF h1 h2
  exact kk u H1 locs1 hw j1 j2 hS1
theorem wr_aret {cc : ByteArray} {G : GG} {mc ms : Nat} {S : Type} {post : S → Prop} {out : S → va_W} {A : Nat → Prop} {x : Nat} (u : S) {C : String} (hexec : p.tables.exec = Jvm.exec) (hb : c.code = cc) (hr : meth.sig.returnType = some (.object C)) (hlocks : meth.locks = false)
    (hP : PP G (out u) H) (hD : va_D A (out u)) (hS : va_S A s.heap H locs) (hc : cells ≤ mc) (hs : slots ≤ ms) (hp : post u) {pc : Nat} {ls : Array Slot} (hdg : decode cc pc = .ok (.areturn, 1)) :
    W p l e R s m args below meth c H locs cells slots (MQ below (va_Qr post (fun u a t => a = x ∧ wB G A out u t) A) args s mc ms A) (F0 m pc ls [.ref x]) := by
  refine W.widen (k := mc) (n := ms) hc hs ?_
  exact W.aret hexec hb hr (Or.inl ⟨C, rfl⟩) (Or.inr ⟨x, rfl⟩) (fun t ht _ => ⟨⟨u, x, rfl, hp, rfl, by rw [ht]; exact hP, hD⟩, hS.F ht⟩) hS.2.2 hdg hlocks
end RV
theorem slR_0 (o0 o1 : SLO) (x : (Nat → Nat) × (Nat → Nat → Int32)) : va_up (slR o0 o1) 0 (some (x.1 0)) = slR (some x) o1 := by
  funext i; unfold va_up slR
  by_cases h : i = 0
  · rw [if_pos h, if_pos h]; rfl
  · rw [if_neg h, if_neg h, if_neg h]
abbrev tornC (tn : Int32) (c : Nat) : Prop := bI tn (nI c) = nI 1
abbrev refdC (lo hi me : Nat → Int32) (n : Nat) (x y : Int32) : Prop := 12 ≤ n ∨ ¬ abt lo hi me n x y = -1
/-! calls whose world is the whole of mine -/
section WO
variable {p : Program} {l : Launch} {e : Env} {R : Room} {s : State} {m : MethodId} {args : Array Value} {below : List Frame} {meth : Method} {c : Code} {H : Heap} {locs : List Loc} {cells slots : Nat} {Q : State → Prop}
variable {pc : Nat} {ls : Array Slot} {rest st0 : List Value} {a : Array Value} {A0 : Nat → Prop} {H0 : Heap} {mc ms : Nat} {G : GG}
theorem PP_nn {ws : va_W} {H : Heap} : PP G ([] ++ (ws ++ [])) H ↔ PP G ws H := by rw [List.append_nil, List.nil_append]
theorem D_nn {A : Nat → Prop} {ws : va_W} : va_D A ([] ++ (ws ++ [])) ↔ va_D A ws := by rw [List.append_nil, List.nil_append]
theorem wVw {As : List Value} {mid : va_W} {C : String} {b : Addr} (hr : ∃ cellB : Cell, H[b]? = some cellB ∧ cellB.vm.isStatics = false ∧ s.vm.findClass C = some cellB.cls) (hK : KK G s) (hN : NW s) (hP : PP G mid H) (hD : va_D A0 mid) : PreV s H C b (wP G (.ref b :: As) mid H.size) As := wV hr hK hN (PP_nn.mpr hP) (D_nn.mpr hD)
theorem wr_woi {S : Type} {post : Int32 → S → Prop} {out : S → va_W} {mid : va_W} (hr : va_Run p l e R s m args below meth c H locs cells slots mc ms (F0 m pc ls st0) rest (wQi G post out (va_A mid H.size) a) (va_A mid H.size))
    (hP : PP G mid H) (hD : va_D A0 mid) (hS : va_S A0 H0 H locs) (hA : ∀ q, H0.size ≤ q → A0 q)
    (kk : ∀ (r : Int32) (u : S) (H1 : Heap) (locs1 : List Loc), post r u → PP G (out u) H1 → va_D A0 (out u) → va_S A0 H0 H1 locs1 → W p l e R s m args below meth c H1 locs1 (cells + mc) (slots + ms) Q (F0 m (pc + 3) ls (.int r :: rest))) :
    W p l e R s m args below meth c H locs cells slots Q (F0 m pc ls st0) :=
  wr_goi hr (PP_nn.mpr hP) (D_nn.mpr hD) hS hA (fun r u H1 locs1 hw h1 h2 h3 => kk r u H1 locs1 hw (PP_nn.mp h1) (D_nn.mp h2) h3)
theorem wr_wov {S : Type} {post : S → Prop} {out : S → va_W} {mid : va_W} (hr : va_Run p l e R s m args below meth c H locs cells slots mc ms (F0 m pc ls st0) rest (wQv G post out (va_A mid H.size) a) (va_A mid H.size))
    (hP : PP G mid H) (hD : va_D A0 mid) (hS : va_S A0 H0 H locs) (hA : ∀ q, H0.size ≤ q → A0 q)
    (kk : ∀ (u : S) (H1 : Heap) (locs1 : List Loc), post u → PP G (out u) H1 → va_D A0 (out u) → va_S A0 H0 H1 locs1 → W p l e R s m args below meth c H1 locs1 (cells + mc) (slots + ms) Q (F0 m (pc + 3) ls rest)) :
    W p l e R s m args below meth c H locs cells slots Q (F0 m pc ls st0) :=
  wr_gov hr (PP_nn.mpr hP) (D_nn.mpr hD) hS hA (fun u H1 locs1 hw h1 h2 h3 => kk u H1 locs1 hw (PP_nn.mp h1) (D_nn.mp h2) h3)
end WO

/-! THE LAW: what stands at the loop's head, and what a case is given -/
def cenG (tn : Int32) (lo hi me : Nat → Int32) (nn : Int32) (mk : Nat → Int32) (cs up : Int32) : Prop := ∀ n, n ≤ 12 → nn = nI n → cenV (qS tn lo hi me n) mk cs up
theorem cen_of {tn : Int32} {lo hi me : Nat → Int32} {n : Nat} {mk : Nat → Int32} {cs up : Int32} (hn : n ≤ 12) (h : cenV (qS tn lo hi me n) mk cs up) : cenG tn lo hi me (nI n) mk cs up := fun n' h1 h2 => by
  obtain rfl : n = n' := nIe h2 (by omega) (by omega)
  exact h
theorem cen_no {tn : Int32} {lo hi me : Nat → Int32} {nn : Int32} {mk : Nat → Int32} {cs : Int32} : cenG tn lo hi me nn mk cs (nI 0) := fun _ _ _ => Or.inl rfl
theorem iinc4 (k : Nat) : nI k + Int32.ofInt 4 = nI (k + 4) := nI_add k 4
section L1
variable {p : Program} {l : Launch} {e : Env} {R : Room} {s : State} {m : MethodId} {args : Array Value} {below : List Frame} {meth : Method} {c : Code} {H : Heap} {locs : List Loc} {cells slots : Nat} {Q : State → Prop}
variable {pc : Nat} {ls : Array Slot} {rest st0 : List Value} {a : Array Value} {A0 : Nat → Prop} {H0 : Heap} {mc ms : Nat} {G : GG}
theorem wr_g1l {S : Type} {post : Int64 → S → Prop} {out : S → va_W} {pre mid : va_W} (hr : va_Run p l e R s m args below meth c H locs cells slots mc ms (F0 m pc ls st0) rest (wQl G post out (va_A mid H.size) a) (va_A mid H.size))
    (hP : PP G (pre ++ mid) H) (hD : va_D A0 (pre ++ mid)) (hS : va_S A0 H0 H locs) (hA : ∀ q, H0.size ≤ q → A0 q)
    (kk : ∀ (r : Int64) (u : S) (H1 : Heap) (locs1 : List Loc), post r u → PP G (pre ++ out u) H1 → va_D A0 (pre ++ out u) → va_S A0 H0 H1 locs1 → W p l e R s m args below meth c H1 locs1 (cells + mc) (slots + ms) Q (F0 m (pc + 3) ls (.long r :: rest))) :
    W p l e R s m args below meth c H locs cells slots Q (F0 m pc ls st0) :=
  wr_gol (pre := pre) (mid := mid) (suf := []) hr (by rw [List.append_nil]; exact hP) (by rw [List.append_nil]; exact hD) hS hA (fun r u H1 l1 h1 h2 h3 h4 => kk r u H1 l1 h1 (by rw [List.append_nil] at h2; exact h2) (by rw [List.append_nil] at h3; exact h3) h4)
theorem wr_g1d {S : Type} {post : UInt64 → S → Prop} {out : S → va_W} {pre mid : va_W} (hr : va_Run p l e R s m args below meth c H locs cells slots mc ms (F0 m pc ls st0) rest (wQd G post out (va_A mid H.size) a) (va_A mid H.size))
    (hP : PP G (pre ++ mid) H) (hD : va_D A0 (pre ++ mid)) (hS : va_S A0 H0 H locs) (hA : ∀ q, H0.size ≤ q → A0 q)
    (kk : ∀ (r : UInt64) (u : S) (H1 : Heap) (locs1 : List Loc), post r u → PP G (pre ++ out u) H1 → va_D A0 (pre ++ out u) → va_S A0 H0 H1 locs1 → W p l e R s m args below meth c H1 locs1 (cells + mc) (slots + ms) Q (F0 m (pc + 3) ls (.double r :: rest))) :
    W p l e R s m args below meth c H locs cells slots Q (F0 m pc ls st0) :=
  wr_god (pre := pre) (mid := mid) (suf := []) hr (by rw [List.append_nil]; exact hP) (by rw [List.append_nil]; exact hD) hS hA (fun r u H1 l1 h1 h2 h3 h4 => kk r u H1 l1 h1 (by rw [List.append_nil] at h2; exact h2) (by rw [List.append_nil] at h3; exact h3) h4)
end L1
def selfV (n : Nat) : Bool := decide (cmL (shV n) (shV n) = 0)
theorem self_all : (List.range 513).all selfV = true := by decide +kernel
theorem self_V {n : Nat} (h : n ≤ 512) : cmL (shV n) (shV n) = nI 0 := of_decide_eq_true (all_of self_all (show n < 513 by omega))


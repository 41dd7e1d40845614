/-! THE CLASS: what its methods answer, as functions of their rows -/
theorem P_cong {G : GG} {ws : va_W} {H : Heap} {f g : Nat → Int32} (h : PP G ws H) (k : Nat) {a : Nat} {cA : ClassId} {n : Nat} (hk : ws[k]? = some (a, .inl (cA, n, .inl f))) (e : ∀ j, j < n → f j = g j) : PP G (ws.set k (a, .inl (cA, n, .inl g))) H := by
  intro i q hi
  by_cases hik : k = i
  · subst hik
    rw [List.getElem?_set_self (List.getElem?_eq_some_iff.mp hk).1] at hi
    cases hi
    have h1 : H[a]? = some (vp_cell cA (n, .inl f)) := h k _ hk
    show H[a]? = some (vp_cell cA (n, .inl g))
    rw [h1]
    congr 1
    unfold vp_cell arrV
    simp only
    congr 1
    apply Array.ext
    · simp
    · intro j h2 h3
      simp only [Array.getElem_ofFn]
      rw [e j (by simpa using h2)]
  · rw [List.getElem?_set_ne hik] at hi
    exact h i q hi
theorem D_cong {A : Nat → Prop} {ws : va_W} {f g : Nat → Int32} (h : va_D A ws) (k : Nat) {a : Nat} {cA : ClassId} {n : Nat} (hk : ws[k]? = some (a, .inl (cA, n, .inl f))) : va_D A (ws.set k (a, .inl (cA, n, .inl g))) := by
  have key : ∀ (i : Nat) (q : Nat × va_E), (ws.set k (a, .inl (cA, n, .inl g)))[i]? = some q → ∃ q', ws[i]? = some q' ∧ q'.1 = q.1 := by
    intro i q hi
    by_cases hik : k = i
    · subst hik
      rw [List.getElem?_set_self (List.getElem?_eq_some_iff.mp hk).1] at hi
      cases hi
      exact ⟨_, hk, rfl⟩
    · rw [List.getElem?_set_ne hik] at hi
      exact ⟨q, hi, rfl⟩
  refine ⟨fun i j p q hp hq e => ?_, fun i q hi => ?_⟩
  · obtain ⟨p', h1, h2⟩ := key i p hp
    obtain ⟨q', h3, h4⟩ := key j q hq
    exact h.1 i j p' q' h1 h3 (by rw [h2, h4, e])
  · obtain ⟨q', h1, h2⟩ := key i q hi
    rw [← h2]; exact h.2 i q' h1
theorem cpy_eq {f g : Nat → Int32} {n j : Nat} (hj : j < n) (hn : n < 2 ^ 31) : va_cpy f g (nI 0).toNatClampNeg (nI 0).toNatClampNeg (nI n).toNatClampNeg j = f j := by
  rw [nI_clamp (by decide), nI_clamp hn]
  unfold va_cpy
  rw [if_pos ⟨Nat.zero_le j, by omega⟩, Nat.zero_add, Nat.sub_zero]
theorem newa_id {G : GG} {s : State} {cA cB : ClassId} {ty : FieldType} (hK : va_K G.1 vwCl (TY G ++ [(cA, ty)]) s) (k : Nat) (hk : (TY G)[k]? = some (cB, ty)) (hty : ∀ C, ty ≠ .object C := by (intro C h; cases h)) : cA = cB := by
  have hl : k < (TY G).length := (List.getElem?_eq_some_iff.mp hk).1
  have h1 := (hK.2 4 (cA, ty) rfl).2
  have h2 := (hK.2 k (cB, ty) (by rw [List.getElem?_append_left hl]; exact hk)).2
  unfold va_RA at h1 h2
  cases ty with
  | object C => exact absurd rfl (hty C)
  | _ => exact Option.some.inj (h1.symm.trans h2)
theorem newq_id {G : GG} {s : State} {cA : ClassId} (hK : va_K G.1 vwCl (TY G ++ [(cA, .object RX5)]) s) : cA = G.2.2.2.1 := by
  obtain ⟨k1, c1, -, -, -, h1⟩ := (hK.2 4 (cA, .object RX5) rfl).2
  obtain ⟨k2, c2, -, -, -, h2⟩ := (hK.2 2 (G.2.2.2.1, .object "CreaseMaps$State") rfl).2
  exact Option.some.inj (h1.symm.trans h2)
section CV
variable {p : Program} {l : Launch} {e : Env} {R : Room} {s : State} {m : MethodId} {args : Array Value} {below : List Frame} {meth : Method} {c : Code} {H : Heap} {locs : List Loc} {cells slots : Nat} {Q : State → Prop} {pc : Nat} {ls : Array Slot} {rest : List Value}
theorem lv_cgv {x y : Value} (h : x = y) (k : W p l e R s m args below meth c H locs cells slots Q (F0 m pc ls (y :: rest))) : W p l e R s m args below meth c H locs cells slots Q (F0 m pc ls (x :: rest)) := h ▸ k
end CV
/-- the answer about two panels, from the k-th kept one on -/
def abtF (lo hi me : Nat → Int32) (x y : Int32) : Nat → Nat → Int32
  | 0, _ => -1
  | n + 1, k => if lo k = x ∧ hi k = y then me k else abtF lo hi me x y n (k + 1)
abbrev abt (lo hi me : Nat → Int32) (n : Nat) (a b : Int32) : Int32 := abtF lo hi me (mnI a b) (mxI a b) n 0
abbrev cl (x : Int32) : Nat := x.toNatClampNeg
def fitC (lo hi me : Nat → Int32) (fo : Int32) : Nat → Nat → Bool
  | 0, _ => true
  | n + 1, k => if b2 (mt fo (cl (lo k)) (cl (hi k))) = me k then fitC lo hi me fo n (k + 1) else false
def fitA (lo hi me : Nat → Int32) (pn : Nat) (fo : Int32) : Nat → Nat → Bool
  | 0, _ => true
  | n + 1, k => if hi k = nI pn ∧ ¬ b2 (mt fo (cl (lo k)) pn) = me k then false else fitA lo hi me pn fo n (k + 1)
def okL (lo hi : Nat → Int32) : Prop := ∀ k, k < 12 → vp_in (lo k) 10 ∧ vp_in (hi k) 10
/-- pulling: the creases that tear -/
def teaS (fo : Int32) (w : Nat → Int32) (z : Int32) : Nat → Int32
  | 0 => nI 0
  | k + 1 => if bI fo (nI k) = nI 1 ∧ ¬ w k < z then teaS fo w z k ||| ms1 (nI k) else teaS fo w z k
def tonS (t : Nat → Int32) (q : Int32) : Nat → Int32
  | 0 => nI 0
  | k + 1 => if t k = q then tonS t q k ||| ms1 (nI k) else tonS t q k
/-- the bits of a number, as the JDK counts them -/
abbrev us (x k : Int32) : Int32 := (x.toUInt32 >>> (k.toUInt32 &&& Int32.toUInt32 31)).toInt32
abbrev bc1 (x : Int32) : Int32 := x - (us x (nI 1) &&& 1431655765)
abbrev bc2 (x : Int32) : Int32 := (x &&& 858993459) + (us x (nI 2) &&& 858993459)
abbrev bc3 (x : Int32) : Int32 := (x + us x (nI 4)) &&& 252645135
abbrev bc4 (x : Int32) : Int32 := x + us x (nI 8)
abbrev bc5 (x : Int32) : Int32 := x + us x (nI 16)
def bcn (x : Int32) : Int32 := bc5 (bc4 (bc3 (bc2 (bc1 x)))) &&& nI 63
/-- the census -/
def fitS (tn : Int32) (lo hi me : Nat → Int32) (n : Nat) (fo : Int32) : Bool := decide (fo &&& tn = 0) && fitC lo hi me fo n 0
def cN (q : Nat → Bool) : Nat → Nat
  | 0 => 0
  | k + 1 => cN q k + (if q k = true then 1 else 0)
theorem cN_le (q : Nat → Bool) : ∀ k, cN q k ≤ k := by
  intro k
  induction k with
  | zero => exact Nat.le_refl 0
  | succ k ih => rw [cN]; split <;> omega
theorem cN_mono (q : Nat → Bool) (j : Nat) : ∀ k, j ≤ k → cN q j ≤ cN q k := by
  intro k
  induction k with
  | zero => intro h; rw [show j = 0 by omega]; exact Nat.le_refl _
  | succ k ih =>
    intro h
    rcases Nat.lt_or_ge k j with h2 | h2
    · rw [show j = k + 1 by omega]; exact Nat.le_refl _
    · have := ih h2; rw [cN]; omega
def cenOK (q : Nat → Bool) (mk : Nat → Int32) (k : Nat) : Prop := ∀ j, j < k → q j = true → mk (cN q j) = nI j
theorem cen_0 (q : Nat → Bool) (mk : Nat → Int32) : cenOK q mk 0 := fun j hj => by omega
theorem cen_t {q : Nat → Bool} {mk : Nat → Int32} {k : Nat} (h : cenOK q mk k) (hq : q k = true) : cenOK q (upd mk (cN q k) (nI k)) (k + 1) := by
  intro j hj hqj
  unfold upd
  by_cases h1 : j = k
  · subst h1; rw [if_pos rfl]
  · have h2 := cN_mono q (j + 1) k (by omega)
    rw [cN, if_pos hqj] at h2
    rw [if_neg (by omega)]
    exact h j (by omega) hqj
theorem cen_f {q : Nat → Bool} {mk : Nat → Int32} {k : Nat} (h : cenOK q mk k) (hq : q k = false) : cenOK q mk (k + 1) := by
  intro j hj hqj
  by_cases h1 : j = k
  · subst h1; rw [hq] at hqj; cases hqj
  · exact h j (by omega) hqj
theorem cN_t {q : Nat → Bool} {k : Nat} (hq : q k = true) : cN q (k + 1) = cN q k + 1 := by rw [cN, if_pos hq]
theorem cN_f {q : Nat → Bool} {k : Nat} (hq : q k = false) : cN q (k + 1) = cN q k := by rw [cN, if_neg (by rw [hq]; exact Bool.false_ne_true)]; rfl
abbrev qS (tn : Int32) (lo hi me : Nat → Int32) (n : Nat) : Nat → Bool := fun k => fitS tn lo hi me n (nI k)
/-- a census is out of date, or right -/
def cenV (q : Nat → Bool) (mk : Nat → Int32) (cs up : Int32) : Prop := up = nI 0 ∨ (up = nI 1 ∧ cs = nI (cN q 512) ∧ cenOK q mk 512)
theorem zB_s (w : Nat → Int32) (k : Nat) : upd (fun j => if j < k then nI 0 else w j) k (nI 0) = fun j => if j < k + 1 then nI 0 else w j := by
  funext j; unfold upd
  by_cases hj : j = k
  · rw [if_pos hj, if_pos (by omega)]
  · rw [if_neg hj]
    dsimp only
    by_cases h2 : j < k
    · rw [if_pos h2, if_pos (by omega)]
    · rw [if_neg h2, if_neg (by omega)]
theorem perm7 (X A Y B : va_W) : (X ++ (A ++ (Y ++ B))).Perm (X ++ (Y ++ (A ++ B))) := (List.perm_append_comm_assoc A Y B).append_left X
theorem perm7b (X Y A B : va_W) : (X ++ (Y ++ (A ++ B))).Perm (X ++ (A ++ (Y ++ B))) := (List.perm_append_comm_assoc Y A B).append_left X
def mkA (mk : Nat → Int32) (c : Nat) (x : Int32) : Int32 := if ¬ x < 0 ∧ ¬ nI c ≤ x then mk x.toNatClampNeg else -1
def sureC (mk : Nat → Int32) (c : Nat) (cr : Int32) : Int32 := if sumI (fun i => bI (mk i) cr) c = nI c then nI 1 else if sumI (fun i => bI (mk i) cr) c = 0 then nI 0 else -1


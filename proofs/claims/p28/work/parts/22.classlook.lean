/-! THE CLASS'S LOOKS -/
theorem cen_sum {q : Nat → Bool} {mk : Nat → Int32} {K : Nat} (h : cenOK q mk K) (g : Int32 → Int32) : ∀ k, k ≤ K → sumI (fun i => g (mk i)) (cN q k) = sumI (fun j => if q j = true then g (nI j) else nI 0) k := by
  intro k
  induction k with
  | zero => intro _; rfl
  | succ k ih =>
    intro hk
    have ih := ih (by omega)
    by_cases hq : q k = true
    · rw [cN_t hq, sumI, sumI, ih, h k (by omega) hq, if_pos hq]
    · have hq2 : q k = false := by cases hh : q k <;> first | rfl | exact absurd hh hq
      rw [cN_f hq2, sumI, ih, if_neg hq, addz]
theorem cen_fa {q : Nat → Bool} {mk : Nat → Int32} {K : Nat} (h : cenOK q mk K) (hK : K ≤ 512) {r : Nat} (hr : r < 2 ^ 31) : ∀ n k, k + n = K → cN q k ≤ r → faM q (nI r) n k = if r < cN q K then mk r else -1 := by
  intro n
  induction n with
  | zero =>
    intro k hk hc
    rw [faM, if_neg (by rw [show K = k by omega]; omega)]
  | succ n ih =>
    intro k hk hc
    have hk1 := cN_le q k
    rw [faM]
    by_cases hq : q k = true ∧ nI (cN q k) = nI r
    · have e := nIe hq.2 (by omega) hr
      have h2 := cN_mono q (k + 1) K (by omega)
      rw [cN_t hq.1] at h2
      rw [if_pos hq, if_pos (by omega), ← e, h k (by omega) hq.1]
    · rw [if_neg hq]
      refine ih (k + 1) (by omega) ?_
      rw [cN]
      by_cases h3 : q k = true
      · have h4 : cN q k ≠ r := fun e => hq ⟨h3, by rw [e]⟩
        rw [if_pos h3]; omega
      · rw [if_neg h3]; omega
theorem cen_mkA {q : Nat → Bool} {mk : Nat → Int32} (h : cenOK q mk 512) {x : Int32} (hx : ¬ x < 0) : mkA mk (cN q 512) x = faM q x 512 0 := by
  obtain ⟨r, hr, rfl⟩ := nI_of hx
  have hc := cN_le q 512
  rw [cen_fa h (Nat.le_refl _) hr 512 0 (by omega) (Nat.zero_le r)]
  unfold mkA
  rw [nI_clamp hr]
  by_cases h1 : r < cN q 512
  · rw [if_pos h1, if_pos ⟨hx, nI_ge h1 (by omega)⟩]
  · rw [if_neg h1, if_neg (fun h2 => h2.2 (nI_le (by omega) hr))]
abbrev sS (q : Nat → Bool) (g : Int32 → Int32) : Int32 := sumI (fun j => if q j = true then g (nI j) else nI 0) 512
def sureS (q : Nat → Bool) (cr : Int32) : Int32 := if sS q (fun m => bI m cr) = nI (cN q 512) then nI 1 else if sS q (fun m => bI m cr) = 0 then nI 0 else -1
theorem sureC_eq {q : Nat → Bool} {mk : Nat → Int32} (h : cenOK q mk 512) (cr : Int32) : sureC mk (cN q 512) cr = sureS q cr := by
  unfold sureC sureS
  rw [cen_sum h (fun m => bI m cr) 512 (Nat.le_refl _)]
theorem meetC_eq {q : Nat → Bool} {mk : Nat → Int32} (h : cenOK q mk 512) (x y : Nat) : sumI (fun i => b2 (mt (mk i) x y)) (cN q 512) = sS q (fun m => b2 (mt m x y)) := cen_sum h (fun m => b2 (mt m x y)) 512 (Nat.le_refl _)
def okP (t : Nat → Int32) : Prop := ∀ j, j < 6 → vp_in (t j) 10
def opC (fo : Int32) (t : Nat → Int32) (q v : Nat) : Int32 := if v = 0 then (pw fo q).1 + nI 100 else if v = 1 then tonS t (nI q) 6 else sumI (fun j => b2 (mt fo q j)) 10
abbrev abI (x : Int32) : Int32 := if 0 ≤ x then x else 0 - x
def obC (fo : Int32) (t lo hi me : Nat → Int32) (n i o v : Nat) : Int32 := if v = 0 then abI (t i - t o) else if v = 1 then abI ((pw fo (cl (t i))).1 - (pw fo (cl (t o))).1) else if v = 2 then b2 (mt fo (cl (t i)) (cl (t o))) else abt lo hi me n (nI (cl (t i))) (nI (cl (t o)))
def worC (t lo hi me : Nat → Int32) (n i o : Nat) : Bool := !decide (nI (cl (t i)) = nI (cl (t o))) && decide (abt lo hi me n (nI (cl (t i))) (nI (cl (t o))) = -1)
def wkC (fo : Int32) (w : Nat → Int32) : Nat → Int32 × Int32
  | 0 => (-1, -1)
  | k + 1 => if bI fo (nI k) = nI 1 ∧ ¬ w k ≤ (wkC fo w k).2 then (nI k, w k) else wkC fo w k


/-! THE LAW'S FACTS, 1: what a change keeps, what it tells -/
theorem ok_RG {B : Nat} {g : Nat → Nat → Int32} {f : Nat → Int32} (h : RG B g f) (hp : PR (g 2) (g 3) (g 4) (zN g)) : OKg B g := by
  obtain ⟨n, en, hR⟩ := h
  have hn := hR.1.1
  have e : zN g = n := by unfold zN; rw [en]; exact nI_clamp (by omega)
  exact ⟨by rw [e]; exact en, ⟨f, by rw [e]; exact hR⟩, hp⟩
theorem ok_mono {B B' : Nat} {g : Nat → Nat → Int32} (hB : B ≤ B') (h : OKg B g) : OKg B' g := by
  obtain ⟨en, ⟨f, hR⟩, hp⟩ := h
  exact ⟨en, ⟨f, RS_mono hB hR⟩, hp⟩
theorem PR_0 {t lo hi : Nat → Int32} : PR t lo hi 0 := fun k hk => absurd hk (Nat.not_lt_zero k)
theorem zN_of {g : Nat → Nat → Int32} {n : Nat} (h : g 0 6 = nI n) (hn : n < 2 ^ 31) : zN g = n := by unfold zN; rw [h]; exact nI_clamp hn
theorem PR_n0 {g : Nat → Nat → Int32} (h : g 0 6 = nI 0) : PR (g 2) (g 3) (g 4) (zN g) := by rw [zN_of h (by decide)]; exact PR_0
theorem ok_gB {B : Nat} {g : Nat → Nat → Int32} (h : OKg B g) : OKg B (gB g) := h
theorem ok_fold {B : Nat} {g : Nat → Nat → Int32} (h : OKg B g) {c : Nat} (hc : c < 9) : OKg (B + 1) (gFold g c) := by
  obtain ⟨en, ⟨f, hR⟩, hp⟩ := id h
  have h1 := (st_fold hc hR).1
  rw [← en] at h1
  refine ok_RG (g := gFold g c) h1 ?_
  by_cases ht : tornC (g 0 1) c
  · have e : zN (gFold g c) = zN g := zN_of (show (if tornC (g 0 1) c then g 0 6 else nI 0) = nI (zN g) by rw [if_pos ht]; exact en) (by have := okg_n h; omega)
    rw [e]; exact hp
  · exact PR_n0 (show (if tornC (g 0 1) c then g 0 6 else nI 0) = nI 0 by rw [if_neg ht])
theorem ok_move {B : Nat} {g : Nat → Nat → Int32} (h : OKg B g) {i q : Nat} (hi6 : i < 6) (hq : q < 10) : OKg (B + 1) (gMove g i q) := by
  obtain ⟨en, ⟨f, hR⟩, hp⟩ := id h
  exact ok_RG (g := gMove g i q) (st_move hi6 hq hR).1 (PR_n0 rfl)
theorem ok_pull {B : Nat} {g : Nat → Nat → Int32} (h : OKg B g) (y : Nat) : OKg (B + 1) (gPull g y) := by
  obtain ⟨en, ⟨f, hR⟩, hp⟩ := id h
  have h1 := (st_pull (y := y) hR).1
  rw [← en] at h1
  refine ok_RG (g := gPull g y) h1 ?_
  by_cases ht : tea g y = 0
  · have e : zN (gPull g y) = zN g := zN_of (show (if tea g y = 0 then g 0 6 else nI 0) = nI (zN g) by rw [if_pos ht]; exact en) (by have := okg_n h; omega)
    rw [e]; exact hp
  · exact PR_n0 (show (if tea g y = 0 then g 0 6 else nI 0) = nI 0 by rw [if_neg ht])
theorem ok_renew {B : Nat} {g : Nat → Nat → Int32} (h : OKg B g) : OKg (B + 1) (gRenew g) := by
  obtain ⟨en, ⟨f, hR⟩, hp⟩ := id h
  exact ok_RG (g := gRenew g) (st_renew hR).1 (PR_n0 rfl)
theorem ok_forg {B : Nat} {g : Nat → Nat → Int32} (h : OKg B g) : OKg (B + 1) (gForg g) := by
  obtain ⟨en, ⟨f, hR⟩, hp⟩ := id h
  exact ok_RG (g := gForg g) (st_forget hR).1 (PR_n0 rfl)
theorem ok_gues {B : Nat} {g : Nat → Nat → Int32} (h : OKg B g) {q : Nat} (hq : q < 512) : OKg (B + 1) (gGues g q) := by
  obtain ⟨en, ⟨f, hR⟩, hp⟩ := id h
  have h1 := (st_guess hq hR).1
  rw [← en] at h1
  exact ok_RG (g := gGues g q) h1 hp
theorem ok_ask {B : Nat} {g : Nat → Nat → Int32} (h : OKg B g) {i o : Nat} (hi6 : i < 6) (ho : o < 6) : OKg (B + 1) (gAsk g i o) := by
  obtain ⟨en, ⟨f, hR⟩, hp⟩ := id h
  have h1 := (st_ask hi6 ho hR).1
  rw [← en] at h1
  refine ok_RG (g := gAsk g i o) h1 ?_
  have hn := okg_n h
  by_cases hr : refdC (g 3) (g 4) (g 5) (zN g) (nI (cl (g 2 i))) (nI (cl (g 2 o)))
  · have e : zN (gAsk g i o) = zN g := zN_of (show gAsk g i o 0 6 = nI (zN g) from (if_pos hr).trans en) (by omega)
    have e3 : gAsk g i o 3 = g 3 := if_pos hr
    have e4 : gAsk g i o 4 = g 4 := if_pos hr
    rw [e, e3, e4]; exact hp
  · have e : zN (gAsk g i o) = zN g + 1 := zN_of (show gAsk g i o 0 6 = nI (zN g + 1) from if_neg hr) (by omega)
    have e3 : gAsk g i o 3 = upd (g 3) (zN g) (mnI (nI (cl (g 2 i))) (nI (cl (g 2 o)))) := if_neg hr
    have e4 : gAsk g i o 4 = upd (g 4) (zN g) (mxI (nI (cl (g 2 i))) (nI (cl (g 2 o)))) := if_neg hr
    rw [e, e3, e4]
    intro k hk
    by_cases hkn : k = zN g
    · subst hkn
      refine ⟨i, o, hi6, ho, ?_, ?_⟩
      · rw [upd_s]; exact congr (congrArg mnI (nI_vp (okg_P h i hi6) (by decide)).symm) (nI_vp (okg_P h o ho) (by decide)).symm
      · rw [upd_s]; exact congr (congrArg mxI (nI_vp (okg_P h i hi6) (by decide)).symm) (nI_vp (okg_P h o ho) (by decide)).symm
    · obtain ⟨a, b, h3, h4, h5, h6⟩ := hp k (by omega)
      exact ⟨a, b, h3, h4, by rw [upd_o hkn]; exact h5, by rw [upd_o hkn]; exact h6⟩
theorem flip_all : (List.range 512).all (fun a => (List.range 9).all (fun c => decide (bI (nI a ^^^ ms1 (nI c)) (nI c) = nI 1 - bI (nI a) (nI c)))) = true := by decide +kernel
theorem flip_eq {B : Nat} {g : Nat → Nat → Int32} (h : OKg B g) {c : Nat} (hc : c < 9) : bI (g 0 0 ^^^ ms1 (nI c)) (nI c) = nI 1 - bI (g 0 0) (nI c) := by
  obtain ⟨a, ha, e⟩ := okg_a h
  rw [e]; exact of_decide_eq_true (all_of (all_of flip_all ha) hc)
theorem tea_bits (g : Nat → Nat → Int32) (y : Nat) : bitsL (tea g y) = bcn (tea g y) := by
  obtain ⟨x, hx, e⟩ := tea_lt (g 0 0) (g 1) (nI (10 - y)) 9 (Nat.le_refl 9)
  unfold tea; rw [e]; exact bitsL_eq hx
theorem or0 (x : Int32) : x ||| nI 0 = x := by show x ||| 0 = x; simp
theorem cN_all {q : Nat → Bool} : ∀ k, (∀ j, j < k → q j = true) → cN q k = k := by
  intro k
  induction k with
  | zero => intro _; rfl
  | succ k ih => intro h; rw [cN, ih (fun j hj => h j (by omega)), if_pos (h k (by omega))]
theorem zq_renew (g : Nat → Nat → Int32) : cN (zq (gRenew g)) 512 = 512 := by
  refine cN_all 512 (fun j hj => ?_)
  have e : zN (gRenew g) = 0 := zN_of (n := 0) rfl (by decide)
  unfold zq
  rw [e]
  show (decide (nI j &&& nI 0 = 0) && true) = true
  rw [nI_and, Nat.and_zero]; rfl
theorem wk_0 (w : Nat → Int32) : ∀ k, k ≤ 9 → wkC (nI 0) w k = (-1, -1) := by
  intro k
  induction k with
  | zero => intro _; rfl
  | succ k ih =>
    intro hk
    rw [wkC, if_neg ?_]
    · exact ih (by omega)
    · intro h
      have h1 := h.1
      rw [bit_eq (m := 0) (by omega) (show k < 10 by omega), Nat.zero_div] at h1
      exact absurd h1 (by decide)
theorem bcn0_all : (List.range 512).all (fun x => decide (bcn (nI x) = 0) == decide (x = 0)) = true := by decide +kernel
theorem bits0 {q a : Nat} (hq : q < 512) (ha : a < 512) : bitsL (nI q ^^^ nI a) = 0 ↔ nI q = nI a := by
  have hx : q ^^^ a < 512 := Nat.xor_lt_two_pow (n := 9) hq ha
  rw [nI_xor, bitsL_eq hx]
  have h := eq_of_beq (all_of bcn0_all hx)
  have h2 : bcn (nI (q ^^^ a)) = 0 ↔ q ^^^ a = 0 := by
    by_cases z : q ^^^ a = 0
    · rw [decide_eq_true z] at h; exact ⟨fun _ => z, fun _ => of_decide_eq_true h⟩
    · rw [decide_eq_false z] at h; exact ⟨fun y => absurd y (of_decide_eq_false h), fun y => absurd y z⟩
  rw [h2]
  constructor
  · intro z
    have h3 := congrArg (fun v => v ^^^ a) z
    simp only [Nat.xor_assoc, Nat.xor_self, Nat.xor_zero, Nat.zero_xor] at h3
    rw [h3]
  · intro z; rw [nIe z (by omega) (by omega)]; exact Nat.xor_self a
theorem bits_x {q a : Nat} (hq : q < 512) (ha : a < 512) : bitsL (nI q ^^^ nI a) = bcn (nI q ^^^ nI a) := by
  have hx : q ^^^ a < 512 := Nat.xor_lt_two_pow (n := 9) hq ha
  rw [nI_xor]; exact bitsL_eq hx
theorem wd_0 : (wd (nI 0) 10).2 - (wd (nI 0) 10).1 + nI 1 = nI 10 := by decide +kernel
/-! the answers that are kept -/
abbrev kp (g : Nat → Nat → Int32) (i o : Nat) : Int32 := abt (g 3) (g 4) (g 5) (zN g) (nI (cl (g 2 i))) (nI (cl (g 2 o)))
theorem fit_fo {B : Nat} {g : Nat → Nat → Int32} (h : OKg B g) : fitC (g 3) (g 4) (g 5) (g 0 0) (zN g) 0 = true := by obtain ⟨-, ⟨f, hR⟩, -⟩ := h; exact hR.2.2.2.1.2
theorem zq_fit {g : Nat → Nat → Int32} {k : Nat} (h : zq g k = true) : fitC (g 3) (g 4) (g 5) (nI k) (zN g) 0 = true ∧ nI k &&& g 0 1 = 0 := by
  have h : (decide (nI k &&& g 0 1 = 0) && fitC (g 3) (g 4) (g 5) (nI k) (zN g) 0) = true := h
  rw [Bool.and_eq_true] at h
  exact ⟨h.2, of_decide_eq_true h.1⟩
theorem zq_fo {B : Nat} {g : Nat → Nat → Int32} (h : OKg B g) {a : Nat} (e : g 0 0 = nI a) : zq g a = true := by
  have h2 := fit_fo h
  rw [e] at h2
  show (decide (nI a &&& g 0 1 = 0) && fitC (g 3) (g 4) (g 5) (nI a) (zN g) 0) = true
  rw [h2, Bool.and_true]
  obtain ⟨-, ⟨f, hR⟩, -⟩ := h
  rw [← e]
  exact decide_eq_true hR.1.2.2.2
theorem vp_cl {x : Int32} (h : vp_in x 10) : x = nI (cl x) := nI_vp h (by decide)
theorem mn_cm {x y : Int32} (hx : vp_in x 10) (hy : vp_in y 10) : mnI x y = mnI y x := by
  have h1 : cl x < 10 := vp_lt hx
  have h2 : cl y < 10 := vp_lt hy
  rw [vp_cl hx, vp_cl hy, mnN _ _ (by omega) (by omega), mnN _ _ (by omega) (by omega), Nat.min_comm]
theorem mx_cm {x y : Int32} (hx : vp_in x 10) (hy : vp_in y 10) : mxI x y = mxI y x := by
  have h1 : cl x < 10 := vp_lt hx
  have h2 : cl y < 10 := vp_lt hy
  rw [vp_cl hx, vp_cl hy, mxN _ _ (by omega) (by omega), mxN _ _ (by omega) (by omega), Nat.max_comm]
theorem kept_of {lo hi me : Nat → Int32} {fo x y : Int32} {n : Nat} (hx : vp_in x 10) (hy : vp_in y 10) (hf : fitC lo hi me fo n 0 = true) : abt lo hi me n x y = -1 ∨ abt lo hi me n x y = b2 (mt fo (cl x) (cl y)) := by
  by_cases h : ∃ j, 0 ≤ j ∧ j < 0 + n ∧ lo j = mnI x y ∧ hi j = mxI x y
  · right
    have h1 := abt_yes hf h
    rw [mt_mm hx hy] at h1
    exact h1
  · left; exact abt_no (fun j h1 h2 h3 => h ⟨j, h1, h2, h3⟩)
theorem kp_fit {B : Nat} {g : Nat → Nat → Int32} (h : OKg B g) {i o : Nat} (hi6 : i < 6) (ho : o < 6) {m : Int32} (hm : fitC (g 3) (g 4) (g 5) m (zN g) 0 = true) : kp g i o = -1 ∨ kp g i o = b2 (mt m (cl (g 2 i)) (cl (g 2 o))) := by
  have h1 := kept_of (okg_P h i hi6) (okg_P h o ho) hm
  have e : kp g i o = abt (g 3) (g 4) (g 5) (zN g) (g 2 i) (g 2 o) := by
    show abt (g 3) (g 4) (g 5) (zN g) (nI (cl (g 2 i))) (nI (cl (g 2 o))) = abt (g 3) (g 4) (g 5) (zN g) (g 2 i) (g 2 o)
    rw [← vp_cl (okg_P h i hi6), ← vp_cl (okg_P h o ho)]
  rw [e]; exact h1
theorem kp_cm {B : Nat} {g : Nat → Nat → Int32} (h : OKg B g) {i o : Nat} (hi6 : i < 6) (ho : o < 6) : kp g i o = kp g o i := by
  have h1 := okg_P h i hi6
  have h2 := okg_P h o ho
  show abtF _ _ _ (mnI _ _) (mxI _ _) _ _ = abtF _ _ _ (mnI _ _) (mxI _ _) _ _
  rw [← vp_cl h1, ← vp_cl h2, mn_cm h1 h2, mx_cm h1 h2]
theorem sum_c (q : Nat → Bool) : ∀ k, sumI (fun j => if q j = true then nI 1 else nI 0) k = nI (cN q k) := by
  intro k
  induction k with
  | zero => rfl
  | succ k ih =>
    rw [sumI, ih, cN]
    by_cases hq : q k = true
    · rw [if_pos hq, if_pos hq, nI_p1]
    · rw [if_neg hq, if_neg hq, addz]; rfl
theorem sum_z {f : Nat → Int32} : ∀ k, (∀ j, j < k → f j = nI 0) → sumI f k = nI 0 := by
  intro k
  induction k with
  | zero => intro _; rfl
  | succ k ih => intro h; rw [sumI, ih (fun j hj => h j (by omega)), h k (by omega), addz]
theorem me_kept {B : Nat} {g : Nat → Nat → Int32} (h : OKg B g) {i o : Nat} (hi6 : i < 6) (ho : o < 6) (hk : ¬ kp g i o = -1) : meS (zq g) (cl (g 2 i)) (cl (g 2 o)) = if kp g i o = nI 1 then nI (cN (zq g) 512) else nI 0 := by
  have hv : kp g i o = nI 0 ∨ kp g i o = nI 1 := by
    rcases kp_fit h hi6 ho (fit_fo h) with z | z
    · exact absurd z hk
    · rw [z]; exact b2_01 _
  have he : ∀ j, j < 512 → (if zq g j = true then b2 (mt (nI j) (cl (g 2 i)) (cl (g 2 o))) else nI 0) = if zq g j = true then kp g i o else nI 0 := by
    intro j _
    by_cases hq : zq g j = true
    · rw [if_pos hq, if_pos hq]
      rcases kp_fit h hi6 ho (zq_fit hq).1 with z | z
      · exact absurd z hk
      · exact z.symm
    · rw [if_neg hq, if_neg hq]
  have e2 : meS (zq g) (cl (g 2 i)) (cl (g 2 o)) = sumI (fun j => if zq g j = true then kp g i o else nI 0) 512 := sum_eq he
  rw [e2]
  rcases hv with z | z
  · rw [if_neg (by rw [z]; decide)]
    exact sum_z 512 (fun j _ => by rw [z]; split <;> rfl)
  · rw [if_pos z, z]; exact sum_c _ 512
theorem ask_kept {B : Nat} {g : Nat → Nat → Int32} (h : OKg B g) {i o : Nat} (hi6 : i < 6) (ho : o < 6) (hr : ¬ refdC (g 3) (g 4) (g 5) (zN g) (nI (cl (g 2 i))) (nI (cl (g 2 o)))) : kp (gAsk g i o) i o = b2 (mt (g 0 0) (cl (g 2 i)) (cl (g 2 o))) := by
  have h9 := ok_ask h hi6 ho
  have hn := okg_n h
  have e : zN (gAsk g i o) = zN g + 1 := zN_of (show gAsk g i o 0 6 = nI (zN g + 1) from if_neg hr) (by omega)
  have e3 : gAsk g i o 3 = upd (g 3) (zN g) (mnI (nI (cl (g 2 i))) (nI (cl (g 2 o)))) := if_neg hr
  have e4 : gAsk g i o 4 = upd (g 4) (zN g) (mxI (nI (cl (g 2 i))) (nI (cl (g 2 o)))) := if_neg hr
  have h1 := okg_P h i hi6
  have h2 := okg_P h o ho
  have hy := abt_yes (fit_fo h9) (x := mnI (nI (cl (g 2 i))) (nI (cl (g 2 o)))) (y := mxI (nI (cl (g 2 i))) (nI (cl (g 2 o)))) ⟨zN g, Nat.zero_le _, by rw [e]; omega, by rw [e3, upd_s], by rw [e4, upd_s]⟩
  refine hy.trans ?_
  rw [← vp_cl h1, ← vp_cl h2, mt_mm h1 h2]
  rfl

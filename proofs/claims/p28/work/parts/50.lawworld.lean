/-! THE LAW'S WORLD: the object's world as a bundle, what is known of it, the class's contracts said of it -/
abbrev AD : Type := Nat × Nat × (Nat → Nat) × (Nat → Nat) × (Nat → Nat) × (Nat → Nat)
abbrev ZZ : Type := (Nat → Nat → Int32) × (Nat → Nat → Nat) × (Nat → Nat → Nat → Int32) × Nat × SLO × SLO
def cT (G : GG) (X : AD) (Z : ZZ) (u : CU) : va_W := [(X.1, .inr (5, [.ref (X.2.2.2.2.1 0), .ref (X.2.2.2.2.2 0), .ref X.2.1, .ref (X.2.2.1 0), .ref (X.2.2.2.1 0)]))] ++ ([(X.2.1, .inl (G.2.2.2.1, 2, .inr (.inr (.inr (.inr (slR Z.2.2.2.2.1 Z.2.2.2.2.2))))))] ++ (txW G X.2.2.1 (fun _ => 0) (nI 0) ++ (ceW G X.2.2.2.1 u.1 u.2.1 u.2.2 ++ (stW G X.2.2.2.2.1 (Z.1 0 0) (Z.1 0 1) (Z.1 1) (Z.1 2) (Z.1 3) (Z.1 4) (Z.1 5) (Z.1 0 6) (Z.1 0 2) (Z.1 0 3) (Z.1 0 4) (Z.1 0 5) ++ ([(X.2.2.2.2.2 0, .inr (2, [.ref (X.2.2.2.2.2 1), .int (nI Z.2.2.2.1)]))] ++ (hiR G X.2.2.2.2.2 Z.2.1 Z.2.2.1 ++ (slS G Z.2.2.2.2.1 ++ (slS G Z.2.2.2.2.2))))))))
def zN (g : Nat → Nat → Int32) : Nat := cl (g 0 6)
def zq (g : Nat → Nat → Int32) : Nat → Bool := qS (g 0 1) (g 3) (g 4) (g 5) (zN g)
/-- each answer that is kept is about the panels of two towns -/
def PR (t lo hi : Nat → Int32) (n : Nat) : Prop := ∀ k, k < n → ∃ i o, i < 6 ∧ o < 6 ∧ lo k = mnI (t i) (t o) ∧ hi k = mxI (t i) (t o)
def OKg (B : Nat) (g : Nat → Nat → Int32) : Prop := g 0 6 = nI (zN g) ∧ (∃ f, RS B (g 0 0) (g 0 1) (g 1) (g 2) (g 3) (g 4) (g 5) (zN g) (g 0 2) (g 0 3) (g 0 4) (g 0 5) f) ∧ PR (g 2) (g 3) (g 4) (zN g)
def CV (g : Nat → Nat → Int32) (u : CU) : Prop := cenV (zq g) u.1 u.2.1 u.2.2
/-- a state's bundle, once more -/
def gB (g : Nat → Nat → Int32) : Nat → Nat → Int32 := bd (g 0 0) (g 0 1) (g 1) (g 2) (g 3) (g 4) (g 5) (g 0 6) (g 0 2) (g 0 3) (g 0 4) (g 0 5)
def zS (Z : ZZ) (g : Nat → Nat → Int32) : ZZ := (g, svP Z.2.1 Z.2.2.2.1, va_up (svP Z.2.2.1 Z.2.2.2.1) (svm Z.2.2.2.1) (gB Z.1), svm Z.2.2.2.1 + 1, Z.2.2.2.2.1, Z.2.2.2.2.2)
def gFold (g : Nat → Nat → Int32) (c : Nat) : Nat → Nat → Int32 := bd (if tornC (g 0 1) c then g 0 0 else g 0 0 ^^^ ms1 (nI c)) (g 0 1) (if tornC (g 0 1) c then g 1 else upd (g 1) c (g 1 c + nI 1)) (g 2) (g 3) (g 4) (g 5) (if tornC (g 0 1) c then g 0 6 else nI 0) (g 0 2) (g 0 3) (g 0 4) (if tornC (g 0 1) c then g 0 5 + nI 1 else g 0 5)
def gMove (g : Nat → Nat → Int32) (i q : Nat) : Nat → Nat → Int32 := bd (g 0 0) (g 0 1) (g 1) (upd (g 2) i (nI q)) (g 3) (g 4) (g 5) (nI 0) (g 0 2) (g 0 3) (g 0 4) (g 0 5)
def tea (g : Nat → Nat → Int32) (y : Nat) : Int32 := teaS (g 0 0) (g 1) (nI (10 - y)) 9
def gPull (g : Nat → Nat → Int32) (y : Nat) : Nat → Nat → Int32 := bd (g 0 0 &&& (tea g y ^^^ (-1))) (g 0 1 ||| tea g y) (g 1) (g 2) (g 3) (g 4) (g 5) (if tea g y = 0 then g 0 6 else nI 0) (g 0 2) (g 0 3) (g 0 4) (g 0 5)
def gRenew (g : Nat → Nat → Int32) : Nat → Nat → Int32 := bd (nI 0) (nI 0) (fun j => if j < 9 then nI 0 else g 1 j) (g 2) (g 3) (g 4) (g 5) (nI 0) (g 0 2) (g 0 3) (g 0 4) (g 0 5)
def rfd (g : Nat → Nat → Int32) (i o : Nat) : Prop := refdC (g 3) (g 4) (g 5) (zN g) (nI (cl (g 2 i))) (nI (cl (g 2 o)))
def gAsk (g : Nat → Nat → Int32) (i o : Nat) : Nat → Nat → Int32 := bd (g 0 0) (g 0 1) (g 1) (g 2) (if refdC (g 3) (g 4) (g 5) (zN g) (nI (cl (g 2 i))) (nI (cl (g 2 o))) then g 3 else upd (g 3) (zN g) (mnI (nI (cl (g 2 i))) (nI (cl (g 2 o))))) (if refdC (g 3) (g 4) (g 5) (zN g) (nI (cl (g 2 i))) (nI (cl (g 2 o))) then g 4 else upd (g 4) (zN g) (mxI (nI (cl (g 2 i))) (nI (cl (g 2 o))))) (if refdC (g 3) (g 4) (g 5) (zN g) (nI (cl (g 2 i))) (nI (cl (g 2 o))) then g 5 else upd (g 5) (zN g) (b2 (mt (g 0 0) (cl (g 2 i)) (cl (g 2 o))))) (if refdC (g 3) (g 4) (g 5) (zN g) (nI (cl (g 2 i))) (nI (cl (g 2 o))) then g 0 6 else nI (zN g + 1)) (if refdC (g 3) (g 4) (g 5) (zN g) (nI (cl (g 2 i))) (nI (cl (g 2 o))) then g 0 2 else g 0 2 + nI 1) (g 0 3) (g 0 4) (if refdC (g 3) (g 4) (g 5) (zN g) (nI (cl (g 2 i))) (nI (cl (g 2 o))) then g 0 5 + nI 1 else g 0 5)
def gGues (g : Nat → Nat → Int32) (q : Nat) : Nat → Nat → Int32 := bd (g 0 0) (g 0 1) (g 1) (g 2) (g 3) (g 4) (g 5) (g 0 6) (g 0 2) (g 0 3 + nI 1) (if nI q = g 0 0 then g 0 4 + nI 1 else g 0 4) (g 0 5)
def gForg (g : Nat → Nat → Int32) : Nat → Nat → Int32 := bd (g 0 0) (g 0 1) (g 1) (g 2) (g 3) (g 4) (g 5) (nI 0) (g 0 2) (g 0 3) (g 0 4) (g 0 5)
theorem okg_n {B : Nat} {g : Nat → Nat → Int32} (h : OKg B g) : zN g ≤ 12 := by obtain ⟨-, ⟨f, hR⟩, -⟩ := h; exact hR.1.1
theorem okg_L {B : Nat} {g : Nat → Nat → Int32} (h : OKg B g) : okL (g 3) (g 4) := by obtain ⟨-, ⟨f, hR⟩, -⟩ := h; exact hR.2.2.1.2.2.1
theorem okg_P {B : Nat} {g : Nat → Nat → Int32} (h : OKg B g) : okP (g 2) := by obtain ⟨-, ⟨f, hR⟩, -⟩ := h; exact hR.2.2.1.2.1
set_option maxRecDepth 100000 in
theorem k_cr0 (l : Launch) (G : GG) (sz : Nat) (X : AD) (Z : ZZ) (u : CU) {B : Nat} (hZ : OKg B Z.1) (hz : Z.2.2.2.1 ≤ 6) (hu : CV Z.1 u) (k : Nat) (hk9 : k < 9) : WRi l yX6_creaseOf wsX6_creaseOf 5 G [.ref X.1, .int (nI k), .int (nI 0)] (cT G X Z u) sz (S := CU) (fun r u9 => r = bI (Z.1 0 0) (nI k) ∧ CV Z.1 u9) (fun u9 => cT G X Z u9) 0 0 := by
  have h := c_X6_creaseOf_0 l G sz X.1 X.2.1 X.2.2.1 X.2.2.2.1 X.2.2.2.2.1 X.2.2.2.2.2 (fun _ => 0) 0 (by omega) u.1 u.2.1 u.2.2 (Z.1 0 0) (Z.1 0 1) (Z.1 1) (Z.1 2) (Z.1 3) (Z.1 4) (Z.1 5) (zN Z.1) (okg_n hZ) (Z.1 0 2) (Z.1 0 3) (Z.1 0 4) (Z.1 0 5) Z.2.1 Z.2.2.1 Z.2.2.2.1 hz Z.2.2.2.2.1 Z.2.2.2.2.2 (okg_L hZ) hu k hk9
  rw [← hZ.1] at h
  exact h
set_option maxRecDepth 100000 in
theorem k_cr1 (l : Launch) (G : GG) (sz : Nat) (X : AD) (Z : ZZ) (u : CU) {B : Nat} (hZ : OKg B Z.1) (hz : Z.2.2.2.1 ≤ 6) (hu : CV Z.1 u) (k : Nat) (hk9 : k < 9) : WRi l yX6_creaseOf wsX6_creaseOf 5 G [.ref X.1, .int (nI k), .int (nI 1)] (cT G X Z u) sz (S := CU) (fun r u9 => r = Z.1 1 k ∧ CV Z.1 u9) (fun u9 => cT G X Z u9) 0 0 := by
  have h := c_X6_creaseOf_1 l G sz X.1 X.2.1 X.2.2.1 X.2.2.2.1 X.2.2.2.2.1 X.2.2.2.2.2 (fun _ => 0) 0 (by omega) u.1 u.2.1 u.2.2 (Z.1 0 0) (Z.1 0 1) (Z.1 1) (Z.1 2) (Z.1 3) (Z.1 4) (Z.1 5) (zN Z.1) (okg_n hZ) (Z.1 0 2) (Z.1 0 3) (Z.1 0 4) (Z.1 0 5) Z.2.1 Z.2.2.1 Z.2.2.2.1 hz Z.2.2.2.2.1 Z.2.2.2.2.2 (okg_L hZ) hu k hk9
  rw [← hZ.1] at h
  exact h
set_option maxRecDepth 100000 in
theorem k_cr2 (l : Launch) (G : GG) (sz : Nat) (X : AD) (Z : ZZ) (u : CU) {B : Nat} (hZ : OKg B Z.1) (hz : Z.2.2.2.1 ≤ 6) (hu : CV Z.1 u) (k : Nat) (hk9 : k < 9) : WRi l yX6_creaseOf wsX6_creaseOf 5 G [.ref X.1, .int (nI k), .int (nI 2)] (cT G X Z u) sz (S := CU) (fun r u9 => r = bI (Z.1 0 1) (nI k) ∧ CV Z.1 u9) (fun u9 => cT G X Z u9) 0 0 := by
  have h := c_X6_creaseOf_2 l G sz X.1 X.2.1 X.2.2.1 X.2.2.2.1 X.2.2.2.2.1 X.2.2.2.2.2 (fun _ => 0) 0 (by omega) u.1 u.2.1 u.2.2 (Z.1 0 0) (Z.1 0 1) (Z.1 1) (Z.1 2) (Z.1 3) (Z.1 4) (Z.1 5) (zN Z.1) (okg_n hZ) (Z.1 0 2) (Z.1 0 3) (Z.1 0 4) (Z.1 0 5) Z.2.1 Z.2.2.1 Z.2.2.2.1 hz Z.2.2.2.2.1 Z.2.2.2.2.2 (okg_L hZ) hu k hk9
  rw [← hZ.1] at h
  exact h
set_option maxRecDepth 100000 in
theorem k_cr3 (l : Launch) (G : GG) (sz : Nat) (X : AD) (Z : ZZ) (u : CU) {B : Nat} (hZ : OKg B Z.1) (hz : Z.2.2.2.1 ≤ 6) (hu : CV Z.1 u) (k : Nat) (hk9 : k < 9) : WRi l yX6_creaseOf wsX6_creaseOf 5 G [.ref X.1, .int (nI k), .int (nI 3)] (cT G X Z u) sz (S := CU) (fun r u9 => r = sureS (zq Z.1) (nI k) ∧ CV Z.1 u9) (fun u9 => cT G X Z u9) 0 0 := by
  have h := c_X6_creaseOf_3 l G sz X.1 X.2.1 X.2.2.1 X.2.2.2.1 X.2.2.2.2.1 X.2.2.2.2.2 (fun _ => 0) 0 (by omega) u.1 u.2.1 u.2.2 (Z.1 0 0) (Z.1 0 1) (Z.1 1) (Z.1 2) (Z.1 3) (Z.1 4) (Z.1 5) (zN Z.1) (okg_n hZ) (Z.1 0 2) (Z.1 0 3) (Z.1 0 4) (Z.1 0 5) Z.2.1 Z.2.2.1 Z.2.2.2.1 hz Z.2.2.2.2.1 Z.2.2.2.2.2 (okg_L hZ) hu k hk9
  rw [← hZ.1] at h
  exact h
set_option maxRecDepth 100000 in
theorem k_co0 (l : Launch) (G : GG) (sz : Nat) (X : AD) (Z : ZZ) (u : CU) {B : Nat} (hZ : OKg B Z.1) (hz : Z.2.2.2.1 ≤ 6) (hu : CV Z.1 u) : WRi l yX6_count wsX6_count 14 G [.ref X.1, .int (nI 0)] (cT G X Z u) sz (S := CU) (fun r u9 => r = bcn (Z.1 0 0) ∧ CV Z.1 u9) (fun u9 => cT G X Z u9) 0 0 := by
  have h := c_X6_count_0 l G sz X.1 X.2.1 X.2.2.1 X.2.2.2.1 X.2.2.2.2.1 X.2.2.2.2.2 (fun _ => 0) 0 (by omega) u.1 u.2.1 u.2.2 (Z.1 0 0) (Z.1 0 1) (Z.1 1) (Z.1 2) (Z.1 3) (Z.1 4) (Z.1 5) (zN Z.1) (okg_n hZ) (Z.1 0 2) (Z.1 0 3) (Z.1 0 4) (Z.1 0 5) Z.2.1 Z.2.2.1 Z.2.2.2.1 hz Z.2.2.2.2.1 Z.2.2.2.2.2 (okg_L hZ) hu
  rw [← hZ.1] at h
  exact h
set_option maxRecDepth 100000 in
theorem k_co1 (l : Launch) (G : GG) (sz : Nat) (X : AD) (Z : ZZ) (u : CU) {B : Nat} (hZ : OKg B Z.1) (hz : Z.2.2.2.1 ≤ 6) (hu : CV Z.1 u) : WRi l yX6_count wsX6_count 14 G [.ref X.1, .int (nI 1)] (cT G X Z u) sz (S := CU) (fun r u9 => r = bcn (Z.1 0 1) ∧ CV Z.1 u9) (fun u9 => cT G X Z u9) 0 0 := by
  have h := c_X6_count_1 l G sz X.1 X.2.1 X.2.2.1 X.2.2.2.1 X.2.2.2.2.1 X.2.2.2.2.2 (fun _ => 0) 0 (by omega) u.1 u.2.1 u.2.2 (Z.1 0 0) (Z.1 0 1) (Z.1 1) (Z.1 2) (Z.1 3) (Z.1 4) (Z.1 5) (zN Z.1) (okg_n hZ) (Z.1 0 2) (Z.1 0 3) (Z.1 0 4) (Z.1 0 5) Z.2.1 Z.2.2.1 Z.2.2.2.1 hz Z.2.2.2.2.1 Z.2.2.2.2.2 (okg_L hZ) hu
  rw [← hZ.1] at h
  exact h
set_option maxRecDepth 100000 in
theorem k_co2 (l : Launch) (G : GG) (sz : Nat) (X : AD) (Z : ZZ) (u : CU) {B : Nat} (hZ : OKg B Z.1) (hz : Z.2.2.2.1 ≤ 6) (hu : CV Z.1 u) : WRi l yX6_count wsX6_count 14 G [.ref X.1, .int (nI 2)] (cT G X Z u) sz (S := CU) (fun r u9 => r = (wd (Z.1 0 0) 10).2 - (wd (Z.1 0 0) 10).1 + nI 1 ∧ CV Z.1 u9) (fun u9 => cT G X Z u9) 0 0 := by
  have h := c_X6_count_2 l G sz X.1 X.2.1 X.2.2.1 X.2.2.2.1 X.2.2.2.2.1 X.2.2.2.2.2 (fun _ => 0) 0 (by omega) u.1 u.2.1 u.2.2 (Z.1 0 0) (Z.1 0 1) (Z.1 1) (Z.1 2) (Z.1 3) (Z.1 4) (Z.1 5) (zN Z.1) (okg_n hZ) (Z.1 0 2) (Z.1 0 3) (Z.1 0 4) (Z.1 0 5) Z.2.1 Z.2.2.1 Z.2.2.2.1 hz Z.2.2.2.2.1 Z.2.2.2.2.2 (okg_L hZ) hu
  rw [← hZ.1] at h
  exact h
set_option maxRecDepth 100000 in
theorem k_co3 (l : Launch) (G : GG) (sz : Nat) (X : AD) (Z : ZZ) (u : CU) {B : Nat} (hZ : OKg B Z.1) (hz : Z.2.2.2.1 ≤ 6) (hu : CV Z.1 u) : WRi l yX6_count wsX6_count 14 G [.ref X.1, .int (nI 3)] (cT G X Z u) sz (S := CU) (fun r u9 => r = Z.1 0 6 ∧ CV Z.1 u9) (fun u9 => cT G X Z u9) 0 0 := by
  have h := c_X6_count_3 l G sz X.1 X.2.1 X.2.2.1 X.2.2.2.1 X.2.2.2.2.1 X.2.2.2.2.2 (fun _ => 0) 0 (by omega) u.1 u.2.1 u.2.2 (Z.1 0 0) (Z.1 0 1) (Z.1 1) (Z.1 2) (Z.1 3) (Z.1 4) (Z.1 5) (zN Z.1) (okg_n hZ) (Z.1 0 2) (Z.1 0 3) (Z.1 0 4) (Z.1 0 5) Z.2.1 Z.2.2.1 Z.2.2.2.1 hz Z.2.2.2.2.1 Z.2.2.2.2.2 (okg_L hZ) hu
  simp only [coC] at h
  rw [← hZ.1] at h
  exact h
set_option maxRecDepth 100000 in
theorem k_co4 (l : Launch) (G : GG) (sz : Nat) (X : AD) (Z : ZZ) (u : CU) {B : Nat} (hZ : OKg B Z.1) (hz : Z.2.2.2.1 ≤ 6) (hu : CV Z.1 u) : WRi l yX6_count wsX6_count 14 G [.ref X.1, .int (nI 4)] (cT G X Z u) sz (S := CU) (fun r u9 => r = nI (cN (zq Z.1) 512) ∧ CV Z.1 u9) (fun u9 => cT G X Z u9) 0 0 := by
  have h := c_X6_count_4 l G sz X.1 X.2.1 X.2.2.1 X.2.2.2.1 X.2.2.2.2.1 X.2.2.2.2.2 (fun _ => 0) 0 (by omega) u.1 u.2.1 u.2.2 (Z.1 0 0) (Z.1 0 1) (Z.1 1) (Z.1 2) (Z.1 3) (Z.1 4) (Z.1 5) (zN Z.1) (okg_n hZ) (Z.1 0 2) (Z.1 0 3) (Z.1 0 4) (Z.1 0 5) Z.2.1 Z.2.2.1 Z.2.2.2.1 hz Z.2.2.2.2.1 Z.2.2.2.2.2 (okg_L hZ) hu
  rw [← hZ.1] at h
  exact h
set_option maxRecDepth 100000 in
theorem k_co5 (l : Launch) (G : GG) (sz : Nat) (X : AD) (Z : ZZ) (u : CU) {B : Nat} (hZ : OKg B Z.1) (hz : Z.2.2.2.1 ≤ 6) (hu : CV Z.1 u) : WRi l yX6_count wsX6_count 14 G [.ref X.1, .int (nI 5)] (cT G X Z u) sz (S := CU) (fun r u9 => r = fwC (Z.1 0 1) (Z.1 3) (Z.1 4) (Z.1 5) (zN Z.1) 9 0 (nI 0) ∧ CV Z.1 u9) (fun u9 => cT G X Z u9) 0 0 := by
  have h := c_X6_count_5 l G sz X.1 X.2.1 X.2.2.1 X.2.2.2.1 X.2.2.2.2.1 X.2.2.2.2.2 (fun _ => 0) 0 (by omega) u.1 u.2.1 u.2.2 (Z.1 0 0) (Z.1 0 1) (Z.1 1) (Z.1 2) (Z.1 3) (Z.1 4) (Z.1 5) (zN Z.1) (okg_n hZ) (Z.1 0 2) (Z.1 0 3) (Z.1 0 4) (Z.1 0 5) Z.2.1 Z.2.2.1 Z.2.2.2.1 hz Z.2.2.2.2.1 Z.2.2.2.2.2 (okg_L hZ) hu
  rw [← hZ.1] at h
  exact h
set_option maxRecDepth 100000 in
theorem k_co6 (l : Launch) (G : GG) (sz : Nat) (X : AD) (Z : ZZ) (u : CU) {B : Nat} (hZ : OKg B Z.1) (hz : Z.2.2.2.1 ≤ 6) (hu : CV Z.1 u) : WRi l yX6_count wsX6_count 14 G [.ref X.1, .int (nI 6)] (cT G X Z u) sz (S := CU) (fun r u9 => r = Z.1 0 2 ∧ CV Z.1 u9) (fun u9 => cT G X Z u9) 0 0 := by
  have h := c_X6_count_6 l G sz X.1 X.2.1 X.2.2.1 X.2.2.2.1 X.2.2.2.2.1 X.2.2.2.2.2 (fun _ => 0) 0 (by omega) u.1 u.2.1 u.2.2 (Z.1 0 0) (Z.1 0 1) (Z.1 1) (Z.1 2) (Z.1 3) (Z.1 4) (Z.1 5) (zN Z.1) (okg_n hZ) (Z.1 0 2) (Z.1 0 3) (Z.1 0 4) (Z.1 0 5) Z.2.1 Z.2.2.1 Z.2.2.2.1 hz Z.2.2.2.2.1 Z.2.2.2.2.2 (okg_L hZ) hu
  rw [← hZ.1] at h
  exact h
set_option maxRecDepth 100000 in
theorem k_co7 (l : Launch) (G : GG) (sz : Nat) (X : AD) (Z : ZZ) (u : CU) {B : Nat} (hZ : OKg B Z.1) (hz : Z.2.2.2.1 ≤ 6) (hu : CV Z.1 u) : WRi l yX6_count wsX6_count 14 G [.ref X.1, .int (nI 7)] (cT G X Z u) sz (S := CU) (fun r u9 => r = Z.1 0 3 ∧ CV Z.1 u9) (fun u9 => cT G X Z u9) 0 0 := by
  have h := c_X6_count_7 l G sz X.1 X.2.1 X.2.2.1 X.2.2.2.1 X.2.2.2.2.1 X.2.2.2.2.2 (fun _ => 0) 0 (by omega) u.1 u.2.1 u.2.2 (Z.1 0 0) (Z.1 0 1) (Z.1 1) (Z.1 2) (Z.1 3) (Z.1 4) (Z.1 5) (zN Z.1) (okg_n hZ) (Z.1 0 2) (Z.1 0 3) (Z.1 0 4) (Z.1 0 5) Z.2.1 Z.2.2.1 Z.2.2.2.1 hz Z.2.2.2.2.1 Z.2.2.2.2.2 (okg_L hZ) hu
  rw [← hZ.1] at h
  exact h
set_option maxRecDepth 100000 in
theorem k_co8 (l : Launch) (G : GG) (sz : Nat) (X : AD) (Z : ZZ) (u : CU) {B : Nat} (hZ : OKg B Z.1) (hz : Z.2.2.2.1 ≤ 6) (hu : CV Z.1 u) : WRi l yX6_count wsX6_count 14 G [.ref X.1, .int (nI 8)] (cT G X Z u) sz (S := CU) (fun r u9 => r = Z.1 0 4 ∧ CV Z.1 u9) (fun u9 => cT G X Z u9) 0 0 := by
  have h := c_X6_count_8 l G sz X.1 X.2.1 X.2.2.1 X.2.2.2.1 X.2.2.2.2.1 X.2.2.2.2.2 (fun _ => 0) 0 (by omega) u.1 u.2.1 u.2.2 (Z.1 0 0) (Z.1 0 1) (Z.1 1) (Z.1 2) (Z.1 3) (Z.1 4) (Z.1 5) (zN Z.1) (okg_n hZ) (Z.1 0 2) (Z.1 0 3) (Z.1 0 4) (Z.1 0 5) Z.2.1 Z.2.2.1 Z.2.2.2.1 hz Z.2.2.2.2.1 Z.2.2.2.2.2 (okg_L hZ) hu
  rw [← hZ.1] at h
  exact h
set_option maxRecDepth 100000 in
theorem k_co9 (l : Launch) (G : GG) (sz : Nat) (X : AD) (Z : ZZ) (u : CU) {B : Nat} (hZ : OKg B Z.1) (hz : Z.2.2.2.1 ≤ 6) (hu : CV Z.1 u) : WRi l yX6_count wsX6_count 14 G [.ref X.1, .int (nI 9)] (cT G X Z u) sz (S := CU) (fun r u9 => r = Z.1 0 5 ∧ CV Z.1 u9) (fun u9 => cT G X Z u9) 0 0 := by
  have h := c_X6_count_9 l G sz X.1 X.2.1 X.2.2.1 X.2.2.2.1 X.2.2.2.2.1 X.2.2.2.2.2 (fun _ => 0) 0 (by omega) u.1 u.2.1 u.2.2 (Z.1 0 0) (Z.1 0 1) (Z.1 1) (Z.1 2) (Z.1 3) (Z.1 4) (Z.1 5) (zN Z.1) (okg_n hZ) (Z.1 0 2) (Z.1 0 3) (Z.1 0 4) (Z.1 0 5) Z.2.1 Z.2.2.1 Z.2.2.2.1 hz Z.2.2.2.2.1 Z.2.2.2.2.2 (okg_L hZ) hu
  rw [← hZ.1] at h
  exact h
set_option maxRecDepth 100000 in
theorem k_co10 (l : Launch) (G : GG) (sz : Nat) (X : AD) (Z : ZZ) (u : CU) {B : Nat} (hZ : OKg B Z.1) (hz : Z.2.2.2.1 ≤ 6) (hu : CV Z.1 u) : WRi l yX6_count wsX6_count 14 G [.ref X.1, .int (nI 10)] (cT G X Z u) sz (S := CU) (fun r u9 => r = nI Z.2.2.2.1 ∧ CV Z.1 u9) (fun u9 => cT G X Z u9) 0 0 := by
  have h := c_X6_count_10 l G sz X.1 X.2.1 X.2.2.1 X.2.2.2.1 X.2.2.2.2.1 X.2.2.2.2.2 (fun _ => 0) 0 (by omega) u.1 u.2.1 u.2.2 (Z.1 0 0) (Z.1 0 1) (Z.1 1) (Z.1 2) (Z.1 3) (Z.1 4) (Z.1 5) (zN Z.1) (okg_n hZ) (Z.1 0 2) (Z.1 0 3) (Z.1 0 4) (Z.1 0 5) Z.2.1 Z.2.2.1 Z.2.2.2.1 hz Z.2.2.2.2.1 Z.2.2.2.2.2 (okg_L hZ) hu
  rw [← hZ.1] at h
  exact h
set_option maxRecDepth 100000 in
theorem k_town (l : Launch) (G : GG) (X : AD) (Z : ZZ) (u : CU) {B : Nat} (hZ : OKg B Z.1) (hz : Z.2.2.2.1 ≤ 6) (i : Nat) (hi6 : i < 6) : RD l yX6_town wsX6_town 2 G [.ref X.1, .int (nI i)] (cT G X Z u) (some (.int (Z.1 2 i))) := by
  have h := c_X6_town_ok l G X.1 X.2.1 X.2.2.1 X.2.2.2.1 X.2.2.2.2.1 X.2.2.2.2.2 (fun _ => 0) 0 (by omega) u.1 u.2.1 u.2.2 (Z.1 0 0) (Z.1 0 1) (Z.1 1) (Z.1 2) (Z.1 3) (Z.1 4) (Z.1 5) (zN Z.1) (okg_n hZ) (Z.1 0 2) (Z.1 0 3) (Z.1 0 4) (Z.1 0 5) Z.2.1 Z.2.2.1 Z.2.2.2.1 hz Z.2.2.2.2.1 Z.2.2.2.2.2 i hi6
  rw [← hZ.1] at h
  exact h
set_option maxRecDepth 100000 in
theorem k_bt0 (l : Launch) (G : GG) (X : AD) (Z : ZZ) (u : CU) {B : Nat} (hZ : OKg B Z.1) (hz : Z.2.2.2.1 ≤ 6) (i o : Nat) (hi6 : i < 6) (ho : o < 6) : RD l yX6_between wsX6_between 4 G [.ref X.1, .int (nI i), .int (nI o), .int (nI 0)] (cT G X Z u) (some (.int (abI (Z.1 2 i - Z.1 2 o)))) := by
  have h := c_X6_between l G X.1 X.2.1 X.2.2.1 X.2.2.2.1 X.2.2.2.2.1 X.2.2.2.2.2 (fun _ => 0) 0 (by omega) u.1 u.2.1 u.2.2 (Z.1 0 0) (Z.1 0 1) (Z.1 1) (Z.1 2) (Z.1 3) (Z.1 4) (Z.1 5) (zN Z.1) (okg_n hZ) (Z.1 0 2) (Z.1 0 3) (Z.1 0 4) (Z.1 0 5) Z.2.1 Z.2.2.1 Z.2.2.2.1 hz Z.2.2.2.2.1 Z.2.2.2.2.2 i o hi6 ho (okg_P hZ i hi6) (okg_P hZ o ho) 0 (by omega)
  rw [← hZ.1] at h
  exact h
set_option maxRecDepth 100000 in
theorem k_bt1 (l : Launch) (G : GG) (X : AD) (Z : ZZ) (u : CU) {B : Nat} (hZ : OKg B Z.1) (hz : Z.2.2.2.1 ≤ 6) (i o : Nat) (hi6 : i < 6) (ho : o < 6) : RD l yX6_between wsX6_between 4 G [.ref X.1, .int (nI i), .int (nI o), .int (nI 1)] (cT G X Z u) (some (.int (abI ((pw (Z.1 0 0) (cl (Z.1 2 i))).1 - (pw (Z.1 0 0) (cl (Z.1 2 o))).1)))) := by
  have h := c_X6_between l G X.1 X.2.1 X.2.2.1 X.2.2.2.1 X.2.2.2.2.1 X.2.2.2.2.2 (fun _ => 0) 0 (by omega) u.1 u.2.1 u.2.2 (Z.1 0 0) (Z.1 0 1) (Z.1 1) (Z.1 2) (Z.1 3) (Z.1 4) (Z.1 5) (zN Z.1) (okg_n hZ) (Z.1 0 2) (Z.1 0 3) (Z.1 0 4) (Z.1 0 5) Z.2.1 Z.2.2.1 Z.2.2.2.1 hz Z.2.2.2.2.1 Z.2.2.2.2.2 i o hi6 ho (okg_P hZ i hi6) (okg_P hZ o ho) 1 (by omega)
  rw [← hZ.1] at h
  exact h
set_option maxRecDepth 100000 in
theorem k_bt2 (l : Launch) (G : GG) (X : AD) (Z : ZZ) (u : CU) {B : Nat} (hZ : OKg B Z.1) (hz : Z.2.2.2.1 ≤ 6) (i o : Nat) (hi6 : i < 6) (ho : o < 6) : RD l yX6_between wsX6_between 4 G [.ref X.1, .int (nI i), .int (nI o), .int (nI 2)] (cT G X Z u) (some (.int (b2 (mt (Z.1 0 0) (cl (Z.1 2 i)) (cl (Z.1 2 o)))))) := by
  have h := c_X6_between l G X.1 X.2.1 X.2.2.1 X.2.2.2.1 X.2.2.2.2.1 X.2.2.2.2.2 (fun _ => 0) 0 (by omega) u.1 u.2.1 u.2.2 (Z.1 0 0) (Z.1 0 1) (Z.1 1) (Z.1 2) (Z.1 3) (Z.1 4) (Z.1 5) (zN Z.1) (okg_n hZ) (Z.1 0 2) (Z.1 0 3) (Z.1 0 4) (Z.1 0 5) Z.2.1 Z.2.2.1 Z.2.2.2.1 hz Z.2.2.2.2.1 Z.2.2.2.2.2 i o hi6 ho (okg_P hZ i hi6) (okg_P hZ o ho) 2 (by omega)
  rw [← hZ.1] at h
  exact h
set_option maxRecDepth 100000 in
theorem k_bt3 (l : Launch) (G : GG) (X : AD) (Z : ZZ) (u : CU) {B : Nat} (hZ : OKg B Z.1) (hz : Z.2.2.2.1 ≤ 6) (i o : Nat) (hi6 : i < 6) (ho : o < 6) : RD l yX6_between wsX6_between 4 G [.ref X.1, .int (nI i), .int (nI o), .int (nI 3)] (cT G X Z u) (some (.int (abt (Z.1 3) (Z.1 4) (Z.1 5) (zN Z.1) (nI (cl (Z.1 2 i))) (nI (cl (Z.1 2 o)))))) := by
  have h := c_X6_between l G X.1 X.2.1 X.2.2.1 X.2.2.2.1 X.2.2.2.2.1 X.2.2.2.2.2 (fun _ => 0) 0 (by omega) u.1 u.2.1 u.2.2 (Z.1 0 0) (Z.1 0 1) (Z.1 1) (Z.1 2) (Z.1 3) (Z.1 4) (Z.1 5) (zN Z.1) (okg_n hZ) (Z.1 0 2) (Z.1 0 3) (Z.1 0 4) (Z.1 0 5) Z.2.1 Z.2.2.1 Z.2.2.2.1 hz Z.2.2.2.2.1 Z.2.2.2.2.2 i o hi6 ho (okg_P hZ i hi6) (okg_P hZ o ho) 3 (by omega)
  rw [← hZ.1] at h
  exact h
set_option maxRecDepth 100000 in
theorem k_po0 (l : Launch) (G : GG) (X : AD) (Z : ZZ) (u : CU) {B : Nat} (hZ : OKg B Z.1) (hz : Z.2.2.2.1 ≤ 6) (q : Nat) (hq : q < 10) : RD l yX6_panelOf wsX6_panelOf 4 G [.ref X.1, .int (nI q), .int (nI 0)] (cT G X Z u) (some (.int ((pw (Z.1 0 0) q).1 + nI 100))) := by
  have h := c_X6_panelOf l G X.1 X.2.1 X.2.2.1 X.2.2.2.1 X.2.2.2.2.1 X.2.2.2.2.2 (fun _ => 0) 0 (by omega) u.1 u.2.1 u.2.2 (Z.1 0 0) (Z.1 0 1) (Z.1 1) (Z.1 2) (Z.1 3) (Z.1 4) (Z.1 5) (zN Z.1) (okg_n hZ) (Z.1 0 2) (Z.1 0 3) (Z.1 0 4) (Z.1 0 5) Z.2.1 Z.2.2.1 Z.2.2.2.1 hz Z.2.2.2.2.1 Z.2.2.2.2.2 q hq 0 (by omega)
  rw [← hZ.1] at h
  exact h
set_option maxRecDepth 100000 in
theorem k_po1 (l : Launch) (G : GG) (X : AD) (Z : ZZ) (u : CU) {B : Nat} (hZ : OKg B Z.1) (hz : Z.2.2.2.1 ≤ 6) (q : Nat) (hq : q < 10) : RD l yX6_panelOf wsX6_panelOf 4 G [.ref X.1, .int (nI q), .int (nI 1)] (cT G X Z u) (some (.int (tonS (Z.1 2) (nI q) 6))) := by
  have h := c_X6_panelOf l G X.1 X.2.1 X.2.2.1 X.2.2.2.1 X.2.2.2.2.1 X.2.2.2.2.2 (fun _ => 0) 0 (by omega) u.1 u.2.1 u.2.2 (Z.1 0 0) (Z.1 0 1) (Z.1 1) (Z.1 2) (Z.1 3) (Z.1 4) (Z.1 5) (zN Z.1) (okg_n hZ) (Z.1 0 2) (Z.1 0 3) (Z.1 0 4) (Z.1 0 5) Z.2.1 Z.2.2.1 Z.2.2.2.1 hz Z.2.2.2.2.1 Z.2.2.2.2.2 q hq 1 (by omega)
  rw [← hZ.1] at h
  exact h
set_option maxRecDepth 100000 in
theorem k_po2 (l : Launch) (G : GG) (X : AD) (Z : ZZ) (u : CU) {B : Nat} (hZ : OKg B Z.1) (hz : Z.2.2.2.1 ≤ 6) (q : Nat) (hq : q < 10) : RD l yX6_panelOf wsX6_panelOf 4 G [.ref X.1, .int (nI q), .int (nI 2)] (cT G X Z u) (some (.int (sumI (fun j => b2 (mt (Z.1 0 0) q j)) 10))) := by
  have h := c_X6_panelOf l G X.1 X.2.1 X.2.2.1 X.2.2.2.1 X.2.2.2.2.1 X.2.2.2.2.2 (fun _ => 0) 0 (by omega) u.1 u.2.1 u.2.2 (Z.1 0 0) (Z.1 0 1) (Z.1 1) (Z.1 2) (Z.1 3) (Z.1 4) (Z.1 5) (zN Z.1) (okg_n hZ) (Z.1 0 2) (Z.1 0 3) (Z.1 0 4) (Z.1 0 5) Z.2.1 Z.2.2.1 Z.2.2.2.1 hz Z.2.2.2.2.1 Z.2.2.2.2.2 q hq 2 (by omega)
  rw [← hZ.1] at h
  exact h
set_option maxRecDepth 100000 in
theorem k_weak (l : Launch) (G : GG) (X : AD) (Z : ZZ) (u : CU) {B : Nat} (hZ : OKg B Z.1) (hz : Z.2.2.2.1 ≤ 6) : RD l yX6_weakest wsX6_weakest 3 G [.ref X.1] (cT G X Z u) (some (.int ((wkC (Z.1 0 0) (Z.1 1) 9).1))) := by
  have h := c_X6_weakest l G X.1 X.2.1 X.2.2.1 X.2.2.2.1 X.2.2.2.2.1 X.2.2.2.2.2 (fun _ => 0) 0 (by omega) u.1 u.2.1 u.2.2 (Z.1 0 0) (Z.1 0 1) (Z.1 1) (Z.1 2) (Z.1 3) (Z.1 4) (Z.1 5) (zN Z.1) (okg_n hZ) (Z.1 0 2) (Z.1 0 3) (Z.1 0 4) (Z.1 0 5) Z.2.1 Z.2.2.1 Z.2.2.2.1 hz Z.2.2.2.2.1 Z.2.2.2.2.2
  rw [← hZ.1] at h
  exact h
set_option maxRecDepth 100000 in
theorem k_ift (l : Launch) (G : GG) (sz : Nat) (X : AD) (Z : ZZ) (u : CU) {B : Nat} (hZ : OKg B Z.1) (hz : Z.2.2.2.1 ≤ 6) (hu : CV Z.1 u) (i o : Nat) (hi6 : i < 6) (ho : o < 6) (hto : i ≠ o) : WRi l yX6_ifTouching wsX6_ifTouching 5 G [.ref X.1, .int (nI i), .int (nI o)] (cT G X Z u) sz (S := CU) (fun r u9 => r = meS (zq Z.1) (cl (Z.1 2 i)) (cl (Z.1 2 o)) ∧ CV Z.1 u9) (fun u9 => cT G X Z u9) 0 0 := by
  have h := c_X6_ifTouching l G sz X.1 X.2.1 X.2.2.1 X.2.2.2.1 X.2.2.2.2.1 X.2.2.2.2.2 (fun _ => 0) 0 (by omega) u.1 u.2.1 u.2.2 (Z.1 0 0) (Z.1 0 1) (Z.1 1) (Z.1 2) (Z.1 3) (Z.1 4) (Z.1 5) (zN Z.1) (okg_n hZ) (Z.1 0 2) (Z.1 0 3) (Z.1 0 4) (Z.1 0 5) Z.2.1 Z.2.2.1 Z.2.2.2.1 hz Z.2.2.2.2.1 Z.2.2.2.2.2 (okg_L hZ) hu i o hi6 ho (okg_P hZ i hi6) (okg_P hZ o ho) hto
  rw [← hZ.1] at h
  exact h
set_option maxRecDepth 100000 in
theorem k_best (l : Launch) (G : GG) (sz : Nat) (X : AD) (Z : ZZ) (u : CU) {B : Nat} (hZ : OKg B Z.1) (hz : Z.2.2.2.1 ≤ 6) (hu : CV Z.1 u) : WRi l yX6_bestQuestion wsX6_bestQuestion 6 G [.ref X.1] (cT G X Z u) sz (S := CU) (fun r u9 => r = (outC (askW (Z.1 2) (Z.1 3) (Z.1 4) (Z.1 5) (zN Z.1)) (worW (zq Z.1) (Z.1 2)) 6).1 ∧ CV Z.1 u9) (fun u9 => cT G X Z u9) 0 0 := by
  have h := c_X6_bestQuestion l G sz X.1 X.2.1 X.2.2.1 X.2.2.2.1 X.2.2.2.2.1 X.2.2.2.2.2 (fun _ => 0) 0 (by omega) u.1 u.2.1 u.2.2 (Z.1 0 0) (Z.1 0 1) (Z.1 1) (Z.1 2) (Z.1 3) (Z.1 4) (Z.1 5) (zN Z.1) (okg_n hZ) (Z.1 0 2) (Z.1 0 3) (Z.1 0 4) (Z.1 0 5) Z.2.1 Z.2.2.1 Z.2.2.2.1 hz Z.2.2.2.2.1 Z.2.2.2.2.2 (okg_L hZ) hu (okg_P hZ)
  rw [← hZ.1] at h
  exact h
set_option maxRecDepth 100000 in
theorem k_fol (l : Launch) (G : GG) (sz : Nat) (X : AD) (Z : ZZ) (u : CU) {B : Nat} (hZ : OKg B Z.1) (hz : Z.2.2.2.1 ≤ 6) (hu : CV Z.1 u) (x : Int32) (hx0 : ¬ x < 0) : WRi l yX6_folding wsX6_folding 5 G [.ref X.1, .int x] (cT G X Z u) sz (S := CU) (fun r u9 => r = faM (zq Z.1) x 512 0 ∧ CV Z.1 u9) (fun u9 => cT G X Z u9) 0 0 := by
  have h := c_X6_folding l G sz X.1 X.2.1 X.2.2.1 X.2.2.2.1 X.2.2.2.2.1 X.2.2.2.2.2 (fun _ => 0) 0 (by omega) u.1 u.2.1 u.2.2 (Z.1 0 0) (Z.1 0 1) (Z.1 1) (Z.1 2) (Z.1 3) (Z.1 4) (Z.1 5) (zN Z.1) (okg_n hZ) (Z.1 0 2) (Z.1 0 3) (Z.1 0 4) (Z.1 0 5) Z.2.1 Z.2.2.1 Z.2.2.2.1 hz Z.2.2.2.2.1 Z.2.2.2.2.2 (okg_L hZ) hu x hx0
  rw [← hZ.1] at h
  exact h
set_option maxRecDepth 100000 in
theorem k_share (l : Launch) (G : GG) (sz : Nat) (X : AD) (Z : ZZ) (u : CU) {B : Nat} (hZ : OKg B Z.1) (hz : Z.2.2.2.1 ≤ 6) (hu : CV Z.1 u) : WRd l yX6_sureShare wsX6_sureShare 5 G [.ref X.1] (cT G X Z u) sz (S := CU) (fun r u9 => r = shV (cN (zq Z.1) 512) ∧ CV Z.1 u9) (fun u9 => cT G X Z u9) 0 0 := by
  have h := c_X6_sureShare l G sz X.1 X.2.1 X.2.2.1 X.2.2.2.1 X.2.2.2.2.1 X.2.2.2.2.2 (fun _ => 0) 0 (by omega) u.1 u.2.1 u.2.2 (Z.1 0 0) (Z.1 0 1) (Z.1 1) (Z.1 2) (Z.1 3) (Z.1 4) (Z.1 5) (zN Z.1) (okg_n hZ) (Z.1 0 2) (Z.1 0 3) (Z.1 0 4) (Z.1 0 5) Z.2.1 Z.2.2.1 Z.2.2.2.1 hz Z.2.2.2.2.1 Z.2.2.2.2.2 (okg_L hZ) hu
  rw [← hZ.1] at h
  exact h
set_option maxRecDepth 100000 in
theorem k_fold (l : Launch) (G : GG) (sz : Nat) (X : AD) (Z : ZZ) (u : CU) {B : Nat} (hZ : OKg B Z.1) (hz : Z.2.2.2.1 ≤ 6) (c : Nat) (hc : c < 9) : WRi l yX6_fold wsX6_fold 5 G [.ref X.1, .int (nI c)] (cT G X Z u) sz (S := Unit) (fun r _ => r = if tornC (Z.1 0 1) c then -1 else bI (Z.1 0 0 ^^^ ms1 (nI c)) (nI c)) (fun _ => cT G X (zS Z (gFold Z.1 c)) (u.1, u.2.1, nI 0)) 0 0 := by
  have h := c_X6_fold_ok l G sz X.1 X.2.1 X.2.2.1 X.2.2.2.1 X.2.2.2.2.1 X.2.2.2.2.2 (fun _ => 0) 0 (by omega) u.1 u.2.1 u.2.2 (Z.1 0 0) (Z.1 0 1) (Z.1 1) (Z.1 2) (Z.1 3) (Z.1 4) (Z.1 5) (zN Z.1) (okg_n hZ) (Z.1 0 2) (Z.1 0 3) (Z.1 0 4) (Z.1 0 5) Z.2.1 Z.2.2.1 Z.2.2.2.1 hz Z.2.2.2.2.1 Z.2.2.2.2.2 c hc
  rw [← hZ.1] at h
  exact h
set_option maxRecDepth 100000 in
theorem k_move (l : Launch) (G : GG) (sz : Nat) (X : AD) (Z : ZZ) (u : CU) {B : Nat} (hZ : OKg B Z.1) (hz : Z.2.2.2.1 ≤ 6) (i : Nat) (hi6 : i < 6) (q : Nat) (hq : q < 10) : WRi l yX6_move wsX6_move 5 G [.ref X.1, .int (nI i), .int (nI q)] (cT G X Z u) sz (S := Unit) (fun r _ => r = Z.1 2 i) (fun _ => cT G X (zS Z (gMove Z.1 i q)) (u.1, u.2.1, nI 0)) 0 0 := by
  have h := c_X6_move_ok l G sz X.1 X.2.1 X.2.2.1 X.2.2.2.1 X.2.2.2.2.1 X.2.2.2.2.2 (fun _ => 0) 0 (by omega) u.1 u.2.1 u.2.2 (Z.1 0 0) (Z.1 0 1) (Z.1 1) (Z.1 2) (Z.1 3) (Z.1 4) (Z.1 5) (zN Z.1) (okg_n hZ) (Z.1 0 2) (Z.1 0 3) (Z.1 0 4) (Z.1 0 5) Z.2.1 Z.2.2.1 Z.2.2.2.1 hz Z.2.2.2.2.1 Z.2.2.2.2.2 i hi6 q hq
  rw [← hZ.1] at h
  exact h
set_option maxRecDepth 100000 in
theorem k_pull (l : Launch) (G : GG) (sz : Nat) (X : AD) (Z : ZZ) (u : CU) {B : Nat} (hZ : OKg B Z.1) (hz : Z.2.2.2.1 ≤ 6) (y : Nat) (hy1 : 1 ≤ y) (hy9 : y ≤ 9) : WRi l yX6_pull wsX6_pull 5 G [.ref X.1, .int (nI y)] (cT G X Z u) sz (S := Unit) (fun r _ => r = bcn (tea Z.1 y)) (fun _ => cT G X (zS Z (gPull Z.1 y)) (u.1, u.2.1, nI 0)) 0 0 := by
  have h := c_X6_pull_ok l G sz X.1 X.2.1 X.2.2.1 X.2.2.2.1 X.2.2.2.2.1 X.2.2.2.2.2 (fun _ => 0) 0 (by omega) u.1 u.2.1 u.2.2 (Z.1 0 0) (Z.1 0 1) (Z.1 1) (Z.1 2) (Z.1 3) (Z.1 4) (Z.1 5) (zN Z.1) (okg_n hZ) (Z.1 0 2) (Z.1 0 3) (Z.1 0 4) (Z.1 0 5) Z.2.1 Z.2.2.1 Z.2.2.2.1 hz Z.2.2.2.2.1 Z.2.2.2.2.2 y hy1 hy9
  rw [← hZ.1] at h
  exact h
set_option maxRecDepth 100000 in
theorem k_renew (l : Launch) (G : GG) (sz : Nat) (X : AD) (Z : ZZ) (u : CU) {B : Nat} (hZ : OKg B Z.1) (hz : Z.2.2.2.1 ≤ 6) : WRi l yX6_renew wsX6_renew 5 G [.ref X.1] (cT G X Z u) sz (S := Unit) (fun r _ => r = bcn (Z.1 0 1)) (fun _ => cT G X (zS Z (gRenew Z.1)) (u.1, u.2.1, nI 0)) 0 0 := by
  have h := c_X6_renew_ok l G sz X.1 X.2.1 X.2.2.1 X.2.2.2.1 X.2.2.2.2.1 X.2.2.2.2.2 (fun _ => 0) 0 (by omega) u.1 u.2.1 u.2.2 (Z.1 0 0) (Z.1 0 1) (Z.1 1) (Z.1 2) (Z.1 3) (Z.1 4) (Z.1 5) (zN Z.1) (okg_n hZ) (Z.1 0 2) (Z.1 0 3) (Z.1 0 4) (Z.1 0 5) Z.2.1 Z.2.2.1 Z.2.2.2.1 hz Z.2.2.2.2.1 Z.2.2.2.2.2
  rw [← hZ.1] at h
  exact h
set_option maxRecDepth 100000 in
theorem k_ask (l : Launch) (G : GG) (sz : Nat) (X : AD) (Z : ZZ) (u : CU) {B : Nat} (hZ : OKg B Z.1) (hz : Z.2.2.2.1 ≤ 6) (i o : Nat) (hi6 : i < 6) (ho : o < 6) (hto : i ≠ o) : WRi l yX6_ask wsX6_ask 5 G [.ref X.1, .int (nI i), .int (nI o)] (cT G X Z u) sz (S := Unit) (fun r _ => r = if refdC (Z.1 3) (Z.1 4) (Z.1 5) (zN Z.1) (nI (cl (Z.1 2 i))) (nI (cl (Z.1 2 o))) then -1 else b2 (mt (Z.1 0 0) (cl (Z.1 2 i)) (cl (Z.1 2 o)))) (fun _ => cT G X (zS Z (gAsk Z.1 i o)) (u.1, u.2.1, nI 0)) 0 0 := by
  have h := c_X6_ask_ok l G sz X.1 X.2.1 X.2.2.1 X.2.2.2.1 X.2.2.2.2.1 X.2.2.2.2.2 (fun _ => 0) 0 (by omega) u.1 u.2.1 u.2.2 (Z.1 0 0) (Z.1 0 1) (Z.1 1) (Z.1 2) (Z.1 3) (Z.1 4) (Z.1 5) (zN Z.1) (okg_n hZ) (Z.1 0 2) (Z.1 0 3) (Z.1 0 4) (Z.1 0 5) Z.2.1 Z.2.2.1 Z.2.2.2.1 hz Z.2.2.2.2.1 Z.2.2.2.2.2 i o hi6 ho hto (okg_P hZ i hi6) (okg_P hZ o ho)
  rw [← hZ.1] at h
  exact h
set_option maxRecDepth 100000 in
theorem k_guess (l : Launch) (G : GG) (sz : Nat) (X : AD) (Z : ZZ) (u : CU) {B : Nat} (hZ : OKg B Z.1) (hz : Z.2.2.2.1 ≤ 6) (q : Nat) (hq : q < 512) : WRi l yX6_guess wsX6_guess 5 G [.ref X.1, .int (nI q)] (cT G X Z u) sz (S := Unit) (fun r _ => r = if nI q = Z.1 0 0 then nI 10 else nI 9 - bcn (nI q ^^^ Z.1 0 0)) (fun _ => cT G X (zS Z (gGues Z.1 q)) (u.1, u.2.1, nI 0)) 0 0 := by
  have h := c_X6_guess_ok l G sz X.1 X.2.1 X.2.2.1 X.2.2.2.1 X.2.2.2.2.1 X.2.2.2.2.2 (fun _ => 0) 0 (by omega) u.1 u.2.1 u.2.2 (Z.1 0 0) (Z.1 0 1) (Z.1 1) (Z.1 2) (Z.1 3) (Z.1 4) (Z.1 5) (zN Z.1) (okg_n hZ) (Z.1 0 2) (Z.1 0 3) (Z.1 0 4) (Z.1 0 5) Z.2.1 Z.2.2.1 Z.2.2.2.1 hz Z.2.2.2.2.1 Z.2.2.2.2.2 q hq
  rw [← hZ.1] at h
  exact h
set_option maxRecDepth 100000 in
theorem k_forget (l : Launch) (G : GG) (sz : Nat) (X : AD) (Z : ZZ) (u : CU) {B : Nat} (hZ : OKg B Z.1) (hz : Z.2.2.2.1 ≤ 6) : WRi l yX6_forget wsX6_forget 5 G [.ref X.1] (cT G X Z u) sz (S := Unit) (fun r _ => r = Z.1 0 6) (fun _ => cT G X (zS Z (gForg Z.1)) (u.1, u.2.1, nI 0)) 0 0 := by
  have h := c_X6_forget_ok l G sz X.1 X.2.1 X.2.2.1 X.2.2.2.1 X.2.2.2.2.1 X.2.2.2.2.2 (fun _ => 0) 0 (by omega) u.1 u.2.1 u.2.2 (Z.1 0 0) (Z.1 0 1) (Z.1 1) (Z.1 2) (Z.1 3) (Z.1 4) (Z.1 5) (zN Z.1) (okg_n hZ) (Z.1 0 2) (Z.1 0 3) (Z.1 0 4) (Z.1 0 5) Z.2.1 Z.2.2.1 Z.2.2.2.1 hz Z.2.2.2.2.1 Z.2.2.2.2.2
  rw [← hZ.1] at h
  exact h
set_option maxRecDepth 100000 in
theorem k_keepn (l : Launch) (G : GG) (sz : Nat) (X : AD) (g : Nat → Nat → Int32) (P : Nat → Nat → Nat) (F : Nat → Nat → Nat → Int32) (z : Nat) (o1 : SLO) (u : CU) {B : Nat} (hZ : OKg B g) (hz : z ≤ 6) : WRi l yX6_keep wsX6_keep 4 G [.ref X.1, .int (nI 0)] (cT G X (g, P, F, z, none, o1) u) sz (S := Nat → Nat) (fun r _ => r = g 0 6) (fun a1 => cT G X (g, P, F, z, some (a1, gB g), o1) u) 7 64 := by
  have h := c_X6_keep_n0 l G sz X.1 X.2.1 X.2.2.1 X.2.2.2.1 X.2.2.2.2.1 X.2.2.2.2.2 (fun _ => 0) 0 (by omega) u.1 u.2.1 u.2.2 (g 0 0) (g 0 1) (g 1) (g 2) (g 3) (g 4) (g 5) (zN g) (okg_n hZ) (g 0 2) (g 0 3) (g 0 4) (g 0 5) P F z hz none o1
  rw [← hZ.1] at h
  exact h
set_option maxRecDepth 100000 in
theorem k_keeps (l : Launch) (G : GG) (sz : Nat) (X : AD) (g : Nat → Nat → Int32) (P : Nat → Nat → Nat) (F : Nat → Nat → Nat → Int32) (z : Nat) (o1 : SLO) (u : CU) {B : Nat} (hZ : OKg B g) (hz : z ≤ 6) (a1 : Nat → Nat) (g1 : Nat → Nat → Int32) : WRi l yX6_keep wsX6_keep 4 G [.ref X.1, .int (nI 0)] (cT G X (g, P, F, z, some (a1, g1), o1) u) sz (S := Unit) (fun r _ => r = g 0 6) (fun _ => cT G X (g, P, F, z, some (a1, gB g), o1) u) 7 64 := by
  have h := c_X6_keep_s0 l G sz X.1 X.2.1 X.2.2.1 X.2.2.2.1 X.2.2.2.2.1 X.2.2.2.2.2 (fun _ => 0) 0 (by omega) u.1 u.2.1 u.2.2 (g 0 0) (g 0 1) (g 1) (g 2) (g 3) (g 4) (g 5) (zN g) (okg_n hZ) (g 0 2) (g 0 3) (g 0 4) (g 0 5) P F z hz none o1 a1 g1
  rw [← hZ.1] at h
  exact h
set_option maxRecDepth 100000 in
theorem k_back (l : Launch) (G : GG) (sz : Nat) (X : AD) (g : Nat → Nat → Int32) (P : Nat → Nat → Nat) (F : Nat → Nat → Nat → Int32) (z : Nat) (o1 : SLO) (u : CU) {B : Nat} (hZ : OKg B g) (hz : z ≤ 6) (a1 : Nat → Nat) (g1 : Nat → Nat → Int32) : WRi l yX6_goBack wsX6_goBack 5 G [.ref X.1, .int (nI 0)] (cT G X (g, P, F, z, some (a1, g1), o1) u) sz (S := Unit) (fun r _ => r = g1 0 6) (fun _ => cT G X (zS (g, P, F, z, some (a1, g1), o1) (gB g1)) (u.1, u.2.1, nI 0)) 0 0 := by
  have h := c_X6_goBack_0 l G sz X.1 X.2.1 X.2.2.1 X.2.2.2.1 X.2.2.2.2.1 X.2.2.2.2.2 (fun _ => 0) 0 (by omega) u.1 u.2.1 u.2.2 (g 0 0) (g 0 1) (g 1) (g 2) (g 3) (g 4) (g 5) (zN g) (okg_n hZ) (g 0 2) (g 0 3) (g 0 4) (g 0 5) P F z hz none o1 a1 g1
  rw [← hZ.1] at h
  exact h
set_option maxRecDepth 100000 in
theorem k_undo (l : Launch) (G : GG) (sz : Nat) (X : AD) (Z : ZZ) (u : CU) {B : Nat} (hZ : OKg B Z.1) (hz : Z.2.2.2.1 ≤ 6) (hz1 : 1 ≤ Z.2.2.2.1) : WRi l yX6_undo wsX6_undo 5 G [.ref X.1] (cT G X Z u) sz (S := Unit) (fun r _ => r = nI (Z.2.2.2.1 - 1)) (fun _ => cT G X (gB (Z.2.2.1 (Z.2.2.2.1 - 1)), Z.2.1, Z.2.2.1, Z.2.2.2.1 - 1, Z.2.2.2.2.1, Z.2.2.2.2.2) (u.1, u.2.1, nI 0)) 0 0 := by
  have h := c_X6_undo_ok l G sz X.1 X.2.1 X.2.2.1 X.2.2.2.1 X.2.2.2.2.1 X.2.2.2.2.2 (fun _ => 0) 0 (by omega) u.1 u.2.1 u.2.2 (Z.1 0 0) (Z.1 0 1) (Z.1 1) (Z.1 2) (Z.1 3) (Z.1 4) (Z.1 5) (zN Z.1) (okg_n hZ) (Z.1 0 2) (Z.1 0 3) (Z.1 0 4) (Z.1 0 5) Z.2.1 Z.2.2.1 Z.2.2.2.1 hz Z.2.2.2.2.1 Z.2.2.2.2.2 hz1
  rw [← hZ.1] at h
  exact h

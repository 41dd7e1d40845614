/-! WALKING ALONG THE STRIP -/
def fwC (tn : Int32) (lo hi me : Nat → Int32) (n : Nat) : Nat → Nat → Int32 → Int32
  | 0, p, fo => if fitA lo hi me p fo n 0 = true then nI 1 else nI 0
  | d + 1, p, fo => if fitA lo hi me p fo n 0 = true then (if bI tn (nI p) = nI 1 then fwC tn lo hi me n d (p + 1) fo else fwC tn lo hi me n d (p + 1) fo + fwC tn lo hi me n d (p + 1) (fo ||| ms1 (nI p))) else nI 0
theorem rm_ok (d : Nat) {mL : Nat} (h : mL ≤ 20) : (RM (4 + d) 0 0).frames + 1 ≤ (RM (4 + (d + 1)) 0 0).frames ∧ 8 + (mL + 11) + (RM (4 + d) 0 0).locals ≤ (RM (4 + (d + 1)) 0 0).locals := ⟨Nat.le_refl _, by show 8 + (mL + 11) + 40 * (4 + d) ≤ 40 * (4 + (d + 1)); omega⟩
theorem rm_ok3 (d : Nat) {mL : Nat} (h : mL ≤ 20) : (RM 3 0 0).frames + 1 ≤ (RM (4 + d) 0 0).frames ∧ 8 + (mL + 11) + (RM 3 0 0).locals ≤ (RM (4 + d) 0 0).locals := ⟨by show 3 + 1 ≤ 4 + d; omega, by show 8 + (mL + 11) + 40 * 3 ≤ 40 * (4 + d); omega⟩
theorem rm_ok2 (d : Nat) {mL : Nat} (h : mL ≤ 20) : (RM 2 0 0).frames + 1 ≤ (RM (4 + d) 0 0).frames ∧ 8 + (mL + 11) + (RM 2 0 0).locals ≤ (RM (4 + d) 0 0).locals := ⟨by show 2 + 1 ≤ 4 + d; omega, by show 8 + (mL + 11) + 40 * 2 ≤ 40 * (4 + d); omega⟩


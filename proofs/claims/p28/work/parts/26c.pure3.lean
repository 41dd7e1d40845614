theorem sum_eq {g h : Nat → Int32} {n : Nat} (e : ∀ j, j < n → g j = h j) : sumI g n = sumI h n := by
  induction n with
  | zero => rfl
  | succ n ih => rw [sumI, sumI, ih (fun j hj => e j (by omega)), e n (by omega)]
theorem cN_pos {q : Nat → Bool} {k : Nat} (hq : q k = true) : ∀ {n : Nat}, k < n → 0 < cN q n := by
  intro n hn
  have h := cN_mono q (k + 1) n hn
  rw [cN_t hq] at h
  omega
theorem cN_nz {q : Nat → Bool} {k : Nat} (hk : k < 512) (hq : q k = true) : nI (cN q 512) ≠ nI 0 := by
  intro h
  have h1 := cN_pos hq hk
  have h2 := cN_le q 512
  have := nIe h (by omega) (by decide)
  omega

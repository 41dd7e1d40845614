theorem sum_eq {g h : Nat → Int32} {n : Nat} (e : ∀ j, j < n → g j = h j) : sumI g n = sumI h n := by
  induction n with
  | zero => rfl
  | succ n ih => rw [sumI, sumI, ih (fun j hj => e j (by omega)), e n (by omega)]
theorem cN_pos {q : Nat → Bool} {k : Nat} (hq : q k = true) : ∀ {n : Nat}, k < n → 0 < cN q n := by
  intro n hn
  have h := cN_mono q (k + 1) n hn
  rw [cN_t hq] at h
  omega
theorem cN_nz {q : Nat → Bool} {k : Nat} (hk : k < 512) (hq : q k = true) : nI (cN q 512) ≠ nI 0 := by
  intro h
  have h1 := cN_pos hq hk
  have h2 := cN_le q 512
  have := nIe h (by omega) (by decide)
  omega
theorem sure_eq {f : Nat → Int32} {n k : Nat} (hk : k < 512) (hq : qM f n k = true) (cr : Int32) : sureM f n cr = sureS (qM f n) cr := by
  have e : suM f n cr 512 = sS (qM f n) (fun m => bI m cr) := rfl
  unfold sureM sureS
  rw [e]
  by_cases h : sS (qM f n) (fun m => bI m cr) = 0
  · rw [if_pos h, if_neg (fun z => cN_nz hk hq (z.symm.trans h)), if_pos h]
  · rw [if_neg h, if_neg h]
theorem op_eq {f t : Nat → Int32} {fo : Nat} {q v : Nat} (h0 : f 0 = nI fo) (h1 : fo < 512) (hq : q < 10) (ht : ∀ j, j < 6 → f (11 + j) = t j) : opM f q v = opC (nI fo) t q v := by
  unfold opM opC
  rw [h0, tn_eq 6 ht]
  by_cases v0 : v = 0
  · rw [if_pos v0, if_pos v0, Int32.add_comm]
  · rw [if_neg v0, if_neg v0]
    by_cases v1 : v = 1
    · rw [if_pos v1, if_pos v1]
    · rw [if_neg v1, if_neg v1]
      refine sum_eq (fun j hj => ?_)
      rw [mt_eq h1 hq hj]
      congr 2
      exact propext ⟨fun z => z.symm, fun z => z.symm⟩

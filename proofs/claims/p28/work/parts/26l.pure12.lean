theorem bq_eq {f t lo hi me : Nat → Int32} {q : Nat → Bool} {fo : Int32} {n : Nat} (ht : ∀ j, j < 6 → f (11 + j) = t j) (hk : ∀ j, j < 6 → vp_in (t j) 10) (hr : relA f lo hi me n) (hf : fitC lo hi me fo n 0 = true) (hq : qM f n = q) : (qsM f n 36).1 = (outC (askW t lo hi me n) (worW q t) 6).1 := by
  have h := q_eq (f := f) (n := n) (ask := askW t lo hi me n) (wor := worW q t) (fun i j hij hj => ?_) (fun i j hij hj => ?_) (fun i j _ _ => ml_lt q _ _) 6 (Nat.le_refl _)
  · rcases h with ⟨h1, h2⟩ | ⟨h1, h2⟩
    · rw [show qsM f n 36 = qsM f n (6 * 6) from rfl, h1, h2]
    · rw [show qsM f n 36 = qsM f n (6 * 6) from rfl, h1]
  · have e1 : qo f (6 * i + j) = t i := by show f (11 + (6 * i + j) / 6) = _; rw [show (6 * i + j) / 6 = i by omega]; exact ht i (by omega)
    have e2 : qt f (6 * i + j) = t j := by show f (11 + (6 * i + j) % 6) = _; rw [show (6 * i + j) % 6 = j by omega]; exact ht j (by omega)
    unfold qask askW worC
    rw [e1, e2, kept_eq (hk i (by omega)) (hk j hj) hr hf, ← nI_vp (hk i (by omega)) (by decide), ← nI_vp (hk j hj) (by decide), decide_eq_true (show (6 * i + j) / 6 < (6 * i + j) % 6 by omega), Bool.true_and]
  · have e1 : qo f (6 * i + j) = t i := by show f (11 + (6 * i + j) / 6) = _; rw [show (6 * i + j) / 6 = i by omega]; exact ht i (by omega)
    have e2 : qt f (6 * i + j) = t j := by show f (11 + (6 * i + j) % 6) = _; rw [show (6 * i + j) % 6 = j by omega]; exact ht j (by omega)
    unfold qwor worW
    rw [e1, e2, wor_eq (hk i (by omega)) (hk j hj), hq]


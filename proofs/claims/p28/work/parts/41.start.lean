/-! THE START OF THE LAW -/
theorem st_RG0 {t : Nat → Int32} (ht : ∀ j, j < 6 → t j = nI j) : RG 0 (bd 0 0 (fun _ => 0) t (fun _ => 0) (fun _ => 0) (fun _ => 0) 0 0 0 0 0) (iF 6) := by
  have z : ∀ j, j < 11 ∨ 17 ≤ j → iF 6 j = 0 := fun j hj => if_neg (by omega)
  have v0 : vp_in (0 : Int32) 10 := vp_in_nI (n := 0) (by omega) (by omega)
  refine ⟨0, rfl, ⟨⟨by omega, ⟨0, by omega, rfl⟩, ⟨0, by omega, rfl⟩, (show (0 : Int32) &&& 0 = 0 by decide)⟩, ⟨z 0 (by omega), z 1 (by omega), z 17 (by omega), fun j hj => z _ (by omega), fun j hj => ?_⟩, ⟨fun j hj => ⟨0, Nat.le_refl _, rfl⟩, fun j hj => ?_, fun k hk => ⟨v0, v0⟩, fun k hk => ?_⟩, ⟨fun k hk => absurd hk (Nat.not_lt_zero _), rfl⟩, z 54 (by omega), z 55 (by omega), z 56 (by omega), z 57 (by omega)⟩⟩
  · show iF 6 (11 + j) = t j
    rw [ht j hj]
    unfold iF
    rw [if_pos (by omega), show 11 + j - 11 = j by omega]
  · show vp_in (t j) 10
    rw [ht j hj]
    exact vp_in_nI (by omega) (by omega)
  · unfold an
    rw [z _ (by omega), z _ (by omega)]
    exact ⟨v0, v0⟩

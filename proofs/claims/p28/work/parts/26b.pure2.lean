theorem mt_le {fo a b : Nat} (h1 : fo < 512) (ha : a < 10) (hb : b < 10) (hab : a ≤ b) : mt (nI fo) a b = decide ((pw (nI fo) a).1 = (pw (nI fo) b).1) := by
  have e0 : min a b = a := Nat.min_eq_left hab
  have e1 : dif a b = b - a := by unfold dif; omega
  obtain ⟨p1, p2⟩ := pw_sh h1 ha (b - a) (by omega)
  rw [show a + (b - a) = b by omega] at p1 p2
  unfold mt
  rw [e0, e1]
  congr 1
  apply propext
  rcases pw_way (nI fo) a with h | h
  · rw [p1 h]
    dsimp only
    constructor
    · intro q; rw [q, Int32.add_zero]
    · intro q
      have q2 : (pw (nI fo >>> (nI a &&& 31)) (b - a)).1 = -(pw (nI fo) a).1 + ((pw (nI fo) a).1 + (pw (nI fo >>> (nI a &&& 31)) (b - a)).1) := by rw [← Int32.add_assoc, Int32.add_left_neg, Int32.zero_add]
      rw [q2, ← q, Int32.add_left_neg]
  · rw [p2 h]
    dsimp only
    constructor
    · intro q; rw [q, Int32.sub_zero]
    · intro q
      have q2 : (pw (nI fo >>> (nI a &&& 31)) (b - a)).1 = (pw (nI fo) a).1 - ((pw (nI fo) a).1 - (pw (nI fo >>> (nI a &&& 31)) (b - a)).1) := by
        rw [Int32.sub_eq_add_neg, Int32.sub_eq_add_neg, Int32.neg_add, Int32.sub_eq_add_neg, Int32.neg_neg, ← Int32.add_assoc, Int32.add_right_neg, Int32.zero_add]
      rw [q2, ← q, Int32.sub_self]
theorem mt_eq {fo a b : Nat} (h1 : fo < 512) (ha : a < 10) (hb : b < 10) : mt (nI fo) a b = decide ((pw (nI fo) a).1 = (pw (nI fo) b).1) := by
  rcases Nat.le_total a b with h | h
  · exact mt_le h1 ha hb h
  · have e := mt_le h1 hb ha h
    have e2 : mt (nI fo) a b = mt (nI fo) b a := by unfold mt; rw [Nat.min_comm a b, show dif a b = dif b a by unfold dif; omega]
    rw [e2, e]
    congr 1
    exact propext ⟨fun q => q.symm, fun q => q.symm⟩


/-! THE LAW'S WRAPPERS -/
/-- a reader is a writer that writes nothing -/
theorem rd_wr {l : Launch} {y : MethodName} {w : List Cond} {d : Nat} {G : GG} {As : List Value} {ws : va_W} {v : Int32} (h : RD l y w d G As ws (some (.int v))) (sz : Nat) : WRi l y w d G As ws sz (S := Unit) (fun r _ => r = v) (fun _ => ws) 0 0 := by
  intro p e ha hc hk s m args below hf happ hP hK
  obtain ⟨n, o, h1, h2, h3, ⟨h4, h9⟩, L, h5, h6⟩ := h p e ha hc hk s m args below hf happ ⟨hP.1, hP.2.2.1, hP.2.2.2.1, hP.2.2.2.2.1⟩ hK
  refine ⟨n, o, h1, h2, h3, ⟨⟨v, (), h4, rfl, ?_, ?_⟩, ?_, ?_⟩, L, h5, fun q hq => (h6 q hq).elim⟩
  · rw [h9]; exact hP.2.2.1
  · exact hP.2.2.2.2.2.self
  · rw [h9]; exact Nat.le_refl _
  · intro q _ _; rw [h9]

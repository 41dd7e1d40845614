set_option maxRecDepth 100000 in
theorem c_X2_restore (l : Launch) (G : GG) (sz : Nat) (a : Nat → Nat) (fo tn : Int32) (w t lo hi me : Nat → Int32) (n qu gu ri re : Int32) (hh : Nat → Nat) (P : Nat → Nat → Nat) (F : Nat → Nat → Nat → Int32) (z : Nat) (hz : 1 ≤ z) (hz2 : z ≤ 6) : WRv l yX2_restore wsX2_restore 3 G [.ref (hh 0), .ref (a 0)] (stW G a fo tn w t lo hi me n qu gu ri re ++ (hiW G hh P F (nI z))) sz (S := Unit) (fun _ => True) (fun _ => stW G a (F (z - 1) 0 0) (F (z - 1) 0 1) (F (z - 1) 1) (F (z - 1) 2) (F (z - 1) 3) (F (z - 1) 4) (F (z - 1) 5) (F (z - 1) 0 6) (F (z - 1) 0 2) (F (z - 1) 0 3) (F (z - 1) 0 4) (F (z - 1) 0 5) ++ (hiW G hh P F (nI (z - 1)))) 0 0 := by
  match z, hz, hz2 with
  | 1, _, _ => exact c_X2_restore_1 l G sz a fo tn w t lo hi me n qu gu ri re hh P F
  | 2, _, _ => exact c_X2_restore_2 l G sz a fo tn w t lo hi me n qu gu ri re hh P F
  | 3, _, _ => exact c_X2_restore_3 l G sz a fo tn w t lo hi me n qu gu ri re hh P F
  | 4, _, _ => exact c_X2_restore_4 l G sz a fo tn w t lo hi me n qu gu ri re hh P F
  | 5, _, _ => exact c_X2_restore_5 l G sz a fo tn w t lo hi me n qu gu ri re hh P F
  | 6, _, _ => exact c_X2_restore_6 l G sz a fo tn w t lo hi me n qu gu ri re hh P F
  | k + 7, _, h => exact absurd h (by omega)


set_option maxRecDepth 100000 in
theorem c_X2_save (l : Launch) (G : GG) (sz : Nat) (a : Nat → Nat) (fo tn : Int32) (w t lo hi me : Nat → Int32) (n qu gu ri re : Int32) (hh : Nat → Nat) (P : Nat → Nat → Nat) (F : Nat → Nat → Nat → Int32) (z : Nat) (hz : z ≤ 6) : WRv l yX2_save wsX2_save 3 G [.ref (hh 0), .ref (a 0)] (stW G a fo tn w t lo hi me n qu gu ri re ++ (hiW G hh P F (nI z))) sz (S := Unit) (fun _ => True) (fun _ => stW G a fo tn w t lo hi me n qu gu ri re ++ (hiW G hh (svP P z) (va_up (svP F z) (svm z) (bd fo tn w t lo hi me n qu gu ri re)) (nI (svm z + 1)))) 0 0 := by
  match z, hz with
  | 0, _ => exact c_X2_save_0 l G sz a fo tn w t lo hi me n qu gu ri re hh P F
  | 1, _ => exact c_X2_save_1 l G sz a fo tn w t lo hi me n qu gu ri re hh P F
  | 2, _ => exact c_X2_save_2 l G sz a fo tn w t lo hi me n qu gu ri re hh P F
  | 3, _ => exact c_X2_save_3 l G sz a fo tn w t lo hi me n qu gu ri re hh P F
  | 4, _ => exact c_X2_save_4 l G sz a fo tn w t lo hi me n qu gu ri re hh P F
  | 5, _ => exact c_X2_save_5 l G sz a fo tn w t lo hi me n qu gu ri re hh P F
  | 6, _ => exact c_X2_save_6 l G sz a fo tn w t lo hi me n qu gu ri re hh P F
  | k + 7, h => exact absurd h (by omega)


/-! THE SAVED STATES: bundles of a State's rows, the world of the history, its changes -/
def flt : List va_W → va_W
  | [] => []
  | [a] => a
  | a :: b :: l => a ++ flt (b :: l)
theorem flt_eq : ∀ bs : List va_W, flt bs = bs.flatten
  | [] => rfl
  | [a] => by simp [flt]
  | a :: b :: l => by rw [flt, flt_eq (b :: l)]; simp
theorem range_fm {α : Type} : ∀ bs : List α, (List.range bs.length).filterMap (fun i => bs[i]?) = bs
  | [] => rfl
  | a :: l => by
    have ih := range_fm l
    rw [List.length_cons, List.range_succ_eq_map, List.filterMap_cons]
    simp only [List.getElem?_cons_zero, List.filterMap_map]
    exact congrArg (a :: ·) ih
theorem perm_is {α : Type} (bs : List α) (is : List Nat) (h : is.Perm (List.range bs.length)) : bs.Perm (is.filterMap (fun i => bs[i]?)) := by
  have h2 := (h.symm).filterMap (fun i => bs[i]?)
  rw [range_fm] at h2
  exact h2
theorem perm_pl (bs : List va_W) (is : List Nat) (n : Nat) (hn : bs.length = n) (h : is.Perm (List.range n)) : (flt bs).Perm (flt (is.filterMap (fun i => bs[i]?))) := by
  rw [flt_eq, flt_eq]
  exact (perm_is bs is (by rw [hn]; exact h)).flatten
def bd (fo tn : Int32) (w t lo hi me : Nat → Int32) (n qu gu ri re : Int32) : Nat → Nat → Int32 := fun i => match i with
  | 0 => (fun j => match j with | 0 => fo | 1 => tn | 2 => qu | 3 => gu | 4 => ri | 5 => re | _ => n)
  | 1 => w
  | 2 => t
  | 3 => lo
  | 4 => hi
  | _ => me
/-- a State's object, and its other cells -/
abbrev oS (a : Nat → Nat) (g : Nat → Nat → Int32) : Nat × va_E := (a 0, .inr (4, [.int (g 0 0), .int (g 0 1), .ref (a 1), .ref (a 2), .ref (a 3), .int (g 0 2), .int (g 0 3), .int (g 0 4), .int (g 0 5)]))
def stR (G : GG) (a : Nat → Nat) (g : Nat → Nat → Int32) : va_W := [(a 1, .inl (G.2.1, 9, .inl (g 1))), (a 2, .inl (G.2.1, 6, .inl (g 2))), (a 3, .inr (0, [.ref (a 4), .ref (a 5), .ref (a 6), .int (g 0 6)])), (a 4, .inl (G.2.1, 12, .inl (g 3))), (a 5, .inl (G.2.1, 12, .inl (g 4))), (a 6, .inl (G.2.1, 12, .inl (g 5)))]
def stG (G : GG) (a : Nat → Nat) (g : Nat → Nat → Int32) : va_W := [oS a g] ++ stR G a g
def hsR (P : Nat → Nat → Nat) : Nat → Option Nat := fun i => if i < 6 then some (P i 0) else none
def hiW (G : GG) (hb : Nat → Nat) (P : Nat → Nat → Nat) (F : Nat → Nat → Nat → Int32) (n : Int32) : va_W :=
  [(hb 0, .inr (2, [.ref (hb 1), .int n]))] ++ ([(hb 1, .inl (G.2.2.2.1, 6, .inr (.inr (.inr (.inr (hsR P))))))] ++ (stG G (P 0) (F 0) ++ (stG G (P 1) (F 1) ++ (stG G (P 2) (F 2) ++ (stG G (P 3) (F 3) ++ (stG G (P 4) (F 4) ++ stG G (P 5) (F 5)))))))
/-- the oldest one becomes the last one -/
def rot {α : Type} (f : Nat → α) : Nat → α := fun i => if i < 5 then f (i + 1) else if i = 5 then f 0 else f i
theorem hsR_rot (P : Nat → Nat → Nat) : va_up (va_up (va_up (va_up (va_up (va_up (hsR P) 0 (some (P 1 0))) 1 (some (P 2 0))) 2 (some (P 3 0))) 3 (some (P 4 0))) 4 (some (P 5 0))) 5 (some (P 0 0)) = hsR (rot P) := by
  funext i
  match i with
  | 0 => rfl
  | 1 => rfl
  | 2 => rfl
  | 3 => rfl
  | 4 => rfl
  | 5 => rfl
  | k + 6 => 
    unfold va_up hsR
    simp
    rw [if_neg (by omega), if_neg (by omega)]
def svP {α : Type} (P : Nat → α) (n : Nat) : Nat → α := if n = 6 then rot P else P


/-! The worlds of class (wX) and reference (wY), in numbers. -/
abbrev wX (h : Nat → Nat) (cI cZ : ClassId) (n bt : Nat) (rk wt cl : Nat → Nat) (cc : Nat) (su sa : Nat → Nat) (sc od : Nat) (fr : Bool) (cg : Nat → Bool) (co rp : Nat → Nat) (rc : Nat) : va_W :=
  [(h 0, .inr (0, [.int (nI n), .int (nI bt), .ref (h 1), .ref (h 2), .ref (h 3), .int (nI cc), .ref (h 4), .ref (h 5), .int (nI sc), .int (nI od), .int (bI fr), .ref (h 6), .ref (h 7), .ref (h 8), .int (nI rc)])),
   (h 1, .inl (cI, 11, .inl (fun j => nI (rk j)))), (h 2, .inl (cI, 11, .inl (fun j => nI (wt j)))), (h 3, .inl (cI, 40, .inl (fun j => nI (cl j)))), (h 4, .inl (cI, 20, .inl (fun j => nI (su j)))), (h 5, .inl (cI, 20, .inl (fun j => nI (sa j)))), (h 6, .inl (cZ, 2048, .inl (fun j => bI (cg j)))), (h 7, .inl (cI, 11, .inl (fun j => nI (co j)))), (h 8, .inl (cI, 462, .inl (fun j => nI (rp j))))]
abbrev wY (h : Nat → Nat) (cI cZ : ClassId) (n : Nat) (hd : Nat → Bool) (rk wt cl : Nat → Nat) (cc : Nat) (ow su : Nat → Nat) (sc od : Nat) (kn : Bool) (ke : Nat → Bool) (rp : Nat → Nat) (rc : Nat) : va_W :=
  [(h 0, .inr (1, [.int (nI n), .ref (h 1), .ref (h 2), .ref (h 3), .ref (h 4), .int (nI cc), .ref (h 5), .ref (h 6), .int (nI sc), .int (nI od), .int (bI kn), .ref (h 7), .ref (h 8), .int (nI rc)])),
   (h 1, .inl (cZ, 11, .inl (fun j => bI (hd j)))), (h 2, .inl (cI, 11, .inl (fun j => nI (rk j)))), (h 3, .inl (cI, 11, .inl (fun j => nI (wt j)))), (h 4, .inl (cI, 40, .inl (fun j => nI (cl j)))), (h 5, .inl (cI, 20, .inl (fun j => nI (ow j)))), (h 6, .inl (cI, 20, .inl (fun j => nI (su j)))), (h 7, .inl (cZ, 2048, .inl (fun j => bI (ke j)))), (h 8, .inl (cI, 2048, .inl (fun j => nI (rp j))))]
def okR (x : Int32) : Bool := !decide (x < 0) && !decide (7 < x)
def okW (x : Int32) : Bool := !decide (x < 1) && !decide (1000 < x)
def okA (x : Int32) : Bool := !decide (x < 0) && !decide (8 ≤ x)
def okO (x : Int32) : Bool := !decide (x < 0) && !decide (3 < x)
def okS (n : Nat) (x : Int32) : Bool := !decide (x < 0) && !decide (nI n ≤ x)
/-- b is a part of a, and not all of it -/
def hasM (a b : Nat) : Bool := !decide (a = b) && sp_sub b a
theorem bx_dec {a : Nat} (h : 0 < a) : nI a - 1 = nI (a - 1) := by
  show nI a - nI 1 = _
  exact pk_sub h
theorem bx_p2 {n : Nat} (h : n ≤ 11) : 2 ^ n ≤ 2048 := Nat.le_trans (Nat.pow_le_pow_right (by decide) h) (by decide)
theorem bx_pos (n : Nat) : 0 < 2 ^ n := Nat.pow_pos (by decide)

/-! the reference's world over the shared state -/
abbrev stD : Type := Bool × (Nat → Bool) × (Nat → Nat) × Nat
def wYt (h : Nat → Nat) (cI cZ : ClassId) (u : stA × stD) : va_W := match u with
  | ((n, bt, rk, wt, cl, cc, su, sa, sc, od), (kn, ke, rp, rc)) => wY h cI cZ n bt.testBit rk wt cl cc sa su sc od kn ke rp rc
def ocY (u : stA × stD) : Prop := match u with
  | (a, (kn, _, rp, rc)) => okC a kn rp rc
theorem upb_1 {bt n : Nat} (h : bt < 2 ^ n) (hard : Bool) : va_up bt.testBit n hard = (if hard = true then bt ||| 2 ^ n else bt).testBit := by
  funext j
  unfold va_up
  have h1 : bt.testBit n = false := Nat.testBit_lt_two_pow h
  cases hard
  · rw [if_neg (show ¬ false = true by decide)]
    split
    · rename_i q; rw [q, h1]
    · rfl
  · rw [if_pos rfl, or_bit]
    split
    · rename_i q; rw [q, decide_eq_true rfl, Bool.or_true]
    · rename_i q; rw [decide_eq_false (fun z => q z.symm), Bool.or_false]
theorem upb_2 {bt k : Nat} {hard : Bool} (h : bt.testBit k = hard) : va_up bt.testBit k hard = bt.testBit := by
  funext j
  unfold va_up
  split
  · rename_i q; rw [q, h]
  · rfl
theorem upb_3 {bt k : Nat} {hard : Bool} (h : ¬ bt.testBit k = hard) : va_up bt.testBit k hard = (bt ^^^ 2 ^ k).testBit := by
  funext j
  unfold va_up
  rw [xor_bit]
  split
  · rename_i q
    rw [q, decide_eq_true rfl]
    cases hb : bt.testBit k <;> cases hard <;> simp_all
  · rename_i q; rw [decide_eq_false (fun z => q z.symm), Bool.xor_false]

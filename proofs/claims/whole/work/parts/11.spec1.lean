/-! What the class's methods work out, as functions of numbers. -/
theorem lp_ge {i N : Nat} (hi : i ≤ N) (hN : N < 2 ^ 31) (c : nI N ≤ nI i) : i = N := Nat.le_antisymm hi ((nI_leI hN (Nat.lt_of_le_of_lt hi hN)).mp c)
theorem lp_lt {i N : Nat} (hi : i ≤ N) (hN : N < 2 ^ 31) (c : ¬ nI N ≤ nI i) : i < N := Nat.lt_of_not_le (fun q => c ((nI_leI hN (Nat.lt_of_le_of_lt hi hN)).mpr q))
theorem ar_nI (f : Nat → Nat) {i : Nat} (h : i < 2 ^ 31) : (fun j => nI (f j)) (nI i).toNatClampNeg = nI (f i) := by
  show nI (f (nI i).toNatClampNeg) = _
  rw [nI_clamp h]
theorem ar_bI (f : Nat → Bool) {i : Nat} (h : i < 2 ^ 31) : (fun j => bI (f j)) (nI i).toNatClampNeg = bI (f i) := by
  show bI (f (nI i).toNatClampNeg) = _
  rw [nI_clamp h]
def anyB (P : Nat → Bool) : Nat → Bool
  | 0 => false
  | k + 1 => anyB P k || P k
theorem anyB_iff {P : Nat → Bool} : ∀ {n : Nat}, anyB P n = true ↔ ∃ i, i < n ∧ P i = true
  | 0 => by simp [anyB]
  | n + 1 => by
    rw [anyB, Bool.or_eq_true, anyB_iff]
    constructor
    · rintro (⟨i, h1, h2⟩ | h)
      · exact ⟨i, by omega, h2⟩
      · exact ⟨n, by omega, h⟩
    · rintro ⟨i, h1, h2⟩
      rcases Nat.lt_or_ge i n with h | h
      · exact Or.inl ⟨i, h, h2⟩
      · exact Or.inr (by rw [show n = i by omega]; exact h2)
theorem anyB_of {P : Nat → Bool} {n i : Nat} (h : i < n) (hp : P i = true) : anyB P n = true := anyB_iff.mpr ⟨i, h, hp⟩
theorem anyB_next {P : Nat → Bool} {i : Nat} (h : anyB P i = false) (hp : P i = false) : anyB P (i + 1) = false := by rw [anyB, h, hp]; rfl
def cntB (P : Nat → Bool) : Nat → Nat
  | 0 => 0
  | k + 1 => cntB P k + (if P k then 1 else 0)
theorem cntB_le {P : Nat → Bool} : ∀ {n : Nat}, cntB P n ≤ n
  | 0 => Nat.le_refl _
  | n + 1 => by
    have := cntB_le (P := P) (n := n)
    rw [cntB]
    split <;> omega
/-- the defaults of the ranks f .. t among the first k statements, as bits -/
def dfl (bt : Nat) (rk : Nat → Nat) (f t : Nat) : Nat → Nat
  | 0 => 0
  | k + 1 => if bt.testBit k = false ∧ f ≤ rk k ∧ rk k ≤ t then dfl bt rk f t k ||| 2 ^ k else dfl bt rk f t k
theorem dfl_lt {bt : Nat} {rk : Nat → Nat} {f t : Nat} : ∀ k, dfl bt rk f t k < 2 ^ k
  | 0 => by simp [dfl]
  | k + 1 => by
    have h := dfl_lt (bt := bt) (rk := rk) (f := f) (t := t) k
    have h2 : 2 ^ k < 2 ^ (k + 1) := Nat.pow_lt_pow_right (by decide) (by omega)
    rw [dfl]
    split
    · exact Nat.or_lt_two_pow (Nat.lt_trans h h2) h2
    · exact Nat.lt_trans h h2
theorem dfl_bit {bt : Nat} {rk : Nat → Nat} {f t : Nat} {i : Nat} : ∀ k, (dfl bt rk f t k).testBit i = (decide (i < k) && !bt.testBit i && decide (f ≤ rk i) && decide (rk i ≤ t))
  | 0 => by simp [dfl]
  | k + 1 => by
    have h := dfl_bit (bt := bt) (rk := rk) (f := f) (t := t) (i := i) k
    rw [dfl]
    rcases Nat.lt_trichotomy i k with q | q | q
    · rw [decide_eq_true (show i < k + 1 by omega)]
      rw [decide_eq_true q] at h
      split
      · rw [Nat.testBit_or, h, Nat.testBit_two_pow, decide_eq_false (show ¬ k = i by omega), Bool.or_false]
      · exact h
    · subst q
      rw [decide_eq_false (Nat.lt_irrefl i)] at h
      rw [decide_eq_true (show i < i + 1 by omega)]
      split
      · rename_i hc
        rw [Nat.testBit_or, h, Nat.testBit_two_pow_self, hc.1, decide_eq_true hc.2.1, decide_eq_true hc.2.2]
        rfl
      · rename_i hc
        rw [h]
        cases h1 : bt.testBit i
        · rcases Nat.lt_or_ge (rk i) f with h2 | h2
          · rw [decide_eq_false (show ¬ f ≤ rk i by omega)]; rfl
          · rw [decide_eq_false (show ¬ rk i ≤ t from fun h3 => hc ⟨h1, h2, h3⟩)]; simp
        · rfl
    · rw [decide_eq_false (show ¬ i < k + 1 by omega)]
      rw [decide_eq_false (show ¬ i < k by omega)] at h
      split
      · rw [Nat.testBit_or, h, Nat.testBit_two_pow, decide_eq_false (show ¬ k = i by omega), Bool.or_false]
      · rw [h]
/-- a set's worth by order o (2 or 3), among the first k statements -/
def wor (bt : Nat) (rk wt : Nat → Nat) (S o : Nat) : Nat → Nat
  | 0 => 0
  | k + 1 => wor bt rk wt S o k + (if S.testBit k = true ∧ bt.testBit k = false then (if o = 2 then 2 ^ (4 * (7 - rk k)) else wt k) else 0)
theorem wor_le {bt : Nat} {rk wt : Nat → Nat} {S o B : Nat} (h1 : ∀ j, 2 ^ (4 * (7 - rk j)) ≤ B) (h2 : ∀ j, wt j ≤ B) : ∀ k, wor bt rk wt S o k ≤ k * B
  | 0 => by simp [wor]
  | k + 1 => by
    have h := wor_le (bt := bt) (S := S) (o := o) h1 h2 k
    have h3 := h1 k
    have h4 := h2 k
    rw [wor, show (k + 1) * B = k * B + B from Nat.succ_mul k B]
    generalize 2 ^ (4 * (7 - rk k)) = z at h3 ⊢
    generalize k * B = y at h ⊢
    split
    · split <;> omega
    · omega
theorem wor_lt {bt : Nat} {rk wt : Nat → Nat} {S o : Nat} (hw : ∀ j, wt j ≤ 1000) {k : Nat} (hk : k ≤ 11) : wor bt rk wt S o k < 2 ^ 33 := by
  have h := wor_le (bt := bt) (S := S) (o := o) (rk := rk) (B := 2 ^ 28) (fun j => Nat.pow_le_pow_right (by decide) (by omega)) (fun j => Nat.le_trans (hw j) (by decide)) k
  exact Nat.lt_of_le_of_lt h (Nat.lt_of_le_of_lt (Nat.mul_le_mul_right _ hk) (by decide))
theorem sh_1 : ∀ k, k < 64 → (1 : Int64) <<< ((nI k).toInt64 &&& 63) = lN (2 ^ k) := by decide +kernel
/-- order 1, rank by rank from r on, k ranks more; f r: the defaults of rank r -/
def hmr (f : Nat → Nat) (a b : Nat) : Nat → Nat → Bool
  | 0, _ => false
  | k + 1, r => if a &&& f r = b &&& f r then hmr f a b k (r + 1) else hasM (a &&& f r) (b &&& f r)
def betX (n bt : Nat) (rk wt : Nat → Nat) (a b o : Nat) : Bool := if o = 0 then hasM a b else if o = 1 then hmr (fun r => dfl bt rk r r n) a b 8 0 else decide (wor bt rk wt b o n < wor bt rk wt a o n)
def holX (sa su : Nat → Nat) (sc a S : Nat) : Bool := anyB (fun k => decide (sa k = a) && sp_sub (su k) S) sc
def vdt (rc x : Nat) : Int32 := if rc = 0 then -2 else if x = rc then 2 else if 0 < x then 1 else 0
def isLX (n : Nat) (cl : Nat → Nat) (cc S : Nat) : Bool := sp_sub S (2 ^ n - 1) && !anyB (fun k => hasM S (cl k)) cc
def oI (x : Option Nat) : Int32 := match x with
  | none => -2
  | some a => nI a
/-- the least clash with the next greater bits among the first k clashes -/
def lsA (L : Nat → Bool) (cl : Nat → Nat) (last : Option Nat) : Nat → Option Nat
  | 0 => none
  | k + 1 => if (∀ z, last = some z → z < cl k) ∧ (∀ z, lsA L cl last k = some z → cl k < z) ∧ L (cl k) = true then some (cl k) else lsA L cl last k
/-- place r (from 0) of those among j, j + 1 .. (k of them) that P names -/
def nthF (P : Nat → Bool) : Nat → Nat → Nat → Option Nat
  | 0, _, _ => none
  | k + 1, j, r => if P j then (if r = 0 then some j else nthF P k (j + 1) (r - 1)) else nthF P k (j + 1) r

/-! what the reference's methods work out -/
theorem sh_r : ∀ n, n < 32 → ((nI n &&& 31).toBitVec.smod 32).toNat = n := by decide +kernel
theorem has_v {S k : Nat} (hS : S < 2 ^ 31) (hk : k < 31) : (nI S >>> (nI k &&& 31)) &&& 1 = nI (S / 2 ^ k % 2) := by
  rw [pk_shrN hS (nI k &&& 31) k (sh_r k (by omega))]
  exact pk_andN (m := 1) (Nat.lt_of_le_of_lt (Nat.div_le_self _ _) (Nat.lt_trans hS (by decide))) 1 (by decide)
theorem has_b {S k : Nat} : nI (S / 2 ^ k % 2) = 1 ↔ S.testBit k = true := by
  rw [Nat.testBit_eq_decide_div_mod_eq, decide_eq_true_eq]
  show nI (S / 2 ^ k % 2) = nI 1 ↔ _
  rw [nI_eq (by omega) (by decide)]
theorem i7_8 (x : Int32) : 7 < x ↔ 8 ≤ x := by
  rw [Int32.lt_iff_toInt_lt, Int32.le_iff_toInt_le, show (7 : Int32).toInt = 7 from rfl, show (8 : Int32).toInt = 8 from rfl]
  omega
theorem i1_0 (x : Int32) : x < 1 ↔ x ≤ 0 := by
  rw [Int32.lt_iff_toInt_lt, Int32.le_iff_toInt_le, show (1 : Int32).toInt = 1 from rfl, show (0 : Int32).toInt = 0 from rfl]
  omega
def moB (bt : Nat) (rk : Nat → Nat) (a b r : Nat) (j : Nat) : Bool := !bt.testBit j && (decide (rk j = r) && (a.testBit j && !b.testBit j))
def cmV (cs : Bool) (mo le : Nat) : Int32 := if cs = true then (if mo = le then 0 else if le < mo then 1 else 2) else (if mo = 0 ∧ le = 0 then 0 else if le = 0 then 1 else if mo = 0 then 2 else 3)
def cmY (n bt : Nat) (rk : Nat → Nat) (a b r : Nat) (cs : Bool) : Int32 := cmV cs (cntB (moB bt rk a b r) n) (cntB (moB bt rk b a r) n)
def fnz (c : Nat → Int32) : Nat → Nat → Int32
  | 0, _ => 0
  | k + 1, r => if c r = 0 then fnz c k (r + 1) else c r
theorem mo_f {bt : Nat} {rk : Nat → Nat} {a b r i : Nat} (h : ¬ (bt.testBit i = false ∧ rk i = r ∧ a.testBit i = true ∧ b.testBit i = false)) : moB bt rk a b r i = false := by
  unfold moB
  cases hq : (!bt.testBit i && (decide (rk i = r) && (a.testBit i && !b.testBit i)))
  · rfl
  · rw [Bool.and_eq_true, Bool.and_eq_true, Bool.and_eq_true, Bool.not_eq_true', Bool.not_eq_true', decide_eq_true_eq] at hq
    exact absurd hq h
theorem mo_t {bt : Nat} {rk : Nat → Nat} {a b r i : Nat} (h : bt.testBit i = false ∧ rk i = r ∧ a.testBit i = true ∧ b.testBit i = false) : moB bt rk a b r i = true := by
  unfold moB
  rw [h.1, h.2.1, h.2.2.1, h.2.2.2, decide_eq_true rfl]
  rfl
theorem cnt_f {P : Nat → Bool} {i x : Nat} (hx : x = cntB P i) (h : P i = false) : x = cntB P (i + 1) := by rw [cntB, h, hx]; rfl
theorem cnt_t {P : Nat → Bool} {i x : Nat} (hx : x = cntB P i) (h : P i = true) : x + 1 = cntB P (i + 1) := by rw [cntB, h, hx]; rfl
theorem wo_t {bt : Nat} {rk wt : Nat → Nat} {S i x : Nat} (hx : x = wor bt rk wt S 3 i) (h1 : bt.testBit i = false) (h2 : S.testBit i = true) : x + wt i = wor bt rk wt S 3 (i + 1) := by
  rw [wor, if_pos ⟨h2, h1⟩, if_neg (by decide), hx]
theorem wo_f {bt : Nat} {rk wt : Nat → Nat} {S i x : Nat} (hx : x = wor bt rk wt S 3 i) (h : ¬ (S.testBit i = true ∧ bt.testBit i = false)) : x = wor bt rk wt S 3 (i + 1) := by
  rw [wor, if_neg h, hx]
  rfl
theorem su_1 (a b w : Nat) : (nI a - nI b) + nI w = nI (a + w) - nI b := by
  rw [← nI_add, Int32.sub_eq_add_neg, Int32.sub_eq_add_neg, Int32.add_assoc, Int32.add_comm (-nI b), ← Int32.add_assoc]
theorem su_2 (a b w : Nat) : (nI a - nI b) - nI w = nI a - nI (b + w) := by
  rw [← nI_add, Int32.sub_eq_add_neg, Int32.sub_eq_add_neg, Int32.sub_eq_add_neg, Int32.neg_add, Int32.add_assoc, Int32.sub_eq_add_neg]
theorem su_3 {a b : Nat} (ha : a < 2 ^ 30) (hb : b < 2 ^ 30) : 0 < nI a - nI b ↔ b < a := by
  rw [Int32.lt_iff_toInt_lt, pk_sub_toInt ha hb, show (0 : Int32).toInt = 0 from rfl]
  omega
theorem wor3_le {bt : Nat} {rk wt : Nat → Nat} {S B : Nat} (hw : ∀ j, wt j ≤ B) : ∀ k, wor bt rk wt S 3 k ≤ k * B
  | 0 => by simp [wor]
  | k + 1 => by
    have h := wor3_le (bt := bt) (rk := rk) (S := S) hw k
    have h2 := hw k
    rw [wor, if_neg (show ¬ (3 : Nat) = 2 by decide), show (k + 1) * B = k * B + B from Nat.succ_mul k B]
    generalize k * B = y at h ⊢
    split <;> omega
theorem wor3_lt {bt : Nat} {rk wt : Nat → Nat} {S : Nat} (hw : ∀ j, wt j ≤ 1000) {k : Nat} (hk : k ≤ 11) : wor bt rk wt S 3 k < 2 ^ 30 :=
  Nat.lt_of_le_of_lt (wor3_le hw k) (Nat.lt_of_le_of_lt (Nat.mul_le_mul_right _ hk) (by decide))
def betY (n bt : Nat) (rk wt : Nat → Nat) (a b o : Nat) : Bool := if o = 0 then hasM a b else if o = 3 then decide (wor bt rk wt b 3 n < wor bt rk wt a 3 n) else decide (fnz (fun r => cmY n bt rk a b r (decide (o = 2))) 8 0 = 1)

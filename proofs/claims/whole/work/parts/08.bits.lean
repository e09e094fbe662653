/-! bits: Int32 of small numbers -/
theorem bx_and (a b : Nat) : nI a &&& nI b = nI (a &&& b) := by
  apply Int32.toBitVec_inj.1
  show BitVec.ofNat 32 a &&& BitVec.ofNat 32 b = BitVec.ofNat 32 (a &&& b)
  rw [BitVec.ofNat_and]
theorem bx_xor (a b : Nat) : nI a ^^^ nI b = nI (a ^^^ b) := by
  apply Int32.toBitVec_inj.1
  show BitVec.ofNat 32 a ^^^ BitVec.ofNat 32 b = BitVec.ofNat 32 (a ^^^ b)
  rw [BitVec.ofNat_xor]
theorem bx_or (a b : Nat) : nI a ||| nI b = nI (a ||| b) := by
  apply Int32.toBitVec_inj.1
  show BitVec.ofNat 32 a ||| BitVec.ofNat 32 b = BitVec.ofNat 32 (a ||| b)
  rw [BitVec.ofNat_or]
theorem bx_shl : ∀ i, i < 31 → (1 : Int32) <<< (nI i &&& 31) = nI (2 ^ i) := by decide +kernel
theorem bx_not : ((-1 : Int32)).toBitVec = BitVec.allOnes 32 := by decide
theorem bx_part {a b : Nat} (ha : a < 2 ^ 31) : (nI a &&& (nI b ^^^ (-1))) = 0 ↔ sp_sub a b = true := by
  rw [← Int32.toBitVec_inj, Int32.toBitVec_and, Int32.toBitVec_xor, bx_not]
  show (BitVec.ofNat 32 a &&& (BitVec.ofNat 32 b ^^^ BitVec.allOnes 32)) = 0#32 ↔ _
  unfold sp_sub
  rw [beq_iff_eq]
  have hk : ∀ i, i < 32 → (BitVec.ofNat 32 a &&& (BitVec.ofNat 32 b ^^^ BitVec.allOnes 32)).getLsbD i = (a.testBit i && !b.testBit i) := by
    intro i hi
    rw [BitVec.getLsbD_and, BitVec.getLsbD_xor, BitVec.getLsbD_ofNat, BitVec.getLsbD_ofNat, BitVec.getLsbD_allOnes, decide_eq_true hi]
    cases a.testBit i <;> cases b.testBit i <;> rfl
  constructor
  · intro h
    apply Nat.eq_of_testBit_eq
    intro i
    rw [Nat.testBit_and]
    rcases Nat.lt_or_ge i 32 with hi | hi
    · have h1 := hk i hi
      rw [h, BitVec.getLsbD_zero] at h1
      revert h1
      cases a.testBit i <;> cases b.testBit i <;> decide
    · rw [Nat.testBit_lt_two_pow (Nat.lt_of_lt_of_le ha (Nat.pow_le_pow_right (by decide) (by omega)))]
      rfl
  · intro h
    apply BitVec.eq_of_getLsbD_eq
    intro i hi
    rw [hk i hi, BitVec.getLsbD_zero]
    have h1 : (a &&& b).testBit i = a.testBit i := by rw [h]
    rw [Nat.testBit_and] at h1
    revert h1
    cases a.testBit i <;> cases b.testBit i <;> decide
theorem bx_bit {a i : Nat} (ha : a < 2 ^ 31) (hi : i < 31) : (nI a &&& nI (2 ^ i)) = 0 ↔ a.testBit i = false := by
  have hl : a &&& 2 ^ i < 2 ^ 31 := Nat.and_lt_two_pow a (Nat.pow_lt_pow_right (by decide) hi)
  rw [bx_and, ← nI_0, nI_eq hl (by decide)]
  constructor
  · intro h
    have h1 : (a &&& 2 ^ i).testBit i = false := by rw [h]; exact Nat.zero_testBit i
    rw [Nat.testBit_and, Nat.testBit_two_pow_self, Bool.and_true] at h1
    exact h1
  · intro h
    apply Nat.eq_of_testBit_eq
    intro j
    rw [Nat.testBit_and, Nat.testBit_two_pow, Nat.zero_testBit]
    rcases Nat.decEq i j with q | q
    · rw [decide_eq_false q, Bool.and_false]
    · rw [← q, h]; rfl
theorem bI_0 {b : Bool} : bI b = 0 ↔ b = false := by cases b <;> simp [bI] <;> decide
theorem bI_t : bI true = 1 := rfl
theorem bI_f : bI false = 0 := rfl
theorem upd_nI (f : Nat → Nat) (k v : Nat) : upd (fun j => nI (f j)) k (nI v) = fun j => nI (va_up f k v j) := by
  funext j
  unfold upd va_up
  split <;> rfl
theorem upd_bI (f : Nat → Bool) (k : Nat) (v : Bool) : upd (fun j => bI (f j)) k (vp_nar .boolean (bI v)) = fun j => bI (va_up f k v j) := by
  funext j
  unfold upd va_up
  have h : vp_nar .boolean (bI v) = bI v := by cases v <;> rfl
  rw [h]
  split <;> rfl

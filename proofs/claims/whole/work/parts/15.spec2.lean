/-! the least clashes, as the class looks for them -/
theorem oi_neg {x : Option Nat} (hx : ∀ z, x = some z → z < 2 ^ 31) : oI x < 0 ↔ x = none := by
  cases x with
  | none => exact ⟨fun _ => rfl, fun _ => (by decide : (-2 : Int32) < 0)⟩
  | some a => exact ⟨fun h => absurd h (nI_pos (hx a rfl)), fun h => by cases h⟩
theorem oi_1 {la : Option Nat} {c : Nat} (hla : ∀ z, la = some z → z < 2 ^ 31) (hc : c < 2 ^ 31) : nI c ≤ oI la ↔ ¬ ∀ z, la = some z → z < c := by
  cases la with
  | none =>
    refine ⟨fun h => ?_, fun h => absurd (fun z hz => by cases hz) h⟩
    have h1 : (nI c).toInt ≤ (-2 : Int32).toInt := Int32.le_iff_toInt_le.mp h
    rw [nI_toInt hc, show (-2 : Int32).toInt = -2 from rfl] at h1
    omega
  | some a =>
    show nI c ≤ nI a ↔ _
    rw [nI_leI hc (hla a rfl)]
    exact ⟨fun h q => absurd (q a rfl) (by omega), fun h => Nat.le_of_not_lt (fun q => h (fun z hz => by cases hz; exact q))⟩
theorem oi_2 {x : Option Nat} {c : Nat} (hx : ∀ z, x = some z → z < 2 ^ 31) (hc : c < 2 ^ 31) (h0 : ¬ oI x < 0) : oI x ≤ nI c ↔ ¬ ∀ z, x = some z → c < z := by
  cases x with
  | none => exact absurd (by decide : (-2 : Int32) < 0) h0
  | some a =>
    show nI a ≤ nI c ↔ _
    rw [nI_leI (hx a rfl) hc]
    exact ⟨fun h q => absurd (q a rfl) (by omega), fun h => Nat.le_of_not_lt (fun q => h (fun z hz => by cases hz; exact q))⟩
theorem lsA_lt {L : Nat → Bool} {cl : Nat → Nat} {la : Option Nat} (hcl : ∀ j, cl j < 2048) : ∀ k z, lsA L cl la k = some z → z < 2048
  | 0, z, h => by cases h
  | k + 1, z, h => by
    rw [lsA] at h
    split at h
    · cases h; exact hcl k
    · exact lsA_lt hcl k z h
/-- k steps from s on -/
def lsR (L : Nat → Bool) (cl : Nat → Nat) (cc : Nat) : Nat → Option Nat → Option Nat
  | 0, s => s
  | k + 1, s => match lsA L cl s cc with
    | none => none
    | some z => lsR L cl cc k (some z)
/-- the answer of least -/
def leaX (n : Nat) (cl : Nat → Nat) (cc : Nat) (x : Int32) : Int32 := if x < 0 ∨ ¬ x < nI cc then -2 else oI (lsR (isLX n cl cc) cl cc (x.toNatClampNeg + 1) none)

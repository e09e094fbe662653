/-! the least clashes, as the reference counts them -/
def isLY (n : Nat) (cl : Nat → Nat) (cc S : Nat) : Bool := decide (S < 2 ^ n) && (anyB (fun k => decide (cl k = S)) cc && !anyB (fun k => !decide (cl k = S) && sp_sub (cl k) S) cc)
theorem flt_len {P : Nat → Bool} : ∀ k, (flt P k).length = cntB P k
  | 0 => rfl
  | k + 1 => by
    cases h : P k
    · rw [flt_f h, flt_len k, cntB, h]; rfl
    · rw [flt_t h, List.length_append, List.length_singleton, flt_len k, cntB, h]; rfl
theorem cnt_mono {P : Nat → Bool} {a : Nat} : ∀ k, cntB P a ≤ cntB P (a + k)
  | 0 => Nat.le_refl _
  | k + 1 => by
    have := cnt_mono (P := P) (a := a) k
    show cntB P a ≤ cntB P (a + k) + _
    omega
theorem nth_cnt {P : Nat → Bool} : ∀ (k j r z : Nat), nthF P k j r = some z → r + cntB P j < cntB P (j + k)
  | 0, j, r, z, h => by cases h
  | k + 1, j, r, z, h => by
    rw [nthF] at h
    split at h
    · rename_i hp
      have h1 : cntB P (j + 1) = cntB P j + 1 := by rw [cntB, hp]; rfl
      split at h
      · have h2 := cnt_mono (P := P) (a := j + 1) k
        rw [show j + 1 + k = j + (k + 1) by omega] at h2
        omega
      · have h2 := nth_cnt k (j + 1) (r - 1) z h
        rw [show j + 1 + k = j + (k + 1) by omega] at h2
        omega
    · rename_i hp
      have hp' : P j = false := by cases hq : P j; rfl; exact absurd hq hp
      have h1 : cntB P (j + 1) = cntB P j := (cnt_f rfl hp').symm
      have h2 := nth_cnt k (j + 1) r z h
      rw [show j + 1 + k = j + (k + 1) by omega] at h2
      omega
theorem nth_none {P : Nat → Bool} : ∀ (k j r : Nat), (∀ y, j ≤ y → y < j + k → P y = false) → nthF P k j r = none
  | 0, _, _, _ => rfl
  | k + 1, j, r, h => by
    rw [nthF, if_neg (by rw [h j (Nat.le_refl _) (by omega)]; decide)]
    exact nth_none k (j + 1) r (fun y h1 h2 => h y (by omega) (by omega))
theorem nth_skip {P : Nat → Bool} {z : Nat} (hz : P z = true) : ∀ (d k j r : Nat), z = j + d → d < k → (∀ y, j ≤ y → y < z → P y = false) → nthF P k j r = if r = 0 then some z else nthF P (k - d - 1) (z + 1) (r - 1)
  | 0, k, j, r, h1, h2, h3 => by
    rw [show k = (k - 1) + 1 by omega, nthF, show j = z by omega, if_pos hz, show k - 1 + 1 - 0 - 1 = k - 1 by omega]
  | d + 1, k, j, r, h1, h2, h3 => by
    rw [show k = (k - 1) + 1 by omega, nthF, if_neg (by rw [h3 j (Nat.le_refl _) (by omega)]; decide), nth_skip hz d (k - 1) (j + 1) r (by omega) (by omega) (fun y h4 h5 => h3 y (by omega) h5), show k - 1 + 1 - (d + 1) - 1 = k - 1 - d - 1 by omega]
/-- lsA finds the first that is named behind 'last' -/
theorem lsA_spec {L : Nat → Bool} {cl : Nat → Nat} {la : Option Nat} : ∀ k, (∀ z, lsA L cl la k = some z → L z = true ∧ (∃ i, i < k ∧ cl i = z) ∧ (∀ y, la = some y → y < z)) ∧ (∀ i, i < k → L (cl i) = true → (∀ y, la = some y → y < cl i) → ∃ z, lsA L cl la k = some z ∧ z ≤ cl i)
  | 0 => ⟨fun z h => (by cases h), fun i h => absurd h (Nat.not_lt_zero i)⟩
  | k + 1 => by
    obtain ⟨h1, h2⟩ := lsA_spec (L := L) (cl := cl) (la := la) k
    rw [lsA]
    split
    · rename_i hc
      refine ⟨fun z hz => ?_, fun i hi hL hl => ?_⟩
      · have := Option.some.inj hz
        rw [← this]
        exact ⟨hc.2.2, ⟨k, by omega, rfl⟩, hc.1⟩
      · refine ⟨cl k, rfl, ?_⟩
        rcases Nat.lt_or_ge i k with q | q
        · obtain ⟨z, h3, h4⟩ := h2 i q hL hl
          have := hc.2.1 z h3
          omega
        · rw [show i = k by omega]; exact Nat.le_refl _
    · rename_i hc
      refine ⟨fun z hz => ?_, fun i hi hL hl => ?_⟩
      · obtain ⟨a, ⟨i, b, c⟩, d⟩ := h1 z hz
        exact ⟨a, ⟨i, by omega, c⟩, d⟩
      · rcases Nat.lt_or_ge i k with q | q
        · exact h2 i q hL hl
        · rw [show i = k by omega] at hL hl ⊢
          refine Classical.byContradiction fun hn => hc ⟨hl, fun z hz => ?_, hL⟩
          exact Nat.lt_of_not_le fun q2 => hn ⟨z, hz, q2⟩
theorem isL_eq {n : Nat} {cl : Nat → Nat} {cc S : Nat} (h : ∃ k, k < cc ∧ cl k = S) : isLX n cl cc S = isLY n cl cc S := by
  unfold isLX isLY
  have h1 : sp_sub S (2 ^ n - 1) = decide (S < 2 ^ n) := by
    rw [Bool.eq_iff_iff, decide_eq_true_eq, sub_iff]
    constructor
    · intro q
      refine Nat.lt_pow_two_of_testBit S fun i hi => ?_
      cases h2 : S.testBit i
      · rfl
      · have := q i h2
        rw [Nat.testBit_two_pow_sub_one] at this
        have := of_decide_eq_true this
        omega
    · intro q i hi
      rw [Nat.testBit_two_pow_sub_one]
      exact decide_eq_true (bit_lt q hi)
  obtain ⟨k, hk, e⟩ := h
  rw [h1, anyB_of (P := fun k => decide (cl k = S)) hk (decide_eq_true e), Bool.true_and]
  congr 2
  refine anyB_congr fun i _ => ?_
  unfold hasM
  by_cases hq : cl i = S
  · rw [decide_eq_true hq, decide_eq_true hq.symm]
  · rw [decide_eq_false hq, decide_eq_false (fun z => hq z.symm)]
theorem isLY_in {n : Nat} {cl : Nat → Nat} {cc S : Nat} (h : isLY n cl cc S = true) : ∃ k, k < cc ∧ cl k = S := by
  unfold isLY at h
  rw [Bool.and_eq_true, Bool.and_eq_true] at h
  obtain ⟨k, h1, h2⟩ := anyB_iff.mp h.2.1
  exact ⟨k, h1, of_decide_eq_true h2⟩
theorem lsR_nth {n : Nat} {cl : Nat → Nat} {cc : Nat} (hcl : ∀ j, cl j < 2048) : ∀ (r : Nat) (s : Option Nat) (j : Nat), j ≤ 2048 → (∀ y, (∀ z, s = some z → z < y) ↔ j ≤ y) → lsR (isLX n cl cc) cl cc (r + 1) s = nthF (isLY n cl cc) (2048 - j) j r := by
  intro r
  induction r with
  | zero =>
    intro s j hj hs
    rw [lsR]
    obtain ⟨h1, h2⟩ := lsA_spec (L := isLX n cl cc) (cl := cl) (la := s) cc
    cases hq : lsA (isLX n cl cc) cl s cc with
    | none =>
      rw [nth_none]
      intro y h3 h4
      cases h5 : isLY n cl cc y
      · rfl
      · obtain ⟨k, h6, h7⟩ := isLY_in h5
        obtain ⟨z, h8, -⟩ := h2 k h6 (by rw [isL_eq ⟨k, h6, rfl⟩, h7]; exact h5) (by rw [h7]; exact (hs y).mpr h3)
        rw [hq] at h8; cases h8
    | some z =>
      obtain ⟨h3, h4, h5⟩ := h1 z hq
      rw [isL_eq h4] at h3
      have h6 : z < 2048 := by obtain ⟨k, -, e⟩ := h4; rw [← e]; exact hcl k
      have h7 : j ≤ z := (hs z).mp h5
      rw [nth_skip h3 (z - j) (2048 - j) j 0 (by omega) (by omega) (fun y h8 h9 => by
        cases h10 : isLY n cl cc y
        · rfl
        · obtain ⟨k, h11, h12⟩ := isLY_in h10
          obtain ⟨z2, h13, h14⟩ := h2 k h11 (by rw [isL_eq ⟨k, h11, rfl⟩, h12]; exact h10) (by rw [h12]; exact (hs y).mpr h8)
          rw [hq] at h13
          have := Option.some.inj h13
          omega), if_pos rfl]
      rfl
  | succ r ih =>
    intro s j hj hs
    rw [lsR]
    obtain ⟨h1, h2⟩ := lsA_spec (L := isLX n cl cc) (cl := cl) (la := s) cc
    cases hq : lsA (isLX n cl cc) cl s cc with
    | none =>
      rw [nth_none]
      intro y h3 h4
      cases h5 : isLY n cl cc y
      · rfl
      · obtain ⟨k, h6, h7⟩ := isLY_in h5
        obtain ⟨z, h8, -⟩ := h2 k h6 (by rw [isL_eq ⟨k, h6, rfl⟩, h7]; exact h5) (by rw [h7]; exact (hs y).mpr h3)
        rw [hq] at h8; cases h8
    | some z =>
      obtain ⟨h3, h4, h5⟩ := h1 z hq
      rw [isL_eq h4] at h3
      have h6 : z < 2048 := by obtain ⟨k, -, e⟩ := h4; rw [← e]; exact hcl k
      have h7 : j ≤ z := (hs z).mp h5
      rw [nth_skip h3 (z - j) (2048 - j) j (r + 1) (by omega) (by omega) (fun y h8 h9 => by
        cases h10 : isLY n cl cc y
        · rfl
        · obtain ⟨k, h11, h12⟩ := isLY_in h10
          obtain ⟨z2, h13, h14⟩ := h2 k h11 (by rw [isL_eq ⟨k, h11, rfl⟩, h12]; exact h10) (by rw [h12]; exact (hs y).mpr h8)
          rw [hq] at h13
          have := Option.some.inj h13
          omega), if_neg (by omega), show r + 1 - 1 = r by omega, show 2048 - j - (z - j) - 1 = 2048 - (z + 1) by omega]
      refine ih (some z) (z + 1) (by omega) fun y => ?_
      exact ⟨fun q => q z rfl, fun q w hw => by have := Option.some.inj hw; omega⟩
/-- the answer of least, by the reference's count -/
theorem lea_eq {n : Nat} {cl : Nat → Nat} {cc r : Nat} (hcl : ∀ j, cl j < 2048) (hcc : cc ≤ 40) (hr : r < 2 ^ 31) : leaX n cl cc (nI r) = oI (nthF (isLY n cl cc) 2048 0 r) := by
  unfold leaX
  by_cases h : r < cc
  · rw [if_neg (fun q => q.elim (nI_pos hr) (fun q => q ((nI_ltI hr (by omega)).mpr h))), nI_clamp hr]
    rw [lsR_nth hcl r none 0 (by omega) (fun y => ⟨fun _ => Nat.zero_le y, fun _ z hz => by cases hz⟩)]
  · rw [if_pos (Or.inr (fun q => h ((nI_ltI hr (by omega)).mp q)))]
    cases hq : nthF (isLY n cl cc) 2048 0 r with
    | none => rfl
    | some z =>
      exfalso
      have h1 := nth_cnt 2048 0 r z hq
      rw [Nat.zero_add] at h1
      have h5 := flt_len (P := isLY n cl cc) 2048
      have h2 : (flt (isLY n cl cc) 2048).length ≤ ((List.range cc).map cl).length := by
        refine List.Nodup.length_le_of_subset (flt_nodup _ _) fun x hx => ?_
        obtain ⟨k, h3, h4⟩ := isLY_in (flt_mem.mp hx).2
        exact List.mem_map.mpr ⟨k, List.mem_range.mpr h3, h4⟩
      rw [List.length_map, List.length_range] at h2
      omega

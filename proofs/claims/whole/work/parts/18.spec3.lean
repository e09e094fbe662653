/-! the repairs -/
def kepX (bt : Nat) (cl : Nat → Nat) (cc S : Nat) : Bool := sp_sub bt S && !clS cl cc S
def isRep (n bt : Nat) (rk wt cl : Nat → Nat) (cc od S : Nat) : Bool := kepX bt cl cc S && !anyB (fun T => kepX bt cl cc T && betX n bt rk wt T S od) (2 ^ n)
def reps (n bt : Nat) (rk wt cl : Nat → Nat) (cc od : Nat) : List Nat := flt (isRep n bt rk wt cl cc od) (2 ^ n)
theorem anyB_congr {P Q : Nat → Bool} : ∀ {n : Nat}, (∀ i, i < n → P i = Q i) → anyB P n = anyB Q n
  | 0, _ => rfl
  | n + 1, h => by rw [anyB, anyB, anyB_congr (fun i hi => h i (by omega)), h n (by omega)]
theorem anyB_not {P : Nat → Bool} {n : Nat} : anyB P n = false ↔ ∀ i, i < n → P i = false := by
  constructor
  · intro h i hi
    cases hq : P i
    · rfl
    · rw [anyB_of hi hq] at h; cases h
  · intro h
    cases hq : anyB P n
    · rfl
    · obtain ⟨i, h1, h2⟩ := anyB_iff.mp hq
      rw [h i h1] at h2; cases h2
theorem hasM_iff {a b : Nat} : hasM a b = true ↔ a ≠ b ∧ sp_sub b a = true := by
  unfold hasM
  rw [Bool.and_eq_true, Bool.not_eq_true', decide_eq_false_iff_not]
theorem or_bit {S i j : Nat} : (S ||| 2 ^ i).testBit j = (S.testBit j || decide (i = j)) := by rw [Nat.testBit_or, Nat.testBit_two_pow]
theorem hmr_iff {f : Nat → Nat} {a b : Nat} : ∀ {k r : Nat}, hmr f a b k r = true ↔ ∃ q, q < k ∧ (∀ z, z < q → a &&& f (r + z) = b &&& f (r + z)) ∧ hasM (a &&& f (r + q)) (b &&& f (r + q)) = true
  | 0, r => by simp [hmr]
  | k + 1, r => by
    rw [hmr]
    split
    · rename_i he
      rw [hmr_iff]
      constructor
      · rintro ⟨q, h1, h2, h3⟩
        refine ⟨q + 1, by omega, fun z hz => ?_, by rw [show r + (q + 1) = r + 1 + q by omega]; exact h3⟩
        rcases Nat.decEq z 0 with h | h
        · have := h2 (z - 1) (by omega)
          rwa [show r + 1 + (z - 1) = r + z by omega] at this
        · rw [h]; exact he
      · rintro ⟨q, h1, h2, h3⟩
        rcases Nat.decEq q 0 with h | h
        · refine ⟨q - 1, by omega, fun z hz => ?_, by rw [show r + 1 + (q - 1) = r + q by omega]; exact h3⟩
          have := h2 (z + 1) (by omega)
          rwa [show r + (z + 1) = r + 1 + z by omega] at this
        · rw [h] at h3
          exact absurd he (hasM_iff.mp h3).1
    · rename_i he
      constructor
      · intro h
        exact ⟨0, by omega, fun z hz => by omega, h⟩
      · rintro ⟨q, h1, h2, h3⟩
        rcases Nat.decEq q 0 with h | h
        · exact absurd (h2 0 (by omega)) he
        · rw [h] at h3; exact h3
theorem and_bit {a b i : Nat} : (a &&& b).testBit i = (a.testBit i && b.testBit i) := Nat.testBit_and a b i
/-- two sets are alike on the bits of f -/
theorem and_eq {a b f : Nat} (h : ∀ i, f.testBit i = true → a.testBit i = b.testBit i) : a &&& f = b &&& f := by
  apply Nat.eq_of_testBit_eq
  intro i
  rw [and_bit, and_bit]
  cases hf : f.testBit i
  · rw [Bool.and_false, Bool.and_false]
  · rw [h i hf]
theorem eq_and {a b f i : Nat} (h : a &&& f = b &&& f) (hf : f.testBit i = true) : a.testBit i = b.testBit i := by
  have h1 : (a &&& f).testBit i = (b &&& f).testBit i := by rw [h]
  rwa [and_bit, and_bit, hf, Bool.and_true, Bool.and_true] at h1
theorem dfl_t {bt : Nat} {rk : Nat → Nat} {f t i n : Nat} : (dfl bt rk f t n).testBit i = true ↔ i < n ∧ bt.testBit i = false ∧ f ≤ rk i ∧ rk i ≤ t := by
  rw [dfl_bit, Bool.and_eq_true, Bool.and_eq_true, Bool.and_eq_true, decide_eq_true_eq, decide_eq_true_eq, decide_eq_true_eq, Bool.not_eq_true']
  exact ⟨fun h => ⟨h.1.1.1, h.1.1.2, h.1.2, h.2⟩, fun h => ⟨⟨⟨h.1, h.2.1⟩, h.2.2.1⟩, h.2.2.2⟩⟩
/-- a set that has all of another one, and more, and both all hard ones, is better by every order -/
theorem wor_mono {bt : Nat} {rk wt : Nat → Nat} {S T o : Nat} (h : sp_sub S T = true) : ∀ k, wor bt rk wt S o k ≤ wor bt rk wt T o k
  | 0 => Nat.le_refl _
  | k + 1 => by
    have h1 := wor_mono (bt := bt) (rk := rk) (wt := wt) (o := o) h k
    rw [wor, wor]
    cases hs : S.testBit k
    · rw [if_neg (fun q => by cases q.1)]; omega
    · rw [sub_iff.mp h k hs]; omega
theorem wor_more {bt : Nat} {rk wt : Nat → Nat} {S T o i : Nat} (hw : 1 ≤ wt i) (h : sp_sub S T = true) (hb : bt.testBit i = false) (hT : T.testBit i = true) (hS : S.testBit i = false) : ∀ k, i < k → wor bt rk wt S o k < wor bt rk wt T o k
  | 0, hk => absurd hk (Nat.not_lt_zero i)
  | k + 1, hk => by
    rcases Nat.decEq i k with q | q
    · have h1 := wor_more (rk := rk) (o := o) hw h hb hT hS k (by omega)
      rw [wor, wor]
      cases hs : S.testBit k
      · rw [if_neg (fun q => by cases q.1)]; omega
      · rw [sub_iff.mp h k hs]; omega
    · have h1 := wor_mono (bt := bt) (rk := rk) (wt := wt) (o := o) h k
      rw [wor, wor, ← q, hS, hT, hb, if_neg (fun q => by cases q.1), if_pos ⟨rfl, rfl⟩]
      rw [← q] at h1
      have h2 := hw
      have h3 : 0 < 2 ^ (4 * (7 - rk i)) := bx_pos _
      generalize 2 ^ (4 * (7 - rk i)) = z at h3 ⊢
      split <;> omega
theorem bet_more {n bt : Nat} {rk wt : Nat → Nat} {S T od : Nat} (hrk : ∀ j, rk j < 8) (hw : ∀ j, j < n → 1 ≤ wt j) (hT : T < 2 ^ n) (hb : sp_sub bt S = true) (h : sp_sub S T = true) (hne : S ≠ T) : betX n bt rk wt T S od = true := by
  obtain ⟨i, h1, h2⟩ := sub_more h hne
  have h3 : bt.testBit i = false := by
    cases hq : bt.testBit i
    · rfl
    · rw [sub_iff.mp hb i hq] at h2; cases h2
  have hi := bit_lt hT h1
  unfold betX
  split
  · exact hasM_iff.mpr ⟨fun q => hne q.symm, h⟩
  · split
    · obtain ⟨q, ⟨h4, h5⟩, h6⟩ := pk_least (fun r => r < 8 ∧ S &&& dfl bt rk r r n ≠ T &&& dfl bt rk r r n) ⟨rk i, hrk i, fun e => by
        have := eq_and e (i := i) (dfl_t.mpr ⟨hi, h3, Nat.le_refl _, Nat.le_refl _⟩)
        rw [h1, h2] at this; cases this⟩
      refine hmr_iff.mpr ⟨q, h4, fun z hz => ?_, hasM_iff.mpr ⟨fun e => h5 (by rw [Nat.zero_add] at e; exact e.symm), ?_⟩⟩
      · rw [Nat.zero_add]
        refine Classical.byContradiction fun e => h6 z hz ⟨by omega, fun e2 => e e2.symm⟩
      · refine sub_iff.mpr fun j hj => ?_
        rw [and_bit, Bool.and_eq_true] at hj ⊢
        exact ⟨sub_iff.mp h j hj.1, hj.2⟩
    · exact decide_eq_true (wor_more (hw i hi) h h3 h1 h2 n hi)
theorem rep_anti {n bt : Nat} {rk wt cl : Nat → Nat} {cc od S T : Nat} (hrk : ∀ j, rk j < 8) (hw : ∀ j, j < n → 1 ≤ wt j) (hT : T < 2 ^ n) (h1 : isRep n bt rk wt cl cc od S = true) (h2 : isRep n bt rk wt cl cc od T = true) (h : sp_sub S T = true) : S = T := by
  refine Classical.byContradiction fun hne => ?_
  unfold isRep at h1 h2
  rw [Bool.and_eq_true, Bool.not_eq_true'] at h1 h2
  have hk := h1.1
  unfold kepX at hk
  rw [Bool.and_eq_true] at hk
  have h3 := anyB_not.mp h1.2 T hT
  rw [h2.1, bet_more hrk hw hT hk.1 h hne] at h3
  cases h3
theorem flt_anti {P : Nat → Bool} {n k : Nat} (hn : n ≤ 11) (hk : k ≤ 2 ^ n) (h : ∀ S T, S < 2 ^ n → T < 2 ^ n → P S = true → P T = true → sp_sub S T = true → S = T) : (flt P k).length ≤ 462 := by
  refine sp_bound _ (flt_nodup P k) (fun a ha => ?_) (fun a ha b hb hs => ?_)
  · have := (flt_mem.mp ha).1
    have := bx_p2 hn
    omega
  · have h1 := flt_mem.mp ha
    have h2 := flt_mem.mp hb
    exact h a b (by omega) (by omega) h1.2 h2.2 hs
theorem rep_len {n bt : Nat} {rk wt cl : Nat → Nat} {cc od k : Nat} (hn : n ≤ 11) (hk : k ≤ 2 ^ n) (hrk : ∀ j, rk j < 8) (hw : ∀ j, j < n → 1 ≤ wt j) : (flt (isRep n bt rk wt cl cc od) k).length ≤ 462 :=
  flt_anti hn hk (fun _ _ _ hT h1 h2 h => rep_anti hrk hw hT h1 h2 h)
/-- orders 0 and 1, as the class tries them -/
def groX (n bt : Nat) (rk : Nat → Nat) (od : Nat) (cg : Nat → Bool) (S : Nat) : Bool := (sp_sub bt S && !cg S) && !anyB (fun i => !S.testBit i && !cg ((S &&& comX n bt rk od i) ||| 2 ^ i)) n
theorem gro_lt {n S i c : Nat} (hS : S < 2 ^ n) (hi : i < n) : (S &&& c) ||| 2 ^ i < 2 ^ n := Nat.or_lt_two_pow (Nat.lt_of_le_of_lt Nat.and_le_left hS) (Nat.pow_lt_pow_right (by decide) hi)
theorem gro_rep {n bt : Nat} {rk wt cl : Nat → Nat} {cc od : Nat} {cg : Nat → Bool} {S : Nat} (hrk : ∀ j, rk j < 8) (hod : od < 2) (hbt : bt < 2 ^ n) (hS : S < 2 ^ n) (hcg : ∀ T, T < 2 ^ n → cg T = clS cl cc T) : groX n bt rk od cg S = isRep n bt rk wt cl cc od S := by
  unfold groX isRep
  rw [hcg S hS]
  show (kepX bt cl cc S && _) = _
  cases hk : kepX bt cl cc S
  · rfl
  rw [Bool.true_and, Bool.true_and]
  congr 1
  have hk2 := hk
  unfold kepX at hk2
  rw [Bool.and_eq_true, Bool.not_eq_true'] at hk2
  obtain ⟨hb, hc⟩ := hk2
  rw [Bool.eq_iff_iff, anyB_iff, anyB_iff]
  constructor
  · rintro ⟨i, hi, h1⟩
    rw [Bool.and_eq_true, Bool.not_eq_true', Bool.not_eq_true'] at h1
    obtain ⟨h1, h2⟩ := h1
    have hU := gro_lt (c := comX n bt rk od i) hS hi
    rw [hcg _ hU] at h2
    have hbi : bt.testBit i = false := by
      cases hq : bt.testBit i
      · rfl
      · rw [sub_iff.mp hb i hq] at h1; cases h1
    have hbc : sp_sub bt (comX n bt rk od i) = true := by
      refine sub_iff.mpr fun j hj => ?_
      unfold comX
      split
      · rw [Nat.testBit_two_pow_sub_one]
        exact decide_eq_true (bit_lt hbt hj)
      · rw [Nat.testBit_or, hj]; rfl
    refine ⟨_, hU, ?_⟩
    rw [Bool.and_eq_true]
    refine ⟨?_, ?_⟩
    · unfold kepX
      rw [Bool.and_eq_true, Bool.not_eq_true']
      refine ⟨sub_iff.mpr fun j hj => ?_, h2⟩
      rw [or_bit, and_bit, sub_iff.mp hb j hj, sub_iff.mp hbc j hj]
      rfl
    · unfold betX
      split
      · rename_i h0
        rw [comX, if_pos h0]
        refine hasM_iff.mpr ⟨fun e => ?_, sub_iff.mpr fun j hj => ?_⟩
        · have h5 : ((S &&& (2 ^ n - 1)) ||| 2 ^ i).testBit i = S.testBit i := by rw [e]
          rw [or_bit, h1, decide_eq_true rfl, Bool.or_true] at h5
          cases h5
        · rw [or_bit, and_bit, hj, Nat.testBit_two_pow_sub_one, decide_eq_true (bit_lt hS hj)]
          rfl
      · rename_i h0
        rw [if_pos (show od = 1 by omega), comX, if_neg h0]
        refine hmr_iff.mpr ⟨rk i, hrk i, fun z hz => ?_, hasM_iff.mpr ⟨fun e => ?_, sub_iff.mpr fun j hj => ?_⟩⟩
        · refine and_eq fun j hj => ?_
          rw [Nat.zero_add] at hj
          have hj2 := dfl_t.mp hj
          rw [or_bit, and_bit, Nat.testBit_or, dfl_t.mpr ⟨hj2.1, hj2.2.1, Nat.zero_le _, by omega⟩, Bool.or_true, Bool.and_true, decide_eq_false (fun q => by rw [← q] at hj2; omega), Bool.or_false]
        · rw [Nat.zero_add] at e
          have h5 := eq_and e (i := i) (dfl_t.mpr ⟨hi, hbi, Nat.le_refl _, Nat.le_refl _⟩)
          rw [or_bit, h1, decide_eq_true rfl, Bool.or_true] at h5
          cases h5
        · rw [Nat.zero_add, and_bit, Bool.and_eq_true] at hj
          have hj2 := dfl_t.mp hj.2
          rw [Nat.zero_add, and_bit, or_bit, and_bit, Nat.testBit_or, hj.1, hj.2, dfl_t.mpr ⟨hj2.1, hj2.2.1, Nat.zero_le _, by omega⟩]
          simp
  · rintro ⟨T, hT, h1⟩
    rw [Bool.and_eq_true] at h1
    obtain ⟨h1, h2⟩ := h1
    unfold kepX at h1
    rw [Bool.and_eq_true, Bool.not_eq_true'] at h1
    obtain ⟨hbT, hcT⟩ := h1
    have fin : ∀ i, i < n → S.testBit i = false → sp_sub ((S &&& comX n bt rk od i) ||| 2 ^ i) T = true → ∃ i, i < n ∧ (!S.testBit i && !cg ((S &&& comX n bt rk od i) ||| 2 ^ i)) = true := by
      intro i hi h3 h4
      refine ⟨i, hi, ?_⟩
      rw [h3, hcg _ (gro_lt hS hi)]
      cases hq : clS cl cc ((S &&& comX n bt rk od i) ||| 2 ^ i)
      · rfl
      · rw [clS_mono h4 hq] at hcT; cases hcT
    unfold betX at h2
    split at h2
    · rename_i h0
      obtain ⟨h3, h4⟩ := hasM_iff.mp h2
      obtain ⟨i, h5, h6⟩ := sub_more h4 (fun q => h3 q.symm)
      refine fin i (bit_lt hT h5) h6 (sub_iff.mpr fun j hj => ?_)
      rw [or_bit, and_bit, Bool.or_eq_true, Bool.and_eq_true] at hj
      rcases hj with hj | hj
      · exact sub_iff.mp h4 j hj.1
      · rw [← of_decide_eq_true hj]; exact h5
    · rename_i h0
      rw [if_pos (show od = 1 by omega)] at h2
      obtain ⟨q, h3, h4, h5⟩ := hmr_iff.mp h2
      obtain ⟨h6, h7⟩ := hasM_iff.mp h5
      rw [Nat.zero_add] at h6 h7
      obtain ⟨i, h8, h9⟩ := sub_more h7 (fun z => h6 z.symm)
      rw [and_bit, Bool.and_eq_true] at h8
      have hi := dfl_t.mp h8.2
      rw [and_bit, h8.2, Bool.and_true] at h9
      refine fin i hi.1 h9 (sub_iff.mpr fun j hj => ?_)
      rw [or_bit, and_bit, Bool.or_eq_true, Bool.and_eq_true, comX, if_neg h0, Nat.testBit_or, Bool.or_eq_true] at hj
      rcases hj with ⟨hj, hj2 | hj2⟩ | hj
      · exact sub_iff.mp hbT j hj2
      · have hd := dfl_t.mp hj2
        rcases Nat.lt_or_ge (rk j) q with hq | hq
        · have h10 := h4 (rk j) hq
          rw [Nat.zero_add] at h10
          rw [eq_and h10 (i := j) (dfl_t.mpr ⟨hd.1, hd.2.1, Nat.le_refl _, Nat.le_refl _⟩)]
          exact hj
        · have h11 : (S &&& dfl bt rk q q n).testBit j = true := by
            rw [and_bit, hj, dfl_t.mpr ⟨hd.1, hd.2.1, hq, by omega⟩]; rfl
          have h12 := sub_iff.mp h7 j h11
          rw [and_bit, Bool.and_eq_true] at h12
          exact h12.1
      · rw [← of_decide_eq_true hj]; exact h8.1

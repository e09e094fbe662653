/-! orders 2 and 3: the worthiest kept sets, as the class collects them -/
def wst (K : Nat → Bool) (w : Nat → Nat) : Nat → Option Nat × List Nat
  | 0 => (none, [])
  | i + 1 => if K i = true then (if (wst K w i).1 = some (w i) then ((wst K w i).1, (wst K w i).2 ++ [i]) else if (∀ v, (wst K w i).1 = some v → v < w i) then (some (w i), [i]) else wst K w i) else wst K w i
/-- what is known of it: the greatest worth so far, and the list of those that have it -/
theorem wst_inv {K : Nat → Bool} {w : Nat → Nat} : ∀ k, (∀ S, S < k → K S = true → ∃ v, (wst K w k).1 = some v ∧ w S ≤ v) ∧ (∀ v, (wst K w k).1 = some v → ∃ S, S < k ∧ K S = true ∧ w S = v) ∧ (wst K w k).2 = flt (fun S => K S && decide ((wst K w k).1 = some (w S))) k
  | 0 => ⟨fun S h => absurd h (Nat.not_lt_zero S), (fun v h => by cases h), rfl⟩
  | i + 1 => by
    obtain ⟨h1, h2, h3⟩ := wst_inv (K := K) (w := w) i
    rw [wst]
    by_cases hK : K i = true
    · rw [if_pos hK]
      by_cases he : (wst K w i).1 = some (w i)
      · rw [if_pos he]
        refine ⟨fun S hS hk => ?_, fun v hv => ?_, ?_⟩
        · rcases Nat.lt_or_ge S i with q | q
          · exact h1 S q hk
          · exact ⟨w i, he, by rw [show S = i by omega]; exact Nat.le_refl _⟩
        · obtain ⟨S, a, b, c⟩ := h2 v hv
          exact ⟨S, by omega, b, c⟩
        · rw [flt_t (by rw [hK, decide_eq_true he]; rfl), h3]
      · rw [if_neg he]
        by_cases hm : ∀ v, (wst K w i).1 = some v → v < w i
        · rw [if_pos hm]
          have hlt : ∀ S, S < i → K S = true → w S < w i := fun S hS hk => by
            obtain ⟨v, a, b⟩ := h1 S hS hk
            exact Nat.lt_of_le_of_lt b (hm v a)
          refine ⟨fun S hS hk => ⟨w i, rfl, ?_⟩, fun v hv => ⟨i, by omega, hK, Option.some.inj hv⟩, ?_⟩
          · rcases Nat.lt_or_ge S i with q | q
            · exact Nat.le_of_lt (hlt S q hk)
            · rw [show S = i by omega]; exact Nat.le_refl _
          · rw [flt_t (by rw [hK]; simp)]
            have h9 : flt (fun S => K S && decide (some (w i) = some (w S))) i = [] := by
              refine List.eq_nil_iff_forall_not_mem.mpr fun S hS => ?_
              obtain ⟨a, b⟩ := flt_mem.mp hS
              rw [Bool.and_eq_true] at b
              have := hlt S a b.1
              have := Option.some.inj (of_decide_eq_true b.2)
              omega
            show [i] = flt (fun S => K S && decide (some (w i) = some (w S))) i ++ [i]
            rw [h9]; rfl
        · rw [if_neg hm]
          refine ⟨fun S hS hk => ?_, fun v hv => ?_, ?_⟩
          · rcases Nat.lt_or_ge S i with q | q
            · exact h1 S q hk
            · have hx : ∃ v, (wst K w i).1 = some v ∧ ¬ v < w i := Classical.byContradiction fun z => hm fun v hv => Classical.byContradiction fun y => z ⟨v, hv, y⟩
              obtain ⟨v, a, b⟩ := hx
              exact ⟨v, a, by rw [show S = i by omega]; omega⟩
          · obtain ⟨S, a, b, c⟩ := h2 v hv
            exact ⟨S, by omega, b, c⟩
          · rw [flt_f (by rw [decide_eq_false he, Bool.and_false])]
            exact h3
    · rw [if_neg hK]
      have hK' : K i = false := by cases hq : K i; rfl; exact absurd hq hK
      refine ⟨fun S hS hk => ?_, fun v hv => ?_, ?_⟩
      · rcases Nat.lt_or_ge S i with q | q
        · exact h1 S q hk
        · rw [show S = i by omega] at hk; exact absurd hk hK
      · obtain ⟨S, a, b, c⟩ := h2 v hv
        exact ⟨S, by omega, b, c⟩
      · rw [flt_f (by rw [hK', Bool.false_and])]
        exact h3
theorem wst_len {n bt : Nat} {rk wt : Nat → Nat} {K : Nat → Bool} {o k : Nat} (hn : n ≤ 11) (hk : k ≤ 2 ^ n) (hw : ∀ j, j < n → 1 ≤ wt j) (hK : ∀ S, K S = true → sp_sub bt S = true) : (wst K (fun S => wor bt rk wt S o n) k).2.length ≤ 462 := by
  rw [(wst_inv k).2.2]
  refine flt_anti hn hk fun S T hS hT h1 h2 h => ?_
  rw [Bool.and_eq_true] at h1 h2
  refine Classical.byContradiction fun hne => ?_
  obtain ⟨i, h3, h4⟩ := sub_more h hne
  have hb : bt.testBit i = false := by
    cases hq : bt.testBit i
    · rfl
    · rw [sub_iff.mp (hK S h1.1) i hq] at h4; cases h4
  have h5 := wor_more (rk := rk) (o := o) (hw i (bit_lt hT h3)) h hb h3 h4 n (bit_lt hT h3)
  have h6 := (of_decide_eq_true h1.2).symm.trans (of_decide_eq_true h2.2)
  have h7 := Option.some.inj h6
  omega
theorem wst_rep {n bt : Nat} {rk wt cl : Nat → Nat} {cc od : Nat} (hod : 2 ≤ od) : (wst (kepX bt cl cc) (fun S => wor bt rk wt S od n) (2 ^ n)).2 = reps n bt rk wt cl cc od := by
  obtain ⟨h1, h2, h3⟩ := wst_inv (K := kepX bt cl cc) (w := fun S => wor bt rk wt S od n) (2 ^ n)
  rw [h3]
  refine flt_congr fun S hS => ?_
  unfold isRep
  cases hk : kepX bt cl cc S
  · rfl
  rw [Bool.true_and, Bool.true_and]
  have hb : ∀ T, betX n bt rk wt T S od = decide (wor bt rk wt S od n < wor bt rk wt T od n) := fun T => by
    unfold betX
    rw [if_neg (show ¬ od = 0 by omega), if_neg (show ¬ od = 1 by omega)]
  obtain ⟨v, h4, h5⟩ := h1 S hS hk
  rw [Bool.eq_iff_iff, Bool.not_eq_true', decide_eq_true_eq]
  constructor
  · intro h
    refine anyB_not.mpr fun T hT => ?_
    cases hkT : kepX bt cl cc T
    · rfl
    · rw [Bool.true_and, hb]
      obtain ⟨v2, h6, h7⟩ := h1 T hT hkT
      rw [h] at h6
      exact decide_eq_false (by have := Option.some.inj h6; omega)
  · intro h
    obtain ⟨T, h6, h7, h8⟩ := h2 v h4
    have h9 := anyB_not.mp h T h6
    rw [h7, Bool.true_and, hb] at h9
    have h10 := of_decide_eq_false h9
    rw [h4]
    have : wor bt rk wt T od n = v := h8
    exact congrArg some (by omega)
theorem wst_congr {K J : Nat → Bool} {w : Nat → Nat} : ∀ k, (∀ S, S < k → K S = J S) → wst K w k = wst J w k
  | 0, _ => rfl
  | i + 1, h => by rw [wst, wst, wst_congr i (fun S hS => h S (by omega)), h i (by omega)]
def mI (m : Option Nat) : Int64 := match m with
  | none => -1
  | some v => lN v
theorem mI_le {m : Option Nat} {a : Nat} (ha : a < 2 ^ 62) (hm : ∀ v, m = some v → v < 2 ^ 62) : lg_cmp (lN a) (mI m) ≤ 0 ↔ ¬ ∀ v, m = some v → v < a := by
  rw [lg_cmp_le]
  cases m with
  | none =>
    refine ⟨fun h => ?_, fun h => absurd (fun v hv => by cases hv) h⟩
    have h1 : (lN a).toInt ≤ (-1 : Int64).toInt := Int64.le_iff_toInt_le.mp h
    rw [pk_lT (by omega), show (-1 : Int64).toInt = -1 from rfl] at h1
    omega
  | some v =>
    have h1 := hm v rfl
    show lN a ≤ lN v ↔ _
    rw [pk_lLE (by omega) (by omega)]
    exact ⟨fun h q => absurd (q v rfl) (by omega), fun h => Nat.le_of_not_lt (fun q => h (fun z hz => by cases hz; exact q))⟩
theorem mI_eq {m : Option Nat} {a : Nat} (ha : a < 2 ^ 62) (hm : ∀ v, m = some v → v < 2 ^ 62) : lg_cmp (lN a) (mI m) = 0 ↔ m = some a := by
  rw [lg_cmp_eq]
  cases m with
  | none =>
    refine ⟨fun h => ?_, fun h => by cases h⟩
    have h1 : (lN a).toInt = (-1 : Int64).toInt := congrArg Int64.toInt h
    rw [pk_lT (by omega), show (-1 : Int64).toInt = -1 from rfl] at h1
    omega
  | some v =>
    have h1 := hm v rfl
    show lN a = lN v ↔ _
    rw [pk_lEQ (by omega) (by omega)]
    exact ⟨fun h => by rw [h], fun h => (Option.some.inj h).symm⟩
theorem wst_lt {K : Nat → Bool} {w : Nat → Nat} {B : Nat} (h : ∀ S, w S < B) (k v : Nat) (hv : (wst K w k).1 = some v) : v < B := by
  obtain ⟨S, -, -, e⟩ := (wst_inv k).2.1 v hv
  rw [← e]
  exact h S

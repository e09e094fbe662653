/-! the reference's better is the class's -/
theorem cnt_0 {P : Nat → Bool} : ∀ {n : Nat}, cntB P n = 0 ↔ ∀ i, i < n → P i = false
  | 0 => ⟨fun _ i h => absurd h (Nat.not_lt_zero i), fun _ => rfl⟩
  | n + 1 => by
    rw [cntB]
    constructor
    · intro h i hi
      have h1 : cntB P n = 0 := by omega
      rcases Nat.lt_or_ge i n with q | q
      · exact cnt_0.mp h1 i q
      · rw [show i = n by omega]
        cases hq : P n
        · rfl
        · rw [hq, if_pos rfl] at h; omega
    · intro h
      rw [cnt_0.mpr (fun i hi => h i (by omega)), h n (by omega)]
      rfl
theorem mo_0 {n bt : Nat} {rk : Nat → Nat} {a b r : Nat} : cntB (moB bt rk a b r) n = 0 ↔ sp_sub (a &&& dfl bt rk r r n) (b &&& dfl bt rk r r n) = true := by
  rw [cnt_0, sub_iff]
  constructor
  · intro h j hj
    rw [and_bit, Bool.and_eq_true] at hj ⊢
    obtain ⟨h1, h2, h3, h4⟩ := dfl_t.mp hj.2
    refine ⟨?_, hj.2⟩
    cases hq : b.testBit j
    · have := h j h1
      rw [mo_t ⟨h2, by omega, hj.1, hq⟩] at this
      cases this
    · rfl
  · intro h j hj
    refine mo_f fun q => ?_
    obtain ⟨h1, h2, h3, h4⟩ := q
    have h5 : (a &&& dfl bt rk r r n).testBit j = true := by rw [and_bit, h3, dfl_t.mpr ⟨hj, h1, by omega, by omega⟩]; rfl
    have h6 := h j h5
    rw [and_bit, h4] at h6
    cases h6
theorem cm1_0 {n bt : Nat} {rk : Nat → Nat} {a b r : Nat} : cmY n bt rk a b r false = 0 ↔ a &&& dfl bt rk r r n = b &&& dfl bt rk r r n := by
  unfold cmY cmV
  rw [if_neg (by decide)]
  constructor
  · intro h
    split at h
    · rename_i q; exact sub_anti (mo_0.mp q.1) (mo_0.mp q.2)
    · split at h
      · exact absurd h (by decide)
      · split at h <;> exact absurd h (by decide)
  · intro h
    rw [if_pos ⟨mo_0.mpr (by rw [h]; exact sub_refl _), mo_0.mpr (by rw [h]; exact sub_refl _)⟩]
theorem cm1_1 {n bt : Nat} {rk : Nat → Nat} {a b r : Nat} : cmY n bt rk a b r false = 1 ↔ hasM (a &&& dfl bt rk r r n) (b &&& dfl bt rk r r n) = true := by
  rw [hasM_iff]
  unfold cmY cmV
  rw [if_neg (by decide)]
  constructor
  · intro h
    split at h
    · exact absurd h (by decide)
    · rename_i q
      split at h
      · rename_i q2
        exact ⟨fun e => q ⟨mo_0.mpr (by rw [e]; exact sub_refl _), q2⟩, mo_0.mp q2⟩
      · split at h <;> exact absurd h (by decide)
  · rintro ⟨h1, h2⟩
    rw [if_neg (fun q => h1 (sub_anti (mo_0.mp q.1) (mo_0.mp q.2))), if_pos (mo_0.mpr h2)]
theorem fnz_hmr {n bt : Nat} {rk : Nat → Nat} {a b : Nat} : ∀ k r, decide (fnz (fun r => cmY n bt rk a b r false) k r = 1) = hmr (fun r => dfl bt rk r r n) a b k r
  | 0, r => rfl
  | k + 1, r => by
    rw [fnz, hmr]
    by_cases h : a &&& dfl bt rk r r n = b &&& dfl bt rk r r n
    · rw [if_pos (cm1_0.mpr h), if_pos h, fnz_hmr k (r + 1)]
    · rw [if_neg (fun q => h (cm1_0.mp q)), if_neg h, Bool.eq_iff_iff, decide_eq_true_eq]
      exact cm1_1
def inR (bt : Nat) (rk : Nat → Nat) (S r : Nat) (j : Nat) : Bool := !bt.testBit j && (decide (rk j = r) && S.testBit j)
theorem mo_pt {bt : Nat} {rk : Nat → Nat} {a b r n : Nat} : (if moB bt rk a b r n = true then 1 else 0) + (if inR bt rk b r n = true then 1 else 0) = (if moB bt rk b a r n = true then 1 else 0) + (if inR bt rk a r n = true then 1 else 0) := by
  unfold moB inR
  cases bt.testBit n <;> cases a.testBit n <;> cases b.testBit n <;> cases decide (rk n = r) <;> rfl
theorem mo_sum {bt : Nat} {rk : Nat → Nat} {a b r : Nat} : ∀ n, cntB (moB bt rk a b r) n + cntB (inR bt rk b r) n = cntB (moB bt rk b a r) n + cntB (inR bt rk a r) n
  | 0 => rfl
  | n + 1 => by
    have h := mo_sum (bt := bt) (rk := rk) (a := a) (b := b) (r := r) n
    have h1 := mo_pt (bt := bt) (rk := rk) (a := a) (b := b) (r := r) (n := n)
    rw [cntB, cntB, cntB, cntB]
    generalize (if moB bt rk a b r n = true then 1 else 0) = p1 at h1 ⊢
    generalize (if inR bt rk b r n = true then 1 else 0) = p2 at h1 ⊢
    generalize (if moB bt rk b a r n = true then 1 else 0) = p3 at h1 ⊢
    generalize (if inR bt rk a r n = true then 1 else 0) = p4 at h1 ⊢
    omega
theorem cm2 {n bt : Nat} {rk : Nat → Nat} {a b r : Nat} : cmY n bt rk a b r true = if cntB (inR bt rk a r) n = cntB (inR bt rk b r) n then 0 else if cntB (inR bt rk b r) n < cntB (inR bt rk a r) n then 1 else 2 := by
  have h := mo_sum (bt := bt) (rk := rk) (a := a) (b := b) (r := r) n
  unfold cmY cmV
  rw [if_pos rfl]
  generalize cntB (moB bt rk a b r) n = x at h ⊢
  generalize cntB (moB bt rk b a r) n = y at h ⊢
  generalize cntB (inR bt rk a r) n = u at h ⊢
  generalize cntB (inR bt rk b r) n = v at h ⊢
  by_cases h1 : x = y
  · rw [if_pos h1, if_pos (show u = v by omega)]
  · rw [if_neg h1, if_neg (show ¬ u = v by omega)]
    by_cases h2 : y < x
    · rw [if_pos h2, if_pos (show v < u by omega)]
    · rw [if_neg h2, if_neg (show ¬ v < u by omega)]
/-- numbers below 16 as one number, the first the greatest -/
def pkN (c : Nat → Nat) : Nat → Nat
  | 0 => 0
  | r + 1 => pkN c r * 16 + c r
theorem pkN_congr {c d : Nat → Nat} : ∀ m, (∀ r, r < m → c r = d r) → pkN c m = pkN d m
  | 0, _ => rfl
  | m + 1, h => by rw [pkN, pkN, pkN_congr m (fun r hr => h r (by omega)), h m (by omega)]
theorem pkN_inc {c d : Nat → Nat} {q : Nat} (h : ∀ r, d r = c r + if r = q then 1 else 0) : ∀ m, pkN d m = pkN c m + if q < m then 16 ^ (m - 1 - q) else 0
  | 0 => by simp [pkN]
  | m + 1 => by
    have ih := pkN_inc h m
    rw [pkN, pkN, ih, h m]
    rcases Nat.lt_trichotomy m q with z | z | z
    · rw [if_neg (show ¬ q < m by omega), if_neg (show ¬ m = q by omega), if_neg (show ¬ q < m + 1 by omega)]
      omega
    · rw [if_neg (show ¬ q < m by omega), if_pos z, if_pos (show q < m + 1 by omega), show m + 1 - 1 - q = 0 by omega]
      omega
    · rw [if_pos z, if_neg (show ¬ m = q by omega), if_pos (show q < m + 1 by omega), show m + 1 - 1 - q = (m - 1 - q) + 1 by omega, Nat.pow_succ]
      omega
theorem wor_pk {bt : Nat} {rk wt : Nat → Nat} {S : Nat} (hrk : ∀ j, rk j < 8) : ∀ n, wor bt rk wt S 2 n = pkN (fun r => cntB (inR bt rk S r) n) 8
  | 0 => by
    rw [wor]
    exact (by decide : 0 = pkN (fun _ => 0) 8)
  | n + 1 => by
    rw [wor, wor_pk hrk n]
    by_cases h : S.testBit n = true ∧ bt.testBit n = false
    · rw [if_pos h, if_pos rfl]
      have h1 := pkN_inc (c := fun r => cntB (inR bt rk S r) n) (d := fun r => cntB (inR bt rk S r) (n + 1)) (q := rk n) (fun r => by
        show cntB (inR bt rk S r) (n + 1) = _
        rw [cntB]
        congr 1
        unfold inR
        rw [h.1, h.2]
        by_cases hq : rk n = r
        · rw [decide_eq_true hq, if_pos (show (!false && (true && true)) = true from rfl), if_pos hq.symm]
        · rw [decide_eq_false hq, if_neg (show ¬ (!false && (false && true)) = true by decide), if_neg (fun z => hq z.symm)]) 8
      rw [h1, if_pos (hrk n), Nat.pow_mul]
    · rw [if_neg h]
      refine pkN_congr 8 fun r _ => ?_
      show cntB (inR bt rk S r) n = cntB (inR bt rk S r) (n + 1)
      refine cnt_f rfl ?_
      unfold inR
      cases h1 : S.testBit n
      · simp
      · cases h2 : bt.testBit n
        · exact absurd ⟨h1, h2⟩ h
        · rfl
theorem pkN_lt {c d : Nat → Nat} (hc : ∀ r, c r < 16) {q : Nat} (h : pkN c q < pkN d q) : ∀ k, pkN c (q + k) < pkN d (q + k)
  | 0 => h
  | k + 1 => by
    have ih := pkN_lt hc h k
    show pkN c (q + k) * 16 + c (q + k) < pkN d (q + k) * 16 + d (q + k)
    have := hc (q + k)
    omega
theorem lex {c d : Nat → Nat} {f : Nat → Int32} (hc : ∀ r, c r < 16) (hd : ∀ r, d r < 16) (hf : ∀ r, f r = if d r = c r then 0 else if c r < d r then 1 else 2) : ∀ k r, r + k = 8 → pkN c r = pkN d r → (fnz f k r = 1 ↔ pkN c 8 < pkN d 8)
  | 0, r, hr, he => by
    rw [show r = 8 by omega] at he
    rw [fnz, he]
    exact ⟨fun h => absurd h (by decide), fun h => absurd h (Nat.lt_irrefl _)⟩
  | k + 1, r, hr, he => by
    rw [fnz]
    have hfr := hf r
    by_cases h1 : d r = c r
    · rw [if_pos h1] at hfr
      rw [if_pos hfr]
      exact lex hc hd hf k (r + 1) (by omega) (by rw [pkN, pkN, he, h1])
    · rw [if_neg h1] at hfr
      by_cases h2 : c r < d r
      · rw [if_pos h2] at hfr
        rw [hfr, if_neg (by decide)]
        have h3 := pkN_lt hc (q := r + 1) (d := d) (by rw [pkN, pkN, he]; omega) k
        rw [show r + 1 + k = 8 by omega] at h3
        exact ⟨fun _ => h3, fun _ => rfl⟩
      · rw [if_neg h2] at hfr
        rw [hfr, if_neg (by decide)]
        have h3 := pkN_lt hd (q := r + 1) (d := c) (by rw [pkN, pkN, he]; omega) k
        rw [show r + 1 + k = 8 by omega] at h3
        exact ⟨fun h => absurd h (by decide), fun h => absurd h (by omega)⟩
theorem bet_eq {n bt : Nat} {rk wt : Nat → Nat} {a b o : Nat} (hn : n ≤ 11) (hrk : ∀ j, rk j < 8) (ho : o < 4) : betY n bt rk wt a b o = betX n bt rk wt a b o := by
  unfold betY betX
  by_cases h0 : o = 0
  · rw [if_pos h0, if_pos h0]
  rw [if_neg h0, if_neg h0]
  by_cases h3 : o = 3
  · rw [if_pos h3, if_neg (show ¬ o = 1 by omega), h3]
  rw [if_neg h3]
  by_cases h1 : o = 1
  · rw [if_pos h1, decide_eq_false (show ¬ o = 2 by omega)]
    exact fnz_hmr 8 0
  rw [if_neg h1, decide_eq_true (show o = 2 by omega), show o = 2 by omega, wor_pk hrk, wor_pk hrk, Bool.eq_iff_iff, decide_eq_true_eq, decide_eq_true_eq]
  exact lex (fun r => Nat.lt_of_le_of_lt cntB_le (by omega)) (fun r => Nat.lt_of_le_of_lt cntB_le (by omega)) (fun r => cm2) 8 0 rfl rfl
theorem or_sub {a b : Nat} : a ||| b = a ↔ sp_sub b a = true := by
  rw [sub_iff]
  constructor
  · intro h i hi
    rw [← h, Nat.testBit_or, hi, Bool.or_true]
  · intro h
    apply Nat.eq_of_testBit_eq
    intro i
    rw [Nat.testBit_or]
    cases hb : b.testBit i
    · rw [Bool.or_false]
    · rw [h i hb]; rfl

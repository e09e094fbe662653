/-! the state that class and reference share, and what each call makes of it -/
abbrev stA : Type := Nat × Nat × (Nat → Nat) × (Nat → Nat) × (Nat → Nat) × Nat × (Nat → Nat) × (Nat → Nat) × Nat × Nat
abbrev stC : Type := Bool × (Nat → Bool) × (Nat → Nat) × (Nat → Nat) × Nat
def gdA (a : stA) : Prop := match a with
  | (n, bt, rk, wt, cl, cc, su, sa, sc, od) => n ≤ 11 ∧ bt < 2 ^ n ∧ (∀ j, rk j < 8) ∧ (∀ j, wt j ≤ 1000) ∧ (∀ j, j < n → 1 ≤ wt j) ∧ cc ≤ 40 ∧ (∀ j, cl j < 2048) ∧ sc ≤ 20 ∧ (∀ j, sa j < 8) ∧ (∀ j, su j < 2048) ∧ od < 4
def rpA (a : stA) : List Nat := match a with
  | (n, bt, rk, wt, cl, cc, _, _, _, od) => reps n bt rk wt cl cc od
def okC (a : stA) (fr : Bool) (rp : Nat → Nat) (rc : Nat) : Prop := fr = true → isArr rp (rpA a) ∧ rc = (rpA a).length
theorem okC_f {a : stA} {rp : Nat → Nat} {rc : Nat} : okC a false rp rc := fun q => by cases q
def wXt (h : Nat → Nat) (cI cZ : ClassId) (u : stA × stC) : va_W := match u with
  | ((n, bt, rk, wt, cl, cc, su, sa, sc, od), (fr, cg, co, rp, rc)) => wX h cI cZ n bt rk wt cl cc su sa sc od fr cg co rp rc
def ocX (u : stA × stC) : Prop := match u with
  | (a, (fr, _, _, rp, rc)) => okC a fr rp rc
theorem nI_self {x : Int32} (h : ¬ x < 0) : nI x.toNatClampNeg = x := by
  obtain ⟨j, hj, e⟩ := nI_of h
  rw [e, nI_clamp hj]
theorem bI_inj {a b : Bool} : bI a = bI b ↔ a = b := by cases a <;> cases b <;> simp [bI]
theorem okS_of {n : Nat} {x : Int32} (hn : n < 2 ^ 31) (h : okS n x = true) : ∃ k, k < n ∧ x = nI k := by
  unfold okS at h
  rw [Bool.and_eq_true, Bool.not_eq_true', Bool.not_eq_true', decide_eq_false_iff_not, decide_eq_false_iff_not] at h
  obtain ⟨j, hj, e⟩ := nI_of h.1
  refine ⟨j, Nat.lt_of_not_le fun q => h.2 ?_, e⟩
  rw [e]
  exact (nI_leI hn hj).mpr q
theorem okS_nI {n k : Nat} (hn : n < 2 ^ 31) (hk : k < n) : okS n (nI k) = true := by
  unfold okS
  rw [Bool.and_eq_true, Bool.not_eq_true', Bool.not_eq_true', decide_eq_false_iff_not, decide_eq_false_iff_not]
  exact ⟨nI_pos (by omega), nI_ge hk hn⟩
theorem okA_of {x : Int32} (h : okA x = true) : ∃ k, k < 8 ∧ x = nI k := okS_of (n := 8) (by decide) h
theorem okO_of {x : Int32} (h : okO x = true) : ∃ k, k < 4 ∧ x = nI k := by
  unfold okO at h
  rw [Bool.and_eq_true, Bool.not_eq_true', Bool.not_eq_true', decide_eq_false_iff_not, decide_eq_false_iff_not] at h
  obtain ⟨j, hj, e⟩ := nI_of h.1
  refine ⟨j, Nat.lt_of_not_le fun q => h.2 ?_, e⟩
  rw [e]
  exact (nI_ltI (a := 3) (by decide) hj).mpr (by omega)
theorem okR_of {x : Int32} (h : okR x = true) : ∃ k, k < 8 ∧ x = nI k := by
  unfold okR at h
  rw [Bool.and_eq_true, Bool.not_eq_true', Bool.not_eq_true', decide_eq_false_iff_not, decide_eq_false_iff_not] at h
  obtain ⟨j, hj, e⟩ := nI_of h.1
  refine ⟨j, Nat.lt_of_not_le fun q => h.2 ?_, e⟩
  rw [e]
  exact (nI_ltI (a := 7) (by decide) hj).mpr (by omega)
theorem okW_of {x : Int32} (h : okW x = true) : ∃ k, 1 ≤ k ∧ k ≤ 1000 ∧ x = nI k := by
  unfold okW at h
  rw [Bool.and_eq_true, Bool.not_eq_true', Bool.not_eq_true', decide_eq_false_iff_not, decide_eq_false_iff_not] at h
  have h0 : ¬ x < 0 := fun q => h.1 (by
    rw [Int32.lt_iff_toInt_lt] at q ⊢
    rw [show (1 : Int32).toInt = 1 from rfl]
    rw [show (0 : Int32).toInt = 0 from rfl] at q
    omega)
  obtain ⟨j, hj, e⟩ := nI_of h0
  refine ⟨j, Nat.le_of_not_lt fun q => h.1 ?_, Nat.le_of_not_lt fun q => h.2 ?_, e⟩
  · rw [e]; exact (nI_ltI (b := 1) hj (by decide)).mpr q
  · rw [e]; exact (nI_ltI (a := 1000) (by decide) hj).mpr q
def sFact (n bt : Nat) (rk wt cl : Nat → Nat) (cc : Nat) (su sa : Nat → Nat) (sc od : Nat) (hard : Bool) (r w : Int32) : Int32 × stA :=
  if (okR r && okW w) = true then (if n = 11 then (-3, (n, bt, rk, wt, cl, cc, su, sa, sc, od)) else (nI n, (n + 1, (if hard = true then bt ||| 2 ^ n else bt), va_up rk n r.toNatClampNeg, va_up wt n w.toNatClampNeg, cl, cc, su, sa, sc, od))) else (-1, (n, bt, rk, wt, cl, cc, su, sa, sc, od))
def sHarden (n bt : Nat) (rk wt cl : Nat → Nat) (cc : Nat) (su sa : Nat → Nat) (sc od : Nat) (x : Int32) (hard : Bool) : Int32 × stA :=
  if okS n x = true then (if bt.testBit x.toNatClampNeg = hard then (0, (n, bt, rk, wt, cl, cc, su, sa, sc, od)) else (1, (n, bt ^^^ 2 ^ x.toNatClampNeg, rk, wt, cl, cc, su, sa, sc, od))) else (-1, (n, bt, rk, wt, cl, cc, su, sa, sc, od))
def sWeight (n bt : Nat) (rk wt cl : Nat → Nat) (cc : Nat) (su sa : Nat → Nat) (sc od : Nat) (x r w : Int32) : Int32 × stA :=
  if (okS n x && (okR r && okW w)) = true then (1, (n, bt, va_up rk x.toNatClampNeg r.toNatClampNeg, va_up wt x.toNatClampNeg w.toNatClampNeg, cl, cc, su, sa, sc, od)) else (-1, (n, bt, rk, wt, cl, cc, su, sa, sc, od))
def sClash (n bt : Nat) (rk wt cl : Nat → Nat) (cc : Nat) (su sa : Nat → Nat) (sc od : Nat) (x : Int32) : Int32 × stA :=
  if cc = 40 then (-3, (n, bt, rk, wt, cl, cc, su, sa, sc, od)) else (nI (cc + 1), (n, bt, rk, wt, va_up cl cc (x.toBitVec.toNat % 2 ^ 11), cc + 1, su, sa, sc, od))
def sSettle (n bt : Nat) (rk wt cl : Nat → Nat) (cc : Nat) (su sa : Nat → Nat) (sc od : Nat) : Int32 × stA :=
  if cc = 0 then (-2, (n, bt, rk, wt, cl, cc, su, sa, sc, od)) else (nI (cc - 1), (n, bt, rk, wt, cl, cc - 1, su, sa, sc, od))
def sSupport (n bt : Nat) (rk wt cl : Nat → Nat) (cc : Nat) (su sa : Nat → Nat) (sc od : Nat) (x y : Int32) : Int32 × stA :=
  if okA x = true then (if sc = 20 then (-3, (n, bt, rk, wt, cl, cc, su, sa, sc, od)) else (nI (cntB (fun k => decide (va_up sa sc x.toNatClampNeg k = x.toNatClampNeg)) (sc + 1)), (n, bt, rk, wt, cl, cc, va_up su sc (y.toBitVec.toNat % 2 ^ 11), va_up sa sc x.toNatClampNeg, sc + 1, od))) else (-1, (n, bt, rk, wt, cl, cc, su, sa, sc, od))
def sOrder (n bt : Nat) (rk wt cl : Nat → Nat) (cc : Nat) (su sa : Nat → Nat) (sc od : Nat) (x : Int32) : Int32 × stA :=
  if okO x = true then (1, (n, bt, rk, wt, cl, cc, su, sa, sc, x.toNatClampNeg)) else (-1, (n, bt, rk, wt, cl, cc, su, sa, sc, od))
def rKept (L : List Nat) (x : Int32) : Int32 := if okS L.length x = true then nI (L.getD x.toNatClampNeg 0) else -2
def rLeft (n : Nat) (L : List Nat) (x y : Int32) : Int32 := if okS L.length x = true ∧ ¬ y < 0 then oI (nthF (fun j => !(L.getD x.toNatClampNeg 0).testBit j) n 0 y.toNatClampNeg) else -2
def rTruth (su sa : Nat → Nat) (sc : Nat) (L : List Nat) (x : Int32) : Int32 := if okA x = true then vdt L.length (cntB (fun r => holX sa su sc x.toNatClampNeg (L.getD r 0)) L.length) else -1
def rSurely (n : Nat) (L : List Nat) (x : Int32) : Int32 := if okS n x = true then vdt L.length (cntB (fun r => (L.getD r 0).testBit x.toNatClampNeg) L.length) else -1
def rBetter (n bt : Nat) (rk wt : Nat → Nat) (x y o : Int32) : Int32 := if okO o = true then bI (betX n bt rk wt (x.toBitVec.toNat % 2 ^ n) (y.toBitVec.toNat % 2 ^ n) o.toNatClampNeg) else -1
theorem upd_nI' (f : Nat → Nat) (k : Nat) {x : Int32} (hx : nI x.toNatClampNeg = x) : upd (fun j => nI (f j)) k x = fun j => nI (va_up f k x.toNatClampNeg j) := by rw [← upd_nI, hx]
theorem va_up_lt {f : Nat → Nat} {k v B : Nat} (h : ∀ j, f j < B) (hv : v < B) : ∀ j, va_up f k v j < B := by
  intro j
  unfold va_up
  split
  · exact hv
  · exact h j
theorem msk (x : Int32) : x &&& 2047 = nI (x.toBitVec.toNat % 2 ^ 11) := pk_and x 11 (by decide)
theorem mskn {n : Nat} (hn : n ≤ 11) (x : Int32) : x &&& nI (2 ^ n - 1) = nI (x.toBitVec.toNat % 2 ^ n) := pk_and x n (pk_tn (Nat.lt_of_le_of_lt (Nat.sub_le _ _) (Nat.lt_of_le_of_lt (bx_p2 hn) (by decide))))
theorem flt_getD {P : Nat → Bool} {k i : Nat} (h : i < (flt P k).length) : (flt P k).getD i 0 < k := by
  rw [List.getD_eq_getElem?_getD, List.getElem?_eq_getElem h]
  exact (flt_mem.mp (List.getElem_mem h)).1
theorem rep_lt {n bt : Nat} {rk wt cl : Nat → Nat} {cc od i : Nat} (hn : n ≤ 11) (h : i < (reps n bt rk wt cl cc od).length) : (reps n bt rk wt cl cc od).getD i 0 < 2048 := Nat.lt_of_lt_of_le (flt_getD h) (bx_p2 hn)

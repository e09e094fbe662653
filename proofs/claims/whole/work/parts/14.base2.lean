/-! methods that write, with more than one possible end: the end's numbers come with what is known of them -/
section WRE
variable {p : Program} {l : Launch} {e : Env} {R : Room} {s : State} {m : MethodId} {args : Array Value} {below : List Frame} {meth : Method} {c : Code} {H : Heap} {locs : List Loc} {cells slots : Nat} {Q : State → Prop}
variable {D : va_G} {cl : List vw_C} {ws : va_W} {tys : List (ClassId × FieldType)} {cc : ByteArray} {pc : Nat} {ls : Array Slot} {rest st0 : List Value} {σ : Type} {WS : σ → va_W} {ro : σ → Option Value} {post : σ → Prop}
def wE_Q (D : va_G) (cl : List vw_C) (ws : va_W) {σ : Type} (WS : σ → va_W) (ro : σ → Option Value) (post : σ → Prop) (sz : Nat) : Array Value → State → Outcome → State → Prop := fun _ st o t => ∃ u : σ, o = .returned (ro u) ∧ post u ∧ va_P D cl (WS u) t.heap ∧ va_F (va_A ws sz) st t
theorem wE_vret (u : σ) (hx : p.tables.exec = Jvm.exec) (hb : c.code = cc) (hr : meth.sig.returnType = none) (hlocks : meth.locks = false) (hdg : decode cc pc = .ok (.return_, 1)) (hS : va_S (va_A ws s.heap.size) s.heap H locs) (hP : va_P D cl (WS u) H) (hu : post u) (hro : ro u = none) : W p l e R s m args below meth c H locs 0 0 (MQ below (wE_Q D cl ws WS ro post s.heap.size) args s 0 0 (va_A ws s.heap.size)) (F0 m pc ls []) :=
  W.vret hx hb hr (fun t ht hW => ⟨u, by rw [hro], hu, by rw [ht]; exact hP, hS.F ht⟩) hS.2.2 hdg hlocks
theorem wE_iret (u : σ) {v : Int32} (hx : p.tables.exec = Jvm.exec) (hb : c.code = cc) (hr : meth.sig.returnType = some .int) (hlocks : meth.locks = false) (hdg : decode cc pc = .ok (.ireturn, 1)) (hS : va_S (va_A ws s.heap.size) s.heap H locs) (hP : va_P D cl (WS u) H) (hu : post u) (hro : ro u = some (.int v)) : W p l e R s m args below meth c H locs 0 0 (MQ below (wE_Q D cl ws WS ro post s.heap.size) args s 0 0 (va_A ws s.heap.size)) (F0 m pc ls [.int v]) :=
  W.iret hx hb hr (fun t ht hW => ⟨u, by rw [hro], hu, by rw [ht]; exact hP, hS.F ht⟩) hS.2.2 hdg hlocks
theorem wE_met {y : MethodName} {w w' : List Cond} {rm : Room} {av : List Value} {maxL sz : Nat} {ret : Option FieldType} {lv0 : List (Nat × Value)} (hy : plainName y.cls = true) (hw : w = Cond.code y cc maxL ret :: w') (hlen : (lg_sl av).length ≤ maxL) (hlv : lv_args 0 av = lv0)
    (body : ∀ (p : Program) (e : Env) (s : State) (m : MethodId) (below : List Frame) (meth : Method) (c : Code) (ls : Array Slot), p.tables.exec = Jvm.exec → c.code = cc → meth.sig.returnType = ret → c.maxLocals = maxL → s.vm.findClass y.cls = some m.cls → (∀ z ∈ w, z.before av.toArray s = true) → meth.locks = false → va_P D cl ws s.heap → va_K D cl tys s → va_D (va_A ws s.heap.size) ws → va_S (va_A ws s.heap.size) s.heap s.heap [] → (∀ q, s.heap.size ≤ q → va_A ws s.heap.size q) → lv_has ls maxL lv0 →
      W p l e rm s m av.toArray below meth c s.heap [] 0 0 (MQ below (wE_Q D cl ws WS ro post s.heap.size) av.toArray s 0 0 (va_A ws s.heap.size)) (F0 m 0 ls [])) : Met l y w rm (wr_Pc D cl ws tys sz av) (wE_Q D cl ws WS ro post sz) 0 0 (va_A ws sz) := by
  refine Met.ofW (cc := cc) (maxL := maxL) (ret := ret) hy hw ?_
  intro p e s m args below meth c s₁ B hml hv
  obtain ⟨rfl, hsz, hP, hK, hD⟩ := hv
  subst hsz
  have hl := lv_entry av (n := maxL) hlen
  rw [lg_entry_eq]
  rw [hlv] at hl
  exact body p e s m below meth c _ B.exec B.bytes B.returns hml (findClass_of_methodNamed B.named) (atoms_spec (ws := w) B.pre) B.notSynchronized hP hK (hD.self (sz := s.heap.size)) va_S.rf (fun q h => Or.inr h) hl
variable {A : Nat → Prop} {H0 : Heap}
theorem wE_run {a : Array Value} (hr : va_Run p l e R s m args below meth c H locs cells slots 0 0 (F0 m pc ls st0) rest (wE_Q D cl ws WS ro post H.size a) (va_A ws H.size)) (hD : va_D A ws) (hS : va_S A H0 H locs) (hA : ∀ q, H0.size ≤ q → A q) (ha : ∀ u, (WS u).map (·.1) = ws.map (·.1))
    (kk : ∀ (u : σ) (H1 : Heap) (locs1 : List Loc), post u → va_P D cl (WS u) H1 → va_D A (WS u) → va_S A H0 H1 locs1 → W p l e R s m args below meth c H1 locs1 cells slots Q (F0 m (pc + 3) ls ((ro u).toList ++ rest))) : W p l e R s m args below meth c H locs cells slots Q (F0 m pc ls st0) := by
  intro T hT X
  obtain ⟨v, st₀, t, T', L, h0, X', hL, e1, e2, ⟨u, hv, hu, hp, hz, hk⟩, st⟩ := hr T hT X
  cases hv
  rw [h0] at hz hk
  have hF : ∀ q, va_A ws H.size q → A q := fun q h => by
    rcases h with ⟨k, e, h⟩ | h
    · exact hD.2 k (q, e) h
    · exact hA q (Nat.le_trans hS.1 h)
  obtain ⟨t2, a1, b1⟩ := kk u T'.heap (locs ++ L) hu (by rw [e1]; exact hp) (wr_D hD (ha u))
    ⟨Nat.le_trans hS.1 (by rw [e1]; exact hz), fun q h1 h2 => by rw [e1, hk q (Nat.lt_of_lt_of_le h1 hS.1) (fun z => h2 (hF q z))]; exact hS.2.1 q h1 h2, fun q hq => by
      rcases List.mem_append.mp hq with h | h
      · exact hS.2.2 q h
      · exact hF _ (hL q h)⟩ T' rfl X'
  exact ⟨t2, st t2 a1, b1⟩
variable {y : MethodName} {bytes : ByteArray} {maxL nL n index : Nat} {ret : Option FieldType} {w : List Cond} {rm : Room} {Ts : List Cond} {own C : String} {b : Addr} {As : List Value}
theorem wE_V (S : CallFix p m c cc nL s args Ts own) (hM : Met l y w rm (wr_Pc D cl ws tys H.size (.ref b :: As)) (wE_Q D cl ws WS ro post H.size) 0 0 (va_A ws H.size)) (cw : CallW R s args own C index y bytes maxL ret w rm 0 0 n)
    (hK : va_K D cl tys s) (hP : va_P D cl ws H) (hD : va_D A ws) (hS : va_S A H0 H locs) (hA : ∀ q, H0.size ≤ q → A q) (q0 : Nat) {ci : Nat} {T : u_T} {N : Nat} {fs : List Value} (hc : cl[ci]? = some (C, T, N)) (he : ws[q0]? = some (b, .inr (ci, fs)))
    (hn : As.length = n) (hsize : ls.size = nL) (hstack : st0 = As.reverse ++ .ref b :: rest) (hW : (rest.map fun v => v.category).sum ≤ 8) (hdg : decode cc pc = .ok (.invokevirtual index, 3)) (hf : cells + 0 ≤ R.cells ∧ slots + 0 ≤ R.slots) (ha : ∀ u, (WS u).map (·.1) = ws.map (·.1))
    (kk : ∀ (u : σ) (H1 : Heap) (locs1 : List Loc), post u → va_P D cl (WS u) H1 → va_D A (WS u) → va_S A H0 H1 locs1 → W p l e R s m args below meth c H1 locs1 cells slots Q (F0 m (pc + 3) ls ((ro u).toList ++ rest))) : W p l e R s m args below meth c H locs cells slots Q (F0 m pc ls st0) := by
  subst hstack
  exact wE_run (va_runV (As := As) (rest := rest) (g := F0 m pc ls (As.reverse ++ .ref b :: rest)) S hM cw ⟨wr_blind, va_recv hK hP hc he, fun U hU hW => ⟨rfl, by rw [hU], by rw [hU]; exact hP, va_K.moved hW.alike hK, hD.weaken (fun _ _ _ _ => trivial)⟩⟩ rfl hn hsize rfl (lv_room hW) hdg hf) hD hS hA ha kk
end WRE
/-! pure rows for the writing methods -/
def isArr (rp : Nat → Nat) (L : List Nat) : Prop := ∀ i, i < L.length → rp i = L.getD i 0
theorem isArr_nil (rp : Nat → Nat) : isArr rp [] := fun i h => by simp at h
theorem isArr_push {rp : Nat → Nat} {L : List Nat} (h : isArr rp L) (S : Nat) : isArr (va_up rp L.length S) (L ++ [S]) := by
  intro i hi
  rw [List.length_append, List.length_singleton] at hi
  unfold va_up
  split
  · rename_i q
    rw [q, List.getD_eq_getElem?_getD, List.getElem?_append_right (Nat.le_refl _), Nat.sub_self]
    rfl
  · rename_i q
    have hl : i < L.length := by omega
    rw [h i hl, List.getD_eq_getElem?_getD, List.getD_eq_getElem?_getD, List.getElem?_append_left hl]
def flt (P : Nat → Bool) (k : Nat) : List Nat := (List.range k).filter P
theorem flt_0 (P : Nat → Bool) : flt P 0 = [] := rfl
theorem flt_t {P : Nat → Bool} {k : Nat} (h : P k = true) : flt P (k + 1) = flt P k ++ [k] := by
  unfold flt
  rw [List.range_succ, List.filter_append, List.filter_cons_of_pos h]
  rfl
theorem flt_f {P : Nat → Bool} {k : Nat} (h : P k = false) : flt P (k + 1) = flt P k := by
  unfold flt
  rw [List.range_succ, List.filter_append, List.filter_cons_of_neg (by rw [h]; decide)]
  simp
theorem flt_mem {P : Nat → Bool} {k x : Nat} : x ∈ flt P k ↔ x < k ∧ P x = true := by
  unfold flt
  rw [List.mem_filter, List.mem_range]
theorem flt_nodup (P : Nat → Bool) (k : Nat) : (flt P k).Nodup := List.Pairwise.filter _ List.nodup_range
theorem flt_congr {P Q : Nat → Bool} {k : Nat} (h : ∀ x, x < k → P x = Q x) : flt P k = flt Q k := by
  unfold flt
  exact List.filter_congr (fun x hx => h x (List.mem_range.mp hx))
/-- a set has all of a clash -/
def clS (cl : Nat → Nat) (cc S : Nat) : Bool := anyB (fun k => sp_sub (cl k) S) cc
theorem sub_iff {a b : Nat} : sp_sub a b = true ↔ ∀ i, a.testBit i = true → b.testBit i = true := by
  unfold sp_sub
  rw [beq_iff_eq]
  constructor
  · intro h i hi
    have h1 : (a &&& b).testBit i = a.testBit i := by rw [h]
    rw [Nat.testBit_and, hi, Bool.true_and] at h1
    exact h1
  · intro h
    apply Nat.eq_of_testBit_eq
    intro i
    rw [Nat.testBit_and]
    cases hq : a.testBit i
    · rfl
    · rw [h i hq]; rfl
theorem sub_refl (a : Nat) : sp_sub a a = true := sub_iff.mpr (fun _ h => h)
theorem sub_trans {a b c : Nat} (h1 : sp_sub a b = true) (h2 : sp_sub b c = true) : sp_sub a c = true := sub_iff.mpr (fun i h => sub_iff.mp h2 i (sub_iff.mp h1 i h))
theorem sub_anti {a b : Nat} (h1 : sp_sub a b = true) (h2 : sp_sub b a = true) : a = b := by
  apply Nat.eq_of_testBit_eq
  intro i
  cases ha : a.testBit i
  · cases hb : b.testBit i
    · rfl
    · rw [sub_iff.mp h2 i hb] at ha; cases ha
  · rw [sub_iff.mp h1 i ha]
theorem sub_le {a b : Nat} (h : sp_sub a b = true) : a ≤ b := by
  unfold sp_sub at h
  rw [← beq_iff_eq.mp h]
  exact Nat.and_le_right
theorem sub_more {a b : Nat} (h : sp_sub a b = true) (hne : a ≠ b) : ∃ i, b.testBit i = true ∧ a.testBit i = false := by
  refine Classical.byContradiction fun hq => hne (sub_anti h (sub_iff.mpr fun i hi => ?_))
  cases ha : a.testBit i
  · exact absurd ⟨i, hi, ha⟩ hq
  · rfl
theorem bit_lt {a i k : Nat} (h : a < 2 ^ k) (hi : a.testBit i = true) : i < k := by
  rcases Nat.lt_or_ge i k with q | q
  · exact q
  · rw [Nat.testBit_lt_two_pow (Nat.lt_of_lt_of_le h (Nat.pow_le_pow_right (by decide) q))] at hi; cases hi
theorem clS_mono {cl : Nat → Nat} {cc S T : Nat} (h : sp_sub S T = true) (hc : clS cl cc S = true) : clS cl cc T = true := by
  obtain ⟨k, h1, h2⟩ := anyB_iff.mp hc
  exact anyB_iff.mpr ⟨k, h1, sub_trans h2 h⟩
theorem xor_bit {S s i : Nat} : (S ^^^ 2 ^ s).testBit i = (S.testBit i ^^ decide (s = i)) := by rw [Nat.testBit_xor, Nat.testBit_two_pow]
theorem xor_sub {S s : Nat} (h : S.testBit s = true) : sp_sub (S ^^^ 2 ^ s) S = true := by
  refine sub_iff.mpr fun i hi => ?_
  rw [xor_bit] at hi
  rcases Nat.decEq s i with q | q
  · rw [decide_eq_false q, Bool.xor_false] at hi; exact hi
  · rw [← q]; exact h
theorem xor_lt {S s : Nat} (h : S.testBit s = true) : S ^^^ 2 ^ s < S := by
  refine Nat.lt_of_le_of_ne (sub_le (xor_sub h)) fun q => ?_
  have h1 : (S ^^^ 2 ^ s).testBit s = S.testBit s := by rw [q]
  rw [xor_bit, h, decide_eq_true rfl] at h1
  cases h1
/-- a set clashes when it is a clash, or clashes without one of its statements -/
theorem clS_step {cl : Nat → Nat} {cc n S : Nat} (hS : S < 2 ^ n) : clS cl cc S = (anyB (fun k => decide (cl k = S)) cc || anyB (fun i => S.testBit i && clS cl cc (S ^^^ 2 ^ i)) n) := by
  rw [Bool.eq_iff_iff, Bool.or_eq_true]
  constructor
  · intro h
    obtain ⟨k, h1, h2⟩ := anyB_iff.mp h
    rcases Nat.decEq (cl k) S with q | q
    · obtain ⟨i, h3, h4⟩ := sub_more h2 q
      refine Or.inr (anyB_of (bit_lt hS h3) ?_)
      show (S.testBit i && _) = true
      rw [h3, Bool.true_and]
      refine anyB_of h1 (sub_iff.mpr fun j hj => ?_)
      rw [xor_bit, sub_iff.mp h2 j hj, decide_eq_false (fun q => by rw [← q, h4] at hj; cases hj)]
      rfl
    · exact Or.inl (anyB_of h1 (decide_eq_true q))
  · rintro (h | h)
    · obtain ⟨k, h1, h2⟩ := anyB_iff.mp h
      exact anyB_of h1 (by rw [of_decide_eq_true h2]; exact sub_refl S)
    · obtain ⟨i, h1, h2⟩ := anyB_iff.mp h
      rw [Bool.and_eq_true] at h2
      exact clS_mono (xor_sub h2.1) h2.2
theorem mk_0 {cl : Nat → Nat} {cc n i : Nat} {x : Nat → Bool} (hi : i < 2 ^ n) (hI : ∀ S, S < 2 ^ n → x S = if S < i then clS cl cc S else anyB (fun j => decide (cl j = S)) cc) : clS cl cc i = (x i || anyB (fun s => i.testBit s && x (i ^^^ 2 ^ s)) n) := by
  have h1 := hI i hi
  rw [if_neg (Nat.lt_irrefl i)] at h1
  rw [clS_step hi, h1]
  congr 1
  rw [Bool.eq_iff_iff, anyB_iff, anyB_iff]
  constructor
  · rintro ⟨s, h2, h3⟩
    refine ⟨s, h2, ?_⟩
    rw [Bool.and_eq_true] at h3 ⊢
    have h4 := xor_lt h3.1
    exact ⟨h3.1, by rw [hI _ (Nat.lt_trans h4 hi), if_pos h4]; exact h3.2⟩
  · rintro ⟨s, h2, h3⟩
    refine ⟨s, h2, ?_⟩
    rw [Bool.and_eq_true] at h3 ⊢
    have h4 := xor_lt h3.1
    have h5 := h3.2
    rw [hI _ (Nat.lt_trans h4 hi), if_pos h4] at h5
    exact ⟨h3.1, h5⟩
theorem mk_1 {cl : Nat → Nat} {cc n i : Nat} {x : Nat → Bool} (hi : i < 2 ^ n) (hI : ∀ S, S < 2 ^ n → x S = if S < i then clS cl cc S else anyB (fun j => decide (cl j = S)) cc) (hx : x i = true) (S : Nat) (hS : S < 2 ^ n) : x S = if S < i + 1 then clS cl cc S else anyB (fun j => decide (cl j = S)) cc := by
  rcases Nat.lt_trichotomy S i with q | q | q
  · rw [hI S hS, if_pos q, if_pos (by omega)]
  · rw [q, if_pos (by omega), mk_0 hi hI, hx]; rfl
  · rw [hI S hS, if_neg (by omega), if_neg (by omega)]
theorem mk_2 {cl : Nat → Nat} {cc n i : Nat} {x : Nat → Bool} (hi : i < 2 ^ n) (hI : ∀ S, S < 2 ^ n → x S = if S < i then clS cl cc S else anyB (fun j => decide (cl j = S)) cc) (hx : x i = false) (S : Nat) (hS : S < 2 ^ n) : va_up x i (anyB (fun s => i.testBit s && x (i ^^^ 2 ^ s)) n) S = if S < i + 1 then clS cl cc S else anyB (fun j => decide (cl j = S)) cc := by
  unfold va_up
  rcases Nat.lt_trichotomy S i with q | q | q
  · rw [if_neg (by omega), hI S hS, if_pos q, if_pos (by omega)]
  · rw [if_pos q, q, if_pos (by omega), mk_0 hi hI, hx]; rfl
  · rw [if_neg (by omega), hI S hS, if_neg (by omega), if_neg (by omega)]

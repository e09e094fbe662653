/-! two worlds side by side: a call changes one of them -/
section FRM
variable {D : va_G} {cl : List vw_C} {w1 w2 w3 : va_W} {H H1 : Heap} {A : Nat → Prop}
theorem fr_Pl (h : va_P D cl (w1 ++ w2) H) : va_P D cl w1 H := fun k q hk => h k q (by rw [List.getElem?_append_left (List.getElem?_eq_some_iff.mp hk).1]; exact hk)
theorem fr_Pr (h : va_P D cl (w1 ++ w2) H) : va_P D cl w2 H := fun k q hk => h (w1.length + k) q (by rw [List.getElem?_append_right (by omega), show w1.length + k - w1.length = k by omega]; exact hk)
theorem fr_Dl (h : va_D A (w1 ++ w2)) : va_D A w1 := by
  have key : ∀ (k : Nat) (q : Nat × va_E), w1[k]? = some q → (w1 ++ w2)[k]? = some q := fun k q hk => by rw [List.getElem?_append_left (List.getElem?_eq_some_iff.mp hk).1]; exact hk
  exact ⟨fun i j x y hi hj hxy => h.1 i j x y (key i x hi) (key j y hj) hxy, fun k q hk => h.2 k q (key k q hk)⟩
theorem fr_key {k : Nat} {q : Nat × va_E} (hk : w2[k]? = some q) : (w1 ++ w2)[w1.length + k]? = some q := by rw [List.getElem?_append_right (by omega), show w1.length + k - w1.length = k by omega]; exact hk
theorem fr_Dr (h : va_D A (w1 ++ w2)) : va_D A w2 := ⟨fun i j x y hi hj hxy => by have := h.1 _ _ x y (fr_key hi) (fr_key hj) hxy; omega, fun k q hk => h.2 _ q (fr_key hk)⟩
theorem fr_apart (h : va_D A (w1 ++ w2)) : ∀ (i j : Nat) (p q : Nat × va_E), w1[i]? = some p → w2[j]? = some q → p.1 ≠ q.1 := by
  intro i j p q hi hj e
  have hl := (List.getElem?_eq_some_iff.mp hi).1
  have := h.1 i (w1.length + j) p q (by rw [List.getElem?_append_left hl]; exact hi) (fr_key hj) e
  omega
theorem fr_Dswap (h : va_D A (w1 ++ w2)) : va_D A (w2 ++ w1) := va_D.app (fr_Dr h) (fr_Dl h) (fun i j p q hi hj e => fr_apart h j i q p hj hi e.symm)
theorem fr_Pswap (h : va_P D cl (w1 ++ w2) H) : va_P D cl (w2 ++ w1) H := va_P.app (fr_Pr h) (fr_Pl h)
theorem fr_keep (hP : va_P D cl (w1 ++ w2) H) (hD : va_D A (w1 ++ w2)) (hk : ∀ q : Nat, q < H.size → ¬ va_A w1 H.size q → H1[q]? = H[q]?) : va_P D cl w2 H1 := by
  intro k q hq
  have h1 := fr_Pr hP k q hq
  refine h1.kept (hk q.1 h1.lt fun h => ?_)
  rcases h with ⟨k2, e, h⟩ | h
  · exact fr_apart hD k2 k (q.1, e) q h hq rfl
  · have := h1.lt
    omega
end FRM
section FRC
variable {p : Program} {l : Launch} {e : Env} {R : Room} {s : State} {m : MethodId} {args : Array Value} {below : List Frame} {meth : Method} {c : Code} {H : Heap} {locs : List Loc} {cells slots : Nat} {Q : State → Prop}
variable {D : va_G} {cl : List vw_C} {w1 w2 : va_W} {tys : List (ClassId × FieldType)} {cc : ByteArray} {pc : Nat} {ls : Array Slot} {rest st0 : List Value} {σ : Type} {WS : σ → va_W} {ro : σ → Option Value} {post : σ → Prop}
variable {A : Nat → Prop} {H0 : Heap} {y : MethodName} {bytes : ByteArray} {maxL nL n index : Nat} {ret : Option FieldType} {w : List Cond} {rm : Room} {Ts : List Cond} {own C : String} {b : Addr} {As : List Value}
theorem wE_L (S : CallFix p m c cc nL s args Ts own) (hM : Met l y w rm (wr_Pc D cl w1 tys H.size (.ref b :: As)) (wE_Q D cl w1 WS ro post H.size) 0 0 (va_A w1 H.size)) (cw : CallW R s args own C index y bytes maxL ret w rm 0 0 n)
    (hK : va_K D cl tys s) (hP : va_P D cl (w1 ++ w2) H) (hD : va_D A (w1 ++ w2)) (hS : va_S A H0 H locs) (hA : ∀ q, H0.size ≤ q → A q) (q0 : Nat) {ci : Nat} {T : u_T} {N : Nat} {fs : List Value} (hc : cl[ci]? = some (C, T, N)) (he : w1[q0]? = some (b, .inr (ci, fs)))
    (hn : As.length = n) (hsize : ls.size = nL) (hstack : st0 = As.reverse ++ .ref b :: rest) (hW : (rest.map fun v => v.category).sum ≤ 8) (hdg : decode cc pc = .ok (.invokevirtual index, 3)) (hf : cells + 0 ≤ R.cells ∧ slots + 0 ≤ R.slots) (ha : ∀ u, (WS u).map (·.1) = w1.map (·.1))
    (kk : ∀ (u : σ) (H1 : Heap) (locs1 : List Loc), post u → va_P D cl (WS u ++ w2) H1 → va_D A (WS u ++ w2) → va_S A H0 H1 locs1 → W p l e R s m args below meth c H1 locs1 cells slots Q (F0 m (pc + 3) ls ((ro u).toList ++ rest))) : W p l e R s m args below meth c H locs cells slots Q (F0 m pc ls st0) := by
  subst hstack
  have hP1 := fr_Pl hP
  have hD1 := fr_Dl hD
  intro T hT X
  obtain ⟨v, st₀, t, T', L, h0, X', hL, e1, e2, ⟨u, hv, hu, hp, hz, hk⟩, st⟩ := va_runV (As := As) (rest := rest) (g := F0 m pc ls (As.reverse ++ .ref b :: rest)) S hM cw ⟨wr_blind, va_recv hK hP1 hc he, fun U hU hW => ⟨rfl, by rw [hU], by rw [hU]; exact hP1, va_K.moved hW.alike hK, hD1.weaken (fun _ _ _ _ => trivial)⟩⟩ rfl hn hsize rfl (lv_room hW) hdg hf T hT X
  cases hv
  rw [h0] at hz hk
  have hF : ∀ q, va_A w1 H.size q → A q := fun q h => by
    rcases h with ⟨k, e, h⟩ | h
    · exact hD1.2 k (q, e) h
    · exact hA q (Nat.le_trans hS.1 h)
  obtain ⟨t2, a1, b1⟩ := kk u T'.heap (locs ++ L) hu (va_P.app (by rw [e1]; exact hp) (fr_keep hP hD (fun q h1 h2 => by rw [e1]; exact hk q h1 h2))) (wr_D hD (by rw [List.map_append, List.map_append, ha u]))
    ⟨Nat.le_trans hS.1 (by rw [e1]; exact hz), fun q h1 h2 => by rw [e1, hk q (Nat.lt_of_lt_of_le h1 hS.1) (fun z => h2 (hF q z))]; exact hS.2.1 q h1 h2, fun q hq => by
      rcases List.mem_append.mp hq with h | h
      · exact hS.2.2 q h
      · exact hF _ (hL q h)⟩ T' rfl X'
  exact ⟨t2, st t2 a1, b1⟩
theorem wE_R (S : CallFix p m c cc nL s args Ts own) (hM : Met l y w rm (wr_Pc D cl w2 tys H.size (.ref b :: As)) (wE_Q D cl w2 WS ro post H.size) 0 0 (va_A w2 H.size)) (cw : CallW R s args own C index y bytes maxL ret w rm 0 0 n)
    (hK : va_K D cl tys s) (hP : va_P D cl (w1 ++ w2) H) (hD : va_D A (w1 ++ w2)) (hS : va_S A H0 H locs) (hA : ∀ q, H0.size ≤ q → A q) (q0 : Nat) {ci : Nat} {T : u_T} {N : Nat} {fs : List Value} (hc : cl[ci]? = some (C, T, N)) (he : w2[q0]? = some (b, .inr (ci, fs)))
    (hn : As.length = n) (hsize : ls.size = nL) (hstack : st0 = As.reverse ++ .ref b :: rest) (hW : (rest.map fun v => v.category).sum ≤ 8) (hdg : decode cc pc = .ok (.invokevirtual index, 3)) (hf : cells + 0 ≤ R.cells ∧ slots + 0 ≤ R.slots) (ha : ∀ u, (WS u).map (·.1) = w2.map (·.1))
    (kk : ∀ (u : σ) (H1 : Heap) (locs1 : List Loc), post u → va_P D cl (w1 ++ WS u) H1 → va_D A (w1 ++ WS u) → va_S A H0 H1 locs1 → W p l e R s m args below meth c H1 locs1 cells slots Q (F0 m (pc + 3) ls ((ro u).toList ++ rest))) : W p l e R s m args below meth c H locs cells slots Q (F0 m pc ls st0) :=
  wE_L (w2 := w1) S hM cw hK (fr_Pswap hP) (fr_Dswap hD) hS hA q0 hc he hn hsize hstack hW hdg hf ha (fun u H1 locs1 hu h1 h2 h3 => kk u H1 locs1 hu (fr_Pswap h1) (fr_Dswap h2) h3)
end FRC
/-! the shared state stays in its bounds -/
theorem up_bd {f : Nat → Nat} {k v : Nat} {P : Nat → Prop} (h : ∀ j, P (f j)) (hv : P v) : ∀ j, P (va_up f k v j) := by
  intro j
  unfold va_up
  split
  · exact hv
  · exact h j
section GD
variable {n bt : Nat} {rk wt cl : Nat → Nat} {cc : Nat} {su sa : Nat → Nat} {sc od : Nat}
theorem gd_fact {hard : Bool} {r w : Int32} (h : gdA (n, bt, rk, wt, cl, cc, su, sa, sc, od)) : gdA (sFact n bt rk wt cl cc su sa sc od hard r w).2 := by
  unfold sFact
  split
  · rename_i hok
    split
    · exact h
    · rename_i hn
      rw [Bool.and_eq_true] at hok
      obtain ⟨r0, hr0, er⟩ := okR_of hok.1
      obtain ⟨w0, hw0, hw1, ew⟩ := okW_of hok.2
      obtain ⟨h1, h2, h3, h4, h5, h6⟩ := h
      have e1 : r.toNatClampNeg = r0 := by rw [er, nI_clamp (by omega)]
      have e2 : w.toNatClampNeg = w0 := by rw [ew, nI_clamp (by omega)]
      have hp : 2 ^ n < 2 ^ (n + 1) := Nat.pow_lt_pow_right (by decide) (by omega)
      rw [e1, e2]
      refine ⟨by omega, ?_, up_bd (P := fun z => z < 8) h3 hr0, up_bd (P := fun z => z ≤ 1000) h4 hw1, fun j hj => ?_, h6⟩
      · split
        · exact Nat.or_lt_two_pow (Nat.lt_trans h2 hp) hp
        · exact Nat.lt_trans h2 hp
      · unfold va_up
        split
        · exact hw0
        · exact h5 j (by omega)
  · exact h
theorem gd_harden {hard : Bool} {x : Int32} (h : gdA (n, bt, rk, wt, cl, cc, su, sa, sc, od)) : gdA (sHarden n bt rk wt cl cc su sa sc od x hard).2 := by
  unfold sHarden
  split
  · rename_i hok
    split
    · exact h
    · obtain ⟨h1, h2, h3⟩ := h
      obtain ⟨k, hk, e⟩ := okS_of (by omega) hok
      rw [e, nI_clamp (by omega)]
      exact ⟨h1, Nat.xor_lt_two_pow h2 (Nat.pow_lt_pow_right (by decide) hk), h3⟩
  · exact h
theorem gd_weight {x r w : Int32} (h : gdA (n, bt, rk, wt, cl, cc, su, sa, sc, od)) : gdA (sWeight n bt rk wt cl cc su sa sc od x r w).2 := by
  unfold sWeight
  split
  · rename_i hok
    rw [Bool.and_eq_true, Bool.and_eq_true] at hok
    obtain ⟨r0, hr0, er⟩ := okR_of hok.2.1
    obtain ⟨w0, hw0, hw1, ew⟩ := okW_of hok.2.2
    obtain ⟨h1, h2, h3, h4, h5, h6⟩ := h
    have e1 : r.toNatClampNeg = r0 := by rw [er, nI_clamp (by omega)]
    have e2 : w.toNatClampNeg = w0 := by rw [ew, nI_clamp (by omega)]
    rw [e1, e2]
    refine ⟨h1, h2, up_bd (P := fun z => z < 8) h3 hr0, up_bd (P := fun z => z ≤ 1000) h4 hw1, fun j hj => ?_, h6⟩
    unfold va_up
    split
    · exact hw0
    · exact h5 j hj
  · exact h
theorem gd_clash {x : Int32} (h : gdA (n, bt, rk, wt, cl, cc, su, sa, sc, od)) : gdA (sClash n bt rk wt cl cc su sa sc od x).2 := by
  unfold sClash
  split
  · exact h
  · obtain ⟨h1, h2, h3, h4, h5, h6, h7, h8⟩ := h
    exact ⟨h1, h2, h3, h4, h5, by omega, up_bd (P := fun z => z < 2048) h7 (Nat.mod_lt _ (by decide)), h8⟩
theorem gd_settle (h : gdA (n, bt, rk, wt, cl, cc, su, sa, sc, od)) : gdA (sSettle n bt rk wt cl cc su sa sc od).2 := by
  unfold sSettle
  split
  · exact h
  · obtain ⟨h1, h2, h3, h4, h5, h6, h7⟩ := h
    exact ⟨h1, h2, h3, h4, h5, by omega, h7⟩
theorem gd_support {x y : Int32} (h : gdA (n, bt, rk, wt, cl, cc, su, sa, sc, od)) : gdA (sSupport n bt rk wt cl cc su sa sc od x y).2 := by
  unfold sSupport
  split
  · rename_i hok
    split
    · exact h
    · obtain ⟨h1, h2, h3, h4, h5, h6, h7, h8, h9, h10, h11⟩ := h
      obtain ⟨k, hk, e⟩ := okA_of hok
      rw [e, nI_clamp (by omega)]
      exact ⟨h1, h2, h3, h4, h5, h6, h7, by omega, up_bd (P := fun z => z < 8) h9 hk, up_bd (P := fun z => z < 2048) h10 (Nat.mod_lt _ (by decide)), h11⟩
  · exact h
theorem gd_order {x : Int32} (h : gdA (n, bt, rk, wt, cl, cc, su, sa, sc, od)) : gdA (sOrder n bt rk wt cl cc su sa sc od x).2 := by
  unfold sOrder
  split
  · rename_i hok
    obtain ⟨h1, h2, h3, h4, h5, h6, h7, h8, h9, h10, h11⟩ := h
    obtain ⟨k, hk, e⟩ := okO_of hok
    rw [e, nI_clamp (by omega)]
    exact ⟨h1, h2, h3, h4, h5, h6, h7, h8, h9, h10, hk⟩
  · exact h
end GD
def nzB (x : Int32) : Bool := !decide (x = 0)
theorem nz_t {x : Int32} (h : x = 0) : 0 = bI (nzB x) := by unfold nzB; rw [decide_eq_true h]; rfl
theorem nz_f {x : Int32} (h : ¬ x = 0) : 1 = bI (nzB x) := by unfold nzB; rw [decide_eq_false h]; rfl

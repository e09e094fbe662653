set_option maxHeartbeats 4000000 in
set_option maxRecDepth 100000 in
/-- THE LAW'S LOOP: at its head class and reference are in the same state -/
theorem law_loop {p : Program} {l : Launch} {e : Env} {s : State} {m : MethodId} {below : List Frame} {meth : Method} {c : Code} {b L : Nat} {xs : Nat → Int32} (hL : L ≤ 2048) (C0 : lw_At p s m meth c b L xs) {D : va_G} {ax ay : Nat → Nat} {cI cZ : ClassId} (hK : va_K D clX [(cI, .int), (cZ, .boolean)] s) (x0 : stA × stC × stD) {H : Heap} {locs : List Loc} {ls : Array Slot} (hI0 : gdA x0.1 ∧ ocX (x0.1, x0.2.1) ∧ ocY (x0.1, x0.2.2)) (hl : lv_has ls 4 [(0, .ref b), (1, .ref (ax 0)), (2, .ref (ay 0)), (3, .int (nI (4 * 0)))]) (hP : va_P D clX (wXt ax cI cZ (x0.1, x0.2.1) ++ wYt ay cI cZ (x0.1, x0.2.2)) H) (hD : va_D (fun q : Nat => s.heap.size ≤ q) (wXt ax cI cZ (x0.1, x0.2.1) ++ wYt ay cI cZ (x0.1, x0.2.2))) (hS : va_S (fun q : Nat => s.heap.size ≤ q) s.heap H locs) : W p l e room_1 s m #[Value.ref b] below meth c H locs 18 6861 (lw_Z below #[Value.ref b] s) (F0 m 18 ls []) := by
  obtain ⟨hx, hb, hr, hml, hown, hts0, hX, hbl, hlocks, hgv⟩ := id C0
  have hbA : ¬ (fun q : Nat => s.heap.size ≤ q) b := Nat.not_le.mpr hbl
  refine wr_loop (nL := 4) (σ := stA × stC × stD) (L / 4) (fun k _ => [(0, .ref b), (1, .ref (ax 0)), (2, .ref (ay 0)), (3, .int (nI (4 * k)))]) (fun _ x => wXt ax cI cZ (x.1, x.2.1) ++ wYt ay cI cZ (x.1, x.2.2)) (fun _ x => gdA x.1 ∧ ocX (x.1, x.2.1) ∧ ocY (x.1, x.2.2)) ?_ 0 x0 ls H locs (Nat.zero_le _) hI0 hl hP hD hS
  intro k x ls H locs hk0 hI hl hP hD hS ih
  have hl : lv_has ls 4 [(0, .ref b), (1, .ref (ax 0)), (2, .ref (ay 0)), (3, .int (nI (4 * k)))] := hl
  obtain ⟨a, u, v⟩ := x
  obtain ⟨hg, hcx, hcy⟩ : gdA a ∧ ocX (a, u) ∧ ocY (a, v) := hI
  have hP : va_P D clX (wXt ax cI cZ (a, u) ++ wYt ay cI cZ (a, v)) H := hP
  have hD : va_D (fun q : Nat => s.heap.size ≤ q) (wXt ax cI cZ (a, u) ++ wYt ay cI cZ (a, v)) := hD
  refine lv_iload_n hx hb d_L_law_18 rfl (lv_at hl 3 rfl) ?_
  refine lv_aload_n hx hb d_L_law_19 rfl (lv_at hl 0 rfl) ?_
  refine va_slen hx hb hX hbl hbA hS d_L_law_20 ?_
  refine lv_iconst (v := 4) hx hb d_L_law_21 (by decide) ?_
  refine lv_isub hx hb d_L_law_22 ?_
  refine lv_icmp_gt (tgt := 551) hx hb d_L_law_23 (by decide) (fun c23 => ?_) (fun c23 => ?_)
  · refine lv_iconst (v := 1) hx hb d_L_law_551 (by decide) ?_
    refine va_forget (fun q hq => hS.2.2 q hq) ?_
    exact lw_ret hx hb hr hlocks d_L_law_552
  have hk : k < L / 4 := by
    have h1 : ¬ (nI L - nI 4 < nI (4 * k)) := c23
    rw [Int32.lt_iff_toInt_lt, pk_sub_toInt (by omega) (by decide), nI_toInt (by omega)] at h1
    omega
  have J : lwJ p l e s m below meth c b D ax ay cI cZ k := by
    intro a u v ls H locs hg hcx hcy hl hP hD hS
    refine lv_iinc (v := nI (4 * (k + 1))) (lv' := [(3, .int (nI (4 * (k + 1)))), (0, .ref b), (1, .ref (ax 0)), (2, .ref (ay 0))]) hx hb d_L_law_545 hl (k := 3) rfl (nI_add (4 * k) 4) (by decide) rfl (fun ls hl => ?_)
    refine lv_goto (tgt := 18) hx hb d_L_law_548 (by decide) ?_
    exact ih hk (a, u, v) ls H locs ⟨hg, hcx, hcy⟩ (lv_sub hl [1, 2, 3, 0] rfl) hP hD hS
  refine lv_aload_n hx hb d_L_law_26 rfl (lv_at hl 0 rfl) ?_
  refine lv_iload_n hx hb d_L_law_27 rfl (lv_at hl 3 rfl) ?_
  refine va_sld hx hb hX hbl hbA hS (vp_in_nI (show 4 * k < L by omega) (by omega)) d_L_law_28 ?_
  refine lv_bipush (v := 15) hx hb d_L_law_29 (by decide) ?_
  refine lv_iand hx hb d_L_law_31 ?_
  refine rd_top (pk_and (xs (nI (4 * k)).toNatClampNeg) 4 (by decide)) ?_
  have hv16 : (xs (nI (4 * k)).toNatClampNeg).toBitVec.toNat % 2 ^ 4 < 16 := Nat.mod_lt _ (by decide)
  generalize (xs (nI (4 * k)).toNatClampNeg).toBitVec.toNat % 2 ^ 4 = w at hv16 ⊢
  rcases (show w = 0 ∨ w = 1 ∨ w = 2 ∨ w = 3 ∨ w = 4 ∨ w = 5 ∨ w = 6 ∨ w = 7 ∨ w = 8 ∨ w = 9 ∨ w = 10 ∨ w = 11 ∨ w = 12 ∨ w = 13 ∨ w = 14 ∨ w = 15 by omega) with rfl | rfl | rfl | rfl | rfl | rfl | rfl | rfl | rfl | rfl | rfl | rfl | rfl | rfl | rfl | rfl
  · refine lv_tableIn (off := 76) (tgt := 108) hx hb d_L_law_32 (by decide) (by decide) (by decide) (by decide) ?_
    exact op_fact hL C0 hk hg hcx hcy hK hl hP hD hS J
  · refine lv_tableIn (off := 135) (tgt := 167) hx hb d_L_law_32 (by decide) (by decide) (by decide) (by decide) ?_
    exact op_harden hL C0 hk hg hcx hcy hK hl hP hD hS J
  · refine lv_tableIn (off := 184) (tgt := 216) hx hb d_L_law_32 (by decide) (by decide) (by decide) (by decide) ?_
    exact op_weight hL C0 hk hg hcx hcy hK hl hP hD hS J
  · refine lv_tableIn (off := 227) (tgt := 259) hx hb d_L_law_32 (by decide) (by decide) (by decide) (by decide) ?_
    exact op_clash hL C0 hk hg hcx hcy hK hl hP hD hS J
  · refine lv_tableIn (off := 250) (tgt := 282) hx hb d_L_law_32 (by decide) (by decide) (by decide) (by decide) ?_
    exact op_settle hL C0 hk hg hcx hcy hK hl hP hD hS J
  · refine lv_tableIn (off := 263) (tgt := 295) hx hb d_L_law_32 (by decide) (by decide) (by decide) (by decide) ?_
    exact op_support hL C0 hk hg hcx hcy hK hl hP hD hS J
  · refine lv_tableIn (off := 296) (tgt := 328) hx hb d_L_law_32 (by decide) (by decide) (by decide) (by decide) ?_
    exact op_order hL C0 hk hg hcx hcy hK hl hP hD hS J
  · refine lv_tableIn (off := 319) (tgt := 351) hx hb d_L_law_32 (by decide) (by decide) (by decide) (by decide) ?_
    exact op_find hL C0 hk hg hcx hcy hK hl hP hD hS J
  · refine lv_tableIn (off := 332) (tgt := 364) hx hb d_L_law_32 (by decide) (by decide) (by decide) (by decide) ?_
    exact op_kept hL C0 hk hg hcx hcy hK hl hP hD hS J
  · refine lv_tableIn (off := 355) (tgt := 387) hx hb d_L_law_32 (by decide) (by decide) (by decide) (by decide) ?_
    exact op_left hL C0 hk hg hcx hcy hK hl hP hD hS J
  · refine lv_tableIn (off := 388) (tgt := 420) hx hb d_L_law_32 (by decide) (by decide) (by decide) (by decide) ?_
    exact op_truth hL C0 hk hg hcx hcy hK hl hP hD hS J
  · refine lv_tableIn (off := 411) (tgt := 443) hx hb d_L_law_32 (by decide) (by decide) (by decide) (by decide) ?_
    exact op_surely hL C0 hk hg hcx hcy hK hl hP hD hS J
  · refine lv_tableIn (off := 434) (tgt := 466) hx hb d_L_law_32 (by decide) (by decide) (by decide) (by decide) ?_
    exact op_better hL C0 hk hg hcx hcy hK hl hP hD hS J
  · refine lv_tableIn (off := 477) (tgt := 509) hx hb d_L_law_32 (by decide) (by decide) (by decide) (by decide) ?_
    exact op_least hL C0 hk hg hcx hcy hK hl hP hD hS J
  · refine lv_tableIn (off := 500) (tgt := 532) hx hb d_L_law_32 (by decide) (by decide) (by decide) (by decide) ?_
    exact op_size hL C0 hk hg hcx hcy hK hl hP hD hS J
  · refine lv_tableOut (tgt := 545) hx hb d_L_law_32 (by decide) (by decide) ?_
    exact J a u v ls H locs hg hcx hcy hl hP hD hS
set_option maxHeartbeats 4000000 in
set_option maxRecDepth 100000 in
/-- THE LAW, from its entry -/
theorem whole_start {p : Program} {e : Env} {s : State} {m : MethodId} {below : List Frame} {meth : Method} {c : Code} (l : Launch) {b L : Nat} {xs : Nat → Int32} (hL : L ≤ 2048) (C0 : lw_At p s m meth c b L xs) : W p l e room_1 s m #[Value.ref b] below meth c s.heap [] 0 0 (lw_Z below #[Value.ref b] s) (entryFrame m ([Value.ref b] : List Value).toArray 4) := by
  obtain ⟨hx, hb, hr, hml, hown, hts0, hX, hbl, hlocks, hgv⟩ := id C0
  have hts : ∀ w ∈ tbl, w.before #[Value.ref b] s = true := fun w h => hts0 w (List.mem_filter.mp h).1
  have hown : s.vm.findClass RL = some m.cls := hown
  have hA : ∀ q : Nat, s.heap.size ≤ q → (fun q : Nat => s.heap.size ≤ q) q := fun _ h => h
  obtain ⟨c0, iS0, hKn0⟩ := u_known (C := RX) (T := TX) (N := 15) (n := 15) hts inX (hts _ h_X_inst)
  obtain ⟨c1, iS1, hKn1⟩ := u_known (C := RY) (T := TY) (N := 14) (n := 14) hts inY (hts _ h_Y_inst)
  obtain ⟨D, hKc⟩ : ∃ D : va_G, ∀ (k : Nat) (q : vw_C), clX[k]? = some q → u_Kn s q.1 q.2.1 q.2.2 (D.1 k) (D.2 k) := by
    refine ⟨(fun k => if k = 0 then c0 else c1, fun k => if k = 0 then iS0 else iS1), ?_⟩
    intro k q hq
    match k, hq with
    | 0, hq => cases hq; exact hKn0
    | 1, hq => cases hq; exact hKn1
    | k + 2, hq => simp [clX] at hq
  have hS : va_S (fun q : Nat => s.heap.size ≤ q) s.heap s.heap [] := va_S.rf
  have hK : va_K D clX [] s := ⟨hKc, fun k q h => by simp at h⟩
  have hP : va_P D clX [] s.heap := fun k q h => by simp at h
  have hD : va_D (fun q : Nat => s.heap.size ≤ q) [] := ⟨fun i j p q h => by simp at h, fun k q h => by simp at h⟩
  have hl := lv_entry ([.ref b]) (n := 4) (Nat.le_of_ble_eq_true rfl)
  rw [lg_entry_eq]
  generalize (lg_sl ([.ref b]) ++ List.replicate (4 - (lg_sl ([.ref b])).length) Slot.unset).toArray = ls at hl ⊢
  have hl : lv_has ls 4 [(0, .ref b)] := hl
  refine va_new (ci := 0) (fs := [.int 0, .int 0, .null, .null, .null, .int 0, .null, .null, .int 0, .int 0, .int 0, .null, .null, .null, .int 0]) (C := RX) (T := TX) (N := 15) hx hb hts inX tyX tyX_ok hown (hts _ h_L_X) (hts _ h_X_inst) (hts _ h_X_ini) hK hP hD hS hA rfl (fun j hj => by rcases (show j = 0 ∨ j = 1 ∨ j = 2 ∨ j = 3 ∨ j = 4 ∨ j = 5 ∨ j = 6 ∨ j = 7 ∨ j = 8 ∨ j = 9 ∨ j = 10 ∨ j = 11 ∨ j = 12 ∨ j = 13 ∨ j = 14 by omega) with rfl | rfl | rfl | rfl | rfl | rfl | rfl | rfl | rfl | rfl | rfl | rfl | rfl | rfl | rfl <;> rfl) (Nat.le_of_ble_eq_true rfl) (Nat.le_of_ble_eq_true rfl) d_L_law_0 (fun qx H hP hD hS => ?_)
  have hP : va_P D clX [(qx, .inr (0, [.int 0, .int 0, .null, .null, .null, .int 0, .null, .null, .int 0, .int 0, .int 0, .null, .null, .null, .int 0]))] H := hP
  have hD : va_D (fun q : Nat => s.heap.size ≤ q) [(qx, .inr (0, [.int 0, .int 0, .null, .null, .null, .int 0, .null, .null, .int 0, .int 0, .int 0, .null, .null, .null, .int 0]))] := hD
  refine lv_dup hx hb d_L_law_3 rfl ?_
  have hFc := va_free (wc := [(qx, .inr (0, [.int 0, .int 0, .null, .null, .null, .int 0, .null, .null, .int 0, .int 0, .int 0, .null, .null, .null, .int 0]))]) hD hS hA [0] rfl
  refine va_callv (va_runI (As := []) (rest := [.ref qx]) ⟨hx, hb, hml, hown, hts⟩ (c_X_init l D qx H.size) (cwI 0 hts g_L_9 rfl rfl rfl (hts _ h_X_ini) (hts _ l_L_9) (hts _ h_X_init_kind) rfl (by decide +kernel) ⟨(Nat.le_of_ble_eq_true rfl), (Nat.le_of_ble_eq_true rfl)⟩) ⟨fun a U g mk q => by obtain ⟨q0, q1, qP, qK, qD⟩ := q; exact ⟨q0, q1, qP, va_K.moved (u := U) (U := U.calling g mk a) (Vm.Alike.refl U.vm) qK, qD⟩, fun U hU hW => ⟨rfl, by rw [hU], by rw [hU]; exact hP, va_K.moved hW.alike hK, hD.weaken (fun _ _ _ _ => trivial)⟩⟩ rfl rfl hl.1 rfl (lv_room (Nat.le_of_ble_eq_true rfl)) d_L_law_4 ⟨(Nat.le_of_ble_eq_true rfl), (Nat.le_of_ble_eq_true rfl)⟩) hS (fun q _ h => hFc q h) hFc (fun u t H1 locs ht hvm hw hB hz1 hk1 hS => ?_)
  obtain ⟨ax, cI, cZ⟩ := u
  obtain ⟨hP1, hK1, hD1⟩ := hB
  rw [ht] at hP1
  have hK1 : va_K D clX [(cI, .int), (cZ, .boolean)] s := va_K.moved hvm.symm hK1
  have hw : ax 0 = qx := hw
  subst hw
  have hP : va_P D clX (wX ax cI cZ 0 0 (fun _ => 0) (fun _ => 0) (fun _ => 0) 0 (fun _ => 0) (fun _ => 0) 0 0 false (fun _ => false) (fun _ => 0) (fun _ => 0) 0) H1 := hP1
  have hD : va_D (fun q : Nat => s.heap.size ≤ q) (wX ax cI cZ 0 0 (fun _ => 0) (fun _ => 0) (fun _ => 0) 0 (fun _ => 0) (fun _ => 0) 0 0 false (fun _ => false) (fun _ => 0) (fun _ => 0) 0) := hD1.weaken (fun _ q _ h => hFc q.1 h)
  clear hFc
  refine lv_astore_n (lv' := [(1, .ref (ax 0)), (0, .ref b)]) hx hb d_L_law_7 rfl hl (by decide) rfl (fun ls hl => ?_)
  refine va_new (ci := 1) (fs := [.int 0, .null, .null, .null, .null, .int 0, .null, .null, .int 0, .int 0, .int 0, .null, .null, .int 0]) (C := RY) (T := TY) (N := 14) hx hb hts inY tyY tyY_ok hown (hts _ h_L_Y) (hts _ h_Y_inst) (hts _ h_Y_ini) hK hP hD hS hA rfl (fun j hj => by rcases (show j = 0 ∨ j = 1 ∨ j = 2 ∨ j = 3 ∨ j = 4 ∨ j = 5 ∨ j = 6 ∨ j = 7 ∨ j = 8 ∨ j = 9 ∨ j = 10 ∨ j = 11 ∨ j = 12 ∨ j = 13 by omega) with rfl | rfl | rfl | rfl | rfl | rfl | rfl | rfl | rfl | rfl | rfl | rfl | rfl | rfl <;> rfl) (Nat.le_of_ble_eq_true rfl) (Nat.le_of_ble_eq_true rfl) d_L_law_8 (fun qy H hP hD hS => ?_)
  have hP : va_P D clX (wX ax cI cZ 0 0 (fun _ => 0) (fun _ => 0) (fun _ => 0) 0 (fun _ => 0) (fun _ => 0) 0 0 false (fun _ => false) (fun _ => 0) (fun _ => 0) 0 ++ [(qy, .inr (1, [.int 0, .null, .null, .null, .null, .int 0, .null, .null, .int 0, .int 0, .int 0, .null, .null, .int 0]))]) H := hP
  have hD : va_D (fun q : Nat => s.heap.size ≤ q) (wX ax cI cZ 0 0 (fun _ => 0) (fun _ => 0) (fun _ => 0) 0 (fun _ => 0) (fun _ => 0) 0 0 false (fun _ => false) (fun _ => 0) (fun _ => 0) 0 ++ [(qy, .inr (1, [.int 0, .null, .null, .null, .null, .int 0, .null, .null, .int 0, .int 0, .int 0, .null, .null, .int 0]))]) := hD
  refine lv_dup hx hb d_L_law_11 rfl ?_
  have hFc := va_free (wc := [(qy, .inr (1, [.int 0, .null, .null, .null, .null, .int 0, .null, .null, .int 0, .int 0, .int 0, .null, .null, .int 0]))]) hD hS hA [9] rfl
  have hPc : va_P D clX [(qy, .inr (1, [.int 0, .null, .null, .null, .null, .int 0, .null, .null, .int 0, .int 0, .int 0, .null, .null, .int 0]))] H := fr_Pr hP
  have hDc : va_D (fun q : Nat => s.heap.size ≤ q) [(qy, .inr (1, [.int 0, .null, .null, .null, .null, .int 0, .null, .null, .int 0, .int 0, .int 0, .null, .null, .int 0]))] := fr_Dr hD
  refine va_callv (va_runI (As := []) (rest := [.ref qy]) ⟨hx, hb, hml, hown, hts⟩ (c_Y_init l D qy H.size) (cwI 0 hts g_L_12 rfl rfl rfl (hts _ h_Y_ini) (hts _ l_L_12) (hts _ h_Y_init_kind) rfl (by decide +kernel) ⟨(Nat.le_of_ble_eq_true rfl), (Nat.le_of_ble_eq_true rfl)⟩) ⟨fun a U g mk q => by obtain ⟨q0, q1, qP, qK, qD⟩ := q; exact ⟨q0, q1, qP, va_K.moved (u := U) (U := U.calling g mk a) (Vm.Alike.refl U.vm) qK, qD⟩, fun U hU hW => ⟨rfl, by rw [hU], by rw [hU]; exact hPc, va_K.moved hW.alike hK, hDc.weaken (fun _ _ _ _ => trivial)⟩⟩ rfl rfl hl.1 rfl (lv_room (Nat.le_of_ble_eq_true rfl)) d_L_law_12 ⟨(Nat.le_of_ble_eq_true rfl), (Nat.le_of_ble_eq_true rfl)⟩) hS (fun q _ h => hFc q h) hFc (fun u t H2 locs ht hvm hw hB hz1 hk1 hS => ?_)
  obtain ⟨ay, cJ, cY⟩ := u
  obtain ⟨hP2, hK2, hD2⟩ := hB
  rw [ht] at hP2
  have hK2 : va_K D clX [(cJ, .int), (cY, .boolean)] s := va_K.moved hvm.symm hK2
  have hw : ay 0 = qy := hw
  subst hw
  have hK4 : va_K D clX [(cI, .int), (cZ, .boolean), (cJ, .int), (cY, .boolean)] s := hK1.app hK2
  obtain rfl : cI = cJ := va_same hK4 (i := 0) (j := 2) rfl rfl (Or.inl rfl)
  obtain rfl : cZ = cY := va_same hK4 (i := 1) (j := 3) rfl rfl (Or.inr rfl)
  have hPX := fr_keep (fr_Pswap hP) (fr_Dswap hD) hk1
  have hP3 : va_P D clX (wX ax cI cZ 0 0 (fun _ => 0) (fun _ => 0) (fun _ => 0) 0 (fun _ => 0) (fun _ => 0) 0 0 false (fun _ => false) (fun _ => 0) (fun _ => 0) 0 ++ wY ay cI cZ 0 (fun _ => false) (fun _ => 0) (fun _ => 0) (fun _ => 0) 0 (fun _ => 0) (fun _ => 0) 0 0 false (fun _ => false) (fun _ => 0) 0) H2 := va_P.app hPX hP2
  have hD3 : va_D (fun q : Nat => s.heap.size ≤ q) (wX ax cI cZ 0 0 (fun _ => 0) (fun _ => 0) (fun _ => 0) 0 (fun _ => 0) (fun _ => 0) 0 0 false (fun _ => false) (fun _ => 0) (fun _ => 0) 0 ++ wY ay cI cZ 0 (fun _ => false) (fun _ => 0) (fun _ => 0) (fun _ => 0) 0 (fun _ => 0) (fun _ => 0) 0 0 false (fun _ => false) (fun _ => 0) 0) := by
    refine va_D.app (fr_Dl hD) (hD2.weaken (fun _ q _ h => hFc q.1 h)) (fun i j x y hi hj exy => ?_)
    rcases hD2.2 j y hj with ⟨k, e2, h⟩ | h
    · exact fr_apart hD i k x (y.1, e2) hi h exy
    · have := (fr_Pl hP i x hi).lt
      omega
  have key : wY ay cI cZ 0 (fun _ => false) (fun _ => 0) (fun _ => 0) (fun _ => 0) 0 (fun _ => 0) (fun _ => 0) 0 0 false (fun _ => false) (fun _ => 0) 0 = wY ay cI cZ 0 (Nat.testBit 0) (fun _ => 0) (fun _ => 0) (fun _ => 0) 0 (fun _ => 0) (fun _ => 0) 0 0 false (fun _ => false) (fun _ => 0) 0 := congrArg (fun f => wY ay cI cZ 0 f (fun _ => 0) (fun _ => 0) (fun _ => 0) 0 (fun _ => 0) (fun _ => 0) 0 0 false (fun _ => false) (fun _ => 0) 0) (show (fun _ : Nat => false) = Nat.testBit 0 from funext fun j => (Nat.zero_testBit j).symm)
  rw [key] at hP3 hD3
  refine W.widen (k := 18) (n := 6861) (by decide) (by decide) ?_
  refine lv_astore_n (lv' := [(2, .ref (ay 0)), (1, .ref (ax 0)), (0, .ref b)]) hx hb d_L_law_15 rfl hl (by decide) rfl (fun ls hl => ?_)
  refine lv_iconst (v := nI (4 * 0)) hx hb d_L_law_16 (by decide) ?_
  refine lv_istore_n (lv' := [(3, .int (nI (4 * 0))), (2, .ref (ay 0)), (1, .ref (ax 0)), (0, .ref b)]) hx hb d_L_law_17 rfl hl (by decide) rfl (fun ls hl => ?_)
  exact law_loop hL C0 hK1 ((0, 0, (fun _ => 0), (fun _ => 0), (fun _ => 0), 0, (fun _ => 0), (fun _ => 0), 0, 0), (false, (fun _ => false), (fun _ => 0), (fun _ => 0), 0), (false, (fun _ => false), (fun _ => 0), 0)) ⟨⟨by decide, by decide, (fun _ => by show 0 < 8; decide), (fun _ => by show 0 ≤ 1000; decide), (fun j h => absurd h (Nat.not_lt_zero j)), by decide, (fun _ => by show 0 < 2048; decide), by decide, (fun _ => by show 0 < 8; decide), (fun _ => by show 0 < 2048; decide), by decide⟩, okC_f, okC_f⟩ (lv_sub hl [3, 2, 1, 0] rfl) hP3 hD3 hS

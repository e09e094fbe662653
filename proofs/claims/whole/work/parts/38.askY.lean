section MY5
variable {D : va_G} {h : Nat → Nat} {cI cZ : ClassId} {n bt : Nat} {rk wt cl : Nat → Nat} {cc : Nat} {ow su : Nat → Nat} {sc od : Nat} {kn : Bool} {ke : Nat → Bool} {rp : Nat → Nat} {rc : Nat}
set_option maxHeartbeats 4000000 in
set_option maxRecDepth 100000 in
theorem c_Y_find (l : Launch) (sz : Nat)  (hg : gdA (n, bt, rk, wt, cl, cc, su, ow, sc, od)) (hc : okC (n, bt, rk, wt, cl, cc, su, ow, sc, od) kn rp rc) : Met l y_Y_find w_Y_find (k2_rm 4 96) (wr_Pc D clX (wY h cI cZ n bt.testBit rk wt cl cc ow su sc od kn ke rp rc) [(cI, .int), (cZ, .boolean)] sz [.ref (h 0)]) (wE_Q D clX (wY h cI cZ n bt.testBit rk wt cl cc ow su sc od kn ke rp rc) (σ := stA × stD) (wYt h cI cZ) (fun _ => some (.int (nI (reps n bt rk wt cl cc od).length))) (fun u => u.1 = (n, bt, rk, wt, cl, cc, su, ow, sc, od) ∧ ocY u) sz) 0 0 (va_A (wY h cI cZ n bt.testBit rk wt cl cc ow su sc od kn ke rp rc) sz) := by
  refine wE_met (by decide) rfl (Nat.le_of_ble_eq_true rfl) rfl ?_
  intro p e s m below meth c ls hx hb hr hml hown hts hlocks hP hK hD hS hA hl
  have hts : ∀ w ∈ tbl, w.before _ s = true := fun w h => hts w (List.mem_cons_of_mem _ h)
  have hown : s.vm.findClass RY = some m.cls := hown
  have hl : lv_has ls 1 [(0, .ref (h 0))] := hl
  obtain ⟨hn, hbt, hrk, hwt, hwp, hcc, hcl, hsc, hsa, hsu, ho⟩ := id hg
  have hlen : (reps n bt rk wt cl cc od).length ≤ 462 := rep_len hn (Nat.le_refl _) hrk hwp
  refine lv_aload_n hx hb d_Y_find_0 rfl (lv_at hl 0 rfl) ?_
  refine wE_V (As := []) (rest := []) ⟨hx, hb, hml, hown, hts⟩ (c_Y_work l _ hg hc) (cwV 0 hts g_Y_77 rfl rfl rfl (by decide +kernel) ⟨Nat.le_of_ble_eq_true rfl, Nat.le_of_ble_eq_true rfl⟩) hK hP hD hS hA 0 rfl rfl rfl hl.1 rfl (Nat.le_of_ble_eq_true rfl) d_Y_find_1 ⟨Nat.zero_le _, Nat.zero_le _⟩ (fun _ => rfl) (fun v H locs hv hP hD hS => ?_)
  obtain ⟨g1, rp1⟩ := v
  have hv : isArr rp1 (reps n bt rk wt cl cc od) := hv
  have hv2 : ∀ i, i < (reps n bt rk wt cl cc od).length → rp1 i = (reps n bt rk wt cl cc od).getD i 0 := hv
  have hP : va_P D clX (wY h cI cZ n bt.testBit rk wt cl cc ow su sc od true g1 rp1 ((reps n bt rk wt cl cc od).length)) H := hP
  have hD : va_D _ (wY h cI cZ n bt.testBit rk wt cl cc ow su sc od true g1 rp1 ((reps n bt rk wt cl cc od).length)) := hD
  refine lv_aload_n hx hb d_Y_find_4 rfl (lv_at hl 0 rfl) ?_
  refine va_get (D := D) (ci := 1) (v := .int (nI ((reps n bt rk wt cl cc od).length))) (C := RY) (T := TY) (N := 14) hx hb hts inY hown hK hP 0 rfl rfl 13 (by decide) (hts _ f_Y_74) (fun _ h9 => h9) rfl d_Y_find_5 ?_
  have hs : (nI (reps n bt rk wt cl cc od).length) = (nI ((reps n bt rk wt cl cc od).length)) := by rfl
  exact wE_iret ((n, bt, rk, wt, cl, cc, su, ow, sc, od), (true, g1, rp1, (reps n bt rk wt cl cc od).length)) hx hb hr hlocks d_Y_find_8 hS hP ⟨rfl, (fun _ => ⟨hv, rfl⟩)⟩ (by rw [hs])
set_option maxHeartbeats 4000000 in
set_option maxRecDepth 100000 in
theorem c_Y_kept (l : Launch) (sz : Nat) (x : Int32) (hg : gdA (n, bt, rk, wt, cl, cc, su, ow, sc, od)) (hc : okC (n, bt, rk, wt, cl, cc, su, ow, sc, od) kn rp rc) : Met l y_Y_kept w_Y_kept (k2_rm 4 96) (wr_Pc D clX (wY h cI cZ n bt.testBit rk wt cl cc ow su sc od kn ke rp rc) [(cI, .int), (cZ, .boolean)] sz [.ref (h 0), .int x]) (wE_Q D clX (wY h cI cZ n bt.testBit rk wt cl cc ow su sc od kn ke rp rc) (σ := stA × stD) (wYt h cI cZ) (fun _ => some (.int (rKept (reps n bt rk wt cl cc od) x))) (fun u => u.1 = (n, bt, rk, wt, cl, cc, su, ow, sc, od) ∧ ocY u) sz) 0 0 (va_A (wY h cI cZ n bt.testBit rk wt cl cc ow su sc od kn ke rp rc) sz) := by
  refine wE_met (by decide) rfl (Nat.le_of_ble_eq_true rfl) rfl ?_
  intro p e s m below meth c ls hx hb hr hml hown hts hlocks hP hK hD hS hA hl
  have hts : ∀ w ∈ tbl, w.before _ s = true := fun w h => hts w (List.mem_cons_of_mem _ h)
  have hown : s.vm.findClass RY = some m.cls := hown
  have hl : lv_has ls 2 [(0, .ref (h 0)), (1, .int x)] := hl
  obtain ⟨hn, hbt, hrk, hwt, hwp, hcc, hcl, hsc, hsa, hsu, ho⟩ := id hg
  have hlen : (reps n bt rk wt cl cc od).length ≤ 462 := rep_len hn (Nat.le_refl _) hrk hwp
  refine lv_aload_n hx hb d_Y_kept_0 rfl (lv_at hl 0 rfl) ?_
  refine wE_V (As := []) (rest := []) ⟨hx, hb, hml, hown, hts⟩ (c_Y_work l _ hg hc) (cwV 0 hts g_Y_77 rfl rfl rfl (by decide +kernel) ⟨Nat.le_of_ble_eq_true rfl, Nat.le_of_ble_eq_true rfl⟩) hK hP hD hS hA 0 rfl rfl rfl hl.1 rfl (Nat.le_of_ble_eq_true rfl) d_Y_kept_1 ⟨Nat.zero_le _, Nat.zero_le _⟩ (fun _ => rfl) (fun v H locs hv hP hD hS => ?_)
  obtain ⟨g1, rp1⟩ := v
  have hv : isArr rp1 (reps n bt rk wt cl cc od) := hv
  have hv2 : ∀ i, i < (reps n bt rk wt cl cc od).length → rp1 i = (reps n bt rk wt cl cc od).getD i 0 := hv
  have hP : va_P D clX (wY h cI cZ n bt.testBit rk wt cl cc ow su sc od true g1 rp1 ((reps n bt rk wt cl cc od).length)) H := hP
  have hD : va_D _ (wY h cI cZ n bt.testBit rk wt cl cc ow su sc od true g1 rp1 ((reps n bt rk wt cl cc od).length)) := hD
  refine lv_iload_n hx hb d_Y_kept_4 rfl (lv_at hl 1 rfl) ?_
  refine lv_if_lt (tgt := 25) hx hb d_Y_kept_5 (by decide) (fun c5 => ?_) (fun c5 => ?_)
  · refine lv_bipush (v := (-2)) hx hb d_Y_kept_25 (by decide) ?_
    have hs : (rKept (reps n bt rk wt cl cc od) x) = (-2) := by unfold rKept; rw [if_neg (show ¬ okS (reps n bt rk wt cl cc od).length x = true by unfold okS; rw [decide_eq_true c5, Bool.not_true, Bool.false_and]; decide)]
    exact wE_iret ((n, bt, rk, wt, cl, cc, su, ow, sc, od), (true, g1, rp1, (reps n bt rk wt cl cc od).length)) hx hb hr hlocks d_Y_kept_27 hS hP ⟨rfl, (fun _ => ⟨hv, rfl⟩)⟩ (by rw [hs])
  · refine lv_iload_n hx hb d_Y_kept_8 rfl (lv_at hl 1 rfl) ?_
    refine lv_aload_n hx hb d_Y_kept_9 rfl (lv_at hl 0 rfl) ?_
    refine va_get (D := D) (ci := 1) (v := .int (nI ((reps n bt rk wt cl cc od).length))) (C := RY) (T := TY) (N := 14) hx hb hts inY hown hK hP 0 rfl rfl 13 (by decide) (hts _ f_Y_74) (fun _ h9 => h9) rfl d_Y_kept_10 ?_
    refine lv_icmp_ge (tgt := 25) hx hb d_Y_kept_13 (by decide) (fun c13 => ?_) (fun c13 => ?_)
    · refine lv_bipush (v := (-2)) hx hb d_Y_kept_25 (by decide) ?_
      have hs : (rKept (reps n bt rk wt cl cc od) x) = (-2) := by unfold rKept; rw [if_neg (show ¬ okS (reps n bt rk wt cl cc od).length x = true by unfold okS; rw [decide_eq_true c13, Bool.not_true, Bool.and_false]; decide)]
      exact wE_iret ((n, bt, rk, wt, cl, cc, su, ow, sc, od), (true, g1, rp1, (reps n bt rk wt cl cc od).length)) hx hb hr hlocks d_Y_kept_27 hS hP ⟨rfl, (fun _ => ⟨hv, rfl⟩)⟩ (by rw [hs])
    · have hx0 := (show okS (reps n bt rk wt cl cc od).length x = true by unfold okS; rw [decide_eq_false c5, decide_eq_false c13]; rfl)
      obtain ⟨k, hk, ek⟩ := okS_of (by omega) hx0
      subst ek
      refine lv_aload_n hx hb d_Y_kept_16 rfl (lv_at hl 0 rfl) ?_
      refine va_get (D := D) (ci := 1) (v := .ref (h 8)) (C := RY) (T := TY) (N := 14) hx hb hts inY hown hK hP 0 rfl rfl 12 (by decide) (hts _ f_Y_32) (fun _ h9 => h9) rfl d_Y_kept_17 ?_
      refine lv_iload_n hx hb d_Y_kept_20 rfl (lv_at hl 1 rfl) ?_
      refine va_iald hx hb hK hP 8 0 rfl rfl (vp_in_nI (show k < 2048 by omega) (by decide)) d_Y_kept_21 ?_
      refine rd_top (z := nI (rp1 k)) (ar_nI rp1 (by omega)) ?_
      refine lv_goto (tgt := 27) hx hb d_Y_kept_22 (by decide) ?_
      have hs : (rKept (reps n bt rk wt cl cc od) (nI k)) = (nI (rp1 k)) := by unfold rKept; rw [if_pos hx0, nI_clamp (by omega), hv2 k hk]
      exact wE_iret ((n, bt, rk, wt, cl, cc, su, ow, sc, od), (true, g1, rp1, (reps n bt rk wt cl cc od).length)) hx hb hr hlocks d_Y_kept_27 hS hP ⟨rfl, (fun _ => ⟨hv, rfl⟩)⟩ (by rw [hs])
set_option maxHeartbeats 4000000 in
set_option maxRecDepth 100000 in
theorem c_Y_left (l : Launch) (sz : Nat) (x y : Int32) (hg : gdA (n, bt, rk, wt, cl, cc, su, ow, sc, od)) (hc : okC (n, bt, rk, wt, cl, cc, su, ow, sc, od) kn rp rc) : Met l y_Y_left w_Y_left (k2_rm 4 96) (wr_Pc D clX (wY h cI cZ n bt.testBit rk wt cl cc ow su sc od kn ke rp rc) [(cI, .int), (cZ, .boolean)] sz [.ref (h 0), .int x, .int y]) (wE_Q D clX (wY h cI cZ n bt.testBit rk wt cl cc ow su sc od kn ke rp rc) (σ := stA × stD) (wYt h cI cZ) (fun _ => some (.int (rLeft n (reps n bt rk wt cl cc od) x y))) (fun u => u.1 = (n, bt, rk, wt, cl, cc, su, ow, sc, od) ∧ ocY u) sz) 0 0 (va_A (wY h cI cZ n bt.testBit rk wt cl cc ow su sc od kn ke rp rc) sz) := by
  refine wE_met (by decide) rfl (Nat.le_of_ble_eq_true rfl) rfl ?_
  intro p e s m below meth c ls hx hb hr hml hown hts hlocks hP hK hD hS hA hl
  have hts : ∀ w ∈ tbl, w.before _ s = true := fun w h => hts w (List.mem_cons_of_mem _ h)
  have hown : s.vm.findClass RY = some m.cls := hown
  have hl : lv_has ls 5 [(0, .ref (h 0)), (1, .int x), (2, .int y)] := hl
  obtain ⟨hn, hbt, hrk, hwt, hwp, hcc, hcl, hsc, hsa, hsu, ho⟩ := id hg
  have hlen : (reps n bt rk wt cl cc od).length ≤ 462 := rep_len hn (Nat.le_refl _) hrk hwp
  refine lv_aload_n hx hb d_Y_left_0 rfl (lv_at hl 0 rfl) ?_
  refine wE_V (As := []) (rest := []) ⟨hx, hb, hml, hown, hts⟩ (c_Y_work l _ hg hc) (cwV 0 hts g_Y_77 rfl rfl rfl (by decide +kernel) ⟨Nat.le_of_ble_eq_true rfl, Nat.le_of_ble_eq_true rfl⟩) hK hP hD hS hA 0 rfl rfl rfl hl.1 rfl (Nat.le_of_ble_eq_true rfl) d_Y_left_1 ⟨Nat.zero_le _, Nat.zero_le _⟩ (fun _ => rfl) (fun v H locs hv hP hD hS => ?_)
  obtain ⟨g1, rp1⟩ := v
  have hv : isArr rp1 (reps n bt rk wt cl cc od) := hv
  have hv2 : ∀ i, i < (reps n bt rk wt cl cc od).length → rp1 i = (reps n bt rk wt cl cc od).getD i 0 := hv
  have hP : va_P D clX (wY h cI cZ n bt.testBit rk wt cl cc ow su sc od true g1 rp1 ((reps n bt rk wt cl cc od).length)) H := hP
  have hD : va_D _ (wY h cI cZ n bt.testBit rk wt cl cc ow su sc od true g1 rp1 ((reps n bt rk wt cl cc od).length)) := hD
  refine lv_iload_n hx hb d_Y_left_4 rfl (lv_at hl 1 rfl) ?_
  refine lv_if_lt (tgt := 20) hx hb d_Y_left_5 (by decide) (fun c5 => ?_) (fun c5 => ?_)
  · refine lv_bipush (v := (-2)) hx hb d_Y_left_20 (by decide) ?_
    have hs : (rLeft n (reps n bt rk wt cl cc od) x y) = (-2) := by unfold rLeft; rw [if_neg (fun q => (show ¬ okS (reps n bt rk wt cl cc od).length x = true by unfold okS; rw [decide_eq_true c5, Bool.not_true, Bool.false_and]; decide) q.1)]
    exact wE_iret ((n, bt, rk, wt, cl, cc, su, ow, sc, od), (true, g1, rp1, (reps n bt rk wt cl cc od).length)) hx hb hr hlocks d_Y_left_22 hS hP ⟨rfl, (fun _ => ⟨hv, rfl⟩)⟩ (by rw [hs])
  · refine lv_iload_n hx hb d_Y_left_8 rfl (lv_at hl 1 rfl) ?_
    refine lv_aload_n hx hb d_Y_left_9 rfl (lv_at hl 0 rfl) ?_
    refine va_get (D := D) (ci := 1) (v := .int (nI ((reps n bt rk wt cl cc od).length))) (C := RY) (T := TY) (N := 14) hx hb hts inY hown hK hP 0 rfl rfl 13 (by decide) (hts _ f_Y_74) (fun _ h9 => h9) rfl d_Y_left_10 ?_
    refine lv_icmp_ge (tgt := 20) hx hb d_Y_left_13 (by decide) (fun c13 => ?_) (fun c13 => ?_)
    · refine lv_bipush (v := (-2)) hx hb d_Y_left_20 (by decide) ?_
      have hs : (rLeft n (reps n bt rk wt cl cc od) x y) = (-2) := by unfold rLeft; rw [if_neg (fun q => (show ¬ okS (reps n bt rk wt cl cc od).length x = true by unfold okS; rw [decide_eq_true c13, Bool.not_true, Bool.and_false]; decide) q.1)]
      exact wE_iret ((n, bt, rk, wt, cl, cc, su, ow, sc, od), (true, g1, rp1, (reps n bt rk wt cl cc od).length)) hx hb hr hlocks d_Y_left_22 hS hP ⟨rfl, (fun _ => ⟨hv, rfl⟩)⟩ (by rw [hs])
    · refine lv_iload_n hx hb d_Y_left_16 rfl (lv_at hl 2 rfl) ?_
      refine lv_if_ge (tgt := 23) hx hb d_Y_left_17 (by decide) (fun c17 => ?_) (fun c17 => ?_)
      · have hx0 := (show okS (reps n bt rk wt cl cc od).length x = true by unfold okS; rw [decide_eq_false c5, decide_eq_false c13]; rfl)
        obtain ⟨k, hk, ek⟩ := okS_of (by omega) hx0
        subst ek
        obtain ⟨b, hb9, eb⟩ := nI_of (fun q => absurd c17 (Int32.not_le.mpr q))
        subst eb
        have hrp1 : rp1 k < 2 ^ 31 := by rw [hv2 k hk]; exact Nat.lt_trans (rep_lt hn hk) (by decide)
        have hlf : rLeft n (reps n bt rk wt cl cc od) (nI k) (nI b) = oI (nthF (fun j => !((reps n bt rk wt cl cc od).getD k 0).testBit j) n 0 b) := by unfold rLeft; rw [if_pos ⟨hx0, nI_pos hb9⟩, nI_clamp (show k < 2 ^ 31 by omega), nI_clamp hb9]
        refine lv_iload_n hx hb d_Y_left_23 rfl (lv_at hl 2 rfl) ?_
        refine rd_top (z := nI b) (rfl) ?_
        refine lv_istore_n (lv' := [(3, .int (nI b)), (0, .ref (h 0)), (1, .int (nI k)), (2, .int (nI b))]) hx hb d_Y_left_24 rfl hl (by decide) rfl (fun ls hl => ?_)
        refine lv_iconst (v := 0) hx hb d_Y_left_25 (by decide) ?_
        refine lv_istore (lv' := [(4, .int 0), (3, .int (nI b)), (0, .ref (h 0)), (1, .int (nI k)), (2, .int (nI b))]) hx hb d_Y_left_26 hl (by decide) rfl (fun ls hl => ?_)
        refine wr_loop (nL := 5) (σ := Nat) (n) (fun i x => [(0, .ref (h 0)), (1, .int (nI k)), (3, .int (nI x)), (4, .int (nI i))]) (fun i x => wY h cI cZ n bt.testBit rk wt cl cc ow su sc od true g1 rp1 ((reps n bt rk wt cl cc od).length)) (fun i x => x < 2 ^ 31 ∧ nthF (fun j => !((reps n bt rk wt cl cc od).getD k 0).testBit j) n 0 b = nthF (fun j => !((reps n bt rk wt cl cc od).getD k 0).testBit j) (n - i) i x) ?_ 0 b ls _ _ (Nat.zero_le _) (⟨hb9, rfl⟩) (lv_sub hl [2, 3, 1, 0] rfl) hP hD hS
        intro i x ls H locs hi hI hl hP hD hS ih
        obtain ⟨hxb, hI⟩ : x < 2 ^ 31 ∧ nthF (fun j => !((reps n bt rk wt cl cc od).getD k 0).testBit j) n 0 b = nthF (fun j => !((reps n bt rk wt cl cc od).getD k 0).testBit j) (n - i) i x := hI
        have hl : lv_has ls 5 [(0, .ref (h 0)), (1, .int (nI k)), (3, .int (nI x)), (4, .int (nI i))] := hl
        have hP : va_P D clX (wY h cI cZ n bt.testBit rk wt cl cc ow su sc od true g1 rp1 ((reps n bt rk wt cl cc od).length)) H := hP
        have hD : va_D _ (wY h cI cZ n bt.testBit rk wt cl cc ow su sc od true g1 rp1 ((reps n bt rk wt cl cc od).length)) := hD
        refine lv_iload hx hb d_Y_left_28 (lv_at hl 3 rfl) ?_
        refine lv_aload_n hx hb d_Y_left_30 rfl (lv_at hl 0 rfl) ?_
        refine va_get (D := D) (ci := 1) (v := .int (nI n)) (C := RY) (T := TY) (N := 14) hx hb hts inY hown hK hP 0 rfl rfl 0 (by decide) (hts _ f_Y_35) (fun _ h9 => h9) rfl d_Y_left_31 ?_
        refine lv_icmp_ge (tgt := 70) hx hb d_Y_left_34 (by decide) (fun c34 => ?_) (fun c34 => ?_)
        · have hN : i = n := lp_ge hi (by omega) c34
          refine lv_bipush (v := (-2)) hx hb d_Y_left_70 (by decide) ?_
          have hs : (rLeft n (reps n bt rk wt cl cc od) (nI k) (nI b)) = (-2) := by rw [hlf, hI, hN, Nat.sub_self]; rfl
          exact wE_iret ((n, bt, rk, wt, cl, cc, su, ow, sc, od), (true, g1, rp1, (reps n bt rk wt cl cc od).length)) hx hb hr hlocks d_Y_left_72 hS hP ⟨rfl, (fun _ => ⟨hv, rfl⟩)⟩ (by rw [hs])
        · have hlt : i < n := lp_lt hi (by omega) c34
          refine lv_aload_n hx hb d_Y_left_37 rfl (lv_at hl 0 rfl) ?_
          refine va_get (D := D) (ci := 1) (v := .ref (h 8)) (C := RY) (T := TY) (N := 14) hx hb hts inY hown hK hP 0 rfl rfl 12 (by decide) (hts _ f_Y_32) (fun _ h9 => h9) rfl d_Y_left_38 ?_
          refine lv_iload_n hx hb d_Y_left_41 rfl (lv_at hl 1 rfl) ?_
          refine va_iald hx hb hK hP 8 0 rfl rfl (vp_in_nI (show k < 2048 by omega) (by decide)) d_Y_left_42 ?_
          refine rd_top (z := nI (rp1 k)) (ar_nI rp1 (by omega)) ?_
          refine lv_iload hx hb d_Y_left_43 (lv_at hl 3 rfl) ?_
          refine rd_S (As := [.int (nI (rp1 k)), .int (nI i)]) (rest := []) ⟨hx, hb, hml, hown, hts⟩ (c_Y_has l (rp1 k) i hrp1 (by omega)) (cwS 2 hts g_Y_60 rfl rfl rfl (by decide +kernel) ⟨Nat.le_of_ble_eq_true rfl, Nat.le_of_ble_eq_true rfl⟩) rfl hl.1 rfl (Nat.le_of_ble_eq_true rfl) d_Y_left_45 ⟨Nat.zero_le _, Nat.zero_le _⟩ ?_
          refine lv_if_eq (tgt := 54) hx hb d_Y_left_48 (by decide) (fun c48 => ?_) (fun c48 => ?_)
          · refine lv_iload_n hx hb d_Y_left_54 rfl (lv_at hl 2 rfl) ?_
            refine lv_if_ne (tgt := 61) hx hb d_Y_left_55 (by decide) (fun c55 => ?_) (fun c55 => ?_)
            · refine lv_iinc (v := (nI (x - 1))) (lv' := [(3, .int (nI (x - 1))), (0, .ref (h 0)), (1, .int (nI k)), (4, .int (nI i))]) hx hb d_Y_left_61 hl (k := 2) rfl (sb_m1 (Nat.pos_of_ne_zero (fun q => c55 (by rw [q]; rfl)))) (by decide) rfl (fun ls hl => ?_)
              refine lv_iinc (v := (nI (i + 1))) (lv' := [(4, .int (nI (i + 1))), (3, .int (nI (x - 1))), (0, .ref (h 0)), (1, .int (nI k))]) hx hb d_Y_left_64 hl (k := 3) rfl (nI_1 i) (by decide) rfl (fun ls hl => ?_)
              refine lv_goto (tgt := 28) hx hb d_Y_left_67 (by decide) ?_
              exact ih hlt (x - 1) ls _ _ (⟨by omega, by rw [hI, show n - i = (n - (i + 1)) + 1 by omega, nthF, if_pos (by rw [← hv2 k hk, bI_0.mp c48]; rfl), if_neg (fun q => c55 (by rw [q]; rfl))]⟩) (lv_sub hl [2, 3, 1, 0] rfl) hP hD hS
            · refine lv_iload hx hb d_Y_left_58 (lv_at hl 3 rfl) ?_
              have hs : (rLeft n (reps n bt rk wt cl cc od) (nI k) (nI b)) = (nI i) := by rw [hlf, hI, show n - i = (n - (i + 1)) + 1 by omega, nthF, if_pos (by rw [← hv2 k hk, bI_0.mp c48]; rfl), if_pos ((nI_eq (b := 0) hxb (by decide)).mp c55)]; rfl
              exact wE_iret ((n, bt, rk, wt, cl, cc, su, ow, sc, od), (true, g1, rp1, (reps n bt rk wt cl cc od).length)) hx hb hr hlocks d_Y_left_60 hS hP ⟨rfl, (fun _ => ⟨hv, rfl⟩)⟩ (by rw [hs])
          · refine lv_goto (tgt := 64) hx hb d_Y_left_51 (by decide) ?_
            refine lv_iinc (v := (nI (i + 1))) (lv' := [(4, .int (nI (i + 1))), (0, .ref (h 0)), (1, .int (nI k)), (3, .int (nI x))]) hx hb d_Y_left_64 hl (k := 3) rfl (nI_1 i) (by decide) rfl (fun ls hl => ?_)
            refine lv_goto (tgt := 28) hx hb d_Y_left_67 (by decide) ?_
            exact ih hlt x ls _ _ (⟨hxb, by rw [hI, show n - i = (n - (i + 1)) + 1 by omega, nthF, if_neg (by rw [← hv2 k hk, show (rp1 k).testBit i = true by cases hq : (rp1 k).testBit i; exact absurd (bI_0.mpr hq) c48; rfl]; decide)]⟩) (lv_sub hl [1, 2, 3, 0] rfl) hP hD hS
      · refine lv_bipush (v := (-2)) hx hb d_Y_left_20 (by decide) ?_
        have hs : (rLeft n (reps n bt rk wt cl cc od) x y) = (-2) := by unfold rLeft; rw [if_neg (fun q => q.2 (Int32.not_le.mp c17))]
        exact wE_iret ((n, bt, rk, wt, cl, cc, su, ow, sc, od), (true, g1, rp1, (reps n bt rk wt cl cc od).length)) hx hb hr hlocks d_Y_left_22 hS hP ⟨rfl, (fun _ => ⟨hv, rfl⟩)⟩ (by rw [hs])
set_option maxHeartbeats 4000000 in
set_option maxRecDepth 100000 in
theorem c_Y_truth (l : Launch) (sz : Nat) (x : Int32) (hg : gdA (n, bt, rk, wt, cl, cc, su, ow, sc, od)) (hc : okC (n, bt, rk, wt, cl, cc, su, ow, sc, od) kn rp rc) : Met l y_Y_truth w_Y_truth (k2_rm 4 96) (wr_Pc D clX (wY h cI cZ n bt.testBit rk wt cl cc ow su sc od kn ke rp rc) [(cI, .int), (cZ, .boolean)] sz [.ref (h 0), .int x]) (wE_Q D clX (wY h cI cZ n bt.testBit rk wt cl cc ow su sc od kn ke rp rc) (σ := stA × stD) (wYt h cI cZ) (fun _ => some (.int (rTruth su ow sc (reps n bt rk wt cl cc od) x))) (fun u => u.1 = (n, bt, rk, wt, cl, cc, su, ow, sc, od) ∧ ocY u) sz) 0 0 (va_A (wY h cI cZ n bt.testBit rk wt cl cc ow su sc od kn ke rp rc) sz) := by
  refine wE_met (by decide) rfl (Nat.le_of_ble_eq_true rfl) rfl ?_
  intro p e s m below meth c ls hx hb hr hml hown hts hlocks hP hK hD hS hA hl
  have hts : ∀ w ∈ tbl, w.before _ s = true := fun w h => hts w (List.mem_cons_of_mem _ h)
  have hown : s.vm.findClass RY = some m.cls := hown
  have hl : lv_has ls 6 [(0, .ref (h 0)), (1, .int x)] := hl
  obtain ⟨hn, hbt, hrk, hwt, hwp, hcc, hcl, hsc, hsa, hsu, ho⟩ := id hg
  have hlen : (reps n bt rk wt cl cc od).length ≤ 462 := rep_len hn (Nat.le_refl _) hrk hwp
  refine lv_iload_n hx hb d_Y_truth_0 rfl (lv_at hl 1 rfl) ?_
  refine lv_if_lt (tgt := 10) hx hb d_Y_truth_1 (by decide) (fun c1 => ?_) (fun c1 => ?_)
  · refine lv_iconst (v := (-1)) hx hb d_Y_truth_10 (by decide) ?_
    have hs : (rTruth su ow sc (reps n bt rk wt cl cc od) x) = (-1) := by unfold rTruth; rw [if_neg (show ¬ okA x = true by unfold okA; rw [decide_eq_true c1, Bool.not_true, Bool.false_and]; decide)]
    exact wE_iret ((n, bt, rk, wt, cl, cc, su, ow, sc, od), (kn, ke, rp, rc)) hx hb hr hlocks d_Y_truth_11 hS hP ⟨rfl, hc⟩ (by rw [hs])
  · refine lv_iload_n hx hb d_Y_truth_4 rfl (lv_at hl 1 rfl) ?_
    refine lv_bipush (v := 8) hx hb d_Y_truth_5 (by decide) ?_
    refine lv_icmp_lt (tgt := 12) hx hb d_Y_truth_7 (by decide) (fun c7 => ?_) (fun c7 => ?_)
    · have hx0 := (show okA x = true by unfold okA; rw [decide_eq_false c1, decide_eq_false (Int32.not_le.mpr c7)]; rfl)
      obtain ⟨k, hk, ek⟩ := okA_of hx0
      subst ek
      refine lv_aload_n hx hb d_Y_truth_12 rfl (lv_at hl 0 rfl) ?_
      refine wE_V (As := []) (rest := []) ⟨hx, hb, hml, hown, hts⟩ (c_Y_work l _ hg hc) (cwV 0 hts g_Y_77 rfl rfl rfl (by decide +kernel) ⟨Nat.le_of_ble_eq_true rfl, Nat.le_of_ble_eq_true rfl⟩) hK hP hD hS hA 0 rfl rfl rfl hl.1 rfl (Nat.le_of_ble_eq_true rfl) d_Y_truth_13 ⟨Nat.zero_le _, Nat.zero_le _⟩ (fun _ => rfl) (fun v H locs hv hP hD hS => ?_)
      obtain ⟨g1, rp1⟩ := v
      have hv : isArr rp1 (reps n bt rk wt cl cc od) := hv
      have hv2 : ∀ i, i < (reps n bt rk wt cl cc od).length → rp1 i = (reps n bt rk wt cl cc od).getD i 0 := hv
      have hP : va_P D clX (wY h cI cZ n bt.testBit rk wt cl cc ow su sc od true g1 rp1 ((reps n bt rk wt cl cc od).length)) H := hP
      have hD : va_D _ (wY h cI cZ n bt.testBit rk wt cl cc ow su sc od true g1 rp1 ((reps n bt rk wt cl cc od).length)) := hD
      refine lv_iconst (v := 0) hx hb d_Y_truth_16 (by decide) ?_
      refine lv_istore_n (lv' := [(2, .int 0), (0, .ref (h 0)), (1, .int (nI k))]) hx hb d_Y_truth_17 rfl hl (by decide) rfl (fun ls hl => ?_)
      refine lv_iconst (v := 0) hx hb d_Y_truth_18 (by decide) ?_
      refine lv_istore_n (lv' := [(3, .int 0), (2, .int 0), (0, .ref (h 0)), (1, .int (nI k))]) hx hb d_Y_truth_19 rfl hl (by decide) rfl (fun ls hl => ?_)
      refine wr_loop (nL := 6) (σ := Nat) ((reps n bt rk wt cl cc od).length) (fun i x => [(0, .ref (h 0)), (1, .int (nI k)), (2, .int (nI x)), (3, .int (nI i))]) (fun i x => wY h cI cZ n bt.testBit rk wt cl cc ow su sc od true g1 rp1 ((reps n bt rk wt cl cc od).length)) (fun i x => x = cntB (fun r => holX ow su sc k ((reps n bt rk wt cl cc od).getD r 0)) i) ?_ 0 0 ls _ _ (Nat.zero_le _) (rfl) (lv_sub hl [2, 3, 1, 0] rfl) hP hD hS
      intro i x ls H locs hi hI hl hP hD hS ih
      have hIo : x = cntB (fun r => holX ow su sc k ((reps n bt rk wt cl cc od).getD r 0)) i := hI
      have ih0 := ih
      have hl : lv_has ls 6 [(0, .ref (h 0)), (1, .int (nI k)), (2, .int (nI x)), (3, .int (nI i))] := hl
      have hP : va_P D clX (wY h cI cZ n bt.testBit rk wt cl cc ow su sc od true g1 rp1 ((reps n bt rk wt cl cc od).length)) H := hP
      have hD : va_D _ (wY h cI cZ n bt.testBit rk wt cl cc ow su sc od true g1 rp1 ((reps n bt rk wt cl cc od).length)) := hD
      refine lv_iload_n hx hb d_Y_truth_20 rfl (lv_at hl 3 rfl) ?_
      refine lv_aload_n hx hb d_Y_truth_21 rfl (lv_at hl 0 rfl) ?_
      refine va_get (D := D) (ci := 1) (v := .int (nI ((reps n bt rk wt cl cc od).length))) (C := RY) (T := TY) (N := 14) hx hb hts inY hown hK hP 0 rfl rfl 13 (by decide) (hts _ f_Y_74) (fun _ h9 => h9) rfl d_Y_truth_22 ?_
      refine lv_icmp_ge (tgt := 110) hx hb d_Y_truth_25 (by decide) (fun c25 => ?_) (fun c25 => ?_)
      · have hN : i = (reps n bt rk wt cl cc od).length := lp_ge hi (by omega) c25
        refine lv_aload_n hx hb d_Y_truth_110 rfl (lv_at hl 0 rfl) ?_
        refine lv_iload_n hx hb d_Y_truth_111 rfl (lv_at hl 2 rfl) ?_
        refine rd_V (As := [.int (nI x)]) (rest := []) ⟨hx, hb, hml, hown, hts⟩ (c_Y_told l x (by have := cntB_le (P := (fun r => holX ow su sc k ((reps n bt rk wt cl cc od).getD r 0))) (n := i); omega) (by omega)) (cwV 1 hts g_Y_80 rfl rfl rfl (by decide +kernel) ⟨Nat.le_of_ble_eq_true rfl, Nat.le_of_ble_eq_true rfl⟩) hK hP 0 rfl rfl rfl hl.1 rfl (Nat.le_of_ble_eq_true rfl) d_Y_truth_112 ⟨Nat.zero_le _, Nat.zero_le _⟩ ?_
        have hs : (rTruth su ow sc (reps n bt rk wt cl cc od) (nI k)) = (vdt (reps n bt rk wt cl cc od).length x) := by unfold rTruth; rw [if_pos hx0, nI_clamp (show k < 2 ^ 31 by omega), hIo, hN]
        exact wE_iret ((n, bt, rk, wt, cl, cc, su, ow, sc, od), (true, g1, rp1, (reps n bt rk wt cl cc od).length)) hx hb hr hlocks d_Y_truth_115 hS hP ⟨rfl, (fun _ => ⟨hv, rfl⟩)⟩ (by rw [hs])
      · have hlt : i < (reps n bt rk wt cl cc od).length := lp_lt hi (by omega) c25
        refine lv_iconst (v := 0) hx hb d_Y_truth_28 (by decide) ?_
        refine rd_top (z := bI false) (rfl) ?_
        refine lv_istore (lv' := [(4, .int (bI false)), (0, .ref (h 0)), (1, .int (nI k)), (2, .int (nI x)), (3, .int (nI i))]) hx hb d_Y_truth_29 hl (by decide) rfl (fun ls hl => ?_)
        refine lv_iconst (v := 0) hx hb d_Y_truth_31 (by decide) ?_
        refine lv_istore (lv' := [(5, .int 0), (4, .int (bI false)), (0, .ref (h 0)), (1, .int (nI k)), (2, .int (nI x)), (3, .int (nI i))]) hx hb d_Y_truth_32 hl (by decide) rfl (fun ls hl => ?_)
        refine wr_loop (nL := 6) (σ := Bool) (sc) (fun j y => [(0, .ref (h 0)), (1, .int (nI k)), (2, .int (nI x)), (3, .int (nI i)), (4, .int (bI y)), (5, .int (nI j))]) (fun j y => wY h cI cZ n bt.testBit rk wt cl cc ow su sc od true g1 rp1 ((reps n bt rk wt cl cc od).length)) (fun j y => y = anyB (fun q => decide (ow q = k) && sp_sub (su q) (rp1 i)) j) ?_ 0 false ls _ _ (Nat.zero_le _) (rfl) (lv_sub hl [2, 3, 4, 5, 1, 0] rfl) hP hD hS
        intro j y ls H locs hi hI hl hP hD hS ih
        have hI : y = anyB (fun q => decide (ow q = k) && sp_sub (su q) (rp1 i)) j := hI
        have hl : lv_has ls 6 [(0, .ref (h 0)), (1, .int (nI k)), (2, .int (nI x)), (3, .int (nI i)), (4, .int (bI y)), (5, .int (nI j))] := hl
        have hP : va_P D clX (wY h cI cZ n bt.testBit rk wt cl cc ow su sc od true g1 rp1 ((reps n bt rk wt cl cc od).length)) H := hP
        have hD : va_D _ (wY h cI cZ n bt.testBit rk wt cl cc ow su sc od true g1 rp1 ((reps n bt rk wt cl cc od).length)) := hD
        refine lv_iload hx hb d_Y_truth_34 (lv_at hl 5 rfl) ?_
        refine lv_aload_n hx hb d_Y_truth_36 rfl (lv_at hl 0 rfl) ?_
        refine va_get (D := D) (ci := 1) (v := .int (nI sc)) (C := RY) (T := TY) (N := 14) hx hb hts inY hown hK hP 0 rfl rfl 8 (by decide) (hts _ f_Y_54) (fun _ h9 => h9) rfl d_Y_truth_37 ?_
        refine lv_icmp_ge (tgt := 91) hx hb d_Y_truth_40 (by decide) (fun c40 => ?_) (fun c40 => ?_)
        · have hjN : j = sc := lp_ge hi (by omega) c40
          refine lv_iload_n hx hb d_Y_truth_91 rfl (lv_at hl 2 rfl) ?_
          refine lv_iload hx hb d_Y_truth_92 (lv_at hl 4 rfl) ?_
          refine lv_if_eq (tgt := 101) hx hb d_Y_truth_94 (by decide) (fun c94 => ?_) (fun c94 => ?_)
          · refine lv_iconst (v := 0) hx hb d_Y_truth_101 (by decide) ?_
            refine lv_iadd hx hb d_Y_truth_102 ?_
            refine rd_top (z := nI x) (Int32.add_zero _) ?_
            refine lv_istore_n (lv' := [(2, .int (nI x)), (0, .ref (h 0)), (1, .int (nI k)), (3, .int (nI i)), (4, .int (bI y)), (5, .int (nI j))]) hx hb d_Y_truth_103 rfl hl (by decide) rfl (fun ls hl => ?_)
            refine lv_iinc (v := (nI (i + 1))) (lv' := [(3, .int (nI (i + 1))), (2, .int (nI x)), (0, .ref (h 0)), (1, .int (nI k)), (4, .int (bI y)), (5, .int (nI j))]) hx hb d_Y_truth_104 hl (k := 3) rfl (nI_1 i) (by decide) rfl (fun ls hl => ?_)
            refine lv_goto (tgt := 20) hx hb d_Y_truth_107 (by decide) ?_
            exact ih0 hlt x ls _ _ (cnt_f hIo (by show holX ow su sc k ((reps n bt rk wt cl cc od).getD i 0) = false; rw [← (show anyB (fun q => decide (ow q = k) && sp_sub (su q) (rp1 i)) sc = holX ow su sc k ((reps n bt rk wt cl cc od).getD i 0) by rw [← hv2 i hlt]; rfl), ← hjN, ← hI]; exact bI_0.mp c94)) (lv_sub hl [2, 3, 1, 0] rfl) hP hD hS
          · refine lv_iconst (v := 1) hx hb d_Y_truth_97 (by decide) ?_
            refine lv_goto (tgt := 102) hx hb d_Y_truth_98 (by decide) ?_
            refine lv_iadd hx hb d_Y_truth_102 ?_
            refine rd_top (z := nI (x + 1)) (nI_1 x) ?_
            refine lv_istore_n (lv' := [(2, .int (nI (x + 1))), (0, .ref (h 0)), (1, .int (nI k)), (3, .int (nI i)), (4, .int (bI y)), (5, .int (nI j))]) hx hb d_Y_truth_103 rfl hl (by decide) rfl (fun ls hl => ?_)
            refine lv_iinc (v := (nI (i + 1))) (lv' := [(3, .int (nI (i + 1))), (2, .int (nI (x + 1))), (0, .ref (h 0)), (1, .int (nI k)), (4, .int (bI y)), (5, .int (nI j))]) hx hb d_Y_truth_104 hl (k := 3) rfl (nI_1 i) (by decide) rfl (fun ls hl => ?_)
            refine lv_goto (tgt := 20) hx hb d_Y_truth_107 (by decide) ?_
            exact ih0 hlt (x + 1) ls _ _ (cnt_t hIo (by show holX ow su sc k ((reps n bt rk wt cl cc od).getD i 0) = true; rw [← (show anyB (fun q => decide (ow q = k) && sp_sub (su q) (rp1 i)) sc = holX ow su sc k ((reps n bt rk wt cl cc od).getD i 0) by rw [← hv2 i hlt]; rfl), ← hjN, ← hI]; exact (show y = true by cases hq : y; exact absurd (bI_0.mpr hq) c94; rfl))) (lv_sub hl [2, 3, 1, 0] rfl) hP hD hS
        · have hjl : j < sc := lp_lt hi (by omega) c40
          refine lv_iload hx hb d_Y_truth_43 (lv_at hl 4 rfl) ?_
          refine lv_if_ne (tgt := 78) hx hb d_Y_truth_45 (by decide) (fun c45 => ?_) (fun c45 => ?_)
          · refine lv_iconst (v := 1) hx hb d_Y_truth_78 (by decide) ?_
            refine rd_top (z := bI true) (rfl) ?_
            refine lv_goto (tgt := 83) hx hb d_Y_truth_79 (by decide) ?_
            refine lv_istore (lv' := [(4, .int (bI true)), (0, .ref (h 0)), (1, .int (nI k)), (2, .int (nI x)), (3, .int (nI i)), (5, .int (nI j))]) hx hb d_Y_truth_83 hl (by decide) rfl (fun ls hl => ?_)
            refine lv_iinc (v := (nI (j + 1))) (lv' := [(5, .int (nI (j + 1))), (4, .int (bI true)), (0, .ref (h 0)), (1, .int (nI k)), (2, .int (nI x)), (3, .int (nI i))]) hx hb d_Y_truth_85 hl (k := 5) rfl (nI_1 j) (by decide) rfl (fun ls hl => ?_)
            refine lv_goto (tgt := 34) hx hb d_Y_truth_88 (by decide) ?_
            exact ih hjl true ls _ _ (by show true = anyB (fun q => decide (ow q = k) && sp_sub (su q) (rp1 i)) (j + 1); rw [anyB, ← hI, show y = true by cases hq : y; exact absurd (bI_0.mpr hq) c45; rfl]; rfl) (lv_sub hl [2, 3, 4, 5, 1, 0] rfl) hP hD hS
          · refine lv_aload_n hx hb d_Y_truth_48 rfl (lv_at hl 0 rfl) ?_
            refine va_get (D := D) (ci := 1) (v := .ref (h 5)) (C := RY) (T := TY) (N := 14) hx hb hts inY hown hK hP 0 rfl rfl 6 (by decide) (hts _ f_Y_23) (fun _ h9 => h9) rfl d_Y_truth_49 ?_
            refine lv_iload hx hb d_Y_truth_52 (lv_at hl 5 rfl) ?_
            refine va_iald hx hb hK hP 5 0 rfl rfl (vp_in_nI (show j < 20 by omega) (by decide)) d_Y_truth_54 ?_
            refine rd_top (z := nI (ow j)) (ar_nI ow (by omega)) ?_
            refine lv_iload_n hx hb d_Y_truth_55 rfl (lv_at hl 1 rfl) ?_
            refine lv_icmp_ne (tgt := 82) hx hb d_Y_truth_56 (by decide) (fun c56 => ?_) (fun c56 => ?_)
            · refine lv_iconst (v := 0) hx hb d_Y_truth_82 (by decide) ?_
              refine rd_top (z := bI false) (rfl) ?_
              refine lv_istore (lv' := [(4, .int (bI false)), (0, .ref (h 0)), (1, .int (nI k)), (2, .int (nI x)), (3, .int (nI i)), (5, .int (nI j))]) hx hb d_Y_truth_83 hl (by decide) rfl (fun ls hl => ?_)
              refine lv_iinc (v := (nI (j + 1))) (lv' := [(5, .int (nI (j + 1))), (4, .int (bI false)), (0, .ref (h 0)), (1, .int (nI k)), (2, .int (nI x)), (3, .int (nI i))]) hx hb d_Y_truth_85 hl (k := 5) rfl (nI_1 j) (by decide) rfl (fun ls hl => ?_)
              refine lv_goto (tgt := 34) hx hb d_Y_truth_88 (by decide) ?_
              exact ih hjl false ls _ _ (by show false = anyB (fun q => decide (ow q = k) && sp_sub (su q) (rp1 i)) (j + 1); rw [anyB, ← hI, bI_0.mp c45, decide_eq_false (fun q => c56 (congrArg nI q))]; rfl) (lv_sub hl [2, 3, 4, 5, 1, 0] rfl) hP hD hS
            · refine lv_aload_n hx hb d_Y_truth_59 rfl (lv_at hl 0 rfl) ?_
              refine va_get (D := D) (ci := 1) (v := .ref (h 6)) (C := RY) (T := TY) (N := 14) hx hb hts inY hown hK hP 0 rfl rfl 7 (by decide) (hts _ f_Y_26) (fun _ h9 => h9) rfl d_Y_truth_60 ?_
              refine lv_iload hx hb d_Y_truth_63 (lv_at hl 5 rfl) ?_
              refine va_iald hx hb hK hP 6 0 rfl rfl (vp_in_nI (show j < 20 by omega) (by decide)) d_Y_truth_65 ?_
              refine rd_top (z := nI (su j)) (ar_nI su (by omega)) ?_
              refine lv_aload_n hx hb d_Y_truth_66 rfl (lv_at hl 0 rfl) ?_
              refine va_get (D := D) (ci := 1) (v := .ref (h 8)) (C := RY) (T := TY) (N := 14) hx hb hts inY hown hK hP 0 rfl rfl 12 (by decide) (hts _ f_Y_32) (fun _ h9 => h9) rfl d_Y_truth_67 ?_
              refine lv_iload_n hx hb d_Y_truth_70 rfl (lv_at hl 3 rfl) ?_
              refine va_iald hx hb hK hP 8 0 rfl rfl (vp_in_nI (show i < 2048 by omega) (by decide)) d_Y_truth_71 ?_
              refine rd_top (z := nI (rp1 i)) (ar_nI rp1 (by omega)) ?_
              refine lv_iconst (v := (-1)) hx hb d_Y_truth_72 (by decide) ?_
              refine lv_ixor hx hb d_Y_truth_73 ?_
              refine lv_iand hx hb d_Y_truth_74 ?_
              refine lv_if_ne (tgt := 82) hx hb d_Y_truth_75 (by decide) (fun c75 => ?_) (fun c75 => ?_)
              · refine lv_iconst (v := 0) hx hb d_Y_truth_82 (by decide) ?_
                refine rd_top (z := bI false) (rfl) ?_
                refine lv_istore (lv' := [(4, .int (bI false)), (0, .ref (h 0)), (1, .int (nI k)), (2, .int (nI x)), (3, .int (nI i)), (5, .int (nI j))]) hx hb d_Y_truth_83 hl (by decide) rfl (fun ls hl => ?_)
                refine lv_iinc (v := (nI (j + 1))) (lv' := [(5, .int (nI (j + 1))), (4, .int (bI false)), (0, .ref (h 0)), (1, .int (nI k)), (2, .int (nI x)), (3, .int (nI i))]) hx hb d_Y_truth_85 hl (k := 5) rfl (nI_1 j) (by decide) rfl (fun ls hl => ?_)
                refine lv_goto (tgt := 34) hx hb d_Y_truth_88 (by decide) ?_
                exact ih hjl false ls _ _ (by show false = anyB (fun q => decide (ow q = k) && sp_sub (su q) (rp1 i)) (j + 1); rw [anyB, ← hI, bI_0.mp c45, show sp_sub (su j) (rp1 i) = false by cases hq : sp_sub (su j) (rp1 i); rfl; exact absurd ((bx_part (by have := hsu j; omega)).mpr hq) c75]; simp) (lv_sub hl [2, 3, 4, 5, 1, 0] rfl) hP hD hS
              · refine lv_iconst (v := 1) hx hb d_Y_truth_78 (by decide) ?_
                refine rd_top (z := bI true) (rfl) ?_
                refine lv_goto (tgt := 83) hx hb d_Y_truth_79 (by decide) ?_
                refine lv_istore (lv' := [(4, .int (bI true)), (0, .ref (h 0)), (1, .int (nI k)), (2, .int (nI x)), (3, .int (nI i)), (5, .int (nI j))]) hx hb d_Y_truth_83 hl (by decide) rfl (fun ls hl => ?_)
                refine lv_iinc (v := (nI (j + 1))) (lv' := [(5, .int (nI (j + 1))), (4, .int (bI true)), (0, .ref (h 0)), (1, .int (nI k)), (2, .int (nI x)), (3, .int (nI i))]) hx hb d_Y_truth_85 hl (k := 5) rfl (nI_1 j) (by decide) rfl (fun ls hl => ?_)
                refine lv_goto (tgt := 34) hx hb d_Y_truth_88 (by decide) ?_
                exact ih hjl true ls _ _ (by show true = anyB (fun q => decide (ow q = k) && sp_sub (su q) (rp1 i)) (j + 1); rw [anyB, decide_eq_true ((nI_eq (by have := hsa j; omega) (by omega)).mp c56), (bx_part (by have := hsu j; omega)).mp c75]; simp) (lv_sub hl [2, 3, 4, 5, 1, 0] rfl) hP hD hS
    · refine lv_iconst (v := (-1)) hx hb d_Y_truth_10 (by decide) ?_
      have hs : (rTruth su ow sc (reps n bt rk wt cl cc od) x) = (-1) := by unfold rTruth; rw [if_neg (show ¬ okA x = true by unfold okA; rw [decide_eq_true (Int32.not_lt.mp c7), Bool.not_true, Bool.and_false]; decide)]
      exact wE_iret ((n, bt, rk, wt, cl, cc, su, ow, sc, od), (kn, ke, rp, rc)) hx hb hr hlocks d_Y_truth_11 hS hP ⟨rfl, hc⟩ (by rw [hs])
set_option maxHeartbeats 4000000 in
set_option maxRecDepth 100000 in
theorem c_Y_surely (l : Launch) (sz : Nat) (x : Int32) (hg : gdA (n, bt, rk, wt, cl, cc, su, ow, sc, od)) (hc : okC (n, bt, rk, wt, cl, cc, su, ow, sc, od) kn rp rc) : Met l y_Y_surely w_Y_surely (k2_rm 4 96) (wr_Pc D clX (wY h cI cZ n bt.testBit rk wt cl cc ow su sc od kn ke rp rc) [(cI, .int), (cZ, .boolean)] sz [.ref (h 0), .int x]) (wE_Q D clX (wY h cI cZ n bt.testBit rk wt cl cc ow su sc od kn ke rp rc) (σ := stA × stD) (wYt h cI cZ) (fun _ => some (.int (rSurely n (reps n bt rk wt cl cc od) x))) (fun u => u.1 = (n, bt, rk, wt, cl, cc, su, ow, sc, od) ∧ ocY u) sz) 0 0 (va_A (wY h cI cZ n bt.testBit rk wt cl cc ow su sc od kn ke rp rc) sz) := by
  refine wE_met (by decide) rfl (Nat.le_of_ble_eq_true rfl) rfl ?_
  intro p e s m below meth c ls hx hb hr hml hown hts hlocks hP hK hD hS hA hl
  have hts : ∀ w ∈ tbl, w.before _ s = true := fun w h => hts w (List.mem_cons_of_mem _ h)
  have hown : s.vm.findClass RY = some m.cls := hown
  have hl : lv_has ls 4 [(0, .ref (h 0)), (1, .int x)] := hl
  obtain ⟨hn, hbt, hrk, hwt, hwp, hcc, hcl, hsc, hsa, hsu, ho⟩ := id hg
  have hlen : (reps n bt rk wt cl cc od).length ≤ 462 := rep_len hn (Nat.le_refl _) hrk hwp
  refine lv_aload_n hx hb d_Y_surely_0 rfl (lv_at hl 0 rfl) ?_
  refine lv_iload_n hx hb d_Y_surely_1 rfl (lv_at hl 1 rfl) ?_
  refine rd_V (As := [.int x]) (rest := []) ⟨hx, hb, hml, hown, hts⟩ (c_Y_isStatement l x) (cwV 1 hts g_Y_47 rfl rfl rfl (by decide +kernel) ⟨Nat.le_of_ble_eq_true rfl, Nat.le_of_ble_eq_true rfl⟩) hK hP 0 rfl rfl rfl hl.1 rfl (Nat.le_of_ble_eq_true rfl) d_Y_surely_2 ⟨Nat.zero_le _, Nat.zero_le _⟩ ?_
  refine lv_if_ne (tgt := 10) hx hb d_Y_surely_5 (by decide) (fun c5 => ?_) (fun c5 => ?_)
  · have hx0 := (show okS n x = true by cases hq : okS n x; exact absurd (bI_0.mpr hq) c5; rfl)
    obtain ⟨k, hk, ek⟩ := okS_of (by omega) hx0
    subst ek
    refine lv_aload_n hx hb d_Y_surely_10 rfl (lv_at hl 0 rfl) ?_
    refine wE_V (As := []) (rest := []) ⟨hx, hb, hml, hown, hts⟩ (c_Y_work l _ hg hc) (cwV 0 hts g_Y_77 rfl rfl rfl (by decide +kernel) ⟨Nat.le_of_ble_eq_true rfl, Nat.le_of_ble_eq_true rfl⟩) hK hP hD hS hA 0 rfl rfl rfl hl.1 rfl (Nat.le_of_ble_eq_true rfl) d_Y_surely_11 ⟨Nat.zero_le _, Nat.zero_le _⟩ (fun _ => rfl) (fun v H locs hv hP hD hS => ?_)
    obtain ⟨g1, rp1⟩ := v
    have hv : isArr rp1 (reps n bt rk wt cl cc od) := hv
    have hv2 : ∀ i, i < (reps n bt rk wt cl cc od).length → rp1 i = (reps n bt rk wt cl cc od).getD i 0 := hv
    have hP : va_P D clX (wY h cI cZ n bt.testBit rk wt cl cc ow su sc od true g1 rp1 ((reps n bt rk wt cl cc od).length)) H := hP
    have hD : va_D _ (wY h cI cZ n bt.testBit rk wt cl cc ow su sc od true g1 rp1 ((reps n bt rk wt cl cc od).length)) := hD
    refine lv_iconst (v := 0) hx hb d_Y_surely_14 (by decide) ?_
    refine lv_istore_n (lv' := [(2, .int 0), (0, .ref (h 0)), (1, .int (nI k))]) hx hb d_Y_surely_15 rfl hl (by decide) rfl (fun ls hl => ?_)
    refine lv_iconst (v := 0) hx hb d_Y_surely_16 (by decide) ?_
    refine lv_istore_n (lv' := [(3, .int 0), (2, .int 0), (0, .ref (h 0)), (1, .int (nI k))]) hx hb d_Y_surely_17 rfl hl (by decide) rfl (fun ls hl => ?_)
    refine wr_loop (nL := 4) (σ := Nat) ((reps n bt rk wt cl cc od).length) (fun i x => [(0, .ref (h 0)), (1, .int (nI k)), (2, .int (nI x)), (3, .int (nI i))]) (fun i x => wY h cI cZ n bt.testBit rk wt cl cc ow su sc od true g1 rp1 ((reps n bt rk wt cl cc od).length)) (fun i x => x = cntB (fun r => ((reps n bt rk wt cl cc od).getD r 0).testBit k) i) ?_ 0 0 ls _ _ (Nat.zero_le _) (rfl) (lv_sub hl [2, 3, 1, 0] rfl) hP hD hS
    intro i x ls H locs hi hI hl hP hD hS ih
    have hI : x = cntB (fun r => ((reps n bt rk wt cl cc od).getD r 0).testBit k) i := hI
    have hl : lv_has ls 4 [(0, .ref (h 0)), (1, .int (nI k)), (2, .int (nI x)), (3, .int (nI i))] := hl
    have hP : va_P D clX (wY h cI cZ n bt.testBit rk wt cl cc ow su sc od true g1 rp1 ((reps n bt rk wt cl cc od).length)) H := hP
    have hD : va_D _ (wY h cI cZ n bt.testBit rk wt cl cc ow su sc od true g1 rp1 ((reps n bt rk wt cl cc od).length)) := hD
    refine lv_iload_n hx hb d_Y_surely_18 rfl (lv_at hl 3 rfl) ?_
    refine lv_aload_n hx hb d_Y_surely_19 rfl (lv_at hl 0 rfl) ?_
    refine va_get (D := D) (ci := 1) (v := .int (nI ((reps n bt rk wt cl cc od).length))) (C := RY) (T := TY) (N := 14) hx hb hts inY hown hK hP 0 rfl rfl 13 (by decide) (hts _ f_Y_74) (fun _ h9 => h9) rfl d_Y_surely_20 ?_
    refine lv_icmp_ge (tgt := 53) hx hb d_Y_surely_23 (by decide) (fun c23 => ?_) (fun c23 => ?_)
    · have hN : i = (reps n bt rk wt cl cc od).length := lp_ge hi (by omega) c23
      refine lv_aload_n hx hb d_Y_surely_53 rfl (lv_at hl 0 rfl) ?_
      refine lv_iload_n hx hb d_Y_surely_54 rfl (lv_at hl 2 rfl) ?_
      refine rd_V (As := [.int (nI x)]) (rest := []) ⟨hx, hb, hml, hown, hts⟩ (c_Y_told l x (by have := cntB_le (P := (fun r => ((reps n bt rk wt cl cc od).getD r 0).testBit k)) (n := i); omega) (by omega)) (cwV 1 hts g_Y_80 rfl rfl rfl (by decide +kernel) ⟨Nat.le_of_ble_eq_true rfl, Nat.le_of_ble_eq_true rfl⟩) hK hP 0 rfl rfl rfl hl.1 rfl (Nat.le_of_ble_eq_true rfl) d_Y_surely_55 ⟨Nat.zero_le _, Nat.zero_le _⟩ ?_
      have hs : (rSurely n (reps n bt rk wt cl cc od) (nI k)) = (vdt (reps n bt rk wt cl cc od).length x) := by unfold rSurely; rw [if_pos hx0, nI_clamp (show k < 2 ^ 31 by omega), hI, hN]
      exact wE_iret ((n, bt, rk, wt, cl, cc, su, ow, sc, od), (true, g1, rp1, (reps n bt rk wt cl cc od).length)) hx hb hr hlocks d_Y_surely_58 hS hP ⟨rfl, (fun _ => ⟨hv, rfl⟩)⟩ (by rw [hs])
    · have hlt : i < (reps n bt rk wt cl cc od).length := lp_lt hi (by omega) c23
      refine lv_iload_n hx hb d_Y_surely_26 rfl (lv_at hl 2 rfl) ?_
      refine lv_aload_n hx hb d_Y_surely_27 rfl (lv_at hl 0 rfl) ?_
      refine va_get (D := D) (ci := 1) (v := .ref (h 8)) (C := RY) (T := TY) (N := 14) hx hb hts inY hown hK hP 0 rfl rfl 12 (by decide) (hts _ f_Y_32) (fun _ h9 => h9) rfl d_Y_surely_28 ?_
      refine lv_iload_n hx hb d_Y_surely_31 rfl (lv_at hl 3 rfl) ?_
      refine va_iald hx hb hK hP 8 0 rfl rfl (vp_in_nI (show i < 2048 by omega) (by decide)) d_Y_surely_32 ?_
      refine rd_top (z := nI (rp1 i)) (ar_nI rp1 (by omega)) ?_
      refine lv_iload_n hx hb d_Y_surely_33 rfl (lv_at hl 1 rfl) ?_
      refine rd_S (As := [.int (nI (rp1 i)), .int (nI k)]) (rest := [.int (nI x)]) ⟨hx, hb, hml, hown, hts⟩ (c_Y_has l (rp1 i) k (show rp1 i < 2 ^ 31 by rw [hv2 i hlt]; exact Nat.lt_trans (rep_lt hn hlt) (by decide)) (by omega)) (cwS 2 hts g_Y_60 rfl rfl rfl (by decide +kernel) ⟨Nat.le_of_ble_eq_true rfl, Nat.le_of_ble_eq_true rfl⟩) rfl hl.1 rfl (Nat.le_of_ble_eq_true rfl) d_Y_surely_34 ⟨Nat.zero_le _, Nat.zero_le _⟩ ?_
      refine lv_if_eq (tgt := 44) hx hb d_Y_surely_37 (by decide) (fun c37 => ?_) (fun c37 => ?_)
      · refine lv_iconst (v := 0) hx hb d_Y_surely_44 (by decide) ?_
        refine lv_iadd hx hb d_Y_surely_45 ?_
        refine rd_top (z := nI x) (Int32.add_zero _) ?_
        refine lv_istore_n (lv' := [(2, .int (nI x)), (0, .ref (h 0)), (1, .int (nI k)), (3, .int (nI i))]) hx hb d_Y_surely_46 rfl hl (by decide) rfl (fun ls hl => ?_)
        refine lv_iinc (v := (nI (i + 1))) (lv' := [(3, .int (nI (i + 1))), (2, .int (nI x)), (0, .ref (h 0)), (1, .int (nI k))]) hx hb d_Y_surely_47 hl (k := 3) rfl (nI_1 i) (by decide) rfl (fun ls hl => ?_)
        refine lv_goto (tgt := 18) hx hb d_Y_surely_50 (by decide) ?_
        exact ih hlt x ls _ _ (cnt_f hI (by show ((reps n bt rk wt cl cc od).getD i 0).testBit k = false; rw [← hv2 i hlt]; exact bI_0.mp c37)) (lv_sub hl [2, 3, 1, 0] rfl) hP hD hS
      · refine lv_iconst (v := 1) hx hb d_Y_surely_40 (by decide) ?_
        refine lv_goto (tgt := 45) hx hb d_Y_surely_41 (by decide) ?_
        refine lv_iadd hx hb d_Y_surely_45 ?_
        refine rd_top (z := nI (x + 1)) (nI_1 x) ?_
        refine lv_istore_n (lv' := [(2, .int (nI (x + 1))), (0, .ref (h 0)), (1, .int (nI k)), (3, .int (nI i))]) hx hb d_Y_surely_46 rfl hl (by decide) rfl (fun ls hl => ?_)
        refine lv_iinc (v := (nI (i + 1))) (lv' := [(3, .int (nI (i + 1))), (2, .int (nI (x + 1))), (0, .ref (h 0)), (1, .int (nI k))]) hx hb d_Y_surely_47 hl (k := 3) rfl (nI_1 i) (by decide) rfl (fun ls hl => ?_)
        refine lv_goto (tgt := 18) hx hb d_Y_surely_50 (by decide) ?_
        exact ih hlt (x + 1) ls _ _ (cnt_t hI (by show ((reps n bt rk wt cl cc od).getD i 0).testBit k = true; rw [← hv2 i hlt]; exact (show (rp1 i).testBit k = true by cases hq : (rp1 i).testBit k; exact absurd (bI_0.mpr hq) c37; rfl))) (lv_sub hl [2, 3, 1, 0] rfl) hP hD hS
  · refine lv_iconst (v := (-1)) hx hb d_Y_surely_8 (by decide) ?_
    have hs : (rSurely n (reps n bt rk wt cl cc od) x) = (-1) := by unfold rSurely; rw [if_neg (by rw [bI_0.mp c5]; decide)]
    exact wE_iret ((n, bt, rk, wt, cl, cc, su, ow, sc, od), (kn, ke, rp, rc)) hx hb hr hlocks d_Y_surely_9 hS hP ⟨rfl, hc⟩ (by rw [hs])
set_option maxHeartbeats 4000000 in
set_option maxRecDepth 100000 in
theorem c_Y_better (l : Launch) (x y o : Int32) (hg : gdA (n, bt, rk, wt, cl, cc, su, ow, sc, od)) : Met l y_Y_better w_Y_better (k2_rm 3 73) (rd_Pc D clX (wY h cI cZ n bt.testBit rk wt cl cc ow su sc od kn ke rp rc) [(cI, .int), (cZ, .boolean)] [.ref (h 0), .int x, .int y, .int o]) (k2_QcV (.int (rBetter n bt rk wt x y o))) 0 0 (fun _ => False) := by
  refine rd_met (by decide) rfl (Nat.le_of_ble_eq_true rfl) rfl ?_
  intro p e s m below meth c ls hx hb hr hml hown hts hlocks hP hK hl
  have hts : ∀ w ∈ tbl, w.before _ s = true := fun w h => hts w (List.mem_cons_of_mem _ h)
  have hown : s.vm.findClass RY = some m.cls := hown
  have hl : lv_has ls 5 [(0, .ref (h 0)), (1, .int x), (2, .int y), (3, .int o)] := hl
  obtain ⟨hn, hbt, hrk, hwt, hwp, hcc, hcl, hsc, hsa, hsu, ho⟩ := id hg
  have hlen : (reps n bt rk wt cl cc od).length ≤ 462 := rep_len hn (Nat.le_refl _) hrk hwp
  refine lv_iload_n hx hb d_Y_better_0 rfl (lv_at hl 3 rfl) ?_
  refine lv_if_lt (tgt := 9) hx hb d_Y_better_1 (by decide) (fun c1 => ?_) (fun c1 => ?_)
  · refine lv_iconst (v := (-1)) hx hb d_Y_better_9 (by decide) ?_
    exact rd_iret hx hb hr hlocks d_Y_better_10 (by unfold rBetter; rw [if_neg (show ¬ okO o = true by unfold okO; rw [decide_eq_true c1, Bool.not_true, Bool.false_and]; decide)])
  · refine lv_iload_n hx hb d_Y_better_4 rfl (lv_at hl 3 rfl) ?_
    refine lv_iconst (v := 3) hx hb d_Y_better_5 (by decide) ?_
    refine lv_icmp_le (tgt := 11) hx hb d_Y_better_6 (by decide) (fun c6 => ?_) (fun c6 => ?_)
    · have hx0 := (show okO o = true by unfold okO; rw [decide_eq_false c1, decide_eq_false (Int32.not_lt.mpr c6)]; rfl)
      obtain ⟨k, hk, ek⟩ := okO_of hx0
      subst ek
      refine lv_iconst (v := 1) hx hb d_Y_better_11 (by decide) ?_
      refine lv_aload_n hx hb d_Y_better_12 rfl (lv_at hl 0 rfl) ?_
      refine va_get (D := D) (ci := 1) (v := .int (nI n)) (C := RY) (T := TY) (N := 14) hx hb hts inY hown hK hP 0 rfl rfl 0 (by decide) (hts _ f_Y_35) (fun _ h9 => h9) rfl d_Y_better_13 ?_
      refine lv_ishl hx hb d_Y_better_16 ?_
      refine rd_top (z := nI (2 ^ n)) (bx_shl n (by omega)) ?_
      refine lv_iconst (v := 1) hx hb d_Y_better_17 (by decide) ?_
      refine lv_isub hx hb d_Y_better_18 ?_
      refine rd_top (z := nI (2 ^ n - 1)) (bx_dec (bx_pos n)) ?_
      refine lv_istore (lv' := [(4, .int (nI (2 ^ n - 1))), (0, .ref (h 0)), (1, .int x), (2, .int y), (3, .int (nI k))]) hx hb d_Y_better_19 hl (by decide) rfl (fun ls hl => ?_)
      refine lv_aload_n hx hb d_Y_better_21 rfl (lv_at hl 1 rfl) ?_
      refine lv_iload_n hx hb d_Y_better_22 rfl (lv_at hl 2 rfl) ?_
      refine lv_iload hx hb d_Y_better_23 (lv_at hl 0 rfl) ?_
      refine lv_iand hx hb d_Y_better_25 ?_
      refine rd_top (z := nI (x.toBitVec.toNat % 2 ^ n)) (mskn hn x) ?_
      refine lv_iload_n hx hb d_Y_better_26 rfl (lv_at hl 3 rfl) ?_
      refine lv_iload hx hb d_Y_better_27 (lv_at hl 0 rfl) ?_
      refine lv_iand hx hb d_Y_better_29 ?_
      refine rd_top (z := nI (y.toBitVec.toNat % 2 ^ n)) (mskn hn y) ?_
      refine lv_iload_n hx hb d_Y_better_30 rfl (lv_at hl 4 rfl) ?_
      refine rd_V (As := [.int (nI (x.toBitVec.toNat % 2 ^ n)), .int (nI (y.toBitVec.toNat % 2 ^ n)), .int (nI k)]) (rest := []) ⟨hx, hb, hml, hown, hts⟩ (c_Y_isBetter l (x.toBitVec.toNat % 2 ^ n) (y.toBitVec.toNat % 2 ^ n) k hn hrk hwt (show x.toBitVec.toNat % 2 ^ n < 2 ^ 31 from Nat.lt_of_lt_of_le (Nat.mod_lt _ (bx_pos n)) (Nat.pow_le_pow_right (by decide) (by omega))) (show y.toBitVec.toNat % 2 ^ n < 2 ^ 31 from Nat.lt_of_lt_of_le (Nat.mod_lt _ (bx_pos n)) (Nat.pow_le_pow_right (by decide) (by omega))) hk) (cwV 3 hts g_Y_67 rfl rfl rfl (by decide +kernel) ⟨Nat.le_of_ble_eq_true rfl, Nat.le_of_ble_eq_true rfl⟩) hK hP 0 rfl rfl rfl hl.1 rfl (Nat.le_of_ble_eq_true rfl) d_Y_better_31 ⟨Nat.zero_le _, Nat.zero_le _⟩ ?_
      refine lv_if_eq (tgt := 41) hx hb d_Y_better_34 (by decide) (fun c34 => ?_) (fun c34 => ?_)
      · refine lv_iconst (v := 0) hx hb d_Y_better_41 (by decide) ?_
        exact rd_iret hx hb hr hlocks d_Y_better_42 (by unfold rBetter; rw [if_pos hx0, nI_clamp (show k < 2 ^ 31 by omega), ← bet_eq hn hrk hk, bI_0.mp c34]; rfl)
      · refine lv_iconst (v := 1) hx hb d_Y_better_37 (by decide) ?_
        refine lv_goto (tgt := 42) hx hb d_Y_better_38 (by decide) ?_
        exact rd_iret hx hb hr hlocks d_Y_better_42 (by unfold rBetter; rw [if_pos hx0, nI_clamp (show k < 2 ^ 31 by omega), ← bet_eq hn hrk hk, show betY n bt rk wt (x.toBitVec.toNat % 2 ^ n) (y.toBitVec.toNat % 2 ^ n) k = true by cases hq : betY n bt rk wt (x.toBitVec.toNat % 2 ^ n) (y.toBitVec.toNat % 2 ^ n) k; exact absurd (bI_0.mpr hq) c34; rfl]; rfl)
    · refine lv_iconst (v := (-1)) hx hb d_Y_better_9 (by decide) ?_
      exact rd_iret hx hb hr hlocks d_Y_better_10 (by unfold rBetter; rw [if_neg (show ¬ okO o = true by unfold okO; rw [decide_eq_true (Int32.not_le.mp c6), Bool.not_true, Bool.and_false]; decide)])
end MY5

section MX9
variable {D : va_G} {h : Nat → Nat} {cI cZ : ClassId} {n bt : Nat} {rk wt cl : Nat → Nat} {cc : Nat} {su sa : Nat → Nat} {sc od : Nat} {fr : Bool} {cg : Nat → Bool} {co rp : Nat → Nat} {rc : Nat}
set_option maxHeartbeats 4000000 in
set_option maxRecDepth 100000 in
theorem c_X_find (l : Launch) (sz : Nat)  (hg : gdA (n, bt, rk, wt, cl, cc, su, sa, sc, od)) (hc : okC (n, bt, rk, wt, cl, cc, su, sa, sc, od) fr rp rc) : Met l y_X_find w_X_find (k2_rm 5 108) (wr_Pc D clX (wX h cI cZ n bt rk wt cl cc su sa sc od fr cg co rp rc) [(cI, .int), (cZ, .boolean)] sz [.ref (h 0)]) (wE_Q D clX (wX h cI cZ n bt rk wt cl cc su sa sc od fr cg co rp rc) (σ := stA × stC) (wXt h cI cZ) (fun _ => some (.int (nI (reps n bt rk wt cl cc od).length))) (fun u => u.1 = (n, bt, rk, wt, cl, cc, su, sa, sc, od) ∧ ocX u) sz) 0 0 (va_A (wX h cI cZ n bt rk wt cl cc su sa sc od fr cg co rp rc) sz) := by
  refine wE_met (by decide) rfl (Nat.le_of_ble_eq_true rfl) rfl ?_
  intro p e s m below meth c ls hx hb hr hml hown hts hlocks hP hK hD hS hA hl
  have hts : ∀ w ∈ tbl, w.before _ s = true := fun w h => hts w (List.mem_cons_of_mem _ h)
  have hown : s.vm.findClass RX = some m.cls := hown
  have hl : lv_has ls 1 [(0, .ref (h 0))] := hl
  obtain ⟨hn, hbt, hrk, hwt, hwp, hcc, hcl, hsc, hsa, hsu, ho⟩ := id hg
  have hbt3 : bt < 2 ^ 31 := Nat.lt_of_lt_of_le hbt (Nat.pow_le_pow_right (by decide) (by omega))
  have hlen : (reps n bt rk wt cl cc od).length ≤ 462 := rep_len hn (Nat.le_refl _) hrk hwp
  refine lv_aload_n hx hb d_X_find_0 rfl (lv_at hl 0 rfl) ?_
  refine wE_V (As := []) (rest := []) ⟨hx, hb, hml, hown, hts⟩ (c_X_refresh l _ ⟨hn, hbt, hrk, hwt, hwp, hcc, hcl, ho, hc⟩) (cwV 0 hts g_X_81 rfl rfl rfl (by decide +kernel) ⟨Nat.le_of_ble_eq_true rfl, Nat.le_of_ble_eq_true rfl⟩) hK hP hD hS hA 0 rfl rfl rfl hl.1 rfl (Nat.le_of_ble_eq_true rfl) d_X_find_1 ⟨Nat.zero_le _, Nat.zero_le _⟩ (fun _ => rfl) (fun v H locs hv hP hD hS => ?_)
  obtain ⟨g1, co1, rp1⟩ := v
  have hv : isArr rp1 (reps n bt rk wt cl cc od) := hv
  have hv2 : ∀ i, i < (reps n bt rk wt cl cc od).length → rp1 i = (reps n bt rk wt cl cc od).getD i 0 := hv
  have hP : va_P D clX (wX h cI cZ n bt rk wt cl cc su sa sc od true g1 co1 rp1 ((reps n bt rk wt cl cc od).length)) H := hP
  have hD : va_D _ (wX h cI cZ n bt rk wt cl cc su sa sc od true g1 co1 rp1 ((reps n bt rk wt cl cc od).length)) := hD
  refine lv_aload_n hx hb d_X_find_4 rfl (lv_at hl 0 rfl) ?_
  refine va_get (D := D) (ci := 0) (v := .int (nI ((reps n bt rk wt cl cc od).length))) (C := RX) (T := TX) (N := 15) hx hb hts inX hown hK hP 0 rfl rfl 14 (by decide) (hts _ f_X_55) (fun _ h9 => h9) rfl d_X_find_5 ?_
  have hs : (nI (reps n bt rk wt cl cc od).length) = (nI ((reps n bt rk wt cl cc od).length)) := by rfl
  exact wE_iret ((n, bt, rk, wt, cl, cc, su, sa, sc, od), (true, g1, co1, rp1, (reps n bt rk wt cl cc od).length)) hx hb hr hlocks d_X_find_8 hS hP ⟨rfl, (fun _ => ⟨hv, rfl⟩)⟩ (by rw [hs])
set_option maxHeartbeats 4000000 in
set_option maxRecDepth 100000 in
theorem c_X_kept (l : Launch) (sz : Nat) (x : Int32) (hg : gdA (n, bt, rk, wt, cl, cc, su, sa, sc, od)) (hc : okC (n, bt, rk, wt, cl, cc, su, sa, sc, od) fr rp rc) : Met l y_X_kept w_X_kept (k2_rm 5 108) (wr_Pc D clX (wX h cI cZ n bt rk wt cl cc su sa sc od fr cg co rp rc) [(cI, .int), (cZ, .boolean)] sz [.ref (h 0), .int x]) (wE_Q D clX (wX h cI cZ n bt rk wt cl cc su sa sc od fr cg co rp rc) (σ := stA × stC) (wXt h cI cZ) (fun _ => some (.int (rKept (reps n bt rk wt cl cc od) x))) (fun u => u.1 = (n, bt, rk, wt, cl, cc, su, sa, sc, od) ∧ ocX u) sz) 0 0 (va_A (wX h cI cZ n bt rk wt cl cc su sa sc od fr cg co rp rc) sz) := by
  refine wE_met (by decide) rfl (Nat.le_of_ble_eq_true rfl) rfl ?_
  intro p e s m below meth c ls hx hb hr hml hown hts hlocks hP hK hD hS hA hl
  have hts : ∀ w ∈ tbl, w.before _ s = true := fun w h => hts w (List.mem_cons_of_mem _ h)
  have hown : s.vm.findClass RX = some m.cls := hown
  have hl : lv_has ls 2 [(0, .ref (h 0)), (1, .int x)] := hl
  obtain ⟨hn, hbt, hrk, hwt, hwp, hcc, hcl, hsc, hsa, hsu, ho⟩ := id hg
  have hbt3 : bt < 2 ^ 31 := Nat.lt_of_lt_of_le hbt (Nat.pow_le_pow_right (by decide) (by omega))
  have hlen : (reps n bt rk wt cl cc od).length ≤ 462 := rep_len hn (Nat.le_refl _) hrk hwp
  refine lv_aload_n hx hb d_X_kept_0 rfl (lv_at hl 0 rfl) ?_
  refine wE_V (As := []) (rest := []) ⟨hx, hb, hml, hown, hts⟩ (c_X_refresh l _ ⟨hn, hbt, hrk, hwt, hwp, hcc, hcl, ho, hc⟩) (cwV 0 hts g_X_81 rfl rfl rfl (by decide +kernel) ⟨Nat.le_of_ble_eq_true rfl, Nat.le_of_ble_eq_true rfl⟩) hK hP hD hS hA 0 rfl rfl rfl hl.1 rfl (Nat.le_of_ble_eq_true rfl) d_X_kept_1 ⟨Nat.zero_le _, Nat.zero_le _⟩ (fun _ => rfl) (fun v H locs hv hP hD hS => ?_)
  obtain ⟨g1, co1, rp1⟩ := v
  have hv : isArr rp1 (reps n bt rk wt cl cc od) := hv
  have hv2 : ∀ i, i < (reps n bt rk wt cl cc od).length → rp1 i = (reps n bt rk wt cl cc od).getD i 0 := hv
  have hP : va_P D clX (wX h cI cZ n bt rk wt cl cc su sa sc od true g1 co1 rp1 ((reps n bt rk wt cl cc od).length)) H := hP
  have hD : va_D _ (wX h cI cZ n bt rk wt cl cc su sa sc od true g1 co1 rp1 ((reps n bt rk wt cl cc od).length)) := hD
  refine lv_aload_n hx hb d_X_kept_4 rfl (lv_at hl 0 rfl) ?_
  refine lv_iload_n hx hb d_X_kept_5 rfl (lv_at hl 1 rfl) ?_
  refine rd_V (As := [.int x]) (rest := []) ⟨hx, hb, hml, hown, hts⟩ (c_X_isRepair l x) (cwV 1 hts g_X_84 rfl rfl rfl (by decide +kernel) ⟨Nat.le_of_ble_eq_true rfl, Nat.le_of_ble_eq_true rfl⟩) hK hP 0 rfl rfl rfl hl.1 rfl (Nat.le_of_ble_eq_true rfl) d_X_kept_6 ⟨Nat.zero_le _, Nat.zero_le _⟩ ?_
  refine lv_if_eq (tgt := 21) hx hb d_X_kept_9 (by decide) (fun c9 => ?_) (fun c9 => ?_)
  · refine lv_bipush (v := (-2)) hx hb d_X_kept_21 (by decide) ?_
    have hs : (rKept (reps n bt rk wt cl cc od) x) = (-2) := by unfold rKept; rw [if_neg (by rw [bI_0.mp c9]; decide)]
    exact wE_iret ((n, bt, rk, wt, cl, cc, su, sa, sc, od), (true, g1, co1, rp1, (reps n bt rk wt cl cc od).length)) hx hb hr hlocks d_X_kept_23 hS hP ⟨rfl, (fun _ => ⟨hv, rfl⟩)⟩ (by rw [hs])
  · obtain ⟨k, hk, ek⟩ := okS_of (by omega) (show okS (reps n bt rk wt cl cc od).length x = true by cases hq : okS (reps n bt rk wt cl cc od).length x; exact absurd (bI_0.mpr hq) c9; rfl)
    subst ek
    refine lv_aload_n hx hb d_X_kept_12 rfl (lv_at hl 0 rfl) ?_
    refine va_get (D := D) (ci := 0) (v := .ref (h 8)) (C := RX) (T := TX) (N := 15) hx hb hts inX hown hK hP 0 rfl rfl 13 (by decide) (hts _ f_X_52) (fun _ h9 => h9) rfl d_X_kept_13 ?_
    refine lv_iload_n hx hb d_X_kept_16 rfl (lv_at hl 1 rfl) ?_
    refine va_iald hx hb hK hP 8 0 rfl rfl (vp_in_nI (show k < 462 by omega) (by decide)) d_X_kept_17 ?_
    refine rd_top (z := nI (rp1 k)) (ar_nI rp1 (by omega)) ?_
    refine lv_goto (tgt := 23) hx hb d_X_kept_18 (by decide) ?_
    have hs : (rKept (reps n bt rk wt cl cc od) (nI k)) = (nI (rp1 k)) := by unfold rKept; rw [if_pos (okS_nI (by omega) hk), nI_clamp (by omega), hv2 k hk]
    exact wE_iret ((n, bt, rk, wt, cl, cc, su, sa, sc, od), (true, g1, co1, rp1, (reps n bt rk wt cl cc od).length)) hx hb hr hlocks d_X_kept_23 hS hP ⟨rfl, (fun _ => ⟨hv, rfl⟩)⟩ (by rw [hs])
set_option maxHeartbeats 4000000 in
set_option maxRecDepth 100000 in
theorem c_X_left (l : Launch) (sz : Nat) (x y : Int32) (hg : gdA (n, bt, rk, wt, cl, cc, su, sa, sc, od)) (hc : okC (n, bt, rk, wt, cl, cc, su, sa, sc, od) fr rp rc) : Met l y_X_left w_X_left (k2_rm 5 108) (wr_Pc D clX (wX h cI cZ n bt rk wt cl cc su sa sc od fr cg co rp rc) [(cI, .int), (cZ, .boolean)] sz [.ref (h 0), .int x, .int y]) (wE_Q D clX (wX h cI cZ n bt rk wt cl cc su sa sc od fr cg co rp rc) (σ := stA × stC) (wXt h cI cZ) (fun _ => some (.int (rLeft n (reps n bt rk wt cl cc od) x y))) (fun u => u.1 = (n, bt, rk, wt, cl, cc, su, sa, sc, od) ∧ ocX u) sz) 0 0 (va_A (wX h cI cZ n bt rk wt cl cc su sa sc od fr cg co rp rc) sz) := by
  refine wE_met (by decide) rfl (Nat.le_of_ble_eq_true rfl) rfl ?_
  intro p e s m below meth c ls hx hb hr hml hown hts hlocks hP hK hD hS hA hl
  have hts : ∀ w ∈ tbl, w.before _ s = true := fun w h => hts w (List.mem_cons_of_mem _ h)
  have hown : s.vm.findClass RX = some m.cls := hown
  have hl : lv_has ls 6 [(0, .ref (h 0)), (1, .int x), (2, .int y)] := hl
  obtain ⟨hn, hbt, hrk, hwt, hwp, hcc, hcl, hsc, hsa, hsu, ho⟩ := id hg
  have hbt3 : bt < 2 ^ 31 := Nat.lt_of_lt_of_le hbt (Nat.pow_le_pow_right (by decide) (by omega))
  have hlen : (reps n bt rk wt cl cc od).length ≤ 462 := rep_len hn (Nat.le_refl _) hrk hwp
  refine lv_aload_n hx hb d_X_left_0 rfl (lv_at hl 0 rfl) ?_
  refine wE_V (As := []) (rest := []) ⟨hx, hb, hml, hown, hts⟩ (c_X_refresh l _ ⟨hn, hbt, hrk, hwt, hwp, hcc, hcl, ho, hc⟩) (cwV 0 hts g_X_81 rfl rfl rfl (by decide +kernel) ⟨Nat.le_of_ble_eq_true rfl, Nat.le_of_ble_eq_true rfl⟩) hK hP hD hS hA 0 rfl rfl rfl hl.1 rfl (Nat.le_of_ble_eq_true rfl) d_X_left_1 ⟨Nat.zero_le _, Nat.zero_le _⟩ (fun _ => rfl) (fun v H locs hv hP hD hS => ?_)
  obtain ⟨g1, co1, rp1⟩ := v
  have hv : isArr rp1 (reps n bt rk wt cl cc od) := hv
  have hv2 : ∀ i, i < (reps n bt rk wt cl cc od).length → rp1 i = (reps n bt rk wt cl cc od).getD i 0 := hv
  have hP : va_P D clX (wX h cI cZ n bt rk wt cl cc su sa sc od true g1 co1 rp1 ((reps n bt rk wt cl cc od).length)) H := hP
  have hD : va_D _ (wX h cI cZ n bt rk wt cl cc su sa sc od true g1 co1 rp1 ((reps n bt rk wt cl cc od).length)) := hD
  refine lv_aload_n hx hb d_X_left_4 rfl (lv_at hl 0 rfl) ?_
  refine lv_iload_n hx hb d_X_left_5 rfl (lv_at hl 1 rfl) ?_
  refine rd_V (As := [.int x]) (rest := []) ⟨hx, hb, hml, hown, hts⟩ (c_X_isRepair l x) (cwV 1 hts g_X_84 rfl rfl rfl (by decide +kernel) ⟨Nat.le_of_ble_eq_true rfl, Nat.le_of_ble_eq_true rfl⟩) hK hP 0 rfl rfl rfl hl.1 rfl (Nat.le_of_ble_eq_true rfl) d_X_left_6 ⟨Nat.zero_le _, Nat.zero_le _⟩ ?_
  refine lv_if_eq (tgt := 16) hx hb d_X_left_9 (by decide) (fun c9 => ?_) (fun c9 => ?_)
  · refine lv_bipush (v := (-2)) hx hb d_X_left_16 (by decide) ?_
    have hs : (rLeft n (reps n bt rk wt cl cc od) x y) = (-2) := by unfold rLeft; rw [if_neg (fun q => by rw [bI_0.mp c9] at q; exact absurd q.1 (by decide))]
    exact wE_iret ((n, bt, rk, wt, cl, cc, su, sa, sc, od), (true, g1, co1, rp1, (reps n bt rk wt cl cc od).length)) hx hb hr hlocks d_X_left_18 hS hP ⟨rfl, (fun _ => ⟨hv, rfl⟩)⟩ (by rw [hs])
  · refine lv_iload_n hx hb d_X_left_12 rfl (lv_at hl 2 rfl) ?_
    refine lv_if_ge (tgt := 19) hx hb d_X_left_13 (by decide) (fun c13 => ?_) (fun c13 => ?_)
    · have hx0 := (show okS (reps n bt rk wt cl cc od).length x = true by cases hq : okS (reps n bt rk wt cl cc od).length x; exact absurd (bI_0.mpr hq) c9; rfl)
      obtain ⟨k, hk, ek⟩ := okS_of (by omega) hx0
      subst ek
      obtain ⟨b, hb9, eb⟩ := nI_of (fun q => absurd c13 (Int32.not_le.mpr q))
      subst eb
      have hrp1 : rp1 k < 2 ^ 31 := by rw [hv2 k hk]; exact Nat.lt_trans (rep_lt hn hk) (by decide)
      have hlf : rLeft n (reps n bt rk wt cl cc od) (nI k) (nI b) = oI (nthF (fun j => !((reps n bt rk wt cl cc od).getD k 0).testBit j) n 0 b) := by unfold rLeft; rw [if_pos ⟨hx0, nI_pos hb9⟩, nI_clamp (show k < 2 ^ 31 by omega), nI_clamp hb9]
      refine lv_aload_n hx hb d_X_left_19 rfl (lv_at hl 0 rfl) ?_
      refine va_get (D := D) (ci := 0) (v := .ref (h 8)) (C := RX) (T := TX) (N := 15) hx hb hts inX hown hK hP 0 rfl rfl 13 (by decide) (hts _ f_X_52) (fun _ h9 => h9) rfl d_X_left_20 ?_
      refine lv_iload_n hx hb d_X_left_23 rfl (lv_at hl 1 rfl) ?_
      refine va_iald hx hb hK hP 8 0 rfl rfl (vp_in_nI (show k < 462 by omega) (by decide)) d_X_left_24 ?_
      refine rd_top (z := nI (rp1 k)) (ar_nI rp1 (by omega)) ?_
      refine lv_istore_n (lv' := [(3, .int (nI (rp1 k))), (0, .ref (h 0)), (1, .int (nI k)), (2, .int (nI b))]) hx hb d_X_left_25 rfl hl (by decide) rfl (fun ls hl => ?_)
      refine lv_iconst (v := 0) hx hb d_X_left_26 (by decide) ?_
      refine lv_istore (lv' := [(4, .int 0), (3, .int (nI (rp1 k))), (0, .ref (h 0)), (1, .int (nI k)), (2, .int (nI b))]) hx hb d_X_left_27 hl (by decide) rfl (fun ls hl => ?_)
      refine lv_iconst (v := 0) hx hb d_X_left_29 (by decide) ?_
      refine lv_istore (lv' := [(5, .int 0), (4, .int 0), (3, .int (nI (rp1 k))), (0, .ref (h 0)), (1, .int (nI k)), (2, .int (nI b))]) hx hb d_X_left_30 hl (by decide) rfl (fun ls hl => ?_)
      refine wr_loop (nL := 6) (σ := Nat) (n) (fun i x => [(0, .ref (h 0)), (1, .int (nI k)), (2, .int (nI b)), (3, .int (nI (rp1 k))), (4, .int (nI x)), (5, .int (nI i))]) (fun i x => wX h cI cZ n bt rk wt cl cc su sa sc od true g1 co1 rp1 ((reps n bt rk wt cl cc od).length)) (fun i x => x ≤ b ∧ nthF (fun j => !((reps n bt rk wt cl cc od).getD k 0).testBit j) n 0 b = nthF (fun j => !((reps n bt rk wt cl cc od).getD k 0).testBit j) (n - i) i (b - x)) ?_ 0 0 ls _ _ (Nat.zero_le _) (⟨Nat.zero_le _, rfl⟩) (lv_sub hl [3, 4, 5, 2, 1, 0] rfl) hP hD hS
      intro i x ls H locs hi hI hl hP hD hS ih
      obtain ⟨hxb, hI⟩ : x ≤ b ∧ nthF (fun j => !((reps n bt rk wt cl cc od).getD k 0).testBit j) n 0 b = nthF (fun j => !((reps n bt rk wt cl cc od).getD k 0).testBit j) (n - i) i (b - x) := hI
      have hl : lv_has ls 6 [(0, .ref (h 0)), (1, .int (nI k)), (2, .int (nI b)), (3, .int (nI (rp1 k))), (4, .int (nI x)), (5, .int (nI i))] := hl
      have hP : va_P D clX (wX h cI cZ n bt rk wt cl cc su sa sc od true g1 co1 rp1 ((reps n bt rk wt cl cc od).length)) H := hP
      have hD : va_D _ (wX h cI cZ n bt rk wt cl cc su sa sc od true g1 co1 rp1 ((reps n bt rk wt cl cc od).length)) := hD
      refine lv_iload hx hb d_X_left_32 (lv_at hl 5 rfl) ?_
      refine lv_aload_n hx hb d_X_left_34 rfl (lv_at hl 0 rfl) ?_
      refine va_get (D := D) (ci := 0) (v := .int (nI n)) (C := RX) (T := TX) (N := 15) hx hb hts inX hown hK hP 0 rfl rfl 0 (by decide) (hts _ f_X_9) (fun _ h9 => h9) rfl d_X_left_35 ?_
      refine lv_icmp_ge (tgt := 68) hx hb d_X_left_38 (by decide) (fun c38 => ?_) (fun c38 => ?_)
      · have hN : i = n := lp_ge hi (by omega) c38
        refine lv_bipush (v := (-2)) hx hb d_X_left_68 (by decide) ?_
        have hs : (rLeft n (reps n bt rk wt cl cc od) (nI k) (nI b)) = (-2) := by rw [hlf, hI, hN, Nat.sub_self]; rfl
        exact wE_iret ((n, bt, rk, wt, cl, cc, su, sa, sc, od), (true, g1, co1, rp1, (reps n bt rk wt cl cc od).length)) hx hb hr hlocks d_X_left_70 hS hP ⟨rfl, (fun _ => ⟨hv, rfl⟩)⟩ (by rw [hs])
      · have hlt : i < n := lp_lt hi (by omega) c38
        refine lv_iload_n hx hb d_X_left_41 rfl (lv_at hl 3 rfl) ?_
        refine lv_iconst (v := 1) hx hb d_X_left_42 (by decide) ?_
        refine lv_iload hx hb d_X_left_43 (lv_at hl 5 rfl) ?_
        refine lv_ishl hx hb d_X_left_45 ?_
        refine rd_top (z := nI (2 ^ i)) (bx_shl i (by omega)) ?_
        refine lv_iand hx hb d_X_left_46 ?_
        refine lv_if_ne (tgt := 62) hx hb d_X_left_47 (by decide) (fun c47 => ?_) (fun c47 => ?_)
        · refine lv_iinc (v := (nI (i + 1))) (lv' := [(5, .int (nI (i + 1))), (0, .ref (h 0)), (1, .int (nI k)), (2, .int (nI b)), (3, .int (nI (rp1 k))), (4, .int (nI x))]) hx hb d_X_left_62 hl (k := 5) rfl (nI_1 i) (by decide) rfl (fun ls hl => ?_)
          refine lv_goto (tgt := 32) hx hb d_X_left_65 (by decide) ?_
          exact ih hlt x ls _ _ (⟨hxb, by rw [hI, show n - i = (n - (i + 1)) + 1 by omega, nthF, if_neg (by rw [← hv2 k hk, show (rp1 k).testBit i = true by cases hq : (rp1 k).testBit i; exact absurd ((bx_bit hrp1 (by omega)).mpr hq) c47; rfl]; decide)]⟩) (lv_sub hl [1, 2, 3, 4, 5, 0] rfl) hP hD hS
        · refine lv_iload hx hb d_X_left_50 (lv_at hl 4 rfl) ?_
          refine lv_iload_n hx hb d_X_left_52 rfl (lv_at hl 2 rfl) ?_
          refine lv_icmp_ne (tgt := 59) hx hb d_X_left_53 (by decide) (fun c53 => ?_) (fun c53 => ?_)
          · refine lv_iinc (v := (nI (x + 1))) (lv' := [(4, .int (nI (x + 1))), (0, .ref (h 0)), (1, .int (nI k)), (2, .int (nI b)), (3, .int (nI (rp1 k))), (5, .int (nI i))]) hx hb d_X_left_59 hl (k := 4) rfl (nI_1 x) (by decide) rfl (fun ls hl => ?_)
            refine lv_iinc (v := (nI (i + 1))) (lv' := [(5, .int (nI (i + 1))), (4, .int (nI (x + 1))), (0, .ref (h 0)), (1, .int (nI k)), (2, .int (nI b)), (3, .int (nI (rp1 k)))]) hx hb d_X_left_62 hl (k := 5) rfl (nI_1 i) (by decide) rfl (fun ls hl => ?_)
            refine lv_goto (tgt := 32) hx hb d_X_left_65 (by decide) ?_
            exact ih hlt (x + 1) ls _ _ (⟨by have : ¬ x = b := fun q => c53 (by rw [q]); omega, by rw [hI, show n - i = (n - (i + 1)) + 1 by omega, nthF, if_pos (by rw [← hv2 k hk, (bx_bit hrp1 (by omega)).mp c47]; rfl), if_neg (show ¬ b - x = 0 by have : ¬ x = b := fun q => c53 (by rw [q]); omega), show b - (x + 1) = b - x - 1 by omega]⟩) (lv_sub hl [2, 3, 4, 5, 1, 0] rfl) hP hD hS
          · refine lv_iload hx hb d_X_left_56 (lv_at hl 5 rfl) ?_
            have hs : (rLeft n (reps n bt rk wt cl cc od) (nI k) (nI b)) = (nI i) := by rw [hlf, hI, show n - i = (n - (i + 1)) + 1 by omega, nthF, if_pos (by rw [← hv2 k hk, (bx_bit hrp1 (by omega)).mp c47]; rfl), if_pos (show b - x = 0 by have := (nI_eq (by omega) hb9).mp c53; omega)]; rfl
            exact wE_iret ((n, bt, rk, wt, cl, cc, su, sa, sc, od), (true, g1, co1, rp1, (reps n bt rk wt cl cc od).length)) hx hb hr hlocks d_X_left_58 hS hP ⟨rfl, (fun _ => ⟨hv, rfl⟩)⟩ (by rw [hs])
    · refine lv_bipush (v := (-2)) hx hb d_X_left_16 (by decide) ?_
      have hs : (rLeft n (reps n bt rk wt cl cc od) x y) = (-2) := by unfold rLeft; rw [if_neg (fun q => q.2 (Int32.not_le.mp c13))]
      exact wE_iret ((n, bt, rk, wt, cl, cc, su, sa, sc, od), (true, g1, co1, rp1, (reps n bt rk wt cl cc od).length)) hx hb hr hlocks d_X_left_18 hS hP ⟨rfl, (fun _ => ⟨hv, rfl⟩)⟩ (by rw [hs])
set_option maxHeartbeats 4000000 in
set_option maxRecDepth 100000 in
theorem c_X_truth (l : Launch) (sz : Nat) (x : Int32) (hg : gdA (n, bt, rk, wt, cl, cc, su, sa, sc, od)) (hc : okC (n, bt, rk, wt, cl, cc, su, sa, sc, od) fr rp rc) : Met l y_X_truth w_X_truth (k2_rm 5 108) (wr_Pc D clX (wX h cI cZ n bt rk wt cl cc su sa sc od fr cg co rp rc) [(cI, .int), (cZ, .boolean)] sz [.ref (h 0), .int x]) (wE_Q D clX (wX h cI cZ n bt rk wt cl cc su sa sc od fr cg co rp rc) (σ := stA × stC) (wXt h cI cZ) (fun _ => some (.int (rTruth su sa sc (reps n bt rk wt cl cc od) x))) (fun u => u.1 = (n, bt, rk, wt, cl, cc, su, sa, sc, od) ∧ ocX u) sz) 0 0 (va_A (wX h cI cZ n bt rk wt cl cc su sa sc od fr cg co rp rc) sz) := by
  refine wE_met (by decide) rfl (Nat.le_of_ble_eq_true rfl) rfl ?_
  intro p e s m below meth c ls hx hb hr hml hown hts hlocks hP hK hD hS hA hl
  have hts : ∀ w ∈ tbl, w.before _ s = true := fun w h => hts w (List.mem_cons_of_mem _ h)
  have hown : s.vm.findClass RX = some m.cls := hown
  have hl : lv_has ls 4 [(0, .ref (h 0)), (1, .int x)] := hl
  obtain ⟨hn, hbt, hrk, hwt, hwp, hcc, hcl, hsc, hsa, hsu, ho⟩ := id hg
  have hbt3 : bt < 2 ^ 31 := Nat.lt_of_lt_of_le hbt (Nat.pow_le_pow_right (by decide) (by omega))
  have hlen : (reps n bt rk wt cl cc od).length ≤ 462 := rep_len hn (Nat.le_refl _) hrk hwp
  refine lv_iload_n hx hb d_X_truth_0 rfl (lv_at hl 1 rfl) ?_
  refine rd_S (As := [.int x]) (rest := []) ⟨hx, hb, hml, hown, hts⟩ (c_X_isAnswer l x) (cwS 1 hts g_X_71 rfl rfl rfl (by decide +kernel) ⟨Nat.le_of_ble_eq_true rfl, Nat.le_of_ble_eq_true rfl⟩) rfl hl.1 rfl (Nat.le_of_ble_eq_true rfl) d_X_truth_1 ⟨Nat.zero_le _, Nat.zero_le _⟩ ?_
  refine lv_if_ne (tgt := 9) hx hb d_X_truth_4 (by decide) (fun c4 => ?_) (fun c4 => ?_)
  · have hx0 := (show okA x = true by cases hq : okA x; exact absurd (bI_0.mpr hq) c4; rfl)
    obtain ⟨k, hk, ek⟩ := okA_of hx0
    subst ek
    refine lv_aload_n hx hb d_X_truth_9 rfl (lv_at hl 0 rfl) ?_
    refine wE_V (As := []) (rest := []) ⟨hx, hb, hml, hown, hts⟩ (c_X_refresh l _ ⟨hn, hbt, hrk, hwt, hwp, hcc, hcl, ho, hc⟩) (cwV 0 hts g_X_81 rfl rfl rfl (by decide +kernel) ⟨Nat.le_of_ble_eq_true rfl, Nat.le_of_ble_eq_true rfl⟩) hK hP hD hS hA 0 rfl rfl rfl hl.1 rfl (Nat.le_of_ble_eq_true rfl) d_X_truth_10 ⟨Nat.zero_le _, Nat.zero_le _⟩ (fun _ => rfl) (fun v H locs hv hP hD hS => ?_)
    obtain ⟨g1, co1, rp1⟩ := v
    have hv : isArr rp1 (reps n bt rk wt cl cc od) := hv
    have hv2 : ∀ i, i < (reps n bt rk wt cl cc od).length → rp1 i = (reps n bt rk wt cl cc od).getD i 0 := hv
    have hP : va_P D clX (wX h cI cZ n bt rk wt cl cc su sa sc od true g1 co1 rp1 ((reps n bt rk wt cl cc od).length)) H := hP
    have hD : va_D _ (wX h cI cZ n bt rk wt cl cc su sa sc od true g1 co1 rp1 ((reps n bt rk wt cl cc od).length)) := hD
    refine lv_iconst (v := 0) hx hb d_X_truth_13 (by decide) ?_
    refine lv_istore_n (lv' := [(2, .int 0), (0, .ref (h 0)), (1, .int (nI k))]) hx hb d_X_truth_14 rfl hl (by decide) rfl (fun ls hl => ?_)
    refine lv_iconst (v := 0) hx hb d_X_truth_15 (by decide) ?_
    refine lv_istore_n (lv' := [(3, .int 0), (2, .int 0), (0, .ref (h 0)), (1, .int (nI k))]) hx hb d_X_truth_16 rfl hl (by decide) rfl (fun ls hl => ?_)
    refine wr_loop (nL := 4) (σ := Nat) ((reps n bt rk wt cl cc od).length) (fun i x => [(0, .ref (h 0)), (1, .int (nI k)), (2, .int (nI x)), (3, .int (nI i))]) (fun i x => wX h cI cZ n bt rk wt cl cc su sa sc od true g1 co1 rp1 ((reps n bt rk wt cl cc od).length)) (fun i x => x = cntB (fun r => holX sa su sc k ((reps n bt rk wt cl cc od).getD r 0)) i) ?_ 0 0 ls _ _ (Nat.zero_le _) (rfl) (lv_sub hl [2, 3, 1, 0] rfl) hP hD hS
    intro i x ls H locs hi hI hl hP hD hS ih
    have hI : x = cntB (fun r => holX sa su sc k ((reps n bt rk wt cl cc od).getD r 0)) i := hI
    have hl : lv_has ls 4 [(0, .ref (h 0)), (1, .int (nI k)), (2, .int (nI x)), (3, .int (nI i))] := hl
    have hP : va_P D clX (wX h cI cZ n bt rk wt cl cc su sa sc od true g1 co1 rp1 ((reps n bt rk wt cl cc od).length)) H := hP
    have hD : va_D _ (wX h cI cZ n bt rk wt cl cc su sa sc od true g1 co1 rp1 ((reps n bt rk wt cl cc od).length)) := hD
    refine lv_iload_n hx hb d_X_truth_17 rfl (lv_at hl 3 rfl) ?_
    refine lv_aload_n hx hb d_X_truth_18 rfl (lv_at hl 0 rfl) ?_
    refine va_get (D := D) (ci := 0) (v := .int (nI ((reps n bt rk wt cl cc od).length))) (C := RX) (T := TX) (N := 15) hx hb hts inX hown hK hP 0 rfl rfl 14 (by decide) (hts _ f_X_55) (fun _ h9 => h9) rfl d_X_truth_19 ?_
    refine lv_icmp_ge (tgt := 48) hx hb d_X_truth_22 (by decide) (fun c22 => ?_) (fun c22 => ?_)
    · have hN : i = (reps n bt rk wt cl cc od).length := lp_ge hi (by omega) c22
      refine lv_aload_n hx hb d_X_truth_48 rfl (lv_at hl 0 rfl) ?_
      refine lv_iload_n hx hb d_X_truth_49 rfl (lv_at hl 2 rfl) ?_
      refine rd_V (As := [.int (nI x)]) (rest := []) ⟨hx, hb, hml, hown, hts⟩ (c_X_verdict l x (by have := cntB_le (P := (fun r => holX sa su sc k ((reps n bt rk wt cl cc od).getD r 0))) (n := i); omega) (by omega)) (cwV 1 hts g_X_91 rfl rfl rfl (by decide +kernel) ⟨Nat.le_of_ble_eq_true rfl, Nat.le_of_ble_eq_true rfl⟩) hK hP 0 rfl rfl rfl hl.1 rfl (Nat.le_of_ble_eq_true rfl) d_X_truth_50 ⟨Nat.zero_le _, Nat.zero_le _⟩ ?_
      have hs : (rTruth su sa sc (reps n bt rk wt cl cc od) (nI k)) = (vdt (reps n bt rk wt cl cc od).length x) := by unfold rTruth; rw [if_pos hx0, nI_clamp (show k < 2 ^ 31 by omega), hI, hN]
      exact wE_iret ((n, bt, rk, wt, cl, cc, su, sa, sc, od), (true, g1, co1, rp1, (reps n bt rk wt cl cc od).length)) hx hb hr hlocks d_X_truth_53 hS hP ⟨rfl, (fun _ => ⟨hv, rfl⟩)⟩ (by rw [hs])
    · have hlt : i < (reps n bt rk wt cl cc od).length := lp_lt hi (by omega) c22
      refine lv_aload_n hx hb d_X_truth_25 rfl (lv_at hl 0 rfl) ?_
      refine lv_iload_n hx hb d_X_truth_26 rfl (lv_at hl 1 rfl) ?_
      refine lv_aload_n hx hb d_X_truth_27 rfl (lv_at hl 0 rfl) ?_
      refine va_get (D := D) (ci := 0) (v := .ref (h 8)) (C := RX) (T := TX) (N := 15) hx hb hts inX hown hK hP 0 rfl rfl 13 (by decide) (hts _ f_X_52) (fun _ h9 => h9) rfl d_X_truth_28 ?_
      refine lv_iload_n hx hb d_X_truth_31 rfl (lv_at hl 3 rfl) ?_
      refine va_iald hx hb hK hP 8 0 rfl rfl (vp_in_nI (show i < 462 by omega) (by decide)) d_X_truth_32 ?_
      refine rd_top (z := nI (rp1 i)) (ar_nI rp1 (by omega)) ?_
      refine rd_V (As := [.int (nI k), .int (nI (rp1 i))]) (rest := []) ⟨hx, hb, hml, hown, hts⟩ (c_X_holds l k (rp1 i) (by omega) hsc hsa hsu) (cwV 2 hts g_X_87 rfl rfl rfl (by decide +kernel) ⟨Nat.le_of_ble_eq_true rfl, Nat.le_of_ble_eq_true rfl⟩) hK hP 0 rfl rfl rfl hl.1 rfl (Nat.le_of_ble_eq_true rfl) d_X_truth_33 ⟨Nat.zero_le _, Nat.zero_le _⟩ ?_
      refine lv_if_eq (tgt := 42) hx hb d_X_truth_36 (by decide) (fun c36 => ?_) (fun c36 => ?_)
      · refine lv_iinc (v := (nI (i + 1))) (lv' := [(3, .int (nI (i + 1))), (0, .ref (h 0)), (1, .int (nI k)), (2, .int (nI x))]) hx hb d_X_truth_42 hl (k := 3) rfl (nI_1 i) (by decide) rfl (fun ls hl => ?_)
        refine lv_goto (tgt := 17) hx hb d_X_truth_45 (by decide) ?_
        exact ih hlt x ls _ _ (by show _ = cntB (fun r => holX sa su sc k ((reps n bt rk wt cl cc od).getD r 0)) (i + 1); rw [hI, cntB, if_neg (by rw [← hv2 i hlt]; intro q; rw [bI_0.mp c36] at q; cases q)]; rfl) (lv_sub hl [1, 2, 3, 0] rfl) hP hD hS
      · refine lv_iinc (v := (nI (x + 1))) (lv' := [(2, .int (nI (x + 1))), (0, .ref (h 0)), (1, .int (nI k)), (3, .int (nI i))]) hx hb d_X_truth_39 hl (k := 2) rfl (nI_1 x) (by decide) rfl (fun ls hl => ?_)
        refine lv_iinc (v := (nI (i + 1))) (lv' := [(3, .int (nI (i + 1))), (2, .int (nI (x + 1))), (0, .ref (h 0)), (1, .int (nI k))]) hx hb d_X_truth_42 hl (k := 3) rfl (nI_1 i) (by decide) rfl (fun ls hl => ?_)
        refine lv_goto (tgt := 17) hx hb d_X_truth_45 (by decide) ?_
        exact ih hlt (x + 1) ls _ _ (by show _ = cntB (fun r => holX sa su sc k ((reps n bt rk wt cl cc od).getD r 0)) (i + 1); rw [hI, cntB, if_pos (by rw [← hv2 i hlt]; exact show holX sa su sc k (rp1 i) = true by cases hq : holX sa su sc k (rp1 i); exact absurd (bI_0.mpr hq) c36; rfl)]) (lv_sub hl [2, 3, 1, 0] rfl) hP hD hS
  · refine lv_iconst (v := (-1)) hx hb d_X_truth_7 (by decide) ?_
    have hs : (rTruth su sa sc (reps n bt rk wt cl cc od) x) = (-1) := by unfold rTruth; rw [if_neg (by rw [bI_0.mp c4]; decide)]
    exact wE_iret ((n, bt, rk, wt, cl, cc, su, sa, sc, od), (fr, cg, co, rp, rc)) hx hb hr hlocks d_X_truth_8 hS hP ⟨rfl, hc⟩ (by rw [hs])
set_option maxHeartbeats 4000000 in
set_option maxRecDepth 100000 in
theorem c_X_surely (l : Launch) (sz : Nat) (x : Int32) (hg : gdA (n, bt, rk, wt, cl, cc, su, sa, sc, od)) (hc : okC (n, bt, rk, wt, cl, cc, su, sa, sc, od) fr rp rc) : Met l y_X_surely w_X_surely (k2_rm 5 108) (wr_Pc D clX (wX h cI cZ n bt rk wt cl cc su sa sc od fr cg co rp rc) [(cI, .int), (cZ, .boolean)] sz [.ref (h 0), .int x]) (wE_Q D clX (wX h cI cZ n bt rk wt cl cc su sa sc od fr cg co rp rc) (σ := stA × stC) (wXt h cI cZ) (fun _ => some (.int (rSurely n (reps n bt rk wt cl cc od) x))) (fun u => u.1 = (n, bt, rk, wt, cl, cc, su, sa, sc, od) ∧ ocX u) sz) 0 0 (va_A (wX h cI cZ n bt rk wt cl cc su sa sc od fr cg co rp rc) sz) := by
  refine wE_met (by decide) rfl (Nat.le_of_ble_eq_true rfl) rfl ?_
  intro p e s m below meth c ls hx hb hr hml hown hts hlocks hP hK hD hS hA hl
  have hts : ∀ w ∈ tbl, w.before _ s = true := fun w h => hts w (List.mem_cons_of_mem _ h)
  have hown : s.vm.findClass RX = some m.cls := hown
  have hl : lv_has ls 4 [(0, .ref (h 0)), (1, .int x)] := hl
  obtain ⟨hn, hbt, hrk, hwt, hwp, hcc, hcl, hsc, hsa, hsu, ho⟩ := id hg
  have hbt3 : bt < 2 ^ 31 := Nat.lt_of_lt_of_le hbt (Nat.pow_le_pow_right (by decide) (by omega))
  have hlen : (reps n bt rk wt cl cc od).length ≤ 462 := rep_len hn (Nat.le_refl _) hrk hwp
  refine lv_aload_n hx hb d_X_surely_0 rfl (lv_at hl 0 rfl) ?_
  refine lv_iload_n hx hb d_X_surely_1 rfl (lv_at hl 1 rfl) ?_
  refine rd_V (As := [.int x]) (rest := []) ⟨hx, hb, hml, hown, hts⟩ (c_X_isStatement l x) (cwV 1 hts g_X_65 rfl rfl rfl (by decide +kernel) ⟨Nat.le_of_ble_eq_true rfl, Nat.le_of_ble_eq_true rfl⟩) hK hP 0 rfl rfl rfl hl.1 rfl (Nat.le_of_ble_eq_true rfl) d_X_surely_2 ⟨Nat.zero_le _, Nat.zero_le _⟩ ?_
  refine lv_if_ne (tgt := 10) hx hb d_X_surely_5 (by decide) (fun c5 => ?_) (fun c5 => ?_)
  · have hx0 := (show okS n x = true by cases hq : okS n x; exact absurd (bI_0.mpr hq) c5; rfl)
    obtain ⟨k, hk, ek⟩ := okS_of (by omega) hx0
    subst ek
    refine lv_aload_n hx hb d_X_surely_10 rfl (lv_at hl 0 rfl) ?_
    refine wE_V (As := []) (rest := []) ⟨hx, hb, hml, hown, hts⟩ (c_X_refresh l _ ⟨hn, hbt, hrk, hwt, hwp, hcc, hcl, ho, hc⟩) (cwV 0 hts g_X_81 rfl rfl rfl (by decide +kernel) ⟨Nat.le_of_ble_eq_true rfl, Nat.le_of_ble_eq_true rfl⟩) hK hP hD hS hA 0 rfl rfl rfl hl.1 rfl (Nat.le_of_ble_eq_true rfl) d_X_surely_11 ⟨Nat.zero_le _, Nat.zero_le _⟩ (fun _ => rfl) (fun v H locs hv hP hD hS => ?_)
    obtain ⟨g1, co1, rp1⟩ := v
    have hv : isArr rp1 (reps n bt rk wt cl cc od) := hv
    have hv2 : ∀ i, i < (reps n bt rk wt cl cc od).length → rp1 i = (reps n bt rk wt cl cc od).getD i 0 := hv
    have hP : va_P D clX (wX h cI cZ n bt rk wt cl cc su sa sc od true g1 co1 rp1 ((reps n bt rk wt cl cc od).length)) H := hP
    have hD : va_D _ (wX h cI cZ n bt rk wt cl cc su sa sc od true g1 co1 rp1 ((reps n bt rk wt cl cc od).length)) := hD
    refine lv_iconst (v := 0) hx hb d_X_surely_14 (by decide) ?_
    refine lv_istore_n (lv' := [(2, .int 0), (0, .ref (h 0)), (1, .int (nI k))]) hx hb d_X_surely_15 rfl hl (by decide) rfl (fun ls hl => ?_)
    refine lv_iconst (v := 0) hx hb d_X_surely_16 (by decide) ?_
    refine lv_istore_n (lv' := [(3, .int 0), (2, .int 0), (0, .ref (h 0)), (1, .int (nI k))]) hx hb d_X_surely_17 rfl hl (by decide) rfl (fun ls hl => ?_)
    refine wr_loop (nL := 4) (σ := Nat) ((reps n bt rk wt cl cc od).length) (fun i x => [(0, .ref (h 0)), (1, .int (nI k)), (2, .int (nI x)), (3, .int (nI i))]) (fun i x => wX h cI cZ n bt rk wt cl cc su sa sc od true g1 co1 rp1 ((reps n bt rk wt cl cc od).length)) (fun i x => x = cntB (fun r => ((reps n bt rk wt cl cc od).getD r 0).testBit k) i) ?_ 0 0 ls _ _ (Nat.zero_le _) (rfl) (lv_sub hl [2, 3, 1, 0] rfl) hP hD hS
    intro i x ls H locs hi hI hl hP hD hS ih
    have hI : x = cntB (fun r => ((reps n bt rk wt cl cc od).getD r 0).testBit k) i := hI
    have hl : lv_has ls 4 [(0, .ref (h 0)), (1, .int (nI k)), (2, .int (nI x)), (3, .int (nI i))] := hl
    have hP : va_P D clX (wX h cI cZ n bt rk wt cl cc su sa sc od true g1 co1 rp1 ((reps n bt rk wt cl cc od).length)) H := hP
    have hD : va_D _ (wX h cI cZ n bt rk wt cl cc su sa sc od true g1 co1 rp1 ((reps n bt rk wt cl cc od).length)) := hD
    refine lv_iload_n hx hb d_X_surely_18 rfl (lv_at hl 3 rfl) ?_
    refine lv_aload_n hx hb d_X_surely_19 rfl (lv_at hl 0 rfl) ?_
    refine va_get (D := D) (ci := 0) (v := .int (nI ((reps n bt rk wt cl cc od).length))) (C := RX) (T := TX) (N := 15) hx hb hts inX hown hK hP 0 rfl rfl 14 (by decide) (hts _ f_X_55) (fun _ h9 => h9) rfl d_X_surely_20 ?_
    refine lv_icmp_ge (tgt := 48) hx hb d_X_surely_23 (by decide) (fun c23 => ?_) (fun c23 => ?_)
    · have hN : i = (reps n bt rk wt cl cc od).length := lp_ge hi (by omega) c23
      refine lv_aload_n hx hb d_X_surely_48 rfl (lv_at hl 0 rfl) ?_
      refine lv_iload_n hx hb d_X_surely_49 rfl (lv_at hl 2 rfl) ?_
      refine rd_V (As := [.int (nI x)]) (rest := []) ⟨hx, hb, hml, hown, hts⟩ (c_X_verdict l x (by have := cntB_le (P := (fun r => ((reps n bt rk wt cl cc od).getD r 0).testBit k)) (n := i); omega) (by omega)) (cwV 1 hts g_X_91 rfl rfl rfl (by decide +kernel) ⟨Nat.le_of_ble_eq_true rfl, Nat.le_of_ble_eq_true rfl⟩) hK hP 0 rfl rfl rfl hl.1 rfl (Nat.le_of_ble_eq_true rfl) d_X_surely_50 ⟨Nat.zero_le _, Nat.zero_le _⟩ ?_
      have hs : (rSurely n (reps n bt rk wt cl cc od) (nI k)) = (vdt (reps n bt rk wt cl cc od).length x) := by unfold rSurely; rw [if_pos hx0, nI_clamp (show k < 2 ^ 31 by omega), hI, hN]
      exact wE_iret ((n, bt, rk, wt, cl, cc, su, sa, sc, od), (true, g1, co1, rp1, (reps n bt rk wt cl cc od).length)) hx hb hr hlocks d_X_surely_53 hS hP ⟨rfl, (fun _ => ⟨hv, rfl⟩)⟩ (by rw [hs])
    · have hlt : i < (reps n bt rk wt cl cc od).length := lp_lt hi (by omega) c23
      refine lv_aload_n hx hb d_X_surely_26 rfl (lv_at hl 0 rfl) ?_
      refine va_get (D := D) (ci := 0) (v := .ref (h 8)) (C := RX) (T := TX) (N := 15) hx hb hts inX hown hK hP 0 rfl rfl 13 (by decide) (hts _ f_X_52) (fun _ h9 => h9) rfl d_X_surely_27 ?_
      refine lv_iload_n hx hb d_X_surely_30 rfl (lv_at hl 3 rfl) ?_
      refine va_iald hx hb hK hP 8 0 rfl rfl (vp_in_nI (show i < 462 by omega) (by decide)) d_X_surely_31 ?_
      refine rd_top (z := nI (rp1 i)) (ar_nI rp1 (by omega)) ?_
      refine lv_iconst (v := 1) hx hb d_X_surely_32 (by decide) ?_
      refine lv_iload_n hx hb d_X_surely_33 rfl (lv_at hl 1 rfl) ?_
      refine lv_ishl hx hb d_X_surely_34 ?_
      refine rd_top (z := nI (2 ^ k)) (bx_shl k (by omega)) ?_
      refine lv_iand hx hb d_X_surely_35 ?_
      refine lv_if_eq (tgt := 42) hx hb d_X_surely_36 (by decide) (fun c36 => ?_) (fun c36 => ?_)
      · refine lv_iinc (v := (nI (i + 1))) (lv' := [(3, .int (nI (i + 1))), (0, .ref (h 0)), (1, .int (nI k)), (2, .int (nI x))]) hx hb d_X_surely_42 hl (k := 3) rfl (nI_1 i) (by decide) rfl (fun ls hl => ?_)
        refine lv_goto (tgt := 18) hx hb d_X_surely_45 (by decide) ?_
        exact ih hlt x ls _ _ (by show _ = cntB (fun r => ((reps n bt rk wt cl cc od).getD r 0).testBit k) (i + 1); rw [hI, cntB, if_neg (by rw [← hv2 i hlt]; intro q; rw [(bx_bit (show rp1 i < 2 ^ 31 by rw [hv2 i hlt]; exact Nat.lt_trans (rep_lt hn hlt) (by decide)) (by omega)).mp c36] at q; cases q)]; rfl) (lv_sub hl [1, 2, 3, 0] rfl) hP hD hS
      · refine lv_iinc (v := (nI (x + 1))) (lv' := [(2, .int (nI (x + 1))), (0, .ref (h 0)), (1, .int (nI k)), (3, .int (nI i))]) hx hb d_X_surely_39 hl (k := 2) rfl (nI_1 x) (by decide) rfl (fun ls hl => ?_)
        refine lv_iinc (v := (nI (i + 1))) (lv' := [(3, .int (nI (i + 1))), (2, .int (nI (x + 1))), (0, .ref (h 0)), (1, .int (nI k))]) hx hb d_X_surely_42 hl (k := 3) rfl (nI_1 i) (by decide) rfl (fun ls hl => ?_)
        refine lv_goto (tgt := 18) hx hb d_X_surely_45 (by decide) ?_
        exact ih hlt (x + 1) ls _ _ (by show _ = cntB (fun r => ((reps n bt rk wt cl cc od).getD r 0).testBit k) (i + 1); rw [hI, cntB, if_pos (by rw [← hv2 i hlt]; cases hq : (rp1 i).testBit k; exact absurd ((bx_bit (show rp1 i < 2 ^ 31 by rw [hv2 i hlt]; exact Nat.lt_trans (rep_lt hn hlt) (by decide)) (by omega)).mpr hq) c36; rfl)]) (lv_sub hl [2, 3, 1, 0] rfl) hP hD hS
  · refine lv_iconst (v := (-1)) hx hb d_X_surely_8 (by decide) ?_
    have hs : (rSurely n (reps n bt rk wt cl cc od) x) = (-1) := by unfold rSurely; rw [if_neg (by rw [bI_0.mp c5]; decide)]
    exact wE_iret ((n, bt, rk, wt, cl, cc, su, sa, sc, od), (fr, cg, co, rp, rc)) hx hb hr hlocks d_X_surely_9 hS hP ⟨rfl, hc⟩ (by rw [hs])
set_option maxHeartbeats 4000000 in
set_option maxRecDepth 100000 in
theorem c_X_better (l : Launch) (x y o : Int32) (hg : gdA (n, bt, rk, wt, cl, cc, su, sa, sc, od)) : Met l y_X_better w_X_better (k2_rm 4 92) (rd_Pc D clX (wX h cI cZ n bt rk wt cl cc su sa sc od fr cg co rp rc) [(cI, .int), (cZ, .boolean)] [.ref (h 0), .int x, .int y, .int o]) (k2_QcV (.int (rBetter n bt rk wt x y o))) 0 0 (fun _ => False) := by
  refine rd_met (by decide) rfl (Nat.le_of_ble_eq_true rfl) rfl ?_
  intro p e s m below meth c ls hx hb hr hml hown hts hlocks hP hK hl
  have hts : ∀ w ∈ tbl, w.before _ s = true := fun w h => hts w (List.mem_cons_of_mem _ h)
  have hown : s.vm.findClass RX = some m.cls := hown
  have hl : lv_has ls 6 [(0, .ref (h 0)), (1, .int x), (2, .int y), (3, .int o)] := hl
  obtain ⟨hn, hbt, hrk, hwt, hwp, hcc, hcl, hsc, hsa, hsu, ho⟩ := id hg
  have hbt3 : bt < 2 ^ 31 := Nat.lt_of_lt_of_le hbt (Nat.pow_le_pow_right (by decide) (by omega))
  have hlen : (reps n bt rk wt cl cc od).length ≤ 462 := rep_len hn (Nat.le_refl _) hrk hwp
  refine lv_iload_n hx hb d_X_better_0 rfl (lv_at hl 3 rfl) ?_
  refine rd_S (As := [.int o]) (rest := []) ⟨hx, hb, hml, hown, hts⟩ (c_X_isOrder l o) (cwS 1 hts g_X_78 rfl rfl rfl (by decide +kernel) ⟨Nat.le_of_ble_eq_true rfl, Nat.le_of_ble_eq_true rfl⟩) rfl hl.1 rfl (Nat.le_of_ble_eq_true rfl) d_X_better_1 ⟨Nat.zero_le _, Nat.zero_le _⟩ ?_
  refine lv_if_ne (tgt := 9) hx hb d_X_better_4 (by decide) (fun c4 => ?_) (fun c4 => ?_)
  · have hx0 := (show okO o = true by cases hq : okO o; exact absurd (bI_0.mpr hq) c4; rfl)
    obtain ⟨k, hk, ek⟩ := okO_of hx0
    subst ek
    refine lv_iload_n hx hb d_X_better_9 rfl (lv_at hl 1 rfl) ?_
    refine lv_aload_n hx hb d_X_better_10 rfl (lv_at hl 0 rfl) ?_
    refine rd_V (As := []) (rest := [.int x]) ⟨hx, hb, hml, hown, hts⟩ (c_X_statementBits l hn) (cwV 0 hts g_X_94 rfl rfl rfl (by decide +kernel) ⟨Nat.le_of_ble_eq_true rfl, Nat.le_of_ble_eq_true rfl⟩) hK hP 0 rfl rfl rfl hl.1 rfl (Nat.le_of_ble_eq_true rfl) d_X_better_11 ⟨Nat.zero_le _, Nat.zero_le _⟩ ?_
    refine lv_iand hx hb d_X_better_14 ?_
    refine rd_top (z := nI (x.toBitVec.toNat % 2 ^ n)) (mskn hn x) ?_
    refine lv_istore (lv' := [(4, .int (nI (x.toBitVec.toNat % 2 ^ n))), (0, .ref (h 0)), (1, .int x), (2, .int y), (3, .int (nI k))]) hx hb d_X_better_15 hl (by decide) rfl (fun ls hl => ?_)
    refine lv_iload_n hx hb d_X_better_17 rfl (lv_at hl 3 rfl) ?_
    refine lv_aload_n hx hb d_X_better_18 rfl (lv_at hl 1 rfl) ?_
    refine rd_V (As := []) (rest := [.int y]) ⟨hx, hb, hml, hown, hts⟩ (c_X_statementBits l hn) (cwV 0 hts g_X_94 rfl rfl rfl (by decide +kernel) ⟨Nat.le_of_ble_eq_true rfl, Nat.le_of_ble_eq_true rfl⟩) hK hP 0 rfl rfl rfl hl.1 rfl (Nat.le_of_ble_eq_true rfl) d_X_better_19 ⟨Nat.zero_le _, Nat.zero_le _⟩ ?_
    refine lv_iand hx hb d_X_better_22 ?_
    refine rd_top (z := nI (y.toBitVec.toNat % 2 ^ n)) (mskn hn y) ?_
    refine lv_istore (lv' := [(5, .int (nI (y.toBitVec.toNat % 2 ^ n))), (4, .int (nI (x.toBitVec.toNat % 2 ^ n))), (0, .ref (h 0)), (1, .int x), (2, .int y), (3, .int (nI k))]) hx hb d_X_better_23 hl (by decide) rfl (fun ls hl => ?_)
    refine lv_aload_n hx hb d_X_better_25 rfl (lv_at hl 2 rfl) ?_
    refine lv_iload hx hb d_X_better_26 (lv_at hl 1 rfl) ?_
    refine lv_iload hx hb d_X_better_28 (lv_at hl 0 rfl) ?_
    refine lv_iload_n hx hb d_X_better_30 rfl (lv_at hl 5 rfl) ?_
    refine rd_V (As := [.int (nI (x.toBitVec.toNat % 2 ^ n)), .int (nI (y.toBitVec.toNat % 2 ^ n)), .int (nI k)]) (rest := []) ⟨hx, hb, hml, hown, hts⟩ (c_X_isBetter l (x.toBitVec.toNat % 2 ^ n) (y.toBitVec.toNat % 2 ^ n) k hn hbt3 hrk hwt (show x.toBitVec.toNat % 2 ^ n < 2 ^ 31 from Nat.lt_of_lt_of_le (Nat.mod_lt _ (bx_pos n)) (Nat.pow_le_pow_right (by decide) (by omega))) (show y.toBitVec.toNat % 2 ^ n < 2 ^ 31 from Nat.lt_of_lt_of_le (Nat.mod_lt _ (bx_pos n)) (Nat.pow_le_pow_right (by decide) (by omega))) hk) (cwV 3 hts g_X_98 rfl rfl rfl (by decide +kernel) ⟨Nat.le_of_ble_eq_true rfl, Nat.le_of_ble_eq_true rfl⟩) hK hP 0 rfl rfl rfl hl.1 rfl (Nat.le_of_ble_eq_true rfl) d_X_better_31 ⟨Nat.zero_le _, Nat.zero_le _⟩ ?_
    refine lv_if_eq (tgt := 41) hx hb d_X_better_34 (by decide) (fun c34 => ?_) (fun c34 => ?_)
    · refine lv_iconst (v := 0) hx hb d_X_better_41 (by decide) ?_
      exact rd_iret hx hb hr hlocks d_X_better_42 (by unfold rBetter; rw [if_pos hx0, nI_clamp (show k < 2 ^ 31 by omega), bI_0.mp c34]; rfl)
    · refine lv_iconst (v := 1) hx hb d_X_better_37 (by decide) ?_
      refine lv_goto (tgt := 42) hx hb d_X_better_38 (by decide) ?_
      exact rd_iret hx hb hr hlocks d_X_better_42 (by unfold rBetter; rw [if_pos hx0, nI_clamp (show k < 2 ^ 31 by omega), show betX n bt rk wt (x.toBitVec.toNat % 2 ^ n) (y.toBitVec.toNat % 2 ^ n) k = true by cases hq : betX n bt rk wt (x.toBitVec.toNat % 2 ^ n) (y.toBitVec.toNat % 2 ^ n) k; exact absurd (bI_0.mpr hq) c34; rfl]; rfl)
  · refine lv_iconst (v := (-1)) hx hb d_X_better_7 (by decide) ?_
    exact rd_iret hx hb hr hlocks d_X_better_8 (by unfold rBetter; rw [if_neg (by rw [bI_0.mp c4]; decide)])
end MX9

section MX4
variable {D : va_G} {h : Nat → Nat} {cI cZ : ClassId} {n bt : Nat} {rk wt cl : Nat → Nat} {cc : Nat} {su sa : Nat → Nat} {sc od : Nat} {fr : Bool} {cg : Nat → Bool} {co rp : Nat → Nat} {rc : Nat}
set_option maxHeartbeats 4000000 in
set_option maxRecDepth 100000 in
theorem c_X_leastAfter (l : Launch) (la : Option Nat) (hla : ∀ z, la = some z → z < 2 ^ 31) (hn : n ≤ 11) (hcc : cc ≤ 40) (hcl : ∀ j, cl j < 2048) : Met l y_X_leastAfter w_X_leastAfter (k2_rm 3 64) (rd_Pc D clX (wX h cI cZ n bt rk wt cl cc su sa sc od fr cg co rp rc) [(cI, .int), (cZ, .boolean)] [.ref (h 0), .int (oI la)]) (k2_QcV (.int (oI (lsA (isLX n cl cc) cl la cc)))) 0 0 (fun _ => False) := by
  refine rd_met (by decide) rfl (Nat.le_of_ble_eq_true rfl) rfl ?_
  intro p e s m below meth c ls hx hb hr hml hown hts hlocks hP hK hl
  have hts : ∀ w ∈ tbl, w.before _ s = true := fun w h => hts w (List.mem_cons_of_mem _ h)
  have hown : s.vm.findClass RX = some m.cls := hown
  have hl : lv_has ls 5 [(0, .ref (h 0)), (1, .int (oI la))] := hl
  refine lv_bipush (v := (-2)) hx hb d_X_leastAfter_0 (by decide) ?_
  refine rd_top (z := oI none) (rfl) ?_
  refine lv_istore_n (lv' := [(2, .int (oI none)), (0, .ref (h 0)), (1, .int (oI la))]) hx hb d_X_leastAfter_2 rfl hl (by decide) rfl (fun ls hl => ?_)
  refine lv_iconst (v := 0) hx hb d_X_leastAfter_3 (by decide) ?_
  refine lv_istore_n (lv' := [(3, .int 0), (2, .int (oI none)), (0, .ref (h 0)), (1, .int (oI la))]) hx hb d_X_leastAfter_4 rfl hl (by decide) rfl (fun ls hl => ?_)
  refine rd_loop (nL := 5) (σ := Option Nat) (cc) (fun i x => [(0, .ref (h 0)), (1, .int (oI la)), (2, .int (oI x)), (3, .int (nI i))]) (fun i x => x = lsA (isLX n cl cc) cl la i) ?_ 0 none ls (Nat.zero_le _) (rfl) (lv_sub hl [2, 3, 1, 0] rfl)
  intro i x ls hi hI hl ih
  have hI : x = lsA (isLX n cl cc) cl la i := hI
  have hl : lv_has ls 5 [(0, .ref (h 0)), (1, .int (oI la)), (2, .int (oI x)), (3, .int (nI i))] := hl
  refine lv_iload_n hx hb d_X_leastAfter_5 rfl (lv_at hl 3 rfl) ?_
  refine lv_aload_n hx hb d_X_leastAfter_6 rfl (lv_at hl 0 rfl) ?_
  refine va_get (D := D) (ci := 0) (v := .int (nI cc)) (C := RX) (T := TX) (N := 15) hx hb hts inX hown hK hP 0 rfl rfl 5 (by decide) (hts _ f_X_26) (fun _ h9 => h9) rfl d_X_leastAfter_7 ?_
  refine lv_icmp_ge (tgt := 55) hx hb d_X_leastAfter_10 (by decide) (fun c10 => ?_) (fun c10 => ?_)
  · have hN : i = cc := lp_ge hi (by omega) c10
    refine lv_iload_n hx hb d_X_leastAfter_55 rfl (lv_at hl 2 rfl) ?_
    exact rd_iret hx hb hr hlocks d_X_leastAfter_56 (by rw [hI, hN])
  · have hlt : i < cc := lp_lt hi (by omega) c10
    refine lv_aload_n hx hb d_X_leastAfter_13 rfl (lv_at hl 0 rfl) ?_
    refine va_get (D := D) (ci := 0) (v := .ref (h 3)) (C := RX) (T := TX) (N := 15) hx hb hts inX hown hK hP 0 rfl rfl 4 (by decide) (hts _ f_X_23) (fun _ h9 => h9) rfl d_X_leastAfter_14 ?_
    refine lv_iload_n hx hb d_X_leastAfter_17 rfl (lv_at hl 3 rfl) ?_
    refine va_iald hx hb hK hP 3 0 rfl rfl (vp_in_nI (show i < 40 by omega) (by decide)) d_X_leastAfter_18 ?_
    refine rd_top (z := nI (cl i)) (ar_nI cl (by omega)) ?_
    refine lv_istore (lv' := [(4, .int (nI (cl i))), (0, .ref (h 0)), (1, .int (oI la)), (2, .int (oI x)), (3, .int (nI i))]) hx hb d_X_leastAfter_19 hl (by decide) rfl (fun ls hl => ?_)
    refine lv_iload hx hb d_X_leastAfter_21 (lv_at hl 0 rfl) ?_
    refine lv_iload_n hx hb d_X_leastAfter_23 rfl (lv_at hl 2 rfl) ?_
    refine lv_icmp_le (tgt := 49) hx hb d_X_leastAfter_24 (by decide) (fun c24 => ?_) (fun c24 => ?_)
    · refine lv_iinc (v := (nI (i + 1))) (lv' := [(3, .int (nI (i + 1))), (4, .int (nI (cl i))), (0, .ref (h 0)), (1, .int (oI la)), (2, .int (oI x))]) hx hb d_X_leastAfter_49 hl (k := 4) rfl (nI_1 i) (by decide) rfl (fun ls hl => ?_)
      refine lv_goto (tgt := 5) hx hb d_X_leastAfter_52 (by decide) ?_
      exact ih hlt x ls (by show _ = lsA (isLX n cl cc) cl la (i + 1); rw [lsA, if_neg (fun q => (oi_1 hla (Nat.lt_trans (hcl i) (by decide))).mp c24 q.1)]; exact hI) (lv_sub hl [2, 3, 4, 0] rfl)
    · refine lv_iload_n hx hb d_X_leastAfter_27 rfl (lv_at hl 3 rfl) ?_
      refine lv_if_lt (tgt := 37) hx hb d_X_leastAfter_28 (by decide) (fun c28 => ?_) (fun c28 => ?_)
      · refine lv_aload_n hx hb d_X_leastAfter_37 rfl (lv_at hl 1 rfl) ?_
        refine lv_iload hx hb d_X_leastAfter_38 (lv_at hl 0 rfl) ?_
        refine rd_V (As := [.int (nI (cl i))]) (rest := []) ⟨hx, hb, hml, hown, hts⟩ (c_X_isLeast l (cl i) hn (Nat.lt_trans (hcl i) (by decide)) hcc hcl) (cwV 1 hts g_X_125 rfl rfl rfl (by decide +kernel) ⟨Nat.le_of_ble_eq_true rfl, Nat.le_of_ble_eq_true rfl⟩) hK hP 0 rfl rfl rfl hl.1 rfl (Nat.le_of_ble_eq_true rfl) d_X_leastAfter_40 ⟨Nat.zero_le _, Nat.zero_le _⟩ ?_
        refine lv_if_eq (tgt := 49) hx hb d_X_leastAfter_43 (by decide) (fun c43 => ?_) (fun c43 => ?_)
        · refine lv_iinc (v := (nI (i + 1))) (lv' := [(3, .int (nI (i + 1))), (4, .int (nI (cl i))), (0, .ref (h 0)), (1, .int (oI la)), (2, .int (oI x))]) hx hb d_X_leastAfter_49 hl (k := 4) rfl (nI_1 i) (by decide) rfl (fun ls hl => ?_)
          refine lv_goto (tgt := 5) hx hb d_X_leastAfter_52 (by decide) ?_
          exact ih hlt x ls (by show _ = lsA (isLX n cl cc) cl la (i + 1); rw [lsA, if_neg (fun q => by rw [bI_0.mp c43] at q; exact absurd q.2.2 (by decide))]; exact hI) (lv_sub hl [2, 3, 4, 0] rfl)
        · refine lv_iload hx hb d_X_leastAfter_46 (lv_at hl 0 rfl) ?_
          refine rd_top (z := oI (some (cl i))) (rfl) ?_
          refine lv_istore_n (lv' := [(2, .int (oI (some (cl i)))), (4, .int (nI (cl i))), (0, .ref (h 0)), (1, .int (oI la)), (3, .int (nI i))]) hx hb d_X_leastAfter_48 rfl hl (by decide) rfl (fun ls hl => ?_)
          refine lv_iinc (v := (nI (i + 1))) (lv' := [(3, .int (nI (i + 1))), (2, .int (oI (some (cl i)))), (4, .int (nI (cl i))), (0, .ref (h 0)), (1, .int (oI la))]) hx hb d_X_leastAfter_49 hl (k := 4) rfl (nI_1 i) (by decide) rfl (fun ls hl => ?_)
          refine lv_goto (tgt := 5) hx hb d_X_leastAfter_52 (by decide) ?_
          exact ih hlt (some (cl i)) ls (by show _ = lsA (isLX n cl cc) cl la (i + 1); rw [lsA, if_pos ⟨Classical.byContradiction fun q => c24 ((oi_1 hla (Nat.lt_trans (hcl i) (by decide))).mpr q), (fun z hz => by rw [← hI, (oi_neg (fun z hz => Nat.lt_trans (lsA_lt hcl i z (hI ▸ hz)) (by decide))).mp c28] at hz; cases hz), show isLX n cl cc (cl i) = true by cases hq : isLX n cl cc (cl i); exact absurd (bI_0.mpr hq) c43; rfl⟩]) (lv_sub hl [3, 4, 1, 0] rfl)
      · refine lv_iload hx hb d_X_leastAfter_31 (lv_at hl 0 rfl) ?_
        refine lv_iload_n hx hb d_X_leastAfter_33 rfl (lv_at hl 3 rfl) ?_
        refine lv_icmp_ge (tgt := 49) hx hb d_X_leastAfter_34 (by decide) (fun c34 => ?_) (fun c34 => ?_)
        · refine lv_iinc (v := (nI (i + 1))) (lv' := [(3, .int (nI (i + 1))), (4, .int (nI (cl i))), (0, .ref (h 0)), (1, .int (oI la)), (2, .int (oI x))]) hx hb d_X_leastAfter_49 hl (k := 4) rfl (nI_1 i) (by decide) rfl (fun ls hl => ?_)
          refine lv_goto (tgt := 5) hx hb d_X_leastAfter_52 (by decide) ?_
          exact ih hlt x ls (by show _ = lsA (isLX n cl cc) cl la (i + 1); rw [lsA, if_neg (fun q => (oi_2 (fun z hz => Nat.lt_trans (lsA_lt hcl i z (hI ▸ hz)) (by decide)) (Nat.lt_trans (hcl i) (by decide)) c28).mp c34 (by rw [hI]; exact q.2.1))]; exact hI) (lv_sub hl [2, 3, 4, 0] rfl)
        · refine lv_aload_n hx hb d_X_leastAfter_37 rfl (lv_at hl 1 rfl) ?_
          refine lv_iload hx hb d_X_leastAfter_38 (lv_at hl 0 rfl) ?_
          refine rd_V (As := [.int (nI (cl i))]) (rest := []) ⟨hx, hb, hml, hown, hts⟩ (c_X_isLeast l (cl i) hn (Nat.lt_trans (hcl i) (by decide)) hcc hcl) (cwV 1 hts g_X_125 rfl rfl rfl (by decide +kernel) ⟨Nat.le_of_ble_eq_true rfl, Nat.le_of_ble_eq_true rfl⟩) hK hP 0 rfl rfl rfl hl.1 rfl (Nat.le_of_ble_eq_true rfl) d_X_leastAfter_40 ⟨Nat.zero_le _, Nat.zero_le _⟩ ?_
          refine lv_if_eq (tgt := 49) hx hb d_X_leastAfter_43 (by decide) (fun c43 => ?_) (fun c43 => ?_)
          · refine lv_iinc (v := (nI (i + 1))) (lv' := [(3, .int (nI (i + 1))), (4, .int (nI (cl i))), (0, .ref (h 0)), (1, .int (oI la)), (2, .int (oI x))]) hx hb d_X_leastAfter_49 hl (k := 4) rfl (nI_1 i) (by decide) rfl (fun ls hl => ?_)
            refine lv_goto (tgt := 5) hx hb d_X_leastAfter_52 (by decide) ?_
            exact ih hlt x ls (by show _ = lsA (isLX n cl cc) cl la (i + 1); rw [lsA, if_neg (fun q => by rw [bI_0.mp c43] at q; exact absurd q.2.2 (by decide))]; exact hI) (lv_sub hl [2, 3, 4, 0] rfl)
          · refine lv_iload hx hb d_X_leastAfter_46 (lv_at hl 0 rfl) ?_
            refine rd_top (z := oI (some (cl i))) (rfl) ?_
            refine lv_istore_n (lv' := [(2, .int (oI (some (cl i)))), (4, .int (nI (cl i))), (0, .ref (h 0)), (1, .int (oI la)), (3, .int (nI i))]) hx hb d_X_leastAfter_48 rfl hl (by decide) rfl (fun ls hl => ?_)
            refine lv_iinc (v := (nI (i + 1))) (lv' := [(3, .int (nI (i + 1))), (2, .int (oI (some (cl i)))), (4, .int (nI (cl i))), (0, .ref (h 0)), (1, .int (oI la))]) hx hb d_X_leastAfter_49 hl (k := 4) rfl (nI_1 i) (by decide) rfl (fun ls hl => ?_)
            refine lv_goto (tgt := 5) hx hb d_X_leastAfter_52 (by decide) ?_
            exact ih hlt (some (cl i)) ls (by show _ = lsA (isLX n cl cc) cl la (i + 1); rw [lsA, if_pos ⟨Classical.byContradiction fun q => c24 ((oi_1 hla (Nat.lt_trans (hcl i) (by decide))).mpr q), Classical.byContradiction fun q => c34 ((oi_2 (fun z hz => Nat.lt_trans (lsA_lt hcl i z (hI ▸ hz)) (by decide)) (Nat.lt_trans (hcl i) (by decide)) c28).mpr (by rw [hI]; exact q)), show isLX n cl cc (cl i) = true by cases hq : isLX n cl cc (cl i); exact absurd (bI_0.mpr hq) c43; rfl⟩]) (lv_sub hl [3, 4, 1, 0] rfl)
set_option maxHeartbeats 4000000 in
set_option maxRecDepth 100000 in
theorem c_X_least (l : Launch) (x : Int32) (hn : n ≤ 11) (hcc : cc ≤ 40) (hcl : ∀ j, cl j < 2048) : Met l y_X_least w_X_least (k2_rm 4 88) (rd_Pc D clX (wX h cI cZ n bt rk wt cl cc su sa sc od fr cg co rp rc) [(cI, .int), (cZ, .boolean)] [.ref (h 0), .int x]) (k2_QcV (.int (leaX n cl cc x))) 0 0 (fun _ => False) := by
  refine rd_met (by decide) rfl (Nat.le_of_ble_eq_true rfl) rfl ?_
  intro p e s m below meth c ls hx hb hr hml hown hts hlocks hP hK hl
  have hts : ∀ w ∈ tbl, w.before _ s = true := fun w h => hts w (List.mem_cons_of_mem _ h)
  have hown : s.vm.findClass RX = some m.cls := hown
  have hl : lv_has ls 4 [(0, .ref (h 0)), (1, .int x)] := hl
  refine lv_iload_n hx hb d_X_least_0 rfl (lv_at hl 1 rfl) ?_
  refine lv_if_lt (tgt := 12) hx hb d_X_least_1 (by decide) (fun c1 => ?_) (fun c1 => ?_)
  · refine lv_bipush (v := (-2)) hx hb d_X_least_12 (by decide) ?_
    exact rd_iret hx hb hr hlocks d_X_least_14 (by rw [leaX, if_pos (Or.inl c1)])
  · refine lv_iload_n hx hb d_X_least_4 rfl (lv_at hl 1 rfl) ?_
    refine lv_aload_n hx hb d_X_least_5 rfl (lv_at hl 0 rfl) ?_
    refine va_get (D := D) (ci := 0) (v := .int (nI cc)) (C := RX) (T := TX) (N := 15) hx hb hts inX hown hK hP 0 rfl rfl 5 (by decide) (hts _ f_X_26) (fun _ h9 => h9) rfl d_X_least_6 ?_
    refine lv_icmp_lt (tgt := 15) hx hb d_X_least_9 (by decide) (fun c9 => ?_) (fun c9 => ?_)
    · obtain ⟨r, hr1, hr2⟩ : ∃ r : Nat, r < cc ∧ x = nI r := by
        obtain ⟨j, hj, e⟩ := nI_of c1
        exact ⟨j, (nI_ltI hj (by omega)).mp (by rw [← e]; exact c9), e⟩
      subst hr2
      have hv : leaX n cl cc (nI r) = oI (lsR (isLX n cl cc) cl cc (r + 1) none) := by rw [leaX, if_neg (fun q => q.elim c1 (fun q => q c9)), nI_clamp (by omega)]
      refine lv_bipush (v := (-2)) hx hb d_X_least_15 (by decide) ?_
      refine rd_top (z := oI none) (rfl) ?_
      refine lv_istore_n (lv' := [(2, .int (oI none)), (0, .ref (h 0)), (1, .int (nI r))]) hx hb d_X_least_17 rfl hl (by decide) rfl (fun ls hl => ?_)
      refine lv_iconst (v := 0) hx hb d_X_least_18 (by decide) ?_
      refine lv_istore_n (lv' := [(3, .int 0), (2, .int (oI none)), (0, .ref (h 0)), (1, .int (nI r))]) hx hb d_X_least_19 rfl hl (by decide) rfl (fun ls hl => ?_)
      refine rd_loop (nL := 4) (σ := Option Nat) (r + 1) (fun i x => [(0, .ref (h 0)), (1, .int (nI r)), (2, .int (oI x)), (3, .int (nI i))]) (fun i x => (∀ z, x = some z → z < 2 ^ 31) ∧ lsR (isLX n cl cc) cl cc (r + 1) none = lsR (isLX n cl cc) cl cc (r + 1 - i) x) ?_ 0 none ls (Nat.zero_le _) (⟨(fun z hz => by cases hz), rfl⟩) (lv_sub hl [2, 3, 1, 0] rfl)
      intro i x ls hi hI hl ih
      obtain ⟨hxb, hI⟩ : (∀ z, x = some z → z < 2 ^ 31) ∧ lsR (isLX n cl cc) cl cc (r + 1) none = lsR (isLX n cl cc) cl cc (r + 1 - i) x := hI
      have hl : lv_has ls 4 [(0, .ref (h 0)), (1, .int (nI r)), (2, .int (oI x)), (3, .int (nI i))] := hl
      refine lv_iload_n hx hb d_X_least_20 rfl (lv_at hl 3 rfl) ?_
      refine lv_iload_n hx hb d_X_least_21 rfl (lv_at hl 1 rfl) ?_
      refine lv_icmp_gt (tgt := 44) hx hb d_X_least_22 (by decide) (fun c22 => ?_) (fun c22 => ?_)
      · have hN : i = r + 1 := by have := (nI_ltI (by omega) (by omega)).mp c22; omega
        refine lv_iload_n hx hb d_X_least_44 rfl (lv_at hl 2 rfl) ?_
        exact rd_iret hx hb hr hlocks d_X_least_45 (by rw [hv, hI, hN, Nat.sub_self]; rfl)
      · have hlt : i < r + 1 := by rcases Nat.lt_or_ge i (r + 1) with q | q; exact q; exact absurd ((nI_ltI (by omega) (by omega)).mpr (by omega)) c22
        refine lv_aload_n hx hb d_X_least_25 rfl (lv_at hl 0 rfl) ?_
        refine lv_iload_n hx hb d_X_least_26 rfl (lv_at hl 2 rfl) ?_
        refine rd_V (As := [.int (oI x)]) (rest := []) ⟨hx, hb, hml, hown, hts⟩ (c_X_leastAfter l x hxb hn hcc hcl) (cwV 1 hts g_X_102 rfl rfl rfl (by decide +kernel) ⟨Nat.le_of_ble_eq_true rfl, Nat.le_of_ble_eq_true rfl⟩) hK hP 0 rfl rfl rfl hl.1 rfl (Nat.le_of_ble_eq_true rfl) d_X_least_27 ⟨Nat.zero_le _, Nat.zero_le _⟩ ?_
        refine lv_istore_n (lv' := [(2, .int (oI (lsA (isLX n cl cc) cl x cc))), (0, .ref (h 0)), (1, .int (nI r)), (3, .int (nI i))]) hx hb d_X_least_30 rfl hl (by decide) rfl (fun ls hl => ?_)
        refine lv_iload_n hx hb d_X_least_31 rfl (lv_at hl 0 rfl) ?_
        refine lv_if_ge (tgt := 38) hx hb d_X_least_32 (by decide) (fun c32 => ?_) (fun c32 => ?_)
        · refine lv_iinc (v := (nI (i + 1))) (lv' := [(3, .int (nI (i + 1))), (2, .int (oI (lsA (isLX n cl cc) cl x cc))), (0, .ref (h 0)), (1, .int (nI r))]) hx hb d_X_least_38 hl (k := 3) rfl (nI_1 i) (by decide) rfl (fun ls hl => ?_)
          refine lv_goto (tgt := 20) hx hb d_X_least_41 (by decide) ?_
          exact ih hlt (lsA (isLX n cl cc) cl x cc) ls (⟨fun z hz => Nat.lt_trans (lsA_lt hcl cc z hz) (by decide), by rw [hI, show r + 1 - i = (r + 1 - (i + 1)) + 1 by omega, lsR]; cases hq : lsA (isLX n cl cc) cl x cc with | none => rw [hq] at c32; exact absurd c32 (by decide) | some z => rfl⟩) (lv_sub hl [2, 3, 1, 0] rfl)
        · refine lv_bipush (v := (-2)) hx hb d_X_least_35 (by decide) ?_
          exact rd_iret hx hb hr hlocks d_X_least_37 (by rw [hv, hI, show r + 1 - i = (r + 1 - (i + 1)) + 1 by omega, lsR]; cases hq : lsA (isLX n cl cc) cl x cc with | none => rfl | some z => rw [hq] at c32; exact absurd (nI_pos' (Nat.lt_trans (lsA_lt hcl cc z hq) (by decide))) c32)
    · refine lv_bipush (v := (-2)) hx hb d_X_least_12 (by decide) ?_
      exact rd_iret hx hb hr hlocks d_X_least_14 (by rw [leaX, if_pos (Or.inr c9)])
set_option maxHeartbeats 4000000 in
set_option maxRecDepth 100000 in
theorem c_X_size (l : Launch)  : Met l y_X_size w_X_size (k2_rm 0 0) (rd_Pc D clX (wX h cI cZ n bt rk wt cl cc su sa sc od fr cg co rp rc) [(cI, .int), (cZ, .boolean)] [.ref (h 0)]) (k2_QcV (.int (nI n))) 0 0 (fun _ => False) := by
  refine rd_met (by decide) rfl (Nat.le_of_ble_eq_true rfl) rfl ?_
  intro p e s m below meth c ls hx hb hr hml hown hts hlocks hP hK hl
  have hts : ∀ w ∈ tbl, w.before _ s = true := fun w h => hts w (List.mem_cons_of_mem _ h)
  have hown : s.vm.findClass RX = some m.cls := hown
  have hl : lv_has ls 1 [(0, .ref (h 0))] := hl
  refine lv_aload_n hx hb d_X_size_0 rfl (lv_at hl 0 rfl) ?_
  refine va_get (D := D) (ci := 0) (v := .int (nI n)) (C := RX) (T := TX) (N := 15) hx hb hts inX hown hK hP 0 rfl rfl 0 (by decide) (hts _ f_X_9) (fun _ h9 => h9) rfl d_X_size_1 ?_
  exact rd_iret hx hb hr hlocks d_X_size_4 (rfl)
end MX4

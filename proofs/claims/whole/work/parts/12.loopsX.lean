section MX2
variable {D : va_G} {h : Nat → Nat} {cI cZ : ClassId} {n bt : Nat} {rk wt cl : Nat → Nat} {cc : Nat} {su sa : Nat → Nat} {sc od : Nat} {fr : Bool} {cg : Nat → Bool} {co rp : Nat → Nat} {rc : Nat}
set_option maxHeartbeats 4000000 in
set_option maxRecDepth 100000 in
theorem c_X_defaultsOfRanks (l : Launch) (f t : Nat) (hn : n ≤ 11) (hbt : bt < 2 ^ 31) (hrk : ∀ j, rk j < 8) (hf : f < 8) (ht : t < 8) : Met l y_X_defaultsOfRanks w_X_defaultsOfRanks (k2_rm 1 21) (rd_Pc D clX (wX h cI cZ n bt rk wt cl cc su sa sc od fr cg co rp rc) [(cI, .int), (cZ, .boolean)] [.ref (h 0), .int (nI f), .int (nI t)]) (k2_QcV (.int (nI (dfl bt rk f t n)))) 0 0 (fun _ => False) := by
  refine rd_met (by decide) rfl (Nat.le_of_ble_eq_true rfl) rfl ?_
  intro p e s m below meth c ls hx hb hr hml hown hts hlocks hP hK hl
  have hts : ∀ w ∈ tbl, w.before _ s = true := fun w h => hts w (List.mem_cons_of_mem _ h)
  have hown : s.vm.findClass RX = some m.cls := hown
  have hl : lv_has ls 5 [(0, .ref (h 0)), (1, .int (nI f)), (2, .int (nI t))] := hl
  refine lv_iconst (v := 0) hx hb d_X_defaultsOfRanks_0 (by decide) ?_
  refine lv_istore_n (lv' := [(3, .int 0), (0, .ref (h 0)), (1, .int (nI f)), (2, .int (nI t))]) hx hb d_X_defaultsOfRanks_1 rfl hl (by decide) rfl (fun ls hl => ?_)
  refine lv_iconst (v := 0) hx hb d_X_defaultsOfRanks_2 (by decide) ?_
  refine lv_istore (lv' := [(4, .int 0), (3, .int 0), (0, .ref (h 0)), (1, .int (nI f)), (2, .int (nI t))]) hx hb d_X_defaultsOfRanks_3 hl (by decide) rfl (fun ls hl => ?_)
  refine rd_loop (nL := 5) (σ := Nat) (n) (fun i x => [(0, .ref (h 0)), (1, .int (nI f)), (2, .int (nI t)), (3, .int (nI x)), (4, .int (nI i))]) (fun i x => x = dfl bt rk f t i) ?_ 0 0 ls (Nat.zero_le _) (rfl) (lv_sub hl [2, 3, 4, 1, 0] rfl)
  intro i x ls hi hI hl ih
  have hI : x = dfl bt rk f t i := hI
  have hl : lv_has ls 5 [(0, .ref (h 0)), (1, .int (nI f)), (2, .int (nI t)), (3, .int (nI x)), (4, .int (nI i))] := hl
  refine lv_iload hx hb d_X_defaultsOfRanks_5 (lv_at hl 4 rfl) ?_
  refine lv_aload_n hx hb d_X_defaultsOfRanks_7 rfl (lv_at hl 0 rfl) ?_
  refine va_get (D := D) (ci := 0) (v := .int (nI n)) (C := RX) (T := TX) (N := 15) hx hb hts inX hown hK hP 0 rfl rfl 0 (by decide) (hts _ f_X_9) (fun _ h9 => h9) rfl d_X_defaultsOfRanks_8 ?_
  refine lv_icmp_ge (tgt := 58) hx hb d_X_defaultsOfRanks_11 (by decide) (fun c11 => ?_) (fun c11 => ?_)
  · have hN : i = n := lp_ge hi (by omega) c11
    refine lv_iload_n hx hb d_X_defaultsOfRanks_58 rfl (lv_at hl 3 rfl) ?_
    exact rd_iret hx hb hr hlocks d_X_defaultsOfRanks_59 (by rw [hI, hN])
  · have hlt : i < n := lp_lt hi (by omega) c11
    refine lv_aload_n hx hb d_X_defaultsOfRanks_14 rfl (lv_at hl 0 rfl) ?_
    refine lv_iload hx hb d_X_defaultsOfRanks_15 (lv_at hl 4 rfl) ?_
    refine rd_V (As := [.int (nI i)]) (rest := []) ⟨hx, hb, hml, hown, hts⟩ (c_X_isHard l i (by omega) hbt) (cwV 1 hts g_X_68 rfl rfl rfl (by decide +kernel) ⟨Nat.le_of_ble_eq_true rfl, Nat.le_of_ble_eq_true rfl⟩) hK hP 0 rfl rfl rfl hl.1 rfl (Nat.le_of_ble_eq_true rfl) d_X_defaultsOfRanks_17 ⟨Nat.zero_le _, Nat.zero_le _⟩ ?_
    refine lv_if_ne (tgt := 52) hx hb d_X_defaultsOfRanks_20 (by decide) (fun c20 => ?_) (fun c20 => ?_)
    · refine lv_iinc (v := (nI (i + 1))) (lv' := [(4, .int (nI (i + 1))), (0, .ref (h 0)), (1, .int (nI f)), (2, .int (nI t)), (3, .int (nI x))]) hx hb d_X_defaultsOfRanks_52 hl (k := 4) rfl (nI_1 i) (by decide) rfl (fun ls hl => ?_)
      refine lv_goto (tgt := 5) hx hb d_X_defaultsOfRanks_55 (by decide) ?_
      exact ih hlt x ls (by show _ = dfl bt rk f t (i + 1); rw [hI, dfl, if_neg (fun q => c20 (bI_0.mpr q.1))]) (lv_sub hl [1, 2, 3, 4, 0] rfl)
    · refine lv_aload_n hx hb d_X_defaultsOfRanks_23 rfl (lv_at hl 0 rfl) ?_
      refine va_get (D := D) (ci := 0) (v := .ref (h 1)) (C := RX) (T := TX) (N := 15) hx hb hts inX hown hK hP 0 rfl rfl 2 (by decide) (hts _ f_X_16) (fun _ h9 => h9) rfl d_X_defaultsOfRanks_24 ?_
      refine lv_iload hx hb d_X_defaultsOfRanks_27 (lv_at hl 4 rfl) ?_
      refine va_iald hx hb hK hP 1 0 rfl rfl (vp_in_nI (show i < 11 by omega) (by decide)) d_X_defaultsOfRanks_29 ?_
      refine rd_top (z := nI (rk i)) (ar_nI rk (by omega)) ?_
      refine lv_iload_n hx hb d_X_defaultsOfRanks_30 rfl (lv_at hl 1 rfl) ?_
      refine lv_icmp_lt (tgt := 52) hx hb d_X_defaultsOfRanks_31 (by decide) (fun c31 => ?_) (fun c31 => ?_)
      · refine lv_iinc (v := (nI (i + 1))) (lv' := [(4, .int (nI (i + 1))), (0, .ref (h 0)), (1, .int (nI f)), (2, .int (nI t)), (3, .int (nI x))]) hx hb d_X_defaultsOfRanks_52 hl (k := 4) rfl (nI_1 i) (by decide) rfl (fun ls hl => ?_)
        refine lv_goto (tgt := 5) hx hb d_X_defaultsOfRanks_55 (by decide) ?_
        exact ih hlt x ls (by show _ = dfl bt rk f t (i + 1); rw [hI, dfl, if_neg (fun q => absurd c31 (Int32.not_lt.mpr ((nI_leI (by omega) (by have := hrk i; omega)).mpr q.2.1)))]) (lv_sub hl [1, 2, 3, 4, 0] rfl)
      · refine lv_aload_n hx hb d_X_defaultsOfRanks_34 rfl (lv_at hl 0 rfl) ?_
        refine va_get (D := D) (ci := 0) (v := .ref (h 1)) (C := RX) (T := TX) (N := 15) hx hb hts inX hown hK hP 0 rfl rfl 2 (by decide) (hts _ f_X_16) (fun _ h9 => h9) rfl d_X_defaultsOfRanks_35 ?_
        refine lv_iload hx hb d_X_defaultsOfRanks_38 (lv_at hl 4 rfl) ?_
        refine va_iald hx hb hK hP 1 0 rfl rfl (vp_in_nI (show i < 11 by omega) (by decide)) d_X_defaultsOfRanks_40 ?_
        refine rd_top (z := nI (rk i)) (ar_nI rk (by omega)) ?_
        refine lv_iload_n hx hb d_X_defaultsOfRanks_41 rfl (lv_at hl 2 rfl) ?_
        refine lv_icmp_gt (tgt := 52) hx hb d_X_defaultsOfRanks_42 (by decide) (fun c42 => ?_) (fun c42 => ?_)
        · refine lv_iinc (v := (nI (i + 1))) (lv' := [(4, .int (nI (i + 1))), (0, .ref (h 0)), (1, .int (nI f)), (2, .int (nI t)), (3, .int (nI x))]) hx hb d_X_defaultsOfRanks_52 hl (k := 4) rfl (nI_1 i) (by decide) rfl (fun ls hl => ?_)
          refine lv_goto (tgt := 5) hx hb d_X_defaultsOfRanks_55 (by decide) ?_
          exact ih hlt x ls (by show _ = dfl bt rk f t (i + 1); rw [hI, dfl, if_neg (fun q => absurd c42 (Int32.not_lt.mpr ((nI_leI (by have := hrk i; omega) (by omega)).mpr q.2.2)))]) (lv_sub hl [1, 2, 3, 4, 0] rfl)
        · refine lv_iload_n hx hb d_X_defaultsOfRanks_45 rfl (lv_at hl 3 rfl) ?_
          refine lv_iconst (v := 1) hx hb d_X_defaultsOfRanks_46 (by decide) ?_
          refine lv_iload hx hb d_X_defaultsOfRanks_47 (lv_at hl 4 rfl) ?_
          refine lv_ishl hx hb d_X_defaultsOfRanks_49 ?_
          refine rd_top (z := nI (2 ^ i)) (bx_shl i (by omega)) ?_
          refine lv_ior hx hb d_X_defaultsOfRanks_50 ?_
          refine rd_top (z := nI (x ||| 2 ^ i)) (bx_or x (2 ^ i)) ?_
          refine lv_istore_n (lv' := [(3, .int (nI (x ||| 2 ^ i))), (0, .ref (h 0)), (1, .int (nI f)), (2, .int (nI t)), (4, .int (nI i))]) hx hb d_X_defaultsOfRanks_51 rfl hl (by decide) rfl (fun ls hl => ?_)
          refine lv_iinc (v := (nI (i + 1))) (lv' := [(4, .int (nI (i + 1))), (3, .int (nI (x ||| 2 ^ i))), (0, .ref (h 0)), (1, .int (nI f)), (2, .int (nI t))]) hx hb d_X_defaultsOfRanks_52 hl (k := 4) rfl (nI_1 i) (by decide) rfl (fun ls hl => ?_)
          refine lv_goto (tgt := 5) hx hb d_X_defaultsOfRanks_55 (by decide) ?_
          exact ih hlt (x ||| 2 ^ i) ls (by show _ = dfl bt rk f t (i + 1); rw [hI, dfl, if_pos ⟨bI_0.mp c20, (nI_leI (by omega) (by have := hrk i; omega)).mp (Int32.not_lt.mp c31), (nI_leI (by have := hrk i; omega) (by omega)).mp (Int32.not_lt.mp c42)⟩]) (lv_sub hl [2, 3, 4, 1, 0] rfl)
set_option maxHeartbeats 4000000 in
set_option maxRecDepth 100000 in
theorem c_X_worth (l : Launch) (S o : Nat) (hn : n ≤ 11) (hbt : bt < 2 ^ 31) (hrk : ∀ j, rk j < 8) (hwt : ∀ j, wt j ≤ 1000) (hS2 : S < 2 ^ 31) (ho : o < 4) : Met l y_X_worth w_X_worth (k2_rm 1 21) (rd_Pc D clX (wX h cI cZ n bt rk wt cl cc su sa sc od fr cg co rp rc) [(cI, .int), (cZ, .boolean)] [.ref (h 0), .int (nI S), .int (nI o)]) (k2_QcV (.long (lN (wor bt rk wt S o n)))) 0 0 (fun _ => False) := by
  refine rd_met (by decide) rfl (Nat.le_of_ble_eq_true rfl) rfl ?_
  intro p e s m below meth c ls hx hb hr hml hown hts hlocks hP hK hl
  have hts : ∀ w ∈ tbl, w.before _ s = true := fun w h => hts w (List.mem_cons_of_mem _ h)
  have hown : s.vm.findClass RX = some m.cls := hown
  have hl : lv_has ls 6 [(0, .ref (h 0)), (1, .int (nI S)), (2, .int (nI o))] := hl
  refine lv_lconst (v := 0) hx hb d_X_worth_0 (by decide) ?_
  refine lv_lstore_n (lv' := [(3, .long 0), (0, .ref (h 0)), (1, .int (nI S)), (2, .int (nI o))]) hx hb d_X_worth_1 rfl hl (by decide) rfl (fun ls hl => ?_)
  refine lv_iconst (v := 0) hx hb d_X_worth_2 (by decide) ?_
  refine lv_istore (lv' := [(5, .int 0), (3, .long 0), (0, .ref (h 0)), (1, .int (nI S)), (2, .int (nI o))]) hx hb d_X_worth_3 hl (by decide) rfl (fun ls hl => ?_)
  refine rd_loop (nL := 6) (σ := Nat) (n) (fun i x => [(0, .ref (h 0)), (1, .int (nI S)), (2, .int (nI o)), (3, .long (lN x)), (5, .int (nI i))]) (fun i x => x = wor bt rk wt S o i) ?_ 0 0 ls (Nat.zero_le _) (rfl) (lv_sub hl [2, 3, 4, 1, 0] rfl)
  intro i x ls hi hI hl ih
  have hI : x = wor bt rk wt S o i := hI
  have hl : lv_has ls 6 [(0, .ref (h 0)), (1, .int (nI S)), (2, .int (nI o)), (3, .long (lN x)), (5, .int (nI i))] := hl
  refine lv_iload hx hb d_X_worth_5 (lv_at hl 4 rfl) ?_
  refine lv_aload_n hx hb d_X_worth_7 rfl (lv_at hl 0 rfl) ?_
  refine va_get (D := D) (ci := 0) (v := .int (nI n)) (C := RX) (T := TX) (N := 15) hx hb hts inX hown hK hP 0 rfl rfl 0 (by decide) (hts _ f_X_9) (fun _ h9 => h9) rfl d_X_worth_8 ?_
  refine lv_icmp_ge (tgt := 71) hx hb d_X_worth_11 (by decide) (fun c11 => ?_) (fun c11 => ?_)
  · have hN : i = n := lp_ge hi (by omega) c11
    refine lv_lload_n hx hb d_X_worth_71 rfl (lv_at hl 3 rfl) ?_
    exact rd_lret hx hb hr hlocks d_X_worth_72 (by rw [hI, hN])
  · have hlt : i < n := lp_lt hi (by omega) c11
    refine lv_iload_n hx hb d_X_worth_14 rfl (lv_at hl 1 rfl) ?_
    refine lv_iconst (v := 1) hx hb d_X_worth_15 (by decide) ?_
    refine lv_iload hx hb d_X_worth_16 (lv_at hl 4 rfl) ?_
    refine lv_ishl hx hb d_X_worth_18 ?_
    refine rd_top (z := nI (2 ^ i)) (bx_shl i (by omega)) ?_
    refine lv_iand hx hb d_X_worth_19 ?_
    refine lv_if_eq (tgt := 65) hx hb d_X_worth_20 (by decide) (fun c20 => ?_) (fun c20 => ?_)
    · refine lv_iinc (v := (nI (i + 1))) (lv' := [(5, .int (nI (i + 1))), (0, .ref (h 0)), (1, .int (nI S)), (2, .int (nI o)), (3, .long (lN x))]) hx hb d_X_worth_65 hl (k := 4) rfl (nI_1 i) (by decide) rfl (fun ls hl => ?_)
      refine lv_goto (tgt := 5) hx hb d_X_worth_68 (by decide) ?_
      exact ih hlt x ls (by show _ = wor bt rk wt S o (i + 1); rw [hI, wor, if_neg (fun q => absurd ((bx_bit hS2 (by omega)).mp c20) (by rw [q.1]; decide))]; rfl) (lv_sub hl [1, 2, 3, 4, 0] rfl)
    · refine lv_aload_n hx hb d_X_worth_23 rfl (lv_at hl 0 rfl) ?_
      refine lv_iload hx hb d_X_worth_24 (lv_at hl 4 rfl) ?_
      refine rd_V (As := [.int (nI i)]) (rest := []) ⟨hx, hb, hml, hown, hts⟩ (c_X_isHard l i (by omega) hbt) (cwV 1 hts g_X_68 rfl rfl rfl (by decide +kernel) ⟨Nat.le_of_ble_eq_true rfl, Nat.le_of_ble_eq_true rfl⟩) hK hP 0 rfl rfl rfl hl.1 rfl (Nat.le_of_ble_eq_true rfl) d_X_worth_26 ⟨Nat.zero_le _, Nat.zero_le _⟩ ?_
      refine lv_if_ne (tgt := 65) hx hb d_X_worth_29 (by decide) (fun c29 => ?_) (fun c29 => ?_)
      · refine lv_iinc (v := (nI (i + 1))) (lv' := [(5, .int (nI (i + 1))), (0, .ref (h 0)), (1, .int (nI S)), (2, .int (nI o)), (3, .long (lN x))]) hx hb d_X_worth_65 hl (k := 4) rfl (nI_1 i) (by decide) rfl (fun ls hl => ?_)
        refine lv_goto (tgt := 5) hx hb d_X_worth_68 (by decide) ?_
        exact ih hlt x ls (by show _ = wor bt rk wt S o (i + 1); rw [hI, wor, if_neg (fun q => c29 (bI_0.mpr q.2))]; rfl) (lv_sub hl [1, 2, 3, 4, 0] rfl)
      · refine lv_lload_n hx hb d_X_worth_32 rfl (lv_at hl 3 rfl) ?_
        refine lv_iload_n hx hb d_X_worth_33 rfl (lv_at hl 2 rfl) ?_
        refine lv_iconst (v := 2) hx hb d_X_worth_34 (by decide) ?_
        refine lv_icmp_ne (tgt := 55) hx hb d_X_worth_35 (by decide) (fun c35 => ?_) (fun c35 => ?_)
        · refine lv_aload_n hx hb d_X_worth_55 rfl (lv_at hl 0 rfl) ?_
          refine va_get (D := D) (ci := 0) (v := .ref (h 2)) (C := RX) (T := TX) (N := 15) hx hb hts inX hown hK hP 0 rfl rfl 3 (by decide) (hts _ f_X_20) (fun _ h9 => h9) rfl d_X_worth_56 ?_
          refine lv_iload hx hb d_X_worth_59 (lv_at hl 4 rfl) ?_
          refine va_iald hx hb hK hP 2 0 rfl rfl (vp_in_nI (show i < 11 by omega) (by decide)) d_X_worth_61 ?_
          refine rd_top (z := nI (wt i)) (ar_nI wt (by omega)) ?_
          refine lv_i2l (v := (nI (wt i)).toInt64) hx hb d_X_worth_62 rfl ?_
          refine rd_topl (z := lN (wt i)) (nI_l (by have := hwt i; omega)) ?_
          refine lv_ladd hx hb d_X_worth_63 ?_
          refine rd_topl (z := lN (x + wt i)) (lN_add x (wt i)) ?_
          refine lv_lstore_n (lv' := [(3, .long (lN (x + wt i))), (0, .ref (h 0)), (1, .int (nI S)), (2, .int (nI o)), (5, .int (nI i))]) hx hb d_X_worth_64 rfl hl (by decide) rfl (fun ls hl => ?_)
          refine lv_iinc (v := (nI (i + 1))) (lv' := [(5, .int (nI (i + 1))), (3, .long (lN (x + wt i))), (0, .ref (h 0)), (1, .int (nI S)), (2, .int (nI o))]) hx hb d_X_worth_65 hl (k := 4) rfl (nI_1 i) (by decide) rfl (fun ls hl => ?_)
          refine lv_goto (tgt := 5) hx hb d_X_worth_68 (by decide) ?_
          exact ih hlt (x + wt i) ls (by show _ = wor bt rk wt S o (i + 1); rw [hI, wor, if_pos ⟨show S.testBit i = true by cases hq : S.testBit i; exact absurd ((bx_bit hS2 (by omega)).mpr hq) c20; rfl, bI_0.mp c29⟩, if_neg (show ¬ o = 2 from fun q => c35 (by rw [q]; rfl))]) (lv_sub hl [2, 3, 4, 1, 0] rfl)
        · refine lv_lconst (v := 1) hx hb d_X_worth_38 (by decide) ?_
          refine lv_iconst (v := 4) hx hb d_X_worth_39 (by decide) ?_
          refine lv_bipush (v := 7) hx hb d_X_worth_40 (by decide) ?_
          refine lv_aload_n hx hb d_X_worth_42 rfl (lv_at hl 0 rfl) ?_
          refine va_get (D := D) (ci := 0) (v := .ref (h 1)) (C := RX) (T := TX) (N := 15) hx hb hts inX hown hK hP 0 rfl rfl 2 (by decide) (hts _ f_X_16) (fun _ h9 => h9) rfl d_X_worth_43 ?_
          refine lv_iload hx hb d_X_worth_46 (lv_at hl 4 rfl) ?_
          refine va_iald hx hb hK hP 1 0 rfl rfl (vp_in_nI (show i < 11 by omega) (by decide)) d_X_worth_48 ?_
          refine rd_top (z := nI (rk i)) (ar_nI rk (by omega)) ?_
          refine lv_isub hx hb d_X_worth_49 ?_
          refine rd_top (z := nI (7 - rk i)) (pk_sub (a := 7) (b := rk i) (by have := hrk i; omega)) ?_
          refine lv_imul hx hb d_X_worth_50 ?_
          refine rd_top (z := nI (4 * (7 - rk i))) (pk_mul 4 (7 - rk i)) ?_
          refine lv_lshl (v := (lN (2 ^ (4 * (7 - rk i))))) hx hb d_X_worth_51 (sh_1 (4 * (7 - rk i)) (by omega)) ?_
          refine lv_goto (tgt := 63) hx hb d_X_worth_52 (by decide) ?_
          refine lv_ladd hx hb d_X_worth_63 ?_
          refine rd_topl (z := lN (x + 2 ^ (4 * (7 - rk i)))) (lN_add x (2 ^ (4 * (7 - rk i)))) ?_
          refine lv_lstore_n (lv' := [(3, .long (lN (x + 2 ^ (4 * (7 - rk i))))), (0, .ref (h 0)), (1, .int (nI S)), (2, .int (nI o)), (5, .int (nI i))]) hx hb d_X_worth_64 rfl hl (by decide) rfl (fun ls hl => ?_)
          refine lv_iinc (v := (nI (i + 1))) (lv' := [(5, .int (nI (i + 1))), (3, .long (lN (x + 2 ^ (4 * (7 - rk i))))), (0, .ref (h 0)), (1, .int (nI S)), (2, .int (nI o))]) hx hb d_X_worth_65 hl (k := 4) rfl (nI_1 i) (by decide) rfl (fun ls hl => ?_)
          refine lv_goto (tgt := 5) hx hb d_X_worth_68 (by decide) ?_
          exact ih hlt (x + 2 ^ (4 * (7 - rk i))) ls (by show _ = wor bt rk wt S o (i + 1); rw [hI, wor, if_pos ⟨show S.testBit i = true by cases hq : S.testBit i; exact absurd ((bx_bit hS2 (by omega)).mpr hq) c20; rfl, bI_0.mp c29⟩, if_pos (show o = 2 from (nI_eq (by omega) (by decide)).mp c35)]) (lv_sub hl [2, 3, 4, 1, 0] rfl)
end MX2

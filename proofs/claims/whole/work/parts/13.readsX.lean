section MX3
variable {D : va_G} {h : Nat → Nat} {cI cZ : ClassId} {n bt : Nat} {rk wt cl : Nat → Nat} {cc : Nat} {su sa : Nat → Nat} {sc od : Nat} {fr : Bool} {cg : Nat → Bool} {co rp : Nat → Nat} {rc : Nat}
set_option maxHeartbeats 4000000 in
set_option maxRecDepth 100000 in
theorem c_X_hasMoreByRank (l : Launch) (a b : Nat) (hn : n ≤ 11) (hbt : bt < 2 ^ 31) (hrk : ∀ j, rk j < 8) : Met l y_X_hasMoreByRank w_X_hasMoreByRank (k2_rm 2 45) (rd_Pc D clX (wX h cI cZ n bt rk wt cl cc su sa sc od fr cg co rp rc) [(cI, .int), (cZ, .boolean)] [.ref (h 0), .int (nI a), .int (nI b)]) (k2_QcV (.int (bI (hmr (fun r => dfl bt rk r r n) a b 8 0)))) 0 0 (fun _ => False) := by
  refine rd_met (by decide) rfl (Nat.le_of_ble_eq_true rfl) rfl ?_
  intro p e s m below meth c ls hx hb hr hml hown hts hlocks hP hK hl
  have hts : ∀ w ∈ tbl, w.before _ s = true := fun w h => hts w (List.mem_cons_of_mem _ h)
  have hown : s.vm.findClass RX = some m.cls := hown
  have hl : lv_has ls 5 [(0, .ref (h 0)), (1, .int (nI a)), (2, .int (nI b))] := hl
  refine lv_iconst (v := 0) hx hb d_X_hasMoreByRank_0 (by decide) ?_
  refine lv_istore_n (lv' := [(3, .int 0), (0, .ref (h 0)), (1, .int (nI a)), (2, .int (nI b))]) hx hb d_X_hasMoreByRank_1 rfl hl (by decide) rfl (fun ls hl => ?_)
  refine rd_loop (nL := 5) (σ := Unit) (8) (fun i _ => [(0, .ref (h 0)), (1, .int (nI a)), (2, .int (nI b)), (3, .int (nI i))]) (fun i _ => hmr (fun r => dfl bt rk r r n) a b 8 0 = hmr (fun r => dfl bt rk r r n) a b (8 - i) i) ?_ 0 () ls (Nat.zero_le _) (rfl) (lv_sub hl [1, 2, 3, 0] rfl)
  intro i _ ls hi hI hl ih
  have hI : hmr (fun r => dfl bt rk r r n) a b 8 0 = hmr (fun r => dfl bt rk r r n) a b (8 - i) i := hI
  have hl : lv_has ls 5 [(0, .ref (h 0)), (1, .int (nI a)), (2, .int (nI b)), (3, .int (nI i))] := hl
  refine lv_iload_n hx hb d_X_hasMoreByRank_2 rfl (lv_at hl 3 rfl) ?_
  refine lv_bipush (v := 7) hx hb d_X_hasMoreByRank_3 (by decide) ?_
  refine lv_icmp_gt (tgt := 45) hx hb d_X_hasMoreByRank_5 (by decide) (fun c5 => ?_) (fun c5 => ?_)
  · have hN : i = 8 := by have := (nI_ltI (a := 7) (b := i) (by decide) (by omega)).mp c5; omega
    refine lv_iconst (v := 0) hx hb d_X_hasMoreByRank_45 (by decide) ?_
    exact rd_zret hx hb hr hlocks d_X_hasMoreByRank_46 (by rw [hI, hN]; rfl)
  · have hlt : i < 8 := by rcases Nat.lt_or_ge i 8 with q | q; exact q; exact absurd ((nI_ltI (a := 7) (b := i) (by decide) (by omega)).mpr (by omega)) c5
    refine lv_aload_n hx hb d_X_hasMoreByRank_8 rfl (lv_at hl 0 rfl) ?_
    refine lv_iload_n hx hb d_X_hasMoreByRank_9 rfl (lv_at hl 3 rfl) ?_
    refine lv_iload_n hx hb d_X_hasMoreByRank_10 rfl (lv_at hl 3 rfl) ?_
    refine rd_V (As := [.int (nI i), .int (nI i)]) (rest := []) ⟨hx, hb, hml, hown, hts⟩ (c_X_defaultsOfRanks l i i hn hbt hrk (by omega) (by omega)) (cwV 2 hts g_X_121 rfl rfl rfl (by decide +kernel) ⟨Nat.le_of_ble_eq_true rfl, Nat.le_of_ble_eq_true rfl⟩) hK hP 0 rfl rfl rfl hl.1 rfl (Nat.le_of_ble_eq_true rfl) d_X_hasMoreByRank_11 ⟨Nat.zero_le _, Nat.zero_le _⟩ ?_
    refine lv_istore (lv' := [(4, .int (nI (dfl bt rk i i n))), (0, .ref (h 0)), (1, .int (nI a)), (2, .int (nI b)), (3, .int (nI i))]) hx hb d_X_hasMoreByRank_14 hl (by decide) rfl (fun ls hl => ?_)
    refine lv_iload_n hx hb d_X_hasMoreByRank_16 rfl (lv_at hl 2 rfl) ?_
    refine lv_iload hx hb d_X_hasMoreByRank_17 (lv_at hl 0 rfl) ?_
    refine lv_iand hx hb d_X_hasMoreByRank_19 ?_
    refine rd_top (z := nI (a &&& dfl bt rk i i n)) (bx_and _ _) ?_
    refine lv_iload_n hx hb d_X_hasMoreByRank_20 rfl (lv_at hl 3 rfl) ?_
    refine lv_iload hx hb d_X_hasMoreByRank_21 (lv_at hl 0 rfl) ?_
    refine lv_iand hx hb d_X_hasMoreByRank_23 ?_
    refine rd_top (z := nI (b &&& dfl bt rk i i n)) (bx_and _ _) ?_
    refine lv_icmp_eq (tgt := 39) hx hb d_X_hasMoreByRank_24 (by decide) (fun c24 => ?_) (fun c24 => ?_)
    · refine lv_iinc (v := (nI (i + 1))) (lv' := [(3, .int (nI (i + 1))), (4, .int (nI (dfl bt rk i i n))), (0, .ref (h 0)), (1, .int (nI a)), (2, .int (nI b))]) hx hb d_X_hasMoreByRank_39 hl (k := 4) rfl (nI_1 i) (by decide) rfl (fun ls hl => ?_)
      refine lv_goto (tgt := 2) hx hb d_X_hasMoreByRank_42 (by decide) ?_
      exact ih hlt () ls (by show hmr (fun r => dfl bt rk r r n) a b 8 0 = hmr (fun r => dfl bt rk r r n) a b (8 - (i + 1)) (i + 1); rw [hI, show 8 - i = (8 - (i + 1)) + 1 by omega, hmr, if_pos ((nI_eq (show a &&& dfl bt rk i i n < 2 ^ 31 from Nat.and_lt_two_pow a (Nat.lt_of_lt_of_le (dfl_lt n) (Nat.pow_le_pow_right (by decide) (by omega)))) (show b &&& dfl bt rk i i n < 2 ^ 31 from Nat.and_lt_two_pow b (Nat.lt_of_lt_of_le (dfl_lt n) (Nat.pow_le_pow_right (by decide) (by omega))))).mp c24)]) (lv_sub hl [2, 3, 4, 0] rfl)
    · refine lv_iload_n hx hb d_X_hasMoreByRank_27 rfl (lv_at hl 2 rfl) ?_
      refine lv_iload hx hb d_X_hasMoreByRank_28 (lv_at hl 0 rfl) ?_
      refine lv_iand hx hb d_X_hasMoreByRank_30 ?_
      refine rd_top (z := nI (a &&& dfl bt rk i i n)) (bx_and _ _) ?_
      refine lv_iload_n hx hb d_X_hasMoreByRank_31 rfl (lv_at hl 3 rfl) ?_
      refine lv_iload hx hb d_X_hasMoreByRank_32 (lv_at hl 0 rfl) ?_
      refine lv_iand hx hb d_X_hasMoreByRank_34 ?_
      refine rd_top (z := nI (b &&& dfl bt rk i i n)) (bx_and _ _) ?_
      refine rd_S (As := [.int (nI (a &&& dfl bt rk i i n)), .int (nI (b &&& dfl bt rk i i n))]) (rest := []) ⟨hx, hb, hml, hown, hts⟩ (c_X_hasMore l (a &&& dfl bt rk i i n) (b &&& dfl bt rk i i n) (show a &&& dfl bt rk i i n < 2 ^ 31 from Nat.and_lt_two_pow a (Nat.lt_of_lt_of_le (dfl_lt n) (Nat.pow_le_pow_right (by decide) (by omega)))) (show b &&& dfl bt rk i i n < 2 ^ 31 from Nat.and_lt_two_pow b (Nat.lt_of_lt_of_le (dfl_lt n) (Nat.pow_le_pow_right (by decide) (by omega))))) (cwS 2 hts g_X_108 rfl rfl rfl (by decide +kernel) ⟨Nat.le_of_ble_eq_true rfl, Nat.le_of_ble_eq_true rfl⟩) rfl hl.1 rfl (Nat.le_of_ble_eq_true rfl) d_X_hasMoreByRank_35 ⟨Nat.zero_le _, Nat.zero_le _⟩ ?_
      exact rd_zret hx hb hr hlocks d_X_hasMoreByRank_38 (by rw [hI, show 8 - i = (8 - (i + 1)) + 1 by omega, hmr, if_neg (fun q => c24 (congrArg nI q))])
set_option maxHeartbeats 4000000 in
set_option maxRecDepth 100000 in
theorem c_X_isBetter (l : Launch) (a b o : Nat) (hn : n ≤ 11) (hbt : bt < 2 ^ 31) (hrk : ∀ j, rk j < 8) (hwt : ∀ j, wt j ≤ 1000) (ha : a < 2 ^ 31) (hb2 : b < 2 ^ 31) (ho : o < 4) : Met l y_X_isBetter w_X_isBetter (k2_rm 3 69) (rd_Pc D clX (wX h cI cZ n bt rk wt cl cc su sa sc od fr cg co rp rc) [(cI, .int), (cZ, .boolean)] [.ref (h 0), .int (nI a), .int (nI b), .int (nI o)]) (k2_QcV (.int (bI (betX n bt rk wt a b o)))) 0 0 (fun _ => False) := by
  refine rd_met (by decide) rfl (Nat.le_of_ble_eq_true rfl) rfl ?_
  intro p e s m below meth c ls hx hb hr hml hown hts hlocks hP hK hl
  have hts : ∀ w ∈ tbl, w.before _ s = true := fun w h => hts w (List.mem_cons_of_mem _ h)
  have hown : s.vm.findClass RX = some m.cls := hown
  have hl : lv_has ls 4 [(0, .ref (h 0)), (1, .int (nI a)), (2, .int (nI b)), (3, .int (nI o))] := hl
  refine lv_iload_n hx hb d_X_isBetter_0 rfl (lv_at hl 3 rfl) ?_
  refine lv_if_ne (tgt := 10) hx hb d_X_isBetter_1 (by decide) (fun c1 => ?_) (fun c1 => ?_)
  · have ho0 : ¬ o = 0 := fun q => c1 (by rw [q]; rfl)
    refine lv_iload_n hx hb d_X_isBetter_10 rfl (lv_at hl 3 rfl) ?_
    refine lv_iconst (v := 1) hx hb d_X_isBetter_11 (by decide) ?_
    refine lv_icmp_ne (tgt := 22) hx hb d_X_isBetter_12 (by decide) (fun c12 => ?_) (fun c12 => ?_)
    · have ho1 : ¬ o = 1 := fun q => c12 (by rw [q]; rfl)
      refine lv_aload_n hx hb d_X_isBetter_22 rfl (lv_at hl 0 rfl) ?_
      refine lv_iload_n hx hb d_X_isBetter_23 rfl (lv_at hl 1 rfl) ?_
      refine lv_iload_n hx hb d_X_isBetter_24 rfl (lv_at hl 3 rfl) ?_
      refine rd_V (As := [.int (nI a), .int (nI o)]) (rest := []) ⟨hx, hb, hml, hown, hts⟩ (c_X_worth l a o hn hbt hrk hwt ha ho) (cwV 2 hts g_X_114 rfl rfl rfl (by decide +kernel) ⟨Nat.le_of_ble_eq_true rfl, Nat.le_of_ble_eq_true rfl⟩) hK hP 0 rfl rfl rfl hl.1 rfl (Nat.le_of_ble_eq_true rfl) d_X_isBetter_25 ⟨Nat.zero_le _, Nat.zero_le _⟩ ?_
      refine lv_aload_n hx hb d_X_isBetter_28 rfl (lv_at hl 0 rfl) ?_
      refine lv_iload_n hx hb d_X_isBetter_29 rfl (lv_at hl 2 rfl) ?_
      refine lv_iload_n hx hb d_X_isBetter_30 rfl (lv_at hl 3 rfl) ?_
      refine rd_V (As := [.int (nI b), .int (nI o)]) (rest := [.long (lN (wor bt rk wt a o n))]) ⟨hx, hb, hml, hown, hts⟩ (c_X_worth l b o hn hbt hrk hwt hb2 ho) (cwV 2 hts g_X_114 rfl rfl rfl (by decide +kernel) ⟨Nat.le_of_ble_eq_true rfl, Nat.le_of_ble_eq_true rfl⟩) hK hP 0 rfl rfl rfl hl.1 rfl (Nat.le_of_ble_eq_true rfl) d_X_isBetter_31 ⟨Nat.zero_le _, Nat.zero_le _⟩ ?_
      refine W.lcmp hx hb d_X_isBetter_34 ?_
      refine lv_if_le (tgt := 42) hx hb d_X_isBetter_35 (by decide) (fun c35 => ?_) (fun c35 => ?_)
      · refine lv_iconst (v := 0) hx hb d_X_isBetter_42 (by decide) ?_
        exact rd_zret hx hb hr hlocks d_X_isBetter_43 (by rw [betX, if_neg ho0, if_neg ho1, decide_eq_false (Nat.not_lt.mpr ((pk_lLE (Nat.lt_trans (wor_lt hwt hn) (by decide)) (Nat.lt_trans (wor_lt hwt hn) (by decide))).mp ((lg_cmp_le _ _).mp c35)))]; rfl)
      · refine lv_iconst (v := 1) hx hb d_X_isBetter_38 (by decide) ?_
        refine lv_goto (tgt := 43) hx hb d_X_isBetter_39 (by decide) ?_
        exact rd_zret hx hb hr hlocks d_X_isBetter_43 (by rw [betX, if_neg ho0, if_neg ho1, decide_eq_true (Nat.lt_of_not_le (fun q => c35 ((lg_cmp_le _ _).mpr ((pk_lLE (Nat.lt_trans (wor_lt hwt hn) (by decide)) (Nat.lt_trans (wor_lt hwt hn) (by decide))).mpr q))))]; rfl)
    · have ho1 : o = 1 := (nI_eq (b := 1) (by omega) (by decide)).mp c12
      refine lv_aload_n hx hb d_X_isBetter_15 rfl (lv_at hl 0 rfl) ?_
      refine lv_iload_n hx hb d_X_isBetter_16 rfl (lv_at hl 1 rfl) ?_
      refine lv_iload_n hx hb d_X_isBetter_17 rfl (lv_at hl 2 rfl) ?_
      refine rd_V (As := [.int (nI a), .int (nI b)]) (rest := []) ⟨hx, hb, hml, hown, hts⟩ (c_X_hasMoreByRank l a b hn hbt hrk) (cwV 2 hts g_X_111 rfl rfl rfl (by decide +kernel) ⟨Nat.le_of_ble_eq_true rfl, Nat.le_of_ble_eq_true rfl⟩) hK hP 0 rfl rfl rfl hl.1 rfl (Nat.le_of_ble_eq_true rfl) d_X_isBetter_18 ⟨Nat.zero_le _, Nat.zero_le _⟩ ?_
      exact rd_zret hx hb hr hlocks d_X_isBetter_21 (by rw [betX, if_neg ho0, if_pos ho1])
  · have ho0 : o = 0 := (nI_eq (b := 0) (by omega) (by decide)).mp c1
    refine lv_iload_n hx hb d_X_isBetter_4 rfl (lv_at hl 1 rfl) ?_
    refine lv_iload_n hx hb d_X_isBetter_5 rfl (lv_at hl 2 rfl) ?_
    refine rd_S (As := [.int (nI a), .int (nI b)]) (rest := []) ⟨hx, hb, hml, hown, hts⟩ (c_X_hasMore l a b ha hb2) (cwS 2 hts g_X_108 rfl rfl rfl (by decide +kernel) ⟨Nat.le_of_ble_eq_true rfl, Nat.le_of_ble_eq_true rfl⟩) rfl hl.1 rfl (Nat.le_of_ble_eq_true rfl) d_X_isBetter_6 ⟨Nat.zero_le _, Nat.zero_le _⟩ ?_
    exact rd_zret hx hb hr hlocks d_X_isBetter_9 (by rw [betX, if_pos ho0])
set_option maxHeartbeats 4000000 in
set_option maxRecDepth 100000 in
theorem c_X_supportsOf (l : Launch) (a : Nat) (ha : a < 2 ^ 31) (hsc : sc ≤ 20) (hsa : ∀ j, sa j < 8) : Met l y_X_supportsOf w_X_supportsOf (k2_rm 0 0) (rd_Pc D clX (wX h cI cZ n bt rk wt cl cc su sa sc od fr cg co rp rc) [(cI, .int), (cZ, .boolean)] [.ref (h 0), .int (nI a)]) (k2_QcV (.int (nI (cntB (fun k => decide (sa k = a)) sc)))) 0 0 (fun _ => False) := by
  refine rd_met (by decide) rfl (Nat.le_of_ble_eq_true rfl) rfl ?_
  intro p e s m below meth c ls hx hb hr hml hown hts hlocks hP hK hl
  have hts : ∀ w ∈ tbl, w.before _ s = true := fun w h => hts w (List.mem_cons_of_mem _ h)
  have hown : s.vm.findClass RX = some m.cls := hown
  have hl : lv_has ls 4 [(0, .ref (h 0)), (1, .int (nI a))] := hl
  refine lv_iconst (v := 0) hx hb d_X_supportsOf_0 (by decide) ?_
  refine lv_istore_n (lv' := [(2, .int 0), (0, .ref (h 0)), (1, .int (nI a))]) hx hb d_X_supportsOf_1 rfl hl (by decide) rfl (fun ls hl => ?_)
  refine lv_iconst (v := 0) hx hb d_X_supportsOf_2 (by decide) ?_
  refine lv_istore_n (lv' := [(3, .int 0), (2, .int 0), (0, .ref (h 0)), (1, .int (nI a))]) hx hb d_X_supportsOf_3 rfl hl (by decide) rfl (fun ls hl => ?_)
  refine rd_loop (nL := 4) (σ := Nat) (sc) (fun i x => [(0, .ref (h 0)), (1, .int (nI a)), (2, .int (nI x)), (3, .int (nI i))]) (fun i x => x = cntB (fun k => decide (sa k = a)) i) ?_ 0 0 ls (Nat.zero_le _) (rfl) (lv_sub hl [2, 3, 1, 0] rfl)
  intro i x ls hi hI hl ih
  have hI : x = cntB (fun k => decide (sa k = a)) i := hI
  have hl : lv_has ls 4 [(0, .ref (h 0)), (1, .int (nI a)), (2, .int (nI x)), (3, .int (nI i))] := hl
  refine lv_iload_n hx hb d_X_supportsOf_4 rfl (lv_at hl 3 rfl) ?_
  refine lv_aload_n hx hb d_X_supportsOf_5 rfl (lv_at hl 0 rfl) ?_
  refine va_get (D := D) (ci := 0) (v := .int (nI sc)) (C := RX) (T := TX) (N := 15) hx hb hts inX hown hK hP 0 rfl rfl 8 (by decide) (hts _ f_X_35) (fun _ h9 => h9) rfl d_X_supportsOf_6 ?_
  refine lv_icmp_ge (tgt := 31) hx hb d_X_supportsOf_9 (by decide) (fun c9 => ?_) (fun c9 => ?_)
  · have hN : i = sc := lp_ge hi (by omega) c9
    refine lv_iload_n hx hb d_X_supportsOf_31 rfl (lv_at hl 2 rfl) ?_
    exact rd_iret hx hb hr hlocks d_X_supportsOf_32 (by rw [hI, hN])
  · have hlt : i < sc := lp_lt hi (by omega) c9
    refine lv_aload_n hx hb d_X_supportsOf_12 rfl (lv_at hl 0 rfl) ?_
    refine va_get (D := D) (ci := 0) (v := .ref (h 5)) (C := RX) (T := TX) (N := 15) hx hb hts inX hown hK hP 0 rfl rfl 7 (by decide) (hts _ f_X_32) (fun _ h9 => h9) rfl d_X_supportsOf_13 ?_
    refine lv_iload_n hx hb d_X_supportsOf_16 rfl (lv_at hl 3 rfl) ?_
    refine va_iald hx hb hK hP 5 0 rfl rfl (vp_in_nI (show i < 20 by omega) (by decide)) d_X_supportsOf_17 ?_
    refine rd_top (z := nI (sa i)) (ar_nI sa (by omega)) ?_
    refine lv_iload_n hx hb d_X_supportsOf_18 rfl (lv_at hl 1 rfl) ?_
    refine lv_icmp_ne (tgt := 25) hx hb d_X_supportsOf_19 (by decide) (fun c19 => ?_) (fun c19 => ?_)
    · refine lv_iinc (v := (nI (i + 1))) (lv' := [(3, .int (nI (i + 1))), (0, .ref (h 0)), (1, .int (nI a)), (2, .int (nI x))]) hx hb d_X_supportsOf_25 hl (k := 3) rfl (nI_1 i) (by decide) rfl (fun ls hl => ?_)
      refine lv_goto (tgt := 4) hx hb d_X_supportsOf_28 (by decide) ?_
      exact ih hlt x ls (by show _ = cntB (fun k => decide (sa k = a)) (i + 1); rw [hI, cntB, if_neg (by simpa using fun q => c19 (congrArg nI q))]; rfl) (lv_sub hl [1, 2, 3, 0] rfl)
    · refine lv_iinc (v := (nI (x + 1))) (lv' := [(2, .int (nI (x + 1))), (0, .ref (h 0)), (1, .int (nI a)), (3, .int (nI i))]) hx hb d_X_supportsOf_22 hl (k := 2) rfl (nI_1 x) (by decide) rfl (fun ls hl => ?_)
      refine lv_iinc (v := (nI (i + 1))) (lv' := [(3, .int (nI (i + 1))), (2, .int (nI (x + 1))), (0, .ref (h 0)), (1, .int (nI a))]) hx hb d_X_supportsOf_25 hl (k := 3) rfl (nI_1 i) (by decide) rfl (fun ls hl => ?_)
      refine lv_goto (tgt := 4) hx hb d_X_supportsOf_28 (by decide) ?_
      exact ih hlt (x + 1) ls (by show _ = cntB (fun k => decide (sa k = a)) (i + 1); rw [hI, cntB, if_pos (by simpa using (nI_eq (by have := hsa i; omega) ha).mp c19)]) (lv_sub hl [2, 3, 1, 0] rfl)
set_option maxHeartbeats 4000000 in
set_option maxRecDepth 100000 in
theorem c_X_holds (l : Launch) (a S : Nat) (ha : a < 2 ^ 31) (hsc : sc ≤ 20) (hsa : ∀ j, sa j < 8) (hsu : ∀ j, su j < 2048) : Met l y_X_holds w_X_holds (k2_rm 1 21) (rd_Pc D clX (wX h cI cZ n bt rk wt cl cc su sa sc od fr cg co rp rc) [(cI, .int), (cZ, .boolean)] [.ref (h 0), .int (nI a), .int (nI S)]) (k2_QcV (.int (bI (holX sa su sc a S)))) 0 0 (fun _ => False) := by
  refine rd_met (by decide) rfl (Nat.le_of_ble_eq_true rfl) rfl ?_
  intro p e s m below meth c ls hx hb hr hml hown hts hlocks hP hK hl
  have hts : ∀ w ∈ tbl, w.before _ s = true := fun w h => hts w (List.mem_cons_of_mem _ h)
  have hown : s.vm.findClass RX = some m.cls := hown
  have hl : lv_has ls 4 [(0, .ref (h 0)), (1, .int (nI a)), (2, .int (nI S))] := hl
  refine lv_iconst (v := 0) hx hb d_X_holds_0 (by decide) ?_
  refine lv_istore_n (lv' := [(3, .int 0), (0, .ref (h 0)), (1, .int (nI a)), (2, .int (nI S))]) hx hb d_X_holds_1 rfl hl (by decide) rfl (fun ls hl => ?_)
  refine rd_loop (nL := 4) (σ := Unit) (sc) (fun i _ => [(0, .ref (h 0)), (1, .int (nI a)), (2, .int (nI S)), (3, .int (nI i))]) (fun i _ => anyB (fun k => decide (sa k = a) && sp_sub (su k) S) i = false) ?_ 0 () ls (Nat.zero_le _) (rfl) (lv_sub hl [1, 2, 3, 0] rfl)
  intro i _ ls hi hI hl ih
  have hI : anyB (fun k => decide (sa k = a) && sp_sub (su k) S) i = false := hI
  have hl : lv_has ls 4 [(0, .ref (h 0)), (1, .int (nI a)), (2, .int (nI S)), (3, .int (nI i))] := hl
  refine lv_iload_n hx hb d_X_holds_2 rfl (lv_at hl 3 rfl) ?_
  refine lv_aload_n hx hb d_X_holds_3 rfl (lv_at hl 0 rfl) ?_
  refine va_get (D := D) (ci := 0) (v := .int (nI sc)) (C := RX) (T := TX) (N := 15) hx hb hts inX hown hK hP 0 rfl rfl 8 (by decide) (hts _ f_X_35) (fun _ h9 => h9) rfl d_X_holds_4 ?_
  refine lv_icmp_ge (tgt := 41) hx hb d_X_holds_7 (by decide) (fun c7 => ?_) (fun c7 => ?_)
  · have hN : i = sc := lp_ge hi (by omega) c7
    refine lv_iconst (v := 0) hx hb d_X_holds_41 (by decide) ?_
    exact rd_zret hx hb hr hlocks d_X_holds_42 (by rw [holX, ← hN, hI]; rfl)
  · have hlt : i < sc := lp_lt hi (by omega) c7
    refine lv_aload_n hx hb d_X_holds_10 rfl (lv_at hl 0 rfl) ?_
    refine va_get (D := D) (ci := 0) (v := .ref (h 5)) (C := RX) (T := TX) (N := 15) hx hb hts inX hown hK hP 0 rfl rfl 7 (by decide) (hts _ f_X_32) (fun _ h9 => h9) rfl d_X_holds_11 ?_
    refine lv_iload_n hx hb d_X_holds_14 rfl (lv_at hl 3 rfl) ?_
    refine va_iald hx hb hK hP 5 0 rfl rfl (vp_in_nI (show i < 20 by omega) (by decide)) d_X_holds_15 ?_
    refine rd_top (z := nI (sa i)) (ar_nI sa (by omega)) ?_
    refine lv_iload_n hx hb d_X_holds_16 rfl (lv_at hl 1 rfl) ?_
    refine lv_icmp_ne (tgt := 35) hx hb d_X_holds_17 (by decide) (fun c17 => ?_) (fun c17 => ?_)
    · refine lv_iinc (v := (nI (i + 1))) (lv' := [(3, .int (nI (i + 1))), (0, .ref (h 0)), (1, .int (nI a)), (2, .int (nI S))]) hx hb d_X_holds_35 hl (k := 3) rfl (nI_1 i) (by decide) rfl (fun ls hl => ?_)
      refine lv_goto (tgt := 2) hx hb d_X_holds_38 (by decide) ?_
      exact ih hlt () ls (anyB_next hI (by show (decide (sa i = a) && _) = false; rw [decide_eq_false (fun q => c17 (congrArg nI q))]; rfl)) (lv_sub hl [1, 2, 3, 0] rfl)
    · refine lv_aload_n hx hb d_X_holds_20 rfl (lv_at hl 0 rfl) ?_
      refine va_get (D := D) (ci := 0) (v := .ref (h 4)) (C := RX) (T := TX) (N := 15) hx hb hts inX hown hK hP 0 rfl rfl 6 (by decide) (hts _ f_X_29) (fun _ h9 => h9) rfl d_X_holds_21 ?_
      refine lv_iload_n hx hb d_X_holds_24 rfl (lv_at hl 3 rfl) ?_
      refine va_iald hx hb hK hP 4 0 rfl rfl (vp_in_nI (show i < 20 by omega) (by decide)) d_X_holds_25 ?_
      refine rd_top (z := nI (su i)) (ar_nI su (by omega)) ?_
      refine lv_iload_n hx hb d_X_holds_26 rfl (lv_at hl 2 rfl) ?_
      refine rd_S (As := [.int (nI (su i)), .int (nI S)]) (rest := []) ⟨hx, hb, hml, hown, hts⟩ (c_X_isPart l (su i) S (by have := hsu i; omega)) (cwS 2 hts g_X_118 rfl rfl rfl (by decide +kernel) ⟨Nat.le_of_ble_eq_true rfl, Nat.le_of_ble_eq_true rfl⟩) rfl hl.1 rfl (Nat.le_of_ble_eq_true rfl) d_X_holds_27 ⟨Nat.zero_le _, Nat.zero_le _⟩ ?_
      refine lv_if_eq (tgt := 35) hx hb d_X_holds_30 (by decide) (fun c30 => ?_) (fun c30 => ?_)
      · refine lv_iinc (v := (nI (i + 1))) (lv' := [(3, .int (nI (i + 1))), (0, .ref (h 0)), (1, .int (nI a)), (2, .int (nI S))]) hx hb d_X_holds_35 hl (k := 3) rfl (nI_1 i) (by decide) rfl (fun ls hl => ?_)
        refine lv_goto (tgt := 2) hx hb d_X_holds_38 (by decide) ?_
        exact ih hlt () ls (anyB_next hI (by show (_ && sp_sub (su i) S) = false; rw [bI_0.mp c30, Bool.and_false])) (lv_sub hl [1, 2, 3, 0] rfl)
      · refine lv_iconst (v := 1) hx hb d_X_holds_33 (by decide) ?_
        exact rd_zret hx hb hr hlocks d_X_holds_34 (by rw [holX, anyB_of hlt (by show (decide (sa i = a) && sp_sub (su i) S) = true; rw [decide_eq_true ((nI_eq (by have := hsa i; omega) ha).mp c17), show sp_sub (su i) S = true by cases hq : sp_sub (su i) S; exact absurd (bI_0.mpr hq) c30; rfl]; rfl)]; rfl)
set_option maxHeartbeats 4000000 in
set_option maxRecDepth 100000 in
theorem c_X_verdict (l : Launch) (x : Nat) (hx2 : x < 2 ^ 31) (hrc : rc < 2 ^ 31) : Met l y_X_verdict w_X_verdict (k2_rm 0 0) (rd_Pc D clX (wX h cI cZ n bt rk wt cl cc su sa sc od fr cg co rp rc) [(cI, .int), (cZ, .boolean)] [.ref (h 0), .int (nI x)]) (k2_QcV (.int (vdt rc x))) 0 0 (fun _ => False) := by
  refine rd_met (by decide) rfl (Nat.le_of_ble_eq_true rfl) rfl ?_
  intro p e s m below meth c ls hx hb hr hml hown hts hlocks hP hK hl
  have hts : ∀ w ∈ tbl, w.before _ s = true := fun w h => hts w (List.mem_cons_of_mem _ h)
  have hown : s.vm.findClass RX = some m.cls := hown
  have hl : lv_has ls 2 [(0, .ref (h 0)), (1, .int (nI x))] := hl
  refine lv_aload_n hx hb d_X_verdict_0 rfl (lv_at hl 0 rfl) ?_
  refine va_get (D := D) (ci := 0) (v := .int (nI rc)) (C := RX) (T := TX) (N := 15) hx hb hts inX hown hK hP 0 rfl rfl 14 (by decide) (hts _ f_X_55) (fun _ h9 => h9) rfl d_X_verdict_1 ?_
  refine lv_if_ne (tgt := 10) hx hb d_X_verdict_4 (by decide) (fun c4 => ?_) (fun c4 => ?_)
  · have h0 : ¬ rc = 0 := fun q => c4 (by rw [q]; rfl)
    refine lv_iload_n hx hb d_X_verdict_10 rfl (lv_at hl 1 rfl) ?_
    refine lv_aload_n hx hb d_X_verdict_11 rfl (lv_at hl 0 rfl) ?_
    refine va_get (D := D) (ci := 0) (v := .int (nI rc)) (C := RX) (T := TX) (N := 15) hx hb hts inX hown hK hP 0 rfl rfl 14 (by decide) (hts _ f_X_55) (fun _ h9 => h9) rfl d_X_verdict_12 ?_
    refine lv_icmp_ne (tgt := 20) hx hb d_X_verdict_15 (by decide) (fun c15 => ?_) (fun c15 => ?_)
    · refine lv_iload_n hx hb d_X_verdict_20 rfl (lv_at hl 1 rfl) ?_
      refine lv_if_le (tgt := 28) hx hb d_X_verdict_21 (by decide) (fun c21 => ?_) (fun c21 => ?_)
      · refine lv_iconst (v := 0) hx hb d_X_verdict_28 (by decide) ?_
        exact rd_iret hx hb hr hlocks d_X_verdict_29 (by rw [vdt, if_neg h0, if_neg (fun q => c15 (congrArg nI q)), if_neg (fun q => nI_nle q hx2 c21)])
      · refine lv_iconst (v := 1) hx hb d_X_verdict_24 (by decide) ?_
        refine lv_goto (tgt := 29) hx hb d_X_verdict_25 (by decide) ?_
        exact rd_iret hx hb hr hlocks d_X_verdict_29 (by rw [vdt, if_neg h0, if_neg (fun q => c15 (congrArg nI q)), if_pos (Nat.pos_of_ne_zero (fun q => c21 (by rw [q]; decide)))])
    · refine lv_iconst (v := 2) hx hb d_X_verdict_18 (by decide) ?_
      exact rd_iret hx hb hr hlocks d_X_verdict_19 (by rw [vdt, if_neg h0, if_pos ((nI_eq hx2 hrc).mp c15)])
  · have h0 : rc = 0 := (nI_eq (b := 0) hrc (by decide)).mp c4
    refine lv_bipush (v := (-2)) hx hb d_X_verdict_7 (by decide) ?_
    exact rd_iret hx hb hr hlocks d_X_verdict_9 (by rw [vdt, if_pos h0])
set_option maxHeartbeats 4000000 in
set_option maxRecDepth 100000 in
theorem c_X_isLeast (l : Launch) (S : Nat) (hn : n ≤ 11) (hS2 : S < 2 ^ 31) (hcc : cc ≤ 40) (hcl : ∀ j, cl j < 2048) : Met l y_X_isLeast w_X_isLeast (k2_rm 2 42) (rd_Pc D clX (wX h cI cZ n bt rk wt cl cc su sa sc od fr cg co rp rc) [(cI, .int), (cZ, .boolean)] [.ref (h 0), .int (nI S)]) (k2_QcV (.int (bI (isLX n cl cc S)))) 0 0 (fun _ => False) := by
  refine rd_met (by decide) rfl (Nat.le_of_ble_eq_true rfl) rfl ?_
  intro p e s m below meth c ls hx hb hr hml hown hts hlocks hP hK hl
  have hts : ∀ w ∈ tbl, w.before _ s = true := fun w h => hts w (List.mem_cons_of_mem _ h)
  have hown : s.vm.findClass RX = some m.cls := hown
  have hl : lv_has ls 3 [(0, .ref (h 0)), (1, .int (nI S))] := hl
  refine lv_iload_n hx hb d_X_isLeast_0 rfl (lv_at hl 1 rfl) ?_
  refine lv_aload_n hx hb d_X_isLeast_1 rfl (lv_at hl 0 rfl) ?_
  refine rd_V (As := []) (rest := [.int (nI S)]) ⟨hx, hb, hml, hown, hts⟩ (c_X_statementBits l hn) (cwV 0 hts g_X_94 rfl rfl rfl (by decide +kernel) ⟨Nat.le_of_ble_eq_true rfl, Nat.le_of_ble_eq_true rfl⟩) hK hP 0 rfl rfl rfl hl.1 rfl (Nat.le_of_ble_eq_true rfl) d_X_isLeast_2 ⟨Nat.zero_le _, Nat.zero_le _⟩ ?_
  refine rd_S (As := [.int (nI S), .int (nI (2 ^ n - 1))]) (rest := []) ⟨hx, hb, hml, hown, hts⟩ (c_X_isPart l S (2 ^ n - 1) hS2) (cwS 2 hts g_X_118 rfl rfl rfl (by decide +kernel) ⟨Nat.le_of_ble_eq_true rfl, Nat.le_of_ble_eq_true rfl⟩) rfl hl.1 rfl (Nat.le_of_ble_eq_true rfl) d_X_isLeast_5 ⟨Nat.zero_le _, Nat.zero_le _⟩ ?_
  refine lv_if_ne (tgt := 13) hx hb d_X_isLeast_8 (by decide) (fun c8 => ?_) (fun c8 => ?_)
  · refine lv_iconst (v := 0) hx hb d_X_isLeast_13 (by decide) ?_
    refine lv_istore_n (lv' := [(2, .int 0), (0, .ref (h 0)), (1, .int (nI S))]) hx hb d_X_isLeast_14 rfl hl (by decide) rfl (fun ls hl => ?_)
    refine rd_loop (nL := 3) (σ := Unit) (cc) (fun i _ => [(0, .ref (h 0)), (1, .int (nI S)), (2, .int (nI i))]) (fun i _ => anyB (fun k => hasM S (cl k)) i = false) ?_ 0 () ls (Nat.zero_le _) (rfl) (lv_sub hl [1, 2, 0] rfl)
    intro i _ ls hi hI hl ih
    have hI : anyB (fun k => hasM S (cl k)) i = false := hI
    have hl : lv_has ls 3 [(0, .ref (h 0)), (1, .int (nI S)), (2, .int (nI i))] := hl
    refine lv_iload_n hx hb d_X_isLeast_15 rfl (lv_at hl 2 rfl) ?_
    refine lv_aload_n hx hb d_X_isLeast_16 rfl (lv_at hl 0 rfl) ?_
    refine va_get (D := D) (ci := 0) (v := .int (nI cc)) (C := RX) (T := TX) (N := 15) hx hb hts inX hown hK hP 0 rfl rfl 5 (by decide) (hts _ f_X_26) (fun _ h9 => h9) rfl d_X_isLeast_17 ?_
    refine lv_icmp_ge (tgt := 44) hx hb d_X_isLeast_20 (by decide) (fun c20 => ?_) (fun c20 => ?_)
    · have hN : i = cc := lp_ge hi (by omega) c20
      refine lv_iconst (v := 1) hx hb d_X_isLeast_44 (by decide) ?_
      exact rd_zret hx hb hr hlocks d_X_isLeast_45 (by rw [isLX, ← hN, hI, show sp_sub S (2 ^ n - 1) = true by cases hq : sp_sub S (2 ^ n - 1); exact absurd (bI_0.mpr hq) c8; rfl]; rfl)
    · have hlt : i < cc := lp_lt hi (by omega) c20
      refine lv_iload_n hx hb d_X_isLeast_23 rfl (lv_at hl 1 rfl) ?_
      refine lv_aload_n hx hb d_X_isLeast_24 rfl (lv_at hl 0 rfl) ?_
      refine va_get (D := D) (ci := 0) (v := .ref (h 3)) (C := RX) (T := TX) (N := 15) hx hb hts inX hown hK hP 0 rfl rfl 4 (by decide) (hts _ f_X_23) (fun _ h9 => h9) rfl d_X_isLeast_25 ?_
      refine lv_iload_n hx hb d_X_isLeast_28 rfl (lv_at hl 2 rfl) ?_
      refine va_iald hx hb hK hP 3 0 rfl rfl (vp_in_nI (show i < 40 by omega) (by decide)) d_X_isLeast_29 ?_
      refine rd_top (z := nI (cl i)) (ar_nI cl (by omega)) ?_
      refine rd_S (As := [.int (nI S), .int (nI (cl i))]) (rest := []) ⟨hx, hb, hml, hown, hts⟩ (c_X_hasMore l S (cl i) hS2 (by have := hcl i; omega)) (cwS 2 hts g_X_108 rfl rfl rfl (by decide +kernel) ⟨Nat.le_of_ble_eq_true rfl, Nat.le_of_ble_eq_true rfl⟩) rfl hl.1 rfl (Nat.le_of_ble_eq_true rfl) d_X_isLeast_30 ⟨Nat.zero_le _, Nat.zero_le _⟩ ?_
      refine lv_if_eq (tgt := 38) hx hb d_X_isLeast_33 (by decide) (fun c33 => ?_) (fun c33 => ?_)
      · refine lv_iinc (v := (nI (i + 1))) (lv' := [(2, .int (nI (i + 1))), (0, .ref (h 0)), (1, .int (nI S))]) hx hb d_X_isLeast_38 hl (k := 2) rfl (nI_1 i) (by decide) rfl (fun ls hl => ?_)
        refine lv_goto (tgt := 15) hx hb d_X_isLeast_41 (by decide) ?_
        exact ih hlt () ls (anyB_next hI (bI_0.mp c33)) (lv_sub hl [1, 2, 0] rfl)
      · refine lv_iconst (v := 0) hx hb d_X_isLeast_36 (by decide) ?_
        exact rd_zret hx hb hr hlocks d_X_isLeast_37 (by rw [isLX, anyB_of (P := fun k => hasM S (cl k)) hlt (show hasM S (cl i) = true by cases hq : hasM S (cl i); exact absurd (bI_0.mpr hq) c33; rfl), Bool.not_true, Bool.and_false]; rfl)
  · refine lv_iconst (v := 0) hx hb d_X_isLeast_11 (by decide) ?_
    exact rd_zret hx hb hr hlocks d_X_isLeast_12 (by rw [isLX, bI_0.mp c8]; rfl)
set_option maxHeartbeats 4000000 in
set_option maxRecDepth 100000 in
theorem c_X_hasClashingPart (l : Launch) (S : Nat) (hn : n ≤ 11) (hS2 : S < 2048) : Met l y_X_hasClashingPart w_X_hasClashingPart (k2_rm 0 0) (rd_Pc D clX (wX h cI cZ n bt rk wt cl cc su sa sc od fr cg co rp rc) [(cI, .int), (cZ, .boolean)] [.ref (h 0), .int (nI S)]) (k2_QcV (.int (bI (anyB (fun i => S.testBit i && cg (S ^^^ 2 ^ i)) n)))) 0 0 (fun _ => False) := by
  refine rd_met (by decide) rfl (Nat.le_of_ble_eq_true rfl) rfl ?_
  intro p e s m below meth c ls hx hb hr hml hown hts hlocks hP hK hl
  have hts : ∀ w ∈ tbl, w.before _ s = true := fun w h => hts w (List.mem_cons_of_mem _ h)
  have hown : s.vm.findClass RX = some m.cls := hown
  have hl : lv_has ls 4 [(0, .ref (h 0)), (1, .int (nI S))] := hl
  refine lv_iconst (v := 0) hx hb d_X_hasClashingPart_0 (by decide) ?_
  refine lv_istore_n (lv' := [(2, .int 0), (0, .ref (h 0)), (1, .int (nI S))]) hx hb d_X_hasClashingPart_1 rfl hl (by decide) rfl (fun ls hl => ?_)
  refine rd_loop (nL := 4) (σ := Unit) (n) (fun i _ => [(0, .ref (h 0)), (1, .int (nI S)), (2, .int (nI i))]) (fun i _ => anyB (fun i => S.testBit i && cg (S ^^^ 2 ^ i)) i = false) ?_ 0 () ls (Nat.zero_le _) (rfl) (lv_sub hl [1, 2, 0] rfl)
  intro i _ ls hi hI hl ih
  have hI : anyB (fun i => S.testBit i && cg (S ^^^ 2 ^ i)) i = false := hI
  have hl : lv_has ls 4 [(0, .ref (h 0)), (1, .int (nI S)), (2, .int (nI i))] := hl
  refine lv_iload_n hx hb d_X_hasClashingPart_2 rfl (lv_at hl 2 rfl) ?_
  refine lv_aload_n hx hb d_X_hasClashingPart_3 rfl (lv_at hl 0 rfl) ?_
  refine va_get (D := D) (ci := 0) (v := .int (nI n)) (C := RX) (T := TX) (N := 15) hx hb hts inX hown hK hP 0 rfl rfl 0 (by decide) (hts _ f_X_9) (fun _ h9 => h9) rfl d_X_hasClashingPart_4 ?_
  refine lv_icmp_ge (tgt := 39) hx hb d_X_hasClashingPart_7 (by decide) (fun c7 => ?_) (fun c7 => ?_)
  · have hN : i = n := lp_ge hi (by omega) c7
    refine lv_iconst (v := 0) hx hb d_X_hasClashingPart_39 (by decide) ?_
    exact rd_zret hx hb hr hlocks d_X_hasClashingPart_40 (by rw [← hN, hI]; rfl)
  · have hlt : i < n := lp_lt hi (by omega) c7
    refine lv_iconst (v := 1) hx hb d_X_hasClashingPart_10 (by decide) ?_
    refine lv_iload_n hx hb d_X_hasClashingPart_11 rfl (lv_at hl 2 rfl) ?_
    refine lv_ishl hx hb d_X_hasClashingPart_12 ?_
    refine rd_top (z := nI (2 ^ i)) (bx_shl i (by omega)) ?_
    refine lv_istore_n (lv' := [(3, .int (nI (2 ^ i))), (0, .ref (h 0)), (1, .int (nI S)), (2, .int (nI i))]) hx hb d_X_hasClashingPart_13 rfl hl (by decide) rfl (fun ls hl => ?_)
    refine lv_iload_n hx hb d_X_hasClashingPart_14 rfl (lv_at hl 2 rfl) ?_
    refine lv_iload_n hx hb d_X_hasClashingPart_15 rfl (lv_at hl 0 rfl) ?_
    refine lv_iand hx hb d_X_hasClashingPart_16 ?_
    refine lv_if_eq (tgt := 33) hx hb d_X_hasClashingPart_17 (by decide) (fun c17 => ?_) (fun c17 => ?_)
    · refine lv_iinc (v := (nI (i + 1))) (lv' := [(2, .int (nI (i + 1))), (3, .int (nI (2 ^ i))), (0, .ref (h 0)), (1, .int (nI S))]) hx hb d_X_hasClashingPart_33 hl (k := 3) rfl (nI_1 i) (by decide) rfl (fun ls hl => ?_)
      refine lv_goto (tgt := 2) hx hb d_X_hasClashingPart_36 (by decide) ?_
      exact ih hlt () ls (anyB_next hI (by show (S.testBit i && _) = false; rw [(bx_bit (by omega) (by omega)).mp c17]; rfl)) (lv_sub hl [2, 3, 0] rfl)
    · refine lv_aload_n hx hb d_X_hasClashingPart_20 rfl (lv_at hl 1 rfl) ?_
      refine va_get (D := D) (ci := 0) (v := .ref (h 6)) (C := RX) (T := TX) (N := 15) hx hb hts inX hown hK hP 0 rfl rfl 11 (by decide) (hts _ f_X_45) (fun _ h9 => h9) rfl d_X_hasClashingPart_21 ?_
      refine lv_iload_n hx hb d_X_hasClashingPart_24 rfl (lv_at hl 2 rfl) ?_
      refine lv_iload_n hx hb d_X_hasClashingPart_25 rfl (lv_at hl 0 rfl) ?_
      refine lv_ixor hx hb d_X_hasClashingPart_26 ?_
      refine rd_top (z := nI (S ^^^ 2 ^ i)) (bx_xor S (2 ^ i)) ?_
      refine va_zald hx hb hK hP 6 1 rfl rfl (vp_in_nI (show S ^^^ 2 ^ i < 2048 from Nat.xor_lt_two_pow (n := 11) hS2 (Nat.pow_lt_pow_right (by decide) (by omega))) (by decide)) d_X_hasClashingPart_27 ?_
      refine rd_top (z := bI (cg (S ^^^ 2 ^ i))) (ar_bI cg (show S ^^^ 2 ^ i < 2 ^ 31 from Nat.lt_trans (Nat.xor_lt_two_pow (n := 11) hS2 (Nat.pow_lt_pow_right (by decide) (by omega))) (by decide))) ?_
      refine lv_if_eq (tgt := 33) hx hb d_X_hasClashingPart_28 (by decide) (fun c28 => ?_) (fun c28 => ?_)
      · refine lv_iinc (v := (nI (i + 1))) (lv' := [(2, .int (nI (i + 1))), (3, .int (nI (2 ^ i))), (0, .ref (h 0)), (1, .int (nI S))]) hx hb d_X_hasClashingPart_33 hl (k := 3) rfl (nI_1 i) (by decide) rfl (fun ls hl => ?_)
        refine lv_goto (tgt := 2) hx hb d_X_hasClashingPart_36 (by decide) ?_
        exact ih hlt () ls (anyB_next hI (by show (_ && cg (S ^^^ 2 ^ i)) = false; rw [bI_0.mp c28, Bool.and_false])) (lv_sub hl [2, 3, 0] rfl)
      · refine lv_iconst (v := 1) hx hb d_X_hasClashingPart_31 (by decide) ?_
        exact rd_zret hx hb hr hlocks d_X_hasClashingPart_32 (by rw [anyB_of (P := fun i => S.testBit i && cg (S ^^^ 2 ^ i)) hlt (by show (S.testBit i && cg (S ^^^ 2 ^ i)) = true; rw [show S.testBit i = true by cases hq : S.testBit i; exact absurd ((bx_bit (by omega) (by omega)).mpr hq) c17; rfl, show cg (S ^^^ 2 ^ i) = true by cases hq : cg (S ^^^ 2 ^ i); exact absurd (bI_0.mpr hq) c28; rfl]; rfl)]; rfl)
set_option maxHeartbeats 4000000 in
set_option maxRecDepth 100000 in
theorem c_X_canGrow (l : Launch) (S : Nat) (hn : n ≤ 11) (hS2 : S < 2048) : Met l y_X_canGrow w_X_canGrow (k2_rm 0 0) (rd_Pc D clX (wX h cI cZ n bt rk wt cl cc su sa sc od fr cg co rp rc) [(cI, .int), (cZ, .boolean)] [.ref (h 0), .int (nI S)]) (k2_QcV (.int (bI (anyB (fun i => !S.testBit i && !cg ((S &&& co i) ||| 2 ^ i)) n)))) 0 0 (fun _ => False) := by
  refine rd_met (by decide) rfl (Nat.le_of_ble_eq_true rfl) rfl ?_
  intro p e s m below meth c ls hx hb hr hml hown hts hlocks hP hK hl
  have hts : ∀ w ∈ tbl, w.before _ s = true := fun w h => hts w (List.mem_cons_of_mem _ h)
  have hown : s.vm.findClass RX = some m.cls := hown
  have hl : lv_has ls 4 [(0, .ref (h 0)), (1, .int (nI S))] := hl
  refine lv_iconst (v := 0) hx hb d_X_canGrow_0 (by decide) ?_
  refine lv_istore_n (lv' := [(2, .int 0), (0, .ref (h 0)), (1, .int (nI S))]) hx hb d_X_canGrow_1 rfl hl (by decide) rfl (fun ls hl => ?_)
  refine rd_loop (nL := 4) (σ := Unit) (n) (fun i _ => [(0, .ref (h 0)), (1, .int (nI S)), (2, .int (nI i))]) (fun i _ => anyB (fun i => !S.testBit i && !cg ((S &&& co i) ||| 2 ^ i)) i = false) ?_ 0 () ls (Nat.zero_le _) (rfl) (lv_sub hl [1, 2, 0] rfl)
  intro i _ ls hi hI hl ih
  have hI : anyB (fun i => !S.testBit i && !cg ((S &&& co i) ||| 2 ^ i)) i = false := hI
  have hl : lv_has ls 4 [(0, .ref (h 0)), (1, .int (nI S)), (2, .int (nI i))] := hl
  refine lv_iload_n hx hb d_X_canGrow_2 rfl (lv_at hl 2 rfl) ?_
  refine lv_aload_n hx hb d_X_canGrow_3 rfl (lv_at hl 0 rfl) ?_
  refine va_get (D := D) (ci := 0) (v := .int (nI n)) (C := RX) (T := TX) (N := 15) hx hb hts inX hown hK hP 0 rfl rfl 0 (by decide) (hts _ f_X_9) (fun _ h9 => h9) rfl d_X_canGrow_4 ?_
  refine lv_icmp_ge (tgt := 46) hx hb d_X_canGrow_7 (by decide) (fun c7 => ?_) (fun c7 => ?_)
  · have hN : i = n := lp_ge hi (by omega) c7
    refine lv_iconst (v := 0) hx hb d_X_canGrow_46 (by decide) ?_
    exact rd_zret hx hb hr hlocks d_X_canGrow_47 (by rw [← hN, hI]; rfl)
  · have hlt : i < n := lp_lt hi (by omega) c7
    refine lv_iconst (v := 1) hx hb d_X_canGrow_10 (by decide) ?_
    refine lv_iload_n hx hb d_X_canGrow_11 rfl (lv_at hl 2 rfl) ?_
    refine lv_ishl hx hb d_X_canGrow_12 ?_
    refine rd_top (z := nI (2 ^ i)) (bx_shl i (by omega)) ?_
    refine lv_istore_n (lv' := [(3, .int (nI (2 ^ i))), (0, .ref (h 0)), (1, .int (nI S)), (2, .int (nI i))]) hx hb d_X_canGrow_13 rfl hl (by decide) rfl (fun ls hl => ?_)
    refine lv_iload_n hx hb d_X_canGrow_14 rfl (lv_at hl 2 rfl) ?_
    refine lv_iload_n hx hb d_X_canGrow_15 rfl (lv_at hl 0 rfl) ?_
    refine lv_iand hx hb d_X_canGrow_16 ?_
    refine lv_if_ne (tgt := 40) hx hb d_X_canGrow_17 (by decide) (fun c17 => ?_) (fun c17 => ?_)
    · refine lv_iinc (v := (nI (i + 1))) (lv' := [(2, .int (nI (i + 1))), (3, .int (nI (2 ^ i))), (0, .ref (h 0)), (1, .int (nI S))]) hx hb d_X_canGrow_40 hl (k := 3) rfl (nI_1 i) (by decide) rfl (fun ls hl => ?_)
      refine lv_goto (tgt := 2) hx hb d_X_canGrow_43 (by decide) ?_
      exact ih hlt () ls (anyB_next hI (by show (!S.testBit i && _) = false; rw [show S.testBit i = true by cases hq : S.testBit i; exact absurd ((bx_bit (by omega) (by omega)).mpr hq) c17; rfl]; rfl)) (lv_sub hl [2, 3, 0] rfl)
    · refine lv_aload_n hx hb d_X_canGrow_20 rfl (lv_at hl 1 rfl) ?_
      refine va_get (D := D) (ci := 0) (v := .ref (h 6)) (C := RX) (T := TX) (N := 15) hx hb hts inX hown hK hP 0 rfl rfl 11 (by decide) (hts _ f_X_45) (fun _ h9 => h9) rfl d_X_canGrow_21 ?_
      refine lv_iload_n hx hb d_X_canGrow_24 rfl (lv_at hl 2 rfl) ?_
      refine lv_aload_n hx hb d_X_canGrow_25 rfl (lv_at hl 1 rfl) ?_
      refine va_get (D := D) (ci := 0) (v := .ref (h 7)) (C := RX) (T := TX) (N := 15) hx hb hts inX hown hK hP 0 rfl rfl 12 (by decide) (hts _ f_X_49) (fun _ h9 => h9) rfl d_X_canGrow_26 ?_
      refine lv_iload_n hx hb d_X_canGrow_29 rfl (lv_at hl 3 rfl) ?_
      refine va_iald hx hb hK hP 7 0 rfl rfl (vp_in_nI (show i < 11 by omega) (by decide)) d_X_canGrow_30 ?_
      refine rd_top (z := nI (co i)) (ar_nI co (by omega)) ?_
      refine lv_iand hx hb d_X_canGrow_31 ?_
      refine rd_top (z := nI (S &&& co i)) (bx_and _ _) ?_
      refine lv_iload_n hx hb d_X_canGrow_32 rfl (lv_at hl 0 rfl) ?_
      refine lv_ior hx hb d_X_canGrow_33 ?_
      refine rd_top (z := nI ((S &&& co i) ||| 2 ^ i)) (bx_or _ _) ?_
      refine va_zald hx hb hK hP 6 1 rfl rfl (vp_in_nI (show (S &&& co i) ||| 2 ^ i < 2048 from Nat.or_lt_two_pow (n := 11) (Nat.lt_of_le_of_lt Nat.and_le_left hS2) (Nat.pow_lt_pow_right (by decide) (by omega))) (by decide)) d_X_canGrow_34 ?_
      refine rd_top (z := bI (cg ((S &&& co i) ||| 2 ^ i))) (ar_bI cg (Nat.lt_trans (show (S &&& co i) ||| 2 ^ i < 2048 from Nat.or_lt_two_pow (n := 11) (Nat.lt_of_le_of_lt Nat.and_le_left hS2) (Nat.pow_lt_pow_right (by decide) (by omega))) (by decide))) ?_
      refine lv_if_ne (tgt := 40) hx hb d_X_canGrow_35 (by decide) (fun c35 => ?_) (fun c35 => ?_)
      · refine lv_iinc (v := (nI (i + 1))) (lv' := [(2, .int (nI (i + 1))), (3, .int (nI (2 ^ i))), (0, .ref (h 0)), (1, .int (nI S))]) hx hb d_X_canGrow_40 hl (k := 3) rfl (nI_1 i) (by decide) rfl (fun ls hl => ?_)
        refine lv_goto (tgt := 2) hx hb d_X_canGrow_43 (by decide) ?_
        exact ih hlt () ls (anyB_next hI (by show (_ && !cg ((S &&& co i) ||| 2 ^ i)) = false; rw [show cg ((S &&& co i) ||| 2 ^ i) = true by cases hq : cg ((S &&& co i) ||| 2 ^ i); exact absurd (bI_0.mpr hq) c35; rfl, Bool.not_true, Bool.and_false])) (lv_sub hl [2, 3, 0] rfl)
      · refine lv_iconst (v := 1) hx hb d_X_canGrow_38 (by decide) ?_
        exact rd_zret hx hb hr hlocks d_X_canGrow_39 (by rw [anyB_of (P := fun i => !S.testBit i && !cg ((S &&& co i) ||| 2 ^ i)) hlt (by show (!S.testBit i && !cg ((S &&& co i) ||| 2 ^ i)) = true; rw [(bx_bit (by omega) (by omega)).mp c17, bI_0.mp c35]; rfl)]; rfl)
set_option maxHeartbeats 4000000 in
set_option maxRecDepth 100000 in
theorem c_X_isKept (l : Launch) (S : Nat) (hS2 : S < 2048) (hbt : bt < 2 ^ 31) : Met l y_X_isKept w_X_isKept (k2_rm 1 21) (rd_Pc D clX (wX h cI cZ n bt rk wt cl cc su sa sc od fr cg co rp rc) [(cI, .int), (cZ, .boolean)] [.ref (h 0), .int (nI S)]) (k2_QcV (.int (bI (sp_sub bt S && !cg S)))) 0 0 (fun _ => False) := by
  refine rd_met (by decide) rfl (Nat.le_of_ble_eq_true rfl) rfl ?_
  intro p e s m below meth c ls hx hb hr hml hown hts hlocks hP hK hl
  have hts : ∀ w ∈ tbl, w.before _ s = true := fun w h => hts w (List.mem_cons_of_mem _ h)
  have hown : s.vm.findClass RX = some m.cls := hown
  have hl : lv_has ls 2 [(0, .ref (h 0)), (1, .int (nI S))] := hl
  refine lv_aload_n hx hb d_X_isKept_0 rfl (lv_at hl 0 rfl) ?_
  refine va_get (D := D) (ci := 0) (v := .int (nI bt)) (C := RX) (T := TX) (N := 15) hx hb hts inX hown hK hP 0 rfl rfl 1 (by decide) (hts _ f_X_13) (fun _ h9 => h9) rfl d_X_isKept_1 ?_
  refine lv_iload_n hx hb d_X_isKept_4 rfl (lv_at hl 1 rfl) ?_
  refine rd_S (As := [.int (nI bt), .int (nI S)]) (rest := []) ⟨hx, hb, hml, hown, hts⟩ (c_X_isPart l bt S hbt) (cwS 2 hts g_X_118 rfl rfl rfl (by decide +kernel) ⟨Nat.le_of_ble_eq_true rfl, Nat.le_of_ble_eq_true rfl⟩) rfl hl.1 rfl (Nat.le_of_ble_eq_true rfl) d_X_isKept_5 ⟨Nat.zero_le _, Nat.zero_le _⟩ ?_
  refine lv_if_eq (tgt := 24) hx hb d_X_isKept_8 (by decide) (fun c8 => ?_) (fun c8 => ?_)
  · refine lv_iconst (v := 0) hx hb d_X_isKept_24 (by decide) ?_
    exact rd_zret hx hb hr hlocks d_X_isKept_25 (by rw [bI_0.mp c8]; rfl)
  · refine lv_aload_n hx hb d_X_isKept_11 rfl (lv_at hl 0 rfl) ?_
    refine va_get (D := D) (ci := 0) (v := .ref (h 6)) (C := RX) (T := TX) (N := 15) hx hb hts inX hown hK hP 0 rfl rfl 11 (by decide) (hts _ f_X_45) (fun _ h9 => h9) rfl d_X_isKept_12 ?_
    refine lv_iload_n hx hb d_X_isKept_15 rfl (lv_at hl 1 rfl) ?_
    refine va_zald hx hb hK hP 6 1 rfl rfl (vp_in_nI hS2 (by decide)) d_X_isKept_16 ?_
    refine rd_top (z := bI (cg S)) (ar_bI cg (by omega)) ?_
    refine lv_if_ne (tgt := 24) hx hb d_X_isKept_17 (by decide) (fun c17 => ?_) (fun c17 => ?_)
    · refine lv_iconst (v := 0) hx hb d_X_isKept_24 (by decide) ?_
      exact rd_zret hx hb hr hlocks d_X_isKept_25 (by rw [show cg S = true by cases hq : cg S; exact absurd (bI_0.mpr hq) c17; rfl, Bool.not_true, Bool.and_false]; rfl)
    · refine lv_iconst (v := 1) hx hb d_X_isKept_20 (by decide) ?_
      refine lv_goto (tgt := 25) hx hb d_X_isKept_21 (by decide) ?_
      exact rd_zret hx hb hr hlocks d_X_isKept_25 (by rw [show sp_sub bt S = true by cases hq : sp_sub bt S; exact absurd (bI_0.mpr hq) c8; rfl, bI_0.mp c17]; rfl)
/-- what a set keeps when it takes statement i in, by order o -/
def comX (n bt : Nat) (rk : Nat → Nat) (od i : Nat) : Nat := if od = 0 then 2 ^ n - 1 else bt ||| dfl bt rk 0 (rk i) n
set_option maxHeartbeats 4000000 in
set_option maxRecDepth 100000 in
theorem c_X_companyOf (l : Launch) (i : Nat) (hi : i < 11) (hn : n ≤ 11) (hbt : bt < 2 ^ 31) (hrk : ∀ j, rk j < 8) (ho : od < 4) : Met l y_X_companyOf w_X_companyOf (k2_rm 2 45) (rd_Pc D clX (wX h cI cZ n bt rk wt cl cc su sa sc od fr cg co rp rc) [(cI, .int), (cZ, .boolean)] [.ref (h 0), .int (nI i)]) (k2_QcV (.int (nI (comX n bt rk od i)))) 0 0 (fun _ => False) := by
  refine rd_met (by decide) rfl (Nat.le_of_ble_eq_true rfl) rfl ?_
  intro p e s m below meth c ls hx hb hr hml hown hts hlocks hP hK hl
  have hts : ∀ w ∈ tbl, w.before _ s = true := fun w h => hts w (List.mem_cons_of_mem _ h)
  have hown : s.vm.findClass RX = some m.cls := hown
  have hl : lv_has ls 2 [(0, .ref (h 0)), (1, .int (nI i))] := hl
  refine lv_aload_n hx hb d_X_companyOf_0 rfl (lv_at hl 0 rfl) ?_
  refine va_get (D := D) (ci := 0) (v := .int (nI od)) (C := RX) (T := TX) (N := 15) hx hb hts inX hown hK hP 0 rfl rfl 9 (by decide) (hts _ f_X_38) (fun _ h9 => h9) rfl d_X_companyOf_1 ?_
  refine lv_if_ne (tgt := 12) hx hb d_X_companyOf_4 (by decide) (fun c4 => ?_) (fun c4 => ?_)
  · refine lv_aload_n hx hb d_X_companyOf_12 rfl (lv_at hl 0 rfl) ?_
    refine va_get (D := D) (ci := 0) (v := .int (nI bt)) (C := RX) (T := TX) (N := 15) hx hb hts inX hown hK hP 0 rfl rfl 1 (by decide) (hts _ f_X_13) (fun _ h9 => h9) rfl d_X_companyOf_13 ?_
    refine lv_aload_n hx hb d_X_companyOf_16 rfl (lv_at hl 0 rfl) ?_
    refine lv_iconst (v := 0) hx hb d_X_companyOf_17 (by decide) ?_
    refine rd_top (z := nI 0) (rfl) ?_
    refine lv_aload_n hx hb d_X_companyOf_18 rfl (lv_at hl 0 rfl) ?_
    refine va_get (D := D) (ci := 0) (v := .ref (h 1)) (C := RX) (T := TX) (N := 15) hx hb hts inX hown hK hP 0 rfl rfl 2 (by decide) (hts _ f_X_16) (fun _ h9 => h9) rfl d_X_companyOf_19 ?_
    refine lv_iload_n hx hb d_X_companyOf_22 rfl (lv_at hl 1 rfl) ?_
    refine va_iald hx hb hK hP 1 0 rfl rfl (vp_in_nI hi (by decide)) d_X_companyOf_23 ?_
    refine rd_top (z := nI (rk i)) (ar_nI rk (by omega)) ?_
    refine rd_V (As := [.int (nI 0), .int (nI (rk i))]) (rest := [.int (nI bt)]) ⟨hx, hb, hml, hown, hts⟩ (c_X_defaultsOfRanks l 0 (rk i) hn hbt hrk (by decide) (hrk i)) (cwV 2 hts g_X_121 rfl rfl rfl (by decide +kernel) ⟨Nat.le_of_ble_eq_true rfl, Nat.le_of_ble_eq_true rfl⟩) hK hP 0 rfl rfl rfl hl.1 rfl (Nat.le_of_ble_eq_true rfl) d_X_companyOf_24 ⟨Nat.zero_le _, Nat.zero_le _⟩ ?_
    refine lv_ior hx hb d_X_companyOf_27 ?_
    refine rd_top (z := nI (bt ||| dfl bt rk 0 (rk i) n)) (bx_or _ _) ?_
    exact rd_iret hx hb hr hlocks d_X_companyOf_28 (by rw [comX, if_neg (fun q => c4 (by rw [q]; rfl))])
  · refine lv_aload_n hx hb d_X_companyOf_7 rfl (lv_at hl 0 rfl) ?_
    refine rd_V (As := []) (rest := []) ⟨hx, hb, hml, hown, hts⟩ (c_X_statementBits l hn) (cwV 0 hts g_X_94 rfl rfl rfl (by decide +kernel) ⟨Nat.le_of_ble_eq_true rfl, Nat.le_of_ble_eq_true rfl⟩) hK hP 0 rfl rfl rfl hl.1 rfl (Nat.le_of_ble_eq_true rfl) d_X_companyOf_8 ⟨Nat.zero_le _, Nat.zero_le _⟩ ?_
    exact rd_iret hx hb hr hlocks d_X_companyOf_11 (by rw [comX, if_pos ((nI_eq (b := 0) (by omega) (by decide)).mp c4)])
end MX3

section MX1
variable {D : va_G} {h : Nat → Nat} {cI cZ : ClassId} {n bt : Nat} {rk wt cl : Nat → Nat} {cc : Nat} {su sa : Nat → Nat} {sc od : Nat} {fr : Bool} {cg : Nat → Bool} {co rp : Nat → Nat} {rc : Nat}
set_option maxHeartbeats 4000000 in
set_option maxRecDepth 100000 in
theorem c_X_isRank (l : Launch) (x : Int32) : Met l y_X_isRank w_X_isRank (k2_rm 0 0) (rd_P0 [.int x]) (k2_QcV (.int (bI (okR x)))) 0 0 (fun _ => False) := by
  refine rd_met0 (by decide) rfl (Nat.le_of_ble_eq_true rfl) rfl ?_
  intro p e s m below meth c ls hx hb hr hml hown hts hlocks hl
  have hts : ∀ w ∈ tbl, w.before _ s = true := fun w h => hts w (List.mem_cons_of_mem _ h)
  have hown : s.vm.findClass RX = some m.cls := hown
  have hl : lv_has ls 1 [(0, .int x)] := hl
  refine lv_iload_n hx hb d_X_isRank_0 rfl (lv_at hl 0 rfl) ?_
  refine lv_if_lt (tgt := 14) hx hb d_X_isRank_1 (by decide) (fun c1 => ?_) (fun c1 => ?_)
  · refine lv_iconst (v := 0) hx hb d_X_isRank_14 (by decide) ?_
    exact rd_zret hx hb hr hlocks d_X_isRank_15 (by simp [okR, bI, c1])
  · refine lv_iload_n hx hb d_X_isRank_4 rfl (lv_at hl 0 rfl) ?_
    refine lv_bipush (v := 7) hx hb d_X_isRank_5 (by decide) ?_
    refine lv_icmp_gt (tgt := 14) hx hb d_X_isRank_7 (by decide) (fun c7 => ?_) (fun c7 => ?_)
    · refine lv_iconst (v := 0) hx hb d_X_isRank_14 (by decide) ?_
      exact rd_zret hx hb hr hlocks d_X_isRank_15 (by simp [okR, bI, c1, c7])
    · refine lv_iconst (v := 1) hx hb d_X_isRank_10 (by decide) ?_
      refine lv_goto (tgt := 15) hx hb d_X_isRank_11 (by decide) ?_
      exact rd_zret hx hb hr hlocks d_X_isRank_15 (by simp [okR, bI, c1, c7])
set_option maxHeartbeats 4000000 in
set_option maxRecDepth 100000 in
theorem c_X_isWeight (l : Launch) (x : Int32) : Met l y_X_isWeight w_X_isWeight (k2_rm 0 0) (rd_P0 [.int x]) (k2_QcV (.int (bI (okW x)))) 0 0 (fun _ => False) := by
  refine rd_met0 (by decide) rfl (Nat.le_of_ble_eq_true rfl) rfl ?_
  intro p e s m below meth c ls hx hb hr hml hown hts hlocks hl
  have hts : ∀ w ∈ tbl, w.before _ s = true := fun w h => hts w (List.mem_cons_of_mem _ h)
  have hown : s.vm.findClass RX = some m.cls := hown
  have hl : lv_has ls 1 [(0, .int x)] := hl
  refine lv_iload_n hx hb d_X_isWeight_0 rfl (lv_at hl 0 rfl) ?_
  refine lv_iconst (v := 1) hx hb d_X_isWeight_1 (by decide) ?_
  refine lv_icmp_lt (tgt := 16) hx hb d_X_isWeight_2 (by decide) (fun c2 => ?_) (fun c2 => ?_)
  · refine lv_iconst (v := 0) hx hb d_X_isWeight_16 (by decide) ?_
    exact rd_zret hx hb hr hlocks d_X_isWeight_17 (by simp [okW, bI, c2])
  · refine lv_iload_n hx hb d_X_isWeight_5 rfl (lv_at hl 0 rfl) ?_
    refine lv_sipush (v := 1000) hx hb d_X_isWeight_6 (by decide) ?_
    refine lv_icmp_gt (tgt := 16) hx hb d_X_isWeight_9 (by decide) (fun c9 => ?_) (fun c9 => ?_)
    · refine lv_iconst (v := 0) hx hb d_X_isWeight_16 (by decide) ?_
      exact rd_zret hx hb hr hlocks d_X_isWeight_17 (by simp [okW, bI, c2, c9])
    · refine lv_iconst (v := 1) hx hb d_X_isWeight_12 (by decide) ?_
      refine lv_goto (tgt := 17) hx hb d_X_isWeight_13 (by decide) ?_
      exact rd_zret hx hb hr hlocks d_X_isWeight_17 (by simp [okW, bI, c2, c9])
set_option maxHeartbeats 4000000 in
set_option maxRecDepth 100000 in
theorem c_X_isAnswer (l : Launch) (x : Int32) : Met l y_X_isAnswer w_X_isAnswer (k2_rm 0 0) (rd_P0 [.int x]) (k2_QcV (.int (bI (okA x)))) 0 0 (fun _ => False) := by
  refine rd_met0 (by decide) rfl (Nat.le_of_ble_eq_true rfl) rfl ?_
  intro p e s m below meth c ls hx hb hr hml hown hts hlocks hl
  have hts : ∀ w ∈ tbl, w.before _ s = true := fun w h => hts w (List.mem_cons_of_mem _ h)
  have hown : s.vm.findClass RX = some m.cls := hown
  have hl : lv_has ls 1 [(0, .int x)] := hl
  refine lv_iload_n hx hb d_X_isAnswer_0 rfl (lv_at hl 0 rfl) ?_
  refine lv_if_lt (tgt := 14) hx hb d_X_isAnswer_1 (by decide) (fun c1 => ?_) (fun c1 => ?_)
  · refine lv_iconst (v := 0) hx hb d_X_isAnswer_14 (by decide) ?_
    exact rd_zret hx hb hr hlocks d_X_isAnswer_15 (by simp [okA, bI, c1])
  · refine lv_iload_n hx hb d_X_isAnswer_4 rfl (lv_at hl 0 rfl) ?_
    refine lv_bipush (v := 8) hx hb d_X_isAnswer_5 (by decide) ?_
    refine lv_icmp_ge (tgt := 14) hx hb d_X_isAnswer_7 (by decide) (fun c7 => ?_) (fun c7 => ?_)
    · refine lv_iconst (v := 0) hx hb d_X_isAnswer_14 (by decide) ?_
      exact rd_zret hx hb hr hlocks d_X_isAnswer_15 (by simp [okA, bI, c1, c7])
    · refine lv_iconst (v := 1) hx hb d_X_isAnswer_10 (by decide) ?_
      refine lv_goto (tgt := 15) hx hb d_X_isAnswer_11 (by decide) ?_
      exact rd_zret hx hb hr hlocks d_X_isAnswer_15 (by simp [okA, bI, c1, c7])
set_option maxHeartbeats 4000000 in
set_option maxRecDepth 100000 in
theorem c_X_isOrder (l : Launch) (x : Int32) : Met l y_X_isOrder w_X_isOrder (k2_rm 0 0) (rd_P0 [.int x]) (k2_QcV (.int (bI (okO x)))) 0 0 (fun _ => False) := by
  refine rd_met0 (by decide) rfl (Nat.le_of_ble_eq_true rfl) rfl ?_
  intro p e s m below meth c ls hx hb hr hml hown hts hlocks hl
  have hts : ∀ w ∈ tbl, w.before _ s = true := fun w h => hts w (List.mem_cons_of_mem _ h)
  have hown : s.vm.findClass RX = some m.cls := hown
  have hl : lv_has ls 1 [(0, .int x)] := hl
  refine lv_iload_n hx hb d_X_isOrder_0 rfl (lv_at hl 0 rfl) ?_
  refine lv_if_lt (tgt := 13) hx hb d_X_isOrder_1 (by decide) (fun c1 => ?_) (fun c1 => ?_)
  · refine lv_iconst (v := 0) hx hb d_X_isOrder_13 (by decide) ?_
    exact rd_zret hx hb hr hlocks d_X_isOrder_14 (by simp [okO, bI, c1])
  · refine lv_iload_n hx hb d_X_isOrder_4 rfl (lv_at hl 0 rfl) ?_
    refine lv_iconst (v := 3) hx hb d_X_isOrder_5 (by decide) ?_
    refine lv_icmp_gt (tgt := 13) hx hb d_X_isOrder_6 (by decide) (fun c6 => ?_) (fun c6 => ?_)
    · refine lv_iconst (v := 0) hx hb d_X_isOrder_13 (by decide) ?_
      exact rd_zret hx hb hr hlocks d_X_isOrder_14 (by simp [okO, bI, c1, c6])
    · refine lv_iconst (v := 1) hx hb d_X_isOrder_9 (by decide) ?_
      refine lv_goto (tgt := 14) hx hb d_X_isOrder_10 (by decide) ?_
      exact rd_zret hx hb hr hlocks d_X_isOrder_14 (by simp [okO, bI, c1, c6])
set_option maxHeartbeats 4000000 in
set_option maxRecDepth 100000 in
theorem c_X_isStatement (l : Launch) (x : Int32) : Met l y_X_isStatement w_X_isStatement (k2_rm 0 0) (rd_Pc D clX (wX h cI cZ n bt rk wt cl cc su sa sc od fr cg co rp rc) [(cI, .int), (cZ, .boolean)] [.ref (h 0), .int x]) (k2_QcV (.int (bI (okS n x)))) 0 0 (fun _ => False) := by
  refine rd_met (by decide) rfl (Nat.le_of_ble_eq_true rfl) rfl ?_
  intro p e s m below meth c ls hx hb hr hml hown hts hlocks hP hK hl
  have hts : ∀ w ∈ tbl, w.before _ s = true := fun w h => hts w (List.mem_cons_of_mem _ h)
  have hown : s.vm.findClass RX = some m.cls := hown
  have hl : lv_has ls 2 [(0, .ref (h 0)), (1, .int x)] := hl
  refine lv_iload_n hx hb d_X_isStatement_0 rfl (lv_at hl 1 rfl) ?_
  refine lv_if_lt (tgt := 16) hx hb d_X_isStatement_1 (by decide) (fun c1 => ?_) (fun c1 => ?_)
  · refine lv_iconst (v := 0) hx hb d_X_isStatement_16 (by decide) ?_
    exact rd_zret hx hb hr hlocks d_X_isStatement_17 (by simp [okS, bI, c1])
  · refine lv_iload_n hx hb d_X_isStatement_4 rfl (lv_at hl 1 rfl) ?_
    refine lv_aload_n hx hb d_X_isStatement_5 rfl (lv_at hl 0 rfl) ?_
    refine va_get (D := D) (ci := 0) (v := .int (nI n)) (C := RX) (T := TX) (N := 15) hx hb hts inX hown hK hP 0 rfl rfl 0 (by decide) (hts _ f_X_9) (fun _ h9 => h9) rfl d_X_isStatement_6 ?_
    refine lv_icmp_ge (tgt := 16) hx hb d_X_isStatement_9 (by decide) (fun c9 => ?_) (fun c9 => ?_)
    · refine lv_iconst (v := 0) hx hb d_X_isStatement_16 (by decide) ?_
      exact rd_zret hx hb hr hlocks d_X_isStatement_17 (by simp [okS, bI, c1, c9])
    · refine lv_iconst (v := 1) hx hb d_X_isStatement_12 (by decide) ?_
      refine lv_goto (tgt := 17) hx hb d_X_isStatement_13 (by decide) ?_
      exact rd_zret hx hb hr hlocks d_X_isStatement_17 (by simp [okS, bI, c1, c9])
set_option maxHeartbeats 4000000 in
set_option maxRecDepth 100000 in
theorem c_X_isRepair (l : Launch) (x : Int32) : Met l y_X_isRepair w_X_isRepair (k2_rm 0 0) (rd_Pc D clX (wX h cI cZ n bt rk wt cl cc su sa sc od fr cg co rp rc) [(cI, .int), (cZ, .boolean)] [.ref (h 0), .int x]) (k2_QcV (.int (bI (okS rc x)))) 0 0 (fun _ => False) := by
  refine rd_met (by decide) rfl (Nat.le_of_ble_eq_true rfl) rfl ?_
  intro p e s m below meth c ls hx hb hr hml hown hts hlocks hP hK hl
  have hts : ∀ w ∈ tbl, w.before _ s = true := fun w h => hts w (List.mem_cons_of_mem _ h)
  have hown : s.vm.findClass RX = some m.cls := hown
  have hl : lv_has ls 2 [(0, .ref (h 0)), (1, .int x)] := hl
  refine lv_iload_n hx hb d_X_isRepair_0 rfl (lv_at hl 1 rfl) ?_
  refine lv_if_lt (tgt := 16) hx hb d_X_isRepair_1 (by decide) (fun c1 => ?_) (fun c1 => ?_)
  · refine lv_iconst (v := 0) hx hb d_X_isRepair_16 (by decide) ?_
    exact rd_zret hx hb hr hlocks d_X_isRepair_17 (by simp [okS, bI, c1])
  · refine lv_iload_n hx hb d_X_isRepair_4 rfl (lv_at hl 1 rfl) ?_
    refine lv_aload_n hx hb d_X_isRepair_5 rfl (lv_at hl 0 rfl) ?_
    refine va_get (D := D) (ci := 0) (v := .int (nI rc)) (C := RX) (T := TX) (N := 15) hx hb hts inX hown hK hP 0 rfl rfl 14 (by decide) (hts _ f_X_55) (fun _ h9 => h9) rfl d_X_isRepair_6 ?_
    refine lv_icmp_ge (tgt := 16) hx hb d_X_isRepair_9 (by decide) (fun c9 => ?_) (fun c9 => ?_)
    · refine lv_iconst (v := 0) hx hb d_X_isRepair_16 (by decide) ?_
      exact rd_zret hx hb hr hlocks d_X_isRepair_17 (by simp [okS, bI, c1, c9])
    · refine lv_iconst (v := 1) hx hb d_X_isRepair_12 (by decide) ?_
      refine lv_goto (tgt := 17) hx hb d_X_isRepair_13 (by decide) ?_
      exact rd_zret hx hb hr hlocks d_X_isRepair_17 (by simp [okS, bI, c1, c9])
set_option maxHeartbeats 4000000 in
set_option maxRecDepth 100000 in
theorem c_X_isHard (l : Launch) (i : Nat) (hi : i < 31) (hbt : bt < 2 ^ 31) : Met l y_X_isHard w_X_isHard (k2_rm 0 0) (rd_Pc D clX (wX h cI cZ n bt rk wt cl cc su sa sc od fr cg co rp rc) [(cI, .int), (cZ, .boolean)] [.ref (h 0), .int (nI i)]) (k2_QcV (.int (bI (bt.testBit i)))) 0 0 (fun _ => False) := by
  refine rd_met (by decide) rfl (Nat.le_of_ble_eq_true rfl) rfl ?_
  intro p e s m below meth c ls hx hb hr hml hown hts hlocks hP hK hl
  have hts : ∀ w ∈ tbl, w.before _ s = true := fun w h => hts w (List.mem_cons_of_mem _ h)
  have hown : s.vm.findClass RX = some m.cls := hown
  have hl : lv_has ls 2 [(0, .ref (h 0)), (1, .int (nI i))] := hl
  refine lv_aload_n hx hb d_X_isHard_0 rfl (lv_at hl 0 rfl) ?_
  refine va_get (D := D) (ci := 0) (v := .int (nI bt)) (C := RX) (T := TX) (N := 15) hx hb hts inX hown hK hP 0 rfl rfl 1 (by decide) (hts _ f_X_13) (fun _ h9 => h9) rfl d_X_isHard_1 ?_
  refine lv_iconst (v := 1) hx hb d_X_isHard_4 (by decide) ?_
  refine lv_iload_n hx hb d_X_isHard_5 rfl (lv_at hl 1 rfl) ?_
  refine lv_ishl hx hb d_X_isHard_6 ?_
  refine rd_top (z := nI (2 ^ i)) (bx_shl i hi) ?_
  refine lv_iand hx hb d_X_isHard_7 ?_
  refine lv_if_eq (tgt := 15) hx hb d_X_isHard_8 (by decide) (fun c8 => ?_) (fun c8 => ?_)
  · refine lv_iconst (v := 0) hx hb d_X_isHard_15 (by decide) ?_
    exact rd_zret hx hb hr hlocks d_X_isHard_16 (by rw [(bx_bit hbt hi).mp c8]; rfl)
  · refine lv_iconst (v := 1) hx hb d_X_isHard_11 (by decide) ?_
    refine lv_goto (tgt := 16) hx hb d_X_isHard_12 (by decide) ?_
    exact rd_zret hx hb hr hlocks d_X_isHard_16 (by cases hq : bt.testBit i; exact absurd ((bx_bit hbt hi).mpr hq) c8; rfl)
set_option maxHeartbeats 4000000 in
set_option maxRecDepth 100000 in
theorem c_X_setCount (l : Launch) (hn : n ≤ 11) : Met l y_X_setCount w_X_setCount (k2_rm 0 0) (rd_Pc D clX (wX h cI cZ n bt rk wt cl cc su sa sc od fr cg co rp rc) [(cI, .int), (cZ, .boolean)] [.ref (h 0)]) (k2_QcV (.int (nI (2 ^ n)))) 0 0 (fun _ => False) := by
  refine rd_met (by decide) rfl (Nat.le_of_ble_eq_true rfl) rfl ?_
  intro p e s m below meth c ls hx hb hr hml hown hts hlocks hP hK hl
  have hts : ∀ w ∈ tbl, w.before _ s = true := fun w h => hts w (List.mem_cons_of_mem _ h)
  have hown : s.vm.findClass RX = some m.cls := hown
  have hl : lv_has ls 1 [(0, .ref (h 0))] := hl
  refine lv_iconst (v := 1) hx hb d_X_setCount_0 (by decide) ?_
  refine lv_aload_n hx hb d_X_setCount_1 rfl (lv_at hl 0 rfl) ?_
  refine va_get (D := D) (ci := 0) (v := .int (nI n)) (C := RX) (T := TX) (N := 15) hx hb hts inX hown hK hP 0 rfl rfl 0 (by decide) (hts _ f_X_9) (fun _ h9 => h9) rfl d_X_setCount_2 ?_
  refine lv_ishl hx hb d_X_setCount_5 ?_
  refine rd_top (z := nI (2 ^ n)) (bx_shl n (by omega)) ?_
  exact rd_iret hx hb hr hlocks d_X_setCount_6 (rfl)
set_option maxHeartbeats 4000000 in
set_option maxRecDepth 100000 in
theorem c_X_statementBits (l : Launch) (hn : n ≤ 11) : Met l y_X_statementBits w_X_statementBits (k2_rm 1 20) (rd_Pc D clX (wX h cI cZ n bt rk wt cl cc su sa sc od fr cg co rp rc) [(cI, .int), (cZ, .boolean)] [.ref (h 0)]) (k2_QcV (.int (nI (2 ^ n - 1)))) 0 0 (fun _ => False) := by
  refine rd_met (by decide) rfl (Nat.le_of_ble_eq_true rfl) rfl ?_
  intro p e s m below meth c ls hx hb hr hml hown hts hlocks hP hK hl
  have hts : ∀ w ∈ tbl, w.before _ s = true := fun w h => hts w (List.mem_cons_of_mem _ h)
  have hown : s.vm.findClass RX = some m.cls := hown
  have hl : lv_has ls 1 [(0, .ref (h 0))] := hl
  refine lv_aload_n hx hb d_X_statementBits_0 rfl (lv_at hl 0 rfl) ?_
  refine rd_V (As := []) (rest := []) ⟨hx, hb, hml, hown, hts⟩ (c_X_setCount l hn) (cwV 0 hts g_X_105 rfl rfl rfl (by decide +kernel) ⟨Nat.le_of_ble_eq_true rfl, Nat.le_of_ble_eq_true rfl⟩) hK hP 0 rfl rfl rfl hl.1 rfl (Nat.le_of_ble_eq_true rfl) d_X_statementBits_1 ⟨Nat.zero_le _, Nat.zero_le _⟩ ?_
  refine lv_iconst (v := 1) hx hb d_X_statementBits_4 (by decide) ?_
  refine lv_isub hx hb d_X_statementBits_5 ?_
  refine rd_top (z := nI (2 ^ n - 1)) (bx_dec (bx_pos n)) ?_
  exact rd_iret hx hb hr hlocks d_X_statementBits_6 (rfl)
set_option maxHeartbeats 4000000 in
set_option maxRecDepth 100000 in
theorem c_X_isPart (l : Launch) (a b : Nat) (ha : a < 2 ^ 31) : Met l y_X_isPart w_X_isPart (k2_rm 0 0) (rd_P0 [.int (nI a), .int (nI b)]) (k2_QcV (.int (bI (sp_sub a b)))) 0 0 (fun _ => False) := by
  refine rd_met0 (by decide) rfl (Nat.le_of_ble_eq_true rfl) rfl ?_
  intro p e s m below meth c ls hx hb hr hml hown hts hlocks hl
  have hts : ∀ w ∈ tbl, w.before _ s = true := fun w h => hts w (List.mem_cons_of_mem _ h)
  have hown : s.vm.findClass RX = some m.cls := hown
  have hl : lv_has ls 2 [(0, .int (nI a)), (1, .int (nI b))] := hl
  refine lv_iload_n hx hb d_X_isPart_0 rfl (lv_at hl 0 rfl) ?_
  refine lv_iload_n hx hb d_X_isPart_1 rfl (lv_at hl 1 rfl) ?_
  refine lv_iconst (v := (-1)) hx hb d_X_isPart_2 (by decide) ?_
  refine lv_ixor hx hb d_X_isPart_3 ?_
  refine lv_iand hx hb d_X_isPart_4 ?_
  refine lv_if_ne (tgt := 12) hx hb d_X_isPart_5 (by decide) (fun c5 => ?_) (fun c5 => ?_)
  · refine lv_iconst (v := 0) hx hb d_X_isPart_12 (by decide) ?_
    exact rd_zret hx hb hr hlocks d_X_isPart_13 (by cases hq : sp_sub a b; rfl; exact absurd ((bx_part ha).mpr hq) c5)
  · refine lv_iconst (v := 1) hx hb d_X_isPart_8 (by decide) ?_
    refine lv_goto (tgt := 13) hx hb d_X_isPart_9 (by decide) ?_
    exact rd_zret hx hb hr hlocks d_X_isPart_13 (by rw [(bx_part ha).mp c5]; rfl)
set_option maxHeartbeats 4000000 in
set_option maxRecDepth 100000 in
theorem c_X_hasMore (l : Launch) (a b : Nat) (ha : a < 2 ^ 31) (hb2 : b < 2 ^ 31) : Met l y_X_hasMore w_X_hasMore (k2_rm 1 21) (rd_P0 [.int (nI a), .int (nI b)]) (k2_QcV (.int (bI (hasM a b)))) 0 0 (fun _ => False) := by
  refine rd_met0 (by decide) rfl (Nat.le_of_ble_eq_true rfl) rfl ?_
  intro p e s m below meth c ls hx hb hr hml hown hts hlocks hl
  have hts : ∀ w ∈ tbl, w.before _ s = true := fun w h => hts w (List.mem_cons_of_mem _ h)
  have hown : s.vm.findClass RX = some m.cls := hown
  have hl : lv_has ls 2 [(0, .int (nI a)), (1, .int (nI b))] := hl
  refine lv_iload_n hx hb d_X_hasMore_0 rfl (lv_at hl 0 rfl) ?_
  refine lv_iload_n hx hb d_X_hasMore_1 rfl (lv_at hl 1 rfl) ?_
  refine lv_icmp_eq (tgt := 17) hx hb d_X_hasMore_2 (by decide) (fun c2 => ?_) (fun c2 => ?_)
  · refine lv_iconst (v := 0) hx hb d_X_hasMore_17 (by decide) ?_
    exact rd_zret hx hb hr hlocks d_X_hasMore_18 (by rw [show a = b from (nI_eq ha hb2).mp c2]; simp [hasM, bI])
  · refine lv_iload_n hx hb d_X_hasMore_5 rfl (lv_at hl 1 rfl) ?_
    refine lv_iload_n hx hb d_X_hasMore_6 rfl (lv_at hl 0 rfl) ?_
    refine rd_S (As := [.int (nI b), .int (nI a)]) (rest := []) ⟨hx, hb, hml, hown, hts⟩ (c_X_isPart l b a hb2) (cwS 2 hts g_X_118 rfl rfl rfl (by decide +kernel) ⟨Nat.le_of_ble_eq_true rfl, Nat.le_of_ble_eq_true rfl⟩) rfl hl.1 rfl (Nat.le_of_ble_eq_true rfl) d_X_hasMore_7 ⟨Nat.zero_le _, Nat.zero_le _⟩ ?_
    refine lv_if_eq (tgt := 17) hx hb d_X_hasMore_10 (by decide) (fun c10 => ?_) (fun c10 => ?_)
    · refine lv_iconst (v := 0) hx hb d_X_hasMore_17 (by decide) ?_
      exact rd_zret hx hb hr hlocks d_X_hasMore_18 (by rw [hasM, bI_0.mp c10]; simp [bI])
    · refine lv_iconst (v := 1) hx hb d_X_hasMore_13 (by decide) ?_
      refine lv_goto (tgt := 18) hx hb d_X_hasMore_14 (by decide) ?_
      exact rd_zret hx hb hr hlocks d_X_hasMore_18 (by rw [hasM, decide_eq_false (fun q => c2 (by rw [q])), show sp_sub b a = true by cases hq : sp_sub b a; exact absurd (bI_0.mpr hq) c10; rfl]; rfl)
end MX1

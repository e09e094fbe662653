section MY1
variable {D : va_G} {h : Nat → Nat} {cI cZ : ClassId} {n bt : Nat} {rk wt cl : Nat → Nat} {cc : Nat} {ow su : Nat → Nat} {sc od : Nat} {kn : Bool} {ke : Nat → Bool} {rp : Nat → Nat} {rc : Nat}
set_option maxHeartbeats 4000000 in
set_option maxRecDepth 100000 in
theorem c_Y_isStatement (l : Launch) (x : Int32) : Met l y_Y_isStatement w_Y_isStatement (k2_rm 0 0) (rd_Pc D clX (wY h cI cZ n bt.testBit rk wt cl cc ow su sc od kn ke rp rc) [(cI, .int), (cZ, .boolean)] [.ref (h 0), .int x]) (k2_QcV (.int (bI (okS n x)))) 0 0 (fun _ => False) := by
  refine rd_met (by decide) rfl (Nat.le_of_ble_eq_true rfl) rfl ?_
  intro p e s m below meth c ls hx hb hr hml hown hts hlocks hP hK hl
  have hts : ∀ w ∈ tbl, w.before _ s = true := fun w h => hts w (List.mem_cons_of_mem _ h)
  have hown : s.vm.findClass RY = some m.cls := hown
  have hl : lv_has ls 2 [(0, .ref (h 0)), (1, .int x)] := hl
  refine lv_iload_n hx hb d_Y_isStatement_0 rfl (lv_at hl 1 rfl) ?_
  refine lv_if_lt (tgt := 16) hx hb d_Y_isStatement_1 (by decide) (fun c1 => ?_) (fun c1 => ?_)
  · refine lv_iconst (v := 0) hx hb d_Y_isStatement_16 (by decide) ?_
    exact rd_zret hx hb hr hlocks d_Y_isStatement_17 (by simp [okS, bI, c1])
  · refine lv_iload_n hx hb d_Y_isStatement_4 rfl (lv_at hl 1 rfl) ?_
    refine lv_aload_n hx hb d_Y_isStatement_5 rfl (lv_at hl 0 rfl) ?_
    refine va_get (D := D) (ci := 1) (v := .int (nI n)) (C := RY) (T := TY) (N := 14) hx hb hts inY hown hK hP 0 rfl rfl 0 (by decide) (hts _ f_Y_35) (fun _ h9 => h9) rfl d_Y_isStatement_6 ?_
    refine lv_icmp_ge (tgt := 16) hx hb d_Y_isStatement_9 (by decide) (fun c9 => ?_) (fun c9 => ?_)
    · refine lv_iconst (v := 0) hx hb d_Y_isStatement_16 (by decide) ?_
      exact rd_zret hx hb hr hlocks d_Y_isStatement_17 (by simp [okS, bI, c1, c9])
    · refine lv_iconst (v := 1) hx hb d_Y_isStatement_12 (by decide) ?_
      refine lv_goto (tgt := 17) hx hb d_Y_isStatement_13 (by decide) ?_
      exact rd_zret hx hb hr hlocks d_Y_isStatement_17 (by simp [okS, bI, c1, c9])
set_option maxHeartbeats 4000000 in
set_option maxRecDepth 100000 in
theorem c_Y_areGood (l : Launch) (r w : Int32) : Met l y_Y_areGood w_Y_areGood (k2_rm 0 0) (rd_P0 [.int r, .int w]) (k2_QcV (.int (bI (okR r && okW w)))) 0 0 (fun _ => False) := by
  refine rd_met0 (by decide) rfl (Nat.le_of_ble_eq_true rfl) rfl ?_
  intro p e s m below meth c ls hx hb hr hml hown hts hlocks hl
  have hts : ∀ w ∈ tbl, w.before _ s = true := fun w h => hts w (List.mem_cons_of_mem _ h)
  have hown : s.vm.findClass RY = some m.cls := hown
  have hl : lv_has ls 2 [(0, .int r), (1, .int w)] := hl
  refine lv_iload_n hx hb d_Y_areGood_0 rfl (lv_at hl 0 rfl) ?_
  refine lv_if_lt (tgt := 25) hx hb d_Y_areGood_1 (by decide) (fun c1 => ?_) (fun c1 => ?_)
  · refine lv_iconst (v := 0) hx hb d_Y_areGood_25 (by decide) ?_
    exact rd_zret hx hb hr hlocks d_Y_areGood_26 (by simp [okR, okW, i7_8, i1_0, bI, c1])
  · refine lv_iload_n hx hb d_Y_areGood_4 rfl (lv_at hl 0 rfl) ?_
    refine lv_bipush (v := 8) hx hb d_Y_areGood_5 (by decide) ?_
    refine lv_icmp_ge (tgt := 25) hx hb d_Y_areGood_7 (by decide) (fun c7 => ?_) (fun c7 => ?_)
    · refine lv_iconst (v := 0) hx hb d_Y_areGood_25 (by decide) ?_
      exact rd_zret hx hb hr hlocks d_Y_areGood_26 (by simp [okR, okW, i7_8, i1_0, bI, c1, c7])
    · refine lv_iload_n hx hb d_Y_areGood_10 rfl (lv_at hl 1 rfl) ?_
      refine lv_if_le (tgt := 25) hx hb d_Y_areGood_11 (by decide) (fun c11 => ?_) (fun c11 => ?_)
      · refine lv_iconst (v := 0) hx hb d_Y_areGood_25 (by decide) ?_
        exact rd_zret hx hb hr hlocks d_Y_areGood_26 (by simp [okR, okW, i7_8, i1_0, bI, c1, c7, c11])
      · refine lv_iload_n hx hb d_Y_areGood_14 rfl (lv_at hl 1 rfl) ?_
        refine lv_sipush (v := 1000) hx hb d_Y_areGood_15 (by decide) ?_
        refine lv_icmp_gt (tgt := 25) hx hb d_Y_areGood_18 (by decide) (fun c18 => ?_) (fun c18 => ?_)
        · refine lv_iconst (v := 0) hx hb d_Y_areGood_25 (by decide) ?_
          exact rd_zret hx hb hr hlocks d_Y_areGood_26 (by simp [okR, okW, i7_8, i1_0, bI, c1, c7, c11, c18])
        · refine lv_iconst (v := 1) hx hb d_Y_areGood_21 (by decide) ?_
          refine lv_goto (tgt := 26) hx hb d_Y_areGood_22 (by decide) ?_
          exact rd_zret hx hb hr hlocks d_Y_areGood_26 (by simp [okR, okW, i7_8, i1_0, bI, c1, c7, c11, c18])
set_option maxHeartbeats 4000000 in
set_option maxRecDepth 100000 in
theorem c_Y_has (l : Launch) (S k : Nat) (hS2 : S < 2 ^ 31) (hk : k < 31) : Met l y_Y_has w_Y_has (k2_rm 0 0) (rd_P0 [.int (nI S), .int (nI k)]) (k2_QcV (.int (bI (S.testBit k)))) 0 0 (fun _ => False) := by
  refine rd_met0 (by decide) rfl (Nat.le_of_ble_eq_true rfl) rfl ?_
  intro p e s m below meth c ls hx hb hr hml hown hts hlocks hl
  have hts : ∀ w ∈ tbl, w.before _ s = true := fun w h => hts w (List.mem_cons_of_mem _ h)
  have hown : s.vm.findClass RY = some m.cls := hown
  have hl : lv_has ls 2 [(0, .int (nI S)), (1, .int (nI k))] := hl
  refine lv_iload_n hx hb d_Y_has_0 rfl (lv_at hl 0 rfl) ?_
  refine lv_iload_n hx hb d_Y_has_1 rfl (lv_at hl 1 rfl) ?_
  refine lv_ishr hx hb d_Y_has_2 ?_
  refine lv_iconst (v := 1) hx hb d_Y_has_3 (by decide) ?_
  refine lv_iand hx hb d_Y_has_4 ?_
  refine rd_top (z := nI (S / 2 ^ k % 2)) (has_v hS2 hk) ?_
  refine lv_iconst (v := 1) hx hb d_Y_has_5 (by decide) ?_
  refine lv_icmp_ne (tgt := 13) hx hb d_Y_has_6 (by decide) (fun c6 => ?_) (fun c6 => ?_)
  · refine lv_iconst (v := 0) hx hb d_Y_has_13 (by decide) ?_
    exact rd_zret hx hb hr hlocks d_Y_has_14 (by cases hq : S.testBit k; rfl; exact absurd (has_b.mpr hq) c6)
  · refine lv_iconst (v := 1) hx hb d_Y_has_9 (by decide) ?_
    refine lv_goto (tgt := 14) hx hb d_Y_has_10 (by decide) ?_
    exact rd_zret hx hb hr hlocks d_Y_has_14 (by rw [has_b.mp c6]; rfl)
set_option maxHeartbeats 4000000 in
set_option maxRecDepth 100000 in
theorem c_Y_told (l : Launch) (x : Nat) (hx2 : x < 2 ^ 31) (hrc : rc < 2 ^ 31) : Met l y_Y_told w_Y_told (k2_rm 0 0) (rd_Pc D clX (wY h cI cZ n bt.testBit rk wt cl cc ow su sc od kn ke rp rc) [(cI, .int), (cZ, .boolean)] [.ref (h 0), .int (nI x)]) (k2_QcV (.int (vdt rc x))) 0 0 (fun _ => False) := by
  refine rd_met (by decide) rfl (Nat.le_of_ble_eq_true rfl) rfl ?_
  intro p e s m below meth c ls hx hb hr hml hown hts hlocks hP hK hl
  have hts : ∀ w ∈ tbl, w.before _ s = true := fun w h => hts w (List.mem_cons_of_mem _ h)
  have hown : s.vm.findClass RY = some m.cls := hown
  have hl : lv_has ls 2 [(0, .ref (h 0)), (1, .int (nI x))] := hl
  refine lv_aload_n hx hb d_Y_told_0 rfl (lv_at hl 0 rfl) ?_
  refine va_get (D := D) (ci := 1) (v := .int (nI rc)) (C := RY) (T := TY) (N := 14) hx hb hts inY hown hK hP 0 rfl rfl 13 (by decide) (hts _ f_Y_74) (fun _ h9 => h9) rfl d_Y_told_1 ?_
  refine lv_if_ne (tgt := 12) hx hb d_Y_told_4 (by decide) (fun c4 => ?_) (fun c4 => ?_)
  · have h0 : ¬ rc = 0 := fun q => c4 (by rw [q]; rfl)
    refine lv_iload_n hx hb d_Y_told_12 rfl (lv_at hl 1 rfl) ?_
    refine lv_aload_n hx hb d_Y_told_13 rfl (lv_at hl 0 rfl) ?_
    refine va_get (D := D) (ci := 1) (v := .int (nI rc)) (C := RY) (T := TY) (N := 14) hx hb hts inY hown hK hP 0 rfl rfl 13 (by decide) (hts _ f_Y_74) (fun _ h9 => h9) rfl d_Y_told_14 ?_
    refine lv_icmp_ne (tgt := 24) hx hb d_Y_told_17 (by decide) (fun c17 => ?_) (fun c17 => ?_)
    · refine lv_iload_n hx hb d_Y_told_24 rfl (lv_at hl 1 rfl) ?_
      refine lv_if_le (tgt := 32) hx hb d_Y_told_25 (by decide) (fun c25 => ?_) (fun c25 => ?_)
      · refine lv_iconst (v := 0) hx hb d_Y_told_32 (by decide) ?_
        exact rd_iret hx hb hr hlocks d_Y_told_33 (by rw [vdt, if_neg h0, if_neg (fun q => c17 (congrArg nI q)), if_neg (fun q => nI_nle q hx2 c25)])
      · refine lv_iconst (v := 1) hx hb d_Y_told_28 (by decide) ?_
        refine lv_goto (tgt := 33) hx hb d_Y_told_29 (by decide) ?_
        exact rd_iret hx hb hr hlocks d_Y_told_33 (by rw [vdt, if_neg h0, if_neg (fun q => c17 (congrArg nI q)), if_pos (Nat.pos_of_ne_zero (fun q => c25 (by rw [q]; decide)))])
    · refine lv_iconst (v := 2) hx hb d_Y_told_20 (by decide) ?_
      refine lv_goto (tgt := 33) hx hb d_Y_told_21 (by decide) ?_
      exact rd_iret hx hb hr hlocks d_Y_told_33 (by rw [vdt, if_neg h0, if_pos ((nI_eq hx2 hrc).mp c17)])
  · have h0 : rc = 0 := (nI_eq (b := 0) hrc (by decide)).mp c4
    refine lv_bipush (v := (-2)) hx hb d_Y_told_7 (by decide) ?_
    refine lv_goto (tgt := 33) hx hb d_Y_told_9 (by decide) ?_
    exact rd_iret hx hb hr hlocks d_Y_told_33 (by rw [vdt, if_pos h0])
set_option maxHeartbeats 4000000 in
set_option maxRecDepth 100000 in
theorem c_Y_compare (l : Launch) (a b r : Nat) (cs : Bool) (hn : n ≤ 11) (hrk : ∀ j, rk j < 8) (ha : a < 2 ^ 31) (hb2 : b < 2 ^ 31) (hr8 : r < 8) : Met l y_Y_compare w_Y_compare (k2_rm 1 21) (rd_Pc D clX (wY h cI cZ n bt.testBit rk wt cl cc ow su sc od kn ke rp rc) [(cI, .int), (cZ, .boolean)] [.ref (h 0), .int (nI a), .int (nI b), .int (nI r), .int (bI cs)]) (k2_QcV (.int (cmY n bt rk a b r cs))) 0 0 (fun _ => False) := by
  refine rd_met (by decide) rfl (Nat.le_of_ble_eq_true rfl) rfl ?_
  intro p e s m below meth c ls hx hb hr hml hown hts hlocks hP hK hl
  have hts : ∀ w ∈ tbl, w.before _ s = true := fun w h => hts w (List.mem_cons_of_mem _ h)
  have hown : s.vm.findClass RY = some m.cls := hown
  have hl : lv_has ls 8 [(0, .ref (h 0)), (1, .int (nI a)), (2, .int (nI b)), (3, .int (nI r)), (4, .int (bI cs))] := hl
  refine lv_iconst (v := 0) hx hb d_Y_compare_0 (by decide) ?_
  refine lv_istore (lv' := [(5, .int 0), (0, .ref (h 0)), (1, .int (nI a)), (2, .int (nI b)), (3, .int (nI r)), (4, .int (bI cs))]) hx hb d_Y_compare_1 hl (by decide) rfl (fun ls hl => ?_)
  refine lv_iconst (v := 0) hx hb d_Y_compare_3 (by decide) ?_
  refine lv_istore (lv' := [(6, .int 0), (5, .int 0), (0, .ref (h 0)), (1, .int (nI a)), (2, .int (nI b)), (3, .int (nI r)), (4, .int (bI cs))]) hx hb d_Y_compare_4 hl (by decide) rfl (fun ls hl => ?_)
  refine lv_iconst (v := 0) hx hb d_Y_compare_6 (by decide) ?_
  refine lv_istore (lv' := [(7, .int 0), (6, .int 0), (5, .int 0), (0, .ref (h 0)), (1, .int (nI a)), (2, .int (nI b)), (3, .int (nI r)), (4, .int (bI cs))]) hx hb d_Y_compare_7 hl (by decide) rfl (fun ls hl => ?_)
  refine rd_loop (nL := 8) (σ := Nat × Nat) (n) (fun i x => [(0, .ref (h 0)), (1, .int (nI a)), (2, .int (nI b)), (3, .int (nI r)), (4, .int (bI cs)), (5, .int (nI x.1)), (6, .int (nI x.2)), (7, .int (nI i))]) (fun i x => x.1 = cntB (moB bt rk a b r) i ∧ x.2 = cntB (moB bt rk b a r) i) ?_ 0 (0, 0) ls (Nat.zero_le _) (⟨rfl, rfl⟩) (lv_sub hl [3, 4, 5, 6, 7, 2, 1, 0] rfl)
  intro i x ls hi hI hl ih
  obtain ⟨h5, h6⟩ : x.1 = cntB (moB bt rk a b r) i ∧ x.2 = cntB (moB bt rk b a r) i := hI
  have hl : lv_has ls 8 [(0, .ref (h 0)), (1, .int (nI a)), (2, .int (nI b)), (3, .int (nI r)), (4, .int (bI cs)), (5, .int (nI x.1)), (6, .int (nI x.2)), (7, .int (nI i))] := hl
  refine lv_iload hx hb d_Y_compare_9 (lv_at hl 7 rfl) ?_
  refine lv_aload_n hx hb d_Y_compare_11 rfl (lv_at hl 0 rfl) ?_
  refine va_get (D := D) (ci := 1) (v := .int (nI n)) (C := RY) (T := TY) (N := 14) hx hb hts inY hown hK hP 0 rfl rfl 0 (by decide) (hts _ f_Y_35) (fun _ h9 => h9) rfl d_Y_compare_12 ?_
  refine lv_icmp_ge (tgt := 81) hx hb d_Y_compare_15 (by decide) (fun c15 => ?_) (fun c15 => ?_)
  · have hN : i = n := lp_ge hi (by omega) c15
    refine lv_iload hx hb d_Y_compare_81 (lv_at hl 4 rfl) ?_
    refine lv_if_eq (tgt := 110) hx hb d_Y_compare_83 (by decide) (fun c83 => ?_) (fun c83 => ?_)
    · refine lv_iload hx hb d_Y_compare_110 (lv_at hl 5 rfl) ?_
      refine lv_if_ne (tgt := 124) hx hb d_Y_compare_112 (by decide) (fun c112 => ?_) (fun c112 => ?_)
      · refine lv_iload hx hb d_Y_compare_124 (lv_at hl 6 rfl) ?_
        refine lv_if_ne (tgt := 133) hx hb d_Y_compare_126 (by decide) (fun c126 => ?_) (fun c126 => ?_)
        · refine lv_iload hx hb d_Y_compare_133 (lv_at hl 5 rfl) ?_
          refine lv_if_ne (tgt := 142) hx hb d_Y_compare_135 (by decide) (fun c135 => ?_) (fun c135 => ?_)
          · refine lv_iconst (v := 3) hx hb d_Y_compare_142 (by decide) ?_
            exact rd_iret hx hb hr hlocks d_Y_compare_143 (by unfold cmY; rw [← hN, ← h5, ← h6, cmV, if_neg (show ¬ cs = true by rw [bI_0.mp c83]; decide), if_neg (fun q => (fun q => c112 (by rw [q]; rfl)) q.1), if_neg (fun q => c126 (by rw [q]; rfl)), if_neg (fun q => c135 (by rw [q]; rfl))])
          · refine lv_iconst (v := 2) hx hb d_Y_compare_138 (by decide) ?_
            refine lv_goto (tgt := 143) hx hb d_Y_compare_139 (by decide) ?_
            exact rd_iret hx hb hr hlocks d_Y_compare_143 (by unfold cmY; rw [← hN, ← h5, ← h6, cmV, if_neg (show ¬ cs = true by rw [bI_0.mp c83]; decide), if_neg (fun q => (fun q => c112 (by rw [q]; rfl)) q.1), if_neg (fun q => c126 (by rw [q]; rfl)), if_pos ((nI_eq (b := 0) (show x.1 < 2 ^ 31 by rw [h5]; exact Nat.lt_of_le_of_lt cntB_le (by omega)) (by decide)).mp c135)])
        · refine lv_iconst (v := 1) hx hb d_Y_compare_129 (by decide) ?_
          refine lv_goto (tgt := 143) hx hb d_Y_compare_130 (by decide) ?_
          exact rd_iret hx hb hr hlocks d_Y_compare_143 (by unfold cmY; rw [← hN, ← h5, ← h6, cmV, if_neg (show ¬ cs = true by rw [bI_0.mp c83]; decide), if_neg (fun q => (fun q => c112 (by rw [q]; rfl)) q.1), if_pos ((nI_eq (b := 0) (show x.2 < 2 ^ 31 by rw [h6]; exact Nat.lt_of_le_of_lt cntB_le (by omega)) (by decide)).mp c126)])
      · refine lv_iload hx hb d_Y_compare_115 (lv_at hl 6 rfl) ?_
        refine lv_if_ne (tgt := 124) hx hb d_Y_compare_117 (by decide) (fun c117 => ?_) (fun c117 => ?_)
        · refine lv_iload hx hb d_Y_compare_124 (lv_at hl 6 rfl) ?_
          refine lv_if_ne (tgt := 133) hx hb d_Y_compare_126 (by decide) (fun c126 => ?_) (fun c126 => ?_)
          · refine lv_iload hx hb d_Y_compare_133 (lv_at hl 5 rfl) ?_
            refine lv_if_ne (tgt := 142) hx hb d_Y_compare_135 (by decide) (fun c135 => ?_) (fun c135 => ?_)
            · refine lv_iconst (v := 3) hx hb d_Y_compare_142 (by decide) ?_
              exact rd_iret hx hb hr hlocks d_Y_compare_143 (by unfold cmY; rw [← hN, ← h5, ← h6, cmV, if_neg (show ¬ cs = true by rw [bI_0.mp c83]; decide), if_neg (fun q => (fun q => c117 (by rw [q]; rfl)) q.2), if_neg (fun q => c126 (by rw [q]; rfl)), if_neg (fun q => c135 (by rw [q]; rfl))])
            · refine lv_iconst (v := 2) hx hb d_Y_compare_138 (by decide) ?_
              refine lv_goto (tgt := 143) hx hb d_Y_compare_139 (by decide) ?_
              exact rd_iret hx hb hr hlocks d_Y_compare_143 (by unfold cmY; rw [← hN, ← h5, ← h6, cmV, if_neg (show ¬ cs = true by rw [bI_0.mp c83]; decide), if_neg (fun q => (fun q => c117 (by rw [q]; rfl)) q.2), if_neg (fun q => c126 (by rw [q]; rfl)), if_pos ((nI_eq (b := 0) (show x.1 < 2 ^ 31 by rw [h5]; exact Nat.lt_of_le_of_lt cntB_le (by omega)) (by decide)).mp c135)])
          · refine lv_iconst (v := 1) hx hb d_Y_compare_129 (by decide) ?_
            refine lv_goto (tgt := 143) hx hb d_Y_compare_130 (by decide) ?_
            exact rd_iret hx hb hr hlocks d_Y_compare_143 (by unfold cmY; rw [← hN, ← h5, ← h6, cmV, if_neg (show ¬ cs = true by rw [bI_0.mp c83]; decide), if_neg (fun q => (fun q => c117 (by rw [q]; rfl)) q.2), if_pos ((nI_eq (b := 0) (show x.2 < 2 ^ 31 by rw [h6]; exact Nat.lt_of_le_of_lt cntB_le (by omega)) (by decide)).mp c126)])
        · refine lv_iconst (v := 0) hx hb d_Y_compare_120 (by decide) ?_
          refine lv_goto (tgt := 143) hx hb d_Y_compare_121 (by decide) ?_
          exact rd_iret hx hb hr hlocks d_Y_compare_143 (by unfold cmY; rw [← hN, ← h5, ← h6, cmV, if_neg (show ¬ cs = true by rw [bI_0.mp c83]; decide), if_pos ⟨(nI_eq (b := 0) (show x.1 < 2 ^ 31 by rw [h5]; exact Nat.lt_of_le_of_lt cntB_le (by omega)) (by decide)).mp c112, (nI_eq (b := 0) (show x.2 < 2 ^ 31 by rw [h6]; exact Nat.lt_of_le_of_lt cntB_le (by omega)) (by decide)).mp c117⟩])
    · refine lv_iload hx hb d_Y_compare_86 (lv_at hl 5 rfl) ?_
      refine lv_iload hx hb d_Y_compare_88 (lv_at hl 6 rfl) ?_
      refine lv_icmp_ne (tgt := 97) hx hb d_Y_compare_90 (by decide) (fun c90 => ?_) (fun c90 => ?_)
      · refine lv_iload hx hb d_Y_compare_97 (lv_at hl 5 rfl) ?_
        refine lv_iload hx hb d_Y_compare_99 (lv_at hl 6 rfl) ?_
        refine lv_icmp_le (tgt := 108) hx hb d_Y_compare_101 (by decide) (fun c101 => ?_) (fun c101 => ?_)
        · refine lv_iconst (v := 2) hx hb d_Y_compare_108 (by decide) ?_
          exact rd_iret hx hb hr hlocks d_Y_compare_109 (by unfold cmY; rw [← hN, ← h5, ← h6, cmV, if_pos (show cs = true by cases hq : cs; exact absurd (bI_0.mpr hq) c83; rfl), if_neg (fun q => c90 (congrArg nI q)), if_neg (Nat.not_lt.mpr ((nI_leI (show x.1 < 2 ^ 31 by rw [h5]; exact Nat.lt_of_le_of_lt cntB_le (by omega)) (show x.2 < 2 ^ 31 by rw [h6]; exact Nat.lt_of_le_of_lt cntB_le (by omega))).mp c101))])
        · refine lv_iconst (v := 1) hx hb d_Y_compare_104 (by decide) ?_
          refine lv_goto (tgt := 109) hx hb d_Y_compare_105 (by decide) ?_
          exact rd_iret hx hb hr hlocks d_Y_compare_109 (by unfold cmY; rw [← hN, ← h5, ← h6, cmV, if_pos (show cs = true by cases hq : cs; exact absurd (bI_0.mpr hq) c83; rfl), if_neg (fun q => c90 (congrArg nI q)), if_pos (Nat.lt_of_not_le (fun q => c101 ((nI_leI (show x.1 < 2 ^ 31 by rw [h5]; exact Nat.lt_of_le_of_lt cntB_le (by omega)) (show x.2 < 2 ^ 31 by rw [h6]; exact Nat.lt_of_le_of_lt cntB_le (by omega))).mpr q)))])
      · refine lv_iconst (v := 0) hx hb d_Y_compare_93 (by decide) ?_
        refine lv_goto (tgt := 109) hx hb d_Y_compare_94 (by decide) ?_
        exact rd_iret hx hb hr hlocks d_Y_compare_109 (by unfold cmY; rw [← hN, ← h5, ← h6, cmV, if_pos (show cs = true by cases hq : cs; exact absurd (bI_0.mpr hq) c83; rfl), if_pos ((nI_eq (show x.1 < 2 ^ 31 by rw [h5]; exact Nat.lt_of_le_of_lt cntB_le (by omega)) (show x.2 < 2 ^ 31 by rw [h6]; exact Nat.lt_of_le_of_lt cntB_le (by omega))).mp c90)])
  · have hlt : i < n := lp_lt hi (by omega) c15
    refine lv_aload_n hx hb d_Y_compare_18 rfl (lv_at hl 0 rfl) ?_
    refine va_get (D := D) (ci := 1) (v := .ref (h 1)) (C := RY) (T := TY) (N := 14) hx hb hts inY hown hK hP 0 rfl rfl 1 (by decide) (hts _ f_Y_7) (fun _ h9 => h9) rfl d_Y_compare_19 ?_
    refine lv_iload hx hb d_Y_compare_22 (lv_at hl 7 rfl) ?_
    refine va_zald hx hb hK hP 1 1 rfl rfl (vp_in_nI (show i < 11 by omega) (by decide)) d_Y_compare_24 ?_
    refine rd_top (z := bI (bt.testBit i)) (ar_bI bt.testBit (by omega)) ?_
    refine lv_if_ne (tgt := 75) hx hb d_Y_compare_25 (by decide) (fun c25 => ?_) (fun c25 => ?_)
    · refine lv_iinc (v := (nI (i + 1))) (lv' := [(7, .int (nI (i + 1))), (0, .ref (h 0)), (1, .int (nI a)), (2, .int (nI b)), (3, .int (nI r)), (4, .int (bI cs)), (5, .int (nI x.1)), (6, .int (nI x.2))]) hx hb d_Y_compare_75 hl (k := 7) rfl (nI_1 i) (by decide) rfl (fun ls hl => ?_)
      refine lv_goto (tgt := 9) hx hb d_Y_compare_78 (by decide) ?_
      exact ih hlt x ls (⟨cnt_f h5 (mo_f (fun q => c25 (bI_0.mpr q.1))), cnt_f h6 (mo_f (fun q => c25 (bI_0.mpr q.1)))⟩) (lv_sub hl [1, 2, 3, 4, 5, 6, 7, 0] rfl)
    · refine lv_aload_n hx hb d_Y_compare_28 rfl (lv_at hl 0 rfl) ?_
      refine va_get (D := D) (ci := 1) (v := .ref (h 2)) (C := RY) (T := TY) (N := 14) hx hb hts inY hown hK hP 0 rfl rfl 2 (by decide) (hts _ f_Y_13) (fun _ h9 => h9) rfl d_Y_compare_29 ?_
      refine lv_iload hx hb d_Y_compare_32 (lv_at hl 7 rfl) ?_
      refine va_iald hx hb hK hP 2 0 rfl rfl (vp_in_nI (show i < 11 by omega) (by decide)) d_Y_compare_34 ?_
      refine rd_top (z := nI (rk i)) (ar_nI rk (by omega)) ?_
      refine lv_iload_n hx hb d_Y_compare_35 rfl (lv_at hl 3 rfl) ?_
      refine lv_icmp_ne (tgt := 75) hx hb d_Y_compare_36 (by decide) (fun c36 => ?_) (fun c36 => ?_)
      · refine lv_iinc (v := (nI (i + 1))) (lv' := [(7, .int (nI (i + 1))), (0, .ref (h 0)), (1, .int (nI a)), (2, .int (nI b)), (3, .int (nI r)), (4, .int (bI cs)), (5, .int (nI x.1)), (6, .int (nI x.2))]) hx hb d_Y_compare_75 hl (k := 7) rfl (nI_1 i) (by decide) rfl (fun ls hl => ?_)
        refine lv_goto (tgt := 9) hx hb d_Y_compare_78 (by decide) ?_
        exact ih hlt x ls (⟨cnt_f h5 (mo_f (fun q => c36 (by rw [q.2.1]))), cnt_f h6 (mo_f (fun q => c36 (by rw [q.2.1])))⟩) (lv_sub hl [1, 2, 3, 4, 5, 6, 7, 0] rfl)
      · refine lv_iload_n hx hb d_Y_compare_39 rfl (lv_at hl 1 rfl) ?_
        refine lv_iload hx hb d_Y_compare_40 (lv_at hl 7 rfl) ?_
        refine rd_S (As := [.int (nI a), .int (nI i)]) (rest := []) ⟨hx, hb, hml, hown, hts⟩ (c_Y_has l a i ha (by omega)) (cwS 2 hts g_Y_60 rfl rfl rfl (by decide +kernel) ⟨Nat.le_of_ble_eq_true rfl, Nat.le_of_ble_eq_true rfl⟩) rfl hl.1 rfl (Nat.le_of_ble_eq_true rfl) d_Y_compare_42 ⟨Nat.zero_le _, Nat.zero_le _⟩ ?_
        refine lv_iload_n hx hb d_Y_compare_45 rfl (lv_at hl 2 rfl) ?_
        refine lv_iload hx hb d_Y_compare_46 (lv_at hl 7 rfl) ?_
        refine rd_S (As := [.int (nI b), .int (nI i)]) (rest := [.int (bI (a.testBit i))]) ⟨hx, hb, hml, hown, hts⟩ (c_Y_has l b i hb2 (by omega)) (cwS 2 hts g_Y_60 rfl rfl rfl (by decide +kernel) ⟨Nat.le_of_ble_eq_true rfl, Nat.le_of_ble_eq_true rfl⟩) rfl hl.1 rfl (Nat.le_of_ble_eq_true rfl) d_Y_compare_48 ⟨Nat.zero_le _, Nat.zero_le _⟩ ?_
        refine lv_icmp_ne (tgt := 57) hx hb d_Y_compare_51 (by decide) (fun c51 => ?_) (fun c51 => ?_)
        · refine lv_iload_n hx hb d_Y_compare_57 rfl (lv_at hl 1 rfl) ?_
          refine lv_iload hx hb d_Y_compare_58 (lv_at hl 7 rfl) ?_
          refine rd_S (As := [.int (nI a), .int (nI i)]) (rest := []) ⟨hx, hb, hml, hown, hts⟩ (c_Y_has l a i ha (by omega)) (cwS 2 hts g_Y_60 rfl rfl rfl (by decide +kernel) ⟨Nat.le_of_ble_eq_true rfl, Nat.le_of_ble_eq_true rfl⟩) rfl hl.1 rfl (Nat.le_of_ble_eq_true rfl) d_Y_compare_60 ⟨Nat.zero_le _, Nat.zero_le _⟩ ?_
          refine lv_if_eq (tgt := 72) hx hb d_Y_compare_63 (by decide) (fun c63 => ?_) (fun c63 => ?_)
          · refine lv_iinc (v := (nI (x.2 + 1))) (lv' := [(6, .int (nI (x.2 + 1))), (0, .ref (h 0)), (1, .int (nI a)), (2, .int (nI b)), (3, .int (nI r)), (4, .int (bI cs)), (5, .int (nI x.1)), (7, .int (nI i))]) hx hb d_Y_compare_72 hl (k := 6) rfl (nI_1 x.2) (by decide) rfl (fun ls hl => ?_)
            refine lv_iinc (v := (nI (i + 1))) (lv' := [(7, .int (nI (i + 1))), (6, .int (nI (x.2 + 1))), (0, .ref (h 0)), (1, .int (nI a)), (2, .int (nI b)), (3, .int (nI r)), (4, .int (bI cs)), (5, .int (nI x.1))]) hx hb d_Y_compare_75 hl (k := 7) rfl (nI_1 i) (by decide) rfl (fun ls hl => ?_)
            refine lv_goto (tgt := 9) hx hb d_Y_compare_78 (by decide) ?_
            exact ih hlt (x.1, x.2 + 1) ls (⟨cnt_f h5 (mo_f (fun q => by have h9 := bI_0.mp c63; rw [q.2.2.1] at h9; cases h9)), cnt_t h6 (mo_t ⟨bI_0.mp c25, (nI_eq (by have := hrk i; omega) (by omega)).mp c36, show b.testBit i = true by cases hq : b.testBit i; exact absurd (by rw [bI_0.mp c63, hq]) c51; rfl, bI_0.mp c63⟩)⟩) (lv_sub hl [2, 3, 4, 5, 6, 7, 1, 0] rfl)
          · refine lv_iinc (v := (nI (x.1 + 1))) (lv' := [(5, .int (nI (x.1 + 1))), (0, .ref (h 0)), (1, .int (nI a)), (2, .int (nI b)), (3, .int (nI r)), (4, .int (bI cs)), (6, .int (nI x.2)), (7, .int (nI i))]) hx hb d_Y_compare_66 hl (k := 5) rfl (nI_1 x.1) (by decide) rfl (fun ls hl => ?_)
            refine lv_goto (tgt := 75) hx hb d_Y_compare_69 (by decide) ?_
            refine lv_iinc (v := (nI (i + 1))) (lv' := [(7, .int (nI (i + 1))), (5, .int (nI (x.1 + 1))), (0, .ref (h 0)), (1, .int (nI a)), (2, .int (nI b)), (3, .int (nI r)), (4, .int (bI cs)), (6, .int (nI x.2))]) hx hb d_Y_compare_75 hl (k := 7) rfl (nI_1 i) (by decide) rfl (fun ls hl => ?_)
            refine lv_goto (tgt := 9) hx hb d_Y_compare_78 (by decide) ?_
            exact ih hlt (x.1 + 1, x.2) ls (⟨cnt_t h5 (mo_t ⟨bI_0.mp c25, (nI_eq (by have := hrk i; omega) (by omega)).mp c36, show a.testBit i = true by cases hq : a.testBit i; exact absurd (bI_0.mpr hq) c63; rfl, show b.testBit i = false by cases hq : b.testBit i; rfl; exact absurd (by rw [show a.testBit i = true by cases hq : a.testBit i; exact absurd (bI_0.mpr hq) c63; rfl, hq]) c51⟩), cnt_f h6 (mo_f (fun q => by have h9 := q.2.2.2; rw [show a.testBit i = true by cases hq : a.testBit i; exact absurd (bI_0.mpr hq) c63; rfl] at h9; cases h9))⟩) (lv_sub hl [2, 3, 4, 5, 6, 1, 7, 0] rfl)
        · refine lv_goto (tgt := 75) hx hb d_Y_compare_54 (by decide) ?_
          refine lv_iinc (v := (nI (i + 1))) (lv' := [(7, .int (nI (i + 1))), (0, .ref (h 0)), (1, .int (nI a)), (2, .int (nI b)), (3, .int (nI r)), (4, .int (bI cs)), (5, .int (nI x.1)), (6, .int (nI x.2))]) hx hb d_Y_compare_75 hl (k := 7) rfl (nI_1 i) (by decide) rfl (fun ls hl => ?_)
          refine lv_goto (tgt := 9) hx hb d_Y_compare_78 (by decide) ?_
          exact ih hlt x ls (⟨cnt_f h5 (mo_f (fun q => by have h9 := bI_inj.mp c51; rw [q.2.2.1, q.2.2.2] at h9; cases h9)), cnt_f h6 (mo_f (fun q => by have h9 := bI_inj.mp c51; rw [q.2.2.1, q.2.2.2] at h9; cases h9))⟩) (lv_sub hl [1, 2, 3, 4, 5, 6, 7, 0] rfl)
end MY1

section MY2
variable {D : va_G} {h : Nat → Nat} {cI cZ : ClassId} {n bt : Nat} {rk wt cl : Nat → Nat} {cc : Nat} {ow su : Nat → Nat} {sc od : Nat} {kn : Bool} {ke : Nat → Bool} {rp : Nat → Nat} {rc : Nat}
set_option maxHeartbeats 4000000 in
set_option maxRecDepth 100000 in
theorem c_Y_isBetter (l : Launch) (a b o : Nat) (hn : n ≤ 11) (hrk : ∀ j, rk j < 8) (hwt : ∀ j, wt j ≤ 1000) (ha : a < 2 ^ 31) (hb2 : b < 2 ^ 31) (ho : o < 4) : Met l y_Y_isBetter w_Y_isBetter (k2_rm 2 48) (rd_Pc D clX (wY h cI cZ n bt.testBit rk wt cl cc ow su sc od kn ke rp rc) [(cI, .int), (cZ, .boolean)] [.ref (h 0), .int (nI a), .int (nI b), .int (nI o)]) (k2_QcV (.int (bI (betY n bt rk wt a b o)))) 0 0 (fun _ => False) := by
  refine rd_met (by decide) rfl (Nat.le_of_ble_eq_true rfl) rfl ?_
  intro p e s m below meth c ls hx hb hr hml hown hts hlocks hP hK hl
  have hts : ∀ w ∈ tbl, w.before _ s = true := fun w h => hts w (List.mem_cons_of_mem _ h)
  have hown : s.vm.findClass RY = some m.cls := hown
  have hl : lv_has ls 6 [(0, .ref (h 0)), (1, .int (nI a)), (2, .int (nI b)), (3, .int (nI o))] := hl
  refine lv_iload_n hx hb d_Y_isBetter_0 rfl (lv_at hl 3 rfl) ?_
  refine lv_if_ne (tgt := 22) hx hb d_Y_isBetter_1 (by decide) (fun c1 => ?_) (fun c1 => ?_)
  · have ho0 : ¬ o = 0 := fun q => c1 (by rw [q]; rfl)
    refine lv_iload_n hx hb d_Y_isBetter_22 rfl (lv_at hl 3 rfl) ?_
    refine lv_iconst (v := 3) hx hb d_Y_isBetter_23 (by decide) ?_
    refine lv_icmp_ne (tgt := 121) hx hb d_Y_isBetter_24 (by decide) (fun c24 => ?_) (fun c24 => ?_)
    · have ho3 : ¬ o = 3 := fun q => c24 (by rw [q]; rfl)
      refine lv_iconst (v := 0) hx hb d_Y_isBetter_121 (by decide) ?_
      refine lv_istore (lv' := [(4, .int 0), (0, .ref (h 0)), (1, .int (nI a)), (2, .int (nI b)), (3, .int (nI o))]) hx hb d_Y_isBetter_122 hl (by decide) rfl (fun ls hl => ?_)
      refine lv_iconst (v := 0) hx hb d_Y_isBetter_124 (by decide) ?_
      refine lv_istore (lv' := [(5, .int 0), (4, .int 0), (0, .ref (h 0)), (1, .int (nI a)), (2, .int (nI b)), (3, .int (nI o))]) hx hb d_Y_isBetter_125 hl (by decide) rfl (fun ls hl => ?_)
      refine rd_loop (nL := 6) (σ := Int32) (8) (fun i x => [(0, .ref (h 0)), (1, .int (nI a)), (2, .int (nI b)), (3, .int (nI o)), (4, .int x), (5, .int (nI i))]) (fun i x => (x = 0 → fnz (fun r => cmY n bt rk a b r (decide (o = 2))) 8 0 = fnz (fun r => cmY n bt rk a b r (decide (o = 2))) (8 - i) i) ∧ (¬ x = 0 → fnz (fun r => cmY n bt rk a b r (decide (o = 2))) 8 0 = x)) ?_ 0 0 ls (Nat.zero_le _) (⟨fun _ => rfl, fun q => absurd rfl q⟩) (lv_sub hl [2, 3, 4, 5, 1, 0] rfl)
      intro i x ls hi hI hl ih
      have hI : (x = 0 → fnz (fun r => cmY n bt rk a b r (decide (o = 2))) 8 0 = fnz (fun r => cmY n bt rk a b r (decide (o = 2))) (8 - i) i) ∧ (¬ x = 0 → fnz (fun r => cmY n bt rk a b r (decide (o = 2))) 8 0 = x) := hI
      have hl : lv_has ls 6 [(0, .ref (h 0)), (1, .int (nI a)), (2, .int (nI b)), (3, .int (nI o)), (4, .int x), (5, .int (nI i))] := hl
      refine lv_iload hx hb d_Y_isBetter_127 (lv_at hl 5 rfl) ?_
      refine lv_bipush (v := 8) hx hb d_Y_isBetter_129 (by decide) ?_
      refine lv_icmp_ge (tgt := 165) hx hb d_Y_isBetter_131 (by decide) (fun c131 => ?_) (fun c131 => ?_)
      · have hN : i = 8 := lp_ge hi (by decide) c131
        have hfx : fnz (fun r => cmY n bt rk a b r (decide (o = 2))) 8 0 = x := by
          by_cases q : x = 0
          · rw [hI.1 q, hN, q]; rfl
          · exact hI.2 q
        refine lv_iload hx hb d_Y_isBetter_165 (lv_at hl 4 rfl) ?_
        refine lv_iconst (v := 1) hx hb d_Y_isBetter_167 (by decide) ?_
        refine lv_icmp_ne (tgt := 175) hx hb d_Y_isBetter_168 (by decide) (fun c168 => ?_) (fun c168 => ?_)
        · refine lv_iconst (v := 0) hx hb d_Y_isBetter_175 (by decide) ?_
          exact rd_zret hx hb hr hlocks d_Y_isBetter_176 (by rw [betY, if_neg ho0, if_neg ho3, decide_eq_false (fun q => c168 (hfx.symm.trans q))]; rfl)
        · refine lv_iconst (v := 1) hx hb d_Y_isBetter_171 (by decide) ?_
          refine lv_goto (tgt := 176) hx hb d_Y_isBetter_172 (by decide) ?_
          exact rd_zret hx hb hr hlocks d_Y_isBetter_176 (by rw [betY, if_neg ho0, if_neg ho3, decide_eq_true (hfx.trans c168)]; rfl)
      · have hlt : i < 8 := lp_lt hi (by decide) c131
        refine lv_iload hx hb d_Y_isBetter_134 (lv_at hl 4 rfl) ?_
        refine lv_if_ne (tgt := 165) hx hb d_Y_isBetter_136 (by decide) (fun c136 => ?_) (fun c136 => ?_)
        · have hfx : fnz (fun r => cmY n bt rk a b r (decide (o = 2))) 8 0 = x := hI.2 c136
          refine lv_iload hx hb d_Y_isBetter_165 (lv_at hl 4 rfl) ?_
          refine lv_iconst (v := 1) hx hb d_Y_isBetter_167 (by decide) ?_
          refine lv_icmp_ne (tgt := 175) hx hb d_Y_isBetter_168 (by decide) (fun c168 => ?_) (fun c168 => ?_)
          · refine lv_iconst (v := 0) hx hb d_Y_isBetter_175 (by decide) ?_
            exact rd_zret hx hb hr hlocks d_Y_isBetter_176 (by rw [betY, if_neg ho0, if_neg ho3, decide_eq_false (fun q => c168 (hfx.symm.trans q))]; rfl)
          · refine lv_iconst (v := 1) hx hb d_Y_isBetter_171 (by decide) ?_
            refine lv_goto (tgt := 176) hx hb d_Y_isBetter_172 (by decide) ?_
            exact rd_zret hx hb hr hlocks d_Y_isBetter_176 (by rw [betY, if_neg ho0, if_neg ho3, decide_eq_true (hfx.trans c168)]; rfl)
        · refine lv_aload_n hx hb d_Y_isBetter_139 rfl (lv_at hl 0 rfl) ?_
          refine lv_iload_n hx hb d_Y_isBetter_140 rfl (lv_at hl 1 rfl) ?_
          refine lv_iload_n hx hb d_Y_isBetter_141 rfl (lv_at hl 2 rfl) ?_
          refine lv_iload hx hb d_Y_isBetter_142 (lv_at hl 5 rfl) ?_
          refine lv_iload_n hx hb d_Y_isBetter_144 rfl (lv_at hl 3 rfl) ?_
          refine lv_iconst (v := 2) hx hb d_Y_isBetter_145 (by decide) ?_
          refine lv_icmp_ne (tgt := 153) hx hb d_Y_isBetter_146 (by decide) (fun c146 => ?_) (fun c146 => ?_)
          · refine lv_iconst (v := 0) hx hb d_Y_isBetter_153 (by decide) ?_
            refine rd_top (z := bI (decide (o = 2))) (by rw [decide_eq_false (fun q => c146 (by rw [q]; rfl))]; rfl) ?_
            refine rd_V (As := [.int (nI a), .int (nI b), .int (nI i), .int (bI (decide (o = 2)))]) (rest := []) ⟨hx, hb, hml, hown, hts⟩ (c_Y_compare l a b i (decide (o = 2)) hn hrk ha hb2 (by omega)) (cwV 4 hts g_Y_63 rfl rfl rfl (by decide +kernel) ⟨Nat.le_of_ble_eq_true rfl, Nat.le_of_ble_eq_true rfl⟩) hK hP 0 rfl rfl rfl hl.1 rfl (Nat.le_of_ble_eq_true rfl) d_Y_isBetter_154 ⟨Nat.zero_le _, Nat.zero_le _⟩ ?_
            refine lv_istore (lv' := [(4, .int (cmY n bt rk a b i (decide (o = 2)))), (0, .ref (h 0)), (1, .int (nI a)), (2, .int (nI b)), (3, .int (nI o)), (5, .int (nI i))]) hx hb d_Y_isBetter_157 hl (by decide) rfl (fun ls hl => ?_)
            refine lv_iinc (v := (nI (i + 1))) (lv' := [(5, .int (nI (i + 1))), (4, .int (cmY n bt rk a b i (decide (o = 2)))), (0, .ref (h 0)), (1, .int (nI a)), (2, .int (nI b)), (3, .int (nI o))]) hx hb d_Y_isBetter_159 hl (k := 5) rfl (nI_1 i) (by decide) rfl (fun ls hl => ?_)
            refine lv_goto (tgt := 127) hx hb d_Y_isBetter_162 (by decide) ?_
            exact ih hlt (cmY n bt rk a b i (decide (o = 2))) ls (⟨fun q => by rw [hI.1 c136, show 8 - i = (8 - (i + 1)) + 1 by omega, fnz, if_pos q], fun q => by rw [hI.1 c136, show 8 - i = (8 - (i + 1)) + 1 by omega, fnz, if_neg q]⟩) (lv_sub hl [2, 3, 4, 5, 1, 0] rfl)
          · refine lv_iconst (v := 1) hx hb d_Y_isBetter_149 (by decide) ?_
            refine rd_top (z := bI (decide (o = 2))) (by rw [decide_eq_true ((nI_eq (b := 2) (by omega) (by decide)).mp c146)]; rfl) ?_
            refine lv_goto (tgt := 154) hx hb d_Y_isBetter_150 (by decide) ?_
            refine rd_V (As := [.int (nI a), .int (nI b), .int (nI i), .int (bI (decide (o = 2)))]) (rest := []) ⟨hx, hb, hml, hown, hts⟩ (c_Y_compare l a b i (decide (o = 2)) hn hrk ha hb2 (by omega)) (cwV 4 hts g_Y_63 rfl rfl rfl (by decide +kernel) ⟨Nat.le_of_ble_eq_true rfl, Nat.le_of_ble_eq_true rfl⟩) hK hP 0 rfl rfl rfl hl.1 rfl (Nat.le_of_ble_eq_true rfl) d_Y_isBetter_154 ⟨Nat.zero_le _, Nat.zero_le _⟩ ?_
            refine lv_istore (lv' := [(4, .int (cmY n bt rk a b i (decide (o = 2)))), (0, .ref (h 0)), (1, .int (nI a)), (2, .int (nI b)), (3, .int (nI o)), (5, .int (nI i))]) hx hb d_Y_isBetter_157 hl (by decide) rfl (fun ls hl => ?_)
            refine lv_iinc (v := (nI (i + 1))) (lv' := [(5, .int (nI (i + 1))), (4, .int (cmY n bt rk a b i (decide (o = 2)))), (0, .ref (h 0)), (1, .int (nI a)), (2, .int (nI b)), (3, .int (nI o))]) hx hb d_Y_isBetter_159 hl (k := 5) rfl (nI_1 i) (by decide) rfl (fun ls hl => ?_)
            refine lv_goto (tgt := 127) hx hb d_Y_isBetter_162 (by decide) ?_
            exact ih hlt (cmY n bt rk a b i (decide (o = 2))) ls (⟨fun q => by rw [hI.1 c136, show 8 - i = (8 - (i + 1)) + 1 by omega, fnz, if_pos q], fun q => by rw [hI.1 c136, show 8 - i = (8 - (i + 1)) + 1 by omega, fnz, if_neg q]⟩) (lv_sub hl [2, 3, 4, 5, 1, 0] rfl)
    · have ho3 : o = 3 := (nI_eq (b := 3) (by omega) (by decide)).mp c24
      refine lv_iconst (v := 0) hx hb d_Y_isBetter_27 (by decide) ?_
      refine rd_top (z := nI 0 - nI 0) (by decide) ?_
      refine lv_istore (lv' := [(4, .int (nI 0 - nI 0)), (0, .ref (h 0)), (1, .int (nI a)), (2, .int (nI b)), (3, .int (nI o))]) hx hb d_Y_isBetter_28 hl (by decide) rfl (fun ls hl => ?_)
      refine lv_iconst (v := 0) hx hb d_Y_isBetter_30 (by decide) ?_
      refine lv_istore (lv' := [(5, .int 0), (4, .int (nI 0 - nI 0)), (0, .ref (h 0)), (1, .int (nI a)), (2, .int (nI b)), (3, .int (nI o))]) hx hb d_Y_isBetter_31 hl (by decide) rfl (fun ls hl => ?_)
      refine rd_loop (nL := 6) (σ := Nat × Nat) (n) (fun i x => [(0, .ref (h 0)), (1, .int (nI a)), (2, .int (nI b)), (3, .int (nI o)), (4, .int (nI x.1 - nI x.2)), (5, .int (nI i))]) (fun i x => x.1 = wor bt rk wt a 3 i ∧ x.2 = wor bt rk wt b 3 i) ?_ 0 (0, 0) ls (Nat.zero_le _) (⟨rfl, rfl⟩) (lv_sub hl [2, 3, 4, 5, 1, 0] rfl)
      intro i x ls hi hI hl ih
      obtain ⟨h5, h6⟩ : x.1 = wor bt rk wt a 3 i ∧ x.2 = wor bt rk wt b 3 i := hI
      have hl : lv_has ls 6 [(0, .ref (h 0)), (1, .int (nI a)), (2, .int (nI b)), (3, .int (nI o)), (4, .int (nI x.1 - nI x.2)), (5, .int (nI i))] := hl
      refine lv_iload hx hb d_Y_isBetter_33 (lv_at hl 5 rfl) ?_
      refine lv_aload_n hx hb d_Y_isBetter_35 rfl (lv_at hl 0 rfl) ?_
      refine va_get (D := D) (ci := 1) (v := .int (nI n)) (C := RY) (T := TY) (N := 14) hx hb hts inY hown hK hP 0 rfl rfl 0 (by decide) (hts _ f_Y_35) (fun _ h9 => h9) rfl d_Y_isBetter_36 ?_
      refine lv_icmp_ge (tgt := 110) hx hb d_Y_isBetter_39 (by decide) (fun c39 => ?_) (fun c39 => ?_)
      · have hN : i = n := lp_ge hi (by omega) c39
        refine lv_iload hx hb d_Y_isBetter_110 (lv_at hl 4 rfl) ?_
        refine lv_if_le (tgt := 119) hx hb d_Y_isBetter_112 (by decide) (fun c112 => ?_) (fun c112 => ?_)
        · refine lv_iconst (v := 0) hx hb d_Y_isBetter_119 (by decide) ?_
          exact rd_zret hx hb hr hlocks d_Y_isBetter_120 (by rw [betY, if_neg ho0, if_pos ho3, ← hN, ← h5, ← h6, decide_eq_false (fun q => absurd ((su_3 (by rw [h5]; exact wor3_lt hwt (by omega)) (by rw [h6]; exact wor3_lt hwt (by omega))).mpr q) (Int32.not_lt.mpr c112))]; rfl)
        · refine lv_iconst (v := 1) hx hb d_Y_isBetter_115 (by decide) ?_
          refine lv_goto (tgt := 120) hx hb d_Y_isBetter_116 (by decide) ?_
          exact rd_zret hx hb hr hlocks d_Y_isBetter_120 (by rw [betY, if_neg ho0, if_pos ho3, ← hN, ← h5, ← h6, decide_eq_true ((su_3 (by rw [h5]; exact wor3_lt hwt (by omega)) (by rw [h6]; exact wor3_lt hwt (by omega))).mp (Int32.not_le.mp c112))]; rfl)
      · have hlt : i < n := lp_lt hi (by omega) c39
        refine lv_aload_n hx hb d_Y_isBetter_42 rfl (lv_at hl 0 rfl) ?_
        refine va_get (D := D) (ci := 1) (v := .ref (h 1)) (C := RY) (T := TY) (N := 14) hx hb hts inY hown hK hP 0 rfl rfl 1 (by decide) (hts _ f_Y_7) (fun _ h9 => h9) rfl d_Y_isBetter_43 ?_
        refine lv_iload hx hb d_Y_isBetter_46 (lv_at hl 5 rfl) ?_
        refine va_zald hx hb hK hP 1 1 rfl rfl (vp_in_nI (show i < 11 by omega) (by decide)) d_Y_isBetter_48 ?_
        refine rd_top (z := bI (bt.testBit i)) (ar_bI bt.testBit (by omega)) ?_
        refine lv_if_ne (tgt := 73) hx hb d_Y_isBetter_49 (by decide) (fun c49 => ?_) (fun c49 => ?_)
        · refine lv_aload_n hx hb d_Y_isBetter_73 rfl (lv_at hl 0 rfl) ?_
          refine va_get (D := D) (ci := 1) (v := .ref (h 1)) (C := RY) (T := TY) (N := 14) hx hb hts inY hown hK hP 0 rfl rfl 1 (by decide) (hts _ f_Y_7) (fun _ h9 => h9) rfl d_Y_isBetter_74 ?_
          refine lv_iload hx hb d_Y_isBetter_77 (lv_at hl 5 rfl) ?_
          refine va_zald hx hb hK hP 1 1 rfl rfl (vp_in_nI (show i < 11 by omega) (by decide)) d_Y_isBetter_79 ?_
          refine rd_top (z := bI (bt.testBit i)) (ar_bI bt.testBit (by omega)) ?_
          refine lv_if_ne (tgt := 104) hx hb d_Y_isBetter_80 (by decide) (fun c80 => ?_) (fun c80 => ?_)
          · refine lv_iinc (v := (nI (i + 1))) (lv' := [(5, .int (nI (i + 1))), (0, .ref (h 0)), (1, .int (nI a)), (2, .int (nI b)), (3, .int (nI o)), (4, .int (nI x.1 - nI x.2))]) hx hb d_Y_isBetter_104 hl (k := 5) rfl (nI_1 i) (by decide) rfl (fun ls hl => ?_)
            refine lv_goto (tgt := 33) hx hb d_Y_isBetter_107 (by decide) ?_
            exact ih hlt (x.1, x.2) ls (⟨wo_f h5 (fun q => c49 (bI_0.mpr q.2)), wo_f h6 (fun q => c80 (bI_0.mpr q.2))⟩) (lv_sub hl [1, 2, 3, 4, 5, 0] rfl)
          · refine lv_iload_n hx hb d_Y_isBetter_83 rfl (lv_at hl 2 rfl) ?_
            refine lv_iload hx hb d_Y_isBetter_84 (lv_at hl 5 rfl) ?_
            refine rd_S (As := [.int (nI b), .int (nI i)]) (rest := []) ⟨hx, hb, hml, hown, hts⟩ (c_Y_has l b i hb2 (by omega)) (cwS 2 hts g_Y_60 rfl rfl rfl (by decide +kernel) ⟨Nat.le_of_ble_eq_true rfl, Nat.le_of_ble_eq_true rfl⟩) rfl hl.1 rfl (Nat.le_of_ble_eq_true rfl) d_Y_isBetter_86 ⟨Nat.zero_le _, Nat.zero_le _⟩ ?_
            refine lv_if_eq (tgt := 104) hx hb d_Y_isBetter_89 (by decide) (fun c89 => ?_) (fun c89 => ?_)
            · refine lv_iinc (v := (nI (i + 1))) (lv' := [(5, .int (nI (i + 1))), (0, .ref (h 0)), (1, .int (nI a)), (2, .int (nI b)), (3, .int (nI o)), (4, .int (nI x.1 - nI x.2))]) hx hb d_Y_isBetter_104 hl (k := 5) rfl (nI_1 i) (by decide) rfl (fun ls hl => ?_)
              refine lv_goto (tgt := 33) hx hb d_Y_isBetter_107 (by decide) ?_
              exact ih hlt (x.1, x.2) ls (⟨wo_f h5 (fun q => c49 (bI_0.mpr q.2)), wo_f h6 (fun q => by have h9 := bI_0.mp c89; rw [q.1] at h9; cases h9)⟩) (lv_sub hl [1, 2, 3, 4, 5, 0] rfl)
            · refine lv_iload hx hb d_Y_isBetter_92 (lv_at hl 4 rfl) ?_
              refine lv_aload_n hx hb d_Y_isBetter_94 rfl (lv_at hl 0 rfl) ?_
              refine va_get (D := D) (ci := 1) (v := .ref (h 3)) (C := RY) (T := TY) (N := 14) hx hb hts inY hown hK hP 0 rfl rfl 3 (by decide) (hts _ f_Y_17) (fun _ h9 => h9) rfl d_Y_isBetter_95 ?_
              refine lv_iload hx hb d_Y_isBetter_98 (lv_at hl 5 rfl) ?_
              refine va_iald hx hb hK hP 3 0 rfl rfl (vp_in_nI (show i < 11 by omega) (by decide)) d_Y_isBetter_100 ?_
              refine rd_top (z := nI (wt i)) (ar_nI wt (by omega)) ?_
              refine lv_isub hx hb d_Y_isBetter_101 ?_
              refine rd_top (z := nI (x.1) - nI (x.2 + wt i)) (su_2 _ _ _) ?_
              refine lv_istore (lv' := [(4, .int (nI (x.1) - nI (x.2 + wt i))), (0, .ref (h 0)), (1, .int (nI a)), (2, .int (nI b)), (3, .int (nI o)), (5, .int (nI i))]) hx hb d_Y_isBetter_102 hl (by decide) rfl (fun ls hl => ?_)
              refine lv_iinc (v := (nI (i + 1))) (lv' := [(5, .int (nI (i + 1))), (4, .int (nI (x.1) - nI (x.2 + wt i))), (0, .ref (h 0)), (1, .int (nI a)), (2, .int (nI b)), (3, .int (nI o))]) hx hb d_Y_isBetter_104 hl (k := 5) rfl (nI_1 i) (by decide) rfl (fun ls hl => ?_)
              refine lv_goto (tgt := 33) hx hb d_Y_isBetter_107 (by decide) ?_
              exact ih hlt (x.1, x.2 + wt i) ls (⟨wo_f h5 (fun q => c49 (bI_0.mpr q.2)), wo_t h6 (bI_0.mp c80) (show b.testBit i = true by cases hq : b.testBit i; exact absurd (bI_0.mpr hq) c89; rfl)⟩) (lv_sub hl [2, 3, 4, 5, 1, 0] rfl)
        · refine lv_iload_n hx hb d_Y_isBetter_52 rfl (lv_at hl 1 rfl) ?_
          refine lv_iload hx hb d_Y_isBetter_53 (lv_at hl 5 rfl) ?_
          refine rd_S (As := [.int (nI a), .int (nI i)]) (rest := []) ⟨hx, hb, hml, hown, hts⟩ (c_Y_has l a i ha (by omega)) (cwS 2 hts g_Y_60 rfl rfl rfl (by decide +kernel) ⟨Nat.le_of_ble_eq_true rfl, Nat.le_of_ble_eq_true rfl⟩) rfl hl.1 rfl (Nat.le_of_ble_eq_true rfl) d_Y_isBetter_55 ⟨Nat.zero_le _, Nat.zero_le _⟩ ?_
          refine lv_if_eq (tgt := 73) hx hb d_Y_isBetter_58 (by decide) (fun c58 => ?_) (fun c58 => ?_)
          · refine lv_aload_n hx hb d_Y_isBetter_73 rfl (lv_at hl 0 rfl) ?_
            refine va_get (D := D) (ci := 1) (v := .ref (h 1)) (C := RY) (T := TY) (N := 14) hx hb hts inY hown hK hP 0 rfl rfl 1 (by decide) (hts _ f_Y_7) (fun _ h9 => h9) rfl d_Y_isBetter_74 ?_
            refine lv_iload hx hb d_Y_isBetter_77 (lv_at hl 5 rfl) ?_
            refine va_zald hx hb hK hP 1 1 rfl rfl (vp_in_nI (show i < 11 by omega) (by decide)) d_Y_isBetter_79 ?_
            refine rd_top (z := bI (bt.testBit i)) (ar_bI bt.testBit (by omega)) ?_
            refine lv_if_ne (tgt := 104) hx hb d_Y_isBetter_80 (by decide) (fun c80 => ?_) (fun c80 => ?_)
            · refine lv_iinc (v := (nI (i + 1))) (lv' := [(5, .int (nI (i + 1))), (0, .ref (h 0)), (1, .int (nI a)), (2, .int (nI b)), (3, .int (nI o)), (4, .int (nI x.1 - nI x.2))]) hx hb d_Y_isBetter_104 hl (k := 5) rfl (nI_1 i) (by decide) rfl (fun ls hl => ?_)
              refine lv_goto (tgt := 33) hx hb d_Y_isBetter_107 (by decide) ?_
              exact ih hlt (x.1, x.2) ls (⟨wo_f h5 (fun q => by have h9 := bI_0.mp c58; rw [q.1] at h9; cases h9), wo_f h6 (fun q => c80 (bI_0.mpr q.2))⟩) (lv_sub hl [1, 2, 3, 4, 5, 0] rfl)
            · refine lv_iload_n hx hb d_Y_isBetter_83 rfl (lv_at hl 2 rfl) ?_
              refine lv_iload hx hb d_Y_isBetter_84 (lv_at hl 5 rfl) ?_
              refine rd_S (As := [.int (nI b), .int (nI i)]) (rest := []) ⟨hx, hb, hml, hown, hts⟩ (c_Y_has l b i hb2 (by omega)) (cwS 2 hts g_Y_60 rfl rfl rfl (by decide +kernel) ⟨Nat.le_of_ble_eq_true rfl, Nat.le_of_ble_eq_true rfl⟩) rfl hl.1 rfl (Nat.le_of_ble_eq_true rfl) d_Y_isBetter_86 ⟨Nat.zero_le _, Nat.zero_le _⟩ ?_
              refine lv_if_eq (tgt := 104) hx hb d_Y_isBetter_89 (by decide) (fun c89 => ?_) (fun c89 => ?_)
              · refine lv_iinc (v := (nI (i + 1))) (lv' := [(5, .int (nI (i + 1))), (0, .ref (h 0)), (1, .int (nI a)), (2, .int (nI b)), (3, .int (nI o)), (4, .int (nI x.1 - nI x.2))]) hx hb d_Y_isBetter_104 hl (k := 5) rfl (nI_1 i) (by decide) rfl (fun ls hl => ?_)
                refine lv_goto (tgt := 33) hx hb d_Y_isBetter_107 (by decide) ?_
                exact ih hlt (x.1, x.2) ls (⟨wo_f h5 (fun q => by have h9 := bI_0.mp c58; rw [q.1] at h9; cases h9), wo_f h6 (fun q => by have h9 := bI_0.mp c89; rw [q.1] at h9; cases h9)⟩) (lv_sub hl [1, 2, 3, 4, 5, 0] rfl)
              · refine lv_iload hx hb d_Y_isBetter_92 (lv_at hl 4 rfl) ?_
                refine lv_aload_n hx hb d_Y_isBetter_94 rfl (lv_at hl 0 rfl) ?_
                refine va_get (D := D) (ci := 1) (v := .ref (h 3)) (C := RY) (T := TY) (N := 14) hx hb hts inY hown hK hP 0 rfl rfl 3 (by decide) (hts _ f_Y_17) (fun _ h9 => h9) rfl d_Y_isBetter_95 ?_
                refine lv_iload hx hb d_Y_isBetter_98 (lv_at hl 5 rfl) ?_
                refine va_iald hx hb hK hP 3 0 rfl rfl (vp_in_nI (show i < 11 by omega) (by decide)) d_Y_isBetter_100 ?_
                refine rd_top (z := nI (wt i)) (ar_nI wt (by omega)) ?_
                refine lv_isub hx hb d_Y_isBetter_101 ?_
                refine rd_top (z := nI (x.1) - nI (x.2 + wt i)) (su_2 _ _ _) ?_
                refine lv_istore (lv' := [(4, .int (nI (x.1) - nI (x.2 + wt i))), (0, .ref (h 0)), (1, .int (nI a)), (2, .int (nI b)), (3, .int (nI o)), (5, .int (nI i))]) hx hb d_Y_isBetter_102 hl (by decide) rfl (fun ls hl => ?_)
                refine lv_iinc (v := (nI (i + 1))) (lv' := [(5, .int (nI (i + 1))), (4, .int (nI (x.1) - nI (x.2 + wt i))), (0, .ref (h 0)), (1, .int (nI a)), (2, .int (nI b)), (3, .int (nI o))]) hx hb d_Y_isBetter_104 hl (k := 5) rfl (nI_1 i) (by decide) rfl (fun ls hl => ?_)
                refine lv_goto (tgt := 33) hx hb d_Y_isBetter_107 (by decide) ?_
                exact ih hlt (x.1, x.2 + wt i) ls (⟨wo_f h5 (fun q => by have h9 := bI_0.mp c58; rw [q.1] at h9; cases h9), wo_t h6 (bI_0.mp c80) (show b.testBit i = true by cases hq : b.testBit i; exact absurd (bI_0.mpr hq) c89; rfl)⟩) (lv_sub hl [2, 3, 4, 5, 1, 0] rfl)
          · refine lv_iload hx hb d_Y_isBetter_61 (lv_at hl 4 rfl) ?_
            refine lv_aload_n hx hb d_Y_isBetter_63 rfl (lv_at hl 0 rfl) ?_
            refine va_get (D := D) (ci := 1) (v := .ref (h 3)) (C := RY) (T := TY) (N := 14) hx hb hts inY hown hK hP 0 rfl rfl 3 (by decide) (hts _ f_Y_17) (fun _ h9 => h9) rfl d_Y_isBetter_64 ?_
            refine lv_iload hx hb d_Y_isBetter_67 (lv_at hl 5 rfl) ?_
            refine va_iald hx hb hK hP 3 0 rfl rfl (vp_in_nI (show i < 11 by omega) (by decide)) d_Y_isBetter_69 ?_
            refine rd_top (z := nI (wt i)) (ar_nI wt (by omega)) ?_
            refine lv_iadd hx hb d_Y_isBetter_70 ?_
            refine rd_top (z := nI (x.1 + wt i) - nI x.2) (su_1 _ _ _) ?_
            refine lv_istore (lv' := [(4, .int (nI (x.1 + wt i) - nI x.2)), (0, .ref (h 0)), (1, .int (nI a)), (2, .int (nI b)), (3, .int (nI o)), (5, .int (nI i))]) hx hb d_Y_isBetter_71 hl (by decide) rfl (fun ls hl => ?_)
            refine lv_aload_n hx hb d_Y_isBetter_73 rfl (lv_at hl 1 rfl) ?_
            refine va_get (D := D) (ci := 1) (v := .ref (h 1)) (C := RY) (T := TY) (N := 14) hx hb hts inY hown hK hP 0 rfl rfl 1 (by decide) (hts _ f_Y_7) (fun _ h9 => h9) rfl d_Y_isBetter_74 ?_
            refine lv_iload hx hb d_Y_isBetter_77 (lv_at hl 5 rfl) ?_
            refine va_zald hx hb hK hP 1 1 rfl rfl (vp_in_nI (show i < 11 by omega) (by decide)) d_Y_isBetter_79 ?_
            refine rd_top (z := bI (bt.testBit i)) (ar_bI bt.testBit (by omega)) ?_
            refine lv_if_ne (tgt := 104) hx hb d_Y_isBetter_80 (by decide) (fun c80 => ?_) (fun c80 => ?_)
            · refine lv_iinc (v := (nI (i + 1))) (lv' := [(5, .int (nI (i + 1))), (4, .int (nI (x.1 + wt i) - nI x.2)), (0, .ref (h 0)), (1, .int (nI a)), (2, .int (nI b)), (3, .int (nI o))]) hx hb d_Y_isBetter_104 hl (k := 5) rfl (nI_1 i) (by decide) rfl (fun ls hl => ?_)
              refine lv_goto (tgt := 33) hx hb d_Y_isBetter_107 (by decide) ?_
              exact ih hlt (x.1 + wt i, x.2) ls (⟨wo_t h5 (bI_0.mp c49) (show a.testBit i = true by cases hq : a.testBit i; exact absurd (bI_0.mpr hq) c58; rfl), wo_f h6 (fun q => c80 (bI_0.mpr q.2))⟩) (lv_sub hl [2, 3, 4, 5, 1, 0] rfl)
            · refine lv_iload_n hx hb d_Y_isBetter_83 rfl (lv_at hl 3 rfl) ?_
              refine lv_iload hx hb d_Y_isBetter_84 (lv_at hl 5 rfl) ?_
              refine rd_S (As := [.int (nI b), .int (nI i)]) (rest := []) ⟨hx, hb, hml, hown, hts⟩ (c_Y_has l b i hb2 (by omega)) (cwS 2 hts g_Y_60 rfl rfl rfl (by decide +kernel) ⟨Nat.le_of_ble_eq_true rfl, Nat.le_of_ble_eq_true rfl⟩) rfl hl.1 rfl (Nat.le_of_ble_eq_true rfl) d_Y_isBetter_86 ⟨Nat.zero_le _, Nat.zero_le _⟩ ?_
              refine lv_if_eq (tgt := 104) hx hb d_Y_isBetter_89 (by decide) (fun c89 => ?_) (fun c89 => ?_)
              · refine lv_iinc (v := (nI (i + 1))) (lv' := [(5, .int (nI (i + 1))), (4, .int (nI (x.1 + wt i) - nI x.2)), (0, .ref (h 0)), (1, .int (nI a)), (2, .int (nI b)), (3, .int (nI o))]) hx hb d_Y_isBetter_104 hl (k := 5) rfl (nI_1 i) (by decide) rfl (fun ls hl => ?_)
                refine lv_goto (tgt := 33) hx hb d_Y_isBetter_107 (by decide) ?_
                exact ih hlt (x.1 + wt i, x.2) ls (⟨wo_t h5 (bI_0.mp c49) (show a.testBit i = true by cases hq : a.testBit i; exact absurd (bI_0.mpr hq) c58; rfl), wo_f h6 (fun q => by have h9 := bI_0.mp c89; rw [q.1] at h9; cases h9)⟩) (lv_sub hl [2, 3, 4, 5, 1, 0] rfl)
              · refine lv_iload hx hb d_Y_isBetter_92 (lv_at hl 0 rfl) ?_
                refine lv_aload_n hx hb d_Y_isBetter_94 rfl (lv_at hl 1 rfl) ?_
                refine va_get (D := D) (ci := 1) (v := .ref (h 3)) (C := RY) (T := TY) (N := 14) hx hb hts inY hown hK hP 0 rfl rfl 3 (by decide) (hts _ f_Y_17) (fun _ h9 => h9) rfl d_Y_isBetter_95 ?_
                refine lv_iload hx hb d_Y_isBetter_98 (lv_at hl 5 rfl) ?_
                refine va_iald hx hb hK hP 3 0 rfl rfl (vp_in_nI (show i < 11 by omega) (by decide)) d_Y_isBetter_100 ?_
                refine rd_top (z := nI (wt i)) (ar_nI wt (by omega)) ?_
                refine lv_isub hx hb d_Y_isBetter_101 ?_
                refine rd_top (z := nI (x.1 + wt i) - nI (x.2 + wt i)) (su_2 _ _ _) ?_
                refine lv_istore (lv' := [(4, .int (nI (x.1 + wt i) - nI (x.2 + wt i))), (0, .ref (h 0)), (1, .int (nI a)), (2, .int (nI b)), (3, .int (nI o)), (5, .int (nI i))]) hx hb d_Y_isBetter_102 hl (by decide) rfl (fun ls hl => ?_)
                refine lv_iinc (v := (nI (i + 1))) (lv' := [(5, .int (nI (i + 1))), (4, .int (nI (x.1 + wt i) - nI (x.2 + wt i))), (0, .ref (h 0)), (1, .int (nI a)), (2, .int (nI b)), (3, .int (nI o))]) hx hb d_Y_isBetter_104 hl (k := 5) rfl (nI_1 i) (by decide) rfl (fun ls hl => ?_)
                refine lv_goto (tgt := 33) hx hb d_Y_isBetter_107 (by decide) ?_
                exact ih hlt (x.1 + wt i, x.2 + wt i) ls (⟨wo_t h5 (bI_0.mp c49) (show a.testBit i = true by cases hq : a.testBit i; exact absurd (bI_0.mpr hq) c58; rfl), wo_t h6 (bI_0.mp c80) (show b.testBit i = true by cases hq : b.testBit i; exact absurd (bI_0.mpr hq) c89; rfl)⟩) (lv_sub hl [2, 3, 4, 5, 1, 0] rfl)
  · have ho0 : o = 0 := (nI_eq (b := 0) (by omega) (by decide)).mp c1
    refine lv_iload_n hx hb d_Y_isBetter_4 rfl (lv_at hl 1 rfl) ?_
    refine lv_iload_n hx hb d_Y_isBetter_5 rfl (lv_at hl 2 rfl) ?_
    refine lv_icmp_eq (tgt := 20) hx hb d_Y_isBetter_6 (by decide) (fun c6 => ?_) (fun c6 => ?_)
    · refine lv_iconst (v := 0) hx hb d_Y_isBetter_20 (by decide) ?_
      exact rd_zret hx hb hr hlocks d_Y_isBetter_21 (by rw [betY, if_pos ho0, show a = b from (nI_eq ha hb2).mp c6]; simp [hasM, bI])
    · refine lv_iload_n hx hb d_Y_isBetter_9 rfl (lv_at hl 1 rfl) ?_
      refine lv_iload_n hx hb d_Y_isBetter_10 rfl (lv_at hl 2 rfl) ?_
      refine lv_ior hx hb d_Y_isBetter_11 ?_
      refine rd_top (z := nI (a ||| b)) (bx_or _ _) ?_
      refine lv_iload_n hx hb d_Y_isBetter_12 rfl (lv_at hl 1 rfl) ?_
      refine lv_icmp_ne (tgt := 20) hx hb d_Y_isBetter_13 (by decide) (fun c13 => ?_) (fun c13 => ?_)
      · refine lv_iconst (v := 0) hx hb d_Y_isBetter_20 (by decide) ?_
        exact rd_zret hx hb hr hlocks d_Y_isBetter_21 (by rw [betY, if_pos ho0]; cases hq : hasM a b; rfl; exact absurd (congrArg nI (or_sub.mpr (hasM_iff.mp hq).2)) c13)
      · refine lv_iconst (v := 1) hx hb d_Y_isBetter_16 (by decide) ?_
        refine lv_goto (tgt := 21) hx hb d_Y_isBetter_17 (by decide) ?_
        exact rd_zret hx hb hr hlocks d_Y_isBetter_21 (by rw [betY, if_pos ho0, hasM_iff.mpr ⟨fun q => c6 (by rw [q]), or_sub.mp ((nI_eq (Nat.or_lt_two_pow ha hb2) ha).mp c13)⟩]; rfl)
set_option maxHeartbeats 4000000 in
set_option maxRecDepth 100000 in
theorem c_Y_isKept (l : Launch) (S : Nat) (hn : n ≤ 11) (hbt : bt < 2 ^ n) (hS2 : S < 2 ^ 31) (hcc : cc ≤ 40) (hcl : ∀ j, cl j < 2048) : Met l y_Y_isKept w_Y_isKept (k2_rm 1 21) (rd_Pc D clX (wY h cI cZ n bt.testBit rk wt cl cc ow su sc od kn ke rp rc) [(cI, .int), (cZ, .boolean)] [.ref (h 0), .int (nI S)]) (k2_QcV (.int (bI (kepX bt cl cc S)))) 0 0 (fun _ => False) := by
  refine rd_met (by decide) rfl (Nat.le_of_ble_eq_true rfl) rfl ?_
  intro p e s m below meth c ls hx hb hr hml hown hts hlocks hP hK hl
  have hts : ∀ w ∈ tbl, w.before _ s = true := fun w h => hts w (List.mem_cons_of_mem _ h)
  have hown : s.vm.findClass RY = some m.cls := hown
  have hl : lv_has ls 4 [(0, .ref (h 0)), (1, .int (nI S))] := hl
  refine lv_iconst (v := 1) hx hb d_Y_isKept_0 (by decide) ?_
  refine rd_top (z := bI true) (rfl) ?_
  refine lv_istore_n (lv' := [(2, .int (bI true)), (0, .ref (h 0)), (1, .int (nI S))]) hx hb d_Y_isKept_1 rfl hl (by decide) rfl (fun ls hl => ?_)
  refine lv_iconst (v := 0) hx hb d_Y_isKept_2 (by decide) ?_
  refine lv_istore_n (lv' := [(3, .int 0), (2, .int (bI true)), (0, .ref (h 0)), (1, .int (nI S))]) hx hb d_Y_isKept_3 rfl hl (by decide) rfl (fun ls hl => ?_)
  refine rd_loop (nL := 4) (σ := Bool) (n) (fun i x => [(0, .ref (h 0)), (1, .int (nI S)), (2, .int (bI x)), (3, .int (nI i))]) (fun i x => x = !anyB (fun j => bt.testBit j && !S.testBit j) i) ?_ 0 true ls (Nat.zero_le _) (rfl) (lv_sub hl [2, 3, 1, 0] rfl)
  intro i x ls hi hI hl ih
  have hI : x = !anyB (fun j => bt.testBit j && !S.testBit j) i := hI
  have hl : lv_has ls 4 [(0, .ref (h 0)), (1, .int (nI S)), (2, .int (bI x)), (3, .int (nI i))] := hl
  refine lv_iload_n hx hb d_Y_isKept_4 rfl (lv_at hl 3 rfl) ?_
  refine lv_aload_n hx hb d_Y_isKept_5 rfl (lv_at hl 0 rfl) ?_
  refine va_get (D := D) (ci := 1) (v := .int (nI n)) (C := RY) (T := TY) (N := 14) hx hb hts inY hown hK hP 0 rfl rfl 0 (by decide) (hts _ f_Y_35) (fun _ h9 => h9) rfl d_Y_isKept_6 ?_
  refine lv_icmp_ge (tgt := 45) hx hb d_Y_isKept_9 (by decide) (fun c9 => ?_) (fun c9 => ?_)
  · have hN : i = n := lp_ge hi (by omega) c9
    have hsx : x = sp_sub bt S := by
      rw [hI, hN, Bool.eq_iff_iff, Bool.not_eq_true', anyB_not, sub_iff]
      constructor
      · intro q j hj
        have h1 := q j (bit_lt hbt hj)
        rw [hj] at h1
        cases h2 : S.testBit j
        · rw [h2] at h1; cases h1
        · rfl
      · intro q j hj
        cases h1 : bt.testBit j
        · rfl
        · rw [q j h1]; rfl
    refine lv_iconst (v := 0) hx hb d_Y_isKept_45 (by decide) ?_
    refine lv_istore_n (lv' := [(3, .int 0), (0, .ref (h 0)), (1, .int (nI S)), (2, .int (bI x))]) hx hb d_Y_isKept_46 rfl hl (by decide) rfl (fun ls hl => ?_)
    refine rd_loop (nL := 4) (σ := Bool) (cc) (fun i x => [(0, .ref (h 0)), (1, .int (nI S)), (2, .int (bI x)), (3, .int (nI i))]) (fun i x => x = (sp_sub bt S && !anyB (fun j => sp_sub (cl j) S) i)) ?_ 0 x ls (Nat.zero_le _) (by show x = (sp_sub bt S && !anyB (fun j => sp_sub (cl j) S) 0); rw [hsx]; simp [anyB]) (lv_sub hl [1, 2, 3, 0] rfl)
    intro i x ls hi hI hl ih
    have hI : x = (sp_sub bt S && !anyB (fun j => sp_sub (cl j) S) i) := hI
    have hl : lv_has ls 4 [(0, .ref (h 0)), (1, .int (nI S)), (2, .int (bI x)), (3, .int (nI i))] := hl
    refine lv_iload_n hx hb d_Y_isKept_47 rfl (lv_at hl 3 rfl) ?_
    refine lv_aload_n hx hb d_Y_isKept_48 rfl (lv_at hl 0 rfl) ?_
    refine va_get (D := D) (ci := 1) (v := .int (nI cc)) (C := RY) (T := TY) (N := 14) hx hb hts inY hown hK hP 0 rfl rfl 5 (by decide) (hts _ f_Y_51) (fun _ h9 => h9) rfl d_Y_isKept_49 ?_
    refine lv_icmp_ge (tgt := 84) hx hb d_Y_isKept_52 (by decide) (fun c52 => ?_) (fun c52 => ?_)
    · have hN : i = cc := lp_ge hi (by omega) c52
      have hfin : x = kepX bt cl cc S := by rw [hI, hN]; rfl
      refine lv_iload_n hx hb d_Y_isKept_84 rfl (lv_at hl 2 rfl) ?_
      exact rd_zret hx hb hr hlocks d_Y_isKept_85 (by rw [hfin])
    · have hlt : i < cc := lp_lt hi (by omega) c52
      refine lv_iload_n hx hb d_Y_isKept_55 rfl (lv_at hl 2 rfl) ?_
      refine lv_if_eq (tgt := 84) hx hb d_Y_isKept_56 (by decide) (fun c56 => ?_) (fun c56 => ?_)
      · have hfin : x = kepX bt cl cc S := by
          have h0 := bI_0.mp c56
          rw [h0] at hI ⊢
          unfold kepX clS
          cases h1 : sp_sub bt S
          · rfl
          · have h2 : anyB (fun j => sp_sub (cl j) S) i = true := by cases h3 : anyB (fun j => sp_sub (cl j) S) i; (rw [h1, h3] at hI; cases hI); rfl
            obtain ⟨j, h3, h4⟩ := anyB_iff.mp h2
            rw [anyB_of (P := (fun j => sp_sub (cl j) S)) (show j < cc by omega) h4]; rfl
        refine lv_iload_n hx hb d_Y_isKept_84 rfl (lv_at hl 2 rfl) ?_
        exact rd_zret hx hb hr hlocks d_Y_isKept_85 (by rw [hfin])
      · have hI2 : sp_sub bt S = true ∧ anyB (fun j => sp_sub (cl j) S) i = false := by
          have h1 := hI
          rw [show x = true by cases hq : x; exact absurd (bI_0.mpr hq) c56; rfl] at h1
          have h2 := h1.symm
          rw [Bool.and_eq_true, Bool.not_eq_true'] at h2
          exact h2
        refine lv_aload_n hx hb d_Y_isKept_59 rfl (lv_at hl 0 rfl) ?_
        refine va_get (D := D) (ci := 1) (v := .ref (h 4)) (C := RY) (T := TY) (N := 14) hx hb hts inY hown hK hP 0 rfl rfl 4 (by decide) (hts _ f_Y_20) (fun _ h9 => h9) rfl d_Y_isKept_60 ?_
        refine lv_iload_n hx hb d_Y_isKept_63 rfl (lv_at hl 3 rfl) ?_
        refine va_iald hx hb hK hP 4 0 rfl rfl (vp_in_nI (show i < 40 by omega) (by decide)) d_Y_isKept_64 ?_
        refine rd_top (z := nI (cl i)) (ar_nI cl (by omega)) ?_
        refine lv_iload_n hx hb d_Y_isKept_65 rfl (lv_at hl 1 rfl) ?_
        refine lv_iconst (v := (-1)) hx hb d_Y_isKept_66 (by decide) ?_
        refine lv_ixor hx hb d_Y_isKept_67 ?_
        refine lv_iand hx hb d_Y_isKept_68 ?_
        refine lv_if_eq (tgt := 76) hx hb d_Y_isKept_69 (by decide) (fun c69 => ?_) (fun c69 => ?_)
        · refine lv_iconst (v := 0) hx hb d_Y_isKept_76 (by decide) ?_
          refine rd_top (z := bI false) (rfl) ?_
          refine lv_istore_n (lv' := [(2, .int (bI false)), (0, .ref (h 0)), (1, .int (nI S)), (3, .int (nI i))]) hx hb d_Y_isKept_77 rfl hl (by decide) rfl (fun ls hl => ?_)
          refine lv_iinc (v := (nI (i + 1))) (lv' := [(3, .int (nI (i + 1))), (2, .int (bI false)), (0, .ref (h 0)), (1, .int (nI S))]) hx hb d_Y_isKept_78 hl (k := 3) rfl (nI_1 i) (by decide) rfl (fun ls hl => ?_)
          refine lv_goto (tgt := 47) hx hb d_Y_isKept_81 (by decide) ?_
          exact ih hlt false ls (by show false = (sp_sub bt S && !anyB (fun j => sp_sub (cl j) S) (i + 1)); rw [anyB_of (P := (fun j => sp_sub (cl j) S)) (show i < i + 1 by omega) ((bx_part (by have := hcl i; omega)).mp c69), Bool.not_true, Bool.and_false]) (lv_sub hl [2, 3, 1, 0] rfl)
        · refine lv_iconst (v := 1) hx hb d_Y_isKept_72 (by decide) ?_
          refine rd_top (z := bI true) (rfl) ?_
          refine lv_goto (tgt := 77) hx hb d_Y_isKept_73 (by decide) ?_
          refine lv_istore_n (lv' := [(2, .int (bI true)), (0, .ref (h 0)), (1, .int (nI S)), (3, .int (nI i))]) hx hb d_Y_isKept_77 rfl hl (by decide) rfl (fun ls hl => ?_)
          refine lv_iinc (v := (nI (i + 1))) (lv' := [(3, .int (nI (i + 1))), (2, .int (bI true)), (0, .ref (h 0)), (1, .int (nI S))]) hx hb d_Y_isKept_78 hl (k := 3) rfl (nI_1 i) (by decide) rfl (fun ls hl => ?_)
          refine lv_goto (tgt := 47) hx hb d_Y_isKept_81 (by decide) ?_
          exact ih hlt true ls (by show true = (sp_sub bt S && !anyB (fun j => sp_sub (cl j) S) (i + 1)); rw [anyB_next hI2.2 (by cases hq : sp_sub (cl i) S; rfl; exact absurd ((bx_part (by have := hcl i; omega)).mpr hq) c69), hI2.1]; rfl) (lv_sub hl [2, 3, 1, 0] rfl)
  · have hlt : i < n := lp_lt hi (by omega) c9
    refine lv_iload_n hx hb d_Y_isKept_12 rfl (lv_at hl 2 rfl) ?_
    refine lv_if_eq (tgt := 45) hx hb d_Y_isKept_13 (by decide) (fun c13 => ?_) (fun c13 => ?_)
    · have hx0 := bI_0.mp c13
      have hsx : x = sp_sub bt S := by
        rw [hx0] at hI ⊢
        cases hq : sp_sub bt S
        · rfl
        · exfalso
          have h1 : anyB (fun j => bt.testBit j && !S.testBit j) i = true := by cases h2 : anyB (fun j => bt.testBit j && !S.testBit j) i; (rw [h2] at hI; cases hI); rfl
          obtain ⟨j, h2, h3⟩ := anyB_iff.mp h1
          rw [Bool.and_eq_true, Bool.not_eq_true'] at h3
          rw [sub_iff.mp hq j h3.1] at h3
          exact absurd h3.2 (by decide)
      refine lv_iconst (v := 0) hx hb d_Y_isKept_45 (by decide) ?_
      refine lv_istore_n (lv' := [(3, .int 0), (0, .ref (h 0)), (1, .int (nI S)), (2, .int (bI x))]) hx hb d_Y_isKept_46 rfl hl (by decide) rfl (fun ls hl => ?_)
      refine rd_loop (nL := 4) (σ := Bool) (cc) (fun i x => [(0, .ref (h 0)), (1, .int (nI S)), (2, .int (bI x)), (3, .int (nI i))]) (fun i x => x = (sp_sub bt S && !anyB (fun j => sp_sub (cl j) S) i)) ?_ 0 x ls (Nat.zero_le _) (by show x = (sp_sub bt S && !anyB (fun j => sp_sub (cl j) S) 0); rw [hsx]; simp [anyB]) (lv_sub hl [1, 2, 3, 0] rfl)
      intro i x ls hi hI hl ih
      have hI : x = (sp_sub bt S && !anyB (fun j => sp_sub (cl j) S) i) := hI
      have hl : lv_has ls 4 [(0, .ref (h 0)), (1, .int (nI S)), (2, .int (bI x)), (3, .int (nI i))] := hl
      refine lv_iload_n hx hb d_Y_isKept_47 rfl (lv_at hl 3 rfl) ?_
      refine lv_aload_n hx hb d_Y_isKept_48 rfl (lv_at hl 0 rfl) ?_
      refine va_get (D := D) (ci := 1) (v := .int (nI cc)) (C := RY) (T := TY) (N := 14) hx hb hts inY hown hK hP 0 rfl rfl 5 (by decide) (hts _ f_Y_51) (fun _ h9 => h9) rfl d_Y_isKept_49 ?_
      refine lv_icmp_ge (tgt := 84) hx hb d_Y_isKept_52 (by decide) (fun c52 => ?_) (fun c52 => ?_)
      · have hN : i = cc := lp_ge hi (by omega) c52
        have hfin : x = kepX bt cl cc S := by rw [hI, hN]; rfl
        refine lv_iload_n hx hb d_Y_isKept_84 rfl (lv_at hl 2 rfl) ?_
        exact rd_zret hx hb hr hlocks d_Y_isKept_85 (by rw [hfin])
      · have hlt : i < cc := lp_lt hi (by omega) c52
        refine lv_iload_n hx hb d_Y_isKept_55 rfl (lv_at hl 2 rfl) ?_
        refine lv_if_eq (tgt := 84) hx hb d_Y_isKept_56 (by decide) (fun c56 => ?_) (fun c56 => ?_)
        · have hfin : x = kepX bt cl cc S := by
            have h0 := bI_0.mp c56
            rw [h0] at hI ⊢
            unfold kepX clS
            cases h1 : sp_sub bt S
            · rfl
            · have h2 : anyB (fun j => sp_sub (cl j) S) i = true := by cases h3 : anyB (fun j => sp_sub (cl j) S) i; (rw [h1, h3] at hI; cases hI); rfl
              obtain ⟨j, h3, h4⟩ := anyB_iff.mp h2
              rw [anyB_of (P := (fun j => sp_sub (cl j) S)) (show j < cc by omega) h4]; rfl
          refine lv_iload_n hx hb d_Y_isKept_84 rfl (lv_at hl 2 rfl) ?_
          exact rd_zret hx hb hr hlocks d_Y_isKept_85 (by rw [hfin])
        · have hI2 : sp_sub bt S = true ∧ anyB (fun j => sp_sub (cl j) S) i = false := by
            have h1 := hI
            rw [show x = true by cases hq : x; exact absurd (bI_0.mpr hq) c56; rfl] at h1
            have h2 := h1.symm
            rw [Bool.and_eq_true, Bool.not_eq_true'] at h2
            exact h2
          refine lv_aload_n hx hb d_Y_isKept_59 rfl (lv_at hl 0 rfl) ?_
          refine va_get (D := D) (ci := 1) (v := .ref (h 4)) (C := RY) (T := TY) (N := 14) hx hb hts inY hown hK hP 0 rfl rfl 4 (by decide) (hts _ f_Y_20) (fun _ h9 => h9) rfl d_Y_isKept_60 ?_
          refine lv_iload_n hx hb d_Y_isKept_63 rfl (lv_at hl 3 rfl) ?_
          refine va_iald hx hb hK hP 4 0 rfl rfl (vp_in_nI (show i < 40 by omega) (by decide)) d_Y_isKept_64 ?_
          refine rd_top (z := nI (cl i)) (ar_nI cl (by omega)) ?_
          refine lv_iload_n hx hb d_Y_isKept_65 rfl (lv_at hl 1 rfl) ?_
          refine lv_iconst (v := (-1)) hx hb d_Y_isKept_66 (by decide) ?_
          refine lv_ixor hx hb d_Y_isKept_67 ?_
          refine lv_iand hx hb d_Y_isKept_68 ?_
          refine lv_if_eq (tgt := 76) hx hb d_Y_isKept_69 (by decide) (fun c69 => ?_) (fun c69 => ?_)
          · refine lv_iconst (v := 0) hx hb d_Y_isKept_76 (by decide) ?_
            refine rd_top (z := bI false) (rfl) ?_
            refine lv_istore_n (lv' := [(2, .int (bI false)), (0, .ref (h 0)), (1, .int (nI S)), (3, .int (nI i))]) hx hb d_Y_isKept_77 rfl hl (by decide) rfl (fun ls hl => ?_)
            refine lv_iinc (v := (nI (i + 1))) (lv' := [(3, .int (nI (i + 1))), (2, .int (bI false)), (0, .ref (h 0)), (1, .int (nI S))]) hx hb d_Y_isKept_78 hl (k := 3) rfl (nI_1 i) (by decide) rfl (fun ls hl => ?_)
            refine lv_goto (tgt := 47) hx hb d_Y_isKept_81 (by decide) ?_
            exact ih hlt false ls (by show false = (sp_sub bt S && !anyB (fun j => sp_sub (cl j) S) (i + 1)); rw [anyB_of (P := (fun j => sp_sub (cl j) S)) (show i < i + 1 by omega) ((bx_part (by have := hcl i; omega)).mp c69), Bool.not_true, Bool.and_false]) (lv_sub hl [2, 3, 1, 0] rfl)
          · refine lv_iconst (v := 1) hx hb d_Y_isKept_72 (by decide) ?_
            refine rd_top (z := bI true) (rfl) ?_
            refine lv_goto (tgt := 77) hx hb d_Y_isKept_73 (by decide) ?_
            refine lv_istore_n (lv' := [(2, .int (bI true)), (0, .ref (h 0)), (1, .int (nI S)), (3, .int (nI i))]) hx hb d_Y_isKept_77 rfl hl (by decide) rfl (fun ls hl => ?_)
            refine lv_iinc (v := (nI (i + 1))) (lv' := [(3, .int (nI (i + 1))), (2, .int (bI true)), (0, .ref (h 0)), (1, .int (nI S))]) hx hb d_Y_isKept_78 hl (k := 3) rfl (nI_1 i) (by decide) rfl (fun ls hl => ?_)
            refine lv_goto (tgt := 47) hx hb d_Y_isKept_81 (by decide) ?_
            exact ih hlt true ls (by show true = (sp_sub bt S && !anyB (fun j => sp_sub (cl j) S) (i + 1)); rw [anyB_next hI2.2 (by cases hq : sp_sub (cl i) S; rfl; exact absurd ((bx_part (by have := hcl i; omega)).mpr hq) c69), hI2.1]; rfl) (lv_sub hl [2, 3, 1, 0] rfl)
    · have hI1 : anyB (fun j => bt.testBit j && !S.testBit j) i = false := by cases h2 : anyB (fun j => bt.testBit j && !S.testBit j) i; rfl; (rw [h2, show x = true by cases hq : x; exact absurd (bI_0.mpr hq) c13; rfl] at hI; cases hI)
      refine lv_aload_n hx hb d_Y_isKept_16 rfl (lv_at hl 0 rfl) ?_
      refine va_get (D := D) (ci := 1) (v := .ref (h 1)) (C := RY) (T := TY) (N := 14) hx hb hts inY hown hK hP 0 rfl rfl 1 (by decide) (hts _ f_Y_7) (fun _ h9 => h9) rfl d_Y_isKept_17 ?_
      refine lv_iload_n hx hb d_Y_isKept_20 rfl (lv_at hl 3 rfl) ?_
      refine va_zald hx hb hK hP 1 1 rfl rfl (vp_in_nI (show i < 11 by omega) (by decide)) d_Y_isKept_21 ?_
      refine rd_top (z := bI (bt.testBit i)) (ar_bI bt.testBit (by omega)) ?_
      refine lv_if_eq (tgt := 33) hx hb d_Y_isKept_22 (by decide) (fun c22 => ?_) (fun c22 => ?_)
      · refine lv_iconst (v := 1) hx hb d_Y_isKept_33 (by decide) ?_
        refine rd_top (z := bI true) (rfl) ?_
        refine lv_goto (tgt := 38) hx hb d_Y_isKept_34 (by decide) ?_
        refine lv_istore_n (lv' := [(2, .int (bI true)), (0, .ref (h 0)), (1, .int (nI S)), (3, .int (nI i))]) hx hb d_Y_isKept_38 rfl hl (by decide) rfl (fun ls hl => ?_)
        refine lv_iinc (v := (nI (i + 1))) (lv' := [(3, .int (nI (i + 1))), (2, .int (bI true)), (0, .ref (h 0)), (1, .int (nI S))]) hx hb d_Y_isKept_39 hl (k := 3) rfl (nI_1 i) (by decide) rfl (fun ls hl => ?_)
        refine lv_goto (tgt := 4) hx hb d_Y_isKept_42 (by decide) ?_
        exact ih hlt true ls (by show true = !anyB (fun j => bt.testBit j && !S.testBit j) (i + 1); rw [anyB_next hI1 (by show (bt.testBit i && _) = false; rw [bI_0.mp c22]; rfl)]; rfl) (lv_sub hl [2, 3, 1, 0] rfl)
      · refine lv_iload_n hx hb d_Y_isKept_25 rfl (lv_at hl 1 rfl) ?_
        refine lv_iload_n hx hb d_Y_isKept_26 rfl (lv_at hl 3 rfl) ?_
        refine rd_S (As := [.int (nI S), .int (nI i)]) (rest := []) ⟨hx, hb, hml, hown, hts⟩ (c_Y_has l S i hS2 (by omega)) (cwS 2 hts g_Y_60 rfl rfl rfl (by decide +kernel) ⟨Nat.le_of_ble_eq_true rfl, Nat.le_of_ble_eq_true rfl⟩) rfl hl.1 rfl (Nat.le_of_ble_eq_true rfl) d_Y_isKept_27 ⟨Nat.zero_le _, Nat.zero_le _⟩ ?_
        refine lv_if_eq (tgt := 37) hx hb d_Y_isKept_30 (by decide) (fun c30 => ?_) (fun c30 => ?_)
        · refine lv_iconst (v := 0) hx hb d_Y_isKept_37 (by decide) ?_
          refine rd_top (z := bI false) (rfl) ?_
          refine lv_istore_n (lv' := [(2, .int (bI false)), (0, .ref (h 0)), (1, .int (nI S)), (3, .int (nI i))]) hx hb d_Y_isKept_38 rfl hl (by decide) rfl (fun ls hl => ?_)
          refine lv_iinc (v := (nI (i + 1))) (lv' := [(3, .int (nI (i + 1))), (2, .int (bI false)), (0, .ref (h 0)), (1, .int (nI S))]) hx hb d_Y_isKept_39 hl (k := 3) rfl (nI_1 i) (by decide) rfl (fun ls hl => ?_)
          refine lv_goto (tgt := 4) hx hb d_Y_isKept_42 (by decide) ?_
          exact ih hlt false ls (by show false = !anyB (fun j => bt.testBit j && !S.testBit j) (i + 1); rw [anyB_of (P := (fun j => bt.testBit j && !S.testBit j)) (show i < i + 1 by omega) (by show (bt.testBit i && !S.testBit i) = true; rw [show bt.testBit i = true by cases hq : bt.testBit i; exact absurd (bI_0.mpr hq) c22; rfl, bI_0.mp c30]; rfl)]; rfl) (lv_sub hl [2, 3, 1, 0] rfl)
        · refine lv_iconst (v := 1) hx hb d_Y_isKept_33 (by decide) ?_
          refine rd_top (z := bI true) (rfl) ?_
          refine lv_goto (tgt := 38) hx hb d_Y_isKept_34 (by decide) ?_
          refine lv_istore_n (lv' := [(2, .int (bI true)), (0, .ref (h 0)), (1, .int (nI S)), (3, .int (nI i))]) hx hb d_Y_isKept_38 rfl hl (by decide) rfl (fun ls hl => ?_)
          refine lv_iinc (v := (nI (i + 1))) (lv' := [(3, .int (nI (i + 1))), (2, .int (bI true)), (0, .ref (h 0)), (1, .int (nI S))]) hx hb d_Y_isKept_39 hl (k := 3) rfl (nI_1 i) (by decide) rfl (fun ls hl => ?_)
          refine lv_goto (tgt := 4) hx hb d_Y_isKept_42 (by decide) ?_
          exact ih hlt true ls (by show true = !anyB (fun j => bt.testBit j && !S.testBit j) (i + 1); rw [anyB_next hI1 (by show (_ && !S.testBit i) = false; rw [show S.testBit i = true by cases hq : S.testBit i; exact absurd (bI_0.mpr hq) c30; rfl, Bool.not_true, Bool.and_false])]; rfl) (lv_sub hl [2, 3, 1, 0] rfl)
end MY2

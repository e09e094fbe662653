section MX5
variable {D : va_G} {h : Nat → Nat} {cI cZ : ClassId} {n bt : Nat} {rk wt cl : Nat → Nat} {cc : Nat} {su sa : Nat → Nat} {sc od : Nat} {fr : Bool} {cg : Nat → Bool} {co rp : Nat → Nat} {rc : Nat}
set_option maxHeartbeats 4000000 in
set_option maxRecDepth 100000 in
theorem c_X_markClashing (l : Launch) (sz : Nat) (hn : n ≤ 11) (hcc : cc ≤ 40) (hcl : ∀ j, cl j < 2048) : Met l y_X_markClashing w_X_markClashing (k2_rm 1 23) (wr_Pc D clX (wX h cI cZ n bt rk wt cl cc su sa sc od fr cg co rp rc) [(cI, .int), (cZ, .boolean)] sz [.ref (h 0)]) (wE_Q D clX (wX h cI cZ n bt rk wt cl cc su sa sc od fr cg co rp rc) (σ := Nat → Bool) (fun u => wX h cI cZ n bt rk wt cl cc su sa sc od fr u co rp rc) (fun _ => none) (fun u => ∀ S, S < 2 ^ n → u S = clS cl cc S) sz) 0 0 (va_A (wX h cI cZ n bt rk wt cl cc su sa sc od fr cg co rp rc) sz) := by
  refine wE_met (by decide) rfl (Nat.le_of_ble_eq_true rfl) rfl ?_
  intro p e s m below meth c ls hx hb hr hml hown hts hlocks hP hK hD hS hA hl
  have hts : ∀ w ∈ tbl, w.before _ s = true := fun w h => hts w (List.mem_cons_of_mem _ h)
  have hown : s.vm.findClass RX = some m.cls := hown
  have hl : lv_has ls 3 [(0, .ref (h 0))] := hl
  refine lv_aload_n hx hb d_X_markClashing_0 rfl (lv_at hl 0 rfl) ?_
  refine rd_V (As := []) (rest := []) ⟨hx, hb, hml, hown, hts⟩ (c_X_setCount l hn) (cwV 0 hts g_X_105 rfl rfl rfl (by decide +kernel) ⟨Nat.le_of_ble_eq_true rfl, Nat.le_of_ble_eq_true rfl⟩) hK hP 0 rfl rfl rfl hl.1 rfl (Nat.le_of_ble_eq_true rfl) d_X_markClashing_1 ⟨Nat.zero_le _, Nat.zero_le _⟩ ?_
  refine lv_istore_n (lv' := [(1, .int (nI (2 ^ n))), (0, .ref (h 0))]) hx hb d_X_markClashing_4 rfl hl (by decide) rfl (fun ls hl => ?_)
  have hb3 : 2 ^ n ≤ 2048 := bx_p2 hn
  refine lv_iconst (v := 0) hx hb d_X_markClashing_5 (by decide) ?_
  refine lv_istore_n (lv' := [(2, .int 0), (1, .int (nI (2 ^ n))), (0, .ref (h 0))]) hx hb d_X_markClashing_6 rfl hl (by decide) rfl (fun ls hl => ?_)
  refine wr_loop (nL := 3) (σ := Nat → Bool) (2 ^ n) (fun i x => [(0, .ref (h 0)), (1, .int (nI (2 ^ n))), (2, .int (nI i))]) (fun i x => wX h cI cZ n bt rk wt cl cc su sa sc od fr x co rp rc) (fun i x => ∀ S, S < i → x S = false) ?_ 0 cg ls _ _ (Nat.zero_le _) (fun S hS => absurd hS (Nat.not_lt_zero S)) (lv_sub hl [2, 1, 0] rfl) hP hD hS
  intro i x ls H locs hi hI hl hP hD hS ih
  have hI : ∀ S, S < i → x S = false := hI
  have hl : lv_has ls 3 [(0, .ref (h 0)), (1, .int (nI (2 ^ n))), (2, .int (nI i))] := hl
  have hP : va_P D clX (wX h cI cZ n bt rk wt cl cc su sa sc od fr x co rp rc) H := hP
  have hD : va_D _ (wX h cI cZ n bt rk wt cl cc su sa sc od fr x co rp rc) := hD
  refine lv_iload_n hx hb d_X_markClashing_7 rfl (lv_at hl 2 rfl) ?_
  refine lv_iload_n hx hb d_X_markClashing_8 rfl (lv_at hl 1 rfl) ?_
  refine lv_icmp_ge (tgt := 25) hx hb d_X_markClashing_9 (by decide) (fun c9 => ?_) (fun c9 => ?_)
  · have hN : i = 2 ^ n := lp_ge hi (by omega) c9
    refine lv_iconst (v := 0) hx hb d_X_markClashing_25 (by decide) ?_
    refine lv_istore_n (lv' := [(2, .int 0), (0, .ref (h 0)), (1, .int (nI (2 ^ n)))]) hx hb d_X_markClashing_26 rfl hl (by decide) rfl (fun ls hl => ?_)
    refine wr_loop (nL := 3) (σ := Nat → Bool) (cc) (fun i x => [(0, .ref (h 0)), (1, .int (nI (2 ^ n))), (2, .int (nI i))]) (fun i x => wX h cI cZ n bt rk wt cl cc su sa sc od fr x co rp rc) (fun i x => ∀ S, S < 2 ^ n → x S = anyB (fun j => decide (cl j = S))  i) ?_ 0 x ls _ _ (Nat.zero_le _) (fun S hS => hI S (by rw [hN]; exact hS)) (lv_sub hl [1, 2, 0] rfl) hP hD hS
    intro i x ls H locs hi hI hl hP hD hS ih
    have hI : ∀ S, S < 2 ^ n → x S = anyB (fun j => decide (cl j = S))  i := hI
    have hl : lv_has ls 3 [(0, .ref (h 0)), (1, .int (nI (2 ^ n))), (2, .int (nI i))] := hl
    have hP : va_P D clX (wX h cI cZ n bt rk wt cl cc su sa sc od fr x co rp rc) H := hP
    have hD : va_D _ (wX h cI cZ n bt rk wt cl cc su sa sc od fr x co rp rc) := hD
    refine lv_iload_n hx hb d_X_markClashing_27 rfl (lv_at hl 2 rfl) ?_
    refine lv_aload_n hx hb d_X_markClashing_28 rfl (lv_at hl 0 rfl) ?_
    refine va_get (D := D) (ci := 0) (v := .int (nI cc)) (C := RX) (T := TX) (N := 15) hx hb hts inX hown hK hP 0 rfl rfl 5 (by decide) (hts _ f_X_26) (fun _ h9 => h9) rfl d_X_markClashing_29 ?_
    refine lv_icmp_ge (tgt := 63) hx hb d_X_markClashing_32 (by decide) (fun c32 => ?_) (fun c32 => ?_)
    · have hN : i = cc := lp_ge hi (by omega) c32
      refine lv_iconst (v := 0) hx hb d_X_markClashing_63 (by decide) ?_
      refine lv_istore_n (lv' := [(2, .int 0), (0, .ref (h 0)), (1, .int (nI (2 ^ n)))]) hx hb d_X_markClashing_64 rfl hl (by decide) rfl (fun ls hl => ?_)
      refine wr_loop (nL := 3) (σ := Nat → Bool) (2 ^ n) (fun i x => [(0, .ref (h 0)), (1, .int (nI (2 ^ n))), (2, .int (nI i))]) (fun i x => wX h cI cZ n bt rk wt cl cc su sa sc od fr x co rp rc) (fun i x => ∀ S, S < 2 ^ n → x S = if S < i then clS cl cc S else anyB (fun j => decide (cl j = S))  cc) ?_ 0 x ls _ _ (Nat.zero_le _) (fun S hS => by rw [hI S hS, hN]; rfl) (lv_sub hl [1, 2, 0] rfl) hP hD hS
      intro i x ls H locs hi hI hl hP hD hS ih
      have hI : ∀ S, S < 2 ^ n → x S = if S < i then clS cl cc S else anyB (fun j => decide (cl j = S))  cc := hI
      have hl : lv_has ls 3 [(0, .ref (h 0)), (1, .int (nI (2 ^ n))), (2, .int (nI i))] := hl
      have hP : va_P D clX (wX h cI cZ n bt rk wt cl cc su sa sc od fr x co rp rc) H := hP
      have hD : va_D _ (wX h cI cZ n bt rk wt cl cc su sa sc od fr x co rp rc) := hD
      refine lv_iload_n hx hb d_X_markClashing_65 rfl (lv_at hl 2 rfl) ?_
      refine lv_iload_n hx hb d_X_markClashing_66 rfl (lv_at hl 1 rfl) ?_
      refine lv_icmp_ge (tgt := 96) hx hb d_X_markClashing_67 (by decide) (fun c67 => ?_) (fun c67 => ?_)
      · have hN : i = 2 ^ n := lp_ge hi (by omega) c67
        exact wE_vret x hx hb hr hlocks d_X_markClashing_96 hS hP (fun S hS2 => by rw [hI S hS2, if_pos (by rw [hN]; exact hS2)]) rfl
      · have hlt : i < 2 ^ n := lp_lt hi (by omega) c67
        refine lv_aload_n hx hb d_X_markClashing_70 rfl (lv_at hl 0 rfl) ?_
        refine va_get (D := D) (ci := 0) (v := .ref (h 6)) (C := RX) (T := TX) (N := 15) hx hb hts inX hown hK hP 0 rfl rfl 11 (by decide) (hts _ f_X_45) (fun _ h9 => h9) rfl d_X_markClashing_71 ?_
        refine lv_iload_n hx hb d_X_markClashing_74 rfl (lv_at hl 2 rfl) ?_
        refine va_zald hx hb hK hP 6 1 rfl rfl (vp_in_nI (show i < 2048 by omega) (by decide)) d_X_markClashing_75 ?_
        refine rd_top (z := bI (x i)) (ar_bI x (by omega)) ?_
        refine lv_if_ne (tgt := 90) hx hb d_X_markClashing_76 (by decide) (fun c76 => ?_) (fun c76 => ?_)
        · refine lv_iinc (v := (nI (i + 1))) (lv' := [(2, .int (nI (i + 1))), (0, .ref (h 0)), (1, .int (nI (2 ^ n)))]) hx hb d_X_markClashing_90 hl (k := 2) rfl (nI_1 i) (by decide) rfl (fun ls hl => ?_)
          refine lv_goto (tgt := 65) hx hb d_X_markClashing_93 (by decide) ?_
          exact ih hlt x ls _ _ (fun S hS => mk_1 hlt hI (show x i = true by cases hq : x i; exact absurd (bI_0.mpr hq) c76; rfl) S hS) (lv_sub hl [1, 2, 0] rfl) hP hD hS
        · refine lv_aload_n hx hb d_X_markClashing_79 rfl (lv_at hl 0 rfl) ?_
          refine va_get (D := D) (ci := 0) (v := .ref (h 6)) (C := RX) (T := TX) (N := 15) hx hb hts inX hown hK hP 0 rfl rfl 11 (by decide) (hts _ f_X_45) (fun _ h9 => h9) rfl d_X_markClashing_80 ?_
          refine lv_iload_n hx hb d_X_markClashing_83 rfl (lv_at hl 2 rfl) ?_
          refine lv_aload_n hx hb d_X_markClashing_84 rfl (lv_at hl 0 rfl) ?_
          refine lv_iload_n hx hb d_X_markClashing_85 rfl (lv_at hl 2 rfl) ?_
          refine rd_V (As := [.int (nI i)]) (rest := [.int (nI i), .ref (h 6)]) ⟨hx, hb, hml, hown, hts⟩ (c_X_hasClashingPart l i hn (by omega)) (cwV 1 hts g_X_137 rfl rfl rfl (by decide +kernel) ⟨Nat.le_of_ble_eq_true rfl, Nat.le_of_ble_eq_true rfl⟩) hK hP 0 rfl rfl rfl hl.1 rfl (Nat.le_of_ble_eq_true rfl) d_X_markClashing_86 ⟨Nat.zero_le _, Nat.zero_le _⟩ ?_
          refine va_zast hx hb hK hP hD hS 6 1 rfl rfl (vp_in_nI (show i < 2048 by omega) (by decide)) d_X_markClashing_89 (fun H locs hP hD hS => ?_)
          have hu : upd (fun j => bI (x j)) (nI i).toNatClampNeg (vp_nar .boolean (bI (anyB (fun s => i.testBit s && x (i ^^^ 2 ^ s)) n))) = fun j => bI ((va_up x i (anyB (fun s => i.testBit s && x (i ^^^ 2 ^ s)) n)) j) := by rw [nI_clamp (by omega)]; exact upd_bI x i _
          rw [hu] at hP hD
          have hP : va_P D clX (wX h cI cZ n bt rk wt cl cc su sa sc od fr (va_up x i (anyB (fun s => i.testBit s && x (i ^^^ 2 ^ s)) n)) co rp rc) H := hP
          have hD : va_D _ (wX h cI cZ n bt rk wt cl cc su sa sc od fr (va_up x i (anyB (fun s => i.testBit s && x (i ^^^ 2 ^ s)) n)) co rp rc) := hD
          refine lv_iinc (v := (nI (i + 1))) (lv' := [(2, .int (nI (i + 1))), (0, .ref (h 0)), (1, .int (nI (2 ^ n)))]) hx hb d_X_markClashing_90 hl (k := 2) rfl (nI_1 i) (by decide) rfl (fun ls hl => ?_)
          refine lv_goto (tgt := 65) hx hb d_X_markClashing_93 (by decide) ?_
          exact ih hlt (va_up x i (anyB (fun s => i.testBit s && x (i ^^^ 2 ^ s)) n)) ls _ _ (fun S hS => mk_2 hlt hI (bI_0.mp c76) S hS) (lv_sub hl [1, 2, 0] rfl) hP hD hS
    · have hlt : i < cc := lp_lt hi (by omega) c32
      refine lv_aload_n hx hb d_X_markClashing_35 rfl (lv_at hl 0 rfl) ?_
      refine va_get (D := D) (ci := 0) (v := .ref (h 3)) (C := RX) (T := TX) (N := 15) hx hb hts inX hown hK hP 0 rfl rfl 4 (by decide) (hts _ f_X_23) (fun _ h9 => h9) rfl d_X_markClashing_36 ?_
      refine lv_iload_n hx hb d_X_markClashing_39 rfl (lv_at hl 2 rfl) ?_
      refine va_iald hx hb hK hP 3 0 rfl rfl (vp_in_nI (show i < 40 by omega) (by decide)) d_X_markClashing_40 ?_
      refine rd_top (z := nI (cl i)) (ar_nI cl (by omega)) ?_
      refine lv_iload_n hx hb d_X_markClashing_41 rfl (lv_at hl 1 rfl) ?_
      refine lv_icmp_ge (tgt := 57) hx hb d_X_markClashing_42 (by decide) (fun c42 => ?_) (fun c42 => ?_)
      · have hc : ¬ cl i < 2 ^ n := fun q => (nI_ge q (by omega)) c42
        refine lv_iinc (v := (nI (i + 1))) (lv' := [(2, .int (nI (i + 1))), (0, .ref (h 0)), (1, .int (nI (2 ^ n)))]) hx hb d_X_markClashing_57 hl (k := 2) rfl (nI_1 i) (by decide) rfl (fun ls hl => ?_)
        refine lv_goto (tgt := 27) hx hb d_X_markClashing_60 (by decide) ?_
        exact ih hlt x ls _ _ (fun S hS => by rw [hI S hS, anyB, decide_eq_false (fun q => hc (by rw [q]; exact hS)), Bool.or_false]) (lv_sub hl [1, 2, 0] rfl) hP hD hS
      · have hc : cl i < 2 ^ n := (nI_ltI (by have := hcl i; omega) (by omega)).mp (Int32.not_le.mp c42)
        refine lv_aload_n hx hb d_X_markClashing_45 rfl (lv_at hl 0 rfl) ?_
        refine va_get (D := D) (ci := 0) (v := .ref (h 6)) (C := RX) (T := TX) (N := 15) hx hb hts inX hown hK hP 0 rfl rfl 11 (by decide) (hts _ f_X_45) (fun _ h9 => h9) rfl d_X_markClashing_46 ?_
        refine lv_aload_n hx hb d_X_markClashing_49 rfl (lv_at hl 0 rfl) ?_
        refine va_get (D := D) (ci := 0) (v := .ref (h 3)) (C := RX) (T := TX) (N := 15) hx hb hts inX hown hK hP 0 rfl rfl 4 (by decide) (hts _ f_X_23) (fun _ h9 => h9) rfl d_X_markClashing_50 ?_
        refine lv_iload_n hx hb d_X_markClashing_53 rfl (lv_at hl 2 rfl) ?_
        refine va_iald hx hb hK hP 3 0 rfl rfl (vp_in_nI (show i < 40 by omega) (by decide)) d_X_markClashing_54 ?_
        refine rd_top (z := nI (cl i)) (ar_nI cl (by omega)) ?_
        refine lv_iconst (v := 1) hx hb d_X_markClashing_55 (by decide) ?_
        refine va_zast hx hb hK hP hD hS 6 1 rfl rfl (vp_in_nI (hcl i) (by decide)) d_X_markClashing_56 (fun H locs hP hD hS => ?_)
        have hu : upd (fun j => bI (x j)) (nI (cl i)).toNatClampNeg (vp_nar .boolean 1) = fun j => bI ((va_up x (cl i) true) j) := by rw [nI_clamp (by have := hcl i; omega)]; exact upd_bI x (cl i) true
        rw [hu] at hP hD
        have hP : va_P D clX (wX h cI cZ n bt rk wt cl cc su sa sc od fr (va_up x (cl i) true) co rp rc) H := hP
        have hD : va_D _ (wX h cI cZ n bt rk wt cl cc su sa sc od fr (va_up x (cl i) true) co rp rc) := hD
        refine lv_iinc (v := (nI (i + 1))) (lv' := [(2, .int (nI (i + 1))), (0, .ref (h 0)), (1, .int (nI (2 ^ n)))]) hx hb d_X_markClashing_57 hl (k := 2) rfl (nI_1 i) (by decide) rfl (fun ls hl => ?_)
        refine lv_goto (tgt := 27) hx hb d_X_markClashing_60 (by decide) ?_
        exact ih hlt (va_up x (cl i) true) ls _ _ (fun S hS => by unfold va_up; split; (rename_i q; rw [anyB, decide_eq_true q.symm, Bool.or_true]); (rename_i q; rw [hI S hS, anyB, decide_eq_false (fun z => q z.symm), Bool.or_false])) (lv_sub hl [1, 2, 0] rfl) hP hD hS
  · have hlt : i < 2 ^ n := lp_lt hi (by omega) c9
    refine lv_aload_n hx hb d_X_markClashing_12 rfl (lv_at hl 0 rfl) ?_
    refine va_get (D := D) (ci := 0) (v := .ref (h 6)) (C := RX) (T := TX) (N := 15) hx hb hts inX hown hK hP 0 rfl rfl 11 (by decide) (hts _ f_X_45) (fun _ h9 => h9) rfl d_X_markClashing_13 ?_
    refine lv_iload_n hx hb d_X_markClashing_16 rfl (lv_at hl 2 rfl) ?_
    refine lv_iconst (v := 0) hx hb d_X_markClashing_17 (by decide) ?_
    refine va_zast hx hb hK hP hD hS 6 1 rfl rfl (vp_in_nI (show i < 2048 by omega) (by decide)) d_X_markClashing_18 (fun H locs hP hD hS => ?_)
    have hu : upd (fun j => bI (x j)) (nI i).toNatClampNeg (vp_nar .boolean 0) = fun j => bI ((va_up x i false) j) := by rw [nI_clamp (by omega)]; exact upd_bI x i false
    rw [hu] at hP hD
    have hP : va_P D clX (wX h cI cZ n bt rk wt cl cc su sa sc od fr (va_up x i false) co rp rc) H := hP
    have hD : va_D _ (wX h cI cZ n bt rk wt cl cc su sa sc od fr (va_up x i false) co rp rc) := hD
    refine lv_iinc (v := (nI (i + 1))) (lv' := [(2, .int (nI (i + 1))), (0, .ref (h 0)), (1, .int (nI (2 ^ n)))]) hx hb d_X_markClashing_19 hl (k := 2) rfl (nI_1 i) (by decide) rfl (fun ls hl => ?_)
    refine lv_goto (tgt := 7) hx hb d_X_markClashing_22 (by decide) ?_
    exact ih hlt (va_up x i false) ls _ _ (fun S hS => by unfold va_up; split; rfl; exact hI S (by omega)) (lv_sub hl [1, 2, 0] rfl) hP hD hS
set_option maxHeartbeats 4000000 in
set_option maxRecDepth 100000 in
theorem c_X_addRepair (l : Launch) (sz : Nat) (S : Nat) (hrc : rc < 462) : Met l y_X_addRepair w_X_addRepair (k2_rm 0 0) (wr_Pc D clX (wX h cI cZ n bt rk wt cl cc su sa sc od fr cg co rp rc) [(cI, .int), (cZ, .boolean)] sz [.ref (h 0), .int (nI S)]) (wr_Q D clX (wX h cI cZ n bt rk wt cl cc su sa sc od fr cg co rp rc) (wX h cI cZ n bt rk wt cl cc su sa sc od fr cg co (va_up rp rc S) (rc + 1)) sz (none)) 0 0 (va_A (wX h cI cZ n bt rk wt cl cc su sa sc od fr cg co rp rc) sz) := by
  refine wr_met (by decide) rfl (Nat.le_of_ble_eq_true rfl) rfl ?_
  intro p e s m below meth c ls hx hb hr hml hown hts hlocks hP hK hD hS hA hl
  have hts : ∀ w ∈ tbl, w.before _ s = true := fun w h => hts w (List.mem_cons_of_mem _ h)
  have hown : s.vm.findClass RX = some m.cls := hown
  have hl : lv_has ls 2 [(0, .ref (h 0)), (1, .int (nI S))] := hl
  refine lv_aload_n hx hb d_X_addRepair_0 rfl (lv_at hl 0 rfl) ?_
  refine va_get (D := D) (ci := 0) (v := .int (nI rc)) (C := RX) (T := TX) (N := 15) hx hb hts inX hown hK hP 0 rfl rfl 14 (by decide) (hts _ f_X_55) (fun _ h9 => h9) rfl d_X_addRepair_1 ?_
  refine lv_sipush (v := 462) hx hb d_X_addRepair_4 (by decide) ?_
  refine lv_icmp_ge (tgt := 30) hx hb d_X_addRepair_7 (by decide) (fun c7 => ?_) (fun c7 => ?_)
  · exact absurd c7 (nI_ge (b := 462) hrc (by decide))
  · refine lv_aload_n hx hb d_X_addRepair_10 rfl (lv_at hl 0 rfl) ?_
    refine va_get (D := D) (ci := 0) (v := .ref (h 8)) (C := RX) (T := TX) (N := 15) hx hb hts inX hown hK hP 0 rfl rfl 13 (by decide) (hts _ f_X_52) (fun _ h9 => h9) rfl d_X_addRepair_11 ?_
    refine lv_aload_n hx hb d_X_addRepair_14 rfl (lv_at hl 0 rfl) ?_
    refine va_get (D := D) (ci := 0) (v := .int (nI rc)) (C := RX) (T := TX) (N := 15) hx hb hts inX hown hK hP 0 rfl rfl 14 (by decide) (hts _ f_X_55) (fun _ h9 => h9) rfl d_X_addRepair_15 ?_
    refine lv_iload_n hx hb d_X_addRepair_18 rfl (lv_at hl 1 rfl) ?_
    refine va_iast hx hb hK hP hD hS 8 0 rfl rfl (vp_in_nI hrc (by decide)) d_X_addRepair_19 (fun H locs hP hD hS => ?_)
    have hu : upd (fun j => nI (rp j)) (nI rc).toNatClampNeg (nI S) = fun j => nI ((va_up rp rc S) j) := by rw [nI_clamp (by omega)]; exact upd_nI rp rc S
    rw [hu] at hP hD
    have hP : va_P D clX (wX h cI cZ n bt rk wt cl cc su sa sc od fr cg co (va_up rp rc S) rc) H := hP
    have hD : va_D _ (wX h cI cZ n bt rk wt cl cc su sa sc od fr cg co (va_up rp rc S) rc) := hD
    refine lv_aload_n hx hb d_X_addRepair_20 rfl (lv_at hl 0 rfl) ?_
    refine lv_dup hx hb d_X_addRepair_21 rfl ?_
    refine va_get (D := D) (ci := 0) (v := .int (nI rc)) (C := RX) (T := TX) (N := 15) hx hb hts inX hown hK hP 0 rfl rfl 14 (by decide) (hts _ f_X_55) (fun _ h9 => h9) rfl d_X_addRepair_22 ?_
    refine lv_iconst (v := 1) hx hb d_X_addRepair_25 (by decide) ?_
    refine lv_iadd hx hb d_X_addRepair_26 ?_
    refine rd_top (z := nI (rc + 1)) (nI_1 rc) ?_
    refine va_put (D := D) (ci := 0) (v := .int (nI (rc + 1))) (ty := .int) (C := RX) (T := TX) (N := 15) hx hb hts inX tyX tyX_ok nmX hown hK hP hD hS 0 rfl rfl 14 (by decide) (hts _ f_X_55) (fun _ h9 => h9) rfl (by decide +kernel) rfl rfl (Nat.le_of_ble_eq_true rfl) d_X_addRepair_27 (fun H locs hP hD hS => ?_)
    have hP : va_P D clX (wX h cI cZ n bt rk wt cl cc su sa sc od fr cg co (va_up rp rc S) (rc + 1)) H := hP
    have hD : va_D _ (wX h cI cZ n bt rk wt cl cc su sa sc od fr cg co (va_up rp rc S) (rc + 1)) := hD
    exact wr_vret hx hb hr hlocks d_X_addRepair_30 hS (hP)
end MX5

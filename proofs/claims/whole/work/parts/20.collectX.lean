section MX6
variable {D : va_G} {h : Nat → Nat} {cI cZ : ClassId} {n bt : Nat} {rk wt cl : Nat → Nat} {cc : Nat} {su sa : Nat → Nat} {sc od : Nat} {fr : Bool} {cg : Nat → Bool} {co rp : Nat → Nat} {rc : Nat}
set_option maxHeartbeats 4000000 in
set_option maxRecDepth 100000 in
theorem c_X_collectFullGrown (l : Launch) (sz : Nat) (hn : n ≤ 11) (hbt : bt < 2 ^ 31) (hrk : ∀ j, rk j < 8) (ho : od < 4) (hrc0 : rc = 0) (hB : ∀ k, k ≤ 2 ^ n → (flt (groX n bt rk od cg) k).length ≤ 462) : Met l y_X_collectFullGrown w_X_collectFullGrown (k2_rm 3 66) (wr_Pc D clX (wX h cI cZ n bt rk wt cl cc su sa sc od fr cg co rp rc) [(cI, .int), (cZ, .boolean)] sz [.ref (h 0)]) (wE_Q D clX (wX h cI cZ n bt rk wt cl cc su sa sc od fr cg co rp rc) (σ := (Nat → Nat) × (Nat → Nat)) (fun u => wX h cI cZ n bt rk wt cl cc su sa sc od fr cg u.1 u.2 ((flt (groX n bt rk od cg) (2 ^ n)).length)) (fun _ => none) (fun u => isArr u.2 (flt (groX n bt rk od cg) (2 ^ n))) sz) 0 0 (va_A (wX h cI cZ n bt rk wt cl cc su sa sc od fr cg co rp rc) sz) := by
  refine wE_met (by decide) rfl (Nat.le_of_ble_eq_true rfl) rfl ?_
  intro p e s m below meth c ls hx hb hr hml hown hts hlocks hP hK hD hS hA hl
  have hts : ∀ w ∈ tbl, w.before _ s = true := fun w h => hts w (List.mem_cons_of_mem _ h)
  have hown : s.vm.findClass RX = some m.cls := hown
  have hl : lv_has ls 3 [(0, .ref (h 0))] := hl
  have hb3 : 2 ^ n ≤ 2048 := bx_p2 hn
  subst hrc0
  refine lv_iconst (v := 0) hx hb d_X_collectFullGrown_0 (by decide) ?_
  refine lv_istore_n (lv' := [(1, .int 0), (0, .ref (h 0))]) hx hb d_X_collectFullGrown_1 rfl hl (by decide) rfl (fun ls hl => ?_)
  refine wr_loop (nL := 3) (σ := Nat → Nat) (n) (fun i x1 => [(0, .ref (h 0)), (1, .int (nI i))]) (fun i x1 => wX h cI cZ n bt rk wt cl cc su sa sc od fr cg x1 rp 0) (fun i x1 => ∀ j, j < i → x1 j = comX n bt rk od j) ?_ 0 co ls _ _ (Nat.zero_le _) (fun j hj => absurd hj (Nat.not_lt_zero j)) (lv_sub hl [1, 0] rfl) hP hD hS
  intro i x1 ls H locs hi hI hl hP hD hS ih
  have hI : ∀ j, j < i → x1 j = comX n bt rk od j := hI
  have hl : lv_has ls 3 [(0, .ref (h 0)), (1, .int (nI i))] := hl
  have hP : va_P D clX (wX h cI cZ n bt rk wt cl cc su sa sc od fr cg x1 rp 0) H := hP
  have hD : va_D _ (wX h cI cZ n bt rk wt cl cc su sa sc od fr cg x1 rp 0) := hD
  refine lv_iload_n hx hb d_X_collectFullGrown_2 rfl (lv_at hl 1 rfl) ?_
  refine lv_aload_n hx hb d_X_collectFullGrown_3 rfl (lv_at hl 0 rfl) ?_
  refine va_get (D := D) (ci := 0) (v := .int (nI n)) (C := RX) (T := TX) (N := 15) hx hb hts inX hown hK hP 0 rfl rfl 0 (by decide) (hts _ f_X_9) (fun _ h9 => h9) rfl d_X_collectFullGrown_4 ?_
  refine lv_icmp_ge (tgt := 27) hx hb d_X_collectFullGrown_7 (by decide) (fun c7 => ?_) (fun c7 => ?_)
  · have hN : i = n := lp_ge hi (by omega) c7
    have hco : ∀ j, j < n → x1 j = comX n bt rk od j := fun j hj => hI j (by rw [hN]; exact hj)
    have hgr : ∀ S, anyB (fun s => !S.testBit s && !cg ((S &&& x1 s) ||| 2 ^ s)) n = anyB (fun s => !S.testBit s && !cg ((S &&& comX n bt rk od s) ||| 2 ^ s)) n := fun S => anyB_congr (fun s hs => by rw [hco s hs])
    refine lv_aload_n hx hb d_X_collectFullGrown_27 rfl (lv_at hl 0 rfl) ?_
    refine rd_V (As := []) (rest := []) ⟨hx, hb, hml, hown, hts⟩ (c_X_setCount l hn) (cwV 0 hts g_X_105 rfl rfl rfl (by decide +kernel) ⟨Nat.le_of_ble_eq_true rfl, Nat.le_of_ble_eq_true rfl⟩) hK hP 0 rfl rfl rfl hl.1 rfl (Nat.le_of_ble_eq_true rfl) d_X_collectFullGrown_28 ⟨Nat.zero_le _, Nat.zero_le _⟩ ?_
    refine lv_istore_n (lv' := [(1, .int (nI (2 ^ n))), (0, .ref (h 0))]) hx hb d_X_collectFullGrown_31 rfl hl (by decide) rfl (fun ls hl => ?_)
    refine lv_iconst (v := 0) hx hb d_X_collectFullGrown_32 (by decide) ?_
    refine lv_istore_n (lv' := [(2, .int 0), (1, .int (nI (2 ^ n))), (0, .ref (h 0))]) hx hb d_X_collectFullGrown_33 rfl hl (by decide) rfl (fun ls hl => ?_)
    refine wr_loop (nL := 3) (σ := Nat → Nat) (2 ^ n) (fun i x => [(0, .ref (h 0)), (1, .int (nI (2 ^ n))), (2, .int (nI i))]) (fun i x => wX h cI cZ n bt rk wt cl cc su sa sc od fr cg x1 x ((flt (groX n bt rk od cg) i).length)) (fun i x => isArr x (flt (groX n bt rk od cg) i)) ?_ 0 rp ls _ _ (Nat.zero_le _) (isArr_nil rp) (lv_sub hl [2, 1, 0] rfl) hP hD hS
    intro i x ls H locs hi hI hl hP hD hS ih
    have hI : isArr x (flt (groX n bt rk od cg) i) := hI
    have hl : lv_has ls 3 [(0, .ref (h 0)), (1, .int (nI (2 ^ n))), (2, .int (nI i))] := hl
    have hP : va_P D clX (wX h cI cZ n bt rk wt cl cc su sa sc od fr cg x1 x ((flt (groX n bt rk od cg) i).length)) H := hP
    have hD : va_D _ (wX h cI cZ n bt rk wt cl cc su sa sc od fr cg x1 x ((flt (groX n bt rk od cg) i).length)) := hD
    refine lv_iload_n hx hb d_X_collectFullGrown_34 rfl (lv_at hl 2 rfl) ?_
    refine lv_iload_n hx hb d_X_collectFullGrown_35 rfl (lv_at hl 1 rfl) ?_
    refine lv_icmp_ge (tgt := 66) hx hb d_X_collectFullGrown_36 (by decide) (fun c36 => ?_) (fun c36 => ?_)
    · have hN : i = 2 ^ n := lp_ge hi (by omega) c36
      exact wE_vret (x1, x) hx hb hr hlocks d_X_collectFullGrown_66 hS (by show va_P D clX (wX h cI cZ n bt rk wt cl cc su sa sc od fr cg x1 x ((flt (groX n bt rk od cg) (2 ^ n)).length)) H; rw [show (flt (groX n bt rk od cg) (2 ^ n)).length = (flt (groX n bt rk od cg) i).length by rw [hN]]; exact hP) (by show isArr x (flt (groX n bt rk od cg) (2 ^ n)); rw [← hN]; exact hI) rfl
    · have hlt : i < 2 ^ n := lp_lt hi (by omega) c36
      refine lv_aload_n hx hb d_X_collectFullGrown_39 rfl (lv_at hl 0 rfl) ?_
      refine lv_iload_n hx hb d_X_collectFullGrown_40 rfl (lv_at hl 2 rfl) ?_
      refine rd_V (As := [.int (nI i)]) (rest := []) ⟨hx, hb, hml, hown, hts⟩ (c_X_isKept l i (by omega) hbt) (cwV 1 hts g_X_143 rfl rfl rfl (by decide +kernel) ⟨Nat.le_of_ble_eq_true rfl, Nat.le_of_ble_eq_true rfl⟩) hK hP 0 rfl rfl rfl hl.1 rfl (Nat.le_of_ble_eq_true rfl) d_X_collectFullGrown_41 ⟨Nat.zero_le _, Nat.zero_le _⟩ ?_
      refine lv_if_eq (tgt := 60) hx hb d_X_collectFullGrown_44 (by decide) (fun c44 => ?_) (fun c44 => ?_)
      · refine lv_iinc (v := (nI (i + 1))) (lv' := [(2, .int (nI (i + 1))), (0, .ref (h 0)), (1, .int (nI (2 ^ n)))]) hx hb d_X_collectFullGrown_60 hl (k := 2) rfl (nI_1 i) (by decide) rfl (fun ls hl => ?_)
        refine lv_goto (tgt := 34) hx hb d_X_collectFullGrown_63 (by decide) ?_
        exact ih hlt x ls _ _ (by show isArr _ (flt (groX n bt rk od cg) (i + 1)); rw [flt_f (show groX n bt rk od cg i = false by unfold groX; rw [bI_0.mp c44]; rfl)]; exact hI) (lv_sub hl [1, 2, 0] rfl) (by rw [flt_f (show groX n bt rk od cg i = false by unfold groX; rw [bI_0.mp c44]; rfl)]; exact hP) (wr_D hD rfl) hS
      · refine lv_aload_n hx hb d_X_collectFullGrown_47 rfl (lv_at hl 0 rfl) ?_
        refine lv_iload_n hx hb d_X_collectFullGrown_48 rfl (lv_at hl 2 rfl) ?_
        refine rd_V (As := [.int (nI i)]) (rest := []) ⟨hx, hb, hml, hown, hts⟩ (c_X_canGrow l i hn (by omega)) (cwV 1 hts g_X_146 rfl rfl rfl (by decide +kernel) ⟨Nat.le_of_ble_eq_true rfl, Nat.le_of_ble_eq_true rfl⟩) hK hP 0 rfl rfl rfl hl.1 rfl (Nat.le_of_ble_eq_true rfl) d_X_collectFullGrown_49 ⟨Nat.zero_le _, Nat.zero_le _⟩ ?_
        refine lv_if_ne (tgt := 60) hx hb d_X_collectFullGrown_52 (by decide) (fun c52 => ?_) (fun c52 => ?_)
        · refine lv_iinc (v := (nI (i + 1))) (lv' := [(2, .int (nI (i + 1))), (0, .ref (h 0)), (1, .int (nI (2 ^ n)))]) hx hb d_X_collectFullGrown_60 hl (k := 2) rfl (nI_1 i) (by decide) rfl (fun ls hl => ?_)
          refine lv_goto (tgt := 34) hx hb d_X_collectFullGrown_63 (by decide) ?_
          exact ih hlt x ls _ _ (by show isArr _ (flt (groX n bt rk od cg) (i + 1)); rw [flt_f (show groX n bt rk od cg i = false by unfold groX; rw [← hgr i, show anyB (fun s => !i.testBit s && !cg ((i &&& x1 s) ||| 2 ^ s)) n = true by cases hq : anyB (fun s => !i.testBit s && !cg ((i &&& x1 s) ||| 2 ^ s)) n; exact absurd (bI_0.mpr hq) c52; rfl, Bool.not_true, Bool.and_false])]; exact hI) (lv_sub hl [1, 2, 0] rfl) (by rw [flt_f (show groX n bt rk od cg i = false by unfold groX; rw [← hgr i, show anyB (fun s => !i.testBit s && !cg ((i &&& x1 s) ||| 2 ^ s)) n = true by cases hq : anyB (fun s => !i.testBit s && !cg ((i &&& x1 s) ||| 2 ^ s)) n; exact absurd (bI_0.mpr hq) c52; rfl, Bool.not_true, Bool.and_false])]; exact hP) (wr_D hD rfl) hS
        · have hPi : groX n bt rk od cg i = true := by unfold groX; rw [show (sp_sub bt i && !cg i) = true by cases hq : (sp_sub bt i && !cg i); exact absurd (bI_0.mpr hq) c44; rfl, ← hgr i, bI_0.mp c52]; rfl
          have hrc2 : (flt (groX n bt rk od cg) i).length < 462 := by have := hB (i + 1) (by omega); rw [flt_t hPi, List.length_append, List.length_singleton] at this; omega
          refine lv_aload_n hx hb d_X_collectFullGrown_55 rfl (lv_at hl 0 rfl) ?_
          refine lv_iload_n hx hb d_X_collectFullGrown_56 rfl (lv_at hl 2 rfl) ?_
          refine wr_V (As := [.int (nI i)]) (rest := []) ⟨hx, hb, hml, hown, hts⟩ (c_X_addRepair l _ i hrc2) (cwV 1 hts g_X_149 rfl rfl rfl (by decide +kernel) ⟨Nat.le_of_ble_eq_true rfl, Nat.le_of_ble_eq_true rfl⟩) hK hP hD hS hA 0 rfl rfl rfl hl.1 rfl (Nat.le_of_ble_eq_true rfl) d_X_collectFullGrown_57 ⟨Nat.zero_le _, Nat.zero_le _⟩ rfl (fun H locs hP hD hS => ?_)
          have hP : va_P D clX (wX h cI cZ n bt rk wt cl cc su sa sc od fr cg x1 (va_up x (flt (groX n bt rk od cg) i).length i) ((flt (groX n bt rk od cg) i).length + 1)) H := hP
          have hD : va_D _ (wX h cI cZ n bt rk wt cl cc su sa sc od fr cg x1 (va_up x (flt (groX n bt rk od cg) i).length i) ((flt (groX n bt rk od cg) i).length + 1)) := hD
          refine lv_iinc (v := (nI (i + 1))) (lv' := [(2, .int (nI (i + 1))), (0, .ref (h 0)), (1, .int (nI (2 ^ n)))]) hx hb d_X_collectFullGrown_60 hl (k := 2) rfl (nI_1 i) (by decide) rfl (fun ls hl => ?_)
          refine lv_goto (tgt := 34) hx hb d_X_collectFullGrown_63 (by decide) ?_
          exact ih hlt (va_up x (flt (groX n bt rk od cg) i).length i) ls _ _ (by show isArr _ (flt (groX n bt rk od cg) (i + 1)); rw [flt_t hPi]; exact isArr_push hI i) (lv_sub hl [1, 2, 0] rfl) (by rw [flt_t hPi, List.length_append, List.length_singleton]; exact hP) (wr_D hD rfl) hS
  · have hlt : i < n := lp_lt hi (by omega) c7
    refine lv_aload_n hx hb d_X_collectFullGrown_10 rfl (lv_at hl 0 rfl) ?_
    refine va_get (D := D) (ci := 0) (v := .ref (h 7)) (C := RX) (T := TX) (N := 15) hx hb hts inX hown hK hP 0 rfl rfl 12 (by decide) (hts _ f_X_49) (fun _ h9 => h9) rfl d_X_collectFullGrown_11 ?_
    refine lv_iload_n hx hb d_X_collectFullGrown_14 rfl (lv_at hl 1 rfl) ?_
    refine lv_aload_n hx hb d_X_collectFullGrown_15 rfl (lv_at hl 0 rfl) ?_
    refine lv_iload_n hx hb d_X_collectFullGrown_16 rfl (lv_at hl 1 rfl) ?_
    refine rd_V (As := [.int (nI i)]) (rest := [.int (nI i), .ref (h 7)]) ⟨hx, hb, hml, hown, hts⟩ (c_X_companyOf l i (by omega) hn hbt hrk ho) (cwV 1 hts g_X_140 rfl rfl rfl (by decide +kernel) ⟨Nat.le_of_ble_eq_true rfl, Nat.le_of_ble_eq_true rfl⟩) hK hP 0 rfl rfl rfl hl.1 rfl (Nat.le_of_ble_eq_true rfl) d_X_collectFullGrown_17 ⟨Nat.zero_le _, Nat.zero_le _⟩ ?_
    refine va_iast hx hb hK hP hD hS 7 0 rfl rfl (vp_in_nI (show i < 11 by omega) (by decide)) d_X_collectFullGrown_20 (fun H locs hP hD hS => ?_)
    have hu : upd (fun j => nI (x1 j)) (nI i).toNatClampNeg (nI (comX n bt rk od i)) = fun j => nI ((va_up x1 i (comX n bt rk od i)) j) := by rw [nI_clamp (by omega)]; exact upd_nI x1 i _
    rw [hu] at hP hD
    have hP : va_P D clX (wX h cI cZ n bt rk wt cl cc su sa sc od fr cg (va_up x1 i (comX n bt rk od i)) rp 0) H := hP
    have hD : va_D _ (wX h cI cZ n bt rk wt cl cc su sa sc od fr cg (va_up x1 i (comX n bt rk od i)) rp 0) := hD
    refine lv_iinc (v := (nI (i + 1))) (lv' := [(1, .int (nI (i + 1))), (0, .ref (h 0))]) hx hb d_X_collectFullGrown_21 hl (k := 1) rfl (nI_1 i) (by decide) rfl (fun ls hl => ?_)
    refine lv_goto (tgt := 2) hx hb d_X_collectFullGrown_24 (by decide) ?_
    exact ih hlt (va_up x1 i (comX n bt rk od i)) ls _ _ (fun j hj => by unfold va_up; split; (rename_i q; rw [q]); exact hI j (by omega)) (lv_sub hl [1, 0] rfl) hP hD hS
set_option maxHeartbeats 4000000 in
set_option maxRecDepth 100000 in
theorem c_X_collectWorthiest (l : Launch) (sz : Nat) (hn : n ≤ 11) (hbt : bt < 2 ^ 31) (hrk : ∀ j, rk j < 8) (hwt : ∀ j, wt j ≤ 1000) (ho : od < 4) (hrc0 : rc = 0) (hB : ∀ k, k ≤ 2 ^ n → (wst (fun S => sp_sub bt S && !cg S) (fun S => wor bt rk wt S od n) k).2.length ≤ 462) : Met l y_X_collectWorthiest w_X_collectWorthiest (k2_rm 2 46) (wr_Pc D clX (wX h cI cZ n bt rk wt cl cc su sa sc od fr cg co rp rc) [(cI, .int), (cZ, .boolean)] sz [.ref (h 0)]) (wE_Q D clX (wX h cI cZ n bt rk wt cl cc su sa sc od fr cg co rp rc) (σ := Nat → Nat) (fun u => wX h cI cZ n bt rk wt cl cc su sa sc od fr cg co u ((wst (fun S => sp_sub bt S && !cg S) (fun S => wor bt rk wt S od n) (2 ^ n)).2.length)) (fun _ => none) (fun u => isArr u (wst (fun S => sp_sub bt S && !cg S) (fun S => wor bt rk wt S od n) (2 ^ n)).2) sz) 0 0 (va_A (wX h cI cZ n bt rk wt cl cc su sa sc od fr cg co rp rc) sz) := by
  refine wE_met (by decide) rfl (Nat.le_of_ble_eq_true rfl) rfl ?_
  intro p e s m below meth c ls hx hb hr hml hown hts hlocks hP hK hD hS hA hl
  have hts : ∀ w ∈ tbl, w.before _ s = true := fun w h => hts w (List.mem_cons_of_mem _ h)
  have hown : s.vm.findClass RX = some m.cls := hown
  have hl : lv_has ls 7 [(0, .ref (h 0))] := hl
  have hb3 : 2 ^ n ≤ 2048 := bx_p2 hn
  subst hrc0
  refine lv_aload_n hx hb d_X_collectWorthiest_0 rfl (lv_at hl 0 rfl) ?_
  refine rd_V (As := []) (rest := []) ⟨hx, hb, hml, hown, hts⟩ (c_X_setCount l hn) (cwV 0 hts g_X_105 rfl rfl rfl (by decide +kernel) ⟨Nat.le_of_ble_eq_true rfl, Nat.le_of_ble_eq_true rfl⟩) hK hP 0 rfl rfl rfl hl.1 rfl (Nat.le_of_ble_eq_true rfl) d_X_collectWorthiest_1 ⟨Nat.zero_le _, Nat.zero_le _⟩ ?_
  refine lv_istore_n (lv' := [(1, .int (nI (2 ^ n))), (0, .ref (h 0))]) hx hb d_X_collectWorthiest_4 rfl hl (by decide) rfl (fun ls hl => ?_)
  refine lv_ldc2 (v := (mI none)) hx hb hown (hts _ k_X_153) d_X_collectWorthiest_5 ?_
  refine lv_lstore_n (lv' := [(2, .long (mI none)), (1, .int (nI (2 ^ n))), (0, .ref (h 0))]) hx hb d_X_collectWorthiest_8 rfl hl (by decide) rfl (fun ls hl => ?_)
  refine lv_iconst (v := 0) hx hb d_X_collectWorthiest_9 (by decide) ?_
  refine lv_istore (lv' := [(4, .int 0), (2, .long (mI none)), (1, .int (nI (2 ^ n))), (0, .ref (h 0))]) hx hb d_X_collectWorthiest_10 hl (by decide) rfl (fun ls hl => ?_)
  refine wr_loop (nL := 7) (σ := Option Nat × (Nat → Nat)) (2 ^ n) (fun i x => [(0, .ref (h 0)), (1, .int (nI (2 ^ n))), (2, .long (mI x.1)), (4, .int (nI i))]) (fun i x => wX h cI cZ n bt rk wt cl cc su sa sc od fr cg co x.2 ((wst (fun S => sp_sub bt S && !cg S) (fun S => wor bt rk wt S od n) i).2.length)) (fun i x => x.1 = (wst (fun S => sp_sub bt S && !cg S) (fun S => wor bt rk wt S od n) i).1 ∧ isArr x.2 (wst (fun S => sp_sub bt S && !cg S) (fun S => wor bt rk wt S od n) i).2) ?_ 0 (none, rp) ls _ _ (Nat.zero_le _) (⟨rfl, isArr_nil rp⟩) (lv_sub hl [3, 2, 1, 0] rfl) hP hD hS
  intro i x ls H locs hi hI hl hP hD hS ih
  obtain ⟨hm, hI⟩ : x.1 = (wst (fun S => sp_sub bt S && !cg S) (fun S => wor bt rk wt S od n) i).1 ∧ isArr x.2 (wst (fun S => sp_sub bt S && !cg S) (fun S => wor bt rk wt S od n) i).2 := hI
  have hmb : ∀ v, x.1 = some v → v < 2 ^ 62 := by rw [hm]; exact fun v hv => Nat.lt_trans (wst_lt (B := 2 ^ 33) (fun S => wor_lt hwt hn) i v hv) (by decide)
  have hl : lv_has ls 7 [(0, .ref (h 0)), (1, .int (nI (2 ^ n))), (2, .long (mI x.1)), (4, .int (nI i))] := hl
  have hP : va_P D clX (wX h cI cZ n bt rk wt cl cc su sa sc od fr cg co x.2 ((wst (fun S => sp_sub bt S && !cg S) (fun S => wor bt rk wt S od n) i).2.length)) H := hP
  have hD : va_D _ (wX h cI cZ n bt rk wt cl cc su sa sc od fr cg co x.2 ((wst (fun S => sp_sub bt S && !cg S) (fun S => wor bt rk wt S od n) i).2.length)) := hD
  refine lv_iload hx hb d_X_collectWorthiest_12 (lv_at hl 3 rfl) ?_
  refine lv_iload_n hx hb d_X_collectWorthiest_14 rfl (lv_at hl 1 rfl) ?_
  refine lv_icmp_ge (tgt := 73) hx hb d_X_collectWorthiest_15 (by decide) (fun c15 => ?_) (fun c15 => ?_)
  · have hN : i = 2 ^ n := lp_ge hi (by omega) c15
    exact wE_vret x.2 hx hb hr hlocks d_X_collectWorthiest_73 hS (by show va_P D clX (wX h cI cZ n bt rk wt cl cc su sa sc od fr cg co x.2 ((wst (fun S => sp_sub bt S && !cg S) (fun S => wor bt rk wt S od n) (2 ^ n)).2.length)) H; rw [show (wst (fun S => sp_sub bt S && !cg S) (fun S => wor bt rk wt S od n) (2 ^ n)).2.length = (wst (fun S => sp_sub bt S && !cg S) (fun S => wor bt rk wt S od n) i).2.length by rw [hN]]; exact hP) (by show isArr x.2 (wst (fun S => sp_sub bt S && !cg S) (fun S => wor bt rk wt S od n) (2 ^ n)).2; rw [← hN]; exact hI) rfl
  · have hlt : i < 2 ^ n := lp_lt hi (by omega) c15
    refine lv_aload_n hx hb d_X_collectWorthiest_18 rfl (lv_at hl 0 rfl) ?_
    refine lv_iload hx hb d_X_collectWorthiest_19 (lv_at hl 3 rfl) ?_
    refine rd_V (As := [.int (nI i)]) (rest := []) ⟨hx, hb, hml, hown, hts⟩ (c_X_isKept l i (by omega) hbt) (cwV 1 hts g_X_143 rfl rfl rfl (by decide +kernel) ⟨Nat.le_of_ble_eq_true rfl, Nat.le_of_ble_eq_true rfl⟩) hK hP 0 rfl rfl rfl hl.1 rfl (Nat.le_of_ble_eq_true rfl) d_X_collectWorthiest_21 ⟨Nat.zero_le _, Nat.zero_le _⟩ ?_
    refine lv_if_eq (tgt := 67) hx hb d_X_collectWorthiest_24 (by decide) (fun c24 => ?_) (fun c24 => ?_)
    · have hw0 : wst (fun S => sp_sub bt S && !cg S) (fun S => wor bt rk wt S od n) (i + 1) = wst (fun S => sp_sub bt S && !cg S) (fun S => wor bt rk wt S od n) i := by rw [wst, if_neg (fun q => Bool.false_ne_true ((bI_0.mp c24).symm.trans q))]
      refine lv_iinc (v := (nI (i + 1))) (lv' := [(4, .int (nI (i + 1))), (0, .ref (h 0)), (1, .int (nI (2 ^ n))), (2, .long (mI x.1))]) hx hb d_X_collectWorthiest_67 hl (k := 3) rfl (nI_1 i) (by decide) rfl (fun ls hl => ?_)
      refine lv_goto (tgt := 12) hx hb d_X_collectWorthiest_70 (by decide) ?_
      exact ih hlt x ls _ _ (by show _ = (wst (fun S => sp_sub bt S && !cg S) (fun S => wor bt rk wt S od n) (i + 1)).1 ∧ isArr _ (wst (fun S => sp_sub bt S && !cg S) (fun S => wor bt rk wt S od n) (i + 1)).2; rw [hw0]; exact ⟨hm, hI⟩) (lv_sub hl [1, 2, 3, 0] rfl) (by rw [hw0]; exact hP) (wr_D hD rfl) hS
    · have hK1 : (fun S => sp_sub bt S && !cg S) i = true := show (sp_sub bt i && !cg i) = true by cases hq : (sp_sub bt i && !cg i); exact absurd (bI_0.mpr hq) c24; rfl
      refine lv_aload_n hx hb d_X_collectWorthiest_27 rfl (lv_at hl 0 rfl) ?_
      refine lv_iload hx hb d_X_collectWorthiest_28 (lv_at hl 3 rfl) ?_
      refine lv_aload_n hx hb d_X_collectWorthiest_30 rfl (lv_at hl 0 rfl) ?_
      refine va_get (D := D) (ci := 0) (v := .int (nI od)) (C := RX) (T := TX) (N := 15) hx hb hts inX hown hK hP 0 rfl rfl 9 (by decide) (hts _ f_X_38) (fun _ h9 => h9) rfl d_X_collectWorthiest_31 ?_
      refine rd_V (As := [.int (nI i), .int (nI od)]) (rest := []) ⟨hx, hb, hml, hown, hts⟩ (c_X_worth l i od hn hbt hrk hwt (by omega) ho) (cwV 2 hts g_X_114 rfl rfl rfl (by decide +kernel) ⟨Nat.le_of_ble_eq_true rfl, Nat.le_of_ble_eq_true rfl⟩) hK hP 0 rfl rfl rfl hl.1 rfl (Nat.le_of_ble_eq_true rfl) d_X_collectWorthiest_34 ⟨Nat.zero_le _, Nat.zero_le _⟩ ?_
      refine lv_lstore (lv' := [(5, .long (lN (wor bt rk wt i od n))), (0, .ref (h 0)), (1, .int (nI (2 ^ n))), (2, .long (mI x.1)), (4, .int (nI i))]) hx hb d_X_collectWorthiest_37 hl (by decide) rfl (fun ls hl => ?_)
      refine lv_lload hx hb d_X_collectWorthiest_39 (lv_at hl 0 rfl) ?_
      refine lv_lload_n hx hb d_X_collectWorthiest_41 rfl (lv_at hl 3 rfl) ?_
      refine W.lcmp hx hb d_X_collectWorthiest_42 ?_
      refine lv_if_le (tgt := 54) hx hb d_X_collectWorthiest_43 (by decide) (fun c43 => ?_) (fun c43 => ?_)
      · have hle : ¬ ∀ v, (wst (fun S => sp_sub bt S && !cg S) (fun S => wor bt rk wt S od n) i).1 = some v → v < wor bt rk wt i od n := by rw [← hm]; exact (mI_le (Nat.lt_trans (wor_lt hwt hn) (by decide)) hmb).mp c43
        refine lv_lload hx hb d_X_collectWorthiest_54 (lv_at hl 0 rfl) ?_
        refine lv_lload_n hx hb d_X_collectWorthiest_56 rfl (lv_at hl 3 rfl) ?_
        refine W.lcmp hx hb d_X_collectWorthiest_57 ?_
        refine lv_if_ne (tgt := 67) hx hb d_X_collectWorthiest_58 (by decide) (fun c58 => ?_) (fun c58 => ?_)
        · have hw3 : wst (fun S => sp_sub bt S && !cg S) (fun S => wor bt rk wt S od n) (i + 1) = wst (fun S => sp_sub bt S && !cg S) (fun S => wor bt rk wt S od n) i := by rw [wst, if_pos hK1, if_neg (fun q => c58 ((mI_eq (Nat.lt_trans (wor_lt hwt hn) (by decide)) hmb).mpr (hm.trans q))), if_neg hle]
          refine lv_iinc (v := (nI (i + 1))) (lv' := [(4, .int (nI (i + 1))), (5, .long (lN (wor bt rk wt i od n))), (0, .ref (h 0)), (1, .int (nI (2 ^ n))), (2, .long (mI x.1))]) hx hb d_X_collectWorthiest_67 hl (k := 4) rfl (nI_1 i) (by decide) rfl (fun ls hl => ?_)
          refine lv_goto (tgt := 12) hx hb d_X_collectWorthiest_70 (by decide) ?_
          exact ih hlt x ls _ _ (by show _ = (wst (fun S => sp_sub bt S && !cg S) (fun S => wor bt rk wt S od n) (i + 1)).1 ∧ isArr _ (wst (fun S => sp_sub bt S && !cg S) (fun S => wor bt rk wt S od n) (i + 1)).2; rw [hw3]; exact ⟨hm, hI⟩) (lv_sub hl [2, 3, 4, 0] rfl) (by rw [hw3]; exact hP) (wr_D hD rfl) hS
        · have hw2 : wst (fun S => sp_sub bt S && !cg S) (fun S => wor bt rk wt S od n) (i + 1) = ((wst (fun S => sp_sub bt S && !cg S) (fun S => wor bt rk wt S od n) i).1, (wst (fun S => sp_sub bt S && !cg S) (fun S => wor bt rk wt S od n) i).2 ++ [i]) := by rw [wst, if_pos hK1, if_pos (hm.symm.trans ((mI_eq (Nat.lt_trans (wor_lt hwt hn) (by decide)) hmb).mp c58))]
          have hrc2 : (wst (fun S => sp_sub bt S && !cg S) (fun S => wor bt rk wt S od n) i).2.length < 462 := by have := hB (i + 1) (by omega); rw [hw2] at this; simp only [List.length_append, List.length_singleton] at this; omega
          refine lv_aload_n hx hb d_X_collectWorthiest_61 rfl (lv_at hl 1 rfl) ?_
          refine lv_iload hx hb d_X_collectWorthiest_62 (lv_at hl 4 rfl) ?_
          refine wr_V (As := [.int (nI i)]) (rest := []) ⟨hx, hb, hml, hown, hts⟩ (c_X_addRepair l _ i hrc2) (cwV 1 hts g_X_149 rfl rfl rfl (by decide +kernel) ⟨Nat.le_of_ble_eq_true rfl, Nat.le_of_ble_eq_true rfl⟩) hK hP hD hS hA 0 rfl rfl rfl hl.1 rfl (Nat.le_of_ble_eq_true rfl) d_X_collectWorthiest_64 ⟨Nat.zero_le _, Nat.zero_le _⟩ rfl (fun H locs hP hD hS => ?_)
          have hP : va_P D clX (wX h cI cZ n bt rk wt cl cc su sa sc od fr cg co (va_up x.2 (wst (fun S => sp_sub bt S && !cg S) (fun S => wor bt rk wt S od n) i).2.length i) ((wst (fun S => sp_sub bt S && !cg S) (fun S => wor bt rk wt S od n) i).2.length + 1)) H := hP
          have hD : va_D _ (wX h cI cZ n bt rk wt cl cc su sa sc od fr cg co (va_up x.2 (wst (fun S => sp_sub bt S && !cg S) (fun S => wor bt rk wt S od n) i).2.length i) ((wst (fun S => sp_sub bt S && !cg S) (fun S => wor bt rk wt S od n) i).2.length + 1)) := hD
          refine lv_iinc (v := (nI (i + 1))) (lv' := [(4, .int (nI (i + 1))), (5, .long (lN (wor bt rk wt i od n))), (0, .ref (h 0)), (1, .int (nI (2 ^ n))), (2, .long (mI x.1))]) hx hb d_X_collectWorthiest_67 hl (k := 4) rfl (nI_1 i) (by decide) rfl (fun ls hl => ?_)
          refine lv_goto (tgt := 12) hx hb d_X_collectWorthiest_70 (by decide) ?_
          exact ih hlt (x.1, va_up x.2 (wst (fun S => sp_sub bt S && !cg S) (fun S => wor bt rk wt S od n) i).2.length i) ls _ _ (by show _ = (wst (fun S => sp_sub bt S && !cg S) (fun S => wor bt rk wt S od n) (i + 1)).1 ∧ isArr _ (wst (fun S => sp_sub bt S && !cg S) (fun S => wor bt rk wt S od n) (i + 1)).2; rw [hw2]; exact ⟨hm, isArr_push hI i⟩) (lv_sub hl [2, 3, 4, 0] rfl) (by rw [hw2]; simp only [List.length_append, List.length_singleton]; exact hP) (wr_D hD rfl) hS
      · have hgt : ∀ v, (wst (fun S => sp_sub bt S && !cg S) (fun S => wor bt rk wt S od n) i).1 = some v → v < wor bt rk wt i od n := by rw [← hm]; exact Classical.byContradiction fun q => c43 ((mI_le (Nat.lt_trans (wor_lt hwt hn) (by decide)) hmb).mpr q)
        have hw1 : wst (fun S => sp_sub bt S && !cg S) (fun S => wor bt rk wt S od n) (i + 1) = (some (wor bt rk wt i od n), [i]) := by rw [wst, if_pos hK1, if_neg (fun q => absurd (hgt _ q) (Nat.lt_irrefl _)), if_pos hgt]
        refine lv_lload hx hb d_X_collectWorthiest_46 (lv_at hl 0 rfl) ?_
        refine lv_lstore_n (lv' := [(2, .long (lN (wor bt rk wt i od n))), (5, .long (lN (wor bt rk wt i od n))), (0, .ref (h 0)), (1, .int (nI (2 ^ n))), (4, .int (nI i))]) hx hb d_X_collectWorthiest_48 rfl hl (by decide) rfl (fun ls hl => ?_)
        refine lv_aload_n hx hb d_X_collectWorthiest_49 rfl (lv_at hl 2 rfl) ?_
        refine lv_iconst (v := 0) hx hb d_X_collectWorthiest_50 (by decide) ?_
        refine va_put (D := D) (ci := 0) (v := .int 0) (ty := .int) (C := RX) (T := TX) (N := 15) hx hb hts inX tyX tyX_ok nmX hown hK hP hD hS 0 rfl rfl 14 (by decide) (hts _ f_X_55) (fun _ h9 => h9) rfl (by decide +kernel) rfl rfl (Nat.le_of_ble_eq_true rfl) d_X_collectWorthiest_51 (fun H locs hP hD hS => ?_)
        have hP : va_P D clX (wX h cI cZ n bt rk wt cl cc su sa sc od fr cg co x.2 0) H := hP
        have hD : va_D _ (wX h cI cZ n bt rk wt cl cc su sa sc od fr cg co x.2 0) := hD
        refine lv_lload hx hb d_X_collectWorthiest_54 (lv_at hl 1 rfl) ?_
        refine lv_lload_n hx hb d_X_collectWorthiest_56 rfl (lv_at hl 0 rfl) ?_
        refine W.lcmp hx hb d_X_collectWorthiest_57 ?_
        refine lv_if_ne (tgt := 67) hx hb d_X_collectWorthiest_58 (by decide) (fun c58 => ?_) (fun c58 => ?_)
        · exact absurd ((lg_cmp_eq _ _).mpr rfl) c58
        · refine lv_aload_n hx hb d_X_collectWorthiest_61 rfl (lv_at hl 2 rfl) ?_
          refine lv_iload hx hb d_X_collectWorthiest_62 (lv_at hl 4 rfl) ?_
          refine wr_V (As := [.int (nI i)]) (rest := []) ⟨hx, hb, hml, hown, hts⟩ (c_X_addRepair l _ i (by decide)) (cwV 1 hts g_X_149 rfl rfl rfl (by decide +kernel) ⟨Nat.le_of_ble_eq_true rfl, Nat.le_of_ble_eq_true rfl⟩) hK hP hD hS hA 0 rfl rfl rfl hl.1 rfl (Nat.le_of_ble_eq_true rfl) d_X_collectWorthiest_64 ⟨Nat.zero_le _, Nat.zero_le _⟩ rfl (fun H locs hP hD hS => ?_)
          have hP : va_P D clX (wX h cI cZ n bt rk wt cl cc su sa sc od fr cg co (va_up x.2 0 i) (0 + 1)) H := hP
          have hD : va_D _ (wX h cI cZ n bt rk wt cl cc su sa sc od fr cg co (va_up x.2 0 i) (0 + 1)) := hD
          refine lv_iinc (v := (nI (i + 1))) (lv' := [(4, .int (nI (i + 1))), (2, .long (lN (wor bt rk wt i od n))), (5, .long (lN (wor bt rk wt i od n))), (0, .ref (h 0)), (1, .int (nI (2 ^ n)))]) hx hb d_X_collectWorthiest_67 hl (k := 4) rfl (nI_1 i) (by decide) rfl (fun ls hl => ?_)
          refine lv_goto (tgt := 12) hx hb d_X_collectWorthiest_70 (by decide) ?_
          exact ih hlt (some (wor bt rk wt i od n), va_up x.2 0 i) ls _ _ (by show _ = (wst (fun S => sp_sub bt S && !cg S) (fun S => wor bt rk wt S od n) (i + 1)).1 ∧ isArr _ (wst (fun S => sp_sub bt S && !cg S) (fun S => wor bt rk wt S od n) (i + 1)).2; rw [hw1]; exact ⟨rfl, isArr_push (L := []) (isArr_nil x.2) i⟩) (lv_sub hl [3, 4, 1, 0] rfl) (by rw [hw1]; exact hP) (wr_D hD rfl) hS
end MX6

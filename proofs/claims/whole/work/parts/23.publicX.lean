section MX8
variable {D : va_G} {h : Nat → Nat} {cI cZ : ClassId} {n bt : Nat} {rk wt cl : Nat → Nat} {cc : Nat} {su sa : Nat → Nat} {sc od : Nat} {fr : Bool} {cg : Nat → Bool} {co rp : Nat → Nat} {rc : Nat}
set_option maxHeartbeats 4000000 in
set_option maxRecDepth 100000 in
theorem c_X_fact (l : Launch) (sz : Nat) (hard : Bool) (r w : Int32) (hg : gdA (n, bt, rk, wt, cl, cc, su, sa, sc, od)) (hc : okC (n, bt, rk, wt, cl, cc, su, sa, sc, od) fr rp rc) : Met l y_X_fact w_X_fact (k2_rm 1 20) (wr_Pc D clX (wX h cI cZ n bt rk wt cl cc su sa sc od fr cg co rp rc) [(cI, .int), (cZ, .boolean)] sz [.ref (h 0), .int (bI hard), .int r, .int w]) (wE_Q D clX (wX h cI cZ n bt rk wt cl cc su sa sc od fr cg co rp rc) (σ := stA × stC) (wXt h cI cZ) (fun _ => some (.int (sFact n bt rk wt cl cc su sa sc od hard r w).1)) (fun u => u.1 = (sFact n bt rk wt cl cc su sa sc od hard r w).2 ∧ ocX u) sz) 0 0 (va_A (wX h cI cZ n bt rk wt cl cc su sa sc od fr cg co rp rc) sz) := by
  refine wE_met (by decide) rfl (Nat.le_of_ble_eq_true rfl) rfl ?_
  intro p e s m below meth c ls hx hb hr hml hown hts hlocks hP hK hD hS hA hl
  have hts : ∀ w ∈ tbl, w.before _ s = true := fun w h => hts w (List.mem_cons_of_mem _ h)
  have hown : s.vm.findClass RX = some m.cls := hown
  have hl : lv_has ls 5 [(0, .ref (h 0)), (1, .int (bI hard)), (2, .int r), (3, .int w)] := hl
  obtain ⟨hn, hbt, hrk, hwt, hwp, hcc, hcl, hsc, hsa, hsu, ho⟩ := id hg
  have hbt3 : bt < 2 ^ 31 := Nat.lt_of_lt_of_le hbt (Nat.pow_le_pow_right (by decide) (by omega))
  refine lv_iload_n hx hb d_X_fact_0 rfl (lv_at hl 2 rfl) ?_
  refine rd_S (As := [.int r]) (rest := []) ⟨hx, hb, hml, hown, hts⟩ (c_X_isRank l r) (cwS 1 hts g_X_58 rfl rfl rfl (by decide +kernel) ⟨Nat.le_of_ble_eq_true rfl, Nat.le_of_ble_eq_true rfl⟩) rfl hl.1 rfl (Nat.le_of_ble_eq_true rfl) d_X_fact_1 ⟨Nat.zero_le _, Nat.zero_le _⟩ ?_
  refine lv_if_eq (tgt := 14) hx hb d_X_fact_4 (by decide) (fun c4 => ?_) (fun c4 => ?_)
  · refine lv_iconst (v := (-1)) hx hb d_X_fact_14 (by decide) ?_
    have hs : (sFact n bt rk wt cl cc su sa sc od hard r w) = ((-1), (n, bt, rk, wt, cl, cc, su, sa, sc, od)) := by unfold sFact; rw [if_neg (by rw [bI_0.mp c4, Bool.false_and]; decide)]
    exact wE_iret ((n, bt, rk, wt, cl, cc, su, sa, sc, od), (fr, cg, co, rp, rc)) hx hb hr hlocks d_X_fact_15 hS hP ⟨by rw [hs], hc⟩ (by rw [hs])
  · refine lv_iload_n hx hb d_X_fact_7 rfl (lv_at hl 3 rfl) ?_
    refine rd_S (As := [.int w]) (rest := []) ⟨hx, hb, hml, hown, hts⟩ (c_X_isWeight l w) (cwS 1 hts g_X_62 rfl rfl rfl (by decide +kernel) ⟨Nat.le_of_ble_eq_true rfl, Nat.le_of_ble_eq_true rfl⟩) rfl hl.1 rfl (Nat.le_of_ble_eq_true rfl) d_X_fact_8 ⟨Nat.zero_le _, Nat.zero_le _⟩ ?_
    refine lv_if_ne (tgt := 16) hx hb d_X_fact_11 (by decide) (fun c11 => ?_) (fun c11 => ?_)
    · have hok : (okR r && okW w) = true := by rw [show okR r = true by cases hq : okR r; exact absurd (bI_0.mpr hq) c4; rfl, show okW w = true by cases hq : okW w; exact absurd (bI_0.mpr hq) c11; rfl]; rfl
      obtain ⟨r0, hr0, er⟩ := okR_of (show okR r = true by cases hq : okR r; exact absurd (bI_0.mpr hq) c4; rfl)
      obtain ⟨v0, hv0, hv1, ew⟩ := okW_of (show okW w = true by cases hq : okW w; exact absurd (bI_0.mpr hq) c11; rfl)
      have er2 : nI r.toNatClampNeg = r := by rw [er, nI_clamp (by omega)]
      have ew2 : nI w.toNatClampNeg = w := by rw [ew, nI_clamp (by omega)]
      refine lv_aload_n hx hb d_X_fact_16 rfl (lv_at hl 0 rfl) ?_
      refine va_get (D := D) (ci := 0) (v := .int (nI n)) (C := RX) (T := TX) (N := 15) hx hb hts inX hown hK hP 0 rfl rfl 0 (by decide) (hts _ f_X_9) (fun _ h9 => h9) rfl d_X_fact_17 ?_
      refine lv_bipush (v := 11) hx hb d_X_fact_20 (by decide) ?_
      refine lv_icmp_lt (tgt := 28) hx hb d_X_fact_22 (by decide) (fun c22 => ?_) (fun c22 => ?_)
      · have hn10 : n < 11 := (nI_ltI (b := 11) (by omega) (by decide)).mp c22
        refine lv_aload_n hx hb d_X_fact_28 rfl (lv_at hl 0 rfl) ?_
        refine va_get (D := D) (ci := 0) (v := .int (nI n)) (C := RX) (T := TX) (N := 15) hx hb hts inX hown hK hP 0 rfl rfl 0 (by decide) (hts _ f_X_9) (fun _ h9 => h9) rfl d_X_fact_29 ?_
        refine lv_istore (lv' := [(4, .int (nI n)), (0, .ref (h 0)), (1, .int (bI hard)), (2, .int r), (3, .int w)]) hx hb d_X_fact_32 hl (by decide) rfl (fun ls hl => ?_)
        refine lv_aload_n hx hb d_X_fact_34 rfl (lv_at hl 1 rfl) ?_
        refine va_get (D := D) (ci := 0) (v := .ref (h 1)) (C := RX) (T := TX) (N := 15) hx hb hts inX hown hK hP 0 rfl rfl 2 (by decide) (hts _ f_X_16) (fun _ h9 => h9) rfl d_X_fact_35 ?_
        refine lv_iload hx hb d_X_fact_38 (lv_at hl 0 rfl) ?_
        refine lv_iload_n hx hb d_X_fact_40 rfl (lv_at hl 3 rfl) ?_
        refine va_iast hx hb hK hP hD hS 1 0 rfl rfl (vp_in_nI hn10 (by decide)) d_X_fact_41 (fun H locs hP hD hS => ?_)
        have hu : upd (fun j => nI (rk j)) (nI n).toNatClampNeg r = fun j => nI ((va_up rk n r.toNatClampNeg) j) := by rw [nI_clamp (by omega)]; exact upd_nI' rk n er2
        rw [hu] at hP hD
        have hP : va_P D clX (wX h cI cZ n bt (va_up rk n r.toNatClampNeg) wt cl cc su sa sc od fr cg co rp rc) H := hP
        have hD : va_D _ (wX h cI cZ n bt (va_up rk n r.toNatClampNeg) wt cl cc su sa sc od fr cg co rp rc) := hD
        refine lv_aload_n hx hb d_X_fact_42 rfl (lv_at hl 1 rfl) ?_
        refine va_get (D := D) (ci := 0) (v := .ref (h 2)) (C := RX) (T := TX) (N := 15) hx hb hts inX hown hK hP 0 rfl rfl 3 (by decide) (hts _ f_X_20) (fun _ h9 => h9) rfl d_X_fact_43 ?_
        refine lv_iload hx hb d_X_fact_46 (lv_at hl 0 rfl) ?_
        refine lv_iload_n hx hb d_X_fact_48 rfl (lv_at hl 4 rfl) ?_
        refine va_iast hx hb hK hP hD hS 2 0 rfl rfl (vp_in_nI hn10 (by decide)) d_X_fact_49 (fun H locs hP hD hS => ?_)
        have hu : upd (fun j => nI (wt j)) (nI n).toNatClampNeg w = fun j => nI ((va_up wt n w.toNatClampNeg) j) := by rw [nI_clamp (by omega)]; exact upd_nI' wt n ew2
        rw [hu] at hP hD
        have hP : va_P D clX (wX h cI cZ n bt (va_up rk n r.toNatClampNeg) (va_up wt n w.toNatClampNeg) cl cc su sa sc od fr cg co rp rc) H := hP
        have hD : va_D _ (wX h cI cZ n bt (va_up rk n r.toNatClampNeg) (va_up wt n w.toNatClampNeg) cl cc su sa sc od fr cg co rp rc) := hD
        refine lv_iload_n hx hb d_X_fact_50 rfl (lv_at hl 2 rfl) ?_
        refine lv_if_eq (tgt := 67) hx hb d_X_fact_51 (by decide) (fun c51 => ?_) (fun c51 => ?_)
        · refine lv_aload_n hx hb d_X_fact_67 rfl (lv_at hl 1 rfl) ?_
          refine lv_iload hx hb d_X_fact_68 (lv_at hl 0 rfl) ?_
          refine lv_iconst (v := 1) hx hb d_X_fact_70 (by decide) ?_
          refine lv_iadd hx hb d_X_fact_71 ?_
          refine rd_top (z := nI (n + 1)) (nI_1 n) ?_
          refine va_put (D := D) (ci := 0) (v := .int (nI (n + 1))) (ty := .int) (C := RX) (T := TX) (N := 15) hx hb hts inX tyX tyX_ok nmX hown hK hP hD hS 0 rfl rfl 0 (by decide) (hts _ f_X_9) (fun _ h9 => h9) rfl (by decide +kernel) rfl rfl (Nat.le_of_ble_eq_true rfl) d_X_fact_72 (fun H locs hP hD hS => ?_)
          have hP : va_P D clX (wX h cI cZ (n + 1) bt (va_up rk n r.toNatClampNeg) (va_up wt n w.toNatClampNeg) cl cc su sa sc od fr cg co rp rc) H := hP
          have hD : va_D _ (wX h cI cZ (n + 1) bt (va_up rk n r.toNatClampNeg) (va_up wt n w.toNatClampNeg) cl cc su sa sc od fr cg co rp rc) := hD
          refine lv_aload_n hx hb d_X_fact_75 rfl (lv_at hl 1 rfl) ?_
          refine lv_iconst (v := 0) hx hb d_X_fact_76 (by decide) ?_
          refine va_put (D := D) (ci := 0) (v := .int 0) (ty := .boolean) (C := RX) (T := TX) (N := 15) hx hb hts inX tyX tyX_ok nmX hown hK hP hD hS 0 rfl rfl 10 (by decide) (hts _ f_X_41) (fun _ h9 => h9) rfl (by decide +kernel) rfl rfl (Nat.le_of_ble_eq_true rfl) d_X_fact_77 (fun H locs hP hD hS => ?_)
          have hP : va_P D clX (wX h cI cZ (n + 1) bt (va_up rk n r.toNatClampNeg) (va_up wt n w.toNatClampNeg) cl cc su sa sc od false cg co rp rc) H := hP
          have hD : va_D _ (wX h cI cZ (n + 1) bt (va_up rk n r.toNatClampNeg) (va_up wt n w.toNatClampNeg) cl cc su sa sc od false cg co rp rc) := hD
          refine lv_iload hx hb d_X_fact_80 (lv_at hl 0 rfl) ?_
          have hs : (sFact n bt rk wt cl cc su sa sc od hard r w) = ((nI n), ((n + 1), bt, va_up rk n r.toNatClampNeg, va_up wt n w.toNatClampNeg, cl, cc, su, sa, sc, od)) := by unfold sFact; rw [if_pos hok, if_neg (show ¬ n = 11 by omega), if_neg (show ¬ hard = true by rw [bI_0.mp c51]; decide)]
          exact wE_iret (((n + 1), bt, va_up rk n r.toNatClampNeg, va_up wt n w.toNatClampNeg, cl, cc, su, sa, sc, od), (false, cg, co, rp, rc)) hx hb hr hlocks d_X_fact_82 hS hP ⟨by rw [hs], okC_f⟩ (by rw [hs])
        · refine lv_aload_n hx hb d_X_fact_54 rfl (lv_at hl 1 rfl) ?_
          refine lv_dup hx hb d_X_fact_55 rfl ?_
          refine va_get (D := D) (ci := 0) (v := .int (nI bt)) (C := RX) (T := TX) (N := 15) hx hb hts inX hown hK hP 0 rfl rfl 1 (by decide) (hts _ f_X_13) (fun _ h9 => h9) rfl d_X_fact_56 ?_
          refine lv_iconst (v := 1) hx hb d_X_fact_59 (by decide) ?_
          refine lv_iload hx hb d_X_fact_60 (lv_at hl 0 rfl) ?_
          refine lv_ishl hx hb d_X_fact_62 ?_
          refine rd_top (z := nI (2 ^ n)) (bx_shl n (by omega)) ?_
          refine lv_ior hx hb d_X_fact_63 ?_
          refine rd_top (z := nI (bt ||| 2 ^ n)) (bx_or _ _) ?_
          refine va_put (D := D) (ci := 0) (v := .int (nI (bt ||| 2 ^ n))) (ty := .int) (C := RX) (T := TX) (N := 15) hx hb hts inX tyX tyX_ok nmX hown hK hP hD hS 0 rfl rfl 1 (by decide) (hts _ f_X_13) (fun _ h9 => h9) rfl (by decide +kernel) rfl rfl (Nat.le_of_ble_eq_true rfl) d_X_fact_64 (fun H locs hP hD hS => ?_)
          have hP : va_P D clX (wX h cI cZ n (bt ||| 2 ^ n) (va_up rk n r.toNatClampNeg) (va_up wt n w.toNatClampNeg) cl cc su sa sc od fr cg co rp rc) H := hP
          have hD : va_D _ (wX h cI cZ n (bt ||| 2 ^ n) (va_up rk n r.toNatClampNeg) (va_up wt n w.toNatClampNeg) cl cc su sa sc od fr cg co rp rc) := hD
          refine lv_aload_n hx hb d_X_fact_67 rfl (lv_at hl 1 rfl) ?_
          refine lv_iload hx hb d_X_fact_68 (lv_at hl 0 rfl) ?_
          refine lv_iconst (v := 1) hx hb d_X_fact_70 (by decide) ?_
          refine lv_iadd hx hb d_X_fact_71 ?_
          refine rd_top (z := nI (n + 1)) (nI_1 n) ?_
          refine va_put (D := D) (ci := 0) (v := .int (nI (n + 1))) (ty := .int) (C := RX) (T := TX) (N := 15) hx hb hts inX tyX tyX_ok nmX hown hK hP hD hS 0 rfl rfl 0 (by decide) (hts _ f_X_9) (fun _ h9 => h9) rfl (by decide +kernel) rfl rfl (Nat.le_of_ble_eq_true rfl) d_X_fact_72 (fun H locs hP hD hS => ?_)
          have hP : va_P D clX (wX h cI cZ (n + 1) (bt ||| 2 ^ n) (va_up rk n r.toNatClampNeg) (va_up wt n w.toNatClampNeg) cl cc su sa sc od fr cg co rp rc) H := hP
          have hD : va_D _ (wX h cI cZ (n + 1) (bt ||| 2 ^ n) (va_up rk n r.toNatClampNeg) (va_up wt n w.toNatClampNeg) cl cc su sa sc od fr cg co rp rc) := hD
          refine lv_aload_n hx hb d_X_fact_75 rfl (lv_at hl 1 rfl) ?_
          refine lv_iconst (v := 0) hx hb d_X_fact_76 (by decide) ?_
          refine va_put (D := D) (ci := 0) (v := .int 0) (ty := .boolean) (C := RX) (T := TX) (N := 15) hx hb hts inX tyX tyX_ok nmX hown hK hP hD hS 0 rfl rfl 10 (by decide) (hts _ f_X_41) (fun _ h9 => h9) rfl (by decide +kernel) rfl rfl (Nat.le_of_ble_eq_true rfl) d_X_fact_77 (fun H locs hP hD hS => ?_)
          have hP : va_P D clX (wX h cI cZ (n + 1) (bt ||| 2 ^ n) (va_up rk n r.toNatClampNeg) (va_up wt n w.toNatClampNeg) cl cc su sa sc od false cg co rp rc) H := hP
          have hD : va_D _ (wX h cI cZ (n + 1) (bt ||| 2 ^ n) (va_up rk n r.toNatClampNeg) (va_up wt n w.toNatClampNeg) cl cc su sa sc od false cg co rp rc) := hD
          refine lv_iload hx hb d_X_fact_80 (lv_at hl 0 rfl) ?_
          have hs : (sFact n bt rk wt cl cc su sa sc od hard r w) = ((nI n), ((n + 1), (bt ||| 2 ^ n), va_up rk n r.toNatClampNeg, va_up wt n w.toNatClampNeg, cl, cc, su, sa, sc, od)) := by unfold sFact; rw [if_pos hok, if_neg (show ¬ n = 11 by omega), if_pos (show hard = true by cases hq : hard; exact absurd (bI_0.mpr hq) c51; rfl)]
          exact wE_iret (((n + 1), (bt ||| 2 ^ n), va_up rk n r.toNatClampNeg, va_up wt n w.toNatClampNeg, cl, cc, su, sa, sc, od), (false, cg, co, rp, rc)) hx hb hr hlocks d_X_fact_82 hS hP ⟨by rw [hs], okC_f⟩ (by rw [hs])
      · refine lv_bipush (v := (-3)) hx hb d_X_fact_25 (by decide) ?_
        have hs : (sFact n bt rk wt cl cc su sa sc od hard r w) = ((-3), (n, bt, rk, wt, cl, cc, su, sa, sc, od)) := by unfold sFact; rw [if_pos hok, if_pos (show n = 11 by rcases Nat.lt_or_ge n 11 with q | q; exact absurd ((nI_ltI (b := 11) (by omega) (by decide)).mpr q) c22; omega)]
        exact wE_iret ((n, bt, rk, wt, cl, cc, su, sa, sc, od), (fr, cg, co, rp, rc)) hx hb hr hlocks d_X_fact_27 hS hP ⟨by rw [hs], hc⟩ (by rw [hs])
    · refine lv_iconst (v := (-1)) hx hb d_X_fact_14 (by decide) ?_
      have hs : (sFact n bt rk wt cl cc su sa sc od hard r w) = ((-1), (n, bt, rk, wt, cl, cc, su, sa, sc, od)) := by unfold sFact; rw [if_neg (by rw [bI_0.mp c11, Bool.and_false]; decide)]
      exact wE_iret ((n, bt, rk, wt, cl, cc, su, sa, sc, od), (fr, cg, co, rp, rc)) hx hb hr hlocks d_X_fact_15 hS hP ⟨by rw [hs], hc⟩ (by rw [hs])
set_option maxHeartbeats 4000000 in
set_option maxRecDepth 100000 in
theorem c_X_harden (l : Launch) (sz : Nat) (x : Int32) (hard : Bool) (hg : gdA (n, bt, rk, wt, cl, cc, su, sa, sc, od)) (hc : okC (n, bt, rk, wt, cl, cc, su, sa, sc, od) fr rp rc) : Met l y_X_harden w_X_harden (k2_rm 1 21) (wr_Pc D clX (wX h cI cZ n bt rk wt cl cc su sa sc od fr cg co rp rc) [(cI, .int), (cZ, .boolean)] sz [.ref (h 0), .int x, .int (bI hard)]) (wE_Q D clX (wX h cI cZ n bt rk wt cl cc su sa sc od fr cg co rp rc) (σ := stA × stC) (wXt h cI cZ) (fun _ => some (.int (sHarden n bt rk wt cl cc su sa sc od x hard).1)) (fun u => u.1 = (sHarden n bt rk wt cl cc su sa sc od x hard).2 ∧ ocX u) sz) 0 0 (va_A (wX h cI cZ n bt rk wt cl cc su sa sc od fr cg co rp rc) sz) := by
  refine wE_met (by decide) rfl (Nat.le_of_ble_eq_true rfl) rfl ?_
  intro p e s m below meth c ls hx hb hr hml hown hts hlocks hP hK hD hS hA hl
  have hts : ∀ w ∈ tbl, w.before _ s = true := fun w h => hts w (List.mem_cons_of_mem _ h)
  have hown : s.vm.findClass RX = some m.cls := hown
  have hl : lv_has ls 3 [(0, .ref (h 0)), (1, .int x), (2, .int (bI hard))] := hl
  obtain ⟨hn, hbt, hrk, hwt, hwp, hcc, hcl, hsc, hsa, hsu, ho⟩ := id hg
  have hbt3 : bt < 2 ^ 31 := Nat.lt_of_lt_of_le hbt (Nat.pow_le_pow_right (by decide) (by omega))
  refine lv_aload_n hx hb d_X_harden_0 rfl (lv_at hl 0 rfl) ?_
  refine lv_iload_n hx hb d_X_harden_1 rfl (lv_at hl 1 rfl) ?_
  refine rd_V (As := [.int x]) (rest := []) ⟨hx, hb, hml, hown, hts⟩ (c_X_isStatement l x) (cwV 1 hts g_X_65 rfl rfl rfl (by decide +kernel) ⟨Nat.le_of_ble_eq_true rfl, Nat.le_of_ble_eq_true rfl⟩) hK hP 0 rfl rfl rfl hl.1 rfl (Nat.le_of_ble_eq_true rfl) d_X_harden_2 ⟨Nat.zero_le _, Nat.zero_le _⟩ ?_
  refine lv_if_ne (tgt := 10) hx hb d_X_harden_5 (by decide) (fun c5 => ?_) (fun c5 => ?_)
  · obtain ⟨k, hk, ek⟩ := okS_of (by omega) (show okS n x = true by cases hq : okS n x; exact absurd (bI_0.mpr hq) c5; rfl)
    subst ek
    refine lv_aload_n hx hb d_X_harden_10 rfl (lv_at hl 0 rfl) ?_
    refine lv_iload_n hx hb d_X_harden_11 rfl (lv_at hl 1 rfl) ?_
    refine rd_V (As := [.int (nI k)]) (rest := []) ⟨hx, hb, hml, hown, hts⟩ (c_X_isHard l k (by omega) hbt3) (cwV 1 hts g_X_68 rfl rfl rfl (by decide +kernel) ⟨Nat.le_of_ble_eq_true rfl, Nat.le_of_ble_eq_true rfl⟩) hK hP 0 rfl rfl rfl hl.1 rfl (Nat.le_of_ble_eq_true rfl) d_X_harden_12 ⟨Nat.zero_le _, Nat.zero_le _⟩ ?_
    refine lv_iload_n hx hb d_X_harden_15 rfl (lv_at hl 2 rfl) ?_
    refine lv_icmp_ne (tgt := 21) hx hb d_X_harden_16 (by decide) (fun c16 => ?_) (fun c16 => ?_)
    · refine lv_aload_n hx hb d_X_harden_21 rfl (lv_at hl 0 rfl) ?_
      refine lv_dup hx hb d_X_harden_22 rfl ?_
      refine va_get (D := D) (ci := 0) (v := .int (nI bt)) (C := RX) (T := TX) (N := 15) hx hb hts inX hown hK hP 0 rfl rfl 1 (by decide) (hts _ f_X_13) (fun _ h9 => h9) rfl d_X_harden_23 ?_
      refine lv_iconst (v := 1) hx hb d_X_harden_26 (by decide) ?_
      refine lv_iload_n hx hb d_X_harden_27 rfl (lv_at hl 1 rfl) ?_
      refine lv_ishl hx hb d_X_harden_28 ?_
      refine rd_top (z := nI (2 ^ k)) (bx_shl k (by omega)) ?_
      refine lv_ixor hx hb d_X_harden_29 ?_
      refine rd_top (z := nI (bt ^^^ 2 ^ k)) (bx_xor _ _) ?_
      refine va_put (D := D) (ci := 0) (v := .int (nI (bt ^^^ 2 ^ k))) (ty := .int) (C := RX) (T := TX) (N := 15) hx hb hts inX tyX tyX_ok nmX hown hK hP hD hS 0 rfl rfl 1 (by decide) (hts _ f_X_13) (fun _ h9 => h9) rfl (by decide +kernel) rfl rfl (Nat.le_of_ble_eq_true rfl) d_X_harden_30 (fun H locs hP hD hS => ?_)
      have hP : va_P D clX (wX h cI cZ n (bt ^^^ 2 ^ k) rk wt cl cc su sa sc od fr cg co rp rc) H := hP
      have hD : va_D _ (wX h cI cZ n (bt ^^^ 2 ^ k) rk wt cl cc su sa sc od fr cg co rp rc) := hD
      refine lv_aload_n hx hb d_X_harden_33 rfl (lv_at hl 0 rfl) ?_
      refine lv_iconst (v := 0) hx hb d_X_harden_34 (by decide) ?_
      refine va_put (D := D) (ci := 0) (v := .int 0) (ty := .boolean) (C := RX) (T := TX) (N := 15) hx hb hts inX tyX tyX_ok nmX hown hK hP hD hS 0 rfl rfl 10 (by decide) (hts _ f_X_41) (fun _ h9 => h9) rfl (by decide +kernel) rfl rfl (Nat.le_of_ble_eq_true rfl) d_X_harden_35 (fun H locs hP hD hS => ?_)
      have hP : va_P D clX (wX h cI cZ n (bt ^^^ 2 ^ k) rk wt cl cc su sa sc od false cg co rp rc) H := hP
      have hD : va_D _ (wX h cI cZ n (bt ^^^ 2 ^ k) rk wt cl cc su sa sc od false cg co rp rc) := hD
      refine lv_iconst (v := 1) hx hb d_X_harden_38 (by decide) ?_
      have hs : (sHarden n bt rk wt cl cc su sa sc od (nI k) hard) = (1, (n, (bt ^^^ 2 ^ k), rk, wt, cl, cc, su, sa, sc, od)) := by unfold sHarden; rw [if_pos (okS_nI (by omega) hk), nI_clamp (by omega), if_neg (fun q => c16 (by rw [q]))]
      exact wE_iret ((n, (bt ^^^ 2 ^ k), rk, wt, cl, cc, su, sa, sc, od), (false, cg, co, rp, rc)) hx hb hr hlocks d_X_harden_39 hS hP ⟨by rw [hs], okC_f⟩ (by rw [hs])
    · refine lv_iconst (v := 0) hx hb d_X_harden_19 (by decide) ?_
      have hs : (sHarden n bt rk wt cl cc su sa sc od (nI k) hard) = (0, (n, bt, rk, wt, cl, cc, su, sa, sc, od)) := by unfold sHarden; rw [if_pos (okS_nI (by omega) hk), nI_clamp (by omega), if_pos (bI_inj.mp c16)]
      exact wE_iret ((n, bt, rk, wt, cl, cc, su, sa, sc, od), (fr, cg, co, rp, rc)) hx hb hr hlocks d_X_harden_20 hS hP ⟨by rw [hs], hc⟩ (by rw [hs])
  · refine lv_iconst (v := (-1)) hx hb d_X_harden_8 (by decide) ?_
    have hs : (sHarden n bt rk wt cl cc su sa sc od x hard) = ((-1), (n, bt, rk, wt, cl, cc, su, sa, sc, od)) := by unfold sHarden; rw [if_neg (by rw [bI_0.mp c5]; decide)]
    exact wE_iret ((n, bt, rk, wt, cl, cc, su, sa, sc, od), (fr, cg, co, rp, rc)) hx hb hr hlocks d_X_harden_9 hS hP ⟨by rw [hs], hc⟩ (by rw [hs])
set_option maxHeartbeats 4000000 in
set_option maxRecDepth 100000 in
theorem c_X_weight (l : Launch) (sz : Nat) (x r w : Int32) (hg : gdA (n, bt, rk, wt, cl, cc, su, sa, sc, od)) (hc : okC (n, bt, rk, wt, cl, cc, su, sa, sc, od) fr rp rc) : Met l y_X_weight w_X_weight (k2_rm 1 21) (wr_Pc D clX (wX h cI cZ n bt rk wt cl cc su sa sc od fr cg co rp rc) [(cI, .int), (cZ, .boolean)] sz [.ref (h 0), .int x, .int r, .int w]) (wE_Q D clX (wX h cI cZ n bt rk wt cl cc su sa sc od fr cg co rp rc) (σ := stA × stC) (wXt h cI cZ) (fun _ => some (.int (sWeight n bt rk wt cl cc su sa sc od x r w).1)) (fun u => u.1 = (sWeight n bt rk wt cl cc su sa sc od x r w).2 ∧ ocX u) sz) 0 0 (va_A (wX h cI cZ n bt rk wt cl cc su sa sc od fr cg co rp rc) sz) := by
  refine wE_met (by decide) rfl (Nat.le_of_ble_eq_true rfl) rfl ?_
  intro p e s m below meth c ls hx hb hr hml hown hts hlocks hP hK hD hS hA hl
  have hts : ∀ w ∈ tbl, w.before _ s = true := fun w h => hts w (List.mem_cons_of_mem _ h)
  have hown : s.vm.findClass RX = some m.cls := hown
  have hl : lv_has ls 4 [(0, .ref (h 0)), (1, .int x), (2, .int r), (3, .int w)] := hl
  obtain ⟨hn, hbt, hrk, hwt, hwp, hcc, hcl, hsc, hsa, hsu, ho⟩ := id hg
  have hbt3 : bt < 2 ^ 31 := Nat.lt_of_lt_of_le hbt (Nat.pow_le_pow_right (by decide) (by omega))
  refine lv_aload_n hx hb d_X_weight_0 rfl (lv_at hl 0 rfl) ?_
  refine lv_iload_n hx hb d_X_weight_1 rfl (lv_at hl 1 rfl) ?_
  refine rd_V (As := [.int x]) (rest := []) ⟨hx, hb, hml, hown, hts⟩ (c_X_isStatement l x) (cwV 1 hts g_X_65 rfl rfl rfl (by decide +kernel) ⟨Nat.le_of_ble_eq_true rfl, Nat.le_of_ble_eq_true rfl⟩) hK hP 0 rfl rfl rfl hl.1 rfl (Nat.le_of_ble_eq_true rfl) d_X_weight_2 ⟨Nat.zero_le _, Nat.zero_le _⟩ ?_
  refine lv_if_eq (tgt := 22) hx hb d_X_weight_5 (by decide) (fun c5 => ?_) (fun c5 => ?_)
  · refine lv_iconst (v := (-1)) hx hb d_X_weight_22 (by decide) ?_
    have hs : (sWeight n bt rk wt cl cc su sa sc od x r w) = ((-1), (n, bt, rk, wt, cl, cc, su, sa, sc, od)) := by unfold sWeight; rw [if_neg (by rw [bI_0.mp c5, Bool.false_and]; decide)]
    exact wE_iret ((n, bt, rk, wt, cl, cc, su, sa, sc, od), (fr, cg, co, rp, rc)) hx hb hr hlocks d_X_weight_23 hS hP ⟨by rw [hs], hc⟩ (by rw [hs])
  · refine lv_iload_n hx hb d_X_weight_8 rfl (lv_at hl 2 rfl) ?_
    refine rd_S (As := [.int r]) (rest := []) ⟨hx, hb, hml, hown, hts⟩ (c_X_isRank l r) (cwS 1 hts g_X_58 rfl rfl rfl (by decide +kernel) ⟨Nat.le_of_ble_eq_true rfl, Nat.le_of_ble_eq_true rfl⟩) rfl hl.1 rfl (Nat.le_of_ble_eq_true rfl) d_X_weight_9 ⟨Nat.zero_le _, Nat.zero_le _⟩ ?_
    refine lv_if_eq (tgt := 22) hx hb d_X_weight_12 (by decide) (fun c12 => ?_) (fun c12 => ?_)
    · refine lv_iconst (v := (-1)) hx hb d_X_weight_22 (by decide) ?_
      have hs : (sWeight n bt rk wt cl cc su sa sc od x r w) = ((-1), (n, bt, rk, wt, cl, cc, su, sa, sc, od)) := by unfold sWeight; rw [if_neg (by rw [bI_0.mp c12, Bool.false_and, Bool.and_false]; decide)]
      exact wE_iret ((n, bt, rk, wt, cl, cc, su, sa, sc, od), (fr, cg, co, rp, rc)) hx hb hr hlocks d_X_weight_23 hS hP ⟨by rw [hs], hc⟩ (by rw [hs])
    · refine lv_iload_n hx hb d_X_weight_15 rfl (lv_at hl 3 rfl) ?_
      refine rd_S (As := [.int w]) (rest := []) ⟨hx, hb, hml, hown, hts⟩ (c_X_isWeight l w) (cwS 1 hts g_X_62 rfl rfl rfl (by decide +kernel) ⟨Nat.le_of_ble_eq_true rfl, Nat.le_of_ble_eq_true rfl⟩) rfl hl.1 rfl (Nat.le_of_ble_eq_true rfl) d_X_weight_16 ⟨Nat.zero_le _, Nat.zero_le _⟩ ?_
      refine lv_if_ne (tgt := 24) hx hb d_X_weight_19 (by decide) (fun c19 => ?_) (fun c19 => ?_)
      · have hok : (okR r && okW w) = true := by rw [show okR r = true by cases hq : okR r; exact absurd (bI_0.mpr hq) c12; rfl, show okW w = true by cases hq : okW w; exact absurd (bI_0.mpr hq) c19; rfl]; rfl
        obtain ⟨r0, hr0, er⟩ := okR_of (show okR r = true by cases hq : okR r; exact absurd (bI_0.mpr hq) c12; rfl)
        obtain ⟨v0, hv0, hv1, ew⟩ := okW_of (show okW w = true by cases hq : okW w; exact absurd (bI_0.mpr hq) c19; rfl)
        have er2 : nI r.toNatClampNeg = r := by rw [er, nI_clamp (by omega)]
        have ew2 : nI w.toNatClampNeg = w := by rw [ew, nI_clamp (by omega)]
        obtain ⟨k, hk, ek⟩ := okS_of (by omega) (show okS n x = true by cases hq : okS n x; exact absurd (bI_0.mpr hq) c5; rfl)
        subst ek
        refine lv_aload_n hx hb d_X_weight_24 rfl (lv_at hl 0 rfl) ?_
        refine va_get (D := D) (ci := 0) (v := .ref (h 1)) (C := RX) (T := TX) (N := 15) hx hb hts inX hown hK hP 0 rfl rfl 2 (by decide) (hts _ f_X_16) (fun _ h9 => h9) rfl d_X_weight_25 ?_
        refine lv_iload_n hx hb d_X_weight_28 rfl (lv_at hl 1 rfl) ?_
        refine lv_iload_n hx hb d_X_weight_29 rfl (lv_at hl 2 rfl) ?_
        refine va_iast hx hb hK hP hD hS 1 0 rfl rfl (vp_in_nI (show k < 11 by omega) (by decide)) d_X_weight_30 (fun H locs hP hD hS => ?_)
        have hu : upd (fun j => nI (rk j)) (nI k).toNatClampNeg r = fun j => nI ((va_up rk k r.toNatClampNeg) j) := by rw [nI_clamp (by omega)]; exact upd_nI' rk k er2
        rw [hu] at hP hD
        have hP : va_P D clX (wX h cI cZ n bt (va_up rk k r.toNatClampNeg) wt cl cc su sa sc od fr cg co rp rc) H := hP
        have hD : va_D _ (wX h cI cZ n bt (va_up rk k r.toNatClampNeg) wt cl cc su sa sc od fr cg co rp rc) := hD
        refine lv_aload_n hx hb d_X_weight_31 rfl (lv_at hl 0 rfl) ?_
        refine va_get (D := D) (ci := 0) (v := .ref (h 2)) (C := RX) (T := TX) (N := 15) hx hb hts inX hown hK hP 0 rfl rfl 3 (by decide) (hts _ f_X_20) (fun _ h9 => h9) rfl d_X_weight_32 ?_
        refine lv_iload_n hx hb d_X_weight_35 rfl (lv_at hl 1 rfl) ?_
        refine lv_iload_n hx hb d_X_weight_36 rfl (lv_at hl 3 rfl) ?_
        refine va_iast hx hb hK hP hD hS 2 0 rfl rfl (vp_in_nI (show k < 11 by omega) (by decide)) d_X_weight_37 (fun H locs hP hD hS => ?_)
        have hu : upd (fun j => nI (wt j)) (nI k).toNatClampNeg w = fun j => nI ((va_up wt k w.toNatClampNeg) j) := by rw [nI_clamp (by omega)]; exact upd_nI' wt k ew2
        rw [hu] at hP hD
        have hP : va_P D clX (wX h cI cZ n bt (va_up rk k r.toNatClampNeg) (va_up wt k w.toNatClampNeg) cl cc su sa sc od fr cg co rp rc) H := hP
        have hD : va_D _ (wX h cI cZ n bt (va_up rk k r.toNatClampNeg) (va_up wt k w.toNatClampNeg) cl cc su sa sc od fr cg co rp rc) := hD
        refine lv_aload_n hx hb d_X_weight_38 rfl (lv_at hl 0 rfl) ?_
        refine lv_iconst (v := 0) hx hb d_X_weight_39 (by decide) ?_
        refine va_put (D := D) (ci := 0) (v := .int 0) (ty := .boolean) (C := RX) (T := TX) (N := 15) hx hb hts inX tyX tyX_ok nmX hown hK hP hD hS 0 rfl rfl 10 (by decide) (hts _ f_X_41) (fun _ h9 => h9) rfl (by decide +kernel) rfl rfl (Nat.le_of_ble_eq_true rfl) d_X_weight_40 (fun H locs hP hD hS => ?_)
        have hP : va_P D clX (wX h cI cZ n bt (va_up rk k r.toNatClampNeg) (va_up wt k w.toNatClampNeg) cl cc su sa sc od false cg co rp rc) H := hP
        have hD : va_D _ (wX h cI cZ n bt (va_up rk k r.toNatClampNeg) (va_up wt k w.toNatClampNeg) cl cc su sa sc od false cg co rp rc) := hD
        refine lv_iconst (v := 1) hx hb d_X_weight_43 (by decide) ?_
        have hs : (sWeight n bt rk wt cl cc su sa sc od (nI k) r w) = (1, (n, bt, va_up rk k r.toNatClampNeg, va_up wt k w.toNatClampNeg, cl, cc, su, sa, sc, od)) := by unfold sWeight; rw [if_pos (by rw [okS_nI (by omega) hk, hok]; rfl), nI_clamp (show k < 2 ^ 31 by omega)]
        exact wE_iret ((n, bt, va_up rk k r.toNatClampNeg, va_up wt k w.toNatClampNeg, cl, cc, su, sa, sc, od), (false, cg, co, rp, rc)) hx hb hr hlocks d_X_weight_44 hS hP ⟨by rw [hs], okC_f⟩ (by rw [hs])
      · refine lv_iconst (v := (-1)) hx hb d_X_weight_22 (by decide) ?_
        have hs : (sWeight n bt rk wt cl cc su sa sc od x r w) = ((-1), (n, bt, rk, wt, cl, cc, su, sa, sc, od)) := by unfold sWeight; rw [if_neg (by rw [bI_0.mp c19, Bool.and_false, Bool.and_false]; decide)]
        exact wE_iret ((n, bt, rk, wt, cl, cc, su, sa, sc, od), (fr, cg, co, rp, rc)) hx hb hr hlocks d_X_weight_23 hS hP ⟨by rw [hs], hc⟩ (by rw [hs])
set_option maxHeartbeats 4000000 in
set_option maxRecDepth 100000 in
theorem c_X_clash (l : Launch) (sz : Nat) (x : Int32) (hg : gdA (n, bt, rk, wt, cl, cc, su, sa, sc, od)) (hc : okC (n, bt, rk, wt, cl, cc, su, sa, sc, od) fr rp rc) : Met l y_X_clash w_X_clash (k2_rm 0 0) (wr_Pc D clX (wX h cI cZ n bt rk wt cl cc su sa sc od fr cg co rp rc) [(cI, .int), (cZ, .boolean)] sz [.ref (h 0), .int x]) (wE_Q D clX (wX h cI cZ n bt rk wt cl cc su sa sc od fr cg co rp rc) (σ := stA × stC) (wXt h cI cZ) (fun _ => some (.int (sClash n bt rk wt cl cc su sa sc od x).1)) (fun u => u.1 = (sClash n bt rk wt cl cc su sa sc od x).2 ∧ ocX u) sz) 0 0 (va_A (wX h cI cZ n bt rk wt cl cc su sa sc od fr cg co rp rc) sz) := by
  refine wE_met (by decide) rfl (Nat.le_of_ble_eq_true rfl) rfl ?_
  intro p e s m below meth c ls hx hb hr hml hown hts hlocks hP hK hD hS hA hl
  have hts : ∀ w ∈ tbl, w.before _ s = true := fun w h => hts w (List.mem_cons_of_mem _ h)
  have hown : s.vm.findClass RX = some m.cls := hown
  have hl : lv_has ls 2 [(0, .ref (h 0)), (1, .int x)] := hl
  obtain ⟨hn, hbt, hrk, hwt, hwp, hcc, hcl, hsc, hsa, hsu, ho⟩ := id hg
  have hbt3 : bt < 2 ^ 31 := Nat.lt_of_lt_of_le hbt (Nat.pow_le_pow_right (by decide) (by omega))
  refine lv_aload_n hx hb d_X_clash_0 rfl (lv_at hl 0 rfl) ?_
  refine va_get (D := D) (ci := 0) (v := .int (nI cc)) (C := RX) (T := TX) (N := 15) hx hb hts inX hown hK hP 0 rfl rfl 5 (by decide) (hts _ f_X_26) (fun _ h9 => h9) rfl d_X_clash_1 ?_
  refine lv_bipush (v := 40) hx hb d_X_clash_4 (by decide) ?_
  refine lv_icmp_lt (tgt := 12) hx hb d_X_clash_6 (by decide) (fun c6 => ?_) (fun c6 => ?_)
  · have hc4 : cc < 40 := (nI_ltI (b := 40) (by omega) (by decide)).mp c6
    refine lv_aload_n hx hb d_X_clash_12 rfl (lv_at hl 0 rfl) ?_
    refine va_get (D := D) (ci := 0) (v := .ref (h 3)) (C := RX) (T := TX) (N := 15) hx hb hts inX hown hK hP 0 rfl rfl 4 (by decide) (hts _ f_X_23) (fun _ h9 => h9) rfl d_X_clash_13 ?_
    refine lv_aload_n hx hb d_X_clash_16 rfl (lv_at hl 0 rfl) ?_
    refine va_get (D := D) (ci := 0) (v := .int (nI cc)) (C := RX) (T := TX) (N := 15) hx hb hts inX hown hK hP 0 rfl rfl 5 (by decide) (hts _ f_X_26) (fun _ h9 => h9) rfl d_X_clash_17 ?_
    refine lv_iload_n hx hb d_X_clash_20 rfl (lv_at hl 1 rfl) ?_
    refine lv_sipush (v := 2047) hx hb d_X_clash_21 (by decide) ?_
    refine lv_iand hx hb d_X_clash_24 ?_
    refine rd_top (z := nI (x.toBitVec.toNat % 2 ^ 11)) (msk x) ?_
    refine va_iast hx hb hK hP hD hS 3 0 rfl rfl (vp_in_nI hc4 (by decide)) d_X_clash_25 (fun H locs hP hD hS => ?_)
    have hu : upd (fun j => nI (cl j)) (nI cc).toNatClampNeg (nI (x.toBitVec.toNat % 2 ^ 11)) = fun j => nI ((va_up cl cc (x.toBitVec.toNat % 2 ^ 11)) j) := by rw [nI_clamp (by omega)]; exact upd_nI cl cc _
    rw [hu] at hP hD
    have hP : va_P D clX (wX h cI cZ n bt rk wt (va_up cl cc (x.toBitVec.toNat % 2 ^ 11)) cc su sa sc od fr cg co rp rc) H := hP
    have hD : va_D _ (wX h cI cZ n bt rk wt (va_up cl cc (x.toBitVec.toNat % 2 ^ 11)) cc su sa sc od fr cg co rp rc) := hD
    refine lv_aload_n hx hb d_X_clash_26 rfl (lv_at hl 0 rfl) ?_
    refine lv_dup hx hb d_X_clash_27 rfl ?_
    refine va_get (D := D) (ci := 0) (v := .int (nI cc)) (C := RX) (T := TX) (N := 15) hx hb hts inX hown hK hP 0 rfl rfl 5 (by decide) (hts _ f_X_26) (fun _ h9 => h9) rfl d_X_clash_28 ?_
    refine lv_iconst (v := 1) hx hb d_X_clash_31 (by decide) ?_
    refine lv_iadd hx hb d_X_clash_32 ?_
    refine rd_top (z := nI (cc + 1)) (nI_1 cc) ?_
    refine va_put (D := D) (ci := 0) (v := .int (nI (cc + 1))) (ty := .int) (C := RX) (T := TX) (N := 15) hx hb hts inX tyX tyX_ok nmX hown hK hP hD hS 0 rfl rfl 5 (by decide) (hts _ f_X_26) (fun _ h9 => h9) rfl (by decide +kernel) rfl rfl (Nat.le_of_ble_eq_true rfl) d_X_clash_33 (fun H locs hP hD hS => ?_)
    have hP : va_P D clX (wX h cI cZ n bt rk wt (va_up cl cc (x.toBitVec.toNat % 2 ^ 11)) (cc + 1) su sa sc od fr cg co rp rc) H := hP
    have hD : va_D _ (wX h cI cZ n bt rk wt (va_up cl cc (x.toBitVec.toNat % 2 ^ 11)) (cc + 1) su sa sc od fr cg co rp rc) := hD
    refine lv_aload_n hx hb d_X_clash_36 rfl (lv_at hl 0 rfl) ?_
    refine lv_iconst (v := 0) hx hb d_X_clash_37 (by decide) ?_
    refine va_put (D := D) (ci := 0) (v := .int 0) (ty := .boolean) (C := RX) (T := TX) (N := 15) hx hb hts inX tyX tyX_ok nmX hown hK hP hD hS 0 rfl rfl 10 (by decide) (hts _ f_X_41) (fun _ h9 => h9) rfl (by decide +kernel) rfl rfl (Nat.le_of_ble_eq_true rfl) d_X_clash_38 (fun H locs hP hD hS => ?_)
    have hP : va_P D clX (wX h cI cZ n bt rk wt (va_up cl cc (x.toBitVec.toNat % 2 ^ 11)) (cc + 1) su sa sc od false cg co rp rc) H := hP
    have hD : va_D _ (wX h cI cZ n bt rk wt (va_up cl cc (x.toBitVec.toNat % 2 ^ 11)) (cc + 1) su sa sc od false cg co rp rc) := hD
    refine lv_aload_n hx hb d_X_clash_41 rfl (lv_at hl 0 rfl) ?_
    refine va_get (D := D) (ci := 0) (v := .int (nI (cc + 1))) (C := RX) (T := TX) (N := 15) hx hb hts inX hown hK hP 0 rfl rfl 5 (by decide) (hts _ f_X_26) (fun _ h9 => h9) rfl d_X_clash_42 ?_
    have hs : (sClash n bt rk wt cl cc su sa sc od x) = ((nI (cc + 1)), (n, bt, rk, wt, va_up cl cc (x.toBitVec.toNat % 2 ^ 11), (cc + 1), su, sa, sc, od)) := by unfold sClash; rw [if_neg (show ¬ cc = 40 by omega)]
    exact wE_iret ((n, bt, rk, wt, va_up cl cc (x.toBitVec.toNat % 2 ^ 11), (cc + 1), su, sa, sc, od), (false, cg, co, rp, rc)) hx hb hr hlocks d_X_clash_45 hS hP ⟨by rw [hs], okC_f⟩ (by rw [hs])
  · have hc4 : cc = 40 := by rcases Nat.lt_or_ge cc 40 with q | q; exact absurd ((nI_ltI (b := 40) (by omega) (by decide)).mpr q) c6; omega
    refine lv_bipush (v := (-3)) hx hb d_X_clash_9 (by decide) ?_
    have hs : (sClash n bt rk wt cl cc su sa sc od x) = ((-3), (n, bt, rk, wt, cl, cc, su, sa, sc, od)) := by unfold sClash; rw [if_pos hc4]
    exact wE_iret ((n, bt, rk, wt, cl, cc, su, sa, sc, od), (fr, cg, co, rp, rc)) hx hb hr hlocks d_X_clash_11 hS hP ⟨by rw [hs], hc⟩ (by rw [hs])
set_option maxHeartbeats 4000000 in
set_option maxRecDepth 100000 in
theorem c_X_settle (l : Launch) (sz : Nat)  (hg : gdA (n, bt, rk, wt, cl, cc, su, sa, sc, od)) (hc : okC (n, bt, rk, wt, cl, cc, su, sa, sc, od) fr rp rc) : Met l y_X_settle w_X_settle (k2_rm 0 0) (wr_Pc D clX (wX h cI cZ n bt rk wt cl cc su sa sc od fr cg co rp rc) [(cI, .int), (cZ, .boolean)] sz [.ref (h 0)]) (wE_Q D clX (wX h cI cZ n bt rk wt cl cc su sa sc od fr cg co rp rc) (σ := stA × stC) (wXt h cI cZ) (fun _ => some (.int (sSettle n bt rk wt cl cc su sa sc od).1)) (fun u => u.1 = (sSettle n bt rk wt cl cc su sa sc od).2 ∧ ocX u) sz) 0 0 (va_A (wX h cI cZ n bt rk wt cl cc su sa sc od fr cg co rp rc) sz) := by
  refine wE_met (by decide) rfl (Nat.le_of_ble_eq_true rfl) rfl ?_
  intro p e s m below meth c ls hx hb hr hml hown hts hlocks hP hK hD hS hA hl
  have hts : ∀ w ∈ tbl, w.before _ s = true := fun w h => hts w (List.mem_cons_of_mem _ h)
  have hown : s.vm.findClass RX = some m.cls := hown
  have hl : lv_has ls 1 [(0, .ref (h 0))] := hl
  obtain ⟨hn, hbt, hrk, hwt, hwp, hcc, hcl, hsc, hsa, hsu, ho⟩ := id hg
  have hbt3 : bt < 2 ^ 31 := Nat.lt_of_lt_of_le hbt (Nat.pow_le_pow_right (by decide) (by omega))
  refine lv_aload_n hx hb d_X_settle_0 rfl (lv_at hl 0 rfl) ?_
  refine va_get (D := D) (ci := 0) (v := .int (nI cc)) (C := RX) (T := TX) (N := 15) hx hb hts inX hown hK hP 0 rfl rfl 5 (by decide) (hts _ f_X_26) (fun _ h9 => h9) rfl d_X_settle_1 ?_
  refine lv_if_gt (tgt := 10) hx hb d_X_settle_4 (by decide) (fun c4 => ?_) (fun c4 => ?_)
  · have hc4 : 0 < cc := by rcases Nat.eq_zero_or_pos cc with q | q; (rw [q] at c4; exact absurd c4 (by decide)); exact q
    refine lv_aload_n hx hb d_X_settle_10 rfl (lv_at hl 0 rfl) ?_
    refine lv_dup hx hb d_X_settle_11 rfl ?_
    refine va_get (D := D) (ci := 0) (v := .int (nI cc)) (C := RX) (T := TX) (N := 15) hx hb hts inX hown hK hP 0 rfl rfl 5 (by decide) (hts _ f_X_26) (fun _ h9 => h9) rfl d_X_settle_12 ?_
    refine lv_iconst (v := 1) hx hb d_X_settle_15 (by decide) ?_
    refine lv_isub hx hb d_X_settle_16 ?_
    refine rd_top (z := nI (cc - 1)) (bx_dec hc4) ?_
    refine va_put (D := D) (ci := 0) (v := .int (nI (cc - 1))) (ty := .int) (C := RX) (T := TX) (N := 15) hx hb hts inX tyX tyX_ok nmX hown hK hP hD hS 0 rfl rfl 5 (by decide) (hts _ f_X_26) (fun _ h9 => h9) rfl (by decide +kernel) rfl rfl (Nat.le_of_ble_eq_true rfl) d_X_settle_17 (fun H locs hP hD hS => ?_)
    have hP : va_P D clX (wX h cI cZ n bt rk wt cl (cc - 1) su sa sc od fr cg co rp rc) H := hP
    have hD : va_D _ (wX h cI cZ n bt rk wt cl (cc - 1) su sa sc od fr cg co rp rc) := hD
    refine lv_aload_n hx hb d_X_settle_20 rfl (lv_at hl 0 rfl) ?_
    refine lv_iconst (v := 0) hx hb d_X_settle_21 (by decide) ?_
    refine va_put (D := D) (ci := 0) (v := .int 0) (ty := .boolean) (C := RX) (T := TX) (N := 15) hx hb hts inX tyX tyX_ok nmX hown hK hP hD hS 0 rfl rfl 10 (by decide) (hts _ f_X_41) (fun _ h9 => h9) rfl (by decide +kernel) rfl rfl (Nat.le_of_ble_eq_true rfl) d_X_settle_22 (fun H locs hP hD hS => ?_)
    have hP : va_P D clX (wX h cI cZ n bt rk wt cl (cc - 1) su sa sc od false cg co rp rc) H := hP
    have hD : va_D _ (wX h cI cZ n bt rk wt cl (cc - 1) su sa sc od false cg co rp rc) := hD
    refine lv_aload_n hx hb d_X_settle_25 rfl (lv_at hl 0 rfl) ?_
    refine va_get (D := D) (ci := 0) (v := .int (nI (cc - 1))) (C := RX) (T := TX) (N := 15) hx hb hts inX hown hK hP 0 rfl rfl 5 (by decide) (hts _ f_X_26) (fun _ h9 => h9) rfl d_X_settle_26 ?_
    have hs : (sSettle n bt rk wt cl cc su sa sc od) = ((nI (cc - 1)), (n, bt, rk, wt, cl, (cc - 1), su, sa, sc, od)) := by unfold sSettle; rw [if_neg (show ¬ cc = 0 by omega)]
    exact wE_iret ((n, bt, rk, wt, cl, (cc - 1), su, sa, sc, od), (false, cg, co, rp, rc)) hx hb hr hlocks d_X_settle_29 hS hP ⟨by rw [hs], okC_f⟩ (by rw [hs])
  · have hc4 : cc = 0 := by rcases Nat.eq_zero_or_pos cc with q | q; exact q; exact absurd ((nI_ltI (a := 0) (by decide) (by omega)).mpr q) c4
    refine lv_bipush (v := (-2)) hx hb d_X_settle_7 (by decide) ?_
    have hs : (sSettle n bt rk wt cl cc su sa sc od) = ((-2), (n, bt, rk, wt, cl, cc, su, sa, sc, od)) := by unfold sSettle; rw [if_pos hc4]
    exact wE_iret ((n, bt, rk, wt, cl, cc, su, sa, sc, od), (fr, cg, co, rp, rc)) hx hb hr hlocks d_X_settle_9 hS hP ⟨by rw [hs], hc⟩ (by rw [hs])
set_option maxHeartbeats 4000000 in
set_option maxRecDepth 100000 in
theorem c_X_support (l : Launch) (sz : Nat) (x y : Int32) (hg : gdA (n, bt, rk, wt, cl, cc, su, sa, sc, od)) (hc : okC (n, bt, rk, wt, cl, cc, su, sa, sc, od) fr rp rc) : Met l y_X_support w_X_support (k2_rm 1 23) (wr_Pc D clX (wX h cI cZ n bt rk wt cl cc su sa sc od fr cg co rp rc) [(cI, .int), (cZ, .boolean)] sz [.ref (h 0), .int x, .int y]) (wE_Q D clX (wX h cI cZ n bt rk wt cl cc su sa sc od fr cg co rp rc) (σ := stA × stC) (wXt h cI cZ) (fun _ => some (.int (sSupport n bt rk wt cl cc su sa sc od x y).1)) (fun u => u.1 = (sSupport n bt rk wt cl cc su sa sc od x y).2 ∧ ocX u) sz) 0 0 (va_A (wX h cI cZ n bt rk wt cl cc su sa sc od fr cg co rp rc) sz) := by
  refine wE_met (by decide) rfl (Nat.le_of_ble_eq_true rfl) rfl ?_
  intro p e s m below meth c ls hx hb hr hml hown hts hlocks hP hK hD hS hA hl
  have hts : ∀ w ∈ tbl, w.before _ s = true := fun w h => hts w (List.mem_cons_of_mem _ h)
  have hown : s.vm.findClass RX = some m.cls := hown
  have hl : lv_has ls 3 [(0, .ref (h 0)), (1, .int x), (2, .int y)] := hl
  obtain ⟨hn, hbt, hrk, hwt, hwp, hcc, hcl, hsc, hsa, hsu, ho⟩ := id hg
  have hbt3 : bt < 2 ^ 31 := Nat.lt_of_lt_of_le hbt (Nat.pow_le_pow_right (by decide) (by omega))
  refine lv_iload_n hx hb d_X_support_0 rfl (lv_at hl 1 rfl) ?_
  refine rd_S (As := [.int x]) (rest := []) ⟨hx, hb, hml, hown, hts⟩ (c_X_isAnswer l x) (cwS 1 hts g_X_71 rfl rfl rfl (by decide +kernel) ⟨Nat.le_of_ble_eq_true rfl, Nat.le_of_ble_eq_true rfl⟩) rfl hl.1 rfl (Nat.le_of_ble_eq_true rfl) d_X_support_1 ⟨Nat.zero_le _, Nat.zero_le _⟩ ?_
  refine lv_if_ne (tgt := 9) hx hb d_X_support_4 (by decide) (fun c4 => ?_) (fun c4 => ?_)
  · obtain ⟨k, hk, ek⟩ := okA_of (show okA x = true by cases hq : okA x; exact absurd (bI_0.mpr hq) c4; rfl)
    subst ek
    refine lv_aload_n hx hb d_X_support_9 rfl (lv_at hl 0 rfl) ?_
    refine va_get (D := D) (ci := 0) (v := .int (nI sc)) (C := RX) (T := TX) (N := 15) hx hb hts inX hown hK hP 0 rfl rfl 8 (by decide) (hts _ f_X_35) (fun _ h9 => h9) rfl d_X_support_10 ?_
    refine lv_bipush (v := 20) hx hb d_X_support_13 (by decide) ?_
    refine lv_icmp_lt (tgt := 21) hx hb d_X_support_15 (by decide) (fun c15 => ?_) (fun c15 => ?_)
    · have hc4 : sc < 20 := (nI_ltI (b := 20) (by omega) (by decide)).mp c15
      refine lv_aload_n hx hb d_X_support_21 rfl (lv_at hl 0 rfl) ?_
      refine va_get (D := D) (ci := 0) (v := .ref (h 4)) (C := RX) (T := TX) (N := 15) hx hb hts inX hown hK hP 0 rfl rfl 6 (by decide) (hts _ f_X_29) (fun _ h9 => h9) rfl d_X_support_22 ?_
      refine lv_aload_n hx hb d_X_support_25 rfl (lv_at hl 0 rfl) ?_
      refine va_get (D := D) (ci := 0) (v := .int (nI sc)) (C := RX) (T := TX) (N := 15) hx hb hts inX hown hK hP 0 rfl rfl 8 (by decide) (hts _ f_X_35) (fun _ h9 => h9) rfl d_X_support_26 ?_
      refine lv_iload_n hx hb d_X_support_29 rfl (lv_at hl 2 rfl) ?_
      refine lv_sipush (v := 2047) hx hb d_X_support_30 (by decide) ?_
      refine lv_iand hx hb d_X_support_33 ?_
      refine rd_top (z := nI (y.toBitVec.toNat % 2 ^ 11)) (msk y) ?_
      refine va_iast hx hb hK hP hD hS 4 0 rfl rfl (vp_in_nI hc4 (by decide)) d_X_support_34 (fun H locs hP hD hS => ?_)
      have hu : upd (fun j => nI (su j)) (nI sc).toNatClampNeg (nI (y.toBitVec.toNat % 2 ^ 11)) = fun j => nI ((va_up su sc (y.toBitVec.toNat % 2 ^ 11)) j) := by rw [nI_clamp (by omega)]; exact upd_nI su sc _
      rw [hu] at hP hD
      have hP : va_P D clX (wX h cI cZ n bt rk wt cl cc (va_up su sc (y.toBitVec.toNat % 2 ^ 11)) sa sc od fr cg co rp rc) H := hP
      have hD : va_D _ (wX h cI cZ n bt rk wt cl cc (va_up su sc (y.toBitVec.toNat % 2 ^ 11)) sa sc od fr cg co rp rc) := hD
      refine lv_aload_n hx hb d_X_support_35 rfl (lv_at hl 0 rfl) ?_
      refine va_get (D := D) (ci := 0) (v := .ref (h 5)) (C := RX) (T := TX) (N := 15) hx hb hts inX hown hK hP 0 rfl rfl 7 (by decide) (hts _ f_X_32) (fun _ h9 => h9) rfl d_X_support_36 ?_
      refine lv_aload_n hx hb d_X_support_39 rfl (lv_at hl 0 rfl) ?_
      refine va_get (D := D) (ci := 0) (v := .int (nI sc)) (C := RX) (T := TX) (N := 15) hx hb hts inX hown hK hP 0 rfl rfl 8 (by decide) (hts _ f_X_35) (fun _ h9 => h9) rfl d_X_support_40 ?_
      refine lv_iload_n hx hb d_X_support_43 rfl (lv_at hl 1 rfl) ?_
      refine va_iast hx hb hK hP hD hS 5 0 rfl rfl (vp_in_nI hc4 (by decide)) d_X_support_44 (fun H locs hP hD hS => ?_)
      have hu : upd (fun j => nI (sa j)) (nI sc).toNatClampNeg (nI k) = fun j => nI ((va_up sa sc k) j) := by rw [nI_clamp (by omega)]; exact upd_nI sa sc k
      rw [hu] at hP hD
      have hP : va_P D clX (wX h cI cZ n bt rk wt cl cc (va_up su sc (y.toBitVec.toNat % 2 ^ 11)) (va_up sa sc k) sc od fr cg co rp rc) H := hP
      have hD : va_D _ (wX h cI cZ n bt rk wt cl cc (va_up su sc (y.toBitVec.toNat % 2 ^ 11)) (va_up sa sc k) sc od fr cg co rp rc) := hD
      refine lv_aload_n hx hb d_X_support_45 rfl (lv_at hl 0 rfl) ?_
      refine lv_dup hx hb d_X_support_46 rfl ?_
      refine va_get (D := D) (ci := 0) (v := .int (nI sc)) (C := RX) (T := TX) (N := 15) hx hb hts inX hown hK hP 0 rfl rfl 8 (by decide) (hts _ f_X_35) (fun _ h9 => h9) rfl d_X_support_47 ?_
      refine lv_iconst (v := 1) hx hb d_X_support_50 (by decide) ?_
      refine lv_iadd hx hb d_X_support_51 ?_
      refine rd_top (z := nI (sc + 1)) (nI_1 sc) ?_
      refine va_put (D := D) (ci := 0) (v := .int (nI (sc + 1))) (ty := .int) (C := RX) (T := TX) (N := 15) hx hb hts inX tyX tyX_ok nmX hown hK hP hD hS 0 rfl rfl 8 (by decide) (hts _ f_X_35) (fun _ h9 => h9) rfl (by decide +kernel) rfl rfl (Nat.le_of_ble_eq_true rfl) d_X_support_52 (fun H locs hP hD hS => ?_)
      have hP : va_P D clX (wX h cI cZ n bt rk wt cl cc (va_up su sc (y.toBitVec.toNat % 2 ^ 11)) (va_up sa sc k) (sc + 1) od fr cg co rp rc) H := hP
      have hD : va_D _ (wX h cI cZ n bt rk wt cl cc (va_up su sc (y.toBitVec.toNat % 2 ^ 11)) (va_up sa sc k) (sc + 1) od fr cg co rp rc) := hD
      refine lv_aload_n hx hb d_X_support_55 rfl (lv_at hl 0 rfl) ?_
      refine lv_iload_n hx hb d_X_support_56 rfl (lv_at hl 1 rfl) ?_
      refine rd_V (As := [.int (nI k)]) (rest := []) ⟨hx, hb, hml, hown, hts⟩ (c_X_supportsOf l k (by omega) (show sc + 1 ≤ 20 by omega) (va_up_lt hsa hk)) (cwV 1 hts g_X_74 rfl rfl rfl (by decide +kernel) ⟨Nat.le_of_ble_eq_true rfl, Nat.le_of_ble_eq_true rfl⟩) hK hP 0 rfl rfl rfl hl.1 rfl (Nat.le_of_ble_eq_true rfl) d_X_support_57 ⟨Nat.zero_le _, Nat.zero_le _⟩ ?_
      have hs : (sSupport n bt rk wt cl cc su sa sc od (nI k) y) = ((nI (cntB (fun j => decide (va_up sa sc k j = k)) (sc + 1))), (n, bt, rk, wt, cl, cc, va_up su sc (y.toBitVec.toNat % 2 ^ 11), va_up sa sc k, (sc + 1), od)) := by unfold sSupport; rw [if_pos (show okA (nI k) = true from okS_nI (n := 8) (by decide) hk), if_neg (show ¬ sc = 20 by omega), nI_clamp (show k < 2 ^ 31 by omega)]
      exact wE_iret ((n, bt, rk, wt, cl, cc, va_up su sc (y.toBitVec.toNat % 2 ^ 11), va_up sa sc k, (sc + 1), od), (fr, cg, co, rp, rc)) hx hb hr hlocks d_X_support_60 hS hP ⟨by rw [hs], hc⟩ (by rw [hs])
    · have hc4 : sc = 20 := by rcases Nat.lt_or_ge sc 20 with q | q; exact absurd ((nI_ltI (b := 20) (by omega) (by decide)).mpr q) c15; omega
      refine lv_bipush (v := (-3)) hx hb d_X_support_18 (by decide) ?_
      have hs : (sSupport n bt rk wt cl cc su sa sc od (nI k) y) = ((-3), (n, bt, rk, wt, cl, cc, su, sa, sc, od)) := by unfold sSupport; rw [if_pos (show okA (nI k) = true from okS_nI (n := 8) (by decide) hk), if_pos hc4]
      exact wE_iret ((n, bt, rk, wt, cl, cc, su, sa, sc, od), (fr, cg, co, rp, rc)) hx hb hr hlocks d_X_support_20 hS hP ⟨by rw [hs], hc⟩ (by rw [hs])
  · refine lv_iconst (v := (-1)) hx hb d_X_support_7 (by decide) ?_
    have hs : (sSupport n bt rk wt cl cc su sa sc od x y) = ((-1), (n, bt, rk, wt, cl, cc, su, sa, sc, od)) := by unfold sSupport; rw [if_neg (by rw [bI_0.mp c4]; decide)]
    exact wE_iret ((n, bt, rk, wt, cl, cc, su, sa, sc, od), (fr, cg, co, rp, rc)) hx hb hr hlocks d_X_support_8 hS hP ⟨by rw [hs], hc⟩ (by rw [hs])
set_option maxHeartbeats 4000000 in
set_option maxRecDepth 100000 in
theorem c_X_order (l : Launch) (sz : Nat) (x : Int32) (hg : gdA (n, bt, rk, wt, cl, cc, su, sa, sc, od)) (hc : okC (n, bt, rk, wt, cl, cc, su, sa, sc, od) fr rp rc) : Met l y_X_order w_X_order (k2_rm 1 20) (wr_Pc D clX (wX h cI cZ n bt rk wt cl cc su sa sc od fr cg co rp rc) [(cI, .int), (cZ, .boolean)] sz [.ref (h 0), .int x]) (wE_Q D clX (wX h cI cZ n bt rk wt cl cc su sa sc od fr cg co rp rc) (σ := stA × stC) (wXt h cI cZ) (fun _ => some (.int (sOrder n bt rk wt cl cc su sa sc od x).1)) (fun u => u.1 = (sOrder n bt rk wt cl cc su sa sc od x).2 ∧ ocX u) sz) 0 0 (va_A (wX h cI cZ n bt rk wt cl cc su sa sc od fr cg co rp rc) sz) := by
  refine wE_met (by decide) rfl (Nat.le_of_ble_eq_true rfl) rfl ?_
  intro p e s m below meth c ls hx hb hr hml hown hts hlocks hP hK hD hS hA hl
  have hts : ∀ w ∈ tbl, w.before _ s = true := fun w h => hts w (List.mem_cons_of_mem _ h)
  have hown : s.vm.findClass RX = some m.cls := hown
  have hl : lv_has ls 2 [(0, .ref (h 0)), (1, .int x)] := hl
  obtain ⟨hn, hbt, hrk, hwt, hwp, hcc, hcl, hsc, hsa, hsu, ho⟩ := id hg
  have hbt3 : bt < 2 ^ 31 := Nat.lt_of_lt_of_le hbt (Nat.pow_le_pow_right (by decide) (by omega))
  refine lv_iload_n hx hb d_X_order_0 rfl (lv_at hl 1 rfl) ?_
  refine rd_S (As := [.int x]) (rest := []) ⟨hx, hb, hml, hown, hts⟩ (c_X_isOrder l x) (cwS 1 hts g_X_78 rfl rfl rfl (by decide +kernel) ⟨Nat.le_of_ble_eq_true rfl, Nat.le_of_ble_eq_true rfl⟩) rfl hl.1 rfl (Nat.le_of_ble_eq_true rfl) d_X_order_1 ⟨Nat.zero_le _, Nat.zero_le _⟩ ?_
  refine lv_if_ne (tgt := 9) hx hb d_X_order_4 (by decide) (fun c4 => ?_) (fun c4 => ?_)
  · have hok := (show okO x = true by cases hq : okO x; exact absurd (bI_0.mpr hq) c4; rfl)
    obtain ⟨k, hk, ek⟩ := okO_of (show okO x = true by cases hq : okO x; exact absurd (bI_0.mpr hq) c4; rfl)
    subst ek
    refine lv_aload_n hx hb d_X_order_9 rfl (lv_at hl 0 rfl) ?_
    refine lv_iload_n hx hb d_X_order_10 rfl (lv_at hl 1 rfl) ?_
    refine va_put (D := D) (ci := 0) (v := .int (nI k)) (ty := .int) (C := RX) (T := TX) (N := 15) hx hb hts inX tyX tyX_ok nmX hown hK hP hD hS 0 rfl rfl 9 (by decide) (hts _ f_X_38) (fun _ h9 => h9) rfl (by decide +kernel) rfl rfl (Nat.le_of_ble_eq_true rfl) d_X_order_11 (fun H locs hP hD hS => ?_)
    have hP : va_P D clX (wX h cI cZ n bt rk wt cl cc su sa sc k fr cg co rp rc) H := hP
    have hD : va_D _ (wX h cI cZ n bt rk wt cl cc su sa sc k fr cg co rp rc) := hD
    refine lv_aload_n hx hb d_X_order_14 rfl (lv_at hl 0 rfl) ?_
    refine lv_iconst (v := 0) hx hb d_X_order_15 (by decide) ?_
    refine va_put (D := D) (ci := 0) (v := .int 0) (ty := .boolean) (C := RX) (T := TX) (N := 15) hx hb hts inX tyX tyX_ok nmX hown hK hP hD hS 0 rfl rfl 10 (by decide) (hts _ f_X_41) (fun _ h9 => h9) rfl (by decide +kernel) rfl rfl (Nat.le_of_ble_eq_true rfl) d_X_order_16 (fun H locs hP hD hS => ?_)
    have hP : va_P D clX (wX h cI cZ n bt rk wt cl cc su sa sc k false cg co rp rc) H := hP
    have hD : va_D _ (wX h cI cZ n bt rk wt cl cc su sa sc k false cg co rp rc) := hD
    refine lv_iconst (v := 1) hx hb d_X_order_19 (by decide) ?_
    have hs : (sOrder n bt rk wt cl cc su sa sc od (nI k)) = (1, (n, bt, rk, wt, cl, cc, su, sa, sc, k)) := by unfold sOrder; rw [if_pos hok, nI_clamp (show k < 2 ^ 31 by omega)]
    exact wE_iret ((n, bt, rk, wt, cl, cc, su, sa, sc, k), (false, cg, co, rp, rc)) hx hb hr hlocks d_X_order_20 hS hP ⟨by rw [hs], okC_f⟩ (by rw [hs])
  · refine lv_iconst (v := (-1)) hx hb d_X_order_7 (by decide) ?_
    have hs : (sOrder n bt rk wt cl cc su sa sc od x) = ((-1), (n, bt, rk, wt, cl, cc, su, sa, sc, od)) := by unfold sOrder; rw [if_neg (by rw [bI_0.mp c4]; decide)]
    exact wE_iret ((n, bt, rk, wt, cl, cc, su, sa, sc, od), (fr, cg, co, rp, rc)) hx hb hr hlocks d_X_order_8 hS hP ⟨by rw [hs], hc⟩ (by rw [hs])
end MX8

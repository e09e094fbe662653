section MY4
variable {D : va_G} {h : Nat → Nat} {cI cZ : ClassId} {n bt : Nat} {rk wt cl : Nat → Nat} {cc : Nat} {ow su : Nat → Nat} {sc od : Nat} {kn : Bool} {ke : Nat → Bool} {rp : Nat → Nat} {rc : Nat}
set_option maxHeartbeats 4000000 in
set_option maxRecDepth 100000 in
theorem c_Y_fact (l : Launch) (sz : Nat) (hard : Bool) (r w : Int32) (hg : gdA (n, bt, rk, wt, cl, cc, su, ow, sc, od)) (hc : okC (n, bt, rk, wt, cl, cc, su, ow, sc, od) kn rp rc) : Met l y_Y_fact w_Y_fact (k2_rm 1 21) (wr_Pc D clX (wY h cI cZ n bt.testBit rk wt cl cc ow su sc od kn ke rp rc) [(cI, .int), (cZ, .boolean)] sz [.ref (h 0), .int (bI hard), .int r, .int w]) (wE_Q D clX (wY h cI cZ n bt.testBit rk wt cl cc ow su sc od kn ke rp rc) (σ := stA × stD) (wYt h cI cZ) (fun _ => some (.int (sFact n bt rk wt cl cc su ow sc od hard r w).1)) (fun u => u.1 = (sFact n bt rk wt cl cc su ow sc od hard r w).2 ∧ ocY u) sz) 0 0 (va_A (wY h cI cZ n bt.testBit rk wt cl cc ow su sc od kn ke rp rc) sz) := by
  refine wE_met (by decide) rfl (Nat.le_of_ble_eq_true rfl) rfl ?_
  intro p e s m below meth c ls hx hb hr hml hown hts hlocks hP hK hD hS hA hl
  have hts : ∀ w ∈ tbl, w.before _ s = true := fun w h => hts w (List.mem_cons_of_mem _ h)
  have hown : s.vm.findClass RY = some m.cls := hown
  have hl : lv_has ls 4 [(0, .ref (h 0)), (1, .int (bI hard)), (2, .int r), (3, .int w)] := hl
  obtain ⟨hn, hbt, hrk, hwt, hwp, hcc, hcl, hsc, hsa, hsu, ho⟩ := id hg
  have hbt3 : bt < 2 ^ 31 := Nat.lt_of_lt_of_le hbt (Nat.pow_le_pow_right (by decide) (by omega))
  have hlen : (reps n bt rk wt cl cc od).length ≤ 462 := rep_len hn (Nat.le_refl _) hrk hwp
  refine lv_iload_n hx hb d_Y_fact_0 rfl (lv_at hl 2 rfl) ?_
  refine lv_iload_n hx hb d_Y_fact_1 rfl (lv_at hl 3 rfl) ?_
  refine rd_S (As := [.int r, .int w]) (rest := []) ⟨hx, hb, hml, hown, hts⟩ (c_Y_areGood l r w) (cwS 2 hts g_Y_39 rfl rfl rfl (by decide +kernel) ⟨Nat.le_of_ble_eq_true rfl, Nat.le_of_ble_eq_true rfl⟩) rfl hl.1 rfl (Nat.le_of_ble_eq_true rfl) d_Y_fact_2 ⟨Nat.zero_le _, Nat.zero_le _⟩ ?_
  refine lv_if_ne (tgt := 10) hx hb d_Y_fact_5 (by decide) (fun c5 => ?_) (fun c5 => ?_)
  · have hok : (okR r && okW w) = true := show (okR r && okW w) = true by cases hq : (okR r && okW w); exact absurd (bI_0.mpr hq) c5; rfl
    have hok2 := (Bool.and_eq_true _ _ ▸ hok : okR r = true ∧ okW w = true)
    obtain ⟨r0, hr0, er⟩ := okR_of hok2.1
    obtain ⟨v0, hv0, hv1, ew⟩ := okW_of hok2.2
    have er2 : nI r.toNatClampNeg = r := by rw [er, nI_clamp (by omega)]
    have ew2 : nI w.toNatClampNeg = w := by rw [ew, nI_clamp (by omega)]
    refine lv_aload_n hx hb d_Y_fact_10 rfl (lv_at hl 0 rfl) ?_
    refine va_get (D := D) (ci := 1) (v := .int (nI n)) (C := RY) (T := TY) (N := 14) hx hb hts inY hown hK hP 0 rfl rfl 0 (by decide) (hts _ f_Y_35) (fun _ h9 => h9) rfl d_Y_fact_11 ?_
    refine lv_bipush (v := 11) hx hb d_Y_fact_14 (by decide) ?_
    refine lv_icmp_ne (tgt := 22) hx hb d_Y_fact_16 (by decide) (fun c16 => ?_) (fun c16 => ?_)
    · have hn10 : n < 11 := by have : ¬ n = 11 := fun q => c16 (by rw [q]; rfl); omega
      refine lv_aload_n hx hb d_Y_fact_22 rfl (lv_at hl 0 rfl) ?_
      refine va_get (D := D) (ci := 1) (v := .ref (h 1)) (C := RY) (T := TY) (N := 14) hx hb hts inY hown hK hP 0 rfl rfl 1 (by decide) (hts _ f_Y_7) (fun _ h9 => h9) rfl d_Y_fact_23 ?_
      refine lv_aload_n hx hb d_Y_fact_26 rfl (lv_at hl 0 rfl) ?_
      refine va_get (D := D) (ci := 1) (v := .int (nI n)) (C := RY) (T := TY) (N := 14) hx hb hts inY hown hK hP 0 rfl rfl 0 (by decide) (hts _ f_Y_35) (fun _ h9 => h9) rfl d_Y_fact_27 ?_
      refine lv_iload_n hx hb d_Y_fact_30 rfl (lv_at hl 1 rfl) ?_
      refine va_zast hx hb hK hP hD hS 1 1 rfl rfl (vp_in_nI hn10 (by decide)) d_Y_fact_31 (fun H locs hP hD hS => ?_)
      have hu : upd (fun j => bI (bt.testBit j)) (nI n).toNatClampNeg (vp_nar .boolean (bI hard)) = fun j => bI (((if hard = true then bt ||| 2 ^ n else bt).testBit) j) := by rw [nI_clamp (by omega), upd_bI, upb_1 hbt]
      rw [hu] at hP hD
      have hP : va_P D clX (wY h cI cZ n ((if hard = true then bt ||| 2 ^ n else bt).testBit) rk wt cl cc ow su sc od kn ke rp rc) H := hP
      have hD : va_D _ (wY h cI cZ n ((if hard = true then bt ||| 2 ^ n else bt).testBit) rk wt cl cc ow su sc od kn ke rp rc) := hD
      refine lv_aload_n hx hb d_Y_fact_32 rfl (lv_at hl 0 rfl) ?_
      refine va_get (D := D) (ci := 1) (v := .ref (h 2)) (C := RY) (T := TY) (N := 14) hx hb hts inY hown hK hP 0 rfl rfl 2 (by decide) (hts _ f_Y_13) (fun _ h9 => h9) rfl d_Y_fact_33 ?_
      refine lv_aload_n hx hb d_Y_fact_36 rfl (lv_at hl 0 rfl) ?_
      refine va_get (D := D) (ci := 1) (v := .int (nI n)) (C := RY) (T := TY) (N := 14) hx hb hts inY hown hK hP 0 rfl rfl 0 (by decide) (hts _ f_Y_35) (fun _ h9 => h9) rfl d_Y_fact_37 ?_
      refine lv_iload_n hx hb d_Y_fact_40 rfl (lv_at hl 2 rfl) ?_
      refine va_iast hx hb hK hP hD hS 2 0 rfl rfl (vp_in_nI hn10 (by decide)) d_Y_fact_41 (fun H locs hP hD hS => ?_)
      have hu : upd (fun j => nI (rk j)) (nI n).toNatClampNeg r = fun j => nI ((va_up rk n r.toNatClampNeg) j) := by rw [nI_clamp (by omega)]; exact upd_nI' rk n er2
      rw [hu] at hP hD
      have hP : va_P D clX (wY h cI cZ n ((if hard = true then bt ||| 2 ^ n else bt).testBit) (va_up rk n r.toNatClampNeg) wt cl cc ow su sc od kn ke rp rc) H := hP
      have hD : va_D _ (wY h cI cZ n ((if hard = true then bt ||| 2 ^ n else bt).testBit) (va_up rk n r.toNatClampNeg) wt cl cc ow su sc od kn ke rp rc) := hD
      refine lv_aload_n hx hb d_Y_fact_42 rfl (lv_at hl 0 rfl) ?_
      refine va_get (D := D) (ci := 1) (v := .ref (h 3)) (C := RY) (T := TY) (N := 14) hx hb hts inY hown hK hP 0 rfl rfl 3 (by decide) (hts _ f_Y_17) (fun _ h9 => h9) rfl d_Y_fact_43 ?_
      refine lv_aload_n hx hb d_Y_fact_46 rfl (lv_at hl 0 rfl) ?_
      refine va_get (D := D) (ci := 1) (v := .int (nI n)) (C := RY) (T := TY) (N := 14) hx hb hts inY hown hK hP 0 rfl rfl 0 (by decide) (hts _ f_Y_35) (fun _ h9 => h9) rfl d_Y_fact_47 ?_
      refine lv_iload_n hx hb d_Y_fact_50 rfl (lv_at hl 3 rfl) ?_
      refine va_iast hx hb hK hP hD hS 3 0 rfl rfl (vp_in_nI hn10 (by decide)) d_Y_fact_51 (fun H locs hP hD hS => ?_)
      have hu : upd (fun j => nI (wt j)) (nI n).toNatClampNeg w = fun j => nI ((va_up wt n w.toNatClampNeg) j) := by rw [nI_clamp (by omega)]; exact upd_nI' wt n ew2
      rw [hu] at hP hD
      have hP : va_P D clX (wY h cI cZ n ((if hard = true then bt ||| 2 ^ n else bt).testBit) (va_up rk n r.toNatClampNeg) (va_up wt n w.toNatClampNeg) cl cc ow su sc od kn ke rp rc) H := hP
      have hD : va_D _ (wY h cI cZ n ((if hard = true then bt ||| 2 ^ n else bt).testBit) (va_up rk n r.toNatClampNeg) (va_up wt n w.toNatClampNeg) cl cc ow su sc od kn ke rp rc) := hD
      refine lv_aload_n hx hb d_Y_fact_52 rfl (lv_at hl 0 rfl) ?_
      refine lv_dup hx hb d_Y_fact_53 rfl ?_
      refine va_get (D := D) (ci := 1) (v := .int (nI n)) (C := RY) (T := TY) (N := 14) hx hb hts inY hown hK hP 0 rfl rfl 0 (by decide) (hts _ f_Y_35) (fun _ h9 => h9) rfl d_Y_fact_54 ?_
      refine lv_iconst (v := 1) hx hb d_Y_fact_57 (by decide) ?_
      refine lv_iadd hx hb d_Y_fact_58 ?_
      refine rd_top (z := nI (n + 1)) (nI_1 n) ?_
      refine va_put (D := D) (ci := 1) (v := .int (nI (n + 1))) (ty := .int) (C := RY) (T := TY) (N := 14) hx hb hts inY tyY tyY_ok nmY hown hK hP hD hS 0 rfl rfl 0 (by decide) (hts _ f_Y_35) (fun _ h9 => h9) rfl (by decide +kernel) rfl rfl (Nat.le_of_ble_eq_true rfl) d_Y_fact_59 (fun H locs hP hD hS => ?_)
      have hP : va_P D clX (wY h cI cZ (n + 1) ((if hard = true then bt ||| 2 ^ n else bt).testBit) (va_up rk n r.toNatClampNeg) (va_up wt n w.toNatClampNeg) cl cc ow su sc od kn ke rp rc) H := hP
      have hD : va_D _ (wY h cI cZ (n + 1) ((if hard = true then bt ||| 2 ^ n else bt).testBit) (va_up rk n r.toNatClampNeg) (va_up wt n w.toNatClampNeg) cl cc ow su sc od kn ke rp rc) := hD
      refine lv_aload_n hx hb d_Y_fact_62 rfl (lv_at hl 0 rfl) ?_
      refine lv_iconst (v := 0) hx hb d_Y_fact_63 (by decide) ?_
      refine va_put (D := D) (ci := 1) (v := .int 0) (ty := .boolean) (C := RY) (T := TY) (N := 14) hx hb hts inY tyY tyY_ok nmY hown hK hP hD hS 0 rfl rfl 10 (by decide) (hts _ f_Y_43) (fun _ h9 => h9) rfl (by decide +kernel) rfl rfl (Nat.le_of_ble_eq_true rfl) d_Y_fact_64 (fun H locs hP hD hS => ?_)
      have hP : va_P D clX (wY h cI cZ (n + 1) ((if hard = true then bt ||| 2 ^ n else bt).testBit) (va_up rk n r.toNatClampNeg) (va_up wt n w.toNatClampNeg) cl cc ow su sc od false ke rp rc) H := hP
      have hD : va_D _ (wY h cI cZ (n + 1) ((if hard = true then bt ||| 2 ^ n else bt).testBit) (va_up rk n r.toNatClampNeg) (va_up wt n w.toNatClampNeg) cl cc ow su sc od false ke rp rc) := hD
      refine lv_aload_n hx hb d_Y_fact_67 rfl (lv_at hl 0 rfl) ?_
      refine va_get (D := D) (ci := 1) (v := .int (nI (n + 1))) (C := RY) (T := TY) (N := 14) hx hb hts inY hown hK hP 0 rfl rfl 0 (by decide) (hts _ f_Y_35) (fun _ h9 => h9) rfl d_Y_fact_68 ?_
      refine lv_iconst (v := 1) hx hb d_Y_fact_71 (by decide) ?_
      refine lv_isub hx hb d_Y_fact_72 ?_
      refine rd_top (z := nI n) (bx_dec (a := n + 1) (Nat.succ_pos n)) ?_
      have hs : (sFact n bt rk wt cl cc su ow sc od hard r w) = ((nI n), ((n + 1), (if hard = true then bt ||| 2 ^ n else bt), va_up rk n r.toNatClampNeg, va_up wt n w.toNatClampNeg, cl, cc, su, ow, sc, od)) := by unfold sFact; rw [if_pos hok, if_neg (show ¬ n = 11 by omega)]
      exact wE_iret (((n + 1), (if hard = true then bt ||| 2 ^ n else bt), va_up rk n r.toNatClampNeg, va_up wt n w.toNatClampNeg, cl, cc, su, ow, sc, od), (false, ke, rp, rc)) hx hb hr hlocks d_Y_fact_73 hS hP ⟨by rw [hs], okC_f⟩ (by rw [hs])
    · refine lv_bipush (v := (-3)) hx hb d_Y_fact_19 (by decide) ?_
      have hs : (sFact n bt rk wt cl cc su ow sc od hard r w) = ((-3), (n, bt, rk, wt, cl, cc, su, ow, sc, od)) := by unfold sFact; rw [if_pos hok, if_pos ((nI_eq (b := 11) (by omega) (by decide)).mp c16)]
      exact wE_iret ((n, bt, rk, wt, cl, cc, su, ow, sc, od), (kn, ke, rp, rc)) hx hb hr hlocks d_Y_fact_21 hS hP ⟨by rw [hs], hc⟩ (by rw [hs])
  · refine lv_iconst (v := (-1)) hx hb d_Y_fact_8 (by decide) ?_
    have hs : (sFact n bt rk wt cl cc su ow sc od hard r w) = ((-1), (n, bt, rk, wt, cl, cc, su, ow, sc, od)) := by unfold sFact; rw [if_neg (by rw [bI_0.mp c5]; decide)]
    exact wE_iret ((n, bt, rk, wt, cl, cc, su, ow, sc, od), (kn, ke, rp, rc)) hx hb hr hlocks d_Y_fact_9 hS hP ⟨by rw [hs], hc⟩ (by rw [hs])
set_option maxHeartbeats 4000000 in
set_option maxRecDepth 100000 in
theorem c_Y_harden (l : Launch) (sz : Nat) (x : Int32) (hard : Bool) (hg : gdA (n, bt, rk, wt, cl, cc, su, ow, sc, od)) (hc : okC (n, bt, rk, wt, cl, cc, su, ow, sc, od) kn rp rc) : Met l y_Y_harden w_Y_harden (k2_rm 1 21) (wr_Pc D clX (wY h cI cZ n bt.testBit rk wt cl cc ow su sc od kn ke rp rc) [(cI, .int), (cZ, .boolean)] sz [.ref (h 0), .int x, .int (bI hard)]) (wE_Q D clX (wY h cI cZ n bt.testBit rk wt cl cc ow su sc od kn ke rp rc) (σ := stA × stD) (wYt h cI cZ) (fun _ => some (.int (sHarden n bt rk wt cl cc su ow sc od x hard).1)) (fun u => u.1 = (sHarden n bt rk wt cl cc su ow sc od x hard).2 ∧ ocY u) sz) 0 0 (va_A (wY h cI cZ n bt.testBit rk wt cl cc ow su sc od kn ke rp rc) sz) := by
  refine wE_met (by decide) rfl (Nat.le_of_ble_eq_true rfl) rfl ?_
  intro p e s m below meth c ls hx hb hr hml hown hts hlocks hP hK hD hS hA hl
  have hts : ∀ w ∈ tbl, w.before _ s = true := fun w h => hts w (List.mem_cons_of_mem _ h)
  have hown : s.vm.findClass RY = some m.cls := hown
  have hl : lv_has ls 4 [(0, .ref (h 0)), (1, .int x), (2, .int (bI hard))] := hl
  obtain ⟨hn, hbt, hrk, hwt, hwp, hcc, hcl, hsc, hsa, hsu, ho⟩ := id hg
  have hbt3 : bt < 2 ^ 31 := Nat.lt_of_lt_of_le hbt (Nat.pow_le_pow_right (by decide) (by omega))
  have hlen : (reps n bt rk wt cl cc od).length ≤ 462 := rep_len hn (Nat.le_refl _) hrk hwp
  refine lv_aload_n hx hb d_Y_harden_0 rfl (lv_at hl 0 rfl) ?_
  refine lv_iload_n hx hb d_Y_harden_1 rfl (lv_at hl 1 rfl) ?_
  refine rd_V (As := [.int x]) (rest := []) ⟨hx, hb, hml, hown, hts⟩ (c_Y_isStatement l x) (cwV 1 hts g_Y_47 rfl rfl rfl (by decide +kernel) ⟨Nat.le_of_ble_eq_true rfl, Nat.le_of_ble_eq_true rfl⟩) hK hP 0 rfl rfl rfl hl.1 rfl (Nat.le_of_ble_eq_true rfl) d_Y_harden_2 ⟨Nat.zero_le _, Nat.zero_le _⟩ ?_
  refine lv_if_ne (tgt := 10) hx hb d_Y_harden_5 (by decide) (fun c5 => ?_) (fun c5 => ?_)
  · have hx0 := (show okS n x = true by cases hq : okS n x; exact absurd (bI_0.mpr hq) c5; rfl)
    obtain ⟨k, hk, ek⟩ := okS_of (by omega) hx0
    subst ek
    refine lv_aload_n hx hb d_Y_harden_10 rfl (lv_at hl 0 rfl) ?_
    refine va_get (D := D) (ci := 1) (v := .ref (h 1)) (C := RY) (T := TY) (N := 14) hx hb hts inY hown hK hP 0 rfl rfl 1 (by decide) (hts _ f_Y_7) (fun _ h9 => h9) rfl d_Y_harden_11 ?_
    refine lv_iload_n hx hb d_Y_harden_14 rfl (lv_at hl 1 rfl) ?_
    refine va_zald hx hb hK hP 1 1 rfl rfl (vp_in_nI (show k < 11 by omega) (by decide)) d_Y_harden_15 ?_
    refine rd_top (z := bI (bt.testBit k)) (ar_bI bt.testBit (by omega)) ?_
    refine lv_iload_n hx hb d_Y_harden_16 rfl (lv_at hl 2 rfl) ?_
    refine lv_icmp_ne (tgt := 24) hx hb d_Y_harden_17 (by decide) (fun c17 => ?_) (fun c17 => ?_)
    · refine lv_iconst (v := 1) hx hb d_Y_harden_24 (by decide) ?_
      refine lv_istore_n (lv' := [(3, .int 1), (0, .ref (h 0)), (1, .int (nI k)), (2, .int (bI hard))]) hx hb d_Y_harden_25 rfl hl (by decide) rfl (fun ls hl => ?_)
      refine lv_aload_n hx hb d_Y_harden_26 rfl (lv_at hl 1 rfl) ?_
      refine va_get (D := D) (ci := 1) (v := .ref (h 1)) (C := RY) (T := TY) (N := 14) hx hb hts inY hown hK hP 0 rfl rfl 1 (by decide) (hts _ f_Y_7) (fun _ h9 => h9) rfl d_Y_harden_27 ?_
      refine lv_iload_n hx hb d_Y_harden_30 rfl (lv_at hl 2 rfl) ?_
      refine lv_iload_n hx hb d_Y_harden_31 rfl (lv_at hl 3 rfl) ?_
      refine va_zast hx hb hK hP hD hS 1 1 rfl rfl (vp_in_nI (show k < 11 by omega) (by decide)) d_Y_harden_32 (fun H locs hP hD hS => ?_)
      have hu : upd (fun j => bI (bt.testBit j)) (nI k).toNatClampNeg (vp_nar .boolean (bI hard)) = fun j => bI (((bt ^^^ 2 ^ k).testBit) j) := by rw [nI_clamp (by omega), upd_bI, upb_3 (fun q => c17 (by rw [q]))]
      rw [hu] at hP hD
      have hP : va_P D clX (wY h cI cZ n ((bt ^^^ 2 ^ k).testBit) rk wt cl cc ow su sc od kn ke rp rc) H := hP
      have hD : va_D _ (wY h cI cZ n ((bt ^^^ 2 ^ k).testBit) rk wt cl cc ow su sc od kn ke rp rc) := hD
      refine lv_aload_n hx hb d_Y_harden_33 rfl (lv_at hl 1 rfl) ?_
      refine lv_iconst (v := 0) hx hb d_Y_harden_34 (by decide) ?_
      refine va_put (D := D) (ci := 1) (v := .int 0) (ty := .boolean) (C := RY) (T := TY) (N := 14) hx hb hts inY tyY tyY_ok nmY hown hK hP hD hS 0 rfl rfl 10 (by decide) (hts _ f_Y_43) (fun _ h9 => h9) rfl (by decide +kernel) rfl rfl (Nat.le_of_ble_eq_true rfl) d_Y_harden_35 (fun H locs hP hD hS => ?_)
      have hP : va_P D clX (wY h cI cZ n ((bt ^^^ 2 ^ k).testBit) rk wt cl cc ow su sc od false ke rp rc) H := hP
      have hD : va_D _ (wY h cI cZ n ((bt ^^^ 2 ^ k).testBit) rk wt cl cc ow su sc od false ke rp rc) := hD
      refine lv_iload_n hx hb d_Y_harden_38 rfl (lv_at hl 0 rfl) ?_
      have hs : (sHarden n bt rk wt cl cc su ow sc od (nI k) hard) = (1, (n, (bt ^^^ 2 ^ k), rk, wt, cl, cc, su, ow, sc, od)) := by unfold sHarden; rw [if_pos hx0, nI_clamp (by omega), if_neg (fun q => c17 (by rw [q]))]
      exact wE_iret ((n, (bt ^^^ 2 ^ k), rk, wt, cl, cc, su, ow, sc, od), (false, ke, rp, rc)) hx hb hr hlocks d_Y_harden_39 hS hP ⟨by rw [hs], okC_f⟩ (by rw [hs])
    · refine lv_iconst (v := 0) hx hb d_Y_harden_20 (by decide) ?_
      refine lv_goto (tgt := 25) hx hb d_Y_harden_21 (by decide) ?_
      refine lv_istore_n (lv' := [(3, .int 0), (0, .ref (h 0)), (1, .int (nI k)), (2, .int (bI hard))]) hx hb d_Y_harden_25 rfl hl (by decide) rfl (fun ls hl => ?_)
      refine lv_aload_n hx hb d_Y_harden_26 rfl (lv_at hl 1 rfl) ?_
      refine va_get (D := D) (ci := 1) (v := .ref (h 1)) (C := RY) (T := TY) (N := 14) hx hb hts inY hown hK hP 0 rfl rfl 1 (by decide) (hts _ f_Y_7) (fun _ h9 => h9) rfl d_Y_harden_27 ?_
      refine lv_iload_n hx hb d_Y_harden_30 rfl (lv_at hl 2 rfl) ?_
      refine lv_iload_n hx hb d_Y_harden_31 rfl (lv_at hl 3 rfl) ?_
      refine va_zast hx hb hK hP hD hS 1 1 rfl rfl (vp_in_nI (show k < 11 by omega) (by decide)) d_Y_harden_32 (fun H locs hP hD hS => ?_)
      have hu : upd (fun j => bI (bt.testBit j)) (nI k).toNatClampNeg (vp_nar .boolean (bI hard)) = fun j => bI (bt.testBit j) := by rw [nI_clamp (by omega), upd_bI, upb_2 (bI_inj.mp c17)]
      rw [hu] at hP hD
      have hP : va_P D clX (wY h cI cZ n bt.testBit rk wt cl cc ow su sc od kn ke rp rc) H := hP
      have hD : va_D _ (wY h cI cZ n bt.testBit rk wt cl cc ow su sc od kn ke rp rc) := hD
      refine lv_aload_n hx hb d_Y_harden_33 rfl (lv_at hl 1 rfl) ?_
      refine lv_iconst (v := 0) hx hb d_Y_harden_34 (by decide) ?_
      refine va_put (D := D) (ci := 1) (v := .int 0) (ty := .boolean) (C := RY) (T := TY) (N := 14) hx hb hts inY tyY tyY_ok nmY hown hK hP hD hS 0 rfl rfl 10 (by decide) (hts _ f_Y_43) (fun _ h9 => h9) rfl (by decide +kernel) rfl rfl (Nat.le_of_ble_eq_true rfl) d_Y_harden_35 (fun H locs hP hD hS => ?_)
      have hP : va_P D clX (wY h cI cZ n bt.testBit rk wt cl cc ow su sc od false ke rp rc) H := hP
      have hD : va_D _ (wY h cI cZ n bt.testBit rk wt cl cc ow su sc od false ke rp rc) := hD
      refine lv_iload_n hx hb d_Y_harden_38 rfl (lv_at hl 0 rfl) ?_
      have hs : (sHarden n bt rk wt cl cc su ow sc od (nI k) hard) = (0, (n, bt, rk, wt, cl, cc, su, ow, sc, od)) := by unfold sHarden; rw [if_pos hx0, nI_clamp (by omega), if_pos (bI_inj.mp c17)]
      exact wE_iret ((n, bt, rk, wt, cl, cc, su, ow, sc, od), (false, ke, rp, rc)) hx hb hr hlocks d_Y_harden_39 hS hP ⟨by rw [hs], okC_f⟩ (by rw [hs])
  · refine lv_iconst (v := (-1)) hx hb d_Y_harden_8 (by decide) ?_
    have hs : (sHarden n bt rk wt cl cc su ow sc od x hard) = ((-1), (n, bt, rk, wt, cl, cc, su, ow, sc, od)) := by unfold sHarden; rw [if_neg (by rw [bI_0.mp c5]; decide)]
    exact wE_iret ((n, bt, rk, wt, cl, cc, su, ow, sc, od), (kn, ke, rp, rc)) hx hb hr hlocks d_Y_harden_9 hS hP ⟨by rw [hs], hc⟩ (by rw [hs])
set_option maxHeartbeats 4000000 in
set_option maxRecDepth 100000 in
theorem c_Y_weight (l : Launch) (sz : Nat) (x r w : Int32) (hg : gdA (n, bt, rk, wt, cl, cc, su, ow, sc, od)) (hc : okC (n, bt, rk, wt, cl, cc, su, ow, sc, od) kn rp rc) : Met l y_Y_weight w_Y_weight (k2_rm 1 21) (wr_Pc D clX (wY h cI cZ n bt.testBit rk wt cl cc ow su sc od kn ke rp rc) [(cI, .int), (cZ, .boolean)] sz [.ref (h 0), .int x, .int r, .int w]) (wE_Q D clX (wY h cI cZ n bt.testBit rk wt cl cc ow su sc od kn ke rp rc) (σ := stA × stD) (wYt h cI cZ) (fun _ => some (.int (sWeight n bt rk wt cl cc su ow sc od x r w).1)) (fun u => u.1 = (sWeight n bt rk wt cl cc su ow sc od x r w).2 ∧ ocY u) sz) 0 0 (va_A (wY h cI cZ n bt.testBit rk wt cl cc ow su sc od kn ke rp rc) sz) := by
  refine wE_met (by decide) rfl (Nat.le_of_ble_eq_true rfl) rfl ?_
  intro p e s m below meth c ls hx hb hr hml hown hts hlocks hP hK hD hS hA hl
  have hts : ∀ w ∈ tbl, w.before _ s = true := fun w h => hts w (List.mem_cons_of_mem _ h)
  have hown : s.vm.findClass RY = some m.cls := hown
  have hl : lv_has ls 4 [(0, .ref (h 0)), (1, .int x), (2, .int r), (3, .int w)] := hl
  obtain ⟨hn, hbt, hrk, hwt, hwp, hcc, hcl, hsc, hsa, hsu, ho⟩ := id hg
  have hbt3 : bt < 2 ^ 31 := Nat.lt_of_lt_of_le hbt (Nat.pow_le_pow_right (by decide) (by omega))
  have hlen : (reps n bt rk wt cl cc od).length ≤ 462 := rep_len hn (Nat.le_refl _) hrk hwp
  refine lv_aload_n hx hb d_Y_weight_0 rfl (lv_at hl 0 rfl) ?_
  refine lv_iload_n hx hb d_Y_weight_1 rfl (lv_at hl 1 rfl) ?_
  refine rd_V (As := [.int x]) (rest := []) ⟨hx, hb, hml, hown, hts⟩ (c_Y_isStatement l x) (cwV 1 hts g_Y_47 rfl rfl rfl (by decide +kernel) ⟨Nat.le_of_ble_eq_true rfl, Nat.le_of_ble_eq_true rfl⟩) hK hP 0 rfl rfl rfl hl.1 rfl (Nat.le_of_ble_eq_true rfl) d_Y_weight_2 ⟨Nat.zero_le _, Nat.zero_le _⟩ ?_
  refine lv_if_eq (tgt := 16) hx hb d_Y_weight_5 (by decide) (fun c5 => ?_) (fun c5 => ?_)
  · refine lv_iconst (v := (-1)) hx hb d_Y_weight_16 (by decide) ?_
    have hs : (sWeight n bt rk wt cl cc su ow sc od x r w) = ((-1), (n, bt, rk, wt, cl, cc, su, ow, sc, od)) := by unfold sWeight; rw [if_neg (by rw [bI_0.mp c5, Bool.false_and]; decide)]
    exact wE_iret ((n, bt, rk, wt, cl, cc, su, ow, sc, od), (kn, ke, rp, rc)) hx hb hr hlocks d_Y_weight_17 hS hP ⟨by rw [hs], hc⟩ (by rw [hs])
  · refine lv_iload_n hx hb d_Y_weight_8 rfl (lv_at hl 2 rfl) ?_
    refine lv_iload_n hx hb d_Y_weight_9 rfl (lv_at hl 3 rfl) ?_
    refine rd_S (As := [.int r, .int w]) (rest := []) ⟨hx, hb, hml, hown, hts⟩ (c_Y_areGood l r w) (cwS 2 hts g_Y_39 rfl rfl rfl (by decide +kernel) ⟨Nat.le_of_ble_eq_true rfl, Nat.le_of_ble_eq_true rfl⟩) rfl hl.1 rfl (Nat.le_of_ble_eq_true rfl) d_Y_weight_10 ⟨Nat.zero_le _, Nat.zero_le _⟩ ?_
    refine lv_if_ne (tgt := 18) hx hb d_Y_weight_13 (by decide) (fun c13 => ?_) (fun c13 => ?_)
    · have hok : (okR r && okW w) = true := show (okR r && okW w) = true by cases hq : (okR r && okW w); exact absurd (bI_0.mpr hq) c13; rfl
      have hok2 := (Bool.and_eq_true _ _ ▸ hok : okR r = true ∧ okW w = true)
      obtain ⟨r0, hr0, er⟩ := okR_of hok2.1
      obtain ⟨v0, hv0, hv1, ew⟩ := okW_of hok2.2
      have er2 : nI r.toNatClampNeg = r := by rw [er, nI_clamp (by omega)]
      have ew2 : nI w.toNatClampNeg = w := by rw [ew, nI_clamp (by omega)]
      have hx0 := (show okS n x = true by cases hq : okS n x; exact absurd (bI_0.mpr hq) c5; rfl)
      obtain ⟨k, hk, ek⟩ := okS_of (by omega) hx0
      subst ek
      refine lv_aload_n hx hb d_Y_weight_18 rfl (lv_at hl 0 rfl) ?_
      refine va_get (D := D) (ci := 1) (v := .ref (h 2)) (C := RY) (T := TY) (N := 14) hx hb hts inY hown hK hP 0 rfl rfl 2 (by decide) (hts _ f_Y_13) (fun _ h9 => h9) rfl d_Y_weight_19 ?_
      refine lv_iload_n hx hb d_Y_weight_22 rfl (lv_at hl 1 rfl) ?_
      refine lv_iload_n hx hb d_Y_weight_23 rfl (lv_at hl 2 rfl) ?_
      refine va_iast hx hb hK hP hD hS 2 0 rfl rfl (vp_in_nI (show k < 11 by omega) (by decide)) d_Y_weight_24 (fun H locs hP hD hS => ?_)
      have hu : upd (fun j => nI (rk j)) (nI k).toNatClampNeg r = fun j => nI ((va_up rk k r.toNatClampNeg) j) := by rw [nI_clamp (by omega)]; exact upd_nI' rk k er2
      rw [hu] at hP hD
      have hP : va_P D clX (wY h cI cZ n bt.testBit (va_up rk k r.toNatClampNeg) wt cl cc ow su sc od kn ke rp rc) H := hP
      have hD : va_D _ (wY h cI cZ n bt.testBit (va_up rk k r.toNatClampNeg) wt cl cc ow su sc od kn ke rp rc) := hD
      refine lv_aload_n hx hb d_Y_weight_25 rfl (lv_at hl 0 rfl) ?_
      refine va_get (D := D) (ci := 1) (v := .ref (h 3)) (C := RY) (T := TY) (N := 14) hx hb hts inY hown hK hP 0 rfl rfl 3 (by decide) (hts _ f_Y_17) (fun _ h9 => h9) rfl d_Y_weight_26 ?_
      refine lv_iload_n hx hb d_Y_weight_29 rfl (lv_at hl 1 rfl) ?_
      refine lv_iload_n hx hb d_Y_weight_30 rfl (lv_at hl 3 rfl) ?_
      refine va_iast hx hb hK hP hD hS 3 0 rfl rfl (vp_in_nI (show k < 11 by omega) (by decide)) d_Y_weight_31 (fun H locs hP hD hS => ?_)
      have hu : upd (fun j => nI (wt j)) (nI k).toNatClampNeg w = fun j => nI ((va_up wt k w.toNatClampNeg) j) := by rw [nI_clamp (by omega)]; exact upd_nI' wt k ew2
      rw [hu] at hP hD
      have hP : va_P D clX (wY h cI cZ n bt.testBit (va_up rk k r.toNatClampNeg) (va_up wt k w.toNatClampNeg) cl cc ow su sc od kn ke rp rc) H := hP
      have hD : va_D _ (wY h cI cZ n bt.testBit (va_up rk k r.toNatClampNeg) (va_up wt k w.toNatClampNeg) cl cc ow su sc od kn ke rp rc) := hD
      refine lv_aload_n hx hb d_Y_weight_32 rfl (lv_at hl 0 rfl) ?_
      refine lv_iconst (v := 0) hx hb d_Y_weight_33 (by decide) ?_
      refine va_put (D := D) (ci := 1) (v := .int 0) (ty := .boolean) (C := RY) (T := TY) (N := 14) hx hb hts inY tyY tyY_ok nmY hown hK hP hD hS 0 rfl rfl 10 (by decide) (hts _ f_Y_43) (fun _ h9 => h9) rfl (by decide +kernel) rfl rfl (Nat.le_of_ble_eq_true rfl) d_Y_weight_34 (fun H locs hP hD hS => ?_)
      have hP : va_P D clX (wY h cI cZ n bt.testBit (va_up rk k r.toNatClampNeg) (va_up wt k w.toNatClampNeg) cl cc ow su sc od false ke rp rc) H := hP
      have hD : va_D _ (wY h cI cZ n bt.testBit (va_up rk k r.toNatClampNeg) (va_up wt k w.toNatClampNeg) cl cc ow su sc od false ke rp rc) := hD
      refine lv_iconst (v := 1) hx hb d_Y_weight_37 (by decide) ?_
      have hs : (sWeight n bt rk wt cl cc su ow sc od (nI k) r w) = (1, (n, bt, va_up rk k r.toNatClampNeg, va_up wt k w.toNatClampNeg, cl, cc, su, ow, sc, od)) := by unfold sWeight; rw [if_pos (by rw [hx0, hok]; rfl), nI_clamp (show k < 2 ^ 31 by omega)]
      exact wE_iret ((n, bt, va_up rk k r.toNatClampNeg, va_up wt k w.toNatClampNeg, cl, cc, su, ow, sc, od), (false, ke, rp, rc)) hx hb hr hlocks d_Y_weight_38 hS hP ⟨by rw [hs], okC_f⟩ (by rw [hs])
    · refine lv_iconst (v := (-1)) hx hb d_Y_weight_16 (by decide) ?_
      have hs : (sWeight n bt rk wt cl cc su ow sc od x r w) = ((-1), (n, bt, rk, wt, cl, cc, su, ow, sc, od)) := by unfold sWeight; rw [if_neg (by rw [bI_0.mp c13, Bool.and_false]; decide)]
      exact wE_iret ((n, bt, rk, wt, cl, cc, su, ow, sc, od), (kn, ke, rp, rc)) hx hb hr hlocks d_Y_weight_17 hS hP ⟨by rw [hs], hc⟩ (by rw [hs])
set_option maxHeartbeats 4000000 in
set_option maxRecDepth 100000 in
theorem c_Y_clash (l : Launch) (sz : Nat) (x : Int32) (hg : gdA (n, bt, rk, wt, cl, cc, su, ow, sc, od)) (hc : okC (n, bt, rk, wt, cl, cc, su, ow, sc, od) kn rp rc) : Met l y_Y_clash w_Y_clash (k2_rm 0 0) (wr_Pc D clX (wY h cI cZ n bt.testBit rk wt cl cc ow su sc od kn ke rp rc) [(cI, .int), (cZ, .boolean)] sz [.ref (h 0), .int x]) (wE_Q D clX (wY h cI cZ n bt.testBit rk wt cl cc ow su sc od kn ke rp rc) (σ := stA × stD) (wYt h cI cZ) (fun _ => some (.int (sClash n bt rk wt cl cc su ow sc od x).1)) (fun u => u.1 = (sClash n bt rk wt cl cc su ow sc od x).2 ∧ ocY u) sz) 0 0 (va_A (wY h cI cZ n bt.testBit rk wt cl cc ow su sc od kn ke rp rc) sz) := by
  refine wE_met (by decide) rfl (Nat.le_of_ble_eq_true rfl) rfl ?_
  intro p e s m below meth c ls hx hb hr hml hown hts hlocks hP hK hD hS hA hl
  have hts : ∀ w ∈ tbl, w.before _ s = true := fun w h => hts w (List.mem_cons_of_mem _ h)
  have hown : s.vm.findClass RY = some m.cls := hown
  have hl : lv_has ls 2 [(0, .ref (h 0)), (1, .int x)] := hl
  obtain ⟨hn, hbt, hrk, hwt, hwp, hcc, hcl, hsc, hsa, hsu, ho⟩ := id hg
  have hbt3 : bt < 2 ^ 31 := Nat.lt_of_lt_of_le hbt (Nat.pow_le_pow_right (by decide) (by omega))
  have hlen : (reps n bt rk wt cl cc od).length ≤ 462 := rep_len hn (Nat.le_refl _) hrk hwp
  refine lv_aload_n hx hb d_Y_clash_0 rfl (lv_at hl 0 rfl) ?_
  refine va_get (D := D) (ci := 1) (v := .int (nI cc)) (C := RY) (T := TY) (N := 14) hx hb hts inY hown hK hP 0 rfl rfl 5 (by decide) (hts _ f_Y_51) (fun _ h9 => h9) rfl d_Y_clash_1 ?_
  refine lv_bipush (v := 40) hx hb d_Y_clash_4 (by decide) ?_
  refine lv_icmp_ne (tgt := 12) hx hb d_Y_clash_6 (by decide) (fun c6 => ?_) (fun c6 => ?_)
  · have hc4 : cc < 40 := by have : ¬ cc = 40 := fun q => c6 (by rw [q]; rfl); omega
    refine lv_aload_n hx hb d_Y_clash_12 rfl (lv_at hl 0 rfl) ?_
    refine va_get (D := D) (ci := 1) (v := .ref (h 4)) (C := RY) (T := TY) (N := 14) hx hb hts inY hown hK hP 0 rfl rfl 4 (by decide) (hts _ f_Y_20) (fun _ h9 => h9) rfl d_Y_clash_13 ?_
    refine lv_aload_n hx hb d_Y_clash_16 rfl (lv_at hl 0 rfl) ?_
    refine va_get (D := D) (ci := 1) (v := .int (nI cc)) (C := RY) (T := TY) (N := 14) hx hb hts inY hown hK hP 0 rfl rfl 5 (by decide) (hts _ f_Y_51) (fun _ h9 => h9) rfl d_Y_clash_17 ?_
    refine lv_iload_n hx hb d_Y_clash_20 rfl (lv_at hl 1 rfl) ?_
    refine lv_sipush (v := 2047) hx hb d_Y_clash_21 (by decide) ?_
    refine lv_iand hx hb d_Y_clash_24 ?_
    refine rd_top (z := nI (x.toBitVec.toNat % 2 ^ 11)) (msk x) ?_
    refine va_iast hx hb hK hP hD hS 4 0 rfl rfl (vp_in_nI hc4 (by decide)) d_Y_clash_25 (fun H locs hP hD hS => ?_)
    have hu : upd (fun j => nI (cl j)) (nI cc).toNatClampNeg (nI (x.toBitVec.toNat % 2 ^ 11)) = fun j => nI ((va_up cl cc (x.toBitVec.toNat % 2 ^ 11)) j) := by rw [nI_clamp (by omega)]; exact upd_nI cl cc _
    rw [hu] at hP hD
    have hP : va_P D clX (wY h cI cZ n bt.testBit rk wt (va_up cl cc (x.toBitVec.toNat % 2 ^ 11)) cc ow su sc od kn ke rp rc) H := hP
    have hD : va_D _ (wY h cI cZ n bt.testBit rk wt (va_up cl cc (x.toBitVec.toNat % 2 ^ 11)) cc ow su sc od kn ke rp rc) := hD
    refine lv_aload_n hx hb d_Y_clash_26 rfl (lv_at hl 0 rfl) ?_
    refine lv_dup hx hb d_Y_clash_27 rfl ?_
    refine va_get (D := D) (ci := 1) (v := .int (nI cc)) (C := RY) (T := TY) (N := 14) hx hb hts inY hown hK hP 0 rfl rfl 5 (by decide) (hts _ f_Y_51) (fun _ h9 => h9) rfl d_Y_clash_28 ?_
    refine lv_iconst (v := 1) hx hb d_Y_clash_31 (by decide) ?_
    refine lv_iadd hx hb d_Y_clash_32 ?_
    refine rd_top (z := nI (cc + 1)) (nI_1 cc) ?_
    refine va_put (D := D) (ci := 1) (v := .int (nI (cc + 1))) (ty := .int) (C := RY) (T := TY) (N := 14) hx hb hts inY tyY tyY_ok nmY hown hK hP hD hS 0 rfl rfl 5 (by decide) (hts _ f_Y_51) (fun _ h9 => h9) rfl (by decide +kernel) rfl rfl (Nat.le_of_ble_eq_true rfl) d_Y_clash_33 (fun H locs hP hD hS => ?_)
    have hP : va_P D clX (wY h cI cZ n bt.testBit rk wt (va_up cl cc (x.toBitVec.toNat % 2 ^ 11)) (cc + 1) ow su sc od kn ke rp rc) H := hP
    have hD : va_D _ (wY h cI cZ n bt.testBit rk wt (va_up cl cc (x.toBitVec.toNat % 2 ^ 11)) (cc + 1) ow su sc od kn ke rp rc) := hD
    refine lv_aload_n hx hb d_Y_clash_36 rfl (lv_at hl 0 rfl) ?_
    refine lv_iconst (v := 0) hx hb d_Y_clash_37 (by decide) ?_
    refine va_put (D := D) (ci := 1) (v := .int 0) (ty := .boolean) (C := RY) (T := TY) (N := 14) hx hb hts inY tyY tyY_ok nmY hown hK hP hD hS 0 rfl rfl 10 (by decide) (hts _ f_Y_43) (fun _ h9 => h9) rfl (by decide +kernel) rfl rfl (Nat.le_of_ble_eq_true rfl) d_Y_clash_38 (fun H locs hP hD hS => ?_)
    have hP : va_P D clX (wY h cI cZ n bt.testBit rk wt (va_up cl cc (x.toBitVec.toNat % 2 ^ 11)) (cc + 1) ow su sc od false ke rp rc) H := hP
    have hD : va_D _ (wY h cI cZ n bt.testBit rk wt (va_up cl cc (x.toBitVec.toNat % 2 ^ 11)) (cc + 1) ow su sc od false ke rp rc) := hD
    refine lv_aload_n hx hb d_Y_clash_41 rfl (lv_at hl 0 rfl) ?_
    refine va_get (D := D) (ci := 1) (v := .int (nI (cc + 1))) (C := RY) (T := TY) (N := 14) hx hb hts inY hown hK hP 0 rfl rfl 5 (by decide) (hts _ f_Y_51) (fun _ h9 => h9) rfl d_Y_clash_42 ?_
    have hs : (sClash n bt rk wt cl cc su ow sc od x) = ((nI (cc + 1)), (n, bt, rk, wt, va_up cl cc (x.toBitVec.toNat % 2 ^ 11), (cc + 1), su, ow, sc, od)) := by unfold sClash; rw [if_neg (show ¬ cc = 40 by omega)]
    exact wE_iret ((n, bt, rk, wt, va_up cl cc (x.toBitVec.toNat % 2 ^ 11), (cc + 1), su, ow, sc, od), (false, ke, rp, rc)) hx hb hr hlocks d_Y_clash_45 hS hP ⟨by rw [hs], okC_f⟩ (by rw [hs])
  · have hc4 : cc = 40 := (nI_eq (b := 40) (by omega) (by decide)).mp c6
    refine lv_bipush (v := (-3)) hx hb d_Y_clash_9 (by decide) ?_
    have hs : (sClash n bt rk wt cl cc su ow sc od x) = ((-3), (n, bt, rk, wt, cl, cc, su, ow, sc, od)) := by unfold sClash; rw [if_pos hc4]
    exact wE_iret ((n, bt, rk, wt, cl, cc, su, ow, sc, od), (kn, ke, rp, rc)) hx hb hr hlocks d_Y_clash_11 hS hP ⟨by rw [hs], hc⟩ (by rw [hs])
set_option maxHeartbeats 4000000 in
set_option maxRecDepth 100000 in
theorem c_Y_settle (l : Launch) (sz : Nat)  (hg : gdA (n, bt, rk, wt, cl, cc, su, ow, sc, od)) (hc : okC (n, bt, rk, wt, cl, cc, su, ow, sc, od) kn rp rc) : Met l y_Y_settle w_Y_settle (k2_rm 0 0) (wr_Pc D clX (wY h cI cZ n bt.testBit rk wt cl cc ow su sc od kn ke rp rc) [(cI, .int), (cZ, .boolean)] sz [.ref (h 0)]) (wE_Q D clX (wY h cI cZ n bt.testBit rk wt cl cc ow su sc od kn ke rp rc) (σ := stA × stD) (wYt h cI cZ) (fun _ => some (.int (sSettle n bt rk wt cl cc su ow sc od).1)) (fun u => u.1 = (sSettle n bt rk wt cl cc su ow sc od).2 ∧ ocY u) sz) 0 0 (va_A (wY h cI cZ n bt.testBit rk wt cl cc ow su sc od kn ke rp rc) sz) := by
  refine wE_met (by decide) rfl (Nat.le_of_ble_eq_true rfl) rfl ?_
  intro p e s m below meth c ls hx hb hr hml hown hts hlocks hP hK hD hS hA hl
  have hts : ∀ w ∈ tbl, w.before _ s = true := fun w h => hts w (List.mem_cons_of_mem _ h)
  have hown : s.vm.findClass RY = some m.cls := hown
  have hl : lv_has ls 1 [(0, .ref (h 0))] := hl
  obtain ⟨hn, hbt, hrk, hwt, hwp, hcc, hcl, hsc, hsa, hsu, ho⟩ := id hg
  have hbt3 : bt < 2 ^ 31 := Nat.lt_of_lt_of_le hbt (Nat.pow_le_pow_right (by decide) (by omega))
  have hlen : (reps n bt rk wt cl cc od).length ≤ 462 := rep_len hn (Nat.le_refl _) hrk hwp
  refine lv_aload_n hx hb d_Y_settle_0 rfl (lv_at hl 0 rfl) ?_
  refine va_get (D := D) (ci := 1) (v := .int (nI cc)) (C := RY) (T := TY) (N := 14) hx hb hts inY hown hK hP 0 rfl rfl 5 (by decide) (hts _ f_Y_51) (fun _ h9 => h9) rfl d_Y_settle_1 ?_
  refine lv_if_ne (tgt := 10) hx hb d_Y_settle_4 (by decide) (fun c4 => ?_) (fun c4 => ?_)
  · have hc4 : 0 < cc := Nat.pos_of_ne_zero (fun q => c4 (by rw [q]; rfl))
    refine lv_aload_n hx hb d_Y_settle_10 rfl (lv_at hl 0 rfl) ?_
    refine lv_dup hx hb d_Y_settle_11 rfl ?_
    refine va_get (D := D) (ci := 1) (v := .int (nI cc)) (C := RY) (T := TY) (N := 14) hx hb hts inY hown hK hP 0 rfl rfl 5 (by decide) (hts _ f_Y_51) (fun _ h9 => h9) rfl d_Y_settle_12 ?_
    refine lv_iconst (v := 1) hx hb d_Y_settle_15 (by decide) ?_
    refine lv_isub hx hb d_Y_settle_16 ?_
    refine rd_top (z := nI (cc - 1)) (bx_dec hc4) ?_
    refine va_put (D := D) (ci := 1) (v := .int (nI (cc - 1))) (ty := .int) (C := RY) (T := TY) (N := 14) hx hb hts inY tyY tyY_ok nmY hown hK hP hD hS 0 rfl rfl 5 (by decide) (hts _ f_Y_51) (fun _ h9 => h9) rfl (by decide +kernel) rfl rfl (Nat.le_of_ble_eq_true rfl) d_Y_settle_17 (fun H locs hP hD hS => ?_)
    have hP : va_P D clX (wY h cI cZ n bt.testBit rk wt cl (cc - 1) ow su sc od kn ke rp rc) H := hP
    have hD : va_D _ (wY h cI cZ n bt.testBit rk wt cl (cc - 1) ow su sc od kn ke rp rc) := hD
    refine lv_aload_n hx hb d_Y_settle_20 rfl (lv_at hl 0 rfl) ?_
    refine lv_iconst (v := 0) hx hb d_Y_settle_21 (by decide) ?_
    refine va_put (D := D) (ci := 1) (v := .int 0) (ty := .boolean) (C := RY) (T := TY) (N := 14) hx hb hts inY tyY tyY_ok nmY hown hK hP hD hS 0 rfl rfl 10 (by decide) (hts _ f_Y_43) (fun _ h9 => h9) rfl (by decide +kernel) rfl rfl (Nat.le_of_ble_eq_true rfl) d_Y_settle_22 (fun H locs hP hD hS => ?_)
    have hP : va_P D clX (wY h cI cZ n bt.testBit rk wt cl (cc - 1) ow su sc od false ke rp rc) H := hP
    have hD : va_D _ (wY h cI cZ n bt.testBit rk wt cl (cc - 1) ow su sc od false ke rp rc) := hD
    refine lv_aload_n hx hb d_Y_settle_25 rfl (lv_at hl 0 rfl) ?_
    refine va_get (D := D) (ci := 1) (v := .int (nI (cc - 1))) (C := RY) (T := TY) (N := 14) hx hb hts inY hown hK hP 0 rfl rfl 5 (by decide) (hts _ f_Y_51) (fun _ h9 => h9) rfl d_Y_settle_26 ?_
    have hs : (sSettle n bt rk wt cl cc su ow sc od) = ((nI (cc - 1)), (n, bt, rk, wt, cl, (cc - 1), su, ow, sc, od)) := by unfold sSettle; rw [if_neg (show ¬ cc = 0 by omega)]
    exact wE_iret ((n, bt, rk, wt, cl, (cc - 1), su, ow, sc, od), (false, ke, rp, rc)) hx hb hr hlocks d_Y_settle_29 hS hP ⟨by rw [hs], okC_f⟩ (by rw [hs])
  · have hc4 : cc = 0 := (nI_eq (b := 0) (by omega) (by decide)).mp c4
    refine lv_bipush (v := (-2)) hx hb d_Y_settle_7 (by decide) ?_
    have hs : (sSettle n bt rk wt cl cc su ow sc od) = ((-2), (n, bt, rk, wt, cl, cc, su, ow, sc, od)) := by unfold sSettle; rw [if_pos hc4]
    exact wE_iret ((n, bt, rk, wt, cl, cc, su, ow, sc, od), (kn, ke, rp, rc)) hx hb hr hlocks d_Y_settle_9 hS hP ⟨by rw [hs], hc⟩ (by rw [hs])
set_option maxHeartbeats 4000000 in
set_option maxRecDepth 100000 in
theorem c_Y_support (l : Launch) (sz : Nat) (x y : Int32) (hg : gdA (n, bt, rk, wt, cl, cc, su, ow, sc, od)) (hc : okC (n, bt, rk, wt, cl, cc, su, ow, sc, od) kn rp rc) : Met l y_Y_support w_Y_support (k2_rm 0 0) (wr_Pc D clX (wY h cI cZ n bt.testBit rk wt cl cc ow su sc od kn ke rp rc) [(cI, .int), (cZ, .boolean)] sz [.ref (h 0), .int x, .int y]) (wE_Q D clX (wY h cI cZ n bt.testBit rk wt cl cc ow su sc od kn ke rp rc) (σ := stA × stD) (wYt h cI cZ) (fun _ => some (.int (sSupport n bt rk wt cl cc su ow sc od x y).1)) (fun u => u.1 = (sSupport n bt rk wt cl cc su ow sc od x y).2 ∧ ocY u) sz) 0 0 (va_A (wY h cI cZ n bt.testBit rk wt cl cc ow su sc od kn ke rp rc) sz) := by
  refine wE_met (by decide) rfl (Nat.le_of_ble_eq_true rfl) rfl ?_
  intro p e s m below meth c ls hx hb hr hml hown hts hlocks hP hK hD hS hA hl
  have hts : ∀ w ∈ tbl, w.before _ s = true := fun w h => hts w (List.mem_cons_of_mem _ h)
  have hown : s.vm.findClass RY = some m.cls := hown
  have hl : lv_has ls 5 [(0, .ref (h 0)), (1, .int x), (2, .int y)] := hl
  obtain ⟨hn, hbt, hrk, hwt, hwp, hcc, hcl, hsc, hsa, hsu, ho⟩ := id hg
  have hbt3 : bt < 2 ^ 31 := Nat.lt_of_lt_of_le hbt (Nat.pow_le_pow_right (by decide) (by omega))
  have hlen : (reps n bt rk wt cl cc od).length ≤ 462 := rep_len hn (Nat.le_refl _) hrk hwp
  refine lv_iload_n hx hb d_Y_support_0 rfl (lv_at hl 1 rfl) ?_
  refine lv_if_lt (tgt := 10) hx hb d_Y_support_1 (by decide) (fun c1 => ?_) (fun c1 => ?_)
  · refine lv_iconst (v := (-1)) hx hb d_Y_support_10 (by decide) ?_
    have hs : (sSupport n bt rk wt cl cc su ow sc od x y) = ((-1), (n, bt, rk, wt, cl, cc, su, ow, sc, od)) := by unfold sSupport; rw [if_neg (show ¬ okA x = true by unfold okA; rw [decide_eq_true c1, Bool.not_true, Bool.false_and]; decide)]
    exact wE_iret ((n, bt, rk, wt, cl, cc, su, ow, sc, od), (kn, ke, rp, rc)) hx hb hr hlocks d_Y_support_11 hS hP ⟨by rw [hs], hc⟩ (by rw [hs])
  · refine lv_iload_n hx hb d_Y_support_4 rfl (lv_at hl 1 rfl) ?_
    refine lv_bipush (v := 8) hx hb d_Y_support_5 (by decide) ?_
    refine lv_icmp_lt (tgt := 12) hx hb d_Y_support_7 (by decide) (fun c7 => ?_) (fun c7 => ?_)
    · have hx0 := (show okA x = true by unfold okA; rw [decide_eq_false c1, decide_eq_false (Int32.not_le.mpr c7)]; rfl)
      obtain ⟨k, hk, ek⟩ := okA_of hx0
      subst ek
      refine lv_aload_n hx hb d_Y_support_12 rfl (lv_at hl 0 rfl) ?_
      refine va_get (D := D) (ci := 1) (v := .int (nI sc)) (C := RY) (T := TY) (N := 14) hx hb hts inY hown hK hP 0 rfl rfl 8 (by decide) (hts _ f_Y_54) (fun _ h9 => h9) rfl d_Y_support_13 ?_
      refine lv_bipush (v := 20) hx hb d_Y_support_16 (by decide) ?_
      refine lv_icmp_ne (tgt := 24) hx hb d_Y_support_18 (by decide) (fun c18 => ?_) (fun c18 => ?_)
      · have hc4 : sc < 20 := by have : ¬ sc = 20 := fun q => c18 (by rw [q]; rfl); omega
        refine lv_aload_n hx hb d_Y_support_24 rfl (lv_at hl 0 rfl) ?_
        refine va_get (D := D) (ci := 1) (v := .ref (h 5)) (C := RY) (T := TY) (N := 14) hx hb hts inY hown hK hP 0 rfl rfl 6 (by decide) (hts _ f_Y_23) (fun _ h9 => h9) rfl d_Y_support_25 ?_
        refine lv_aload_n hx hb d_Y_support_28 rfl (lv_at hl 0 rfl) ?_
        refine va_get (D := D) (ci := 1) (v := .int (nI sc)) (C := RY) (T := TY) (N := 14) hx hb hts inY hown hK hP 0 rfl rfl 8 (by decide) (hts _ f_Y_54) (fun _ h9 => h9) rfl d_Y_support_29 ?_
        refine lv_iload_n hx hb d_Y_support_32 rfl (lv_at hl 1 rfl) ?_
        refine va_iast hx hb hK hP hD hS 5 0 rfl rfl (vp_in_nI hc4 (by decide)) d_Y_support_33 (fun H locs hP hD hS => ?_)
        have hu : upd (fun j => nI (ow j)) (nI sc).toNatClampNeg (nI k) = fun j => nI ((va_up ow sc k) j) := by rw [nI_clamp (by omega)]; exact upd_nI ow sc k
        rw [hu] at hP hD
        have hP : va_P D clX (wY h cI cZ n bt.testBit rk wt cl cc (va_up ow sc k) su sc od kn ke rp rc) H := hP
        have hD : va_D _ (wY h cI cZ n bt.testBit rk wt cl cc (va_up ow sc k) su sc od kn ke rp rc) := hD
        refine lv_aload_n hx hb d_Y_support_34 rfl (lv_at hl 0 rfl) ?_
        refine va_get (D := D) (ci := 1) (v := .ref (h 6)) (C := RY) (T := TY) (N := 14) hx hb hts inY hown hK hP 0 rfl rfl 7 (by decide) (hts _ f_Y_26) (fun _ h9 => h9) rfl d_Y_support_35 ?_
        refine lv_aload_n hx hb d_Y_support_38 rfl (lv_at hl 0 rfl) ?_
        refine va_get (D := D) (ci := 1) (v := .int (nI sc)) (C := RY) (T := TY) (N := 14) hx hb hts inY hown hK hP 0 rfl rfl 8 (by decide) (hts _ f_Y_54) (fun _ h9 => h9) rfl d_Y_support_39 ?_
        refine lv_iload_n hx hb d_Y_support_42 rfl (lv_at hl 2 rfl) ?_
        refine lv_sipush (v := 2047) hx hb d_Y_support_43 (by decide) ?_
        refine lv_iand hx hb d_Y_support_46 ?_
        refine rd_top (z := nI (y.toBitVec.toNat % 2 ^ 11)) (msk y) ?_
        refine va_iast hx hb hK hP hD hS 6 0 rfl rfl (vp_in_nI hc4 (by decide)) d_Y_support_47 (fun H locs hP hD hS => ?_)
        have hu : upd (fun j => nI (su j)) (nI sc).toNatClampNeg (nI (y.toBitVec.toNat % 2 ^ 11)) = fun j => nI ((va_up su sc (y.toBitVec.toNat % 2 ^ 11)) j) := by rw [nI_clamp (by omega)]; exact upd_nI su sc _
        rw [hu] at hP hD
        have hP : va_P D clX (wY h cI cZ n bt.testBit rk wt cl cc (va_up ow sc k) (va_up su sc (y.toBitVec.toNat % 2 ^ 11)) sc od kn ke rp rc) H := hP
        have hD : va_D _ (wY h cI cZ n bt.testBit rk wt cl cc (va_up ow sc k) (va_up su sc (y.toBitVec.toNat % 2 ^ 11)) sc od kn ke rp rc) := hD
        refine lv_aload_n hx hb d_Y_support_48 rfl (lv_at hl 0 rfl) ?_
        refine lv_dup hx hb d_Y_support_49 rfl ?_
        refine va_get (D := D) (ci := 1) (v := .int (nI sc)) (C := RY) (T := TY) (N := 14) hx hb hts inY hown hK hP 0 rfl rfl 8 (by decide) (hts _ f_Y_54) (fun _ h9 => h9) rfl d_Y_support_50 ?_
        refine lv_iconst (v := 1) hx hb d_Y_support_53 (by decide) ?_
        refine lv_iadd hx hb d_Y_support_54 ?_
        refine rd_top (z := nI (sc + 1)) (nI_1 sc) ?_
        refine va_put (D := D) (ci := 1) (v := .int (nI (sc + 1))) (ty := .int) (C := RY) (T := TY) (N := 14) hx hb hts inY tyY tyY_ok nmY hown hK hP hD hS 0 rfl rfl 8 (by decide) (hts _ f_Y_54) (fun _ h9 => h9) rfl (by decide +kernel) rfl rfl (Nat.le_of_ble_eq_true rfl) d_Y_support_55 (fun H locs hP hD hS => ?_)
        have hP : va_P D clX (wY h cI cZ n bt.testBit rk wt cl cc (va_up ow sc k) (va_up su sc (y.toBitVec.toNat % 2 ^ 11)) (sc + 1) od kn ke rp rc) H := hP
        have hD : va_D _ (wY h cI cZ n bt.testBit rk wt cl cc (va_up ow sc k) (va_up su sc (y.toBitVec.toNat % 2 ^ 11)) (sc + 1) od kn ke rp rc) := hD
        refine lv_iconst (v := 0) hx hb d_Y_support_58 (by decide) ?_
        refine lv_istore_n (lv' := [(3, .int 0), (0, .ref (h 0)), (1, .int (nI k)), (2, .int y)]) hx hb d_Y_support_59 rfl hl (by decide) rfl (fun ls hl => ?_)
        refine lv_iconst (v := 0) hx hb d_Y_support_60 (by decide) ?_
        refine lv_istore (lv' := [(4, .int 0), (3, .int 0), (0, .ref (h 0)), (1, .int (nI k)), (2, .int y)]) hx hb d_Y_support_61 hl (by decide) rfl (fun ls hl => ?_)
        refine wr_loop (nL := 5) (σ := Nat) (sc + 1) (fun i x => [(0, .ref (h 0)), (1, .int (nI k)), (2, .int y), (3, .int (nI x)), (4, .int (nI i))]) (fun i x => wY h cI cZ n bt.testBit rk wt cl cc (va_up ow sc k) (va_up su sc (y.toBitVec.toNat % 2 ^ 11)) (sc + 1) od kn ke rp rc) (fun i x => x = cntB (fun j => decide (va_up ow sc k j = k)) i) ?_ 0 0 ls _ _ (Nat.zero_le _) (rfl) (lv_sub hl [2, 3, 4, 1, 0] rfl) hP hD hS
        intro i x ls H locs hi hI hl hP hD hS ih
        have hI : x = cntB (fun j => decide (va_up ow sc k j = k)) i := hI
        have hl : lv_has ls 5 [(0, .ref (h 0)), (1, .int (nI k)), (2, .int y), (3, .int (nI x)), (4, .int (nI i))] := hl
        have hP : va_P D clX (wY h cI cZ n bt.testBit rk wt cl cc (va_up ow sc k) (va_up su sc (y.toBitVec.toNat % 2 ^ 11)) (sc + 1) od kn ke rp rc) H := hP
        have hD : va_D _ (wY h cI cZ n bt.testBit rk wt cl cc (va_up ow sc k) (va_up su sc (y.toBitVec.toNat % 2 ^ 11)) (sc + 1) od kn ke rp rc) := hD
        refine lv_iload hx hb d_Y_support_63 (lv_at hl 4 rfl) ?_
        refine lv_aload_n hx hb d_Y_support_65 rfl (lv_at hl 0 rfl) ?_
        refine va_get (D := D) (ci := 1) (v := .int (nI (sc + 1))) (C := RY) (T := TY) (N := 14) hx hb hts inY hown hK hP 0 rfl rfl 8 (by decide) (hts _ f_Y_54) (fun _ h9 => h9) rfl d_Y_support_66 ?_
        refine lv_icmp_ge (tgt := 97) hx hb d_Y_support_69 (by decide) (fun c69 => ?_) (fun c69 => ?_)
        · have hN : i = sc + 1 := lp_ge hi (by omega) c69
          refine lv_iload_n hx hb d_Y_support_97 rfl (lv_at hl 3 rfl) ?_
          have hs : (sSupport n bt rk wt cl cc su ow sc od (nI k) y) = ((nI x), (n, bt, rk, wt, cl, cc, va_up su sc (y.toBitVec.toNat % 2 ^ 11), va_up ow sc k, sc + 1, od)) := by unfold sSupport; rw [if_pos hx0, if_neg (show ¬ sc = 20 by omega), nI_clamp (show k < 2 ^ 31 by omega), hI, hN]
          exact wE_iret ((n, bt, rk, wt, cl, cc, va_up su sc (y.toBitVec.toNat % 2 ^ 11), va_up ow sc k, sc + 1, od), (kn, ke, rp, rc)) hx hb hr hlocks d_Y_support_98 hS hP ⟨by rw [hs], hc⟩ (by rw [hs])
        · have hlt : i < sc + 1 := lp_lt hi (by omega) c69
          refine lv_iload_n hx hb d_Y_support_72 rfl (lv_at hl 3 rfl) ?_
          refine lv_aload_n hx hb d_Y_support_73 rfl (lv_at hl 0 rfl) ?_
          refine va_get (D := D) (ci := 1) (v := .ref (h 5)) (C := RY) (T := TY) (N := 14) hx hb hts inY hown hK hP 0 rfl rfl 6 (by decide) (hts _ f_Y_23) (fun _ h9 => h9) rfl d_Y_support_74 ?_
          refine lv_iload hx hb d_Y_support_77 (lv_at hl 4 rfl) ?_
          refine va_iald hx hb hK hP 5 0 rfl rfl (vp_in_nI (show i < 20 by omega) (by decide)) d_Y_support_79 ?_
          refine rd_top (z := nI (va_up ow sc k i)) (ar_nI (va_up ow sc k) (by omega)) ?_
          refine lv_iload_n hx hb d_Y_support_80 rfl (lv_at hl 1 rfl) ?_
          refine lv_icmp_ne (tgt := 88) hx hb d_Y_support_81 (by decide) (fun c81 => ?_) (fun c81 => ?_)
          · refine lv_iconst (v := 0) hx hb d_Y_support_88 (by decide) ?_
            refine lv_iadd hx hb d_Y_support_89 ?_
            refine rd_top (z := nI x) (Int32.add_zero _) ?_
            refine lv_istore_n (lv' := [(3, .int (nI x)), (0, .ref (h 0)), (1, .int (nI k)), (2, .int y), (4, .int (nI i))]) hx hb d_Y_support_90 rfl hl (by decide) rfl (fun ls hl => ?_)
            refine lv_iinc (v := (nI (i + 1))) (lv' := [(4, .int (nI (i + 1))), (3, .int (nI x)), (0, .ref (h 0)), (1, .int (nI k)), (2, .int y)]) hx hb d_Y_support_91 hl (k := 4) rfl (nI_1 i) (by decide) rfl (fun ls hl => ?_)
            refine lv_goto (tgt := 63) hx hb d_Y_support_94 (by decide) ?_
            exact ih hlt x ls _ _ (cnt_f hI (decide_eq_false (fun q => c81 (congrArg nI q)))) (lv_sub hl [2, 3, 4, 1, 0] rfl) hP hD hS
          · refine lv_iconst (v := 1) hx hb d_Y_support_84 (by decide) ?_
            refine lv_goto (tgt := 89) hx hb d_Y_support_85 (by decide) ?_
            refine lv_iadd hx hb d_Y_support_89 ?_
            refine rd_top (z := nI (x + 1)) (nI_1 x) ?_
            refine lv_istore_n (lv' := [(3, .int (nI (x + 1))), (0, .ref (h 0)), (1, .int (nI k)), (2, .int y), (4, .int (nI i))]) hx hb d_Y_support_90 rfl hl (by decide) rfl (fun ls hl => ?_)
            refine lv_iinc (v := (nI (i + 1))) (lv' := [(4, .int (nI (i + 1))), (3, .int (nI (x + 1))), (0, .ref (h 0)), (1, .int (nI k)), (2, .int y)]) hx hb d_Y_support_91 hl (k := 4) rfl (nI_1 i) (by decide) rfl (fun ls hl => ?_)
            refine lv_goto (tgt := 63) hx hb d_Y_support_94 (by decide) ?_
            exact ih hlt (x + 1) ls _ _ (cnt_t hI (decide_eq_true ((nI_eq (by have := va_up_lt (k := sc) hsa hk i; omega) (by omega)).mp c81))) (lv_sub hl [2, 3, 4, 1, 0] rfl) hP hD hS
      · have hc4 : sc = 20 := (nI_eq (b := 20) (by omega) (by decide)).mp c18
        refine lv_bipush (v := (-3)) hx hb d_Y_support_21 (by decide) ?_
        have hs : (sSupport n bt rk wt cl cc su ow sc od (nI k) y) = ((-3), (n, bt, rk, wt, cl, cc, su, ow, sc, od)) := by unfold sSupport; rw [if_pos hx0, if_pos hc4]
        exact wE_iret ((n, bt, rk, wt, cl, cc, su, ow, sc, od), (kn, ke, rp, rc)) hx hb hr hlocks d_Y_support_23 hS hP ⟨by rw [hs], hc⟩ (by rw [hs])
    · refine lv_iconst (v := (-1)) hx hb d_Y_support_10 (by decide) ?_
      have hs : (sSupport n bt rk wt cl cc su ow sc od x y) = ((-1), (n, bt, rk, wt, cl, cc, su, ow, sc, od)) := by unfold sSupport; rw [if_neg (show ¬ okA x = true by unfold okA; rw [decide_eq_true (Int32.not_lt.mp c7), Bool.not_true, Bool.and_false]; decide)]
      exact wE_iret ((n, bt, rk, wt, cl, cc, su, ow, sc, od), (kn, ke, rp, rc)) hx hb hr hlocks d_Y_support_11 hS hP ⟨by rw [hs], hc⟩ (by rw [hs])
set_option maxHeartbeats 4000000 in
set_option maxRecDepth 100000 in
theorem c_Y_order (l : Launch) (sz : Nat) (x : Int32) (hg : gdA (n, bt, rk, wt, cl, cc, su, ow, sc, od)) (hc : okC (n, bt, rk, wt, cl, cc, su, ow, sc, od) kn rp rc) : Met l y_Y_order w_Y_order (k2_rm 0 0) (wr_Pc D clX (wY h cI cZ n bt.testBit rk wt cl cc ow su sc od kn ke rp rc) [(cI, .int), (cZ, .boolean)] sz [.ref (h 0), .int x]) (wE_Q D clX (wY h cI cZ n bt.testBit rk wt cl cc ow su sc od kn ke rp rc) (σ := stA × stD) (wYt h cI cZ) (fun _ => some (.int (sOrder n bt rk wt cl cc su ow sc od x).1)) (fun u => u.1 = (sOrder n bt rk wt cl cc su ow sc od x).2 ∧ ocY u) sz) 0 0 (va_A (wY h cI cZ n bt.testBit rk wt cl cc ow su sc od kn ke rp rc) sz) := by
  refine wE_met (by decide) rfl (Nat.le_of_ble_eq_true rfl) rfl ?_
  intro p e s m below meth c ls hx hb hr hml hown hts hlocks hP hK hD hS hA hl
  have hts : ∀ w ∈ tbl, w.before _ s = true := fun w h => hts w (List.mem_cons_of_mem _ h)
  have hown : s.vm.findClass RY = some m.cls := hown
  have hl : lv_has ls 2 [(0, .ref (h 0)), (1, .int x)] := hl
  obtain ⟨hn, hbt, hrk, hwt, hwp, hcc, hcl, hsc, hsa, hsu, ho⟩ := id hg
  have hbt3 : bt < 2 ^ 31 := Nat.lt_of_lt_of_le hbt (Nat.pow_le_pow_right (by decide) (by omega))
  have hlen : (reps n bt rk wt cl cc od).length ≤ 462 := rep_len hn (Nat.le_refl _) hrk hwp
  refine lv_iload_n hx hb d_Y_order_0 rfl (lv_at hl 1 rfl) ?_
  refine lv_if_lt (tgt := 9) hx hb d_Y_order_1 (by decide) (fun c1 => ?_) (fun c1 => ?_)
  · refine lv_iconst (v := (-1)) hx hb d_Y_order_9 (by decide) ?_
    have hs : (sOrder n bt rk wt cl cc su ow sc od x) = ((-1), (n, bt, rk, wt, cl, cc, su, ow, sc, od)) := by unfold sOrder; rw [if_neg (show ¬ okO x = true by unfold okO; rw [decide_eq_true c1, Bool.not_true, Bool.false_and]; decide)]
    exact wE_iret ((n, bt, rk, wt, cl, cc, su, ow, sc, od), (kn, ke, rp, rc)) hx hb hr hlocks d_Y_order_10 hS hP ⟨by rw [hs], hc⟩ (by rw [hs])
  · refine lv_iload_n hx hb d_Y_order_4 rfl (lv_at hl 1 rfl) ?_
    refine lv_iconst (v := 3) hx hb d_Y_order_5 (by decide) ?_
    refine lv_icmp_le (tgt := 11) hx hb d_Y_order_6 (by decide) (fun c6 => ?_) (fun c6 => ?_)
    · have hx0 := (show okO x = true by unfold okO; rw [decide_eq_false c1, decide_eq_false (Int32.not_lt.mpr c6)]; rfl)
      obtain ⟨k, hk, ek⟩ := okO_of hx0
      subst ek
      refine lv_aload_n hx hb d_Y_order_11 rfl (lv_at hl 0 rfl) ?_
      refine lv_iload_n hx hb d_Y_order_12 rfl (lv_at hl 1 rfl) ?_
      refine va_put (D := D) (ci := 1) (v := .int (nI k)) (ty := .int) (C := RY) (T := TY) (N := 14) hx hb hts inY tyY tyY_ok nmY hown hK hP hD hS 0 rfl rfl 9 (by decide) (hts _ f_Y_57) (fun _ h9 => h9) rfl (by decide +kernel) rfl rfl (Nat.le_of_ble_eq_true rfl) d_Y_order_13 (fun H locs hP hD hS => ?_)
      have hP : va_P D clX (wY h cI cZ n bt.testBit rk wt cl cc ow su sc k kn ke rp rc) H := hP
      have hD : va_D _ (wY h cI cZ n bt.testBit rk wt cl cc ow su sc k kn ke rp rc) := hD
      refine lv_aload_n hx hb d_Y_order_16 rfl (lv_at hl 0 rfl) ?_
      refine lv_iconst (v := 0) hx hb d_Y_order_17 (by decide) ?_
      refine va_put (D := D) (ci := 1) (v := .int 0) (ty := .boolean) (C := RY) (T := TY) (N := 14) hx hb hts inY tyY tyY_ok nmY hown hK hP hD hS 0 rfl rfl 10 (by decide) (hts _ f_Y_43) (fun _ h9 => h9) rfl (by decide +kernel) rfl rfl (Nat.le_of_ble_eq_true rfl) d_Y_order_18 (fun H locs hP hD hS => ?_)
      have hP : va_P D clX (wY h cI cZ n bt.testBit rk wt cl cc ow su sc k false ke rp rc) H := hP
      have hD : va_D _ (wY h cI cZ n bt.testBit rk wt cl cc ow su sc k false ke rp rc) := hD
      refine lv_iconst (v := 1) hx hb d_Y_order_21 (by decide) ?_
      have hs : (sOrder n bt rk wt cl cc su ow sc od (nI k)) = (1, (n, bt, rk, wt, cl, cc, su, ow, sc, k)) := by unfold sOrder; rw [if_pos hx0, nI_clamp (show k < 2 ^ 31 by omega)]
      exact wE_iret ((n, bt, rk, wt, cl, cc, su, ow, sc, k), (false, ke, rp, rc)) hx hb hr hlocks d_Y_order_22 hS hP ⟨by rw [hs], okC_f⟩ (by rw [hs])
    · refine lv_iconst (v := (-1)) hx hb d_Y_order_9 (by decide) ?_
      have hs : (sOrder n bt rk wt cl cc su ow sc od x) = ((-1), (n, bt, rk, wt, cl, cc, su, ow, sc, od)) := by unfold sOrder; rw [if_neg (show ¬ okO x = true by unfold okO; rw [decide_eq_true (Int32.not_le.mp c6), Bool.not_true, Bool.and_false]; decide)]
      exact wE_iret ((n, bt, rk, wt, cl, cc, su, ow, sc, od), (kn, ke, rp, rc)) hx hb hr hlocks d_Y_order_10 hS hP ⟨by rw [hs], hc⟩ (by rw [hs])
end MY4

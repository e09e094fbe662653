section MY3
variable {D : va_G} {h : Nat → Nat} {cI cZ : ClassId} {n bt : Nat} {rk wt cl : Nat → Nat} {cc : Nat} {ow su : Nat → Nat} {sc od : Nat} {kn : Bool} {ke : Nat → Bool} {rp : Nat → Nat} {rc : Nat}
theorem wk_dec {N j : Nat} (h : j < N) : (nI (N - j) - 1) + (-1) = nI (N - (j + 1)) - 1 := by
  rw [bx_dec (show 0 < N - j by omega), show N - (j + 1) = N - j - 1 by omega]
  rw [Int32.sub_eq_add_neg]
theorem wk_neg {N j : Nat} (hj : j ≤ N) (hN : N < 2 ^ 31) : nI (N - j) - 1 < 0 ↔ j = N := by
  rcases Nat.lt_or_ge j N with q | q
  · rw [bx_dec (show 0 < N - j by omega)]
    exact ⟨fun z => absurd z (nI_pos (by omega)), fun z => by omega⟩
  · rw [show N - j = 0 by omega]
    exact ⟨fun _ => by omega, fun _ => by decide⟩
set_option maxHeartbeats 4000000 in
set_option maxRecDepth 100000 in
theorem c_Y_work (l : Launch) (sz : Nat) (hg : gdA (n, bt, rk, wt, cl, cc, su, ow, sc, od)) (hc : okC (n, bt, rk, wt, cl, cc, su, ow, sc, od) kn rp rc) : Met l y_Y_work w_Y_work (k2_rm 3 73) (wr_Pc D clX (wY h cI cZ n bt.testBit rk wt cl cc ow su sc od kn ke rp rc) [(cI, .int), (cZ, .boolean)] sz [.ref (h 0)]) (wE_Q D clX (wY h cI cZ n bt.testBit rk wt cl cc ow su sc od kn ke rp rc) (σ := (Nat → Bool) × (Nat → Nat)) (fun u => wY h cI cZ n bt.testBit rk wt cl cc ow su sc od true u.1 u.2 ((reps n bt rk wt cl cc od).length)) (fun _ => none) (fun u => isArr u.2 (reps n bt rk wt cl cc od)) sz) 0 0 (va_A (wY h cI cZ n bt.testBit rk wt cl cc ow su sc od kn ke rp rc) sz) := by
  refine wE_met (by decide) rfl (Nat.le_of_ble_eq_true rfl) rfl ?_
  intro p e s m below meth c ls hx hb hr hml hown hts hlocks hP hK hD hS hA hl
  have hts : ∀ w ∈ tbl, w.before _ s = true := fun w h => hts w (List.mem_cons_of_mem _ h)
  have hown : s.vm.findClass RY = some m.cls := hown
  have hl : lv_has ls 4 [(0, .ref (h 0))] := hl
  obtain ⟨hn, hbt, hrk, hwt, hwp, hcc, hcl, hsc, hsa, hsu, ho⟩ := id hg
  have hb3 : 2 ^ n ≤ 2048 := bx_p2 hn
  refine lv_aload_n hx hb d_Y_work_0 rfl (lv_at hl 0 rfl) ?_
  refine va_get (D := D) (ci := 1) (v := .int (bI kn)) (C := RY) (T := TY) (N := 14) hx hb hts inY hown hK hP 0 rfl rfl 10 (by decide) (hts _ f_Y_43) (fun _ h9 => h9) rfl d_Y_work_1 ?_
  refine lv_if_eq (tgt := 8) hx hb d_Y_work_4 (by decide) (fun c4 => ?_) (fun c4 => ?_)
  · refine lv_iconst (v := 1) hx hb d_Y_work_8 (by decide) ?_
    refine lv_aload_n hx hb d_Y_work_9 rfl (lv_at hl 0 rfl) ?_
    refine va_get (D := D) (ci := 1) (v := .int (nI n)) (C := RY) (T := TY) (N := 14) hx hb hts inY hown hK hP 0 rfl rfl 0 (by decide) (hts _ f_Y_35) (fun _ h9 => h9) rfl d_Y_work_10 ?_
    refine lv_ishl hx hb d_Y_work_13 ?_
    refine rd_top (z := nI (2 ^ n)) (bx_shl n (by omega)) ?_
    refine lv_istore_n (lv' := [(1, .int (nI (2 ^ n))), (0, .ref (h 0))]) hx hb d_Y_work_14 rfl hl (by decide) rfl (fun ls hl => ?_)
    refine lv_iconst (v := 0) hx hb d_Y_work_15 (by decide) ?_
    refine lv_istore_n (lv' := [(2, .int 0), (1, .int (nI (2 ^ n))), (0, .ref (h 0))]) hx hb d_Y_work_16 rfl hl (by decide) rfl (fun ls hl => ?_)
    refine wr_loop (nL := 4) (σ := Nat → Bool) (2 ^ n) (fun i g1 => [(0, .ref (h 0)), (1, .int (nI (2 ^ n))), (2, .int (nI i))]) (fun i g1 => wY h cI cZ n bt.testBit rk wt cl cc ow su sc od kn g1 rp rc) (fun i g1 => ∀ S, S < i → g1 S = kepX bt cl cc S) ?_ 0 ke ls _ _ (Nat.zero_le _) (fun S hS2 => absurd hS2 (Nat.not_lt_zero S)) (lv_sub hl [2, 1, 0] rfl) hP hD hS
    intro i g1 ls H locs hi hI hl hP hD hS ih
    have hI : ∀ S, S < i → g1 S = kepX bt cl cc S := hI
    have hl : lv_has ls 4 [(0, .ref (h 0)), (1, .int (nI (2 ^ n))), (2, .int (nI i))] := hl
    have hP : va_P D clX (wY h cI cZ n bt.testBit rk wt cl cc ow su sc od kn g1 rp rc) H := hP
    have hD : va_D _ (wY h cI cZ n bt.testBit rk wt cl cc ow su sc od kn g1 rp rc) := hD
    refine lv_iload_n hx hb d_Y_work_17 rfl (lv_at hl 2 rfl) ?_
    refine lv_iload_n hx hb d_Y_work_18 rfl (lv_at hl 1 rfl) ?_
    refine lv_icmp_ge (tgt := 39) hx hb d_Y_work_19 (by decide) (fun c19 => ?_) (fun c19 => ?_)
    · have hN : i = 2 ^ n := lp_ge hi (by omega) c19
      have hke : ∀ S, S < 2 ^ n → g1 S = kepX bt cl cc S := fun S hS2 => hI S (by rw [hN]; exact hS2)
      refine lv_aload_n hx hb d_Y_work_39 rfl (lv_at hl 0 rfl) ?_
      refine lv_iconst (v := 0) hx hb d_Y_work_40 (by decide) ?_
      refine va_put (D := D) (ci := 1) (v := .int 0) (ty := .int) (C := RY) (T := TY) (N := 14) hx hb hts inY tyY tyY_ok nmY hown hK hP hD hS 0 rfl rfl 13 (by decide) (hts _ f_Y_74) (fun _ h9 => h9) rfl (by decide +kernel) rfl rfl (Nat.le_of_ble_eq_true rfl) d_Y_work_41 (fun H locs hP hD hS => ?_)
      have hP : va_P D clX (wY h cI cZ n bt.testBit rk wt cl cc ow su sc od kn g1 rp 0) H := hP
      have hD : va_D _ (wY h cI cZ n bt.testBit rk wt cl cc ow su sc od kn g1 rp 0) := hD
      refine lv_iconst (v := 0) hx hb d_Y_work_44 (by decide) ?_
      refine lv_istore_n (lv' := [(2, .int 0), (0, .ref (h 0)), (1, .int (nI (2 ^ n)))]) hx hb d_Y_work_45 rfl hl (by decide) rfl (fun ls hl => ?_)
      refine wr_loop (nL := 4) (σ := Nat → Nat) (2 ^ n) (fun i x => [(0, .ref (h 0)), (1, .int (nI (2 ^ n))), (2, .int (nI i))]) (fun i x => wY h cI cZ n bt.testBit rk wt cl cc ow su sc od kn g1 x ((flt (isRep n bt rk wt cl cc od) i).length)) (fun i x => isArr x (flt (isRep n bt rk wt cl cc od) i)) ?_ 0 rp ls _ _ (Nat.zero_le _) (isArr_nil rp) (lv_sub hl [1, 2, 0] rfl) hP hD hS
      intro i x ls H locs hi hI hl hP hD hS ih
      have hIo : isArr x (flt (isRep n bt rk wt cl cc od) i) := hI
      have ih0 := ih
      have hl : lv_has ls 4 [(0, .ref (h 0)), (1, .int (nI (2 ^ n))), (2, .int (nI i))] := hl
      have hP : va_P D clX (wY h cI cZ n bt.testBit rk wt cl cc ow su sc od kn g1 x ((flt (isRep n bt rk wt cl cc od) i).length)) H := hP
      have hD : va_D _ (wY h cI cZ n bt.testBit rk wt cl cc ow su sc od kn g1 x ((flt (isRep n bt rk wt cl cc od) i).length)) := hD
      refine lv_iload_n hx hb d_Y_work_46 rfl (lv_at hl 2 rfl) ?_
      refine lv_iload_n hx hb d_Y_work_47 rfl (lv_at hl 1 rfl) ?_
      refine lv_icmp_ge (tgt := 132) hx hb d_Y_work_48 (by decide) (fun c48 => ?_) (fun c48 => ?_)
      · have hN : i = 2 ^ n := lp_ge hi (by omega) c48
        refine lv_aload_n hx hb d_Y_work_132 rfl (lv_at hl 0 rfl) ?_
        refine lv_iconst (v := 1) hx hb d_Y_work_133 (by decide) ?_
        refine va_put (D := D) (ci := 1) (v := .int 1) (ty := .boolean) (C := RY) (T := TY) (N := 14) hx hb hts inY tyY tyY_ok nmY hown hK hP hD hS 0 rfl rfl 10 (by decide) (hts _ f_Y_43) (fun _ h9 => h9) rfl (by decide +kernel) rfl rfl (Nat.le_of_ble_eq_true rfl) d_Y_work_134 (fun H locs hP hD hS => ?_)
        have hP : va_P D clX (wY h cI cZ n bt.testBit rk wt cl cc ow su sc od true g1 x ((flt (isRep n bt rk wt cl cc od) i).length)) H := hP
        have hD : va_D _ (wY h cI cZ n bt.testBit rk wt cl cc ow su sc od true g1 x ((flt (isRep n bt rk wt cl cc od) i).length)) := hD
        exact wE_vret (g1, x) hx hb hr hlocks d_Y_work_137 hS (by show va_P D clX (wY h cI cZ n bt.testBit rk wt cl cc ow su sc od true g1 x ((reps n bt rk wt cl cc od).length)) H; rw [show (reps n bt rk wt cl cc od).length = (flt (isRep n bt rk wt cl cc od) i).length by rw [hN]; rfl]; exact hP) (by show isArr x (flt (isRep n bt rk wt cl cc od) (2 ^ n)); rw [← hN]; exact hIo) rfl
      · have hlt : i < 2 ^ n := lp_lt hi (by omega) c48
        refine lv_aload_n hx hb d_Y_work_51 rfl (lv_at hl 0 rfl) ?_
        refine va_get (D := D) (ci := 1) (v := .ref (h 7)) (C := RY) (T := TY) (N := 14) hx hb hts inY hown hK hP 0 rfl rfl 11 (by decide) (hts _ f_Y_29) (fun _ h9 => h9) rfl d_Y_work_52 ?_
        refine lv_iload_n hx hb d_Y_work_55 rfl (lv_at hl 2 rfl) ?_
        refine va_zald hx hb hK hP 7 1 rfl rfl (vp_in_nI (show i < 2048 by omega) (by decide)) d_Y_work_56 ?_
        refine rd_top (z := bI (g1 i)) (ar_bI g1 (by omega)) ?_
        refine lv_if_ne (tgt := 63) hx hb d_Y_work_57 (by decide) (fun c57 => ?_) (fun c57 => ?_)
        · have hki : kepX bt cl cc i = true := by rw [← hke i hlt]; exact (show g1 i = true by cases hq : g1 i; exact absurd (bI_0.mpr hq) c57; rfl)
          refine lv_iload_n hx hb d_Y_work_63 rfl (lv_at hl 1 rfl) ?_
          refine lv_iconst (v := 1) hx hb d_Y_work_64 (by decide) ?_
          refine lv_isub hx hb d_Y_work_65 ?_
          refine rd_top (z := nI (2 ^ n - 0) - 1) (rfl) ?_
          refine lv_istore_n (lv' := [(3, .int (nI (2 ^ n - 0) - 1)), (0, .ref (h 0)), (1, .int (nI (2 ^ n))), (2, .int (nI i))]) hx hb d_Y_work_66 rfl hl (by decide) rfl (fun ls hl => ?_)
          refine wr_loop (nL := 4) (σ := Unit) (2 ^ n) (fun j _ => [(0, .ref (h 0)), (1, .int (nI (2 ^ n))), (2, .int (nI i)), (3, .int (nI (2 ^ n - j) - 1))]) (fun j _ => wY h cI cZ n bt.testBit rk wt cl cc ow su sc od kn g1 x ((flt (isRep n bt rk wt cl cc od) i).length)) (fun j _ => ∀ T, 2 ^ n - j ≤ T → T < 2 ^ n → (kepX bt cl cc T && betX n bt rk wt T i od) = false) ?_ 0 () ls _ _ (Nat.zero_le _) (fun T h1 h2 => by omega) (lv_sub hl [1, 2, 3, 0] rfl) hP hD hS
          intro j _ ls H locs hi hI hl hP hD hS ih
          have hI : ∀ T, 2 ^ n - j ≤ T → T < 2 ^ n → (kepX bt cl cc T && betX n bt rk wt T i od) = false := hI
          have hl : lv_has ls 4 [(0, .ref (h 0)), (1, .int (nI (2 ^ n))), (2, .int (nI i)), (3, .int (nI (2 ^ n - j) - 1))] := hl
          have hP : va_P D clX (wY h cI cZ n bt.testBit rk wt cl cc ow su sc od kn g1 x ((flt (isRep n bt rk wt cl cc od) i).length)) H := hP
          have hD : va_D _ (wY h cI cZ n bt.testBit rk wt cl cc ow su sc od kn g1 x ((flt (isRep n bt rk wt cl cc od) i).length)) := hD
          refine lv_iload_n hx hb d_Y_work_67 rfl (lv_at hl 3 rfl) ?_
          refine lv_if_lt (tgt := 99) hx hb d_Y_work_68 (by decide) (fun c68 => ?_) (fun c68 => ?_)
          · have hjN : j = 2 ^ n := (wk_neg hi (by omega)).mp c68
            have hPi : (isRep n bt rk wt cl cc od) i = true := by
              unfold isRep
              rw [hki, anyB_not.mpr (fun T hT => hI T (by omega) hT)]
              rfl
            refine lv_iload_n hx hb d_Y_work_99 rfl (lv_at hl 3 rfl) ?_
            refine lv_if_lt (tgt := 106) hx hb d_Y_work_100 (by decide) (fun c100 => ?_) (fun c100 => ?_)
            · have hle3 : (flt (isRep n bt rk wt cl cc od) i).length ≤ i := by rw [flt_len]; exact cntB_le
              refine lv_aload_n hx hb d_Y_work_106 rfl (lv_at hl 0 rfl) ?_
              refine va_get (D := D) (ci := 1) (v := .ref (h 8)) (C := RY) (T := TY) (N := 14) hx hb hts inY hown hK hP 0 rfl rfl 12 (by decide) (hts _ f_Y_32) (fun _ h9 => h9) rfl d_Y_work_107 ?_
              refine lv_aload_n hx hb d_Y_work_110 rfl (lv_at hl 0 rfl) ?_
              refine va_get (D := D) (ci := 1) (v := .int (nI ((flt (isRep n bt rk wt cl cc od) i).length))) (C := RY) (T := TY) (N := 14) hx hb hts inY hown hK hP 0 rfl rfl 13 (by decide) (hts _ f_Y_74) (fun _ h9 => h9) rfl d_Y_work_111 ?_
              refine lv_iload_n hx hb d_Y_work_114 rfl (lv_at hl 2 rfl) ?_
              refine va_iast hx hb hK hP hD hS 8 0 rfl rfl (vp_in_nI (show (flt (isRep n bt rk wt cl cc od) i).length < 2048 by omega) (by decide)) d_Y_work_115 (fun H locs hP hD hS => ?_)
              have hu : upd (fun j => nI (x j)) (nI ((flt (isRep n bt rk wt cl cc od) i).length)).toNatClampNeg (nI i) = fun j => nI ((va_up x (flt (isRep n bt rk wt cl cc od) i).length i) j) := by rw [nI_clamp (by omega)]; exact upd_nI x _ i
              rw [hu] at hP hD
              have hP : va_P D clX (wY h cI cZ n bt.testBit rk wt cl cc ow su sc od kn g1 (va_up x (flt (isRep n bt rk wt cl cc od) i).length i) ((flt (isRep n bt rk wt cl cc od) i).length)) H := hP
              have hD : va_D _ (wY h cI cZ n bt.testBit rk wt cl cc ow su sc od kn g1 (va_up x (flt (isRep n bt rk wt cl cc od) i).length i) ((flt (isRep n bt rk wt cl cc od) i).length)) := hD
              refine lv_aload_n hx hb d_Y_work_116 rfl (lv_at hl 0 rfl) ?_
              refine lv_dup hx hb d_Y_work_117 rfl ?_
              refine va_get (D := D) (ci := 1) (v := .int (nI ((flt (isRep n bt rk wt cl cc od) i).length))) (C := RY) (T := TY) (N := 14) hx hb hts inY hown hK hP 0 rfl rfl 13 (by decide) (hts _ f_Y_74) (fun _ h9 => h9) rfl d_Y_work_118 ?_
              refine lv_iconst (v := 1) hx hb d_Y_work_121 (by decide) ?_
              refine lv_iadd hx hb d_Y_work_122 ?_
              refine rd_top (z := nI ((flt (isRep n bt rk wt cl cc od) i).length + 1)) (nI_1 _) ?_
              refine va_put (D := D) (ci := 1) (v := .int (nI ((flt (isRep n bt rk wt cl cc od) i).length + 1))) (ty := .int) (C := RY) (T := TY) (N := 14) hx hb hts inY tyY tyY_ok nmY hown hK hP hD hS 0 rfl rfl 13 (by decide) (hts _ f_Y_74) (fun _ h9 => h9) rfl (by decide +kernel) rfl rfl (Nat.le_of_ble_eq_true rfl) d_Y_work_123 (fun H locs hP hD hS => ?_)
              have hP : va_P D clX (wY h cI cZ n bt.testBit rk wt cl cc ow su sc od kn g1 (va_up x (flt (isRep n bt rk wt cl cc od) i).length i) ((flt (isRep n bt rk wt cl cc od) i).length + 1)) H := hP
              have hD : va_D _ (wY h cI cZ n bt.testBit rk wt cl cc ow su sc od kn g1 (va_up x (flt (isRep n bt rk wt cl cc od) i).length i) ((flt (isRep n bt rk wt cl cc od) i).length + 1)) := hD
              refine lv_iinc (v := (nI (i + 1))) (lv' := [(2, .int (nI (i + 1))), (0, .ref (h 0)), (1, .int (nI (2 ^ n))), (3, .int (nI (2 ^ n - j) - 1))]) hx hb d_Y_work_126 hl (k := 2) rfl (nI_1 i) (by decide) rfl (fun ls hl => ?_)
              refine lv_goto (tgt := 46) hx hb d_Y_work_129 (by decide) ?_
              exact ih0 hlt (va_up x (flt (isRep n bt rk wt cl cc od) i).length i) ls _ _ (by show isArr _ (flt (isRep n bt rk wt cl cc od) (i + 1)); rw [flt_t hPi]; exact isArr_push hIo i) (lv_sub hl [1, 2, 0] rfl) (by rw [flt_t hPi, List.length_append, List.length_singleton]; exact hP) (wr_D hD rfl) hS
            · exact absurd ((wk_neg hi (by omega)).mpr hjN) c100
          · have hjl : j < 2 ^ n := by rcases Nat.lt_or_ge j (2 ^ n) with q | q; exact q; exact absurd ((wk_neg hi (by omega)).mpr (by omega)) c68
            refine lv_aload_n hx hb d_Y_work_71 rfl (lv_at hl 0 rfl) ?_
            refine va_get (D := D) (ci := 1) (v := .ref (h 7)) (C := RY) (T := TY) (N := 14) hx hb hts inY hown hK hP 0 rfl rfl 11 (by decide) (hts _ f_Y_29) (fun _ h9 => h9) rfl d_Y_work_72 ?_
            refine lv_iload_n hx hb d_Y_work_75 rfl (lv_at hl 3 rfl) ?_
            refine rd_top (z := nI (2 ^ n - 1 - j)) (by rw [bx_dec (show 0 < 2 ^ n - j by omega), show 2 ^ n - j - 1 = 2 ^ n - 1 - j by omega]) ?_
            refine va_zald hx hb hK hP 7 1 rfl rfl (vp_in_nI (show (2 ^ n - 1 - j) < 2048 by omega) (by decide)) d_Y_work_76 ?_
            refine rd_top (z := bI (g1 (2 ^ n - 1 - j))) (ar_bI g1 (by omega)) ?_
            refine lv_if_eq (tgt := 93) hx hb d_Y_work_77 (by decide) (fun c77 => ?_) (fun c77 => ?_)
            · refine lv_iinc (v := (nI (2 ^ n - (j + 1)) - 1)) (lv' := [(3, .int (nI (2 ^ n - (j + 1)) - 1)), (0, .ref (h 0)), (1, .int (nI (2 ^ n))), (2, .int (nI i))]) hx hb d_Y_work_93 hl (k := 3) rfl (wk_dec hjl) (by decide) rfl (fun ls hl => ?_)
              refine lv_goto (tgt := 67) hx hb d_Y_work_96 (by decide) ?_
              exact ih hjl () ls _ _ (fun T h1 h2 => by rcases Nat.lt_or_ge (2 ^ n - 1 - j) T with q | q; exact hI T (by omega) h2; (rw [show T = (2 ^ n - 1 - j) by omega]; exact (by have h9 := hke (2 ^ n - 1 - j) (by omega); rw [bI_0.mp c77] at h9; rw [← h9]; rfl))) (lv_sub hl [1, 2, 3, 0] rfl) hP hD hS
            · refine lv_aload_n hx hb d_Y_work_80 rfl (lv_at hl 0 rfl) ?_
              refine lv_iload_n hx hb d_Y_work_81 rfl (lv_at hl 3 rfl) ?_
              refine rd_top (z := nI (2 ^ n - 1 - j)) (by rw [bx_dec (show 0 < 2 ^ n - j by omega), show 2 ^ n - j - 1 = 2 ^ n - 1 - j by omega]) ?_
              refine lv_iload_n hx hb d_Y_work_82 rfl (lv_at hl 2 rfl) ?_
              refine lv_aload_n hx hb d_Y_work_83 rfl (lv_at hl 0 rfl) ?_
              refine va_get (D := D) (ci := 1) (v := .int (nI od)) (C := RY) (T := TY) (N := 14) hx hb hts inY hown hK hP 0 rfl rfl 9 (by decide) (hts _ f_Y_57) (fun _ h9 => h9) rfl d_Y_work_84 ?_
              refine rd_V (As := [.int (nI (2 ^ n - 1 - j)), .int (nI i), .int (nI od)]) (rest := []) ⟨hx, hb, hml, hown, hts⟩ (c_Y_isBetter l (2 ^ n - 1 - j) i od hn hrk hwt (by omega) (by omega) ho) (cwV 3 hts g_Y_67 rfl rfl rfl (by decide +kernel) ⟨Nat.le_of_ble_eq_true rfl, Nat.le_of_ble_eq_true rfl⟩) hK hP 0 rfl rfl rfl hl.1 rfl (Nat.le_of_ble_eq_true rfl) d_Y_work_87 ⟨Nat.zero_le _, Nat.zero_le _⟩ ?_
              refine lv_if_ne (tgt := 99) hx hb d_Y_work_90 (by decide) (fun c90 => ?_) (fun c90 => ?_)
              · have hPi : (isRep n bt rk wt cl cc od) i = false := by
                  unfold isRep
                  rw [hki, anyB_of (P := fun T => kepX bt cl cc T && betX n bt rk wt T i od) (show (2 ^ n - 1 - j) < 2 ^ n by omega) (by show (kepX bt cl cc (2 ^ n - 1 - j) && betX n bt rk wt (2 ^ n - 1 - j) i od) = true; rw [← hke (2 ^ n - 1 - j) (by omega), ← bet_eq hn hrk ho, show g1 (2 ^ n - 1 - j) = true by cases hq : g1 (2 ^ n - 1 - j); exact absurd (bI_0.mpr hq) c77; rfl, show betY n bt rk wt (2 ^ n - 1 - j) i od = true by cases hq : betY n bt rk wt (2 ^ n - 1 - j) i od; exact absurd (bI_0.mpr hq) c90; rfl]; rfl)]
                  rfl
                refine lv_iload_n hx hb d_Y_work_99 rfl (lv_at hl 3 rfl) ?_
                refine lv_if_lt (tgt := 106) hx hb d_Y_work_100 (by decide) (fun c100 => ?_) (fun c100 => ?_)
                · exact absurd ((wk_neg hi (by omega)).mp c100) (by omega)
                · refine lv_goto (tgt := 126) hx hb d_Y_work_103 (by decide) ?_
                  refine lv_iinc (v := (nI (i + 1))) (lv' := [(2, .int (nI (i + 1))), (0, .ref (h 0)), (1, .int (nI (2 ^ n))), (3, .int (nI (2 ^ n - j) - 1))]) hx hb d_Y_work_126 hl (k := 2) rfl (nI_1 i) (by decide) rfl (fun ls hl => ?_)
                  refine lv_goto (tgt := 46) hx hb d_Y_work_129 (by decide) ?_
                  exact ih0 hlt x ls _ _ (by show isArr _ (flt (isRep n bt rk wt cl cc od) (i + 1)); rw [flt_f hPi]; exact hIo) (lv_sub hl [1, 2, 0] rfl) (by rw [flt_f hPi]; exact hP) (wr_D hD rfl) hS
              · refine lv_iinc (v := (nI (2 ^ n - (j + 1)) - 1)) (lv' := [(3, .int (nI (2 ^ n - (j + 1)) - 1)), (0, .ref (h 0)), (1, .int (nI (2 ^ n))), (2, .int (nI i))]) hx hb d_Y_work_93 hl (k := 3) rfl (wk_dec hjl) (by decide) rfl (fun ls hl => ?_)
                refine lv_goto (tgt := 67) hx hb d_Y_work_96 (by decide) ?_
                exact ih hjl () ls _ _ (fun T h1 h2 => by rcases Nat.lt_or_ge (2 ^ n - 1 - j) T with q | q; exact hI T (by omega) h2; (rw [show T = (2 ^ n - 1 - j) by omega]; exact (by have h9 := hke (2 ^ n - 1 - j) (by omega); rw [← bet_eq hn hrk ho, bI_0.mp c90, Bool.and_false]))) (lv_sub hl [1, 2, 3, 0] rfl) hP hD hS
        · have hPi : (isRep n bt rk wt cl cc od) i = false := by unfold isRep; rw [← hke i hlt, bI_0.mp c57]; rfl
          refine lv_goto (tgt := 126) hx hb d_Y_work_60 (by decide) ?_
          refine lv_iinc (v := (nI (i + 1))) (lv' := [(2, .int (nI (i + 1))), (0, .ref (h 0)), (1, .int (nI (2 ^ n)))]) hx hb d_Y_work_126 hl (k := 2) rfl (nI_1 i) (by decide) rfl (fun ls hl => ?_)
          refine lv_goto (tgt := 46) hx hb d_Y_work_129 (by decide) ?_
          exact ih0 hlt x ls _ _ (by show isArr _ (flt (isRep n bt rk wt cl cc od) (i + 1)); rw [flt_f hPi]; exact hIo) (lv_sub hl [1, 2, 0] rfl) (by rw [flt_f hPi]; exact hP) (wr_D hD rfl) hS
    · have hlt : i < 2 ^ n := lp_lt hi (by omega) c19
      refine lv_aload_n hx hb d_Y_work_22 rfl (lv_at hl 0 rfl) ?_
      refine va_get (D := D) (ci := 1) (v := .ref (h 7)) (C := RY) (T := TY) (N := 14) hx hb hts inY hown hK hP 0 rfl rfl 11 (by decide) (hts _ f_Y_29) (fun _ h9 => h9) rfl d_Y_work_23 ?_
      refine lv_iload_n hx hb d_Y_work_26 rfl (lv_at hl 2 rfl) ?_
      refine lv_aload_n hx hb d_Y_work_27 rfl (lv_at hl 0 rfl) ?_
      refine lv_iload_n hx hb d_Y_work_28 rfl (lv_at hl 2 rfl) ?_
      refine rd_V (As := [.int (nI i)]) (rest := [.int (nI i), .ref (h 7)]) ⟨hx, hb, hml, hown, hts⟩ (c_Y_isKept l i hn hbt (by omega) hcc hcl) (cwV 1 hts g_Y_71 rfl rfl rfl (by decide +kernel) ⟨Nat.le_of_ble_eq_true rfl, Nat.le_of_ble_eq_true rfl⟩) hK hP 0 rfl rfl rfl hl.1 rfl (Nat.le_of_ble_eq_true rfl) d_Y_work_29 ⟨Nat.zero_le _, Nat.zero_le _⟩ ?_
      refine va_zast hx hb hK hP hD hS 7 1 rfl rfl (vp_in_nI (show i < 2048 by omega) (by decide)) d_Y_work_32 (fun H locs hP hD hS => ?_)
      have hu : upd (fun j => bI (g1 j)) (nI i).toNatClampNeg (vp_nar .boolean (bI (kepX bt cl cc i))) = fun j => bI ((va_up g1 i (kepX bt cl cc i)) j) := by rw [nI_clamp (by omega)]; exact upd_bI g1 i _
      rw [hu] at hP hD
      have hP : va_P D clX (wY h cI cZ n bt.testBit rk wt cl cc ow su sc od kn (va_up g1 i (kepX bt cl cc i)) rp rc) H := hP
      have hD : va_D _ (wY h cI cZ n bt.testBit rk wt cl cc ow su sc od kn (va_up g1 i (kepX bt cl cc i)) rp rc) := hD
      refine lv_iinc (v := (nI (i + 1))) (lv' := [(2, .int (nI (i + 1))), (0, .ref (h 0)), (1, .int (nI (2 ^ n)))]) hx hb d_Y_work_33 hl (k := 2) rfl (nI_1 i) (by decide) rfl (fun ls hl => ?_)
      refine lv_goto (tgt := 17) hx hb d_Y_work_36 (by decide) ?_
      exact ih hlt (va_up g1 i (kepX bt cl cc i)) ls _ _ (fun S hS2 => by unfold va_up; split; (rename_i q; rw [q]); exact hI S (by omega)) (lv_sub hl [1, 2, 0] rfl) hP hD hS
  · have hkn1 : kn = true := by cases hq : kn; exact absurd (bI_0.mpr hq) c4; rfl
    exact wE_vret (ke, rp) hx hb hr hlocks d_Y_work_7 hS (by rw [hkn1] at hP; rw [show rc = (reps n bt rk wt cl cc od).length from (hc hkn1).2] at hP; exact hP) (hc hkn1).1 rfl
set_option maxHeartbeats 4000000 in
set_option maxRecDepth 100000 in
theorem c_Y_isLeast (l : Launch) (S : Nat) (hn : n ≤ 11) (hS2 : S < 2048) (hcc : cc ≤ 40) (hcl : ∀ j, cl j < 2048) : Met l y_Y_isLeast w_Y_isLeast (k2_rm 0 0) (rd_Pc D clX (wY h cI cZ n bt.testBit rk wt cl cc ow su sc od kn ke rp rc) [(cI, .int), (cZ, .boolean)] [.ref (h 0), .int (nI S)]) (k2_QcV (.int (bI (isLY n cl cc S)))) 0 0 (fun _ => False) := by
  refine rd_met (by decide) rfl (Nat.le_of_ble_eq_true rfl) rfl ?_
  intro p e s m below meth c ls hx hb hr hml hown hts hlocks hP hK hl
  have hts : ∀ w ∈ tbl, w.before _ s = true := fun w h => hts w (List.mem_cons_of_mem _ h)
  have hown : s.vm.findClass RY = some m.cls := hown
  have hl : lv_has ls 5 [(0, .ref (h 0)), (1, .int (nI S))] := hl
  refine lv_iload_n hx hb d_Y_isLeast_0 rfl (lv_at hl 1 rfl) ?_
  refine lv_aload_n hx hb d_Y_isLeast_1 rfl (lv_at hl 0 rfl) ?_
  refine va_get (D := D) (ci := 1) (v := .int (nI n)) (C := RY) (T := TY) (N := 14) hx hb hts inY hown hK hP 0 rfl rfl 0 (by decide) (hts _ f_Y_35) (fun _ h9 => h9) rfl d_Y_isLeast_2 ?_
  refine lv_ishr hx hb d_Y_isLeast_5 ?_
  refine rd_top (z := nI (S / 2 ^ n)) (pk_shrN (by omega) (nI n &&& 31) n (sh_r n (by omega))) ?_
  refine lv_if_eq (tgt := 11) hx hb d_Y_isLeast_6 (by decide) (fun c6 => ?_) (fun c6 => ?_)
  · have hSn : S < 2 ^ n := by
      have h9 := (nI_eq (b := 0) (Nat.lt_of_le_of_lt (Nat.div_le_self _ _) (by omega)) (by decide)).mp c6
      have h8 := Nat.div_add_mod S (2 ^ n)
      rw [h9, Nat.mul_zero, Nat.zero_add] at h8
      rw [← h8]; exact Nat.mod_lt _ (bx_pos n)
    refine lv_iconst (v := 0) hx hb d_Y_isLeast_11 (by decide) ?_
    refine rd_top (z := bI false) (rfl) ?_
    refine lv_istore_n (lv' := [(2, .int (bI false)), (0, .ref (h 0)), (1, .int (nI S))]) hx hb d_Y_isLeast_12 rfl hl (by decide) rfl (fun ls hl => ?_)
    refine lv_iconst (v := 1) hx hb d_Y_isLeast_13 (by decide) ?_
    refine rd_top (z := bI true) (rfl) ?_
    refine lv_istore_n (lv' := [(3, .int (bI true)), (2, .int (bI false)), (0, .ref (h 0)), (1, .int (nI S))]) hx hb d_Y_isLeast_14 rfl hl (by decide) rfl (fun ls hl => ?_)
    refine lv_iconst (v := 0) hx hb d_Y_isLeast_15 (by decide) ?_
    refine lv_istore (lv' := [(4, .int 0), (3, .int (bI true)), (2, .int (bI false)), (0, .ref (h 0)), (1, .int (nI S))]) hx hb d_Y_isLeast_16 hl (by decide) rfl (fun ls hl => ?_)
    refine rd_loop (nL := 5) (σ := Bool × Bool) (cc) (fun i x => [(0, .ref (h 0)), (1, .int (nI S)), (2, .int (bI x.1)), (3, .int (bI x.2)), (4, .int (nI i))]) (fun i x => x.1 = anyB (fun k => decide (cl k = S)) i ∧ x.2 = !anyB (fun k => !decide (cl k = S) && sp_sub (cl k) S) i) ?_ 0 (false, true) ls (Nat.zero_le _) (⟨rfl, rfl⟩) (lv_sub hl [3, 4, 2, 1, 0] rfl)
    intro i x ls hi hI hl ih
    obtain ⟨h1, h2⟩ : x.1 = anyB (fun k => decide (cl k = S)) i ∧ x.2 = !anyB (fun k => !decide (cl k = S) && sp_sub (cl k) S) i := hI
    have hl : lv_has ls 5 [(0, .ref (h 0)), (1, .int (nI S)), (2, .int (bI x.1)), (3, .int (bI x.2)), (4, .int (nI i))] := hl
    refine lv_iload hx hb d_Y_isLeast_18 (lv_at hl 4 rfl) ?_
    refine lv_aload_n hx hb d_Y_isLeast_20 rfl (lv_at hl 0 rfl) ?_
    refine va_get (D := D) (ci := 1) (v := .int (nI cc)) (C := RY) (T := TY) (N := 14) hx hb hts inY hown hK hP 0 rfl rfl 5 (by decide) (hts _ f_Y_51) (fun _ h9 => h9) rfl d_Y_isLeast_21 ?_
    refine lv_icmp_ge (tgt := 89) hx hb d_Y_isLeast_24 (by decide) (fun c24 => ?_) (fun c24 => ?_)
    · have hN : i = cc := lp_ge hi (by omega) c24
      refine lv_iload_n hx hb d_Y_isLeast_89 rfl (lv_at hl 2 rfl) ?_
      refine lv_if_eq (tgt := 101) hx hb d_Y_isLeast_90 (by decide) (fun c90 => ?_) (fun c90 => ?_)
      · refine lv_iconst (v := 0) hx hb d_Y_isLeast_101 (by decide) ?_
        exact rd_zret hx hb hr hlocks d_Y_isLeast_102 (by unfold isLY; rw [← hN, ← h1, bI_0.mp c90, Bool.false_and, Bool.and_false]; rfl)
      · refine lv_iload_n hx hb d_Y_isLeast_93 rfl (lv_at hl 3 rfl) ?_
        refine lv_if_eq (tgt := 101) hx hb d_Y_isLeast_94 (by decide) (fun c94 => ?_) (fun c94 => ?_)
        · refine lv_iconst (v := 0) hx hb d_Y_isLeast_101 (by decide) ?_
          exact rd_zret hx hb hr hlocks d_Y_isLeast_102 (by unfold isLY; rw [← hN, ← h2, bI_0.mp c94, Bool.and_false, Bool.and_false]; rfl)
        · refine lv_iconst (v := 1) hx hb d_Y_isLeast_97 (by decide) ?_
          refine lv_goto (tgt := 102) hx hb d_Y_isLeast_98 (by decide) ?_
          exact rd_zret hx hb hr hlocks d_Y_isLeast_102 (by unfold isLY; rw [decide_eq_true hSn, ← hN, ← h1, ← h2, show x.1 = true by cases hq : x.1; exact absurd (bI_0.mpr hq) c90; rfl, show x.2 = true by cases hq : x.2; exact absurd (bI_0.mpr hq) c94; rfl]; rfl)
    · have hlt : i < cc := lp_lt hi (by omega) c24
      refine lv_iload_n hx hb d_Y_isLeast_27 rfl (lv_at hl 2 rfl) ?_
      refine lv_if_ne (tgt := 42) hx hb d_Y_isLeast_28 (by decide) (fun c28 => ?_) (fun c28 => ?_)
      · refine lv_iconst (v := 1) hx hb d_Y_isLeast_42 (by decide) ?_
        refine rd_top (z := bI true) (rfl) ?_
        refine lv_goto (tgt := 47) hx hb d_Y_isLeast_43 (by decide) ?_
        refine lv_istore_n (lv' := [(2, .int (bI true)), (0, .ref (h 0)), (1, .int (nI S)), (3, .int (bI x.2)), (4, .int (nI i))]) hx hb d_Y_isLeast_47 rfl hl (by decide) rfl (fun ls hl => ?_)
        refine lv_iload_n hx hb d_Y_isLeast_48 rfl (lv_at hl 3 rfl) ?_
        refine lv_if_eq (tgt := 81) hx hb d_Y_isLeast_49 (by decide) (fun c49 => ?_) (fun c49 => ?_)
        · refine lv_iconst (v := 0) hx hb d_Y_isLeast_81 (by decide) ?_
          refine rd_top (z := bI false) (rfl) ?_
          refine lv_istore_n (lv' := [(3, .int (bI false)), (2, .int (bI true)), (0, .ref (h 0)), (1, .int (nI S)), (4, .int (nI i))]) hx hb d_Y_isLeast_82 rfl hl (by decide) rfl (fun ls hl => ?_)
          refine lv_iinc (v := (nI (i + 1))) (lv' := [(4, .int (nI (i + 1))), (3, .int (bI false)), (2, .int (bI true)), (0, .ref (h 0)), (1, .int (nI S))]) hx hb d_Y_isLeast_83 hl (k := 4) rfl (nI_1 i) (by decide) rfl (fun ls hl => ?_)
          refine lv_goto (tgt := 18) hx hb d_Y_isLeast_86 (by decide) ?_
          exact ih hlt (true, false) ls (⟨(by show true = anyB (fun k => decide (cl k = S)) (i + 1); rw [anyB, ← h1, show x.1 = true by cases hq : x.1; exact absurd (bI_0.mpr hq) c28; rfl]; rfl), (by show false = !anyB (fun k => !decide (cl k = S) && sp_sub (cl k) S) (i + 1); rw [anyB, Bool.not_or, ← h2, bI_0.mp c49]; rfl)⟩) (lv_sub hl [3, 4, 2, 1, 0] rfl)
        · refine lv_aload_n hx hb d_Y_isLeast_52 rfl (lv_at hl 1 rfl) ?_
          refine va_get (D := D) (ci := 1) (v := .ref (h 4)) (C := RY) (T := TY) (N := 14) hx hb hts inY hown hK hP 0 rfl rfl 4 (by decide) (hts _ f_Y_20) (fun _ h9 => h9) rfl d_Y_isLeast_53 ?_
          refine lv_iload hx hb d_Y_isLeast_56 (lv_at hl 4 rfl) ?_
          refine va_iald hx hb hK hP 4 0 rfl rfl (vp_in_nI (show i < 40 by omega) (by decide)) d_Y_isLeast_58 ?_
          refine rd_top (z := nI (cl i)) (ar_nI cl (by omega)) ?_
          refine lv_iload_n hx hb d_Y_isLeast_59 rfl (lv_at hl 2 rfl) ?_
          refine lv_icmp_eq (tgt := 77) hx hb d_Y_isLeast_60 (by decide) (fun c60 => ?_) (fun c60 => ?_)
          · refine lv_iconst (v := 1) hx hb d_Y_isLeast_77 (by decide) ?_
            refine rd_top (z := bI true) (rfl) ?_
            refine lv_goto (tgt := 82) hx hb d_Y_isLeast_78 (by decide) ?_
            refine lv_istore_n (lv' := [(3, .int (bI true)), (2, .int (bI true)), (0, .ref (h 0)), (1, .int (nI S)), (4, .int (nI i))]) hx hb d_Y_isLeast_82 rfl hl (by decide) rfl (fun ls hl => ?_)
            refine lv_iinc (v := (nI (i + 1))) (lv' := [(4, .int (nI (i + 1))), (3, .int (bI true)), (2, .int (bI true)), (0, .ref (h 0)), (1, .int (nI S))]) hx hb d_Y_isLeast_83 hl (k := 4) rfl (nI_1 i) (by decide) rfl (fun ls hl => ?_)
            refine lv_goto (tgt := 18) hx hb d_Y_isLeast_86 (by decide) ?_
            exact ih hlt (true, true) ls (⟨(by show true = anyB (fun k => decide (cl k = S)) (i + 1); rw [anyB, ← h1, show x.1 = true by cases hq : x.1; exact absurd (bI_0.mpr hq) c28; rfl]; rfl), (by show true = !anyB (fun k => !decide (cl k = S) && sp_sub (cl k) S) (i + 1); rw [anyB, Bool.not_or, ← h2, show x.2 = true by cases hq : x.2; exact absurd (bI_0.mpr hq) c49; rfl, decide_eq_true ((nI_eq (by have := hcl i; omega) (by omega)).mp c60)]; rfl)⟩) (lv_sub hl [3, 4, 2, 1, 0] rfl)
          · refine lv_aload_n hx hb d_Y_isLeast_63 rfl (lv_at hl 1 rfl) ?_
            refine va_get (D := D) (ci := 1) (v := .ref (h 4)) (C := RY) (T := TY) (N := 14) hx hb hts inY hown hK hP 0 rfl rfl 4 (by decide) (hts _ f_Y_20) (fun _ h9 => h9) rfl d_Y_isLeast_64 ?_
            refine lv_iload hx hb d_Y_isLeast_67 (lv_at hl 4 rfl) ?_
            refine va_iald hx hb hK hP 4 0 rfl rfl (vp_in_nI (show i < 40 by omega) (by decide)) d_Y_isLeast_69 ?_
            refine rd_top (z := nI (cl i)) (ar_nI cl (by omega)) ?_
            refine lv_iload_n hx hb d_Y_isLeast_70 rfl (lv_at hl 2 rfl) ?_
            refine lv_iconst (v := (-1)) hx hb d_Y_isLeast_71 (by decide) ?_
            refine lv_ixor hx hb d_Y_isLeast_72 ?_
            refine lv_iand hx hb d_Y_isLeast_73 ?_
            refine lv_if_eq (tgt := 81) hx hb d_Y_isLeast_74 (by decide) (fun c74 => ?_) (fun c74 => ?_)
            · refine lv_iconst (v := 0) hx hb d_Y_isLeast_81 (by decide) ?_
              refine rd_top (z := bI false) (rfl) ?_
              refine lv_istore_n (lv' := [(3, .int (bI false)), (2, .int (bI true)), (0, .ref (h 0)), (1, .int (nI S)), (4, .int (nI i))]) hx hb d_Y_isLeast_82 rfl hl (by decide) rfl (fun ls hl => ?_)
              refine lv_iinc (v := (nI (i + 1))) (lv' := [(4, .int (nI (i + 1))), (3, .int (bI false)), (2, .int (bI true)), (0, .ref (h 0)), (1, .int (nI S))]) hx hb d_Y_isLeast_83 hl (k := 4) rfl (nI_1 i) (by decide) rfl (fun ls hl => ?_)
              refine lv_goto (tgt := 18) hx hb d_Y_isLeast_86 (by decide) ?_
              exact ih hlt (true, false) ls (⟨(by show true = anyB (fun k => decide (cl k = S)) (i + 1); rw [anyB, ← h1, show x.1 = true by cases hq : x.1; exact absurd (bI_0.mpr hq) c28; rfl]; rfl), (by show false = !anyB (fun k => !decide (cl k = S) && sp_sub (cl k) S) (i + 1); rw [anyB, Bool.not_or, decide_eq_false (fun q => c60 (congrArg nI q)), (bx_part (by have := hcl i; omega)).mp c74]; simp)⟩) (lv_sub hl [3, 4, 2, 1, 0] rfl)
            · refine lv_iconst (v := 1) hx hb d_Y_isLeast_77 (by decide) ?_
              refine rd_top (z := bI true) (rfl) ?_
              refine lv_goto (tgt := 82) hx hb d_Y_isLeast_78 (by decide) ?_
              refine lv_istore_n (lv' := [(3, .int (bI true)), (2, .int (bI true)), (0, .ref (h 0)), (1, .int (nI S)), (4, .int (nI i))]) hx hb d_Y_isLeast_82 rfl hl (by decide) rfl (fun ls hl => ?_)
              refine lv_iinc (v := (nI (i + 1))) (lv' := [(4, .int (nI (i + 1))), (3, .int (bI true)), (2, .int (bI true)), (0, .ref (h 0)), (1, .int (nI S))]) hx hb d_Y_isLeast_83 hl (k := 4) rfl (nI_1 i) (by decide) rfl (fun ls hl => ?_)
              refine lv_goto (tgt := 18) hx hb d_Y_isLeast_86 (by decide) ?_
              exact ih hlt (true, true) ls (⟨(by show true = anyB (fun k => decide (cl k = S)) (i + 1); rw [anyB, ← h1, show x.1 = true by cases hq : x.1; exact absurd (bI_0.mpr hq) c28; rfl]; rfl), (by show true = !anyB (fun k => !decide (cl k = S) && sp_sub (cl k) S) (i + 1); rw [anyB, Bool.not_or, ← h2, show x.2 = true by cases hq : x.2; exact absurd (bI_0.mpr hq) c49; rfl, show sp_sub (cl i) S = false by cases hq : sp_sub (cl i) S; rfl; exact absurd ((bx_part (by have := hcl i; omega)).mpr hq) c74]; simp)⟩) (lv_sub hl [3, 4, 2, 1, 0] rfl)
      · refine lv_aload_n hx hb d_Y_isLeast_31 rfl (lv_at hl 0 rfl) ?_
        refine va_get (D := D) (ci := 1) (v := .ref (h 4)) (C := RY) (T := TY) (N := 14) hx hb hts inY hown hK hP 0 rfl rfl 4 (by decide) (hts _ f_Y_20) (fun _ h9 => h9) rfl d_Y_isLeast_32 ?_
        refine lv_iload hx hb d_Y_isLeast_35 (lv_at hl 4 rfl) ?_
        refine va_iald hx hb hK hP 4 0 rfl rfl (vp_in_nI (show i < 40 by omega) (by decide)) d_Y_isLeast_37 ?_
        refine rd_top (z := nI (cl i)) (ar_nI cl (by omega)) ?_
        refine lv_iload_n hx hb d_Y_isLeast_38 rfl (lv_at hl 1 rfl) ?_
        refine lv_icmp_ne (tgt := 46) hx hb d_Y_isLeast_39 (by decide) (fun c39 => ?_) (fun c39 => ?_)
        · refine lv_iconst (v := 0) hx hb d_Y_isLeast_46 (by decide) ?_
          refine rd_top (z := bI false) (rfl) ?_
          refine lv_istore_n (lv' := [(2, .int (bI false)), (0, .ref (h 0)), (1, .int (nI S)), (3, .int (bI x.2)), (4, .int (nI i))]) hx hb d_Y_isLeast_47 rfl hl (by decide) rfl (fun ls hl => ?_)
          refine lv_iload_n hx hb d_Y_isLeast_48 rfl (lv_at hl 3 rfl) ?_
          refine lv_if_eq (tgt := 81) hx hb d_Y_isLeast_49 (by decide) (fun c49 => ?_) (fun c49 => ?_)
          · refine lv_iconst (v := 0) hx hb d_Y_isLeast_81 (by decide) ?_
            refine rd_top (z := bI false) (rfl) ?_
            refine lv_istore_n (lv' := [(3, .int (bI false)), (2, .int (bI false)), (0, .ref (h 0)), (1, .int (nI S)), (4, .int (nI i))]) hx hb d_Y_isLeast_82 rfl hl (by decide) rfl (fun ls hl => ?_)
            refine lv_iinc (v := (nI (i + 1))) (lv' := [(4, .int (nI (i + 1))), (3, .int (bI false)), (2, .int (bI false)), (0, .ref (h 0)), (1, .int (nI S))]) hx hb d_Y_isLeast_83 hl (k := 4) rfl (nI_1 i) (by decide) rfl (fun ls hl => ?_)
            refine lv_goto (tgt := 18) hx hb d_Y_isLeast_86 (by decide) ?_
            exact ih hlt (false, false) ls (⟨(by show false = anyB (fun k => decide (cl k = S)) (i + 1); rw [anyB, ← h1, bI_0.mp c28, decide_eq_false (fun q => c39 (congrArg nI q))]; rfl), (by show false = !anyB (fun k => !decide (cl k = S) && sp_sub (cl k) S) (i + 1); rw [anyB, Bool.not_or, ← h2, bI_0.mp c49]; rfl)⟩) (lv_sub hl [3, 4, 2, 1, 0] rfl)
          · refine lv_aload_n hx hb d_Y_isLeast_52 rfl (lv_at hl 1 rfl) ?_
            refine va_get (D := D) (ci := 1) (v := .ref (h 4)) (C := RY) (T := TY) (N := 14) hx hb hts inY hown hK hP 0 rfl rfl 4 (by decide) (hts _ f_Y_20) (fun _ h9 => h9) rfl d_Y_isLeast_53 ?_
            refine lv_iload hx hb d_Y_isLeast_56 (lv_at hl 4 rfl) ?_
            refine va_iald hx hb hK hP 4 0 rfl rfl (vp_in_nI (show i < 40 by omega) (by decide)) d_Y_isLeast_58 ?_
            refine rd_top (z := nI (cl i)) (ar_nI cl (by omega)) ?_
            refine lv_iload_n hx hb d_Y_isLeast_59 rfl (lv_at hl 2 rfl) ?_
            refine lv_icmp_eq (tgt := 77) hx hb d_Y_isLeast_60 (by decide) (fun c60 => ?_) (fun c60 => ?_)
            · refine lv_iconst (v := 1) hx hb d_Y_isLeast_77 (by decide) ?_
              refine rd_top (z := bI true) (rfl) ?_
              refine lv_goto (tgt := 82) hx hb d_Y_isLeast_78 (by decide) ?_
              refine lv_istore_n (lv' := [(3, .int (bI true)), (2, .int (bI false)), (0, .ref (h 0)), (1, .int (nI S)), (4, .int (nI i))]) hx hb d_Y_isLeast_82 rfl hl (by decide) rfl (fun ls hl => ?_)
              refine lv_iinc (v := (nI (i + 1))) (lv' := [(4, .int (nI (i + 1))), (3, .int (bI true)), (2, .int (bI false)), (0, .ref (h 0)), (1, .int (nI S))]) hx hb d_Y_isLeast_83 hl (k := 4) rfl (nI_1 i) (by decide) rfl (fun ls hl => ?_)
              refine lv_goto (tgt := 18) hx hb d_Y_isLeast_86 (by decide) ?_
              exact ih hlt (false, true) ls (⟨(by show false = anyB (fun k => decide (cl k = S)) (i + 1); rw [anyB, ← h1, bI_0.mp c28, decide_eq_false (fun q => c39 (congrArg nI q))]; rfl), (by show true = !anyB (fun k => !decide (cl k = S) && sp_sub (cl k) S) (i + 1); rw [anyB, Bool.not_or, ← h2, show x.2 = true by cases hq : x.2; exact absurd (bI_0.mpr hq) c49; rfl, decide_eq_true ((nI_eq (by have := hcl i; omega) (by omega)).mp c60)]; rfl)⟩) (lv_sub hl [3, 4, 2, 1, 0] rfl)
            · refine lv_aload_n hx hb d_Y_isLeast_63 rfl (lv_at hl 1 rfl) ?_
              refine va_get (D := D) (ci := 1) (v := .ref (h 4)) (C := RY) (T := TY) (N := 14) hx hb hts inY hown hK hP 0 rfl rfl 4 (by decide) (hts _ f_Y_20) (fun _ h9 => h9) rfl d_Y_isLeast_64 ?_
              refine lv_iload hx hb d_Y_isLeast_67 (lv_at hl 4 rfl) ?_
              refine va_iald hx hb hK hP 4 0 rfl rfl (vp_in_nI (show i < 40 by omega) (by decide)) d_Y_isLeast_69 ?_
              refine rd_top (z := nI (cl i)) (ar_nI cl (by omega)) ?_
              refine lv_iload_n hx hb d_Y_isLeast_70 rfl (lv_at hl 2 rfl) ?_
              refine lv_iconst (v := (-1)) hx hb d_Y_isLeast_71 (by decide) ?_
              refine lv_ixor hx hb d_Y_isLeast_72 ?_
              refine lv_iand hx hb d_Y_isLeast_73 ?_
              refine lv_if_eq (tgt := 81) hx hb d_Y_isLeast_74 (by decide) (fun c74 => ?_) (fun c74 => ?_)
              · refine lv_iconst (v := 0) hx hb d_Y_isLeast_81 (by decide) ?_
                refine rd_top (z := bI false) (rfl) ?_
                refine lv_istore_n (lv' := [(3, .int (bI false)), (2, .int (bI false)), (0, .ref (h 0)), (1, .int (nI S)), (4, .int (nI i))]) hx hb d_Y_isLeast_82 rfl hl (by decide) rfl (fun ls hl => ?_)
                refine lv_iinc (v := (nI (i + 1))) (lv' := [(4, .int (nI (i + 1))), (3, .int (bI false)), (2, .int (bI false)), (0, .ref (h 0)), (1, .int (nI S))]) hx hb d_Y_isLeast_83 hl (k := 4) rfl (nI_1 i) (by decide) rfl (fun ls hl => ?_)
                refine lv_goto (tgt := 18) hx hb d_Y_isLeast_86 (by decide) ?_
                exact ih hlt (false, false) ls (⟨(by show false = anyB (fun k => decide (cl k = S)) (i + 1); rw [anyB, ← h1, bI_0.mp c28, decide_eq_false (fun q => c39 (congrArg nI q))]; rfl), (by show false = !anyB (fun k => !decide (cl k = S) && sp_sub (cl k) S) (i + 1); rw [anyB, Bool.not_or, decide_eq_false (fun q => c60 (congrArg nI q)), (bx_part (by have := hcl i; omega)).mp c74]; simp)⟩) (lv_sub hl [3, 4, 2, 1, 0] rfl)
              · refine lv_iconst (v := 1) hx hb d_Y_isLeast_77 (by decide) ?_
                refine rd_top (z := bI true) (rfl) ?_
                refine lv_goto (tgt := 82) hx hb d_Y_isLeast_78 (by decide) ?_
                refine lv_istore_n (lv' := [(3, .int (bI true)), (2, .int (bI false)), (0, .ref (h 0)), (1, .int (nI S)), (4, .int (nI i))]) hx hb d_Y_isLeast_82 rfl hl (by decide) rfl (fun ls hl => ?_)
                refine lv_iinc (v := (nI (i + 1))) (lv' := [(4, .int (nI (i + 1))), (3, .int (bI true)), (2, .int (bI false)), (0, .ref (h 0)), (1, .int (nI S))]) hx hb d_Y_isLeast_83 hl (k := 4) rfl (nI_1 i) (by decide) rfl (fun ls hl => ?_)
                refine lv_goto (tgt := 18) hx hb d_Y_isLeast_86 (by decide) ?_
                exact ih hlt (false, true) ls (⟨(by show false = anyB (fun k => decide (cl k = S)) (i + 1); rw [anyB, ← h1, bI_0.mp c28, decide_eq_false (fun q => c39 (congrArg nI q))]; rfl), (by show true = !anyB (fun k => !decide (cl k = S) && sp_sub (cl k) S) (i + 1); rw [anyB, Bool.not_or, ← h2, show x.2 = true by cases hq : x.2; exact absurd (bI_0.mpr hq) c49; rfl, show sp_sub (cl i) S = false by cases hq : sp_sub (cl i) S; rfl; exact absurd ((bx_part (by have := hcl i; omega)).mpr hq) c74]; simp)⟩) (lv_sub hl [3, 4, 2, 1, 0] rfl)
        · refine lv_iconst (v := 1) hx hb d_Y_isLeast_42 (by decide) ?_
          refine rd_top (z := bI true) (rfl) ?_
          refine lv_goto (tgt := 47) hx hb d_Y_isLeast_43 (by decide) ?_
          refine lv_istore_n (lv' := [(2, .int (bI true)), (0, .ref (h 0)), (1, .int (nI S)), (3, .int (bI x.2)), (4, .int (nI i))]) hx hb d_Y_isLeast_47 rfl hl (by decide) rfl (fun ls hl => ?_)
          refine lv_iload_n hx hb d_Y_isLeast_48 rfl (lv_at hl 3 rfl) ?_
          refine lv_if_eq (tgt := 81) hx hb d_Y_isLeast_49 (by decide) (fun c49 => ?_) (fun c49 => ?_)
          · refine lv_iconst (v := 0) hx hb d_Y_isLeast_81 (by decide) ?_
            refine rd_top (z := bI false) (rfl) ?_
            refine lv_istore_n (lv' := [(3, .int (bI false)), (2, .int (bI true)), (0, .ref (h 0)), (1, .int (nI S)), (4, .int (nI i))]) hx hb d_Y_isLeast_82 rfl hl (by decide) rfl (fun ls hl => ?_)
            refine lv_iinc (v := (nI (i + 1))) (lv' := [(4, .int (nI (i + 1))), (3, .int (bI false)), (2, .int (bI true)), (0, .ref (h 0)), (1, .int (nI S))]) hx hb d_Y_isLeast_83 hl (k := 4) rfl (nI_1 i) (by decide) rfl (fun ls hl => ?_)
            refine lv_goto (tgt := 18) hx hb d_Y_isLeast_86 (by decide) ?_
            exact ih hlt (true, false) ls (⟨(by show true = anyB (fun k => decide (cl k = S)) (i + 1); rw [anyB, decide_eq_true ((nI_eq (by have := hcl i; omega) (by omega)).mp c39), Bool.or_true]), (by show false = !anyB (fun k => !decide (cl k = S) && sp_sub (cl k) S) (i + 1); rw [anyB, Bool.not_or, ← h2, bI_0.mp c49]; rfl)⟩) (lv_sub hl [3, 4, 2, 1, 0] rfl)
          · refine lv_aload_n hx hb d_Y_isLeast_52 rfl (lv_at hl 1 rfl) ?_
            refine va_get (D := D) (ci := 1) (v := .ref (h 4)) (C := RY) (T := TY) (N := 14) hx hb hts inY hown hK hP 0 rfl rfl 4 (by decide) (hts _ f_Y_20) (fun _ h9 => h9) rfl d_Y_isLeast_53 ?_
            refine lv_iload hx hb d_Y_isLeast_56 (lv_at hl 4 rfl) ?_
            refine va_iald hx hb hK hP 4 0 rfl rfl (vp_in_nI (show i < 40 by omega) (by decide)) d_Y_isLeast_58 ?_
            refine rd_top (z := nI (cl i)) (ar_nI cl (by omega)) ?_
            refine lv_iload_n hx hb d_Y_isLeast_59 rfl (lv_at hl 2 rfl) ?_
            refine lv_icmp_eq (tgt := 77) hx hb d_Y_isLeast_60 (by decide) (fun c60 => ?_) (fun c60 => ?_)
            · refine lv_iconst (v := 1) hx hb d_Y_isLeast_77 (by decide) ?_
              refine rd_top (z := bI true) (rfl) ?_
              refine lv_goto (tgt := 82) hx hb d_Y_isLeast_78 (by decide) ?_
              refine lv_istore_n (lv' := [(3, .int (bI true)), (2, .int (bI true)), (0, .ref (h 0)), (1, .int (nI S)), (4, .int (nI i))]) hx hb d_Y_isLeast_82 rfl hl (by decide) rfl (fun ls hl => ?_)
              refine lv_iinc (v := (nI (i + 1))) (lv' := [(4, .int (nI (i + 1))), (3, .int (bI true)), (2, .int (bI true)), (0, .ref (h 0)), (1, .int (nI S))]) hx hb d_Y_isLeast_83 hl (k := 4) rfl (nI_1 i) (by decide) rfl (fun ls hl => ?_)
              refine lv_goto (tgt := 18) hx hb d_Y_isLeast_86 (by decide) ?_
              exact ih hlt (true, true) ls (⟨(by show true = anyB (fun k => decide (cl k = S)) (i + 1); rw [anyB, decide_eq_true ((nI_eq (by have := hcl i; omega) (by omega)).mp c39), Bool.or_true]), (by show true = !anyB (fun k => !decide (cl k = S) && sp_sub (cl k) S) (i + 1); rw [anyB, Bool.not_or, ← h2, show x.2 = true by cases hq : x.2; exact absurd (bI_0.mpr hq) c49; rfl, decide_eq_true ((nI_eq (by have := hcl i; omega) (by omega)).mp c60)]; rfl)⟩) (lv_sub hl [3, 4, 2, 1, 0] rfl)
            · refine lv_aload_n hx hb d_Y_isLeast_63 rfl (lv_at hl 1 rfl) ?_
              refine va_get (D := D) (ci := 1) (v := .ref (h 4)) (C := RY) (T := TY) (N := 14) hx hb hts inY hown hK hP 0 rfl rfl 4 (by decide) (hts _ f_Y_20) (fun _ h9 => h9) rfl d_Y_isLeast_64 ?_
              refine lv_iload hx hb d_Y_isLeast_67 (lv_at hl 4 rfl) ?_
              refine va_iald hx hb hK hP 4 0 rfl rfl (vp_in_nI (show i < 40 by omega) (by decide)) d_Y_isLeast_69 ?_
              refine rd_top (z := nI (cl i)) (ar_nI cl (by omega)) ?_
              refine lv_iload_n hx hb d_Y_isLeast_70 rfl (lv_at hl 2 rfl) ?_
              refine lv_iconst (v := (-1)) hx hb d_Y_isLeast_71 (by decide) ?_
              refine lv_ixor hx hb d_Y_isLeast_72 ?_
              refine lv_iand hx hb d_Y_isLeast_73 ?_
              refine lv_if_eq (tgt := 81) hx hb d_Y_isLeast_74 (by decide) (fun c74 => ?_) (fun c74 => ?_)
              · refine lv_iconst (v := 0) hx hb d_Y_isLeast_81 (by decide) ?_
                refine rd_top (z := bI false) (rfl) ?_
                refine lv_istore_n (lv' := [(3, .int (bI false)), (2, .int (bI true)), (0, .ref (h 0)), (1, .int (nI S)), (4, .int (nI i))]) hx hb d_Y_isLeast_82 rfl hl (by decide) rfl (fun ls hl => ?_)
                refine lv_iinc (v := (nI (i + 1))) (lv' := [(4, .int (nI (i + 1))), (3, .int (bI false)), (2, .int (bI true)), (0, .ref (h 0)), (1, .int (nI S))]) hx hb d_Y_isLeast_83 hl (k := 4) rfl (nI_1 i) (by decide) rfl (fun ls hl => ?_)
                refine lv_goto (tgt := 18) hx hb d_Y_isLeast_86 (by decide) ?_
                exact ih hlt (true, false) ls (⟨(by show true = anyB (fun k => decide (cl k = S)) (i + 1); rw [anyB, decide_eq_true ((nI_eq (by have := hcl i; omega) (by omega)).mp c39), Bool.or_true]), (by show false = !anyB (fun k => !decide (cl k = S) && sp_sub (cl k) S) (i + 1); rw [anyB, Bool.not_or, decide_eq_false (fun q => c60 (congrArg nI q)), (bx_part (by have := hcl i; omega)).mp c74]; simp)⟩) (lv_sub hl [3, 4, 2, 1, 0] rfl)
              · refine lv_iconst (v := 1) hx hb d_Y_isLeast_77 (by decide) ?_
                refine rd_top (z := bI true) (rfl) ?_
                refine lv_goto (tgt := 82) hx hb d_Y_isLeast_78 (by decide) ?_
                refine lv_istore_n (lv' := [(3, .int (bI true)), (2, .int (bI true)), (0, .ref (h 0)), (1, .int (nI S)), (4, .int (nI i))]) hx hb d_Y_isLeast_82 rfl hl (by decide) rfl (fun ls hl => ?_)
                refine lv_iinc (v := (nI (i + 1))) (lv' := [(4, .int (nI (i + 1))), (3, .int (bI true)), (2, .int (bI true)), (0, .ref (h 0)), (1, .int (nI S))]) hx hb d_Y_isLeast_83 hl (k := 4) rfl (nI_1 i) (by decide) rfl (fun ls hl => ?_)
                refine lv_goto (tgt := 18) hx hb d_Y_isLeast_86 (by decide) ?_
                exact ih hlt (true, true) ls (⟨(by show true = anyB (fun k => decide (cl k = S)) (i + 1); rw [anyB, decide_eq_true ((nI_eq (by have := hcl i; omega) (by omega)).mp c39), Bool.or_true]), (by show true = !anyB (fun k => !decide (cl k = S) && sp_sub (cl k) S) (i + 1); rw [anyB, Bool.not_or, ← h2, show x.2 = true by cases hq : x.2; exact absurd (bI_0.mpr hq) c49; rfl, show sp_sub (cl i) S = false by cases hq : sp_sub (cl i) S; rfl; exact absurd ((bx_part (by have := hcl i; omega)).mpr hq) c74]; simp)⟩) (lv_sub hl [3, 4, 2, 1, 0] rfl)
  · have hSn : ¬ S < 2 ^ n := fun q => c6 (by rw [Nat.div_eq_of_lt q]; rfl)
    refine lv_iconst (v := 0) hx hb d_Y_isLeast_9 (by decide) ?_
    exact rd_zret hx hb hr hlocks d_Y_isLeast_10 (by unfold isLY; rw [decide_eq_false hSn]; rfl)
set_option maxHeartbeats 4000000 in
set_option maxRecDepth 100000 in
theorem c_Y_least_1 (l : Launch) (r : Nat) (hr3 : r < 2 ^ 31) (hn : n ≤ 11) (hcc : cc ≤ 40) (hcl : ∀ j, cl j < 2048) : Met l y_Y_least w_Y_least (k2_rm 1 24) (rd_Pc D clX (wY h cI cZ n bt.testBit rk wt cl cc ow su sc od kn ke rp rc) [(cI, .int), (cZ, .boolean)] [.ref (h 0), .int (nI r)]) (k2_QcV (.int (oI (nthF (isLY n cl cc) 2048 0 r)))) 0 0 (fun _ => False) := by
  refine rd_met (by decide) rfl (Nat.le_of_ble_eq_true rfl) rfl ?_
  intro p e s m below meth c ls hx hb hr hml hown hts hlocks hP hK hl
  have hts : ∀ w ∈ tbl, w.before _ s = true := fun w h => hts w (List.mem_cons_of_mem _ h)
  have hown : s.vm.findClass RY = some m.cls := hown
  have hl : lv_has ls 4 [(0, .ref (h 0)), (1, .int (nI r))] := hl
  refine lv_iload_n hx hb d_Y_least_0 rfl (lv_at hl 1 rfl) ?_
  refine lv_istore_n (lv' := [(2, .int (nI r)), (0, .ref (h 0)), (1, .int (nI r))]) hx hb d_Y_least_1 rfl hl (by decide) rfl (fun ls hl => ?_)
  refine lv_iconst (v := 0) hx hb d_Y_least_2 (by decide) ?_
  refine lv_istore_n (lv' := [(3, .int 0), (2, .int (nI r)), (0, .ref (h 0)), (1, .int (nI r))]) hx hb d_Y_least_3 rfl hl (by decide) rfl (fun ls hl => ?_)
  refine rd_loop (nL := 4) (σ := Nat) (2048) (fun i x => [(0, .ref (h 0)), (1, .int (nI r)), (2, .int (nI x)), (3, .int (nI i))]) (fun i x => x < 2 ^ 31 ∧ nthF (isLY n cl cc) 2048 0 r = nthF (isLY n cl cc) (2048 - i) i x) ?_ 0 r ls (Nat.zero_le _) (⟨hr3, rfl⟩) (lv_sub hl [2, 3, 1, 0] rfl)
  intro i x ls hi hI hl ih
  obtain ⟨hxb, hI⟩ : x < 2 ^ 31 ∧ nthF (isLY n cl cc) 2048 0 r = nthF (isLY n cl cc) (2048 - i) i x := hI
  have hl : lv_has ls 4 [(0, .ref (h 0)), (1, .int (nI r)), (2, .int (nI x)), (3, .int (nI i))] := hl
  refine lv_iload_n hx hb d_Y_least_4 rfl (lv_at hl 3 rfl) ?_
  refine lv_sipush (v := 2048) hx hb d_Y_least_5 (by decide) ?_
  refine lv_icmp_ge (tgt := 41) hx hb d_Y_least_8 (by decide) (fun c8 => ?_) (fun c8 => ?_)
  · have hN : i = 2048 := lp_ge hi (by decide) c8
    refine lv_bipush (v := (-2)) hx hb d_Y_least_41 (by decide) ?_
    exact rd_iret hx hb hr hlocks d_Y_least_43 (by rw [hI, hN]; rfl)
  · have hlt : i < 2048 := lp_lt hi (by decide) c8
    refine lv_iload_n hx hb d_Y_least_11 rfl (lv_at hl 1 rfl) ?_
    refine lv_if_lt (tgt := 41) hx hb d_Y_least_12 (by decide) (fun c12 => ?_) (fun c12 => ?_)
    · exact absurd c12 (nI_pos hr3)
    · refine lv_aload_n hx hb d_Y_least_15 rfl (lv_at hl 0 rfl) ?_
      refine lv_iload_n hx hb d_Y_least_16 rfl (lv_at hl 3 rfl) ?_
      refine rd_V (As := [.int (nI i)]) (rest := []) ⟨hx, hb, hml, hown, hts⟩ (c_Y_isLeast l i hn hlt hcc hcl) (cwV 1 hts g_Y_84 rfl rfl rfl (by decide +kernel) ⟨Nat.le_of_ble_eq_true rfl, Nat.le_of_ble_eq_true rfl⟩) hK hP 0 rfl rfl rfl hl.1 rfl (Nat.le_of_ble_eq_true rfl) d_Y_least_17 ⟨Nat.zero_le _, Nat.zero_le _⟩ ?_
      refine lv_if_ne (tgt := 26) hx hb d_Y_least_20 (by decide) (fun c20 => ?_) (fun c20 => ?_)
      · refine lv_iload_n hx hb d_Y_least_26 rfl (lv_at hl 2 rfl) ?_
        refine lv_if_ne (tgt := 32) hx hb d_Y_least_27 (by decide) (fun c27 => ?_) (fun c27 => ?_)
        · refine lv_iinc (v := (nI (x - 1))) (lv' := [(2, .int (nI (x - 1))), (0, .ref (h 0)), (1, .int (nI r)), (3, .int (nI i))]) hx hb d_Y_least_32 hl (k := 2) rfl (sb_m1 (Nat.pos_of_ne_zero (fun q => c27 (by rw [q]; rfl)))) (by decide) rfl (fun ls hl => ?_)
          refine lv_iinc (v := (nI (i + 1))) (lv' := [(3, .int (nI (i + 1))), (2, .int (nI (x - 1))), (0, .ref (h 0)), (1, .int (nI r))]) hx hb d_Y_least_35 hl (k := 3) rfl (nI_1 i) (by decide) rfl (fun ls hl => ?_)
          refine lv_goto (tgt := 4) hx hb d_Y_least_38 (by decide) ?_
          exact ih hlt (x - 1) ls (⟨by omega, by rw [hI, show 2048 - i = (2048 - (i + 1)) + 1 by omega, nthF, if_pos (show isLY n cl cc i = true by cases hq : isLY n cl cc i; exact absurd (bI_0.mpr hq) c20; rfl), if_neg (fun q => c27 (by rw [q]; rfl))]⟩) (lv_sub hl [2, 3, 1, 0] rfl)
        · refine lv_iload_n hx hb d_Y_least_30 rfl (lv_at hl 3 rfl) ?_
          exact rd_iret hx hb hr hlocks d_Y_least_31 (by rw [hI, show 2048 - i = (2048 - (i + 1)) + 1 by omega, nthF, if_pos (show isLY n cl cc i = true by cases hq : isLY n cl cc i; exact absurd (bI_0.mpr hq) c20; rfl), if_pos ((nI_eq (b := 0) hxb (by decide)).mp c27)]; rfl)
      · refine lv_goto (tgt := 35) hx hb d_Y_least_23 (by decide) ?_
        refine lv_iinc (v := (nI (i + 1))) (lv' := [(3, .int (nI (i + 1))), (0, .ref (h 0)), (1, .int (nI r)), (2, .int (nI x))]) hx hb d_Y_least_35 hl (k := 3) rfl (nI_1 i) (by decide) rfl (fun ls hl => ?_)
        refine lv_goto (tgt := 4) hx hb d_Y_least_38 (by decide) ?_
        exact ih hlt x ls (⟨hxb, by rw [hI, show 2048 - i = (2048 - (i + 1)) + 1 by omega, nthF, if_neg (by rw [bI_0.mp c20]; decide)]⟩) (lv_sub hl [1, 2, 3, 0] rfl)
set_option maxHeartbeats 4000000 in
set_option maxRecDepth 100000 in
theorem c_Y_least_2 (l : Launch) (y : Int32) (hy : y < 0) : Met l y_Y_least w_Y_least (k2_rm 1 24) (rd_Pc D clX (wY h cI cZ n bt.testBit rk wt cl cc ow su sc od kn ke rp rc) [(cI, .int), (cZ, .boolean)] [.ref (h 0), .int y]) (k2_QcV (.int (-2))) 0 0 (fun _ => False) := by
  refine rd_met (by decide) rfl (Nat.le_of_ble_eq_true rfl) rfl ?_
  intro p e s m below meth c ls hx hb hr hml hown hts hlocks hP hK hl
  have hts : ∀ w ∈ tbl, w.before _ s = true := fun w h => hts w (List.mem_cons_of_mem _ h)
  have hown : s.vm.findClass RY = some m.cls := hown
  have hl : lv_has ls 4 [(0, .ref (h 0)), (1, .int y)] := hl
  refine lv_iload_n hx hb d_Y_least_0 rfl (lv_at hl 1 rfl) ?_
  refine lv_istore_n (lv' := [(2, .int y), (0, .ref (h 0)), (1, .int y)]) hx hb d_Y_least_1 rfl hl (by decide) rfl (fun ls hl => ?_)
  refine lv_iconst (v := 0) hx hb d_Y_least_2 (by decide) ?_
  refine lv_istore_n (lv' := [(3, .int 0), (2, .int y), (0, .ref (h 0)), (1, .int y)]) hx hb d_Y_least_3 rfl hl (by decide) rfl (fun ls hl => ?_)
  refine rd_loop (nL := 4) (σ := Unit) (2048) (fun i _ => [(0, .ref (h 0)), (1, .int y), (2, .int y), (3, .int (nI i))]) (fun i _ => True) ?_ 0 () ls (Nat.zero_le _) (trivial) (lv_sub hl [2, 3, 1, 0] rfl)
  intro i _ ls hi hI hl ih
  have hl : lv_has ls 4 [(0, .ref (h 0)), (1, .int y), (2, .int y), (3, .int (nI i))] := hl
  refine lv_iload_n hx hb d_Y_least_4 rfl (lv_at hl 3 rfl) ?_
  refine lv_sipush (v := 2048) hx hb d_Y_least_5 (by decide) ?_
  refine lv_icmp_ge (tgt := 41) hx hb d_Y_least_8 (by decide) (fun c8 => ?_) (fun c8 => ?_)
  · refine lv_bipush (v := (-2)) hx hb d_Y_least_41 (by decide) ?_
    exact rd_iret hx hb hr hlocks d_Y_least_43 (rfl)
  · refine lv_iload_n hx hb d_Y_least_11 rfl (lv_at hl 1 rfl) ?_
    refine lv_if_lt (tgt := 41) hx hb d_Y_least_12 (by decide) (fun c12 => ?_) (fun c12 => ?_)
    · refine lv_bipush (v := (-2)) hx hb d_Y_least_41 (by decide) ?_
      exact rd_iret hx hb hr hlocks d_Y_least_43 (rfl)
    · exact absurd hy c12
set_option maxHeartbeats 4000000 in
set_option maxRecDepth 100000 in
theorem c_Y_size (l : Launch)  : Met l y_Y_size w_Y_size (k2_rm 0 0) (rd_Pc D clX (wY h cI cZ n bt.testBit rk wt cl cc ow su sc od kn ke rp rc) [(cI, .int), (cZ, .boolean)] [.ref (h 0)]) (k2_QcV (.int (nI n))) 0 0 (fun _ => False) := by
  refine rd_met (by decide) rfl (Nat.le_of_ble_eq_true rfl) rfl ?_
  intro p e s m below meth c ls hx hb hr hml hown hts hlocks hP hK hl
  have hts : ∀ w ∈ tbl, w.before _ s = true := fun w h => hts w (List.mem_cons_of_mem _ h)
  have hown : s.vm.findClass RY = some m.cls := hown
  have hl : lv_has ls 1 [(0, .ref (h 0))] := hl
  refine lv_aload_n hx hb d_Y_size_0 rfl (lv_at hl 0 rfl) ?_
  refine va_get (D := D) (ci := 1) (v := .int (nI n)) (C := RY) (T := TY) (N := 14) hx hb hts inY hown hK hP 0 rfl rfl 0 (by decide) (hts _ f_Y_35) (fun _ h9 => h9) rfl d_Y_size_1 ?_
  exact rd_iret hx hb hr hlocks d_Y_size_4 (rfl)
theorem c_Y_least (l : Launch) (y : Int32) (hn : n ≤ 11) (hcc : cc ≤ 40) (hcl : ∀ j, cl j < 2048) : Met l y_Y_least w_Y_least (k2_rm 1 24) (rd_Pc D clX (wY h cI cZ n bt.testBit rk wt cl cc ow su sc od kn ke rp rc) [(cI, .int), (cZ, .boolean)] [.ref (h 0), .int y]) (k2_QcV (.int (leaX n cl cc y))) 0 0 (fun _ => False) := by
  by_cases hy : y < 0
  · rw [show leaX n cl cc y = -2 by unfold leaX; rw [if_pos (Or.inl hy)]]
    exact c_Y_least_2 l y hy
  · obtain ⟨r, hr, e⟩ := nI_of hy
    rw [e, lea_eq hcl hcc hr]
    exact c_Y_least_1 l r hr hn hcc hcl
end MY3

section MX7
variable {D : va_G} {h : Nat → Nat} {cI cZ : ClassId} {n bt : Nat} {rk wt cl : Nat → Nat} {cc : Nat} {su sa : Nat → Nat} {sc od : Nat} {fr : Bool} {cg : Nat → Bool} {co rp : Nat → Nat} {rc : Nat}
/-- what stands at every call: the numbers in their bounds, and the repairs as they are when they are fresh -/
def okX (n bt : Nat) (rk wt cl : Nat → Nat) (cc od : Nat) (fr : Bool) (rp : Nat → Nat) (rc : Nat) : Prop := n ≤ 11 ∧ bt < 2 ^ n ∧ (∀ j, rk j < 8) ∧ (∀ j, wt j ≤ 1000) ∧ (∀ j, j < n → 1 ≤ wt j) ∧ cc ≤ 40 ∧ (∀ j, cl j < 2048) ∧ od < 4 ∧ (fr = true → isArr rp (reps n bt rk wt cl cc od) ∧ rc = (reps n bt rk wt cl cc od).length)
set_option maxHeartbeats 4000000 in
set_option maxRecDepth 100000 in
theorem c_X_refresh (l : Launch) (sz : Nat) (hok : okX n bt rk wt cl cc od fr rp rc) : Met l y_X_refresh w_X_refresh (k2_rm 4 88) (wr_Pc D clX (wX h cI cZ n bt rk wt cl cc su sa sc od fr cg co rp rc) [(cI, .int), (cZ, .boolean)] sz [.ref (h 0)]) (wE_Q D clX (wX h cI cZ n bt rk wt cl cc su sa sc od fr cg co rp rc) (σ := (Nat → Bool) × (Nat → Nat) × (Nat → Nat)) (fun u => wX h cI cZ n bt rk wt cl cc su sa sc od true u.1 u.2.1 u.2.2 ((reps n bt rk wt cl cc od).length)) (fun _ => none) (fun u => isArr u.2.2 (reps n bt rk wt cl cc od)) sz) 0 0 (va_A (wX h cI cZ n bt rk wt cl cc su sa sc od fr cg co rp rc) sz) := by
  refine wE_met (by decide) rfl (Nat.le_of_ble_eq_true rfl) rfl ?_
  intro p e s m below meth c ls hx hb hr hml hown hts hlocks hP hK hD hS hA hl
  have hts : ∀ w ∈ tbl, w.before _ s = true := fun w h => hts w (List.mem_cons_of_mem _ h)
  have hown : s.vm.findClass RX = some m.cls := hown
  have hl : lv_has ls 1 [(0, .ref (h 0))] := hl
  obtain ⟨hn, hbt, hrk, hwt, hwp, hcc, hcl, ho, hfr⟩ := hok
  refine lv_aload_n hx hb d_X_refresh_0 rfl (lv_at hl 0 rfl) ?_
  refine va_get (D := D) (ci := 0) (v := .int (bI fr)) (C := RX) (T := TX) (N := 15) hx hb hts inX hown hK hP 0 rfl rfl 10 (by decide) (hts _ f_X_41) (fun _ h9 => h9) rfl d_X_refresh_1 ?_
  refine lv_if_eq (tgt := 8) hx hb d_X_refresh_4 (by decide) (fun c4 => ?_) (fun c4 => ?_)
  · refine lv_aload_n hx hb d_X_refresh_8 rfl (lv_at hl 0 rfl) ?_
    refine wE_V (As := []) (rest := []) ⟨hx, hb, hml, hown, hts⟩ (c_X_markClashing l _ hn hcc hcl) (cwV 0 hts g_X_128 rfl rfl rfl (by decide +kernel) ⟨Nat.le_of_ble_eq_true rfl, Nat.le_of_ble_eq_true rfl⟩) hK hP hD hS hA 0 rfl rfl rfl hl.1 rfl (Nat.le_of_ble_eq_true rfl) d_X_refresh_9 ⟨Nat.zero_le _, Nat.zero_le _⟩ (fun _ => rfl) (fun g1 H locs hg1 hP hD hS => ?_)
    have hg1 : ∀ S, S < 2 ^ n → g1 S = clS cl cc S := hg1
    have hP : va_P D clX (wX h cI cZ n bt rk wt cl cc su sa sc od fr g1 co rp rc) H := hP
    have hD : va_D _ (wX h cI cZ n bt rk wt cl cc su sa sc od fr g1 co rp rc) := hD
    refine lv_aload_n hx hb d_X_refresh_12 rfl (lv_at hl 0 rfl) ?_
    refine lv_iconst (v := 0) hx hb d_X_refresh_13 (by decide) ?_
    refine va_put (D := D) (ci := 0) (v := .int 0) (ty := .int) (C := RX) (T := TX) (N := 15) hx hb hts inX tyX tyX_ok nmX hown hK hP hD hS 0 rfl rfl 14 (by decide) (hts _ f_X_55) (fun _ h9 => h9) rfl (by decide +kernel) rfl rfl (Nat.le_of_ble_eq_true rfl) d_X_refresh_14 (fun H locs hP hD hS => ?_)
    have hP : va_P D clX (wX h cI cZ n bt rk wt cl cc su sa sc od fr g1 co rp 0) H := hP
    have hD : va_D _ (wX h cI cZ n bt rk wt cl cc su sa sc od fr g1 co rp 0) := hD
    refine lv_aload_n hx hb d_X_refresh_17 rfl (lv_at hl 0 rfl) ?_
    refine va_get (D := D) (ci := 0) (v := .int (nI od)) (C := RX) (T := TX) (N := 15) hx hb hts inX hown hK hP 0 rfl rfl 9 (by decide) (hts _ f_X_38) (fun _ h9 => h9) rfl d_X_refresh_18 ?_
    refine lv_if_eq (tgt := 32) hx hb d_X_refresh_21 (by decide) (fun c21 => ?_) (fun c21 => ?_)
    · have ho2 : od < 2 := by have := (nI_eq (b := 0) (by omega) (by decide)).mp c21; omega
      have hrep : flt (groX n bt rk od g1) (2 ^ n) = (reps n bt rk wt cl cc od) := flt_congr (fun S hS2 => gro_rep hrk ho2 hbt hS2 hg1)
      refine lv_aload_n hx hb d_X_refresh_32 rfl (lv_at hl 0 rfl) ?_
      refine wE_V (As := []) (rest := []) ⟨hx, hb, hml, hown, hts⟩ (c_X_collectFullGrown l _ hn (Nat.lt_of_lt_of_le hbt (Nat.pow_le_pow_right (by decide) (by omega))) hrk ho rfl (fun k hk => by rw [flt_congr (P := (groX n bt rk od g1)) (Q := isRep n bt rk wt cl cc od) (fun S hS2 => gro_rep hrk ho2 hbt (by omega) hg1)]; exact rep_len hn hk hrk hwp)) (cwV 0 hts g_X_131 rfl rfl rfl (by decide +kernel) ⟨Nat.le_of_ble_eq_true rfl, Nat.le_of_ble_eq_true rfl⟩) hK hP hD hS hA 0 rfl rfl rfl hl.1 rfl (Nat.le_of_ble_eq_true rfl) d_X_refresh_33 ⟨Nat.zero_le _, Nat.zero_le _⟩ (fun _ => rfl) (fun x H locs hx1 hP hD hS => ?_)
      have hP : va_P D clX (wX h cI cZ n bt rk wt cl cc su sa sc od fr g1 x.1 x.2 ((flt (groX n bt rk od g1) (2 ^ n)).length)) H := hP
      have hD : va_D _ (wX h cI cZ n bt rk wt cl cc su sa sc od fr g1 x.1 x.2 ((flt (groX n bt rk od g1) (2 ^ n)).length)) := hD
      refine lv_goto (tgt := 43) hx hb d_X_refresh_36 (by decide) ?_
      refine lv_aload_n hx hb d_X_refresh_43 rfl (lv_at hl 0 rfl) ?_
      refine lv_iconst (v := 1) hx hb d_X_refresh_44 (by decide) ?_
      refine va_put (D := D) (ci := 0) (v := .int 1) (ty := .boolean) (C := RX) (T := TX) (N := 15) hx hb hts inX tyX tyX_ok nmX hown hK hP hD hS 0 rfl rfl 10 (by decide) (hts _ f_X_41) (fun _ h9 => h9) rfl (by decide +kernel) rfl rfl (Nat.le_of_ble_eq_true rfl) d_X_refresh_45 (fun H locs hP hD hS => ?_)
      have hP : va_P D clX (wX h cI cZ n bt rk wt cl cc su sa sc od true g1 x.1 x.2 ((flt (groX n bt rk od g1) (2 ^ n)).length)) H := hP
      have hD : va_D _ (wX h cI cZ n bt rk wt cl cc su sa sc od true g1 x.1 x.2 ((flt (groX n bt rk od g1) (2 ^ n)).length)) := hD
      exact wE_vret (g1, x.1, x.2) hx hb hr hlocks d_X_refresh_48 hS (by rw [hrep] at hP; exact hP) (by show isArr x.2 (reps n bt rk wt cl cc od); rw [← hrep]; exact hx1) rfl
    · refine lv_aload_n hx hb d_X_refresh_24 rfl (lv_at hl 0 rfl) ?_
      refine va_get (D := D) (ci := 0) (v := .int (nI od)) (C := RX) (T := TX) (N := 15) hx hb hts inX hown hK hP 0 rfl rfl 9 (by decide) (hts _ f_X_38) (fun _ h9 => h9) rfl d_X_refresh_25 ?_
      refine lv_iconst (v := 1) hx hb d_X_refresh_28 (by decide) ?_
      refine lv_icmp_ne (tgt := 39) hx hb d_X_refresh_29 (by decide) (fun c29 => ?_) (fun c29 => ?_)
      · have ho2 : 2 ≤ od := by
          have h1 : ¬ od = 0 := fun q => c21 (by rw [q]; rfl)
          have h2 : ¬ od = 1 := fun q => c29 (by rw [q]; rfl)
          omega
        have hrep : (wst (fun S => sp_sub bt S && !g1 S) (fun S => wor bt rk wt S od n) (2 ^ n)).2 = (reps n bt rk wt cl cc od) := by rw [wst_congr (2 ^ n) (J := kepX bt cl cc) (fun S hS2 => by unfold kepX; rw [hg1 S hS2]), wst_rep ho2]
        refine lv_aload_n hx hb d_X_refresh_39 rfl (lv_at hl 0 rfl) ?_
        refine wE_V (As := []) (rest := []) ⟨hx, hb, hml, hown, hts⟩ (c_X_collectWorthiest l _ hn (Nat.lt_of_lt_of_le hbt (Nat.pow_le_pow_right (by decide) (by omega))) hrk hwt ho rfl (fun k hk => wst_len hn hk hwp (fun S hS2 => (Bool.and_eq_true _ _ ▸ hS2 : _ ∧ _).1))) (cwV 0 hts g_X_134 rfl rfl rfl (by decide +kernel) ⟨Nat.le_of_ble_eq_true rfl, Nat.le_of_ble_eq_true rfl⟩) hK hP hD hS hA 0 rfl rfl rfl hl.1 rfl (Nat.le_of_ble_eq_true rfl) d_X_refresh_40 ⟨Nat.zero_le _, Nat.zero_le _⟩ (fun _ => rfl) (fun x H locs hx1 hP hD hS => ?_)
        have hP : va_P D clX (wX h cI cZ n bt rk wt cl cc su sa sc od fr g1 co x ((wst (fun S => sp_sub bt S && !g1 S) (fun S => wor bt rk wt S od n) (2 ^ n)).2.length)) H := hP
        have hD : va_D _ (wX h cI cZ n bt rk wt cl cc su sa sc od fr g1 co x ((wst (fun S => sp_sub bt S && !g1 S) (fun S => wor bt rk wt S od n) (2 ^ n)).2.length)) := hD
        refine lv_aload_n hx hb d_X_refresh_43 rfl (lv_at hl 0 rfl) ?_
        refine lv_iconst (v := 1) hx hb d_X_refresh_44 (by decide) ?_
        refine va_put (D := D) (ci := 0) (v := .int 1) (ty := .boolean) (C := RX) (T := TX) (N := 15) hx hb hts inX tyX tyX_ok nmX hown hK hP hD hS 0 rfl rfl 10 (by decide) (hts _ f_X_41) (fun _ h9 => h9) rfl (by decide +kernel) rfl rfl (Nat.le_of_ble_eq_true rfl) d_X_refresh_45 (fun H locs hP hD hS => ?_)
        have hP : va_P D clX (wX h cI cZ n bt rk wt cl cc su sa sc od true g1 co x ((wst (fun S => sp_sub bt S && !g1 S) (fun S => wor bt rk wt S od n) (2 ^ n)).2.length)) H := hP
        have hD : va_D _ (wX h cI cZ n bt rk wt cl cc su sa sc od true g1 co x ((wst (fun S => sp_sub bt S && !g1 S) (fun S => wor bt rk wt S od n) (2 ^ n)).2.length)) := hD
        exact wE_vret (g1, co, x) hx hb hr hlocks d_X_refresh_48 hS (by rw [hrep] at hP; exact hP) (by show isArr x (reps n bt rk wt cl cc od); rw [← hrep]; exact hx1) rfl
      · have ho2 : od < 2 := by have := (nI_eq (b := 1) (by omega) (by decide)).mp c29; omega
        have hrep : flt (groX n bt rk od g1) (2 ^ n) = (reps n bt rk wt cl cc od) := flt_congr (fun S hS2 => gro_rep hrk ho2 hbt hS2 hg1)
        refine lv_aload_n hx hb d_X_refresh_32 rfl (lv_at hl 0 rfl) ?_
        refine wE_V (As := []) (rest := []) ⟨hx, hb, hml, hown, hts⟩ (c_X_collectFullGrown l _ hn (Nat.lt_of_lt_of_le hbt (Nat.pow_le_pow_right (by decide) (by omega))) hrk ho rfl (fun k hk => by rw [flt_congr (P := (groX n bt rk od g1)) (Q := isRep n bt rk wt cl cc od) (fun S hS2 => gro_rep hrk ho2 hbt (by omega) hg1)]; exact rep_len hn hk hrk hwp)) (cwV 0 hts g_X_131 rfl rfl rfl (by decide +kernel) ⟨Nat.le_of_ble_eq_true rfl, Nat.le_of_ble_eq_true rfl⟩) hK hP hD hS hA 0 rfl rfl rfl hl.1 rfl (Nat.le_of_ble_eq_true rfl) d_X_refresh_33 ⟨Nat.zero_le _, Nat.zero_le _⟩ (fun _ => rfl) (fun x H locs hx1 hP hD hS => ?_)
        have hP : va_P D clX (wX h cI cZ n bt rk wt cl cc su sa sc od fr g1 x.1 x.2 ((flt (groX n bt rk od g1) (2 ^ n)).length)) H := hP
        have hD : va_D _ (wX h cI cZ n bt rk wt cl cc su sa sc od fr g1 x.1 x.2 ((flt (groX n bt rk od g1) (2 ^ n)).length)) := hD
        refine lv_goto (tgt := 43) hx hb d_X_refresh_36 (by decide) ?_
        refine lv_aload_n hx hb d_X_refresh_43 rfl (lv_at hl 0 rfl) ?_
        refine lv_iconst (v := 1) hx hb d_X_refresh_44 (by decide) ?_
        refine va_put (D := D) (ci := 0) (v := .int 1) (ty := .boolean) (C := RX) (T := TX) (N := 15) hx hb hts inX tyX tyX_ok nmX hown hK hP hD hS 0 rfl rfl 10 (by decide) (hts _ f_X_41) (fun _ h9 => h9) rfl (by decide +kernel) rfl rfl (Nat.le_of_ble_eq_true rfl) d_X_refresh_45 (fun H locs hP hD hS => ?_)
        have hP : va_P D clX (wX h cI cZ n bt rk wt cl cc su sa sc od true g1 x.1 x.2 ((flt (groX n bt rk od g1) (2 ^ n)).length)) H := hP
        have hD : va_D _ (wX h cI cZ n bt rk wt cl cc su sa sc od true g1 x.1 x.2 ((flt (groX n bt rk od g1) (2 ^ n)).length)) := hD
        exact wE_vret (g1, x.1, x.2) hx hb hr hlocks d_X_refresh_48 hS (by rw [hrep] at hP; exact hP) (by show isArr x.2 (reps n bt rk wt cl cc od); rw [← hrep]; exact hx1) rfl
  · have hfr1 : fr = true := by cases hq : fr; exact absurd (bI_0.mpr hq) c4; rfl
    exact wE_vret (cg, co, rp) hx hb hr hlocks d_X_refresh_7 hS (by rw [hfr1] at hP; rw [show rc = (reps n bt rk wt cl cc od).length from (hfr hfr1).2] at hP; exact hP) (hfr hfr1).1 rfl
end MX7

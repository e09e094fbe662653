theorem va_same {D : va_G} {cl : List vw_C} {tys : List (ClassId × FieldType)} {s : State} (hK : va_K D cl tys s) {i j : Nat} {c1 c2 : ClassId} {t : FieldType} (h1 : tys[i]? = some (c1, t)) (h2 : tys[j]? = some (c2, t)) (ht : t = .int ∨ t = .boolean) : c1 = c2 := by
  have a := (hK.2 i _ h1).2
  have b := (hK.2 j _ h2).2
  rcases ht with rfl | rfl
  · exact Option.some.inj (a.symm.trans b)
  · exact Option.some.inj (a.symm.trans b)
set_option maxHeartbeats 4000000 in
set_option maxRecDepth 100000 in
theorem c_X_init (l : Launch) (D : va_G) (h0 sz : Nat) : Met l y_X_init w_X_init ({ frames := 1, cells := 8, slots := 2623, locals := 20 }) (va_Pc [.ref h0] (fun U => U.heap.size = sz ∧ va_P D clX [(h0, .inr (0, [.int 0, .int 0, .null, .null, .null, .int 0, .null, .null, .int 0, .int 0, .int 0, .null, .null, .null, .int 0]))] U.heap ∧ va_K D clX [] U ∧ va_D (fun _ => True) [(h0, .inr (0, [.int 0, .int 0, .null, .null, .null, .int 0, .null, .null, .int 0, .int 0, .int 0, .null, .null, .null, .int 0]))])) (va_Qv (fun u : (Nat → Nat) × ClassId × ClassId => u.1 0 = h0) (fun u t => va_P D clX (wX u.1 u.2.1 u.2.2 0 0 (fun _ => 0) (fun _ => 0) (fun _ => 0) 0 (fun _ => 0) (fun _ => 0) 0 0 false (fun _ => false) (fun _ => 0) (fun _ => 0) 0) t.heap ∧ va_K D clX [(u.2.1, .int), (u.2.2, .boolean)] t ∧ va_D (va_A [(h0, .inr (0, [.int 0, .int 0, .null, .null, .null, .int 0, .null, .null, .int 0, .int 0, .int 0, .null, .null, .null, .int 0]))] sz) (wX u.1 u.2.1 u.2.2 0 0 (fun _ => 0) (fun _ => 0) (fun _ => 0) 0 (fun _ => 0) (fun _ => 0) 0 0 false (fun _ => false) (fun _ => 0) (fun _ => 0) 0)) (va_A [(h0, .inr (0, [.int 0, .int 0, .null, .null, .null, .int 0, .null, .null, .int 0, .int 0, .int 0, .null, .null, .null, .int 0]))] sz)) 8 2623 (va_A [(h0, .inr (0, [.int 0, .int 0, .null, .null, .null, .int 0, .null, .null, .int 0, .int 0, .int 0, .null, .null, .null, .int 0]))] sz) := by
  refine Met.ofW (cc := b_X_init) (maxL := 1) (ret := none) (by decide) rfl ?_
  intro p e s m args below meth c s₁ B hml hv
  obtain ⟨rfl, hsz, hP, hK, hD0⟩ := hv
  have hx := B.exec
  have hb := B.bytes
  have hr := B.returns
  have hts0 := atoms_spec (ws := w_X_init) B.pre
  have hts : ∀ w ∈ tbl, w.before _ s = true := fun w h => hts0 w (List.mem_cons_of_mem _ h)
  have hown : s.vm.findClass RX = some m.cls := findClass_of_methodNamed B.named
  have hlocks := B.notSynchronized
  have hin : meth.name = "<init>" := (name_of_methodNamed B.named B.method).1
  subst hsz
  have hD := hD0.self (sz := s.heap.size)
  generalize hAe : va_A [(h0, .inr (0, [.int 0, .int 0, .null, .null, .null, .int 0, .null, .null, .int 0, .int 0, .int 0, .null, .null, .null, .int 0]))] s.heap.size = A at hD ⊢
  have hA : ∀ q : Nat, s.heap.size ≤ q → A q := fun q h => by rw [← hAe]; exact Or.inr h
  have hS : va_S A s.heap s.heap [] := va_S.rf
  have hl := lv_entry ([.ref h0]) (n := 1) (Nat.le_of_ble_eq_true rfl)
  rw [lg_entry_eq]
  generalize (lg_sl ([.ref h0]) ++ List.replicate (1 - (lg_sl ([.ref h0])).length) Slot.unset).toArray = ls at hl ⊢
  have hl : lv_has ls 1 [(0, .ref h0)] := hl
  refine lv_aload_n hx hb d_X_init_0 rfl (lv_at hl 0 rfl) ?_
  refine W.objInit hx hb hown (hts _ l_X_3) (hts _ h_objk) (hts _ h_objc) rfl (by rw [hml]; exact hl.1) rfl d_X_init_1 (Nat.le_of_ble_eq_true rfl) (Nat.le_of_ble_eq_true rfl) ?_
  refine W.eq (g2 := F0 m 4 ls []) rfl ?_
  refine lv_aload_n hx hb d_X_init_4 rfl (lv_at hl 0 rfl) ?_
  refine lv_iconst (v := 0) hx hb d_X_init_5 (by decide) ?_
  refine va_put (D := D) (ci := 0) (v := .int 0) (ty := .int) (C := RX) (T := TX) (N := 15) hx hb hts inX tyX tyX_ok nmX hown hK hP hD hS 0 rfl rfl 0 (by decide) (hts _ f_X_9) (fun _ h9 => h9) rfl (by decide +kernel) rfl rfl (Nat.le_of_ble_eq_true rfl) d_X_init_6 (fun H locs hP hD hS => ?_)
  have hP : va_P D clX [(h0, .inr (0, [.int 0, .int 0, .null, .null, .null, .int 0, .null, .null, .int 0, .int 0, .int 0, .null, .null, .null, .int 0]))] H := hP
  have hD : va_D A [(h0, .inr (0, [.int 0, .int 0, .null, .null, .null, .int 0, .null, .null, .int 0, .int 0, .int 0, .null, .null, .null, .int 0]))] := hD
  refine lv_aload_n hx hb d_X_init_9 rfl (lv_at hl 0 rfl) ?_
  refine lv_iconst (v := 0) hx hb d_X_init_10 (by decide) ?_
  refine va_put (D := D) (ci := 0) (v := .int 0) (ty := .int) (C := RX) (T := TX) (N := 15) hx hb hts inX tyX tyX_ok nmX hown hK hP hD hS 0 rfl rfl 1 (by decide) (hts _ f_X_13) (fun _ h9 => h9) rfl (by decide +kernel) rfl rfl (Nat.le_of_ble_eq_true rfl) d_X_init_11 (fun H locs hP hD hS => ?_)
  have hP : va_P D clX [(h0, .inr (0, [.int 0, .int 0, .null, .null, .null, .int 0, .null, .null, .int 0, .int 0, .int 0, .null, .null, .null, .int 0]))] H := hP
  have hD : va_D A [(h0, .inr (0, [.int 0, .int 0, .null, .null, .null, .int 0, .null, .null, .int 0, .int 0, .int 0, .null, .null, .null, .int 0]))] := hD
  refine lv_aload_n hx hb d_X_init_14 rfl (lv_at hl 0 rfl) ?_
  refine lv_bipush (v := 11) hx hb d_X_init_15 (by decide) ?_
  refine va_newa (atype := .int) (ty := .int) (a0 := (11, .inl (fun _ => 0))) hx hb (hts _ h_arr_int) rfl hK hP hD hS hA (fun _ => rfl) (by decide) (by decide) (by decide) (Nat.le_of_ble_eq_true rfl) (Nat.le_of_ble_eq_true rfl) d_X_init_17 (fun q1 cI H hK hP hD hS => ?_)
  have hK : va_K D clX [(cI, .int)] s := hK
  have hP : va_P D clX [(h0, .inr (0, [.int 0, .int 0, .null, .null, .null, .int 0, .null, .null, .int 0, .int 0, .int 0, .null, .null, .null, .int 0])), (q1, .inl (cI, 11, .inl (fun _ => 0)))] H := hP
  have hD : va_D A [(h0, .inr (0, [.int 0, .int 0, .null, .null, .null, .int 0, .null, .null, .int 0, .int 0, .int 0, .null, .null, .null, .int 0])), (q1, .inl (cI, 11, .inl (fun _ => 0)))] := hD
  refine va_putF (D := D) (ci := 0) (v := .ref q1) (ty := (.array .int)) (C := RX) (T := TX) (N := 15) hx hb hts inX tyX tyX_ok nmX hown hK hP hD hS 0 rfl rfl 2 (by decide) (hts _ f_X_16) (fun _ h9 => h9) rfl hin rfl (by decide +kernel) rfl rfl (Nat.le_of_ble_eq_true rfl) d_X_init_19 (fun H locs hP hD hS => ?_)
  have hP : va_P D clX [(h0, .inr (0, [.int 0, .int 0, .ref q1, .null, .null, .int 0, .null, .null, .int 0, .int 0, .int 0, .null, .null, .null, .int 0])), (q1, .inl (cI, 11, .inl (fun _ => 0)))] H := hP
  have hD : va_D A [(h0, .inr (0, [.int 0, .int 0, .ref q1, .null, .null, .int 0, .null, .null, .int 0, .int 0, .int 0, .null, .null, .null, .int 0])), (q1, .inl (cI, 11, .inl (fun _ => 0)))] := hD
  refine lv_aload_n hx hb d_X_init_22 rfl (lv_at hl 0 rfl) ?_
  refine lv_bipush (v := 11) hx hb d_X_init_23 (by decide) ?_
  refine va_newa (atype := .int) (ty := .int) (a0 := (11, .inl (fun _ => 0))) hx hb (hts _ h_arr_int) rfl hK hP hD hS hA (fun _ => rfl) (by decide) (by decide) (by decide) (Nat.le_of_ble_eq_true rfl) (Nat.le_of_ble_eq_true rfl) d_X_init_25 (fun q2 cA2 H hK hP hD hS => ?_)
  obtain rfl : cI = cA2 := va_same hK (i := 0) (j := 1) rfl rfl (by first | exact Or.inl rfl | exact Or.inr rfl)
  have hK := hK.sub (tys' := [(cI, .int)]) [0] rfl
  have hK : va_K D clX [(cI, .int)] s := hK
  have hP : va_P D clX [(h0, .inr (0, [.int 0, .int 0, .ref q1, .null, .null, .int 0, .null, .null, .int 0, .int 0, .int 0, .null, .null, .null, .int 0])), (q1, .inl (cI, 11, .inl (fun _ => 0))), (q2, .inl (cI, 11, .inl (fun _ => 0)))] H := hP
  have hD : va_D A [(h0, .inr (0, [.int 0, .int 0, .ref q1, .null, .null, .int 0, .null, .null, .int 0, .int 0, .int 0, .null, .null, .null, .int 0])), (q1, .inl (cI, 11, .inl (fun _ => 0))), (q2, .inl (cI, 11, .inl (fun _ => 0)))] := hD
  refine va_putF (D := D) (ci := 0) (v := .ref q2) (ty := (.array .int)) (C := RX) (T := TX) (N := 15) hx hb hts inX tyX tyX_ok nmX hown hK hP hD hS 0 rfl rfl 3 (by decide) (hts _ f_X_20) (fun _ h9 => h9) rfl hin rfl (by decide +kernel) rfl rfl (Nat.le_of_ble_eq_true rfl) d_X_init_27 (fun H locs hP hD hS => ?_)
  have hP : va_P D clX [(h0, .inr (0, [.int 0, .int 0, .ref q1, .ref q2, .null, .int 0, .null, .null, .int 0, .int 0, .int 0, .null, .null, .null, .int 0])), (q1, .inl (cI, 11, .inl (fun _ => 0))), (q2, .inl (cI, 11, .inl (fun _ => 0)))] H := hP
  have hD : va_D A [(h0, .inr (0, [.int 0, .int 0, .ref q1, .ref q2, .null, .int 0, .null, .null, .int 0, .int 0, .int 0, .null, .null, .null, .int 0])), (q1, .inl (cI, 11, .inl (fun _ => 0))), (q2, .inl (cI, 11, .inl (fun _ => 0)))] := hD
  refine lv_aload_n hx hb d_X_init_30 rfl (lv_at hl 0 rfl) ?_
  refine lv_bipush (v := 40) hx hb d_X_init_31 (by decide) ?_
  refine va_newa (atype := .int) (ty := .int) (a0 := (40, .inl (fun _ => 0))) hx hb (hts _ h_arr_int) rfl hK hP hD hS hA (fun _ => rfl) (by decide) (by decide) (by decide) (Nat.le_of_ble_eq_true rfl) (Nat.le_of_ble_eq_true rfl) d_X_init_33 (fun q3 cA3 H hK hP hD hS => ?_)
  obtain rfl : cI = cA3 := va_same hK (i := 0) (j := 1) rfl rfl (by first | exact Or.inl rfl | exact Or.inr rfl)
  have hK := hK.sub (tys' := [(cI, .int)]) [0] rfl
  have hK : va_K D clX [(cI, .int)] s := hK
  have hP : va_P D clX [(h0, .inr (0, [.int 0, .int 0, .ref q1, .ref q2, .null, .int 0, .null, .null, .int 0, .int 0, .int 0, .null, .null, .null, .int 0])), (q1, .inl (cI, 11, .inl (fun _ => 0))), (q2, .inl (cI, 11, .inl (fun _ => 0))), (q3, .inl (cI, 40, .inl (fun _ => 0)))] H := hP
  have hD : va_D A [(h0, .inr (0, [.int 0, .int 0, .ref q1, .ref q2, .null, .int 0, .null, .null, .int 0, .int 0, .int 0, .null, .null, .null, .int 0])), (q1, .inl (cI, 11, .inl (fun _ => 0))), (q2, .inl (cI, 11, .inl (fun _ => 0))), (q3, .inl (cI, 40, .inl (fun _ => 0)))] := hD
  refine va_putF (D := D) (ci := 0) (v := .ref q3) (ty := (.array .int)) (C := RX) (T := TX) (N := 15) hx hb hts inX tyX tyX_ok nmX hown hK hP hD hS 0 rfl rfl 4 (by decide) (hts _ f_X_23) (fun _ h9 => h9) rfl hin rfl (by decide +kernel) rfl rfl (Nat.le_of_ble_eq_true rfl) d_X_init_35 (fun H locs hP hD hS => ?_)
  have hP : va_P D clX [(h0, .inr (0, [.int 0, .int 0, .ref q1, .ref q2, .ref q3, .int 0, .null, .null, .int 0, .int 0, .int 0, .null, .null, .null, .int 0])), (q1, .inl (cI, 11, .inl (fun _ => 0))), (q2, .inl (cI, 11, .inl (fun _ => 0))), (q3, .inl (cI, 40, .inl (fun _ => 0)))] H := hP
  have hD : va_D A [(h0, .inr (0, [.int 0, .int 0, .ref q1, .ref q2, .ref q3, .int 0, .null, .null, .int 0, .int 0, .int 0, .null, .null, .null, .int 0])), (q1, .inl (cI, 11, .inl (fun _ => 0))), (q2, .inl (cI, 11, .inl (fun _ => 0))), (q3, .inl (cI, 40, .inl (fun _ => 0)))] := hD
  refine lv_aload_n hx hb d_X_init_38 rfl (lv_at hl 0 rfl) ?_
  refine lv_iconst (v := 0) hx hb d_X_init_39 (by decide) ?_
  refine va_put (D := D) (ci := 0) (v := .int 0) (ty := .int) (C := RX) (T := TX) (N := 15) hx hb hts inX tyX tyX_ok nmX hown hK hP hD hS 0 rfl rfl 5 (by decide) (hts _ f_X_26) (fun _ h9 => h9) rfl (by decide +kernel) rfl rfl (Nat.le_of_ble_eq_true rfl) d_X_init_40 (fun H locs hP hD hS => ?_)
  have hP : va_P D clX [(h0, .inr (0, [.int 0, .int 0, .ref q1, .ref q2, .ref q3, .int 0, .null, .null, .int 0, .int 0, .int 0, .null, .null, .null, .int 0])), (q1, .inl (cI, 11, .inl (fun _ => 0))), (q2, .inl (cI, 11, .inl (fun _ => 0))), (q3, .inl (cI, 40, .inl (fun _ => 0)))] H := hP
  have hD : va_D A [(h0, .inr (0, [.int 0, .int 0, .ref q1, .ref q2, .ref q3, .int 0, .null, .null, .int 0, .int 0, .int 0, .null, .null, .null, .int 0])), (q1, .inl (cI, 11, .inl (fun _ => 0))), (q2, .inl (cI, 11, .inl (fun _ => 0))), (q3, .inl (cI, 40, .inl (fun _ => 0)))] := hD
  refine lv_aload_n hx hb d_X_init_43 rfl (lv_at hl 0 rfl) ?_
  refine lv_bipush (v := 20) hx hb d_X_init_44 (by decide) ?_
  refine va_newa (atype := .int) (ty := .int) (a0 := (20, .inl (fun _ => 0))) hx hb (hts _ h_arr_int) rfl hK hP hD hS hA (fun _ => rfl) (by decide) (by decide) (by decide) (Nat.le_of_ble_eq_true rfl) (Nat.le_of_ble_eq_true rfl) d_X_init_46 (fun q4 cA4 H hK hP hD hS => ?_)
  obtain rfl : cI = cA4 := va_same hK (i := 0) (j := 1) rfl rfl (by first | exact Or.inl rfl | exact Or.inr rfl)
  have hK := hK.sub (tys' := [(cI, .int)]) [0] rfl
  have hK : va_K D clX [(cI, .int)] s := hK
  have hP : va_P D clX [(h0, .inr (0, [.int 0, .int 0, .ref q1, .ref q2, .ref q3, .int 0, .null, .null, .int 0, .int 0, .int 0, .null, .null, .null, .int 0])), (q1, .inl (cI, 11, .inl (fun _ => 0))), (q2, .inl (cI, 11, .inl (fun _ => 0))), (q3, .inl (cI, 40, .inl (fun _ => 0))), (q4, .inl (cI, 20, .inl (fun _ => 0)))] H := hP
  have hD : va_D A [(h0, .inr (0, [.int 0, .int 0, .ref q1, .ref q2, .ref q3, .int 0, .null, .null, .int 0, .int 0, .int 0, .null, .null, .null, .int 0])), (q1, .inl (cI, 11, .inl (fun _ => 0))), (q2, .inl (cI, 11, .inl (fun _ => 0))), (q3, .inl (cI, 40, .inl (fun _ => 0))), (q4, .inl (cI, 20, .inl (fun _ => 0)))] := hD
  refine va_putF (D := D) (ci := 0) (v := .ref q4) (ty := (.array .int)) (C := RX) (T := TX) (N := 15) hx hb hts inX tyX tyX_ok nmX hown hK hP hD hS 0 rfl rfl 6 (by decide) (hts _ f_X_29) (fun _ h9 => h9) rfl hin rfl (by decide +kernel) rfl rfl (Nat.le_of_ble_eq_true rfl) d_X_init_48 (fun H locs hP hD hS => ?_)
  have hP : va_P D clX [(h0, .inr (0, [.int 0, .int 0, .ref q1, .ref q2, .ref q3, .int 0, .ref q4, .null, .int 0, .int 0, .int 0, .null, .null, .null, .int 0])), (q1, .inl (cI, 11, .inl (fun _ => 0))), (q2, .inl (cI, 11, .inl (fun _ => 0))), (q3, .inl (cI, 40, .inl (fun _ => 0))), (q4, .inl (cI, 20, .inl (fun _ => 0)))] H := hP
  have hD : va_D A [(h0, .inr (0, [.int 0, .int 0, .ref q1, .ref q2, .ref q3, .int 0, .ref q4, .null, .int 0, .int 0, .int 0, .null, .null, .null, .int 0])), (q1, .inl (cI, 11, .inl (fun _ => 0))), (q2, .inl (cI, 11, .inl (fun _ => 0))), (q3, .inl (cI, 40, .inl (fun _ => 0))), (q4, .inl (cI, 20, .inl (fun _ => 0)))] := hD
  refine lv_aload_n hx hb d_X_init_51 rfl (lv_at hl 0 rfl) ?_
  refine lv_bipush (v := 20) hx hb d_X_init_52 (by decide) ?_
  refine va_newa (atype := .int) (ty := .int) (a0 := (20, .inl (fun _ => 0))) hx hb (hts _ h_arr_int) rfl hK hP hD hS hA (fun _ => rfl) (by decide) (by decide) (by decide) (Nat.le_of_ble_eq_true rfl) (Nat.le_of_ble_eq_true rfl) d_X_init_54 (fun q5 cA5 H hK hP hD hS => ?_)
  obtain rfl : cI = cA5 := va_same hK (i := 0) (j := 1) rfl rfl (by first | exact Or.inl rfl | exact Or.inr rfl)
  have hK := hK.sub (tys' := [(cI, .int)]) [0] rfl
  have hK : va_K D clX [(cI, .int)] s := hK
  have hP : va_P D clX [(h0, .inr (0, [.int 0, .int 0, .ref q1, .ref q2, .ref q3, .int 0, .ref q4, .null, .int 0, .int 0, .int 0, .null, .null, .null, .int 0])), (q1, .inl (cI, 11, .inl (fun _ => 0))), (q2, .inl (cI, 11, .inl (fun _ => 0))), (q3, .inl (cI, 40, .inl (fun _ => 0))), (q4, .inl (cI, 20, .inl (fun _ => 0))), (q5, .inl (cI, 20, .inl (fun _ => 0)))] H := hP
  have hD : va_D A [(h0, .inr (0, [.int 0, .int 0, .ref q1, .ref q2, .ref q3, .int 0, .ref q4, .null, .int 0, .int 0, .int 0, .null, .null, .null, .int 0])), (q1, .inl (cI, 11, .inl (fun _ => 0))), (q2, .inl (cI, 11, .inl (fun _ => 0))), (q3, .inl (cI, 40, .inl (fun _ => 0))), (q4, .inl (cI, 20, .inl (fun _ => 0))), (q5, .inl (cI, 20, .inl (fun _ => 0)))] := hD
  refine va_putF (D := D) (ci := 0) (v := .ref q5) (ty := (.array .int)) (C := RX) (T := TX) (N := 15) hx hb hts inX tyX tyX_ok nmX hown hK hP hD hS 0 rfl rfl 7 (by decide) (hts _ f_X_32) (fun _ h9 => h9) rfl hin rfl (by decide +kernel) rfl rfl (Nat.le_of_ble_eq_true rfl) d_X_init_56 (fun H locs hP hD hS => ?_)
  have hP : va_P D clX [(h0, .inr (0, [.int 0, .int 0, .ref q1, .ref q2, .ref q3, .int 0, .ref q4, .ref q5, .int 0, .int 0, .int 0, .null, .null, .null, .int 0])), (q1, .inl (cI, 11, .inl (fun _ => 0))), (q2, .inl (cI, 11, .inl (fun _ => 0))), (q3, .inl (cI, 40, .inl (fun _ => 0))), (q4, .inl (cI, 20, .inl (fun _ => 0))), (q5, .inl (cI, 20, .inl (fun _ => 0)))] H := hP
  have hD : va_D A [(h0, .inr (0, [.int 0, .int 0, .ref q1, .ref q2, .ref q3, .int 0, .ref q4, .ref q5, .int 0, .int 0, .int 0, .null, .null, .null, .int 0])), (q1, .inl (cI, 11, .inl (fun _ => 0))), (q2, .inl (cI, 11, .inl (fun _ => 0))), (q3, .inl (cI, 40, .inl (fun _ => 0))), (q4, .inl (cI, 20, .inl (fun _ => 0))), (q5, .inl (cI, 20, .inl (fun _ => 0)))] := hD
  refine lv_aload_n hx hb d_X_init_59 rfl (lv_at hl 0 rfl) ?_
  refine lv_iconst (v := 0) hx hb d_X_init_60 (by decide) ?_
  refine va_put (D := D) (ci := 0) (v := .int 0) (ty := .int) (C := RX) (T := TX) (N := 15) hx hb hts inX tyX tyX_ok nmX hown hK hP hD hS 0 rfl rfl 8 (by decide) (hts _ f_X_35) (fun _ h9 => h9) rfl (by decide +kernel) rfl rfl (Nat.le_of_ble_eq_true rfl) d_X_init_61 (fun H locs hP hD hS => ?_)
  have hP : va_P D clX [(h0, .inr (0, [.int 0, .int 0, .ref q1, .ref q2, .ref q3, .int 0, .ref q4, .ref q5, .int 0, .int 0, .int 0, .null, .null, .null, .int 0])), (q1, .inl (cI, 11, .inl (fun _ => 0))), (q2, .inl (cI, 11, .inl (fun _ => 0))), (q3, .inl (cI, 40, .inl (fun _ => 0))), (q4, .inl (cI, 20, .inl (fun _ => 0))), (q5, .inl (cI, 20, .inl (fun _ => 0)))] H := hP
  have hD : va_D A [(h0, .inr (0, [.int 0, .int 0, .ref q1, .ref q2, .ref q3, .int 0, .ref q4, .ref q5, .int 0, .int 0, .int 0, .null, .null, .null, .int 0])), (q1, .inl (cI, 11, .inl (fun _ => 0))), (q2, .inl (cI, 11, .inl (fun _ => 0))), (q3, .inl (cI, 40, .inl (fun _ => 0))), (q4, .inl (cI, 20, .inl (fun _ => 0))), (q5, .inl (cI, 20, .inl (fun _ => 0)))] := hD
  refine lv_aload_n hx hb d_X_init_64 rfl (lv_at hl 0 rfl) ?_
  refine lv_iconst (v := 0) hx hb d_X_init_65 (by decide) ?_
  refine va_put (D := D) (ci := 0) (v := .int 0) (ty := .int) (C := RX) (T := TX) (N := 15) hx hb hts inX tyX tyX_ok nmX hown hK hP hD hS 0 rfl rfl 9 (by decide) (hts _ f_X_38) (fun _ h9 => h9) rfl (by decide +kernel) rfl rfl (Nat.le_of_ble_eq_true rfl) d_X_init_66 (fun H locs hP hD hS => ?_)
  have hP : va_P D clX [(h0, .inr (0, [.int 0, .int 0, .ref q1, .ref q2, .ref q3, .int 0, .ref q4, .ref q5, .int 0, .int 0, .int 0, .null, .null, .null, .int 0])), (q1, .inl (cI, 11, .inl (fun _ => 0))), (q2, .inl (cI, 11, .inl (fun _ => 0))), (q3, .inl (cI, 40, .inl (fun _ => 0))), (q4, .inl (cI, 20, .inl (fun _ => 0))), (q5, .inl (cI, 20, .inl (fun _ => 0)))] H := hP
  have hD : va_D A [(h0, .inr (0, [.int 0, .int 0, .ref q1, .ref q2, .ref q3, .int 0, .ref q4, .ref q5, .int 0, .int 0, .int 0, .null, .null, .null, .int 0])), (q1, .inl (cI, 11, .inl (fun _ => 0))), (q2, .inl (cI, 11, .inl (fun _ => 0))), (q3, .inl (cI, 40, .inl (fun _ => 0))), (q4, .inl (cI, 20, .inl (fun _ => 0))), (q5, .inl (cI, 20, .inl (fun _ => 0)))] := hD
  refine lv_aload_n hx hb d_X_init_69 rfl (lv_at hl 0 rfl) ?_
  refine lv_iconst (v := 0) hx hb d_X_init_70 (by decide) ?_
  refine va_put (D := D) (ci := 0) (v := .int 0) (ty := .boolean) (C := RX) (T := TX) (N := 15) hx hb hts inX tyX tyX_ok nmX hown hK hP hD hS 0 rfl rfl 10 (by decide) (hts _ f_X_41) (fun _ h9 => h9) rfl (by decide +kernel) rfl rfl (Nat.le_of_ble_eq_true rfl) d_X_init_71 (fun H locs hP hD hS => ?_)
  have hP : va_P D clX [(h0, .inr (0, [.int 0, .int 0, .ref q1, .ref q2, .ref q3, .int 0, .ref q4, .ref q5, .int 0, .int 0, .int 0, .null, .null, .null, .int 0])), (q1, .inl (cI, 11, .inl (fun _ => 0))), (q2, .inl (cI, 11, .inl (fun _ => 0))), (q3, .inl (cI, 40, .inl (fun _ => 0))), (q4, .inl (cI, 20, .inl (fun _ => 0))), (q5, .inl (cI, 20, .inl (fun _ => 0)))] H := hP
  have hD : va_D A [(h0, .inr (0, [.int 0, .int 0, .ref q1, .ref q2, .ref q3, .int 0, .ref q4, .ref q5, .int 0, .int 0, .int 0, .null, .null, .null, .int 0])), (q1, .inl (cI, 11, .inl (fun _ => 0))), (q2, .inl (cI, 11, .inl (fun _ => 0))), (q3, .inl (cI, 40, .inl (fun _ => 0))), (q4, .inl (cI, 20, .inl (fun _ => 0))), (q5, .inl (cI, 20, .inl (fun _ => 0)))] := hD
  refine lv_aload_n hx hb d_X_init_74 rfl (lv_at hl 0 rfl) ?_
  refine lv_sipush (v := 2048) hx hb d_X_init_75 (by decide) ?_
  refine va_newa (atype := .boolean) (ty := .boolean) (a0 := (2048, .inl (fun _ => 0))) hx hb (hts _ h_arr_boolean) rfl hK hP hD hS hA (fun _ => rfl) (by decide) (by decide) (by decide) (Nat.le_of_ble_eq_true rfl) (Nat.le_of_ble_eq_true rfl) d_X_init_78 (fun q6 cZ H hK hP hD hS => ?_)
  have hK : va_K D clX [(cI, .int), (cZ, .boolean)] s := hK
  have hP : va_P D clX [(h0, .inr (0, [.int 0, .int 0, .ref q1, .ref q2, .ref q3, .int 0, .ref q4, .ref q5, .int 0, .int 0, .int 0, .null, .null, .null, .int 0])), (q1, .inl (cI, 11, .inl (fun _ => 0))), (q2, .inl (cI, 11, .inl (fun _ => 0))), (q3, .inl (cI, 40, .inl (fun _ => 0))), (q4, .inl (cI, 20, .inl (fun _ => 0))), (q5, .inl (cI, 20, .inl (fun _ => 0))), (q6, .inl (cZ, 2048, .inl (fun _ => 0)))] H := hP
  have hD : va_D A [(h0, .inr (0, [.int 0, .int 0, .ref q1, .ref q2, .ref q3, .int 0, .ref q4, .ref q5, .int 0, .int 0, .int 0, .null, .null, .null, .int 0])), (q1, .inl (cI, 11, .inl (fun _ => 0))), (q2, .inl (cI, 11, .inl (fun _ => 0))), (q3, .inl (cI, 40, .inl (fun _ => 0))), (q4, .inl (cI, 20, .inl (fun _ => 0))), (q5, .inl (cI, 20, .inl (fun _ => 0))), (q6, .inl (cZ, 2048, .inl (fun _ => 0)))] := hD
  refine va_putF (D := D) (ci := 0) (v := .ref q6) (ty := (.array .boolean)) (C := RX) (T := TX) (N := 15) hx hb hts inX tyX tyX_ok nmX hown hK hP hD hS 0 rfl rfl 11 (by decide) (hts _ f_X_45) (fun _ h9 => h9) rfl hin rfl (by decide +kernel) rfl rfl (Nat.le_of_ble_eq_true rfl) d_X_init_80 (fun H locs hP hD hS => ?_)
  have hP : va_P D clX [(h0, .inr (0, [.int 0, .int 0, .ref q1, .ref q2, .ref q3, .int 0, .ref q4, .ref q5, .int 0, .int 0, .int 0, .ref q6, .null, .null, .int 0])), (q1, .inl (cI, 11, .inl (fun _ => 0))), (q2, .inl (cI, 11, .inl (fun _ => 0))), (q3, .inl (cI, 40, .inl (fun _ => 0))), (q4, .inl (cI, 20, .inl (fun _ => 0))), (q5, .inl (cI, 20, .inl (fun _ => 0))), (q6, .inl (cZ, 2048, .inl (fun _ => 0)))] H := hP
  have hD : va_D A [(h0, .inr (0, [.int 0, .int 0, .ref q1, .ref q2, .ref q3, .int 0, .ref q4, .ref q5, .int 0, .int 0, .int 0, .ref q6, .null, .null, .int 0])), (q1, .inl (cI, 11, .inl (fun _ => 0))), (q2, .inl (cI, 11, .inl (fun _ => 0))), (q3, .inl (cI, 40, .inl (fun _ => 0))), (q4, .inl (cI, 20, .inl (fun _ => 0))), (q5, .inl (cI, 20, .inl (fun _ => 0))), (q6, .inl (cZ, 2048, .inl (fun _ => 0)))] := hD
  refine lv_aload_n hx hb d_X_init_83 rfl (lv_at hl 0 rfl) ?_
  refine lv_bipush (v := 11) hx hb d_X_init_84 (by decide) ?_
  refine va_newa (atype := .int) (ty := .int) (a0 := (11, .inl (fun _ => 0))) hx hb (hts _ h_arr_int) rfl hK hP hD hS hA (fun _ => rfl) (by decide) (by decide) (by decide) (Nat.le_of_ble_eq_true rfl) (Nat.le_of_ble_eq_true rfl) d_X_init_86 (fun q7 cA7 H hK hP hD hS => ?_)
  obtain rfl : cI = cA7 := va_same hK (i := 0) (j := 2) rfl rfl (by first | exact Or.inl rfl | exact Or.inr rfl)
  have hK := hK.sub (tys' := [(cI, .int), (cZ, .boolean)]) [0, 1] rfl
  have hK : va_K D clX [(cI, .int), (cZ, .boolean)] s := hK
  have hP : va_P D clX [(h0, .inr (0, [.int 0, .int 0, .ref q1, .ref q2, .ref q3, .int 0, .ref q4, .ref q5, .int 0, .int 0, .int 0, .ref q6, .null, .null, .int 0])), (q1, .inl (cI, 11, .inl (fun _ => 0))), (q2, .inl (cI, 11, .inl (fun _ => 0))), (q3, .inl (cI, 40, .inl (fun _ => 0))), (q4, .inl (cI, 20, .inl (fun _ => 0))), (q5, .inl (cI, 20, .inl (fun _ => 0))), (q6, .inl (cZ, 2048, .inl (fun _ => 0))), (q7, .inl (cI, 11, .inl (fun _ => 0)))] H := hP
  have hD : va_D A [(h0, .inr (0, [.int 0, .int 0, .ref q1, .ref q2, .ref q3, .int 0, .ref q4, .ref q5, .int 0, .int 0, .int 0, .ref q6, .null, .null, .int 0])), (q1, .inl (cI, 11, .inl (fun _ => 0))), (q2, .inl (cI, 11, .inl (fun _ => 0))), (q3, .inl (cI, 40, .inl (fun _ => 0))), (q4, .inl (cI, 20, .inl (fun _ => 0))), (q5, .inl (cI, 20, .inl (fun _ => 0))), (q6, .inl (cZ, 2048, .inl (fun _ => 0))), (q7, .inl (cI, 11, .inl (fun _ => 0)))] := hD
  refine va_putF (D := D) (ci := 0) (v := .ref q7) (ty := (.array .int)) (C := RX) (T := TX) (N := 15) hx hb hts inX tyX tyX_ok nmX hown hK hP hD hS 0 rfl rfl 12 (by decide) (hts _ f_X_49) (fun _ h9 => h9) rfl hin rfl (by decide +kernel) rfl rfl (Nat.le_of_ble_eq_true rfl) d_X_init_88 (fun H locs hP hD hS => ?_)
  have hP : va_P D clX [(h0, .inr (0, [.int 0, .int 0, .ref q1, .ref q2, .ref q3, .int 0, .ref q4, .ref q5, .int 0, .int 0, .int 0, .ref q6, .ref q7, .null, .int 0])), (q1, .inl (cI, 11, .inl (fun _ => 0))), (q2, .inl (cI, 11, .inl (fun _ => 0))), (q3, .inl (cI, 40, .inl (fun _ => 0))), (q4, .inl (cI, 20, .inl (fun _ => 0))), (q5, .inl (cI, 20, .inl (fun _ => 0))), (q6, .inl (cZ, 2048, .inl (fun _ => 0))), (q7, .inl (cI, 11, .inl (fun _ => 0)))] H := hP
  have hD : va_D A [(h0, .inr (0, [.int 0, .int 0, .ref q1, .ref q2, .ref q3, .int 0, .ref q4, .ref q5, .int 0, .int 0, .int 0, .ref q6, .ref q7, .null, .int 0])), (q1, .inl (cI, 11, .inl (fun _ => 0))), (q2, .inl (cI, 11, .inl (fun _ => 0))), (q3, .inl (cI, 40, .inl (fun _ => 0))), (q4, .inl (cI, 20, .inl (fun _ => 0))), (q5, .inl (cI, 20, .inl (fun _ => 0))), (q6, .inl (cZ, 2048, .inl (fun _ => 0))), (q7, .inl (cI, 11, .inl (fun _ => 0)))] := hD
  refine lv_aload_n hx hb d_X_init_91 rfl (lv_at hl 0 rfl) ?_
  refine lv_sipush (v := 462) hx hb d_X_init_92 (by decide) ?_
  refine va_newa (atype := .int) (ty := .int) (a0 := (462, .inl (fun _ => 0))) hx hb (hts _ h_arr_int) rfl hK hP hD hS hA (fun _ => rfl) (by decide) (by decide) (by decide) (Nat.le_of_ble_eq_true rfl) (Nat.le_of_ble_eq_true rfl) d_X_init_95 (fun q8 cA8 H hK hP hD hS => ?_)
  obtain rfl : cI = cA8 := va_same hK (i := 0) (j := 2) rfl rfl (by first | exact Or.inl rfl | exact Or.inr rfl)
  have hK := hK.sub (tys' := [(cI, .int), (cZ, .boolean)]) [0, 1] rfl
  have hK : va_K D clX [(cI, .int), (cZ, .boolean)] s := hK
  have hP : va_P D clX [(h0, .inr (0, [.int 0, .int 0, .ref q1, .ref q2, .ref q3, .int 0, .ref q4, .ref q5, .int 0, .int 0, .int 0, .ref q6, .ref q7, .null, .int 0])), (q1, .inl (cI, 11, .inl (fun _ => 0))), (q2, .inl (cI, 11, .inl (fun _ => 0))), (q3, .inl (cI, 40, .inl (fun _ => 0))), (q4, .inl (cI, 20, .inl (fun _ => 0))), (q5, .inl (cI, 20, .inl (fun _ => 0))), (q6, .inl (cZ, 2048, .inl (fun _ => 0))), (q7, .inl (cI, 11, .inl (fun _ => 0))), (q8, .inl (cI, 462, .inl (fun _ => 0)))] H := hP
  have hD : va_D A [(h0, .inr (0, [.int 0, .int 0, .ref q1, .ref q2, .ref q3, .int 0, .ref q4, .ref q5, .int 0, .int 0, .int 0, .ref q6, .ref q7, .null, .int 0])), (q1, .inl (cI, 11, .inl (fun _ => 0))), (q2, .inl (cI, 11, .inl (fun _ => 0))), (q3, .inl (cI, 40, .inl (fun _ => 0))), (q4, .inl (cI, 20, .inl (fun _ => 0))), (q5, .inl (cI, 20, .inl (fun _ => 0))), (q6, .inl (cZ, 2048, .inl (fun _ => 0))), (q7, .inl (cI, 11, .inl (fun _ => 0))), (q8, .inl (cI, 462, .inl (fun _ => 0)))] := hD
  refine va_putF (D := D) (ci := 0) (v := .ref q8) (ty := (.array .int)) (C := RX) (T := TX) (N := 15) hx hb hts inX tyX tyX_ok nmX hown hK hP hD hS 0 rfl rfl 13 (by decide) (hts _ f_X_52) (fun _ h9 => h9) rfl hin rfl (by decide +kernel) rfl rfl (Nat.le_of_ble_eq_true rfl) d_X_init_97 (fun H locs hP hD hS => ?_)
  have hP : va_P D clX [(h0, .inr (0, [.int 0, .int 0, .ref q1, .ref q2, .ref q3, .int 0, .ref q4, .ref q5, .int 0, .int 0, .int 0, .ref q6, .ref q7, .ref q8, .int 0])), (q1, .inl (cI, 11, .inl (fun _ => 0))), (q2, .inl (cI, 11, .inl (fun _ => 0))), (q3, .inl (cI, 40, .inl (fun _ => 0))), (q4, .inl (cI, 20, .inl (fun _ => 0))), (q5, .inl (cI, 20, .inl (fun _ => 0))), (q6, .inl (cZ, 2048, .inl (fun _ => 0))), (q7, .inl (cI, 11, .inl (fun _ => 0))), (q8, .inl (cI, 462, .inl (fun _ => 0)))] H := hP
  have hD : va_D A [(h0, .inr (0, [.int 0, .int 0, .ref q1, .ref q2, .ref q3, .int 0, .ref q4, .ref q5, .int 0, .int 0, .int 0, .ref q6, .ref q7, .ref q8, .int 0])), (q1, .inl (cI, 11, .inl (fun _ => 0))), (q2, .inl (cI, 11, .inl (fun _ => 0))), (q3, .inl (cI, 40, .inl (fun _ => 0))), (q4, .inl (cI, 20, .inl (fun _ => 0))), (q5, .inl (cI, 20, .inl (fun _ => 0))), (q6, .inl (cZ, 2048, .inl (fun _ => 0))), (q7, .inl (cI, 11, .inl (fun _ => 0))), (q8, .inl (cI, 462, .inl (fun _ => 0)))] := hD
  refine lv_aload_n hx hb d_X_init_100 rfl (lv_at hl 0 rfl) ?_
  refine lv_iconst (v := 0) hx hb d_X_init_101 (by decide) ?_
  refine va_put (D := D) (ci := 0) (v := .int 0) (ty := .int) (C := RX) (T := TX) (N := 15) hx hb hts inX tyX tyX_ok nmX hown hK hP hD hS 0 rfl rfl 14 (by decide) (hts _ f_X_55) (fun _ h9 => h9) rfl (by decide +kernel) rfl rfl (Nat.le_of_ble_eq_true rfl) d_X_init_102 (fun H locs hP hD hS => ?_)
  have hP : va_P D clX [(h0, .inr (0, [.int 0, .int 0, .ref q1, .ref q2, .ref q3, .int 0, .ref q4, .ref q5, .int 0, .int 0, .int 0, .ref q6, .ref q7, .ref q8, .int 0])), (q1, .inl (cI, 11, .inl (fun _ => 0))), (q2, .inl (cI, 11, .inl (fun _ => 0))), (q3, .inl (cI, 40, .inl (fun _ => 0))), (q4, .inl (cI, 20, .inl (fun _ => 0))), (q5, .inl (cI, 20, .inl (fun _ => 0))), (q6, .inl (cZ, 2048, .inl (fun _ => 0))), (q7, .inl (cI, 11, .inl (fun _ => 0))), (q8, .inl (cI, 462, .inl (fun _ => 0)))] H := hP
  have hD : va_D A [(h0, .inr (0, [.int 0, .int 0, .ref q1, .ref q2, .ref q3, .int 0, .ref q4, .ref q5, .int 0, .int 0, .int 0, .ref q6, .ref q7, .ref q8, .int 0])), (q1, .inl (cI, 11, .inl (fun _ => 0))), (q2, .inl (cI, 11, .inl (fun _ => 0))), (q3, .inl (cI, 40, .inl (fun _ => 0))), (q4, .inl (cI, 20, .inl (fun _ => 0))), (q5, .inl (cI, 20, .inl (fun _ => 0))), (q6, .inl (cZ, 2048, .inl (fun _ => 0))), (q7, .inl (cI, 11, .inl (fun _ => 0))), (q8, .inl (cI, 462, .inl (fun _ => 0)))] := hD
  have hK9 := hK.sub (tys' := [(cI, .int), (cZ, .boolean)]) [0, 1] rfl
  refine W.widen (k := 8) (n := 2623) (by decide) (by decide) ?_
  exact W.vret hx hb hr (fun t ht hW => ⟨⟨((fun k => match k with | 0 => h0 | 1 => q1 | 2 => q2 | 3 => q3 | 4 => q4 | 5 => q5 | 6 => q6 | 7 => q7 | _ => q8), cI, cZ), rfl, rfl, by rw [ht]; exact hP, va_K.moved hW.alike hK9, hD⟩, hS.F ht⟩) hS.2.2 d_X_init_105
set_option maxHeartbeats 4000000 in
set_option maxRecDepth 100000 in
theorem c_Y_init (l : Launch) (D : va_G) (h0 sz : Nat) : Met l y_Y_init w_Y_init ({ frames := 1, cells := 8, slots := 4209, locals := 20 }) (va_Pc [.ref h0] (fun U => U.heap.size = sz ∧ va_P D clX [(h0, .inr (1, [.int 0, .null, .null, .null, .null, .int 0, .null, .null, .int 0, .int 0, .int 0, .null, .null, .int 0]))] U.heap ∧ va_K D clX [] U ∧ va_D (fun _ => True) [(h0, .inr (1, [.int 0, .null, .null, .null, .null, .int 0, .null, .null, .int 0, .int 0, .int 0, .null, .null, .int 0]))])) (va_Qv (fun u : (Nat → Nat) × ClassId × ClassId => u.1 0 = h0) (fun u t => va_P D clX (wY u.1 u.2.1 u.2.2 0 (fun _ => false) (fun _ => 0) (fun _ => 0) (fun _ => 0) 0 (fun _ => 0) (fun _ => 0) 0 0 false (fun _ => false) (fun _ => 0) 0) t.heap ∧ va_K D clX [(u.2.1, .int), (u.2.2, .boolean)] t ∧ va_D (va_A [(h0, .inr (1, [.int 0, .null, .null, .null, .null, .int 0, .null, .null, .int 0, .int 0, .int 0, .null, .null, .int 0]))] sz) (wY u.1 u.2.1 u.2.2 0 (fun _ => false) (fun _ => 0) (fun _ => 0) (fun _ => 0) 0 (fun _ => 0) (fun _ => 0) 0 0 false (fun _ => false) (fun _ => 0) 0)) (va_A [(h0, .inr (1, [.int 0, .null, .null, .null, .null, .int 0, .null, .null, .int 0, .int 0, .int 0, .null, .null, .int 0]))] sz)) 8 4209 (va_A [(h0, .inr (1, [.int 0, .null, .null, .null, .null, .int 0, .null, .null, .int 0, .int 0, .int 0, .null, .null, .int 0]))] sz) := by
  refine Met.ofW (cc := b_Y_init) (maxL := 1) (ret := none) (by decide) rfl ?_
  intro p e s m args below meth c s₁ B hml hv
  obtain ⟨rfl, hsz, hP, hK, hD0⟩ := hv
  have hx := B.exec
  have hb := B.bytes
  have hr := B.returns
  have hts0 := atoms_spec (ws := w_Y_init) B.pre
  have hts : ∀ w ∈ tbl, w.before _ s = true := fun w h => hts0 w (List.mem_cons_of_mem _ h)
  have hown : s.vm.findClass RY = some m.cls := findClass_of_methodNamed B.named
  have hlocks := B.notSynchronized
  have hin : meth.name = "<init>" := (name_of_methodNamed B.named B.method).1
  subst hsz
  have hD := hD0.self (sz := s.heap.size)
  generalize hAe : va_A [(h0, .inr (1, [.int 0, .null, .null, .null, .null, .int 0, .null, .null, .int 0, .int 0, .int 0, .null, .null, .int 0]))] s.heap.size = A at hD ⊢
  have hA : ∀ q : Nat, s.heap.size ≤ q → A q := fun q h => by rw [← hAe]; exact Or.inr h
  have hS : va_S A s.heap s.heap [] := va_S.rf
  have hl := lv_entry ([.ref h0]) (n := 1) (Nat.le_of_ble_eq_true rfl)
  rw [lg_entry_eq]
  generalize (lg_sl ([.ref h0]) ++ List.replicate (1 - (lg_sl ([.ref h0])).length) Slot.unset).toArray = ls at hl ⊢
  have hl : lv_has ls 1 [(0, .ref h0)] := hl
  refine lv_aload_n hx hb d_Y_init_0 rfl (lv_at hl 0 rfl) ?_
  refine W.objInit hx hb hown (hts _ l_Y_1) (hts _ h_objk) (hts _ h_objc) rfl (by rw [hml]; exact hl.1) rfl d_Y_init_1 (Nat.le_of_ble_eq_true rfl) (Nat.le_of_ble_eq_true rfl) ?_
  refine W.eq (g2 := F0 m 4 ls []) rfl ?_
  refine lv_aload_n hx hb d_Y_init_4 rfl (lv_at hl 0 rfl) ?_
  refine lv_bipush (v := 11) hx hb d_Y_init_5 (by decide) ?_
  refine va_newa (atype := .boolean) (ty := .boolean) (a0 := (11, .inl (fun _ => 0))) hx hb (hts _ h_arr_boolean) rfl hK hP hD hS hA (fun _ => rfl) (by decide) (by decide) (by decide) (Nat.le_of_ble_eq_true rfl) (Nat.le_of_ble_eq_true rfl) d_Y_init_7 (fun q1 cZ H hK hP hD hS => ?_)
  have hK : va_K D clX [(cZ, .boolean)] s := hK
  have hP : va_P D clX [(h0, .inr (1, [.int 0, .null, .null, .null, .null, .int 0, .null, .null, .int 0, .int 0, .int 0, .null, .null, .int 0])), (q1, .inl (cZ, 11, .inl (fun _ => 0)))] H := hP
  have hD : va_D A [(h0, .inr (1, [.int 0, .null, .null, .null, .null, .int 0, .null, .null, .int 0, .int 0, .int 0, .null, .null, .int 0])), (q1, .inl (cZ, 11, .inl (fun _ => 0)))] := hD
  refine va_putF (D := D) (ci := 1) (v := .ref q1) (ty := (.array .boolean)) (C := RY) (T := TY) (N := 14) hx hb hts inY tyY tyY_ok nmY hown hK hP hD hS 0 rfl rfl 1 (by decide) (hts _ f_Y_7) (fun _ h9 => h9) rfl hin rfl (by decide +kernel) rfl rfl (Nat.le_of_ble_eq_true rfl) d_Y_init_9 (fun H locs hP hD hS => ?_)
  have hP : va_P D clX [(h0, .inr (1, [.int 0, .ref q1, .null, .null, .null, .int 0, .null, .null, .int 0, .int 0, .int 0, .null, .null, .int 0])), (q1, .inl (cZ, 11, .inl (fun _ => 0)))] H := hP
  have hD : va_D A [(h0, .inr (1, [.int 0, .ref q1, .null, .null, .null, .int 0, .null, .null, .int 0, .int 0, .int 0, .null, .null, .int 0])), (q1, .inl (cZ, 11, .inl (fun _ => 0)))] := hD
  refine lv_aload_n hx hb d_Y_init_12 rfl (lv_at hl 0 rfl) ?_
  refine lv_bipush (v := 11) hx hb d_Y_init_13 (by decide) ?_
  refine va_newa (atype := .int) (ty := .int) (a0 := (11, .inl (fun _ => 0))) hx hb (hts _ h_arr_int) rfl hK hP hD hS hA (fun _ => rfl) (by decide) (by decide) (by decide) (Nat.le_of_ble_eq_true rfl) (Nat.le_of_ble_eq_true rfl) d_Y_init_15 (fun q2 cI H hK hP hD hS => ?_)
  have hK : va_K D clX [(cZ, .boolean), (cI, .int)] s := hK
  have hP : va_P D clX [(h0, .inr (1, [.int 0, .ref q1, .null, .null, .null, .int 0, .null, .null, .int 0, .int 0, .int 0, .null, .null, .int 0])), (q1, .inl (cZ, 11, .inl (fun _ => 0))), (q2, .inl (cI, 11, .inl (fun _ => 0)))] H := hP
  have hD : va_D A [(h0, .inr (1, [.int 0, .ref q1, .null, .null, .null, .int 0, .null, .null, .int 0, .int 0, .int 0, .null, .null, .int 0])), (q1, .inl (cZ, 11, .inl (fun _ => 0))), (q2, .inl (cI, 11, .inl (fun _ => 0)))] := hD
  refine va_putF (D := D) (ci := 1) (v := .ref q2) (ty := (.array .int)) (C := RY) (T := TY) (N := 14) hx hb hts inY tyY tyY_ok nmY hown hK hP hD hS 0 rfl rfl 2 (by decide) (hts _ f_Y_13) (fun _ h9 => h9) rfl hin rfl (by decide +kernel) rfl rfl (Nat.le_of_ble_eq_true rfl) d_Y_init_17 (fun H locs hP hD hS => ?_)
  have hP : va_P D clX [(h0, .inr (1, [.int 0, .ref q1, .ref q2, .null, .null, .int 0, .null, .null, .int 0, .int 0, .int 0, .null, .null, .int 0])), (q1, .inl (cZ, 11, .inl (fun _ => 0))), (q2, .inl (cI, 11, .inl (fun _ => 0)))] H := hP
  have hD : va_D A [(h0, .inr (1, [.int 0, .ref q1, .ref q2, .null, .null, .int 0, .null, .null, .int 0, .int 0, .int 0, .null, .null, .int 0])), (q1, .inl (cZ, 11, .inl (fun _ => 0))), (q2, .inl (cI, 11, .inl (fun _ => 0)))] := hD
  refine lv_aload_n hx hb d_Y_init_20 rfl (lv_at hl 0 rfl) ?_
  refine lv_bipush (v := 11) hx hb d_Y_init_21 (by decide) ?_
  refine va_newa (atype := .int) (ty := .int) (a0 := (11, .inl (fun _ => 0))) hx hb (hts _ h_arr_int) rfl hK hP hD hS hA (fun _ => rfl) (by decide) (by decide) (by decide) (Nat.le_of_ble_eq_true rfl) (Nat.le_of_ble_eq_true rfl) d_Y_init_23 (fun q3 cA3 H hK hP hD hS => ?_)
  obtain rfl : cI = cA3 := va_same hK (i := 1) (j := 2) rfl rfl (by first | exact Or.inl rfl | exact Or.inr rfl)
  have hK := hK.sub (tys' := [(cZ, .boolean), (cI, .int)]) [0, 1] rfl
  have hK : va_K D clX [(cZ, .boolean), (cI, .int)] s := hK
  have hP : va_P D clX [(h0, .inr (1, [.int 0, .ref q1, .ref q2, .null, .null, .int 0, .null, .null, .int 0, .int 0, .int 0, .null, .null, .int 0])), (q1, .inl (cZ, 11, .inl (fun _ => 0))), (q2, .inl (cI, 11, .inl (fun _ => 0))), (q3, .inl (cI, 11, .inl (fun _ => 0)))] H := hP
  have hD : va_D A [(h0, .inr (1, [.int 0, .ref q1, .ref q2, .null, .null, .int 0, .null, .null, .int 0, .int 0, .int 0, .null, .null, .int 0])), (q1, .inl (cZ, 11, .inl (fun _ => 0))), (q2, .inl (cI, 11, .inl (fun _ => 0))), (q3, .inl (cI, 11, .inl (fun _ => 0)))] := hD
  refine va_putF (D := D) (ci := 1) (v := .ref q3) (ty := (.array .int)) (C := RY) (T := TY) (N := 14) hx hb hts inY tyY tyY_ok nmY hown hK hP hD hS 0 rfl rfl 3 (by decide) (hts _ f_Y_17) (fun _ h9 => h9) rfl hin rfl (by decide +kernel) rfl rfl (Nat.le_of_ble_eq_true rfl) d_Y_init_25 (fun H locs hP hD hS => ?_)
  have hP : va_P D clX [(h0, .inr (1, [.int 0, .ref q1, .ref q2, .ref q3, .null, .int 0, .null, .null, .int 0, .int 0, .int 0, .null, .null, .int 0])), (q1, .inl (cZ, 11, .inl (fun _ => 0))), (q2, .inl (cI, 11, .inl (fun _ => 0))), (q3, .inl (cI, 11, .inl (fun _ => 0)))] H := hP
  have hD : va_D A [(h0, .inr (1, [.int 0, .ref q1, .ref q2, .ref q3, .null, .int 0, .null, .null, .int 0, .int 0, .int 0, .null, .null, .int 0])), (q1, .inl (cZ, 11, .inl (fun _ => 0))), (q2, .inl (cI, 11, .inl (fun _ => 0))), (q3, .inl (cI, 11, .inl (fun _ => 0)))] := hD
  refine lv_aload_n hx hb d_Y_init_28 rfl (lv_at hl 0 rfl) ?_
  refine lv_bipush (v := 40) hx hb d_Y_init_29 (by decide) ?_
  refine va_newa (atype := .int) (ty := .int) (a0 := (40, .inl (fun _ => 0))) hx hb (hts _ h_arr_int) rfl hK hP hD hS hA (fun _ => rfl) (by decide) (by decide) (by decide) (Nat.le_of_ble_eq_true rfl) (Nat.le_of_ble_eq_true rfl) d_Y_init_31 (fun q4 cA4 H hK hP hD hS => ?_)
  obtain rfl : cI = cA4 := va_same hK (i := 1) (j := 2) rfl rfl (by first | exact Or.inl rfl | exact Or.inr rfl)
  have hK := hK.sub (tys' := [(cZ, .boolean), (cI, .int)]) [0, 1] rfl
  have hK : va_K D clX [(cZ, .boolean), (cI, .int)] s := hK
  have hP : va_P D clX [(h0, .inr (1, [.int 0, .ref q1, .ref q2, .ref q3, .null, .int 0, .null, .null, .int 0, .int 0, .int 0, .null, .null, .int 0])), (q1, .inl (cZ, 11, .inl (fun _ => 0))), (q2, .inl (cI, 11, .inl (fun _ => 0))), (q3, .inl (cI, 11, .inl (fun _ => 0))), (q4, .inl (cI, 40, .inl (fun _ => 0)))] H := hP
  have hD : va_D A [(h0, .inr (1, [.int 0, .ref q1, .ref q2, .ref q3, .null, .int 0, .null, .null, .int 0, .int 0, .int 0, .null, .null, .int 0])), (q1, .inl (cZ, 11, .inl (fun _ => 0))), (q2, .inl (cI, 11, .inl (fun _ => 0))), (q3, .inl (cI, 11, .inl (fun _ => 0))), (q4, .inl (cI, 40, .inl (fun _ => 0)))] := hD
  refine va_putF (D := D) (ci := 1) (v := .ref q4) (ty := (.array .int)) (C := RY) (T := TY) (N := 14) hx hb hts inY tyY tyY_ok nmY hown hK hP hD hS 0 rfl rfl 4 (by decide) (hts _ f_Y_20) (fun _ h9 => h9) rfl hin rfl (by decide +kernel) rfl rfl (Nat.le_of_ble_eq_true rfl) d_Y_init_33 (fun H locs hP hD hS => ?_)
  have hP : va_P D clX [(h0, .inr (1, [.int 0, .ref q1, .ref q2, .ref q3, .ref q4, .int 0, .null, .null, .int 0, .int 0, .int 0, .null, .null, .int 0])), (q1, .inl (cZ, 11, .inl (fun _ => 0))), (q2, .inl (cI, 11, .inl (fun _ => 0))), (q3, .inl (cI, 11, .inl (fun _ => 0))), (q4, .inl (cI, 40, .inl (fun _ => 0)))] H := hP
  have hD : va_D A [(h0, .inr (1, [.int 0, .ref q1, .ref q2, .ref q3, .ref q4, .int 0, .null, .null, .int 0, .int 0, .int 0, .null, .null, .int 0])), (q1, .inl (cZ, 11, .inl (fun _ => 0))), (q2, .inl (cI, 11, .inl (fun _ => 0))), (q3, .inl (cI, 11, .inl (fun _ => 0))), (q4, .inl (cI, 40, .inl (fun _ => 0)))] := hD
  refine lv_aload_n hx hb d_Y_init_36 rfl (lv_at hl 0 rfl) ?_
  refine lv_bipush (v := 20) hx hb d_Y_init_37 (by decide) ?_
  refine va_newa (atype := .int) (ty := .int) (a0 := (20, .inl (fun _ => 0))) hx hb (hts _ h_arr_int) rfl hK hP hD hS hA (fun _ => rfl) (by decide) (by decide) (by decide) (Nat.le_of_ble_eq_true rfl) (Nat.le_of_ble_eq_true rfl) d_Y_init_39 (fun q5 cA5 H hK hP hD hS => ?_)
  obtain rfl : cI = cA5 := va_same hK (i := 1) (j := 2) rfl rfl (by first | exact Or.inl rfl | exact Or.inr rfl)
  have hK := hK.sub (tys' := [(cZ, .boolean), (cI, .int)]) [0, 1] rfl
  have hK : va_K D clX [(cZ, .boolean), (cI, .int)] s := hK
  have hP : va_P D clX [(h0, .inr (1, [.int 0, .ref q1, .ref q2, .ref q3, .ref q4, .int 0, .null, .null, .int 0, .int 0, .int 0, .null, .null, .int 0])), (q1, .inl (cZ, 11, .inl (fun _ => 0))), (q2, .inl (cI, 11, .inl (fun _ => 0))), (q3, .inl (cI, 11, .inl (fun _ => 0))), (q4, .inl (cI, 40, .inl (fun _ => 0))), (q5, .inl (cI, 20, .inl (fun _ => 0)))] H := hP
  have hD : va_D A [(h0, .inr (1, [.int 0, .ref q1, .ref q2, .ref q3, .ref q4, .int 0, .null, .null, .int 0, .int 0, .int 0, .null, .null, .int 0])), (q1, .inl (cZ, 11, .inl (fun _ => 0))), (q2, .inl (cI, 11, .inl (fun _ => 0))), (q3, .inl (cI, 11, .inl (fun _ => 0))), (q4, .inl (cI, 40, .inl (fun _ => 0))), (q5, .inl (cI, 20, .inl (fun _ => 0)))] := hD
  refine va_putF (D := D) (ci := 1) (v := .ref q5) (ty := (.array .int)) (C := RY) (T := TY) (N := 14) hx hb hts inY tyY tyY_ok nmY hown hK hP hD hS 0 rfl rfl 6 (by decide) (hts _ f_Y_23) (fun _ h9 => h9) rfl hin rfl (by decide +kernel) rfl rfl (Nat.le_of_ble_eq_true rfl) d_Y_init_41 (fun H locs hP hD hS => ?_)
  have hP : va_P D clX [(h0, .inr (1, [.int 0, .ref q1, .ref q2, .ref q3, .ref q4, .int 0, .ref q5, .null, .int 0, .int 0, .int 0, .null, .null, .int 0])), (q1, .inl (cZ, 11, .inl (fun _ => 0))), (q2, .inl (cI, 11, .inl (fun _ => 0))), (q3, .inl (cI, 11, .inl (fun _ => 0))), (q4, .inl (cI, 40, .inl (fun _ => 0))), (q5, .inl (cI, 20, .inl (fun _ => 0)))] H := hP
  have hD : va_D A [(h0, .inr (1, [.int 0, .ref q1, .ref q2, .ref q3, .ref q4, .int 0, .ref q5, .null, .int 0, .int 0, .int 0, .null, .null, .int 0])), (q1, .inl (cZ, 11, .inl (fun _ => 0))), (q2, .inl (cI, 11, .inl (fun _ => 0))), (q3, .inl (cI, 11, .inl (fun _ => 0))), (q4, .inl (cI, 40, .inl (fun _ => 0))), (q5, .inl (cI, 20, .inl (fun _ => 0)))] := hD
  refine lv_aload_n hx hb d_Y_init_44 rfl (lv_at hl 0 rfl) ?_
  refine lv_bipush (v := 20) hx hb d_Y_init_45 (by decide) ?_
  refine va_newa (atype := .int) (ty := .int) (a0 := (20, .inl (fun _ => 0))) hx hb (hts _ h_arr_int) rfl hK hP hD hS hA (fun _ => rfl) (by decide) (by decide) (by decide) (Nat.le_of_ble_eq_true rfl) (Nat.le_of_ble_eq_true rfl) d_Y_init_47 (fun q6 cA6 H hK hP hD hS => ?_)
  obtain rfl : cI = cA6 := va_same hK (i := 1) (j := 2) rfl rfl (by first | exact Or.inl rfl | exact Or.inr rfl)
  have hK := hK.sub (tys' := [(cZ, .boolean), (cI, .int)]) [0, 1] rfl
  have hK : va_K D clX [(cZ, .boolean), (cI, .int)] s := hK
  have hP : va_P D clX [(h0, .inr (1, [.int 0, .ref q1, .ref q2, .ref q3, .ref q4, .int 0, .ref q5, .null, .int 0, .int 0, .int 0, .null, .null, .int 0])), (q1, .inl (cZ, 11, .inl (fun _ => 0))), (q2, .inl (cI, 11, .inl (fun _ => 0))), (q3, .inl (cI, 11, .inl (fun _ => 0))), (q4, .inl (cI, 40, .inl (fun _ => 0))), (q5, .inl (cI, 20, .inl (fun _ => 0))), (q6, .inl (cI, 20, .inl (fun _ => 0)))] H := hP
  have hD : va_D A [(h0, .inr (1, [.int 0, .ref q1, .ref q2, .ref q3, .ref q4, .int 0, .ref q5, .null, .int 0, .int 0, .int 0, .null, .null, .int 0])), (q1, .inl (cZ, 11, .inl (fun _ => 0))), (q2, .inl (cI, 11, .inl (fun _ => 0))), (q3, .inl (cI, 11, .inl (fun _ => 0))), (q4, .inl (cI, 40, .inl (fun _ => 0))), (q5, .inl (cI, 20, .inl (fun _ => 0))), (q6, .inl (cI, 20, .inl (fun _ => 0)))] := hD
  refine va_putF (D := D) (ci := 1) (v := .ref q6) (ty := (.array .int)) (C := RY) (T := TY) (N := 14) hx hb hts inY tyY tyY_ok nmY hown hK hP hD hS 0 rfl rfl 7 (by decide) (hts _ f_Y_26) (fun _ h9 => h9) rfl hin rfl (by decide +kernel) rfl rfl (Nat.le_of_ble_eq_true rfl) d_Y_init_49 (fun H locs hP hD hS => ?_)
  have hP : va_P D clX [(h0, .inr (1, [.int 0, .ref q1, .ref q2, .ref q3, .ref q4, .int 0, .ref q5, .ref q6, .int 0, .int 0, .int 0, .null, .null, .int 0])), (q1, .inl (cZ, 11, .inl (fun _ => 0))), (q2, .inl (cI, 11, .inl (fun _ => 0))), (q3, .inl (cI, 11, .inl (fun _ => 0))), (q4, .inl (cI, 40, .inl (fun _ => 0))), (q5, .inl (cI, 20, .inl (fun _ => 0))), (q6, .inl (cI, 20, .inl (fun _ => 0)))] H := hP
  have hD : va_D A [(h0, .inr (1, [.int 0, .ref q1, .ref q2, .ref q3, .ref q4, .int 0, .ref q5, .ref q6, .int 0, .int 0, .int 0, .null, .null, .int 0])), (q1, .inl (cZ, 11, .inl (fun _ => 0))), (q2, .inl (cI, 11, .inl (fun _ => 0))), (q3, .inl (cI, 11, .inl (fun _ => 0))), (q4, .inl (cI, 40, .inl (fun _ => 0))), (q5, .inl (cI, 20, .inl (fun _ => 0))), (q6, .inl (cI, 20, .inl (fun _ => 0)))] := hD
  refine lv_aload_n hx hb d_Y_init_52 rfl (lv_at hl 0 rfl) ?_
  refine lv_sipush (v := 2048) hx hb d_Y_init_53 (by decide) ?_
  refine va_newa (atype := .boolean) (ty := .boolean) (a0 := (2048, .inl (fun _ => 0))) hx hb (hts _ h_arr_boolean) rfl hK hP hD hS hA (fun _ => rfl) (by decide) (by decide) (by decide) (Nat.le_of_ble_eq_true rfl) (Nat.le_of_ble_eq_true rfl) d_Y_init_56 (fun q7 cA7 H hK hP hD hS => ?_)
  obtain rfl : cZ = cA7 := va_same hK (i := 0) (j := 2) rfl rfl (by first | exact Or.inl rfl | exact Or.inr rfl)
  have hK := hK.sub (tys' := [(cZ, .boolean), (cI, .int)]) [0, 1] rfl
  have hK : va_K D clX [(cZ, .boolean), (cI, .int)] s := hK
  have hP : va_P D clX [(h0, .inr (1, [.int 0, .ref q1, .ref q2, .ref q3, .ref q4, .int 0, .ref q5, .ref q6, .int 0, .int 0, .int 0, .null, .null, .int 0])), (q1, .inl (cZ, 11, .inl (fun _ => 0))), (q2, .inl (cI, 11, .inl (fun _ => 0))), (q3, .inl (cI, 11, .inl (fun _ => 0))), (q4, .inl (cI, 40, .inl (fun _ => 0))), (q5, .inl (cI, 20, .inl (fun _ => 0))), (q6, .inl (cI, 20, .inl (fun _ => 0))), (q7, .inl (cZ, 2048, .inl (fun _ => 0)))] H := hP
  have hD : va_D A [(h0, .inr (1, [.int 0, .ref q1, .ref q2, .ref q3, .ref q4, .int 0, .ref q5, .ref q6, .int 0, .int 0, .int 0, .null, .null, .int 0])), (q1, .inl (cZ, 11, .inl (fun _ => 0))), (q2, .inl (cI, 11, .inl (fun _ => 0))), (q3, .inl (cI, 11, .inl (fun _ => 0))), (q4, .inl (cI, 40, .inl (fun _ => 0))), (q5, .inl (cI, 20, .inl (fun _ => 0))), (q6, .inl (cI, 20, .inl (fun _ => 0))), (q7, .inl (cZ, 2048, .inl (fun _ => 0)))] := hD
  refine va_putF (D := D) (ci := 1) (v := .ref q7) (ty := (.array .boolean)) (C := RY) (T := TY) (N := 14) hx hb hts inY tyY tyY_ok nmY hown hK hP hD hS 0 rfl rfl 11 (by decide) (hts _ f_Y_29) (fun _ h9 => h9) rfl hin rfl (by decide +kernel) rfl rfl (Nat.le_of_ble_eq_true rfl) d_Y_init_58 (fun H locs hP hD hS => ?_)
  have hP : va_P D clX [(h0, .inr (1, [.int 0, .ref q1, .ref q2, .ref q3, .ref q4, .int 0, .ref q5, .ref q6, .int 0, .int 0, .int 0, .ref q7, .null, .int 0])), (q1, .inl (cZ, 11, .inl (fun _ => 0))), (q2, .inl (cI, 11, .inl (fun _ => 0))), (q3, .inl (cI, 11, .inl (fun _ => 0))), (q4, .inl (cI, 40, .inl (fun _ => 0))), (q5, .inl (cI, 20, .inl (fun _ => 0))), (q6, .inl (cI, 20, .inl (fun _ => 0))), (q7, .inl (cZ, 2048, .inl (fun _ => 0)))] H := hP
  have hD : va_D A [(h0, .inr (1, [.int 0, .ref q1, .ref q2, .ref q3, .ref q4, .int 0, .ref q5, .ref q6, .int 0, .int 0, .int 0, .ref q7, .null, .int 0])), (q1, .inl (cZ, 11, .inl (fun _ => 0))), (q2, .inl (cI, 11, .inl (fun _ => 0))), (q3, .inl (cI, 11, .inl (fun _ => 0))), (q4, .inl (cI, 40, .inl (fun _ => 0))), (q5, .inl (cI, 20, .inl (fun _ => 0))), (q6, .inl (cI, 20, .inl (fun _ => 0))), (q7, .inl (cZ, 2048, .inl (fun _ => 0)))] := hD
  refine lv_aload_n hx hb d_Y_init_61 rfl (lv_at hl 0 rfl) ?_
  refine lv_sipush (v := 2048) hx hb d_Y_init_62 (by decide) ?_
  refine va_newa (atype := .int) (ty := .int) (a0 := (2048, .inl (fun _ => 0))) hx hb (hts _ h_arr_int) rfl hK hP hD hS hA (fun _ => rfl) (by decide) (by decide) (by decide) (Nat.le_of_ble_eq_true rfl) (Nat.le_of_ble_eq_true rfl) d_Y_init_65 (fun q8 cA8 H hK hP hD hS => ?_)
  obtain rfl : cI = cA8 := va_same hK (i := 1) (j := 2) rfl rfl (by first | exact Or.inl rfl | exact Or.inr rfl)
  have hK := hK.sub (tys' := [(cZ, .boolean), (cI, .int)]) [0, 1] rfl
  have hK : va_K D clX [(cZ, .boolean), (cI, .int)] s := hK
  have hP : va_P D clX [(h0, .inr (1, [.int 0, .ref q1, .ref q2, .ref q3, .ref q4, .int 0, .ref q5, .ref q6, .int 0, .int 0, .int 0, .ref q7, .null, .int 0])), (q1, .inl (cZ, 11, .inl (fun _ => 0))), (q2, .inl (cI, 11, .inl (fun _ => 0))), (q3, .inl (cI, 11, .inl (fun _ => 0))), (q4, .inl (cI, 40, .inl (fun _ => 0))), (q5, .inl (cI, 20, .inl (fun _ => 0))), (q6, .inl (cI, 20, .inl (fun _ => 0))), (q7, .inl (cZ, 2048, .inl (fun _ => 0))), (q8, .inl (cI, 2048, .inl (fun _ => 0)))] H := hP
  have hD : va_D A [(h0, .inr (1, [.int 0, .ref q1, .ref q2, .ref q3, .ref q4, .int 0, .ref q5, .ref q6, .int 0, .int 0, .int 0, .ref q7, .null, .int 0])), (q1, .inl (cZ, 11, .inl (fun _ => 0))), (q2, .inl (cI, 11, .inl (fun _ => 0))), (q3, .inl (cI, 11, .inl (fun _ => 0))), (q4, .inl (cI, 40, .inl (fun _ => 0))), (q5, .inl (cI, 20, .inl (fun _ => 0))), (q6, .inl (cI, 20, .inl (fun _ => 0))), (q7, .inl (cZ, 2048, .inl (fun _ => 0))), (q8, .inl (cI, 2048, .inl (fun _ => 0)))] := hD
  refine va_putF (D := D) (ci := 1) (v := .ref q8) (ty := (.array .int)) (C := RY) (T := TY) (N := 14) hx hb hts inY tyY tyY_ok nmY hown hK hP hD hS 0 rfl rfl 12 (by decide) (hts _ f_Y_32) (fun _ h9 => h9) rfl hin rfl (by decide +kernel) rfl rfl (Nat.le_of_ble_eq_true rfl) d_Y_init_67 (fun H locs hP hD hS => ?_)
  have hP : va_P D clX [(h0, .inr (1, [.int 0, .ref q1, .ref q2, .ref q3, .ref q4, .int 0, .ref q5, .ref q6, .int 0, .int 0, .int 0, .ref q7, .ref q8, .int 0])), (q1, .inl (cZ, 11, .inl (fun _ => 0))), (q2, .inl (cI, 11, .inl (fun _ => 0))), (q3, .inl (cI, 11, .inl (fun _ => 0))), (q4, .inl (cI, 40, .inl (fun _ => 0))), (q5, .inl (cI, 20, .inl (fun _ => 0))), (q6, .inl (cI, 20, .inl (fun _ => 0))), (q7, .inl (cZ, 2048, .inl (fun _ => 0))), (q8, .inl (cI, 2048, .inl (fun _ => 0)))] H := hP
  have hD : va_D A [(h0, .inr (1, [.int 0, .ref q1, .ref q2, .ref q3, .ref q4, .int 0, .ref q5, .ref q6, .int 0, .int 0, .int 0, .ref q7, .ref q8, .int 0])), (q1, .inl (cZ, 11, .inl (fun _ => 0))), (q2, .inl (cI, 11, .inl (fun _ => 0))), (q3, .inl (cI, 11, .inl (fun _ => 0))), (q4, .inl (cI, 40, .inl (fun _ => 0))), (q5, .inl (cI, 20, .inl (fun _ => 0))), (q6, .inl (cI, 20, .inl (fun _ => 0))), (q7, .inl (cZ, 2048, .inl (fun _ => 0))), (q8, .inl (cI, 2048, .inl (fun _ => 0)))] := hD
  have hK9 := hK.sub (tys' := [(cI, .int), (cZ, .boolean)]) [1, 0] rfl
  refine W.widen (k := 8) (n := 4209) (by decide) (by decide) ?_
  exact W.vret hx hb hr (fun t ht hW => ⟨⟨((fun k => match k with | 0 => h0 | 1 => q1 | 2 => q2 | 3 => q3 | 4 => q4 | 5 => q5 | 6 => q6 | 7 => q7 | _ => q8), cI, cZ), rfl, rfl, by rw [ht]; exact hP, va_K.moved hW.alike hK9, hD⟩, hS.F ht⟩) hS.2.2 d_Y_init_70

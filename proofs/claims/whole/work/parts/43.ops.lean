theorem wXt_ad {h : Nat → Nat} {cI cZ : ClassId} (u : stA × stC) : (wXt h cI cZ u).map (·.1) = [h 0, h 1, h 2, h 3, h 4, h 5, h 6, h 7, h 8] := by
  obtain ⟨⟨n, bt, rk, wt, cl, cc, su, sa, sc, od⟩, fr, cg, co, rp, rc⟩ := u
  rfl
theorem wYt_ad {h : Nat → Nat} {cI cZ : ClassId} (u : stA × stD) : (wYt h cI cZ u).map (·.1) = [h 0, h 1, h 2, h 3, h 4, h 5, h 6, h 7, h 8] := by
  obtain ⟨⟨n, bt, rk, wt, cl, cc, su, sa, sc, od⟩, kn, ke, rp, rc⟩ := u
  rfl
/-- the place behind each case of the law: both are in the same state again -/
def lwJ (p : Program) (l : Launch) (e : Env) (s : State) (m : MethodId) (below : List Frame) (meth : Method) (c : Code) (b : Nat) (D : va_G) (ax ay : Nat → Nat) (cI cZ : ClassId) (k : Nat) : Prop := ∀ (a : stA) (u : stC) (v : stD) (ls : Array Slot) (H : Heap) (locs : List Loc), gdA a → ocX (a, u) → ocY (a, v) → lv_has ls 4 [(0, .ref b), (1, .ref (ax 0)), (2, .ref (ay 0)), (3, .int (nI (4 * k)))] → va_P D clX (wXt ax cI cZ (a, u) ++ wYt ay cI cZ (a, v)) H → va_D (fun q : Nat => s.heap.size ≤ q) (wXt ax cI cZ (a, u) ++ wYt ay cI cZ (a, v)) → va_S (fun q : Nat => s.heap.size ≤ q) s.heap H locs → W p l e room_1 s m #[Value.ref b] below meth c H locs 18 6861 (lw_Z below #[Value.ref b] s) (F0 m 545 ls [])
set_option maxHeartbeats 4000000 in
set_option maxRecDepth 100000 in
theorem op_fact {p : Program} {l : Launch} {e : Env} {s : State} {m : MethodId} {below : List Frame} {meth : Method} {c : Code} {b L : Nat} {xs : Nat → Int32} (hL : L ≤ 2048) (C0 : lw_At p s m meth c b L xs) {D : va_G} {ax ay : Nat → Nat} {cI cZ : ClassId} {k : Nat} (hk : k < L / 4) {a : stA} {u : stC} {v : stD} (hg : gdA a) (hcx : ocX (a, u)) (hcy : ocY (a, v)) {H : Heap} {locs : List Loc} {ls : Array Slot} (hK : va_K D clX [(cI, .int), (cZ, .boolean)] s) (hl : lv_has ls 4 [(0, .ref b), (1, .ref (ax 0)), (2, .ref (ay 0)), (3, .int (nI (4 * k)))]) (hP : va_P D clX (wXt ax cI cZ (a, u) ++ wYt ay cI cZ (a, v)) H) (hD : va_D (fun q : Nat => s.heap.size ≤ q) (wXt ax cI cZ (a, u) ++ wYt ay cI cZ (a, v))) (hS : va_S (fun q : Nat => s.heap.size ≤ q) s.heap H locs) (J : lwJ p l e s m below meth c b D ax ay cI cZ k) : W p l e room_1 s m #[Value.ref b] below meth c H locs 18 6861 (lw_Z below #[Value.ref b] s) (F0 m 108 ls []) := by
  obtain ⟨hx, hb, hr, hml, hown, hts0, hX, hbl, hlocks, hgv⟩ := C0
  have hts : ∀ w ∈ tbl, w.before #[Value.ref b] s = true := fun w h => hts0 w (List.mem_filter.mp h).1
  have hown : s.vm.findClass RL = some m.cls := hown
  have hA : ∀ q : Nat, s.heap.size ≤ q → (fun q : Nat => s.heap.size ≤ q) q := fun _ h => h
  have hbA : ¬ (fun q : Nat => s.heap.size ≤ q) b := Nat.not_le.mpr hbl
  have hk4 : 4 * k + 3 < L := by omega
  obtain ⟨n, bt, rk, wt, cl, cc, su, sa, sc, od⟩ := a
  obtain ⟨fr, cg, co, rp, rc⟩ := u
  obtain ⟨kn, ke, rq, rd⟩ := v
  refine lv_aload_n hx hb d_L_law_108 rfl (lv_at hl 1 rfl) ?_
  refine lv_aload_n hx hb d_L_law_109 rfl (lv_at hl 0 rfl) ?_
  refine lv_iload_n hx hb d_L_law_110 rfl (lv_at hl 3 rfl) ?_
  refine lv_iconst (v := 1) hx hb d_L_law_111 (by decide) ?_
  refine lv_iadd hx hb d_L_law_112 ?_
  refine rd_top (z := nI (4 * k + 1)) (nI_add (4 * k) 1) ?_
  refine va_sld hx hb hX hbl hbA hS (vp_in_nI (show 4 * k + 1 < L by omega) (by omega)) d_L_law_113 ?_
  refine rd_top (z := xs (4 * k + 1)) (by rw [nI_clamp (by omega)]) ?_
  refine lv_if_eq (tgt := 121) hx hb d_L_law_114 (by decide) (fun c114 => ?_) (fun c114 => ?_)
  · refine lv_iconst (v := 0) hx hb d_L_law_121 (by decide) ?_
    refine rd_top (z := bI (nzB (xs (4 * k + 1)))) (nz_t c114) ?_
    refine lv_aload_n hx hb d_L_law_122 rfl (lv_at hl 0 rfl) ?_
    refine lv_iload_n hx hb d_L_law_123 rfl (lv_at hl 3 rfl) ?_
    refine lv_iconst (v := 2) hx hb d_L_law_124 (by decide) ?_
    refine lv_iadd hx hb d_L_law_125 ?_
    refine rd_top (z := nI (4 * k + 2)) (nI_add (4 * k) 2) ?_
    refine va_sld hx hb hX hbl hbA hS (vp_in_nI (show 4 * k + 2 < L by omega) (by omega)) d_L_law_126 ?_
    refine rd_top (z := xs (4 * k + 2)) (by rw [nI_clamp (by omega)]) ?_
    refine lv_aload_n hx hb d_L_law_127 rfl (lv_at hl 0 rfl) ?_
    refine lv_iload_n hx hb d_L_law_128 rfl (lv_at hl 3 rfl) ?_
    refine lv_iconst (v := 3) hx hb d_L_law_129 (by decide) ?_
    refine lv_iadd hx hb d_L_law_130 ?_
    refine rd_top (z := nI (4 * k + 3)) (nI_add (4 * k) 3) ?_
    refine va_sld hx hb hX hbl hbA hS (vp_in_nI (show 4 * k + 3 < L by omega) (by omega)) d_L_law_131 ?_
    refine rd_top (z := xs (4 * k + 3)) (by rw [nI_clamp (by omega)]) ?_
    refine wE_L (w1 := wX ax cI cZ n bt rk wt cl cc su sa sc od fr cg co rp rc) (w2 := wY ay cI cZ n bt.testBit rk wt cl cc sa su sc od kn ke rq rd) (As := [.int (bI (nzB (xs (4 * k + 1)))), .int (xs (4 * k + 2)), .int (xs (4 * k + 3))]) (rest := []) ⟨hx, hb, hml, hown, hts⟩ (c_X_fact l _ (nzB (xs (4 * k + 1))) (xs (4 * k + 2)) (xs (4 * k + 3)) hg hcx) (cwV 3 hts g_L_13 rfl rfl rfl (by decide +kernel) ⟨Nat.le_of_ble_eq_true rfl, Nat.le_of_ble_eq_true rfl⟩) hK hP hD hS hA 0 rfl rfl rfl hl.1 rfl (Nat.le_of_ble_eq_true rfl) d_L_law_132 ⟨Nat.le_of_ble_eq_true rfl, Nat.le_of_ble_eq_true rfl⟩ (fun u => wXt_ad u) (fun u1 H locs hu hP hD hS => ?_)
    obtain ⟨a1, u2⟩ := u1
    have hu1 : a1 = (sFact n bt rk wt cl cc su sa sc od (nzB (xs (4 * k + 1))) (xs (4 * k + 2)) (xs (4 * k + 3))).2 := hu.1
    have hcx1 : ocX (a1, u2) := hu.2
    subst hu1
    have hP : va_P D clX (wXt ax cI cZ ((sFact n bt rk wt cl cc su sa sc od (nzB (xs (4 * k + 1))) (xs (4 * k + 2)) (xs (4 * k + 3))).2, u2) ++ wY ay cI cZ n bt.testBit rk wt cl cc sa su sc od kn ke rq rd) H := hP
    refine W.eq (g2 := F0 m 135 ls [.int (sFact n bt rk wt cl cc su sa sc od (nzB (xs (4 * k + 1))) (xs (4 * k + 2)) (xs (4 * k + 3))).1]) rfl ?_
    refine lv_aload_n hx hb d_L_law_135 rfl (lv_at hl 2 rfl) ?_
    refine lv_aload_n hx hb d_L_law_136 rfl (lv_at hl 0 rfl) ?_
    refine lv_iload_n hx hb d_L_law_137 rfl (lv_at hl 3 rfl) ?_
    refine lv_iconst (v := 1) hx hb d_L_law_138 (by decide) ?_
    refine lv_iadd hx hb d_L_law_139 ?_
    refine rd_top (z := nI (4 * k + 1)) (nI_add (4 * k) 1) ?_
    refine va_sld hx hb hX hbl hbA hS (vp_in_nI (show 4 * k + 1 < L by omega) (by omega)) d_L_law_140 ?_
    refine rd_top (z := xs (4 * k + 1)) (by rw [nI_clamp (by omega)]) ?_
    refine lv_if_eq (tgt := 148) hx hb d_L_law_141 (by decide) (fun c141 => ?_) (fun c141 => ?_)
    · refine lv_iconst (v := 0) hx hb d_L_law_148 (by decide) ?_
      refine rd_top (z := bI (nzB (xs (4 * k + 1)))) (nz_t c141) ?_
      refine lv_aload_n hx hb d_L_law_149 rfl (lv_at hl 0 rfl) ?_
      refine lv_iload_n hx hb d_L_law_150 rfl (lv_at hl 3 rfl) ?_
      refine lv_iconst (v := 2) hx hb d_L_law_151 (by decide) ?_
      refine lv_iadd hx hb d_L_law_152 ?_
      refine rd_top (z := nI (4 * k + 2)) (nI_add (4 * k) 2) ?_
      refine va_sld hx hb hX hbl hbA hS (vp_in_nI (show 4 * k + 2 < L by omega) (by omega)) d_L_law_153 ?_
      refine rd_top (z := xs (4 * k + 2)) (by rw [nI_clamp (by omega)]) ?_
      refine lv_aload_n hx hb d_L_law_154 rfl (lv_at hl 0 rfl) ?_
      refine lv_iload_n hx hb d_L_law_155 rfl (lv_at hl 3 rfl) ?_
      refine lv_iconst (v := 3) hx hb d_L_law_156 (by decide) ?_
      refine lv_iadd hx hb d_L_law_157 ?_
      refine rd_top (z := nI (4 * k + 3)) (nI_add (4 * k) 3) ?_
      refine va_sld hx hb hX hbl hbA hS (vp_in_nI (show 4 * k + 3 < L by omega) (by omega)) d_L_law_158 ?_
      refine rd_top (z := xs (4 * k + 3)) (by rw [nI_clamp (by omega)]) ?_
      refine wE_R (w1 := wXt ax cI cZ ((sFact n bt rk wt cl cc su sa sc od (nzB (xs (4 * k + 1))) (xs (4 * k + 2)) (xs (4 * k + 3))).2, u2)) (w2 := wY ay cI cZ n bt.testBit rk wt cl cc sa su sc od kn ke rq rd) (As := [.int (bI (nzB (xs (4 * k + 1)))), .int (xs (4 * k + 2)), .int (xs (4 * k + 3))]) (rest := [.int (sFact n bt rk wt cl cc su sa sc od (nzB (xs (4 * k + 1))) (xs (4 * k + 2)) (xs (4 * k + 3))).1]) ⟨hx, hb, hml, hown, hts⟩ (c_Y_fact l _ (nzB (xs (4 * k + 1))) (xs (4 * k + 2)) (xs (4 * k + 3)) hg hcy) (cwV 3 hts g_L_17 rfl rfl rfl (by decide +kernel) ⟨Nat.le_of_ble_eq_true rfl, Nat.le_of_ble_eq_true rfl⟩) hK hP hD hS hA 0 rfl rfl rfl hl.1 rfl (Nat.le_of_ble_eq_true rfl) d_L_law_159 ⟨Nat.le_of_ble_eq_true rfl, Nat.le_of_ble_eq_true rfl⟩ (fun u => wYt_ad u) (fun v1 H locs hv hP hD hS => ?_)
      obtain ⟨a2, v2⟩ := v1
      have hv1 : a2 = (sFact n bt rk wt cl cc su sa sc od (nzB (xs (4 * k + 1))) (xs (4 * k + 2)) (xs (4 * k + 3))).2 := hv.1
      have hcy1 : ocY (a2, v2) := hv.2
      subst hv1
      refine W.eq (g2 := F0 m 162 ls [.int (sFact n bt rk wt cl cc su sa sc od (nzB (xs (4 * k + 1))) (xs (4 * k + 2)) (xs (4 * k + 3))).1, .int (sFact n bt rk wt cl cc su sa sc od (nzB (xs (4 * k + 1))) (xs (4 * k + 2)) (xs (4 * k + 3))).1]) rfl ?_
      refine lv_icmp_eq (tgt := 545) hx hb d_L_law_162 (by decide) (fun c9 => ?_) (fun c9 => ?_)
      · exact J _ u2 v2 ls _ _ (gd_fact hg) hcx1 hcy1 hl hP hD hS
      · exact absurd rfl c9
    · refine lv_iconst (v := 1) hx hb d_L_law_144 (by decide) ?_
      refine rd_top (z := bI (nzB (xs (4 * k + 1)))) (nz_f c141) ?_
      refine lv_goto (tgt := 149) hx hb d_L_law_145 (by decide) ?_
      refine lv_aload_n hx hb d_L_law_149 rfl (lv_at hl 0 rfl) ?_
      refine lv_iload_n hx hb d_L_law_150 rfl (lv_at hl 3 rfl) ?_
      refine lv_iconst (v := 2) hx hb d_L_law_151 (by decide) ?_
      refine lv_iadd hx hb d_L_law_152 ?_
      refine rd_top (z := nI (4 * k + 2)) (nI_add (4 * k) 2) ?_
      refine va_sld hx hb hX hbl hbA hS (vp_in_nI (show 4 * k + 2 < L by omega) (by omega)) d_L_law_153 ?_
      refine rd_top (z := xs (4 * k + 2)) (by rw [nI_clamp (by omega)]) ?_
      refine lv_aload_n hx hb d_L_law_154 rfl (lv_at hl 0 rfl) ?_
      refine lv_iload_n hx hb d_L_law_155 rfl (lv_at hl 3 rfl) ?_
      refine lv_iconst (v := 3) hx hb d_L_law_156 (by decide) ?_
      refine lv_iadd hx hb d_L_law_157 ?_
      refine rd_top (z := nI (4 * k + 3)) (nI_add (4 * k) 3) ?_
      refine va_sld hx hb hX hbl hbA hS (vp_in_nI (show 4 * k + 3 < L by omega) (by omega)) d_L_law_158 ?_
      refine rd_top (z := xs (4 * k + 3)) (by rw [nI_clamp (by omega)]) ?_
      refine wE_R (w1 := wXt ax cI cZ ((sFact n bt rk wt cl cc su sa sc od (nzB (xs (4 * k + 1))) (xs (4 * k + 2)) (xs (4 * k + 3))).2, u2)) (w2 := wY ay cI cZ n bt.testBit rk wt cl cc sa su sc od kn ke rq rd) (As := [.int (bI (nzB (xs (4 * k + 1)))), .int (xs (4 * k + 2)), .int (xs (4 * k + 3))]) (rest := [.int (sFact n bt rk wt cl cc su sa sc od (nzB (xs (4 * k + 1))) (xs (4 * k + 2)) (xs (4 * k + 3))).1]) ⟨hx, hb, hml, hown, hts⟩ (c_Y_fact l _ (nzB (xs (4 * k + 1))) (xs (4 * k + 2)) (xs (4 * k + 3)) hg hcy) (cwV 3 hts g_L_17 rfl rfl rfl (by decide +kernel) ⟨Nat.le_of_ble_eq_true rfl, Nat.le_of_ble_eq_true rfl⟩) hK hP hD hS hA 0 rfl rfl rfl hl.1 rfl (Nat.le_of_ble_eq_true rfl) d_L_law_159 ⟨Nat.le_of_ble_eq_true rfl, Nat.le_of_ble_eq_true rfl⟩ (fun u => wYt_ad u) (fun v1 H locs hv hP hD hS => ?_)
      obtain ⟨a2, v2⟩ := v1
      have hv1 : a2 = (sFact n bt rk wt cl cc su sa sc od (nzB (xs (4 * k + 1))) (xs (4 * k + 2)) (xs (4 * k + 3))).2 := hv.1
      have hcy1 : ocY (a2, v2) := hv.2
      subst hv1
      refine W.eq (g2 := F0 m 162 ls [.int (sFact n bt rk wt cl cc su sa sc od (nzB (xs (4 * k + 1))) (xs (4 * k + 2)) (xs (4 * k + 3))).1, .int (sFact n bt rk wt cl cc su sa sc od (nzB (xs (4 * k + 1))) (xs (4 * k + 2)) (xs (4 * k + 3))).1]) rfl ?_
      refine lv_icmp_eq (tgt := 545) hx hb d_L_law_162 (by decide) (fun c9 => ?_) (fun c9 => ?_)
      · exact J _ u2 v2 ls _ _ (gd_fact hg) hcx1 hcy1 hl hP hD hS
      · exact absurd rfl c9
  · refine lv_iconst (v := 1) hx hb d_L_law_117 (by decide) ?_
    refine rd_top (z := bI (nzB (xs (4 * k + 1)))) (nz_f c114) ?_
    refine lv_goto (tgt := 122) hx hb d_L_law_118 (by decide) ?_
    refine lv_aload_n hx hb d_L_law_122 rfl (lv_at hl 0 rfl) ?_
    refine lv_iload_n hx hb d_L_law_123 rfl (lv_at hl 3 rfl) ?_
    refine lv_iconst (v := 2) hx hb d_L_law_124 (by decide) ?_
    refine lv_iadd hx hb d_L_law_125 ?_
    refine rd_top (z := nI (4 * k + 2)) (nI_add (4 * k) 2) ?_
    refine va_sld hx hb hX hbl hbA hS (vp_in_nI (show 4 * k + 2 < L by omega) (by omega)) d_L_law_126 ?_
    refine rd_top (z := xs (4 * k + 2)) (by rw [nI_clamp (by omega)]) ?_
    refine lv_aload_n hx hb d_L_law_127 rfl (lv_at hl 0 rfl) ?_
    refine lv_iload_n hx hb d_L_law_128 rfl (lv_at hl 3 rfl) ?_
    refine lv_iconst (v := 3) hx hb d_L_law_129 (by decide) ?_
    refine lv_iadd hx hb d_L_law_130 ?_
    refine rd_top (z := nI (4 * k + 3)) (nI_add (4 * k) 3) ?_
    refine va_sld hx hb hX hbl hbA hS (vp_in_nI (show 4 * k + 3 < L by omega) (by omega)) d_L_law_131 ?_
    refine rd_top (z := xs (4 * k + 3)) (by rw [nI_clamp (by omega)]) ?_
    refine wE_L (w1 := wX ax cI cZ n bt rk wt cl cc su sa sc od fr cg co rp rc) (w2 := wY ay cI cZ n bt.testBit rk wt cl cc sa su sc od kn ke rq rd) (As := [.int (bI (nzB (xs (4 * k + 1)))), .int (xs (4 * k + 2)), .int (xs (4 * k + 3))]) (rest := []) ⟨hx, hb, hml, hown, hts⟩ (c_X_fact l _ (nzB (xs (4 * k + 1))) (xs (4 * k + 2)) (xs (4 * k + 3)) hg hcx) (cwV 3 hts g_L_13 rfl rfl rfl (by decide +kernel) ⟨Nat.le_of_ble_eq_true rfl, Nat.le_of_ble_eq_true rfl⟩) hK hP hD hS hA 0 rfl rfl rfl hl.1 rfl (Nat.le_of_ble_eq_true rfl) d_L_law_132 ⟨Nat.le_of_ble_eq_true rfl, Nat.le_of_ble_eq_true rfl⟩ (fun u => wXt_ad u) (fun u1 H locs hu hP hD hS => ?_)
    obtain ⟨a1, u2⟩ := u1
    have hu1 : a1 = (sFact n bt rk wt cl cc su sa sc od (nzB (xs (4 * k + 1))) (xs (4 * k + 2)) (xs (4 * k + 3))).2 := hu.1
    have hcx1 : ocX (a1, u2) := hu.2
    subst hu1
    have hP : va_P D clX (wXt ax cI cZ ((sFact n bt rk wt cl cc su sa sc od (nzB (xs (4 * k + 1))) (xs (4 * k + 2)) (xs (4 * k + 3))).2, u2) ++ wY ay cI cZ n bt.testBit rk wt cl cc sa su sc od kn ke rq rd) H := hP
    refine W.eq (g2 := F0 m 135 ls [.int (sFact n bt rk wt cl cc su sa sc od (nzB (xs (4 * k + 1))) (xs (4 * k + 2)) (xs (4 * k + 3))).1]) rfl ?_
    refine lv_aload_n hx hb d_L_law_135 rfl (lv_at hl 2 rfl) ?_
    refine lv_aload_n hx hb d_L_law_136 rfl (lv_at hl 0 rfl) ?_
    refine lv_iload_n hx hb d_L_law_137 rfl (lv_at hl 3 rfl) ?_
    refine lv_iconst (v := 1) hx hb d_L_law_138 (by decide) ?_
    refine lv_iadd hx hb d_L_law_139 ?_
    refine rd_top (z := nI (4 * k + 1)) (nI_add (4 * k) 1) ?_
    refine va_sld hx hb hX hbl hbA hS (vp_in_nI (show 4 * k + 1 < L by omega) (by omega)) d_L_law_140 ?_
    refine rd_top (z := xs (4 * k + 1)) (by rw [nI_clamp (by omega)]) ?_
    refine lv_if_eq (tgt := 148) hx hb d_L_law_141 (by decide) (fun c141 => ?_) (fun c141 => ?_)
    · refine lv_iconst (v := 0) hx hb d_L_law_148 (by decide) ?_
      refine rd_top (z := bI (nzB (xs (4 * k + 1)))) (nz_t c141) ?_
      refine lv_aload_n hx hb d_L_law_149 rfl (lv_at hl 0 rfl) ?_
      refine lv_iload_n hx hb d_L_law_150 rfl (lv_at hl 3 rfl) ?_
      refine lv_iconst (v := 2) hx hb d_L_law_151 (by decide) ?_
      refine lv_iadd hx hb d_L_law_152 ?_
      refine rd_top (z := nI (4 * k + 2)) (nI_add (4 * k) 2) ?_
      refine va_sld hx hb hX hbl hbA hS (vp_in_nI (show 4 * k + 2 < L by omega) (by omega)) d_L_law_153 ?_
      refine rd_top (z := xs (4 * k + 2)) (by rw [nI_clamp (by omega)]) ?_
      refine lv_aload_n hx hb d_L_law_154 rfl (lv_at hl 0 rfl) ?_
      refine lv_iload_n hx hb d_L_law_155 rfl (lv_at hl 3 rfl) ?_
      refine lv_iconst (v := 3) hx hb d_L_law_156 (by decide) ?_
      refine lv_iadd hx hb d_L_law_157 ?_
      refine rd_top (z := nI (4 * k + 3)) (nI_add (4 * k) 3) ?_
      refine va_sld hx hb hX hbl hbA hS (vp_in_nI (show 4 * k + 3 < L by omega) (by omega)) d_L_law_158 ?_
      refine rd_top (z := xs (4 * k + 3)) (by rw [nI_clamp (by omega)]) ?_
      refine wE_R (w1 := wXt ax cI cZ ((sFact n bt rk wt cl cc su sa sc od (nzB (xs (4 * k + 1))) (xs (4 * k + 2)) (xs (4 * k + 3))).2, u2)) (w2 := wY ay cI cZ n bt.testBit rk wt cl cc sa su sc od kn ke rq rd) (As := [.int (bI (nzB (xs (4 * k + 1)))), .int (xs (4 * k + 2)), .int (xs (4 * k + 3))]) (rest := [.int (sFact n bt rk wt cl cc su sa sc od (nzB (xs (4 * k + 1))) (xs (4 * k + 2)) (xs (4 * k + 3))).1]) ⟨hx, hb, hml, hown, hts⟩ (c_Y_fact l _ (nzB (xs (4 * k + 1))) (xs (4 * k + 2)) (xs (4 * k + 3)) hg hcy) (cwV 3 hts g_L_17 rfl rfl rfl (by decide +kernel) ⟨Nat.le_of_ble_eq_true rfl, Nat.le_of_ble_eq_true rfl⟩) hK hP hD hS hA 0 rfl rfl rfl hl.1 rfl (Nat.le_of_ble_eq_true rfl) d_L_law_159 ⟨Nat.le_of_ble_eq_true rfl, Nat.le_of_ble_eq_true rfl⟩ (fun u => wYt_ad u) (fun v1 H locs hv hP hD hS => ?_)
      obtain ⟨a2, v2⟩ := v1
      have hv1 : a2 = (sFact n bt rk wt cl cc su sa sc od (nzB (xs (4 * k + 1))) (xs (4 * k + 2)) (xs (4 * k + 3))).2 := hv.1
      have hcy1 : ocY (a2, v2) := hv.2
      subst hv1
      refine W.eq (g2 := F0 m 162 ls [.int (sFact n bt rk wt cl cc su sa sc od (nzB (xs (4 * k + 1))) (xs (4 * k + 2)) (xs (4 * k + 3))).1, .int (sFact n bt rk wt cl cc su sa sc od (nzB (xs (4 * k + 1))) (xs (4 * k + 2)) (xs (4 * k + 3))).1]) rfl ?_
      refine lv_icmp_eq (tgt := 545) hx hb d_L_law_162 (by decide) (fun c9 => ?_) (fun c9 => ?_)
      · exact J _ u2 v2 ls _ _ (gd_fact hg) hcx1 hcy1 hl hP hD hS
      · exact absurd rfl c9
    · refine lv_iconst (v := 1) hx hb d_L_law_144 (by decide) ?_
      refine rd_top (z := bI (nzB (xs (4 * k + 1)))) (nz_f c141) ?_
      refine lv_goto (tgt := 149) hx hb d_L_law_145 (by decide) ?_
      refine lv_aload_n hx hb d_L_law_149 rfl (lv_at hl 0 rfl) ?_
      refine lv_iload_n hx hb d_L_law_150 rfl (lv_at hl 3 rfl) ?_
      refine lv_iconst (v := 2) hx hb d_L_law_151 (by decide) ?_
      refine lv_iadd hx hb d_L_law_152 ?_
      refine rd_top (z := nI (4 * k + 2)) (nI_add (4 * k) 2) ?_
      refine va_sld hx hb hX hbl hbA hS (vp_in_nI (show 4 * k + 2 < L by omega) (by omega)) d_L_law_153 ?_
      refine rd_top (z := xs (4 * k + 2)) (by rw [nI_clamp (by omega)]) ?_
      refine lv_aload_n hx hb d_L_law_154 rfl (lv_at hl 0 rfl) ?_
      refine lv_iload_n hx hb d_L_law_155 rfl (lv_at hl 3 rfl) ?_
      refine lv_iconst (v := 3) hx hb d_L_law_156 (by decide) ?_
      refine lv_iadd hx hb d_L_law_157 ?_
      refine rd_top (z := nI (4 * k + 3)) (nI_add (4 * k) 3) ?_
      refine va_sld hx hb hX hbl hbA hS (vp_in_nI (show 4 * k + 3 < L by omega) (by omega)) d_L_law_158 ?_
      refine rd_top (z := xs (4 * k + 3)) (by rw [nI_clamp (by omega)]) ?_
      refine wE_R (w1 := wXt ax cI cZ ((sFact n bt rk wt cl cc su sa sc od (nzB (xs (4 * k + 1))) (xs (4 * k + 2)) (xs (4 * k + 3))).2, u2)) (w2 := wY ay cI cZ n bt.testBit rk wt cl cc sa su sc od kn ke rq rd) (As := [.int (bI (nzB (xs (4 * k + 1)))), .int (xs (4 * k + 2)), .int (xs (4 * k + 3))]) (rest := [.int (sFact n bt rk wt cl cc su sa sc od (nzB (xs (4 * k + 1))) (xs (4 * k + 2)) (xs (4 * k + 3))).1]) ⟨hx, hb, hml, hown, hts⟩ (c_Y_fact l _ (nzB (xs (4 * k + 1))) (xs (4 * k + 2)) (xs (4 * k + 3)) hg hcy) (cwV 3 hts g_L_17 rfl rfl rfl (by decide +kernel) ⟨Nat.le_of_ble_eq_true rfl, Nat.le_of_ble_eq_true rfl⟩) hK hP hD hS hA 0 rfl rfl rfl hl.1 rfl (Nat.le_of_ble_eq_true rfl) d_L_law_159 ⟨Nat.le_of_ble_eq_true rfl, Nat.le_of_ble_eq_true rfl⟩ (fun u => wYt_ad u) (fun v1 H locs hv hP hD hS => ?_)
      obtain ⟨a2, v2⟩ := v1
      have hv1 : a2 = (sFact n bt rk wt cl cc su sa sc od (nzB (xs (4 * k + 1))) (xs (4 * k + 2)) (xs (4 * k + 3))).2 := hv.1
      have hcy1 : ocY (a2, v2) := hv.2
      subst hv1
      refine W.eq (g2 := F0 m 162 ls [.int (sFact n bt rk wt cl cc su sa sc od (nzB (xs (4 * k + 1))) (xs (4 * k + 2)) (xs (4 * k + 3))).1, .int (sFact n bt rk wt cl cc su sa sc od (nzB (xs (4 * k + 1))) (xs (4 * k + 2)) (xs (4 * k + 3))).1]) rfl ?_
      refine lv_icmp_eq (tgt := 545) hx hb d_L_law_162 (by decide) (fun c9 => ?_) (fun c9 => ?_)
      · exact J _ u2 v2 ls _ _ (gd_fact hg) hcx1 hcy1 hl hP hD hS
      · exact absurd rfl c9
set_option maxHeartbeats 4000000 in
set_option maxRecDepth 100000 in
theorem op_harden {p : Program} {l : Launch} {e : Env} {s : State} {m : MethodId} {below : List Frame} {meth : Method} {c : Code} {b L : Nat} {xs : Nat → Int32} (hL : L ≤ 2048) (C0 : lw_At p s m meth c b L xs) {D : va_G} {ax ay : Nat → Nat} {cI cZ : ClassId} {k : Nat} (hk : k < L / 4) {a : stA} {u : stC} {v : stD} (hg : gdA a) (hcx : ocX (a, u)) (hcy : ocY (a, v)) {H : Heap} {locs : List Loc} {ls : Array Slot} (hK : va_K D clX [(cI, .int), (cZ, .boolean)] s) (hl : lv_has ls 4 [(0, .ref b), (1, .ref (ax 0)), (2, .ref (ay 0)), (3, .int (nI (4 * k)))]) (hP : va_P D clX (wXt ax cI cZ (a, u) ++ wYt ay cI cZ (a, v)) H) (hD : va_D (fun q : Nat => s.heap.size ≤ q) (wXt ax cI cZ (a, u) ++ wYt ay cI cZ (a, v))) (hS : va_S (fun q : Nat => s.heap.size ≤ q) s.heap H locs) (J : lwJ p l e s m below meth c b D ax ay cI cZ k) : W p l e room_1 s m #[Value.ref b] below meth c H locs 18 6861 (lw_Z below #[Value.ref b] s) (F0 m 167 ls []) := by
  obtain ⟨hx, hb, hr, hml, hown, hts0, hX, hbl, hlocks, hgv⟩ := C0
  have hts : ∀ w ∈ tbl, w.before #[Value.ref b] s = true := fun w h => hts0 w (List.mem_filter.mp h).1
  have hown : s.vm.findClass RL = some m.cls := hown
  have hA : ∀ q : Nat, s.heap.size ≤ q → (fun q : Nat => s.heap.size ≤ q) q := fun _ h => h
  have hbA : ¬ (fun q : Nat => s.heap.size ≤ q) b := Nat.not_le.mpr hbl
  have hk4 : 4 * k + 3 < L := by omega
  obtain ⟨n, bt, rk, wt, cl, cc, su, sa, sc, od⟩ := a
  obtain ⟨fr, cg, co, rp, rc⟩ := u
  obtain ⟨kn, ke, rq, rd⟩ := v
  refine lv_aload_n hx hb d_L_law_167 rfl (lv_at hl 1 rfl) ?_
  refine lv_aload_n hx hb d_L_law_168 rfl (lv_at hl 0 rfl) ?_
  refine lv_iload_n hx hb d_L_law_169 rfl (lv_at hl 3 rfl) ?_
  refine lv_iconst (v := 1) hx hb d_L_law_170 (by decide) ?_
  refine lv_iadd hx hb d_L_law_171 ?_
  refine rd_top (z := nI (4 * k + 1)) (nI_add (4 * k) 1) ?_
  refine va_sld hx hb hX hbl hbA hS (vp_in_nI (show 4 * k + 1 < L by omega) (by omega)) d_L_law_172 ?_
  refine rd_top (z := xs (4 * k + 1)) (by rw [nI_clamp (by omega)]) ?_
  refine lv_aload_n hx hb d_L_law_173 rfl (lv_at hl 0 rfl) ?_
  refine lv_iload_n hx hb d_L_law_174 rfl (lv_at hl 3 rfl) ?_
  refine lv_iconst (v := 2) hx hb d_L_law_175 (by decide) ?_
  refine lv_iadd hx hb d_L_law_176 ?_
  refine rd_top (z := nI (4 * k + 2)) (nI_add (4 * k) 2) ?_
  refine va_sld hx hb hX hbl hbA hS (vp_in_nI (show 4 * k + 2 < L by omega) (by omega)) d_L_law_177 ?_
  refine rd_top (z := xs (4 * k + 2)) (by rw [nI_clamp (by omega)]) ?_
  refine lv_if_eq (tgt := 185) hx hb d_L_law_178 (by decide) (fun c178 => ?_) (fun c178 => ?_)
  · refine lv_iconst (v := 0) hx hb d_L_law_185 (by decide) ?_
    refine rd_top (z := bI (nzB (xs (4 * k + 2)))) (nz_t c178) ?_
    refine wE_L (w1 := wX ax cI cZ n bt rk wt cl cc su sa sc od fr cg co rp rc) (w2 := wY ay cI cZ n bt.testBit rk wt cl cc sa su sc od kn ke rq rd) (As := [.int (xs (4 * k + 1)), .int (bI (nzB (xs (4 * k + 2))))]) (rest := []) ⟨hx, hb, hml, hown, hts⟩ (c_X_harden l _ (xs (4 * k + 1)) (nzB (xs (4 * k + 2))) hg hcx) (cwV 2 hts g_L_18 rfl rfl rfl (by decide +kernel) ⟨Nat.le_of_ble_eq_true rfl, Nat.le_of_ble_eq_true rfl⟩) hK hP hD hS hA 0 rfl rfl rfl hl.1 rfl (Nat.le_of_ble_eq_true rfl) d_L_law_186 ⟨Nat.le_of_ble_eq_true rfl, Nat.le_of_ble_eq_true rfl⟩ (fun u => wXt_ad u) (fun u1 H locs hu hP hD hS => ?_)
    obtain ⟨a1, u2⟩ := u1
    have hu1 : a1 = (sHarden n bt rk wt cl cc su sa sc od (xs (4 * k + 1)) (nzB (xs (4 * k + 2)))).2 := hu.1
    have hcx1 : ocX (a1, u2) := hu.2
    subst hu1
    have hP : va_P D clX (wXt ax cI cZ ((sHarden n bt rk wt cl cc su sa sc od (xs (4 * k + 1)) (nzB (xs (4 * k + 2)))).2, u2) ++ wY ay cI cZ n bt.testBit rk wt cl cc sa su sc od kn ke rq rd) H := hP
    refine W.eq (g2 := F0 m 189 ls [.int (sHarden n bt rk wt cl cc su sa sc od (xs (4 * k + 1)) (nzB (xs (4 * k + 2)))).1]) rfl ?_
    refine lv_aload_n hx hb d_L_law_189 rfl (lv_at hl 2 rfl) ?_
    refine lv_aload_n hx hb d_L_law_190 rfl (lv_at hl 0 rfl) ?_
    refine lv_iload_n hx hb d_L_law_191 rfl (lv_at hl 3 rfl) ?_
    refine lv_iconst (v := 1) hx hb d_L_law_192 (by decide) ?_
    refine lv_iadd hx hb d_L_law_193 ?_
    refine rd_top (z := nI (4 * k + 1)) (nI_add (4 * k) 1) ?_
    refine va_sld hx hb hX hbl hbA hS (vp_in_nI (show 4 * k + 1 < L by omega) (by omega)) d_L_law_194 ?_
    refine rd_top (z := xs (4 * k + 1)) (by rw [nI_clamp (by omega)]) ?_
    refine lv_aload_n hx hb d_L_law_195 rfl (lv_at hl 0 rfl) ?_
    refine lv_iload_n hx hb d_L_law_196 rfl (lv_at hl 3 rfl) ?_
    refine lv_iconst (v := 2) hx hb d_L_law_197 (by decide) ?_
    refine lv_iadd hx hb d_L_law_198 ?_
    refine rd_top (z := nI (4 * k + 2)) (nI_add (4 * k) 2) ?_
    refine va_sld hx hb hX hbl hbA hS (vp_in_nI (show 4 * k + 2 < L by omega) (by omega)) d_L_law_199 ?_
    refine rd_top (z := xs (4 * k + 2)) (by rw [nI_clamp (by omega)]) ?_
    refine lv_if_eq (tgt := 207) hx hb d_L_law_200 (by decide) (fun c200 => ?_) (fun c200 => ?_)
    · refine lv_iconst (v := 0) hx hb d_L_law_207 (by decide) ?_
      refine rd_top (z := bI (nzB (xs (4 * k + 2)))) (nz_t c200) ?_
      refine wE_R (w1 := wXt ax cI cZ ((sHarden n bt rk wt cl cc su sa sc od (xs (4 * k + 1)) (nzB (xs (4 * k + 2)))).2, u2)) (w2 := wY ay cI cZ n bt.testBit rk wt cl cc sa su sc od kn ke rq rd) (As := [.int (xs (4 * k + 1)), .int (bI (nzB (xs (4 * k + 2))))]) (rest := [.int (sHarden n bt rk wt cl cc su sa sc od (xs (4 * k + 1)) (nzB (xs (4 * k + 2)))).1]) ⟨hx, hb, hml, hown, hts⟩ (c_Y_harden l _ (xs (4 * k + 1)) (nzB (xs (4 * k + 2))) hg hcy) (cwV 2 hts g_L_22 rfl rfl rfl (by decide +kernel) ⟨Nat.le_of_ble_eq_true rfl, Nat.le_of_ble_eq_true rfl⟩) hK hP hD hS hA 0 rfl rfl rfl hl.1 rfl (Nat.le_of_ble_eq_true rfl) d_L_law_208 ⟨Nat.le_of_ble_eq_true rfl, Nat.le_of_ble_eq_true rfl⟩ (fun u => wYt_ad u) (fun v1 H locs hv hP hD hS => ?_)
      obtain ⟨a2, v2⟩ := v1
      have hv1 : a2 = (sHarden n bt rk wt cl cc su sa sc od (xs (4 * k + 1)) (nzB (xs (4 * k + 2)))).2 := hv.1
      have hcy1 : ocY (a2, v2) := hv.2
      subst hv1
      refine W.eq (g2 := F0 m 211 ls [.int (sHarden n bt rk wt cl cc su sa sc od (xs (4 * k + 1)) (nzB (xs (4 * k + 2)))).1, .int (sHarden n bt rk wt cl cc su sa sc od (xs (4 * k + 1)) (nzB (xs (4 * k + 2)))).1]) rfl ?_
      refine lv_icmp_eq (tgt := 545) hx hb d_L_law_211 (by decide) (fun c9 => ?_) (fun c9 => ?_)
      · exact J _ u2 v2 ls _ _ (gd_harden hg) hcx1 hcy1 hl hP hD hS
      · exact absurd rfl c9
    · refine lv_iconst (v := 1) hx hb d_L_law_203 (by decide) ?_
      refine rd_top (z := bI (nzB (xs (4 * k + 2)))) (nz_f c200) ?_
      refine lv_goto (tgt := 208) hx hb d_L_law_204 (by decide) ?_
      refine wE_R (w1 := wXt ax cI cZ ((sHarden n bt rk wt cl cc su sa sc od (xs (4 * k + 1)) (nzB (xs (4 * k + 2)))).2, u2)) (w2 := wY ay cI cZ n bt.testBit rk wt cl cc sa su sc od kn ke rq rd) (As := [.int (xs (4 * k + 1)), .int (bI (nzB (xs (4 * k + 2))))]) (rest := [.int (sHarden n bt rk wt cl cc su sa sc od (xs (4 * k + 1)) (nzB (xs (4 * k + 2)))).1]) ⟨hx, hb, hml, hown, hts⟩ (c_Y_harden l _ (xs (4 * k + 1)) (nzB (xs (4 * k + 2))) hg hcy) (cwV 2 hts g_L_22 rfl rfl rfl (by decide +kernel) ⟨Nat.le_of_ble_eq_true rfl, Nat.le_of_ble_eq_true rfl⟩) hK hP hD hS hA 0 rfl rfl rfl hl.1 rfl (Nat.le_of_ble_eq_true rfl) d_L_law_208 ⟨Nat.le_of_ble_eq_true rfl, Nat.le_of_ble_eq_true rfl⟩ (fun u => wYt_ad u) (fun v1 H locs hv hP hD hS => ?_)
      obtain ⟨a2, v2⟩ := v1
      have hv1 : a2 = (sHarden n bt rk wt cl cc su sa sc od (xs (4 * k + 1)) (nzB (xs (4 * k + 2)))).2 := hv.1
      have hcy1 : ocY (a2, v2) := hv.2
      subst hv1
      refine W.eq (g2 := F0 m 211 ls [.int (sHarden n bt rk wt cl cc su sa sc od (xs (4 * k + 1)) (nzB (xs (4 * k + 2)))).1, .int (sHarden n bt rk wt cl cc su sa sc od (xs (4 * k + 1)) (nzB (xs (4 * k + 2)))).1]) rfl ?_
      refine lv_icmp_eq (tgt := 545) hx hb d_L_law_211 (by decide) (fun c9 => ?_) (fun c9 => ?_)
      · exact J _ u2 v2 ls _ _ (gd_harden hg) hcx1 hcy1 hl hP hD hS
      · exact absurd rfl c9
  · refine lv_iconst (v := 1) hx hb d_L_law_181 (by decide) ?_
    refine rd_top (z := bI (nzB (xs (4 * k + 2)))) (nz_f c178) ?_
    refine lv_goto (tgt := 186) hx hb d_L_law_182 (by decide) ?_
    refine wE_L (w1 := wX ax cI cZ n bt rk wt cl cc su sa sc od fr cg co rp rc) (w2 := wY ay cI cZ n bt.testBit rk wt cl cc sa su sc od kn ke rq rd) (As := [.int (xs (4 * k + 1)), .int (bI (nzB (xs (4 * k + 2))))]) (rest := []) ⟨hx, hb, hml, hown, hts⟩ (c_X_harden l _ (xs (4 * k + 1)) (nzB (xs (4 * k + 2))) hg hcx) (cwV 2 hts g_L_18 rfl rfl rfl (by decide +kernel) ⟨Nat.le_of_ble_eq_true rfl, Nat.le_of_ble_eq_true rfl⟩) hK hP hD hS hA 0 rfl rfl rfl hl.1 rfl (Nat.le_of_ble_eq_true rfl) d_L_law_186 ⟨Nat.le_of_ble_eq_true rfl, Nat.le_of_ble_eq_true rfl⟩ (fun u => wXt_ad u) (fun u1 H locs hu hP hD hS => ?_)
    obtain ⟨a1, u2⟩ := u1
    have hu1 : a1 = (sHarden n bt rk wt cl cc su sa sc od (xs (4 * k + 1)) (nzB (xs (4 * k + 2)))).2 := hu.1
    have hcx1 : ocX (a1, u2) := hu.2
    subst hu1
    have hP : va_P D clX (wXt ax cI cZ ((sHarden n bt rk wt cl cc su sa sc od (xs (4 * k + 1)) (nzB (xs (4 * k + 2)))).2, u2) ++ wY ay cI cZ n bt.testBit rk wt cl cc sa su sc od kn ke rq rd) H := hP
    refine W.eq (g2 := F0 m 189 ls [.int (sHarden n bt rk wt cl cc su sa sc od (xs (4 * k + 1)) (nzB (xs (4 * k + 2)))).1]) rfl ?_
    refine lv_aload_n hx hb d_L_law_189 rfl (lv_at hl 2 rfl) ?_
    refine lv_aload_n hx hb d_L_law_190 rfl (lv_at hl 0 rfl) ?_
    refine lv_iload_n hx hb d_L_law_191 rfl (lv_at hl 3 rfl) ?_
    refine lv_iconst (v := 1) hx hb d_L_law_192 (by decide) ?_
    refine lv_iadd hx hb d_L_law_193 ?_
    refine rd_top (z := nI (4 * k + 1)) (nI_add (4 * k) 1) ?_
    refine va_sld hx hb hX hbl hbA hS (vp_in_nI (show 4 * k + 1 < L by omega) (by omega)) d_L_law_194 ?_
    refine rd_top (z := xs (4 * k + 1)) (by rw [nI_clamp (by omega)]) ?_
    refine lv_aload_n hx hb d_L_law_195 rfl (lv_at hl 0 rfl) ?_
    refine lv_iload_n hx hb d_L_law_196 rfl (lv_at hl 3 rfl) ?_
    refine lv_iconst (v := 2) hx hb d_L_law_197 (by decide) ?_
    refine lv_iadd hx hb d_L_law_198 ?_
    refine rd_top (z := nI (4 * k + 2)) (nI_add (4 * k) 2) ?_
    refine va_sld hx hb hX hbl hbA hS (vp_in_nI (show 4 * k + 2 < L by omega) (by omega)) d_L_law_199 ?_
    refine rd_top (z := xs (4 * k + 2)) (by rw [nI_clamp (by omega)]) ?_
    refine lv_if_eq (tgt := 207) hx hb d_L_law_200 (by decide) (fun c200 => ?_) (fun c200 => ?_)
    · refine lv_iconst (v := 0) hx hb d_L_law_207 (by decide) ?_
      refine rd_top (z := bI (nzB (xs (4 * k + 2)))) (nz_t c200) ?_
      refine wE_R (w1 := wXt ax cI cZ ((sHarden n bt rk wt cl cc su sa sc od (xs (4 * k + 1)) (nzB (xs (4 * k + 2)))).2, u2)) (w2 := wY ay cI cZ n bt.testBit rk wt cl cc sa su sc od kn ke rq rd) (As := [.int (xs (4 * k + 1)), .int (bI (nzB (xs (4 * k + 2))))]) (rest := [.int (sHarden n bt rk wt cl cc su sa sc od (xs (4 * k + 1)) (nzB (xs (4 * k + 2)))).1]) ⟨hx, hb, hml, hown, hts⟩ (c_Y_harden l _ (xs (4 * k + 1)) (nzB (xs (4 * k + 2))) hg hcy) (cwV 2 hts g_L_22 rfl rfl rfl (by decide +kernel) ⟨Nat.le_of_ble_eq_true rfl, Nat.le_of_ble_eq_true rfl⟩) hK hP hD hS hA 0 rfl rfl rfl hl.1 rfl (Nat.le_of_ble_eq_true rfl) d_L_law_208 ⟨Nat.le_of_ble_eq_true rfl, Nat.le_of_ble_eq_true rfl⟩ (fun u => wYt_ad u) (fun v1 H locs hv hP hD hS => ?_)
      obtain ⟨a2, v2⟩ := v1
      have hv1 : a2 = (sHarden n bt rk wt cl cc su sa sc od (xs (4 * k + 1)) (nzB (xs (4 * k + 2)))).2 := hv.1
      have hcy1 : ocY (a2, v2) := hv.2
      subst hv1
      refine W.eq (g2 := F0 m 211 ls [.int (sHarden n bt rk wt cl cc su sa sc od (xs (4 * k + 1)) (nzB (xs (4 * k + 2)))).1, .int (sHarden n bt rk wt cl cc su sa sc od (xs (4 * k + 1)) (nzB (xs (4 * k + 2)))).1]) rfl ?_
      refine lv_icmp_eq (tgt := 545) hx hb d_L_law_211 (by decide) (fun c9 => ?_) (fun c9 => ?_)
      · exact J _ u2 v2 ls _ _ (gd_harden hg) hcx1 hcy1 hl hP hD hS
      · exact absurd rfl c9
    · refine lv_iconst (v := 1) hx hb d_L_law_203 (by decide) ?_
      refine rd_top (z := bI (nzB (xs (4 * k + 2)))) (nz_f c200) ?_
      refine lv_goto (tgt := 208) hx hb d_L_law_204 (by decide) ?_
      refine wE_R (w1 := wXt ax cI cZ ((sHarden n bt rk wt cl cc su sa sc od (xs (4 * k + 1)) (nzB (xs (4 * k + 2)))).2, u2)) (w2 := wY ay cI cZ n bt.testBit rk wt cl cc sa su sc od kn ke rq rd) (As := [.int (xs (4 * k + 1)), .int (bI (nzB (xs (4 * k + 2))))]) (rest := [.int (sHarden n bt rk wt cl cc su sa sc od (xs (4 * k + 1)) (nzB (xs (4 * k + 2)))).1]) ⟨hx, hb, hml, hown, hts⟩ (c_Y_harden l _ (xs (4 * k + 1)) (nzB (xs (4 * k + 2))) hg hcy) (cwV 2 hts g_L_22 rfl rfl rfl (by decide +kernel) ⟨Nat.le_of_ble_eq_true rfl, Nat.le_of_ble_eq_true rfl⟩) hK hP hD hS hA 0 rfl rfl rfl hl.1 rfl (Nat.le_of_ble_eq_true rfl) d_L_law_208 ⟨Nat.le_of_ble_eq_true rfl, Nat.le_of_ble_eq_true rfl⟩ (fun u => wYt_ad u) (fun v1 H locs hv hP hD hS => ?_)
      obtain ⟨a2, v2⟩ := v1
      have hv1 : a2 = (sHarden n bt rk wt cl cc su sa sc od (xs (4 * k + 1)) (nzB (xs (4 * k + 2)))).2 := hv.1
      have hcy1 : ocY (a2, v2) := hv.2
      subst hv1
      refine W.eq (g2 := F0 m 211 ls [.int (sHarden n bt rk wt cl cc su sa sc od (xs (4 * k + 1)) (nzB (xs (4 * k + 2)))).1, .int (sHarden n bt rk wt cl cc su sa sc od (xs (4 * k + 1)) (nzB (xs (4 * k + 2)))).1]) rfl ?_
      refine lv_icmp_eq (tgt := 545) hx hb d_L_law_211 (by decide) (fun c9 => ?_) (fun c9 => ?_)
      · exact J _ u2 v2 ls _ _ (gd_harden hg) hcx1 hcy1 hl hP hD hS
      · exact absurd rfl c9
set_option maxHeartbeats 4000000 in
set_option maxRecDepth 100000 in
theorem op_weight {p : Program} {l : Launch} {e : Env} {s : State} {m : MethodId} {below : List Frame} {meth : Method} {c : Code} {b L : Nat} {xs : Nat → Int32} (hL : L ≤ 2048) (C0 : lw_At p s m meth c b L xs) {D : va_G} {ax ay : Nat → Nat} {cI cZ : ClassId} {k : Nat} (hk : k < L / 4) {a : stA} {u : stC} {v : stD} (hg : gdA a) (hcx : ocX (a, u)) (hcy : ocY (a, v)) {H : Heap} {locs : List Loc} {ls : Array Slot} (hK : va_K D clX [(cI, .int), (cZ, .boolean)] s) (hl : lv_has ls 4 [(0, .ref b), (1, .ref (ax 0)), (2, .ref (ay 0)), (3, .int (nI (4 * k)))]) (hP : va_P D clX (wXt ax cI cZ (a, u) ++ wYt ay cI cZ (a, v)) H) (hD : va_D (fun q : Nat => s.heap.size ≤ q) (wXt ax cI cZ (a, u) ++ wYt ay cI cZ (a, v))) (hS : va_S (fun q : Nat => s.heap.size ≤ q) s.heap H locs) (J : lwJ p l e s m below meth c b D ax ay cI cZ k) : W p l e room_1 s m #[Value.ref b] below meth c H locs 18 6861 (lw_Z below #[Value.ref b] s) (F0 m 216 ls []) := by
  obtain ⟨hx, hb, hr, hml, hown, hts0, hX, hbl, hlocks, hgv⟩ := C0
  have hts : ∀ w ∈ tbl, w.before #[Value.ref b] s = true := fun w h => hts0 w (List.mem_filter.mp h).1
  have hown : s.vm.findClass RL = some m.cls := hown
  have hA : ∀ q : Nat, s.heap.size ≤ q → (fun q : Nat => s.heap.size ≤ q) q := fun _ h => h
  have hbA : ¬ (fun q : Nat => s.heap.size ≤ q) b := Nat.not_le.mpr hbl
  have hk4 : 4 * k + 3 < L := by omega
  obtain ⟨n, bt, rk, wt, cl, cc, su, sa, sc, od⟩ := a
  obtain ⟨fr, cg, co, rp, rc⟩ := u
  obtain ⟨kn, ke, rq, rd⟩ := v
  refine lv_aload_n hx hb d_L_law_216 rfl (lv_at hl 1 rfl) ?_
  refine lv_aload_n hx hb d_L_law_217 rfl (lv_at hl 0 rfl) ?_
  refine lv_iload_n hx hb d_L_law_218 rfl (lv_at hl 3 rfl) ?_
  refine lv_iconst (v := 1) hx hb d_L_law_219 (by decide) ?_
  refine lv_iadd hx hb d_L_law_220 ?_
  refine rd_top (z := nI (4 * k + 1)) (nI_add (4 * k) 1) ?_
  refine va_sld hx hb hX hbl hbA hS (vp_in_nI (show 4 * k + 1 < L by omega) (by omega)) d_L_law_221 ?_
  refine rd_top (z := xs (4 * k + 1)) (by rw [nI_clamp (by omega)]) ?_
  refine lv_aload_n hx hb d_L_law_222 rfl (lv_at hl 0 rfl) ?_
  refine lv_iload_n hx hb d_L_law_223 rfl (lv_at hl 3 rfl) ?_
  refine lv_iconst (v := 2) hx hb d_L_law_224 (by decide) ?_
  refine lv_iadd hx hb d_L_law_225 ?_
  refine rd_top (z := nI (4 * k + 2)) (nI_add (4 * k) 2) ?_
  refine va_sld hx hb hX hbl hbA hS (vp_in_nI (show 4 * k + 2 < L by omega) (by omega)) d_L_law_226 ?_
  refine rd_top (z := xs (4 * k + 2)) (by rw [nI_clamp (by omega)]) ?_
  refine lv_aload_n hx hb d_L_law_227 rfl (lv_at hl 0 rfl) ?_
  refine lv_iload_n hx hb d_L_law_228 rfl (lv_at hl 3 rfl) ?_
  refine lv_iconst (v := 3) hx hb d_L_law_229 (by decide) ?_
  refine lv_iadd hx hb d_L_law_230 ?_
  refine rd_top (z := nI (4 * k + 3)) (nI_add (4 * k) 3) ?_
  refine va_sld hx hb hX hbl hbA hS (vp_in_nI (show 4 * k + 3 < L by omega) (by omega)) d_L_law_231 ?_
  refine rd_top (z := xs (4 * k + 3)) (by rw [nI_clamp (by omega)]) ?_
  refine wE_L (w1 := wX ax cI cZ n bt rk wt cl cc su sa sc od fr cg co rp rc) (w2 := wY ay cI cZ n bt.testBit rk wt cl cc sa su sc od kn ke rq rd) (As := [.int (xs (4 * k + 1)), .int (xs (4 * k + 2)), .int (xs (4 * k + 3))]) (rest := []) ⟨hx, hb, hml, hown, hts⟩ (c_X_weight l _ (xs (4 * k + 1)) (xs (4 * k + 2)) (xs (4 * k + 3)) hg hcx) (cwV 3 hts g_L_23 rfl rfl rfl (by decide +kernel) ⟨Nat.le_of_ble_eq_true rfl, Nat.le_of_ble_eq_true rfl⟩) hK hP hD hS hA 0 rfl rfl rfl hl.1 rfl (Nat.le_of_ble_eq_true rfl) d_L_law_232 ⟨Nat.le_of_ble_eq_true rfl, Nat.le_of_ble_eq_true rfl⟩ (fun u => wXt_ad u) (fun u1 H locs hu hP hD hS => ?_)
  obtain ⟨a1, u2⟩ := u1
  have hu1 : a1 = (sWeight n bt rk wt cl cc su sa sc od (xs (4 * k + 1)) (xs (4 * k + 2)) (xs (4 * k + 3))).2 := hu.1
  have hcx1 : ocX (a1, u2) := hu.2
  subst hu1
  have hP : va_P D clX (wXt ax cI cZ ((sWeight n bt rk wt cl cc su sa sc od (xs (4 * k + 1)) (xs (4 * k + 2)) (xs (4 * k + 3))).2, u2) ++ wY ay cI cZ n bt.testBit rk wt cl cc sa su sc od kn ke rq rd) H := hP
  refine W.eq (g2 := F0 m 235 ls [.int (sWeight n bt rk wt cl cc su sa sc od (xs (4 * k + 1)) (xs (4 * k + 2)) (xs (4 * k + 3))).1]) rfl ?_
  refine lv_aload_n hx hb d_L_law_235 rfl (lv_at hl 2 rfl) ?_
  refine lv_aload_n hx hb d_L_law_236 rfl (lv_at hl 0 rfl) ?_
  refine lv_iload_n hx hb d_L_law_237 rfl (lv_at hl 3 rfl) ?_
  refine lv_iconst (v := 1) hx hb d_L_law_238 (by decide) ?_
  refine lv_iadd hx hb d_L_law_239 ?_
  refine rd_top (z := nI (4 * k + 1)) (nI_add (4 * k) 1) ?_
  refine va_sld hx hb hX hbl hbA hS (vp_in_nI (show 4 * k + 1 < L by omega) (by omega)) d_L_law_240 ?_
  refine rd_top (z := xs (4 * k + 1)) (by rw [nI_clamp (by omega)]) ?_
  refine lv_aload_n hx hb d_L_law_241 rfl (lv_at hl 0 rfl) ?_
  refine lv_iload_n hx hb d_L_law_242 rfl (lv_at hl 3 rfl) ?_
  refine lv_iconst (v := 2) hx hb d_L_law_243 (by decide) ?_
  refine lv_iadd hx hb d_L_law_244 ?_
  refine rd_top (z := nI (4 * k + 2)) (nI_add (4 * k) 2) ?_
  refine va_sld hx hb hX hbl hbA hS (vp_in_nI (show 4 * k + 2 < L by omega) (by omega)) d_L_law_245 ?_
  refine rd_top (z := xs (4 * k + 2)) (by rw [nI_clamp (by omega)]) ?_
  refine lv_aload_n hx hb d_L_law_246 rfl (lv_at hl 0 rfl) ?_
  refine lv_iload_n hx hb d_L_law_247 rfl (lv_at hl 3 rfl) ?_
  refine lv_iconst (v := 3) hx hb d_L_law_248 (by decide) ?_
  refine lv_iadd hx hb d_L_law_249 ?_
  refine rd_top (z := nI (4 * k + 3)) (nI_add (4 * k) 3) ?_
  refine va_sld hx hb hX hbl hbA hS (vp_in_nI (show 4 * k + 3 < L by omega) (by omega)) d_L_law_250 ?_
  refine rd_top (z := xs (4 * k + 3)) (by rw [nI_clamp (by omega)]) ?_
  refine wE_R (w1 := wXt ax cI cZ ((sWeight n bt rk wt cl cc su sa sc od (xs (4 * k + 1)) (xs (4 * k + 2)) (xs (4 * k + 3))).2, u2)) (w2 := wY ay cI cZ n bt.testBit rk wt cl cc sa su sc od kn ke rq rd) (As := [.int (xs (4 * k + 1)), .int (xs (4 * k + 2)), .int (xs (4 * k + 3))]) (rest := [.int (sWeight n bt rk wt cl cc su sa sc od (xs (4 * k + 1)) (xs (4 * k + 2)) (xs (4 * k + 3))).1]) ⟨hx, hb, hml, hown, hts⟩ (c_Y_weight l _ (xs (4 * k + 1)) (xs (4 * k + 2)) (xs (4 * k + 3)) hg hcy) (cwV 3 hts g_L_27 rfl rfl rfl (by decide +kernel) ⟨Nat.le_of_ble_eq_true rfl, Nat.le_of_ble_eq_true rfl⟩) hK hP hD hS hA 0 rfl rfl rfl hl.1 rfl (Nat.le_of_ble_eq_true rfl) d_L_law_251 ⟨Nat.le_of_ble_eq_true rfl, Nat.le_of_ble_eq_true rfl⟩ (fun u => wYt_ad u) (fun v1 H locs hv hP hD hS => ?_)
  obtain ⟨a2, v2⟩ := v1
  have hv1 : a2 = (sWeight n bt rk wt cl cc su sa sc od (xs (4 * k + 1)) (xs (4 * k + 2)) (xs (4 * k + 3))).2 := hv.1
  have hcy1 : ocY (a2, v2) := hv.2
  subst hv1
  refine W.eq (g2 := F0 m 254 ls [.int (sWeight n bt rk wt cl cc su sa sc od (xs (4 * k + 1)) (xs (4 * k + 2)) (xs (4 * k + 3))).1, .int (sWeight n bt rk wt cl cc su sa sc od (xs (4 * k + 1)) (xs (4 * k + 2)) (xs (4 * k + 3))).1]) rfl ?_
  refine lv_icmp_eq (tgt := 545) hx hb d_L_law_254 (by decide) (fun c9 => ?_) (fun c9 => ?_)
  · exact J _ u2 v2 ls _ _ (gd_weight hg) hcx1 hcy1 hl hP hD hS
  · exact absurd rfl c9
set_option maxHeartbeats 4000000 in
set_option maxRecDepth 100000 in
theorem op_clash {p : Program} {l : Launch} {e : Env} {s : State} {m : MethodId} {below : List Frame} {meth : Method} {c : Code} {b L : Nat} {xs : Nat → Int32} (hL : L ≤ 2048) (C0 : lw_At p s m meth c b L xs) {D : va_G} {ax ay : Nat → Nat} {cI cZ : ClassId} {k : Nat} (hk : k < L / 4) {a : stA} {u : stC} {v : stD} (hg : gdA a) (hcx : ocX (a, u)) (hcy : ocY (a, v)) {H : Heap} {locs : List Loc} {ls : Array Slot} (hK : va_K D clX [(cI, .int), (cZ, .boolean)] s) (hl : lv_has ls 4 [(0, .ref b), (1, .ref (ax 0)), (2, .ref (ay 0)), (3, .int (nI (4 * k)))]) (hP : va_P D clX (wXt ax cI cZ (a, u) ++ wYt ay cI cZ (a, v)) H) (hD : va_D (fun q : Nat => s.heap.size ≤ q) (wXt ax cI cZ (a, u) ++ wYt ay cI cZ (a, v))) (hS : va_S (fun q : Nat => s.heap.size ≤ q) s.heap H locs) (J : lwJ p l e s m below meth c b D ax ay cI cZ k) : W p l e room_1 s m #[Value.ref b] below meth c H locs 18 6861 (lw_Z below #[Value.ref b] s) (F0 m 259 ls []) := by
  obtain ⟨hx, hb, hr, hml, hown, hts0, hX, hbl, hlocks, hgv⟩ := C0
  have hts : ∀ w ∈ tbl, w.before #[Value.ref b] s = true := fun w h => hts0 w (List.mem_filter.mp h).1
  have hown : s.vm.findClass RL = some m.cls := hown
  have hA : ∀ q : Nat, s.heap.size ≤ q → (fun q : Nat => s.heap.size ≤ q) q := fun _ h => h
  have hbA : ¬ (fun q : Nat => s.heap.size ≤ q) b := Nat.not_le.mpr hbl
  have hk4 : 4 * k + 3 < L := by omega
  obtain ⟨n, bt, rk, wt, cl, cc, su, sa, sc, od⟩ := a
  obtain ⟨fr, cg, co, rp, rc⟩ := u
  obtain ⟨kn, ke, rq, rd⟩ := v
  refine lv_aload_n hx hb d_L_law_259 rfl (lv_at hl 1 rfl) ?_
  refine lv_aload_n hx hb d_L_law_260 rfl (lv_at hl 0 rfl) ?_
  refine lv_iload_n hx hb d_L_law_261 rfl (lv_at hl 3 rfl) ?_
  refine lv_iconst (v := 1) hx hb d_L_law_262 (by decide) ?_
  refine lv_iadd hx hb d_L_law_263 ?_
  refine rd_top (z := nI (4 * k + 1)) (nI_add (4 * k) 1) ?_
  refine va_sld hx hb hX hbl hbA hS (vp_in_nI (show 4 * k + 1 < L by omega) (by omega)) d_L_law_264 ?_
  refine rd_top (z := xs (4 * k + 1)) (by rw [nI_clamp (by omega)]) ?_
  refine wE_L (w1 := wX ax cI cZ n bt rk wt cl cc su sa sc od fr cg co rp rc) (w2 := wY ay cI cZ n bt.testBit rk wt cl cc sa su sc od kn ke rq rd) (As := [.int (xs (4 * k + 1))]) (rest := []) ⟨hx, hb, hml, hown, hts⟩ (c_X_clash l _ (xs (4 * k + 1)) hg hcx) (cwV 1 hts g_L_28 rfl rfl rfl (by decide +kernel) ⟨Nat.le_of_ble_eq_true rfl, Nat.le_of_ble_eq_true rfl⟩) hK hP hD hS hA 0 rfl rfl rfl hl.1 rfl (Nat.le_of_ble_eq_true rfl) d_L_law_265 ⟨Nat.le_of_ble_eq_true rfl, Nat.le_of_ble_eq_true rfl⟩ (fun u => wXt_ad u) (fun u1 H locs hu hP hD hS => ?_)
  obtain ⟨a1, u2⟩ := u1
  have hu1 : a1 = (sClash n bt rk wt cl cc su sa sc od (xs (4 * k + 1))).2 := hu.1
  have hcx1 : ocX (a1, u2) := hu.2
  subst hu1
  have hP : va_P D clX (wXt ax cI cZ ((sClash n bt rk wt cl cc su sa sc od (xs (4 * k + 1))).2, u2) ++ wY ay cI cZ n bt.testBit rk wt cl cc sa su sc od kn ke rq rd) H := hP
  refine W.eq (g2 := F0 m 268 ls [.int (sClash n bt rk wt cl cc su sa sc od (xs (4 * k + 1))).1]) rfl ?_
  refine lv_aload_n hx hb d_L_law_268 rfl (lv_at hl 2 rfl) ?_
  refine lv_aload_n hx hb d_L_law_269 rfl (lv_at hl 0 rfl) ?_
  refine lv_iload_n hx hb d_L_law_270 rfl (lv_at hl 3 rfl) ?_
  refine lv_iconst (v := 1) hx hb d_L_law_271 (by decide) ?_
  refine lv_iadd hx hb d_L_law_272 ?_
  refine rd_top (z := nI (4 * k + 1)) (nI_add (4 * k) 1) ?_
  refine va_sld hx hb hX hbl hbA hS (vp_in_nI (show 4 * k + 1 < L by omega) (by omega)) d_L_law_273 ?_
  refine rd_top (z := xs (4 * k + 1)) (by rw [nI_clamp (by omega)]) ?_
  refine wE_R (w1 := wXt ax cI cZ ((sClash n bt rk wt cl cc su sa sc od (xs (4 * k + 1))).2, u2)) (w2 := wY ay cI cZ n bt.testBit rk wt cl cc sa su sc od kn ke rq rd) (As := [.int (xs (4 * k + 1))]) (rest := [.int (sClash n bt rk wt cl cc su sa sc od (xs (4 * k + 1))).1]) ⟨hx, hb, hml, hown, hts⟩ (c_Y_clash l _ (xs (4 * k + 1)) hg hcy) (cwV 1 hts g_L_32 rfl rfl rfl (by decide +kernel) ⟨Nat.le_of_ble_eq_true rfl, Nat.le_of_ble_eq_true rfl⟩) hK hP hD hS hA 0 rfl rfl rfl hl.1 rfl (Nat.le_of_ble_eq_true rfl) d_L_law_274 ⟨Nat.le_of_ble_eq_true rfl, Nat.le_of_ble_eq_true rfl⟩ (fun u => wYt_ad u) (fun v1 H locs hv hP hD hS => ?_)
  obtain ⟨a2, v2⟩ := v1
  have hv1 : a2 = (sClash n bt rk wt cl cc su sa sc od (xs (4 * k + 1))).2 := hv.1
  have hcy1 : ocY (a2, v2) := hv.2
  subst hv1
  refine W.eq (g2 := F0 m 277 ls [.int (sClash n bt rk wt cl cc su sa sc od (xs (4 * k + 1))).1, .int (sClash n bt rk wt cl cc su sa sc od (xs (4 * k + 1))).1]) rfl ?_
  refine lv_icmp_eq (tgt := 545) hx hb d_L_law_277 (by decide) (fun c9 => ?_) (fun c9 => ?_)
  · exact J _ u2 v2 ls _ _ (gd_clash hg) hcx1 hcy1 hl hP hD hS
  · exact absurd rfl c9
set_option maxHeartbeats 4000000 in
set_option maxRecDepth 100000 in
theorem op_settle {p : Program} {l : Launch} {e : Env} {s : State} {m : MethodId} {below : List Frame} {meth : Method} {c : Code} {b L : Nat} {xs : Nat → Int32} (hL : L ≤ 2048) (C0 : lw_At p s m meth c b L xs) {D : va_G} {ax ay : Nat → Nat} {cI cZ : ClassId} {k : Nat} (hk : k < L / 4) {a : stA} {u : stC} {v : stD} (hg : gdA a) (hcx : ocX (a, u)) (hcy : ocY (a, v)) {H : Heap} {locs : List Loc} {ls : Array Slot} (hK : va_K D clX [(cI, .int), (cZ, .boolean)] s) (hl : lv_has ls 4 [(0, .ref b), (1, .ref (ax 0)), (2, .ref (ay 0)), (3, .int (nI (4 * k)))]) (hP : va_P D clX (wXt ax cI cZ (a, u) ++ wYt ay cI cZ (a, v)) H) (hD : va_D (fun q : Nat => s.heap.size ≤ q) (wXt ax cI cZ (a, u) ++ wYt ay cI cZ (a, v))) (hS : va_S (fun q : Nat => s.heap.size ≤ q) s.heap H locs) (J : lwJ p l e s m below meth c b D ax ay cI cZ k) : W p l e room_1 s m #[Value.ref b] below meth c H locs 18 6861 (lw_Z below #[Value.ref b] s) (F0 m 282 ls []) := by
  obtain ⟨hx, hb, hr, hml, hown, hts0, hX, hbl, hlocks, hgv⟩ := C0
  have hts : ∀ w ∈ tbl, w.before #[Value.ref b] s = true := fun w h => hts0 w (List.mem_filter.mp h).1
  have hown : s.vm.findClass RL = some m.cls := hown
  have hA : ∀ q : Nat, s.heap.size ≤ q → (fun q : Nat => s.heap.size ≤ q) q := fun _ h => h
  have hbA : ¬ (fun q : Nat => s.heap.size ≤ q) b := Nat.not_le.mpr hbl
  have hk4 : 4 * k + 3 < L := by omega
  obtain ⟨n, bt, rk, wt, cl, cc, su, sa, sc, od⟩ := a
  obtain ⟨fr, cg, co, rp, rc⟩ := u
  obtain ⟨kn, ke, rq, rd⟩ := v
  refine lv_aload_n hx hb d_L_law_282 rfl (lv_at hl 1 rfl) ?_
  refine wE_L (w1 := wX ax cI cZ n bt rk wt cl cc su sa sc od fr cg co rp rc) (w2 := wY ay cI cZ n bt.testBit rk wt cl cc sa su sc od kn ke rq rd) (As := []) (rest := []) ⟨hx, hb, hml, hown, hts⟩ (c_X_settle l _  hg hcx) (cwV 0 hts g_L_33 rfl rfl rfl (by decide +kernel) ⟨Nat.le_of_ble_eq_true rfl, Nat.le_of_ble_eq_true rfl⟩) hK hP hD hS hA 0 rfl rfl rfl hl.1 rfl (Nat.le_of_ble_eq_true rfl) d_L_law_283 ⟨Nat.le_of_ble_eq_true rfl, Nat.le_of_ble_eq_true rfl⟩ (fun u => wXt_ad u) (fun u1 H locs hu hP hD hS => ?_)
  obtain ⟨a1, u2⟩ := u1
  have hu1 : a1 = (sSettle n bt rk wt cl cc su sa sc od ).2 := hu.1
  have hcx1 : ocX (a1, u2) := hu.2
  subst hu1
  have hP : va_P D clX (wXt ax cI cZ ((sSettle n bt rk wt cl cc su sa sc od ).2, u2) ++ wY ay cI cZ n bt.testBit rk wt cl cc sa su sc od kn ke rq rd) H := hP
  refine W.eq (g2 := F0 m 286 ls [.int (sSettle n bt rk wt cl cc su sa sc od ).1]) rfl ?_
  refine lv_aload_n hx hb d_L_law_286 rfl (lv_at hl 2 rfl) ?_
  refine wE_R (w1 := wXt ax cI cZ ((sSettle n bt rk wt cl cc su sa sc od ).2, u2)) (w2 := wY ay cI cZ n bt.testBit rk wt cl cc sa su sc od kn ke rq rd) (As := []) (rest := [.int (sSettle n bt rk wt cl cc su sa sc od ).1]) ⟨hx, hb, hml, hown, hts⟩ (c_Y_settle l _  hg hcy) (cwV 0 hts g_L_37 rfl rfl rfl (by decide +kernel) ⟨Nat.le_of_ble_eq_true rfl, Nat.le_of_ble_eq_true rfl⟩) hK hP hD hS hA 0 rfl rfl rfl hl.1 rfl (Nat.le_of_ble_eq_true rfl) d_L_law_287 ⟨Nat.le_of_ble_eq_true rfl, Nat.le_of_ble_eq_true rfl⟩ (fun u => wYt_ad u) (fun v1 H locs hv hP hD hS => ?_)
  obtain ⟨a2, v2⟩ := v1
  have hv1 : a2 = (sSettle n bt rk wt cl cc su sa sc od ).2 := hv.1
  have hcy1 : ocY (a2, v2) := hv.2
  subst hv1
  refine W.eq (g2 := F0 m 290 ls [.int (sSettle n bt rk wt cl cc su sa sc od ).1, .int (sSettle n bt rk wt cl cc su sa sc od ).1]) rfl ?_
  refine lv_icmp_eq (tgt := 545) hx hb d_L_law_290 (by decide) (fun c9 => ?_) (fun c9 => ?_)
  · exact J _ u2 v2 ls _ _ (gd_settle hg) hcx1 hcy1 hl hP hD hS
  · exact absurd rfl c9
set_option maxHeartbeats 4000000 in
set_option maxRecDepth 100000 in
theorem op_support {p : Program} {l : Launch} {e : Env} {s : State} {m : MethodId} {below : List Frame} {meth : Method} {c : Code} {b L : Nat} {xs : Nat → Int32} (hL : L ≤ 2048) (C0 : lw_At p s m meth c b L xs) {D : va_G} {ax ay : Nat → Nat} {cI cZ : ClassId} {k : Nat} (hk : k < L / 4) {a : stA} {u : stC} {v : stD} (hg : gdA a) (hcx : ocX (a, u)) (hcy : ocY (a, v)) {H : Heap} {locs : List Loc} {ls : Array Slot} (hK : va_K D clX [(cI, .int), (cZ, .boolean)] s) (hl : lv_has ls 4 [(0, .ref b), (1, .ref (ax 0)), (2, .ref (ay 0)), (3, .int (nI (4 * k)))]) (hP : va_P D clX (wXt ax cI cZ (a, u) ++ wYt ay cI cZ (a, v)) H) (hD : va_D (fun q : Nat => s.heap.size ≤ q) (wXt ax cI cZ (a, u) ++ wYt ay cI cZ (a, v))) (hS : va_S (fun q : Nat => s.heap.size ≤ q) s.heap H locs) (J : lwJ p l e s m below meth c b D ax ay cI cZ k) : W p l e room_1 s m #[Value.ref b] below meth c H locs 18 6861 (lw_Z below #[Value.ref b] s) (F0 m 295 ls []) := by
  obtain ⟨hx, hb, hr, hml, hown, hts0, hX, hbl, hlocks, hgv⟩ := C0
  have hts : ∀ w ∈ tbl, w.before #[Value.ref b] s = true := fun w h => hts0 w (List.mem_filter.mp h).1
  have hown : s.vm.findClass RL = some m.cls := hown
  have hA : ∀ q : Nat, s.heap.size ≤ q → (fun q : Nat => s.heap.size ≤ q) q := fun _ h => h
  have hbA : ¬ (fun q : Nat => s.heap.size ≤ q) b := Nat.not_le.mpr hbl
  have hk4 : 4 * k + 3 < L := by omega
  obtain ⟨n, bt, rk, wt, cl, cc, su, sa, sc, od⟩ := a
  obtain ⟨fr, cg, co, rp, rc⟩ := u
  obtain ⟨kn, ke, rq, rd⟩ := v
  refine lv_aload_n hx hb d_L_law_295 rfl (lv_at hl 1 rfl) ?_
  refine lv_aload_n hx hb d_L_law_296 rfl (lv_at hl 0 rfl) ?_
  refine lv_iload_n hx hb d_L_law_297 rfl (lv_at hl 3 rfl) ?_
  refine lv_iconst (v := 1) hx hb d_L_law_298 (by decide) ?_
  refine lv_iadd hx hb d_L_law_299 ?_
  refine rd_top (z := nI (4 * k + 1)) (nI_add (4 * k) 1) ?_
  refine va_sld hx hb hX hbl hbA hS (vp_in_nI (show 4 * k + 1 < L by omega) (by omega)) d_L_law_300 ?_
  refine rd_top (z := xs (4 * k + 1)) (by rw [nI_clamp (by omega)]) ?_
  refine lv_aload_n hx hb d_L_law_301 rfl (lv_at hl 0 rfl) ?_
  refine lv_iload_n hx hb d_L_law_302 rfl (lv_at hl 3 rfl) ?_
  refine lv_iconst (v := 2) hx hb d_L_law_303 (by decide) ?_
  refine lv_iadd hx hb d_L_law_304 ?_
  refine rd_top (z := nI (4 * k + 2)) (nI_add (4 * k) 2) ?_
  refine va_sld hx hb hX hbl hbA hS (vp_in_nI (show 4 * k + 2 < L by omega) (by omega)) d_L_law_305 ?_
  refine rd_top (z := xs (4 * k + 2)) (by rw [nI_clamp (by omega)]) ?_
  refine wE_L (w1 := wX ax cI cZ n bt rk wt cl cc su sa sc od fr cg co rp rc) (w2 := wY ay cI cZ n bt.testBit rk wt cl cc sa su sc od kn ke rq rd) (As := [.int (xs (4 * k + 1)), .int (xs (4 * k + 2))]) (rest := []) ⟨hx, hb, hml, hown, hts⟩ (c_X_support l _ (xs (4 * k + 1)) (xs (4 * k + 2)) hg hcx) (cwV 2 hts g_L_38 rfl rfl rfl (by decide +kernel) ⟨Nat.le_of_ble_eq_true rfl, Nat.le_of_ble_eq_true rfl⟩) hK hP hD hS hA 0 rfl rfl rfl hl.1 rfl (Nat.le_of_ble_eq_true rfl) d_L_law_306 ⟨Nat.le_of_ble_eq_true rfl, Nat.le_of_ble_eq_true rfl⟩ (fun u => wXt_ad u) (fun u1 H locs hu hP hD hS => ?_)
  obtain ⟨a1, u2⟩ := u1
  have hu1 : a1 = (sSupport n bt rk wt cl cc su sa sc od (xs (4 * k + 1)) (xs (4 * k + 2))).2 := hu.1
  have hcx1 : ocX (a1, u2) := hu.2
  subst hu1
  have hP : va_P D clX (wXt ax cI cZ ((sSupport n bt rk wt cl cc su sa sc od (xs (4 * k + 1)) (xs (4 * k + 2))).2, u2) ++ wY ay cI cZ n bt.testBit rk wt cl cc sa su sc od kn ke rq rd) H := hP
  refine W.eq (g2 := F0 m 309 ls [.int (sSupport n bt rk wt cl cc su sa sc od (xs (4 * k + 1)) (xs (4 * k + 2))).1]) rfl ?_
  refine lv_aload_n hx hb d_L_law_309 rfl (lv_at hl 2 rfl) ?_
  refine lv_aload_n hx hb d_L_law_310 rfl (lv_at hl 0 rfl) ?_
  refine lv_iload_n hx hb d_L_law_311 rfl (lv_at hl 3 rfl) ?_
  refine lv_iconst (v := 1) hx hb d_L_law_312 (by decide) ?_
  refine lv_iadd hx hb d_L_law_313 ?_
  refine rd_top (z := nI (4 * k + 1)) (nI_add (4 * k) 1) ?_
  refine va_sld hx hb hX hbl hbA hS (vp_in_nI (show 4 * k + 1 < L by omega) (by omega)) d_L_law_314 ?_
  refine rd_top (z := xs (4 * k + 1)) (by rw [nI_clamp (by omega)]) ?_
  refine lv_aload_n hx hb d_L_law_315 rfl (lv_at hl 0 rfl) ?_
  refine lv_iload_n hx hb d_L_law_316 rfl (lv_at hl 3 rfl) ?_
  refine lv_iconst (v := 2) hx hb d_L_law_317 (by decide) ?_
  refine lv_iadd hx hb d_L_law_318 ?_
  refine rd_top (z := nI (4 * k + 2)) (nI_add (4 * k) 2) ?_
  refine va_sld hx hb hX hbl hbA hS (vp_in_nI (show 4 * k + 2 < L by omega) (by omega)) d_L_law_319 ?_
  refine rd_top (z := xs (4 * k + 2)) (by rw [nI_clamp (by omega)]) ?_
  refine wE_R (w1 := wXt ax cI cZ ((sSupport n bt rk wt cl cc su sa sc od (xs (4 * k + 1)) (xs (4 * k + 2))).2, u2)) (w2 := wY ay cI cZ n bt.testBit rk wt cl cc sa su sc od kn ke rq rd) (As := [.int (xs (4 * k + 1)), .int (xs (4 * k + 2))]) (rest := [.int (sSupport n bt rk wt cl cc su sa sc od (xs (4 * k + 1)) (xs (4 * k + 2))).1]) ⟨hx, hb, hml, hown, hts⟩ (c_Y_support l _ (xs (4 * k + 1)) (xs (4 * k + 2)) hg hcy) (cwV 2 hts g_L_42 rfl rfl rfl (by decide +kernel) ⟨Nat.le_of_ble_eq_true rfl, Nat.le_of_ble_eq_true rfl⟩) hK hP hD hS hA 0 rfl rfl rfl hl.1 rfl (Nat.le_of_ble_eq_true rfl) d_L_law_320 ⟨Nat.le_of_ble_eq_true rfl, Nat.le_of_ble_eq_true rfl⟩ (fun u => wYt_ad u) (fun v1 H locs hv hP hD hS => ?_)
  obtain ⟨a2, v2⟩ := v1
  have hv1 : a2 = (sSupport n bt rk wt cl cc su sa sc od (xs (4 * k + 1)) (xs (4 * k + 2))).2 := hv.1
  have hcy1 : ocY (a2, v2) := hv.2
  subst hv1
  refine W.eq (g2 := F0 m 323 ls [.int (sSupport n bt rk wt cl cc su sa sc od (xs (4 * k + 1)) (xs (4 * k + 2))).1, .int (sSupport n bt rk wt cl cc su sa sc od (xs (4 * k + 1)) (xs (4 * k + 2))).1]) rfl ?_
  refine lv_icmp_eq (tgt := 545) hx hb d_L_law_323 (by decide) (fun c9 => ?_) (fun c9 => ?_)
  · exact J _ u2 v2 ls _ _ (gd_support hg) hcx1 hcy1 hl hP hD hS
  · exact absurd rfl c9
set_option maxHeartbeats 4000000 in
set_option maxRecDepth 100000 in
theorem op_order {p : Program} {l : Launch} {e : Env} {s : State} {m : MethodId} {below : List Frame} {meth : Method} {c : Code} {b L : Nat} {xs : Nat → Int32} (hL : L ≤ 2048) (C0 : lw_At p s m meth c b L xs) {D : va_G} {ax ay : Nat → Nat} {cI cZ : ClassId} {k : Nat} (hk : k < L / 4) {a : stA} {u : stC} {v : stD} (hg : gdA a) (hcx : ocX (a, u)) (hcy : ocY (a, v)) {H : Heap} {locs : List Loc} {ls : Array Slot} (hK : va_K D clX [(cI, .int), (cZ, .boolean)] s) (hl : lv_has ls 4 [(0, .ref b), (1, .ref (ax 0)), (2, .ref (ay 0)), (3, .int (nI (4 * k)))]) (hP : va_P D clX (wXt ax cI cZ (a, u) ++ wYt ay cI cZ (a, v)) H) (hD : va_D (fun q : Nat => s.heap.size ≤ q) (wXt ax cI cZ (a, u) ++ wYt ay cI cZ (a, v))) (hS : va_S (fun q : Nat => s.heap.size ≤ q) s.heap H locs) (J : lwJ p l e s m below meth c b D ax ay cI cZ k) : W p l e room_1 s m #[Value.ref b] below meth c H locs 18 6861 (lw_Z below #[Value.ref b] s) (F0 m 328 ls []) := by
  obtain ⟨hx, hb, hr, hml, hown, hts0, hX, hbl, hlocks, hgv⟩ := C0
  have hts : ∀ w ∈ tbl, w.before #[Value.ref b] s = true := fun w h => hts0 w (List.mem_filter.mp h).1
  have hown : s.vm.findClass RL = some m.cls := hown
  have hA : ∀ q : Nat, s.heap.size ≤ q → (fun q : Nat => s.heap.size ≤ q) q := fun _ h => h
  have hbA : ¬ (fun q : Nat => s.heap.size ≤ q) b := Nat.not_le.mpr hbl
  have hk4 : 4 * k + 3 < L := by omega
  obtain ⟨n, bt, rk, wt, cl, cc, su, sa, sc, od⟩ := a
  obtain ⟨fr, cg, co, rp, rc⟩ := u
  obtain ⟨kn, ke, rq, rd⟩ := v
  refine lv_aload_n hx hb d_L_law_328 rfl (lv_at hl 1 rfl) ?_
  refine lv_aload_n hx hb d_L_law_329 rfl (lv_at hl 0 rfl) ?_
  refine lv_iload_n hx hb d_L_law_330 rfl (lv_at hl 3 rfl) ?_
  refine lv_iconst (v := 1) hx hb d_L_law_331 (by decide) ?_
  refine lv_iadd hx hb d_L_law_332 ?_
  refine rd_top (z := nI (4 * k + 1)) (nI_add (4 * k) 1) ?_
  refine va_sld hx hb hX hbl hbA hS (vp_in_nI (show 4 * k + 1 < L by omega) (by omega)) d_L_law_333 ?_
  refine rd_top (z := xs (4 * k + 1)) (by rw [nI_clamp (by omega)]) ?_
  refine wE_L (w1 := wX ax cI cZ n bt rk wt cl cc su sa sc od fr cg co rp rc) (w2 := wY ay cI cZ n bt.testBit rk wt cl cc sa su sc od kn ke rq rd) (As := [.int (xs (4 * k + 1))]) (rest := []) ⟨hx, hb, hml, hown, hts⟩ (c_X_order l _ (xs (4 * k + 1)) hg hcx) (cwV 1 hts g_L_43 rfl rfl rfl (by decide +kernel) ⟨Nat.le_of_ble_eq_true rfl, Nat.le_of_ble_eq_true rfl⟩) hK hP hD hS hA 0 rfl rfl rfl hl.1 rfl (Nat.le_of_ble_eq_true rfl) d_L_law_334 ⟨Nat.le_of_ble_eq_true rfl, Nat.le_of_ble_eq_true rfl⟩ (fun u => wXt_ad u) (fun u1 H locs hu hP hD hS => ?_)
  obtain ⟨a1, u2⟩ := u1
  have hu1 : a1 = (sOrder n bt rk wt cl cc su sa sc od (xs (4 * k + 1))).2 := hu.1
  have hcx1 : ocX (a1, u2) := hu.2
  subst hu1
  have hP : va_P D clX (wXt ax cI cZ ((sOrder n bt rk wt cl cc su sa sc od (xs (4 * k + 1))).2, u2) ++ wY ay cI cZ n bt.testBit rk wt cl cc sa su sc od kn ke rq rd) H := hP
  refine W.eq (g2 := F0 m 337 ls [.int (sOrder n bt rk wt cl cc su sa sc od (xs (4 * k + 1))).1]) rfl ?_
  refine lv_aload_n hx hb d_L_law_337 rfl (lv_at hl 2 rfl) ?_
  refine lv_aload_n hx hb d_L_law_338 rfl (lv_at hl 0 rfl) ?_
  refine lv_iload_n hx hb d_L_law_339 rfl (lv_at hl 3 rfl) ?_
  refine lv_iconst (v := 1) hx hb d_L_law_340 (by decide) ?_
  refine lv_iadd hx hb d_L_law_341 ?_
  refine rd_top (z := nI (4 * k + 1)) (nI_add (4 * k) 1) ?_
  refine va_sld hx hb hX hbl hbA hS (vp_in_nI (show 4 * k + 1 < L by omega) (by omega)) d_L_law_342 ?_
  refine rd_top (z := xs (4 * k + 1)) (by rw [nI_clamp (by omega)]) ?_
  refine wE_R (w1 := wXt ax cI cZ ((sOrder n bt rk wt cl cc su sa sc od (xs (4 * k + 1))).2, u2)) (w2 := wY ay cI cZ n bt.testBit rk wt cl cc sa su sc od kn ke rq rd) (As := [.int (xs (4 * k + 1))]) (rest := [.int (sOrder n bt rk wt cl cc su sa sc od (xs (4 * k + 1))).1]) ⟨hx, hb, hml, hown, hts⟩ (c_Y_order l _ (xs (4 * k + 1)) hg hcy) (cwV 1 hts g_L_46 rfl rfl rfl (by decide +kernel) ⟨Nat.le_of_ble_eq_true rfl, Nat.le_of_ble_eq_true rfl⟩) hK hP hD hS hA 0 rfl rfl rfl hl.1 rfl (Nat.le_of_ble_eq_true rfl) d_L_law_343 ⟨Nat.le_of_ble_eq_true rfl, Nat.le_of_ble_eq_true rfl⟩ (fun u => wYt_ad u) (fun v1 H locs hv hP hD hS => ?_)
  obtain ⟨a2, v2⟩ := v1
  have hv1 : a2 = (sOrder n bt rk wt cl cc su sa sc od (xs (4 * k + 1))).2 := hv.1
  have hcy1 : ocY (a2, v2) := hv.2
  subst hv1
  refine W.eq (g2 := F0 m 346 ls [.int (sOrder n bt rk wt cl cc su sa sc od (xs (4 * k + 1))).1, .int (sOrder n bt rk wt cl cc su sa sc od (xs (4 * k + 1))).1]) rfl ?_
  refine lv_icmp_eq (tgt := 545) hx hb d_L_law_346 (by decide) (fun c9 => ?_) (fun c9 => ?_)
  · exact J _ u2 v2 ls _ _ (gd_order hg) hcx1 hcy1 hl hP hD hS
  · exact absurd rfl c9
set_option maxHeartbeats 4000000 in
set_option maxRecDepth 100000 in
theorem op_find {p : Program} {l : Launch} {e : Env} {s : State} {m : MethodId} {below : List Frame} {meth : Method} {c : Code} {b L : Nat} {xs : Nat → Int32} (hL : L ≤ 2048) (C0 : lw_At p s m meth c b L xs) {D : va_G} {ax ay : Nat → Nat} {cI cZ : ClassId} {k : Nat} (hk : k < L / 4) {a : stA} {u : stC} {v : stD} (hg : gdA a) (hcx : ocX (a, u)) (hcy : ocY (a, v)) {H : Heap} {locs : List Loc} {ls : Array Slot} (hK : va_K D clX [(cI, .int), (cZ, .boolean)] s) (hl : lv_has ls 4 [(0, .ref b), (1, .ref (ax 0)), (2, .ref (ay 0)), (3, .int (nI (4 * k)))]) (hP : va_P D clX (wXt ax cI cZ (a, u) ++ wYt ay cI cZ (a, v)) H) (hD : va_D (fun q : Nat => s.heap.size ≤ q) (wXt ax cI cZ (a, u) ++ wYt ay cI cZ (a, v))) (hS : va_S (fun q : Nat => s.heap.size ≤ q) s.heap H locs) (J : lwJ p l e s m below meth c b D ax ay cI cZ k) : W p l e room_1 s m #[Value.ref b] below meth c H locs 18 6861 (lw_Z below #[Value.ref b] s) (F0 m 351 ls []) := by
  obtain ⟨hx, hb, hr, hml, hown, hts0, hX, hbl, hlocks, hgv⟩ := C0
  have hts : ∀ w ∈ tbl, w.before #[Value.ref b] s = true := fun w h => hts0 w (List.mem_filter.mp h).1
  have hown : s.vm.findClass RL = some m.cls := hown
  have hA : ∀ q : Nat, s.heap.size ≤ q → (fun q : Nat => s.heap.size ≤ q) q := fun _ h => h
  have hbA : ¬ (fun q : Nat => s.heap.size ≤ q) b := Nat.not_le.mpr hbl
  have hk4 : 4 * k + 3 < L := by omega
  obtain ⟨n, bt, rk, wt, cl, cc, su, sa, sc, od⟩ := a
  obtain ⟨fr, cg, co, rp, rc⟩ := u
  obtain ⟨kn, ke, rq, rd⟩ := v
  refine lv_aload_n hx hb d_L_law_351 rfl (lv_at hl 1 rfl) ?_
  refine wE_L (w1 := wX ax cI cZ n bt rk wt cl cc su sa sc od fr cg co rp rc) (w2 := wY ay cI cZ n bt.testBit rk wt cl cc sa su sc od kn ke rq rd) (As := []) (rest := []) ⟨hx, hb, hml, hown, hts⟩ (c_X_find l _  hg hcx) (cwV 0 hts g_L_47 rfl rfl rfl (by decide +kernel) ⟨Nat.le_of_ble_eq_true rfl, Nat.le_of_ble_eq_true rfl⟩) hK hP hD hS hA 0 rfl rfl rfl hl.1 rfl (Nat.le_of_ble_eq_true rfl) d_L_law_352 ⟨Nat.le_of_ble_eq_true rfl, Nat.le_of_ble_eq_true rfl⟩ (fun u => wXt_ad u) (fun u1 H locs hu hP hD hS => ?_)
  obtain ⟨a1, u2⟩ := u1
  have hu1 : a1 = (n, bt, rk, wt, cl, cc, su, sa, sc, od) := hu.1
  have hcx1 : ocX (a1, u2) := hu.2
  subst hu1
  have hP : va_P D clX (wXt ax cI cZ ((n, bt, rk, wt, cl, cc, su, sa, sc, od), u2) ++ wY ay cI cZ n bt.testBit rk wt cl cc sa su sc od kn ke rq rd) H := hP
  refine W.eq (g2 := F0 m 355 ls [.int (nI (reps n bt rk wt cl cc od).length)]) rfl ?_
  refine lv_aload_n hx hb d_L_law_355 rfl (lv_at hl 2 rfl) ?_
  refine wE_R (w1 := wXt ax cI cZ ((n, bt, rk, wt, cl, cc, su, sa, sc, od), u2)) (w2 := wY ay cI cZ n bt.testBit rk wt cl cc sa su sc od kn ke rq rd) (As := []) (rest := [.int (nI (reps n bt rk wt cl cc od).length)]) ⟨hx, hb, hml, hown, hts⟩ (c_Y_find l _  hg hcy) (cwV 0 hts g_L_50 rfl rfl rfl (by decide +kernel) ⟨Nat.le_of_ble_eq_true rfl, Nat.le_of_ble_eq_true rfl⟩) hK hP hD hS hA 0 rfl rfl rfl hl.1 rfl (Nat.le_of_ble_eq_true rfl) d_L_law_356 ⟨Nat.le_of_ble_eq_true rfl, Nat.le_of_ble_eq_true rfl⟩ (fun u => wYt_ad u) (fun v1 H locs hv hP hD hS => ?_)
  obtain ⟨a2, v2⟩ := v1
  have hv1 : a2 = (n, bt, rk, wt, cl, cc, su, sa, sc, od) := hv.1
  have hcy1 : ocY (a2, v2) := hv.2
  subst hv1
  refine W.eq (g2 := F0 m 359 ls [.int (nI (reps n bt rk wt cl cc od).length), .int (nI (reps n bt rk wt cl cc od).length)]) rfl ?_
  refine lv_icmp_eq (tgt := 545) hx hb d_L_law_359 (by decide) (fun c9 => ?_) (fun c9 => ?_)
  · exact J _ u2 v2 ls _ _ hg hcx1 hcy1 hl hP hD hS
  · exact absurd rfl c9
set_option maxHeartbeats 4000000 in
set_option maxRecDepth 100000 in
theorem op_kept {p : Program} {l : Launch} {e : Env} {s : State} {m : MethodId} {below : List Frame} {meth : Method} {c : Code} {b L : Nat} {xs : Nat → Int32} (hL : L ≤ 2048) (C0 : lw_At p s m meth c b L xs) {D : va_G} {ax ay : Nat → Nat} {cI cZ : ClassId} {k : Nat} (hk : k < L / 4) {a : stA} {u : stC} {v : stD} (hg : gdA a) (hcx : ocX (a, u)) (hcy : ocY (a, v)) {H : Heap} {locs : List Loc} {ls : Array Slot} (hK : va_K D clX [(cI, .int), (cZ, .boolean)] s) (hl : lv_has ls 4 [(0, .ref b), (1, .ref (ax 0)), (2, .ref (ay 0)), (3, .int (nI (4 * k)))]) (hP : va_P D clX (wXt ax cI cZ (a, u) ++ wYt ay cI cZ (a, v)) H) (hD : va_D (fun q : Nat => s.heap.size ≤ q) (wXt ax cI cZ (a, u) ++ wYt ay cI cZ (a, v))) (hS : va_S (fun q : Nat => s.heap.size ≤ q) s.heap H locs) (J : lwJ p l e s m below meth c b D ax ay cI cZ k) : W p l e room_1 s m #[Value.ref b] below meth c H locs 18 6861 (lw_Z below #[Value.ref b] s) (F0 m 364 ls []) := by
  obtain ⟨hx, hb, hr, hml, hown, hts0, hX, hbl, hlocks, hgv⟩ := C0
  have hts : ∀ w ∈ tbl, w.before #[Value.ref b] s = true := fun w h => hts0 w (List.mem_filter.mp h).1
  have hown : s.vm.findClass RL = some m.cls := hown
  have hA : ∀ q : Nat, s.heap.size ≤ q → (fun q : Nat => s.heap.size ≤ q) q := fun _ h => h
  have hbA : ¬ (fun q : Nat => s.heap.size ≤ q) b := Nat.not_le.mpr hbl
  have hk4 : 4 * k + 3 < L := by omega
  obtain ⟨n, bt, rk, wt, cl, cc, su, sa, sc, od⟩ := a
  obtain ⟨fr, cg, co, rp, rc⟩ := u
  obtain ⟨kn, ke, rq, rd⟩ := v
  refine lv_aload_n hx hb d_L_law_364 rfl (lv_at hl 1 rfl) ?_
  refine lv_aload_n hx hb d_L_law_365 rfl (lv_at hl 0 rfl) ?_
  refine lv_iload_n hx hb d_L_law_366 rfl (lv_at hl 3 rfl) ?_
  refine lv_iconst (v := 1) hx hb d_L_law_367 (by decide) ?_
  refine lv_iadd hx hb d_L_law_368 ?_
  refine rd_top (z := nI (4 * k + 1)) (nI_add (4 * k) 1) ?_
  refine va_sld hx hb hX hbl hbA hS (vp_in_nI (show 4 * k + 1 < L by omega) (by omega)) d_L_law_369 ?_
  refine rd_top (z := xs (4 * k + 1)) (by rw [nI_clamp (by omega)]) ?_
  refine wE_L (w1 := wX ax cI cZ n bt rk wt cl cc su sa sc od fr cg co rp rc) (w2 := wY ay cI cZ n bt.testBit rk wt cl cc sa su sc od kn ke rq rd) (As := [.int (xs (4 * k + 1))]) (rest := []) ⟨hx, hb, hml, hown, hts⟩ (c_X_kept l _ (xs (4 * k + 1)) hg hcx) (cwV 1 hts g_L_51 rfl rfl rfl (by decide +kernel) ⟨Nat.le_of_ble_eq_true rfl, Nat.le_of_ble_eq_true rfl⟩) hK hP hD hS hA 0 rfl rfl rfl hl.1 rfl (Nat.le_of_ble_eq_true rfl) d_L_law_370 ⟨Nat.le_of_ble_eq_true rfl, Nat.le_of_ble_eq_true rfl⟩ (fun u => wXt_ad u) (fun u1 H locs hu hP hD hS => ?_)
  obtain ⟨a1, u2⟩ := u1
  have hu1 : a1 = (n, bt, rk, wt, cl, cc, su, sa, sc, od) := hu.1
  have hcx1 : ocX (a1, u2) := hu.2
  subst hu1
  have hP : va_P D clX (wXt ax cI cZ ((n, bt, rk, wt, cl, cc, su, sa, sc, od), u2) ++ wY ay cI cZ n bt.testBit rk wt cl cc sa su sc od kn ke rq rd) H := hP
  refine W.eq (g2 := F0 m 373 ls [.int (rKept (reps n bt rk wt cl cc od) (xs (4 * k + 1)))]) rfl ?_
  refine lv_aload_n hx hb d_L_law_373 rfl (lv_at hl 2 rfl) ?_
  refine lv_aload_n hx hb d_L_law_374 rfl (lv_at hl 0 rfl) ?_
  refine lv_iload_n hx hb d_L_law_375 rfl (lv_at hl 3 rfl) ?_
  refine lv_iconst (v := 1) hx hb d_L_law_376 (by decide) ?_
  refine lv_iadd hx hb d_L_law_377 ?_
  refine rd_top (z := nI (4 * k + 1)) (nI_add (4 * k) 1) ?_
  refine va_sld hx hb hX hbl hbA hS (vp_in_nI (show 4 * k + 1 < L by omega) (by omega)) d_L_law_378 ?_
  refine rd_top (z := xs (4 * k + 1)) (by rw [nI_clamp (by omega)]) ?_
  refine wE_R (w1 := wXt ax cI cZ ((n, bt, rk, wt, cl, cc, su, sa, sc, od), u2)) (w2 := wY ay cI cZ n bt.testBit rk wt cl cc sa su sc od kn ke rq rd) (As := [.int (xs (4 * k + 1))]) (rest := [.int (rKept (reps n bt rk wt cl cc od) (xs (4 * k + 1)))]) ⟨hx, hb, hml, hown, hts⟩ (c_Y_kept l _ (xs (4 * k + 1)) hg hcy) (cwV 1 hts g_L_54 rfl rfl rfl (by decide +kernel) ⟨Nat.le_of_ble_eq_true rfl, Nat.le_of_ble_eq_true rfl⟩) hK hP hD hS hA 0 rfl rfl rfl hl.1 rfl (Nat.le_of_ble_eq_true rfl) d_L_law_379 ⟨Nat.le_of_ble_eq_true rfl, Nat.le_of_ble_eq_true rfl⟩ (fun u => wYt_ad u) (fun v1 H locs hv hP hD hS => ?_)
  obtain ⟨a2, v2⟩ := v1
  have hv1 : a2 = (n, bt, rk, wt, cl, cc, su, sa, sc, od) := hv.1
  have hcy1 : ocY (a2, v2) := hv.2
  subst hv1
  refine W.eq (g2 := F0 m 382 ls [.int (rKept (reps n bt rk wt cl cc od) (xs (4 * k + 1))), .int (rKept (reps n bt rk wt cl cc od) (xs (4 * k + 1)))]) rfl ?_
  refine lv_icmp_eq (tgt := 545) hx hb d_L_law_382 (by decide) (fun c9 => ?_) (fun c9 => ?_)
  · exact J _ u2 v2 ls _ _ hg hcx1 hcy1 hl hP hD hS
  · exact absurd rfl c9
set_option maxHeartbeats 4000000 in
set_option maxRecDepth 100000 in
theorem op_left {p : Program} {l : Launch} {e : Env} {s : State} {m : MethodId} {below : List Frame} {meth : Method} {c : Code} {b L : Nat} {xs : Nat → Int32} (hL : L ≤ 2048) (C0 : lw_At p s m meth c b L xs) {D : va_G} {ax ay : Nat → Nat} {cI cZ : ClassId} {k : Nat} (hk : k < L / 4) {a : stA} {u : stC} {v : stD} (hg : gdA a) (hcx : ocX (a, u)) (hcy : ocY (a, v)) {H : Heap} {locs : List Loc} {ls : Array Slot} (hK : va_K D clX [(cI, .int), (cZ, .boolean)] s) (hl : lv_has ls 4 [(0, .ref b), (1, .ref (ax 0)), (2, .ref (ay 0)), (3, .int (nI (4 * k)))]) (hP : va_P D clX (wXt ax cI cZ (a, u) ++ wYt ay cI cZ (a, v)) H) (hD : va_D (fun q : Nat => s.heap.size ≤ q) (wXt ax cI cZ (a, u) ++ wYt ay cI cZ (a, v))) (hS : va_S (fun q : Nat => s.heap.size ≤ q) s.heap H locs) (J : lwJ p l e s m below meth c b D ax ay cI cZ k) : W p l e room_1 s m #[Value.ref b] below meth c H locs 18 6861 (lw_Z below #[Value.ref b] s) (F0 m 387 ls []) := by
  obtain ⟨hx, hb, hr, hml, hown, hts0, hX, hbl, hlocks, hgv⟩ := C0
  have hts : ∀ w ∈ tbl, w.before #[Value.ref b] s = true := fun w h => hts0 w (List.mem_filter.mp h).1
  have hown : s.vm.findClass RL = some m.cls := hown
  have hA : ∀ q : Nat, s.heap.size ≤ q → (fun q : Nat => s.heap.size ≤ q) q := fun _ h => h
  have hbA : ¬ (fun q : Nat => s.heap.size ≤ q) b := Nat.not_le.mpr hbl
  have hk4 : 4 * k + 3 < L := by omega
  obtain ⟨n, bt, rk, wt, cl, cc, su, sa, sc, od⟩ := a
  obtain ⟨fr, cg, co, rp, rc⟩ := u
  obtain ⟨kn, ke, rq, rd⟩ := v
  refine lv_aload_n hx hb d_L_law_387 rfl (lv_at hl 1 rfl) ?_
  refine lv_aload_n hx hb d_L_law_388 rfl (lv_at hl 0 rfl) ?_
  refine lv_iload_n hx hb d_L_law_389 rfl (lv_at hl 3 rfl) ?_
  refine lv_iconst (v := 1) hx hb d_L_law_390 (by decide) ?_
  refine lv_iadd hx hb d_L_law_391 ?_
  refine rd_top (z := nI (4 * k + 1)) (nI_add (4 * k) 1) ?_
  refine va_sld hx hb hX hbl hbA hS (vp_in_nI (show 4 * k + 1 < L by omega) (by omega)) d_L_law_392 ?_
  refine rd_top (z := xs (4 * k + 1)) (by rw [nI_clamp (by omega)]) ?_
  refine lv_aload_n hx hb d_L_law_393 rfl (lv_at hl 0 rfl) ?_
  refine lv_iload_n hx hb d_L_law_394 rfl (lv_at hl 3 rfl) ?_
  refine lv_iconst (v := 2) hx hb d_L_law_395 (by decide) ?_
  refine lv_iadd hx hb d_L_law_396 ?_
  refine rd_top (z := nI (4 * k + 2)) (nI_add (4 * k) 2) ?_
  refine va_sld hx hb hX hbl hbA hS (vp_in_nI (show 4 * k + 2 < L by omega) (by omega)) d_L_law_397 ?_
  refine rd_top (z := xs (4 * k + 2)) (by rw [nI_clamp (by omega)]) ?_
  refine wE_L (w1 := wX ax cI cZ n bt rk wt cl cc su sa sc od fr cg co rp rc) (w2 := wY ay cI cZ n bt.testBit rk wt cl cc sa su sc od kn ke rq rd) (As := [.int (xs (4 * k + 1)), .int (xs (4 * k + 2))]) (rest := []) ⟨hx, hb, hml, hown, hts⟩ (c_X_left l _ (xs (4 * k + 1)) (xs (4 * k + 2)) hg hcx) (cwV 2 hts g_L_55 rfl rfl rfl (by decide +kernel) ⟨Nat.le_of_ble_eq_true rfl, Nat.le_of_ble_eq_true rfl⟩) hK hP hD hS hA 0 rfl rfl rfl hl.1 rfl (Nat.le_of_ble_eq_true rfl) d_L_law_398 ⟨Nat.le_of_ble_eq_true rfl, Nat.le_of_ble_eq_true rfl⟩ (fun u => wXt_ad u) (fun u1 H locs hu hP hD hS => ?_)
  obtain ⟨a1, u2⟩ := u1
  have hu1 : a1 = (n, bt, rk, wt, cl, cc, su, sa, sc, od) := hu.1
  have hcx1 : ocX (a1, u2) := hu.2
  subst hu1
  have hP : va_P D clX (wXt ax cI cZ ((n, bt, rk, wt, cl, cc, su, sa, sc, od), u2) ++ wY ay cI cZ n bt.testBit rk wt cl cc sa su sc od kn ke rq rd) H := hP
  refine W.eq (g2 := F0 m 401 ls [.int (rLeft n (reps n bt rk wt cl cc od) (xs (4 * k + 1)) (xs (4 * k + 2)))]) rfl ?_
  refine lv_aload_n hx hb d_L_law_401 rfl (lv_at hl 2 rfl) ?_
  refine lv_aload_n hx hb d_L_law_402 rfl (lv_at hl 0 rfl) ?_
  refine lv_iload_n hx hb d_L_law_403 rfl (lv_at hl 3 rfl) ?_
  refine lv_iconst (v := 1) hx hb d_L_law_404 (by decide) ?_
  refine lv_iadd hx hb d_L_law_405 ?_
  refine rd_top (z := nI (4 * k + 1)) (nI_add (4 * k) 1) ?_
  refine va_sld hx hb hX hbl hbA hS (vp_in_nI (show 4 * k + 1 < L by omega) (by omega)) d_L_law_406 ?_
  refine rd_top (z := xs (4 * k + 1)) (by rw [nI_clamp (by omega)]) ?_
  refine lv_aload_n hx hb d_L_law_407 rfl (lv_at hl 0 rfl) ?_
  refine lv_iload_n hx hb d_L_law_408 rfl (lv_at hl 3 rfl) ?_
  refine lv_iconst (v := 2) hx hb d_L_law_409 (by decide) ?_
  refine lv_iadd hx hb d_L_law_410 ?_
  refine rd_top (z := nI (4 * k + 2)) (nI_add (4 * k) 2) ?_
  refine va_sld hx hb hX hbl hbA hS (vp_in_nI (show 4 * k + 2 < L by omega) (by omega)) d_L_law_411 ?_
  refine rd_top (z := xs (4 * k + 2)) (by rw [nI_clamp (by omega)]) ?_
  refine wE_R (w1 := wXt ax cI cZ ((n, bt, rk, wt, cl, cc, su, sa, sc, od), u2)) (w2 := wY ay cI cZ n bt.testBit rk wt cl cc sa su sc od kn ke rq rd) (As := [.int (xs (4 * k + 1)), .int (xs (4 * k + 2))]) (rest := [.int (rLeft n (reps n bt rk wt cl cc od) (xs (4 * k + 1)) (xs (4 * k + 2)))]) ⟨hx, hb, hml, hown, hts⟩ (c_Y_left l _ (xs (4 * k + 1)) (xs (4 * k + 2)) hg hcy) (cwV 2 hts g_L_58 rfl rfl rfl (by decide +kernel) ⟨Nat.le_of_ble_eq_true rfl, Nat.le_of_ble_eq_true rfl⟩) hK hP hD hS hA 0 rfl rfl rfl hl.1 rfl (Nat.le_of_ble_eq_true rfl) d_L_law_412 ⟨Nat.le_of_ble_eq_true rfl, Nat.le_of_ble_eq_true rfl⟩ (fun u => wYt_ad u) (fun v1 H locs hv hP hD hS => ?_)
  obtain ⟨a2, v2⟩ := v1
  have hv1 : a2 = (n, bt, rk, wt, cl, cc, su, sa, sc, od) := hv.1
  have hcy1 : ocY (a2, v2) := hv.2
  subst hv1
  refine W.eq (g2 := F0 m 415 ls [.int (rLeft n (reps n bt rk wt cl cc od) (xs (4 * k + 1)) (xs (4 * k + 2))), .int (rLeft n (reps n bt rk wt cl cc od) (xs (4 * k + 1)) (xs (4 * k + 2)))]) rfl ?_
  refine lv_icmp_eq (tgt := 545) hx hb d_L_law_415 (by decide) (fun c9 => ?_) (fun c9 => ?_)
  · exact J _ u2 v2 ls _ _ hg hcx1 hcy1 hl hP hD hS
  · exact absurd rfl c9
set_option maxHeartbeats 4000000 in
set_option maxRecDepth 100000 in
theorem op_truth {p : Program} {l : Launch} {e : Env} {s : State} {m : MethodId} {below : List Frame} {meth : Method} {c : Code} {b L : Nat} {xs : Nat → Int32} (hL : L ≤ 2048) (C0 : lw_At p s m meth c b L xs) {D : va_G} {ax ay : Nat → Nat} {cI cZ : ClassId} {k : Nat} (hk : k < L / 4) {a : stA} {u : stC} {v : stD} (hg : gdA a) (hcx : ocX (a, u)) (hcy : ocY (a, v)) {H : Heap} {locs : List Loc} {ls : Array Slot} (hK : va_K D clX [(cI, .int), (cZ, .boolean)] s) (hl : lv_has ls 4 [(0, .ref b), (1, .ref (ax 0)), (2, .ref (ay 0)), (3, .int (nI (4 * k)))]) (hP : va_P D clX (wXt ax cI cZ (a, u) ++ wYt ay cI cZ (a, v)) H) (hD : va_D (fun q : Nat => s.heap.size ≤ q) (wXt ax cI cZ (a, u) ++ wYt ay cI cZ (a, v))) (hS : va_S (fun q : Nat => s.heap.size ≤ q) s.heap H locs) (J : lwJ p l e s m below meth c b D ax ay cI cZ k) : W p l e room_1 s m #[Value.ref b] below meth c H locs 18 6861 (lw_Z below #[Value.ref b] s) (F0 m 420 ls []) := by
  obtain ⟨hx, hb, hr, hml, hown, hts0, hX, hbl, hlocks, hgv⟩ := C0
  have hts : ∀ w ∈ tbl, w.before #[Value.ref b] s = true := fun w h => hts0 w (List.mem_filter.mp h).1
  have hown : s.vm.findClass RL = some m.cls := hown
  have hA : ∀ q : Nat, s.heap.size ≤ q → (fun q : Nat => s.heap.size ≤ q) q := fun _ h => h
  have hbA : ¬ (fun q : Nat => s.heap.size ≤ q) b := Nat.not_le.mpr hbl
  have hk4 : 4 * k + 3 < L := by omega
  obtain ⟨n, bt, rk, wt, cl, cc, su, sa, sc, od⟩ := a
  obtain ⟨fr, cg, co, rp, rc⟩ := u
  obtain ⟨kn, ke, rq, rd⟩ := v
  refine lv_aload_n hx hb d_L_law_420 rfl (lv_at hl 1 rfl) ?_
  refine lv_aload_n hx hb d_L_law_421 rfl (lv_at hl 0 rfl) ?_
  refine lv_iload_n hx hb d_L_law_422 rfl (lv_at hl 3 rfl) ?_
  refine lv_iconst (v := 1) hx hb d_L_law_423 (by decide) ?_
  refine lv_iadd hx hb d_L_law_424 ?_
  refine rd_top (z := nI (4 * k + 1)) (nI_add (4 * k) 1) ?_
  refine va_sld hx hb hX hbl hbA hS (vp_in_nI (show 4 * k + 1 < L by omega) (by omega)) d_L_law_425 ?_
  refine rd_top (z := xs (4 * k + 1)) (by rw [nI_clamp (by omega)]) ?_
  refine wE_L (w1 := wX ax cI cZ n bt rk wt cl cc su sa sc od fr cg co rp rc) (w2 := wY ay cI cZ n bt.testBit rk wt cl cc sa su sc od kn ke rq rd) (As := [.int (xs (4 * k + 1))]) (rest := []) ⟨hx, hb, hml, hown, hts⟩ (c_X_truth l _ (xs (4 * k + 1)) hg hcx) (cwV 1 hts g_L_59 rfl rfl rfl (by decide +kernel) ⟨Nat.le_of_ble_eq_true rfl, Nat.le_of_ble_eq_true rfl⟩) hK hP hD hS hA 0 rfl rfl rfl hl.1 rfl (Nat.le_of_ble_eq_true rfl) d_L_law_426 ⟨Nat.le_of_ble_eq_true rfl, Nat.le_of_ble_eq_true rfl⟩ (fun u => wXt_ad u) (fun u1 H locs hu hP hD hS => ?_)
  obtain ⟨a1, u2⟩ := u1
  have hu1 : a1 = (n, bt, rk, wt, cl, cc, su, sa, sc, od) := hu.1
  have hcx1 : ocX (a1, u2) := hu.2
  subst hu1
  have hP : va_P D clX (wXt ax cI cZ ((n, bt, rk, wt, cl, cc, su, sa, sc, od), u2) ++ wY ay cI cZ n bt.testBit rk wt cl cc sa su sc od kn ke rq rd) H := hP
  refine W.eq (g2 := F0 m 429 ls [.int (rTruth su sa sc (reps n bt rk wt cl cc od) (xs (4 * k + 1)))]) rfl ?_
  refine lv_aload_n hx hb d_L_law_429 rfl (lv_at hl 2 rfl) ?_
  refine lv_aload_n hx hb d_L_law_430 rfl (lv_at hl 0 rfl) ?_
  refine lv_iload_n hx hb d_L_law_431 rfl (lv_at hl 3 rfl) ?_
  refine lv_iconst (v := 1) hx hb d_L_law_432 (by decide) ?_
  refine lv_iadd hx hb d_L_law_433 ?_
  refine rd_top (z := nI (4 * k + 1)) (nI_add (4 * k) 1) ?_
  refine va_sld hx hb hX hbl hbA hS (vp_in_nI (show 4 * k + 1 < L by omega) (by omega)) d_L_law_434 ?_
  refine rd_top (z := xs (4 * k + 1)) (by rw [nI_clamp (by omega)]) ?_
  refine wE_R (w1 := wXt ax cI cZ ((n, bt, rk, wt, cl, cc, su, sa, sc, od), u2)) (w2 := wY ay cI cZ n bt.testBit rk wt cl cc sa su sc od kn ke rq rd) (As := [.int (xs (4 * k + 1))]) (rest := [.int (rTruth su sa sc (reps n bt rk wt cl cc od) (xs (4 * k + 1)))]) ⟨hx, hb, hml, hown, hts⟩ (c_Y_truth l _ (xs (4 * k + 1)) hg hcy) (cwV 1 hts g_L_62 rfl rfl rfl (by decide +kernel) ⟨Nat.le_of_ble_eq_true rfl, Nat.le_of_ble_eq_true rfl⟩) hK hP hD hS hA 0 rfl rfl rfl hl.1 rfl (Nat.le_of_ble_eq_true rfl) d_L_law_435 ⟨Nat.le_of_ble_eq_true rfl, Nat.le_of_ble_eq_true rfl⟩ (fun u => wYt_ad u) (fun v1 H locs hv hP hD hS => ?_)
  obtain ⟨a2, v2⟩ := v1
  have hv1 : a2 = (n, bt, rk, wt, cl, cc, su, sa, sc, od) := hv.1
  have hcy1 : ocY (a2, v2) := hv.2
  subst hv1
  refine W.eq (g2 := F0 m 438 ls [.int (rTruth su sa sc (reps n bt rk wt cl cc od) (xs (4 * k + 1))), .int (rTruth su sa sc (reps n bt rk wt cl cc od) (xs (4 * k + 1)))]) rfl ?_
  refine lv_icmp_eq (tgt := 545) hx hb d_L_law_438 (by decide) (fun c9 => ?_) (fun c9 => ?_)
  · exact J _ u2 v2 ls _ _ hg hcx1 hcy1 hl hP hD hS
  · exact absurd rfl c9
set_option maxHeartbeats 4000000 in
set_option maxRecDepth 100000 in
theorem op_surely {p : Program} {l : Launch} {e : Env} {s : State} {m : MethodId} {below : List Frame} {meth : Method} {c : Code} {b L : Nat} {xs : Nat → Int32} (hL : L ≤ 2048) (C0 : lw_At p s m meth c b L xs) {D : va_G} {ax ay : Nat → Nat} {cI cZ : ClassId} {k : Nat} (hk : k < L / 4) {a : stA} {u : stC} {v : stD} (hg : gdA a) (hcx : ocX (a, u)) (hcy : ocY (a, v)) {H : Heap} {locs : List Loc} {ls : Array Slot} (hK : va_K D clX [(cI, .int), (cZ, .boolean)] s) (hl : lv_has ls 4 [(0, .ref b), (1, .ref (ax 0)), (2, .ref (ay 0)), (3, .int (nI (4 * k)))]) (hP : va_P D clX (wXt ax cI cZ (a, u) ++ wYt ay cI cZ (a, v)) H) (hD : va_D (fun q : Nat => s.heap.size ≤ q) (wXt ax cI cZ (a, u) ++ wYt ay cI cZ (a, v))) (hS : va_S (fun q : Nat => s.heap.size ≤ q) s.heap H locs) (J : lwJ p l e s m below meth c b D ax ay cI cZ k) : W p l e room_1 s m #[Value.ref b] below meth c H locs 18 6861 (lw_Z below #[Value.ref b] s) (F0 m 443 ls []) := by
  obtain ⟨hx, hb, hr, hml, hown, hts0, hX, hbl, hlocks, hgv⟩ := C0
  have hts : ∀ w ∈ tbl, w.before #[Value.ref b] s = true := fun w h => hts0 w (List.mem_filter.mp h).1
  have hown : s.vm.findClass RL = some m.cls := hown
  have hA : ∀ q : Nat, s.heap.size ≤ q → (fun q : Nat => s.heap.size ≤ q) q := fun _ h => h
  have hbA : ¬ (fun q : Nat => s.heap.size ≤ q) b := Nat.not_le.mpr hbl
  have hk4 : 4 * k + 3 < L := by omega
  obtain ⟨n, bt, rk, wt, cl, cc, su, sa, sc, od⟩ := a
  obtain ⟨fr, cg, co, rp, rc⟩ := u
  obtain ⟨kn, ke, rq, rd⟩ := v
  refine lv_aload_n hx hb d_L_law_443 rfl (lv_at hl 1 rfl) ?_
  refine lv_aload_n hx hb d_L_law_444 rfl (lv_at hl 0 rfl) ?_
  refine lv_iload_n hx hb d_L_law_445 rfl (lv_at hl 3 rfl) ?_
  refine lv_iconst (v := 1) hx hb d_L_law_446 (by decide) ?_
  refine lv_iadd hx hb d_L_law_447 ?_
  refine rd_top (z := nI (4 * k + 1)) (nI_add (4 * k) 1) ?_
  refine va_sld hx hb hX hbl hbA hS (vp_in_nI (show 4 * k + 1 < L by omega) (by omega)) d_L_law_448 ?_
  refine rd_top (z := xs (4 * k + 1)) (by rw [nI_clamp (by omega)]) ?_
  refine wE_L (w1 := wX ax cI cZ n bt rk wt cl cc su sa sc od fr cg co rp rc) (w2 := wY ay cI cZ n bt.testBit rk wt cl cc sa su sc od kn ke rq rd) (As := [.int (xs (4 * k + 1))]) (rest := []) ⟨hx, hb, hml, hown, hts⟩ (c_X_surely l _ (xs (4 * k + 1)) hg hcx) (cwV 1 hts g_L_63 rfl rfl rfl (by decide +kernel) ⟨Nat.le_of_ble_eq_true rfl, Nat.le_of_ble_eq_true rfl⟩) hK hP hD hS hA 0 rfl rfl rfl hl.1 rfl (Nat.le_of_ble_eq_true rfl) d_L_law_449 ⟨Nat.le_of_ble_eq_true rfl, Nat.le_of_ble_eq_true rfl⟩ (fun u => wXt_ad u) (fun u1 H locs hu hP hD hS => ?_)
  obtain ⟨a1, u2⟩ := u1
  have hu1 : a1 = (n, bt, rk, wt, cl, cc, su, sa, sc, od) := hu.1
  have hcx1 : ocX (a1, u2) := hu.2
  subst hu1
  have hP : va_P D clX (wXt ax cI cZ ((n, bt, rk, wt, cl, cc, su, sa, sc, od), u2) ++ wY ay cI cZ n bt.testBit rk wt cl cc sa su sc od kn ke rq rd) H := hP
  refine W.eq (g2 := F0 m 452 ls [.int (rSurely n (reps n bt rk wt cl cc od) (xs (4 * k + 1)))]) rfl ?_
  refine lv_aload_n hx hb d_L_law_452 rfl (lv_at hl 2 rfl) ?_
  refine lv_aload_n hx hb d_L_law_453 rfl (lv_at hl 0 rfl) ?_
  refine lv_iload_n hx hb d_L_law_454 rfl (lv_at hl 3 rfl) ?_
  refine lv_iconst (v := 1) hx hb d_L_law_455 (by decide) ?_
  refine lv_iadd hx hb d_L_law_456 ?_
  refine rd_top (z := nI (4 * k + 1)) (nI_add (4 * k) 1) ?_
  refine va_sld hx hb hX hbl hbA hS (vp_in_nI (show 4 * k + 1 < L by omega) (by omega)) d_L_law_457 ?_
  refine rd_top (z := xs (4 * k + 1)) (by rw [nI_clamp (by omega)]) ?_
  refine wE_R (w1 := wXt ax cI cZ ((n, bt, rk, wt, cl, cc, su, sa, sc, od), u2)) (w2 := wY ay cI cZ n bt.testBit rk wt cl cc sa su sc od kn ke rq rd) (As := [.int (xs (4 * k + 1))]) (rest := [.int (rSurely n (reps n bt rk wt cl cc od) (xs (4 * k + 1)))]) ⟨hx, hb, hml, hown, hts⟩ (c_Y_surely l _ (xs (4 * k + 1)) hg hcy) (cwV 1 hts g_L_66 rfl rfl rfl (by decide +kernel) ⟨Nat.le_of_ble_eq_true rfl, Nat.le_of_ble_eq_true rfl⟩) hK hP hD hS hA 0 rfl rfl rfl hl.1 rfl (Nat.le_of_ble_eq_true rfl) d_L_law_458 ⟨Nat.le_of_ble_eq_true rfl, Nat.le_of_ble_eq_true rfl⟩ (fun u => wYt_ad u) (fun v1 H locs hv hP hD hS => ?_)
  obtain ⟨a2, v2⟩ := v1
  have hv1 : a2 = (n, bt, rk, wt, cl, cc, su, sa, sc, od) := hv.1
  have hcy1 : ocY (a2, v2) := hv.2
  subst hv1
  refine W.eq (g2 := F0 m 461 ls [.int (rSurely n (reps n bt rk wt cl cc od) (xs (4 * k + 1))), .int (rSurely n (reps n bt rk wt cl cc od) (xs (4 * k + 1)))]) rfl ?_
  refine lv_icmp_eq (tgt := 545) hx hb d_L_law_461 (by decide) (fun c9 => ?_) (fun c9 => ?_)
  · exact J _ u2 v2 ls _ _ hg hcx1 hcy1 hl hP hD hS
  · exact absurd rfl c9
set_option maxHeartbeats 4000000 in
set_option maxRecDepth 100000 in
theorem op_better {p : Program} {l : Launch} {e : Env} {s : State} {m : MethodId} {below : List Frame} {meth : Method} {c : Code} {b L : Nat} {xs : Nat → Int32} (hL : L ≤ 2048) (C0 : lw_At p s m meth c b L xs) {D : va_G} {ax ay : Nat → Nat} {cI cZ : ClassId} {k : Nat} (hk : k < L / 4) {a : stA} {u : stC} {v : stD} (hg : gdA a) (hcx : ocX (a, u)) (hcy : ocY (a, v)) {H : Heap} {locs : List Loc} {ls : Array Slot} (hK : va_K D clX [(cI, .int), (cZ, .boolean)] s) (hl : lv_has ls 4 [(0, .ref b), (1, .ref (ax 0)), (2, .ref (ay 0)), (3, .int (nI (4 * k)))]) (hP : va_P D clX (wXt ax cI cZ (a, u) ++ wYt ay cI cZ (a, v)) H) (hD : va_D (fun q : Nat => s.heap.size ≤ q) (wXt ax cI cZ (a, u) ++ wYt ay cI cZ (a, v))) (hS : va_S (fun q : Nat => s.heap.size ≤ q) s.heap H locs) (J : lwJ p l e s m below meth c b D ax ay cI cZ k) : W p l e room_1 s m #[Value.ref b] below meth c H locs 18 6861 (lw_Z below #[Value.ref b] s) (F0 m 466 ls []) := by
  obtain ⟨hx, hb, hr, hml, hown, hts0, hX, hbl, hlocks, hgv⟩ := C0
  have hts : ∀ w ∈ tbl, w.before #[Value.ref b] s = true := fun w h => hts0 w (List.mem_filter.mp h).1
  have hown : s.vm.findClass RL = some m.cls := hown
  have hA : ∀ q : Nat, s.heap.size ≤ q → (fun q : Nat => s.heap.size ≤ q) q := fun _ h => h
  have hbA : ¬ (fun q : Nat => s.heap.size ≤ q) b := Nat.not_le.mpr hbl
  have hk4 : 4 * k + 3 < L := by omega
  obtain ⟨n, bt, rk, wt, cl, cc, su, sa, sc, od⟩ := a
  obtain ⟨fr, cg, co, rp, rc⟩ := u
  obtain ⟨kn, ke, rq, rd⟩ := v
  refine lv_aload_n hx hb d_L_law_466 rfl (lv_at hl 1 rfl) ?_
  refine lv_aload_n hx hb d_L_law_467 rfl (lv_at hl 0 rfl) ?_
  refine lv_iload_n hx hb d_L_law_468 rfl (lv_at hl 3 rfl) ?_
  refine lv_iconst (v := 1) hx hb d_L_law_469 (by decide) ?_
  refine lv_iadd hx hb d_L_law_470 ?_
  refine rd_top (z := nI (4 * k + 1)) (nI_add (4 * k) 1) ?_
  refine va_sld hx hb hX hbl hbA hS (vp_in_nI (show 4 * k + 1 < L by omega) (by omega)) d_L_law_471 ?_
  refine rd_top (z := xs (4 * k + 1)) (by rw [nI_clamp (by omega)]) ?_
  refine lv_aload_n hx hb d_L_law_472 rfl (lv_at hl 0 rfl) ?_
  refine lv_iload_n hx hb d_L_law_473 rfl (lv_at hl 3 rfl) ?_
  refine lv_iconst (v := 2) hx hb d_L_law_474 (by decide) ?_
  refine lv_iadd hx hb d_L_law_475 ?_
  refine rd_top (z := nI (4 * k + 2)) (nI_add (4 * k) 2) ?_
  refine va_sld hx hb hX hbl hbA hS (vp_in_nI (show 4 * k + 2 < L by omega) (by omega)) d_L_law_476 ?_
  refine rd_top (z := xs (4 * k + 2)) (by rw [nI_clamp (by omega)]) ?_
  refine lv_aload_n hx hb d_L_law_477 rfl (lv_at hl 0 rfl) ?_
  refine lv_iload_n hx hb d_L_law_478 rfl (lv_at hl 3 rfl) ?_
  refine lv_iconst (v := 3) hx hb d_L_law_479 (by decide) ?_
  refine lv_iadd hx hb d_L_law_480 ?_
  refine rd_top (z := nI (4 * k + 3)) (nI_add (4 * k) 3) ?_
  refine va_sld hx hb hX hbl hbA hS (vp_in_nI (show 4 * k + 3 < L by omega) (by omega)) d_L_law_481 ?_
  refine rd_top (z := xs (4 * k + 3)) (by rw [nI_clamp (by omega)]) ?_
  refine rd_V (ws := wX ax cI cZ n bt rk wt cl cc su sa sc od fr cg co rp rc) (As := [.int (xs (4 * k + 1)), .int (xs (4 * k + 2)), .int (xs (4 * k + 3))]) (rest := []) ⟨hx, hb, hml, hown, hts⟩ (c_X_better l (xs (4 * k + 1)) (xs (4 * k + 2)) (xs (4 * k + 3)) hg) (cwV 3 hts g_L_67 rfl rfl rfl (by decide +kernel) ⟨Nat.le_of_ble_eq_true rfl, Nat.le_of_ble_eq_true rfl⟩) hK (fr_Pl hP) 0 rfl rfl rfl hl.1 rfl (Nat.le_of_ble_eq_true rfl) d_L_law_482 ⟨Nat.le_of_ble_eq_true rfl, Nat.le_of_ble_eq_true rfl⟩ ?_
  refine lv_aload_n hx hb d_L_law_485 rfl (lv_at hl 2 rfl) ?_
  refine lv_aload_n hx hb d_L_law_486 rfl (lv_at hl 0 rfl) ?_
  refine lv_iload_n hx hb d_L_law_487 rfl (lv_at hl 3 rfl) ?_
  refine lv_iconst (v := 1) hx hb d_L_law_488 (by decide) ?_
  refine lv_iadd hx hb d_L_law_489 ?_
  refine rd_top (z := nI (4 * k + 1)) (nI_add (4 * k) 1) ?_
  refine va_sld hx hb hX hbl hbA hS (vp_in_nI (show 4 * k + 1 < L by omega) (by omega)) d_L_law_490 ?_
  refine rd_top (z := xs (4 * k + 1)) (by rw [nI_clamp (by omega)]) ?_
  refine lv_aload_n hx hb d_L_law_491 rfl (lv_at hl 0 rfl) ?_
  refine lv_iload_n hx hb d_L_law_492 rfl (lv_at hl 3 rfl) ?_
  refine lv_iconst (v := 2) hx hb d_L_law_493 (by decide) ?_
  refine lv_iadd hx hb d_L_law_494 ?_
  refine rd_top (z := nI (4 * k + 2)) (nI_add (4 * k) 2) ?_
  refine va_sld hx hb hX hbl hbA hS (vp_in_nI (show 4 * k + 2 < L by omega) (by omega)) d_L_law_495 ?_
  refine rd_top (z := xs (4 * k + 2)) (by rw [nI_clamp (by omega)]) ?_
  refine lv_aload_n hx hb d_L_law_496 rfl (lv_at hl 0 rfl) ?_
  refine lv_iload_n hx hb d_L_law_497 rfl (lv_at hl 3 rfl) ?_
  refine lv_iconst (v := 3) hx hb d_L_law_498 (by decide) ?_
  refine lv_iadd hx hb d_L_law_499 ?_
  refine rd_top (z := nI (4 * k + 3)) (nI_add (4 * k) 3) ?_
  refine va_sld hx hb hX hbl hbA hS (vp_in_nI (show 4 * k + 3 < L by omega) (by omega)) d_L_law_500 ?_
  refine rd_top (z := xs (4 * k + 3)) (by rw [nI_clamp (by omega)]) ?_
  refine rd_V (ws := wY ay cI cZ n bt.testBit rk wt cl cc sa su sc od kn ke rq rd) (As := [.int (xs (4 * k + 1)), .int (xs (4 * k + 2)), .int (xs (4 * k + 3))]) (rest := [.int (rBetter n bt rk wt (xs (4 * k + 1)) (xs (4 * k + 2)) (xs (4 * k + 3)))]) ⟨hx, hb, hml, hown, hts⟩ (c_Y_better l (xs (4 * k + 1)) (xs (4 * k + 2)) (xs (4 * k + 3)) hg) (cwV 3 hts g_L_70 rfl rfl rfl (by decide +kernel) ⟨Nat.le_of_ble_eq_true rfl, Nat.le_of_ble_eq_true rfl⟩) hK (fr_Pr hP) 0 rfl rfl rfl hl.1 rfl (Nat.le_of_ble_eq_true rfl) d_L_law_501 ⟨Nat.le_of_ble_eq_true rfl, Nat.le_of_ble_eq_true rfl⟩ ?_
  refine lv_icmp_eq (tgt := 545) hx hb d_L_law_504 (by decide) (fun c9 => ?_) (fun c9 => ?_)
  · exact J _ _ _ ls _ _ hg hcx hcy hl hP hD hS
  · exact absurd rfl c9
set_option maxHeartbeats 4000000 in
set_option maxRecDepth 100000 in
theorem op_least {p : Program} {l : Launch} {e : Env} {s : State} {m : MethodId} {below : List Frame} {meth : Method} {c : Code} {b L : Nat} {xs : Nat → Int32} (hL : L ≤ 2048) (C0 : lw_At p s m meth c b L xs) {D : va_G} {ax ay : Nat → Nat} {cI cZ : ClassId} {k : Nat} (hk : k < L / 4) {a : stA} {u : stC} {v : stD} (hg : gdA a) (hcx : ocX (a, u)) (hcy : ocY (a, v)) {H : Heap} {locs : List Loc} {ls : Array Slot} (hK : va_K D clX [(cI, .int), (cZ, .boolean)] s) (hl : lv_has ls 4 [(0, .ref b), (1, .ref (ax 0)), (2, .ref (ay 0)), (3, .int (nI (4 * k)))]) (hP : va_P D clX (wXt ax cI cZ (a, u) ++ wYt ay cI cZ (a, v)) H) (hD : va_D (fun q : Nat => s.heap.size ≤ q) (wXt ax cI cZ (a, u) ++ wYt ay cI cZ (a, v))) (hS : va_S (fun q : Nat => s.heap.size ≤ q) s.heap H locs) (J : lwJ p l e s m below meth c b D ax ay cI cZ k) : W p l e room_1 s m #[Value.ref b] below meth c H locs 18 6861 (lw_Z below #[Value.ref b] s) (F0 m 509 ls []) := by
  obtain ⟨hx, hb, hr, hml, hown, hts0, hX, hbl, hlocks, hgv⟩ := C0
  have hts : ∀ w ∈ tbl, w.before #[Value.ref b] s = true := fun w h => hts0 w (List.mem_filter.mp h).1
  have hown : s.vm.findClass RL = some m.cls := hown
  have hA : ∀ q : Nat, s.heap.size ≤ q → (fun q : Nat => s.heap.size ≤ q) q := fun _ h => h
  have hbA : ¬ (fun q : Nat => s.heap.size ≤ q) b := Nat.not_le.mpr hbl
  have hk4 : 4 * k + 3 < L := by omega
  obtain ⟨n, bt, rk, wt, cl, cc, su, sa, sc, od⟩ := a
  obtain ⟨fr, cg, co, rp, rc⟩ := u
  obtain ⟨kn, ke, rq, rd⟩ := v
  refine lv_aload_n hx hb d_L_law_509 rfl (lv_at hl 1 rfl) ?_
  refine lv_aload_n hx hb d_L_law_510 rfl (lv_at hl 0 rfl) ?_
  refine lv_iload_n hx hb d_L_law_511 rfl (lv_at hl 3 rfl) ?_
  refine lv_iconst (v := 1) hx hb d_L_law_512 (by decide) ?_
  refine lv_iadd hx hb d_L_law_513 ?_
  refine rd_top (z := nI (4 * k + 1)) (nI_add (4 * k) 1) ?_
  refine va_sld hx hb hX hbl hbA hS (vp_in_nI (show 4 * k + 1 < L by omega) (by omega)) d_L_law_514 ?_
  refine rd_top (z := xs (4 * k + 1)) (by rw [nI_clamp (by omega)]) ?_
  refine rd_V (ws := wX ax cI cZ n bt rk wt cl cc su sa sc od fr cg co rp rc) (As := [.int (xs (4 * k + 1))]) (rest := []) ⟨hx, hb, hml, hown, hts⟩ (c_X_least l (xs (4 * k + 1)) hg.1 hg.2.2.2.2.2.1 hg.2.2.2.2.2.2.1) (cwV 1 hts g_L_71 rfl rfl rfl (by decide +kernel) ⟨Nat.le_of_ble_eq_true rfl, Nat.le_of_ble_eq_true rfl⟩) hK (fr_Pl hP) 0 rfl rfl rfl hl.1 rfl (Nat.le_of_ble_eq_true rfl) d_L_law_515 ⟨Nat.le_of_ble_eq_true rfl, Nat.le_of_ble_eq_true rfl⟩ ?_
  refine lv_aload_n hx hb d_L_law_518 rfl (lv_at hl 2 rfl) ?_
  refine lv_aload_n hx hb d_L_law_519 rfl (lv_at hl 0 rfl) ?_
  refine lv_iload_n hx hb d_L_law_520 rfl (lv_at hl 3 rfl) ?_
  refine lv_iconst (v := 1) hx hb d_L_law_521 (by decide) ?_
  refine lv_iadd hx hb d_L_law_522 ?_
  refine rd_top (z := nI (4 * k + 1)) (nI_add (4 * k) 1) ?_
  refine va_sld hx hb hX hbl hbA hS (vp_in_nI (show 4 * k + 1 < L by omega) (by omega)) d_L_law_523 ?_
  refine rd_top (z := xs (4 * k + 1)) (by rw [nI_clamp (by omega)]) ?_
  refine rd_V (ws := wY ay cI cZ n bt.testBit rk wt cl cc sa su sc od kn ke rq rd) (As := [.int (xs (4 * k + 1))]) (rest := [.int (leaX n cl cc (xs (4 * k + 1)))]) ⟨hx, hb, hml, hown, hts⟩ (c_Y_least l (xs (4 * k + 1)) hg.1 hg.2.2.2.2.2.1 hg.2.2.2.2.2.2.1) (cwV 1 hts g_L_74 rfl rfl rfl (by decide +kernel) ⟨Nat.le_of_ble_eq_true rfl, Nat.le_of_ble_eq_true rfl⟩) hK (fr_Pr hP) 0 rfl rfl rfl hl.1 rfl (Nat.le_of_ble_eq_true rfl) d_L_law_524 ⟨Nat.le_of_ble_eq_true rfl, Nat.le_of_ble_eq_true rfl⟩ ?_
  refine lv_icmp_eq (tgt := 545) hx hb d_L_law_527 (by decide) (fun c9 => ?_) (fun c9 => ?_)
  · exact J _ _ _ ls _ _ hg hcx hcy hl hP hD hS
  · exact absurd rfl c9
set_option maxHeartbeats 4000000 in
set_option maxRecDepth 100000 in
theorem op_size {p : Program} {l : Launch} {e : Env} {s : State} {m : MethodId} {below : List Frame} {meth : Method} {c : Code} {b L : Nat} {xs : Nat → Int32} (hL : L ≤ 2048) (C0 : lw_At p s m meth c b L xs) {D : va_G} {ax ay : Nat → Nat} {cI cZ : ClassId} {k : Nat} (hk : k < L / 4) {a : stA} {u : stC} {v : stD} (hg : gdA a) (hcx : ocX (a, u)) (hcy : ocY (a, v)) {H : Heap} {locs : List Loc} {ls : Array Slot} (hK : va_K D clX [(cI, .int), (cZ, .boolean)] s) (hl : lv_has ls 4 [(0, .ref b), (1, .ref (ax 0)), (2, .ref (ay 0)), (3, .int (nI (4 * k)))]) (hP : va_P D clX (wXt ax cI cZ (a, u) ++ wYt ay cI cZ (a, v)) H) (hD : va_D (fun q : Nat => s.heap.size ≤ q) (wXt ax cI cZ (a, u) ++ wYt ay cI cZ (a, v))) (hS : va_S (fun q : Nat => s.heap.size ≤ q) s.heap H locs) (J : lwJ p l e s m below meth c b D ax ay cI cZ k) : W p l e room_1 s m #[Value.ref b] below meth c H locs 18 6861 (lw_Z below #[Value.ref b] s) (F0 m 532 ls []) := by
  obtain ⟨hx, hb, hr, hml, hown, hts0, hX, hbl, hlocks, hgv⟩ := C0
  have hts : ∀ w ∈ tbl, w.before #[Value.ref b] s = true := fun w h => hts0 w (List.mem_filter.mp h).1
  have hown : s.vm.findClass RL = some m.cls := hown
  have hA : ∀ q : Nat, s.heap.size ≤ q → (fun q : Nat => s.heap.size ≤ q) q := fun _ h => h
  have hbA : ¬ (fun q : Nat => s.heap.size ≤ q) b := Nat.not_le.mpr hbl
  have hk4 : 4 * k + 3 < L := by omega
  obtain ⟨n, bt, rk, wt, cl, cc, su, sa, sc, od⟩ := a
  obtain ⟨fr, cg, co, rp, rc⟩ := u
  obtain ⟨kn, ke, rq, rd⟩ := v
  refine lv_aload_n hx hb d_L_law_532 rfl (lv_at hl 1 rfl) ?_
  refine rd_V (ws := wX ax cI cZ n bt rk wt cl cc su sa sc od fr cg co rp rc) (As := []) (rest := []) ⟨hx, hb, hml, hown, hts⟩ (c_X_size l  ) (cwV 0 hts g_L_75 rfl rfl rfl (by decide +kernel) ⟨Nat.le_of_ble_eq_true rfl, Nat.le_of_ble_eq_true rfl⟩) hK (fr_Pl hP) 0 rfl rfl rfl hl.1 rfl (Nat.le_of_ble_eq_true rfl) d_L_law_533 ⟨Nat.le_of_ble_eq_true rfl, Nat.le_of_ble_eq_true rfl⟩ ?_
  refine lv_aload_n hx hb d_L_law_536 rfl (lv_at hl 2 rfl) ?_
  refine rd_V (ws := wY ay cI cZ n bt.testBit rk wt cl cc sa su sc od kn ke rq rd) (As := []) (rest := [.int (nI n)]) ⟨hx, hb, hml, hown, hts⟩ (c_Y_size l  ) (cwV 0 hts g_L_78 rfl rfl rfl (by decide +kernel) ⟨Nat.le_of_ble_eq_true rfl, Nat.le_of_ble_eq_true rfl⟩) hK (fr_Pr hP) 0 rfl rfl rfl hl.1 rfl (Nat.le_of_ble_eq_true rfl) d_L_law_537 ⟨Nat.le_of_ble_eq_true rfl, Nat.le_of_ble_eq_true rfl⟩ ?_
  refine lv_icmp_eq (tgt := 545) hx hb d_L_law_540 (by decide) (fun c9 => ?_) (fun c9 => ?_)
  · exact J _ _ _ ls _ _ hg hcx hcy hl hP hD hS
  · exact absurd rfl c9

/-! StripMixer's own small methods, and what it calls of the JDK. -/
def zf_in (x lo hi : Int32) : Int32 := if x < lo then 0 else if hi < x then 0 else 1
set_option maxRecDepth 100000 in
set_option maxHeartbeats 4000000 in
theorem c_Mx_within (l : Launch) (G : zg_T) (nc : Nat) (sh : Nat → Nat × Nat) (M : zm_T) (x lo hi : Int32) : Met l ky_Mx_within (zr_ws ky_Mx_within kc_Mx_within 3 (some .boolean)) (zr_rm 0) (va_Pc [.int x, .int lo, .int hi] (zm_B G nc sh M)) (va_Qi (fun (r : Int32) (M' : zm_T) => r = zf_in x lo hi ∧ M' = M) (zm_B G nc sh) (zm_A G)) 0 0 (zm_A G) := by
  refine zr_met (by decide +kernel) (Nat.le_of_ble_eq_true rfl) ?_
  intro p0 e0 s0 m0 below meth c0 ls hS hK hlk hr hl hI
  have hx := hS.1
  have hb := hS.2.1
  have hl : zl_has ls 3 [some (.int x), some (.int lo), some (.int hi)] := hl
  refine zr_iload_n hx hb kd_Mx_within_0 hl rfl ?_
  refine zr_iload_n hx hb kd_Mx_within_1 hl rfl ?_
  refine lv_icmp_lt (tgt := 14) hx hb kd_Mx_within_2 (by decide) (fun h2 => ?_) (fun h2 => ?_)
  · skip
    refine lv_iconst (v := 0) hx hb kd_Mx_within_14 (by decide) ?_
    exact zr_zret hS hK hlk hr (by decide) hI kd_Mx_within_15 (⟨by simp [zf_in, *], rfl⟩)
  · skip
    refine zr_iload_n hx hb kd_Mx_within_5 hl rfl ?_
    refine zr_iload_n hx hb kd_Mx_within_6 hl rfl ?_
    refine lv_icmp_gt (tgt := 14) hx hb kd_Mx_within_7 (by decide) (fun h7 => ?_) (fun h7 => ?_)
    · skip
      refine lv_iconst (v := 0) hx hb kd_Mx_within_14 (by decide) ?_
      exact zr_zret hS hK hlk hr (by decide) hI kd_Mx_within_15 (⟨by simp [zf_in, *], rfl⟩)
    · skip
      refine lv_iconst (v := 1) hx hb kd_Mx_within_10 (by decide) ?_
      refine lv_goto (tgt := 15) hx hb kd_Mx_within_11 (by decide) ?_
      exact zr_zret hS hK hlk hr (by decide) hI kd_Mx_within_15 (⟨by simp [zf_in, *], rfl⟩)
set_option maxRecDepth 100000 in
set_option maxHeartbeats 4000000 in
theorem c_Mx_atLevel (l : Launch) (G : zg_T) (nc : Nat) (sh : Nat → Nat × Nat) (M : zm_T) (x y : Int32) : Met l ky_Mx_atLevel (zr_ws ky_Mx_atLevel kc_Mx_atLevel 2 (some .int)) (zr_rm 0) (va_Pc [.int x, .int y] (zm_B G nc sh M)) (va_Qi (fun (r : Int32) (M' : zm_T) => r = zf_at x y ∧ M' = M) (zm_B G nc sh) (zm_A G)) 0 0 (zm_A G) := by
  refine zr_met (by decide +kernel) (Nat.le_of_ble_eq_true rfl) ?_
  intro p0 e0 s0 m0 below meth c0 ls hS hK hlk hr hl hI
  have hx := hS.1
  have hb := hS.2.1
  have hl : zl_has ls 2 [some (.int x), some (.int y)] := hl
  refine zr_iload_n hx hb kd_Mx_atLevel_0 hl rfl ?_
  refine lv_i2l hx hb kd_Mx_atLevel_1 rfl ?_
  refine zr_iload_n hx hb kd_Mx_atLevel_2 hl rfl ?_
  refine lv_i2l hx hb kd_Mx_atLevel_3 rfl ?_
  refine lv_lmul hx hb kd_Mx_atLevel_4 ?_
  refine lv_bipush (v := 8) hx hb kd_Mx_atLevel_5 (by decide) ?_
  refine lv_lshr hx hb kd_Mx_atLevel_7 rfl ?_
  refine lv_l2i hx hb kd_Mx_atLevel_8 rfl ?_
  exact zr_iret hS hK hlk hr hI kd_Mx_atLevel_9 (⟨rfl, rfl⟩)
set_option maxRecDepth 100000 in
set_option maxHeartbeats 4000000 in
theorem c_Mx_cut (l : Launch) (G : zg_T) (nc : Nat) (sh : Nat → Nat × Nat) (M : zm_T) (x : Int32) : Met l ky_Mx_cut (zr_ws ky_Mx_cut kc_Mx_cut 1 (some .int)) (zr_rm 1) (va_Pc [.int x] (zm_B G nc sh M)) (va_Qi (fun (r : Int32) (M' : zm_T) => r = zf_cut x ∧ M' = M) (zm_B G nc sh) (zm_A G)) 0 0 (zm_A G) := by
  refine zr_met (by decide +kernel) (Nat.le_of_ble_eq_true rfl) ?_
  intro p0 e0 s0 m0 below meth c0 ls hS hK hlk hr hl hI
  have hx := hS.1
  have hb := hS.2.1
  have hl : zl_has ls 1 [some (.int x)] := hl
  refine lv_ldc (v := -16777216) hx hb hS.2.2.2.1 (hS.2.2.2.2 _ (zw_mem (i := 958) (w := .constant "StripMixer" 217 (-16777216)) (by decide +kernel) rfl)) kd_Mx_cut_0 ?_
  refine lv_ldc (v := 16777216) hx hb hS.2.2.2.1 (hS.2.2.2.2 _ (zw_mem (i := 959) (w := .constant "StripMixer" 218 16777216) (by decide +kernel) rfl)) kd_Mx_cut_2 ?_
  refine zr_iload_n hx hb kd_Mx_cut_4 hl rfl ?_
  refine va_mmin hx hb (hS.2.2.1.trans hl.1.symm) hS.2.2.2.1 (hS.2.2.2.2 _ (zw_mem (i := 960) rfl rfl)) (hS.2.2.2.2 _ (zw_mem (i := 709) rfl rfl)) (hS.2.2.2.2 _ (zw_mem (i := 49) rfl rfl)) (hS.2.2.2.2 _ (zw_mem (i := 710) rfl rfl)) (by decide) (Nat.le_of_ble_eq_true rfl) (by decide) (by decide) kd_Mx_cut_5 ?_
  refine va_mmax hx hb (hS.2.2.1.trans hl.1.symm) hS.2.2.2.1 (hS.2.2.2.2 _ (zw_mem (i := 961) rfl rfl)) (hS.2.2.2.2 _ (zw_mem (i := 616) rfl rfl)) (hS.2.2.2.2 _ (zw_mem (i := 49) rfl rfl)) (hS.2.2.2.2 _ (zw_mem (i := 617) rfl rfl)) (by decide) (Nat.le_of_ble_eq_true rfl) (by decide) (by decide) kd_Mx_cut_8 ?_
  exact zr_iret hS hK hlk hr hI kd_Mx_cut_11 (⟨rfl, rfl⟩)
set_option maxRecDepth 100000 in
set_option maxHeartbeats 4000000 in
theorem c_Mx_isStrip (l : Launch) (G : zg_T) (nc : Nat) (sh : Nat → Nat × Nat) (M : zm_T) (x : Int32) : Met l ky_Mx_isStrip (zr_ws ky_Mx_isStrip kc_Mx_isStrip 1 (some .boolean)) (zr_rm 1) (va_Pc [.int x] (zm_B G nc sh M)) (va_Qi (fun (r : Int32) (M' : zm_T) => r = zf_in x 0 7 ∧ M' = M) (zm_B G nc sh) (zm_A G)) 0 0 (zm_A G) := by
  refine zr_met (by decide +kernel) (Nat.le_of_ble_eq_true rfl) ?_
  intro p0 e0 s0 m0 below meth c0 ls hS hK hlk hr hl hI
  have hx := hS.1
  have hb := hS.2.1
  have hl : zl_has ls 1 [some (.int x)] := hl
  refine zr_iload_n hx hb kd_Mx_isStrip_0 hl rfl ?_
  refine lv_iconst (v := 0) hx hb kd_Mx_isStrip_1 (by decide) ?_
  refine lv_bipush (v := 7) hx hb kd_Mx_isStrip_2 (by decide) ?_
  refine zr_ci (zr_runS hS hK (c_Mx_within l G nc sh M _ _ _) km_Mx_30 hI rfl hl.1 (Nat.le_of_ble_eq_true rfl) (by decide) (by decide) kd_Mx_isStrip_4 rfl) hI (fun r4 M4 H locs hp4 hI => ?_)
  obtain ⟨rfl, hM4⟩ := hp4
  rw [hM4] at hI
  exact zr_zret hS hK hlk hr (by simp [zf_in]; split <;> (try split) <;> rfl) hI kd_Mx_isStrip_7 (⟨rfl, rfl⟩)

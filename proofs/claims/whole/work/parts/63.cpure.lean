/-! The methods that are called ahead of a throw, in their pure form. -/
set_option maxRecDepth 100000 in
set_option maxHeartbeats 4000000 in
theorem d_Mx_within (l : Launch) (G : zg_T) (nc : Nat) (sh : Nat → Nat × Nat) (M : zm_T) (x lo hi : Int32) : Met l ky_Mx_within (zr_ws ky_Mx_within kc_Mx_within 3 (some .boolean)) (zr_rm 0) (va_Pc [.int x, .int lo, .int hi] (zm_B G nc sh M)) (va_Qi (fun (r : Int32) (M' : zm_T) => r = zf_in x lo hi ∧ M' = M) (zm_B G nc sh) zx_0) 0 0 zx_0 := by
  refine zp_met (by decide +kernel) (Nat.le_of_ble_eq_true rfl) ?_
  intro p0 e0 s0 m0 below meth c0 ls hS hK hlk hr hl hI
  have hx := hS.1
  have hb := hS.2.1
  have hl : zl_has ls 3 [some (.int x), some (.int lo), some (.int hi)] := hl
  refine zr_iload_n hx hb kd_Mx_within_0 hl rfl ?_
  refine zr_iload_n hx hb kd_Mx_within_1 hl rfl ?_
  refine lv_icmp_lt (tgt := 14) hx hb kd_Mx_within_2 (by decide) (fun h2 => ?_) (fun h2 => ?_)
  · skip
    refine lv_iconst (v := 0) hx hb kd_Mx_within_14 (by decide) ?_
    exact zp_zret hS hK hlk hr (by decide) hI kd_Mx_within_15 (⟨by simp [zf_in, *], rfl⟩)
  · skip
    refine zr_iload_n hx hb kd_Mx_within_5 hl rfl ?_
    refine zr_iload_n hx hb kd_Mx_within_6 hl rfl ?_
    refine lv_icmp_gt (tgt := 14) hx hb kd_Mx_within_7 (by decide) (fun h7 => ?_) (fun h7 => ?_)
    · skip
      refine lv_iconst (v := 0) hx hb kd_Mx_within_14 (by decide) ?_
      exact zp_zret hS hK hlk hr (by decide) hI kd_Mx_within_15 (⟨by simp [zf_in, *], rfl⟩)
    · skip
      refine lv_iconst (v := 1) hx hb kd_Mx_within_10 (by decide) ?_
      refine lv_goto (tgt := 15) hx hb kd_Mx_within_11 (by decide) ?_
      exact zp_zret hS hK hlk hr (by decide) hI kd_Mx_within_15 (⟨by simp [zf_in, *], rfl⟩)
set_option maxRecDepth 100000 in
set_option maxHeartbeats 4000000 in
theorem d_Mx_isStrip (l : Launch) (G : zg_T) (nc : Nat) (sh : Nat → Nat × Nat) (M : zm_T) (x : Int32) : Met l ky_Mx_isStrip (zr_ws ky_Mx_isStrip kc_Mx_isStrip 1 (some .boolean)) (zr_rm 1) (va_Pc [.int x] (zm_B G nc sh M)) (va_Qi (fun (r : Int32) (M' : zm_T) => r = zf_in x 0 7 ∧ M' = M) (zm_B G nc sh) zx_0) 0 0 zx_0 := by
  refine zp_met (by decide +kernel) (Nat.le_of_ble_eq_true rfl) ?_
  intro p0 e0 s0 m0 below meth c0 ls hS hK hlk hr hl hI
  have hx := hS.1
  have hb := hS.2.1
  have hl : zl_has ls 1 [some (.int x)] := hl
  refine zr_iload_n hx hb kd_Mx_isStrip_0 hl rfl ?_
  refine lv_iconst (v := 0) hx hb kd_Mx_isStrip_1 (by decide) ?_
  refine lv_bipush (v := 7) hx hb kd_Mx_isStrip_2 (by decide) ?_
  refine zp_ci (zp_runS hS hK (d_Mx_within l G nc sh M _ _ _) km_Mx_30 hI rfl hl.1 (Nat.le_of_ble_eq_true rfl) (by decide) (by decide) kd_Mx_isStrip_4 rfl) (fun r4 M4 hp4 => ?_)
  obtain ⟨rfl, hM4⟩ := hp4
  exact zp_zret hS hK hlk hr (by rcases zf_in_01 x 0 7 with h | h <;> rw [h] <;> rfl) hI kd_Mx_isStrip_7 (⟨rfl, rfl⟩)
set_option maxRecDepth 100000 in
set_option maxHeartbeats 4000000 in
theorem d_Mx_isLevel (l : Launch) (G : zg_T) (nc : Nat) (sh : Nat → Nat × Nat) (M : zm_T) (x : Int32) : Met l ky_Mx_isLevel (zr_ws ky_Mx_isLevel kc_Mx_isLevel 1 (some .boolean)) (zr_rm 1) (va_Pc [.int x] (zm_B G nc sh M)) (va_Qi (fun (r : Int32) (M' : zm_T) => r = zf_in x 0 1024 ∧ M' = M) (zm_B G nc sh) zx_0) 0 0 zx_0 := by
  refine zp_met (by decide +kernel) (Nat.le_of_ble_eq_true rfl) ?_
  intro p0 e0 s0 m0 below meth c0 ls hS hK hlk hr hl hI
  have hx := hS.1
  have hb := hS.2.1
  have hl : zl_has ls 1 [some (.int x)] := hl
  refine zr_iload_n hx hb kd_Mx_isLevel_0 hl rfl ?_
  refine lv_iconst (v := 0) hx hb kd_Mx_isLevel_1 (by decide) ?_
  refine lv_sipush (v := 1024) hx hb kd_Mx_isLevel_2 (by decide) ?_
  refine zp_ci (zp_runS hS hK (d_Mx_within l G nc sh M _ _ _) km_Mx_30 hI rfl hl.1 (Nat.le_of_ble_eq_true rfl) (by decide) (by decide) kd_Mx_isLevel_5 rfl) (fun r5 M5 hp5 => ?_)
  obtain ⟨rfl, hM5⟩ := hp5
  exact zp_zret hS hK hlk hr (by rcases zf_in_01 x 0 1024 with h | h <;> rw [h] <;> rfl) hI kd_Mx_isLevel_8 (⟨rfl, rfl⟩)
set_option maxRecDepth 100000 in
set_option maxHeartbeats 4000000 in
theorem d_Mx_isBlock (l : Launch) (G : zg_T) (nc : Nat) (sh : Nat → Nat × Nat) (M : zm_T) (f n : Int32) : Met l ky_Mx_isBlock (zr_ws ky_Mx_isBlock kc_Mx_isBlock 2 (some .boolean)) (zr_rm 1) (va_Pc [.int f, .int n] (zm_B G nc sh M)) (va_Qi (fun (r : Int32) (M' : zm_T) => r = zf_blk f n ∧ M' = M) (zm_B G nc sh) zx_0) 0 0 zx_0 := by
  refine zp_met (by decide +kernel) (Nat.le_of_ble_eq_true rfl) ?_
  intro p0 e0 s0 m0 below meth c0 ls hS hK hlk hr hl hI
  have hx := hS.1
  have hb := hS.2.1
  have hl : zl_has ls 2 [some (.int f), some (.int n)] := hl
  refine zr_iload_n hx hb kd_Mx_isBlock_0 hl rfl ?_
  refine lv_iconst (v := 1) hx hb kd_Mx_isBlock_1 (by decide) ?_
  refine lv_bipush (v := 64) hx hb kd_Mx_isBlock_2 (by decide) ?_
  refine zp_ci (zp_runS hS hK (d_Mx_within l G nc sh M _ _ _) km_Mx_30 hI rfl hl.1 (Nat.le_of_ble_eq_true rfl) (by decide) (by decide) kd_Mx_isBlock_4 rfl) (fun r4 M4 hp4 => ?_)
  obtain ⟨rfl, hM4⟩ := hp4
  refine lv_if_eq (tgt := 27) hx hb kd_Mx_isBlock_7 (by decide) (fun h7 => ?_) (fun h7 => ?_)
  · skip
    refine lv_iconst (v := 0) hx hb kd_Mx_isBlock_27 (by decide) ?_
    exact zp_zret hS hK hlk hr (by decide) hI kd_Mx_isBlock_28 (⟨by simp [zf_blk, *], rfl⟩)
  · skip
    refine zr_iload_n hx hb kd_Mx_isBlock_10 hl rfl ?_
    refine lv_iconst (v := 0) hx hb kd_Mx_isBlock_11 (by decide) ?_
    refine lv_sipush (v := 1024) hx hb kd_Mx_isBlock_12 (by decide) ?_
    refine zr_iload_n hx hb kd_Mx_isBlock_15 hl rfl ?_
    refine lv_isub hx hb kd_Mx_isBlock_16 ?_
    refine zp_ci (zp_runS hS hK (d_Mx_within l G nc sh M _ _ _) km_Mx_30 hI rfl hl.1 (Nat.le_of_ble_eq_true rfl) (by decide) (by decide) kd_Mx_isBlock_17 rfl) (fun r17 M17 hp17 => ?_)
    obtain ⟨rfl, hM17⟩ := hp17
    refine lv_if_eq (tgt := 27) hx hb kd_Mx_isBlock_20 (by decide) (fun h20 => ?_) (fun h20 => ?_)
    · skip
      refine lv_iconst (v := 0) hx hb kd_Mx_isBlock_27 (by decide) ?_
      exact zp_zret hS hK hlk hr (by decide) hI kd_Mx_isBlock_28 (⟨by simp [zf_blk, *], rfl⟩)
    · skip
      refine lv_iconst (v := 1) hx hb kd_Mx_isBlock_23 (by decide) ?_
      refine lv_goto (tgt := 28) hx hb kd_Mx_isBlock_24 (by decide) ?_
      exact zp_zret hS hK hlk hr (by decide) hI kd_Mx_isBlock_28 (⟨by simp [zf_blk, *], rfl⟩)

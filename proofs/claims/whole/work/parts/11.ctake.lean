/-! A take: its row is the array b of 64. -/
set_option maxRecDepth 100000 in
set_option maxHeartbeats 4000000 in
theorem c_Ta_isOpen (l : Launch) (G : zg_T) (nc : Nat) (sh : Nat → Nat × Nat) (M : zm_T) (a : Nat) (ha_a : a < nc) (hs_a : sh a = (10 + 6, 0)) : Met l ky_Ta_isOpen (zr_ws ky_Ta_isOpen kc_Ta_isOpen 1 (some .boolean)) (zr_rm 0) (va_Pc [.ref (G.2.2.1 + a)] (zm_B G nc sh M)) (va_Qi (fun (r : Int32) (M' : zm_T) => r = (if M.1 a 1 = 0 then 1 else 0) ∧ M' = M) (zm_B G nc sh) (zm_A G)) 0 0 (zm_A G) := by
  refine zr_met (by decide +kernel) (Nat.le_of_ble_eq_true rfl) ?_
  intro p0 e0 s0 m0 below meth c0 ls hS hK hlk hr hl hI
  have hx := hS.1
  have hb := hS.2.1
  have hl : zl_has ls 1 [some (.ref (G.2.2.1 + a))] := hl
  refine zr_aload_n hx hb kd_Ta_isOpen_0 hl rfl ?_
  refine zr_geti hS hK kf_Ta_15 hI ha_a hs_a kd_Ta_isOpen_1 ?_
  refine lv_if_ne (tgt := 11) hx hb kd_Ta_isOpen_4 (by decide) (fun h4 => ?_) (fun h4 => ?_)
  · skip
    refine lv_iconst (v := 0) hx hb kd_Ta_isOpen_11 (by decide) ?_
    exact zr_zret hS hK hlk hr (by decide) hI kd_Ta_isOpen_12 (⟨by simp [*], rfl⟩)
  · skip
    refine lv_iconst (v := 1) hx hb kd_Ta_isOpen_7 (by decide) ?_
    refine lv_goto (tgt := 12) hx hb kd_Ta_isOpen_8 (by decide) ?_
    exact zr_zret hS hK hlk hr (by decide) hI kd_Ta_isOpen_12 (⟨by simp [*], rfl⟩)
set_option maxRecDepth 100000 in
set_option maxHeartbeats 4000000 in
theorem c_Ta_readable (l : Launch) (G : zg_T) (nc : Nat) (sh : Nat → Nat × Nat) (M : zm_T) (a : Nat) (ha_a : a < nc) (hs_a : sh a = (10 + 6, 0)) : Met l ky_Ta_readable (zr_ws ky_Ta_readable kc_Ta_readable 1 (some .int)) (zr_rm 1) (va_Pc [.ref (G.2.2.1 + a)] (zm_B G nc sh M)) (va_Qi (fun (r : Int32) (M' : zm_T) => r = (if M.1 a 1 = 0 then 64 else M.1 a 1) ∧ M' = M) (zm_B G nc sh) (zm_A G)) 0 0 (zm_A G) := by
  refine zr_met (by decide +kernel) (Nat.le_of_ble_eq_true rfl) ?_
  intro p0 e0 s0 m0 below meth c0 ls hS hK hlk hr hl hI
  have hx := hS.1
  have hb := hS.2.1
  have hl : zl_has ls 1 [some (.ref (G.2.2.1 + a))] := hl
  refine zr_aload_n hx hb kd_Ta_readable_0 hl rfl ?_
  refine zr_ci (zr_runV hS hK (c_Ta_isOpen l G nc sh M a ha_a hs_a) km_Ta_19 hI ha_a hs_a rfl hl.1 (Nat.le_of_ble_eq_true rfl) (by decide) (by decide) kd_Ta_readable_1 rfl) hI (fun r1 M1 H locs hp1 hI => ?_)
  obtain ⟨rfl, hM1⟩ := hp1
  rw [hM1] at hI
  refine lv_if_eq (tgt := 12) hx hb kd_Ta_readable_4 (by decide) (fun h4 => ?_) (fun h4 => ?_)
  · skip
    refine zr_aload_n hx hb kd_Ta_readable_12 hl rfl ?_
    refine zr_geti hS hK kf_Ta_15 hI ha_a hs_a kd_Ta_readable_13 ?_
    exact zr_iret hS hK hlk hr hI kd_Ta_readable_16 (⟨by revert h4; by_cases h : M.1 a 1 = 0 <;> simp [h], rfl⟩)
  · skip
    refine lv_bipush (v := 64) hx hb kd_Ta_readable_7 (by decide) ?_
    refine lv_goto (tgt := 16) hx hb kd_Ta_readable_9 (by decide) ?_
    exact zr_iret hS hK hlk hr hI kd_Ta_readable_16 (⟨by revert h4; by_cases h : M.1 a 1 = 0 <;> simp [h], rfl⟩)
def zf_sh (four : Int64) (j : Nat) : Int32 := (four >>> (((16 : Int32) * nI j).toInt64 &&& 63)).toInt32.toInt16.toInt32
set_option maxRecDepth 100000 in
set_option maxHeartbeats 4000000 in
theorem c_Ta_write (l : Launch) (G : zg_T) (nc : Nat) (sh : Nat → Nat × Nat) (M : zm_T) (a b i : Nat) (four : Int64) (ha_a : a < nc) (hs_a : sh a = (10 + 6, 0)) (ha_a_0 : b < nc) (hs_a_0 : sh b = (0, 64)) (hv_a_0 : M.2.1 a 0 = some b) (hi : i ≤ 60) : Met l ky_Ta_write (zr_ws ky_Ta_write kc_Ta_write 5 none) (zr_rm 0) (va_Pc [.ref (G.2.2.1 + a), .int (nI i), .long four] (zm_B G nc sh M)) (va_Qv (fun (M' : zm_T) => M' = zm_seg M b i 4 (zf_sh four)) (zm_B G nc sh) (zm_A G)) 0 0 (zm_A G) := by
  refine zr_met (by decide +kernel) (Nat.le_of_ble_eq_true rfl) ?_
  intro p0 e0 s0 m0 below meth c0 ls hS hK hlk hr hl hI
  have hx := hS.1
  have hb := hS.2.1
  have hl : zl_has ls 5 [some (.ref (G.2.2.1 + a)), some (.int (nI i)), some (.long four), none, none] := hl
  have loop : ∀ (k j : Nat) (H : Heap) (locs : List Loc) (ls : Array Slot), j + k = 4 → zl_has ls 5 [some (.ref (G.2.2.1 + a)), some (.int (nI i)), some (.long four), none, some (.int (nI j))] → zm_I G nc sh (zm_seg M b i j (zf_sh four)) s0 H locs → W p0 l e0 (zr_rm 0) s0 m0 ([.ref (G.2.2.1 + a), .int (nI i), .long four] : List Value).toArray below meth c0 H locs 0 0 (MQ below (va_Qv (fun (M' : zm_T) => M' = zm_seg M b i 4 (zf_sh four)) (zm_B G nc sh) (zm_A G)) ([.ref (G.2.2.1 + a), .int (nI i), .long four] : List Value).toArray s0 0 0 (zm_A G)) (F0 m0 3 ls []) := by
    intro k
    induction k with
    | zero =>
      intro j H locs ls hj hl hI
      obtain rfl : j = 4 := by omega
      refine zr_iload hx hb kd_Ta_write_3 hl rfl ?_
      refine lv_iconst (v := 4) hx hb kd_Ta_write_5 (by decide) ?_
      refine lv_icmp_ge (tgt := 33) hx hb kd_Ta_write_6 (by decide) (fun h6 => ?_) (fun h6 => absurd (by decide) h6)
      exact zr_vret hS hK hlk hr hI kd_Ta_write_33 (rfl)
    | succ k ih =>
      intro j H locs ls hj hl hI
      refine zr_iload hx hb kd_Ta_write_3 hl rfl ?_
      refine lv_iconst (v := 4) hx hb kd_Ta_write_5 (by decide) ?_
      refine lv_icmp_ge (tgt := 33) hx hb kd_Ta_write_6 (by decide) (fun h6 => absurd h6 (zn_ge (n := 4) rfl (by omega) (by decide))) (fun h6 => ?_)
      refine zr_aload_n hx hb kd_Ta_write_9 hl rfl ?_
      refine zr_getr hS hK kf_Ta_9 hI ha_a hs_a hv_a_0 kd_Ta_write_10 ?_
      refine zr_iload_n hx hb kd_Ta_write_13 hl rfl ?_
      refine zr_iload hx hb kd_Ta_write_14 hl rfl ?_
      refine lv_iadd hx hb kd_Ta_write_16 ?_
      refine zr_lload_n hx hb kd_Ta_write_17 hl rfl ?_
      refine lv_bipush (v := 16) hx hb kd_Ta_write_18 (by decide) ?_
      refine zr_iload hx hb kd_Ta_write_20 hl rfl ?_
      refine lv_imul hx hb kd_Ta_write_22 ?_
      refine lv_lshr hx hb kd_Ta_write_23 rfl ?_
      refine lv_l2i hx hb kd_Ta_write_24 rfl ?_
      refine lv_i2s hx hb kd_Ta_write_25 rfl ?_
      refine zr_iast hS hK hI ha_a_0 hs_a_0 (by first | assumption | exact vp_in_nI (by omega) (by decide) | (rw [nI_add]; exact vp_in_nI (by omega) (by decide))) kd_Ta_write_26 (fun H locs hI => ?_)
      refine zr_iinc hx hb kd_Ta_write_27 hl (by decide) rfl rfl (fun ls hl => ?_)
      refine lv_goto (tgt := 3) hx hb kd_Ta_write_30 (by decide) ?_
      refine ih (j + 1) H locs ls (by omega) (by rw [nI_succ]; exact hl) ?_
      rw [← zm_seg_s]
      rw [zn_idx (by omega)] at hI
      exact hI
  rw [← zm_seg_0 M b i (zf_sh four)] at hI
  refine lv_iconst (v := 0) hx hb kd_Ta_write_0 (by decide) ?_
  refine zr_istore hx hb kd_Ta_write_1 hl (by decide) rfl (fun ls hl => ?_)
  exact loop 4 0 _ _ _ (by omega) hl hI
def zf_clip (x : Int32) : Int32 := if (-32768) < (if x < 32767 then x else 32767) then (if x < 32767 then x else 32767) else (-32768)
set_option maxRecDepth 100000 in
set_option maxHeartbeats 4000000 in
theorem c_Ta_record (l : Launch) (G : zg_T) (nc : Nat) (sh : Nat → Nat × Nat) (M : zm_T) (a b d f n : Nat) (ha_a : a < nc) (hs_a : sh a = (10 + 6, 0)) (ha_a_0 : b < nc) (hs_a_0 : sh b = (0, 64)) (hv_a_0 : M.2.1 a 0 = some b) (ha_d : d < nc) (hs_d : sh d = (0, 1024)) (hbd : d ≠ b) (hab : a ≠ b) (hn : n ≤ 64) (hf : f + n ≤ 1024) : Met l ky_Ta_record (zr_ws ky_Ta_record kc_Ta_record 5 none) (zr_rm 1) (va_Pc [.ref (G.2.2.1 + a), .ref (G.2.2.1 + d), .int (nI f), .int (nI n)] (zm_B G nc sh M)) (va_Qv (fun (M' : zm_T) => M' = zm_ui (zm_seg M b 0 n (fun j => zf_clip (M.1 d (f + j)))) a 1 (nI n)) (zm_B G nc sh) (zm_A G)) 0 0 (zm_A G) := by
  refine zr_met (by decide +kernel) (Nat.le_of_ble_eq_true rfl) ?_
  intro p0 e0 s0 m0 below meth c0 ls hS hK hlk hr hl hI
  have hx := hS.1
  have hb := hS.2.1
  have hl : zl_has ls 5 [some (.ref (G.2.2.1 + a)), some (.ref (G.2.2.1 + d)), some (.int (nI f)), some (.int (nI n)), none] := hl
  have loop : ∀ (k j : Nat) (H : Heap) (locs : List Loc) (ls : Array Slot), j + k = n → zl_has ls 5 [some (.ref (G.2.2.1 + a)), some (.ref (G.2.2.1 + d)), some (.int (nI f)), some (.int (nI n)), some (.int (nI j))] → zm_I G nc sh (zm_seg M b 0 j (fun j => zf_clip (M.1 d (f + j)))) s0 H locs → W p0 l e0 (zr_rm 1) s0 m0 ([.ref (G.2.2.1 + a), .ref (G.2.2.1 + d), .int (nI f), .int (nI n)] : List Value).toArray below meth c0 H locs 0 0 (MQ below (va_Qv (fun (M' : zm_T) => M' = zm_ui (zm_seg M b 0 n (fun j => zf_clip (M.1 d (f + j)))) a 1 (nI n)) (zm_B G nc sh) (zm_A G)) ([.ref (G.2.2.1 + a), .ref (G.2.2.1 + d), .int (nI f), .int (nI n)] : List Value).toArray s0 0 0 (zm_A G)) (F0 m0 3 ls []) := by
    intro k
    induction k with
    | zero =>
      intro j H locs ls hj hl hI
      obtain rfl : j = n := by omega
      refine zr_iload hx hb kd_Ta_record_3 hl rfl ?_
      refine zr_iload_n hx hb kd_Ta_record_5 hl rfl ?_
      refine lv_icmp_ge (tgt := 40) hx hb kd_Ta_record_6 (by decide) (fun h6 => ?_) (fun h6 => absurd (Int32.le_refl _) h6)
      refine zr_aload_n hx hb kd_Ta_record_40 hl rfl ?_
      refine zr_iload_n hx hb kd_Ta_record_41 hl rfl ?_
      refine zr_puti hS hK kf_Ta_15 hI ha_a hs_a rfl rfl kd_Ta_record_42 (fun H locs hI => ?_)
      exact zr_vret hS hK hlk hr hI kd_Ta_record_45 (rfl)
    | succ k ih =>
      intro j H locs ls hj hl hI
      refine zr_iload hx hb kd_Ta_record_3 hl rfl ?_
      refine zr_iload_n hx hb kd_Ta_record_5 hl rfl ?_
      refine lv_icmp_ge (tgt := 40) hx hb kd_Ta_record_6 (by decide) (fun h6 => absurd h6 (nI_ge (by omega) (by omega))) (fun h6 => ?_)
      refine zr_aload_n hx hb kd_Ta_record_9 hl rfl ?_
      refine zr_getr hS hK kf_Ta_9 hI ha_a hs_a hv_a_0 kd_Ta_record_10 ?_
      refine zr_iload hx hb kd_Ta_record_13 hl rfl ?_
      refine lv_sipush (v := -32768) hx hb kd_Ta_record_15 (by decide) ?_
      refine lv_sipush (v := 32767) hx hb kd_Ta_record_18 (by decide) ?_
      refine zr_aload_n hx hb kd_Ta_record_21 hl rfl ?_
      refine zr_iload_n hx hb kd_Ta_record_22 hl rfl ?_
      refine zr_iload hx hb kd_Ta_record_23 hl rfl ?_
      refine lv_iadd hx hb kd_Ta_record_25 ?_
      refine zr_iald hS hK hI ha_d hs_d (by first | assumption | exact vp_in_nI (by omega) (by decide) | (rw [nI_add]; exact vp_in_nI (by omega) (by decide))) kd_Ta_record_26 ?_
      refine va_mmin hx hb (hS.2.2.1.trans hl.1.symm) hS.2.2.2.1 (hS.2.2.2.2 _ (zw_mem (i := 1033) rfl rfl)) (hS.2.2.2.2 _ (zw_mem (i := 709) rfl rfl)) (hS.2.2.2.2 _ (zw_mem (i := 49) rfl rfl)) (hS.2.2.2.2 _ (zw_mem (i := 710) rfl rfl)) (by decide) (Nat.le_of_ble_eq_true rfl) (by decide) (by decide) kd_Ta_record_27 ?_
      refine va_mmax hx hb (hS.2.2.1.trans hl.1.symm) hS.2.2.2.1 (hS.2.2.2.2 _ (zw_mem (i := 1034) rfl rfl)) (hS.2.2.2.2 _ (zw_mem (i := 616) rfl rfl)) (hS.2.2.2.2 _ (zw_mem (i := 49) rfl rfl)) (hS.2.2.2.2 _ (zw_mem (i := 617) rfl rfl)) (by decide) (Nat.le_of_ble_eq_true rfl) (by decide) (by decide) kd_Ta_record_30 ?_
      refine zr_iast hS hK hI ha_a_0 hs_a_0 (by first | assumption | exact vp_in_nI (by omega) (by decide) | (rw [nI_add]; exact vp_in_nI (by omega) (by decide))) kd_Ta_record_33 (fun H locs hI => ?_)
      refine zr_iinc hx hb kd_Ta_record_34 hl (by decide) rfl rfl (fun ls hl => ?_)
      refine lv_goto (tgt := 3) hx hb kd_Ta_record_37 (by decide) ?_
      refine ih (j + 1) H locs ls (by omega) (by rw [nI_succ]; exact hl) ?_
      rw [zn_idx (by omega), zn_cl (by omega), zm_seg_out (Or.inl hbd)] at hI
      rw [← zm_seg_s, Nat.zero_add]
      exact hI
  rw [← zm_seg_0 M b 0 (fun j => zf_clip (M.1 d (f + j)))] at hI
  refine lv_iconst (v := 0) hx hb kd_Ta_record_0 (by decide) ?_
  refine zr_istore hx hb kd_Ta_record_1 hl (by decide) rfl (fun ls hl => ?_)
  exact loop n 0 _ _ _ (by omega) hl hI

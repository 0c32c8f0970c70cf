/-! Math.floorDiv, Arrays.fill; a clip: take 0, track 1, at 2, from 3, length 4, level 5, in 6, out 7. -/
set_option maxRecDepth 100000 in
set_option maxHeartbeats 4000000 in
theorem c_Ma_floorDiv (l : Launch) (G : zg_T) (nc : Nat) (sh : Nat → Nat × Nat) (M : zm_T) (x y : Int32) (hy : ¬ y = 0) : Met l ky_Ma_floorDiv (zr_ws ky_Ma_floorDiv kc_Ma_floorDiv 3 (some .int)) (zr_rm 0) (va_Pc [.int x, .int y] (zm_B G nc sh M)) (va_Qi (fun (r : Int32) (M' : zm_T) => r = zf_fd x y ∧ M' = M) (zm_B G nc sh) (zm_A G)) 0 0 (zm_A G) := by
  refine zr_met (by decide +kernel) (Nat.le_of_ble_eq_true rfl) ?_
  intro p0 e0 s0 m0 below meth c0 ls hS hK hlk hr hl hI
  have hx := hS.1
  have hb := hS.2.1
  have hl : zl_has ls 3 [some (.int x), some (.int y), none] := hl
  refine zr_iload_n hx hb kd_Ma_floorDiv_0 hl rfl ?_
  refine zr_iload_n hx hb kd_Ma_floorDiv_1 hl rfl ?_
  refine lv_idiv hx hb kd_Ma_floorDiv_2 (hy) ?_
  refine zr_istore_n hx hb kd_Ma_floorDiv_3 hl (by decide) rfl (fun ls hl => ?_)
  refine zr_iload_n hx hb kd_Ma_floorDiv_4 hl rfl ?_
  refine zr_iload_n hx hb kd_Ma_floorDiv_5 hl rfl ?_
  refine lv_ixor hx hb kd_Ma_floorDiv_6 ?_
  refine lv_if_ge (tgt := 21) hx hb kd_Ma_floorDiv_7 (by decide) (fun h7 => ?_) (fun h7 => ?_)
  · skip
    refine zr_iload_n hx hb kd_Ma_floorDiv_21 hl rfl ?_
    exact zr_iret hS hK hlk hr hI kd_Ma_floorDiv_22 (⟨by simp only [zf_fd]; first | (rw [if_pos (Int32.not_le.mp (by assumption)), if_neg (by assumption)]; done) | (rw [if_pos (Int32.not_le.mp (by assumption)), if_pos (by assumption)]; done) | (rw [if_neg (Int32.not_lt.mpr (by assumption))]; done), rfl⟩)
  · skip
    refine zr_iload_n hx hb kd_Ma_floorDiv_10 hl rfl ?_
    refine zr_iload_n hx hb kd_Ma_floorDiv_11 hl rfl ?_
    refine lv_imul hx hb kd_Ma_floorDiv_12 ?_
    refine zr_iload_n hx hb kd_Ma_floorDiv_13 hl rfl ?_
    refine lv_icmp_eq (tgt := 21) hx hb kd_Ma_floorDiv_14 (by decide) (fun h14 => ?_) (fun h14 => ?_)
    · skip
      refine zr_iload_n hx hb kd_Ma_floorDiv_21 hl rfl ?_
      exact zr_iret hS hK hlk hr hI kd_Ma_floorDiv_22 (⟨by simp only [zf_fd]; first | (rw [if_pos (Int32.not_le.mp (by assumption)), if_neg (by assumption)]; done) | (rw [if_pos (Int32.not_le.mp (by assumption)), if_pos (by assumption)]; done) | (rw [if_neg (Int32.not_lt.mpr (by assumption))]; done), rfl⟩)
    · skip
      refine zr_iload_n hx hb kd_Ma_floorDiv_17 hl rfl ?_
      refine lv_iconst (v := 1) hx hb kd_Ma_floorDiv_18 (by decide) ?_
      refine lv_isub hx hb kd_Ma_floorDiv_19 ?_
      exact zr_iret hS hK hlk hr hI kd_Ma_floorDiv_20 (⟨by simp only [zf_fd]; first | (rw [if_pos (Int32.not_le.mp (by assumption)), if_neg (by assumption)]; done) | (rw [if_pos (Int32.not_le.mp (by assumption)), if_pos (by assumption)]; done) | (rw [if_neg (Int32.not_lt.mpr (by assumption))]; done), rfl⟩)
set_option maxRecDepth 100000 in
set_option maxHeartbeats 4000000 in
theorem c_Ar_rangeCheck (l : Launch) (G : zg_T) (nc : Nat) (sh : Nat → Nat × Nat) (M : zm_T) (n i j : Nat) (hn : n < 2147483648) (hij : i ≤ j) (hj : j ≤ n) : Met l ky_Ar_rangeCheck (zr_ws ky_Ar_rangeCheck kc_Ar_rangeCheck 3 none) (zr_rm 0) (va_Pc [.int (nI n), .int (nI i), .int (nI j)] (zm_B G nc sh M)) (va_Qv (fun (M' : zm_T) => M' = M) (zm_B G nc sh) (zm_A G)) 0 0 (zm_A G) := by
  refine zr_met (by decide +kernel) (Nat.le_of_ble_eq_true rfl) ?_
  intro p0 e0 s0 m0 below meth c0 ls hS hK hlk hr hl hI
  have hx := hS.1
  have hb := hS.2.1
  have hl : zl_has ls 3 [some (.int (nI n)), some (.int (nI i)), some (.int (nI j))] := hl
  refine zr_iload_n hx hb kd_Ar_rangeCheck_0 hl rfl ?_
  refine zr_iload_n hx hb kd_Ar_rangeCheck_1 hl rfl ?_
  refine lv_icmp_le (tgt := 46) hx hb kd_Ar_rangeCheck_2 (by decide) (fun h2 => ?_) (fun h2 => absurd (nI_le hij (by omega)) h2)
  refine zr_iload_n hx hb kd_Ar_rangeCheck_46 hl rfl ?_
  refine lv_if_ge (tgt := 59) hx hb kd_Ar_rangeCheck_47 (by decide) (fun h47 => ?_) (fun h47 => absurd (nI_pos' (by omega)) h47)
  refine zr_iload_n hx hb kd_Ar_rangeCheck_59 hl rfl ?_
  refine zr_iload_n hx hb kd_Ar_rangeCheck_60 hl rfl ?_
  refine lv_icmp_le (tgt := 73) hx hb kd_Ar_rangeCheck_61 (by decide) (fun h61 => ?_) (fun h61 => absurd (nI_le hj (by omega)) h61)
  exact zr_vret hS hK hlk hr hI kd_Ar_rangeCheck_73 (rfl)
set_option maxRecDepth 100000 in
set_option maxHeartbeats 4000000 in
theorem c_Ar_fill_aIIIIV (l : Launch) (G : zg_T) (nc : Nat) (sh : Nat → Nat × Nat) (M : zm_T) (b n i j : Nat) (v : Int32) (ha_a : b < nc) (hs_a : sh b = (0, n)) (hn : n < 2147483648) (hij : i ≤ j) (hj : j ≤ n) : Met l ky_Ar_fill_aIIIIV (zr_ws ky_Ar_fill_aIIIIV kc_Ar_fill_aIIIIV 5 none) (zr_rm 1) (va_Pc [.ref (G.2.2.1 + b), .int (nI i), .int (nI j), .int v] (zm_B G nc sh M)) (va_Qv (fun (M' : zm_T) => M' = zm_seg M b i (j - i) (fun _ => v)) (zm_B G nc sh) (zm_A G)) 0 0 (zm_A G) := by
  refine zr_met (by decide +kernel) (Nat.le_of_ble_eq_true rfl) ?_
  intro p0 e0 s0 m0 below meth c0 ls hS hK hlk hr hl hI
  have hx := hS.1
  have hb := hS.2.1
  have hl : zl_has ls 5 [some (.ref (G.2.2.1 + b)), some (.int (nI i)), some (.int (nI j)), some (.int v), none] := hl
  have loop : ∀ (k d : Nat) (H : Heap) (locs : List Loc) (ls : Array Slot), i + d + k = j → zl_has ls 5 [some (.ref (G.2.2.1 + b)), some (.int (nI i)), some (.int (nI j)), some (.int v), some (.int (nI (i + d)))] → zm_I G nc sh (zm_seg M b i d (fun _ => v)) s0 H locs → W p0 l e0 (zr_rm 1) s0 m0 ([.ref (G.2.2.1 + b), .int (nI i), .int (nI j), .int v] : List Value).toArray below meth c0 H locs 0 0 (MQ below (va_Qv (fun (M' : zm_T) => M' = zm_seg M b i (j - i) (fun _ => v)) (zm_B G nc sh) (zm_A G)) ([.ref (G.2.2.1 + b), .int (nI i), .int (nI j), .int v] : List Value).toArray s0 0 0 (zm_A G)) (F0 m0 10 ls []) := by
    intro k
    induction k with
    | zero =>
      intro d H locs ls hd hl hI
      obtain rfl : j = i + d := by omega
      refine zr_iload hx hb kd_Ar_fill_aIIIIV_10 hl rfl ?_
      refine zr_iload_n hx hb kd_Ar_fill_aIIIIV_12 hl rfl ?_
      refine lv_icmp_ge (tgt := 27) hx hb kd_Ar_fill_aIIIIV_13 (by decide) (fun h13 => ?_) (fun h13 => absurd (Int32.le_refl _) h13)
      exact zr_vret hS hK hlk hr hI kd_Ar_fill_aIIIIV_27 (by rw [Nat.add_sub_cancel_left])
    | succ k ih =>
      intro d H locs ls hd hl hI
      refine zr_iload hx hb kd_Ar_fill_aIIIIV_10 hl rfl ?_
      refine zr_iload_n hx hb kd_Ar_fill_aIIIIV_12 hl rfl ?_
      refine lv_icmp_ge (tgt := 27) hx hb kd_Ar_fill_aIIIIV_13 (by decide) (fun h13 => absurd h13 (nI_ge (by omega) (by omega))) (fun h13 => ?_)
      refine zr_aload_n hx hb kd_Ar_fill_aIIIIV_16 hl rfl ?_
      refine zr_iload hx hb kd_Ar_fill_aIIIIV_17 hl rfl ?_
      refine zr_iload_n hx hb kd_Ar_fill_aIIIIV_19 hl rfl ?_
      refine zr_iast hS hK hI ha_a hs_a (vp_in_nI (by omega) (by omega)) kd_Ar_fill_aIIIIV_20 (fun H locs hI => ?_)
      refine zr_iinc hx hb kd_Ar_fill_aIIIIV_21 hl (by decide) rfl rfl (fun ls hl => ?_)
      refine lv_goto (tgt := 10) hx hb kd_Ar_fill_aIIIIV_24 (by decide) ?_
      refine ih (d + 1) H locs ls (by omega) (by rw [show i + (d + 1) = i + d + 1 by omega, nI_succ]; exact hl) ?_
      rw [zn_cl (by omega)] at hI
      rw [← zm_seg_s]
      exact hI
  rw [← zm_seg_0 M b i (fun _ => v)] at hI
  refine zr_aload_n hx hb kd_Ar_fill_aIIIIV_0 hl rfl ?_
  refine zr_alen hS hK hI ha_a hs_a (by decide) kd_Ar_fill_aIIIIV_1 ?_
  refine zr_iload_n hx hb kd_Ar_fill_aIIIIV_2 hl rfl ?_
  refine zr_iload_n hx hb kd_Ar_fill_aIIIIV_3 hl rfl ?_
  refine zr_cv (zr_runS hS hK (c_Ar_rangeCheck l G nc sh _ n i j hn hij hj) km_Ar_13 hI rfl hl.1 (Nat.le_of_ble_eq_true rfl) (by decide) (by decide) kd_Ar_fill_aIIIIV_4 rfl) hI (fun M4 H locs hp4 hI => ?_)
  rw [hp4] at hI
  refine zr_iload_n hx hb kd_Ar_fill_aIIIIV_7 hl rfl ?_
  refine zr_istore hx hb kd_Ar_fill_aIIIIV_8 hl (by decide) rfl (fun ls hl => ?_)
  exact loop (j - i) 0 _ _ _ (by omega) hl hI
set_option maxRecDepth 100000 in
set_option maxHeartbeats 4000000 in
theorem c_Ar_fill_aIIV (l : Launch) (G : zg_T) (nc : Nat) (sh : Nat → Nat × Nat) (M : zm_T) (b n : Nat) (v : Int32) (ha_a : b < nc) (hs_a : sh b = (0, n)) (hn : n < 2147483648) : Met l ky_Ar_fill_aIIV (zr_ws ky_Ar_fill_aIIV kc_Ar_fill_aIIV 4 none) (zr_rm 0) (va_Pc [.ref (G.2.2.1 + b), .int v] (zm_B G nc sh M)) (va_Qv (fun (M' : zm_T) => M' = zm_seg M b 0 n (fun _ => v)) (zm_B G nc sh) (zm_A G)) 0 0 (zm_A G) := by
  refine zr_met (by decide +kernel) (Nat.le_of_ble_eq_true rfl) ?_
  intro p0 e0 s0 m0 below meth c0 ls hS hK hlk hr hl hI
  have hx := hS.1
  have hb := hS.2.1
  have hl : zl_has ls 4 [some (.ref (G.2.2.1 + b)), some (.int v), none, none] := hl
  have loop : ∀ (k d : Nat) (H : Heap) (locs : List Loc) (ls : Array Slot), d + k = n → zl_has ls 4 [some (.ref (G.2.2.1 + b)), some (.int v), some (.int (nI d)), some (.int (nI n))] → zm_I G nc sh (zm_seg M b 0 d (fun _ => v)) s0 H locs → W p0 l e0 (zr_rm 0) s0 m0 ([.ref (G.2.2.1 + b), .int v] : List Value).toArray below meth c0 H locs 0 0 (MQ below (va_Qv (fun (M' : zm_T) => M' = zm_seg M b 0 n (fun _ => v)) (zm_B G nc sh) (zm_A G)) ([.ref (G.2.2.1 + b), .int v] : List Value).toArray s0 0 0 (zm_A G)) (F0 m0 5 ls []) := by
    intro k
    induction k with
    | zero =>
      intro d H locs ls hd hl hI
      obtain rfl : n = d := by omega
      refine zr_iload_n hx hb kd_Ar_fill_aIIV_5 hl rfl ?_
      refine zr_iload_n hx hb kd_Ar_fill_aIIV_6 hl rfl ?_
      refine lv_icmp_ge (tgt := 20) hx hb kd_Ar_fill_aIIV_7 (by decide) (fun h7 => ?_) (fun h7 => absurd (Int32.le_refl _) h7)
      exact zr_vret hS hK hlk hr hI kd_Ar_fill_aIIV_20 (rfl)
    | succ k ih =>
      intro d H locs ls hd hl hI
      refine zr_iload_n hx hb kd_Ar_fill_aIIV_5 hl rfl ?_
      refine zr_iload_n hx hb kd_Ar_fill_aIIV_6 hl rfl ?_
      refine lv_icmp_ge (tgt := 20) hx hb kd_Ar_fill_aIIV_7 (by decide) (fun h7 => absurd h7 (nI_ge (by omega) (by omega))) (fun h7 => ?_)
      refine zr_aload_n hx hb kd_Ar_fill_aIIV_10 hl rfl ?_
      refine zr_iload_n hx hb kd_Ar_fill_aIIV_11 hl rfl ?_
      refine zr_iload_n hx hb kd_Ar_fill_aIIV_12 hl rfl ?_
      refine zr_iast hS hK hI ha_a hs_a (vp_in_nI (by omega) (by omega)) kd_Ar_fill_aIIV_13 (fun H locs hI => ?_)
      refine zr_iinc hx hb kd_Ar_fill_aIIV_14 hl (by decide) rfl rfl (fun ls hl => ?_)
      refine lv_goto (tgt := 5) hx hb kd_Ar_fill_aIIV_17 (by decide) ?_
      refine ih (d + 1) H locs ls (by omega) (by rw [nI_succ]; exact hl) ?_
      rw [zn_cl (by omega)] at hI
      rw [← zm_seg_s, Nat.zero_add]
      exact hI
  rw [← zm_seg_0 M b 0 (fun _ => v)] at hI
  refine lv_iconst (v := 0) hx hb kd_Ar_fill_aIIV_0 (by decide) ?_
  refine zr_istore_n hx hb kd_Ar_fill_aIIV_1 hl (by decide) rfl (fun ls hl => ?_)
  refine zr_aload_n hx hb kd_Ar_fill_aIIV_2 hl rfl ?_
  refine zr_alen hS hK hI ha_a hs_a (by decide) kd_Ar_fill_aIIV_3 ?_
  refine zr_istore_n hx hb kd_Ar_fill_aIIV_4 hl (by decide) rfl (fun ls hl => ?_)
  exact loop n 0 _ _ _ (by omega) hl hI
set_option maxRecDepth 100000 in
set_option maxHeartbeats 4000000 in
theorem c_Cl_cutFrom (l : Launch) (G : zg_T) (nc : Nat) (sh : Nat → Nat × Nat) (M : zm_T) (a t : Nat) (x y : Int32) (ha_a : a < nc) (hs_a : sh a = (10 + 0, 0)) : Met l ky_Cl_cutFrom (zr_ws ky_Cl_cutFrom kc_Cl_cutFrom 4 none) (zr_rm 0) (va_Pc [.ref (G.2.2.1 + a), .ref (G.2.2.1 + t), .int x, .int y] (zm_B G nc sh M)) (va_Qv (fun (M' : zm_T) => M' = zm_ui (zm_ui (zm_ur M a 0 (some t)) a 3 x) a 4 y) (zm_B G nc sh) (zm_A G)) 0 0 (zm_A G) := by
  refine zr_met (by decide +kernel) (Nat.le_of_ble_eq_true rfl) ?_
  intro p0 e0 s0 m0 below meth c0 ls hS hK hlk hr hl hI
  have hx := hS.1
  have hb := hS.2.1
  have hl : zl_has ls 4 [some (.ref (G.2.2.1 + a)), some (.ref (G.2.2.1 + t)), some (.int x), some (.int y)] := hl
  refine zr_aload_n hx hb kd_Cl_cutFrom_0 hl rfl ?_
  refine zr_aload_n hx hb kd_Cl_cutFrom_1 hl rfl ?_
  refine zr_putr hS hK kf_Cl_7 hI ha_a hs_a (fun _ => rfl) (fun _ => rfl) kd_Cl_cutFrom_2 (fun H locs hI => ?_)
  refine zr_aload_n hx hb kd_Cl_cutFrom_5 hl rfl ?_
  refine zr_iload_n hx hb kd_Cl_cutFrom_6 hl rfl ?_
  refine zr_puti hS hK kf_Cl_13 hI ha_a hs_a rfl rfl kd_Cl_cutFrom_7 (fun H locs hI => ?_)
  refine zr_aload_n hx hb kd_Cl_cutFrom_10 hl rfl ?_
  refine zr_iload_n hx hb kd_Cl_cutFrom_11 hl rfl ?_
  refine zr_puti hS hK kf_Cl_17 hI ha_a hs_a rfl rfl kd_Cl_cutFrom_12 (fun H locs hI => ?_)
  exact zr_vret hS hK hlk hr hI kd_Cl_cutFrom_15 (rfl)
set_option maxRecDepth 100000 in
set_option maxHeartbeats 4000000 in
theorem c_Cl_layOn (l : Launch) (G : zg_T) (nc : Nat) (sh : Nat → Nat × Nat) (M : zm_T) (a : Nat) (x y : Int32) (ha_a : a < nc) (hs_a : sh a = (10 + 0, 0)) : Met l ky_Cl_layOn (zr_ws ky_Cl_layOn kc_Cl_layOn 3 none) (zr_rm 0) (va_Pc [.ref (G.2.2.1 + a), .int x, .int y] (zm_B G nc sh M)) (va_Qv (fun (M' : zm_T) => M' = zm_ui (zm_ui M a 1 x) a 2 y) (zm_B G nc sh) (zm_A G)) 0 0 (zm_A G) := by
  refine zr_met (by decide +kernel) (Nat.le_of_ble_eq_true rfl) ?_
  intro p0 e0 s0 m0 below meth c0 ls hS hK hlk hr hl hI
  have hx := hS.1
  have hb := hS.2.1
  have hl : zl_has ls 3 [some (.ref (G.2.2.1 + a)), some (.int x), some (.int y)] := hl
  refine zr_aload_n hx hb kd_Cl_layOn_0 hl rfl ?_
  refine zr_iload_n hx hb kd_Cl_layOn_1 hl rfl ?_
  refine zr_puti hS hK kf_Cl_20 hI ha_a hs_a rfl rfl kd_Cl_layOn_2 (fun H locs hI => ?_)
  refine zr_aload_n hx hb kd_Cl_layOn_5 hl rfl ?_
  refine zr_iload_n hx hb kd_Cl_layOn_6 hl rfl ?_
  refine zr_puti hS hK kf_Cl_23 hI ha_a hs_a rfl rfl kd_Cl_layOn_7 (fun H locs hI => ?_)
  exact zr_vret hS hK hlk hr hI kd_Cl_layOn_10 (rfl)
set_option maxRecDepth 100000 in
set_option maxHeartbeats 4000000 in
theorem c_Cl_form (l : Launch) (G : zg_T) (nc : Nat) (sh : Nat → Nat × Nat) (M : zm_T) (a : Nat) (x y z : Int32) (ha_a : a < nc) (hs_a : sh a = (10 + 0, 0)) : Met l ky_Cl_form (zr_ws ky_Cl_form kc_Cl_form 4 none) (zr_rm 0) (va_Pc [.ref (G.2.2.1 + a), .int x, .int y, .int z] (zm_B G nc sh M)) (va_Qv (fun (M' : zm_T) => M' = zm_ui (zm_ui (zm_ui M a 5 x) a 6 y) a 7 z) (zm_B G nc sh) (zm_A G)) 0 0 (zm_A G) := by
  refine zr_met (by decide +kernel) (Nat.le_of_ble_eq_true rfl) ?_
  intro p0 e0 s0 m0 below meth c0 ls hS hK hlk hr hl hI
  have hx := hS.1
  have hb := hS.2.1
  have hl : zl_has ls 4 [some (.ref (G.2.2.1 + a)), some (.int x), some (.int y), some (.int z)] := hl
  refine zr_aload_n hx hb kd_Cl_form_0 hl rfl ?_
  refine zr_iload_n hx hb kd_Cl_form_1 hl rfl ?_
  refine zr_puti hS hK kf_Cl_26 hI ha_a hs_a rfl rfl kd_Cl_form_2 (fun H locs hI => ?_)
  refine zr_aload_n hx hb kd_Cl_form_5 hl rfl ?_
  refine zr_iload_n hx hb kd_Cl_form_6 hl rfl ?_
  refine zr_puti hS hK kf_Cl_29 hI ha_a hs_a rfl rfl kd_Cl_form_7 (fun H locs hI => ?_)
  refine zr_aload_n hx hb kd_Cl_form_10 hl rfl ?_
  refine zr_iload_n hx hb kd_Cl_form_11 hl rfl ?_
  refine zr_puti hS hK kf_Cl_32 hI ha_a hs_a rfl rfl kd_Cl_form_12 (fun H locs hI => ?_)
  exact zr_vret hS hK hlk hr hI kd_Cl_form_15 (rfl)
def zf_lies (M : zm_T) (a : Nat) (t x y : Int32) : Int32 := if M.1 a 4 ≤ 0 then 0 else if ¬ M.1 a 1 = t then 0 else if x + y ≤ M.1 a 2 then 0 else if M.1 a 2 + M.1 a 4 ≤ x then 0 else 1
set_option maxRecDepth 100000 in
set_option maxHeartbeats 4000000 in
theorem c_Cl_liesIn (l : Launch) (G : zg_T) (nc : Nat) (sh : Nat → Nat × Nat) (M : zm_T) (a : Nat) (t x y : Int32) (ha_a : a < nc) (hs_a : sh a = (10 + 0, 0)) : Met l ky_Cl_liesIn (zr_ws ky_Cl_liesIn kc_Cl_liesIn 4 (some .boolean)) (zr_rm 0) (va_Pc [.ref (G.2.2.1 + a), .int t, .int x, .int y] (zm_B G nc sh M)) (va_Qi (fun (r : Int32) (M' : zm_T) => r = zf_lies M a t x y ∧ M' = M) (zm_B G nc sh) (zm_A G)) 0 0 (zm_A G) := by
  refine zr_met (by decide +kernel) (Nat.le_of_ble_eq_true rfl) ?_
  intro p0 e0 s0 m0 below meth c0 ls hS hK hlk hr hl hI
  have hx := hS.1
  have hb := hS.2.1
  have hl : zl_has ls 4 [some (.ref (G.2.2.1 + a)), some (.int t), some (.int x), some (.int y)] := hl
  refine zr_aload_n hx hb kd_Cl_liesIn_0 hl rfl ?_
  refine zr_geti hS hK kf_Cl_17 hI ha_a hs_a kd_Cl_liesIn_1 ?_
  refine lv_if_le (tgt := 42) hx hb kd_Cl_liesIn_4 (by decide) (fun h4 => ?_) (fun h4 => ?_)
  · skip
    refine lv_iconst (v := 0) hx hb kd_Cl_liesIn_42 (by decide) ?_
    exact zr_zret hS hK hlk hr (by decide) hI kd_Cl_liesIn_43 (⟨by simp [zf_lies, *], rfl⟩)
  · skip
    refine zr_aload_n hx hb kd_Cl_liesIn_7 hl rfl ?_
    refine zr_geti hS hK kf_Cl_20 hI ha_a hs_a kd_Cl_liesIn_8 ?_
    refine zr_iload_n hx hb kd_Cl_liesIn_11 hl rfl ?_
    refine lv_icmp_ne (tgt := 42) hx hb kd_Cl_liesIn_12 (by decide) (fun h12 => ?_) (fun h12 => ?_)
    · skip
      refine lv_iconst (v := 0) hx hb kd_Cl_liesIn_42 (by decide) ?_
      exact zr_zret hS hK hlk hr (by decide) hI kd_Cl_liesIn_43 (⟨by simp [zf_lies, *], rfl⟩)
    · skip
      refine zr_aload_n hx hb kd_Cl_liesIn_15 hl rfl ?_
      refine zr_geti hS hK kf_Cl_23 hI ha_a hs_a kd_Cl_liesIn_16 ?_
      refine zr_iload_n hx hb kd_Cl_liesIn_19 hl rfl ?_
      refine zr_iload_n hx hb kd_Cl_liesIn_20 hl rfl ?_
      refine lv_iadd hx hb kd_Cl_liesIn_21 ?_
      refine lv_icmp_ge (tgt := 42) hx hb kd_Cl_liesIn_22 (by decide) (fun h22 => ?_) (fun h22 => ?_)
      · skip
        refine lv_iconst (v := 0) hx hb kd_Cl_liesIn_42 (by decide) ?_
        exact zr_zret hS hK hlk hr (by decide) hI kd_Cl_liesIn_43 (⟨by simp [zf_lies, *], rfl⟩)
      · skip
        refine zr_iload_n hx hb kd_Cl_liesIn_25 hl rfl ?_
        refine zr_aload_n hx hb kd_Cl_liesIn_26 hl rfl ?_
        refine zr_geti hS hK kf_Cl_23 hI ha_a hs_a kd_Cl_liesIn_27 ?_
        refine zr_aload_n hx hb kd_Cl_liesIn_30 hl rfl ?_
        refine zr_geti hS hK kf_Cl_17 hI ha_a hs_a kd_Cl_liesIn_31 ?_
        refine lv_iadd hx hb kd_Cl_liesIn_34 ?_
        refine lv_icmp_ge (tgt := 42) hx hb kd_Cl_liesIn_35 (by decide) (fun h35 => ?_) (fun h35 => ?_)
        · skip
          refine lv_iconst (v := 0) hx hb kd_Cl_liesIn_42 (by decide) ?_
          exact zr_zret hS hK hlk hr (by decide) hI kd_Cl_liesIn_43 (⟨by simp [zf_lies, *], rfl⟩)
        · skip
          refine lv_iconst (v := 1) hx hb kd_Cl_liesIn_38 (by decide) ?_
          refine lv_goto (tgt := 43) hx hb kd_Cl_liesIn_39 (by decide) ?_
          exact zr_zret hS hK hlk hr (by decide) hI kd_Cl_liesIn_43 (⟨by simp [zf_lies, *], rfl⟩)
def zf_val (x lv k i o len : Int32) : Int32 :=
  if o ≤ len - 1 - k then (if i ≤ k then zf_at x lv else zf_fd (zf_at x lv * (k + 1)) (i + 1))
  else zf_fd ((if i ≤ k then zf_at x lv else zf_fd (zf_at x lv * (k + 1)) (i + 1)) * (len - k)) (o + 1)
set_option maxRecDepth 100000 in
set_option maxHeartbeats 4000000 in
theorem c_Cl_valueAt (l : Launch) (G : zg_T) (nc : Nat) (sh : Nat → Nat × Nat) (M : zm_T) (a t b f k : Nat) (ha_a : a < nc) (hs_a : sh a = (10 + 0, 0)) (hv_a_0 : M.2.1 a 0 = some t) (ha_a_0 : t < nc) (hs_a_0 : sh t = (10 + 6, 0)) (hv_a_0_0 : M.2.1 t 0 = some b) (ha_a_0_0 : b < nc) (hs_a_0_0 : sh b = (0, 64)) (hf : M.1 a 3 = nI f) (hfk : f + k < 64) (hi : ¬ M.1 a 6 + 1 = 0) (ho : ¬ M.1 a 7 + 1 = 0) : Met l ky_Cl_valueAt (zr_ws ky_Cl_valueAt kc_Cl_valueAt 3 (some .int)) (zr_rm 1) (va_Pc [.ref (G.2.2.1 + a), .int (nI k)] (zm_B G nc sh M)) (va_Qi (fun (r : Int32) (M' : zm_T) => r = zf_val (M.1 b (f + k)) (M.1 a 5) (nI k) (M.1 a 6) (M.1 a 7) (M.1 a 4) ∧ M' = M) (zm_B G nc sh) (zm_A G)) 0 0 (zm_A G) := by
  refine zr_met (by decide +kernel) (Nat.le_of_ble_eq_true rfl) ?_
  intro p0 e0 s0 m0 below meth c0 ls hS hK hlk hr hl hI
  have hx := hS.1
  have hb := hS.2.1
  have hl : zl_has ls 3 [some (.ref (G.2.2.1 + a)), some (.int (nI k)), none] := hl
  have hix : (M.1 a 3 + nI k).toNatClampNeg = f + k := by rw [hf]; exact zn_idx (by omega)
  refine zr_aload_n hx hb kd_Cl_valueAt_0 hl rfl ?_
  refine zr_getr hS hK kf_Cl_7 hI ha_a hs_a hv_a_0 kd_Cl_valueAt_1 ?_
  refine zr_getr hS hK kf_Cl_47 hI ha_a_0 hs_a_0 hv_a_0_0 kd_Cl_valueAt_4 ?_
  refine zr_aload_n hx hb kd_Cl_valueAt_7 hl rfl ?_
  refine zr_geti hS hK kf_Cl_13 hI ha_a hs_a kd_Cl_valueAt_8 ?_
  refine zr_iload_n hx hb kd_Cl_valueAt_11 hl rfl ?_
  refine lv_iadd hx hb kd_Cl_valueAt_12 ?_
  refine zr_iald hS hK hI ha_a_0_0 hs_a_0_0 (by rw [hf, nI_add]; exact vp_in_nI (by omega) (by decide)) kd_Cl_valueAt_13 ?_
  refine zr_aload_n hx hb kd_Cl_valueAt_14 hl rfl ?_
  refine zr_geti hS hK kf_Cl_26 hI ha_a hs_a kd_Cl_valueAt_15 ?_
  refine zr_ci (zr_runS hS hK (c_Mx_atLevel l G nc sh M _ _) km_Cl_53 hI rfl hl.1 (Nat.le_of_ble_eq_true rfl) (by decide) (by decide) kd_Cl_valueAt_18 rfl) hI (fun r18 M18 H locs hp18 hI => ?_)
  obtain ⟨rfl, hM18⟩ := hp18
  rw [hM18] at hI
  refine zr_istore_n hx hb kd_Cl_valueAt_21 hl (by decide) rfl (fun ls hl => ?_)
  refine zr_iload_n hx hb kd_Cl_valueAt_22 hl rfl ?_
  refine zr_aload_n hx hb kd_Cl_valueAt_23 hl rfl ?_
  refine zr_geti hS hK kf_Cl_29 hI ha_a hs_a kd_Cl_valueAt_24 ?_
  refine lv_icmp_ge (tgt := 45) hx hb kd_Cl_valueAt_27 (by decide) (fun h27 => ?_) (fun h27 => ?_)
  · skip
    refine zr_aload_n hx hb kd_Cl_valueAt_45 hl rfl ?_
    refine zr_geti hS hK kf_Cl_17 hI ha_a hs_a kd_Cl_valueAt_46 ?_
    refine lv_iconst (v := 1) hx hb kd_Cl_valueAt_49 (by decide) ?_
    refine lv_isub hx hb kd_Cl_valueAt_50 ?_
    refine zr_iload_n hx hb kd_Cl_valueAt_51 hl rfl ?_
    refine lv_isub hx hb kd_Cl_valueAt_52 ?_
    refine zr_aload_n hx hb kd_Cl_valueAt_53 hl rfl ?_
    refine zr_geti hS hK kf_Cl_32 hI ha_a hs_a kd_Cl_valueAt_54 ?_
    refine lv_icmp_ge (tgt := 78) hx hb kd_Cl_valueAt_57 (by decide) (fun h57 => ?_) (fun h57 => ?_)
    · skip
      refine zr_iload_n hx hb kd_Cl_valueAt_78 hl rfl ?_
      exact zr_iret hS hK hlk hr hI kd_Cl_valueAt_79 (⟨by rw [hix]; simp only [zf_val]; simp only [*, if_true, if_false], rfl⟩)
    · skip
      refine zr_iload_n hx hb kd_Cl_valueAt_60 hl rfl ?_
      refine zr_aload_n hx hb kd_Cl_valueAt_61 hl rfl ?_
      refine zr_geti hS hK kf_Cl_17 hI ha_a hs_a kd_Cl_valueAt_62 ?_
      refine zr_iload_n hx hb kd_Cl_valueAt_65 hl rfl ?_
      refine lv_isub hx hb kd_Cl_valueAt_66 ?_
      refine lv_imul hx hb kd_Cl_valueAt_67 ?_
      refine zr_aload_n hx hb kd_Cl_valueAt_68 hl rfl ?_
      refine zr_geti hS hK kf_Cl_32 hI ha_a hs_a kd_Cl_valueAt_69 ?_
      refine lv_iconst (v := 1) hx hb kd_Cl_valueAt_72 (by decide) ?_
      refine lv_iadd hx hb kd_Cl_valueAt_73 ?_
      refine zr_ci (zr_runS hS hK (c_Ma_floorDiv l G nc sh M _ _ ho) km_Cl_59 hI rfl hl.1 (Nat.le_of_ble_eq_true rfl) (by decide) (by decide) kd_Cl_valueAt_74 rfl) hI (fun r74 M74 H locs hp74 hI => ?_)
      obtain ⟨rfl, hM74⟩ := hp74
      rw [hM74] at hI
      refine zr_istore_n hx hb kd_Cl_valueAt_77 hl (by decide) rfl (fun ls hl => ?_)
      refine zr_iload_n hx hb kd_Cl_valueAt_78 hl rfl ?_
      exact zr_iret hS hK hlk hr hI kd_Cl_valueAt_79 (⟨by rw [hix]; simp only [zf_val]; simp only [*, if_true, if_false], rfl⟩)
  · skip
    refine zr_iload_n hx hb kd_Cl_valueAt_30 hl rfl ?_
    refine zr_iload_n hx hb kd_Cl_valueAt_31 hl rfl ?_
    refine lv_iconst (v := 1) hx hb kd_Cl_valueAt_32 (by decide) ?_
    refine lv_iadd hx hb kd_Cl_valueAt_33 ?_
    refine lv_imul hx hb kd_Cl_valueAt_34 ?_
    refine zr_aload_n hx hb kd_Cl_valueAt_35 hl rfl ?_
    refine zr_geti hS hK kf_Cl_29 hI ha_a hs_a kd_Cl_valueAt_36 ?_
    refine lv_iconst (v := 1) hx hb kd_Cl_valueAt_39 (by decide) ?_
    refine lv_iadd hx hb kd_Cl_valueAt_40 ?_
    refine zr_ci (zr_runS hS hK (c_Ma_floorDiv l G nc sh M _ _ hi) km_Cl_59 hI rfl hl.1 (Nat.le_of_ble_eq_true rfl) (by decide) (by decide) kd_Cl_valueAt_41 rfl) hI (fun r41 M41 H locs hp41 hI => ?_)
    obtain ⟨rfl, hM41⟩ := hp41
    rw [hM41] at hI
    refine zr_istore_n hx hb kd_Cl_valueAt_44 hl (by decide) rfl (fun ls hl => ?_)
    refine zr_aload_n hx hb kd_Cl_valueAt_45 hl rfl ?_
    refine zr_geti hS hK kf_Cl_17 hI ha_a hs_a kd_Cl_valueAt_46 ?_
    refine lv_iconst (v := 1) hx hb kd_Cl_valueAt_49 (by decide) ?_
    refine lv_isub hx hb kd_Cl_valueAt_50 ?_
    refine zr_iload_n hx hb kd_Cl_valueAt_51 hl rfl ?_
    refine lv_isub hx hb kd_Cl_valueAt_52 ?_
    refine zr_aload_n hx hb kd_Cl_valueAt_53 hl rfl ?_
    refine zr_geti hS hK kf_Cl_32 hI ha_a hs_a kd_Cl_valueAt_54 ?_
    refine lv_icmp_ge (tgt := 78) hx hb kd_Cl_valueAt_57 (by decide) (fun h57 => ?_) (fun h57 => ?_)
    · skip
      refine zr_iload_n hx hb kd_Cl_valueAt_78 hl rfl ?_
      exact zr_iret hS hK hlk hr hI kd_Cl_valueAt_79 (⟨by rw [hix]; simp only [zf_val]; simp only [*, if_true, if_false], rfl⟩)
    · skip
      refine zr_iload_n hx hb kd_Cl_valueAt_60 hl rfl ?_
      refine zr_aload_n hx hb kd_Cl_valueAt_61 hl rfl ?_
      refine zr_geti hS hK kf_Cl_17 hI ha_a hs_a kd_Cl_valueAt_62 ?_
      refine zr_iload_n hx hb kd_Cl_valueAt_65 hl rfl ?_
      refine lv_isub hx hb kd_Cl_valueAt_66 ?_
      refine lv_imul hx hb kd_Cl_valueAt_67 ?_
      refine zr_aload_n hx hb kd_Cl_valueAt_68 hl rfl ?_
      refine zr_geti hS hK kf_Cl_32 hI ha_a hs_a kd_Cl_valueAt_69 ?_
      refine lv_iconst (v := 1) hx hb kd_Cl_valueAt_72 (by decide) ?_
      refine lv_iadd hx hb kd_Cl_valueAt_73 ?_
      refine zr_ci (zr_runS hS hK (c_Ma_floorDiv l G nc sh M _ _ ho) km_Cl_59 hI rfl hl.1 (Nat.le_of_ble_eq_true rfl) (by decide) (by decide) kd_Cl_valueAt_74 rfl) hI (fun r74 M74 H locs hp74 hI => ?_)
      obtain ⟨rfl, hM74⟩ := hp74
      rw [hM74] at hI
      refine zr_istore_n hx hb kd_Cl_valueAt_77 hl (by decide) rfl (fun ls hl => ?_)
      refine zr_iload_n hx hb kd_Cl_valueAt_78 hl rfl ?_
      exact zr_iret hS hK hlk hr hI kd_Cl_valueAt_79 (⟨by rw [hix]; simp only [zf_val]; simp only [*, if_true, if_false], rfl⟩)
set_option maxRecDepth 100000 in
set_option maxHeartbeats 4000000 in
theorem c_Cl_splitInto (l : Launch) (G : zg_T) (nc : Nat) (sh : Nat → Nat × Nat) (M : zm_T) (a d t : Nat) (k : Int32) (ha_a : a < nc) (hs_a : sh a = (10 + 0, 0)) (ha_d : d < nc) (hs_d : sh d = (10 + 0, 0)) (hv_a_0 : M.2.1 a 0 = some t) (had : a ≠ d) : Met l ky_Cl_splitInto (zr_ws ky_Cl_splitInto kc_Cl_splitInto 3 none) (zr_rm 1) (va_Pc [.ref (G.2.2.1 + a), .ref (G.2.2.1 + d), .int k] (zm_B G nc sh M)) (va_Qv (fun (M' : zm_T) => M' = zm_ui (zm_ui (zm_ui (zm_ui (zm_ui (zm_ui (zm_ui (zm_ui (zm_ui (zm_ur M d 0 (some t)) d 3 (M.1 a 3 + k)) d 4 (M.1 a 4 - k)) d 1 (M.1 a 1)) d 2 (M.1 a 2 + k)) d 5 (M.1 a 5)) d 6 0) d 7 (M.1 a 7)) a 4 k) a 7 0) (zm_B G nc sh) (zm_A G)) 0 0 (zm_A G) := by
  refine zr_met (by decide +kernel) (Nat.le_of_ble_eq_true rfl) ?_
  intro p0 e0 s0 m0 below meth c0 ls hS hK hlk hr hl hI
  have hx := hS.1
  have hb := hS.2.1
  have hl : zl_has ls 3 [some (.ref (G.2.2.1 + a)), some (.ref (G.2.2.1 + d)), some (.int k)] := hl
  refine zr_aload_n hx hb kd_Cl_splitInto_0 hl rfl ?_
  refine zr_aload_n hx hb kd_Cl_splitInto_1 hl rfl ?_
  refine zr_getr hS hK kf_Cl_7 hI ha_a hs_a hv_a_0 kd_Cl_splitInto_2 ?_
  refine zr_aload_n hx hb kd_Cl_splitInto_5 hl rfl ?_
  refine zr_geti hS hK kf_Cl_13 hI ha_a hs_a kd_Cl_splitInto_6 ?_
  refine zr_iload_n hx hb kd_Cl_splitInto_9 hl rfl ?_
  refine lv_iadd hx hb kd_Cl_splitInto_10 ?_
  refine zr_aload_n hx hb kd_Cl_splitInto_11 hl rfl ?_
  refine zr_geti hS hK kf_Cl_17 hI ha_a hs_a kd_Cl_splitInto_12 ?_
  refine zr_iload_n hx hb kd_Cl_splitInto_15 hl rfl ?_
  refine lv_isub hx hb kd_Cl_splitInto_16 ?_
  refine zr_cv (zr_runV hS hK (c_Cl_cutFrom l G nc sh M d t _ _ ha_d hs_d) km_Cl_35 hI ha_d hs_d rfl hl.1 (Nat.le_of_ble_eq_true rfl) (by decide) (by decide) kd_Cl_splitInto_17 rfl) hI (fun M17 H locs hp17 hI => ?_)
  rw [hp17] at hI
  refine zr_aload_n hx hb kd_Cl_splitInto_20 hl rfl ?_
  refine zr_aload_n hx hb kd_Cl_splitInto_21 hl rfl ?_
  refine zr_geti hS hK kf_Cl_20 hI ha_a hs_a kd_Cl_splitInto_22 ?_
  refine zr_aload_n hx hb kd_Cl_splitInto_25 hl rfl ?_
  refine zr_geti hS hK kf_Cl_23 hI ha_a hs_a kd_Cl_splitInto_26 ?_
  refine zr_iload_n hx hb kd_Cl_splitInto_29 hl rfl ?_
  refine lv_iadd hx hb kd_Cl_splitInto_30 ?_
  refine zr_cv (zr_runV hS hK (c_Cl_layOn l G nc sh _ d _ _ ha_d hs_d) km_Cl_39 hI ha_d hs_d rfl hl.1 (Nat.le_of_ble_eq_true rfl) (by decide) (by decide) kd_Cl_splitInto_31 rfl) hI (fun M31 H locs hp31 hI => ?_)
  rw [hp31] at hI
  refine zr_aload_n hx hb kd_Cl_splitInto_34 hl rfl ?_
  refine zr_aload_n hx hb kd_Cl_splitInto_35 hl rfl ?_
  refine zr_geti hS hK kf_Cl_26 hI ha_a hs_a kd_Cl_splitInto_36 ?_
  refine lv_iconst (v := 0) hx hb kd_Cl_splitInto_39 (by decide) ?_
  refine zr_aload_n hx hb kd_Cl_splitInto_40 hl rfl ?_
  refine zr_geti hS hK kf_Cl_32 hI ha_a hs_a kd_Cl_splitInto_41 ?_
  refine zr_cv (zr_runV hS hK (c_Cl_form l G nc sh _ d _ _ _ ha_d hs_d) km_Cl_43 hI ha_d hs_d rfl hl.1 (Nat.le_of_ble_eq_true rfl) (by decide) (by decide) kd_Cl_splitInto_44 rfl) hI (fun M44 H locs hp44 hI => ?_)
  rw [hp44] at hI
  refine zr_aload_n hx hb kd_Cl_splitInto_47 hl rfl ?_
  refine zr_iload_n hx hb kd_Cl_splitInto_48 hl rfl ?_
  refine zr_puti hS hK kf_Cl_17 hI ha_a hs_a rfl rfl kd_Cl_splitInto_49 (fun H locs hI => ?_)
  refine zr_aload_n hx hb kd_Cl_splitInto_52 hl rfl ?_
  refine lv_iconst (v := 0) hx hb kd_Cl_splitInto_53 (by decide) ?_
  refine zr_puti hS hK kf_Cl_32 hI ha_a hs_a rfl rfl kd_Cl_splitInto_54 (fun H locs hI => ?_)
  exact zr_vret hS hK hlk hr hI kd_Cl_splitInto_57 (by simp only [zm_ui_ne (Or.inl had)]; rfl)

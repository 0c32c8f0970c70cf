/-! The methods that are called ahead of a throw, in their pure form: takes, clips, effects. -/
set_option maxRecDepth 100000 in
set_option maxHeartbeats 4000000 in
theorem d_Ta_isOpen (l : Launch) (G : zg_T) (nc : Nat) (sh : Nat → Nat × Nat) (M : zm_T) (a : Nat) (ha_a : a < nc) (hs_a : sh a = (10 + 6, 0)) : Met l ky_Ta_isOpen (zr_ws ky_Ta_isOpen kc_Ta_isOpen 1 (some .boolean)) (zr_rm 0) (va_Pc [.ref (G.2.2.1 + a)] (zm_B G nc sh M)) (va_Qi (fun (r : Int32) (M' : zm_T) => r = (if M.1 a 1 = 0 then 1 else 0) ∧ M' = M) (zm_B G nc sh) zx_0) 0 0 zx_0 := by
  refine zp_met (by decide +kernel) (Nat.le_of_ble_eq_true rfl) ?_
  intro p0 e0 s0 m0 below meth c0 ls hS hK hlk hr hl hI
  have hx := hS.1
  have hb := hS.2.1
  have hl : zl_has ls 1 [some (.ref (G.2.2.1 + a))] := hl
  refine zr_aload_n hx hb kd_Ta_isOpen_0 hl rfl ?_
  refine zr_geti hS hK kf_Ta_15 hI ha_a hs_a kd_Ta_isOpen_1 ?_
  refine lv_if_ne (tgt := 11) hx hb kd_Ta_isOpen_4 (by decide) (fun h4 => ?_) (fun h4 => ?_)
  · skip
    refine lv_iconst (v := 0) hx hb kd_Ta_isOpen_11 (by decide) ?_
    exact zp_zret hS hK hlk hr (by decide) hI kd_Ta_isOpen_12 (⟨by simp [*], rfl⟩)
  · skip
    refine lv_iconst (v := 1) hx hb kd_Ta_isOpen_7 (by decide) ?_
    refine lv_goto (tgt := 12) hx hb kd_Ta_isOpen_8 (by decide) ?_
    exact zp_zret hS hK hlk hr (by decide) hI kd_Ta_isOpen_12 (⟨by simp [*], rfl⟩)
set_option maxRecDepth 100000 in
set_option maxHeartbeats 4000000 in
theorem d_Ta_readable (l : Launch) (G : zg_T) (nc : Nat) (sh : Nat → Nat × Nat) (M : zm_T) (a : Nat) (ha_a : a < nc) (hs_a : sh a = (10 + 6, 0)) : Met l ky_Ta_readable (zr_ws ky_Ta_readable kc_Ta_readable 1 (some .int)) (zr_rm 1) (va_Pc [.ref (G.2.2.1 + a)] (zm_B G nc sh M)) (va_Qi (fun (r : Int32) (M' : zm_T) => r = (if M.1 a 1 = 0 then 64 else M.1 a 1) ∧ M' = M) (zm_B G nc sh) zx_0) 0 0 zx_0 := by
  refine zp_met (by decide +kernel) (Nat.le_of_ble_eq_true rfl) ?_
  intro p0 e0 s0 m0 below meth c0 ls hS hK hlk hr hl hI
  have hx := hS.1
  have hb := hS.2.1
  have hl : zl_has ls 1 [some (.ref (G.2.2.1 + a))] := hl
  refine zr_aload_n hx hb kd_Ta_readable_0 hl rfl ?_
  refine zp_ci (zp_runV hS hK (d_Ta_isOpen l G nc sh M a ha_a hs_a) km_Ta_19 hI ha_a hs_a rfl hl.1 (Nat.le_of_ble_eq_true rfl) (by decide) (by decide) kd_Ta_readable_1 rfl) (fun r1 M1 hp1 => ?_)
  obtain ⟨rfl, hM1⟩ := hp1
  refine lv_if_eq (tgt := 12) hx hb kd_Ta_readable_4 (by decide) (fun h4 => ?_) (fun h4 => ?_)
  · skip
    refine zr_aload_n hx hb kd_Ta_readable_12 hl rfl ?_
    refine zr_geti hS hK kf_Ta_15 hI ha_a hs_a kd_Ta_readable_13 ?_
    exact zp_iret hS hK hlk hr hI kd_Ta_readable_16 (⟨by revert h4; by_cases h : M.1 a 1 = 0 <;> simp [h], rfl⟩)
  · skip
    refine lv_bipush (v := 64) hx hb kd_Ta_readable_7 (by decide) ?_
    refine lv_goto (tgt := 16) hx hb kd_Ta_readable_9 (by decide) ?_
    exact zp_iret hS hK hlk hr hI kd_Ta_readable_16 (⟨by revert h4; by_cases h : M.1 a 1 = 0 <;> simp [h], rfl⟩)
set_option maxRecDepth 100000 in
set_option maxHeartbeats 4000000 in
theorem d_Sh_has (l : Launch) (G : zg_T) (M : zm_T) (hL : zL M.2) (c : Int32) : Met l ky_Sh_has (zr_ws ky_Sh_has kc_Sh_has 2 (some .boolean)) (zr_rm 1) (va_Pc [.ref (G.2.2.1 + 2), .int c] (zm_B G 183 zs M)) (va_Qi (fun (r : Int32) (M' : zm_T) => r = zf_has M c ∧ M' = M) (zm_B G 183 zs) zx_0) 0 0 zx_0 := by
  refine zp_met (by decide +kernel) (Nat.le_of_ble_eq_true rfl) ?_
  intro p0 e0 s0 m0 below meth c0 ls hS hK hlk hr hl hI
  have hx := hS.1
  have hb := hS.2.1
  have hl : zl_has ls 2 [some (.ref (G.2.2.1 + 2)), some (.int c)] := hl
  have hin : ¬ zf_in c 0 15 = 0 → vp_in c 16 ∧ M.2.1 3 c.toNatClampNeg = some (4 + c.toNatClampNeg) ∧ 4 + c.toNatClampNeg < 183 ∧ zs (4 + c.toNatClampNeg) = (10 + 0, 0) := fun h => by
    obtain ⟨n, hn, rfl⟩ := zf_in_n (n := 15) (by decide) h
    rw [zn_cl (by omega)]
    exact ⟨vp_in_nI (by omega) (by decide), zL_cl hL (by omega), by omega, zs_cl n (by omega)⟩
  refine zr_iload_n hx hb kd_Sh_has_0 hl rfl ?_
  refine lv_iconst (v := 0) hx hb kd_Sh_has_1 (by decide) ?_
  refine lv_bipush (v := 15) hx hb kd_Sh_has_2 (by decide) ?_
  refine zp_ci (zp_runS hS hK (d_Mx_within l G 183 zs M _ _ _) km_Sh_18 hI rfl hl.1 (Nat.le_of_ble_eq_true rfl) (by decide) (by decide) kd_Sh_has_4 rfl) (fun r4 M4 hp4 => ?_)
  obtain ⟨rfl, hM4⟩ := hp4
  refine lv_if_eq (tgt := 26) hx hb kd_Sh_has_7 (by decide) (fun h7 => ?_) (fun h7 => ?_)
  · skip
    refine lv_iconst (v := 0) hx hb kd_Sh_has_26 (by decide) ?_
    exact zp_zret hS hK hlk hr (by decide) hI kd_Sh_has_27 (⟨by simp [zf_has, *], rfl⟩)
  · skip
    refine zr_aload_n hx hb kd_Sh_has_10 hl rfl ?_
    refine zr_getr hS hK kf_Sh_11 hI ha_SH hs_SH (zL_0 hL).2.2.2.1 kd_Sh_has_11 ?_
    refine zr_iload_n hx hb kd_Sh_has_14 hl rfl ?_
    refine zr_aald hS hK hI ha_SH_0 hs_SH_0 (by decide) (by decide) rfl (hin h7).1 (hin h7).2.1 kd_Sh_has_15 ?_
    refine zr_geti hS hK kf_Sh_22 hI (hin h7).2.2.1 (hin h7).2.2.2 kd_Sh_has_16 ?_
    refine lv_if_le (tgt := 26) hx hb kd_Sh_has_19 (by decide) (fun h19 => ?_) (fun h19 => ?_)
    · skip
      refine lv_iconst (v := 0) hx hb kd_Sh_has_26 (by decide) ?_
      exact zp_zret hS hK hlk hr (by decide) hI kd_Sh_has_27 (⟨by simp [zf_has, *], rfl⟩)
    · skip
      refine lv_iconst (v := 1) hx hb kd_Sh_has_22 (by decide) ?_
      refine lv_goto (tgt := 27) hx hb kd_Sh_has_23 (by decide) ?_
      exact zp_zret hS hK hlk hr (by decide) hI kd_Sh_has_27 (⟨by simp [zf_has, *], rfl⟩)
set_option maxRecDepth 100000 in
set_option maxHeartbeats 4000000 in
theorem d_Ef_allows (l : Launch) (G : zg_T) (nc : Nat) (sh : Nat → Nat × Nat) (M : zm_T) (k p' q : Int32) : Met l ky_Ef_allows (zr_ws ky_Ef_allows kc_Ef_allows 3 (some .boolean)) (zr_rm 2) (va_Pc [.int k, .int p', .int q] (zm_B G nc sh M)) (va_Qi (fun (r : Int32) (M' : zm_T) => r = zf_allows k p' q ∧ M' = M) (zm_B G nc sh) zx_0) 0 0 zx_0 := by
  refine zp_met (by decide +kernel) (Nat.le_of_ble_eq_true rfl) ?_
  intro p0 e0 s0 m0 below meth c0 ls hS hK hlk hr hl hI
  have hx := hS.1
  have hb := hS.2.1
  have hl : zl_has ls 3 [some (.int k), some (.int p'), some (.int q)] := hl
  refine zr_iload_n hx hb kd_Ef_allows_0 hl rfl ?_
  by_cases ht_lo : (k).toInt < 0
  · refine lv_tableOut (tgt := 147) hx hb kd_Ef_allows_1 (Or.inl ht_lo) (by decide) ?_
    refine lv_iconst (v := 0) hx hb kd_Ef_allows_147 (by decide) ?_
    exact zp_zret hS hK hlk hr (by first | decide | exact zf_in_z _ _ _) hI kd_Ef_allows_148 (⟨by unfold zf_allows zf_both; first | (simp [*]; done) | (repeat (first | rw [if_neg (by omega)] | rw [if_pos (by omega)])), rfl⟩)
  by_cases ht_hi : 6 < (k).toInt
  · refine lv_tableOut (tgt := 147) hx hb kd_Ef_allows_1 (Or.inr ht_hi) (by decide) ?_
    refine lv_iconst (v := 0) hx hb kd_Ef_allows_147 (by decide) ?_
    exact zp_zret hS hK hlk hr (by first | decide | exact zf_in_z _ _ _) hI kd_Ef_allows_148 (⟨by unfold zf_allows zf_both; first | (simp [*]; done) | (repeat (first | rw [if_neg (by omega)] | rw [if_pos (by omega)])), rfl⟩)
  by_cases ht_0 : (k).toInt = 0
  · refine lv_tableIn (tgt := 44) (off := 43) hx hb kd_Ef_allows_1 ht_lo ht_hi (by rw [ht_0]; rfl) (by decide) ?_
    refine lv_iconst (v := 1) hx hb kd_Ef_allows_44 (by decide) ?_
    exact zp_zret hS hK hlk hr (by first | decide | exact zf_in_z _ _ _) hI kd_Ef_allows_45 (⟨by unfold zf_allows zf_both; first | (simp [*]; done) | (repeat (first | rw [if_neg (by omega)] | rw [if_pos (by omega)])), rfl⟩)
  by_cases ht_1 : (k).toInt = 1
  · refine lv_tableIn (tgt := 46) (off := 45) hx hb kd_Ef_allows_1 ht_lo ht_hi (by rw [ht_1]; rfl) (by decide) ?_
    refine zr_iload_n hx hb kd_Ef_allows_46 hl rfl ?_
    refine zp_ci (zp_runS hS hK (d_Mx_isLevel l G nc sh M _) km_Ef_15 hI rfl hl.1 (Nat.le_of_ble_eq_true rfl) (by decide) (by decide) kd_Ef_allows_47 rfl) (fun r47 M47 hp47 => ?_)
    obtain ⟨rfl, hM47⟩ := hp47
    exact zp_zret hS hK hlk hr (by first | decide | exact zf_in_z _ _ _) hI kd_Ef_allows_50 (⟨by unfold zf_allows zf_both; first | (simp [*]; done) | (repeat (first | rw [if_neg (by omega)] | rw [if_pos (by omega)])), rfl⟩)
  by_cases ht_2 : (k).toInt = 2
  · refine lv_tableIn (tgt := 51) (off := 50) hx hb kd_Ef_allows_1 ht_lo ht_hi (by rw [ht_2]; rfl) (by decide) ?_
    refine zr_iload_n hx hb kd_Ef_allows_51 hl rfl ?_
    refine lv_iconst (v := 0) hx hb kd_Ef_allows_52 (by decide) ?_
    refine lv_sipush (v := 256) hx hb kd_Ef_allows_53 (by decide) ?_
    refine zp_ci (zp_runS hS hK (d_Mx_within l G nc sh M _ _ _) km_Ef_19 hI rfl hl.1 (Nat.le_of_ble_eq_true rfl) (by decide) (by decide) kd_Ef_allows_56 rfl) (fun r56 M56 hp56 => ?_)
    obtain ⟨rfl, hM56⟩ := hp56
    exact zp_zret hS hK hlk hr (by first | decide | exact zf_in_z _ _ _) hI kd_Ef_allows_59 (⟨by unfold zf_allows zf_both; first | (simp [*]; done) | (repeat (first | rw [if_neg (by omega)] | rw [if_pos (by omega)])), rfl⟩)
  by_cases ht_3 : (k).toInt = 3
  · refine lv_tableIn (tgt := 60) (off := 59) hx hb kd_Ef_allows_1 ht_lo ht_hi (by rw [ht_3]; rfl) (by decide) ?_
    refine zr_iload_n hx hb kd_Ef_allows_60 hl rfl ?_
    refine lv_iconst (v := 1) hx hb kd_Ef_allows_61 (by decide) ?_
    refine lv_bipush (v := 32) hx hb kd_Ef_allows_62 (by decide) ?_
    refine zp_ci (zp_runS hS hK (d_Mx_within l G nc sh M _ _ _) km_Ef_19 hI rfl hl.1 (Nat.le_of_ble_eq_true rfl) (by decide) (by decide) kd_Ef_allows_64 rfl) (fun r64 M64 hp64 => ?_)
    obtain ⟨rfl, hM64⟩ := hp64
    refine lv_if_eq (tgt := 85) hx hb kd_Ef_allows_67 (by decide) (fun h67 => ?_) (fun h67 => ?_)
    · skip
      refine lv_iconst (v := 0) hx hb kd_Ef_allows_85 (by decide) ?_
      exact zp_zret hS hK hlk hr (by first | decide | exact zf_in_z _ _ _) hI kd_Ef_allows_86 (⟨by unfold zf_allows zf_both; first | (simp [*]; done) | (repeat (first | rw [if_neg (by omega)] | rw [if_pos (by omega)])), rfl⟩)
    · skip
      refine zr_iload_n hx hb kd_Ef_allows_70 hl rfl ?_
      refine lv_iconst (v := 0) hx hb kd_Ef_allows_71 (by decide) ?_
      refine lv_sipush (v := 255) hx hb kd_Ef_allows_72 (by decide) ?_
      refine zp_ci (zp_runS hS hK (d_Mx_within l G nc sh M _ _ _) km_Ef_19 hI rfl hl.1 (Nat.le_of_ble_eq_true rfl) (by decide) (by decide) kd_Ef_allows_75 rfl) (fun r75 M75 hp75 => ?_)
      obtain ⟨rfl, hM75⟩ := hp75
      refine lv_if_eq (tgt := 85) hx hb kd_Ef_allows_78 (by decide) (fun h78 => ?_) (fun h78 => ?_)
      · skip
        refine lv_iconst (v := 0) hx hb kd_Ef_allows_85 (by decide) ?_
        exact zp_zret hS hK hlk hr (by first | decide | exact zf_in_z _ _ _) hI kd_Ef_allows_86 (⟨by unfold zf_allows zf_both; first | (simp [*]; done) | (repeat (first | rw [if_neg (by omega)] | rw [if_pos (by omega)])), rfl⟩)
      · skip
        refine lv_iconst (v := 1) hx hb kd_Ef_allows_81 (by decide) ?_
        refine lv_goto (tgt := 86) hx hb kd_Ef_allows_82 (by decide) ?_
        exact zp_zret hS hK hlk hr (by first | decide | exact zf_in_z _ _ _) hI kd_Ef_allows_86 (⟨by unfold zf_allows zf_both; first | (simp [*]; done) | (repeat (first | rw [if_neg (by omega)] | rw [if_pos (by omega)])), rfl⟩)
  by_cases ht_4 : (k).toInt = 4
  · refine lv_tableIn (tgt := 87) (off := 86) hx hb kd_Ef_allows_1 ht_lo ht_hi (by rw [ht_4]; rfl) (by decide) ?_
    refine zr_iload_n hx hb kd_Ef_allows_87 hl rfl ?_
    refine lv_iconst (v := 1) hx hb kd_Ef_allows_88 (by decide) ?_
    refine lv_ldc (v := 100000) hx hb hS.2.2.2.1 (hS.2.2.2.2 _ (zw_mem (i := 537) (w := .constant "StripMixer$Effect" 23 100000) (by decide +kernel) rfl)) kd_Ef_allows_89 ?_
    refine zp_ci (zp_runS hS hK (d_Mx_within l G nc sh M _ _ _) km_Ef_19 hI rfl hl.1 (Nat.le_of_ble_eq_true rfl) (by decide) (by decide) kd_Ef_allows_91 rfl) (fun r91 M91 hp91 => ?_)
    obtain ⟨rfl, hM91⟩ := hp91
    refine lv_if_eq (tgt := 111) hx hb kd_Ef_allows_94 (by decide) (fun h94 => ?_) (fun h94 => ?_)
    · skip
      refine lv_iconst (v := 0) hx hb kd_Ef_allows_111 (by decide) ?_
      exact zp_zret hS hK hlk hr (by first | decide | exact zf_in_z _ _ _) hI kd_Ef_allows_112 (⟨by unfold zf_allows zf_both; first | (simp [*]; done) | (repeat (first | rw [if_neg (by omega)] | rw [if_pos (by omega)])), rfl⟩)
    · skip
      refine zr_iload_n hx hb kd_Ef_allows_97 hl rfl ?_
      refine lv_iconst (v := 0) hx hb kd_Ef_allows_98 (by decide) ?_
      refine lv_bipush (v := 16) hx hb kd_Ef_allows_99 (by decide) ?_
      refine zp_ci (zp_runS hS hK (d_Mx_within l G nc sh M _ _ _) km_Ef_19 hI rfl hl.1 (Nat.le_of_ble_eq_true rfl) (by decide) (by decide) kd_Ef_allows_101 rfl) (fun r101 M101 hp101 => ?_)
      obtain ⟨rfl, hM101⟩ := hp101
      refine lv_if_eq (tgt := 111) hx hb kd_Ef_allows_104 (by decide) (fun h104 => ?_) (fun h104 => ?_)
      · skip
        refine lv_iconst (v := 0) hx hb kd_Ef_allows_111 (by decide) ?_
        exact zp_zret hS hK hlk hr (by first | decide | exact zf_in_z _ _ _) hI kd_Ef_allows_112 (⟨by unfold zf_allows zf_both; first | (simp [*]; done) | (repeat (first | rw [if_neg (by omega)] | rw [if_pos (by omega)])), rfl⟩)
      · skip
        refine lv_iconst (v := 1) hx hb kd_Ef_allows_107 (by decide) ?_
        refine lv_goto (tgt := 112) hx hb kd_Ef_allows_108 (by decide) ?_
        exact zp_zret hS hK hlk hr (by first | decide | exact zf_in_z _ _ _) hI kd_Ef_allows_112 (⟨by unfold zf_allows zf_both; first | (simp [*]; done) | (repeat (first | rw [if_neg (by omega)] | rw [if_pos (by omega)])), rfl⟩)
  by_cases ht_5 : (k).toInt = 5
  · refine lv_tableIn (tgt := 113) (off := 112) hx hb kd_Ef_allows_1 ht_lo ht_hi (by rw [ht_5]; rfl) (by decide) ?_
    refine zr_iload_n hx hb kd_Ef_allows_113 hl rfl ?_
    refine lv_iconst (v := 0) hx hb kd_Ef_allows_114 (by decide) ?_
    refine lv_ldc (v := 100000) hx hb hS.2.2.2.1 (hS.2.2.2.2 _ (zw_mem (i := 537) (w := .constant "StripMixer$Effect" 23 100000) (by decide +kernel) rfl)) kd_Ef_allows_115 ?_
    refine zp_ci (zp_runS hS hK (d_Mx_within l G nc sh M _ _ _) km_Ef_19 hI rfl hl.1 (Nat.le_of_ble_eq_true rfl) (by decide) (by decide) kd_Ef_allows_117 rfl) (fun r117 M117 hp117 => ?_)
    obtain ⟨rfl, hM117⟩ := hp117
    refine lv_if_eq (tgt := 137) hx hb kd_Ef_allows_120 (by decide) (fun h120 => ?_) (fun h120 => ?_)
    · skip
      refine lv_iconst (v := 0) hx hb kd_Ef_allows_137 (by decide) ?_
      exact zp_zret hS hK hlk hr (by first | decide | exact zf_in_z _ _ _) hI kd_Ef_allows_138 (⟨by unfold zf_allows zf_both; first | (simp [*]; done) | (repeat (first | rw [if_neg (by omega)] | rw [if_pos (by omega)])), rfl⟩)
    · skip
      refine zr_iload_n hx hb kd_Ef_allows_123 hl rfl ?_
      refine lv_iconst (v := 0) hx hb kd_Ef_allows_124 (by decide) ?_
      refine lv_bipush (v := 64) hx hb kd_Ef_allows_125 (by decide) ?_
      refine zp_ci (zp_runS hS hK (d_Mx_within l G nc sh M _ _ _) km_Ef_19 hI rfl hl.1 (Nat.le_of_ble_eq_true rfl) (by decide) (by decide) kd_Ef_allows_127 rfl) (fun r127 M127 hp127 => ?_)
      obtain ⟨rfl, hM127⟩ := hp127
      refine lv_if_eq (tgt := 137) hx hb kd_Ef_allows_130 (by decide) (fun h130 => ?_) (fun h130 => ?_)
      · skip
        refine lv_iconst (v := 0) hx hb kd_Ef_allows_137 (by decide) ?_
        exact zp_zret hS hK hlk hr (by first | decide | exact zf_in_z _ _ _) hI kd_Ef_allows_138 (⟨by unfold zf_allows zf_both; first | (simp [*]; done) | (repeat (first | rw [if_neg (by omega)] | rw [if_pos (by omega)])), rfl⟩)
      · skip
        refine lv_iconst (v := 1) hx hb kd_Ef_allows_133 (by decide) ?_
        refine lv_goto (tgt := 138) hx hb kd_Ef_allows_134 (by decide) ?_
        exact zp_zret hS hK hlk hr (by first | decide | exact zf_in_z _ _ _) hI kd_Ef_allows_138 (⟨by unfold zf_allows zf_both; first | (simp [*]; done) | (repeat (first | rw [if_neg (by omega)] | rw [if_pos (by omega)])), rfl⟩)
  have ht_6 : (k).toInt = 6 := by omega
  · refine lv_tableIn (tgt := 139) (off := 138) hx hb kd_Ef_allows_1 ht_lo ht_hi (by rw [ht_6]; rfl) (by decide) ?_
    refine zr_iload_n hx hb kd_Ef_allows_139 hl rfl ?_
    refine lv_iconst (v := 0) hx hb kd_Ef_allows_140 (by decide) ?_
    refine lv_ldc (v := 100000) hx hb hS.2.2.2.1 (hS.2.2.2.2 _ (zw_mem (i := 537) (w := .constant "StripMixer$Effect" 23 100000) (by decide +kernel) rfl)) kd_Ef_allows_141 ?_
    refine zp_ci (zp_runS hS hK (d_Mx_within l G nc sh M _ _ _) km_Ef_19 hI rfl hl.1 (Nat.le_of_ble_eq_true rfl) (by decide) (by decide) kd_Ef_allows_143 rfl) (fun r143 M143 hp143 => ?_)
    obtain ⟨rfl, hM143⟩ := hp143
    exact zp_zret hS hK hlk hr (by first | decide | exact zf_in_z _ _ _) hI kd_Ef_allows_146 (⟨by unfold zf_allows zf_both; first | (simp [*]; done) | (repeat (first | rw [if_neg (by omega)] | rw [if_pos (by omega)])), rfl⟩)

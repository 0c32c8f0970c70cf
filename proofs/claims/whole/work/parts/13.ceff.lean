/-! An effect: past 0, kind 1, p 2, q 3, place 4, memory 5; b: its ring of 32. -/
def zf_abs (x : Int32) : Int32 := if 0 ≤ x then x else 0 - x
theorem zf_abs_eq {x : Int32} (h : -2147483648 < x.toInt) : (zf_abs x).toInt = ze_abs x.toInt := by
  have h1 := Int32.toInt_lt x
  unfold zf_abs ze_abs
  by_cases hx : 0 ≤ x
  · have hx' := hx
    rw [Int32.le_iff_toInt_le, show (0 : Int32).toInt = 0 from by decide] at hx'
    rw [if_pos hx, if_neg (by omega)]
  · have hx' := hx
    rw [Int32.le_iff_toInt_le, show (0 : Int32).toInt = 0 from by decide] at hx'
    rw [if_neg hx, if_pos (by omega), zn_sub] <;> rw [show (0 : Int32).toInt = 0 from by decide] <;> omega
set_option maxRecDepth 100000 in
set_option maxHeartbeats 4000000 in
theorem c_Mx_isLevel (l : Launch) (G : zg_T) (nc : Nat) (sh : Nat → Nat × Nat) (M : zm_T) (x : Int32) : Met l ky_Mx_isLevel (zr_ws ky_Mx_isLevel kc_Mx_isLevel 1 (some .boolean)) (zr_rm 1) (va_Pc [.int x] (zm_B G nc sh M)) (va_Qi (fun (r : Int32) (M' : zm_T) => r = zf_in x 0 1024 ∧ M' = M) (zm_B G nc sh) (zm_A G)) 0 0 (zm_A G) := by
  refine zr_met (by decide +kernel) (Nat.le_of_ble_eq_true rfl) ?_
  intro p0 e0 s0 m0 below meth c0 ls hS hK hlk hr hl hI
  have hx := hS.1
  have hb := hS.2.1
  have hl : zl_has ls 1 [some (.int x)] := hl
  refine zr_iload_n hx hb kd_Mx_isLevel_0 hl rfl ?_
  refine lv_iconst (v := 0) hx hb kd_Mx_isLevel_1 (by decide) ?_
  refine lv_sipush (v := 1024) hx hb kd_Mx_isLevel_2 (by decide) ?_
  refine zr_ci (zr_runS hS hK (c_Mx_within l G nc sh M _ _ _) km_Mx_30 hI rfl hl.1 (Nat.le_of_ble_eq_true rfl) (by decide) (by decide) kd_Mx_isLevel_5 rfl) hI (fun r5 M5 H locs hp5 hI => ?_)
  obtain ⟨rfl, hM5⟩ := hp5
  rw [hM5] at hI
  exact zr_zret hS hK hlk hr (by simp [zf_in]; split <;> (try split) <;> rfl) hI kd_Mx_isLevel_8 (⟨rfl, rfl⟩)
theorem zf_in_z (x lo hi : Int32) : narrow .boolean (.int (zf_in x lo hi)) = .int (zf_in x lo hi) := by
  simp [zf_in]; split <;> (try split) <;> rfl
def zf_both (x y : Int32) : Int32 := if x = 0 then 0 else if y = 0 then 0 else 1
def zf_allows (k p q : Int32) : Int32 :=
  if k.toInt = 0 then 1 else if k.toInt = 1 then zf_in p 0 1024 else if k.toInt = 2 then zf_in p 0 256 else if k.toInt = 3 then zf_both (zf_in p 1 32) (zf_in q 0 255)
  else if k.toInt = 4 then zf_both (zf_in p 1 100000) (zf_in q 0 16) else if k.toInt = 5 then zf_both (zf_in p 0 100000) (zf_in q 0 64) else if k.toInt = 6 then zf_in p 0 100000 else 0
set_option maxRecDepth 100000 in
set_option maxHeartbeats 4000000 in
theorem c_Ef_allows (l : Launch) (G : zg_T) (nc : Nat) (sh : Nat → Nat × Nat) (M : zm_T) (k p' q : Int32) : Met l ky_Ef_allows (zr_ws ky_Ef_allows kc_Ef_allows 3 (some .boolean)) (zr_rm 2) (va_Pc [.int k, .int p', .int q] (zm_B G nc sh M)) (va_Qi (fun (r : Int32) (M' : zm_T) => r = zf_allows k p' q ∧ M' = M) (zm_B G nc sh) (zm_A G)) 0 0 (zm_A G) := by
  refine zr_met (by decide +kernel) (Nat.le_of_ble_eq_true rfl) ?_
  intro p0 e0 s0 m0 below meth c0 ls hS hK hlk hr hl hI
  have hx := hS.1
  have hb := hS.2.1
  have hl : zl_has ls 3 [some (.int k), some (.int p'), some (.int q)] := hl
  refine zr_iload_n hx hb kd_Ef_allows_0 hl rfl ?_
  by_cases ht_lo : (k).toInt < 0
  · refine lv_tableOut (tgt := 147) hx hb kd_Ef_allows_1 (Or.inl ht_lo) (by decide) ?_
    refine lv_iconst (v := 0) hx hb kd_Ef_allows_147 (by decide) ?_
    exact zr_zret hS hK hlk hr (by first | decide | exact zf_in_z _ _ _) hI kd_Ef_allows_148 (⟨by unfold zf_allows zf_both; first | (simp [*]; done) | (repeat (first | rw [if_neg (by omega)] | rw [if_pos (by omega)])), rfl⟩)
  by_cases ht_hi : 6 < (k).toInt
  · refine lv_tableOut (tgt := 147) hx hb kd_Ef_allows_1 (Or.inr ht_hi) (by decide) ?_
    refine lv_iconst (v := 0) hx hb kd_Ef_allows_147 (by decide) ?_
    exact zr_zret hS hK hlk hr (by first | decide | exact zf_in_z _ _ _) hI kd_Ef_allows_148 (⟨by unfold zf_allows zf_both; first | (simp [*]; done) | (repeat (first | rw [if_neg (by omega)] | rw [if_pos (by omega)])), rfl⟩)
  by_cases ht_0 : (k).toInt = 0
  · refine lv_tableIn (tgt := 44) (off := 43) hx hb kd_Ef_allows_1 ht_lo ht_hi (by rw [ht_0]; rfl) (by decide) ?_
    refine lv_iconst (v := 1) hx hb kd_Ef_allows_44 (by decide) ?_
    exact zr_zret hS hK hlk hr (by first | decide | exact zf_in_z _ _ _) hI kd_Ef_allows_45 (⟨by unfold zf_allows zf_both; first | (simp [*]; done) | (repeat (first | rw [if_neg (by omega)] | rw [if_pos (by omega)])), rfl⟩)
  by_cases ht_1 : (k).toInt = 1
  · refine lv_tableIn (tgt := 46) (off := 45) hx hb kd_Ef_allows_1 ht_lo ht_hi (by rw [ht_1]; rfl) (by decide) ?_
    refine zr_iload_n hx hb kd_Ef_allows_46 hl rfl ?_
    refine zr_ci (zr_runS hS hK (c_Mx_isLevel l G nc sh M _) km_Ef_15 hI rfl hl.1 (Nat.le_of_ble_eq_true rfl) (by decide) (by decide) kd_Ef_allows_47 rfl) hI (fun r47 M47 H locs hp47 hI => ?_)
    obtain ⟨rfl, hM47⟩ := hp47
    rw [hM47] at hI
    exact zr_zret hS hK hlk hr (by first | decide | exact zf_in_z _ _ _) hI kd_Ef_allows_50 (⟨by unfold zf_allows zf_both; first | (simp [*]; done) | (repeat (first | rw [if_neg (by omega)] | rw [if_pos (by omega)])), rfl⟩)
  by_cases ht_2 : (k).toInt = 2
  · refine lv_tableIn (tgt := 51) (off := 50) hx hb kd_Ef_allows_1 ht_lo ht_hi (by rw [ht_2]; rfl) (by decide) ?_
    refine zr_iload_n hx hb kd_Ef_allows_51 hl rfl ?_
    refine lv_iconst (v := 0) hx hb kd_Ef_allows_52 (by decide) ?_
    refine lv_sipush (v := 256) hx hb kd_Ef_allows_53 (by decide) ?_
    refine zr_ci (zr_runS hS hK (c_Mx_within l G nc sh M _ _ _) km_Ef_19 hI rfl hl.1 (Nat.le_of_ble_eq_true rfl) (by decide) (by decide) kd_Ef_allows_56 rfl) hI (fun r56 M56 H locs hp56 hI => ?_)
    obtain ⟨rfl, hM56⟩ := hp56
    rw [hM56] at hI
    exact zr_zret hS hK hlk hr (by first | decide | exact zf_in_z _ _ _) hI kd_Ef_allows_59 (⟨by unfold zf_allows zf_both; first | (simp [*]; done) | (repeat (first | rw [if_neg (by omega)] | rw [if_pos (by omega)])), rfl⟩)
  by_cases ht_3 : (k).toInt = 3
  · refine lv_tableIn (tgt := 60) (off := 59) hx hb kd_Ef_allows_1 ht_lo ht_hi (by rw [ht_3]; rfl) (by decide) ?_
    refine zr_iload_n hx hb kd_Ef_allows_60 hl rfl ?_
    refine lv_iconst (v := 1) hx hb kd_Ef_allows_61 (by decide) ?_
    refine lv_bipush (v := 32) hx hb kd_Ef_allows_62 (by decide) ?_
    refine zr_ci (zr_runS hS hK (c_Mx_within l G nc sh M _ _ _) km_Ef_19 hI rfl hl.1 (Nat.le_of_ble_eq_true rfl) (by decide) (by decide) kd_Ef_allows_64 rfl) hI (fun r64 M64 H locs hp64 hI => ?_)
    obtain ⟨rfl, hM64⟩ := hp64
    rw [hM64] at hI
    refine lv_if_eq (tgt := 85) hx hb kd_Ef_allows_67 (by decide) (fun h67 => ?_) (fun h67 => ?_)
    · skip
      refine lv_iconst (v := 0) hx hb kd_Ef_allows_85 (by decide) ?_
      exact zr_zret hS hK hlk hr (by first | decide | exact zf_in_z _ _ _) hI kd_Ef_allows_86 (⟨by unfold zf_allows zf_both; first | (simp [*]; done) | (repeat (first | rw [if_neg (by omega)] | rw [if_pos (by omega)])), rfl⟩)
    · skip
      refine zr_iload_n hx hb kd_Ef_allows_70 hl rfl ?_
      refine lv_iconst (v := 0) hx hb kd_Ef_allows_71 (by decide) ?_
      refine lv_sipush (v := 255) hx hb kd_Ef_allows_72 (by decide) ?_
      refine zr_ci (zr_runS hS hK (c_Mx_within l G nc sh M _ _ _) km_Ef_19 hI rfl hl.1 (Nat.le_of_ble_eq_true rfl) (by decide) (by decide) kd_Ef_allows_75 rfl) hI (fun r75 M75 H locs hp75 hI => ?_)
      obtain ⟨rfl, hM75⟩ := hp75
      rw [hM75] at hI
      refine lv_if_eq (tgt := 85) hx hb kd_Ef_allows_78 (by decide) (fun h78 => ?_) (fun h78 => ?_)
      · skip
        refine lv_iconst (v := 0) hx hb kd_Ef_allows_85 (by decide) ?_
        exact zr_zret hS hK hlk hr (by first | decide | exact zf_in_z _ _ _) hI kd_Ef_allows_86 (⟨by unfold zf_allows zf_both; first | (simp [*]; done) | (repeat (first | rw [if_neg (by omega)] | rw [if_pos (by omega)])), rfl⟩)
      · skip
        refine lv_iconst (v := 1) hx hb kd_Ef_allows_81 (by decide) ?_
        refine lv_goto (tgt := 86) hx hb kd_Ef_allows_82 (by decide) ?_
        exact zr_zret hS hK hlk hr (by first | decide | exact zf_in_z _ _ _) hI kd_Ef_allows_86 (⟨by unfold zf_allows zf_both; first | (simp [*]; done) | (repeat (first | rw [if_neg (by omega)] | rw [if_pos (by omega)])), rfl⟩)
  by_cases ht_4 : (k).toInt = 4
  · refine lv_tableIn (tgt := 87) (off := 86) hx hb kd_Ef_allows_1 ht_lo ht_hi (by rw [ht_4]; rfl) (by decide) ?_
    refine zr_iload_n hx hb kd_Ef_allows_87 hl rfl ?_
    refine lv_iconst (v := 1) hx hb kd_Ef_allows_88 (by decide) ?_
    refine lv_ldc (v := 100000) hx hb hS.2.2.2.1 (hS.2.2.2.2 _ (zw_mem (i := 537) (w := .constant "StripMixer$Effect" 23 100000) (by decide +kernel) rfl)) kd_Ef_allows_89 ?_
    refine zr_ci (zr_runS hS hK (c_Mx_within l G nc sh M _ _ _) km_Ef_19 hI rfl hl.1 (Nat.le_of_ble_eq_true rfl) (by decide) (by decide) kd_Ef_allows_91 rfl) hI (fun r91 M91 H locs hp91 hI => ?_)
    obtain ⟨rfl, hM91⟩ := hp91
    rw [hM91] at hI
    refine lv_if_eq (tgt := 111) hx hb kd_Ef_allows_94 (by decide) (fun h94 => ?_) (fun h94 => ?_)
    · skip
      refine lv_iconst (v := 0) hx hb kd_Ef_allows_111 (by decide) ?_
      exact zr_zret hS hK hlk hr (by first | decide | exact zf_in_z _ _ _) hI kd_Ef_allows_112 (⟨by unfold zf_allows zf_both; first | (simp [*]; done) | (repeat (first | rw [if_neg (by omega)] | rw [if_pos (by omega)])), rfl⟩)
    · skip
      refine zr_iload_n hx hb kd_Ef_allows_97 hl rfl ?_
      refine lv_iconst (v := 0) hx hb kd_Ef_allows_98 (by decide) ?_
      refine lv_bipush (v := 16) hx hb kd_Ef_allows_99 (by decide) ?_
      refine zr_ci (zr_runS hS hK (c_Mx_within l G nc sh M _ _ _) km_Ef_19 hI rfl hl.1 (Nat.le_of_ble_eq_true rfl) (by decide) (by decide) kd_Ef_allows_101 rfl) hI (fun r101 M101 H locs hp101 hI => ?_)
      obtain ⟨rfl, hM101⟩ := hp101
      rw [hM101] at hI
      refine lv_if_eq (tgt := 111) hx hb kd_Ef_allows_104 (by decide) (fun h104 => ?_) (fun h104 => ?_)
      · skip
        refine lv_iconst (v := 0) hx hb kd_Ef_allows_111 (by decide) ?_
        exact zr_zret hS hK hlk hr (by first | decide | exact zf_in_z _ _ _) hI kd_Ef_allows_112 (⟨by unfold zf_allows zf_both; first | (simp [*]; done) | (repeat (first | rw [if_neg (by omega)] | rw [if_pos (by omega)])), rfl⟩)
      · skip
        refine lv_iconst (v := 1) hx hb kd_Ef_allows_107 (by decide) ?_
        refine lv_goto (tgt := 112) hx hb kd_Ef_allows_108 (by decide) ?_
        exact zr_zret hS hK hlk hr (by first | decide | exact zf_in_z _ _ _) hI kd_Ef_allows_112 (⟨by unfold zf_allows zf_both; first | (simp [*]; done) | (repeat (first | rw [if_neg (by omega)] | rw [if_pos (by omega)])), rfl⟩)
  by_cases ht_5 : (k).toInt = 5
  · refine lv_tableIn (tgt := 113) (off := 112) hx hb kd_Ef_allows_1 ht_lo ht_hi (by rw [ht_5]; rfl) (by decide) ?_
    refine zr_iload_n hx hb kd_Ef_allows_113 hl rfl ?_
    refine lv_iconst (v := 0) hx hb kd_Ef_allows_114 (by decide) ?_
    refine lv_ldc (v := 100000) hx hb hS.2.2.2.1 (hS.2.2.2.2 _ (zw_mem (i := 537) (w := .constant "StripMixer$Effect" 23 100000) (by decide +kernel) rfl)) kd_Ef_allows_115 ?_
    refine zr_ci (zr_runS hS hK (c_Mx_within l G nc sh M _ _ _) km_Ef_19 hI rfl hl.1 (Nat.le_of_ble_eq_true rfl) (by decide) (by decide) kd_Ef_allows_117 rfl) hI (fun r117 M117 H locs hp117 hI => ?_)
    obtain ⟨rfl, hM117⟩ := hp117
    rw [hM117] at hI
    refine lv_if_eq (tgt := 137) hx hb kd_Ef_allows_120 (by decide) (fun h120 => ?_) (fun h120 => ?_)
    · skip
      refine lv_iconst (v := 0) hx hb kd_Ef_allows_137 (by decide) ?_
      exact zr_zret hS hK hlk hr (by first | decide | exact zf_in_z _ _ _) hI kd_Ef_allows_138 (⟨by unfold zf_allows zf_both; first | (simp [*]; done) | (repeat (first | rw [if_neg (by omega)] | rw [if_pos (by omega)])), rfl⟩)
    · skip
      refine zr_iload_n hx hb kd_Ef_allows_123 hl rfl ?_
      refine lv_iconst (v := 0) hx hb kd_Ef_allows_124 (by decide) ?_
      refine lv_bipush (v := 64) hx hb kd_Ef_allows_125 (by decide) ?_
      refine zr_ci (zr_runS hS hK (c_Mx_within l G nc sh M _ _ _) km_Ef_19 hI rfl hl.1 (Nat.le_of_ble_eq_true rfl) (by decide) (by decide) kd_Ef_allows_127 rfl) hI (fun r127 M127 H locs hp127 hI => ?_)
      obtain ⟨rfl, hM127⟩ := hp127
      rw [hM127] at hI
      refine lv_if_eq (tgt := 137) hx hb kd_Ef_allows_130 (by decide) (fun h130 => ?_) (fun h130 => ?_)
      · skip
        refine lv_iconst (v := 0) hx hb kd_Ef_allows_137 (by decide) ?_
        exact zr_zret hS hK hlk hr (by first | decide | exact zf_in_z _ _ _) hI kd_Ef_allows_138 (⟨by unfold zf_allows zf_both; first | (simp [*]; done) | (repeat (first | rw [if_neg (by omega)] | rw [if_pos (by omega)])), rfl⟩)
      · skip
        refine lv_iconst (v := 1) hx hb kd_Ef_allows_133 (by decide) ?_
        refine lv_goto (tgt := 138) hx hb kd_Ef_allows_134 (by decide) ?_
        exact zr_zret hS hK hlk hr (by first | decide | exact zf_in_z _ _ _) hI kd_Ef_allows_138 (⟨by unfold zf_allows zf_both; first | (simp [*]; done) | (repeat (first | rw [if_neg (by omega)] | rw [if_pos (by omega)])), rfl⟩)
  have ht_6 : (k).toInt = 6 := by omega
  · refine lv_tableIn (tgt := 139) (off := 138) hx hb kd_Ef_allows_1 ht_lo ht_hi (by rw [ht_6]; rfl) (by decide) ?_
    refine zr_iload_n hx hb kd_Ef_allows_139 hl rfl ?_
    refine lv_iconst (v := 0) hx hb kd_Ef_allows_140 (by decide) ?_
    refine lv_ldc (v := 100000) hx hb hS.2.2.2.1 (hS.2.2.2.2 _ (zw_mem (i := 537) (w := .constant "StripMixer$Effect" 23 100000) (by decide +kernel) rfl)) kd_Ef_allows_141 ?_
    refine zr_ci (zr_runS hS hK (c_Mx_within l G nc sh M _ _ _) km_Ef_19 hI rfl hl.1 (Nat.le_of_ble_eq_true rfl) (by decide) (by decide) kd_Ef_allows_143 rfl) hI (fun r143 M143 H locs hp143 hI => ?_)
    obtain ⟨rfl, hM143⟩ := hp143
    rw [hM143] at hI
    exact zr_zret hS hK hlk hr (by first | decide | exact zf_in_z _ _ _) hI kd_Ef_allows_146 (⟨by unfold zf_allows zf_both; first | (simp [*]; done) | (repeat (first | rw [if_neg (by omega)] | rw [if_pos (by omega)])), rfl⟩)
set_option maxRecDepth 100000 in
set_option maxHeartbeats 4000000 in
theorem c_Ef_become (l : Launch) (G : zg_T) (nc : Nat) (sh : Nat → Nat × Nat) (M : zm_T) (a : Nat) (x y z : Int32) (ha_a : a < nc) (hs_a : sh a = (10 + 2, 0)) : Met l ky_Ef_become (zr_ws ky_Ef_become kc_Ef_become 4 none) (zr_rm 0) (va_Pc [.ref (G.2.2.1 + a), .int x, .int y, .int z] (zm_B G nc sh M)) (va_Qv (fun (M' : zm_T) => M' = zm_ui (zm_ui (zm_ui M a 1 x) a 2 y) a 3 z) (zm_B G nc sh) (zm_A G)) 0 0 (zm_A G) := by
  refine zr_met (by decide +kernel) (Nat.le_of_ble_eq_true rfl) ?_
  intro p0 e0 s0 m0 below meth c0 ls hS hK hlk hr hl hI
  have hx := hS.1
  have hb := hS.2.1
  have hl : zl_has ls 4 [some (.ref (G.2.2.1 + a)), some (.int x), some (.int y), some (.int z)] := hl
  refine zr_aload_n hx hb kd_Ef_become_0 hl rfl ?_
  refine zr_iload_n hx hb kd_Ef_become_1 hl rfl ?_
  refine zr_puti hS hK kf_Ef_24 hI ha_a hs_a rfl rfl kd_Ef_become_2 (fun H locs hI => ?_)
  refine zr_aload_n hx hb kd_Ef_become_5 hl rfl ?_
  refine zr_iload_n hx hb kd_Ef_become_6 hl rfl ?_
  refine zr_puti hS hK kf_Ef_28 hI ha_a hs_a rfl rfl kd_Ef_become_7 (fun H locs hI => ?_)
  refine zr_aload_n hx hb kd_Ef_become_10 hl rfl ?_
  refine zr_iload_n hx hb kd_Ef_become_11 hl rfl ?_
  refine zr_puti hS hK kf_Ef_31 hI ha_a hs_a rfl rfl kd_Ef_become_12 (fun H locs hI => ?_)
  exact zr_vret hS hK hlk hr hI kd_Ef_become_15 (rfl)
set_option maxRecDepth 100000 in
set_option maxHeartbeats 4000000 in
theorem c_Ef_ownDelay (l : Launch) (G : zg_T) (nc : Nat) (sh : Nat → Nat × Nat) (M : zm_T) (a : Nat) (ha_a : a < nc) (hs_a : sh a = (10 + 2, 0)) : Met l ky_Ef_ownDelay (zr_ws ky_Ef_ownDelay kc_Ef_ownDelay 1 (some .int)) (zr_rm 0) (va_Pc [.ref (G.2.2.1 + a)] (zm_B G nc sh M)) (va_Qi (fun (r : Int32) (M' : zm_T) => r = (if M.1 a 1 = 4 then M.1 a 3 else 0) ∧ M' = M) (zm_B G nc sh) (zm_A G)) 0 0 (zm_A G) := by
  refine zr_met (by decide +kernel) (Nat.le_of_ble_eq_true rfl) ?_
  intro p0 e0 s0 m0 below meth c0 ls hS hK hlk hr hl hI
  have hx := hS.1
  have hb := hS.2.1
  have hl : zl_has ls 1 [some (.ref (G.2.2.1 + a))] := hl
  refine zr_aload_n hx hb kd_Ef_ownDelay_0 hl rfl ?_
  refine zr_geti hS hK kf_Ef_24 hI ha_a hs_a kd_Ef_ownDelay_1 ?_
  refine lv_iconst (v := 4) hx hb kd_Ef_ownDelay_4 (by decide) ?_
  refine lv_icmp_ne (tgt := 15) hx hb kd_Ef_ownDelay_5 (by decide) (fun h5 => ?_) (fun h5 => ?_)
  · skip
    refine lv_iconst (v := 0) hx hb kd_Ef_ownDelay_15 (by decide) ?_
    exact zr_iret hS hK hlk hr hI kd_Ef_ownDelay_16 (⟨by simp [*], rfl⟩)
  · skip
    refine zr_aload_n hx hb kd_Ef_ownDelay_8 hl rfl ?_
    refine zr_geti hS hK kf_Ef_31 hI ha_a hs_a kd_Ef_ownDelay_9 ?_
    refine lv_goto (tgt := 16) hx hb kd_Ef_ownDelay_12 (by decide) ?_
    exact zr_iret hS hK hlk hr hI kd_Ef_ownDelay_16 (⟨by simp [*], rfl⟩)
set_option maxRecDepth 100000 in
set_option maxHeartbeats 4000000 in
theorem c_Ef_forget (l : Launch) (G : zg_T) (nc : Nat) (sh : Nat → Nat × Nat) (M : zm_T) (a b : Nat) (ha_a : a < nc) (hs_a : sh a = (10 + 2, 0)) (hv_a_0 : M.2.1 a 0 = some b) (ha_a_0 : b < nc) (hs_a_0 : sh b = (0, 32)) : Met l ky_Ef_forget (zr_ws ky_Ef_forget kc_Ef_forget 1 none) (zr_rm 1) (va_Pc [.ref (G.2.2.1 + a)] (zm_B G nc sh M)) (va_Qv (fun (M' : zm_T) => M' = zm_ui (zm_ui (zm_seg M b 0 32 (fun _ => 0)) a 4 0) a 5 0) (zm_B G nc sh) (zm_A G)) 0 0 (zm_A G) := by
  refine zr_met (by decide +kernel) (Nat.le_of_ble_eq_true rfl) ?_
  intro p0 e0 s0 m0 below meth c0 ls hS hK hlk hr hl hI
  have hx := hS.1
  have hb := hS.2.1
  have hl : zl_has ls 1 [some (.ref (G.2.2.1 + a))] := hl
  refine zr_aload_n hx hb kd_Ef_forget_0 hl rfl ?_
  refine zr_getr hS hK kf_Ef_11 hI ha_a hs_a hv_a_0 kd_Ef_forget_1 ?_
  refine lv_iconst (v := 0) hx hb kd_Ef_forget_4 (by decide) ?_
  refine zr_cv (zr_runS hS hK (c_Ar_fill_aIIV l G nc sh M b 32 _ ha_a_0 hs_a_0 (by decide)) km_Ef_34 hI rfl hl.1 (Nat.le_of_ble_eq_true rfl) (by decide) (by decide) kd_Ef_forget_5 rfl) hI (fun M5 H locs hp5 hI => ?_)
  rw [hp5] at hI
  refine zr_aload_n hx hb kd_Ef_forget_8 hl rfl ?_
  refine lv_iconst (v := 0) hx hb kd_Ef_forget_9 (by decide) ?_
  refine zr_puti hS hK kf_Ef_40 hI ha_a hs_a rfl rfl kd_Ef_forget_10 (fun H locs hI => ?_)
  refine zr_aload_n hx hb kd_Ef_forget_13 hl rfl ?_
  refine lv_iconst (v := 0) hx hb kd_Ef_forget_14 (by decide) ?_
  refine zr_puti hS hK kf_Ef_43 hI ha_a hs_a rfl rfl kd_Ef_forget_15 (fun H locs hI => ?_)
  exact zr_vret hS hK hlk hr hI kd_Ef_forget_18 (rfl)
set_option maxRecDepth 100000 in
set_option maxHeartbeats 4000000 in
theorem c_Ef_echo (l : Launch) (G : zg_T) (nc : Nat) (sh : Nat → Nat × Nat) (M : zm_T) (a b pl : Nat) (x : Int32) (ha_a : a < nc) (hs_a : sh a = (10 + 2, 0)) (hv_a_0 : M.2.1 a 0 = some b) (ha_a_0 : b < nc) (hs_a_0 : sh b = (0, 32)) (hab : a ≠ b) (hpl : M.1 a 4 = nI pl) (hp32 : pl < 32) : Met l ky_Ef_echo (zr_ws ky_Ef_echo kc_Ef_echo 3 (some .int)) (zr_rm 2) (va_Pc [.ref (G.2.2.1 + a), .int x] (zm_B G nc sh M)) (va_Qi (fun (r : Int32) (M' : zm_T) => r = zf_cut (x + zf_at (M.1 b pl) (M.1 a 3)) ∧ M' = zm_ui (zm_ui M b pl (zf_cut (x + zf_at (M.1 b pl) (M.1 a 3)))) a 4 (if M.1 a 2 ≤ nI pl + 1 then 0 else nI pl + 1)) (zm_B G nc sh) (zm_A G)) 0 0 (zm_A G) := by
  refine zr_met (by decide +kernel) (Nat.le_of_ble_eq_true rfl) ?_
  intro p0 e0 s0 m0 below meth c0 ls hS hK hlk hr hl hI
  have hx := hS.1
  have hb := hS.2.1
  have hl : zl_has ls 3 [some (.ref (G.2.2.1 + a)), some (.int x), none] := hl
  have hix : (M.1 a 4).toNatClampNeg = pl := by rw [hpl]; exact zn_cl (by omega)
  have hin : vp_in (M.1 a 4) 32 := by rw [hpl]; exact vp_in_nI hp32 (by decide)
  refine zr_iload_n hx hb kd_Ef_echo_0 hl rfl ?_
  refine zr_aload_n hx hb kd_Ef_echo_1 hl rfl ?_
  refine zr_getr hS hK kf_Ef_11 hI ha_a hs_a hv_a_0 kd_Ef_echo_2 ?_
  refine zr_aload_n hx hb kd_Ef_echo_5 hl rfl ?_
  refine zr_geti hS hK kf_Ef_40 hI ha_a hs_a kd_Ef_echo_6 ?_
  refine zr_iald hS hK hI ha_a_0 hs_a_0 hin kd_Ef_echo_9 ?_
  refine zr_aload_n hx hb kd_Ef_echo_10 hl rfl ?_
  refine zr_geti hS hK kf_Ef_31 hI ha_a hs_a kd_Ef_echo_11 ?_
  refine zr_ci (zr_runS hS hK (c_Mx_atLevel l G nc sh M _ _) km_Ef_46 hI rfl hl.1 (Nat.le_of_ble_eq_true rfl) (by decide) (by decide) kd_Ef_echo_14 rfl) hI (fun r14 M14 H locs hp14 hI => ?_)
  obtain ⟨rfl, hM14⟩ := hp14
  rw [hM14] at hI
  refine lv_iadd hx hb kd_Ef_echo_17 ?_
  refine zr_ci (zr_runS hS hK (c_Mx_cut l G nc sh M _) km_Ef_50 hI rfl hl.1 (Nat.le_of_ble_eq_true rfl) (by decide) (by decide) kd_Ef_echo_18 rfl) hI (fun r18 M18 H locs hp18 hI => ?_)
  obtain ⟨rfl, hM18⟩ := hp18
  rw [hM18] at hI
  refine zr_istore_n hx hb kd_Ef_echo_21 hl (by decide) rfl (fun ls hl => ?_)
  refine zr_aload_n hx hb kd_Ef_echo_22 hl rfl ?_
  refine zr_getr hS hK kf_Ef_11 hI ha_a hs_a hv_a_0 kd_Ef_echo_23 ?_
  refine zr_aload_n hx hb kd_Ef_echo_26 hl rfl ?_
  refine zr_geti hS hK kf_Ef_40 hI ha_a hs_a kd_Ef_echo_27 ?_
  refine zr_iload_n hx hb kd_Ef_echo_30 hl rfl ?_
  refine zr_iast hS hK hI ha_a_0 hs_a_0 hin kd_Ef_echo_31 (fun H locs hI => ?_)
  refine zr_aload_n hx hb kd_Ef_echo_32 hl rfl ?_
  refine zr_aload_n hx hb kd_Ef_echo_33 hl rfl ?_
  refine zr_geti hS hK kf_Ef_40 hI ha_a hs_a kd_Ef_echo_34 ?_
  refine lv_iconst (v := 1) hx hb kd_Ef_echo_37 (by decide) ?_
  refine lv_iadd hx hb kd_Ef_echo_38 ?_
  refine zr_aload_n hx hb kd_Ef_echo_39 hl rfl ?_
  refine zr_geti hS hK kf_Ef_28 hI ha_a hs_a kd_Ef_echo_40 ?_
  refine lv_icmp_ge (tgt := 55) hx hb kd_Ef_echo_43 (by decide) (fun h43 => ?_) (fun h43 => ?_)
  · skip
    refine lv_iconst (v := 0) hx hb kd_Ef_echo_55 (by decide) ?_
    refine zr_puti hS hK kf_Ef_40 hI ha_a hs_a rfl rfl kd_Ef_echo_56 (fun H locs hI => ?_)
    refine zr_iload_n hx hb kd_Ef_echo_59 hl rfl ?_
    exact zr_iret hS hK hlk hr hI kd_Ef_echo_60 (⟨by rw [hix], by have h := h43; simp only [hix, zm_ui_ne (Or.inl hab), hpl, zn_cl (show pl < 2147483648 by omega)] at h ⊢; simp only [h, if_true, if_false]⟩)
  · skip
    refine zr_aload_n hx hb kd_Ef_echo_46 hl rfl ?_
    refine zr_geti hS hK kf_Ef_40 hI ha_a hs_a kd_Ef_echo_47 ?_
    refine lv_iconst (v := 1) hx hb kd_Ef_echo_50 (by decide) ?_
    refine lv_iadd hx hb kd_Ef_echo_51 ?_
    refine lv_goto (tgt := 56) hx hb kd_Ef_echo_52 (by decide) ?_
    refine zr_puti hS hK kf_Ef_40 hI ha_a hs_a rfl rfl kd_Ef_echo_56 (fun H locs hI => ?_)
    refine zr_iload_n hx hb kd_Ef_echo_59 hl rfl ?_
    exact zr_iret hS hK hlk hr hI kd_Ef_echo_60 (⟨by rw [hix], by have h := h43; simp only [hix, zm_ui_ne (Or.inl hab), hpl, zn_cl (show pl < 2147483648 by omega)] at h ⊢; simp only [h, if_true, if_false]⟩)
def zf_gate (M : zm_T) (a : Nat) (x : Int32) : Int32 × zm_T :=
  if zf_abs x < M.1 a 2 then (if M.1 a 5 = 0 then (0, M) else (x, zm_ui M a 5 (M.1 a 5 - 1)))
  else (if M.1 a 3 + 1 = 0 then (0, zm_ui M a 5 (M.1 a 3 + 1)) else (x, zm_ui (zm_ui M a 5 (M.1 a 3 + 1)) a 5 (M.1 a 3 + 1 - 1)))
set_option maxRecDepth 100000 in
set_option maxHeartbeats 4000000 in
theorem c_Ef_gate (l : Launch) (G : zg_T) (nc : Nat) (sh : Nat → Nat × Nat) (M : zm_T) (a : Nat) (x : Int32) (ha_a : a < nc) (hs_a : sh a = (10 + 2, 0)) : Met l ky_Ef_gate (zr_ws ky_Ef_gate kc_Ef_gate 2 (some .int)) (zr_rm 1) (va_Pc [.ref (G.2.2.1 + a), .int x] (zm_B G nc sh M)) (va_Qi (fun (r : Int32) (M' : zm_T) => r = (zf_gate M a x).1 ∧ M' = (zf_gate M a x).2) (zm_B G nc sh) (zm_A G)) 0 0 (zm_A G) := by
  refine zr_met (by decide +kernel) (Nat.le_of_ble_eq_true rfl) ?_
  intro p0 e0 s0 m0 below meth c0 ls hS hK hlk hr hl hI
  have hx := hS.1
  have hb := hS.2.1
  have hl : zl_has ls 2 [some (.ref (G.2.2.1 + a)), some (.int x)] := hl
  refine zr_iload_n hx hb kd_Ef_gate_0 hl rfl ?_
  refine va_mabs hx hb (hS.2.2.1.trans hl.1.symm) hS.2.2.2.1 (hS.2.2.2.2 _ (zw_mem (i := 976) rfl rfl)) (hS.2.2.2.2 _ (zw_mem (i := 977) rfl rfl)) (hS.2.2.2.2 _ (zw_mem (i := 49) rfl rfl)) (hS.2.2.2.2 _ (zw_mem (i := 978) rfl rfl)) (by decide) (Nat.le_of_ble_eq_true rfl) (by decide) (by decide) kd_Ef_gate_1 ?_
  refine zr_aload_n hx hb kd_Ef_gate_4 hl rfl ?_
  refine zr_geti hS hK kf_Ef_28 hI ha_a hs_a kd_Ef_gate_5 ?_
  refine lv_icmp_lt (tgt := 21) hx hb kd_Ef_gate_8 (by decide) (fun h8 => ?_) (fun h8 => ?_)
  · skip
    refine zr_aload_n hx hb kd_Ef_gate_21 hl rfl ?_
    refine zr_geti hS hK kf_Ef_43 hI ha_a hs_a kd_Ef_gate_22 ?_
    refine lv_if_ne (tgt := 30) hx hb kd_Ef_gate_25 (by decide) (fun h25 => ?_) (fun h25 => ?_)
    · skip
      refine zr_aload_n hx hb kd_Ef_gate_30 hl rfl ?_
      refine lv_dup hx hb kd_Ef_gate_31 rfl ?_
      refine zr_geti hS hK kf_Ef_43 hI ha_a hs_a kd_Ef_gate_32 ?_
      refine lv_iconst (v := 1) hx hb kd_Ef_gate_35 (by decide) ?_
      refine lv_isub hx hb kd_Ef_gate_36 ?_
      refine zr_puti hS hK kf_Ef_43 hI ha_a hs_a rfl rfl kd_Ef_gate_37 (fun H locs hI => ?_)
      refine zr_iload_n hx hb kd_Ef_gate_40 hl rfl ?_
      exact zr_iret hS hK hlk hr hI kd_Ef_gate_41 (by (try simp only [zm_ui_at] at h25); simp only [zf_gate, zf_abs, h8, h25, if_true, if_false]; first | exact ⟨rfl, rfl⟩ | exact ⟨trivial, by rw [zm_ui_at]⟩ | trivial)
    · skip
      refine lv_iconst (v := 0) hx hb kd_Ef_gate_28 (by decide) ?_
      exact zr_iret hS hK hlk hr hI kd_Ef_gate_29 (by (try simp only [zm_ui_at] at h25); simp only [zf_gate, zf_abs, h8, h25, if_true, if_false]; first | exact ⟨rfl, rfl⟩ | exact ⟨trivial, by rw [zm_ui_at]⟩ | trivial)
  · skip
    refine zr_aload_n hx hb kd_Ef_gate_11 hl rfl ?_
    refine zr_aload_n hx hb kd_Ef_gate_12 hl rfl ?_
    refine zr_geti hS hK kf_Ef_31 hI ha_a hs_a kd_Ef_gate_13 ?_
    refine lv_iconst (v := 1) hx hb kd_Ef_gate_16 (by decide) ?_
    refine lv_iadd hx hb kd_Ef_gate_17 ?_
    refine zr_puti hS hK kf_Ef_43 hI ha_a hs_a rfl rfl kd_Ef_gate_18 (fun H locs hI => ?_)
    refine zr_aload_n hx hb kd_Ef_gate_21 hl rfl ?_
    refine zr_geti hS hK kf_Ef_43 hI ha_a hs_a kd_Ef_gate_22 ?_
    refine lv_if_ne (tgt := 30) hx hb kd_Ef_gate_25 (by decide) (fun h25 => ?_) (fun h25 => ?_)
    · skip
      refine zr_aload_n hx hb kd_Ef_gate_30 hl rfl ?_
      refine lv_dup hx hb kd_Ef_gate_31 rfl ?_
      refine zr_geti hS hK kf_Ef_43 hI ha_a hs_a kd_Ef_gate_32 ?_
      refine lv_iconst (v := 1) hx hb kd_Ef_gate_35 (by decide) ?_
      refine lv_isub hx hb kd_Ef_gate_36 ?_
      refine zr_puti hS hK kf_Ef_43 hI ha_a hs_a rfl rfl kd_Ef_gate_37 (fun H locs hI => ?_)
      refine zr_iload_n hx hb kd_Ef_gate_40 hl rfl ?_
      exact zr_iret hS hK hlk hr hI kd_Ef_gate_41 (by (try simp only [zm_ui_at] at h25); simp only [zf_gate, zf_abs, h8, h25, if_true, if_false]; first | exact ⟨rfl, rfl⟩ | exact ⟨trivial, by rw [zm_ui_at]⟩ | trivial)
    · skip
      refine lv_iconst (v := 0) hx hb kd_Ef_gate_28 (by decide) ?_
      exact zr_iret hS hK hlk hr hI kd_Ef_gate_29 (by (try simp only [zm_ui_at] at h25); simp only [zf_gate, zf_abs, h8, h25, if_true, if_false]; first | exact ⟨rfl, rfl⟩ | exact ⟨trivial, by rw [zm_ui_at]⟩ | trivial)
set_option maxRecDepth 100000 in
set_option maxHeartbeats 4000000 in
theorem c_Ef_greatestPast (l : Launch) (G : zg_T) (nc : Nat) (sh : Nat → Nat × Nat) (M : zm_T) (a b q : Nat) (ha_a : a < nc) (hs_a : sh a = (10 + 2, 0)) (hv_a_0 : M.2.1 a 0 = some b) (ha_a_0 : b < nc) (hs_a_0 : sh b = (0, 32)) (hq : M.1 a 3 = nI q) (hq16 : q ≤ 16) (hpa : ∀ i, i < 32 → -2147483648 < (M.1 b i).toInt) : Met l ky_Ef_greatestPast (zr_ws ky_Ef_greatestPast kc_Ef_greatestPast 3 (some .int)) (zr_rm 1) (va_Pc [.ref (G.2.2.1 + a)] (zm_B G nc sh M)) (va_Qi (fun (r : Int32) (M' : zm_T) => ze_max (fun i => ze_abs (M.1 b i).toInt) (q + 1) r.toInt ∧ M' = M) (zm_B G nc sh) (zm_A G)) 0 0 (zm_A G) := by
  refine zr_met (by decide +kernel) (Nat.le_of_ble_eq_true rfl) ?_
  intro p0 e0 s0 m0 below meth c0 ls hS hK hlk hr hl hI
  have hx := hS.1
  have hb := hS.2.1
  have hl : zl_has ls 3 [some (.ref (G.2.2.1 + a)), none, none] := hl
  have loop : ∀ (k d : Nat) (mo : Int32) (H : Heap) (locs : List Loc) (ls : Array Slot), d + k = q + 1 → ze_max (fun i => ze_abs (M.1 b i).toInt) d mo.toInt → zm_I G nc sh M s0 H locs → zl_has ls 3 [some (.ref (G.2.2.1 + a)), some (.int mo), some (.int (nI d))] → W p0 l e0 (zr_rm 1) s0 m0 ([.ref (G.2.2.1 + a)] : List Value).toArray below meth c0 H locs 0 0 (MQ below (va_Qi (fun (r : Int32) (M' : zm_T) => ze_max (fun i => ze_abs (M.1 b i).toInt) (q + 1) r.toInt ∧ M' = M) (zm_B G nc sh) (zm_A G)) ([.ref (G.2.2.1 + a)] : List Value).toArray s0 0 0 (zm_A G)) (F0 m0 4 ls []) := by
    intro k
    induction k with
    | zero =>
      intro d mo H locs ls hd hm hI hl
      obtain rfl : d = q + 1 := by omega
      refine zr_iload_n hx hb kd_Ef_greatestPast_4 hl rfl ?_
      refine zr_aload_n hx hb kd_Ef_greatestPast_5 hl rfl ?_
      refine zr_geti hS hK kf_Ef_31 hI ha_a hs_a kd_Ef_greatestPast_6 ?_
      refine lv_icmp_gt (tgt := 32) hx hb kd_Ef_greatestPast_9 (by decide) (fun h9 => ?_) (fun h9 => absurd (by show M.1 a 3 < nI (q + 1); rw [hq]; exact nI_lt (by omega) (by omega)) h9)
      refine zr_iload_n hx hb kd_Ef_greatestPast_32 hl rfl ?_
      exact zr_iret hS hK hlk hr hI kd_Ef_greatestPast_33 (⟨hm, rfl⟩)
    | succ k ih =>
      intro d mo H locs ls hd hm hI hl
      refine zr_iload_n hx hb kd_Ef_greatestPast_4 hl rfl ?_
      refine zr_aload_n hx hb kd_Ef_greatestPast_5 hl rfl ?_
      refine zr_geti hS hK kf_Ef_31 hI ha_a hs_a kd_Ef_greatestPast_6 ?_
      refine lv_icmp_gt (tgt := 32) hx hb kd_Ef_greatestPast_9 (by decide) (fun h9 => absurd h9 (by show ¬ M.1 a 3 < nI d; rw [hq]; exact nI_nlt (by omega) (by omega))) (fun h9 => ?_)
      refine zr_iload_n hx hb kd_Ef_greatestPast_12 hl rfl ?_
      refine zr_aload_n hx hb kd_Ef_greatestPast_13 hl rfl ?_
      refine zr_getr hS hK kf_Ef_11 hI ha_a hs_a hv_a_0 kd_Ef_greatestPast_14 ?_
      refine zr_iload_n hx hb kd_Ef_greatestPast_17 hl rfl ?_
      refine zr_iald hS hK hI ha_a_0 hs_a_0 (by first | assumption | exact vp_in_nI (by omega) (by decide) | (rw [nI_add]; exact vp_in_nI (by omega) (by decide))) kd_Ef_greatestPast_18 ?_
      refine va_mabs hx hb (hS.2.2.1.trans hl.1.symm) hS.2.2.2.1 (hS.2.2.2.2 _ (zw_mem (i := 976) rfl rfl)) (hS.2.2.2.2 _ (zw_mem (i := 977) rfl rfl)) (hS.2.2.2.2 _ (zw_mem (i := 49) rfl rfl)) (hS.2.2.2.2 _ (zw_mem (i := 978) rfl rfl)) (by decide) (Nat.le_of_ble_eq_true rfl) (by decide) (by decide) kd_Ef_greatestPast_19 ?_
      refine va_mmax hx hb (hS.2.2.1.trans hl.1.symm) hS.2.2.2.1 (hS.2.2.2.2 _ (zw_mem (i := 983) rfl rfl)) (hS.2.2.2.2 _ (zw_mem (i := 616) rfl rfl)) (hS.2.2.2.2 _ (zw_mem (i := 49) rfl rfl)) (hS.2.2.2.2 _ (zw_mem (i := 617) rfl rfl)) (by decide) (Nat.le_of_ble_eq_true rfl) (by decide) (by decide) kd_Ef_greatestPast_22 ?_
      refine zr_istore_n hx hb kd_Ef_greatestPast_25 hl (by decide) rfl (fun ls hl => ?_)
      refine zr_iinc hx hb kd_Ef_greatestPast_26 hl (by decide) rfl rfl (fun ls hl => ?_)
      refine lv_goto (tgt := 4) hx hb kd_Ef_greatestPast_29 (by decide) ?_
      refine ih (d + 1) _ H locs ls (by omega) ?_ hI (by rw [nI_succ]; exact hl)
      have h1 := ze_max_s hm
      have h2 := zf_abs_eq (hpa d (by omega))
      rw [zn_cl (by omega)]
      by_cases h3 : mo < zf_abs (M.1 b d)
      · have h4 := h3
        rw [Int32.lt_iff_toInt_lt, h2] at h4
        rw [if_pos h4] at h1
        have h5 : (if mo < (if 0 ≤ M.1 b d then M.1 b d else 0 - M.1 b d) then (if 0 ≤ M.1 b d then M.1 b d else 0 - M.1 b d) else mo).toInt = ze_abs (M.1 b d).toInt := by
          rw [← h2]; exact congrArg Int32.toInt (if_pos h3)
        rw [h5]
        exact h1
      · have h4 := h3
        rw [Int32.lt_iff_toInt_lt, h2] at h4
        rw [if_neg h4] at h1
        have h5 : (if mo < (if 0 ≤ M.1 b d then M.1 b d else 0 - M.1 b d) then (if 0 ≤ M.1 b d then M.1 b d else 0 - M.1 b d) else mo) = mo := if_neg h3
        rw [h5]
        exact h1
  refine lv_iconst (v := 0) hx hb kd_Ef_greatestPast_0 (by decide) ?_
  refine zr_istore_n hx hb kd_Ef_greatestPast_1 hl (by decide) rfl (fun ls hl => ?_)
  refine lv_iconst (v := 0) hx hb kd_Ef_greatestPast_2 (by decide) ?_
  refine zr_istore_n hx hb kd_Ef_greatestPast_3 hl (by decide) rfl (fun ls hl => ?_)
  exact loop (q + 1) 0 0 _ _ _ (by omega) (ze_max_0 _) hI hl

/-! A strip s: target 4, muted 5, solo 6, delayIn 7, delay 8; sends at 29 + 14 s, row at 30 + 14 s. -/
theorem zm_ui_uu {M : zm_T} {a k : Nat} {u v : Int32} : zm_ui (zm_ui M a k u) a k v = zm_ui M a k v := by
  unfold zm_ui
  refine Prod.ext ?_ rfl
  funext c j
  show (if c = a ∧ j = k then v else if c = a ∧ j = k then u else M.1 c j) = if c = a ∧ j = k then v else M.1 c j
  split <;> rfl
def zf_feeds (M : zm_T) (s o : Nat) : Int32 := if M.1 (23 + 14 * s) 4 = nI o then 1 else if M.1 (29 + 14 * s) o ≤ 0 then 0 else 1
set_option maxRecDepth 100000 in
set_option maxHeartbeats 4000000 in
theorem c_St_feeds (l : Launch) (G : zg_T) (M : zm_T) (hL : zL M.2) (s o : Nat) (hs : s < 8) (ho : o < 8) : Met l ky_St_feeds (zr_ws ky_St_feeds kc_St_feeds 2 (some .boolean)) (zr_rm 0) (va_Pc [.ref (G.2.2.1 + (23 + 14 * s)), .int (nI o)] (zm_B G 183 zs M)) (va_Qi (fun (r : Int32) (M' : zm_T) => r = zf_feeds M s o ∧ M' = M) (zm_B G 183 zs) (zm_A G)) 0 0 (zm_A G) := by
  refine zr_met (by decide +kernel) (Nat.le_of_ble_eq_true rfl) ?_
  intro p0 e0 s0 m0 below meth c0 ls hS hK hlk hr hl hI
  have hx := hS.1
  have hb := hS.2.1
  have hl : zl_has ls 2 [some (.ref (G.2.2.1 + (23 + 14 * s))), some (.int (nI o))] := hl
  have ha_a : 23 + 14 * s < 183 := by omega
  have hs_a : zs (23 + 14 * s) = (10 + 5, 0) := zs_st0 _ hs
  have hv_a_0 : M.2.1 (23 + 14 * s) 0 = some (24 + 14 * s) := (zL_st hL hs).2.1
  have ha_a_0 : 24 + 14 * s < 183 := by omega
  have hs_a_0 : zs (24 + 14 * s) = (5, 3) := zs_st1 _ hs
  have hv_a_1 : M.2.1 (23 + 14 * s) 1 = some (25 + 14 * s) := (zL_st hL hs).2.2.1
  have ha_a_1 : 25 + 14 * s < 183 := by omega
  have hs_a_1 : zs (25 + 14 * s) = (10 + 3, 0) := zs_st2 _ hs
  have hv_a_2 : M.2.1 (23 + 14 * s) 2 = some (29 + 14 * s) := (zL_st hL hs).2.2.2.1
  have ha_a_2 : 29 + 14 * s < 183 := by omega
  have hs_a_2 : zs (29 + 14 * s) = (0, 8) := zs_st6 _ hs
  have hv_a_3 : M.2.1 (23 + 14 * s) 3 = some (30 + 14 * s) := (zL_st hL hs).2.2.2.2.1
  have ha_a_3 : 30 + 14 * s < 183 := by omega
  have hs_a_3 : zs (30 + 14 * s) = (0, 1024) := zs_st7 _ hs
  have eo : (nI o).toNatClampNeg = o := zn_cl (by omega)
  refine zr_aload_n hx hb kd_St_feeds_0 hl rfl ?_
  refine zr_geti hS hK kf_St_31 hI ha_a hs_a kd_St_feeds_1 ?_
  refine zr_iload_n hx hb kd_St_feeds_4 hl rfl ?_
  refine lv_icmp_eq (tgt := 17) hx hb kd_St_feeds_5 (by decide) (fun h5 => ?_) (fun h5 => ?_)
  · skip
    refine lv_iconst (v := 1) hx hb kd_St_feeds_17 (by decide) ?_
    refine lv_goto (tgt := 22) hx hb kd_St_feeds_18 (by decide) ?_
    exact zr_zret hS hK hlk hr (by decide) hI kd_St_feeds_22 (⟨by (try rw [eo] at h14); simp [zf_feeds, *], rfl⟩)
  · skip
    refine zr_aload_n hx hb kd_St_feeds_8 hl rfl ?_
    refine zr_getr hS hK kf_St_24 hI ha_a hs_a hv_a_2 kd_St_feeds_9 ?_
    refine zr_iload_n hx hb kd_St_feeds_12 hl rfl ?_
    refine zr_iald hS hK hI ha_a_2 hs_a_2 (by first | assumption | exact vp_in_nI (by omega) (by decide) | (rw [nI_add]; exact vp_in_nI (by omega) (by decide))) kd_St_feeds_13 ?_
    refine lv_if_le (tgt := 21) hx hb kd_St_feeds_14 (by decide) (fun h14 => ?_) (fun h14 => ?_)
    · skip
      refine lv_iconst (v := 0) hx hb kd_St_feeds_21 (by decide) ?_
      exact zr_zret hS hK hlk hr (by decide) hI kd_St_feeds_22 (⟨by (try rw [eo] at h14); simp [zf_feeds, *], rfl⟩)
    · skip
      refine lv_iconst (v := 1) hx hb kd_St_feeds_17 (by decide) ?_
      refine lv_goto (tgt := 22) hx hb kd_St_feeds_18 (by decide) ?_
      exact zr_zret hS hK hlk hr (by decide) hI kd_St_feeds_22 (⟨by (try rw [eo] at h14); simp [zf_feeds, *], rfl⟩)
set_option maxRecDepth 100000 in
set_option maxHeartbeats 4000000 in
theorem c_St_changeMute (l : Launch) (G : zg_T) (M : zm_T) (hL : zL M.2) (s : Nat) (v : Int32) (hs : s < 8) (hv : v = 0 ∨ v = 1) : Met l ky_St_changeMute (zr_ws ky_St_changeMute kc_St_changeMute 3 (some .boolean)) (zr_rm 0) (va_Pc [.ref (G.2.2.1 + (23 + 14 * s)), .int v] (zm_B G 183 zs M)) (va_Qi (fun (r : Int32) (M' : zm_T) => r = (if M.1 (23 + 14 * s) 5 = v then 0 else 1) ∧ M' = zm_ui M (23 + 14 * s) 5 v) (zm_B G 183 zs) (zm_A G)) 0 0 (zm_A G) := by
  refine zr_met (by decide +kernel) (Nat.le_of_ble_eq_true rfl) ?_
  intro p0 e0 s0 m0 below meth c0 ls hS hK hlk hr hl hI
  have hx := hS.1
  have hb := hS.2.1
  have hl : zl_has ls 3 [some (.ref (G.2.2.1 + (23 + 14 * s))), some (.int v), none] := hl
  have ha_a : 23 + 14 * s < 183 := by omega
  have hs_a : zs (23 + 14 * s) = (10 + 5, 0) := zs_st0 _ hs
  have hv_a_0 : M.2.1 (23 + 14 * s) 0 = some (24 + 14 * s) := (zL_st hL hs).2.1
  have ha_a_0 : 24 + 14 * s < 183 := by omega
  have hs_a_0 : zs (24 + 14 * s) = (5, 3) := zs_st1 _ hs
  have hv_a_1 : M.2.1 (23 + 14 * s) 1 = some (25 + 14 * s) := (zL_st hL hs).2.2.1
  have ha_a_1 : 25 + 14 * s < 183 := by omega
  have hs_a_1 : zs (25 + 14 * s) = (10 + 3, 0) := zs_st2 _ hs
  have hv_a_2 : M.2.1 (23 + 14 * s) 2 = some (29 + 14 * s) := (zL_st hL hs).2.2.2.1
  have ha_a_2 : 29 + 14 * s < 183 := by omega
  have hs_a_2 : zs (29 + 14 * s) = (0, 8) := zs_st6 _ hs
  have hv_a_3 : M.2.1 (23 + 14 * s) 3 = some (30 + 14 * s) := (zL_st hL hs).2.2.2.2.1
  have ha_a_3 : 30 + 14 * s < 183 := by omega
  have hs_a_3 : zs (30 + 14 * s) = (0, 1024) := zs_st7 _ hs
  have hz : narrow .boolean (.int v) = .int v := by rcases hv with rfl | rfl <;> rfl
  have hft : fits .boolean (.int v) = true := by rcases hv with rfl | rfl <;> rfl
  refine zr_aload_n hx hb kd_St_changeMute_0 hl rfl ?_
  refine zr_geti hS hK kf_St_36 hI ha_a hs_a kd_St_changeMute_1 ?_
  refine zr_iload_n hx hb kd_St_changeMute_4 hl rfl ?_
  refine lv_icmp_eq (tgt := 12) hx hb kd_St_changeMute_5 (by decide) (fun h5 => ?_) (fun h5 => ?_)
  · skip
    refine lv_iconst (v := 0) hx hb kd_St_changeMute_12 (by decide) ?_
    refine zr_istore_n hx hb kd_St_changeMute_13 hl (by decide) rfl (fun ls hl => ?_)
    refine zr_aload_n hx hb kd_St_changeMute_14 hl rfl ?_
    refine zr_iload_n hx hb kd_St_changeMute_15 hl rfl ?_
    refine zr_puti hS hK kf_St_36 hI ha_a hs_a hz hft kd_St_changeMute_16 (fun H locs hI => ?_)
    refine zr_iload_n hx hb kd_St_changeMute_19 hl rfl ?_
    exact zr_zret hS hK hlk hr (by decide) hI kd_St_changeMute_20 (⟨by simp [*], rfl⟩)
  · skip
    refine lv_iconst (v := 1) hx hb kd_St_changeMute_8 (by decide) ?_
    refine lv_goto (tgt := 13) hx hb kd_St_changeMute_9 (by decide) ?_
    refine zr_istore_n hx hb kd_St_changeMute_13 hl (by decide) rfl (fun ls hl => ?_)
    refine zr_aload_n hx hb kd_St_changeMute_14 hl rfl ?_
    refine zr_iload_n hx hb kd_St_changeMute_15 hl rfl ?_
    refine zr_puti hS hK kf_St_36 hI ha_a hs_a hz hft kd_St_changeMute_16 (fun H locs hI => ?_)
    refine zr_iload_n hx hb kd_St_changeMute_19 hl rfl ?_
    exact zr_zret hS hK hlk hr (by decide) hI kd_St_changeMute_20 (⟨by simp [*], rfl⟩)
set_option maxRecDepth 100000 in
set_option maxHeartbeats 4000000 in
theorem c_St_changeSolo (l : Launch) (G : zg_T) (M : zm_T) (hL : zL M.2) (s : Nat) (v : Int32) (hs : s < 8) (hv : v = 0 ∨ v = 1) : Met l ky_St_changeSolo (zr_ws ky_St_changeSolo kc_St_changeSolo 3 (some .boolean)) (zr_rm 0) (va_Pc [.ref (G.2.2.1 + (23 + 14 * s)), .int v] (zm_B G 183 zs M)) (va_Qi (fun (r : Int32) (M' : zm_T) => r = (if M.1 (23 + 14 * s) 6 = v then 0 else 1) ∧ M' = zm_ui M (23 + 14 * s) 6 v) (zm_B G 183 zs) (zm_A G)) 0 0 (zm_A G) := by
  refine zr_met (by decide +kernel) (Nat.le_of_ble_eq_true rfl) ?_
  intro p0 e0 s0 m0 below meth c0 ls hS hK hlk hr hl hI
  have hx := hS.1
  have hb := hS.2.1
  have hl : zl_has ls 3 [some (.ref (G.2.2.1 + (23 + 14 * s))), some (.int v), none] := hl
  have ha_a : 23 + 14 * s < 183 := by omega
  have hs_a : zs (23 + 14 * s) = (10 + 5, 0) := zs_st0 _ hs
  have hv_a_0 : M.2.1 (23 + 14 * s) 0 = some (24 + 14 * s) := (zL_st hL hs).2.1
  have ha_a_0 : 24 + 14 * s < 183 := by omega
  have hs_a_0 : zs (24 + 14 * s) = (5, 3) := zs_st1 _ hs
  have hv_a_1 : M.2.1 (23 + 14 * s) 1 = some (25 + 14 * s) := (zL_st hL hs).2.2.1
  have ha_a_1 : 25 + 14 * s < 183 := by omega
  have hs_a_1 : zs (25 + 14 * s) = (10 + 3, 0) := zs_st2 _ hs
  have hv_a_2 : M.2.1 (23 + 14 * s) 2 = some (29 + 14 * s) := (zL_st hL hs).2.2.2.1
  have ha_a_2 : 29 + 14 * s < 183 := by omega
  have hs_a_2 : zs (29 + 14 * s) = (0, 8) := zs_st6 _ hs
  have hv_a_3 : M.2.1 (23 + 14 * s) 3 = some (30 + 14 * s) := (zL_st hL hs).2.2.2.2.1
  have ha_a_3 : 30 + 14 * s < 183 := by omega
  have hs_a_3 : zs (30 + 14 * s) = (0, 1024) := zs_st7 _ hs
  have hz : narrow .boolean (.int v) = .int v := by rcases hv with rfl | rfl <;> rfl
  have hft : fits .boolean (.int v) = true := by rcases hv with rfl | rfl <;> rfl
  refine zr_aload_n hx hb kd_St_changeSolo_0 hl rfl ?_
  refine zr_geti hS hK kf_St_40 hI ha_a hs_a kd_St_changeSolo_1 ?_
  refine zr_iload_n hx hb kd_St_changeSolo_4 hl rfl ?_
  refine lv_icmp_eq (tgt := 12) hx hb kd_St_changeSolo_5 (by decide) (fun h5 => ?_) (fun h5 => ?_)
  · skip
    refine lv_iconst (v := 0) hx hb kd_St_changeSolo_12 (by decide) ?_
    refine zr_istore_n hx hb kd_St_changeSolo_13 hl (by decide) rfl (fun ls hl => ?_)
    refine zr_aload_n hx hb kd_St_changeSolo_14 hl rfl ?_
    refine zr_iload_n hx hb kd_St_changeSolo_15 hl rfl ?_
    refine zr_puti hS hK kf_St_40 hI ha_a hs_a hz hft kd_St_changeSolo_16 (fun H locs hI => ?_)
    refine zr_iload_n hx hb kd_St_changeSolo_19 hl rfl ?_
    exact zr_zret hS hK hlk hr (by decide) hI kd_St_changeSolo_20 (⟨by simp [*], rfl⟩)
  · skip
    refine lv_iconst (v := 1) hx hb kd_St_changeSolo_8 (by decide) ?_
    refine lv_goto (tgt := 13) hx hb kd_St_changeSolo_9 (by decide) ?_
    refine zr_istore_n hx hb kd_St_changeSolo_13 hl (by decide) rfl (fun ls hl => ?_)
    refine zr_aload_n hx hb kd_St_changeSolo_14 hl rfl ?_
    refine zr_iload_n hx hb kd_St_changeSolo_15 hl rfl ?_
    refine zr_puti hS hK kf_St_40 hI ha_a hs_a hz hft kd_St_changeSolo_16 (fun H locs hI => ?_)
    refine zr_iload_n hx hb kd_St_changeSolo_19 hl rfl ?_
    exact zr_zret hS hK hlk hr (by decide) hI kd_St_changeSolo_20 (⟨by simp [*], rfl⟩)
def zf_own (M : zm_T) (s i : Nat) : Int32 := if M.1 (31 + 14 * s + 2 * i) 1 = 4 then M.1 (31 + 14 * s + 2 * i) 3 else 0
def zf_dl (M : zm_T) (s : Nat) (v : Int32) : Nat → Int32
  | 0 => v
  | i + 1 => zf_dl M s v i + zf_own M s i
set_option maxRecDepth 100000 in
set_option maxHeartbeats 4000000 in
theorem c_St_delayFrom (l : Launch) (G : zg_T) (M : zm_T) (hL : zL M.2) (s : Nat) (v : Int32) (hs : s < 8) : Met l ky_St_delayFrom (zr_ws ky_St_delayFrom kc_St_delayFrom 3 none) (zr_rm 1) (va_Pc [.ref (G.2.2.1 + (23 + 14 * s)), .int v] (zm_B G 183 zs M)) (va_Qv (fun (M' : zm_T) => M' = zm_ui (zm_ui M (23 + 14 * s) 7 v) (23 + 14 * s) 8 (zf_dl M s v 3)) (zm_B G 183 zs) (zm_A G)) 0 0 (zm_A G) := by
  refine zr_met (by decide +kernel) (Nat.le_of_ble_eq_true rfl) ?_
  intro p0 e0 s0 m0 below meth c0 ls hS hK hlk hr hl hI
  have hx := hS.1
  have hb := hS.2.1
  have hl : zl_has ls 3 [some (.ref (G.2.2.1 + (23 + 14 * s))), some (.int v), none] := hl
  have ha_a : 23 + 14 * s < 183 := by omega
  have hs_a : zs (23 + 14 * s) = (10 + 5, 0) := zs_st0 _ hs
  have hv_a_0 : M.2.1 (23 + 14 * s) 0 = some (24 + 14 * s) := (zL_st hL hs).2.1
  have ha_a_0 : 24 + 14 * s < 183 := by omega
  have hs_a_0 : zs (24 + 14 * s) = (5, 3) := zs_st1 _ hs
  have hv_a_1 : M.2.1 (23 + 14 * s) 1 = some (25 + 14 * s) := (zL_st hL hs).2.2.1
  have ha_a_1 : 25 + 14 * s < 183 := by omega
  have hs_a_1 : zs (25 + 14 * s) = (10 + 3, 0) := zs_st2 _ hs
  have hv_a_2 : M.2.1 (23 + 14 * s) 2 = some (29 + 14 * s) := (zL_st hL hs).2.2.2.1
  have ha_a_2 : 29 + 14 * s < 183 := by omega
  have hs_a_2 : zs (29 + 14 * s) = (0, 8) := zs_st6 _ hs
  have hv_a_3 : M.2.1 (23 + 14 * s) 3 = some (30 + 14 * s) := (zL_st hL hs).2.2.2.2.1
  have ha_a_3 : 30 + 14 * s < 183 := by omega
  have hs_a_3 : zs (30 + 14 * s) = (0, 1024) := zs_st7 _ hs
  have loop : ∀ (k i : Nat) (H : Heap) (locs : List Loc) (ls : Array Slot), i + k = 3 → zl_has ls 3 [some (.ref (G.2.2.1 + (23 + 14 * s))), some (.int v), some (.int (nI i))] → zm_I G 183 zs (zm_ui (zm_ui M (23 + 14 * s) 7 v) (23 + 14 * s) 8 (zf_dl M s v i)) s0 H locs → W p0 l e0 (zr_rm 1) s0 m0 ([.ref (G.2.2.1 + (23 + 14 * s)), .int v] : List Value).toArray below meth c0 H locs 0 0 (MQ below (va_Qv (fun (M' : zm_T) => M' = zm_ui (zm_ui M (23 + 14 * s) 7 v) (23 + 14 * s) 8 (zf_dl M s v 3)) (zm_B G 183 zs) (zm_A G)) ([.ref (G.2.2.1 + (23 + 14 * s)), .int v] : List Value).toArray s0 0 0 (zm_A G)) (F0 m0 12 ls []) := by
    intro k
    induction k with
    | zero =>
      intro i H locs ls hi hl hI
      obtain rfl : i = 3 := by omega
      refine zr_iload_n hx hb kd_St_delayFrom_12 hl rfl ?_
      refine lv_iconst (v := 3) hx hb kd_St_delayFrom_13 (by decide) ?_
      refine lv_icmp_ge (tgt := 41) hx hb kd_St_delayFrom_14 (by decide) (fun h14 => ?_) (fun h14 => absurd (by decide) h14)
      exact zr_vret hS hK hlk hr hI kd_St_delayFrom_41 (rfl)
    | succ k ih =>
      intro i H locs ls hi hl hI
      have ei : (nI i).toNatClampNeg = i := zn_cl (by omega)
      refine zr_iload_n hx hb kd_St_delayFrom_12 hl rfl ?_
      refine lv_iconst (v := 3) hx hb kd_St_delayFrom_13 (by decide) ?_
      refine lv_icmp_ge (tgt := 41) hx hb kd_St_delayFrom_14 (by decide) (fun h14 => absurd h14 (zn_ge (n := 3) rfl (by omega) (by decide))) (fun h14 => ?_)
      refine zr_aload_n hx hb kd_St_delayFrom_17 hl rfl ?_
      refine lv_dup hx hb kd_St_delayFrom_18 rfl ?_
      refine zr_geti hS hK kf_St_46 hI ha_a hs_a kd_St_delayFrom_19 ?_
      refine zr_aload_n hx hb kd_St_delayFrom_22 hl rfl ?_
      refine zr_getr hS hK kf_St_11 hI ha_a hs_a hv_a_0 kd_St_delayFrom_23 ?_
      refine zr_iload_n hx hb kd_St_delayFrom_26 hl rfl ?_
      refine zr_aald hS hK hI ha_a_0 hs_a_0 (by decide) (by decide) rfl (vp_in_nI (by omega) (by decide)) (by rw [ei]; exact (zL_ef hL hs (i := i) (by omega)).1) kd_St_delayFrom_27 ?_
      refine zr_ci (zr_runV hS hK (c_Ef_ownDelay l G 183 zs _ (31 + 14 * s + 2 * i) (by omega) (zs_ef s hs i (by omega)).1) km_St_49 hI (by omega) (zs_ef s hs i (by omega)).1 rfl hl.1 (Nat.le_of_ble_eq_true rfl) (by decide) (by decide) kd_St_delayFrom_28 rfl) hI (fun r28 M28 H locs hp28 hI => ?_)
      obtain ⟨rfl, hM28⟩ := hp28
      rw [hM28] at hI
      refine lv_iadd hx hb kd_St_delayFrom_31 ?_
      refine zr_puti hS hK kf_St_46 hI ha_a hs_a rfl rfl kd_St_delayFrom_32 (fun H locs hI => ?_)
      refine zr_iinc hx hb kd_St_delayFrom_35 hl (by decide) rfl rfl (fun ls hl => ?_)
      refine lv_goto (tgt := 12) hx hb kd_St_delayFrom_38 (by decide) ?_
      refine ih (i + 1) H locs ls (by omega) (by rw [nI_succ]; exact hl) ?_
      rw [zm_ui_uu, zm_ui_at, zm_ui_ne (Or.inl (by omega)), zm_ui_ne (Or.inl (by omega)), zm_ui_ne (Or.inl (by omega)), zm_ui_ne (Or.inl (by omega))] at hI
      exact hI
  refine zr_aload_n hx hb kd_St_delayFrom_0 hl rfl ?_
  refine zr_iload_n hx hb kd_St_delayFrom_1 hl rfl ?_
  refine zr_puti hS hK kf_St_43 hI ha_a hs_a rfl rfl kd_St_delayFrom_2 (fun H locs hI => ?_)
  refine zr_aload_n hx hb kd_St_delayFrom_5 hl rfl ?_
  refine zr_iload_n hx hb kd_St_delayFrom_6 hl rfl ?_
  refine zr_puti hS hK kf_St_46 hI ha_a hs_a rfl rfl kd_St_delayFrom_7 (fun H locs hI => ?_)
  refine lv_iconst (v := 0) hx hb kd_St_delayFrom_10 (by decide) ?_
  refine zr_istore_n hx hb kd_St_delayFrom_11 hl (by decide) rfl (fun ls hl => ?_)
  exact loop 3 0 _ _ _ (by omega) hl hI
set_option maxRecDepth 100000 in
set_option maxHeartbeats 4000000 in
theorem c_St_addTo (l : Launch) (G : zg_T) (M : zm_T) (hL : zL M.2) (s w la en : Nat) (lv : Int32) (hs : s < 8) (ha_w : w < 183) (hs_w : zs w = (0, 1024)) (hw : w ≠ 30 + 14 * s) (hen : en ≤ 1024) (hla : la < 2147483648) : Met l ky_St_addTo (zr_ws ky_St_addTo kc_St_addTo 6 none) (zr_rm 1) (va_Pc [.ref (G.2.2.1 + (23 + 14 * s)), .ref (G.2.2.1 + w), .int lv, .int (nI la), .int (nI en)] (zm_B G 183 zs M)) (va_Qv (fun (M' : zm_T) => M' = zm_seg M w la (en - la) (fun j => M.1 w (la + j) + zf_at (M.1 (30 + 14 * s) j) lv)) (zm_B G 183 zs) (zm_A G)) 0 0 (zm_A G) := by
  refine zr_met (by decide +kernel) (Nat.le_of_ble_eq_true rfl) ?_
  intro p0 e0 s0 m0 below meth c0 ls hS hK hlk hr hl hI
  have hx := hS.1
  have hb := hS.2.1
  have hl : zl_has ls 6 [some (.ref (G.2.2.1 + (23 + 14 * s))), some (.ref (G.2.2.1 + w)), some (.int lv), some (.int (nI la)), some (.int (nI en)), none] := hl
  have ha_a : 23 + 14 * s < 183 := by omega
  have hs_a : zs (23 + 14 * s) = (10 + 5, 0) := zs_st0 _ hs
  have hv_a_0 : M.2.1 (23 + 14 * s) 0 = some (24 + 14 * s) := (zL_st hL hs).2.1
  have ha_a_0 : 24 + 14 * s < 183 := by omega
  have hs_a_0 : zs (24 + 14 * s) = (5, 3) := zs_st1 _ hs
  have hv_a_1 : M.2.1 (23 + 14 * s) 1 = some (25 + 14 * s) := (zL_st hL hs).2.2.1
  have ha_a_1 : 25 + 14 * s < 183 := by omega
  have hs_a_1 : zs (25 + 14 * s) = (10 + 3, 0) := zs_st2 _ hs
  have hv_a_2 : M.2.1 (23 + 14 * s) 2 = some (29 + 14 * s) := (zL_st hL hs).2.2.2.1
  have ha_a_2 : 29 + 14 * s < 183 := by omega
  have hs_a_2 : zs (29 + 14 * s) = (0, 8) := zs_st6 _ hs
  have hv_a_3 : M.2.1 (23 + 14 * s) 3 = some (30 + 14 * s) := (zL_st hL hs).2.2.2.2.1
  have ha_a_3 : 30 + 14 * s < 183 := by omega
  have hs_a_3 : zs (30 + 14 * s) = (0, 1024) := zs_st7 _ hs
  have loop : ∀ (k d : Nat) (H : Heap) (locs : List Loc) (ls : Array Slot), d + k = en - la → zl_has ls 6 [some (.ref (G.2.2.1 + (23 + 14 * s))), some (.ref (G.2.2.1 + w)), some (.int lv), some (.int (nI la)), some (.int (nI en)), some (.int (nI (la + d)))] → zm_I G 183 zs (zm_seg M w la d (fun j => M.1 w (la + j) + zf_at (M.1 (30 + 14 * s) j) lv)) s0 H locs → W p0 l e0 (zr_rm 1) s0 m0 ([.ref (G.2.2.1 + (23 + 14 * s)), .ref (G.2.2.1 + w), .int lv, .int (nI la), .int (nI en)] : List Value).toArray below meth c0 H locs 0 0 (MQ below (va_Qv (fun (M' : zm_T) => M' = zm_seg M w la (en - la) (fun j => M.1 w (la + j) + zf_at (M.1 (30 + 14 * s) j) lv)) (zm_B G 183 zs) (zm_A G)) ([.ref (G.2.2.1 + (23 + 14 * s)), .ref (G.2.2.1 + w), .int lv, .int (nI la), .int (nI en)] : List Value).toArray s0 0 0 (zm_A G)) (F0 m0 3 ls []) := by
    intro k
    induction k with
    | zero =>
      intro d H locs ls hd hl hI
      obtain rfl : d = en - la := by omega
      refine zr_iload hx hb kd_St_addTo_3 hl rfl ?_
      refine zr_iload hx hb kd_St_addTo_5 hl rfl ?_
      refine lv_icmp_ge (tgt := 36) hx hb kd_St_addTo_7 (by decide) (fun h7 => ?_) (fun h7 => absurd (nI_le (by omega) (by omega)) h7)
      exact zr_vret hS hK hlk hr hI kd_St_addTo_36 (rfl)
    | succ k ih =>
      intro d H locs ls hd hl hI
      have e1 : (nI (la + d)).toNatClampNeg = la + d := zn_cl (by omega)
      have e2 : (nI (la + d) - nI la).toNatClampNeg = d := by rw [pk_sub (by omega), show la + d - la = d by omega]; exact zn_cl (by omega)
      have v1 : vp_in (nI (la + d)) 1024 := vp_in_nI (by omega) (by decide)
      have v2 : vp_in (nI (la + d) - nI la) 1024 := by rw [pk_sub (by omega), show la + d - la = d by omega]; exact vp_in_nI (by omega) (by decide)
      refine zr_iload hx hb kd_St_addTo_3 hl rfl ?_
      refine zr_iload hx hb kd_St_addTo_5 hl rfl ?_
      refine lv_icmp_ge (tgt := 36) hx hb kd_St_addTo_7 (by decide) (fun h7 => absurd h7 (nI_ge (by omega) (by omega))) (fun h7 => ?_)
      refine zr_aload_n hx hb kd_St_addTo_10 hl rfl ?_
      refine zr_iload hx hb kd_St_addTo_11 hl rfl ?_
      refine lv_dup2_11 hx hb kd_St_addTo_13 rfl rfl ?_
      refine zr_iald hS hK hI ha_w hs_w v1 kd_St_addTo_14 ?_
      refine zr_aload_n hx hb kd_St_addTo_15 hl rfl ?_
      refine zr_getr hS hK kf_St_28 hI ha_a hs_a hv_a_3 kd_St_addTo_16 ?_
      refine zr_iload hx hb kd_St_addTo_19 hl rfl ?_
      refine zr_iload_n hx hb kd_St_addTo_21 hl rfl ?_
      refine lv_isub hx hb kd_St_addTo_22 ?_
      refine zr_iald hS hK hI ha_a_3 hs_a_3 v2 kd_St_addTo_23 ?_
      refine zr_iload_n hx hb kd_St_addTo_24 hl rfl ?_
      refine zr_ci (zr_runS hS hK (c_Mx_atLevel l G 183 zs _ _ _) km_St_53 hI rfl hl.1 (Nat.le_of_ble_eq_true rfl) (by decide) (by decide) kd_St_addTo_25 rfl) hI (fun r25 M25 H locs hp25 hI => ?_)
      obtain ⟨rfl, hM25⟩ := hp25
      rw [hM25] at hI
      refine lv_iadd hx hb kd_St_addTo_28 ?_
      refine zr_iast hS hK hI ha_w hs_w v1 kd_St_addTo_29 (fun H locs hI => ?_)
      refine zr_iinc hx hb kd_St_addTo_30 hl (by decide) rfl rfl (fun ls hl => ?_)
      refine lv_goto (tgt := 3) hx hb kd_St_addTo_33 (by decide) ?_
      refine ih (d + 1) H locs ls (by omega) (by rw [show la + (d + 1) = la + d + 1 by omega, nI_succ]; exact hl) ?_
      rw [e1, e2, zm_seg_out (Or.inr (Or.inr (Nat.le_refl _))), zm_seg_out (Or.inl (Ne.symm hw))] at hI
      rw [← zm_seg_s]
      exact hI
  rw [← zm_seg_0 M w la (fun j => M.1 w (la + j) + zf_at (M.1 (30 + 14 * s) j) lv)] at hI
  refine zr_iload_n hx hb kd_St_addTo_0 hl rfl ?_
  refine zr_istore hx hb kd_St_addTo_1 hl (by decide) rfl (fun ls hl => ?_)
  exact loop (en - la) 0 _ _ _ (by omega) hl hI
set_option maxRecDepth 100000 in
set_option maxHeartbeats 4000000 in
theorem c_St_peak (l : Launch) (G : zg_T) (M : zm_T) (hL : zL M.2) (s f n : Nat) (hs : s < 8) (hf : f + n ≤ 1024) (hw : ∀ i, i < n → -2147483648 < (M.1 (30 + 14 * s) (f + i)).toInt) : Met l ky_St_peak (zr_ws ky_St_peak kc_St_peak 5 (some .int)) (zr_rm 1) (va_Pc [.ref (G.2.2.1 + (23 + 14 * s)), .int (nI f), .int (nI n)] (zm_B G 183 zs M)) (va_Qi (fun (r : Int32) (M' : zm_T) => ze_max (fun i => ze_abs (M.1 (30 + 14 * s) (f + i)).toInt) n r.toInt ∧ M' = M) (zm_B G 183 zs) (zm_A G)) 0 0 (zm_A G) := by
  refine zr_met (by decide +kernel) (Nat.le_of_ble_eq_true rfl) ?_
  intro p0 e0 s0 m0 below meth c0 ls hS hK hlk hr hl hI
  have hx := hS.1
  have hb := hS.2.1
  have hl : zl_has ls 5 [some (.ref (G.2.2.1 + (23 + 14 * s))), some (.int (nI f)), some (.int (nI n)), none, none] := hl
  have ha_a : 23 + 14 * s < 183 := by omega
  have hs_a : zs (23 + 14 * s) = (10 + 5, 0) := zs_st0 _ hs
  have hv_a_0 : M.2.1 (23 + 14 * s) 0 = some (24 + 14 * s) := (zL_st hL hs).2.1
  have ha_a_0 : 24 + 14 * s < 183 := by omega
  have hs_a_0 : zs (24 + 14 * s) = (5, 3) := zs_st1 _ hs
  have hv_a_1 : M.2.1 (23 + 14 * s) 1 = some (25 + 14 * s) := (zL_st hL hs).2.2.1
  have ha_a_1 : 25 + 14 * s < 183 := by omega
  have hs_a_1 : zs (25 + 14 * s) = (10 + 3, 0) := zs_st2 _ hs
  have hv_a_2 : M.2.1 (23 + 14 * s) 2 = some (29 + 14 * s) := (zL_st hL hs).2.2.2.1
  have ha_a_2 : 29 + 14 * s < 183 := by omega
  have hs_a_2 : zs (29 + 14 * s) = (0, 8) := zs_st6 _ hs
  have hv_a_3 : M.2.1 (23 + 14 * s) 3 = some (30 + 14 * s) := (zL_st hL hs).2.2.2.2.1
  have ha_a_3 : 30 + 14 * s < 183 := by omega
  have hs_a_3 : zs (30 + 14 * s) = (0, 1024) := zs_st7 _ hs
  have loop : ∀ (k d : Nat) (mo : Int32) (H : Heap) (locs : List Loc) (ls : Array Slot), d + k = n → ze_max (fun i => ze_abs (M.1 (30 + 14 * s) (f + i)).toInt) d mo.toInt → zl_has ls 5 [some (.ref (G.2.2.1 + (23 + 14 * s))), some (.int (nI f)), some (.int (nI n)), some (.int mo), some (.int (nI d))] → zm_I G 183 zs M s0 H locs → W p0 l e0 (zr_rm 1) s0 m0 ([.ref (G.2.2.1 + (23 + 14 * s)), .int (nI f), .int (nI n)] : List Value).toArray below meth c0 H locs 0 0 (MQ below (va_Qi (fun (r : Int32) (M' : zm_T) => ze_max (fun i => ze_abs (M.1 (30 + 14 * s) (f + i)).toInt) n r.toInt ∧ M' = M) (zm_B G 183 zs) (zm_A G)) ([.ref (G.2.2.1 + (23 + 14 * s)), .int (nI f), .int (nI n)] : List Value).toArray s0 0 0 (zm_A G)) (F0 m0 5 ls []) := by
    intro k
    induction k with
    | zero =>
      intro d mo H locs ls hd hm hl hI
      obtain rfl : d = n := by omega
      refine zr_iload hx hb kd_St_peak_5 hl rfl ?_
      refine zr_iload_n hx hb kd_St_peak_7 hl rfl ?_
      refine lv_icmp_ge (tgt := 34) hx hb kd_St_peak_8 (by decide) (fun h8 => ?_) (fun h8 => absurd (Int32.le_refl _) h8)
      refine zr_iload_n hx hb kd_St_peak_34 hl rfl ?_
      exact zr_iret hS hK hlk hr hI kd_St_peak_35 (⟨hm, rfl⟩)
    | succ k ih =>
      intro d mo H locs ls hd hm hl hI
      refine zr_iload hx hb kd_St_peak_5 hl rfl ?_
      refine zr_iload_n hx hb kd_St_peak_7 hl rfl ?_
      refine lv_icmp_ge (tgt := 34) hx hb kd_St_peak_8 (by decide) (fun h8 => absurd h8 (nI_ge (by omega) (by omega))) (fun h8 => ?_)
      refine zr_iload_n hx hb kd_St_peak_11 hl rfl ?_
      refine zr_aload_n hx hb kd_St_peak_12 hl rfl ?_
      refine zr_getr hS hK kf_St_28 hI ha_a hs_a hv_a_3 kd_St_peak_13 ?_
      refine zr_iload_n hx hb kd_St_peak_16 hl rfl ?_
      refine zr_iload hx hb kd_St_peak_17 hl rfl ?_
      refine lv_iadd hx hb kd_St_peak_19 ?_
      refine zr_iald hS hK hI ha_a_3 hs_a_3 (by first | assumption | exact vp_in_nI (by omega) (by decide) | (rw [nI_add]; exact vp_in_nI (by omega) (by decide))) kd_St_peak_20 ?_
      refine va_mabs hx hb (hS.2.2.1.trans hl.1.symm) hS.2.2.2.1 (hS.2.2.2.2 _ (zw_mem (i := 1007) rfl rfl)) (hS.2.2.2.2 _ (zw_mem (i := 977) rfl rfl)) (hS.2.2.2.2 _ (zw_mem (i := 49) rfl rfl)) (hS.2.2.2.2 _ (zw_mem (i := 978) rfl rfl)) (by decide) (Nat.le_of_ble_eq_true rfl) (by decide) (by decide) kd_St_peak_21 ?_
      refine va_mmax hx hb (hS.2.2.1.trans hl.1.symm) hS.2.2.2.1 (hS.2.2.2.2 _ (zw_mem (i := 1008) rfl rfl)) (hS.2.2.2.2 _ (zw_mem (i := 616) rfl rfl)) (hS.2.2.2.2 _ (zw_mem (i := 49) rfl rfl)) (hS.2.2.2.2 _ (zw_mem (i := 617) rfl rfl)) (by decide) (Nat.le_of_ble_eq_true rfl) (by decide) (by decide) kd_St_peak_24 ?_
      refine zr_istore_n hx hb kd_St_peak_27 hl (by decide) rfl (fun ls hl => ?_)
      refine zr_iinc hx hb kd_St_peak_28 hl (by decide) rfl rfl (fun ls hl => ?_)
      refine lv_goto (tgt := 5) hx hb kd_St_peak_31 (by decide) ?_
      refine ih (d + 1) _ H locs ls (by omega) ?_ (by rw [nI_succ]; exact hl) hI
      have h1 := ze_max_s hm
      have h2 := zf_abs_eq (hw d (by omega))
      rw [zn_idx (by omega)]
      generalize M.1 (30 + 14 * s) (f + d) = y at h1 h2 ⊢
      by_cases h3 : mo < zf_abs y
      · have h4 := h3
        rw [Int32.lt_iff_toInt_lt, h2] at h4
        rw [if_pos h4] at h1
        have h5 : (if mo < (if 0 ≤ y then y else 0 - y) then (if 0 ≤ y then y else 0 - y) else mo).toInt = ze_abs y.toInt := by
          rw [← h2]; exact congrArg Int32.toInt (if_pos h3)
        rw [h5]
        exact h1
      · have h4 := h3
        rw [Int32.lt_iff_toInt_lt, h2] at h4
        rw [if_neg h4] at h1
        have h5 : (if mo < (if 0 ≤ y then y else 0 - y) then (if 0 ≤ y then y else 0 - y) else mo) = mo := if_neg h3
        rw [h5]
        exact h1
  refine lv_iconst (v := 0) hx hb kd_St_peak_0 (by decide) ?_
  refine zr_istore_n hx hb kd_St_peak_1 hl (by decide) rfl (fun ls hl => ?_)
  refine lv_iconst (v := 0) hx hb kd_St_peak_2 (by decide) ?_
  refine zr_istore hx hb kd_St_peak_3 hl (by decide) rfl (fun ls hl => ?_)
  exact loop n 0 0 _ _ _ (by omega) (ze_max_0 _) hl hI
def zi_sq (f : Nat → Int) : Nat → Int
  | 0 => 0
  | n + 1 => zi_sq f n + f n * f n
theorem zi_sq_b {f : Nat → Int} {n : Nat} (hf : ∀ i, i < n → -16777216 ≤ f i ∧ f i ≤ 16777216) : 0 ≤ zi_sq f n ∧ zi_sq f n ≤ n * 281474976710656 := by
  induction n with
  | zero =>
    show (0 : Int) ≤ 0 ∧ (0 : Int) ≤ ((0 : Nat) : Int) * 281474976710656
    omega
  | succ n ih =>
    have h1 := ih (fun i hi => hf i (by omega))
    obtain ⟨a1, a2⟩ := hf n (by omega)
    have h2 : 0 ≤ f n * f n ∧ f n * f n ≤ 281474976710656 := by
      by_cases h : 0 ≤ f n
      · have := zn_abs_mul (x := f n) (y := f n) (a := 16777216) (b := 16777216) (by omega) (by omega) h a2
        exact ⟨Int.mul_nonneg h h, by omega⟩
      · have := zn_abs_mul (x := -f n) (y := -f n) (a := 16777216) (b := 16777216) (by omega) (by omega) (by omega) (by omega)
        rw [Int.neg_mul_neg] at this
        refine ⟨?_, by omega⟩
        rw [← Int.neg_mul_neg]
        exact Int.mul_nonneg (by omega) (by omega)
    show 0 ≤ zi_sq f n + f n * f n ∧ zi_sq f n + f n * f n ≤ ((n + 1 : Nat) : Int) * 281474976710656
    omega
set_option maxRecDepth 100000 in
set_option maxHeartbeats 4000000 in
theorem c_St_power (l : Launch) (G : zg_T) (M : zm_T) (hL : zL M.2) (s f n : Nat) (hs : s < 8) (hn : n ≤ 64) (hf : f + n ≤ 1024) (hw : ∀ i, i < n → -16777216 ≤ (M.1 (30 + 14 * s) (f + i)).toInt ∧ (M.1 (30 + 14 * s) (f + i)).toInt ≤ 16777216) : Met l ky_St_power (zr_ws ky_St_power kc_St_power 6 (some .long)) (zr_rm 0) (va_Pc [.ref (G.2.2.1 + (23 + 14 * s)), .int (nI f), .int (nI n)] (zm_B G 183 zs M)) (va_Ql (fun (r : Int64) (M' : zm_T) => r.toInt = zi_sq (fun i => (M.1 (30 + 14 * s) (f + i)).toInt) n ∧ M' = M) (zm_B G 183 zs) (zm_A G)) 0 0 (zm_A G) := by
  refine zr_met (by decide +kernel) (Nat.le_of_ble_eq_true rfl) ?_
  intro p0 e0 s0 m0 below meth c0 ls hS hK hlk hr hl hI
  have hx := hS.1
  have hb := hS.2.1
  have hl : zl_has ls 6 [some (.ref (G.2.2.1 + (23 + 14 * s))), some (.int (nI f)), some (.int (nI n)), none, none, none] := hl
  have ha_a : 23 + 14 * s < 183 := by omega
  have hs_a : zs (23 + 14 * s) = (10 + 5, 0) := zs_st0 _ hs
  have hv_a_0 : M.2.1 (23 + 14 * s) 0 = some (24 + 14 * s) := (zL_st hL hs).2.1
  have ha_a_0 : 24 + 14 * s < 183 := by omega
  have hs_a_0 : zs (24 + 14 * s) = (5, 3) := zs_st1 _ hs
  have hv_a_1 : M.2.1 (23 + 14 * s) 1 = some (25 + 14 * s) := (zL_st hL hs).2.2.1
  have ha_a_1 : 25 + 14 * s < 183 := by omega
  have hs_a_1 : zs (25 + 14 * s) = (10 + 3, 0) := zs_st2 _ hs
  have hv_a_2 : M.2.1 (23 + 14 * s) 2 = some (29 + 14 * s) := (zL_st hL hs).2.2.2.1
  have ha_a_2 : 29 + 14 * s < 183 := by omega
  have hs_a_2 : zs (29 + 14 * s) = (0, 8) := zs_st6 _ hs
  have hv_a_3 : M.2.1 (23 + 14 * s) 3 = some (30 + 14 * s) := (zL_st hL hs).2.2.2.2.1
  have ha_a_3 : 30 + 14 * s < 183 := by omega
  have hs_a_3 : zs (30 + 14 * s) = (0, 1024) := zs_st7 _ hs
  have loop : ∀ (k d : Nat) (mo : Int64) (H : Heap) (locs : List Loc) (ls : Array Slot), d + k = n → mo.toInt = zi_sq (fun i => (M.1 (30 + 14 * s) (f + i)).toInt) d → zl_has ls 6 [some (.ref (G.2.2.1 + (23 + 14 * s))), some (.int (nI f)), some (.int (nI n)), some (.long mo), none, some (.int (nI d))] → zm_I G 183 zs M s0 H locs → W p0 l e0 (zr_rm 0) s0 m0 ([.ref (G.2.2.1 + (23 + 14 * s)), .int (nI f), .int (nI n)] : List Value).toArray below meth c0 H locs 0 0 (MQ below (va_Ql (fun (r : Int64) (M' : zm_T) => r.toInt = zi_sq (fun i => (M.1 (30 + 14 * s) (f + i)).toInt) n ∧ M' = M) (zm_B G 183 zs) (zm_A G)) ([.ref (G.2.2.1 + (23 + 14 * s)), .int (nI f), .int (nI n)] : List Value).toArray s0 0 0 (zm_A G)) (F0 m0 5 ls []) := by
    intro k
    induction k with
    | zero =>
      intro d mo H locs ls hd hm hl hI
      obtain rfl : d = n := by omega
      refine zr_iload hx hb kd_St_power_5 hl rfl ?_
      refine zr_iload_n hx hb kd_St_power_7 hl rfl ?_
      refine lv_icmp_ge (tgt := 41) hx hb kd_St_power_8 (by decide) (fun h8 => ?_) (fun h8 => absurd (Int32.le_refl _) h8)
      refine zr_lload_n hx hb kd_St_power_41 hl rfl ?_
      exact zr_lret hS hK hlk hr hI kd_St_power_42 (⟨hm, rfl⟩)
    | succ k ih =>
      intro d mo H locs ls hd hm hl hI
      refine zr_iload hx hb kd_St_power_5 hl rfl ?_
      refine zr_iload_n hx hb kd_St_power_7 hl rfl ?_
      refine lv_icmp_ge (tgt := 41) hx hb kd_St_power_8 (by decide) (fun h8 => absurd h8 (nI_ge (by omega) (by omega))) (fun h8 => ?_)
      refine zr_lload_n hx hb kd_St_power_11 hl rfl ?_
      refine zr_aload_n hx hb kd_St_power_12 hl rfl ?_
      refine zr_getr hS hK kf_St_28 hI ha_a hs_a hv_a_3 kd_St_power_13 ?_
      refine zr_iload_n hx hb kd_St_power_16 hl rfl ?_
      refine zr_iload hx hb kd_St_power_17 hl rfl ?_
      refine lv_iadd hx hb kd_St_power_19 ?_
      refine zr_iald hS hK hI ha_a_3 hs_a_3 (by first | assumption | exact vp_in_nI (by omega) (by decide) | (rw [nI_add]; exact vp_in_nI (by omega) (by decide))) kd_St_power_20 ?_
      refine lv_i2l hx hb kd_St_power_21 rfl ?_
      refine zr_aload_n hx hb kd_St_power_22 hl rfl ?_
      refine zr_getr hS hK kf_St_28 hI ha_a hs_a hv_a_3 kd_St_power_23 ?_
      refine zr_iload_n hx hb kd_St_power_26 hl rfl ?_
      refine zr_iload hx hb kd_St_power_27 hl rfl ?_
      refine lv_iadd hx hb kd_St_power_29 ?_
      refine zr_iald hS hK hI ha_a_3 hs_a_3 (by first | assumption | exact vp_in_nI (by omega) (by decide) | (rw [nI_add]; exact vp_in_nI (by omega) (by decide))) kd_St_power_30 ?_
      refine lv_i2l hx hb kd_St_power_31 rfl ?_
      refine lv_lmul hx hb kd_St_power_32 ?_
      refine lv_ladd hx hb kd_St_power_33 ?_
      refine zr_lstore_n hx hb kd_St_power_34 hl (by decide) rfl (fun ls hl => ?_)
      refine zr_iinc hx hb kd_St_power_35 hl (by decide) rfl rfl (fun ls hl => ?_)
      refine lv_goto (tgt := 5) hx hb kd_St_power_38 (by decide) ?_
      refine ih (d + 1) _ H locs ls (by omega) ?_ (by rw [nI_succ]; exact hl) hI
      rw [zn_idx (by omega)]
      have hb := zi_sq_b (f := fun i => (M.1 (30 + 14 * s) (f + i)).toInt) (n := d) (fun i hi => hw i (by omega))
      have hb2 := zi_sq_b (f := fun i => (M.1 (30 + 14 * s) (f + i)).toInt) (n := d + 1) (fun i hi => hw i (by omega))
      have hb3 : zi_sq (fun i => (M.1 (30 + 14 * s) (f + i)).toInt) (d + 1) = zi_sq (fun i => (M.1 (30 + 14 * s) (f + i)).toInt) d + (M.1 (30 + 14 * s) (f + d)).toInt * (M.1 (30 + 14 * s) (f + d)).toInt := rfl
      rw [hb3] at hb2 ⊢
      obtain ⟨w1, w2⟩ := hw d (by omega)
      generalize M.1 (30 + 14 * s) (f + d) = y at hb2 w1 w2 ⊢
      have e1 : (y.toInt64 * y.toInt64).toInt = y.toInt * y.toInt := by
        rw [zn_lmul] <;> rw [Int32.toInt_toInt64] <;> omega
      rw [zn_ladd] <;> rw [hm, e1] <;> omega
  refine lv_lconst (v := 0) hx hb kd_St_power_0 (by decide) ?_
  refine zr_lstore_n hx hb kd_St_power_1 hl (by decide) rfl (fun ls hl => ?_)
  refine lv_iconst (v := 0) hx hb kd_St_power_2 (by decide) ?_
  refine zr_istore hx hb kd_St_power_3 hl (by decide) rfl (fun ls hl => ?_)
  exact loop n 0 0 _ _ _ (by omega) rfl hl hI
def zi_ov (f : Nat → Int) : Nat → Nat
  | 0 => 0
  | n + 1 => zi_ov f n + (if f n < -32768 ∨ 32767 < f n then 1 else 0)
theorem zi_ov_b (f : Nat → Int) (n : Nat) : zi_ov f n ≤ n := by
  induction n with
  | zero => exact Nat.le_refl _
  | succ n ih =>
    show zi_ov f n + (if f n < -32768 ∨ 32767 < f n then 1 else 0) ≤ n + 1
    split <;> omega
theorem zf_in_1 {x lo hi : Int32} (h : ¬ zf_in x lo hi = 0) : lo.toInt ≤ x.toInt ∧ x.toInt ≤ hi.toInt := by
  unfold zf_in at h
  by_cases h1 : x < lo
  · rw [if_pos h1] at h; exact absurd rfl h
  · rw [if_neg h1] at h
    by_cases h2 : hi < x
    · rw [if_pos h2] at h; exact absurd rfl h
    · rw [Int32.lt_iff_toInt_lt] at h1 h2
      omega
theorem zf_in_0 {x lo hi : Int32} (h : zf_in x lo hi = 0) : x.toInt < lo.toInt ∨ hi.toInt < x.toInt := by
  unfold zf_in at h
  by_cases h1 : x < lo
  · exact Or.inl (Int32.lt_iff_toInt_lt.mp h1)
  · rw [if_neg h1] at h
    by_cases h2 : hi < x
    · exact Or.inr (Int32.lt_iff_toInt_lt.mp h2)
    · rw [if_neg h2] at h
      exact absurd h (by decide)
set_option maxRecDepth 100000 in
set_option maxHeartbeats 4000000 in
theorem c_St_overs (l : Launch) (G : zg_T) (M : zm_T) (hL : zL M.2) (s f n : Nat) (hs : s < 8) (hf : f + n ≤ 1024) : Met l ky_St_overs (zr_ws ky_St_overs kc_St_overs 5 (some .int)) (zr_rm 1) (va_Pc [.ref (G.2.2.1 + (23 + 14 * s)), .int (nI f), .int (nI n)] (zm_B G 183 zs M)) (va_Qi (fun (r : Int32) (M' : zm_T) => r = nI (zi_ov (fun i => (M.1 (30 + 14 * s) (f + i)).toInt) n) ∧ M' = M) (zm_B G 183 zs) (zm_A G)) 0 0 (zm_A G) := by
  refine zr_met (by decide +kernel) (Nat.le_of_ble_eq_true rfl) ?_
  intro p0 e0 s0 m0 below meth c0 ls hS hK hlk hr hl hI
  have hx := hS.1
  have hb := hS.2.1
  have hl : zl_has ls 5 [some (.ref (G.2.2.1 + (23 + 14 * s))), some (.int (nI f)), some (.int (nI n)), none, none] := hl
  have ha_a : 23 + 14 * s < 183 := by omega
  have hs_a : zs (23 + 14 * s) = (10 + 5, 0) := zs_st0 _ hs
  have hv_a_0 : M.2.1 (23 + 14 * s) 0 = some (24 + 14 * s) := (zL_st hL hs).2.1
  have ha_a_0 : 24 + 14 * s < 183 := by omega
  have hs_a_0 : zs (24 + 14 * s) = (5, 3) := zs_st1 _ hs
  have hv_a_1 : M.2.1 (23 + 14 * s) 1 = some (25 + 14 * s) := (zL_st hL hs).2.2.1
  have ha_a_1 : 25 + 14 * s < 183 := by omega
  have hs_a_1 : zs (25 + 14 * s) = (10 + 3, 0) := zs_st2 _ hs
  have hv_a_2 : M.2.1 (23 + 14 * s) 2 = some (29 + 14 * s) := (zL_st hL hs).2.2.2.1
  have ha_a_2 : 29 + 14 * s < 183 := by omega
  have hs_a_2 : zs (29 + 14 * s) = (0, 8) := zs_st6 _ hs
  have hv_a_3 : M.2.1 (23 + 14 * s) 3 = some (30 + 14 * s) := (zL_st hL hs).2.2.2.2.1
  have ha_a_3 : 30 + 14 * s < 183 := by omega
  have hs_a_3 : zs (30 + 14 * s) = (0, 1024) := zs_st7 _ hs
  have loop : ∀ (k d : Nat) (H : Heap) (locs : List Loc) (ls : Array Slot), d + k = n → zl_has ls 5 [some (.ref (G.2.2.1 + (23 + 14 * s))), some (.int (nI f)), some (.int (nI n)), some (.int (nI (zi_ov (fun i => (M.1 (30 + 14 * s) (f + i)).toInt) d))), some (.int (nI d))] → zm_I G 183 zs M s0 H locs → W p0 l e0 (zr_rm 1) s0 m0 ([.ref (G.2.2.1 + (23 + 14 * s)), .int (nI f), .int (nI n)] : List Value).toArray below meth c0 H locs 0 0 (MQ below (va_Qi (fun (r : Int32) (M' : zm_T) => r = nI (zi_ov (fun i => (M.1 (30 + 14 * s) (f + i)).toInt) n) ∧ M' = M) (zm_B G 183 zs) (zm_A G)) ([.ref (G.2.2.1 + (23 + 14 * s)), .int (nI f), .int (nI n)] : List Value).toArray s0 0 0 (zm_A G)) (F0 m0 5 ls []) := by
    intro k
    induction k with
    | zero =>
      intro d H locs ls hd hl hI
      obtain rfl : d = n := by omega
      refine zr_iload hx hb kd_St_overs_5 hl rfl ?_
      refine zr_iload_n hx hb kd_St_overs_7 hl rfl ?_
      refine lv_icmp_ge (tgt := 41) hx hb kd_St_overs_8 (by decide) (fun h8 => ?_) (fun h8 => absurd (Int32.le_refl _) h8)
      refine zr_iload_n hx hb kd_St_overs_41 hl rfl ?_
      exact zr_iret hS hK hlk hr hI kd_St_overs_42 (⟨rfl, rfl⟩)
    | succ k ih =>
      intro d H locs ls hd hl hI
      have ei : (nI f + nI d).toNatClampNeg = f + d := zn_idx (by omega)
      refine zr_iload hx hb kd_St_overs_5 hl rfl ?_
      refine zr_iload_n hx hb kd_St_overs_7 hl rfl ?_
      refine lv_icmp_ge (tgt := 41) hx hb kd_St_overs_8 (by decide) (fun h8 => absurd h8 (nI_ge (by omega) (by omega))) (fun h8 => ?_)
      refine zr_aload_n hx hb kd_St_overs_11 hl rfl ?_
      refine zr_getr hS hK kf_St_28 hI ha_a hs_a hv_a_3 kd_St_overs_12 ?_
      refine zr_iload_n hx hb kd_St_overs_15 hl rfl ?_
      refine zr_iload hx hb kd_St_overs_16 hl rfl ?_
      refine lv_iadd hx hb kd_St_overs_18 ?_
      refine zr_iald hS hK hI ha_a_3 hs_a_3 (by first | assumption | exact vp_in_nI (by omega) (by decide) | (rw [nI_add]; exact vp_in_nI (by omega) (by decide))) kd_St_overs_19 ?_
      refine lv_sipush (v := -32768) hx hb kd_St_overs_20 (by decide) ?_
      refine lv_sipush (v := 32767) hx hb kd_St_overs_23 (by decide) ?_
      refine zr_ci (zr_runS hS hK (c_Mx_within l G 183 zs M _ _ _) km_St_78 hI rfl hl.1 (Nat.le_of_ble_eq_true rfl) (by decide) (by decide) kd_St_overs_26 rfl) hI (fun r26 M26 H locs hp26 hI => ?_)
      obtain ⟨rfl, hM26⟩ := hp26
      rw [hM26] at hI
      refine lv_if_ne (tgt := 35) hx hb kd_St_overs_29 (by decide) (fun h29 => ?_) (fun h29 => ?_)
      · skip
        refine zr_iinc hx hb kd_St_overs_35 hl (by decide) rfl rfl (fun ls hl => ?_)
        refine lv_goto (tgt := 5) hx hb kd_St_overs_38 (by decide) ?_
        rw [ei] at h29
        first
          | exact ih (d + 1) H locs ls (by omega) (by
              have e : zi_ov (fun i => (M.1 (30 + 14 * s) (f + i)).toInt) (d + 1) = zi_ov (fun i => (M.1 (30 + 14 * s) (f + i)).toInt) d := by
                show zi_ov (fun i => (M.1 (30 + 14 * s) (f + i)).toInt) d + (if (M.1 (30 + 14 * s) (f + d)).toInt < -32768 ∨ 32767 < (M.1 (30 + 14 * s) (f + d)).toInt then 1 else 0) = _
                have := zf_in_1 h29
                rw [show (-32768 : Int32).toInt = -32768 from by decide, show (32767 : Int32).toInt = 32767 from by decide] at this
                rw [if_neg (by omega)]; rfl
              rw [e, nI_succ]; exact hl) hI
          | exact ih (d + 1) H locs ls (by omega) (by
              have e : zi_ov (fun i => (M.1 (30 + 14 * s) (f + i)).toInt) (d + 1) = zi_ov (fun i => (M.1 (30 + 14 * s) (f + i)).toInt) d + 1 := by
                show zi_ov (fun i => (M.1 (30 + 14 * s) (f + i)).toInt) d + (if (M.1 (30 + 14 * s) (f + d)).toInt < -32768 ∨ 32767 < (M.1 (30 + 14 * s) (f + d)).toInt then 1 else 0) = _
                have := zf_in_0 h29
                rw [show (-32768 : Int32).toInt = -32768 from by decide, show (32767 : Int32).toInt = 32767 from by decide] at this
                rw [if_pos this]
              rw [e, nI_succ, nI_succ]; exact hl) hI
      · skip
        refine zr_iinc hx hb kd_St_overs_32 hl (by decide) rfl rfl (fun ls hl => ?_)
        refine zr_iinc hx hb kd_St_overs_35 hl (by decide) rfl rfl (fun ls hl => ?_)
        refine lv_goto (tgt := 5) hx hb kd_St_overs_38 (by decide) ?_
        rw [ei] at h29
        first
          | exact ih (d + 1) H locs ls (by omega) (by
              have e : zi_ov (fun i => (M.1 (30 + 14 * s) (f + i)).toInt) (d + 1) = zi_ov (fun i => (M.1 (30 + 14 * s) (f + i)).toInt) d := by
                show zi_ov (fun i => (M.1 (30 + 14 * s) (f + i)).toInt) d + (if (M.1 (30 + 14 * s) (f + d)).toInt < -32768 ∨ 32767 < (M.1 (30 + 14 * s) (f + d)).toInt then 1 else 0) = _
                have := zf_in_1 h29
                rw [show (-32768 : Int32).toInt = -32768 from by decide, show (32767 : Int32).toInt = 32767 from by decide] at this
                rw [if_neg (by omega)]; rfl
              rw [e, nI_succ]; exact hl) hI
          | exact ih (d + 1) H locs ls (by omega) (by
              have e : zi_ov (fun i => (M.1 (30 + 14 * s) (f + i)).toInt) (d + 1) = zi_ov (fun i => (M.1 (30 + 14 * s) (f + i)).toInt) d + 1 := by
                show zi_ov (fun i => (M.1 (30 + 14 * s) (f + i)).toInt) d + (if (M.1 (30 + 14 * s) (f + d)).toInt < -32768 ∨ 32767 < (M.1 (30 + 14 * s) (f + d)).toInt then 1 else 0) = _
                have := zf_in_0 h29
                rw [show (-32768 : Int32).toInt = -32768 from by decide, show (32767 : Int32).toInt = 32767 from by decide] at this
                rw [if_pos this]
              rw [e, nI_succ, nI_succ]; exact hl) hI
  refine lv_iconst (v := 0) hx hb kd_St_overs_0 (by decide) ?_
  refine zr_istore_n hx hb kd_St_overs_1 hl (by decide) rfl (fun ls hl => ?_)
  refine lv_iconst (v := 0) hx hb kd_St_overs_2 (by decide) ?_
  refine zr_istore hx hb kd_St_overs_3 hl (by decide) rfl (fun ls hl => ?_)
  exact loop n 0 _ _ _ (by omega) hl hI

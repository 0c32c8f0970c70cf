/-! The class's public methods on strips: route, send, effect, fader, point, turn. -/
theorem zt_67 {s : Int32} (h : ¬ zf_in s 0 6 = 0) : ∃ n : Nat, n < 7 ∧ s = nI n := by
  obtain ⟨n, hn, e⟩ := zf_in_n (n := 6) (by decide) h
  exact ⟨n, by omega, e⟩
theorem zt_47 {t hi : Int32} {m : Nat} (hm : hi.toInt = m) (h : ¬ zf_in t 4 hi = 0) : ∃ n : Nat, 4 ≤ n ∧ n ≤ m ∧ t = nI n := by
  rw [zt_in, show (4 : Int32).toInt = 4 from by decide, hm] at h
  have h1 := zt_nI (x := t) (by omega)
  exact ⟨t.toNatClampNeg, by omega, by omega, h1.1.symm⟩
set_option maxRecDepth 100000 in
set_option maxHeartbeats 4000000 in
theorem x_Mx_route (l : Launch) (hfl : l.flags = Jvm.pinnedFlags ++ [Jvm.noTraceFlag]) (G : zg_T) (M : zm_T) (hL : zL M.2) (s t : Int32) (hD : zD M) : zx_M l ky_Mx_route (zr_ws ky_Mx_route kc_Mx_route 3 (some .boolean)) { frames := 6, cells := 1, slots := 6, locals := 60 * 6 } (va_Pc [.ref (G.2.2.1 + 0), .int s, .int t] (zy_B G M)) (zx_Qi G (fun x => x = zxA ∧ zv_rt s t = 1) (fun (r : Int32) (M' : zm_T) => zv_rt s t = 0 ∧ ((r = 1 ∧ s.toNatClampNeg ≠ t.toNatClampNeg ∧ ¬ gq_T (zfd M) t.toNatClampNeg s.toNatClampNeg ∧ M' = zm_ui M (23 + 14 * s.toNatClampNeg) 4 t) ∨ (r = 0 ∧ (s.toNatClampNeg = t.toNatClampNeg ∨ gq_T (zfd M) t.toNatClampNeg s.toNatClampNeg) ∧ M' = M))) M) := by
  refine zx_metY hfl (by decide +kernel) (Nat.le_of_ble_eq_true rfl) ?_
  intro p0 e0 s0 m0 below meth c0 ls htr hS hK hO hex hlk hr hl hI
  have hx := hS.1
  have hb := hS.2.1
  have hl : zl_has ls 3 [some (.ref (G.2.2.1 + 0)), some (.int s), some (.int t)] := hl
  have rest : ∀ (ls : Array Slot) (a b : Nat), a < 7 → 4 ≤ b → b ≤ 7 → s = nI a → t = nI b → zv_rt s t = 0 → zl_has ls 3 [some (.ref (G.2.2.1 + 0)), some (.int s), some (.int t)] → W p0 l e0 { frames := 6, cells := 1, slots := 6, locals := 60 * 6 } s0 m0 ([.ref (G.2.2.1 + 0), .int s, .int t] : List Value).toArray below meth c0 s0.heap [] 0 0 (zx_E below (zx_Qi G (fun x => x = zxA ∧ zv_rt s t = 1) (fun (r : Int32) (M' : zm_T) => zv_rt s t = 0 ∧ ((r = 1 ∧ s.toNatClampNeg ≠ t.toNatClampNeg ∧ ¬ gq_T (zfd M) t.toNatClampNeg s.toNatClampNeg ∧ M' = zm_ui M (23 + 14 * s.toNatClampNeg) 4 t) ∨ (r = 0 ∧ (s.toNatClampNeg = t.toNatClampNeg ∨ gq_T (zfd M) t.toNatClampNeg s.toNatClampNeg) ∧ M' = M))) M) ([.ref (G.2.2.1 + 0), .int s, .int t] : List Value).toArray s0) (F0 m0 28 ls []) := by
    intro ls a b ha hb4 hb7 e1 e2 hz hl
    subst e1 e2
    have ca : (nI a).toNatClampNeg = a := zn_cl (by omega)
    have cb : (nI b).toNatClampNeg = b := zn_cl (by omega)
    rw [ca, cb]
    have ha8 : a < 8 := by omega
    have ha_S : 23 + 14 * a < 183 := by omega
    have hs_S : zs (23 + 14 * a) = (10 + 5, 0) := zs_st0 _ ha8
    have hv_S_0 : M.2.1 (23 + 14 * a) 0 = some (24 + 14 * a) := (zL_st hL ha8).2.1
    have ha_S_0 : 24 + 14 * a < 183 := by omega
    have hs_S_0 : zs (24 + 14 * a) = (5, 3) := zs_st1 _ ha8
    have hv_S_1 : M.2.1 (23 + 14 * a) 1 = some (25 + 14 * a) := (zL_st hL ha8).2.2.1
    have ha_S_1 : 25 + 14 * a < 183 := by omega
    have hs_S_1 : zs (25 + 14 * a) = (10 + 3, 0) := zs_st2 _ ha8
    have hv_S_2 : M.2.1 (23 + 14 * a) 2 = some (29 + 14 * a) := (zL_st hL ha8).2.2.2.1
    have ha_S_2 : 29 + 14 * a < 183 := by omega
    have hs_S_2 : zs (29 + 14 * a) = (0, 8) := zs_st6 _ ha8
    have hv_S_3 : M.2.1 (23 + 14 * a) 3 = some (30 + 14 * a) := (zL_st hL ha8).2.2.2.2.1
    have ha_S_3 : 30 + 14 * a < 183 := by omega
    have hs_S_3 : zs (30 + 14 * a) = (0, 1024) := zs_st7 _ ha8
    refine zr_aload_n hx hb kd_Mx_route_28 hl rfl ?_
    refine zr_getr hS hK kf_Mx_25 hI ha_MX hs_MX (zL_0 hL).2.2.1 kd_Mx_route_29 ?_
    refine zr_iload_n hx hb kd_Mx_route_32 hl rfl ?_
    refine zr_iload_n hx hb kd_Mx_route_33 hl rfl ?_
    refine zr_ci (zr_runV hS hK (c_De_mayFeed l G M hL a b (by omega) (by omega) hD) km_Mx_109 hI ha_DE hs_DE rfl hl.1 (Nat.le_of_ble_eq_true rfl) (by decide) (by decide) kd_Mx_route_34 rfl) hI (fun r34 M34 H locs hp34 hI => ?_)
    obtain ⟨hp34, hM34⟩ := hp34
    rw [hM34] at hI
    refine lv_if_ne (tgt := 42) hx hb kd_Mx_route_37 (by decide) (fun h37 => ?_) (fun h37 => ?_)
    · skip
      refine zr_aload_n hx hb kd_Mx_route_42 hl rfl ?_
      refine zr_getr hS hK kf_Mx_25 hI ha_MX hs_MX (zL_0 hL).2.2.1 kd_Mx_route_43 ?_
      refine zr_getr hS hK kf_Mx_113 hI ha_DE hs_DE (zL_0 hL).2.2.2.2.1 kd_Mx_route_46 ?_
      refine zr_iload_n hx hb kd_Mx_route_49 hl rfl ?_
      refine zr_aald hS hK hI ha_DE_0 hs_DE_0 (by decide) (by decide) rfl (vp_in_nI (by omega) (by decide)) (by rw [ca]; exact (zL_st hL ha8).1) kd_Mx_route_50 ?_
      refine zr_iload_n hx hb kd_Mx_route_51 hl rfl ?_
      refine zr_puti hS hK kf_Mx_117 hI ha_S hs_S rfl rfl kd_Mx_route_52 (fun H locs hI => ?_)
      refine lv_iconst (v := 1) hx hb kd_Mx_route_55 (by decide) ?_
      exact zx_mono (zx_ri' hO) (zr_zret hS hK hlk hr (by decide) hI kd_Mx_route_56 (⟨hz, Or.inl (hp34.elim (fun h => ⟨rfl, h.2.1, h.2.2, rfl⟩) (fun h => absurd h.1 h37))⟩))
    · skip
      refine lv_iconst (v := 0) hx hb kd_Mx_route_40 (by decide) ?_
      exact zx_mono (zx_ri' hO) (zr_zret hS hK hlk hr (by decide) hI kd_Mx_route_41 (⟨hz, Or.inr (hp34.elim (fun h => absurd (h.1.symm.trans h37) (by decide)) (fun h => ⟨rfl, h.2, rfl⟩))⟩))
  refine zr_iload_n hx hb kd_Mx_route_0 hl rfl ?_
  refine lv_iconst (v := 0) hx hb kd_Mx_route_1 (by decide) ?_
  refine lv_bipush (v := 6) hx hb kd_Mx_route_2 (by decide) ?_
  refine zp_ci (zp_runS hS hK (d_Mx_within l G 183 zs M _ _ _) km_Mx_30 hI rfl hl.1 (Nat.le_of_ble_eq_true rfl) (by decide) (by decide) kd_Mx_route_4 rfl) (fun r4 M4 hp4 => ?_)
  obtain ⟨rfl, hM4⟩ := hp4
  refine lv_if_eq (tgt := 20) hx hb kd_Mx_route_7 (by decide) (fun h7 => ?_) (fun h7 => ?_)
  · skip
    exact zx_thr (cls := "java/lang/IllegalArgumentException") (index := 48) (ic := 50) hS hlk hex htr hK hO hI (by decide) hl.1 rfl (zw_mem (i := 372) (by decide +kernel) rfl) (zw_mem (i := 373) (by decide +kernel) rfl) (zw_mem (i := 46) (by decide +kernel) rfl) (by decide +kernel) (by decide) (by decide) (by decide) (by decide) kd_Mx_route_20 kd_Mx_route_23 kd_Mx_route_24 kd_Mx_route_27 (fun o9 t9 hF hT => ⟨hF, Or.inr (hT.to (by first | exact ⟨rfl, by simp [zv_rt, *]⟩ | exact Or.inl ⟨rfl, by simp [zv_rt, *]⟩ | exact Or.inr ⟨rfl, by simp [zv_rt, *]⟩ | exact Or.inr (Or.inl ⟨rfl, by simp [zv_rt, *]⟩) | exact Or.inr (Or.inr ⟨rfl, by simp [zv_rt, *]⟩)))⟩)
  · skip
    refine zr_iload_n hx hb kd_Mx_route_10 hl rfl ?_
    refine lv_iconst (v := 4) hx hb kd_Mx_route_11 (by decide) ?_
    refine lv_bipush (v := 7) hx hb kd_Mx_route_12 (by decide) ?_
    refine zp_ci (zp_runS hS hK (d_Mx_within l G 183 zs M _ _ _) km_Mx_30 hI rfl hl.1 (Nat.le_of_ble_eq_true rfl) (by decide) (by decide) kd_Mx_route_14 rfl) (fun r14 M14 hp14 => ?_)
    obtain ⟨rfl, hM14⟩ := hp14
    refine lv_if_ne (tgt := 28) hx hb kd_Mx_route_17 (by decide) (fun h17 => ?_) (fun h17 => ?_)
    · skip
      obtain ⟨a, ha, e1⟩ := zt_67 h7
      obtain ⟨b, hb, hb2, e2⟩ := zt_47 (m := 7) (by decide) h17
      exact rest ls a b ha hb hb2 e1 e2 (by rw [zv_rt, if_neg h7, if_neg h17]) hl
    · skip
      exact zx_thr (cls := "java/lang/IllegalArgumentException") (index := 48) (ic := 50) hS hlk hex htr hK hO hI (by decide) hl.1 rfl (zw_mem (i := 372) (by decide +kernel) rfl) (zw_mem (i := 373) (by decide +kernel) rfl) (zw_mem (i := 46) (by decide +kernel) rfl) (by decide +kernel) (by decide) (by decide) (by decide) (by decide) kd_Mx_route_20 kd_Mx_route_23 kd_Mx_route_24 kd_Mx_route_27 (fun o9 t9 hF hT => ⟨hF, Or.inr (hT.to (by first | exact ⟨rfl, by simp [zv_rt, *]⟩ | exact Or.inl ⟨rfl, by simp [zv_rt, *]⟩ | exact Or.inr ⟨rfl, by simp [zv_rt, *]⟩ | exact Or.inr (Or.inl ⟨rfl, by simp [zv_rt, *]⟩) | exact Or.inr (Or.inr ⟨rfl, by simp [zv_rt, *]⟩)))⟩)
set_option maxRecDepth 100000 in
set_option maxHeartbeats 4000000 in
theorem x_Mx_send (l : Launch) (hfl : l.flags = Jvm.pinnedFlags ++ [Jvm.noTraceFlag]) (G : zg_T) (M : zm_T) (hL : zL M.2) (s t lv : Int32) (hD : zD M) : zx_M l ky_Mx_send (zr_ws ky_Mx_send kc_Mx_send 4 (some .boolean)) { frames := 6, cells := 1, slots := 6, locals := 60 * 6 } (va_Pc [.ref (G.2.2.1 + 0), .int s, .int t, .int lv] (zy_B G M)) (zx_Qi G (fun x => x = zxA ∧ zv_sd s t lv = 1) (fun (r : Int32) (M' : zm_T) => zv_sd s t lv = 0 ∧ ((r = 1 ∧ (0 < lv → s.toNatClampNeg ≠ t.toNatClampNeg ∧ ¬ gq_T (zfd M) t.toNatClampNeg s.toNatClampNeg) ∧ M' = zm_ui M (29 + 14 * s.toNatClampNeg) t.toNatClampNeg lv) ∨ (r = 0 ∧ 0 < lv ∧ (s.toNatClampNeg = t.toNatClampNeg ∨ gq_T (zfd M) t.toNatClampNeg s.toNatClampNeg) ∧ M' = M))) M) := by
  refine zx_metY hfl (by decide +kernel) (Nat.le_of_ble_eq_true rfl) ?_
  intro p0 e0 s0 m0 below meth c0 ls htr hS hK hO hex hlk hr hl hI
  have hx := hS.1
  have hb := hS.2.1
  have hl : zl_has ls 4 [some (.ref (G.2.2.1 + 0)), some (.int s), some (.int t), some (.int lv)] := hl
  have rest : ∀ (ls : Array Slot) (a b : Nat), a < 7 → 4 ≤ b → b ≤ 6 → s = nI a → t = nI b → zv_sd s t lv = 0 → zl_has ls 4 [some (.ref (G.2.2.1 + 0)), some (.int s), some (.int t), some (.int lv)] → W p0 l e0 { frames := 6, cells := 1, slots := 6, locals := 60 * 6 } s0 m0 ([.ref (G.2.2.1 + 0), .int s, .int t, .int lv] : List Value).toArray below meth c0 s0.heap [] 0 0 (zx_E below (zx_Qi G (fun x => x = zxA ∧ zv_sd s t lv = 1) (fun (r : Int32) (M' : zm_T) => zv_sd s t lv = 0 ∧ ((r = 1 ∧ (0 < lv → s.toNatClampNeg ≠ t.toNatClampNeg ∧ ¬ gq_T (zfd M) t.toNatClampNeg s.toNatClampNeg) ∧ M' = zm_ui M (29 + 14 * s.toNatClampNeg) t.toNatClampNeg lv) ∨ (r = 0 ∧ 0 < lv ∧ (s.toNatClampNeg = t.toNatClampNeg ∨ gq_T (zfd M) t.toNatClampNeg s.toNatClampNeg) ∧ M' = M))) M) ([.ref (G.2.2.1 + 0), .int s, .int t, .int lv] : List Value).toArray s0) (F0 m0 35 ls []) := by
    intro ls a b ha hb4 hb7 e1 e2 hz hl
    subst e1 e2
    have ca : (nI a).toNatClampNeg = a := zn_cl (by omega)
    have cb : (nI b).toNatClampNeg = b := zn_cl (by omega)
    rw [ca, cb]
    have ha8 : a < 8 := by omega
    have ha_S : 23 + 14 * a < 183 := by omega
    have hs_S : zs (23 + 14 * a) = (10 + 5, 0) := zs_st0 _ ha8
    have hv_S_0 : M.2.1 (23 + 14 * a) 0 = some (24 + 14 * a) := (zL_st hL ha8).2.1
    have ha_S_0 : 24 + 14 * a < 183 := by omega
    have hs_S_0 : zs (24 + 14 * a) = (5, 3) := zs_st1 _ ha8
    have hv_S_1 : M.2.1 (23 + 14 * a) 1 = some (25 + 14 * a) := (zL_st hL ha8).2.2.1
    have ha_S_1 : 25 + 14 * a < 183 := by omega
    have hs_S_1 : zs (25 + 14 * a) = (10 + 3, 0) := zs_st2 _ ha8
    have hv_S_2 : M.2.1 (23 + 14 * a) 2 = some (29 + 14 * a) := (zL_st hL ha8).2.2.2.1
    have ha_S_2 : 29 + 14 * a < 183 := by omega
    have hs_S_2 : zs (29 + 14 * a) = (0, 8) := zs_st6 _ ha8
    have hv_S_3 : M.2.1 (23 + 14 * a) 3 = some (30 + 14 * a) := (zL_st hL ha8).2.2.2.2.1
    have ha_S_3 : 30 + 14 * a < 183 := by omega
    have hs_S_3 : zs (30 + 14 * a) = (0, 1024) := zs_st7 _ ha8
    refine zr_iload_n hx hb kd_Mx_send_35 hl rfl ?_
    refine lv_if_le (tgt := 53) hx hb kd_Mx_send_36 (by decide) (fun h36 => ?_) (fun h36 => ?_)
    · skip
      refine zr_aload_n hx hb kd_Mx_send_53 hl rfl ?_
      refine zr_getr hS hK kf_Mx_25 hI ha_MX hs_MX (zL_0 hL).2.2.1 kd_Mx_send_54 ?_
      refine zr_getr hS hK kf_Mx_113 hI ha_DE hs_DE (zL_0 hL).2.2.2.2.1 kd_Mx_send_57 ?_
      refine zr_iload_n hx hb kd_Mx_send_60 hl rfl ?_
      refine zr_aald hS hK hI ha_DE_0 hs_DE_0 (by decide) (by decide) rfl (vp_in_nI (by omega) (by decide)) (by rw [ca]; exact (zL_st hL ha8).1) kd_Mx_send_61 ?_
      refine zr_getr hS hK kf_Mx_122 hI ha_S hs_S hv_S_2 kd_Mx_send_62 ?_
      refine zr_iload_n hx hb kd_Mx_send_65 hl rfl ?_
      refine zr_iload_n hx hb kd_Mx_send_66 hl rfl ?_
      refine zr_iast hS hK hI ha_S_2 hs_S_2 (vp_in_nI (by omega) (by decide)) kd_Mx_send_67 (fun H locs hI => ?_)
      refine lv_iconst (v := 1) hx hb kd_Mx_send_68 (by decide) ?_
      exact zx_mono (zx_ri' hO) (zr_zret hS hK hlk hr (by decide) hI kd_Mx_send_69 (⟨hz, Or.inl ⟨rfl, fun h0 => by first | exact absurd h0 (Int32.not_lt.mpr h36) | exact hp45.elim (fun h => h.2) (fun h => absurd h.1 h48), by rw [cb]⟩⟩))
    · skip
      refine zr_aload_n hx hb kd_Mx_send_39 hl rfl ?_
      refine zr_getr hS hK kf_Mx_25 hI ha_MX hs_MX (zL_0 hL).2.2.1 kd_Mx_send_40 ?_
      refine zr_iload_n hx hb kd_Mx_send_43 hl rfl ?_
      refine zr_iload_n hx hb kd_Mx_send_44 hl rfl ?_
      refine zr_ci (zr_runV hS hK (c_De_mayFeed l G M hL a b (by omega) (by omega) hD) km_Mx_109 hI ha_DE hs_DE rfl hl.1 (Nat.le_of_ble_eq_true rfl) (by decide) (by decide) kd_Mx_send_45 rfl) hI (fun r45 M45 H locs hp45 hI => ?_)
      obtain ⟨hp45, hM45⟩ := hp45
      rw [hM45] at hI
      refine lv_if_ne (tgt := 53) hx hb kd_Mx_send_48 (by decide) (fun h48 => ?_) (fun h48 => ?_)
      · skip
        refine zr_aload_n hx hb kd_Mx_send_53 hl rfl ?_
        refine zr_getr hS hK kf_Mx_25 hI ha_MX hs_MX (zL_0 hL).2.2.1 kd_Mx_send_54 ?_
        refine zr_getr hS hK kf_Mx_113 hI ha_DE hs_DE (zL_0 hL).2.2.2.2.1 kd_Mx_send_57 ?_
        refine zr_iload_n hx hb kd_Mx_send_60 hl rfl ?_
        refine zr_aald hS hK hI ha_DE_0 hs_DE_0 (by decide) (by decide) rfl (vp_in_nI (by omega) (by decide)) (by rw [ca]; exact (zL_st hL ha8).1) kd_Mx_send_61 ?_
        refine zr_getr hS hK kf_Mx_122 hI ha_S hs_S hv_S_2 kd_Mx_send_62 ?_
        refine zr_iload_n hx hb kd_Mx_send_65 hl rfl ?_
        refine zr_iload_n hx hb kd_Mx_send_66 hl rfl ?_
        refine zr_iast hS hK hI ha_S_2 hs_S_2 (vp_in_nI (by omega) (by decide)) kd_Mx_send_67 (fun H locs hI => ?_)
        refine lv_iconst (v := 1) hx hb kd_Mx_send_68 (by decide) ?_
        exact zx_mono (zx_ri' hO) (zr_zret hS hK hlk hr (by decide) hI kd_Mx_send_69 (⟨hz, Or.inl ⟨rfl, fun h0 => by first | exact absurd h0 (Int32.not_lt.mpr h36) | exact hp45.elim (fun h => h.2) (fun h => absurd h.1 h48), by rw [cb]⟩⟩))
      · skip
        refine lv_iconst (v := 0) hx hb kd_Mx_send_51 (by decide) ?_
        exact zx_mono (zx_ri' hO) (zr_zret hS hK hlk hr (by decide) hI kd_Mx_send_52 (⟨hz, Or.inr (hp45.elim (fun h => absurd (h.1.symm.trans h48) (by decide)) (fun h => ⟨rfl, Int32.not_le.mp h36, h.2, rfl⟩))⟩))
  refine zr_iload_n hx hb kd_Mx_send_0 hl rfl ?_
  refine lv_iconst (v := 0) hx hb kd_Mx_send_1 (by decide) ?_
  refine lv_bipush (v := 6) hx hb kd_Mx_send_2 (by decide) ?_
  refine zp_ci (zp_runS hS hK (d_Mx_within l G 183 zs M _ _ _) km_Mx_30 hI rfl hl.1 (Nat.le_of_ble_eq_true rfl) (by decide) (by decide) kd_Mx_send_4 rfl) (fun r4 M4 hp4 => ?_)
  obtain ⟨rfl, hM4⟩ := hp4
  refine lv_if_eq (tgt := 27) hx hb kd_Mx_send_7 (by decide) (fun h7 => ?_) (fun h7 => ?_)
  · skip
    exact zx_thr (cls := "java/lang/IllegalArgumentException") (index := 48) (ic := 50) hS hlk hex htr hK hO hI (by decide) hl.1 rfl (zw_mem (i := 372) (by decide +kernel) rfl) (zw_mem (i := 373) (by decide +kernel) rfl) (zw_mem (i := 46) (by decide +kernel) rfl) (by decide +kernel) (by decide) (by decide) (by decide) (by decide) kd_Mx_send_27 kd_Mx_send_30 kd_Mx_send_31 kd_Mx_send_34 (fun o9 t9 hF hT => ⟨hF, Or.inr (hT.to (by first | exact ⟨rfl, by simp [zv_sd, *]⟩ | exact Or.inl ⟨rfl, by simp [zv_sd, *]⟩ | exact Or.inr ⟨rfl, by simp [zv_sd, *]⟩ | exact Or.inr (Or.inl ⟨rfl, by simp [zv_sd, *]⟩) | exact Or.inr (Or.inr ⟨rfl, by simp [zv_sd, *]⟩)))⟩)
  · skip
    refine zr_iload_n hx hb kd_Mx_send_10 hl rfl ?_
    refine lv_iconst (v := 4) hx hb kd_Mx_send_11 (by decide) ?_
    refine lv_bipush (v := 6) hx hb kd_Mx_send_12 (by decide) ?_
    refine zp_ci (zp_runS hS hK (d_Mx_within l G 183 zs M _ _ _) km_Mx_30 hI rfl hl.1 (Nat.le_of_ble_eq_true rfl) (by decide) (by decide) kd_Mx_send_14 rfl) (fun r14 M14 hp14 => ?_)
    obtain ⟨rfl, hM14⟩ := hp14
    refine lv_if_eq (tgt := 27) hx hb kd_Mx_send_17 (by decide) (fun h17 => ?_) (fun h17 => ?_)
    · skip
      exact zx_thr (cls := "java/lang/IllegalArgumentException") (index := 48) (ic := 50) hS hlk hex htr hK hO hI (by decide) hl.1 rfl (zw_mem (i := 372) (by decide +kernel) rfl) (zw_mem (i := 373) (by decide +kernel) rfl) (zw_mem (i := 46) (by decide +kernel) rfl) (by decide +kernel) (by decide) (by decide) (by decide) (by decide) kd_Mx_send_27 kd_Mx_send_30 kd_Mx_send_31 kd_Mx_send_34 (fun o9 t9 hF hT => ⟨hF, Or.inr (hT.to (by first | exact ⟨rfl, by simp [zv_sd, *]⟩ | exact Or.inl ⟨rfl, by simp [zv_sd, *]⟩ | exact Or.inr ⟨rfl, by simp [zv_sd, *]⟩ | exact Or.inr (Or.inl ⟨rfl, by simp [zv_sd, *]⟩) | exact Or.inr (Or.inr ⟨rfl, by simp [zv_sd, *]⟩)))⟩)
    · skip
      refine zr_iload_n hx hb kd_Mx_send_20 hl rfl ?_
      refine zp_ci (zp_runS hS hK (d_Mx_isLevel l G 183 zs M _) km_Mx_106 hI rfl hl.1 (Nat.le_of_ble_eq_true rfl) (by decide) (by decide) kd_Mx_send_21 rfl) (fun r21 M21 hp21 => ?_)
      obtain ⟨rfl, hM21⟩ := hp21
      refine lv_if_ne (tgt := 35) hx hb kd_Mx_send_24 (by decide) (fun h24 => ?_) (fun h24 => ?_)
      · skip
        obtain ⟨a, ha, e1⟩ := zt_67 h7
        obtain ⟨b, hb, hb2, e2⟩ := zt_47 (m := 6) (by decide) h17
        exact rest ls a b ha hb hb2 e1 e2 (by rw [zv_sd, if_neg h7, if_neg h17, if_neg h24]) hl
      · skip
        exact zx_thr (cls := "java/lang/IllegalArgumentException") (index := 48) (ic := 50) hS hlk hex htr hK hO hI (by decide) hl.1 rfl (zw_mem (i := 372) (by decide +kernel) rfl) (zw_mem (i := 373) (by decide +kernel) rfl) (zw_mem (i := 46) (by decide +kernel) rfl) (by decide +kernel) (by decide) (by decide) (by decide) (by decide) kd_Mx_send_27 kd_Mx_send_30 kd_Mx_send_31 kd_Mx_send_34 (fun o9 t9 hF hT => ⟨hF, Or.inr (hT.to (by first | exact ⟨rfl, by simp [zv_sd, *]⟩ | exact Or.inl ⟨rfl, by simp [zv_sd, *]⟩ | exact Or.inr ⟨rfl, by simp [zv_sd, *]⟩ | exact Or.inr (Or.inl ⟨rfl, by simp [zv_sd, *]⟩) | exact Or.inr (Or.inr ⟨rfl, by simp [zv_sd, *]⟩)))⟩)
set_option maxRecDepth 100000 in
set_option maxHeartbeats 4000000 in
theorem x_Mx_effect (l : Launch) (hfl : l.flags = Jvm.pinnedFlags ++ [Jvm.noTraceFlag]) (G : zg_T) (M : zm_T) (hL : zL M.2) (s sl k p' q : Int32) : zx_M l ky_Mx_effect (zr_ws ky_Mx_effect kc_Mx_effect 6 none) { frames := 6, cells := 1, slots := 6, locals := 60 * 6 } (va_Pc [.ref (G.2.2.1 + 0), .int s, .int sl, .int k, .int p', .int q] (zy_B G M)) (zx_Qv G (fun x => x = zxA ∧ zv_eff s sl k p' q = 1) (fun (M' : zm_T) => zv_eff s sl k p' q = 0 ∧ M' = zm_ui (zm_ui (zm_ui M (31 + 14 * s.toNatClampNeg + 2 * sl.toNatClampNeg) 1 k) (31 + 14 * s.toNatClampNeg + 2 * sl.toNatClampNeg) 2 p') (31 + 14 * s.toNatClampNeg + 2 * sl.toNatClampNeg) 3 q) M) := by
  refine zx_metY hfl (by decide +kernel) (Nat.le_of_ble_eq_true rfl) ?_
  intro p0 e0 s0 m0 below meth c0 ls htr hS hK hO hex hlk hr hl hI
  have hx := hS.1
  have hb := hS.2.1
  have hl : zl_has ls 6 [some (.ref (G.2.2.1 + 0)), some (.int s), some (.int sl), some (.int k), some (.int p'), some (.int q)] := hl
  have rest : ∀ (ls : Array Slot) (a b : Nat), a < 8 → b < 3 → s = nI a → sl = nI b → zv_eff s sl k p' q = 0 → zl_has ls 6 [some (.ref (G.2.2.1 + 0)), some (.int s), some (.int sl), some (.int k), some (.int p'), some (.int q)] → W p0 l e0 { frames := 6, cells := 1, slots := 6, locals := 60 * 6 } s0 m0 ([.ref (G.2.2.1 + 0), .int s, .int sl, .int k, .int p', .int q] : List Value).toArray below meth c0 s0.heap [] 0 0 (zx_E below (zx_Qv G (fun x => x = zxA ∧ zv_eff s sl k p' q = 1) (fun (M' : zm_T) => zv_eff s sl k p' q = 0 ∧ M' = zm_ui (zm_ui (zm_ui M (31 + 14 * s.toNatClampNeg + 2 * sl.toNatClampNeg) 1 k) (31 + 14 * s.toNatClampNeg + 2 * sl.toNatClampNeg) 2 p') (31 + 14 * s.toNatClampNeg + 2 * sl.toNatClampNeg) 3 q) M) ([.ref (G.2.2.1 + 0), .int s, .int sl, .int k, .int p', .int q] : List Value).toArray s0) (F0 m0 35 ls []) := by
    intro ls a b ha8 hb3 e1 e2 hz hl
    subst e1 e2
    have ca : (nI a).toNatClampNeg = a := zn_cl (by omega)
    have cb : (nI b).toNatClampNeg = b := zn_cl (by omega)
    rw [ca, cb]
    have ha_S : 23 + 14 * a < 183 := by omega
    have hs_S : zs (23 + 14 * a) = (10 + 5, 0) := zs_st0 _ ha8
    have hv_S_0 : M.2.1 (23 + 14 * a) 0 = some (24 + 14 * a) := (zL_st hL ha8).2.1
    have ha_S_0 : 24 + 14 * a < 183 := by omega
    have hs_S_0 : zs (24 + 14 * a) = (5, 3) := zs_st1 _ ha8
    have hv_S_1 : M.2.1 (23 + 14 * a) 1 = some (25 + 14 * a) := (zL_st hL ha8).2.2.1
    have ha_S_1 : 25 + 14 * a < 183 := by omega
    have hs_S_1 : zs (25 + 14 * a) = (10 + 3, 0) := zs_st2 _ ha8
    have hv_S_2 : M.2.1 (23 + 14 * a) 2 = some (29 + 14 * a) := (zL_st hL ha8).2.2.2.1
    have ha_S_2 : 29 + 14 * a < 183 := by omega
    have hs_S_2 : zs (29 + 14 * a) = (0, 8) := zs_st6 _ ha8
    have hv_S_3 : M.2.1 (23 + 14 * a) 3 = some (30 + 14 * a) := (zL_st hL ha8).2.2.2.2.1
    have ha_S_3 : 30 + 14 * a < 183 := by omega
    have hs_S_3 : zs (30 + 14 * a) = (0, 1024) := zs_st7 _ ha8
    refine zr_aload_n hx hb kd_Mx_effect_35 hl rfl ?_
    refine zr_getr hS hK kf_Mx_25 hI ha_MX hs_MX (zL_0 hL).2.2.1 kd_Mx_effect_36 ?_
    refine zr_getr hS hK kf_Mx_113 hI ha_DE hs_DE (zL_0 hL).2.2.2.2.1 kd_Mx_effect_39 ?_
    refine zr_iload_n hx hb kd_Mx_effect_42 hl rfl ?_
    refine zr_aald hS hK hI ha_DE_0 hs_DE_0 (by decide) (by decide) rfl (vp_in_nI (by omega) (by decide)) (by rw [ca]; exact (zL_st hL ha8).1) kd_Mx_effect_43 ?_
    refine zr_getr hS hK kf_Mx_133 hI ha_S hs_S hv_S_0 kd_Mx_effect_44 ?_
    refine zr_iload_n hx hb kd_Mx_effect_47 hl rfl ?_
    refine zr_aald hS hK hI ha_S_0 hs_S_0 (by decide) (by decide) rfl (vp_in_nI (by omega) (by decide)) (by rw [cb]; exact (zL_ef hL ha8 hb3).1) kd_Mx_effect_48 ?_
    refine zr_iload_n hx hb kd_Mx_effect_49 hl rfl ?_
    refine zr_iload hx hb kd_Mx_effect_50 hl rfl ?_
    refine zr_iload hx hb kd_Mx_effect_52 hl rfl ?_
    refine zr_cv (zr_runV hS hK (c_Ef_become l G 183 zs M (31 + 14 * a + 2 * b) k p' q (by omega) (zs_ef a ha8 b hb3).1) km_Mx_137 hI (by omega) (zs_ef a ha8 b hb3).1 rfl hl.1 (Nat.le_of_ble_eq_true rfl) (by decide) (by decide) kd_Mx_effect_54 rfl) hI (fun M54 H locs hp54 hI => ?_)
    rw [hp54] at hI
    exact zx_mono (zx_rv' hO) (zr_vret hS hK hlk hr hI kd_Mx_effect_57 (⟨hz, rfl⟩))
  refine zr_iload_n hx hb kd_Mx_effect_0 hl rfl ?_
  refine zp_ci (zp_runS hS hK (d_Mx_isStrip l G 183 zs M _) km_Mx_125 hI rfl hl.1 (Nat.le_of_ble_eq_true rfl) (by decide) (by decide) kd_Mx_effect_1 rfl) (fun r1 M1 hp1 => ?_)
  obtain ⟨rfl, hM1⟩ := hp1
  refine lv_if_eq (tgt := 27) hx hb kd_Mx_effect_4 (by decide) (fun h4 => ?_) (fun h4 => ?_)
  · skip
    exact zx_thr (cls := "java/lang/IllegalArgumentException") (index := 48) (ic := 50) hS hlk hex htr hK hO hI (by decide) hl.1 rfl (zw_mem (i := 372) (by decide +kernel) rfl) (zw_mem (i := 373) (by decide +kernel) rfl) (zw_mem (i := 46) (by decide +kernel) rfl) (by decide +kernel) (by decide) (by decide) (by decide) (by decide) kd_Mx_effect_27 kd_Mx_effect_30 kd_Mx_effect_31 kd_Mx_effect_34 (fun o9 t9 hF hT => ⟨hF, Or.inr (hT.to (by first | exact ⟨rfl, by simp [zv_eff, *]⟩ | exact Or.inl ⟨rfl, by simp [zv_eff, *]⟩ | exact Or.inr ⟨rfl, by simp [zv_eff, *]⟩ | exact Or.inr (Or.inl ⟨rfl, by simp [zv_eff, *]⟩) | exact Or.inr (Or.inr ⟨rfl, by simp [zv_eff, *]⟩)))⟩)
  · skip
    refine zr_iload_n hx hb kd_Mx_effect_7 hl rfl ?_
    refine lv_iconst (v := 0) hx hb kd_Mx_effect_8 (by decide) ?_
    refine lv_iconst (v := 2) hx hb kd_Mx_effect_9 (by decide) ?_
    refine zp_ci (zp_runS hS hK (d_Mx_within l G 183 zs M _ _ _) km_Mx_30 hI rfl hl.1 (Nat.le_of_ble_eq_true rfl) (by decide) (by decide) kd_Mx_effect_10 rfl) (fun r10 M10 hp10 => ?_)
    obtain ⟨rfl, hM10⟩ := hp10
    refine lv_if_eq (tgt := 27) hx hb kd_Mx_effect_13 (by decide) (fun h13 => ?_) (fun h13 => ?_)
    · skip
      exact zx_thr (cls := "java/lang/IllegalArgumentException") (index := 48) (ic := 50) hS hlk hex htr hK hO hI (by decide) hl.1 rfl (zw_mem (i := 372) (by decide +kernel) rfl) (zw_mem (i := 373) (by decide +kernel) rfl) (zw_mem (i := 46) (by decide +kernel) rfl) (by decide +kernel) (by decide) (by decide) (by decide) (by decide) kd_Mx_effect_27 kd_Mx_effect_30 kd_Mx_effect_31 kd_Mx_effect_34 (fun o9 t9 hF hT => ⟨hF, Or.inr (hT.to (by first | exact ⟨rfl, by simp [zv_eff, *]⟩ | exact Or.inl ⟨rfl, by simp [zv_eff, *]⟩ | exact Or.inr ⟨rfl, by simp [zv_eff, *]⟩ | exact Or.inr (Or.inl ⟨rfl, by simp [zv_eff, *]⟩) | exact Or.inr (Or.inr ⟨rfl, by simp [zv_eff, *]⟩)))⟩)
    · skip
      refine zr_iload_n hx hb kd_Mx_effect_16 hl rfl ?_
      refine zr_iload hx hb kd_Mx_effect_17 hl rfl ?_
      refine zr_iload hx hb kd_Mx_effect_19 hl rfl ?_
      refine zp_ci (zp_runS hS hK (d_Ef_allows l G 183 zs M _ _ _) km_Mx_128 hI rfl hl.1 (Nat.le_of_ble_eq_true rfl) (by decide) (by decide) kd_Mx_effect_21 rfl) (fun r21 M21 hp21 => ?_)
      obtain ⟨rfl, hM21⟩ := hp21
      refine lv_if_ne (tgt := 35) hx hb kd_Mx_effect_24 (by decide) (fun h24 => ?_) (fun h24 => ?_)
      · skip
        obtain ⟨a, ha, e1⟩ := zf_in_n (n := 7) (by decide) h4
        obtain ⟨b, hb3, e2⟩ := zf_in_n (n := 2) (by decide) h13
        exact rest ls a b (by omega) (by omega) e1 e2 (by rw [zv_eff, if_neg h4, if_neg h13, if_neg h24]) hl
      · skip
        exact zx_thr (cls := "java/lang/IllegalArgumentException") (index := 48) (ic := 50) hS hlk hex htr hK hO hI (by decide) hl.1 rfl (zw_mem (i := 372) (by decide +kernel) rfl) (zw_mem (i := 373) (by decide +kernel) rfl) (zw_mem (i := 46) (by decide +kernel) rfl) (by decide +kernel) (by decide) (by decide) (by decide) (by decide) kd_Mx_effect_27 kd_Mx_effect_30 kd_Mx_effect_31 kd_Mx_effect_34 (fun o9 t9 hF hT => ⟨hF, Or.inr (hT.to (by first | exact ⟨rfl, by simp [zv_eff, *]⟩ | exact Or.inl ⟨rfl, by simp [zv_eff, *]⟩ | exact Or.inr ⟨rfl, by simp [zv_eff, *]⟩ | exact Or.inr (Or.inl ⟨rfl, by simp [zv_eff, *]⟩) | exact Or.inr (Or.inr ⟨rfl, by simp [zv_eff, *]⟩)))⟩)
set_option maxRecDepth 100000 in
set_option maxHeartbeats 4000000 in
theorem x_Mx_fader (l : Launch) (hfl : l.flags = Jvm.pinnedFlags ++ [Jvm.noTraceFlag]) (G : zg_T) (M : zm_T) (hL : zL M.2) (s v : Int32) : zx_M l ky_Mx_fader (zr_ws ky_Mx_fader kc_Mx_fader 3 none) { frames := 6, cells := 1, slots := 6, locals := 60 * 6 } (va_Pc [.ref (G.2.2.1 + 0), .int s, .int v] (zy_B G M)) (zx_Qv G (fun x => x = zxA ∧ (zf_in s 0 7 = 0 ∨ zf_in v 0 1024 = 0)) (fun (M' : zm_T) => ¬ (zf_in s 0 7 = 0 ∨ zf_in v 0 1024 = 0) ∧ M' = zm_ui M (25 + 14 * s.toNatClampNeg) 4 v) M) := by
  refine zx_metY hfl (by decide +kernel) (Nat.le_of_ble_eq_true rfl) ?_
  intro p0 e0 s0 m0 below meth c0 ls htr hS hK hO hex hlk hr hl hI
  have hx := hS.1
  have hb := hS.2.1
  have hl : zl_has ls 3 [some (.ref (G.2.2.1 + 0)), some (.int s), some (.int v)] := hl
  have rest : ∀ (ls : Array Slot) (a : Nat), a < 8 → s = nI a → ¬ (zf_in s 0 7 = 0 ∨ zf_in v 0 1024 = 0) → zl_has ls 3 [some (.ref (G.2.2.1 + 0)), some (.int s), some (.int v)] → W p0 l e0 { frames := 6, cells := 1, slots := 6, locals := 60 * 6 } s0 m0 ([.ref (G.2.2.1 + 0), .int s, .int v] : List Value).toArray below meth c0 s0.heap [] 0 0 (zx_E below (zx_Qv G (fun x => x = zxA ∧ (zf_in s 0 7 = 0 ∨ zf_in v 0 1024 = 0)) (fun (M' : zm_T) => ¬ (zf_in s 0 7 = 0 ∨ zf_in v 0 1024 = 0) ∧ M' = zm_ui M (25 + 14 * s.toNatClampNeg) 4 v) M) ([.ref (G.2.2.1 + 0), .int s, .int v] : List Value).toArray s0) (F0 m0 22 ls []) := by
    intro ls a ha8 e1 hz hl
    subst e1
    have ca : (nI a).toNatClampNeg = a := zn_cl (by omega)
    rw [ca]
    have ha_S : 23 + 14 * a < 183 := by omega
    have hs_S : zs (23 + 14 * a) = (10 + 5, 0) := zs_st0 _ ha8
    have hv_S_0 : M.2.1 (23 + 14 * a) 0 = some (24 + 14 * a) := (zL_st hL ha8).2.1
    have ha_S_0 : 24 + 14 * a < 183 := by omega
    have hs_S_0 : zs (24 + 14 * a) = (5, 3) := zs_st1 _ ha8
    have hv_S_1 : M.2.1 (23 + 14 * a) 1 = some (25 + 14 * a) := (zL_st hL ha8).2.2.1
    have ha_S_1 : 25 + 14 * a < 183 := by omega
    have hs_S_1 : zs (25 + 14 * a) = (10 + 3, 0) := zs_st2 _ ha8
    have hv_S_2 : M.2.1 (23 + 14 * a) 2 = some (29 + 14 * a) := (zL_st hL ha8).2.2.2.1
    have ha_S_2 : 29 + 14 * a < 183 := by omega
    have hs_S_2 : zs (29 + 14 * a) = (0, 8) := zs_st6 _ ha8
    have hv_S_3 : M.2.1 (23 + 14 * a) 3 = some (30 + 14 * a) := (zL_st hL ha8).2.2.2.2.1
    have ha_S_3 : 30 + 14 * a < 183 := by omega
    have hs_S_3 : zs (30 + 14 * a) = (0, 1024) := zs_st7 _ ha8
    refine zr_aload_n hx hb kd_Mx_fader_22 hl rfl ?_
    refine zr_getr hS hK kf_Mx_25 hI ha_MX hs_MX (zL_0 hL).2.2.1 kd_Mx_fader_23 ?_
    refine zr_getr hS hK kf_Mx_113 hI ha_DE hs_DE (zL_0 hL).2.2.2.2.1 kd_Mx_fader_26 ?_
    refine zr_iload_n hx hb kd_Mx_fader_29 hl rfl ?_
    refine zr_aald hS hK hI ha_DE_0 hs_DE_0 (by decide) (by decide) rfl (vp_in_nI (by omega) (by decide)) (by rw [ca]; exact (zL_st hL ha8).1) kd_Mx_fader_30 ?_
    refine zr_getr hS hK kf_Mx_140 hI ha_S hs_S hv_S_1 kd_Mx_fader_31 ?_
    refine zr_iload_n hx hb kd_Mx_fader_34 hl rfl ?_
    refine zr_puti hS hK kf_Mx_144 hI ha_S_1 hs_S_1 rfl rfl kd_Mx_fader_35 (fun H locs hI => ?_)
    exact zx_mono (zx_rv' hO) (zr_vret hS hK hlk hr hI kd_Mx_fader_38 (⟨hz, rfl⟩))
  refine zr_iload_n hx hb kd_Mx_fader_0 hl rfl ?_
  refine zp_ci (zp_runS hS hK (d_Mx_isStrip l G 183 zs M _) km_Mx_125 hI rfl hl.1 (Nat.le_of_ble_eq_true rfl) (by decide) (by decide) kd_Mx_fader_1 rfl) (fun r1 M1 hp1 => ?_)
  obtain ⟨rfl, hM1⟩ := hp1
  refine lv_if_eq (tgt := 14) hx hb kd_Mx_fader_4 (by decide) (fun h4 => ?_) (fun h4 => ?_)
  · skip
    exact zx_thr (cls := "java/lang/IllegalArgumentException") (index := 48) (ic := 50) hS hlk hex htr hK hO hI (by decide) hl.1 rfl (zw_mem (i := 372) (by decide +kernel) rfl) (zw_mem (i := 373) (by decide +kernel) rfl) (zw_mem (i := 46) (by decide +kernel) rfl) (by decide +kernel) (by decide) (by decide) (by decide) (by decide) kd_Mx_fader_14 kd_Mx_fader_17 kd_Mx_fader_18 kd_Mx_fader_21 (fun o9 t9 hF hT => ⟨hF, Or.inr (hT.to (by first | exact ⟨rfl, by first | exact Or.inl h4 | exact Or.inr h11⟩ | exact Or.inl ⟨rfl, by first | exact Or.inl h4 | exact Or.inr h11⟩ | exact Or.inr ⟨rfl, by first | exact Or.inl h4 | exact Or.inr h11⟩ | exact Or.inr (Or.inl ⟨rfl, by first | exact Or.inl h4 | exact Or.inr h11⟩) | exact Or.inr (Or.inr ⟨rfl, by first | exact Or.inl h4 | exact Or.inr h11⟩)))⟩)
  · skip
    refine zr_iload_n hx hb kd_Mx_fader_7 hl rfl ?_
    refine zp_ci (zp_runS hS hK (d_Mx_isLevel l G 183 zs M _) km_Mx_106 hI rfl hl.1 (Nat.le_of_ble_eq_true rfl) (by decide) (by decide) kd_Mx_fader_8 rfl) (fun r8 M8 hp8 => ?_)
    obtain ⟨rfl, hM8⟩ := hp8
    refine lv_if_ne (tgt := 22) hx hb kd_Mx_fader_11 (by decide) (fun h11 => ?_) (fun h11 => ?_)
    · skip
      obtain ⟨a, ha, e1⟩ := zf_in_n (n := 7) (by decide) h4
      exact rest ls a (by omega) e1 (fun h => h.elim h4 h11) hl
    · skip
      exact zx_thr (cls := "java/lang/IllegalArgumentException") (index := 48) (ic := 50) hS hlk hex htr hK hO hI (by decide) hl.1 rfl (zw_mem (i := 372) (by decide +kernel) rfl) (zw_mem (i := 373) (by decide +kernel) rfl) (zw_mem (i := 46) (by decide +kernel) rfl) (by decide +kernel) (by decide) (by decide) (by decide) (by decide) kd_Mx_fader_14 kd_Mx_fader_17 kd_Mx_fader_18 kd_Mx_fader_21 (fun o9 t9 hF hT => ⟨hF, Or.inr (hT.to (by first | exact ⟨rfl, by first | exact Or.inl h4 | exact Or.inr h11⟩ | exact Or.inl ⟨rfl, by first | exact Or.inl h4 | exact Or.inr h11⟩ | exact Or.inr ⟨rfl, by first | exact Or.inl h4 | exact Or.inr h11⟩ | exact Or.inr (Or.inl ⟨rfl, by first | exact Or.inl h4 | exact Or.inr h11⟩) | exact Or.inr (Or.inr ⟨rfl, by first | exact Or.inl h4 | exact Or.inr h11⟩)))⟩)
set_option maxRecDepth 100000 in
set_option maxHeartbeats 4000000 in
theorem x_Mx_point (l : Launch) (hfl : l.flags = Jvm.pinnedFlags ++ [Jvm.noTraceFlag]) (G : zg_T) (M : zm_T) (hL : zL M.2) (s t lv jn : Int32) (hj : jn = 0 ∨ jn = 1) (fn : Nat → Nat) (hfn : ∀ a, a < 8 → M.1 (25 + 14 * a) 3 = nI (fn a) ∧ fn a ≤ 8 ∧ ∀ i, i < fn a → M.1 (28 + 14 * a) i = 0 ∨ M.1 (28 + 14 * a) i = 1) : zx_M l ky_Mx_point (zr_ws ky_Mx_point kc_Mx_point 5 (some .boolean)) { frames := 6, cells := 1, slots := 6, locals := 60 * 6 } (va_Pc [.ref (G.2.2.1 + 0), .int s, .int t, .int lv, .int jn] (zy_B G M)) (zx_Qi G (fun x => x = zxA ∧ zv_pt s t lv = 1) (fun (r : Int32) (M' : zm_T) => zv_pt s t lv = 0 ∧ ∃ a, a < 8 ∧ s = nI a ∧ ∃ c : Nat, c ≤ fn a ∧ (∀ i, i < c → M.1 (26 + 14 * a) i < t) ∧ (c < fn a → t ≤ M.1 (26 + 14 * a) c) ∧ ((r = 0 ∧ M' = M ∧ fn a = 8 ∧ ¬ (c < fn a ∧ M.1 (26 + 14 * a) c = t)) ∨ (r = 1 ∧ zF_put M M' (25 + 14 * a) (26 + 14 * a) (27 + 14 * a) (28 + 14 * a) (fn a) c t lv jn))) M) := by
  refine zx_metY hfl (by decide +kernel) (Nat.le_of_ble_eq_true rfl) ?_
  intro p0 e0 s0 m0 below meth c0 ls htr hS hK hO hex hlk hr hl hI
  have hx := hS.1
  have hb := hS.2.1
  have hl : zl_has ls 5 [some (.ref (G.2.2.1 + 0)), some (.int s), some (.int t), some (.int lv), some (.int jn)] := hl
  have rest : ∀ (ls : Array Slot) (a : Nat), a < 8 → s = nI a → zv_pt s t lv = 0 → zl_has ls 5 [some (.ref (G.2.2.1 + 0)), some (.int s), some (.int t), some (.int lv), some (.int jn)] → W p0 l e0 { frames := 6, cells := 1, slots := 6, locals := 60 * 6 } s0 m0 ([.ref (G.2.2.1 + 0), .int s, .int t, .int lv, .int jn] : List Value).toArray below meth c0 s0.heap [] 0 0 (zx_E below (zx_Qi G (fun x => x = zxA ∧ zv_pt s t lv = 1) (fun (r : Int32) (M' : zm_T) => zv_pt s t lv = 0 ∧ ∃ a, a < 8 ∧ s = nI a ∧ ∃ c : Nat, c ≤ fn a ∧ (∀ i, i < c → M.1 (26 + 14 * a) i < t) ∧ (c < fn a → t ≤ M.1 (26 + 14 * a) c) ∧ ((r = 0 ∧ M' = M ∧ fn a = 8 ∧ ¬ (c < fn a ∧ M.1 (26 + 14 * a) c = t)) ∨ (r = 1 ∧ zF_put M M' (25 + 14 * a) (26 + 14 * a) (27 + 14 * a) (28 + 14 * a) (fn a) c t lv jn))) M) ([.ref (G.2.2.1 + 0), .int s, .int t, .int lv, .int jn] : List Value).toArray s0) (F0 m0 33 ls []) := by
    intro ls a ha8 e1 hz hl
    subst e1
    have ca : (nI a).toNatClampNeg = a := zn_cl (by omega)
    have ha_S : 23 + 14 * a < 183 := by omega
    have hs_S : zs (23 + 14 * a) = (10 + 5, 0) := zs_st0 _ ha8
    have hv_S_0 : M.2.1 (23 + 14 * a) 0 = some (24 + 14 * a) := (zL_st hL ha8).2.1
    have ha_S_0 : 24 + 14 * a < 183 := by omega
    have hs_S_0 : zs (24 + 14 * a) = (5, 3) := zs_st1 _ ha8
    have hv_S_1 : M.2.1 (23 + 14 * a) 1 = some (25 + 14 * a) := (zL_st hL ha8).2.2.1
    have ha_S_1 : 25 + 14 * a < 183 := by omega
    have hs_S_1 : zs (25 + 14 * a) = (10 + 3, 0) := zs_st2 _ ha8
    have hv_S_2 : M.2.1 (23 + 14 * a) 2 = some (29 + 14 * a) := (zL_st hL ha8).2.2.2.1
    have ha_S_2 : 29 + 14 * a < 183 := by omega
    have hs_S_2 : zs (29 + 14 * a) = (0, 8) := zs_st6 _ ha8
    have hv_S_3 : M.2.1 (23 + 14 * a) 3 = some (30 + 14 * a) := (zL_st hL ha8).2.2.2.2.1
    have ha_S_3 : 30 + 14 * a < 183 := by omega
    have hs_S_3 : zs (30 + 14 * a) = (0, 1024) := zs_st7 _ ha8
    refine zr_aload_n hx hb kd_Mx_point_33 hl rfl ?_
    refine zr_getr hS hK kf_Mx_25 hI ha_MX hs_MX (zL_0 hL).2.2.1 kd_Mx_point_34 ?_
    refine zr_getr hS hK kf_Mx_113 hI ha_DE hs_DE (zL_0 hL).2.2.2.2.1 kd_Mx_point_37 ?_
    refine zr_iload_n hx hb kd_Mx_point_40 hl rfl ?_
    refine zr_aald hS hK hI ha_DE_0 hs_DE_0 (by decide) (by decide) rfl (vp_in_nI (by omega) (by decide)) (by rw [ca]; exact (zL_st hL ha8).1) kd_Mx_point_41 ?_
    refine zr_getr hS hK kf_Mx_140 hI ha_S hs_S hv_S_1 kd_Mx_point_42 ?_
    refine zr_iload_n hx hb kd_Mx_point_45 hl rfl ?_
    refine zr_iload_n hx hb kd_Mx_point_46 hl rfl ?_
    refine zr_iload hx hb kd_Mx_point_47 hl rfl ?_
    refine zr_ci (zr_runV hS hK (c_Fa_put l G 183 zs M (25 + 14 * a) (26 + 14 * a) (27 + 14 * a) (28 + 14 * a) (fn a) t lv jn (by omega) (zs_st2 a ha8) (zL_st hL ha8).2.2.2.2.2.1 (by omega) (zs_st3 a ha8) (zL_st hL ha8).2.2.2.2.2.2.1 (by omega) (zs_st4 a ha8) (zL_st hL ha8).2.2.2.2.2.2.2 (by omega) (zs_st5 a ha8) (by omega) (hfn a ha8).1 (hfn a ha8).2.1 (hfn a ha8).2.2 hj) km_Mx_149 hI ha_S_1 hs_S_1 rfl hl.1 (Nat.le_of_ble_eq_true rfl) (by decide) (by decide) kd_Mx_point_49 rfl) hI (fun r49 M49 H locs hp49 hI => ?_)
    skip
    exact zx_mono (zx_ri' hO) (zr_zret hS hK hlk hr (by obtain ⟨c, -, -, -, h⟩ := hp49; rcases h with ⟨rfl, -⟩ | ⟨rfl, -⟩ <;> decide) hI kd_Mx_point_52 (⟨hz, a, ha8, rfl, hp49⟩))
  refine zr_iload_n hx hb kd_Mx_point_0 hl rfl ?_
  refine zp_ci (zp_runS hS hK (d_Mx_isStrip l G 183 zs M _) km_Mx_125 hI rfl hl.1 (Nat.le_of_ble_eq_true rfl) (by decide) (by decide) kd_Mx_point_1 rfl) (fun r1 M1 hp1 => ?_)
  obtain ⟨rfl, hM1⟩ := hp1
  refine lv_if_eq (tgt := 25) hx hb kd_Mx_point_4 (by decide) (fun h4 => ?_) (fun h4 => ?_)
  · skip
    exact zx_thr (cls := "java/lang/IllegalArgumentException") (index := 48) (ic := 50) hS hlk hex htr hK hO hI (by decide) hl.1 rfl (zw_mem (i := 372) (by decide +kernel) rfl) (zw_mem (i := 373) (by decide +kernel) rfl) (zw_mem (i := 46) (by decide +kernel) rfl) (by decide +kernel) (by decide) (by decide) (by decide) (by decide) kd_Mx_point_25 kd_Mx_point_28 kd_Mx_point_29 kd_Mx_point_32 (fun o9 t9 hF hT => ⟨hF, Or.inr (hT.to (by first | exact ⟨rfl, by simp [zv_pt, *]⟩ | exact Or.inl ⟨rfl, by simp [zv_pt, *]⟩ | exact Or.inr ⟨rfl, by simp [zv_pt, *]⟩ | exact Or.inr (Or.inl ⟨rfl, by simp [zv_pt, *]⟩) | exact Or.inr (Or.inr ⟨rfl, by simp [zv_pt, *]⟩)))⟩)
  · skip
    refine zr_iload_n hx hb kd_Mx_point_7 hl rfl ?_
    refine lv_iconst (v := 0) hx hb kd_Mx_point_8 (by decide) ?_
    refine lv_sipush (v := 1023) hx hb kd_Mx_point_9 (by decide) ?_
    refine zp_ci (zp_runS hS hK (d_Mx_within l G 183 zs M _ _ _) km_Mx_30 hI rfl hl.1 (Nat.le_of_ble_eq_true rfl) (by decide) (by decide) kd_Mx_point_12 rfl) (fun r12 M12 hp12 => ?_)
    obtain ⟨rfl, hM12⟩ := hp12
    refine lv_if_eq (tgt := 25) hx hb kd_Mx_point_15 (by decide) (fun h15 => ?_) (fun h15 => ?_)
    · skip
      exact zx_thr (cls := "java/lang/IllegalArgumentException") (index := 48) (ic := 50) hS hlk hex htr hK hO hI (by decide) hl.1 rfl (zw_mem (i := 372) (by decide +kernel) rfl) (zw_mem (i := 373) (by decide +kernel) rfl) (zw_mem (i := 46) (by decide +kernel) rfl) (by decide +kernel) (by decide) (by decide) (by decide) (by decide) kd_Mx_point_25 kd_Mx_point_28 kd_Mx_point_29 kd_Mx_point_32 (fun o9 t9 hF hT => ⟨hF, Or.inr (hT.to (by first | exact ⟨rfl, by simp [zv_pt, *]⟩ | exact Or.inl ⟨rfl, by simp [zv_pt, *]⟩ | exact Or.inr ⟨rfl, by simp [zv_pt, *]⟩ | exact Or.inr (Or.inl ⟨rfl, by simp [zv_pt, *]⟩) | exact Or.inr (Or.inr ⟨rfl, by simp [zv_pt, *]⟩)))⟩)
    · skip
      refine zr_iload_n hx hb kd_Mx_point_18 hl rfl ?_
      refine zp_ci (zp_runS hS hK (d_Mx_isLevel l G 183 zs M _) km_Mx_106 hI rfl hl.1 (Nat.le_of_ble_eq_true rfl) (by decide) (by decide) kd_Mx_point_19 rfl) (fun r19 M19 hp19 => ?_)
      obtain ⟨rfl, hM19⟩ := hp19
      refine lv_if_ne (tgt := 33) hx hb kd_Mx_point_22 (by decide) (fun h22 => ?_) (fun h22 => ?_)
      · skip
        obtain ⟨a, ha, e1⟩ := zf_in_n (n := 7) (by decide) h4
        exact rest ls a (by omega) e1 (by rw [zv_pt, if_neg h4, if_neg h15, if_neg h22]) hl
      · skip
        exact zx_thr (cls := "java/lang/IllegalArgumentException") (index := 48) (ic := 50) hS hlk hex htr hK hO hI (by decide) hl.1 rfl (zw_mem (i := 372) (by decide +kernel) rfl) (zw_mem (i := 373) (by decide +kernel) rfl) (zw_mem (i := 46) (by decide +kernel) rfl) (by decide +kernel) (by decide) (by decide) (by decide) (by decide) kd_Mx_point_25 kd_Mx_point_28 kd_Mx_point_29 kd_Mx_point_32 (fun o9 t9 hF hT => ⟨hF, Or.inr (hT.to (by first | exact ⟨rfl, by simp [zv_pt, *]⟩ | exact Or.inl ⟨rfl, by simp [zv_pt, *]⟩ | exact Or.inr ⟨rfl, by simp [zv_pt, *]⟩ | exact Or.inr (Or.inl ⟨rfl, by simp [zv_pt, *]⟩) | exact Or.inr (Or.inr ⟨rfl, by simp [zv_pt, *]⟩)))⟩)
set_option maxRecDepth 100000 in
set_option maxHeartbeats 4000000 in
theorem x_Mx_turn (l : Launch) (hfl : l.flags = Jvm.pinnedFlags ++ [Jvm.noTraceFlag]) (G : zg_T) (M : zm_T) (hL : zL M.2) (s w : Int32) : zx_M l ky_Mx_turn (zr_ws ky_Mx_turn kc_Mx_turn 6 (some .int)) { frames := 6, cells := 1, slots := 6, locals := 60 * 6 } (va_Pc [.ref (G.2.2.1 + 0), .int s, .int w] (zy_B G M)) (zx_Qi G (fun x => x = zxA ∧ zv_trn s w = 1) (fun (r : Int32) (M' : zm_T) => zv_trn s w = 0 ∧ ((w = 0 ∧ r = M.1 (25 + 14 * s.toNatClampNeg) 3 ∧ M' = zm_ui M (25 + 14 * s.toNatClampNeg) 3 0) ∨ (¬ w = 0 ∧ w < 3 ∧ (r = if M.1 (23 + 14 * s.toNatClampNeg) 5 = zv_on w then 0 else 1) ∧ M' = zm_ui M (23 + 14 * s.toNatClampNeg) 5 (zv_on w)) ∨ (¬ w = 0 ∧ ¬ w < 3 ∧ (r = if M.1 (23 + 14 * s.toNatClampNeg) 6 = zv_on w then 0 else 1) ∧ M' = zm_ui M (23 + 14 * s.toNatClampNeg) 6 (zv_on w)))) M) := by
  refine zx_metY hfl (by decide +kernel) (Nat.le_of_ble_eq_true rfl) ?_
  intro p0 e0 s0 m0 below meth c0 ls htr hS hK hO hex hlk hr hl hI
  have hx := hS.1
  have hb := hS.2.1
  have hl : zl_has ls 6 [some (.ref (G.2.2.1 + 0)), some (.int s), some (.int w), none, none, none] := hl
  have w3 : w ≤ 2 ↔ w < 3 := by rw [Int32.le_iff_toInt_le, Int32.lt_iff_toInt_lt, show (2 : Int32).toInt = 2 from by decide, show (3 : Int32).toInt = 3 from by decide]; omega
  have o01 : zv_on w = 0 ∨ zv_on w = 1 := by unfold zv_on; (repeat' split) <;> simp
  have mid : ∀ (v : Int32) (ls : Array Slot) (a : Nat), a < 8 → s = nI a → zv_trn s w = 0 → v = zv_on w → ¬ w = 0 → zl_has ls 6 [some (.ref (G.2.2.1 + 0)), some (.int s), some (.int w), some (.ref (G.2.2.1 + (23 + 14 * a))), none, none] → W p0 l e0 { frames := 6, cells := 1, slots := 6, locals := 60 * 6 } s0 m0 ([.ref (G.2.2.1 + 0), .int s, .int w] : List Value).toArray below meth c0 s0.heap [] 0 0 (zx_E below (zx_Qi G (fun x => x = zxA ∧ zv_trn s w = 1) (fun (r : Int32) (M' : zm_T) => zv_trn s w = 0 ∧ ((w = 0 ∧ r = M.1 (25 + 14 * s.toNatClampNeg) 3 ∧ M' = zm_ui M (25 + 14 * s.toNatClampNeg) 3 0) ∨ (¬ w = 0 ∧ w < 3 ∧ (r = if M.1 (23 + 14 * s.toNatClampNeg) 5 = zv_on w then 0 else 1) ∧ M' = zm_ui M (23 + 14 * s.toNatClampNeg) 5 (zv_on w)) ∨ (¬ w = 0 ∧ ¬ w < 3 ∧ (r = if M.1 (23 + 14 * s.toNatClampNeg) 6 = zv_on w then 0 else 1) ∧ M' = zm_ui M (23 + 14 * s.toNatClampNeg) 6 (zv_on w)))) M) ([.ref (G.2.2.1 + 0), .int s, .int w] : List Value).toArray s0) (F0 m0 61 ls [.int v]) := by
    intro v ls a ha8 e1 hz hv h35 hl
    subst hv e1
    have ca : (nI a).toNatClampNeg = a := zn_cl (by omega)
    rw [ca]
    have ha_S : 23 + 14 * a < 183 := by omega
    have hs_S : zs (23 + 14 * a) = (10 + 5, 0) := zs_st0 _ ha8
    have hv_S_0 : M.2.1 (23 + 14 * a) 0 = some (24 + 14 * a) := (zL_st hL ha8).2.1
    have ha_S_0 : 24 + 14 * a < 183 := by omega
    have hs_S_0 : zs (24 + 14 * a) = (5, 3) := zs_st1 _ ha8
    have hv_S_1 : M.2.1 (23 + 14 * a) 1 = some (25 + 14 * a) := (zL_st hL ha8).2.2.1
    have ha_S_1 : 25 + 14 * a < 183 := by omega
    have hs_S_1 : zs (25 + 14 * a) = (10 + 3, 0) := zs_st2 _ ha8
    have hv_S_2 : M.2.1 (23 + 14 * a) 2 = some (29 + 14 * a) := (zL_st hL ha8).2.2.2.1
    have ha_S_2 : 29 + 14 * a < 183 := by omega
    have hs_S_2 : zs (29 + 14 * a) = (0, 8) := zs_st6 _ ha8
    have hv_S_3 : M.2.1 (23 + 14 * a) 3 = some (30 + 14 * a) := (zL_st hL ha8).2.2.2.2.1
    have ha_S_3 : 30 + 14 * a < 183 := by omega
    have hs_S_3 : zs (30 + 14 * a) = (0, 1024) := zs_st7 _ ha8
    refine zr_istore hx hb kd_Mx_turn_61 hl (by decide) rfl (fun ls hl => ?_)
    refine zr_iload_n hx hb kd_Mx_turn_63 hl rfl ?_
    refine lv_iconst (v := 2) hx hb kd_Mx_turn_64 (by decide) ?_
    refine lv_icmp_gt (tgt := 77) hx hb kd_Mx_turn_65 (by decide) (fun h65 => ?_) (fun h65 => ?_)
    · skip
      refine zr_aload_n hx hb kd_Mx_turn_77 hl rfl ?_
      refine zr_iload hx hb kd_Mx_turn_78 hl rfl ?_
      refine zr_ci (zr_runV hS hK (c_St_changeSolo l G M hL a (zv_on w) ha8 o01) km_Mx_160 hI ha_S hs_S rfl hl.1 (Nat.le_of_ble_eq_true rfl) (by decide) (by decide) kd_Mx_turn_80 rfl) hI (fun r80 M80 H locs hp80 hI => ?_)
      obtain ⟨rfl, hM80⟩ := hp80
      rw [hM80] at hI
      refine zr_istore hx hb kd_Mx_turn_83 hl (by decide) rfl (fun ls hl => ?_)
      refine zr_iload hx hb kd_Mx_turn_85 hl rfl ?_
      refine lv_if_eq (tgt := 94) hx hb kd_Mx_turn_87 (by decide) (fun h87 => ?_) (fun h87 => ?_)
      · skip
        refine lv_iconst (v := 0) hx hb kd_Mx_turn_94 (by decide) ?_
        exact zx_mono (zx_ri' hO) (zr_iret hS hK hlk hr hI kd_Mx_turn_95 (⟨hz, by first | exact Or.inr (Or.inl ⟨h35, w3.mp (Int32.not_lt.mp h65), by revert h87; split <;> simp, rfl⟩) | exact Or.inr (Or.inr ⟨h35, fun h => absurd (w3.mpr h) (Int32.not_le.mpr h65), by revert h87; split <;> simp, rfl⟩)⟩))
      · skip
        refine lv_iconst (v := 1) hx hb kd_Mx_turn_90 (by decide) ?_
        refine lv_goto (tgt := 95) hx hb kd_Mx_turn_91 (by decide) ?_
        exact zx_mono (zx_ri' hO) (zr_iret hS hK hlk hr hI kd_Mx_turn_95 (⟨hz, by first | exact Or.inr (Or.inl ⟨h35, w3.mp (Int32.not_lt.mp h65), by revert h87; split <;> simp, rfl⟩) | exact Or.inr (Or.inr ⟨h35, fun h => absurd (w3.mpr h) (Int32.not_le.mpr h65), by revert h87; split <;> simp, rfl⟩)⟩))
    · skip
      refine zr_aload_n hx hb kd_Mx_turn_68 hl rfl ?_
      refine zr_iload hx hb kd_Mx_turn_69 hl rfl ?_
      refine zr_ci (zr_runV hS hK (c_St_changeMute l G M hL a (zv_on w) ha8 o01) km_Mx_156 hI ha_S hs_S rfl hl.1 (Nat.le_of_ble_eq_true rfl) (by decide) (by decide) kd_Mx_turn_71 rfl) hI (fun r71 M71 H locs hp71 hI => ?_)
      obtain ⟨rfl, hM71⟩ := hp71
      rw [hM71] at hI
      refine lv_goto (tgt := 83) hx hb kd_Mx_turn_74 (by decide) ?_
      refine zr_istore hx hb kd_Mx_turn_83 hl (by decide) rfl (fun ls hl => ?_)
      refine zr_iload hx hb kd_Mx_turn_85 hl rfl ?_
      refine lv_if_eq (tgt := 94) hx hb kd_Mx_turn_87 (by decide) (fun h87 => ?_) (fun h87 => ?_)
      · skip
        refine lv_iconst (v := 0) hx hb kd_Mx_turn_94 (by decide) ?_
        exact zx_mono (zx_ri' hO) (zr_iret hS hK hlk hr hI kd_Mx_turn_95 (⟨hz, by first | exact Or.inr (Or.inl ⟨h35, w3.mp (Int32.not_lt.mp h65), by revert h87; split <;> simp, rfl⟩) | exact Or.inr (Or.inr ⟨h35, fun h => absurd (w3.mpr h) (Int32.not_le.mpr h65), by revert h87; split <;> simp, rfl⟩)⟩))
      · skip
        refine lv_iconst (v := 1) hx hb kd_Mx_turn_90 (by decide) ?_
        refine lv_goto (tgt := 95) hx hb kd_Mx_turn_91 (by decide) ?_
        exact zx_mono (zx_ri' hO) (zr_iret hS hK hlk hr hI kd_Mx_turn_95 (⟨hz, by first | exact Or.inr (Or.inl ⟨h35, w3.mp (Int32.not_lt.mp h65), by revert h87; split <;> simp, rfl⟩) | exact Or.inr (Or.inr ⟨h35, fun h => absurd (w3.mpr h) (Int32.not_le.mpr h65), by revert h87; split <;> simp, rfl⟩)⟩))
  have rest : ∀ (ls : Array Slot) (a : Nat), a < 8 → s = nI a → zv_trn s w = 0 → zl_has ls 6 [some (.ref (G.2.2.1 + 0)), some (.int s), some (.int w), none, none, none] → W p0 l e0 { frames := 6, cells := 1, slots := 6, locals := 60 * 6 } s0 m0 ([.ref (G.2.2.1 + 0), .int s, .int w] : List Value).toArray below meth c0 s0.heap [] 0 0 (zx_E below (zx_Qi G (fun x => x = zxA ∧ zv_trn s w = 1) (fun (r : Int32) (M' : zm_T) => zv_trn s w = 0 ∧ ((w = 0 ∧ r = M.1 (25 + 14 * s.toNatClampNeg) 3 ∧ M' = zm_ui M (25 + 14 * s.toNatClampNeg) 3 0) ∨ (¬ w = 0 ∧ w < 3 ∧ (r = if M.1 (23 + 14 * s.toNatClampNeg) 5 = zv_on w then 0 else 1) ∧ M' = zm_ui M (23 + 14 * s.toNatClampNeg) 5 (zv_on w)) ∨ (¬ w = 0 ∧ ¬ w < 3 ∧ (r = if M.1 (23 + 14 * s.toNatClampNeg) 6 = zv_on w then 0 else 1) ∧ M' = zm_ui M (23 + 14 * s.toNatClampNeg) 6 (zv_on w)))) M) ([.ref (G.2.2.1 + 0), .int s, .int w] : List Value).toArray s0) (F0 m0 24 ls []) := by
    intro ls a ha8 e1 hz hl
    have mid2 := fun v ls => mid v ls a ha8 e1 hz
    subst e1
    have ca : (nI a).toNatClampNeg = a := zn_cl (by omega)
    rw [ca] at mid2 ⊢
    have ha_S : 23 + 14 * a < 183 := by omega
    have hs_S : zs (23 + 14 * a) = (10 + 5, 0) := zs_st0 _ ha8
    have hv_S_0 : M.2.1 (23 + 14 * a) 0 = some (24 + 14 * a) := (zL_st hL ha8).2.1
    have ha_S_0 : 24 + 14 * a < 183 := by omega
    have hs_S_0 : zs (24 + 14 * a) = (5, 3) := zs_st1 _ ha8
    have hv_S_1 : M.2.1 (23 + 14 * a) 1 = some (25 + 14 * a) := (zL_st hL ha8).2.2.1
    have ha_S_1 : 25 + 14 * a < 183 := by omega
    have hs_S_1 : zs (25 + 14 * a) = (10 + 3, 0) := zs_st2 _ ha8
    have hv_S_2 : M.2.1 (23 + 14 * a) 2 = some (29 + 14 * a) := (zL_st hL ha8).2.2.2.1
    have ha_S_2 : 29 + 14 * a < 183 := by omega
    have hs_S_2 : zs (29 + 14 * a) = (0, 8) := zs_st6 _ ha8
    have hv_S_3 : M.2.1 (23 + 14 * a) 3 = some (30 + 14 * a) := (zL_st hL ha8).2.2.2.2.1
    have ha_S_3 : 30 + 14 * a < 183 := by omega
    have hs_S_3 : zs (30 + 14 * a) = (0, 1024) := zs_st7 _ ha8
    refine zr_aload_n hx hb kd_Mx_turn_24 hl rfl ?_
    refine zr_getr hS hK kf_Mx_25 hI ha_MX hs_MX (zL_0 hL).2.2.1 kd_Mx_turn_25 ?_
    refine zr_getr hS hK kf_Mx_113 hI ha_DE hs_DE (zL_0 hL).2.2.2.2.1 kd_Mx_turn_28 ?_
    refine zr_iload_n hx hb kd_Mx_turn_31 hl rfl ?_
    refine zr_aald hS hK hI ha_DE_0 hs_DE_0 (by decide) (by decide) rfl (vp_in_nI (by omega) (by decide)) (by rw [ca]; exact (zL_st hL ha8).1) kd_Mx_turn_32 ?_
    refine zr_astore_n hx hb kd_Mx_turn_33 hl (by decide) rfl (fun ls hl => ?_)
    refine zr_iload_n hx hb kd_Mx_turn_34 hl rfl ?_
    refine lv_if_ne (tgt := 46) hx hb kd_Mx_turn_35 (by decide) (fun h35 => ?_) (fun h35 => ?_)
    · skip
      refine zr_iload_n hx hb kd_Mx_turn_46 hl rfl ?_
      refine lv_iconst (v := 1) hx hb kd_Mx_turn_47 (by decide) ?_
      refine lv_icmp_eq (tgt := 56) hx hb kd_Mx_turn_48 (by decide) (fun h48 => ?_) (fun h48 => ?_)
      · skip
        refine lv_iconst (v := 1) hx hb kd_Mx_turn_56 (by decide) ?_
        refine lv_goto (tgt := 61) hx hb kd_Mx_turn_57 (by decide) ?_
        exact mid2 _ ls (by first | rw [zv_on, if_pos h48] | rw [zv_on, if_neg h48, if_pos h53] | rw [zv_on, if_neg h48, if_neg h53]) h35 hl
      · skip
        refine zr_iload_n hx hb kd_Mx_turn_51 hl rfl ?_
        refine lv_iconst (v := 3) hx hb kd_Mx_turn_52 (by decide) ?_
        refine lv_icmp_ne (tgt := 60) hx hb kd_Mx_turn_53 (by decide) (fun h53 => ?_) (fun h53 => ?_)
        · skip
          refine lv_iconst (v := 0) hx hb kd_Mx_turn_60 (by decide) ?_
          exact mid2 _ ls (by first | rw [zv_on, if_pos h48] | rw [zv_on, if_neg h48, if_pos h53] | rw [zv_on, if_neg h48, if_neg h53]) h35 hl
        · skip
          refine lv_iconst (v := 1) hx hb kd_Mx_turn_56 (by decide) ?_
          refine lv_goto (tgt := 61) hx hb kd_Mx_turn_57 (by decide) ?_
          exact mid2 _ ls (by first | rw [zv_on, if_pos h48] | rw [zv_on, if_neg h48, if_pos h53] | rw [zv_on, if_neg h48, if_neg h53]) h35 hl
    · skip
      refine zr_aload_n hx hb kd_Mx_turn_38 hl rfl ?_
      refine zr_getr hS hK kf_Mx_140 hI ha_S hs_S hv_S_1 kd_Mx_turn_39 ?_
      refine zr_ci (zr_runV hS hK (c_Fa_clearPoints l G 183 zs M (25 + 14 * a) ha_S_1 hs_S_1) km_Mx_153 hI ha_S_1 hs_S_1 rfl hl.1 (Nat.le_of_ble_eq_true rfl) (by decide) (by decide) kd_Mx_turn_42 rfl) hI (fun r42 M42 H locs hp42 hI => ?_)
      obtain ⟨rfl, hM42⟩ := hp42
      rw [hM42] at hI
      exact zx_mono (zx_ri' hO) (zr_iret hS hK hlk hr hI kd_Mx_turn_45 (⟨hz, Or.inl ⟨h35, rfl, rfl⟩⟩))
  refine zr_iload_n hx hb kd_Mx_turn_0 hl rfl ?_
  refine zp_ci (zp_runS hS hK (d_Mx_isStrip l G 183 zs M _) km_Mx_125 hI rfl hl.1 (Nat.le_of_ble_eq_true rfl) (by decide) (by decide) kd_Mx_turn_1 rfl) (fun r1 M1 hp1 => ?_)
  obtain ⟨rfl, hM1⟩ := hp1
  refine lv_if_eq (tgt := 16) hx hb kd_Mx_turn_4 (by decide) (fun h4 => ?_) (fun h4 => ?_)
  · skip
    exact zx_thr (cls := "java/lang/IllegalArgumentException") (index := 48) (ic := 50) hS hlk hex htr hK hO hI (by decide) hl.1 rfl (zw_mem (i := 372) (by decide +kernel) rfl) (zw_mem (i := 373) (by decide +kernel) rfl) (zw_mem (i := 46) (by decide +kernel) rfl) (by decide +kernel) (by decide) (by decide) (by decide) (by decide) kd_Mx_turn_16 kd_Mx_turn_19 kd_Mx_turn_20 kd_Mx_turn_23 (fun o9 t9 hF hT => ⟨hF, Or.inr (hT.to (by first | exact ⟨rfl, by simp [zv_trn, *]⟩ | exact Or.inl ⟨rfl, by simp [zv_trn, *]⟩ | exact Or.inr ⟨rfl, by simp [zv_trn, *]⟩ | exact Or.inr (Or.inl ⟨rfl, by simp [zv_trn, *]⟩) | exact Or.inr (Or.inr ⟨rfl, by simp [zv_trn, *]⟩)))⟩)
  · skip
    refine zr_iload_n hx hb kd_Mx_turn_7 hl rfl ?_
    refine lv_iconst (v := 0) hx hb kd_Mx_turn_8 (by decide) ?_
    refine lv_iconst (v := 4) hx hb kd_Mx_turn_9 (by decide) ?_
    refine zp_ci (zp_runS hS hK (d_Mx_within l G 183 zs M _ _ _) km_Mx_30 hI rfl hl.1 (Nat.le_of_ble_eq_true rfl) (by decide) (by decide) kd_Mx_turn_10 rfl) (fun r10 M10 hp10 => ?_)
    obtain ⟨rfl, hM10⟩ := hp10
    refine lv_if_ne (tgt := 24) hx hb kd_Mx_turn_13 (by decide) (fun h13 => ?_) (fun h13 => ?_)
    · skip
      obtain ⟨a, ha, e1⟩ := zf_in_n (n := 7) (by decide) h4
      exact rest ls a (by omega) e1 (by rw [zv_trn, if_neg h4, if_neg h13]) hl
    · skip
      exact zx_thr (cls := "java/lang/IllegalArgumentException") (index := 48) (ic := 50) hS hlk hex htr hK hO hI (by decide) hl.1 rfl (zw_mem (i := 372) (by decide +kernel) rfl) (zw_mem (i := 373) (by decide +kernel) rfl) (zw_mem (i := 46) (by decide +kernel) rfl) (by decide +kernel) (by decide) (by decide) (by decide) (by decide) kd_Mx_turn_16 kd_Mx_turn_19 kd_Mx_turn_20 kd_Mx_turn_23 (fun o9 t9 hF hT => ⟨hF, Or.inr (hT.to (by first | exact ⟨rfl, by simp [zv_trn, *]⟩ | exact Or.inl ⟨rfl, by simp [zv_trn, *]⟩ | exact Or.inr ⟨rfl, by simp [zv_trn, *]⟩ | exact Or.inr (Or.inl ⟨rfl, by simp [zv_trn, *]⟩) | exact Or.inr (Or.inr ⟨rfl, by simp [zv_trn, *]⟩)))⟩)

/-! The class's public methods that play: render, sample, meter, bounce. -/
set_option maxRecDepth 100000 in
set_option maxHeartbeats 4000000 in
theorem x_Mx_render (l : Launch) (hfl : l.flags = Jvm.pinnedFlags ++ [Jvm.noTraceFlag]) (G : zg_T) (M : zm_T) (hL : zL M.2) (fn : Nat → Nat) (f n : Int32) (hok : zQ_ok M fn) : zx_M l ky_Mx_render (zr_ws ky_Mx_render kc_Mx_render 3 none) { frames := 7, cells := 1, slots := 6, locals := 60 * 7 } (va_Pc [.ref (G.2.2.1 + 0), .int f, .int n] (zy_B G M)) (zx_Qv G (fun x => x = zxA ∧ zf_blk f n = 0) (fun (M' : zm_T) => ¬ zf_blk f n = 0 ∧ zQ M M' fn f.toNatClampNeg n.toNatClampNeg) M) := by
  refine zx_metY hfl (by decide +kernel) (Nat.le_of_ble_eq_true rfl) ?_
  intro p0 e0 s0 m0 below meth c0 ls htr hS hK hO hex hlk hr hl hI
  have hx := hS.1
  have hb := hS.2.1
  have hl : zl_has ls 3 [some (.ref (G.2.2.1 + 0)), some (.int f), some (.int n)] := hl
  have rest : ∀ (ls : Array Slot) (a b : Nat), a + b ≤ 1024 → f = nI a → n = nI b → ¬ zf_blk f n = 0 → zl_has ls 3 [some (.ref (G.2.2.1 + 0)), some (.int f), some (.int n)] → W p0 l e0 { frames := 7, cells := 1, slots := 6, locals := 60 * 7 } s0 m0 ([.ref (G.2.2.1 + 0), .int f, .int n] : List Value).toArray below meth c0 s0.heap [] 0 0 (zx_E below (zx_Qv G (fun x => x = zxA ∧ zf_blk f n = 0) (fun (M' : zm_T) => ¬ zf_blk f n = 0 ∧ zQ M M' fn f.toNatClampNeg n.toNatClampNeg) M) ([.ref (G.2.2.1 + 0), .int f, .int n] : List Value).toArray s0) (F0 m0 16 ls []) := by
    intro ls a b hab e1 e2 hz hl
    subst e1 e2
    have ca : (nI a).toNatClampNeg = a := zn_cl (by omega)
    have cb : (nI b).toNatClampNeg = b := zn_cl (by omega)
    rw [ca, cb]
    refine zr_aload_n hx hb kd_Mx_render_16 hl rfl ?_
    refine zr_iload_n hx hb kd_Mx_render_17 hl rfl ?_
    refine zr_iload_n hx hb kd_Mx_render_18 hl rfl ?_
    refine zr_cv (zr_runV hS hK (c_Mx_playBlock l G M hL fn a b hab hok) km_Mx_166 hI ha_MX hs_MX rfl hl.1 (Nat.le_of_ble_eq_true rfl) (by decide) (by decide) kd_Mx_render_19 rfl) hI (fun M19 H locs hp19 hI => ?_)
    skip
    exact zx_mono (zx_rv' hO) (zr_vret hS hK hlk hr hI kd_Mx_render_22 (⟨hz, hp19⟩))
  refine zr_iload_n hx hb kd_Mx_render_0 hl rfl ?_
  refine zr_iload_n hx hb kd_Mx_render_1 hl rfl ?_
  refine zp_ci (zp_runS hS hK (d_Mx_isBlock l G 183 zs M _ _) km_Mx_163 hI rfl hl.1 (Nat.le_of_ble_eq_true rfl) (by decide) (by decide) kd_Mx_render_2 rfl) (fun r2 M2 hp2 => ?_)
  obtain ⟨rfl, hM2⟩ := hp2
  refine lv_if_ne (tgt := 16) hx hb kd_Mx_render_5 (by decide) (fun h5 => ?_) (fun h5 => ?_)
  · skip
    obtain ⟨a, b, e1, e2, h1, h2, h3⟩ := zf_blk_n h5
    exact rest ls a b h1 e1 e2 h5 hl
  · skip
    exact zx_thr (cls := "java/lang/IllegalArgumentException") (index := 48) (ic := 50) hS hlk hex htr hK hO hI (by decide) hl.1 rfl (zw_mem (i := 372) (by decide +kernel) rfl) (zw_mem (i := 373) (by decide +kernel) rfl) (zw_mem (i := 46) (by decide +kernel) rfl) (by decide +kernel) (by decide) (by decide) (by decide) (by decide) kd_Mx_render_8 kd_Mx_render_11 kd_Mx_render_12 kd_Mx_render_15 (fun o9 t9 hF hT => ⟨hF, Or.inr (hT.to (by first | exact ⟨rfl, h5⟩ | exact Or.inl ⟨rfl, h5⟩ | exact Or.inr ⟨rfl, h5⟩ | exact Or.inr (Or.inl ⟨rfl, h5⟩) | exact Or.inr (Or.inr ⟨rfl, h5⟩)))⟩)
def zu_smp (M : zm_T) (s i : Int32) : Int32 := if zf_in s 0 7 = 0 then 1 else if zf_in i 0 (M.1 0 4 - 1) = 0 then 1 else 0
set_option maxRecDepth 100000 in
set_option maxHeartbeats 4000000 in
theorem x_Mx_sample (l : Launch) (hfl : l.flags = Jvm.pinnedFlags ++ [Jvm.noTraceFlag]) (G : zg_T) (M : zm_T) (hL : zL M.2) (s i : Int32) (f n : Nat) (hf : M.1 0 3 = nI f) (hn : M.1 0 4 = nI n) (hn64 : n ≤ 64) (hfn : f + n ≤ 1024) : zx_M l ky_Mx_sample (zr_ws ky_Mx_sample kc_Mx_sample 3 (some .int)) { frames := 6, cells := 1, slots := 6, locals := 60 * 6 } (va_Pc [.ref (G.2.2.1 + 0), .int s, .int i] (zy_B G M)) (zx_Qi G (fun x => x = zxI ∧ zu_smp M s i = 1) (fun (r : Int32) (M' : zm_T) => zu_smp M s i = 0 ∧ r = M.1 (30 + 14 * s.toNatClampNeg) (f + i.toNatClampNeg) ∧ M' = M) M) := by
  refine zx_metY hfl (by decide +kernel) (Nat.le_of_ble_eq_true rfl) ?_
  intro p0 e0 s0 m0 below meth c0 ls htr hS hK hO hex hlk hr hl hI
  have hx := hS.1
  have hb := hS.2.1
  have hl : zl_has ls 3 [some (.ref (G.2.2.1 + 0)), some (.int s), some (.int i)] := hl
  have hix : ¬ zf_in i 0 (M.1 0 4 - 1) = 0 → ∃ b, b < n ∧ i = nI b := fun h => by
    rw [hn, zt_in, zn_sub (by rw [nI_toInt (by omega), show (1 : Int32).toInt = 1 from by decide]; omega) (by rw [nI_toInt (by omega), show (1 : Int32).toInt = 1 from by decide]; omega), nI_toInt (by omega), show (1 : Int32).toInt = 1 from by decide, zn_0] at h
    have h1 := zt_nI (x := i) (by omega)
    exact ⟨i.toNatClampNeg, by omega, h1.1.symm⟩
  have rest : ∀ (ls : Array Slot) (a b : Nat), a < 8 → b < n → s = nI a → i = nI b → zu_smp M s i = 0 → zl_has ls 3 [some (.ref (G.2.2.1 + 0)), some (.int s), some (.int i)] → W p0 l e0 { frames := 6, cells := 1, slots := 6, locals := 60 * 6 } s0 m0 ([.ref (G.2.2.1 + 0), .int s, .int i] : List Value).toArray below meth c0 s0.heap [] 0 0 (zx_E below (zx_Qi G (fun x => x = zxI ∧ zu_smp M s i = 1) (fun (r : Int32) (M' : zm_T) => zu_smp M s i = 0 ∧ r = M.1 (30 + 14 * s.toNatClampNeg) (f + i.toNatClampNeg) ∧ M' = M) M) ([.ref (G.2.2.1 + 0), .int s, .int i] : List Value).toArray s0) (F0 m0 29 ls []) := by
    intro ls a b ha8 hbn e1 e2 hz hl
    subst e1 e2
    have ca : (nI a).toNatClampNeg = a := zn_cl (by omega)
    have cb : (nI b).toNatClampNeg = b := zn_cl (by omega)
    rw [ca, cb]
    have ci : (M.1 0 3 + nI b) = nI (f + b) := by rw [hf, nI_add]
    have cc : (nI (f + b)).toNatClampNeg = f + b := zn_cl (by omega)
    have ha_S : 23 + 14 * a < 183 := by omega
    have hs_S : zs (23 + 14 * a) = (10 + 5, 0) := zs_st0 _ ha8
    have hv_S_0 : M.2.1 (23 + 14 * a) 0 = some (24 + 14 * a) := (zL_st hL ha8).2.1
    have ha_S_0 : 24 + 14 * a < 183 := by omega
    have hs_S_0 : zs (24 + 14 * a) = (5, 3) := zs_st1 _ ha8
    have hv_S_1 : M.2.1 (23 + 14 * a) 1 = some (25 + 14 * a) := (zL_st hL ha8).2.2.1
    have ha_S_1 : 25 + 14 * a < 183 := by omega
    have hs_S_1 : zs (25 + 14 * a) = (10 + 3, 0) := zs_st2 _ ha8
    have hv_S_2 : M.2.1 (23 + 14 * a) 2 = some (29 + 14 * a) := (zL_st hL ha8).2.2.2.1
    have ha_S_2 : 29 + 14 * a < 183 := by omega
    have hs_S_2 : zs (29 + 14 * a) = (0, 8) := zs_st6 _ ha8
    have hv_S_3 : M.2.1 (23 + 14 * a) 3 = some (30 + 14 * a) := (zL_st hL ha8).2.2.2.2.1
    have ha_S_3 : 30 + 14 * a < 183 := by omega
    have hs_S_3 : zs (30 + 14 * a) = (0, 1024) := zs_st7 _ ha8
    refine zr_aload_n hx hb kd_Mx_sample_29 hl rfl ?_
    refine zr_getr hS hK kf_Mx_25 hI ha_MX hs_MX (zL_0 hL).2.2.1 kd_Mx_sample_30 ?_
    refine zr_getr hS hK kf_Mx_113 hI ha_DE hs_DE (zL_0 hL).2.2.2.2.1 kd_Mx_sample_33 ?_
    refine zr_iload_n hx hb kd_Mx_sample_36 hl rfl ?_
    refine zr_aald hS hK hI ha_DE_0 hs_DE_0 (by decide) (by decide) rfl (vp_in_nI (by omega) (by decide)) (by rw [ca]; exact (zL_st hL ha8).1) kd_Mx_sample_37 ?_
    refine zr_getr hS hK kf_Mx_172 hI ha_S hs_S hv_S_3 kd_Mx_sample_38 ?_
    refine zr_aload_n hx hb kd_Mx_sample_41 hl rfl ?_
    refine zr_geti hS hK kf_Mx_173 hI ha_MX hs_MX kd_Mx_sample_42 ?_
    refine zr_iload_n hx hb kd_Mx_sample_45 hl rfl ?_
    refine lv_iadd hx hb kd_Mx_sample_46 ?_
    refine zr_iald hS hK hI ha_S_3 hs_S_3 (by rw [ci]; exact vp_in_nI (by omega) (by decide)) kd_Mx_sample_47 ?_
    exact zx_mono (zx_ri' hO) (zr_iret hS hK hlk hr hI kd_Mx_sample_48 (⟨hz, by rw [ci, cc], rfl⟩))
  refine zr_iload_n hx hb kd_Mx_sample_0 hl rfl ?_
  refine zp_ci (zp_runS hS hK (d_Mx_isStrip l G 183 zs M _) km_Mx_125 hI rfl hl.1 (Nat.le_of_ble_eq_true rfl) (by decide) (by decide) kd_Mx_sample_1 rfl) (fun r1 M1 hp1 => ?_)
  obtain ⟨rfl, hM1⟩ := hp1
  refine lv_if_eq (tgt := 21) hx hb kd_Mx_sample_4 (by decide) (fun h4 => ?_) (fun h4 => ?_)
  · skip
    exact zx_thr (cls := "java/lang/IndexOutOfBoundsException") (index := 34) (ic := 36) hS hlk hex htr hK hO hI (by decide) hl.1 rfl (zw_mem (i := 275) (by decide +kernel) rfl) (zw_mem (i := 276) (by decide +kernel) rfl) (zw_mem (i := 44) (by decide +kernel) rfl) (by decide +kernel) (by decide) (by decide) (by decide) (by decide) kd_Mx_sample_21 kd_Mx_sample_24 kd_Mx_sample_25 kd_Mx_sample_28 (fun o9 t9 hF hT => ⟨hF, Or.inr (hT.to (by first | exact ⟨rfl, by first | rw [zu_smp, if_pos h4] | rw [zu_smp, if_neg h4, if_pos h18]⟩ | exact Or.inl ⟨rfl, by first | rw [zu_smp, if_pos h4] | rw [zu_smp, if_neg h4, if_pos h18]⟩ | exact Or.inr ⟨rfl, by first | rw [zu_smp, if_pos h4] | rw [zu_smp, if_neg h4, if_pos h18]⟩ | exact Or.inr (Or.inl ⟨rfl, by first | rw [zu_smp, if_pos h4] | rw [zu_smp, if_neg h4, if_pos h18]⟩) | exact Or.inr (Or.inr ⟨rfl, by first | rw [zu_smp, if_pos h4] | rw [zu_smp, if_neg h4, if_pos h18]⟩)))⟩)
  · skip
    refine zr_iload_n hx hb kd_Mx_sample_7 hl rfl ?_
    refine lv_iconst (v := 0) hx hb kd_Mx_sample_8 (by decide) ?_
    refine zr_aload_n hx hb kd_Mx_sample_9 hl rfl ?_
    refine zr_geti hS hK kf_Mx_169 hI ha_MX hs_MX kd_Mx_sample_10 ?_
    refine lv_iconst (v := 1) hx hb kd_Mx_sample_13 (by decide) ?_
    refine lv_isub hx hb kd_Mx_sample_14 ?_
    refine zp_ci (zp_runS hS hK (d_Mx_within l G 183 zs M _ _ _) km_Mx_30 hI rfl hl.1 (Nat.le_of_ble_eq_true rfl) (by decide) (by decide) kd_Mx_sample_15 rfl) (fun r15 M15 hp15 => ?_)
    obtain ⟨rfl, hM15⟩ := hp15
    refine lv_if_ne (tgt := 29) hx hb kd_Mx_sample_18 (by decide) (fun h18 => ?_) (fun h18 => ?_)
    · skip
      obtain ⟨a, ha, e1⟩ := zf_in_n (n := 7) (by decide) h4
      obtain ⟨b, hbn, e2⟩ := hix h18
      exact rest ls a b (by omega) hbn e1 e2 (by rw [zu_smp, if_neg h4, if_neg h18]) hl
    · skip
      exact zx_thr (cls := "java/lang/IndexOutOfBoundsException") (index := 34) (ic := 36) hS hlk hex htr hK hO hI (by decide) hl.1 rfl (zw_mem (i := 275) (by decide +kernel) rfl) (zw_mem (i := 276) (by decide +kernel) rfl) (zw_mem (i := 44) (by decide +kernel) rfl) (by decide +kernel) (by decide) (by decide) (by decide) (by decide) kd_Mx_sample_21 kd_Mx_sample_24 kd_Mx_sample_25 kd_Mx_sample_28 (fun o9 t9 hF hT => ⟨hF, Or.inr (hT.to (by first | exact ⟨rfl, by first | rw [zu_smp, if_pos h4] | rw [zu_smp, if_neg h4, if_pos h18]⟩ | exact Or.inl ⟨rfl, by first | rw [zu_smp, if_pos h4] | rw [zu_smp, if_neg h4, if_pos h18]⟩ | exact Or.inr ⟨rfl, by first | rw [zu_smp, if_pos h4] | rw [zu_smp, if_neg h4, if_pos h18]⟩ | exact Or.inr (Or.inl ⟨rfl, by first | rw [zu_smp, if_pos h4] | rw [zu_smp, if_neg h4, if_pos h18]⟩) | exact Or.inr (Or.inr ⟨rfl, by first | rw [zu_smp, if_pos h4] | rw [zu_smp, if_neg h4, if_pos h18]⟩)))⟩)
set_option maxRecDepth 100000 in
set_option maxHeartbeats 4000000 in
theorem x_Mx_meter (l : Launch) (hfl : l.flags = Jvm.pinnedFlags ++ [Jvm.noTraceFlag]) (G : zg_T) (M : zm_T) (hL : zL M.2) (sv w : Int32) (f n : Nat) (hf : M.1 0 3 = nI f) (hn : M.1 0 4 = nI n) (hn64 : n ≤ 64) (hfn : f + n ≤ 1024) (hrow : ∀ a, a < 8 → ∀ i, i < n → -16777216 ≤ (M.1 (30 + 14 * a) (f + i)).toInt ∧ (M.1 (30 + 14 * a) (f + i)).toInt ≤ 16777216) (hD : zD M) (hno : ∀ a, ¬ gq_T (zfd M) a a) : zx_M l ky_Mx_meter (zr_ws ky_Mx_meter kc_Mx_meter 3 (some .long)) { frames := 6, cells := 1, slots := 6, locals := 60 * 6 } (va_Pc [.ref (G.2.2.1 + 0), .int sv, .int w] (zy_B G M)) (zx_Ql G (fun x => x = zxA ∧ zv_trn sv w = 1) (fun (r : Int64) (M' : zm_T) => zv_trn sv w = 0 ∧ ∃ s, s < 8 ∧ sv = nI s ∧ ((w = 3 ∧ (∃ o, zo_P M o ∧ M' = zf_st (zf_or M o 8) o 8) ∧ r.toInt = (M'.1 (23 + 14 * s) 8).toInt) ∨ (w = 4 ∧ M' = M ∧ ((r = 1 ∧ zH M s) ∨ (r = 0 ∧ ¬ zH M s))) ∨ (¬ w = 3 ∧ ¬ w = 4 ∧ M' = M ∧ zg_acc w (fun i => (M.1 (30 + 14 * s) (f + i)).toInt) n r.toInt))) M) := by
  refine zx_metY hfl (by decide +kernel) (Nat.le_of_ble_eq_true rfl) ?_
  intro p0 e0 s0 m0 below meth c0 ls htr hS hK hO hex hlk hr hl hI
  have hx := hS.1
  have hb := hS.2.1
  have hl : zl_has ls 3 [some (.ref (G.2.2.1 + 0)), some (.int sv), some (.int w)] := hl
  have rest : ∀ (ls : Array Slot) (a : Nat), a < 8 → sv = nI a → zv_trn sv w = 0 → zl_has ls 3 [some (.ref (G.2.2.1 + 0)), some (.int sv), some (.int w)] → ¬ zf_in w 0 4 = 0 → W p0 l e0 { frames := 6, cells := 1, slots := 6, locals := 60 * 6 } s0 m0 ([.ref (G.2.2.1 + 0), .int sv, .int w] : List Value).toArray below meth c0 s0.heap [] 0 0 (zx_E below (zx_Ql G (fun x => x = zxA ∧ zv_trn sv w = 1) (fun (r : Int64) (M' : zm_T) => zv_trn sv w = 0 ∧ ∃ s, s < 8 ∧ sv = nI s ∧ ((w = 3 ∧ (∃ o, zo_P M o ∧ M' = zf_st (zf_or M o 8) o 8) ∧ r.toInt = (M'.1 (23 + 14 * s) 8).toInt) ∨ (w = 4 ∧ M' = M ∧ ((r = 1 ∧ zH M s) ∨ (r = 0 ∧ ¬ zH M s))) ∨ (¬ w = 3 ∧ ¬ w = 4 ∧ M' = M ∧ zg_acc w (fun i => (M.1 (30 + 14 * s) (f + i)).toInt) n r.toInt))) M) ([.ref (G.2.2.1 + 0), .int sv, .int w] : List Value).toArray s0) (F0 m0 24 ls []) := by
    intro ls a ha8 e1 hz hl hw
    subst e1
    have ca : (nI a).toNatClampNeg = a := zn_cl (by omega)
    have ha_S : 23 + 14 * a < 183 := by omega
    have hs_S : zs (23 + 14 * a) = (10 + 5, 0) := zs_st0 _ ha8
    have hv_S_0 : M.2.1 (23 + 14 * a) 0 = some (24 + 14 * a) := (zL_st hL ha8).2.1
    have ha_S_0 : 24 + 14 * a < 183 := by omega
    have hs_S_0 : zs (24 + 14 * a) = (5, 3) := zs_st1 _ ha8
    have hv_S_1 : M.2.1 (23 + 14 * a) 1 = some (25 + 14 * a) := (zL_st hL ha8).2.2.1
    have ha_S_1 : 25 + 14 * a < 183 := by omega
    have hs_S_1 : zs (25 + 14 * a) = (10 + 3, 0) := zs_st2 _ ha8
    have hv_S_2 : M.2.1 (23 + 14 * a) 2 = some (29 + 14 * a) := (zL_st hL ha8).2.2.2.1
    have ha_S_2 : 29 + 14 * a < 183 := by omega
    have hs_S_2 : zs (29 + 14 * a) = (0, 8) := zs_st6 _ ha8
    have hv_S_3 : M.2.1 (23 + 14 * a) 3 = some (30 + 14 * a) := (zL_st hL ha8).2.2.2.2.1
    have ha_S_3 : 30 + 14 * a < 183 := by omega
    have hs_S_3 : zs (30 + 14 * a) = (0, 1024) := zs_st7 _ ha8
    have hw' := zt_in.mp hw
    rw [zn_0, show (4 : Int32).toInt = 4 from by decide] at hw'
    have wk : ∀ (k : Int32) (m : Int), k.toInt = m → w.toInt = m → w = k := fun k m h1 h2 => Int32.toInt_inj.mp (h2.trans h1.symm)
    have wn : ∀ (k : Int32) (m : Int), k.toInt = m → ¬ w.toInt = m → ¬ w = k := fun k m h1 h2 h => h2 (by rw [h]; exact h1)
    have peak := c_St_peak l G M hL a f n ha8 hfn (fun i hi => by have := hrow a ha8 i hi; omega)
    have power := c_St_power l G M hL a f n ha8 hn64 hfn (hrow a ha8)
    have overs := c_St_overs l G M hL a f n ha8 hfn
    rw [← hf, ← hn] at peak power overs
    refine zr_iload_n hx hb kd_Mx_meter_24 hl rfl ?_
    by_cases ht_lo : (w).toInt < 0
    · refine lv_tableOut (tgt := 142) hx hb kd_Mx_meter_25 (Or.inl ht_lo) (by decide) ?_
      have w4 : w = 4 := wk 4 4 (by decide) (by omega)
      refine zr_aload_n hx hb kd_Mx_meter_142 hl rfl ?_
      refine zr_getr hS hK kf_Mx_25 hI ha_MX hs_MX (zL_0 hL).2.2.1 kd_Mx_meter_143 ?_
      refine zr_iload_n hx hb kd_Mx_meter_146 hl rfl ?_
      refine zr_ci (zr_runV hS hK (c_De_isHeard l G M hL a ha8 hD) km_Mx_193 hI ha_DE hs_DE rfl hl.1 (Nat.le_of_ble_eq_true rfl) (by decide) (by decide) kd_Mx_meter_147 rfl) hI (fun r147 M147 H locs hp147 hI => ?_)
      obtain ⟨hp147, hM147⟩ := hp147
      rw [hM147] at hI
      refine lv_if_eq (tgt := 157) hx hb kd_Mx_meter_150 (by decide) (fun h150 => ?_) (fun h150 => ?_)
      · skip
        refine lv_lconst (v := 0) hx hb kd_Mx_meter_157 (by decide) ?_
        exact zx_mono (zx_rl' hO) (zr_lret hS hK hlk hr hI kd_Mx_meter_158 (⟨hz, a, ha8, rfl, Or.inr (Or.inl ⟨w4, rfl, by first | exact Or.inl ⟨rfl, hp147.elim (fun h => h.2) (fun h => absurd h.1 h150)⟩ | exact Or.inr ⟨rfl, hp147.elim (fun h => absurd (h.1.symm.trans h150) (by decide)) (fun h => h.2)⟩⟩)⟩))
      · skip
        refine lv_lconst (v := 1) hx hb kd_Mx_meter_153 (by decide) ?_
        refine lv_goto (tgt := 158) hx hb kd_Mx_meter_154 (by decide) ?_
        exact zx_mono (zx_rl' hO) (zr_lret hS hK hlk hr hI kd_Mx_meter_158 (⟨hz, a, ha8, rfl, Or.inr (Or.inl ⟨w4, rfl, by first | exact Or.inl ⟨rfl, hp147.elim (fun h => h.2) (fun h => absurd h.1 h150)⟩ | exact Or.inr ⟨rfl, hp147.elim (fun h => absurd (h.1.symm.trans h150) (by decide)) (fun h => h.2)⟩⟩)⟩))
    by_cases ht_hi : 3 < (w).toInt
    · refine lv_tableOut (tgt := 142) hx hb kd_Mx_meter_25 (Or.inr ht_hi) (by decide) ?_
      have w4 : w = 4 := wk 4 4 (by decide) (by omega)
      refine zr_aload_n hx hb kd_Mx_meter_142 hl rfl ?_
      refine zr_getr hS hK kf_Mx_25 hI ha_MX hs_MX (zL_0 hL).2.2.1 kd_Mx_meter_143 ?_
      refine zr_iload_n hx hb kd_Mx_meter_146 hl rfl ?_
      refine zr_ci (zr_runV hS hK (c_De_isHeard l G M hL a ha8 hD) km_Mx_193 hI ha_DE hs_DE rfl hl.1 (Nat.le_of_ble_eq_true rfl) (by decide) (by decide) kd_Mx_meter_147 rfl) hI (fun r147 M147 H locs hp147 hI => ?_)
      obtain ⟨hp147, hM147⟩ := hp147
      rw [hM147] at hI
      refine lv_if_eq (tgt := 157) hx hb kd_Mx_meter_150 (by decide) (fun h150 => ?_) (fun h150 => ?_)
      · skip
        refine lv_lconst (v := 0) hx hb kd_Mx_meter_157 (by decide) ?_
        exact zx_mono (zx_rl' hO) (zr_lret hS hK hlk hr hI kd_Mx_meter_158 (⟨hz, a, ha8, rfl, Or.inr (Or.inl ⟨w4, rfl, by first | exact Or.inl ⟨rfl, hp147.elim (fun h => h.2) (fun h => absurd h.1 h150)⟩ | exact Or.inr ⟨rfl, hp147.elim (fun h => absurd (h.1.symm.trans h150) (by decide)) (fun h => h.2)⟩⟩)⟩))
      · skip
        refine lv_lconst (v := 1) hx hb kd_Mx_meter_153 (by decide) ?_
        refine lv_goto (tgt := 158) hx hb kd_Mx_meter_154 (by decide) ?_
        exact zx_mono (zx_rl' hO) (zr_lret hS hK hlk hr hI kd_Mx_meter_158 (⟨hz, a, ha8, rfl, Or.inr (Or.inl ⟨w4, rfl, by first | exact Or.inl ⟨rfl, hp147.elim (fun h => h.2) (fun h => absurd h.1 h150)⟩ | exact Or.inr ⟨rfl, hp147.elim (fun h => absurd (h.1.symm.trans h150) (by decide)) (fun h => h.2)⟩⟩)⟩))
    by_cases ht_0 : (w).toInt = 0
    · refine lv_tableIn (tgt := 56) (off := 31) hx hb kd_Mx_meter_25 ht_lo ht_hi (by rw [ht_0]; rfl) (by decide) ?_
      refine zr_aload_n hx hb kd_Mx_meter_56 hl rfl ?_
      refine zr_getr hS hK kf_Mx_25 hI ha_MX hs_MX (zL_0 hL).2.2.1 kd_Mx_meter_57 ?_
      refine zr_getr hS hK kf_Mx_113 hI ha_DE hs_DE (zL_0 hL).2.2.2.2.1 kd_Mx_meter_60 ?_
      refine zr_iload_n hx hb kd_Mx_meter_63 hl rfl ?_
      refine zr_aald hS hK hI ha_DE_0 hs_DE_0 (by decide) (by decide) rfl (vp_in_nI (by omega) (by decide)) (by rw [ca]; exact (zL_st hL ha8).1) kd_Mx_meter_64 ?_
      refine zr_aload_n hx hb kd_Mx_meter_65 hl rfl ?_
      refine zr_geti hS hK kf_Mx_173 hI ha_MX hs_MX kd_Mx_meter_66 ?_
      refine zr_aload_n hx hb kd_Mx_meter_69 hl rfl ?_
      refine zr_geti hS hK kf_Mx_169 hI ha_MX hs_MX kd_Mx_meter_70 ?_
      refine zr_ci (zr_runV hS hK (peak) km_Mx_176 hI ha_S hs_S rfl hl.1 (Nat.le_of_ble_eq_true rfl) (by decide) (by decide) kd_Mx_meter_73 rfl) hI (fun r73 M73 H locs hp73 hI => ?_)
      obtain ⟨hp73, hM73⟩ := hp73
      rw [hM73] at hI
      refine lv_i2l hx hb kd_Mx_meter_76 rfl ?_
      exact zx_mono (zx_rl' hO) (zr_lret hS hK hlk hr hI kd_Mx_meter_77 (⟨hz, a, ha8, rfl, Or.inr (Or.inr ⟨wn 3 3 (by decide) (by omega), wn 4 4 (by decide) (by omega), rfl, by rw [zg_acc, if_pos (wk 0 0 (by decide) ht_0), Int32.toInt_toInt64]; exact hp73⟩)⟩))
    by_cases ht_1 : (w).toInt = 1
    · refine lv_tableIn (tgt := 78) (off := 53) hx hb kd_Mx_meter_25 ht_lo ht_hi (by rw [ht_1]; rfl) (by decide) ?_
      refine zr_aload_n hx hb kd_Mx_meter_78 hl rfl ?_
      refine zr_getr hS hK kf_Mx_25 hI ha_MX hs_MX (zL_0 hL).2.2.1 kd_Mx_meter_79 ?_
      refine zr_getr hS hK kf_Mx_113 hI ha_DE hs_DE (zL_0 hL).2.2.2.2.1 kd_Mx_meter_82 ?_
      refine zr_iload_n hx hb kd_Mx_meter_85 hl rfl ?_
      refine zr_aald hS hK hI ha_DE_0 hs_DE_0 (by decide) (by decide) rfl (vp_in_nI (by omega) (by decide)) (by rw [ca]; exact (zL_st hL ha8).1) kd_Mx_meter_86 ?_
      refine zr_aload_n hx hb kd_Mx_meter_87 hl rfl ?_
      refine zr_geti hS hK kf_Mx_173 hI ha_MX hs_MX kd_Mx_meter_88 ?_
      refine zr_aload_n hx hb kd_Mx_meter_91 hl rfl ?_
      refine zr_geti hS hK kf_Mx_169 hI ha_MX hs_MX kd_Mx_meter_92 ?_
      refine zr_cl (zr_runV hS hK (power) km_Mx_180 hI ha_S hs_S rfl hl.1 (Nat.le_of_ble_eq_true rfl) (by decide) (by decide) kd_Mx_meter_95 rfl) hI (fun r95 M95 H locs hp95 hI => ?_)
      obtain ⟨hp95, hM95⟩ := hp95
      rw [hM95] at hI
      exact zx_mono (zx_rl' hO) (zr_lret hS hK hlk hr hI kd_Mx_meter_98 (⟨hz, a, ha8, rfl, Or.inr (Or.inr ⟨wn 3 3 (by decide) (by omega), wn 4 4 (by decide) (by omega), rfl, by rw [zg_acc, if_neg (wn 0 0 (by decide) (by omega)), if_pos (wk 1 1 (by decide) ht_1)]; exact hp95⟩)⟩))
    by_cases ht_2 : (w).toInt = 2
    · refine lv_tableIn (tgt := 99) (off := 74) hx hb kd_Mx_meter_25 ht_lo ht_hi (by rw [ht_2]; rfl) (by decide) ?_
      refine zr_aload_n hx hb kd_Mx_meter_99 hl rfl ?_
      refine zr_getr hS hK kf_Mx_25 hI ha_MX hs_MX (zL_0 hL).2.2.1 kd_Mx_meter_100 ?_
      refine zr_getr hS hK kf_Mx_113 hI ha_DE hs_DE (zL_0 hL).2.2.2.2.1 kd_Mx_meter_103 ?_
      refine zr_iload_n hx hb kd_Mx_meter_106 hl rfl ?_
      refine zr_aald hS hK hI ha_DE_0 hs_DE_0 (by decide) (by decide) rfl (vp_in_nI (by omega) (by decide)) (by rw [ca]; exact (zL_st hL ha8).1) kd_Mx_meter_107 ?_
      refine zr_aload_n hx hb kd_Mx_meter_108 hl rfl ?_
      refine zr_geti hS hK kf_Mx_173 hI ha_MX hs_MX kd_Mx_meter_109 ?_
      refine zr_aload_n hx hb kd_Mx_meter_112 hl rfl ?_
      refine zr_geti hS hK kf_Mx_169 hI ha_MX hs_MX kd_Mx_meter_113 ?_
      refine zr_ci (zr_runV hS hK (overs) km_Mx_184 hI ha_S hs_S rfl hl.1 (Nat.le_of_ble_eq_true rfl) (by decide) (by decide) kd_Mx_meter_116 rfl) hI (fun r116 M116 H locs hp116 hI => ?_)
      obtain ⟨hp116, hM116⟩ := hp116
      rw [hM116] at hI
      refine lv_i2l hx hb kd_Mx_meter_119 rfl ?_
      exact zx_mono (zx_rl' hO) (zr_lret hS hK hlk hr hI kd_Mx_meter_120 (⟨hz, a, ha8, rfl, Or.inr (Or.inr ⟨wn 3 3 (by decide) (by omega), wn 4 4 (by decide) (by omega), rfl, by rw [zg_acc, if_neg (wn 0 0 (by decide) (by omega)), if_neg (wn 1 1 (by decide) (by omega)), Int32.toInt_toInt64, hp116, nI_toInt (by have := zi_ov_b (fun i => (M.1 (30 + 14 * a) (f + i)).toInt) n; omega)]⟩)⟩))
    have ht_3 : (w).toInt = 3 := by omega
    · refine lv_tableIn (tgt := 121) (off := 96) hx hb kd_Mx_meter_25 ht_lo ht_hi (by rw [ht_3]; rfl) (by decide) ?_
      refine zr_aload_n hx hb kd_Mx_meter_121 hl rfl ?_
      refine zr_getr hS hK kf_Mx_25 hI ha_MX hs_MX (zL_0 hL).2.2.1 kd_Mx_meter_122 ?_
      refine zr_cv (zr_runV hS hK (c_De_settle l G M hL hD hno) km_Mx_187 hI ha_DE hs_DE rfl hl.1 (Nat.le_of_ble_eq_true rfl) (by decide) (by decide) kd_Mx_meter_125 rfl) hI (fun M125 H locs hp125 hI => ?_)
      obtain ⟨o, ho, hM125⟩ := hp125
      have hL2 : zL M125.2 := by rw [hM125, zf_st_2]; exact hL
      refine zr_aload_n hx hb kd_Mx_meter_128 hl rfl ?_
      refine zr_getr hS hK kf_Mx_25 hI ha_MX hs_MX (zL_0 hL2).2.2.1 kd_Mx_meter_129 ?_
      refine zr_getr hS hK kf_Mx_113 hI ha_DE hs_DE (zL_0 hL2).2.2.2.2.1 kd_Mx_meter_132 ?_
      refine zr_iload_n hx hb kd_Mx_meter_135 hl rfl ?_
      refine zr_aald hS hK hI ha_DE_0 hs_DE_0 (by decide) (by decide) rfl (vp_in_nI (by omega) (by decide)) (by rw [ca]; exact (zL_st hL2 ha8).1) kd_Mx_meter_136 ?_
      refine zr_geti hS hK kf_Mx_190 hI ha_S hs_S kd_Mx_meter_137 ?_
      refine lv_i2l hx hb kd_Mx_meter_140 rfl ?_
      exact zx_mono (zx_rl' hO) (zr_lret hS hK hlk hr hI kd_Mx_meter_141 (⟨hz, a, ha8, rfl, Or.inl ⟨wk 3 3 (by decide) ht_3, ⟨o, ho, hM125⟩, Int32.toInt_toInt64 _⟩⟩))
  refine zr_iload_n hx hb kd_Mx_meter_0 hl rfl ?_
  refine zp_ci (zp_runS hS hK (d_Mx_isStrip l G 183 zs M _) km_Mx_125 hI rfl hl.1 (Nat.le_of_ble_eq_true rfl) (by decide) (by decide) kd_Mx_meter_1 rfl) (fun r1 M1 hp1 => ?_)
  obtain ⟨rfl, hM1⟩ := hp1
  refine lv_if_eq (tgt := 16) hx hb kd_Mx_meter_4 (by decide) (fun h4 => ?_) (fun h4 => ?_)
  · skip
    exact zx_thr (cls := "java/lang/IllegalArgumentException") (index := 48) (ic := 50) hS hlk hex htr hK hO hI (by decide) hl.1 rfl (zw_mem (i := 372) (by decide +kernel) rfl) (zw_mem (i := 373) (by decide +kernel) rfl) (zw_mem (i := 46) (by decide +kernel) rfl) (by decide +kernel) (by decide) (by decide) (by decide) (by decide) kd_Mx_meter_16 kd_Mx_meter_19 kd_Mx_meter_20 kd_Mx_meter_23 (fun o9 t9 hF hT => ⟨hF, Or.inr (hT.to (by first | exact ⟨rfl, by simp [zv_trn, *]⟩ | exact Or.inl ⟨rfl, by simp [zv_trn, *]⟩ | exact Or.inr ⟨rfl, by simp [zv_trn, *]⟩ | exact Or.inr (Or.inl ⟨rfl, by simp [zv_trn, *]⟩) | exact Or.inr (Or.inr ⟨rfl, by simp [zv_trn, *]⟩)))⟩)
  · skip
    refine zr_iload_n hx hb kd_Mx_meter_7 hl rfl ?_
    refine lv_iconst (v := 0) hx hb kd_Mx_meter_8 (by decide) ?_
    refine lv_iconst (v := 4) hx hb kd_Mx_meter_9 (by decide) ?_
    refine zp_ci (zp_runS hS hK (d_Mx_within l G 183 zs M _ _ _) km_Mx_30 hI rfl hl.1 (Nat.le_of_ble_eq_true rfl) (by decide) (by decide) kd_Mx_meter_10 rfl) (fun r10 M10 hp10 => ?_)
    obtain ⟨rfl, hM10⟩ := hp10
    refine lv_if_ne (tgt := 24) hx hb kd_Mx_meter_13 (by decide) (fun h13 => ?_) (fun h13 => ?_)
    · skip
      obtain ⟨a, ha, e1⟩ := zf_in_n (n := 7) (by decide) h4
      exact rest ls a (by omega) e1 (by rw [zv_trn, if_neg h4, if_neg h13]) hl h13
    · skip
      exact zx_thr (cls := "java/lang/IllegalArgumentException") (index := 48) (ic := 50) hS hlk hex htr hK hO hI (by decide) hl.1 rfl (zw_mem (i := 372) (by decide +kernel) rfl) (zw_mem (i := 373) (by decide +kernel) rfl) (zw_mem (i := 46) (by decide +kernel) rfl) (by decide +kernel) (by decide) (by decide) (by decide) (by decide) kd_Mx_meter_16 kd_Mx_meter_19 kd_Mx_meter_20 kd_Mx_meter_23 (fun o9 t9 hF hT => ⟨hF, Or.inr (hT.to (by first | exact ⟨rfl, by simp [zv_trn, *]⟩ | exact Or.inl ⟨rfl, by simp [zv_trn, *]⟩ | exact Or.inr ⟨rfl, by simp [zv_trn, *]⟩ | exact Or.inr (Or.inl ⟨rfl, by simp [zv_trn, *]⟩) | exact Or.inr (Or.inr ⟨rfl, by simp [zv_trn, *]⟩)))⟩)
set_option maxRecDepth 100000 in
set_option maxHeartbeats 4000000 in
theorem x_Mx_bounce (l : Launch) (hfl : l.flags = Jvm.pinnedFlags ++ [Jvm.noTraceFlag]) (G : zg_T) (M : zm_T) (hL : zL M.2) (fn : Nat → Nat) (sv f n : Int32) (hok : zQ_ok M fn) : zx_M l ky_Mx_bounce (zr_ws ky_Mx_bounce kc_Mx_bounce 5 (some .int)) { frames := 7, cells := 1, slots := 6, locals := 60 * 7 } (va_Pc [.ref (G.2.2.1 + 0), .int sv, .int f, .int n] (zy_B G M)) (zx_Qi G (fun x => x = zxA ∧ (zf_in sv 0 7 = 0 ∨ zf_blk f n = 0)) (fun (r : Int32) (M' : zm_T) => ¬ (zf_in sv 0 7 = 0 ∨ zf_blk f n = 0) ∧ ∃ t, zf_ot M t ∧ ((t = 8 ∧ r = -1 ∧ M' = M) ∨ (t < 8 ∧ r = nI t ∧ ∃ M2, zQ M M2 fn f.toNatClampNeg n.toNatClampNeg ∧ M' = zm_ui (zm_seg M2 (136 + 2 * t) 0 n.toNatClampNeg (fun j => zf_clip (M2.1 (30 + 14 * sv.toNatClampNeg) (f.toNatClampNeg + j)))) (135 + 2 * t) 1 n))) M) := by
  refine zx_metY hfl (by decide +kernel) (Nat.le_of_ble_eq_true rfl) ?_
  intro p0 e0 s0 m0 below meth c0 ls htr hS hK hO hex hlk hr hl hI
  have hx := hS.1
  have hb := hS.2.1
  have hl : zl_has ls 5 [some (.ref (G.2.2.1 + 0)), some (.int sv), some (.int f), some (.int n), none] := hl
  have gm : ∀ d, d < 8 → ¬ nI d = (-1 : Int32) := fun d hd h => by
    have : (nI d).toInt = (-1 : Int32).toInt := by rw [h]
    rw [nI_toInt (by omega), show (-1 : Int32).toInt = -1 from by decide] at this
    omega
  have rest : ∀ (ls : Array Slot) (s a b : Nat), s < 8 → a + b ≤ 1024 → b ≤ 64 → sv = nI s → f = nI a → n = nI b → ¬ (zf_in sv 0 7 = 0 ∨ zf_blk f n = 0) → zl_has ls 5 [some (.ref (G.2.2.1 + 0)), some (.int sv), some (.int f), some (.int n), none] → W p0 l e0 { frames := 7, cells := 1, slots := 6, locals := 60 * 7 } s0 m0 ([.ref (G.2.2.1 + 0), .int sv, .int f, .int n] : List Value).toArray below meth c0 s0.heap [] 0 0 (zx_E below (zx_Qi G (fun x => x = zxA ∧ (zf_in sv 0 7 = 0 ∨ zf_blk f n = 0)) (fun (r : Int32) (M' : zm_T) => ¬ (zf_in sv 0 7 = 0 ∨ zf_blk f n = 0) ∧ ∃ t, zf_ot M t ∧ ((t = 8 ∧ r = -1 ∧ M' = M) ∨ (t < 8 ∧ r = nI t ∧ ∃ M2, zQ M M2 fn f.toNatClampNeg n.toNatClampNeg ∧ M' = zm_ui (zm_seg M2 (136 + 2 * t) 0 n.toNatClampNeg (fun j => zf_clip (M2.1 (30 + 14 * sv.toNatClampNeg) (f.toNatClampNeg + j)))) (135 + 2 * t) 1 n))) M) ([.ref (G.2.2.1 + 0), .int sv, .int f, .int n] : List Value).toArray s0) (F0 m0 23 ls []) := by
    intro ls s a b hs8 hab hb64 e0 e1 e2 hz hl
    subst e0 e1 e2
    have cs : (nI s).toNatClampNeg = s := zn_cl (by omega)
    have ca : (nI a).toNatClampNeg = a := zn_cl (by omega)
    have cb : (nI b).toNatClampNeg = b := zn_cl (by omega)
    rw [cs, ca, cb]
    refine zr_aload_n hx hb kd_Mx_bounce_23 hl rfl ?_
    refine zr_ci (zr_runV hS hK (c_Mx_leastOpenTake l G M hL) km_Mx_196 hI ha_MX hs_MX rfl hl.1 (Nat.le_of_ble_eq_true rfl) (by decide) (by decide) kd_Mx_bounce_24 rfl) hI (fun r24 M24 H locs hp24 hI => ?_)
    obtain ⟨⟨t, ht, rfl⟩, hM24⟩ := hp24
    rw [hM24] at hI
    refine zr_istore hx hb kd_Mx_bounce_27 hl (by decide) rfl (fun ls hl => ?_)
    refine zr_iload hx hb kd_Mx_bounce_29 hl rfl ?_
    refine lv_iconst (v := -1) hx hb kd_Mx_bounce_31 (by decide) ?_
    refine lv_icmp_ne (tgt := 37) hx hb kd_Mx_bounce_32 (by decide) (fun h32 => ?_) (fun h32 => ?_)
    · skip
      have t8 : t < 8 := by
        by_cases g : t < 8
        · exact g
        · rw [if_neg g] at h32; exact absurd rfl h32
      have et : (if t < 8 then nI t else (-1 : Int32)) = nI t := if_pos t8
      rw [et] at hl
      refine zr_aload_n hx hb kd_Mx_bounce_37 hl rfl ?_
      refine zr_iload_n hx hb kd_Mx_bounce_38 hl rfl ?_
      refine zr_iload_n hx hb kd_Mx_bounce_39 hl rfl ?_
      refine zr_cv (zr_runV hS hK (c_Mx_playBlock l G M hL fn a b hab hok) km_Mx_166 hI ha_MX hs_MX rfl hl.1 (Nat.le_of_ble_eq_true rfl) (by decide) (by decide) kd_Mx_bounce_40 rfl) hI (fun M40 H locs hp40 hI => ?_)
      have hL2 : zL M40.2 := by rw [hp40.1.1]; exact hL
      refine zr_aload_n hx hb kd_Mx_bounce_43 hl rfl ?_
      refine zr_getr hS hK kf_Mx_11 hI ha_MX hs_MX (zL_0 hL2).1 kd_Mx_bounce_44 ?_
      refine zr_iload hx hb kd_Mx_bounce_47 hl rfl ?_
      refine zr_aald hS hK hI ha_MX_0 hs_MX_0 (by decide) (by decide) rfl (vp_in_nI (by omega) (by decide)) (by rw [zn_cl (by omega)]; exact (zL_tk hL2 t8).1) kd_Mx_bounce_49 ?_
      refine zr_aload_n hx hb kd_Mx_bounce_50 hl rfl ?_
      refine zr_getr hS hK kf_Mx_25 hI ha_MX hs_MX (zL_0 hL2).2.2.1 kd_Mx_bounce_51 ?_
      refine zr_getr hS hK kf_Mx_113 hI ha_DE hs_DE (zL_0 hL2).2.2.2.2.1 kd_Mx_bounce_54 ?_
      refine zr_iload_n hx hb kd_Mx_bounce_57 hl rfl ?_
      refine zr_aald hS hK hI ha_DE_0 hs_DE_0 (by decide) (by decide) rfl (vp_in_nI (by omega) (by decide)) (by rw [cs]; exact (zL_st hL2 hs8).1) kd_Mx_bounce_58 ?_
      refine zr_getr hS hK kf_Mx_172 hI (by omega) (zs_st0 s hs8) (zL_st hL2 hs8).2.2.2.2.1 kd_Mx_bounce_59 ?_
      refine zr_iload_n hx hb kd_Mx_bounce_62 hl rfl ?_
      refine zr_iload_n hx hb kd_Mx_bounce_63 hl rfl ?_
      refine zr_cv (zr_runV hS hK (c_Ta_record l G 183 zs M40 (135 + 2 * t) (136 + 2 * t) (30 + 14 * s) a b (by omega) (zs_tk t t8).1 (by omega) (zs_tk t t8).2 (zL_tk hL2 t8).2 (by omega) (zs_st7 s hs8) (by omega) (by omega) hb64 hab) km_Mx_199 hI (by omega) (zs_tk t t8).1 rfl hl.1 (Nat.le_of_ble_eq_true rfl) (by decide) (by decide) kd_Mx_bounce_64 rfl) hI (fun M64 H locs hp64 hI => ?_)
      rw [hp64] at hI
      refine zr_iload hx hb kd_Mx_bounce_67 hl rfl ?_
      exact zx_mono (zx_ri' hO) (zr_iret hS hK hlk hr hI kd_Mx_bounce_69 (⟨hz, t, ht, Or.inr ⟨t8, rfl, M40, hp40, rfl⟩⟩))
    · skip
      refine lv_iconst (v := -1) hx hb kd_Mx_bounce_35 (by decide) ?_
      exact zx_mono (zx_ri' hO) (zr_iret hS hK hlk hr hI kd_Mx_bounce_36 (⟨hz, t, ht, Or.inl ⟨by have := ht.1; by_cases g : t < 8; exact absurd (by rw [if_pos g] at h32; exact h32) (gm t g); omega, rfl, rfl⟩⟩))
  refine zr_iload_n hx hb kd_Mx_bounce_0 hl rfl ?_
  refine zp_ci (zp_runS hS hK (d_Mx_isStrip l G 183 zs M _) km_Mx_125 hI rfl hl.1 (Nat.le_of_ble_eq_true rfl) (by decide) (by decide) kd_Mx_bounce_1 rfl) (fun r1 M1 hp1 => ?_)
  obtain ⟨rfl, hM1⟩ := hp1
  refine lv_if_eq (tgt := 15) hx hb kd_Mx_bounce_4 (by decide) (fun h4 => ?_) (fun h4 => ?_)
  · skip
    exact zx_thr (cls := "java/lang/IllegalArgumentException") (index := 48) (ic := 50) hS hlk hex htr hK hO hI (by decide) hl.1 rfl (zw_mem (i := 372) (by decide +kernel) rfl) (zw_mem (i := 373) (by decide +kernel) rfl) (zw_mem (i := 46) (by decide +kernel) rfl) (by decide +kernel) (by decide) (by decide) (by decide) (by decide) kd_Mx_bounce_15 kd_Mx_bounce_18 kd_Mx_bounce_19 kd_Mx_bounce_22 (fun o9 t9 hF hT => ⟨hF, Or.inr (hT.to (by first | exact ⟨rfl, by first | exact Or.inl h4 | exact Or.inr h12⟩ | exact Or.inl ⟨rfl, by first | exact Or.inl h4 | exact Or.inr h12⟩ | exact Or.inr ⟨rfl, by first | exact Or.inl h4 | exact Or.inr h12⟩ | exact Or.inr (Or.inl ⟨rfl, by first | exact Or.inl h4 | exact Or.inr h12⟩) | exact Or.inr (Or.inr ⟨rfl, by first | exact Or.inl h4 | exact Or.inr h12⟩)))⟩)
  · skip
    refine zr_iload_n hx hb kd_Mx_bounce_7 hl rfl ?_
    refine zr_iload_n hx hb kd_Mx_bounce_8 hl rfl ?_
    refine zp_ci (zp_runS hS hK (d_Mx_isBlock l G 183 zs M _ _) km_Mx_163 hI rfl hl.1 (Nat.le_of_ble_eq_true rfl) (by decide) (by decide) kd_Mx_bounce_9 rfl) (fun r9 M9 hp9 => ?_)
    obtain ⟨rfl, hM9⟩ := hp9
    refine lv_if_ne (tgt := 23) hx hb kd_Mx_bounce_12 (by decide) (fun h12 => ?_) (fun h12 => ?_)
    · skip
      obtain ⟨s, hs, e0⟩ := zf_in_n (n := 7) (by decide) h4
      obtain ⟨a, b, e1, e2, h1, h2, h3⟩ := zf_blk_n h12
      exact rest ls s a b (by omega) h1 h2 e0 e1 e2 (fun h => h.elim h4 h12) hl
    · skip
      exact zx_thr (cls := "java/lang/IllegalArgumentException") (index := 48) (ic := 50) hS hlk hex htr hK hO hI (by decide) hl.1 rfl (zw_mem (i := 372) (by decide +kernel) rfl) (zw_mem (i := 373) (by decide +kernel) rfl) (zw_mem (i := 46) (by decide +kernel) rfl) (by decide +kernel) (by decide) (by decide) (by decide) (by decide) kd_Mx_bounce_15 kd_Mx_bounce_18 kd_Mx_bounce_19 kd_Mx_bounce_22 (fun o9 t9 hF hT => ⟨hF, Or.inr (hT.to (by first | exact ⟨rfl, by first | exact Or.inl h4 | exact Or.inr h12⟩ | exact Or.inl ⟨rfl, by first | exact Or.inl h4 | exact Or.inr h12⟩ | exact Or.inr ⟨rfl, by first | exact Or.inl h4 | exact Or.inr h12⟩ | exact Or.inr (Or.inl ⟨rfl, by first | exact Or.inl h4 | exact Or.inr h12⟩) | exact Or.inr (Or.inr ⟨rfl, by first | exact Or.inl h4 | exact Or.inr h12⟩)))⟩)

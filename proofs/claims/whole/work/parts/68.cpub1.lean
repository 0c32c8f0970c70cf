/-! The class's public methods, with their exceptions: samples, seal, take, drop. -/
def zu_sam (M : zm_T) (t i : Int32) : Int32 := if zf_in t 0 7 = 0 then 1 else if zf_in i 0 60 = 0 then 1 else if M.1 (135 + 2 * t.toNatClampNeg) 1 = 0 then 0 else 2
set_option maxRecDepth 100000 in
set_option maxHeartbeats 4000000 in
theorem x_Mx_samples (l : Launch) (hfl : l.flags = Jvm.pinnedFlags ++ [Jvm.noTraceFlag]) (G : zg_T) (M : zm_T) (hL : zL M.2) (t i : Int32) (four : Int64) : zx_M l ky_Mx_samples (zr_ws ky_Mx_samples kc_Mx_samples 5 none) { frames := 6, cells := 1, slots := 6, locals := 60 * 6 } (va_Pc [.ref (G.2.2.1 + 0), .int t, .int i, .long four] (zy_B G M)) (zx_Qv G (fun c => (c = zxI ∧ zu_sam M t i = 1) ∨ (c = zxS ∧ zu_sam M t i = 2)) (fun (M' : zm_T) => zu_sam M t i = 0 ∧ M' = zm_seg M (136 + 2 * t.toNatClampNeg) i.toNatClampNeg 4 (zf_sh four)) M) := by
  refine zx_metY hfl (by decide +kernel) (Nat.le_of_ble_eq_true rfl) ?_
  intro p0 e0 s0 m0 below meth c0 ls htr hS hK hO hex hlk hr hl hI
  have hx := hS.1
  have hb := hS.2.1
  have hl : zl_has ls 5 [some (.ref (G.2.2.1 + 0)), some (.int t), some (.int i), some (.long four), none] := hl
  have hi : ¬ zf_in i 0 60 = 0 → i.toNatClampNeg ≤ 60 ∧ nI i.toNatClampNeg = i := fun h => by
    obtain ⟨n, hn, rfl⟩ := zf_in_n (n := 60) (by decide) h
    rw [zn_cl (by omega)]
    exact ⟨hn, rfl⟩
  have hw : ∀ (h1 : ¬ zf_in t 0 7 = 0) (h2 : ¬ zf_in i 0 60 = 0), Met l ky_Ta_write (zr_ws ky_Ta_write kc_Ta_write 5 none) (zr_rm 0) (va_Pc [.ref (G.2.2.1 + (135 + 2 * t.toNatClampNeg)), .int i, .long four] (zm_B G 183 zs M)) (va_Qv (fun (M' : zm_T) => M' = zm_seg M (136 + 2 * t.toNatClampNeg) i.toNatClampNeg 4 (zf_sh four)) (zm_B G 183 zs) (zm_A G)) 0 0 (zm_A G) := fun h1 h2 => by
    have := c_Ta_write l G 183 zs M (135 + 2 * t.toNatClampNeg) (136 + 2 * t.toNatClampNeg) i.toNatClampNeg four (zt_tk hL h1).2.2.1.1 (zt_tk hL h1).2.2.1.2 (by have := (zt_tk hL h1).2.2.2.1; omega) (zs_tk _ (zt_tk hL h1).2.2.2.1).2 (zL_tk hL (zt_tk hL h1).2.2.2.1).2 (hi h2).1
    rw [(hi h2).2] at this
    exact this
  refine zr_iload_n hx hb kd_Mx_samples_0 hl rfl ?_
  refine lv_iconst (v := 0) hx hb kd_Mx_samples_1 (by decide) ?_
  refine lv_bipush (v := 7) hx hb kd_Mx_samples_2 (by decide) ?_
  refine zp_ci (zp_runS hS hK (d_Mx_within l G 183 zs M _ _ _) km_Mx_30 hI rfl hl.1 (Nat.le_of_ble_eq_true rfl) (by decide) (by decide) kd_Mx_samples_4 rfl) (fun r4 M4 hp4 => ?_)
  obtain ⟨rfl, hM4⟩ := hp4
  refine lv_if_eq (tgt := 20) hx hb kd_Mx_samples_7 (by decide) (fun h7 => ?_) (fun h7 => ?_)
  · skip
    exact zx_thr (cls := "java/lang/IndexOutOfBoundsException") (index := 34) (ic := 36) hS hlk hex htr hK hO hI (by decide) hl.1 rfl (zw_mem (i := 275) (by decide +kernel) rfl) (zw_mem (i := 276) (by decide +kernel) rfl) (zw_mem (i := 44) (by decide +kernel) rfl) (by decide +kernel) (by decide) (by decide) (by decide) (by decide) kd_Mx_samples_20 kd_Mx_samples_23 kd_Mx_samples_24 kd_Mx_samples_27 (fun o9 t9 hF hT => ⟨hF, Or.inr (hT.to (by first | exact ⟨rfl, by simp [zu_sam, *]⟩ | exact Or.inl ⟨rfl, by simp [zu_sam, *]⟩ | exact Or.inr ⟨rfl, by simp [zu_sam, *]⟩ | exact Or.inr (Or.inl ⟨rfl, by simp [zu_sam, *]⟩) | exact Or.inr (Or.inr ⟨rfl, by simp [zu_sam, *]⟩)))⟩)
  · skip
    refine zr_iload_n hx hb kd_Mx_samples_10 hl rfl ?_
    refine lv_iconst (v := 0) hx hb kd_Mx_samples_11 (by decide) ?_
    refine lv_bipush (v := 60) hx hb kd_Mx_samples_12 (by decide) ?_
    refine zp_ci (zp_runS hS hK (d_Mx_within l G 183 zs M _ _ _) km_Mx_30 hI rfl hl.1 (Nat.le_of_ble_eq_true rfl) (by decide) (by decide) kd_Mx_samples_14 rfl) (fun r14 M14 hp14 => ?_)
    obtain ⟨rfl, hM14⟩ := hp14
    refine lv_if_ne (tgt := 28) hx hb kd_Mx_samples_17 (by decide) (fun h17 => ?_) (fun h17 => ?_)
    · skip
      refine zr_aload_n hx hb kd_Mx_samples_28 hl rfl ?_
      refine zr_getr hS hK kf_Mx_11 hI ha_MX hs_MX (zL_0 hL).1 kd_Mx_samples_29 ?_
      refine zr_iload_n hx hb kd_Mx_samples_32 hl rfl ?_
      refine zr_aald hS hK hI ha_MX_0 hs_MX_0 (by decide) (by decide) rfl (zt_tk hL h7).1 (zt_tk hL h7).2.1 kd_Mx_samples_33 ?_
      refine zp_ci (zp_runV hS hK (d_Ta_isOpen l G 183 zs M (135 + 2 * t.toNatClampNeg) (zt_tk hL h7).2.2.1.1 (zt_tk hL h7).2.2.1.2) km_Mx_37 hI (zt_tk hL h7).2.2.1.1 (zt_tk hL h7).2.2.1.2 rfl hl.1 (Nat.le_of_ble_eq_true rfl) (by decide) (by decide) kd_Mx_samples_34 rfl) (fun r34 M34 hp34 => ?_)
      obtain ⟨rfl, hM34⟩ := hp34
      refine lv_if_ne (tgt := 48) hx hb kd_Mx_samples_37 (by decide) (fun h37 => ?_) (fun h37 => ?_)
      · skip
        refine zr_aload_n hx hb kd_Mx_samples_48 hl rfl ?_
        refine zr_getr hS hK kf_Mx_11 hI ha_MX hs_MX (zL_0 hL).1 kd_Mx_samples_49 ?_
        refine zr_iload_n hx hb kd_Mx_samples_52 hl rfl ?_
        refine zr_aald hS hK hI ha_MX_0 hs_MX_0 (by decide) (by decide) rfl (zt_tk hL h7).1 (zt_tk hL h7).2.1 kd_Mx_samples_53 ?_
        refine zr_iload_n hx hb kd_Mx_samples_54 hl rfl ?_
        refine zr_lload_n hx hb kd_Mx_samples_55 hl rfl ?_
        refine zr_cv (zr_runV hS hK (hw h7 h17) km_Mx_44 hI (zt_tk hL h7).2.2.1.1 (zt_tk hL h7).2.2.1.2 rfl hl.1 (Nat.le_of_ble_eq_true rfl) (by decide) (by decide) kd_Mx_samples_56 rfl) hI (fun M56 H locs hp56 hI => ?_)
        rw [hp56] at hI
        exact zx_mono (zx_rv' hO) (zr_vret hS hK hlk hr hI kd_Mx_samples_59 (⟨by simp at h37; simp [zu_sam, *], rfl⟩))
      · skip
        exact zx_thr (cls := "java/lang/IllegalStateException") (index := 41) (ic := 43) hS hlk hex htr hK hO hI (by decide) hl.1 rfl (zw_mem (i := 345) (by decide +kernel) rfl) (zw_mem (i := 346) (by decide +kernel) rfl) (zw_mem (i := 45) (by decide +kernel) rfl) (by decide +kernel) (by decide) (by decide) (by decide) (by decide) kd_Mx_samples_40 kd_Mx_samples_43 kd_Mx_samples_44 kd_Mx_samples_47 (fun o9 t9 hF hT => ⟨hF, Or.inr (hT.to (by first | exact ⟨rfl, by simp at h37; simp [zu_sam, *]⟩ | exact Or.inl ⟨rfl, by simp at h37; simp [zu_sam, *]⟩ | exact Or.inr ⟨rfl, by simp at h37; simp [zu_sam, *]⟩ | exact Or.inr (Or.inl ⟨rfl, by simp at h37; simp [zu_sam, *]⟩) | exact Or.inr (Or.inr ⟨rfl, by simp at h37; simp [zu_sam, *]⟩)))⟩)
    · skip
      exact zx_thr (cls := "java/lang/IndexOutOfBoundsException") (index := 34) (ic := 36) hS hlk hex htr hK hO hI (by decide) hl.1 rfl (zw_mem (i := 275) (by decide +kernel) rfl) (zw_mem (i := 276) (by decide +kernel) rfl) (zw_mem (i := 44) (by decide +kernel) rfl) (by decide +kernel) (by decide) (by decide) (by decide) (by decide) kd_Mx_samples_20 kd_Mx_samples_23 kd_Mx_samples_24 kd_Mx_samples_27 (fun o9 t9 hF hT => ⟨hF, Or.inr (hT.to (by first | exact ⟨rfl, by simp [zu_sam, *]⟩ | exact Or.inl ⟨rfl, by simp [zu_sam, *]⟩ | exact Or.inr ⟨rfl, by simp [zu_sam, *]⟩ | exact Or.inr (Or.inl ⟨rfl, by simp [zu_sam, *]⟩) | exact Or.inr (Or.inr ⟨rfl, by simp [zu_sam, *]⟩)))⟩)
def zu_seal (M : zm_T) (t n : Int32) : Int32 := if zf_in t 0 7 = 0 then 1 else if zf_in n 1 64 = 0 then 2 else if M.1 (135 + 2 * t.toNatClampNeg) 1 = 0 then 0 else 3
set_option maxRecDepth 100000 in
set_option maxHeartbeats 4000000 in
theorem x_Mx_seal (l : Launch) (hfl : l.flags = Jvm.pinnedFlags ++ [Jvm.noTraceFlag]) (G : zg_T) (M : zm_T) (hL : zL M.2) (t n : Int32) : zx_M l ky_Mx_seal (zr_ws ky_Mx_seal kc_Mx_seal 3 none) { frames := 6, cells := 1, slots := 6, locals := 60 * 6 } (va_Pc [.ref (G.2.2.1 + 0), .int t, .int n] (zy_B G M)) (zx_Qv G (fun c => (c = zxI ∧ zu_seal M t n = 1) ∨ (c = zxA ∧ zu_seal M t n = 2) ∨ (c = zxS ∧ zu_seal M t n = 3)) (fun (M' : zm_T) => zu_seal M t n = 0 ∧ M' = zm_ui M (135 + 2 * t.toNatClampNeg) 1 n) M) := by
  refine zx_metY hfl (by decide +kernel) (Nat.le_of_ble_eq_true rfl) ?_
  intro p0 e0 s0 m0 below meth c0 ls htr hS hK hO hex hlk hr hl hI
  have hx := hS.1
  have hb := hS.2.1
  have hl : zl_has ls 3 [some (.ref (G.2.2.1 + 0)), some (.int t), some (.int n)] := hl
  refine zr_iload_n hx hb kd_Mx_seal_0 hl rfl ?_
  refine lv_iconst (v := 0) hx hb kd_Mx_seal_1 (by decide) ?_
  refine lv_bipush (v := 7) hx hb kd_Mx_seal_2 (by decide) ?_
  refine zp_ci (zp_runS hS hK (d_Mx_within l G 183 zs M _ _ _) km_Mx_30 hI rfl hl.1 (Nat.le_of_ble_eq_true rfl) (by decide) (by decide) kd_Mx_seal_4 rfl) (fun r4 M4 hp4 => ?_)
  obtain ⟨rfl, hM4⟩ := hp4
  refine lv_if_ne (tgt := 18) hx hb kd_Mx_seal_7 (by decide) (fun h7 => ?_) (fun h7 => ?_)
  · skip
    refine zr_iload_n hx hb kd_Mx_seal_18 hl rfl ?_
    refine lv_iconst (v := 1) hx hb kd_Mx_seal_19 (by decide) ?_
    refine lv_bipush (v := 64) hx hb kd_Mx_seal_20 (by decide) ?_
    refine zp_ci (zp_runS hS hK (d_Mx_within l G 183 zs M _ _ _) km_Mx_30 hI rfl hl.1 (Nat.le_of_ble_eq_true rfl) (by decide) (by decide) kd_Mx_seal_22 rfl) (fun r22 M22 hp22 => ?_)
    obtain ⟨rfl, hM22⟩ := hp22
    refine lv_if_ne (tgt := 36) hx hb kd_Mx_seal_25 (by decide) (fun h25 => ?_) (fun h25 => ?_)
    · skip
      refine zr_aload_n hx hb kd_Mx_seal_36 hl rfl ?_
      refine zr_getr hS hK kf_Mx_11 hI ha_MX hs_MX (zL_0 hL).1 kd_Mx_seal_37 ?_
      refine zr_iload_n hx hb kd_Mx_seal_40 hl rfl ?_
      refine zr_aald hS hK hI ha_MX_0 hs_MX_0 (by decide) (by decide) rfl (zt_tk hL h7).1 (zt_tk hL h7).2.1 kd_Mx_seal_41 ?_
      refine zp_ci (zp_runV hS hK (d_Ta_isOpen l G 183 zs M (135 + 2 * t.toNatClampNeg) (zt_tk hL h7).2.2.1.1 (zt_tk hL h7).2.2.1.2) km_Mx_37 hI (zt_tk hL h7).2.2.1.1 (zt_tk hL h7).2.2.1.2 rfl hl.1 (Nat.le_of_ble_eq_true rfl) (by decide) (by decide) kd_Mx_seal_42 rfl) (fun r42 M42 hp42 => ?_)
      obtain ⟨rfl, hM42⟩ := hp42
      refine lv_if_ne (tgt := 56) hx hb kd_Mx_seal_45 (by decide) (fun h45 => ?_) (fun h45 => ?_)
      · skip
        refine zr_aload_n hx hb kd_Mx_seal_56 hl rfl ?_
        refine zr_getr hS hK kf_Mx_11 hI ha_MX hs_MX (zL_0 hL).1 kd_Mx_seal_57 ?_
        refine zr_iload_n hx hb kd_Mx_seal_60 hl rfl ?_
        refine zr_aald hS hK hI ha_MX_0 hs_MX_0 (by decide) (by decide) rfl (zt_tk hL h7).1 (zt_tk hL h7).2.1 kd_Mx_seal_61 ?_
        refine zr_iload_n hx hb kd_Mx_seal_62 hl rfl ?_
        refine zr_puti hS hK kf_Mx_51 hI (zt_tk hL h7).2.2.1.1 (zt_tk hL h7).2.2.1.2 rfl rfl kd_Mx_seal_63 (fun H locs hI => ?_)
        exact zx_mono (zx_rv' hO) (zr_vret hS hK hlk hr hI kd_Mx_seal_66 (⟨by simp at h45; simp [zu_seal, *], rfl⟩))
      · skip
        exact zx_thr (cls := "java/lang/IllegalStateException") (index := 41) (ic := 43) hS hlk hex htr hK hO hI (by decide) hl.1 rfl (zw_mem (i := 345) (by decide +kernel) rfl) (zw_mem (i := 346) (by decide +kernel) rfl) (zw_mem (i := 45) (by decide +kernel) rfl) (by decide +kernel) (by decide) (by decide) (by decide) (by decide) kd_Mx_seal_48 kd_Mx_seal_51 kd_Mx_seal_52 kd_Mx_seal_55 (fun o9 t9 hF hT => ⟨hF, Or.inr (hT.to (by first | exact ⟨rfl, by simp at h45; simp [zu_seal, *]⟩ | exact Or.inl ⟨rfl, by simp at h45; simp [zu_seal, *]⟩ | exact Or.inr ⟨rfl, by simp at h45; simp [zu_seal, *]⟩ | exact Or.inr (Or.inl ⟨rfl, by simp at h45; simp [zu_seal, *]⟩) | exact Or.inr (Or.inr ⟨rfl, by simp at h45; simp [zu_seal, *]⟩)))⟩)
    · skip
      exact zx_thr (cls := "java/lang/IllegalArgumentException") (index := 48) (ic := 50) hS hlk hex htr hK hO hI (by decide) hl.1 rfl (zw_mem (i := 372) (by decide +kernel) rfl) (zw_mem (i := 373) (by decide +kernel) rfl) (zw_mem (i := 46) (by decide +kernel) rfl) (by decide +kernel) (by decide) (by decide) (by decide) (by decide) kd_Mx_seal_28 kd_Mx_seal_31 kd_Mx_seal_32 kd_Mx_seal_35 (fun o9 t9 hF hT => ⟨hF, Or.inr (hT.to (by first | exact ⟨rfl, by simp [zu_seal, *]⟩ | exact Or.inl ⟨rfl, by simp [zu_seal, *]⟩ | exact Or.inr ⟨rfl, by simp [zu_seal, *]⟩ | exact Or.inr (Or.inl ⟨rfl, by simp [zu_seal, *]⟩) | exact Or.inr (Or.inr ⟨rfl, by simp [zu_seal, *]⟩)))⟩)
  · skip
    exact zx_thr (cls := "java/lang/IndexOutOfBoundsException") (index := 34) (ic := 36) hS hlk hex htr hK hO hI (by decide) hl.1 rfl (zw_mem (i := 275) (by decide +kernel) rfl) (zw_mem (i := 276) (by decide +kernel) rfl) (zw_mem (i := 44) (by decide +kernel) rfl) (by decide +kernel) (by decide) (by decide) (by decide) (by decide) kd_Mx_seal_10 kd_Mx_seal_13 kd_Mx_seal_14 kd_Mx_seal_17 (fun o9 t9 hF hT => ⟨hF, Or.inr (hT.to (by first | exact ⟨rfl, by simp [zu_seal, *]⟩ | exact Or.inl ⟨rfl, by simp [zu_seal, *]⟩ | exact Or.inr ⟨rfl, by simp [zu_seal, *]⟩ | exact Or.inr (Or.inl ⟨rfl, by simp [zu_seal, *]⟩) | exact Or.inr (Or.inr ⟨rfl, by simp [zu_seal, *]⟩)))⟩)
def zu_tk (M : zm_T) (t i : Int32) : Int32 := if zf_in t 0 7 = 0 then 1 else if zf_in i (-1) ((if M.1 (135 + 2 * t.toNatClampNeg) 1 = 0 then 64 else M.1 (135 + 2 * t.toNatClampNeg) 1) - 1) = 0 then 1 else 0
set_option maxRecDepth 100000 in
set_option maxHeartbeats 4000000 in
theorem x_Mx_take (l : Launch) (hfl : l.flags = Jvm.pinnedFlags ++ [Jvm.noTraceFlag]) (G : zg_T) (M : zm_T) (hL : zL M.2) (t i : Int32) (hlen : ∀ k, k < 8 → 0 ≤ (M.1 (135 + 2 * k) 1).toInt ∧ (M.1 (135 + 2 * k) 1).toInt ≤ 64) : zx_M l ky_Mx_take (zr_ws ky_Mx_take kc_Mx_take 3 (some .int)) { frames := 6, cells := 1, slots := 6, locals := 60 * 6 } (va_Pc [.ref (G.2.2.1 + 0), .int t, .int i] (zy_B G M)) (zx_Qi G (fun c => c = zxI ∧ zu_tk M t i = 1) (fun (r : Int32) (M' : zm_T) => zu_tk M t i = 0 ∧ r = (if i = -1 then M.1 (135 + 2 * t.toNatClampNeg) 1 else M.1 (136 + 2 * t.toNatClampNeg) i.toNatClampNeg) ∧ M' = M) M) := by
  refine zx_metY hfl (by decide +kernel) (Nat.le_of_ble_eq_true rfl) ?_
  intro p0 e0 s0 m0 below meth c0 ls htr hS hK hO hex hlk hr hl hI
  have hx := hS.1
  have hb := hS.2.1
  have hl : zl_has ls 3 [some (.ref (G.2.2.1 + 0)), some (.int t), some (.int i)] := hl
  have hix : ¬ zf_in t 0 7 = 0 → ¬ zf_in i (-1) ((if M.1 (135 + 2 * t.toNatClampNeg) 1 = 0 then 64 else M.1 (135 + 2 * t.toNatClampNeg) 1) - 1) = 0 → ¬ i = -1 → vp_in i 64 := fun h1 h2 h3 => by
    have h4 := hlen _ (zt_tk hL h1).2.2.2.1
    rw [zt_in] at h2
    have h5 : ¬ i.toInt = -1 := fun h => h3 (Int32.toInt_inj.mp h)
    have h6 : (-1 : Int32).toInt = -1 := by decide
    have h64 : (64 : Int32).toInt = 64 := by decide
    have h1' : (1 : Int32).toInt = 1 := by decide
    rw [vp_in_iff]
    by_cases h : M.1 (135 + 2 * t.toNatClampNeg) 1 = 0
    · rw [if_pos h, zn_sub (by rw [h64, h1']; decide) (by rw [h64, h1']; decide), h64, h1', h6] at h2
      omega
    · rw [if_neg h, zn_sub (by omega) (by omega), h1', h6] at h2
      omega
  refine zr_iload_n hx hb kd_Mx_take_0 hl rfl ?_
  refine lv_iconst (v := 0) hx hb kd_Mx_take_1 (by decide) ?_
  refine lv_bipush (v := 7) hx hb kd_Mx_take_2 (by decide) ?_
  refine zp_ci (zp_runS hS hK (d_Mx_within l G 183 zs M _ _ _) km_Mx_30 hI rfl hl.1 (Nat.le_of_ble_eq_true rfl) (by decide) (by decide) kd_Mx_take_4 rfl) (fun r4 M4 hp4 => ?_)
  obtain ⟨rfl, hM4⟩ := hp4
  refine lv_if_eq (tgt := 29) hx hb kd_Mx_take_7 (by decide) (fun h7 => ?_) (fun h7 => ?_)
  · skip
    exact zx_thr (cls := "java/lang/IndexOutOfBoundsException") (index := 34) (ic := 36) hS hlk hex htr hK hO hI (by decide) hl.1 rfl (zw_mem (i := 275) (by decide +kernel) rfl) (zw_mem (i := 276) (by decide +kernel) rfl) (zw_mem (i := 44) (by decide +kernel) rfl) (by decide +kernel) (by decide) (by decide) (by decide) (by decide) kd_Mx_take_29 kd_Mx_take_32 kd_Mx_take_33 kd_Mx_take_36 (fun o9 t9 hF hT => ⟨hF, Or.inr (hT.to (by first | exact ⟨rfl, by simp [zu_tk, *]⟩ | exact Or.inl ⟨rfl, by simp [zu_tk, *]⟩ | exact Or.inr ⟨rfl, by simp [zu_tk, *]⟩ | exact Or.inr (Or.inl ⟨rfl, by simp [zu_tk, *]⟩) | exact Or.inr (Or.inr ⟨rfl, by simp [zu_tk, *]⟩)))⟩)
  · skip
    refine zr_iload_n hx hb kd_Mx_take_10 hl rfl ?_
    refine lv_iconst (v := -1) hx hb kd_Mx_take_11 (by decide) ?_
    refine zr_aload_n hx hb kd_Mx_take_12 hl rfl ?_
    refine zr_getr hS hK kf_Mx_11 hI ha_MX hs_MX (zL_0 hL).1 kd_Mx_take_13 ?_
    refine zr_iload_n hx hb kd_Mx_take_16 hl rfl ?_
    refine zr_aald hS hK hI ha_MX_0 hs_MX_0 (by decide) (by decide) rfl (zt_tk hL h7).1 (zt_tk hL h7).2.1 kd_Mx_take_17 ?_
    refine zp_ci (zp_runV hS hK (d_Ta_readable l G 183 zs M (135 + 2 * t.toNatClampNeg) (zt_tk hL h7).2.2.1.1 (zt_tk hL h7).2.2.1.2) km_Mx_55 hI (zt_tk hL h7).2.2.1.1 (zt_tk hL h7).2.2.1.2 rfl hl.1 (Nat.le_of_ble_eq_true rfl) (by decide) (by decide) kd_Mx_take_18 rfl) (fun r18 M18 hp18 => ?_)
    obtain ⟨rfl, hM18⟩ := hp18
    refine lv_iconst (v := 1) hx hb kd_Mx_take_21 (by decide) ?_
    refine lv_isub hx hb kd_Mx_take_22 ?_
    refine zp_ci (zp_runS hS hK (d_Mx_within l G 183 zs M _ _ _) km_Mx_30 hI rfl hl.1 (Nat.le_of_ble_eq_true rfl) (by decide) (by decide) kd_Mx_take_23 rfl) (fun r23 M23 hp23 => ?_)
    obtain ⟨rfl, hM23⟩ := hp23
    refine lv_if_ne (tgt := 37) hx hb kd_Mx_take_26 (by decide) (fun h26 => ?_) (fun h26 => ?_)
    · skip
      refine zr_iload_n hx hb kd_Mx_take_37 hl rfl ?_
      refine lv_iconst (v := -1) hx hb kd_Mx_take_38 (by decide) ?_
      refine lv_icmp_ne (tgt := 54) hx hb kd_Mx_take_39 (by decide) (fun h39 => ?_) (fun h39 => ?_)
      · skip
        refine zr_aload_n hx hb kd_Mx_take_54 hl rfl ?_
        refine zr_getr hS hK kf_Mx_11 hI ha_MX hs_MX (zL_0 hL).1 kd_Mx_take_55 ?_
        refine zr_iload_n hx hb kd_Mx_take_58 hl rfl ?_
        refine zr_aald hS hK hI ha_MX_0 hs_MX_0 (by decide) (by decide) rfl (zt_tk hL h7).1 (zt_tk hL h7).2.1 kd_Mx_take_59 ?_
        refine zr_getr hS hK kf_Mx_59 hI (zt_tk hL h7).2.2.1.1 (zt_tk hL h7).2.2.1.2 (zL_tk hL (zt_tk hL h7).2.2.2.1).2 kd_Mx_take_60 ?_
        refine zr_iload_n hx hb kd_Mx_take_63 hl rfl ?_
        refine zr_iald hS hK hI (by have := (zt_tk hL h7).2.2.2.1; omega) (zs_tk _ (zt_tk hL h7).2.2.2.1).2 (hix h7 h26 h39) kd_Mx_take_64 ?_
        exact zx_mono (zx_ri' hO) (zr_iret hS hK hlk hr hI kd_Mx_take_65 (⟨by rw [zu_tk, if_neg h7, if_neg h26], by first | rw [if_pos h39] | rw [if_neg h39], rfl⟩))
      · skip
        refine zr_aload_n hx hb kd_Mx_take_42 hl rfl ?_
        refine zr_getr hS hK kf_Mx_11 hI ha_MX hs_MX (zL_0 hL).1 kd_Mx_take_43 ?_
        refine zr_iload_n hx hb kd_Mx_take_46 hl rfl ?_
        refine zr_aald hS hK hI ha_MX_0 hs_MX_0 (by decide) (by decide) rfl (zt_tk hL h7).1 (zt_tk hL h7).2.1 kd_Mx_take_47 ?_
        refine zr_geti hS hK kf_Mx_51 hI (zt_tk hL h7).2.2.1.1 (zt_tk hL h7).2.2.1.2 kd_Mx_take_48 ?_
        refine lv_goto (tgt := 65) hx hb kd_Mx_take_51 (by decide) ?_
        exact zx_mono (zx_ri' hO) (zr_iret hS hK hlk hr hI kd_Mx_take_65 (⟨by rw [zu_tk, if_neg h7, if_neg h26], by first | rw [if_pos h39] | rw [if_neg h39], rfl⟩))
    · skip
      exact zx_thr (cls := "java/lang/IndexOutOfBoundsException") (index := 34) (ic := 36) hS hlk hex htr hK hO hI (by decide) hl.1 rfl (zw_mem (i := 275) (by decide +kernel) rfl) (zw_mem (i := 276) (by decide +kernel) rfl) (zw_mem (i := 44) (by decide +kernel) rfl) (by decide +kernel) (by decide) (by decide) (by decide) (by decide) kd_Mx_take_29 kd_Mx_take_32 kd_Mx_take_33 kd_Mx_take_36 (fun o9 t9 hF hT => ⟨hF, Or.inr (hT.to (by first | exact ⟨rfl, by simp [zu_tk, *]⟩ | exact Or.inl ⟨rfl, by simp [zu_tk, *]⟩ | exact Or.inr ⟨rfl, by simp [zu_tk, *]⟩ | exact Or.inr (Or.inl ⟨rfl, by simp [zu_tk, *]⟩) | exact Or.inr (Or.inr ⟨rfl, by simp [zu_tk, *]⟩)))⟩)
set_option maxRecDepth 100000 in
set_option maxHeartbeats 4000000 in
theorem x_Mx_drop (l : Launch) (hfl : l.flags = Jvm.pinnedFlags ++ [Jvm.noTraceFlag]) (G : zg_T) (M : zm_T) (hL : zL M.2) (c : Int32) : zx_M l ky_Mx_drop (zr_ws ky_Mx_drop kc_Mx_drop 2 none) { frames := 6, cells := 1, slots := 6, locals := 60 * 6 } (va_Pc [.ref (G.2.2.1 + 0), .int c] (zy_B G M)) (zx_Qv G (fun x => x = zxN ∧ zf_has M c = 0) (fun (M' : zm_T) => ¬ zf_has M c = 0 ∧ M' = zm_ui M (4 + c.toNatClampNeg) 4 0) M) := by
  refine zx_metY hfl (by decide +kernel) (Nat.le_of_ble_eq_true rfl) ?_
  intro p0 e0 s0 m0 below meth c0 ls htr hS hK hO hex hlk hr hl hI
  have hx := hS.1
  have hb := hS.2.1
  have hl : zl_has ls 2 [some (.ref (G.2.2.1 + 0)), some (.int c)] := hl
  refine zr_aload_n hx hb kd_Mx_drop_0 hl rfl ?_
  refine zr_getr hS hK kf_Mx_18 hI ha_MX hs_MX (zL_0 hL).2.1 kd_Mx_drop_1 ?_
  refine zr_iload_n hx hb kd_Mx_drop_4 hl rfl ?_
  refine zp_ci (zp_runV hS hK (d_Sh_has l G M hL c) km_Mx_88 hI ha_SH hs_SH rfl hl.1 (Nat.le_of_ble_eq_true rfl) (by decide) (by decide) kd_Mx_drop_5 rfl) (fun r5 M5 hp5 => ?_)
  obtain ⟨rfl, hM5⟩ := hp5
  refine lv_if_ne (tgt := 19) hx hb kd_Mx_drop_8 (by decide) (fun h8 => ?_) (fun h8 => ?_)
  · skip
    refine zr_aload_n hx hb kd_Mx_drop_19 hl rfl ?_
    refine zr_getr hS hK kf_Mx_18 hI ha_MX hs_MX (zL_0 hL).2.1 kd_Mx_drop_20 ?_
    refine zr_getr hS hK kf_Mx_70 hI ha_SH hs_SH (zL_0 hL).2.2.2.1 kd_Mx_drop_23 ?_
    refine zr_iload_n hx hb kd_Mx_drop_26 hl rfl ?_
    refine zr_aald hS hK hI ha_SH_0 hs_SH_0 (by decide) (by decide) rfl (zt_cl hL h8).1 (zt_cl hL h8).2.1 kd_Mx_drop_27 ?_
    refine lv_iconst (v := 0) hx hb kd_Mx_drop_28 (by decide) ?_
    refine zr_puti hS hK kf_Mx_95 hI (zt_cl hL h8).2.2.1.1 (zt_cl hL h8).2.2.1.2 rfl rfl kd_Mx_drop_29 (fun H locs hI => ?_)
    exact zx_mono (zx_rv' hO) (zr_vret hS hK hlk hr hI kd_Mx_drop_32 (⟨h8, rfl⟩))
  · skip
    exact zx_thr (cls := "java/util/NoSuchElementException") (index := 92) (ic := 94) hS hlk hex htr hK hO hI (by decide) hl.1 rfl (zw_mem (i := 443) (by decide +kernel) rfl) (zw_mem (i := 444) (by decide +kernel) rfl) (zw_mem (i := 47) (by decide +kernel) rfl) (by decide +kernel) (by decide) (by decide) (by decide) (by decide) kd_Mx_drop_11 kd_Mx_drop_14 kd_Mx_drop_15 kd_Mx_drop_18 (fun o9 t9 hF hT => ⟨hF, Or.inr (hT.to (by first | exact ⟨rfl, h8⟩ | exact Or.inl ⟨rfl, h8⟩ | exact Or.inr ⟨rfl, h8⟩ | exact Or.inr (Or.inl ⟨rfl, h8⟩) | exact Or.inr (Or.inr ⟨rfl, h8⟩)))⟩)

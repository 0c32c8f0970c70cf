/-! Strip.process. -/
theorem zn_rem16 (t : Nat) (h : t < 2147483648) : nI t - nI t / 16 * 16 = nI (t % 16) := pk_rem (d := 16) (by omega) (by decide) (by decide)
set_option maxRecDepth 100000 in
set_option maxHeartbeats 4000000 in
theorem c_St_process (l : Launch) (G : zg_T) (M : zm_T) (hL : zL M.2) (s n e : Nat) (hd : Int32) (hs : s < 8) (he : e ≤ 1024) (hE : ∀ i, i < 3 → zE_K M (31 + 14 * s + 2 * i)) (hFd : zF_M M (25 + 14 * s) (26 + 14 * s) (27 + 14 * s) (28 + 14 * s) n) : Met l ky_St_process (zr_ws ky_St_process kc_St_process 7 none) (zr_rm 4) (va_Pc [.ref (G.2.2.1 + (23 + 14 * s)), .int (nI e), .int hd] (zm_B G 183 zs M)) (va_Qv (fun (M' : zm_T) => zP_post M M' s n e hd) (zm_B G 183 zs) (zm_A G)) 0 0 (zm_A G) := by
  refine zr_met (by decide +kernel) (Nat.le_of_ble_eq_true rfl) ?_
  intro p0 e0 s0 m0 below meth c0 ls hS hK hlk hr hl hI
  have hx := hS.1
  have hb := hS.2.1
  have hl : zl_has ls 7 [some (.ref (G.2.2.1 + (23 + 14 * s))), some (.int (nI e)), some (.int hd), none, none, none, none] := hl
  have ha_a : 23 + 14 * s < 183 := by omega
  have hs_a : zs (23 + 14 * s) = (10 + 5, 0) := zs_st0 _ hs
  have hv_a_0 : M.2.1 (23 + 14 * s) 0 = some (24 + 14 * s) := (zL_st hL hs).2.1
  have ha_a_0 : 24 + 14 * s < 183 := by omega
  have hs_a_0 : zs (24 + 14 * s) = (5, 3) := zs_st1 _ hs
  have hv_a_1 : M.2.1 (23 + 14 * s) 1 = some (25 + 14 * s) := (zL_st hL hs).2.2.1
  have ha_a_1 : 25 + 14 * s < 183 := by omega
  have hs_a_1 : zs (25 + 14 * s) = (10 + 3, 0) := zs_st2 _ hs
  have hv_a_2 : M.2.1 (23 + 14 * s) 2 = some (29 + 14 * s) := (zL_st hL hs).2.2.2.1
  have ha_a_2 : 29 + 14 * s < 183 := by omega
  have hs_a_2 : zs (29 + 14 * s) = (0, 8) := zs_st6 _ hs
  have hv_a_3 : M.2.1 (23 + 14 * s) 3 = some (30 + 14 * s) := (zL_st hL hs).2.2.2.2.1
  have ha_a_3 : 30 + 14 * s < 183 := by omega
  have hs_a_3 : zs (30 + 14 * s) = (0, 1024) := zs_st7 _ hs
  have slot : ∀ (i t : Nat) (x lvv : Int32) (M1 : zm_T) (H : Heap) (locs : List Loc) (ls : Array Slot), i < 3 → zP_F M M1 s → zE_S M1 (31 + 14 * s + 2 * i) (32 + 14 * s + 2 * i) → ((M1.1 (31 + 14 * s + 2 * i) 1).toInt = 4 → ze_max (fun j => ze_abs (M1.1 (32 + 14 * s + 2 * i) j).toInt) ((M1.1 (31 + 14 * s + 2 * i) 3).toInt.toNat + 1) (M1.1 (31 + 14 * s + 2 * i) 5).toInt) → -16777216 ≤ x.toInt → x.toInt ≤ 16777216 →
      zl_has ls 7 [some (.ref (G.2.2.1 + (23 + 14 * s))), some (.int (nI e)), some (.int hd), some (.int lvv), some (.int (nI t)), some (.int x), some (.int (nI i))] → zm_I G 183 zs M1 s0 H locs →
      (∀ (r : Int32) (M2 : zm_T) (H : Heap) (locs : List Loc) (ls : Array Slot), zE_post M1 M2 (31 + 14 * s + 2 * i) (32 + 14 * s + 2 * i) x r → zl_has ls 7 [some (.ref (G.2.2.1 + (23 + 14 * s))), some (.int (nI e)), some (.int hd), some (.int lvv), some (.int (nI t)), some (.int r), some (.int (nI (i + 1)))] → zm_I G 183 zs M2 s0 H locs → W p0 l e0 (zr_rm 4) s0 m0 ([.ref (G.2.2.1 + (23 + 14 * s)), .int (nI e), .int hd] : List Value).toArray below meth c0 H locs 0 0 (MQ below (va_Qv (fun (M' : zm_T) => zP_post M M' s n e hd) (zm_B G 183 zs) (zm_A G)) ([.ref (G.2.2.1 + (23 + 14 * s)), .int (nI e), .int hd] : List Value).toArray s0 0 0 (zm_A G)) (F0 m0 66 ls [])) → W p0 l e0 (zr_rm 4) s0 m0 ([.ref (G.2.2.1 + (23 + 14 * s)), .int (nI e), .int hd] : List Value).toArray below meth c0 H locs 0 0 (MQ below (va_Qv (fun (M' : zm_T) => zP_post M M' s n e hd) (zm_B G 183 zs) (zm_A G)) ([.ref (G.2.2.1 + (23 + 14 * s)), .int (nI e), .int hd] : List Value).toArray s0 0 0 (zm_A G)) (F0 m0 66 ls []) := by
    intro i t x lvv M1 H locs ls hi hF hS1 hmx hx1 hx2 hl hI kk
    have hL1 : zL M1.2 := by rw [hF.1]; exact hL
    have hv_a_0 : M1.2.1 (23 + 14 * s) 0 = some (24 + 14 * s) := (zL_st hL1 hs).2.1
    have hK1 : zE_K M1 (31 + 14 * s + 2 * i) := by
      unfold zE_K
      rw [hF.2.2 i hi 1 (by decide), hF.2.2 i hi 2 (by decide), hF.2.2 i hi 3 (by decide)]
      exact hE i hi
    refine zr_iload hx hb kd_St_process_66 hl rfl ?_
    refine lv_iconst (v := 3) hx hb kd_St_process_68 (by decide) ?_
    refine lv_icmp_ge (tgt := 92) hx hb kd_St_process_69 (by decide) (fun h69 => absurd h69 (zn_ge (n := 3) rfl hi (by decide))) (fun h69 => ?_)
    refine zr_aload_n hx hb kd_St_process_72 hl rfl ?_
    refine zr_getr hS hK kf_St_11 hI ha_a hs_a hv_a_0 kd_St_process_73 ?_
    refine zr_iload hx hb kd_St_process_76 hl rfl ?_
    refine zr_aald hS hK hI ha_a_0 hs_a_0 (by decide) (by decide) rfl (vp_in_nI hi (by decide)) (by rw [zn_cl (by omega)]; exact (zL_ef hL1 hs hi).1) kd_St_process_78 ?_
    refine zr_iload hx hb kd_St_process_79 hl rfl ?_
    refine zr_ci (zr_runV hS hK (c_Ef_next l G 183 zs M1 (31 + 14 * s + 2 * i) (32 + 14 * s + 2 * i) x (by omega) (zs_ef s hs i hi).1 (zL_ef hL1 hs hi).2 (by omega) (zs_ef s hs i hi).2 (by omega) hK1 hS1 hmx hx1 hx2) km_St_67 hI (by omega) (zs_ef s hs i hi).1 rfl hl.1 (Nat.le_of_ble_eq_true rfl) (by decide) (by decide) kd_St_process_81 rfl) hI (fun r81 M81 H locs hp81 hI => ?_)
    refine zr_istore hx hb kd_St_process_84 hl (by decide) rfl (fun ls hl => ?_)
    refine zr_iinc hx hb kd_St_process_86 hl (by decide) rfl rfl (fun ls hl => ?_)
    refine lv_goto (tgt := 66) hx hb kd_St_process_89 (by decide) ?_
    exact kk _ _ H locs ls hp81 (by rw [nI_succ]; exact hl) hI
  have fini : ∀ (t : Nat) (r3 lw : Int32) (M4 : zm_T) (H : Heap) (locs : List Loc) (ls : Array Slot), t < 1024 → zL M4.2 → zl_has ls 7 [some (.ref (G.2.2.1 + (23 + 14 * s))), some (.int (nI e)), some (.int hd), some (.int lw), some (.int (nI t)), some (.int r3), some (.int (nI 3))] → zm_I G 183 zs M4 s0 H locs →
      (∀ (v : Int32) (H : Heap) (locs : List Loc) (ls : Array Slot), v = (if hd = 0 then 0 else zf_cut (zf_at r3 lw)) → zl_has ls 7 [some (.ref (G.2.2.1 + (23 + 14 * s))), some (.int (nI e)), some (.int hd), some (.int lw), some (.int (nI (t + 1))), some (.int r3), some (.int (nI 3))] → zm_I G 183 zs (zm_ui M4 (30 + 14 * s) t v) s0 H locs → W p0 l e0 (zr_rm 4) s0 m0 ([.ref (G.2.2.1 + (23 + 14 * s)), .int (nI e), .int hd] : List Value).toArray below meth c0 H locs 0 0 (MQ below (va_Qv (fun (M' : zm_T) => zP_post M M' s n e hd) (zm_B G 183 zs) (zm_A G)) ([.ref (G.2.2.1 + (23 + 14 * s)), .int (nI e), .int hd] : List Value).toArray s0 0 0 (zm_A G)) (F0 m0 27 ls [])) → W p0 l e0 (zr_rm 4) s0 m0 ([.ref (G.2.2.1 + (23 + 14 * s)), .int (nI e), .int hd] : List Value).toArray below meth c0 H locs 0 0 (MQ below (va_Qv (fun (M' : zm_T) => zP_post M M' s n e hd) (zm_B G 183 zs) (zm_A G)) ([.ref (G.2.2.1 + (23 + 14 * s)), .int (nI e), .int hd] : List Value).toArray s0 0 0 (zm_A G)) (F0 m0 66 ls []) := by
    intro t r3 lw M4 H locs ls ht hL4 hl hI kk
    have hv_a_3 : M4.2.1 (23 + 14 * s) 3 = some (30 + 14 * s) := (zL_st hL4 hs).2.2.2.2.1
    have et : (nI t).toNatClampNeg = t := zn_cl (by omega)
    refine zr_iload hx hb kd_St_process_66 hl rfl ?_
    refine lv_iconst (v := 3) hx hb kd_St_process_68 (by decide) ?_
    refine lv_icmp_ge (tgt := 92) hx hb kd_St_process_69 (by decide) (fun h69 => ?_) (fun h69 => absurd (by decide) h69)
    refine zr_aload_n hx hb kd_St_process_92 hl rfl ?_
    refine zr_getr hS hK kf_St_28 hI ha_a hs_a hv_a_3 kd_St_process_93 ?_
    refine zr_iload hx hb kd_St_process_96 hl rfl ?_
    refine zr_iload_n hx hb kd_St_process_98 hl rfl ?_
    refine lv_if_eq (tgt := 114) hx hb kd_St_process_99 (by decide) (fun h99 => ?_) (fun h99 => ?_)
    · skip
      refine lv_iconst (v := 0) hx hb kd_St_process_114 (by decide) ?_
      refine zr_iast hS hK hI ha_a_3 hs_a_3 (vp_in_nI ht (by decide)) kd_St_process_115 (fun H locs hI => ?_)
      refine zr_iinc hx hb kd_St_process_116 hl (by decide) rfl rfl (fun ls hl => ?_)
      refine lv_goto (tgt := 27) hx hb kd_St_process_119 (by decide) ?_
      rw [et] at hI
      first
        | exact kk _ H locs ls (by rw [if_pos h99]) (by rw [nI_succ]; exact hl) hI
        | exact kk _ H locs ls (by rw [if_neg h99]) (by rw [nI_succ]; exact hl) hI
    · skip
      refine zr_iload hx hb kd_St_process_102 hl rfl ?_
      refine zr_iload_n hx hb kd_St_process_104 hl rfl ?_
      refine zr_ci (zr_runS hS hK (c_Mx_atLevel l G 183 zs M4 _ _) km_St_53 hI rfl hl.1 (Nat.le_of_ble_eq_true rfl) (by decide) (by decide) kd_St_process_105 rfl) hI (fun r105 M105 H locs hp105 hI => ?_)
      obtain ⟨rfl, hM105⟩ := hp105
      rw [hM105] at hI
      refine zr_ci (zr_runS hS hK (c_Mx_cut l G 183 zs M4 _) km_St_64 hI rfl hl.1 (Nat.le_of_ble_eq_true rfl) (by decide) (by decide) kd_St_process_108 rfl) hI (fun r108 M108 H locs hp108 hI => ?_)
      obtain ⟨rfl, hM108⟩ := hp108
      rw [hM108] at hI
      refine lv_goto (tgt := 115) hx hb kd_St_process_111 (by decide) ?_
      refine zr_iast hS hK hI ha_a_3 hs_a_3 (vp_in_nI ht (by decide)) kd_St_process_115 (fun H locs hI => ?_)
      refine zr_iinc hx hb kd_St_process_116 hl (by decide) rfl rfl (fun ls hl => ?_)
      refine lv_goto (tgt := 27) hx hb kd_St_process_119 (by decide) ?_
      rw [et] at hI
      first
        | exact kk _ H locs ls (by rw [if_pos h99]) (by rw [nI_succ]; exact hl) hI
        | exact kk _ H locs ls (by rw [if_neg h99]) (by rw [nI_succ]; exact hl) hI
  have loop : ∀ (k t : Nat) (M1 : zm_T) (lvv : Int32) (x5 x6 : Option Value) (x1 x2 x3 lv : Nat → Int) (H : Heap) (locs : List Loc) (ls : Array Slot), t + k = e → zP_I M M1 s n t hd x1 x2 x3 lv → (t % 16 ≠ 0 → zP_L M s n ((16 * (t / 16) : Nat) : Int) lvv.toInt) → zl_has ls 7 [some (.ref (G.2.2.1 + (23 + 14 * s))), some (.int (nI e)), some (.int hd), some (.int lvv), some (.int (nI t)), x5, x6] → zm_I G 183 zs M1 s0 H locs → W p0 l e0 (zr_rm 4) s0 m0 ([.ref (G.2.2.1 + (23 + 14 * s)), .int (nI e), .int hd] : List Value).toArray below meth c0 H locs 0 0 (MQ below (va_Qv (fun (M' : zm_T) => zP_post M M' s n e hd) (zm_B G 183 zs) (zm_A G)) ([.ref (G.2.2.1 + (23 + 14 * s)), .int (nI e), .int hd] : List Value).toArray s0 0 0 (zm_A G)) (F0 m0 27 ls []) := by
    intro k
    induction k with
    | zero =>
      intro t M1 lvv x5 x6 x1 x2 x3 lv H locs ls ht hP hlv hl hI
      obtain rfl : t = e := by omega
      refine zr_iload hx hb kd_St_process_27 hl rfl ?_
      refine zr_iload_n hx hb kd_St_process_29 hl rfl ?_
      refine lv_icmp_ge (tgt := 122) hx hb kd_St_process_30 (by decide) (fun h30 => ?_) (fun h30 => absurd (Int32.le_refl _) h30)
      exact zr_vret hS hK hlk hr hI kd_St_process_122 (⟨hP.1, hP.2.1, x1, x2, x3, lv, ze_J_S hP.2.2.2.1, ze_J_S hP.2.2.2.2.1, ze_J_S hP.2.2.2.2.2.1, hP.2.2.2.2.2.2⟩)
    | succ k ih =>
      intro t M1 lvv x5 x6 x1 x2 x3 lv H locs ls ht hP hlv hl hI
      obtain ⟨hF, hrow, hES, hJ0, hJ1, hJ2, hout⟩ := hP
      have hL1 : zL M1.2 := by rw [hF.1]; exact hL
      have hv_a_1 : M1.2.1 (23 + 14 * s) 1 = some (25 + 14 * s) := (zL_st hL1 hs).2.2.1
      have hv_a_3 : M1.2.1 (23 + 14 * s) 3 = some (30 + 14 * s) := (zL_st hL1 hs).2.2.2.2.1
      have hfc : ∀ c j, 25 + 14 * s ≤ c → c ≤ 28 + 14 * s → M1.1 c j = M.1 c j := fun c j h1 h2 => hF.2.1 c j (by omega)
      have hFd1 := zF_M_c hfc hFd
      have et : (nI t).toNatClampNeg = t := zn_cl (by omega)
      have vt : vp_in (nI t) 1024 := vp_in_nI (by omega) (by decide)
      have ert : M1.1 (30 + 14 * s) t = M.1 (30 + 14 * s) t := hrow t (Nat.le_refl _)
      have kd : ∀ i, i < 3 → ∀ (Mx : zm_T), zP_F M Mx s → ∀ {u v : Nat → Int}, zP_J M Mx s i t u v → ((Mx.1 (31 + 14 * s + 2 * i) 1).toInt = 4 → ze_max (fun j => ze_abs (Mx.1 (32 + 14 * s + 2 * i) j).toInt) ((Mx.1 (31 + 14 * s + 2 * i) 3).toInt.toNat + 1) (Mx.1 (31 + 14 * s + 2 * i) 5).toInt) := by
        intro i hi Mx hFx u v hJ hk
        rw [hFx.2.2 i hi 1 (by decide)] at hk
        rw [hFx.2.2 i hi 3 (by decide)]
        exact ze_J_4 hJ hk
      have mid : ∀ (lw : Int32) (H : Heap) (locs : List Loc) (ls : Array Slot), zP_L M s n ((16 * (t / 16) : Nat) : Int) lw.toInt → zl_has ls 7 [some (.ref (G.2.2.1 + (23 + 14 * s))), some (.int (nI e)), some (.int hd), some (.int lw), some (.int (nI t)), x5, x6] → zm_I G 183 zs M1 s0 H locs → W p0 l e0 (zr_rm 4) s0 m0 ([.ref (G.2.2.1 + (23 + 14 * s)), .int (nI e), .int hd] : List Value).toArray below meth c0 H locs 0 0 (MQ below (va_Qv (fun (M' : zm_T) => zP_post M M' s n e hd) (zm_B G 183 zs) (zm_A G)) ([.ref (G.2.2.1 + (23 + 14 * s)), .int (nI e), .int hd] : List Value).toArray s0 0 0 (zm_A G)) (F0 m0 51 ls []) := by
        intro lw H locs ls hlw hl hI
        have hb0 := zi_cut_b (M.1 (30 + 14 * s) t).toInt
        have hx0 : (zf_cut (M.1 (30 + 14 * s) t)).toInt = zi_cut (M.1 (30 + 14 * s) t).toInt := zf_cut_eq _
        have hlb := zF_lev_b hFd.2 hlw
        refine zr_aload_n hx hb kd_St_process_51 hl rfl ?_
        refine zr_getr hS hK kf_St_28 hI ha_a hs_a hv_a_3 kd_St_process_52 ?_
        refine zr_iload hx hb kd_St_process_55 hl rfl ?_
        refine zr_iald hS hK hI ha_a_3 hs_a_3 vt kd_St_process_57 ?_
        refine zr_ci (zr_runS hS hK (c_Mx_cut l G 183 zs M1 _) km_St_64 hI rfl hl.1 (Nat.le_of_ble_eq_true rfl) (by decide) (by decide) kd_St_process_58 rfl) hI (fun r58 M58 H locs hp58 hI => ?_)
        obtain ⟨rfl, hM58⟩ := hp58
        rw [hM58] at hI
        refine zr_istore hx hb kd_St_process_61 hl (by decide) rfl (fun ls hl => ?_)
        refine lv_iconst (v := 0) hx hb kd_St_process_63 (by decide) ?_
        refine zr_istore hx hb kd_St_process_64 hl (by decide) rfl (fun ls hl => ?_)
        rw [et, ert] at hl
        refine slot 0 t _ lw M1 H locs ls (by decide) hF (hES 0 (by decide)) (kd 0 (by decide) M1 hF hJ0) (by rw [hx0]; exact hb0.1) (by rw [hx0]; exact hb0.2) hl hI (fun r1 M2 H locs ls hp1 hl hI => ?_)
        have hF2 := zP_F_e (by decide) hF hp1
        have hJ1' := zP_J_o (k := 1) (by decide) hp1 hJ1
        have hJ2' := zP_J_o (k := 2) (by decide) hp1 hJ2
        have hJ0' := zP_J_s (by decide) (hE 0 (by decide)) hF (u := fun t => zi_cut (M.1 (30 + 14 * s) t).toInt) hx0 hp1 hJ0
        refine slot 1 t _ lw M2 H locs ls (by decide) hF2 (zE_S_o (k := 1) (by decide) hp1 (hES 1 (by decide))) (kd 1 (by decide) M2 hF2 hJ1') hp1.2.2.2.2.2.1 hp1.2.2.2.2.2.2 hl hI (fun r2 M3 H locs ls hp2 hl hI => ?_)
        have hF3 := zP_F_e (by decide) hF2 hp2
        have hJ2'' := zP_J_o (k := 2) (by decide) hp2 hJ2'
        have hJ0'' := zP_J_o (k := 0) (by decide) hp2 hJ0'
        have hJ1x : zP_J M M2 s 1 t (zi_up x1 t r1.toInt) x2 := ze_J_x (fun j hj => zi_up_lt hj) hJ1'
        have hJ1'' := zP_J_s (by decide) (hE 1 (by decide)) hF2 (by rw [zi_up_at]) hp2 hJ1x
        refine slot 2 t _ lw M3 H locs ls (by decide) hF3 (zE_S_o (k := 2) (by decide) hp2 (zE_S_o (k := 2) (by decide) hp1 (hES 2 (by decide)))) (kd 2 (by decide) M3 hF3 hJ2'') hp2.2.2.2.2.2.1 hp2.2.2.2.2.2.2 hl hI (fun r3 M4 H locs ls hp3 hl hI => ?_)
        have hF4 := zP_F_e (by decide) hF3 hp3
        have hJ0f := zP_J_o (k := 0) (by decide) hp3 hJ0''
        have hJ1f := zP_J_o (k := 1) (by decide) hp3 hJ1''
        have hJ2x : zP_J M M3 s 2 t (zi_up x2 t r2.toInt) x3 := ze_J_x (fun j hj => zi_up_lt hj) hJ2''
        have hJ2f := zP_J_s (by decide) (hE 2 (by decide)) hF3 (by rw [zi_up_at]) hp3 hJ2x
        have hL4 : zL M4.2 := by rw [hF4.1]; exact hL
        have hv_a_3 : M4.2.1 (23 + 14 * s) 3 = some (30 + 14 * s) := (zL_st hL4 hs).2.2.2.2.1
        have hrow4 : ∀ j, M4.1 (30 + 14 * s) j = M1.1 (30 + 14 * s) j := fun j => by rw [hp3.2.1 _ _ (by omega) (by omega), hp2.2.1 _ _ (by omega) (by omega), hp1.2.1 _ _ (by omega) (by omega)]
        have hES4 : ∀ i, i < 3 → zE_S M4 (31 + 14 * s + 2 * i) (32 + 14 * s + 2 * i) := by
          intro i hi
          rcases (show i = 0 ∨ i = 1 ∨ i = 2 by omega) with rfl | rfl | rfl
          · exact zE_S_o (k := 0) (by decide) hp3 (zE_S_o (k := 0) (by decide) hp2 hp1.2.2.2.1)
          · exact zE_S_o (k := 1) (by decide) hp3 hp2.2.2.2.1
          · exact hp3.2.2.2.1
        have fin : ∀ (v : Int32), v.toInt = (if hd = 0 then 0 else zi_cut (r3.toInt * lw.toInt / 256)) → zP_I M (zm_ui M4 (30 + 14 * s) t v) s n (t + 1) hd (zi_up x1 t r1.toInt) (zi_up x2 t r2.toInt) (zi_up x3 t r3.toInt) (zi_up lv t lw.toInt) := by
          intro v hv
          have hne : ∀ c j, c ≠ 30 + 14 * s → (zm_ui M4 (30 + 14 * s) t v).1 c j = M4.1 c j := fun c j hc => zm_ui_ne (Or.inl hc)
          have hJm : ∀ i, i < 3 → ∀ {u w : Nat → Int}, zP_J M M4 s i (t + 1) u w → zP_J M (zm_ui M4 (30 + 14 * s) t v) s i (t + 1) u w := by
            intro i hi u w hJ
            unfold zP_J at hJ ⊢
            have e : (fun j => ((zm_ui M4 (30 + 14 * s) t v).1 (32 + 14 * s + 2 * i) j).toInt) = fun j => (M4.1 (32 + 14 * s + 2 * i) j).toInt := by funext j; rw [hne _ _ (by omega)]
            rw [hne _ _ (by omega), hne _ _ (by omega), e]
            exact hJ
          refine ⟨⟨hF4.1, fun c j hc => by rw [hne c j (by omega)]; exact hF4.2.1 c j hc, fun i hi j hj => by rw [hne _ _ (by omega)]; exact hF4.2.2 i hi j hj⟩, fun j hj => by rw [zm_ui_ne (Or.inr (by omega)), hrow4]; exact hrow j (by omega), fun i hi => ?_, hJm 0 (by decide) hJ0f, hJm 1 (by decide) hJ1f, hJm 2 (by decide) hJ2f, ?_⟩
          · have hS4 := hES4 i hi
            unfold zE_S at hS4 ⊢
            have e : (fun j => ((zm_ui M4 (30 + 14 * s) t v).1 (32 + 14 * s + 2 * i) j).toInt) = fun j => (M4.1 (32 + 14 * s + 2 * i) j).toInt := by funext j; rw [hne _ _ (by omega)]
            rw [hne _ _ (by omega), hne _ _ (by omega), hne _ _ (by omega), hne _ _ (by omega), hne _ _ (by omega), e]
            exact hS4
          · refine ze_all_s (fun j hj => ?_) ?_
            · rw [zi_up_lt hj, zi_up_lt hj, zm_ui_ne (Or.inr (by omega)), hrow4]
              exact hout j hj
            · rw [zi_up_at, zi_up_at, zm_ui_at]
              exact ⟨hlw, hv⟩
        have hlvn : (t + 1) % 16 ≠ 0 → zP_L M s n ((16 * ((t + 1) / 16) : Nat) : Int) lw.toInt := fun h => by
          rw [show (t + 1) / 16 = t / 16 by omega]; exact hlw
        have hat : (zf_at r3 lw).toInt = r3.toInt * lw.toInt / 256 := zf_at_eq (by have := hp3.2.2.2.2.2.1; omega) (by have := hp3.2.2.2.2.2.2; omega) hlb.1 hlb.2
        refine fini t r3 lw M4 H locs ls (by omega) hL4 hl hI (fun v H locs ls hv hl hI => ?_)
        refine ih (t + 1) _ lw _ _ _ _ _ _ H locs ls (by omega) (fin v ?_) hlvn hl hI
        rw [hv]
        by_cases h0 : hd = 0
        · rw [if_pos h0, if_pos h0]; rfl
        · rw [if_neg h0, if_neg h0, zf_cut_eq, hat]
      have er := zn_rem16 t (by omega)
      refine zr_iload hx hb kd_St_process_27 hl rfl ?_
      refine zr_iload_n hx hb kd_St_process_29 hl rfl ?_
      refine lv_icmp_ge (tgt := 122) hx hb kd_St_process_30 (by decide) (fun h30 => absurd h30 (nI_ge (by omega) (by omega))) (fun h30 => ?_)
      refine zr_iload hx hb kd_St_process_33 hl rfl ?_
      refine lv_bipush (v := 16) hx hb kd_St_process_35 (by decide) ?_
      refine lv_irem hx hb kd_St_process_37 (by decide) ?_
      refine lv_if_ne (tgt := 51) hx hb kd_St_process_38 (by decide) (fun h38 => ?_) (fun h38 => ?_)
      · skip
        rw [er] at h38
        first
          | exact mid _ H locs ls (hlv (fun h => h38 (by rw [h]; rfl))) hl hI
          | exact mid _ H locs ls (zP_L_c hfc (by
              have h0 : t % 16 = 0 := nI_inj h38 (by omega) (by decide)
              rw [show 16 * (t / 16) = t by omega]
              exact hp47)) hl hI
      · skip
        refine zr_aload_n hx hb kd_St_process_41 hl rfl ?_
        refine zr_getr hS hK kf_St_20 hI ha_a hs_a hv_a_1 kd_St_process_42 ?_
        refine zr_iload hx hb kd_St_process_45 hl rfl ?_
        refine zr_ci (zr_runV hS hK (c_Fa_levelAt l G 183 zs M1 (25 + 14 * s) (26 + 14 * s) (27 + 14 * s) (28 + 14 * s) n t (by omega) (zs_st2 _ hs) (zL_st hL1 hs).2.2.2.2.2.1 (by omega) (zs_st3 _ hs) (zL_st hL1 hs).2.2.2.2.2.2.1 (by omega) (zs_st4 _ hs) (zL_st hL1 hs).2.2.2.2.2.2.2 (by omega) (zs_st5 _ hs) hFd1 (by omega)) km_St_60 hI (by omega) (zs_st2 _ hs) rfl hl.1 (Nat.le_of_ble_eq_true rfl) (by decide) (by decide) kd_St_process_47 rfl) hI (fun r47 M47 H locs hp47 hI => ?_)
        obtain ⟨hp47, hM47⟩ := hp47
        rw [hM47] at hI
        refine zr_istore_n hx hb kd_St_process_50 hl (by decide) rfl (fun ls hl => ?_)
        rw [er] at h38
        first
          | exact mid _ H locs ls (hlv (fun h => h38 (by rw [h]; rfl))) hl hI
          | exact mid _ H locs ls (zP_L_c hfc (by
              have h0 : t % 16 = 0 := nI_inj h38 (by omega) (by decide)
              rw [show 16 * (t / 16) = t by omega]
              exact hp47)) hl hI
  have hF0 : zP_F M (zf_fg M s 3) s := ⟨zf_fg_2 M s 3, fun c j hc => zf_fg_o (by omega) 3 (by decide), fun i hi j hj => zf_fg_p hi hj 3 (by decide)⟩
  have hI0 : zP_I M (zf_fg M s 3) s n 0 hd (fun _ => 0) (fun _ => 0) (fun _ => 0) (fun _ => 0) := by
    have hz := fun i hi => zf_fg_z (M := M) (s := s) (e := i) hi 3 (by decide) hi
    have hj : ∀ i, i < 3 → ∀ u v, zP_J M (zf_fg M s 3) s i 0 u v := by
      intro i hi u v
      obtain ⟨z1, z2, z3⟩ := hz i hi
      unfold zP_J
      rw [z1, z2]
      exact ze_J_0 (fun j hj => by rw [z3 j hj]; rfl) (fun h => ⟨((hE i hi).2.2.1 h).1, ((hE i hi).2.2.1 h).2.1⟩) (fun h => ⟨((hE i hi).2.2.2.1 h).2.2.1, ((hE i hi).2.2.2.1 h).2.2.2⟩)
    refine ⟨hF0, fun j _ => zf_fg_o (by omega) 3 (by decide), fun i hi => ?_, hj 0 (by decide) _ _, hj 1 (by decide) _ _, hj 2 (by decide) _ _, fun j hj => by omega⟩
    obtain ⟨z1, z2, z3⟩ := hz i hi
    unfold zE_S
    rw [z1, z2, hF0.2.2 i hi 1 (by decide), hF0.2.2 i hi 2 (by decide), hF0.2.2 i hi 3 (by decide), zn_0]
    refine ⟨fun j hj => by dsimp only; rw [z3 j hj, zn_0]; omega, by omega, by omega, fun h => ?_, fun h => ?_, by omega, by omega, fun _ => by omega, fun _ => by omega⟩
    · have := ((hE i hi).2.2.1 h).1; omega
    · have := ((hE i hi).2.2.2.1 h).2.2.1; omega
  have fg : ∀ (k i : Nat) (H : Heap) (locs : List Loc) (ls : Array Slot), i + k = 3 → zl_has ls 7 [some (.ref (G.2.2.1 + (23 + 14 * s))), some (.int (nI e)), some (.int hd), some (.int (nI i)), none, none, none] → zm_I G 183 zs (zf_fg M s i) s0 H locs → W p0 l e0 (zr_rm 4) s0 m0 ([.ref (G.2.2.1 + (23 + 14 * s)), .int (nI e), .int hd] : List Value).toArray below meth c0 H locs 0 0 (MQ below (va_Qv (fun (M' : zm_T) => zP_post M M' s n e hd) (zm_B G 183 zs) (zm_A G)) ([.ref (G.2.2.1 + (23 + 14 * s)), .int (nI e), .int hd] : List Value).toArray s0 0 0 (zm_A G)) (F0 m0 2 ls []) := by
    intro k
    induction k with
    | zero =>
      intro i H locs ls hi hl hI
      obtain rfl : i = 3 := by omega
      refine zr_iload_n hx hb kd_St_process_2 hl rfl ?_
      refine lv_iconst (v := 3) hx hb kd_St_process_3 (by decide) ?_
      refine lv_icmp_ge (tgt := 22) hx hb kd_St_process_4 (by decide) (fun h4 => ?_) (fun h4 => absurd (by decide) h4)
      refine lv_iconst (v := 0) hx hb kd_St_process_22 (by decide) ?_
      refine zr_istore_n hx hb kd_St_process_23 hl (by decide) rfl (fun ls hl => ?_)
      refine lv_iconst (v := 0) hx hb kd_St_process_24 (by decide) ?_
      refine zr_istore hx hb kd_St_process_25 hl (by decide) rfl (fun ls hl => ?_)
      exact loop e 0 _ 0 none none _ _ _ _ H locs ls (by omega) hI0 (fun h => absurd rfl h) hl hI
    | succ k ih =>
      intro i H locs ls hi hl hI
      have hLi : zL (zf_fg M s i).2 := by rw [zf_fg_2]; exact hL
      have hv_a_0 : (zf_fg M s i).2.1 (23 + 14 * s) 0 = some (24 + 14 * s) := (zL_st hLi hs).2.1
      refine zr_iload_n hx hb kd_St_process_2 hl rfl ?_
      refine lv_iconst (v := 3) hx hb kd_St_process_3 (by decide) ?_
      refine lv_icmp_ge (tgt := 22) hx hb kd_St_process_4 (by decide) (fun h4 => absurd h4 (zn_ge (n := 3) rfl (by omega) (by decide))) (fun h4 => ?_)
      refine zr_aload_n hx hb kd_St_process_7 hl rfl ?_
      refine zr_getr hS hK kf_St_11 hI ha_a hs_a hv_a_0 kd_St_process_8 ?_
      refine zr_iload_n hx hb kd_St_process_11 hl rfl ?_
      refine zr_aald hS hK hI ha_a_0 hs_a_0 (by decide) (by decide) rfl (vp_in_nI (by omega) (by decide)) (by rw [zn_cl (by omega)]; exact (zL_ef hLi hs (by omega)).1) kd_St_process_12 ?_
      refine zr_cv (zr_runV hS hK (c_Ef_forget l G 183 zs (zf_fg M s i) (31 + 14 * s + 2 * i) (32 + 14 * s + 2 * i) (by omega) (zs_ef s hs i (by omega)).1 (zL_ef hLi hs (by omega)).2 (by omega) (zs_ef s hs i (by omega)).2) km_St_57 hI (by omega) (zs_ef s hs i (by omega)).1 rfl hl.1 (Nat.le_of_ble_eq_true rfl) (by decide) (by decide) kd_St_process_13 rfl) hI (fun M13 H locs hp13 hI => ?_)
      rw [hp13] at hI
      refine zr_iinc hx hb kd_St_process_16 hl (by decide) rfl rfl (fun ls hl => ?_)
      refine lv_goto (tgt := 2) hx hb kd_St_process_19 (by decide) ?_
      exact ih (i + 1) H locs ls (by omega) (by rw [nI_succ]; exact hl) hI
  refine lv_iconst (v := 0) hx hb kd_St_process_0 (by decide) ?_
  refine zr_istore_n hx hb kd_St_process_1 hl (by decide) rfl (fun ls hl => ?_)
  exact fg 3 0 _ _ _ (by omega) hl hI

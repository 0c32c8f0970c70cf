/-! Constructors: take, clip, effect, fader. -/
set_option maxRecDepth 100000 in
set_option maxHeartbeats 4000000 in
theorem c_Ef_init (l : Launch) (G : zg_T) (M : zm_T) (a nc : Nat) (ha : a < nc) (hs_a : zs a = (10 + 2, 0)) (hz : zs nc = (0, 32)) (h0 : zc_0 (nc) M) : Met l ky_Ef_init (zr_ws ky_Ef_init kc_Ef_init 1 none) (zc_rm 1 (1) (32)) (va_Pc [.ref (G.2.2.1 + a)] (zc_B G (nc) M)) (va_Qv (fun (M' : zm_T) => M' = zm_ur M a 0 (some nc)) (zm_B G (nc + 1) zs) (zm_A G)) (1) (32) (zm_A G) := by
  refine zc_met (by decide +kernel) (Nat.le_of_ble_eq_true rfl) ?_
  intro p0 e0 s0 m0 below meth c0 ls hS hK hAO hsz hname hlk hr hl hI
  have hx := hS.1
  have hb := hS.2.1
  have hl : zl_has ls 1 [some (.ref (G.2.2.1 + a))] := hl
  refine zr_aload_n hx hb kd_Ef_init_0 hl rfl ?_
  refine zc_obj hS (zw_mem (i := 162) (by decide +kernel) (by decide +kernel)) hl.1 (by decide) kd_Ef_init_1 ?_
  refine zr_aload_n hx hb kd_Ef_init_4 hl rfl ?_
  refine lv_bipush (v := 32) hx hb kd_Ef_init_5 (by decide) ?_
  refine zc_newa hS hK hI hsz h0 (hz) (Or.inl ⟨rfl, rfl⟩) (by decide) rfl (by decide) (by first | decide | (simp only [zc_rm]; omega)) (by first | decide | (simp only [zc_rm]; omega)) kd_Ef_init_7 (fun H hI => ?_)
  have hsz := zc_sz hsz 1
  have h0 := h0.up (Nat.le_succ _)
  refine zc_put (k := 0) (ty := (.array .int)) hS hK hname ⟨kt_2, 6, kv_2, rfl, ki_2, ko_2, kn_2, by decide, by decide +kernel, rfl, by decide +kernel, rfl, zw_mem (i := 163) (by decide +kernel) (by decide +kernel)⟩ hI (by omega) (hs_a) (fun _ => rfl) (fun _ => rfl) kd_Ef_init_9 (fun H locs hI => ?_)
  have h0 := zc_0.ofur hI h0 (by omega)
  exact zc_vret hS hK hlk hr hI kd_Ef_init_12 (rfl)
set_option maxRecDepth 100000 in
set_option maxHeartbeats 4000000 in
theorem c_Ta_init (l : Launch) (G : zg_T) (M : zm_T) (a nc : Nat) (ha : a < nc) (hs_a : zs a = (10 + 6, 0)) (hz : zs nc = (0, 64)) (h0 : zc_0 (nc) M) : Met l ky_Ta_init (zr_ws ky_Ta_init kc_Ta_init 1 none) (zc_rm 1 (1) (64)) (va_Pc [.ref (G.2.2.1 + a)] (zc_B G (nc) M)) (va_Qv (fun (M' : zm_T) => M' = zm_ur M a 0 (some nc)) (zm_B G (nc + 1) zs) (zm_A G)) (1) (64) (zm_A G) := by
  refine zc_met (by decide +kernel) (Nat.le_of_ble_eq_true rfl) ?_
  intro p0 e0 s0 m0 below meth c0 ls hS hK hAO hsz hname hlk hr hl hI
  have hx := hS.1
  have hb := hS.2.1
  have hl : zl_has ls 1 [some (.ref (G.2.2.1 + a))] := hl
  refine zr_aload_n hx hb kd_Ta_init_0 hl rfl ?_
  refine zc_obj hS (zw_mem (i := 236) (by decide +kernel) (by decide +kernel)) hl.1 (by decide) kd_Ta_init_1 ?_
  refine zr_aload_n hx hb kd_Ta_init_4 hl rfl ?_
  refine lv_bipush (v := 64) hx hb kd_Ta_init_5 (by decide) ?_
  refine zc_newa hS hK hI hsz h0 (hz) (Or.inl ⟨rfl, rfl⟩) (by decide) rfl (by decide) (by first | decide | (simp only [zc_rm]; omega)) (by first | decide | (simp only [zc_rm]; omega)) kd_Ta_init_7 (fun H hI => ?_)
  have hsz := zc_sz hsz 1
  have h0 := h0.up (Nat.le_succ _)
  refine zc_put (k := 0) (ty := (.array .int)) hS hK hname ⟨kt_6, 2, kv_6, rfl, ki_6, ko_6, kn_6, by decide, by decide +kernel, rfl, by decide +kernel, rfl, zw_mem (i := 237) (by decide +kernel) (by decide +kernel)⟩ hI (by omega) (hs_a) (fun _ => rfl) (fun _ => rfl) kd_Ta_init_9 (fun H locs hI => ?_)
  have h0 := zc_0.ofur hI h0 (by omega)
  exact zc_vret hS hK hlk hr hI kd_Ta_init_12 (rfl)
set_option maxRecDepth 100000 in
set_option maxHeartbeats 4000000 in
theorem c_Cl_init (l : Launch) (G : zg_T) (M : zm_T) (a nc : Nat) (h0 : zc_0 (nc) M) : Met l ky_Cl_init (zr_ws ky_Cl_init kc_Cl_init 1 none) (zc_rm 1 (0) (0)) (va_Pc [.ref (G.2.2.1 + a)] (zc_B G (nc) M)) (va_Qv (fun (M' : zm_T) => M' = M) (zm_B G (nc + 0) zs) (zm_A G)) (0) (0) (zm_A G) := by
  refine zc_met (by decide +kernel) (Nat.le_of_ble_eq_true rfl) ?_
  intro p0 e0 s0 m0 below meth c0 ls hS hK hAO hsz hname hlk hr hl hI
  have hx := hS.1
  have hb := hS.2.1
  have hl : zl_has ls 1 [some (.ref (G.2.2.1 + a))] := hl
  refine zr_aload_n hx hb kd_Cl_init_0 hl rfl ?_
  refine zc_obj hS (zw_mem (i := 82) (by decide +kernel) (by decide +kernel)) hl.1 (by decide) kd_Cl_init_1 ?_
  exact zc_vret hS hK hlk hr hI kd_Cl_init_4 (rfl)
def zc_F (M : zm_T) (a : Nat) : zm_T := zm_ui (zm_ur (zm_ur (zm_ur M a 0 (some (a + 1))) a 1 (some (a + 2))) a 2 (some (a + 3))) a 4 256
set_option maxRecDepth 100000 in
set_option maxHeartbeats 4000000 in
theorem c_Fa_init (l : Launch) (G : zg_T) (M : zm_T) (a : Nat) (hs_a : zs a = (10 + 3, 0)) (hz1 : zs (a + 1) = (0, 8)) (hz2 : zs (a + 2) = (0, 8)) (hz3 : zs (a + 3) = (1, 8)) (h0 : zc_0 (a + 1) M) : Met l ky_Fa_init (zr_ws ky_Fa_init kc_Fa_init 1 none) (zc_rm 1 (3) (24)) (va_Pc [.ref (G.2.2.1 + a)] (zc_B G (a + 1) M)) (va_Qv (fun (M' : zm_T) => M' = zc_F M a) (zm_B G (a + 1 + 3) zs) (zm_A G)) (3) (24) (zm_A G) := by
  refine zc_met (by decide +kernel) (Nat.le_of_ble_eq_true rfl) ?_
  intro p0 e0 s0 m0 below meth c0 ls hS hK hAO hsz hname hlk hr hl hI
  have hx := hS.1
  have hb := hS.2.1
  have hl : zl_has ls 1 [some (.ref (G.2.2.1 + a))] := hl
  refine zr_aload_n hx hb kd_Fa_init_0 hl rfl ?_
  refine zc_obj hS (zw_mem (i := 138) (by decide +kernel) (by decide +kernel)) hl.1 (by decide) kd_Fa_init_1 ?_
  refine zr_aload_n hx hb kd_Fa_init_4 hl rfl ?_
  refine lv_bipush (v := 8) hx hb kd_Fa_init_5 (by decide) ?_
  refine zc_newa hS hK hI hsz h0 (hz1) (Or.inl ⟨rfl, rfl⟩) (by decide) rfl (by decide) (by first | decide | (simp only [zc_rm]; omega)) (by first | decide | (simp only [zc_rm]; omega)) kd_Fa_init_7 (fun H hI => ?_)
  have hsz := zc_sz hsz 1
  have h0 := h0.up (Nat.le_succ _)
  refine zc_put (k := 0) (ty := (.array .int)) hS hK hname ⟨kt_3, 5, kv_3, rfl, ki_3, ko_3, kn_3, by decide, by decide +kernel, rfl, by decide +kernel, rfl, zw_mem (i := 139) (by decide +kernel) (by decide +kernel)⟩ hI (by omega) (hs_a) (fun _ => rfl) (fun _ => rfl) kd_Fa_init_9 (fun H locs hI => ?_)
  have h0 := zc_0.ofur hI h0 (by omega)
  refine zr_aload_n hx hb kd_Fa_init_12 hl rfl ?_
  refine lv_bipush (v := 8) hx hb kd_Fa_init_13 (by decide) ?_
  refine zc_newa hS hK hI hsz h0 (hz2) (Or.inl ⟨rfl, rfl⟩) (by decide) rfl (by decide) (by first | decide | (simp only [zc_rm]; omega)) (by first | decide | (simp only [zc_rm]; omega)) kd_Fa_init_15 (fun H hI => ?_)
  have hsz := zc_sz hsz 1
  have h0 := h0.up (Nat.le_succ _)
  refine zc_put (k := 1) (ty := (.array .int)) hS hK hname ⟨kt_3, 5, kv_3, rfl, ki_3, ko_3, kn_3, by decide, by decide +kernel, rfl, by decide +kernel, rfl, zw_mem (i := 140) (by decide +kernel) (by decide +kernel)⟩ hI (by omega) (hs_a) (fun _ => rfl) (fun _ => rfl) kd_Fa_init_17 (fun H locs hI => ?_)
  have h0 := zc_0.ofur hI h0 (by omega)
  refine zr_aload_n hx hb kd_Fa_init_20 hl rfl ?_
  refine lv_bipush (v := 8) hx hb kd_Fa_init_21 (by decide) ?_
  refine zc_newa hS hK hI hsz h0 (hz3) (Or.inr (Or.inl ⟨rfl, rfl⟩)) (by decide) rfl (by decide) (by first | decide | (simp only [zc_rm]; omega)) (by first | decide | (simp only [zc_rm]; omega)) kd_Fa_init_23 (fun H hI => ?_)
  have hsz := zc_sz hsz 1
  have h0 := h0.up (Nat.le_succ _)
  refine zc_put (k := 2) (ty := (.array .boolean)) hS hK hname ⟨kt_3, 5, kv_3, rfl, ki_3, ko_3, kn_3, by decide, by decide +kernel, rfl, by decide +kernel, rfl, zw_mem (i := 141) (by decide +kernel) (by decide +kernel)⟩ hI (by omega) (hs_a) (fun _ => rfl) (fun _ => rfl) kd_Fa_init_25 (fun H locs hI => ?_)
  have h0 := zc_0.ofur hI h0 (by omega)
  refine zr_aload_n hx hb kd_Fa_init_28 hl rfl ?_
  refine lv_sipush (v := 256) hx hb kd_Fa_init_29 (by decide) ?_
  refine zr_puti hS hK kf_Fa_22 hI (by omega) hs_a rfl rfl kd_Fa_init_32 (fun H locs hI => ?_)
  exact zc_vret hS hK hlk hr hI kd_Fa_init_35 (rfl)

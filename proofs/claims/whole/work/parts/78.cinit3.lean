/-! The mixer's constructor. -/
/-- the mixer, made at place 0, ahead of its takes -/
def zc_m (M : zm_T) : zm_T := zm_ur (zc_d (zm_ur (zm_ur (zm_ur (zc_c (zm_ur (zm_ur M 0 0 (some 1)) 2 0 (some 3)) 16) 0 1 (some 2)) 20 0 (some 21)) 20 1 (some 22)) 8) 0 2 (some 20)
set_option maxRecDepth 100000 in
set_option maxHeartbeats 4000000 in
theorem c_Mx_init (l : Launch) (G : zg_T) (M : zm_T)  (h0 : zc_0 (1) M) : Met l ky_Mx_init (zr_ws ky_Mx_init kc_Mx_init 2 none) (zc_rm 5 (150) (10195)) (va_Pc [.ref (G.2.2.1 + 0)] (zc_B G (1) M)) (va_Qv (fun (M' : zm_T) => M' = zc_t (zc_m M) 8) (zm_B G (1 + 150) zs) (zm_A G)) (150) (10195) (zm_A G) := by
  refine zc_met (by decide +kernel) (Nat.le_of_ble_eq_true rfl) ?_
  intro p0 e0 s0 m0 below meth c0 ls hS hK hAO hsz hname hlk hr hl hI
  have hx := hS.1
  have hb := hS.2.1
  have hl : zl_has ls 2 [some (.ref (G.2.2.1 + 0)), none] := hl
  have loop : ∀ (k i : Nat) (H : Heap) (locs : List Loc) (ls : Array Slot), i + k = 8 → zl_has ls 2 [some (.ref (G.2.2.1 + 0)), some (.int (nI i))] → zc_0 (135 + 2 * i) (zc_t (zc_m M) i) → s0.heap.size + (134 + 2 * i) = G.2.2.1 + (135 + 2 * i) → zm_I G (135 + 2 * i) zs (zc_t (zc_m M) i) s0 H locs → W p0 l e0 (zc_rm 5 (150) (10195)) s0 m0 ([.ref (G.2.2.1 + 0)] : List Value).toArray below meth c0 H locs (134 + 2 * i) (9667 + 66 * i) (MQ below (va_Qv (fun (M' : zm_T) => M' = zc_t (zc_m M) 8) (zm_B G (1 + 150) zs) (zm_A G)) ([.ref (G.2.2.1 + 0)] : List Value).toArray s0 (150) (10195) (zm_A G)) (F0 m0 37 ls []) := by
    intro k
    induction k with
    | zero =>
      intro i H locs ls hi hl h0 hsz hI
      obtain rfl : i = 8 := by omega
      refine zr_iload_n hx hb kd_Mx_init_37 hl rfl ?_
      refine lv_bipush (v := 8) hx hb kd_Mx_init_38 (by decide) ?_
      refine lv_icmp_ge (tgt := 62) hx hb kd_Mx_init_40 (by decide) (fun h40 => ?_) (fun h40 => absurd (by decide) h40)
      exact zc_vret hS hK hlk hr hI kd_Mx_init_62 (rfl)
    | succ k ih =>
      intro i H locs ls hi hl h0 hsz hI
      have ei : (nI i).toNatClampNeg = i := zn_cl (by omega)
      have hr0 : (zc_t (zc_m M) i).2.1 0 0 = some 1 := by
        rw [zc_t_r, zc_m, zm_ur_ne (Or.inr (by decide)), zc_d_r (by decide), zm_ur_ne (Or.inl (by decide)), zm_ur_ne (Or.inl (by decide)), zm_ur_ne (Or.inr (by decide)), zc_c_r (by decide), zm_ur_ne (Or.inl (by decide)), zm_ur_at]
      refine zr_iload_n hx hb kd_Mx_init_37 hl rfl ?_
      refine lv_bipush (v := 8) hx hb kd_Mx_init_38 (by decide) ?_
      refine lv_icmp_ge (tgt := 62) hx hb kd_Mx_init_40 (by decide) (fun h40 => absurd h40 (zn_ge (n := 8) rfl (by omega) (by decide))) (fun h40 => ?_)
      refine zr_aload_n hx hb kd_Mx_init_43 hl rfl ?_
      refine zr_getr hS hK kf_Mx_11 hI (by omega) (by decide +kernel : zs 0 = (10 + 7, 0)) hr0 kd_Mx_init_44 ?_
      refine zr_iload_n hx hb kd_Mx_init_47 hl rfl ?_
      refine zc_new hS hK ⟨"StripMixer$Take", kt_6, kv_6, rfl, ki_6, ko_6, (zw_mem (i := 68) (by decide +kernel) (by decide +kernel)), (zw_mem (i := 232) (by decide +kernel) (by decide +kernel)), (zw_mem (i := 39) (by decide +kernel) (by decide +kernel)), by decide +kernel⟩ hI hsz h0 ((zs_tk i (by omega)).1) (by first | decide | (simp only [zc_rm]; omega)) (by first | decide | (simp only [zc_rm]; omega)) kd_Mx_init_48 (fun H hI => ?_)
      have hsz := zc_sz hsz 1
      have h0 := h0.up (Nat.le_succ _)
      refine lv_dup hx hb kd_Mx_init_51 rfl ?_
      refine zc_call hS hK hAO (c_Ta_init l G _ (135 + 2 * i) (135 + 2 * i + 1) (by omega) (zs_tk i (by omega)).1 ((congrArg zs (by omega)).trans (zs_tk i (by omega)).2) h0) ⟨Or.inr ⟨"StripMixer", zw_memN (i := 233) (by decide +kernel) (by decide +kernel)⟩, (zw_mem (i := 234) (by decide +kernel) (by decide +kernel)), (zw_mem (i := 39) (by decide +kernel) (by decide +kernel)), (zw_mem (i := 235) (by decide +kernel) (by decide +kernel)), ⟨by decide +kernel, by decide +kernel, by decide +kernel⟩, rfl⟩ hI hsz rfl hl.1 (Nat.le_of_ble_eq_true rfl) (by decide) (by constructor <;> first | decide | (simp only [zc_rm]; omega)) kd_Mx_init_52 rfl (fun M52 H locs hp52 hI => ?_)
      have hsz := zc_sz hsz 1
      subst hp52
      have h0 := (h0.up (Nat.le_succ _)).ur (a := 135 + 2 * i) (k := 0) (v := some (135 + 2 * i + 1)) (by omega)
      refine zc_ast hS hK hI (by omega) (by decide +kernel : zs 1 = (3, 8)) (by decide) (by decide) rfl (by omega) (zs_tk i (by omega)).1 (ci := 6) (C := "StripMixer$Take") rfl (vp_in_nI (by omega) (by decide)) kd_Mx_init_55 (fun H locs hI => ?_)
      have h0 := zc_0.ofur hI h0 (by omega)
      refine zr_iinc hx hb kd_Mx_init_56 hl (by decide) rfl rfl (fun ls hl => ?_)
      refine lv_goto (tgt := 37) hx hb kd_Mx_init_59 (by decide) ?_
      rw [ei] at hI h0
      exact ih (i + 1) H locs ls (by omega) (by rw [nI_succ]; exact hl) h0 hsz hI
  refine zr_aload_n hx hb kd_Mx_init_0 hl rfl ?_
  refine zc_obj hS (zw_mem (i := 65) (by decide +kernel) (by decide +kernel)) hl.1 (by decide) kd_Mx_init_1 ?_
  refine zr_aload_n hx hb kd_Mx_init_4 hl rfl ?_
  refine lv_bipush (v := 8) hx hb kd_Mx_init_5 (by decide) ?_
  refine zc_newq (kd := 3) hS hK (hAO "StripMixer$Take" (by decide)) hI hsz h0 (by decide +kernel) (zw_mem (i := 68) (by decide +kernel) (by decide +kernel)) (by decide) (by decide) rfl (by decide) rfl (by decide) (by first | decide | (simp only [zc_rm]; omega)) (by first | decide | (simp only [zc_rm]; omega)) kd_Mx_init_7 (fun H hI => ?_)
  have hsz := zc_sz hsz 1
  have h0 := h0.up (Nat.le_succ _)
  refine zc_put (k := 0) (ty := (.array (.object "StripMixer$Take"))) hS hK hname ⟨kt_7, 5, kv_7, rfl, ki_7, ko_7, kn_7, by decide, by decide +kernel, rfl, by decide +kernel, rfl, zw_mem (i := 247) (by decide +kernel) (by decide +kernel)⟩ hI (by omega) ((by decide +kernel : zs 0 = (10 + 7, 0))) (fun _ => rfl) (fun _ => rfl) kd_Mx_init_10 (fun H locs hI => ?_)
  have h0 := zc_0.ofur hI h0 (by omega)
  refine zr_aload_n hx hb kd_Mx_init_13 hl rfl ?_
  refine zc_new hS hK ⟨"StripMixer$Shelf", kt_4, kv_4, rfl, ki_4, ko_4, (zw_mem (i := 70) (by decide +kernel) (by decide +kernel)), (zw_mem (i := 71) (by decide +kernel) (by decide +kernel)), (zw_mem (i := 33) (by decide +kernel) (by decide +kernel)), by decide +kernel⟩ hI hsz h0 ((by decide +kernel : zs 2 = (10 + 4, 0))) (by first | decide | (simp only [zc_rm]; omega)) (by first | decide | (simp only [zc_rm]; omega)) kd_Mx_init_14 (fun H hI => ?_)
  have hsz := zc_sz hsz 1
  have h0 := h0.up (Nat.le_succ _)
  refine lv_dup hx hb kd_Mx_init_17 rfl ?_
  refine zc_call hS hK hAO (c_Sh_init l G _ h0) ⟨Or.inl (zw_mem (i := 72) (by decide +kernel) (by decide +kernel)), (zw_mem (i := 73) (by decide +kernel) (by decide +kernel)), (zw_mem (i := 33) (by decide +kernel) (by decide +kernel)), (zw_mem (i := 74) (by decide +kernel) (by decide +kernel)), ⟨by decide +kernel, by decide +kernel, by decide +kernel⟩, rfl⟩ hI hsz rfl hl.1 (Nat.le_of_ble_eq_true rfl) (by decide) (by constructor <;> first | decide | (simp only [zc_rm]; omega)) kd_Mx_init_18 rfl (fun M18 H locs hp18 hI => ?_)
  have hsz := zc_sz hsz 17
  subst hp18
  have h0 : zc_0 20 _ := zc_c_0 ((h0.up (by decide)).ur (a := 2) (k := 0) (v := some 3) (by decide)) 16
  refine zc_put (k := 1) (ty := (.object "StripMixer$Shelf")) hS hK hname ⟨kt_7, 5, kv_7, rfl, ki_7, ko_7, kn_7, by decide, by decide +kernel, rfl, by decide +kernel, rfl, zw_mem (i := 248) (by decide +kernel) (by decide +kernel)⟩ hI (by omega) ((by decide +kernel : zs 0 = (10 + 7, 0))) (fun _ => rfl) (fun _ => rfl) kd_Mx_init_21 (fun H locs hI => ?_)
  have h0 := zc_0.ofur hI h0 (by omega)
  refine zr_aload_n hx hb kd_Mx_init_24 hl rfl ?_
  refine zc_new hS hK ⟨"StripMixer$Desk", kt_1, kv_1, rfl, ki_1, ko_1, (zw_mem (i := 118) (by decide +kernel) (by decide +kernel)), (zw_mem (i := 119) (by decide +kernel) (by decide +kernel)), (zw_mem (i := 35) (by decide +kernel) (by decide +kernel)), by decide +kernel⟩ hI hsz h0 ((by decide +kernel : zs 20 = (10 + 1, 0))) (by first | decide | (simp only [zc_rm]; omega)) (by first | decide | (simp only [zc_rm]; omega)) kd_Mx_init_25 (fun H hI => ?_)
  have hsz := zc_sz hsz 1
  have h0 := h0.up (Nat.le_succ _)
  refine lv_dup hx hb kd_Mx_init_28 rfl ?_
  refine zc_call hS hK hAO (c_De_init l G _ h0) ⟨Or.inl (zw_mem (i := 120) (by decide +kernel) (by decide +kernel)), (zw_mem (i := 121) (by decide +kernel) (by decide +kernel)), (zw_mem (i := 35) (by decide +kernel) (by decide +kernel)), (zw_mem (i := 122) (by decide +kernel) (by decide +kernel)), ⟨by decide +kernel, by decide +kernel, by decide +kernel⟩, rfl⟩ hI hsz rfl hl.1 (Nat.le_of_ble_eq_true rfl) (by decide) (by constructor <;> first | decide | (simp only [zc_rm]; omega)) kd_Mx_init_29 rfl (fun M29 H locs hp29 hI => ?_)
  have hsz := zc_sz hsz 114
  subst hp29
  have h0 : zc_0 135 _ := zc_d_0 (((h0.up (by decide)).ur (a := 20) (k := 0) (v := some 21) (by decide)).ur (a := 20) (k := 1) (v := some 22) (by decide)) 8
  refine zc_put (k := 2) (ty := (.object "StripMixer$Desk")) hS hK hname ⟨kt_7, 5, kv_7, rfl, ki_7, ko_7, kn_7, by decide, by decide +kernel, rfl, by decide +kernel, rfl, zw_mem (i := 249) (by decide +kernel) (by decide +kernel)⟩ hI (by omega) ((by decide +kernel : zs 0 = (10 + 7, 0))) (fun _ => rfl) (fun _ => rfl) kd_Mx_init_32 (fun H locs hI => ?_)
  have h0 := zc_0.ofur hI h0 (by omega)
  refine lv_iconst (v := 0) hx hb kd_Mx_init_35 (by decide) ?_
  refine zr_istore_n hx hb kd_Mx_init_36 hl (by decide) rfl (fun ls hl => ?_)
  exact loop 8 0 H locs ls (by omega) hl h0 hsz hI

/-! The reference's constructor. -/
def zc_mo (M : zm_T) : zm_T := zm_ur (zm_ur (zm_ur (zm_ur (zm_ur (zm_ur (zm_ur (zm_ur (zm_ur (zm_ur (zm_ur (zm_ur (zm_ur (zm_ur (zm_ui (zm_ui (zm_ui (zm_ui (zm_ui (zm_ui (zm_ui (zm_ui (zm_ur (zm_ur (zm_ur (zm_ur (zm_ur (zm_ui (zm_ui (zm_ui (zm_ui (zm_ui (zm_ui (zm_ui (zm_ui (zm_ur (zm_ur (zm_ur (zm_ur (zm_ur (zm_ur (zm_ur (zm_ur (zm_ur (zm_ur (zm_ur (M) 151 1 (some 152)) 151 2 (some 153)) 151 3 (some 154)) 151 4 (some 155)) 151 5 (some 156)) 151 6 (some 157)) 151 7 (some 158)) 151 8 (some 159)) 151 9 (some 160)) 151 10 (some 161)) 151 11 (some 162)) 163 0 7) 163 1 7) 163 2 7) 163 3 7) 163 4 7) 163 5 7) 163 6 7) 163 7 8) 151 12 (some 163)) 151 13 (some 164)) 151 14 (some 165)) 151 15 (some 166)) 151 16 (some 167)) 168 0 256) 168 1 256) 168 2 256) 168 3 256) 168 4 256) 168 5 256) 168 6 256) 168 7 256) 151 17 (some 168)) 151 18 (some 169)) 151 19 (some 170)) 151 20 (some 171)) 151 21 (some 172)) 151 22 (some 173)) 151 23 (some 174)) 151 24 (some 175)) 151 25 (some 176)) 151 26 (some 177)) 151 27 (some 178)) 151 28 (some 179)) 151 29 (some 180)) 151 30 (some 181)
set_option maxRecDepth 100000 in
set_option maxHeartbeats 4000000 in
theorem c_Mo_init (l : Launch) (G : zg_T) (M : zm_T)  (h0 : zc_0 (152) M) : Met l ky_Mo_init (zr_ws ky_Mo_init kc_Mo_init 1 none) (zc_rm 2 (30) (11824)) (va_Pc [.ref (G.2.2.1 + 151)] (zc_B G (152) M)) (va_Qv (fun (M' : zm_T) => M' = zc_mo M) (zm_B G (152 + 30) zs) (zm_A G)) (30) (11824) (zm_A G) := by
  refine zc_met (by decide +kernel) (Nat.le_of_ble_eq_true rfl) ?_
  intro p0 e0 s0 m0 below meth c0 ls hS hK hAO hsz hname hlk hr hl hI
  have hx := hS.1
  have hb := hS.2.1
  have hl : zl_has ls 1 [some (.ref (G.2.2.1 + 151))] := hl
  refine zr_aload_n hx hb kd_Mo_init_0 hl rfl ?_
  refine zc_obj hS (zw_mem (i := 1040) (by decide +kernel) (by decide +kernel)) hl.1 (by decide) kd_Mo_init_1 ?_
  refine zr_aload_n hx hb kd_Mo_init_4 hl rfl ?_
  refine lv_sipush (v := 512) hx hb kd_Mo_init_5 (by decide) ?_
  refine zc_newa hS hK hI hsz h0 ((by decide +kernel : zs 152 = (0, 512))) (Or.inl ⟨rfl, rfl⟩) (by decide) rfl (by decide) (by first | decide | (simp only [zc_rm]; omega)) (by first | decide | (simp only [zc_rm]; omega)) kd_Mo_init_8 (fun H hI => ?_)
  have hsz := zc_sz hsz 1
  have h0 := h0.up (Nat.le_succ _)
  refine zc_put (k := 1) (ty := (.array .int)) hS hK hname ⟨kt_8, 32, kv_8, rfl, ki_8, ko_8, kn_8, by decide, by decide +kernel, rfl, by decide +kernel, rfl, zw_mem (i := 1042) (by decide +kernel) (by decide +kernel)⟩ hI (by omega) (hs_MO) (fun _ => rfl) (fun _ => rfl) kd_Mo_init_10 (fun H locs hI => ?_)
  have h0 := zc_0.ofur hI h0 (by omega)
  refine zr_aload_n hx hb kd_Mo_init_13 hl rfl ?_
  refine lv_bipush (v := 8) hx hb kd_Mo_init_14 (by decide) ?_
  refine zc_newa hS hK hI hsz h0 ((by decide +kernel : zs 153 = (0, 8))) (Or.inl ⟨rfl, rfl⟩) (by decide) rfl (by decide) (by first | decide | (simp only [zc_rm]; omega)) (by first | decide | (simp only [zc_rm]; omega)) kd_Mo_init_16 (fun H hI => ?_)
  have hsz := zc_sz hsz 1
  have h0 := h0.up (Nat.le_succ _)
  refine zc_put (k := 2) (ty := (.array .int)) hS hK hname ⟨kt_8, 32, kv_8, rfl, ki_8, ko_8, kn_8, by decide, by decide +kernel, rfl, by decide +kernel, rfl, zw_mem (i := 1043) (by decide +kernel) (by decide +kernel)⟩ hI (by omega) (hs_MO) (fun _ => rfl) (fun _ => rfl) kd_Mo_init_18 (fun H locs hI => ?_)
  have h0 := zc_0.ofur hI h0 (by omega)
  refine zr_aload_n hx hb kd_Mo_init_21 hl rfl ?_
  refine lv_bipush (v := 16) hx hb kd_Mo_init_22 (by decide) ?_
  refine zc_newa hS hK hI hsz h0 ((by decide +kernel : zs 154 = (1, 16))) (Or.inr (Or.inl ⟨rfl, rfl⟩)) (by decide) rfl (by decide) (by first | decide | (simp only [zc_rm]; omega)) (by first | decide | (simp only [zc_rm]; omega)) kd_Mo_init_24 (fun H hI => ?_)
  have hsz := zc_sz hsz 1
  have h0 := h0.up (Nat.le_succ _)
  refine zc_put (k := 3) (ty := (.array .boolean)) hS hK hname ⟨kt_8, 32, kv_8, rfl, ki_8, ko_8, kn_8, by decide, by decide +kernel, rfl, by decide +kernel, rfl, zw_mem (i := 1044) (by decide +kernel) (by decide +kernel)⟩ hI (by omega) (hs_MO) (fun _ => rfl) (fun _ => rfl) kd_Mo_init_26 (fun H locs hI => ?_)
  have h0 := zc_0.ofur hI h0 (by omega)
  refine zr_aload_n hx hb kd_Mo_init_29 hl rfl ?_
  refine lv_bipush (v := 16) hx hb kd_Mo_init_30 (by decide) ?_
  refine zc_newa hS hK hI hsz h0 ((by decide +kernel : zs 155 = (0, 16))) (Or.inl ⟨rfl, rfl⟩) (by decide) rfl (by decide) (by first | decide | (simp only [zc_rm]; omega)) (by first | decide | (simp only [zc_rm]; omega)) kd_Mo_init_32 (fun H hI => ?_)
  have hsz := zc_sz hsz 1
  have h0 := h0.up (Nat.le_succ _)
  refine zc_put (k := 4) (ty := (.array .int)) hS hK hname ⟨kt_8, 32, kv_8, rfl, ki_8, ko_8, kn_8, by decide, by decide +kernel, rfl, by decide +kernel, rfl, zw_mem (i := 1045) (by decide +kernel) (by decide +kernel)⟩ hI (by omega) (hs_MO) (fun _ => rfl) (fun _ => rfl) kd_Mo_init_34 (fun H locs hI => ?_)
  have h0 := zc_0.ofur hI h0 (by omega)
  refine zr_aload_n hx hb kd_Mo_init_37 hl rfl ?_
  refine lv_bipush (v := 16) hx hb kd_Mo_init_38 (by decide) ?_
  refine zc_newa hS hK hI hsz h0 ((by decide +kernel : zs 156 = (0, 16))) (Or.inl ⟨rfl, rfl⟩) (by decide) rfl (by decide) (by first | decide | (simp only [zc_rm]; omega)) (by first | decide | (simp only [zc_rm]; omega)) kd_Mo_init_40 (fun H hI => ?_)
  have hsz := zc_sz hsz 1
  have h0 := h0.up (Nat.le_succ _)
  refine zc_put (k := 5) (ty := (.array .int)) hS hK hname ⟨kt_8, 32, kv_8, rfl, ki_8, ko_8, kn_8, by decide, by decide +kernel, rfl, by decide +kernel, rfl, zw_mem (i := 1046) (by decide +kernel) (by decide +kernel)⟩ hI (by omega) (hs_MO) (fun _ => rfl) (fun _ => rfl) kd_Mo_init_42 (fun H locs hI => ?_)
  have h0 := zc_0.ofur hI h0 (by omega)
  refine zr_aload_n hx hb kd_Mo_init_45 hl rfl ?_
  refine lv_bipush (v := 16) hx hb kd_Mo_init_46 (by decide) ?_
  refine zc_newa hS hK hI hsz h0 ((by decide +kernel : zs 157 = (0, 16))) (Or.inl ⟨rfl, rfl⟩) (by decide) rfl (by decide) (by first | decide | (simp only [zc_rm]; omega)) (by first | decide | (simp only [zc_rm]; omega)) kd_Mo_init_48 (fun H hI => ?_)
  have hsz := zc_sz hsz 1
  have h0 := h0.up (Nat.le_succ _)
  refine zc_put (k := 6) (ty := (.array .int)) hS hK hname ⟨kt_8, 32, kv_8, rfl, ki_8, ko_8, kn_8, by decide, by decide +kernel, rfl, by decide +kernel, rfl, zw_mem (i := 1047) (by decide +kernel) (by decide +kernel)⟩ hI (by omega) (hs_MO) (fun _ => rfl) (fun _ => rfl) kd_Mo_init_50 (fun H locs hI => ?_)
  have h0 := zc_0.ofur hI h0 (by omega)
  refine zr_aload_n hx hb kd_Mo_init_53 hl rfl ?_
  refine lv_bipush (v := 16) hx hb kd_Mo_init_54 (by decide) ?_
  refine zc_newa hS hK hI hsz h0 ((by decide +kernel : zs 158 = (0, 16))) (Or.inl ⟨rfl, rfl⟩) (by decide) rfl (by decide) (by first | decide | (simp only [zc_rm]; omega)) (by first | decide | (simp only [zc_rm]; omega)) kd_Mo_init_56 (fun H hI => ?_)
  have hsz := zc_sz hsz 1
  have h0 := h0.up (Nat.le_succ _)
  refine zc_put (k := 7) (ty := (.array .int)) hS hK hname ⟨kt_8, 32, kv_8, rfl, ki_8, ko_8, kn_8, by decide, by decide +kernel, rfl, by decide +kernel, rfl, zw_mem (i := 1048) (by decide +kernel) (by decide +kernel)⟩ hI (by omega) (hs_MO) (fun _ => rfl) (fun _ => rfl) kd_Mo_init_58 (fun H locs hI => ?_)
  have h0 := zc_0.ofur hI h0 (by omega)
  refine zr_aload_n hx hb kd_Mo_init_61 hl rfl ?_
  refine lv_bipush (v := 16) hx hb kd_Mo_init_62 (by decide) ?_
  refine zc_newa hS hK hI hsz h0 ((by decide +kernel : zs 159 = (0, 16))) (Or.inl ⟨rfl, rfl⟩) (by decide) rfl (by decide) (by first | decide | (simp only [zc_rm]; omega)) (by first | decide | (simp only [zc_rm]; omega)) kd_Mo_init_64 (fun H hI => ?_)
  have hsz := zc_sz hsz 1
  have h0 := h0.up (Nat.le_succ _)
  refine zc_put (k := 8) (ty := (.array .int)) hS hK hname ⟨kt_8, 32, kv_8, rfl, ki_8, ko_8, kn_8, by decide, by decide +kernel, rfl, by decide +kernel, rfl, zw_mem (i := 1049) (by decide +kernel) (by decide +kernel)⟩ hI (by omega) (hs_MO) (fun _ => rfl) (fun _ => rfl) kd_Mo_init_66 (fun H locs hI => ?_)
  have h0 := zc_0.ofur hI h0 (by omega)
  refine zr_aload_n hx hb kd_Mo_init_69 hl rfl ?_
  refine lv_bipush (v := 16) hx hb kd_Mo_init_70 (by decide) ?_
  refine zc_newa hS hK hI hsz h0 ((by decide +kernel : zs 160 = (0, 16))) (Or.inl ⟨rfl, rfl⟩) (by decide) rfl (by decide) (by first | decide | (simp only [zc_rm]; omega)) (by first | decide | (simp only [zc_rm]; omega)) kd_Mo_init_72 (fun H hI => ?_)
  have hsz := zc_sz hsz 1
  have h0 := h0.up (Nat.le_succ _)
  refine zc_put (k := 9) (ty := (.array .int)) hS hK hname ⟨kt_8, 32, kv_8, rfl, ki_8, ko_8, kn_8, by decide, by decide +kernel, rfl, by decide +kernel, rfl, zw_mem (i := 1050) (by decide +kernel) (by decide +kernel)⟩ hI (by omega) (hs_MO) (fun _ => rfl) (fun _ => rfl) kd_Mo_init_74 (fun H locs hI => ?_)
  have h0 := zc_0.ofur hI h0 (by omega)
  refine zr_aload_n hx hb kd_Mo_init_77 hl rfl ?_
  refine lv_bipush (v := 16) hx hb kd_Mo_init_78 (by decide) ?_
  refine zc_newa hS hK hI hsz h0 ((by decide +kernel : zs 161 = (0, 16))) (Or.inl ⟨rfl, rfl⟩) (by decide) rfl (by decide) (by first | decide | (simp only [zc_rm]; omega)) (by first | decide | (simp only [zc_rm]; omega)) kd_Mo_init_80 (fun H hI => ?_)
  have hsz := zc_sz hsz 1
  have h0 := h0.up (Nat.le_succ _)
  refine zc_put (k := 10) (ty := (.array .int)) hS hK hname ⟨kt_8, 32, kv_8, rfl, ki_8, ko_8, kn_8, by decide, by decide +kernel, rfl, by decide +kernel, rfl, zw_mem (i := 1051) (by decide +kernel) (by decide +kernel)⟩ hI (by omega) (hs_MO) (fun _ => rfl) (fun _ => rfl) kd_Mo_init_82 (fun H locs hI => ?_)
  have h0 := zc_0.ofur hI h0 (by omega)
  refine zr_aload_n hx hb kd_Mo_init_85 hl rfl ?_
  refine lv_bipush (v := 16) hx hb kd_Mo_init_86 (by decide) ?_
  refine zc_newa hS hK hI hsz h0 ((by decide +kernel : zs 162 = (0, 16))) (Or.inl ⟨rfl, rfl⟩) (by decide) rfl (by decide) (by first | decide | (simp only [zc_rm]; omega)) (by first | decide | (simp only [zc_rm]; omega)) kd_Mo_init_88 (fun H hI => ?_)
  have hsz := zc_sz hsz 1
  have h0 := h0.up (Nat.le_succ _)
  refine zc_put (k := 11) (ty := (.array .int)) hS hK hname ⟨kt_8, 32, kv_8, rfl, ki_8, ko_8, kn_8, by decide, by decide +kernel, rfl, by decide +kernel, rfl, zw_mem (i := 1052) (by decide +kernel) (by decide +kernel)⟩ hI (by omega) (hs_MO) (fun _ => rfl) (fun _ => rfl) kd_Mo_init_90 (fun H locs hI => ?_)
  have h0 := zc_0.ofur hI h0 (by omega)
  refine zr_aload_n hx hb kd_Mo_init_93 hl rfl ?_
  refine lv_bipush (v := 8) hx hb kd_Mo_init_94 (by decide) ?_
  refine zc_newa hS hK hI hsz h0 ((by decide +kernel : zs 163 = (0, 8))) (Or.inl ⟨rfl, rfl⟩) (by decide) rfl (by decide) (by first | decide | (simp only [zc_rm]; omega)) (by first | decide | (simp only [zc_rm]; omega)) kd_Mo_init_96 (fun H hI => ?_)
  have hsz := zc_sz hsz 1
  have h0 := h0.up (Nat.le_succ _)
  refine lv_dup hx hb kd_Mo_init_98 rfl ?_
  refine lv_iconst (v := 0) hx hb kd_Mo_init_99 (by decide) ?_
  refine lv_bipush (v := 7) hx hb kd_Mo_init_100 (by decide) ?_
  refine zr_iast hS hK hI (by omega) (by decide +kernel : zs 163 = (0, 8)) (vp_in_iff.mpr (by decide)) kd_Mo_init_102 (fun H locs hI => ?_)
  have h0 := zc_0.ofui hI h0 (by omega)
  refine lv_dup hx hb kd_Mo_init_103 rfl ?_
  refine lv_iconst (v := 1) hx hb kd_Mo_init_104 (by decide) ?_
  refine lv_bipush (v := 7) hx hb kd_Mo_init_105 (by decide) ?_
  refine zr_iast hS hK hI (by omega) (by decide +kernel : zs 163 = (0, 8)) (vp_in_iff.mpr (by decide)) kd_Mo_init_107 (fun H locs hI => ?_)
  have h0 := zc_0.ofui hI h0 (by omega)
  refine lv_dup hx hb kd_Mo_init_108 rfl ?_
  refine lv_iconst (v := 2) hx hb kd_Mo_init_109 (by decide) ?_
  refine lv_bipush (v := 7) hx hb kd_Mo_init_110 (by decide) ?_
  refine zr_iast hS hK hI (by omega) (by decide +kernel : zs 163 = (0, 8)) (vp_in_iff.mpr (by decide)) kd_Mo_init_112 (fun H locs hI => ?_)
  have h0 := zc_0.ofui hI h0 (by omega)
  refine lv_dup hx hb kd_Mo_init_113 rfl ?_
  refine lv_iconst (v := 3) hx hb kd_Mo_init_114 (by decide) ?_
  refine lv_bipush (v := 7) hx hb kd_Mo_init_115 (by decide) ?_
  refine zr_iast hS hK hI (by omega) (by decide +kernel : zs 163 = (0, 8)) (vp_in_iff.mpr (by decide)) kd_Mo_init_117 (fun H locs hI => ?_)
  have h0 := zc_0.ofui hI h0 (by omega)
  refine lv_dup hx hb kd_Mo_init_118 rfl ?_
  refine lv_iconst (v := 4) hx hb kd_Mo_init_119 (by decide) ?_
  refine lv_bipush (v := 7) hx hb kd_Mo_init_120 (by decide) ?_
  refine zr_iast hS hK hI (by omega) (by decide +kernel : zs 163 = (0, 8)) (vp_in_iff.mpr (by decide)) kd_Mo_init_122 (fun H locs hI => ?_)
  have h0 := zc_0.ofui hI h0 (by omega)
  refine lv_dup hx hb kd_Mo_init_123 rfl ?_
  refine lv_iconst (v := 5) hx hb kd_Mo_init_124 (by decide) ?_
  refine lv_bipush (v := 7) hx hb kd_Mo_init_125 (by decide) ?_
  refine zr_iast hS hK hI (by omega) (by decide +kernel : zs 163 = (0, 8)) (vp_in_iff.mpr (by decide)) kd_Mo_init_127 (fun H locs hI => ?_)
  have h0 := zc_0.ofui hI h0 (by omega)
  refine lv_dup hx hb kd_Mo_init_128 rfl ?_
  refine lv_bipush (v := 6) hx hb kd_Mo_init_129 (by decide) ?_
  refine lv_bipush (v := 7) hx hb kd_Mo_init_131 (by decide) ?_
  refine zr_iast hS hK hI (by omega) (by decide +kernel : zs 163 = (0, 8)) (vp_in_iff.mpr (by decide)) kd_Mo_init_133 (fun H locs hI => ?_)
  have h0 := zc_0.ofui hI h0 (by omega)
  refine lv_dup hx hb kd_Mo_init_134 rfl ?_
  refine lv_bipush (v := 7) hx hb kd_Mo_init_135 (by decide) ?_
  refine lv_bipush (v := 8) hx hb kd_Mo_init_137 (by decide) ?_
  refine zr_iast hS hK hI (by omega) (by decide +kernel : zs 163 = (0, 8)) (vp_in_iff.mpr (by decide)) kd_Mo_init_139 (fun H locs hI => ?_)
  have h0 := zc_0.ofui hI h0 (by omega)
  refine zc_put (k := 12) (ty := (.array .int)) hS hK hname ⟨kt_8, 32, kv_8, rfl, ki_8, ko_8, kn_8, by decide, by decide +kernel, rfl, by decide +kernel, rfl, zw_mem (i := 1053) (by decide +kernel) (by decide +kernel)⟩ hI (by omega) (hs_MO) (fun _ => rfl) (fun _ => rfl) kd_Mo_init_140 (fun H locs hI => ?_)
  have h0 := zc_0.ofur hI h0 (by omega)
  refine zr_aload_n hx hb kd_Mo_init_143 hl rfl ?_
  refine lv_bipush (v := 24) hx hb kd_Mo_init_144 (by decide) ?_
  refine zc_newa hS hK hI hsz h0 ((by decide +kernel : zs 164 = (0, 24))) (Or.inl ⟨rfl, rfl⟩) (by decide) rfl (by decide) (by first | decide | (simp only [zc_rm]; omega)) (by first | decide | (simp only [zc_rm]; omega)) kd_Mo_init_146 (fun H hI => ?_)
  have hsz := zc_sz hsz 1
  have h0 := h0.up (Nat.le_succ _)
  refine zc_put (k := 13) (ty := (.array .int)) hS hK hname ⟨kt_8, 32, kv_8, rfl, ki_8, ko_8, kn_8, by decide, by decide +kernel, rfl, by decide +kernel, rfl, zw_mem (i := 1054) (by decide +kernel) (by decide +kernel)⟩ hI (by omega) (hs_MO) (fun _ => rfl) (fun _ => rfl) kd_Mo_init_148 (fun H locs hI => ?_)
  have h0 := zc_0.ofur hI h0 (by omega)
  refine zr_aload_n hx hb kd_Mo_init_151 hl rfl ?_
  refine lv_bipush (v := 24) hx hb kd_Mo_init_152 (by decide) ?_
  refine zc_newa hS hK hI hsz h0 ((by decide +kernel : zs 165 = (0, 24))) (Or.inl ⟨rfl, rfl⟩) (by decide) rfl (by decide) (by first | decide | (simp only [zc_rm]; omega)) (by first | decide | (simp only [zc_rm]; omega)) kd_Mo_init_154 (fun H hI => ?_)
  have hsz := zc_sz hsz 1
  have h0 := h0.up (Nat.le_succ _)
  refine zc_put (k := 14) (ty := (.array .int)) hS hK hname ⟨kt_8, 32, kv_8, rfl, ki_8, ko_8, kn_8, by decide, by decide +kernel, rfl, by decide +kernel, rfl, zw_mem (i := 1055) (by decide +kernel) (by decide +kernel)⟩ hI (by omega) (hs_MO) (fun _ => rfl) (fun _ => rfl) kd_Mo_init_156 (fun H locs hI => ?_)
  have h0 := zc_0.ofur hI h0 (by omega)
  refine zr_aload_n hx hb kd_Mo_init_159 hl rfl ?_
  refine lv_bipush (v := 24) hx hb kd_Mo_init_160 (by decide) ?_
  refine zc_newa hS hK hI hsz h0 ((by decide +kernel : zs 166 = (0, 24))) (Or.inl ⟨rfl, rfl⟩) (by decide) rfl (by decide) (by first | decide | (simp only [zc_rm]; omega)) (by first | decide | (simp only [zc_rm]; omega)) kd_Mo_init_162 (fun H hI => ?_)
  have hsz := zc_sz hsz 1
  have h0 := h0.up (Nat.le_succ _)
  refine zc_put (k := 15) (ty := (.array .int)) hS hK hname ⟨kt_8, 32, kv_8, rfl, ki_8, ko_8, kn_8, by decide, by decide +kernel, rfl, by decide +kernel, rfl, zw_mem (i := 1056) (by decide +kernel) (by decide +kernel)⟩ hI (by omega) (hs_MO) (fun _ => rfl) (fun _ => rfl) kd_Mo_init_164 (fun H locs hI => ?_)
  have h0 := zc_0.ofur hI h0 (by omega)
  refine zr_aload_n hx hb kd_Mo_init_167 hl rfl ?_
  refine lv_bipush (v := 24) hx hb kd_Mo_init_168 (by decide) ?_
  refine zc_newa hS hK hI hsz h0 ((by decide +kernel : zs 167 = (0, 24))) (Or.inl ⟨rfl, rfl⟩) (by decide) rfl (by decide) (by first | decide | (simp only [zc_rm]; omega)) (by first | decide | (simp only [zc_rm]; omega)) kd_Mo_init_170 (fun H hI => ?_)
  have hsz := zc_sz hsz 1
  have h0 := h0.up (Nat.le_succ _)
  refine zc_put (k := 16) (ty := (.array .int)) hS hK hname ⟨kt_8, 32, kv_8, rfl, ki_8, ko_8, kn_8, by decide, by decide +kernel, rfl, by decide +kernel, rfl, zw_mem (i := 1057) (by decide +kernel) (by decide +kernel)⟩ hI (by omega) (hs_MO) (fun _ => rfl) (fun _ => rfl) kd_Mo_init_172 (fun H locs hI => ?_)
  have h0 := zc_0.ofur hI h0 (by omega)
  refine zr_aload_n hx hb kd_Mo_init_175 hl rfl ?_
  refine lv_bipush (v := 8) hx hb kd_Mo_init_176 (by decide) ?_
  refine zc_newa hS hK hI hsz h0 ((by decide +kernel : zs 168 = (0, 8))) (Or.inl ⟨rfl, rfl⟩) (by decide) rfl (by decide) (by first | decide | (simp only [zc_rm]; omega)) (by first | decide | (simp only [zc_rm]; omega)) kd_Mo_init_178 (fun H hI => ?_)
  have hsz := zc_sz hsz 1
  have h0 := h0.up (Nat.le_succ _)
  refine lv_dup hx hb kd_Mo_init_180 rfl ?_
  refine lv_iconst (v := 0) hx hb kd_Mo_init_181 (by decide) ?_
  refine lv_sipush (v := 256) hx hb kd_Mo_init_182 (by decide) ?_
  refine zr_iast hS hK hI (by omega) (by decide +kernel : zs 168 = (0, 8)) (vp_in_iff.mpr (by decide)) kd_Mo_init_185 (fun H locs hI => ?_)
  have h0 := zc_0.ofui hI h0 (by omega)
  refine lv_dup hx hb kd_Mo_init_186 rfl ?_
  refine lv_iconst (v := 1) hx hb kd_Mo_init_187 (by decide) ?_
  refine lv_sipush (v := 256) hx hb kd_Mo_init_188 (by decide) ?_
  refine zr_iast hS hK hI (by omega) (by decide +kernel : zs 168 = (0, 8)) (vp_in_iff.mpr (by decide)) kd_Mo_init_191 (fun H locs hI => ?_)
  have h0 := zc_0.ofui hI h0 (by omega)
  refine lv_dup hx hb kd_Mo_init_192 rfl ?_
  refine lv_iconst (v := 2) hx hb kd_Mo_init_193 (by decide) ?_
  refine lv_sipush (v := 256) hx hb kd_Mo_init_194 (by decide) ?_
  refine zr_iast hS hK hI (by omega) (by decide +kernel : zs 168 = (0, 8)) (vp_in_iff.mpr (by decide)) kd_Mo_init_197 (fun H locs hI => ?_)
  have h0 := zc_0.ofui hI h0 (by omega)
  refine lv_dup hx hb kd_Mo_init_198 rfl ?_
  refine lv_iconst (v := 3) hx hb kd_Mo_init_199 (by decide) ?_
  refine lv_sipush (v := 256) hx hb kd_Mo_init_200 (by decide) ?_
  refine zr_iast hS hK hI (by omega) (by decide +kernel : zs 168 = (0, 8)) (vp_in_iff.mpr (by decide)) kd_Mo_init_203 (fun H locs hI => ?_)
  have h0 := zc_0.ofui hI h0 (by omega)
  refine lv_dup hx hb kd_Mo_init_204 rfl ?_
  refine lv_iconst (v := 4) hx hb kd_Mo_init_205 (by decide) ?_
  refine lv_sipush (v := 256) hx hb kd_Mo_init_206 (by decide) ?_
  refine zr_iast hS hK hI (by omega) (by decide +kernel : zs 168 = (0, 8)) (vp_in_iff.mpr (by decide)) kd_Mo_init_209 (fun H locs hI => ?_)
  have h0 := zc_0.ofui hI h0 (by omega)
  refine lv_dup hx hb kd_Mo_init_210 rfl ?_
  refine lv_iconst (v := 5) hx hb kd_Mo_init_211 (by decide) ?_
  refine lv_sipush (v := 256) hx hb kd_Mo_init_212 (by decide) ?_
  refine zr_iast hS hK hI (by omega) (by decide +kernel : zs 168 = (0, 8)) (vp_in_iff.mpr (by decide)) kd_Mo_init_215 (fun H locs hI => ?_)
  have h0 := zc_0.ofui hI h0 (by omega)
  refine lv_dup hx hb kd_Mo_init_216 rfl ?_
  refine lv_bipush (v := 6) hx hb kd_Mo_init_217 (by decide) ?_
  refine lv_sipush (v := 256) hx hb kd_Mo_init_219 (by decide) ?_
  refine zr_iast hS hK hI (by omega) (by decide +kernel : zs 168 = (0, 8)) (vp_in_iff.mpr (by decide)) kd_Mo_init_222 (fun H locs hI => ?_)
  have h0 := zc_0.ofui hI h0 (by omega)
  refine lv_dup hx hb kd_Mo_init_223 rfl ?_
  refine lv_bipush (v := 7) hx hb kd_Mo_init_224 (by decide) ?_
  refine lv_sipush (v := 256) hx hb kd_Mo_init_226 (by decide) ?_
  refine zr_iast hS hK hI (by omega) (by decide +kernel : zs 168 = (0, 8)) (vp_in_iff.mpr (by decide)) kd_Mo_init_229 (fun H locs hI => ?_)
  have h0 := zc_0.ofui hI h0 (by omega)
  refine zc_put (k := 17) (ty := (.array .int)) hS hK hname ⟨kt_8, 32, kv_8, rfl, ki_8, ko_8, kn_8, by decide, by decide +kernel, rfl, by decide +kernel, rfl, zw_mem (i := 1058) (by decide +kernel) (by decide +kernel)⟩ hI (by omega) (hs_MO) (fun _ => rfl) (fun _ => rfl) kd_Mo_init_230 (fun H locs hI => ?_)
  have h0 := zc_0.ofur hI h0 (by omega)
  refine zr_aload_n hx hb kd_Mo_init_233 hl rfl ?_
  refine lv_bipush (v := 8) hx hb kd_Mo_init_234 (by decide) ?_
  refine zc_newa hS hK hI hsz h0 ((by decide +kernel : zs 169 = (0, 8))) (Or.inl ⟨rfl, rfl⟩) (by decide) rfl (by decide) (by first | decide | (simp only [zc_rm]; omega)) (by first | decide | (simp only [zc_rm]; omega)) kd_Mo_init_236 (fun H hI => ?_)
  have hsz := zc_sz hsz 1
  have h0 := h0.up (Nat.le_succ _)
  refine zc_put (k := 18) (ty := (.array .int)) hS hK hname ⟨kt_8, 32, kv_8, rfl, ki_8, ko_8, kn_8, by decide, by decide +kernel, rfl, by decide +kernel, rfl, zw_mem (i := 1059) (by decide +kernel) (by decide +kernel)⟩ hI (by omega) (hs_MO) (fun _ => rfl) (fun _ => rfl) kd_Mo_init_238 (fun H locs hI => ?_)
  have h0 := zc_0.ofur hI h0 (by omega)
  refine zr_aload_n hx hb kd_Mo_init_241 hl rfl ?_
  refine lv_bipush (v := 64) hx hb kd_Mo_init_242 (by decide) ?_
  refine zc_newa hS hK hI hsz h0 ((by decide +kernel : zs 170 = (0, 64))) (Or.inl ⟨rfl, rfl⟩) (by decide) rfl (by decide) (by first | decide | (simp only [zc_rm]; omega)) (by first | decide | (simp only [zc_rm]; omega)) kd_Mo_init_244 (fun H hI => ?_)
  have hsz := zc_sz hsz 1
  have h0 := h0.up (Nat.le_succ _)
  refine zc_put (k := 19) (ty := (.array .int)) hS hK hname ⟨kt_8, 32, kv_8, rfl, ki_8, ko_8, kn_8, by decide, by decide +kernel, rfl, by decide +kernel, rfl, zw_mem (i := 1060) (by decide +kernel) (by decide +kernel)⟩ hI (by omega) (hs_MO) (fun _ => rfl) (fun _ => rfl) kd_Mo_init_246 (fun H locs hI => ?_)
  have h0 := zc_0.ofur hI h0 (by omega)
  refine zr_aload_n hx hb kd_Mo_init_249 hl rfl ?_
  refine lv_bipush (v := 64) hx hb kd_Mo_init_250 (by decide) ?_
  refine zc_newa hS hK hI hsz h0 ((by decide +kernel : zs 171 = (0, 64))) (Or.inl ⟨rfl, rfl⟩) (by decide) rfl (by decide) (by first | decide | (simp only [zc_rm]; omega)) (by first | decide | (simp only [zc_rm]; omega)) kd_Mo_init_252 (fun H hI => ?_)
  have hsz := zc_sz hsz 1
  have h0 := h0.up (Nat.le_succ _)
  refine zc_put (k := 20) (ty := (.array .int)) hS hK hname ⟨kt_8, 32, kv_8, rfl, ki_8, ko_8, kn_8, by decide, by decide +kernel, rfl, by decide +kernel, rfl, zw_mem (i := 1061) (by decide +kernel) (by decide +kernel)⟩ hI (by omega) (hs_MO) (fun _ => rfl) (fun _ => rfl) kd_Mo_init_254 (fun H locs hI => ?_)
  have h0 := zc_0.ofur hI h0 (by omega)
  refine zr_aload_n hx hb kd_Mo_init_257 hl rfl ?_
  refine lv_bipush (v := 64) hx hb kd_Mo_init_258 (by decide) ?_
  refine zc_newa hS hK hI hsz h0 ((by decide +kernel : zs 172 = (1, 64))) (Or.inr (Or.inl ⟨rfl, rfl⟩)) (by decide) rfl (by decide) (by first | decide | (simp only [zc_rm]; omega)) (by first | decide | (simp only [zc_rm]; omega)) kd_Mo_init_260 (fun H hI => ?_)
  have hsz := zc_sz hsz 1
  have h0 := h0.up (Nat.le_succ _)
  refine zc_put (k := 21) (ty := (.array .boolean)) hS hK hname ⟨kt_8, 32, kv_8, rfl, ki_8, ko_8, kn_8, by decide, by decide +kernel, rfl, by decide +kernel, rfl, zw_mem (i := 1062) (by decide +kernel) (by decide +kernel)⟩ hI (by omega) (hs_MO) (fun _ => rfl) (fun _ => rfl) kd_Mo_init_262 (fun H locs hI => ?_)
  have h0 := zc_0.ofur hI h0 (by omega)
  refine zr_aload_n hx hb kd_Mo_init_265 hl rfl ?_
  refine lv_bipush (v := 8) hx hb kd_Mo_init_266 (by decide) ?_
  refine zc_newa hS hK hI hsz h0 ((by decide +kernel : zs 173 = (1, 8))) (Or.inr (Or.inl ⟨rfl, rfl⟩)) (by decide) rfl (by decide) (by first | decide | (simp only [zc_rm]; omega)) (by first | decide | (simp only [zc_rm]; omega)) kd_Mo_init_268 (fun H hI => ?_)
  have hsz := zc_sz hsz 1
  have h0 := h0.up (Nat.le_succ _)
  refine zc_put (k := 22) (ty := (.array .boolean)) hS hK hname ⟨kt_8, 32, kv_8, rfl, ki_8, ko_8, kn_8, by decide, by decide +kernel, rfl, by decide +kernel, rfl, zw_mem (i := 1063) (by decide +kernel) (by decide +kernel)⟩ hI (by omega) (hs_MO) (fun _ => rfl) (fun _ => rfl) kd_Mo_init_270 (fun H locs hI => ?_)
  have h0 := zc_0.ofur hI h0 (by omega)
  refine zr_aload_n hx hb kd_Mo_init_273 hl rfl ?_
  refine lv_bipush (v := 8) hx hb kd_Mo_init_274 (by decide) ?_
  refine zc_newa hS hK hI hsz h0 ((by decide +kernel : zs 174 = (1, 8))) (Or.inr (Or.inl ⟨rfl, rfl⟩)) (by decide) rfl (by decide) (by first | decide | (simp only [zc_rm]; omega)) (by first | decide | (simp only [zc_rm]; omega)) kd_Mo_init_276 (fun H hI => ?_)
  have hsz := zc_sz hsz 1
  have h0 := h0.up (Nat.le_succ _)
  refine zc_put (k := 23) (ty := (.array .boolean)) hS hK hname ⟨kt_8, 32, kv_8, rfl, ki_8, ko_8, kn_8, by decide, by decide +kernel, rfl, by decide +kernel, rfl, zw_mem (i := 1064) (by decide +kernel) (by decide +kernel)⟩ hI (by omega) (hs_MO) (fun _ => rfl) (fun _ => rfl) kd_Mo_init_278 (fun H locs hI => ?_)
  have h0 := zc_0.ofur hI h0 (by omega)
  refine zr_aload_n hx hb kd_Mo_init_281 hl rfl ?_
  refine lv_bipush (v := 64) hx hb kd_Mo_init_282 (by decide) ?_
  refine zc_newa hS hK hI hsz h0 ((by decide +kernel : zs 175 = (1, 64))) (Or.inr (Or.inl ⟨rfl, rfl⟩)) (by decide) rfl (by decide) (by first | decide | (simp only [zc_rm]; omega)) (by first | decide | (simp only [zc_rm]; omega)) kd_Mo_init_284 (fun H hI => ?_)
  have hsz := zc_sz hsz 1
  have h0 := h0.up (Nat.le_succ _)
  refine zc_put (k := 24) (ty := (.array .boolean)) hS hK hname ⟨kt_8, 32, kv_8, rfl, ki_8, ko_8, kn_8, by decide, by decide +kernel, rfl, by decide +kernel, rfl, zw_mem (i := 1065) (by decide +kernel) (by decide +kernel)⟩ hI (by omega) (hs_MO) (fun _ => rfl) (fun _ => rfl) kd_Mo_init_286 (fun H locs hI => ?_)
  have h0 := zc_0.ofur hI h0 (by omega)
  refine zr_aload_n hx hb kd_Mo_init_289 hl rfl ?_
  refine lv_bipush (v := 8) hx hb kd_Mo_init_290 (by decide) ?_
  refine zc_newa hS hK hI hsz h0 ((by decide +kernel : zs 176 = (0, 8))) (Or.inl ⟨rfl, rfl⟩) (by decide) rfl (by decide) (by first | decide | (simp only [zc_rm]; omega)) (by first | decide | (simp only [zc_rm]; omega)) kd_Mo_init_292 (fun H hI => ?_)
  have hsz := zc_sz hsz 1
  have h0 := h0.up (Nat.le_succ _)
  refine zc_put (k := 25) (ty := (.array .int)) hS hK hname ⟨kt_8, 32, kv_8, rfl, ki_8, ko_8, kn_8, by decide, by decide +kernel, rfl, by decide +kernel, rfl, zw_mem (i := 1066) (by decide +kernel) (by decide +kernel)⟩ hI (by omega) (hs_MO) (fun _ => rfl) (fun _ => rfl) kd_Mo_init_294 (fun H locs hI => ?_)
  have h0 := zc_0.ofur hI h0 (by omega)
  refine zr_aload_n hx hb kd_Mo_init_297 hl rfl ?_
  refine lv_bipush (v := 8) hx hb kd_Mo_init_298 (by decide) ?_
  refine zc_newa hS hK hI hsz h0 ((by decide +kernel : zs 177 = (1, 8))) (Or.inr (Or.inl ⟨rfl, rfl⟩)) (by decide) rfl (by decide) (by first | decide | (simp only [zc_rm]; omega)) (by first | decide | (simp only [zc_rm]; omega)) kd_Mo_init_300 (fun H hI => ?_)
  have hsz := zc_sz hsz 1
  have h0 := h0.up (Nat.le_succ _)
  refine zc_put (k := 26) (ty := (.array .boolean)) hS hK hname ⟨kt_8, 32, kv_8, rfl, ki_8, ko_8, kn_8, by decide, by decide +kernel, rfl, by decide +kernel, rfl, zw_mem (i := 1067) (by decide +kernel) (by decide +kernel)⟩ hI (by omega) (hs_MO) (fun _ => rfl) (fun _ => rfl) kd_Mo_init_302 (fun H locs hI => ?_)
  have h0 := zc_0.ofur hI h0 (by omega)
  refine zr_aload_n hx hb kd_Mo_init_305 hl rfl ?_
  refine lv_sipush (v := 8192) hx hb kd_Mo_init_306 (by decide) ?_
  refine zc_newa hS hK hI hsz h0 ((by decide +kernel : zs 178 = (0, 8192))) (Or.inl ⟨rfl, rfl⟩) (by decide) rfl (by decide) (by first | decide | (simp only [zc_rm]; omega)) (by first | decide | (simp only [zc_rm]; omega)) kd_Mo_init_309 (fun H hI => ?_)
  have hsz := zc_sz hsz 1
  have h0 := h0.up (Nat.le_succ _)
  refine zc_put (k := 27) (ty := (.array .int)) hS hK hname ⟨kt_8, 32, kv_8, rfl, ki_8, ko_8, kn_8, by decide, by decide +kernel, rfl, by decide +kernel, rfl, zw_mem (i := 1068) (by decide +kernel) (by decide +kernel)⟩ hI (by omega) (hs_MO) (fun _ => rfl) (fun _ => rfl) kd_Mo_init_311 (fun H locs hI => ?_)
  have h0 := zc_0.ofur hI h0 (by omega)
  refine zr_aload_n hx hb kd_Mo_init_314 hl rfl ?_
  refine lv_sipush (v := 1024) hx hb kd_Mo_init_315 (by decide) ?_
  refine zc_newa hS hK hI hsz h0 ((by decide +kernel : zs 179 = (0, 1024))) (Or.inl ⟨rfl, rfl⟩) (by decide) rfl (by decide) (by first | decide | (simp only [zc_rm]; omega)) (by first | decide | (simp only [zc_rm]; omega)) kd_Mo_init_318 (fun H hI => ?_)
  have hsz := zc_sz hsz 1
  have h0 := h0.up (Nat.le_succ _)
  refine zc_put (k := 28) (ty := (.array .int)) hS hK hname ⟨kt_8, 32, kv_8, rfl, ki_8, ko_8, kn_8, by decide, by decide +kernel, rfl, by decide +kernel, rfl, zw_mem (i := 1069) (by decide +kernel) (by decide +kernel)⟩ hI (by omega) (hs_MO) (fun _ => rfl) (fun _ => rfl) kd_Mo_init_320 (fun H locs hI => ?_)
  have h0 := zc_0.ofur hI h0 (by omega)
  refine zr_aload_n hx hb kd_Mo_init_323 hl rfl ?_
  refine lv_sipush (v := 1024) hx hb kd_Mo_init_324 (by decide) ?_
  refine zc_newa hS hK hI hsz h0 ((by decide +kernel : zs 180 = (0, 1024))) (Or.inl ⟨rfl, rfl⟩) (by decide) rfl (by decide) (by first | decide | (simp only [zc_rm]; omega)) (by first | decide | (simp only [zc_rm]; omega)) kd_Mo_init_327 (fun H hI => ?_)
  have hsz := zc_sz hsz 1
  have h0 := h0.up (Nat.le_succ _)
  refine zc_put (k := 29) (ty := (.array .int)) hS hK hname ⟨kt_8, 32, kv_8, rfl, ki_8, ko_8, kn_8, by decide, by decide +kernel, rfl, by decide +kernel, rfl, zw_mem (i := 1070) (by decide +kernel) (by decide +kernel)⟩ hI (by omega) (hs_MO) (fun _ => rfl) (fun _ => rfl) kd_Mo_init_329 (fun H locs hI => ?_)
  have h0 := zc_0.ofur hI h0 (by omega)
  refine zr_aload_n hx hb kd_Mo_init_332 hl rfl ?_
  refine lv_sipush (v := 512) hx hb kd_Mo_init_333 (by decide) ?_
  refine zc_newa hS hK hI hsz h0 ((by decide +kernel : zs 181 = (0, 512))) (Or.inl ⟨rfl, rfl⟩) (by decide) rfl (by decide) (by first | decide | (simp only [zc_rm]; omega)) (by first | decide | (simp only [zc_rm]; omega)) kd_Mo_init_336 (fun H hI => ?_)
  have hsz := zc_sz hsz 1
  have h0 := h0.up (Nat.le_succ _)
  refine zc_put (k := 30) (ty := (.array .int)) hS hK hname ⟨kt_8, 32, kv_8, rfl, ki_8, ko_8, kn_8, by decide, by decide +kernel, rfl, by decide +kernel, rfl, zw_mem (i := 1071) (by decide +kernel) (by decide +kernel)⟩ hI (by omega) (hs_MO) (fun _ => rfl) (fun _ => rfl) kd_Mo_init_338 (fun H locs hI => ?_)
  have h0 := zc_0.ofur hI h0 (by omega)
  exact zc_vret hS hK hlk hr hI kd_Mo_init_341 (rfl)

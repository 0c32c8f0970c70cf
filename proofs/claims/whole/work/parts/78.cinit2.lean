/-! Constructors: strip, shelf, desk, mixer. -/
def zc_e (M : zm_T) (a : Nat) : Nat → zm_T
  | 0 => M
  | i + 1 => zm_ur (zm_ur (zc_e M a i) (a + 8 + 2 * i) 0 (some (a + 8 + 2 * i + 1))) (a + 1) i (some (a + 8 + 2 * i))
def zc_S6 (M : zm_T) (a : Nat) (v : Int32) : zm_T := zm_ui (zm_ur (zm_ur (zm_ur (zc_F (zm_ur M a 0 (some (a + 1))) (a + 2)) a 1 (some (a + 2))) a 2 (some (a + 6))) a 3 (some (a + 7))) a 4 v
def zc_S (M : zm_T) (a : Nat) (v : Int32) : zm_T := zc_e (zc_S6 M a v) a 3
theorem zc_e_r {M : zm_T} {a : Nat} : ∀ i, (zc_e M a i).2.1 a 0 = M.2.1 a 0
  | 0 => rfl
  | i + 1 => by
    show (if a = a + 1 ∧ 0 = i then _ else (if a = a + 8 + 2 * i ∧ 0 = 0 then _ else (zc_e M a i).2.1 a 0)) = _
    rw [if_neg (by omega), if_neg (by omega), zc_e_r i]
/-- the shape of a strip at place a -/
def zc_sh (a : Nat) : Prop := zs a = (10 + 5, 0) ∧ zs (a + 1) = (5, 3) ∧ zs (a + 2) = (10 + 3, 0) ∧ zs (a + 2 + 1) = (0, 8) ∧ zs (a + 2 + 2) = (0, 8) ∧ zs (a + 2 + 3) = (1, 8) ∧ zs (a + 6) = (0, 8) ∧ zs (a + 7) = (0, 1024) ∧ ∀ i, i < 3 → zs (a + 8 + 2 * i) = (10 + 2, 0) ∧ zs (a + 8 + 2 * i + 1) = (0, 32)
theorem zc_sh_s : ∀ s, s < 8 → zc_sh (23 + 14 * s) := by unfold zc_sh; decide +kernel
set_option maxRecDepth 100000 in
set_option maxHeartbeats 4000000 in
theorem c_St_init (l : Launch) (G : zg_T) (M : zm_T) (a : Nat) (v : Int32) (hz : zc_sh a) (h0 : zc_0 (a + 1) M) : Met l ky_St_init (zr_ws ky_St_init kc_St_init 3 none) (zc_rm 3 (13) (1178)) (va_Pc [.ref (G.2.2.1 + a), .int v] (zc_B G (a + 1) M)) (va_Qv (fun (M' : zm_T) => M' = zc_S M a v) (zm_B G (a + 1 + 13) zs) (zm_A G)) (13) (1178) (zm_A G) := by
  refine zc_met (by decide +kernel) (Nat.le_of_ble_eq_true rfl) ?_
  intro p0 e0 s0 m0 below meth c0 ls hS hK hAO hsz hname hlk hr hl hI
  have hx := hS.1
  have hb := hS.2.1
  have hl : zl_has ls 3 [some (.ref (G.2.2.1 + a)), some (.int v), none] := hl
  obtain ⟨hs_a, z1, z2, z3, z4, z5, z6, z7, ze⟩ := hz
  have loop : ∀ (k i : Nat) (H : Heap) (locs : List Loc) (ls : Array Slot), i + k = 3 → zl_has ls 3 [some (.ref (G.2.2.1 + a)), some (.int v), some (.int (nI i))] → zc_0 (a + 8 + 2 * i) (zc_e (zc_S6 M a v) a i) → s0.heap.size + (7 + 2 * i) = G.2.2.1 + (a + 8 + 2 * i) → zm_I G (a + 8 + 2 * i) zs (zc_e (zc_S6 M a v) a i) s0 H locs → W p0 l e0 (zc_rm 3 (13) (1178)) s0 m0 ([.ref (G.2.2.1 + a), .int v] : List Value).toArray below meth c0 H locs (7 + 2 * i) (1064 + 38 * i) (MQ below (va_Qv (fun (M' : zm_T) => M' = zc_S M a v) (zm_B G (a + 1 + 13) zs) (zm_A G)) ([.ref (G.2.2.1 + a), .int v] : List Value).toArray s0 (13) (1178) (zm_A G)) (F0 m0 47 ls []) := by
    intro k
    induction k with
    | zero =>
      intro i H locs ls hi hl h0 hsz hI
      obtain rfl : i = 3 := by omega
      refine zr_iload_n hx hb kd_St_init_47 hl rfl ?_
      refine lv_iconst (v := 3) hx hb kd_St_init_48 (by decide) ?_
      refine lv_icmp_ge (tgt := 71) hx hb kd_St_init_49 (by decide) (fun h49 => ?_) (fun h49 => absurd (by decide) h49)
      exact zc_vret hS hK hlk hr hI kd_St_init_71 (rfl)
    | succ k ih =>
      intro i H locs ls hi hl h0 hsz hI
      have ei : (nI i).toNatClampNeg = i := zn_cl (by omega)
      have hr0 : (zc_e (zc_S6 M a v) a i).2.1 a 0 = some (a + 1) := by
        rw [zc_e_r]
        show (if a = a ∧ 0 = 3 then _ else if a = a ∧ 0 = 2 then _ else if a = a ∧ 0 = 1 then _ else if a = a + 2 ∧ 0 = 2 then _ else if a = a + 2 ∧ 0 = 1 then _ else if a = a + 2 ∧ 0 = 0 then _ else if a = a ∧ 0 = 0 then _ else _) = _
        rw [if_neg (by omega), if_neg (by omega), if_neg (by omega), if_neg (by omega), if_neg (by omega), if_neg (by omega), if_pos ⟨rfl, rfl⟩]
      refine zr_iload_n hx hb kd_St_init_47 hl rfl ?_
      refine lv_iconst (v := 3) hx hb kd_St_init_48 (by decide) ?_
      refine lv_icmp_ge (tgt := 71) hx hb kd_St_init_49 (by decide) (fun h49 => absurd h49 (zn_ge (n := 3) rfl (by omega) (by decide))) (fun h49 => ?_)
      refine zr_aload_n hx hb kd_St_init_52 hl rfl ?_
      refine zr_getr hS hK kf_St_11 hI (by omega) hs_a hr0 kd_St_init_53 ?_
      refine zr_iload_n hx hb kd_St_init_56 hl rfl ?_
      refine zc_new hS hK ⟨"StripMixer$Effect", kt_2, kv_2, rfl, ki_2, ko_2, (zw_mem (i := 131) (by decide +kernel) (by decide +kernel)), (zw_mem (i := 158) (by decide +kernel) (by decide +kernel)), (zw_mem (i := 38) (by decide +kernel) (by decide +kernel)), by decide +kernel⟩ hI hsz h0 ((ze i (by omega)).1) (by first | decide | (simp only [zc_rm]; omega)) (by first | decide | (simp only [zc_rm]; omega)) kd_St_init_57 (fun H hI => ?_)
      have hsz := zc_sz hsz 1
      have h0 := h0.up (Nat.le_succ _)
      refine lv_dup hx hb kd_St_init_60 rfl ?_
      refine zc_call hS hK hAO (c_Ef_init l G _ (a + 8 + 2 * i) (a + 8 + 2 * i + 1) (by omega) (ze i (by omega)).1 (ze i (by omega)).2 h0) ⟨Or.inr ⟨"StripMixer", zw_memN (i := 159) (by decide +kernel) (by decide +kernel)⟩, (zw_mem (i := 160) (by decide +kernel) (by decide +kernel)), (zw_mem (i := 38) (by decide +kernel) (by decide +kernel)), (zw_mem (i := 161) (by decide +kernel) (by decide +kernel)), ⟨by decide +kernel, by decide +kernel, by decide +kernel⟩, rfl⟩ hI hsz rfl hl.1 (Nat.le_of_ble_eq_true rfl) (by decide) (by constructor <;> first | decide | (simp only [zc_rm]; omega)) kd_St_init_61 rfl (fun M61 H locs hp61 hI => ?_)
      have hsz := zc_sz hsz 1
      subst hp61
      have h0 := (h0.up (Nat.le_succ _)).ur (a := a + 8 + 2 * i) (k := 0) (v := some (a + 8 + 2 * i + 1)) (by omega)
      refine zc_ast hS hK hI (by omega) z1 (by decide) (by decide) rfl (by omega) (ze i (by omega)).1 (ci := 2) (C := "StripMixer$Effect") rfl (vp_in_nI (by omega) (by decide)) kd_St_init_64 (fun H locs hI => ?_)
      have h0 := zc_0.ofur hI h0 (by omega)
      refine zr_iinc hx hb kd_St_init_65 hl (by decide) rfl rfl (fun ls hl => ?_)
      refine lv_goto (tgt := 47) hx hb kd_St_init_68 (by decide) ?_
      rw [ei] at hI h0
      exact ih (i + 1) H locs ls (by omega) (by rw [nI_succ]; exact hl) h0 hsz hI
  refine zr_aload_n hx hb kd_St_init_0 hl rfl ?_
  refine zc_obj hS (zw_mem (i := 130) (by decide +kernel) (by decide +kernel)) hl.1 (by decide) kd_St_init_1 ?_
  refine zr_aload_n hx hb kd_St_init_4 hl rfl ?_
  refine lv_iconst (v := 3) hx hb kd_St_init_5 (by decide) ?_
  refine zc_newq (kd := 5) hS hK (hAO "StripMixer$Effect" (by decide)) hI hsz h0 (z1) (zw_mem (i := 131) (by decide +kernel) (by decide +kernel)) (by decide) (by decide) rfl (by decide) rfl (by decide) (by first | decide | (simp only [zc_rm]; omega)) (by first | decide | (simp only [zc_rm]; omega)) kd_St_init_6 (fun H hI => ?_)
  have hsz := zc_sz hsz 1
  have h0 := h0.up (Nat.le_succ _)
  refine zc_put (k := 0) (ty := (.array (.object "StripMixer$Effect"))) hS hK hname ⟨kt_5, 9, kv_5, rfl, ki_5, ko_5, kn_5, by decide, by decide +kernel, rfl, by decide +kernel, rfl, zw_mem (i := 182) (by decide +kernel) (by decide +kernel)⟩ hI (by omega) (hs_a) (fun _ => rfl) (fun _ => rfl) kd_St_init_9 (fun H locs hI => ?_)
  have h0 := zc_0.ofur hI h0 (by omega)
  refine zr_aload_n hx hb kd_St_init_12 hl rfl ?_
  refine zc_new hS hK ⟨"StripMixer$Fader", kt_3, kv_3, rfl, ki_3, ko_3, (zw_mem (i := 133) (by decide +kernel) (by decide +kernel)), (zw_mem (i := 134) (by decide +kernel) (by decide +kernel)), (zw_mem (i := 37) (by decide +kernel) (by decide +kernel)), by decide +kernel⟩ hI hsz h0 (z2) (by first | decide | (simp only [zc_rm]; omega)) (by first | decide | (simp only [zc_rm]; omega)) kd_St_init_13 (fun H hI => ?_)
  have hsz := zc_sz hsz 1
  have h0 := h0.up (Nat.le_succ _)
  refine lv_dup hx hb kd_St_init_16 rfl ?_
  refine zc_call hS hK hAO (c_Fa_init l G _ (a + 2) z2 z3 z4 z5 h0) ⟨Or.inr ⟨"StripMixer", zw_memN (i := 135) (by decide +kernel) (by decide +kernel)⟩, (zw_mem (i := 136) (by decide +kernel) (by decide +kernel)), (zw_mem (i := 37) (by decide +kernel) (by decide +kernel)), (zw_mem (i := 137) (by decide +kernel) (by decide +kernel)), ⟨by decide +kernel, by decide +kernel, by decide +kernel⟩, rfl⟩ hI hsz rfl hl.1 (Nat.le_of_ble_eq_true rfl) (by decide) (by constructor <;> first | decide | (simp only [zc_rm]; omega)) kd_St_init_17 rfl (fun M17 H locs hp17 hI => ?_)
  have hsz := zc_sz hsz 3
  subst hp17
  have h0 : zc_0 (a + 1 + 1 + 1 + 3) (zc_F (zm_ur M a 0 (some (a + 1))) (a + 2)) := ((((h0.up (Nat.le_add_right _ 3)).ur (by omega)).ur (by omega)).ur (by omega)).ui (by omega)
  refine zc_put (k := 1) (ty := (.object "StripMixer$Fader")) hS hK hname ⟨kt_5, 9, kv_5, rfl, ki_5, ko_5, kn_5, by decide, by decide +kernel, rfl, by decide +kernel, rfl, zw_mem (i := 184) (by decide +kernel) (by decide +kernel)⟩ hI (by omega) (hs_a) (fun _ => rfl) (fun _ => rfl) kd_St_init_20 (fun H locs hI => ?_)
  have h0 := zc_0.ofur hI h0 (by omega)
  refine zr_aload_n hx hb kd_St_init_23 hl rfl ?_
  refine lv_bipush (v := 8) hx hb kd_St_init_24 (by decide) ?_
  refine zc_newa hS hK hI hsz h0 (z6) (Or.inl ⟨rfl, rfl⟩) (by decide) rfl (by decide) (by first | decide | (simp only [zc_rm]; omega)) (by first | decide | (simp only [zc_rm]; omega)) kd_St_init_26 (fun H hI => ?_)
  have hsz := zc_sz hsz 1
  have h0 := h0.up (Nat.le_succ _)
  refine zc_put (k := 2) (ty := (.array .int)) hS hK hname ⟨kt_5, 9, kv_5, rfl, ki_5, ko_5, kn_5, by decide, by decide +kernel, rfl, by decide +kernel, rfl, zw_mem (i := 186) (by decide +kernel) (by decide +kernel)⟩ hI (by omega) (hs_a) (fun _ => rfl) (fun _ => rfl) kd_St_init_28 (fun H locs hI => ?_)
  have h0 := zc_0.ofur hI h0 (by omega)
  refine zr_aload_n hx hb kd_St_init_31 hl rfl ?_
  refine lv_sipush (v := 1024) hx hb kd_St_init_32 (by decide) ?_
  refine zc_newa hS hK hI hsz h0 (z7) (Or.inl ⟨rfl, rfl⟩) (by decide) rfl (by decide) (by first | decide | (simp only [zc_rm]; omega)) (by first | decide | (simp only [zc_rm]; omega)) kd_St_init_35 (fun H hI => ?_)
  have hsz := zc_sz hsz 1
  have h0 := h0.up (Nat.le_succ _)
  refine zc_put (k := 3) (ty := (.array .int)) hS hK hname ⟨kt_5, 9, kv_5, rfl, ki_5, ko_5, kn_5, by decide, by decide +kernel, rfl, by decide +kernel, rfl, zw_mem (i := 189) (by decide +kernel) (by decide +kernel)⟩ hI (by omega) (hs_a) (fun _ => rfl) (fun _ => rfl) kd_St_init_37 (fun H locs hI => ?_)
  have h0 := zc_0.ofur hI h0 (by omega)
  refine zr_aload_n hx hb kd_St_init_40 hl rfl ?_
  refine zr_iload_n hx hb kd_St_init_41 hl rfl ?_
  refine zr_puti hS hK kf_St_31 hI (by omega) hs_a rfl rfl kd_St_init_42 (fun H locs hI => ?_)
  refine lv_iconst (v := 0) hx hb kd_St_init_45 (by decide) ?_
  refine zr_istore_n hx hb kd_St_init_46 hl (by decide) rfl (fun ls hl => ?_)
  exact loop 3 0 H locs ls (by omega) hl (h0.ui (by omega)) hsz hI
def zc_c (M : zm_T) : Nat → zm_T
  | 0 => M
  | i + 1 => zm_ur (zc_c M i) 3 i (some (4 + i))
theorem zc_c_r {M : zm_T} {b j : Nat} (h : b ≠ 3) : ∀ i, (zc_c M i).2.1 b j = M.2.1 b j
  | 0 => rfl
  | i + 1 => by
    show (if b = 3 ∧ j = i then _ else (zc_c M i).2.1 b j) = _
    rw [if_neg (by omega), zc_c_r h i]
set_option maxRecDepth 100000 in
set_option maxHeartbeats 4000000 in
theorem c_Sh_init (l : Launch) (G : zg_T) (M : zm_T)  (h0 : zc_0 (3) M) : Met l ky_Sh_init (zr_ws ky_Sh_init kc_Sh_init 2 none) (zc_rm 2 (17) (144)) (va_Pc [.ref (G.2.2.1 + 2)] (zc_B G (3) M)) (va_Qv (fun (M' : zm_T) => M' = zc_c (zm_ur M 2 0 (some 3)) 16) (zm_B G (3 + 17) zs) (zm_A G)) (17) (144) (zm_A G) := by
  refine zc_met (by decide +kernel) (Nat.le_of_ble_eq_true rfl) ?_
  intro p0 e0 s0 m0 below meth c0 ls hS hK hAO hsz hname hlk hr hl hI
  have hx := hS.1
  have hb := hS.2.1
  have hl : zl_has ls 2 [some (.ref (G.2.2.1 + 2)), none] := hl
  have loop : ∀ (k i : Nat) (H : Heap) (locs : List Loc) (ls : Array Slot), i + k = 16 → zl_has ls 2 [some (.ref (G.2.2.1 + 2)), some (.int (nI i))] → zc_0 (4 + i) (zc_c (zm_ur M 2 0 (some 3)) i) → s0.heap.size + (1 + i) = G.2.2.1 + (4 + i) → zm_I G (4 + i) zs (zc_c (zm_ur M 2 0 (some 3)) i) s0 H locs → W p0 l e0 (zc_rm 2 (17) (144)) s0 m0 ([.ref (G.2.2.1 + 2)] : List Value).toArray below meth c0 H locs (1 + i) (16 + 8 * i) (MQ below (va_Qv (fun (M' : zm_T) => M' = zc_c (zm_ur M 2 0 (some 3)) 16) (zm_B G (3 + 17) zs) (zm_A G)) ([.ref (G.2.2.1 + 2)] : List Value).toArray s0 (17) (144) (zm_A G)) (F0 m0 15 ls []) := by
    intro k
    induction k with
    | zero =>
      intro i H locs ls hi hl h0 hsz hI
      obtain rfl : i = 16 := by omega
      refine zr_iload_n hx hb kd_Sh_init_15 hl rfl ?_
      refine lv_bipush (v := 16) hx hb kd_Sh_init_16 (by decide) ?_
      refine lv_icmp_ge (tgt := 40) hx hb kd_Sh_init_18 (by decide) (fun h18 => ?_) (fun h18 => absurd (by decide) h18)
      exact zc_vret hS hK hlk hr hI kd_Sh_init_40 (rfl)
    | succ k ih =>
      intro i H locs ls hi hl h0 hsz hI
      have ei : (nI i).toNatClampNeg = i := zn_cl (by omega)
      have hr0 : (zc_c (zm_ur M 2 0 (some 3)) i).2.1 2 0 = some 3 := by rw [zc_c_r (by decide)]; rfl
      refine zr_iload_n hx hb kd_Sh_init_15 hl rfl ?_
      refine lv_bipush (v := 16) hx hb kd_Sh_init_16 (by decide) ?_
      refine lv_icmp_ge (tgt := 40) hx hb kd_Sh_init_18 (by decide) (fun h18 => absurd h18 (zn_ge (n := 16) rfl (by omega) (by decide))) (fun h18 => ?_)
      refine zr_aload_n hx hb kd_Sh_init_21 hl rfl ?_
      refine zr_getr hS hK kf_Sh_11 hI (by omega) (by decide +kernel : zs 2 = (10 + 4, 0)) hr0 kd_Sh_init_22 ?_
      refine zr_iload_n hx hb kd_Sh_init_25 hl rfl ?_
      refine zc_new hS hK ⟨"StripMixer$Clip", kt_0, kv_0, rfl, ki_0, ko_0, (zw_mem (i := 76) (by decide +kernel) (by decide +kernel)), (zw_mem (i := 78) (by decide +kernel) (by decide +kernel)), (zw_mem (i := 34) (by decide +kernel) (by decide +kernel)), by decide +kernel⟩ hI hsz h0 (zs_cl i (by omega)) (by first | decide | (simp only [zc_rm]; omega)) (by first | decide | (simp only [zc_rm]; omega)) kd_Sh_init_26 (fun H hI => ?_)
      have hsz := zc_sz hsz 1
      have h0 := h0.up (Nat.le_succ _)
      refine lv_dup hx hb kd_Sh_init_29 rfl ?_
      refine zc_call hS hK hAO (c_Cl_init l G _ (4 + i) (4 + i + 1) h0) ⟨Or.inr ⟨"StripMixer", zw_memN (i := 79) (by decide +kernel) (by decide +kernel)⟩, (zw_mem (i := 80) (by decide +kernel) (by decide +kernel)), (zw_mem (i := 34) (by decide +kernel) (by decide +kernel)), (zw_mem (i := 81) (by decide +kernel) (by decide +kernel)), ⟨by decide +kernel, by decide +kernel, by decide +kernel⟩, rfl⟩ hI hsz rfl hl.1 (Nat.le_of_ble_eq_true rfl) (by decide) (by constructor <;> first | decide | (simp only [zc_rm]; omega)) kd_Sh_init_30 rfl (fun M30 H locs hp30 hI => ?_)
      have hsz := zc_sz hsz 0
      subst hp30
      refine zc_ast hS hK hI (by omega) (by decide +kernel : zs 3 = (4, 16)) (by decide) (by decide) rfl (by omega) (zs_cl i (by omega)) (ci := 0) (C := "StripMixer$Clip") rfl (vp_in_nI (by omega) (by decide)) kd_Sh_init_33 (fun H locs hI => ?_)
      have h0 := zc_0.ofur hI h0 (by omega)
      refine zr_iinc hx hb kd_Sh_init_34 hl (by decide) rfl rfl (fun ls hl => ?_)
      refine lv_goto (tgt := 15) hx hb kd_Sh_init_37 (by decide) ?_
      rw [ei] at hI h0
      exact ih (i + 1) H locs ls (by omega) (by rw [nI_succ]; exact hl) h0 hsz hI
  refine zr_aload_n hx hb kd_Sh_init_0 hl rfl ?_
  refine zc_obj hS (zw_mem (i := 75) (by decide +kernel) (by decide +kernel)) hl.1 (by decide) kd_Sh_init_1 ?_
  refine zr_aload_n hx hb kd_Sh_init_4 hl rfl ?_
  refine lv_bipush (v := 16) hx hb kd_Sh_init_5 (by decide) ?_
  refine zc_newq (kd := 4) hS hK (hAO "StripMixer$Clip" (by decide)) hI hsz h0 (by decide +kernel) (zw_mem (i := 76) (by decide +kernel) (by decide +kernel)) (by decide) (by decide) rfl (by decide) rfl (by decide) (by first | decide | (simp only [zc_rm]; omega)) (by first | decide | (simp only [zc_rm]; omega)) kd_Sh_init_7 (fun H hI => ?_)
  have hsz := zc_sz hsz 1
  have h0 := h0.up (Nat.le_succ _)
  refine zc_put (k := 0) (ty := (.array (.object "StripMixer$Clip"))) hS hK hname ⟨kt_4, 1, kv_4, rfl, ki_4, ko_4, kn_4, by decide, by decide +kernel, rfl, by decide +kernel, rfl, zw_mem (i := 113) (by decide +kernel) (by decide +kernel)⟩ hI (by omega) ((by decide +kernel : zs 2 = (10 + 4, 0))) (fun _ => rfl) (fun _ => rfl) kd_Sh_init_10 (fun H locs hI => ?_)
  have h0 := zc_0.ofur hI h0 (by omega)
  refine lv_iconst (v := 0) hx hb kd_Sh_init_13 (by decide) ?_
  refine zr_istore_n hx hb kd_Sh_init_14 hl (by decide) rfl (fun ls hl => ?_)
  exact loop 16 0 H locs ls (by omega) hl h0 hsz hI
def zc_d (M : zm_T) : Nat → zm_T
  | 0 => M
  | i + 1 => zm_ur (zc_S (zc_d M i) (23 + 14 * i) (if i = 7 then -1 else 7)) 21 i (some (23 + 14 * i))
theorem zc_e_o {M : zm_T} {a b j : Nat} (h : b < a) : ∀ i, (zc_e M a i).2.1 b j = M.2.1 b j
  | 0 => rfl
  | i + 1 => by
    show (if b = a + 1 ∧ j = i then _ else (if b = a + 8 + 2 * i ∧ j = 0 then _ else (zc_e M a i).2.1 b j)) = _
    rw [if_neg (by omega), if_neg (by omega), zc_e_o h i]
theorem zc_S_o {M : zm_T} {a b j : Nat} {v : Int32} (h : b < a) : (zc_S M a v).2.1 b j = M.2.1 b j := by
  unfold zc_S
  rw [zc_e_o h]
  show (if b = a ∧ j = 3 then _ else if b = a ∧ j = 2 then _ else if b = a ∧ j = 1 then _ else if b = a + 2 ∧ j = 2 then _ else if b = a + 2 ∧ j = 1 then _ else if b = a + 2 ∧ j = 0 then _ else if b = a ∧ j = 0 then _ else M.2.1 b j) = _
  rw [if_neg (by omega), if_neg (by omega), if_neg (by omega), if_neg (by omega), if_neg (by omega), if_neg (by omega), if_neg (by omega)]
theorem zc_e_0 {M : zm_T} {a : Nat} (h : zc_0 (a + 8) M) : ∀ i, zc_0 (a + 8 + 2 * i) (zc_e M a i)
  | 0 => h
  | i + 1 => ((((zc_e_0 h i).up (by omega)).ur (by omega)).ur (by omega))
theorem zc_S_0 {M : zm_T} {a : Nat} {v : Int32} (h : zc_0 (a + 1) M) : zc_0 (a + 14) (zc_S M a v) :=
  zc_e_0 (M := zc_S6 M a v) (((((((((h.up (by omega)).ur (by omega)).ur (by omega)).ur (by omega)).ur (by omega)).ui (by omega)).ur (by omega)).ur (by omega)).ur (by omega) |>.ui (by omega)) 3
theorem zc_S_0' {M M' : zm_T} {a : Nat} {v : Int32} (e : M' = zc_S M a v) (h : zc_0 (a + 1) M) : zc_0 (a + 14) M' := by rw [e]; exact zc_S_0 h
theorem zc_d_r {M : zm_T} {b j : Nat} (h : b < 21) : ∀ i, (zc_d M i).2.1 b j = M.2.1 b j
  | 0 => rfl
  | i + 1 => by
    show (if b = 21 ∧ j = i then _ else (zc_S (zc_d M i) (23 + 14 * i) _).2.1 b j) = _
    rw [if_neg (by omega), zc_S_o (by omega), zc_d_r h i]
set_option maxRecDepth 100000 in
set_option maxHeartbeats 4000000 in
theorem c_De_init (l : Launch) (G : zg_T) (M : zm_T)  (h0 : zc_0 (21) M) : Met l ky_De_init (zr_ws ky_De_init kc_De_init 2 none) (zc_rm 4 (114) (9512)) (va_Pc [.ref (G.2.2.1 + 20)] (zc_B G (21) M)) (va_Qv (fun (M' : zm_T) => M' = zc_d (zm_ur (zm_ur M 20 0 (some 21)) 20 1 (some 22)) 8) (zm_B G (21 + 114) zs) (zm_A G)) (114) (9512) (zm_A G) := by
  refine zc_met (by decide +kernel) (Nat.le_of_ble_eq_true rfl) ?_
  intro p0 e0 s0 m0 below meth c0 ls hS hK hAO hsz hname hlk hr hl hI
  have hx := hS.1
  have hb := hS.2.1
  have hl : zl_has ls 2 [some (.ref (G.2.2.1 + 20)), none] := hl
  have loop : ∀ (k i : Nat) (H : Heap) (locs : List Loc) (ls : Array Slot), i + k = 8 → zl_has ls 2 [some (.ref (G.2.2.1 + 20)), some (.int (nI i))] → zc_0 (23 + 14 * i) (zc_d (zm_ur (zm_ur M 20 0 (some 21)) 20 1 (some 22)) i) → s0.heap.size + (2 + 14 * i) = G.2.2.1 + (23 + 14 * i) → zm_I G (23 + 14 * i) zs (zc_d (zm_ur (zm_ur M 20 0 (some 21)) 20 1 (some 22)) i) s0 H locs → W p0 l e0 (zc_rm 4 (114) (9512)) s0 m0 ([.ref (G.2.2.1 + 20)] : List Value).toArray below meth c0 H locs (2 + 14 * i) (16 + 1187 * i) (MQ below (va_Qv (fun (M' : zm_T) => M' = zc_d (zm_ur (zm_ur M 20 0 (some 21)) 20 1 (some 22)) 8) (zm_B G (21 + 114) zs) (zm_A G)) ([.ref (G.2.2.1 + 20)] : List Value).toArray s0 (114) (9512) (zm_A G)) (F0 m0 23 ls []) := by
    intro k
    induction k with
    | zero =>
      intro i H locs ls hi hl h0 hsz hI
      obtain rfl : i = 8 := by omega
      refine zr_iload_n hx hb kd_De_init_23 hl rfl ?_
      refine lv_bipush (v := 8) hx hb kd_De_init_24 (by decide) ?_
      refine lv_icmp_ge (tgt := 60) hx hb kd_De_init_26 (by decide) (fun h26 => ?_) (fun h26 => absurd (by decide) h26)
      exact zc_vret hS hK hlk hr hI kd_De_init_60 (rfl)
    | succ k ih =>
      intro i H locs ls hi hl h0 hsz hI
      have ei : (nI i).toNatClampNeg = i := zn_cl (by omega)
      have hr0 : (zc_d (zm_ur (zm_ur M 20 0 (some 21)) 20 1 (some 22)) i).2.1 20 0 = some 21 := by rw [zc_d_r (by decide)]; rfl
      have e7 : (nI i = (7 : Int32)) ↔ i = 7 := ⟨fun h => by
        have : (nI i).toInt = (7 : Int32).toInt := by rw [h]
        rw [nI_toInt (by omega), show (7 : Int32).toInt = 7 from by decide] at this
        omega, fun h => by rw [h]; rfl⟩
      refine zr_iload_n hx hb kd_De_init_23 hl rfl ?_
      refine lv_bipush (v := 8) hx hb kd_De_init_24 (by decide) ?_
      refine lv_icmp_ge (tgt := 60) hx hb kd_De_init_26 (by decide) (fun h26 => absurd h26 (zn_ge (n := 8) rfl (by omega) (by decide))) (fun h26 => ?_)
      refine zr_aload_n hx hb kd_De_init_29 hl rfl ?_
      refine zr_getr hS hK kf_De_11 hI (by omega) (by decide +kernel : zs 20 = (10 + 1, 0)) hr0 kd_De_init_30 ?_
      refine zr_iload_n hx hb kd_De_init_33 hl rfl ?_
      refine zc_new hS hK ⟨"StripMixer$Strip", kt_5, kv_5, rfl, ki_5, ko_5, (zw_mem (i := 124) (by decide +kernel) (by decide +kernel)), (zw_mem (i := 126) (by decide +kernel) (by decide +kernel)), (zw_mem (i := 36) (by decide +kernel) (by decide +kernel)), by decide +kernel⟩ hI hsz h0 (zs_st0 i (by omega)) (by first | decide | (simp only [zc_rm]; omega)) (by first | decide | (simp only [zc_rm]; omega)) kd_De_init_34 (fun H hI => ?_)
      have hsz := zc_sz hsz 1
      have h0 := h0.up (Nat.le_succ _)
      refine lv_dup hx hb kd_De_init_37 rfl ?_
      refine zr_iload_n hx hb kd_De_init_38 hl rfl ?_
      refine lv_bipush (v := 7) hx hb kd_De_init_39 (by decide) ?_
      refine lv_icmp_ne (tgt := 48) hx hb kd_De_init_41 (by decide) (fun h41 => ?_) (fun h41 => ?_)
      · skip
        refine lv_bipush (v := 7) hx hb kd_De_init_48 (by decide) ?_
        refine zc_call hS hK hAO (c_St_init l G _ (23 + 14 * i) _ (zc_sh_s i (by omega)) h0) ⟨Or.inl (zw_mem (i := 127) (by decide +kernel) (by decide +kernel)), (zw_mem (i := 128) (by decide +kernel) (by decide +kernel)), (zw_mem (i := 36) (by decide +kernel) (by decide +kernel)), (zw_mem (i := 129) (by decide +kernel) (by decide +kernel)), ⟨by decide +kernel, by decide +kernel, by decide +kernel⟩, rfl⟩ hI hsz rfl hl.1 (Nat.le_of_ble_eq_true rfl) (by decide) (by constructor <;> first | decide | (simp only [zc_rm]; omega)) kd_De_init_50 rfl (fun M50 H locs hp50 hI => ?_)
        have hsz := zc_sz hsz 13
        have h0 := zc_S_0' hp50 h0
        subst hp50
        refine zc_ast hS hK hI (by omega) (by decide +kernel : zs 21 = (6, 8)) (by decide) (by decide) rfl (by omega) (zs_st0 i (by omega)) (ci := 5) (C := "StripMixer$Strip") rfl (vp_in_nI (by omega) (by decide)) kd_De_init_53 (fun H locs hI => ?_)
        have h0 := zc_0.ofur hI h0 (by omega)
        refine zr_iinc hx hb kd_De_init_54 hl (by decide) rfl rfl (fun ls hl => ?_)
        refine lv_goto (tgt := 23) hx hb kd_De_init_57 (by decide) ?_
        rw [ei] at hI h0
        first
        | (have e9 : zc_d (zm_ur (zm_ur M 20 0 (some 21)) 20 1 (some 22)) (i + 1) = zm_ur (zc_S (zc_d (zm_ur (zm_ur M 20 0 (some 21)) 20 1 (some 22)) i) (23 + 14 * i) 7) 21 i (some (23 + 14 * i)) := by
              show zm_ur (zc_S _ _ (if i = 7 then _ else _)) _ _ _ = _
              rw [if_neg (fun h => h41 (e7.mpr h))]
           rw [← e9] at hI h0
           exact ih (i + 1) H locs ls (by omega) (by rw [nI_succ]; exact hl) h0 hsz hI)
        | (have e9 : zc_d (zm_ur (zm_ur M 20 0 (some 21)) 20 1 (some 22)) (i + 1) = zm_ur (zc_S (zc_d (zm_ur (zm_ur M 20 0 (some 21)) 20 1 (some 22)) i) (23 + 14 * i) (-1)) 21 i (some (23 + 14 * i)) := by
              show zm_ur (zc_S _ _ (if i = 7 then _ else _)) _ _ _ = _
              rw [if_pos (e7.mp h41)]
           rw [← e9] at hI h0
           exact ih (i + 1) H locs ls (by omega) (by rw [nI_succ]; exact hl) h0 hsz hI)
      · skip
        refine lv_iconst (v := -1) hx hb kd_De_init_44 (by decide) ?_
        refine lv_goto (tgt := 50) hx hb kd_De_init_45 (by decide) ?_
        refine zc_call hS hK hAO (c_St_init l G _ (23 + 14 * i) _ (zc_sh_s i (by omega)) h0) ⟨Or.inl (zw_mem (i := 127) (by decide +kernel) (by decide +kernel)), (zw_mem (i := 128) (by decide +kernel) (by decide +kernel)), (zw_mem (i := 36) (by decide +kernel) (by decide +kernel)), (zw_mem (i := 129) (by decide +kernel) (by decide +kernel)), ⟨by decide +kernel, by decide +kernel, by decide +kernel⟩, rfl⟩ hI hsz rfl hl.1 (Nat.le_of_ble_eq_true rfl) (by decide) (by constructor <;> first | decide | (simp only [zc_rm]; omega)) kd_De_init_50 rfl (fun M50 H locs hp50 hI => ?_)
        have hsz := zc_sz hsz 13
        have h0 := zc_S_0' hp50 h0
        subst hp50
        refine zc_ast hS hK hI (by omega) (by decide +kernel : zs 21 = (6, 8)) (by decide) (by decide) rfl (by omega) (zs_st0 i (by omega)) (ci := 5) (C := "StripMixer$Strip") rfl (vp_in_nI (by omega) (by decide)) kd_De_init_53 (fun H locs hI => ?_)
        have h0 := zc_0.ofur hI h0 (by omega)
        refine zr_iinc hx hb kd_De_init_54 hl (by decide) rfl rfl (fun ls hl => ?_)
        refine lv_goto (tgt := 23) hx hb kd_De_init_57 (by decide) ?_
        rw [ei] at hI h0
        first
        | (have e9 : zc_d (zm_ur (zm_ur M 20 0 (some 21)) 20 1 (some 22)) (i + 1) = zm_ur (zc_S (zc_d (zm_ur (zm_ur M 20 0 (some 21)) 20 1 (some 22)) i) (23 + 14 * i) 7) 21 i (some (23 + 14 * i)) := by
              show zm_ur (zc_S _ _ (if i = 7 then _ else _)) _ _ _ = _
              rw [if_neg (fun h => h41 (e7.mpr h))]
           rw [← e9] at hI h0
           exact ih (i + 1) H locs ls (by omega) (by rw [nI_succ]; exact hl) h0 hsz hI)
        | (have e9 : zc_d (zm_ur (zm_ur M 20 0 (some 21)) 20 1 (some 22)) (i + 1) = zm_ur (zc_S (zc_d (zm_ur (zm_ur M 20 0 (some 21)) 20 1 (some 22)) i) (23 + 14 * i) (-1)) 21 i (some (23 + 14 * i)) := by
              show zm_ur (zc_S _ _ (if i = 7 then _ else _)) _ _ _ = _
              rw [if_pos (e7.mp h41)]
           rw [← e9] at hI h0
           exact ih (i + 1) H locs ls (by omega) (by rw [nI_succ]; exact hl) h0 hsz hI)
  refine zr_aload_n hx hb kd_De_init_0 hl rfl ?_
  refine zc_obj hS (zw_mem (i := 123) (by decide +kernel) (by decide +kernel)) hl.1 (by decide) kd_De_init_1 ?_
  refine zr_aload_n hx hb kd_De_init_4 hl rfl ?_
  refine lv_bipush (v := 8) hx hb kd_De_init_5 (by decide) ?_
  refine zc_newq (kd := 6) hS hK (hAO "StripMixer$Strip" (by decide)) hI hsz h0 (by decide +kernel) (zw_mem (i := 124) (by decide +kernel) (by decide +kernel)) (by decide) (by decide) rfl (by decide) rfl (by decide) (by first | decide | (simp only [zc_rm]; omega)) (by first | decide | (simp only [zc_rm]; omega)) kd_De_init_7 (fun H hI => ?_)
  have hsz := zc_sz hsz 1
  have h0 := h0.up (Nat.le_succ _)
  refine zc_put (k := 0) (ty := (.array (.object "StripMixer$Strip"))) hS hK hname ⟨kt_1, 2, kv_1, rfl, ki_1, ko_1, kn_1, by decide, by decide +kernel, rfl, by decide +kernel, rfl, zw_mem (i := 223) (by decide +kernel) (by decide +kernel)⟩ hI (by omega) ((by decide +kernel : zs 20 = (10 + 1, 0))) (fun _ => rfl) (fun _ => rfl) kd_De_init_10 (fun H locs hI => ?_)
  have h0 := zc_0.ofur hI h0 (by omega)
  refine zr_aload_n hx hb kd_De_init_13 hl rfl ?_
  refine lv_bipush (v := 8) hx hb kd_De_init_14 (by decide) ?_
  refine zc_newa hS hK hI hsz h0 (by decide +kernel) (Or.inl ⟨rfl, rfl⟩) (by decide) rfl (by decide) (by first | decide | (simp only [zc_rm]; omega)) (by first | decide | (simp only [zc_rm]; omega)) kd_De_init_16 (fun H hI => ?_)
  have hsz := zc_sz hsz 1
  have h0 := h0.up (Nat.le_succ _)
  refine zc_put (k := 1) (ty := (.array .int)) hS hK hname ⟨kt_1, 2, kv_1, rfl, ki_1, ko_1, kn_1, by decide, by decide +kernel, rfl, by decide +kernel, rfl, zw_mem (i := 225) (by decide +kernel) (by decide +kernel)⟩ hI (by omega) ((by decide +kernel : zs 20 = (10 + 1, 0))) (fun _ => rfl) (fun _ => rfl) kd_De_init_18 (fun H locs hI => ?_)
  have h0 := zc_0.ofur hI h0 (by omega)
  refine lv_iconst (v := 0) hx hb kd_De_init_21 (by decide) ?_
  refine zr_istore_n hx hb kd_De_init_22 hl (by decide) rfl (fun ls hl => ?_)
  exact loop 8 0 H locs ls (by omega) hl h0 hsz hI
theorem zc_c_0 {M : zm_T} (h : zc_0 4 M) : ∀ i, zc_0 (4 + i) (zc_c M i)
  | 0 => h
  | i + 1 => (((zc_c_0 h i).up (by omega)).ur (by omega))
theorem zc_d_0 {M : zm_T} (h : zc_0 23 M) : ∀ i, zc_0 (23 + 14 * i) (zc_d M i)
  | 0 => h
  | i + 1 => by
    have h1 := (zc_d_0 h i).up (Nat.le_succ _)
    have h3 := zc_S_0 (v := if i = 7 then -1 else 7) h1
    have h4 : zc_0 (23 + 14 * (i + 1)) (zc_S (zc_d M i) (23 + 14 * i) (if i = 7 then -1 else 7)) := h3.up (by omega)
    exact h4.ur (by omega)
def zc_t (M : zm_T) : Nat → zm_T
  | 0 => M
  | i + 1 => zm_ur (zm_ur (zc_t M i) (135 + 2 * i) 0 (some (135 + 2 * i + 1))) 1 i (some (135 + 2 * i))
theorem zm_ur_ne {M : zm_T} {a k b j : Nat} {v : Option Nat} (h : b ≠ a ∨ j ≠ k) : (zm_ur M a k v).2.1 b j = M.2.1 b j := if_neg (fun e => h.elim (fun h => h e.1) (fun h => h e.2))
theorem zm_ur_at {M : zm_T} {a k : Nat} {v : Option Nat} : (zm_ur M a k v).2.1 a k = v := if_pos ⟨rfl, rfl⟩
theorem zc_t_r {M : zm_T} {j : Nat} : ∀ i, (zc_t M i).2.1 0 j = M.2.1 0 j
  | 0 => rfl
  | i + 1 => by
    rw [zc_t, zm_ur_ne (Or.inl (by decide)), zm_ur_ne (Or.inl (by omega)), zc_t_r i]

/-! The reference: a clip's samples, a track's row. -/
/-- what a clip gives at its place k: sample x, level lv, ramps i and o, length n -/
def zi_clip (x lv : Int) (k i o n : Nat) : Int :=
  if n - 1 - k < o then (if k < i then x * lv / 256 * ((k : Int) + 1) / ((i : Int) + 1) else x * lv / 256) * ((n : Int) - k) / ((o : Int) + 1)
  else if k < i then x * lv / 256 * ((k : Int) + 1) / ((i : Int) + 1) else x * lv / 256
/-- a ramp makes nothing greater -/
theorem zi_ramp {x B a b : Int} (h1 : -B ≤ x) (h2 : x ≤ B) (ha : 0 ≤ a) (hab : a ≤ b) (hb : 0 < b) : -B ≤ x * a / b ∧ x * a / b ≤ B := by
  have hB : 0 ≤ B := by omega
  obtain ⟨g1, g2⟩ := zn_abs_mul h1 h2 ha hab
  constructor
  · have : -(B * b) = -B * b := (Int.neg_mul B b).symm
    exact (Int.le_ediv_iff_mul_le hb).mpr (by omega)
  · exact Int.ediv_le_of_le_mul hb g2
theorem zi_x0 {x lv : Int} (h1 : -32768 ≤ x) (h2 : x ≤ 32767) (l1 : 0 ≤ lv) (l2 : lv ≤ 1024) : -131072 ≤ x * lv / 256 ∧ x * lv / 256 ≤ 131072 := by
  have := zn_abs_mul (a := 32768) (b := 1024) h1 (by omega) l1 l2
  omega
theorem zi_x1 {x lv : Int} {k i : Nat} (h1 : -32768 ≤ x) (h2 : x ≤ 32767) (l1 : 0 ≤ lv) (l2 : lv ≤ 1024) : -131072 ≤ (if k < i then x * lv / 256 * ((k : Int) + 1) / ((i : Int) + 1) else x * lv / 256) ∧ (if k < i then x * lv / 256 * ((k : Int) + 1) / ((i : Int) + 1) else x * lv / 256) ≤ 131072 := by
  have h := zi_x0 h1 h2 l1 l2
  split
  · exact zi_ramp h.1 h.2 (by omega) (by omega) (by omega)
  · exact h
theorem zi_clip_b {x lv : Int} {k i o n : Nat} (h1 : -32768 ≤ x) (h2 : x ≤ 32767) (l1 : 0 ≤ lv) (l2 : lv ≤ 1024) (hk : k < n) : -131072 ≤ zi_clip x lv k i o n ∧ zi_clip x lv k i o n ≤ 131072 := by
  have h := zi_x1 (k := k) (i := i) h1 h2 l1 l2
  unfold zi_clip
  split
  · exact zi_ramp h.1 h.2 (by omega) (by omega) (by omega)
  · exact h
/-- a clip of the reference that is there -/
def zg_C (M : zm_T) (c t tr a f n lv i o : Nat) : Prop := t < 8 ∧ M.1 157 c = nI t ∧ tr < 4 ∧ M.1 155 c = nI tr ∧ M.1 156 c = nI a ∧ M.1 158 c = nI f ∧ M.1 159 c = nI n ∧ 1 ≤ n ∧ f + n ≤ 64 ∧ a + n ≤ 1024 ∧ M.1 160 c = nI lv ∧ lv ≤ 1024 ∧ M.1 161 c = nI i ∧ M.1 162 c = nI o ∧ i + o ≤ n
def zg_tb (M : zm_T) : Prop := ∀ j, j < 512 → -32768 ≤ (M.1 152 j).toInt ∧ (M.1 152 j).toInt ≤ 32767
theorem zn_i2l {n : Nat} (h : n < 2147483648) : (nI n).toInt64.toInt = n := by rw [Int32.toInt_toInt64, nI_toInt h]
set_option maxRecDepth 100000 in
set_option maxHeartbeats 4000000 in
theorem c_Mo_clipSample (l : Launch) (G : zg_T) (M : zm_T) (hL : zL M.2) (c k t tr a f n lv i o : Nat) (hc : c < 16) (hk : k < n) (hC : zg_C M c t tr a f n lv i o) (hT : zg_tb M) : Met l ky_Mo_clipSample (zr_ws ky_Mo_clipSample kc_Mo_clipSample 5 (some .long)) (zr_rm 2) (va_Pc [.ref (G.2.2.1 + 151), .int (nI c), .int (nI k)] (zm_B G 183 zs M)) (va_Ql (fun (r : Int64) (M' : zm_T) => r.toInt = zi_clip (M.1 152 (64 * t + f + k)).toInt lv k i o n ∧ M' = M) (zm_B G 183 zs) (zm_A G)) 0 0 (zm_A G) := by
  refine zr_met (by decide +kernel) (Nat.le_of_ble_eq_true rfl) ?_
  intro p0 e0 s0 m0 below meth c0 ls hS hK hlk hr hl hI
  have hx := hS.1
  have hb := hS.2.1
  have hl : zl_has ls 5 [some (.ref (G.2.2.1 + 151)), some (.int (nI c)), some (.int (nI k)), none, none] := hl
  obtain ⟨ht, h157, -, -, -, h158, h159, hn1, hfn, han, h160, hlv, h161, h162, hio⟩ := hC
  have ec : (nI c).toNatClampNeg = c := zn_cl (by omega)
  have eix : (64 : Int32) * nI t + nI f + nI k = nI (64 * t + f + k) := by rw [show (64 : Int32) = nI 64 from rfl, zn_mulI, nI_add, nI_add]
  have cix : (nI (64 * t + f + k)).toNatClampNeg = 64 * t + f + k := zn_cl (by omega)
  have hb1 := hT (64 * t + f + k) (by omega)
  have x0 := zi_x0 hb1.1 hb1.2 (show 0 ≤ (lv : Int) by omega) (by omega)
  have x1 := zi_x1 (k := k) (i := i) hb1.1 hb1.2 (show 0 ≤ (lv : Int) by omega) (by omega)
  have s1 : ∀ y : Int64, y.toInt = (M.1 152 (64 * t + f + k)).toInt * lv / 256 → (y * (nI k + 1).toInt64).toInt = (M.1 152 (64 * t + f + k)).toInt * lv / 256 * ((k : Int) + 1) := fun y ey => by
    have hm := zn_abs_mul (a := 131072) (b := 64) x0.1 x0.2 (show 0 ≤ (k : Int) + 1 by omega) (by omega)
    have e2 : (nI k + 1).toInt64.toInt = (k : Int) + 1 := by rw [← nI_succ, zn_i2l (by omega)]; omega
    rw [zn_lmul] <;> rw [ey, e2] <;> omega
  have s2 : ∀ y : Int64, y.toInt = (if k < i then (M.1 152 (64 * t + f + k)).toInt * lv / 256 * ((k : Int) + 1) / ((i : Int) + 1) else (M.1 152 (64 * t + f + k)).toInt * lv / 256) → (y * (nI n - nI k).toInt64).toInt = (if k < i then (M.1 152 (64 * t + f + k)).toInt * lv / 256 * ((k : Int) + 1) / ((i : Int) + 1) else (M.1 152 (64 * t + f + k)).toInt * lv / 256) * ((n : Int) - k) := fun y ey => by
    have hm := zn_abs_mul (a := 131072) (b := 64) x1.1 x1.2 (show 0 ≤ (n : Int) - k by omega) (by omega)
    have e2 : (nI n - nI k).toInt64.toInt = (n : Int) - k := by rw [pk_sub (by omega), zn_i2l (by omega)]; omega
    rw [zn_lmul] <;> rw [ey, e2] <;> omega
  have ei : (nI i + 1).toInt64.toInt = (i : Int) + 1 := by rw [← nI_succ, zn_i2l (by omega)]; omega
  have eo : (nI o + 1).toInt64.toInt = (o : Int) + 1 := by rw [← nI_succ, zn_i2l (by omega)]; omega
  have kc : ¬ nI i ≤ nI k → k < i := fun h => Nat.lt_of_not_le (fun g => h (nI_le g (by omega)))
  have kc' : nI i ≤ nI k → ¬ k < i := fun h g => nI_ge g (by omega) h
  have e1 : nI n - 1 - nI k = nI (n - 1 - k) := by rw [show (1 : Int32) = nI 1 from rfl, pk_sub hn1, pk_sub (by omega)]
  have oc : ¬ nI o ≤ nI (n - 1 - k) → n - 1 - k < o := fun h => Nat.lt_of_not_le (fun g => h (nI_le g (by omega)))
  have oc' : nI o ≤ nI (n - 1 - k) → ¬ n - 1 - k < o := fun h g => nI_ge g (by omega) h
  have fin : ∀ (y : Int64) (H : Heap) (locs : List Loc) (ls : Array Slot), y.toInt = (if k < i then (M.1 152 (64 * t + f + k)).toInt * lv / 256 * ((k : Int) + 1) / ((i : Int) + 1) else (M.1 152 (64 * t + f + k)).toInt * lv / 256) → zl_has ls 5 [some (.ref (G.2.2.1 + 151)), some (.int (nI c)), some (.int (nI k)), some (.long y), none] → zm_I G 183 zs M s0 H locs → W p0 l e0 (zr_rm 2) s0 m0 ([.ref (G.2.2.1 + 151), .int (nI c), .int (nI k)] : List Value).toArray below meth c0 H locs 0 0 (MQ below (va_Ql (fun (r : Int64) (M' : zm_T) => r.toInt = zi_clip (M.1 152 (64 * t + f + k)).toInt lv k i o n ∧ M' = M) (zm_B G 183 zs) (zm_A G)) ([.ref (G.2.2.1 + 151), .int (nI c), .int (nI k)] : List Value).toArray s0 0 0 (zm_A G)) (F0 m0 68 ls []) := by
    intro y H locs ls ey hl hI
    refine zr_aload_n hx hb kd_Mo_clipSample_68 hl rfl ?_
    refine zr_getr hS hK kf_Mo_32 hI ha_MO hs_MO (show _ = some 159 from zL_mo hL (k := 8) (by decide) (by decide)) kd_Mo_clipSample_69 ?_
    refine zr_iload_n hx hb kd_Mo_clipSample_72 hl rfl ?_
    refine zr_iald hS hK hI ha_MO_8 hs_MO_8 (vp_in_nI (by omega) (by decide)) kd_Mo_clipSample_73 ?_
    refine lv_iconst (v := 1) hx hb kd_Mo_clipSample_74 (by decide) ?_
    refine lv_isub hx hb kd_Mo_clipSample_75 ?_
    refine zr_iload_n hx hb kd_Mo_clipSample_76 hl rfl ?_
    refine lv_isub hx hb kd_Mo_clipSample_77 ?_
    refine zr_aload_n hx hb kd_Mo_clipSample_78 hl rfl ?_
    refine zr_getr hS hK kf_Mo_41 hI ha_MO hs_MO (show _ = some 162 from zL_mo hL (k := 11) (by decide) (by decide)) kd_Mo_clipSample_79 ?_
    refine zr_iload_n hx hb kd_Mo_clipSample_82 hl rfl ?_
    refine zr_iald hS hK hI ha_MO_11 hs_MO_11 (vp_in_nI (by omega) (by decide)) kd_Mo_clipSample_83 ?_
    rw [ec, h159, h162, e1]
    refine lv_icmp_ge (tgt := 113) hx hb kd_Mo_clipSample_84 (by decide) (fun h84 => ?_) (fun h84 => ?_)
    · skip
      refine zr_lload_n hx hb kd_Mo_clipSample_113 hl rfl ?_
      exact zr_lret hS hK hlk hr hI kd_Mo_clipSample_114 (⟨by
          unfold zi_clip
          first
          | (rw [if_neg (oc' h84)]; exact ey)
          | (rw [if_pos (oc h84), hr107, eo, s2 y ey]), rfl⟩)
    · skip
      refine zr_lload_n hx hb kd_Mo_clipSample_87 hl rfl ?_
      refine zr_aload_n hx hb kd_Mo_clipSample_88 hl rfl ?_
      refine zr_getr hS hK kf_Mo_32 hI ha_MO hs_MO (show _ = some 159 from zL_mo hL (k := 8) (by decide) (by decide)) kd_Mo_clipSample_89 ?_
      refine zr_iload_n hx hb kd_Mo_clipSample_92 hl rfl ?_
      refine zr_iald hS hK hI ha_MO_8 hs_MO_8 (vp_in_nI (by omega) (by decide)) kd_Mo_clipSample_93 ?_
      refine zr_iload_n hx hb kd_Mo_clipSample_94 hl rfl ?_
      refine lv_isub hx hb kd_Mo_clipSample_95 ?_
      refine lv_i2l hx hb kd_Mo_clipSample_96 rfl ?_
      refine lv_lmul hx hb kd_Mo_clipSample_97 ?_
      refine zr_aload_n hx hb kd_Mo_clipSample_98 hl rfl ?_
      refine zr_getr hS hK kf_Mo_41 hI ha_MO hs_MO (show _ = some 162 from zL_mo hL (k := 11) (by decide) (by decide)) kd_Mo_clipSample_99 ?_
      refine zr_iload_n hx hb kd_Mo_clipSample_102 hl rfl ?_
      refine zr_iald hS hK hI ha_MO_11 hs_MO_11 (vp_in_nI (by omega) (by decide)) kd_Mo_clipSample_103 ?_
      refine lv_iconst (v := 1) hx hb kd_Mo_clipSample_104 (by decide) ?_
      refine lv_iadd hx hb kd_Mo_clipSample_105 ?_
      refine lv_i2l hx hb kd_Mo_clipSample_106 rfl ?_
      rw [ec, h159, h162]
      refine zr_cl (zr_runS hS hK (c_Mo_down l G 183 zs M _ _ (by rw [eo]; omega)) km_Mo_111 hI rfl hl.1 (Nat.le_of_ble_eq_true rfl) (by decide) (by decide) kd_Mo_clipSample_107 rfl) hI (fun r107 M107 H locs hp107 hI => ?_)
      obtain ⟨hr107, hM107⟩ := hp107
      rw [hM107] at hI
      refine lv_goto (tgt := 114) hx hb kd_Mo_clipSample_110 (by decide) ?_
      exact zr_lret hS hK hlk hr hI kd_Mo_clipSample_114 (⟨by
          unfold zi_clip
          first
          | (rw [if_neg (oc' h84)]; exact ey)
          | (rw [if_pos (oc h84), hr107, eo, s2 y ey]), rfl⟩)
  refine zr_aload_n hx hb kd_Mo_clipSample_0 hl rfl ?_
  refine zr_getr hS hK kf_Mo_7 hI ha_MO hs_MO (show _ = some 152 from zL_mo hL (k := 1) (by decide) (by decide)) kd_Mo_clipSample_1 ?_
  refine lv_bipush (v := 64) hx hb kd_Mo_clipSample_4 (by decide) ?_
  refine zr_aload_n hx hb kd_Mo_clipSample_6 hl rfl ?_
  refine zr_getr hS hK kf_Mo_26 hI ha_MO hs_MO (show _ = some 157 from zL_mo hL (k := 6) (by decide) (by decide)) kd_Mo_clipSample_7 ?_
  refine zr_iload_n hx hb kd_Mo_clipSample_10 hl rfl ?_
  refine zr_iald hS hK hI ha_MO_6 hs_MO_6 (vp_in_nI (by omega) (by decide)) kd_Mo_clipSample_11 ?_
  refine lv_imul hx hb kd_Mo_clipSample_12 ?_
  refine zr_aload_n hx hb kd_Mo_clipSample_13 hl rfl ?_
  refine zr_getr hS hK kf_Mo_29 hI ha_MO hs_MO (show _ = some 158 from zL_mo hL (k := 7) (by decide) (by decide)) kd_Mo_clipSample_14 ?_
  refine zr_iload_n hx hb kd_Mo_clipSample_17 hl rfl ?_
  refine zr_iald hS hK hI ha_MO_7 hs_MO_7 (vp_in_nI (by omega) (by decide)) kd_Mo_clipSample_18 ?_
  refine lv_iadd hx hb kd_Mo_clipSample_19 ?_
  refine zr_iload_n hx hb kd_Mo_clipSample_20 hl rfl ?_
  refine lv_iadd hx hb kd_Mo_clipSample_21 ?_
  rw [ec, h157, h158, eix]
  refine zr_iald hS hK hI ha_MO_1 hs_MO_1 (vp_in_nI (by omega) (by decide)) kd_Mo_clipSample_22 ?_
  refine lv_i2l hx hb kd_Mo_clipSample_23 rfl ?_
  refine zr_aload_n hx hb kd_Mo_clipSample_24 hl rfl ?_
  refine zr_getr hS hK kf_Mo_35 hI ha_MO hs_MO (show _ = some 160 from zL_mo hL (k := 9) (by decide) (by decide)) kd_Mo_clipSample_25 ?_
  refine zr_iload_n hx hb kd_Mo_clipSample_28 hl rfl ?_
  refine zr_iald hS hK hI ha_MO_9 hs_MO_9 (vp_in_nI (by omega) (by decide)) kd_Mo_clipSample_29 ?_
  refine lv_i2l hx hb kd_Mo_clipSample_30 rfl ?_
  rw [ec, h160, cix]
  refine zr_cl (zr_runS hS hK (c_Mo_by l G 183 zs M _ _ (by rw [Int32.toInt_toInt64]; omega) (by rw [Int32.toInt_toInt64]; omega) (by rw [zn_i2l (by omega)]; omega) (by rw [zn_i2l (by omega)]; omega)) km_Mo_148 hI rfl hl.1 (Nat.le_of_ble_eq_true rfl) (by decide) (by decide) kd_Mo_clipSample_31 rfl) hI (fun r31 M31 H locs hp31 hI => ?_)
  obtain ⟨hr31, hM31⟩ := hp31
  rw [hM31] at hI
  rw [Int32.toInt_toInt64, zn_i2l (by omega)] at hr31
  refine zr_lstore_n hx hb kd_Mo_clipSample_34 hl (by decide) rfl (fun ls hl => ?_)
  refine zr_iload_n hx hb kd_Mo_clipSample_35 hl rfl ?_
  refine zr_aload_n hx hb kd_Mo_clipSample_36 hl rfl ?_
  refine zr_getr hS hK kf_Mo_38 hI ha_MO hs_MO (show _ = some 161 from zL_mo hL (k := 10) (by decide) (by decide)) kd_Mo_clipSample_37 ?_
  refine zr_iload_n hx hb kd_Mo_clipSample_40 hl rfl ?_
  refine zr_iald hS hK hI ha_MO_10 hs_MO_10 (vp_in_nI (by omega) (by decide)) kd_Mo_clipSample_41 ?_
  rw [ec, h161]
  refine lv_icmp_ge (tgt := 66) hx hb kd_Mo_clipSample_42 (by decide) (fun h42 => ?_) (fun h42 => ?_)
  · skip
    refine zr_lload_n hx hb kd_Mo_clipSample_66 hl rfl ?_
    refine zr_lstore_n hx hb kd_Mo_clipSample_67 hl (by decide) rfl (fun ls hl => ?_)
    refine fin _ H locs ls ?_ hl hI
    first
    | (rw [if_neg (kc' h42)]; exact hr31)
    | (rw [if_pos (kc h42), hr60, ei, s1 _ hr31])
  · skip
    refine zr_lload_n hx hb kd_Mo_clipSample_45 hl rfl ?_
    refine zr_iload_n hx hb kd_Mo_clipSample_46 hl rfl ?_
    refine lv_iconst (v := 1) hx hb kd_Mo_clipSample_47 (by decide) ?_
    refine lv_iadd hx hb kd_Mo_clipSample_48 ?_
    refine lv_i2l hx hb kd_Mo_clipSample_49 rfl ?_
    refine lv_lmul hx hb kd_Mo_clipSample_50 ?_
    refine zr_aload_n hx hb kd_Mo_clipSample_51 hl rfl ?_
    refine zr_getr hS hK kf_Mo_38 hI ha_MO hs_MO (show _ = some 161 from zL_mo hL (k := 10) (by decide) (by decide)) kd_Mo_clipSample_52 ?_
    refine zr_iload_n hx hb kd_Mo_clipSample_55 hl rfl ?_
    refine zr_iald hS hK hI ha_MO_10 hs_MO_10 (vp_in_nI (by omega) (by decide)) kd_Mo_clipSample_56 ?_
    refine lv_iconst (v := 1) hx hb kd_Mo_clipSample_57 (by decide) ?_
    refine lv_iadd hx hb kd_Mo_clipSample_58 ?_
    refine lv_i2l hx hb kd_Mo_clipSample_59 rfl ?_
    rw [ec, h161]
    refine zr_cl (zr_runS hS hK (c_Mo_down l G 183 zs M _ _ (by rw [ei]; omega)) km_Mo_111 hI rfl hl.1 (Nat.le_of_ble_eq_true rfl) (by decide) (by decide) kd_Mo_clipSample_60 rfl) hI (fun r60 M60 H locs hp60 hI => ?_)
    obtain ⟨hr60, hM60⟩ := hp60
    rw [hM60] at hI
    refine lv_goto (tgt := 67) hx hb kd_Mo_clipSample_63 (by decide) ?_
    refine zr_lstore_n hx hb kd_Mo_clipSample_67 hl (by decide) rfl (fun ls hl => ?_)
    refine fin _ H locs ls ?_ hl hI
    first
    | (rw [if_neg (kc' h42)]; exact hr31)
    | (rw [if_pos (kc h42), hr60, ei, s1 _ hr31])
/-- the class's clip gives the same -/
theorem zf_val_eq {x : Int32} {lv k i o n : Nat} (h1 : -32768 ≤ x.toInt) (h2 : x.toInt ≤ 32767) (hlv : lv ≤ 1024) (hk : k < n) (hn : n ≤ 64) (hio : i + o ≤ n) : (zf_val x (nI lv) (nI k) (nI i) (nI o) (nI n)).toInt = zi_clip x.toInt lv k i o n := by
  have el : (nI lv).toInt = lv := nI_toInt (by omega)
  have x0 := zi_x0 h1 h2 (show 0 ≤ (lv : Int) by omega) (by omega)
  have x1 := zi_x1 (k := k) (i := i) h1 h2 (show 0 ≤ (lv : Int) by omega) (by omega)
  have ea : (zf_at x (nI lv)).toInt = x.toInt * lv / 256 := by rw [zf_at_eq (by omega) (by omega) (by omega) (by omega), el]
  have ei : (nI i + 1).toInt = (i : Int) + 1 := by rw [← nI_succ, nI_toInt (by omega)]; omega
  have eo : (nI o + 1).toInt = (o : Int) + 1 := by rw [← nI_succ, nI_toInt (by omega)]; omega
  have ek : (nI k + 1).toInt = (k : Int) + 1 := by rw [← nI_succ, nI_toInt (by omega)]; omega
  have en : (nI n - nI k).toInt = (n : Int) - k := by rw [pk_sub (by omega), nI_toInt (by omega)]; omega
  have hm1 := zn_abs_mul (a := 131072) (b := 64) x0.1 x0.2 (show 0 ≤ (k : Int) + 1 by omega) (by omega)
  have e1 : (if nI i ≤ nI k then zf_at x (nI lv) else zf_fd (zf_at x (nI lv) * (nI k + 1)) (nI i + 1)).toInt = if k < i then x.toInt * lv / 256 * ((k : Int) + 1) / ((i : Int) + 1) else x.toInt * lv / 256 := by
    by_cases h : k < i
    · rw [if_neg (nI_ge h (by omega)), if_pos h, zf_fd_eq (by omega), ei, zn_mul] <;> rw [ea, ek] <;> omega
    · rw [if_pos (nI_le (by omega) (by omega)), if_neg h, ea]
  have hm2 := zn_abs_mul (a := 131072) (b := 64) x1.1 x1.2 (show 0 ≤ (n : Int) - k by omega) (by omega)
  unfold zf_val zi_clip
  rw [show nI n - 1 - nI k = nI (n - 1 - k) from by rw [show (1 : Int32) = nI 1 from rfl, pk_sub (by omega), pk_sub (by omega)]]
  by_cases h : n - 1 - k < o
  · rw [if_neg (nI_ge h (by omega)), if_pos h, zf_fd_eq (by omega), eo, zn_mul] <;> rw [e1, en] <;> omega
  · rw [if_pos (nI_le (by omega) (by omega)), if_neg h, e1]

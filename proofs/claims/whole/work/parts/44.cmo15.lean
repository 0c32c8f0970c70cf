/-! The reference's public methods: reading takes, effects, samples, shapes. -/
def zv_tk (M : zm_T) (t i : Int32) : Int32 := if zf_in t 0 7 = 0 then 1 else if i < -1 then 1 else if (if M.1 153 t.toNatClampNeg = 0 then 64 else M.1 153 t.toNatClampNeg) ≤ i then 1 else 0
set_option maxRecDepth 100000 in
set_option maxHeartbeats 4000000 in
theorem c_Mo_take (l : Launch) (G : zg_T) (M : zm_T) (hL : zL M.2) (t i : Int32) (hlen : ∀ k, k < 8 → 0 ≤ (M.1 153 k).toInt ∧ (M.1 153 k).toInt ≤ 64) : Met l ky_Mo_take (zr_ws ky_Mo_take kc_Mo_take 5 (some .int)) (zr_rm 0) (va_Pc [.ref (G.2.2.1 + 151), .int t, .int i] (zm_B G 183 zs M)) (va_Qi (fun (r : Int32) (M' : zm_T) => M' = zm_ui M 151 0 (zv_tk M t i) ∧ (zv_tk M t i = 0 → r = if i < 0 then M.1 153 t.toNatClampNeg else M.1 152 (64 * t.toNatClampNeg + i.toNatClampNeg))) (zm_B G 183 zs) (zm_A G)) 0 0 (zm_A G) := by
  refine zr_met (by decide +kernel) (Nat.le_of_ble_eq_true rfl) ?_
  intro p0 e0 s0 m0 below meth c0 ls hS hK hlk hr hl hI
  have hx := hS.1
  have hb := hS.2.1
  have hl : zl_has ls 5 [some (.ref (G.2.2.1 + 151)), some (.int t), some (.int i), none, none] := hl
  -- from the bound on; sz: how many samples there are
  have rest : ∀ (no sz : Int32) (H : Heap) (locs : List Loc) (ls : Array Slot), (no = if zf_in t 0 7 = 0 then 1 else 0) → (no = 0 → sz = if M.1 153 t.toNatClampNeg = 0 then 64 else M.1 153 t.toNatClampNeg) → zl_has ls 5 [some (.ref (G.2.2.1 + 151)), some (.int t), some (.int i), some (.int no), some (.int sz)] → zm_I G 183 zs M s0 H locs → W p0 l e0 (zr_rm 0) s0 m0 ([.ref (G.2.2.1 + 151), .int t, .int i] : List Value).toArray below meth c0 H locs 0 0 (MQ below (va_Qi (fun (r : Int32) (M' : zm_T) => M' = zm_ui M 151 0 (zv_tk M t i) ∧ (zv_tk M t i = 0 → r = if i < 0 then M.1 153 t.toNatClampNeg else M.1 152 (64 * t.toNatClampNeg + i.toNatClampNeg))) (zm_B G 183 zs) (zm_A G)) ([.ref (G.2.2.1 + 151), .int t, .int i] : List Value).toArray s0 0 0 (zm_A G)) (F0 m0 46 ls []) := by
    intro no sz H locs ls hno hsz hl hI
    have fin : ∀ (v : Int32) (H : Heap) (locs : List Loc) (ls : Array Slot), v = zv_tk M t i → zl_has ls 5 [some (.ref (G.2.2.1 + 151)), some (.int t), some (.int i), some (.int no), some (.int sz)] → zm_I G 183 zs M s0 H locs → W p0 l e0 (zr_rm 0) s0 m0 ([.ref (G.2.2.1 + 151), .int t, .int i] : List Value).toArray below meth c0 H locs 0 0 (MQ below (va_Qi (fun (r : Int32) (M' : zm_T) => M' = zm_ui M 151 0 (zv_tk M t i) ∧ (zv_tk M t i = 0 → r = if i < 0 then M.1 153 t.toNatClampNeg else M.1 152 (64 * t.toNatClampNeg + i.toNatClampNeg))) (zm_B G 183 zs) (zm_A G)) ([.ref (G.2.2.1 + 151), .int t, .int i] : List Value).toArray s0 0 0 (zm_A G)) (F0 m0 67 ls [.int v, .ref (G.2.2.1 + 151)]) := by
      intro v H locs ls hv hl hI
      have v01 : v = 0 ∨ v = 1 := by rw [hv]; unfold zv_tk; (repeat' split) <;> simp
      have hin : v = 0 → (∃ tn, tn < 8 ∧ t = nI tn) ∧ (¬ i < 0 → ∃ k, k < 64 ∧ i = nI k) := fun h0 => by
        rw [h0] at hv
        unfold zv_tk at hv
        by_cases g1 : zf_in t 0 7 = 0
        · rw [if_pos g1] at hv; exact absurd hv (by decide)
        rw [if_neg g1] at hv
        obtain ⟨tn, htn, rfl⟩ := zf_in_n (n := 7) (by decide) g1
        rw [zn_cl (by omega)] at hv
        by_cases g2 : i < -1
        · rw [if_pos g2] at hv; exact absurd hv (by decide)
        rw [if_neg g2] at hv
        refine ⟨⟨tn, by omega, rfl⟩, fun g3 => ?_⟩
        by_cases g4 : (if M.1 153 tn = 0 then 64 else M.1 153 tn) ≤ i
        · rw [if_pos g4] at hv; exact absurd hv (by decide)
        have hb1 := hlen tn (by omega)
        have hb2 : i.toInt < 64 := by
          by_cases g5 : M.1 153 tn = 0
          · rw [if_pos g5, Int32.le_iff_toInt_le, show (64 : Int32).toInt = 64 from by decide] at g4; omega
          · rw [if_neg g5, Int32.le_iff_toInt_le] at g4; omega
        rw [Int32.lt_iff_toInt_lt, zn_0] at g3
        exact ⟨i.toInt.toNat, by omega, Int32.toInt_inj.mp (by rw [nI_toInt (by omega)]; omega)⟩
      rcases v01 with rfl | rfl
      · obtain ⟨⟨tn, htn, rfl⟩, hk⟩ := hin rfl
        have c0' : (nI tn).toNatClampNeg = tn := zn_cl (by omega)
        refine zr_puti hS hK kf_Mo_101 hI ha_MO hs_MO rfl rfl kd_Mo_take_67 (fun H locs hI => ?_)
        refine zr_aload_n hx hb kd_Mo_take_70 hl rfl ?_
        refine zr_geti hS hK kf_Mo_101 hI ha_MO hs_MO kd_Mo_take_71 ?_
        refine lv_if_le (tgt := 81) hx hb kd_Mo_take_74 (by decide) (fun h74 => ?_) (fun h74 => absurd (by rw [zm_ui_at]; decide) h74)
        refine zr_iload_n hx hb kd_Mo_take_81 hl rfl ?_
        refine lv_if_ge (tgt := 94) hx hb kd_Mo_take_82 (by decide) (fun h82 => ?_) (fun h82 => ?_)
        · skip
          refine zr_aload_n hx hb kd_Mo_take_94 hl rfl ?_
          refine zr_getr hS hK kf_Mo_7 hI ha_MO hs_MO (show _ = some 152 from zL_mo hL (k := 1) (by decide) (by decide)) kd_Mo_take_95 ?_
          refine lv_bipush (v := 64) hx hb kd_Mo_take_98 (by decide) ?_
          refine zr_iload_n hx hb kd_Mo_take_100 hl rfl ?_
          refine lv_imul hx hb kd_Mo_take_101 ?_
          refine zr_iload_n hx hb kd_Mo_take_102 hl rfl ?_
          refine lv_iadd hx hb kd_Mo_take_103 ?_
          obtain ⟨k, hk1, ek⟩ := hk (Int32.not_lt.mpr h82)
          have e1 : (64 : Int32) * nI tn + i = nI (64 * tn + k) := by rw [ek, show (64 : Int32) = nI 64 from rfl, zn_mulI, nI_add]
          have c1 : (nI (64 * tn + k)).toNatClampNeg = 64 * tn + k := zn_cl (by omega)
          have ci : i.toNatClampNeg = k := by rw [ek]; exact zn_cl (by omega)
          rw [e1]
          refine zr_iald hS hK hI ha_MO_1 hs_MO_1 (vp_in_nI (by omega) (by decide)) kd_Mo_take_104 ?_
          exact zr_iret hS hK hlk hr hI kd_Mo_take_105 (⟨by rw [← hv], fun _ => by
              first
              | (rw [if_neg (Int32.not_lt.mpr h82), zm_ui_ne (Or.inl (by decide)), c1, c0', ci])
              | (rw [if_pos (Int32.not_le.mp h82), zm_ui_ne (Or.inl (by decide))])⟩)
        · skip
          refine zr_aload_n hx hb kd_Mo_take_85 hl rfl ?_
          refine zr_getr hS hK kf_Mo_13 hI ha_MO hs_MO (show _ = some 153 from zL_mo hL (k := 2) (by decide) (by decide)) kd_Mo_take_86 ?_
          refine zr_iload_n hx hb kd_Mo_take_89 hl rfl ?_
          refine zr_iald hS hK hI ha_MO_2 hs_MO_2 (vp_in_nI (by omega) (by decide)) kd_Mo_take_90 ?_
          refine lv_goto (tgt := 105) hx hb kd_Mo_take_91 (by decide) ?_
          exact zr_iret hS hK hlk hr hI kd_Mo_take_105 (⟨by rw [← hv], fun _ => by
              first
              | (rw [if_neg (Int32.not_lt.mpr h82), zm_ui_ne (Or.inl (by decide)), c1, c0', ci])
              | (rw [if_pos (Int32.not_le.mp h82), zm_ui_ne (Or.inl (by decide))])⟩)
      · refine zr_puti hS hK kf_Mo_101 hI ha_MO hs_MO rfl rfl kd_Mo_take_67 (fun H locs hI => ?_)
        refine zr_aload_n hx hb kd_Mo_take_70 hl rfl ?_
        refine zr_geti hS hK kf_Mo_101 hI ha_MO hs_MO kd_Mo_take_71 ?_
        refine lv_if_le (tgt := 81) hx hb kd_Mo_take_74 (by decide) (fun h74 => absurd h74 (by rw [zm_ui_at]; decide)) (fun h74 => ?_)
        refine lv_iconst (v := 0) hx hb kd_Mo_take_77 (by decide) ?_
        refine lv_goto (tgt := 105) hx hb kd_Mo_take_78 (by decide) ?_
        exact zr_iret hS hK hlk hr hI kd_Mo_take_105 (⟨by rw [← hv], fun g => absurd (hv.trans g) (by decide)⟩)
    have n0 : no = 0 → ¬ zf_in t 0 7 = 0 := fun h => by rw [hno] at h; exact zv_01 h
    have n1 : ¬ no = 0 → zf_in t 0 7 = 0 := fun h => by rw [hno] at h; exact zv_10 h
    refine zr_aload_n hx hb kd_Mo_take_46 hl rfl ?_
    refine zr_iload_n hx hb kd_Mo_take_47 hl rfl ?_
    refine lv_if_ne (tgt := 62) hx hb kd_Mo_take_48 (by decide) (fun h48 => ?_) (fun h48 => ?_)
    · skip
      refine lv_iconst (v := 1) hx hb kd_Mo_take_62 (by decide) ?_
      refine lv_goto (tgt := 67) hx hb kd_Mo_take_63 (by decide) ?_
      refine fin _ H locs ls ?_ hl hI
      unfold zv_tk
      first
      | (rw [if_neg (n0 h48), if_neg h53, if_neg (by rw [← hsz h48]; exact Int32.not_le.mpr h59)]; done)
      | (rw [if_neg (n0 h48), if_neg h53, if_pos (by rw [← hsz h48]; exact Int32.not_lt.mp h59)]; done)
      | (rw [if_neg (n0 h48), if_pos h53]; done)
      | (rw [if_pos (n1 h48)]; done)
    · skip
      refine zr_iload_n hx hb kd_Mo_take_51 hl rfl ?_
      refine lv_iconst (v := -1) hx hb kd_Mo_take_52 (by decide) ?_
      refine lv_icmp_lt (tgt := 62) hx hb kd_Mo_take_53 (by decide) (fun h53 => ?_) (fun h53 => ?_)
      · skip
        refine lv_iconst (v := 1) hx hb kd_Mo_take_62 (by decide) ?_
        refine lv_goto (tgt := 67) hx hb kd_Mo_take_63 (by decide) ?_
        refine fin _ H locs ls ?_ hl hI
        unfold zv_tk
        first
        | (rw [if_neg (n0 h48), if_neg h53, if_neg (by rw [← hsz h48]; exact Int32.not_le.mpr h59)]; done)
        | (rw [if_neg (n0 h48), if_neg h53, if_pos (by rw [← hsz h48]; exact Int32.not_lt.mp h59)]; done)
        | (rw [if_neg (n0 h48), if_pos h53]; done)
        | (rw [if_pos (n1 h48)]; done)
      · skip
        refine zr_iload_n hx hb kd_Mo_take_56 hl rfl ?_
        refine zr_iload hx hb kd_Mo_take_57 hl rfl ?_
        refine lv_icmp_lt (tgt := 66) hx hb kd_Mo_take_59 (by decide) (fun h59 => ?_) (fun h59 => ?_)
        · skip
          refine lv_iconst (v := 0) hx hb kd_Mo_take_66 (by decide) ?_
          refine fin _ H locs ls ?_ hl hI
          unfold zv_tk
          first
          | (rw [if_neg (n0 h48), if_neg h53, if_neg (by rw [← hsz h48]; exact Int32.not_le.mpr h59)]; done)
          | (rw [if_neg (n0 h48), if_neg h53, if_pos (by rw [← hsz h48]; exact Int32.not_lt.mp h59)]; done)
          | (rw [if_neg (n0 h48), if_pos h53]; done)
          | (rw [if_pos (n1 h48)]; done)
        · skip
          refine lv_iconst (v := 1) hx hb kd_Mo_take_62 (by decide) ?_
          refine lv_goto (tgt := 67) hx hb kd_Mo_take_63 (by decide) ?_
          refine fin _ H locs ls ?_ hl hI
          unfold zv_tk
          first
          | (rw [if_neg (n0 h48), if_neg h53, if_neg (by rw [← hsz h48]; exact Int32.not_le.mpr h59)]; done)
          | (rw [if_neg (n0 h48), if_neg h53, if_pos (by rw [← hsz h48]; exact Int32.not_lt.mp h59)]; done)
          | (rw [if_neg (n0 h48), if_pos h53]; done)
          | (rw [if_pos (n1 h48)]; done)
  have mid : ∀ (no : Int32) (H : Heap) (locs : List Loc) (ls : Array Slot), (no = if zf_in t 0 7 = 0 then 1 else 0) → zl_has ls 5 [some (.ref (G.2.2.1 + 151)), some (.int t), some (.int i), some (.int no), none] → zm_I G 183 zs M s0 H locs → W p0 l e0 (zr_rm 0) s0 m0 ([.ref (G.2.2.1 + 151), .int t, .int i] : List Value).toArray below meth c0 H locs 0 0 (MQ below (va_Qi (fun (r : Int32) (M' : zm_T) => M' = zm_ui M 151 0 (zv_tk M t i) ∧ (zv_tk M t i = 0 → r = if i < 0 then M.1 153 t.toNatClampNeg else M.1 152 (64 * t.toNatClampNeg + i.toNatClampNeg))) (zm_B G 183 zs) (zm_A G)) ([.ref (G.2.2.1 + 151), .int t, .int i] : List Value).toArray s0 0 0 (zm_A G)) (F0 m0 16 ls []) := by
    intro no H locs ls hno hl hI
    have n0 : no = 0 → vp_in t 8 := fun h => zv_vp' (n := 7) (hi := 7) (by decide) (by decide) (by rw [hno] at h; exact zv_01 h)
    refine zr_iload_n hx hb kd_Mo_take_16 hl rfl ?_
    refine lv_if_eq (tgt := 24) hx hb kd_Mo_take_17 (by decide) (fun h17 => ?_) (fun h17 => ?_)
    · skip
      refine zr_aload_n hx hb kd_Mo_take_24 hl rfl ?_
      refine zr_getr hS hK kf_Mo_13 hI ha_MO hs_MO (show _ = some 153 from zL_mo hL (k := 2) (by decide) (by decide)) kd_Mo_take_25 ?_
      refine zr_iload_n hx hb kd_Mo_take_28 hl rfl ?_
      refine zr_iald hS hK hI ha_MO_2 hs_MO_2 (n0 h17) kd_Mo_take_29 ?_
      refine lv_if_ne (tgt := 38) hx hb kd_Mo_take_30 (by decide) (fun h30 => ?_) (fun h30 => ?_)
      · skip
        refine zr_aload_n hx hb kd_Mo_take_38 hl rfl ?_
        refine zr_getr hS hK kf_Mo_13 hI ha_MO hs_MO (show _ = some 153 from zL_mo hL (k := 2) (by decide) (by decide)) kd_Mo_take_39 ?_
        refine zr_iload_n hx hb kd_Mo_take_42 hl rfl ?_
        refine zr_iald hS hK hI ha_MO_2 hs_MO_2 (n0 h17) kd_Mo_take_43 ?_
        refine zr_istore hx hb kd_Mo_take_44 hl (by decide) rfl (fun ls hl => ?_)
        refine rest _ _ _ _ _ hno (fun h => ?_) hl hI
        first
        | exact absurd h h17
        | (rw [if_neg h30]; done)
        | (rw [if_pos h30]; done)
      · skip
        refine lv_bipush (v := 64) hx hb kd_Mo_take_33 (by decide) ?_
        refine lv_goto (tgt := 44) hx hb kd_Mo_take_35 (by decide) ?_
        refine zr_istore hx hb kd_Mo_take_44 hl (by decide) rfl (fun ls hl => ?_)
        refine rest _ _ _ _ _ hno (fun h => ?_) hl hI
        first
        | exact absurd h h17
        | (rw [if_neg h30]; done)
        | (rw [if_pos h30]; done)
    · skip
      refine lv_iconst (v := 0) hx hb kd_Mo_take_20 (by decide) ?_
      refine lv_goto (tgt := 44) hx hb kd_Mo_take_21 (by decide) ?_
      refine zr_istore hx hb kd_Mo_take_44 hl (by decide) rfl (fun ls hl => ?_)
      refine rest _ _ _ _ _ hno (fun h => ?_) hl hI
      first
      | exact absurd h h17
      | (rw [if_neg h30]; done)
      | (rw [if_pos h30]; done)
  refine zr_iload_n hx hb kd_Mo_take_0 hl rfl ?_
  refine lv_if_lt (tgt := 10) hx hb kd_Mo_take_1 (by decide) (fun h1 => ?_) (fun h1 => ?_)
  · skip
    refine lv_iconst (v := 1) hx hb kd_Mo_take_10 (by decide) ?_
    refine lv_goto (tgt := 15) hx hb kd_Mo_take_11 (by decide) ?_
    refine zr_istore_n hx hb kd_Mo_take_15 hl (by decide) rfl (fun ls hl => ?_)
    exact mid _ _ _ _ (by simp [zf_in, *]) hl hI
  · skip
    refine zr_iload_n hx hb kd_Mo_take_4 hl rfl ?_
    refine lv_bipush (v := 7) hx hb kd_Mo_take_5 (by decide) ?_
    refine lv_icmp_le (tgt := 14) hx hb kd_Mo_take_7 (by decide) (fun h7 => ?_) (fun h7 => ?_)
    · skip
      refine lv_iconst (v := 0) hx hb kd_Mo_take_14 (by decide) ?_
      refine zr_istore_n hx hb kd_Mo_take_15 hl (by decide) rfl (fun ls hl => ?_)
      exact mid _ _ _ _ (by simp [zf_in, *]) hl hI
    · skip
      refine lv_iconst (v := 1) hx hb kd_Mo_take_10 (by decide) ?_
      refine lv_goto (tgt := 15) hx hb kd_Mo_take_11 (by decide) ?_
      refine zr_istore_n hx hb kd_Mo_take_15 hl (by decide) rfl (fun ls hl => ?_)
      exact mid _ _ _ _ (by simp [zf_in, *]) hl hI
def zv_smp (M : zm_T) (s i : Int32) : Int32 := if zf_in s 0 7 = 0 then 1 else if i < 0 then 1 else if M.1 151 31 ≤ i then 1 else 0
set_option maxRecDepth 100000 in
set_option maxHeartbeats 4000000 in
theorem c_Mo_sample (l : Launch) (G : zg_T) (M : zm_T) (hL : zL M.2) (s i : Int32) (hbs : (M.1 151 31).toInt ≤ 64) : Met l ky_Mo_sample (zr_ws ky_Mo_sample kc_Mo_sample 3 (some .int)) (zr_rm 1) (va_Pc [.ref (G.2.2.1 + 151), .int s, .int i] (zm_B G 183 zs M)) (va_Qi (fun (r : Int32) (M' : zm_T) => M' = zm_ui M 151 0 (zv_smp M s i) ∧ (zv_smp M s i = 0 → r = M.1 181 (64 * s.toNatClampNeg + i.toNatClampNeg))) (zm_B G 183 zs) (zm_A G)) 0 0 (zm_A G) := by
  refine zr_met (by decide +kernel) (Nat.le_of_ble_eq_true rfl) ?_
  intro p0 e0 s0 m0 below meth c0 ls hS hK hlk hr hl hI
  have hx := hS.1
  have hb := hS.2.1
  have hl : zl_has ls 3 [some (.ref (G.2.2.1 + 151)), some (.int s), some (.int i)] := hl
  have fin : ∀ (v : Int32) (H : Heap) (locs : List Loc) (ls : Array Slot), v = zv_smp M s i → zl_has ls 3 [some (.ref (G.2.2.1 + 151)), some (.int s), some (.int i)] → zm_I G 183 zs M s0 H locs → W p0 l e0 (zr_rm 1) s0 m0 ([.ref (G.2.2.1 + 151), .int s, .int i] : List Value).toArray below meth c0 H locs 0 0 (MQ below (va_Qi (fun (r : Int32) (M' : zm_T) => M' = zm_ui M 151 0 (zv_smp M s i) ∧ (zv_smp M s i = 0 → r = M.1 181 (64 * s.toNatClampNeg + i.toNatClampNeg))) (zm_B G 183 zs) (zm_A G)) ([.ref (G.2.2.1 + 151), .int s, .int i] : List Value).toArray s0 0 0 (zm_A G)) (F0 m0 25 ls [.int v, .ref (G.2.2.1 + 151)]) := by
    intro v H locs ls hv hl hI
    have v01 : v = 0 ∨ v = 1 := by rw [hv]; unfold zv_smp; (repeat' split) <;> simp
    rcases v01 with rfl | rfl
    · have hin : (∃ tn, tn < 8 ∧ s = nI tn) ∧ ∃ k, k < 64 ∧ i = nI k := by
        unfold zv_smp at hv
        by_cases g1 : zf_in s 0 7 = 0
        · rw [if_pos g1] at hv; exact absurd hv (by decide)
        rw [if_neg g1] at hv
        obtain ⟨tn, htn, rfl⟩ := zf_in_n (n := 7) (by decide) g1
        by_cases g2 : i < 0
        · rw [if_pos g2] at hv; exact absurd hv (by decide)
        rw [if_neg g2] at hv
        by_cases g4 : M.1 151 31 ≤ i
        · rw [if_pos g4] at hv; exact absurd hv (by decide)
        rw [Int32.le_iff_toInt_le] at g4
        rw [Int32.lt_iff_toInt_lt, zn_0] at g2
        exact ⟨⟨tn, by omega, rfl⟩, i.toInt.toNat, by omega, Int32.toInt_inj.mp (by rw [nI_toInt (by omega)]; omega)⟩
      obtain ⟨⟨tn, htn, rfl⟩, k, hk1, rfl⟩ := hin
      have e1 : (64 : Int32) * nI tn + nI k = nI (64 * tn + k) := by rw [show (64 : Int32) = nI 64 from rfl, zn_mulI, nI_add]
      have c1 : (nI (64 * tn + k)).toNatClampNeg = 64 * tn + k := zn_cl (by omega)
      refine zr_puti hS hK kf_Mo_101 hI ha_MO hs_MO rfl rfl kd_Mo_sample_25 (fun H locs hI => ?_)
      refine zr_aload_n hx hb kd_Mo_sample_28 hl rfl ?_
      refine zr_geti hS hK kf_Mo_101 hI ha_MO hs_MO kd_Mo_sample_29 ?_
      refine lv_if_le (tgt := 39) hx hb kd_Mo_sample_32 (by decide) (fun h32 => ?_) (fun h32 => absurd (by rw [zm_ui_at]; decide) h32)
      refine zr_aload_n hx hb kd_Mo_sample_39 hl rfl ?_
      refine zr_getr hS hK kf_Mo_98 hI ha_MO hs_MO (show _ = some 181 from zL_mo hL (k := 30) (by decide) (by decide)) kd_Mo_sample_40 ?_
      refine lv_bipush (v := 64) hx hb kd_Mo_sample_43 (by decide) ?_
      refine zr_iload_n hx hb kd_Mo_sample_45 hl rfl ?_
      refine lv_imul hx hb kd_Mo_sample_46 ?_
      refine zr_iload_n hx hb kd_Mo_sample_47 hl rfl ?_
      refine lv_iadd hx hb kd_Mo_sample_48 ?_
      rw [e1]
      refine zr_iald hS hK hI ha_MO_30 hs_MO_30 (vp_in_nI (by omega) (by decide)) kd_Mo_sample_49 ?_
      exact zr_iret hS hK hlk hr hI kd_Mo_sample_50 (⟨by rw [← hv], fun _ => by rw [c1, zm_ui_ne (Or.inl (by decide)), zn_cl (by omega), zn_cl (by omega)]⟩)
    · refine zr_puti hS hK kf_Mo_101 hI ha_MO hs_MO rfl rfl kd_Mo_sample_25 (fun H locs hI => ?_)
      refine zr_aload_n hx hb kd_Mo_sample_28 hl rfl ?_
      refine zr_geti hS hK kf_Mo_101 hI ha_MO hs_MO kd_Mo_sample_29 ?_
      refine lv_if_le (tgt := 39) hx hb kd_Mo_sample_32 (by decide) (fun h32 => absurd h32 (by rw [zm_ui_at]; decide)) (fun h32 => ?_)
      refine lv_iconst (v := 0) hx hb kd_Mo_sample_35 (by decide) ?_
      refine lv_goto (tgt := 50) hx hb kd_Mo_sample_36 (by decide) ?_
      exact zr_iret hS hK hlk hr hI kd_Mo_sample_50 (⟨by rw [← hv], fun g => absurd (hv.trans g) (by decide)⟩)
  refine zr_aload_n hx hb kd_Mo_sample_0 hl rfl ?_
  refine zr_iload_n hx hb kd_Mo_sample_1 hl rfl ?_
  refine zr_ci (zr_runS hS hK (c_Mo_noStrip l G 183 zs M _) km_Mo_141 hI rfl hl.1 (Nat.le_of_ble_eq_true rfl) (by decide) (by decide) kd_Mo_sample_2 rfl) hI (fun r2 M2 H locs hp2 hI => ?_)
  obtain ⟨rfl, hM2⟩ := hp2
  rw [hM2] at hI
  refine lv_if_ne (tgt := 20) hx hb kd_Mo_sample_5 (by decide) (fun h5 => ?_) (fun h5 => ?_)
  · skip
    refine lv_iconst (v := 1) hx hb kd_Mo_sample_20 (by decide) ?_
    refine lv_goto (tgt := 25) hx hb kd_Mo_sample_21 (by decide) ?_
    refine fin _ _ _ _ ?_ hl hI
    unfold zv_smp
    first
    | (rw [if_neg (zv_01 h5), if_neg h9, if_neg (Int32.not_le.mpr h17)]; done)
    | (rw [if_neg (zv_01 h5), if_neg h9, if_pos (Int32.not_lt.mp h17)]; done)
    | (rw [if_neg (zv_01 h5), if_pos h9]; done)
    | (rw [if_pos (zv_10 h5)]; done)
  · skip
    refine zr_iload_n hx hb kd_Mo_sample_8 hl rfl ?_
    refine lv_if_lt (tgt := 20) hx hb kd_Mo_sample_9 (by decide) (fun h9 => ?_) (fun h9 => ?_)
    · skip
      refine lv_iconst (v := 1) hx hb kd_Mo_sample_20 (by decide) ?_
      refine lv_goto (tgt := 25) hx hb kd_Mo_sample_21 (by decide) ?_
      refine fin _ _ _ _ ?_ hl hI
      unfold zv_smp
      first
      | (rw [if_neg (zv_01 h5), if_neg h9, if_neg (Int32.not_le.mpr h17)]; done)
      | (rw [if_neg (zv_01 h5), if_neg h9, if_pos (Int32.not_lt.mp h17)]; done)
      | (rw [if_neg (zv_01 h5), if_pos h9]; done)
      | (rw [if_pos (zv_10 h5)]; done)
    · skip
      refine zr_iload_n hx hb kd_Mo_sample_12 hl rfl ?_
      refine zr_aload_n hx hb kd_Mo_sample_13 hl rfl ?_
      refine zr_geti hS hK kf_Mo_197 hI ha_MO hs_MO kd_Mo_sample_14 ?_
      refine lv_icmp_lt (tgt := 24) hx hb kd_Mo_sample_17 (by decide) (fun h17 => ?_) (fun h17 => ?_)
      · skip
        refine lv_iconst (v := 0) hx hb kd_Mo_sample_24 (by decide) ?_
        refine fin _ _ _ _ ?_ hl hI
        unfold zv_smp
        first
        | (rw [if_neg (zv_01 h5), if_neg h9, if_neg (Int32.not_le.mpr h17)]; done)
        | (rw [if_neg (zv_01 h5), if_neg h9, if_pos (Int32.not_lt.mp h17)]; done)
        | (rw [if_neg (zv_01 h5), if_pos h9]; done)
        | (rw [if_pos (zv_10 h5)]; done)
      · skip
        refine lv_iconst (v := 1) hx hb kd_Mo_sample_20 (by decide) ?_
        refine lv_goto (tgt := 25) hx hb kd_Mo_sample_21 (by decide) ?_
        refine fin _ _ _ _ ?_ hl hI
        unfold zv_smp
        first
        | (rw [if_neg (zv_01 h5), if_neg h9, if_neg (Int32.not_le.mpr h17)]; done)
        | (rw [if_neg (zv_01 h5), if_neg h9, if_pos (Int32.not_lt.mp h17)]; done)
        | (rw [if_neg (zv_01 h5), if_pos h9]; done)
        | (rw [if_pos (zv_10 h5)]; done)

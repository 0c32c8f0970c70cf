/-! The reference's public methods: shapes, moves, turns. -/
def zv_shp (M : zm_T) (c lv i o : Int32) : Int32 := if ¬ zv_noc M c = 0 then 1 else if zf_in lv 0 1024 = 0 ∨ i < 0 ∨ o < 0 then 2 else if M.1 159 c.toNatClampNeg < i then 2 else if M.1 159 c.toNatClampNeg - i < o then 2 else 0
set_option maxRecDepth 100000 in
set_option maxHeartbeats 4000000 in
theorem c_Mo_shape (l : Launch) (G : zg_T) (M : zm_T) (hL : zL M.2) (c lv i o : Int32) : Met l ky_Mo_shape (zr_ws ky_Mo_shape kc_Mo_shape 6 none) (zr_rm 1) (va_Pc [.ref (G.2.2.1 + 151), .int c, .int lv, .int i, .int o] (zm_B G 183 zs M)) (va_Qv (fun (M' : zm_T) => M' = if zv_shp M c lv i o = 0 then zm_ui (zm_ui (zm_ui (zm_ui M 151 0 0) 160 c.toNatClampNeg lv) 161 c.toNatClampNeg i) 162 c.toNatClampNeg o else zm_ui M 151 0 (zv_shp M c lv i o)) (zm_B G 183 zs) (zm_A G)) 0 0 (zm_A G) := by
  refine zr_met (by decide +kernel) (Nat.le_of_ble_eq_true rfl) ?_
  intro p0 e0 s0 m0 below meth c0 ls hS hK hlk hr hl hI
  have hx := hS.1
  have hb := hS.2.1
  have hl : zl_has ls 6 [some (.ref (G.2.2.1 + 151)), some (.int c), some (.int lv), some (.int i), some (.int o), none] := hl
  have hvp : zv_noc M c = 0 → vp_in c 16 := fun h => by
    obtain ⟨n, hn, rfl, -⟩ := zv_noc_0 h
    exact vp_in_nI (by omega) (by decide)
  have rest : ∀ (v : Int32) (o5 : Option Value) (H : Heap) (locs : List Loc) (ls : Array Slot), v = zv_shp M c lv i o → zl_has ls 6 [some (.ref (G.2.2.1 + 151)), some (.int c), some (.int lv), some (.int i), some (.int o), o5] → zm_I G 183 zs M s0 H locs → W p0 l e0 (zr_rm 1) s0 m0 ([.ref (G.2.2.1 + 151), .int c, .int lv, .int i, .int o] : List Value).toArray below meth c0 H locs 0 0 (MQ below (va_Qv (fun (M' : zm_T) => M' = if zv_shp M c lv i o = 0 then zm_ui (zm_ui (zm_ui (zm_ui M 151 0 0) 160 c.toNatClampNeg lv) 161 c.toNatClampNeg i) 162 c.toNatClampNeg o else zm_ui M 151 0 (zv_shp M c lv i o)) (zm_B G 183 zs) (zm_A G)) ([.ref (G.2.2.1 + 151), .int c, .int lv, .int i, .int o] : List Value).toArray s0 0 0 (zm_A G)) (F0 m0 69 ls [.int v, .ref (G.2.2.1 + 151)]) := by
    intro v o5 H locs ls hv hl hI
    rw [← hv]
    by_cases h0 : v = 0
    · subst h0
      have hc : vp_in c 16 := by
        refine hvp (Decidable.byContradiction (fun g => ?_))
        unfold zv_shp at hv
        rw [if_pos g] at hv
        exact absurd hv (by decide)
      rw [if_pos rfl]
      refine zr_puti hS hK kf_Mo_101 hI ha_MO hs_MO rfl rfl kd_Mo_shape_69 (fun H locs hI => ?_)
      refine zr_aload_n hx hb kd_Mo_shape_72 hl rfl ?_
      refine zr_geti hS hK kf_Mo_101 hI ha_MO hs_MO kd_Mo_shape_73 ?_
      refine lv_if_ne (tgt := 101) hx hb kd_Mo_shape_76 (by decide) (fun h76 => absurd (zm_ui_at) h76) (fun h76 => ?_)
      refine zr_aload_n hx hb kd_Mo_shape_79 hl rfl ?_
      refine zr_getr hS hK kf_Mo_35 hI ha_MO hs_MO (show _ = some 160 from zL_mo hL (k := 9) (by decide) (by decide)) kd_Mo_shape_80 ?_
      refine zr_iload_n hx hb kd_Mo_shape_83 hl rfl ?_
      refine zr_iload_n hx hb kd_Mo_shape_84 hl rfl ?_
      refine zr_iast hS hK hI ha_MO_9 hs_MO_9 hc kd_Mo_shape_85 (fun H locs hI => ?_)
      refine zr_aload_n hx hb kd_Mo_shape_86 hl rfl ?_
      refine zr_getr hS hK kf_Mo_38 hI ha_MO hs_MO (show _ = some 161 from zL_mo hL (k := 10) (by decide) (by decide)) kd_Mo_shape_87 ?_
      refine zr_iload_n hx hb kd_Mo_shape_90 hl rfl ?_
      refine zr_iload_n hx hb kd_Mo_shape_91 hl rfl ?_
      refine zr_iast hS hK hI ha_MO_10 hs_MO_10 hc kd_Mo_shape_92 (fun H locs hI => ?_)
      refine zr_aload_n hx hb kd_Mo_shape_93 hl rfl ?_
      refine zr_getr hS hK kf_Mo_41 hI ha_MO hs_MO (show _ = some 162 from zL_mo hL (k := 11) (by decide) (by decide)) kd_Mo_shape_94 ?_
      refine zr_iload_n hx hb kd_Mo_shape_97 hl rfl ?_
      refine zr_iload hx hb kd_Mo_shape_98 hl rfl ?_
      refine zr_iast hS hK hI ha_MO_11 hs_MO_11 hc kd_Mo_shape_100 (fun H locs hI => ?_)
      exact zr_vret hS hK hlk hr hI kd_Mo_shape_101 (rfl)
    · rw [if_neg h0]
      refine zr_puti hS hK kf_Mo_101 hI ha_MO hs_MO rfl rfl kd_Mo_shape_69 (fun H locs hI => ?_)
      refine zr_aload_n hx hb kd_Mo_shape_72 hl rfl ?_
      refine zr_geti hS hK kf_Mo_101 hI ha_MO hs_MO kd_Mo_shape_73 ?_
      refine lv_if_ne (tgt := 101) hx hb kd_Mo_shape_76 (by decide) (fun h76 => ?_) (fun h76 => absurd h76 (by rw [zm_ui_at]; exact h0))
      exact zr_vret hS hK hlk hr hI kd_Mo_shape_101 (rfl)
  have mid : ∀ (w : Int32) (H : Heap) (locs : List Loc) (ls : Array Slot), (w = if zf_in lv 0 1024 = 0 ∨ i < 0 ∨ o < 0 then 1 else 0) → zl_has ls 6 [some (.ref (G.2.2.1 + 151)), some (.int c), some (.int lv), some (.int i), some (.int o), some (.int w)] → zm_I G 183 zs M s0 H locs → W p0 l e0 (zr_rm 1) s0 m0 ([.ref (G.2.2.1 + 151), .int c, .int lv, .int i, .int o] : List Value).toArray below meth c0 H locs 0 0 (MQ below (va_Qv (fun (M' : zm_T) => M' = if zv_shp M c lv i o = 0 then zm_ui (zm_ui (zm_ui (zm_ui M 151 0 0) 160 c.toNatClampNeg lv) 161 c.toNatClampNeg i) 162 c.toNatClampNeg o else zm_ui M 151 0 (zv_shp M c lv i o)) (zm_B G 183 zs) (zm_A G)) ([.ref (G.2.2.1 + 151), .int c, .int lv, .int i, .int o] : List Value).toArray s0 0 0 (zm_A G)) (F0 m0 23 ls []) := by
    intro w H locs ls hw hl hI
    have w0 : w = 0 → ¬ (zf_in lv 0 1024 = 0 ∨ i < 0 ∨ o < 0) := fun h g => by rw [if_pos g] at hw; exact absurd (hw.symm.trans h) (by decide)
    have w1 : ¬ w = 0 → (zf_in lv 0 1024 = 0 ∨ i < 0 ∨ o < 0) := fun h => Decidable.byContradiction (fun g => by rw [if_neg g] at hw; exact h hw)
    refine zr_aload_n hx hb kd_Mo_shape_23 hl rfl ?_
    refine zr_aload_n hx hb kd_Mo_shape_24 hl rfl ?_
    refine zr_iload_n hx hb kd_Mo_shape_25 hl rfl ?_
    refine zr_ci (zr_runV hS hK (c_Mo_noClip l G M hL c) km_Mo_126 hI ha_MO hs_MO rfl hl.1 (Nat.le_of_ble_eq_true rfl) (by decide) (by decide) kd_Mo_shape_26 rfl) hI (fun r26 M26 H locs hp26 hI => ?_)
    obtain ⟨rfl, hM26⟩ := hp26
    rw [hM26] at hI
    refine lv_if_eq (tgt := 36) hx hb kd_Mo_shape_29 (by decide) (fun h29 => ?_) (fun h29 => ?_)
    · skip
      refine zr_iload hx hb kd_Mo_shape_36 hl rfl ?_
      refine lv_if_ne (tgt := 64) hx hb kd_Mo_shape_38 (by decide) (fun h38 => ?_) (fun h38 => ?_)
      · skip
        refine lv_iconst (v := 2) hx hb kd_Mo_shape_64 (by decide) ?_
        refine lv_goto (tgt := 69) hx hb kd_Mo_shape_65 (by decide) ?_
        refine rest _ _ H locs ls ?_ hl hI
        unfold zv_shp
        first
        | (rw [if_neg (not_not_intro h29), if_neg (w0 h38), if_neg h48, if_neg (Int32.not_lt.mpr h61)]; done)
        | (rw [if_neg (not_not_intro h29), if_neg (w0 h38), if_neg h48, if_pos (Int32.not_le.mp h61)]; done)
        | (rw [if_neg (not_not_intro h29), if_neg (w0 h38), if_pos h48]; done)
        | (rw [if_neg (not_not_intro h29), if_pos (w1 h38)]; done)
        | (rw [if_pos h29]; done)
      · skip
        refine zr_iload_n hx hb kd_Mo_shape_41 hl rfl ?_
        refine zr_aload_n hx hb kd_Mo_shape_42 hl rfl ?_
        refine zr_getr hS hK kf_Mo_32 hI ha_MO hs_MO (show _ = some 159 from zL_mo hL (k := 8) (by decide) (by decide)) kd_Mo_shape_43 ?_
        refine zr_iload_n hx hb kd_Mo_shape_46 hl rfl ?_
        refine zr_iald hS hK hI ha_MO_8 hs_MO_8 (hvp h29) kd_Mo_shape_47 ?_
        refine lv_icmp_gt (tgt := 64) hx hb kd_Mo_shape_48 (by decide) (fun h48 => ?_) (fun h48 => ?_)
        · skip
          refine lv_iconst (v := 2) hx hb kd_Mo_shape_64 (by decide) ?_
          refine lv_goto (tgt := 69) hx hb kd_Mo_shape_65 (by decide) ?_
          refine rest _ _ H locs ls ?_ hl hI
          unfold zv_shp
          first
          | (rw [if_neg (not_not_intro h29), if_neg (w0 h38), if_neg h48, if_neg (Int32.not_lt.mpr h61)]; done)
          | (rw [if_neg (not_not_intro h29), if_neg (w0 h38), if_neg h48, if_pos (Int32.not_le.mp h61)]; done)
          | (rw [if_neg (not_not_intro h29), if_neg (w0 h38), if_pos h48]; done)
          | (rw [if_neg (not_not_intro h29), if_pos (w1 h38)]; done)
          | (rw [if_pos h29]; done)
        · skip
          refine zr_iload hx hb kd_Mo_shape_51 hl rfl ?_
          refine zr_aload_n hx hb kd_Mo_shape_53 hl rfl ?_
          refine zr_getr hS hK kf_Mo_32 hI ha_MO hs_MO (show _ = some 159 from zL_mo hL (k := 8) (by decide) (by decide)) kd_Mo_shape_54 ?_
          refine zr_iload_n hx hb kd_Mo_shape_57 hl rfl ?_
          refine zr_iald hS hK hI ha_MO_8 hs_MO_8 (hvp h29) kd_Mo_shape_58 ?_
          refine zr_iload_n hx hb kd_Mo_shape_59 hl rfl ?_
          refine lv_isub hx hb kd_Mo_shape_60 ?_
          refine lv_icmp_le (tgt := 68) hx hb kd_Mo_shape_61 (by decide) (fun h61 => ?_) (fun h61 => ?_)
          · skip
            refine lv_iconst (v := 0) hx hb kd_Mo_shape_68 (by decide) ?_
            refine rest _ _ H locs ls ?_ hl hI
            unfold zv_shp
            first
            | (rw [if_neg (not_not_intro h29), if_neg (w0 h38), if_neg h48, if_neg (Int32.not_lt.mpr h61)]; done)
            | (rw [if_neg (not_not_intro h29), if_neg (w0 h38), if_neg h48, if_pos (Int32.not_le.mp h61)]; done)
            | (rw [if_neg (not_not_intro h29), if_neg (w0 h38), if_pos h48]; done)
            | (rw [if_neg (not_not_intro h29), if_pos (w1 h38)]; done)
            | (rw [if_pos h29]; done)
          · skip
            refine lv_iconst (v := 2) hx hb kd_Mo_shape_64 (by decide) ?_
            refine lv_goto (tgt := 69) hx hb kd_Mo_shape_65 (by decide) ?_
            refine rest _ _ H locs ls ?_ hl hI
            unfold zv_shp
            first
            | (rw [if_neg (not_not_intro h29), if_neg (w0 h38), if_neg h48, if_neg (Int32.not_lt.mpr h61)]; done)
            | (rw [if_neg (not_not_intro h29), if_neg (w0 h38), if_neg h48, if_pos (Int32.not_le.mp h61)]; done)
            | (rw [if_neg (not_not_intro h29), if_neg (w0 h38), if_pos h48]; done)
            | (rw [if_neg (not_not_intro h29), if_pos (w1 h38)]; done)
            | (rw [if_pos h29]; done)
    · skip
      refine lv_iconst (v := 1) hx hb kd_Mo_shape_32 (by decide) ?_
      refine lv_goto (tgt := 69) hx hb kd_Mo_shape_33 (by decide) ?_
      refine rest _ _ H locs ls ?_ hl hI
      unfold zv_shp
      first
      | (rw [if_neg (not_not_intro h29), if_neg (w0 h38), if_neg h48, if_neg (Int32.not_lt.mpr h61)]; done)
      | (rw [if_neg (not_not_intro h29), if_neg (w0 h38), if_neg h48, if_pos (Int32.not_le.mp h61)]; done)
      | (rw [if_neg (not_not_intro h29), if_neg (w0 h38), if_pos h48]; done)
      | (rw [if_neg (not_not_intro h29), if_pos (w1 h38)]; done)
      | (rw [if_pos h29]; done)
  refine zr_iload_n hx hb kd_Mo_shape_0 hl rfl ?_
  refine zr_ci (zr_runS hS hK (c_Mo_noLevel l G 183 zs M _) km_Mo_130 hI rfl hl.1 (Nat.le_of_ble_eq_true rfl) (by decide) (by decide) kd_Mo_shape_1 rfl) hI (fun r1 M1 H locs hp1 hI => ?_)
  obtain ⟨rfl, hM1⟩ := hp1
  rw [hM1] at hI
  refine lv_if_ne (tgt := 16) hx hb kd_Mo_shape_4 (by decide) (fun h4 => ?_) (fun h4 => ?_)
  · skip
    refine lv_iconst (v := 1) hx hb kd_Mo_shape_16 (by decide) ?_
    refine lv_goto (tgt := 21) hx hb kd_Mo_shape_17 (by decide) ?_
    refine zr_istore hx hb kd_Mo_shape_21 hl (by decide) rfl (fun ls hl => ?_)
    refine mid _ _ _ _ ?_ hl hI
    first
    | (rw [if_neg (fun g => g.elim (zv_01 h4) (fun g => g.elim h8 (Int32.not_lt.mpr h13)))]; done)
    | (rw [if_pos (Or.inr (Or.inr (Int32.not_le.mp h13)))]; done)
    | (rw [if_pos (Or.inr (Or.inl h8))]; done)
    | (rw [if_pos (Or.inl (zv_10 h4))]; done)
  · skip
    refine zr_iload_n hx hb kd_Mo_shape_7 hl rfl ?_
    refine lv_if_lt (tgt := 16) hx hb kd_Mo_shape_8 (by decide) (fun h8 => ?_) (fun h8 => ?_)
    · skip
      refine lv_iconst (v := 1) hx hb kd_Mo_shape_16 (by decide) ?_
      refine lv_goto (tgt := 21) hx hb kd_Mo_shape_17 (by decide) ?_
      refine zr_istore hx hb kd_Mo_shape_21 hl (by decide) rfl (fun ls hl => ?_)
      refine mid _ _ _ _ ?_ hl hI
      first
      | (rw [if_neg (fun g => g.elim (zv_01 h4) (fun g => g.elim h8 (Int32.not_lt.mpr h13)))]; done)
      | (rw [if_pos (Or.inr (Or.inr (Int32.not_le.mp h13)))]; done)
      | (rw [if_pos (Or.inr (Or.inl h8))]; done)
      | (rw [if_pos (Or.inl (zv_10 h4))]; done)
    · skip
      refine zr_iload hx hb kd_Mo_shape_11 hl rfl ?_
      refine lv_if_ge (tgt := 20) hx hb kd_Mo_shape_13 (by decide) (fun h13 => ?_) (fun h13 => ?_)
      · skip
        refine lv_iconst (v := 0) hx hb kd_Mo_shape_20 (by decide) ?_
        refine zr_istore hx hb kd_Mo_shape_21 hl (by decide) rfl (fun ls hl => ?_)
        refine mid _ _ _ _ ?_ hl hI
        first
        | (rw [if_neg (fun g => g.elim (zv_01 h4) (fun g => g.elim h8 (Int32.not_lt.mpr h13)))]; done)
        | (rw [if_pos (Or.inr (Or.inr (Int32.not_le.mp h13)))]; done)
        | (rw [if_pos (Or.inr (Or.inl h8))]; done)
        | (rw [if_pos (Or.inl (zv_10 h4))]; done)
      · skip
        refine lv_iconst (v := 1) hx hb kd_Mo_shape_16 (by decide) ?_
        refine lv_goto (tgt := 21) hx hb kd_Mo_shape_17 (by decide) ?_
        refine zr_istore hx hb kd_Mo_shape_21 hl (by decide) rfl (fun ls hl => ?_)
        refine mid _ _ _ _ ?_ hl hI
        first
        | (rw [if_neg (fun g => g.elim (zv_01 h4) (fun g => g.elim h8 (Int32.not_lt.mpr h13)))]; done)
        | (rw [if_pos (Or.inr (Or.inr (Int32.not_le.mp h13)))]; done)
        | (rw [if_pos (Or.inr (Or.inl h8))]; done)
        | (rw [if_pos (Or.inl (zv_10 h4))]; done)
def zv_mv (M : zm_T) (c t a : Int32) : Int32 := if ¬ zv_noc M c = 0 then 1 else if zf_in t 0 3 = 0 then 2 else if zf_in a 0 (1024 - M.1 159 c.toNatClampNeg) = 0 then 2 else 0
set_option maxRecDepth 100000 in
set_option maxHeartbeats 4000000 in
theorem c_Mo_move (l : Launch) (G : zg_T) (M : zm_T) (hL : zL M.2) (c t a : Int32) : Met l ky_Mo_move (zr_ws ky_Mo_move kc_Mo_move 4 (some .boolean)) (zr_rm 1) (va_Pc [.ref (G.2.2.1 + 151), .int c, .int t, .int a] (zm_B G 183 zs M)) (va_Qi (fun (r : Int32) (M' : zm_T) => (¬ zv_mv M c t a = 0 ∧ M' = zm_ui M 151 0 (zv_mv M c t a)) ∨ (zv_mv M c t a = 0 ∧ ((r = 0 ∧ (∃ d, d < 16 ∧ zg_tk M t a (M.1 159 c.toNatClampNeg) c d) ∧ M' = zm_ui M 151 0 0) ∨ (r = 1 ∧ ¬ (∃ d, d < 16 ∧ zg_tk M t a (M.1 159 c.toNatClampNeg) c d) ∧ M' = zm_ui (zm_ui (zm_ui M 151 0 0) 155 c.toNatClampNeg t) 156 c.toNatClampNeg a)))) (zm_B G 183 zs) (zm_A G)) 0 0 (zm_A G) := by
  refine zr_met (by decide +kernel) (Nat.le_of_ble_eq_true rfl) ?_
  intro p0 e0 s0 m0 below meth c0 ls hS hK hlk hr hl hI
  have hx := hS.1
  have hb := hS.2.1
  have hl : zl_has ls 4 [some (.ref (G.2.2.1 + 151)), some (.int c), some (.int t), some (.int a)] := hl
  have hvp : zv_noc M c = 0 → vp_in c 16 := fun h => by
    obtain ⟨n, hn, rfl, -⟩ := zv_noc_0 h
    exact vp_in_nI (by omega) (by decide)
  have rest : ∀ (v : Int32) (H : Heap) (locs : List Loc) (ls : Array Slot), v = zv_mv M c t a → (v = 0 ∨ v = 1 ∨ v = 2) → zl_has ls 4 [some (.ref (G.2.2.1 + 151)), some (.int c), some (.int t), some (.int a)] → zm_I G 183 zs M s0 H locs → W p0 l e0 (zr_rm 1) s0 m0 ([.ref (G.2.2.1 + 151), .int c, .int t, .int a] : List Value).toArray below meth c0 H locs 0 0 (MQ below (va_Qi (fun (r : Int32) (M' : zm_T) => (¬ zv_mv M c t a = 0 ∧ M' = zm_ui M 151 0 (zv_mv M c t a)) ∨ (zv_mv M c t a = 0 ∧ ((r = 0 ∧ (∃ d, d < 16 ∧ zg_tk M t a (M.1 159 c.toNatClampNeg) c d) ∧ M' = zm_ui M 151 0 0) ∨ (r = 1 ∧ ¬ (∃ d, d < 16 ∧ zg_tk M t a (M.1 159 c.toNatClampNeg) c d) ∧ M' = zm_ui (zm_ui (zm_ui M 151 0 0) 155 c.toNatClampNeg t) 156 c.toNatClampNeg a)))) (zm_B G 183 zs) (zm_A G)) ([.ref (G.2.2.1 + 151), .int c, .int t, .int a] : List Value).toArray s0 0 0 (zm_A G)) (F0 m0 45 ls [.int v, .ref (G.2.2.1 + 151)]) := by
    intro v H locs ls hv hv3 hl hI
    by_cases h0 : v = 0
    · subst h0
      have hc : vp_in c 16 := by
        refine hvp (Decidable.byContradiction (fun g => ?_))
        unfold zv_mv at hv
        rw [if_pos g] at hv
        exact absurd hv (by decide)
      have etk : ∀ d, zg_tk (zm_ui M 151 0 0) t a (M.1 159 c.toNatClampNeg) c d ↔ zg_tk M t a (M.1 159 c.toNatClampNeg) c d := fun d => by
        unfold zg_tk
        rw [zm_ui_ne (Or.inl (by decide)), zm_ui_ne (Or.inl (by decide)), zm_ui_ne (Or.inl (by decide)), zm_ui_ne (Or.inl (by decide))]
      refine zr_puti hS hK kf_Mo_101 hI ha_MO hs_MO rfl rfl kd_Mo_move_45 (fun H locs hI => ?_)
      refine zr_aload_n hx hb kd_Mo_move_48 hl rfl ?_
      refine zr_geti hS hK kf_Mo_101 hI ha_MO hs_MO kd_Mo_move_49 ?_
      refine lv_if_gt (tgt := 71) hx hb kd_Mo_move_52 (by decide) (fun h52 => absurd h52 ((by rw [zm_ui_at]; decide))) (fun h52 => ?_)
      refine zr_aload_n hx hb kd_Mo_move_55 hl rfl ?_
      refine zr_iload_n hx hb kd_Mo_move_56 hl rfl ?_
      refine zr_iload_n hx hb kd_Mo_move_57 hl rfl ?_
      refine zr_aload_n hx hb kd_Mo_move_58 hl rfl ?_
      refine zr_getr hS hK kf_Mo_32 hI ha_MO hs_MO (show _ = some 159 from zL_mo hL (k := 8) (by decide) (by decide)) kd_Mo_move_59 ?_
      refine zr_iload_n hx hb kd_Mo_move_62 hl rfl ?_
      refine zr_iald hS hK hI ha_MO_8 hs_MO_8 hc kd_Mo_move_63 ?_
      refine zr_iload_n hx hb kd_Mo_move_64 hl rfl ?_
      rw [zm_ui_ne (Or.inl (by decide))]
      refine zr_ci (zr_runV hS hK (c_Mo_isTaken l G (zm_ui M 151 0 0) hL _ _ _ _) km_Mo_122 hI ha_MO hs_MO rfl hl.1 (Nat.le_of_ble_eq_true rfl) (by decide) (by decide) kd_Mo_move_65 rfl) hI (fun r65 M65 H locs hp65 hI => ?_)
      obtain ⟨hr65, hM65⟩ := hp65
      rw [hM65] at hI
      simp only [etk] at hr65
      refine lv_if_eq (tgt := 73) hx hb kd_Mo_move_68 (by decide) (fun h68 => ?_) (fun h68 => ?_)
      · skip
        refine zr_aload_n hx hb kd_Mo_move_73 hl rfl ?_
        refine zr_getr hS hK kf_Mo_20 hI ha_MO hs_MO (show _ = some 155 from zL_mo hL (k := 4) (by decide) (by decide)) kd_Mo_move_74 ?_
        refine zr_iload_n hx hb kd_Mo_move_77 hl rfl ?_
        refine zr_iload_n hx hb kd_Mo_move_78 hl rfl ?_
        refine zr_iast hS hK hI ha_MO_4 hs_MO_4 hc kd_Mo_move_79 (fun H locs hI => ?_)
        refine zr_aload_n hx hb kd_Mo_move_80 hl rfl ?_
        refine zr_getr hS hK kf_Mo_23 hI ha_MO hs_MO (show _ = some 156 from zL_mo hL (k := 5) (by decide) (by decide)) kd_Mo_move_81 ?_
        refine zr_iload_n hx hb kd_Mo_move_84 hl rfl ?_
        refine zr_iload_n hx hb kd_Mo_move_85 hl rfl ?_
        refine zr_iast hS hK hI ha_MO_5 hs_MO_5 hc kd_Mo_move_86 (fun H locs hI => ?_)
        refine lv_iconst (v := 1) hx hb kd_Mo_move_87 (by decide) ?_
        exact zr_zret hS hK hlk hr (by decide) hI kd_Mo_move_88 (Or.inr ⟨hv.symm, by
            first
            | exact Or.inr ⟨rfl, zt_is_f hr65 h68, rfl⟩
            | exact Or.inl ⟨rfl, zt_is_t hr65 h68, rfl⟩⟩)
      · skip
        refine lv_iconst (v := 0) hx hb kd_Mo_move_71 (by decide) ?_
        exact zr_zret hS hK hlk hr (by decide) hI kd_Mo_move_72 (Or.inr ⟨hv.symm, by
            first
            | exact Or.inr ⟨rfl, zt_is_f hr65 h68, rfl⟩
            | exact Or.inl ⟨rfl, zt_is_t hr65 h68, rfl⟩⟩)
    · refine zr_puti hS hK kf_Mo_101 hI ha_MO hs_MO rfl rfl kd_Mo_move_45 (fun H locs hI => ?_)
      refine zr_aload_n hx hb kd_Mo_move_48 hl rfl ?_
      refine zr_geti hS hK kf_Mo_101 hI ha_MO hs_MO kd_Mo_move_49 ?_
      refine lv_if_gt (tgt := 71) hx hb kd_Mo_move_52 (by decide) (fun h52 => ?_) (fun h52 => absurd ((by rw [zm_ui_at]; rcases hv3 with g | g | g <;> first | exact absurd g h0 | (rw [g]; decide))) h52)
      refine lv_iconst (v := 0) hx hb kd_Mo_move_71 (by decide) ?_
      exact zr_zret hS hK hlk hr (by decide) hI kd_Mo_move_72 (Or.inl ⟨by rw [← hv]; exact h0, by rw [← hv]⟩)
  refine zr_aload_n hx hb kd_Mo_move_0 hl rfl ?_
  refine zr_aload_n hx hb kd_Mo_move_1 hl rfl ?_
  refine zr_iload_n hx hb kd_Mo_move_2 hl rfl ?_
  refine zr_ci (zr_runV hS hK (c_Mo_noClip l G M hL c) km_Mo_126 hI ha_MO hs_MO rfl hl.1 (Nat.le_of_ble_eq_true rfl) (by decide) (by decide) kd_Mo_move_3 rfl) hI (fun r3 M3 H locs hp3 hI => ?_)
  obtain ⟨rfl, hM3⟩ := hp3
  rw [hM3] at hI
  refine lv_if_eq (tgt := 13) hx hb kd_Mo_move_6 (by decide) (fun h6 => ?_) (fun h6 => ?_)
  · skip
    refine zr_iload_n hx hb kd_Mo_move_13 hl rfl ?_
    refine lv_if_lt (tgt := 40) hx hb kd_Mo_move_14 (by decide) (fun h14 => ?_) (fun h14 => ?_)
    · skip
      refine lv_iconst (v := 2) hx hb kd_Mo_move_40 (by decide) ?_
      refine lv_goto (tgt := 45) hx hb kd_Mo_move_41 (by decide) ?_
      refine rest _ _ _ _ ?_ (by decide) hl hI
      unfold zv_mv
      first
      | (rw [if_neg (not_not_intro h6), if_neg (fun g => (zv_in0.mp g).elim h14 h19), if_neg (fun g => (zv_in0.mp g).elim h23 (Int32.not_lt.mpr h37))]; done)
      | (rw [if_neg (not_not_intro h6), if_neg (fun g => (zv_in0.mp g).elim h14 h19), if_pos (zv_in0.mpr (Or.inr (Int32.not_le.mp h37)))]; done)
      | (rw [if_neg (not_not_intro h6), if_neg (fun g => (zv_in0.mp g).elim h14 h19), if_pos (zv_in0.mpr (Or.inl h23))]; done)
      | (rw [if_neg (not_not_intro h6), if_pos (zv_in0.mpr (Or.inr h19))]; done)
      | (rw [if_neg (not_not_intro h6), if_pos (zv_in0.mpr (Or.inl h14))]; done)
      | (rw [if_pos h6]; done)
    · skip
      refine zr_iload_n hx hb kd_Mo_move_17 hl rfl ?_
      refine lv_iconst (v := 3) hx hb kd_Mo_move_18 (by decide) ?_
      refine lv_icmp_gt (tgt := 40) hx hb kd_Mo_move_19 (by decide) (fun h19 => ?_) (fun h19 => ?_)
      · skip
        refine lv_iconst (v := 2) hx hb kd_Mo_move_40 (by decide) ?_
        refine lv_goto (tgt := 45) hx hb kd_Mo_move_41 (by decide) ?_
        refine rest _ _ _ _ ?_ (by decide) hl hI
        unfold zv_mv
        first
        | (rw [if_neg (not_not_intro h6), if_neg (fun g => (zv_in0.mp g).elim h14 h19), if_neg (fun g => (zv_in0.mp g).elim h23 (Int32.not_lt.mpr h37))]; done)
        | (rw [if_neg (not_not_intro h6), if_neg (fun g => (zv_in0.mp g).elim h14 h19), if_pos (zv_in0.mpr (Or.inr (Int32.not_le.mp h37)))]; done)
        | (rw [if_neg (not_not_intro h6), if_neg (fun g => (zv_in0.mp g).elim h14 h19), if_pos (zv_in0.mpr (Or.inl h23))]; done)
        | (rw [if_neg (not_not_intro h6), if_pos (zv_in0.mpr (Or.inr h19))]; done)
        | (rw [if_neg (not_not_intro h6), if_pos (zv_in0.mpr (Or.inl h14))]; done)
        | (rw [if_pos h6]; done)
      · skip
        refine zr_iload_n hx hb kd_Mo_move_22 hl rfl ?_
        refine lv_if_lt (tgt := 40) hx hb kd_Mo_move_23 (by decide) (fun h23 => ?_) (fun h23 => ?_)
        · skip
          refine lv_iconst (v := 2) hx hb kd_Mo_move_40 (by decide) ?_
          refine lv_goto (tgt := 45) hx hb kd_Mo_move_41 (by decide) ?_
          refine rest _ _ _ _ ?_ (by decide) hl hI
          unfold zv_mv
          first
          | (rw [if_neg (not_not_intro h6), if_neg (fun g => (zv_in0.mp g).elim h14 h19), if_neg (fun g => (zv_in0.mp g).elim h23 (Int32.not_lt.mpr h37))]; done)
          | (rw [if_neg (not_not_intro h6), if_neg (fun g => (zv_in0.mp g).elim h14 h19), if_pos (zv_in0.mpr (Or.inr (Int32.not_le.mp h37)))]; done)
          | (rw [if_neg (not_not_intro h6), if_neg (fun g => (zv_in0.mp g).elim h14 h19), if_pos (zv_in0.mpr (Or.inl h23))]; done)
          | (rw [if_neg (not_not_intro h6), if_pos (zv_in0.mpr (Or.inr h19))]; done)
          | (rw [if_neg (not_not_intro h6), if_pos (zv_in0.mpr (Or.inl h14))]; done)
          | (rw [if_pos h6]; done)
        · skip
          refine zr_iload_n hx hb kd_Mo_move_26 hl rfl ?_
          refine lv_sipush (v := 1024) hx hb kd_Mo_move_27 (by decide) ?_
          refine zr_aload_n hx hb kd_Mo_move_30 hl rfl ?_
          refine zr_getr hS hK kf_Mo_32 hI ha_MO hs_MO (show _ = some 159 from zL_mo hL (k := 8) (by decide) (by decide)) kd_Mo_move_31 ?_
          refine zr_iload_n hx hb kd_Mo_move_34 hl rfl ?_
          refine zr_iald hS hK hI ha_MO_8 hs_MO_8 (hvp h6) kd_Mo_move_35 ?_
          refine lv_isub hx hb kd_Mo_move_36 ?_
          refine lv_icmp_le (tgt := 44) hx hb kd_Mo_move_37 (by decide) (fun h37 => ?_) (fun h37 => ?_)
          · skip
            refine lv_iconst (v := 0) hx hb kd_Mo_move_44 (by decide) ?_
            refine rest _ _ _ _ ?_ (by decide) hl hI
            unfold zv_mv
            first
            | (rw [if_neg (not_not_intro h6), if_neg (fun g => (zv_in0.mp g).elim h14 h19), if_neg (fun g => (zv_in0.mp g).elim h23 (Int32.not_lt.mpr h37))]; done)
            | (rw [if_neg (not_not_intro h6), if_neg (fun g => (zv_in0.mp g).elim h14 h19), if_pos (zv_in0.mpr (Or.inr (Int32.not_le.mp h37)))]; done)
            | (rw [if_neg (not_not_intro h6), if_neg (fun g => (zv_in0.mp g).elim h14 h19), if_pos (zv_in0.mpr (Or.inl h23))]; done)
            | (rw [if_neg (not_not_intro h6), if_pos (zv_in0.mpr (Or.inr h19))]; done)
            | (rw [if_neg (not_not_intro h6), if_pos (zv_in0.mpr (Or.inl h14))]; done)
            | (rw [if_pos h6]; done)
          · skip
            refine lv_iconst (v := 2) hx hb kd_Mo_move_40 (by decide) ?_
            refine lv_goto (tgt := 45) hx hb kd_Mo_move_41 (by decide) ?_
            refine rest _ _ _ _ ?_ (by decide) hl hI
            unfold zv_mv
            first
            | (rw [if_neg (not_not_intro h6), if_neg (fun g => (zv_in0.mp g).elim h14 h19), if_neg (fun g => (zv_in0.mp g).elim h23 (Int32.not_lt.mpr h37))]; done)
            | (rw [if_neg (not_not_intro h6), if_neg (fun g => (zv_in0.mp g).elim h14 h19), if_pos (zv_in0.mpr (Or.inr (Int32.not_le.mp h37)))]; done)
            | (rw [if_neg (not_not_intro h6), if_neg (fun g => (zv_in0.mp g).elim h14 h19), if_pos (zv_in0.mpr (Or.inl h23))]; done)
            | (rw [if_neg (not_not_intro h6), if_pos (zv_in0.mpr (Or.inr h19))]; done)
            | (rw [if_neg (not_not_intro h6), if_pos (zv_in0.mpr (Or.inl h14))]; done)
            | (rw [if_pos h6]; done)
  · skip
    refine lv_iconst (v := 1) hx hb kd_Mo_move_9 (by decide) ?_
    refine lv_goto (tgt := 45) hx hb kd_Mo_move_10 (by decide) ?_
    refine rest _ _ _ _ ?_ (by decide) hl hI
    unfold zv_mv
    first
    | (rw [if_neg (not_not_intro h6), if_neg (fun g => (zv_in0.mp g).elim h14 h19), if_neg (fun g => (zv_in0.mp g).elim h23 (Int32.not_lt.mpr h37))]; done)
    | (rw [if_neg (not_not_intro h6), if_neg (fun g => (zv_in0.mp g).elim h14 h19), if_pos (zv_in0.mpr (Or.inr (Int32.not_le.mp h37)))]; done)
    | (rw [if_neg (not_not_intro h6), if_neg (fun g => (zv_in0.mp g).elim h14 h19), if_pos (zv_in0.mpr (Or.inl h23))]; done)
    | (rw [if_neg (not_not_intro h6), if_pos (zv_in0.mpr (Or.inr h19))]; done)
    | (rw [if_neg (not_not_intro h6), if_pos (zv_in0.mpr (Or.inl h14))]; done)
    | (rw [if_pos h6]; done)

/-! The reference's public methods: splits. -/
def zv_spl (M : zm_T) (c k : Int32) : Int32 := if ¬ zv_noc M c = 0 then 1 else if k < 1 then 2 else if M.1 159 c.toNatClampNeg ≤ k then 2 else 0
def zg_spl (M : zm_T) (c d : Nat) (k : Int32) : zm_T := zm_ui (zm_ui (zm_ui (zm_ui (zm_ui (zm_ui (zm_ui (zm_ui (zm_ui (zm_ui (zm_ui M 154 d 1) 155 d (M.1 155 c)) 156 d (M.1 156 c + k)) 157 d (M.1 157 c)) 158 d (M.1 158 c + k)) 159 d (M.1 159 c - k)) 160 d (M.1 160 c)) 161 d 0) 162 d (M.1 162 c)) 159 c k) 162 c 0
def zv_nsp (M : zm_T) (c : Nat) (k : Int32) : Prop := k < M.1 161 c ∨ M.1 159 c - k < M.1 162 c
set_option maxRecDepth 100000 in
set_option maxHeartbeats 4000000 in
theorem c_Mo_split (l : Launch) (G : zg_T) (M : zm_T) (hL : zL M.2) (c k : Int32) : Met l ky_Mo_split (zr_ws ky_Mo_split kc_Mo_split 4 (some .int)) (zr_rm 1) (va_Pc [.ref (G.2.2.1 + 151), .int c, .int k] (zm_B G 183 zs M)) (va_Qi (fun (r : Int32) (M' : zm_T) => (¬ zv_spl M c k = 0 ∧ M' = zm_ui M 151 0 (zv_spl M c k)) ∨ (zv_spl M c k = 0 ∧ ∃ d, zg_fr M d ∧ (((d = 16 ∨ zv_nsp M c.toNatClampNeg k) ∧ r = -1 ∧ M' = zm_ui M 151 0 0) ∨ (d < 16 ∧ ¬ zv_nsp M c.toNatClampNeg k ∧ r = nI d ∧ M' = zg_spl (zm_ui M 151 0 0) c.toNatClampNeg d k)))) (zm_B G 183 zs) (zm_A G)) 0 0 (zm_A G) := by
  refine zr_met (by decide +kernel) (Nat.le_of_ble_eq_true rfl) ?_
  intro p0 e0 s0 m0 below meth c0 ls hS hK hlk hr hl hI
  have hx := hS.1
  have hb := hS.2.1
  have hl : zl_has ls 4 [some (.ref (G.2.2.1 + 151)), some (.int c), some (.int k), none] := hl
  have hvp : zv_noc M c = 0 → vp_in c 16 := fun h => by
    obtain ⟨n, hn, rfl, -⟩ := zv_noc_0 h
    exact vp_in_nI (by omega) (by decide)
  have rest : ∀ (v : Int32) (H : Heap) (locs : List Loc) (ls : Array Slot), v = zv_spl M c k → (v = 0 ∨ v = 1 ∨ v = 2) → zl_has ls 4 [some (.ref (G.2.2.1 + 151)), some (.int c), some (.int k), none] → zm_I G 183 zs M s0 H locs → W p0 l e0 (zr_rm 1) s0 m0 ([.ref (G.2.2.1 + 151), .int c, .int k] : List Value).toArray below meth c0 H locs 0 0 (MQ below (va_Qi (fun (r : Int32) (M' : zm_T) => (¬ zv_spl M c k = 0 ∧ M' = zm_ui M 151 0 (zv_spl M c k)) ∨ (zv_spl M c k = 0 ∧ ∃ d, zg_fr M d ∧ (((d = 16 ∨ zv_nsp M c.toNatClampNeg k) ∧ r = -1 ∧ M' = zm_ui M 151 0 0) ∨ (d < 16 ∧ ¬ zv_nsp M c.toNatClampNeg k ∧ r = nI d ∧ M' = zg_spl (zm_ui M 151 0 0) c.toNatClampNeg d k)))) (zm_B G 183 zs) (zm_A G)) ([.ref (G.2.2.1 + 151), .int c, .int k] : List Value).toArray s0 0 0 (zm_A G)) (F0 m0 33 ls [.int v, .ref (G.2.2.1 + 151)]) := by
    intro v H locs ls hv v3 hl hI
    by_cases h0 : v = 0
    · subst h0
      have hc : vp_in c 16 := by
        refine hvp (Decidable.byContradiction (fun g => ?_))
        unfold zv_spl at hv
        rw [if_pos g] at hv
        exact absurd hv (by decide)
      have e1 : ∀ p j, p ≠ 151 → (zm_ui M 151 0 0).1 p j = M.1 p j := fun p j h => zm_ui_ne (Or.inl h)
      refine zr_puti hS hK kf_Mo_101 hI ha_MO hs_MO rfl rfl kd_Mo_split_33 (fun H locs hI => ?_)
      refine zr_aload_n hx hb kd_Mo_split_36 hl rfl ?_
      refine zr_geti hS hK kf_Mo_101 hI ha_MO hs_MO kd_Mo_split_37 ?_
      refine lv_if_le (tgt := 45) hx hb kd_Mo_split_40 (by decide) (fun h40 => ?_) (fun h40 => absurd ((by rw [zm_ui_at]; decide)) h40)
      refine zr_aload_n hx hb kd_Mo_split_45 hl rfl ?_
      refine zr_ci (zr_runV hS hK (c_Mo_freeClip l G (zm_ui M 151 0 0) hL) km_Mo_118 hI ha_MO hs_MO rfl hl.1 (Nat.le_of_ble_eq_true rfl) (by decide) (by decide) kd_Mo_split_46 rfl) hI (fun r46 M46 H locs hp46 hI => ?_)
      obtain ⟨⟨d, hfr, hr46⟩, hM46⟩ := hp46
      rw [hM46] at hI
      rw [zg_fr_0] at hfr
      refine zr_istore_n hx hb kd_Mo_split_49 hl (by decide) rfl (fun ls hl => ?_)
      refine zr_iload_n hx hb kd_Mo_split_50 hl rfl ?_
      refine lv_if_lt (tgt := 81) hx hb kd_Mo_split_51 (by decide) (fun h51 => ?_) (fun h51 => ?_)
      · skip
        refine lv_iconst (v := -1) hx hb kd_Mo_split_81 (by decide) ?_
        exact zr_iret hS hK hlk hr hI kd_Mo_split_82 (Or.inr ⟨hv.symm, d, hfr, Or.inl ⟨by
            first
            | exact Or.inr (Or.inr (Int32.not_le.mp h78))
            | exact Or.inr (Or.inl h61)
            | exact Or.inl (by
                have h16 := hfr.1
                by_cases g : d < 16
                · rw [hr46, if_pos g] at h51; exact absurd h51 (nI_pos (by omega))
                · omega), rfl, rfl⟩⟩)
      · skip
        have hd16 : d < 16 := Nat.lt_of_not_le (fun g => h51 (by rw [hr46, if_neg (by omega)]; decide))
        rw [if_pos hd16] at hr46
        subst hr46
        have cd : (nI d).toNatClampNeg = d := zn_cl (by omega)
        refine zr_iload_n hx hb kd_Mo_split_54 hl rfl ?_
        refine zr_aload_n hx hb kd_Mo_split_55 hl rfl ?_
        refine zr_getr hS hK kf_Mo_38 hI ha_MO hs_MO (show _ = some 161 from zL_mo hL (k := 10) (by decide) (by decide)) kd_Mo_split_56 ?_
        refine zr_iload_n hx hb kd_Mo_split_59 hl rfl ?_
        refine zr_iald hS hK hI ha_MO_10 hs_MO_10 hc kd_Mo_split_60 ?_
        rw [e1 161 _ (by decide)]
        refine lv_icmp_lt (tgt := 81) hx hb kd_Mo_split_61 (by decide) (fun h61 => ?_) (fun h61 => ?_)
        · skip
          refine lv_iconst (v := -1) hx hb kd_Mo_split_81 (by decide) ?_
          exact zr_iret hS hK hlk hr hI kd_Mo_split_82 (Or.inr ⟨hv.symm, d, hfr, Or.inl ⟨by
              first
              | exact Or.inr (Or.inr (Int32.not_le.mp h78))
              | exact Or.inr (Or.inl h61)
              | exact Or.inl (by
                  have h16 := hfr.1
                  by_cases g : d < 16
                  · rw [hr46, if_pos g] at h51; exact absurd h51 (nI_pos (by omega))
                  · omega), rfl, rfl⟩⟩)
        · skip
          refine zr_aload_n hx hb kd_Mo_split_64 hl rfl ?_
          refine zr_getr hS hK kf_Mo_32 hI ha_MO hs_MO (show _ = some 159 from zL_mo hL (k := 8) (by decide) (by decide)) kd_Mo_split_65 ?_
          refine zr_iload_n hx hb kd_Mo_split_68 hl rfl ?_
          refine zr_iald hS hK hI ha_MO_8 hs_MO_8 hc kd_Mo_split_69 ?_
          refine zr_iload_n hx hb kd_Mo_split_70 hl rfl ?_
          refine lv_isub hx hb kd_Mo_split_71 ?_
          refine zr_aload_n hx hb kd_Mo_split_72 hl rfl ?_
          refine zr_getr hS hK kf_Mo_41 hI ha_MO hs_MO (show _ = some 162 from zL_mo hL (k := 11) (by decide) (by decide)) kd_Mo_split_73 ?_
          refine zr_iload_n hx hb kd_Mo_split_76 hl rfl ?_
          refine zr_iald hS hK hI ha_MO_11 hs_MO_11 hc kd_Mo_split_77 ?_
          rw [e1 159 _ (by decide), e1 162 _ (by decide)]
          refine lv_icmp_ge (tgt := 83) hx hb kd_Mo_split_78 (by decide) (fun h78 => ?_) (fun h78 => ?_)
          · skip
            refine zr_aload_n hx hb kd_Mo_split_83 hl rfl ?_
            refine zr_getr hS hK kf_Mo_16 hI ha_MO hs_MO (show _ = some 154 from zL_mo hL (k := 3) (by decide) (by decide)) kd_Mo_split_84 ?_
            refine zr_iload_n hx hb kd_Mo_split_87 hl rfl ?_
            refine lv_iconst (v := 1) hx hb kd_Mo_split_88 (by decide) ?_
            refine zr_zast hS hK hI ha_MO_3 hs_MO_3 (vp_in_nI (by omega) (by decide)) kd_Mo_split_89 (fun H locs hI => ?_)
            refine zr_aload_n hx hb kd_Mo_split_90 hl rfl ?_
            refine zr_getr hS hK kf_Mo_20 hI ha_MO hs_MO (show _ = some 155 from zL_mo hL (k := 4) (by decide) (by decide)) kd_Mo_split_91 ?_
            refine zr_iload_n hx hb kd_Mo_split_94 hl rfl ?_
            refine zr_aload_n hx hb kd_Mo_split_95 hl rfl ?_
            refine zr_getr hS hK kf_Mo_20 hI ha_MO hs_MO (show _ = some 155 from zL_mo hL (k := 4) (by decide) (by decide)) kd_Mo_split_96 ?_
            refine zr_iload_n hx hb kd_Mo_split_99 hl rfl ?_
            refine zr_iald hS hK hI ha_MO_4 hs_MO_4 hc kd_Mo_split_100 ?_
            refine zr_iast hS hK hI ha_MO_4 hs_MO_4 (vp_in_nI (by omega) (by decide)) kd_Mo_split_101 (fun H locs hI => ?_)
            refine zr_aload_n hx hb kd_Mo_split_102 hl rfl ?_
            refine zr_getr hS hK kf_Mo_23 hI ha_MO hs_MO (show _ = some 156 from zL_mo hL (k := 5) (by decide) (by decide)) kd_Mo_split_103 ?_
            refine zr_iload_n hx hb kd_Mo_split_106 hl rfl ?_
            refine zr_aload_n hx hb kd_Mo_split_107 hl rfl ?_
            refine zr_getr hS hK kf_Mo_23 hI ha_MO hs_MO (show _ = some 156 from zL_mo hL (k := 5) (by decide) (by decide)) kd_Mo_split_108 ?_
            refine zr_iload_n hx hb kd_Mo_split_111 hl rfl ?_
            refine zr_iald hS hK hI ha_MO_5 hs_MO_5 hc kd_Mo_split_112 ?_
            refine zr_iload_n hx hb kd_Mo_split_113 hl rfl ?_
            refine lv_iadd hx hb kd_Mo_split_114 ?_
            refine zr_iast hS hK hI ha_MO_5 hs_MO_5 (vp_in_nI (by omega) (by decide)) kd_Mo_split_115 (fun H locs hI => ?_)
            refine zr_aload_n hx hb kd_Mo_split_116 hl rfl ?_
            refine zr_getr hS hK kf_Mo_26 hI ha_MO hs_MO (show _ = some 157 from zL_mo hL (k := 6) (by decide) (by decide)) kd_Mo_split_117 ?_
            refine zr_iload_n hx hb kd_Mo_split_120 hl rfl ?_
            refine zr_aload_n hx hb kd_Mo_split_121 hl rfl ?_
            refine zr_getr hS hK kf_Mo_26 hI ha_MO hs_MO (show _ = some 157 from zL_mo hL (k := 6) (by decide) (by decide)) kd_Mo_split_122 ?_
            refine zr_iload_n hx hb kd_Mo_split_125 hl rfl ?_
            refine zr_iald hS hK hI ha_MO_6 hs_MO_6 hc kd_Mo_split_126 ?_
            refine zr_iast hS hK hI ha_MO_6 hs_MO_6 (vp_in_nI (by omega) (by decide)) kd_Mo_split_127 (fun H locs hI => ?_)
            refine zr_aload_n hx hb kd_Mo_split_128 hl rfl ?_
            refine zr_getr hS hK kf_Mo_29 hI ha_MO hs_MO (show _ = some 158 from zL_mo hL (k := 7) (by decide) (by decide)) kd_Mo_split_129 ?_
            refine zr_iload_n hx hb kd_Mo_split_132 hl rfl ?_
            refine zr_aload_n hx hb kd_Mo_split_133 hl rfl ?_
            refine zr_getr hS hK kf_Mo_29 hI ha_MO hs_MO (show _ = some 158 from zL_mo hL (k := 7) (by decide) (by decide)) kd_Mo_split_134 ?_
            refine zr_iload_n hx hb kd_Mo_split_137 hl rfl ?_
            refine zr_iald hS hK hI ha_MO_7 hs_MO_7 hc kd_Mo_split_138 ?_
            refine zr_iload_n hx hb kd_Mo_split_139 hl rfl ?_
            refine lv_iadd hx hb kd_Mo_split_140 ?_
            refine zr_iast hS hK hI ha_MO_7 hs_MO_7 (vp_in_nI (by omega) (by decide)) kd_Mo_split_141 (fun H locs hI => ?_)
            refine zr_aload_n hx hb kd_Mo_split_142 hl rfl ?_
            refine zr_getr hS hK kf_Mo_32 hI ha_MO hs_MO (show _ = some 159 from zL_mo hL (k := 8) (by decide) (by decide)) kd_Mo_split_143 ?_
            refine zr_iload_n hx hb kd_Mo_split_146 hl rfl ?_
            refine zr_aload_n hx hb kd_Mo_split_147 hl rfl ?_
            refine zr_getr hS hK kf_Mo_32 hI ha_MO hs_MO (show _ = some 159 from zL_mo hL (k := 8) (by decide) (by decide)) kd_Mo_split_148 ?_
            refine zr_iload_n hx hb kd_Mo_split_151 hl rfl ?_
            refine zr_iald hS hK hI ha_MO_8 hs_MO_8 hc kd_Mo_split_152 ?_
            refine zr_iload_n hx hb kd_Mo_split_153 hl rfl ?_
            refine lv_isub hx hb kd_Mo_split_154 ?_
            refine zr_iast hS hK hI ha_MO_8 hs_MO_8 (vp_in_nI (by omega) (by decide)) kd_Mo_split_155 (fun H locs hI => ?_)
            refine zr_aload_n hx hb kd_Mo_split_156 hl rfl ?_
            refine zr_getr hS hK kf_Mo_35 hI ha_MO hs_MO (show _ = some 160 from zL_mo hL (k := 9) (by decide) (by decide)) kd_Mo_split_157 ?_
            refine zr_iload_n hx hb kd_Mo_split_160 hl rfl ?_
            refine zr_aload_n hx hb kd_Mo_split_161 hl rfl ?_
            refine zr_getr hS hK kf_Mo_35 hI ha_MO hs_MO (show _ = some 160 from zL_mo hL (k := 9) (by decide) (by decide)) kd_Mo_split_162 ?_
            refine zr_iload_n hx hb kd_Mo_split_165 hl rfl ?_
            refine zr_iald hS hK hI ha_MO_9 hs_MO_9 hc kd_Mo_split_166 ?_
            refine zr_iast hS hK hI ha_MO_9 hs_MO_9 (vp_in_nI (by omega) (by decide)) kd_Mo_split_167 (fun H locs hI => ?_)
            refine zr_aload_n hx hb kd_Mo_split_168 hl rfl ?_
            refine zr_getr hS hK kf_Mo_38 hI ha_MO hs_MO (show _ = some 161 from zL_mo hL (k := 10) (by decide) (by decide)) kd_Mo_split_169 ?_
            refine zr_iload_n hx hb kd_Mo_split_172 hl rfl ?_
            refine lv_iconst (v := 0) hx hb kd_Mo_split_173 (by decide) ?_
            refine zr_iast hS hK hI ha_MO_10 hs_MO_10 (vp_in_nI (by omega) (by decide)) kd_Mo_split_174 (fun H locs hI => ?_)
            refine zr_aload_n hx hb kd_Mo_split_175 hl rfl ?_
            refine zr_getr hS hK kf_Mo_41 hI ha_MO hs_MO (show _ = some 162 from zL_mo hL (k := 11) (by decide) (by decide)) kd_Mo_split_176 ?_
            refine zr_iload_n hx hb kd_Mo_split_179 hl rfl ?_
            refine zr_aload_n hx hb kd_Mo_split_180 hl rfl ?_
            refine zr_getr hS hK kf_Mo_41 hI ha_MO hs_MO (show _ = some 162 from zL_mo hL (k := 11) (by decide) (by decide)) kd_Mo_split_181 ?_
            refine zr_iload_n hx hb kd_Mo_split_184 hl rfl ?_
            refine zr_iald hS hK hI ha_MO_11 hs_MO_11 hc kd_Mo_split_185 ?_
            refine zr_iast hS hK hI ha_MO_11 hs_MO_11 (vp_in_nI (by omega) (by decide)) kd_Mo_split_186 (fun H locs hI => ?_)
            refine zr_aload_n hx hb kd_Mo_split_187 hl rfl ?_
            refine zr_getr hS hK kf_Mo_32 hI ha_MO hs_MO (show _ = some 159 from zL_mo hL (k := 8) (by decide) (by decide)) kd_Mo_split_188 ?_
            refine zr_iload_n hx hb kd_Mo_split_191 hl rfl ?_
            refine zr_iload_n hx hb kd_Mo_split_192 hl rfl ?_
            refine zr_iast hS hK hI ha_MO_8 hs_MO_8 hc kd_Mo_split_193 (fun H locs hI => ?_)
            refine zr_aload_n hx hb kd_Mo_split_194 hl rfl ?_
            refine zr_getr hS hK kf_Mo_41 hI ha_MO hs_MO (show _ = some 162 from zL_mo hL (k := 11) (by decide) (by decide)) kd_Mo_split_195 ?_
            refine zr_iload_n hx hb kd_Mo_split_198 hl rfl ?_
            refine lv_iconst (v := 0) hx hb kd_Mo_split_199 (by decide) ?_
            refine zr_iast hS hK hI ha_MO_11 hs_MO_11 hc kd_Mo_split_200 (fun H locs hI => ?_)
            refine zr_iload_n hx hb kd_Mo_split_201 hl rfl ?_
            exact zr_iret hS hK hlk hr hI kd_Mo_split_202 (Or.inr ⟨hv.symm, d, hfr, Or.inr ⟨hd16, fun g => g.elim h61 (Int32.not_lt.mpr h78), rfl, by
                unfold zg_spl
                rw [cd]
                repeat rw [zm_ui_ne (M := zm_ui _ _ _ _) (Or.inl (by decide))]
                rfl⟩⟩)
          · skip
            refine lv_iconst (v := -1) hx hb kd_Mo_split_81 (by decide) ?_
            exact zr_iret hS hK hlk hr hI kd_Mo_split_82 (Or.inr ⟨hv.symm, d, hfr, Or.inl ⟨by
                first
                | exact Or.inr (Or.inr (Int32.not_le.mp h78))
                | exact Or.inr (Or.inl h61)
                | exact Or.inl (by
                    have h16 := hfr.1
                    by_cases g : d < 16
                    · rw [hr46, if_pos g] at h51; exact absurd h51 (nI_pos (by omega))
                    · omega), rfl, rfl⟩⟩)
    · refine zr_puti hS hK kf_Mo_101 hI ha_MO hs_MO rfl rfl kd_Mo_split_33 (fun H locs hI => ?_)
      refine zr_aload_n hx hb kd_Mo_split_36 hl rfl ?_
      refine zr_geti hS hK kf_Mo_101 hI ha_MO hs_MO kd_Mo_split_37 ?_
      refine lv_if_le (tgt := 45) hx hb kd_Mo_split_40 (by decide) (fun h40 => absurd h40 ((by rw [zm_ui_at]; rcases v3 with g | g | g <;> first | exact absurd g h0 | (rw [g]; decide)))) (fun h40 => ?_)
      refine lv_iconst (v := 0) hx hb kd_Mo_split_43 (by decide) ?_
      exact zr_iret hS hK hlk hr hI kd_Mo_split_44 (Or.inl ⟨by rw [← hv]; exact h0, by rw [← hv]⟩)
  refine zr_aload_n hx hb kd_Mo_split_0 hl rfl ?_
  refine zr_aload_n hx hb kd_Mo_split_1 hl rfl ?_
  refine zr_iload_n hx hb kd_Mo_split_2 hl rfl ?_
  refine zr_ci (zr_runV hS hK (c_Mo_noClip l G M hL c) km_Mo_126 hI ha_MO hs_MO rfl hl.1 (Nat.le_of_ble_eq_true rfl) (by decide) (by decide) kd_Mo_split_3 rfl) hI (fun r3 M3 H locs hp3 hI => ?_)
  obtain ⟨rfl, hM3⟩ := hp3
  rw [hM3] at hI
  refine lv_if_eq (tgt := 13) hx hb kd_Mo_split_6 (by decide) (fun h6 => ?_) (fun h6 => ?_)
  · skip
    refine zr_iload_n hx hb kd_Mo_split_13 hl rfl ?_
    refine lv_iconst (v := 1) hx hb kd_Mo_split_14 (by decide) ?_
    refine lv_icmp_lt (tgt := 28) hx hb kd_Mo_split_15 (by decide) (fun h15 => ?_) (fun h15 => ?_)
    · skip
      refine lv_iconst (v := 2) hx hb kd_Mo_split_28 (by decide) ?_
      refine lv_goto (tgt := 33) hx hb kd_Mo_split_29 (by decide) ?_
      refine rest _ _ _ _ ?_ (by decide) hl hI
      unfold zv_spl
      first
      | (rw [if_neg (not_not_intro h6), if_neg h15, if_neg (Int32.not_le.mpr h25)]; done)
      | (rw [if_neg (not_not_intro h6), if_neg h15, if_pos (Int32.not_lt.mp h25)]; done)
      | (rw [if_neg (not_not_intro h6), if_pos h15]; done)
      | (rw [if_pos h6]; done)
    · skip
      refine zr_iload_n hx hb kd_Mo_split_18 hl rfl ?_
      refine zr_aload_n hx hb kd_Mo_split_19 hl rfl ?_
      refine zr_getr hS hK kf_Mo_32 hI ha_MO hs_MO (show _ = some 159 from zL_mo hL (k := 8) (by decide) (by decide)) kd_Mo_split_20 ?_
      refine zr_iload_n hx hb kd_Mo_split_23 hl rfl ?_
      refine zr_iald hS hK hI ha_MO_8 hs_MO_8 (hvp h6) kd_Mo_split_24 ?_
      refine lv_icmp_lt (tgt := 32) hx hb kd_Mo_split_25 (by decide) (fun h25 => ?_) (fun h25 => ?_)
      · skip
        refine lv_iconst (v := 0) hx hb kd_Mo_split_32 (by decide) ?_
        refine rest _ _ _ _ ?_ (by decide) hl hI
        unfold zv_spl
        first
        | (rw [if_neg (not_not_intro h6), if_neg h15, if_neg (Int32.not_le.mpr h25)]; done)
        | (rw [if_neg (not_not_intro h6), if_neg h15, if_pos (Int32.not_lt.mp h25)]; done)
        | (rw [if_neg (not_not_intro h6), if_pos h15]; done)
        | (rw [if_pos h6]; done)
      · skip
        refine lv_iconst (v := 2) hx hb kd_Mo_split_28 (by decide) ?_
        refine lv_goto (tgt := 33) hx hb kd_Mo_split_29 (by decide) ?_
        refine rest _ _ _ _ ?_ (by decide) hl hI
        unfold zv_spl
        first
        | (rw [if_neg (not_not_intro h6), if_neg h15, if_neg (Int32.not_le.mpr h25)]; done)
        | (rw [if_neg (not_not_intro h6), if_neg h15, if_pos (Int32.not_lt.mp h25)]; done)
        | (rw [if_neg (not_not_intro h6), if_pos h15]; done)
        | (rw [if_pos h6]; done)
  · skip
    refine lv_iconst (v := 1) hx hb kd_Mo_split_9 (by decide) ?_
    refine lv_goto (tgt := 33) hx hb kd_Mo_split_10 (by decide) ?_
    refine rest _ _ _ _ ?_ (by decide) hl hI
    unfold zv_spl
    first
    | (rw [if_neg (not_not_intro h6), if_neg h15, if_neg (Int32.not_le.mpr h25)]; done)
    | (rw [if_neg (not_not_intro h6), if_neg h15, if_pos (Int32.not_lt.mp h25)]; done)
    | (rw [if_neg (not_not_intro h6), if_pos h15]; done)
    | (rw [if_pos h6]; done)

/-! The reference's public methods: clips. -/
def zv_bad (tr a t f n : Int32) : Prop := zf_in tr 0 3 = 0 ∨ zf_in a 0 1023 = 0 ∨ zf_in t 0 7 = 0 ∨ f < 0 ∨ zf_in n 1 (1024 - a) = 0
def zv_clp (M : zm_T) (tr a t f n : Int32) (v : Int32) : Prop := (zv_bad tr a t f n ∧ v = 1) ∨ (¬ zv_bad tr a t f n ∧ (M.1 153 t.toNatClampNeg = 0 ∨ M.1 153 t.toNatClampNeg < n ∨ M.1 153 t.toNatClampNeg - n < f) ∧ v = 2) ∨ (¬ zv_bad tr a t f n ∧ ¬ (M.1 153 t.toNatClampNeg = 0 ∨ M.1 153 t.toNatClampNeg < n ∨ M.1 153 t.toNatClampNeg - n < f) ∧ v = 0)
def zg_new (M : zm_T) (d : Nat) (tr a t f n : Int32) : zm_T := zm_ui (zm_ui (zm_ui (zm_ui (zm_ui (zm_ui (zm_ui (zm_ui (zm_ui M 154 d 1) 155 d tr) 156 d a) 157 d t) 158 d f) 159 d n) 160 d 256) 161 d 0) 162 d 0
theorem zg_fr_0 {M : zm_T} {v : Int32} {n : Nat} : zg_fr (zm_ui M 151 0 v) n ↔ zg_fr M n := by
  unfold zg_fr
  have e : ∀ j, (zm_ui M 151 0 v).1 154 j = M.1 154 j := fun j => zm_ui_ne (Or.inl (by decide))
  simp only [e]
theorem zg_tk_0 {M : zm_T} {v t a n c : Int32} {d : Nat} : zg_tk (zm_ui M 151 0 v) t a n c d ↔ zg_tk M t a n c d := by
  unfold zg_tk
  rw [zm_ui_ne (Or.inl (by decide)), zm_ui_ne (Or.inl (by decide)), zm_ui_ne (Or.inl (by decide)), zm_ui_ne (Or.inl (by decide))]
set_option maxRecDepth 100000 in
set_option maxHeartbeats 4000000 in
theorem c_Mo_clip (l : Launch) (G : zg_T) (M : zm_T) (hL : zL M.2) (tr a t f n : Int32) : Met l ky_Mo_clip (zr_ws ky_Mo_clip kc_Mo_clip 8 (some .int)) (zr_rm 1) (va_Pc [.ref (G.2.2.1 + 151), .int tr, .int a, .int t, .int f, .int n] (zm_B G 183 zs M)) (va_Qi (fun (r : Int32) (M' : zm_T) => ∃ v, zv_clp M tr a t f n v ∧ ((¬ v = 0 ∧ M' = zm_ui M 151 0 v) ∨ (v = 0 ∧ ∃ d, zg_fr M d ∧ (((d = 16 ∨ ∃ e, e < 16 ∧ zg_tk M tr a n (-1) e) ∧ r = -1 ∧ M' = zm_ui M 151 0 0) ∨ (d < 16 ∧ ¬ (∃ e, e < 16 ∧ zg_tk M tr a n (-1) e) ∧ r = nI d ∧ M' = zg_new (zm_ui M 151 0 0) d tr a t f n))))) (zm_B G 183 zs) (zm_A G)) 0 0 (zm_A G) := by
  refine zr_met (by decide +kernel) (Nat.le_of_ble_eq_true rfl) ?_
  intro p0 e0 s0 m0 below meth c0 ls hS hK hlk hr hl hI
  have hx := hS.1
  have hb := hS.2.1
  have hl : zl_has ls 8 [some (.ref (G.2.2.1 + 151)), some (.int tr), some (.int a), some (.int t), some (.int f), some (.int n), none, none] := hl
  have rest : ∀ (v : Int32) (w6 : Int32) (H : Heap) (locs : List Loc) (ls : Array Slot), zv_clp M tr a t f n v → zl_has ls 8 [some (.ref (G.2.2.1 + 151)), some (.int tr), some (.int a), some (.int t), some (.int f), some (.int n), some (.int w6), none] → zm_I G 183 zs M s0 H locs → W p0 l e0 (zr_rm 1) s0 m0 ([.ref (G.2.2.1 + 151), .int tr, .int a, .int t, .int f, .int n] : List Value).toArray below meth c0 H locs 0 0 (MQ below (va_Qi (fun (r : Int32) (M' : zm_T) => ∃ v, zv_clp M tr a t f n v ∧ ((¬ v = 0 ∧ M' = zm_ui M 151 0 v) ∨ (v = 0 ∧ ∃ d, zg_fr M d ∧ (((d = 16 ∨ ∃ e, e < 16 ∧ zg_tk M tr a n (-1) e) ∧ r = -1 ∧ M' = zm_ui M 151 0 0) ∨ (d < 16 ∧ ¬ (∃ e, e < 16 ∧ zg_tk M tr a n (-1) e) ∧ r = nI d ∧ M' = zg_new (zm_ui M 151 0 0) d tr a t f n))))) (zm_B G 183 zs) (zm_A G)) ([.ref (G.2.2.1 + 151), .int tr, .int a, .int t, .int f, .int n] : List Value).toArray s0 0 0 (zm_A G)) (F0 m0 107 ls [.int v, .ref (G.2.2.1 + 151)]) := by
    intro v w6 H locs ls hv hl hI
    have v3 : v = 0 ∨ v = 1 ∨ v = 2 := by
      rcases hv with h | h | h
      · exact Or.inr (Or.inl h.2)
      · exact Or.inr (Or.inr h.2.2)
      · exact Or.inl h.2.2
    by_cases h0 : v = 0
    · subst h0
      refine zr_puti hS hK kf_Mo_101 hI ha_MO hs_MO rfl rfl kd_Mo_clip_107 (fun H locs hI => ?_)
      refine zr_aload_n hx hb kd_Mo_clip_110 hl rfl ?_
      refine zr_geti hS hK kf_Mo_101 hI ha_MO hs_MO kd_Mo_clip_111 ?_
      refine lv_if_le (tgt := 119) hx hb kd_Mo_clip_114 (by decide) (fun h114 => ?_) (fun h114 => absurd ((by rw [zm_ui_at]; decide)) h114)
      refine zr_aload_n hx hb kd_Mo_clip_119 hl rfl ?_
      refine zr_ci (zr_runV hS hK (c_Mo_freeClip l G (zm_ui M 151 0 0) hL) km_Mo_118 hI ha_MO hs_MO rfl hl.1 (Nat.le_of_ble_eq_true rfl) (by decide) (by decide) kd_Mo_clip_120 rfl) hI (fun r120 M120 H locs hp120 hI => ?_)
      obtain ⟨⟨d, hfr, hr120⟩, hM120⟩ := hp120
      rw [hM120] at hI
      rw [zg_fr_0] at hfr
      refine zr_istore hx hb kd_Mo_clip_123 hl (by decide) rfl (fun ls hl => ?_)
      refine zr_iload hx hb kd_Mo_clip_125 hl rfl ?_
      refine lv_if_lt (tgt := 142) hx hb kd_Mo_clip_127 (by decide) (fun h127 => ?_) (fun h127 => ?_)
      · skip
        refine lv_iconst (v := -1) hx hb kd_Mo_clip_142 (by decide) ?_
        exact zr_iret hS hK hlk hr hI kd_Mo_clip_143 (⟨0, hv, Or.inr ⟨rfl, d, hfr, Or.inl ⟨by
            first
            | exact Or.inr (zt_is_t hr136 h139)
            | exact Or.inl (by
                have h16 := hfr.1
                by_cases g : d < 16
                · rw [hr120, if_pos g] at h127; exact absurd h127 (nI_pos (by omega))
                · omega), rfl, rfl⟩⟩⟩)
      · skip
        have hd16 : d < 16 := Nat.lt_of_not_le (fun g => h127 (by rw [hr120, if_neg (by omega)]; decide))
        rw [if_pos hd16] at hr120
        subst hr120
        have cd : (nI d).toNatClampNeg = d := zn_cl (by omega)
        refine zr_aload_n hx hb kd_Mo_clip_130 hl rfl ?_
        refine zr_iload_n hx hb kd_Mo_clip_131 hl rfl ?_
        refine zr_iload_n hx hb kd_Mo_clip_132 hl rfl ?_
        refine zr_iload hx hb kd_Mo_clip_133 hl rfl ?_
        refine lv_iconst (v := -1) hx hb kd_Mo_clip_135 (by decide) ?_
        refine zr_ci (zr_runV hS hK (c_Mo_isTaken l G (zm_ui M 151 0 0) hL _ _ _ _) km_Mo_122 hI ha_MO hs_MO rfl hl.1 (Nat.le_of_ble_eq_true rfl) (by decide) (by decide) kd_Mo_clip_136 rfl) hI (fun r136 M136 H locs hp136 hI => ?_)
        obtain ⟨hr136, hM136⟩ := hp136
        rw [hM136] at hI
        simp only [zg_tk_0] at hr136
        refine lv_if_eq (tgt := 144) hx hb kd_Mo_clip_139 (by decide) (fun h139 => ?_) (fun h139 => ?_)
        · skip
          refine zr_aload_n hx hb kd_Mo_clip_144 hl rfl ?_
          refine zr_getr hS hK kf_Mo_16 hI ha_MO hs_MO (show _ = some 154 from zL_mo hL (k := 3) (by decide) (by decide)) kd_Mo_clip_145 ?_
          refine zr_iload hx hb kd_Mo_clip_148 hl rfl ?_
          refine lv_iconst (v := 1) hx hb kd_Mo_clip_150 (by decide) ?_
          refine zr_zast hS hK hI ha_MO_3 hs_MO_3 (vp_in_nI (by omega) (by decide)) kd_Mo_clip_151 (fun H locs hI => ?_)
          refine zr_aload_n hx hb kd_Mo_clip_152 hl rfl ?_
          refine zr_getr hS hK kf_Mo_20 hI ha_MO hs_MO (show _ = some 155 from zL_mo hL (k := 4) (by decide) (by decide)) kd_Mo_clip_153 ?_
          refine zr_iload hx hb kd_Mo_clip_156 hl rfl ?_
          refine zr_iload_n hx hb kd_Mo_clip_158 hl rfl ?_
          refine zr_iast hS hK hI ha_MO_4 hs_MO_4 (vp_in_nI (by omega) (by decide)) kd_Mo_clip_159 (fun H locs hI => ?_)
          refine zr_aload_n hx hb kd_Mo_clip_160 hl rfl ?_
          refine zr_getr hS hK kf_Mo_23 hI ha_MO hs_MO (show _ = some 156 from zL_mo hL (k := 5) (by decide) (by decide)) kd_Mo_clip_161 ?_
          refine zr_iload hx hb kd_Mo_clip_164 hl rfl ?_
          refine zr_iload_n hx hb kd_Mo_clip_166 hl rfl ?_
          refine zr_iast hS hK hI ha_MO_5 hs_MO_5 (vp_in_nI (by omega) (by decide)) kd_Mo_clip_167 (fun H locs hI => ?_)
          refine zr_aload_n hx hb kd_Mo_clip_168 hl rfl ?_
          refine zr_getr hS hK kf_Mo_26 hI ha_MO hs_MO (show _ = some 157 from zL_mo hL (k := 6) (by decide) (by decide)) kd_Mo_clip_169 ?_
          refine zr_iload hx hb kd_Mo_clip_172 hl rfl ?_
          refine zr_iload_n hx hb kd_Mo_clip_174 hl rfl ?_
          refine zr_iast hS hK hI ha_MO_6 hs_MO_6 (vp_in_nI (by omega) (by decide)) kd_Mo_clip_175 (fun H locs hI => ?_)
          refine zr_aload_n hx hb kd_Mo_clip_176 hl rfl ?_
          refine zr_getr hS hK kf_Mo_29 hI ha_MO hs_MO (show _ = some 158 from zL_mo hL (k := 7) (by decide) (by decide)) kd_Mo_clip_177 ?_
          refine zr_iload hx hb kd_Mo_clip_180 hl rfl ?_
          refine zr_iload hx hb kd_Mo_clip_182 hl rfl ?_
          refine zr_iast hS hK hI ha_MO_7 hs_MO_7 (vp_in_nI (by omega) (by decide)) kd_Mo_clip_184 (fun H locs hI => ?_)
          refine zr_aload_n hx hb kd_Mo_clip_185 hl rfl ?_
          refine zr_getr hS hK kf_Mo_32 hI ha_MO hs_MO (show _ = some 159 from zL_mo hL (k := 8) (by decide) (by decide)) kd_Mo_clip_186 ?_
          refine zr_iload hx hb kd_Mo_clip_189 hl rfl ?_
          refine zr_iload hx hb kd_Mo_clip_191 hl rfl ?_
          refine zr_iast hS hK hI ha_MO_8 hs_MO_8 (vp_in_nI (by omega) (by decide)) kd_Mo_clip_193 (fun H locs hI => ?_)
          refine zr_aload_n hx hb kd_Mo_clip_194 hl rfl ?_
          refine zr_getr hS hK kf_Mo_35 hI ha_MO hs_MO (show _ = some 160 from zL_mo hL (k := 9) (by decide) (by decide)) kd_Mo_clip_195 ?_
          refine zr_iload hx hb kd_Mo_clip_198 hl rfl ?_
          refine lv_sipush (v := 256) hx hb kd_Mo_clip_200 (by decide) ?_
          refine zr_iast hS hK hI ha_MO_9 hs_MO_9 (vp_in_nI (by omega) (by decide)) kd_Mo_clip_203 (fun H locs hI => ?_)
          refine zr_aload_n hx hb kd_Mo_clip_204 hl rfl ?_
          refine zr_getr hS hK kf_Mo_38 hI ha_MO hs_MO (show _ = some 161 from zL_mo hL (k := 10) (by decide) (by decide)) kd_Mo_clip_205 ?_
          refine zr_iload hx hb kd_Mo_clip_208 hl rfl ?_
          refine lv_iconst (v := 0) hx hb kd_Mo_clip_210 (by decide) ?_
          refine zr_iast hS hK hI ha_MO_10 hs_MO_10 (vp_in_nI (by omega) (by decide)) kd_Mo_clip_211 (fun H locs hI => ?_)
          refine zr_aload_n hx hb kd_Mo_clip_212 hl rfl ?_
          refine zr_getr hS hK kf_Mo_41 hI ha_MO hs_MO (show _ = some 162 from zL_mo hL (k := 11) (by decide) (by decide)) kd_Mo_clip_213 ?_
          refine zr_iload hx hb kd_Mo_clip_216 hl rfl ?_
          refine lv_iconst (v := 0) hx hb kd_Mo_clip_218 (by decide) ?_
          refine zr_iast hS hK hI ha_MO_11 hs_MO_11 (vp_in_nI (by omega) (by decide)) kd_Mo_clip_219 (fun H locs hI => ?_)
          refine zr_iload hx hb kd_Mo_clip_220 hl rfl ?_
          exact zr_iret hS hK hlk hr hI kd_Mo_clip_222 (⟨0, hv, Or.inr ⟨rfl, d, hfr, Or.inr ⟨hd16, zt_is_f hr136 h139, rfl, by rw [cd]; rfl⟩⟩⟩)
        · skip
          refine lv_iconst (v := -1) hx hb kd_Mo_clip_142 (by decide) ?_
          exact zr_iret hS hK hlk hr hI kd_Mo_clip_143 (⟨0, hv, Or.inr ⟨rfl, d, hfr, Or.inl ⟨by
              first
              | exact Or.inr (zt_is_t hr136 h139)
              | exact Or.inl (by
                  have h16 := hfr.1
                  by_cases g : d < 16
                  · rw [hr120, if_pos g] at h127; exact absurd h127 (nI_pos (by omega))
                  · omega), rfl, rfl⟩⟩⟩)
    · refine zr_puti hS hK kf_Mo_101 hI ha_MO hs_MO rfl rfl kd_Mo_clip_107 (fun H locs hI => ?_)
      refine zr_aload_n hx hb kd_Mo_clip_110 hl rfl ?_
      refine zr_geti hS hK kf_Mo_101 hI ha_MO hs_MO kd_Mo_clip_111 ?_
      refine lv_if_le (tgt := 119) hx hb kd_Mo_clip_114 (by decide) (fun h114 => absurd h114 ((by rw [zm_ui_at]; rcases v3 with g | g | g <;> first | exact absurd g h0 | (rw [g]; decide)))) (fun h114 => ?_)
      refine lv_iconst (v := 0) hx hb kd_Mo_clip_117 (by decide) ?_
      exact zr_iret hS hK hlk hr hI kd_Mo_clip_118 (⟨v, hv, Or.inl ⟨h0, rfl⟩⟩)
  have mid : ∀ (w : Int32) (H : Heap) (locs : List Loc) (ls : Array Slot), zt_is w (zv_bad tr a t f n) → zl_has ls 8 [some (.ref (G.2.2.1 + 151)), some (.int tr), some (.int a), some (.int t), some (.int f), some (.int n), some (.int w), none] → zm_I G 183 zs M s0 H locs → W p0 l e0 (zr_rm 1) s0 m0 ([.ref (G.2.2.1 + 151), .int tr, .int a, .int t, .int f, .int n] : List Value).toArray below meth c0 H locs 0 0 (MQ below (va_Qi (fun (r : Int32) (M' : zm_T) => ∃ v, zv_clp M tr a t f n v ∧ ((¬ v = 0 ∧ M' = zm_ui M 151 0 v) ∨ (v = 0 ∧ ∃ d, zg_fr M d ∧ (((d = 16 ∨ ∃ e, e < 16 ∧ zg_tk M tr a n (-1) e) ∧ r = -1 ∧ M' = zm_ui M 151 0 0) ∨ (d < 16 ∧ ¬ (∃ e, e < 16 ∧ zg_tk M tr a n (-1) e) ∧ r = nI d ∧ M' = zg_new (zm_ui M 151 0 0) d tr a t f n))))) (zm_B G 183 zs) (zm_A G)) ([.ref (G.2.2.1 + 151), .int tr, .int a, .int t, .int f, .int n] : List Value).toArray s0 0 0 (zm_A G)) (F0 m0 58 ls []) := by
    intro w H locs ls hw hl hI
    have ht : w = 0 → vp_in t 8 := fun h => zv_vp' (n := 7) (hi := 7) (by decide) (by decide) (fun g => zt_is_f hw h (Or.inr (Or.inr (Or.inl g))))
    refine zr_aload_n hx hb kd_Mo_clip_58 hl rfl ?_
    refine zr_iload hx hb kd_Mo_clip_59 hl rfl ?_
    refine lv_if_eq (tgt := 68) hx hb kd_Mo_clip_61 (by decide) (fun h61 => ?_) (fun h61 => ?_)
    · skip
      refine zr_aload_n hx hb kd_Mo_clip_68 hl rfl ?_
      refine zr_getr hS hK kf_Mo_13 hI ha_MO hs_MO (show _ = some 153 from zL_mo hL (k := 2) (by decide) (by decide)) kd_Mo_clip_69 ?_
      refine zr_iload_n hx hb kd_Mo_clip_72 hl rfl ?_
      refine zr_iald hS hK hI ha_MO_2 hs_MO_2 (ht h61) kd_Mo_clip_73 ?_
      refine lv_if_eq (tgt := 102) hx hb kd_Mo_clip_74 (by decide) (fun h74 => ?_) (fun h74 => ?_)
      · skip
        refine lv_iconst (v := 2) hx hb kd_Mo_clip_102 (by decide) ?_
        refine lv_goto (tgt := 107) hx hb kd_Mo_clip_103 (by decide) ?_
        refine rest _ _ H locs ls ?_ hl hI
        unfold zv_clp
        first
        | exact Or.inr (Or.inr ⟨zt_is_f hw h61, fun g => g.elim h74 (fun g => g.elim h85 (Int32.not_lt.mpr h99)), rfl⟩)
        | exact Or.inr (Or.inl ⟨zt_is_f hw h61, Or.inr (Or.inr (Int32.not_le.mp h99)), rfl⟩)
        | exact Or.inr (Or.inl ⟨zt_is_f hw h61, Or.inr (Or.inl h85), rfl⟩)
        | exact Or.inr (Or.inl ⟨zt_is_f hw h61, Or.inl h74, rfl⟩)
        | exact Or.inl ⟨zt_is_t hw h61, rfl⟩
      · skip
        refine zr_iload hx hb kd_Mo_clip_77 hl rfl ?_
        refine zr_aload_n hx hb kd_Mo_clip_79 hl rfl ?_
        refine zr_getr hS hK kf_Mo_13 hI ha_MO hs_MO (show _ = some 153 from zL_mo hL (k := 2) (by decide) (by decide)) kd_Mo_clip_80 ?_
        refine zr_iload_n hx hb kd_Mo_clip_83 hl rfl ?_
        refine zr_iald hS hK hI ha_MO_2 hs_MO_2 (ht h61) kd_Mo_clip_84 ?_
        refine lv_icmp_gt (tgt := 102) hx hb kd_Mo_clip_85 (by decide) (fun h85 => ?_) (fun h85 => ?_)
        · skip
          refine lv_iconst (v := 2) hx hb kd_Mo_clip_102 (by decide) ?_
          refine lv_goto (tgt := 107) hx hb kd_Mo_clip_103 (by decide) ?_
          refine rest _ _ H locs ls ?_ hl hI
          unfold zv_clp
          first
          | exact Or.inr (Or.inr ⟨zt_is_f hw h61, fun g => g.elim h74 (fun g => g.elim h85 (Int32.not_lt.mpr h99)), rfl⟩)
          | exact Or.inr (Or.inl ⟨zt_is_f hw h61, Or.inr (Or.inr (Int32.not_le.mp h99)), rfl⟩)
          | exact Or.inr (Or.inl ⟨zt_is_f hw h61, Or.inr (Or.inl h85), rfl⟩)
          | exact Or.inr (Or.inl ⟨zt_is_f hw h61, Or.inl h74, rfl⟩)
          | exact Or.inl ⟨zt_is_t hw h61, rfl⟩
        · skip
          refine zr_iload hx hb kd_Mo_clip_88 hl rfl ?_
          refine zr_aload_n hx hb kd_Mo_clip_90 hl rfl ?_
          refine zr_getr hS hK kf_Mo_13 hI ha_MO hs_MO (show _ = some 153 from zL_mo hL (k := 2) (by decide) (by decide)) kd_Mo_clip_91 ?_
          refine zr_iload_n hx hb kd_Mo_clip_94 hl rfl ?_
          refine zr_iald hS hK hI ha_MO_2 hs_MO_2 (ht h61) kd_Mo_clip_95 ?_
          refine zr_iload hx hb kd_Mo_clip_96 hl rfl ?_
          refine lv_isub hx hb kd_Mo_clip_98 ?_
          refine lv_icmp_le (tgt := 106) hx hb kd_Mo_clip_99 (by decide) (fun h99 => ?_) (fun h99 => ?_)
          · skip
            refine lv_iconst (v := 0) hx hb kd_Mo_clip_106 (by decide) ?_
            refine rest _ _ H locs ls ?_ hl hI
            unfold zv_clp
            first
            | exact Or.inr (Or.inr ⟨zt_is_f hw h61, fun g => g.elim h74 (fun g => g.elim h85 (Int32.not_lt.mpr h99)), rfl⟩)
            | exact Or.inr (Or.inl ⟨zt_is_f hw h61, Or.inr (Or.inr (Int32.not_le.mp h99)), rfl⟩)
            | exact Or.inr (Or.inl ⟨zt_is_f hw h61, Or.inr (Or.inl h85), rfl⟩)
            | exact Or.inr (Or.inl ⟨zt_is_f hw h61, Or.inl h74, rfl⟩)
            | exact Or.inl ⟨zt_is_t hw h61, rfl⟩
          · skip
            refine lv_iconst (v := 2) hx hb kd_Mo_clip_102 (by decide) ?_
            refine lv_goto (tgt := 107) hx hb kd_Mo_clip_103 (by decide) ?_
            refine rest _ _ H locs ls ?_ hl hI
            unfold zv_clp
            first
            | exact Or.inr (Or.inr ⟨zt_is_f hw h61, fun g => g.elim h74 (fun g => g.elim h85 (Int32.not_lt.mpr h99)), rfl⟩)
            | exact Or.inr (Or.inl ⟨zt_is_f hw h61, Or.inr (Or.inr (Int32.not_le.mp h99)), rfl⟩)
            | exact Or.inr (Or.inl ⟨zt_is_f hw h61, Or.inr (Or.inl h85), rfl⟩)
            | exact Or.inr (Or.inl ⟨zt_is_f hw h61, Or.inl h74, rfl⟩)
            | exact Or.inl ⟨zt_is_t hw h61, rfl⟩
    · skip
      refine lv_iconst (v := 1) hx hb kd_Mo_clip_64 (by decide) ?_
      refine lv_goto (tgt := 107) hx hb kd_Mo_clip_65 (by decide) ?_
      refine rest _ _ H locs ls ?_ hl hI
      unfold zv_clp
      first
      | exact Or.inr (Or.inr ⟨zt_is_f hw h61, fun g => g.elim h74 (fun g => g.elim h85 (Int32.not_lt.mpr h99)), rfl⟩)
      | exact Or.inr (Or.inl ⟨zt_is_f hw h61, Or.inr (Or.inr (Int32.not_le.mp h99)), rfl⟩)
      | exact Or.inr (Or.inl ⟨zt_is_f hw h61, Or.inr (Or.inl h85), rfl⟩)
      | exact Or.inr (Or.inl ⟨zt_is_f hw h61, Or.inl h74, rfl⟩)
      | exact Or.inl ⟨zt_is_t hw h61, rfl⟩
  refine zr_iload_n hx hb kd_Mo_clip_0 hl rfl ?_
  refine lv_if_lt (tgt := 51) hx hb kd_Mo_clip_1 (by decide) (fun h1 => ?_) (fun h1 => ?_)
  · skip
    refine lv_iconst (v := 1) hx hb kd_Mo_clip_51 (by decide) ?_
    refine lv_goto (tgt := 56) hx hb kd_Mo_clip_52 (by decide) ?_
    refine zr_istore hx hb kd_Mo_clip_56 hl (by decide) rfl (fun ls hl => ?_)
    refine mid _ _ _ _ ?_ hl hI
    first
    | (refine Or.inr ⟨rfl, fun g => ?_⟩
       rcases g with g | g | g | g | g
       · exact (zv_in0.mp g).elim h1 h6
       · exact (zv_in0.mp g).elim h10 h17
       · exact (zv_in0.mp g).elim h21 h27
       · exact h32 g
       · exact (zv_in0.mp g).elim h38 (Int32.not_lt.mpr h48))
    | exact Or.inl ⟨rfl, Or.inr (Or.inr (Or.inr (Or.inr (zv_in0.mpr (Or.inr (Int32.not_le.mp h48))))))⟩
    | exact Or.inl ⟨rfl, Or.inr (Or.inr (Or.inr (Or.inr (zv_in0.mpr (Or.inl h38)))))⟩
    | exact Or.inl ⟨rfl, Or.inr (Or.inr (Or.inr (Or.inl h32)))⟩
    | exact Or.inl ⟨rfl, Or.inr (Or.inr (Or.inl (zv_in0.mpr (Or.inr h27))))⟩
    | exact Or.inl ⟨rfl, Or.inr (Or.inr (Or.inl (zv_in0.mpr (Or.inl h21))))⟩
    | exact Or.inl ⟨rfl, Or.inr (Or.inl (zv_in0.mpr (Or.inr h17)))⟩
    | exact Or.inl ⟨rfl, Or.inr (Or.inl (zv_in0.mpr (Or.inl h10)))⟩
    | exact Or.inl ⟨rfl, Or.inl (zv_in0.mpr (Or.inr h6))⟩
    | exact Or.inl ⟨rfl, Or.inl (zv_in0.mpr (Or.inl h1))⟩
  · skip
    refine zr_iload_n hx hb kd_Mo_clip_4 hl rfl ?_
    refine lv_iconst (v := 3) hx hb kd_Mo_clip_5 (by decide) ?_
    refine lv_icmp_gt (tgt := 51) hx hb kd_Mo_clip_6 (by decide) (fun h6 => ?_) (fun h6 => ?_)
    · skip
      refine lv_iconst (v := 1) hx hb kd_Mo_clip_51 (by decide) ?_
      refine lv_goto (tgt := 56) hx hb kd_Mo_clip_52 (by decide) ?_
      refine zr_istore hx hb kd_Mo_clip_56 hl (by decide) rfl (fun ls hl => ?_)
      refine mid _ _ _ _ ?_ hl hI
      first
      | (refine Or.inr ⟨rfl, fun g => ?_⟩
         rcases g with g | g | g | g | g
         · exact (zv_in0.mp g).elim h1 h6
         · exact (zv_in0.mp g).elim h10 h17
         · exact (zv_in0.mp g).elim h21 h27
         · exact h32 g
         · exact (zv_in0.mp g).elim h38 (Int32.not_lt.mpr h48))
      | exact Or.inl ⟨rfl, Or.inr (Or.inr (Or.inr (Or.inr (zv_in0.mpr (Or.inr (Int32.not_le.mp h48))))))⟩
      | exact Or.inl ⟨rfl, Or.inr (Or.inr (Or.inr (Or.inr (zv_in0.mpr (Or.inl h38)))))⟩
      | exact Or.inl ⟨rfl, Or.inr (Or.inr (Or.inr (Or.inl h32)))⟩
      | exact Or.inl ⟨rfl, Or.inr (Or.inr (Or.inl (zv_in0.mpr (Or.inr h27))))⟩
      | exact Or.inl ⟨rfl, Or.inr (Or.inr (Or.inl (zv_in0.mpr (Or.inl h21))))⟩
      | exact Or.inl ⟨rfl, Or.inr (Or.inl (zv_in0.mpr (Or.inr h17)))⟩
      | exact Or.inl ⟨rfl, Or.inr (Or.inl (zv_in0.mpr (Or.inl h10)))⟩
      | exact Or.inl ⟨rfl, Or.inl (zv_in0.mpr (Or.inr h6))⟩
      | exact Or.inl ⟨rfl, Or.inl (zv_in0.mpr (Or.inl h1))⟩
    · skip
      refine zr_iload_n hx hb kd_Mo_clip_9 hl rfl ?_
      refine lv_if_lt (tgt := 51) hx hb kd_Mo_clip_10 (by decide) (fun h10 => ?_) (fun h10 => ?_)
      · skip
        refine lv_iconst (v := 1) hx hb kd_Mo_clip_51 (by decide) ?_
        refine lv_goto (tgt := 56) hx hb kd_Mo_clip_52 (by decide) ?_
        refine zr_istore hx hb kd_Mo_clip_56 hl (by decide) rfl (fun ls hl => ?_)
        refine mid _ _ _ _ ?_ hl hI
        first
        | (refine Or.inr ⟨rfl, fun g => ?_⟩
           rcases g with g | g | g | g | g
           · exact (zv_in0.mp g).elim h1 h6
           · exact (zv_in0.mp g).elim h10 h17
           · exact (zv_in0.mp g).elim h21 h27
           · exact h32 g
           · exact (zv_in0.mp g).elim h38 (Int32.not_lt.mpr h48))
        | exact Or.inl ⟨rfl, Or.inr (Or.inr (Or.inr (Or.inr (zv_in0.mpr (Or.inr (Int32.not_le.mp h48))))))⟩
        | exact Or.inl ⟨rfl, Or.inr (Or.inr (Or.inr (Or.inr (zv_in0.mpr (Or.inl h38)))))⟩
        | exact Or.inl ⟨rfl, Or.inr (Or.inr (Or.inr (Or.inl h32)))⟩
        | exact Or.inl ⟨rfl, Or.inr (Or.inr (Or.inl (zv_in0.mpr (Or.inr h27))))⟩
        | exact Or.inl ⟨rfl, Or.inr (Or.inr (Or.inl (zv_in0.mpr (Or.inl h21))))⟩
        | exact Or.inl ⟨rfl, Or.inr (Or.inl (zv_in0.mpr (Or.inr h17)))⟩
        | exact Or.inl ⟨rfl, Or.inr (Or.inl (zv_in0.mpr (Or.inl h10)))⟩
        | exact Or.inl ⟨rfl, Or.inl (zv_in0.mpr (Or.inr h6))⟩
        | exact Or.inl ⟨rfl, Or.inl (zv_in0.mpr (Or.inl h1))⟩
      · skip
        refine zr_iload_n hx hb kd_Mo_clip_13 hl rfl ?_
        refine lv_sipush (v := 1023) hx hb kd_Mo_clip_14 (by decide) ?_
        refine lv_icmp_gt (tgt := 51) hx hb kd_Mo_clip_17 (by decide) (fun h17 => ?_) (fun h17 => ?_)
        · skip
          refine lv_iconst (v := 1) hx hb kd_Mo_clip_51 (by decide) ?_
          refine lv_goto (tgt := 56) hx hb kd_Mo_clip_52 (by decide) ?_
          refine zr_istore hx hb kd_Mo_clip_56 hl (by decide) rfl (fun ls hl => ?_)
          refine mid _ _ _ _ ?_ hl hI
          first
          | (refine Or.inr ⟨rfl, fun g => ?_⟩
             rcases g with g | g | g | g | g
             · exact (zv_in0.mp g).elim h1 h6
             · exact (zv_in0.mp g).elim h10 h17
             · exact (zv_in0.mp g).elim h21 h27
             · exact h32 g
             · exact (zv_in0.mp g).elim h38 (Int32.not_lt.mpr h48))
          | exact Or.inl ⟨rfl, Or.inr (Or.inr (Or.inr (Or.inr (zv_in0.mpr (Or.inr (Int32.not_le.mp h48))))))⟩
          | exact Or.inl ⟨rfl, Or.inr (Or.inr (Or.inr (Or.inr (zv_in0.mpr (Or.inl h38)))))⟩
          | exact Or.inl ⟨rfl, Or.inr (Or.inr (Or.inr (Or.inl h32)))⟩
          | exact Or.inl ⟨rfl, Or.inr (Or.inr (Or.inl (zv_in0.mpr (Or.inr h27))))⟩
          | exact Or.inl ⟨rfl, Or.inr (Or.inr (Or.inl (zv_in0.mpr (Or.inl h21))))⟩
          | exact Or.inl ⟨rfl, Or.inr (Or.inl (zv_in0.mpr (Or.inr h17)))⟩
          | exact Or.inl ⟨rfl, Or.inr (Or.inl (zv_in0.mpr (Or.inl h10)))⟩
          | exact Or.inl ⟨rfl, Or.inl (zv_in0.mpr (Or.inr h6))⟩
          | exact Or.inl ⟨rfl, Or.inl (zv_in0.mpr (Or.inl h1))⟩
        · skip
          refine zr_iload_n hx hb kd_Mo_clip_20 hl rfl ?_
          refine lv_if_lt (tgt := 51) hx hb kd_Mo_clip_21 (by decide) (fun h21 => ?_) (fun h21 => ?_)
          · skip
            refine lv_iconst (v := 1) hx hb kd_Mo_clip_51 (by decide) ?_
            refine lv_goto (tgt := 56) hx hb kd_Mo_clip_52 (by decide) ?_
            refine zr_istore hx hb kd_Mo_clip_56 hl (by decide) rfl (fun ls hl => ?_)
            refine mid _ _ _ _ ?_ hl hI
            first
            | (refine Or.inr ⟨rfl, fun g => ?_⟩
               rcases g with g | g | g | g | g
               · exact (zv_in0.mp g).elim h1 h6
               · exact (zv_in0.mp g).elim h10 h17
               · exact (zv_in0.mp g).elim h21 h27
               · exact h32 g
               · exact (zv_in0.mp g).elim h38 (Int32.not_lt.mpr h48))
            | exact Or.inl ⟨rfl, Or.inr (Or.inr (Or.inr (Or.inr (zv_in0.mpr (Or.inr (Int32.not_le.mp h48))))))⟩
            | exact Or.inl ⟨rfl, Or.inr (Or.inr (Or.inr (Or.inr (zv_in0.mpr (Or.inl h38)))))⟩
            | exact Or.inl ⟨rfl, Or.inr (Or.inr (Or.inr (Or.inl h32)))⟩
            | exact Or.inl ⟨rfl, Or.inr (Or.inr (Or.inl (zv_in0.mpr (Or.inr h27))))⟩
            | exact Or.inl ⟨rfl, Or.inr (Or.inr (Or.inl (zv_in0.mpr (Or.inl h21))))⟩
            | exact Or.inl ⟨rfl, Or.inr (Or.inl (zv_in0.mpr (Or.inr h17)))⟩
            | exact Or.inl ⟨rfl, Or.inr (Or.inl (zv_in0.mpr (Or.inl h10)))⟩
            | exact Or.inl ⟨rfl, Or.inl (zv_in0.mpr (Or.inr h6))⟩
            | exact Or.inl ⟨rfl, Or.inl (zv_in0.mpr (Or.inl h1))⟩
          · skip
            refine zr_iload_n hx hb kd_Mo_clip_24 hl rfl ?_
            refine lv_bipush (v := 7) hx hb kd_Mo_clip_25 (by decide) ?_
            refine lv_icmp_gt (tgt := 51) hx hb kd_Mo_clip_27 (by decide) (fun h27 => ?_) (fun h27 => ?_)
            · skip
              refine lv_iconst (v := 1) hx hb kd_Mo_clip_51 (by decide) ?_
              refine lv_goto (tgt := 56) hx hb kd_Mo_clip_52 (by decide) ?_
              refine zr_istore hx hb kd_Mo_clip_56 hl (by decide) rfl (fun ls hl => ?_)
              refine mid _ _ _ _ ?_ hl hI
              first
              | (refine Or.inr ⟨rfl, fun g => ?_⟩
                 rcases g with g | g | g | g | g
                 · exact (zv_in0.mp g).elim h1 h6
                 · exact (zv_in0.mp g).elim h10 h17
                 · exact (zv_in0.mp g).elim h21 h27
                 · exact h32 g
                 · exact (zv_in0.mp g).elim h38 (Int32.not_lt.mpr h48))
              | exact Or.inl ⟨rfl, Or.inr (Or.inr (Or.inr (Or.inr (zv_in0.mpr (Or.inr (Int32.not_le.mp h48))))))⟩
              | exact Or.inl ⟨rfl, Or.inr (Or.inr (Or.inr (Or.inr (zv_in0.mpr (Or.inl h38)))))⟩
              | exact Or.inl ⟨rfl, Or.inr (Or.inr (Or.inr (Or.inl h32)))⟩
              | exact Or.inl ⟨rfl, Or.inr (Or.inr (Or.inl (zv_in0.mpr (Or.inr h27))))⟩
              | exact Or.inl ⟨rfl, Or.inr (Or.inr (Or.inl (zv_in0.mpr (Or.inl h21))))⟩
              | exact Or.inl ⟨rfl, Or.inr (Or.inl (zv_in0.mpr (Or.inr h17)))⟩
              | exact Or.inl ⟨rfl, Or.inr (Or.inl (zv_in0.mpr (Or.inl h10)))⟩
              | exact Or.inl ⟨rfl, Or.inl (zv_in0.mpr (Or.inr h6))⟩
              | exact Or.inl ⟨rfl, Or.inl (zv_in0.mpr (Or.inl h1))⟩
            · skip
              refine zr_iload hx hb kd_Mo_clip_30 hl rfl ?_
              refine lv_if_lt (tgt := 51) hx hb kd_Mo_clip_32 (by decide) (fun h32 => ?_) (fun h32 => ?_)
              · skip
                refine lv_iconst (v := 1) hx hb kd_Mo_clip_51 (by decide) ?_
                refine lv_goto (tgt := 56) hx hb kd_Mo_clip_52 (by decide) ?_
                refine zr_istore hx hb kd_Mo_clip_56 hl (by decide) rfl (fun ls hl => ?_)
                refine mid _ _ _ _ ?_ hl hI
                first
                | (refine Or.inr ⟨rfl, fun g => ?_⟩
                   rcases g with g | g | g | g | g
                   · exact (zv_in0.mp g).elim h1 h6
                   · exact (zv_in0.mp g).elim h10 h17
                   · exact (zv_in0.mp g).elim h21 h27
                   · exact h32 g
                   · exact (zv_in0.mp g).elim h38 (Int32.not_lt.mpr h48))
                | exact Or.inl ⟨rfl, Or.inr (Or.inr (Or.inr (Or.inr (zv_in0.mpr (Or.inr (Int32.not_le.mp h48))))))⟩
                | exact Or.inl ⟨rfl, Or.inr (Or.inr (Or.inr (Or.inr (zv_in0.mpr (Or.inl h38)))))⟩
                | exact Or.inl ⟨rfl, Or.inr (Or.inr (Or.inr (Or.inl h32)))⟩
                | exact Or.inl ⟨rfl, Or.inr (Or.inr (Or.inl (zv_in0.mpr (Or.inr h27))))⟩
                | exact Or.inl ⟨rfl, Or.inr (Or.inr (Or.inl (zv_in0.mpr (Or.inl h21))))⟩
                | exact Or.inl ⟨rfl, Or.inr (Or.inl (zv_in0.mpr (Or.inr h17)))⟩
                | exact Or.inl ⟨rfl, Or.inr (Or.inl (zv_in0.mpr (Or.inl h10)))⟩
                | exact Or.inl ⟨rfl, Or.inl (zv_in0.mpr (Or.inr h6))⟩
                | exact Or.inl ⟨rfl, Or.inl (zv_in0.mpr (Or.inl h1))⟩
              · skip
                refine zr_iload hx hb kd_Mo_clip_35 hl rfl ?_
                refine lv_iconst (v := 1) hx hb kd_Mo_clip_37 (by decide) ?_
                refine lv_icmp_lt (tgt := 51) hx hb kd_Mo_clip_38 (by decide) (fun h38 => ?_) (fun h38 => ?_)
                · skip
                  refine lv_iconst (v := 1) hx hb kd_Mo_clip_51 (by decide) ?_
                  refine lv_goto (tgt := 56) hx hb kd_Mo_clip_52 (by decide) ?_
                  refine zr_istore hx hb kd_Mo_clip_56 hl (by decide) rfl (fun ls hl => ?_)
                  refine mid _ _ _ _ ?_ hl hI
                  first
                  | (refine Or.inr ⟨rfl, fun g => ?_⟩
                     rcases g with g | g | g | g | g
                     · exact (zv_in0.mp g).elim h1 h6
                     · exact (zv_in0.mp g).elim h10 h17
                     · exact (zv_in0.mp g).elim h21 h27
                     · exact h32 g
                     · exact (zv_in0.mp g).elim h38 (Int32.not_lt.mpr h48))
                  | exact Or.inl ⟨rfl, Or.inr (Or.inr (Or.inr (Or.inr (zv_in0.mpr (Or.inr (Int32.not_le.mp h48))))))⟩
                  | exact Or.inl ⟨rfl, Or.inr (Or.inr (Or.inr (Or.inr (zv_in0.mpr (Or.inl h38)))))⟩
                  | exact Or.inl ⟨rfl, Or.inr (Or.inr (Or.inr (Or.inl h32)))⟩
                  | exact Or.inl ⟨rfl, Or.inr (Or.inr (Or.inl (zv_in0.mpr (Or.inr h27))))⟩
                  | exact Or.inl ⟨rfl, Or.inr (Or.inr (Or.inl (zv_in0.mpr (Or.inl h21))))⟩
                  | exact Or.inl ⟨rfl, Or.inr (Or.inl (zv_in0.mpr (Or.inr h17)))⟩
                  | exact Or.inl ⟨rfl, Or.inr (Or.inl (zv_in0.mpr (Or.inl h10)))⟩
                  | exact Or.inl ⟨rfl, Or.inl (zv_in0.mpr (Or.inr h6))⟩
                  | exact Or.inl ⟨rfl, Or.inl (zv_in0.mpr (Or.inl h1))⟩
                · skip
                  refine zr_iload hx hb kd_Mo_clip_41 hl rfl ?_
                  refine lv_sipush (v := 1024) hx hb kd_Mo_clip_43 (by decide) ?_
                  refine zr_iload_n hx hb kd_Mo_clip_46 hl rfl ?_
                  refine lv_isub hx hb kd_Mo_clip_47 ?_
                  refine lv_icmp_le (tgt := 55) hx hb kd_Mo_clip_48 (by decide) (fun h48 => ?_) (fun h48 => ?_)
                  · skip
                    refine lv_iconst (v := 0) hx hb kd_Mo_clip_55 (by decide) ?_
                    refine zr_istore hx hb kd_Mo_clip_56 hl (by decide) rfl (fun ls hl => ?_)
                    refine mid _ _ _ _ ?_ hl hI
                    first
                    | (refine Or.inr ⟨rfl, fun g => ?_⟩
                       rcases g with g | g | g | g | g
                       · exact (zv_in0.mp g).elim h1 h6
                       · exact (zv_in0.mp g).elim h10 h17
                       · exact (zv_in0.mp g).elim h21 h27
                       · exact h32 g
                       · exact (zv_in0.mp g).elim h38 (Int32.not_lt.mpr h48))
                    | exact Or.inl ⟨rfl, Or.inr (Or.inr (Or.inr (Or.inr (zv_in0.mpr (Or.inr (Int32.not_le.mp h48))))))⟩
                    | exact Or.inl ⟨rfl, Or.inr (Or.inr (Or.inr (Or.inr (zv_in0.mpr (Or.inl h38)))))⟩
                    | exact Or.inl ⟨rfl, Or.inr (Or.inr (Or.inr (Or.inl h32)))⟩
                    | exact Or.inl ⟨rfl, Or.inr (Or.inr (Or.inl (zv_in0.mpr (Or.inr h27))))⟩
                    | exact Or.inl ⟨rfl, Or.inr (Or.inr (Or.inl (zv_in0.mpr (Or.inl h21))))⟩
                    | exact Or.inl ⟨rfl, Or.inr (Or.inl (zv_in0.mpr (Or.inr h17)))⟩
                    | exact Or.inl ⟨rfl, Or.inr (Or.inl (zv_in0.mpr (Or.inl h10)))⟩
                    | exact Or.inl ⟨rfl, Or.inl (zv_in0.mpr (Or.inr h6))⟩
                    | exact Or.inl ⟨rfl, Or.inl (zv_in0.mpr (Or.inl h1))⟩
                  · skip
                    refine lv_iconst (v := 1) hx hb kd_Mo_clip_51 (by decide) ?_
                    refine lv_goto (tgt := 56) hx hb kd_Mo_clip_52 (by decide) ?_
                    refine zr_istore hx hb kd_Mo_clip_56 hl (by decide) rfl (fun ls hl => ?_)
                    refine mid _ _ _ _ ?_ hl hI
                    first
                    | (refine Or.inr ⟨rfl, fun g => ?_⟩
                       rcases g with g | g | g | g | g
                       · exact (zv_in0.mp g).elim h1 h6
                       · exact (zv_in0.mp g).elim h10 h17
                       · exact (zv_in0.mp g).elim h21 h27
                       · exact h32 g
                       · exact (zv_in0.mp g).elim h38 (Int32.not_lt.mpr h48))
                    | exact Or.inl ⟨rfl, Or.inr (Or.inr (Or.inr (Or.inr (zv_in0.mpr (Or.inr (Int32.not_le.mp h48))))))⟩
                    | exact Or.inl ⟨rfl, Or.inr (Or.inr (Or.inr (Or.inr (zv_in0.mpr (Or.inl h38)))))⟩
                    | exact Or.inl ⟨rfl, Or.inr (Or.inr (Or.inr (Or.inl h32)))⟩
                    | exact Or.inl ⟨rfl, Or.inr (Or.inr (Or.inl (zv_in0.mpr (Or.inr h27))))⟩
                    | exact Or.inl ⟨rfl, Or.inr (Or.inr (Or.inl (zv_in0.mpr (Or.inl h21))))⟩
                    | exact Or.inl ⟨rfl, Or.inr (Or.inl (zv_in0.mpr (Or.inr h17)))⟩
                    | exact Or.inl ⟨rfl, Or.inr (Or.inl (zv_in0.mpr (Or.inl h10)))⟩
                    | exact Or.inl ⟨rfl, Or.inl (zv_in0.mpr (Or.inr h6))⟩
                    | exact Or.inl ⟨rfl, Or.inl (zv_in0.mpr (Or.inl h1))⟩

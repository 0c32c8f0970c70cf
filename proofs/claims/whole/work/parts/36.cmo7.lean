/-! The reference: the fader's level. -/
def zG_T (M : zm_T) (s : Nat) : Nat → Int := fun i => (M.1 170 (8 * s + i)).toInt
def zG_V (M : zm_T) (s : Nat) : Nat → Int := fun i => (M.1 171 (8 * s + i)).toInt
def zG_J (M : zm_T) (s : Nat) : Nat → Int := fun i => (M.1 172 (8 * s + i)).toInt
def zG_M (M : zm_T) (s n : Nat) : Prop := M.1 169 s = nI n ∧ zF_V n (zG_T M s) (zG_V M s) (zG_J M s) (M.1 168 s).toInt
def zG_L (M : zm_T) (s n : Nat) (t v : Int) : Prop := zF_lev n (zG_T M s) (zG_V M s) (zG_J M s) (M.1 168 s).toInt t v
theorem zn_d16 : ∀ t, t < 1024 → nI t / 16 * 16 = nI (16 * (t / 16)) := by decide +kernel
set_option maxRecDepth 100000 in
set_option maxHeartbeats 4000000 in
theorem c_Mo_levelAt (l : Launch) (G : zg_T) (M : zm_T) (hL : zL M.2) (s n t : Nat) (h8 : s < 8) (ht : t < 1024) (hF : zG_M M s n) : Met l ky_Mo_levelAt (zr_ws ky_Mo_levelAt kc_Mo_levelAt 7 (some .long)) (zr_rm 1) (va_Pc [.ref (G.2.2.1 + 151), .int (nI s), .int (nI t)] (zm_B G 183 zs M)) (va_Ql (fun (r : Int64) (M' : zm_T) => zG_L M s n ((16 * (t / 16) : Nat) : Int) r.toInt ∧ M' = M) (zm_B G 183 zs) (zm_A G)) 0 0 (zm_A G) := by
  refine zr_met (by decide +kernel) (Nat.le_of_ble_eq_true rfl) ?_
  intro p0 e0 s0 m0 below meth c0 ls hS hK hlk hr hl hI
  have hx := hS.1
  have hb := hS.2.1
  have hl : zl_has ls 7 [some (.ref (G.2.2.1 + 151)), some (.int (nI s)), some (.int (nI t)), none, none, none, none] := hl
  have es : (nI s).toNatClampNeg = s := zn_cl (by omega)
  obtain ⟨hn, v1, v2, v3, v4, v5, v6, v7⟩ := hF
  obtain ⟨u, hU⟩ : ∃ u, 16 * (t / 16) = u := ⟨_, rfl⟩
  have hu : u < 1024 := by omega
  have eu : (nI u).toInt = u := nI_toInt (by omega)
  have ix : ∀ k, (8 : Int32) * nI s + nI k = nI (8 * s + k) := fun k => by rw [show (8 : Int32) = nI 8 from rfl, zn_mulI, nI_add]
  have ix1 : ∀ k, (8 : Int32) * nI s + nI k + 1 = nI (8 * s + (k + 1)) := fun k => by rw [ix, ← nI_succ]; rfl
  have iy1 : ∀ k, nI (8 * s + k) + 1 = nI (8 * s + (k + 1)) := fun k => by rw [← nI_succ]; rfl
  have cx : ∀ k, k < 8 → (nI (8 * s + k)).toNatClampNeg = 8 * s + k := fun k hk => zn_cl (by omega)
  have loop : ∀ (q k : Nat) (H : Heap) (locs : List Loc) (ls : Array Slot) (o6 : Option Value), k + q + 1 = n → (∀ i, 1 ≤ i → i ≤ k → zG_T M s i ≤ u) → zl_has ls 7 [some (.ref (G.2.2.1 + 151)), some (.int (nI s)), some (.int (nI t)), some (.int (nI u)), some (.int (nI n)), some (.int (nI k)), o6] → zm_I G 183 zs M s0 H locs → W p0 l e0 (zr_rm 1) s0 m0 ([.ref (G.2.2.1 + 151), .int (nI s), .int (nI t)] : List Value).toArray below meth c0 H locs 0 0 (MQ below (va_Ql (fun (r : Int64) (M' : zm_T) => zG_L M s n ((16 * (t / 16) : Nat) : Int) r.toInt ∧ M' = M) (zm_B G 183 zs) (zm_A G)) ([.ref (G.2.2.1 + 151), .int (nI s), .int (nI t)] : List Value).toArray s0 0 0 (zm_A G)) (F0 m0 32 ls []) := by
    intro q
    have fin : ∀ (k : Nat) (H : Heap) (locs : List Loc) (ls : Array Slot) (o6 : Option Value), k < n → (∀ i, 1 ≤ i → i ≤ k → zG_T M s i ≤ u) → (k + 1 < n → (u : Int) < zG_T M s (k + 1)) → zl_has ls 7 [some (.ref (G.2.2.1 + 151)), some (.int (nI s)), some (.int (nI t)), some (.int (nI u)), some (.int (nI n)), some (.int (nI k)), o6] → zm_I G 183 zs M s0 H locs → W p0 l e0 (zr_rm 1) s0 m0 ([.ref (G.2.2.1 + 151), .int (nI s), .int (nI t)] : List Value).toArray below meth c0 H locs 0 0 (MQ below (va_Ql (fun (r : Int64) (M' : zm_T) => zG_L M s n ((16 * (t / 16) : Nat) : Int) r.toInt ∧ M' = M) (zm_B G 183 zs) (zm_A G)) ([.ref (G.2.2.1 + 151), .int (nI s), .int (nI t)] : List Value).toArray s0 0 0 (zm_A G)) (F0 m0 65 ls []) := by
      intro k H locs ls o6 hk hlow hup hl hI
      have first : (u : Int) < zG_T M s k → zG_L M s n ((16 * (t / 16) : Nat) : Int) (zG_V M s k) := fun h => by
        have k0 : k = 0 := by
          by_cases e : k = 0
          · exact e
          · have := hlow k (by omega) (by omega); omega
        subst k0
        rw [hU]
        refine Or.inr ⟨by omega, 0, by omega, fun i hi => absurd hi (by omega), fun i _ hi => ?_, by rw [if_pos rfl]⟩
        by_cases e : i = 0
        · subst e; exact h
        · have := v3 0 i (by omega) hi; omega
      have rest : ¬ (u : Int) < zG_T M s k → ∀ w : Int, (w = if zG_J M s k = 0 ∨ k + 1 = n then zG_V M s k else zG_V M s k + (zG_V M s (k + 1) - zG_V M s k) * (u - zG_T M s k) / (zG_T M s (k + 1) - zG_T M s k)) → zG_L M s n ((16 * (t / 16) : Nat) : Int) w := fun h w hw => by
        rw [hU]
        refine Or.inr ⟨by omega, k + 1, by omega, fun i hi => ?_, fun i hi1 hi2 => ?_, ?_⟩
        · by_cases e : i = k
          · subst e; omega
          · have := v3 i k (by omega) hk; omega
        · have h1 := hup (by omega)
          by_cases e : i = k + 1
          · subst e; exact h1
          · have := v3 (k + 1) i (by omega) hi2; omega
        · rw [if_neg (by omega), Nat.add_sub_cancel]; exact hw
      have cT : ∀ j, j < 8 → (nI u < M.1 170 (8 * s + j) ↔ (u : Int) < zG_T M s j) := fun j hj => by rw [Int32.lt_iff_toInt_lt, eu]; rfl
      have J0 : M.1 172 (8 * s + k) = 0 ↔ zG_J M s k = 0 := by
        unfold zG_J
        refine ⟨fun h => by rw [h]; rfl, fun h => Int32.toInt_inj.mp (by rw [h]; rfl)⟩
      have iv : k + 1 < n → ¬ (u : Int) < zG_T M s k → ((M.1 171 (8 * s + (k + 1)) - M.1 171 (8 * s + k)).toInt64 * (nI u - M.1 170 (8 * s + k)).toInt64).toInt = (zG_V M s (k + 1) - zG_V M s k) * (u - zG_T M s k) ∧ (M.1 170 (8 * s + (k + 1)) - M.1 170 (8 * s + k)).toInt64.toInt = zG_T M s (k + 1) - zG_T M s k ∧ 0 < zG_T M s (k + 1) - zG_T M s k ∧ -1024 ≤ zG_V M s (k + 1) - zG_V M s k ∧ zG_V M s (k + 1) - zG_V M s k ≤ 1024 ∧ 0 ≤ (u : Int) - zG_T M s k ∧ (u : Int) - zG_T M s k ≤ 1024 ∧ 0 ≤ zG_V M s k ∧ zG_V M s k ≤ 1024 := fun h1 h2 => by
        have a1 := v4 k hk
        have a2 := v4 (k + 1) h1
        have a3 := v2 k hk
        have a4 := v2 (k + 1) h1
        have a5 := v3 k (k + 1) (by omega) h1
        have d1 : (M.1 171 (8 * s + (k + 1)) - M.1 171 (8 * s + k)).toInt = zG_V M s (k + 1) - zG_V M s k := zn_sub (by unfold zG_V at a1 a2; omega) (by unfold zG_V at a1 a2; omega)
        have d2 : (nI u - M.1 170 (8 * s + k)).toInt = u - zG_T M s k := by
          rw [zn_sub] <;> rw [eu]
          · rfl
          · unfold zG_T at a3; omega
          · unfold zG_T at a3; omega
        have d3 : (M.1 170 (8 * s + (k + 1)) - M.1 170 (8 * s + k)).toInt = zG_T M s (k + 1) - zG_T M s k := zn_sub (by unfold zG_T at a3 a4; omega) (by unfold zG_T at a3 a4; omega)
        refine ⟨?_, by rw [Int32.toInt_toInt64]; exact d3, by omega, by omega, by omega, by omega, by omega, a1.1, a1.2⟩
        have hm := zn_abs_mul (a := 1024) (b := 1024) (show -1024 ≤ zG_V M s (k + 1) - zG_V M s k by omega) (by omega) (show 0 ≤ (u : Int) - zG_T M s k by omega) (by omega)
        rw [zn_lmul] <;> rw [Int32.toInt_toInt64, Int32.toInt_toInt64, d1, d2] <;> omega
      refine lv_bipush (v := 8) hx hb kd_Mo_levelAt_65 (by decide) ?_
      refine zr_iload_n hx hb kd_Mo_levelAt_67 hl rfl ?_
      refine lv_imul hx hb kd_Mo_levelAt_68 ?_
      refine zr_iload hx hb kd_Mo_levelAt_69 hl rfl ?_
      refine lv_iadd hx hb kd_Mo_levelAt_71 ?_
      rw [ix]
      refine zr_istore hx hb kd_Mo_levelAt_72 hl (by decide) rfl (fun ls hl => ?_)
      refine zr_aload_n hx hb kd_Mo_levelAt_74 hl rfl ?_
      refine zr_getr hS hK kf_Mo_65 hI ha_MO hs_MO (show _ = some 170 from zL_mo hL (k := 19) (by decide) (by decide)) kd_Mo_levelAt_75 ?_
      refine zr_iload hx hb kd_Mo_levelAt_78 hl rfl ?_
      refine zr_iald hS hK hI ha_MO_19 hs_MO_19 (vp_in_nI (by omega) (by decide)) kd_Mo_levelAt_80 ?_
      refine zr_iload_n hx hb kd_Mo_levelAt_81 hl rfl ?_
      rw [cx k (by omega)]
      refine lv_icmp_gt (tgt := 104) hx hb kd_Mo_levelAt_82 (by decide) (fun h82 => ?_) (fun h82 => ?_)
      · skip
        refine zr_aload_n hx hb kd_Mo_levelAt_104 hl rfl ?_
        refine zr_getr hS hK kf_Mo_68 hI ha_MO hs_MO (show _ = some 171 from zL_mo hL (k := 20) (by decide) (by decide)) kd_Mo_levelAt_105 ?_
        refine zr_iload hx hb kd_Mo_levelAt_108 hl rfl ?_
        refine zr_iald hS hK hI ha_MO_20 hs_MO_20 (vp_in_nI (by omega) (by decide)) kd_Mo_levelAt_110 ?_
        refine lv_i2l hx hb kd_Mo_levelAt_111 rfl ?_
        exact zr_lret hS hK hlk hr hI kd_Mo_levelAt_112 (⟨by
            rw [Int32.toInt_toInt64, cx k (by omega)]
            first
            | exact rest (fun g => h82 ((cT k (by omega)).mpr g)) _ (by rw [if_pos (Or.inl (J0.mp h92))]; rfl)
            | exact rest (fun g => h82 ((cT k (by omega)).mpr g)) _ (by rw [if_pos (Or.inr (by rw [← nI_succ] at h101; exact (nI_eq (by omega) (by omega)).mp h101))]; rfl)
            | exact first ((cT k (by omega)).mp h82), rfl⟩)
      · skip
        refine zr_aload_n hx hb kd_Mo_levelAt_85 hl rfl ?_
        refine zr_getr hS hK kf_Mo_71 hI ha_MO hs_MO (show _ = some 172 from zL_mo hL (k := 21) (by decide) (by decide)) kd_Mo_levelAt_86 ?_
        refine zr_iload hx hb kd_Mo_levelAt_89 hl rfl ?_
        refine zr_zald hS hK hI ha_MO_21 hs_MO_21 (vp_in_nI (by omega) (by decide)) kd_Mo_levelAt_91 ?_
        rw [cx k (by omega)]
        refine lv_if_eq (tgt := 104) hx hb kd_Mo_levelAt_92 (by decide) (fun h92 => ?_) (fun h92 => ?_)
        · skip
          refine zr_aload_n hx hb kd_Mo_levelAt_104 hl rfl ?_
          refine zr_getr hS hK kf_Mo_68 hI ha_MO hs_MO (show _ = some 171 from zL_mo hL (k := 20) (by decide) (by decide)) kd_Mo_levelAt_105 ?_
          refine zr_iload hx hb kd_Mo_levelAt_108 hl rfl ?_
          refine zr_iald hS hK hI ha_MO_20 hs_MO_20 (vp_in_nI (by omega) (by decide)) kd_Mo_levelAt_110 ?_
          refine lv_i2l hx hb kd_Mo_levelAt_111 rfl ?_
          exact zr_lret hS hK hlk hr hI kd_Mo_levelAt_112 (⟨by
              rw [Int32.toInt_toInt64, cx k (by omega)]
              first
              | exact rest (fun g => h82 ((cT k (by omega)).mpr g)) _ (by rw [if_pos (Or.inl (J0.mp h92))]; rfl)
              | exact rest (fun g => h82 ((cT k (by omega)).mpr g)) _ (by rw [if_pos (Or.inr (by rw [← nI_succ] at h101; exact (nI_eq (by omega) (by omega)).mp h101))]; rfl)
              | exact first ((cT k (by omega)).mp h82), rfl⟩)
        · skip
          refine zr_iload hx hb kd_Mo_levelAt_95 hl rfl ?_
          refine lv_iconst (v := 1) hx hb kd_Mo_levelAt_97 (by decide) ?_
          refine lv_iadd hx hb kd_Mo_levelAt_98 ?_
          refine zr_iload hx hb kd_Mo_levelAt_99 hl rfl ?_
          refine lv_icmp_ne (tgt := 113) hx hb kd_Mo_levelAt_101 (by decide) (fun h101 => ?_) (fun h101 => ?_)
          · skip
            have h1n : k + 1 < n := by
              have : ¬ k + 1 = n := fun e => h101 (by rw [← nI_succ, e])
              omega
            refine zr_aload_n hx hb kd_Mo_levelAt_113 hl rfl ?_
            refine zr_getr hS hK kf_Mo_68 hI ha_MO hs_MO (show _ = some 171 from zL_mo hL (k := 20) (by decide) (by decide)) kd_Mo_levelAt_114 ?_
            refine zr_iload hx hb kd_Mo_levelAt_117 hl rfl ?_
            refine zr_iald hS hK hI ha_MO_20 hs_MO_20 (vp_in_nI (by omega) (by decide)) kd_Mo_levelAt_119 ?_
            refine lv_i2l hx hb kd_Mo_levelAt_120 rfl ?_
            refine zr_aload_n hx hb kd_Mo_levelAt_121 hl rfl ?_
            refine zr_getr hS hK kf_Mo_68 hI ha_MO hs_MO (show _ = some 171 from zL_mo hL (k := 20) (by decide) (by decide)) kd_Mo_levelAt_122 ?_
            refine zr_iload hx hb kd_Mo_levelAt_125 hl rfl ?_
            refine lv_iconst (v := 1) hx hb kd_Mo_levelAt_127 (by decide) ?_
            refine lv_iadd hx hb kd_Mo_levelAt_128 ?_
            rw [iy1]
            refine zr_iald hS hK hI ha_MO_20 hs_MO_20 (vp_in_nI (by omega) (by decide)) kd_Mo_levelAt_129 ?_
            refine zr_aload_n hx hb kd_Mo_levelAt_130 hl rfl ?_
            refine zr_getr hS hK kf_Mo_68 hI ha_MO hs_MO (show _ = some 171 from zL_mo hL (k := 20) (by decide) (by decide)) kd_Mo_levelAt_131 ?_
            refine zr_iload hx hb kd_Mo_levelAt_134 hl rfl ?_
            refine zr_iald hS hK hI ha_MO_20 hs_MO_20 (vp_in_nI (by omega) (by decide)) kd_Mo_levelAt_136 ?_
            refine lv_isub hx hb kd_Mo_levelAt_137 ?_
            refine lv_i2l hx hb kd_Mo_levelAt_138 rfl ?_
            refine zr_iload_n hx hb kd_Mo_levelAt_139 hl rfl ?_
            refine zr_aload_n hx hb kd_Mo_levelAt_140 hl rfl ?_
            refine zr_getr hS hK kf_Mo_65 hI ha_MO hs_MO (show _ = some 170 from zL_mo hL (k := 19) (by decide) (by decide)) kd_Mo_levelAt_141 ?_
            refine zr_iload hx hb kd_Mo_levelAt_144 hl rfl ?_
            refine zr_iald hS hK hI ha_MO_19 hs_MO_19 (vp_in_nI (by omega) (by decide)) kd_Mo_levelAt_146 ?_
            refine lv_isub hx hb kd_Mo_levelAt_147 ?_
            refine lv_i2l hx hb kd_Mo_levelAt_148 rfl ?_
            refine lv_lmul hx hb kd_Mo_levelAt_149 ?_
            refine zr_aload_n hx hb kd_Mo_levelAt_150 hl rfl ?_
            refine zr_getr hS hK kf_Mo_65 hI ha_MO hs_MO (show _ = some 170 from zL_mo hL (k := 19) (by decide) (by decide)) kd_Mo_levelAt_151 ?_
            refine zr_iload hx hb kd_Mo_levelAt_154 hl rfl ?_
            refine lv_iconst (v := 1) hx hb kd_Mo_levelAt_156 (by decide) ?_
            refine lv_iadd hx hb kd_Mo_levelAt_157 ?_
            rw [iy1]
            refine zr_iald hS hK hI ha_MO_19 hs_MO_19 (vp_in_nI (by omega) (by decide)) kd_Mo_levelAt_158 ?_
            refine zr_aload_n hx hb kd_Mo_levelAt_159 hl rfl ?_
            refine zr_getr hS hK kf_Mo_65 hI ha_MO hs_MO (show _ = some 170 from zL_mo hL (k := 19) (by decide) (by decide)) kd_Mo_levelAt_160 ?_
            refine zr_iload hx hb kd_Mo_levelAt_163 hl rfl ?_
            refine zr_iald hS hK hI ha_MO_19 hs_MO_19 (vp_in_nI (by omega) (by decide)) kd_Mo_levelAt_165 ?_
            refine lv_isub hx hb kd_Mo_levelAt_166 ?_
            refine lv_i2l hx hb kd_Mo_levelAt_167 rfl ?_
            have hge : ¬ (u : Int) < zG_T M s k := fun g => h82 ((cT k (by omega)).mpr g)
            obtain ⟨w1, w2, w3, w4, w5, w6, w7, w8, w9⟩ := iv h1n hge
            rw [cx k (by omega), cx (k + 1) (by omega)]
            refine zr_cl (zr_runS hS hK (c_Mo_down l G 183 zs M _ _ (by rw [w2]; exact w3)) km_Mo_111 hI rfl hl.1 (Nat.le_of_ble_eq_true rfl) (by decide) (by decide) kd_Mo_levelAt_168 rfl) hI (fun r168 M168 H locs hp168 hI => ?_)
            obtain ⟨hr168, hM168⟩ := hp168
            rw [hM168] at hI
            rw [w1, w2] at hr168
            refine lv_ladd hx hb kd_Mo_levelAt_171 ?_
            exact zr_lret hS hK hlk hr hI kd_Mo_levelAt_172 (⟨by
                have hm := zn_abs_mul (a := 1024) (b := 1024) w4 w5 w6 w7
                have hq1 : -1048576 ≤ r168.toInt ∧ r168.toInt ≤ 1048576 := by
                  rw [hr168]
                  constructor
                  · exact (Int.le_ediv_iff_mul_le w3).mpr (by omega)
                  · exact Int.ediv_le_of_le_mul w3 (by omega)
                refine rest hge _ ?_
                rw [if_neg (fun g => g.elim (fun g => h92 (J0.mpr g)) (fun g => by omega)), zn_ladd] <;> rw [Int32.toInt_toInt64]
                · rw [hr168]; rfl
                · show _ ≤ zG_V M s k + _; omega
                · show zG_V M s k + _ < _; omega, rfl⟩)
          · skip
            refine zr_aload_n hx hb kd_Mo_levelAt_104 hl rfl ?_
            refine zr_getr hS hK kf_Mo_68 hI ha_MO hs_MO (show _ = some 171 from zL_mo hL (k := 20) (by decide) (by decide)) kd_Mo_levelAt_105 ?_
            refine zr_iload hx hb kd_Mo_levelAt_108 hl rfl ?_
            refine zr_iald hS hK hI ha_MO_20 hs_MO_20 (vp_in_nI (by omega) (by decide)) kd_Mo_levelAt_110 ?_
            refine lv_i2l hx hb kd_Mo_levelAt_111 rfl ?_
            exact zr_lret hS hK hlk hr hI kd_Mo_levelAt_112 (⟨by
                rw [Int32.toInt_toInt64, cx k (by omega)]
                first
                | exact rest (fun g => h82 ((cT k (by omega)).mpr g)) _ (by rw [if_pos (Or.inl (J0.mp h92))]; rfl)
                | exact rest (fun g => h82 ((cT k (by omega)).mpr g)) _ (by rw [if_pos (Or.inr (by rw [← nI_succ] at h101; exact (nI_eq (by omega) (by omega)).mp h101))]; rfl)
                | exact first ((cT k (by omega)).mp h82), rfl⟩)
    induction q with
    | zero =>
      intro k H locs ls o6 hk hlow hl hI
      refine zr_iload hx hb kd_Mo_levelAt_32 hl rfl ?_
      refine lv_iconst (v := 1) hx hb kd_Mo_levelAt_34 (by decide) ?_
      refine lv_iadd hx hb kd_Mo_levelAt_35 ?_
      refine zr_iload hx hb kd_Mo_levelAt_36 hl rfl ?_
      refine lv_icmp_ge (tgt := 65) hx hb kd_Mo_levelAt_38 (by decide) (fun h38 => ?_) (fun h38 => absurd ((by rw [← nI_succ, show n = k + 1 by omega]; exact Int32.le_refl _)) h38)
      exact fin k H locs ls _ (by omega) hlow (fun h => absurd h (by omega)) hl hI
    | succ q ih =>
      intro k H locs ls o6 hk hlow hl hI
      refine zr_iload hx hb kd_Mo_levelAt_32 hl rfl ?_
      refine lv_iconst (v := 1) hx hb kd_Mo_levelAt_34 (by decide) ?_
      refine lv_iadd hx hb kd_Mo_levelAt_35 ?_
      refine zr_iload hx hb kd_Mo_levelAt_36 hl rfl ?_
      refine lv_icmp_ge (tgt := 65) hx hb kd_Mo_levelAt_38 (by decide) (fun h38 => absurd h38 ((by rw [← nI_succ]; exact nI_ge (by omega) (by omega)))) (fun h38 => ?_)
      refine zr_aload_n hx hb kd_Mo_levelAt_41 hl rfl ?_
      refine zr_getr hS hK kf_Mo_65 hI ha_MO hs_MO (show _ = some 170 from zL_mo hL (k := 19) (by decide) (by decide)) kd_Mo_levelAt_42 ?_
      refine lv_bipush (v := 8) hx hb kd_Mo_levelAt_45 (by decide) ?_
      refine zr_iload_n hx hb kd_Mo_levelAt_47 hl rfl ?_
      refine lv_imul hx hb kd_Mo_levelAt_48 ?_
      refine zr_iload hx hb kd_Mo_levelAt_49 hl rfl ?_
      refine lv_iadd hx hb kd_Mo_levelAt_51 ?_
      refine lv_iconst (v := 1) hx hb kd_Mo_levelAt_52 (by decide) ?_
      refine lv_iadd hx hb kd_Mo_levelAt_53 ?_
      rw [ix1]
      refine zr_iald hS hK hI ha_MO_19 hs_MO_19 (vp_in_nI (by omega) (by decide)) kd_Mo_levelAt_54 ?_
      refine zr_iload_n hx hb kd_Mo_levelAt_55 hl rfl ?_
      rw [cx (k + 1) (by omega)]
      refine lv_icmp_gt (tgt := 65) hx hb kd_Mo_levelAt_56 (by decide) (fun h56 => ?_) (fun h56 => ?_)
      · skip
        refine fin k H locs ls _ (by omega) hlow (fun _ => ?_) hl hI
        rw [Int32.lt_iff_toInt_lt, eu] at h56
        exact h56
      · skip
        refine zr_iinc hx hb kd_Mo_levelAt_59 hl (by decide) rfl rfl (fun ls hl => ?_)
        refine lv_goto (tgt := 32) hx hb kd_Mo_levelAt_62 (by decide) ?_
        refine ih (k + 1) H locs ls _ (by omega) (fun i hi1 hi2 => ?_) (by rw [nI_succ]; exact hl) hI
        by_cases e : i = k + 1
        · subst e
          rw [Int32.lt_iff_toInt_lt, eu] at h56
          exact Int.not_lt.mp h56
        · exact hlow i hi1 (by omega)
  refine zr_iload_n hx hb kd_Mo_levelAt_0 hl rfl ?_
  refine lv_bipush (v := 16) hx hb kd_Mo_levelAt_1 (by decide) ?_
  refine lv_idiv hx hb kd_Mo_levelAt_3 (by decide) ?_
  refine lv_bipush (v := 16) hx hb kd_Mo_levelAt_4 (by decide) ?_
  refine lv_imul hx hb kd_Mo_levelAt_6 ?_
  rw [zn_d16 t ht, show nI (16 * (t / 16)) = nI u from congrArg nI hU]
  refine zr_istore_n hx hb kd_Mo_levelAt_7 hl (by decide) rfl (fun ls hl => ?_)
  refine zr_aload_n hx hb kd_Mo_levelAt_8 hl rfl ?_
  refine zr_getr hS hK kf_Mo_62 hI ha_MO hs_MO (show _ = some 169 from zL_mo hL (k := 18) (by decide) (by decide)) kd_Mo_levelAt_9 ?_
  refine zr_iload_n hx hb kd_Mo_levelAt_12 hl rfl ?_
  refine zr_iald hS hK hI ha_MO_18 hs_MO_18 (vp_in_nI (by omega) (by decide)) kd_Mo_levelAt_13 ?_
  rw [es, hn]
  refine zr_istore hx hb kd_Mo_levelAt_14 hl (by decide) rfl (fun ls hl => ?_)
  refine zr_iload hx hb kd_Mo_levelAt_16 hl rfl ?_
  refine lv_if_ne (tgt := 29) hx hb kd_Mo_levelAt_18 (by decide) (fun h18 => ?_) (fun h18 => ?_)
  · skip
    refine lv_iconst (v := 0) hx hb kd_Mo_levelAt_29 (by decide) ?_
    refine zr_istore hx hb kd_Mo_levelAt_30 hl (by decide) rfl (fun ls hl => ?_)
    have n0 : n ≠ 0 := fun e => h18 (by rw [e]; rfl)
    exact loop (n - 1) 0 _ _ _ _ (by omega) (fun i h1 h2 => absurd h1 (by omega)) hl hI
  · skip
    refine zr_aload_n hx hb kd_Mo_levelAt_21 hl rfl ?_
    refine zr_getr hS hK kf_Mo_59 hI ha_MO hs_MO (show _ = some 168 from zL_mo hL (k := 17) (by decide) (by decide)) kd_Mo_levelAt_22 ?_
    refine zr_iload_n hx hb kd_Mo_levelAt_25 hl rfl ?_
    refine zr_iald hS hK hI ha_MO_17 hs_MO_17 (vp_in_nI (by omega) (by decide)) kd_Mo_levelAt_26 ?_
    refine lv_i2l hx hb kd_Mo_levelAt_27 rfl ?_
    exact zr_lret hS hK hlk hr hI kd_Mo_levelAt_28 (⟨Or.inl ⟨(nI_eq (by omega) (by omega)).mp (show nI n = nI 0 from h18), by rw [Int32.toInt_toInt64, es]⟩, rfl⟩)

/-! The reference's public methods: takes. -/
theorem zv_in {x : Int32} {n : Nat} {hi : Int32} (hh : hi.toInt = n) (h1 : ¬ x < 0) (h2 : ¬ hi < x) : ∃ c : Nat, c ≤ n ∧ x = nI c := zf_in_n (n := n) (hi := hi) hh (by unfold zf_in; rw [if_neg h1, if_neg h2]; decide)
theorem zv_vp {x : Int32} {n : Nat} {hi : Int32} (hh : hi.toInt = n) (hn : n < 2147483647) (h1 : ¬ x < 0) (h2 : ¬ hi < x) : vp_in x (n + 1) := by
  obtain ⟨c, hc, rfl⟩ := zv_in hh h1 h2
  exact vp_in_nI (by omega) (by omega)
def zv_sam (M : zm_T) (t i : Int32) : Int32 := if zf_in t 0 7 = 0 then 1 else if zf_in i 0 60 = 0 then 1 else if M.1 153 t.toNatClampNeg ≤ 0 then 0 else 2
/-- the sample k of four, as the reference cuts it out -/
def zg_sh (four : Int64) (k : Nat) : Int32 := if (four >>> (((16 : Int32) * nI k).toInt64 &&& 63) &&& 65535).toInt32 ≤ 32767 then (four >>> (((16 : Int32) * nI k).toInt64 &&& 63) &&& 65535).toInt32 else (four >>> (((16 : Int32) * nI k).toInt64 &&& 63) &&& 65535).toInt32 - 65536
set_option maxRecDepth 100000 in
set_option maxHeartbeats 4000000 in
theorem c_Mo_samples (l : Launch) (G : zg_T) (M : zm_T) (hL : zL M.2) (t i : Int32) (four : Int64) : Met l ky_Mo_samples (zr_ws ky_Mo_samples kc_Mo_samples 7 none) (zr_rm 0) (va_Pc [.ref (G.2.2.1 + 151), .int t, .int i, .long four] (zm_B G 183 zs M)) (va_Qv (fun (M' : zm_T) => M' = if zv_sam M t i = 0 then zm_seg (zm_ui M 151 0 0) 152 (64 * t.toNatClampNeg + i.toNatClampNeg) 4 (zg_sh four) else zm_ui M 151 0 (zv_sam M t i)) (zm_B G 183 zs) (zm_A G)) 0 0 (zm_A G) := by
  refine zr_met (by decide +kernel) (Nat.le_of_ble_eq_true rfl) ?_
  intro p0 e0 s0 m0 below meth c0 ls hS hK hlk hr hl hI
  have hx := hS.1
  have hb := hS.2.1
  have hl : zl_has ls 7 [some (.ref (G.2.2.1 + 151)), some (.int t), some (.int i), some (.long four), none, none, none] := hl
  have rest : ∀ (v : Int32) (H : Heap) (locs : List Loc) (ls : Array Slot), v = zv_sam M t i → (v = 0 → (∃ tn, tn < 8 ∧ t = nI tn) ∧ ∃ n, n ≤ 60 ∧ i = nI n) → zl_has ls 7 [some (.ref (G.2.2.1 + 151)), some (.int t), some (.int i), some (.long four), none, none, none] → zm_I G 183 zs M s0 H locs → W p0 l e0 (zr_rm 0) s0 m0 ([.ref (G.2.2.1 + 151), .int t, .int i, .long four] : List Value).toArray below meth c0 H locs 0 0 (MQ below (va_Qv (fun (M' : zm_T) => M' = if zv_sam M t i = 0 then zm_seg (zm_ui M 151 0 0) 152 (64 * t.toNatClampNeg + i.toNatClampNeg) 4 (zg_sh four) else zm_ui M 151 0 (zv_sam M t i)) (zm_B G 183 zs) (zm_A G)) ([.ref (G.2.2.1 + 151), .int t, .int i, .long four] : List Value).toArray s0 0 0 (zm_A G)) (F0 m0 39 ls [.int v, .ref (G.2.2.1 + 151)]) := by
    intro v H locs ls hv hin hl hI
    by_cases h0 : v = 0
    · obtain ⟨⟨tn, ht, rfl⟩, n, hn, rfl⟩ := hin h0
      subst h0
      rw [zn_cl (by omega), zn_cl (by omega), ← hv, if_pos rfl]
      have loop : ∀ (q k : Nat) (o6 : Option Value) (H : Heap) (locs : List Loc) (ls : Array Slot), k + q = 4 → zl_has ls 7 [some (.ref (G.2.2.1 + 151)), some (.int (nI tn)), some (.int (nI n)), some (.long four), none, some (.int (nI k)), o6] → zm_I G 183 zs (zm_seg (zm_ui M 151 0 0) 152 (64 * tn + n) k (zg_sh four)) s0 H locs → W p0 l e0 (zr_rm 0) s0 m0 ([.ref (G.2.2.1 + 151), .int (nI tn), .int (nI n), .long four] : List Value).toArray below meth c0 H locs 0 0 (MQ below (va_Qv (fun (M' : zm_T) => M' = zm_seg (zm_ui M 151 0 0) 152 (64 * tn + n) 4 (zg_sh four)) (zm_B G 183 zs) (zm_A G)) ([.ref (G.2.2.1 + 151), .int (nI tn), .int (nI n), .long four] : List Value).toArray s0 0 0 (zm_A G)) (F0 m0 45 ls []) := by
        intro q
        induction q with
        | zero =>
          intro k o6 H locs ls hk hl hI
          obtain rfl : k = 4 := by omega
          refine zr_iload hx hb kd_Mo_samples_45 hl rfl ?_
          refine lv_iconst (v := 4) hx hb kd_Mo_samples_47 (by decide) ?_
          refine lv_icmp_ge (tgt := 110) hx hb kd_Mo_samples_48 (by decide) (fun h48 => ?_) (fun h48 => absurd (by decide) h48)
          exact zr_vret hS hK hlk hr hI kd_Mo_samples_110 (rfl)
        | succ q ih =>
          intro k o6 H locs ls hk hl hI
          have hL2 : zL (zm_seg (zm_ui M 151 0 0) 152 (64 * tn + n) k (zg_sh four)).2 := hL
          have e0 : (zm_seg (zm_ui M 151 0 0) 152 (64 * tn + n) k (zg_sh four)).1 151 0 = 0 := by rw [zm_seg_out (Or.inl (by decide)), zm_ui_at]
          have e1 : (64 : Int32) * nI tn + nI n + nI k = nI (64 * tn + n + k) := by rw [show (64 : Int32) = nI 64 from rfl, zn_mulI, nI_add, nI_add]
          have c1 : (nI (64 * tn + n + k)).toNatClampNeg = 64 * tn + n + k := zn_cl (by omega)
          refine zr_iload hx hb kd_Mo_samples_45 hl rfl ?_
          refine lv_iconst (v := 4) hx hb kd_Mo_samples_47 (by decide) ?_
          refine lv_icmp_ge (tgt := 110) hx hb kd_Mo_samples_48 (by decide) (fun h48 => absurd h48 (zn_ge (n := 4) rfl (by omega) (by decide))) (fun h48 => ?_)
          refine zr_aload_n hx hb kd_Mo_samples_51 hl rfl ?_
          refine zr_geti hS hK kf_Mo_101 hI ha_MO hs_MO kd_Mo_samples_52 ?_
          refine lv_if_ne (tgt := 110) hx hb kd_Mo_samples_55 (by decide) (fun h55 => absurd (e0) h55) (fun h55 => ?_)
          refine zr_lload_n hx hb kd_Mo_samples_58 hl rfl ?_
          refine lv_bipush (v := 16) hx hb kd_Mo_samples_59 (by decide) ?_
          refine zr_iload hx hb kd_Mo_samples_61 hl rfl ?_
          refine lv_imul hx hb kd_Mo_samples_63 ?_
          refine lv_lshr hx hb kd_Mo_samples_64 rfl ?_
          refine lv_ldc2 (v := 65535) hx hb hS.2.2.2.1 (hS.2.2.2.2 _ (zw_mem (i := 1146) (w := .constantLong "StripMixerModel" 115 65535) (by decide +kernel) rfl)) kd_Mo_samples_65 ?_
          refine lv_land hx hb kd_Mo_samples_68 ?_
          refine lv_l2i hx hb kd_Mo_samples_69 rfl ?_
          refine zr_istore hx hb kd_Mo_samples_70 hl (by decide) rfl (fun ls hl => ?_)
          refine zr_aload_n hx hb kd_Mo_samples_72 hl rfl ?_
          refine zr_getr hS hK kf_Mo_7 hI ha_MO hs_MO (show _ = some 152 from zL_mo hL (k := 1) (by decide) (by decide)) kd_Mo_samples_73 ?_
          refine lv_bipush (v := 64) hx hb kd_Mo_samples_76 (by decide) ?_
          refine zr_iload_n hx hb kd_Mo_samples_78 hl rfl ?_
          refine lv_imul hx hb kd_Mo_samples_79 ?_
          refine zr_iload_n hx hb kd_Mo_samples_80 hl rfl ?_
          refine lv_iadd hx hb kd_Mo_samples_81 ?_
          refine zr_iload hx hb kd_Mo_samples_82 hl rfl ?_
          refine lv_iadd hx hb kd_Mo_samples_84 ?_
          refine zr_iload hx hb kd_Mo_samples_85 hl rfl ?_
          refine lv_sipush (v := 32767) hx hb kd_Mo_samples_87 (by decide) ?_
          refine lv_icmp_le (tgt := 101) hx hb kd_Mo_samples_90 (by decide) (fun h90 => ?_) (fun h90 => ?_)
          · skip
            refine zr_iload hx hb kd_Mo_samples_101 hl rfl ?_
            rw [e1]
            refine zr_iast hS hK hI ha_MO_1 hs_MO_1 (vp_in_nI (by omega) (by decide)) kd_Mo_samples_103 (fun H locs hI => ?_)
            refine zr_iinc hx hb kd_Mo_samples_104 hl (by decide) rfl rfl (fun ls hl => ?_)
            refine lv_goto (tgt := 45) hx hb kd_Mo_samples_107 (by decide) ?_
            rw [c1] at hI
            refine ih (k + 1) _ H locs ls (by omega) (by rw [nI_succ]; exact hl) ?_
            rw [← zm_seg_s]
            unfold zg_sh
            first
            | (rw [if_pos (by assumption)]; exact hI)
            | (rw [if_neg (by assumption)]; exact hI)
          · skip
            refine zr_iload hx hb kd_Mo_samples_93 hl rfl ?_
            refine lv_ldc (v := 65536) hx hb hS.2.2.2.1 (hS.2.2.2.2 _ (zw_mem (i := 1147) (w := .constant "StripMixerModel" 117 65536) (by decide +kernel) rfl)) kd_Mo_samples_95 ?_
            refine lv_isub hx hb kd_Mo_samples_97 ?_
            refine lv_goto (tgt := 103) hx hb kd_Mo_samples_98 (by decide) ?_
            rw [e1]
            refine zr_iast hS hK hI ha_MO_1 hs_MO_1 (vp_in_nI (by omega) (by decide)) kd_Mo_samples_103 (fun H locs hI => ?_)
            refine zr_iinc hx hb kd_Mo_samples_104 hl (by decide) rfl rfl (fun ls hl => ?_)
            refine lv_goto (tgt := 45) hx hb kd_Mo_samples_107 (by decide) ?_
            rw [c1] at hI
            refine ih (k + 1) _ H locs ls (by omega) (by rw [nI_succ]; exact hl) ?_
            rw [← zm_seg_s]
            unfold zg_sh
            first
            | (rw [if_pos (by assumption)]; exact hI)
            | (rw [if_neg (by assumption)]; exact hI)
      rw [← zm_seg_0 M 152 (64 * tn + n) (zg_sh four)] at hI
      refine zr_puti hS hK kf_Mo_101 hI ha_MO hs_MO rfl rfl kd_Mo_samples_39 (fun H locs hI => ?_)
      refine lv_iconst (v := 0) hx hb kd_Mo_samples_42 (by decide) ?_
      refine zr_istore hx hb kd_Mo_samples_43 hl (by decide) rfl (fun ls hl => ?_)
      exact loop 4 0 _ _ _ _ (by omega) hl (by rw [zm_seg_0] at hI ⊢; exact hI)
    · have e0 : ¬ (zm_ui M 151 0 v).1 151 0 = 0 := by rw [zm_ui_at]; exact h0
      rw [← hv, if_neg h0]
      refine zr_puti hS hK kf_Mo_101 hI ha_MO hs_MO rfl rfl kd_Mo_samples_39 (fun H locs hI => ?_)
      refine lv_iconst (v := 0) hx hb kd_Mo_samples_42 (by decide) ?_
      refine zr_istore hx hb kd_Mo_samples_43 hl (by decide) rfl (fun ls hl => ?_)
      refine zr_iload hx hb kd_Mo_samples_45 hl rfl ?_
      refine lv_iconst (v := 4) hx hb kd_Mo_samples_47 (by decide) ?_
      refine lv_icmp_ge (tgt := 110) hx hb kd_Mo_samples_48 (by decide) (fun h48 => absurd h48 (by decide)) (fun h48 => ?_)
      refine zr_aload_n hx hb kd_Mo_samples_51 hl rfl ?_
      refine zr_geti hS hK kf_Mo_101 hI ha_MO hs_MO kd_Mo_samples_52 ?_
      refine lv_if_ne (tgt := 110) hx hb kd_Mo_samples_55 (by decide) (fun h55 => ?_) (fun h55 => absurd h55 (e0))
      exact zr_vret hS hK hlk hr hI kd_Mo_samples_110 (rfl)
  refine zr_aload_n hx hb kd_Mo_samples_0 hl rfl ?_
  refine zr_iload_n hx hb kd_Mo_samples_1 hl rfl ?_
  refine lv_if_lt (tgt := 21) hx hb kd_Mo_samples_2 (by decide) (fun h2 => ?_) (fun h2 => ?_)
  · skip
    refine lv_iconst (v := 1) hx hb kd_Mo_samples_21 (by decide) ?_
    refine lv_goto (tgt := 39) hx hb kd_Mo_samples_22 (by decide) ?_
    refine rest _ _ _ _ (by simp [zv_sam, zf_in, *]) ?_ hl hI
    first
    | exact fun h => absurd h (by decide)
    | (intro _
       obtain ⟨a, ha, ea⟩ := zv_in (n := 7) (by decide) h2 h8
       obtain ⟨b, hb', eb⟩ := zv_in (n := 60) (by decide) h12 (Int32.not_lt.mpr h18)
       exact ⟨⟨a, by omega, ea⟩, b, hb', eb⟩)
  · skip
    refine zr_iload_n hx hb kd_Mo_samples_5 hl rfl ?_
    refine lv_bipush (v := 7) hx hb kd_Mo_samples_6 (by decide) ?_
    refine lv_icmp_gt (tgt := 21) hx hb kd_Mo_samples_8 (by decide) (fun h8 => ?_) (fun h8 => ?_)
    · skip
      refine lv_iconst (v := 1) hx hb kd_Mo_samples_21 (by decide) ?_
      refine lv_goto (tgt := 39) hx hb kd_Mo_samples_22 (by decide) ?_
      refine rest _ _ _ _ (by simp [zv_sam, zf_in, *]) ?_ hl hI
      first
      | exact fun h => absurd h (by decide)
      | (intro _
         obtain ⟨a, ha, ea⟩ := zv_in (n := 7) (by decide) h2 h8
         obtain ⟨b, hb', eb⟩ := zv_in (n := 60) (by decide) h12 (Int32.not_lt.mpr h18)
         exact ⟨⟨a, by omega, ea⟩, b, hb', eb⟩)
    · skip
      refine zr_iload_n hx hb kd_Mo_samples_11 hl rfl ?_
      refine lv_if_lt (tgt := 21) hx hb kd_Mo_samples_12 (by decide) (fun h12 => ?_) (fun h12 => ?_)
      · skip
        refine lv_iconst (v := 1) hx hb kd_Mo_samples_21 (by decide) ?_
        refine lv_goto (tgt := 39) hx hb kd_Mo_samples_22 (by decide) ?_
        refine rest _ _ _ _ (by simp [zv_sam, zf_in, *]) ?_ hl hI
        first
        | exact fun h => absurd h (by decide)
        | (intro _
           obtain ⟨a, ha, ea⟩ := zv_in (n := 7) (by decide) h2 h8
           obtain ⟨b, hb', eb⟩ := zv_in (n := 60) (by decide) h12 (Int32.not_lt.mpr h18)
           exact ⟨⟨a, by omega, ea⟩, b, hb', eb⟩)
      · skip
        refine zr_iload_n hx hb kd_Mo_samples_15 hl rfl ?_
        refine lv_bipush (v := 60) hx hb kd_Mo_samples_16 (by decide) ?_
        refine lv_icmp_le (tgt := 25) hx hb kd_Mo_samples_18 (by decide) (fun h18 => ?_) (fun h18 => ?_)
        · skip
          refine zr_aload_n hx hb kd_Mo_samples_25 hl rfl ?_
          refine zr_getr hS hK kf_Mo_13 hI ha_MO hs_MO (show _ = some 153 from zL_mo hL (k := 2) (by decide) (by decide)) kd_Mo_samples_26 ?_
          refine zr_iload_n hx hb kd_Mo_samples_29 hl rfl ?_
          refine zr_iald hS hK hI ha_MO_2 hs_MO_2 (zv_vp (n := 7) (by decide) (by decide) h2 h8) kd_Mo_samples_30 ?_
          refine lv_if_le (tgt := 38) hx hb kd_Mo_samples_31 (by decide) (fun h31 => ?_) (fun h31 => ?_)
          · skip
            refine lv_iconst (v := 0) hx hb kd_Mo_samples_38 (by decide) ?_
            refine rest _ _ _ _ (by simp [zv_sam, zf_in, *]) ?_ hl hI
            first
            | exact fun h => absurd h (by decide)
            | (intro _
               obtain ⟨a, ha, ea⟩ := zv_in (n := 7) (by decide) h2 h8
               obtain ⟨b, hb', eb⟩ := zv_in (n := 60) (by decide) h12 (Int32.not_lt.mpr h18)
               exact ⟨⟨a, by omega, ea⟩, b, hb', eb⟩)
          · skip
            refine lv_iconst (v := 2) hx hb kd_Mo_samples_34 (by decide) ?_
            refine lv_goto (tgt := 39) hx hb kd_Mo_samples_35 (by decide) ?_
            refine rest _ _ _ _ (by simp [zv_sam, zf_in, *]) ?_ hl hI
            first
            | exact fun h => absurd h (by decide)
            | (intro _
               obtain ⟨a, ha, ea⟩ := zv_in (n := 7) (by decide) h2 h8
               obtain ⟨b, hb', eb⟩ := zv_in (n := 60) (by decide) h12 (Int32.not_lt.mpr h18)
               exact ⟨⟨a, by omega, ea⟩, b, hb', eb⟩)
        · skip
          refine lv_iconst (v := 1) hx hb kd_Mo_samples_21 (by decide) ?_
          refine lv_goto (tgt := 39) hx hb kd_Mo_samples_22 (by decide) ?_
          refine rest _ _ _ _ (by simp [zv_sam, zf_in, *]) ?_ hl hI
          first
          | exact fun h => absurd h (by decide)
          | (intro _
             obtain ⟨a, ha, ea⟩ := zv_in (n := 7) (by decide) h2 h8
             obtain ⟨b, hb', eb⟩ := zv_in (n := 60) (by decide) h12 (Int32.not_lt.mpr h18)
             exact ⟨⟨a, by omega, ea⟩, b, hb', eb⟩)
def zv_seal (M : zm_T) (t n : Int32) : Int32 := if zf_in t 0 7 = 0 then 1 else if zf_in n 1 64 = 0 then 2 else if M.1 153 t.toNatClampNeg ≤ 0 then 0 else 3
set_option maxRecDepth 100000 in
set_option maxHeartbeats 4000000 in
theorem c_Mo_seal (l : Launch) (G : zg_T) (M : zm_T) (hL : zL M.2) (t n : Int32) : Met l ky_Mo_seal (zr_ws ky_Mo_seal kc_Mo_seal 3 none) (zr_rm 0) (va_Pc [.ref (G.2.2.1 + 151), .int t, .int n] (zm_B G 183 zs M)) (va_Qv (fun (M' : zm_T) => M' = if zv_seal M t n = 0 then zm_ui (zm_ui M 151 0 0) 153 t.toNatClampNeg n else zm_ui M 151 0 (zv_seal M t n)) (zm_B G 183 zs) (zm_A G)) 0 0 (zm_A G) := by
  refine zr_met (by decide +kernel) (Nat.le_of_ble_eq_true rfl) ?_
  intro p0 e0 s0 m0 below meth c0 ls hS hK hlk hr hl hI
  have hx := hS.1
  have hb := hS.2.1
  have hl : zl_has ls 3 [some (.ref (G.2.2.1 + 151)), some (.int t), some (.int n)] := hl
  have rest : ∀ (v : Int32) (H : Heap) (locs : List Loc) (ls : Array Slot), v = zv_seal M t n → (v = 0 → vp_in t 8) → zl_has ls 3 [some (.ref (G.2.2.1 + 151)), some (.int t), some (.int n)] → zm_I G 183 zs M s0 H locs → W p0 l e0 (zr_rm 0) s0 m0 ([.ref (G.2.2.1 + 151), .int t, .int n] : List Value).toArray below meth c0 H locs 0 0 (MQ below (va_Qv (fun (M' : zm_T) => M' = if zv_seal M t n = 0 then zm_ui (zm_ui M 151 0 0) 153 t.toNatClampNeg n else zm_ui M 151 0 (zv_seal M t n)) (zm_B G 183 zs) (zm_A G)) ([.ref (G.2.2.1 + 151), .int t, .int n] : List Value).toArray s0 0 0 (zm_A G)) (F0 m0 44 ls [.int v, .ref (G.2.2.1 + 151)]) := by
    intro v H locs ls hv hin hl hI
    rw [← hv]
    refine zr_puti hS hK kf_Mo_101 hI ha_MO hs_MO rfl rfl kd_Mo_seal_44 (fun H locs hI => ?_)
    refine zr_aload_n hx hb kd_Mo_seal_47 hl rfl ?_
    refine zr_geti hS hK kf_Mo_101 hI ha_MO hs_MO kd_Mo_seal_48 ?_
    refine lv_if_ne (tgt := 61) hx hb kd_Mo_seal_51 (by decide) (fun h51 => ?_) (fun h51 => ?_)
    · skip
      exact zr_vret hS hK hlk hr hI kd_Mo_seal_61 (by
          rw [zm_ui_at] at h51
          first
          | rw [if_neg h51]
          | rw [if_pos h51, h51])
    · skip
      refine zr_aload_n hx hb kd_Mo_seal_54 hl rfl ?_
      refine zr_getr hS hK kf_Mo_13 hI ha_MO hs_MO (show _ = some 153 from zL_mo hL (k := 2) (by decide) (by decide)) kd_Mo_seal_55 ?_
      refine zr_iload_n hx hb kd_Mo_seal_58 hl rfl ?_
      refine zr_iload_n hx hb kd_Mo_seal_59 hl rfl ?_
      refine zr_iast hS hK hI ha_MO_2 hs_MO_2 (hin (by rw [zm_ui_at] at h51; exact h51)) kd_Mo_seal_60 (fun H locs hI => ?_)
      exact zr_vret hS hK hlk hr hI kd_Mo_seal_61 (by
          rw [zm_ui_at] at h51
          first
          | rw [if_neg h51]
          | rw [if_pos h51, h51])
  refine zr_aload_n hx hb kd_Mo_seal_0 hl rfl ?_
  refine zr_iload_n hx hb kd_Mo_seal_1 hl rfl ?_
  refine lv_if_lt (tgt := 11) hx hb kd_Mo_seal_2 (by decide) (fun h2 => ?_) (fun h2 => ?_)
  · skip
    refine lv_iconst (v := 1) hx hb kd_Mo_seal_11 (by decide) ?_
    refine lv_goto (tgt := 44) hx hb kd_Mo_seal_12 (by decide) ?_
    refine rest _ _ _ _ (by simp [zv_seal, zf_in, *]) ?_ hl hI
    first
    | exact fun h => absurd h (by decide)
    | exact fun _ => zv_vp (n := 7) (by decide) (by decide) h2 (Int32.not_lt.mpr h8)
  · skip
    refine zr_iload_n hx hb kd_Mo_seal_5 hl rfl ?_
    refine lv_bipush (v := 7) hx hb kd_Mo_seal_6 (by decide) ?_
    refine lv_icmp_le (tgt := 15) hx hb kd_Mo_seal_8 (by decide) (fun h8 => ?_) (fun h8 => ?_)
    · skip
      refine zr_iload_n hx hb kd_Mo_seal_15 hl rfl ?_
      refine lv_iconst (v := 1) hx hb kd_Mo_seal_16 (by decide) ?_
      refine lv_icmp_lt (tgt := 26) hx hb kd_Mo_seal_17 (by decide) (fun h17 => ?_) (fun h17 => ?_)
      · skip
        refine lv_iconst (v := 2) hx hb kd_Mo_seal_26 (by decide) ?_
        refine lv_goto (tgt := 44) hx hb kd_Mo_seal_27 (by decide) ?_
        refine rest _ _ _ _ (by simp [zv_seal, zf_in, *]) ?_ hl hI
        first
        | exact fun h => absurd h (by decide)
        | exact fun _ => zv_vp (n := 7) (by decide) (by decide) h2 (Int32.not_lt.mpr h8)
      · skip
        refine zr_iload_n hx hb kd_Mo_seal_20 hl rfl ?_
        refine lv_bipush (v := 64) hx hb kd_Mo_seal_21 (by decide) ?_
        refine lv_icmp_le (tgt := 30) hx hb kd_Mo_seal_23 (by decide) (fun h23 => ?_) (fun h23 => ?_)
        · skip
          refine zr_aload_n hx hb kd_Mo_seal_30 hl rfl ?_
          refine zr_getr hS hK kf_Mo_13 hI ha_MO hs_MO (show _ = some 153 from zL_mo hL (k := 2) (by decide) (by decide)) kd_Mo_seal_31 ?_
          refine zr_iload_n hx hb kd_Mo_seal_34 hl rfl ?_
          refine zr_iald hS hK hI ha_MO_2 hs_MO_2 (zv_vp (n := 7) (by decide) (by decide) h2 (Int32.not_lt.mpr h8)) kd_Mo_seal_35 ?_
          refine lv_if_le (tgt := 43) hx hb kd_Mo_seal_36 (by decide) (fun h36 => ?_) (fun h36 => ?_)
          · skip
            refine lv_iconst (v := 0) hx hb kd_Mo_seal_43 (by decide) ?_
            refine rest _ _ _ _ (by simp [zv_seal, zf_in, *]) ?_ hl hI
            first
            | exact fun h => absurd h (by decide)
            | exact fun _ => zv_vp (n := 7) (by decide) (by decide) h2 (Int32.not_lt.mpr h8)
          · skip
            refine lv_iconst (v := 3) hx hb kd_Mo_seal_39 (by decide) ?_
            refine lv_goto (tgt := 44) hx hb kd_Mo_seal_40 (by decide) ?_
            refine rest _ _ _ _ (by simp [zv_seal, zf_in, *]) ?_ hl hI
            first
            | exact fun h => absurd h (by decide)
            | exact fun _ => zv_vp (n := 7) (by decide) (by decide) h2 (Int32.not_lt.mpr h8)
        · skip
          refine lv_iconst (v := 2) hx hb kd_Mo_seal_26 (by decide) ?_
          refine lv_goto (tgt := 44) hx hb kd_Mo_seal_27 (by decide) ?_
          refine rest _ _ _ _ (by simp [zv_seal, zf_in, *]) ?_ hl hI
          first
          | exact fun h => absurd h (by decide)
          | exact fun _ => zv_vp (n := 7) (by decide) (by decide) h2 (Int32.not_lt.mpr h8)
    · skip
      refine lv_iconst (v := 1) hx hb kd_Mo_seal_11 (by decide) ?_
      refine lv_goto (tgt := 44) hx hb kd_Mo_seal_12 (by decide) ?_
      refine rest _ _ _ _ (by simp [zv_seal, zf_in, *]) ?_ hl hI
      first
      | exact fun h => absurd h (by decide)
      | exact fun _ => zv_vp (n := 7) (by decide) (by decide) h2 (Int32.not_lt.mpr h8)

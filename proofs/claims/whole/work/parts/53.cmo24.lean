/-! The reference's public methods: bounces. -/
def zg_c16 (x : Int32) : Int32 := if (-32768 : Int32) ≤ x then (if x ≤ 32767 then x else 32767) else -32768
def zg_ot (M : zm_T) (t : Nat) : Prop := t ≤ 8 ∧ (∀ u, u < t → ¬ M.1 153 u ≤ 0) ∧ (t < 8 → M.1 153 t ≤ 0)
set_option maxRecDepth 100000 in
set_option maxHeartbeats 4000000 in
theorem c_Mo_bounce (l : Launch) (G : zg_T) (M : zm_T) (hL : zL M.2) (fn : Nat → Nat) (sv f n : Int32) (hok : zR_ok M fn) : Met l ky_Mo_bounce (zr_ws ky_Mo_bounce kc_Mo_bounce 7 (some .int)) (zr_rm 6) (va_Pc [.ref (G.2.2.1 + 151), .int sv, .int f, .int n] (zm_B G 183 zs M)) (va_Qi (fun (r : Int32) (M' : zm_T) => ((zf_in sv 0 7 = 0 ∨ zf_blk f n = 0) ∧ M' = zm_ui M 151 0 1) ∨ (¬ (zf_in sv 0 7 = 0 ∨ zf_blk f n = 0) ∧ ∃ t, zg_ot M t ∧ ((t = 8 ∧ r = -1 ∧ M' = zm_ui M 151 0 0) ∨ (t < 8 ∧ r = nI t ∧ ∃ M2, zR_post (zm_ui M 151 0 0) M2 fn f.toNatClampNeg n.toNatClampNeg ∧ M' = zm_ui (zm_seg M2 152 (64 * t) n.toNatClampNeg (fun i => zg_c16 (M2.1 181 (64 * sv.toNatClampNeg + i)))) 153 t n)))) (zm_B G 183 zs) (zm_A G)) 0 0 (zm_A G) := by
  refine zr_met (by decide +kernel) (Nat.le_of_ble_eq_true rfl) ?_
  intro p0 e0 s0 m0 below meth c0 ls hS hK hlk hr hl hI
  have hx := hS.1
  have hb := hS.2.1
  have hl : zl_has ls 7 [some (.ref (G.2.2.1 + 151)), some (.int sv), some (.int f), some (.int n), none, none, none] := hl
  have rest : ∀ (v : Int32) (H : Heap) (locs : List Loc) (ls : Array Slot), (v = if zf_in sv 0 7 = 0 ∨ zf_blk f n = 0 then 1 else 0) → zl_has ls 7 [some (.ref (G.2.2.1 + 151)), some (.int sv), some (.int f), some (.int n), none, none, none] → zm_I G 183 zs M s0 H locs → W p0 l e0 (zr_rm 6) s0 m0 ([.ref (G.2.2.1 + 151), .int sv, .int f, .int n] : List Value).toArray below meth c0 H locs 0 0 (MQ below (va_Qi (fun (r : Int32) (M' : zm_T) => ((zf_in sv 0 7 = 0 ∨ zf_blk f n = 0) ∧ M' = zm_ui M 151 0 1) ∨ (¬ (zf_in sv 0 7 = 0 ∨ zf_blk f n = 0) ∧ ∃ t, zg_ot M t ∧ ((t = 8 ∧ r = -1 ∧ M' = zm_ui M 151 0 0) ∨ (t < 8 ∧ r = nI t ∧ ∃ M2, zR_post (zm_ui M 151 0 0) M2 fn f.toNatClampNeg n.toNatClampNeg ∧ M' = zm_ui (zm_seg M2 152 (64 * t) n.toNatClampNeg (fun i => zg_c16 (M2.1 181 (64 * sv.toNatClampNeg + i)))) 153 t n)))) (zm_B G 183 zs) (zm_A G)) ([.ref (G.2.2.1 + 151), .int sv, .int f, .int n] : List Value).toArray s0 0 0 (zm_A G)) (F0 m0 21 ls [.int v, .ref (G.2.2.1 + 151)]) := by
    intro v H locs ls hv hl hI
    by_cases hz : zf_in sv 0 7 = 0 ∨ zf_blk f n = 0
    · rw [if_pos hz] at hv
      subst hv
      refine zr_puti hS hK kf_Mo_101 hI ha_MO hs_MO rfl rfl kd_Mo_bounce_21 (fun H locs hI => ?_)
      refine zr_aload_n hx hb kd_Mo_bounce_24 hl rfl ?_
      refine zr_geti hS hK kf_Mo_101 hI ha_MO hs_MO kd_Mo_bounce_25 ?_
      refine lv_if_le (tgt := 33) hx hb kd_Mo_bounce_28 (by decide) (fun h28 => absurd h28 ((by rw [zm_ui_at]; decide))) (fun h28 => ?_)
      refine lv_iconst (v := 0) hx hb kd_Mo_bounce_31 (by decide) ?_
      exact zr_iret hS hK hlk hr hI kd_Mo_bounce_32 (Or.inl ⟨hz, rfl⟩)
    · rw [if_neg hz] at hv
      subst hv
      obtain ⟨s, hs8, es⟩ : ∃ s, s < 8 ∧ sv = nI s := by
        obtain ⟨a, ha, ea⟩ := zf_in_n (n := 7) (hi := 7) (by decide) (fun g => hz (Or.inl g))
        exact ⟨a, by omega, ea⟩
      obtain ⟨fa, na, ef, en, hab, hb64, hb1⟩ := zf_blk_n (fun g => hz (Or.inr g))
      have cs : sv.toNatClampNeg = s := by rw [es]; exact zn_cl (by omega)
      have cf : f.toNatClampNeg = fa := by rw [ef]; exact zn_cl (by omega)
      have cn : n.toNatClampNeg = na := by rw [en]; exact zn_cl (by omega)
      have e1 : ∀ p j, p ≠ 151 → (zm_ui M 151 0 0).1 p j = M.1 p j := fun p j h => zm_ui_ne (Or.inl h)
      have hok1 : zR_ok (zm_ui M 151 0 0) fn := zR_ok_c (fun c j h1 h2 => e1 _ _ (by omega)) hok
      have hren := c_Mo_renderAll l G (zm_ui M 151 0 0) hL fn fa na hab hb64 hok1
      rw [← ef, ← en] at hren
      have copy : ∀ (t : Nat) (M2 : zm_T), t < 8 → zg_ot M t → zR_post (zm_ui M 151 0 0) M2 fn fa na → ∀ (q i : Nat) (o6 : Option Value) (H : Heap) (locs : List Loc) (ls : Array Slot), i + q = na → zl_has ls 7 [some (.ref (G.2.2.1 + 151)), some (.int sv), some (.int f), some (.int n), some (.int (nI t)), some (.int (nI i)), o6] → zm_I G 183 zs (zm_seg M2 152 (64 * t) i (fun i => zg_c16 (M2.1 181 (64 * s + i)))) s0 H locs → W p0 l e0 (zr_rm 6) s0 m0 ([.ref (G.2.2.1 + 151), .int sv, .int f, .int n] : List Value).toArray below meth c0 H locs 0 0 (MQ below (va_Qi (fun (r : Int32) (M' : zm_T) => ((zf_in sv 0 7 = 0 ∨ zf_blk f n = 0) ∧ M' = zm_ui M 151 0 1) ∨ (¬ (zf_in sv 0 7 = 0 ∨ zf_blk f n = 0) ∧ ∃ t, zg_ot M t ∧ ((t = 8 ∧ r = -1 ∧ M' = zm_ui M 151 0 0) ∨ (t < 8 ∧ r = nI t ∧ ∃ M2, zR_post (zm_ui M 151 0 0) M2 fn f.toNatClampNeg n.toNatClampNeg ∧ M' = zm_ui (zm_seg M2 152 (64 * t) n.toNatClampNeg (fun i => zg_c16 (M2.1 181 (64 * sv.toNatClampNeg + i)))) 153 t n)))) (zm_B G 183 zs) (zm_A G)) ([.ref (G.2.2.1 + 151), .int sv, .int f, .int n] : List Value).toArray s0 0 0 (zm_A G)) (F0 m0 77 ls []) := by
        intro t M2 ht8 hot hpost q
        have hL2 : ∀ i g, zL (zm_seg M2 152 (64 * t) i g).2 := fun i g => by
          have : (zm_seg M2 152 (64 * t) i g).2 = M.2 := hpost.1
          rw [this]; exact hL
        induction q with
        | zero =>
          intro i o6 H locs ls hi hl hI
          obtain rfl : i = na := by omega
          refine zr_iload hx hb kd_Mo_bounce_77 hl rfl ?_
          refine zr_iload_n hx hb kd_Mo_bounce_79 hl rfl ?_
          refine lv_icmp_ge (tgt := 146) hx hb kd_Mo_bounce_80 (by decide) (fun h80 => ?_) (fun h80 => absurd ((by rw [en]; exact Int32.le_refl _)) h80)
          refine zr_aload_n hx hb kd_Mo_bounce_146 hl rfl ?_
          refine zr_getr hS hK kf_Mo_13 hI ha_MO hs_MO (show _ = some 153 from zL_mo (hL2 i _) (k := 2) (by decide) (by decide)) kd_Mo_bounce_147 ?_
          refine zr_iload hx hb kd_Mo_bounce_150 hl rfl ?_
          refine zr_iload_n hx hb kd_Mo_bounce_152 hl rfl ?_
          refine zr_iast hS hK hI ha_MO_2 hs_MO_2 (vp_in_nI (by omega) (by decide)) kd_Mo_bounce_153 (fun H locs hI => ?_)
          refine zr_iload hx hb kd_Mo_bounce_154 hl rfl ?_
          exact zr_iret hS hK hlk hr hI kd_Mo_bounce_156 (Or.inr ⟨hz, t, hot, Or.inr ⟨ht8, rfl, M2, by rw [cf, cn]; exact hpost, by rw [zn_cl (by omega), cn, cs]⟩⟩)
        | succ q ih =>
          intro i o6 H locs ls hi hl hI
          have ix : (64 : Int32) * sv + nI i = nI (64 * s + i) := by rw [es, show (64 : Int32) = nI 64 from rfl, zn_mulI, nI_add]
          have cx : (nI (64 * s + i)).toNatClampNeg = 64 * s + i := zn_cl (by omega)
          have iy : (64 : Int32) * nI t + nI i = nI (64 * t + i) := by rw [show (64 : Int32) = nI 64 from rfl, zn_mulI, nI_add]
          have cy : (nI (64 * t + i)).toNatClampNeg = 64 * t + i := zn_cl (by omega)
          refine zr_iload hx hb kd_Mo_bounce_77 hl rfl ?_
          refine zr_iload_n hx hb kd_Mo_bounce_79 hl rfl ?_
          refine lv_icmp_ge (tgt := 146) hx hb kd_Mo_bounce_80 (by decide) (fun h80 => absurd h80 ((by rw [en]; exact nI_ge (by omega) (by omega)))) (fun h80 => ?_)
          refine zr_aload_n hx hb kd_Mo_bounce_83 hl rfl ?_
          refine zr_getr hS hK kf_Mo_98 hI ha_MO hs_MO (show _ = some 181 from zL_mo (hL2 i _) (k := 30) (by decide) (by decide)) kd_Mo_bounce_84 ?_
          refine lv_bipush (v := 64) hx hb kd_Mo_bounce_87 (by decide) ?_
          refine zr_iload_n hx hb kd_Mo_bounce_89 hl rfl ?_
          refine lv_imul hx hb kd_Mo_bounce_90 ?_
          refine zr_iload hx hb kd_Mo_bounce_91 hl rfl ?_
          refine lv_iadd hx hb kd_Mo_bounce_93 ?_
          rw [ix]
          refine zr_iald hS hK hI ha_MO_30 hs_MO_30 (vp_in_nI (by omega) (by decide)) kd_Mo_bounce_94 ?_
          rw [cx, zm_seg_out (Or.inl (by decide))]
          refine zr_istore hx hb kd_Mo_bounce_95 hl (by decide) rfl (fun ls hl => ?_)
          refine zr_aload_n hx hb kd_Mo_bounce_97 hl rfl ?_
          refine zr_getr hS hK kf_Mo_7 hI ha_MO hs_MO (show _ = some 152 from zL_mo (hL2 i _) (k := 1) (by decide) (by decide)) kd_Mo_bounce_98 ?_
          refine lv_bipush (v := 64) hx hb kd_Mo_bounce_101 (by decide) ?_
          refine zr_iload hx hb kd_Mo_bounce_103 hl rfl ?_
          refine lv_imul hx hb kd_Mo_bounce_105 ?_
          refine zr_iload hx hb kd_Mo_bounce_106 hl rfl ?_
          refine lv_iadd hx hb kd_Mo_bounce_108 ?_
          refine zr_iload hx hb kd_Mo_bounce_109 hl rfl ?_
          refine lv_sipush (v := -32768) hx hb kd_Mo_bounce_111 (by decide) ?_
          refine lv_icmp_ge (tgt := 123) hx hb kd_Mo_bounce_114 (by decide) (fun h114 => ?_) (fun h114 => ?_)
          · skip
            refine zr_iload hx hb kd_Mo_bounce_123 hl rfl ?_
            refine lv_sipush (v := 32767) hx hb kd_Mo_bounce_125 (by decide) ?_
            refine lv_icmp_le (tgt := 137) hx hb kd_Mo_bounce_128 (by decide) (fun h128 => ?_) (fun h128 => ?_)
            · skip
              refine zr_iload hx hb kd_Mo_bounce_137 hl rfl ?_
              rw [iy]
              refine zr_iast hS hK hI ha_MO_1 hs_MO_1 (vp_in_nI (by omega) (by decide)) kd_Mo_bounce_139 (fun H locs hI => ?_)
              refine zr_iinc hx hb kd_Mo_bounce_140 hl (by decide) rfl rfl (fun ls hl => ?_)
              refine lv_goto (tgt := 77) hx hb kd_Mo_bounce_143 (by decide) ?_
              rw [cy] at hI
              refine ih (i + 1) _ H locs ls (by omega) (by rw [nI_succ]; exact hl) ?_
              rw [← zm_seg_s]
              first
              | (rw [show zg_c16 (M2.1 181 (64 * s + i)) = M2.1 181 (64 * s + i) from by unfold zg_c16; rw [if_pos h114, if_pos h128]]; exact hI)
              | (rw [show zg_c16 (M2.1 181 (64 * s + i)) = 32767 from by unfold zg_c16; rw [if_pos h114, if_neg h128]]; exact hI)
              | (rw [show zg_c16 (M2.1 181 (64 * s + i)) = -32768 from by unfold zg_c16; rw [if_neg h114]]; exact hI)
            · skip
              refine lv_sipush (v := 32767) hx hb kd_Mo_bounce_131 (by decide) ?_
              refine lv_goto (tgt := 139) hx hb kd_Mo_bounce_134 (by decide) ?_
              rw [iy]
              refine zr_iast hS hK hI ha_MO_1 hs_MO_1 (vp_in_nI (by omega) (by decide)) kd_Mo_bounce_139 (fun H locs hI => ?_)
              refine zr_iinc hx hb kd_Mo_bounce_140 hl (by decide) rfl rfl (fun ls hl => ?_)
              refine lv_goto (tgt := 77) hx hb kd_Mo_bounce_143 (by decide) ?_
              rw [cy] at hI
              refine ih (i + 1) _ H locs ls (by omega) (by rw [nI_succ]; exact hl) ?_
              rw [← zm_seg_s]
              first
              | (rw [show zg_c16 (M2.1 181 (64 * s + i)) = M2.1 181 (64 * s + i) from by unfold zg_c16; rw [if_pos h114, if_pos h128]]; exact hI)
              | (rw [show zg_c16 (M2.1 181 (64 * s + i)) = 32767 from by unfold zg_c16; rw [if_pos h114, if_neg h128]]; exact hI)
              | (rw [show zg_c16 (M2.1 181 (64 * s + i)) = -32768 from by unfold zg_c16; rw [if_neg h114]]; exact hI)
          · skip
            refine lv_sipush (v := -32768) hx hb kd_Mo_bounce_117 (by decide) ?_
            refine lv_goto (tgt := 139) hx hb kd_Mo_bounce_120 (by decide) ?_
            rw [iy]
            refine zr_iast hS hK hI ha_MO_1 hs_MO_1 (vp_in_nI (by omega) (by decide)) kd_Mo_bounce_139 (fun H locs hI => ?_)
            refine zr_iinc hx hb kd_Mo_bounce_140 hl (by decide) rfl rfl (fun ls hl => ?_)
            refine lv_goto (tgt := 77) hx hb kd_Mo_bounce_143 (by decide) ?_
            rw [cy] at hI
            refine ih (i + 1) _ H locs ls (by omega) (by rw [nI_succ]; exact hl) ?_
            rw [← zm_seg_s]
            first
            | (rw [show zg_c16 (M2.1 181 (64 * s + i)) = M2.1 181 (64 * s + i) from by unfold zg_c16; rw [if_pos h114, if_pos h128]]; exact hI)
            | (rw [show zg_c16 (M2.1 181 (64 * s + i)) = 32767 from by unfold zg_c16; rw [if_pos h114, if_neg h128]]; exact hI)
            | (rw [show zg_c16 (M2.1 181 (64 * s + i)) = -32768 from by unfold zg_c16; rw [if_neg h114]]; exact hI)
      have find : ∀ (q t : Nat) (H : Heap) (locs : List Loc) (ls : Array Slot), t + q = 8 → (∀ u, u < t → ¬ M.1 153 u ≤ 0) → zl_has ls 7 [some (.ref (G.2.2.1 + 151)), some (.int sv), some (.int f), some (.int n), some (.int (nI t)), none, none] → zm_I G 183 zs (zm_ui M 151 0 0) s0 H locs → W p0 l e0 (zr_rm 6) s0 m0 ([.ref (G.2.2.1 + 151), .int sv, .int f, .int n] : List Value).toArray below meth c0 H locs 0 0 (MQ below (va_Qi (fun (r : Int32) (M' : zm_T) => ((zf_in sv 0 7 = 0 ∨ zf_blk f n = 0) ∧ M' = zm_ui M 151 0 1) ∨ (¬ (zf_in sv 0 7 = 0 ∨ zf_blk f n = 0) ∧ ∃ t, zg_ot M t ∧ ((t = 8 ∧ r = -1 ∧ M' = zm_ui M 151 0 0) ∨ (t < 8 ∧ r = nI t ∧ ∃ M2, zR_post (zm_ui M 151 0 0) M2 fn f.toNatClampNeg n.toNatClampNeg ∧ M' = zm_ui (zm_seg M2 152 (64 * t) n.toNatClampNeg (fun i => zg_c16 (M2.1 181 (64 * sv.toNatClampNeg + i)))) 153 t n)))) (zm_B G 183 zs) (zm_A G)) ([.ref (G.2.2.1 + 151), .int sv, .int f, .int n] : List Value).toArray s0 0 0 (zm_A G)) (F0 m0 36 ls []) := by
        intro q
        induction q with
        | zero =>
          intro t H locs ls ht hlow hl hI
          obtain rfl : t = 8 := by omega
          refine zr_iload hx hb kd_Mo_bounce_36 hl rfl ?_
          refine lv_bipush (v := 8) hx hb kd_Mo_bounce_38 (by decide) ?_
          refine lv_icmp_ge (tgt := 59) hx hb kd_Mo_bounce_40 (by decide) (fun h40 => ?_) (fun h40 => absurd (by decide) h40)
          refine zr_iload hx hb kd_Mo_bounce_59 hl rfl ?_
          refine lv_bipush (v := 8) hx hb kd_Mo_bounce_61 (by decide) ?_
          refine lv_icmp_ne (tgt := 68) hx hb kd_Mo_bounce_63 (by decide) (fun h63 => absurd (rfl) h63) (fun h63 => ?_)
          refine lv_iconst (v := -1) hx hb kd_Mo_bounce_66 (by decide) ?_
          exact zr_iret hS hK hlk hr hI kd_Mo_bounce_67 (Or.inr ⟨hz, 8, ⟨by omega, hlow, fun h => absurd h (by omega)⟩, Or.inl ⟨rfl, rfl, rfl⟩⟩)
        | succ q ih =>
          intro t H locs ls ht hlow hl hI
          have ct : (nI t).toNatClampNeg = t := zn_cl (by omega)
          refine zr_iload hx hb kd_Mo_bounce_36 hl rfl ?_
          refine lv_bipush (v := 8) hx hb kd_Mo_bounce_38 (by decide) ?_
          refine lv_icmp_ge (tgt := 59) hx hb kd_Mo_bounce_40 (by decide) (fun h40 => absurd h40 (zn_ge (n := 8) rfl (by omega) (by decide))) (fun h40 => ?_)
          refine zr_aload_n hx hb kd_Mo_bounce_43 hl rfl ?_
          refine zr_getr hS hK kf_Mo_13 hI ha_MO hs_MO (show _ = some 153 from zL_mo hL (k := 2) (by decide) (by decide)) kd_Mo_bounce_44 ?_
          refine zr_iload hx hb kd_Mo_bounce_47 hl rfl ?_
          refine zr_iald hS hK hI ha_MO_2 hs_MO_2 (vp_in_nI (by omega) (by decide)) kd_Mo_bounce_49 ?_
          rw [ct, e1 153 _ (by decide)]
          refine lv_if_le (tgt := 59) hx hb kd_Mo_bounce_50 (by decide) (fun h50 => ?_) (fun h50 => ?_)
          · skip
            refine zr_iload hx hb kd_Mo_bounce_59 hl rfl ?_
            refine lv_bipush (v := 8) hx hb kd_Mo_bounce_61 (by decide) ?_
            refine lv_icmp_ne (tgt := 68) hx hb kd_Mo_bounce_63 (by decide) (fun h63 => ?_) (fun h63 => absurd h63 ((fun h => absurd ((nI_eq (by omega) (by omega)).mp (show nI t = nI 8 from h)) (by omega))))
            refine zr_aload_n hx hb kd_Mo_bounce_68 hl rfl ?_
            refine zr_iload_n hx hb kd_Mo_bounce_69 hl rfl ?_
            refine zr_iload_n hx hb kd_Mo_bounce_70 hl rfl ?_
            refine zr_cv (zr_runV hS hK (hren) km_Mo_203 hI ha_MO hs_MO rfl hl.1 (Nat.le_of_ble_eq_true rfl) (by decide) (by decide) kd_Mo_bounce_71 rfl) hI (fun M71 H locs hp71 hI => ?_)
            skip
            refine lv_iconst (v := 0) hx hb kd_Mo_bounce_74 (by decide) ?_
            refine zr_istore hx hb kd_Mo_bounce_75 hl (by decide) rfl (fun ls hl => ?_)
            exact copy t M71 (by omega) ⟨by omega, hlow, fun _ => h50⟩ hp71 na 0 _ H locs _ (by omega) hl (by rw [zm_seg_0]; exact hI)
          · skip
            refine zr_iinc hx hb kd_Mo_bounce_53 hl (by decide) rfl rfl (fun ls hl => ?_)
            refine lv_goto (tgt := 36) hx hb kd_Mo_bounce_56 (by decide) ?_
            refine ih (t + 1) H locs ls (by omega) (fun u hu => ?_) (by rw [nI_succ]; exact hl) hI
            by_cases e : u = t
            · subst e; exact h50
            · exact hlow u (by omega)
      refine zr_puti hS hK kf_Mo_101 hI ha_MO hs_MO rfl rfl kd_Mo_bounce_21 (fun H locs hI => ?_)
      refine zr_aload_n hx hb kd_Mo_bounce_24 hl rfl ?_
      refine zr_geti hS hK kf_Mo_101 hI ha_MO hs_MO kd_Mo_bounce_25 ?_
      refine lv_if_le (tgt := 33) hx hb kd_Mo_bounce_28 (by decide) (fun h28 => ?_) (fun h28 => absurd ((by rw [zm_ui_at]; decide)) h28)
      refine lv_iconst (v := 0) hx hb kd_Mo_bounce_33 (by decide) ?_
      refine zr_istore hx hb kd_Mo_bounce_34 hl (by decide) rfl (fun ls hl => ?_)
      exact find 8 0 _ _ _ (by omega) (fun u hu => absurd hu (by omega)) hl hI
  refine zr_aload_n hx hb kd_Mo_bounce_0 hl rfl ?_
  refine zr_iload_n hx hb kd_Mo_bounce_1 hl rfl ?_
  refine zr_ci (zr_runS hS hK (c_Mo_noStrip l G 183 zs M _) km_Mo_141 hI rfl hl.1 (Nat.le_of_ble_eq_true rfl) (by decide) (by decide) kd_Mo_bounce_2 rfl) hI (fun r2 M2 H locs hp2 hI => ?_)
  obtain ⟨rfl, hM2⟩ := hp2
  rw [hM2] at hI
  refine lv_if_ne (tgt := 16) hx hb kd_Mo_bounce_5 (by decide) (fun h5 => ?_) (fun h5 => ?_)
  · skip
    refine lv_iconst (v := 1) hx hb kd_Mo_bounce_16 (by decide) ?_
    refine lv_goto (tgt := 21) hx hb kd_Mo_bounce_17 (by decide) ?_
    refine rest _ _ _ _ ?_ hl hI
    first
    | (rw [if_neg (fun g => g.elim (zv_01 h5) (fun g => by rw [if_pos g] at h13; exact absurd h13 (by decide)))]; done)
    | (rw [if_pos (Or.inr (Decidable.byContradiction (fun g => h13 (if_neg g))))]; done)
    | (rw [if_pos (Or.inl (zv_10 h5))]; done)
  · skip
    refine zr_iload_n hx hb kd_Mo_bounce_8 hl rfl ?_
    refine zr_iload_n hx hb kd_Mo_bounce_9 hl rfl ?_
    refine zr_ci (zr_runS hS hK (c_Mo_noBlock l G 183 zs M _ _) km_Mo_200 hI rfl hl.1 (Nat.le_of_ble_eq_true rfl) (by decide) (by decide) kd_Mo_bounce_10 rfl) hI (fun r10 M10 H locs hp10 hI => ?_)
    obtain ⟨rfl, hM10⟩ := hp10
    rw [hM10] at hI
    refine lv_if_eq (tgt := 20) hx hb kd_Mo_bounce_13 (by decide) (fun h13 => ?_) (fun h13 => ?_)
    · skip
      refine lv_iconst (v := 0) hx hb kd_Mo_bounce_20 (by decide) ?_
      refine rest _ _ _ _ ?_ hl hI
      first
      | (rw [if_neg (fun g => g.elim (zv_01 h5) (fun g => by rw [if_pos g] at h13; exact absurd h13 (by decide)))]; done)
      | (rw [if_pos (Or.inr (Decidable.byContradiction (fun g => h13 (if_neg g))))]; done)
      | (rw [if_pos (Or.inl (zv_10 h5))]; done)
    · skip
      refine lv_iconst (v := 1) hx hb kd_Mo_bounce_16 (by decide) ?_
      refine lv_goto (tgt := 21) hx hb kd_Mo_bounce_17 (by decide) ?_
      refine rest _ _ _ _ ?_ hl hI
      first
      | (rw [if_neg (fun g => g.elim (zv_01 h5) (fun g => by rw [if_pos g] at h13; exact absurd h13 (by decide)))]; done)
      | (rw [if_pos (Or.inr (Decidable.byContradiction (fun g => h13 (if_neg g))))]; done)
      | (rw [if_pos (Or.inl (zv_10 h5))]; done)

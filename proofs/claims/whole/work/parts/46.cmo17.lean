/-! The reference's public methods: routes and sends. -/
theorem zv_inb {x lo hi : Int32} {a b : Nat} (hl : lo.toInt = a) (hh : hi.toInt = b) (h : ¬ zf_in x lo hi = 0) : ∃ n : Nat, a ≤ n ∧ n ≤ b ∧ x = nI n := by
  have h1 := zf_in_b h
  have := Int32.toInt_lt x
  exact ⟨x.toInt.toNat, by omega, by omega, Int32.toInt_inj.mp (by rw [nI_toInt (by omega)]; omega)⟩
def zv_rt (s t : Int32) : Int32 := if zf_in s 0 6 = 0 then 1 else if zf_in t 4 7 = 0 then 1 else 0
set_option maxRecDepth 100000 in
set_option maxHeartbeats 4000000 in
theorem c_Mo_route (l : Launch) (G : zg_T) (M : zm_T) (hL : zL M.2) (s t : Int32) : Met l ky_Mo_route (zr_ws ky_Mo_route kc_Mo_route 4 (some .boolean)) (zr_rm 2) (va_Pc [.ref (G.2.2.1 + 151), .int s, .int t] (zm_B G 183 zs M)) (va_Qi (fun (r : Int32) (M' : zm_T) => (zv_rt s t = 1 ∧ M' = zm_ui M 151 0 1) ∨ (zv_rt s t = 0 ∧ ∃ M2, zm_only (zm_ui (zm_ui M 151 0 0) 163 s.toNatClampNeg t) M2 175 ∧ ((r = 1 ∧ ¬ gq_T (zgf (zm_ui (zm_ui M 151 0 0) 163 s.toNatClampNeg t)) s.toNatClampNeg s.toNatClampNeg ∧ M' = M2) ∨ (r = 0 ∧ gq_T (zgf (zm_ui (zm_ui M 151 0 0) 163 s.toNatClampNeg t)) s.toNatClampNeg s.toNatClampNeg ∧ M' = zm_ui M2 163 s.toNatClampNeg (M.1 163 s.toNatClampNeg))))) (zm_B G 183 zs) (zm_A G)) 0 0 (zm_A G) := by
  refine zr_met (by decide +kernel) (Nat.le_of_ble_eq_true rfl) ?_
  intro p0 e0 s0 m0 below meth c0 ls hS hK hlk hr hl hI
  have hx := hS.1
  have hb := hS.2.1
  have hl : zl_has ls 4 [some (.ref (G.2.2.1 + 151)), some (.int s), some (.int t), none] := hl
  have rest : ∀ (v : Int32) (H : Heap) (locs : List Loc) (ls : Array Slot), v = zv_rt s t → zl_has ls 4 [some (.ref (G.2.2.1 + 151)), some (.int s), some (.int t), none] → zm_I G 183 zs M s0 H locs → W p0 l e0 (zr_rm 2) s0 m0 ([.ref (G.2.2.1 + 151), .int s, .int t] : List Value).toArray below meth c0 H locs 0 0 (MQ below (va_Qi (fun (r : Int32) (M' : zm_T) => (zv_rt s t = 1 ∧ M' = zm_ui M 151 0 1) ∨ (zv_rt s t = 0 ∧ ∃ M2, zm_only (zm_ui (zm_ui M 151 0 0) 163 s.toNatClampNeg t) M2 175 ∧ ((r = 1 ∧ ¬ gq_T (zgf (zm_ui (zm_ui M 151 0 0) 163 s.toNatClampNeg t)) s.toNatClampNeg s.toNatClampNeg ∧ M' = M2) ∨ (r = 0 ∧ gq_T (zgf (zm_ui (zm_ui M 151 0 0) 163 s.toNatClampNeg t)) s.toNatClampNeg s.toNatClampNeg ∧ M' = zm_ui M2 163 s.toNatClampNeg (M.1 163 s.toNatClampNeg))))) (zm_B G 183 zs) (zm_A G)) ([.ref (G.2.2.1 + 151), .int s, .int t] : List Value).toArray s0 0 0 (zm_A G)) (F0 m0 27 ls [.int v, .ref (G.2.2.1 + 151)]) := by
    intro v H locs ls hv hl hI
    have v01 : v = 0 ∨ v = 1 := by rw [hv]; unfold zv_rt; (repeat' split) <;> simp
    rcases v01 with rfl | rfl
    · have hin : ∃ a, a < 7 ∧ s = nI a := by
        unfold zv_rt at hv
        by_cases g1 : zf_in s 0 6 = 0
        · rw [if_pos g1] at hv; exact absurd hv (by decide)
        obtain ⟨a, ha, ea⟩ := zf_in_n (n := 6) (by decide) g1
        exact ⟨a, by omega, ea⟩
      obtain ⟨a, ha, rfl⟩ := hin
      have ca : (nI a).toNatClampNeg = a := zn_cl (by omega)
      have e9 : (9 : Int32) * nI a = nI (9 * a) := by rw [show (9 : Int32) = nI 9 from rfl, zn_mulI]
      have c9 : (nI (9 * a)).toNatClampNeg = 9 * a := zn_cl (by omega)
      rw [ca]
      refine zr_puti hS hK kf_Mo_101 hI ha_MO hs_MO rfl rfl kd_Mo_route_27 (fun H locs hI => ?_)
      refine zr_aload_n hx hb kd_Mo_route_30 hl rfl ?_
      refine zr_geti hS hK kf_Mo_101 hI ha_MO hs_MO kd_Mo_route_31 ?_
      refine lv_if_le (tgt := 39) hx hb kd_Mo_route_34 (by decide) (fun h34 => ?_) (fun h34 => absurd (by rw [zm_ui_at]; decide) h34)
      refine zr_aload_n hx hb kd_Mo_route_39 hl rfl ?_
      refine zr_getr hS hK kf_Mo_44 hI ha_MO hs_MO (show _ = some 163 from zL_mo hL (k := 12) (by decide) (by decide)) kd_Mo_route_40 ?_
      refine zr_iload_n hx hb kd_Mo_route_43 hl rfl ?_
      refine zr_iald hS hK hI ha_MO_12 hs_MO_12 (vp_in_nI (by omega) (by decide)) kd_Mo_route_44 ?_
      refine zr_istore_n hx hb kd_Mo_route_45 hl (by decide) rfl (fun ls hl => ?_)
      refine zr_aload_n hx hb kd_Mo_route_46 hl rfl ?_
      refine zr_getr hS hK kf_Mo_44 hI ha_MO hs_MO (show _ = some 163 from zL_mo hL (k := 12) (by decide) (by decide)) kd_Mo_route_47 ?_
      refine zr_iload_n hx hb kd_Mo_route_50 hl rfl ?_
      refine zr_iload_n hx hb kd_Mo_route_51 hl rfl ?_
      refine zr_iast hS hK hI ha_MO_12 hs_MO_12 (vp_in_nI (by omega) (by decide)) kd_Mo_route_52 (fun H locs hI => ?_)
      refine zr_aload_n hx hb kd_Mo_route_53 hl rfl ?_
      rw [ca] at hI
      refine zr_cv (zr_runV hS hK (c_Mo_findReach l G (zm_ui (zm_ui M 151 0 0) 163 a t) hL) km_Mo_137 hI ha_MO hs_MO rfl hl.1 (Nat.le_of_ble_eq_true rfl) (by decide) (by decide) kd_Mo_route_54 rfl) hI (fun M54 H locs hp54 hI => ?_)
      obtain ⟨w1, w2⟩ := hp54
      have hL2 : zL M54.2 := by rw [w1.1]; exact hL
      have h9 : zt_is (M54.1 175 (9 * a)) (gq_T (zgf (zm_ui (zm_ui M 151 0 0) 163 a t)) a a) := by
        have := w2 (9 * a) (by omega)
        rw [show 9 * a / 8 = a by omega, show 9 * a % 8 = a by omega] at this
        exact this
      refine zr_aload_n hx hb kd_Mo_route_57 hl rfl ?_
      refine zr_getr hS hK kf_Mo_80 hI ha_MO hs_MO (show _ = some 175 from zL_mo hL2 (k := 24) (by decide) (by decide)) kd_Mo_route_58 ?_
      refine lv_bipush (v := 9) hx hb kd_Mo_route_61 (by decide) ?_
      refine zr_iload_n hx hb kd_Mo_route_63 hl rfl ?_
      refine lv_imul hx hb kd_Mo_route_64 ?_
      rw [e9]
      refine zr_zald hS hK hI ha_MO_24 hs_MO_24 (vp_in_nI (by omega) (by decide)) kd_Mo_route_65 ?_
      rw [c9]
      refine lv_if_eq (tgt := 78) hx hb kd_Mo_route_66 (by decide) (fun h66 => ?_) (fun h66 => ?_)
      · skip
        refine lv_iconst (v := 1) hx hb kd_Mo_route_78 (by decide) ?_
        exact zr_zret hS hK hlk hr (by decide) hI kd_Mo_route_79 (Or.inr ⟨hv.symm, M54, w1, by
            first
            | exact Or.inl ⟨rfl, zt_is_f h9 h66, rfl⟩
            | (refine Or.inr ⟨rfl, zt_is_t h9 h66, ?_⟩
               rw [ca, zm_ui_ne (Or.inl (by decide))])⟩)
      · skip
        refine zr_aload_n hx hb kd_Mo_route_69 hl rfl ?_
        refine zr_getr hS hK kf_Mo_44 hI ha_MO hs_MO (show _ = some 163 from zL_mo hL2 (k := 12) (by decide) (by decide)) kd_Mo_route_70 ?_
        refine zr_iload_n hx hb kd_Mo_route_73 hl rfl ?_
        refine zr_iload_n hx hb kd_Mo_route_74 hl rfl ?_
        refine zr_iast hS hK hI ha_MO_12 hs_MO_12 (vp_in_nI (by omega) (by decide)) kd_Mo_route_75 (fun H locs hI => ?_)
        refine lv_iconst (v := 0) hx hb kd_Mo_route_76 (by decide) ?_
        exact zr_zret hS hK hlk hr (by decide) hI kd_Mo_route_77 (Or.inr ⟨hv.symm, M54, w1, by
            first
            | exact Or.inl ⟨rfl, zt_is_f h9 h66, rfl⟩
            | (refine Or.inr ⟨rfl, zt_is_t h9 h66, ?_⟩
               rw [ca, zm_ui_ne (Or.inl (by decide))])⟩)
    · refine zr_puti hS hK kf_Mo_101 hI ha_MO hs_MO rfl rfl kd_Mo_route_27 (fun H locs hI => ?_)
      refine zr_aload_n hx hb kd_Mo_route_30 hl rfl ?_
      refine zr_geti hS hK kf_Mo_101 hI ha_MO hs_MO kd_Mo_route_31 ?_
      refine lv_if_le (tgt := 39) hx hb kd_Mo_route_34 (by decide) (fun h34 => absurd h34 (by rw [zm_ui_at]; decide)) (fun h34 => ?_)
      refine lv_iconst (v := 0) hx hb kd_Mo_route_37 (by decide) ?_
      exact zr_zret hS hK hlk hr (by decide) hI kd_Mo_route_38 (Or.inl ⟨hv.symm, rfl⟩)
  refine zr_aload_n hx hb kd_Mo_route_0 hl rfl ?_
  refine zr_iload_n hx hb kd_Mo_route_1 hl rfl ?_
  refine lv_if_lt (tgt := 22) hx hb kd_Mo_route_2 (by decide) (fun h2 => ?_) (fun h2 => ?_)
  · skip
    refine lv_iconst (v := 1) hx hb kd_Mo_route_22 (by decide) ?_
    refine lv_goto (tgt := 27) hx hb kd_Mo_route_23 (by decide) ?_
    refine rest _ _ _ _ ?_ hl hI
    unfold zv_rt
    first
    | (rw [if_neg (fun g => (zv_in0.mp g).elim h2 h8), if_neg (fun g => (zv_in0.mp g).elim h13 (Int32.not_lt.mpr h19))]; done)
    | (rw [if_neg (fun g => (zv_in0.mp g).elim h2 h8), if_pos (zv_in0.mpr (Or.inr (Int32.not_le.mp h19)))]; done)
    | (rw [if_neg (fun g => (zv_in0.mp g).elim h2 h8), if_pos (zv_in0.mpr (Or.inl h13))]; done)
    | (rw [if_pos (zv_in0.mpr (Or.inr h8))]; done)
    | (rw [if_pos (zv_in0.mpr (Or.inl h2))]; done)
  · skip
    refine zr_iload_n hx hb kd_Mo_route_5 hl rfl ?_
    refine lv_bipush (v := 6) hx hb kd_Mo_route_6 (by decide) ?_
    refine lv_icmp_gt (tgt := 22) hx hb kd_Mo_route_8 (by decide) (fun h8 => ?_) (fun h8 => ?_)
    · skip
      refine lv_iconst (v := 1) hx hb kd_Mo_route_22 (by decide) ?_
      refine lv_goto (tgt := 27) hx hb kd_Mo_route_23 (by decide) ?_
      refine rest _ _ _ _ ?_ hl hI
      unfold zv_rt
      first
      | (rw [if_neg (fun g => (zv_in0.mp g).elim h2 h8), if_neg (fun g => (zv_in0.mp g).elim h13 (Int32.not_lt.mpr h19))]; done)
      | (rw [if_neg (fun g => (zv_in0.mp g).elim h2 h8), if_pos (zv_in0.mpr (Or.inr (Int32.not_le.mp h19)))]; done)
      | (rw [if_neg (fun g => (zv_in0.mp g).elim h2 h8), if_pos (zv_in0.mpr (Or.inl h13))]; done)
      | (rw [if_pos (zv_in0.mpr (Or.inr h8))]; done)
      | (rw [if_pos (zv_in0.mpr (Or.inl h2))]; done)
    · skip
      refine zr_iload_n hx hb kd_Mo_route_11 hl rfl ?_
      refine lv_iconst (v := 4) hx hb kd_Mo_route_12 (by decide) ?_
      refine lv_icmp_lt (tgt := 22) hx hb kd_Mo_route_13 (by decide) (fun h13 => ?_) (fun h13 => ?_)
      · skip
        refine lv_iconst (v := 1) hx hb kd_Mo_route_22 (by decide) ?_
        refine lv_goto (tgt := 27) hx hb kd_Mo_route_23 (by decide) ?_
        refine rest _ _ _ _ ?_ hl hI
        unfold zv_rt
        first
        | (rw [if_neg (fun g => (zv_in0.mp g).elim h2 h8), if_neg (fun g => (zv_in0.mp g).elim h13 (Int32.not_lt.mpr h19))]; done)
        | (rw [if_neg (fun g => (zv_in0.mp g).elim h2 h8), if_pos (zv_in0.mpr (Or.inr (Int32.not_le.mp h19)))]; done)
        | (rw [if_neg (fun g => (zv_in0.mp g).elim h2 h8), if_pos (zv_in0.mpr (Or.inl h13))]; done)
        | (rw [if_pos (zv_in0.mpr (Or.inr h8))]; done)
        | (rw [if_pos (zv_in0.mpr (Or.inl h2))]; done)
      · skip
        refine zr_iload_n hx hb kd_Mo_route_16 hl rfl ?_
        refine lv_bipush (v := 7) hx hb kd_Mo_route_17 (by decide) ?_
        refine lv_icmp_le (tgt := 26) hx hb kd_Mo_route_19 (by decide) (fun h19 => ?_) (fun h19 => ?_)
        · skip
          refine lv_iconst (v := 0) hx hb kd_Mo_route_26 (by decide) ?_
          refine rest _ _ _ _ ?_ hl hI
          unfold zv_rt
          first
          | (rw [if_neg (fun g => (zv_in0.mp g).elim h2 h8), if_neg (fun g => (zv_in0.mp g).elim h13 (Int32.not_lt.mpr h19))]; done)
          | (rw [if_neg (fun g => (zv_in0.mp g).elim h2 h8), if_pos (zv_in0.mpr (Or.inr (Int32.not_le.mp h19)))]; done)
          | (rw [if_neg (fun g => (zv_in0.mp g).elim h2 h8), if_pos (zv_in0.mpr (Or.inl h13))]; done)
          | (rw [if_pos (zv_in0.mpr (Or.inr h8))]; done)
          | (rw [if_pos (zv_in0.mpr (Or.inl h2))]; done)
        · skip
          refine lv_iconst (v := 1) hx hb kd_Mo_route_22 (by decide) ?_
          refine lv_goto (tgt := 27) hx hb kd_Mo_route_23 (by decide) ?_
          refine rest _ _ _ _ ?_ hl hI
          unfold zv_rt
          first
          | (rw [if_neg (fun g => (zv_in0.mp g).elim h2 h8), if_neg (fun g => (zv_in0.mp g).elim h13 (Int32.not_lt.mpr h19))]; done)
          | (rw [if_neg (fun g => (zv_in0.mp g).elim h2 h8), if_pos (zv_in0.mpr (Or.inr (Int32.not_le.mp h19)))]; done)
          | (rw [if_neg (fun g => (zv_in0.mp g).elim h2 h8), if_pos (zv_in0.mpr (Or.inl h13))]; done)
          | (rw [if_pos (zv_in0.mpr (Or.inr h8))]; done)
          | (rw [if_pos (zv_in0.mpr (Or.inl h2))]; done)
def zv_sd (s t v : Int32) : Int32 := if zf_in s 0 6 = 0 then 1 else if zf_in t 4 6 = 0 then 1 else if zf_in v 0 1024 = 0 then 1 else 0
set_option maxRecDepth 100000 in
set_option maxHeartbeats 4000000 in
theorem c_Mo_send (l : Launch) (G : zg_T) (M : zm_T) (hL : zL M.2) (s t lv : Int32) : Met l ky_Mo_send (zr_ws ky_Mo_send kc_Mo_send 5 (some .boolean)) (zr_rm 2) (va_Pc [.ref (G.2.2.1 + 151), .int s, .int t, .int lv] (zm_B G 183 zs M)) (va_Qi (fun (r : Int32) (M' : zm_T) => (zv_sd s t lv = 1 ∧ M' = zm_ui M 151 0 1) ∨ (zv_sd s t lv = 0 ∧ ∃ M2, zm_only (zm_ui (zm_ui M 151 0 0) 164 (3 * s.toNatClampNeg + t.toNatClampNeg - 4) lv) M2 175 ∧ ((r = 1 ∧ ¬ gq_T (zgf (zm_ui (zm_ui M 151 0 0) 164 (3 * s.toNatClampNeg + t.toNatClampNeg - 4) lv)) s.toNatClampNeg s.toNatClampNeg ∧ M' = M2) ∨ (r = 0 ∧ gq_T (zgf (zm_ui (zm_ui M 151 0 0) 164 (3 * s.toNatClampNeg + t.toNatClampNeg - 4) lv)) s.toNatClampNeg s.toNatClampNeg ∧ M' = zm_ui M2 164 (3 * s.toNatClampNeg + t.toNatClampNeg - 4) (M.1 164 (3 * s.toNatClampNeg + t.toNatClampNeg - 4)))))) (zm_B G 183 zs) (zm_A G)) 0 0 (zm_A G) := by
  refine zr_met (by decide +kernel) (Nat.le_of_ble_eq_true rfl) ?_
  intro p0 e0 s0 m0 below meth c0 ls hS hK hlk hr hl hI
  have hx := hS.1
  have hb := hS.2.1
  have hl : zl_has ls 5 [some (.ref (G.2.2.1 + 151)), some (.int s), some (.int t), some (.int lv), none] := hl
  have rest : ∀ (v : Int32) (H : Heap) (locs : List Loc) (ls : Array Slot), v = zv_sd s t lv → zl_has ls 5 [some (.ref (G.2.2.1 + 151)), some (.int s), some (.int t), some (.int lv), none] → zm_I G 183 zs M s0 H locs → W p0 l e0 (zr_rm 2) s0 m0 ([.ref (G.2.2.1 + 151), .int s, .int t, .int lv] : List Value).toArray below meth c0 H locs 0 0 (MQ below (va_Qi (fun (r : Int32) (M' : zm_T) => (zv_sd s t lv = 1 ∧ M' = zm_ui M 151 0 1) ∨ (zv_sd s t lv = 0 ∧ ∃ M2, zm_only (zm_ui (zm_ui M 151 0 0) 164 (3 * s.toNatClampNeg + t.toNatClampNeg - 4) lv) M2 175 ∧ ((r = 1 ∧ ¬ gq_T (zgf (zm_ui (zm_ui M 151 0 0) 164 (3 * s.toNatClampNeg + t.toNatClampNeg - 4) lv)) s.toNatClampNeg s.toNatClampNeg ∧ M' = M2) ∨ (r = 0 ∧ gq_T (zgf (zm_ui (zm_ui M 151 0 0) 164 (3 * s.toNatClampNeg + t.toNatClampNeg - 4) lv)) s.toNatClampNeg s.toNatClampNeg ∧ M' = zm_ui M2 164 (3 * s.toNatClampNeg + t.toNatClampNeg - 4) (M.1 164 (3 * s.toNatClampNeg + t.toNatClampNeg - 4)))))) (zm_B G 183 zs) (zm_A G)) ([.ref (G.2.2.1 + 151), .int s, .int t, .int lv] : List Value).toArray s0 0 0 (zm_A G)) (F0 m0 34 ls [.int v, .ref (G.2.2.1 + 151)]) := by
    intro v H locs ls hv hl hI
    have v01 : v = 0 ∨ v = 1 := by rw [hv]; unfold zv_sd; (repeat' split) <;> simp
    rcases v01 with rfl | rfl
    · have hin : (∃ a, a < 7 ∧ s = nI a) ∧ ∃ b, 4 ≤ b ∧ b < 7 ∧ t = nI b := by
        unfold zv_sd at hv
        by_cases g1 : zf_in s 0 6 = 0
        · rw [if_pos g1] at hv; exact absurd hv (by decide)
        rw [if_neg g1] at hv
        by_cases g2 : zf_in t 4 6 = 0
        · rw [if_pos g2] at hv; exact absurd hv (by decide)
        obtain ⟨a, ha, ea⟩ := zf_in_n (n := 6) (by decide) g1
        obtain ⟨b, hb1, hb2, eb⟩ := zv_inb (a := 4) (b := 6) (by decide) (by decide) g2
        exact ⟨⟨a, by omega, ea⟩, b, hb1, by omega, eb⟩
      obtain ⟨⟨a, ha, rfl⟩, b, hb1, hb2, rfl⟩ := hin
      have ca : (nI a).toNatClampNeg = a := zn_cl (by omega)
      have cb : (nI b).toNatClampNeg = b := zn_cl (by omega)
      have e1 : (3 : Int32) * nI a + nI b - 4 = nI (3 * a + b - 4) := by rw [show (3 : Int32) = nI 3 from rfl, show (4 : Int32) = nI 4 from rfl, zn_mulI, nI_add, pk_sub (by omega)]
      have c1 : (nI (3 * a + b - 4)).toNatClampNeg = 3 * a + b - 4 := zn_cl (by omega)
      have e9 : (9 : Int32) * nI a = nI (9 * a) := by rw [show (9 : Int32) = nI 9 from rfl, zn_mulI]
      have c9 : (nI (9 * a)).toNatClampNeg = 9 * a := zn_cl (by omega)
      rw [ca, cb]
      refine zr_puti hS hK kf_Mo_101 hI ha_MO hs_MO rfl rfl kd_Mo_send_34 (fun H locs hI => ?_)
      refine zr_aload_n hx hb kd_Mo_send_37 hl rfl ?_
      refine zr_geti hS hK kf_Mo_101 hI ha_MO hs_MO kd_Mo_send_38 ?_
      refine lv_if_le (tgt := 46) hx hb kd_Mo_send_41 (by decide) (fun h41 => ?_) (fun h41 => absurd (by rw [zm_ui_at]; decide) h41)
      refine zr_aload_n hx hb kd_Mo_send_46 hl rfl ?_
      refine zr_getr hS hK kf_Mo_47 hI ha_MO hs_MO (show _ = some 164 from zL_mo hL (k := 13) (by decide) (by decide)) kd_Mo_send_47 ?_
      refine lv_iconst (v := 3) hx hb kd_Mo_send_50 (by decide) ?_
      refine zr_iload_n hx hb kd_Mo_send_51 hl rfl ?_
      refine lv_imul hx hb kd_Mo_send_52 ?_
      refine zr_iload_n hx hb kd_Mo_send_53 hl rfl ?_
      refine lv_iadd hx hb kd_Mo_send_54 ?_
      refine lv_iconst (v := 4) hx hb kd_Mo_send_55 (by decide) ?_
      refine lv_isub hx hb kd_Mo_send_56 ?_
      rw [e1]
      refine zr_iald hS hK hI ha_MO_13 hs_MO_13 (vp_in_nI (by omega) (by decide)) kd_Mo_send_57 ?_
      refine zr_istore hx hb kd_Mo_send_58 hl (by decide) rfl (fun ls hl => ?_)
      refine zr_aload_n hx hb kd_Mo_send_60 hl rfl ?_
      refine zr_getr hS hK kf_Mo_47 hI ha_MO hs_MO (show _ = some 164 from zL_mo hL (k := 13) (by decide) (by decide)) kd_Mo_send_61 ?_
      refine lv_iconst (v := 3) hx hb kd_Mo_send_64 (by decide) ?_
      refine zr_iload_n hx hb kd_Mo_send_65 hl rfl ?_
      refine lv_imul hx hb kd_Mo_send_66 ?_
      refine zr_iload_n hx hb kd_Mo_send_67 hl rfl ?_
      refine lv_iadd hx hb kd_Mo_send_68 ?_
      refine lv_iconst (v := 4) hx hb kd_Mo_send_69 (by decide) ?_
      refine lv_isub hx hb kd_Mo_send_70 ?_
      refine zr_iload_n hx hb kd_Mo_send_71 hl rfl ?_
      rw [e1]
      refine zr_iast hS hK hI ha_MO_13 hs_MO_13 (vp_in_nI (by omega) (by decide)) kd_Mo_send_72 (fun H locs hI => ?_)
      refine zr_aload_n hx hb kd_Mo_send_73 hl rfl ?_
      rw [c1] at hI
      refine zr_cv (zr_runV hS hK (c_Mo_findReach l G (zm_ui (zm_ui M 151 0 0) 164 (3 * a + b - 4) lv) hL) km_Mo_137 hI ha_MO hs_MO rfl hl.1 (Nat.le_of_ble_eq_true rfl) (by decide) (by decide) kd_Mo_send_74 rfl) hI (fun M74 H locs hp74 hI => ?_)
      obtain ⟨w1, w2⟩ := hp74
      have hL2 : zL M74.2 := by rw [w1.1]; exact hL
      have h9 : zt_is (M74.1 175 (9 * a)) (gq_T (zgf (zm_ui (zm_ui M 151 0 0) 164 (3 * a + b - 4) lv)) a a) := by
        have := w2 (9 * a) (by omega)
        rw [show 9 * a / 8 = a by omega, show 9 * a % 8 = a by omega] at this
        exact this
      refine zr_aload_n hx hb kd_Mo_send_77 hl rfl ?_
      refine zr_getr hS hK kf_Mo_80 hI ha_MO hs_MO (show _ = some 175 from zL_mo hL2 (k := 24) (by decide) (by decide)) kd_Mo_send_78 ?_
      refine lv_bipush (v := 9) hx hb kd_Mo_send_81 (by decide) ?_
      refine zr_iload_n hx hb kd_Mo_send_83 hl rfl ?_
      refine lv_imul hx hb kd_Mo_send_84 ?_
      rw [e9]
      refine zr_zald hS hK hI ha_MO_24 hs_MO_24 (vp_in_nI (by omega) (by decide)) kd_Mo_send_85 ?_
      rw [c9]
      refine lv_if_eq (tgt := 105) hx hb kd_Mo_send_86 (by decide) (fun h86 => ?_) (fun h86 => ?_)
      · skip
        refine lv_iconst (v := 1) hx hb kd_Mo_send_105 (by decide) ?_
        exact zr_zret hS hK hlk hr (by decide) hI kd_Mo_send_106 (Or.inr ⟨hv.symm, M74, w1, by
            first
            | exact Or.inl ⟨rfl, zt_is_f h9 h86, rfl⟩
            | (refine Or.inr ⟨rfl, zt_is_t h9 h86, ?_⟩
               rw [c1, zm_ui_ne (Or.inl (by decide))])⟩)
      · skip
        refine zr_aload_n hx hb kd_Mo_send_89 hl rfl ?_
        refine zr_getr hS hK kf_Mo_47 hI ha_MO hs_MO (show _ = some 164 from zL_mo hL2 (k := 13) (by decide) (by decide)) kd_Mo_send_90 ?_
        refine lv_iconst (v := 3) hx hb kd_Mo_send_93 (by decide) ?_
        refine zr_iload_n hx hb kd_Mo_send_94 hl rfl ?_
        refine lv_imul hx hb kd_Mo_send_95 ?_
        refine zr_iload_n hx hb kd_Mo_send_96 hl rfl ?_
        refine lv_iadd hx hb kd_Mo_send_97 ?_
        refine lv_iconst (v := 4) hx hb kd_Mo_send_98 (by decide) ?_
        refine lv_isub hx hb kd_Mo_send_99 ?_
        refine zr_iload hx hb kd_Mo_send_100 hl rfl ?_
        rw [e1]
        refine zr_iast hS hK hI ha_MO_13 hs_MO_13 (vp_in_nI (by omega) (by decide)) kd_Mo_send_102 (fun H locs hI => ?_)
        refine lv_iconst (v := 0) hx hb kd_Mo_send_103 (by decide) ?_
        exact zr_zret hS hK hlk hr (by decide) hI kd_Mo_send_104 (Or.inr ⟨hv.symm, M74, w1, by
            first
            | exact Or.inl ⟨rfl, zt_is_f h9 h86, rfl⟩
            | (refine Or.inr ⟨rfl, zt_is_t h9 h86, ?_⟩
               rw [c1, zm_ui_ne (Or.inl (by decide))])⟩)
    · refine zr_puti hS hK kf_Mo_101 hI ha_MO hs_MO rfl rfl kd_Mo_send_34 (fun H locs hI => ?_)
      refine zr_aload_n hx hb kd_Mo_send_37 hl rfl ?_
      refine zr_geti hS hK kf_Mo_101 hI ha_MO hs_MO kd_Mo_send_38 ?_
      refine lv_if_le (tgt := 46) hx hb kd_Mo_send_41 (by decide) (fun h41 => absurd h41 (by rw [zm_ui_at]; decide)) (fun h41 => ?_)
      refine lv_iconst (v := 0) hx hb kd_Mo_send_44 (by decide) ?_
      exact zr_zret hS hK hlk hr (by decide) hI kd_Mo_send_45 (Or.inl ⟨hv.symm, rfl⟩)
  refine zr_aload_n hx hb kd_Mo_send_0 hl rfl ?_
  refine zr_iload_n hx hb kd_Mo_send_1 hl rfl ?_
  refine lv_if_lt (tgt := 29) hx hb kd_Mo_send_2 (by decide) (fun h2 => ?_) (fun h2 => ?_)
  · skip
    refine lv_iconst (v := 1) hx hb kd_Mo_send_29 (by decide) ?_
    refine lv_goto (tgt := 34) hx hb kd_Mo_send_30 (by decide) ?_
    refine rest _ _ _ _ ?_ hl hI
    unfold zv_sd
    first
    | (rw [if_neg (fun g => (zv_in0.mp g).elim h2 h8), if_neg (fun g => (zv_in0.mp g).elim h13 h19), if_neg (zv_01 h26)]; done)
    | (rw [if_neg (fun g => (zv_in0.mp g).elim h2 h8), if_neg (fun g => (zv_in0.mp g).elim h13 h19), if_pos (zv_10 h26)]; done)
    | (rw [if_neg (fun g => (zv_in0.mp g).elim h2 h8), if_pos (zv_in0.mpr (Or.inr h19))]; done)
    | (rw [if_neg (fun g => (zv_in0.mp g).elim h2 h8), if_pos (zv_in0.mpr (Or.inl h13))]; done)
    | (rw [if_pos (zv_in0.mpr (Or.inr h8))]; done)
    | (rw [if_pos (zv_in0.mpr (Or.inl h2))]; done)
  · skip
    refine zr_iload_n hx hb kd_Mo_send_5 hl rfl ?_
    refine lv_bipush (v := 6) hx hb kd_Mo_send_6 (by decide) ?_
    refine lv_icmp_gt (tgt := 29) hx hb kd_Mo_send_8 (by decide) (fun h8 => ?_) (fun h8 => ?_)
    · skip
      refine lv_iconst (v := 1) hx hb kd_Mo_send_29 (by decide) ?_
      refine lv_goto (tgt := 34) hx hb kd_Mo_send_30 (by decide) ?_
      refine rest _ _ _ _ ?_ hl hI
      unfold zv_sd
      first
      | (rw [if_neg (fun g => (zv_in0.mp g).elim h2 h8), if_neg (fun g => (zv_in0.mp g).elim h13 h19), if_neg (zv_01 h26)]; done)
      | (rw [if_neg (fun g => (zv_in0.mp g).elim h2 h8), if_neg (fun g => (zv_in0.mp g).elim h13 h19), if_pos (zv_10 h26)]; done)
      | (rw [if_neg (fun g => (zv_in0.mp g).elim h2 h8), if_pos (zv_in0.mpr (Or.inr h19))]; done)
      | (rw [if_neg (fun g => (zv_in0.mp g).elim h2 h8), if_pos (zv_in0.mpr (Or.inl h13))]; done)
      | (rw [if_pos (zv_in0.mpr (Or.inr h8))]; done)
      | (rw [if_pos (zv_in0.mpr (Or.inl h2))]; done)
    · skip
      refine zr_iload_n hx hb kd_Mo_send_11 hl rfl ?_
      refine lv_iconst (v := 4) hx hb kd_Mo_send_12 (by decide) ?_
      refine lv_icmp_lt (tgt := 29) hx hb kd_Mo_send_13 (by decide) (fun h13 => ?_) (fun h13 => ?_)
      · skip
        refine lv_iconst (v := 1) hx hb kd_Mo_send_29 (by decide) ?_
        refine lv_goto (tgt := 34) hx hb kd_Mo_send_30 (by decide) ?_
        refine rest _ _ _ _ ?_ hl hI
        unfold zv_sd
        first
        | (rw [if_neg (fun g => (zv_in0.mp g).elim h2 h8), if_neg (fun g => (zv_in0.mp g).elim h13 h19), if_neg (zv_01 h26)]; done)
        | (rw [if_neg (fun g => (zv_in0.mp g).elim h2 h8), if_neg (fun g => (zv_in0.mp g).elim h13 h19), if_pos (zv_10 h26)]; done)
        | (rw [if_neg (fun g => (zv_in0.mp g).elim h2 h8), if_pos (zv_in0.mpr (Or.inr h19))]; done)
        | (rw [if_neg (fun g => (zv_in0.mp g).elim h2 h8), if_pos (zv_in0.mpr (Or.inl h13))]; done)
        | (rw [if_pos (zv_in0.mpr (Or.inr h8))]; done)
        | (rw [if_pos (zv_in0.mpr (Or.inl h2))]; done)
      · skip
        refine zr_iload_n hx hb kd_Mo_send_16 hl rfl ?_
        refine lv_bipush (v := 6) hx hb kd_Mo_send_17 (by decide) ?_
        refine lv_icmp_gt (tgt := 29) hx hb kd_Mo_send_19 (by decide) (fun h19 => ?_) (fun h19 => ?_)
        · skip
          refine lv_iconst (v := 1) hx hb kd_Mo_send_29 (by decide) ?_
          refine lv_goto (tgt := 34) hx hb kd_Mo_send_30 (by decide) ?_
          refine rest _ _ _ _ ?_ hl hI
          unfold zv_sd
          first
          | (rw [if_neg (fun g => (zv_in0.mp g).elim h2 h8), if_neg (fun g => (zv_in0.mp g).elim h13 h19), if_neg (zv_01 h26)]; done)
          | (rw [if_neg (fun g => (zv_in0.mp g).elim h2 h8), if_neg (fun g => (zv_in0.mp g).elim h13 h19), if_pos (zv_10 h26)]; done)
          | (rw [if_neg (fun g => (zv_in0.mp g).elim h2 h8), if_pos (zv_in0.mpr (Or.inr h19))]; done)
          | (rw [if_neg (fun g => (zv_in0.mp g).elim h2 h8), if_pos (zv_in0.mpr (Or.inl h13))]; done)
          | (rw [if_pos (zv_in0.mpr (Or.inr h8))]; done)
          | (rw [if_pos (zv_in0.mpr (Or.inl h2))]; done)
        · skip
          refine zr_iload_n hx hb kd_Mo_send_22 hl rfl ?_
          refine zr_ci (zr_runS hS hK (c_Mo_noLevel l G 183 zs M _) km_Mo_130 hI rfl hl.1 (Nat.le_of_ble_eq_true rfl) (by decide) (by decide) kd_Mo_send_23 rfl) hI (fun r23 M23 H locs hp23 hI => ?_)
          obtain ⟨rfl, hM23⟩ := hp23
          rw [hM23] at hI
          refine lv_if_eq (tgt := 33) hx hb kd_Mo_send_26 (by decide) (fun h26 => ?_) (fun h26 => ?_)
          · skip
            refine lv_iconst (v := 0) hx hb kd_Mo_send_33 (by decide) ?_
            refine rest _ _ _ _ ?_ hl hI
            unfold zv_sd
            first
            | (rw [if_neg (fun g => (zv_in0.mp g).elim h2 h8), if_neg (fun g => (zv_in0.mp g).elim h13 h19), if_neg (zv_01 h26)]; done)
            | (rw [if_neg (fun g => (zv_in0.mp g).elim h2 h8), if_neg (fun g => (zv_in0.mp g).elim h13 h19), if_pos (zv_10 h26)]; done)
            | (rw [if_neg (fun g => (zv_in0.mp g).elim h2 h8), if_pos (zv_in0.mpr (Or.inr h19))]; done)
            | (rw [if_neg (fun g => (zv_in0.mp g).elim h2 h8), if_pos (zv_in0.mpr (Or.inl h13))]; done)
            | (rw [if_pos (zv_in0.mpr (Or.inr h8))]; done)
            | (rw [if_pos (zv_in0.mpr (Or.inl h2))]; done)
          · skip
            refine lv_iconst (v := 1) hx hb kd_Mo_send_29 (by decide) ?_
            refine lv_goto (tgt := 34) hx hb kd_Mo_send_30 (by decide) ?_
            refine rest _ _ _ _ ?_ hl hI
            unfold zv_sd
            first
            | (rw [if_neg (fun g => (zv_in0.mp g).elim h2 h8), if_neg (fun g => (zv_in0.mp g).elim h13 h19), if_neg (zv_01 h26)]; done)
            | (rw [if_neg (fun g => (zv_in0.mp g).elim h2 h8), if_neg (fun g => (zv_in0.mp g).elim h13 h19), if_pos (zv_10 h26)]; done)
            | (rw [if_neg (fun g => (zv_in0.mp g).elim h2 h8), if_pos (zv_in0.mpr (Or.inr h19))]; done)
            | (rw [if_neg (fun g => (zv_in0.mp g).elim h2 h8), if_pos (zv_in0.mpr (Or.inl h13))]; done)
            | (rw [if_pos (zv_in0.mpr (Or.inr h8))]; done)
            | (rw [if_pos (zv_in0.mpr (Or.inl h2))]; done)

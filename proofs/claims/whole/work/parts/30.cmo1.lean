/-! The reference's small methods; its array field k lies at 151 + k. -/
theorem zn_mulI (a b : Nat) : nI a * nI b = nI (a * b) := (Int32.ofNat_mul a b).symm
/-- v is the truth of P -/
def zt_is (v : Int32) (P : Prop) : Prop := (v = 1 ∧ P) ∨ (v = 0 ∧ ¬ P)
theorem zt_is_t {v : Int32} {P : Prop} (h : zt_is v P) (hv : ¬ v = 0) : P := h.elim (fun h => h.2) (fun h => absurd h.1 hv)
theorem zt_is_f {v : Int32} {P : Prop} (h : zt_is v P) (hv : v = 0) : ¬ P := h.elim (fun h => absurd (h.1.symm.trans hv) (by decide)) (fun h => h.2)
theorem zt_is_c {v : Int32} {P Q : Prop} (h : zt_is v P) (hc : P ↔ Q) : zt_is v Q := h.elim (fun h => Or.inl ⟨h.1, hc.mp h.2⟩) (fun h => Or.inr ⟨h.1, fun q => h.2 (hc.mpr q)⟩)
theorem zt_is_01 {v : Int32} {P : Prop} (h : zt_is v P) : v = 0 ∨ v = 1 := h.elim (fun h => Or.inr h.1) (fun h => Or.inl h.1)
set_option maxRecDepth 100000 in
set_option maxHeartbeats 4000000 in
theorem c_Mo_thrown (l : Launch) (G : zg_T) (M : zm_T) (hL : zL M.2)  : Met l ky_Mo_thrown (zr_ws ky_Mo_thrown kc_Mo_thrown 1 (some .int)) (zr_rm 0) (va_Pc [.ref (G.2.2.1 + 151)] (zm_B G 183 zs M)) (va_Qi (fun (r : Int32) (M' : zm_T) => r = M.1 151 0 ∧ M' = M) (zm_B G 183 zs) (zm_A G)) 0 0 (zm_A G) := by
  refine zr_met (by decide +kernel) (Nat.le_of_ble_eq_true rfl) ?_
  intro p0 e0 s0 m0 below meth c0 ls hS hK hlk hr hl hI
  have hx := hS.1
  have hb := hS.2.1
  have hl : zl_has ls 1 [some (.ref (G.2.2.1 + 151))] := hl
  refine zr_aload_n hx hb kd_Mo_thrown_0 hl rfl ?_
  refine zr_geti hS hK kf_Mo_101 hI ha_MO hs_MO kd_Mo_thrown_1 ?_
  exact zr_iret hS hK hlk hr hI kd_Mo_thrown_4 (⟨rfl, rfl⟩)
set_option maxRecDepth 100000 in
set_option maxHeartbeats 4000000 in
theorem c_Mo_cut (l : Launch) (G : zg_T) (nc : Nat) (sh : Nat → Nat × Nat) (M : zm_T) (x : Int64) : Met l ky_Mo_cut (zr_ws ky_Mo_cut kc_Mo_cut 2 (some .int)) (zr_rm 0) (va_Pc [.long x] (zm_B G nc sh M)) (va_Qi (fun (r : Int32) (M' : zm_T) => r.toInt = zi_cut x.toInt ∧ M' = M) (zm_B G nc sh) (zm_A G)) 0 0 (zm_A G) := by
  refine zr_met (by decide +kernel) (Nat.le_of_ble_eq_true rfl) ?_
  intro p0 e0 s0 m0 below meth c0 ls hS hK hlk hr hl hI
  have hx := hS.1
  have hb := hS.2.1
  have hl : zl_has ls 2 [some (.long x), none] := hl
  have c1 : (16777216 : Int64).toInt = 16777216 := by decide
  have c2 : (-16777216 : Int64).toInt = -16777216 := by decide
  refine zr_lload_n hx hb kd_Mo_cut_0 hl rfl ?_
  refine lv_ldc2 (v := -16777216) hx hb hS.2.2.2.1 (hS.2.2.2.2 _ (zw_mem (i := 1279) (w := .constantLong "StripMixerModel" 105 (-16777216)) (by decide +kernel) rfl)) kd_Mo_cut_1 ?_
  refine W.lcmp hx hb kd_Mo_cut_4 ?_
  refine lv_if_ge (tgt := 14) hx hb kd_Mo_cut_5 (by decide) (fun h5 => ?_) (fun h5 => ?_)
  · skip
    refine zr_lload_n hx hb kd_Mo_cut_14 hl rfl ?_
    refine lv_ldc2 (v := 16777216) hx hb hS.2.2.2.1 (hS.2.2.2.2 _ (zw_mem (i := 1280) (w := .constantLong "StripMixerModel" 107 16777216) (by decide +kernel) rfl)) kd_Mo_cut_15 ?_
    refine W.lcmp hx hb kd_Mo_cut_18 ?_
    refine lv_if_le (tgt := 28) hx hb kd_Mo_cut_19 (by decide) (fun h19 => ?_) (fun h19 => ?_)
    · skip
      refine zr_lload_n hx hb kd_Mo_cut_28 hl rfl ?_
      refine lv_l2i hx hb kd_Mo_cut_29 rfl ?_
      exact zr_iret hS hK hlk hr hI kd_Mo_cut_30 (⟨by
          rw [lg_cmp_ge, Int64.le_iff_toInt_le, c2] at h5
          try rw [lg_cmp_le, Int64.le_iff_toInt_le, c1] at h19
          unfold zi_cut
          first
          | (rw [if_pos (by omega)]; rfl)
          | (rw [if_neg (by omega), if_pos (by omega)]; rfl)
          | (rw [if_neg (by omega), if_neg (by omega)]; exact zn_l2i (by omega) (by omega)), rfl⟩)
    · skip
      refine lv_ldc2 (v := 16777216) hx hb hS.2.2.2.1 (hS.2.2.2.2 _ (zw_mem (i := 1280) (w := .constantLong "StripMixerModel" 107 16777216) (by decide +kernel) rfl)) kd_Mo_cut_22 ?_
      refine lv_goto (tgt := 29) hx hb kd_Mo_cut_25 (by decide) ?_
      refine lv_l2i hx hb kd_Mo_cut_29 rfl ?_
      exact zr_iret hS hK hlk hr hI kd_Mo_cut_30 (⟨by
          rw [lg_cmp_ge, Int64.le_iff_toInt_le, c2] at h5
          try rw [lg_cmp_le, Int64.le_iff_toInt_le, c1] at h19
          unfold zi_cut
          first
          | (rw [if_pos (by omega)]; rfl)
          | (rw [if_neg (by omega), if_pos (by omega)]; rfl)
          | (rw [if_neg (by omega), if_neg (by omega)]; exact zn_l2i (by omega) (by omega)), rfl⟩)
  · skip
    refine lv_ldc2 (v := -16777216) hx hb hS.2.2.2.1 (hS.2.2.2.2 _ (zw_mem (i := 1279) (w := .constantLong "StripMixerModel" 105 (-16777216)) (by decide +kernel) rfl)) kd_Mo_cut_8 ?_
    refine lv_goto (tgt := 29) hx hb kd_Mo_cut_11 (by decide) ?_
    refine lv_l2i hx hb kd_Mo_cut_29 rfl ?_
    exact zr_iret hS hK hlk hr hI kd_Mo_cut_30 (⟨by
        rw [lg_cmp_ge, Int64.le_iff_toInt_le, c2] at h5
        try rw [lg_cmp_le, Int64.le_iff_toInt_le, c1] at h19
        unfold zi_cut
        first
        | (rw [if_pos (by omega)]; rfl)
        | (rw [if_neg (by omega), if_pos (by omega)]; rfl)
        | (rw [if_neg (by omega), if_neg (by omega)]; exact zn_l2i (by omega) (by omega)), rfl⟩)
set_option maxRecDepth 100000 in
set_option maxHeartbeats 4000000 in
theorem c_Mo_down (l : Launch) (G : zg_T) (nc : Nat) (sh : Nat → Nat × Nat) (M : zm_T) (a b : Int64) (hb0 : 0 < b.toInt) : Met l ky_Mo_down (zr_ws ky_Mo_down kc_Mo_down 6 (some .long)) (zr_rm 0) (va_Pc [.long a, .long b] (zm_B G nc sh M)) (va_Ql (fun (r : Int64) (M' : zm_T) => r.toInt = a.toInt / b.toInt ∧ M' = M) (zm_B G nc sh) (zm_A G)) 0 0 (zm_A G) := by
  refine zr_met (by decide +kernel) (Nat.le_of_ble_eq_true rfl) ?_
  intro p0 e0 s0 m0 below meth c0 ls hS hK hlk hr hl hI
  have hx := hS.1
  have hb := hS.2.1
  have hl : zl_has ls 6 [some (.long a), none, some (.long b), none, none, none] := hl
  have hne : ¬ b = 0 := fun h => by rw [h] at hb0; exact absurd hb0 (by decide)
  refine zr_lload_n hx hb kd_Mo_down_0 hl rfl ?_
  refine zr_lload_n hx hb kd_Mo_down_1 hl rfl ?_
  refine lv_ldiv hx hb kd_Mo_down_2 (hne) ?_
  refine zr_lstore hx hb kd_Mo_down_3 hl (by decide) rfl (fun ls hl => ?_)
  refine zr_lload hx hb kd_Mo_down_5 hl rfl ?_
  refine zr_lload_n hx hb kd_Mo_down_7 hl rfl ?_
  refine lv_lmul hx hb kd_Mo_down_8 ?_
  refine zr_lload_n hx hb kd_Mo_down_9 hl rfl ?_
  refine W.lcmp hx hb kd_Mo_down_10 ?_
  refine lv_if_le (tgt := 21) hx hb kd_Mo_down_11 (by decide) (fun h11 => ?_) (fun h11 => ?_)
  · skip
    refine zr_lload hx hb kd_Mo_down_21 hl rfl ?_
    exact zr_lret hS hK hlk hr hI kd_Mo_down_23 (⟨by
        rw [← zf_dn_eq hb0]
        rw [lg_cmp_le] at h11
        unfold zf_dn
        first
        | (rw [if_neg (Int64.not_lt.mpr (by assumption))]; done)
        | (rw [if_pos (Int64.not_le.mp (by assumption))]; done), rfl⟩)
  · skip
    refine zr_lload hx hb kd_Mo_down_14 hl rfl ?_
    refine lv_lconst (v := 1) hx hb kd_Mo_down_16 (by decide) ?_
    refine lv_lsub hx hb kd_Mo_down_17 ?_
    refine lv_goto (tgt := 23) hx hb kd_Mo_down_18 (by decide) ?_
    exact zr_lret hS hK hlk hr hI kd_Mo_down_23 (⟨by
        rw [← zf_dn_eq hb0]
        rw [lg_cmp_le] at h11
        unfold zf_dn
        first
        | (rw [if_neg (Int64.not_lt.mpr (by assumption))]; done)
        | (rw [if_pos (Int64.not_le.mp (by assumption))]; done), rfl⟩)
set_option maxRecDepth 100000 in
set_option maxHeartbeats 4000000 in
theorem c_Mo_by (l : Launch) (G : zg_T) (nc : Nat) (sh : Nat → Nat × Nat) (M : zm_T) (x y : Int64) (hx1 : -1099511627776 ≤ x.toInt) (hx2 : x.toInt ≤ 1099511627776) (hy1 : 0 ≤ y.toInt) (hy2 : y.toInt ≤ 1024) : Met l ky_Mo_by (zr_ws ky_Mo_by kc_Mo_by 4 (some .long)) (zr_rm 1) (va_Pc [.long x, .long y] (zm_B G nc sh M)) (va_Ql (fun (r : Int64) (M' : zm_T) => r.toInt = x.toInt * y.toInt / 256 ∧ M' = M) (zm_B G nc sh) (zm_A G)) 0 0 (zm_A G) := by
  refine zr_met (by decide +kernel) (Nat.le_of_ble_eq_true rfl) ?_
  intro p0 e0 s0 m0 below meth c0 ls hS hK hlk hr hl hI
  have hx := hS.1
  have hb := hS.2.1
  have hl : zl_has ls 4 [some (.long x), none, some (.long y), none] := hl
  have hm := zn_abs_mul hx1 hx2 hy1 hy2
  have e : (x * y).toInt = x.toInt * y.toInt := zn_lmul (by omega) (by omega)
  refine zr_lload_n hx hb kd_Mo_by_0 hl rfl ?_
  refine zr_lload_n hx hb kd_Mo_by_1 hl rfl ?_
  refine lv_lmul hx hb kd_Mo_by_2 ?_
  refine lv_ldc2 (v := 256) hx hb hS.2.2.2.1 (hS.2.2.2.2 _ (zw_mem (i := 1268) (w := .constantLong "StripMixerModel" 109 256) (by decide +kernel) rfl)) kd_Mo_by_3 ?_
  refine zr_cl (zr_runS hS hK (c_Mo_down l G nc sh M _ _ (by decide)) km_Mo_111 hI rfl hl.1 (Nat.le_of_ble_eq_true rfl) (by decide) (by decide) kd_Mo_by_6 rfl) hI (fun r6 M6 H locs hp6 hI => ?_)
  obtain ⟨hr6, hM6⟩ := hp6
  rw [hM6] at hI
  exact zr_lret hS hK hlk hr hI kd_Mo_by_9 (⟨by rw [hr6, e]; rfl, rfl⟩)
set_option maxRecDepth 100000 in
set_option maxHeartbeats 4000000 in
theorem c_Mo_noLevel (l : Launch) (G : zg_T) (nc : Nat) (sh : Nat → Nat × Nat) (M : zm_T) (x : Int32) : Met l ky_Mo_noLevel (zr_ws ky_Mo_noLevel kc_Mo_noLevel 1 (some .boolean)) (zr_rm 0) (va_Pc [.int x] (zm_B G nc sh M)) (va_Qi (fun (r : Int32) (M' : zm_T) => r = (if zf_in x 0 1024 = 0 then 1 else 0) ∧ M' = M) (zm_B G nc sh) (zm_A G)) 0 0 (zm_A G) := by
  refine zr_met (by decide +kernel) (Nat.le_of_ble_eq_true rfl) ?_
  intro p0 e0 s0 m0 below meth c0 ls hS hK hlk hr hl hI
  have hx := hS.1
  have hb := hS.2.1
  have hl : zl_has ls 1 [some (.int x)] := hl
  refine zr_iload_n hx hb kd_Mo_noLevel_0 hl rfl ?_
  refine lv_if_lt (tgt := 11) hx hb kd_Mo_noLevel_1 (by decide) (fun h1 => ?_) (fun h1 => ?_)
  · skip
    refine lv_iconst (v := 1) hx hb kd_Mo_noLevel_11 (by decide) ?_
    refine lv_goto (tgt := 16) hx hb kd_Mo_noLevel_12 (by decide) ?_
    exact zr_zret hS hK hlk hr (by decide) hI kd_Mo_noLevel_16 (⟨by simp [zf_in, *], rfl⟩)
  · skip
    refine zr_iload_n hx hb kd_Mo_noLevel_4 hl rfl ?_
    refine lv_sipush (v := 1024) hx hb kd_Mo_noLevel_5 (by decide) ?_
    refine lv_icmp_le (tgt := 15) hx hb kd_Mo_noLevel_8 (by decide) (fun h8 => ?_) (fun h8 => ?_)
    · skip
      refine lv_iconst (v := 0) hx hb kd_Mo_noLevel_15 (by decide) ?_
      exact zr_zret hS hK hlk hr (by decide) hI kd_Mo_noLevel_16 (⟨by simp [zf_in, *], rfl⟩)
    · skip
      refine lv_iconst (v := 1) hx hb kd_Mo_noLevel_11 (by decide) ?_
      refine lv_goto (tgt := 16) hx hb kd_Mo_noLevel_12 (by decide) ?_
      exact zr_zret hS hK hlk hr (by decide) hI kd_Mo_noLevel_16 (⟨by simp [zf_in, *], rfl⟩)
set_option maxRecDepth 100000 in
set_option maxHeartbeats 4000000 in
theorem c_Mo_noStrip (l : Launch) (G : zg_T) (nc : Nat) (sh : Nat → Nat × Nat) (M : zm_T) (x : Int32) : Met l ky_Mo_noStrip (zr_ws ky_Mo_noStrip kc_Mo_noStrip 1 (some .boolean)) (zr_rm 0) (va_Pc [.int x] (zm_B G nc sh M)) (va_Qi (fun (r : Int32) (M' : zm_T) => r = (if zf_in x 0 7 = 0 then 1 else 0) ∧ M' = M) (zm_B G nc sh) (zm_A G)) 0 0 (zm_A G) := by
  refine zr_met (by decide +kernel) (Nat.le_of_ble_eq_true rfl) ?_
  intro p0 e0 s0 m0 below meth c0 ls hS hK hlk hr hl hI
  have hx := hS.1
  have hb := hS.2.1
  have hl : zl_has ls 1 [some (.int x)] := hl
  refine zr_iload_n hx hb kd_Mo_noStrip_0 hl rfl ?_
  refine lv_if_lt (tgt := 10) hx hb kd_Mo_noStrip_1 (by decide) (fun h1 => ?_) (fun h1 => ?_)
  · skip
    refine lv_iconst (v := 1) hx hb kd_Mo_noStrip_10 (by decide) ?_
    refine lv_goto (tgt := 15) hx hb kd_Mo_noStrip_11 (by decide) ?_
    exact zr_zret hS hK hlk hr (by decide) hI kd_Mo_noStrip_15 (⟨by simp [zf_in, *], rfl⟩)
  · skip
    refine zr_iload_n hx hb kd_Mo_noStrip_4 hl rfl ?_
    refine lv_bipush (v := 7) hx hb kd_Mo_noStrip_5 (by decide) ?_
    refine lv_icmp_le (tgt := 14) hx hb kd_Mo_noStrip_7 (by decide) (fun h7 => ?_) (fun h7 => ?_)
    · skip
      refine lv_iconst (v := 0) hx hb kd_Mo_noStrip_14 (by decide) ?_
      exact zr_zret hS hK hlk hr (by decide) hI kd_Mo_noStrip_15 (⟨by simp [zf_in, *], rfl⟩)
    · skip
      refine lv_iconst (v := 1) hx hb kd_Mo_noStrip_10 (by decide) ?_
      refine lv_goto (tgt := 15) hx hb kd_Mo_noStrip_11 (by decide) ?_
      exact zr_zret hS hK hlk hr (by decide) hI kd_Mo_noStrip_15 (⟨by simp [zf_in, *], rfl⟩)
/-- a feeds b, in the reference -/
def zgf (M : zm_T) (a b : Nat) : Prop := a < 8 ∧ b < 8 ∧ (M.1 163 a = nI b ∨ (a < 7 ∧ 3 < b ∧ b < 7 ∧ ¬ M.1 164 (3 * a + b - 4) ≤ 0))
set_option maxRecDepth 100000 in
set_option maxHeartbeats 4000000 in
theorem c_Mo_feeds (l : Launch) (G : zg_T) (M : zm_T) (hL : zL M.2) (a b : Nat) (h8a : a < 8) (h8b : b < 8) : Met l ky_Mo_feeds (zr_ws ky_Mo_feeds kc_Mo_feeds 3 (some .boolean)) (zr_rm 0) (va_Pc [.ref (G.2.2.1 + 151), .int (nI a), .int (nI b)] (zm_B G 183 zs M)) (va_Qi (fun (r : Int32) (M' : zm_T) => zt_is r (zgf M a b) ∧ M' = M) (zm_B G 183 zs) (zm_A G)) 0 0 (zm_A G) := by
  refine zr_met (by decide +kernel) (Nat.le_of_ble_eq_true rfl) ?_
  intro p0 e0 s0 m0 below meth c0 ls hS hK hlk hr hl hI
  have hx := hS.1
  have hb := hS.2.1
  have hl : zl_has ls 3 [some (.ref (G.2.2.1 + 151)), some (.int (nI a)), some (.int (nI b))] := hl
  have ea : (nI a).toNatClampNeg = a := zn_cl (by omega)
  have ei : 4 ≤ 3 * a + b → (3 : Int32) * nI a + nI b - 4 = nI (3 * a + b - 4) := fun h => by
    rw [show (3 : Int32) = nI 3 from rfl, show (4 : Int32) = nI 4 from rfl, zn_mulI, nI_add, pk_sub h]
  have n7 : ¬ (7 : Int32) ≤ nI a → a < 7 := fun h => Nat.lt_of_not_le (fun q => h (zn_le (n := 7) rfl q (by omega)))
  have m7 : ¬ (7 : Int32) ≤ nI b → b < 7 := fun h => Nat.lt_of_not_le (fun q => h (zn_le (n := 7) rfl q (by omega)))
  have m3 : ¬ nI b ≤ (3 : Int32) → 3 < b := fun h => Nat.lt_of_not_le (fun q => h (nI_le (b := 3) q (by omega)))
  refine zr_aload_n hx hb kd_Mo_feeds_0 hl rfl ?_
  refine zr_getr hS hK kf_Mo_44 hI ha_MO hs_MO (zL_mo hL (k := 12) (by decide) (by decide)) kd_Mo_feeds_1 ?_
  refine zr_iload_n hx hb kd_Mo_feeds_4 hl rfl ?_
  refine zr_iald hS hK hI ha_MO_12 hs_MO_12 (by first | assumption | exact vp_in_nI (by omega) (by decide) | (rw [nI_add]; exact vp_in_nI (by omega) (by decide))) kd_Mo_feeds_5 ?_
  refine zr_iload_n hx hb kd_Mo_feeds_6 hl rfl ?_
  refine lv_icmp_eq (tgt := 42) hx hb kd_Mo_feeds_7 (by decide) (fun h7 => ?_) (fun h7 => ?_)
  · skip
    refine lv_iconst (v := 1) hx hb kd_Mo_feeds_42 (by decide) ?_
    refine lv_goto (tgt := 47) hx hb kd_Mo_feeds_43 (by decide) ?_
    exact zr_zret hS hK hlk hr (by decide) hI kd_Mo_feeds_47 (⟨by
        first
        | exact Or.inl ⟨rfl, h8a, h8b, Or.inl (by rw [ea] at h7; exact h7)⟩
        | exact Or.inl ⟨rfl, h8a, h8b, Or.inr ⟨q1, q2, q3, by rw [ej] at h39; exact h39⟩⟩
        | (refine Or.inr ⟨rfl, fun h => ?_⟩
           rw [ea] at h7
           rcases h.2.2 with h | ⟨g1, g2, g3, g4⟩
           · exact h7 h
           · first
             | exact zn_ge (n := 7) rfl g1 (by decide) h13
             | exact nI_ge (a := 3) g2 (by omega) h18
             | exact zn_ge (n := 7) rfl g3 (by decide) h24
             | exact g4 (by rw [ej] at h39; exact h39)), rfl⟩)
  · skip
    refine zr_iload_n hx hb kd_Mo_feeds_10 hl rfl ?_
    refine lv_bipush (v := 7) hx hb kd_Mo_feeds_11 (by decide) ?_
    refine lv_icmp_ge (tgt := 46) hx hb kd_Mo_feeds_13 (by decide) (fun h13 => ?_) (fun h13 => ?_)
    · skip
      refine lv_iconst (v := 0) hx hb kd_Mo_feeds_46 (by decide) ?_
      exact zr_zret hS hK hlk hr (by decide) hI kd_Mo_feeds_47 (⟨by
          first
          | exact Or.inl ⟨rfl, h8a, h8b, Or.inl (by rw [ea] at h7; exact h7)⟩
          | exact Or.inl ⟨rfl, h8a, h8b, Or.inr ⟨q1, q2, q3, by rw [ej] at h39; exact h39⟩⟩
          | (refine Or.inr ⟨rfl, fun h => ?_⟩
             rw [ea] at h7
             rcases h.2.2 with h | ⟨g1, g2, g3, g4⟩
             · exact h7 h
             · first
               | exact zn_ge (n := 7) rfl g1 (by decide) h13
               | exact nI_ge (a := 3) g2 (by omega) h18
               | exact zn_ge (n := 7) rfl g3 (by decide) h24
               | exact g4 (by rw [ej] at h39; exact h39)), rfl⟩)
    · skip
      refine zr_iload_n hx hb kd_Mo_feeds_16 hl rfl ?_
      refine lv_iconst (v := 3) hx hb kd_Mo_feeds_17 (by decide) ?_
      refine lv_icmp_le (tgt := 46) hx hb kd_Mo_feeds_18 (by decide) (fun h18 => ?_) (fun h18 => ?_)
      · skip
        refine lv_iconst (v := 0) hx hb kd_Mo_feeds_46 (by decide) ?_
        exact zr_zret hS hK hlk hr (by decide) hI kd_Mo_feeds_47 (⟨by
            first
            | exact Or.inl ⟨rfl, h8a, h8b, Or.inl (by rw [ea] at h7; exact h7)⟩
            | exact Or.inl ⟨rfl, h8a, h8b, Or.inr ⟨q1, q2, q3, by rw [ej] at h39; exact h39⟩⟩
            | (refine Or.inr ⟨rfl, fun h => ?_⟩
               rw [ea] at h7
               rcases h.2.2 with h | ⟨g1, g2, g3, g4⟩
               · exact h7 h
               · first
                 | exact zn_ge (n := 7) rfl g1 (by decide) h13
                 | exact nI_ge (a := 3) g2 (by omega) h18
                 | exact zn_ge (n := 7) rfl g3 (by decide) h24
                 | exact g4 (by rw [ej] at h39; exact h39)), rfl⟩)
      · skip
        refine zr_iload_n hx hb kd_Mo_feeds_21 hl rfl ?_
        refine lv_bipush (v := 7) hx hb kd_Mo_feeds_22 (by decide) ?_
        refine lv_icmp_ge (tgt := 46) hx hb kd_Mo_feeds_24 (by decide) (fun h24 => ?_) (fun h24 => ?_)
        · skip
          refine lv_iconst (v := 0) hx hb kd_Mo_feeds_46 (by decide) ?_
          exact zr_zret hS hK hlk hr (by decide) hI kd_Mo_feeds_47 (⟨by
              first
              | exact Or.inl ⟨rfl, h8a, h8b, Or.inl (by rw [ea] at h7; exact h7)⟩
              | exact Or.inl ⟨rfl, h8a, h8b, Or.inr ⟨q1, q2, q3, by rw [ej] at h39; exact h39⟩⟩
              | (refine Or.inr ⟨rfl, fun h => ?_⟩
                 rw [ea] at h7
                 rcases h.2.2 with h | ⟨g1, g2, g3, g4⟩
                 · exact h7 h
                 · first
                   | exact zn_ge (n := 7) rfl g1 (by decide) h13
                   | exact nI_ge (a := 3) g2 (by omega) h18
                   | exact zn_ge (n := 7) rfl g3 (by decide) h24
                   | exact g4 (by rw [ej] at h39; exact h39)), rfl⟩)
        · skip
          refine zr_aload_n hx hb kd_Mo_feeds_27 hl rfl ?_
          refine zr_getr hS hK kf_Mo_47 hI ha_MO hs_MO (zL_mo hL (k := 13) (by decide) (by decide)) kd_Mo_feeds_28 ?_
          refine lv_iconst (v := 3) hx hb kd_Mo_feeds_31 (by decide) ?_
          refine zr_iload_n hx hb kd_Mo_feeds_32 hl rfl ?_
          refine lv_imul hx hb kd_Mo_feeds_33 ?_
          refine zr_iload_n hx hb kd_Mo_feeds_34 hl rfl ?_
          refine lv_iadd hx hb kd_Mo_feeds_35 ?_
          refine lv_iconst (v := 4) hx hb kd_Mo_feeds_36 (by decide) ?_
          refine lv_isub hx hb kd_Mo_feeds_37 ?_
          have q1 := n7 h13
          have q2 := m3 h18
          have q3 := m7 h24
          have ej : (nI (3 * a + b - 4)).toNatClampNeg = 3 * a + b - 4 := zn_cl (by omega)
          rw [ei (by omega)]
          refine zr_iald hS hK hI ha_MO_13 hs_MO_13 (vp_in_nI (by omega) (by decide)) kd_Mo_feeds_38 ?_
          refine lv_if_le (tgt := 46) hx hb kd_Mo_feeds_39 (by decide) (fun h39 => ?_) (fun h39 => ?_)
          · skip
            refine lv_iconst (v := 0) hx hb kd_Mo_feeds_46 (by decide) ?_
            exact zr_zret hS hK hlk hr (by decide) hI kd_Mo_feeds_47 (⟨by
                first
                | exact Or.inl ⟨rfl, h8a, h8b, Or.inl (by rw [ea] at h7; exact h7)⟩
                | exact Or.inl ⟨rfl, h8a, h8b, Or.inr ⟨q1, q2, q3, by rw [ej] at h39; exact h39⟩⟩
                | (refine Or.inr ⟨rfl, fun h => ?_⟩
                   rw [ea] at h7
                   rcases h.2.2 with h | ⟨g1, g2, g3, g4⟩
                   · exact h7 h
                   · first
                     | exact zn_ge (n := 7) rfl g1 (by decide) h13
                     | exact nI_ge (a := 3) g2 (by omega) h18
                     | exact zn_ge (n := 7) rfl g3 (by decide) h24
                     | exact g4 (by rw [ej] at h39; exact h39)), rfl⟩)
          · skip
            refine lv_iconst (v := 1) hx hb kd_Mo_feeds_42 (by decide) ?_
            refine lv_goto (tgt := 47) hx hb kd_Mo_feeds_43 (by decide) ?_
            exact zr_zret hS hK hlk hr (by decide) hI kd_Mo_feeds_47 (⟨by
                first
                | exact Or.inl ⟨rfl, h8a, h8b, Or.inl (by rw [ea] at h7; exact h7)⟩
                | exact Or.inl ⟨rfl, h8a, h8b, Or.inr ⟨q1, q2, q3, by rw [ej] at h39; exact h39⟩⟩
                | (refine Or.inr ⟨rfl, fun h => ?_⟩
                   rw [ea] at h7
                   rcases h.2.2 with h | ⟨g1, g2, g3, g4⟩
                   · exact h7 h
                   · first
                     | exact zn_ge (n := 7) rfl g1 (by decide) h13
                     | exact nI_ge (a := 3) g2 (by omega) h18
                     | exact zn_ge (n := 7) rfl g3 (by decide) h24
                     | exact g4 (by rw [ej] at h39; exact h39)), rfl⟩)
/-- the reference's least free clip, or 16 -/
def zg_fr (M : zm_T) (n : Nat) : Prop := n ≤ 16 ∧ (∀ c, c < n → ¬ M.1 154 c = 0) ∧ (n < 16 → M.1 154 n = 0)
set_option maxRecDepth 100000 in
set_option maxHeartbeats 4000000 in
theorem c_Mo_freeClip (l : Launch) (G : zg_T) (M : zm_T) (hL : zL M.2)  : Met l ky_Mo_freeClip (zr_ws ky_Mo_freeClip kc_Mo_freeClip 2 (some .int)) (zr_rm 0) (va_Pc [.ref (G.2.2.1 + 151)] (zm_B G 183 zs M)) (va_Qi (fun (r : Int32) (M' : zm_T) => (∃ n, zg_fr M n ∧ r = if n < 16 then nI n else -1) ∧ M' = M) (zm_B G 183 zs) (zm_A G)) 0 0 (zm_A G) := by
  refine zr_met (by decide +kernel) (Nat.le_of_ble_eq_true rfl) ?_
  intro p0 e0 s0 m0 below meth c0 ls hS hK hlk hr hl hI
  have hx := hS.1
  have hb := hS.2.1
  have hl : zl_has ls 2 [some (.ref (G.2.2.1 + 151)), none] := hl
  have loop : ∀ (k c : Nat) (H : Heap) (locs : List Loc) (ls : Array Slot), c + k = 16 → (∀ d, d < c → ¬ M.1 154 d = 0) → zl_has ls 2 [some (.ref (G.2.2.1 + 151)), some (.int (nI c))] → zm_I G 183 zs M s0 H locs → W p0 l e0 (zr_rm 0) s0 m0 ([.ref (G.2.2.1 + 151)] : List Value).toArray below meth c0 H locs 0 0 (MQ below (va_Qi (fun (r : Int32) (M' : zm_T) => (∃ n, zg_fr M n ∧ r = if n < 16 then nI n else -1) ∧ M' = M) (zm_B G 183 zs) (zm_A G)) ([.ref (G.2.2.1 + 151)] : List Value).toArray s0 0 0 (zm_A G)) (F0 m0 2 ls []) := by
    intro k
    induction k with
    | zero =>
      intro c H locs ls hc hd hl hI
      obtain rfl : c = 16 := by omega
      refine zr_iload_n hx hb kd_Mo_freeClip_2 hl rfl ?_
      refine lv_bipush (v := 16) hx hb kd_Mo_freeClip_3 (by decide) ?_
      refine lv_icmp_ge (tgt := 25) hx hb kd_Mo_freeClip_5 (by decide) (fun h5 => ?_) (fun h5 => absurd (by decide) h5)
      refine lv_iconst (v := -1) hx hb kd_Mo_freeClip_25 (by decide) ?_
      exact zr_iret hS hK hlk hr hI kd_Mo_freeClip_26 (⟨⟨16, ⟨by omega, hd, fun h => absurd h (by omega)⟩, rfl⟩, rfl⟩)
    | succ k ih =>
      intro c H locs ls hc hd hl hI
      have ec : (nI c).toNatClampNeg = c := zn_cl (by omega)
      refine zr_iload_n hx hb kd_Mo_freeClip_2 hl rfl ?_
      refine lv_bipush (v := 16) hx hb kd_Mo_freeClip_3 (by decide) ?_
      refine lv_icmp_ge (tgt := 25) hx hb kd_Mo_freeClip_5 (by decide) (fun h5 => absurd h5 (zn_ge (n := 16) rfl (by omega) (by decide))) (fun h5 => ?_)
      refine zr_aload_n hx hb kd_Mo_freeClip_8 hl rfl ?_
      refine zr_getr hS hK kf_Mo_16 hI ha_MO hs_MO (zL_mo hL (k := 3) (by decide) (by decide)) kd_Mo_freeClip_9 ?_
      refine zr_iload_n hx hb kd_Mo_freeClip_12 hl rfl ?_
      refine zr_zald hS hK hI ha_MO_3 hs_MO_3 (vp_in_nI (by omega) (by decide)) kd_Mo_freeClip_13 ?_
      refine lv_if_ne (tgt := 19) hx hb kd_Mo_freeClip_14 (by decide) (fun h14 => ?_) (fun h14 => ?_)
      · skip
        refine zr_iinc hx hb kd_Mo_freeClip_19 hl (by decide) rfl rfl (fun ls hl => ?_)
        refine lv_goto (tgt := 2) hx hb kd_Mo_freeClip_22 (by decide) ?_
        refine ih (c + 1) H locs ls (by omega) (fun d hd' => ?_) (by rw [nI_succ]; exact hl) hI
        by_cases e : d = c
        · subst e; rw [ec] at h14; exact h14
        · exact hd d (by omega)
      · skip
        refine zr_iload_n hx hb kd_Mo_freeClip_17 hl rfl ?_
        exact zr_iret hS hK hlk hr hI kd_Mo_freeClip_18 (⟨⟨c, ⟨by omega, hd, fun _ => by rw [ec] at h14; exact h14⟩, by rw [if_pos (by omega)]⟩, rfl⟩)
  refine lv_iconst (v := 0) hx hb kd_Mo_freeClip_0 (by decide) ?_
  refine zr_istore_n hx hb kd_Mo_freeClip_1 hl (by decide) rfl (fun ls hl => ?_)
  exact loop 16 0 _ _ _ (by omega) (fun d hd => absurd hd (by omega)) hl hI
/-- the reference's clip c lies in the way -/
def zg_tk (M : zm_T) (t x n o : Int32) (c : Nat) : Prop := ¬ M.1 154 c = 0 ∧ ¬ nI c = o ∧ M.1 155 c = t ∧ ¬ M.1 156 c + M.1 159 c ≤ x ∧ ¬ x + n ≤ M.1 156 c
set_option maxRecDepth 100000 in
set_option maxHeartbeats 4000000 in
theorem c_Mo_isTaken (l : Launch) (G : zg_T) (M : zm_T) (hL : zL M.2) (t x n o : Int32) : Met l ky_Mo_isTaken (zr_ws ky_Mo_isTaken kc_Mo_isTaken 7 (some .boolean)) (zr_rm 0) (va_Pc [.ref (G.2.2.1 + 151), .int t, .int x, .int n, .int o] (zm_B G 183 zs M)) (va_Qi (fun (r : Int32) (M' : zm_T) => zt_is r (∃ c, c < 16 ∧ zg_tk M t x n o c) ∧ M' = M) (zm_B G 183 zs) (zm_A G)) 0 0 (zm_A G) := by
  refine zr_met (by decide +kernel) (Nat.le_of_ble_eq_true rfl) ?_
  intro p0 e0 s0 m0 below meth c0 ls hS hK hlk hr hl hI
  have hx := hS.1
  have hb := hS.2.1
  have hl : zl_has ls 7 [some (.ref (G.2.2.1 + 151)), some (.int t), some (.int x), some (.int n), some (.int o), none, none] := hl
  have loop : ∀ (k c : Nat) (v : Int32) (H : Heap) (locs : List Loc) (ls : Array Slot), c + k = 16 → zt_is v (∃ d, d < c ∧ zg_tk M t x n o d) → zl_has ls 7 [some (.ref (G.2.2.1 + 151)), some (.int t), some (.int x), some (.int n), some (.int o), some (.int v), some (.int (nI c))] → zm_I G 183 zs M s0 H locs → W p0 l e0 (zr_rm 0) s0 m0 ([.ref (G.2.2.1 + 151), .int t, .int x, .int n, .int o] : List Value).toArray below meth c0 H locs 0 0 (MQ below (va_Qi (fun (r : Int32) (M' : zm_T) => zt_is r (∃ c, c < 16 ∧ zg_tk M t x n o c) ∧ M' = M) (zm_B G 183 zs) (zm_A G)) ([.ref (G.2.2.1 + 151), .int t, .int x, .int n, .int o] : List Value).toArray s0 0 0 (zm_A G)) (F0 m0 6 ls []) := by
    intro k
    induction k with
    | zero =>
      intro c v H locs ls hc hv hl hI
      obtain rfl : c = 16 := by omega
      have hz : narrow .boolean (.int v) = .int v := by rcases zt_is_01 hv with rfl | rfl <;> rfl
      refine zr_iload hx hb kd_Mo_isTaken_6 hl rfl ?_
      refine lv_bipush (v := 16) hx hb kd_Mo_isTaken_8 (by decide) ?_
      refine lv_icmp_ge (tgt := 91) hx hb kd_Mo_isTaken_10 (by decide) (fun h10 => ?_) (fun h10 => absurd (by decide) h10)
      refine zr_iload hx hb kd_Mo_isTaken_91 hl rfl ?_
      exact zr_zret hS hK hlk hr (hz) hI kd_Mo_isTaken_93 (⟨hv, rfl⟩)
    | succ k ih =>
      intro c v H locs ls hc hv hl hI
      have ec : (nI c).toNatClampNeg = c := zn_cl (by omega)
      have no : ¬ zg_tk M t x n o c → v = 0 → zt_is 0 (∃ d, d < c + 1 ∧ zg_tk M t x n o d) := fun h1 h2 => Or.inr ⟨rfl, fun ⟨d, hd, h⟩ => by
        by_cases e : d = c
        · subst e; exact h1 h
        · exact zt_is_f hv h2 ⟨d, by omega, h⟩⟩
      refine zr_iload hx hb kd_Mo_isTaken_6 hl rfl ?_
      refine lv_bipush (v := 16) hx hb kd_Mo_isTaken_8 (by decide) ?_
      refine lv_icmp_ge (tgt := 91) hx hb kd_Mo_isTaken_10 (by decide) (fun h10 => absurd h10 (zn_ge (n := 16) rfl (by omega) (by decide))) (fun h10 => ?_)
      refine zr_iload hx hb kd_Mo_isTaken_13 hl rfl ?_
      refine lv_if_ne (tgt := 78) hx hb kd_Mo_isTaken_15 (by decide) (fun h15 => ?_) (fun h15 => ?_)
      · skip
        refine lv_iconst (v := 1) hx hb kd_Mo_isTaken_78 (by decide) ?_
        refine lv_goto (tgt := 83) hx hb kd_Mo_isTaken_79 (by decide) ?_
        refine zr_istore hx hb kd_Mo_isTaken_83 hl (by decide) rfl (fun ls hl => ?_)
        refine zr_iinc hx hb kd_Mo_isTaken_85 hl (by decide) rfl rfl (fun ls hl => ?_)
        refine lv_goto (tgt := 6) hx hb kd_Mo_isTaken_88 (by decide) ?_
        refine ih (c + 1) _ H locs ls (by omega) ?_ (by rw [nI_succ]; exact hl) hI
        simp only [ec] at *
        first
        | exact Or.inl ⟨rfl, ⟨c, by omega, ⟨h25, h32, h43, h62, h75⟩⟩⟩
        | (obtain ⟨d, hd, h⟩ := zt_is_t hv h15; exact Or.inl ⟨rfl, d, by omega, h⟩)
        | exact no (fun h => h.1 h25) h15
        | exact no (fun h => h.2.1 h32) h15
        | exact no (fun h => h43 h.2.2.1) h15
        | exact no (fun h => h.2.2.2.1 h62) h15
        | exact no (fun h => h.2.2.2.2 h75) h15
      · skip
        refine zr_aload_n hx hb kd_Mo_isTaken_18 hl rfl ?_
        refine zr_getr hS hK kf_Mo_16 hI ha_MO hs_MO (zL_mo hL (k := 3) (by decide) (by decide)) kd_Mo_isTaken_19 ?_
        refine zr_iload hx hb kd_Mo_isTaken_22 hl rfl ?_
        refine zr_zald hS hK hI ha_MO_3 hs_MO_3 (vp_in_nI (by omega) (by decide)) kd_Mo_isTaken_24 ?_
        refine lv_if_eq (tgt := 82) hx hb kd_Mo_isTaken_25 (by decide) (fun h25 => ?_) (fun h25 => ?_)
        · skip
          refine lv_iconst (v := 0) hx hb kd_Mo_isTaken_82 (by decide) ?_
          refine zr_istore hx hb kd_Mo_isTaken_83 hl (by decide) rfl (fun ls hl => ?_)
          refine zr_iinc hx hb kd_Mo_isTaken_85 hl (by decide) rfl rfl (fun ls hl => ?_)
          refine lv_goto (tgt := 6) hx hb kd_Mo_isTaken_88 (by decide) ?_
          refine ih (c + 1) _ H locs ls (by omega) ?_ (by rw [nI_succ]; exact hl) hI
          simp only [ec] at *
          first
          | exact Or.inl ⟨rfl, ⟨c, by omega, ⟨h25, h32, h43, h62, h75⟩⟩⟩
          | (obtain ⟨d, hd, h⟩ := zt_is_t hv h15; exact Or.inl ⟨rfl, d, by omega, h⟩)
          | exact no (fun h => h.1 h25) h15
          | exact no (fun h => h.2.1 h32) h15
          | exact no (fun h => h43 h.2.2.1) h15
          | exact no (fun h => h.2.2.2.1 h62) h15
          | exact no (fun h => h.2.2.2.2 h75) h15
        · skip
          refine zr_iload hx hb kd_Mo_isTaken_28 hl rfl ?_
          refine zr_iload hx hb kd_Mo_isTaken_30 hl rfl ?_
          refine lv_icmp_eq (tgt := 82) hx hb kd_Mo_isTaken_32 (by decide) (fun h32 => ?_) (fun h32 => ?_)
          · skip
            refine lv_iconst (v := 0) hx hb kd_Mo_isTaken_82 (by decide) ?_
            refine zr_istore hx hb kd_Mo_isTaken_83 hl (by decide) rfl (fun ls hl => ?_)
            refine zr_iinc hx hb kd_Mo_isTaken_85 hl (by decide) rfl rfl (fun ls hl => ?_)
            refine lv_goto (tgt := 6) hx hb kd_Mo_isTaken_88 (by decide) ?_
            refine ih (c + 1) _ H locs ls (by omega) ?_ (by rw [nI_succ]; exact hl) hI
            simp only [ec] at *
            first
            | exact Or.inl ⟨rfl, ⟨c, by omega, ⟨h25, h32, h43, h62, h75⟩⟩⟩
            | (obtain ⟨d, hd, h⟩ := zt_is_t hv h15; exact Or.inl ⟨rfl, d, by omega, h⟩)
            | exact no (fun h => h.1 h25) h15
            | exact no (fun h => h.2.1 h32) h15
            | exact no (fun h => h43 h.2.2.1) h15
            | exact no (fun h => h.2.2.2.1 h62) h15
            | exact no (fun h => h.2.2.2.2 h75) h15
          · skip
            refine zr_aload_n hx hb kd_Mo_isTaken_35 hl rfl ?_
            refine zr_getr hS hK kf_Mo_20 hI ha_MO hs_MO (zL_mo hL (k := 4) (by decide) (by decide)) kd_Mo_isTaken_36 ?_
            refine zr_iload hx hb kd_Mo_isTaken_39 hl rfl ?_
            refine zr_iald hS hK hI ha_MO_4 hs_MO_4 (vp_in_nI (by omega) (by decide)) kd_Mo_isTaken_41 ?_
            refine zr_iload_n hx hb kd_Mo_isTaken_42 hl rfl ?_
            refine lv_icmp_ne (tgt := 82) hx hb kd_Mo_isTaken_43 (by decide) (fun h43 => ?_) (fun h43 => ?_)
            · skip
              refine lv_iconst (v := 0) hx hb kd_Mo_isTaken_82 (by decide) ?_
              refine zr_istore hx hb kd_Mo_isTaken_83 hl (by decide) rfl (fun ls hl => ?_)
              refine zr_iinc hx hb kd_Mo_isTaken_85 hl (by decide) rfl rfl (fun ls hl => ?_)
              refine lv_goto (tgt := 6) hx hb kd_Mo_isTaken_88 (by decide) ?_
              refine ih (c + 1) _ H locs ls (by omega) ?_ (by rw [nI_succ]; exact hl) hI
              simp only [ec] at *
              first
              | exact Or.inl ⟨rfl, ⟨c, by omega, ⟨h25, h32, h43, h62, h75⟩⟩⟩
              | (obtain ⟨d, hd, h⟩ := zt_is_t hv h15; exact Or.inl ⟨rfl, d, by omega, h⟩)
              | exact no (fun h => h.1 h25) h15
              | exact no (fun h => h.2.1 h32) h15
              | exact no (fun h => h43 h.2.2.1) h15
              | exact no (fun h => h.2.2.2.1 h62) h15
              | exact no (fun h => h.2.2.2.2 h75) h15
            · skip
              refine zr_iload_n hx hb kd_Mo_isTaken_46 hl rfl ?_
              refine zr_aload_n hx hb kd_Mo_isTaken_47 hl rfl ?_
              refine zr_getr hS hK kf_Mo_23 hI ha_MO hs_MO (zL_mo hL (k := 5) (by decide) (by decide)) kd_Mo_isTaken_48 ?_
              refine zr_iload hx hb kd_Mo_isTaken_51 hl rfl ?_
              refine zr_iald hS hK hI ha_MO_5 hs_MO_5 (vp_in_nI (by omega) (by decide)) kd_Mo_isTaken_53 ?_
              refine zr_aload_n hx hb kd_Mo_isTaken_54 hl rfl ?_
              refine zr_getr hS hK kf_Mo_32 hI ha_MO hs_MO (zL_mo hL (k := 8) (by decide) (by decide)) kd_Mo_isTaken_55 ?_
              refine zr_iload hx hb kd_Mo_isTaken_58 hl rfl ?_
              refine zr_iald hS hK hI ha_MO_8 hs_MO_8 (vp_in_nI (by omega) (by decide)) kd_Mo_isTaken_60 ?_
              refine lv_iadd hx hb kd_Mo_isTaken_61 ?_
              refine lv_icmp_ge (tgt := 82) hx hb kd_Mo_isTaken_62 (by decide) (fun h62 => ?_) (fun h62 => ?_)
              · skip
                refine lv_iconst (v := 0) hx hb kd_Mo_isTaken_82 (by decide) ?_
                refine zr_istore hx hb kd_Mo_isTaken_83 hl (by decide) rfl (fun ls hl => ?_)
                refine zr_iinc hx hb kd_Mo_isTaken_85 hl (by decide) rfl rfl (fun ls hl => ?_)
                refine lv_goto (tgt := 6) hx hb kd_Mo_isTaken_88 (by decide) ?_
                refine ih (c + 1) _ H locs ls (by omega) ?_ (by rw [nI_succ]; exact hl) hI
                simp only [ec] at *
                first
                | exact Or.inl ⟨rfl, ⟨c, by omega, ⟨h25, h32, h43, h62, h75⟩⟩⟩
                | (obtain ⟨d, hd, h⟩ := zt_is_t hv h15; exact Or.inl ⟨rfl, d, by omega, h⟩)
                | exact no (fun h => h.1 h25) h15
                | exact no (fun h => h.2.1 h32) h15
                | exact no (fun h => h43 h.2.2.1) h15
                | exact no (fun h => h.2.2.2.1 h62) h15
                | exact no (fun h => h.2.2.2.2 h75) h15
              · skip
                refine zr_aload_n hx hb kd_Mo_isTaken_65 hl rfl ?_
                refine zr_getr hS hK kf_Mo_23 hI ha_MO hs_MO (zL_mo hL (k := 5) (by decide) (by decide)) kd_Mo_isTaken_66 ?_
                refine zr_iload hx hb kd_Mo_isTaken_69 hl rfl ?_
                refine zr_iald hS hK hI ha_MO_5 hs_MO_5 (vp_in_nI (by omega) (by decide)) kd_Mo_isTaken_71 ?_
                refine zr_iload_n hx hb kd_Mo_isTaken_72 hl rfl ?_
                refine zr_iload_n hx hb kd_Mo_isTaken_73 hl rfl ?_
                refine lv_iadd hx hb kd_Mo_isTaken_74 ?_
                refine lv_icmp_ge (tgt := 82) hx hb kd_Mo_isTaken_75 (by decide) (fun h75 => ?_) (fun h75 => ?_)
                · skip
                  refine lv_iconst (v := 0) hx hb kd_Mo_isTaken_82 (by decide) ?_
                  refine zr_istore hx hb kd_Mo_isTaken_83 hl (by decide) rfl (fun ls hl => ?_)
                  refine zr_iinc hx hb kd_Mo_isTaken_85 hl (by decide) rfl rfl (fun ls hl => ?_)
                  refine lv_goto (tgt := 6) hx hb kd_Mo_isTaken_88 (by decide) ?_
                  refine ih (c + 1) _ H locs ls (by omega) ?_ (by rw [nI_succ]; exact hl) hI
                  simp only [ec] at *
                  first
                  | exact Or.inl ⟨rfl, ⟨c, by omega, ⟨h25, h32, h43, h62, h75⟩⟩⟩
                  | (obtain ⟨d, hd, h⟩ := zt_is_t hv h15; exact Or.inl ⟨rfl, d, by omega, h⟩)
                  | exact no (fun h => h.1 h25) h15
                  | exact no (fun h => h.2.1 h32) h15
                  | exact no (fun h => h43 h.2.2.1) h15
                  | exact no (fun h => h.2.2.2.1 h62) h15
                  | exact no (fun h => h.2.2.2.2 h75) h15
                · skip
                  refine lv_iconst (v := 1) hx hb kd_Mo_isTaken_78 (by decide) ?_
                  refine lv_goto (tgt := 83) hx hb kd_Mo_isTaken_79 (by decide) ?_
                  refine zr_istore hx hb kd_Mo_isTaken_83 hl (by decide) rfl (fun ls hl => ?_)
                  refine zr_iinc hx hb kd_Mo_isTaken_85 hl (by decide) rfl rfl (fun ls hl => ?_)
                  refine lv_goto (tgt := 6) hx hb kd_Mo_isTaken_88 (by decide) ?_
                  refine ih (c + 1) _ H locs ls (by omega) ?_ (by rw [nI_succ]; exact hl) hI
                  simp only [ec] at *
                  first
                  | exact Or.inl ⟨rfl, ⟨c, by omega, ⟨h25, h32, h43, h62, h75⟩⟩⟩
                  | (obtain ⟨d, hd, h⟩ := zt_is_t hv h15; exact Or.inl ⟨rfl, d, by omega, h⟩)
                  | exact no (fun h => h.1 h25) h15
                  | exact no (fun h => h.2.1 h32) h15
                  | exact no (fun h => h43 h.2.2.1) h15
                  | exact no (fun h => h.2.2.2.1 h62) h15
                  | exact no (fun h => h.2.2.2.2 h75) h15
  refine lv_iconst (v := 0) hx hb kd_Mo_isTaken_0 (by decide) ?_
  refine zr_istore hx hb kd_Mo_isTaken_1 hl (by decide) rfl (fun ls hl => ?_)
  refine lv_iconst (v := 0) hx hb kd_Mo_isTaken_3 (by decide) ?_
  refine zr_istore hx hb kd_Mo_isTaken_4 hl (by decide) rfl (fun ls hl => ?_)
  exact loop 16 0 _ _ _ _ (by omega) (Or.inr ⟨rfl, fun ⟨d, hd, _⟩ => absurd hd (by omega)⟩) hl hI

/-! The reference: an effect works on a whole row; the walk. -/
theorem ze_S_y {k p q : Int} {e : Nat} {x y y' : Nat → Int} (hy : ∀ j, j < e → y' j = y j) (h : ze_S k p q e x y) : ze_S k p q e x y' := by
  unfold ze_S at h ⊢
  by_cases h1 : k = 1
  · rw [if_pos h1] at h ⊢
    exact fun t ht => by rw [hy t ht]; exact h t ht
  rw [if_neg h1] at h ⊢
  by_cases h2 : k = 2
  · rw [if_pos h2] at h ⊢
    obtain ⟨m, m0, hm⟩ := h
    exact ⟨m, m0, fun t ht => by rw [hy t ht]; exact hm t ht⟩
  rw [if_neg h2] at h ⊢
  by_cases h3 : k = 3
  · rw [if_pos h3] at h ⊢
    exact fun t ht => by rw [hy t ht, ze_back_c (x := y') (x' := y) (e := e) hy ht]; exact h t ht
  rw [if_neg h3] at h ⊢
  by_cases h4 : k = 4
  · rw [if_pos h4] at h ⊢
    exact fun t ht => by rw [hy t ht]; exact h t ht
  rw [if_neg h4] at h ⊢
  by_cases h5 : k = 5
  · rw [if_pos h5] at h ⊢
    obtain ⟨m, m0, hm⟩ := h
    exact ⟨m, m0, fun t ht => by rw [hy t ht]; exact hm t ht⟩
  rw [if_neg h5] at h ⊢
  by_cases h6 : k = 6
  · rw [if_pos h6] at h ⊢
    exact fun t ht => by rw [hy t ht]; exact h t ht
  rw [if_neg h6] at h ⊢
  exact fun t ht => by rw [hy t ht]; exact h t ht
set_option maxRecDepth 100000 in
set_option maxHeartbeats 4000000 in
theorem c_Mo_work (l : Launch) (G : zg_T) (M : zm_T) (hL : zL M.2) (kv pv qv : Int32) (e : Nat) (he : e ≤ 1024) (hEK : zE_ok kv.toInt pv.toInt qv.toInt) (hb0 : ∀ j, j < e → -16777216 ≤ (M.1 179 j).toInt ∧ (M.1 179 j).toInt ≤ 16777216) : Met l ky_Mo_work (zr_ws ky_Mo_work kc_Mo_work 10 none) (zr_rm 3) (va_Pc [.ref (G.2.2.1 + 151), .int kv, .int pv, .int qv, .int (nI e)] (zm_B G 183 zs M)) (va_Qv (fun (M' : zm_T) => M'.2 = M.2 ∧ (∀ c j, c ≠ 179 → c ≠ 180 → M'.1 c j = M.1 c j) ∧ ze_S kv.toInt pv.toInt qv.toInt e (fun j => (M.1 179 j).toInt) (fun j => (M'.1 179 j).toInt) ∧ ∀ j, j < e → -16777216 ≤ (M'.1 179 j).toInt ∧ (M'.1 179 j).toInt ≤ 16777216) (zm_B G 183 zs) (zm_A G)) 0 0 (zm_A G) := by
  refine zr_met (by decide +kernel) (Nat.le_of_ble_eq_true rfl) ?_
  intro p0 e0 s0 m0 below meth c0 ls hS hK hlk hr hl hI
  have hx := hS.1
  have hb := hS.2.1
  have hl : zl_has ls 10 [some (.ref (G.2.2.1 + 151)), some (.int kv), some (.int pv), some (.int qv), some (.int (nI e)), none, none, none, none, none] := hl
  obtain ⟨K1, K2, K3, K4, K5, K6⟩ := hEK
  have copy : ∀ (k t : Nat) (M1 M2 : zm_T) (m : Int64) (o8 o9 : Option Value) (H : Heap) (locs : List Loc) (ls : Array Slot), t + k = e → zm_only M M1 180 → zm_only M1 M2 179 → (∀ j, j < t → M2.1 179 j = M1.1 180 j) → ze_S kv.toInt pv.toInt qv.toInt e (fun j => (M.1 179 j).toInt) (fun j => (M1.1 180 j).toInt) → (∀ j, j < e → -16777216 ≤ (M1.1 180 j).toInt ∧ (M1.1 180 j).toInt ≤ 16777216) → zl_has ls 10 [some (.ref (G.2.2.1 + 151)), some (.int kv), some (.int pv), some (.int qv), some (.int (nI e)), some (.long m), none, some (.int (nI t)), o8, o9] → zm_I G 183 zs M2 s0 H locs → W p0 l e0 (zr_rm 3) s0 m0 ([.ref (G.2.2.1 + 151), .int kv, .int pv, .int qv, .int (nI e)] : List Value).toArray below meth c0 H locs 0 0 (MQ below (va_Qv (fun (M' : zm_T) => M'.2 = M.2 ∧ (∀ c j, c ≠ 179 → c ≠ 180 → M'.1 c j = M.1 c j) ∧ ze_S kv.toInt pv.toInt qv.toInt e (fun j => (M.1 179 j).toInt) (fun j => (M'.1 179 j).toInt) ∧ ∀ j, j < e → -16777216 ≤ (M'.1 179 j).toInt ∧ (M'.1 179 j).toInt ≤ 16777216) (zm_B G 183 zs) (zm_A G)) ([.ref (G.2.2.1 + 151), .int kv, .int pv, .int qv, .int (nI e)] : List Value).toArray s0 0 0 (zm_A G)) (F0 m0 259 ls []) := by
    intro k
    induction k with
    | zero =>
      intro t M1 M2 m o8 o9 H locs ls hk ho1 ho2 hc hS' hb1 hl hI
      obtain rfl : t = e := by omega
      have hfr : ∀ c j, c ≠ 179 → c ≠ 180 → M2.1 c j = M.1 c j := fun c j g1 g2 => (ho2.2 c j g1).trans (ho1.2 c j g2)
      have hss : ze_S kv.toInt pv.toInt qv.toInt t (fun j => (M.1 179 j).toInt) (fun j => (M2.1 179 j).toInt) := ze_S_y (fun j hj => congrArg Int32.toInt (hc j hj)) hS'
      refine zr_iload hx hb kd_Mo_work_259 hl rfl ?_
      refine zr_iload hx hb kd_Mo_work_261 hl rfl ?_
      refine lv_icmp_ge (tgt := 286) hx hb kd_Mo_work_263 (by decide) (fun h263 => ?_) (fun h263 => absurd (Int32.le_refl _) h263)
      exact zr_vret hS hK hlk hr hI kd_Mo_work_286 (⟨ho2.1.trans ho1.1, hfr, hss, fun j hj => by rw [hc j hj]; exact hb1 j hj⟩)
    | succ k ih =>
      intro t M1 M2 m o8 o9 H locs ls hk ho1 ho2 hc hS' hb1 hl hI
      have et : (nI t).toNatClampNeg = t := zn_cl (by omega)
      have hL2 : zL M2.2 := by rw [ho2.1, ho1.1]; exact hL
      refine zr_iload hx hb kd_Mo_work_259 hl rfl ?_
      refine zr_iload hx hb kd_Mo_work_261 hl rfl ?_
      refine lv_icmp_ge (tgt := 286) hx hb kd_Mo_work_263 (by decide) (fun h263 => absurd h263 (nI_ge (by omega) (by omega))) (fun h263 => ?_)
      refine zr_aload_n hx hb kd_Mo_work_266 hl rfl ?_
      refine zr_getr hS hK kf_Mo_92 hI ha_MO hs_MO (show _ = some 179 from zL_mo hL2 (k := 28) (by decide) (by decide)) kd_Mo_work_267 ?_
      refine zr_iload hx hb kd_Mo_work_270 hl rfl ?_
      refine zr_aload_n hx hb kd_Mo_work_272 hl rfl ?_
      refine zr_getr hS hK kf_Mo_95 hI ha_MO hs_MO (show _ = some 180 from zL_mo hL2 (k := 29) (by decide) (by decide)) kd_Mo_work_273 ?_
      refine zr_iload hx hb kd_Mo_work_276 hl rfl ?_
      refine zr_iald hS hK hI ha_MO_29 hs_MO_29 (vp_in_nI (by omega) (by decide)) kd_Mo_work_278 ?_
      refine zr_iast hS hK hI ha_MO_28 hs_MO_28 (vp_in_nI (by omega) (by decide)) kd_Mo_work_279 (fun H locs hI => ?_)
      refine zr_iinc hx hb kd_Mo_work_280 hl (by decide) rfl rfl (fun ls hl => ?_)
      refine lv_goto (tgt := 259) hx hb kd_Mo_work_283 (by decide) ?_
      rw [et] at hI
      refine ih (t + 1) M1 _ m _ _ H locs ls (by omega) ho1 (zm_only_u ho2) (fun j hj => ?_) hS' hb1 (by rw [nI_succ]; exact hl) hI
      by_cases e : j = t
      · subst e; rw [zm_ui_at]; exact ho2.2 _ _ (by decide)
      · rw [zm_ui_ne (Or.inr e)]; exact hc j (by omega)
  have loop : ∀ (k t : Nat) (M1 : zm_T) (m : Int64) (o8 o9 : Option Value) (H : Heap) (locs : List Loc) (ls : Array Slot), t + k = e → zm_only M M1 180 → zw_J kv.toInt pv.toInt qv.toInt t m.toInt (fun j => (M.1 179 j).toInt) (fun j => (M1.1 180 j).toInt) → (∀ j, j < t → -16777216 ≤ (M1.1 180 j).toInt ∧ (M1.1 180 j).toInt ≤ 16777216) → zl_has ls 10 [some (.ref (G.2.2.1 + 151)), some (.int kv), some (.int pv), some (.int qv), some (.int (nI e)), some (.long m), none, some (.int (nI t)), o8, o9] → zm_I G 183 zs M1 s0 H locs → W p0 l e0 (zr_rm 3) s0 m0 ([.ref (G.2.2.1 + 151), .int kv, .int pv, .int qv, .int (nI e)] : List Value).toArray below meth c0 H locs 0 0 (MQ below (va_Qv (fun (M' : zm_T) => M'.2 = M.2 ∧ (∀ c j, c ≠ 179 → c ≠ 180 → M'.1 c j = M.1 c j) ∧ ze_S kv.toInt pv.toInt qv.toInt e (fun j => (M.1 179 j).toInt) (fun j => (M'.1 179 j).toInt) ∧ ∀ j, j < e → -16777216 ≤ (M'.1 179 j).toInt ∧ (M'.1 179 j).toInt ≤ 16777216) (zm_B G 183 zs) (zm_A G)) ([.ref (G.2.2.1 + 151), .int kv, .int pv, .int qv, .int (nI e)] : List Value).toArray s0 0 0 (zm_A G)) (F0 m0 6 ls []) := by
    intro k
    induction k with
    | zero =>
      intro t M1 m o8 o9 H locs ls hk ho hJ hb1 hl hI
      obtain rfl : t = e := by omega
      refine zr_iload hx hb kd_Mo_work_6 hl rfl ?_
      refine zr_iload hx hb kd_Mo_work_8 hl rfl ?_
      refine lv_icmp_ge (tgt := 256) hx hb kd_Mo_work_10 (by decide) (fun h10 => ?_) (fun h10 => absurd (Int32.le_refl _) h10)
      refine lv_iconst (v := 0) hx hb kd_Mo_work_256 (by decide) ?_
      refine zr_istore hx hb kd_Mo_work_257 hl (by decide) rfl (fun ls hl => ?_)
      exact copy t 0 M1 M1 m _ _ H locs _ (by omega) ho zm_only_r (fun j hj => absurd hj (by omega)) (zw_J_S hJ) hb1 hl hI
    | succ k ih =>
      intro t M1 m o8 o9 H locs ls hk ho hJ hb1 hl hI
      have et : (nI t).toNatClampNeg = t := zn_cl (by omega)
      have hL1 : zL M1.2 := by rw [ho.1]; exact hL
      have m9 : ∀ j, M1.1 179 j = M.1 179 j := fun j => ho.2 _ _ (by decide)
      have hbt := hb0 t (by omega)
      have htt : (nI t).toInt = t := nI_toInt (by omega)
      have fin : ∀ (x8 m' : Int64) (H : Heap) (locs : List Loc) (ls : Array Slot), (∀ y : Nat → Int, (∀ j, j < t → y j = (M1.1 180 j).toInt) → y t = zi_cut x8.toInt → zw_1 kv.toInt pv.toInt qv.toInt t m.toInt m'.toInt (fun j => (M.1 179 j).toInt) y) → zl_has ls 10 [some (.ref (G.2.2.1 + 151)), some (.int kv), some (.int pv), some (.int qv), some (.int (nI e)), some (.long m'), none, some (.int (nI t)), some (.long x8), none] → zm_I G 183 zs M1 s0 H locs → W p0 l e0 (zr_rm 3) s0 m0 ([.ref (G.2.2.1 + 151), .int kv, .int pv, .int qv, .int (nI e)] : List Value).toArray below meth c0 H locs 0 0 (MQ below (va_Qv (fun (M' : zm_T) => M'.2 = M.2 ∧ (∀ c j, c ≠ 179 → c ≠ 180 → M'.1 c j = M.1 c j) ∧ ze_S kv.toInt pv.toInt qv.toInt e (fun j => (M.1 179 j).toInt) (fun j => (M'.1 179 j).toInt) ∧ ∀ j, j < e → -16777216 ≤ (M'.1 179 j).toInt ∧ (M'.1 179 j).toInt ≤ 16777216) (zm_B G 183 zs) (zm_A G)) ([.ref (G.2.2.1 + 151), .int kv, .int pv, .int qv, .int (nI e)] : List Value).toArray s0 0 0 (zm_A G)) (F0 m0 238 ls []) := by
        intro x8 m' H locs ls h1 hl hI
        refine zr_aload_n hx hb kd_Mo_work_238 hl rfl ?_
        refine zr_getr hS hK kf_Mo_95 hI ha_MO hs_MO (show _ = some 180 from zL_mo hL1 (k := 29) (by decide) (by decide)) kd_Mo_work_239 ?_
        refine zr_iload hx hb kd_Mo_work_242 hl rfl ?_
        refine zr_lload hx hb kd_Mo_work_244 hl rfl ?_
        refine zr_ci (zr_runS hS hK (c_Mo_cut l G 183 zs _ _) km_Mo_159 hI rfl hl.1 (Nat.le_of_ble_eq_true rfl) (by decide) (by decide) kd_Mo_work_246 rfl) hI (fun r246 M246 H locs hp246 hI => ?_)
        obtain ⟨hr246, hM246⟩ := hp246
        rw [hM246] at hI
        refine zr_iast hS hK hI ha_MO_29 hs_MO_29 (vp_in_nI (by omega) (by decide)) kd_Mo_work_249 (fun H locs hI => ?_)
        refine zr_iinc hx hb kd_Mo_work_250 hl (by decide) rfl rfl (fun ls hl => ?_)
        refine lv_goto (tgt := 6) hx hb kd_Mo_work_253 (by decide) ?_
        rw [et] at hI
        have hlow : ∀ j, j < t → ((zm_ui M1 180 t r246).1 180 j).toInt = (M1.1 180 j).toInt := fun j hj => by rw [zm_ui_ne (Or.inr (by omega))]
        refine ih (t + 1) _ m' _ _ H locs ls (by omega) (zm_only_u ho) (zw_J_s (m' := m'.toInt) hlow hJ (h1 _ hlow (by rw [zm_ui_at]; exact hr246))) (fun j hj => ?_) (by rw [nI_succ]; exact hl) hI
        by_cases e : j = t
        · subst e; rw [zm_ui_at, hr246]; exact zi_cut_b _
        · rw [zm_ui_ne (Or.inr e)]; exact hb1 j (by omega)
      have cx : (M.1 179 t).toInt64.toInt = (M.1 179 t).toInt := Int32.toInt_toInt64 _
      have cp : pv.toInt64.toInt = pv.toInt := Int32.toInt_toInt64 _
      have cq : qv.toInt64.toInt = qv.toInt := Int32.toInt_toInt64 _
      have k1 : kv.toInt = 1 → ∀ (H : Heap) (locs : List Loc) (ls : Array Slot), zl_has ls 10 [some (.ref (G.2.2.1 + 151)), some (.int kv), some (.int pv), some (.int qv), some (.int (nI e)), some (.long m), none, some (.int (nI t)), some (.long (M.1 179 t).toInt64), none] → zm_I G 183 zs M1 s0 H locs → W p0 l e0 (zr_rm 3) s0 m0 ([.ref (G.2.2.1 + 151), .int kv, .int pv, .int qv, .int (nI e)] : List Value).toArray below meth c0 H locs 0 0 (MQ below (va_Qv (fun (M' : zm_T) => M'.2 = M.2 ∧ (∀ c j, c ≠ 179 → c ≠ 180 → M'.1 c j = M.1 c j) ∧ ze_S kv.toInt pv.toInt qv.toInt e (fun j => (M.1 179 j).toInt) (fun j => (M'.1 179 j).toInt) ∧ ∀ j, j < e → -16777216 ≤ (M'.1 179 j).toInt ∧ (M'.1 179 j).toInt ≤ 16777216) (zm_B G 183 zs) (zm_A G)) ([.ref (G.2.2.1 + 151), .int kv, .int pv, .int qv, .int (nI e)] : List Value).toArray s0 0 0 (zm_A G)) (F0 m0 64 ls []) := by
        intro hk1 H locs ls hl hI
        have q1 := K1 hk1
        refine zr_lload hx hb kd_Mo_work_64 hl rfl ?_
        refine zr_iload_n hx hb kd_Mo_work_66 hl rfl ?_
        refine lv_i2l hx hb kd_Mo_work_67 rfl ?_
        refine zr_cl (zr_runS hS hK (c_Mo_by l G 183 zs _ _ _ (by omega) (by omega) (by omega) (by omega)) km_Mo_148 hI rfl hl.1 (Nat.le_of_ble_eq_true rfl) (by decide) (by decide) kd_Mo_work_68 rfl) hI (fun r68 M68 H locs hp68 hI => ?_)
        obtain ⟨hr68, hM68⟩ := hp68
        rw [hM68] at hI
        refine zr_lstore hx hb kd_Mo_work_71 hl (by decide) rfl (fun ls hl => ?_)
        refine lv_goto (tgt := 238) hx hb kd_Mo_work_73 (by decide) ?_
        refine fin _ m H locs _ (fun y hy1 hy2 => ?_) hl hI
        unfold zw_1
        rw [if_pos hk1, hy2, hr68, cx, cp]
      have k2 : kv.toInt = 2 → ∀ (H : Heap) (locs : List Loc) (ls : Array Slot), zl_has ls 10 [some (.ref (G.2.2.1 + 151)), some (.int kv), some (.int pv), some (.int qv), some (.int (nI e)), some (.long m), none, some (.int (nI t)), some (.long (M.1 179 t).toInt64), none] → zm_I G 183 zs M1 s0 H locs → W p0 l e0 (zr_rm 3) s0 m0 ([.ref (G.2.2.1 + 151), .int kv, .int pv, .int qv, .int (nI e)] : List Value).toArray below meth c0 H locs 0 0 (MQ below (va_Qv (fun (M' : zm_T) => M'.2 = M.2 ∧ (∀ c j, c ≠ 179 → c ≠ 180 → M'.1 c j = M.1 c j) ∧ ze_S kv.toInt pv.toInt qv.toInt e (fun j => (M.1 179 j).toInt) (fun j => (M'.1 179 j).toInt) ∧ ∀ j, j < e → -16777216 ≤ (M'.1 179 j).toInt ∧ (M'.1 179 j).toInt ≤ 16777216) (zm_B G 183 zs) (zm_A G)) ([.ref (G.2.2.1 + 151), .int kv, .int pv, .int qv, .int (nI e)] : List Value).toArray s0 0 0 (zm_A G)) (F0 m0 76 ls []) := by
        intro hk1 H locs ls hl hI
        have q1 := K2 hk1
        have hm : -16777216 ≤ m.toInt ∧ m.toInt ≤ 16777216 := by
          unfold zw_J at hJ
          rw [if_pos hk1] at hJ
          exact hJ.2
        have e1 : ((M.1 179 t).toInt64 - m).toInt = (M.1 179 t).toInt - m.toInt := by rw [zn_lsub] <;> rw [cx] <;> omega
        have sm := zi_smooth hbt.1 hbt.2 hm.1 hm.2 q1.1 q1.2
        refine zr_lload hx hb kd_Mo_work_76 hl rfl ?_
        refine zr_lload hx hb kd_Mo_work_78 hl rfl ?_
        refine zr_lload hx hb kd_Mo_work_80 hl rfl ?_
        refine lv_lsub hx hb kd_Mo_work_82 ?_
        refine zr_iload_n hx hb kd_Mo_work_83 hl rfl ?_
        refine lv_i2l hx hb kd_Mo_work_84 rfl ?_
        refine zr_cl (zr_runS hS hK (c_Mo_by l G 183 zs _ _ _ (by rw [e1]; omega) (by rw [e1]; omega) (by omega) (by omega)) km_Mo_148 hI rfl hl.1 (Nat.le_of_ble_eq_true rfl) (by decide) (by decide) kd_Mo_work_85 rfl) hI (fun r85 M85 H locs hp85 hI => ?_)
        obtain ⟨hr85, hM85⟩ := hp85
        rw [hM85] at hI
        rw [e1, cp] at hr85
        have e2 : (m + r85).toInt = m.toInt + ((M.1 179 t).toInt - m.toInt) * pv.toInt / 256 := by rw [zn_ladd] <;> rw [hr85] <;> omega
        refine lv_ladd hx hb kd_Mo_work_88 ?_
        refine zr_lstore hx hb kd_Mo_work_89 hl (by decide) rfl (fun ls hl => ?_)
        refine zr_lload hx hb kd_Mo_work_91 hl rfl ?_
        refine zr_lstore hx hb kd_Mo_work_93 hl (by decide) rfl (fun ls hl => ?_)
        refine lv_goto (tgt := 238) hx hb kd_Mo_work_95 (by decide) ?_
        refine fin (m + r85) (m + r85) H locs _ (fun y hy1 hy2 => ?_) hl hI
        unfold zw_1
        rw [if_neg (by omega), if_pos hk1, hy2, e2]
        exact ⟨rfl, rfl, sm.1, sm.2⟩
      have k3 : kv.toInt = 3 → ∀ (H : Heap) (locs : List Loc) (ls : Array Slot), zl_has ls 10 [some (.ref (G.2.2.1 + 151)), some (.int kv), some (.int pv), some (.int qv), some (.int (nI e)), some (.long m), none, some (.int (nI t)), some (.long (M.1 179 t).toInt64), none] → zm_I G 183 zs M1 s0 H locs → W p0 l e0 (zr_rm 3) s0 m0 ([.ref (G.2.2.1 + 151), .int kv, .int pv, .int qv, .int (nI e)] : List Value).toArray below meth c0 H locs 0 0 (MQ below (va_Qv (fun (M' : zm_T) => M'.2 = M.2 ∧ (∀ c j, c ≠ 179 → c ≠ 180 → M'.1 c j = M.1 c j) ∧ ze_S kv.toInt pv.toInt qv.toInt e (fun j => (M.1 179 j).toInt) (fun j => (M'.1 179 j).toInt) ∧ ∀ j, j < e → -16777216 ≤ (M'.1 179 j).toInt ∧ (M'.1 179 j).toInt ≤ 16777216) (zm_B G 183 zs) (zm_A G)) ([.ref (G.2.2.1 + 151), .int kv, .int pv, .int qv, .int (nI e)] : List Value).toArray s0 0 0 (zm_A G)) (F0 m0 98 ls []) := by
        intro hk1 H locs ls hl hI
        have q1 := K3 hk1
        have hpt : ¬ pv ≤ nI t → ¬ pv.toInt.toNat ≤ t := fun h g => h (by rw [Int32.le_iff_toInt_le, htt]; omega)
        have hpt' : pv ≤ nI t → pv.toInt.toNat ≤ t ∧ nI t - pv = nI (t - pv.toInt.toNat) := fun h => by
          rw [Int32.le_iff_toInt_le, htt] at h
          refine ⟨by omega, Int32.toInt_inj.mp ?_⟩
          rw [zn_sub (by omega) (by omega), htt, nI_toInt (by omega)]
          omega
        have hback : ∀ y : Nat → Int, (∀ j, j < t → y j = (M1.1 180 j).toInt) → ze_back y t pv.toInt.toNat = if pv.toInt.toNat ≤ t then (M1.1 180 (t - pv.toInt.toNat)).toInt else 0 := fun y hy => by
          unfold ze_back
          split
          · exact hy _ (by omega)
          · rfl
        refine zr_lload hx hb kd_Mo_work_98 hl rfl ?_
        refine zr_iload hx hb kd_Mo_work_100 hl rfl ?_
        refine zr_iload_n hx hb kd_Mo_work_102 hl rfl ?_
        refine lv_icmp_ge (tgt := 110) hx hb kd_Mo_work_103 (by decide) (fun h103 => ?_) (fun h103 => ?_)
        · skip
          refine zr_aload_n hx hb kd_Mo_work_110 hl rfl ?_
          refine zr_getr hS hK kf_Mo_95 hI ha_MO hs_MO (show _ = some 180 from zL_mo hL1 (k := 29) (by decide) (by decide)) kd_Mo_work_111 ?_
          refine zr_iload hx hb kd_Mo_work_114 hl rfl ?_
          refine zr_iload_n hx hb kd_Mo_work_116 hl rfl ?_
          refine lv_isub hx hb kd_Mo_work_117 ?_
          obtain ⟨g1, g2⟩ := hpt' h103
          rw [g2]
          refine zr_iald hS hK hI ha_MO_29 hs_MO_29 (vp_in_nI (by omega) (by decide)) kd_Mo_work_118 ?_
          refine lv_i2l hx hb kd_Mo_work_119 rfl ?_
          refine zr_iload_n hx hb kd_Mo_work_120 hl rfl ?_
          refine lv_i2l hx hb kd_Mo_work_121 rfl ?_
          have hwb := hb1 (t - pv.toInt.toNat) (by omega)
          have cw : (M1.1 180 (t - pv.toInt.toNat)).toInt64.toInt = (M1.1 180 (t - pv.toInt.toNat)).toInt := Int32.toInt_toInt64 _
          rw [zn_cl (by omega)]
          refine zr_cl (zr_runS hS hK (c_Mo_by l G 183 zs _ _ _ (by rw [cw]; omega) (by rw [cw]; omega) (by rw [cq]; omega) (by rw [cq]; omega)) km_Mo_148 hI rfl hl.1 (Nat.le_of_ble_eq_true rfl) (by decide) (by decide) kd_Mo_work_122 rfl) hI (fun r122 M122 H locs hp122 hI => ?_)
          obtain ⟨hr122, hM122⟩ := hp122
          rw [hM122] at hI
          rw [cw, cq] at hr122
          refine lv_ladd hx hb kd_Mo_work_125 ?_
          refine zr_lstore hx hb kd_Mo_work_126 hl (by decide) rfl (fun ls hl => ?_)
          refine lv_goto (tgt := 238) hx hb kd_Mo_work_128 (by decide) ?_
          refine fin _ m H locs _ (fun y hy1 hy2 => ?_) hl hI
          unfold zw_1
          rw [if_neg (by omega), if_neg (by omega), if_pos hk1, hy2, hback y hy1]
          first
          | (rw [if_neg (hpt h103), Int.zero_mul, Int.zero_ediv, Int.add_zero, show ((M.1 179 t).toInt64 + 0 : Int64).toInt = (M.1 179 t).toInt from by rw [Int64.add_zero]; exact cx]; done)
          | (rw [if_pos g1]
             have hm := zn_abs_mul (a := 16777216) (b := 255) hwb.1 hwb.2 (show 0 ≤ qv.toInt by omega) (by omega)
             rw [zn_ladd] <;> rw [cx, hr122] <;> omega)
        · skip
          refine lv_lconst (v := 0) hx hb kd_Mo_work_106 (by decide) ?_
          refine lv_goto (tgt := 125) hx hb kd_Mo_work_107 (by decide) ?_
          refine lv_ladd hx hb kd_Mo_work_125 ?_
          refine zr_lstore hx hb kd_Mo_work_126 hl (by decide) rfl (fun ls hl => ?_)
          refine lv_goto (tgt := 238) hx hb kd_Mo_work_128 (by decide) ?_
          refine fin _ m H locs _ (fun y hy1 hy2 => ?_) hl hI
          unfold zw_1
          rw [if_neg (by omega), if_neg (by omega), if_pos hk1, hy2, hback y hy1]
          first
          | (rw [if_neg (hpt h103), Int.zero_mul, Int.zero_ediv, Int.add_zero, show ((M.1 179 t).toInt64 + 0 : Int64).toInt = (M.1 179 t).toInt from by rw [Int64.add_zero]; exact cx]; done)
          | (rw [if_pos g1]
             have hm := zn_abs_mul (a := 16777216) (b := 255) hwb.1 hwb.2 (show 0 ≤ qv.toInt by omega) (by omega)
             rw [zn_ladd] <;> rw [cx, hr122] <;> omega)
      have k4 : kv.toInt = 4 → ∀ (H : Heap) (locs : List Loc) (ls : Array Slot), zl_has ls 10 [some (.ref (G.2.2.1 + 151)), some (.int kv), some (.int pv), some (.int qv), some (.int (nI e)), some (.long m), none, some (.int (nI t)), some (.long (M.1 179 t).toInt64), none] → zm_I G 183 zs M1 s0 H locs → W p0 l e0 (zr_rm 3) s0 m0 ([.ref (G.2.2.1 + 151), .int kv, .int pv, .int qv, .int (nI e)] : List Value).toArray below meth c0 H locs 0 0 (MQ below (va_Qv (fun (M' : zm_T) => M'.2 = M.2 ∧ (∀ c j, c ≠ 179 → c ≠ 180 → M'.1 c j = M.1 c j) ∧ ze_S kv.toInt pv.toInt qv.toInt e (fun j => (M.1 179 j).toInt) (fun j => (M'.1 179 j).toInt) ∧ ∀ j, j < e → -16777216 ≤ (M'.1 179 j).toInt ∧ (M'.1 179 j).toInt ≤ 16777216) (zm_B G 183 zs) (zm_A G)) ([.ref (G.2.2.1 + 151), .int kv, .int pv, .int qv, .int (nI e)] : List Value).toArray s0 0 0 (zm_A G)) (F0 m0 131 ls []) := by
        intro hk1 H locs ls hl hI
        have q1 := K4 hk1
        have eq : qv = nI qv.toInt.toNat := Int32.toInt_inj.mp (by rw [nI_toInt (by omega)]; omega)
        have lim := c_Mo_limited l G M1 hL1 t qv.toInt.toNat pv (by omega) (by omega) (by omega) (by omega) (fun j hj => by rw [m9]; exact hb0 j (by omega))
        rw [← eq] at lim
        refine zr_aload_n hx hb kd_Mo_work_131 hl rfl ?_
        refine zr_iload hx hb kd_Mo_work_132 hl rfl ?_
        refine zr_iload_n hx hb kd_Mo_work_134 hl rfl ?_
        refine zr_iload_n hx hb kd_Mo_work_135 hl rfl ?_
        refine zr_cl (zr_runV hS hK (lim) km_Mo_167 hI ha_MO hs_MO rfl hl.1 (Nat.le_of_ble_eq_true rfl) (by decide) (by decide) kd_Mo_work_136 rfl) hI (fun r136 M136 H locs hp136 hI => ?_)
        obtain ⟨⟨mx, hmx, hr136⟩, hM136⟩ := hp136
        rw [hM136] at hI
        simp only [m9] at hmx hr136
        refine zr_lstore hx hb kd_Mo_work_139 hl (by decide) rfl (fun ls hl => ?_)
        refine lv_goto (tgt := 238) hx hb kd_Mo_work_141 (by decide) ?_
        refine fin _ m H locs _ (fun y hy1 hy2 => ?_) hl hI
        unfold zw_1
        rw [if_neg (by omega), if_neg (by omega), if_neg (by omega), if_pos hk1, hy2]
        refine ⟨mx, hmx, ?_⟩
        have hz : -16777216 ≤ ze_back (fun j => (M.1 179 j).toInt) t qv.toInt.toNat ∧ ze_back (fun j => (M.1 179 j).toInt) t qv.toInt.toNat ≤ 16777216 := by
          unfold ze_back
          split
          · exact hb0 _ (by omega)
          · omega
        have hlb := ze_lim_b q1.1 q1.2.1 hz.1 hz.2 (hmx.2.1 qv.toInt.toNat (by omega))
        rw [hr136, zi_cut_id hlb.1 hlb.2]
      have k5 : kv.toInt = 5 → ∀ (H : Heap) (locs : List Loc) (ls : Array Slot), zl_has ls 10 [some (.ref (G.2.2.1 + 151)), some (.int kv), some (.int pv), some (.int qv), some (.int (nI e)), some (.long m), none, some (.int (nI t)), some (.long (M.1 179 t).toInt64), none] → zm_I G 183 zs M1 s0 H locs → W p0 l e0 (zr_rm 3) s0 m0 ([.ref (G.2.2.1 + 151), .int kv, .int pv, .int qv, .int (nI e)] : List Value).toArray below meth c0 H locs 0 0 (MQ below (va_Qv (fun (M' : zm_T) => M'.2 = M.2 ∧ (∀ c j, c ≠ 179 → c ≠ 180 → M'.1 c j = M.1 c j) ∧ ze_S kv.toInt pv.toInt qv.toInt e (fun j => (M.1 179 j).toInt) (fun j => (M'.1 179 j).toInt) ∧ ∀ j, j < e → -16777216 ≤ (M'.1 179 j).toInt ∧ (M'.1 179 j).toInt ≤ 16777216) (zm_B G 183 zs) (zm_A G)) ([.ref (G.2.2.1 + 151), .int kv, .int pv, .int qv, .int (nI e)] : List Value).toArray s0 0 0 (zm_A G)) (F0 m0 144 ls []) := by
        intro hk1 H locs ls hl hI
        have q1 := K5 hk1
        have hm : 0 ≤ m.toInt ∧ m.toInt ≤ 65 := by
          unfold zw_J at hJ
          rw [if_neg (by omega), if_pos hk1] at hJ
          exact hJ.2
        have e1 : (qv + 1).toInt64.toInt = qv.toInt + 1 := by rw [Int32.toInt_toInt64, zn_add] <;> rw [zn_1] <;> omega
        have l0 : (0 : Int64).toInt = 0 := by decide
        have l1 : (1 : Int64).toInt = 1 := by decide
        have two : ∀ (n' : Int64) (H : Heap) (locs : List Loc) (ls : Array Slot), n'.toInt = (if pv.toInt ≤ ze_abs (M.1 179 t).toInt then qv.toInt + 1 else m.toInt) → zl_has ls 10 [some (.ref (G.2.2.1 + 151)), some (.int kv), some (.int pv), some (.int qv), some (.int (nI e)), some (.long n'), none, some (.int (nI t)), some (.long (M.1 179 t).toInt64), none] → zm_I G 183 zs M1 s0 H locs → W p0 l e0 (zr_rm 3) s0 m0 ([.ref (G.2.2.1 + 151), .int kv, .int pv, .int qv, .int (nI e)] : List Value).toArray below meth c0 H locs 0 0 (MQ below (va_Qv (fun (M' : zm_T) => M'.2 = M.2 ∧ (∀ c j, c ≠ 179 → c ≠ 180 → M'.1 c j = M.1 c j) ∧ ze_S kv.toInt pv.toInt qv.toInt e (fun j => (M.1 179 j).toInt) (fun j => (M'.1 179 j).toInt) ∧ ∀ j, j < e → -16777216 ≤ (M'.1 179 j).toInt ∧ (M'.1 179 j).toInt ≤ 16777216) (zm_B G 183 zs) (zm_A G)) ([.ref (G.2.2.1 + 151), .int kv, .int pv, .int qv, .int (nI e)] : List Value).toArray s0 0 0 (zm_A G)) (F0 m0 167 ls []) := by
          intro n' H locs ls hn' hl hI
          have hnb : 0 ≤ n'.toInt ∧ n'.toInt ≤ 65 := by rw [hn']; split <;> omega
          have e2 : (n' - 1).toInt = n'.toInt - 1 := by rw [zn_lsub] <;> rw [l1] <;> omega
          refine zr_lload hx hb kd_Mo_work_167 hl rfl ?_
          refine lv_lconst (v := 0) hx hb kd_Mo_work_169 (by decide) ?_
          refine W.lcmp hx hb kd_Mo_work_170 ?_
          refine lv_if_le (tgt := 179) hx hb kd_Mo_work_171 (by decide) (fun h171 => ?_) (fun h171 => ?_)
          · skip
            refine lv_lconst (v := 0) hx hb kd_Mo_work_179 (by decide) ?_
            refine zr_lstore hx hb kd_Mo_work_180 hl (by decide) rfl (fun ls hl => ?_)
            refine zr_lload hx hb kd_Mo_work_182 hl rfl ?_
            refine lv_lconst (v := 0) hx hb kd_Mo_work_184 (by decide) ?_
            refine W.lcmp hx hb kd_Mo_work_185 ?_
            refine lv_if_le (tgt := 196) hx hb kd_Mo_work_186 (by decide) (fun h186 => ?_) (fun h186 => ?_)
            · skip
              refine zr_lload hx hb kd_Mo_work_196 hl rfl ?_
              refine zr_lstore hx hb kd_Mo_work_198 hl (by decide) rfl (fun ls hl => ?_)
              refine lv_goto (tgt := 238) hx hb kd_Mo_work_200 (by decide) ?_
              refine fin _ _ H locs _ (fun y hy1 hy2 => ?_) hl hI
              rw [lg_cmp_le, Int64.le_iff_toInt_le, l0] at h171 h186
              unfold zw_1
              rw [if_neg (by omega), if_neg (by omega), if_neg (by omega), if_neg (by omega), if_pos hk1, hy2, ← hn']
              first
              | exact absurd h171 h186
              | exact absurd h186 h171
              | (rw [if_neg (by omega), if_neg (by omega), l0]; exact ⟨rfl, rfl, hnb.1, hnb.2⟩)
              | (rw [if_pos (by omega), if_pos (by omega), cx, zi_cut_id hbt.1 hbt.2, e2]; exact ⟨rfl, rfl, by omega, by omega⟩)
            · skip
              refine zr_lload hx hb kd_Mo_work_189 hl rfl ?_
              refine lv_lconst (v := 1) hx hb kd_Mo_work_191 (by decide) ?_
              refine lv_lsub hx hb kd_Mo_work_192 ?_
              refine lv_goto (tgt := 198) hx hb kd_Mo_work_193 (by decide) ?_
              refine zr_lstore hx hb kd_Mo_work_198 hl (by decide) rfl (fun ls hl => ?_)
              refine lv_goto (tgt := 238) hx hb kd_Mo_work_200 (by decide) ?_
              refine fin _ _ H locs _ (fun y hy1 hy2 => ?_) hl hI
              rw [lg_cmp_le, Int64.le_iff_toInt_le, l0] at h171 h186
              unfold zw_1
              rw [if_neg (by omega), if_neg (by omega), if_neg (by omega), if_neg (by omega), if_pos hk1, hy2, ← hn']
              first
              | exact absurd h171 h186
              | exact absurd h186 h171
              | (rw [if_neg (by omega), if_neg (by omega), l0]; exact ⟨rfl, rfl, hnb.1, hnb.2⟩)
              | (rw [if_pos (by omega), if_pos (by omega), cx, zi_cut_id hbt.1 hbt.2, e2]; exact ⟨rfl, rfl, by omega, by omega⟩)
          · skip
            refine zr_lload hx hb kd_Mo_work_174 hl rfl ?_
            refine lv_goto (tgt := 180) hx hb kd_Mo_work_176 (by decide) ?_
            refine zr_lstore hx hb kd_Mo_work_180 hl (by decide) rfl (fun ls hl => ?_)
            refine zr_lload hx hb kd_Mo_work_182 hl rfl ?_
            refine lv_lconst (v := 0) hx hb kd_Mo_work_184 (by decide) ?_
            refine W.lcmp hx hb kd_Mo_work_185 ?_
            refine lv_if_le (tgt := 196) hx hb kd_Mo_work_186 (by decide) (fun h186 => ?_) (fun h186 => ?_)
            · skip
              refine zr_lload hx hb kd_Mo_work_196 hl rfl ?_
              refine zr_lstore hx hb kd_Mo_work_198 hl (by decide) rfl (fun ls hl => ?_)
              refine lv_goto (tgt := 238) hx hb kd_Mo_work_200 (by decide) ?_
              refine fin _ _ H locs _ (fun y hy1 hy2 => ?_) hl hI
              rw [lg_cmp_le, Int64.le_iff_toInt_le, l0] at h171 h186
              unfold zw_1
              rw [if_neg (by omega), if_neg (by omega), if_neg (by omega), if_neg (by omega), if_pos hk1, hy2, ← hn']
              first
              | exact absurd h171 h186
              | exact absurd h186 h171
              | (rw [if_neg (by omega), if_neg (by omega), l0]; exact ⟨rfl, rfl, hnb.1, hnb.2⟩)
              | (rw [if_pos (by omega), if_pos (by omega), cx, zi_cut_id hbt.1 hbt.2, e2]; exact ⟨rfl, rfl, by omega, by omega⟩)
            · skip
              refine zr_lload hx hb kd_Mo_work_189 hl rfl ?_
              refine lv_lconst (v := 1) hx hb kd_Mo_work_191 (by decide) ?_
              refine lv_lsub hx hb kd_Mo_work_192 ?_
              refine lv_goto (tgt := 198) hx hb kd_Mo_work_193 (by decide) ?_
              refine zr_lstore hx hb kd_Mo_work_198 hl (by decide) rfl (fun ls hl => ?_)
              refine lv_goto (tgt := 238) hx hb kd_Mo_work_200 (by decide) ?_
              refine fin _ _ H locs _ (fun y hy1 hy2 => ?_) hl hI
              rw [lg_cmp_le, Int64.le_iff_toInt_le, l0] at h171 h186
              unfold zw_1
              rw [if_neg (by omega), if_neg (by omega), if_neg (by omega), if_neg (by omega), if_pos hk1, hy2, ← hn']
              first
              | exact absurd h171 h186
              | exact absurd h186 h171
              | (rw [if_neg (by omega), if_neg (by omega), l0]; exact ⟨rfl, rfl, hnb.1, hnb.2⟩)
              | (rw [if_pos (by omega), if_pos (by omega), cx, zi_cut_id hbt.1 hbt.2, e2]; exact ⟨rfl, rfl, by omega, by omega⟩)
        refine zr_aload_n hx hb kd_Mo_work_144 hl rfl ?_
        refine zr_iload hx hb kd_Mo_work_145 hl rfl ?_
        refine zr_cl (zr_runV hS hK (c_Mo_size l G M1 hL1 t (by omega) (by rw [m9]; omega)) km_Mo_163 hI ha_MO hs_MO rfl hl.1 (Nat.le_of_ble_eq_true rfl) (by decide) (by decide) kd_Mo_work_147 rfl) hI (fun r147 M147 H locs hp147 hI => ?_)
        obtain ⟨hr147, hM147⟩ := hp147
        rw [hM147] at hI
        rw [m9] at hr147
        refine zr_iload_n hx hb kd_Mo_work_150 hl rfl ?_
        refine lv_i2l hx hb kd_Mo_work_151 rfl ?_
        refine W.lcmp hx hb kd_Mo_work_152 ?_
        refine lv_if_lt (tgt := 163) hx hb kd_Mo_work_153 (by decide) (fun h153 => ?_) (fun h153 => ?_)
        · skip
          refine zr_lload hx hb kd_Mo_work_163 hl rfl ?_
          refine zr_lstore hx hb kd_Mo_work_165 hl (by decide) rfl (fun ls hl => ?_)
          refine two _ H locs _ ?_ hl hI
          rw [lg_cmp_lt, Int64.lt_iff_toInt_lt, cp, hr147] at h153
          first
          | (rw [if_neg (by omega)]; done)
          | (rw [if_pos (by omega)]; exact e1)
        · skip
          refine zr_iload_n hx hb kd_Mo_work_156 hl rfl ?_
          refine lv_iconst (v := 1) hx hb kd_Mo_work_157 (by decide) ?_
          refine lv_iadd hx hb kd_Mo_work_158 ?_
          refine lv_i2l hx hb kd_Mo_work_159 rfl ?_
          refine lv_goto (tgt := 165) hx hb kd_Mo_work_160 (by decide) ?_
          refine zr_lstore hx hb kd_Mo_work_165 hl (by decide) rfl (fun ls hl => ?_)
          refine two _ H locs _ ?_ hl hI
          rw [lg_cmp_lt, Int64.lt_iff_toInt_lt, cp, hr147] at h153
          first
          | (rw [if_neg (by omega)]; done)
          | (rw [if_pos (by omega)]; exact e1)
      have k6 : kv.toInt = 6 → ∀ (H : Heap) (locs : List Loc) (ls : Array Slot), zl_has ls 10 [some (.ref (G.2.2.1 + 151)), some (.int kv), some (.int pv), some (.int qv), some (.int (nI e)), some (.long m), none, some (.int (nI t)), some (.long (M.1 179 t).toInt64), none] → zm_I G 183 zs M1 s0 H locs → W p0 l e0 (zr_rm 3) s0 m0 ([.ref (G.2.2.1 + 151), .int kv, .int pv, .int qv, .int (nI e)] : List Value).toArray below meth c0 H locs 0 0 (MQ below (va_Qv (fun (M' : zm_T) => M'.2 = M.2 ∧ (∀ c j, c ≠ 179 → c ≠ 180 → M'.1 c j = M.1 c j) ∧ ze_S kv.toInt pv.toInt qv.toInt e (fun j => (M.1 179 j).toInt) (fun j => (M'.1 179 j).toInt) ∧ ∀ j, j < e → -16777216 ≤ (M'.1 179 j).toInt ∧ (M'.1 179 j).toInt ≤ 16777216) (zm_B G 183 zs) (zm_A G)) ([.ref (G.2.2.1 + 151), .int kv, .int pv, .int qv, .int (nI e)] : List Value).toArray s0 0 0 (zm_A G)) (F0 m0 203 ls []) := by
        intro hk1 H locs ls hl hI
        have q1 := K6 hk1
        have en : (-pv).toInt64.toInt = -pv.toInt := by rw [Int32.toInt_toInt64]; exact zn_neg (by omega)
        refine zr_lload hx hb kd_Mo_work_203 hl rfl ?_
        refine zr_iload_n hx hb kd_Mo_work_205 hl rfl ?_
        refine lv_ineg hx hb kd_Mo_work_206 ?_
        refine lv_i2l hx hb kd_Mo_work_207 rfl ?_
        refine W.lcmp hx hb kd_Mo_work_208 ?_
        refine lv_if_ge (tgt := 218) hx hb kd_Mo_work_209 (by decide) (fun h209 => ?_) (fun h209 => ?_)
        · skip
          refine zr_lload hx hb kd_Mo_work_218 hl rfl ?_
          refine zr_iload_n hx hb kd_Mo_work_220 hl rfl ?_
          refine lv_i2l hx hb kd_Mo_work_221 rfl ?_
          refine W.lcmp hx hb kd_Mo_work_222 ?_
          refine lv_if_le (tgt := 231) hx hb kd_Mo_work_223 (by decide) (fun h223 => ?_) (fun h223 => ?_)
          · skip
            refine zr_lload hx hb kd_Mo_work_231 hl rfl ?_
            refine zr_lstore hx hb kd_Mo_work_233 hl (by decide) rfl (fun ls hl => ?_)
            refine lv_goto (tgt := 238) hx hb kd_Mo_work_235 (by decide) ?_
            refine fin _ m H locs _ (fun y hy1 hy2 => ?_) hl hI
            rw [lg_cmp_ge, Int64.le_iff_toInt_le, en, cx] at h209
            try rw [lg_cmp_le, Int64.le_iff_toInt_le, cp, cx] at h223
            unfold zw_1
            rw [if_neg (by omega), if_neg (by omega), if_neg (by omega), if_neg (by omega), if_neg (by omega), if_pos hk1, hy2]
            dsimp only
            first
            | (rw [if_neg (by omega), if_neg (by omega), cx]; exact zi_cut_id hbt.1 hbt.2)
            | (rw [if_neg (by omega), if_pos (by omega), cp]; exact zi_cut_id (by omega) (by omega))
            | (rw [if_pos (by omega), en]; exact zi_cut_id (by omega) (by omega))
          · skip
            refine zr_iload_n hx hb kd_Mo_work_226 hl rfl ?_
            refine lv_i2l hx hb kd_Mo_work_227 rfl ?_
            refine lv_goto (tgt := 233) hx hb kd_Mo_work_228 (by decide) ?_
            refine zr_lstore hx hb kd_Mo_work_233 hl (by decide) rfl (fun ls hl => ?_)
            refine lv_goto (tgt := 238) hx hb kd_Mo_work_235 (by decide) ?_
            refine fin _ m H locs _ (fun y hy1 hy2 => ?_) hl hI
            rw [lg_cmp_ge, Int64.le_iff_toInt_le, en, cx] at h209
            try rw [lg_cmp_le, Int64.le_iff_toInt_le, cp, cx] at h223
            unfold zw_1
            rw [if_neg (by omega), if_neg (by omega), if_neg (by omega), if_neg (by omega), if_neg (by omega), if_pos hk1, hy2]
            dsimp only
            first
            | (rw [if_neg (by omega), if_neg (by omega), cx]; exact zi_cut_id hbt.1 hbt.2)
            | (rw [if_neg (by omega), if_pos (by omega), cp]; exact zi_cut_id (by omega) (by omega))
            | (rw [if_pos (by omega), en]; exact zi_cut_id (by omega) (by omega))
        · skip
          refine zr_iload_n hx hb kd_Mo_work_212 hl rfl ?_
          refine lv_ineg hx hb kd_Mo_work_213 ?_
          refine lv_i2l hx hb kd_Mo_work_214 rfl ?_
          refine lv_goto (tgt := 233) hx hb kd_Mo_work_215 (by decide) ?_
          refine zr_lstore hx hb kd_Mo_work_233 hl (by decide) rfl (fun ls hl => ?_)
          refine lv_goto (tgt := 238) hx hb kd_Mo_work_235 (by decide) ?_
          refine fin _ m H locs _ (fun y hy1 hy2 => ?_) hl hI
          rw [lg_cmp_ge, Int64.le_iff_toInt_le, en, cx] at h209
          try rw [lg_cmp_le, Int64.le_iff_toInt_le, cp, cx] at h223
          unfold zw_1
          rw [if_neg (by omega), if_neg (by omega), if_neg (by omega), if_neg (by omega), if_neg (by omega), if_pos hk1, hy2]
          dsimp only
          first
          | (rw [if_neg (by omega), if_neg (by omega), cx]; exact zi_cut_id hbt.1 hbt.2)
          | (rw [if_neg (by omega), if_pos (by omega), cp]; exact zi_cut_id (by omega) (by omega))
          | (rw [if_pos (by omega), en]; exact zi_cut_id (by omega) (by omega))
      refine zr_iload hx hb kd_Mo_work_6 hl rfl ?_
      refine zr_iload hx hb kd_Mo_work_8 hl rfl ?_
      refine lv_icmp_ge (tgt := 256) hx hb kd_Mo_work_10 (by decide) (fun h10 => absurd h10 (nI_ge (by omega) (by omega))) (fun h10 => ?_)
      refine zr_aload_n hx hb kd_Mo_work_13 hl rfl ?_
      refine zr_getr hS hK kf_Mo_92 hI ha_MO hs_MO (show _ = some 179 from zL_mo hL1 (k := 28) (by decide) (by decide)) kd_Mo_work_14 ?_
      refine zr_iload hx hb kd_Mo_work_17 hl rfl ?_
      refine zr_iald hS hK hI ha_MO_28 hs_MO_28 (vp_in_nI (by omega) (by decide)) kd_Mo_work_19 ?_
      rw [et, m9]
      refine lv_i2l hx hb kd_Mo_work_20 rfl ?_
      refine zr_lstore hx hb kd_Mo_work_21 hl (by decide) rfl (fun ls hl => ?_)
      refine zr_iload_n hx hb kd_Mo_work_23 hl rfl ?_
      by_cases ht_lo : (kv).toInt < 1
      · refine lv_tableOut (tgt := 238) hx hb kd_Mo_work_24 (Or.inl ht_lo) (by decide) ?_
        refine fin _ _ H locs ls (fun y hy1 hy2 => ?_) hl hI
        unfold zw_1
        rw [if_neg (by omega), if_neg (by omega), if_neg (by omega), if_neg (by omega), if_neg (by omega), if_neg (by omega), hy2, cx, zi_cut_id hbt.1 hbt.2]
      by_cases ht_hi : 6 < (kv).toInt
      · refine lv_tableOut (tgt := 238) hx hb kd_Mo_work_24 (Or.inr ht_hi) (by decide) ?_
        refine fin _ _ H locs ls (fun y hy1 hy2 => ?_) hl hI
        unfold zw_1
        rw [if_neg (by omega), if_neg (by omega), if_neg (by omega), if_neg (by omega), if_neg (by omega), if_neg (by omega), hy2, cx, zi_cut_id hbt.1 hbt.2]
      by_cases ht_1 : (kv).toInt = 1
      · refine lv_tableIn (tgt := 64) (off := 40) hx hb kd_Mo_work_24 ht_lo ht_hi (by rw [ht_1]; rfl) (by decide) ?_
        exact k1 ht_1 H locs _ hl hI
      by_cases ht_2 : (kv).toInt = 2
      · refine lv_tableIn (tgt := 76) (off := 52) hx hb kd_Mo_work_24 ht_lo ht_hi (by rw [ht_2]; rfl) (by decide) ?_
        exact k2 ht_2 H locs _ hl hI
      by_cases ht_3 : (kv).toInt = 3
      · refine lv_tableIn (tgt := 98) (off := 74) hx hb kd_Mo_work_24 ht_lo ht_hi (by rw [ht_3]; rfl) (by decide) ?_
        exact k3 ht_3 H locs _ hl hI
      by_cases ht_4 : (kv).toInt = 4
      · refine lv_tableIn (tgt := 131) (off := 107) hx hb kd_Mo_work_24 ht_lo ht_hi (by rw [ht_4]; rfl) (by decide) ?_
        exact k4 ht_4 H locs _ hl hI
      by_cases ht_5 : (kv).toInt = 5
      · refine lv_tableIn (tgt := 144) (off := 120) hx hb kd_Mo_work_24 ht_lo ht_hi (by rw [ht_5]; rfl) (by decide) ?_
        exact k5 ht_5 H locs _ hl hI
      have ht_6 : (kv).toInt = 6 := by omega
      · refine lv_tableIn (tgt := 203) (off := 179) hx hb kd_Mo_work_24 ht_lo ht_hi (by rw [ht_6]; rfl) (by decide) ?_
        exact k6 ht_6 H locs _ hl hI
  refine lv_lconst (v := 0) hx hb kd_Mo_work_0 (by decide) ?_
  refine zr_lstore hx hb kd_Mo_work_1 hl (by decide) rfl (fun ls hl => ?_)
  refine lv_iconst (v := 0) hx hb kd_Mo_work_3 (by decide) ?_
  refine zr_istore hx hb kd_Mo_work_4 hl (by decide) rfl (fun ls hl => ?_)
  exact loop e 0 M _ _ _ _ _ _ (by omega) zm_only_r (zw_J_0 _ _ _ _ _) (fun j hj => absurd hj (by omega)) hl hI

/-! The reference's public methods: takes, dropping, effects, faders, blocks. -/
theorem zv_01 {x hi : Int32} (h : (if zf_in x 0 hi = 0 then (1 : Int32) else 0) = 0) : ¬ zf_in x 0 hi = 0 := fun g => by rw [if_pos g] at h; exact absurd h (by decide)
theorem zv_10 {x hi : Int32} (h : ¬ (if zf_in x 0 hi = 0 then (1 : Int32) else 0) = 0) : zf_in x 0 hi = 0 := Decidable.byContradiction (fun g => h (if_neg g))
theorem zv_vp' {x : Int32} {n : Nat} {hi : Int32} (hh : hi.toInt = n) (hn : n < 2147483647) (h : ¬ zf_in x 0 hi = 0) : vp_in x (n + 1) := by
  obtain ⟨c, hc, rfl⟩ := zf_in_n hh h
  exact vp_in_nI (by omega) (by omega)
/-- 0: there is such a clip -/
def zv_noc (M : zm_T) (c : Int32) : Int32 := if zf_in c 0 15 = 0 then 1 else if M.1 154 c.toNatClampNeg = 0 then 1 else 0
set_option maxRecDepth 100000 in
set_option maxHeartbeats 4000000 in
theorem c_Mo_noClip (l : Launch) (G : zg_T) (M : zm_T) (hL : zL M.2) (c : Int32) : Met l ky_Mo_noClip (zr_ws ky_Mo_noClip kc_Mo_noClip 2 (some .boolean)) (zr_rm 0) (va_Pc [.ref (G.2.2.1 + 151), .int c] (zm_B G 183 zs M)) (va_Qi (fun (r : Int32) (M' : zm_T) => r = zv_noc M c ∧ M' = M) (zm_B G 183 zs) (zm_A G)) 0 0 (zm_A G) := by
  refine zr_met (by decide +kernel) (Nat.le_of_ble_eq_true rfl) ?_
  intro p0 e0 s0 m0 below meth c0 ls hS hK hlk hr hl hI
  have hx := hS.1
  have hb := hS.2.1
  have hl : zl_has ls 2 [some (.ref (G.2.2.1 + 151)), some (.int c)] := hl
  have hq : ¬ (16 : Int32) ≤ c ↔ ¬ (15 : Int32) < c := by rw [Int32.le_iff_toInt_le, Int32.lt_iff_toInt_lt, show (16 : Int32).toInt = 16 from by decide, show (15 : Int32).toInt = 15 from by decide]; omega
  refine zr_iload_n hx hb kd_Mo_noClip_0 hl rfl ?_
  refine lv_if_lt (tgt := 19) hx hb kd_Mo_noClip_1 (by decide) (fun h1 => ?_) (fun h1 => ?_)
  · skip
    refine lv_iconst (v := 1) hx hb kd_Mo_noClip_19 (by decide) ?_
    refine lv_goto (tgt := 24) hx hb kd_Mo_noClip_20 (by decide) ?_
    exact zr_zret hS hK hlk hr (by decide) hI kd_Mo_noClip_24 (⟨by
        first
        | (have h7' : (15 : Int32) < c := Decidable.byContradiction (fun g => hq.mpr g h7); simp [zv_noc, zf_in, *]; done)
        | (have h7' := hq.mp h7; simp [zv_noc, zf_in, *]; done)
        | (simp [zv_noc, zf_in, *]; done), rfl⟩)
  · skip
    refine zr_iload_n hx hb kd_Mo_noClip_4 hl rfl ?_
    refine lv_bipush (v := 16) hx hb kd_Mo_noClip_5 (by decide) ?_
    refine lv_icmp_ge (tgt := 19) hx hb kd_Mo_noClip_7 (by decide) (fun h7 => ?_) (fun h7 => ?_)
    · skip
      refine lv_iconst (v := 1) hx hb kd_Mo_noClip_19 (by decide) ?_
      refine lv_goto (tgt := 24) hx hb kd_Mo_noClip_20 (by decide) ?_
      exact zr_zret hS hK hlk hr (by decide) hI kd_Mo_noClip_24 (⟨by
          first
          | (have h7' : (15 : Int32) < c := Decidable.byContradiction (fun g => hq.mpr g h7); simp [zv_noc, zf_in, *]; done)
          | (have h7' := hq.mp h7; simp [zv_noc, zf_in, *]; done)
          | (simp [zv_noc, zf_in, *]; done), rfl⟩)
    · skip
      refine zr_aload_n hx hb kd_Mo_noClip_10 hl rfl ?_
      refine zr_getr hS hK kf_Mo_16 hI ha_MO hs_MO (show _ = some 154 from zL_mo hL (k := 3) (by decide) (by decide)) kd_Mo_noClip_11 ?_
      refine zr_iload_n hx hb kd_Mo_noClip_14 hl rfl ?_
      refine zr_zald hS hK hI ha_MO_3 hs_MO_3 (zv_vp (n := 15) (by decide) (by decide) h1 (hq.mp h7)) kd_Mo_noClip_15 ?_
      refine lv_if_ne (tgt := 23) hx hb kd_Mo_noClip_16 (by decide) (fun h16 => ?_) (fun h16 => ?_)
      · skip
        refine lv_iconst (v := 0) hx hb kd_Mo_noClip_23 (by decide) ?_
        exact zr_zret hS hK hlk hr (by decide) hI kd_Mo_noClip_24 (⟨by
            first
            | (have h7' : (15 : Int32) < c := Decidable.byContradiction (fun g => hq.mpr g h7); simp [zv_noc, zf_in, *]; done)
            | (have h7' := hq.mp h7; simp [zv_noc, zf_in, *]; done)
            | (simp [zv_noc, zf_in, *]; done), rfl⟩)
      · skip
        refine lv_iconst (v := 1) hx hb kd_Mo_noClip_19 (by decide) ?_
        refine lv_goto (tgt := 24) hx hb kd_Mo_noClip_20 (by decide) ?_
        exact zr_zret hS hK hlk hr (by decide) hI kd_Mo_noClip_24 (⟨by
            first
            | (have h7' : (15 : Int32) < c := Decidable.byContradiction (fun g => hq.mpr g h7); simp [zv_noc, zf_in, *]; done)
            | (have h7' := hq.mp h7; simp [zv_noc, zf_in, *]; done)
            | (simp [zv_noc, zf_in, *]; done), rfl⟩)
theorem zv_noc_0 {M : zm_T} {c : Int32} (h : zv_noc M c = 0) : ∃ n : Nat, n < 16 ∧ c = nI n ∧ ¬ M.1 154 n = 0 := by
  unfold zv_noc at h
  split at h
  · exact absurd h (by decide)
  · rename_i h1
    split at h
    · exact absurd h (by decide)
    · rename_i h2
      obtain ⟨n, hn, rfl⟩ := zf_in_n (n := 15) (by decide) h1
      rw [zn_cl (by omega)] at h2
      exact ⟨n, by omega, rfl, h2⟩
theorem zv_noc_01 (M : zm_T) (c : Int32) : zv_noc M c = 0 ∨ zv_noc M c = 1 := by
  unfold zv_noc
  (repeat' split) <;> simp
set_option maxRecDepth 100000 in
set_option maxHeartbeats 4000000 in
theorem c_Mo_drop (l : Launch) (G : zg_T) (M : zm_T) (hL : zL M.2) (c : Int32) : Met l ky_Mo_drop (zr_ws ky_Mo_drop kc_Mo_drop 2 none) (zr_rm 1) (va_Pc [.ref (G.2.2.1 + 151), .int c] (zm_B G 183 zs M)) (va_Qv (fun (M' : zm_T) => M' = if zv_noc M c = 0 then zm_ui (zm_ui M 151 0 0) 154 c.toNatClampNeg 0 else zm_ui M 151 0 1) (zm_B G 183 zs) (zm_A G)) 0 0 (zm_A G) := by
  refine zr_met (by decide +kernel) (Nat.le_of_ble_eq_true rfl) ?_
  intro p0 e0 s0 m0 below meth c0 ls hS hK hlk hr hl hI
  have hx := hS.1
  have hb := hS.2.1
  have hl : zl_has ls 2 [some (.ref (G.2.2.1 + 151)), some (.int c)] := hl
  have hvp : zv_noc M c = 0 → vp_in c 16 := fun h => by
    obtain ⟨n, hn, rfl, -⟩ := zv_noc_0 h
    exact vp_in_nI (by omega) (by decide)
  have rest : ∀ (v : Int32) (H : Heap) (locs : List Loc) (ls : Array Slot), v = zv_noc M c → zl_has ls 2 [some (.ref (G.2.2.1 + 151)), some (.int c)] → zm_I G 183 zs M s0 H locs → W p0 l e0 (zr_rm 1) s0 m0 ([.ref (G.2.2.1 + 151), .int c] : List Value).toArray below meth c0 H locs 0 0 (MQ below (va_Qv (fun (M' : zm_T) => M' = if zv_noc M c = 0 then zm_ui (zm_ui M 151 0 0) 154 c.toNatClampNeg 0 else zm_ui M 151 0 1) (zm_B G 183 zs) (zm_A G)) ([.ref (G.2.2.1 + 151), .int c] : List Value).toArray s0 0 0 (zm_A G)) (F0 m0 14 ls [.int v, .ref (G.2.2.1 + 151)]) := by
    intro v H locs ls hv hl hI
    refine zr_puti hS hK kf_Mo_101 hI ha_MO hs_MO rfl rfl kd_Mo_drop_14 (fun H locs hI => ?_)
    refine zr_aload_n hx hb kd_Mo_drop_17 hl rfl ?_
    refine zr_geti hS hK kf_Mo_101 hI ha_MO hs_MO kd_Mo_drop_18 ?_
    refine lv_if_ne (tgt := 31) hx hb kd_Mo_drop_21 (by decide) (fun h21 => ?_) (fun h21 => ?_)
    · skip
      exact zr_vret hS hK hlk hr hI kd_Mo_drop_31 (by
          rw [zm_ui_at] at h21
          rw [← hv]
          first
          | (rw [if_pos h21, h21]; rfl)
          | (rw [if_neg h21]; exact congrArg (zm_ui M 151 0) (hv.trans ((zv_noc_01 M c).resolve_left (by rw [← hv]; exact h21)))))
    · skip
      refine zr_aload_n hx hb kd_Mo_drop_24 hl rfl ?_
      refine zr_getr hS hK kf_Mo_16 hI ha_MO hs_MO (show _ = some 154 from zL_mo hL (k := 3) (by decide) (by decide)) kd_Mo_drop_25 ?_
      refine zr_iload_n hx hb kd_Mo_drop_28 hl rfl ?_
      refine lv_iconst (v := 0) hx hb kd_Mo_drop_29 (by decide) ?_
      refine zr_zast hS hK hI ha_MO_3 hs_MO_3 (hvp (by rw [zm_ui_at] at h21; rw [← hv]; exact h21)) kd_Mo_drop_30 (fun H locs hI => ?_)
      exact zr_vret hS hK hlk hr hI kd_Mo_drop_31 (by
          rw [zm_ui_at] at h21
          rw [← hv]
          first
          | (rw [if_pos h21, h21]; rfl)
          | (rw [if_neg h21]; exact congrArg (zm_ui M 151 0) (hv.trans ((zv_noc_01 M c).resolve_left (by rw [← hv]; exact h21)))))
  refine zr_aload_n hx hb kd_Mo_drop_0 hl rfl ?_
  refine zr_aload_n hx hb kd_Mo_drop_1 hl rfl ?_
  refine zr_iload_n hx hb kd_Mo_drop_2 hl rfl ?_
  refine zr_ci (zr_runV hS hK (c_Mo_noClip l G M hL c) km_Mo_126 hI ha_MO hs_MO rfl hl.1 (Nat.le_of_ble_eq_true rfl) (by decide) (by decide) kd_Mo_drop_3 rfl) hI (fun r3 M3 H locs hp3 hI => ?_)
  obtain ⟨rfl, hM3⟩ := hp3
  rw [hM3] at hI
  refine lv_if_eq (tgt := 13) hx hb kd_Mo_drop_6 (by decide) (fun h6 => ?_) (fun h6 => ?_)
  · skip
    refine lv_iconst (v := 0) hx hb kd_Mo_drop_13 (by decide) ?_
    refine rest _ _ _ _ ?_ hl hI
    first
    | exact h6.symm
    | exact ((zv_noc_01 M c).resolve_left h6).symm
  · skip
    refine lv_iconst (v := 1) hx hb kd_Mo_drop_9 (by decide) ?_
    refine lv_goto (tgt := 14) hx hb kd_Mo_drop_10 (by decide) ?_
    refine rest _ _ _ _ ?_ hl hI
    first
    | exact h6.symm
    | exact ((zv_noc_01 M c).resolve_left h6).symm
set_option maxRecDepth 100000 in
set_option maxHeartbeats 4000000 in
theorem c_Mo_noBlock (l : Launch) (G : zg_T) (nc : Nat) (sh : Nat → Nat × Nat) (M : zm_T) (f n : Int32) : Met l ky_Mo_noBlock (zr_ws ky_Mo_noBlock kc_Mo_noBlock 2 (some .boolean)) (zr_rm 0) (va_Pc [.int f, .int n] (zm_B G nc sh M)) (va_Qi (fun (r : Int32) (M' : zm_T) => r = (if zf_blk f n = 0 then 1 else 0) ∧ M' = M) (zm_B G nc sh) (zm_A G)) 0 0 (zm_A G) := by
  refine zr_met (by decide +kernel) (Nat.le_of_ble_eq_true rfl) ?_
  intro p0 e0 s0 m0 below meth c0 ls hS hK hlk hr hl hI
  have hx := hS.1
  have hb := hS.2.1
  have hl : zl_has ls 2 [some (.int f), some (.int n)] := hl
  refine zr_iload_n hx hb kd_Mo_noBlock_0 hl rfl ?_
  refine lv_if_lt (tgt := 24) hx hb kd_Mo_noBlock_1 (by decide) (fun h1 => ?_) (fun h1 => ?_)
  · skip
    refine lv_iconst (v := 1) hx hb kd_Mo_noBlock_24 (by decide) ?_
    refine lv_goto (tgt := 29) hx hb kd_Mo_noBlock_25 (by decide) ?_
    exact zr_zret hS hK hlk hr (by decide) hI kd_Mo_noBlock_29 (⟨by
        unfold zf_blk zf_in
        simp [*]
        done, rfl⟩)
  · skip
    refine zr_iload_n hx hb kd_Mo_noBlock_4 hl rfl ?_
    refine lv_iconst (v := 1) hx hb kd_Mo_noBlock_5 (by decide) ?_
    refine lv_icmp_lt (tgt := 24) hx hb kd_Mo_noBlock_6 (by decide) (fun h6 => ?_) (fun h6 => ?_)
    · skip
      refine lv_iconst (v := 1) hx hb kd_Mo_noBlock_24 (by decide) ?_
      refine lv_goto (tgt := 29) hx hb kd_Mo_noBlock_25 (by decide) ?_
      exact zr_zret hS hK hlk hr (by decide) hI kd_Mo_noBlock_29 (⟨by
          unfold zf_blk zf_in
          simp [*]
          done, rfl⟩)
    · skip
      refine zr_iload_n hx hb kd_Mo_noBlock_9 hl rfl ?_
      refine lv_bipush (v := 64) hx hb kd_Mo_noBlock_10 (by decide) ?_
      refine lv_icmp_gt (tgt := 24) hx hb kd_Mo_noBlock_12 (by decide) (fun h12 => ?_) (fun h12 => ?_)
      · skip
        refine lv_iconst (v := 1) hx hb kd_Mo_noBlock_24 (by decide) ?_
        refine lv_goto (tgt := 29) hx hb kd_Mo_noBlock_25 (by decide) ?_
        exact zr_zret hS hK hlk hr (by decide) hI kd_Mo_noBlock_29 (⟨by
            unfold zf_blk zf_in
            simp [*]
            done, rfl⟩)
      · skip
        refine zr_iload_n hx hb kd_Mo_noBlock_15 hl rfl ?_
        refine lv_sipush (v := 1024) hx hb kd_Mo_noBlock_16 (by decide) ?_
        refine zr_iload_n hx hb kd_Mo_noBlock_19 hl rfl ?_
        refine lv_isub hx hb kd_Mo_noBlock_20 ?_
        refine lv_icmp_le (tgt := 28) hx hb kd_Mo_noBlock_21 (by decide) (fun h21 => ?_) (fun h21 => ?_)
        · skip
          refine lv_iconst (v := 0) hx hb kd_Mo_noBlock_28 (by decide) ?_
          exact zr_zret hS hK hlk hr (by decide) hI kd_Mo_noBlock_29 (⟨by
              unfold zf_blk zf_in
              simp [*]
              done, rfl⟩)
        · skip
          refine lv_iconst (v := 1) hx hb kd_Mo_noBlock_24 (by decide) ?_
          refine lv_goto (tgt := 29) hx hb kd_Mo_noBlock_25 (by decide) ?_
          exact zr_zret hS hK hlk hr (by decide) hI kd_Mo_noBlock_29 (⟨by
              unfold zf_blk zf_in
              simp [*]
              done, rfl⟩)
theorem zf_in_b {x lo hi : Int32} (h : ¬ zf_in x lo hi = 0) : lo.toInt ≤ x.toInt ∧ x.toInt ≤ hi.toInt := by
  unfold zf_in at h
  by_cases h1 : x < lo
  · rw [if_pos h1] at h; exact absurd rfl h
  · rw [if_neg h1] at h
    by_cases h2 : hi < x
    · rw [if_pos h2] at h; exact absurd rfl h
    · rw [Int32.lt_iff_toInt_lt] at h1 h2; omega
theorem zf_blk_n {f n : Int32} (h : ¬ zf_blk f n = 0) : ∃ a b : Nat, f = nI a ∧ n = nI b ∧ a + b ≤ 1024 ∧ b ≤ 64 ∧ 1 ≤ b := by
  unfold zf_blk at h
  by_cases h1 : zf_in n 1 64 = 0
  · rw [if_pos h1] at h; exact absurd rfl h
  rw [if_neg h1] at h
  by_cases h2 : zf_in f 0 (1024 - n) = 0
  · rw [if_pos h2] at h; exact absurd rfl h
  have b1 := zf_in_b h1
  have b2 := zf_in_b h2
  rw [show (1 : Int32).toInt = 1 from by decide, show (64 : Int32).toInt = 64 from by decide] at b1
  rw [zn_0, zn_sub (by rw [show (1024 : Int32).toInt = 1024 from by decide]; omega) (by rw [show (1024 : Int32).toInt = 1024 from by decide]; omega), show (1024 : Int32).toInt = 1024 from by decide] at b2
  exact ⟨f.toInt.toNat, n.toInt.toNat, Int32.toInt_inj.mp (by rw [nI_toInt (by omega)]; omega), Int32.toInt_inj.mp (by rw [nI_toInt (by omega)]; omega), by omega, by omega, by omega⟩
set_option maxRecDepth 100000 in
set_option maxHeartbeats 4000000 in
theorem c_Mo_render (l : Launch) (G : zg_T) (M : zm_T) (hL : zL M.2) (fn : Nat → Nat) (f n : Int32) (hok : zR_ok M fn) : Met l ky_Mo_render (zr_ws ky_Mo_render kc_Mo_render 3 none) (zr_rm 6) (va_Pc [.ref (G.2.2.1 + 151), .int f, .int n] (zm_B G 183 zs M)) (va_Qv (fun (M' : zm_T) => (zf_blk f n = 0 ∧ M' = zm_ui M 151 0 1) ∨ (¬ zf_blk f n = 0 ∧ zR_post (zm_ui M 151 0 0) M' fn f.toNatClampNeg n.toNatClampNeg)) (zm_B G 183 zs) (zm_A G)) 0 0 (zm_A G) := by
  refine zr_met (by decide +kernel) (Nat.le_of_ble_eq_true rfl) ?_
  intro p0 e0 s0 m0 below meth c0 ls hS hK hlk hr hl hI
  have hx := hS.1
  have hb := hS.2.1
  have hl : zl_has ls 3 [some (.ref (G.2.2.1 + 151)), some (.int f), some (.int n)] := hl
  have rest : ∀ (v : Int32) (H : Heap) (locs : List Loc) (ls : Array Slot), v = (if zf_blk f n = 0 then 1 else 0) → zl_has ls 3 [some (.ref (G.2.2.1 + 151)), some (.int f), some (.int n)] → zm_I G 183 zs M s0 H locs → W p0 l e0 (zr_rm 6) s0 m0 ([.ref (G.2.2.1 + 151), .int f, .int n] : List Value).toArray below meth c0 H locs 0 0 (MQ below (va_Qv (fun (M' : zm_T) => (zf_blk f n = 0 ∧ M' = zm_ui M 151 0 1) ∨ (¬ zf_blk f n = 0 ∧ zR_post (zm_ui M 151 0 0) M' fn f.toNatClampNeg n.toNatClampNeg)) (zm_B G 183 zs) (zm_A G)) ([.ref (G.2.2.1 + 151), .int f, .int n] : List Value).toArray s0 0 0 (zm_A G)) (F0 m0 14 ls [.int v, .ref (G.2.2.1 + 151)]) := by
    intro v H locs ls hv hl hI
    by_cases hz : zf_blk f n = 0
    · rw [if_pos hz] at hv
      subst hv
      refine zr_puti hS hK kf_Mo_101 hI ha_MO hs_MO rfl rfl kd_Mo_render_14 (fun H locs hI => ?_)
      refine zr_aload_n hx hb kd_Mo_render_17 hl rfl ?_
      refine zr_geti hS hK kf_Mo_101 hI ha_MO hs_MO kd_Mo_render_18 ?_
      refine lv_if_ne (tgt := 30) hx hb kd_Mo_render_21 (by decide) (fun h21 => ?_) (fun h21 => absurd h21 (by rw [zm_ui_at]; decide))
      exact zr_vret hS hK hlk hr hI kd_Mo_render_30 (Or.inl ⟨hz, rfl⟩)
    · rw [if_neg hz] at hv
      subst hv
      obtain ⟨a, b, rfl, rfl, hab, hb64, -⟩ := zf_blk_n hz
      have hok' : zR_ok (zm_ui M 151 0 0) fn := zR_ok_c (fun c j h1 h2 => zm_ui_ne (Or.inl (by omega))) hok
      rw [zn_cl (by omega), zn_cl (by omega)]
      refine zr_puti hS hK kf_Mo_101 hI ha_MO hs_MO rfl rfl kd_Mo_render_14 (fun H locs hI => ?_)
      refine zr_aload_n hx hb kd_Mo_render_17 hl rfl ?_
      refine zr_geti hS hK kf_Mo_101 hI ha_MO hs_MO kd_Mo_render_18 ?_
      refine lv_if_ne (tgt := 30) hx hb kd_Mo_render_21 (by decide) (fun h21 => absurd (zm_ui_at) h21) (fun h21 => ?_)
      refine zr_aload_n hx hb kd_Mo_render_24 hl rfl ?_
      refine zr_iload_n hx hb kd_Mo_render_25 hl rfl ?_
      refine zr_iload_n hx hb kd_Mo_render_26 hl rfl ?_
      refine zr_cv (zr_runV hS hK (c_Mo_renderAll l G (zm_ui M 151 0 0) hL fn a b hab hb64 hok') km_Mo_203 hI ha_MO hs_MO rfl hl.1 (Nat.le_of_ble_eq_true rfl) (by decide) (by decide) kd_Mo_render_27 rfl) hI (fun M27 H locs hp27 hI => ?_)
      skip
      exact zr_vret hS hK hlk hr hI kd_Mo_render_30 (Or.inr ⟨hz, hp27⟩)
  refine zr_aload_n hx hb kd_Mo_render_0 hl rfl ?_
  refine zr_iload_n hx hb kd_Mo_render_1 hl rfl ?_
  refine zr_iload_n hx hb kd_Mo_render_2 hl rfl ?_
  refine zr_ci (zr_runS hS hK (c_Mo_noBlock l G 183 zs M _ _) km_Mo_200 hI rfl hl.1 (Nat.le_of_ble_eq_true rfl) (by decide) (by decide) kd_Mo_render_3 rfl) hI (fun r3 M3 H locs hp3 hI => ?_)
  obtain ⟨rfl, hM3⟩ := hp3
  rw [hM3] at hI
  refine lv_if_eq (tgt := 13) hx hb kd_Mo_render_6 (by decide) (fun h6 => ?_) (fun h6 => ?_)
  · skip
    refine lv_iconst (v := 0) hx hb kd_Mo_render_13 (by decide) ?_
    refine rest _ _ _ _ ?_ hl hI
    first
    | exact h6.symm
    | (by_cases q : zf_blk f n = 0
       · rw [if_pos q]
       · rw [if_neg q] at h6; exact absurd rfl h6)
  · skip
    refine lv_iconst (v := 1) hx hb kd_Mo_render_9 (by decide) ?_
    refine lv_goto (tgt := 14) hx hb kd_Mo_render_10 (by decide) ?_
    refine rest _ _ _ _ ?_ hl hI
    first
    | exact h6.symm
    | (by_cases q : zf_blk f n = 0
       · rw [if_pos q]
       · rw [if_neg q] at h6; exact absurd rfl h6)
set_option maxRecDepth 100000 in
set_option maxHeartbeats 4000000 in
theorem c_Mo_fader (l : Launch) (G : zg_T) (M : zm_T) (hL : zL M.2) (s v : Int32) : Met l ky_Mo_fader (zr_ws ky_Mo_fader kc_Mo_fader 3 none) (zr_rm 1) (va_Pc [.ref (G.2.2.1 + 151), .int s, .int v] (zm_B G 183 zs M)) (va_Qv (fun (M' : zm_T) => M' = if zf_in s 0 7 = 0 ∨ zf_in v 0 1024 = 0 then zm_ui M 151 0 1 else zm_ui (zm_ui M 151 0 0) 168 s.toNatClampNeg v) (zm_B G 183 zs) (zm_A G)) 0 0 (zm_A G) := by
  refine zr_met (by decide +kernel) (Nat.le_of_ble_eq_true rfl) ?_
  intro p0 e0 s0 m0 below meth c0 ls hS hK hlk hr hl hI
  have hx := hS.1
  have hb := hS.2.1
  have hl : zl_has ls 3 [some (.ref (G.2.2.1 + 151)), some (.int s), some (.int v)] := hl
  have rest : ∀ (w : Int32) (H : Heap) (locs : List Loc) (ls : Array Slot), (w = if zf_in s 0 7 = 0 ∨ zf_in v 0 1024 = 0 then 1 else 0) → zl_has ls 3 [some (.ref (G.2.2.1 + 151)), some (.int s), some (.int v)] → zm_I G 183 zs M s0 H locs → W p0 l e0 (zr_rm 1) s0 m0 ([.ref (G.2.2.1 + 151), .int s, .int v] : List Value).toArray below meth c0 H locs 0 0 (MQ below (va_Qv (fun (M' : zm_T) => M' = if zf_in s 0 7 = 0 ∨ zf_in v 0 1024 = 0 then zm_ui M 151 0 1 else zm_ui (zm_ui M 151 0 0) 168 s.toNatClampNeg v) (zm_B G 183 zs) (zm_A G)) ([.ref (G.2.2.1 + 151), .int s, .int v] : List Value).toArray s0 0 0 (zm_A G)) (F0 m0 20 ls [.int w, .ref (G.2.2.1 + 151)]) := by
    intro w H locs ls hw hl hI
    by_cases hz : zf_in s 0 7 = 0 ∨ zf_in v 0 1024 = 0
    · rw [if_pos hz] at hw ⊢
      subst hw
      refine zr_puti hS hK kf_Mo_101 hI ha_MO hs_MO rfl rfl kd_Mo_fader_20 (fun H locs hI => ?_)
      refine zr_aload_n hx hb kd_Mo_fader_23 hl rfl ?_
      refine zr_geti hS hK kf_Mo_101 hI ha_MO hs_MO kd_Mo_fader_24 ?_
      refine lv_if_ne (tgt := 37) hx hb kd_Mo_fader_27 (by decide) (fun h27 => ?_) (fun h27 => absurd h27 (by rw [zm_ui_at]; decide))
      exact zr_vret hS hK hlk hr hI kd_Mo_fader_37 (rfl)
    · rw [if_neg hz] at hw ⊢
      subst hw
      refine zr_puti hS hK kf_Mo_101 hI ha_MO hs_MO rfl rfl kd_Mo_fader_20 (fun H locs hI => ?_)
      refine zr_aload_n hx hb kd_Mo_fader_23 hl rfl ?_
      refine zr_geti hS hK kf_Mo_101 hI ha_MO hs_MO kd_Mo_fader_24 ?_
      refine lv_if_ne (tgt := 37) hx hb kd_Mo_fader_27 (by decide) (fun h27 => absurd (zm_ui_at) h27) (fun h27 => ?_)
      refine zr_aload_n hx hb kd_Mo_fader_30 hl rfl ?_
      refine zr_getr hS hK kf_Mo_59 hI ha_MO hs_MO (show _ = some 168 from zL_mo hL (k := 17) (by decide) (by decide)) kd_Mo_fader_31 ?_
      refine zr_iload_n hx hb kd_Mo_fader_34 hl rfl ?_
      refine zr_iload_n hx hb kd_Mo_fader_35 hl rfl ?_
      refine zr_iast hS hK hI ha_MO_17 hs_MO_17 (zv_vp' (n := 7) (by decide) (by decide) (fun g => hz (Or.inl g))) kd_Mo_fader_36 (fun H locs hI => ?_)
      exact zr_vret hS hK hlk hr hI kd_Mo_fader_37 (rfl)
  refine zr_aload_n hx hb kd_Mo_fader_0 hl rfl ?_
  refine zr_iload_n hx hb kd_Mo_fader_1 hl rfl ?_
  refine zr_ci (zr_runS hS hK (c_Mo_noStrip l G 183 zs M _) km_Mo_141 hI rfl hl.1 (Nat.le_of_ble_eq_true rfl) (by decide) (by decide) kd_Mo_fader_2 rfl) hI (fun r2 M2 H locs hp2 hI => ?_)
  obtain ⟨rfl, hM2⟩ := hp2
  rw [hM2] at hI
  refine lv_if_ne (tgt := 15) hx hb kd_Mo_fader_5 (by decide) (fun h5 => ?_) (fun h5 => ?_)
  · skip
    refine lv_iconst (v := 1) hx hb kd_Mo_fader_15 (by decide) ?_
    refine lv_goto (tgt := 20) hx hb kd_Mo_fader_16 (by decide) ?_
    refine rest _ _ _ _ ?_ hl hI
    first
    | (rw [if_neg (fun g => g.elim (zv_01 h5) (zv_01 h12))]; done)
    | (rw [if_pos (Or.inr (zv_10 h12))]; done)
    | (rw [if_pos (Or.inl (zv_10 h5))]; done)
  · skip
    refine zr_iload_n hx hb kd_Mo_fader_8 hl rfl ?_
    refine zr_ci (zr_runS hS hK (c_Mo_noLevel l G 183 zs M _) km_Mo_130 hI rfl hl.1 (Nat.le_of_ble_eq_true rfl) (by decide) (by decide) kd_Mo_fader_9 rfl) hI (fun r9 M9 H locs hp9 hI => ?_)
    obtain ⟨rfl, hM9⟩ := hp9
    rw [hM9] at hI
    refine lv_if_eq (tgt := 19) hx hb kd_Mo_fader_12 (by decide) (fun h12 => ?_) (fun h12 => ?_)
    · skip
      refine lv_iconst (v := 0) hx hb kd_Mo_fader_19 (by decide) ?_
      refine rest _ _ _ _ ?_ hl hI
      first
      | (rw [if_neg (fun g => g.elim (zv_01 h5) (zv_01 h12))]; done)
      | (rw [if_pos (Or.inr (zv_10 h12))]; done)
      | (rw [if_pos (Or.inl (zv_10 h5))]; done)
    · skip
      refine lv_iconst (v := 1) hx hb kd_Mo_fader_15 (by decide) ?_
      refine lv_goto (tgt := 20) hx hb kd_Mo_fader_16 (by decide) ?_
      refine rest _ _ _ _ ?_ hl hI
      first
      | (rw [if_neg (fun g => g.elim (zv_01 h5) (zv_01 h12))]; done)
      | (rw [if_pos (Or.inr (zv_10 h12))]; done)
      | (rw [if_pos (Or.inl (zv_10 h5))]; done)

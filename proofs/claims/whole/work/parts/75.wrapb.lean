/-! The law's wrappers: what each gives back, printed by gen/mkwrap.py out of the bytes. -/
set_option maxRecDepth 100000 in
set_option maxHeartbeats 4000000 in
theorem w_split (l : Launch) (hfl : l.flags = Jvm.pinnedFlags ++ [Jvm.noTraceFlag]) (G : zg_T) (M : zm_T) (hL : zL M.2) (c k : Int32) (t : Nat) (hcl : ¬ zf_has M c = 0 → M.2.1 (4 + c.toNatClampNeg) 0 = some t) : Met l ky_La_split (zj_ws ky_La_split kc_La_split 5 (some .int) [((0 : Nat), (10 : Nat), (13 : Nat), (35 : Nat)), ((0 : Nat), (10 : Nat), (17 : Nat), (21 : Nat))]) (zj_rm 8) (va_Pc [.ref (G.2.2.1 + 0), .int c, .int k, .ref (G.2.2.1 + 182)] (zy_B G M)) (va_Qi (fun (kx : Int32) (M' : zm_T) => (kx = 0 ∧ ∃ (r : Int32) (M1 : zm_T), (zu_spl M c k = 0 ∧ ∃ d, zf_fr M d ∧ (((d = 16 ∨ zu_nsp M c.toNatClampNeg k) ∧ r = -1 ∧ M1 = M) ∨ (d < 16 ∧ ¬ zu_nsp M c.toNatClampNeg k ∧ r = nI d ∧ M1 = zu_sp2 M (4 + c.toNatClampNeg) (4 + d) t k))) ∧ M' = zm_ul M1 182 0 r.toInt64) ∨ (M' = M ∧ ((kx = 1 ∧ (zu_spl M c k = 1)) ∨ (kx = 2 ∧ (zu_spl M c k = 2))))) (zy_B G) (zm_A G)) 1 6 (zm_A G) := by
  refine zj_met (by decide +kernel) (Nat.le_of_ble_eq_true rfl) ?_
  intro p0 e0 s0 m0 below meth c0 ls hS hK hX hex hlk hr hl hI
  have hx := hS.1
  have hb := hS.2.1
  have hl : zl_has ls 5 [some (.ref (G.2.2.1 + 0)), some (.int c), some (.int k), some (.ref (G.2.2.1 + 182)), none] := hl
  refine zr_aload_n hx hb kd_La_split_0 hl rfl ?_
  refine lv_iconst (v := 0) hx hb kd_La_split_1 (by decide) ?_
  refine zr_aload_n hx hb kd_La_split_2 hl rfl ?_
  refine zr_iload_n hx hb kd_La_split_3 hl rfl ?_
  refine zr_iload_n hx hb kd_La_split_4 hl rfl ?_
  refine zj_row (exc := fun x => (x = zxN ∧ zu_spl M c k = 1) ∨ (x = zxA ∧ zu_spl M c k = 2)) (post := fun vx M' => ∃ r : Int32, vx = some (.int r) ∧ (zu_spl M c k = 0 ∧ ∃ d, zf_fr M d ∧ (((d = 16 ∨ zu_nsp M c.toNatClampNeg k) ∧ r = -1 ∧ M' = M) ∨ (d < 16 ∧ ¬ zu_nsp M c.toNatClampNeg k ∧ r = nI d ∧ M' = zu_sp2 M (4 + c.toNatClampNeg) (4 + d) t k)))) (rest := [.int 0, .ref (G.2.2.1 + 182)]) (n := 2) hS hK hX (x_Mx_split l hfl G M hL c k t hcl) (fun a st o t h => ⟨h.1, h.2.imp (fun ⟨r, M1, h1, h2, h3⟩ => ⟨_, M1, h1, ⟨r, rfl, h2⟩, h3⟩) id⟩) km_La_41 (zw_mem (i := 468) rfl rfl) hI hex rfl hl.1 (Nat.le_of_ble_eq_true rfl) (by decide) (by decide) kd_La_split_5 rfl ?_ ?_ ?_
  · intro cls hc
    rcases hc with ⟨rfl, -⟩ | ⟨rfl, -⟩
    · exact ⟨13, 92, 94, by decide, by decide⟩
    · exact ⟨17, 48, 50, by decide, by decide⟩
  · intro v M1 H locs hpo hI
    obtain ⟨r, rfl, hpo⟩ := hpo
    refine lv_i2l hx hb kd_La_split_8 rfl ?_
    refine zj_last hS hK hI (a := 182) (n := 1) (by decide) (by decide +kernel) (vp_in_iff.mpr (by decide)) kd_La_split_9 (fun H locs hI => ?_)
    refine lv_goto (tgt := 21) hx hb kd_La_split_10 (by decide) ?_
    refine lv_iconst (v := 0) hx hb kd_La_split_21 (by decide) ?_
    exact zj_iret hS hK hX hlk hr hI kd_La_split_22 (Or.inl ⟨rfl, r, M1, hpo, rfl⟩)
  · intro cls h a H locs hc hd hI
    rcases hc with ⟨rfl, hc⟩ | ⟨rfl, hc⟩
    · skip
      obtain rfl : h = 13 := Option.some.inj (hd.symm.trans (by decide : zj_D zxN 5 [((0 : Nat), (10 : Nat), (13 : Nat), (35 : Nat)), ((0 : Nat), (10 : Nat), (17 : Nat), (21 : Nat))] = some 13))
      refine zr_astore hx hb kd_La_split_13 hl (by decide) rfl (fun ls hl => ?_)
      refine lv_iconst (v := 1) hx hb kd_La_split_15 (by decide) ?_
      exact zj_iret hS hK hX hlk hr hI kd_La_split_16 (Or.inr ⟨rfl, Or.inl ⟨rfl, hc⟩⟩)
    · skip
      obtain rfl : h = 17 := Option.some.inj (hd.symm.trans (by decide : zj_D zxA 5 [((0 : Nat), (10 : Nat), (13 : Nat), (35 : Nat)), ((0 : Nat), (10 : Nat), (17 : Nat), (21 : Nat))] = some 17))
      refine zr_astore hx hb kd_La_split_17 hl (by decide) rfl (fun ls hl => ?_)
      refine lv_iconst (v := 2) hx hb kd_La_split_19 (by decide) ?_
      exact zj_iret hS hK hX hlk hr hI kd_La_split_20 (Or.inr ⟨rfl, Or.inr ⟨rfl, hc⟩⟩)
set_option maxRecDepth 100000 in
set_option maxHeartbeats 4000000 in
theorem w_shape (l : Launch) (hfl : l.flags = Jvm.pinnedFlags ++ [Jvm.noTraceFlag]) (G : zg_T) (M : zm_T) (hL : zL M.2) (c lv i o : Int32) : Met l ky_La_shape (zj_ws ky_La_shape kc_La_shape 6 (some .int) [((0 : Nat), (9 : Nat), (12 : Nat), (35 : Nat)), ((0 : Nat), (9 : Nat), (16 : Nat), (21 : Nat))]) (zj_rm 8) (va_Pc [.ref (G.2.2.1 + 0), .int c, .int lv, .int i, .int o] (zy_B G M)) (va_Qi (fun (kx : Int32) (M' : zm_T) => (kx = 0 ∧ (zu_shp M c lv i o = 0 ∧ M' = zm_ui (zm_ui (zm_ui M (4 + c.toNatClampNeg) 5 lv) (4 + c.toNatClampNeg) 6 i) (4 + c.toNatClampNeg) 7 o)) ∨ (M' = M ∧ ((kx = 1 ∧ (zu_shp M c lv i o = 1)) ∨ (kx = 2 ∧ (zu_shp M c lv i o = 2))))) (zy_B G) (zm_A G)) 1 6 (zm_A G) := by
  refine zj_met (by decide +kernel) (Nat.le_of_ble_eq_true rfl) ?_
  intro p0 e0 s0 m0 below meth c0 ls hS hK hX hex hlk hr hl hI
  have hx := hS.1
  have hb := hS.2.1
  have hl : zl_has ls 6 [some (.ref (G.2.2.1 + 0)), some (.int c), some (.int lv), some (.int i), some (.int o), none] := hl
  refine zr_aload_n hx hb kd_La_shape_0 hl rfl ?_
  refine zr_iload_n hx hb kd_La_shape_1 hl rfl ?_
  refine zr_iload_n hx hb kd_La_shape_2 hl rfl ?_
  refine zr_iload_n hx hb kd_La_shape_3 hl rfl ?_
  refine zr_iload hx hb kd_La_shape_4 hl rfl ?_
  refine zj_row (exc := fun x => (x = zxN ∧ zu_shp M c lv i o = 1) ∨ (x = zxA ∧ zu_shp M c lv i o = 2)) (post := fun vx M' => vx = none ∧ (zu_shp M c lv i o = 0 ∧ M' = zm_ui (zm_ui (zm_ui M (4 + c.toNatClampNeg) 5 lv) (4 + c.toNatClampNeg) 6 i) (4 + c.toNatClampNeg) 7 o)) (rest := []) (n := 4) hS hK hX (x_Mx_shape l hfl G M hL c lv i o) (fun a st o t h => ⟨h.1, h.2.imp (fun ⟨M1, h1, h2, h3⟩ => ⟨none, M1, h1, ⟨rfl, h2⟩, h3⟩) id⟩) km_La_44 (zw_mem (i := 482) rfl rfl) hI hex rfl hl.1 (Nat.le_of_ble_eq_true rfl) (by decide) (by decide) kd_La_shape_6 rfl ?_ ?_ ?_
  · intro cls hc
    rcases hc with ⟨rfl, -⟩ | ⟨rfl, -⟩
    · exact ⟨12, 92, 94, by decide, by decide⟩
    · exact ⟨16, 48, 50, by decide, by decide⟩
  · intro v M1 H locs hpo hI
    obtain ⟨rfl, hpo⟩ := hpo
    refine lv_goto (tgt := 20) hx hb kd_La_shape_9 (by decide) ?_
    refine lv_iconst (v := 0) hx hb kd_La_shape_20 (by decide) ?_
    exact zj_iret hS hK hX hlk hr hI kd_La_shape_21 (Or.inl ⟨rfl, hpo⟩)
  · intro cls h a H locs hc hd hI
    rcases hc with ⟨rfl, hc⟩ | ⟨rfl, hc⟩
    · skip
      obtain rfl : h = 12 := Option.some.inj (hd.symm.trans (by decide : zj_D zxN 6 [((0 : Nat), (9 : Nat), (12 : Nat), (35 : Nat)), ((0 : Nat), (9 : Nat), (16 : Nat), (21 : Nat))] = some 12))
      refine zr_astore hx hb kd_La_shape_12 hl (by decide) rfl (fun ls hl => ?_)
      refine lv_iconst (v := 1) hx hb kd_La_shape_14 (by decide) ?_
      exact zj_iret hS hK hX hlk hr hI kd_La_shape_15 (Or.inr ⟨rfl, Or.inl ⟨rfl, hc⟩⟩)
    · skip
      obtain rfl : h = 16 := Option.some.inj (hd.symm.trans (by decide : zj_D zxA 6 [((0 : Nat), (9 : Nat), (12 : Nat), (35 : Nat)), ((0 : Nat), (9 : Nat), (16 : Nat), (21 : Nat))] = some 16))
      refine zr_astore hx hb kd_La_shape_16 hl (by decide) rfl (fun ls hl => ?_)
      refine lv_iconst (v := 2) hx hb kd_La_shape_18 (by decide) ?_
      exact zj_iret hS hK hX hlk hr hI kd_La_shape_19 (Or.inr ⟨rfl, Or.inr ⟨rfl, hc⟩⟩)
set_option maxRecDepth 100000 in
set_option maxHeartbeats 4000000 in
theorem w_route (l : Launch) (hfl : l.flags = Jvm.pinnedFlags ++ [Jvm.noTraceFlag]) (G : zg_T) (M : zm_T) (hL : zL M.2) (s t : Int32) (hD : zD M) : Met l ky_La_route (zj_ws ky_La_route kc_La_route 5 (some .int) [((0 : Nat), (17 : Nat), (20 : Nat), (21 : Nat))]) (zj_rm 8) (va_Pc [.ref (G.2.2.1 + 0), .int s, .int t, .ref (G.2.2.1 + 182)] (zy_B G M)) (va_Qi (fun (kx : Int32) (M' : zm_T) => (kx = 0 ∧ ∃ (r : Int32) (M1 : zm_T), (zv_rt s t = 0 ∧ ((r = 1 ∧ s.toNatClampNeg ≠ t.toNatClampNeg ∧ ¬ gq_T (zfd M) t.toNatClampNeg s.toNatClampNeg ∧ M1 = zm_ui M (23 + 14 * s.toNatClampNeg) 4 t) ∨ (r = 0 ∧ (s.toNatClampNeg = t.toNatClampNeg ∨ gq_T (zfd M) t.toNatClampNeg s.toNatClampNeg) ∧ M1 = M))) ∧ M' = zm_ul M1 182 0 (if r = 0 then 0 else 1)) ∨ (M' = M ∧ ((kx = 1 ∧ (zv_rt s t = 1))))) (zy_B G) (zm_A G)) 1 6 (zm_A G) := by
  refine zj_met (by decide +kernel) (Nat.le_of_ble_eq_true rfl) ?_
  intro p0 e0 s0 m0 below meth c0 ls hS hK hX hex hlk hr hl hI
  have hx := hS.1
  have hb := hS.2.1
  have hl : zl_has ls 5 [some (.ref (G.2.2.1 + 0)), some (.int s), some (.int t), some (.ref (G.2.2.1 + 182)), none] := hl
  refine zr_aload_n hx hb kd_La_route_0 hl rfl ?_
  refine lv_iconst (v := 0) hx hb kd_La_route_1 (by decide) ?_
  refine zr_aload_n hx hb kd_La_route_2 hl rfl ?_
  refine zr_iload_n hx hb kd_La_route_3 hl rfl ?_
  refine zr_iload_n hx hb kd_La_route_4 hl rfl ?_
  refine zj_row (exc := fun x => x = zxA ∧ zv_rt s t = 1) (post := fun vx M' => ∃ r : Int32, vx = some (.int r) ∧ (zv_rt s t = 0 ∧ ((r = 1 ∧ s.toNatClampNeg ≠ t.toNatClampNeg ∧ ¬ gq_T (zfd M) t.toNatClampNeg s.toNatClampNeg ∧ M' = zm_ui M (23 + 14 * s.toNatClampNeg) 4 t) ∨ (r = 0 ∧ (s.toNatClampNeg = t.toNatClampNeg ∨ gq_T (zfd M) t.toNatClampNeg s.toNatClampNeg) ∧ M' = M)))) (rest := [.int 0, .ref (G.2.2.1 + 182)]) (n := 2) hS hK hX (x_Mx_route l hfl G M hL s t hD) (fun a st o t h => ⟨h.1, h.2.imp (fun ⟨r, M1, h1, h2, h3⟩ => ⟨_, M1, h1, ⟨r, rfl, h2⟩, h3⟩) id⟩) km_La_48 (zw_mem (i := 492) rfl rfl) hI hex rfl hl.1 (Nat.le_of_ble_eq_true rfl) (by decide) (by decide) kd_La_route_5 rfl ?_ ?_ ?_
  · intro cls hc
    obtain ⟨rfl, -⟩ := hc
    exact ⟨20, 48, 50, by decide, by decide⟩
  · intro v M1 H locs hpo hI
    obtain ⟨r, rfl, hpo⟩ := hpo
    refine lv_if_eq (tgt := 15) hx hb kd_La_route_8 (by decide) (fun h8 => ?_) (fun h8 => ?_)
    · skip
      refine lv_lconst (v := 0) hx hb kd_La_route_15 (by decide) ?_
      refine zj_last hS hK hI (a := 182) (n := 1) (by decide) (by decide +kernel) (vp_in_iff.mpr (by decide)) kd_La_route_16 (fun H locs hI => ?_)
      refine lv_goto (tgt := 24) hx hb kd_La_route_17 (by decide) ?_
      refine lv_iconst (v := 0) hx hb kd_La_route_24 (by decide) ?_
      exact zj_iret hS hK hX hlk hr hI kd_La_route_25 (Or.inl ⟨rfl, r, M1, hpo, by first | rw [if_pos h8]; rfl | rw [if_neg h8]; rfl⟩)
    · skip
      refine lv_lconst (v := 1) hx hb kd_La_route_11 (by decide) ?_
      refine lv_goto (tgt := 16) hx hb kd_La_route_12 (by decide) ?_
      refine zj_last hS hK hI (a := 182) (n := 1) (by decide) (by decide +kernel) (vp_in_iff.mpr (by decide)) kd_La_route_16 (fun H locs hI => ?_)
      refine lv_goto (tgt := 24) hx hb kd_La_route_17 (by decide) ?_
      refine lv_iconst (v := 0) hx hb kd_La_route_24 (by decide) ?_
      exact zj_iret hS hK hX hlk hr hI kd_La_route_25 (Or.inl ⟨rfl, r, M1, hpo, by first | rw [if_pos h8]; rfl | rw [if_neg h8]; rfl⟩)
  · intro cls h a H locs hc hd hI
    obtain ⟨rfl, hc⟩ := hc
    obtain rfl : h = 20 := Option.some.inj (hd.symm.trans (by decide : zj_D zxA 5 [((0 : Nat), (17 : Nat), (20 : Nat), (21 : Nat))] = some 20))
    refine zr_astore hx hb kd_La_route_20 hl (by decide) rfl (fun ls hl => ?_)
    refine lv_iconst (v := 1) hx hb kd_La_route_22 (by decide) ?_
    exact zj_iret hS hK hX hlk hr hI kd_La_route_23 (Or.inr ⟨rfl, ⟨rfl, hc⟩⟩)
set_option maxRecDepth 100000 in
set_option maxHeartbeats 4000000 in
theorem w_send (l : Launch) (hfl : l.flags = Jvm.pinnedFlags ++ [Jvm.noTraceFlag]) (G : zg_T) (M : zm_T) (hL : zL M.2) (s t lv : Int32) (hD : zD M) : Met l ky_La_send (zj_ws ky_La_send kc_La_send 6 (some .int) [((0 : Nat), (19 : Nat), (22 : Nat), (21 : Nat))]) (zj_rm 8) (va_Pc [.ref (G.2.2.1 + 0), .int s, .int t, .int lv, .ref (G.2.2.1 + 182)] (zy_B G M)) (va_Qi (fun (kx : Int32) (M' : zm_T) => (kx = 0 ∧ ∃ (r : Int32) (M1 : zm_T), (zv_sd s t lv = 0 ∧ ((r = 1 ∧ (0 < lv → s.toNatClampNeg ≠ t.toNatClampNeg ∧ ¬ gq_T (zfd M) t.toNatClampNeg s.toNatClampNeg) ∧ M1 = zm_ui M (29 + 14 * s.toNatClampNeg) t.toNatClampNeg lv) ∨ (r = 0 ∧ 0 < lv ∧ (s.toNatClampNeg = t.toNatClampNeg ∨ gq_T (zfd M) t.toNatClampNeg s.toNatClampNeg) ∧ M1 = M))) ∧ M' = zm_ul M1 182 0 (if r = 0 then 0 else 1)) ∨ (M' = M ∧ ((kx = 1 ∧ (zv_sd s t lv = 1))))) (zy_B G) (zm_A G)) 1 6 (zm_A G) := by
  refine zj_met (by decide +kernel) (Nat.le_of_ble_eq_true rfl) ?_
  intro p0 e0 s0 m0 below meth c0 ls hS hK hX hex hlk hr hl hI
  have hx := hS.1
  have hb := hS.2.1
  have hl : zl_has ls 6 [some (.ref (G.2.2.1 + 0)), some (.int s), some (.int t), some (.int lv), some (.ref (G.2.2.1 + 182)), none] := hl
  refine zr_aload hx hb kd_La_send_0 hl rfl ?_
  refine lv_iconst (v := 0) hx hb kd_La_send_2 (by decide) ?_
  refine zr_aload_n hx hb kd_La_send_3 hl rfl ?_
  refine zr_iload_n hx hb kd_La_send_4 hl rfl ?_
  refine zr_iload_n hx hb kd_La_send_5 hl rfl ?_
  refine zr_iload_n hx hb kd_La_send_6 hl rfl ?_
  refine zj_row (exc := fun x => x = zxA ∧ zv_sd s t lv = 1) (post := fun vx M' => ∃ r : Int32, vx = some (.int r) ∧ (zv_sd s t lv = 0 ∧ ((r = 1 ∧ (0 < lv → s.toNatClampNeg ≠ t.toNatClampNeg ∧ ¬ gq_T (zfd M) t.toNatClampNeg s.toNatClampNeg) ∧ M' = zm_ui M (29 + 14 * s.toNatClampNeg) t.toNatClampNeg lv) ∨ (r = 0 ∧ 0 < lv ∧ (s.toNatClampNeg = t.toNatClampNeg ∨ gq_T (zfd M) t.toNatClampNeg s.toNatClampNeg) ∧ M' = M)))) (rest := [.int 0, .ref (G.2.2.1 + 182)]) (n := 3) hS hK hX (x_Mx_send l hfl G M hL s t lv hD) (fun a st o t h => ⟨h.1, h.2.imp (fun ⟨r, M1, h1, h2, h3⟩ => ⟨_, M1, h1, ⟨r, rfl, h2⟩, h3⟩) id⟩) km_La_52 (zw_mem (i := 518) rfl rfl) hI hex rfl hl.1 (Nat.le_of_ble_eq_true rfl) (by decide) (by decide) kd_La_send_7 rfl ?_ ?_ ?_
  · intro cls hc
    obtain ⟨rfl, -⟩ := hc
    exact ⟨22, 48, 50, by decide, by decide⟩
  · intro v M1 H locs hpo hI
    obtain ⟨r, rfl, hpo⟩ := hpo
    refine lv_if_eq (tgt := 17) hx hb kd_La_send_10 (by decide) (fun h10 => ?_) (fun h10 => ?_)
    · skip
      refine lv_lconst (v := 0) hx hb kd_La_send_17 (by decide) ?_
      refine zj_last hS hK hI (a := 182) (n := 1) (by decide) (by decide +kernel) (vp_in_iff.mpr (by decide)) kd_La_send_18 (fun H locs hI => ?_)
      refine lv_goto (tgt := 26) hx hb kd_La_send_19 (by decide) ?_
      refine lv_iconst (v := 0) hx hb kd_La_send_26 (by decide) ?_
      exact zj_iret hS hK hX hlk hr hI kd_La_send_27 (Or.inl ⟨rfl, r, M1, hpo, by first | rw [if_pos h10]; rfl | rw [if_neg h10]; rfl⟩)
    · skip
      refine lv_lconst (v := 1) hx hb kd_La_send_13 (by decide) ?_
      refine lv_goto (tgt := 18) hx hb kd_La_send_14 (by decide) ?_
      refine zj_last hS hK hI (a := 182) (n := 1) (by decide) (by decide +kernel) (vp_in_iff.mpr (by decide)) kd_La_send_18 (fun H locs hI => ?_)
      refine lv_goto (tgt := 26) hx hb kd_La_send_19 (by decide) ?_
      refine lv_iconst (v := 0) hx hb kd_La_send_26 (by decide) ?_
      exact zj_iret hS hK hX hlk hr hI kd_La_send_27 (Or.inl ⟨rfl, r, M1, hpo, by first | rw [if_pos h10]; rfl | rw [if_neg h10]; rfl⟩)
  · intro cls h a H locs hc hd hI
    obtain ⟨rfl, hc⟩ := hc
    obtain rfl : h = 22 := Option.some.inj (hd.symm.trans (by decide : zj_D zxA 7 [((0 : Nat), (19 : Nat), (22 : Nat), (21 : Nat))] = some 22))
    refine zr_astore hx hb kd_La_send_22 hl (by decide) rfl (fun ls hl => ?_)
    refine lv_iconst (v := 1) hx hb kd_La_send_24 (by decide) ?_
    exact zj_iret hS hK hX hlk hr hI kd_La_send_25 (Or.inr ⟨rfl, ⟨rfl, hc⟩⟩)
set_option maxRecDepth 100000 in
set_option maxHeartbeats 4000000 in
theorem w_effect (l : Launch) (hfl : l.flags = Jvm.pinnedFlags ++ [Jvm.noTraceFlag]) (G : zg_T) (M : zm_T) (hL : zL M.2) (s sl k p' q : Int32) : Met l ky_La_effect (zj_ws ky_La_effect kc_La_effect 7 (some .int) [((0 : Nat), (11 : Nat), (14 : Nat), (21 : Nat))]) (zj_rm 8) (va_Pc [.ref (G.2.2.1 + 0), .int s, .int sl, .int k, .int p', .int q] (zy_B G M)) (va_Qi (fun (kx : Int32) (M' : zm_T) => (kx = 0 ∧ (zv_eff s sl k p' q = 0 ∧ M' = zm_ui (zm_ui (zm_ui M (31 + 14 * s.toNatClampNeg + 2 * sl.toNatClampNeg) 1 k) (31 + 14 * s.toNatClampNeg + 2 * sl.toNatClampNeg) 2 p') (31 + 14 * s.toNatClampNeg + 2 * sl.toNatClampNeg) 3 q)) ∨ (M' = M ∧ ((kx = 1 ∧ (zv_eff s sl k p' q = 1))))) (zy_B G) (zm_A G)) 1 6 (zm_A G) := by
  refine zj_met (by decide +kernel) (Nat.le_of_ble_eq_true rfl) ?_
  intro p0 e0 s0 m0 below meth c0 ls hS hK hX hex hlk hr hl hI
  have hx := hS.1
  have hb := hS.2.1
  have hl : zl_has ls 7 [some (.ref (G.2.2.1 + 0)), some (.int s), some (.int sl), some (.int k), some (.int p'), some (.int q), none] := hl
  refine zr_aload_n hx hb kd_La_effect_0 hl rfl ?_
  refine zr_iload_n hx hb kd_La_effect_1 hl rfl ?_
  refine zr_iload_n hx hb kd_La_effect_2 hl rfl ?_
  refine zr_iload_n hx hb kd_La_effect_3 hl rfl ?_
  refine zr_iload hx hb kd_La_effect_4 hl rfl ?_
  refine zr_iload hx hb kd_La_effect_6 hl rfl ?_
  refine zj_row (exc := fun x => x = zxA ∧ zv_eff s sl k p' q = 1) (post := fun vx M' => vx = none ∧ (zv_eff s sl k p' q = 0 ∧ M' = zm_ui (zm_ui (zm_ui M (31 + 14 * s.toNatClampNeg + 2 * sl.toNatClampNeg) 1 k) (31 + 14 * s.toNatClampNeg + 2 * sl.toNatClampNeg) 2 p') (31 + 14 * s.toNatClampNeg + 2 * sl.toNatClampNeg) 3 q)) (rest := []) (n := 5) hS hK hX (x_Mx_effect l hfl G M hL s sl k p' q) (fun a st o t h => ⟨h.1, h.2.imp (fun ⟨M1, h1, h2, h3⟩ => ⟨none, M1, h1, ⟨rfl, h2⟩, h3⟩) id⟩) km_La_55 (zw_mem (i := 525) rfl rfl) hI hex rfl hl.1 (Nat.le_of_ble_eq_true rfl) (by decide) (by decide) kd_La_effect_8 rfl ?_ ?_ ?_
  · intro cls hc
    obtain ⟨rfl, -⟩ := hc
    exact ⟨14, 48, 50, by decide, by decide⟩
  · intro v M1 H locs hpo hI
    obtain ⟨rfl, hpo⟩ := hpo
    refine lv_goto (tgt := 18) hx hb kd_La_effect_11 (by decide) ?_
    refine lv_iconst (v := 0) hx hb kd_La_effect_18 (by decide) ?_
    exact zj_iret hS hK hX hlk hr hI kd_La_effect_19 (Or.inl ⟨rfl, hpo⟩)
  · intro cls h a H locs hc hd hI
    obtain ⟨rfl, hc⟩ := hc
    obtain rfl : h = 14 := Option.some.inj (hd.symm.trans (by decide : zj_D zxA 8 [((0 : Nat), (11 : Nat), (14 : Nat), (21 : Nat))] = some 14))
    refine zr_astore hx hb kd_La_effect_14 hl (by decide) rfl (fun ls hl => ?_)
    refine lv_iconst (v := 1) hx hb kd_La_effect_16 (by decide) ?_
    exact zj_iret hS hK hX hlk hr hI kd_La_effect_17 (Or.inr ⟨rfl, ⟨rfl, hc⟩⟩)
set_option maxRecDepth 100000 in
set_option maxHeartbeats 4000000 in
theorem w_fader (l : Launch) (hfl : l.flags = Jvm.pinnedFlags ++ [Jvm.noTraceFlag]) (G : zg_T) (M : zm_T) (hL : zL M.2) (s v : Int32) : Met l ky_La_fader (zj_ws ky_La_fader kc_La_fader 4 (some .int) [((0 : Nat), (6 : Nat), (9 : Nat), (21 : Nat))]) (zj_rm 8) (va_Pc [.ref (G.2.2.1 + 0), .int s, .int v] (zy_B G M)) (va_Qi (fun (kx : Int32) (M' : zm_T) => (kx = 0 ∧ (¬ (zf_in s 0 7 = 0 ∨ zf_in v 0 1024 = 0) ∧ M' = zm_ui M (25 + 14 * s.toNatClampNeg) 4 v)) ∨ (M' = M ∧ ((kx = 1 ∧ ((zf_in s 0 7 = 0 ∨ zf_in v 0 1024 = 0)))))) (zy_B G) (zm_A G)) 1 6 (zm_A G) := by
  refine zj_met (by decide +kernel) (Nat.le_of_ble_eq_true rfl) ?_
  intro p0 e0 s0 m0 below meth c0 ls hS hK hX hex hlk hr hl hI
  have hx := hS.1
  have hb := hS.2.1
  have hl : zl_has ls 4 [some (.ref (G.2.2.1 + 0)), some (.int s), some (.int v), none] := hl
  refine zr_aload_n hx hb kd_La_fader_0 hl rfl ?_
  refine zr_iload_n hx hb kd_La_fader_1 hl rfl ?_
  refine zr_iload_n hx hb kd_La_fader_2 hl rfl ?_
  refine zj_row (exc := fun x => x = zxA ∧ (zf_in s 0 7 = 0 ∨ zf_in v 0 1024 = 0)) (post := fun vx M' => vx = none ∧ (¬ (zf_in s 0 7 = 0 ∨ zf_in v 0 1024 = 0) ∧ M' = zm_ui M (25 + 14 * s.toNatClampNeg) 4 v)) (rest := []) (n := 2) hS hK hX (x_Mx_fader l hfl G M hL s v) (fun a st o t h => ⟨h.1, h.2.imp (fun ⟨M1, h1, h2, h3⟩ => ⟨none, M1, h1, ⟨rfl, h2⟩, h3⟩) id⟩) km_La_59 (zw_mem (i := 545) rfl rfl) hI hex rfl hl.1 (Nat.le_of_ble_eq_true rfl) (by decide) (by decide) kd_La_fader_3 rfl ?_ ?_ ?_
  · intro cls hc
    obtain ⟨rfl, -⟩ := hc
    exact ⟨9, 48, 50, by decide, by decide⟩
  · intro v M1 H locs hpo hI
    obtain ⟨rfl, hpo⟩ := hpo
    refine lv_goto (tgt := 12) hx hb kd_La_fader_6 (by decide) ?_
    refine lv_iconst (v := 0) hx hb kd_La_fader_12 (by decide) ?_
    exact zj_iret hS hK hX hlk hr hI kd_La_fader_13 (Or.inl ⟨rfl, hpo⟩)
  · intro cls h a H locs hc hd hI
    obtain ⟨rfl, hc⟩ := hc
    obtain rfl : h = 9 := Option.some.inj (hd.symm.trans (by decide : zj_D zxA 3 [((0 : Nat), (6 : Nat), (9 : Nat), (21 : Nat))] = some 9))
    refine zr_astore_n hx hb kd_La_fader_9 hl (by decide) rfl (fun ls hl => ?_)
    refine lv_iconst (v := 1) hx hb kd_La_fader_10 (by decide) ?_
    exact zj_iret hS hK hX hlk hr hI kd_La_fader_11 (Or.inr ⟨rfl, ⟨rfl, hc⟩⟩)

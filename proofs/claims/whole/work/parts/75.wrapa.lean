/-! The law's wrappers: what each gives back, printed by gen/mkwrap.py out of the bytes. -/
set_option maxRecDepth 100000 in
set_option maxHeartbeats 4000000 in
theorem w_samples (l : Launch) (hfl : l.flags = Jvm.pinnedFlags ++ [Jvm.noTraceFlag]) (G : zg_T) (M : zm_T) (hL : zL M.2) (t i : Int32) (four : Int64) : Met l ky_La_samples (zj_ws ky_La_samples kc_La_samples 6 (some .int) [((0 : Nat), (7 : Nat), (10 : Nat), (13 : Nat)), ((0 : Nat), (7 : Nat), (14 : Nat), (15 : Nat))]) (zj_rm 8) (va_Pc [.ref (G.2.2.1 + 0), .int t, .int i, .long four] (zy_B G M)) (va_Qi (fun (kx : Int32) (M' : zm_T) => (kx = 0 ∧ (zu_sam M t i = 0 ∧ M' = zm_seg M (136 + 2 * t.toNatClampNeg) i.toNatClampNeg 4 (zf_sh four))) ∨ (M' = M ∧ ((kx = 1 ∧ (zu_sam M t i = 1)) ∨ (kx = 2 ∧ (zu_sam M t i = 2))))) (zy_B G) (zm_A G)) 1 6 (zm_A G) := by
  refine zj_met (by decide +kernel) (Nat.le_of_ble_eq_true rfl) ?_
  intro p0 e0 s0 m0 below meth c0 ls hS hK hX hex hlk hr hl hI
  have hx := hS.1
  have hb := hS.2.1
  have hl : zl_has ls 6 [some (.ref (G.2.2.1 + 0)), some (.int t), some (.int i), some (.long four), none, none] := hl
  refine zr_aload_n hx hb kd_La_samples_0 hl rfl ?_
  refine zr_iload_n hx hb kd_La_samples_1 hl rfl ?_
  refine zr_iload_n hx hb kd_La_samples_2 hl rfl ?_
  refine zr_lload_n hx hb kd_La_samples_3 hl rfl ?_
  refine zj_row (exc := fun c => (c = zxI ∧ zu_sam M t i = 1) ∨ (c = zxS ∧ zu_sam M t i = 2)) (post := fun vx M' => vx = none ∧ (zu_sam M t i = 0 ∧ M' = zm_seg M (136 + 2 * t.toNatClampNeg) i.toNatClampNeg 4 (zf_sh four))) (rest := []) (n := 3) hS hK hX (x_Mx_samples l hfl G M hL t i four) (fun a st o t h => ⟨h.1, h.2.imp (fun ⟨M1, h1, h2, h3⟩ => ⟨none, M1, h1, ⟨rfl, h2⟩, h3⟩) id⟩) km_La_7 (zw_mem (i := 268) rfl rfl) hI hex rfl hl.1 (Nat.le_of_ble_eq_true rfl) (by decide) (by decide) kd_La_samples_4 rfl ?_ ?_ ?_
  · intro cls hc
    rcases hc with ⟨rfl, -⟩ | ⟨rfl, -⟩
    · exact ⟨10, 34, 36, by decide, by decide⟩
    · exact ⟨14, 41, 43, by decide, by decide⟩
  · intro v M1 H locs hpo hI
    obtain ⟨rfl, hpo⟩ := hpo
    refine lv_goto (tgt := 18) hx hb kd_La_samples_7 (by decide) ?_
    refine lv_iconst (v := 0) hx hb kd_La_samples_18 (by decide) ?_
    exact zj_iret hS hK hX hlk hr hI kd_La_samples_19 (Or.inl ⟨rfl, hpo⟩)
  · intro cls h a H locs hc hd hI
    rcases hc with ⟨rfl, hc⟩ | ⟨rfl, hc⟩
    · skip
      obtain rfl : h = 10 := Option.some.inj (hd.symm.trans (by decide : zj_D zxI 4 [((0 : Nat), (7 : Nat), (10 : Nat), (13 : Nat)), ((0 : Nat), (7 : Nat), (14 : Nat), (15 : Nat))] = some 10))
      refine zr_astore hx hb kd_La_samples_10 hl (by decide) rfl (fun ls hl => ?_)
      refine lv_iconst (v := 1) hx hb kd_La_samples_12 (by decide) ?_
      exact zj_iret hS hK hX hlk hr hI kd_La_samples_13 (Or.inr ⟨rfl, Or.inl ⟨rfl, hc⟩⟩)
    · skip
      obtain rfl : h = 14 := Option.some.inj (hd.symm.trans (by decide : zj_D zxS 4 [((0 : Nat), (7 : Nat), (10 : Nat), (13 : Nat)), ((0 : Nat), (7 : Nat), (14 : Nat), (15 : Nat))] = some 14))
      refine zr_astore hx hb kd_La_samples_14 hl (by decide) rfl (fun ls hl => ?_)
      refine lv_iconst (v := 2) hx hb kd_La_samples_16 (by decide) ?_
      exact zj_iret hS hK hX hlk hr hI kd_La_samples_17 (Or.inr ⟨rfl, Or.inr ⟨rfl, hc⟩⟩)
set_option maxRecDepth 100000 in
set_option maxHeartbeats 4000000 in
theorem w_seal (l : Launch) (hfl : l.flags = Jvm.pinnedFlags ++ [Jvm.noTraceFlag]) (G : zg_T) (M : zm_T) (hL : zL M.2) (t n : Int32) : Met l ky_La_seal (zj_ws ky_La_seal kc_La_seal 4 (some .int) [((0 : Nat), (6 : Nat), (9 : Nat), (13 : Nat)), ((0 : Nat), (6 : Nat), (12 : Nat), (21 : Nat)), ((0 : Nat), (6 : Nat), (15 : Nat), (15 : Nat))]) (zj_rm 8) (va_Pc [.ref (G.2.2.1 + 0), .int t, .int n] (zy_B G M)) (va_Qi (fun (kx : Int32) (M' : zm_T) => (kx = 0 ∧ (zu_seal M t n = 0 ∧ M' = zm_ui M (135 + 2 * t.toNatClampNeg) 1 n)) ∨ (M' = M ∧ ((kx = 1 ∧ (zu_seal M t n = 1)) ∨ (kx = 2 ∧ (zu_seal M t n = 2)) ∨ (kx = 3 ∧ (zu_seal M t n = 3))))) (zy_B G) (zm_A G)) 1 6 (zm_A G) := by
  refine zj_met (by decide +kernel) (Nat.le_of_ble_eq_true rfl) ?_
  intro p0 e0 s0 m0 below meth c0 ls hS hK hX hex hlk hr hl hI
  have hx := hS.1
  have hb := hS.2.1
  have hl : zl_has ls 4 [some (.ref (G.2.2.1 + 0)), some (.int t), some (.int n), none] := hl
  refine zr_aload_n hx hb kd_La_seal_0 hl rfl ?_
  refine zr_iload_n hx hb kd_La_seal_1 hl rfl ?_
  refine zr_iload_n hx hb kd_La_seal_2 hl rfl ?_
  refine zj_row (exc := fun c => (c = zxI ∧ zu_seal M t n = 1) ∨ (c = zxA ∧ zu_seal M t n = 2) ∨ (c = zxS ∧ zu_seal M t n = 3)) (post := fun vx M' => vx = none ∧ (zu_seal M t n = 0 ∧ M' = zm_ui M (135 + 2 * t.toNatClampNeg) 1 n)) (rest := []) (n := 2) hS hK hX (x_Mx_seal l hfl G M hL t n) (fun a st o t h => ⟨h.1, h.2.imp (fun ⟨M1, h1, h2, h3⟩ => ⟨none, M1, h1, ⟨rfl, h2⟩, h3⟩) id⟩) km_La_17 (zw_mem (i := 368) rfl rfl) hI hex rfl hl.1 (Nat.le_of_ble_eq_true rfl) (by decide) (by decide) kd_La_seal_3 rfl ?_ ?_ ?_
  · intro cls hc
    rcases hc with ⟨rfl, -⟩ | ⟨rfl, -⟩ | ⟨rfl, -⟩
    · exact ⟨9, 34, 36, by decide, by decide⟩
    · exact ⟨12, 48, 50, by decide, by decide⟩
    · exact ⟨15, 41, 43, by decide, by decide⟩
  · intro v M1 H locs hpo hI
    obtain ⟨rfl, hpo⟩ := hpo
    refine lv_goto (tgt := 18) hx hb kd_La_seal_6 (by decide) ?_
    refine lv_iconst (v := 0) hx hb kd_La_seal_18 (by decide) ?_
    exact zj_iret hS hK hX hlk hr hI kd_La_seal_19 (Or.inl ⟨rfl, hpo⟩)
  · intro cls h a H locs hc hd hI
    rcases hc with ⟨rfl, hc⟩ | ⟨rfl, hc⟩ | ⟨rfl, hc⟩
    · skip
      obtain rfl : h = 9 := Option.some.inj (hd.symm.trans (by decide : zj_D zxI 3 [((0 : Nat), (6 : Nat), (9 : Nat), (13 : Nat)), ((0 : Nat), (6 : Nat), (12 : Nat), (21 : Nat)), ((0 : Nat), (6 : Nat), (15 : Nat), (15 : Nat))] = some 9))
      refine zr_astore_n hx hb kd_La_seal_9 hl (by decide) rfl (fun ls hl => ?_)
      refine lv_iconst (v := 1) hx hb kd_La_seal_10 (by decide) ?_
      exact zj_iret hS hK hX hlk hr hI kd_La_seal_11 (Or.inr ⟨rfl, Or.inl ⟨rfl, hc⟩⟩)
    · skip
      obtain rfl : h = 12 := Option.some.inj (hd.symm.trans (by decide : zj_D zxA 3 [((0 : Nat), (6 : Nat), (9 : Nat), (13 : Nat)), ((0 : Nat), (6 : Nat), (12 : Nat), (21 : Nat)), ((0 : Nat), (6 : Nat), (15 : Nat), (15 : Nat))] = some 12))
      refine zr_astore_n hx hb kd_La_seal_12 hl (by decide) rfl (fun ls hl => ?_)
      refine lv_iconst (v := 2) hx hb kd_La_seal_13 (by decide) ?_
      exact zj_iret hS hK hX hlk hr hI kd_La_seal_14 (Or.inr ⟨rfl, Or.inr (Or.inl ⟨rfl, hc⟩)⟩)
    · skip
      obtain rfl : h = 15 := Option.some.inj (hd.symm.trans (by decide : zj_D zxS 3 [((0 : Nat), (6 : Nat), (9 : Nat), (13 : Nat)), ((0 : Nat), (6 : Nat), (12 : Nat), (21 : Nat)), ((0 : Nat), (6 : Nat), (15 : Nat), (15 : Nat))] = some 15))
      refine zr_astore_n hx hb kd_La_seal_15 hl (by decide) rfl (fun ls hl => ?_)
      refine lv_iconst (v := 3) hx hb kd_La_seal_16 (by decide) ?_
      exact zj_iret hS hK hX hlk hr hI kd_La_seal_17 (Or.inr ⟨rfl, Or.inr (Or.inr ⟨rfl, hc⟩)⟩)
set_option maxRecDepth 100000 in
set_option maxHeartbeats 4000000 in
theorem w_take (l : Launch) (hfl : l.flags = Jvm.pinnedFlags ++ [Jvm.noTraceFlag]) (G : zg_T) (M : zm_T) (hL : zL M.2) (t i : Int32) (hlen : ∀ k, k < 8 → 0 ≤ (M.1 (135 + 2 * k) 1).toInt ∧ (M.1 (135 + 2 * k) 1).toInt ≤ 64) : Met l ky_La_take (zj_ws ky_La_take kc_La_take 5 (some .int) [((0 : Nat), (10 : Nat), (13 : Nat), (13 : Nat))]) (zj_rm 8) (va_Pc [.ref (G.2.2.1 + 0), .int t, .int i, .ref (G.2.2.1 + 182)] (zy_B G M)) (va_Qi (fun (kx : Int32) (M' : zm_T) => (kx = 0 ∧ ∃ (r : Int32) (M1 : zm_T), (zu_tk M t i = 0 ∧ r = (if i = -1 then M.1 (135 + 2 * t.toNatClampNeg) 1 else M.1 (136 + 2 * t.toNatClampNeg) i.toNatClampNeg) ∧ M1 = M) ∧ M' = zm_ul M1 182 0 r.toInt64) ∨ (M' = M ∧ ((kx = 1 ∧ (zu_tk M t i = 1))))) (zy_B G) (zm_A G)) 1 6 (zm_A G) := by
  refine zj_met (by decide +kernel) (Nat.le_of_ble_eq_true rfl) ?_
  intro p0 e0 s0 m0 below meth c0 ls hS hK hX hex hlk hr hl hI
  have hx := hS.1
  have hb := hS.2.1
  have hl : zl_has ls 5 [some (.ref (G.2.2.1 + 0)), some (.int t), some (.int i), some (.ref (G.2.2.1 + 182)), none] := hl
  refine zr_aload_n hx hb kd_La_take_0 hl rfl ?_
  refine lv_iconst (v := 0) hx hb kd_La_take_1 (by decide) ?_
  refine zr_aload_n hx hb kd_La_take_2 hl rfl ?_
  refine zr_iload_n hx hb kd_La_take_3 hl rfl ?_
  refine zr_iload_n hx hb kd_La_take_4 hl rfl ?_
  refine zj_row (exc := fun c => c = zxI ∧ zu_tk M t i = 1) (post := fun vx M' => ∃ r : Int32, vx = some (.int r) ∧ (zu_tk M t i = 0 ∧ r = (if i = -1 then M.1 (135 + 2 * t.toNatClampNeg) 1 else M.1 (136 + 2 * t.toNatClampNeg) i.toNatClampNeg) ∧ M' = M)) (rest := [.int 0, .ref (G.2.2.1 + 182)]) (n := 2) hS hK hX (x_Mx_take l hfl G M hL t i hlen) (fun a st o t h => ⟨h.1, h.2.imp (fun ⟨r, M1, h1, h2, h3⟩ => ⟨_, M1, h1, ⟨r, rfl, h2⟩, h3⟩) id⟩) km_La_23 (zw_mem (i := 390) rfl rfl) hI hex rfl hl.1 (Nat.le_of_ble_eq_true rfl) (by decide) (by decide) kd_La_take_5 rfl ?_ ?_ ?_
  · intro cls hc
    obtain ⟨rfl, -⟩ := hc
    exact ⟨13, 34, 36, by decide, by decide⟩
  · intro v M1 H locs hpo hI
    obtain ⟨r, rfl, hpo⟩ := hpo
    refine lv_i2l hx hb kd_La_take_8 rfl ?_
    refine zj_last hS hK hI (a := 182) (n := 1) (by decide) (by decide +kernel) (vp_in_iff.mpr (by decide)) kd_La_take_9 (fun H locs hI => ?_)
    refine lv_goto (tgt := 17) hx hb kd_La_take_10 (by decide) ?_
    refine lv_iconst (v := 0) hx hb kd_La_take_17 (by decide) ?_
    exact zj_iret hS hK hX hlk hr hI kd_La_take_18 (Or.inl ⟨rfl, r, M1, hpo, rfl⟩)
  · intro cls h a H locs hc hd hI
    obtain ⟨rfl, hc⟩ := hc
    obtain rfl : h = 13 := Option.some.inj (hd.symm.trans (by decide : zj_D zxI 5 [((0 : Nat), (10 : Nat), (13 : Nat), (13 : Nat))] = some 13))
    refine zr_astore hx hb kd_La_take_13 hl (by decide) rfl (fun ls hl => ?_)
    refine lv_iconst (v := 1) hx hb kd_La_take_15 (by decide) ?_
    exact zj_iret hS hK hX hlk hr hI kd_La_take_16 (Or.inr ⟨rfl, ⟨rfl, hc⟩⟩)
set_option maxRecDepth 100000 in
set_option maxHeartbeats 4000000 in
theorem w_clip (l : Launch) (hfl : l.flags = Jvm.pinnedFlags ++ [Jvm.noTraceFlag]) (G : zg_T) (M : zm_T) (hL : zL M.2) (tr a t f n : Int32) : Met l ky_La_clip (zj_ws ky_La_clip kc_La_clip 8 (some .int) [((0 : Nat), (16 : Nat), (19 : Nat), (21 : Nat)), ((0 : Nat), (16 : Nat), (23 : Nat), (15 : Nat))]) (zj_rm 8) (va_Pc [.ref (G.2.2.1 + 0), .int tr, .int a, .int t, .int f, .int n, .ref (G.2.2.1 + 182)] (zy_B G M)) (va_Qi (fun (kx : Int32) (M' : zm_T) => (kx = 0 ∧ ∃ (r : Int32) (M1 : zm_T), (¬ zv_bad tr a t f n ∧ ¬ M.1 (135 + 2 * t.toNatClampNeg) 1 - n < f ∧ ∃ d, zf_fr M d ∧ (((d = 16 ∨ ∃ e, e < 16 ∧ zu_lk M tr a n (-1) e) ∧ r = -1 ∧ M1 = M) ∨ (d < 16 ∧ (¬ ∃ e, e < 16 ∧ zu_lk M tr a n (-1) e) ∧ r = nI d ∧ M1 = zu_new M d tr a t.toNatClampNeg f n))) ∧ M' = zm_ul M1 182 0 r.toInt64) ∨ (M' = M ∧ ((kx = 1 ∧ (zv_bad tr a t f n)) ∨ (kx = 2 ∧ (¬ zv_bad tr a t f n ∧ M.1 (135 + 2 * t.toNatClampNeg) 1 - n < f))))) (zy_B G) (zm_A G)) 1 6 (zm_A G) := by
  refine zj_met (by decide +kernel) (Nat.le_of_ble_eq_true rfl) ?_
  intro p0 e0 s0 m0 below meth c0 ls hS hK hX hex hlk hr hl hI
  have hx := hS.1
  have hb := hS.2.1
  have hl : zl_has ls 8 [some (.ref (G.2.2.1 + 0)), some (.int tr), some (.int a), some (.int t), some (.int f), some (.int n), some (.ref (G.2.2.1 + 182)), none] := hl
  refine zr_aload hx hb kd_La_clip_0 hl rfl ?_
  refine lv_iconst (v := 0) hx hb kd_La_clip_2 (by decide) ?_
  refine zr_aload_n hx hb kd_La_clip_3 hl rfl ?_
  refine zr_iload_n hx hb kd_La_clip_4 hl rfl ?_
  refine zr_iload_n hx hb kd_La_clip_5 hl rfl ?_
  refine zr_iload_n hx hb kd_La_clip_6 hl rfl ?_
  refine zr_iload hx hb kd_La_clip_7 hl rfl ?_
  refine zr_iload hx hb kd_La_clip_9 hl rfl ?_
  refine zj_row (exc := fun c => (c = zxA ∧ zv_bad tr a t f n) ∨ (c = zxS ∧ ¬ zv_bad tr a t f n ∧ M.1 (135 + 2 * t.toNatClampNeg) 1 - n < f)) (post := fun vx M' => ∃ r : Int32, vx = some (.int r) ∧ (¬ zv_bad tr a t f n ∧ ¬ M.1 (135 + 2 * t.toNatClampNeg) 1 - n < f ∧ ∃ d, zf_fr M d ∧ (((d = 16 ∨ ∃ e, e < 16 ∧ zu_lk M tr a n (-1) e) ∧ r = -1 ∧ M' = M) ∨ (d < 16 ∧ (¬ ∃ e, e < 16 ∧ zu_lk M tr a n (-1) e) ∧ r = nI d ∧ M' = zu_new M d tr a t.toNatClampNeg f n)))) (rest := [.int 0, .ref (G.2.2.1 + 182)]) (n := 5) hS hK hX (x_Mx_clip l hfl G M hL tr a t f n) (fun a st o t h => ⟨h.1, h.2.imp (fun ⟨r, M1, h1, h2, h3⟩ => ⟨_, M1, h1, ⟨r, rfl, h2⟩, h3⟩) id⟩) km_La_27 (zw_mem (i := 402) rfl rfl) hI hex rfl hl.1 (Nat.le_of_ble_eq_true rfl) (by decide) (by decide) kd_La_clip_11 rfl ?_ ?_ ?_
  · intro cls hc
    rcases hc with ⟨rfl, -⟩ | ⟨rfl, -⟩
    · exact ⟨19, 48, 50, by decide, by decide⟩
    · exact ⟨23, 41, 43, by decide, by decide⟩
  · intro v M1 H locs hpo hI
    obtain ⟨r, rfl, hpo⟩ := hpo
    refine lv_i2l hx hb kd_La_clip_14 rfl ?_
    refine zj_last hS hK hI (a := 182) (n := 1) (by decide) (by decide +kernel) (vp_in_iff.mpr (by decide)) kd_La_clip_15 (fun H locs hI => ?_)
    refine lv_goto (tgt := 27) hx hb kd_La_clip_16 (by decide) ?_
    refine lv_iconst (v := 0) hx hb kd_La_clip_27 (by decide) ?_
    exact zj_iret hS hK hX hlk hr hI kd_La_clip_28 (Or.inl ⟨rfl, r, M1, hpo, rfl⟩)
  · intro cls h a H locs hc hd hI
    rcases hc with ⟨rfl, hc⟩ | ⟨rfl, hc⟩
    · skip
      obtain rfl : h = 19 := Option.some.inj (hd.symm.trans (by decide : zj_D zxA 11 [((0 : Nat), (16 : Nat), (19 : Nat), (21 : Nat)), ((0 : Nat), (16 : Nat), (23 : Nat), (15 : Nat))] = some 19))
      refine zr_astore hx hb kd_La_clip_19 hl (by decide) rfl (fun ls hl => ?_)
      refine lv_iconst (v := 1) hx hb kd_La_clip_21 (by decide) ?_
      exact zj_iret hS hK hX hlk hr hI kd_La_clip_22 (Or.inr ⟨rfl, Or.inl ⟨rfl, hc⟩⟩)
    · skip
      obtain rfl : h = 23 := Option.some.inj (hd.symm.trans (by decide : zj_D zxS 11 [((0 : Nat), (16 : Nat), (19 : Nat), (21 : Nat)), ((0 : Nat), (16 : Nat), (23 : Nat), (15 : Nat))] = some 23))
      refine zr_astore hx hb kd_La_clip_23 hl (by decide) rfl (fun ls hl => ?_)
      refine lv_iconst (v := 2) hx hb kd_La_clip_25 (by decide) ?_
      exact zj_iret hS hK hX hlk hr hI kd_La_clip_26 (Or.inr ⟨rfl, Or.inr ⟨rfl, hc⟩⟩)
set_option maxRecDepth 100000 in
set_option maxHeartbeats 4000000 in
theorem w_drop (l : Launch) (hfl : l.flags = Jvm.pinnedFlags ++ [Jvm.noTraceFlag]) (G : zg_T) (M : zm_T) (hL : zL M.2) (c : Int32) : Met l ky_La_drop (zj_ws ky_La_drop kc_La_drop 3 (some .int) [((0 : Nat), (5 : Nat), (8 : Nat), (35 : Nat))]) (zj_rm 8) (va_Pc [.ref (G.2.2.1 + 0), .int c] (zy_B G M)) (va_Qi (fun (kx : Int32) (M' : zm_T) => (kx = 0 ∧ (¬ zf_has M c = 0 ∧ M' = zm_ui M (4 + c.toNatClampNeg) 4 0)) ∨ (M' = M ∧ ((kx = 1 ∧ (zf_has M c = 0))))) (zy_B G) (zm_A G)) 1 6 (zm_A G) := by
  refine zj_met (by decide +kernel) (Nat.le_of_ble_eq_true rfl) ?_
  intro p0 e0 s0 m0 below meth c0 ls hS hK hX hex hlk hr hl hI
  have hx := hS.1
  have hb := hS.2.1
  have hl : zl_has ls 3 [some (.ref (G.2.2.1 + 0)), some (.int c), none] := hl
  refine zr_aload_n hx hb kd_La_drop_0 hl rfl ?_
  refine zr_iload_n hx hb kd_La_drop_1 hl rfl ?_
  refine zj_row (exc := fun x => x = zxN ∧ zf_has M c = 0) (post := fun vx M' => vx = none ∧ (¬ zf_has M c = 0 ∧ M' = zm_ui M (4 + c.toNatClampNeg) 4 0)) (rest := []) (n := 1) hS hK hX (x_Mx_drop l hfl G M hL c) (fun a st o t h => ⟨h.1, h.2.imp (fun ⟨M1, h1, h2, h3⟩ => ⟨none, M1, h1, ⟨rfl, h2⟩, h3⟩) id⟩) km_La_31 (zw_mem (i := 434) rfl rfl) hI hex rfl hl.1 (Nat.le_of_ble_eq_true rfl) (by decide) (by decide) kd_La_drop_2 rfl ?_ ?_ ?_
  · intro cls hc
    obtain ⟨rfl, -⟩ := hc
    exact ⟨8, 92, 94, by decide, by decide⟩
  · intro v M1 H locs hpo hI
    obtain ⟨rfl, hpo⟩ := hpo
    refine lv_goto (tgt := 11) hx hb kd_La_drop_5 (by decide) ?_
    refine lv_iconst (v := 0) hx hb kd_La_drop_11 (by decide) ?_
    exact zj_iret hS hK hX hlk hr hI kd_La_drop_12 (Or.inl ⟨rfl, hpo⟩)
  · intro cls h a H locs hc hd hI
    obtain ⟨rfl, hc⟩ := hc
    obtain rfl : h = 8 := Option.some.inj (hd.symm.trans (by decide : zj_D zxN 2 [((0 : Nat), (5 : Nat), (8 : Nat), (35 : Nat))] = some 8))
    refine zr_astore_n hx hb kd_La_drop_8 hl (by decide) rfl (fun ls hl => ?_)
    refine lv_iconst (v := 1) hx hb kd_La_drop_9 (by decide) ?_
    exact zj_iret hS hK hX hlk hr hI kd_La_drop_10 (Or.inr ⟨rfl, ⟨rfl, hc⟩⟩)
set_option maxRecDepth 100000 in
set_option maxHeartbeats 4000000 in
theorem w_move (l : Launch) (hfl : l.flags = Jvm.pinnedFlags ++ [Jvm.noTraceFlag]) (G : zg_T) (M : zm_T) (hL : zL M.2) (c t a : Int32) : Met l ky_La_move (zj_ws ky_La_move kc_La_move 6 (some .int) [((0 : Nat), (19 : Nat), (22 : Nat), (35 : Nat)), ((0 : Nat), (19 : Nat), (26 : Nat), (21 : Nat))]) (zj_rm 8) (va_Pc [.ref (G.2.2.1 + 0), .int c, .int t, .int a, .ref (G.2.2.1 + 182)] (zy_B G M)) (va_Qi (fun (kx : Int32) (M' : zm_T) => (kx = 0 ∧ ∃ (r : Int32) (M1 : zm_T), (zu_mv M c t a = 0 ∧ ((r = 0 ∧ (∃ e, e < 16 ∧ zu_lk M t a (M.1 (4 + c.toNatClampNeg) 4) c e) ∧ M1 = M) ∨ (r = 1 ∧ (¬ ∃ e, e < 16 ∧ zu_lk M t a (M.1 (4 + c.toNatClampNeg) 4) c e) ∧ M1 = zm_ui (zm_ui M (4 + c.toNatClampNeg) 1 t) (4 + c.toNatClampNeg) 2 a))) ∧ M' = zm_ul M1 182 0 (if r = 0 then 0 else 1)) ∨ (M' = M ∧ ((kx = 1 ∧ (zu_mv M c t a = 1)) ∨ (kx = 2 ∧ (zu_mv M c t a = 2))))) (zy_B G) (zm_A G)) 1 6 (zm_A G) := by
  refine zj_met (by decide +kernel) (Nat.le_of_ble_eq_true rfl) ?_
  intro p0 e0 s0 m0 below meth c0 ls hS hK hX hex hlk hr hl hI
  have hx := hS.1
  have hb := hS.2.1
  have hl : zl_has ls 6 [some (.ref (G.2.2.1 + 0)), some (.int c), some (.int t), some (.int a), some (.ref (G.2.2.1 + 182)), none] := hl
  refine zr_aload hx hb kd_La_move_0 hl rfl ?_
  refine lv_iconst (v := 0) hx hb kd_La_move_2 (by decide) ?_
  refine zr_aload_n hx hb kd_La_move_3 hl rfl ?_
  refine zr_iload_n hx hb kd_La_move_4 hl rfl ?_
  refine zr_iload_n hx hb kd_La_move_5 hl rfl ?_
  refine zr_iload_n hx hb kd_La_move_6 hl rfl ?_
  refine zj_row (exc := fun x => (x = zxN ∧ zu_mv M c t a = 1) ∨ (x = zxA ∧ zu_mv M c t a = 2)) (post := fun vx M' => ∃ r : Int32, vx = some (.int r) ∧ (zu_mv M c t a = 0 ∧ ((r = 0 ∧ (∃ e, e < 16 ∧ zu_lk M t a (M.1 (4 + c.toNatClampNeg) 4) c e) ∧ M' = M) ∨ (r = 1 ∧ (¬ ∃ e, e < 16 ∧ zu_lk M t a (M.1 (4 + c.toNatClampNeg) 4) c e) ∧ M' = zm_ui (zm_ui M (4 + c.toNatClampNeg) 1 t) (4 + c.toNatClampNeg) 2 a)))) (rest := [.int 0, .ref (G.2.2.1 + 182)]) (n := 3) hS hK hX (x_Mx_move l hfl G M hL c t a) (fun a st o t h => ⟨h.1, h.2.imp (fun ⟨r, M1, h1, h2, h3⟩ => ⟨_, M1, h1, ⟨r, rfl, h2⟩, h3⟩) id⟩) km_La_37 (zw_mem (i := 461) rfl rfl) hI hex rfl hl.1 (Nat.le_of_ble_eq_true rfl) (by decide) (by decide) kd_La_move_7 rfl ?_ ?_ ?_
  · intro cls hc
    rcases hc with ⟨rfl, -⟩ | ⟨rfl, -⟩
    · exact ⟨22, 92, 94, by decide, by decide⟩
    · exact ⟨26, 48, 50, by decide, by decide⟩
  · intro v M1 H locs hpo hI
    obtain ⟨r, rfl, hpo⟩ := hpo
    refine lv_if_eq (tgt := 17) hx hb kd_La_move_10 (by decide) (fun h10 => ?_) (fun h10 => ?_)
    · skip
      refine lv_lconst (v := 0) hx hb kd_La_move_17 (by decide) ?_
      refine zj_last hS hK hI (a := 182) (n := 1) (by decide) (by decide +kernel) (vp_in_iff.mpr (by decide)) kd_La_move_18 (fun H locs hI => ?_)
      refine lv_goto (tgt := 30) hx hb kd_La_move_19 (by decide) ?_
      refine lv_iconst (v := 0) hx hb kd_La_move_30 (by decide) ?_
      exact zj_iret hS hK hX hlk hr hI kd_La_move_31 (Or.inl ⟨rfl, r, M1, hpo, by first | rw [if_pos h10]; rfl | rw [if_neg h10]; rfl⟩)
    · skip
      refine lv_lconst (v := 1) hx hb kd_La_move_13 (by decide) ?_
      refine lv_goto (tgt := 18) hx hb kd_La_move_14 (by decide) ?_
      refine zj_last hS hK hI (a := 182) (n := 1) (by decide) (by decide +kernel) (vp_in_iff.mpr (by decide)) kd_La_move_18 (fun H locs hI => ?_)
      refine lv_goto (tgt := 30) hx hb kd_La_move_19 (by decide) ?_
      refine lv_iconst (v := 0) hx hb kd_La_move_30 (by decide) ?_
      exact zj_iret hS hK hX hlk hr hI kd_La_move_31 (Or.inl ⟨rfl, r, M1, hpo, by first | rw [if_pos h10]; rfl | rw [if_neg h10]; rfl⟩)
  · intro cls h a H locs hc hd hI
    rcases hc with ⟨rfl, hc⟩ | ⟨rfl, hc⟩
    · skip
      obtain rfl : h = 22 := Option.some.inj (hd.symm.trans (by decide : zj_D zxN 7 [((0 : Nat), (19 : Nat), (22 : Nat), (35 : Nat)), ((0 : Nat), (19 : Nat), (26 : Nat), (21 : Nat))] = some 22))
      refine zr_astore hx hb kd_La_move_22 hl (by decide) rfl (fun ls hl => ?_)
      refine lv_iconst (v := 1) hx hb kd_La_move_24 (by decide) ?_
      exact zj_iret hS hK hX hlk hr hI kd_La_move_25 (Or.inr ⟨rfl, Or.inl ⟨rfl, hc⟩⟩)
    · skip
      obtain rfl : h = 26 := Option.some.inj (hd.symm.trans (by decide : zj_D zxA 7 [((0 : Nat), (19 : Nat), (22 : Nat), (35 : Nat)), ((0 : Nat), (19 : Nat), (26 : Nat), (21 : Nat))] = some 26))
      refine zr_astore hx hb kd_La_move_26 hl (by decide) rfl (fun ls hl => ?_)
      refine lv_iconst (v := 2) hx hb kd_La_move_28 (by decide) ?_
      exact zj_iret hS hK hX hlk hr hI kd_La_move_29 (Or.inr ⟨rfl, Or.inr ⟨rfl, hc⟩⟩)

/-! The law's wrappers: what each gives back, printed by gen/mkwrap.py out of the bytes. -/
set_option maxRecDepth 100000 in
set_option maxHeartbeats 4000000 in
theorem w_point (l : Launch) (hfl : l.flags = Jvm.pinnedFlags ++ [Jvm.noTraceFlag]) (G : zg_T) (M : zm_T) (hL : zL M.2) (s t lv jn : Int32) (hj : jn = 0 ∨ jn = 1) (fn : Nat → Nat) (hfn : ∀ a, a < 8 → M.1 (25 + 14 * a) 3 = nI (fn a) ∧ fn a ≤ 8 ∧ ∀ i, i < fn a → M.1 (28 + 14 * a) i = 0 ∨ M.1 (28 + 14 * a) i = 1) : Met l ky_La_point (zj_ws ky_La_point kc_La_point 7 (some .int) [((0 : Nat), (21 : Nat), (24 : Nat), (21 : Nat))]) (zj_rm 8) (va_Pc [.ref (G.2.2.1 + 0), .int s, .int t, .int lv, .int jn, .ref (G.2.2.1 + 182)] (zy_B G M)) (va_Qi (fun (kx : Int32) (M' : zm_T) => (kx = 0 ∧ ∃ (r : Int32) (M1 : zm_T), (zv_pt s t lv = 0 ∧ ∃ a, a < 8 ∧ s = nI a ∧ ∃ c : Nat, c ≤ fn a ∧ (∀ i, i < c → M.1 (26 + 14 * a) i < t) ∧ (c < fn a → t ≤ M.1 (26 + 14 * a) c) ∧ ((r = 0 ∧ M1 = M ∧ fn a = 8 ∧ ¬ (c < fn a ∧ M.1 (26 + 14 * a) c = t)) ∨ (r = 1 ∧ zF_put M M1 (25 + 14 * a) (26 + 14 * a) (27 + 14 * a) (28 + 14 * a) (fn a) c t lv jn))) ∧ M' = zm_ul M1 182 0 (if r = 0 then 0 else 1)) ∨ (M' = M ∧ ((kx = 1 ∧ (zv_pt s t lv = 1))))) (zy_B G) (zm_A G)) 1 6 (zm_A G) := by
  refine zj_met (by decide +kernel) (Nat.le_of_ble_eq_true rfl) ?_
  intro p0 e0 s0 m0 below meth c0 ls hS hK hX hex hlk hr hl hI
  have hx := hS.1
  have hb := hS.2.1
  have hl : zl_has ls 7 [some (.ref (G.2.2.1 + 0)), some (.int s), some (.int t), some (.int lv), some (.int jn), some (.ref (G.2.2.1 + 182)), none] := hl
  refine zr_aload hx hb kd_La_point_0 hl rfl ?_
  refine lv_iconst (v := 0) hx hb kd_La_point_2 (by decide) ?_
  refine zr_aload_n hx hb kd_La_point_3 hl rfl ?_
  refine zr_iload_n hx hb kd_La_point_4 hl rfl ?_
  refine zr_iload_n hx hb kd_La_point_5 hl rfl ?_
  refine zr_iload_n hx hb kd_La_point_6 hl rfl ?_
  refine zr_iload hx hb kd_La_point_7 hl rfl ?_
  refine zj_row (exc := fun x => x = zxA ∧ zv_pt s t lv = 1) (post := fun vx M' => ∃ r : Int32, vx = some (.int r) ∧ (zv_pt s t lv = 0 ∧ ∃ a, a < 8 ∧ s = nI a ∧ ∃ c : Nat, c ≤ fn a ∧ (∀ i, i < c → M.1 (26 + 14 * a) i < t) ∧ (c < fn a → t ≤ M.1 (26 + 14 * a) c) ∧ ((r = 0 ∧ M' = M ∧ fn a = 8 ∧ ¬ (c < fn a ∧ M.1 (26 + 14 * a) c = t)) ∨ (r = 1 ∧ zF_put M M' (25 + 14 * a) (26 + 14 * a) (27 + 14 * a) (28 + 14 * a) (fn a) c t lv jn)))) (rest := [.int 0, .ref (G.2.2.1 + 182)]) (n := 4) hS hK hX (x_Mx_point l hfl G M hL s t lv jn hj fn hfn) (fun a st o t h => ⟨h.1, h.2.imp (fun ⟨r, M1, h1, h2, h3⟩ => ⟨_, M1, h1, ⟨r, rfl, h2⟩, h3⟩) id⟩) km_La_62 (zw_mem (i := 552) rfl rfl) hI hex rfl hl.1 (Nat.le_of_ble_eq_true rfl) (by decide) (by decide) kd_La_point_9 rfl ?_ ?_ ?_
  · intro cls hc
    obtain ⟨rfl, -⟩ := hc
    exact ⟨24, 48, 50, by decide, by decide⟩
  · intro v M1 H locs hpo hI
    obtain ⟨r, rfl, hpo⟩ := hpo
    refine lv_if_eq (tgt := 19) hx hb kd_La_point_12 (by decide) (fun h12 => ?_) (fun h12 => ?_)
    · skip
      refine lv_lconst (v := 0) hx hb kd_La_point_19 (by decide) ?_
      refine zj_last hS hK hI (a := 182) (n := 1) (by decide) (by decide +kernel) (vp_in_iff.mpr (by decide)) kd_La_point_20 (fun H locs hI => ?_)
      refine lv_goto (tgt := 28) hx hb kd_La_point_21 (by decide) ?_
      refine lv_iconst (v := 0) hx hb kd_La_point_28 (by decide) ?_
      exact zj_iret hS hK hX hlk hr hI kd_La_point_29 (Or.inl ⟨rfl, r, M1, hpo, by first | rw [if_pos h12]; rfl | rw [if_neg h12]; rfl⟩)
    · skip
      refine lv_lconst (v := 1) hx hb kd_La_point_15 (by decide) ?_
      refine lv_goto (tgt := 20) hx hb kd_La_point_16 (by decide) ?_
      refine zj_last hS hK hI (a := 182) (n := 1) (by decide) (by decide +kernel) (vp_in_iff.mpr (by decide)) kd_La_point_20 (fun H locs hI => ?_)
      refine lv_goto (tgt := 28) hx hb kd_La_point_21 (by decide) ?_
      refine lv_iconst (v := 0) hx hb kd_La_point_28 (by decide) ?_
      exact zj_iret hS hK hX hlk hr hI kd_La_point_29 (Or.inl ⟨rfl, r, M1, hpo, by first | rw [if_pos h12]; rfl | rw [if_neg h12]; rfl⟩)
  · intro cls h a H locs hc hd hI
    obtain ⟨rfl, hc⟩ := hc
    obtain rfl : h = 24 := Option.some.inj (hd.symm.trans (by decide : zj_D zxA 9 [((0 : Nat), (21 : Nat), (24 : Nat), (21 : Nat))] = some 24))
    refine zr_astore hx hb kd_La_point_24 hl (by decide) rfl (fun ls hl => ?_)
    refine lv_iconst (v := 1) hx hb kd_La_point_26 (by decide) ?_
    exact zj_iret hS hK hX hlk hr hI kd_La_point_27 (Or.inr ⟨rfl, ⟨rfl, hc⟩⟩)
set_option maxRecDepth 100000 in
set_option maxHeartbeats 4000000 in
theorem w_turn (l : Launch) (hfl : l.flags = Jvm.pinnedFlags ++ [Jvm.noTraceFlag]) (G : zg_T) (M : zm_T) (hL : zL M.2) (s w : Int32) : Met l ky_La_turn (zj_ws ky_La_turn kc_La_turn 5 (some .int) [((0 : Nat), (10 : Nat), (13 : Nat), (21 : Nat))]) (zj_rm 8) (va_Pc [.ref (G.2.2.1 + 0), .int s, .int w, .ref (G.2.2.1 + 182)] (zy_B G M)) (va_Qi (fun (kx : Int32) (M' : zm_T) => (kx = 0 ∧ ∃ (r : Int32) (M1 : zm_T), (zv_trn s w = 0 ∧ ((w = 0 ∧ r = M.1 (25 + 14 * s.toNatClampNeg) 3 ∧ M1 = zm_ui M (25 + 14 * s.toNatClampNeg) 3 0) ∨ (¬ w = 0 ∧ w < 3 ∧ (r = if M.1 (23 + 14 * s.toNatClampNeg) 5 = zv_on w then 0 else 1) ∧ M1 = zm_ui M (23 + 14 * s.toNatClampNeg) 5 (zv_on w)) ∨ (¬ w = 0 ∧ ¬ w < 3 ∧ (r = if M.1 (23 + 14 * s.toNatClampNeg) 6 = zv_on w then 0 else 1) ∧ M1 = zm_ui M (23 + 14 * s.toNatClampNeg) 6 (zv_on w)))) ∧ M' = zm_ul M1 182 0 r.toInt64) ∨ (M' = M ∧ ((kx = 1 ∧ (zv_trn s w = 1))))) (zy_B G) (zm_A G)) 1 6 (zm_A G) := by
  refine zj_met (by decide +kernel) (Nat.le_of_ble_eq_true rfl) ?_
  intro p0 e0 s0 m0 below meth c0 ls hS hK hX hex hlk hr hl hI
  have hx := hS.1
  have hb := hS.2.1
  have hl : zl_has ls 5 [some (.ref (G.2.2.1 + 0)), some (.int s), some (.int w), some (.ref (G.2.2.1 + 182)), none] := hl
  refine zr_aload_n hx hb kd_La_turn_0 hl rfl ?_
  refine lv_iconst (v := 0) hx hb kd_La_turn_1 (by decide) ?_
  refine zr_aload_n hx hb kd_La_turn_2 hl rfl ?_
  refine zr_iload_n hx hb kd_La_turn_3 hl rfl ?_
  refine zr_iload_n hx hb kd_La_turn_4 hl rfl ?_
  refine zj_row (exc := fun x => x = zxA ∧ zv_trn s w = 1) (post := fun vx M' => ∃ r : Int32, vx = some (.int r) ∧ (zv_trn s w = 0 ∧ ((w = 0 ∧ r = M.1 (25 + 14 * s.toNatClampNeg) 3 ∧ M' = zm_ui M (25 + 14 * s.toNatClampNeg) 3 0) ∨ (¬ w = 0 ∧ w < 3 ∧ (r = if M.1 (23 + 14 * s.toNatClampNeg) 5 = zv_on w then 0 else 1) ∧ M' = zm_ui M (23 + 14 * s.toNatClampNeg) 5 (zv_on w)) ∨ (¬ w = 0 ∧ ¬ w < 3 ∧ (r = if M.1 (23 + 14 * s.toNatClampNeg) 6 = zv_on w then 0 else 1) ∧ M' = zm_ui M (23 + 14 * s.toNatClampNeg) 6 (zv_on w))))) (rest := [.int 0, .ref (G.2.2.1 + 182)]) (n := 2) hS hK hX (x_Mx_turn l hfl G M hL s w) (fun a st o t h => ⟨h.1, h.2.imp (fun ⟨r, M1, h1, h2, h3⟩ => ⟨_, M1, h1, ⟨r, rfl, h2⟩, h3⟩) id⟩) km_La_66 (zw_mem (i := 571) rfl rfl) hI hex rfl hl.1 (Nat.le_of_ble_eq_true rfl) (by decide) (by decide) kd_La_turn_5 rfl ?_ ?_ ?_
  · intro cls hc
    obtain ⟨rfl, -⟩ := hc
    exact ⟨13, 48, 50, by decide, by decide⟩
  · intro v M1 H locs hpo hI
    obtain ⟨r, rfl, hpo⟩ := hpo
    refine lv_i2l hx hb kd_La_turn_8 rfl ?_
    refine zj_last hS hK hI (a := 182) (n := 1) (by decide) (by decide +kernel) (vp_in_iff.mpr (by decide)) kd_La_turn_9 (fun H locs hI => ?_)
    refine lv_goto (tgt := 17) hx hb kd_La_turn_10 (by decide) ?_
    refine lv_iconst (v := 0) hx hb kd_La_turn_17 (by decide) ?_
    exact zj_iret hS hK hX hlk hr hI kd_La_turn_18 (Or.inl ⟨rfl, r, M1, hpo, rfl⟩)
  · intro cls h a H locs hc hd hI
    obtain ⟨rfl, hc⟩ := hc
    obtain rfl : h = 13 := Option.some.inj (hd.symm.trans (by decide : zj_D zxA 5 [((0 : Nat), (10 : Nat), (13 : Nat), (21 : Nat))] = some 13))
    refine zr_astore hx hb kd_La_turn_13 hl (by decide) rfl (fun ls hl => ?_)
    refine lv_iconst (v := 1) hx hb kd_La_turn_15 (by decide) ?_
    exact zj_iret hS hK hX hlk hr hI kd_La_turn_16 (Or.inr ⟨rfl, ⟨rfl, hc⟩⟩)
set_option maxRecDepth 100000 in
set_option maxHeartbeats 4000000 in
theorem w_render (l : Launch) (hfl : l.flags = Jvm.pinnedFlags ++ [Jvm.noTraceFlag]) (G : zg_T) (M : zm_T) (hL : zL M.2) (fn : Nat → Nat) (f n : Int32) (hok : zQ_ok M fn) : Met l ky_La_render (zj_ws ky_La_render kc_La_render 4 (some .int) [((0 : Nat), (6 : Nat), (9 : Nat), (21 : Nat))]) (zj_rm 8) (va_Pc [.ref (G.2.2.1 + 0), .int f, .int n] (zy_B G M)) (va_Qi (fun (kx : Int32) (M' : zm_T) => (kx = 0 ∧ (¬ zf_blk f n = 0 ∧ zQ M M' fn f.toNatClampNeg n.toNatClampNeg)) ∨ (M' = M ∧ ((kx = 1 ∧ (zf_blk f n = 0))))) (zy_B G) (zm_A G)) 1 6 (zm_A G) := by
  refine zj_met (by decide +kernel) (Nat.le_of_ble_eq_true rfl) ?_
  intro p0 e0 s0 m0 below meth c0 ls hS hK hX hex hlk hr hl hI
  have hx := hS.1
  have hb := hS.2.1
  have hl : zl_has ls 4 [some (.ref (G.2.2.1 + 0)), some (.int f), some (.int n), none] := hl
  refine zr_aload_n hx hb kd_La_render_0 hl rfl ?_
  refine zr_iload_n hx hb kd_La_render_1 hl rfl ?_
  refine zr_iload_n hx hb kd_La_render_2 hl rfl ?_
  refine zj_row (exc := fun x => x = zxA ∧ zf_blk f n = 0) (post := fun vx M' => vx = none ∧ (¬ zf_blk f n = 0 ∧ zQ M M' fn f.toNatClampNeg n.toNatClampNeg)) (rest := []) (n := 2) hS hK hX (x_Mx_render l hfl G M hL fn f n hok) (fun a st o t h => ⟨h.1, h.2.imp (fun ⟨M1, h1, h2, h3⟩ => ⟨none, M1, h1, ⟨rfl, h2⟩, h3⟩) id⟩) km_La_69 (zw_mem (i := 590) rfl rfl) hI hex rfl hl.1 (Nat.le_of_ble_eq_true rfl) (by decide) (by decide) kd_La_render_3 rfl ?_ ?_ ?_
  · intro cls hc
    obtain ⟨rfl, -⟩ := hc
    exact ⟨9, 48, 50, by decide, by decide⟩
  · intro v M1 H locs hpo hI
    obtain ⟨rfl, hpo⟩ := hpo
    refine lv_goto (tgt := 12) hx hb kd_La_render_6 (by decide) ?_
    refine lv_iconst (v := 0) hx hb kd_La_render_12 (by decide) ?_
    exact zj_iret hS hK hX hlk hr hI kd_La_render_13 (Or.inl ⟨rfl, hpo⟩)
  · intro cls h a H locs hc hd hI
    obtain ⟨rfl, hc⟩ := hc
    obtain rfl : h = 9 := Option.some.inj (hd.symm.trans (by decide : zj_D zxA 3 [((0 : Nat), (6 : Nat), (9 : Nat), (21 : Nat))] = some 9))
    refine zr_astore_n hx hb kd_La_render_9 hl (by decide) rfl (fun ls hl => ?_)
    refine lv_iconst (v := 1) hx hb kd_La_render_10 (by decide) ?_
    exact zj_iret hS hK hX hlk hr hI kd_La_render_11 (Or.inr ⟨rfl, ⟨rfl, hc⟩⟩)
set_option maxRecDepth 100000 in
set_option maxHeartbeats 4000000 in
theorem w_sample (l : Launch) (hfl : l.flags = Jvm.pinnedFlags ++ [Jvm.noTraceFlag]) (G : zg_T) (M : zm_T) (hL : zL M.2) (s i : Int32) (f n : Nat) (hf : M.1 0 3 = nI f) (hn : M.1 0 4 = nI n) (hn64 : n ≤ 64) (hfn : f + n ≤ 1024) : Met l ky_La_sample (zj_ws ky_La_sample kc_La_sample 5 (some .int) [((0 : Nat), (10 : Nat), (13 : Nat), (13 : Nat))]) (zj_rm 8) (va_Pc [.ref (G.2.2.1 + 0), .int s, .int i, .ref (G.2.2.1 + 182)] (zy_B G M)) (va_Qi (fun (kx : Int32) (M' : zm_T) => (kx = 0 ∧ ∃ (r : Int32) (M1 : zm_T), (zu_smp M s i = 0 ∧ r = M.1 (30 + 14 * s.toNatClampNeg) (f + i.toNatClampNeg) ∧ M1 = M) ∧ M' = zm_ul M1 182 0 r.toInt64) ∨ (M' = M ∧ ((kx = 1 ∧ (zu_smp M s i = 1))))) (zy_B G) (zm_A G)) 1 6 (zm_A G) := by
  refine zj_met (by decide +kernel) (Nat.le_of_ble_eq_true rfl) ?_
  intro p0 e0 s0 m0 below meth c0 ls hS hK hX hex hlk hr hl hI
  have hx := hS.1
  have hb := hS.2.1
  have hl : zl_has ls 5 [some (.ref (G.2.2.1 + 0)), some (.int s), some (.int i), some (.ref (G.2.2.1 + 182)), none] := hl
  refine zr_aload_n hx hb kd_La_sample_0 hl rfl ?_
  refine lv_iconst (v := 0) hx hb kd_La_sample_1 (by decide) ?_
  refine zr_aload_n hx hb kd_La_sample_2 hl rfl ?_
  refine zr_iload_n hx hb kd_La_sample_3 hl rfl ?_
  refine zr_iload_n hx hb kd_La_sample_4 hl rfl ?_
  refine zj_row (exc := fun x => x = zxI ∧ zu_smp M s i = 1) (post := fun vx M' => ∃ r : Int32, vx = some (.int r) ∧ (zu_smp M s i = 0 ∧ r = M.1 (30 + 14 * s.toNatClampNeg) (f + i.toNatClampNeg) ∧ M' = M)) (rest := [.int 0, .ref (G.2.2.1 + 182)]) (n := 2) hS hK hX (x_Mx_sample l hfl G M hL s i f n hf hn hn64 hfn) (fun a st o t h => ⟨h.1, h.2.imp (fun ⟨r, M1, h1, h2, h3⟩ => ⟨_, M1, h1, ⟨r, rfl, h2⟩, h3⟩) id⟩) km_La_72 (zw_mem (i := 992) rfl rfl) hI hex rfl hl.1 (Nat.le_of_ble_eq_true rfl) (by decide) (by decide) kd_La_sample_5 rfl ?_ ?_ ?_
  · intro cls hc
    obtain ⟨rfl, -⟩ := hc
    exact ⟨13, 34, 36, by decide, by decide⟩
  · intro v M1 H locs hpo hI
    obtain ⟨r, rfl, hpo⟩ := hpo
    refine lv_i2l hx hb kd_La_sample_8 rfl ?_
    refine zj_last hS hK hI (a := 182) (n := 1) (by decide) (by decide +kernel) (vp_in_iff.mpr (by decide)) kd_La_sample_9 (fun H locs hI => ?_)
    refine lv_goto (tgt := 17) hx hb kd_La_sample_10 (by decide) ?_
    refine lv_iconst (v := 0) hx hb kd_La_sample_17 (by decide) ?_
    exact zj_iret hS hK hX hlk hr hI kd_La_sample_18 (Or.inl ⟨rfl, r, M1, hpo, rfl⟩)
  · intro cls h a H locs hc hd hI
    obtain ⟨rfl, hc⟩ := hc
    obtain rfl : h = 13 := Option.some.inj (hd.symm.trans (by decide : zj_D zxI 5 [((0 : Nat), (10 : Nat), (13 : Nat), (13 : Nat))] = some 13))
    refine zr_astore hx hb kd_La_sample_13 hl (by decide) rfl (fun ls hl => ?_)
    refine lv_iconst (v := 1) hx hb kd_La_sample_15 (by decide) ?_
    exact zj_iret hS hK hX hlk hr hI kd_La_sample_16 (Or.inr ⟨rfl, ⟨rfl, hc⟩⟩)
set_option maxRecDepth 100000 in
set_option maxHeartbeats 4000000 in
theorem w_meter (l : Launch) (hfl : l.flags = Jvm.pinnedFlags ++ [Jvm.noTraceFlag]) (G : zg_T) (M : zm_T) (hL : zL M.2) (sv w : Int32) (f n : Nat) (hf : M.1 0 3 = nI f) (hn : M.1 0 4 = nI n) (hn64 : n ≤ 64) (hfn : f + n ≤ 1024) (hrow : ∀ a, a < 8 → ∀ i, i < n → -16777216 ≤ (M.1 (30 + 14 * a) (f + i)).toInt ∧ (M.1 (30 + 14 * a) (f + i)).toInt ≤ 16777216) (hD : zD M) (hno : ∀ a, ¬ gq_T (zfd M) a a) : Met l ky_La_meter (zj_ws ky_La_meter kc_La_meter 5 (some .int) [((0 : Nat), (9 : Nat), (12 : Nat), (21 : Nat))]) (zj_rm 8) (va_Pc [.ref (G.2.2.1 + 0), .int sv, .int w, .ref (G.2.2.1 + 182)] (zy_B G M)) (va_Qi (fun (kx : Int32) (M' : zm_T) => (kx = 0 ∧ ∃ (r : Int64) (M1 : zm_T), (zv_trn sv w = 0 ∧ ∃ s, s < 8 ∧ sv = nI s ∧ ((w = 3 ∧ (∃ o, zo_P M o ∧ M1 = zf_st (zf_or M o 8) o 8) ∧ r.toInt = (M1.1 (23 + 14 * s) 8).toInt) ∨ (w = 4 ∧ M1 = M ∧ ((r = 1 ∧ zH M s) ∨ (r = 0 ∧ ¬ zH M s))) ∨ (¬ w = 3 ∧ ¬ w = 4 ∧ M1 = M ∧ zg_acc w (fun i => (M.1 (30 + 14 * s) (f + i)).toInt) n r.toInt))) ∧ M' = zm_ul M1 182 0 r) ∨ (M' = M ∧ ((kx = 1 ∧ (zv_trn sv w = 1))))) (zy_B G) (zm_A G)) 1 6 (zm_A G) := by
  refine zj_met (by decide +kernel) (Nat.le_of_ble_eq_true rfl) ?_
  intro p0 e0 s0 m0 below meth c0 ls hS hK hX hex hlk hr hl hI
  have hx := hS.1
  have hb := hS.2.1
  have hl : zl_has ls 5 [some (.ref (G.2.2.1 + 0)), some (.int sv), some (.int w), some (.ref (G.2.2.1 + 182)), none] := hl
  refine zr_aload_n hx hb kd_La_meter_0 hl rfl ?_
  refine lv_iconst (v := 0) hx hb kd_La_meter_1 (by decide) ?_
  refine zr_aload_n hx hb kd_La_meter_2 hl rfl ?_
  refine zr_iload_n hx hb kd_La_meter_3 hl rfl ?_
  refine zr_iload_n hx hb kd_La_meter_4 hl rfl ?_
  refine zj_row (exc := fun x => x = zxA ∧ zv_trn sv w = 1) (post := fun vx M' => ∃ r : Int64, vx = some (.long r) ∧ (zv_trn sv w = 0 ∧ ∃ s, s < 8 ∧ sv = nI s ∧ ((w = 3 ∧ (∃ o, zo_P M o ∧ M' = zf_st (zf_or M o 8) o 8) ∧ r.toInt = (M'.1 (23 + 14 * s) 8).toInt) ∨ (w = 4 ∧ M' = M ∧ ((r = 1 ∧ zH M s) ∨ (r = 0 ∧ ¬ zH M s))) ∨ (¬ w = 3 ∧ ¬ w = 4 ∧ M' = M ∧ zg_acc w (fun i => (M.1 (30 + 14 * s) (f + i)).toInt) n r.toInt)))) (rest := [.int 0, .ref (G.2.2.1 + 182)]) (n := 2) hS hK hX (x_Mx_meter l hfl G M hL sv w f n hf hn hn64 hfn hrow hD hno) (fun a st o t h => ⟨h.1, h.2.imp (fun ⟨r, M1, h1, h2, h3⟩ => ⟨_, M1, h1, ⟨r, rfl, h2⟩, h3⟩) id⟩) km_La_75 (zw_mem (i := 999) rfl rfl) hI hex rfl hl.1 (Nat.le_of_ble_eq_true rfl) (by decide) (by decide) kd_La_meter_5 rfl ?_ ?_ ?_
  · intro cls hc
    obtain ⟨rfl, -⟩ := hc
    exact ⟨12, 48, 50, by decide, by decide⟩
  · intro v M1 H locs hpo hI
    obtain ⟨r, rfl, hpo⟩ := hpo
    refine zj_last hS hK hI (a := 182) (n := 1) (by decide) (by decide +kernel) (vp_in_iff.mpr (by decide)) kd_La_meter_8 (fun H locs hI => ?_)
    refine lv_goto (tgt := 16) hx hb kd_La_meter_9 (by decide) ?_
    refine lv_iconst (v := 0) hx hb kd_La_meter_16 (by decide) ?_
    exact zj_iret hS hK hX hlk hr hI kd_La_meter_17 (Or.inl ⟨rfl, r, M1, hpo, rfl⟩)
  · intro cls h a H locs hc hd hI
    obtain ⟨rfl, hc⟩ := hc
    obtain rfl : h = 12 := Option.some.inj (hd.symm.trans (by decide : zj_D zxA 5 [((0 : Nat), (9 : Nat), (12 : Nat), (21 : Nat))] = some 12))
    refine zr_astore hx hb kd_La_meter_12 hl (by decide) rfl (fun ls hl => ?_)
    refine lv_iconst (v := 1) hx hb kd_La_meter_14 (by decide) ?_
    exact zj_iret hS hK hX hlk hr hI kd_La_meter_15 (Or.inr ⟨rfl, ⟨rfl, hc⟩⟩)
set_option maxRecDepth 100000 in
set_option maxHeartbeats 4000000 in
theorem w_bounce (l : Launch) (hfl : l.flags = Jvm.pinnedFlags ++ [Jvm.noTraceFlag]) (G : zg_T) (M : zm_T) (hL : zL M.2) (fn : Nat → Nat) (sv f n : Int32) (hok : zQ_ok M fn) : Met l ky_La_bounce (zj_ws ky_La_bounce kc_La_bounce 6 (some .int) [((0 : Nat), (12 : Nat), (15 : Nat), (21 : Nat))]) (zj_rm 8) (va_Pc [.ref (G.2.2.1 + 0), .int sv, .int f, .int n, .ref (G.2.2.1 + 182)] (zy_B G M)) (va_Qi (fun (kx : Int32) (M' : zm_T) => (kx = 0 ∧ ∃ (r : Int32) (M1 : zm_T), (¬ (zf_in sv 0 7 = 0 ∨ zf_blk f n = 0) ∧ ∃ t, zf_ot M t ∧ ((t = 8 ∧ r = -1 ∧ M1 = M) ∨ (t < 8 ∧ r = nI t ∧ ∃ M2, zQ M M2 fn f.toNatClampNeg n.toNatClampNeg ∧ M1 = zm_ui (zm_seg M2 (136 + 2 * t) 0 n.toNatClampNeg (fun j => zf_clip (M2.1 (30 + 14 * sv.toNatClampNeg) (f.toNatClampNeg + j)))) (135 + 2 * t) 1 n))) ∧ M' = zm_ul M1 182 0 r.toInt64) ∨ (M' = M ∧ ((kx = 1 ∧ ((zf_in sv 0 7 = 0 ∨ zf_blk f n = 0)))))) (zy_B G) (zm_A G)) 1 6 (zm_A G) := by
  refine zj_met (by decide +kernel) (Nat.le_of_ble_eq_true rfl) ?_
  intro p0 e0 s0 m0 below meth c0 ls hS hK hX hex hlk hr hl hI
  have hx := hS.1
  have hb := hS.2.1
  have hl : zl_has ls 6 [some (.ref (G.2.2.1 + 0)), some (.int sv), some (.int f), some (.int n), some (.ref (G.2.2.1 + 182)), none] := hl
  refine zr_aload hx hb kd_La_bounce_0 hl rfl ?_
  refine lv_iconst (v := 0) hx hb kd_La_bounce_2 (by decide) ?_
  refine zr_aload_n hx hb kd_La_bounce_3 hl rfl ?_
  refine zr_iload_n hx hb kd_La_bounce_4 hl rfl ?_
  refine zr_iload_n hx hb kd_La_bounce_5 hl rfl ?_
  refine zr_iload_n hx hb kd_La_bounce_6 hl rfl ?_
  refine zj_row (exc := fun x => x = zxA ∧ (zf_in sv 0 7 = 0 ∨ zf_blk f n = 0)) (post := fun vx M' => ∃ r : Int32, vx = some (.int r) ∧ (¬ (zf_in sv 0 7 = 0 ∨ zf_blk f n = 0) ∧ ∃ t, zf_ot M t ∧ ((t = 8 ∧ r = -1 ∧ M' = M) ∨ (t < 8 ∧ r = nI t ∧ ∃ M2, zQ M M2 fn f.toNatClampNeg n.toNatClampNeg ∧ M' = zm_ui (zm_seg M2 (136 + 2 * t) 0 n.toNatClampNeg (fun j => zf_clip (M2.1 (30 + 14 * sv.toNatClampNeg) (f.toNatClampNeg + j)))) (135 + 2 * t) 1 n)))) (rest := [.int 0, .ref (G.2.2.1 + 182)]) (n := 3) hS hK hX (x_Mx_bounce l hfl G M hL fn sv f n hok) (fun a st o t h => ⟨h.1, h.2.imp (fun ⟨r, M1, h1, h2, h3⟩ => ⟨_, M1, h1, ⟨r, rfl, h2⟩, h3⟩) id⟩) km_La_79 (zw_mem (i := 1021) rfl rfl) hI hex rfl hl.1 (Nat.le_of_ble_eq_true rfl) (by decide) (by decide) kd_La_bounce_7 rfl ?_ ?_ ?_
  · intro cls hc
    obtain ⟨rfl, -⟩ := hc
    exact ⟨15, 48, 50, by decide, by decide⟩
  · intro v M1 H locs hpo hI
    obtain ⟨r, rfl, hpo⟩ := hpo
    refine lv_i2l hx hb kd_La_bounce_10 rfl ?_
    refine zj_last hS hK hI (a := 182) (n := 1) (by decide) (by decide +kernel) (vp_in_iff.mpr (by decide)) kd_La_bounce_11 (fun H locs hI => ?_)
    refine lv_goto (tgt := 19) hx hb kd_La_bounce_12 (by decide) ?_
    refine lv_iconst (v := 0) hx hb kd_La_bounce_19 (by decide) ?_
    exact zj_iret hS hK hX hlk hr hI kd_La_bounce_20 (Or.inl ⟨rfl, r, M1, hpo, rfl⟩)
  · intro cls h a H locs hc hd hI
    obtain ⟨rfl, hc⟩ := hc
    obtain rfl : h = 15 := Option.some.inj (hd.symm.trans (by decide : zj_D zxA 7 [((0 : Nat), (12 : Nat), (15 : Nat), (21 : Nat))] = some 15))
    refine zr_astore hx hb kd_La_bounce_15 hl (by decide) rfl (fun ls hl => ?_)
    refine lv_iconst (v := 1) hx hb kd_La_bounce_17 (by decide) ?_
    exact zj_iret hS hK hX hlk hr hI kd_La_bounce_18 (Or.inr ⟨rfl, ⟨rfl, hc⟩⟩)

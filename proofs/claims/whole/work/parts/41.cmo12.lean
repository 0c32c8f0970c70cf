/-! The reference: everything is rendered. -/
section ZRR
variable {M M1 M2 : zm_T}
/-- the setting and the delays are the same -/
def zR_F (M M' : zm_T) : Prop := ∀ c j, 152 ≤ c → c ≤ 176 → M'.1 c j = M.1 c j
theorem zR_F_e (h : zR_F M M1) {c : Nat} (h1 : 152 ≤ c) (h2 : c ≤ 176) : M1.1 c = M.1 c := by funext j; exact h c j h1 h2
theorem zg_tv_c (h : zR_F M M1) {tr t : Nat} : ∀ n, zg_tv M1 tr n t = zg_tv M tr n t
  | 0 => rfl
  | n + 1 => by
    unfold zg_tv zg_cs
    rw [zg_tv_c h n, zR_F_e h (c := 152) (by decide) (by decide), zR_F_e h (c := 154) (by decide) (by decide), zR_F_e h (c := 155) (by decide) (by decide), zR_F_e h (c := 156) (by decide) (by decide), zR_F_e h (c := 157) (by decide) (by decide), zR_F_e h (c := 158) (by decide) (by decide), zR_F_e h (c := 159) (by decide) (by decide), zR_F_e h (c := 160) (by decide) (by decide), zR_F_e h (c := 161) (by decide) (by decide), zR_F_e h (c := 162) (by decide) (by decide)]
theorem zR_F_fd (h : zR_F M M1) : zgf M1 = zgf M := zgf_c (fun j => h _ _ (by decide) (by decide)) (fun j => h _ _ (by decide) (by decide))
theorem zg_sum_c (h : zR_F M M1) {s t : Nat} {dl : Int} (hs4 : 4 ≤ s) (hs : s < 8) (ho : ∀ a, zgf M a s → ∀ j, j < 1024 → M1.1 178 (1024 * a + j) = M.1 178 (1024 * a + j)) (ht : t < 1024) : ∀ n, n ≤ 7 → zg_sum M1 s dl n t = zg_sum M s dl n t
  | 0, _ => rfl
  | n + 1, hn => by
    have hx : zgf M n s → zg_x M1 dl n t = zg_x M dl n t := fun hf => by
      unfold zg_x
      rw [zR_F_e h (c := 176) (by decide) (by decide), ho n hf _ (by omega)]
    unfold zg_sum
    rw [zg_sum_c h hs4 hs ho ht n (by omega), zR_F_e h (c := 163) (by decide) (by decide), zR_F_e h (c := 164) (by decide) (by decide)]
    congr 1
    · congr 1
      split
      · rename_i g; exact hx ⟨by omega, hs, Or.inl g⟩
      · rfl
    · split
      · rename_i g7
        split
        · rfl
        · rename_i g0; rw [hx ⟨by omega, hs, Or.inr ⟨by omega, by omega, g7, g0⟩⟩]
      · rfl
theorem zg_H_c (h : zR_F M M1) {P : Nat → Nat → Prop} {s : Nat} : zg_H M1 P s ↔ zg_H M P s := by
  unfold zg_H
  rw [zR_F_e h (c := 173) (by decide) (by decide), zR_F_e h (c := 174) (by decide) (by decide)]
theorem zG_L_c (h : zR_F M M1) {s n : Nat} {t v : Int} : zG_L M1 s n t v ↔ zG_L M s n t v := by
  unfold zG_L zG_T zG_V zG_J
  rw [zR_F_e h (c := 168) (by decide) (by decide), zR_F_e h (c := 170) (by decide) (by decide), zR_F_e h (c := 171) (by decide) (by decide), zR_F_e h (c := 172) (by decide) (by decide)]
theorem zR_S_c (h : zR_F M M1) {s k e : Nat} {x y : Nat → Int} : zR_S M1 s k e x y ↔ zR_S M s k e x y := by
  unfold zR_S
  rw [zR_F_e h (c := 165) (by decide) (by decide), zR_F_e h (c := 166) (by decide) (by decide), zR_F_e h (c := 167) (by decide) (by decide)]
theorem zR_row_c {P : Nat → Nat → Prop} {s n e : Nat} (hs : s < 8) (he : e ≤ 1024) (h : zR_F M M1) (ho : ∀ a, zgf M a s → ∀ j, j < 1024 → M1.1 178 (1024 * a + j) = M.1 178 (1024 * a + j)) (hw : ∀ t, t < e → M1.1 178 (1024 * s + t) = M2.1 178 (1024 * s + t)) (hr : zR_row M M2 P s n e) : zR_row M1 M1 P s n e := by
  obtain ⟨x0, x1, x2, x3, lv, h1, h2, h3, h4, h5, h6⟩ := hr
  refine ⟨x0, x1, x2, x3, lv, fun g t ht => by rw [zg_tv_c h]; exact h1 g t ht, fun g => ?_, (zR_S_c h).mpr h3, (zR_S_c h).mpr h4, (zR_S_c h).mpr h5, fun t ht => ?_⟩
  · obtain ⟨dl, d1, d2⟩ := h2 g
    refine ⟨dl, ?_, fun t ht => by rw [zg_sum_c h g hs ho (by omega) 7 (by omega)]; exact d2 t ht⟩
    unfold zg_di
    rw [zR_F_fd h, zR_F_e h (c := 176) (by decide) (by decide)]
    exact d1
  · rw [hw t ht]
    obtain ⟨g1, g2⟩ := h6 t ht
    exact ⟨fun g => ⟨(zG_L_c h).mpr (g1 ((zg_H_c h).mp g)).1, (g1 ((zg_H_c h).mp g)).2⟩, fun g => g2 (fun q => g ((zg_H_c h).mpr q))⟩
theorem zR_row_b {P : Nat → Nat → Prop} {s n e t : Nat} (h : zR_row M M1 P s n e) (ht : t < e) : -16777216 ≤ (M1.1 178 (1024 * s + t)).toInt ∧ (M1.1 178 (1024 * s + t)).toInt ≤ 16777216 := by
  obtain ⟨x0, x1, x2, x3, lv, -, -, -, -, -, h⟩ := h
  obtain ⟨h1, h2⟩ := h t ht
  by_cases hh : zg_H M P s
  · rw [(h1 hh).2]; exact zi_cut_b _
  · rw [h2 hh]; omega
end ZRR
/-- what rendering needs of the reference's setting -/
def zR_ok (M : zm_T) (fn : Nat → Nat) : Prop := (∀ a, ¬ gq_T (zgf M) a a) ∧ zg_Cs M ∧ zg_tb M ∧ (∀ j, j < 24 → 0 ≤ (M.1 164 j).toInt ∧ (M.1 164 j).toInt ≤ 1024) ∧ (∀ j, j < 24 → zE_ok (M.1 165 j).toInt (M.1 166 j).toInt (M.1 167 j).toInt) ∧ ∀ s, s < 8 → zG_M M s (fn s)
theorem zR_ok_c {M M1 : zm_T} {fn : Nat → Nat} (h : ∀ c j, 152 ≤ c → c ≤ 174 → M1.1 c j = M.1 c j) (hk : zR_ok M fn) : zR_ok M1 fn := by
  have e : ∀ c, 152 ≤ c → c ≤ 174 → M1.1 c = M.1 c := fun c h1 h2 => by funext j; exact h c j h1 h2
  have hf : zgf M1 = zgf M := zgf_c (fun j => h _ _ (by decide) (by decide)) (fun j => h _ _ (by decide) (by decide))
  unfold zR_ok zg_Cs zg_C zg_tb zG_M zG_T zG_V zG_J at *
  rw [hf, e 152 (by decide) (by decide), e 154 (by decide) (by decide), e 155 (by decide) (by decide), e 156 (by decide) (by decide), e 157 (by decide) (by decide), e 158 (by decide) (by decide), e 159 (by decide) (by decide), e 160 (by decide) (by decide), e 161 (by decide) (by decide), e 162 (by decide) (by decide), e 164 (by decide) (by decide), e 165 (by decide) (by decide), e 166 (by decide) (by decide), e 167 (by decide) (by decide), e 168 (by decide) (by decide), e 169 (by decide) (by decide), e 170 (by decide) (by decide), e 171 (by decide) (by decide), e 172 (by decide) (by decide)]
  exact hk
theorem zR_ok_q {M : zm_T} {fn : Nat → Nat} (h : zR_ok M fn) : zg_q M := fun s hs k hk => by
  have := (h.2.2.2.2.1 (3 * s + k) (by omega)).2.2.2.1
  unfold zg_o1
  split
  · rename_i h4
    have h5 := this (by rw [h4]; rfl)
    exact ⟨h5.2.2.1, h5.2.2.2⟩
  · omega
/-- what rendering leaves -/
def zR_post (M M' : zm_T) (fn : Nat → Nat) (f n : Nat) : Prop := M'.2 = M.2 ∧ (∀ c j, 175 ≤ c ∧ c ≤ 181 ∨ (c = 151 ∧ j = 31) ∨ M'.1 c j = M.1 c j) ∧ M'.1 151 31 = nI n ∧ zg_R M' (gq_T (zgf M)) ∧ (∀ s, s < 8 → zg_dE (zgf M) (zg_own M) (fun a => (M'.1 176 a).toInt) s ∧ 0 ≤ (M'.1 176 s).toInt ∧ (M'.1 176 s).toInt ≤ 384) ∧ (∀ s, s < 8 → zR_row M' M' (gq_T (zgf M)) s (fn s) (f + n)) ∧ ∀ k, k < 512 → M'.1 181 k = if k % 64 < n then M'.1 178 (1024 * (k / 64) + f + k % 64) else 0
theorem zn_d64 : ∀ k, k < 512 → nI k / 64 = nI (k / 64) ∧ nI k - nI k / 64 * 64 = nI (k % 64) := by decide +kernel
set_option maxRecDepth 100000 in
set_option maxHeartbeats 4000000 in
theorem c_Mo_renderAll (l : Launch) (G : zg_T) (M : zm_T) (hL : zL M.2) (fn : Nat → Nat) (f n : Nat) (hfn : f + n ≤ 1024) (hn64 : n ≤ 64) (hok : zR_ok M fn) : Met l ky_Mo_renderAll (zr_ws ky_Mo_renderAll kc_Mo_renderAll 5 none) (zr_rm 5) (va_Pc [.ref (G.2.2.1 + 151), .int (nI f), .int (nI n)] (zm_B G 183 zs M)) (va_Qv (fun (M' : zm_T) => zR_post M M' fn f n) (zm_B G 183 zs) (zm_A G)) 0 0 (zm_A G) := by
  refine zr_met (by decide +kernel) (Nat.le_of_ble_eq_true rfl) ?_
  intro p0 e0 s0 m0 below meth c0 ls hS hK hlk hr hl hI
  have hx := hS.1
  have hb := hS.2.1
  have hl : zl_has ls 5 [some (.ref (G.2.2.1 + 151)), some (.int (nI f)), some (.int (nI n)), none, none] := hl
  have block : ∀ (Mr : zm_T), Mr.2 = M.2 → (∀ c j, 175 ≤ c ∧ c ≤ 180 ∨ (c = 151 ∧ j = 31) ∨ Mr.1 c j = M.1 c j) → Mr.1 151 31 = nI n → zg_R Mr (gq_T (zgf M)) → (∀ s, s < 8 → zg_dE (zgf M) (zg_own M) (fun a => (Mr.1 176 a).toInt) s ∧ 0 ≤ (Mr.1 176 s).toInt ∧ (Mr.1 176 s).toInt ≤ 384) → (∀ s, s < 8 → zR_row Mr Mr (gq_T (zgf M)) s (fn s) (f + n)) → ∀ (k q : Nat) (M1 : zm_T) (o4 : Option Value) (H : Heap) (locs : List Loc) (ls : Array Slot), q + k = 512 → zm_only Mr M1 181 → (∀ j, j < q → M1.1 181 j = if j % 64 < n then Mr.1 178 (1024 * (j / 64) + f + j % 64) else 0) → zl_has ls 5 [some (.ref (G.2.2.1 + 151)), some (.int (nI f)), some (.int (nI n)), some (.int (nI q)), o4] → zm_I G 183 zs M1 s0 H locs → W p0 l e0 (zr_rm 5) s0 m0 ([.ref (G.2.2.1 + 151), .int (nI f), .int (nI n)] : List Value).toArray below meth c0 H locs 0 0 (MQ below (va_Qv (fun (M' : zm_T) => zR_post M M' fn f n) (zm_B G 183 zs) (zm_A G)) ([.ref (G.2.2.1 + 151), .int (nI f), .int (nI n)] : List Value).toArray s0 0 0 (zm_A G)) (F0 m0 84 ls []) := by
    intro Mr r1 r2 r3 r4 r5 r6 k
    induction k with
    | zero =>
      intro q M1 o4 H locs ls hk ho hv hl hI
      obtain rfl : q = 512 := by omega
      have hF : zR_F Mr M1 := fun c j h1 h2 => ho.2 c j (by omega)
      have e6 : ∀ a, M1.1 176 a = Mr.1 176 a := fun a => ho.2 _ _ (by decide)
      have hdel : ∀ s, s < 8 → zg_dE (zgf M) (zg_own M) (fun a => (M1.1 176 a).toInt) s ∧ 0 ≤ (M1.1 176 s).toInt ∧ (M1.1 176 s).toInt ≤ 384 := fun s hs => by simp only [e6]; exact r5 s hs
      have hall : zR_post M M1 fn f n := ⟨ho.1.trans r1, fun c j => by
        by_cases h : c = 181
        · exact Or.inl (by omega)
        · rw [ho.2 c j h]
          rcases r2 c j with g | g | g
          · exact Or.inl (by omega)
          · exact Or.inr (Or.inl g)
          · exact Or.inr (Or.inr g), by rw [ho.2 _ _ (by decide)]; exact r3, fun i hi => by rw [ho.2 175 _ (by decide)]; exact r4 i hi, hdel, fun s hs => zR_row_c (M2 := Mr) hs hfn hF (fun a _ j _ => ho.2 _ _ (by decide)) (fun t _ => ho.2 _ _ (by decide)) (r6 s hs), fun j hj => by rw [hv j hj, ho.2 178 _ (by decide)]⟩
      refine zr_iload_n hx hb kd_Mo_renderAll_84 hl rfl ?_
      refine lv_sipush (v := 512) hx hb kd_Mo_renderAll_85 (by decide) ?_
      refine lv_icmp_ge (tgt := 135) hx hb kd_Mo_renderAll_88 (by decide) (fun h88 => ?_) (fun h88 => absurd (by decide) h88)
      exact zr_vret hS hK hlk hr hI kd_Mo_renderAll_135 (hall)
    | succ k ih =>
      intro q M1 o4 H locs ls hk ho hv hl hI
      have eq : (nI q).toNatClampNeg = q := zn_cl (by omega)
      have hL1 : zL M1.2 := by rw [ho.1, r1]; exact hL
      have step : ∀ v : Int32, (v = if q % 64 < n then Mr.1 178 (1024 * (q / 64) + f + q % 64) else 0) → ∀ j, j < q + 1 → (zm_ui M1 181 q v).1 181 j = if j % 64 < n then Mr.1 178 (1024 * (j / 64) + f + j % 64) else 0 := fun v hv' j hj => by
        by_cases e : j = q
        · subst e; rw [zm_ui_at]; exact hv'
        · rw [zm_ui_ne (Or.inr e)]; exact hv j (by omega)
      have e1 : nI (q / 64) * 1024 + nI f + nI (q % 64) = nI (1024 * (q / 64) + f + q % 64) := by rw [show (1024 : Int32) = nI 1024 from rfl, zn_mulI, nI_add, nI_add, Nat.mul_comm]
      refine zr_iload_n hx hb kd_Mo_renderAll_84 hl rfl ?_
      refine lv_sipush (v := 512) hx hb kd_Mo_renderAll_85 (by decide) ?_
      refine lv_icmp_ge (tgt := 135) hx hb kd_Mo_renderAll_88 (by decide) (fun h88 => absurd h88 (zn_ge (n := 512) rfl (by omega) (by decide))) (fun h88 => ?_)
      refine zr_aload_n hx hb kd_Mo_renderAll_91 hl rfl ?_
      refine zr_getr hS hK kf_Mo_98 hI ha_MO hs_MO (show _ = some 181 from zL_mo hL1 (k := 30) (by decide) (by decide)) kd_Mo_renderAll_92 ?_
      refine zr_iload_n hx hb kd_Mo_renderAll_95 hl rfl ?_
      refine zr_iload_n hx hb kd_Mo_renderAll_96 hl rfl ?_
      refine lv_bipush (v := 64) hx hb kd_Mo_renderAll_97 (by decide) ?_
      refine lv_irem hx hb kd_Mo_renderAll_99 (by decide) ?_
      refine zr_iload_n hx hb kd_Mo_renderAll_100 hl rfl ?_
      rw [(zn_d64 q (by omega)).2]
      refine lv_icmp_ge (tgt := 127) hx hb kd_Mo_renderAll_101 (by decide) (fun h101 => ?_) (fun h101 => ?_)
      · skip
        refine lv_iconst (v := 0) hx hb kd_Mo_renderAll_127 (by decide) ?_
        refine zr_iast hS hK hI ha_MO_30 hs_MO_30 (vp_in_nI (by omega) (by decide)) kd_Mo_renderAll_128 (fun H locs hI => ?_)
        refine zr_iinc hx hb kd_Mo_renderAll_129 hl (by decide) rfl rfl (fun ls hl => ?_)
        refine lv_goto (tgt := 84) hx hb kd_Mo_renderAll_132 (by decide) ?_
        rw [eq] at hI
        refine ih (q + 1) _ _ H locs ls (by omega) (zm_only_u ho) (step _ ?_) (by rw [nI_succ]; exact hl) hI
        first
        | (rw [if_neg (fun g => nI_ge g (by omega) h101)]; done)
        | (rw [if_pos hqn, zn_cl (by omega)]; exact ho.2 178 _ (by decide))
      · skip
        refine zr_aload_n hx hb kd_Mo_renderAll_104 hl rfl ?_
        refine zr_getr hS hK kf_Mo_89 hI ha_MO hs_MO (show _ = some 178 from zL_mo hL1 (k := 27) (by decide) (by decide)) kd_Mo_renderAll_105 ?_
        refine zr_iload_n hx hb kd_Mo_renderAll_108 hl rfl ?_
        refine lv_bipush (v := 64) hx hb kd_Mo_renderAll_109 (by decide) ?_
        refine lv_idiv hx hb kd_Mo_renderAll_111 (by decide) ?_
        refine lv_sipush (v := 1024) hx hb kd_Mo_renderAll_112 (by decide) ?_
        refine lv_imul hx hb kd_Mo_renderAll_115 ?_
        refine zr_iload_n hx hb kd_Mo_renderAll_116 hl rfl ?_
        refine lv_iadd hx hb kd_Mo_renderAll_117 ?_
        refine zr_iload_n hx hb kd_Mo_renderAll_118 hl rfl ?_
        refine lv_bipush (v := 64) hx hb kd_Mo_renderAll_119 (by decide) ?_
        refine lv_irem hx hb kd_Mo_renderAll_121 (by decide) ?_
        refine lv_iadd hx hb kd_Mo_renderAll_122 ?_
        have hqn : q % 64 < n := Nat.lt_of_not_le (fun g => h101 (nI_le g (by omega)))
        rw [(zn_d64 q (by omega)).2, (zn_d64 q (by omega)).1, e1]
        refine zr_iald hS hK hI ha_MO_27 hs_MO_27 (vp_in_nI (by omega) (by decide)) kd_Mo_renderAll_123 ?_
        refine lv_goto (tgt := 128) hx hb kd_Mo_renderAll_124 (by decide) ?_
        refine zr_iast hS hK hI ha_MO_30 hs_MO_30 (vp_in_nI (by omega) (by decide)) kd_Mo_renderAll_128 (fun H locs hI => ?_)
        refine zr_iinc hx hb kd_Mo_renderAll_129 hl (by decide) rfl rfl (fun ls hl => ?_)
        refine lv_goto (tgt := 84) hx hb kd_Mo_renderAll_132 (by decide) ?_
        rw [eq] at hI
        refine ih (q + 1) _ _ H locs ls (by omega) (zm_only_u ho) (step _ ?_) (by rw [nI_succ]; exact hl) hI
        first
        | (rw [if_neg (fun g => nI_ge g (by omega) h101)]; done)
        | (rw [if_pos hqn, zn_cl (by omega)]; exact ho.2 178 _ (by decide))
  -- the rounds; Md: nothing is done yet
  have rounds : ∀ (Md : zm_T), Md.2 = M.2 → (∀ c j, 175 ≤ c ∧ c ≤ 177 ∨ Md.1 c j = M.1 c j) → zg_R Md (gq_T (zgf M)) → (∀ s, s < 8 → zg_dE (zgf M) (zg_own M) (fun a => (Md.1 176 a).toInt) s ∧ 0 ≤ (Md.1 176 s).toInt ∧ (Md.1 176 s).toInt ≤ 384) → ∀ (k r : Nat) (Mi : zm_T) (o4 : Option Value) (H : Heap) (locs : List Loc) (ls : Array Slot), r + k = 8 → zw_F Md Mi → (∀ a, a < 8 → ¬ Mi.1 177 a = 0 → zR_row Mi Mi (gq_T (zgf M)) a (fn a) (f + n) ∧ ∀ b, zgf M b a → ¬ Mi.1 177 b = 0) → (∀ a, a < 8 → zk_n (zgf M) a < r → ¬ Mi.1 177 a = 0) → zl_has ls 5 [some (.ref (G.2.2.1 + 151)), some (.int (nI f)), some (.int (nI n)), some (.int (nI r)), o4] → zm_I G 183 zs Mi s0 H locs → W p0 l e0 (zr_rm 5) s0 m0 ([.ref (G.2.2.1 + 151), .int (nI f), .int (nI n)] : List Value).toArray below meth c0 H locs 0 0 (MQ below (va_Qv (fun (M' : zm_T) => zR_post M M' fn f n) (zm_B G 183 zs) (zm_A G)) ([.ref (G.2.2.1 + 151), .int (nI f), .int (nI n)] : List Value).toArray s0 0 0 (zm_A G)) (F0 m0 31 ls []) := by
    intro Md d1 d2 d3 d4 k
    have d2' : ∀ c j, 152 ≤ c → c ≤ 174 → Md.1 c j = M.1 c j := fun c j h1 h2 => (d2 c j).resolve_left (by omega)
    have hfdd : zgf Md = zgf M := zgf_c (fun j => d2' _ _ (by decide) (by decide)) (fun j => d2' _ _ (by decide) (by decide))
    have hokd := zR_ok_c d2' hok
    induction k with
    | zero =>
      intro r Mi o4 H locs ls hk hF hrow hdone hl hI
      obtain rfl : r = 8 := by omega
      have hLi : zL Mi.2 := by rw [hF.1, d1]; exact hL
      have hb1 : ∀ c j, 175 ≤ c ∧ c ≤ 180 ∨ (c = 151 ∧ j = 31) ∨ (zm_ui Mi 151 31 (nI n)).1 c j = M.1 c j := fun c j => by
        by_cases h : 175 ≤ c ∧ c ≤ 180
        · exact Or.inl h
        · by_cases h2 : c = 151 ∧ j = 31
          · exact Or.inr (Or.inl h2)
          · refine Or.inr (Or.inr ?_)
            rw [zm_ui_ne (by omega), hF.2 c j (by omega) (by omega) (by omega) (by omega)]
            exact (d2 c j).resolve_left (by omega)
      have hne : ∀ c j, c ≠ 151 → (zm_ui Mi 151 31 (nI n)).1 c j = Mi.1 c j := fun c j h => zm_ui_ne (Or.inl h)
      have e6 : ∀ a, (zm_ui Mi 151 31 (nI n)).1 176 a = Md.1 176 a := fun a => by rw [hne _ _ (by decide), hF.2 _ _ (by decide) (by decide) (by decide) (by decide)]
      refine zr_iload_n hx hb kd_Mo_renderAll_31 hl rfl ?_
      refine lv_bipush (v := 8) hx hb kd_Mo_renderAll_32 (by decide) ?_
      refine lv_icmp_ge (tgt := 77) hx hb kd_Mo_renderAll_34 (by decide) (fun h34 => ?_) (fun h34 => absurd (by decide) h34)
      refine zr_aload_n hx hb kd_Mo_renderAll_77 hl rfl ?_
      refine zr_iload_n hx hb kd_Mo_renderAll_78 hl rfl ?_
      refine zr_puti hS hK kf_Mo_197 hI ha_MO hs_MO rfl rfl kd_Mo_renderAll_79 (fun H locs hI => ?_)
      refine lv_iconst (v := 0) hx hb kd_Mo_renderAll_82 (by decide) ?_
      refine zr_istore_n hx hb kd_Mo_renderAll_83 hl (by decide) rfl (fun ls hl => ?_)
      refine block (zm_ui Mi 151 31 (nI n)) (hF.1.trans d1) hb1 zm_ui_at (fun i hi => ?_) (fun s hs => ?_) (fun s hs => ?_) 512 0 _ _ H locs _ (by omega) zm_only_r (fun j hj => absurd hj (by omega)) hl hI
      · rw [hne _ _ (by decide), hF.2 _ _ (by decide) (by decide) (by decide) (by decide)]; exact d3 i hi
      · simp only [e6]; exact d4 s hs
      · exact zR_row_c (M2 := Mi) hs hfn (fun c j h1 h2 => hne c j (by omega)) (fun a _ j _ => hne _ _ (by decide)) (fun t _ => hne _ _ (by decide)) (hrow s hs (hdone s hs (zk_8 hok.1 hs))).1
    | succ k ih =>
      intro r Mi o4 H locs ls hk hF hrow hdone hl hI
      have inner : ∀ (j s : Nat) (Mi : zm_T) (H : Heap) (locs : List Loc) (ls : Array Slot), s + j = 8 → zw_F Md Mi → (∀ a, a < 8 → ¬ Mi.1 177 a = 0 → zR_row Mi Mi (gq_T (zgf M)) a (fn a) (f + n) ∧ ∀ b, zgf M b a → ¬ Mi.1 177 b = 0) → (∀ a, a < 8 → (zk_n (zgf M) a < r ∨ (zk_n (zgf M) a ≤ r ∧ a < s)) → ¬ Mi.1 177 a = 0) → zl_has ls 5 [some (.ref (G.2.2.1 + 151)), some (.int (nI f)), some (.int (nI n)), some (.int (nI r)), some (.int (nI s))] → zm_I G 183 zs Mi s0 H locs → W p0 l e0 (zr_rm 5) s0 m0 ([.ref (G.2.2.1 + 151), .int (nI f), .int (nI n)] : List Value).toArray below meth c0 H locs 0 0 (MQ below (va_Qv (fun (M' : zm_T) => zR_post M M' fn f n) (zm_B G 183 zs) (zm_A G)) ([.ref (G.2.2.1 + 151), .int (nI f), .int (nI n)] : List Value).toArray s0 0 0 (zm_A G)) (F0 m0 40 ls []) := by
        intro j
        induction j with
        | zero =>
          intro s Mi H locs ls hj hF hrow hdone hl hI
          obtain rfl : s = 8 := by omega
          refine zr_iload hx hb kd_Mo_renderAll_40 hl rfl ?_
          refine lv_bipush (v := 8) hx hb kd_Mo_renderAll_42 (by decide) ?_
          refine lv_icmp_ge (tgt := 71) hx hb kd_Mo_renderAll_44 (by decide) (fun h44 => ?_) (fun h44 => absurd (by decide) h44)
          refine zr_iinc hx hb kd_Mo_renderAll_71 hl (by decide) rfl rfl (fun ls hl => ?_)
          refine lv_goto (tgt := 31) hx hb kd_Mo_renderAll_74 (by decide) ?_
          exact ih (r + 1) Mi _ H locs ls (by omega) hF hrow (fun a ha hk => hdone a ha (Or.inr ⟨by omega, ha⟩)) (by rw [nI_succ]; exact hl) hI
        | succ j ihj =>
          intro s Mi H locs ls hj hF hrow hdone hl hI
          have hLi : zL Mi.2 := by rw [hF.1, d1]; exact hL
          have hFi : zR_F Md Mi := fun c j h1 h2 => hF.2 c j (by omega) (by omega) (by omega) (by omega)
          have hfdi : zgf Mi = zgf M := (zR_F_fd hFi).trans hfdd
          have hoki : zR_ok Mi fn := zR_ok_c (fun c j h1 h2 => hFi c j h1 (by omega)) hokd
          have hRi : zg_R Mi (gq_T (zgf M)) := fun i hi => by rw [hFi _ _ (by decide) (by decide)]; exact d3 i hi
          refine zr_iload hx hb kd_Mo_renderAll_40 hl rfl ?_
          refine lv_bipush (v := 8) hx hb kd_Mo_renderAll_42 (by decide) ?_
          refine lv_icmp_ge (tgt := 71) hx hb kd_Mo_renderAll_44 (by decide) (fun h44 => absurd h44 (zn_ge (n := 8) rfl (by omega) (by decide))) (fun h44 => ?_)
          refine zr_aload_n hx hb kd_Mo_renderAll_47 hl rfl ?_
          refine zr_iload hx hb kd_Mo_renderAll_48 hl rfl ?_
          refine zr_ci (zr_runV hS hK (c_Mo_isReady l G Mi hLi s (by omega)) km_Mo_191 hI ha_MO hs_MO rfl hl.1 (Nat.le_of_ble_eq_true rfl) (by decide) (by decide) kd_Mo_renderAll_50 rfl) hI (fun r50 M50 H locs hp50 hI => ?_)
          obtain ⟨hr50, hM50⟩ := hp50
          rw [hM50] at hI
          rw [hfdi] at hr50
          refine lv_if_eq (tgt := 65) hx hb kd_Mo_renderAll_53 (by decide) (fun h53 => ?_) (fun h53 => ?_)
          · skip
            refine zr_iinc hx hb kd_Mo_renderAll_65 hl (by decide) rfl rfl (fun ls hl => ?_)
            refine lv_goto (tgt := 40) hx hb kd_Mo_renderAll_68 (by decide) ?_
            first
            | (obtain ⟨w1, w2, w3, w4⟩ := hp62
               have hF3 : zR_F Mi M62 := fun c j h1 h2 => w1.2 c j (by omega) (by omega) (by omega) (by omega)
               have hout : ∀ a, a < 8 → a ≠ s → ∀ j, j < 1024 → M62.1 178 (1024 * a + j) = Mi.1 178 (1024 * a + j) := fun a ha hne j hj => w3 _ (by omega)
               refine ihj (s + 1) M62 H locs ls (by omega) (zw_F_t hF w1) (fun a ha hd => ?_) (fun a ha hk => ?_) (by rw [nI_succ]; exact hl) hI
               · rw [w2] at hd
                 by_cases e : a = s
                 · subst e
                   refine ⟨zR_row_c (M2 := M62) ha hfn hF3 (fun b hb j hj => hout b hb.1 (fun q => ?_) j hj) (fun t _ => rfl) w4, fun b hb => ?_⟩
                   · rw [hfdi] at hb; exact hfe b hb.1 hb (by rw [q]; exact hnd)
                   · rw [w2]; split
                     · decide
                     · exact hfe b hb.1 hb
                 · rw [if_neg e] at hd
                   obtain ⟨g1, g2⟩ := hrow a ha hd
                   refine ⟨zR_row_c (M2 := Mi) ha hfn hF3 (fun b hb j hj => hout b hb.1 (fun q => ?_) j hj) (fun t ht => hout a ha e t (by omega)) g1, fun b hb => ?_⟩
                   · rw [hfdi] at hb; exact g2 b hb (by rw [q]; exact hnd)
                   · rw [w2]; split
                     · decide
                     · exact g2 b hb
               · rw [w2]; split
                 · decide
                 · exact hdone a ha (by omega))
            | (refine ihj (s + 1) Mi H locs ls (by omega) hF hrow (fun a ha hk => ?_) (by rw [nI_succ]; exact hl) hI
               by_cases e : a = s
               · subst e
                 intro hnd
                 refine zt_is_f hr50 h53 ⟨hnd, fun b hb hf => hdone b hb (Or.inl ?_)⟩
                 have := zk_lt (fun a b h => h.1) hok.1 hf
                 omega
               · exact hdone a ha (by omega))
          · skip
            refine zr_aload_n hx hb kd_Mo_renderAll_56 hl rfl ?_
            refine zr_iload hx hb kd_Mo_renderAll_57 hl rfl ?_
            refine zr_iload_n hx hb kd_Mo_renderAll_59 hl rfl ?_
            refine zr_iload_n hx hb kd_Mo_renderAll_60 hl rfl ?_
            refine lv_iadd hx hb kd_Mo_renderAll_61 ?_
            obtain ⟨hnd, hfe⟩ := zt_is_t hr50 h53
            have hgok : zg_ok Mi s (f + n) := ⟨fun a ha => by rw [hFi _ _ (by decide) (by decide)]; exact (d4 a ha).2, hoki.2.2.2.1, fun a hf j hj => zR_row_b (hrow a hf.1 (hfe a hf.1 (by rw [← hfdi]; exact hf))).1 hj⟩
            rw [nI_add]
            refine zr_cv (zr_runV hS hK (c_Mo_workOut l G Mi hLi (gq_T (zgf M)) s (fn s) (f + n) (by omega) hfn hoki.2.1 hoki.2.2.1 (fun _ => hgok) (fun k hk => hoki.2.2.2.2.1 _ (by omega)) (hoki.2.2.2.2.2 s (by omega)) hRi) km_Mo_194 hI ha_MO hs_MO rfl hl.1 (Nat.le_of_ble_eq_true rfl) (by decide) (by decide) kd_Mo_renderAll_62 rfl) hI (fun M62 H locs hp62 hI => ?_)
            skip
            refine zr_iinc hx hb kd_Mo_renderAll_65 hl (by decide) rfl rfl (fun ls hl => ?_)
            refine lv_goto (tgt := 40) hx hb kd_Mo_renderAll_68 (by decide) ?_
            first
            | (obtain ⟨w1, w2, w3, w4⟩ := hp62
               have hF3 : zR_F Mi M62 := fun c j h1 h2 => w1.2 c j (by omega) (by omega) (by omega) (by omega)
               have hout : ∀ a, a < 8 → a ≠ s → ∀ j, j < 1024 → M62.1 178 (1024 * a + j) = Mi.1 178 (1024 * a + j) := fun a ha hne j hj => w3 _ (by omega)
               refine ihj (s + 1) M62 H locs ls (by omega) (zw_F_t hF w1) (fun a ha hd => ?_) (fun a ha hk => ?_) (by rw [nI_succ]; exact hl) hI
               · rw [w2] at hd
                 by_cases e : a = s
                 · subst e
                   refine ⟨zR_row_c (M2 := M62) ha hfn hF3 (fun b hb j hj => hout b hb.1 (fun q => ?_) j hj) (fun t _ => rfl) w4, fun b hb => ?_⟩
                   · rw [hfdi] at hb; exact hfe b hb.1 hb (by rw [q]; exact hnd)
                   · rw [w2]; split
                     · decide
                     · exact hfe b hb.1 hb
                 · rw [if_neg e] at hd
                   obtain ⟨g1, g2⟩ := hrow a ha hd
                   refine ⟨zR_row_c (M2 := Mi) ha hfn hF3 (fun b hb j hj => hout b hb.1 (fun q => ?_) j hj) (fun t ht => hout a ha e t (by omega)) g1, fun b hb => ?_⟩
                   · rw [hfdi] at hb; exact g2 b hb (by rw [q]; exact hnd)
                   · rw [w2]; split
                     · decide
                     · exact g2 b hb
               · rw [w2]; split
                 · decide
                 · exact hdone a ha (by omega))
            | (refine ihj (s + 1) Mi H locs ls (by omega) hF hrow (fun a ha hk => ?_) (by rw [nI_succ]; exact hl) hI
               by_cases e : a = s
               · subst e
                 intro hnd
                 refine zt_is_f hr50 h53 ⟨hnd, fun b hb hf => hdone b hb (Or.inl ?_)⟩
                 have := zk_lt (fun a b h => h.1) hok.1 hf
                 omega
               · exact hdone a ha (by omega))
      refine zr_iload_n hx hb kd_Mo_renderAll_31 hl rfl ?_
      refine lv_bipush (v := 8) hx hb kd_Mo_renderAll_32 (by decide) ?_
      refine lv_icmp_ge (tgt := 77) hx hb kd_Mo_renderAll_34 (by decide) (fun h34 => absurd h34 (zn_ge (n := 8) rfl (by omega) (by decide))) (fun h34 => ?_)
      refine lv_iconst (v := 0) hx hb kd_Mo_renderAll_37 (by decide) ?_
      refine zr_istore hx hb kd_Mo_renderAll_38 hl (by decide) rfl (fun ls hl => ?_)
      exact inner 8 0 Mi H locs _ (by omega) hF hrow (fun a ha hk => hdone a ha (by omega)) hl hI
  have clear : ∀ (Mc : zm_T), Mc.2 = M.2 → (∀ c j, 175 ≤ c ∧ c ≤ 176 ∨ Mc.1 c j = M.1 c j) → zg_R Mc (gq_T (zgf M)) → (∀ s, s < 8 → zg_dE (zgf M) (zg_own M) (fun a => (Mc.1 176 a).toInt) s ∧ 0 ≤ (Mc.1 176 s).toInt ∧ (Mc.1 176 s).toInt ≤ 384) → ∀ (k q : Nat) (M1 : zm_T) (H : Heap) (locs : List Loc) (ls : Array Slot), q + k = 8 → zm_only Mc M1 177 → (∀ j, j < q → M1.1 177 j = 0) → zl_has ls 5 [some (.ref (G.2.2.1 + 151)), some (.int (nI f)), some (.int (nI n)), some (.int (nI q)), none] → zm_I G 183 zs M1 s0 H locs → W p0 l e0 (zr_rm 5) s0 m0 ([.ref (G.2.2.1 + 151), .int (nI f), .int (nI n)] : List Value).toArray below meth c0 H locs 0 0 (MQ below (va_Qv (fun (M' : zm_T) => zR_post M M' fn f n) (zm_B G 183 zs) (zm_A G)) ([.ref (G.2.2.1 + 151), .int (nI f), .int (nI n)] : List Value).toArray s0 0 0 (zm_A G)) (F0 m0 10 ls []) := by
    intro Mc c1 c2 c3 c4 k
    induction k with
    | zero =>
      intro q M1 H locs ls hk ho hz hl hI
      obtain rfl : q = 8 := by omega
      have e6 : ∀ a, M1.1 176 a = Mc.1 176 a := fun a => ho.2 _ _ (by decide)
      have hb1 : ∀ c j, 175 ≤ c ∧ c ≤ 177 ∨ M1.1 c j = M.1 c j := fun c j => by
        by_cases h : c = 177
        · exact Or.inl (by omega)
        · rw [ho.2 c j h]
          exact (c2 c j).elim (fun g => Or.inl (by omega)) Or.inr
      refine zr_iload_n hx hb kd_Mo_renderAll_10 hl rfl ?_
      refine lv_bipush (v := 8) hx hb kd_Mo_renderAll_11 (by decide) ?_
      refine lv_icmp_ge (tgt := 29) hx hb kd_Mo_renderAll_13 (by decide) (fun h13 => ?_) (fun h13 => absurd (by decide) h13)
      refine lv_iconst (v := 0) hx hb kd_Mo_renderAll_29 (by decide) ?_
      refine zr_istore_n hx hb kd_Mo_renderAll_30 hl (by decide) rfl (fun ls hl => ?_)
      refine rounds M1 (ho.1.trans c1) hb1 (fun i hi => by rw [ho.2 _ _ (by decide)]; exact c3 i hi) (fun s hs => by simp only [e6]; exact c4 s hs) 8 0 M1 _ H locs _ (by omega) zw_F_r (fun a ha hd => absurd (hz a ha) hd) (fun a ha hk => absurd hk (by omega)) hl hI
    | succ k ih =>
      intro q M1 H locs ls hk ho hz hl hI
      have eq : (nI q).toNatClampNeg = q := zn_cl (by omega)
      have hL1 : zL M1.2 := by rw [ho.1, c1]; exact hL
      refine zr_iload_n hx hb kd_Mo_renderAll_10 hl rfl ?_
      refine lv_bipush (v := 8) hx hb kd_Mo_renderAll_11 (by decide) ?_
      refine lv_icmp_ge (tgt := 29) hx hb kd_Mo_renderAll_13 (by decide) (fun h13 => absurd h13 (zn_ge (n := 8) rfl (by omega) (by decide))) (fun h13 => ?_)
      refine zr_aload_n hx hb kd_Mo_renderAll_16 hl rfl ?_
      refine zr_getr hS hK kf_Mo_86 hI ha_MO hs_MO (show _ = some 177 from zL_mo hL1 (k := 26) (by decide) (by decide)) kd_Mo_renderAll_17 ?_
      refine zr_iload_n hx hb kd_Mo_renderAll_20 hl rfl ?_
      refine lv_iconst (v := 0) hx hb kd_Mo_renderAll_21 (by decide) ?_
      refine zr_zast hS hK hI ha_MO_26 hs_MO_26 (vp_in_nI (by omega) (by decide)) kd_Mo_renderAll_22 (fun H locs hI => ?_)
      refine zr_iinc hx hb kd_Mo_renderAll_23 hl (by decide) rfl rfl (fun ls hl => ?_)
      refine lv_goto (tgt := 10) hx hb kd_Mo_renderAll_26 (by decide) ?_
      rw [eq] at hI
      refine ih (q + 1) _ H locs ls (by omega) (zm_only_u ho) (fun j hj => ?_) (by rw [nI_succ]; exact hl) hI
      by_cases e : j = q
      · subst e; rw [zm_ui_at]; rfl
      · rw [zm_ui_ne (Or.inr e)]; exact hz j (by omega)
  refine zr_aload_n hx hb kd_Mo_renderAll_0 hl rfl ?_
  refine zr_cv (zr_runV hS hK (c_Mo_findReach l G M hL) km_Mo_137 hI ha_MO hs_MO rfl hl.1 (Nat.le_of_ble_eq_true rfl) (by decide) (by decide) kd_Mo_renderAll_1 rfl) hI (fun M1 H locs hp1 hI => ?_)
  obtain ⟨u1, u2⟩ := hp1
  have hL1 : zL M1.2 := by rw [u1.1]; exact hL
  have hfd1 : zgf M1 = zgf M := zgf_c (fun j => u1.2 _ _ (by decide)) (fun j => u1.2 _ _ (by decide))
  have hok1 : zR_ok M1 fn := zR_ok_c (fun c j h1 h2 => u1.2 c j (by omega)) hok
  refine zr_aload_n hx hb kd_Mo_renderAll_4 hl rfl ?_
  refine zr_cv (zr_runV hS hK (c_Mo_findDelays l G M1 hL1 hok1.1 (zR_ok_q hok1)) km_Mo_188 hI ha_MO hs_MO rfl hl.1 (Nat.le_of_ble_eq_true rfl) (by decide) (by decide) kd_Mo_renderAll_5 rfl) hI (fun M5 H locs hp5 hI => ?_)
  obtain ⟨v1, v2⟩ := hp5
  have hown : zg_own M1 = zg_own M := by
    funext s
    have e5 : ∀ j, M1.1 165 j = M.1 165 j := fun j => u1.2 _ _ (by decide)
    have e7 : ∀ j, M1.1 167 j = M.1 167 j := fun j => u1.2 _ _ (by decide)
    unfold zg_own zg_o1
    simp only [e5, e7]
  rw [hfd1, hown] at v2
  refine lv_iconst (v := 0) hx hb kd_Mo_renderAll_8 (by decide) ?_
  refine zr_istore_n hx hb kd_Mo_renderAll_9 hl (by decide) rfl (fun ls hl => ?_)
  refine clear M5 (v1.1.trans u1.1) (fun c j => ?_) (fun i hi => by rw [v1.2 _ _ (by decide)]; exact u2 i hi) v2 8 0 M5 _ _ _ (by omega) zm_only_r (fun j hj => absurd hj (by omega)) hl hI
  by_cases h : 175 ≤ c ∧ c ≤ 176
  · exact Or.inl h
  · exact Or.inr (by rw [v1.2 c j (by omega), u1.2 c j (by omega)])

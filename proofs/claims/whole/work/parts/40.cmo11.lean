/-! The reference: a strip is worked out. -/
theorem zg_tv_b {M : zm_T} {tr t : Nat} (ht : t < 1024) (hC : zg_Cs M) (hT : zg_tb M) : ∀ c, c ≤ 16 → -131072 ≤ zg_tv M tr c t ∧ zg_tv M tr c t ≤ 131072
  | 0, _ => by unfold zg_tv; omega
  | c + 1, hc => by
    unfold zg_tv
    split
    · rename_i h
      obtain ⟨g1, g2, g3, g4⟩ := h
      obtain ⟨tk, tr', a, f, n, lv, i, o, y1, y2, y3, y4, y5, y6, y7, y8, y9, y10, y11, y12, y13, y14, y15⟩ := hC c (by omega) g1
      rw [y5] at g3
      rw [y5, y7, nI_add] at g4
      have ha : a ≤ t := Nat.le_of_not_lt (fun g => g3 (nI_lt g (by omega)))
      have hb1 : t < a + n := Nat.lt_of_not_le (fun g => g4 (nI_le g (by omega)))
      unfold zg_cs
      rw [y2, y5, y6, y7, y11, y13, y14, zn_cl (by omega), zn_cl (by omega), zn_cl (by omega), zn_cl (by omega), zn_cl (by omega), zn_cl (by omega), zn_cl (by omega)]
      have hx2 := hT (64 * tk + f + (t - a)) (by omega)
      exact zi_clip_b hx2.1 hx2.2 (by omega) (by omega) (by omega)
    · exact zg_tv_b ht hC hT c (by omega)
/-- only the working arrays and the rows have changed: 177 what is done, 178 the rows, 179 and 180 -/
def zw_F (M M' : zm_T) : Prop := M'.2 = M.2 ∧ ∀ c j, c ≠ 177 → c ≠ 178 → c ≠ 179 → c ≠ 180 → M'.1 c j = M.1 c j
theorem zw_F_r {M : zm_T} : zw_F M M := ⟨rfl, fun _ _ _ _ _ _ => rfl⟩
theorem zw_F_t {M M1 M2 : zm_T} (h : zw_F M M1) (h' : zw_F M1 M2) : zw_F M M2 := ⟨h'.1.trans h.1, fun c j a b d e => (h'.2 c j a b d e).trans (h.2 c j a b d e)⟩
theorem zw_F_u {M M1 : zm_T} {c k : Nat} {v : Int32} (hc : c = 177 ∨ c = 178 ∨ c = 179 ∨ c = 180) (h : zw_F M M1) : zw_F M (zm_ui M1 c k v) := ⟨h.1, fun d j a b e f => by rw [zm_ui_ne (Or.inl (by omega))]; exact h.2 d j a b e f⟩
/-- effect k of strip s, in the reference -/
def zR_S (M : zm_T) (s k e : Nat) (x y : Nat → Int) : Prop := ze_S (M.1 165 (3 * s + k)).toInt (M.1 166 (3 * s + k)).toInt (M.1 167 (3 * s + k)).toInt e x y
/-- what strip s gives in M' -/
def zR_row (M M' : zm_T) (P : Nat → Nat → Prop) (s n e : Nat) : Prop := ∃ x0 x1 x2 x3 lv : Nat → Int, (s < 4 → ∀ t, t < e → x0 t = zg_tv M s 16 t) ∧ (4 ≤ s → ∃ dl, zg_di M s 8 dl ∧ ∀ t, t < e → x0 t = zi_cut (zg_sum M s dl 7 t)) ∧ zR_S M s 0 e x0 x1 ∧ zR_S M s 1 e x1 x2 ∧ zR_S M s 2 e x2 x3 ∧ ∀ t, t < e → (zg_H M P s → zG_L M s n ((16 * (t / 16) : Nat) : Int) (lv t) ∧ (M'.1 178 (1024 * s + t)).toInt = zi_cut (x3 t * lv t / 256)) ∧ (¬ zg_H M P s → (M'.1 178 (1024 * s + t)).toInt = 0)
set_option maxRecDepth 100000 in
set_option maxHeartbeats 4000000 in
theorem c_Mo_workOut (l : Launch) (G : zg_T) (M : zm_T) (hL : zL M.2) (P : Nat → Nat → Prop) (s n e : Nat) (hs : s < 8) (he : e ≤ 1024) (hC : zg_Cs M) (hT : zg_tb M) (hok : 4 ≤ s → zg_ok M s e) (hE : ∀ k, k < 3 → zE_ok (M.1 165 (3 * s + k)).toInt (M.1 166 (3 * s + k)).toInt (M.1 167 (3 * s + k)).toInt) (hFd : zG_M M s n) (hR : zg_R M P) : Met l ky_Mo_workOut (zr_ws ky_Mo_workOut kc_Mo_workOut 5 none) (zr_rm 4) (va_Pc [.ref (G.2.2.1 + 151), .int (nI s), .int (nI e)] (zm_B G 183 zs M)) (va_Qv (fun (M' : zm_T) => zw_F M M' ∧ (∀ j, M'.1 177 j = if j = s then 1 else M.1 177 j) ∧ (∀ j, j < 1024 * s ∨ 1024 * s + e ≤ j → M'.1 178 j = M.1 178 j) ∧ zR_row M M' P s n e) (zm_B G 183 zs) (zm_A G)) 0 0 (zm_A G) := by
  refine zr_met (by decide +kernel) (Nat.le_of_ble_eq_true rfl) ?_
  intro p0 e0 s0 m0 below meth c0 ls hS hK hlk hr hl hI
  have hx := hS.1
  have hb := hS.2.1
  have hl : zl_has ls 5 [some (.ref (G.2.2.1 + 151)), some (.int (nI s)), some (.int (nI e)), none, none] := hl
  have es : (nI s).toNatClampNeg = s := zn_cl (by omega)
  -- the last loop: x the row behind the effects
  have last : ∀ (M1 : zm_T) (hd : Int32), zw_F M M1 → (∀ j, M1.1 177 j = M.1 177 j) → (∀ j, M1.1 178 j = M.1 178 j) → zt_is hd (zg_H M P s) → (∀ j, j < e → -16777216 ≤ (M1.1 179 j).toInt ∧ (M1.1 179 j).toInt ≤ 16777216) → (∀ (M' : zm_T) (lv : Nat → Int), (∀ t, t < e → (zg_H M P s → zG_L M s n ((16 * (t / 16) : Nat) : Int) (lv t) ∧ (M'.1 178 (1024 * s + t)).toInt = zi_cut ((M1.1 179 t).toInt * lv t / 256)) ∧ (¬ zg_H M P s → (M'.1 178 (1024 * s + t)).toInt = 0)) → zR_row M M' P s n e) →
      ∀ (k t : Nat) (M2 : zm_T) (lv : Nat → Int) (H : Heap) (locs : List Loc) (ls : Array Slot), t + k = e → zm_only M1 M2 178 → (∀ j, j < 1024 * s ∨ 1024 * s + t ≤ j → M2.1 178 j = M1.1 178 j) → (∀ u, u < t → (zg_H M P s → zG_L M s n ((16 * (u / 16) : Nat) : Int) (lv u) ∧ (M2.1 178 (1024 * s + u)).toInt = zi_cut ((M1.1 179 u).toInt * lv u / 256)) ∧ (¬ zg_H M P s → (M2.1 178 (1024 * s + u)).toInt = 0)) → zl_has ls 5 [some (.ref (G.2.2.1 + 151)), some (.int (nI s)), some (.int (nI e)), some (.int hd), some (.int (nI t))] → zm_I G 183 zs M2 s0 H locs → W p0 l e0 (zr_rm 4) s0 m0 ([.ref (G.2.2.1 + 151), .int (nI s), .int (nI e)] : List Value).toArray below meth c0 H locs 0 0 (MQ below (va_Qv (fun (M' : zm_T) => zw_F M M' ∧ (∀ j, M'.1 177 j = if j = s then 1 else M.1 177 j) ∧ (∀ j, j < 1024 * s ∨ 1024 * s + e ≤ j → M'.1 178 j = M.1 178 j) ∧ zR_row M M' P s n e) (zm_B G 183 zs) (zm_A G)) ([.ref (G.2.2.1 + 151), .int (nI s), .int (nI e)] : List Value).toArray s0 0 0 (zm_A G)) (F0 m0 77 ls []) := by
    intro M1 hd hF1 h77 h78 hhd hcb hrow k
    induction k with
    | zero =>
      intro t M2 lv H locs ls hk ho hout hu hl hI
      obtain rfl : t = e := by omega
      have hL2 : zL M2.2 := by rw [ho.1, hF1.1]; exact hL
      have hF2 : zw_F M M2 := ⟨ho.1.trans hF1.1, fun c j a b d f => (ho.2 c j b).trans (hF1.2 c j a b d f)⟩
      refine zr_iload hx hb kd_Mo_workOut_77 hl rfl ?_
      refine zr_iload_n hx hb kd_Mo_workOut_79 hl rfl ?_
      refine lv_icmp_ge (tgt := 131) hx hb kd_Mo_workOut_80 (by decide) (fun h80 => ?_) (fun h80 => absurd (Int32.le_refl _) h80)
      refine zr_aload_n hx hb kd_Mo_workOut_131 hl rfl ?_
      refine zr_getr hS hK kf_Mo_86 hI ha_MO hs_MO (show _ = some 177 from zL_mo hL2 (k := 26) (by decide) (by decide)) kd_Mo_workOut_132 ?_
      refine zr_iload_n hx hb kd_Mo_workOut_135 hl rfl ?_
      refine lv_iconst (v := 1) hx hb kd_Mo_workOut_136 (by decide) ?_
      refine zr_zast hS hK hI ha_MO_26 hs_MO_26 (vp_in_nI (by omega) (by decide)) kd_Mo_workOut_137 (fun H locs hI => ?_)
      exact zr_vret hS hK hlk hr hI kd_Mo_workOut_138 (⟨zw_F_u (Or.inl rfl) hF2, fun j => by
          rw [es]
          by_cases e : j = s
          · rw [e, zm_ui_at, if_pos rfl]; rfl
          · rw [zm_ui_ne (Or.inr e), if_neg e, ho.2 _ _ (by decide), h77], fun j hj => by rw [zm_ui_ne (Or.inl (by decide)), hout j hj, h78], hrow _ lv (fun u hu' => by rw [zm_ui_ne (Or.inl (by decide))]; exact hu u hu')⟩)
    | succ k ih =>
      intro t M2 lv H locs ls hk ho hout hu hl hI
      have hL2 : zL M2.2 := by rw [ho.1, hF1.1]; exact hL
      have et : (nI t).toNatClampNeg = t := zn_cl (by omega)
      have hF2 : zw_F M M2 := ⟨ho.1.trans hF1.1, fun c j a b d f => (ho.2 c j b).trans (hF1.2 c j a b d f)⟩
      have e1 : (1024 : Int32) * nI s + nI t = nI (1024 * s + t) := by rw [show (1024 : Int32) = nI 1024 from rfl, zn_mulI, nI_add]
      have c1 : (nI (1024 * s + t)).toNatClampNeg = 1024 * s + t := zn_cl (by omega)
      have h9 : M2.1 179 t = M1.1 179 t := ho.2 _ _ (by decide)
      have hx2 := hcb t (by omega)
      have eT : zG_T M2 s = zG_T M s := by funext i; exact congrArg Int32.toInt (hF2.2 _ _ (by decide) (by decide) (by decide) (by decide))
      have eV : zG_V M2 s = zG_V M s := by funext i; exact congrArg Int32.toInt (hF2.2 _ _ (by decide) (by decide) (by decide) (by decide))
      have eJ : zG_J M2 s = zG_J M s := by funext i; exact congrArg Int32.toInt (hF2.2 _ _ (by decide) (by decide) (by decide) (by decide))
      have e8 : M2.1 168 s = M.1 168 s := hF2.2 _ _ (by decide) (by decide) (by decide) (by decide)
      have hFd2 : zG_M M2 s n := by
        unfold zG_M
        rw [eT, eV, eJ, e8, hF2.2 169 _ (by decide) (by decide) (by decide) (by decide)]
        exact hFd
      have step : ∀ (v : Int32) (w : Int), ((zg_H M P s → zG_L M s n ((16 * (t / 16) : Nat) : Int) w ∧ v.toInt = zi_cut ((M1.1 179 t).toInt * w / 256)) ∧ (¬ zg_H M P s → v.toInt = 0)) → ∀ u, u < t + 1 → (zg_H M P s → zG_L M s n ((16 * (u / 16) : Nat) : Int) (zi_up lv t w u) ∧ ((zm_ui M2 178 (1024 * s + t) v).1 178 (1024 * s + u)).toInt = zi_cut ((M1.1 179 u).toInt * zi_up lv t w u / 256)) ∧ (¬ zg_H M P s → ((zm_ui M2 178 (1024 * s + t) v).1 178 (1024 * s + u)).toInt = 0) := fun v w hv u hu' => by
        by_cases e : u = t
        · subst e
          rw [zm_ui_at, zi_up_at]
          exact hv
        · rw [zm_ui_ne (Or.inr (by omega)), zi_up_lt (by omega)]
          exact hu u (by omega)
      have stout : ∀ (v : Int32) (j : Nat), j < 1024 * s ∨ 1024 * s + (t + 1) ≤ j → (zm_ui M2 178 (1024 * s + t) v).1 178 j = M1.1 178 j := fun v j hj => by
        rw [zm_ui_ne (Or.inr (by omega))]; exact hout j (by omega)
      refine zr_iload hx hb kd_Mo_workOut_77 hl rfl ?_
      refine zr_iload_n hx hb kd_Mo_workOut_79 hl rfl ?_
      refine lv_icmp_ge (tgt := 131) hx hb kd_Mo_workOut_80 (by decide) (fun h80 => absurd h80 (nI_ge (by omega) (by omega))) (fun h80 => ?_)
      refine zr_aload_n hx hb kd_Mo_workOut_83 hl rfl ?_
      refine zr_getr hS hK kf_Mo_89 hI ha_MO hs_MO (show _ = some 178 from zL_mo hL2 (k := 27) (by decide) (by decide)) kd_Mo_workOut_84 ?_
      refine lv_sipush (v := 1024) hx hb kd_Mo_workOut_87 (by decide) ?_
      refine zr_iload_n hx hb kd_Mo_workOut_90 hl rfl ?_
      refine lv_imul hx hb kd_Mo_workOut_91 ?_
      refine zr_iload hx hb kd_Mo_workOut_92 hl rfl ?_
      refine lv_iadd hx hb kd_Mo_workOut_94 ?_
      rw [e1]
      refine zr_iload_n hx hb kd_Mo_workOut_95 hl rfl ?_
      refine lv_if_eq (tgt := 123) hx hb kd_Mo_workOut_96 (by decide) (fun h96 => ?_) (fun h96 => ?_)
      · skip
        refine lv_iconst (v := 0) hx hb kd_Mo_workOut_123 (by decide) ?_
        refine zr_iast hS hK hI ha_MO_27 hs_MO_27 (vp_in_nI (by omega) (by decide)) kd_Mo_workOut_124 (fun H locs hI => ?_)
        refine zr_iinc hx hb kd_Mo_workOut_125 hl (by decide) rfl rfl (fun ls hl => ?_)
        refine lv_goto (tgt := 77) hx hb kd_Mo_workOut_128 (by decide) ?_
        rw [c1] at hI
        first
        | exact ih (t + 1) _ _ H locs ls (by omega) (zm_only_u ho) (stout _) (step _ r111.toInt ⟨fun _ => ⟨hr111, hr117⟩, fun g => absurd (zt_is_t hhd h96) g⟩) (by rw [nI_succ]; exact hl) hI
        | exact ih (t + 1) _ _ H locs ls (by omega) (zm_only_u ho) (stout _) (step _ 0 ⟨fun g => absurd g (zt_is_f hhd h96), fun _ => rfl⟩) (by rw [nI_succ]; exact hl) hI
      · skip
        refine zr_aload_n hx hb kd_Mo_workOut_99 hl rfl ?_
        refine zr_getr hS hK kf_Mo_92 hI ha_MO hs_MO (show _ = some 179 from zL_mo hL2 (k := 28) (by decide) (by decide)) kd_Mo_workOut_100 ?_
        refine zr_iload hx hb kd_Mo_workOut_103 hl rfl ?_
        refine zr_iald hS hK hI ha_MO_28 hs_MO_28 (vp_in_nI (by omega) (by decide)) kd_Mo_workOut_105 ?_
        refine lv_i2l hx hb kd_Mo_workOut_106 rfl ?_
        refine zr_aload_n hx hb kd_Mo_workOut_107 hl rfl ?_
        refine zr_iload_n hx hb kd_Mo_workOut_108 hl rfl ?_
        refine zr_iload hx hb kd_Mo_workOut_109 hl rfl ?_
        refine zr_cl (zr_runV hS hK (c_Mo_levelAt l G M2 hL2 s n t hs (by omega) hFd2) km_Mo_185 hI ha_MO hs_MO rfl hl.1 (Nat.le_of_ble_eq_true rfl) (by decide) (by decide) kd_Mo_workOut_111 rfl) hI (fun r111 M111 H locs hp111 hI => ?_)
        obtain ⟨hr111, hM111⟩ := hp111
        rw [hM111] at hI
        unfold zG_L at hr111
        rw [eT, eV, eJ, e8] at hr111
        have hlb := zF_lev_b hFd.2 hr111
        rw [et, h9]
        have cx : (M1.1 179 t).toInt64.toInt = (M1.1 179 t).toInt := Int32.toInt_toInt64 _
        refine zr_cl (zr_runS hS hK (c_Mo_by l G 183 zs _ _ _ (by rw [cx]; omega) (by rw [cx]; omega) (by omega) (by omega)) km_Mo_148 hI rfl hl.1 (Nat.le_of_ble_eq_true rfl) (by decide) (by decide) kd_Mo_workOut_114 rfl) hI (fun r114 M114 H locs hp114 hI => ?_)
        obtain ⟨hr114, hM114⟩ := hp114
        rw [hM114] at hI
        rw [cx] at hr114
        refine zr_ci (zr_runS hS hK (c_Mo_cut l G 183 zs _ _) km_Mo_159 hI rfl hl.1 (Nat.le_of_ble_eq_true rfl) (by decide) (by decide) kd_Mo_workOut_117 rfl) hI (fun r117 M117 H locs hp117 hI => ?_)
        obtain ⟨hr117, hM117⟩ := hp117
        rw [hM117] at hI
        rw [hr114] at hr117
        refine lv_goto (tgt := 124) hx hb kd_Mo_workOut_120 (by decide) ?_
        refine zr_iast hS hK hI ha_MO_27 hs_MO_27 (vp_in_nI (by omega) (by decide)) kd_Mo_workOut_124 (fun H locs hI => ?_)
        refine zr_iinc hx hb kd_Mo_workOut_125 hl (by decide) rfl rfl (fun ls hl => ?_)
        refine lv_goto (tgt := 77) hx hb kd_Mo_workOut_128 (by decide) ?_
        rw [c1] at hI
        first
        | exact ih (t + 1) _ _ H locs ls (by omega) (zm_only_u ho) (stout _) (step _ r111.toInt ⟨fun _ => ⟨hr111, hr117⟩, fun g => absurd (zt_is_t hhd h96) g⟩) (by rw [nI_succ]; exact hl) hI
        | exact ih (t + 1) _ _ H locs ls (by omega) (zm_only_u ho) (stout _) (step _ 0 ⟨fun g => absurd g (zt_is_f hhd h96), fun _ => rfl⟩) (by rw [nI_succ]; exact hl) hI
  -- behind the three effects
  have heard : ∀ (M1 : zm_T) (x0 x1 x2 : Nat → Int) (H : Heap) (locs : List Loc) (ls : Array Slot), zw_F M M1 → (∀ j, M1.1 177 j = M.1 177 j) → (∀ j, M1.1 178 j = M.1 178 j) → (∀ j, j < e → -16777216 ≤ (M1.1 179 j).toInt ∧ (M1.1 179 j).toInt ≤ 16777216) → (s < 4 → ∀ t, t < e → x0 t = zg_tv M s 16 t) → (4 ≤ s → ∃ dl, zg_di M s 8 dl ∧ ∀ t, t < e → x0 t = zi_cut (zg_sum M s dl 7 t)) → zR_S M s 0 e x0 x1 → zR_S M s 1 e x1 x2 → zR_S M s 2 e x2 (fun j => (M1.1 179 j).toInt) → zl_has ls 5 [some (.ref (G.2.2.1 + 151)), some (.int (nI s)), some (.int (nI e)), some (.int (nI 3)), none] → zm_I G 183 zs M1 s0 H locs → W p0 l e0 (zr_rm 4) s0 m0 ([.ref (G.2.2.1 + 151), .int (nI s), .int (nI e)] : List Value).toArray below meth c0 H locs 0 0 (MQ below (va_Qv (fun (M' : zm_T) => zw_F M M' ∧ (∀ j, M'.1 177 j = if j = s then 1 else M.1 177 j) ∧ (∀ j, j < 1024 * s ∨ 1024 * s + e ≤ j → M'.1 178 j = M.1 178 j) ∧ zR_row M M' P s n e) (zm_B G 183 zs) (zm_A G)) ([.ref (G.2.2.1 + 151), .int (nI s), .int (nI e)] : List Value).toArray s0 0 0 (zm_A G)) (F0 m0 22 ls []) := by
    intro M1 x0 x1 x2 H locs ls hF1 h77 h78 hcb hx0 hx0' hs0 hs1 hs2 hl hI
    have hL1 : zL M1.2 := by rw [hF1.1]; exact hL
    have hR1 : zg_R M1 P := fun k hk => by rw [hF1.2 175 _ (by decide) (by decide) (by decide) (by decide)]; exact hR k hk
    have hH : zg_H M1 P s ↔ zg_H M P s := by
      unfold zg_H
      have e3 : ∀ j, M1.1 173 j = M.1 173 j := fun j => hF1.2 _ _ (by decide) (by decide) (by decide) (by decide)
      have e4 : ∀ j, M1.1 174 j = M.1 174 j := fun j => hF1.2 _ _ (by decide) (by decide) (by decide) (by decide)
      simp only [e3, e4]
    refine zr_iload_n hx hb kd_Mo_workOut_22 hl rfl ?_
    refine lv_iconst (v := 3) hx hb kd_Mo_workOut_23 (by decide) ?_
    refine lv_icmp_ge (tgt := 68) hx hb kd_Mo_workOut_24 (by decide) (fun h24 => ?_) (fun h24 => absurd (by decide) h24)
    refine zr_aload_n hx hb kd_Mo_workOut_68 hl rfl ?_
    refine zr_iload_n hx hb kd_Mo_workOut_69 hl rfl ?_
    refine zr_ci (zr_runV hS hK (c_Mo_isHeard l G M1 hL1 P s hs hR1) km_Mo_182 hI ha_MO hs_MO rfl hl.1 (Nat.le_of_ble_eq_true rfl) (by decide) (by decide) kd_Mo_workOut_70 rfl) hI (fun r70 M70 H locs hp70 hI => ?_)
    obtain ⟨hh70, hM70⟩ := hp70
    rw [hM70] at hI
    refine zr_istore_n hx hb kd_Mo_workOut_73 hl (by decide) rfl (fun ls hl => ?_)
    refine lv_iconst (v := 0) hx hb kd_Mo_workOut_74 (by decide) ?_
    refine zr_istore hx hb kd_Mo_workOut_75 hl (by decide) rfl (fun ls hl => ?_)
    exact last M1 _ hF1 h77 h78 (zt_is_c hh70 hH) hcb (fun M' lv hlv => ⟨x0, x1, x2, fun j => (M1.1 179 j).toInt, lv, hx0, hx0', hs0, hs1, hs2, hlv⟩) e 0 M1 (fun _ => 0) H locs _ (by omega) zm_only_r (fun j _ => rfl) (fun u hu => absurd hu (by omega)) hl hI
  -- one effect
  have eff : ∀ (k : Nat) (M1 : zm_T) (H : Heap) (locs : List Loc) (ls : Array Slot), k < 3 → zw_F M M1 → (∀ j, M1.1 177 j = M.1 177 j) → (∀ j, M1.1 178 j = M.1 178 j) → (∀ j, j < e → -16777216 ≤ (M1.1 179 j).toInt ∧ (M1.1 179 j).toInt ≤ 16777216) → zl_has ls 5 [some (.ref (G.2.2.1 + 151)), some (.int (nI s)), some (.int (nI e)), some (.int (nI k)), none] → zm_I G 183 zs M1 s0 H locs → (∀ (M2 : zm_T) (H : Heap) (locs : List Loc) (ls : Array Slot), zw_F M M2 → (∀ j, M2.1 177 j = M.1 177 j) → (∀ j, M2.1 178 j = M.1 178 j) → (∀ j, j < e → -16777216 ≤ (M2.1 179 j).toInt ∧ (M2.1 179 j).toInt ≤ 16777216) → zR_S M s k e (fun j => (M1.1 179 j).toInt) (fun j => (M2.1 179 j).toInt) → zl_has ls 5 [some (.ref (G.2.2.1 + 151)), some (.int (nI s)), some (.int (nI e)), some (.int (nI (k + 1))), none] → zm_I G 183 zs M2 s0 H locs → W p0 l e0 (zr_rm 4) s0 m0 ([.ref (G.2.2.1 + 151), .int (nI s), .int (nI e)] : List Value).toArray below meth c0 H locs 0 0 (MQ below (va_Qv (fun (M' : zm_T) => zw_F M M' ∧ (∀ j, M'.1 177 j = if j = s then 1 else M.1 177 j) ∧ (∀ j, j < 1024 * s ∨ 1024 * s + e ≤ j → M'.1 178 j = M.1 178 j) ∧ zR_row M M' P s n e) (zm_B G 183 zs) (zm_A G)) ([.ref (G.2.2.1 + 151), .int (nI s), .int (nI e)] : List Value).toArray s0 0 0 (zm_A G)) (F0 m0 22 ls [])) → W p0 l e0 (zr_rm 4) s0 m0 ([.ref (G.2.2.1 + 151), .int (nI s), .int (nI e)] : List Value).toArray below meth c0 H locs 0 0 (MQ below (va_Qv (fun (M' : zm_T) => zw_F M M' ∧ (∀ j, M'.1 177 j = if j = s then 1 else M.1 177 j) ∧ (∀ j, j < 1024 * s ∨ 1024 * s + e ≤ j → M'.1 178 j = M.1 178 j) ∧ zR_row M M' P s n e) (zm_B G 183 zs) (zm_A G)) ([.ref (G.2.2.1 + 151), .int (nI s), .int (nI e)] : List Value).toArray s0 0 0 (zm_A G)) (F0 m0 22 ls []) := by
    intro k M1 H locs ls hk hF1 h77 h78 hcb hl hI kont
    have hL1 : zL M1.2 := by rw [hF1.1]; exact hL
    have e1 : (3 : Int32) * nI s + nI k = nI (3 * s + k) := by rw [show (3 : Int32) = nI 3 from rfl, zn_mulI, nI_add]
    have c1 : (nI (3 * s + k)).toNatClampNeg = 3 * s + k := zn_cl (by omega)
    have k5 : M1.1 165 (3 * s + k) = M.1 165 (3 * s + k) := hF1.2 _ _ (by decide) (by decide) (by decide) (by decide)
    have k6 : M1.1 166 (3 * s + k) = M.1 166 (3 * s + k) := hF1.2 _ _ (by decide) (by decide) (by decide) (by decide)
    have k7 : M1.1 167 (3 * s + k) = M.1 167 (3 * s + k) := hF1.2 _ _ (by decide) (by decide) (by decide) (by decide)
    refine zr_iload_n hx hb kd_Mo_workOut_22 hl rfl ?_
    refine lv_iconst (v := 3) hx hb kd_Mo_workOut_23 (by decide) ?_
    refine lv_icmp_ge (tgt := 68) hx hb kd_Mo_workOut_24 (by decide) (fun h24 => absurd h24 (zn_ge (n := 3) rfl (by omega) (by decide))) (fun h24 => ?_)
    refine zr_aload_n hx hb kd_Mo_workOut_27 hl rfl ?_
    refine zr_aload_n hx hb kd_Mo_workOut_28 hl rfl ?_
    refine zr_getr hS hK kf_Mo_50 hI ha_MO hs_MO (show _ = some 165 from zL_mo hL1 (k := 14) (by decide) (by decide)) kd_Mo_workOut_29 ?_
    refine lv_iconst (v := 3) hx hb kd_Mo_workOut_32 (by decide) ?_
    refine zr_iload_n hx hb kd_Mo_workOut_33 hl rfl ?_
    refine lv_imul hx hb kd_Mo_workOut_34 ?_
    refine zr_iload_n hx hb kd_Mo_workOut_35 hl rfl ?_
    refine lv_iadd hx hb kd_Mo_workOut_36 ?_
    rw [e1]
    refine zr_iald hS hK hI ha_MO_14 hs_MO_14 (vp_in_nI (by omega) (by decide)) kd_Mo_workOut_37 ?_
    refine zr_aload_n hx hb kd_Mo_workOut_38 hl rfl ?_
    refine zr_getr hS hK kf_Mo_53 hI ha_MO hs_MO (show _ = some 166 from zL_mo hL1 (k := 15) (by decide) (by decide)) kd_Mo_workOut_39 ?_
    refine lv_iconst (v := 3) hx hb kd_Mo_workOut_42 (by decide) ?_
    refine zr_iload_n hx hb kd_Mo_workOut_43 hl rfl ?_
    refine lv_imul hx hb kd_Mo_workOut_44 ?_
    refine zr_iload_n hx hb kd_Mo_workOut_45 hl rfl ?_
    refine lv_iadd hx hb kd_Mo_workOut_46 ?_
    rw [e1]
    refine zr_iald hS hK hI ha_MO_15 hs_MO_15 (vp_in_nI (by omega) (by decide)) kd_Mo_workOut_47 ?_
    refine zr_aload_n hx hb kd_Mo_workOut_48 hl rfl ?_
    refine zr_getr hS hK kf_Mo_56 hI ha_MO hs_MO (show _ = some 167 from zL_mo hL1 (k := 16) (by decide) (by decide)) kd_Mo_workOut_49 ?_
    refine lv_iconst (v := 3) hx hb kd_Mo_workOut_52 (by decide) ?_
    refine zr_iload_n hx hb kd_Mo_workOut_53 hl rfl ?_
    refine lv_imul hx hb kd_Mo_workOut_54 ?_
    refine zr_iload_n hx hb kd_Mo_workOut_55 hl rfl ?_
    refine lv_iadd hx hb kd_Mo_workOut_56 ?_
    rw [e1]
    refine zr_iald hS hK hI ha_MO_16 hs_MO_16 (vp_in_nI (by omega) (by decide)) kd_Mo_workOut_57 ?_
    refine zr_iload_n hx hb kd_Mo_workOut_58 hl rfl ?_
    rw [c1, k5, k6, k7]
    refine zr_cv (zr_runV hS hK (c_Mo_work l G M1 hL1 _ _ _ e he (hE k hk) hcb) km_Mo_178 hI ha_MO hs_MO rfl hl.1 (Nat.le_of_ble_eq_true rfl) (by decide) (by decide) kd_Mo_workOut_59 rfl) hI (fun M59 H locs hp59 hI => ?_)
    skip
    refine zr_iinc hx hb kd_Mo_workOut_62 hl (by decide) rfl rfl (fun ls hl => ?_)
    refine lv_goto (tgt := 22) hx hb kd_Mo_workOut_65 (by decide) ?_
    obtain ⟨w1, w2, w3, w4⟩ := hp59
    exact kont M59 H locs ls ⟨w1.trans hF1.1, fun c j a b d f => (w2 c j d f).trans (hF1.2 c j a b d f)⟩ (fun j => by rw [w2 _ _ (by decide) (by decide)]; exact h77 j) (fun j => by rw [w2 _ _ (by decide) (by decide)]; exact h78 j) w4 w3 (by rw [nI_succ]; exact hl) hI
  have body : ∀ (M1 : zm_T) (H : Heap) (locs : List Loc) (ls : Array Slot), zm_only M M1 179 → (∀ j, j < e → -16777216 ≤ (M1.1 179 j).toInt ∧ (M1.1 179 j).toInt ≤ 16777216) → (s < 4 → ∀ t, t < e → (M1.1 179 t).toInt = zg_tv M s 16 t) → (4 ≤ s → ∃ dl, zg_di M s 8 dl ∧ ∀ t, t < e → (M1.1 179 t).toInt = zi_cut (zg_sum M s dl 7 t)) → zl_has ls 5 [some (.ref (G.2.2.1 + 151)), some (.int (nI s)), some (.int (nI e)), none, none] → zm_I G 183 zs M1 s0 H locs → W p0 l e0 (zr_rm 4) s0 m0 ([.ref (G.2.2.1 + 151), .int (nI s), .int (nI e)] : List Value).toArray below meth c0 H locs 0 0 (MQ below (va_Qv (fun (M' : zm_T) => zw_F M M' ∧ (∀ j, M'.1 177 j = if j = s then 1 else M.1 177 j) ∧ (∀ j, j < 1024 * s ∨ 1024 * s + e ≤ j → M'.1 178 j = M.1 178 j) ∧ zR_row M M' P s n e) (zm_B G 183 zs) (zm_A G)) ([.ref (G.2.2.1 + 151), .int (nI s), .int (nI e)] : List Value).toArray s0 0 0 (zm_A G)) (F0 m0 20 ls []) := by
    intro M1 H locs ls ho hcb hx0 hx0' hl hI
    refine lv_iconst (v := 0) hx hb kd_Mo_workOut_20 (by decide) ?_
    refine zr_istore_n hx hb kd_Mo_workOut_21 hl (by decide) rfl (fun ls hl => ?_)
    refine eff 0 M1 H locs _ (by decide) ⟨ho.1, fun c j _ _ d _ => ho.2 c j d⟩ (fun j => ho.2 _ _ (by decide)) (fun j => ho.2 _ _ (by decide)) hcb hl hI (fun M2 H locs ls f1 f2 f3 f4 hs0 hl hI => ?_)
    refine eff 1 M2 H locs _ (by decide) f1 f2 f3 f4 hl hI (fun M3 H locs ls f1 f2 f3 f4 hs1 hl hI => ?_)
    refine eff 2 M3 H locs _ (by decide) f1 f2 f3 f4 hl hI (fun M4 H locs ls f1 f2 f3 f4 hs2 hl hI => ?_)
    exact heard M4 _ _ _ H locs _ f1 f2 f3 f4 hx0 hx0' hs0 hs1 hs2 hl hI
  refine zr_iload_n hx hb kd_Mo_workOut_0 hl rfl ?_
  refine lv_iconst (v := 4) hx hb kd_Mo_workOut_1 (by decide) ?_
  refine lv_icmp_ge (tgt := 14) hx hb kd_Mo_workOut_2 (by decide) (fun h2 => ?_) (fun h2 => ?_)
  · skip
    refine zr_aload_n hx hb kd_Mo_workOut_14 hl rfl ?_
    refine zr_iload_n hx hb kd_Mo_workOut_15 hl rfl ?_
    refine zr_iload_n hx hb kd_Mo_workOut_16 hl rfl ?_
    have h4s : 4 ≤ s := Nat.le_of_not_lt (fun g => zn_ge (n := 4) rfl g (by decide) h2)
    refine zr_cv (zr_runV hS hK (c_Mo_mixIn l G M hL s e h4s hs he (hok h4s)) km_Mo_175 hI ha_MO hs_MO rfl hl.1 (Nat.le_of_ble_eq_true rfl) (by decide) (by decide) kd_Mo_workOut_17 rfl) hI (fun M17 H locs hp17 hI => ?_)
    skip
    first
    | (obtain ⟨w1, dl, w2, w3⟩ := hp17
       exact body M17 _ _ _ w1 (fun j hj => by rw [w3 j hj]; exact zi_cut_b _) (fun g => absurd g (by omega)) (fun _ => ⟨dl, w2, w3⟩) hl hI)
    | (have h4s : s < 4 := Nat.lt_of_not_le (fun g => h2 (zn_le (n := 4) rfl g (by omega)))
       exact body M8 _ _ _ hp8.1 (fun j hj => by rw [hp8.2 j hj]; have := zg_tv_b (M := M) (tr := s) (t := j) (by omega) hC hT 16 (by omega); omega) (fun _ => hp8.2) (fun g => absurd g (by omega)) hl hI)
  · skip
    refine zr_aload_n hx hb kd_Mo_workOut_5 hl rfl ?_
    refine zr_iload_n hx hb kd_Mo_workOut_6 hl rfl ?_
    refine zr_iload_n hx hb kd_Mo_workOut_7 hl rfl ?_
    refine zr_cv (zr_runV hS hK (c_Mo_trackIn l G M hL s e he hC hT) km_Mo_171 hI ha_MO hs_MO rfl hl.1 (Nat.le_of_ble_eq_true rfl) (by decide) (by decide) kd_Mo_workOut_8 rfl) hI (fun M8 H locs hp8 hI => ?_)
    skip
    refine lv_goto (tgt := 20) hx hb kd_Mo_workOut_11 (by decide) ?_
    first
    | (obtain ⟨w1, dl, w2, w3⟩ := hp17
       exact body M17 _ _ _ w1 (fun j hj => by rw [w3 j hj]; exact zi_cut_b _) (fun g => absurd g (by omega)) (fun _ => ⟨dl, w2, w3⟩) hl hI)
    | (have h4s : s < 4 := Nat.lt_of_not_le (fun g => h2 (zn_le (n := 4) rfl g (by omega)))
       exact body M8 _ _ _ hp8.1 (fun j hj => by rw [hp8.2 j hj]; have := zg_tv_b (M := M) (tr := s) (t := j) (by omega) hC hT 16 (by omega); omega) (fun _ => hp8.2) (fun g => absurd g (by omega)) hl hI)

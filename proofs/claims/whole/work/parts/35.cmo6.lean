/-! The reference: a track's row; what is ready. -/
def zg_cs (M : zm_T) (c k : Nat) : Int := zi_clip (M.1 152 (64 * (M.1 157 c).toNatClampNeg + (M.1 158 c).toNatClampNeg + k)).toInt (M.1 160 c).toNatClampNeg k (M.1 161 c).toNatClampNeg (M.1 162 c).toNatClampNeg (M.1 159 c).toNatClampNeg
/-- the row of a track at time t, clip by clip -/
def zg_tv (M : zm_T) (tr : Nat) : Nat → Nat → Int
  | 0, _ => 0
  | c + 1, t => if ¬ M.1 154 c = 0 ∧ M.1 155 c = nI tr ∧ ¬ nI t < M.1 156 c ∧ ¬ M.1 156 c + M.1 159 c ≤ nI t then zg_cs M c (t - (M.1 156 c).toNatClampNeg) else zg_tv M tr c t
def zg_Cs (M : zm_T) : Prop := ∀ c, c < 16 → ¬ M.1 154 c = 0 → ∃ t tr a f n lv i o, zg_C M c t tr a f n lv i o
set_option maxRecDepth 100000 in
set_option maxHeartbeats 4000000 in
theorem c_Mo_trackIn (l : Launch) (G : zg_T) (M : zm_T) (hL : zL M.2) (tr e : Nat) (he : e ≤ 1024) (hC : zg_Cs M) (hT : zg_tb M) : Met l ky_Mo_trackIn (zr_ws ky_Mo_trackIn kc_Mo_trackIn 5 none) (zr_rm 3) (va_Pc [.ref (G.2.2.1 + 151), .int (nI tr), .int (nI e)] (zm_B G 183 zs M)) (va_Qv (fun (M' : zm_T) => zm_only M M' 179 ∧ ∀ t, t < e → (M'.1 179 t).toInt = zg_tv M tr 16 t) (zm_B G 183 zs) (zm_A G)) 0 0 (zm_A G) := by
  refine zr_met (by decide +kernel) (Nat.le_of_ble_eq_true rfl) ?_
  intro p0 e0 s0 m0 below meth c0 ls hS hK hlk hr hl hI
  have hx := hS.1
  have hb := hS.2.1
  have hl : zl_has ls 5 [some (.ref (G.2.2.1 + 151)), some (.int (nI tr)), some (.int (nI e)), none, none] := hl
  have loop : ∀ (k t : Nat) (M1 : zm_T) (o4 : Option Value) (H : Heap) (locs : List Loc) (ls : Array Slot), t + k = e → zm_only M M1 179 → (∀ j, j < t → (M1.1 179 j).toInt = zg_tv M tr 16 j) → zl_has ls 5 [some (.ref (G.2.2.1 + 151)), some (.int (nI tr)), some (.int (nI e)), some (.int (nI t)), o4] → zm_I G 183 zs M1 s0 H locs → W p0 l e0 (zr_rm 3) s0 m0 ([.ref (G.2.2.1 + 151), .int (nI tr), .int (nI e)] : List Value).toArray below meth c0 H locs 0 0 (MQ below (va_Qv (fun (M' : zm_T) => zm_only M M' 179 ∧ ∀ t, t < e → (M'.1 179 t).toInt = zg_tv M tr 16 t) (zm_B G 183 zs) (zm_A G)) ([.ref (G.2.2.1 + 151), .int (nI tr), .int (nI e)] : List Value).toArray s0 0 0 (zm_A G)) (F0 m0 2 ls []) := by
    intro k
    induction k with
    | zero =>
      intro t M1 o4 H locs ls hk ho hv hl hI
      obtain rfl : t = e := by omega
      refine zr_iload_n hx hb kd_Mo_trackIn_2 hl rfl ?_
      refine zr_iload_n hx hb kd_Mo_trackIn_3 hl rfl ?_
      refine lv_icmp_ge (tgt := 109) hx hb kd_Mo_trackIn_4 (by decide) (fun h4 => ?_) (fun h4 => absurd (Int32.le_refl _) h4)
      exact zr_vret hS hK hlk hr hI kd_Mo_trackIn_109 (⟨ho, hv⟩)
    | succ k ih =>
      intro t M1 o4 H locs ls hk ho hv hl hI
      have et : (nI t).toNatClampNeg = t := zn_cl (by omega)
      have hL1 : zL M1.2 := by rw [ho.1]; exact hL
      have inner : ∀ (q c : Nat) (M2 : zm_T) (H : Heap) (locs : List Loc) (ls : Array Slot), c + q = 16 → zm_only M M2 179 → (∀ j, j < t → (M2.1 179 j).toInt = zg_tv M tr 16 j) → (M2.1 179 t).toInt = zg_tv M tr c t → zl_has ls 5 [some (.ref (G.2.2.1 + 151)), some (.int (nI tr)), some (.int (nI e)), some (.int (nI t)), some (.int (nI c))] → zm_I G 183 zs M2 s0 H locs → W p0 l e0 (zr_rm 3) s0 m0 ([.ref (G.2.2.1 + 151), .int (nI tr), .int (nI e)] : List Value).toArray below meth c0 H locs 0 0 (MQ below (va_Qv (fun (M' : zm_T) => zm_only M M' 179 ∧ ∀ t, t < e → (M'.1 179 t).toInt = zg_tv M tr 16 t) (zm_B G 183 zs) (zm_A G)) ([.ref (G.2.2.1 + 151), .int (nI tr), .int (nI e)] : List Value).toArray s0 0 0 (zm_A G)) (F0 m0 17 ls []) := by
        intro q
        induction q with
        | zero =>
          intro c M2 H locs ls hq ho hv hv2 hl hI
          obtain rfl : c = 16 := by omega
          refine zr_iload hx hb kd_Mo_trackIn_17 hl rfl ?_
          refine lv_bipush (v := 16) hx hb kd_Mo_trackIn_19 (by decide) ?_
          refine lv_icmp_ge (tgt := 103) hx hb kd_Mo_trackIn_21 (by decide) (fun h21 => ?_) (fun h21 => absurd (by decide) h21)
          refine zr_iinc hx hb kd_Mo_trackIn_103 hl (by decide) rfl rfl (fun ls hl => ?_)
          refine lv_goto (tgt := 2) hx hb kd_Mo_trackIn_106 (by decide) ?_
          refine ih (t + 1) M2 _ H locs ls (by omega) ho (fun j hj => ?_) (by rw [nI_succ]; exact hl) hI
          by_cases e : j = t
          · rw [e]; exact hv2
          · exact hv j (by omega)
        | succ q ihq =>
          intro c M2 H locs ls hq ho hv hv2 hl hI
          have ec : (nI c).toNatClampNeg = c := zn_cl (by omega)
          have hL2 : zL M2.2 := by rw [ho.1]; exact hL
          have m4 : M2.1 154 c = M.1 154 c := ho.2 _ _ (by decide)
          have m5 : M2.1 155 c = M.1 155 c := ho.2 _ _ (by decide)
          have m6 : M2.1 156 c = M.1 156 c := ho.2 _ _ (by decide)
          have m9 : M2.1 159 c = M.1 159 c := ho.2 _ _ (by decide)
          have skip : ¬ (¬ M.1 154 c = 0 ∧ M.1 155 c = nI tr ∧ ¬ nI t < M.1 156 c ∧ ¬ M.1 156 c + M.1 159 c ≤ nI t) → (M2.1 179 t).toInt = zg_tv M tr (c + 1) t := fun h => by rw [zg_tv, if_neg h]; exact hv2
          have hcov : ¬ M.1 154 c = 0 → M.1 155 c = nI tr → ¬ nI t < M.1 156 c → ¬ M.1 156 c + M.1 159 c ≤ nI t → ∃ tk tr' a f n lv i o, zg_C M2 c tk tr' a f n lv i o ∧ a ≤ t ∧ t < a + n ∧ zg_tv M tr (c + 1) t = zi_clip (M2.1 152 (64 * tk + f + (t - a))).toInt lv (t - a) i o n ∧ M2.1 156 c = nI a := fun g1 g2 g3 g4 => by
            obtain ⟨tk, tr', a, f, n, lv, i, o, hCc⟩ := hC c (by omega) g1
            have hC2 : zg_C M2 c tk tr' a f n lv i o := by
              unfold zg_C
              rw [ho.2 157 _ (by decide), m5, m6, ho.2 158 _ (by decide), m9, ho.2 160 _ (by decide), ho.2 161 _ (by decide), ho.2 162 _ (by decide)]
              exact hCc
            obtain ⟨y1, y2, y3, y4, y5, y6, y7, y8, y9, y10, y11, y12, y13, y14, y15⟩ := hCc
            have g3' := g3
            have g4' := g4
            rw [y5] at g3'
            rw [y5, y7, nI_add] at g4'
            have ha : a ≤ t := Nat.le_of_not_lt (fun g => g3' (nI_lt g (by omega)))
            have hb1 : t < a + n := Nat.lt_of_not_le (fun g => g4' (nI_le g (by omega)))
            refine ⟨tk, tr', a, f, n, lv, i, o, hC2, ha, hb1, ?_, m6.trans y5⟩
            rw [zg_tv, if_pos ⟨g1, g2, g3, g4⟩]
            unfold zg_cs
            rw [y2, y5, y6, y7, y11, y13, y14, zn_cl (by omega), zn_cl (by omega), zn_cl (by omega), zn_cl (by omega), zn_cl (by omega), zn_cl (by omega), zn_cl (by omega), ho.2 152 _ (by decide)]
          have hT2 : zg_tb M2 := fun j hj => by rw [ho.2 152 _ (by decide)]; exact hT j hj
          refine zr_iload hx hb kd_Mo_trackIn_17 hl rfl ?_
          refine lv_bipush (v := 16) hx hb kd_Mo_trackIn_19 (by decide) ?_
          refine lv_icmp_ge (tgt := 103) hx hb kd_Mo_trackIn_21 (by decide) (fun h21 => absurd h21 (zn_ge (n := 16) rfl (by omega) (by decide))) (fun h21 => ?_)
          refine zr_aload_n hx hb kd_Mo_trackIn_24 hl rfl ?_
          refine zr_getr hS hK kf_Mo_16 hI ha_MO hs_MO (show _ = some 154 from zL_mo hL2 (k := 3) (by decide) (by decide)) kd_Mo_trackIn_25 ?_
          refine zr_iload hx hb kd_Mo_trackIn_28 hl rfl ?_
          refine zr_zald hS hK hI ha_MO_3 hs_MO_3 (vp_in_nI (by omega) (by decide)) kd_Mo_trackIn_30 ?_
          rw [ec, m4]
          refine lv_if_eq (tgt := 97) hx hb kd_Mo_trackIn_31 (by decide) (fun h31 => ?_) (fun h31 => ?_)
          · skip
            refine zr_iinc hx hb kd_Mo_trackIn_97 hl (by decide) rfl rfl (fun ls hl => ?_)
            refine lv_goto (tgt := 17) hx hb kd_Mo_trackIn_100 (by decide) ?_
            first
            | exact ihq (c + 1) M2 H locs ls (by omega) ho hv (skip (fun g => g.1 h31)) (by rw [nI_succ]; exact hl) hI
            | exact ihq (c + 1) M2 H locs ls (by omega) ho hv (skip (fun g => h42 g.2.1)) (by rw [nI_succ]; exact hl) hI
            | exact ihq (c + 1) M2 H locs ls (by omega) ho hv (skip (fun g => g.2.2.1 h53)) (by rw [nI_succ]; exact hl) hI
            | exact ihq (c + 1) M2 H locs ls (by omega) ho hv (skip (fun g => g.2.2.2 h72)) (by rw [nI_succ]; exact hl) hI
            | (rw [et] at hI
               refine ihq (c + 1) _ H locs ls (by omega) (zm_only_u ho) (fun j hj => by rw [zm_ui_ne (Or.inr (by omega))]; exact hv j hj) ?_ (by rw [nI_succ]; exact hl) hI
               obtain ⟨y1, y2, y3, y4, y5, y6, y7, y8, y9, y10, y11, y12, y13, y14, y15⟩ := hC2
               have hx2 := hT2 (64 * tk + f + (t - a)) (by omega)
               have hb2 := zi_clip_b (k := t - a) (i := i) (o := o) (n := n) hx2.1 hx2.2 (show 0 ≤ (lv : Int) by omega) (by omega) (by omega)
               rw [zm_ui_at, hval, ← hr92]
               rw [← hr92] at hb2
               exact zn_l2i (by omega) (by omega))
          · skip
            refine zr_aload_n hx hb kd_Mo_trackIn_34 hl rfl ?_
            refine zr_getr hS hK kf_Mo_20 hI ha_MO hs_MO (show _ = some 155 from zL_mo hL2 (k := 4) (by decide) (by decide)) kd_Mo_trackIn_35 ?_
            refine zr_iload hx hb kd_Mo_trackIn_38 hl rfl ?_
            refine zr_iald hS hK hI ha_MO_4 hs_MO_4 (vp_in_nI (by omega) (by decide)) kd_Mo_trackIn_40 ?_
            refine zr_iload_n hx hb kd_Mo_trackIn_41 hl rfl ?_
            rw [ec, m5]
            refine lv_icmp_ne (tgt := 97) hx hb kd_Mo_trackIn_42 (by decide) (fun h42 => ?_) (fun h42 => ?_)
            · skip
              refine zr_iinc hx hb kd_Mo_trackIn_97 hl (by decide) rfl rfl (fun ls hl => ?_)
              refine lv_goto (tgt := 17) hx hb kd_Mo_trackIn_100 (by decide) ?_
              first
              | exact ihq (c + 1) M2 H locs ls (by omega) ho hv (skip (fun g => g.1 h31)) (by rw [nI_succ]; exact hl) hI
              | exact ihq (c + 1) M2 H locs ls (by omega) ho hv (skip (fun g => h42 g.2.1)) (by rw [nI_succ]; exact hl) hI
              | exact ihq (c + 1) M2 H locs ls (by omega) ho hv (skip (fun g => g.2.2.1 h53)) (by rw [nI_succ]; exact hl) hI
              | exact ihq (c + 1) M2 H locs ls (by omega) ho hv (skip (fun g => g.2.2.2 h72)) (by rw [nI_succ]; exact hl) hI
              | (rw [et] at hI
                 refine ihq (c + 1) _ H locs ls (by omega) (zm_only_u ho) (fun j hj => by rw [zm_ui_ne (Or.inr (by omega))]; exact hv j hj) ?_ (by rw [nI_succ]; exact hl) hI
                 obtain ⟨y1, y2, y3, y4, y5, y6, y7, y8, y9, y10, y11, y12, y13, y14, y15⟩ := hC2
                 have hx2 := hT2 (64 * tk + f + (t - a)) (by omega)
                 have hb2 := zi_clip_b (k := t - a) (i := i) (o := o) (n := n) hx2.1 hx2.2 (show 0 ≤ (lv : Int) by omega) (by omega) (by omega)
                 rw [zm_ui_at, hval, ← hr92]
                 rw [← hr92] at hb2
                 exact zn_l2i (by omega) (by omega))
            · skip
              refine zr_iload_n hx hb kd_Mo_trackIn_45 hl rfl ?_
              refine zr_aload_n hx hb kd_Mo_trackIn_46 hl rfl ?_
              refine zr_getr hS hK kf_Mo_23 hI ha_MO hs_MO (show _ = some 156 from zL_mo hL2 (k := 5) (by decide) (by decide)) kd_Mo_trackIn_47 ?_
              refine zr_iload hx hb kd_Mo_trackIn_50 hl rfl ?_
              refine zr_iald hS hK hI ha_MO_5 hs_MO_5 (vp_in_nI (by omega) (by decide)) kd_Mo_trackIn_52 ?_
              rw [ec, m6]
              refine lv_icmp_lt (tgt := 97) hx hb kd_Mo_trackIn_53 (by decide) (fun h53 => ?_) (fun h53 => ?_)
              · skip
                refine zr_iinc hx hb kd_Mo_trackIn_97 hl (by decide) rfl rfl (fun ls hl => ?_)
                refine lv_goto (tgt := 17) hx hb kd_Mo_trackIn_100 (by decide) ?_
                first
                | exact ihq (c + 1) M2 H locs ls (by omega) ho hv (skip (fun g => g.1 h31)) (by rw [nI_succ]; exact hl) hI
                | exact ihq (c + 1) M2 H locs ls (by omega) ho hv (skip (fun g => h42 g.2.1)) (by rw [nI_succ]; exact hl) hI
                | exact ihq (c + 1) M2 H locs ls (by omega) ho hv (skip (fun g => g.2.2.1 h53)) (by rw [nI_succ]; exact hl) hI
                | exact ihq (c + 1) M2 H locs ls (by omega) ho hv (skip (fun g => g.2.2.2 h72)) (by rw [nI_succ]; exact hl) hI
                | (rw [et] at hI
                   refine ihq (c + 1) _ H locs ls (by omega) (zm_only_u ho) (fun j hj => by rw [zm_ui_ne (Or.inr (by omega))]; exact hv j hj) ?_ (by rw [nI_succ]; exact hl) hI
                   obtain ⟨y1, y2, y3, y4, y5, y6, y7, y8, y9, y10, y11, y12, y13, y14, y15⟩ := hC2
                   have hx2 := hT2 (64 * tk + f + (t - a)) (by omega)
                   have hb2 := zi_clip_b (k := t - a) (i := i) (o := o) (n := n) hx2.1 hx2.2 (show 0 ≤ (lv : Int) by omega) (by omega) (by omega)
                   rw [zm_ui_at, hval, ← hr92]
                   rw [← hr92] at hb2
                   exact zn_l2i (by omega) (by omega))
              · skip
                refine zr_iload_n hx hb kd_Mo_trackIn_56 hl rfl ?_
                refine zr_aload_n hx hb kd_Mo_trackIn_57 hl rfl ?_
                refine zr_getr hS hK kf_Mo_23 hI ha_MO hs_MO (show _ = some 156 from zL_mo hL2 (k := 5) (by decide) (by decide)) kd_Mo_trackIn_58 ?_
                refine zr_iload hx hb kd_Mo_trackIn_61 hl rfl ?_
                refine zr_iald hS hK hI ha_MO_5 hs_MO_5 (vp_in_nI (by omega) (by decide)) kd_Mo_trackIn_63 ?_
                refine zr_aload_n hx hb kd_Mo_trackIn_64 hl rfl ?_
                refine zr_getr hS hK kf_Mo_32 hI ha_MO hs_MO (show _ = some 159 from zL_mo hL2 (k := 8) (by decide) (by decide)) kd_Mo_trackIn_65 ?_
                refine zr_iload hx hb kd_Mo_trackIn_68 hl rfl ?_
                refine zr_iald hS hK hI ha_MO_8 hs_MO_8 (vp_in_nI (by omega) (by decide)) kd_Mo_trackIn_70 ?_
                refine lv_iadd hx hb kd_Mo_trackIn_71 ?_
                rw [ec, m6, m9]
                refine lv_icmp_ge (tgt := 97) hx hb kd_Mo_trackIn_72 (by decide) (fun h72 => ?_) (fun h72 => ?_)
                · skip
                  refine zr_iinc hx hb kd_Mo_trackIn_97 hl (by decide) rfl rfl (fun ls hl => ?_)
                  refine lv_goto (tgt := 17) hx hb kd_Mo_trackIn_100 (by decide) ?_
                  first
                  | exact ihq (c + 1) M2 H locs ls (by omega) ho hv (skip (fun g => g.1 h31)) (by rw [nI_succ]; exact hl) hI
                  | exact ihq (c + 1) M2 H locs ls (by omega) ho hv (skip (fun g => h42 g.2.1)) (by rw [nI_succ]; exact hl) hI
                  | exact ihq (c + 1) M2 H locs ls (by omega) ho hv (skip (fun g => g.2.2.1 h53)) (by rw [nI_succ]; exact hl) hI
                  | exact ihq (c + 1) M2 H locs ls (by omega) ho hv (skip (fun g => g.2.2.2 h72)) (by rw [nI_succ]; exact hl) hI
                  | (rw [et] at hI
                     refine ihq (c + 1) _ H locs ls (by omega) (zm_only_u ho) (fun j hj => by rw [zm_ui_ne (Or.inr (by omega))]; exact hv j hj) ?_ (by rw [nI_succ]; exact hl) hI
                     obtain ⟨y1, y2, y3, y4, y5, y6, y7, y8, y9, y10, y11, y12, y13, y14, y15⟩ := hC2
                     have hx2 := hT2 (64 * tk + f + (t - a)) (by omega)
                     have hb2 := zi_clip_b (k := t - a) (i := i) (o := o) (n := n) hx2.1 hx2.2 (show 0 ≤ (lv : Int) by omega) (by omega) (by omega)
                     rw [zm_ui_at, hval, ← hr92]
                     rw [← hr92] at hb2
                     exact zn_l2i (by omega) (by omega))
                · skip
                  refine zr_aload_n hx hb kd_Mo_trackIn_75 hl rfl ?_
                  refine zr_getr hS hK kf_Mo_92 hI ha_MO hs_MO (show _ = some 179 from zL_mo hL2 (k := 28) (by decide) (by decide)) kd_Mo_trackIn_76 ?_
                  refine zr_iload_n hx hb kd_Mo_trackIn_79 hl rfl ?_
                  refine zr_aload_n hx hb kd_Mo_trackIn_80 hl rfl ?_
                  refine zr_iload hx hb kd_Mo_trackIn_81 hl rfl ?_
                  refine zr_iload_n hx hb kd_Mo_trackIn_83 hl rfl ?_
                  refine zr_aload_n hx hb kd_Mo_trackIn_84 hl rfl ?_
                  refine zr_getr hS hK kf_Mo_23 hI ha_MO hs_MO (show _ = some 156 from zL_mo hL2 (k := 5) (by decide) (by decide)) kd_Mo_trackIn_85 ?_
                  refine zr_iload hx hb kd_Mo_trackIn_88 hl rfl ?_
                  refine zr_iald hS hK hI ha_MO_5 hs_MO_5 (vp_in_nI (by omega) (by decide)) kd_Mo_trackIn_90 ?_
                  refine lv_isub hx hb kd_Mo_trackIn_91 ?_
                  obtain ⟨tk, tr', a, f, n, lv, i, o, hC2, ha, hb1, hval, h6⟩ := hcov h31 h42 h53 h72
                  rw [ec, h6, pk_sub ha]
                  refine zr_cl (zr_runV hS hK (c_Mo_clipSample l G M2 hL2 c (t - a) tk tr' a f n lv i o (by omega) (by omega) hC2 hT2) km_Mo_151 hI ha_MO hs_MO rfl hl.1 (Nat.le_of_ble_eq_true rfl) (by decide) (by decide) kd_Mo_trackIn_92 rfl) hI (fun r92 M92 H locs hp92 hI => ?_)
                  obtain ⟨hr92, hM92⟩ := hp92
                  rw [hM92] at hI
                  refine lv_l2i hx hb kd_Mo_trackIn_95 rfl ?_
                  refine zr_iast hS hK hI ha_MO_28 hs_MO_28 (vp_in_nI (by omega) (by decide)) kd_Mo_trackIn_96 (fun H locs hI => ?_)
                  refine zr_iinc hx hb kd_Mo_trackIn_97 hl (by decide) rfl rfl (fun ls hl => ?_)
                  refine lv_goto (tgt := 17) hx hb kd_Mo_trackIn_100 (by decide) ?_
                  first
                  | exact ihq (c + 1) M2 H locs ls (by omega) ho hv (skip (fun g => g.1 h31)) (by rw [nI_succ]; exact hl) hI
                  | exact ihq (c + 1) M2 H locs ls (by omega) ho hv (skip (fun g => h42 g.2.1)) (by rw [nI_succ]; exact hl) hI
                  | exact ihq (c + 1) M2 H locs ls (by omega) ho hv (skip (fun g => g.2.2.1 h53)) (by rw [nI_succ]; exact hl) hI
                  | exact ihq (c + 1) M2 H locs ls (by omega) ho hv (skip (fun g => g.2.2.2 h72)) (by rw [nI_succ]; exact hl) hI
                  | (rw [et] at hI
                     refine ihq (c + 1) _ H locs ls (by omega) (zm_only_u ho) (fun j hj => by rw [zm_ui_ne (Or.inr (by omega))]; exact hv j hj) ?_ (by rw [nI_succ]; exact hl) hI
                     obtain ⟨y1, y2, y3, y4, y5, y6, y7, y8, y9, y10, y11, y12, y13, y14, y15⟩ := hC2
                     have hx2 := hT2 (64 * tk + f + (t - a)) (by omega)
                     have hb2 := zi_clip_b (k := t - a) (i := i) (o := o) (n := n) hx2.1 hx2.2 (show 0 ≤ (lv : Int) by omega) (by omega) (by omega)
                     rw [zm_ui_at, hval, ← hr92]
                     rw [← hr92] at hb2
                     exact zn_l2i (by omega) (by omega))
      refine zr_iload_n hx hb kd_Mo_trackIn_2 hl rfl ?_
      refine zr_iload_n hx hb kd_Mo_trackIn_3 hl rfl ?_
      refine lv_icmp_ge (tgt := 109) hx hb kd_Mo_trackIn_4 (by decide) (fun h4 => absurd h4 (nI_ge (by omega) (by omega))) (fun h4 => ?_)
      refine zr_aload_n hx hb kd_Mo_trackIn_7 hl rfl ?_
      refine zr_getr hS hK kf_Mo_92 hI ha_MO hs_MO (show _ = some 179 from zL_mo hL1 (k := 28) (by decide) (by decide)) kd_Mo_trackIn_8 ?_
      refine zr_iload_n hx hb kd_Mo_trackIn_11 hl rfl ?_
      refine lv_iconst (v := 0) hx hb kd_Mo_trackIn_12 (by decide) ?_
      refine zr_iast hS hK hI ha_MO_28 hs_MO_28 (vp_in_nI (by omega) (by decide)) kd_Mo_trackIn_13 (fun H locs hI => ?_)
      refine lv_iconst (v := 0) hx hb kd_Mo_trackIn_14 (by decide) ?_
      refine zr_istore hx hb kd_Mo_trackIn_15 hl (by decide) rfl (fun ls hl => ?_)
      rw [et] at hI
      refine inner 16 0 _ H locs _ (by omega) (zm_only_u ho) (fun j hj => by rw [zm_ui_ne (Or.inr (by omega))]; exact hv j hj) ?_ hl hI
      rw [zm_ui_at]; rfl
  refine lv_iconst (v := 0) hx hb kd_Mo_trackIn_0 (by decide) ?_
  refine zr_istore_n hx hb kd_Mo_trackIn_1 hl (by decide) rfl (fun ls hl => ?_)
  exact loop e 0 M _ _ _ _ (by omega) zm_only_r (fun j hj => absurd hj (by omega)) hl hI
set_option maxRecDepth 100000 in
set_option maxHeartbeats 4000000 in
theorem c_Mo_isReady (l : Launch) (G : zg_T) (M : zm_T) (hL : zL M.2) (s : Nat) (hs : s < 8) : Met l ky_Mo_isReady (zr_ws ky_Mo_isReady kc_Mo_isReady 4 (some .boolean)) (zr_rm 1) (va_Pc [.ref (G.2.2.1 + 151), .int (nI s)] (zm_B G 183 zs M)) (va_Qi (fun (r : Int32) (M' : zm_T) => zt_is r (M.1 177 s = 0 ∧ ∀ a, a < 8 → zgf M a s → ¬ M.1 177 a = 0) ∧ M' = M) (zm_B G 183 zs) (zm_A G)) 0 0 (zm_A G) := by
  refine zr_met (by decide +kernel) (Nat.le_of_ble_eq_true rfl) ?_
  intro p0 e0 s0 m0 below meth c0 ls hS hK hlk hr hl hI
  have hx := hS.1
  have hb := hS.2.1
  have hl : zl_has ls 4 [some (.ref (G.2.2.1 + 151)), some (.int (nI s)), none, none] := hl
  have es : (nI s).toNatClampNeg = s := zn_cl (by omega)
  have loop : ∀ (k i : Nat) (v : Int32) (H : Heap) (locs : List Loc) (ls : Array Slot), i + k = 8 → zt_is v (M.1 177 s = 0 ∧ ∀ a, a < i → zgf M a s → ¬ M.1 177 a = 0) → zl_has ls 4 [some (.ref (G.2.2.1 + 151)), some (.int (nI s)), some (.int v), some (.int (nI i))] → zm_I G 183 zs M s0 H locs → W p0 l e0 (zr_rm 1) s0 m0 ([.ref (G.2.2.1 + 151), .int (nI s)] : List Value).toArray below meth c0 H locs 0 0 (MQ below (va_Qi (fun (r : Int32) (M' : zm_T) => zt_is r (M.1 177 s = 0 ∧ ∀ a, a < 8 → zgf M a s → ¬ M.1 177 a = 0) ∧ M' = M) (zm_B G 183 zs) (zm_A G)) ([.ref (G.2.2.1 + 151), .int (nI s)] : List Value).toArray s0 0 0 (zm_A G)) (F0 m0 17 ls []) := by
    intro k
    induction k with
    | zero =>
      intro i v H locs ls hi hv hl hI
      obtain rfl : i = 8 := by omega
      have hz : narrow .boolean (.int v) = .int v := by rcases zt_is_01 hv with rfl | rfl <;> rfl
      refine zr_iload_n hx hb kd_Mo_isReady_17 hl rfl ?_
      refine lv_bipush (v := 8) hx hb kd_Mo_isReady_18 (by decide) ?_
      refine lv_icmp_ge (tgt := 57) hx hb kd_Mo_isReady_20 (by decide) (fun h20 => ?_) (fun h20 => absurd (by decide) h20)
      refine zr_iload_n hx hb kd_Mo_isReady_57 hl rfl ?_
      exact zr_zret hS hK hlk hr (hz) hI kd_Mo_isReady_58 (⟨hv, rfl⟩)
    | succ k ih =>
      intro i v H locs ls hi hv hl hI
      have ei : (nI i).toNatClampNeg = i := zn_cl (by omega)
      have step : ∀ w : Int32, (zt_is w ((M.1 177 s = 0 ∧ ∀ a, a < i → zgf M a s → ¬ M.1 177 a = 0) ∧ (zgf M i s → ¬ M.1 177 i = 0))) → zt_is w (M.1 177 s = 0 ∧ ∀ a, a < i + 1 → zgf M a s → ¬ M.1 177 a = 0) := fun w hw => zt_is_c hw ⟨fun h => ⟨h.1.1, fun a ha => by
        by_cases e : a = i
        · subst e; exact h.2
        · exact h.1.2 a (by omega)⟩, fun h => ⟨⟨h.1, fun a ha => h.2 a (by omega)⟩, h.2 i (by omega)⟩⟩
      refine zr_iload_n hx hb kd_Mo_isReady_17 hl rfl ?_
      refine lv_bipush (v := 8) hx hb kd_Mo_isReady_18 (by decide) ?_
      refine lv_icmp_ge (tgt := 57) hx hb kd_Mo_isReady_20 (by decide) (fun h20 => absurd h20 (zn_ge (n := 8) rfl (by omega) (by decide))) (fun h20 => ?_)
      refine zr_iload_n hx hb kd_Mo_isReady_23 hl rfl ?_
      refine lv_if_eq (tgt := 49) hx hb kd_Mo_isReady_24 (by decide) (fun h24 => ?_) (fun h24 => ?_)
      · skip
        refine lv_iconst (v := 0) hx hb kd_Mo_isReady_49 (by decide) ?_
        refine zr_istore_n hx hb kd_Mo_isReady_50 hl (by decide) rfl (fun ls hl => ?_)
        refine zr_iinc hx hb kd_Mo_isReady_51 hl (by decide) rfl rfl (fun ls hl => ?_)
        refine lv_goto (tgt := 17) hx hb kd_Mo_isReady_54 (by decide) ?_
        refine ih (i + 1) _ H locs ls (by omega) (step _ ?_) (by rw [nI_succ]; exact hl) hI
        try rw [ei] at h33
        first
        | exact Or.inr ⟨rfl, fun g => zt_is_f hv h24 g.1⟩
        | exact Or.inl ⟨rfl, zt_is_t hv h24, fun g => absurd g (zt_is_f hf39 h42)⟩
        | exact Or.inr ⟨rfl, fun g => g.2 (zt_is_t hf39 h42) h33⟩
        | exact Or.inl ⟨rfl, zt_is_t hv h24, fun _ => h33⟩
      · skip
        refine zr_aload_n hx hb kd_Mo_isReady_27 hl rfl ?_
        refine zr_getr hS hK kf_Mo_86 hI ha_MO hs_MO (show _ = some 177 from zL_mo hL (k := 26) (by decide) (by decide)) kd_Mo_isReady_28 ?_
        refine zr_iload_n hx hb kd_Mo_isReady_31 hl rfl ?_
        refine zr_zald hS hK hI ha_MO_26 hs_MO_26 (vp_in_nI (by omega) (by decide)) kd_Mo_isReady_32 ?_
        refine lv_if_ne (tgt := 45) hx hb kd_Mo_isReady_33 (by decide) (fun h33 => ?_) (fun h33 => ?_)
        · skip
          refine lv_iconst (v := 1) hx hb kd_Mo_isReady_45 (by decide) ?_
          refine lv_goto (tgt := 50) hx hb kd_Mo_isReady_46 (by decide) ?_
          refine zr_istore_n hx hb kd_Mo_isReady_50 hl (by decide) rfl (fun ls hl => ?_)
          refine zr_iinc hx hb kd_Mo_isReady_51 hl (by decide) rfl rfl (fun ls hl => ?_)
          refine lv_goto (tgt := 17) hx hb kd_Mo_isReady_54 (by decide) ?_
          refine ih (i + 1) _ H locs ls (by omega) (step _ ?_) (by rw [nI_succ]; exact hl) hI
          try rw [ei] at h33
          first
          | exact Or.inr ⟨rfl, fun g => zt_is_f hv h24 g.1⟩
          | exact Or.inl ⟨rfl, zt_is_t hv h24, fun g => absurd g (zt_is_f hf39 h42)⟩
          | exact Or.inr ⟨rfl, fun g => g.2 (zt_is_t hf39 h42) h33⟩
          | exact Or.inl ⟨rfl, zt_is_t hv h24, fun _ => h33⟩
        · skip
          refine zr_aload_n hx hb kd_Mo_isReady_36 hl rfl ?_
          refine zr_iload_n hx hb kd_Mo_isReady_37 hl rfl ?_
          refine zr_iload_n hx hb kd_Mo_isReady_38 hl rfl ?_
          refine zr_ci (zr_runV hS hK (c_Mo_feeds l G M hL i s (by omega) hs) km_Mo_133 hI ha_MO hs_MO rfl hl.1 (Nat.le_of_ble_eq_true rfl) (by decide) (by decide) kd_Mo_isReady_39 rfl) hI (fun r39 M39 H locs hp39 hI => ?_)
          obtain ⟨hf39, hM39⟩ := hp39
          rw [hM39] at hI
          refine lv_if_ne (tgt := 49) hx hb kd_Mo_isReady_42 (by decide) (fun h42 => ?_) (fun h42 => ?_)
          · skip
            refine lv_iconst (v := 0) hx hb kd_Mo_isReady_49 (by decide) ?_
            refine zr_istore_n hx hb kd_Mo_isReady_50 hl (by decide) rfl (fun ls hl => ?_)
            refine zr_iinc hx hb kd_Mo_isReady_51 hl (by decide) rfl rfl (fun ls hl => ?_)
            refine lv_goto (tgt := 17) hx hb kd_Mo_isReady_54 (by decide) ?_
            refine ih (i + 1) _ H locs ls (by omega) (step _ ?_) (by rw [nI_succ]; exact hl) hI
            try rw [ei] at h33
            first
            | exact Or.inr ⟨rfl, fun g => zt_is_f hv h24 g.1⟩
            | exact Or.inl ⟨rfl, zt_is_t hv h24, fun g => absurd g (zt_is_f hf39 h42)⟩
            | exact Or.inr ⟨rfl, fun g => g.2 (zt_is_t hf39 h42) h33⟩
            | exact Or.inl ⟨rfl, zt_is_t hv h24, fun _ => h33⟩
          · skip
            refine lv_iconst (v := 1) hx hb kd_Mo_isReady_45 (by decide) ?_
            refine lv_goto (tgt := 50) hx hb kd_Mo_isReady_46 (by decide) ?_
            refine zr_istore_n hx hb kd_Mo_isReady_50 hl (by decide) rfl (fun ls hl => ?_)
            refine zr_iinc hx hb kd_Mo_isReady_51 hl (by decide) rfl rfl (fun ls hl => ?_)
            refine lv_goto (tgt := 17) hx hb kd_Mo_isReady_54 (by decide) ?_
            refine ih (i + 1) _ H locs ls (by omega) (step _ ?_) (by rw [nI_succ]; exact hl) hI
            try rw [ei] at h33
            first
            | exact Or.inr ⟨rfl, fun g => zt_is_f hv h24 g.1⟩
            | exact Or.inl ⟨rfl, zt_is_t hv h24, fun g => absurd g (zt_is_f hf39 h42)⟩
            | exact Or.inr ⟨rfl, fun g => g.2 (zt_is_t hf39 h42) h33⟩
            | exact Or.inl ⟨rfl, zt_is_t hv h24, fun _ => h33⟩
  refine zr_aload_n hx hb kd_Mo_isReady_0 hl rfl ?_
  refine zr_getr hS hK kf_Mo_86 hI ha_MO hs_MO (show _ = some 177 from zL_mo hL (k := 26) (by decide) (by decide)) kd_Mo_isReady_1 ?_
  refine zr_iload_n hx hb kd_Mo_isReady_4 hl rfl ?_
  refine zr_zald hS hK hI ha_MO_26 hs_MO_26 (vp_in_nI (by omega) (by decide)) kd_Mo_isReady_5 ?_
  refine lv_if_ne (tgt := 13) hx hb kd_Mo_isReady_6 (by decide) (fun h6 => ?_) (fun h6 => ?_)
  · skip
    refine lv_iconst (v := 0) hx hb kd_Mo_isReady_13 (by decide) ?_
    refine zr_istore_n hx hb kd_Mo_isReady_14 hl (by decide) rfl (fun ls hl => ?_)
    refine lv_iconst (v := 0) hx hb kd_Mo_isReady_15 (by decide) ?_
    refine zr_istore_n hx hb kd_Mo_isReady_16 hl (by decide) rfl (fun ls hl => ?_)
    refine loop 8 0 _ _ _ _ (by omega) ?_ hl hI
    rw [es] at h6
    first
    | exact Or.inl ⟨rfl, h6, fun a ha => absurd ha (by omega)⟩
    | exact Or.inr ⟨rfl, fun g => h6 g.1⟩
  · skip
    refine lv_iconst (v := 1) hx hb kd_Mo_isReady_9 (by decide) ?_
    refine lv_goto (tgt := 14) hx hb kd_Mo_isReady_10 (by decide) ?_
    refine zr_istore_n hx hb kd_Mo_isReady_14 hl (by decide) rfl (fun ls hl => ?_)
    refine lv_iconst (v := 0) hx hb kd_Mo_isReady_15 (by decide) ?_
    refine zr_istore_n hx hb kd_Mo_isReady_16 hl (by decide) rfl (fun ls hl => ?_)
    refine loop 8 0 _ _ _ _ (by omega) ?_ hl hI
    rw [es] at h6
    first
    | exact Or.inl ⟨rfl, h6, fun a ha => absurd ha (by omega)⟩
    | exact Or.inr ⟨rfl, fun g => h6 g.1⟩

/-! The reference's public methods: turns, clips, splits. -/
def zv_trn (s w : Int32) : Int32 := if zf_in s 0 7 = 0 then 1 else if zf_in w 0 4 = 0 then 1 else 0
/-- on: 1 and 3 turn on -/
def zv_on (w : Int32) : Int32 := if w = 1 then 1 else if w = 3 then 1 else 0
theorem zv_on_01 (w : Int32) : zv_on w = 0 ∨ zv_on w = 1 := by
  unfold zv_on
  (repeat' split) <;> simp
set_option maxRecDepth 100000 in
set_option maxHeartbeats 4000000 in
theorem c_Mo_turn (l : Launch) (G : zg_T) (M : zm_T) (hL : zL M.2) (s w : Int32) : Met l ky_Mo_turn (zr_ws ky_Mo_turn kc_Mo_turn 5 (some .int)) (zr_rm 1) (va_Pc [.ref (G.2.2.1 + 151), .int s, .int w] (zm_B G 183 zs M)) (va_Qi (fun (r : Int32) (M' : zm_T) => (zv_trn s w = 1 ∧ M' = zm_ui M 151 0 1) ∨ (zv_trn s w = 0 ∧ ((w = 0 ∧ r = M.1 169 s.toNatClampNeg ∧ M' = zm_ui (zm_ui M 151 0 0) 169 s.toNatClampNeg 0) ∨ (¬ w = 0 ∧ w < 3 ∧ (r = if M.1 173 s.toNatClampNeg = zv_on w then 0 else 1) ∧ M' = zm_ui (zm_ui M 151 0 0) 173 s.toNatClampNeg (zv_on w)) ∨ (¬ w = 0 ∧ ¬ w < 3 ∧ (r = if M.1 174 s.toNatClampNeg = zv_on w then 0 else 1) ∧ M' = zm_ui (zm_ui M 151 0 0) 174 s.toNatClampNeg (zv_on w))))) (zm_B G 183 zs) (zm_A G)) 0 0 (zm_A G) := by
  refine zr_met (by decide +kernel) (Nat.le_of_ble_eq_true rfl) ?_
  intro p0 e0 s0 m0 below meth c0 ls hS hK hlk hr hl hI
  have hx := hS.1
  have hb := hS.2.1
  have hl : zl_has ls 5 [some (.ref (G.2.2.1 + 151)), some (.int s), some (.int w), none, none] := hl
  have rest : ∀ (v : Int32) (H : Heap) (locs : List Loc) (ls : Array Slot), v = zv_trn s w → zl_has ls 5 [some (.ref (G.2.2.1 + 151)), some (.int s), some (.int w), none, none] → zm_I G 183 zs M s0 H locs → W p0 l e0 (zr_rm 1) s0 m0 ([.ref (G.2.2.1 + 151), .int s, .int w] : List Value).toArray below meth c0 H locs 0 0 (MQ below (va_Qi (fun (r : Int32) (M' : zm_T) => (zv_trn s w = 1 ∧ M' = zm_ui M 151 0 1) ∨ (zv_trn s w = 0 ∧ ((w = 0 ∧ r = M.1 169 s.toNatClampNeg ∧ M' = zm_ui (zm_ui M 151 0 0) 169 s.toNatClampNeg 0) ∨ (¬ w = 0 ∧ w < 3 ∧ (r = if M.1 173 s.toNatClampNeg = zv_on w then 0 else 1) ∧ M' = zm_ui (zm_ui M 151 0 0) 173 s.toNatClampNeg (zv_on w)) ∨ (¬ w = 0 ∧ ¬ w < 3 ∧ (r = if M.1 174 s.toNatClampNeg = zv_on w then 0 else 1) ∧ M' = zm_ui (zm_ui M 151 0 0) 174 s.toNatClampNeg (zv_on w))))) (zm_B G 183 zs) (zm_A G)) ([.ref (G.2.2.1 + 151), .int s, .int w] : List Value).toArray s0 0 0 (zm_A G)) (F0 m0 22 ls [.int v, .ref (G.2.2.1 + 151)]) := by
    intro v H locs ls hv hl hI
    have v01 : v = 0 ∨ v = 1 := by rw [hv]; unfold zv_trn; (repeat' split) <;> simp
    rcases v01 with rfl | rfl
    · have hin : ∃ a, a < 8 ∧ s = nI a := by
        unfold zv_trn at hv
        by_cases g1 : zf_in s 0 7 = 0
        · rw [if_pos g1] at hv; exact absurd hv (by decide)
        obtain ⟨a, ha, ea⟩ := zf_in_n (n := 7) (by decide) g1
        exact ⟨a, by omega, ea⟩
      obtain ⟨a, ha, rfl⟩ := hin
      have ca : (nI a).toNatClampNeg = a := zn_cl (by omega)
      rw [ca]
      have fin : ∀ (on : Int32) (H : Heap) (locs : List Loc) (ls : Array Slot), ¬ w = 0 → on = zv_on w → zl_has ls 5 [some (.ref (G.2.2.1 + 151)), some (.int (nI a)), some (.int w), some (.int on), none] → zm_I G 183 zs (zm_ui M 151 0 0) s0 H locs → W p0 l e0 (zr_rm 1) s0 m0 ([.ref (G.2.2.1 + 151), .int (nI a), .int w] : List Value).toArray below meth c0 H locs 0 0 (MQ below (va_Qi (fun (r : Int32) (M' : zm_T) => (zv_trn (nI a) w = 1 ∧ M' = zm_ui M 151 0 1) ∨ (zv_trn (nI a) w = 0 ∧ ((w = 0 ∧ r = M.1 169 a ∧ M' = zm_ui (zm_ui M 151 0 0) 169 a 0) ∨ (¬ w = 0 ∧ w < 3 ∧ (r = if M.1 173 a = zv_on w then 0 else 1) ∧ M' = zm_ui (zm_ui M 151 0 0) 173 a (zv_on w)) ∨ (¬ w = 0 ∧ ¬ w < 3 ∧ (r = if M.1 174 a = zv_on w then 0 else 1) ∧ M' = zm_ui (zm_ui M 151 0 0) 174 a (zv_on w))))) (zm_B G 183 zs) (zm_A G)) ([.ref (G.2.2.1 + 151), .int (nI a), .int w] : List Value).toArray s0 0 0 (zm_A G)) (F0 m0 70 ls []) := by
        intro on H locs ls hw0 hon hl hI
        have hnar : vp_nar .boolean on = on := zn_nar (by rw [hon]; exact zv_on_01 w)
        refine zr_iload_n hx hb kd_Mo_turn_70 hl rfl ?_
        refine lv_iconst (v := 3) hx hb kd_Mo_turn_71 (by decide) ?_
        refine lv_icmp_ge (tgt := 84) hx hb kd_Mo_turn_72 (by decide) (fun h72 => ?_) (fun h72 => ?_)
        · skip
          refine zr_aload_n hx hb kd_Mo_turn_84 hl rfl ?_
          refine zr_getr hS hK kf_Mo_77 hI ha_MO hs_MO (show _ = some 174 from zL_mo hL (k := 23) (by decide) (by decide)) kd_Mo_turn_85 ?_
          refine zr_iload_n hx hb kd_Mo_turn_88 hl rfl ?_
          refine zr_zald hS hK hI ha_MO_23 hs_MO_23 (vp_in_nI (by omega) (by decide)) kd_Mo_turn_89 ?_
          refine zr_istore hx hb kd_Mo_turn_90 hl (by decide) rfl (fun ls hl => ?_)
          refine zr_iload_n hx hb kd_Mo_turn_92 hl rfl ?_
          refine lv_iconst (v := 3) hx hb kd_Mo_turn_93 (by decide) ?_
          refine lv_icmp_ge (tgt := 107) hx hb kd_Mo_turn_94 (by decide) (fun h94 => ?_) (fun h94 => ?_)
          · skip
            refine zr_aload_n hx hb kd_Mo_turn_107 hl rfl ?_
            refine zr_getr hS hK kf_Mo_77 hI ha_MO hs_MO (show _ = some 174 from zL_mo hL (k := 23) (by decide) (by decide)) kd_Mo_turn_108 ?_
            refine zr_iload_n hx hb kd_Mo_turn_111 hl rfl ?_
            refine zr_iload_n hx hb kd_Mo_turn_112 hl rfl ?_
            refine zr_zast hS hK hI ha_MO_23 hs_MO_23 (vp_in_nI (by omega) (by decide)) kd_Mo_turn_113 (fun H locs hI => ?_)
            rw [ca, hnar] at hI
            refine zr_iload hx hb kd_Mo_turn_114 hl rfl ?_
            refine zr_iload_n hx hb kd_Mo_turn_116 hl rfl ?_
            refine lv_icmp_ne (tgt := 124) hx hb kd_Mo_turn_117 (by decide) (fun h117 => ?_) (fun h117 => ?_)
            · skip
              refine lv_iconst (v := 1) hx hb kd_Mo_turn_124 (by decide) ?_
              exact zr_iret hS hK hlk hr hI kd_Mo_turn_125 (Or.inr ⟨hv.symm, by
                  try rw [ca, zm_ui_ne (Or.inl (by decide))] at h117
                  rw [hon] at h117 ⊢
                  first
                  | exact absurd h72 h94
                  | exact absurd h94 h72
                  | exact Or.inr (Or.inl ⟨hw0, Int32.not_le.mp h72, by rw [if_pos h117], rfl⟩)
                  | exact Or.inr (Or.inl ⟨hw0, Int32.not_le.mp h72, by rw [if_neg h117], rfl⟩)
                  | exact Or.inr (Or.inr ⟨hw0, Int32.not_lt.mpr h72, by rw [if_pos h117], rfl⟩)
                  | exact Or.inr (Or.inr ⟨hw0, Int32.not_lt.mpr h72, by rw [if_neg h117], rfl⟩)⟩)
            · skip
              refine lv_iconst (v := 0) hx hb kd_Mo_turn_120 (by decide) ?_
              refine lv_goto (tgt := 125) hx hb kd_Mo_turn_121 (by decide) ?_
              exact zr_iret hS hK hlk hr hI kd_Mo_turn_125 (Or.inr ⟨hv.symm, by
                  try rw [ca, zm_ui_ne (Or.inl (by decide))] at h117
                  rw [hon] at h117 ⊢
                  first
                  | exact absurd h72 h94
                  | exact absurd h94 h72
                  | exact Or.inr (Or.inl ⟨hw0, Int32.not_le.mp h72, by rw [if_pos h117], rfl⟩)
                  | exact Or.inr (Or.inl ⟨hw0, Int32.not_le.mp h72, by rw [if_neg h117], rfl⟩)
                  | exact Or.inr (Or.inr ⟨hw0, Int32.not_lt.mpr h72, by rw [if_pos h117], rfl⟩)
                  | exact Or.inr (Or.inr ⟨hw0, Int32.not_lt.mpr h72, by rw [if_neg h117], rfl⟩)⟩)
          · skip
            refine zr_aload_n hx hb kd_Mo_turn_97 hl rfl ?_
            refine zr_getr hS hK kf_Mo_74 hI ha_MO hs_MO (show _ = some 173 from zL_mo hL (k := 22) (by decide) (by decide)) kd_Mo_turn_98 ?_
            refine zr_iload_n hx hb kd_Mo_turn_101 hl rfl ?_
            refine zr_iload_n hx hb kd_Mo_turn_102 hl rfl ?_
            refine zr_zast hS hK hI ha_MO_22 hs_MO_22 (vp_in_nI (by omega) (by decide)) kd_Mo_turn_103 (fun H locs hI => ?_)
            refine lv_goto (tgt := 114) hx hb kd_Mo_turn_104 (by decide) ?_
            rw [ca, hnar] at hI
            refine zr_iload hx hb kd_Mo_turn_114 hl rfl ?_
            refine zr_iload_n hx hb kd_Mo_turn_116 hl rfl ?_
            refine lv_icmp_ne (tgt := 124) hx hb kd_Mo_turn_117 (by decide) (fun h117 => ?_) (fun h117 => ?_)
            · skip
              refine lv_iconst (v := 1) hx hb kd_Mo_turn_124 (by decide) ?_
              exact zr_iret hS hK hlk hr hI kd_Mo_turn_125 (Or.inr ⟨hv.symm, by
                  try rw [ca, zm_ui_ne (Or.inl (by decide))] at h117
                  rw [hon] at h117 ⊢
                  first
                  | exact absurd h72 h94
                  | exact absurd h94 h72
                  | exact Or.inr (Or.inl ⟨hw0, Int32.not_le.mp h72, by rw [if_pos h117], rfl⟩)
                  | exact Or.inr (Or.inl ⟨hw0, Int32.not_le.mp h72, by rw [if_neg h117], rfl⟩)
                  | exact Or.inr (Or.inr ⟨hw0, Int32.not_lt.mpr h72, by rw [if_pos h117], rfl⟩)
                  | exact Or.inr (Or.inr ⟨hw0, Int32.not_lt.mpr h72, by rw [if_neg h117], rfl⟩)⟩)
            · skip
              refine lv_iconst (v := 0) hx hb kd_Mo_turn_120 (by decide) ?_
              refine lv_goto (tgt := 125) hx hb kd_Mo_turn_121 (by decide) ?_
              exact zr_iret hS hK hlk hr hI kd_Mo_turn_125 (Or.inr ⟨hv.symm, by
                  try rw [ca, zm_ui_ne (Or.inl (by decide))] at h117
                  rw [hon] at h117 ⊢
                  first
                  | exact absurd h72 h94
                  | exact absurd h94 h72
                  | exact Or.inr (Or.inl ⟨hw0, Int32.not_le.mp h72, by rw [if_pos h117], rfl⟩)
                  | exact Or.inr (Or.inl ⟨hw0, Int32.not_le.mp h72, by rw [if_neg h117], rfl⟩)
                  | exact Or.inr (Or.inr ⟨hw0, Int32.not_lt.mpr h72, by rw [if_pos h117], rfl⟩)
                  | exact Or.inr (Or.inr ⟨hw0, Int32.not_lt.mpr h72, by rw [if_neg h117], rfl⟩)⟩)
        · skip
          refine zr_aload_n hx hb kd_Mo_turn_75 hl rfl ?_
          refine zr_getr hS hK kf_Mo_74 hI ha_MO hs_MO (show _ = some 173 from zL_mo hL (k := 22) (by decide) (by decide)) kd_Mo_turn_76 ?_
          refine zr_iload_n hx hb kd_Mo_turn_79 hl rfl ?_
          refine zr_zald hS hK hI ha_MO_22 hs_MO_22 (vp_in_nI (by omega) (by decide)) kd_Mo_turn_80 ?_
          refine lv_goto (tgt := 90) hx hb kd_Mo_turn_81 (by decide) ?_
          refine zr_istore hx hb kd_Mo_turn_90 hl (by decide) rfl (fun ls hl => ?_)
          refine zr_iload_n hx hb kd_Mo_turn_92 hl rfl ?_
          refine lv_iconst (v := 3) hx hb kd_Mo_turn_93 (by decide) ?_
          refine lv_icmp_ge (tgt := 107) hx hb kd_Mo_turn_94 (by decide) (fun h94 => ?_) (fun h94 => ?_)
          · skip
            refine zr_aload_n hx hb kd_Mo_turn_107 hl rfl ?_
            refine zr_getr hS hK kf_Mo_77 hI ha_MO hs_MO (show _ = some 174 from zL_mo hL (k := 23) (by decide) (by decide)) kd_Mo_turn_108 ?_
            refine zr_iload_n hx hb kd_Mo_turn_111 hl rfl ?_
            refine zr_iload_n hx hb kd_Mo_turn_112 hl rfl ?_
            refine zr_zast hS hK hI ha_MO_23 hs_MO_23 (vp_in_nI (by omega) (by decide)) kd_Mo_turn_113 (fun H locs hI => ?_)
            rw [ca, hnar] at hI
            refine zr_iload hx hb kd_Mo_turn_114 hl rfl ?_
            refine zr_iload_n hx hb kd_Mo_turn_116 hl rfl ?_
            refine lv_icmp_ne (tgt := 124) hx hb kd_Mo_turn_117 (by decide) (fun h117 => ?_) (fun h117 => ?_)
            · skip
              refine lv_iconst (v := 1) hx hb kd_Mo_turn_124 (by decide) ?_
              exact zr_iret hS hK hlk hr hI kd_Mo_turn_125 (Or.inr ⟨hv.symm, by
                  try rw [ca, zm_ui_ne (Or.inl (by decide))] at h117
                  rw [hon] at h117 ⊢
                  first
                  | exact absurd h72 h94
                  | exact absurd h94 h72
                  | exact Or.inr (Or.inl ⟨hw0, Int32.not_le.mp h72, by rw [if_pos h117], rfl⟩)
                  | exact Or.inr (Or.inl ⟨hw0, Int32.not_le.mp h72, by rw [if_neg h117], rfl⟩)
                  | exact Or.inr (Or.inr ⟨hw0, Int32.not_lt.mpr h72, by rw [if_pos h117], rfl⟩)
                  | exact Or.inr (Or.inr ⟨hw0, Int32.not_lt.mpr h72, by rw [if_neg h117], rfl⟩)⟩)
            · skip
              refine lv_iconst (v := 0) hx hb kd_Mo_turn_120 (by decide) ?_
              refine lv_goto (tgt := 125) hx hb kd_Mo_turn_121 (by decide) ?_
              exact zr_iret hS hK hlk hr hI kd_Mo_turn_125 (Or.inr ⟨hv.symm, by
                  try rw [ca, zm_ui_ne (Or.inl (by decide))] at h117
                  rw [hon] at h117 ⊢
                  first
                  | exact absurd h72 h94
                  | exact absurd h94 h72
                  | exact Or.inr (Or.inl ⟨hw0, Int32.not_le.mp h72, by rw [if_pos h117], rfl⟩)
                  | exact Or.inr (Or.inl ⟨hw0, Int32.not_le.mp h72, by rw [if_neg h117], rfl⟩)
                  | exact Or.inr (Or.inr ⟨hw0, Int32.not_lt.mpr h72, by rw [if_pos h117], rfl⟩)
                  | exact Or.inr (Or.inr ⟨hw0, Int32.not_lt.mpr h72, by rw [if_neg h117], rfl⟩)⟩)
          · skip
            refine zr_aload_n hx hb kd_Mo_turn_97 hl rfl ?_
            refine zr_getr hS hK kf_Mo_74 hI ha_MO hs_MO (show _ = some 173 from zL_mo hL (k := 22) (by decide) (by decide)) kd_Mo_turn_98 ?_
            refine zr_iload_n hx hb kd_Mo_turn_101 hl rfl ?_
            refine zr_iload_n hx hb kd_Mo_turn_102 hl rfl ?_
            refine zr_zast hS hK hI ha_MO_22 hs_MO_22 (vp_in_nI (by omega) (by decide)) kd_Mo_turn_103 (fun H locs hI => ?_)
            refine lv_goto (tgt := 114) hx hb kd_Mo_turn_104 (by decide) ?_
            rw [ca, hnar] at hI
            refine zr_iload hx hb kd_Mo_turn_114 hl rfl ?_
            refine zr_iload_n hx hb kd_Mo_turn_116 hl rfl ?_
            refine lv_icmp_ne (tgt := 124) hx hb kd_Mo_turn_117 (by decide) (fun h117 => ?_) (fun h117 => ?_)
            · skip
              refine lv_iconst (v := 1) hx hb kd_Mo_turn_124 (by decide) ?_
              exact zr_iret hS hK hlk hr hI kd_Mo_turn_125 (Or.inr ⟨hv.symm, by
                  try rw [ca, zm_ui_ne (Or.inl (by decide))] at h117
                  rw [hon] at h117 ⊢
                  first
                  | exact absurd h72 h94
                  | exact absurd h94 h72
                  | exact Or.inr (Or.inl ⟨hw0, Int32.not_le.mp h72, by rw [if_pos h117], rfl⟩)
                  | exact Or.inr (Or.inl ⟨hw0, Int32.not_le.mp h72, by rw [if_neg h117], rfl⟩)
                  | exact Or.inr (Or.inr ⟨hw0, Int32.not_lt.mpr h72, by rw [if_pos h117], rfl⟩)
                  | exact Or.inr (Or.inr ⟨hw0, Int32.not_lt.mpr h72, by rw [if_neg h117], rfl⟩)⟩)
            · skip
              refine lv_iconst (v := 0) hx hb kd_Mo_turn_120 (by decide) ?_
              refine lv_goto (tgt := 125) hx hb kd_Mo_turn_121 (by decide) ?_
              exact zr_iret hS hK hlk hr hI kd_Mo_turn_125 (Or.inr ⟨hv.symm, by
                  try rw [ca, zm_ui_ne (Or.inl (by decide))] at h117
                  rw [hon] at h117 ⊢
                  first
                  | exact absurd h72 h94
                  | exact absurd h94 h72
                  | exact Or.inr (Or.inl ⟨hw0, Int32.not_le.mp h72, by rw [if_pos h117], rfl⟩)
                  | exact Or.inr (Or.inl ⟨hw0, Int32.not_le.mp h72, by rw [if_neg h117], rfl⟩)
                  | exact Or.inr (Or.inr ⟨hw0, Int32.not_lt.mpr h72, by rw [if_pos h117], rfl⟩)
                  | exact Or.inr (Or.inr ⟨hw0, Int32.not_lt.mpr h72, by rw [if_neg h117], rfl⟩)⟩)
      refine zr_puti hS hK kf_Mo_101 hI ha_MO hs_MO rfl rfl kd_Mo_turn_22 (fun H locs hI => ?_)
      refine zr_aload_n hx hb kd_Mo_turn_25 hl rfl ?_
      refine zr_geti hS hK kf_Mo_101 hI ha_MO hs_MO kd_Mo_turn_26 ?_
      refine lv_if_le (tgt := 34) hx hb kd_Mo_turn_29 (by decide) (fun h29 => ?_) (fun h29 => absurd ((by rw [zm_ui_at]; decide)) h29)
      refine zr_iload_n hx hb kd_Mo_turn_34 hl rfl ?_
      refine lv_if_ne (tgt := 54) hx hb kd_Mo_turn_35 (by decide) (fun h35 => ?_) (fun h35 => ?_)
      · skip
        refine zr_iload_n hx hb kd_Mo_turn_54 hl rfl ?_
        refine lv_iconst (v := 1) hx hb kd_Mo_turn_55 (by decide) ?_
        refine lv_icmp_eq (tgt := 64) hx hb kd_Mo_turn_56 (by decide) (fun h56 => ?_) (fun h56 => ?_)
        · skip
          refine lv_iconst (v := 1) hx hb kd_Mo_turn_64 (by decide) ?_
          refine lv_goto (tgt := 69) hx hb kd_Mo_turn_65 (by decide) ?_
          refine zr_istore_n hx hb kd_Mo_turn_69 hl (by decide) rfl (fun ls hl => ?_)
          refine fin _ _ _ _ h35 ?_ hl hI
          unfold zv_on
          first
          | (rw [if_pos h56]; done)
          | (rw [if_neg h56, if_pos h61]; done)
          | (rw [if_neg h56, if_neg h61]; done)
        · skip
          refine zr_iload_n hx hb kd_Mo_turn_59 hl rfl ?_
          refine lv_iconst (v := 3) hx hb kd_Mo_turn_60 (by decide) ?_
          refine lv_icmp_ne (tgt := 68) hx hb kd_Mo_turn_61 (by decide) (fun h61 => ?_) (fun h61 => ?_)
          · skip
            refine lv_iconst (v := 0) hx hb kd_Mo_turn_68 (by decide) ?_
            refine zr_istore_n hx hb kd_Mo_turn_69 hl (by decide) rfl (fun ls hl => ?_)
            refine fin _ _ _ _ h35 ?_ hl hI
            unfold zv_on
            first
            | (rw [if_pos h56]; done)
            | (rw [if_neg h56, if_pos h61]; done)
            | (rw [if_neg h56, if_neg h61]; done)
          · skip
            refine lv_iconst (v := 1) hx hb kd_Mo_turn_64 (by decide) ?_
            refine lv_goto (tgt := 69) hx hb kd_Mo_turn_65 (by decide) ?_
            refine zr_istore_n hx hb kd_Mo_turn_69 hl (by decide) rfl (fun ls hl => ?_)
            refine fin _ _ _ _ h35 ?_ hl hI
            unfold zv_on
            first
            | (rw [if_pos h56]; done)
            | (rw [if_neg h56, if_pos h61]; done)
            | (rw [if_neg h56, if_neg h61]; done)
      · skip
        refine zr_aload_n hx hb kd_Mo_turn_38 hl rfl ?_
        refine zr_getr hS hK kf_Mo_62 hI ha_MO hs_MO (show _ = some 169 from zL_mo hL (k := 18) (by decide) (by decide)) kd_Mo_turn_39 ?_
        refine zr_iload_n hx hb kd_Mo_turn_42 hl rfl ?_
        refine zr_iald hS hK hI ha_MO_18 hs_MO_18 (vp_in_nI (by omega) (by decide)) kd_Mo_turn_43 ?_
        refine zr_istore_n hx hb kd_Mo_turn_44 hl (by decide) rfl (fun ls hl => ?_)
        refine zr_aload_n hx hb kd_Mo_turn_45 hl rfl ?_
        refine zr_getr hS hK kf_Mo_62 hI ha_MO hs_MO (show _ = some 169 from zL_mo hL (k := 18) (by decide) (by decide)) kd_Mo_turn_46 ?_
        refine zr_iload_n hx hb kd_Mo_turn_49 hl rfl ?_
        refine lv_iconst (v := 0) hx hb kd_Mo_turn_50 (by decide) ?_
        refine zr_iast hS hK hI ha_MO_18 hs_MO_18 (vp_in_nI (by omega) (by decide)) kd_Mo_turn_51 (fun H locs hI => ?_)
        refine zr_iload_n hx hb kd_Mo_turn_52 hl rfl ?_
        exact zr_iret hS hK hlk hr hI kd_Mo_turn_53 (Or.inr ⟨hv.symm, Or.inl ⟨h35, by rw [ca, zm_ui_ne (Or.inl (by decide))], by rw [ca]⟩⟩)
    · refine zr_puti hS hK kf_Mo_101 hI ha_MO hs_MO rfl rfl kd_Mo_turn_22 (fun H locs hI => ?_)
      refine zr_aload_n hx hb kd_Mo_turn_25 hl rfl ?_
      refine zr_geti hS hK kf_Mo_101 hI ha_MO hs_MO kd_Mo_turn_26 ?_
      refine lv_if_le (tgt := 34) hx hb kd_Mo_turn_29 (by decide) (fun h29 => absurd h29 ((by rw [zm_ui_at]; decide))) (fun h29 => ?_)
      refine lv_iconst (v := 0) hx hb kd_Mo_turn_32 (by decide) ?_
      exact zr_iret hS hK hlk hr hI kd_Mo_turn_33 (Or.inl ⟨hv.symm, rfl⟩)
  refine zr_aload_n hx hb kd_Mo_turn_0 hl rfl ?_
  refine zr_iload_n hx hb kd_Mo_turn_1 hl rfl ?_
  refine zr_ci (zr_runS hS hK (c_Mo_noStrip l G 183 zs M _) km_Mo_141 hI rfl hl.1 (Nat.le_of_ble_eq_true rfl) (by decide) (by decide) kd_Mo_turn_2 rfl) hI (fun r2 M2 H locs hp2 hI => ?_)
  obtain ⟨rfl, hM2⟩ := hp2
  rw [hM2] at hI
  refine lv_if_ne (tgt := 17) hx hb kd_Mo_turn_5 (by decide) (fun h5 => ?_) (fun h5 => ?_)
  · skip
    refine lv_iconst (v := 1) hx hb kd_Mo_turn_17 (by decide) ?_
    refine lv_goto (tgt := 22) hx hb kd_Mo_turn_18 (by decide) ?_
    refine rest _ _ _ _ ?_ hl hI
    unfold zv_trn
    first
    | (rw [if_neg (zv_01 h5), if_neg (fun g => (zv_in0.mp g).elim h9 (Int32.not_lt.mpr h14))]; done)
    | (rw [if_neg (zv_01 h5), if_pos (zv_in0.mpr (Or.inr (Int32.not_le.mp h14)))]; done)
    | (rw [if_neg (zv_01 h5), if_pos (zv_in0.mpr (Or.inl h9))]; done)
    | (rw [if_pos (zv_10 h5)]; done)
  · skip
    refine zr_iload_n hx hb kd_Mo_turn_8 hl rfl ?_
    refine lv_if_lt (tgt := 17) hx hb kd_Mo_turn_9 (by decide) (fun h9 => ?_) (fun h9 => ?_)
    · skip
      refine lv_iconst (v := 1) hx hb kd_Mo_turn_17 (by decide) ?_
      refine lv_goto (tgt := 22) hx hb kd_Mo_turn_18 (by decide) ?_
      refine rest _ _ _ _ ?_ hl hI
      unfold zv_trn
      first
      | (rw [if_neg (zv_01 h5), if_neg (fun g => (zv_in0.mp g).elim h9 (Int32.not_lt.mpr h14))]; done)
      | (rw [if_neg (zv_01 h5), if_pos (zv_in0.mpr (Or.inr (Int32.not_le.mp h14)))]; done)
      | (rw [if_neg (zv_01 h5), if_pos (zv_in0.mpr (Or.inl h9))]; done)
      | (rw [if_pos (zv_10 h5)]; done)
    · skip
      refine zr_iload_n hx hb kd_Mo_turn_12 hl rfl ?_
      refine lv_iconst (v := 4) hx hb kd_Mo_turn_13 (by decide) ?_
      refine lv_icmp_le (tgt := 21) hx hb kd_Mo_turn_14 (by decide) (fun h14 => ?_) (fun h14 => ?_)
      · skip
        refine lv_iconst (v := 0) hx hb kd_Mo_turn_21 (by decide) ?_
        refine rest _ _ _ _ ?_ hl hI
        unfold zv_trn
        first
        | (rw [if_neg (zv_01 h5), if_neg (fun g => (zv_in0.mp g).elim h9 (Int32.not_lt.mpr h14))]; done)
        | (rw [if_neg (zv_01 h5), if_pos (zv_in0.mpr (Or.inr (Int32.not_le.mp h14)))]; done)
        | (rw [if_neg (zv_01 h5), if_pos (zv_in0.mpr (Or.inl h9))]; done)
        | (rw [if_pos (zv_10 h5)]; done)
      · skip
        refine lv_iconst (v := 1) hx hb kd_Mo_turn_17 (by decide) ?_
        refine lv_goto (tgt := 22) hx hb kd_Mo_turn_18 (by decide) ?_
        refine rest _ _ _ _ ?_ hl hI
        unfold zv_trn
        first
        | (rw [if_neg (zv_01 h5), if_neg (fun g => (zv_in0.mp g).elim h9 (Int32.not_lt.mpr h14))]; done)
        | (rw [if_neg (zv_01 h5), if_pos (zv_in0.mpr (Or.inr (Int32.not_le.mp h14)))]; done)
        | (rw [if_neg (zv_01 h5), if_pos (zv_in0.mpr (Or.inl h9))]; done)
        | (rw [if_pos (zv_10 h5)]; done)

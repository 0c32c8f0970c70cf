/-! The reference: who reaches whom, the delays, who is heard, what is ready. -/
theorem zn_d8 : ∀ k, k < 64 → nI k / 8 = nI (k / 8) ∧ nI k - nI k / 8 * 8 = nI (k % 8) := by decide +kernel
theorem zn_nar {v : Int32} (h : v = 0 ∨ v = 1) : vp_nar .boolean v = v := by rcases h with rfl | rfl <;> rfl
/-- only the array at place w has changed -/
def zm_only (M M' : zm_T) (w : Nat) : Prop := M'.2 = M.2 ∧ ∀ c j, c ≠ w → M'.1 c j = M.1 c j
theorem zm_only_r {M : zm_T} {w : Nat} : zm_only M M w := ⟨rfl, fun _ _ _ => rfl⟩
theorem zm_only_u {M M' : zm_T} {w k : Nat} {v : Int32} (h : zm_only M M' w) : zm_only M (zm_ui M' w k v) w := ⟨h.1, fun c j hc => by rw [zm_ui_ne (Or.inl hc)]; exact h.2 c j hc⟩
theorem zm_only_t {M M1 M2 : zm_T} {w : Nat} (h : zm_only M M1 w) (h' : zm_only M1 M2 w) : zm_only M M2 w := ⟨h'.1.trans h.1, fun c j hc => (h'.2 c j hc).trans (h.2 c j hc)⟩
theorem zgf_c {M M1 : zm_T} (h1 : ∀ j, M1.1 163 j = M.1 163 j) (h2 : ∀ j, M1.1 164 j = M.1 164 j) : zgf M1 = zgf M := by
  funext a b
  unfold zgf
  rw [h1, h2]
/-- the reach array holds the truths of P -/
def zg_R (M : zm_T) (P : Nat → Nat → Prop) : Prop := ∀ k, k < 64 → zt_is (M.1 175 k) (P (k / 8) (k % 8))
set_option maxRecDepth 100000 in
set_option maxHeartbeats 4000000 in
theorem c_Mo_findReach (l : Launch) (G : zg_T) (M : zm_T) (hL : zL M.2)  : Met l ky_Mo_findReach (zr_ws ky_Mo_findReach kc_Mo_findReach 3 none) (zr_rm 1) (va_Pc [.ref (G.2.2.1 + 151)] (zm_B G 183 zs M)) (va_Qv (fun (M' : zm_T) => zm_only M M' 175 ∧ zg_R M' (gq_T (zgf M))) (zm_B G 183 zs) (zm_A G)) 0 0 (zm_A G) := by
  refine zr_met (by decide +kernel) (Nat.le_of_ble_eq_true rfl) ?_
  intro p0 e0 s0 m0 below meth c0 ls hS hK hlk hr hl hI
  have hx := hS.1
  have hb := hS.2.1
  have hl : zl_has ls 3 [some (.ref (G.2.2.1 + 151)), none, none] := hl
  have two : ∀ (k m : Nat) (M1 : zm_T) (o : Option Value) (H : Heap) (locs : List Loc) (ls : Array Slot), m + k = 8 → zm_only M M1 175 → zg_R M1 (gq_P (zgf M) m) → zl_has ls 3 [some (.ref (G.2.2.1 + 151)), some (.int (nI m)), o] → zm_I G 183 zs M1 s0 H locs → W p0 l e0 (zr_rm 1) s0 m0 ([.ref (G.2.2.1 + 151)] : List Value).toArray below meth c0 H locs 0 0 (MQ below (va_Qv (fun (M' : zm_T) => zm_only M M' 175 ∧ zg_R M' (gq_T (zgf M))) (zm_B G 183 zs) (zm_A G)) ([.ref (G.2.2.1 + 151)] : List Value).toArray s0 0 0 (zm_A G)) (F0 m0 34 ls []) := by
    intro k
    induction k with
    | zero =>
      intro m M1 o H locs ls hm ho hR hl hI
      obtain rfl : m = 8 := by omega
      refine zr_iload_n hx hb kd_Mo_findReach_34 hl rfl ?_
      refine lv_bipush (v := 8) hx hb kd_Mo_findReach_35 (by decide) ?_
      refine lv_icmp_ge (tgt := 114) hx hb kd_Mo_findReach_37 (by decide) (fun h37 => ?_) (fun h37 => absurd (by decide) h37)
      exact zr_vret hS hK hlk hr hI kd_Mo_findReach_114 (⟨ho, fun k hk => zt_is_c (hR k hk) (gq_iff (fun a b h => h.1) _ _)⟩)
    | succ k ih =>
      intro m M1 o H locs ls hm ho hR hl hI
      -- the entries below q are of the next round
      have inner : ∀ (j q : Nat) (M2 : zm_T) (H : Heap) (locs : List Loc) (ls : Array Slot), q + j = 64 → zm_only M M2 175 → (∀ i, i < 64 → zt_is (M2.1 175 i) (gq_P (zgf M) (if i < q then m + 1 else m) (i / 8) (i % 8))) → zl_has ls 3 [some (.ref (G.2.2.1 + 151)), some (.int (nI m)), some (.int (nI q))] → zm_I G 183 zs M2 s0 H locs → W p0 l e0 (zr_rm 1) s0 m0 ([.ref (G.2.2.1 + 151)] : List Value).toArray below meth c0 H locs 0 0 (MQ below (va_Qv (fun (M' : zm_T) => zm_only M M' 175 ∧ zg_R M' (gq_T (zgf M))) (zm_B G 183 zs) (zm_A G)) ([.ref (G.2.2.1 + 151)] : List Value).toArray s0 0 0 (zm_A G)) (F0 m0 42 ls []) := by
        intro j
        induction j with
        | zero =>
          intro q M2 H locs ls hq ho hE hl hI
          obtain rfl : q = 64 := by omega
          refine zr_iload_n hx hb kd_Mo_findReach_42 hl rfl ?_
          refine lv_bipush (v := 64) hx hb kd_Mo_findReach_43 (by decide) ?_
          refine lv_icmp_ge (tgt := 108) hx hb kd_Mo_findReach_45 (by decide) (fun h45 => ?_) (fun h45 => absurd (by decide) h45)
          refine zr_iinc hx hb kd_Mo_findReach_108 hl (by decide) rfl rfl (fun ls hl => ?_)
          refine lv_goto (tgt := 34) hx hb kd_Mo_findReach_111 (by decide) ?_
          exact ih (m + 1) M2 _ H locs ls (by omega) ho (fun i hi => by have := hE i hi; rw [if_pos hi] at this; exact this) (by rw [nI_succ]; exact hl) hI
        | succ j ihj =>
          intro q M2 H locs ls hq ho hE hl hI
          have hL2 : zL M2.2 := by rw [ho.1]; exact hL
          have eq : (nI q).toNatClampNeg = q := zn_cl (by omega)
          have e1 : nI q / 8 * 8 + nI m = nI (q / 8 * 8 + m) := by rw [(zn_d8 q (by omega)).1, show (8 : Int32) = nI 8 from rfl, zn_mulI, nI_add]
          have e2 : (8 : Int32) * nI m + (nI q - nI q / 8 * 8) = nI (8 * m + q % 8) := by rw [(zn_d8 q (by omega)).2, show (8 : Int32) = nI 8 from rfl, zn_mulI, nI_add]
          have c1 : (nI (q / 8 * 8 + m)).toNatClampNeg = q / 8 * 8 + m := zn_cl (by omega)
          have c2 : (nI (8 * m + q % 8)).toNatClampNeg = 8 * m + q % 8 := zn_cl (by omega)
          -- a row or a column of m is the same in both rounds
          have same1 : ∀ a b, gq_P (zgf M) (m + 1) a b → (a = m ∨ b = m) → gq_P (zgf M) m a b := fun a b h hab => by
            rcases h with h | ⟨h1, h2⟩
            · exact h
            · rcases hab with rfl | rfl
              · exact h2
              · exact h1
          have h1 : zt_is (M2.1 175 (q / 8 * 8 + m)) (gq_P (zgf M) m (q / 8) m) := by
            have h := hE (q / 8 * 8 + m) (by omega)
            rw [show (q / 8 * 8 + m) / 8 = q / 8 by omega, show (q / 8 * 8 + m) % 8 = m by omega] at h
            split at h
            · exact zt_is_c h ⟨fun g => same1 _ _ g (Or.inr rfl), fun g => Or.inl g⟩
            · exact h
          have h2 : zt_is (M2.1 175 (8 * m + q % 8)) (gq_P (zgf M) m m (q % 8)) := by
            have h := hE (8 * m + q % 8) (by omega)
            rw [show (8 * m + q % 8) / 8 = m by omega, show (8 * m + q % 8) % 8 = q % 8 by omega] at h
            split at h
            · exact zt_is_c h ⟨fun g => same1 _ _ g (Or.inl rfl), fun g => Or.inl g⟩
            · exact h
          have h0 : zt_is (M2.1 175 q) (gq_P (zgf M) m (q / 8) (q % 8)) := by
            have h := hE q (by omega)
            rw [if_neg (by omega)] at h
            exact h
          have fin : ∀ (v : Int32), zt_is v (gq_P (zgf M) (m + 1) (q / 8) (q % 8)) → ∀ i, i < 64 → zt_is ((zm_ui M2 175 q (vp_nar .boolean v)).1 175 i) (gq_P (zgf M) (if i < q + 1 then m + 1 else m) (i / 8) (i % 8)) := fun v hv i hi => by
            by_cases e : i = q
            · subst e
              rw [zm_ui_at, if_pos (by omega), zn_nar (zt_is_01 hv)]
              exact hv
            · rw [zm_ui_ne (Or.inr e)]
              have h := hE i hi
              by_cases hiq : i < q
              · rw [if_pos (by omega)]; rw [if_pos hiq] at h; exact h
              · rw [if_neg (by omega)]; rw [if_neg hiq] at h; exact h
          refine zr_iload_n hx hb kd_Mo_findReach_42 hl rfl ?_
          refine lv_bipush (v := 64) hx hb kd_Mo_findReach_43 (by decide) ?_
          refine lv_icmp_ge (tgt := 108) hx hb kd_Mo_findReach_45 (by decide) (fun h45 => absurd h45 (zn_ge (n := 64) rfl (by omega) (by decide))) (fun h45 => ?_)
          refine zr_aload_n hx hb kd_Mo_findReach_48 hl rfl ?_
          refine zr_getr hS hK kf_Mo_80 hI ha_MO hs_MO (zL_mo hL2 (k := 24) (by decide) (by decide)) kd_Mo_findReach_49 ?_
          refine zr_iload_n hx hb kd_Mo_findReach_52 hl rfl ?_
          refine zr_aload_n hx hb kd_Mo_findReach_53 hl rfl ?_
          refine zr_getr hS hK kf_Mo_80 hI ha_MO hs_MO (zL_mo hL2 (k := 24) (by decide) (by decide)) kd_Mo_findReach_54 ?_
          refine zr_iload_n hx hb kd_Mo_findReach_57 hl rfl ?_
          refine zr_zald hS hK hI ha_MO_24 hs_MO_24 (vp_in_nI (by omega) (by decide)) kd_Mo_findReach_58 ?_
          refine lv_if_ne (tgt := 96) hx hb kd_Mo_findReach_59 (by decide) (fun h59 => ?_) (fun h59 => ?_)
          · skip
            refine lv_iconst (v := 1) hx hb kd_Mo_findReach_96 (by decide) ?_
            refine lv_goto (tgt := 101) hx hb kd_Mo_findReach_97 (by decide) ?_
            refine zr_zast hS hK hI ha_MO_24 hs_MO_24 (vp_in_nI (by omega) (by decide)) kd_Mo_findReach_101 (fun H locs hI => ?_)
            refine zr_iinc hx hb kd_Mo_findReach_102 hl (by decide) rfl rfl (fun ls hl => ?_)
            refine lv_goto (tgt := 42) hx hb kd_Mo_findReach_105 (by decide) ?_
            rw [eq] at hI h59
            try rw [c1] at h76
            try rw [c2] at h93
            refine ihj (q + 1) _ H locs ls (by omega) (zm_only_u ho) (fin _ ?_) (by rw [nI_succ]; exact hl) hI
            first
            | exact Or.inl ⟨rfl, Or.inr ⟨zt_is_t h1 h76, zt_is_t h2 h93⟩⟩
            | exact Or.inr ⟨rfl, fun g => g.elim (zt_is_f h0 h59) (fun g => zt_is_f h2 h93 g.2)⟩
            | exact Or.inr ⟨rfl, fun g => g.elim (zt_is_f h0 h59) (fun g => zt_is_f h1 h76 g.1)⟩
            | exact Or.inl ⟨rfl, Or.inl (zt_is_t h0 h59)⟩
          · skip
            refine zr_aload_n hx hb kd_Mo_findReach_62 hl rfl ?_
            refine zr_getr hS hK kf_Mo_80 hI ha_MO hs_MO (zL_mo hL2 (k := 24) (by decide) (by decide)) kd_Mo_findReach_63 ?_
            refine zr_iload_n hx hb kd_Mo_findReach_66 hl rfl ?_
            refine lv_bipush (v := 8) hx hb kd_Mo_findReach_67 (by decide) ?_
            refine lv_idiv hx hb kd_Mo_findReach_69 (by decide) ?_
            refine lv_bipush (v := 8) hx hb kd_Mo_findReach_70 (by decide) ?_
            refine lv_imul hx hb kd_Mo_findReach_72 ?_
            refine zr_iload_n hx hb kd_Mo_findReach_73 hl rfl ?_
            refine lv_iadd hx hb kd_Mo_findReach_74 ?_
            rw [e1]
            refine zr_zald hS hK hI ha_MO_24 hs_MO_24 (vp_in_nI (by omega) (by decide)) kd_Mo_findReach_75 ?_
            refine lv_if_eq (tgt := 100) hx hb kd_Mo_findReach_76 (by decide) (fun h76 => ?_) (fun h76 => ?_)
            · skip
              refine lv_iconst (v := 0) hx hb kd_Mo_findReach_100 (by decide) ?_
              refine zr_zast hS hK hI ha_MO_24 hs_MO_24 (vp_in_nI (by omega) (by decide)) kd_Mo_findReach_101 (fun H locs hI => ?_)
              refine zr_iinc hx hb kd_Mo_findReach_102 hl (by decide) rfl rfl (fun ls hl => ?_)
              refine lv_goto (tgt := 42) hx hb kd_Mo_findReach_105 (by decide) ?_
              rw [eq] at hI h59
              try rw [c1] at h76
              try rw [c2] at h93
              refine ihj (q + 1) _ H locs ls (by omega) (zm_only_u ho) (fin _ ?_) (by rw [nI_succ]; exact hl) hI
              first
              | exact Or.inl ⟨rfl, Or.inr ⟨zt_is_t h1 h76, zt_is_t h2 h93⟩⟩
              | exact Or.inr ⟨rfl, fun g => g.elim (zt_is_f h0 h59) (fun g => zt_is_f h2 h93 g.2)⟩
              | exact Or.inr ⟨rfl, fun g => g.elim (zt_is_f h0 h59) (fun g => zt_is_f h1 h76 g.1)⟩
              | exact Or.inl ⟨rfl, Or.inl (zt_is_t h0 h59)⟩
            · skip
              refine zr_aload_n hx hb kd_Mo_findReach_79 hl rfl ?_
              refine zr_getr hS hK kf_Mo_80 hI ha_MO hs_MO (zL_mo hL2 (k := 24) (by decide) (by decide)) kd_Mo_findReach_80 ?_
              refine lv_bipush (v := 8) hx hb kd_Mo_findReach_83 (by decide) ?_
              refine zr_iload_n hx hb kd_Mo_findReach_85 hl rfl ?_
              refine lv_imul hx hb kd_Mo_findReach_86 ?_
              refine zr_iload_n hx hb kd_Mo_findReach_87 hl rfl ?_
              refine lv_bipush (v := 8) hx hb kd_Mo_findReach_88 (by decide) ?_
              refine lv_irem hx hb kd_Mo_findReach_90 (by decide) ?_
              refine lv_iadd hx hb kd_Mo_findReach_91 ?_
              rw [e2]
              refine zr_zald hS hK hI ha_MO_24 hs_MO_24 (vp_in_nI (by omega) (by decide)) kd_Mo_findReach_92 ?_
              refine lv_if_eq (tgt := 100) hx hb kd_Mo_findReach_93 (by decide) (fun h93 => ?_) (fun h93 => ?_)
              · skip
                refine lv_iconst (v := 0) hx hb kd_Mo_findReach_100 (by decide) ?_
                refine zr_zast hS hK hI ha_MO_24 hs_MO_24 (vp_in_nI (by omega) (by decide)) kd_Mo_findReach_101 (fun H locs hI => ?_)
                refine zr_iinc hx hb kd_Mo_findReach_102 hl (by decide) rfl rfl (fun ls hl => ?_)
                refine lv_goto (tgt := 42) hx hb kd_Mo_findReach_105 (by decide) ?_
                rw [eq] at hI h59
                try rw [c1] at h76
                try rw [c2] at h93
                refine ihj (q + 1) _ H locs ls (by omega) (zm_only_u ho) (fin _ ?_) (by rw [nI_succ]; exact hl) hI
                first
                | exact Or.inl ⟨rfl, Or.inr ⟨zt_is_t h1 h76, zt_is_t h2 h93⟩⟩
                | exact Or.inr ⟨rfl, fun g => g.elim (zt_is_f h0 h59) (fun g => zt_is_f h2 h93 g.2)⟩
                | exact Or.inr ⟨rfl, fun g => g.elim (zt_is_f h0 h59) (fun g => zt_is_f h1 h76 g.1)⟩
                | exact Or.inl ⟨rfl, Or.inl (zt_is_t h0 h59)⟩
              · skip
                refine lv_iconst (v := 1) hx hb kd_Mo_findReach_96 (by decide) ?_
                refine lv_goto (tgt := 101) hx hb kd_Mo_findReach_97 (by decide) ?_
                refine zr_zast hS hK hI ha_MO_24 hs_MO_24 (vp_in_nI (by omega) (by decide)) kd_Mo_findReach_101 (fun H locs hI => ?_)
                refine zr_iinc hx hb kd_Mo_findReach_102 hl (by decide) rfl rfl (fun ls hl => ?_)
                refine lv_goto (tgt := 42) hx hb kd_Mo_findReach_105 (by decide) ?_
                rw [eq] at hI h59
                try rw [c1] at h76
                try rw [c2] at h93
                refine ihj (q + 1) _ H locs ls (by omega) (zm_only_u ho) (fin _ ?_) (by rw [nI_succ]; exact hl) hI
                first
                | exact Or.inl ⟨rfl, Or.inr ⟨zt_is_t h1 h76, zt_is_t h2 h93⟩⟩
                | exact Or.inr ⟨rfl, fun g => g.elim (zt_is_f h0 h59) (fun g => zt_is_f h2 h93 g.2)⟩
                | exact Or.inr ⟨rfl, fun g => g.elim (zt_is_f h0 h59) (fun g => zt_is_f h1 h76 g.1)⟩
                | exact Or.inl ⟨rfl, Or.inl (zt_is_t h0 h59)⟩
      refine zr_iload_n hx hb kd_Mo_findReach_34 hl rfl ?_
      refine lv_bipush (v := 8) hx hb kd_Mo_findReach_35 (by decide) ?_
      refine lv_icmp_ge (tgt := 114) hx hb kd_Mo_findReach_37 (by decide) (fun h37 => absurd h37 (zn_ge (n := 8) rfl (by omega) (by decide))) (fun h37 => ?_)
      refine lv_iconst (v := 0) hx hb kd_Mo_findReach_40 (by decide) ?_
      refine zr_istore_n hx hb kd_Mo_findReach_41 hl (by decide) rfl (fun ls hl => ?_)
      exact inner 64 0 M1 H locs _ (by omega) ho (fun i hi => by rw [if_neg (by omega)]; exact hR i hi) hl hI
  have one : ∀ (k q : Nat) (M1 : zm_T) (H : Heap) (locs : List Loc) (ls : Array Slot), q + k = 64 → zm_only M M1 175 → (∀ i, i < q → zt_is (M1.1 175 i) (zgf M (i / 8) (i % 8))) → zl_has ls 3 [some (.ref (G.2.2.1 + 151)), some (.int (nI q)), none] → zm_I G 183 zs M1 s0 H locs → W p0 l e0 (zr_rm 1) s0 m0 ([.ref (G.2.2.1 + 151)] : List Value).toArray below meth c0 H locs 0 0 (MQ below (va_Qv (fun (M' : zm_T) => zm_only M M' 175 ∧ zg_R M' (gq_T (zgf M))) (zm_B G 183 zs) (zm_A G)) ([.ref (G.2.2.1 + 151)] : List Value).toArray s0 0 0 (zm_A G)) (F0 m0 2 ls []) := by
    intro k
    induction k with
    | zero =>
      intro q M1 H locs ls hq ho hE hl hI
      obtain rfl : q = 64 := by omega
      refine zr_iload_n hx hb kd_Mo_findReach_2 hl rfl ?_
      refine lv_bipush (v := 64) hx hb kd_Mo_findReach_3 (by decide) ?_
      refine lv_icmp_ge (tgt := 32) hx hb kd_Mo_findReach_5 (by decide) (fun h5 => ?_) (fun h5 => absurd (by decide) h5)
      refine lv_iconst (v := 0) hx hb kd_Mo_findReach_32 (by decide) ?_
      refine zr_istore_n hx hb kd_Mo_findReach_33 hl (by decide) rfl (fun ls hl => ?_)
      exact two 8 0 M1 _ H locs _ (by omega) ho hE hl hI
    | succ k ih =>
      intro q M1 H locs ls hq ho hE hl hI
      have hL1 : zL M1.2 := by rw [ho.1]; exact hL
      have eq : (nI q).toNatClampNeg = q := zn_cl (by omega)
      have hfd : zgf M1 = zgf M := zgf_c (fun j => ho.2 _ _ (by decide)) (fun j => ho.2 _ _ (by decide))
      refine zr_iload_n hx hb kd_Mo_findReach_2 hl rfl ?_
      refine lv_bipush (v := 64) hx hb kd_Mo_findReach_3 (by decide) ?_
      refine lv_icmp_ge (tgt := 32) hx hb kd_Mo_findReach_5 (by decide) (fun h5 => absurd h5 (zn_ge (n := 64) rfl (by omega) (by decide))) (fun h5 => ?_)
      refine zr_aload_n hx hb kd_Mo_findReach_8 hl rfl ?_
      refine zr_getr hS hK kf_Mo_80 hI ha_MO hs_MO (zL_mo hL1 (k := 24) (by decide) (by decide)) kd_Mo_findReach_9 ?_
      refine zr_iload_n hx hb kd_Mo_findReach_12 hl rfl ?_
      refine zr_aload_n hx hb kd_Mo_findReach_13 hl rfl ?_
      refine zr_iload_n hx hb kd_Mo_findReach_14 hl rfl ?_
      refine lv_bipush (v := 8) hx hb kd_Mo_findReach_15 (by decide) ?_
      refine lv_idiv hx hb kd_Mo_findReach_17 (by decide) ?_
      refine zr_iload_n hx hb kd_Mo_findReach_18 hl rfl ?_
      refine lv_bipush (v := 8) hx hb kd_Mo_findReach_19 (by decide) ?_
      refine lv_irem hx hb kd_Mo_findReach_21 (by decide) ?_
      rw [(zn_d8 q (by omega)).2, (zn_d8 q (by omega)).1]
      refine zr_ci (zr_runV hS hK (c_Mo_feeds l G M1 hL1 (q / 8) (q % 8) (by omega) (by omega)) km_Mo_133 hI ha_MO hs_MO rfl hl.1 (Nat.le_of_ble_eq_true rfl) (by decide) (by decide) kd_Mo_findReach_22 rfl) hI (fun r22 M22 H locs hp22 hI => ?_)
      obtain ⟨hf22, hM22⟩ := hp22
      rw [hM22] at hI
      rw [hfd] at hf22
      refine zr_zast hS hK hI ha_MO_24 hs_MO_24 (vp_in_nI (by omega) (by decide)) kd_Mo_findReach_25 (fun H locs hI => ?_)
      refine zr_iinc hx hb kd_Mo_findReach_26 hl (by decide) rfl rfl (fun ls hl => ?_)
      refine lv_goto (tgt := 2) hx hb kd_Mo_findReach_29 (by decide) ?_
      rw [eq] at hI
      refine ih (q + 1) _ H locs ls (by omega) (zm_only_u ho) (fun i hi => ?_) (by rw [nI_succ]; exact hl) hI
      by_cases e : i = q
      · subst e; rw [zm_ui_at, zn_nar (zt_is_01 hf22)]; exact hf22
      · rw [zm_ui_ne (Or.inr e)]; exact hE i (by omega)
  refine lv_iconst (v := 0) hx hb kd_Mo_findReach_0 (by decide) ?_
  refine zr_istore_n hx hb kd_Mo_findReach_1 hl (by decide) rfl (fun ls hl => ?_)
  exact one 64 0 M _ _ _ (by omega) zm_only_r (fun i hi => absurd hi (by omega)) hl hI
/-- v is the greatest delay of the first n strips that feed s -/
def zg_di (M : zm_T) (s n : Nat) (v : Int) : Prop := 0 ≤ v ∧ (∀ a, a < n → zgf M a s → (M.1 176 a).toInt ≤ v) ∧ (v = 0 ∨ ∃ a, a < n ∧ zgf M a s ∧ v = (M.1 176 a).toInt)
set_option maxRecDepth 100000 in
set_option maxHeartbeats 4000000 in
theorem c_Mo_delayIn (l : Launch) (G : zg_T) (M : zm_T) (hL : zL M.2) (s : Nat) (hs : s < 8) : Met l ky_Mo_delayIn (zr_ws ky_Mo_delayIn kc_Mo_delayIn 4 (some .int)) (zr_rm 1) (va_Pc [.ref (G.2.2.1 + 151), .int (nI s)] (zm_B G 183 zs M)) (va_Qi (fun (r : Int32) (M' : zm_T) => zg_di M s 8 r.toInt ∧ M' = M) (zm_B G 183 zs) (zm_A G)) 0 0 (zm_A G) := by
  refine zr_met (by decide +kernel) (Nat.le_of_ble_eq_true rfl) ?_
  intro p0 e0 s0 m0 below meth c0 ls hS hK hlk hr hl hI
  have hx := hS.1
  have hb := hS.2.1
  have hl : zl_has ls 4 [some (.ref (G.2.2.1 + 151)), some (.int (nI s)), none, none] := hl
  have loop : ∀ (k i : Nat) (v : Int32) (H : Heap) (locs : List Loc) (ls : Array Slot), i + k = 8 → zg_di M s i v.toInt → zl_has ls 4 [some (.ref (G.2.2.1 + 151)), some (.int (nI s)), some (.int v), some (.int (nI i))] → zm_I G 183 zs M s0 H locs → W p0 l e0 (zr_rm 1) s0 m0 ([.ref (G.2.2.1 + 151), .int (nI s)] : List Value).toArray below meth c0 H locs 0 0 (MQ below (va_Qi (fun (r : Int32) (M' : zm_T) => zg_di M s 8 r.toInt ∧ M' = M) (zm_B G 183 zs) (zm_A G)) ([.ref (G.2.2.1 + 151), .int (nI s)] : List Value).toArray s0 0 0 (zm_A G)) (F0 m0 4 ls []) := by
    intro k
    induction k with
    | zero =>
      intro i v H locs ls hi hv hl hI
      obtain rfl : i = 8 := by omega
      refine zr_iload_n hx hb kd_Mo_delayIn_4 hl rfl ?_
      refine lv_bipush (v := 8) hx hb kd_Mo_delayIn_5 (by decide) ?_
      refine lv_icmp_ge (tgt := 46) hx hb kd_Mo_delayIn_7 (by decide) (fun h7 => ?_) (fun h7 => absurd (by decide) h7)
      refine zr_iload_n hx hb kd_Mo_delayIn_46 hl rfl ?_
      exact zr_iret hS hK hlk hr hI kd_Mo_delayIn_47 (⟨hv, rfl⟩)
    | succ k ih =>
      intro i v H locs ls hi hv hl hI
      have ei : (nI i).toNatClampNeg = i := zn_cl (by omega)
      have keep : (¬ zgf M i s ∨ (M.1 176 i).toInt ≤ v.toInt) → zg_di M s (i + 1) v.toInt := fun h => by
        obtain ⟨a1, a2, a3⟩ := hv
        refine ⟨a1, fun a ha hf => ?_, a3.elim Or.inl (fun ⟨a, ha, h⟩ => Or.inr ⟨a, by omega, h⟩)⟩
        by_cases e : a = i
        · subst e; exact h.elim (fun h => absurd hf h) id
        · exact a2 a (by omega) hf
      refine zr_iload_n hx hb kd_Mo_delayIn_4 hl rfl ?_
      refine lv_bipush (v := 8) hx hb kd_Mo_delayIn_5 (by decide) ?_
      refine lv_icmp_ge (tgt := 46) hx hb kd_Mo_delayIn_7 (by decide) (fun h7 => absurd h7 (zn_ge (n := 8) rfl (by omega) (by decide))) (fun h7 => ?_)
      refine zr_aload_n hx hb kd_Mo_delayIn_10 hl rfl ?_
      refine zr_iload_n hx hb kd_Mo_delayIn_11 hl rfl ?_
      refine zr_iload_n hx hb kd_Mo_delayIn_12 hl rfl ?_
      refine zr_ci (zr_runV hS hK (c_Mo_feeds l G M hL i s (by omega) hs) km_Mo_133 hI ha_MO hs_MO rfl hl.1 (Nat.le_of_ble_eq_true rfl) (by decide) (by decide) kd_Mo_delayIn_13 rfl) hI (fun r13 M13 H locs hp13 hI => ?_)
      obtain ⟨hf13, hM13⟩ := hp13
      rw [hM13] at hI
      refine lv_if_eq (tgt := 38) hx hb kd_Mo_delayIn_16 (by decide) (fun h16 => ?_) (fun h16 => ?_)
      · skip
        refine zr_iload_n hx hb kd_Mo_delayIn_38 hl rfl ?_
        refine zr_istore_n hx hb kd_Mo_delayIn_39 hl (by decide) rfl (fun ls hl => ?_)
        refine zr_iinc hx hb kd_Mo_delayIn_40 hl (by decide) rfl rfl (fun ls hl => ?_)
        refine lv_goto (tgt := 4) hx hb kd_Mo_delayIn_43 (by decide) ?_
        refine ih (i + 1) _ H locs ls (by omega) ?_ (by rw [nI_succ]; exact hl) hI
        try rw [ei, Int32.le_iff_toInt_le] at h26
        first
        | exact keep (Or.inl (zt_is_f hf13 h16))
        | exact keep (Or.inr h26)
        | (rw [ei]
           obtain ⟨a1, a2, a3⟩ := hv
           refine ⟨by omega, fun a ha hf => ?_, Or.inr ⟨i, by omega, zt_is_t hf13 h16, rfl⟩⟩
           by_cases e : a = i
           · subst e; exact Int.le_refl _
           · have := a2 a (by omega) hf; omega)
      · skip
        refine zr_aload_n hx hb kd_Mo_delayIn_19 hl rfl ?_
        refine zr_getr hS hK kf_Mo_83 hI ha_MO hs_MO (zL_mo hL (k := 25) (by decide) (by decide)) kd_Mo_delayIn_20 ?_
        refine zr_iload_n hx hb kd_Mo_delayIn_23 hl rfl ?_
        refine zr_iald hS hK hI ha_MO_25 hs_MO_25 (vp_in_nI (by omega) (by decide)) kd_Mo_delayIn_24 ?_
        refine zr_iload_n hx hb kd_Mo_delayIn_25 hl rfl ?_
        refine lv_icmp_le (tgt := 38) hx hb kd_Mo_delayIn_26 (by decide) (fun h26 => ?_) (fun h26 => ?_)
        · skip
          refine zr_iload_n hx hb kd_Mo_delayIn_38 hl rfl ?_
          refine zr_istore_n hx hb kd_Mo_delayIn_39 hl (by decide) rfl (fun ls hl => ?_)
          refine zr_iinc hx hb kd_Mo_delayIn_40 hl (by decide) rfl rfl (fun ls hl => ?_)
          refine lv_goto (tgt := 4) hx hb kd_Mo_delayIn_43 (by decide) ?_
          refine ih (i + 1) _ H locs ls (by omega) ?_ (by rw [nI_succ]; exact hl) hI
          try rw [ei, Int32.le_iff_toInt_le] at h26
          first
          | exact keep (Or.inl (zt_is_f hf13 h16))
          | exact keep (Or.inr h26)
          | (rw [ei]
             obtain ⟨a1, a2, a3⟩ := hv
             refine ⟨by omega, fun a ha hf => ?_, Or.inr ⟨i, by omega, zt_is_t hf13 h16, rfl⟩⟩
             by_cases e : a = i
             · subst e; exact Int.le_refl _
             · have := a2 a (by omega) hf; omega)
        · skip
          refine zr_aload_n hx hb kd_Mo_delayIn_29 hl rfl ?_
          refine zr_getr hS hK kf_Mo_83 hI ha_MO hs_MO (zL_mo hL (k := 25) (by decide) (by decide)) kd_Mo_delayIn_30 ?_
          refine zr_iload_n hx hb kd_Mo_delayIn_33 hl rfl ?_
          refine zr_iald hS hK hI ha_MO_25 hs_MO_25 (vp_in_nI (by omega) (by decide)) kd_Mo_delayIn_34 ?_
          refine lv_goto (tgt := 39) hx hb kd_Mo_delayIn_35 (by decide) ?_
          refine zr_istore_n hx hb kd_Mo_delayIn_39 hl (by decide) rfl (fun ls hl => ?_)
          refine zr_iinc hx hb kd_Mo_delayIn_40 hl (by decide) rfl rfl (fun ls hl => ?_)
          refine lv_goto (tgt := 4) hx hb kd_Mo_delayIn_43 (by decide) ?_
          refine ih (i + 1) _ H locs ls (by omega) ?_ (by rw [nI_succ]; exact hl) hI
          try rw [ei, Int32.le_iff_toInt_le] at h26
          first
          | exact keep (Or.inl (zt_is_f hf13 h16))
          | exact keep (Or.inr h26)
          | (rw [ei]
             obtain ⟨a1, a2, a3⟩ := hv
             refine ⟨by omega, fun a ha hf => ?_, Or.inr ⟨i, by omega, zt_is_t hf13 h16, rfl⟩⟩
             by_cases e : a = i
             · subst e; exact Int.le_refl _
             · have := a2 a (by omega) hf; omega)
  refine lv_iconst (v := 0) hx hb kd_Mo_delayIn_0 (by decide) ?_
  refine zr_istore_n hx hb kd_Mo_delayIn_1 hl (by decide) rfl (fun ls hl => ?_)
  refine lv_iconst (v := 0) hx hb kd_Mo_delayIn_2 (by decide) ?_
  refine zr_istore_n hx hb kd_Mo_delayIn_3 hl (by decide) rfl (fun ls hl => ?_)
  exact loop 8 0 _ _ _ _ (by omega) ⟨by decide, fun a ha => absurd ha (by omega), Or.inl rfl⟩ hl hI
/-- strip s is heard, in the reference; P: who reaches whom -/
def zg_H (M : zm_T) (P : Nat → Nat → Prop) (s : Nat) : Prop := M.1 173 s = 0 ∧ ((∀ i, i < 8 → M.1 174 i = 0) ∨ ¬ M.1 174 s = 0 ∨ ∃ i, i < 8 ∧ ¬ M.1 174 i = 0 ∧ (P s i ∨ P i s))
set_option maxRecDepth 100000 in
set_option maxHeartbeats 4000000 in
theorem c_Mo_isHeard (l : Launch) (G : zg_T) (M : zm_T) (hL : zL M.2) (P : Nat → Nat → Prop) (s : Nat) (hs : s < 8) (hR : zg_R M P) : Met l ky_Mo_isHeard (zr_ws ky_Mo_isHeard kc_Mo_isHeard 5 (some .boolean)) (zr_rm 0) (va_Pc [.ref (G.2.2.1 + 151), .int (nI s)] (zm_B G 183 zs M)) (va_Qi (fun (r : Int32) (M' : zm_T) => zt_is r (zg_H M P s) ∧ M' = M) (zm_B G 183 zs) (zm_A G)) 0 0 (zm_A G) := by
  refine zr_met (by decide +kernel) (Nat.le_of_ble_eq_true rfl) ?_
  intro p0 e0 s0 m0 below meth c0 ls hS hK hlk hr hl hI
  have hx := hS.1
  have hb := hS.2.1
  have hl : zl_has ls 5 [some (.ref (G.2.2.1 + 151)), some (.int (nI s)), none, none, none] := hl
  have es : (nI s).toNatClampNeg = s := zn_cl (by omega)
  have loop : ∀ (k i : Nat) (v w : Int32) (H : Heap) (locs : List Loc) (ls : Array Slot), i + k = 8 → (v = 0 ↔ ∀ j, j < i → M.1 174 j = 0) → (w = 0 ↔ (M.1 174 s = 0 ∧ ∀ j, j < i → ¬ (¬ M.1 174 j = 0 ∧ (P s j ∨ P j s)))) → zl_has ls 5 [some (.ref (G.2.2.1 + 151)), some (.int (nI s)), some (.int v), some (.int w), some (.int (nI i))] → zm_I G 183 zs M s0 H locs → W p0 l e0 (zr_rm 0) s0 m0 ([.ref (G.2.2.1 + 151), .int (nI s)] : List Value).toArray below meth c0 H locs 0 0 (MQ below (va_Qi (fun (r : Int32) (M' : zm_T) => zt_is r (zg_H M P s) ∧ M' = M) (zm_B G 183 zs) (zm_A G)) ([.ref (G.2.2.1 + 151), .int (nI s)] : List Value).toArray s0 0 0 (zm_A G)) (F0 m0 12 ls []) := by
    intro k
    induction k with
    | zero =>
      intro i v w H locs ls hi hv hw hl hI
      obtain rfl : i = 8 := by omega
      have hwx : ¬ w = 0 → (¬ M.1 174 s = 0 ∨ ∃ i, i < 8 ∧ ¬ M.1 174 i = 0 ∧ (P s i ∨ P i s)) := fun h => by
        by_cases h6 : M.1 174 s = 0
        · refine Or.inr (Classical.byContradiction (fun hn => h (hw.mpr ⟨h6, fun j hj g => hn ⟨j, hj, g⟩⟩)))
        · exact Or.inl h6
      refine zr_iload hx hb kd_Mo_isHeard_12 hl rfl ?_
      refine lv_bipush (v := 8) hx hb kd_Mo_isHeard_14 (by decide) ?_
      refine lv_icmp_ge (tgt := 95) hx hb kd_Mo_isHeard_16 (by decide) (fun h16 => ?_) (fun h16 => absurd (by decide) h16)
      refine zr_aload_n hx hb kd_Mo_isHeard_95 hl rfl ?_
      refine zr_getr hS hK kf_Mo_74 hI ha_MO hs_MO (zL_mo hL (k := 22) (by decide) (by decide)) kd_Mo_isHeard_96 ?_
      refine zr_iload_n hx hb kd_Mo_isHeard_99 hl rfl ?_
      refine zr_zald hS hK hI ha_MO_22 hs_MO_22 (vp_in_nI (by omega) (by decide)) kd_Mo_isHeard_100 ?_
      refine lv_if_ne (tgt := 116) hx hb kd_Mo_isHeard_101 (by decide) (fun h101 => ?_) (fun h101 => ?_)
      · skip
        refine lv_iconst (v := 0) hx hb kd_Mo_isHeard_116 (by decide) ?_
        exact zr_zret hS hK hlk hr (by decide) hI kd_Mo_isHeard_117 (⟨by
            rw [es] at h101
            first
            | exact Or.inl ⟨rfl, h101, Or.inl (hv.mp h105)⟩
            | exact Or.inl ⟨rfl, h101, Or.inr (hwx h109)⟩
            | exact Or.inr ⟨rfl, fun g => h101 g.1⟩
            | exact Or.inr ⟨rfl, fun g => g.2.elim (fun g => h105 (hv.mpr g)) (fun g => g.elim (fun g => g (hw.mp h109).1) (fun ⟨i, hi, g⟩ => (hw.mp h109).2 i hi g))⟩, rfl⟩)
      · skip
        refine zr_iload_n hx hb kd_Mo_isHeard_104 hl rfl ?_
        refine lv_if_eq (tgt := 112) hx hb kd_Mo_isHeard_105 (by decide) (fun h105 => ?_) (fun h105 => ?_)
        · skip
          refine lv_iconst (v := 1) hx hb kd_Mo_isHeard_112 (by decide) ?_
          refine lv_goto (tgt := 117) hx hb kd_Mo_isHeard_113 (by decide) ?_
          exact zr_zret hS hK hlk hr (by decide) hI kd_Mo_isHeard_117 (⟨by
              rw [es] at h101
              first
              | exact Or.inl ⟨rfl, h101, Or.inl (hv.mp h105)⟩
              | exact Or.inl ⟨rfl, h101, Or.inr (hwx h109)⟩
              | exact Or.inr ⟨rfl, fun g => h101 g.1⟩
              | exact Or.inr ⟨rfl, fun g => g.2.elim (fun g => h105 (hv.mpr g)) (fun g => g.elim (fun g => g (hw.mp h109).1) (fun ⟨i, hi, g⟩ => (hw.mp h109).2 i hi g))⟩, rfl⟩)
        · skip
          refine zr_iload_n hx hb kd_Mo_isHeard_108 hl rfl ?_
          refine lv_if_eq (tgt := 116) hx hb kd_Mo_isHeard_109 (by decide) (fun h109 => ?_) (fun h109 => ?_)
          · skip
            refine lv_iconst (v := 0) hx hb kd_Mo_isHeard_116 (by decide) ?_
            exact zr_zret hS hK hlk hr (by decide) hI kd_Mo_isHeard_117 (⟨by
                rw [es] at h101
                first
                | exact Or.inl ⟨rfl, h101, Or.inl (hv.mp h105)⟩
                | exact Or.inl ⟨rfl, h101, Or.inr (hwx h109)⟩
                | exact Or.inr ⟨rfl, fun g => h101 g.1⟩
                | exact Or.inr ⟨rfl, fun g => g.2.elim (fun g => h105 (hv.mpr g)) (fun g => g.elim (fun g => g (hw.mp h109).1) (fun ⟨i, hi, g⟩ => (hw.mp h109).2 i hi g))⟩, rfl⟩)
          · skip
            refine lv_iconst (v := 1) hx hb kd_Mo_isHeard_112 (by decide) ?_
            refine lv_goto (tgt := 117) hx hb kd_Mo_isHeard_113 (by decide) ?_
            exact zr_zret hS hK hlk hr (by decide) hI kd_Mo_isHeard_117 (⟨by
                rw [es] at h101
                first
                | exact Or.inl ⟨rfl, h101, Or.inl (hv.mp h105)⟩
                | exact Or.inl ⟨rfl, h101, Or.inr (hwx h109)⟩
                | exact Or.inr ⟨rfl, fun g => h101 g.1⟩
                | exact Or.inr ⟨rfl, fun g => g.2.elim (fun g => h105 (hv.mpr g)) (fun g => g.elim (fun g => g (hw.mp h109).1) (fun ⟨i, hi, g⟩ => (hw.mp h109).2 i hi g))⟩, rfl⟩)
    | succ k ih =>
      intro i v w H locs ls hi hv hw hl hI
      have ei : (nI i).toNatClampNeg = i := zn_cl (by omega)
      have e1 : (8 : Int32) * nI s + nI i = nI (8 * s + i) := by rw [show (8 : Int32) = nI 8 from rfl, zn_mulI, nI_add]
      have e2 : (8 : Int32) * nI i + nI s = nI (8 * i + s) := by rw [show (8 : Int32) = nI 8 from rfl, zn_mulI, nI_add]
      have c1 : (nI (8 * s + i)).toNatClampNeg = 8 * s + i := zn_cl (by omega)
      have c2 : (nI (8 * i + s)).toNatClampNeg = 8 * i + s := zn_cl (by omega)
      have r1 : zt_is (M.1 175 (8 * s + i)) (P s i) := by
        have h := hR (8 * s + i) (by omega)
        rw [show (8 * s + i) / 8 = s by omega, show (8 * s + i) % 8 = i by omega] at h
        exact h
      have r2 : zt_is (M.1 175 (8 * i + s)) (P i s) := by
        have h := hR (8 * i + s) (by omega)
        rw [show (8 * i + s) / 8 = i by omega, show (8 * i + s) % 8 = s by omega] at h
        exact h
      have vs : ∀ x : Int32, (x = 0 ↔ (v = 0 ∧ M.1 174 i = 0)) → (x = 0 ↔ ∀ j, j < i + 1 → M.1 174 j = 0) := fun x hx => hx.trans ⟨fun h j hj => by
        by_cases e : j = i
        · subst e; exact h.2
        · exact hv.mp h.1 j (by omega), fun h => ⟨hv.mpr (fun j hj => h j (by omega)), h i (by omega)⟩⟩
      have ws : ∀ x : Int32, (x = 0 ↔ (w = 0 ∧ ¬ (¬ M.1 174 i = 0 ∧ (P s i ∨ P i s)))) → (x = 0 ↔ (M.1 174 s = 0 ∧ ∀ j, j < i + 1 → ¬ (¬ M.1 174 j = 0 ∧ (P s j ∨ P j s)))) := fun x hx => hx.trans ⟨fun h => ⟨(hw.mp h.1).1, fun j hj => by
        by_cases e : j = i
        · subst e; exact h.2
        · exact (hw.mp h.1).2 j (by omega)⟩, fun h => ⟨hw.mpr ⟨h.1, fun j hj => h.2 j (by omega)⟩, h.2 i (by omega)⟩⟩
      have mid : ∀ (x : Int32) (H : Heap) (locs : List Loc) (ls : Array Slot), (x = 0 ↔ ∀ j, j < i + 1 → M.1 174 j = 0) → zl_has ls 5 [some (.ref (G.2.2.1 + 151)), some (.int (nI s)), some (.int x), some (.int w), some (.int (nI i))] → zm_I G 183 zs M s0 H locs → W p0 l e0 (zr_rm 0) s0 m0 ([.ref (G.2.2.1 + 151), .int (nI s)] : List Value).toArray below meth c0 H locs 0 0 (MQ below (va_Qi (fun (r : Int32) (M' : zm_T) => zt_is r (zg_H M P s) ∧ M' = M) (zm_B G 183 zs) (zm_A G)) ([.ref (G.2.2.1 + 151), .int (nI s)] : List Value).toArray s0 0 0 (zm_A G)) (F0 m0 39 ls []) := by
        intro x H locs ls hx' hl hI
        refine zr_iload_n hx hb kd_Mo_isHeard_39 hl rfl ?_
        refine lv_if_ne (tgt := 83) hx hb kd_Mo_isHeard_40 (by decide) (fun h40 => ?_) (fun h40 => ?_)
        · skip
          refine lv_iconst (v := 1) hx hb kd_Mo_isHeard_83 (by decide) ?_
          refine lv_goto (tgt := 88) hx hb kd_Mo_isHeard_84 (by decide) ?_
          refine zr_istore_n hx hb kd_Mo_isHeard_88 hl (by decide) rfl (fun ls hl => ?_)
          refine zr_iinc hx hb kd_Mo_isHeard_89 hl (by decide) rfl rfl (fun ls hl => ?_)
          refine lv_goto (tgt := 12) hx hb kd_Mo_isHeard_92 (by decide) ?_
          refine ih (i + 1) _ _ H locs ls (by omega) hx' (ws _ ?_) (by rw [nI_succ]; exact hl) hI
          try rw [ei] at h50
          try rw [c1] at h65
          try rw [c2] at h80
          first
          | exact ⟨fun h => absurd h (by decide), fun h => absurd h.1 h40⟩
          | exact ⟨fun _ => ⟨h40, fun g => g.1 h50⟩, fun _ => rfl⟩
          | exact ⟨fun _ => ⟨h40, fun g => g.2.elim (zt_is_f r1 h65) (zt_is_f r2 h80)⟩, fun _ => rfl⟩
          | exact ⟨fun h => absurd h (by decide), fun h => (h.2 ⟨h50, Or.inr (zt_is_t r2 h80)⟩).elim⟩
          | exact ⟨fun h => absurd h (by decide), fun h => (h.2 ⟨h50, Or.inl (zt_is_t r1 h65)⟩).elim⟩
        · skip
          refine zr_aload_n hx hb kd_Mo_isHeard_43 hl rfl ?_
          refine zr_getr hS hK kf_Mo_77 hI ha_MO hs_MO (zL_mo hL (k := 23) (by decide) (by decide)) kd_Mo_isHeard_44 ?_
          refine zr_iload hx hb kd_Mo_isHeard_47 hl rfl ?_
          refine zr_zald hS hK hI ha_MO_23 hs_MO_23 (vp_in_nI (by omega) (by decide)) kd_Mo_isHeard_49 ?_
          refine lv_if_eq (tgt := 87) hx hb kd_Mo_isHeard_50 (by decide) (fun h50 => ?_) (fun h50 => ?_)
          · skip
            refine lv_iconst (v := 0) hx hb kd_Mo_isHeard_87 (by decide) ?_
            refine zr_istore_n hx hb kd_Mo_isHeard_88 hl (by decide) rfl (fun ls hl => ?_)
            refine zr_iinc hx hb kd_Mo_isHeard_89 hl (by decide) rfl rfl (fun ls hl => ?_)
            refine lv_goto (tgt := 12) hx hb kd_Mo_isHeard_92 (by decide) ?_
            refine ih (i + 1) _ _ H locs ls (by omega) hx' (ws _ ?_) (by rw [nI_succ]; exact hl) hI
            try rw [ei] at h50
            try rw [c1] at h65
            try rw [c2] at h80
            first
            | exact ⟨fun h => absurd h (by decide), fun h => absurd h.1 h40⟩
            | exact ⟨fun _ => ⟨h40, fun g => g.1 h50⟩, fun _ => rfl⟩
            | exact ⟨fun _ => ⟨h40, fun g => g.2.elim (zt_is_f r1 h65) (zt_is_f r2 h80)⟩, fun _ => rfl⟩
            | exact ⟨fun h => absurd h (by decide), fun h => (h.2 ⟨h50, Or.inr (zt_is_t r2 h80)⟩).elim⟩
            | exact ⟨fun h => absurd h (by decide), fun h => (h.2 ⟨h50, Or.inl (zt_is_t r1 h65)⟩).elim⟩
          · skip
            refine zr_aload_n hx hb kd_Mo_isHeard_53 hl rfl ?_
            refine zr_getr hS hK kf_Mo_80 hI ha_MO hs_MO (zL_mo hL (k := 24) (by decide) (by decide)) kd_Mo_isHeard_54 ?_
            refine lv_bipush (v := 8) hx hb kd_Mo_isHeard_57 (by decide) ?_
            refine zr_iload_n hx hb kd_Mo_isHeard_59 hl rfl ?_
            refine lv_imul hx hb kd_Mo_isHeard_60 ?_
            refine zr_iload hx hb kd_Mo_isHeard_61 hl rfl ?_
            refine lv_iadd hx hb kd_Mo_isHeard_63 ?_
            rw [e1]
            refine zr_zald hS hK hI ha_MO_24 hs_MO_24 (vp_in_nI (by omega) (by decide)) kd_Mo_isHeard_64 ?_
            refine lv_if_ne (tgt := 83) hx hb kd_Mo_isHeard_65 (by decide) (fun h65 => ?_) (fun h65 => ?_)
            · skip
              refine lv_iconst (v := 1) hx hb kd_Mo_isHeard_83 (by decide) ?_
              refine lv_goto (tgt := 88) hx hb kd_Mo_isHeard_84 (by decide) ?_
              refine zr_istore_n hx hb kd_Mo_isHeard_88 hl (by decide) rfl (fun ls hl => ?_)
              refine zr_iinc hx hb kd_Mo_isHeard_89 hl (by decide) rfl rfl (fun ls hl => ?_)
              refine lv_goto (tgt := 12) hx hb kd_Mo_isHeard_92 (by decide) ?_
              refine ih (i + 1) _ _ H locs ls (by omega) hx' (ws _ ?_) (by rw [nI_succ]; exact hl) hI
              try rw [ei] at h50
              try rw [c1] at h65
              try rw [c2] at h80
              first
              | exact ⟨fun h => absurd h (by decide), fun h => absurd h.1 h40⟩
              | exact ⟨fun _ => ⟨h40, fun g => g.1 h50⟩, fun _ => rfl⟩
              | exact ⟨fun _ => ⟨h40, fun g => g.2.elim (zt_is_f r1 h65) (zt_is_f r2 h80)⟩, fun _ => rfl⟩
              | exact ⟨fun h => absurd h (by decide), fun h => (h.2 ⟨h50, Or.inr (zt_is_t r2 h80)⟩).elim⟩
              | exact ⟨fun h => absurd h (by decide), fun h => (h.2 ⟨h50, Or.inl (zt_is_t r1 h65)⟩).elim⟩
            · skip
              refine zr_aload_n hx hb kd_Mo_isHeard_68 hl rfl ?_
              refine zr_getr hS hK kf_Mo_80 hI ha_MO hs_MO (zL_mo hL (k := 24) (by decide) (by decide)) kd_Mo_isHeard_69 ?_
              refine lv_bipush (v := 8) hx hb kd_Mo_isHeard_72 (by decide) ?_
              refine zr_iload hx hb kd_Mo_isHeard_74 hl rfl ?_
              refine lv_imul hx hb kd_Mo_isHeard_76 ?_
              refine zr_iload_n hx hb kd_Mo_isHeard_77 hl rfl ?_
              refine lv_iadd hx hb kd_Mo_isHeard_78 ?_
              rw [e2]
              refine zr_zald hS hK hI ha_MO_24 hs_MO_24 (vp_in_nI (by omega) (by decide)) kd_Mo_isHeard_79 ?_
              refine lv_if_eq (tgt := 87) hx hb kd_Mo_isHeard_80 (by decide) (fun h80 => ?_) (fun h80 => ?_)
              · skip
                refine lv_iconst (v := 0) hx hb kd_Mo_isHeard_87 (by decide) ?_
                refine zr_istore_n hx hb kd_Mo_isHeard_88 hl (by decide) rfl (fun ls hl => ?_)
                refine zr_iinc hx hb kd_Mo_isHeard_89 hl (by decide) rfl rfl (fun ls hl => ?_)
                refine lv_goto (tgt := 12) hx hb kd_Mo_isHeard_92 (by decide) ?_
                refine ih (i + 1) _ _ H locs ls (by omega) hx' (ws _ ?_) (by rw [nI_succ]; exact hl) hI
                try rw [ei] at h50
                try rw [c1] at h65
                try rw [c2] at h80
                first
                | exact ⟨fun h => absurd h (by decide), fun h => absurd h.1 h40⟩
                | exact ⟨fun _ => ⟨h40, fun g => g.1 h50⟩, fun _ => rfl⟩
                | exact ⟨fun _ => ⟨h40, fun g => g.2.elim (zt_is_f r1 h65) (zt_is_f r2 h80)⟩, fun _ => rfl⟩
                | exact ⟨fun h => absurd h (by decide), fun h => (h.2 ⟨h50, Or.inr (zt_is_t r2 h80)⟩).elim⟩
                | exact ⟨fun h => absurd h (by decide), fun h => (h.2 ⟨h50, Or.inl (zt_is_t r1 h65)⟩).elim⟩
              · skip
                refine lv_iconst (v := 1) hx hb kd_Mo_isHeard_83 (by decide) ?_
                refine lv_goto (tgt := 88) hx hb kd_Mo_isHeard_84 (by decide) ?_
                refine zr_istore_n hx hb kd_Mo_isHeard_88 hl (by decide) rfl (fun ls hl => ?_)
                refine zr_iinc hx hb kd_Mo_isHeard_89 hl (by decide) rfl rfl (fun ls hl => ?_)
                refine lv_goto (tgt := 12) hx hb kd_Mo_isHeard_92 (by decide) ?_
                refine ih (i + 1) _ _ H locs ls (by omega) hx' (ws _ ?_) (by rw [nI_succ]; exact hl) hI
                try rw [ei] at h50
                try rw [c1] at h65
                try rw [c2] at h80
                first
                | exact ⟨fun h => absurd h (by decide), fun h => absurd h.1 h40⟩
                | exact ⟨fun _ => ⟨h40, fun g => g.1 h50⟩, fun _ => rfl⟩
                | exact ⟨fun _ => ⟨h40, fun g => g.2.elim (zt_is_f r1 h65) (zt_is_f r2 h80)⟩, fun _ => rfl⟩
                | exact ⟨fun h => absurd h (by decide), fun h => (h.2 ⟨h50, Or.inr (zt_is_t r2 h80)⟩).elim⟩
                | exact ⟨fun h => absurd h (by decide), fun h => (h.2 ⟨h50, Or.inl (zt_is_t r1 h65)⟩).elim⟩
      refine zr_iload hx hb kd_Mo_isHeard_12 hl rfl ?_
      refine lv_bipush (v := 8) hx hb kd_Mo_isHeard_14 (by decide) ?_
      refine lv_icmp_ge (tgt := 95) hx hb kd_Mo_isHeard_16 (by decide) (fun h16 => absurd h16 (zn_ge (n := 8) rfl (by omega) (by decide))) (fun h16 => ?_)
      refine zr_iload_n hx hb kd_Mo_isHeard_19 hl rfl ?_
      refine lv_if_ne (tgt := 33) hx hb kd_Mo_isHeard_20 (by decide) (fun h20 => ?_) (fun h20 => ?_)
      · skip
        refine lv_iconst (v := 1) hx hb kd_Mo_isHeard_33 (by decide) ?_
        refine lv_goto (tgt := 38) hx hb kd_Mo_isHeard_34 (by decide) ?_
        refine zr_istore_n hx hb kd_Mo_isHeard_38 hl (by decide) rfl (fun ls hl => ?_)
        refine mid _ H locs ls (vs _ ?_) hl hI
        try rw [ei] at h30
        first
        | exact ⟨fun _ => ⟨h20, h30⟩, fun _ => rfl⟩
        | exact ⟨fun h => absurd h (by decide), fun h => absurd h.1 h20⟩
        | exact ⟨fun h => absurd h (by decide), fun h => absurd h.2 h30⟩
      · skip
        refine zr_aload_n hx hb kd_Mo_isHeard_23 hl rfl ?_
        refine zr_getr hS hK kf_Mo_77 hI ha_MO hs_MO (zL_mo hL (k := 23) (by decide) (by decide)) kd_Mo_isHeard_24 ?_
        refine zr_iload hx hb kd_Mo_isHeard_27 hl rfl ?_
        refine zr_zald hS hK hI ha_MO_23 hs_MO_23 (vp_in_nI (by omega) (by decide)) kd_Mo_isHeard_29 ?_
        refine lv_if_eq (tgt := 37) hx hb kd_Mo_isHeard_30 (by decide) (fun h30 => ?_) (fun h30 => ?_)
        · skip
          refine lv_iconst (v := 0) hx hb kd_Mo_isHeard_37 (by decide) ?_
          refine zr_istore_n hx hb kd_Mo_isHeard_38 hl (by decide) rfl (fun ls hl => ?_)
          refine mid _ H locs ls (vs _ ?_) hl hI
          try rw [ei] at h30
          first
          | exact ⟨fun _ => ⟨h20, h30⟩, fun _ => rfl⟩
          | exact ⟨fun h => absurd h (by decide), fun h => absurd h.1 h20⟩
          | exact ⟨fun h => absurd h (by decide), fun h => absurd h.2 h30⟩
        · skip
          refine lv_iconst (v := 1) hx hb kd_Mo_isHeard_33 (by decide) ?_
          refine lv_goto (tgt := 38) hx hb kd_Mo_isHeard_34 (by decide) ?_
          refine zr_istore_n hx hb kd_Mo_isHeard_38 hl (by decide) rfl (fun ls hl => ?_)
          refine mid _ H locs ls (vs _ ?_) hl hI
          try rw [ei] at h30
          first
          | exact ⟨fun _ => ⟨h20, h30⟩, fun _ => rfl⟩
          | exact ⟨fun h => absurd h (by decide), fun h => absurd h.1 h20⟩
          | exact ⟨fun h => absurd h (by decide), fun h => absurd h.2 h30⟩
  refine lv_iconst (v := 0) hx hb kd_Mo_isHeard_0 (by decide) ?_
  refine zr_istore_n hx hb kd_Mo_isHeard_1 hl (by decide) rfl (fun ls hl => ?_)
  refine zr_aload_n hx hb kd_Mo_isHeard_2 hl rfl ?_
  refine zr_getr hS hK kf_Mo_77 hI ha_MO hs_MO (zL_mo hL (k := 23) (by decide) (by decide)) kd_Mo_isHeard_3 ?_
  refine zr_iload_n hx hb kd_Mo_isHeard_6 hl rfl ?_
  refine zr_zald hS hK hI ha_MO_23 hs_MO_23 (vp_in_nI (by omega) (by decide)) kd_Mo_isHeard_7 ?_
  refine zr_istore_n hx hb kd_Mo_isHeard_8 hl (by decide) rfl (fun ls hl => ?_)
  refine lv_iconst (v := 0) hx hb kd_Mo_isHeard_9 (by decide) ?_
  refine zr_istore hx hb kd_Mo_isHeard_10 hl (by decide) rfl (fun ls hl => ?_)
  refine loop 8 0 _ _ _ _ _ (by omega) ⟨fun _ j hj => absurd hj (by omega), fun _ => rfl⟩ ?_ hl hI
  rw [es]
  exact ⟨fun h => ⟨h, fun j hj => absurd hj (by omega)⟩, fun h => h.1⟩

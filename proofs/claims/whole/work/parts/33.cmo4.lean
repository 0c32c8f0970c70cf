/-! The reference: a clip's samples, a track's row, the limiter. -/
set_option maxRecDepth 100000 in
set_option maxHeartbeats 4000000 in
theorem c_Mo_size (l : Launch) (G : zg_T) (M : zm_T) (hL : zL M.2) (t : Nat) (ht : t < 1024) (hb0 : -2147483648 < (M.1 179 t).toInt) : Met l ky_Mo_size (zr_ws ky_Mo_size kc_Mo_size 2 (some .long)) (zr_rm 0) (va_Pc [.ref (G.2.2.1 + 151), .int (nI t)] (zm_B G 183 zs M)) (va_Ql (fun (r : Int64) (M' : zm_T) => r.toInt = ze_abs (M.1 179 t).toInt ∧ M' = M) (zm_B G 183 zs) (zm_A G)) 0 0 (zm_A G) := by
  refine zr_met (by decide +kernel) (Nat.le_of_ble_eq_true rfl) ?_
  intro p0 e0 s0 m0 below meth c0 ls hS hK hlk hr hl hI
  have hx := hS.1
  have hb := hS.2.1
  have hl : zl_has ls 2 [some (.ref (G.2.2.1 + 151)), some (.int (nI t))] := hl
  have et : (nI t).toNatClampNeg = t := zn_cl (by omega)
  refine zr_aload_n hx hb kd_Mo_size_0 hl rfl ?_
  refine zr_getr hS hK kf_Mo_92 hI ha_MO hs_MO (zL_mo hL (k := 28) (by decide) (by decide)) kd_Mo_size_1 ?_
  refine zr_iload_n hx hb kd_Mo_size_4 hl rfl ?_
  refine zr_iald hS hK hI ha_MO_28 hs_MO_28 (vp_in_nI (by omega) (by decide)) kd_Mo_size_5 ?_
  refine lv_if_ge (tgt := 20) hx hb kd_Mo_size_6 (by decide) (fun h6 => ?_) (fun h6 => ?_)
  · skip
    refine zr_aload_n hx hb kd_Mo_size_20 hl rfl ?_
    refine zr_getr hS hK kf_Mo_92 hI ha_MO hs_MO (zL_mo hL (k := 28) (by decide) (by decide)) kd_Mo_size_21 ?_
    refine zr_iload_n hx hb kd_Mo_size_24 hl rfl ?_
    refine zr_iald hS hK hI ha_MO_28 hs_MO_28 (vp_in_nI (by omega) (by decide)) kd_Mo_size_25 ?_
    refine lv_i2l hx hb kd_Mo_size_26 rfl ?_
    exact zr_lret hS hK hlk hr hI kd_Mo_size_27 (⟨by
        rw [et] at *
        rw [Int32.toInt_toInt64]
        rw [Int32.le_iff_toInt_le, zn_0] at h6
        have h6' : 0 ≤ (M.1 179 t).toInt ∨ ¬ 0 ≤ (M.1 179 t).toInt := Decidable.em _
        show _ = (if (M.1 179 t).toInt < 0 then -(M.1 179 t).toInt else (M.1 179 t).toInt)
        first
        | (rw [if_neg (Int.not_lt.mpr h6)]; done)
        | (rw [if_pos (Int.not_le.mp h6)]; exact zn_neg hb0), rfl⟩)
  · skip
    refine zr_aload_n hx hb kd_Mo_size_9 hl rfl ?_
    refine zr_getr hS hK kf_Mo_92 hI ha_MO hs_MO (zL_mo hL (k := 28) (by decide) (by decide)) kd_Mo_size_10 ?_
    refine zr_iload_n hx hb kd_Mo_size_13 hl rfl ?_
    refine zr_iald hS hK hI ha_MO_28 hs_MO_28 (vp_in_nI (by omega) (by decide)) kd_Mo_size_14 ?_
    refine lv_ineg hx hb kd_Mo_size_15 ?_
    refine lv_i2l hx hb kd_Mo_size_16 rfl ?_
    refine lv_goto (tgt := 27) hx hb kd_Mo_size_17 (by decide) ?_
    exact zr_lret hS hK hlk hr hI kd_Mo_size_27 (⟨by
        rw [et] at *
        rw [Int32.toInt_toInt64]
        rw [Int32.le_iff_toInt_le, zn_0] at h6
        have h6' : 0 ≤ (M.1 179 t).toInt ∨ ¬ 0 ≤ (M.1 179 t).toInt := Decidable.em _
        show _ = (if (M.1 179 t).toInt < 0 then -(M.1 179 t).toInt else (M.1 179 t).toInt)
        first
        | (rw [if_neg (Int.not_lt.mpr h6)]; done)
        | (rw [if_pos (Int.not_le.mp h6)]; exact zn_neg hb0), rfl⟩)
theorem ze_max_ext {x : Nat → Int} {t : Nat} : ∀ {n k : Nat} {M : Int}, t < k → ze_max (fun d => ze_abs (ze_back x t d)) k M → ze_max (fun d => ze_abs (ze_back x t d)) (k + n) M
  | 0, _, _, _, h => h
  | n + 1, k, M, hk, h => by
    have h1 := ze_max_ext (n := n) hk h
    obtain ⟨a1, a2, a3⟩ := h1
    refine ⟨a1, fun i hi => ?_, a3.elim Or.inl (fun ⟨i, hi, e⟩ => Or.inr ⟨i, by omega, e⟩)⟩
    by_cases e : i < k + n
    · exact a2 i e
    · have : ze_back x t i = 0 := by unfold ze_back; rw [if_neg (by omega)]
      dsimp only
      rw [this]
      exact a1
set_option maxRecDepth 100000 in
set_option maxHeartbeats 4000000 in
theorem c_Mo_limited (l : Launch) (G : zg_T) (M : zm_T) (hL : zL M.2) (t q : Nat) (pv : Int32) (ht : t < 1024) (hq : q ≤ 16) (hp1 : 1 ≤ pv.toInt) (hp2 : pv.toInt ≤ 100000) (hw : ∀ j, j ≤ t → -16777216 ≤ (M.1 179 j).toInt ∧ (M.1 179 j).toInt ≤ 16777216) : Met l ky_Mo_limited (zr_ws ky_Mo_limited kc_Mo_limited 8 (some .long)) (zr_rm 1) (va_Pc [.ref (G.2.2.1 + 151), .int (nI t), .int pv, .int (nI q)] (zm_B G 183 zs M)) (va_Ql (fun (r : Int64) (M' : zm_T) => (∃ mx, ze_max (fun d => ze_abs (ze_back (fun j => (M.1 179 j).toInt) t d)) (q + 1) mx ∧ r.toInt = ze_lim pv.toInt (ze_back (fun j => (M.1 179 j).toInt) t q) mx) ∧ M' = M) (zm_B G 183 zs) (zm_A G)) 0 0 (zm_A G) := by
  refine zr_met (by decide +kernel) (Nat.le_of_ble_eq_true rfl) ?_
  intro p0 e0 s0 m0 below meth c0 ls hS hK hlk hr hl hI
  have hx := hS.1
  have hb := hS.2.1
  have hl : zl_has ls 8 [some (.ref (G.2.2.1 + 151)), some (.int (nI t)), some (.int pv), some (.int (nI q)), none, none, none, none] := hl
  have fin : ∀ (mx : Int64) (H : Heap) (locs : List Loc) (ls : Array Slot) (o6 : Option Value), ze_max (fun d => ze_abs (ze_back (fun j => (M.1 179 j).toInt) t d)) (q + 1) mx.toInt → zl_has ls 8 [some (.ref (G.2.2.1 + 151)), some (.int (nI t)), some (.int pv), some (.int (nI q)), some (.long mx), none, o6, none] → zm_I G 183 zs M s0 H locs → W p0 l e0 (zr_rm 1) s0 m0 ([.ref (G.2.2.1 + 151), .int (nI t), .int pv, .int (nI q)] : List Value).toArray below meth c0 H locs 0 0 (MQ below (va_Ql (fun (r : Int64) (M' : zm_T) => (∃ mx, ze_max (fun d => ze_abs (ze_back (fun j => (M.1 179 j).toInt) t d)) (q + 1) mx ∧ r.toInt = ze_lim pv.toInt (ze_back (fun j => (M.1 179 j).toInt) t q) mx) ∧ M' = M) (zm_B G 183 zs) (zm_A G)) ([.ref (G.2.2.1 + 151), .int (nI t), .int pv, .int (nI q)] : List Value).toArray s0 0 0 (zm_A G)) (F0 m0 53 ls []) := by
    intro mx H locs ls o6 hmx hl hI
    have hz : ∀ z : Int64, z.toInt = ze_back (fun j => (M.1 179 j).toInt) t q → (lg_cmp mx pv.toInt64 ≤ 0 → z.toInt = ze_lim pv.toInt (ze_back (fun j => (M.1 179 j).toInt) t q) mx.toInt) ∧ (¬ lg_cmp mx pv.toInt64 ≤ 0 → ¬ mx = 0 ∧ (z * pv.toInt64 / mx).toInt = ze_lim pv.toInt (ze_back (fun j => (M.1 179 j).toInt) t q) mx.toInt) := fun z ez => by
      rw [lg_cmp_le, Int64.le_iff_toInt_le, Int32.toInt_toInt64, ← ez]
      unfold ze_lim
      refine ⟨fun h => by rw [if_pos h], fun h => ?_⟩
      have h0 : ¬ mx = 0 := fun e => by rw [e, show (0 : Int64).toInt = 0 from by decide] at h; omega
      refine ⟨h0, ?_⟩
      have hb1 : -16777216 ≤ z.toInt ∧ z.toInt ≤ 16777216 := by
        rw [ez]; unfold ze_back
        split
        · exact hw _ (by omega)
        · omega
      have hm := zn_abs_mul (a := 16777216) (b := 100000) (by omega) hb1.2 (show 0 ≤ pv.toInt by omega) hp2
      rw [if_neg h, Int64.toInt_div_of_ne_right _ _ (fun e => by rw [e, show (-1 : Int64).toInt = -1 from by decide] at h; omega), zn_lmul] <;> rw [Int32.toInt_toInt64] <;> omega
    have z0 : ¬ nI q ≤ nI t → (0 : Int64).toInt = ze_back (fun j => (M.1 179 j).toInt) t q := fun h => by
      unfold ze_back
      rw [if_neg (fun g => h (nI_le g (by omega)))]; rfl
    have z1 : nI q ≤ nI t → vp_in (nI t - nI q) 1024 ∧ (M.1 179 (nI t - nI q).toNatClampNeg).toInt64.toInt = ze_back (fun j => (M.1 179 j).toInt) t q := fun h => by
      have hqt : q ≤ t := Nat.le_of_not_lt (fun g => nI_ge g (by omega) h)
      unfold ze_back
      rw [if_pos hqt, pk_sub hqt, zn_cl (by omega), Int32.toInt_toInt64]
      exact ⟨vp_in_nI (by omega) (by decide), rfl⟩
    refine zr_iload_n hx hb kd_Mo_limited_53 hl rfl ?_
    refine zr_iload_n hx hb kd_Mo_limited_54 hl rfl ?_
    refine lv_icmp_ge (tgt := 62) hx hb kd_Mo_limited_55 (by decide) (fun h55 => ?_) (fun h55 => ?_)
    · skip
      refine zr_aload_n hx hb kd_Mo_limited_62 hl rfl ?_
      refine zr_getr hS hK kf_Mo_92 hI ha_MO hs_MO (zL_mo hL (k := 28) (by decide) (by decide)) kd_Mo_limited_63 ?_
      refine zr_iload_n hx hb kd_Mo_limited_66 hl rfl ?_
      refine zr_iload_n hx hb kd_Mo_limited_67 hl rfl ?_
      refine lv_isub hx hb kd_Mo_limited_68 ?_
      refine zr_iald hS hK hI ha_MO_28 hs_MO_28 (z1 h55).1 kd_Mo_limited_69 ?_
      refine lv_i2l hx hb kd_Mo_limited_70 rfl ?_
      refine zr_lstore hx hb kd_Mo_limited_71 hl (by decide) rfl (fun ls hl => ?_)
      refine zr_lload hx hb kd_Mo_limited_73 hl rfl ?_
      refine zr_iload_n hx hb kd_Mo_limited_75 hl rfl ?_
      refine lv_i2l hx hb kd_Mo_limited_76 rfl ?_
      refine W.lcmp hx hb kd_Mo_limited_77 ?_
      refine lv_if_gt (tgt := 86) hx hb kd_Mo_limited_78 (by decide) (fun h78 => ?_) (fun h78 => ?_)
      · skip
        refine zr_lload hx hb kd_Mo_limited_86 hl rfl ?_
        refine zr_iload_n hx hb kd_Mo_limited_88 hl rfl ?_
        refine lv_i2l hx hb kd_Mo_limited_89 rfl ?_
        refine lv_lmul hx hb kd_Mo_limited_90 ?_
        refine zr_lload hx hb kd_Mo_limited_91 hl rfl ?_
        refine lv_ldiv hx hb kd_Mo_limited_93 (((hz _ (by first | exact (z1 h55).2 | exact z0 h55)).2 (Int32.not_le.mpr h78)).1) ?_
        exact zr_lret hS hK hlk hr hI kd_Mo_limited_94 (⟨⟨mx.toInt, hmx, by
            first
            | exact (hz _ (z1 h55).2).1 (Int32.not_lt.mp h78)
            | exact (hz _ (z0 h55)).1 (Int32.not_lt.mp h78)
            | exact ((hz _ (z1 h55).2).2 (Int32.not_le.mpr h78)).2
            | exact ((hz _ (z0 h55)).2 (Int32.not_le.mpr h78)).2⟩, rfl⟩)
      · skip
        refine zr_lload hx hb kd_Mo_limited_81 hl rfl ?_
        refine lv_goto (tgt := 94) hx hb kd_Mo_limited_83 (by decide) ?_
        exact zr_lret hS hK hlk hr hI kd_Mo_limited_94 (⟨⟨mx.toInt, hmx, by
            first
            | exact (hz _ (z1 h55).2).1 (Int32.not_lt.mp h78)
            | exact (hz _ (z0 h55)).1 (Int32.not_lt.mp h78)
            | exact ((hz _ (z1 h55).2).2 (Int32.not_le.mpr h78)).2
            | exact ((hz _ (z0 h55)).2 (Int32.not_le.mpr h78)).2⟩, rfl⟩)
    · skip
      refine lv_lconst (v := 0) hx hb kd_Mo_limited_58 (by decide) ?_
      refine lv_goto (tgt := 71) hx hb kd_Mo_limited_59 (by decide) ?_
      refine zr_lstore hx hb kd_Mo_limited_71 hl (by decide) rfl (fun ls hl => ?_)
      refine zr_lload hx hb kd_Mo_limited_73 hl rfl ?_
      refine zr_iload_n hx hb kd_Mo_limited_75 hl rfl ?_
      refine lv_i2l hx hb kd_Mo_limited_76 rfl ?_
      refine W.lcmp hx hb kd_Mo_limited_77 ?_
      refine lv_if_gt (tgt := 86) hx hb kd_Mo_limited_78 (by decide) (fun h78 => ?_) (fun h78 => ?_)
      · skip
        refine zr_lload hx hb kd_Mo_limited_86 hl rfl ?_
        refine zr_iload_n hx hb kd_Mo_limited_88 hl rfl ?_
        refine lv_i2l hx hb kd_Mo_limited_89 rfl ?_
        refine lv_lmul hx hb kd_Mo_limited_90 ?_
        refine zr_lload hx hb kd_Mo_limited_91 hl rfl ?_
        refine lv_ldiv hx hb kd_Mo_limited_93 (((hz _ (by first | exact (z1 h55).2 | exact z0 h55)).2 (Int32.not_le.mpr h78)).1) ?_
        exact zr_lret hS hK hlk hr hI kd_Mo_limited_94 (⟨⟨mx.toInt, hmx, by
            first
            | exact (hz _ (z1 h55).2).1 (Int32.not_lt.mp h78)
            | exact (hz _ (z0 h55)).1 (Int32.not_lt.mp h78)
            | exact ((hz _ (z1 h55).2).2 (Int32.not_le.mpr h78)).2
            | exact ((hz _ (z0 h55)).2 (Int32.not_le.mpr h78)).2⟩, rfl⟩)
      · skip
        refine zr_lload hx hb kd_Mo_limited_81 hl rfl ?_
        refine lv_goto (tgt := 94) hx hb kd_Mo_limited_83 (by decide) ?_
        exact zr_lret hS hK hlk hr hI kd_Mo_limited_94 (⟨⟨mx.toInt, hmx, by
            first
            | exact (hz _ (z1 h55).2).1 (Int32.not_lt.mp h78)
            | exact (hz _ (z0 h55)).1 (Int32.not_lt.mp h78)
            | exact ((hz _ (z1 h55).2).2 (Int32.not_le.mpr h78)).2
            | exact ((hz _ (z0 h55)).2 (Int32.not_le.mpr h78)).2⟩, rfl⟩)
  have loop : ∀ (n k : Nat) (mx : Int64) (H : Heap) (locs : List Loc) (ls : Array Slot), k + n = q + 1 → ze_max (fun d => ze_abs (ze_back (fun j => (M.1 179 j).toInt) t d)) k mx.toInt → zl_has ls 8 [some (.ref (G.2.2.1 + 151)), some (.int (nI t)), some (.int pv), some (.int (nI q)), some (.long mx), none, some (.int (nI k)), none] → zm_I G 183 zs M s0 H locs → W p0 l e0 (zr_rm 1) s0 m0 ([.ref (G.2.2.1 + 151), .int (nI t), .int pv, .int (nI q)] : List Value).toArray below meth c0 H locs 0 0 (MQ below (va_Ql (fun (r : Int64) (M' : zm_T) => (∃ mx, ze_max (fun d => ze_abs (ze_back (fun j => (M.1 179 j).toInt) t d)) (q + 1) mx ∧ r.toInt = ze_lim pv.toInt (ze_back (fun j => (M.1 179 j).toInt) t q) mx) ∧ M' = M) (zm_B G 183 zs) (zm_A G)) ([.ref (G.2.2.1 + 151), .int (nI t), .int pv, .int (nI q)] : List Value).toArray s0 0 0 (zm_A G)) (F0 m0 6 ls []) := by
    intro n
    induction n with
    | zero =>
      intro k mx H locs ls hk hmx hl hI
      obtain rfl : k = q + 1 := by omega
      refine zr_iload hx hb kd_Mo_limited_6 hl rfl ?_
      refine zr_iload_n hx hb kd_Mo_limited_8 hl rfl ?_
      refine lv_icmp_gt (tgt := 53) hx hb kd_Mo_limited_9 (by decide) (fun h9 => ?_) (fun h9 => absurd (nI_lt (by omega) (by omega)) h9)
      exact fin mx H locs ls _ hmx hl hI
    | succ n ih =>
      intro k mx H locs ls hk hmx hl hI
      have tk : ¬ nI t < nI k → k ≤ t := fun h => Nat.le_of_not_lt (fun g => h (nI_lt g (by omega)))
      have tk' : nI t < nI k → t < k := fun h => Nat.lt_of_not_le (fun g => nI_nlt g (by omega) h)
      have hc : k ≤ t → nI t - nI k = nI (t - k) := fun h => pk_sub h
      have hb1 : k ≤ t → -2147483648 < (M.1 179 (t - k)).toInt := fun h => by have := hw (t - k) (by omega); omega
      have hs : k ≤ t → ∀ r : Int64, r.toInt = ze_abs (M.1 179 (t - k)).toInt → (lg_cmp r mx ≤ 0 → ze_max (fun d => ze_abs (ze_back (fun j => (M.1 179 j).toInt) t d)) (k + 1) mx.toInt) ∧ (¬ lg_cmp r mx ≤ 0 → ze_max (fun d => ze_abs (ze_back (fun j => (M.1 179 j).toInt) t d)) (k + 1) (ze_abs (M.1 179 (t - k)).toInt)) := fun h r hr1 => by
        have h1 := ze_max_s hmx
        have e : ze_back (fun j => (M.1 179 j).toInt) t k = (M.1 179 (t - k)).toInt := if_pos h
        try dsimp only at h1
        rw [e, ← hr1] at h1
        rw [lg_cmp_le, Int64.le_iff_toInt_le, ← hr1]
        refine ⟨fun g => ?_, fun g => ?_⟩
        · rw [if_neg (by omega)] at h1; exact h1
        · rw [if_pos (by omega)] at h1; exact h1
      refine zr_iload hx hb kd_Mo_limited_6 hl rfl ?_
      refine zr_iload_n hx hb kd_Mo_limited_8 hl rfl ?_
      refine lv_icmp_gt (tgt := 53) hx hb kd_Mo_limited_9 (by decide) (fun h9 => absurd h9 (nI_nlt (by omega) (by omega))) (fun h9 => ?_)
      refine zr_iload hx hb kd_Mo_limited_12 hl rfl ?_
      refine zr_iload_n hx hb kd_Mo_limited_14 hl rfl ?_
      refine lv_icmp_gt (tgt := 53) hx hb kd_Mo_limited_15 (by decide) (fun h15 => ?_) (fun h15 => ?_)
      · skip
        refine fin mx H locs ls _ ?_ hl hI
        have := ze_max_ext (n := q + 1 - k) (tk' h15) hmx
        rw [show k + (q + 1 - k) = q + 1 by omega] at this
        exact this
      · skip
        refine zr_aload_n hx hb kd_Mo_limited_18 hl rfl ?_
        refine zr_iload_n hx hb kd_Mo_limited_19 hl rfl ?_
        refine zr_iload hx hb kd_Mo_limited_20 hl rfl ?_
        refine lv_isub hx hb kd_Mo_limited_22 ?_
        have hkt := tk h15
        rw [hc hkt]
        refine zr_cl (zr_runV hS hK (c_Mo_size l G M hL (t - k) (by omega) (hb1 hkt)) km_Mo_163 hI ha_MO hs_MO rfl hl.1 (Nat.le_of_ble_eq_true rfl) (by decide) (by decide) kd_Mo_limited_23 rfl) hI (fun r23 M23 H locs hp23 hI => ?_)
        obtain ⟨hr23, hM23⟩ := hp23
        rw [hM23] at hI
        refine zr_lload hx hb kd_Mo_limited_26 hl rfl ?_
        refine W.lcmp hx hb kd_Mo_limited_28 ?_
        refine lv_if_le (tgt := 43) hx hb kd_Mo_limited_29 (by decide) (fun h29 => ?_) (fun h29 => ?_)
        · skip
          refine zr_lload hx hb kd_Mo_limited_43 hl rfl ?_
          refine zr_lstore hx hb kd_Mo_limited_45 hl (by decide) rfl (fun ls hl => ?_)
          refine zr_iinc hx hb kd_Mo_limited_47 hl (by decide) rfl rfl (fun ls hl => ?_)
          refine lv_goto (tgt := 6) hx hb kd_Mo_limited_50 (by decide) ?_
          first
          | exact ih (k + 1) _ H locs ls (by omega) ((hs hkt _ hr23).1 h29) (by rw [nI_succ]; exact hl) hI
          | exact ih (k + 1) _ H locs ls (by omega) (by rw [hr37]; exact (hs hkt _ hr23).2 h29) (by rw [nI_succ]; exact hl) hI
        · skip
          refine zr_aload_n hx hb kd_Mo_limited_32 hl rfl ?_
          refine zr_iload_n hx hb kd_Mo_limited_33 hl rfl ?_
          refine zr_iload hx hb kd_Mo_limited_34 hl rfl ?_
          refine lv_isub hx hb kd_Mo_limited_36 ?_
          rw [hc hkt]
          refine zr_cl (zr_runV hS hK (c_Mo_size l G M hL (t - k) (by omega) (hb1 hkt)) km_Mo_163 hI ha_MO hs_MO rfl hl.1 (Nat.le_of_ble_eq_true rfl) (by decide) (by decide) kd_Mo_limited_37 rfl) hI (fun r37 M37 H locs hp37 hI => ?_)
          obtain ⟨hr37, hM37⟩ := hp37
          rw [hM37] at hI
          refine lv_goto (tgt := 45) hx hb kd_Mo_limited_40 (by decide) ?_
          refine zr_lstore hx hb kd_Mo_limited_45 hl (by decide) rfl (fun ls hl => ?_)
          refine zr_iinc hx hb kd_Mo_limited_47 hl (by decide) rfl rfl (fun ls hl => ?_)
          refine lv_goto (tgt := 6) hx hb kd_Mo_limited_50 (by decide) ?_
          first
          | exact ih (k + 1) _ H locs ls (by omega) ((hs hkt _ hr23).1 h29) (by rw [nI_succ]; exact hl) hI
          | exact ih (k + 1) _ H locs ls (by omega) (by rw [hr37]; exact (hs hkt _ hr23).2 h29) (by rw [nI_succ]; exact hl) hI
  refine lv_lconst (v := 0) hx hb kd_Mo_limited_0 (by decide) ?_
  refine zr_lstore hx hb kd_Mo_limited_1 hl (by decide) rfl (fun ls hl => ?_)
  refine lv_iconst (v := 0) hx hb kd_Mo_limited_3 (by decide) ?_
  refine zr_istore hx hb kd_Mo_limited_4 hl (by decide) rfl (fun ls hl => ?_)
  exact loop (q + 1) 0 _ _ _ _ (by omega) (ze_max_0 _) hl hI

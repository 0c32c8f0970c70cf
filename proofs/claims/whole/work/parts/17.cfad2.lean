/-! A fader's level at a time; a point put. -/
def zF_M (M : zm_T) (a bT bL bJ n : Nat) : Prop := M.1 a 3 = nI n ∧ zF_V n (fun i => (M.1 bT i).toInt) (fun i => (M.1 bL i).toInt) (fun i => (M.1 bJ i).toInt) (M.1 a 4).toInt
def zF_L (M : zm_T) (a bT bL bJ n : Nat) (t v : Int) : Prop := zF_lev n (fun i => (M.1 bT i).toInt) (fun i => (M.1 bL i).toInt) (fun i => (M.1 bJ i).toInt) (M.1 a 4).toInt t v
theorem zn_1 : (1 : Int32).toInt = 1 := by decide
theorem zn_0 : (0 : Int32).toInt = 0 := by decide
theorem nI_inj {i j : Nat} (h : nI i = nI j) (hi : i < 2147483648) (hj : j < 2147483648) : i = j := (nI_eq hi hj).mp h
set_option maxRecDepth 100000 in
set_option maxHeartbeats 4000000 in
theorem c_Fa_levelAt (l : Launch) (G : zg_T) (nc : Nat) (sh : Nat → Nat × Nat) (M : zm_T) (a bT bL bJ n t : Nat) (ha_a : a < nc) (hs_a : sh a = (10 + 3, 0)) (hv_a_0 : M.2.1 a 0 = some bT) (ha_a_0 : bT < nc) (hs_a_0 : sh bT = (0, 8)) (hv_a_1 : M.2.1 a 1 = some bL) (ha_a_1 : bL < nc) (hs_a_1 : sh bL = (0, 8)) (hv_a_2 : M.2.1 a 2 = some bJ) (ha_a_2 : bJ < nc) (hs_a_2 : sh bJ = (1, 8)) (hF : zF_M M a bT bL bJ n) (ht : t < 1024) : Met l ky_Fa_levelAt (zr_ws ky_Fa_levelAt kc_Fa_levelAt 5 (some .int)) (zr_rm 1) (va_Pc [.ref (G.2.2.1 + a), .int (nI t)] (zm_B G nc sh M)) (va_Qi (fun (r : Int32) (M' : zm_T) => zF_L M a bT bL bJ n t r.toInt ∧ M' = M) (zm_B G nc sh) (zm_A G)) 0 0 (zm_A G) := by
  refine zr_met (by decide +kernel) (Nat.le_of_ble_eq_true rfl) ?_
  intro p0 e0 s0 m0 below meth c0 ls hS hK hlk hr hl hI
  have hx := hS.1
  have hb := hS.2.1
  have hl : zl_has ls 5 [some (.ref (G.2.2.1 + a)), some (.int (nI t)), none, none, none] := hl
  obtain ⟨hn, v1, v2, v3, v4, v5, v6, v7⟩ := hF
  have v2 : ∀ i, i < n → 0 ≤ (M.1 bT i).toInt ∧ (M.1 bT i).toInt ≤ 1023 := v2
  have v3 : ∀ i j, i < j → j < n → (M.1 bT i).toInt < (M.1 bT j).toInt := v3
  have v4 : ∀ i, i < n → 0 ≤ (M.1 bL i).toInt ∧ (M.1 bL i).toInt ≤ 1024 := v4
  have v5 : ∀ i, i < n → (M.1 bJ i).toInt = 0 ∨ (M.1 bJ i).toInt = 1 := v5
  have et : (nI t + 1).toInt = t + 1 := by rw [← nI_succ]; rw [nI_toInt (by omega)]; rfl
  refine zr_aload_n hx hb kd_Fa_levelAt_0 hl rfl ?_
  refine zr_geti hS hK kf_Fa_30 hI ha_a hs_a kd_Fa_levelAt_1 ?_
  refine lv_if_ne (tgt := 12) hx hb kd_Fa_levelAt_4 (by decide) (fun h4 => ?_) (fun h4 => ?_)
  · skip
    refine zr_aload_n hx hb kd_Fa_levelAt_12 hl rfl ?_
    refine zr_iload_n hx hb kd_Fa_levelAt_13 hl rfl ?_
    refine lv_iconst (v := 1) hx hb kd_Fa_levelAt_14 (by decide) ?_
    refine lv_iadd hx hb kd_Fa_levelAt_15 ?_
    refine zr_ci (zr_runV hS hK (c_Fa_firstNotBefore l G nc sh M a bT n _ ha_a hs_a hv_a_0 ha_a_0 hs_a_0 hn v1) km_Fa_26 hI ha_a hs_a rfl hl.1 (Nat.le_of_ble_eq_true rfl) (by decide) (by decide) kd_Fa_levelAt_16 rfl) hI (fun r16 M16 H locs hp16 hI => ?_)
    obtain ⟨⟨c, rfl, hc1, hc2, hc3⟩, hM16⟩ := hp16
    rw [hM16] at hI
    have hn0 : 0 < n := by
      have : n ≠ 0 := fun h => h4 (by rw [hn, h]; rfl)
      omega
    have hc2 : ∀ i, i < c → (M.1 bT i).toInt ≤ t := fun i hi => by
      have := Int32.lt_iff_toInt_lt.mp (hc2 i hi)
      rw [et] at this; omega
    have hc3 : ∀ i, c ≤ i → i < n → (t : Int) < (M.1 bT i).toInt := fun i hi hin => by
      have h1 := Int32.le_iff_toInt_le.mp (hc3 (by omega))
      rw [et] at h1
      by_cases h2 : c = i
      · subst h2; omega
      · have := v3 c i (by omega) hin; omega
    refine zr_istore_n hx hb kd_Fa_levelAt_19 hl (by decide) rfl (fun ls hl => ?_)
    refine zr_iload_n hx hb kd_Fa_levelAt_20 hl rfl ?_
    refine lv_if_ne (tgt := 31) hx hb kd_Fa_levelAt_21 (by decide) (fun h21 => ?_) (fun h21 => ?_)
    · skip
      have hc0 : c ≠ 0 := fun h => h21 (by rw [h]; rfl)
      obtain ⟨d, rfl⟩ : ∃ d, c = d + 1 := ⟨c - 1, by omega⟩
      have ed : (nI (d + 1) - 1).toNatClampNeg = d := by rw [nI_pred]; exact zn_cl (by omega)
      have vd : vp_in (nI (d + 1) - 1) 8 := by rw [nI_pred]; exact vp_in_nI (by omega) (by decide)
      have ec : (nI (d + 1)).toNatClampNeg = d + 1 := zn_cl (by omega)
      refine zr_iload_n hx hb kd_Fa_levelAt_31 hl rfl ?_
      refine lv_iconst (v := 1) hx hb kd_Fa_levelAt_32 (by decide) ?_
      refine lv_isub hx hb kd_Fa_levelAt_33 ?_
      refine zr_istore_n hx hb kd_Fa_levelAt_34 hl (by decide) rfl (fun ls hl => ?_)
      refine zr_aload_n hx hb kd_Fa_levelAt_35 hl rfl ?_
      refine zr_getr hS hK kf_Fa_18 hI ha_a hs_a hv_a_2 kd_Fa_levelAt_36 ?_
      refine zr_iload_n hx hb kd_Fa_levelAt_39 hl rfl ?_
      refine zr_zald hS hK hI ha_a_2 hs_a_2 vd kd_Fa_levelAt_40 ?_
      refine lv_if_eq (tgt := 52) hx hb kd_Fa_levelAt_41 (by decide) (fun h41 => ?_) (fun h41 => ?_)
      · skip
        refine zr_aload_n hx hb kd_Fa_levelAt_52 hl rfl ?_
        refine zr_getr hS hK kf_Fa_15 hI ha_a hs_a hv_a_1 kd_Fa_levelAt_53 ?_
        refine zr_iload_n hx hb kd_Fa_levelAt_56 hl rfl ?_
        refine zr_iald hS hK hI ha_a_1 hs_a_1 vd kd_Fa_levelAt_57 ?_
        exact zr_iret hS hK hlk hr hI kd_Fa_levelAt_58 (⟨Or.inr ⟨hn0, d + 1, hc1, hc2, hc3, by
            rw [if_neg (by omega), if_pos (by first | exact Or.inl (by rw [ed] at h41; show (M.1 bJ d).toInt = 0; rw [h41]; rfl) | exact Or.inr (nI_inj (by rw [← hn]; exact h49) (by omega) (by omega)))]
            rw [ed]; rfl⟩, rfl⟩)
      · skip
        refine zr_iload_n hx hb kd_Fa_levelAt_44 hl rfl ?_
        refine zr_aload_n hx hb kd_Fa_levelAt_45 hl rfl ?_
        refine zr_geti hS hK kf_Fa_30 hI ha_a hs_a kd_Fa_levelAt_46 ?_
        refine lv_icmp_ne (tgt := 59) hx hb kd_Fa_levelAt_49 (by decide) (fun h49 => ?_) (fun h49 => ?_)
        · skip
          have hdn : d + 1 < n := by
            have : d + 1 ≠ n := fun h => h49 (by rw [hn, h])
            omega
          have vc : vp_in (nI (d + 1)) 8 := vp_in_nI (by omega) (by decide)
          have hTT := v3 d (d + 1) (by omega) hdn
          have t1 := v2 d (by omega)
          have t2 := v2 (d + 1) hdn
          have l1 := v4 d (by omega)
          have l2 := v4 (d + 1) hdn
          have g1 := hc2 d (by omega)
          have g2 := hc3 (d + 1) (Nat.le_refl _) hdn
          have j1 := v5 d (by omega)
          refine zr_aload_n hx hb kd_Fa_levelAt_59 hl rfl ?_
          refine zr_getr hS hK kf_Fa_15 hI ha_a hs_a hv_a_1 kd_Fa_levelAt_60 ?_
          refine zr_iload_n hx hb kd_Fa_levelAt_63 hl rfl ?_
          refine zr_iald hS hK hI ha_a_1 hs_a_1 vc kd_Fa_levelAt_64 ?_
          refine zr_aload_n hx hb kd_Fa_levelAt_65 hl rfl ?_
          refine zr_getr hS hK kf_Fa_15 hI ha_a hs_a hv_a_1 kd_Fa_levelAt_66 ?_
          refine zr_iload_n hx hb kd_Fa_levelAt_69 hl rfl ?_
          refine zr_iald hS hK hI ha_a_1 hs_a_1 vd kd_Fa_levelAt_70 ?_
          refine lv_isub hx hb kd_Fa_levelAt_71 ?_
          refine zr_istore hx hb kd_Fa_levelAt_72 hl (by decide) rfl (fun ls hl => ?_)
          refine zr_aload_n hx hb kd_Fa_levelAt_74 hl rfl ?_
          refine zr_getr hS hK kf_Fa_15 hI ha_a hs_a hv_a_1 kd_Fa_levelAt_75 ?_
          refine zr_iload_n hx hb kd_Fa_levelAt_78 hl rfl ?_
          refine zr_iald hS hK hI ha_a_1 hs_a_1 vd kd_Fa_levelAt_79 ?_
          refine zr_iload hx hb kd_Fa_levelAt_80 hl rfl ?_
          refine zr_iload_n hx hb kd_Fa_levelAt_82 hl rfl ?_
          refine zr_aload_n hx hb kd_Fa_levelAt_83 hl rfl ?_
          refine zr_getr hS hK kf_Fa_9 hI ha_a hs_a hv_a_0 kd_Fa_levelAt_84 ?_
          refine zr_iload_n hx hb kd_Fa_levelAt_87 hl rfl ?_
          refine zr_iald hS hK hI ha_a_0 hs_a_0 vd kd_Fa_levelAt_88 ?_
          refine lv_isub hx hb kd_Fa_levelAt_89 ?_
          refine lv_imul hx hb kd_Fa_levelAt_90 ?_
          refine zr_aload_n hx hb kd_Fa_levelAt_91 hl rfl ?_
          refine zr_getr hS hK kf_Fa_9 hI ha_a hs_a hv_a_0 kd_Fa_levelAt_92 ?_
          refine zr_iload_n hx hb kd_Fa_levelAt_95 hl rfl ?_
          refine zr_iald hS hK hI ha_a_0 hs_a_0 vc kd_Fa_levelAt_96 ?_
          refine zr_aload_n hx hb kd_Fa_levelAt_97 hl rfl ?_
          refine zr_getr hS hK kf_Fa_9 hI ha_a hs_a hv_a_0 kd_Fa_levelAt_98 ?_
          refine zr_iload_n hx hb kd_Fa_levelAt_101 hl rfl ?_
          refine zr_iald hS hK hI ha_a_0 hs_a_0 vd kd_Fa_levelAt_102 ?_
          refine lv_isub hx hb kd_Fa_levelAt_103 ?_
          rw [ec, ed]
          have q1 : (M.1 bT (d + 1) - M.1 bT d).toInt = (M.1 bT (d + 1)).toInt - (M.1 bT d).toInt := zn_sub (by omega) (by omega)
          have q2 : (M.1 bL (d + 1) - M.1 bL d).toInt = (M.1 bL (d + 1)).toInt - (M.1 bL d).toInt := zn_sub (by omega) (by omega)
          have q3 : (nI t - M.1 bT d).toInt = t - (M.1 bT d).toInt := by
            rw [zn_sub] <;> rw [nI_toInt (by omega)] <;> omega
          have q4 := zn_abs_mul (x := (M.1 bL (d + 1)).toInt - (M.1 bL d).toInt) (y := (t : Int) - (M.1 bT d).toInt) (a := 1024) (b := 1023) (by omega) (by omega) (by omega) (by omega)
          have q5 : ((M.1 bL (d + 1) - M.1 bL d) * (nI t - M.1 bT d)).toInt = ((M.1 bL (d + 1)).toInt - (M.1 bL d).toInt) * (t - (M.1 bT d).toInt) := by
            rw [zn_mul] <;> rw [q2, q3] <;> omega
          refine zr_ci (zr_runS hS hK (c_Ma_floorDiv l G nc sh M _ _ (by intro h; have := congrArg Int32.toInt h; rw [q1, zn_0] at this; omega)) km_Fa_37 hI rfl hl.1 (Nat.le_of_ble_eq_true rfl) (by decide) (by decide) kd_Fa_levelAt_104 rfl) hI (fun r104 M104 H locs hp104 hI => ?_)
          obtain ⟨rfl, hM104⟩ := hp104
          rw [hM104] at hI
          refine lv_iadd hx hb kd_Fa_levelAt_107 ?_
          exact zr_iret hS hK hlk hr hI kd_Fa_levelAt_108 (⟨Or.inr ⟨hn0, d + 1, hc1, hc2, hc3, by
              have hj : ¬ ((M.1 bJ (d + 1 - 1)).toInt = 0 ∨ d + 1 = n) := by
                rintro (h | h)
                · rw [ed] at h41
                  exact h41 (Int32.toInt_inj.mp (by rw [zn_0]; exact h))
                · omega
              rw [if_neg (by omega), if_neg hj]
              have hb := zF_between (r := (M.1 bL (d + 1)).toInt - (M.1 bL d).toInt) (t := (t : Int) - (M.1 bT d).toInt) (d := (M.1 bT (d + 1)).toInt - (M.1 bT d).toInt) (by omega) (by omega) (by omega)
              have q6 : (zf_fd ((M.1 bL (d + 1) - M.1 bL d) * (nI t - M.1 bT d)) (M.1 bT (d + 1) - M.1 bT d)).toInt = ((M.1 bL (d + 1)).toInt - (M.1 bL d).toInt) * (t - (M.1 bT d).toInt) / ((M.1 bT (d + 1)).toInt - (M.1 bT d).toInt) := by
                rw [zf_fd_eq (by rw [q1]; omega), q5, q1]
              rw [zn_add] <;> rw [q6]
              · rfl
              · by_cases hr : 0 ≤ (M.1 bL (d + 1)).toInt - (M.1 bL d).toInt
                · have := hb.1 hr; omega
                · have := hb.2 (by omega); omega
              · by_cases hr : 0 ≤ (M.1 bL (d + 1)).toInt - (M.1 bL d).toInt
                · have := hb.1 hr; omega
                · have := hb.2 (by omega); omega⟩, rfl⟩)
        · skip
          refine zr_aload_n hx hb kd_Fa_levelAt_52 hl rfl ?_
          refine zr_getr hS hK kf_Fa_15 hI ha_a hs_a hv_a_1 kd_Fa_levelAt_53 ?_
          refine zr_iload_n hx hb kd_Fa_levelAt_56 hl rfl ?_
          refine zr_iald hS hK hI ha_a_1 hs_a_1 vd kd_Fa_levelAt_57 ?_
          exact zr_iret hS hK hlk hr hI kd_Fa_levelAt_58 (⟨Or.inr ⟨hn0, d + 1, hc1, hc2, hc3, by
              rw [if_neg (by omega), if_pos (by first | exact Or.inl (by rw [ed] at h41; show (M.1 bJ d).toInt = 0; rw [h41]; rfl) | exact Or.inr (nI_inj (by rw [← hn]; exact h49) (by omega) (by omega)))]
              rw [ed]; rfl⟩, rfl⟩)
    · skip
      refine zr_aload_n hx hb kd_Fa_levelAt_24 hl rfl ?_
      refine zr_getr hS hK kf_Fa_15 hI ha_a hs_a hv_a_1 kd_Fa_levelAt_25 ?_
      refine lv_iconst (v := 0) hx hb kd_Fa_levelAt_28 (by decide) ?_
      refine zr_iald hS hK hI ha_a_1 hs_a_1 (vp_in_iff.mpr (by decide)) kd_Fa_levelAt_29 ?_
      exact zr_iret hS hK hlk hr hI kd_Fa_levelAt_30 (⟨Or.inr ⟨hn0, c, hc1, hc2, hc3, by rw [if_pos (nI_inj h21 (by omega) (by decide))]; rfl⟩, rfl⟩)
  · skip
    refine zr_aload_n hx hb kd_Fa_levelAt_7 hl rfl ?_
    refine zr_geti hS hK kf_Fa_22 hI ha_a hs_a kd_Fa_levelAt_8 ?_
    exact zr_iret hS hK hlk hr hI kd_Fa_levelAt_11 (⟨Or.inl ⟨nI_inj (by rw [← hn]; exact h4) (by omega) (by decide), rfl⟩, rfl⟩)
/-- what a point's putting leaves: c the place, rp: one of the same time is replaced -/
def zF_put (M M' : zm_T) (a bT bL bJ n c : Nat) (t lv jn : Int32) : Prop :=
  M'.2 = M.2 ∧ (∀ b k, b ≠ bT → b ≠ bL → b ≠ bJ → (b ≠ a ∨ k ≠ 3) → M'.1 b k = M.1 b k) ∧
  ((c < n ∧ M.1 bT c = t ∧ M'.1 a 3 = nI n ∧ ∀ i, M'.1 bT i = (if i = c then t else M.1 bT i) ∧ M'.1 bL i = (if i = c then lv else M.1 bL i) ∧ M'.1 bJ i = (if i = c then jn else M.1 bJ i)) ∨
   (¬ (c < n ∧ M.1 bT c = t) ∧ n < 8 ∧ M'.1 a 3 = nI (n + 1) ∧ ∀ i, i ≤ n → M'.1 bT i = (if i < c then M.1 bT i else if i = c then t else M.1 bT (i - 1)) ∧ M'.1 bL i = (if i < c then M.1 bL i else if i = c then lv else M.1 bL (i - 1)) ∧ M'.1 bJ i = (if i < c then M.1 bJ i else if i = c then jn else M.1 bJ (i - 1))))
theorem zF_sh_i {M : zm_T} {bT bL bJ b c n i : Nat} (hb : b = bT ∨ b = bL ∨ b = bJ) (hi : i ≤ n) : (zF_sh M bT bL bJ c n).1 b i = if i < c then M.1 b i else if i = c then M.1 b i else M.1 b (i - 1) := by
  unfold zF_sh
  show (if (b = bT ∨ b = bL ∨ b = bJ) ∧ c < i ∧ i ≤ n then M.1 b (i - 1) else M.1 b i) = _
  by_cases h1 : i < c
  · rw [if_neg (by omega), if_pos h1]
  · rw [if_neg h1]
    by_cases h2 : i = c
    · rw [if_neg (by omega), if_pos h2]
    · rw [if_neg h2, if_pos ⟨hb, by omega, hi⟩]
theorem zm_ui3 {M : zm_T} {bT bL bJ c : Nat} {t lv jn : Int32} (d4 : bT ≠ bL) (d5 : bT ≠ bJ) (d6 : bL ≠ bJ) (i : Nat) :
    (zm_ui (zm_ui (zm_ui M bT c t) bL c lv) bJ c jn).1 bT i = (if i = c then t else M.1 bT i) ∧ (zm_ui (zm_ui (zm_ui M bT c t) bL c lv) bJ c jn).1 bL i = (if i = c then lv else M.1 bL i) ∧ (zm_ui (zm_ui (zm_ui M bT c t) bL c lv) bJ c jn).1 bJ i = (if i = c then jn else M.1 bJ i) := by
  have d4' := Ne.symm d4
  have d5' := Ne.symm d5
  have d6' := Ne.symm d6
  refine ⟨?_, ?_, ?_⟩ <;> simp [zm_ui, d4, d5, d6, d4', d5', d6']
set_option maxRecDepth 100000 in
set_option maxHeartbeats 4000000 in
theorem c_Fa_put (l : Launch) (G : zg_T) (nc : Nat) (sh : Nat → Nat × Nat) (M : zm_T) (a bT bL bJ n : Nat) (t lv jn : Int32) (ha_a : a < nc) (hs_a : sh a = (10 + 3, 0)) (hv_a_0 : M.2.1 a 0 = some bT) (ha_a_0 : bT < nc) (hs_a_0 : sh bT = (0, 8)) (hv_a_1 : M.2.1 a 1 = some bL) (ha_a_1 : bL < nc) (hs_a_1 : sh bL = (0, 8)) (hv_a_2 : M.2.1 a 2 = some bJ) (ha_a_2 : bJ < nc) (hs_a_2 : sh bJ = (1, 8)) (hd : a ≠ bT ∧ a ≠ bL ∧ a ≠ bJ ∧ bT ≠ bL ∧ bT ≠ bJ ∧ bL ≠ bJ) (hn : M.1 a 3 = nI n) (hn8 : n ≤ 8) (hJ : ∀ i, i < n → M.1 bJ i = 0 ∨ M.1 bJ i = 1) (hj : jn = 0 ∨ jn = 1) : Met l ky_Fa_put (zr_ws ky_Fa_put kc_Fa_put 6 (some .boolean)) (zr_rm 1) (va_Pc [.ref (G.2.2.1 + a), .int t, .int lv, .int jn] (zm_B G nc sh M)) (va_Qi (fun (r : Int32) (M' : zm_T) => ∃ c : Nat, c ≤ n ∧ (∀ i, i < c → M.1 bT i < t) ∧ (c < n → t ≤ M.1 bT c) ∧ ((r = 0 ∧ M' = M ∧ n = 8 ∧ ¬ (c < n ∧ M.1 bT c = t)) ∨ (r = 1 ∧ zF_put M M' a bT bL bJ n c t lv jn))) (zm_B G nc sh) (zm_A G)) 0 0 (zm_A G) := by
  refine zr_met (by decide +kernel) (Nat.le_of_ble_eq_true rfl) ?_
  intro p0 e0 s0 m0 below meth c0 ls hS hK hlk hr hl hI
  have hx := hS.1
  have hb := hS.2.1
  have hl : zl_has ls 6 [some (.ref (G.2.2.1 + a)), some (.int t), some (.int lv), some (.int jn), none, none] := hl
  obtain ⟨d1, d2, d3, d4, d5, d6⟩ := hd
  have d1' := Ne.symm d1
  have d2' := Ne.symm d2
  have d3' := Ne.symm d3
  have tail : ∀ (c : Nat) (M1 : zm_T) (rp : Int32) (H : Heap) (locs : List Loc) (ls : Array Slot), c < 8 → c ≤ n → (∀ i, i < c → M.1 bT i < t) → (c < n → t ≤ M.1 bT c) → M1.2 = M.2 → zF_put M (zm_ui (zm_ui (zm_ui M1 bT c t) bL c lv) bJ c jn) a bT bL bJ n c t lv jn → zl_has ls 6 [some (.ref (G.2.2.1 + a)), some (.int t), some (.int lv), some (.int jn), some (.int (nI c)), some (.int rp)] → zm_I G nc sh M1 s0 H locs → W p0 l e0 (zr_rm 1) s0 m0 ([.ref (G.2.2.1 + a), .int t, .int lv, .int jn] : List Value).toArray below meth c0 H locs 0 0 (MQ below (va_Qi (fun (r : Int32) (M' : zm_T) => ∃ c : Nat, c ≤ n ∧ (∀ i, i < c → M.1 bT i < t) ∧ (c < n → t ≤ M.1 bT c) ∧ ((r = 0 ∧ M' = M ∧ n = 8 ∧ ¬ (c < n ∧ M.1 bT c = t)) ∨ (r = 1 ∧ zF_put M M' a bT bL bJ n c t lv jn))) (zm_B G nc sh) (zm_A G)) ([.ref (G.2.2.1 + a), .int t, .int lv, .int jn] : List Value).toArray s0 0 0 (zm_A G)) (F0 m0 61 ls []) := by
    intro c M1 rp H locs ls hc8 hc1 hc2 hc3 h2 hput hl hI
    have ec : (nI c).toNatClampNeg = c := zn_cl (by omega)
    rw [← h2] at hv_a_0 hv_a_1 hv_a_2
    have vc : vp_in (nI c) 8 := vp_in_nI hc8 (by decide)
    refine zr_aload_n hx hb kd_Fa_put_61 hl rfl ?_
    refine zr_getr hS hK kf_Fa_9 hI ha_a hs_a hv_a_0 kd_Fa_put_62 ?_
    refine zr_iload hx hb kd_Fa_put_65 hl rfl ?_
    refine zr_iload_n hx hb kd_Fa_put_67 hl rfl ?_
    refine zr_iast hS hK hI ha_a_0 hs_a_0 vc kd_Fa_put_68 (fun H locs hI => ?_)
    refine zr_aload_n hx hb kd_Fa_put_69 hl rfl ?_
    refine zr_getr hS hK kf_Fa_15 hI ha_a hs_a hv_a_1 kd_Fa_put_70 ?_
    refine zr_iload hx hb kd_Fa_put_73 hl rfl ?_
    refine zr_iload_n hx hb kd_Fa_put_75 hl rfl ?_
    refine zr_iast hS hK hI ha_a_1 hs_a_1 vc kd_Fa_put_76 (fun H locs hI => ?_)
    refine zr_aload_n hx hb kd_Fa_put_77 hl rfl ?_
    refine zr_getr hS hK kf_Fa_18 hI ha_a hs_a hv_a_2 kd_Fa_put_78 ?_
    refine zr_iload hx hb kd_Fa_put_81 hl rfl ?_
    refine zr_iload_n hx hb kd_Fa_put_83 hl rfl ?_
    refine zr_zast hS hK hI ha_a_2 hs_a_2 vc kd_Fa_put_84 (fun H locs hI => ?_)
    refine lv_iconst (v := 1) hx hb kd_Fa_put_85 (by decide) ?_
    exact zr_zret hS hK hlk hr (by decide) hI kd_Fa_put_86 (⟨c, hc1, hc2, hc3, Or.inr ⟨rfl, by rw [ec, zn_bool hj]; exact hput⟩⟩)
  have back : ∀ (c : Nat) (rp : Int32) (H : Heap) (locs : List Loc) (ls : Array Slot), c ≤ n → (∀ i, i < c → M.1 bT i < t) → (c < n → t ≤ M.1 bT c) → (rp = 1 ∧ (c < n ∧ M.1 bT c = t) ∨ rp = 0 ∧ ¬ (c < n ∧ M.1 bT c = t)) → zl_has ls 6 [some (.ref (G.2.2.1 + a)), some (.int t), some (.int lv), some (.int jn), some (.int (nI c)), none] → zm_I G nc sh M s0 H locs → W p0 l e0 (zr_rm 1) s0 m0 ([.ref (G.2.2.1 + a), .int t, .int lv, .int jn] : List Value).toArray below meth c0 H locs 0 0 (MQ below (va_Qi (fun (r : Int32) (M' : zm_T) => ∃ c : Nat, c ≤ n ∧ (∀ i, i < c → M.1 bT i < t) ∧ (c < n → t ≤ M.1 bT c) ∧ ((r = 0 ∧ M' = M ∧ n = 8 ∧ ¬ (c < n ∧ M.1 bT c = t)) ∨ (r = 1 ∧ zF_put M M' a bT bL bJ n c t lv jn))) (zm_B G nc sh) (zm_A G)) ([.ref (G.2.2.1 + a), .int t, .int lv, .int jn] : List Value).toArray s0 0 0 (zm_A G)) (F0 m0 32 ls [.int rp]) := by
    intro c rp H locs ls hc1 hc2 hc3 hrp hl hI
    rcases hrp with ⟨rfl, hrq⟩ | ⟨rfl, hrq⟩
    · refine zr_istore hx hb kd_Fa_put_32 hl (by decide) rfl (fun ls hl => ?_)
      refine zr_iload hx hb kd_Fa_put_34 hl rfl ?_
      refine lv_if_ne (tgt := 50) hx hb kd_Fa_put_36 (by decide) (fun h36 => ?_) (fun h36 => absurd h36 (by decide))
      refine zr_iload hx hb kd_Fa_put_50 hl rfl ?_
      refine lv_if_ne (tgt := 61) hx hb kd_Fa_put_52 (by decide) (fun h52 => ?_) (fun h52 => absurd h52 (by decide))
      refine tail c M 1 H locs ls (by omega) hc1 hc2 hc3 rfl ?_ hl hI
      have h3 := zm_ui3 (M := M) (c := c) (t := t) (lv := lv) (jn := jn) d4 d5 d6
      refine ⟨rfl, fun b k b1 b2 b3 _ => by rw [zm_ui_ne (Or.inl b3), zm_ui_ne (Or.inl b2), zm_ui_ne (Or.inl b1)], Or.inl ⟨hrq.1, hrq.2, ?_, h3⟩⟩
      rw [zm_ui_ne (Or.inl d3), zm_ui_ne (Or.inl d2), zm_ui_ne (Or.inl d1), hn]
    · refine zr_istore hx hb kd_Fa_put_32 hl (by decide) rfl (fun ls hl => ?_)
      refine zr_iload hx hb kd_Fa_put_34 hl rfl ?_
      refine lv_if_ne (tgt := 50) hx hb kd_Fa_put_36 (by decide) (fun h36 => absurd (by decide) h36) (fun h36 => ?_)
      refine zr_aload_n hx hb kd_Fa_put_39 hl rfl ?_
      refine zr_geti hS hK kf_Fa_30 hI ha_a hs_a kd_Fa_put_40 ?_
      refine lv_bipush (v := 8) hx hb kd_Fa_put_43 (by decide) ?_
      refine lv_icmp_ne (tgt := 50) hx hb kd_Fa_put_45 (by decide) (fun h45 => ?_) (fun h45 => ?_)
      · skip
        refine zr_iload hx hb kd_Fa_put_50 hl rfl ?_
        refine lv_if_ne (tgt := 61) hx hb kd_Fa_put_52 (by decide) (fun h52 => absurd (by decide) h52) (fun h52 => ?_)
        refine zr_aload_n hx hb kd_Fa_put_55 hl rfl ?_
        refine zr_iload hx hb kd_Fa_put_56 hl rfl ?_
        have hn7' : n ≠ 8 := fun h => h45 (by rw [hn, h]; rfl)
        have hn7 : n < 8 := by omega
        refine zr_cv (zr_runV hS hK (c_Fa_openGap l G nc sh M a bT bL bJ n c ha_a hs_a hv_a_0 ha_a_0 hs_a_0 hv_a_1 ha_a_1 hs_a_1 hv_a_2 ha_a_2 hs_a_2 ⟨d1, d2, d3, d4, d5, d6⟩ hn hn7 hc1 hJ) km_Fa_33 hI ha_a hs_a rfl hl.1 (Nat.le_of_ble_eq_true rfl) (by decide) (by decide) kd_Fa_put_58 rfl) hI (fun M58 H locs hp58 hI => ?_)
        rw [hp58] at hI
        refine tail c (zm_ui (zF_sh M bT bL bJ c n) a 3 (nI (n + 1))) 0 H locs ls (by omega) hc1 hc2 hc3 rfl ?_ hl hI
        have h3 := zm_ui3 (M := zm_ui (zF_sh M bT bL bJ c n) a 3 (nI (n + 1))) (c := c) (t := t) (lv := lv) (jn := jn) d4 d5 d6
        refine ⟨rfl, fun b k b1 b2 b3 hk => ?_, Or.inr ⟨hrq, hn7, ?_, fun i hi => ?_⟩⟩
        · rw [zm_ui_ne (Or.inl b3), zm_ui_ne (Or.inl b2), zm_ui_ne (Or.inl b1), zm_ui_ne hk]
          unfold zF_sh
          exact if_neg (fun h => by rcases h.1 with h | h | h; exact b1 h; exact b2 h; exact b3 h)
        · rw [zm_ui_ne (Or.inl d3), zm_ui_ne (Or.inl d2), zm_ui_ne (Or.inl d1), zm_ui_at]
        · obtain ⟨g1, g2, g3⟩ := h3 i
          rw [g1, g2, g3, zm_ui_ne (Or.inl d1'), zm_ui_ne (Or.inl d2'), zm_ui_ne (Or.inl d3'), zF_sh_i (Or.inl rfl) hi, zF_sh_i (Or.inr (Or.inl rfl)) hi, zF_sh_i (Or.inr (Or.inr rfl)) hi]
          by_cases hic : i = c
          · subst hic; simp
          · simp [hic]
      · skip
        refine lv_iconst (v := 0) hx hb kd_Fa_put_48 (by decide) ?_
        exact zr_zret hS hK hlk hr (by decide) hI kd_Fa_put_49 (⟨c, hc1, hc2, hc3, Or.inl ⟨rfl, rfl, nI_inj (by rw [← hn]; exact h45) (by omega) (by decide), hrq⟩⟩)
  refine zr_aload_n hx hb kd_Fa_put_0 hl rfl ?_
  refine zr_iload_n hx hb kd_Fa_put_1 hl rfl ?_
  refine zr_ci (zr_runV hS hK (c_Fa_firstNotBefore l G nc sh M a bT n _ ha_a hs_a hv_a_0 ha_a_0 hs_a_0 hn hn8) km_Fa_26 hI ha_a hs_a rfl hl.1 (Nat.le_of_ble_eq_true rfl) (by decide) (by decide) kd_Fa_put_2 rfl) hI (fun r2 M2 H locs hp2 hI => ?_)
  obtain ⟨⟨c, rfl, hc1, hc2, hc3⟩, hM2⟩ := hp2
  rw [hM2] at hI
  have ec : (nI c).toNatClampNeg = c := zn_cl (by omega)
  refine zr_istore hx hb kd_Fa_put_5 hl (by decide) rfl (fun ls hl => ?_)
  refine zr_iload hx hb kd_Fa_put_7 hl rfl ?_
  refine zr_aload_n hx hb kd_Fa_put_9 hl rfl ?_
  refine zr_geti hS hK kf_Fa_30 hI ha_a hs_a kd_Fa_put_10 ?_
  refine lv_icmp_ge (tgt := 31) hx hb kd_Fa_put_13 (by decide) (fun h13 => ?_) (fun h13 => ?_)
  · skip
    refine lv_iconst (v := 0) hx hb kd_Fa_put_31 (by decide) ?_
    rw [hn] at h13
    first
      | exact back c _ H locs ls hc1 hc2 hc3 (Or.inl ⟨rfl, Nat.lt_of_not_le (fun g => h13 (nI_le g (by omega))), by rw [ec] at h24; exact h24⟩) hl hI
      | exact back c _ H locs ls hc1 hc2 hc3 (Or.inr ⟨rfl, fun g => h24 (by rw [ec]; exact g.2)⟩) hl hI
      | exact back c _ H locs ls hc1 hc2 hc3 (Or.inr ⟨rfl, fun g => nI_ge g.1 (by omega) h13⟩) hl hI
  · skip
    refine zr_aload_n hx hb kd_Fa_put_16 hl rfl ?_
    refine zr_getr hS hK kf_Fa_9 hI ha_a hs_a hv_a_0 kd_Fa_put_17 ?_
    refine zr_iload hx hb kd_Fa_put_20 hl rfl ?_
    refine zr_iald hS hK hI ha_a_0 hs_a_0 (vp_in_nI (by have h := h13; rw [hn] at h; have := Nat.lt_of_not_le (fun g => h (nI_le g (by omega))); omega) (by decide)) kd_Fa_put_22 ?_
    refine zr_iload_n hx hb kd_Fa_put_23 hl rfl ?_
    refine lv_icmp_ne (tgt := 31) hx hb kd_Fa_put_24 (by decide) (fun h24 => ?_) (fun h24 => ?_)
    · skip
      refine lv_iconst (v := 0) hx hb kd_Fa_put_31 (by decide) ?_
      rw [hn] at h13
      first
        | exact back c _ H locs ls hc1 hc2 hc3 (Or.inl ⟨rfl, Nat.lt_of_not_le (fun g => h13 (nI_le g (by omega))), by rw [ec] at h24; exact h24⟩) hl hI
        | exact back c _ H locs ls hc1 hc2 hc3 (Or.inr ⟨rfl, fun g => h24 (by rw [ec]; exact g.2)⟩) hl hI
        | exact back c _ H locs ls hc1 hc2 hc3 (Or.inr ⟨rfl, fun g => nI_ge g.1 (by omega) h13⟩) hl hI
    · skip
      refine lv_iconst (v := 1) hx hb kd_Fa_put_27 (by decide) ?_
      refine lv_goto (tgt := 32) hx hb kd_Fa_put_28 (by decide) ?_
      rw [hn] at h13
      first
        | exact back c _ H locs ls hc1 hc2 hc3 (Or.inl ⟨rfl, Nat.lt_of_not_le (fun g => h13 (nI_le g (by omega))), by rw [ec] at h24; exact h24⟩) hl hI
        | exact back c _ H locs ls hc1 hc2 hc3 (Or.inr ⟨rfl, fun g => h24 (by rw [ec]; exact g.2)⟩) hl hI
        | exact back c _ H locs ls hc1 hc2 hc3 (Or.inr ⟨rfl, fun g => nI_ge g.1 (by omega) h13⟩) hl hI

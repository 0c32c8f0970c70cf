/-! A fader: times 0, levels 1, joins 2, count 3, rest 4. -/
def zF_lev (n : Nat) (T L J : Nat → Int) (rest t v : Int) : Prop := (n = 0 ∧ v = rest) ∨ (0 < n ∧ ∃ c, c ≤ n ∧ (∀ i, i < c → T i ≤ t) ∧ (∀ i, c ≤ i → i < n → t < T i) ∧
  v = if c = 0 then L 0 else if J (c - 1) = 0 ∨ c = n then L (c - 1) else L (c - 1) + (L c - L (c - 1)) * (t - T (c - 1)) / (T c - T (c - 1)))
theorem zF_lev_u {n : Nat} {T L J : Nat → Int} {rest t v v' : Int} (h : zF_lev n T L J rest t v) (h' : zF_lev n T L J rest t v') : v = v' := by
  rcases h with ⟨h0, h1⟩ | ⟨h0, c, h1, h2, h3, h4⟩
  · rcases h' with ⟨g0, g1⟩ | ⟨g0, -⟩
    · rw [h1, g1]
    · omega
  · rcases h' with ⟨g0, g1⟩ | ⟨g0, d, g1, g2, g3, g4⟩
    · omega
    · have hcd : c = d := by
        by_cases hlt : c < d
        · have a1 := g2 c hlt
          have a2 := h3 c (Nat.le_refl _) (by omega)
          omega
        · by_cases hgt : d < c
          · have a1 := h2 d hgt
            have a2 := g3 d (Nat.le_refl _) (by omega)
            omega
          · omega
      subst hcd
      rw [h4, g4]
/-- rounding down between two levels stays between them -/
theorem zF_between {r t d : Int} (hd : 0 < d) (ht : 0 ≤ t) (htd : t ≤ d) : (0 ≤ r → 0 ≤ r * t / d ∧ r * t / d ≤ r) ∧ (r ≤ 0 → r ≤ r * t / d ∧ r * t / d ≤ 0) := by
  constructor
  · intro hr
    have h1 : 0 ≤ r * t := Int.mul_nonneg hr ht
    have h2 : r * t ≤ r * d := Int.mul_le_mul_of_nonneg_left htd hr
    have h3 : r * t / d ≤ r * d / d := Int.ediv_le_ediv hd h2
    rw [Int.mul_ediv_cancel _ (by omega)] at h3
    exact ⟨Int.ediv_nonneg h1 (by omega), h3⟩
  · intro hr
    have h1 : r * t ≤ 0 := by
      have := Int.mul_le_mul_of_nonpos_left hr ht
      omega
    have h2 : r * d ≤ r * t := Int.mul_le_mul_of_nonpos_left hr htd
    have h3 : r * d / d ≤ r * t / d := Int.ediv_le_ediv hd h2
    rw [Int.mul_ediv_cancel _ (by omega)] at h3
    have h4 : r * t / d ≤ 0 / d := Int.ediv_le_ediv hd h1
    rw [Int.zero_ediv] at h4
    exact ⟨h3, h4⟩
/-- what a fader's numbers are -/
def zF_V (n : Nat) (T L J : Nat → Int) (rest : Int) : Prop := n ≤ 8 ∧ (∀ i, i < n → 0 ≤ T i ∧ T i ≤ 1023) ∧ (∀ i j, i < j → j < n → T i < T j) ∧ (∀ i, i < n → 0 ≤ L i ∧ L i ≤ 1024) ∧ (∀ i, i < n → J i = 0 ∨ J i = 1) ∧ 0 ≤ rest ∧ rest ≤ 1024
theorem zF_lev_b {n : Nat} {T L J : Nat → Int} {rest t v : Int} (hV : zF_V n T L J rest) (h : zF_lev n T L J rest t v) : 0 ≤ v ∧ v ≤ 1024 := by
  obtain ⟨v1, v2, v3, v4, v5, v6, v7⟩ := hV
  rcases h with ⟨-, h1⟩ | ⟨h0, c, h1, h2, h3, h4⟩
  · omega
  · by_cases c0 : c = 0
    · rw [if_pos c0] at h4
      have := v4 0 h0
      omega
    · rw [if_neg c0] at h4
      have a1 := v4 (c - 1) (by omega)
      by_cases c1 : J (c - 1) = 0 ∨ c = n
      · rw [if_pos c1] at h4
        omega
      · rw [if_neg c1] at h4
        have hcn : c < n := by
          have : ¬ c = n := fun h => c1 (Or.inr h)
          omega
        have a2 := v4 c hcn
        have a3 := h2 (c - 1) (by omega)
        have a4 := h3 c (Nat.le_refl _) hcn
        have hb := zF_between (r := L c - L (c - 1)) (t := t - T (c - 1)) (d := T c - T (c - 1)) (by omega) (by omega) (by omega)
        by_cases hr : 0 ≤ L c - L (c - 1)
        · have := hb.1 hr; omega
        · have := hb.2 (by omega); omega
set_option maxRecDepth 100000 in
set_option maxHeartbeats 4000000 in
theorem c_Fa_firstNotBefore (l : Launch) (G : zg_T) (nc : Nat) (sh : Nat → Nat × Nat) (M : zm_T) (a bT n : Nat) (t : Int32) (ha_a : a < nc) (hs_a : sh a = (10 + 3, 0)) (hv_a_0 : M.2.1 a 0 = some bT) (ha_a_0 : bT < nc) (hs_a_0 : sh bT = (0, 8)) (hn : M.1 a 3 = nI n) (hn8 : n ≤ 8) : Met l ky_Fa_firstNotBefore (zr_ws ky_Fa_firstNotBefore kc_Fa_firstNotBefore 3 (some .int)) (zr_rm 0) (va_Pc [.ref (G.2.2.1 + a), .int t] (zm_B G nc sh M)) (va_Qi (fun (r : Int32) (M' : zm_T) => (∃ c : Nat, r = nI c ∧ c ≤ n ∧ (∀ i, i < c → M.1 bT i < t) ∧ (c < n → t ≤ M.1 bT c)) ∧ M' = M) (zm_B G nc sh) (zm_A G)) 0 0 (zm_A G) := by
  refine zr_met (by decide +kernel) (Nat.le_of_ble_eq_true rfl) ?_
  intro p0 e0 s0 m0 below meth c0 ls hS hK hlk hr hl hI
  have hx := hS.1
  have hb := hS.2.1
  have hl : zl_has ls 3 [some (.ref (G.2.2.1 + a)), some (.int t), none] := hl
  have loop : ∀ (k d : Nat) (H : Heap) (locs : List Loc) (ls : Array Slot), d + k = n → (∀ i, i < d → M.1 bT i < t) → zl_has ls 3 [some (.ref (G.2.2.1 + a)), some (.int t), some (.int (nI d))] → zm_I G nc sh M s0 H locs → W p0 l e0 (zr_rm 0) s0 m0 ([.ref (G.2.2.1 + a), .int t] : List Value).toArray below meth c0 H locs 0 0 (MQ below (va_Qi (fun (r : Int32) (M' : zm_T) => (∃ c : Nat, r = nI c ∧ c ≤ n ∧ (∀ i, i < c → M.1 bT i < t) ∧ (c < n → t ≤ M.1 bT c)) ∧ M' = M) (zm_B G nc sh) (zm_A G)) ([.ref (G.2.2.1 + a), .int t] : List Value).toArray s0 0 0 (zm_A G)) (F0 m0 2 ls []) := by
    intro k
    induction k with
    | zero =>
      intro d H locs ls hd hlt hl hI
      obtain rfl : n = d := by omega
      refine zr_iload_n hx hb kd_Fa_firstNotBefore_2 hl rfl ?_
      refine zr_aload_n hx hb kd_Fa_firstNotBefore_3 hl rfl ?_
      refine zr_geti hS hK kf_Fa_30 hI ha_a hs_a kd_Fa_firstNotBefore_4 ?_
      refine lv_icmp_ge (tgt := 26) hx hb kd_Fa_firstNotBefore_7 (by decide) (fun h7 => ?_) (fun h7 => absurd (by show M.1 a 3 ≤ nI n; rw [hn]; exact Int32.le_refl _) h7)
      refine zr_iload_n hx hb kd_Fa_firstNotBefore_26 hl rfl ?_
      exact zr_iret hS hK hlk hr hI kd_Fa_firstNotBefore_27 (⟨⟨n, rfl, Nat.le_refl _, hlt, fun h => by omega⟩, rfl⟩)
    | succ k ih =>
      intro d H locs ls hd hlt hl hI
      refine zr_iload_n hx hb kd_Fa_firstNotBefore_2 hl rfl ?_
      refine zr_aload_n hx hb kd_Fa_firstNotBefore_3 hl rfl ?_
      refine zr_geti hS hK kf_Fa_30 hI ha_a hs_a kd_Fa_firstNotBefore_4 ?_
      refine lv_icmp_ge (tgt := 26) hx hb kd_Fa_firstNotBefore_7 (by decide) (fun h7 => absurd h7 (by show ¬ M.1 a 3 ≤ nI d; rw [hn]; exact nI_ge (by omega) (by omega))) (fun h7 => ?_)
      refine zr_aload_n hx hb kd_Fa_firstNotBefore_10 hl rfl ?_
      refine zr_getr hS hK kf_Fa_9 hI ha_a hs_a hv_a_0 kd_Fa_firstNotBefore_11 ?_
      refine zr_iload_n hx hb kd_Fa_firstNotBefore_14 hl rfl ?_
      refine zr_iald hS hK hI ha_a_0 hs_a_0 (by first | assumption | exact vp_in_nI (by omega) (by decide) | (rw [nI_add]; exact vp_in_nI (by omega) (by decide))) kd_Fa_firstNotBefore_15 ?_
      refine zr_iload_n hx hb kd_Fa_firstNotBefore_16 hl rfl ?_
      refine lv_icmp_ge (tgt := 26) hx hb kd_Fa_firstNotBefore_17 (by decide) (fun h17 => ?_) (fun h17 => ?_)
      · skip
        refine zr_iload_n hx hb kd_Fa_firstNotBefore_26 hl rfl ?_
        exact zr_iret hS hK hlk hr hI kd_Fa_firstNotBefore_27 (⟨⟨d, rfl, by omega, hlt, fun _ => by rw [zn_cl (by omega)] at h17; exact h17⟩, rfl⟩)
      · skip
        refine zr_iinc hx hb kd_Fa_firstNotBefore_20 hl (by decide) rfl rfl (fun ls hl => ?_)
        refine lv_goto (tgt := 2) hx hb kd_Fa_firstNotBefore_23 (by decide) ?_
        refine ih (d + 1) H locs ls (by omega) (lt_s hlt ?_) (by rw [nI_succ]; exact hl) hI
        rw [zn_cl (by omega)] at h17
        exact Int32.not_le.mp h17
  refine lv_iconst (v := 0) hx hb kd_Fa_firstNotBefore_0 (by decide) ?_
  refine zr_istore_n hx hb kd_Fa_firstNotBefore_1 hl (by decide) rfl (fun ls hl => ?_)
  exact loop n 0 _ _ _ (by omega) lt_0 hl hI
set_option maxRecDepth 100000 in
set_option maxHeartbeats 4000000 in
theorem c_Fa_clearPoints (l : Launch) (G : zg_T) (nc : Nat) (sh : Nat → Nat × Nat) (M : zm_T) (a : Nat) (ha_a : a < nc) (hs_a : sh a = (10 + 3, 0)) : Met l ky_Fa_clearPoints (zr_ws ky_Fa_clearPoints kc_Fa_clearPoints 2 (some .int)) (zr_rm 0) (va_Pc [.ref (G.2.2.1 + a)] (zm_B G nc sh M)) (va_Qi (fun (r : Int32) (M' : zm_T) => r = M.1 a 3 ∧ M' = zm_ui M a 3 0) (zm_B G nc sh) (zm_A G)) 0 0 (zm_A G) := by
  refine zr_met (by decide +kernel) (Nat.le_of_ble_eq_true rfl) ?_
  intro p0 e0 s0 m0 below meth c0 ls hS hK hlk hr hl hI
  have hx := hS.1
  have hb := hS.2.1
  have hl : zl_has ls 2 [some (.ref (G.2.2.1 + a)), none] := hl
  refine zr_aload_n hx hb kd_Fa_clearPoints_0 hl rfl ?_
  refine zr_geti hS hK kf_Fa_30 hI ha_a hs_a kd_Fa_clearPoints_1 ?_
  refine zr_istore_n hx hb kd_Fa_clearPoints_4 hl (by decide) rfl (fun ls hl => ?_)
  refine zr_aload_n hx hb kd_Fa_clearPoints_5 hl rfl ?_
  refine lv_iconst (v := 0) hx hb kd_Fa_clearPoints_6 (by decide) ?_
  refine zr_puti hS hK kf_Fa_30 hI ha_a hs_a rfl rfl kd_Fa_clearPoints_7 (fun H locs hI => ?_)
  refine zr_iload_n hx hb kd_Fa_clearPoints_10 hl rfl ?_
  exact zr_iret hS hK hlk hr hI kd_Fa_clearPoints_11 (⟨rfl, rfl⟩)
def zF_sh (M : zm_T) (bT bL bJ lo n : Nat) : zm_T := (fun c k => if (c = bT ∨ c = bL ∨ c = bJ) ∧ lo < k ∧ k ≤ n then M.1 c (k - 1) else M.1 c k, M.2)
theorem zF_sh_n (M : zm_T) (bT bL bJ n : Nat) : zF_sh M bT bL bJ n n = M := by
  unfold zF_sh
  refine Prod.ext ?_ rfl
  funext c k
  exact if_neg (by omega)
theorem zF_sh_at {M : zm_T} {bT bL bJ lo n c k : Nat} (h : k ≤ lo) : (zF_sh M bT bL bJ lo n).1 c k = M.1 c k := by
  unfold zF_sh
  exact if_neg (by omega)
theorem zF_sh_s (M : zm_T) (bT bL bJ i n : Nat) (hin : i + 1 ≤ n) : zm_ui (zm_ui (zm_ui (zF_sh M bT bL bJ (i + 1) n) bT (i + 1) (M.1 bT i)) bL (i + 1) (M.1 bL i)) bJ (i + 1) (M.1 bJ i) = zF_sh M bT bL bJ i n := by
  unfold zF_sh zm_ui
  refine Prod.ext ?_ rfl
  funext c k
  show (if c = bJ ∧ k = i + 1 then M.1 bJ i else if c = bL ∧ k = i + 1 then M.1 bL i else if c = bT ∧ k = i + 1 then M.1 bT i else if (c = bT ∨ c = bL ∨ c = bJ) ∧ i + 1 < k ∧ k ≤ n then M.1 c (k - 1) else M.1 c k) = if (c = bT ∨ c = bL ∨ c = bJ) ∧ i < k ∧ k ≤ n then M.1 c (k - 1) else M.1 c k
  by_cases hk : k = i + 1
  · subst hk
    by_cases h1 : c = bJ
    · rw [if_pos ⟨h1, rfl⟩, if_pos ⟨Or.inr (Or.inr h1), by omega, hin⟩, h1]; rfl
    · rw [if_neg (fun h => h1 h.1)]
      by_cases h2 : c = bL
      · rw [if_pos ⟨h2, rfl⟩, if_pos ⟨Or.inr (Or.inl h2), by omega, hin⟩, h2]; rfl
      · rw [if_neg (fun h => h2 h.1)]
        by_cases h3 : c = bT
        · rw [if_pos ⟨h3, rfl⟩, if_pos ⟨Or.inl h3, by omega, hin⟩, h3]; rfl
        · rw [if_neg (fun h => h3 h.1), if_neg (fun h => by omega), if_neg (fun h => by omega)]
  · rw [if_neg (fun h => hk h.2), if_neg (fun h => hk h.2), if_neg (fun h => hk h.2)]
    by_cases h : (c = bT ∨ c = bL ∨ c = bJ) ∧ i + 1 < k ∧ k ≤ n
    · rw [if_pos h, if_pos ⟨h.1, by omega, h.2.2⟩]
    · rw [if_neg h, if_neg (fun g => h ⟨g.1, by omega, g.2.2⟩)]
theorem zn_bool {x : Int32} (h : x = 0 ∨ x = 1) : vp_nar .boolean x = x := by
  rcases h with rfl | rfl <;> rfl
set_option maxRecDepth 100000 in
set_option maxHeartbeats 4000000 in
theorem c_Fa_openGap (l : Launch) (G : zg_T) (nc : Nat) (sh : Nat → Nat × Nat) (M : zm_T) (a bT bL bJ n c : Nat) (ha_a : a < nc) (hs_a : sh a = (10 + 3, 0)) (hv_a_0 : M.2.1 a 0 = some bT) (ha_a_0 : bT < nc) (hs_a_0 : sh bT = (0, 8)) (hv_a_1 : M.2.1 a 1 = some bL) (ha_a_1 : bL < nc) (hs_a_1 : sh bL = (0, 8)) (hv_a_2 : M.2.1 a 2 = some bJ) (ha_a_2 : bJ < nc) (hs_a_2 : sh bJ = (1, 8)) (hd : a ≠ bT ∧ a ≠ bL ∧ a ≠ bJ ∧ bT ≠ bL ∧ bT ≠ bJ ∧ bL ≠ bJ) (hn : M.1 a 3 = nI n) (hn8 : n < 8) (hcn : c ≤ n) (hJ : ∀ i, i < n → M.1 bJ i = 0 ∨ M.1 bJ i = 1) : Met l ky_Fa_openGap (zr_ws ky_Fa_openGap kc_Fa_openGap 3 none) (zr_rm 0) (va_Pc [.ref (G.2.2.1 + a), .int (nI c)] (zm_B G nc sh M)) (va_Qv (fun (M' : zm_T) => M' = zm_ui (zF_sh M bT bL bJ c n) a 3 (nI (n + 1))) (zm_B G nc sh) (zm_A G)) 0 0 (zm_A G) := by
  refine zr_met (by decide +kernel) (Nat.le_of_ble_eq_true rfl) ?_
  intro p0 e0 s0 m0 below meth c0 ls hS hK hlk hr hl hI
  have hx := hS.1
  have hb := hS.2.1
  have hl : zl_has ls 3 [some (.ref (G.2.2.1 + a)), some (.int (nI c)), none] := hl
  obtain ⟨d1, d2, d3, d4, d5, d6⟩ := hd
  have ea : ∀ lo, (zF_sh M bT bL bJ lo n).1 a 3 = nI n := fun lo => by
    unfold zF_sh
    rw [← hn]
    exact if_neg (fun h => by omega)
  have loop : ∀ (k i : Nat) (H : Heap) (locs : List Loc) (ls : Array Slot), c + k = i → i ≤ n → zl_has ls 3 [some (.ref (G.2.2.1 + a)), some (.int (nI c)), some (.int (nI i))] → zm_I G nc sh (zF_sh M bT bL bJ i n) s0 H locs → W p0 l e0 (zr_rm 0) s0 m0 ([.ref (G.2.2.1 + a), .int (nI c)] : List Value).toArray below meth c0 H locs 0 0 (MQ below (va_Qv (fun (M' : zm_T) => M' = zm_ui (zF_sh M bT bL bJ c n) a 3 (nI (n + 1))) (zm_B G nc sh) (zm_A G)) ([.ref (G.2.2.1 + a), .int (nI c)] : List Value).toArray s0 0 0 (zm_A G)) (F0 m0 5 ls []) := by
    intro k
    induction k with
    | zero =>
      intro i H locs ls hi hin hl hI
      obtain rfl : i = c := by omega
      refine zr_iload_n hx hb kd_Fa_openGap_5 hl rfl ?_
      refine zr_iload_n hx hb kd_Fa_openGap_6 hl rfl ?_
      refine lv_icmp_le (tgt := 58) hx hb kd_Fa_openGap_7 (by decide) (fun h7 => ?_) (fun h7 => absurd (Int32.le_refl _) h7)
      refine zr_aload_n hx hb kd_Fa_openGap_58 hl rfl ?_
      refine lv_dup hx hb kd_Fa_openGap_59 rfl ?_
      refine zr_geti hS hK kf_Fa_30 hI ha_a hs_a kd_Fa_openGap_60 ?_
      refine lv_iconst (v := 1) hx hb kd_Fa_openGap_63 (by decide) ?_
      refine lv_iadd hx hb kd_Fa_openGap_64 ?_
      refine zr_puti hS hK kf_Fa_30 hI ha_a hs_a rfl rfl kd_Fa_openGap_65 (fun H locs hI => ?_)
      exact zr_vret hS hK hlk hr hI kd_Fa_openGap_68 (by rw [ea, nI_succ])
    | succ k ih =>
      intro i' H locs ls hi hin hl hI
      obtain ⟨i, rfl⟩ : ∃ i, i' = i + 1 := ⟨i' - 1, by omega⟩
      have ei : (nI (i + 1)).toNatClampNeg = i + 1 := zn_cl (by omega)
      have ej : (nI (i + 1) - 1).toNatClampNeg = i := by rw [nI_pred]; exact zn_cl (by omega)
      have vi : vp_in (nI (i + 1)) 8 := vp_in_nI (by omega) (by decide)
      have vj : vp_in (nI (i + 1) - 1) 8 := by rw [nI_pred]; exact vp_in_nI (by omega) (by decide)
      refine zr_iload_n hx hb kd_Fa_openGap_5 hl rfl ?_
      refine zr_iload_n hx hb kd_Fa_openGap_6 hl rfl ?_
      refine lv_icmp_le (tgt := 58) hx hb kd_Fa_openGap_7 (by decide) (fun h7 => absurd h7 (nI_ge (by omega) (by omega))) (fun h7 => ?_)
      refine zr_aload_n hx hb kd_Fa_openGap_10 hl rfl ?_
      refine zr_getr hS hK kf_Fa_9 hI ha_a hs_a hv_a_0 kd_Fa_openGap_11 ?_
      refine zr_iload_n hx hb kd_Fa_openGap_14 hl rfl ?_
      refine zr_aload_n hx hb kd_Fa_openGap_15 hl rfl ?_
      refine zr_getr hS hK kf_Fa_9 hI ha_a hs_a hv_a_0 kd_Fa_openGap_16 ?_
      refine zr_iload_n hx hb kd_Fa_openGap_19 hl rfl ?_
      refine lv_iconst (v := 1) hx hb kd_Fa_openGap_20 (by decide) ?_
      refine lv_isub hx hb kd_Fa_openGap_21 ?_
      refine zr_iald hS hK hI ha_a_0 hs_a_0 vj kd_Fa_openGap_22 ?_
      refine zr_iast hS hK hI ha_a_0 hs_a_0 vi kd_Fa_openGap_23 (fun H locs hI => ?_)
      refine zr_aload_n hx hb kd_Fa_openGap_24 hl rfl ?_
      refine zr_getr hS hK kf_Fa_15 hI ha_a hs_a hv_a_1 kd_Fa_openGap_25 ?_
      refine zr_iload_n hx hb kd_Fa_openGap_28 hl rfl ?_
      refine zr_aload_n hx hb kd_Fa_openGap_29 hl rfl ?_
      refine zr_getr hS hK kf_Fa_15 hI ha_a hs_a hv_a_1 kd_Fa_openGap_30 ?_
      refine zr_iload_n hx hb kd_Fa_openGap_33 hl rfl ?_
      refine lv_iconst (v := 1) hx hb kd_Fa_openGap_34 (by decide) ?_
      refine lv_isub hx hb kd_Fa_openGap_35 ?_
      refine zr_iald hS hK hI ha_a_1 hs_a_1 vj kd_Fa_openGap_36 ?_
      refine zr_iast hS hK hI ha_a_1 hs_a_1 vi kd_Fa_openGap_37 (fun H locs hI => ?_)
      refine zr_aload_n hx hb kd_Fa_openGap_38 hl rfl ?_
      refine zr_getr hS hK kf_Fa_18 hI ha_a hs_a hv_a_2 kd_Fa_openGap_39 ?_
      refine zr_iload_n hx hb kd_Fa_openGap_42 hl rfl ?_
      refine zr_aload_n hx hb kd_Fa_openGap_43 hl rfl ?_
      refine zr_getr hS hK kf_Fa_18 hI ha_a hs_a hv_a_2 kd_Fa_openGap_44 ?_
      refine zr_iload_n hx hb kd_Fa_openGap_47 hl rfl ?_
      refine lv_iconst (v := 1) hx hb kd_Fa_openGap_48 (by decide) ?_
      refine lv_isub hx hb kd_Fa_openGap_49 ?_
      refine zr_zald hS hK hI ha_a_2 hs_a_2 vj kd_Fa_openGap_50 ?_
      refine zr_zast hS hK hI ha_a_2 hs_a_2 vi kd_Fa_openGap_51 (fun H locs hI => ?_)
      refine zr_iinc hx hb kd_Fa_openGap_52 hl (by decide) rfl rfl (fun ls hl => ?_)
      refine lv_goto (tgt := 5) hx hb kd_Fa_openGap_55 (by decide) ?_
      refine ih i H locs ls (by omega) (by omega) (by rw [← pk_m1 i]; exact hl) ?_
      rw [ei, ej] at hI
      rw [zm_ui_ne (Or.inl (Ne.symm d6)), zm_ui_ne (Or.inl (Ne.symm d5)), zm_ui_ne (Or.inl (Ne.symm d4)), zF_sh_at (by omega), zF_sh_at (by omega), zF_sh_at (by omega), zn_bool (hJ i (by omega))] at hI
      rw [← zF_sh_s M bT bL bJ i n hin]
      exact hI
  rw [← zF_sh_n M bT bL bJ n] at hI
  have e0 : (zF_sh M bT bL bJ n n).1 a 3 = nI n := ea n
  refine zr_aload_n hx hb kd_Fa_openGap_0 hl rfl ?_
  refine zr_geti hS hK kf_Fa_30 hI ha_a hs_a kd_Fa_openGap_1 ?_
  refine zr_istore_n hx hb kd_Fa_openGap_4 hl (by decide) rfl (fun ls hl => ?_)
  rw [e0] at hl
  exact loop (n - c) n _ _ _ (by omega) (by omega) hl hI

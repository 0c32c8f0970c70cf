/-! The limit, and an effect's next sample. -/
def zf_lim (p z m : Int32) : Int32 := if p < m then (z.toInt64 * p.toInt64 / m.toInt64).toInt32 else z
def zE_limP (M M' : zm_T) (a b pl q : Nat) (x r : Int32) : Prop :=
  M'.2 = M.2 ∧ (∀ c j, c ≠ a → c ≠ b → M'.1 c j = M.1 c j) ∧ (∀ j, j < 4 → M'.1 a j = M.1 a j) ∧ (∀ i, M'.1 b i = if i = pl then x else M.1 b i) ∧ M'.1 a 4 = nI (if pl < q then pl + 1 else 0) ∧
  ((M.1 a 5 ≤ zf_abs x ∧ M'.1 a 5 = zf_abs x) ∨ (zf_abs x < M.1 a 5 ∧ zf_abs (M.1 b pl) = M.1 a 5 ∧ ze_max (fun i => ze_abs (M'.1 b i).toInt) (q + 1) (M'.1 a 5).toInt) ∨ (zf_abs x < M.1 a 5 ∧ ¬ zf_abs (M.1 b pl) = M.1 a 5 ∧ M'.1 a 5 = M.1 a 5)) ∧
  r = zf_lim (M.1 a 2) (M'.1 b (if pl < q then pl + 1 else 0)) (M'.1 a 5)
theorem zn_pos_ne {x : Int32} (h : 0 < x.toInt) : ¬ x.toInt64 = 0 := by
  intro hx
  have h1 : x.toInt64.toInt = (0 : Int64).toInt := by rw [hx]
  rw [Int32.toInt_toInt64, show (0 : Int64).toInt = 0 from by decide] at h1
  omega
set_option maxHeartbeats 4000000 in
theorem zE_limP_mk {M : zm_T} {a b pl q : Nat} {x v w r : Int32} (hab : a ≠ b) (hv : v = nI (if pl < q then pl + 1 else 0)) (h5 : (M.1 a 5 ≤ zf_abs x ∧ w = zf_abs x) ∨ (zf_abs x < M.1 a 5 ∧ zf_abs (M.1 b pl) = M.1 a 5 ∧ ze_max (fun i => ze_abs (if i = pl then x else M.1 b i).toInt) (q + 1) w.toInt) ∨ (zf_abs x < M.1 a 5 ∧ ¬ zf_abs (M.1 b pl) = M.1 a 5 ∧ w = M.1 a 5))
    (hr : r = zf_lim (M.1 a 2) (if (if pl < q then pl + 1 else 0) = pl then x else M.1 b (if pl < q then pl + 1 else 0)) w) : zE_limP M (zm_ui (zm_ui (zm_ui M b pl x) a 4 v) a 5 w) a b pl q x r := by
  have hba : b ≠ a := fun h => hab h.symm
  have hb : ∀ i, (zm_ui (zm_ui (zm_ui M b pl x) a 4 v) a 5 w).1 b i = if i = pl then x else M.1 b i := fun i => by simp [zm_ui, hba]
  have h5' : (zm_ui (zm_ui (zm_ui M b pl x) a 4 v) a 5 w).1 a 5 = w := zm_ui_at
  refine ⟨rfl, fun c j h1 h2 => by simp [zm_ui, h1, h2], fun j hj => ?_, hb, ?_, ?_, ?_⟩
  · rw [zm_ui_ne (Or.inr (by omega)), zm_ui_ne (Or.inr (by omega)), zm_ui_ne (Or.inl hab)]
  · rw [zm_ui_ne (Or.inr (by decide)), zm_ui_at, hv]
  · rw [h5']
    simp only [hb]
    exact h5
  · rw [h5', hb]
    exact hr
theorem zm_ui_self {M : zm_T} {a k : Nat} : zm_ui M a k (M.1 a k) = M := by
  unfold zm_ui
  refine Prod.ext ?_ rfl
  funext c j
  show (if c = a ∧ j = k then M.1 a k else M.1 c j) = M.1 c j
  split
  · rename_i h; rw [h.1, h.2]
  · rfl
set_option maxRecDepth 100000 in
set_option maxHeartbeats 4000000 in
theorem c_Ef_limit (l : Launch) (G : zg_T) (nc : Nat) (sh : Nat → Nat × Nat) (M : zm_T) (a b pl q : Nat) (x : Int32) (ha_a : a < nc) (hs_a : sh a = (10 + 2, 0)) (hv_a_0 : M.2.1 a 0 = some b) (ha_a_0 : b < nc) (hs_a_0 : sh b = (0, 32)) (hab : a ≠ b) (hpl : M.1 a 4 = nI pl) (hq : M.1 a 3 = nI q) (hq16 : q ≤ 16) (hplq : pl ≤ q) (hp1 : 0 < (M.1 a 2).toInt) (hx1 : -2147483648 < x.toInt) (hpa : ∀ i, i < 32 → -2147483648 < (M.1 b i).toInt) : Met l ky_Ef_limit (zr_ws ky_Ef_limit kc_Ef_limit 4 (some .int)) (zr_rm 2) (va_Pc [.ref (G.2.2.1 + a), .int x] (zm_B G nc sh M)) (va_Qi (fun (r : Int32) (M' : zm_T) => zE_limP M M' a b pl q x r) (zm_B G nc sh) (zm_A G)) 0 0 (zm_A G) := by
  refine zr_met (by decide +kernel) (Nat.le_of_ble_eq_true rfl) ?_
  intro p0 e0 s0 m0 below meth c0 ls hS hK hlk hr hl hI
  have hx := hS.1
  have hb := hS.2.1
  have hl : zl_has ls 4 [some (.ref (G.2.2.1 + a)), some (.int x), none, none] := hl
  have hix : (M.1 a 4).toNatClampNeg = pl := by rw [hpl]; exact zn_cl (by omega)
  have hin : vp_in (M.1 a 4) 32 := by rw [hpl]; exact vp_in_nI (by omega) (by decide)
  have hba : b ≠ a := fun h => hab h.symm
  have tail : ∀ (v w z : Int32) (H : Heap) (locs : List Loc) (ls : Array Slot), v = nI (if pl < q then pl + 1 else 0) → ((M.1 a 5 ≤ zf_abs x ∧ w = zf_abs x) ∨ (zf_abs x < M.1 a 5 ∧ zf_abs (M.1 b pl) = M.1 a 5 ∧ ze_max (fun i => ze_abs (if i = pl then x else M.1 b i).toInt) (q + 1) w.toInt) ∨ (zf_abs x < M.1 a 5 ∧ ¬ zf_abs (M.1 b pl) = M.1 a 5 ∧ w = M.1 a 5)) → zl_has ls 4 [some (.ref (G.2.2.1 + a)), some (.int x), some (.int z), none] → zm_I G nc sh (zm_ui (zm_ui (zm_ui M b pl x) a 4 v) a 5 w) s0 H locs → W p0 l e0 (zr_rm 2) s0 m0 ([.ref (G.2.2.1 + a), .int x] : List Value).toArray below meth c0 H locs 0 0 (MQ below (va_Qi (fun (r : Int32) (M' : zm_T) => zE_limP M M' a b pl q x r) (zm_B G nc sh) (zm_A G)) ([.ref (G.2.2.1 + a), .int x] : List Value).toArray s0 0 0 (zm_A G)) (F0 m0 86 ls []) := by
    intro v w z H locs ls hv h5 hl hI
    have e4 : (zm_ui (zm_ui (zm_ui M b pl x) a 4 v) a 5 w).1 a 4 = nI (if pl < q then pl + 1 else 0) := by rw [zm_ui_ne (Or.inr (by decide)), zm_ui_at, hv]
    have e5 : (zm_ui (zm_ui (zm_ui M b pl x) a 4 v) a 5 w).1 a 5 = w := zm_ui_at
    have e2 : (zm_ui (zm_ui (zm_ui M b pl x) a 4 v) a 5 w).1 a 2 = M.1 a 2 := by rw [zm_ui_ne (Or.inr (by decide)), zm_ui_ne (Or.inr (by decide)), zm_ui_ne (Or.inl hab)]
    have hlt : (if pl < q then pl + 1 else 0) < 32 := by split <;> omega
    have hb' : ∀ i, (zm_ui (zm_ui (zm_ui M b pl x) a 4 v) a 5 w).1 b i = if i = pl then x else M.1 b i := fun i => by simp [zm_ui, hba]
    refine zr_aload_n hx hb kd_Ef_limit_86 hl rfl ?_
    refine zr_getr hS hK kf_Ef_11 hI ha_a hs_a hv_a_0 kd_Ef_limit_87 ?_
    refine zr_aload_n hx hb kd_Ef_limit_90 hl rfl ?_
    refine zr_geti hS hK kf_Ef_40 hI ha_a hs_a kd_Ef_limit_91 ?_
    refine zr_iald hS hK hI ha_a_0 hs_a_0 (by rw [e4]; exact vp_in_nI hlt (by decide)) kd_Ef_limit_94 ?_
    refine zr_istore_n hx hb kd_Ef_limit_95 hl (by decide) rfl (fun ls hl => ?_)
    refine zr_aload_n hx hb kd_Ef_limit_96 hl rfl ?_
    refine zr_geti hS hK kf_Ef_43 hI ha_a hs_a kd_Ef_limit_97 ?_
    refine zr_aload_n hx hb kd_Ef_limit_100 hl rfl ?_
    refine zr_geti hS hK kf_Ef_28 hI ha_a hs_a kd_Ef_limit_101 ?_
    refine lv_icmp_gt (tgt := 111) hx hb kd_Ef_limit_104 (by decide) (fun h104 => ?_) (fun h104 => ?_)
    · skip
      refine zr_iload_n hx hb kd_Ef_limit_111 hl rfl ?_
      refine lv_i2l hx hb kd_Ef_limit_112 rfl ?_
      refine zr_aload_n hx hb kd_Ef_limit_113 hl rfl ?_
      refine zr_geti hS hK kf_Ef_28 hI ha_a hs_a kd_Ef_limit_114 ?_
      refine lv_i2l hx hb kd_Ef_limit_117 rfl ?_
      refine lv_lmul hx hb kd_Ef_limit_118 ?_
      refine zr_aload_n hx hb kd_Ef_limit_119 hl rfl ?_
      refine zr_geti hS hK kf_Ef_43 hI ha_a hs_a kd_Ef_limit_120 ?_
      refine lv_i2l hx hb kd_Ef_limit_123 rfl ?_
      refine lv_ldiv hx hb kd_Ef_limit_124 (by rw [e2, e5] at h104; rw [e5]; exact zn_pos_ne (by have h := Int32.lt_iff_toInt_lt.mp h104; omega)) ?_
      refine lv_l2i hx hb kd_Ef_limit_125 rfl ?_
      exact zr_iret hS hK hlk hr hI kd_Ef_limit_126 (zE_limP_mk hab hv h5 (by rw [e2, e5] at h104; simp only [zf_lim, h104, if_true, if_false]; rw [e4, zn_cl (by omega), hb']; try rw [e2, e5]))
    · skip
      refine zr_iload_n hx hb kd_Ef_limit_107 hl rfl ?_
      refine lv_goto (tgt := 126) hx hb kd_Ef_limit_108 (by decide) ?_
      exact zr_iret hS hK hlk hr hI kd_Ef_limit_126 (zE_limP_mk hab hv h5 (by rw [e2, e5] at h104; simp only [zf_lim, h104, if_true, if_false]; rw [e4, zn_cl (by omega), hb']; try rw [e2, e5]))
  have mid : ∀ (v : Int32) (H : Heap) (locs : List Loc) (ls : Array Slot), v = nI (if pl < q then pl + 1 else 0) → zl_has ls 4 [some (.ref (G.2.2.1 + a)), some (.int x), some (.int (M.1 b pl)), none] → zm_I G nc sh (zm_ui (zm_ui M b pl x) a 4 v) s0 H locs → W p0 l e0 (zr_rm 2) s0 m0 ([.ref (G.2.2.1 + a), .int x] : List Value).toArray below meth c0 H locs 0 0 (MQ below (va_Qi (fun (r : Int32) (M' : zm_T) => zE_limP M M' a b pl q x r) (zm_B G nc sh) (zm_A G)) ([.ref (G.2.2.1 + a), .int x] : List Value).toArray s0 0 0 (zm_A G)) (F0 m0 45 ls []) := by
    intro v H locs ls hv hl hI
    have e5 : (zm_ui (zm_ui M b pl x) a 4 v).1 a 5 = M.1 a 5 := by rw [zm_ui_ne (Or.inr (by decide)), zm_ui_ne (Or.inl hab)]
    have e3 : (zm_ui (zm_ui M b pl x) a 4 v).1 a 3 = nI q := by rw [zm_ui_ne (Or.inr (by decide)), zm_ui_ne (Or.inl hab), hq]
    have eb : ∀ i, (zm_ui (zm_ui M b pl x) a 4 v).1 b i = if i = pl then x else M.1 b i := fun i => by simp [zm_ui, hba]
    have hself : zm_ui (zm_ui (zm_ui M b pl x) a 4 v) a 5 (M.1 a 5) = zm_ui (zm_ui M b pl x) a 4 v := by rw [← e5]; exact zm_ui_self
    refine zr_iload_n hx hb kd_Ef_limit_45 hl rfl ?_
    refine va_mabs hx hb (hS.2.2.1.trans hl.1.symm) hS.2.2.2.1 (hS.2.2.2.2 _ (zw_mem (i := 976) rfl rfl)) (hS.2.2.2.2 _ (zw_mem (i := 977) rfl rfl)) (hS.2.2.2.2 _ (zw_mem (i := 49) rfl rfl)) (hS.2.2.2.2 _ (zw_mem (i := 978) rfl rfl)) (by decide) (Nat.le_of_ble_eq_true rfl) (by decide) (by decide) kd_Ef_limit_46 ?_
    refine zr_aload_n hx hb kd_Ef_limit_49 hl rfl ?_
    refine zr_geti hS hK kf_Ef_43 hI ha_a hs_a kd_Ef_limit_50 ?_
    refine lv_icmp_lt (tgt := 67) hx hb kd_Ef_limit_53 (by decide) (fun h53 => ?_) (fun h53 => ?_)
    · skip
      refine zr_iload_n hx hb kd_Ef_limit_67 hl rfl ?_
      refine va_mabs hx hb (hS.2.2.1.trans hl.1.symm) hS.2.2.2.1 (hS.2.2.2.2 _ (zw_mem (i := 976) rfl rfl)) (hS.2.2.2.2 _ (zw_mem (i := 977) rfl rfl)) (hS.2.2.2.2 _ (zw_mem (i := 49) rfl rfl)) (hS.2.2.2.2 _ (zw_mem (i := 978) rfl rfl)) (by decide) (Nat.le_of_ble_eq_true rfl) (by decide) (by decide) kd_Ef_limit_68 ?_
      refine zr_aload_n hx hb kd_Ef_limit_71 hl rfl ?_
      refine zr_geti hS hK kf_Ef_43 hI ha_a hs_a kd_Ef_limit_72 ?_
      refine lv_icmp_ne (tgt := 86) hx hb kd_Ef_limit_75 (by decide) (fun h75 => ?_) (fun h75 => ?_)
      · skip
        rw [e5] at h53
        (try rw [e5] at h75)
        first
          | exact tail v _ _ H locs ls hv (Or.inl ⟨Int32.not_lt.mp h53, rfl⟩) hl hI
          | exact tail v _ _ H locs ls hv (Or.inr (Or.inl ⟨h53, h75, by simp only [eb] at hg; exact hg⟩)) hl hI
          | exact tail v _ _ H locs ls hv (Or.inr (Or.inr ⟨h53, h75, rfl⟩)) hl (by rw [hself]; exact hI)
      · skip
        refine zr_aload_n hx hb kd_Ef_limit_78 hl rfl ?_
        refine zr_aload_n hx hb kd_Ef_limit_79 hl rfl ?_
        refine zr_ci (zr_runV hS hK (c_Ef_greatestPast l G nc sh (zm_ui (zm_ui M b pl x) a 4 v) a b q ha_a hs_a hv_a_0 ha_a_0 hs_a_0 e3 hq16 (fun i hi => by rw [eb]; split; exact hx1; exact hpa i hi)) km_Ef_74 hI ha_a hs_a rfl hl.1 (Nat.le_of_ble_eq_true rfl) (by decide) (by decide) kd_Ef_limit_80 rfl) hI (fun r80 M80 H locs hp80 hI => ?_)
        obtain ⟨hg, hM80⟩ := hp80
        rw [hM80] at hI
        refine zr_puti hS hK kf_Ef_43 hI ha_a hs_a rfl rfl kd_Ef_limit_83 (fun H locs hI => ?_)
        rw [e5] at h53
        (try rw [e5] at h75)
        first
          | exact tail v _ _ H locs ls hv (Or.inl ⟨Int32.not_lt.mp h53, rfl⟩) hl hI
          | exact tail v _ _ H locs ls hv (Or.inr (Or.inl ⟨h53, h75, by simp only [eb] at hg; exact hg⟩)) hl hI
          | exact tail v _ _ H locs ls hv (Or.inr (Or.inr ⟨h53, h75, rfl⟩)) hl (by rw [hself]; exact hI)
    · skip
      refine zr_aload_n hx hb kd_Ef_limit_56 hl rfl ?_
      refine zr_iload_n hx hb kd_Ef_limit_57 hl rfl ?_
      refine va_mabs hx hb (hS.2.2.1.trans hl.1.symm) hS.2.2.2.1 (hS.2.2.2.2 _ (zw_mem (i := 976) rfl rfl)) (hS.2.2.2.2 _ (zw_mem (i := 977) rfl rfl)) (hS.2.2.2.2 _ (zw_mem (i := 49) rfl rfl)) (hS.2.2.2.2 _ (zw_mem (i := 978) rfl rfl)) (by decide) (Nat.le_of_ble_eq_true rfl) (by decide) (by decide) kd_Ef_limit_58 ?_
      refine zr_puti hS hK kf_Ef_43 hI ha_a hs_a rfl rfl kd_Ef_limit_61 (fun H locs hI => ?_)
      refine lv_goto (tgt := 86) hx hb kd_Ef_limit_64 (by decide) ?_
      rw [e5] at h53
      (try rw [e5] at h75)
      first
        | exact tail v _ _ H locs ls hv (Or.inl ⟨Int32.not_lt.mp h53, rfl⟩) hl hI
        | exact tail v _ _ H locs ls hv (Or.inr (Or.inl ⟨h53, h75, by simp only [eb] at hg; exact hg⟩)) hl hI
        | exact tail v _ _ H locs ls hv (Or.inr (Or.inr ⟨h53, h75, rfl⟩)) hl (by rw [hself]; exact hI)
  have e4 : (zm_ui M b pl x).1 a 4 = nI pl := by rw [zm_ui_ne (Or.inl hab), hpl]
  have e3 : (zm_ui M b pl x).1 a 3 = nI q := by rw [zm_ui_ne (Or.inl hab), hq]
  refine zr_aload_n hx hb kd_Ef_limit_0 hl rfl ?_
  refine zr_getr hS hK kf_Ef_11 hI ha_a hs_a hv_a_0 kd_Ef_limit_1 ?_
  refine zr_aload_n hx hb kd_Ef_limit_4 hl rfl ?_
  refine zr_geti hS hK kf_Ef_40 hI ha_a hs_a kd_Ef_limit_5 ?_
  refine zr_iald hS hK hI ha_a_0 hs_a_0 hin kd_Ef_limit_8 ?_
  refine zr_istore_n hx hb kd_Ef_limit_9 hl (by decide) rfl (fun ls hl => ?_)
  refine zr_aload_n hx hb kd_Ef_limit_10 hl rfl ?_
  refine zr_getr hS hK kf_Ef_11 hI ha_a hs_a hv_a_0 kd_Ef_limit_11 ?_
  refine zr_aload_n hx hb kd_Ef_limit_14 hl rfl ?_
  refine zr_geti hS hK kf_Ef_40 hI ha_a hs_a kd_Ef_limit_15 ?_
  refine zr_iload_n hx hb kd_Ef_limit_18 hl rfl ?_
  refine zr_iast hS hK hI ha_a_0 hs_a_0 hin kd_Ef_limit_19 (fun H locs hI => ?_)
  refine zr_aload_n hx hb kd_Ef_limit_20 hl rfl ?_
  refine zr_aload_n hx hb kd_Ef_limit_21 hl rfl ?_
  refine zr_geti hS hK kf_Ef_40 hI ha_a hs_a kd_Ef_limit_22 ?_
  refine zr_aload_n hx hb kd_Ef_limit_25 hl rfl ?_
  refine zr_geti hS hK kf_Ef_31 hI ha_a hs_a kd_Ef_limit_26 ?_
  refine lv_icmp_ge (tgt := 41) hx hb kd_Ef_limit_29 (by decide) (fun h29 => ?_) (fun h29 => ?_)
  · skip
    refine lv_iconst (v := 0) hx hb kd_Ef_limit_41 (by decide) ?_
    refine zr_puti hS hK kf_Ef_40 hI ha_a hs_a rfl rfl kd_Ef_limit_42 (fun H locs hI => ?_)
    rw [hix] at hI hl h29
    rw [e3, e4] at h29
    first
      | exact mid _ H locs ls (by rw [if_neg (fun h => nI_ge h (by omega) h29)]; rfl) hl hI
      | exact mid _ H locs ls (by rw [e4, if_pos (Nat.lt_of_not_le (fun h => h29 (nI_le h (by omega))))]; exact (nI_succ pl).symm) hl hI
  · skip
    refine zr_aload_n hx hb kd_Ef_limit_32 hl rfl ?_
    refine zr_geti hS hK kf_Ef_40 hI ha_a hs_a kd_Ef_limit_33 ?_
    refine lv_iconst (v := 1) hx hb kd_Ef_limit_36 (by decide) ?_
    refine lv_iadd hx hb kd_Ef_limit_37 ?_
    refine lv_goto (tgt := 42) hx hb kd_Ef_limit_38 (by decide) ?_
    refine zr_puti hS hK kf_Ef_40 hI ha_a hs_a rfl rfl kd_Ef_limit_42 (fun H locs hI => ?_)
    rw [hix] at hI hl h29
    rw [e3, e4] at h29
    first
      | exact mid _ H locs ls (by rw [if_neg (fun h => nI_ge h (by omega) h29)]; rfl) hl hI
      | exact mid _ H locs ls (by rw [e4, if_pos (Nat.lt_of_not_le (fun h => h29 (nI_le h (by omega))))]; exact (nI_succ pl).symm) hl hI

/-! The mixer's own small methods that look at the takes and at blocks. -/
/-- n is the least open take's number, or 8 if there is none -/
def zf_ot (M : zm_T) (n : Nat) : Prop := n ≤ 8 ∧ (∀ t, t < n → ¬ M.1 (135 + 2 * t) 1 = 0) ∧ (n < 8 → M.1 (135 + 2 * n) 1 = 0)
set_option maxRecDepth 100000 in
set_option maxHeartbeats 4000000 in
theorem c_Mx_leastOpenTake (l : Launch) (G : zg_T) (M : zm_T) (hL : zL M.2)  : Met l ky_Mx_leastOpenTake (zr_ws ky_Mx_leastOpenTake kc_Mx_leastOpenTake 2 (some .int)) (zr_rm 1) (va_Pc [.ref (G.2.2.1 + 0)] (zm_B G 183 zs M)) (va_Qi (fun (r : Int32) (M' : zm_T) => (∃ n, zf_ot M n ∧ r = if n < 8 then nI n else -1) ∧ M' = M) (zm_B G 183 zs) (zm_A G)) 0 0 (zm_A G) := by
  refine zr_met (by decide +kernel) (Nat.le_of_ble_eq_true rfl) ?_
  intro p0 e0 s0 m0 below meth c0 ls hS hK hlk hr hl hI
  have hx := hS.1
  have hb := hS.2.1
  have hl : zl_has ls 2 [some (.ref (G.2.2.1 + 0)), none] := hl
  have loop : ∀ (k c : Nat) (H : Heap) (locs : List Loc) (ls : Array Slot), c + k = 8 → (∀ d, d < c → ¬ M.1 (135 + 2 * d) 1 = 0) → zl_has ls 2 [some (.ref (G.2.2.1 + 0)), some (.int (nI c))] → zm_I G 183 zs M s0 H locs → W p0 l e0 (zr_rm 1) s0 m0 ([.ref (G.2.2.1 + 0)] : List Value).toArray below meth c0 H locs 0 0 (MQ below (va_Qi (fun (r : Int32) (M' : zm_T) => (∃ n, zf_ot M n ∧ r = if n < 8 then nI n else -1) ∧ M' = M) (zm_B G 183 zs) (zm_A G)) ([.ref (G.2.2.1 + 0)] : List Value).toArray s0 0 0 (zm_A G)) (F0 m0 2 ls []) := by
    intro k
    induction k with
    | zero =>
      intro c H locs ls hc hd hl hI
      obtain rfl : c = 8 := by omega
      refine zr_iload_n hx hb kd_Mx_leastOpenTake_2 hl rfl ?_
      refine lv_bipush (v := 8) hx hb kd_Mx_leastOpenTake_3 (by decide) ?_
      refine lv_icmp_ge (tgt := 28) hx hb kd_Mx_leastOpenTake_5 (by decide) (fun h5 => ?_) (fun h5 => absurd (by decide) h5)
      refine lv_iconst (v := -1) hx hb kd_Mx_leastOpenTake_28 (by decide) ?_
      exact zr_iret hS hK hlk hr hI kd_Mx_leastOpenTake_29 (⟨⟨8, ⟨by omega, hd, fun h => absurd h (by omega)⟩, rfl⟩, rfl⟩)
    | succ k ih =>
      intro c H locs ls hc hd hl hI
      have ec : (nI c).toNatClampNeg = c := zn_cl (by omega)
      refine zr_iload_n hx hb kd_Mx_leastOpenTake_2 hl rfl ?_
      refine lv_bipush (v := 8) hx hb kd_Mx_leastOpenTake_3 (by decide) ?_
      refine lv_icmp_ge (tgt := 28) hx hb kd_Mx_leastOpenTake_5 (by decide) (fun h5 => absurd h5 (zn_ge (n := 8) rfl (by omega) (by decide))) (fun h5 => ?_)
      refine zr_aload_n hx hb kd_Mx_leastOpenTake_8 hl rfl ?_
      refine zr_getr hS hK kf_Mx_11 hI ha_MX hs_MX (zL_0 hL).1 kd_Mx_leastOpenTake_9 ?_
      refine zr_iload_n hx hb kd_Mx_leastOpenTake_12 hl rfl ?_
      refine zr_aald hS hK hI ha_MX_0 hs_MX_0 (by decide) (by decide) rfl (vp_in_nI (by omega) (by decide)) (by rw [ec]; exact (zL_tk hL (t := c) (by omega)).1) kd_Mx_leastOpenTake_13 ?_
      refine zr_ci (zr_runV hS hK (c_Ta_isOpen l G 183 zs M (135 + 2 * c) (by omega) (zs_tk c (by omega)).1) km_Mx_37 hI (by omega) (zs_tk c (by omega)).1 rfl hl.1 (Nat.le_of_ble_eq_true rfl) (by decide) (by decide) kd_Mx_leastOpenTake_14 rfl) hI (fun r14 M14 H locs hp14 hI => ?_)
      obtain ⟨rfl, hM14⟩ := hp14
      rw [hM14] at hI
      refine lv_if_eq (tgt := 22) hx hb kd_Mx_leastOpenTake_17 (by decide) (fun h17 => ?_) (fun h17 => ?_)
      · skip
        refine zr_iinc hx hb kd_Mx_leastOpenTake_22 hl (by decide) rfl rfl (fun ls hl => ?_)
        refine lv_goto (tgt := 2) hx hb kd_Mx_leastOpenTake_25 (by decide) ?_
        refine ih (c + 1) H locs ls (by omega) (fun d hd' => ?_) (by rw [nI_succ]; exact hl) hI
        by_cases e : d = c
        · subst e; intro h; rw [if_pos h] at h17; exact absurd h17 (by decide)
        · exact hd d (by omega)
      · skip
        refine zr_iload_n hx hb kd_Mx_leastOpenTake_20 hl rfl ?_
        exact zr_iret hS hK hlk hr hI kd_Mx_leastOpenTake_21 (⟨⟨c, ⟨by omega, hd, fun _ => Decidable.byContradiction (fun h => h17 (if_neg h))⟩, by rw [if_pos (by omega)]⟩, rfl⟩)
  refine lv_iconst (v := 0) hx hb kd_Mx_leastOpenTake_0 (by decide) ?_
  refine zr_istore_n hx hb kd_Mx_leastOpenTake_1 hl (by decide) rfl (fun ls hl => ?_)
  exact loop 8 0 _ _ _ (by omega) (fun d hd => absurd hd (by omega)) hl hI
def zf_blk (f n : Int32) : Int32 := if zf_in n 1 64 = 0 then 0 else if zf_in f 0 (1024 - n) = 0 then 0 else 1
set_option maxRecDepth 100000 in
set_option maxHeartbeats 4000000 in
theorem c_Mx_isBlock (l : Launch) (G : zg_T) (nc : Nat) (sh : Nat → Nat × Nat) (M : zm_T) (f n : Int32) : Met l ky_Mx_isBlock (zr_ws ky_Mx_isBlock kc_Mx_isBlock 2 (some .boolean)) (zr_rm 1) (va_Pc [.int f, .int n] (zm_B G nc sh M)) (va_Qi (fun (r : Int32) (M' : zm_T) => r = zf_blk f n ∧ M' = M) (zm_B G nc sh) (zm_A G)) 0 0 (zm_A G) := by
  refine zr_met (by decide +kernel) (Nat.le_of_ble_eq_true rfl) ?_
  intro p0 e0 s0 m0 below meth c0 ls hS hK hlk hr hl hI
  have hx := hS.1
  have hb := hS.2.1
  have hl : zl_has ls 2 [some (.int f), some (.int n)] := hl
  refine zr_iload_n hx hb kd_Mx_isBlock_0 hl rfl ?_
  refine lv_iconst (v := 1) hx hb kd_Mx_isBlock_1 (by decide) ?_
  refine lv_bipush (v := 64) hx hb kd_Mx_isBlock_2 (by decide) ?_
  refine zr_ci (zr_runS hS hK (c_Mx_within l G nc sh M _ _ _) km_Mx_30 hI rfl hl.1 (Nat.le_of_ble_eq_true rfl) (by decide) (by decide) kd_Mx_isBlock_4 rfl) hI (fun r4 M4 H locs hp4 hI => ?_)
  obtain ⟨rfl, hM4⟩ := hp4
  rw [hM4] at hI
  refine lv_if_eq (tgt := 27) hx hb kd_Mx_isBlock_7 (by decide) (fun h7 => ?_) (fun h7 => ?_)
  · skip
    refine lv_iconst (v := 0) hx hb kd_Mx_isBlock_27 (by decide) ?_
    exact zr_zret hS hK hlk hr (by decide) hI kd_Mx_isBlock_28 (⟨by simp [zf_blk, *], rfl⟩)
  · skip
    refine zr_iload_n hx hb kd_Mx_isBlock_10 hl rfl ?_
    refine lv_iconst (v := 0) hx hb kd_Mx_isBlock_11 (by decide) ?_
    refine lv_sipush (v := 1024) hx hb kd_Mx_isBlock_12 (by decide) ?_
    refine zr_iload_n hx hb kd_Mx_isBlock_15 hl rfl ?_
    refine lv_isub hx hb kd_Mx_isBlock_16 ?_
    refine zr_ci (zr_runS hS hK (c_Mx_within l G nc sh M _ _ _) km_Mx_30 hI rfl hl.1 (Nat.le_of_ble_eq_true rfl) (by decide) (by decide) kd_Mx_isBlock_17 rfl) hI (fun r17 M17 H locs hp17 hI => ?_)
    obtain ⟨rfl, hM17⟩ := hp17
    rw [hM17] at hI
    refine lv_if_eq (tgt := 27) hx hb kd_Mx_isBlock_20 (by decide) (fun h20 => ?_) (fun h20 => ?_)
    · skip
      refine lv_iconst (v := 0) hx hb kd_Mx_isBlock_27 (by decide) ?_
      exact zr_zret hS hK hlk hr (by decide) hI kd_Mx_isBlock_28 (⟨by simp [zf_blk, *], rfl⟩)
    · skip
      refine lv_iconst (v := 1) hx hb kd_Mx_isBlock_23 (by decide) ?_
      refine lv_goto (tgt := 28) hx hb kd_Mx_isBlock_24 (by decide) ?_
      exact zr_zret hS hK hlk hr (by decide) hI kd_Mx_isBlock_28 (⟨by simp [zf_blk, *], rfl⟩)

/-! The shelf: clip c lies at 4 + c. -/
theorem zf_in_01 (x lo hi : Int32) : zf_in x lo hi = 0 ∨ zf_in x lo hi = 1 := by
  unfold zf_in
  split
  · exact Or.inl rfl
  · split
    · exact Or.inl rfl
    · exact Or.inr rfl
theorem zf_in_n {x : Int32} {n : Nat} {hi : Int32} (hh : hi.toInt = n) (h : ¬ zf_in x 0 hi = 0) : ∃ c : Nat, c ≤ n ∧ x = nI c := by
  unfold zf_in at h
  split at h
  · exact absurd rfl h
  · rename_i h1
    split at h
    · exact absurd rfl h
    · rename_i h2
      rw [Int32.lt_iff_toInt_lt] at h1 h2
      rw [show (0 : Int32).toInt = 0 from by decide] at h1
      refine ⟨x.toInt.toNat, by omega, ?_⟩
      refine Int32.toInt_inj.mp ?_
      have := Int32.toInt_lt x
      rw [nI_toInt (by omega)]
      omega
theorem zn_ne0 {n : Nat} (h : n < 2147483647) : ¬ nI (n + 1) = 0 := fun hh => by
  have := congrArg Int32.toInt hh
  rw [nI_toInt (by omega)] at this
  exact absurd this (by rw [show (0 : Int32).toInt = 0 from by decide]; omega)
def zf_has (M : zm_T) (c : Int32) : Int32 := if zf_in c 0 15 = 0 then 0 else if M.1 (4 + c.toNatClampNeg) 4 ≤ 0 then 0 else 1
set_option maxRecDepth 100000 in
set_option maxHeartbeats 4000000 in
theorem c_Sh_has (l : Launch) (G : zg_T) (M : zm_T) (hL : zL M.2) (c : Int32) : Met l ky_Sh_has (zr_ws ky_Sh_has kc_Sh_has 2 (some .boolean)) (zr_rm 1) (va_Pc [.ref (G.2.2.1 + 2), .int c] (zm_B G 183 zs M)) (va_Qi (fun (r : Int32) (M' : zm_T) => r = zf_has M c ∧ M' = M) (zm_B G 183 zs) (zm_A G)) 0 0 (zm_A G) := by
  refine zr_met (by decide +kernel) (Nat.le_of_ble_eq_true rfl) ?_
  intro p0 e0 s0 m0 below meth c0 ls hS hK hlk hr hl hI
  have hx := hS.1
  have hb := hS.2.1
  have hl : zl_has ls 2 [some (.ref (G.2.2.1 + 2)), some (.int c)] := hl
  have hin : ¬ zf_in c 0 15 = 0 → vp_in c 16 ∧ M.2.1 3 c.toNatClampNeg = some (4 + c.toNatClampNeg) ∧ 4 + c.toNatClampNeg < 183 ∧ zs (4 + c.toNatClampNeg) = (10 + 0, 0) := fun h => by
    obtain ⟨n, hn, rfl⟩ := zf_in_n (n := 15) (by decide) h
    rw [zn_cl (by omega)]
    exact ⟨vp_in_nI (by omega) (by decide), zL_cl hL (by omega), by omega, zs_cl n (by omega)⟩
  refine zr_iload_n hx hb kd_Sh_has_0 hl rfl ?_
  refine lv_iconst (v := 0) hx hb kd_Sh_has_1 (by decide) ?_
  refine lv_bipush (v := 15) hx hb kd_Sh_has_2 (by decide) ?_
  refine zr_ci (zr_runS hS hK (c_Mx_within l G 183 zs M _ _ _) km_Sh_18 hI rfl hl.1 (Nat.le_of_ble_eq_true rfl) (by decide) (by decide) kd_Sh_has_4 rfl) hI (fun r4 M4 H locs hp4 hI => ?_)
  obtain ⟨rfl, hM4⟩ := hp4
  rw [hM4] at hI
  refine lv_if_eq (tgt := 26) hx hb kd_Sh_has_7 (by decide) (fun h7 => ?_) (fun h7 => ?_)
  · skip
    refine lv_iconst (v := 0) hx hb kd_Sh_has_26 (by decide) ?_
    exact zr_zret hS hK hlk hr (by decide) hI kd_Sh_has_27 (⟨by simp [zf_has, *], rfl⟩)
  · skip
    refine zr_aload_n hx hb kd_Sh_has_10 hl rfl ?_
    refine zr_getr hS hK kf_Sh_11 hI ha_SH hs_SH (zL_0 hL).2.2.2.1 kd_Sh_has_11 ?_
    refine zr_iload_n hx hb kd_Sh_has_14 hl rfl ?_
    refine zr_aald hS hK hI ha_SH_0 hs_SH_0 (by decide) (by decide) rfl (hin h7).1 (hin h7).2.1 kd_Sh_has_15 ?_
    refine zr_geti hS hK kf_Sh_22 hI (hin h7).2.2.1 (hin h7).2.2.2 kd_Sh_has_16 ?_
    refine lv_if_le (tgt := 26) hx hb kd_Sh_has_19 (by decide) (fun h19 => ?_) (fun h19 => ?_)
    · skip
      refine lv_iconst (v := 0) hx hb kd_Sh_has_26 (by decide) ?_
      exact zr_zret hS hK hlk hr (by decide) hI kd_Sh_has_27 (⟨by simp [zf_has, *], rfl⟩)
    · skip
      refine lv_iconst (v := 1) hx hb kd_Sh_has_22 (by decide) ?_
      refine lv_goto (tgt := 27) hx hb kd_Sh_has_23 (by decide) ?_
      exact zr_zret hS hK hlk hr (by decide) hI kd_Sh_has_27 (⟨by simp [zf_has, *], rfl⟩)
/-- n is the least free number, or 16 if there is none -/
def zf_fr (M : zm_T) (n : Nat) : Prop := n ≤ 16 ∧ (∀ c, c < n → ¬ M.1 (4 + c) 4 = 0) ∧ (n < 16 → M.1 (4 + n) 4 = 0)
set_option maxRecDepth 100000 in
set_option maxHeartbeats 4000000 in
theorem c_Sh_leastFree (l : Launch) (G : zg_T) (M : zm_T) (hL : zL M.2)  : Met l ky_Sh_leastFree (zr_ws ky_Sh_leastFree kc_Sh_leastFree 2 (some .int)) (zr_rm 1) (va_Pc [.ref (G.2.2.1 + 2)] (zm_B G 183 zs M)) (va_Qi (fun (r : Int32) (M' : zm_T) => (∃ n, zf_fr M n ∧ r = if n < 16 then nI n else -1) ∧ M' = M) (zm_B G 183 zs) (zm_A G)) 0 0 (zm_A G) := by
  refine zr_met (by decide +kernel) (Nat.le_of_ble_eq_true rfl) ?_
  intro p0 e0 s0 m0 below meth c0 ls hS hK hlk hr hl hI
  have hx := hS.1
  have hb := hS.2.1
  have hl : zl_has ls 2 [some (.ref (G.2.2.1 + 2)), none] := hl
  have loop : ∀ (k c : Nat) (H : Heap) (locs : List Loc) (ls : Array Slot), c + k = 16 → (∀ d, d < c → ¬ M.1 (4 + d) 4 = 0) → zl_has ls 2 [some (.ref (G.2.2.1 + 2)), some (.int (nI c))] → zm_I G 183 zs M s0 H locs → W p0 l e0 (zr_rm 1) s0 m0 ([.ref (G.2.2.1 + 2)] : List Value).toArray below meth c0 H locs 0 0 (MQ below (va_Qi (fun (r : Int32) (M' : zm_T) => (∃ n, zf_fr M n ∧ r = if n < 16 then nI n else -1) ∧ M' = M) (zm_B G 183 zs) (zm_A G)) ([.ref (G.2.2.1 + 2)] : List Value).toArray s0 0 0 (zm_A G)) (F0 m0 2 ls []) := by
    intro k
    induction k with
    | zero =>
      intro c H locs ls hc hd hl hI
      obtain rfl : c = 16 := by omega
      refine zr_iload_n hx hb kd_Sh_leastFree_2 hl rfl ?_
      refine lv_bipush (v := 16) hx hb kd_Sh_leastFree_3 (by decide) ?_
      refine lv_icmp_ge (tgt := 28) hx hb kd_Sh_leastFree_5 (by decide) (fun h5 => ?_) (fun h5 => absurd (by decide) h5)
      refine lv_iconst (v := -1) hx hb kd_Sh_leastFree_28 (by decide) ?_
      exact zr_iret hS hK hlk hr hI kd_Sh_leastFree_29 (⟨⟨16, ⟨by omega, hd, fun h => absurd h (by omega)⟩, rfl⟩, rfl⟩)
    | succ k ih =>
      intro c H locs ls hc hd hl hI
      have ec : (nI c).toNatClampNeg = c := zn_cl (by omega)
      refine zr_iload_n hx hb kd_Sh_leastFree_2 hl rfl ?_
      refine lv_bipush (v := 16) hx hb kd_Sh_leastFree_3 (by decide) ?_
      refine lv_icmp_ge (tgt := 28) hx hb kd_Sh_leastFree_5 (by decide) (fun h5 => absurd h5 (zn_ge (n := 16) rfl (by omega) (by decide))) (fun h5 => ?_)
      refine zr_aload_n hx hb kd_Sh_leastFree_8 hl rfl ?_
      refine zr_getr hS hK kf_Sh_11 hI ha_SH hs_SH (zL_0 hL).2.2.2.1 kd_Sh_leastFree_9 ?_
      refine zr_iload_n hx hb kd_Sh_leastFree_12 hl rfl ?_
      refine zr_aald hS hK hI ha_SH_0 hs_SH_0 (by decide) (by decide) rfl (vp_in_nI (by omega) (by decide)) (by rw [ec]; exact zL_cl hL (by omega)) kd_Sh_leastFree_13 ?_
      refine zr_geti hS hK kf_Sh_22 hI (by omega) (zs_cl c (by omega)) kd_Sh_leastFree_14 ?_
      refine lv_if_ne (tgt := 22) hx hb kd_Sh_leastFree_17 (by decide) (fun h17 => ?_) (fun h17 => ?_)
      · skip
        refine zr_iinc hx hb kd_Sh_leastFree_22 hl (by decide) rfl rfl (fun ls hl => ?_)
        refine lv_goto (tgt := 2) hx hb kd_Sh_leastFree_25 (by decide) ?_
        refine ih (c + 1) H locs ls (by omega) (fun d hd' => ?_) (by rw [nI_succ]; exact hl) hI
        by_cases e : d = c
        · subst e; exact h17
        · exact hd d (by omega)
      · skip
        refine zr_iload_n hx hb kd_Sh_leastFree_20 hl rfl ?_
        exact zr_iret hS hK hlk hr hI kd_Sh_leastFree_21 (⟨⟨c, ⟨by omega, hd, fun _ => h17⟩, by rw [if_pos (by omega)]⟩, rfl⟩)
  refine lv_iconst (v := 0) hx hb kd_Sh_leastFree_0 (by decide) ?_
  refine zr_istore_n hx hb kd_Sh_leastFree_1 hl (by decide) rfl (fun ls hl => ?_)
  exact loop 16 0 _ _ _ (by omega) (fun d hd => absurd hd (by omega)) hl hI
theorem zf_lies_01 (M : zm_T) (a : Nat) (t x y : Int32) : zf_lies M a t x y = 0 ∨ zf_lies M a t x y = 1 := by
  unfold zf_lies
  (repeat' split) <;> simp
set_option maxRecDepth 100000 in
set_option maxHeartbeats 4000000 in
theorem c_Sh_overlaps (l : Launch) (G : zg_T) (M : zm_T) (hL : zL M.2) (x t a n : Int32) : Met l ky_Sh_overlaps (zr_ws ky_Sh_overlaps kc_Sh_overlaps 6 (some .boolean)) (zr_rm 1) (va_Pc [.ref (G.2.2.1 + 2), .int x, .int t, .int a, .int n] (zm_B G 183 zs M)) (va_Qi (fun (r : Int32) (M' : zm_T) => ((r = 1 ∧ ∃ c, c < 16 ∧ ¬ nI c = x ∧ zf_lies M (4 + c) t a n = 1) ∨ (r = 0 ∧ ∀ c, c < 16 → nI c = x ∨ zf_lies M (4 + c) t a n = 0)) ∧ M' = M) (zm_B G 183 zs) (zm_A G)) 0 0 (zm_A G) := by
  refine zr_met (by decide +kernel) (Nat.le_of_ble_eq_true rfl) ?_
  intro p0 e0 s0 m0 below meth c0 ls hS hK hlk hr hl hI
  have hx := hS.1
  have hb := hS.2.1
  have hl : zl_has ls 6 [some (.ref (G.2.2.1 + 2)), some (.int x), some (.int t), some (.int a), some (.int n), none] := hl
  have loop : ∀ (k c : Nat) (H : Heap) (locs : List Loc) (ls : Array Slot), c + k = 16 → (∀ d, d < c → nI d = x ∨ zf_lies M (4 + d) t a n = 0) → zl_has ls 6 [some (.ref (G.2.2.1 + 2)), some (.int x), some (.int t), some (.int a), some (.int n), some (.int (nI c))] → zm_I G 183 zs M s0 H locs → W p0 l e0 (zr_rm 1) s0 m0 ([.ref (G.2.2.1 + 2), .int x, .int t, .int a, .int n] : List Value).toArray below meth c0 H locs 0 0 (MQ below (va_Qi (fun (r : Int32) (M' : zm_T) => ((r = 1 ∧ ∃ c, c < 16 ∧ ¬ nI c = x ∧ zf_lies M (4 + c) t a n = 1) ∨ (r = 0 ∧ ∀ c, c < 16 → nI c = x ∨ zf_lies M (4 + c) t a n = 0)) ∧ M' = M) (zm_B G 183 zs) (zm_A G)) ([.ref (G.2.2.1 + 2), .int x, .int t, .int a, .int n] : List Value).toArray s0 0 0 (zm_A G)) (F0 m0 3 ls []) := by
    intro k
    induction k with
    | zero =>
      intro c H locs ls hc hd hl hI
      obtain rfl : c = 16 := by omega
      refine zr_iload hx hb kd_Sh_overlaps_3 hl rfl ?_
      refine lv_bipush (v := 16) hx hb kd_Sh_overlaps_5 (by decide) ?_
      refine lv_icmp_ge (tgt := 41) hx hb kd_Sh_overlaps_7 (by decide) (fun h7 => ?_) (fun h7 => absurd (by decide) h7)
      refine lv_iconst (v := 0) hx hb kd_Sh_overlaps_41 (by decide) ?_
      exact zr_zret hS hK hlk hr (by decide) hI kd_Sh_overlaps_42 (⟨Or.inr ⟨rfl, hd⟩, rfl⟩)
    | succ k ih =>
      intro c H locs ls hc hd hl hI
      have ec : (nI c).toNatClampNeg = c := zn_cl (by omega)
      refine zr_iload hx hb kd_Sh_overlaps_3 hl rfl ?_
      refine lv_bipush (v := 16) hx hb kd_Sh_overlaps_5 (by decide) ?_
      refine lv_icmp_ge (tgt := 41) hx hb kd_Sh_overlaps_7 (by decide) (fun h7 => absurd h7 (zn_ge (n := 16) rfl (by omega) (by decide))) (fun h7 => ?_)
      refine zr_iload hx hb kd_Sh_overlaps_10 hl rfl ?_
      refine zr_iload_n hx hb kd_Sh_overlaps_12 hl rfl ?_
      refine lv_icmp_eq (tgt := 35) hx hb kd_Sh_overlaps_13 (by decide) (fun h13 => ?_) (fun h13 => ?_)
      · skip
        refine zr_iinc hx hb kd_Sh_overlaps_35 hl (by decide) rfl rfl (fun ls hl => ?_)
        refine lv_goto (tgt := 3) hx hb kd_Sh_overlaps_38 (by decide) ?_
        refine ih (c + 1) H locs ls (by omega) (fun d hd' => ?_) (by rw [nI_succ]; exact hl) hI
        by_cases e : d = c
        · subst e; first | exact Or.inl h13 | exact Or.inr h30
        · exact hd d (by omega)
      · skip
        refine zr_aload_n hx hb kd_Sh_overlaps_16 hl rfl ?_
        refine zr_getr hS hK kf_Sh_11 hI ha_SH hs_SH (zL_0 hL).2.2.2.1 kd_Sh_overlaps_17 ?_
        refine zr_iload hx hb kd_Sh_overlaps_20 hl rfl ?_
        refine zr_aald hS hK hI ha_SH_0 hs_SH_0 (by decide) (by decide) rfl (vp_in_nI (by omega) (by decide)) (by rw [ec]; exact zL_cl hL (by omega)) kd_Sh_overlaps_22 ?_
        refine zr_iload_n hx hb kd_Sh_overlaps_23 hl rfl ?_
        refine zr_iload_n hx hb kd_Sh_overlaps_24 hl rfl ?_
        refine zr_iload hx hb kd_Sh_overlaps_25 hl rfl ?_
        refine zr_ci (zr_runV hS hK (c_Cl_liesIn l G 183 zs M (4 + c) _ _ _ (by omega) (zs_cl c (by omega))) km_Sh_26 hI (by omega) (zs_cl c (by omega)) rfl hl.1 (Nat.le_of_ble_eq_true rfl) (by decide) (by decide) kd_Sh_overlaps_27 rfl) hI (fun r27 M27 H locs hp27 hI => ?_)
        obtain ⟨rfl, hM27⟩ := hp27
        rw [hM27] at hI
        refine lv_if_eq (tgt := 35) hx hb kd_Sh_overlaps_30 (by decide) (fun h30 => ?_) (fun h30 => ?_)
        · skip
          refine zr_iinc hx hb kd_Sh_overlaps_35 hl (by decide) rfl rfl (fun ls hl => ?_)
          refine lv_goto (tgt := 3) hx hb kd_Sh_overlaps_38 (by decide) ?_
          refine ih (c + 1) H locs ls (by omega) (fun d hd' => ?_) (by rw [nI_succ]; exact hl) hI
          by_cases e : d = c
          · subst e; first | exact Or.inl h13 | exact Or.inr h30
          · exact hd d (by omega)
        · skip
          refine lv_iconst (v := 1) hx hb kd_Sh_overlaps_33 (by decide) ?_
          exact zr_zret hS hK hlk hr (by decide) hI kd_Sh_overlaps_34 (⟨Or.inl ⟨rfl, c, by omega, h13, (zf_lies_01 M (4 + c) t a n).resolve_left h30⟩, rfl⟩)
  refine lv_iconst (v := 0) hx hb kd_Sh_overlaps_0 (by decide) ?_
  refine zr_istore hx hb kd_Sh_overlaps_1 hl (by decide) rfl (fun ls hl => ?_)
  exact loop 16 0 _ _ _ (by omega) (fun d hd => absurd hd (by omega)) hl hI
/-- a clip that is there, with its take, place, part, level and ramps -/
def zC (M : zm_T) (c : Nat) : Prop := ∃ t tr a f n lv i o : Nat, t < 8 ∧ M.2.1 (4 + c) 0 = some (135 + 2 * t) ∧ tr < 4 ∧ M.1 (4 + c) 1 = nI tr ∧ M.1 (4 + c) 2 = nI a ∧ M.1 (4 + c) 3 = nI f ∧ M.1 (4 + c) 4 = nI n ∧ 1 ≤ n ∧ f + n ≤ 64 ∧ a + n ≤ 1024 ∧ M.1 (4 + c) 5 = nI lv ∧ lv ≤ 1024 ∧ M.1 (4 + c) 6 = nI i ∧ M.1 (4 + c) 7 = nI o ∧ i + o ≤ n
def zf_cv (M : zm_T) (c k : Nat) : Int32 := zf_val (M.1 ((M.2.1 (4 + c) 0).getD 0 + 1) ((M.1 (4 + c) 3).toNatClampNeg + k)) (M.1 (4 + c) 5) (nI k) (M.1 (4 + c) 6) (M.1 (4 + c) 7) (M.1 (4 + c) 4)
def zf_cp (M : zm_T) (c e : Nat) : Nat := min (M.1 (4 + c) 4).toNatClampNeg (e - (M.1 (4 + c) 2).toNatClampNeg)
def zf_lay (M : zm_T) (s : Nat) (tr : Int32) (e : Nat) : Nat → zm_T
  | 0 => zm_seg M (30 + 14 * s) 0 e (fun _ => 0)
  | c + 1 => if zf_lies M (4 + c) tr 0 (nI e) = 0 then zf_lay M s tr e c else zm_seg (zf_lay M s tr e c) (30 + 14 * s) (M.1 (4 + c) 2).toNatClampNeg (zf_cp M c e) (zf_cv M c)
theorem zf_lay_2 (M : zm_T) (s : Nat) (tr : Int32) (e : Nat) : ∀ c, (zf_lay M s tr e c).2 = M.2
  | 0 => rfl
  | c + 1 => by
    unfold zf_lay
    split
    · exact zf_lay_2 M s tr e c
    · exact zf_lay_2 M s tr e c
theorem zf_lay_o {M : zm_T} {s : Nat} {tr : Int32} {e d j : Nat} (h : d ≠ 30 + 14 * s) : ∀ c, (zf_lay M s tr e c).1 d j = M.1 d j
  | 0 => zm_seg_out (Or.inl h)
  | c + 1 => by
    unfold zf_lay
    split
    · exact zf_lay_o h c
    · rw [zm_seg_out (Or.inl h)]; exact zf_lay_o h c
theorem zf_lies_c {M M1 : zm_T} {a : Nat} {t x y : Int32} (h : ∀ j, M1.1 a j = M.1 a j) : zf_lies M1 a t x y = zf_lies M a t x y := by
  unfold zf_lies
  rw [h, h, h]
theorem zf_lies_pos {M : zm_T} {a : Nat} {t x y : Int32} (h : ¬ zf_lies M a t x y = 0) : ¬ M.1 a 4 ≤ 0 ∧ M.1 a 1 = t ∧ ¬ x + y ≤ M.1 a 2 ∧ ¬ M.1 a 2 + M.1 a 4 ≤ x := by
  unfold zf_lies at h
  split at h
  · exact absurd rfl h
  rename_i h1
  split at h
  · exact absurd rfl h
  rename_i h2
  split at h
  · exact absurd rfl h
  rename_i h3
  split at h
  · exact absurd rfl h
  rename_i h4
  exact ⟨h1, Decidable.not_not.mp h2, h3, h4⟩
set_option maxRecDepth 100000 in
set_option maxHeartbeats 4000000 in
theorem c_Sh_layOut (l : Launch) (G : zg_T) (M : zm_T) (hL : zL M.2) (s e : Nat) (tr : Int32) (hs : s < 8) (he : e ≤ 1024) (hC : ∀ c, c < 16 → ¬ M.1 (4 + c) 4 ≤ 0 → zC M c) : Met l ky_Sh_layOut (zr_ws ky_Sh_layOut kc_Sh_layOut 8 none) (zr_rm 2) (va_Pc [.ref (G.2.2.1 + 2), .int tr, .ref (G.2.2.1 + (30 + 14 * s)), .int (nI e)] (zm_B G 183 zs M)) (va_Qv (fun (M' : zm_T) => M' = zf_lay M s tr e 16) (zm_B G 183 zs) (zm_A G)) 0 0 (zm_A G) := by
  refine zr_met (by decide +kernel) (Nat.le_of_ble_eq_true rfl) ?_
  intro p0 e0 s0 m0 below meth c0 ls hS hK hlk hr hl hI
  have hx := hS.1
  have hb := hS.2.1
  have hl : zl_has ls 8 [some (.ref (G.2.2.1 + 2)), some (.int tr), some (.ref (G.2.2.1 + (30 + 14 * s))), some (.int (nI e)), none, none, none, none] := hl
  have ha_w : 30 + 14 * s < 183 := by omega
  have hs_w : zs (30 + 14 * s) = (0, 1024) := zs_st7 s hs
  have loop : ∀ (k c : Nat) (o1 o2 o3 : Option Value) (H : Heap) (locs : List Loc) (ls : Array Slot), c + k = 16 → zl_has ls 8 [some (.ref (G.2.2.1 + 2)), some (.int tr), some (.ref (G.2.2.1 + (30 + 14 * s))), some (.int (nI e)), some (.int (nI c)), o1, o2, o3] → zm_I G 183 zs (zf_lay M s tr e c) s0 H locs → W p0 l e0 (zr_rm 2) s0 m0 ([.ref (G.2.2.1 + 2), .int tr, .ref (G.2.2.1 + (30 + 14 * s)), .int (nI e)] : List Value).toArray below meth c0 H locs 0 0 (MQ below (va_Qv (fun (M' : zm_T) => M' = zf_lay M s tr e 16) (zm_B G 183 zs) (zm_A G)) ([.ref (G.2.2.1 + 2), .int tr, .ref (G.2.2.1 + (30 + 14 * s)), .int (nI e)] : List Value).toArray s0 0 0 (zm_A G)) (F0 m0 10 ls []) := by
    intro k
    induction k with
    | zero =>
      intro c o1 o2 o3 H locs ls hc hl hI
      obtain rfl : c = 16 := by omega
      refine zr_iload hx hb kd_Sh_layOut_10 hl rfl ?_
      refine lv_bipush (v := 16) hx hb kd_Sh_layOut_12 (by decide) ?_
      refine lv_icmp_ge (tgt := 93) hx hb kd_Sh_layOut_14 (by decide) (fun h14 => ?_) (fun h14 => absurd (by decide) h14)
      exact zr_vret hS hK hlk hr hI kd_Sh_layOut_93 (rfl)
    | succ k ih =>
      intro c o1 o2 o3 H locs ls hc hl hI
      have ec : (nI c).toNatClampNeg = c := zn_cl (by omega)
      have ha_C : 4 + c < 183 := by omega
      have hs_C := zs_cl c (by omega)
      have hLc : zL (zf_lay M s tr e c).2 := by rw [zf_lay_2]; exact hL
      have hlie : zf_lies (zf_lay M s tr e c) (4 + c) tr 0 (nI e) = zf_lies M (4 + c) tr 0 (nI e) := zf_lies_c (fun j => zf_lay_o (by omega) c)
      have inner : ¬ zf_lies M (4 + c) tr 0 (nI e) = 0 → (if nI e - (zf_lay M s tr e c).1 (4 + c) 2 < (zf_lay M s tr e c).1 (4 + c) 4 then nI e - (zf_lay M s tr e c).1 (4 + c) 2 else (zf_lay M s tr e c).1 (4 + c) 4) = nI (zf_cp M c e) ∧ ∀ (q d : Nat) (H : Heap) (locs : List Loc) (ls : Array Slot), d + q = zf_cp M c e → zl_has ls 8 [some (.ref (G.2.2.1 + 2)), some (.int tr), some (.ref (G.2.2.1 + (30 + 14 * s))), some (.int (nI e)), some (.int (nI c)), some (.ref (G.2.2.1 + (4 + c))), some (.int (nI (zf_cp M c e))), some (.int (nI d))] → zm_I G 183 zs (zm_seg (zf_lay M s tr e c) (30 + 14 * s) (M.1 (4 + c) 2).toNatClampNeg d (zf_cv M c)) s0 H locs → W p0 l e0 (zr_rm 2) s0 m0 ([.ref (G.2.2.1 + 2), .int tr, .ref (G.2.2.1 + (30 + 14 * s)), .int (nI e)] : List Value).toArray below meth c0 H locs 0 0 (MQ below (va_Qv (fun (M' : zm_T) => M' = zf_lay M s tr e 16) (zm_B G 183 zs) (zm_A G)) ([.ref (G.2.2.1 + 2), .int tr, .ref (G.2.2.1 + (30 + 14 * s)), .int (nI e)] : List Value).toArray s0 0 0 (zm_A G)) (F0 m0 57 ls []) := by
        intro h34
        have hlp := zf_lies_pos h34
        obtain ⟨t, tr', a, f, n, lv, i, o, ht, hv0, -, -, hA, hF, hN, hn1, hfn, han, -, -, hi, ho, hio⟩ := hC c (by omega) hlp.1
        have hae : a < e := by
          have h := hlp.2.2.1
          rw [hA] at h
          by_cases h2 : e ≤ a
          · exact absurd (by rw [show (0 : Int32) + nI e = nI e from by rw [Int32.zero_add]]; exact nI_le h2 (by omega)) h
          · omega
        have hpl : (if nI e - (zf_lay M s tr e c).1 (4 + c) 2 < (zf_lay M s tr e c).1 (4 + c) 4 then nI e - (zf_lay M s tr e c).1 (4 + c) 2 else (zf_lay M s tr e c).1 (4 + c) 4) = nI (zf_cp M c e) := by
          unfold zf_cp
          rw [zf_lay_o (by omega), zf_lay_o (by omega), hA, hN, pk_sub (by omega), zn_cl (by omega), zn_cl (by omega)]
          by_cases h2 : e - a < n
          · rw [if_pos (nI_lt h2 (by omega)), Nat.min_eq_right (by omega)]
          · rw [if_neg (Int32.not_lt.mpr (nI_le (by omega) (by omega))), Nat.min_eq_left (by omega)]
        have hcp : zf_cp M c e = min n (e - a) := by unfold zf_cp; rw [hA, hN, zn_cl (by omega), zn_cl (by omega)]
        have ea : (M.1 (4 + c) 2).toNatClampNeg = a := by rw [hA]; exact zn_cl (by omega)
        have ef : (M.1 (4 + c) 3).toNatClampNeg = f := by rw [hF]; exact zn_cl (by omega)
        refine ⟨hpl, ?_⟩
        intro q
        induction q with
        | zero =>
          intro d H locs ls hd hl hI
          obtain rfl : d = zf_cp M c e := by omega
          refine zr_iload hx hb kd_Sh_layOut_57 hl rfl ?_
          refine zr_iload hx hb kd_Sh_layOut_59 hl rfl ?_
          refine lv_icmp_ge (tgt := 87) hx hb kd_Sh_layOut_61 (by decide) (fun h61 => ?_) (fun h61 => absurd (Int32.le_refl _) h61)
          refine zr_iinc hx hb kd_Sh_layOut_87 hl (by decide) rfl rfl (fun ls hl => ?_)
          refine lv_goto (tgt := 10) hx hb kd_Sh_layOut_90 (by decide) ?_
          refine ih (c + 1) _ _ _ H locs ls (by omega) (by rw [nI_succ]; exact hl) ?_
          rw [zf_lay, if_neg h34]
          exact hI
        | succ q ihq =>
          intro d H locs ls hd hl hI
          have hr2 : ∀ b j, b ≠ 30 + 14 * s → (zm_seg (zf_lay M s tr e c) (30 + 14 * s) (M.1 (4 + c) 2).toNatClampNeg d (zf_cv M c)).1 b j = M.1 b j := fun b j hb => by rw [zm_seg_out (Or.inl hb)]; exact zf_lay_o hb c
          have h2eq : (zm_seg (zf_lay M s tr e c) (30 + 14 * s) (M.1 (4 + c) 2).toNatClampNeg d (zf_cv M c)).2 = M.2 := zf_lay_2 M s tr e c
          refine zr_iload hx hb kd_Sh_layOut_57 hl rfl ?_
          refine zr_iload hx hb kd_Sh_layOut_59 hl rfl ?_
          refine lv_icmp_ge (tgt := 87) hx hb kd_Sh_layOut_61 (by decide) (fun h61 => absurd h61 (nI_ge (by omega) (by omega))) (fun h61 => ?_)
          refine zr_aload_n hx hb kd_Sh_layOut_64 hl rfl ?_
          refine zr_aload hx hb kd_Sh_layOut_65 hl rfl ?_
          refine zr_geti hS hK kf_Sh_35 hI ha_C hs_C kd_Sh_layOut_67 ?_
          refine zr_iload hx hb kd_Sh_layOut_70 hl rfl ?_
          refine lv_iadd hx hb kd_Sh_layOut_72 ?_
          refine zr_aload hx hb kd_Sh_layOut_73 hl rfl ?_
          refine zr_iload hx hb kd_Sh_layOut_75 hl rfl ?_
          refine zr_ci (zr_runV hS hK (c_Cl_valueAt l G 183 zs _ (4 + c) (135 + 2 * t) (136 + 2 * t) f d ha_C hs_C (by rw [h2eq]; exact hv0) (by omega) (zs_tk t ht).1 (by rw [h2eq]; exact (zL_tk hL ht).2) (by omega) (zs_tk t ht).2 (by rw [hr2 _ _ (by omega)]; exact hF) (by omega) (by rw [hr2 _ _ (by omega), hi, ← nI_succ]; exact zn_ne0 (by omega)) (by rw [hr2 _ _ (by omega), ho, ← nI_succ]; exact zn_ne0 (by omega))) km_Sh_44 hI ha_C hs_C rfl hl.1 (Nat.le_of_ble_eq_true rfl) (by decide) (by decide) kd_Sh_layOut_77 rfl) hI (fun r77 M77 H locs hp77 hI => ?_)
          obtain ⟨rfl, hM77⟩ := hp77
          rw [hM77] at hI
          refine zr_iast hS hK hI ha_w hs_w (by rw [hr2 _ _ (by omega), hA, nI_add]; exact vp_in_nI (by omega) (by decide)) kd_Sh_layOut_80 (fun H locs hI => ?_)
          refine zr_iinc hx hb kd_Sh_layOut_81 hl (by decide) rfl rfl (fun ls hl => ?_)
          refine lv_goto (tgt := 57) hx hb kd_Sh_layOut_84 (by decide) ?_
          refine ihq (d + 1) H locs ls (by omega) (by rw [nI_succ]; exact hl) ?_
          rw [← zm_seg_s]
          have e1 : ((zm_seg (zf_lay M s tr e c) (30 + 14 * s) (M.1 (4 + c) 2).toNatClampNeg d (zf_cv M c)).1 (4 + c) 2 + nI d).toNatClampNeg = (M.1 (4 + c) 2).toNatClampNeg + d := by
            rw [hr2 _ _ (by omega), ea, hA]; exact zn_idx (by omega)
          have e2 : zf_cv M c d = zf_val (M.1 (136 + 2 * t) (f + d)) (M.1 (4 + c) 5) (nI d) (M.1 (4 + c) 6) (M.1 (4 + c) 7) (M.1 (4 + c) 4) := by
            unfold zf_cv; rw [hv0, ef, show (some (135 + 2 * t)).getD 0 + 1 = 136 + 2 * t from by show 135 + 2 * t + 1 = _; omega]
          rw [e1, hr2 (136 + 2 * t) _ (by omega), hr2 (4 + c) _ (by omega), hr2 (4 + c) _ (by omega), hr2 (4 + c) _ (by omega), hr2 (4 + c) _ (by omega), ← e2] at hI
          exact hI
      refine zr_iload hx hb kd_Sh_layOut_10 hl rfl ?_
      refine lv_bipush (v := 16) hx hb kd_Sh_layOut_12 (by decide) ?_
      refine lv_icmp_ge (tgt := 93) hx hb kd_Sh_layOut_14 (by decide) (fun h14 => absurd h14 (zn_ge (n := 16) rfl (by omega) (by decide))) (fun h14 => ?_)
      refine zr_aload_n hx hb kd_Sh_layOut_17 hl rfl ?_
      refine zr_getr hS hK kf_Sh_11 hI ha_SH hs_SH (zL_0 hLc).2.2.2.1 kd_Sh_layOut_18 ?_
      refine zr_iload hx hb kd_Sh_layOut_21 hl rfl ?_
      refine zr_aald hS hK hI ha_SH_0 hs_SH_0 (by decide) (by decide) rfl (vp_in_nI (by omega) (by decide)) (by rw [ec]; exact zL_cl hLc (by omega)) kd_Sh_layOut_23 ?_
      refine zr_astore hx hb kd_Sh_layOut_24 hl (by decide) rfl (fun ls hl => ?_)
      refine zr_aload hx hb kd_Sh_layOut_26 hl rfl ?_
      refine zr_iload_n hx hb kd_Sh_layOut_28 hl rfl ?_
      refine lv_iconst (v := 0) hx hb kd_Sh_layOut_29 (by decide) ?_
      refine zr_iload_n hx hb kd_Sh_layOut_30 hl rfl ?_
      refine zr_ci (zr_runV hS hK (c_Cl_liesIn l G 183 zs _ (4 + c) _ _ _ ha_C hs_C) km_Sh_26 hI ha_C hs_C rfl hl.1 (Nat.le_of_ble_eq_true rfl) (by decide) (by decide) kd_Sh_layOut_31 rfl) hI (fun r31 M31 H locs hp31 hI => ?_)
      obtain ⟨rfl, hM31⟩ := hp31
      rw [hM31] at hI
      refine lv_if_eq (tgt := 87) hx hb kd_Sh_layOut_34 (by decide) (fun h34 => ?_) (fun h34 => ?_)
      · skip
        refine zr_iinc hx hb kd_Sh_layOut_87 hl (by decide) rfl rfl (fun ls hl => ?_)
        refine lv_goto (tgt := 10) hx hb kd_Sh_layOut_90 (by decide) ?_
        refine ih (c + 1) _ _ _ H locs ls (by omega) (by rw [nI_succ]; exact hl) ?_
        rw [hlie] at h34
        rw [zf_lay, if_pos h34]
        exact hI
      · skip
        refine zr_aload hx hb kd_Sh_layOut_37 hl rfl ?_
        refine zr_geti hS hK kf_Sh_22 hI ha_C hs_C kd_Sh_layOut_39 ?_
        refine zr_iload_n hx hb kd_Sh_layOut_42 hl rfl ?_
        refine zr_aload hx hb kd_Sh_layOut_43 hl rfl ?_
        refine zr_geti hS hK kf_Sh_35 hI ha_C hs_C kd_Sh_layOut_45 ?_
        refine lv_isub hx hb kd_Sh_layOut_48 ?_
        refine va_mmin hx hb (hS.2.2.1.trans hl.1.symm) hS.2.2.2.1 (hS.2.2.2.2 _ (zw_mem (i := 910) rfl rfl)) (hS.2.2.2.2 _ (zw_mem (i := 709) rfl rfl)) (hS.2.2.2.2 _ (zw_mem (i := 49) rfl rfl)) (hS.2.2.2.2 _ (zw_mem (i := 710) rfl rfl)) (by decide) (Nat.le_of_ble_eq_true rfl) (by decide) (by decide) kd_Sh_layOut_49 ?_
        refine zr_istore hx hb kd_Sh_layOut_52 hl (by decide) rfl (fun ls hl => ?_)
        refine lv_iconst (v := 0) hx hb kd_Sh_layOut_54 (by decide) ?_
        refine zr_istore hx hb kd_Sh_layOut_55 hl (by decide) rfl (fun ls hl => ?_)
        rw [hlie] at h34
        obtain ⟨hpl, hin⟩ := inner h34
        rw [hpl] at hl
        refine hin (zf_cp M c e) 0 H locs ls (by omega) hl ?_
        rw [zm_seg_0]
        exact hI
  refine zr_aload_n hx hb kd_Sh_layOut_0 hl rfl ?_
  refine lv_iconst (v := 0) hx hb kd_Sh_layOut_1 (by decide) ?_
  refine zr_iload_n hx hb kd_Sh_layOut_2 hl rfl ?_
  refine lv_iconst (v := 0) hx hb kd_Sh_layOut_3 (by decide) ?_
  refine zr_cv (zr_runS hS hK (c_Ar_fill_aIIIIV l G 183 zs _ (30 + 14 * s) 1024 0 e 0 ha_w hs_w (by decide) (by omega) he) km_Sh_29 hI rfl hl.1 (Nat.le_of_ble_eq_true rfl) (by decide) (by decide) kd_Sh_layOut_4 rfl) hI (fun M4 H locs hp4 hI => ?_)
  rw [hp4] at hI
  refine lv_iconst (v := 0) hx hb kd_Sh_layOut_7 (by decide) ?_
  refine zr_istore hx hb kd_Sh_layOut_8 hl (by decide) rfl (fun ls hl => ?_)
  exact loop 16 0 _ _ _ _ _ _ (by omega) hl hI

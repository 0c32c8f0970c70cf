/-! The desk: sets of strips are bits; who feeds whom, who reaches whom. -/
/-- the set of the strips below 8 of which P holds -/
def zB (r : Int32) (P : Nat → Prop) : Prop := ∃ m, m < 256 ∧ r = nI m ∧ ∀ i, i < 8 → (m.testBit i = true ↔ P i)
def zf_bit (r i : Int32) : Int32 := if ¬ r >>> (i &&& 31) &&& 1 = 1 then 0 else 1
theorem zB_has1 : ∀ m, m < 256 → ∀ i, i < 8 → zf_bit (nI m) (nI i) = if m.testBit i then 1 else 0 := by decide +kernel
theorem zB_add1 : ∀ i, i < 8 → (1 : Int32) <<< (nI i &&& 31) = nI (2 ^ i) := by decide +kernel
theorem nI_or (a b : Nat) : nI a ||| nI b = nI (a ||| b) := by
  show Int32.ofBitVec (BitVec.ofNat 32 a ||| BitVec.ofNat 32 b) = Int32.ofBitVec (BitVec.ofNat 32 (a ||| b))
  rw [BitVec.ofNat_or]
theorem nI_and (a b : Nat) : nI a &&& nI b = nI (a &&& b) := by
  show Int32.ofBitVec (BitVec.ofNat 32 a &&& BitVec.ofNat 32 b) = Int32.ofBitVec (BitVec.ofNat 32 (a &&& b))
  rw [BitVec.ofNat_and]
section ZB
variable {r q : Int32} {P Q : Nat → Prop}
theorem zB_has (h : zB r P) {i : Nat} (hi : i < 8) : (zf_bit r (nI i) = 1 ∧ P i) ∨ (zf_bit r (nI i) = 0 ∧ ¬ P i) := by
  obtain ⟨m, hm, rfl, hP⟩ := h
  rw [zB_has1 m hm i hi]
  by_cases ht : m.testBit i = true
  · exact Or.inl ⟨if_pos ht, (hP i hi).mp ht⟩
  · exact Or.inr ⟨if_neg ht, fun h => ht ((hP i hi).mpr h)⟩
theorem zB_or (h : zB r P) (h' : zB q Q) : zB (r ||| q) (fun i => P i ∨ Q i) := by
  obtain ⟨m, hm, rfl, hP⟩ := h
  obtain ⟨n, hn, rfl, hQ⟩ := h'
  refine ⟨m ||| n, Nat.or_lt_two_pow (n := 8) hm hn, nI_or m n, fun i hi => ?_⟩
  rw [Nat.testBit_or, Bool.or_eq_true, hP i hi, hQ i hi]
theorem zB_bit {i : Nat} (hi : i < 8) : zB ((1 : Int32) <<< (nI i &&& 31)) (fun j => j = i) := by
  refine ⟨2 ^ i, ?_, zB_add1 i hi, fun j hj => ?_⟩
  · exact Nat.pow_lt_pow_right (a := 2) (by decide) hi
  · rw [Nat.testBit_two_pow, decide_eq_true_eq]
    exact eq_comm
theorem zB_c (h : zB r P) (hc : ∀ i, i < 8 → (P i ↔ Q i)) : zB r Q := by
  obtain ⟨m, hm, e, hP⟩ := h
  exact ⟨m, hm, e, fun i hi => (hP i hi).trans (hc i hi)⟩
theorem zB_0 : zB 0 (fun _ => False) := ⟨0, by decide, rfl, fun i _ => by rw [Nat.zero_testBit]; simp⟩
theorem zB_z (h : zB r P) : (r = 0 ∧ ∀ i, i < 8 → ¬ P i) ∨ (¬ r = 0 ∧ ∃ i, i < 8 ∧ P i) := by
  obtain ⟨m, hm, rfl, hP⟩ := h
  by_cases h0 : m = 0
  · subst h0
    exact Or.inl ⟨rfl, fun i hi hp => by have := (hP i hi).mpr hp; rw [Nat.zero_testBit] at this; exact absurd this (by decide)⟩
  · refine Or.inr ⟨fun h => h0 ((nI_eq (by omega) (by decide)).mp (h.trans (rfl : (0 : Int32) = nI 0))), ?_⟩
    obtain ⟨i, hi⟩ := Nat.exists_testBit_of_ne_zero h0
    by_cases h8 : i < 8
    · exact ⟨i, h8, (hP i h8).mp hi⟩
    · exfalso
      have h1 : m < 2 ^ i := Nat.lt_of_lt_of_le hm (show 2 ^ 8 ≤ 2 ^ i from Nat.pow_le_pow_right (by decide) (by omega))
      rw [Nat.testBit_lt_two_pow h1] at hi
      exact absurd hi (by decide)
theorem zB_and (h : zB r P) (h' : zB q Q) : zB (r &&& q) (fun i => P i ∧ Q i) := by
  obtain ⟨m, hm, rfl, hP⟩ := h
  obtain ⟨n, hn, rfl, hQ⟩ := h'
  refine ⟨m &&& n, Nat.lt_of_le_of_lt Nat.and_le_left hm, nI_and m n, fun i hi => ?_⟩
  rw [Nat.testBit_and, Bool.and_eq_true, hP i hi, hQ i hi]
end ZB
set_option maxRecDepth 100000 in
set_option maxHeartbeats 4000000 in
theorem c_De_has (l : Launch) (G : zg_T) (nc : Nat) (sh : Nat → Nat × Nat) (M : zm_T) (x y : Int32) : Met l ky_De_has (zr_ws ky_De_has kc_De_has 2 (some .boolean)) (zr_rm 0) (va_Pc [.int x, .int y] (zm_B G nc sh M)) (va_Qi (fun (r : Int32) (M' : zm_T) => r = zf_bit x y ∧ M' = M) (zm_B G nc sh) (zm_A G)) 0 0 (zm_A G) := by
  refine zr_met (by decide +kernel) (Nat.le_of_ble_eq_true rfl) ?_
  intro p0 e0 s0 m0 below meth c0 ls hS hK hlk hr hl hI
  have hx := hS.1
  have hb := hS.2.1
  have hl : zl_has ls 2 [some (.int x), some (.int y)] := hl
  refine zr_iload_n hx hb kd_De_has_0 hl rfl ?_
  refine zr_iload_n hx hb kd_De_has_1 hl rfl ?_
  refine lv_ishr hx hb kd_De_has_2 ?_
  refine lv_iconst (v := 1) hx hb kd_De_has_3 (by decide) ?_
  refine lv_iand hx hb kd_De_has_4 ?_
  refine lv_iconst (v := 1) hx hb kd_De_has_5 (by decide) ?_
  refine lv_icmp_ne (tgt := 13) hx hb kd_De_has_6 (by decide) (fun h6 => ?_) (fun h6 => ?_)
  · skip
    refine lv_iconst (v := 0) hx hb kd_De_has_13 (by decide) ?_
    exact zr_zret hS hK hlk hr (by decide) hI kd_De_has_14 (⟨by simp only [zf_bit]; first | (rw [if_pos (by assumption)]; done) | (rw [if_neg (not_not_intro (by assumption))]; done), rfl⟩)
  · skip
    refine lv_iconst (v := 1) hx hb kd_De_has_9 (by decide) ?_
    refine lv_goto (tgt := 14) hx hb kd_De_has_10 (by decide) ?_
    exact zr_zret hS hK hlk hr (by decide) hI kd_De_has_14 (⟨by simp only [zf_bit]; first | (rw [if_pos (by assumption)]; done) | (rw [if_neg (not_not_intro (by assumption))]; done), rfl⟩)
/-- a feeds b -/
def zfd (M : zm_T) (a b : Nat) : Prop := a < 8 ∧ b < 8 ∧ ¬ zf_feeds M a b = 0
theorem zf_feeds_01 (M : zm_T) (s o : Nat) : zf_feeds M s o = 0 ∨ zf_feeds M s o = 1 := by
  unfold zf_feeds
  split
  · exact Or.inr rfl
  · split
    · exact Or.inl rfl
    · exact Or.inr rfl
set_option maxRecDepth 100000 in
set_option maxHeartbeats 4000000 in
theorem c_De_fedBy (l : Launch) (G : zg_T) (M : zm_T) (hL : zL M.2) (s : Nat) (hs : s < 8) : Met l ky_De_fedBy (zr_ws ky_De_fedBy kc_De_fedBy 4 (some .int)) (zr_rm 1) (va_Pc [.ref (G.2.2.1 + 20), .int (nI s)] (zm_B G 183 zs M)) (va_Qi (fun (r : Int32) (M' : zm_T) => zB r (fun i => 4 ≤ i ∧ zfd M s i) ∧ M' = M) (zm_B G 183 zs) (zm_A G)) 0 0 (zm_A G) := by
  refine zr_met (by decide +kernel) (Nat.le_of_ble_eq_true rfl) ?_
  intro p0 e0 s0 m0 below meth c0 ls hS hK hlk hr hl hI
  have hx := hS.1
  have hb := hS.2.1
  have hl : zl_has ls 4 [some (.ref (G.2.2.1 + 20)), some (.int (nI s)), none, none] := hl
  have es : (nI s).toNatClampNeg = s := zn_cl (by omega)
  have ha_S : 23 + 14 * s < 183 := by omega
  have hs_S : zs (23 + 14 * s) = (10 + 5, 0) := zs_st0 _ hs
  have hv_S_0 : M.2.1 (23 + 14 * s) 0 = some (24 + 14 * s) := (zL_st hL hs).2.1
  have ha_S_0 : 24 + 14 * s < 183 := by omega
  have hs_S_0 : zs (24 + 14 * s) = (5, 3) := zs_st1 _ hs
  have hv_S_1 : M.2.1 (23 + 14 * s) 1 = some (25 + 14 * s) := (zL_st hL hs).2.2.1
  have ha_S_1 : 25 + 14 * s < 183 := by omega
  have hs_S_1 : zs (25 + 14 * s) = (10 + 3, 0) := zs_st2 _ hs
  have hv_S_2 : M.2.1 (23 + 14 * s) 2 = some (29 + 14 * s) := (zL_st hL hs).2.2.2.1
  have ha_S_2 : 29 + 14 * s < 183 := by omega
  have hs_S_2 : zs (29 + 14 * s) = (0, 8) := zs_st6 _ hs
  have hv_S_3 : M.2.1 (23 + 14 * s) 3 = some (30 + 14 * s) := (zL_st hL hs).2.2.2.2.1
  have ha_S_3 : 30 + 14 * s < 183 := by omega
  have hs_S_3 : zs (30 + 14 * s) = (0, 1024) := zs_st7 _ hs
  have loop : ∀ (k i : Nat) (v : Int32) (H : Heap) (locs : List Loc) (ls : Array Slot), 4 ≤ i → i + k = 8 → zB v (fun j => 4 ≤ j ∧ j < i ∧ zfd M s j) → zl_has ls 4 [some (.ref (G.2.2.1 + 20)), some (.int (nI s)), some (.int v), some (.int (nI i))] → zm_I G 183 zs M s0 H locs → W p0 l e0 (zr_rm 1) s0 m0 ([.ref (G.2.2.1 + 20), .int (nI s)] : List Value).toArray below meth c0 H locs 0 0 (MQ below (va_Qi (fun (r : Int32) (M' : zm_T) => zB r (fun i => 4 ≤ i ∧ zfd M s i) ∧ M' = M) (zm_B G 183 zs) (zm_A G)) ([.ref (G.2.2.1 + 20), .int (nI s)] : List Value).toArray s0 0 0 (zm_A G)) (F0 m0 4 ls []) := by
    intro k
    induction k with
    | zero =>
      intro i v H locs ls h4 hi hB hl hI
      obtain rfl : i = 8 := by omega
      refine zr_iload_n hx hb kd_De_fedBy_4 hl rfl ?_
      refine lv_bipush (v := 8) hx hb kd_De_fedBy_5 (by decide) ?_
      refine lv_icmp_ge (tgt := 35) hx hb kd_De_fedBy_7 (by decide) (fun h7 => ?_) (fun h7 => absurd (by decide) h7)
      refine zr_iload_n hx hb kd_De_fedBy_35 hl rfl ?_
      exact zr_iret hS hK hlk hr hI kd_De_fedBy_36 (⟨zB_c hB (fun j hj => ⟨fun h => ⟨h.1, h.2.2⟩, fun h => ⟨h.1, hj, h.2⟩⟩), rfl⟩)
    | succ k ih =>
      intro i v H locs ls h4 hi hB hl hI
      refine zr_iload_n hx hb kd_De_fedBy_4 hl rfl ?_
      refine lv_bipush (v := 8) hx hb kd_De_fedBy_5 (by decide) ?_
      refine lv_icmp_ge (tgt := 35) hx hb kd_De_fedBy_7 (by decide) (fun h7 => absurd h7 (zn_ge (n := 8) rfl (by omega) (by decide))) (fun h7 => ?_)
      refine zr_aload_n hx hb kd_De_fedBy_10 hl rfl ?_
      refine zr_getr hS hK kf_De_11 hI ha_DE hs_DE (zL_0 hL).2.2.2.2.1 kd_De_fedBy_11 ?_
      refine zr_iload_n hx hb kd_De_fedBy_14 hl rfl ?_
      refine zr_aald hS hK hI ha_DE_0 hs_DE_0 (by decide) (by decide) rfl (vp_in_nI (by omega) (by decide)) (by rw [es]; exact (zL_st hL hs).1) kd_De_fedBy_15 ?_
      refine zr_iload_n hx hb kd_De_fedBy_16 hl rfl ?_
      refine zr_ci (zr_runV hS hK (c_St_feeds l G M hL s i hs (by omega)) km_De_76 hI ha_S hs_S rfl hl.1 (Nat.le_of_ble_eq_true rfl) (by decide) (by decide) kd_De_fedBy_17 rfl) hI (fun r17 M17 H locs hp17 hI => ?_)
      obtain ⟨rfl, hM17⟩ := hp17
      rw [hM17] at hI
      refine lv_if_eq (tgt := 29) hx hb kd_De_fedBy_20 (by decide) (fun h20 => ?_) (fun h20 => ?_)
      · skip
        refine zr_iinc hx hb kd_De_fedBy_29 hl (by decide) rfl rfl (fun ls hl => ?_)
        refine lv_goto (tgt := 4) hx hb kd_De_fedBy_32 (by decide) ?_
        refine ih (i + 1) _ H locs ls (by omega) (by omega) ?_ (by rw [nI_succ]; exact hl) hI
        first
        | refine zB_c hB (fun j hj => ⟨fun h => ⟨h.1, by omega, h.2.2⟩, fun h => ⟨h.1, ?_, h.2.2⟩⟩)
          have : j ≠ i := fun e => h.2.2.2.2 (by rw [e]; exact h20)
          omega
        | refine zB_c (zB_or hB (zB_bit (i := i) (by omega))) (fun j hj => ⟨fun h => h.elim (fun h => ⟨h.1, by omega, h.2.2⟩) (fun h => by subst h; exact ⟨h4, by omega, hs, hj, h20⟩), fun h => ?_⟩)
          by_cases e : j = i
          · exact Or.inr e
          · exact Or.inl ⟨h.1, by omega, h.2.2⟩
      · skip
        refine zr_iload_n hx hb kd_De_fedBy_23 hl rfl ?_
        refine lv_iconst (v := 1) hx hb kd_De_fedBy_24 (by decide) ?_
        refine zr_iload_n hx hb kd_De_fedBy_25 hl rfl ?_
        refine lv_ishl hx hb kd_De_fedBy_26 ?_
        refine lv_ior hx hb kd_De_fedBy_27 ?_
        refine zr_istore_n hx hb kd_De_fedBy_28 hl (by decide) rfl (fun ls hl => ?_)
        refine zr_iinc hx hb kd_De_fedBy_29 hl (by decide) rfl rfl (fun ls hl => ?_)
        refine lv_goto (tgt := 4) hx hb kd_De_fedBy_32 (by decide) ?_
        refine ih (i + 1) _ H locs ls (by omega) (by omega) ?_ (by rw [nI_succ]; exact hl) hI
        first
        | refine zB_c hB (fun j hj => ⟨fun h => ⟨h.1, by omega, h.2.2⟩, fun h => ⟨h.1, ?_, h.2.2⟩⟩)
          have : j ≠ i := fun e => h.2.2.2.2 (by rw [e]; exact h20)
          omega
        | refine zB_c (zB_or hB (zB_bit (i := i) (by omega))) (fun j hj => ⟨fun h => h.elim (fun h => ⟨h.1, by omega, h.2.2⟩) (fun h => by subst h; exact ⟨h4, by omega, hs, hj, h20⟩), fun h => ?_⟩)
          by_cases e : j = i
          · exact Or.inr e
          · exact Or.inl ⟨h.1, by omega, h.2.2⟩
  refine lv_iconst (v := 0) hx hb kd_De_fedBy_0 (by decide) ?_
  refine zr_istore_n hx hb kd_De_fedBy_1 hl (by decide) rfl (fun ls hl => ?_)
  refine lv_iconst (v := 4) hx hb kd_De_fedBy_2 (by decide) ?_
  refine zr_istore_n hx hb kd_De_fedBy_3 hl (by decide) rfl (fun ls hl => ?_)
  exact loop 4 4 _ _ _ _ (by omega) (by omega) (zB_c zB_0 (fun j hj => ⟨False.elim, fun h => by omega⟩)) hl hI
set_option maxRecDepth 100000 in
set_option maxHeartbeats 4000000 in
theorem c_De_solos (l : Launch) (G : zg_T) (M : zm_T) (hL : zL M.2)  : Met l ky_De_solos (zr_ws ky_De_solos kc_De_solos 3 (some .int)) (zr_rm 0) (va_Pc [.ref (G.2.2.1 + 20)] (zm_B G 183 zs M)) (va_Qi (fun (r : Int32) (M' : zm_T) => zB r (fun i => ¬ M.1 (23 + 14 * i) 6 = 0) ∧ M' = M) (zm_B G 183 zs) (zm_A G)) 0 0 (zm_A G) := by
  refine zr_met (by decide +kernel) (Nat.le_of_ble_eq_true rfl) ?_
  intro p0 e0 s0 m0 below meth c0 ls hS hK hlk hr hl hI
  have hx := hS.1
  have hb := hS.2.1
  have hl : zl_has ls 3 [some (.ref (G.2.2.1 + 20)), none, none] := hl
  have loop : ∀ (k i : Nat) (v : Int32) (H : Heap) (locs : List Loc) (ls : Array Slot), i + k = 8 → zB v (fun j => j < i ∧ ¬ M.1 (23 + 14 * j) 6 = 0) → zl_has ls 3 [some (.ref (G.2.2.1 + 20)), some (.int v), some (.int (nI i))] → zm_I G 183 zs M s0 H locs → W p0 l e0 (zr_rm 0) s0 m0 ([.ref (G.2.2.1 + 20)] : List Value).toArray below meth c0 H locs 0 0 (MQ below (va_Qi (fun (r : Int32) (M' : zm_T) => zB r (fun i => ¬ M.1 (23 + 14 * i) 6 = 0) ∧ M' = M) (zm_B G 183 zs) (zm_A G)) ([.ref (G.2.2.1 + 20)] : List Value).toArray s0 0 0 (zm_A G)) (F0 m0 4 ls []) := by
    intro k
    induction k with
    | zero =>
      intro i v H locs ls hi hB hl hI
      obtain rfl : i = 8 := by omega
      refine zr_iload_n hx hb kd_De_solos_4 hl rfl ?_
      refine lv_bipush (v := 8) hx hb kd_De_solos_5 (by decide) ?_
      refine lv_icmp_ge (tgt := 34) hx hb kd_De_solos_7 (by decide) (fun h7 => ?_) (fun h7 => absurd (by decide) h7)
      refine zr_iload_n hx hb kd_De_solos_34 hl rfl ?_
      exact zr_iret hS hK hlk hr hI kd_De_solos_35 (⟨zB_c hB (fun j hj => ⟨fun h => h.2, fun h => ⟨hj, h⟩⟩), rfl⟩)
    | succ k ih =>
      intro i v H locs ls hi hB hl hI
      have ei : (nI i).toNatClampNeg = i := zn_cl (by omega)
      refine zr_iload_n hx hb kd_De_solos_4 hl rfl ?_
      refine lv_bipush (v := 8) hx hb kd_De_solos_5 (by decide) ?_
      refine lv_icmp_ge (tgt := 34) hx hb kd_De_solos_7 (by decide) (fun h7 => absurd h7 (zn_ge (n := 8) rfl (by omega) (by decide))) (fun h7 => ?_)
      refine zr_aload_n hx hb kd_De_solos_10 hl rfl ?_
      refine zr_getr hS hK kf_De_11 hI ha_DE hs_DE (zL_0 hL).2.2.2.2.1 kd_De_solos_11 ?_
      refine zr_iload_n hx hb kd_De_solos_14 hl rfl ?_
      refine zr_aald hS hK hI ha_DE_0 hs_DE_0 (by decide) (by decide) rfl (vp_in_nI (by omega) (by decide)) (by rw [ei]; exact (zL_st hL (s := i) (by omega)).1) kd_De_solos_15 ?_
      refine zr_geti hS hK kf_De_89 hI (by omega) (zs_st0 i (by omega)) kd_De_solos_16 ?_
      refine lv_if_eq (tgt := 28) hx hb kd_De_solos_19 (by decide) (fun h19 => ?_) (fun h19 => ?_)
      · skip
        refine zr_iinc hx hb kd_De_solos_28 hl (by decide) rfl rfl (fun ls hl => ?_)
        refine lv_goto (tgt := 4) hx hb kd_De_solos_31 (by decide) ?_
        refine ih (i + 1) _ H locs ls (by omega) ?_ (by rw [nI_succ]; exact hl) hI
        first
        | refine zB_c hB (fun j hj => ⟨fun h => ⟨by omega, h.2⟩, fun h => ⟨?_, h.2⟩⟩)
          have : j ≠ i := fun e => h.2 (by rw [e]; exact h19)
          omega
        | refine zB_c (zB_or hB (zB_bit (i := i) (by omega))) (fun j hj => ⟨fun h => h.elim (fun h => ⟨by omega, h.2⟩) (fun h => by subst h; exact ⟨by omega, h19⟩), fun h => ?_⟩)
          by_cases e : j = i
          · exact Or.inr e
          · exact Or.inl ⟨by omega, h.2⟩
      · skip
        refine zr_iload_n hx hb kd_De_solos_22 hl rfl ?_
        refine lv_iconst (v := 1) hx hb kd_De_solos_23 (by decide) ?_
        refine zr_iload_n hx hb kd_De_solos_24 hl rfl ?_
        refine lv_ishl hx hb kd_De_solos_25 ?_
        refine lv_ior hx hb kd_De_solos_26 ?_
        refine zr_istore_n hx hb kd_De_solos_27 hl (by decide) rfl (fun ls hl => ?_)
        refine zr_iinc hx hb kd_De_solos_28 hl (by decide) rfl rfl (fun ls hl => ?_)
        refine lv_goto (tgt := 4) hx hb kd_De_solos_31 (by decide) ?_
        refine ih (i + 1) _ H locs ls (by omega) ?_ (by rw [nI_succ]; exact hl) hI
        first
        | refine zB_c hB (fun j hj => ⟨fun h => ⟨by omega, h.2⟩, fun h => ⟨?_, h.2⟩⟩)
          have : j ≠ i := fun e => h.2 (by rw [e]; exact h19)
          omega
        | refine zB_c (zB_or hB (zB_bit (i := i) (by omega))) (fun j hj => ⟨fun h => h.elim (fun h => ⟨by omega, h.2⟩) (fun h => by subst h; exact ⟨by omega, h19⟩), fun h => ?_⟩)
          by_cases e : j = i
          · exact Or.inr e
          · exact Or.inl ⟨by omega, h.2⟩
  refine lv_iconst (v := 0) hx hb kd_De_solos_0 (by decide) ?_
  refine zr_istore_n hx hb kd_De_solos_1 hl (by decide) rfl (fun ls hl => ?_)
  refine lv_iconst (v := 0) hx hb kd_De_solos_2 (by decide) ?_
  refine zr_istore_n hx hb kd_De_solos_3 hl (by decide) rfl (fun ls hl => ?_)
  exact loop 8 0 _ _ _ _ (by omega) (zB_c zB_0 (fun j hj => ⟨False.elim, fun h => by omega⟩)) hl hI
/-! Three rounds over the three buses find all that a strip reaches. -/
def zR_cl (F : Nat → Nat → Prop) (C : Nat → Prop) : Prop := ∀ b, 4 ≤ b → b < 7 → C b → ∀ i, i < 8 → F b i → C i
/-- one round -/
def zR (F : Nat → Nat → Prop) (R R' : Nat → Prop) : Prop := (∀ i, i < 8 → R i → R' i) ∧ (∀ b, 4 ≤ b → b < 7 → R b → ∀ i, i < 8 → F b i → R' i) ∧ ∀ C, zR_cl F C → (∀ i, i < 8 → R i → C i) → ∀ i, i < 8 → R' i → C i
theorem zR_st {F : Nat → Nat → Prop} {R R' : Nat → Prop} (h : zR F R R') (hc : zR_cl F R) : zR_cl F R' := fun b b1 b2 hb i hi hF => h.2.1 b b1 b2 (h.2.2 R hc (fun _ _ h => h) b (by omega) hb) i hi hF
theorem zR_3 {F : Nat → Nat → Prop} {R0 R1 R2 R3 : Nat → Prop} (h1 : zR F R0 R1) (h2 : zR F R1 R2) (h3 : zR F R2 R3) : zR_cl F R3 := by
  by_cases c1 : ∀ b, 4 ≤ b → b < 7 → R1 b → R0 b
  · exact zR_st h3 (zR_st h2 (fun b b1 b2 hb i hi hF => h1.2.1 b b1 b2 (c1 b b1 b2 hb) i hi hF))
  by_cases c2 : ∀ b, 4 ≤ b → b < 7 → R2 b → R1 b
  · exact zR_st h3 (fun b b1 b2 hb i hi hF => h2.2.1 b b1 b2 (c2 b b1 b2 hb) i hi hF)
  by_cases c3 : ∀ b, 4 ≤ b → b < 7 → R3 b → R2 b
  · exact fun b b1 b2 hb i hi hF => h3.2.1 b b1 b2 (c3 b b1 b2 hb) i hi hF
  exfalso
  simp only [Classical.not_forall] at c1 c2 c3
  obtain ⟨x1, x4, x7, y1, z1⟩ := c1
  obtain ⟨x2, u4, u7, y2, z2⟩ := c2
  obtain ⟨x3, v4, v7, y3, z3⟩ := c3
  have e12 : x1 ≠ x2 := fun e => z2 (e ▸ y1)
  have e13 : x1 ≠ x3 := fun e => z3 (e ▸ h2.1 x1 (by omega) y1)
  have e23 : x2 ≠ x3 := fun e => z3 (e ▸ y2)
  have no : ∀ b, 4 ≤ b → b < 7 → ¬ R0 b := fun b b4 b7 hb => by
    have : b = x1 ∨ b = x2 ∨ b = x3 := by omega
    rcases this with rfl | rfl | rfl
    · exact z1 hb
    · exact z2 (h1.1 _ (by omega) hb)
    · exact z3 (h2.1 _ (by omega) (h1.1 _ (by omega) hb))
  exact no x1 x4 x7 (h1.2.2 R0 (fun b b4 b7 hb => absurd hb (no b b4 b7)) (fun _ _ h => h) x1 (by omega) y1)
/-- only strips below the master feed, and only buses and the master are fed -/
def zD (M : zm_T) : Prop := ∀ a b, zfd M a b → 4 ≤ b ∧ a < 7
theorem zR_T {M : zm_T} {s : Nat} {R0 R1 R2 R3 : Nat → Prop} (hD : zD M) (h0 : ∀ i, i < 8 → (R0 i ↔ 4 ≤ i ∧ zfd M s i)) (h1 : zR (fun b i => 4 ≤ i ∧ zfd M b i) R0 R1) (h2 : zR (fun b i => 4 ≤ i ∧ zfd M b i) R1 R2) (h3 : zR (fun b i => 4 ≤ i ∧ zfd M b i) R2 R3) : ∀ i, i < 8 → (R3 i ↔ gq_T (zfd M) s i) := by
  have hcl := zR_3 h1 h2 h3
  have sound : zR_cl (fun b i => 4 ≤ i ∧ zfd M b i) (gq_T (zfd M) s) := fun b b1 b2 hb i hi hF => .tail hb hF.2
  intro i hi
  constructor
  · exact h3.2.2 _ sound (h2.2.2 _ sound (h1.2.2 _ sound (fun i hi h => .single ((h0 i hi).mp h).2))) i hi
  · intro h
    induction h with
    | single h => exact h3.1 _ hi (h2.1 _ hi (h1.1 _ hi ((h0 _ hi).mpr ⟨(hD _ _ h).1, h⟩)))
    | tail h1 h ih =>
      rename_i b c
      have hb : 4 ≤ b := by
        rcases h1 with h1 | ⟨_, h1⟩
        · exact (hD _ _ h1).1
        · exact (hD _ _ h1).1
      exact hcl b hb (hD _ _ h).2 (ih (by have := (hD _ _ h).2; omega)) c hi ⟨(hD _ _ h).1, h⟩
set_option maxRecDepth 100000 in
set_option maxHeartbeats 4000000 in
theorem c_De_reach (l : Launch) (G : zg_T) (M : zm_T) (hL : zL M.2) (s : Nat) (hs : s < 8) (hD : zD M) : Met l ky_De_reach (zr_ws ky_De_reach kc_De_reach 5 (some .int)) (zr_rm 2) (va_Pc [.ref (G.2.2.1 + 20), .int (nI s)] (zm_B G 183 zs M)) (va_Qi (fun (r : Int32) (M' : zm_T) => zB r (gq_T (zfd M) s) ∧ M' = M) (zm_B G 183 zs) (zm_A G)) 0 0 (zm_A G) := by
  refine zr_met (by decide +kernel) (Nat.le_of_ble_eq_true rfl) ?_
  intro p0 e0 s0 m0 below meth c0 ls hS hK hlk hr hl hI
  have hx := hS.1
  have hb := hS.2.1
  have hl : zl_has ls 5 [some (.ref (G.2.2.1 + 20)), some (.int (nI s)), none, none, none] := hl
  have round : ∀ (q : Nat) (R : Nat → Prop) (v : Int32) (o : Option Value) (H : Heap) (locs : List Loc) (ls : Array Slot), q < 7 → zB v R → zl_has ls 5 [some (.ref (G.2.2.1 + 20)), some (.int (nI s)), some (.int v), some (.int (nI q)), o] → zm_I G 183 zs M s0 H locs → (∀ (R' : Nat → Prop) (v : Int32) (o : Option Value) (H : Heap) (locs : List Loc) (ls : Array Slot), zR (fun b i => 4 ≤ i ∧ zfd M b i) R R' → zB v R' → zl_has ls 5 [some (.ref (G.2.2.1 + 20)), some (.int (nI s)), some (.int v), some (.int (nI (q + 1))), o] → zm_I G 183 zs M s0 H locs → W p0 l e0 (zr_rm 2) s0 m0 ([.ref (G.2.2.1 + 20), .int (nI s)] : List Value).toArray below meth c0 H locs 0 0 (MQ below (va_Qi (fun (r : Int32) (M' : zm_T) => zB r (gq_T (zfd M) s) ∧ M' = M) (zm_B G 183 zs) (zm_A G)) ([.ref (G.2.2.1 + 20), .int (nI s)] : List Value).toArray s0 0 0 (zm_A G)) (F0 m0 8 ls [])) → W p0 l e0 (zr_rm 2) s0 m0 ([.ref (G.2.2.1 + 20), .int (nI s)] : List Value).toArray below meth c0 H locs 0 0 (MQ below (va_Qi (fun (r : Int32) (M' : zm_T) => zB r (gq_T (zfd M) s) ∧ M' = M) (zm_B G 183 zs) (zm_A G)) ([.ref (G.2.2.1 + 20), .int (nI s)] : List Value).toArray s0 0 0 (zm_A G)) (F0 m0 8 ls []) := by
    intro q R v o H locs ls hq hB hl hI k8
    have loop : ∀ (k b : Nat) (R' : Nat → Prop) (v : Int32) (H : Heap) (locs : List Loc) (ls : Array Slot), 4 ≤ b → b + k = 7 → zB v R' → (∀ i, i < 8 → R i → R' i) → (∀ c, 4 ≤ c → c < b → R c → ∀ i, i < 8 → (4 ≤ i ∧ zfd M c i) → R' i) → (∀ C, zR_cl (fun b i => 4 ≤ i ∧ zfd M b i) C → (∀ i, i < 8 → R i → C i) → ∀ i, i < 8 → R' i → C i) → zl_has ls 5 [some (.ref (G.2.2.1 + 20)), some (.int (nI s)), some (.int v), some (.int (nI q)), some (.int (nI b))] → zm_I G 183 zs M s0 H locs → W p0 l e0 (zr_rm 2) s0 m0 ([.ref (G.2.2.1 + 20), .int (nI s)] : List Value).toArray below meth c0 H locs 0 0 (MQ below (va_Qi (fun (r : Int32) (M' : zm_T) => zB r (gq_T (zfd M) s) ∧ M' = M) (zm_B G 183 zs) (zm_A G)) ([.ref (G.2.2.1 + 20), .int (nI s)] : List Value).toArray s0 0 0 (zm_A G)) (F0 m0 17 ls []) := by
      intro k
      induction k with
      | zero =>
        intro b R' v H locs ls h4 hbk hB a1 a2 a3 hl hI
        obtain rfl : b = 7 := by omega
        refine zr_iload hx hb kd_De_reach_17 hl rfl ?_
        refine lv_bipush (v := 7) hx hb kd_De_reach_19 (by decide) ?_
        refine lv_icmp_ge (tgt := 48) hx hb kd_De_reach_21 (by decide) (fun h21 => ?_) (fun h21 => absurd (by decide) h21)
        refine zr_iinc hx hb kd_De_reach_48 hl (by decide) rfl rfl (fun ls hl => ?_)
        refine lv_goto (tgt := 8) hx hb kd_De_reach_51 (by decide) ?_
        exact k8 R' _ _ H locs ls ⟨a1, a2, a3⟩ hB (by rw [nI_succ]; exact hl) hI
      | succ k ih =>
        intro b R' v H locs ls h4 hbk hB a1 a2 a3 hl hI
        refine zr_iload hx hb kd_De_reach_17 hl rfl ?_
        refine lv_bipush (v := 7) hx hb kd_De_reach_19 (by decide) ?_
        refine lv_icmp_ge (tgt := 48) hx hb kd_De_reach_21 (by decide) (fun h21 => absurd h21 (zn_ge (n := 7) rfl (by omega) (by decide))) (fun h21 => ?_)
        refine zr_iload_n hx hb kd_De_reach_24 hl rfl ?_
        refine zr_iload hx hb kd_De_reach_25 hl rfl ?_
        refine zr_ci (zr_runS hS hK (c_De_has l G 183 zs M _ _) km_De_28 hI rfl hl.1 (Nat.le_of_ble_eq_true rfl) (by decide) (by decide) kd_De_reach_27 rfl) hI (fun r27 M27 H locs hp27 hI => ?_)
        obtain ⟨rfl, hM27⟩ := hp27
        rw [hM27] at hI
        refine lv_if_eq (tgt := 42) hx hb kd_De_reach_30 (by decide) (fun h30 => ?_) (fun h30 => ?_)
        · skip
          refine zr_iinc hx hb kd_De_reach_42 hl (by decide) rfl rfl (fun ls hl => ?_)
          refine lv_goto (tgt := 17) hx hb kd_De_reach_45 (by decide) ?_
          first
          | refine ih (b + 1) _ _ H locs ls (by omega) (by omega) (zB_or hB hB37) (fun i hi h => Or.inl (a1 i hi h)) (fun c c4 cb hc i hi hF => ?_) (fun C hC hR i hi h => ?_) (by rw [nI_succ]; exact hl) hI
            · by_cases e : c = b
              · subst e; exact Or.inr hF
              · exact Or.inl (a2 c c4 (by omega) hc i hi hF)
            · rcases h with h | h
              · exact a3 C hC hR i hi h
              · have hbR : R' b := ((zB_has hB (i := b) (by omega)).resolve_right (fun h => h30 h.1)).2
                exact hC b h4 (by omega) (a3 C hC hR b (by omega) hbR) i hi h
          | refine ih (b + 1) _ _ H locs ls (by omega) (by omega) hB a1 (fun c c4 cb hc i hi hF => ?_) a3 (by rw [nI_succ]; exact hl) hI
            by_cases e : c = b
            · subst e
              exact absurd (a1 _ (by omega) hc) ((zB_has hB (i := c) (by omega)).resolve_left (fun h => absurd (h.1.symm.trans h30) (by decide))).2
            · exact a2 c c4 (by omega) hc i hi hF
        · skip
          refine zr_iload_n hx hb kd_De_reach_33 hl rfl ?_
          refine zr_aload_n hx hb kd_De_reach_34 hl rfl ?_
          refine zr_iload hx hb kd_De_reach_35 hl rfl ?_
          refine zr_ci (zr_runV hS hK (c_De_fedBy l G M hL b (by omega)) km_De_86 hI ha_DE hs_DE rfl hl.1 (Nat.le_of_ble_eq_true rfl) (by decide) (by decide) kd_De_reach_37 rfl) hI (fun r37 M37 H locs hp37 hI => ?_)
          obtain ⟨hB37, hM37⟩ := hp37
          rw [hM37] at hI
          refine lv_ior hx hb kd_De_reach_40 ?_
          refine zr_istore_n hx hb kd_De_reach_41 hl (by decide) rfl (fun ls hl => ?_)
          refine zr_iinc hx hb kd_De_reach_42 hl (by decide) rfl rfl (fun ls hl => ?_)
          refine lv_goto (tgt := 17) hx hb kd_De_reach_45 (by decide) ?_
          first
          | refine ih (b + 1) _ _ H locs ls (by omega) (by omega) (zB_or hB hB37) (fun i hi h => Or.inl (a1 i hi h)) (fun c c4 cb hc i hi hF => ?_) (fun C hC hR i hi h => ?_) (by rw [nI_succ]; exact hl) hI
            · by_cases e : c = b
              · subst e; exact Or.inr hF
              · exact Or.inl (a2 c c4 (by omega) hc i hi hF)
            · rcases h with h | h
              · exact a3 C hC hR i hi h
              · have hbR : R' b := ((zB_has hB (i := b) (by omega)).resolve_right (fun h => h30 h.1)).2
                exact hC b h4 (by omega) (a3 C hC hR b (by omega) hbR) i hi h
          | refine ih (b + 1) _ _ H locs ls (by omega) (by omega) hB a1 (fun c c4 cb hc i hi hF => ?_) a3 (by rw [nI_succ]; exact hl) hI
            by_cases e : c = b
            · subst e
              exact absurd (a1 _ (by omega) hc) ((zB_has hB (i := c) (by omega)).resolve_left (fun h => absurd (h.1.symm.trans h30) (by decide))).2
            · exact a2 c c4 (by omega) hc i hi hF
    refine zr_iload_n hx hb kd_De_reach_8 hl rfl ?_
    refine lv_bipush (v := 7) hx hb kd_De_reach_9 (by decide) ?_
    refine lv_icmp_ge (tgt := 54) hx hb kd_De_reach_11 (by decide) (fun h11 => absurd h11 (zn_ge (n := 7) rfl (by omega) (by decide))) (fun h11 => ?_)
    refine lv_iconst (v := 4) hx hb kd_De_reach_14 (by decide) ?_
    refine zr_istore hx hb kd_De_reach_15 hl (by decide) rfl (fun ls hl => ?_)
    exact loop 3 4 R _ _ _ _ (by omega) (by omega) hB (fun _ _ h => h) (fun c c4 cb => absurd cb (by omega)) (fun C _ h => h) hl hI
  have fin : ∀ (v : Int32) (o : Option Value) (H : Heap) (locs : List Loc) (ls : Array Slot), zB v (gq_T (zfd M) s) → zl_has ls 5 [some (.ref (G.2.2.1 + 20)), some (.int (nI s)), some (.int v), some (.int (nI 7)), o] → zm_I G 183 zs M s0 H locs → W p0 l e0 (zr_rm 2) s0 m0 ([.ref (G.2.2.1 + 20), .int (nI s)] : List Value).toArray below meth c0 H locs 0 0 (MQ below (va_Qi (fun (r : Int32) (M' : zm_T) => zB r (gq_T (zfd M) s) ∧ M' = M) (zm_B G 183 zs) (zm_A G)) ([.ref (G.2.2.1 + 20), .int (nI s)] : List Value).toArray s0 0 0 (zm_A G)) (F0 m0 8 ls []) := by
    intro v o H locs ls hB hl hI
    refine zr_iload_n hx hb kd_De_reach_8 hl rfl ?_
    refine lv_bipush (v := 7) hx hb kd_De_reach_9 (by decide) ?_
    refine lv_icmp_ge (tgt := 54) hx hb kd_De_reach_11 (by decide) (fun h11 => ?_) (fun h11 => absurd (by decide) h11)
    refine zr_iload_n hx hb kd_De_reach_54 hl rfl ?_
    exact zr_iret hS hK hlk hr hI kd_De_reach_55 (⟨hB, rfl⟩)
  refine zr_aload_n hx hb kd_De_reach_0 hl rfl ?_
  refine zr_iload_n hx hb kd_De_reach_1 hl rfl ?_
  refine zr_ci (zr_runV hS hK (c_De_fedBy l G M hL s hs) km_De_86 hI ha_DE hs_DE rfl hl.1 (Nat.le_of_ble_eq_true rfl) (by decide) (by decide) kd_De_reach_2 rfl) hI (fun r2 M2 H locs hp2 hI => ?_)
  obtain ⟨hB2, hM2⟩ := hp2
  rw [hM2] at hI
  refine zr_istore_n hx hb kd_De_reach_5 hl (by decide) rfl (fun ls hl => ?_)
  refine lv_iconst (v := 4) hx hb kd_De_reach_6 (by decide) ?_
  refine zr_istore_n hx hb kd_De_reach_7 hl (by decide) rfl (fun ls hl => ?_)
  refine round 4 _ _ _ _ _ _ (by decide) hB2 hl hI (fun R1 v o H locs ls z1 hB hl hI => ?_)
  refine round 5 _ _ _ _ _ _ (by decide) hB hl hI (fun R2 v o H locs ls z2 hB hl hI => ?_)
  refine round 6 _ _ _ _ _ _ (by decide) hB hl hI (fun R3 v o H locs ls z3 hB hl hI => ?_)
  have hT := zR_T (s := s) hD (fun i hi => Iff.rfl) z1 z2 z3
  exact fin _ _ _ _ _ (zB_c hB hT) hl hI
set_option maxRecDepth 100000 in
set_option maxHeartbeats 4000000 in
theorem c_De_mayFeed (l : Launch) (G : zg_T) (M : zm_T) (hL : zL M.2) (s t : Nat) (hs : s < 8) (ht : t < 8) (hD : zD M) : Met l ky_De_mayFeed (zr_ws ky_De_mayFeed kc_De_mayFeed 3 (some .boolean)) (zr_rm 3) (va_Pc [.ref (G.2.2.1 + 20), .int (nI s), .int (nI t)] (zm_B G 183 zs M)) (va_Qi (fun (r : Int32) (M' : zm_T) => ((r = 1 ∧ s ≠ t ∧ ¬ gq_T (zfd M) t s) ∨ (r = 0 ∧ (s = t ∨ gq_T (zfd M) t s))) ∧ M' = M) (zm_B G 183 zs) (zm_A G)) 0 0 (zm_A G) := by
  refine zr_met (by decide +kernel) (Nat.le_of_ble_eq_true rfl) ?_
  intro p0 e0 s0 m0 below meth c0 ls hS hK hlk hr hl hI
  have hx := hS.1
  have hb := hS.2.1
  have hl : zl_has ls 3 [some (.ref (G.2.2.1 + 20)), some (.int (nI s)), some (.int (nI t))] := hl
  refine zr_iload_n hx hb kd_De_mayFeed_0 hl rfl ?_
  refine zr_iload_n hx hb kd_De_mayFeed_1 hl rfl ?_
  refine lv_icmp_eq (tgt := 21) hx hb kd_De_mayFeed_2 (by decide) (fun h2 => ?_) (fun h2 => ?_)
  · skip
    refine lv_iconst (v := 0) hx hb kd_De_mayFeed_21 (by decide) ?_
    exact zr_zret hS hK hlk hr (by decide) hI kd_De_mayFeed_22 (⟨by
        first
        | exact Or.inr ⟨rfl, Or.inl ((nI_eq (by omega) (by omega)).mp h2)⟩
        | exact Or.inr ⟨rfl, Or.inr (((zB_has hB7 hs).resolve_right (fun h => h14 h.1)).2)⟩
        | exact Or.inl ⟨rfl, fun e => h2 (by rw [e]), ((zB_has hB7 hs).resolve_left (fun h => absurd (h.1.symm.trans h14) (by decide))).2⟩, rfl⟩)
  · skip
    refine zr_aload_n hx hb kd_De_mayFeed_5 hl rfl ?_
    refine zr_iload_n hx hb kd_De_mayFeed_6 hl rfl ?_
    refine zr_ci (zr_runV hS hK (c_De_reach l G M hL t ht hD) km_De_24 hI ha_DE hs_DE rfl hl.1 (Nat.le_of_ble_eq_true rfl) (by decide) (by decide) kd_De_mayFeed_7 rfl) hI (fun r7 M7 H locs hp7 hI => ?_)
    obtain ⟨hB7, hM7⟩ := hp7
    rw [hM7] at hI
    refine zr_iload_n hx hb kd_De_mayFeed_10 hl rfl ?_
    refine zr_ci (zr_runS hS hK (c_De_has l G 183 zs M _ _) km_De_28 hI rfl hl.1 (Nat.le_of_ble_eq_true rfl) (by decide) (by decide) kd_De_mayFeed_11 rfl) hI (fun r11 M11 H locs hp11 hI => ?_)
    obtain ⟨rfl, hM11⟩ := hp11
    rw [hM11] at hI
    refine lv_if_ne (tgt := 21) hx hb kd_De_mayFeed_14 (by decide) (fun h14 => ?_) (fun h14 => ?_)
    · skip
      refine lv_iconst (v := 0) hx hb kd_De_mayFeed_21 (by decide) ?_
      exact zr_zret hS hK hlk hr (by decide) hI kd_De_mayFeed_22 (⟨by
          first
          | exact Or.inr ⟨rfl, Or.inl ((nI_eq (by omega) (by omega)).mp h2)⟩
          | exact Or.inr ⟨rfl, Or.inr (((zB_has hB7 hs).resolve_right (fun h => h14 h.1)).2)⟩
          | exact Or.inl ⟨rfl, fun e => h2 (by rw [e]), ((zB_has hB7 hs).resolve_left (fun h => absurd (h.1.symm.trans h14) (by decide))).2⟩, rfl⟩)
    · skip
      refine lv_iconst (v := 1) hx hb kd_De_mayFeed_17 (by decide) ?_
      refine lv_goto (tgt := 22) hx hb kd_De_mayFeed_18 (by decide) ?_
      exact zr_zret hS hK hlk hr (by decide) hI kd_De_mayFeed_22 (⟨by
          first
          | exact Or.inr ⟨rfl, Or.inl ((nI_eq (by omega) (by omega)).mp h2)⟩
          | exact Or.inr ⟨rfl, Or.inr (((zB_has hB7 hs).resolve_right (fun h => h14 h.1)).2)⟩
          | exact Or.inl ⟨rfl, fun e => h2 (by rw [e]), ((zB_has hB7 hs).resolve_left (fun h => absurd (h.1.symm.trans h14) (by decide))).2⟩, rfl⟩)
/-- strip s is heard -/
def zH (M : zm_T) (s : Nat) : Prop := M.1 (23 + 14 * s) 5 = 0 ∧ ((∀ i, i < 8 → M.1 (23 + 14 * i) 6 = 0) ∨ ¬ M.1 (23 + 14 * s) 6 = 0 ∨ ∃ i, i < 8 ∧ ¬ M.1 (23 + 14 * i) 6 = 0 ∧ (gq_T (zfd M) s i ∨ gq_T (zfd M) i s))
set_option maxRecDepth 100000 in
set_option maxHeartbeats 4000000 in
theorem c_De_isHeard (l : Launch) (G : zg_T) (M : zm_T) (hL : zL M.2) (s : Nat) (hs : s < 8) (hD : zD M) : Met l ky_De_isHeard (zr_ws ky_De_isHeard kc_De_isHeard 4 (some .boolean)) (zr_rm 3) (va_Pc [.ref (G.2.2.1 + 20), .int (nI s)] (zm_B G 183 zs M)) (va_Qi (fun (r : Int32) (M' : zm_T) => ((r = 1 ∧ zH M s) ∨ (r = 0 ∧ ¬ zH M s)) ∧ M' = M) (zm_B G 183 zs) (zm_A G)) 0 0 (zm_A G) := by
  refine zr_met (by decide +kernel) (Nat.le_of_ble_eq_true rfl) ?_
  intro p0 e0 s0 m0 below meth c0 ls hS hK hlk hr hl hI
  have hx := hS.1
  have hb := hS.2.1
  have hl : zl_has ls 4 [some (.ref (G.2.2.1 + 20)), some (.int (nI s)), none, none] := hl
  have es : (nI s).toNatClampNeg = s := zn_cl (by omega)
  have ha_S : 23 + 14 * s < 183 := by omega
  have hs_S : zs (23 + 14 * s) = (10 + 5, 0) := zs_st0 _ hs
  have hv_S_0 : M.2.1 (23 + 14 * s) 0 = some (24 + 14 * s) := (zL_st hL hs).2.1
  have ha_S_0 : 24 + 14 * s < 183 := by omega
  have hs_S_0 : zs (24 + 14 * s) = (5, 3) := zs_st1 _ hs
  have hv_S_1 : M.2.1 (23 + 14 * s) 1 = some (25 + 14 * s) := (zL_st hL hs).2.2.1
  have ha_S_1 : 25 + 14 * s < 183 := by omega
  have hs_S_1 : zs (25 + 14 * s) = (10 + 3, 0) := zs_st2 _ hs
  have hv_S_2 : M.2.1 (23 + 14 * s) 2 = some (29 + 14 * s) := (zL_st hL hs).2.2.2.1
  have ha_S_2 : 29 + 14 * s < 183 := by omega
  have hs_S_2 : zs (29 + 14 * s) = (0, 8) := zs_st6 _ hs
  have hv_S_3 : M.2.1 (23 + 14 * s) 3 = some (30 + 14 * s) := (zL_st hL hs).2.2.2.2.1
  have ha_S_3 : 30 + 14 * s < 183 := by omega
  have hs_S_3 : zs (30 + 14 * s) = (0, 1024) := zs_st7 _ hs
  have no : ∀ {v : Int32}, ¬ v = 0 → M.1 (23 + 14 * s) 6 = 0 → (∀ j, j < 8 → gq_T (zfd M) s j → M.1 (23 + 14 * j) 6 = 0) → zB v (fun i => ¬ M.1 (23 + 14 * i) 6 = 0) → (∀ j, j < 8 → ¬ (¬ M.1 (23 + 14 * j) 6 = 0 ∧ gq_T (zfd M) j s)) → ¬ zH M s := by
    intro v a2 a3 a4 hB a5 h
    rcases h.2 with h | h | ⟨j, hj, h1, h2 | h2⟩
    · exact a2 ((zB_z hB).resolve_right (fun q => by obtain ⟨x, hx8, hx6⟩ := q.2; exact hx6 (h x hx8))).1
    · exact h a3
    · exact h1 (a4 j hj h2)
    · exact a5 j hj ⟨h1, h2⟩
  have loop : ∀ (k i : Nat) (v : Int32) (H : Heap) (locs : List Loc) (ls : Array Slot), i + k = 8 → M.1 (23 + 14 * s) 5 = 0 → ¬ v = 0 → M.1 (23 + 14 * s) 6 = 0 → (∀ j, j < 8 → gq_T (zfd M) s j → M.1 (23 + 14 * j) 6 = 0) → zB v (fun i => ¬ M.1 (23 + 14 * i) 6 = 0) → (∀ j, j < i → ¬ (¬ M.1 (23 + 14 * j) 6 = 0 ∧ gq_T (zfd M) j s)) → zl_has ls 4 [some (.ref (G.2.2.1 + 20)), some (.int (nI s)), some (.int v), some (.int (nI i))] → zm_I G 183 zs M s0 H locs → W p0 l e0 (zr_rm 3) s0 m0 ([.ref (G.2.2.1 + 20), .int (nI s)] : List Value).toArray below meth c0 H locs 0 0 (MQ below (va_Qi (fun (r : Int32) (M' : zm_T) => ((r = 1 ∧ zH M s) ∨ (r = 0 ∧ ¬ zH M s)) ∧ M' = M) (zm_B G 183 zs) (zm_A G)) ([.ref (G.2.2.1 + 20), .int (nI s)] : List Value).toArray s0 0 0 (zm_A G)) (F0 m0 45 ls []) := by
    intro k
    induction k with
    | zero =>
      intro i v H locs ls hi a1 a2 a3 a4 hB a5 hl hI
      obtain rfl : i = 8 := by omega
      refine zr_iload_n hx hb kd_De_isHeard_45 hl rfl ?_
      refine lv_bipush (v := 8) hx hb kd_De_isHeard_46 (by decide) ?_
      refine lv_icmp_ge (tgt := 79) hx hb kd_De_isHeard_48 (by decide) (fun h48 => ?_) (fun h48 => absurd (by decide) h48)
      refine lv_iconst (v := 0) hx hb kd_De_isHeard_79 (by decide) ?_
      exact zr_zret hS hK hlk hr (by decide) hI kd_De_isHeard_80 (⟨Or.inr ⟨rfl, no a2 a3 a4 hB a5⟩, rfl⟩)
    | succ k ih =>
      intro i v H locs ls hi a1 a2 a3 a4 hB a5 hl hI
      refine zr_iload_n hx hb kd_De_isHeard_45 hl rfl ?_
      refine lv_bipush (v := 8) hx hb kd_De_isHeard_46 (by decide) ?_
      refine lv_icmp_ge (tgt := 79) hx hb kd_De_isHeard_48 (by decide) (fun h48 => absurd h48 (zn_ge (n := 8) rfl (by omega) (by decide))) (fun h48 => ?_)
      refine zr_iload_n hx hb kd_De_isHeard_51 hl rfl ?_
      refine zr_iload_n hx hb kd_De_isHeard_52 hl rfl ?_
      refine zr_ci (zr_runS hS hK (c_De_has l G 183 zs M _ _) km_De_28 hI rfl hl.1 (Nat.le_of_ble_eq_true rfl) (by decide) (by decide) kd_De_isHeard_53 rfl) hI (fun r53 M53 H locs hp53 hI => ?_)
      obtain ⟨rfl, hM53⟩ := hp53
      rw [hM53] at hI
      refine lv_if_eq (tgt := 73) hx hb kd_De_isHeard_56 (by decide) (fun h56 => ?_) (fun h56 => ?_)
      · skip
        refine zr_iinc hx hb kd_De_isHeard_73 hl (by decide) rfl rfl (fun ls hl => ?_)
        refine lv_goto (tgt := 45) hx hb kd_De_isHeard_76 (by decide) ?_
        refine ih (i + 1) _ H locs ls (by omega) a1 a2 a3 a4 hB (fun j hj h => ?_) (by rw [nI_succ]; exact hl) hI
        by_cases e : j = i
        · subst e
          first
          | exact ((zB_has hB (i := j) (by omega)).resolve_left (fun h => absurd (h.1.symm.trans h56) (by decide))).2 h.1
          | exact ((zB_has hB61 hs).resolve_left (fun h => absurd (h.1.symm.trans h68) (by decide))).2 h.2
        · exact a5 j (by omega) h
      · skip
        refine zr_aload_n hx hb kd_De_isHeard_59 hl rfl ?_
        refine zr_iload_n hx hb kd_De_isHeard_60 hl rfl ?_
        refine zr_ci (zr_runV hS hK (c_De_reach l G M hL i (by omega) hD) km_De_24 hI ha_DE hs_DE rfl hl.1 (Nat.le_of_ble_eq_true rfl) (by decide) (by decide) kd_De_isHeard_61 rfl) hI (fun r61 M61 H locs hp61 hI => ?_)
        obtain ⟨hB61, hM61⟩ := hp61
        rw [hM61] at hI
        refine zr_iload_n hx hb kd_De_isHeard_64 hl rfl ?_
        refine zr_ci (zr_runS hS hK (c_De_has l G 183 zs M _ _) km_De_28 hI rfl hl.1 (Nat.le_of_ble_eq_true rfl) (by decide) (by decide) kd_De_isHeard_65 rfl) hI (fun r65 M65 H locs hp65 hI => ?_)
        obtain ⟨rfl, hM65⟩ := hp65
        rw [hM65] at hI
        refine lv_if_eq (tgt := 73) hx hb kd_De_isHeard_68 (by decide) (fun h68 => ?_) (fun h68 => ?_)
        · skip
          refine zr_iinc hx hb kd_De_isHeard_73 hl (by decide) rfl rfl (fun ls hl => ?_)
          refine lv_goto (tgt := 45) hx hb kd_De_isHeard_76 (by decide) ?_
          refine ih (i + 1) _ H locs ls (by omega) a1 a2 a3 a4 hB (fun j hj h => ?_) (by rw [nI_succ]; exact hl) hI
          by_cases e : j = i
          · subst e
            first
            | exact ((zB_has hB (i := j) (by omega)).resolve_left (fun h => absurd (h.1.symm.trans h56) (by decide))).2 h.1
            | exact ((zB_has hB61 hs).resolve_left (fun h => absurd (h.1.symm.trans h68) (by decide))).2 h.2
          · exact a5 j (by omega) h
        · skip
          refine lv_iconst (v := 1) hx hb kd_De_isHeard_71 (by decide) ?_
          exact zr_zret hS hK hlk hr (by decide) hI kd_De_isHeard_72 (⟨Or.inl ⟨rfl, a1, Or.inr (Or.inr ⟨i, by omega, ((zB_has hB (i := i) (by omega)).resolve_right (fun h => h56 h.1)).2, Or.inr ((zB_has hB61 hs).resolve_right (fun h => h68 h.1)).2⟩)⟩, rfl⟩)
  refine zr_aload_n hx hb kd_De_isHeard_0 hl rfl ?_
  refine zr_getr hS hK kf_De_11 hI ha_DE hs_DE (zL_0 hL).2.2.2.2.1 kd_De_isHeard_1 ?_
  refine zr_iload_n hx hb kd_De_isHeard_4 hl rfl ?_
  refine zr_aald hS hK hI ha_DE_0 hs_DE_0 (by decide) (by decide) rfl (vp_in_nI (by omega) (by decide)) (by rw [es]; exact (zL_st hL hs).1) kd_De_isHeard_5 ?_
  refine zr_geti hS hK kf_De_32 hI ha_S hs_S kd_De_isHeard_6 ?_
  refine lv_if_eq (tgt := 14) hx hb kd_De_isHeard_9 (by decide) (fun h9 => ?_) (fun h9 => ?_)
  · skip
    refine zr_aload_n hx hb kd_De_isHeard_14 hl rfl ?_
    refine zr_ci (zr_runV hS hK (c_De_solos l G M hL) km_De_36 hI ha_DE hs_DE rfl hl.1 (Nat.le_of_ble_eq_true rfl) (by decide) (by decide) kd_De_isHeard_15 rfl) hI (fun r15 M15 H locs hp15 hI => ?_)
    obtain ⟨hB15, hM15⟩ := hp15
    rw [hM15] at hI
    refine zr_istore_n hx hb kd_De_isHeard_18 hl (by decide) rfl (fun ls hl => ?_)
    refine zr_iload_n hx hb kd_De_isHeard_19 hl rfl ?_
    refine lv_if_eq (tgt := 41) hx hb kd_De_isHeard_20 (by decide) (fun h20 => ?_) (fun h20 => ?_)
    · skip
      refine lv_iconst (v := 1) hx hb kd_De_isHeard_41 (by decide) ?_
      exact zr_zret hS hK hlk hr (by decide) hI kd_De_isHeard_42 (⟨by
          first
          | exact Or.inr ⟨rfl, fun h => h9 h.1⟩
          | exact Or.inl ⟨rfl, h9, Or.inl (fun i hi => Decidable.not_not.mp (((zB_z hB15).resolve_right (fun q => q.1 h20)).2 i hi))⟩
          | exact Or.inl ⟨rfl, h9, Or.inr (Or.inl ((zB_has hB15 hs).resolve_right (fun h => h28 h.1)).2)⟩
          | (obtain ⟨x, x8, x1, x2⟩ := ((zB_z (zB_and hB33 hB15)).resolve_left (fun q => h38 q.1)).2
             exact Or.inl ⟨rfl, h9, Or.inr (Or.inr ⟨x, x8, x2, Or.inl x1⟩)⟩), rfl⟩)
    · skip
      refine zr_iload_n hx hb kd_De_isHeard_23 hl rfl ?_
      refine zr_iload_n hx hb kd_De_isHeard_24 hl rfl ?_
      refine zr_ci (zr_runS hS hK (c_De_has l G 183 zs M _ _) km_De_28 hI rfl hl.1 (Nat.le_of_ble_eq_true rfl) (by decide) (by decide) kd_De_isHeard_25 rfl) hI (fun r25 M25 H locs hp25 hI => ?_)
      obtain ⟨rfl, hM25⟩ := hp25
      rw [hM25] at hI
      refine lv_if_ne (tgt := 41) hx hb kd_De_isHeard_28 (by decide) (fun h28 => ?_) (fun h28 => ?_)
      · skip
        refine lv_iconst (v := 1) hx hb kd_De_isHeard_41 (by decide) ?_
        exact zr_zret hS hK hlk hr (by decide) hI kd_De_isHeard_42 (⟨by
            first
            | exact Or.inr ⟨rfl, fun h => h9 h.1⟩
            | exact Or.inl ⟨rfl, h9, Or.inl (fun i hi => Decidable.not_not.mp (((zB_z hB15).resolve_right (fun q => q.1 h20)).2 i hi))⟩
            | exact Or.inl ⟨rfl, h9, Or.inr (Or.inl ((zB_has hB15 hs).resolve_right (fun h => h28 h.1)).2)⟩
            | (obtain ⟨x, x8, x1, x2⟩ := ((zB_z (zB_and hB33 hB15)).resolve_left (fun q => h38 q.1)).2
               exact Or.inl ⟨rfl, h9, Or.inr (Or.inr ⟨x, x8, x2, Or.inl x1⟩)⟩), rfl⟩)
      · skip
        refine zr_aload_n hx hb kd_De_isHeard_31 hl rfl ?_
        refine zr_iload_n hx hb kd_De_isHeard_32 hl rfl ?_
        refine zr_ci (zr_runV hS hK (c_De_reach l G M hL s hs hD) km_De_24 hI ha_DE hs_DE rfl hl.1 (Nat.le_of_ble_eq_true rfl) (by decide) (by decide) kd_De_isHeard_33 rfl) hI (fun r33 M33 H locs hp33 hI => ?_)
        obtain ⟨hB33, hM33⟩ := hp33
        rw [hM33] at hI
        refine zr_iload_n hx hb kd_De_isHeard_36 hl rfl ?_
        refine lv_iand hx hb kd_De_isHeard_37 ?_
        refine lv_if_eq (tgt := 43) hx hb kd_De_isHeard_38 (by decide) (fun h38 => ?_) (fun h38 => ?_)
        · skip
          refine lv_iconst (v := 0) hx hb kd_De_isHeard_43 (by decide) ?_
          refine zr_istore_n hx hb kd_De_isHeard_44 hl (by decide) rfl (fun ls hl => ?_)
          exact loop 8 0 _ _ _ _ (by omega) h9 h20 (Decidable.not_not.mp ((zB_has hB15 hs).resolve_left (fun h => absurd (h.1.symm.trans h28) (by decide))).2) (fun j hj hT => Decidable.not_not.mp (fun h6 => ((zB_z (zB_and hB33 hB15)).resolve_right (fun q => q.1 h38)).2 j hj ⟨hT, h6⟩)) hB15 (fun j hj => absurd hj (by omega)) hl hI
        · skip
          refine lv_iconst (v := 1) hx hb kd_De_isHeard_41 (by decide) ?_
          exact zr_zret hS hK hlk hr (by decide) hI kd_De_isHeard_42 (⟨by
              first
              | exact Or.inr ⟨rfl, fun h => h9 h.1⟩
              | exact Or.inl ⟨rfl, h9, Or.inl (fun i hi => Decidable.not_not.mp (((zB_z hB15).resolve_right (fun q => q.1 h20)).2 i hi))⟩
              | exact Or.inl ⟨rfl, h9, Or.inr (Or.inl ((zB_has hB15 hs).resolve_right (fun h => h28 h.1)).2)⟩
              | (obtain ⟨x, x8, x1, x2⟩ := ((zB_z (zB_and hB33 hB15)).resolve_left (fun q => h38 q.1)).2
                 exact Or.inl ⟨rfl, h9, Or.inr (Or.inr ⟨x, x8, x2, Or.inl x1⟩)⟩), rfl⟩)
  · skip
    refine lv_iconst (v := 0) hx hb kd_De_isHeard_12 (by decide) ?_
    exact zr_zret hS hK hlk hr (by decide) hI kd_De_isHeard_13 (⟨by
        first
        | exact Or.inr ⟨rfl, fun h => h9 h.1⟩
        | exact Or.inl ⟨rfl, h9, Or.inl (fun i hi => Decidable.not_not.mp (((zB_z hB15).resolve_right (fun q => q.1 h20)).2 i hi))⟩
        | exact Or.inl ⟨rfl, h9, Or.inr (Or.inl ((zB_has hB15 hs).resolve_right (fun h => h28 h.1)).2)⟩
        | (obtain ⟨x, x8, x1, x2⟩ := ((zB_z (zB_and hB33 hB15)).resolve_left (fun q => h38 q.1)).2
           exact Or.inl ⟨rfl, h9, Or.inr (Or.inr ⟨x, x8, x2, Or.inl x1⟩)⟩), rfl⟩)
/-- the greatest delay of the first n strips that feed s -/
def zf_gd (M : zm_T) (s : Nat) : Nat → Int32
  | 0 => 0
  | n + 1 => if zf_feeds M n s = 0 then zf_gd M s n else if zf_gd M s n < M.1 (23 + 14 * n) 8 then M.1 (23 + 14 * n) 8 else zf_gd M s n
set_option maxRecDepth 100000 in
set_option maxHeartbeats 4000000 in
theorem c_De_greatestDelayInto (l : Launch) (G : zg_T) (M : zm_T) (hL : zL M.2) (s : Nat) (hs : s < 8) : Met l ky_De_greatestDelayInto (zr_ws ky_De_greatestDelayInto kc_De_greatestDelayInto 4 (some .int)) (zr_rm 1) (va_Pc [.ref (G.2.2.1 + 20), .int (nI s)] (zm_B G 183 zs M)) (va_Qi (fun (r : Int32) (M' : zm_T) => r = zf_gd M s 7 ∧ M' = M) (zm_B G 183 zs) (zm_A G)) 0 0 (zm_A G) := by
  refine zr_met (by decide +kernel) (Nat.le_of_ble_eq_true rfl) ?_
  intro p0 e0 s0 m0 below meth c0 ls hS hK hlk hr hl hI
  have hx := hS.1
  have hb := hS.2.1
  have hl : zl_has ls 4 [some (.ref (G.2.2.1 + 20)), some (.int (nI s)), none, none] := hl
  have loop : ∀ (k i : Nat) (H : Heap) (locs : List Loc) (ls : Array Slot), i + k = 7 → zl_has ls 4 [some (.ref (G.2.2.1 + 20)), some (.int (nI s)), some (.int (zf_gd M s i)), some (.int (nI i))] → zm_I G 183 zs M s0 H locs → W p0 l e0 (zr_rm 1) s0 m0 ([.ref (G.2.2.1 + 20), .int (nI s)] : List Value).toArray below meth c0 H locs 0 0 (MQ below (va_Qi (fun (r : Int32) (M' : zm_T) => r = zf_gd M s 7 ∧ M' = M) (zm_B G 183 zs) (zm_A G)) ([.ref (G.2.2.1 + 20), .int (nI s)] : List Value).toArray s0 0 0 (zm_A G)) (F0 m0 4 ls []) := by
    intro k
    induction k with
    | zero =>
      intro i H locs ls hi hl hI
      obtain rfl : i = 7 := by omega
      refine zr_iload_n hx hb kd_De_greatestDelayInto_4 hl rfl ?_
      refine lv_bipush (v := 7) hx hb kd_De_greatestDelayInto_5 (by decide) ?_
      refine lv_icmp_ge (tgt := 43) hx hb kd_De_greatestDelayInto_7 (by decide) (fun h7 => ?_) (fun h7 => absurd (by decide) h7)
      refine zr_iload_n hx hb kd_De_greatestDelayInto_43 hl rfl ?_
      exact zr_iret hS hK hlk hr hI kd_De_greatestDelayInto_44 (⟨rfl, rfl⟩)
    | succ k ih =>
      intro i H locs ls hi hl hI
      have ei : (nI i).toNatClampNeg = i := zn_cl (by omega)
      refine zr_iload_n hx hb kd_De_greatestDelayInto_4 hl rfl ?_
      refine lv_bipush (v := 7) hx hb kd_De_greatestDelayInto_5 (by decide) ?_
      refine lv_icmp_ge (tgt := 43) hx hb kd_De_greatestDelayInto_7 (by decide) (fun h7 => absurd h7 (zn_ge (n := 7) rfl (by omega) (by decide))) (fun h7 => ?_)
      refine zr_aload_n hx hb kd_De_greatestDelayInto_10 hl rfl ?_
      refine zr_getr hS hK kf_De_11 hI ha_DE hs_DE (zL_0 hL).2.2.2.2.1 kd_De_greatestDelayInto_11 ?_
      refine zr_iload_n hx hb kd_De_greatestDelayInto_14 hl rfl ?_
      refine zr_aald hS hK hI ha_DE_0 hs_DE_0 (by decide) (by decide) rfl (vp_in_nI (by omega) (by decide)) (by rw [ei]; exact (zL_st hL (s := i) (by omega)).1) kd_De_greatestDelayInto_15 ?_
      refine zr_iload_n hx hb kd_De_greatestDelayInto_16 hl rfl ?_
      refine zr_ci (zr_runV hS hK (c_St_feeds l G M hL i s (by omega) hs) km_De_76 hI (by omega) (zs_st0 i (by omega)) rfl hl.1 (Nat.le_of_ble_eq_true rfl) (by decide) (by decide) kd_De_greatestDelayInto_17 rfl) hI (fun r17 M17 H locs hp17 hI => ?_)
      obtain ⟨rfl, hM17⟩ := hp17
      rw [hM17] at hI
      refine lv_if_eq (tgt := 37) hx hb kd_De_greatestDelayInto_20 (by decide) (fun h20 => ?_) (fun h20 => ?_)
      · skip
        refine zr_iinc hx hb kd_De_greatestDelayInto_37 hl (by decide) rfl rfl (fun ls hl => ?_)
        refine lv_goto (tgt := 4) hx hb kd_De_greatestDelayInto_40 (by decide) ?_
        refine ih (i + 1) H locs ls (by omega) ?_ hI
        rw [nI_succ, zf_gd]
        first
        | (rw [if_pos h20]; exact hl)
        | (rw [if_neg h20]; exact hl)
      · skip
        refine zr_iload_n hx hb kd_De_greatestDelayInto_23 hl rfl ?_
        refine zr_aload_n hx hb kd_De_greatestDelayInto_24 hl rfl ?_
        refine zr_getr hS hK kf_De_11 hI ha_DE hs_DE (zL_0 hL).2.2.2.2.1 kd_De_greatestDelayInto_25 ?_
        refine zr_iload_n hx hb kd_De_greatestDelayInto_28 hl rfl ?_
        refine zr_aald hS hK hI ha_DE_0 hs_DE_0 (by decide) (by decide) rfl (vp_in_nI (by omega) (by decide)) (by rw [ei]; exact (zL_st hL (s := i) (by omega)).1) kd_De_greatestDelayInto_29 ?_
        refine zr_geti hS hK kf_De_64 hI (by omega) (zs_st0 i (by omega)) kd_De_greatestDelayInto_30 ?_
        refine va_mmax hx hb (hS.2.2.1.trans hl.1.symm) hS.2.2.2.1 (hS.2.2.2.2 _ (zw_mem (i := 615) rfl rfl)) (hS.2.2.2.2 _ (zw_mem (i := 616) rfl rfl)) (hS.2.2.2.2 _ (zw_mem (i := 49) rfl rfl)) (hS.2.2.2.2 _ (zw_mem (i := 617) rfl rfl)) (by decide) (Nat.le_of_ble_eq_true rfl) (by decide) (by decide) kd_De_greatestDelayInto_33 ?_
        refine zr_istore_n hx hb kd_De_greatestDelayInto_36 hl (by decide) rfl (fun ls hl => ?_)
        refine zr_iinc hx hb kd_De_greatestDelayInto_37 hl (by decide) rfl rfl (fun ls hl => ?_)
        refine lv_goto (tgt := 4) hx hb kd_De_greatestDelayInto_40 (by decide) ?_
        refine ih (i + 1) H locs ls (by omega) ?_ hI
        rw [nI_succ, zf_gd]
        first
        | (rw [if_pos h20]; exact hl)
        | (rw [if_neg h20]; exact hl)
  refine lv_iconst (v := 0) hx hb kd_De_greatestDelayInto_0 (by decide) ?_
  refine zr_istore_n hx hb kd_De_greatestDelayInto_1 hl (by decide) rfl (fun ls hl => ?_)
  refine lv_iconst (v := 0) hx hb kd_De_greatestDelayInto_2 (by decide) ?_
  refine zr_istore_n hx hb kd_De_greatestDelayInto_3 hl (by decide) rfl (fun ls hl => ?_)
  exact loop 7 0 _ _ _ (by omega) hl hI

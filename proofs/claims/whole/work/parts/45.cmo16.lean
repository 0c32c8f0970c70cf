/-! The reference's public methods: effects, shapes, moves. -/
theorem zv_in0 {x lo hi : Int32} : zf_in x lo hi = 0 ↔ (x < lo ∨ hi < x) := by
  unfold zf_in
  by_cases h1 : x < lo
  · rw [if_pos h1]; exact ⟨fun _ => Or.inl h1, fun _ => rfl⟩
  · rw [if_neg h1]
    by_cases h2 : hi < x
    · rw [if_pos h2]; exact ⟨fun _ => Or.inr h2, fun _ => rfl⟩
    · rw [if_neg h2]; exact ⟨fun h => absurd h (by decide), fun h => h.elim (fun h => absurd h h1) (fun h => absurd h h2)⟩
theorem zf_both_0 {a b : Int32} (ha : a = 0 ∨ a = 1) (hb : b = 0 ∨ b = 1) : zf_both a b = 0 ↔ (a = 0 ∨ b = 0) := by
  rcases ha with rfl | rfl <;> rcases hb with rfl | rfl <;> decide
theorem zf_allows_6 {k p q : Int32} (h : k.toInt = 6) : zf_allows k p q = zf_in p 0 100000 := by
  unfold zf_allows
  rw [if_neg (by omega), if_neg (by omega), if_neg (by omega), if_neg (by omega), if_neg (by omega), if_neg (by omega), if_pos h]
set_option maxRecDepth 100000 in
set_option maxHeartbeats 4000000 in
theorem c_Mo_isOff (l : Launch) (G : zg_T) (nc : Nat) (sh : Nat → Nat × Nat) (M : zm_T) (k p' q : Int32) (h0k : 0 ≤ k.toInt) (hk6 : k.toInt ≤ 6) : Met l ky_Mo_isOff (zr_ws ky_Mo_isOff kc_Mo_isOff 3 (some .boolean)) (zr_rm 1) (va_Pc [.int k, .int p', .int q] (zm_B G nc sh M)) (va_Qi (fun (r : Int32) (M' : zm_T) => r = (if zf_allows k p' q = 0 then 1 else 0) ∧ M' = M) (zm_B G nc sh) (zm_A G)) 0 0 (zm_A G) := by
  refine zr_met (by decide +kernel) (Nat.le_of_ble_eq_true rfl) ?_
  intro p0 e0 s0 m0 below meth c0 ls hS hK hlk hr hl hI
  have hx := hS.1
  have hb := hS.2.1
  have hl : zl_has ls 3 [some (.int k), some (.int p'), some (.int q)] := hl
  refine zr_iload_n hx hb kd_Mo_isOff_0 hl rfl ?_
  by_cases ht_lo : (k).toInt < 0
  · refine lv_tableOut (tgt := 145) hx hb kd_Mo_isOff_1 (Or.inl ht_lo) (by decide) ?_
    refine zr_iload_n hx hb kd_Mo_isOff_145 hl rfl ?_
    refine lv_if_lt (tgt := 155) hx hb kd_Mo_isOff_146 (by decide) (fun h146 => ?_) (fun h146 => ?_)
    · skip
      refine lv_iconst (v := 1) hx hb kd_Mo_isOff_155 (by decide) ?_
      refine lv_goto (tgt := 160) hx hb kd_Mo_isOff_156 (by decide) ?_
      exact zr_zret hS hK hlk hr (by (repeat' split) <;> rfl) hI kd_Mo_isOff_160 (⟨by
          unfold zf_allows
          first
          | (rw [if_pos ht_0]; rfl)
          | (rw [if_neg ht_0, if_pos ht_1]; done)
          | (rw [if_neg ht_0, if_neg ht_1, if_pos ht_2]; simp [zv_in0, *]; done)
          | (rw [if_neg ht_0, if_neg ht_1, if_neg ht_2, if_pos ht_3]; simp [zf_both_0 (zf_in_01 _ _ _) (zf_in_01 _ _ _), zv_in0, *]; done)
          | (rw [if_neg ht_0, if_neg ht_1, if_neg ht_2, if_neg ht_3, if_pos ht_4]; simp [zf_both_0 (zf_in_01 _ _ _) (zf_in_01 _ _ _), zv_in0, *]; done)
          | (rw [if_neg ht_0, if_neg ht_1, if_neg ht_2, if_neg ht_3, if_neg ht_4, if_pos ht_5]; simp [zf_both_0 (zf_in_01 _ _ _) (zf_in_01 _ _ _), zv_in0, *]; done)
          | (exfalso; omega)
          | (have e6 : k.toInt = 6 := by omega
             show _ = if zf_allows k p' q = 0 then (1 : Int32) else 0
             rw [zf_allows_6 e6]
             first
             | (rw [if_neg (fun g => (zv_in0.mp g).elim h146 (Int32.not_lt.mpr h152))]; done)
             | (rw [if_pos (zv_in0.mpr (Or.inr (Int32.not_le.mp h152)))]; done)
             | (rw [if_pos (zv_in0.mpr (Or.inl h146))]; done)), rfl⟩)
    · skip
      refine zr_iload_n hx hb kd_Mo_isOff_149 hl rfl ?_
      refine lv_ldc (v := 100000) hx hb hS.2.2.2.1 (hS.2.2.2.2 _ (zw_mem (i := 1217) (w := .constant "StripMixerModel" 140 100000) (by decide +kernel) rfl)) kd_Mo_isOff_150 ?_
      refine lv_icmp_le (tgt := 159) hx hb kd_Mo_isOff_152 (by decide) (fun h152 => ?_) (fun h152 => ?_)
      · skip
        refine lv_iconst (v := 0) hx hb kd_Mo_isOff_159 (by decide) ?_
        exact zr_zret hS hK hlk hr (by (repeat' split) <;> rfl) hI kd_Mo_isOff_160 (⟨by
            unfold zf_allows
            first
            | (rw [if_pos ht_0]; rfl)
            | (rw [if_neg ht_0, if_pos ht_1]; done)
            | (rw [if_neg ht_0, if_neg ht_1, if_pos ht_2]; simp [zv_in0, *]; done)
            | (rw [if_neg ht_0, if_neg ht_1, if_neg ht_2, if_pos ht_3]; simp [zf_both_0 (zf_in_01 _ _ _) (zf_in_01 _ _ _), zv_in0, *]; done)
            | (rw [if_neg ht_0, if_neg ht_1, if_neg ht_2, if_neg ht_3, if_pos ht_4]; simp [zf_both_0 (zf_in_01 _ _ _) (zf_in_01 _ _ _), zv_in0, *]; done)
            | (rw [if_neg ht_0, if_neg ht_1, if_neg ht_2, if_neg ht_3, if_neg ht_4, if_pos ht_5]; simp [zf_both_0 (zf_in_01 _ _ _) (zf_in_01 _ _ _), zv_in0, *]; done)
            | (exfalso; omega)
            | (have e6 : k.toInt = 6 := by omega
               show _ = if zf_allows k p' q = 0 then (1 : Int32) else 0
               rw [zf_allows_6 e6]
               first
               | (rw [if_neg (fun g => (zv_in0.mp g).elim h146 (Int32.not_lt.mpr h152))]; done)
               | (rw [if_pos (zv_in0.mpr (Or.inr (Int32.not_le.mp h152)))]; done)
               | (rw [if_pos (zv_in0.mpr (Or.inl h146))]; done)), rfl⟩)
      · skip
        refine lv_iconst (v := 1) hx hb kd_Mo_isOff_155 (by decide) ?_
        refine lv_goto (tgt := 160) hx hb kd_Mo_isOff_156 (by decide) ?_
        exact zr_zret hS hK hlk hr (by (repeat' split) <;> rfl) hI kd_Mo_isOff_160 (⟨by
            unfold zf_allows
            first
            | (rw [if_pos ht_0]; rfl)
            | (rw [if_neg ht_0, if_pos ht_1]; done)
            | (rw [if_neg ht_0, if_neg ht_1, if_pos ht_2]; simp [zv_in0, *]; done)
            | (rw [if_neg ht_0, if_neg ht_1, if_neg ht_2, if_pos ht_3]; simp [zf_both_0 (zf_in_01 _ _ _) (zf_in_01 _ _ _), zv_in0, *]; done)
            | (rw [if_neg ht_0, if_neg ht_1, if_neg ht_2, if_neg ht_3, if_pos ht_4]; simp [zf_both_0 (zf_in_01 _ _ _) (zf_in_01 _ _ _), zv_in0, *]; done)
            | (rw [if_neg ht_0, if_neg ht_1, if_neg ht_2, if_neg ht_3, if_neg ht_4, if_pos ht_5]; simp [zf_both_0 (zf_in_01 _ _ _) (zf_in_01 _ _ _), zv_in0, *]; done)
            | (exfalso; omega)
            | (have e6 : k.toInt = 6 := by omega
               show _ = if zf_allows k p' q = 0 then (1 : Int32) else 0
               rw [zf_allows_6 e6]
               first
               | (rw [if_neg (fun g => (zv_in0.mp g).elim h146 (Int32.not_lt.mpr h152))]; done)
               | (rw [if_pos (zv_in0.mpr (Or.inr (Int32.not_le.mp h152)))]; done)
               | (rw [if_pos (zv_in0.mpr (Or.inl h146))]; done)), rfl⟩)
  by_cases ht_hi : 5 < (k).toInt
  · refine lv_tableOut (tgt := 145) hx hb kd_Mo_isOff_1 (Or.inr ht_hi) (by decide) ?_
    refine zr_iload_n hx hb kd_Mo_isOff_145 hl rfl ?_
    refine lv_if_lt (tgt := 155) hx hb kd_Mo_isOff_146 (by decide) (fun h146 => ?_) (fun h146 => ?_)
    · skip
      refine lv_iconst (v := 1) hx hb kd_Mo_isOff_155 (by decide) ?_
      refine lv_goto (tgt := 160) hx hb kd_Mo_isOff_156 (by decide) ?_
      exact zr_zret hS hK hlk hr (by (repeat' split) <;> rfl) hI kd_Mo_isOff_160 (⟨by
          unfold zf_allows
          first
          | (rw [if_pos ht_0]; rfl)
          | (rw [if_neg ht_0, if_pos ht_1]; done)
          | (rw [if_neg ht_0, if_neg ht_1, if_pos ht_2]; simp [zv_in0, *]; done)
          | (rw [if_neg ht_0, if_neg ht_1, if_neg ht_2, if_pos ht_3]; simp [zf_both_0 (zf_in_01 _ _ _) (zf_in_01 _ _ _), zv_in0, *]; done)
          | (rw [if_neg ht_0, if_neg ht_1, if_neg ht_2, if_neg ht_3, if_pos ht_4]; simp [zf_both_0 (zf_in_01 _ _ _) (zf_in_01 _ _ _), zv_in0, *]; done)
          | (rw [if_neg ht_0, if_neg ht_1, if_neg ht_2, if_neg ht_3, if_neg ht_4, if_pos ht_5]; simp [zf_both_0 (zf_in_01 _ _ _) (zf_in_01 _ _ _), zv_in0, *]; done)
          | (exfalso; omega)
          | (have e6 : k.toInt = 6 := by omega
             show _ = if zf_allows k p' q = 0 then (1 : Int32) else 0
             rw [zf_allows_6 e6]
             first
             | (rw [if_neg (fun g => (zv_in0.mp g).elim h146 (Int32.not_lt.mpr h152))]; done)
             | (rw [if_pos (zv_in0.mpr (Or.inr (Int32.not_le.mp h152)))]; done)
             | (rw [if_pos (zv_in0.mpr (Or.inl h146))]; done)), rfl⟩)
    · skip
      refine zr_iload_n hx hb kd_Mo_isOff_149 hl rfl ?_
      refine lv_ldc (v := 100000) hx hb hS.2.2.2.1 (hS.2.2.2.2 _ (zw_mem (i := 1217) (w := .constant "StripMixerModel" 140 100000) (by decide +kernel) rfl)) kd_Mo_isOff_150 ?_
      refine lv_icmp_le (tgt := 159) hx hb kd_Mo_isOff_152 (by decide) (fun h152 => ?_) (fun h152 => ?_)
      · skip
        refine lv_iconst (v := 0) hx hb kd_Mo_isOff_159 (by decide) ?_
        exact zr_zret hS hK hlk hr (by (repeat' split) <;> rfl) hI kd_Mo_isOff_160 (⟨by
            unfold zf_allows
            first
            | (rw [if_pos ht_0]; rfl)
            | (rw [if_neg ht_0, if_pos ht_1]; done)
            | (rw [if_neg ht_0, if_neg ht_1, if_pos ht_2]; simp [zv_in0, *]; done)
            | (rw [if_neg ht_0, if_neg ht_1, if_neg ht_2, if_pos ht_3]; simp [zf_both_0 (zf_in_01 _ _ _) (zf_in_01 _ _ _), zv_in0, *]; done)
            | (rw [if_neg ht_0, if_neg ht_1, if_neg ht_2, if_neg ht_3, if_pos ht_4]; simp [zf_both_0 (zf_in_01 _ _ _) (zf_in_01 _ _ _), zv_in0, *]; done)
            | (rw [if_neg ht_0, if_neg ht_1, if_neg ht_2, if_neg ht_3, if_neg ht_4, if_pos ht_5]; simp [zf_both_0 (zf_in_01 _ _ _) (zf_in_01 _ _ _), zv_in0, *]; done)
            | (exfalso; omega)
            | (have e6 : k.toInt = 6 := by omega
               show _ = if zf_allows k p' q = 0 then (1 : Int32) else 0
               rw [zf_allows_6 e6]
               first
               | (rw [if_neg (fun g => (zv_in0.mp g).elim h146 (Int32.not_lt.mpr h152))]; done)
               | (rw [if_pos (zv_in0.mpr (Or.inr (Int32.not_le.mp h152)))]; done)
               | (rw [if_pos (zv_in0.mpr (Or.inl h146))]; done)), rfl⟩)
      · skip
        refine lv_iconst (v := 1) hx hb kd_Mo_isOff_155 (by decide) ?_
        refine lv_goto (tgt := 160) hx hb kd_Mo_isOff_156 (by decide) ?_
        exact zr_zret hS hK hlk hr (by (repeat' split) <;> rfl) hI kd_Mo_isOff_160 (⟨by
            unfold zf_allows
            first
            | (rw [if_pos ht_0]; rfl)
            | (rw [if_neg ht_0, if_pos ht_1]; done)
            | (rw [if_neg ht_0, if_neg ht_1, if_pos ht_2]; simp [zv_in0, *]; done)
            | (rw [if_neg ht_0, if_neg ht_1, if_neg ht_2, if_pos ht_3]; simp [zf_both_0 (zf_in_01 _ _ _) (zf_in_01 _ _ _), zv_in0, *]; done)
            | (rw [if_neg ht_0, if_neg ht_1, if_neg ht_2, if_neg ht_3, if_pos ht_4]; simp [zf_both_0 (zf_in_01 _ _ _) (zf_in_01 _ _ _), zv_in0, *]; done)
            | (rw [if_neg ht_0, if_neg ht_1, if_neg ht_2, if_neg ht_3, if_neg ht_4, if_pos ht_5]; simp [zf_both_0 (zf_in_01 _ _ _) (zf_in_01 _ _ _), zv_in0, *]; done)
            | (exfalso; omega)
            | (have e6 : k.toInt = 6 := by omega
               show _ = if zf_allows k p' q = 0 then (1 : Int32) else 0
               rw [zf_allows_6 e6]
               first
               | (rw [if_neg (fun g => (zv_in0.mp g).elim h146 (Int32.not_lt.mpr h152))]; done)
               | (rw [if_pos (zv_in0.mpr (Or.inr (Int32.not_le.mp h152)))]; done)
               | (rw [if_pos (zv_in0.mpr (Or.inl h146))]; done)), rfl⟩)
  by_cases ht_0 : (k).toInt = 0
  · refine lv_tableIn (tgt := 40) (off := 39) hx hb kd_Mo_isOff_1 ht_lo ht_hi (by rw [ht_0]; rfl) (by decide) ?_
    refine lv_iconst (v := 0) hx hb kd_Mo_isOff_40 (by decide) ?_
    exact zr_zret hS hK hlk hr (by (repeat' split) <;> rfl) hI kd_Mo_isOff_41 (⟨by
        unfold zf_allows
        first
        | (rw [if_pos ht_0]; rfl)
        | (rw [if_neg ht_0, if_pos ht_1]; done)
        | (rw [if_neg ht_0, if_neg ht_1, if_pos ht_2]; simp [zv_in0, *]; done)
        | (rw [if_neg ht_0, if_neg ht_1, if_neg ht_2, if_pos ht_3]; simp [zf_both_0 (zf_in_01 _ _ _) (zf_in_01 _ _ _), zv_in0, *]; done)
        | (rw [if_neg ht_0, if_neg ht_1, if_neg ht_2, if_neg ht_3, if_pos ht_4]; simp [zf_both_0 (zf_in_01 _ _ _) (zf_in_01 _ _ _), zv_in0, *]; done)
        | (rw [if_neg ht_0, if_neg ht_1, if_neg ht_2, if_neg ht_3, if_neg ht_4, if_pos ht_5]; simp [zf_both_0 (zf_in_01 _ _ _) (zf_in_01 _ _ _), zv_in0, *]; done)
        | (exfalso; omega)
        | (have e6 : k.toInt = 6 := by omega
           show _ = if zf_allows k p' q = 0 then (1 : Int32) else 0
           rw [zf_allows_6 e6]
           first
           | (rw [if_neg (fun g => (zv_in0.mp g).elim h146 (Int32.not_lt.mpr h152))]; done)
           | (rw [if_pos (zv_in0.mpr (Or.inr (Int32.not_le.mp h152)))]; done)
           | (rw [if_pos (zv_in0.mpr (Or.inl h146))]; done)), rfl⟩)
  by_cases ht_1 : (k).toInt = 1
  · refine lv_tableIn (tgt := 42) (off := 41) hx hb kd_Mo_isOff_1 ht_lo ht_hi (by rw [ht_1]; rfl) (by decide) ?_
    refine zr_iload_n hx hb kd_Mo_isOff_42 hl rfl ?_
    refine zr_ci (zr_runS hS hK (c_Mo_noLevel l G nc sh M _) km_Mo_130 hI rfl hl.1 (Nat.le_of_ble_eq_true rfl) (by decide) (by decide) kd_Mo_isOff_43 rfl) hI (fun r43 M43 H locs hp43 hI => ?_)
    obtain ⟨rfl, hM43⟩ := hp43
    rw [hM43] at hI
    exact zr_zret hS hK hlk hr (by (repeat' split) <;> rfl) hI kd_Mo_isOff_46 (⟨by
        unfold zf_allows
        first
        | (rw [if_pos ht_0]; rfl)
        | (rw [if_neg ht_0, if_pos ht_1]; done)
        | (rw [if_neg ht_0, if_neg ht_1, if_pos ht_2]; simp [zv_in0, *]; done)
        | (rw [if_neg ht_0, if_neg ht_1, if_neg ht_2, if_pos ht_3]; simp [zf_both_0 (zf_in_01 _ _ _) (zf_in_01 _ _ _), zv_in0, *]; done)
        | (rw [if_neg ht_0, if_neg ht_1, if_neg ht_2, if_neg ht_3, if_pos ht_4]; simp [zf_both_0 (zf_in_01 _ _ _) (zf_in_01 _ _ _), zv_in0, *]; done)
        | (rw [if_neg ht_0, if_neg ht_1, if_neg ht_2, if_neg ht_3, if_neg ht_4, if_pos ht_5]; simp [zf_both_0 (zf_in_01 _ _ _) (zf_in_01 _ _ _), zv_in0, *]; done)
        | (exfalso; omega)
        | (have e6 : k.toInt = 6 := by omega
           show _ = if zf_allows k p' q = 0 then (1 : Int32) else 0
           rw [zf_allows_6 e6]
           first
           | (rw [if_neg (fun g => (zv_in0.mp g).elim h146 (Int32.not_lt.mpr h152))]; done)
           | (rw [if_pos (zv_in0.mpr (Or.inr (Int32.not_le.mp h152)))]; done)
           | (rw [if_pos (zv_in0.mpr (Or.inl h146))]; done)), rfl⟩)
  by_cases ht_2 : (k).toInt = 2
  · refine lv_tableIn (tgt := 47) (off := 46) hx hb kd_Mo_isOff_1 ht_lo ht_hi (by rw [ht_2]; rfl) (by decide) ?_
    refine zr_iload_n hx hb kd_Mo_isOff_47 hl rfl ?_
    refine lv_if_lt (tgt := 58) hx hb kd_Mo_isOff_48 (by decide) (fun h48 => ?_) (fun h48 => ?_)
    · skip
      refine lv_iconst (v := 1) hx hb kd_Mo_isOff_58 (by decide) ?_
      refine lv_goto (tgt := 63) hx hb kd_Mo_isOff_59 (by decide) ?_
      exact zr_zret hS hK hlk hr (by (repeat' split) <;> rfl) hI kd_Mo_isOff_63 (⟨by
          unfold zf_allows
          first
          | (rw [if_pos ht_0]; rfl)
          | (rw [if_neg ht_0, if_pos ht_1]; done)
          | (rw [if_neg ht_0, if_neg ht_1, if_pos ht_2]; simp [zv_in0, *]; done)
          | (rw [if_neg ht_0, if_neg ht_1, if_neg ht_2, if_pos ht_3]; simp [zf_both_0 (zf_in_01 _ _ _) (zf_in_01 _ _ _), zv_in0, *]; done)
          | (rw [if_neg ht_0, if_neg ht_1, if_neg ht_2, if_neg ht_3, if_pos ht_4]; simp [zf_both_0 (zf_in_01 _ _ _) (zf_in_01 _ _ _), zv_in0, *]; done)
          | (rw [if_neg ht_0, if_neg ht_1, if_neg ht_2, if_neg ht_3, if_neg ht_4, if_pos ht_5]; simp [zf_both_0 (zf_in_01 _ _ _) (zf_in_01 _ _ _), zv_in0, *]; done)
          | (exfalso; omega)
          | (have e6 : k.toInt = 6 := by omega
             show _ = if zf_allows k p' q = 0 then (1 : Int32) else 0
             rw [zf_allows_6 e6]
             first
             | (rw [if_neg (fun g => (zv_in0.mp g).elim h146 (Int32.not_lt.mpr h152))]; done)
             | (rw [if_pos (zv_in0.mpr (Or.inr (Int32.not_le.mp h152)))]; done)
             | (rw [if_pos (zv_in0.mpr (Or.inl h146))]; done)), rfl⟩)
    · skip
      refine zr_iload_n hx hb kd_Mo_isOff_51 hl rfl ?_
      refine lv_sipush (v := 256) hx hb kd_Mo_isOff_52 (by decide) ?_
      refine lv_icmp_le (tgt := 62) hx hb kd_Mo_isOff_55 (by decide) (fun h55 => ?_) (fun h55 => ?_)
      · skip
        refine lv_iconst (v := 0) hx hb kd_Mo_isOff_62 (by decide) ?_
        exact zr_zret hS hK hlk hr (by (repeat' split) <;> rfl) hI kd_Mo_isOff_63 (⟨by
            unfold zf_allows
            first
            | (rw [if_pos ht_0]; rfl)
            | (rw [if_neg ht_0, if_pos ht_1]; done)
            | (rw [if_neg ht_0, if_neg ht_1, if_pos ht_2]; simp [zv_in0, *]; done)
            | (rw [if_neg ht_0, if_neg ht_1, if_neg ht_2, if_pos ht_3]; simp [zf_both_0 (zf_in_01 _ _ _) (zf_in_01 _ _ _), zv_in0, *]; done)
            | (rw [if_neg ht_0, if_neg ht_1, if_neg ht_2, if_neg ht_3, if_pos ht_4]; simp [zf_both_0 (zf_in_01 _ _ _) (zf_in_01 _ _ _), zv_in0, *]; done)
            | (rw [if_neg ht_0, if_neg ht_1, if_neg ht_2, if_neg ht_3, if_neg ht_4, if_pos ht_5]; simp [zf_both_0 (zf_in_01 _ _ _) (zf_in_01 _ _ _), zv_in0, *]; done)
            | (exfalso; omega)
            | (have e6 : k.toInt = 6 := by omega
               show _ = if zf_allows k p' q = 0 then (1 : Int32) else 0
               rw [zf_allows_6 e6]
               first
               | (rw [if_neg (fun g => (zv_in0.mp g).elim h146 (Int32.not_lt.mpr h152))]; done)
               | (rw [if_pos (zv_in0.mpr (Or.inr (Int32.not_le.mp h152)))]; done)
               | (rw [if_pos (zv_in0.mpr (Or.inl h146))]; done)), rfl⟩)
      · skip
        refine lv_iconst (v := 1) hx hb kd_Mo_isOff_58 (by decide) ?_
        refine lv_goto (tgt := 63) hx hb kd_Mo_isOff_59 (by decide) ?_
        exact zr_zret hS hK hlk hr (by (repeat' split) <;> rfl) hI kd_Mo_isOff_63 (⟨by
            unfold zf_allows
            first
            | (rw [if_pos ht_0]; rfl)
            | (rw [if_neg ht_0, if_pos ht_1]; done)
            | (rw [if_neg ht_0, if_neg ht_1, if_pos ht_2]; simp [zv_in0, *]; done)
            | (rw [if_neg ht_0, if_neg ht_1, if_neg ht_2, if_pos ht_3]; simp [zf_both_0 (zf_in_01 _ _ _) (zf_in_01 _ _ _), zv_in0, *]; done)
            | (rw [if_neg ht_0, if_neg ht_1, if_neg ht_2, if_neg ht_3, if_pos ht_4]; simp [zf_both_0 (zf_in_01 _ _ _) (zf_in_01 _ _ _), zv_in0, *]; done)
            | (rw [if_neg ht_0, if_neg ht_1, if_neg ht_2, if_neg ht_3, if_neg ht_4, if_pos ht_5]; simp [zf_both_0 (zf_in_01 _ _ _) (zf_in_01 _ _ _), zv_in0, *]; done)
            | (exfalso; omega)
            | (have e6 : k.toInt = 6 := by omega
               show _ = if zf_allows k p' q = 0 then (1 : Int32) else 0
               rw [zf_allows_6 e6]
               first
               | (rw [if_neg (fun g => (zv_in0.mp g).elim h146 (Int32.not_lt.mpr h152))]; done)
               | (rw [if_pos (zv_in0.mpr (Or.inr (Int32.not_le.mp h152)))]; done)
               | (rw [if_pos (zv_in0.mpr (Or.inl h146))]; done)), rfl⟩)
  by_cases ht_3 : (k).toInt = 3
  · refine lv_tableIn (tgt := 64) (off := 63) hx hb kd_Mo_isOff_1 ht_lo ht_hi (by rw [ht_3]; rfl) (by decide) ?_
    refine zr_iload_n hx hb kd_Mo_isOff_64 hl rfl ?_
    refine lv_iconst (v := 1) hx hb kd_Mo_isOff_65 (by decide) ?_
    refine lv_icmp_lt (tgt := 86) hx hb kd_Mo_isOff_66 (by decide) (fun h66 => ?_) (fun h66 => ?_)
    · skip
      refine lv_iconst (v := 1) hx hb kd_Mo_isOff_86 (by decide) ?_
      refine lv_goto (tgt := 91) hx hb kd_Mo_isOff_87 (by decide) ?_
      exact zr_zret hS hK hlk hr (by (repeat' split) <;> rfl) hI kd_Mo_isOff_91 (⟨by
          unfold zf_allows
          first
          | (rw [if_pos ht_0]; rfl)
          | (rw [if_neg ht_0, if_pos ht_1]; done)
          | (rw [if_neg ht_0, if_neg ht_1, if_pos ht_2]; simp [zv_in0, *]; done)
          | (rw [if_neg ht_0, if_neg ht_1, if_neg ht_2, if_pos ht_3]; simp [zf_both_0 (zf_in_01 _ _ _) (zf_in_01 _ _ _), zv_in0, *]; done)
          | (rw [if_neg ht_0, if_neg ht_1, if_neg ht_2, if_neg ht_3, if_pos ht_4]; simp [zf_both_0 (zf_in_01 _ _ _) (zf_in_01 _ _ _), zv_in0, *]; done)
          | (rw [if_neg ht_0, if_neg ht_1, if_neg ht_2, if_neg ht_3, if_neg ht_4, if_pos ht_5]; simp [zf_both_0 (zf_in_01 _ _ _) (zf_in_01 _ _ _), zv_in0, *]; done)
          | (exfalso; omega)
          | (have e6 : k.toInt = 6 := by omega
             show _ = if zf_allows k p' q = 0 then (1 : Int32) else 0
             rw [zf_allows_6 e6]
             first
             | (rw [if_neg (fun g => (zv_in0.mp g).elim h146 (Int32.not_lt.mpr h152))]; done)
             | (rw [if_pos (zv_in0.mpr (Or.inr (Int32.not_le.mp h152)))]; done)
             | (rw [if_pos (zv_in0.mpr (Or.inl h146))]; done)), rfl⟩)
    · skip
      refine zr_iload_n hx hb kd_Mo_isOff_69 hl rfl ?_
      refine lv_bipush (v := 32) hx hb kd_Mo_isOff_70 (by decide) ?_
      refine lv_icmp_gt (tgt := 86) hx hb kd_Mo_isOff_72 (by decide) (fun h72 => ?_) (fun h72 => ?_)
      · skip
        refine lv_iconst (v := 1) hx hb kd_Mo_isOff_86 (by decide) ?_
        refine lv_goto (tgt := 91) hx hb kd_Mo_isOff_87 (by decide) ?_
        exact zr_zret hS hK hlk hr (by (repeat' split) <;> rfl) hI kd_Mo_isOff_91 (⟨by
            unfold zf_allows
            first
            | (rw [if_pos ht_0]; rfl)
            | (rw [if_neg ht_0, if_pos ht_1]; done)
            | (rw [if_neg ht_0, if_neg ht_1, if_pos ht_2]; simp [zv_in0, *]; done)
            | (rw [if_neg ht_0, if_neg ht_1, if_neg ht_2, if_pos ht_3]; simp [zf_both_0 (zf_in_01 _ _ _) (zf_in_01 _ _ _), zv_in0, *]; done)
            | (rw [if_neg ht_0, if_neg ht_1, if_neg ht_2, if_neg ht_3, if_pos ht_4]; simp [zf_both_0 (zf_in_01 _ _ _) (zf_in_01 _ _ _), zv_in0, *]; done)
            | (rw [if_neg ht_0, if_neg ht_1, if_neg ht_2, if_neg ht_3, if_neg ht_4, if_pos ht_5]; simp [zf_both_0 (zf_in_01 _ _ _) (zf_in_01 _ _ _), zv_in0, *]; done)
            | (exfalso; omega)
            | (have e6 : k.toInt = 6 := by omega
               show _ = if zf_allows k p' q = 0 then (1 : Int32) else 0
               rw [zf_allows_6 e6]
               first
               | (rw [if_neg (fun g => (zv_in0.mp g).elim h146 (Int32.not_lt.mpr h152))]; done)
               | (rw [if_pos (zv_in0.mpr (Or.inr (Int32.not_le.mp h152)))]; done)
               | (rw [if_pos (zv_in0.mpr (Or.inl h146))]; done)), rfl⟩)
      · skip
        refine zr_iload_n hx hb kd_Mo_isOff_75 hl rfl ?_
        refine lv_if_lt (tgt := 86) hx hb kd_Mo_isOff_76 (by decide) (fun h76 => ?_) (fun h76 => ?_)
        · skip
          refine lv_iconst (v := 1) hx hb kd_Mo_isOff_86 (by decide) ?_
          refine lv_goto (tgt := 91) hx hb kd_Mo_isOff_87 (by decide) ?_
          exact zr_zret hS hK hlk hr (by (repeat' split) <;> rfl) hI kd_Mo_isOff_91 (⟨by
              unfold zf_allows
              first
              | (rw [if_pos ht_0]; rfl)
              | (rw [if_neg ht_0, if_pos ht_1]; done)
              | (rw [if_neg ht_0, if_neg ht_1, if_pos ht_2]; simp [zv_in0, *]; done)
              | (rw [if_neg ht_0, if_neg ht_1, if_neg ht_2, if_pos ht_3]; simp [zf_both_0 (zf_in_01 _ _ _) (zf_in_01 _ _ _), zv_in0, *]; done)
              | (rw [if_neg ht_0, if_neg ht_1, if_neg ht_2, if_neg ht_3, if_pos ht_4]; simp [zf_both_0 (zf_in_01 _ _ _) (zf_in_01 _ _ _), zv_in0, *]; done)
              | (rw [if_neg ht_0, if_neg ht_1, if_neg ht_2, if_neg ht_3, if_neg ht_4, if_pos ht_5]; simp [zf_both_0 (zf_in_01 _ _ _) (zf_in_01 _ _ _), zv_in0, *]; done)
              | (exfalso; omega)
              | (have e6 : k.toInt = 6 := by omega
                 show _ = if zf_allows k p' q = 0 then (1 : Int32) else 0
                 rw [zf_allows_6 e6]
                 first
                 | (rw [if_neg (fun g => (zv_in0.mp g).elim h146 (Int32.not_lt.mpr h152))]; done)
                 | (rw [if_pos (zv_in0.mpr (Or.inr (Int32.not_le.mp h152)))]; done)
                 | (rw [if_pos (zv_in0.mpr (Or.inl h146))]; done)), rfl⟩)
        · skip
          refine zr_iload_n hx hb kd_Mo_isOff_79 hl rfl ?_
          refine lv_sipush (v := 255) hx hb kd_Mo_isOff_80 (by decide) ?_
          refine lv_icmp_le (tgt := 90) hx hb kd_Mo_isOff_83 (by decide) (fun h83 => ?_) (fun h83 => ?_)
          · skip
            refine lv_iconst (v := 0) hx hb kd_Mo_isOff_90 (by decide) ?_
            exact zr_zret hS hK hlk hr (by (repeat' split) <;> rfl) hI kd_Mo_isOff_91 (⟨by
                unfold zf_allows
                first
                | (rw [if_pos ht_0]; rfl)
                | (rw [if_neg ht_0, if_pos ht_1]; done)
                | (rw [if_neg ht_0, if_neg ht_1, if_pos ht_2]; simp [zv_in0, *]; done)
                | (rw [if_neg ht_0, if_neg ht_1, if_neg ht_2, if_pos ht_3]; simp [zf_both_0 (zf_in_01 _ _ _) (zf_in_01 _ _ _), zv_in0, *]; done)
                | (rw [if_neg ht_0, if_neg ht_1, if_neg ht_2, if_neg ht_3, if_pos ht_4]; simp [zf_both_0 (zf_in_01 _ _ _) (zf_in_01 _ _ _), zv_in0, *]; done)
                | (rw [if_neg ht_0, if_neg ht_1, if_neg ht_2, if_neg ht_3, if_neg ht_4, if_pos ht_5]; simp [zf_both_0 (zf_in_01 _ _ _) (zf_in_01 _ _ _), zv_in0, *]; done)
                | (exfalso; omega)
                | (have e6 : k.toInt = 6 := by omega
                   show _ = if zf_allows k p' q = 0 then (1 : Int32) else 0
                   rw [zf_allows_6 e6]
                   first
                   | (rw [if_neg (fun g => (zv_in0.mp g).elim h146 (Int32.not_lt.mpr h152))]; done)
                   | (rw [if_pos (zv_in0.mpr (Or.inr (Int32.not_le.mp h152)))]; done)
                   | (rw [if_pos (zv_in0.mpr (Or.inl h146))]; done)), rfl⟩)
          · skip
            refine lv_iconst (v := 1) hx hb kd_Mo_isOff_86 (by decide) ?_
            refine lv_goto (tgt := 91) hx hb kd_Mo_isOff_87 (by decide) ?_
            exact zr_zret hS hK hlk hr (by (repeat' split) <;> rfl) hI kd_Mo_isOff_91 (⟨by
                unfold zf_allows
                first
                | (rw [if_pos ht_0]; rfl)
                | (rw [if_neg ht_0, if_pos ht_1]; done)
                | (rw [if_neg ht_0, if_neg ht_1, if_pos ht_2]; simp [zv_in0, *]; done)
                | (rw [if_neg ht_0, if_neg ht_1, if_neg ht_2, if_pos ht_3]; simp [zf_both_0 (zf_in_01 _ _ _) (zf_in_01 _ _ _), zv_in0, *]; done)
                | (rw [if_neg ht_0, if_neg ht_1, if_neg ht_2, if_neg ht_3, if_pos ht_4]; simp [zf_both_0 (zf_in_01 _ _ _) (zf_in_01 _ _ _), zv_in0, *]; done)
                | (rw [if_neg ht_0, if_neg ht_1, if_neg ht_2, if_neg ht_3, if_neg ht_4, if_pos ht_5]; simp [zf_both_0 (zf_in_01 _ _ _) (zf_in_01 _ _ _), zv_in0, *]; done)
                | (exfalso; omega)
                | (have e6 : k.toInt = 6 := by omega
                   show _ = if zf_allows k p' q = 0 then (1 : Int32) else 0
                   rw [zf_allows_6 e6]
                   first
                   | (rw [if_neg (fun g => (zv_in0.mp g).elim h146 (Int32.not_lt.mpr h152))]; done)
                   | (rw [if_pos (zv_in0.mpr (Or.inr (Int32.not_le.mp h152)))]; done)
                   | (rw [if_pos (zv_in0.mpr (Or.inl h146))]; done)), rfl⟩)
  by_cases ht_4 : (k).toInt = 4
  · refine lv_tableIn (tgt := 92) (off := 91) hx hb kd_Mo_isOff_1 ht_lo ht_hi (by rw [ht_4]; rfl) (by decide) ?_
    refine zr_iload_n hx hb kd_Mo_isOff_92 hl rfl ?_
    refine lv_iconst (v := 1) hx hb kd_Mo_isOff_93 (by decide) ?_
    refine lv_icmp_lt (tgt := 113) hx hb kd_Mo_isOff_94 (by decide) (fun h94 => ?_) (fun h94 => ?_)
    · skip
      refine lv_iconst (v := 1) hx hb kd_Mo_isOff_113 (by decide) ?_
      refine lv_goto (tgt := 118) hx hb kd_Mo_isOff_114 (by decide) ?_
      exact zr_zret hS hK hlk hr (by (repeat' split) <;> rfl) hI kd_Mo_isOff_118 (⟨by
          unfold zf_allows
          first
          | (rw [if_pos ht_0]; rfl)
          | (rw [if_neg ht_0, if_pos ht_1]; done)
          | (rw [if_neg ht_0, if_neg ht_1, if_pos ht_2]; simp [zv_in0, *]; done)
          | (rw [if_neg ht_0, if_neg ht_1, if_neg ht_2, if_pos ht_3]; simp [zf_both_0 (zf_in_01 _ _ _) (zf_in_01 _ _ _), zv_in0, *]; done)
          | (rw [if_neg ht_0, if_neg ht_1, if_neg ht_2, if_neg ht_3, if_pos ht_4]; simp [zf_both_0 (zf_in_01 _ _ _) (zf_in_01 _ _ _), zv_in0, *]; done)
          | (rw [if_neg ht_0, if_neg ht_1, if_neg ht_2, if_neg ht_3, if_neg ht_4, if_pos ht_5]; simp [zf_both_0 (zf_in_01 _ _ _) (zf_in_01 _ _ _), zv_in0, *]; done)
          | (exfalso; omega)
          | (have e6 : k.toInt = 6 := by omega
             show _ = if zf_allows k p' q = 0 then (1 : Int32) else 0
             rw [zf_allows_6 e6]
             first
             | (rw [if_neg (fun g => (zv_in0.mp g).elim h146 (Int32.not_lt.mpr h152))]; done)
             | (rw [if_pos (zv_in0.mpr (Or.inr (Int32.not_le.mp h152)))]; done)
             | (rw [if_pos (zv_in0.mpr (Or.inl h146))]; done)), rfl⟩)
    · skip
      refine zr_iload_n hx hb kd_Mo_isOff_97 hl rfl ?_
      refine lv_ldc (v := 100000) hx hb hS.2.2.2.1 (hS.2.2.2.2 _ (zw_mem (i := 1217) (w := .constant "StripMixerModel" 140 100000) (by decide +kernel) rfl)) kd_Mo_isOff_98 ?_
      refine lv_icmp_gt (tgt := 113) hx hb kd_Mo_isOff_100 (by decide) (fun h100 => ?_) (fun h100 => ?_)
      · skip
        refine lv_iconst (v := 1) hx hb kd_Mo_isOff_113 (by decide) ?_
        refine lv_goto (tgt := 118) hx hb kd_Mo_isOff_114 (by decide) ?_
        exact zr_zret hS hK hlk hr (by (repeat' split) <;> rfl) hI kd_Mo_isOff_118 (⟨by
            unfold zf_allows
            first
            | (rw [if_pos ht_0]; rfl)
            | (rw [if_neg ht_0, if_pos ht_1]; done)
            | (rw [if_neg ht_0, if_neg ht_1, if_pos ht_2]; simp [zv_in0, *]; done)
            | (rw [if_neg ht_0, if_neg ht_1, if_neg ht_2, if_pos ht_3]; simp [zf_both_0 (zf_in_01 _ _ _) (zf_in_01 _ _ _), zv_in0, *]; done)
            | (rw [if_neg ht_0, if_neg ht_1, if_neg ht_2, if_neg ht_3, if_pos ht_4]; simp [zf_both_0 (zf_in_01 _ _ _) (zf_in_01 _ _ _), zv_in0, *]; done)
            | (rw [if_neg ht_0, if_neg ht_1, if_neg ht_2, if_neg ht_3, if_neg ht_4, if_pos ht_5]; simp [zf_both_0 (zf_in_01 _ _ _) (zf_in_01 _ _ _), zv_in0, *]; done)
            | (exfalso; omega)
            | (have e6 : k.toInt = 6 := by omega
               show _ = if zf_allows k p' q = 0 then (1 : Int32) else 0
               rw [zf_allows_6 e6]
               first
               | (rw [if_neg (fun g => (zv_in0.mp g).elim h146 (Int32.not_lt.mpr h152))]; done)
               | (rw [if_pos (zv_in0.mpr (Or.inr (Int32.not_le.mp h152)))]; done)
               | (rw [if_pos (zv_in0.mpr (Or.inl h146))]; done)), rfl⟩)
      · skip
        refine zr_iload_n hx hb kd_Mo_isOff_103 hl rfl ?_
        refine lv_if_lt (tgt := 113) hx hb kd_Mo_isOff_104 (by decide) (fun h104 => ?_) (fun h104 => ?_)
        · skip
          refine lv_iconst (v := 1) hx hb kd_Mo_isOff_113 (by decide) ?_
          refine lv_goto (tgt := 118) hx hb kd_Mo_isOff_114 (by decide) ?_
          exact zr_zret hS hK hlk hr (by (repeat' split) <;> rfl) hI kd_Mo_isOff_118 (⟨by
              unfold zf_allows
              first
              | (rw [if_pos ht_0]; rfl)
              | (rw [if_neg ht_0, if_pos ht_1]; done)
              | (rw [if_neg ht_0, if_neg ht_1, if_pos ht_2]; simp [zv_in0, *]; done)
              | (rw [if_neg ht_0, if_neg ht_1, if_neg ht_2, if_pos ht_3]; simp [zf_both_0 (zf_in_01 _ _ _) (zf_in_01 _ _ _), zv_in0, *]; done)
              | (rw [if_neg ht_0, if_neg ht_1, if_neg ht_2, if_neg ht_3, if_pos ht_4]; simp [zf_both_0 (zf_in_01 _ _ _) (zf_in_01 _ _ _), zv_in0, *]; done)
              | (rw [if_neg ht_0, if_neg ht_1, if_neg ht_2, if_neg ht_3, if_neg ht_4, if_pos ht_5]; simp [zf_both_0 (zf_in_01 _ _ _) (zf_in_01 _ _ _), zv_in0, *]; done)
              | (exfalso; omega)
              | (have e6 : k.toInt = 6 := by omega
                 show _ = if zf_allows k p' q = 0 then (1 : Int32) else 0
                 rw [zf_allows_6 e6]
                 first
                 | (rw [if_neg (fun g => (zv_in0.mp g).elim h146 (Int32.not_lt.mpr h152))]; done)
                 | (rw [if_pos (zv_in0.mpr (Or.inr (Int32.not_le.mp h152)))]; done)
                 | (rw [if_pos (zv_in0.mpr (Or.inl h146))]; done)), rfl⟩)
        · skip
          refine zr_iload_n hx hb kd_Mo_isOff_107 hl rfl ?_
          refine lv_bipush (v := 16) hx hb kd_Mo_isOff_108 (by decide) ?_
          refine lv_icmp_le (tgt := 117) hx hb kd_Mo_isOff_110 (by decide) (fun h110 => ?_) (fun h110 => ?_)
          · skip
            refine lv_iconst (v := 0) hx hb kd_Mo_isOff_117 (by decide) ?_
            exact zr_zret hS hK hlk hr (by (repeat' split) <;> rfl) hI kd_Mo_isOff_118 (⟨by
                unfold zf_allows
                first
                | (rw [if_pos ht_0]; rfl)
                | (rw [if_neg ht_0, if_pos ht_1]; done)
                | (rw [if_neg ht_0, if_neg ht_1, if_pos ht_2]; simp [zv_in0, *]; done)
                | (rw [if_neg ht_0, if_neg ht_1, if_neg ht_2, if_pos ht_3]; simp [zf_both_0 (zf_in_01 _ _ _) (zf_in_01 _ _ _), zv_in0, *]; done)
                | (rw [if_neg ht_0, if_neg ht_1, if_neg ht_2, if_neg ht_3, if_pos ht_4]; simp [zf_both_0 (zf_in_01 _ _ _) (zf_in_01 _ _ _), zv_in0, *]; done)
                | (rw [if_neg ht_0, if_neg ht_1, if_neg ht_2, if_neg ht_3, if_neg ht_4, if_pos ht_5]; simp [zf_both_0 (zf_in_01 _ _ _) (zf_in_01 _ _ _), zv_in0, *]; done)
                | (exfalso; omega)
                | (have e6 : k.toInt = 6 := by omega
                   show _ = if zf_allows k p' q = 0 then (1 : Int32) else 0
                   rw [zf_allows_6 e6]
                   first
                   | (rw [if_neg (fun g => (zv_in0.mp g).elim h146 (Int32.not_lt.mpr h152))]; done)
                   | (rw [if_pos (zv_in0.mpr (Or.inr (Int32.not_le.mp h152)))]; done)
                   | (rw [if_pos (zv_in0.mpr (Or.inl h146))]; done)), rfl⟩)
          · skip
            refine lv_iconst (v := 1) hx hb kd_Mo_isOff_113 (by decide) ?_
            refine lv_goto (tgt := 118) hx hb kd_Mo_isOff_114 (by decide) ?_
            exact zr_zret hS hK hlk hr (by (repeat' split) <;> rfl) hI kd_Mo_isOff_118 (⟨by
                unfold zf_allows
                first
                | (rw [if_pos ht_0]; rfl)
                | (rw [if_neg ht_0, if_pos ht_1]; done)
                | (rw [if_neg ht_0, if_neg ht_1, if_pos ht_2]; simp [zv_in0, *]; done)
                | (rw [if_neg ht_0, if_neg ht_1, if_neg ht_2, if_pos ht_3]; simp [zf_both_0 (zf_in_01 _ _ _) (zf_in_01 _ _ _), zv_in0, *]; done)
                | (rw [if_neg ht_0, if_neg ht_1, if_neg ht_2, if_neg ht_3, if_pos ht_4]; simp [zf_both_0 (zf_in_01 _ _ _) (zf_in_01 _ _ _), zv_in0, *]; done)
                | (rw [if_neg ht_0, if_neg ht_1, if_neg ht_2, if_neg ht_3, if_neg ht_4, if_pos ht_5]; simp [zf_both_0 (zf_in_01 _ _ _) (zf_in_01 _ _ _), zv_in0, *]; done)
                | (exfalso; omega)
                | (have e6 : k.toInt = 6 := by omega
                   show _ = if zf_allows k p' q = 0 then (1 : Int32) else 0
                   rw [zf_allows_6 e6]
                   first
                   | (rw [if_neg (fun g => (zv_in0.mp g).elim h146 (Int32.not_lt.mpr h152))]; done)
                   | (rw [if_pos (zv_in0.mpr (Or.inr (Int32.not_le.mp h152)))]; done)
                   | (rw [if_pos (zv_in0.mpr (Or.inl h146))]; done)), rfl⟩)
  have ht_5 : (k).toInt = 5 := by omega
  · refine lv_tableIn (tgt := 119) (off := 118) hx hb kd_Mo_isOff_1 ht_lo ht_hi (by rw [ht_5]; rfl) (by decide) ?_
    refine zr_iload_n hx hb kd_Mo_isOff_119 hl rfl ?_
    refine lv_if_lt (tgt := 139) hx hb kd_Mo_isOff_120 (by decide) (fun h120 => ?_) (fun h120 => ?_)
    · skip
      refine lv_iconst (v := 1) hx hb kd_Mo_isOff_139 (by decide) ?_
      refine lv_goto (tgt := 144) hx hb kd_Mo_isOff_140 (by decide) ?_
      exact zr_zret hS hK hlk hr (by (repeat' split) <;> rfl) hI kd_Mo_isOff_144 (⟨by
          unfold zf_allows
          first
          | (rw [if_pos ht_0]; rfl)
          | (rw [if_neg ht_0, if_pos ht_1]; done)
          | (rw [if_neg ht_0, if_neg ht_1, if_pos ht_2]; simp [zv_in0, *]; done)
          | (rw [if_neg ht_0, if_neg ht_1, if_neg ht_2, if_pos ht_3]; simp [zf_both_0 (zf_in_01 _ _ _) (zf_in_01 _ _ _), zv_in0, *]; done)
          | (rw [if_neg ht_0, if_neg ht_1, if_neg ht_2, if_neg ht_3, if_pos ht_4]; simp [zf_both_0 (zf_in_01 _ _ _) (zf_in_01 _ _ _), zv_in0, *]; done)
          | (rw [if_neg ht_0, if_neg ht_1, if_neg ht_2, if_neg ht_3, if_neg ht_4, if_pos ht_5]; simp [zf_both_0 (zf_in_01 _ _ _) (zf_in_01 _ _ _), zv_in0, *]; done)
          | (exfalso; omega)
          | (have e6 : k.toInt = 6 := by omega
             show _ = if zf_allows k p' q = 0 then (1 : Int32) else 0
             rw [zf_allows_6 e6]
             first
             | (rw [if_neg (fun g => (zv_in0.mp g).elim h146 (Int32.not_lt.mpr h152))]; done)
             | (rw [if_pos (zv_in0.mpr (Or.inr (Int32.not_le.mp h152)))]; done)
             | (rw [if_pos (zv_in0.mpr (Or.inl h146))]; done)), rfl⟩)
    · skip
      refine zr_iload_n hx hb kd_Mo_isOff_123 hl rfl ?_
      refine lv_ldc (v := 100000) hx hb hS.2.2.2.1 (hS.2.2.2.2 _ (zw_mem (i := 1217) (w := .constant "StripMixerModel" 140 100000) (by decide +kernel) rfl)) kd_Mo_isOff_124 ?_
      refine lv_icmp_gt (tgt := 139) hx hb kd_Mo_isOff_126 (by decide) (fun h126 => ?_) (fun h126 => ?_)
      · skip
        refine lv_iconst (v := 1) hx hb kd_Mo_isOff_139 (by decide) ?_
        refine lv_goto (tgt := 144) hx hb kd_Mo_isOff_140 (by decide) ?_
        exact zr_zret hS hK hlk hr (by (repeat' split) <;> rfl) hI kd_Mo_isOff_144 (⟨by
            unfold zf_allows
            first
            | (rw [if_pos ht_0]; rfl)
            | (rw [if_neg ht_0, if_pos ht_1]; done)
            | (rw [if_neg ht_0, if_neg ht_1, if_pos ht_2]; simp [zv_in0, *]; done)
            | (rw [if_neg ht_0, if_neg ht_1, if_neg ht_2, if_pos ht_3]; simp [zf_both_0 (zf_in_01 _ _ _) (zf_in_01 _ _ _), zv_in0, *]; done)
            | (rw [if_neg ht_0, if_neg ht_1, if_neg ht_2, if_neg ht_3, if_pos ht_4]; simp [zf_both_0 (zf_in_01 _ _ _) (zf_in_01 _ _ _), zv_in0, *]; done)
            | (rw [if_neg ht_0, if_neg ht_1, if_neg ht_2, if_neg ht_3, if_neg ht_4, if_pos ht_5]; simp [zf_both_0 (zf_in_01 _ _ _) (zf_in_01 _ _ _), zv_in0, *]; done)
            | (exfalso; omega)
            | (have e6 : k.toInt = 6 := by omega
               show _ = if zf_allows k p' q = 0 then (1 : Int32) else 0
               rw [zf_allows_6 e6]
               first
               | (rw [if_neg (fun g => (zv_in0.mp g).elim h146 (Int32.not_lt.mpr h152))]; done)
               | (rw [if_pos (zv_in0.mpr (Or.inr (Int32.not_le.mp h152)))]; done)
               | (rw [if_pos (zv_in0.mpr (Or.inl h146))]; done)), rfl⟩)
      · skip
        refine zr_iload_n hx hb kd_Mo_isOff_129 hl rfl ?_
        refine lv_if_lt (tgt := 139) hx hb kd_Mo_isOff_130 (by decide) (fun h130 => ?_) (fun h130 => ?_)
        · skip
          refine lv_iconst (v := 1) hx hb kd_Mo_isOff_139 (by decide) ?_
          refine lv_goto (tgt := 144) hx hb kd_Mo_isOff_140 (by decide) ?_
          exact zr_zret hS hK hlk hr (by (repeat' split) <;> rfl) hI kd_Mo_isOff_144 (⟨by
              unfold zf_allows
              first
              | (rw [if_pos ht_0]; rfl)
              | (rw [if_neg ht_0, if_pos ht_1]; done)
              | (rw [if_neg ht_0, if_neg ht_1, if_pos ht_2]; simp [zv_in0, *]; done)
              | (rw [if_neg ht_0, if_neg ht_1, if_neg ht_2, if_pos ht_3]; simp [zf_both_0 (zf_in_01 _ _ _) (zf_in_01 _ _ _), zv_in0, *]; done)
              | (rw [if_neg ht_0, if_neg ht_1, if_neg ht_2, if_neg ht_3, if_pos ht_4]; simp [zf_both_0 (zf_in_01 _ _ _) (zf_in_01 _ _ _), zv_in0, *]; done)
              | (rw [if_neg ht_0, if_neg ht_1, if_neg ht_2, if_neg ht_3, if_neg ht_4, if_pos ht_5]; simp [zf_both_0 (zf_in_01 _ _ _) (zf_in_01 _ _ _), zv_in0, *]; done)
              | (exfalso; omega)
              | (have e6 : k.toInt = 6 := by omega
                 show _ = if zf_allows k p' q = 0 then (1 : Int32) else 0
                 rw [zf_allows_6 e6]
                 first
                 | (rw [if_neg (fun g => (zv_in0.mp g).elim h146 (Int32.not_lt.mpr h152))]; done)
                 | (rw [if_pos (zv_in0.mpr (Or.inr (Int32.not_le.mp h152)))]; done)
                 | (rw [if_pos (zv_in0.mpr (Or.inl h146))]; done)), rfl⟩)
        · skip
          refine zr_iload_n hx hb kd_Mo_isOff_133 hl rfl ?_
          refine lv_bipush (v := 64) hx hb kd_Mo_isOff_134 (by decide) ?_
          refine lv_icmp_le (tgt := 143) hx hb kd_Mo_isOff_136 (by decide) (fun h136 => ?_) (fun h136 => ?_)
          · skip
            refine lv_iconst (v := 0) hx hb kd_Mo_isOff_143 (by decide) ?_
            exact zr_zret hS hK hlk hr (by (repeat' split) <;> rfl) hI kd_Mo_isOff_144 (⟨by
                unfold zf_allows
                first
                | (rw [if_pos ht_0]; rfl)
                | (rw [if_neg ht_0, if_pos ht_1]; done)
                | (rw [if_neg ht_0, if_neg ht_1, if_pos ht_2]; simp [zv_in0, *]; done)
                | (rw [if_neg ht_0, if_neg ht_1, if_neg ht_2, if_pos ht_3]; simp [zf_both_0 (zf_in_01 _ _ _) (zf_in_01 _ _ _), zv_in0, *]; done)
                | (rw [if_neg ht_0, if_neg ht_1, if_neg ht_2, if_neg ht_3, if_pos ht_4]; simp [zf_both_0 (zf_in_01 _ _ _) (zf_in_01 _ _ _), zv_in0, *]; done)
                | (rw [if_neg ht_0, if_neg ht_1, if_neg ht_2, if_neg ht_3, if_neg ht_4, if_pos ht_5]; simp [zf_both_0 (zf_in_01 _ _ _) (zf_in_01 _ _ _), zv_in0, *]; done)
                | (exfalso; omega)
                | (have e6 : k.toInt = 6 := by omega
                   show _ = if zf_allows k p' q = 0 then (1 : Int32) else 0
                   rw [zf_allows_6 e6]
                   first
                   | (rw [if_neg (fun g => (zv_in0.mp g).elim h146 (Int32.not_lt.mpr h152))]; done)
                   | (rw [if_pos (zv_in0.mpr (Or.inr (Int32.not_le.mp h152)))]; done)
                   | (rw [if_pos (zv_in0.mpr (Or.inl h146))]; done)), rfl⟩)
          · skip
            refine lv_iconst (v := 1) hx hb kd_Mo_isOff_139 (by decide) ?_
            refine lv_goto (tgt := 144) hx hb kd_Mo_isOff_140 (by decide) ?_
            exact zr_zret hS hK hlk hr (by (repeat' split) <;> rfl) hI kd_Mo_isOff_144 (⟨by
                unfold zf_allows
                first
                | (rw [if_pos ht_0]; rfl)
                | (rw [if_neg ht_0, if_pos ht_1]; done)
                | (rw [if_neg ht_0, if_neg ht_1, if_pos ht_2]; simp [zv_in0, *]; done)
                | (rw [if_neg ht_0, if_neg ht_1, if_neg ht_2, if_pos ht_3]; simp [zf_both_0 (zf_in_01 _ _ _) (zf_in_01 _ _ _), zv_in0, *]; done)
                | (rw [if_neg ht_0, if_neg ht_1, if_neg ht_2, if_neg ht_3, if_pos ht_4]; simp [zf_both_0 (zf_in_01 _ _ _) (zf_in_01 _ _ _), zv_in0, *]; done)
                | (rw [if_neg ht_0, if_neg ht_1, if_neg ht_2, if_neg ht_3, if_neg ht_4, if_pos ht_5]; simp [zf_both_0 (zf_in_01 _ _ _) (zf_in_01 _ _ _), zv_in0, *]; done)
                | (exfalso; omega)
                | (have e6 : k.toInt = 6 := by omega
                   show _ = if zf_allows k p' q = 0 then (1 : Int32) else 0
                   rw [zf_allows_6 e6]
                   first
                   | (rw [if_neg (fun g => (zv_in0.mp g).elim h146 (Int32.not_lt.mpr h152))]; done)
                   | (rw [if_pos (zv_in0.mpr (Or.inr (Int32.not_le.mp h152)))]; done)
                   | (rw [if_pos (zv_in0.mpr (Or.inl h146))]; done)), rfl⟩)
def zv_eff (s sl k p q : Int32) : Int32 := if zf_in s 0 7 = 0 then 1 else if zf_in sl 0 2 = 0 then 1 else if zf_allows k p q = 0 then 1 else 0
theorem zf_allows_r {k p q : Int32} (h : ¬ zf_allows k p q = 0) : 0 ≤ k.toInt ∧ k.toInt ≤ 6 := by
  refine Decidable.byContradiction (fun g => h ?_)
  unfold zf_allows
  rw [if_neg (by omega), if_neg (by omega), if_neg (by omega), if_neg (by omega), if_neg (by omega), if_neg (by omega), if_neg (by omega)]
set_option maxRecDepth 100000 in
set_option maxHeartbeats 4000000 in
theorem c_Mo_effect (l : Launch) (G : zg_T) (M : zm_T) (hL : zL M.2) (s sl k p' q : Int32) : Met l ky_Mo_effect (zr_ws ky_Mo_effect kc_Mo_effect 6 none) (zr_rm 2) (va_Pc [.ref (G.2.2.1 + 151), .int s, .int sl, .int k, .int p', .int q] (zm_B G 183 zs M)) (va_Qv (fun (M' : zm_T) => M' = if zv_eff s sl k p' q = 0 then zm_ui (zm_ui (zm_ui (zm_ui M 151 0 0) 165 (3 * s.toNatClampNeg + sl.toNatClampNeg) k) 166 (3 * s.toNatClampNeg + sl.toNatClampNeg) p') 167 (3 * s.toNatClampNeg + sl.toNatClampNeg) q else zm_ui M 151 0 1) (zm_B G 183 zs) (zm_A G)) 0 0 (zm_A G) := by
  refine zr_met (by decide +kernel) (Nat.le_of_ble_eq_true rfl) ?_
  intro p0 e0 s0 m0 below meth c0 ls hS hK hlk hr hl hI
  have hx := hS.1
  have hb := hS.2.1
  have hl : zl_has ls 6 [some (.ref (G.2.2.1 + 151)), some (.int s), some (.int sl), some (.int k), some (.int p'), some (.int q)] := hl
  have rest : ∀ (v : Int32) (H : Heap) (locs : List Loc) (ls : Array Slot), v = zv_eff s sl k p' q → zl_has ls 6 [some (.ref (G.2.2.1 + 151)), some (.int s), some (.int sl), some (.int k), some (.int p'), some (.int q)] → zm_I G 183 zs M s0 H locs → W p0 l e0 (zr_rm 2) s0 m0 ([.ref (G.2.2.1 + 151), .int s, .int sl, .int k, .int p', .int q] : List Value).toArray below meth c0 H locs 0 0 (MQ below (va_Qv (fun (M' : zm_T) => M' = if zv_eff s sl k p' q = 0 then zm_ui (zm_ui (zm_ui (zm_ui M 151 0 0) 165 (3 * s.toNatClampNeg + sl.toNatClampNeg) k) 166 (3 * s.toNatClampNeg + sl.toNatClampNeg) p') 167 (3 * s.toNatClampNeg + sl.toNatClampNeg) q else zm_ui M 151 0 1) (zm_B G 183 zs) (zm_A G)) ([.ref (G.2.2.1 + 151), .int s, .int sl, .int k, .int p', .int q] : List Value).toArray s0 0 0 (zm_A G)) (F0 m0 43 ls [.int v, .ref (G.2.2.1 + 151)]) := by
    intro v H locs ls hv hl hI
    rw [← hv]
    have v01 : v = 0 ∨ v = 1 := by rw [hv]; unfold zv_eff; (repeat' split) <;> simp
    rcases v01 with rfl | rfl
    · have hin : (∃ a, a < 8 ∧ s = nI a) ∧ ∃ b, b < 3 ∧ sl = nI b := by
        unfold zv_eff at hv
        by_cases g1 : zf_in s 0 7 = 0
        · rw [if_pos g1] at hv; exact absurd hv (by decide)
        rw [if_neg g1] at hv
        by_cases g2 : zf_in sl 0 2 = 0
        · rw [if_pos g2] at hv; exact absurd hv (by decide)
        obtain ⟨a, ha, ea⟩ := zf_in_n (n := 7) (by decide) g1
        obtain ⟨b, hb', eb⟩ := zf_in_n (n := 2) (by decide) g2
        exact ⟨⟨a, by omega, ea⟩, b, by omega, eb⟩
      obtain ⟨⟨a, ha, rfl⟩, b, hb', rfl⟩ := hin
      have e1 : (3 : Int32) * nI a + nI b = nI (3 * a + b) := by rw [show (3 : Int32) = nI 3 from rfl, zn_mulI, nI_add]
      have c1 : (nI (3 * a + b)).toNatClampNeg = 3 * a + b := zn_cl (by omega)
      rw [if_pos rfl, zn_cl (by omega), zn_cl (by omega)]
      refine zr_puti hS hK kf_Mo_101 hI ha_MO hs_MO rfl rfl kd_Mo_effect_43 (fun H locs hI => ?_)
      refine zr_aload_n hx hb kd_Mo_effect_46 hl rfl ?_
      refine zr_geti hS hK kf_Mo_101 hI ha_MO hs_MO kd_Mo_effect_47 ?_
      refine lv_if_ne (tgt := 88) hx hb kd_Mo_effect_50 (by decide) (fun h50 => absurd (zm_ui_at) h50) (fun h50 => ?_)
      refine zr_aload_n hx hb kd_Mo_effect_53 hl rfl ?_
      refine zr_getr hS hK kf_Mo_50 hI ha_MO hs_MO (show _ = some 165 from zL_mo hL (k := 14) (by decide) (by decide)) kd_Mo_effect_54 ?_
      refine lv_iconst (v := 3) hx hb kd_Mo_effect_57 (by decide) ?_
      refine zr_iload_n hx hb kd_Mo_effect_58 hl rfl ?_
      refine lv_imul hx hb kd_Mo_effect_59 ?_
      refine zr_iload_n hx hb kd_Mo_effect_60 hl rfl ?_
      refine lv_iadd hx hb kd_Mo_effect_61 ?_
      refine zr_iload_n hx hb kd_Mo_effect_62 hl rfl ?_
      rw [e1]
      refine zr_iast hS hK hI ha_MO_14 hs_MO_14 (vp_in_nI (by omega) (by decide)) kd_Mo_effect_63 (fun H locs hI => ?_)
      refine zr_aload_n hx hb kd_Mo_effect_64 hl rfl ?_
      refine zr_getr hS hK kf_Mo_53 hI ha_MO hs_MO (show _ = some 166 from zL_mo hL (k := 15) (by decide) (by decide)) kd_Mo_effect_65 ?_
      refine lv_iconst (v := 3) hx hb kd_Mo_effect_68 (by decide) ?_
      refine zr_iload_n hx hb kd_Mo_effect_69 hl rfl ?_
      refine lv_imul hx hb kd_Mo_effect_70 ?_
      refine zr_iload_n hx hb kd_Mo_effect_71 hl rfl ?_
      refine lv_iadd hx hb kd_Mo_effect_72 ?_
      refine zr_iload hx hb kd_Mo_effect_73 hl rfl ?_
      rw [e1]
      refine zr_iast hS hK hI ha_MO_15 hs_MO_15 (vp_in_nI (by omega) (by decide)) kd_Mo_effect_75 (fun H locs hI => ?_)
      refine zr_aload_n hx hb kd_Mo_effect_76 hl rfl ?_
      refine zr_getr hS hK kf_Mo_56 hI ha_MO hs_MO (show _ = some 167 from zL_mo hL (k := 16) (by decide) (by decide)) kd_Mo_effect_77 ?_
      refine lv_iconst (v := 3) hx hb kd_Mo_effect_80 (by decide) ?_
      refine zr_iload_n hx hb kd_Mo_effect_81 hl rfl ?_
      refine lv_imul hx hb kd_Mo_effect_82 ?_
      refine zr_iload_n hx hb kd_Mo_effect_83 hl rfl ?_
      refine lv_iadd hx hb kd_Mo_effect_84 ?_
      refine zr_iload hx hb kd_Mo_effect_85 hl rfl ?_
      rw [e1]
      refine zr_iast hS hK hI ha_MO_16 hs_MO_16 (vp_in_nI (by omega) (by decide)) kd_Mo_effect_87 (fun H locs hI => ?_)
      exact zr_vret hS hK hlk hr hI kd_Mo_effect_88 (by rw [c1])
    · rw [if_neg (by decide)]
      refine zr_puti hS hK kf_Mo_101 hI ha_MO hs_MO rfl rfl kd_Mo_effect_43 (fun H locs hI => ?_)
      refine zr_aload_n hx hb kd_Mo_effect_46 hl rfl ?_
      refine zr_geti hS hK kf_Mo_101 hI ha_MO hs_MO kd_Mo_effect_47 ?_
      refine lv_if_ne (tgt := 88) hx hb kd_Mo_effect_50 (by decide) (fun h50 => ?_) (fun h50 => absurd h50 (by rw [zm_ui_at]; decide))
      exact zr_vret hS hK hlk hr hI kd_Mo_effect_88 (rfl)
  have k6 : ∀ {x : Int32}, ¬ x < 0 → ¬ 6 < x → 0 ≤ x.toInt ∧ x.toInt ≤ 6 := fun g1 g2 => by
    rw [Int32.lt_iff_toInt_lt, zn_0] at g1
    rw [Int32.lt_iff_toInt_lt, show (6 : Int32).toInt = 6 from by decide] at g2
    omega
  have k6' : ∀ {x : Int32}, (x < 0 ∨ 6 < x) → ¬ (0 ≤ x.toInt ∧ x.toInt ≤ 6) := fun g1 => by
    rw [Int32.lt_iff_toInt_lt, zn_0, Int32.lt_iff_toInt_lt, show (6 : Int32).toInt = 6 from by decide] at g1
    omega
  have al : (0 ≤ k.toInt ∧ k.toInt ≤ 6 → False) → zf_allows k p' q = 0 := fun g => Decidable.byContradiction (fun h => g (zf_allows_r h))
  refine zr_aload_n hx hb kd_Mo_effect_0 hl rfl ?_
  refine zr_iload_n hx hb kd_Mo_effect_1 hl rfl ?_
  refine zr_ci (zr_runS hS hK (c_Mo_noStrip l G 183 zs M _) km_Mo_141 hI rfl hl.1 (Nat.le_of_ble_eq_true rfl) (by decide) (by decide) kd_Mo_effect_2 rfl) hI (fun r2 M2 H locs hp2 hI => ?_)
  obtain ⟨rfl, hM2⟩ := hp2
  rw [hM2] at hI
  refine lv_if_ne (tgt := 38) hx hb kd_Mo_effect_5 (by decide) (fun h5 => ?_) (fun h5 => ?_)
  · skip
    refine lv_iconst (v := 1) hx hb kd_Mo_effect_38 (by decide) ?_
    refine lv_goto (tgt := 43) hx hb kd_Mo_effect_39 (by decide) ?_
    refine rest _ _ _ _ ?_ hl hI
    unfold zv_eff
    first
    | (rw [if_neg (zv_01 h5), if_neg (fun g => (zv_in0.mp g).elim h9 h14), if_neg (fun g => by rw [if_pos g] at h35; exact absurd h35 (by decide))]; done)
    | (rw [if_neg (zv_01 h5), if_neg (fun g => (zv_in0.mp g).elim h9 h14), if_pos (Decidable.byContradiction (fun g => h35 (if_neg g)))]; done)
    | (rw [if_neg (zv_01 h5), if_neg (fun g => (zv_in0.mp g).elim h9 h14), if_pos (al (k6' (Or.inr h24)))]; done)
    | (rw [if_neg (zv_01 h5), if_neg (fun g => (zv_in0.mp g).elim h9 h14), if_pos (al (k6' (Or.inl h18)))]; done)
    | (rw [if_neg (zv_01 h5), if_pos (zv_in0.mpr (Or.inr h14))]; done)
    | (rw [if_neg (zv_01 h5), if_pos (zv_in0.mpr (Or.inl h9))]; done)
    | (rw [if_pos (zv_10 h5)]; done)
  · skip
    refine zr_iload_n hx hb kd_Mo_effect_8 hl rfl ?_
    refine lv_if_lt (tgt := 38) hx hb kd_Mo_effect_9 (by decide) (fun h9 => ?_) (fun h9 => ?_)
    · skip
      refine lv_iconst (v := 1) hx hb kd_Mo_effect_38 (by decide) ?_
      refine lv_goto (tgt := 43) hx hb kd_Mo_effect_39 (by decide) ?_
      refine rest _ _ _ _ ?_ hl hI
      unfold zv_eff
      first
      | (rw [if_neg (zv_01 h5), if_neg (fun g => (zv_in0.mp g).elim h9 h14), if_neg (fun g => by rw [if_pos g] at h35; exact absurd h35 (by decide))]; done)
      | (rw [if_neg (zv_01 h5), if_neg (fun g => (zv_in0.mp g).elim h9 h14), if_pos (Decidable.byContradiction (fun g => h35 (if_neg g)))]; done)
      | (rw [if_neg (zv_01 h5), if_neg (fun g => (zv_in0.mp g).elim h9 h14), if_pos (al (k6' (Or.inr h24)))]; done)
      | (rw [if_neg (zv_01 h5), if_neg (fun g => (zv_in0.mp g).elim h9 h14), if_pos (al (k6' (Or.inl h18)))]; done)
      | (rw [if_neg (zv_01 h5), if_pos (zv_in0.mpr (Or.inr h14))]; done)
      | (rw [if_neg (zv_01 h5), if_pos (zv_in0.mpr (Or.inl h9))]; done)
      | (rw [if_pos (zv_10 h5)]; done)
    · skip
      refine zr_iload_n hx hb kd_Mo_effect_12 hl rfl ?_
      refine lv_iconst (v := 2) hx hb kd_Mo_effect_13 (by decide) ?_
      refine lv_icmp_gt (tgt := 38) hx hb kd_Mo_effect_14 (by decide) (fun h14 => ?_) (fun h14 => ?_)
      · skip
        refine lv_iconst (v := 1) hx hb kd_Mo_effect_38 (by decide) ?_
        refine lv_goto (tgt := 43) hx hb kd_Mo_effect_39 (by decide) ?_
        refine rest _ _ _ _ ?_ hl hI
        unfold zv_eff
        first
        | (rw [if_neg (zv_01 h5), if_neg (fun g => (zv_in0.mp g).elim h9 h14), if_neg (fun g => by rw [if_pos g] at h35; exact absurd h35 (by decide))]; done)
        | (rw [if_neg (zv_01 h5), if_neg (fun g => (zv_in0.mp g).elim h9 h14), if_pos (Decidable.byContradiction (fun g => h35 (if_neg g)))]; done)
        | (rw [if_neg (zv_01 h5), if_neg (fun g => (zv_in0.mp g).elim h9 h14), if_pos (al (k6' (Or.inr h24)))]; done)
        | (rw [if_neg (zv_01 h5), if_neg (fun g => (zv_in0.mp g).elim h9 h14), if_pos (al (k6' (Or.inl h18)))]; done)
        | (rw [if_neg (zv_01 h5), if_pos (zv_in0.mpr (Or.inr h14))]; done)
        | (rw [if_neg (zv_01 h5), if_pos (zv_in0.mpr (Or.inl h9))]; done)
        | (rw [if_pos (zv_10 h5)]; done)
      · skip
        refine zr_iload_n hx hb kd_Mo_effect_17 hl rfl ?_
        refine lv_if_lt (tgt := 38) hx hb kd_Mo_effect_18 (by decide) (fun h18 => ?_) (fun h18 => ?_)
        · skip
          refine lv_iconst (v := 1) hx hb kd_Mo_effect_38 (by decide) ?_
          refine lv_goto (tgt := 43) hx hb kd_Mo_effect_39 (by decide) ?_
          refine rest _ _ _ _ ?_ hl hI
          unfold zv_eff
          first
          | (rw [if_neg (zv_01 h5), if_neg (fun g => (zv_in0.mp g).elim h9 h14), if_neg (fun g => by rw [if_pos g] at h35; exact absurd h35 (by decide))]; done)
          | (rw [if_neg (zv_01 h5), if_neg (fun g => (zv_in0.mp g).elim h9 h14), if_pos (Decidable.byContradiction (fun g => h35 (if_neg g)))]; done)
          | (rw [if_neg (zv_01 h5), if_neg (fun g => (zv_in0.mp g).elim h9 h14), if_pos (al (k6' (Or.inr h24)))]; done)
          | (rw [if_neg (zv_01 h5), if_neg (fun g => (zv_in0.mp g).elim h9 h14), if_pos (al (k6' (Or.inl h18)))]; done)
          | (rw [if_neg (zv_01 h5), if_pos (zv_in0.mpr (Or.inr h14))]; done)
          | (rw [if_neg (zv_01 h5), if_pos (zv_in0.mpr (Or.inl h9))]; done)
          | (rw [if_pos (zv_10 h5)]; done)
        · skip
          refine zr_iload_n hx hb kd_Mo_effect_21 hl rfl ?_
          refine lv_bipush (v := 6) hx hb kd_Mo_effect_22 (by decide) ?_
          refine lv_icmp_gt (tgt := 38) hx hb kd_Mo_effect_24 (by decide) (fun h24 => ?_) (fun h24 => ?_)
          · skip
            refine lv_iconst (v := 1) hx hb kd_Mo_effect_38 (by decide) ?_
            refine lv_goto (tgt := 43) hx hb kd_Mo_effect_39 (by decide) ?_
            refine rest _ _ _ _ ?_ hl hI
            unfold zv_eff
            first
            | (rw [if_neg (zv_01 h5), if_neg (fun g => (zv_in0.mp g).elim h9 h14), if_neg (fun g => by rw [if_pos g] at h35; exact absurd h35 (by decide))]; done)
            | (rw [if_neg (zv_01 h5), if_neg (fun g => (zv_in0.mp g).elim h9 h14), if_pos (Decidable.byContradiction (fun g => h35 (if_neg g)))]; done)
            | (rw [if_neg (zv_01 h5), if_neg (fun g => (zv_in0.mp g).elim h9 h14), if_pos (al (k6' (Or.inr h24)))]; done)
            | (rw [if_neg (zv_01 h5), if_neg (fun g => (zv_in0.mp g).elim h9 h14), if_pos (al (k6' (Or.inl h18)))]; done)
            | (rw [if_neg (zv_01 h5), if_pos (zv_in0.mpr (Or.inr h14))]; done)
            | (rw [if_neg (zv_01 h5), if_pos (zv_in0.mpr (Or.inl h9))]; done)
            | (rw [if_pos (zv_10 h5)]; done)
          · skip
            refine zr_iload_n hx hb kd_Mo_effect_27 hl rfl ?_
            refine zr_iload hx hb kd_Mo_effect_28 hl rfl ?_
            refine zr_iload hx hb kd_Mo_effect_30 hl rfl ?_
            refine zr_ci (zr_runS hS hK (c_Mo_isOff l G 183 zs M _ _ _ (k6 h18 h24).1 (k6 h18 h24).2) km_Mo_144 hI rfl hl.1 (Nat.le_of_ble_eq_true rfl) (by decide) (by decide) kd_Mo_effect_32 rfl) hI (fun r32 M32 H locs hp32 hI => ?_)
            obtain ⟨rfl, hM32⟩ := hp32
            rw [hM32] at hI
            refine lv_if_eq (tgt := 42) hx hb kd_Mo_effect_35 (by decide) (fun h35 => ?_) (fun h35 => ?_)
            · skip
              refine lv_iconst (v := 0) hx hb kd_Mo_effect_42 (by decide) ?_
              refine rest _ _ _ _ ?_ hl hI
              unfold zv_eff
              first
              | (rw [if_neg (zv_01 h5), if_neg (fun g => (zv_in0.mp g).elim h9 h14), if_neg (fun g => by rw [if_pos g] at h35; exact absurd h35 (by decide))]; done)
              | (rw [if_neg (zv_01 h5), if_neg (fun g => (zv_in0.mp g).elim h9 h14), if_pos (Decidable.byContradiction (fun g => h35 (if_neg g)))]; done)
              | (rw [if_neg (zv_01 h5), if_neg (fun g => (zv_in0.mp g).elim h9 h14), if_pos (al (k6' (Or.inr h24)))]; done)
              | (rw [if_neg (zv_01 h5), if_neg (fun g => (zv_in0.mp g).elim h9 h14), if_pos (al (k6' (Or.inl h18)))]; done)
              | (rw [if_neg (zv_01 h5), if_pos (zv_in0.mpr (Or.inr h14))]; done)
              | (rw [if_neg (zv_01 h5), if_pos (zv_in0.mpr (Or.inl h9))]; done)
              | (rw [if_pos (zv_10 h5)]; done)
            · skip
              refine lv_iconst (v := 1) hx hb kd_Mo_effect_38 (by decide) ?_
              refine lv_goto (tgt := 43) hx hb kd_Mo_effect_39 (by decide) ?_
              refine rest _ _ _ _ ?_ hl hI
              unfold zv_eff
              first
              | (rw [if_neg (zv_01 h5), if_neg (fun g => (zv_in0.mp g).elim h9 h14), if_neg (fun g => by rw [if_pos g] at h35; exact absurd h35 (by decide))]; done)
              | (rw [if_neg (zv_01 h5), if_neg (fun g => (zv_in0.mp g).elim h9 h14), if_pos (Decidable.byContradiction (fun g => h35 (if_neg g)))]; done)
              | (rw [if_neg (zv_01 h5), if_neg (fun g => (zv_in0.mp g).elim h9 h14), if_pos (al (k6' (Or.inr h24)))]; done)
              | (rw [if_neg (zv_01 h5), if_neg (fun g => (zv_in0.mp g).elim h9 h14), if_pos (al (k6' (Or.inl h18)))]; done)
              | (rw [if_neg (zv_01 h5), if_pos (zv_in0.mpr (Or.inr h14))]; done)
              | (rw [if_neg (zv_01 h5), if_pos (zv_in0.mpr (Or.inl h9))]; done)
              | (rw [if_pos (zv_10 h5)]; done)

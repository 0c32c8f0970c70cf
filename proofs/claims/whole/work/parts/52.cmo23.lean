/-! The reference's public methods: meters. -/
/-- what a meter has gathered of the first d samples -/
def zg_acc (w : Int32) (f : Nat → Int) (d : Nat) (v : Int) : Prop := if w = 0 then ze_max (fun i => ze_abs (f i)) d v else if w = 1 then v = zi_sq f d else v = (zi_ov f d : Int)
set_option maxRecDepth 100000 in
set_option maxHeartbeats 4000000 in
theorem c_Mo_meter (l : Launch) (G : zg_T) (M : zm_T) (hL : zL M.2) (sv w : Int32) (n : Nat) (hno : ∀ a, ¬ gq_T (zgf M) a a) (hq : zg_q M) (hbs : M.1 151 31 = nI n) (hn64 : n ≤ 64) (hbl : ∀ j, j < 512 → -16777216 ≤ (M.1 181 j).toInt ∧ (M.1 181 j).toInt ≤ 16777216) : Met l ky_Mo_meter (zr_ws ky_Mo_meter kc_Mo_meter 10 (some .long)) (zr_rm 3) (va_Pc [.ref (G.2.2.1 + 151), .int sv, .int w] (zm_B G 183 zs M)) (va_Ql (fun (r : Int64) (M' : zm_T) => (zv_trn sv w = 1 ∧ M' = zm_ui M 151 0 1) ∨ (zv_trn sv w = 0 ∧ ∃ s, s < 8 ∧ sv = nI s ∧ ((w = 3 ∧ zm_only (zm_ui M 151 0 0) M' 176 ∧ (∀ u, u < 8 → zg_dE (zgf M) (zg_own M) (fun a => (M'.1 176 a).toInt) u) ∧ r.toInt = (M'.1 176 s).toInt) ∨ (w = 4 ∧ zm_only (zm_ui M 151 0 0) M' 175 ∧ zg_R M' (gq_T (zgf M)) ∧ ((r = 1 ∧ zg_H M (gq_T (zgf M)) s) ∨ (r = 0 ∧ ¬ zg_H M (gq_T (zgf M)) s))) ∨ (¬ w = 3 ∧ ¬ w = 4 ∧ M' = zm_ui M 151 0 0 ∧ zg_acc w (fun i => (M.1 181 (64 * s + i)).toInt) n r.toInt)))) (zm_B G 183 zs) (zm_A G)) 0 0 (zm_A G) := by
  refine zr_met (by decide +kernel) (Nat.le_of_ble_eq_true rfl) ?_
  intro p0 e0 s0 m0 below meth c0 ls hS hK hlk hr hl hI
  have hx := hS.1
  have hb := hS.2.1
  have hl : zl_has ls 10 [some (.ref (G.2.2.1 + 151)), some (.int sv), some (.int w), none, none, none, none, none, none, none] := hl
  have rest : ∀ (v : Int32) (H : Heap) (locs : List Loc) (ls : Array Slot), v = zv_trn sv w → zl_has ls 10 [some (.ref (G.2.2.1 + 151)), some (.int sv), some (.int w), none, none, none, none, none, none, none] → zm_I G 183 zs M s0 H locs → W p0 l e0 (zr_rm 3) s0 m0 ([.ref (G.2.2.1 + 151), .int sv, .int w] : List Value).toArray below meth c0 H locs 0 0 (MQ below (va_Ql (fun (r : Int64) (M' : zm_T) => (zv_trn sv w = 1 ∧ M' = zm_ui M 151 0 1) ∨ (zv_trn sv w = 0 ∧ ∃ s, s < 8 ∧ sv = nI s ∧ ((w = 3 ∧ zm_only (zm_ui M 151 0 0) M' 176 ∧ (∀ u, u < 8 → zg_dE (zgf M) (zg_own M) (fun a => (M'.1 176 a).toInt) u) ∧ r.toInt = (M'.1 176 s).toInt) ∨ (w = 4 ∧ zm_only (zm_ui M 151 0 0) M' 175 ∧ zg_R M' (gq_T (zgf M)) ∧ ((r = 1 ∧ zg_H M (gq_T (zgf M)) s) ∨ (r = 0 ∧ ¬ zg_H M (gq_T (zgf M)) s))) ∨ (¬ w = 3 ∧ ¬ w = 4 ∧ M' = zm_ui M 151 0 0 ∧ zg_acc w (fun i => (M.1 181 (64 * s + i)).toInt) n r.toInt)))) (zm_B G 183 zs) (zm_A G)) ([.ref (G.2.2.1 + 151), .int sv, .int w] : List Value).toArray s0 0 0 (zm_A G)) (F0 m0 22 ls [.int v, .ref (G.2.2.1 + 151)]) := by
    intro v H locs ls hv hl hI
    have v01 : v = 0 ∨ v = 1 := by rw [hv]; unfold zv_trn; (repeat' split) <;> simp
    rcases v01 with rfl | rfl
    · have hin : ∃ s, s < 8 ∧ sv = nI s := by
        unfold zv_trn at hv
        by_cases g1 : zf_in sv 0 7 = 0
        · rw [if_pos g1] at hv; exact absurd hv (by decide)
        obtain ⟨a, ha, ea⟩ := zf_in_n (n := 7) (by decide) g1
        exact ⟨a, by omega, ea⟩
      obtain ⟨s, hs8, es⟩ := hin
      have cs : sv.toNatClampNeg = s := by rw [es]; exact zn_cl (by omega)
      have hsv : vp_in sv 8 := by rw [es]; exact vp_in_nI (by omega) (by decide)
      have e1 : ∀ p j, p ≠ 151 → (zm_ui M 151 0 0).1 p j = M.1 p j := fun p j h => zm_ui_ne (Or.inl h)
      have hfd1 : zgf (zm_ui M 151 0 0) = zgf M := zgf_c (fun j => e1 _ _ (by decide)) (fun j => e1 _ _ (by decide))
      have hown1 : zg_own (zm_ui M 151 0 0) = zg_own M := by
        funext u
        unfold zg_own zg_o1
        simp only [e1 165 _ (by decide), e1 167 _ (by decide)]
      have hq1 : zg_q (zm_ui M 151 0 0) := fun u hu k hk => by
        have := hq u hu k hk
        unfold zg_o1 at this ⊢
        rw [e1 165 _ (by decide), e1 167 _ (by decide)]
        exact this
      have c0' : (0 : Int64).toInt = 0 := by decide
      have loop : ∀ (q d : Nat) (acc : Int64) (o6 o8 : Option Value) (H : Heap) (locs : List Loc) (ls : Array Slot), ¬ w = 3 → ¬ w = 4 → d + q = n → zg_acc w (fun i => (M.1 181 (64 * s + i)).toInt) d acc.toInt → zl_has ls 10 [some (.ref (G.2.2.1 + 151)), some (.int sv), some (.int w), some (.long acc), none, some (.int (nI d)), o6, none, o8, none] → zm_I G 183 zs (zm_ui M 151 0 0) s0 H locs → W p0 l e0 (zr_rm 3) s0 m0 ([.ref (G.2.2.1 + 151), .int sv, .int w] : List Value).toArray below meth c0 H locs 0 0 (MQ below (va_Ql (fun (r : Int64) (M' : zm_T) => (zv_trn sv w = 1 ∧ M' = zm_ui M 151 0 1) ∨ (zv_trn sv w = 0 ∧ ∃ s, s < 8 ∧ sv = nI s ∧ ((w = 3 ∧ zm_only (zm_ui M 151 0 0) M' 176 ∧ (∀ u, u < 8 → zg_dE (zgf M) (zg_own M) (fun a => (M'.1 176 a).toInt) u) ∧ r.toInt = (M'.1 176 s).toInt) ∨ (w = 4 ∧ zm_only (zm_ui M 151 0 0) M' 175 ∧ zg_R M' (gq_T (zgf M)) ∧ ((r = 1 ∧ zg_H M (gq_T (zgf M)) s) ∨ (r = 0 ∧ ¬ zg_H M (gq_T (zgf M)) s))) ∨ (¬ w = 3 ∧ ¬ w = 4 ∧ M' = zm_ui M 151 0 0 ∧ zg_acc w (fun i => (M.1 181 (64 * s + i)).toInt) n r.toInt)))) (zm_B G 183 zs) (zm_A G)) ([.ref (G.2.2.1 + 151), .int sv, .int w] : List Value).toArray s0 0 0 (zm_A G)) (F0 m0 79 ls []) := by
        intro q
        induction q with
        | zero =>
          intro d acc o6 o8 H locs ls g3 g4 hd hacc hl hI
          obtain rfl : d = n := by omega
          refine zr_iload hx hb kd_Mo_meter_79 hl rfl ?_
          refine zr_aload_n hx hb kd_Mo_meter_81 hl rfl ?_
          refine zr_geti hS hK kf_Mo_197 hI ha_MO hs_MO kd_Mo_meter_82 ?_
          rw [zm_ui_ne (Or.inr (by decide)), hbs]
          refine lv_icmp_ge (tgt := 187) hx hb kd_Mo_meter_85 (by decide) (fun h85 => ?_) (fun h85 => absurd (Int32.le_refl _) h85)
          refine zr_lload_n hx hb kd_Mo_meter_187 hl rfl ?_
          exact zr_lret hS hK hlk hr hI kd_Mo_meter_188 (Or.inr ⟨hv.symm, s, hs8, es, Or.inr (Or.inr ⟨g3, g4, rfl, hacc⟩)⟩)
        | succ q ih =>
          intro d acc o6 o8 H locs ls g3 g4 hd hacc hl hI
          have ix : (64 : Int32) * sv + nI d = nI (64 * s + d) := by rw [es, show (64 : Int32) = nI 64 from rfl, zn_mulI, nI_add]
          have cx : (nI (64 * s + d)).toNatClampNeg = 64 * s + d := zn_cl (by omega)
          have hx1 := hbl (64 * s + d) (by omega)
          have cX : (M.1 181 (64 * s + d)).toInt64.toInt = (M.1 181 (64 * s + d)).toInt := Int32.toInt_toInt64 _
          have next : ∀ (v' : Int64) (o6 o8 : Option Value) (H : Heap) (locs : List Loc) (ls : Array Slot), zg_acc w (fun i => (M.1 181 (64 * s + i)).toInt) (d + 1) v'.toInt → zl_has ls 10 [some (.ref (G.2.2.1 + 151)), some (.int sv), some (.int w), some (.long acc), none, some (.int (nI d)), o6, none, o8, none] → zm_I G 183 zs (zm_ui M 151 0 0) s0 H locs → W p0 l e0 (zr_rm 3) s0 m0 ([.ref (G.2.2.1 + 151), .int sv, .int w] : List Value).toArray below meth c0 H locs 0 0 (MQ below (va_Ql (fun (r : Int64) (M' : zm_T) => (zv_trn sv w = 1 ∧ M' = zm_ui M 151 0 1) ∨ (zv_trn sv w = 0 ∧ ∃ s, s < 8 ∧ sv = nI s ∧ ((w = 3 ∧ zm_only (zm_ui M 151 0 0) M' 176 ∧ (∀ u, u < 8 → zg_dE (zgf M) (zg_own M) (fun a => (M'.1 176 a).toInt) u) ∧ r.toInt = (M'.1 176 s).toInt) ∨ (w = 4 ∧ zm_only (zm_ui M 151 0 0) M' 175 ∧ zg_R M' (gq_T (zgf M)) ∧ ((r = 1 ∧ zg_H M (gq_T (zgf M)) s) ∨ (r = 0 ∧ ¬ zg_H M (gq_T (zgf M)) s))) ∨ (¬ w = 3 ∧ ¬ w = 4 ∧ M' = zm_ui M 151 0 0 ∧ zg_acc w (fun i => (M.1 181 (64 * s + i)).toInt) n r.toInt)))) (zm_B G 183 zs) (zm_A G)) ([.ref (G.2.2.1 + 151), .int sv, .int w] : List Value).toArray s0 0 0 (zm_A G)) (F0 m0 180 ls [.long v']) := by
            intro v' o6 o8 H locs ls h1 hl hI
            refine zr_lstore_n hx hb kd_Mo_meter_180 hl (by decide) rfl (fun ls hl => ?_)
            refine zr_iinc hx hb kd_Mo_meter_181 hl (by decide) rfl rfl (fun ls hl => ?_)
            refine lv_goto (tgt := 79) hx hb kd_Mo_meter_184 (by decide) ?_
            exact ih (d + 1) v' _ _ H locs ls g3 g4 (by omega) h1 (by rw [nI_succ]; exact hl) hI
          have size : ∀ (sz : Int64) (H : Heap) (locs : List Loc) (ls : Array Slot), sz.toInt = ze_abs (M.1 181 (64 * s + d)).toInt → zl_has ls 10 [some (.ref (G.2.2.1 + 151)), some (.int sv), some (.int w), some (.long acc), none, some (.int (nI d)), some (.long (M.1 181 (64 * s + d)).toInt64), none, some (.long sz), none] → zm_I G 183 zs (zm_ui M 151 0 0) s0 H locs → W p0 l e0 (zr_rm 3) s0 m0 ([.ref (G.2.2.1 + 151), .int sv, .int w] : List Value).toArray below meth c0 H locs 0 0 (MQ below (va_Ql (fun (r : Int64) (M' : zm_T) => (zv_trn sv w = 1 ∧ M' = zm_ui M 151 0 1) ∨ (zv_trn sv w = 0 ∧ ∃ s, s < 8 ∧ sv = nI s ∧ ((w = 3 ∧ zm_only (zm_ui M 151 0 0) M' 176 ∧ (∀ u, u < 8 → zg_dE (zgf M) (zg_own M) (fun a => (M'.1 176 a).toInt) u) ∧ r.toInt = (M'.1 176 s).toInt) ∨ (w = 4 ∧ zm_only (zm_ui M 151 0 0) M' 175 ∧ zg_R M' (gq_T (zgf M)) ∧ ((r = 1 ∧ zg_H M (gq_T (zgf M)) s) ∨ (r = 0 ∧ ¬ zg_H M (gq_T (zgf M)) s))) ∨ (¬ w = 3 ∧ ¬ w = 4 ∧ M' = zm_ui M 151 0 0 ∧ zg_acc w (fun i => (M.1 181 (64 * s + i)).toInt) n r.toInt)))) (zm_B G 183 zs) (zm_A G)) ([.ref (G.2.2.1 + 151), .int sv, .int w] : List Value).toArray s0 0 0 (zm_A G)) (F0 m0 120 ls []) := by
            intro sz H locs ls hsz hl hI
            have a0 : w = 0 → ze_max (fun i => ze_abs (M.1 181 (64 * s + i)).toInt) (d + 1) (if acc.toInt < sz.toInt then sz.toInt else acc.toInt) := fun h => by
              unfold zg_acc at hacc
              rw [if_pos h] at hacc
              rw [hsz]
              exact ze_max_s hacc
            refine zr_iload_n hx hb kd_Mo_meter_120 hl rfl ?_
            refine lv_if_ne (tgt := 140) hx hb kd_Mo_meter_121 (by decide) (fun h121 => ?_) (fun h121 => ?_)
            · skip
              refine zr_iload_n hx hb kd_Mo_meter_140 hl rfl ?_
              refine lv_iconst (v := 1) hx hb kd_Mo_meter_141 (by decide) ?_
              refine lv_icmp_ne (tgt := 155) hx hb kd_Mo_meter_142 (by decide) (fun h142 => ?_) (fun h142 => ?_)
              · skip
                refine zr_lload hx hb kd_Mo_meter_155 hl rfl ?_
                refine lv_ldc2 (v := -32768) hx hb hS.2.2.2.1 (hS.2.2.2.2 _ (zw_mem (i := 1309) (w := .constantLong "StripMixerModel" 206 (-32768)) (by decide +kernel) rfl)) kd_Mo_meter_157 ?_
                refine W.lcmp hx hb kd_Mo_meter_160 ?_
                refine lv_if_lt (tgt := 173) hx hb kd_Mo_meter_161 (by decide) (fun h161 => ?_) (fun h161 => ?_)
                · skip
                  refine zr_lload_n hx hb kd_Mo_meter_173 hl rfl ?_
                  refine lv_lconst (v := 1) hx hb kd_Mo_meter_174 (by decide) ?_
                  refine lv_ladd hx hb kd_Mo_meter_175 ?_
                  refine lv_goto (tgt := 180) hx hb kd_Mo_meter_176 (by decide) ?_
                  refine next _ _ _ H locs ls ?_ hl hI
                  unfold zg_acc at hacc ⊢
                  first
                  | (have ha := a0 h121
                     rw [lg_cmp_le, Int64.le_iff_toInt_le] at h128
                     rw [if_neg (by omega)] at ha
                     rw [if_pos h121]; exact ha)
                  | (have ha := a0 h121
                     rw [lg_cmp_le, Int64.le_iff_toInt_le] at h128
                     rw [if_pos (by omega)] at ha
                     rw [if_pos h121]; exact ha)
                  | (rw [if_neg h121, if_pos h142] at hacc ⊢
                     have b1 := zi_sq_b (f := fun i => (M.1 181 (64 * s + i)).toInt) (n := d) (fun i hi => hbl _ (by omega))
                     have b2 := zi_sq_b (f := fun i => (M.1 181 (64 * s + i)).toInt) (n := d + 1) (fun i hi => hbl _ (by omega))
                     have b3 : zi_sq (fun i => (M.1 181 (64 * s + i)).toInt) (d + 1) = zi_sq (fun i => (M.1 181 (64 * s + i)).toInt) d + (M.1 181 (64 * s + d)).toInt * (M.1 181 (64 * s + d)).toInt := rfl
                     have e2 : ((M.1 181 (64 * s + d)).toInt64 * (M.1 181 (64 * s + d)).toInt64).toInt = (M.1 181 (64 * s + d)).toInt * (M.1 181 (64 * s + d)).toInt := by
                       have hd1 : ((d + 1 : Nat) : Int) * 281474976710656 ≤ 64 * 281474976710656 := Int.mul_le_mul_of_nonneg_right (by omega) (by omega)
                       have hd0 : (d : Int) * 281474976710656 ≤ 64 * 281474976710656 := Int.mul_le_mul_of_nonneg_right (by omega) (by omega)
                       rw [zn_lmul] <;> rw [cX] <;> omega
                     have hd1 : ((d + 1 : Nat) : Int) * 281474976710656 ≤ 64 * 281474976710656 := Int.mul_le_mul_of_nonneg_right (by omega) (by omega)
                     have hd0 : (d : Int) * 281474976710656 ≤ 64 * 281474976710656 := Int.mul_le_mul_of_nonneg_right (by omega) (by omega)
                     rw [zn_ladd] <;> rw [e2, hacc] <;> omega)
                  | (rw [if_neg h121, if_neg h142] at hacc ⊢
                     have b1 := zi_ov_b (fun i => (M.1 181 (64 * s + i)).toInt) d
                     have b3 : zi_ov (fun i => (M.1 181 (64 * s + i)).toInt) (d + 1) = zi_ov (fun i => (M.1 181 (64 * s + i)).toInt) d + (if (M.1 181 (64 * s + d)).toInt < -32768 ∨ 32767 < (M.1 181 (64 * s + d)).toInt then 1 else 0) := rfl
                     rw [lg_cmp_lt, Int64.lt_iff_toInt_lt, cX, show (-32768 : Int64).toInt = -32768 from by decide] at h161
                     try rw [lg_cmp_le, Int64.le_iff_toInt_le, cX, show (32767 : Int64).toInt = 32767 from by decide] at h170
                     rw [b3]
                     first
                     | (rw [if_neg (by omega)]; exact hacc)
                     | (rw [if_pos (by omega), zn_ladd] <;> rw [hacc, show (1 : Int64).toInt = 1 from by decide] <;> omega))
                · skip
                  refine zr_lload hx hb kd_Mo_meter_164 hl rfl ?_
                  refine lv_ldc2 (v := 32767) hx hb hS.2.2.2.1 (hS.2.2.2.2 _ (zw_mem (i := 1310) (w := .constantLong "StripMixerModel" 208 32767) (by decide +kernel) rfl)) kd_Mo_meter_166 ?_
                  refine W.lcmp hx hb kd_Mo_meter_169 ?_
                  refine lv_if_le (tgt := 179) hx hb kd_Mo_meter_170 (by decide) (fun h170 => ?_) (fun h170 => ?_)
                  · skip
                    refine zr_lload_n hx hb kd_Mo_meter_179 hl rfl ?_
                    refine next _ _ _ H locs ls ?_ hl hI
                    unfold zg_acc at hacc ⊢
                    first
                    | (have ha := a0 h121
                       rw [lg_cmp_le, Int64.le_iff_toInt_le] at h128
                       rw [if_neg (by omega)] at ha
                       rw [if_pos h121]; exact ha)
                    | (have ha := a0 h121
                       rw [lg_cmp_le, Int64.le_iff_toInt_le] at h128
                       rw [if_pos (by omega)] at ha
                       rw [if_pos h121]; exact ha)
                    | (rw [if_neg h121, if_pos h142] at hacc ⊢
                       have b1 := zi_sq_b (f := fun i => (M.1 181 (64 * s + i)).toInt) (n := d) (fun i hi => hbl _ (by omega))
                       have b2 := zi_sq_b (f := fun i => (M.1 181 (64 * s + i)).toInt) (n := d + 1) (fun i hi => hbl _ (by omega))
                       have b3 : zi_sq (fun i => (M.1 181 (64 * s + i)).toInt) (d + 1) = zi_sq (fun i => (M.1 181 (64 * s + i)).toInt) d + (M.1 181 (64 * s + d)).toInt * (M.1 181 (64 * s + d)).toInt := rfl
                       have e2 : ((M.1 181 (64 * s + d)).toInt64 * (M.1 181 (64 * s + d)).toInt64).toInt = (M.1 181 (64 * s + d)).toInt * (M.1 181 (64 * s + d)).toInt := by
                         have hd1 : ((d + 1 : Nat) : Int) * 281474976710656 ≤ 64 * 281474976710656 := Int.mul_le_mul_of_nonneg_right (by omega) (by omega)
                         have hd0 : (d : Int) * 281474976710656 ≤ 64 * 281474976710656 := Int.mul_le_mul_of_nonneg_right (by omega) (by omega)
                         rw [zn_lmul] <;> rw [cX] <;> omega
                       have hd1 : ((d + 1 : Nat) : Int) * 281474976710656 ≤ 64 * 281474976710656 := Int.mul_le_mul_of_nonneg_right (by omega) (by omega)
                       have hd0 : (d : Int) * 281474976710656 ≤ 64 * 281474976710656 := Int.mul_le_mul_of_nonneg_right (by omega) (by omega)
                       rw [zn_ladd] <;> rw [e2, hacc] <;> omega)
                    | (rw [if_neg h121, if_neg h142] at hacc ⊢
                       have b1 := zi_ov_b (fun i => (M.1 181 (64 * s + i)).toInt) d
                       have b3 : zi_ov (fun i => (M.1 181 (64 * s + i)).toInt) (d + 1) = zi_ov (fun i => (M.1 181 (64 * s + i)).toInt) d + (if (M.1 181 (64 * s + d)).toInt < -32768 ∨ 32767 < (M.1 181 (64 * s + d)).toInt then 1 else 0) := rfl
                       rw [lg_cmp_lt, Int64.lt_iff_toInt_lt, cX, show (-32768 : Int64).toInt = -32768 from by decide] at h161
                       try rw [lg_cmp_le, Int64.le_iff_toInt_le, cX, show (32767 : Int64).toInt = 32767 from by decide] at h170
                       rw [b3]
                       first
                       | (rw [if_neg (by omega)]; exact hacc)
                       | (rw [if_pos (by omega), zn_ladd] <;> rw [hacc, show (1 : Int64).toInt = 1 from by decide] <;> omega))
                  · skip
                    refine zr_lload_n hx hb kd_Mo_meter_173 hl rfl ?_
                    refine lv_lconst (v := 1) hx hb kd_Mo_meter_174 (by decide) ?_
                    refine lv_ladd hx hb kd_Mo_meter_175 ?_
                    refine lv_goto (tgt := 180) hx hb kd_Mo_meter_176 (by decide) ?_
                    refine next _ _ _ H locs ls ?_ hl hI
                    unfold zg_acc at hacc ⊢
                    first
                    | (have ha := a0 h121
                       rw [lg_cmp_le, Int64.le_iff_toInt_le] at h128
                       rw [if_neg (by omega)] at ha
                       rw [if_pos h121]; exact ha)
                    | (have ha := a0 h121
                       rw [lg_cmp_le, Int64.le_iff_toInt_le] at h128
                       rw [if_pos (by omega)] at ha
                       rw [if_pos h121]; exact ha)
                    | (rw [if_neg h121, if_pos h142] at hacc ⊢
                       have b1 := zi_sq_b (f := fun i => (M.1 181 (64 * s + i)).toInt) (n := d) (fun i hi => hbl _ (by omega))
                       have b2 := zi_sq_b (f := fun i => (M.1 181 (64 * s + i)).toInt) (n := d + 1) (fun i hi => hbl _ (by omega))
                       have b3 : zi_sq (fun i => (M.1 181 (64 * s + i)).toInt) (d + 1) = zi_sq (fun i => (M.1 181 (64 * s + i)).toInt) d + (M.1 181 (64 * s + d)).toInt * (M.1 181 (64 * s + d)).toInt := rfl
                       have e2 : ((M.1 181 (64 * s + d)).toInt64 * (M.1 181 (64 * s + d)).toInt64).toInt = (M.1 181 (64 * s + d)).toInt * (M.1 181 (64 * s + d)).toInt := by
                         have hd1 : ((d + 1 : Nat) : Int) * 281474976710656 ≤ 64 * 281474976710656 := Int.mul_le_mul_of_nonneg_right (by omega) (by omega)
                         have hd0 : (d : Int) * 281474976710656 ≤ 64 * 281474976710656 := Int.mul_le_mul_of_nonneg_right (by omega) (by omega)
                         rw [zn_lmul] <;> rw [cX] <;> omega
                       have hd1 : ((d + 1 : Nat) : Int) * 281474976710656 ≤ 64 * 281474976710656 := Int.mul_le_mul_of_nonneg_right (by omega) (by omega)
                       have hd0 : (d : Int) * 281474976710656 ≤ 64 * 281474976710656 := Int.mul_le_mul_of_nonneg_right (by omega) (by omega)
                       rw [zn_ladd] <;> rw [e2, hacc] <;> omega)
                    | (rw [if_neg h121, if_neg h142] at hacc ⊢
                       have b1 := zi_ov_b (fun i => (M.1 181 (64 * s + i)).toInt) d
                       have b3 : zi_ov (fun i => (M.1 181 (64 * s + i)).toInt) (d + 1) = zi_ov (fun i => (M.1 181 (64 * s + i)).toInt) d + (if (M.1 181 (64 * s + d)).toInt < -32768 ∨ 32767 < (M.1 181 (64 * s + d)).toInt then 1 else 0) := rfl
                       rw [lg_cmp_lt, Int64.lt_iff_toInt_lt, cX, show (-32768 : Int64).toInt = -32768 from by decide] at h161
                       try rw [lg_cmp_le, Int64.le_iff_toInt_le, cX, show (32767 : Int64).toInt = 32767 from by decide] at h170
                       rw [b3]
                       first
                       | (rw [if_neg (by omega)]; exact hacc)
                       | (rw [if_pos (by omega), zn_ladd] <;> rw [hacc, show (1 : Int64).toInt = 1 from by decide] <;> omega))
              · skip
                refine zr_lload_n hx hb kd_Mo_meter_145 hl rfl ?_
                refine zr_lload hx hb kd_Mo_meter_146 hl rfl ?_
                refine zr_lload hx hb kd_Mo_meter_148 hl rfl ?_
                refine lv_lmul hx hb kd_Mo_meter_150 ?_
                refine lv_ladd hx hb kd_Mo_meter_151 ?_
                refine lv_goto (tgt := 180) hx hb kd_Mo_meter_152 (by decide) ?_
                refine next _ _ _ H locs ls ?_ hl hI
                unfold zg_acc at hacc ⊢
                first
                | (have ha := a0 h121
                   rw [lg_cmp_le, Int64.le_iff_toInt_le] at h128
                   rw [if_neg (by omega)] at ha
                   rw [if_pos h121]; exact ha)
                | (have ha := a0 h121
                   rw [lg_cmp_le, Int64.le_iff_toInt_le] at h128
                   rw [if_pos (by omega)] at ha
                   rw [if_pos h121]; exact ha)
                | (rw [if_neg h121, if_pos h142] at hacc ⊢
                   have b1 := zi_sq_b (f := fun i => (M.1 181 (64 * s + i)).toInt) (n := d) (fun i hi => hbl _ (by omega))
                   have b2 := zi_sq_b (f := fun i => (M.1 181 (64 * s + i)).toInt) (n := d + 1) (fun i hi => hbl _ (by omega))
                   have b3 : zi_sq (fun i => (M.1 181 (64 * s + i)).toInt) (d + 1) = zi_sq (fun i => (M.1 181 (64 * s + i)).toInt) d + (M.1 181 (64 * s + d)).toInt * (M.1 181 (64 * s + d)).toInt := rfl
                   have e2 : ((M.1 181 (64 * s + d)).toInt64 * (M.1 181 (64 * s + d)).toInt64).toInt = (M.1 181 (64 * s + d)).toInt * (M.1 181 (64 * s + d)).toInt := by
                     have hd1 : ((d + 1 : Nat) : Int) * 281474976710656 ≤ 64 * 281474976710656 := Int.mul_le_mul_of_nonneg_right (by omega) (by omega)
                     have hd0 : (d : Int) * 281474976710656 ≤ 64 * 281474976710656 := Int.mul_le_mul_of_nonneg_right (by omega) (by omega)
                     rw [zn_lmul] <;> rw [cX] <;> omega
                   have hd1 : ((d + 1 : Nat) : Int) * 281474976710656 ≤ 64 * 281474976710656 := Int.mul_le_mul_of_nonneg_right (by omega) (by omega)
                   have hd0 : (d : Int) * 281474976710656 ≤ 64 * 281474976710656 := Int.mul_le_mul_of_nonneg_right (by omega) (by omega)
                   rw [zn_ladd] <;> rw [e2, hacc] <;> omega)
                | (rw [if_neg h121, if_neg h142] at hacc ⊢
                   have b1 := zi_ov_b (fun i => (M.1 181 (64 * s + i)).toInt) d
                   have b3 : zi_ov (fun i => (M.1 181 (64 * s + i)).toInt) (d + 1) = zi_ov (fun i => (M.1 181 (64 * s + i)).toInt) d + (if (M.1 181 (64 * s + d)).toInt < -32768 ∨ 32767 < (M.1 181 (64 * s + d)).toInt then 1 else 0) := rfl
                   rw [lg_cmp_lt, Int64.lt_iff_toInt_lt, cX, show (-32768 : Int64).toInt = -32768 from by decide] at h161
                   try rw [lg_cmp_le, Int64.le_iff_toInt_le, cX, show (32767 : Int64).toInt = 32767 from by decide] at h170
                   rw [b3]
                   first
                   | (rw [if_neg (by omega)]; exact hacc)
                   | (rw [if_pos (by omega), zn_ladd] <;> rw [hacc, show (1 : Int64).toInt = 1 from by decide] <;> omega))
            · skip
              refine zr_lload hx hb kd_Mo_meter_124 hl rfl ?_
              refine zr_lload_n hx hb kd_Mo_meter_126 hl rfl ?_
              refine W.lcmp hx hb kd_Mo_meter_127 ?_
              refine lv_if_le (tgt := 136) hx hb kd_Mo_meter_128 (by decide) (fun h128 => ?_) (fun h128 => ?_)
              · skip
                refine zr_lload_n hx hb kd_Mo_meter_136 hl rfl ?_
                refine lv_goto (tgt := 180) hx hb kd_Mo_meter_137 (by decide) ?_
                refine next _ _ _ H locs ls ?_ hl hI
                unfold zg_acc at hacc ⊢
                first
                | (have ha := a0 h121
                   rw [lg_cmp_le, Int64.le_iff_toInt_le] at h128
                   rw [if_neg (by omega)] at ha
                   rw [if_pos h121]; exact ha)
                | (have ha := a0 h121
                   rw [lg_cmp_le, Int64.le_iff_toInt_le] at h128
                   rw [if_pos (by omega)] at ha
                   rw [if_pos h121]; exact ha)
                | (rw [if_neg h121, if_pos h142] at hacc ⊢
                   have b1 := zi_sq_b (f := fun i => (M.1 181 (64 * s + i)).toInt) (n := d) (fun i hi => hbl _ (by omega))
                   have b2 := zi_sq_b (f := fun i => (M.1 181 (64 * s + i)).toInt) (n := d + 1) (fun i hi => hbl _ (by omega))
                   have b3 : zi_sq (fun i => (M.1 181 (64 * s + i)).toInt) (d + 1) = zi_sq (fun i => (M.1 181 (64 * s + i)).toInt) d + (M.1 181 (64 * s + d)).toInt * (M.1 181 (64 * s + d)).toInt := rfl
                   have e2 : ((M.1 181 (64 * s + d)).toInt64 * (M.1 181 (64 * s + d)).toInt64).toInt = (M.1 181 (64 * s + d)).toInt * (M.1 181 (64 * s + d)).toInt := by
                     have hd1 : ((d + 1 : Nat) : Int) * 281474976710656 ≤ 64 * 281474976710656 := Int.mul_le_mul_of_nonneg_right (by omega) (by omega)
                     have hd0 : (d : Int) * 281474976710656 ≤ 64 * 281474976710656 := Int.mul_le_mul_of_nonneg_right (by omega) (by omega)
                     rw [zn_lmul] <;> rw [cX] <;> omega
                   have hd1 : ((d + 1 : Nat) : Int) * 281474976710656 ≤ 64 * 281474976710656 := Int.mul_le_mul_of_nonneg_right (by omega) (by omega)
                   have hd0 : (d : Int) * 281474976710656 ≤ 64 * 281474976710656 := Int.mul_le_mul_of_nonneg_right (by omega) (by omega)
                   rw [zn_ladd] <;> rw [e2, hacc] <;> omega)
                | (rw [if_neg h121, if_neg h142] at hacc ⊢
                   have b1 := zi_ov_b (fun i => (M.1 181 (64 * s + i)).toInt) d
                   have b3 : zi_ov (fun i => (M.1 181 (64 * s + i)).toInt) (d + 1) = zi_ov (fun i => (M.1 181 (64 * s + i)).toInt) d + (if (M.1 181 (64 * s + d)).toInt < -32768 ∨ 32767 < (M.1 181 (64 * s + d)).toInt then 1 else 0) := rfl
                   rw [lg_cmp_lt, Int64.lt_iff_toInt_lt, cX, show (-32768 : Int64).toInt = -32768 from by decide] at h161
                   try rw [lg_cmp_le, Int64.le_iff_toInt_le, cX, show (32767 : Int64).toInt = 32767 from by decide] at h170
                   rw [b3]
                   first
                   | (rw [if_neg (by omega)]; exact hacc)
                   | (rw [if_pos (by omega), zn_ladd] <;> rw [hacc, show (1 : Int64).toInt = 1 from by decide] <;> omega))
              · skip
                refine zr_lload hx hb kd_Mo_meter_131 hl rfl ?_
                refine lv_goto (tgt := 180) hx hb kd_Mo_meter_133 (by decide) ?_
                refine next _ _ _ H locs ls ?_ hl hI
                unfold zg_acc at hacc ⊢
                first
                | (have ha := a0 h121
                   rw [lg_cmp_le, Int64.le_iff_toInt_le] at h128
                   rw [if_neg (by omega)] at ha
                   rw [if_pos h121]; exact ha)
                | (have ha := a0 h121
                   rw [lg_cmp_le, Int64.le_iff_toInt_le] at h128
                   rw [if_pos (by omega)] at ha
                   rw [if_pos h121]; exact ha)
                | (rw [if_neg h121, if_pos h142] at hacc ⊢
                   have b1 := zi_sq_b (f := fun i => (M.1 181 (64 * s + i)).toInt) (n := d) (fun i hi => hbl _ (by omega))
                   have b2 := zi_sq_b (f := fun i => (M.1 181 (64 * s + i)).toInt) (n := d + 1) (fun i hi => hbl _ (by omega))
                   have b3 : zi_sq (fun i => (M.1 181 (64 * s + i)).toInt) (d + 1) = zi_sq (fun i => (M.1 181 (64 * s + i)).toInt) d + (M.1 181 (64 * s + d)).toInt * (M.1 181 (64 * s + d)).toInt := rfl
                   have e2 : ((M.1 181 (64 * s + d)).toInt64 * (M.1 181 (64 * s + d)).toInt64).toInt = (M.1 181 (64 * s + d)).toInt * (M.1 181 (64 * s + d)).toInt := by
                     have hd1 : ((d + 1 : Nat) : Int) * 281474976710656 ≤ 64 * 281474976710656 := Int.mul_le_mul_of_nonneg_right (by omega) (by omega)
                     have hd0 : (d : Int) * 281474976710656 ≤ 64 * 281474976710656 := Int.mul_le_mul_of_nonneg_right (by omega) (by omega)
                     rw [zn_lmul] <;> rw [cX] <;> omega
                   have hd1 : ((d + 1 : Nat) : Int) * 281474976710656 ≤ 64 * 281474976710656 := Int.mul_le_mul_of_nonneg_right (by omega) (by omega)
                   have hd0 : (d : Int) * 281474976710656 ≤ 64 * 281474976710656 := Int.mul_le_mul_of_nonneg_right (by omega) (by omega)
                   rw [zn_ladd] <;> rw [e2, hacc] <;> omega)
                | (rw [if_neg h121, if_neg h142] at hacc ⊢
                   have b1 := zi_ov_b (fun i => (M.1 181 (64 * s + i)).toInt) d
                   have b3 : zi_ov (fun i => (M.1 181 (64 * s + i)).toInt) (d + 1) = zi_ov (fun i => (M.1 181 (64 * s + i)).toInt) d + (if (M.1 181 (64 * s + d)).toInt < -32768 ∨ 32767 < (M.1 181 (64 * s + d)).toInt then 1 else 0) := rfl
                   rw [lg_cmp_lt, Int64.lt_iff_toInt_lt, cX, show (-32768 : Int64).toInt = -32768 from by decide] at h161
                   try rw [lg_cmp_le, Int64.le_iff_toInt_le, cX, show (32767 : Int64).toInt = 32767 from by decide] at h170
                   rw [b3]
                   first
                   | (rw [if_neg (by omega)]; exact hacc)
                   | (rw [if_pos (by omega), zn_ladd] <;> rw [hacc, show (1 : Int64).toInt = 1 from by decide] <;> omega))
          refine zr_iload hx hb kd_Mo_meter_79 hl rfl ?_
          refine zr_aload_n hx hb kd_Mo_meter_81 hl rfl ?_
          refine zr_geti hS hK kf_Mo_197 hI ha_MO hs_MO kd_Mo_meter_82 ?_
          rw [zm_ui_ne (Or.inr (by decide)), hbs]
          refine lv_icmp_ge (tgt := 187) hx hb kd_Mo_meter_85 (by decide) (fun h85 => absurd h85 (nI_ge (by omega) (by omega))) (fun h85 => ?_)
          refine zr_aload_n hx hb kd_Mo_meter_88 hl rfl ?_
          refine zr_getr hS hK kf_Mo_98 hI ha_MO hs_MO (show _ = some 181 from zL_mo hL (k := 30) (by decide) (by decide)) kd_Mo_meter_89 ?_
          refine lv_bipush (v := 64) hx hb kd_Mo_meter_92 (by decide) ?_
          refine zr_iload_n hx hb kd_Mo_meter_94 hl rfl ?_
          refine lv_imul hx hb kd_Mo_meter_95 ?_
          refine zr_iload hx hb kd_Mo_meter_96 hl rfl ?_
          refine lv_iadd hx hb kd_Mo_meter_98 ?_
          rw [ix]
          refine zr_iald hS hK hI ha_MO_30 hs_MO_30 (vp_in_nI (by omega) (by decide)) kd_Mo_meter_99 ?_
          rw [cx, e1 181 _ (by decide)]
          refine lv_i2l hx hb kd_Mo_meter_100 rfl ?_
          refine zr_lstore hx hb kd_Mo_meter_101 hl (by decide) rfl (fun ls hl => ?_)
          refine zr_lload hx hb kd_Mo_meter_103 hl rfl ?_
          refine lv_lconst (v := 0) hx hb kd_Mo_meter_105 (by decide) ?_
          refine W.lcmp hx hb kd_Mo_meter_106 ?_
          refine lv_if_ge (tgt := 116) hx hb kd_Mo_meter_107 (by decide) (fun h107 => ?_) (fun h107 => ?_)
          · skip
            refine zr_lload hx hb kd_Mo_meter_116 hl rfl ?_
            refine zr_lstore hx hb kd_Mo_meter_118 hl (by decide) rfl (fun ls hl => ?_)
            refine size _ H locs _ ?_ hl hI
            rw [lg_cmp_ge, Int64.le_iff_toInt_le, cX, c0'] at h107
            unfold ze_abs
            first
            | (rw [if_neg (by omega)]; exact cX)
            | (rw [if_pos (by omega), zn_lneg (by rw [cX]; omega), cX])
          · skip
            refine zr_lload hx hb kd_Mo_meter_110 hl rfl ?_
            refine lv_lneg hx hb kd_Mo_meter_112 ?_
            refine lv_goto (tgt := 118) hx hb kd_Mo_meter_113 (by decide) ?_
            refine zr_lstore hx hb kd_Mo_meter_118 hl (by decide) rfl (fun ls hl => ?_)
            refine size _ H locs _ ?_ hl hI
            rw [lg_cmp_ge, Int64.le_iff_toInt_le, cX, c0'] at h107
            unfold ze_abs
            first
            | (rw [if_neg (by omega)]; exact cX)
            | (rw [if_pos (by omega), zn_lneg (by rw [cX]; omega), cX])
      refine zr_puti hS hK kf_Mo_101 hI ha_MO hs_MO rfl rfl kd_Mo_meter_22 (fun H locs hI => ?_)
      refine zr_aload_n hx hb kd_Mo_meter_25 hl rfl ?_
      refine zr_geti hS hK kf_Mo_101 hI ha_MO hs_MO kd_Mo_meter_26 ?_
      refine lv_if_le (tgt := 34) hx hb kd_Mo_meter_29 (by decide) (fun h29 => ?_) (fun h29 => absurd ((by rw [zm_ui_at]; decide)) h29)
      refine zr_iload_n hx hb kd_Mo_meter_34 hl rfl ?_
      refine lv_iconst (v := 3) hx hb kd_Mo_meter_35 (by decide) ?_
      refine lv_icmp_ne (tgt := 51) hx hb kd_Mo_meter_36 (by decide) (fun h36 => ?_) (fun h36 => ?_)
      · skip
        refine zr_iload_n hx hb kd_Mo_meter_51 hl rfl ?_
        refine lv_iconst (v := 4) hx hb kd_Mo_meter_52 (by decide) ?_
        refine lv_icmp_ne (tgt := 74) hx hb kd_Mo_meter_53 (by decide) (fun h53 => ?_) (fun h53 => ?_)
        · skip
          refine lv_lconst (v := 0) hx hb kd_Mo_meter_74 (by decide) ?_
          refine zr_lstore_n hx hb kd_Mo_meter_75 hl (by decide) rfl (fun ls hl => ?_)
          refine lv_iconst (v := 0) hx hb kd_Mo_meter_76 (by decide) ?_
          refine zr_istore hx hb kd_Mo_meter_77 hl (by decide) rfl (fun ls hl => ?_)
          refine loop n 0 _ _ _ _ _ _ h36 h53 (by omega) ?_ hl hI
          unfold zg_acc
          (repeat' split)
          · exact ze_max_0 _
          · rfl
          · rfl
        · skip
          refine zr_aload_n hx hb kd_Mo_meter_56 hl rfl ?_
          refine zr_cv (zr_runV hS hK (c_Mo_findReach l G (zm_ui M 151 0 0) hL) km_Mo_137 hI ha_MO hs_MO rfl hl.1 (Nat.le_of_ble_eq_true rfl) (by decide) (by decide) kd_Mo_meter_57 rfl) hI (fun M57 H locs hp57 hI => ?_)
          obtain ⟨u1, u2⟩ := hp57
          rw [hfd1] at u2
          have hL2 : zL M57.2 := by rw [u1.1]; exact hL
          have hH : zg_H M57 (gq_T (zgf M)) s ↔ zg_H M (gq_T (zgf M)) s := by
            have k3 : ∀ j, M57.1 173 j = M.1 173 j := fun j => by rw [u1.2 _ _ (by decide), e1 _ _ (by decide)]
            have k4 : ∀ j, M57.1 174 j = M.1 174 j := fun j => by rw [u1.2 _ _ (by decide), e1 _ _ (by decide)]
            unfold zg_H
            simp only [k3, k4]
          have hhd := c_Mo_isHeard l G M57 hL2 (gq_T (zgf M)) s hs8 u2
          rw [← es] at hhd
          refine zr_aload_n hx hb kd_Mo_meter_60 hl rfl ?_
          refine zr_iload_n hx hb kd_Mo_meter_61 hl rfl ?_
          refine zr_ci (zr_runV hS hK (hhd) km_Mo_182 hI ha_MO hs_MO rfl hl.1 (Nat.le_of_ble_eq_true rfl) (by decide) (by decide) kd_Mo_meter_62 rfl) hI (fun r62 M62 H locs hp62 hI => ?_)
          obtain ⟨hr62, hM62⟩ := hp62
          rw [hM62] at hI
          refine lv_if_eq (tgt := 72) hx hb kd_Mo_meter_65 (by decide) (fun h65 => ?_) (fun h65 => ?_)
          · skip
            refine lv_lconst (v := 0) hx hb kd_Mo_meter_72 (by decide) ?_
            exact zr_lret hS hK hlk hr hI kd_Mo_meter_73 (Or.inr ⟨hv.symm, s, hs8, es, Or.inr (Or.inl ⟨h53, u1, u2, by
                first
                | exact Or.inl ⟨rfl, hH.mp (zt_is_t hr62 h65)⟩
                | exact Or.inr ⟨rfl, fun g => zt_is_f hr62 h65 (hH.mpr g)⟩⟩)⟩)
          · skip
            refine lv_lconst (v := 1) hx hb kd_Mo_meter_68 (by decide) ?_
            refine lv_goto (tgt := 73) hx hb kd_Mo_meter_69 (by decide) ?_
            exact zr_lret hS hK hlk hr hI kd_Mo_meter_73 (Or.inr ⟨hv.symm, s, hs8, es, Or.inr (Or.inl ⟨h53, u1, u2, by
                first
                | exact Or.inl ⟨rfl, hH.mp (zt_is_t hr62 h65)⟩
                | exact Or.inr ⟨rfl, fun g => zt_is_f hr62 h65 (hH.mpr g)⟩⟩)⟩)
      · skip
        refine zr_aload_n hx hb kd_Mo_meter_39 hl rfl ?_
        refine zr_cv (zr_runV hS hK (c_Mo_findDelays l G (zm_ui M 151 0 0) hL (by rw [hfd1]; exact hno) hq1) km_Mo_188 hI ha_MO hs_MO rfl hl.1 (Nat.le_of_ble_eq_true rfl) (by decide) (by decide) kd_Mo_meter_40 rfl) hI (fun M40 H locs hp40 hI => ?_)
        obtain ⟨u1, u2⟩ := hp40
        rw [hfd1, hown1] at u2
        have hL2 : zL M40.2 := by rw [u1.1]; exact hL
        refine zr_aload_n hx hb kd_Mo_meter_43 hl rfl ?_
        refine zr_getr hS hK kf_Mo_83 hI ha_MO hs_MO (show _ = some 176 from zL_mo hL2 (k := 25) (by decide) (by decide)) kd_Mo_meter_44 ?_
        refine zr_iload_n hx hb kd_Mo_meter_47 hl rfl ?_
        refine zr_iald hS hK hI ha_MO_25 hs_MO_25 hsv kd_Mo_meter_48 ?_
        refine lv_i2l hx hb kd_Mo_meter_49 rfl ?_
        exact zr_lret hS hK hlk hr hI kd_Mo_meter_50 (Or.inr ⟨hv.symm, s, hs8, es, Or.inl ⟨h36, u1, fun u hu => (u2 u hu).1, by rw [Int32.toInt_toInt64, cs]⟩⟩)
    · refine zr_puti hS hK kf_Mo_101 hI ha_MO hs_MO rfl rfl kd_Mo_meter_22 (fun H locs hI => ?_)
      refine zr_aload_n hx hb kd_Mo_meter_25 hl rfl ?_
      refine zr_geti hS hK kf_Mo_101 hI ha_MO hs_MO kd_Mo_meter_26 ?_
      refine lv_if_le (tgt := 34) hx hb kd_Mo_meter_29 (by decide) (fun h29 => absurd h29 ((by rw [zm_ui_at]; decide))) (fun h29 => ?_)
      refine lv_lconst (v := 0) hx hb kd_Mo_meter_32 (by decide) ?_
      exact zr_lret hS hK hlk hr hI kd_Mo_meter_33 (Or.inl ⟨hv.symm, rfl⟩)
  refine zr_aload_n hx hb kd_Mo_meter_0 hl rfl ?_
  refine zr_iload_n hx hb kd_Mo_meter_1 hl rfl ?_
  refine zr_ci (zr_runS hS hK (c_Mo_noStrip l G 183 zs M _) km_Mo_141 hI rfl hl.1 (Nat.le_of_ble_eq_true rfl) (by decide) (by decide) kd_Mo_meter_2 rfl) hI (fun r2 M2 H locs hp2 hI => ?_)
  obtain ⟨rfl, hM2⟩ := hp2
  rw [hM2] at hI
  refine lv_if_ne (tgt := 17) hx hb kd_Mo_meter_5 (by decide) (fun h5 => ?_) (fun h5 => ?_)
  · skip
    refine lv_iconst (v := 1) hx hb kd_Mo_meter_17 (by decide) ?_
    refine lv_goto (tgt := 22) hx hb kd_Mo_meter_18 (by decide) ?_
    refine rest _ _ _ _ ?_ hl hI
    unfold zv_trn
    first
    | (rw [if_neg (zv_01 h5), if_neg (fun g => (zv_in0.mp g).elim h9 (Int32.not_lt.mpr h14))]; done)
    | (rw [if_neg (zv_01 h5), if_pos (zv_in0.mpr (Or.inr (Int32.not_le.mp h14)))]; done)
    | (rw [if_neg (zv_01 h5), if_pos (zv_in0.mpr (Or.inl h9))]; done)
    | (rw [if_pos (zv_10 h5)]; done)
  · skip
    refine zr_iload_n hx hb kd_Mo_meter_8 hl rfl ?_
    refine lv_if_lt (tgt := 17) hx hb kd_Mo_meter_9 (by decide) (fun h9 => ?_) (fun h9 => ?_)
    · skip
      refine lv_iconst (v := 1) hx hb kd_Mo_meter_17 (by decide) ?_
      refine lv_goto (tgt := 22) hx hb kd_Mo_meter_18 (by decide) ?_
      refine rest _ _ _ _ ?_ hl hI
      unfold zv_trn
      first
      | (rw [if_neg (zv_01 h5), if_neg (fun g => (zv_in0.mp g).elim h9 (Int32.not_lt.mpr h14))]; done)
      | (rw [if_neg (zv_01 h5), if_pos (zv_in0.mpr (Or.inr (Int32.not_le.mp h14)))]; done)
      | (rw [if_neg (zv_01 h5), if_pos (zv_in0.mpr (Or.inl h9))]; done)
      | (rw [if_pos (zv_10 h5)]; done)
    · skip
      refine zr_iload_n hx hb kd_Mo_meter_12 hl rfl ?_
      refine lv_iconst (v := 4) hx hb kd_Mo_meter_13 (by decide) ?_
      refine lv_icmp_le (tgt := 21) hx hb kd_Mo_meter_14 (by decide) (fun h14 => ?_) (fun h14 => ?_)
      · skip
        refine lv_iconst (v := 0) hx hb kd_Mo_meter_21 (by decide) ?_
        refine rest _ _ _ _ ?_ hl hI
        unfold zv_trn
        first
        | (rw [if_neg (zv_01 h5), if_neg (fun g => (zv_in0.mp g).elim h9 (Int32.not_lt.mpr h14))]; done)
        | (rw [if_neg (zv_01 h5), if_pos (zv_in0.mpr (Or.inr (Int32.not_le.mp h14)))]; done)
        | (rw [if_neg (zv_01 h5), if_pos (zv_in0.mpr (Or.inl h9))]; done)
        | (rw [if_pos (zv_10 h5)]; done)
      · skip
        refine lv_iconst (v := 1) hx hb kd_Mo_meter_17 (by decide) ?_
        refine lv_goto (tgt := 22) hx hb kd_Mo_meter_18 (by decide) ?_
        refine rest _ _ _ _ ?_ hl hI
        unfold zv_trn
        first
        | (rw [if_neg (zv_01 h5), if_neg (fun g => (zv_in0.mp g).elim h9 (Int32.not_lt.mpr h14))]; done)
        | (rw [if_neg (zv_01 h5), if_pos (zv_in0.mpr (Or.inr (Int32.not_le.mp h14)))]; done)
        | (rw [if_neg (zv_01 h5), if_pos (zv_in0.mpr (Or.inl h9))]; done)
        | (rw [if_pos (zv_10 h5)]; done)

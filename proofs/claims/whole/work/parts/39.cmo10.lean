/-! The reference: what comes into a bus. -/
/-- strip a's sample for strip s at time t; dl: what comes in is so late -/
def zg_x (M : zm_T) (dl : Int) (a t : Nat) : Int := if dl - (M.1 176 a).toInt ≤ t then (M.1 178 (1024 * a + (t - (dl - (M.1 176 a).toInt).toNat))).toInt else 0
def zg_sum (M : zm_T) (s : Nat) (dl : Int) : Nat → Nat → Int
  | 0, _ => 0
  | a + 1, t => zg_sum M s dl a t + (if M.1 163 a = nI s then zg_x M dl a t else 0) + (if s < 7 then (if M.1 164 (3 * a + s - 4) ≤ 0 then 0 else zg_x M dl a t * (M.1 164 (3 * a + s - 4)).toInt / 256) else 0)
/-- strip s may be mixed -/
def zg_ok (M : zm_T) (s e : Nat) : Prop := (∀ a, a < 8 → 0 ≤ (M.1 176 a).toInt ∧ (M.1 176 a).toInt ≤ 384) ∧ (∀ j, j < 24 → 0 ≤ (M.1 164 j).toInt ∧ (M.1 164 j).toInt ≤ 1024) ∧ ∀ a, zgf M a s → ∀ j, j < e → -16777216 ≤ (M.1 178 (1024 * a + j)).toInt ∧ (M.1 178 (1024 * a + j)).toInt ≤ 16777216
theorem zg_x_b {M : zm_T} {s e a t : Nat} {dl : Int} (hok : zg_ok M s e) (hf : zgf M a s) (ht : t < e) : -16777216 ≤ zg_x M dl a t ∧ zg_x M dl a t ≤ 16777216 := by
  unfold zg_x
  split
  · exact hok.2.2 a hf _ (by omega)
  · omega
theorem zg_sum_b {M : zm_T} {s e t : Nat} {dl : Int} (hs4 : 4 ≤ s) (hs : s < 8) (hok : zg_ok M s e) (ht : t < e) : ∀ n : Nat, n ≤ 7 → -(83886080 * (n : Int)) ≤ zg_sum M s dl n t ∧ zg_sum M s dl n t ≤ 83886080 * (n : Int)
  | 0, _ => by unfold zg_sum; omega
  | n + 1, hn => by
    have ih := zg_sum_b (dl := dl) hs4 hs hok ht n (by omega)
    have b1 : -16777216 ≤ (if M.1 163 n = nI s then zg_x M dl n t else 0) ∧ (if M.1 163 n = nI s then zg_x M dl n t else 0) ≤ 16777216 := by
      split
      · rename_i h
        exact zg_x_b hok ⟨by omega, hs, Or.inl h⟩ ht
      · omega
    have b2 : -67108864 ≤ (if s < 7 then (if M.1 164 (3 * n + s - 4) ≤ 0 then 0 else zg_x M dl n t * (M.1 164 (3 * n + s - 4)).toInt / 256) else 0) ∧ (if s < 7 then (if M.1 164 (3 * n + s - 4) ≤ 0 then 0 else zg_x M dl n t * (M.1 164 (3 * n + s - 4)).toInt / 256) else 0) ≤ 67108864 := by
      split
      · rename_i h7
        split
        · omega
        · rename_i h0
          have hx := zg_x_b (dl := dl) hok ⟨show n < 8 by omega, hs, Or.inr ⟨by omega, by omega, h7, h0⟩⟩ ht
          have hl := hok.2.1 (3 * n + s - 4) (by omega)
          have := zn_abs_mul (a := 16777216) (b := 1024) (by omega) hx.2 hl.1 hl.2
          omega
      · omega
    unfold zg_sum
    omega
set_option maxRecDepth 100000 in
set_option maxHeartbeats 4000000 in
theorem c_Mo_mixIn (l : Launch) (G : zg_T) (M : zm_T) (hL : zL M.2) (s e : Nat) (hs4 : 4 ≤ s) (hs : s < 8) (he : e ≤ 1024) (hok : zg_ok M s e) : Met l ky_Mo_mixIn (zr_ws ky_Mo_mixIn kc_Mo_mixIn 11 none) (zr_rm 2) (va_Pc [.ref (G.2.2.1 + 151), .int (nI s), .int (nI e)] (zm_B G 183 zs M)) (va_Qv (fun (M' : zm_T) => zm_only M M' 179 ∧ ∃ dl, zg_di M s 8 dl ∧ ∀ t, t < e → (M'.1 179 t).toInt = zi_cut (zg_sum M s dl 7 t)) (zm_B G 183 zs) (zm_A G)) 0 0 (zm_A G) := by
  refine zr_met (by decide +kernel) (Nat.le_of_ble_eq_true rfl) ?_
  intro p0 e0 s0 m0 below meth c0 ls hS hK hlk hr hl hI
  have hx := hS.1
  have hb := hS.2.1
  have hl : zl_has ls 11 [some (.ref (G.2.2.1 + 151)), some (.int (nI s)), some (.int (nI e)), none, none, none, none, none, none, none, none] := hl
  have loop : ∀ (dl : Int32), zg_di M s 8 dl.toInt → ∀ (k t : Nat) (M1 : zm_T) (o5 o6 o7 o8 o9 o10 : Option Value) (H : Heap) (locs : List Loc) (ls : Array Slot), t + k = e → zm_only M M1 179 → (∀ j, j < t → (M1.1 179 j).toInt = zi_cut (zg_sum M s dl.toInt 7 j)) → zl_has ls 11 [some (.ref (G.2.2.1 + 151)), some (.int (nI s)), some (.int (nI e)), some (.int dl), some (.int (nI t)), o5, o6, o7, o8, o9, o10] → zl_ok [some (.ref (G.2.2.1 + 151)), some (.int (nI s)), some (.int (nI e)), some (.int dl), some (.int (nI t)), o5, o6, o7, o8, o9, o10] 5 = true → zm_I G 183 zs M1 s0 H locs → W p0 l e0 (zr_rm 2) s0 m0 ([.ref (G.2.2.1 + 151), .int (nI s), .int (nI e)] : List Value).toArray below meth c0 H locs 0 0 (MQ below (va_Qv (fun (M' : zm_T) => zm_only M M' 179 ∧ ∃ dl, zg_di M s 8 dl ∧ ∀ t, t < e → (M'.1 179 t).toInt = zi_cut (zg_sum M s dl 7 t)) (zm_B G 183 zs) (zm_A G)) ([.ref (G.2.2.1 + 151), .int (nI s), .int (nI e)] : List Value).toArray s0 0 0 (zm_A G)) (F0 m0 9 ls []) := by
    intro dl hdl k
    have hdb : 0 ≤ dl.toInt ∧ dl.toInt ≤ 384 := by
      refine ⟨hdl.1, ?_⟩
      rcases hdl.2.2 with h | ⟨a, ha, -, h⟩
      · omega
      · have := hok.1 a ha; omega
    induction k with
    | zero =>
      intro t M1 o5 o6 o7 o8 o9 o10 H locs ls hk ho hv hl hlo hI
      obtain rfl : t = e := by omega
      refine zr_iload hx hb kd_Mo_mixIn_9 hl rfl ?_
      refine zr_iload_n hx hb kd_Mo_mixIn_11 hl rfl ?_
      refine lv_icmp_ge (tgt := 160) hx hb kd_Mo_mixIn_12 (by decide) (fun h12 => ?_) (fun h12 => absurd (Int32.le_refl _) h12)
      exact zr_vret hS hK hlk hr hI kd_Mo_mixIn_160 (⟨ho, dl.toInt, hdl, hv⟩)
    | succ k ih =>
      intro t M1 o5 o6 o7 o8 o9 o10 H locs ls hk ho hv hl hlo hI
      have et : (nI t).toNatClampNeg = t := zn_cl (by omega)
      have hti : (nI t).toInt = t := nI_toInt (by omega)
      have hL1 : zL M1.2 := by rw [ho.1]; exact hL
      have hfd : zgf M1 = zgf M := zgf_c (fun j => ho.2 _ _ (by decide)) (fun j => ho.2 _ _ (by decide))
      have inner : ∀ (q a : Nat) (sm : Int64) (o8 o9 o10 : Option Value) (H : Heap) (locs : List Loc) (ls : Array Slot), a + q = 7 → sm.toInt = zg_sum M s dl.toInt a t → zl_has ls 11 [some (.ref (G.2.2.1 + 151)), some (.int (nI s)), some (.int (nI e)), some (.int dl), some (.int (nI t)), some (.long sm), none, some (.int (nI a)), o8, o9, o10] → zm_I G 183 zs M1 s0 H locs → W p0 l e0 (zr_rm 2) s0 m0 ([.ref (G.2.2.1 + 151), .int (nI s), .int (nI e)] : List Value).toArray below meth c0 H locs 0 0 (MQ below (va_Qv (fun (M' : zm_T) => zm_only M M' 179 ∧ ∃ dl, zg_di M s 8 dl ∧ ∀ t, t < e → (M'.1 179 t).toInt = zi_cut (zg_sum M s dl 7 t)) (zm_B G 183 zs) (zm_A G)) ([.ref (G.2.2.1 + 151), .int (nI s), .int (nI e)] : List Value).toArray s0 0 0 (zm_A G)) (F0 m0 21 ls []) := by
        intro q
        induction q with
        | zero =>
          intro a sm o8 o9 o10 H locs ls hq hsm hl hI
          obtain rfl : a = 7 := by omega
          refine zr_iload hx hb kd_Mo_mixIn_21 hl rfl ?_
          refine lv_bipush (v := 7) hx hb kd_Mo_mixIn_23 (by decide) ?_
          refine lv_icmp_ge (tgt := 142) hx hb kd_Mo_mixIn_25 (by decide) (fun h25 => ?_) (fun h25 => absurd (by decide) h25)
          refine zr_aload_n hx hb kd_Mo_mixIn_142 hl rfl ?_
          refine zr_getr hS hK kf_Mo_92 hI ha_MO hs_MO (show _ = some 179 from zL_mo hL1 (k := 28) (by decide) (by decide)) kd_Mo_mixIn_143 ?_
          refine zr_iload hx hb kd_Mo_mixIn_146 hl rfl ?_
          refine zr_lload hx hb kd_Mo_mixIn_148 hl rfl ?_
          refine zr_ci (zr_runS hS hK (c_Mo_cut l G 183 zs _ _) km_Mo_159 hI rfl hl.1 (Nat.le_of_ble_eq_true rfl) (by decide) (by decide) kd_Mo_mixIn_150 rfl) hI (fun r150 M150 H locs hp150 hI => ?_)
          obtain ⟨hr150, hM150⟩ := hp150
          rw [hM150] at hI
          refine zr_iast hS hK hI ha_MO_28 hs_MO_28 (vp_in_nI (by omega) (by decide)) kd_Mo_mixIn_153 (fun H locs hI => ?_)
          refine zr_iinc hx hb kd_Mo_mixIn_154 hl (by decide) rfl rfl (fun ls hl => ?_)
          refine lv_goto (tgt := 9) hx hb kd_Mo_mixIn_157 (by decide) ?_
          rw [et] at hI
          refine ih (t + 1) _ _ _ _ _ _ _ H locs ls (by omega) (zm_only_u ho) (fun j hj => ?_) (by rw [nI_succ]; exact hl) rfl hI
          by_cases e : j = t
          · subst e; rw [zm_ui_at, hr150, hsm]
          · rw [zm_ui_ne (Or.inr e)]; exact hv j (by omega)
        | succ q ihq =>
          intro a sm o8 o9 o10 H locs ls hq hsm hl hI
          have ea : (nI a).toNatClampNeg = a := zn_cl (by omega)
          have d6 : M1.1 176 a = M.1 176 a := ho.2 _ _ (by decide)
          have hda := hok.1 a (by omega)
          have hat : (nI t - dl + M.1 176 a).toInt = (t : Int) - dl.toInt + (M.1 176 a).toInt := by
            have e1 : (nI t - dl).toInt = (t : Int) - dl.toInt := by rw [zn_sub] <;> rw [hti] <;> omega
            rw [zn_add] <;> rw [e1] <;> omega
          -- with a's sample x, the sum goes on
          have third : ∀ (x : Int64) (o8 : Option Value) (H : Heap) (locs : List Loc) (ls : Array Slot), (zgf M a s → x.toInt = zg_x M dl.toInt a t) → (¬ zgf M a s → x.toInt = 0) → zl_has ls 11 [some (.ref (G.2.2.1 + 151)), some (.int (nI s)), some (.int (nI e)), some (.int dl), some (.int (nI t)), some (.long sm), none, some (.int (nI a)), o8, some (.long x), none] → zm_I G 183 zs M1 s0 H locs → W p0 l e0 (zr_rm 2) s0 m0 ([.ref (G.2.2.1 + 151), .int (nI s), .int (nI e)] : List Value).toArray below meth c0 H locs 0 0 (MQ below (va_Qv (fun (M' : zm_T) => zm_only M M' 179 ∧ ∃ dl, zg_di M s 8 dl ∧ ∀ t, t < e → (M'.1 179 t).toInt = zi_cut (zg_sum M s dl 7 t)) (zm_B G 183 zs) (zm_A G)) ([.ref (G.2.2.1 + 151), .int (nI s), .int (nI e)] : List Value).toArray s0 0 0 (zm_A G)) (F0 m0 78 ls []) := by
            intro x o8 H locs ls hx1 hx2 hl hI
            have hxb : -16777216 ≤ x.toInt ∧ x.toInt ≤ 16777216 := by
              by_cases hf : zgf M a s
              · rw [hx1 hf]; exact zg_x_b hok hf (by omega)
              · rw [hx2 hf]; omega
            have hsb := zg_sum_b (dl := dl.toInt) hs4 hs hok (show t < e by omega) a (by omega)
            have d3 : M1.1 163 a = M.1 163 a := ho.2 _ _ (by decide)
            have d4 : ∀ j, M1.1 164 j = M.1 164 j := fun j => ho.2 _ _ (by decide)
            have fourth : ∀ (sm2 : Int64) (H : Heap) (locs : List Loc) (ls : Array Slot), sm2.toInt = zg_sum M s dl.toInt a t + (if M.1 163 a = nI s then zg_x M dl.toInt a t else 0) → zl_has ls 11 [some (.ref (G.2.2.1 + 151)), some (.int (nI s)), some (.int (nI e)), some (.int dl), some (.int (nI t)), some (.long sm2), none, some (.int (nI a)), o8, some (.long x), none] → zm_I G 183 zs M1 s0 H locs → W p0 l e0 (zr_rm 2) s0 m0 ([.ref (G.2.2.1 + 151), .int (nI s), .int (nI e)] : List Value).toArray below meth c0 H locs 0 0 (MQ below (va_Qv (fun (M' : zm_T) => zm_only M M' 179 ∧ ∃ dl, zg_di M s 8 dl ∧ ∀ t, t < e → (M'.1 179 t).toInt = zi_cut (zg_sum M s dl 7 t)) (zm_B G 183 zs) (zm_A G)) ([.ref (G.2.2.1 + 151), .int (nI s), .int (nI e)] : List Value).toArray s0 0 0 (zm_A G)) (F0 m0 101 ls []) := by
              intro sm2 H locs ls hsm2 hl hI
              have hb2 : -(83886080 * (a : Int)) - 16777216 ≤ sm2.toInt ∧ sm2.toInt ≤ 83886080 * (a : Int) + 16777216 := by
                rw [hsm2]
                split
                · rename_i h
                  have := zg_x_b (dl := dl.toInt) hok ⟨show a < 8 by omega, hs, Or.inl h⟩ (show t < e by omega)
                  omega
                · omega
              have e4 : (3 : Int32) * nI a + nI s - 4 = nI (3 * a + s - 4) := by rw [show (3 : Int32) = nI 3 from rfl, show (4 : Int32) = nI 4 from rfl, zn_mulI, nI_add, pk_sub (by omega)]
              have s7 : ¬ (7 : Int32) ≤ nI s → s < 7 := fun h => Nat.lt_of_not_le (fun g => h (zn_le (n := 7) rfl g (by omega)))
              have s7' : (7 : Int32) ≤ nI s → ¬ s < 7 := fun h g => zn_ge (n := 7) rfl g (by decide) h
              refine zr_iload_n hx hb kd_Mo_mixIn_101 hl rfl ?_
              refine lv_bipush (v := 7) hx hb kd_Mo_mixIn_102 (by decide) ?_
              refine lv_icmp_ge (tgt := 132) hx hb kd_Mo_mixIn_104 (by decide) (fun h104 => ?_) (fun h104 => ?_)
              · skip
                refine zr_lload hx hb kd_Mo_mixIn_132 hl rfl ?_
                refine zr_lstore hx hb kd_Mo_mixIn_134 hl (by decide) rfl (fun ls hl => ?_)
                refine zr_iinc hx hb kd_Mo_mixIn_136 hl (by decide) rfl rfl (fun ls hl => ?_)
                refine lv_goto (tgt := 21) hx hb kd_Mo_mixIn_139 (by decide) ?_
                refine ihq (a + 1) _ _ _ _ H locs ls (by omega) ?_ (by rw [nI_succ]; exact hl) hI
                rw [zg_sum]
                first
                | (rw [if_neg (s7' h104), Int.add_zero]; exact hsm2)
                | (rw [if_pos q7]
                   have hm := zn_abs_mul (a := 16777216) (b := 1024) (by omega) hxb.2 hlv.1 hlv.2
                   have e5 : (sm2 + r125).toInt = sm2.toInt + r125.toInt := zn_ladd (by omega) (by omega)
                   rw [e5, hsm2, hr125]
                   by_cases h0 : M.1 164 (3 * a + s - 4) ≤ 0
                   · rw [if_pos h0]
                     rw [Int32.le_iff_toInt_le, zn_0] at h0
                     rw [show (M.1 164 (3 * a + s - 4)).toInt = 0 by omega, Int.mul_zero, Int.zero_ediv]
                   · rw [if_neg h0, hx1 ⟨by omega, hs, Or.inr ⟨by omega, by omega, q7, h0⟩⟩])
              · skip
                refine zr_lload hx hb kd_Mo_mixIn_107 hl rfl ?_
                refine zr_lload hx hb kd_Mo_mixIn_109 hl rfl ?_
                refine zr_aload_n hx hb kd_Mo_mixIn_111 hl rfl ?_
                refine zr_getr hS hK kf_Mo_47 hI ha_MO hs_MO (show _ = some 164 from zL_mo hL1 (k := 13) (by decide) (by decide)) kd_Mo_mixIn_112 ?_
                refine lv_iconst (v := 3) hx hb kd_Mo_mixIn_115 (by decide) ?_
                refine zr_iload hx hb kd_Mo_mixIn_116 hl rfl ?_
                refine lv_imul hx hb kd_Mo_mixIn_118 ?_
                refine zr_iload_n hx hb kd_Mo_mixIn_119 hl rfl ?_
                refine lv_iadd hx hb kd_Mo_mixIn_120 ?_
                refine lv_iconst (v := 4) hx hb kd_Mo_mixIn_121 (by decide) ?_
                refine lv_isub hx hb kd_Mo_mixIn_122 ?_
                rw [e4]
                refine zr_iald hS hK hI ha_MO_13 hs_MO_13 (vp_in_nI (by omega) (by decide)) kd_Mo_mixIn_123 ?_
                refine lv_i2l hx hb kd_Mo_mixIn_124 rfl ?_
                have q7 := s7 h104
                have c4 : (nI (3 * a + s - 4)).toNatClampNeg = 3 * a + s - 4 := zn_cl (by omega)
                have hlv := hok.2.1 (3 * a + s - 4) (by omega)
                rw [c4, d4]
                have cl : (M.1 164 (3 * a + s - 4)).toInt64.toInt = (M.1 164 (3 * a + s - 4)).toInt := Int32.toInt_toInt64 _
                refine zr_cl (zr_runS hS hK (c_Mo_by l G 183 zs _ _ _ (by omega) (by omega) (by omega) (by omega)) km_Mo_148 hI rfl hl.1 (Nat.le_of_ble_eq_true rfl) (by decide) (by decide) kd_Mo_mixIn_125 rfl) hI (fun r125 M125 H locs hp125 hI => ?_)
                obtain ⟨hr125, hM125⟩ := hp125
                rw [hM125] at hI
                rw [cl] at hr125
                refine lv_ladd hx hb kd_Mo_mixIn_128 ?_
                refine lv_goto (tgt := 134) hx hb kd_Mo_mixIn_129 (by decide) ?_
                refine zr_lstore hx hb kd_Mo_mixIn_134 hl (by decide) rfl (fun ls hl => ?_)
                refine zr_iinc hx hb kd_Mo_mixIn_136 hl (by decide) rfl rfl (fun ls hl => ?_)
                refine lv_goto (tgt := 21) hx hb kd_Mo_mixIn_139 (by decide) ?_
                refine ihq (a + 1) _ _ _ _ H locs ls (by omega) ?_ (by rw [nI_succ]; exact hl) hI
                rw [zg_sum]
                first
                | (rw [if_neg (s7' h104), Int.add_zero]; exact hsm2)
                | (rw [if_pos q7]
                   have hm := zn_abs_mul (a := 16777216) (b := 1024) (by omega) hxb.2 hlv.1 hlv.2
                   have e5 : (sm2 + r125).toInt = sm2.toInt + r125.toInt := zn_ladd (by omega) (by omega)
                   rw [e5, hsm2, hr125]
                   by_cases h0 : M.1 164 (3 * a + s - 4) ≤ 0
                   · rw [if_pos h0]
                     rw [Int32.le_iff_toInt_le, zn_0] at h0
                     rw [show (M.1 164 (3 * a + s - 4)).toInt = 0 by omega, Int.mul_zero, Int.zero_ediv]
                   · rw [if_neg h0, hx1 ⟨by omega, hs, Or.inr ⟨by omega, by omega, q7, h0⟩⟩])
            refine zr_aload_n hx hb kd_Mo_mixIn_78 hl rfl ?_
            refine zr_getr hS hK kf_Mo_44 hI ha_MO hs_MO (show _ = some 163 from zL_mo hL1 (k := 12) (by decide) (by decide)) kd_Mo_mixIn_79 ?_
            refine zr_iload hx hb kd_Mo_mixIn_82 hl rfl ?_
            refine zr_iald hS hK hI ha_MO_12 hs_MO_12 (vp_in_nI (by omega) (by decide)) kd_Mo_mixIn_84 ?_
            refine zr_iload_n hx hb kd_Mo_mixIn_85 hl rfl ?_
            rw [ea, d3]
            refine lv_icmp_ne (tgt := 97) hx hb kd_Mo_mixIn_86 (by decide) (fun h86 => ?_) (fun h86 => ?_)
            · skip
              refine zr_lload hx hb kd_Mo_mixIn_97 hl rfl ?_
              refine zr_lstore hx hb kd_Mo_mixIn_99 hl (by decide) rfl (fun ls hl => ?_)
              refine fourth _ H locs _ ?_ hl hI
              first
              | (rw [if_neg h86, Int.add_zero]; exact hsm)
              | (rw [if_pos h86, zn_ladd] <;> rw [hsm, hx1 ⟨by omega, hs, Or.inl h86⟩] <;> (have := zg_x_b (dl := dl.toInt) hok ⟨show a < 8 by omega, hs, Or.inl h86⟩ (show t < e by omega); omega))
            · skip
              refine zr_lload hx hb kd_Mo_mixIn_89 hl rfl ?_
              refine zr_lload hx hb kd_Mo_mixIn_91 hl rfl ?_
              refine lv_ladd hx hb kd_Mo_mixIn_93 ?_
              refine lv_goto (tgt := 99) hx hb kd_Mo_mixIn_94 (by decide) ?_
              refine zr_lstore hx hb kd_Mo_mixIn_99 hl (by decide) rfl (fun ls hl => ?_)
              refine fourth _ H locs _ ?_ hl hI
              first
              | (rw [if_neg h86, Int.add_zero]; exact hsm)
              | (rw [if_pos h86, zn_ladd] <;> rw [hsm, hx1 ⟨by omega, hs, Or.inl h86⟩] <;> (have := zg_x_b (dl := dl.toInt) hok ⟨show a < 8 by omega, hs, Or.inl h86⟩ (show t < e by omega); omega))
          refine zr_iload hx hb kd_Mo_mixIn_21 hl rfl ?_
          refine lv_bipush (v := 7) hx hb kd_Mo_mixIn_23 (by decide) ?_
          refine lv_icmp_ge (tgt := 142) hx hb kd_Mo_mixIn_25 (by decide) (fun h25 => absurd h25 (zn_ge (n := 7) rfl (by omega) (by decide))) (fun h25 => ?_)
          refine zr_iload hx hb kd_Mo_mixIn_28 hl rfl ?_
          refine zr_iload_n hx hb kd_Mo_mixIn_30 hl rfl ?_
          refine lv_isub hx hb kd_Mo_mixIn_31 ?_
          refine zr_aload_n hx hb kd_Mo_mixIn_32 hl rfl ?_
          refine zr_getr hS hK kf_Mo_83 hI ha_MO hs_MO (show _ = some 176 from zL_mo hL1 (k := 25) (by decide) (by decide)) kd_Mo_mixIn_33 ?_
          refine zr_iload hx hb kd_Mo_mixIn_36 hl rfl ?_
          refine zr_iald hS hK hI ha_MO_25 hs_MO_25 (vp_in_nI (by omega) (by decide)) kd_Mo_mixIn_38 ?_
          refine lv_iadd hx hb kd_Mo_mixIn_39 ?_
          rw [ea, d6]
          refine zr_istore hx hb kd_Mo_mixIn_40 hl (by decide) rfl (fun ls hl => ?_)
          refine zr_aload_n hx hb kd_Mo_mixIn_42 hl rfl ?_
          refine zr_iload hx hb kd_Mo_mixIn_43 hl rfl ?_
          refine zr_iload_n hx hb kd_Mo_mixIn_45 hl rfl ?_
          refine zr_ci (zr_runV hS hK (c_Mo_feeds l G M1 hL1 a s (by omega) hs) km_Mo_133 hI ha_MO hs_MO rfl hl.1 (Nat.le_of_ble_eq_true rfl) (by decide) (by decide) kd_Mo_mixIn_46 rfl) hI (fun r46 M46 H locs hp46 hI => ?_)
          obtain ⟨hf46, hM46⟩ := hp46
          rw [hM46] at hI
          rw [hfd] at hf46
          refine lv_if_eq (tgt := 75) hx hb kd_Mo_mixIn_49 (by decide) (fun h49 => ?_) (fun h49 => ?_)
          · skip
            refine lv_lconst (v := 0) hx hb kd_Mo_mixIn_75 (by decide) ?_
            refine zr_lstore hx hb kd_Mo_mixIn_76 hl (by decide) rfl (fun ls hl => ?_)
            first
            | exact third _ _ H locs _ (fun g => absurd g (zt_is_f hf46 h49)) (fun _ => rfl) hl hI
            | (refine third _ _ H locs _ (fun g => ?_) (fun g => absurd (zt_is_t hf46 h49) g) hl hI
               unfold zg_x
               first
               | (rw [if_pos (by omega)]; exact Int32.toInt_toInt64 _)
               | (rw [Int32.lt_iff_toInt_lt, zn_0, hat] at h54
                  rw [if_neg (by omega)]; rfl))
          · skip
            refine zr_iload hx hb kd_Mo_mixIn_52 hl rfl ?_
            refine lv_if_lt (tgt := 75) hx hb kd_Mo_mixIn_54 (by decide) (fun h54 => ?_) (fun h54 => ?_)
            · skip
              refine lv_lconst (v := 0) hx hb kd_Mo_mixIn_75 (by decide) ?_
              refine zr_lstore hx hb kd_Mo_mixIn_76 hl (by decide) rfl (fun ls hl => ?_)
              first
              | exact third _ _ H locs _ (fun g => absurd g (zt_is_f hf46 h49)) (fun _ => rfl) hl hI
              | (refine third _ _ H locs _ (fun g => ?_) (fun g => absurd (zt_is_t hf46 h49) g) hl hI
                 unfold zg_x
                 first
                 | (rw [if_pos (by omega)]; exact Int32.toInt_toInt64 _)
                 | (rw [Int32.lt_iff_toInt_lt, zn_0, hat] at h54
                    rw [if_neg (by omega)]; rfl))
            · skip
              refine zr_aload_n hx hb kd_Mo_mixIn_57 hl rfl ?_
              refine zr_getr hS hK kf_Mo_89 hI ha_MO hs_MO (show _ = some 178 from zL_mo hL1 (k := 27) (by decide) (by decide)) kd_Mo_mixIn_58 ?_
              refine lv_sipush (v := 1024) hx hb kd_Mo_mixIn_61 (by decide) ?_
              refine zr_iload hx hb kd_Mo_mixIn_64 hl rfl ?_
              refine lv_imul hx hb kd_Mo_mixIn_66 ?_
              refine zr_iload hx hb kd_Mo_mixIn_67 hl rfl ?_
              refine lv_iadd hx hb kd_Mo_mixIn_69 ?_
              have hfeed := zt_is_t hf46 h49
              have hdd := hdl.2.1 a (by omega) hfeed
              have h54' : ¬ (nI t - dl + M.1 176 a).toInt < 0 := fun g => h54 (by rw [Int32.lt_iff_toInt_lt, zn_0]; exact g)
              have e8 : nI t - dl + M.1 176 a = nI (t - (dl.toInt - (M.1 176 a).toInt).toNat) := Int32.toInt_inj.mp (by rw [hat, nI_toInt (by omega)]; omega)
              rw [e8, show (1024 : Int32) = nI 1024 from rfl, zn_mulI, nI_add]
              refine zr_iald hS hK hI ha_MO_27 hs_MO_27 (vp_in_nI (by omega) (by decide)) kd_Mo_mixIn_70 ?_
              rw [zn_cl (by omega), ho.2 178 _ (by decide)]
              refine lv_i2l hx hb kd_Mo_mixIn_71 rfl ?_
              refine lv_goto (tgt := 76) hx hb kd_Mo_mixIn_72 (by decide) ?_
              refine zr_lstore hx hb kd_Mo_mixIn_76 hl (by decide) rfl (fun ls hl => ?_)
              first
              | exact third _ _ H locs _ (fun g => absurd g (zt_is_f hf46 h49)) (fun _ => rfl) hl hI
              | (refine third _ _ H locs _ (fun g => ?_) (fun g => absurd (zt_is_t hf46 h49) g) hl hI
                 unfold zg_x
                 first
                 | (rw [if_pos (by omega)]; exact Int32.toInt_toInt64 _)
                 | (rw [Int32.lt_iff_toInt_lt, zn_0, hat] at h54
                    rw [if_neg (by omega)]; rfl))
      refine zr_iload hx hb kd_Mo_mixIn_9 hl rfl ?_
      refine zr_iload_n hx hb kd_Mo_mixIn_11 hl rfl ?_
      refine lv_icmp_ge (tgt := 160) hx hb kd_Mo_mixIn_12 (by decide) (fun h12 => absurd h12 (nI_ge (by omega) (by omega))) (fun h12 => ?_)
      refine lv_lconst (v := 0) hx hb kd_Mo_mixIn_15 (by decide) ?_
      refine zr_lstore hx hb kd_Mo_mixIn_16 hl (by decide) hlo (fun ls hl => ?_)
      refine lv_iconst (v := 0) hx hb kd_Mo_mixIn_18 (by decide) ?_
      refine zr_istore hx hb kd_Mo_mixIn_19 hl (by decide) rfl (fun ls hl => ?_)
      exact inner 7 0 _ _ _ _ H locs _ (by omega) rfl hl hI
  refine zr_aload_n hx hb kd_Mo_mixIn_0 hl rfl ?_
  refine zr_iload_n hx hb kd_Mo_mixIn_1 hl rfl ?_
  refine zr_ci (zr_runV hS hK (c_Mo_delayIn l G M hL s hs) km_Mo_155 hI ha_MO hs_MO rfl hl.1 (Nat.le_of_ble_eq_true rfl) (by decide) (by decide) kd_Mo_mixIn_2 rfl) hI (fun r2 M2 H locs hp2 hI => ?_)
  obtain ⟨hd2, hM2⟩ := hp2
  rw [hM2] at hI
  refine zr_istore_n hx hb kd_Mo_mixIn_5 hl (by decide) rfl (fun ls hl => ?_)
  refine lv_iconst (v := 0) hx hb kd_Mo_mixIn_6 (by decide) ?_
  refine zr_istore hx hb kd_Mo_mixIn_7 hl (by decide) rfl (fun ls hl => ?_)
  exact loop _ hd2 e 0 M _ _ _ _ _ _ _ _ _ (by omega) zm_only_r (fun j hj => absurd hj (by omega)) hl rfl hI

/-! The reference's public methods: points. -/
def zv_pt (s t lv : Int32) : Int32 := if zf_in s 0 7 = 0 then 1 else if zf_in t 0 1023 = 0 then 1 else if zf_in lv 0 1024 = 0 then 1 else 0
/-- the points of strip s above lo, up to n, one place further -/
def zG_sh (M : zm_T) (s lo n : Nat) : zm_T := (fun c j => if (c = 170 ∨ c = 171 ∨ c = 172) ∧ 8 * s + lo < j ∧ j ≤ 8 * s + n then M.1 c (j - 1) else M.1 c j, M.2)
theorem zG_sh_n (M : zm_T) (s n : Nat) : zG_sh M s n n = M := by
  unfold zG_sh
  refine Prod.ext ?_ rfl
  funext c j
  exact if_neg (by omega)
theorem zG_sh_o {M : zm_T} {s lo n c j : Nat} (h : ¬ (c = 170 ∨ c = 171 ∨ c = 172) ∨ j ≤ 8 * s + lo ∨ 8 * s + n < j) : (zG_sh M s lo n).1 c j = M.1 c j := if_neg (by omega)
theorem zG_sh_s {M : zm_T} {s i n : Nat} (h : i < n) : zm_ui (zm_ui (zm_ui (zG_sh M s (i + 1) n) 170 (8 * s + (i + 1)) (M.1 170 (8 * s + i))) 171 (8 * s + (i + 1)) (M.1 171 (8 * s + i))) 172 (8 * s + (i + 1)) (M.1 172 (8 * s + i)) = zG_sh M s i n := by
  refine Prod.ext ?_ rfl
  funext c j
  by_cases hj : j = 8 * s + (i + 1)
  · subst hj
    by_cases c2 : c = 172
    · subst c2; rw [zm_ui_at]; exact (if_pos ⟨by omega, by omega, by omega⟩).symm
    · rw [zm_ui_ne (Or.inl c2)]
      by_cases c1 : c = 171
      · subst c1; rw [zm_ui_at]; exact (if_pos ⟨by omega, by omega, by omega⟩).symm
      · rw [zm_ui_ne (Or.inl c1)]
        by_cases c0 : c = 170
        · subst c0; rw [zm_ui_at]; exact (if_pos ⟨by omega, by omega, by omega⟩).symm
        · rw [zm_ui_ne (Or.inl c0), zG_sh_o (by omega), zG_sh_o (by omega)]
  · rw [zm_ui_ne (Or.inr hj), zm_ui_ne (Or.inr hj), zm_ui_ne (Or.inr hj)]
    by_cases g : (c = 170 ∨ c = 171 ∨ c = 172) ∧ 8 * s + i < j ∧ j ≤ 8 * s + n
    · have e1 : (zG_sh M s (i + 1) n).1 c j = M.1 c (j - 1) := if_pos ⟨g.1, by omega, g.2.2⟩
      have e2 : (zG_sh M s i n).1 c j = M.1 c (j - 1) := if_pos g
      rw [e1, e2]
    · rw [zG_sh_o (by omega), zG_sh_o (by omega)]
def zG_put (M : zm_T) (s c : Nat) (t lv jn : Int32) (m : Nat) : zm_T := zm_ui (zm_ui (zm_ui (zm_ui M 170 (8 * s + c) t) 171 (8 * s + c) lv) 172 (8 * s + c) jn) 169 s (nI m)
set_option maxRecDepth 100000 in
set_option maxHeartbeats 4000000 in
theorem c_Mo_point (l : Launch) (G : zg_T) (M : zm_T) (hL : zL M.2) (sv t lv jn : Int32) (hj : jn = 0 ∨ jn = 1) (hcnt : ∀ s, s < 8 → ∃ n, n ≤ 8 ∧ M.1 169 s = nI n) (hJ : ∀ j, j < 64 → M.1 172 j = 0 ∨ M.1 172 j = 1) : Met l ky_Mo_point (zr_ws ky_Mo_point kc_Mo_point 9 (some .boolean)) (zr_rm 1) (va_Pc [.ref (G.2.2.1 + 151), .int sv, .int t, .int lv, .int jn] (zm_B G 183 zs M)) (va_Qi (fun (r : Int32) (M' : zm_T) => (zv_pt sv t lv = 1 ∧ M' = zm_ui M 151 0 1) ∨ (zv_pt sv t lv = 0 ∧ ∃ s n c, s < 8 ∧ sv = nI s ∧ n ≤ 8 ∧ M.1 169 s = nI n ∧ c ≤ n ∧ (∀ i, i < c → M.1 170 (8 * s + i) < t) ∧ (c < n → t ≤ M.1 170 (8 * s + c)) ∧ ((r = 0 ∧ n = 8 ∧ ¬ (c < n ∧ M.1 170 (8 * s + c) = t) ∧ M' = zm_ui M 151 0 0) ∨ (r = 1 ∧ (c < n ∧ M.1 170 (8 * s + c) = t) ∧ M' = zG_put (zm_ui M 151 0 0) s c t lv jn n) ∨ (r = 1 ∧ n < 8 ∧ ¬ (c < n ∧ M.1 170 (8 * s + c) = t) ∧ M' = zG_put (zG_sh (zm_ui M 151 0 0) s c n) s c t lv jn (n + 1))))) (zm_B G 183 zs) (zm_A G)) 0 0 (zm_A G) := by
  refine zr_met (by decide +kernel) (Nat.le_of_ble_eq_true rfl) ?_
  intro p0 e0 s0 m0 below meth c0 ls hS hK hlk hr hl hI
  have hx := hS.1
  have hb := hS.2.1
  have hl : zl_has ls 9 [some (.ref (G.2.2.1 + 151)), some (.int sv), some (.int t), some (.int lv), some (.int jn), none, none, none, none] := hl
  have rest : ∀ (v : Int32) (H : Heap) (locs : List Loc) (ls : Array Slot), v = zv_pt sv t lv → zl_has ls 9 [some (.ref (G.2.2.1 + 151)), some (.int sv), some (.int t), some (.int lv), some (.int jn), none, none, none, none] → zm_I G 183 zs M s0 H locs → W p0 l e0 (zr_rm 1) s0 m0 ([.ref (G.2.2.1 + 151), .int sv, .int t, .int lv, .int jn] : List Value).toArray below meth c0 H locs 0 0 (MQ below (va_Qi (fun (r : Int32) (M' : zm_T) => (zv_pt sv t lv = 1 ∧ M' = zm_ui M 151 0 1) ∨ (zv_pt sv t lv = 0 ∧ ∃ s n c, s < 8 ∧ sv = nI s ∧ n ≤ 8 ∧ M.1 169 s = nI n ∧ c ≤ n ∧ (∀ i, i < c → M.1 170 (8 * s + i) < t) ∧ (c < n → t ≤ M.1 170 (8 * s + c)) ∧ ((r = 0 ∧ n = 8 ∧ ¬ (c < n ∧ M.1 170 (8 * s + c) = t) ∧ M' = zm_ui M 151 0 0) ∨ (r = 1 ∧ (c < n ∧ M.1 170 (8 * s + c) = t) ∧ M' = zG_put (zm_ui M 151 0 0) s c t lv jn n) ∨ (r = 1 ∧ n < 8 ∧ ¬ (c < n ∧ M.1 170 (8 * s + c) = t) ∧ M' = zG_put (zG_sh (zm_ui M 151 0 0) s c n) s c t lv jn (n + 1))))) (zm_B G 183 zs) (zm_A G)) ([.ref (G.2.2.1 + 151), .int sv, .int t, .int lv, .int jn] : List Value).toArray s0 0 0 (zm_A G)) (F0 m0 31 ls [.int v, .ref (G.2.2.1 + 151)]) := by
    intro v H locs ls hv hl hI
    have v01 : v = 0 ∨ v = 1 := by rw [hv]; unfold zv_pt; (repeat' split) <;> simp
    rcases v01 with rfl | rfl
    · have hin : ∃ s, s < 8 ∧ sv = nI s := by
        unfold zv_pt at hv
        by_cases g1 : zf_in sv 0 7 = 0
        · rw [if_pos g1] at hv; exact absurd hv (by decide)
        obtain ⟨a, ha, ea⟩ := zf_in_n (n := 7) (by decide) g1
        exact ⟨a, by omega, ea⟩
      obtain ⟨s, hs8, es⟩ := hin
      obtain ⟨n, hn8, hn⟩ := hcnt s hs8
      have cs : sv.toNatClampNeg = s := by rw [es]; exact zn_cl (by omega)
      have hsv : vp_in sv 8 := by rw [es]; exact vp_in_nI (by omega) (by decide)
      have e1 : ∀ p j, p ≠ 151 → (zm_ui M 151 0 0).1 p j = M.1 p j := fun p j h => zm_ui_ne (Or.inl h)
      have ix : ∀ k : Nat, (8 : Int32) * sv + nI k = nI (8 * s + k) := fun k => by rw [es, show (8 : Int32) = nI 8 from rfl, zn_mulI, nI_add]
      have cx : ∀ k, k < 8 → (nI (8 * s + k)).toNatClampNeg = 8 * s + k := fun k hk => zn_cl (by omega)
      have vx : ∀ k, k < 8 → vp_in (nI (8 * s + k)) 64 := fun k hk => vp_in_nI (by omega) (by decide)
      have hnj : vp_nar .boolean jn = jn := zn_nar hj
      -- the end: M3 the memory with or without a gap at c
      have put : ∀ (c m : Nat) (same : Int32) (M3 : zm_T) (j8 : Int32) (H : Heap) (locs : List Loc) (ls : Array Slot), c < 8 → M3.2 = M.2 → (same = 0 → m = n + 1) → (¬ same = 0 → m = n) → zl_has ls 9 [some (.ref (G.2.2.1 + 151)), some (.int sv), some (.int t), some (.int lv), some (.int jn), some (.int (nI n)), some (.int (nI c)), some (.int same), some (.int j8)] → zm_I G 183 zs M3 s0 H locs → (∀ (H : Heap) (locs : List Loc) (ls : Array Slot), zm_I G 183 zs (zG_put M3 s c t lv jn m) s0 H locs → W p0 l e0 (zr_rm 1) s0 m0 ([.ref (G.2.2.1 + 151), .int sv, .int t, .int lv, .int jn] : List Value).toArray below meth c0 H locs 0 0 (MQ below (va_Qi (fun (r : Int32) (M' : zm_T) => (zv_pt sv t lv = 1 ∧ M' = zm_ui M 151 0 1) ∨ (zv_pt sv t lv = 0 ∧ ∃ s n c, s < 8 ∧ sv = nI s ∧ n ≤ 8 ∧ M.1 169 s = nI n ∧ c ≤ n ∧ (∀ i, i < c → M.1 170 (8 * s + i) < t) ∧ (c < n → t ≤ M.1 170 (8 * s + c)) ∧ ((r = 0 ∧ n = 8 ∧ ¬ (c < n ∧ M.1 170 (8 * s + c) = t) ∧ M' = zm_ui M 151 0 0) ∨ (r = 1 ∧ (c < n ∧ M.1 170 (8 * s + c) = t) ∧ M' = zG_put (zm_ui M 151 0 0) s c t lv jn n) ∨ (r = 1 ∧ n < 8 ∧ ¬ (c < n ∧ M.1 170 (8 * s + c) = t) ∧ M' = zG_put (zG_sh (zm_ui M 151 0 0) s c n) s c t lv jn (n + 1))))) (zm_B G 183 zs) (zm_A G)) ([.ref (G.2.2.1 + 151), .int sv, .int t, .int lv, .int jn] : List Value).toArray s0 0 0 (zm_A G)) (F0 m0 287 ls [])) → W p0 l e0 (zr_rm 1) s0 m0 ([.ref (G.2.2.1 + 151), .int sv, .int t, .int lv, .int jn] : List Value).toArray below meth c0 H locs 0 0 (MQ below (va_Qi (fun (r : Int32) (M' : zm_T) => (zv_pt sv t lv = 1 ∧ M' = zm_ui M 151 0 1) ∨ (zv_pt sv t lv = 0 ∧ ∃ s n c, s < 8 ∧ sv = nI s ∧ n ≤ 8 ∧ M.1 169 s = nI n ∧ c ≤ n ∧ (∀ i, i < c → M.1 170 (8 * s + i) < t) ∧ (c < n → t ≤ M.1 170 (8 * s + c)) ∧ ((r = 0 ∧ n = 8 ∧ ¬ (c < n ∧ M.1 170 (8 * s + c) = t) ∧ M' = zm_ui M 151 0 0) ∨ (r = 1 ∧ (c < n ∧ M.1 170 (8 * s + c) = t) ∧ M' = zG_put (zm_ui M 151 0 0) s c t lv jn n) ∨ (r = 1 ∧ n < 8 ∧ ¬ (c < n ∧ M.1 170 (8 * s + c) = t) ∧ M' = zG_put (zG_sh (zm_ui M 151 0 0) s c n) s c t lv jn (n + 1))))) (zm_B G 183 zs) (zm_A G)) ([.ref (G.2.2.1 + 151), .int sv, .int t, .int lv, .int jn] : List Value).toArray s0 0 0 (zm_A G)) (F0 m0 227 ls []) := by
        intro c m same M3 j8 H locs ls hc8 h2 hm0 hm1 hl hI kont
        have hL3 : zL M3.2 := by rw [h2]; exact hL
        refine zr_aload_n hx hb kd_Mo_point_227 hl rfl ?_
        refine zr_getr hS hK kf_Mo_65 hI ha_MO hs_MO (show _ = some 170 from zL_mo hL3 (k := 19) (by decide) (by decide)) kd_Mo_point_228 ?_
        refine lv_bipush (v := 8) hx hb kd_Mo_point_231 (by decide) ?_
        refine zr_iload_n hx hb kd_Mo_point_233 hl rfl ?_
        refine lv_imul hx hb kd_Mo_point_234 ?_
        refine zr_iload hx hb kd_Mo_point_235 hl rfl ?_
        refine lv_iadd hx hb kd_Mo_point_237 ?_
        rw [ix]
        refine zr_iload_n hx hb kd_Mo_point_238 hl rfl ?_
        refine zr_iast hS hK hI ha_MO_19 hs_MO_19 (vx c hc8) kd_Mo_point_239 (fun H locs hI => ?_)
        refine zr_aload_n hx hb kd_Mo_point_240 hl rfl ?_
        refine zr_getr hS hK kf_Mo_68 hI ha_MO hs_MO (show _ = some 171 from zL_mo hL3 (k := 20) (by decide) (by decide)) kd_Mo_point_241 ?_
        refine lv_bipush (v := 8) hx hb kd_Mo_point_244 (by decide) ?_
        refine zr_iload_n hx hb kd_Mo_point_246 hl rfl ?_
        refine lv_imul hx hb kd_Mo_point_247 ?_
        refine zr_iload hx hb kd_Mo_point_248 hl rfl ?_
        refine lv_iadd hx hb kd_Mo_point_250 ?_
        rw [ix]
        refine zr_iload_n hx hb kd_Mo_point_251 hl rfl ?_
        refine zr_iast hS hK hI ha_MO_20 hs_MO_20 (vx c hc8) kd_Mo_point_252 (fun H locs hI => ?_)
        refine zr_aload_n hx hb kd_Mo_point_253 hl rfl ?_
        refine zr_getr hS hK kf_Mo_71 hI ha_MO hs_MO (show _ = some 172 from zL_mo hL3 (k := 21) (by decide) (by decide)) kd_Mo_point_254 ?_
        refine lv_bipush (v := 8) hx hb kd_Mo_point_257 (by decide) ?_
        refine zr_iload_n hx hb kd_Mo_point_259 hl rfl ?_
        refine lv_imul hx hb kd_Mo_point_260 ?_
        refine zr_iload hx hb kd_Mo_point_261 hl rfl ?_
        refine lv_iadd hx hb kd_Mo_point_263 ?_
        rw [ix]
        refine zr_iload hx hb kd_Mo_point_264 hl rfl ?_
        refine zr_zast hS hK hI ha_MO_21 hs_MO_21 (vx c hc8) kd_Mo_point_266 (fun H locs hI => ?_)
        refine zr_aload_n hx hb kd_Mo_point_267 hl rfl ?_
        refine zr_getr hS hK kf_Mo_62 hI ha_MO hs_MO (show _ = some 169 from zL_mo hL3 (k := 18) (by decide) (by decide)) kd_Mo_point_268 ?_
        refine zr_iload_n hx hb kd_Mo_point_271 hl rfl ?_
        refine zr_iload hx hb kd_Mo_point_272 hl rfl ?_
        refine lv_if_eq (tgt := 282) hx hb kd_Mo_point_274 (by decide) (fun h274 => ?_) (fun h274 => ?_)
        · skip
          refine zr_iload hx hb kd_Mo_point_282 hl rfl ?_
          refine lv_iconst (v := 1) hx hb kd_Mo_point_284 (by decide) ?_
          refine lv_iadd hx hb kd_Mo_point_285 ?_
          refine zr_iast hS hK hI ha_MO_18 hs_MO_18 hsv kd_Mo_point_286 (fun H locs hI => ?_)
          rw [cx c hc8, cs, hnj] at hI
          refine kont _ _ _ ?_
          unfold zG_put
          first
          | (rw [hm0 h274, nI_succ]; exact hI)
          | (rw [hm1 h274]; exact hI)
        · skip
          refine zr_iload hx hb kd_Mo_point_277 hl rfl ?_
          refine lv_goto (tgt := 286) hx hb kd_Mo_point_279 (by decide) ?_
          refine zr_iast hS hK hI ha_MO_18 hs_MO_18 hsv kd_Mo_point_286 (fun H locs hI => ?_)
          rw [cx c hc8, cs, hnj] at hI
          refine kont _ _ _ ?_
          unfold zG_put
          first
          | (rw [hm0 h274, nI_succ]; exact hI)
          | (rw [hm1 h274]; exact hI)
      have hM1 : (zm_ui M 151 0 0).2 = M.2 := rfl
      have shift : ∀ (c : Nat), c ≤ n → n < 8 → (∀ (H : Heap) (locs : List Loc) (ls : Array Slot), zm_I G 183 zs (zG_put (zG_sh (zm_ui M 151 0 0) s c n) s c t lv jn (n + 1)) s0 H locs → W p0 l e0 (zr_rm 1) s0 m0 ([.ref (G.2.2.1 + 151), .int sv, .int t, .int lv, .int jn] : List Value).toArray below meth c0 H locs 0 0 (MQ below (va_Qi (fun (r : Int32) (M' : zm_T) => (zv_pt sv t lv = 1 ∧ M' = zm_ui M 151 0 1) ∨ (zv_pt sv t lv = 0 ∧ ∃ s n c, s < 8 ∧ sv = nI s ∧ n ≤ 8 ∧ M.1 169 s = nI n ∧ c ≤ n ∧ (∀ i, i < c → M.1 170 (8 * s + i) < t) ∧ (c < n → t ≤ M.1 170 (8 * s + c)) ∧ ((r = 0 ∧ n = 8 ∧ ¬ (c < n ∧ M.1 170 (8 * s + c) = t) ∧ M' = zm_ui M 151 0 0) ∨ (r = 1 ∧ (c < n ∧ M.1 170 (8 * s + c) = t) ∧ M' = zG_put (zm_ui M 151 0 0) s c t lv jn n) ∨ (r = 1 ∧ n < 8 ∧ ¬ (c < n ∧ M.1 170 (8 * s + c) = t) ∧ M' = zG_put (zG_sh (zm_ui M 151 0 0) s c n) s c t lv jn (n + 1))))) (zm_B G 183 zs) (zm_A G)) ([.ref (G.2.2.1 + 151), .int sv, .int t, .int lv, .int jn] : List Value).toArray s0 0 0 (zm_A G)) (F0 m0 287 ls [])) → ∀ (q i : Nat) (H : Heap) (locs : List Loc) (ls : Array Slot), c + q = i → i ≤ n → zl_has ls 9 [some (.ref (G.2.2.1 + 151)), some (.int sv), some (.int t), some (.int lv), some (.int jn), some (.int (nI n)), some (.int (nI c)), some (.int 0), some (.int (nI i))] → zm_I G 183 zs (zG_sh (zm_ui M 151 0 0) s i n) s0 H locs → W p0 l e0 (zr_rm 1) s0 m0 ([.ref (G.2.2.1 + 151), .int sv, .int t, .int lv, .int jn] : List Value).toArray below meth c0 H locs 0 0 (MQ below (va_Qi (fun (r : Int32) (M' : zm_T) => (zv_pt sv t lv = 1 ∧ M' = zm_ui M 151 0 1) ∨ (zv_pt sv t lv = 0 ∧ ∃ s n c, s < 8 ∧ sv = nI s ∧ n ≤ 8 ∧ M.1 169 s = nI n ∧ c ≤ n ∧ (∀ i, i < c → M.1 170 (8 * s + i) < t) ∧ (c < n → t ≤ M.1 170 (8 * s + c)) ∧ ((r = 0 ∧ n = 8 ∧ ¬ (c < n ∧ M.1 170 (8 * s + c) = t) ∧ M' = zm_ui M 151 0 0) ∨ (r = 1 ∧ (c < n ∧ M.1 170 (8 * s + c) = t) ∧ M' = zG_put (zm_ui M 151 0 0) s c t lv jn n) ∨ (r = 1 ∧ n < 8 ∧ ¬ (c < n ∧ M.1 170 (8 * s + c) = t) ∧ M' = zG_put (zG_sh (zm_ui M 151 0 0) s c n) s c t lv jn (n + 1))))) (zm_B G 183 zs) (zm_A G)) ([.ref (G.2.2.1 + 151), .int sv, .int t, .int lv, .int jn] : List Value).toArray s0 0 0 (zm_A G)) (F0 m0 131 ls []) := by
        intro c hcn hn7 kont q
        induction q with
        | zero =>
          intro i H locs ls hi hin hl hI
          obtain rfl : i = c := by omega
          refine zr_iload hx hb kd_Mo_point_131 hl rfl ?_
          refine zr_iload hx hb kd_Mo_point_133 hl rfl ?_
          refine lv_icmp_le (tgt := 227) hx hb kd_Mo_point_135 (by decide) (fun h135 => ?_) (fun h135 => absurd (Int32.le_refl _) h135)
          exact put i (n + 1) 0 (zG_sh (zm_ui M 151 0 0) s i n) _ H locs ls (by omega) rfl (fun _ => rfl) (fun h => absurd rfl h) hl hI kont
        | succ q ih =>
          intro i' H locs ls hi hin hl hI
          obtain ⟨i, rfl⟩ : ∃ i, i' = i + 1 := ⟨i' - 1, by omega⟩
          have hLs : zL (zG_sh (zm_ui M 151 0 0) s (i + 1) n).2 := hL
          have ix1 : (8 : Int32) * sv + nI (i + 1) - 1 = nI (8 * s + i) := by rw [ix, show 8 * s + (i + 1) = 8 * s + i + 1 by omega, nI_pred]
          have r0 : ∀ p, p ≠ 151 → (zG_sh (zm_ui M 151 0 0) s (i + 1) n).1 p (8 * s + i) = M.1 p (8 * s + i) := fun p hp => by rw [zG_sh_o (by omega), e1 _ _ hp]
          have hJi : vp_nar .boolean (M.1 172 (8 * s + i)) = M.1 172 (8 * s + i) := zn_nar (hJ _ (by omega))
          refine zr_iload hx hb kd_Mo_point_131 hl rfl ?_
          refine zr_iload hx hb kd_Mo_point_133 hl rfl ?_
          refine lv_icmp_le (tgt := 227) hx hb kd_Mo_point_135 (by decide) (fun h135 => absurd h135 (nI_ge (by omega) (by omega))) (fun h135 => ?_)
          refine zr_iload hx hb kd_Mo_point_138 hl rfl ?_
          refine lv_if_ne (tgt := 227) hx hb kd_Mo_point_140 (by decide) (fun h140 => absurd (rfl) h140) (fun h140 => ?_)
          refine zr_aload_n hx hb kd_Mo_point_143 hl rfl ?_
          refine zr_getr hS hK kf_Mo_65 hI ha_MO hs_MO (show _ = some 170 from zL_mo hLs (k := 19) (by decide) (by decide)) kd_Mo_point_144 ?_
          refine lv_bipush (v := 8) hx hb kd_Mo_point_147 (by decide) ?_
          refine zr_iload_n hx hb kd_Mo_point_149 hl rfl ?_
          refine lv_imul hx hb kd_Mo_point_150 ?_
          refine zr_iload hx hb kd_Mo_point_151 hl rfl ?_
          refine lv_iadd hx hb kd_Mo_point_153 ?_
          refine zr_aload_n hx hb kd_Mo_point_154 hl rfl ?_
          refine zr_getr hS hK kf_Mo_65 hI ha_MO hs_MO (show _ = some 170 from zL_mo hLs (k := 19) (by decide) (by decide)) kd_Mo_point_155 ?_
          refine lv_bipush (v := 8) hx hb kd_Mo_point_158 (by decide) ?_
          refine zr_iload_n hx hb kd_Mo_point_160 hl rfl ?_
          refine lv_imul hx hb kd_Mo_point_161 ?_
          refine zr_iload hx hb kd_Mo_point_162 hl rfl ?_
          refine lv_iadd hx hb kd_Mo_point_164 ?_
          refine lv_iconst (v := 1) hx hb kd_Mo_point_165 (by decide) ?_
          refine lv_isub hx hb kd_Mo_point_166 ?_
          rw [ix1]
          refine zr_iald hS hK hI ha_MO_19 hs_MO_19 (vx i (by omega)) kd_Mo_point_167 ?_
          rw [cx i (by omega), r0 170 (by decide), ix]
          refine zr_iast hS hK hI ha_MO_19 hs_MO_19 (vx (i + 1) (by omega)) kd_Mo_point_168 (fun H locs hI => ?_)
          refine zr_aload_n hx hb kd_Mo_point_169 hl rfl ?_
          refine zr_getr hS hK kf_Mo_68 hI ha_MO hs_MO (show _ = some 171 from zL_mo hLs (k := 20) (by decide) (by decide)) kd_Mo_point_170 ?_
          refine lv_bipush (v := 8) hx hb kd_Mo_point_173 (by decide) ?_
          refine zr_iload_n hx hb kd_Mo_point_175 hl rfl ?_
          refine lv_imul hx hb kd_Mo_point_176 ?_
          refine zr_iload hx hb kd_Mo_point_177 hl rfl ?_
          refine lv_iadd hx hb kd_Mo_point_179 ?_
          refine zr_aload_n hx hb kd_Mo_point_180 hl rfl ?_
          refine zr_getr hS hK kf_Mo_68 hI ha_MO hs_MO (show _ = some 171 from zL_mo hLs (k := 20) (by decide) (by decide)) kd_Mo_point_181 ?_
          refine lv_bipush (v := 8) hx hb kd_Mo_point_184 (by decide) ?_
          refine zr_iload_n hx hb kd_Mo_point_186 hl rfl ?_
          refine lv_imul hx hb kd_Mo_point_187 ?_
          refine zr_iload hx hb kd_Mo_point_188 hl rfl ?_
          refine lv_iadd hx hb kd_Mo_point_190 ?_
          refine lv_iconst (v := 1) hx hb kd_Mo_point_191 (by decide) ?_
          refine lv_isub hx hb kd_Mo_point_192 ?_
          rw [ix1]
          refine zr_iald hS hK hI ha_MO_20 hs_MO_20 (vx i (by omega)) kd_Mo_point_193 ?_
          rw [cx i (by omega), zm_ui_ne (Or.inl (by decide)), r0 171 (by decide), ix]
          refine zr_iast hS hK hI ha_MO_20 hs_MO_20 (vx (i + 1) (by omega)) kd_Mo_point_194 (fun H locs hI => ?_)
          refine zr_aload_n hx hb kd_Mo_point_195 hl rfl ?_
          refine zr_getr hS hK kf_Mo_71 hI ha_MO hs_MO (show _ = some 172 from zL_mo hLs (k := 21) (by decide) (by decide)) kd_Mo_point_196 ?_
          refine lv_bipush (v := 8) hx hb kd_Mo_point_199 (by decide) ?_
          refine zr_iload_n hx hb kd_Mo_point_201 hl rfl ?_
          refine lv_imul hx hb kd_Mo_point_202 ?_
          refine zr_iload hx hb kd_Mo_point_203 hl rfl ?_
          refine lv_iadd hx hb kd_Mo_point_205 ?_
          refine zr_aload_n hx hb kd_Mo_point_206 hl rfl ?_
          refine zr_getr hS hK kf_Mo_71 hI ha_MO hs_MO (show _ = some 172 from zL_mo hLs (k := 21) (by decide) (by decide)) kd_Mo_point_207 ?_
          refine lv_bipush (v := 8) hx hb kd_Mo_point_210 (by decide) ?_
          refine zr_iload_n hx hb kd_Mo_point_212 hl rfl ?_
          refine lv_imul hx hb kd_Mo_point_213 ?_
          refine zr_iload hx hb kd_Mo_point_214 hl rfl ?_
          refine lv_iadd hx hb kd_Mo_point_216 ?_
          refine lv_iconst (v := 1) hx hb kd_Mo_point_217 (by decide) ?_
          refine lv_isub hx hb kd_Mo_point_218 ?_
          rw [ix1]
          refine zr_zald hS hK hI ha_MO_21 hs_MO_21 (vx i (by omega)) kd_Mo_point_219 ?_
          rw [cx i (by omega), zm_ui_ne (Or.inl (by decide)), zm_ui_ne (Or.inl (by decide)), r0 172 (by decide), ix]
          refine zr_zast hS hK hI ha_MO_21 hs_MO_21 (vx (i + 1) (by omega)) kd_Mo_point_220 (fun H locs hI => ?_)
          refine zr_iinc hx hb kd_Mo_point_221 hl (by decide) rfl rfl (fun ls hl => ?_)
          refine lv_goto (tgt := 131) hx hb kd_Mo_point_224 (by decide) ?_
          rw [cx (i + 1) (by omega), hJi] at hI
          refine ih i H locs ls (by omega) (by omega) ?_ ?_
          · rw [← nI_pred i, Int32.sub_eq_add_neg]; exact hl
          · rw [← zG_sh_s (by omega), e1 170 _ (by decide), e1 171 _ (by decide), e1 172 _ (by decide)]; exact hI
      have fin : ∀ (c : Nat), c ≤ n → (∀ i, i < c → M.1 170 (8 * s + i) < t) → (c < n → t ≤ M.1 170 (8 * s + c)) → ∀ (H : Heap) (locs : List Loc) (ls : Array Slot), zl_has ls 9 [some (.ref (G.2.2.1 + 151)), some (.int sv), some (.int t), some (.int lv), some (.int jn), some (.int (nI n)), some (.int (nI c)), none, none] → zm_I G 183 zs (zm_ui M 151 0 0) s0 H locs → W p0 l e0 (zr_rm 1) s0 m0 ([.ref (G.2.2.1 + 151), .int sv, .int t, .int lv, .int jn] : List Value).toArray below meth c0 H locs 0 0 (MQ below (va_Qi (fun (r : Int32) (M' : zm_T) => (zv_pt sv t lv = 1 ∧ M' = zm_ui M 151 0 1) ∨ (zv_pt sv t lv = 0 ∧ ∃ s n c, s < 8 ∧ sv = nI s ∧ n ≤ 8 ∧ M.1 169 s = nI n ∧ c ≤ n ∧ (∀ i, i < c → M.1 170 (8 * s + i) < t) ∧ (c < n → t ≤ M.1 170 (8 * s + c)) ∧ ((r = 0 ∧ n = 8 ∧ ¬ (c < n ∧ M.1 170 (8 * s + c) = t) ∧ M' = zm_ui M 151 0 0) ∨ (r = 1 ∧ (c < n ∧ M.1 170 (8 * s + c) = t) ∧ M' = zG_put (zm_ui M 151 0 0) s c t lv jn n) ∨ (r = 1 ∧ n < 8 ∧ ¬ (c < n ∧ M.1 170 (8 * s + c) = t) ∧ M' = zG_put (zG_sh (zm_ui M 151 0 0) s c n) s c t lv jn (n + 1))))) (zm_B G 183 zs) (zm_A G)) ([.ref (G.2.2.1 + 151), .int sv, .int t, .int lv, .int jn] : List Value).toArray s0 0 0 (zm_A G)) (F0 m0 83 ls []) := by
        intro c hcn hlow hup H locs ls hl hI
        have h113 : ∀ (same : Int32) (H : Heap) (locs : List Loc) (ls : Array Slot), zt_is same (c < n ∧ M.1 170 (8 * s + c) = t) → zl_has ls 9 [some (.ref (G.2.2.1 + 151)), some (.int sv), some (.int t), some (.int lv), some (.int jn), some (.int (nI n)), some (.int (nI c)), some (.int same), none] → zm_I G 183 zs (zm_ui M 151 0 0) s0 H locs → W p0 l e0 (zr_rm 1) s0 m0 ([.ref (G.2.2.1 + 151), .int sv, .int t, .int lv, .int jn] : List Value).toArray below meth c0 H locs 0 0 (MQ below (va_Qi (fun (r : Int32) (M' : zm_T) => (zv_pt sv t lv = 1 ∧ M' = zm_ui M 151 0 1) ∨ (zv_pt sv t lv = 0 ∧ ∃ s n c, s < 8 ∧ sv = nI s ∧ n ≤ 8 ∧ M.1 169 s = nI n ∧ c ≤ n ∧ (∀ i, i < c → M.1 170 (8 * s + i) < t) ∧ (c < n → t ≤ M.1 170 (8 * s + c)) ∧ ((r = 0 ∧ n = 8 ∧ ¬ (c < n ∧ M.1 170 (8 * s + c) = t) ∧ M' = zm_ui M 151 0 0) ∨ (r = 1 ∧ (c < n ∧ M.1 170 (8 * s + c) = t) ∧ M' = zG_put (zm_ui M 151 0 0) s c t lv jn n) ∨ (r = 1 ∧ n < 8 ∧ ¬ (c < n ∧ M.1 170 (8 * s + c) = t) ∧ M' = zG_put (zG_sh (zm_ui M 151 0 0) s c n) s c t lv jn (n + 1))))) (zm_B G 183 zs) (zm_A G)) ([.ref (G.2.2.1 + 151), .int sv, .int t, .int lv, .int jn] : List Value).toArray s0 0 0 (zm_A G)) (F0 m0 113 ls []) := by
          intro same H locs ls hsame hl hI
          have ret : ∀ (m : Nat) (M3 : zm_T) (H : Heap) (locs : List Loc) (ls : Array Slot), ((c < n ∧ M.1 170 (8 * s + c) = t) ∧ zG_put M3 s c t lv jn m = zG_put (zm_ui M 151 0 0) s c t lv jn n) ∨ (n < 8 ∧ ¬ (c < n ∧ M.1 170 (8 * s + c) = t) ∧ zG_put M3 s c t lv jn m = zG_put (zG_sh (zm_ui M 151 0 0) s c n) s c t lv jn (n + 1)) → zm_I G 183 zs (zG_put M3 s c t lv jn m) s0 H locs → W p0 l e0 (zr_rm 1) s0 m0 ([.ref (G.2.2.1 + 151), .int sv, .int t, .int lv, .int jn] : List Value).toArray below meth c0 H locs 0 0 (MQ below (va_Qi (fun (r : Int32) (M' : zm_T) => (zv_pt sv t lv = 1 ∧ M' = zm_ui M 151 0 1) ∨ (zv_pt sv t lv = 0 ∧ ∃ s n c, s < 8 ∧ sv = nI s ∧ n ≤ 8 ∧ M.1 169 s = nI n ∧ c ≤ n ∧ (∀ i, i < c → M.1 170 (8 * s + i) < t) ∧ (c < n → t ≤ M.1 170 (8 * s + c)) ∧ ((r = 0 ∧ n = 8 ∧ ¬ (c < n ∧ M.1 170 (8 * s + c) = t) ∧ M' = zm_ui M 151 0 0) ∨ (r = 1 ∧ (c < n ∧ M.1 170 (8 * s + c) = t) ∧ M' = zG_put (zm_ui M 151 0 0) s c t lv jn n) ∨ (r = 1 ∧ n < 8 ∧ ¬ (c < n ∧ M.1 170 (8 * s + c) = t) ∧ M' = zG_put (zG_sh (zm_ui M 151 0 0) s c n) s c t lv jn (n + 1))))) (zm_B G 183 zs) (zm_A G)) ([.ref (G.2.2.1 + 151), .int sv, .int t, .int lv, .int jn] : List Value).toArray s0 0 0 (zm_A G)) (F0 m0 287 ls []) := by
            intro m M3 H locs ls hor hI
            refine lv_iconst (v := 1) hx hb kd_Mo_point_287 (by decide) ?_
            exact zr_zret hS hK hlk hr (by decide) hI kd_Mo_point_288 (Or.inr ⟨hv.symm, s, n, c, hs8, es, hn8, hn, hcn, hlow, hup, by
                rcases hor with ⟨g1, g2⟩ | ⟨g0, g1, g2⟩
                · exact Or.inr (Or.inl ⟨rfl, g1, g2⟩)
                · exact Or.inr (Or.inr ⟨rfl, g0, g1, g2⟩)⟩)
          by_cases h0 : same = 0
          · subst h0
            have hno := zt_is_f hsame rfl
            refine zr_iload hx hb kd_Mo_point_113 hl rfl ?_
            refine lv_if_ne (tgt := 127) hx hb kd_Mo_point_115 (by decide) (fun h115 => absurd (rfl) h115) (fun h115 => ?_)
            refine zr_iload hx hb kd_Mo_point_118 hl rfl ?_
            refine lv_bipush (v := 8) hx hb kd_Mo_point_120 (by decide) ?_
            refine lv_icmp_ne (tgt := 127) hx hb kd_Mo_point_122 (by decide) (fun h122 => ?_) (fun h122 => ?_)
            · skip
              refine zr_iload hx hb kd_Mo_point_127 hl rfl ?_
              refine zr_istore hx hb kd_Mo_point_129 hl (by decide) rfl (fun ls hl => ?_)
              have hn7 : n < 8 := by
                have : n ≠ 8 := fun e => h122 (by rw [e]; rfl)
                omega
              exact shift c hcn hn7 (fun H locs ls hI => ret _ _ H locs ls (Or.inr ⟨hn7, hno, rfl⟩) hI) (n - c) n _ _ _ (by omega) (Nat.le_refl _) hl (by rw [zG_sh_n]; exact hI)
            · skip
              refine lv_iconst (v := 0) hx hb kd_Mo_point_125 (by decide) ?_
              exact zr_zret hS hK hlk hr (by decide) hI kd_Mo_point_126 (Or.inr ⟨hv.symm, s, n, c, hs8, es, hn8, hn, hcn, hlow, hup, Or.inl ⟨rfl, (nI_eq (by omega) (by omega)).mp (show nI n = nI 8 from h122), hno, rfl⟩⟩)
          · have hyes := zt_is_t hsame h0
            refine zr_iload hx hb kd_Mo_point_113 hl rfl ?_
            refine lv_if_ne (tgt := 127) hx hb kd_Mo_point_115 (by decide) (fun h115 => ?_) (fun h115 => absurd h115 (h0))
            refine zr_iload hx hb kd_Mo_point_127 hl rfl ?_
            refine zr_istore hx hb kd_Mo_point_129 hl (by decide) rfl (fun ls hl => ?_)
            refine zr_iload hx hb kd_Mo_point_131 hl rfl ?_
            refine zr_iload hx hb kd_Mo_point_133 hl rfl ?_
            refine lv_icmp_le (tgt := 227) hx hb kd_Mo_point_135 (by decide) (fun h135 => absurd h135 (nI_ge hyes.1 (by omega))) (fun h135 => ?_)
            refine zr_iload hx hb kd_Mo_point_138 hl rfl ?_
            refine lv_if_ne (tgt := 227) hx hb kd_Mo_point_140 (by decide) (fun h140 => ?_) (fun h140 => absurd h140 (h0))
            exact put c n same (zm_ui M 151 0 0) _ H locs _ (by omega) rfl (fun h => absurd h h0) (fun _ => rfl) hl hI (fun H locs ls hI => ret _ _ H locs ls (Or.inl ⟨hyes, rfl⟩) hI)
        have cn : nI n ≤ nI c → ¬ c < n := fun h g => nI_ge g (by omega) h
        have cn' : ¬ nI n ≤ nI c → c < n := fun h => Nat.lt_of_not_le (fun g => h (nI_le g (by omega)))
        refine zr_iload hx hb kd_Mo_point_83 hl rfl ?_
        refine zr_iload hx hb kd_Mo_point_85 hl rfl ?_
        refine lv_icmp_ge (tgt := 110) hx hb kd_Mo_point_87 (by decide) (fun h87 => ?_) (fun h87 => ?_)
        · skip
          refine lv_iconst (v := 0) hx hb kd_Mo_point_110 (by decide) ?_
          refine zr_istore hx hb kd_Mo_point_111 hl (by decide) rfl (fun ls hl => ?_)
          refine h113 _ _ _ _ ?_ hl hI
          first
          | exact Or.inl ⟨rfl, hc7, h103⟩
          | exact Or.inr ⟨rfl, fun g => h103 g.2⟩
          | exact Or.inr ⟨rfl, fun g => cn h87 g.1⟩
        · skip
          refine zr_aload_n hx hb kd_Mo_point_90 hl rfl ?_
          refine zr_getr hS hK kf_Mo_65 hI ha_MO hs_MO (show _ = some 170 from zL_mo hL (k := 19) (by decide) (by decide)) kd_Mo_point_91 ?_
          refine lv_bipush (v := 8) hx hb kd_Mo_point_94 (by decide) ?_
          refine zr_iload_n hx hb kd_Mo_point_96 hl rfl ?_
          refine lv_imul hx hb kd_Mo_point_97 ?_
          refine zr_iload hx hb kd_Mo_point_98 hl rfl ?_
          refine lv_iadd hx hb kd_Mo_point_100 ?_
          rw [ix]
          refine zr_iald hS hK hI ha_MO_19 hs_MO_19 (vx c (by have := cn' h87; omega)) kd_Mo_point_101 ?_
          refine zr_iload_n hx hb kd_Mo_point_102 hl rfl ?_
          have hc7 := cn' h87
          rw [cx c (by omega), e1 170 _ (by decide)]
          refine lv_icmp_ne (tgt := 110) hx hb kd_Mo_point_103 (by decide) (fun h103 => ?_) (fun h103 => ?_)
          · skip
            refine lv_iconst (v := 0) hx hb kd_Mo_point_110 (by decide) ?_
            refine zr_istore hx hb kd_Mo_point_111 hl (by decide) rfl (fun ls hl => ?_)
            refine h113 _ _ _ _ ?_ hl hI
            first
            | exact Or.inl ⟨rfl, hc7, h103⟩
            | exact Or.inr ⟨rfl, fun g => h103 g.2⟩
            | exact Or.inr ⟨rfl, fun g => cn h87 g.1⟩
          · skip
            refine lv_iconst (v := 1) hx hb kd_Mo_point_106 (by decide) ?_
            refine lv_goto (tgt := 111) hx hb kd_Mo_point_107 (by decide) ?_
            refine zr_istore hx hb kd_Mo_point_111 hl (by decide) rfl (fun ls hl => ?_)
            refine h113 _ _ _ _ ?_ hl hI
            first
            | exact Or.inl ⟨rfl, hc7, h103⟩
            | exact Or.inr ⟨rfl, fun g => h103 g.2⟩
            | exact Or.inr ⟨rfl, fun g => cn h87 g.1⟩
      have find : ∀ (q c : Nat) (H : Heap) (locs : List Loc) (ls : Array Slot), c + q = n → (∀ i, i < c → M.1 170 (8 * s + i) < t) → zl_has ls 9 [some (.ref (G.2.2.1 + 151)), some (.int sv), some (.int t), some (.int lv), some (.int jn), some (.int (nI n)), some (.int (nI c)), none, none] → zm_I G 183 zs (zm_ui M 151 0 0) s0 H locs → W p0 l e0 (zr_rm 1) s0 m0 ([.ref (G.2.2.1 + 151), .int sv, .int t, .int lv, .int jn] : List Value).toArray below meth c0 H locs 0 0 (MQ below (va_Qi (fun (r : Int32) (M' : zm_T) => (zv_pt sv t lv = 1 ∧ M' = zm_ui M 151 0 1) ∨ (zv_pt sv t lv = 0 ∧ ∃ s n c, s < 8 ∧ sv = nI s ∧ n ≤ 8 ∧ M.1 169 s = nI n ∧ c ≤ n ∧ (∀ i, i < c → M.1 170 (8 * s + i) < t) ∧ (c < n → t ≤ M.1 170 (8 * s + c)) ∧ ((r = 0 ∧ n = 8 ∧ ¬ (c < n ∧ M.1 170 (8 * s + c) = t) ∧ M' = zm_ui M 151 0 0) ∨ (r = 1 ∧ (c < n ∧ M.1 170 (8 * s + c) = t) ∧ M' = zG_put (zm_ui M 151 0 0) s c t lv jn n) ∨ (r = 1 ∧ n < 8 ∧ ¬ (c < n ∧ M.1 170 (8 * s + c) = t) ∧ M' = zG_put (zG_sh (zm_ui M 151 0 0) s c n) s c t lv jn (n + 1))))) (zm_B G 183 zs) (zm_A G)) ([.ref (G.2.2.1 + 151), .int sv, .int t, .int lv, .int jn] : List Value).toArray s0 0 0 (zm_A G)) (F0 m0 54 ls []) := by
        intro q
        induction q with
        | zero =>
          intro c H locs ls hq hlow hl hI
          obtain rfl : c = n := by omega
          refine zr_iload hx hb kd_Mo_point_54 hl rfl ?_
          refine zr_iload hx hb kd_Mo_point_56 hl rfl ?_
          refine lv_icmp_ge (tgt := 83) hx hb kd_Mo_point_58 (by decide) (fun h58 => ?_) (fun h58 => absurd (Int32.le_refl _) h58)
          exact fin c (Nat.le_refl _) hlow (fun h => absurd h (by omega)) H locs ls hl hI
        | succ q ih =>
          intro c H locs ls hq hlow hl hI
          refine zr_iload hx hb kd_Mo_point_54 hl rfl ?_
          refine zr_iload hx hb kd_Mo_point_56 hl rfl ?_
          refine lv_icmp_ge (tgt := 83) hx hb kd_Mo_point_58 (by decide) (fun h58 => absurd h58 (nI_ge (by omega) (by omega))) (fun h58 => ?_)
          refine zr_aload_n hx hb kd_Mo_point_61 hl rfl ?_
          refine zr_getr hS hK kf_Mo_65 hI ha_MO hs_MO (show _ = some 170 from zL_mo hL (k := 19) (by decide) (by decide)) kd_Mo_point_62 ?_
          refine lv_bipush (v := 8) hx hb kd_Mo_point_65 (by decide) ?_
          refine zr_iload_n hx hb kd_Mo_point_67 hl rfl ?_
          refine lv_imul hx hb kd_Mo_point_68 ?_
          refine zr_iload hx hb kd_Mo_point_69 hl rfl ?_
          refine lv_iadd hx hb kd_Mo_point_71 ?_
          rw [ix]
          refine zr_iald hS hK hI ha_MO_19 hs_MO_19 (vx c (by omega)) kd_Mo_point_72 ?_
          refine zr_iload_n hx hb kd_Mo_point_73 hl rfl ?_
          rw [cx c (by omega), e1 170 _ (by decide)]
          refine lv_icmp_ge (tgt := 83) hx hb kd_Mo_point_74 (by decide) (fun h74 => ?_) (fun h74 => ?_)
          · skip
            exact fin c (by omega) hlow (fun _ => h74) H locs ls hl hI
          · skip
            refine zr_iinc hx hb kd_Mo_point_77 hl (by decide) rfl rfl (fun ls hl => ?_)
            refine lv_goto (tgt := 54) hx hb kd_Mo_point_80 (by decide) ?_
            refine ih (c + 1) H locs ls (by omega) (fun i hi => ?_) (by rw [nI_succ]; exact hl) hI
            by_cases e : i = c
            · subst e; exact Int32.not_le.mp h74
            · exact hlow i (by omega)
      refine zr_puti hS hK kf_Mo_101 hI ha_MO hs_MO rfl rfl kd_Mo_point_31 (fun H locs hI => ?_)
      refine zr_aload_n hx hb kd_Mo_point_34 hl rfl ?_
      refine zr_geti hS hK kf_Mo_101 hI ha_MO hs_MO kd_Mo_point_35 ?_
      refine lv_if_le (tgt := 43) hx hb kd_Mo_point_38 (by decide) (fun h38 => ?_) (fun h38 => absurd ((by rw [zm_ui_at]; decide)) h38)
      refine zr_aload_n hx hb kd_Mo_point_43 hl rfl ?_
      refine zr_getr hS hK kf_Mo_62 hI ha_MO hs_MO (show _ = some 169 from zL_mo hL (k := 18) (by decide) (by decide)) kd_Mo_point_44 ?_
      refine zr_iload_n hx hb kd_Mo_point_47 hl rfl ?_
      refine zr_iald hS hK hI ha_MO_18 hs_MO_18 hsv kd_Mo_point_48 ?_
      rw [cs, e1 169 _ (by decide), hn]
      refine zr_istore hx hb kd_Mo_point_49 hl (by decide) rfl (fun ls hl => ?_)
      refine lv_iconst (v := 0) hx hb kd_Mo_point_51 (by decide) ?_
      refine zr_istore hx hb kd_Mo_point_52 hl (by decide) rfl (fun ls hl => ?_)
      exact find n 0 _ _ _ (by omega) (fun i hi => absurd hi (by omega)) hl hI
    · refine zr_puti hS hK kf_Mo_101 hI ha_MO hs_MO rfl rfl kd_Mo_point_31 (fun H locs hI => ?_)
      refine zr_aload_n hx hb kd_Mo_point_34 hl rfl ?_
      refine zr_geti hS hK kf_Mo_101 hI ha_MO hs_MO kd_Mo_point_35 ?_
      refine lv_if_le (tgt := 43) hx hb kd_Mo_point_38 (by decide) (fun h38 => absurd h38 ((by rw [zm_ui_at]; decide))) (fun h38 => ?_)
      refine lv_iconst (v := 0) hx hb kd_Mo_point_41 (by decide) ?_
      exact zr_zret hS hK hlk hr (by decide) hI kd_Mo_point_42 (Or.inl ⟨hv.symm, rfl⟩)
  have t1024 : (1024 : Int32) ≤ t ↔ (1023 : Int32) < t := by rw [Int32.le_iff_toInt_le, Int32.lt_iff_toInt_lt, show (1024 : Int32).toInt = 1024 from by decide, show (1023 : Int32).toInt = 1023 from by decide]; omega
  refine zr_aload_n hx hb kd_Mo_point_0 hl rfl ?_
  refine zr_iload_n hx hb kd_Mo_point_1 hl rfl ?_
  refine zr_ci (zr_runS hS hK (c_Mo_noStrip l G 183 zs M _) km_Mo_141 hI rfl hl.1 (Nat.le_of_ble_eq_true rfl) (by decide) (by decide) kd_Mo_point_2 rfl) hI (fun r2 M2 H locs hp2 hI => ?_)
  obtain ⟨rfl, hM2⟩ := hp2
  rw [hM2] at hI
  refine lv_if_ne (tgt := 26) hx hb kd_Mo_point_5 (by decide) (fun h5 => ?_) (fun h5 => ?_)
  · skip
    refine lv_iconst (v := 1) hx hb kd_Mo_point_26 (by decide) ?_
    refine lv_goto (tgt := 31) hx hb kd_Mo_point_27 (by decide) ?_
    refine rest _ _ _ _ ?_ hl hI
    unfold zv_pt
    first
    | (rw [if_neg (zv_01 h5), if_neg (fun g => (zv_in0.mp g).elim h9 (fun q => h16 (t1024.mpr q))), if_neg (zv_01 h23)]; done)
    | (rw [if_neg (zv_01 h5), if_neg (fun g => (zv_in0.mp g).elim h9 (fun q => h16 (t1024.mpr q))), if_pos (zv_10 h23)]; done)
    | (rw [if_neg (zv_01 h5), if_pos (zv_in0.mpr (Or.inr (t1024.mp h16)))]; done)
    | (rw [if_neg (zv_01 h5), if_pos (zv_in0.mpr (Or.inl h9))]; done)
    | (rw [if_pos (zv_10 h5)]; done)
  · skip
    refine zr_iload_n hx hb kd_Mo_point_8 hl rfl ?_
    refine lv_if_lt (tgt := 26) hx hb kd_Mo_point_9 (by decide) (fun h9 => ?_) (fun h9 => ?_)
    · skip
      refine lv_iconst (v := 1) hx hb kd_Mo_point_26 (by decide) ?_
      refine lv_goto (tgt := 31) hx hb kd_Mo_point_27 (by decide) ?_
      refine rest _ _ _ _ ?_ hl hI
      unfold zv_pt
      first
      | (rw [if_neg (zv_01 h5), if_neg (fun g => (zv_in0.mp g).elim h9 (fun q => h16 (t1024.mpr q))), if_neg (zv_01 h23)]; done)
      | (rw [if_neg (zv_01 h5), if_neg (fun g => (zv_in0.mp g).elim h9 (fun q => h16 (t1024.mpr q))), if_pos (zv_10 h23)]; done)
      | (rw [if_neg (zv_01 h5), if_pos (zv_in0.mpr (Or.inr (t1024.mp h16)))]; done)
      | (rw [if_neg (zv_01 h5), if_pos (zv_in0.mpr (Or.inl h9))]; done)
      | (rw [if_pos (zv_10 h5)]; done)
    · skip
      refine zr_iload_n hx hb kd_Mo_point_12 hl rfl ?_
      refine lv_sipush (v := 1024) hx hb kd_Mo_point_13 (by decide) ?_
      refine lv_icmp_ge (tgt := 26) hx hb kd_Mo_point_16 (by decide) (fun h16 => ?_) (fun h16 => ?_)
      · skip
        refine lv_iconst (v := 1) hx hb kd_Mo_point_26 (by decide) ?_
        refine lv_goto (tgt := 31) hx hb kd_Mo_point_27 (by decide) ?_
        refine rest _ _ _ _ ?_ hl hI
        unfold zv_pt
        first
        | (rw [if_neg (zv_01 h5), if_neg (fun g => (zv_in0.mp g).elim h9 (fun q => h16 (t1024.mpr q))), if_neg (zv_01 h23)]; done)
        | (rw [if_neg (zv_01 h5), if_neg (fun g => (zv_in0.mp g).elim h9 (fun q => h16 (t1024.mpr q))), if_pos (zv_10 h23)]; done)
        | (rw [if_neg (zv_01 h5), if_pos (zv_in0.mpr (Or.inr (t1024.mp h16)))]; done)
        | (rw [if_neg (zv_01 h5), if_pos (zv_in0.mpr (Or.inl h9))]; done)
        | (rw [if_pos (zv_10 h5)]; done)
      · skip
        refine zr_iload_n hx hb kd_Mo_point_19 hl rfl ?_
        refine zr_ci (zr_runS hS hK (c_Mo_noLevel l G 183 zs M _) km_Mo_130 hI rfl hl.1 (Nat.le_of_ble_eq_true rfl) (by decide) (by decide) kd_Mo_point_20 rfl) hI (fun r20 M20 H locs hp20 hI => ?_)
        obtain ⟨rfl, hM20⟩ := hp20
        rw [hM20] at hI
        refine lv_if_eq (tgt := 30) hx hb kd_Mo_point_23 (by decide) (fun h23 => ?_) (fun h23 => ?_)
        · skip
          refine lv_iconst (v := 0) hx hb kd_Mo_point_30 (by decide) ?_
          refine rest _ _ _ _ ?_ hl hI
          unfold zv_pt
          first
          | (rw [if_neg (zv_01 h5), if_neg (fun g => (zv_in0.mp g).elim h9 (fun q => h16 (t1024.mpr q))), if_neg (zv_01 h23)]; done)
          | (rw [if_neg (zv_01 h5), if_neg (fun g => (zv_in0.mp g).elim h9 (fun q => h16 (t1024.mpr q))), if_pos (zv_10 h23)]; done)
          | (rw [if_neg (zv_01 h5), if_pos (zv_in0.mpr (Or.inr (t1024.mp h16)))]; done)
          | (rw [if_neg (zv_01 h5), if_pos (zv_in0.mpr (Or.inl h9))]; done)
          | (rw [if_pos (zv_10 h5)]; done)
        · skip
          refine lv_iconst (v := 1) hx hb kd_Mo_point_26 (by decide) ?_
          refine lv_goto (tgt := 31) hx hb kd_Mo_point_27 (by decide) ?_
          refine rest _ _ _ _ ?_ hl hI
          unfold zv_pt
          first
          | (rw [if_neg (zv_01 h5), if_neg (fun g => (zv_in0.mp g).elim h9 (fun q => h16 (t1024.mpr q))), if_neg (zv_01 h23)]; done)
          | (rw [if_neg (zv_01 h5), if_neg (fun g => (zv_in0.mp g).elim h9 (fun q => h16 (t1024.mpr q))), if_pos (zv_10 h23)]; done)
          | (rw [if_neg (zv_01 h5), if_pos (zv_in0.mpr (Or.inr (t1024.mp h16)))]; done)
          | (rw [if_neg (zv_01 h5), if_pos (zv_in0.mpr (Or.inl h9))]; done)
          | (rw [if_pos (zv_10 h5)]; done)

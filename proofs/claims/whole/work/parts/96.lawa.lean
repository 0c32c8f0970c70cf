/-! The law's cases, printed by gen/mklaw.py out of the bytes. -/
set_option maxRecDepth 100000 in
set_option maxHeartbeats 4000000 in
theorem q_samples {p : Program} {l : Launch} {e : Env} {s : State} {m : MethodId} {below : List Frame} {meth : Method} {c : Code} {b L : Nat} {xs : Nat → Int32} {G : zg_T} {Q : State → Prop} (C : zz_C p l s m c b L xs G) {j cells slots : Nat} {M : zm_T} {H : Heap} {locs : List Loc} {ls : Array Slot} (hj : 6 * j + 6 ≤ L) (hc : cells + 1 ≤ 601024) (hsl : slots + 6 ≤ 7293034) (hJ : zJ M) (hI : zy_I G M s H locs) (hl : zl_has ls 8 (zz_V b G (6 * j)))
    (hN : ∀ (M : zm_T) (H : Heap) (locs : List Loc) (ls : Array Slot), zJ M → zy_I G M s H locs → zl_has ls 8 (zz_V b G (6 * j)) → W p l e room_1 s m #[Value.ref b] below meth c H locs (cells + 1) (slots + 6) Q (F0 m 1443 ls [])) : W p l e room_1 s m #[Value.ref b] below meth c H locs cells slots Q (F0 m 128 ls []) := by
  obtain ⟨hS, hK, hX, hxs, hb0, hbA, hL3, hfl⟩ := C
  have hx := hS.1
  have hb := hS.2.1
  have hl : zl_has ls 8 [some (.ref b), some (.ref (G.2.2.1 + 0)), some (.ref (G.2.2.1 + 151)), some (.ref (G.2.2.1 + 182)), some (.int (nI (6 * j))), none, none, none] := hl
  refine zr_aload_n hx hb kd_Lw_128 hl rfl ?_
  refine zr_aload_n hx hb kd_Lw_129 hl rfl ?_
  refine zr_iload hx hb kd_Lw_130 hl rfl ?_
  refine lv_iconst (v := 1) hx hb kd_Lw_132 (by decide) ?_
  refine lv_iadd hx hb kd_Lw_133 ?_
  refine zq_s (j := j) (k := 1) hS hxs hb0 hbA hI rfl (by omega) hL3 kd_Lw_134 ?_
  refine zr_aload_n hx hb kd_Lw_135 hl rfl ?_
  refine zr_iload hx hb kd_Lw_136 hl rfl ?_
  refine lv_iconst (v := 2) hx hb kd_Lw_138 (by decide) ?_
  refine lv_iadd hx hb kd_Lw_139 ?_
  refine zq_s (j := j) (k := 2) hS hxs hb0 hbA hI rfl (by omega) hL3 kd_Lw_140 ?_
  refine zr_aload_n hx hb kd_Lw_141 hl rfl ?_
  refine zr_iload hx hb kd_Lw_142 hl rfl ?_
  refine lv_iconst (v := 3) hx hb kd_Lw_144 (by decide) ?_
  refine lv_iadd hx hb kd_Lw_145 ?_
  refine zq_s (j := j) (k := 3) hS hxs hb0 hbA hI rfl (by omega) hL3 kd_Lw_146 ?_
  refine lv_i2l hx hb kd_Lw_147 rfl ?_
  refine lv_bipush (v := 32) hx hb kd_Lw_148 (by decide) ?_
  refine lv_lshl hx hb kd_Lw_150 rfl ?_
  refine zr_aload_n hx hb kd_Lw_151 hl rfl ?_
  refine zr_iload hx hb kd_Lw_152 hl rfl ?_
  refine lv_iconst (v := 4) hx hb kd_Lw_154 (by decide) ?_
  refine lv_iadd hx hb kd_Lw_155 ?_
  refine zq_s (j := j) (k := 4) hS hxs hb0 hbA hI rfl (by omega) hL3 kd_Lw_156 ?_
  refine lv_i2l hx hb kd_Lw_157 rfl ?_
  refine lv_ldc2 (v := 4294967295) hx hb hS.2.2.2.1 (hS.2.2.2.2 _ (zw_mem (i := 1315) (w := .constantLong "StripMixerLaw" 87 4294967295) (by decide +kernel) rfl)) kd_Lw_158 ?_
  refine lv_land hx hb kd_Lw_161 ?_
  refine lv_lor hx hb kd_Lw_162 ?_
  have hkw : zl_W 89 ky_La_samples kc_La_samples 6 4 [((0 : Nat), (7 : Nat), (10 : Nat), (13 : Nat)), ((0 : Nat), (7 : Nat), (14 : Nat), (15 : Nat))] := ⟨zw_mem (i := 263) rfl rfl, zw_mem (i := 264) rfl rfl, zw_mem (i := 31) rfl rfl, zw_mem (i := 265) rfl rfl, ⟨by decide +kernel, by decide +kernel, by decide +kernel⟩⟩
  refine zq_ci (zq_runS hS hK hX (w_samples l hfl G M hJ.1 _ _ _) hkw hI rfl hl.1 (Nat.le_of_ble_eq_true rfl) (by decide) ⟨hc, hsl⟩ kd_Lw_163 rfl) hI (fun k1 M1 H locs hp1 hI => ?_)
  have hL1 := r_samples hJ hp1
  refine zr_istore hx hb kd_Lw_166 hl (by decide) rfl (fun ls hl => ?_)
  refine zr_aload_n hx hb kd_Lw_168 hl rfl ?_
  refine zr_aload_n hx hb kd_Lw_169 hl rfl ?_
  refine zr_iload hx hb kd_Lw_170 hl rfl ?_
  refine lv_iconst (v := 1) hx hb kd_Lw_172 (by decide) ?_
  refine lv_iadd hx hb kd_Lw_173 ?_
  refine zq_s (j := j) (k := 1) hS hxs hb0 hbA hI rfl (by omega) hL3 kd_Lw_174 ?_
  refine zr_aload_n hx hb kd_Lw_175 hl rfl ?_
  refine zr_iload hx hb kd_Lw_176 hl rfl ?_
  refine lv_iconst (v := 2) hx hb kd_Lw_178 (by decide) ?_
  refine lv_iadd hx hb kd_Lw_179 ?_
  refine zq_s (j := j) (k := 2) hS hxs hb0 hbA hI rfl (by omega) hL3 kd_Lw_180 ?_
  refine zr_aload_n hx hb kd_Lw_181 hl rfl ?_
  refine zr_iload hx hb kd_Lw_182 hl rfl ?_
  refine lv_iconst (v := 3) hx hb kd_Lw_184 (by decide) ?_
  refine lv_iadd hx hb kd_Lw_185 ?_
  refine zq_s (j := j) (k := 3) hS hxs hb0 hbA hI rfl (by omega) hL3 kd_Lw_186 ?_
  refine lv_i2l hx hb kd_Lw_187 rfl ?_
  refine lv_bipush (v := 32) hx hb kd_Lw_188 (by decide) ?_
  refine lv_lshl hx hb kd_Lw_190 rfl ?_
  refine zr_aload_n hx hb kd_Lw_191 hl rfl ?_
  refine zr_iload hx hb kd_Lw_192 hl rfl ?_
  refine lv_iconst (v := 4) hx hb kd_Lw_194 (by decide) ?_
  refine lv_iadd hx hb kd_Lw_195 ?_
  refine zq_s (j := j) (k := 4) hS hxs hb0 hbA hI rfl (by omega) hL3 kd_Lw_196 ?_
  refine lv_i2l hx hb kd_Lw_197 rfl ?_
  refine lv_ldc2 (v := 4294967295) hx hb hS.2.2.2.1 (hS.2.2.2.2 _ (zw_mem (i := 1315) (w := .constantLong "StripMixerLaw" 87 4294967295) (by decide +kernel) rfl)) kd_Lw_198 ?_
  refine lv_land hx hb kd_Lw_201 ?_
  refine lv_lor hx hb kd_Lw_202 ?_
  refine zq_cv (zq_run hS hK hX (zy_lv (c_Mo_samples l G M1 hL1 _ _ _)) km_La_94 (zw_mem (i := 1142) rfl rfl) hI rfl hl.1 (Nat.le_of_ble_eq_true rfl) (by decide) ⟨hc, hsl⟩ kd_Lw_203 rfl) hI (fun M2 H locs hp2 hI => ?_)
  obtain ⟨hk, hJ2⟩ := s_samples hJ hp1 hp2
  refine zr_aload_n hx hb kd_Lw_206 hl rfl ?_
  refine zq_ci (zq_run hS hK hX (zy_li (c_Mo_thrown l G M2 hJ2.1)) km_La_95 (zw_mem (i := 1138) rfl rfl) hI rfl hl.1 (Nat.le_of_ble_eq_true rfl) (by decide) ⟨hc, hsl⟩ kd_Lw_207 rfl) hI (fun r3 M3 H locs hp3 hI => ?_)
  obtain ⟨hr3, hM3⟩ := hp3
  rw [hM3] at hI
  rw [hr3, hk]
  refine zr_iload hx hb kd_Lw_210 hl rfl ?_
  refine lv_icmp_eq (tgt := 217) hx hb kd_Lw_212 (by decide) (fun _ => ?_) (fun h => absurd rfl h)
  refine lv_goto (tgt := 1443) hx hb kd_Lw_217 (by decide) ?_
  exact hN _ _ _ _ hJ2 hI (zl_cut hl)
set_option maxRecDepth 100000 in
set_option maxHeartbeats 4000000 in
theorem q_seal {p : Program} {l : Launch} {e : Env} {s : State} {m : MethodId} {below : List Frame} {meth : Method} {c : Code} {b L : Nat} {xs : Nat → Int32} {G : zg_T} {Q : State → Prop} (C : zz_C p l s m c b L xs G) {j cells slots : Nat} {M : zm_T} {H : Heap} {locs : List Loc} {ls : Array Slot} (hj : 6 * j + 6 ≤ L) (hc : cells + 1 ≤ 601024) (hsl : slots + 6 ≤ 7293034) (hJ : zJ M) (hI : zy_I G M s H locs) (hl : zl_has ls 8 (zz_V b G (6 * j)))
    (hN : ∀ (M : zm_T) (H : Heap) (locs : List Loc) (ls : Array Slot), zJ M → zy_I G M s H locs → zl_has ls 8 (zz_V b G (6 * j)) → W p l e room_1 s m #[Value.ref b] below meth c H locs (cells + 1) (slots + 6) Q (F0 m 1443 ls [])) : W p l e room_1 s m #[Value.ref b] below meth c H locs cells slots Q (F0 m 220 ls []) := by
  obtain ⟨hS, hK, hX, hxs, hb0, hbA, hL3, hfl⟩ := C
  have hx := hS.1
  have hb := hS.2.1
  have hl : zl_has ls 8 [some (.ref b), some (.ref (G.2.2.1 + 0)), some (.ref (G.2.2.1 + 151)), some (.ref (G.2.2.1 + 182)), some (.int (nI (6 * j))), none, none, none] := hl
  refine zr_aload_n hx hb kd_Lw_220 hl rfl ?_
  refine zr_aload_n hx hb kd_Lw_221 hl rfl ?_
  refine zr_iload hx hb kd_Lw_222 hl rfl ?_
  refine lv_iconst (v := 1) hx hb kd_Lw_224 (by decide) ?_
  refine lv_iadd hx hb kd_Lw_225 ?_
  refine zq_s (j := j) (k := 1) hS hxs hb0 hbA hI rfl (by omega) hL3 kd_Lw_226 ?_
  refine zr_aload_n hx hb kd_Lw_227 hl rfl ?_
  refine zr_iload hx hb kd_Lw_228 hl rfl ?_
  refine lv_iconst (v := 2) hx hb kd_Lw_230 (by decide) ?_
  refine lv_iadd hx hb kd_Lw_231 ?_
  refine zq_s (j := j) (k := 2) hS hxs hb0 hbA hI rfl (by omega) hL3 kd_Lw_232 ?_
  have hkw : zl_W 99 ky_La_seal kc_La_seal 4 3 [((0 : Nat), (6 : Nat), (9 : Nat), (13 : Nat)), ((0 : Nat), (6 : Nat), (12 : Nat), (21 : Nat)), ((0 : Nat), (6 : Nat), (15 : Nat), (15 : Nat))] := ⟨zw_mem (i := 364) rfl rfl, zw_mem (i := 365) rfl rfl, zw_mem (i := 31) rfl rfl, zw_mem (i := 366) rfl rfl, ⟨by decide +kernel, by decide +kernel, by decide +kernel⟩⟩
  refine zq_ci (zq_runS hS hK hX (w_seal l hfl G M hJ.1 _ _) hkw hI rfl hl.1 (Nat.le_of_ble_eq_true rfl) (by decide) ⟨hc, hsl⟩ kd_Lw_233 rfl) hI (fun k1 M1 H locs hp1 hI => ?_)
  have hL1 := r_seal hJ hp1
  refine zr_istore hx hb kd_Lw_236 hl (by decide) rfl (fun ls hl => ?_)
  refine zr_aload_n hx hb kd_Lw_238 hl rfl ?_
  refine zr_aload_n hx hb kd_Lw_239 hl rfl ?_
  refine zr_iload hx hb kd_Lw_240 hl rfl ?_
  refine lv_iconst (v := 1) hx hb kd_Lw_242 (by decide) ?_
  refine lv_iadd hx hb kd_Lw_243 ?_
  refine zq_s (j := j) (k := 1) hS hxs hb0 hbA hI rfl (by omega) hL3 kd_Lw_244 ?_
  refine zr_aload_n hx hb kd_Lw_245 hl rfl ?_
  refine zr_iload hx hb kd_Lw_246 hl rfl ?_
  refine lv_iconst (v := 2) hx hb kd_Lw_248 (by decide) ?_
  refine lv_iadd hx hb kd_Lw_249 ?_
  refine zq_s (j := j) (k := 2) hS hxs hb0 hbA hI rfl (by omega) hL3 kd_Lw_250 ?_
  refine zq_cv (zq_run hS hK hX (zy_lv (c_Mo_seal l G M1 hL1 _ _)) km_La_102 (zw_mem (i := 1148) rfl rfl) hI rfl hl.1 (Nat.le_of_ble_eq_true rfl) (by decide) ⟨hc, hsl⟩ kd_Lw_251 rfl) hI (fun M2 H locs hp2 hI => ?_)
  obtain ⟨hk, hJ2⟩ := s_seal hJ hp1 hp2
  refine zr_aload_n hx hb kd_Lw_254 hl rfl ?_
  refine zq_ci (zq_run hS hK hX (zy_li (c_Mo_thrown l G M2 hJ2.1)) km_La_95 (zw_mem (i := 1138) rfl rfl) hI rfl hl.1 (Nat.le_of_ble_eq_true rfl) (by decide) ⟨hc, hsl⟩ kd_Lw_255 rfl) hI (fun r3 M3 H locs hp3 hI => ?_)
  obtain ⟨hr3, hM3⟩ := hp3
  rw [hM3] at hI
  rw [hr3, hk]
  refine zr_iload hx hb kd_Lw_258 hl rfl ?_
  refine lv_icmp_eq (tgt := 265) hx hb kd_Lw_260 (by decide) (fun _ => ?_) (fun h => absurd rfl h)
  refine lv_goto (tgt := 1443) hx hb kd_Lw_265 (by decide) ?_
  exact hN _ _ _ _ hJ2 hI (zl_cut hl)
set_option maxRecDepth 100000 in
set_option maxHeartbeats 4000000 in
theorem q_take {p : Program} {l : Launch} {e : Env} {s : State} {m : MethodId} {below : List Frame} {meth : Method} {c : Code} {b L : Nat} {xs : Nat → Int32} {G : zg_T} {Q : State → Prop} (C : zz_C p l s m c b L xs G) {j cells slots : Nat} {M : zm_T} {H : Heap} {locs : List Loc} {ls : Array Slot} (hj : 6 * j + 6 ≤ L) (hc : cells + 1 ≤ 601024) (hsl : slots + 6 ≤ 7293034) (hJ : zJ M) (hI : zy_I G M s H locs) (hl : zl_has ls 8 (zz_V b G (6 * j)))
    (hN : ∀ (M : zm_T) (H : Heap) (locs : List Loc) (ls : Array Slot), zJ M → zy_I G M s H locs → zl_has ls 8 (zz_V b G (6 * j)) → W p l e room_1 s m #[Value.ref b] below meth c H locs (cells + 1) (slots + 6) Q (F0 m 1443 ls [])) : W p l e room_1 s m #[Value.ref b] below meth c H locs cells slots Q (F0 m 268 ls []) := by
  obtain ⟨hS, hK, hX, hxs, hb0, hbA, hL3, hfl⟩ := C
  have hx := hS.1
  have hb := hS.2.1
  have hl : zl_has ls 8 [some (.ref b), some (.ref (G.2.2.1 + 0)), some (.ref (G.2.2.1 + 151)), some (.ref (G.2.2.1 + 182)), some (.int (nI (6 * j))), none, none, none] := hl
  refine zr_aload_n hx hb kd_Lw_268 hl rfl ?_
  refine zr_aload_n hx hb kd_Lw_269 hl rfl ?_
  refine zr_iload hx hb kd_Lw_270 hl rfl ?_
  refine lv_iconst (v := 1) hx hb kd_Lw_272 (by decide) ?_
  refine lv_iadd hx hb kd_Lw_273 ?_
  refine zq_s (j := j) (k := 1) hS hxs hb0 hbA hI rfl (by omega) hL3 kd_Lw_274 ?_
  refine zr_aload_n hx hb kd_Lw_275 hl rfl ?_
  refine zr_iload hx hb kd_Lw_276 hl rfl ?_
  refine lv_iconst (v := 2) hx hb kd_Lw_278 (by decide) ?_
  refine lv_iadd hx hb kd_Lw_279 ?_
  refine zq_s (j := j) (k := 2) hS hxs hb0 hbA hI rfl (by omega) hL3 kd_Lw_280 ?_
  refine zr_aload_n hx hb kd_Lw_281 hl rfl ?_
  have hkw : zl_W 103 ky_La_take kc_La_take 5 4 [((0 : Nat), (10 : Nat), (13 : Nat), (13 : Nat))] := ⟨zw_mem (i := 387) rfl rfl, zw_mem (i := 388) rfl rfl, zw_mem (i := 31) rfl rfl, zw_mem (i := 389) rfl rfl, ⟨by decide +kernel, by decide +kernel, by decide +kernel⟩⟩
  refine zq_ci (zq_runS hS hK hX (w_take l hfl G M hJ.1 _ _ (fun k hk => by obtain ⟨a, b, c, -⟩ := hJ.2.1 k hk; rw [a]; exact ⟨b, c⟩)) hkw hI rfl hl.1 (Nat.le_of_ble_eq_true rfl) (by decide) ⟨hc, hsl⟩ kd_Lw_282 rfl) hI (fun k1 M1 H locs hp1 hI => ?_)
  have hL1 := r_take hJ hp1
  refine zr_istore hx hb kd_Lw_285 hl (by decide) rfl (fun ls hl => ?_)
  refine zr_aload_n hx hb kd_Lw_287 hl rfl ?_
  refine zr_aload_n hx hb kd_Lw_288 hl rfl ?_
  refine zr_iload hx hb kd_Lw_289 hl rfl ?_
  refine lv_iconst (v := 1) hx hb kd_Lw_291 (by decide) ?_
  refine lv_iadd hx hb kd_Lw_292 ?_
  refine zq_s (j := j) (k := 1) hS hxs hb0 hbA hI rfl (by omega) hL3 kd_Lw_293 ?_
  refine zr_aload_n hx hb kd_Lw_294 hl rfl ?_
  refine zr_iload hx hb kd_Lw_295 hl rfl ?_
  refine lv_iconst (v := 2) hx hb kd_Lw_297 (by decide) ?_
  refine lv_iadd hx hb kd_Lw_298 ?_
  refine zq_s (j := j) (k := 2) hS hxs hb0 hbA hI rfl (by omega) hL3 kd_Lw_299 ?_
  refine zq_ci (zq_run hS hK hX (zy_li (c_Mo_take l G M1 hL1 _ _ (fun k hk => by rw [e_take hp1 _ _ (by decide)]; exact ⟨(hJ.2.1 k hk).2.1, (hJ.2.1 k hk).2.2.1⟩))) km_La_106 (zw_mem (i := 1152) rfl rfl) hI rfl hl.1 (Nat.le_of_ble_eq_true rfl) (by decide) ⟨hc, hsl⟩ kd_Lw_300 rfl) hI (fun rb M2 H locs hp2 hI => ?_)
  obtain ⟨hk, hJ2, hv⟩ := s_take hJ hp1 hp2
  refine zr_istore hx hb kd_Lw_303 hl (by decide) rfl (fun ls hl => ?_)
  refine zr_aload_n hx hb kd_Lw_305 hl rfl ?_
  refine zq_ci (zq_run hS hK hX (zy_li (c_Mo_thrown l G M2 hJ2.1)) km_La_95 (zw_mem (i := 1138) rfl rfl) hI rfl hl.1 (Nat.le_of_ble_eq_true rfl) (by decide) ⟨hc, hsl⟩ kd_Lw_306 rfl) hI (fun r3 M3 H locs hp3 hI => ?_)
  obtain ⟨hr3, hM3⟩ := hp3
  rw [hM3] at hI
  rw [hr3, hk]
  refine zr_iload hx hb kd_Lw_309 hl rfl ?_
  refine lv_icmp_eq (tgt := 316) hx hb kd_Lw_311 (by decide) (fun _ => ?_) (fun h => absurd rfl h)
  refine zr_iload hx hb kd_Lw_316 hl rfl ?_
  refine lv_if_ne (tgt := 333) hx hb kd_Lw_318 (by decide) (fun h318 => ?_) (fun h318 => ?_)
  · skip
    refine lv_goto (tgt := 1443) hx hb kd_Lw_333 (by decide) ?_
    exact hN _ _ _ _ hJ2 hI (zl_cut hl)
  · skip
    refine zr_aload_n hx hb kd_Lw_321 hl rfl ?_
    refine lv_iconst (v := 0) hx hb kd_Lw_322 (by decide) ?_
    refine zr_lald hS hK hI.1 (a := 182) (n := 1) (by decide) (by decide +kernel) (vp_in_iff.mpr (by decide)) kd_Lw_323 ?_
    refine zr_iload hx hb kd_Lw_324 hl rfl ?_
    refine lv_i2l hx hb kd_Lw_326 rfl ?_
    refine W.lcmp hx hb kd_Lw_327 ?_
    refine lv_if_eq (tgt := 333) hx hb kd_Lw_328 (by decide) (fun _ => ?_) (fun h => absurd (by show lg_cmp (M2.2.2 182 0) _ = 0; rw [hv h318]; exact zq_cmp _) h)
    refine lv_goto (tgt := 1443) hx hb kd_Lw_333 (by decide) ?_
    exact hN _ _ _ _ hJ2 hI (zl_cut hl)
set_option maxRecDepth 100000 in
set_option maxHeartbeats 4000000 in
theorem q_clip {p : Program} {l : Launch} {e : Env} {s : State} {m : MethodId} {below : List Frame} {meth : Method} {c : Code} {b L : Nat} {xs : Nat → Int32} {G : zg_T} {Q : State → Prop} (C : zz_C p l s m c b L xs G) {j cells slots : Nat} {M : zm_T} {H : Heap} {locs : List Loc} {ls : Array Slot} (hj : 6 * j + 6 ≤ L) (hc : cells + 1 ≤ 601024) (hsl : slots + 6 ≤ 7293034) (hJ : zJ M) (hI : zy_I G M s H locs) (hl : zl_has ls 8 (zz_V b G (6 * j)))
    (hN : ∀ (M : zm_T) (H : Heap) (locs : List Loc) (ls : Array Slot), zJ M → zy_I G M s H locs → zl_has ls 8 (zz_V b G (6 * j)) → W p l e room_1 s m #[Value.ref b] below meth c H locs (cells + 1) (slots + 6) Q (F0 m 1443 ls [])) : W p l e room_1 s m #[Value.ref b] below meth c H locs cells slots Q (F0 m 336 ls []) := by
  obtain ⟨hS, hK, hX, hxs, hb0, hbA, hL3, hfl⟩ := C
  have hx := hS.1
  have hb := hS.2.1
  have hl : zl_has ls 8 [some (.ref b), some (.ref (G.2.2.1 + 0)), some (.ref (G.2.2.1 + 151)), some (.ref (G.2.2.1 + 182)), some (.int (nI (6 * j))), none, none, none] := hl
  refine zr_aload_n hx hb kd_Lw_336 hl rfl ?_
  refine zr_aload_n hx hb kd_Lw_337 hl rfl ?_
  refine zr_iload hx hb kd_Lw_338 hl rfl ?_
  refine lv_iconst (v := 1) hx hb kd_Lw_340 (by decide) ?_
  refine lv_iadd hx hb kd_Lw_341 ?_
  refine zq_s (j := j) (k := 1) hS hxs hb0 hbA hI rfl (by omega) hL3 kd_Lw_342 ?_
  refine zr_aload_n hx hb kd_Lw_343 hl rfl ?_
  refine zr_iload hx hb kd_Lw_344 hl rfl ?_
  refine lv_iconst (v := 2) hx hb kd_Lw_346 (by decide) ?_
  refine lv_iadd hx hb kd_Lw_347 ?_
  refine zq_s (j := j) (k := 2) hS hxs hb0 hbA hI rfl (by omega) hL3 kd_Lw_348 ?_
  refine zr_aload_n hx hb kd_Lw_349 hl rfl ?_
  refine zr_iload hx hb kd_Lw_350 hl rfl ?_
  refine lv_iconst (v := 3) hx hb kd_Lw_352 (by decide) ?_
  refine lv_iadd hx hb kd_Lw_353 ?_
  refine zq_s (j := j) (k := 3) hS hxs hb0 hbA hI rfl (by omega) hL3 kd_Lw_354 ?_
  refine zr_aload_n hx hb kd_Lw_355 hl rfl ?_
  refine zr_iload hx hb kd_Lw_356 hl rfl ?_
  refine lv_iconst (v := 4) hx hb kd_Lw_358 (by decide) ?_
  refine lv_iadd hx hb kd_Lw_359 ?_
  refine zq_s (j := j) (k := 4) hS hxs hb0 hbA hI rfl (by omega) hL3 kd_Lw_360 ?_
  refine zr_aload_n hx hb kd_Lw_361 hl rfl ?_
  refine zr_iload hx hb kd_Lw_362 hl rfl ?_
  refine lv_iconst (v := 5) hx hb kd_Lw_364 (by decide) ?_
  refine lv_iadd hx hb kd_Lw_365 ?_
  refine zq_s (j := j) (k := 5) hS hxs hb0 hbA hI rfl (by omega) hL3 kd_Lw_366 ?_
  refine zr_aload_n hx hb kd_Lw_367 hl rfl ?_
  have hkw : zl_W 107 ky_La_clip kc_La_clip 8 7 [((0 : Nat), (16 : Nat), (19 : Nat), (21 : Nat)), ((0 : Nat), (16 : Nat), (23 : Nat), (15 : Nat))] := ⟨zw_mem (i := 399) rfl rfl, zw_mem (i := 400) rfl rfl, zw_mem (i := 31) rfl rfl, zw_mem (i := 401) rfl rfl, ⟨by decide +kernel, by decide +kernel, by decide +kernel⟩⟩
  refine zq_ci (zq_runS hS hK hX (w_clip l hfl G M hJ.1 _ _ _ _ _) hkw hI rfl hl.1 (Nat.le_of_ble_eq_true rfl) (by decide) ⟨hc, hsl⟩ kd_Lw_368 rfl) hI (fun k1 M1 H locs hp1 hI => ?_)
  have hL1 := r_clip hJ hp1
  refine zr_istore hx hb kd_Lw_371 hl (by decide) rfl (fun ls hl => ?_)
  refine zr_aload_n hx hb kd_Lw_373 hl rfl ?_
  refine zr_aload_n hx hb kd_Lw_374 hl rfl ?_
  refine zr_iload hx hb kd_Lw_375 hl rfl ?_
  refine lv_iconst (v := 1) hx hb kd_Lw_377 (by decide) ?_
  refine lv_iadd hx hb kd_Lw_378 ?_
  refine zq_s (j := j) (k := 1) hS hxs hb0 hbA hI rfl (by omega) hL3 kd_Lw_379 ?_
  refine zr_aload_n hx hb kd_Lw_380 hl rfl ?_
  refine zr_iload hx hb kd_Lw_381 hl rfl ?_
  refine lv_iconst (v := 2) hx hb kd_Lw_383 (by decide) ?_
  refine lv_iadd hx hb kd_Lw_384 ?_
  refine zq_s (j := j) (k := 2) hS hxs hb0 hbA hI rfl (by omega) hL3 kd_Lw_385 ?_
  refine zr_aload_n hx hb kd_Lw_386 hl rfl ?_
  refine zr_iload hx hb kd_Lw_387 hl rfl ?_
  refine lv_iconst (v := 3) hx hb kd_Lw_389 (by decide) ?_
  refine lv_iadd hx hb kd_Lw_390 ?_
  refine zq_s (j := j) (k := 3) hS hxs hb0 hbA hI rfl (by omega) hL3 kd_Lw_391 ?_
  refine zr_aload_n hx hb kd_Lw_392 hl rfl ?_
  refine zr_iload hx hb kd_Lw_393 hl rfl ?_
  refine lv_iconst (v := 4) hx hb kd_Lw_395 (by decide) ?_
  refine lv_iadd hx hb kd_Lw_396 ?_
  refine zq_s (j := j) (k := 4) hS hxs hb0 hbA hI rfl (by omega) hL3 kd_Lw_397 ?_
  refine zr_aload_n hx hb kd_Lw_398 hl rfl ?_
  refine zr_iload hx hb kd_Lw_399 hl rfl ?_
  refine lv_iconst (v := 5) hx hb kd_Lw_401 (by decide) ?_
  refine lv_iadd hx hb kd_Lw_402 ?_
  refine zq_s (j := j) (k := 5) hS hxs hb0 hbA hI rfl (by omega) hL3 kd_Lw_403 ?_
  refine zq_ci (zq_run hS hK hX (zy_li (c_Mo_clip l G M1 hL1 _ _ _ _ _)) km_La_110 (zw_mem (i := 1156) rfl rfl) hI rfl hl.1 (Nat.le_of_ble_eq_true rfl) (by decide) ⟨hc, hsl⟩ kd_Lw_404 rfl) hI (fun rb M2 H locs hp2 hI => ?_)
  obtain ⟨hk, hJ2, hv⟩ := s_clip hJ hp1 hp2
  refine zr_istore hx hb kd_Lw_407 hl (by decide) rfl (fun ls hl => ?_)
  refine zr_aload_n hx hb kd_Lw_409 hl rfl ?_
  refine zq_ci (zq_run hS hK hX (zy_li (c_Mo_thrown l G M2 hJ2.1)) km_La_95 (zw_mem (i := 1138) rfl rfl) hI rfl hl.1 (Nat.le_of_ble_eq_true rfl) (by decide) ⟨hc, hsl⟩ kd_Lw_410 rfl) hI (fun r3 M3 H locs hp3 hI => ?_)
  obtain ⟨hr3, hM3⟩ := hp3
  rw [hM3] at hI
  rw [hr3, hk]
  refine zr_iload hx hb kd_Lw_413 hl rfl ?_
  refine lv_icmp_eq (tgt := 420) hx hb kd_Lw_415 (by decide) (fun _ => ?_) (fun h => absurd rfl h)
  refine zr_iload hx hb kd_Lw_420 hl rfl ?_
  refine lv_if_ne (tgt := 437) hx hb kd_Lw_422 (by decide) (fun h422 => ?_) (fun h422 => ?_)
  · skip
    refine lv_goto (tgt := 1443) hx hb kd_Lw_437 (by decide) ?_
    exact hN _ _ _ _ hJ2 hI (zl_cut hl)
  · skip
    refine zr_aload_n hx hb kd_Lw_425 hl rfl ?_
    refine lv_iconst (v := 0) hx hb kd_Lw_426 (by decide) ?_
    refine zr_lald hS hK hI.1 (a := 182) (n := 1) (by decide) (by decide +kernel) (vp_in_iff.mpr (by decide)) kd_Lw_427 ?_
    refine zr_iload hx hb kd_Lw_428 hl rfl ?_
    refine lv_i2l hx hb kd_Lw_430 rfl ?_
    refine W.lcmp hx hb kd_Lw_431 ?_
    refine lv_if_eq (tgt := 437) hx hb kd_Lw_432 (by decide) (fun _ => ?_) (fun h => absurd (by show lg_cmp (M2.2.2 182 0) _ = 0; rw [hv h422]; exact zq_cmp _) h)
    refine lv_goto (tgt := 1443) hx hb kd_Lw_437 (by decide) ?_
    exact hN _ _ _ _ hJ2 hI (zl_cut hl)
set_option maxRecDepth 100000 in
set_option maxHeartbeats 4000000 in
theorem q_drop {p : Program} {l : Launch} {e : Env} {s : State} {m : MethodId} {below : List Frame} {meth : Method} {c : Code} {b L : Nat} {xs : Nat → Int32} {G : zg_T} {Q : State → Prop} (C : zz_C p l s m c b L xs G) {j cells slots : Nat} {M : zm_T} {H : Heap} {locs : List Loc} {ls : Array Slot} (hj : 6 * j + 6 ≤ L) (hc : cells + 1 ≤ 601024) (hsl : slots + 6 ≤ 7293034) (hJ : zJ M) (hI : zy_I G M s H locs) (hl : zl_has ls 8 (zz_V b G (6 * j)))
    (hN : ∀ (M : zm_T) (H : Heap) (locs : List Loc) (ls : Array Slot), zJ M → zy_I G M s H locs → zl_has ls 8 (zz_V b G (6 * j)) → W p l e room_1 s m #[Value.ref b] below meth c H locs (cells + 1) (slots + 6) Q (F0 m 1443 ls [])) : W p l e room_1 s m #[Value.ref b] below meth c H locs cells slots Q (F0 m 440 ls []) := by
  obtain ⟨hS, hK, hX, hxs, hb0, hbA, hL3, hfl⟩ := C
  have hx := hS.1
  have hb := hS.2.1
  have hl : zl_has ls 8 [some (.ref b), some (.ref (G.2.2.1 + 0)), some (.ref (G.2.2.1 + 151)), some (.ref (G.2.2.1 + 182)), some (.int (nI (6 * j))), none, none, none] := hl
  refine zr_aload_n hx hb kd_Lw_440 hl rfl ?_
  refine zr_aload_n hx hb kd_Lw_441 hl rfl ?_
  refine zr_iload hx hb kd_Lw_442 hl rfl ?_
  refine lv_iconst (v := 1) hx hb kd_Lw_444 (by decide) ?_
  refine lv_iadd hx hb kd_Lw_445 ?_
  refine zq_s (j := j) (k := 1) hS hxs hb0 hbA hI rfl (by omega) hL3 kd_Lw_446 ?_
  have hkw : zl_W 111 ky_La_drop kc_La_drop 3 2 [((0 : Nat), (5 : Nat), (8 : Nat), (35 : Nat))] := ⟨zw_mem (i := 430) rfl rfl, zw_mem (i := 431) rfl rfl, zw_mem (i := 31) rfl rfl, zw_mem (i := 432) rfl rfl, ⟨by decide +kernel, by decide +kernel, by decide +kernel⟩⟩
  refine zq_ci (zq_runS hS hK hX (w_drop l hfl G M hJ.1 _) hkw hI rfl hl.1 (Nat.le_of_ble_eq_true rfl) (by decide) ⟨hc, hsl⟩ kd_Lw_447 rfl) hI (fun k1 M1 H locs hp1 hI => ?_)
  have hL1 := r_drop hJ hp1
  refine zr_istore hx hb kd_Lw_450 hl (by decide) rfl (fun ls hl => ?_)
  refine zr_aload_n hx hb kd_Lw_452 hl rfl ?_
  refine zr_aload_n hx hb kd_Lw_453 hl rfl ?_
  refine zr_iload hx hb kd_Lw_454 hl rfl ?_
  refine lv_iconst (v := 1) hx hb kd_Lw_456 (by decide) ?_
  refine lv_iadd hx hb kd_Lw_457 ?_
  refine zq_s (j := j) (k := 1) hS hxs hb0 hbA hI rfl (by omega) hL3 kd_Lw_458 ?_
  refine zq_cv (zq_run hS hK hX (zy_lv (c_Mo_drop l G M1 hL1 _)) km_La_114 (zw_mem (i := 1168) rfl rfl) hI rfl hl.1 (Nat.le_of_ble_eq_true rfl) (by decide) ⟨hc, hsl⟩ kd_Lw_459 rfl) hI (fun M2 H locs hp2 hI => ?_)
  obtain ⟨hk, hJ2⟩ := s_drop hJ hp1 hp2
  refine zr_aload_n hx hb kd_Lw_462 hl rfl ?_
  refine zq_ci (zq_run hS hK hX (zy_li (c_Mo_thrown l G M2 hJ2.1)) km_La_95 (zw_mem (i := 1138) rfl rfl) hI rfl hl.1 (Nat.le_of_ble_eq_true rfl) (by decide) ⟨hc, hsl⟩ kd_Lw_463 rfl) hI (fun r3 M3 H locs hp3 hI => ?_)
  obtain ⟨hr3, hM3⟩ := hp3
  rw [hM3] at hI
  rw [hr3, hk]
  refine zr_iload hx hb kd_Lw_466 hl rfl ?_
  refine lv_icmp_eq (tgt := 473) hx hb kd_Lw_468 (by decide) (fun _ => ?_) (fun h => absurd rfl h)
  refine lv_goto (tgt := 1443) hx hb kd_Lw_473 (by decide) ?_
  exact hN _ _ _ _ hJ2 hI (zl_cut hl)
set_option maxRecDepth 100000 in
set_option maxHeartbeats 4000000 in
theorem q_move {p : Program} {l : Launch} {e : Env} {s : State} {m : MethodId} {below : List Frame} {meth : Method} {c : Code} {b L : Nat} {xs : Nat → Int32} {G : zg_T} {Q : State → Prop} (C : zz_C p l s m c b L xs G) {j cells slots : Nat} {M : zm_T} {H : Heap} {locs : List Loc} {ls : Array Slot} (hj : 6 * j + 6 ≤ L) (hc : cells + 1 ≤ 601024) (hsl : slots + 6 ≤ 7293034) (hJ : zJ M) (hI : zy_I G M s H locs) (hl : zl_has ls 8 (zz_V b G (6 * j)))
    (hN : ∀ (M : zm_T) (H : Heap) (locs : List Loc) (ls : Array Slot), zJ M → zy_I G M s H locs → zl_has ls 8 (zz_V b G (6 * j)) → W p l e room_1 s m #[Value.ref b] below meth c H locs (cells + 1) (slots + 6) Q (F0 m 1443 ls [])) : W p l e room_1 s m #[Value.ref b] below meth c H locs cells slots Q (F0 m 476 ls []) := by
  obtain ⟨hS, hK, hX, hxs, hb0, hbA, hL3, hfl⟩ := C
  have hx := hS.1
  have hb := hS.2.1
  have hl : zl_has ls 8 [some (.ref b), some (.ref (G.2.2.1 + 0)), some (.ref (G.2.2.1 + 151)), some (.ref (G.2.2.1 + 182)), some (.int (nI (6 * j))), none, none, none] := hl
  refine zr_aload_n hx hb kd_Lw_476 hl rfl ?_
  refine zr_aload_n hx hb kd_Lw_477 hl rfl ?_
  refine zr_iload hx hb kd_Lw_478 hl rfl ?_
  refine lv_iconst (v := 1) hx hb kd_Lw_480 (by decide) ?_
  refine lv_iadd hx hb kd_Lw_481 ?_
  refine zq_s (j := j) (k := 1) hS hxs hb0 hbA hI rfl (by omega) hL3 kd_Lw_482 ?_
  refine zr_aload_n hx hb kd_Lw_483 hl rfl ?_
  refine zr_iload hx hb kd_Lw_484 hl rfl ?_
  refine lv_iconst (v := 2) hx hb kd_Lw_486 (by decide) ?_
  refine lv_iadd hx hb kd_Lw_487 ?_
  refine zq_s (j := j) (k := 2) hS hxs hb0 hbA hI rfl (by omega) hL3 kd_Lw_488 ?_
  refine zr_aload_n hx hb kd_Lw_489 hl rfl ?_
  refine zr_iload hx hb kd_Lw_490 hl rfl ?_
  refine lv_iconst (v := 3) hx hb kd_Lw_492 (by decide) ?_
  refine lv_iadd hx hb kd_Lw_493 ?_
  refine zq_s (j := j) (k := 3) hS hxs hb0 hbA hI rfl (by omega) hL3 kd_Lw_494 ?_
  refine zr_aload_n hx hb kd_Lw_495 hl rfl ?_
  have hkw : zl_W 115 ky_La_move kc_La_move 6 5 [((0 : Nat), (19 : Nat), (22 : Nat), (35 : Nat)), ((0 : Nat), (19 : Nat), (26 : Nat), (21 : Nat))] := ⟨zw_mem (i := 458) rfl rfl, zw_mem (i := 459) rfl rfl, zw_mem (i := 31) rfl rfl, zw_mem (i := 460) rfl rfl, ⟨by decide +kernel, by decide +kernel, by decide +kernel⟩⟩
  refine zq_ci (zq_runS hS hK hX (w_move l hfl G M hJ.1 _ _ _) hkw hI rfl hl.1 (Nat.le_of_ble_eq_true rfl) (by decide) ⟨hc, hsl⟩ kd_Lw_496 rfl) hI (fun k1 M1 H locs hp1 hI => ?_)
  have hL1 := r_move hJ hp1
  refine zr_istore hx hb kd_Lw_499 hl (by decide) rfl (fun ls hl => ?_)
  refine zr_aload_n hx hb kd_Lw_501 hl rfl ?_
  refine zr_aload_n hx hb kd_Lw_502 hl rfl ?_
  refine zr_iload hx hb kd_Lw_503 hl rfl ?_
  refine lv_iconst (v := 1) hx hb kd_Lw_505 (by decide) ?_
  refine lv_iadd hx hb kd_Lw_506 ?_
  refine zq_s (j := j) (k := 1) hS hxs hb0 hbA hI rfl (by omega) hL3 kd_Lw_507 ?_
  refine zr_aload_n hx hb kd_Lw_508 hl rfl ?_
  refine zr_iload hx hb kd_Lw_509 hl rfl ?_
  refine lv_iconst (v := 2) hx hb kd_Lw_511 (by decide) ?_
  refine lv_iadd hx hb kd_Lw_512 ?_
  refine zq_s (j := j) (k := 2) hS hxs hb0 hbA hI rfl (by omega) hL3 kd_Lw_513 ?_
  refine zr_aload_n hx hb kd_Lw_514 hl rfl ?_
  refine zr_iload hx hb kd_Lw_515 hl rfl ?_
  refine lv_iconst (v := 3) hx hb kd_Lw_517 (by decide) ?_
  refine lv_iadd hx hb kd_Lw_518 ?_
  refine zq_s (j := j) (k := 3) hS hxs hb0 hbA hI rfl (by omega) hL3 kd_Lw_519 ?_
  refine zq_ci (zq_run hS hK hX (zy_li (c_Mo_move l G M1 hL1 _ _ _)) km_La_118 (zw_mem (i := 1176) rfl rfl) hI rfl hl.1 (Nat.le_of_ble_eq_true rfl) (by decide) ⟨hc, hsl⟩ kd_Lw_520 rfl) hI (fun rb M2 H locs hp2 hI => ?_)
  obtain ⟨hk, hJ2, hv⟩ := s_move hJ hp1 hp2
  refine zr_istore hx hb kd_Lw_523 hl (by decide) rfl (fun ls hl => ?_)
  refine zr_aload_n hx hb kd_Lw_525 hl rfl ?_
  refine zq_ci (zq_run hS hK hX (zy_li (c_Mo_thrown l G M2 hJ2.1)) km_La_95 (zw_mem (i := 1138) rfl rfl) hI rfl hl.1 (Nat.le_of_ble_eq_true rfl) (by decide) ⟨hc, hsl⟩ kd_Lw_526 rfl) hI (fun r3 M3 H locs hp3 hI => ?_)
  obtain ⟨hr3, hM3⟩ := hp3
  rw [hM3] at hI
  rw [hr3, hk]
  refine zr_iload hx hb kd_Lw_529 hl rfl ?_
  refine lv_icmp_eq (tgt := 536) hx hb kd_Lw_531 (by decide) (fun _ => ?_) (fun h => absurd rfl h)
  refine zr_iload hx hb kd_Lw_536 hl rfl ?_
  refine lv_if_ne (tgt := 560) hx hb kd_Lw_538 (by decide) (fun h538 => ?_) (fun h538 => ?_)
  · skip
    refine lv_goto (tgt := 1443) hx hb kd_Lw_560 (by decide) ?_
    exact hN _ _ _ _ hJ2 hI (zl_cut hl)
  · skip
    refine zr_aload_n hx hb kd_Lw_541 hl rfl ?_
    refine lv_iconst (v := 0) hx hb kd_Lw_542 (by decide) ?_
    refine zr_lald hS hK hI.1 (a := 182) (n := 1) (by decide) (by decide +kernel) (vp_in_iff.mpr (by decide)) kd_Lw_543 ?_
    refine zr_iload hx hb kd_Lw_544 hl rfl ?_
    refine lv_if_eq (tgt := 553) hx hb kd_Lw_546 (by decide) (fun h546 => ?_) (fun h546 => ?_)
    · skip
      refine lv_lconst (v := 0) hx hb kd_Lw_553 (by decide) ?_
      refine W.lcmp hx hb kd_Lw_554 ?_
      refine lv_if_eq (tgt := 560) hx hb kd_Lw_555 (by decide) (fun _ => ?_) (fun h => absurd (by show lg_cmp (M2.2.2 182 0) _ = 0; rw [hv h538, if_pos h546]; exact zq_cmp _) h)
      refine lv_goto (tgt := 1443) hx hb kd_Lw_560 (by decide) ?_
      exact hN _ _ _ _ hJ2 hI (zl_cut hl)
    · skip
      refine lv_lconst (v := 1) hx hb kd_Lw_549 (by decide) ?_
      refine lv_goto (tgt := 554) hx hb kd_Lw_550 (by decide) ?_
      refine W.lcmp hx hb kd_Lw_554 ?_
      refine lv_if_eq (tgt := 560) hx hb kd_Lw_555 (by decide) (fun _ => ?_) (fun h => absurd (by show lg_cmp (M2.2.2 182 0) _ = 0; rw [hv h538, if_neg h546]; exact zq_cmp _) h)
      refine lv_goto (tgt := 1443) hx hb kd_Lw_560 (by decide) ?_
      exact hN _ _ _ _ hJ2 hI (zl_cut hl)
set_option maxRecDepth 100000 in
set_option maxHeartbeats 4000000 in
theorem q_split {p : Program} {l : Launch} {e : Env} {s : State} {m : MethodId} {below : List Frame} {meth : Method} {c : Code} {b L : Nat} {xs : Nat → Int32} {G : zg_T} {Q : State → Prop} (C : zz_C p l s m c b L xs G) {j cells slots : Nat} {M : zm_T} {H : Heap} {locs : List Loc} {ls : Array Slot} (hj : 6 * j + 6 ≤ L) (hc : cells + 1 ≤ 601024) (hsl : slots + 6 ≤ 7293034) (hJ : zJ M) (hI : zy_I G M s H locs) (hl : zl_has ls 8 (zz_V b G (6 * j)))
    (hN : ∀ (M : zm_T) (H : Heap) (locs : List Loc) (ls : Array Slot), zJ M → zy_I G M s H locs → zl_has ls 8 (zz_V b G (6 * j)) → W p l e room_1 s m #[Value.ref b] below meth c H locs (cells + 1) (slots + 6) Q (F0 m 1443 ls [])) : W p l e room_1 s m #[Value.ref b] below meth c H locs cells slots Q (F0 m 563 ls []) := by
  obtain ⟨hS, hK, hX, hxs, hb0, hbA, hL3, hfl⟩ := C
  have hx := hS.1
  have hb := hS.2.1
  have hl : zl_has ls 8 [some (.ref b), some (.ref (G.2.2.1 + 0)), some (.ref (G.2.2.1 + 151)), some (.ref (G.2.2.1 + 182)), some (.int (nI (6 * j))), none, none, none] := hl
  obtain ⟨tk, htk⟩ := zq_tk (c := xs (6 * j + 1)) hJ.2.2.1
  refine zr_aload_n hx hb kd_Lw_563 hl rfl ?_
  refine zr_aload_n hx hb kd_Lw_564 hl rfl ?_
  refine zr_iload hx hb kd_Lw_565 hl rfl ?_
  refine lv_iconst (v := 1) hx hb kd_Lw_567 (by decide) ?_
  refine lv_iadd hx hb kd_Lw_568 ?_
  refine zq_s (j := j) (k := 1) hS hxs hb0 hbA hI rfl (by omega) hL3 kd_Lw_569 ?_
  refine zr_aload_n hx hb kd_Lw_570 hl rfl ?_
  refine zr_iload hx hb kd_Lw_571 hl rfl ?_
  refine lv_iconst (v := 2) hx hb kd_Lw_573 (by decide) ?_
  refine lv_iadd hx hb kd_Lw_574 ?_
  refine zq_s (j := j) (k := 2) hS hxs hb0 hbA hI rfl (by omega) hL3 kd_Lw_575 ?_
  refine zr_aload_n hx hb kd_Lw_576 hl rfl ?_
  have hkw : zl_W 119 ky_La_split kc_La_split 5 4 [((0 : Nat), (10 : Nat), (13 : Nat), (35 : Nat)), ((0 : Nat), (10 : Nat), (17 : Nat), (21 : Nat))] := ⟨zw_mem (i := 465) rfl rfl, zw_mem (i := 466) rfl rfl, zw_mem (i := 31) rfl rfl, zw_mem (i := 467) rfl rfl, ⟨by decide +kernel, by decide +kernel, by decide +kernel⟩⟩
  refine zq_ci (zq_runS hS hK hX (w_split l hfl G M hJ.1 _ _ tk htk) hkw hI rfl hl.1 (Nat.le_of_ble_eq_true rfl) (by decide) ⟨hc, hsl⟩ kd_Lw_577 rfl) hI (fun k1 M1 H locs hp1 hI => ?_)
  have hL1 := r_split hJ hp1
  refine zr_istore hx hb kd_Lw_580 hl (by decide) rfl (fun ls hl => ?_)
  refine zr_aload_n hx hb kd_Lw_582 hl rfl ?_
  refine zr_aload_n hx hb kd_Lw_583 hl rfl ?_
  refine zr_iload hx hb kd_Lw_584 hl rfl ?_
  refine lv_iconst (v := 1) hx hb kd_Lw_586 (by decide) ?_
  refine lv_iadd hx hb kd_Lw_587 ?_
  refine zq_s (j := j) (k := 1) hS hxs hb0 hbA hI rfl (by omega) hL3 kd_Lw_588 ?_
  refine zr_aload_n hx hb kd_Lw_589 hl rfl ?_
  refine zr_iload hx hb kd_Lw_590 hl rfl ?_
  refine lv_iconst (v := 2) hx hb kd_Lw_592 (by decide) ?_
  refine lv_iadd hx hb kd_Lw_593 ?_
  refine zq_s (j := j) (k := 2) hS hxs hb0 hbA hI rfl (by omega) hL3 kd_Lw_594 ?_
  refine zq_ci (zq_run hS hK hX (zy_li (c_Mo_split l G M1 hL1 _ _)) km_La_121 (zw_mem (i := 1180) rfl rfl) hI rfl hl.1 (Nat.le_of_ble_eq_true rfl) (by decide) ⟨hc, hsl⟩ kd_Lw_595 rfl) hI (fun rb M2 H locs hp2 hI => ?_)
  obtain ⟨hk, hJ2, hv⟩ := s_split hJ htk hp1 hp2
  refine zr_istore hx hb kd_Lw_598 hl (by decide) rfl (fun ls hl => ?_)
  refine zr_aload_n hx hb kd_Lw_600 hl rfl ?_
  refine zq_ci (zq_run hS hK hX (zy_li (c_Mo_thrown l G M2 hJ2.1)) km_La_95 (zw_mem (i := 1138) rfl rfl) hI rfl hl.1 (Nat.le_of_ble_eq_true rfl) (by decide) ⟨hc, hsl⟩ kd_Lw_601 rfl) hI (fun r3 M3 H locs hp3 hI => ?_)
  obtain ⟨hr3, hM3⟩ := hp3
  rw [hM3] at hI
  rw [hr3, hk]
  refine zr_iload hx hb kd_Lw_604 hl rfl ?_
  refine lv_icmp_eq (tgt := 611) hx hb kd_Lw_606 (by decide) (fun _ => ?_) (fun h => absurd rfl h)
  refine zr_iload hx hb kd_Lw_611 hl rfl ?_
  refine lv_if_ne (tgt := 628) hx hb kd_Lw_613 (by decide) (fun h613 => ?_) (fun h613 => ?_)
  · skip
    refine lv_goto (tgt := 1443) hx hb kd_Lw_628 (by decide) ?_
    exact hN _ _ _ _ hJ2 hI (zl_cut hl)
  · skip
    refine zr_aload_n hx hb kd_Lw_616 hl rfl ?_
    refine lv_iconst (v := 0) hx hb kd_Lw_617 (by decide) ?_
    refine zr_lald hS hK hI.1 (a := 182) (n := 1) (by decide) (by decide +kernel) (vp_in_iff.mpr (by decide)) kd_Lw_618 ?_
    refine zr_iload hx hb kd_Lw_619 hl rfl ?_
    refine lv_i2l hx hb kd_Lw_621 rfl ?_
    refine W.lcmp hx hb kd_Lw_622 ?_
    refine lv_if_eq (tgt := 628) hx hb kd_Lw_623 (by decide) (fun _ => ?_) (fun h => absurd (by show lg_cmp (M2.2.2 182 0) _ = 0; rw [hv h613]; exact zq_cmp _) h)
    refine lv_goto (tgt := 1443) hx hb kd_Lw_628 (by decide) ?_
    exact hN _ _ _ _ hJ2 hI (zl_cut hl)
set_option maxRecDepth 100000 in
set_option maxHeartbeats 4000000 in
theorem q_shape {p : Program} {l : Launch} {e : Env} {s : State} {m : MethodId} {below : List Frame} {meth : Method} {c : Code} {b L : Nat} {xs : Nat → Int32} {G : zg_T} {Q : State → Prop} (C : zz_C p l s m c b L xs G) {j cells slots : Nat} {M : zm_T} {H : Heap} {locs : List Loc} {ls : Array Slot} (hj : 6 * j + 6 ≤ L) (hc : cells + 1 ≤ 601024) (hsl : slots + 6 ≤ 7293034) (hJ : zJ M) (hI : zy_I G M s H locs) (hl : zl_has ls 8 (zz_V b G (6 * j)))
    (hN : ∀ (M : zm_T) (H : Heap) (locs : List Loc) (ls : Array Slot), zJ M → zy_I G M s H locs → zl_has ls 8 (zz_V b G (6 * j)) → W p l e room_1 s m #[Value.ref b] below meth c H locs (cells + 1) (slots + 6) Q (F0 m 1443 ls [])) : W p l e room_1 s m #[Value.ref b] below meth c H locs cells slots Q (F0 m 631 ls []) := by
  obtain ⟨hS, hK, hX, hxs, hb0, hbA, hL3, hfl⟩ := C
  have hx := hS.1
  have hb := hS.2.1
  have hl : zl_has ls 8 [some (.ref b), some (.ref (G.2.2.1 + 0)), some (.ref (G.2.2.1 + 151)), some (.ref (G.2.2.1 + 182)), some (.int (nI (6 * j))), none, none, none] := hl
  refine zr_aload_n hx hb kd_Lw_631 hl rfl ?_
  refine zr_aload_n hx hb kd_Lw_632 hl rfl ?_
  refine zr_iload hx hb kd_Lw_633 hl rfl ?_
  refine lv_iconst (v := 1) hx hb kd_Lw_635 (by decide) ?_
  refine lv_iadd hx hb kd_Lw_636 ?_
  refine zq_s (j := j) (k := 1) hS hxs hb0 hbA hI rfl (by omega) hL3 kd_Lw_637 ?_
  refine zr_aload_n hx hb kd_Lw_638 hl rfl ?_
  refine zr_iload hx hb kd_Lw_639 hl rfl ?_
  refine lv_iconst (v := 2) hx hb kd_Lw_641 (by decide) ?_
  refine lv_iadd hx hb kd_Lw_642 ?_
  refine zq_s (j := j) (k := 2) hS hxs hb0 hbA hI rfl (by omega) hL3 kd_Lw_643 ?_
  refine zr_aload_n hx hb kd_Lw_644 hl rfl ?_
  refine zr_iload hx hb kd_Lw_645 hl rfl ?_
  refine lv_iconst (v := 3) hx hb kd_Lw_647 (by decide) ?_
  refine lv_iadd hx hb kd_Lw_648 ?_
  refine zq_s (j := j) (k := 3) hS hxs hb0 hbA hI rfl (by omega) hL3 kd_Lw_649 ?_
  refine zr_aload_n hx hb kd_Lw_650 hl rfl ?_
  refine zr_iload hx hb kd_Lw_651 hl rfl ?_
  refine lv_iconst (v := 4) hx hb kd_Lw_653 (by decide) ?_
  refine lv_iadd hx hb kd_Lw_654 ?_
  refine zq_s (j := j) (k := 4) hS hxs hb0 hbA hI rfl (by omega) hL3 kd_Lw_655 ?_
  have hkw : zl_W 122 ky_La_shape kc_La_shape 6 5 [((0 : Nat), (9 : Nat), (12 : Nat), (35 : Nat)), ((0 : Nat), (9 : Nat), (16 : Nat), (21 : Nat))] := ⟨zw_mem (i := 479) rfl rfl, zw_mem (i := 480) rfl rfl, zw_mem (i := 31) rfl rfl, zw_mem (i := 481) rfl rfl, ⟨by decide +kernel, by decide +kernel, by decide +kernel⟩⟩
  refine zq_ci (zq_runS hS hK hX (w_shape l hfl G M hJ.1 _ _ _ _) hkw hI rfl hl.1 (Nat.le_of_ble_eq_true rfl) (by decide) ⟨hc, hsl⟩ kd_Lw_656 rfl) hI (fun k1 M1 H locs hp1 hI => ?_)
  have hL1 := r_shape hJ hp1
  refine zr_istore hx hb kd_Lw_659 hl (by decide) rfl (fun ls hl => ?_)
  refine zr_aload_n hx hb kd_Lw_661 hl rfl ?_
  refine zr_aload_n hx hb kd_Lw_662 hl rfl ?_
  refine zr_iload hx hb kd_Lw_663 hl rfl ?_
  refine lv_iconst (v := 1) hx hb kd_Lw_665 (by decide) ?_
  refine lv_iadd hx hb kd_Lw_666 ?_
  refine zq_s (j := j) (k := 1) hS hxs hb0 hbA hI rfl (by omega) hL3 kd_Lw_667 ?_
  refine zr_aload_n hx hb kd_Lw_668 hl rfl ?_
  refine zr_iload hx hb kd_Lw_669 hl rfl ?_
  refine lv_iconst (v := 2) hx hb kd_Lw_671 (by decide) ?_
  refine lv_iadd hx hb kd_Lw_672 ?_
  refine zq_s (j := j) (k := 2) hS hxs hb0 hbA hI rfl (by omega) hL3 kd_Lw_673 ?_
  refine zr_aload_n hx hb kd_Lw_674 hl rfl ?_
  refine zr_iload hx hb kd_Lw_675 hl rfl ?_
  refine lv_iconst (v := 3) hx hb kd_Lw_677 (by decide) ?_
  refine lv_iadd hx hb kd_Lw_678 ?_
  refine zq_s (j := j) (k := 3) hS hxs hb0 hbA hI rfl (by omega) hL3 kd_Lw_679 ?_
  refine zr_aload_n hx hb kd_Lw_680 hl rfl ?_
  refine zr_iload hx hb kd_Lw_681 hl rfl ?_
  refine lv_iconst (v := 4) hx hb kd_Lw_683 (by decide) ?_
  refine lv_iadd hx hb kd_Lw_684 ?_
  refine zq_s (j := j) (k := 4) hS hxs hb0 hbA hI rfl (by omega) hL3 kd_Lw_685 ?_
  refine zq_cv (zq_run hS hK hX (zy_lv (c_Mo_shape l G M1 hL1 _ _ _ _)) km_La_125 (zw_mem (i := 1184) rfl rfl) hI rfl hl.1 (Nat.le_of_ble_eq_true rfl) (by decide) ⟨hc, hsl⟩ kd_Lw_686 rfl) hI (fun M2 H locs hp2 hI => ?_)
  obtain ⟨hk, hJ2⟩ := s_shape hJ hp1 hp2
  refine zr_aload_n hx hb kd_Lw_689 hl rfl ?_
  refine zq_ci (zq_run hS hK hX (zy_li (c_Mo_thrown l G M2 hJ2.1)) km_La_95 (zw_mem (i := 1138) rfl rfl) hI rfl hl.1 (Nat.le_of_ble_eq_true rfl) (by decide) ⟨hc, hsl⟩ kd_Lw_690 rfl) hI (fun r3 M3 H locs hp3 hI => ?_)
  obtain ⟨hr3, hM3⟩ := hp3
  rw [hM3] at hI
  rw [hr3, hk]
  refine zr_iload hx hb kd_Lw_693 hl rfl ?_
  refine lv_icmp_eq (tgt := 700) hx hb kd_Lw_695 (by decide) (fun _ => ?_) (fun h => absurd rfl h)
  refine lv_goto (tgt := 1443) hx hb kd_Lw_700 (by decide) ?_
  exact hN _ _ _ _ hJ2 hI (zl_cut hl)
set_option maxRecDepth 100000 in
set_option maxHeartbeats 4000000 in
theorem q_route {p : Program} {l : Launch} {e : Env} {s : State} {m : MethodId} {below : List Frame} {meth : Method} {c : Code} {b L : Nat} {xs : Nat → Int32} {G : zg_T} {Q : State → Prop} (C : zz_C p l s m c b L xs G) {j cells slots : Nat} {M : zm_T} {H : Heap} {locs : List Loc} {ls : Array Slot} (hj : 6 * j + 6 ≤ L) (hc : cells + 1 ≤ 601024) (hsl : slots + 6 ≤ 7293034) (hJ : zJ M) (hI : zy_I G M s H locs) (hl : zl_has ls 8 (zz_V b G (6 * j)))
    (hN : ∀ (M : zm_T) (H : Heap) (locs : List Loc) (ls : Array Slot), zJ M → zy_I G M s H locs → zl_has ls 8 (zz_V b G (6 * j)) → W p l e room_1 s m #[Value.ref b] below meth c H locs (cells + 1) (slots + 6) Q (F0 m 1443 ls [])) : W p l e room_1 s m #[Value.ref b] below meth c H locs cells slots Q (F0 m 703 ls []) := by
  obtain ⟨hS, hK, hX, hxs, hb0, hbA, hL3, hfl⟩ := C
  have hx := hS.1
  have hb := hS.2.1
  have hl : zl_has ls 8 [some (.ref b), some (.ref (G.2.2.1 + 0)), some (.ref (G.2.2.1 + 151)), some (.ref (G.2.2.1 + 182)), some (.int (nI (6 * j))), none, none, none] := hl
  refine zr_aload_n hx hb kd_Lw_703 hl rfl ?_
  refine zr_aload_n hx hb kd_Lw_704 hl rfl ?_
  refine zr_iload hx hb kd_Lw_705 hl rfl ?_
  refine lv_iconst (v := 1) hx hb kd_Lw_707 (by decide) ?_
  refine lv_iadd hx hb kd_Lw_708 ?_
  refine zq_s (j := j) (k := 1) hS hxs hb0 hbA hI rfl (by omega) hL3 kd_Lw_709 ?_
  refine zr_aload_n hx hb kd_Lw_710 hl rfl ?_
  refine zr_iload hx hb kd_Lw_711 hl rfl ?_
  refine lv_iconst (v := 2) hx hb kd_Lw_713 (by decide) ?_
  refine lv_iadd hx hb kd_Lw_714 ?_
  refine zq_s (j := j) (k := 2) hS hxs hb0 hbA hI rfl (by omega) hL3 kd_Lw_715 ?_
  refine zr_aload_n hx hb kd_Lw_716 hl rfl ?_
  have hkw : zl_W 126 ky_La_route kc_La_route 5 4 [((0 : Nat), (17 : Nat), (20 : Nat), (21 : Nat))] := ⟨zw_mem (i := 489) rfl rfl, zw_mem (i := 490) rfl rfl, zw_mem (i := 31) rfl rfl, zw_mem (i := 491) rfl rfl, ⟨by decide +kernel, by decide +kernel, by decide +kernel⟩⟩
  refine zq_ci (zq_runS hS hK hX (w_route l hfl G M hJ.1 _ _ (zJ_D hJ.2.2.2.1.1)) hkw hI rfl hl.1 (Nat.le_of_ble_eq_true rfl) (by decide) ⟨hc, hsl⟩ kd_Lw_717 rfl) hI (fun k1 M1 H locs hp1 hI => ?_)
  have hL1 := r_route hJ hp1
  refine zr_istore hx hb kd_Lw_720 hl (by decide) rfl (fun ls hl => ?_)
  refine zr_aload_n hx hb kd_Lw_722 hl rfl ?_
  refine zr_aload_n hx hb kd_Lw_723 hl rfl ?_
  refine zr_iload hx hb kd_Lw_724 hl rfl ?_
  refine lv_iconst (v := 1) hx hb kd_Lw_726 (by decide) ?_
  refine lv_iadd hx hb kd_Lw_727 ?_
  refine zq_s (j := j) (k := 1) hS hxs hb0 hbA hI rfl (by omega) hL3 kd_Lw_728 ?_
  refine zr_aload_n hx hb kd_Lw_729 hl rfl ?_
  refine zr_iload hx hb kd_Lw_730 hl rfl ?_
  refine lv_iconst (v := 2) hx hb kd_Lw_732 (by decide) ?_
  refine lv_iadd hx hb kd_Lw_733 ?_
  refine zq_s (j := j) (k := 2) hS hxs hb0 hbA hI rfl (by omega) hL3 kd_Lw_734 ?_
  refine zq_ci (zq_run hS hK hX (zy_li (c_Mo_route l G M1 hL1 _ _)) km_La_128 (zw_mem (i := 1191) rfl rfl) hI rfl hl.1 (Nat.le_of_ble_eq_true rfl) (by decide) ⟨hc, hsl⟩ kd_Lw_735 rfl) hI (fun rb M2 H locs hp2 hI => ?_)
  obtain ⟨hk, hJ2, hv⟩ := s_route hJ hp1 hp2
  refine zr_istore hx hb kd_Lw_738 hl (by decide) rfl (fun ls hl => ?_)
  refine zr_aload_n hx hb kd_Lw_740 hl rfl ?_
  refine zq_ci (zq_run hS hK hX (zy_li (c_Mo_thrown l G M2 hJ2.1)) km_La_95 (zw_mem (i := 1138) rfl rfl) hI rfl hl.1 (Nat.le_of_ble_eq_true rfl) (by decide) ⟨hc, hsl⟩ kd_Lw_741 rfl) hI (fun r3 M3 H locs hp3 hI => ?_)
  obtain ⟨hr3, hM3⟩ := hp3
  rw [hM3] at hI
  rw [hr3, hk]
  refine zr_iload hx hb kd_Lw_744 hl rfl ?_
  refine lv_icmp_eq (tgt := 751) hx hb kd_Lw_746 (by decide) (fun _ => ?_) (fun h => absurd rfl h)
  refine zr_iload hx hb kd_Lw_751 hl rfl ?_
  refine lv_if_ne (tgt := 775) hx hb kd_Lw_753 (by decide) (fun h753 => ?_) (fun h753 => ?_)
  · skip
    refine lv_goto (tgt := 1443) hx hb kd_Lw_775 (by decide) ?_
    exact hN _ _ _ _ hJ2 hI (zl_cut hl)
  · skip
    refine zr_aload_n hx hb kd_Lw_756 hl rfl ?_
    refine lv_iconst (v := 0) hx hb kd_Lw_757 (by decide) ?_
    refine zr_lald hS hK hI.1 (a := 182) (n := 1) (by decide) (by decide +kernel) (vp_in_iff.mpr (by decide)) kd_Lw_758 ?_
    refine zr_iload hx hb kd_Lw_759 hl rfl ?_
    refine lv_if_eq (tgt := 768) hx hb kd_Lw_761 (by decide) (fun h761 => ?_) (fun h761 => ?_)
    · skip
      refine lv_lconst (v := 0) hx hb kd_Lw_768 (by decide) ?_
      refine W.lcmp hx hb kd_Lw_769 ?_
      refine lv_if_eq (tgt := 775) hx hb kd_Lw_770 (by decide) (fun _ => ?_) (fun h => absurd (by show lg_cmp (M2.2.2 182 0) _ = 0; rw [hv h753, if_pos h761]; exact zq_cmp _) h)
      refine lv_goto (tgt := 1443) hx hb kd_Lw_775 (by decide) ?_
      exact hN _ _ _ _ hJ2 hI (zl_cut hl)
    · skip
      refine lv_lconst (v := 1) hx hb kd_Lw_764 (by decide) ?_
      refine lv_goto (tgt := 769) hx hb kd_Lw_765 (by decide) ?_
      refine W.lcmp hx hb kd_Lw_769 ?_
      refine lv_if_eq (tgt := 775) hx hb kd_Lw_770 (by decide) (fun _ => ?_) (fun h => absurd (by show lg_cmp (M2.2.2 182 0) _ = 0; rw [hv h753, if_neg h761]; exact zq_cmp _) h)
      refine lv_goto (tgt := 1443) hx hb kd_Lw_775 (by decide) ?_
      exact hN _ _ _ _ hJ2 hI (zl_cut hl)

/-! The class's public methods on clips: clip, move, split, shape. -/
def zu_lk (M : zm_T) (tr a n x : Int32) (e : Nat) : Prop := ¬ nI e = x ∧ zf_lies M (4 + e) tr a n = 1
def zu_new (M : zm_T) (d : Nat) (tr a : Int32) (t : Nat) (f n : Int32) : zm_T := zm_ui (zm_ui (zm_ui (zm_ui (zm_ui (zm_ui (zm_ui (zm_ur M (4 + d) 0 (some (135 + 2 * t))) (4 + d) 3 f) (4 + d) 4 n) (4 + d) 1 tr) (4 + d) 2 a) (4 + d) 5 256) (4 + d) 6 0) (4 + d) 7 0
theorem zu_01 (M : zm_T) (a : Nat) (t x y : Int32) : zf_lies M a t x y = 0 ∨ zf_lies M a t x y = 1 := by
  unfold zf_lies
  (repeat' split) <;> simp
set_option maxRecDepth 100000 in
set_option maxHeartbeats 4000000 in
theorem x_Mx_clip (l : Launch) (hfl : l.flags = Jvm.pinnedFlags ++ [Jvm.noTraceFlag]) (G : zg_T) (M : zm_T) (hL : zL M.2) (tr a t f n : Int32) : zx_M l ky_Mx_clip (zr_ws ky_Mx_clip kc_Mx_clip 8 (some .int)) { frames := 6, cells := 1, slots := 6, locals := 60 * 6 } (va_Pc [.ref (G.2.2.1 + 0), .int tr, .int a, .int t, .int f, .int n] (zy_B G M)) (zx_Qi G (fun c => (c = zxA ∧ zv_bad tr a t f n) ∨ (c = zxS ∧ ¬ zv_bad tr a t f n ∧ M.1 (135 + 2 * t.toNatClampNeg) 1 - n < f)) (fun (r : Int32) (M' : zm_T) => ¬ zv_bad tr a t f n ∧ ¬ M.1 (135 + 2 * t.toNatClampNeg) 1 - n < f ∧ ∃ d, zf_fr M d ∧ (((d = 16 ∨ ∃ e, e < 16 ∧ zu_lk M tr a n (-1) e) ∧ r = -1 ∧ M' = M) ∨ (d < 16 ∧ (¬ ∃ e, e < 16 ∧ zu_lk M tr a n (-1) e) ∧ r = nI d ∧ M' = zu_new M d tr a t.toNatClampNeg f n))) M) := by
  refine zx_metY hfl (by decide +kernel) (Nat.le_of_ble_eq_true rfl) ?_
  intro p0 e0 s0 m0 below meth c0 ls htr hS hK hO hex hlk hr hl hI
  have hx := hS.1
  have hb := hS.2.1
  have hl : zl_has ls 8 [some (.ref (G.2.2.1 + 0)), some (.int tr), some (.int a), some (.int t), some (.int f), some (.int n), none, none] := hl
  have nb : ¬ zf_in tr 0 3 = 0 → ¬ zf_in a 0 1023 = 0 → ¬ zf_in t 0 7 = 0 → ¬ f < 0 → ¬ zf_in n 1 (1024 - a) = 0 → ¬ zv_bad tr a t f n := fun h1 h2 h3 h4 h5 h => by
    rcases h with h | h | h | h | h
    · exact h1 h
    · exact h2 h
    · exact h3 h
    · exact h4 h
    · exact h5 h
  have gm : ∀ d, d < 16 → ¬ nI d = (-1 : Int32) := fun d hd h => by
    have : (nI d).toInt = (-1 : Int32).toInt := by rw [h]
    rw [nI_toInt (by omega), show (-1 : Int32).toInt = -1 from by decide] at this
    omega
  have gx : ∀ d, zf_fr M d → (if d < 16 then nI d else (-1 : Int32)) = -1 → d = 16 := fun d hd h => by
    have h1 := hd.1
    by_cases g : d < 16
    · rw [if_pos g] at h; exact absurd h (gm d g)
    · omega
  have gd : ∀ d, zf_fr M d → ¬ (if d < 16 then nI d else (-1 : Int32)) = -1 → vp_in (if d < 16 then nI d else (-1 : Int32)) 16 ∧ M.2.1 3 (if d < 16 then nI d else (-1 : Int32)).toNatClampNeg = some (4 + d) ∧ 4 + d < 183 ∧ zs (4 + d) = (10 + 0, 0) ∧ d < 16 := fun d hd h => by
    have h16 : d < 16 := by
      by_cases g : d < 16
      · exact g
      · rw [if_neg g] at h; exact absurd rfl h
    rw [if_pos h16, zn_cl (by omega)]
    exact ⟨vp_in_nI (by omega) (by decide), zL_cl hL h16, by omega, zs_cl d h16, h16⟩
  have lk1 : ∀ {r : Int32}, ((r = 1 ∧ ∃ c, c < 16 ∧ ¬ nI c = (-1 : Int32) ∧ zf_lies M (4 + c) tr a n = 1) ∨ (r = 0 ∧ ∀ c, c < 16 → nI c = (-1 : Int32) ∨ zf_lies M (4 + c) tr a n = 0)) → ¬ r = 0 → ∃ e, e < 16 ∧ zu_lk M tr a n (-1) e := fun h h0 => by
    rcases h with ⟨-, c, h1, h2, h3⟩ | ⟨h, -⟩
    · exact ⟨c, h1, h2, h3⟩
    · exact absurd h h0
  have lk0 : ∀ {r : Int32}, ((r = 1 ∧ ∃ c, c < 16 ∧ ¬ nI c = (-1 : Int32) ∧ zf_lies M (4 + c) tr a n = 1) ∨ (r = 0 ∧ ∀ c, c < 16 → nI c = (-1 : Int32) ∨ zf_lies M (4 + c) tr a n = 0)) → r = 0 → ¬ ∃ e, e < 16 ∧ zu_lk M tr a n (-1) e := fun h h0 => by
    rcases h with ⟨h, -⟩ | ⟨-, h⟩
    · rw [h] at h0; exact absurd h0 (by decide)
    · rintro ⟨e, h1, h2, h3⟩
      rcases h e h1 with h4 | h4
      · exact h2 h4
      · rw [h4] at h3; exact absurd h3 (by decide)
  have rest : ∀ (ls : Array Slot), ¬ zv_bad tr a t f n → ¬ M.1 (135 + 2 * t.toNatClampNeg) 1 - n < f → ¬ zf_in t 0 7 = 0 → zl_has ls 8 [some (.ref (G.2.2.1 + 0)), some (.int tr), some (.int a), some (.int t), some (.int f), some (.int n), none, none] → W p0 l e0 { frames := 6, cells := 1, slots := 6, locals := 60 * 6 } s0 m0 ([.ref (G.2.2.1 + 0), .int tr, .int a, .int t, .int f, .int n] : List Value).toArray below meth c0 s0.heap [] 0 0 (zx_E below (zx_Qi G (fun c => (c = zxA ∧ zv_bad tr a t f n) ∨ (c = zxS ∧ ¬ zv_bad tr a t f n ∧ M.1 (135 + 2 * t.toNatClampNeg) 1 - n < f)) (fun (r : Int32) (M' : zm_T) => ¬ zv_bad tr a t f n ∧ ¬ M.1 (135 + 2 * t.toNatClampNeg) 1 - n < f ∧ ∃ d, zf_fr M d ∧ (((d = 16 ∨ ∃ e, e < 16 ∧ zu_lk M tr a n (-1) e) ∧ r = -1 ∧ M' = M) ∨ (d < 16 ∧ (¬ ∃ e, e < 16 ∧ zu_lk M tr a n (-1) e) ∧ r = nI d ∧ M' = zu_new M d tr a t.toNatClampNeg f n))) M) ([.ref (G.2.2.1 + 0), .int tr, .int a, .int t, .int f, .int n] : List Value).toArray s0) (F0 m0 82 ls []) := by
    intro ls gb gl h27 hl
    refine zr_aload_n hx hb kd_Mx_clip_82 hl rfl ?_
    refine zr_getr hS hK kf_Mx_18 hI ha_MX hs_MX (zL_0 hL).2.1 kd_Mx_clip_83 ?_
    refine zr_ci (zr_runV hS hK (c_Sh_leastFree l G M hL) km_Mx_63 hI ha_SH hs_SH rfl hl.1 (Nat.le_of_ble_eq_true rfl) (by decide) (by decide) kd_Mx_clip_86 rfl) hI (fun r86 M86 H locs hp86 hI => ?_)
    obtain ⟨⟨d, hd, rfl⟩, hM86⟩ := hp86
    rw [hM86] at hI
    refine zr_istore hx hb kd_Mx_clip_89 hl (by decide) rfl (fun ls hl => ?_)
    refine zr_iload hx hb kd_Mx_clip_91 hl rfl ?_
    refine lv_iconst (v := -1) hx hb kd_Mx_clip_93 (by decide) ?_
    refine lv_icmp_eq (tgt := 112) hx hb kd_Mx_clip_94 (by decide) (fun h94 => ?_) (fun h94 => ?_)
    · skip
      refine lv_iconst (v := -1) hx hb kd_Mx_clip_112 (by decide) ?_
      exact zx_mono (zx_ri' hO) (zr_iret hS hK hlk hr hI kd_Mx_clip_113 (⟨gb, gl, d, hd, Or.inl ⟨by first | exact Or.inl (gx d hd h94) | exact Or.inr (lk1 hp106 h109), rfl, rfl⟩⟩))
    · skip
      refine zr_aload_n hx hb kd_Mx_clip_97 hl rfl ?_
      refine zr_getr hS hK kf_Mx_18 hI ha_MX hs_MX (zL_0 hL).2.1 kd_Mx_clip_98 ?_
      refine lv_iconst (v := -1) hx hb kd_Mx_clip_101 (by decide) ?_
      refine zr_iload_n hx hb kd_Mx_clip_102 hl rfl ?_
      refine zr_iload_n hx hb kd_Mx_clip_103 hl rfl ?_
      refine zr_iload hx hb kd_Mx_clip_104 hl rfl ?_
      refine zr_ci (zr_runV hS hK (c_Sh_overlaps l G M hL _ _ _ _) km_Mx_66 hI ha_SH hs_SH rfl hl.1 (Nat.le_of_ble_eq_true rfl) (by decide) (by decide) kd_Mx_clip_106 rfl) hI (fun r106 M106 H locs hp106 hI => ?_)
      obtain ⟨hp106, hM106⟩ := hp106
      rw [hM106] at hI
      refine lv_if_eq (tgt := 114) hx hb kd_Mx_clip_109 (by decide) (fun h109 => ?_) (fun h109 => ?_)
      · skip
        refine zr_aload_n hx hb kd_Mx_clip_114 hl rfl ?_
        refine zr_getr hS hK kf_Mx_18 hI ha_MX hs_MX (zL_0 hL).2.1 kd_Mx_clip_115 ?_
        refine zr_getr hS hK kf_Mx_70 hI ha_SH hs_SH (zL_0 hL).2.2.2.1 kd_Mx_clip_118 ?_
        refine zr_iload hx hb kd_Mx_clip_121 hl rfl ?_
        refine zr_aald hS hK hI ha_SH_0 hs_SH_0 (by decide) (by decide) rfl (gd d hd h94).1 (gd d hd h94).2.1 kd_Mx_clip_123 ?_
        refine zr_astore hx hb kd_Mx_clip_124 hl (by decide) rfl (fun ls hl => ?_)
        refine zr_aload hx hb kd_Mx_clip_126 hl rfl ?_
        refine zr_aload_n hx hb kd_Mx_clip_128 hl rfl ?_
        refine zr_getr hS hK kf_Mx_11 hI ha_MX hs_MX (zL_0 hL).1 kd_Mx_clip_129 ?_
        refine zr_iload_n hx hb kd_Mx_clip_132 hl rfl ?_
        refine zr_aald hS hK hI ha_MX_0 hs_MX_0 (by decide) (by decide) rfl (zt_tk hL h27).1 (zt_tk hL h27).2.1 kd_Mx_clip_133 ?_
        refine zr_iload hx hb kd_Mx_clip_134 hl rfl ?_
        refine zr_iload hx hb kd_Mx_clip_136 hl rfl ?_
        refine zr_cv (zr_runV hS hK (c_Cl_cutFrom l G 183 zs M (4 + d) (135 + 2 * t.toNatClampNeg) f n (gd d hd h94).2.2.1 (gd d hd h94).2.2.2.1) km_Mx_74 hI (gd d hd h94).2.2.1 (gd d hd h94).2.2.2.1 rfl hl.1 (Nat.le_of_ble_eq_true rfl) (by decide) (by decide) kd_Mx_clip_138 rfl) hI (fun M138 H locs hp138 hI => ?_)
        rw [hp138] at hI
        refine zr_aload hx hb kd_Mx_clip_141 hl rfl ?_
        refine zr_iload_n hx hb kd_Mx_clip_143 hl rfl ?_
        refine zr_iload_n hx hb kd_Mx_clip_144 hl rfl ?_
        refine zr_cv (zr_runV hS hK (c_Cl_layOn l G 183 zs _ (4 + d) tr a (gd d hd h94).2.2.1 (gd d hd h94).2.2.2.1) km_Mx_80 hI (gd d hd h94).2.2.1 (gd d hd h94).2.2.2.1 rfl hl.1 (Nat.le_of_ble_eq_true rfl) (by decide) (by decide) kd_Mx_clip_145 rfl) hI (fun M145 H locs hp145 hI => ?_)
        rw [hp145] at hI
        refine zr_aload hx hb kd_Mx_clip_148 hl rfl ?_
        refine lv_sipush (v := 256) hx hb kd_Mx_clip_150 (by decide) ?_
        refine lv_iconst (v := 0) hx hb kd_Mx_clip_153 (by decide) ?_
        refine lv_iconst (v := 0) hx hb kd_Mx_clip_154 (by decide) ?_
        refine zr_cv (zr_runV hS hK (c_Cl_form l G 183 zs _ (4 + d) 256 0 0 (gd d hd h94).2.2.1 (gd d hd h94).2.2.2.1) km_Mx_84 hI (gd d hd h94).2.2.1 (gd d hd h94).2.2.2.1 rfl hl.1 (Nat.le_of_ble_eq_true rfl) (by decide) (by decide) kd_Mx_clip_155 rfl) hI (fun M155 H locs hp155 hI => ?_)
        rw [hp155] at hI
        refine zr_iload hx hb kd_Mx_clip_158 hl rfl ?_
        exact zx_mono (zx_ri' hO) (zr_iret hS hK hlk hr hI kd_Mx_clip_160 (⟨gb, gl, d, hd, Or.inr ⟨(gd d hd h94).2.2.2.2, lk0 hp106 h109, by rw [if_pos (gd d hd h94).2.2.2.2], rfl⟩⟩))
      · skip
        refine lv_iconst (v := -1) hx hb kd_Mx_clip_112 (by decide) ?_
        exact zx_mono (zx_ri' hO) (zr_iret hS hK hlk hr hI kd_Mx_clip_113 (⟨gb, gl, d, hd, Or.inl ⟨by first | exact Or.inl (gx d hd h94) | exact Or.inr (lk1 hp106 h109), rfl, rfl⟩⟩))
  refine zr_iload_n hx hb kd_Mx_clip_0 hl rfl ?_
  refine lv_iconst (v := 0) hx hb kd_Mx_clip_1 (by decide) ?_
  refine lv_iconst (v := 3) hx hb kd_Mx_clip_2 (by decide) ?_
  refine zp_ci (zp_runS hS hK (d_Mx_within l G 183 zs M _ _ _) km_Mx_30 hI rfl hl.1 (Nat.le_of_ble_eq_true rfl) (by decide) (by decide) kd_Mx_clip_3 rfl) (fun r3 M3 hp3 => ?_)
  obtain ⟨rfl, hM3⟩ := hp3
  refine lv_if_eq (tgt := 49) hx hb kd_Mx_clip_6 (by decide) (fun h6 => ?_) (fun h6 => ?_)
  · skip
    exact zx_thr (cls := "java/lang/IllegalArgumentException") (index := 48) (ic := 50) hS hlk hex htr hK hO hI (by decide) hl.1 rfl (zw_mem (i := 372) (by decide +kernel) rfl) (zw_mem (i := 373) (by decide +kernel) rfl) (zw_mem (i := 46) (by decide +kernel) rfl) (by decide +kernel) (by decide) (by decide) (by decide) (by decide) kd_Mx_clip_49 kd_Mx_clip_52 kd_Mx_clip_53 kd_Mx_clip_56 (fun o9 t9 hF hT => ⟨hF, Or.inr (hT.to (by first | exact ⟨rfl, by unfold zv_bad; first | exact Or.inl h6 | exact Or.inr (Or.inl h17) | exact Or.inr (Or.inr (Or.inl h27)) | exact Or.inr (Or.inr (Or.inr (Or.inl h32))) | exact Or.inr (Or.inr (Or.inr (Or.inr h46)))⟩ | exact Or.inl ⟨rfl, by unfold zv_bad; first | exact Or.inl h6 | exact Or.inr (Or.inl h17) | exact Or.inr (Or.inr (Or.inl h27)) | exact Or.inr (Or.inr (Or.inr (Or.inl h32))) | exact Or.inr (Or.inr (Or.inr (Or.inr h46)))⟩ | exact Or.inr ⟨rfl, by unfold zv_bad; first | exact Or.inl h6 | exact Or.inr (Or.inl h17) | exact Or.inr (Or.inr (Or.inl h27)) | exact Or.inr (Or.inr (Or.inr (Or.inl h32))) | exact Or.inr (Or.inr (Or.inr (Or.inr h46)))⟩ | exact Or.inr (Or.inl ⟨rfl, by unfold zv_bad; first | exact Or.inl h6 | exact Or.inr (Or.inl h17) | exact Or.inr (Or.inr (Or.inl h27)) | exact Or.inr (Or.inr (Or.inr (Or.inl h32))) | exact Or.inr (Or.inr (Or.inr (Or.inr h46)))⟩) | exact Or.inr (Or.inr ⟨rfl, by unfold zv_bad; first | exact Or.inl h6 | exact Or.inr (Or.inl h17) | exact Or.inr (Or.inr (Or.inl h27)) | exact Or.inr (Or.inr (Or.inr (Or.inl h32))) | exact Or.inr (Or.inr (Or.inr (Or.inr h46)))⟩)))⟩)
  · skip
    refine zr_iload_n hx hb kd_Mx_clip_9 hl rfl ?_
    refine lv_iconst (v := 0) hx hb kd_Mx_clip_10 (by decide) ?_
    refine lv_sipush (v := 1023) hx hb kd_Mx_clip_11 (by decide) ?_
    refine zp_ci (zp_runS hS hK (d_Mx_within l G 183 zs M _ _ _) km_Mx_30 hI rfl hl.1 (Nat.le_of_ble_eq_true rfl) (by decide) (by decide) kd_Mx_clip_14 rfl) (fun r14 M14 hp14 => ?_)
    obtain ⟨rfl, hM14⟩ := hp14
    refine lv_if_eq (tgt := 49) hx hb kd_Mx_clip_17 (by decide) (fun h17 => ?_) (fun h17 => ?_)
    · skip
      exact zx_thr (cls := "java/lang/IllegalArgumentException") (index := 48) (ic := 50) hS hlk hex htr hK hO hI (by decide) hl.1 rfl (zw_mem (i := 372) (by decide +kernel) rfl) (zw_mem (i := 373) (by decide +kernel) rfl) (zw_mem (i := 46) (by decide +kernel) rfl) (by decide +kernel) (by decide) (by decide) (by decide) (by decide) kd_Mx_clip_49 kd_Mx_clip_52 kd_Mx_clip_53 kd_Mx_clip_56 (fun o9 t9 hF hT => ⟨hF, Or.inr (hT.to (by first | exact ⟨rfl, by unfold zv_bad; first | exact Or.inl h6 | exact Or.inr (Or.inl h17) | exact Or.inr (Or.inr (Or.inl h27)) | exact Or.inr (Or.inr (Or.inr (Or.inl h32))) | exact Or.inr (Or.inr (Or.inr (Or.inr h46)))⟩ | exact Or.inl ⟨rfl, by unfold zv_bad; first | exact Or.inl h6 | exact Or.inr (Or.inl h17) | exact Or.inr (Or.inr (Or.inl h27)) | exact Or.inr (Or.inr (Or.inr (Or.inl h32))) | exact Or.inr (Or.inr (Or.inr (Or.inr h46)))⟩ | exact Or.inr ⟨rfl, by unfold zv_bad; first | exact Or.inl h6 | exact Or.inr (Or.inl h17) | exact Or.inr (Or.inr (Or.inl h27)) | exact Or.inr (Or.inr (Or.inr (Or.inl h32))) | exact Or.inr (Or.inr (Or.inr (Or.inr h46)))⟩ | exact Or.inr (Or.inl ⟨rfl, by unfold zv_bad; first | exact Or.inl h6 | exact Or.inr (Or.inl h17) | exact Or.inr (Or.inr (Or.inl h27)) | exact Or.inr (Or.inr (Or.inr (Or.inl h32))) | exact Or.inr (Or.inr (Or.inr (Or.inr h46)))⟩) | exact Or.inr (Or.inr ⟨rfl, by unfold zv_bad; first | exact Or.inl h6 | exact Or.inr (Or.inl h17) | exact Or.inr (Or.inr (Or.inl h27)) | exact Or.inr (Or.inr (Or.inr (Or.inl h32))) | exact Or.inr (Or.inr (Or.inr (Or.inr h46)))⟩)))⟩)
    · skip
      refine zr_iload_n hx hb kd_Mx_clip_20 hl rfl ?_
      refine lv_iconst (v := 0) hx hb kd_Mx_clip_21 (by decide) ?_
      refine lv_bipush (v := 7) hx hb kd_Mx_clip_22 (by decide) ?_
      refine zp_ci (zp_runS hS hK (d_Mx_within l G 183 zs M _ _ _) km_Mx_30 hI rfl hl.1 (Nat.le_of_ble_eq_true rfl) (by decide) (by decide) kd_Mx_clip_24 rfl) (fun r24 M24 hp24 => ?_)
      obtain ⟨rfl, hM24⟩ := hp24
      refine lv_if_eq (tgt := 49) hx hb kd_Mx_clip_27 (by decide) (fun h27 => ?_) (fun h27 => ?_)
      · skip
        exact zx_thr (cls := "java/lang/IllegalArgumentException") (index := 48) (ic := 50) hS hlk hex htr hK hO hI (by decide) hl.1 rfl (zw_mem (i := 372) (by decide +kernel) rfl) (zw_mem (i := 373) (by decide +kernel) rfl) (zw_mem (i := 46) (by decide +kernel) rfl) (by decide +kernel) (by decide) (by decide) (by decide) (by decide) kd_Mx_clip_49 kd_Mx_clip_52 kd_Mx_clip_53 kd_Mx_clip_56 (fun o9 t9 hF hT => ⟨hF, Or.inr (hT.to (by first | exact ⟨rfl, by unfold zv_bad; first | exact Or.inl h6 | exact Or.inr (Or.inl h17) | exact Or.inr (Or.inr (Or.inl h27)) | exact Or.inr (Or.inr (Or.inr (Or.inl h32))) | exact Or.inr (Or.inr (Or.inr (Or.inr h46)))⟩ | exact Or.inl ⟨rfl, by unfold zv_bad; first | exact Or.inl h6 | exact Or.inr (Or.inl h17) | exact Or.inr (Or.inr (Or.inl h27)) | exact Or.inr (Or.inr (Or.inr (Or.inl h32))) | exact Or.inr (Or.inr (Or.inr (Or.inr h46)))⟩ | exact Or.inr ⟨rfl, by unfold zv_bad; first | exact Or.inl h6 | exact Or.inr (Or.inl h17) | exact Or.inr (Or.inr (Or.inl h27)) | exact Or.inr (Or.inr (Or.inr (Or.inl h32))) | exact Or.inr (Or.inr (Or.inr (Or.inr h46)))⟩ | exact Or.inr (Or.inl ⟨rfl, by unfold zv_bad; first | exact Or.inl h6 | exact Or.inr (Or.inl h17) | exact Or.inr (Or.inr (Or.inl h27)) | exact Or.inr (Or.inr (Or.inr (Or.inl h32))) | exact Or.inr (Or.inr (Or.inr (Or.inr h46)))⟩) | exact Or.inr (Or.inr ⟨rfl, by unfold zv_bad; first | exact Or.inl h6 | exact Or.inr (Or.inl h17) | exact Or.inr (Or.inr (Or.inl h27)) | exact Or.inr (Or.inr (Or.inr (Or.inl h32))) | exact Or.inr (Or.inr (Or.inr (Or.inr h46)))⟩)))⟩)
      · skip
        refine zr_iload hx hb kd_Mx_clip_30 hl rfl ?_
        refine lv_if_lt (tgt := 49) hx hb kd_Mx_clip_32 (by decide) (fun h32 => ?_) (fun h32 => ?_)
        · skip
          exact zx_thr (cls := "java/lang/IllegalArgumentException") (index := 48) (ic := 50) hS hlk hex htr hK hO hI (by decide) hl.1 rfl (zw_mem (i := 372) (by decide +kernel) rfl) (zw_mem (i := 373) (by decide +kernel) rfl) (zw_mem (i := 46) (by decide +kernel) rfl) (by decide +kernel) (by decide) (by decide) (by decide) (by decide) kd_Mx_clip_49 kd_Mx_clip_52 kd_Mx_clip_53 kd_Mx_clip_56 (fun o9 t9 hF hT => ⟨hF, Or.inr (hT.to (by first | exact ⟨rfl, by unfold zv_bad; first | exact Or.inl h6 | exact Or.inr (Or.inl h17) | exact Or.inr (Or.inr (Or.inl h27)) | exact Or.inr (Or.inr (Or.inr (Or.inl h32))) | exact Or.inr (Or.inr (Or.inr (Or.inr h46)))⟩ | exact Or.inl ⟨rfl, by unfold zv_bad; first | exact Or.inl h6 | exact Or.inr (Or.inl h17) | exact Or.inr (Or.inr (Or.inl h27)) | exact Or.inr (Or.inr (Or.inr (Or.inl h32))) | exact Or.inr (Or.inr (Or.inr (Or.inr h46)))⟩ | exact Or.inr ⟨rfl, by unfold zv_bad; first | exact Or.inl h6 | exact Or.inr (Or.inl h17) | exact Or.inr (Or.inr (Or.inl h27)) | exact Or.inr (Or.inr (Or.inr (Or.inl h32))) | exact Or.inr (Or.inr (Or.inr (Or.inr h46)))⟩ | exact Or.inr (Or.inl ⟨rfl, by unfold zv_bad; first | exact Or.inl h6 | exact Or.inr (Or.inl h17) | exact Or.inr (Or.inr (Or.inl h27)) | exact Or.inr (Or.inr (Or.inr (Or.inl h32))) | exact Or.inr (Or.inr (Or.inr (Or.inr h46)))⟩) | exact Or.inr (Or.inr ⟨rfl, by unfold zv_bad; first | exact Or.inl h6 | exact Or.inr (Or.inl h17) | exact Or.inr (Or.inr (Or.inl h27)) | exact Or.inr (Or.inr (Or.inr (Or.inl h32))) | exact Or.inr (Or.inr (Or.inr (Or.inr h46)))⟩)))⟩)
        · skip
          refine zr_iload hx hb kd_Mx_clip_35 hl rfl ?_
          refine lv_iconst (v := 1) hx hb kd_Mx_clip_37 (by decide) ?_
          refine lv_sipush (v := 1024) hx hb kd_Mx_clip_38 (by decide) ?_
          refine zr_iload_n hx hb kd_Mx_clip_41 hl rfl ?_
          refine lv_isub hx hb kd_Mx_clip_42 ?_
          refine zp_ci (zp_runS hS hK (d_Mx_within l G 183 zs M _ _ _) km_Mx_30 hI rfl hl.1 (Nat.le_of_ble_eq_true rfl) (by decide) (by decide) kd_Mx_clip_43 rfl) (fun r43 M43 hp43 => ?_)
          obtain ⟨rfl, hM43⟩ := hp43
          refine lv_if_ne (tgt := 57) hx hb kd_Mx_clip_46 (by decide) (fun h46 => ?_) (fun h46 => ?_)
          · skip
            refine zr_iload hx hb kd_Mx_clip_57 hl rfl ?_
            refine zr_aload_n hx hb kd_Mx_clip_59 hl rfl ?_
            refine zr_getr hS hK kf_Mx_11 hI ha_MX hs_MX (zL_0 hL).1 kd_Mx_clip_60 ?_
            refine zr_iload_n hx hb kd_Mx_clip_63 hl rfl ?_
            refine zr_aald hS hK hI ha_MX_0 hs_MX_0 (by decide) (by decide) rfl (zt_tk hL h27).1 (zt_tk hL h27).2.1 kd_Mx_clip_64 ?_
            refine zr_geti hS hK kf_Mx_51 hI (zt_tk hL h27).2.2.1.1 (zt_tk hL h27).2.2.1.2 kd_Mx_clip_65 ?_
            refine zr_iload hx hb kd_Mx_clip_68 hl rfl ?_
            refine lv_isub hx hb kd_Mx_clip_70 ?_
            refine lv_icmp_le (tgt := 82) hx hb kd_Mx_clip_71 (by decide) (fun h71 => ?_) (fun h71 => ?_)
            · skip
              exact rest ls (nb h6 h17 h27 h32 h46) (Int32.not_lt.mpr h71) h27 hl
            · skip
              exact zx_thr (cls := "java/lang/IllegalStateException") (index := 41) (ic := 43) hS hlk hex htr hK hO hI (by decide) hl.1 rfl (zw_mem (i := 345) (by decide +kernel) rfl) (zw_mem (i := 346) (by decide +kernel) rfl) (zw_mem (i := 45) (by decide +kernel) rfl) (by decide +kernel) (by decide) (by decide) (by decide) (by decide) kd_Mx_clip_74 kd_Mx_clip_77 kd_Mx_clip_78 kd_Mx_clip_81 (fun o9 t9 hF hT => ⟨hF, Or.inr (hT.to (by first | exact ⟨rfl, nb h6 h17 h27 h32 h46, Int32.not_le.mp h71⟩ | exact Or.inl ⟨rfl, nb h6 h17 h27 h32 h46, Int32.not_le.mp h71⟩ | exact Or.inr ⟨rfl, nb h6 h17 h27 h32 h46, Int32.not_le.mp h71⟩ | exact Or.inr (Or.inl ⟨rfl, nb h6 h17 h27 h32 h46, Int32.not_le.mp h71⟩) | exact Or.inr (Or.inr ⟨rfl, nb h6 h17 h27 h32 h46, Int32.not_le.mp h71⟩)))⟩)
          · skip
            exact zx_thr (cls := "java/lang/IllegalArgumentException") (index := 48) (ic := 50) hS hlk hex htr hK hO hI (by decide) hl.1 rfl (zw_mem (i := 372) (by decide +kernel) rfl) (zw_mem (i := 373) (by decide +kernel) rfl) (zw_mem (i := 46) (by decide +kernel) rfl) (by decide +kernel) (by decide) (by decide) (by decide) (by decide) kd_Mx_clip_49 kd_Mx_clip_52 kd_Mx_clip_53 kd_Mx_clip_56 (fun o9 t9 hF hT => ⟨hF, Or.inr (hT.to (by first | exact ⟨rfl, by unfold zv_bad; first | exact Or.inl h6 | exact Or.inr (Or.inl h17) | exact Or.inr (Or.inr (Or.inl h27)) | exact Or.inr (Or.inr (Or.inr (Or.inl h32))) | exact Or.inr (Or.inr (Or.inr (Or.inr h46)))⟩ | exact Or.inl ⟨rfl, by unfold zv_bad; first | exact Or.inl h6 | exact Or.inr (Or.inl h17) | exact Or.inr (Or.inr (Or.inl h27)) | exact Or.inr (Or.inr (Or.inr (Or.inl h32))) | exact Or.inr (Or.inr (Or.inr (Or.inr h46)))⟩ | exact Or.inr ⟨rfl, by unfold zv_bad; first | exact Or.inl h6 | exact Or.inr (Or.inl h17) | exact Or.inr (Or.inr (Or.inl h27)) | exact Or.inr (Or.inr (Or.inr (Or.inl h32))) | exact Or.inr (Or.inr (Or.inr (Or.inr h46)))⟩ | exact Or.inr (Or.inl ⟨rfl, by unfold zv_bad; first | exact Or.inl h6 | exact Or.inr (Or.inl h17) | exact Or.inr (Or.inr (Or.inl h27)) | exact Or.inr (Or.inr (Or.inr (Or.inl h32))) | exact Or.inr (Or.inr (Or.inr (Or.inr h46)))⟩) | exact Or.inr (Or.inr ⟨rfl, by unfold zv_bad; first | exact Or.inl h6 | exact Or.inr (Or.inl h17) | exact Or.inr (Or.inr (Or.inl h27)) | exact Or.inr (Or.inr (Or.inr (Or.inl h32))) | exact Or.inr (Or.inr (Or.inr (Or.inr h46)))⟩)))⟩)
def zu_mv (M : zm_T) (c t a : Int32) : Int32 := if zf_has M c = 0 then 1 else if zf_in t 0 3 = 0 then 2 else if zf_in a 0 (1024 - M.1 (4 + c.toNatClampNeg) 4) = 0 then 2 else 0
set_option maxRecDepth 100000 in
set_option maxHeartbeats 4000000 in
theorem x_Mx_move (l : Launch) (hfl : l.flags = Jvm.pinnedFlags ++ [Jvm.noTraceFlag]) (G : zg_T) (M : zm_T) (hL : zL M.2) (c t a : Int32) : zx_M l ky_Mx_move (zr_ws ky_Mx_move kc_Mx_move 5 (some .boolean)) { frames := 6, cells := 1, slots := 6, locals := 60 * 6 } (va_Pc [.ref (G.2.2.1 + 0), .int c, .int t, .int a] (zy_B G M)) (zx_Qi G (fun x => (x = zxN ∧ zu_mv M c t a = 1) ∨ (x = zxA ∧ zu_mv M c t a = 2)) (fun (r : Int32) (M' : zm_T) => zu_mv M c t a = 0 ∧ ((r = 0 ∧ (∃ e, e < 16 ∧ zu_lk M t a (M.1 (4 + c.toNatClampNeg) 4) c e) ∧ M' = M) ∨ (r = 1 ∧ (¬ ∃ e, e < 16 ∧ zu_lk M t a (M.1 (4 + c.toNatClampNeg) 4) c e) ∧ M' = zm_ui (zm_ui M (4 + c.toNatClampNeg) 1 t) (4 + c.toNatClampNeg) 2 a))) M) := by
  refine zx_metY hfl (by decide +kernel) (Nat.le_of_ble_eq_true rfl) ?_
  intro p0 e0 s0 m0 below meth c0 ls htr hS hK hO hex hlk hr hl hI
  have hx := hS.1
  have hb := hS.2.1
  have hl : zl_has ls 5 [some (.ref (G.2.2.1 + 0)), some (.int c), some (.int t), some (.int a), none] := hl
  have lk1 : ∀ {r n : Int32}, ((r = 1 ∧ ∃ d, d < 16 ∧ ¬ nI d = c ∧ zf_lies M (4 + d) t a n = 1) ∨ (r = 0 ∧ ∀ d, d < 16 → nI d = c ∨ zf_lies M (4 + d) t a n = 0)) → ¬ r = 0 → ∃ e, e < 16 ∧ zu_lk M t a n c e := fun h h0 => by
    rcases h with ⟨-, c, h1, h2, h3⟩ | ⟨h, -⟩
    · exact ⟨c, h1, h2, h3⟩
    · exact absurd h h0
  have lk0 : ∀ {r n : Int32}, ((r = 1 ∧ ∃ d, d < 16 ∧ ¬ nI d = c ∧ zf_lies M (4 + d) t a n = 1) ∨ (r = 0 ∧ ∀ d, d < 16 → nI d = c ∨ zf_lies M (4 + d) t a n = 0)) → r = 0 → ¬ ∃ e, e < 16 ∧ zu_lk M t a n c e := fun h h0 => by
    rcases h with ⟨h, -⟩ | ⟨-, h⟩
    · rw [h] at h0; exact absurd h0 (by decide)
    · rintro ⟨e, h1, h2, h3⟩
      rcases h e h1 with h4 | h4
      · exact h2 h4
      · rw [h4] at h3; exact absurd h3 (by decide)
  refine zr_aload_n hx hb kd_Mx_move_0 hl rfl ?_
  refine zr_getr hS hK kf_Mx_18 hI ha_MX hs_MX (zL_0 hL).2.1 kd_Mx_move_1 ?_
  refine zr_iload_n hx hb kd_Mx_move_4 hl rfl ?_
  refine zp_ci (zp_runV hS hK (d_Sh_has l G M hL c) km_Mx_88 hI ha_SH hs_SH rfl hl.1 (Nat.le_of_ble_eq_true rfl) (by decide) (by decide) kd_Mx_move_5 rfl) (fun r5 M5 hp5 => ?_)
  obtain ⟨rfl, hM5⟩ := hp5
  refine lv_if_ne (tgt := 19) hx hb kd_Mx_move_8 (by decide) (fun h8 => ?_) (fun h8 => ?_)
  · skip
    refine zr_aload_n hx hb kd_Mx_move_19 hl rfl ?_
    refine zr_getr hS hK kf_Mx_18 hI ha_MX hs_MX (zL_0 hL).2.1 kd_Mx_move_20 ?_
    refine zr_getr hS hK kf_Mx_70 hI ha_SH hs_SH (zL_0 hL).2.2.2.1 kd_Mx_move_23 ?_
    refine zr_iload_n hx hb kd_Mx_move_26 hl rfl ?_
    refine zr_aald hS hK hI ha_SH_0 hs_SH_0 (by decide) (by decide) rfl (zt_cl hL h8).1 (zt_cl hL h8).2.1 kd_Mx_move_27 ?_
    refine zr_astore hx hb kd_Mx_move_28 hl (by decide) rfl (fun ls hl => ?_)
    refine zr_iload_n hx hb kd_Mx_move_30 hl rfl ?_
    refine lv_iconst (v := 0) hx hb kd_Mx_move_31 (by decide) ?_
    refine lv_iconst (v := 3) hx hb kd_Mx_move_32 (by decide) ?_
    refine zp_ci (zp_runS hS hK (d_Mx_within l G 183 zs M _ _ _) km_Mx_30 hI rfl hl.1 (Nat.le_of_ble_eq_true rfl) (by decide) (by decide) kd_Mx_move_33 rfl) (fun r33 M33 hp33 => ?_)
    obtain ⟨rfl, hM33⟩ := hp33
    refine lv_if_eq (tgt := 56) hx hb kd_Mx_move_36 (by decide) (fun h36 => ?_) (fun h36 => ?_)
    · skip
      exact zx_thr (cls := "java/lang/IllegalArgumentException") (index := 48) (ic := 50) hS hlk hex htr hK hO hI (by decide) hl.1 rfl (zw_mem (i := 372) (by decide +kernel) rfl) (zw_mem (i := 373) (by decide +kernel) rfl) (zw_mem (i := 46) (by decide +kernel) rfl) (by decide +kernel) (by decide) (by decide) (by decide) (by decide) kd_Mx_move_56 kd_Mx_move_59 kd_Mx_move_60 kd_Mx_move_63 (fun o9 t9 hF hT => ⟨hF, Or.inr (hT.to (by first | exact ⟨rfl, by simp [zu_mv, *]⟩ | exact Or.inl ⟨rfl, by simp [zu_mv, *]⟩ | exact Or.inr ⟨rfl, by simp [zu_mv, *]⟩ | exact Or.inr (Or.inl ⟨rfl, by simp [zu_mv, *]⟩) | exact Or.inr (Or.inr ⟨rfl, by simp [zu_mv, *]⟩)))⟩)
    · skip
      refine zr_iload_n hx hb kd_Mx_move_39 hl rfl ?_
      refine lv_iconst (v := 0) hx hb kd_Mx_move_40 (by decide) ?_
      refine lv_sipush (v := 1024) hx hb kd_Mx_move_41 (by decide) ?_
      refine zr_aload hx hb kd_Mx_move_44 hl rfl ?_
      refine zr_geti hS hK kf_Mx_95 hI (zt_cl hL h8).2.2.1.1 (zt_cl hL h8).2.2.1.2 kd_Mx_move_46 ?_
      refine lv_isub hx hb kd_Mx_move_49 ?_
      refine zp_ci (zp_runS hS hK (d_Mx_within l G 183 zs M _ _ _) km_Mx_30 hI rfl hl.1 (Nat.le_of_ble_eq_true rfl) (by decide) (by decide) kd_Mx_move_50 rfl) (fun r50 M50 hp50 => ?_)
      obtain ⟨rfl, hM50⟩ := hp50
      refine lv_if_ne (tgt := 64) hx hb kd_Mx_move_53 (by decide) (fun h53 => ?_) (fun h53 => ?_)
      · skip
        refine zr_aload_n hx hb kd_Mx_move_64 hl rfl ?_
        refine zr_getr hS hK kf_Mx_18 hI ha_MX hs_MX (zL_0 hL).2.1 kd_Mx_move_65 ?_
        refine zr_iload_n hx hb kd_Mx_move_68 hl rfl ?_
        refine zr_iload_n hx hb kd_Mx_move_69 hl rfl ?_
        refine zr_iload_n hx hb kd_Mx_move_70 hl rfl ?_
        refine zr_aload hx hb kd_Mx_move_71 hl rfl ?_
        refine zr_geti hS hK kf_Mx_95 hI (zt_cl hL h8).2.2.1.1 (zt_cl hL h8).2.2.1.2 kd_Mx_move_73 ?_
        refine zr_ci (zr_runV hS hK (c_Sh_overlaps l G M hL _ _ _ _) km_Mx_66 hI ha_SH hs_SH rfl hl.1 (Nat.le_of_ble_eq_true rfl) (by decide) (by decide) kd_Mx_move_76 rfl) hI (fun r76 M76 H locs hp76 hI => ?_)
        obtain ⟨hp76, hM76⟩ := hp76
        rw [hM76] at hI
        refine lv_if_eq (tgt := 84) hx hb kd_Mx_move_79 (by decide) (fun h79 => ?_) (fun h79 => ?_)
        · skip
          refine zr_aload hx hb kd_Mx_move_84 hl rfl ?_
          refine zr_iload_n hx hb kd_Mx_move_86 hl rfl ?_
          refine zr_iload_n hx hb kd_Mx_move_87 hl rfl ?_
          refine zr_cv (zr_runV hS hK (c_Cl_layOn l G 183 zs M (4 + c.toNatClampNeg) t a (zt_cl hL h8).2.2.1.1 (zt_cl hL h8).2.2.1.2) km_Mx_80 hI (zt_cl hL h8).2.2.1.1 (zt_cl hL h8).2.2.1.2 rfl hl.1 (Nat.le_of_ble_eq_true rfl) (by decide) (by decide) kd_Mx_move_88 rfl) hI (fun M88 H locs hp88 hI => ?_)
          rw [hp88] at hI
          refine lv_iconst (v := 1) hx hb kd_Mx_move_91 (by decide) ?_
          exact zx_mono (zx_ri' hO) (zr_zret hS hK hlk hr (by decide) hI kd_Mx_move_92 (⟨by rw [zu_mv, if_neg h8, if_neg h36, if_neg h53], Or.inr ⟨rfl, lk0 hp76 h79, rfl⟩⟩))
        · skip
          refine lv_iconst (v := 0) hx hb kd_Mx_move_82 (by decide) ?_
          exact zx_mono (zx_ri' hO) (zr_zret hS hK hlk hr (by decide) hI kd_Mx_move_83 (⟨by rw [zu_mv, if_neg h8, if_neg h36, if_neg h53], Or.inl ⟨rfl, lk1 hp76 h79, rfl⟩⟩))
      · skip
        exact zx_thr (cls := "java/lang/IllegalArgumentException") (index := 48) (ic := 50) hS hlk hex htr hK hO hI (by decide) hl.1 rfl (zw_mem (i := 372) (by decide +kernel) rfl) (zw_mem (i := 373) (by decide +kernel) rfl) (zw_mem (i := 46) (by decide +kernel) rfl) (by decide +kernel) (by decide) (by decide) (by decide) (by decide) kd_Mx_move_56 kd_Mx_move_59 kd_Mx_move_60 kd_Mx_move_63 (fun o9 t9 hF hT => ⟨hF, Or.inr (hT.to (by first | exact ⟨rfl, by simp [zu_mv, *]⟩ | exact Or.inl ⟨rfl, by simp [zu_mv, *]⟩ | exact Or.inr ⟨rfl, by simp [zu_mv, *]⟩ | exact Or.inr (Or.inl ⟨rfl, by simp [zu_mv, *]⟩) | exact Or.inr (Or.inr ⟨rfl, by simp [zu_mv, *]⟩)))⟩)
  · skip
    exact zx_thr (cls := "java/util/NoSuchElementException") (index := 92) (ic := 94) hS hlk hex htr hK hO hI (by decide) hl.1 rfl (zw_mem (i := 443) (by decide +kernel) rfl) (zw_mem (i := 444) (by decide +kernel) rfl) (zw_mem (i := 47) (by decide +kernel) rfl) (by decide +kernel) (by decide) (by decide) (by decide) (by decide) kd_Mx_move_11 kd_Mx_move_14 kd_Mx_move_15 kd_Mx_move_18 (fun o9 t9 hF hT => ⟨hF, Or.inr (hT.to (by first | exact ⟨rfl, by simp [zu_mv, *]⟩ | exact Or.inl ⟨rfl, by simp [zu_mv, *]⟩ | exact Or.inr ⟨rfl, by simp [zu_mv, *]⟩ | exact Or.inr (Or.inl ⟨rfl, by simp [zu_mv, *]⟩) | exact Or.inr (Or.inr ⟨rfl, by simp [zu_mv, *]⟩)))⟩)
def zu_spl (M : zm_T) (c k : Int32) : Int32 := if zf_has M c = 0 then 1 else if zf_in k 1 (M.1 (4 + c.toNatClampNeg) 4 - 1) = 0 then 2 else 0
def zu_nsp (M : zm_T) (c : Nat) (k : Int32) : Prop := k < M.1 (4 + c) 6 ∨ M.1 (4 + c) 4 - k < M.1 (4 + c) 7
def zu_sp2 (M : zm_T) (a d t : Nat) (k : Int32) : zm_T := zm_ui (zm_ui (zm_ui (zm_ui (zm_ui (zm_ui (zm_ui (zm_ui (zm_ui (zm_ur M d 0 (some t)) d 3 (M.1 a 3 + k)) d 4 (M.1 a 4 - k)) d 1 (M.1 a 1)) d 2 (M.1 a 2 + k)) d 5 (M.1 a 5)) d 6 0) d 7 (M.1 a 7)) a 4 k) a 7 0
set_option maxRecDepth 100000 in
set_option maxHeartbeats 4000000 in
theorem x_Mx_split (l : Launch) (hfl : l.flags = Jvm.pinnedFlags ++ [Jvm.noTraceFlag]) (G : zg_T) (M : zm_T) (hL : zL M.2) (c k : Int32) (t : Nat) (hcl : ¬ zf_has M c = 0 → M.2.1 (4 + c.toNatClampNeg) 0 = some t) : zx_M l ky_Mx_split (zr_ws ky_Mx_split kc_Mx_split 5 (some .int)) { frames := 6, cells := 1, slots := 6, locals := 60 * 6 } (va_Pc [.ref (G.2.2.1 + 0), .int c, .int k] (zy_B G M)) (zx_Qi G (fun x => (x = zxN ∧ zu_spl M c k = 1) ∨ (x = zxA ∧ zu_spl M c k = 2)) (fun (r : Int32) (M' : zm_T) => zu_spl M c k = 0 ∧ ∃ d, zf_fr M d ∧ (((d = 16 ∨ zu_nsp M c.toNatClampNeg k) ∧ r = -1 ∧ M' = M) ∨ (d < 16 ∧ ¬ zu_nsp M c.toNatClampNeg k ∧ r = nI d ∧ M' = zu_sp2 M (4 + c.toNatClampNeg) (4 + d) t k))) M) := by
  refine zx_metY hfl (by decide +kernel) (Nat.le_of_ble_eq_true rfl) ?_
  intro p0 e0 s0 m0 below meth c0 ls htr hS hK hO hex hlk hr hl hI
  have hx := hS.1
  have hb := hS.2.1
  have hl : zl_has ls 5 [some (.ref (G.2.2.1 + 0)), some (.int c), some (.int k), none, none] := hl
  have gm : ∀ d, d < 16 → ¬ nI d = (-1 : Int32) := fun d hd h => by
    have : (nI d).toInt = (-1 : Int32).toInt := by rw [h]
    rw [nI_toInt (by omega), show (-1 : Int32).toInt = -1 from by decide] at this
    omega
  have gx : ∀ d, zf_fr M d → (if d < 16 then nI d else (-1 : Int32)) = -1 → d = 16 := fun d hd h => by
    have h1 := hd.1
    by_cases g : d < 16
    · rw [if_pos g] at h; exact absurd h (gm d g)
    · omega
  have gd : ∀ d, zf_fr M d → ¬ (if d < 16 then nI d else (-1 : Int32)) = -1 → vp_in (if d < 16 then nI d else (-1 : Int32)) 16 ∧ M.2.1 3 (if d < 16 then nI d else (-1 : Int32)).toNatClampNeg = some (4 + d) ∧ 4 + d < 183 ∧ zs (4 + d) = (10 + 0, 0) ∧ d < 16 := fun d hd h => by
    have h16 : d < 16 := by
      by_cases g : d < 16
      · exact g
      · rw [if_neg g] at h; exact absurd rfl h
    rw [if_pos h16, zn_cl (by omega)]
    exact ⟨vp_in_nI (by omega) (by decide), zL_cl hL h16, by omega, zs_cl d h16, h16⟩
  have gn : ∀ d, zf_fr M d → d < 16 → ¬ zf_has M c = 0 → 4 + c.toNatClampNeg ≠ 4 + d := fun d hd h16 hh e => by
    have h1 := hd.2.2 h16
    have e2 : c.toNatClampNeg = d := by omega
    rw [← e2] at h1
    apply hh
    unfold zf_has
    rw [h1]
    by_cases g : zf_in c 0 15 = 0
    · rw [if_pos g]
    · rw [if_neg g, if_pos (by decide)]
  refine zr_aload_n hx hb kd_Mx_split_0 hl rfl ?_
  refine zr_getr hS hK kf_Mx_18 hI ha_MX hs_MX (zL_0 hL).2.1 kd_Mx_split_1 ?_
  refine zr_iload_n hx hb kd_Mx_split_4 hl rfl ?_
  refine zp_ci (zp_runV hS hK (d_Sh_has l G M hL c) km_Mx_88 hI ha_SH hs_SH rfl hl.1 (Nat.le_of_ble_eq_true rfl) (by decide) (by decide) kd_Mx_split_5 rfl) (fun r5 M5 hp5 => ?_)
  obtain ⟨rfl, hM5⟩ := hp5
  refine lv_if_ne (tgt := 19) hx hb kd_Mx_split_8 (by decide) (fun h8 => ?_) (fun h8 => ?_)
  · skip
    refine zr_aload_n hx hb kd_Mx_split_19 hl rfl ?_
    refine zr_getr hS hK kf_Mx_18 hI ha_MX hs_MX (zL_0 hL).2.1 kd_Mx_split_20 ?_
    refine zr_getr hS hK kf_Mx_70 hI ha_SH hs_SH (zL_0 hL).2.2.2.1 kd_Mx_split_23 ?_
    refine zr_iload_n hx hb kd_Mx_split_26 hl rfl ?_
    refine zr_aald hS hK hI ha_SH_0 hs_SH_0 (by decide) (by decide) rfl (zt_cl hL h8).1 (zt_cl hL h8).2.1 kd_Mx_split_27 ?_
    refine zr_astore_n hx hb kd_Mx_split_28 hl (by decide) rfl (fun ls hl => ?_)
    refine zr_iload_n hx hb kd_Mx_split_29 hl rfl ?_
    refine lv_iconst (v := 1) hx hb kd_Mx_split_30 (by decide) ?_
    refine zr_aload_n hx hb kd_Mx_split_31 hl rfl ?_
    refine zr_geti hS hK kf_Mx_95 hI (zt_cl hL h8).2.2.1.1 (zt_cl hL h8).2.2.1.2 kd_Mx_split_32 ?_
    refine lv_iconst (v := 1) hx hb kd_Mx_split_35 (by decide) ?_
    refine lv_isub hx hb kd_Mx_split_36 ?_
    refine zp_ci (zp_runS hS hK (d_Mx_within l G 183 zs M _ _ _) km_Mx_30 hI rfl hl.1 (Nat.le_of_ble_eq_true rfl) (by decide) (by decide) kd_Mx_split_37 rfl) (fun r37 M37 hp37 => ?_)
    obtain ⟨rfl, hM37⟩ := hp37
    refine lv_if_ne (tgt := 51) hx hb kd_Mx_split_40 (by decide) (fun h40 => ?_) (fun h40 => ?_)
    · skip
      refine zr_aload_n hx hb kd_Mx_split_51 hl rfl ?_
      refine zr_getr hS hK kf_Mx_18 hI ha_MX hs_MX (zL_0 hL).2.1 kd_Mx_split_52 ?_
      refine zr_ci (zr_runV hS hK (c_Sh_leastFree l G M hL) km_Mx_63 hI ha_SH hs_SH rfl hl.1 (Nat.le_of_ble_eq_true rfl) (by decide) (by decide) kd_Mx_split_55 rfl) hI (fun r55 M55 H locs hp55 hI => ?_)
      obtain ⟨⟨d, hd, rfl⟩, hM55⟩ := hp55
      rw [hM55] at hI
      refine zr_istore hx hb kd_Mx_split_58 hl (by decide) rfl (fun ls hl => ?_)
      refine zr_iload hx hb kd_Mx_split_60 hl rfl ?_
      refine lv_iconst (v := -1) hx hb kd_Mx_split_62 (by decide) ?_
      refine lv_icmp_eq (tgt := 87) hx hb kd_Mx_split_63 (by decide) (fun h63 => ?_) (fun h63 => ?_)
      · skip
        refine lv_iconst (v := -1) hx hb kd_Mx_split_87 (by decide) ?_
        exact zx_mono (zx_ri' hO) (zr_iret hS hK hlk hr hI kd_Mx_split_88 (⟨by rw [zu_spl, if_neg h8, if_neg h40], d, hd, Or.inl ⟨by first | exact Or.inl (gx d hd h63) | exact Or.inr (Or.inl h71) | exact Or.inr (Or.inr (Int32.not_le.mp h84)), rfl, rfl⟩⟩))
      · skip
        refine zr_iload_n hx hb kd_Mx_split_66 hl rfl ?_
        refine zr_aload_n hx hb kd_Mx_split_67 hl rfl ?_
        refine zr_geti hS hK kf_Mx_96 hI (zt_cl hL h8).2.2.1.1 (zt_cl hL h8).2.2.1.2 kd_Mx_split_68 ?_
        refine lv_icmp_lt (tgt := 87) hx hb kd_Mx_split_71 (by decide) (fun h71 => ?_) (fun h71 => ?_)
        · skip
          refine lv_iconst (v := -1) hx hb kd_Mx_split_87 (by decide) ?_
          exact zx_mono (zx_ri' hO) (zr_iret hS hK hlk hr hI kd_Mx_split_88 (⟨by rw [zu_spl, if_neg h8, if_neg h40], d, hd, Or.inl ⟨by first | exact Or.inl (gx d hd h63) | exact Or.inr (Or.inl h71) | exact Or.inr (Or.inr (Int32.not_le.mp h84)), rfl, rfl⟩⟩))
        · skip
          refine zr_aload_n hx hb kd_Mx_split_74 hl rfl ?_
          refine zr_geti hS hK kf_Mx_95 hI (zt_cl hL h8).2.2.1.1 (zt_cl hL h8).2.2.1.2 kd_Mx_split_75 ?_
          refine zr_iload_n hx hb kd_Mx_split_78 hl rfl ?_
          refine lv_isub hx hb kd_Mx_split_79 ?_
          refine zr_aload_n hx hb kd_Mx_split_80 hl rfl ?_
          refine zr_geti hS hK kf_Mx_99 hI (zt_cl hL h8).2.2.1.1 (zt_cl hL h8).2.2.1.2 kd_Mx_split_81 ?_
          refine lv_icmp_ge (tgt := 89) hx hb kd_Mx_split_84 (by decide) (fun h84 => ?_) (fun h84 => ?_)
          · skip
            refine zr_aload_n hx hb kd_Mx_split_89 hl rfl ?_
            refine zr_aload_n hx hb kd_Mx_split_90 hl rfl ?_
            refine zr_getr hS hK kf_Mx_18 hI ha_MX hs_MX (zL_0 hL).2.1 kd_Mx_split_91 ?_
            refine zr_getr hS hK kf_Mx_70 hI ha_SH hs_SH (zL_0 hL).2.2.2.1 kd_Mx_split_94 ?_
            refine zr_iload hx hb kd_Mx_split_97 hl rfl ?_
            refine zr_aald hS hK hI ha_SH_0 hs_SH_0 (by decide) (by decide) rfl (gd d hd h63).1 (gd d hd h63).2.1 kd_Mx_split_99 ?_
            refine zr_iload_n hx hb kd_Mx_split_100 hl rfl ?_
            refine zr_cv (zr_runV hS hK (c_Cl_splitInto l G 183 zs M (4 + c.toNatClampNeg) (4 + d) t k (zt_cl hL h8).2.2.1.1 (zt_cl hL h8).2.2.1.2 (gd d hd h63).2.2.1 (gd d hd h63).2.2.2.1 (hcl h8) (gn d hd (gd d hd h63).2.2.2.2 h8)) km_Mx_102 hI (zt_cl hL h8).2.2.1.1 (zt_cl hL h8).2.2.1.2 rfl hl.1 (Nat.le_of_ble_eq_true rfl) (by decide) (by decide) kd_Mx_split_101 rfl) hI (fun M101 H locs hp101 hI => ?_)
            rw [hp101] at hI
            refine zr_iload hx hb kd_Mx_split_104 hl rfl ?_
            exact zx_mono (zx_ri' hO) (zr_iret hS hK hlk hr hI kd_Mx_split_106 (⟨by rw [zu_spl, if_neg h8, if_neg h40], d, hd, Or.inr ⟨(gd d hd h63).2.2.2.2, fun h => h.elim (fun h => absurd h h71) (fun h => absurd h84 (Int32.not_le.mpr h)), by rw [if_pos (gd d hd h63).2.2.2.2], rfl⟩⟩))
          · skip
            refine lv_iconst (v := -1) hx hb kd_Mx_split_87 (by decide) ?_
            exact zx_mono (zx_ri' hO) (zr_iret hS hK hlk hr hI kd_Mx_split_88 (⟨by rw [zu_spl, if_neg h8, if_neg h40], d, hd, Or.inl ⟨by first | exact Or.inl (gx d hd h63) | exact Or.inr (Or.inl h71) | exact Or.inr (Or.inr (Int32.not_le.mp h84)), rfl, rfl⟩⟩))
    · skip
      exact zx_thr (cls := "java/lang/IllegalArgumentException") (index := 48) (ic := 50) hS hlk hex htr hK hO hI (by decide) hl.1 rfl (zw_mem (i := 372) (by decide +kernel) rfl) (zw_mem (i := 373) (by decide +kernel) rfl) (zw_mem (i := 46) (by decide +kernel) rfl) (by decide +kernel) (by decide) (by decide) (by decide) (by decide) kd_Mx_split_43 kd_Mx_split_46 kd_Mx_split_47 kd_Mx_split_50 (fun o9 t9 hF hT => ⟨hF, Or.inr (hT.to (by first | exact ⟨rfl, by simp [zu_spl, *]⟩ | exact Or.inl ⟨rfl, by simp [zu_spl, *]⟩ | exact Or.inr ⟨rfl, by simp [zu_spl, *]⟩ | exact Or.inr (Or.inl ⟨rfl, by simp [zu_spl, *]⟩) | exact Or.inr (Or.inr ⟨rfl, by simp [zu_spl, *]⟩)))⟩)
  · skip
    exact zx_thr (cls := "java/util/NoSuchElementException") (index := 92) (ic := 94) hS hlk hex htr hK hO hI (by decide) hl.1 rfl (zw_mem (i := 443) (by decide +kernel) rfl) (zw_mem (i := 444) (by decide +kernel) rfl) (zw_mem (i := 47) (by decide +kernel) rfl) (by decide +kernel) (by decide) (by decide) (by decide) (by decide) kd_Mx_split_11 kd_Mx_split_14 kd_Mx_split_15 kd_Mx_split_18 (fun o9 t9 hF hT => ⟨hF, Or.inr (hT.to (by first | exact ⟨rfl, by simp [zu_spl, *]⟩ | exact Or.inl ⟨rfl, by simp [zu_spl, *]⟩ | exact Or.inr ⟨rfl, by simp [zu_spl, *]⟩ | exact Or.inr (Or.inl ⟨rfl, by simp [zu_spl, *]⟩) | exact Or.inr (Or.inr ⟨rfl, by simp [zu_spl, *]⟩)))⟩)
def zu_shp (M : zm_T) (c lv i o : Int32) : Int32 := if zf_has M c = 0 then 1 else if zf_in lv 0 1024 = 0 then 2 else if i < 0 then 2 else if o < 0 then 2 else if M.1 (4 + c.toNatClampNeg) 4 - o < i then 2 else 0
set_option maxRecDepth 100000 in
set_option maxHeartbeats 4000000 in
theorem x_Mx_shape (l : Launch) (hfl : l.flags = Jvm.pinnedFlags ++ [Jvm.noTraceFlag]) (G : zg_T) (M : zm_T) (hL : zL M.2) (c lv i o : Int32) : zx_M l ky_Mx_shape (zr_ws ky_Mx_shape kc_Mx_shape 6 none) { frames := 6, cells := 1, slots := 6, locals := 60 * 6 } (va_Pc [.ref (G.2.2.1 + 0), .int c, .int lv, .int i, .int o] (zy_B G M)) (zx_Qv G (fun x => (x = zxN ∧ zu_shp M c lv i o = 1) ∨ (x = zxA ∧ zu_shp M c lv i o = 2)) (fun (M' : zm_T) => zu_shp M c lv i o = 0 ∧ M' = zm_ui (zm_ui (zm_ui M (4 + c.toNatClampNeg) 5 lv) (4 + c.toNatClampNeg) 6 i) (4 + c.toNatClampNeg) 7 o) M) := by
  refine zx_metY hfl (by decide +kernel) (Nat.le_of_ble_eq_true rfl) ?_
  intro p0 e0 s0 m0 below meth c0 ls htr hS hK hO hex hlk hr hl hI
  have hx := hS.1
  have hb := hS.2.1
  have hl : zl_has ls 6 [some (.ref (G.2.2.1 + 0)), some (.int c), some (.int lv), some (.int i), some (.int o), none] := hl
  have q1 : ¬ zf_has M c = 0 → zf_in lv 0 1024 = 0 → zu_shp M c lv i o = 2 := fun h8 h34 => by rw [zu_shp, if_neg h8, if_pos h34]
  have q2 : ¬ zf_has M c = 0 → ¬ zf_in lv 0 1024 = 0 → i < 0 → zu_shp M c lv i o = 2 := fun h8 h34 h38 => by rw [zu_shp, if_neg h8, if_neg h34, if_pos h38]
  have q3 : ¬ zf_has M c = 0 → ¬ zf_in lv 0 1024 = 0 → ¬ i < 0 → o < 0 → zu_shp M c lv i o = 2 := fun h8 h34 h38 h43 => by rw [zu_shp, if_neg h8, if_neg h34, if_neg h38, if_pos h43]
  have q4 : ¬ zf_has M c = 0 → ¬ zf_in lv 0 1024 = 0 → ¬ i < 0 → ¬ o < 0 → ¬ i ≤ M.1 (4 + c.toNatClampNeg) 4 - o → zu_shp M c lv i o = 2 := fun h8 h34 h38 h43 h55 => by rw [zu_shp, if_neg h8, if_neg h34, if_neg h38, if_neg h43, if_pos (Int32.not_le.mp h55)]
  refine zr_aload_n hx hb kd_Mx_shape_0 hl rfl ?_
  refine zr_getr hS hK kf_Mx_18 hI ha_MX hs_MX (zL_0 hL).2.1 kd_Mx_shape_1 ?_
  refine zr_iload_n hx hb kd_Mx_shape_4 hl rfl ?_
  refine zp_ci (zp_runV hS hK (d_Sh_has l G M hL c) km_Mx_88 hI ha_SH hs_SH rfl hl.1 (Nat.le_of_ble_eq_true rfl) (by decide) (by decide) kd_Mx_shape_5 rfl) (fun r5 M5 hp5 => ?_)
  obtain ⟨rfl, hM5⟩ := hp5
  refine lv_if_ne (tgt := 19) hx hb kd_Mx_shape_8 (by decide) (fun h8 => ?_) (fun h8 => ?_)
  · skip
    refine zr_aload_n hx hb kd_Mx_shape_19 hl rfl ?_
    refine zr_getr hS hK kf_Mx_18 hI ha_MX hs_MX (zL_0 hL).2.1 kd_Mx_shape_20 ?_
    refine zr_getr hS hK kf_Mx_70 hI ha_SH hs_SH (zL_0 hL).2.2.2.1 kd_Mx_shape_23 ?_
    refine zr_iload_n hx hb kd_Mx_shape_26 hl rfl ?_
    refine zr_aald hS hK hI ha_SH_0 hs_SH_0 (by decide) (by decide) rfl (zt_cl hL h8).1 (zt_cl hL h8).2.1 kd_Mx_shape_27 ?_
    refine zr_astore hx hb kd_Mx_shape_28 hl (by decide) rfl (fun ls hl => ?_)
    refine zr_iload_n hx hb kd_Mx_shape_30 hl rfl ?_
    refine zp_ci (zp_runS hS hK (d_Mx_isLevel l G 183 zs M _) km_Mx_106 hI rfl hl.1 (Nat.le_of_ble_eq_true rfl) (by decide) (by decide) kd_Mx_shape_31 rfl) (fun r31 M31 hp31 => ?_)
    obtain ⟨rfl, hM31⟩ := hp31
    refine lv_if_eq (tgt := 58) hx hb kd_Mx_shape_34 (by decide) (fun h34 => ?_) (fun h34 => ?_)
    · skip
      exact zx_thr (cls := "java/lang/IllegalArgumentException") (index := 48) (ic := 50) hS hlk hex htr hK hO hI (by decide) hl.1 rfl (zw_mem (i := 372) (by decide +kernel) rfl) (zw_mem (i := 373) (by decide +kernel) rfl) (zw_mem (i := 46) (by decide +kernel) rfl) (by decide +kernel) (by decide) (by decide) (by decide) (by decide) kd_Mx_shape_58 kd_Mx_shape_61 kd_Mx_shape_62 kd_Mx_shape_65 (fun o9 t9 hF hT => ⟨hF, Or.inr (hT.to (by first | exact ⟨rfl, by first | exact q1 h8 h34 | exact q2 h8 h34 h38 | exact q3 h8 h34 h38 h43 | exact q4 h8 h34 h38 h43 h55⟩ | exact Or.inl ⟨rfl, by first | exact q1 h8 h34 | exact q2 h8 h34 h38 | exact q3 h8 h34 h38 h43 | exact q4 h8 h34 h38 h43 h55⟩ | exact Or.inr ⟨rfl, by first | exact q1 h8 h34 | exact q2 h8 h34 h38 | exact q3 h8 h34 h38 h43 | exact q4 h8 h34 h38 h43 h55⟩ | exact Or.inr (Or.inl ⟨rfl, by first | exact q1 h8 h34 | exact q2 h8 h34 h38 | exact q3 h8 h34 h38 h43 | exact q4 h8 h34 h38 h43 h55⟩) | exact Or.inr (Or.inr ⟨rfl, by first | exact q1 h8 h34 | exact q2 h8 h34 h38 | exact q3 h8 h34 h38 h43 | exact q4 h8 h34 h38 h43 h55⟩)))⟩)
    · skip
      refine zr_iload_n hx hb kd_Mx_shape_37 hl rfl ?_
      refine lv_if_lt (tgt := 58) hx hb kd_Mx_shape_38 (by decide) (fun h38 => ?_) (fun h38 => ?_)
      · skip
        exact zx_thr (cls := "java/lang/IllegalArgumentException") (index := 48) (ic := 50) hS hlk hex htr hK hO hI (by decide) hl.1 rfl (zw_mem (i := 372) (by decide +kernel) rfl) (zw_mem (i := 373) (by decide +kernel) rfl) (zw_mem (i := 46) (by decide +kernel) rfl) (by decide +kernel) (by decide) (by decide) (by decide) (by decide) kd_Mx_shape_58 kd_Mx_shape_61 kd_Mx_shape_62 kd_Mx_shape_65 (fun o9 t9 hF hT => ⟨hF, Or.inr (hT.to (by first | exact ⟨rfl, by first | exact q1 h8 h34 | exact q2 h8 h34 h38 | exact q3 h8 h34 h38 h43 | exact q4 h8 h34 h38 h43 h55⟩ | exact Or.inl ⟨rfl, by first | exact q1 h8 h34 | exact q2 h8 h34 h38 | exact q3 h8 h34 h38 h43 | exact q4 h8 h34 h38 h43 h55⟩ | exact Or.inr ⟨rfl, by first | exact q1 h8 h34 | exact q2 h8 h34 h38 | exact q3 h8 h34 h38 h43 | exact q4 h8 h34 h38 h43 h55⟩ | exact Or.inr (Or.inl ⟨rfl, by first | exact q1 h8 h34 | exact q2 h8 h34 h38 | exact q3 h8 h34 h38 h43 | exact q4 h8 h34 h38 h43 h55⟩) | exact Or.inr (Or.inr ⟨rfl, by first | exact q1 h8 h34 | exact q2 h8 h34 h38 | exact q3 h8 h34 h38 h43 | exact q4 h8 h34 h38 h43 h55⟩)))⟩)
      · skip
        refine zr_iload hx hb kd_Mx_shape_41 hl rfl ?_
        refine lv_if_lt (tgt := 58) hx hb kd_Mx_shape_43 (by decide) (fun h43 => ?_) (fun h43 => ?_)
        · skip
          exact zx_thr (cls := "java/lang/IllegalArgumentException") (index := 48) (ic := 50) hS hlk hex htr hK hO hI (by decide) hl.1 rfl (zw_mem (i := 372) (by decide +kernel) rfl) (zw_mem (i := 373) (by decide +kernel) rfl) (zw_mem (i := 46) (by decide +kernel) rfl) (by decide +kernel) (by decide) (by decide) (by decide) (by decide) kd_Mx_shape_58 kd_Mx_shape_61 kd_Mx_shape_62 kd_Mx_shape_65 (fun o9 t9 hF hT => ⟨hF, Or.inr (hT.to (by first | exact ⟨rfl, by first | exact q1 h8 h34 | exact q2 h8 h34 h38 | exact q3 h8 h34 h38 h43 | exact q4 h8 h34 h38 h43 h55⟩ | exact Or.inl ⟨rfl, by first | exact q1 h8 h34 | exact q2 h8 h34 h38 | exact q3 h8 h34 h38 h43 | exact q4 h8 h34 h38 h43 h55⟩ | exact Or.inr ⟨rfl, by first | exact q1 h8 h34 | exact q2 h8 h34 h38 | exact q3 h8 h34 h38 h43 | exact q4 h8 h34 h38 h43 h55⟩ | exact Or.inr (Or.inl ⟨rfl, by first | exact q1 h8 h34 | exact q2 h8 h34 h38 | exact q3 h8 h34 h38 h43 | exact q4 h8 h34 h38 h43 h55⟩) | exact Or.inr (Or.inr ⟨rfl, by first | exact q1 h8 h34 | exact q2 h8 h34 h38 | exact q3 h8 h34 h38 h43 | exact q4 h8 h34 h38 h43 h55⟩)))⟩)
        · skip
          refine zr_iload_n hx hb kd_Mx_shape_46 hl rfl ?_
          refine zr_aload hx hb kd_Mx_shape_47 hl rfl ?_
          refine zr_geti hS hK kf_Mx_95 hI (zt_cl hL h8).2.2.1.1 (zt_cl hL h8).2.2.1.2 kd_Mx_shape_49 ?_
          refine zr_iload hx hb kd_Mx_shape_52 hl rfl ?_
          refine lv_isub hx hb kd_Mx_shape_54 ?_
          refine lv_icmp_le (tgt := 66) hx hb kd_Mx_shape_55 (by decide) (fun h55 => ?_) (fun h55 => ?_)
          · skip
            refine zr_aload hx hb kd_Mx_shape_66 hl rfl ?_
            refine zr_iload_n hx hb kd_Mx_shape_68 hl rfl ?_
            refine zr_iload_n hx hb kd_Mx_shape_69 hl rfl ?_
            refine zr_iload hx hb kd_Mx_shape_70 hl rfl ?_
            refine zr_cv (zr_runV hS hK (c_Cl_form l G 183 zs M (4 + c.toNatClampNeg) lv i o (zt_cl hL h8).2.2.1.1 (zt_cl hL h8).2.2.1.2) km_Mx_84 hI (zt_cl hL h8).2.2.1.1 (zt_cl hL h8).2.2.1.2 rfl hl.1 (Nat.le_of_ble_eq_true rfl) (by decide) (by decide) kd_Mx_shape_72 rfl) hI (fun M72 H locs hp72 hI => ?_)
            rw [hp72] at hI
            exact zx_mono (zx_rv' hO) (zr_vret hS hK hlk hr hI kd_Mx_shape_75 (⟨by rw [zu_shp, if_neg h8, if_neg h34, if_neg h38, if_neg h43, if_neg (Int32.not_lt.mpr h55)], rfl⟩))
          · skip
            exact zx_thr (cls := "java/lang/IllegalArgumentException") (index := 48) (ic := 50) hS hlk hex htr hK hO hI (by decide) hl.1 rfl (zw_mem (i := 372) (by decide +kernel) rfl) (zw_mem (i := 373) (by decide +kernel) rfl) (zw_mem (i := 46) (by decide +kernel) rfl) (by decide +kernel) (by decide) (by decide) (by decide) (by decide) kd_Mx_shape_58 kd_Mx_shape_61 kd_Mx_shape_62 kd_Mx_shape_65 (fun o9 t9 hF hT => ⟨hF, Or.inr (hT.to (by first | exact ⟨rfl, by first | exact q1 h8 h34 | exact q2 h8 h34 h38 | exact q3 h8 h34 h38 h43 | exact q4 h8 h34 h38 h43 h55⟩ | exact Or.inl ⟨rfl, by first | exact q1 h8 h34 | exact q2 h8 h34 h38 | exact q3 h8 h34 h38 h43 | exact q4 h8 h34 h38 h43 h55⟩ | exact Or.inr ⟨rfl, by first | exact q1 h8 h34 | exact q2 h8 h34 h38 | exact q3 h8 h34 h38 h43 | exact q4 h8 h34 h38 h43 h55⟩ | exact Or.inr (Or.inl ⟨rfl, by first | exact q1 h8 h34 | exact q2 h8 h34 h38 | exact q3 h8 h34 h38 h43 | exact q4 h8 h34 h38 h43 h55⟩) | exact Or.inr (Or.inr ⟨rfl, by first | exact q1 h8 h34 | exact q2 h8 h34 h38 | exact q3 h8 h34 h38 h43 | exact q4 h8 h34 h38 h43 h55⟩)))⟩)
  · skip
    exact zx_thr (cls := "java/util/NoSuchElementException") (index := 92) (ic := 94) hS hlk hex htr hK hO hI (by decide) hl.1 rfl (zw_mem (i := 443) (by decide +kernel) rfl) (zw_mem (i := 444) (by decide +kernel) rfl) (zw_mem (i := 47) (by decide +kernel) rfl) (by decide +kernel) (by decide) (by decide) (by decide) (by decide) kd_Mx_shape_11 kd_Mx_shape_14 kd_Mx_shape_15 kd_Mx_shape_18 (fun o9 t9 hF hT => ⟨hF, Or.inr (hT.to (by first | exact ⟨rfl, by simp [zu_shp, *]⟩ | exact Or.inl ⟨rfl, by simp [zu_shp, *]⟩ | exact Or.inr ⟨rfl, by simp [zu_shp, *]⟩ | exact Or.inr (Or.inl ⟨rfl, by simp [zu_shp, *]⟩) | exact Or.inr (Or.inr ⟨rfl, by simp [zu_shp, *]⟩)))⟩)

/-! One call on both sides: route, send. -/
section ZS
variable {M M1 M2 : zm_T}
theorem zJ_175 (hJ : zJ M) (hr : M2.2.1 = M.2.1) (hF : ∀ c j, ¬ ((c = 151 ∧ j = 0) ∨ c = 175 ∨ c = 176) → M2.1 c j = M.1 c j) : zJ M2 :=
  zJ_k hJ hr (zJt_c (fun c j h => hF c j (by omega))) (zJc_c (fun c j h => hF c j (by omega)) (fun c _ => by rw [hr])) (zJr2_c (fun s hs => hF _ _ (by omega)) (fun s j hs => hF _ _ (by omega)) (fun j => hF _ _ (by omega)) (fun j => hF _ _ (by omega))) (zJe_c (fun s i j _ _ _ _ => hF _ _ (by omega)) (fun c j _ _ => hF _ _ (by omega))) (zJf_c (fun s j _ _ => hF _ _ (by omega)) (fun s c j _ _ _ => hF _ _ (by omega)) (fun c j _ _ => hF _ _ (by omega))) (zJm_c (fun s j _ _ => hF _ _ (by omega)) (fun c j _ _ => hF _ _ (by omega))) (zJb_c (fun j _ => hF _ _ (by omega)) (fun s j _ => hF _ _ (by omega)) (hF _ _ (by omega)) (fun j => hF _ _ (by omega)))
theorem s_route {s t k rb : Int32} (hJ : zJ M) (h1 : (k = 0 ∧ ∃ (r : Int32) (M0 : zm_T), (zv_rt s t = 0 ∧ ((r = 1 ∧ s.toNatClampNeg ≠ t.toNatClampNeg ∧ ¬ gq_T (zfd M) t.toNatClampNeg s.toNatClampNeg ∧ M0 = zm_ui M (23 + 14 * s.toNatClampNeg) 4 t) ∨ (r = 0 ∧ (s.toNatClampNeg = t.toNatClampNeg ∨ gq_T (zfd M) t.toNatClampNeg s.toNatClampNeg) ∧ M0 = M))) ∧ M1 = zm_ul M0 182 0 (if r = 0 then 0 else 1)) ∨ (M1 = M ∧ ((k = 1 ∧ (zv_rt s t = 1)))))
    (h2 : (zv_rt s t = 1 ∧ M2 = zm_ui M1 151 0 1) ∨ (zv_rt s t = 0 ∧ ∃ M3, zm_only (zm_ui (zm_ui M1 151 0 0) 163 s.toNatClampNeg t) M3 175 ∧ ((rb = 1 ∧ ¬ gq_T (zgf (zm_ui (zm_ui M1 151 0 0) 163 s.toNatClampNeg t)) s.toNatClampNeg s.toNatClampNeg ∧ M2 = M3) ∨ (rb = 0 ∧ gq_T (zgf (zm_ui (zm_ui M1 151 0 0) 163 s.toNatClampNeg t)) s.toNatClampNeg s.toNatClampNeg ∧ M2 = zm_ui M3 163 s.toNatClampNeg (M1.1 163 s.toNatClampNeg))))) :
    M2.1 151 0 = k ∧ zJ M2 ∧ (k = 0 → M2.2.2 182 0 = if rb = 0 then 0 else 1) := by
  rcases h1 with ⟨rfl, r, M0, ⟨g0, g⟩, g1⟩ | ⟨rfl, rfl, g⟩
  · rcases h2 with ⟨h, -⟩ | ⟨-, M3, ho, h2⟩
    · rw [g0] at h; exact absurd h (by decide)
    have a1 : ¬ zf_in s 0 6 = 0 := fun h => by rw [zv_rt, if_pos h] at g0; exact absurd g0 (by decide)
    have a2 : ¬ zf_in t 4 7 = 0 := fun h => by rw [zv_rt, if_neg a1, if_pos h] at g0; exact absurd g0 (by decide)
    obtain ⟨u, hu, rfl⟩ := zt_67 a1
    obtain ⟨v, hv1, hv2, rfl⟩ := zt_47 (m := 7) (by decide) a2
    rw [zn_cl (by omega)] at g h2 ho
    rw [zn_cl (i := v) (by omega)] at g
    obtain ⟨k0, kt, kc, ⟨kr, kno⟩, ke, kf, km, kb⟩ := id hJ
    rw [zJ_fd kr] at g
    have e0 : M1.1 = M0.1 := by rw [g1]; rfl
    have e2 : M1.2.2 182 0 = (if r = 0 then 0 else 1) := by rw [g1]; exact zul_at
    have er : M1.2.1 = M0.2.1 := by rw [g1]; rfl
    have m163 : ∀ j, M1.1 163 j = M.1 163 j := fun j => by
      rw [e0]
      rcases g with ⟨-, -, -, rfl⟩ | ⟨-, -, rfl⟩
      · rw [zui_f, if_neg (by omega)]
      · rfl
    have m164 : ∀ j, M1.1 164 j = M.1 164 j := fun j => by
      rw [e0]
      rcases g with ⟨-, -, -, rfl⟩ | ⟨-, -, rfl⟩
      · rw [zui_f, if_neg (by omega)]
      · rfl
    generalize hF' : zgf (zm_ui (zm_ui M1 151 0 0) 163 u (nI v)) = F' at h2
    have f1 : ∀ a b, F' a b → zgf M a b ∨ (a = u ∧ b = v) := fun a b h => by
      rw [← hF'] at h
      obtain ⟨ha, hb, h⟩ := h
      have x1 : (zm_ui (zm_ui M1 151 0 0) 163 u (nI v)).1 163 a = if a = u then nI v else M.1 163 a := by
        by_cases e : a = u
        · rw [zui_f, if_pos ⟨rfl, e⟩, if_pos e]
        · rw [zui_f, if_neg (by omega), if_neg e, zui_f, if_neg (by omega), m163]
      have x2 : ∀ j, (zm_ui (zm_ui M1 151 0 0) 163 u (nI v)).1 164 j = M.1 164 j := fun j => by rw [zui_f, if_neg (by omega), zui_f, if_neg (by omega), m164]
      rw [x1, x2] at h
      rcases h with h | h
      · by_cases e : a = u
        · rw [if_pos e] at h
          right
          have : (nI v).toInt = (nI b).toInt := by rw [h]
          rw [nI_toInt (by omega), nI_toInt (by omega)] at this
          exact ⟨e, by omega⟩
        · rw [if_neg e] at h
          exact Or.inl ⟨ha, hb, Or.inl h⟩
      · exact Or.inl ⟨ha, hb, Or.inr h⟩
    have f2 : ∀ a b, a ≠ u → zgf M a b → F' a b := fun a b e h => by
      rw [← hF']
      obtain ⟨ha, hb, h⟩ := h
      refine ⟨ha, hb, ?_⟩
      rw [zui_f, if_neg (by omega), zui_f, if_neg (by omega), zui_f, if_neg (by omega), zui_f, if_neg (by omega), m163, m164]
      exact h
    have f3 : F' u v := by
      rw [← hF']
      exact ⟨by omega, by omega, Or.inl (by rw [zui_f, if_pos ⟨rfl, rfl⟩])⟩
    have hring := gq_ring_iff kno f1 f2 f3
    have hM3 : ∀ c j, c ≠ 175 → M3.1 c j = if c = 163 ∧ j = u then nI v else if c = 151 ∧ j = 0 then 0 else M1.1 c j := fun c j h => by
      rw [ho.2 c j h]; rfl
    have r3 : M3.2 = M1.2 := ho.1
    rcases g with ⟨rfl, n1, n2, hM⟩ | ⟨rfl, n1, hM⟩
    · rcases h2 with ⟨rfl, h3, rfl⟩ | ⟨rfl, h3, -⟩
      · have hF : ∀ d j, ¬ ((d = 151 ∧ j = 0) ∨ d = 175 ∨ (d = 163 ∧ j = u) ∨ (d = 23 + 14 * u ∧ j = 4)) → M2.1 d j = M.1 d j := fun d j a => by
          rw [hM3 d j (by omega), if_neg (by omega), if_neg (by omega), e0, hM, zui_f, if_neg (by omega)]
        have hr2 : M2.2.1 = M.2.1 := by rw [r3, er, hM]; rfl
        refine ⟨by rw [hM3 _ _ (by decide), if_neg (by omega), if_pos ⟨rfl, rfl⟩], zJ_k hJ hr2 (zJt_c (fun c j h => hF c j (by omega))) (zJc_c (fun c j h => hF c j (by omega)) (fun c _ => by rw [hr2])) (fun _ => ?_) (zJe_c (fun s i j _ _ _ _ => hF _ _ (by omega)) (fun c j _ _ => hF _ _ (by omega))) (zJf_c (fun s j _ _ => hF _ _ (by omega)) (fun s c j _ _ _ => hF _ _ (by omega)) (fun c j _ _ => hF _ _ (by omega))) (zJm_c (fun s j _ _ => hF _ _ (by omega)) (fun c j _ _ => hF _ _ (by omega))) (zJb_c (fun j _ => hF _ _ (by omega)) (fun s j _ => hF _ _ (by omega)) (hF _ _ (by omega)) (fun j => hF _ _ (by omega))), fun _ => ?_⟩
        · have e163 : M2.1 163 u = nI v := by rw [hM3 _ _ (by decide), if_pos ⟨rfl, rfl⟩]
          have e23 : M2.1 (23 + 14 * u) 4 = nI v := by rw [hM3 _ _ (by omega), if_neg (by omega), if_neg (by omega), e0, hM, zui_f, if_pos ⟨rfl, rfl⟩]
          refine ⟨?_, ?_⟩
          · obtain ⟨q1, q2, q3, q4, q5⟩ := kr
            refine ⟨fun x hx => ?_, by rw [hF _ _ (by omega)]; exact q2, by rw [hF _ _ (by omega)]; exact q3, fun x hx b hb => ?_, fun j hj => by rw [hF _ _ (by omega)]; exact q5 j hj⟩
            · by_cases e : x = u
              · subst e
                exact ⟨v, hv1, hv2, e163, e23⟩
              · rw [hF _ _ (by omega), hF _ _ (by omega)]
                exact q1 x hx
            · rw [hF _ _ (by omega), hF _ _ (by omega)]
              exact q4 x hx b hb
          · have eg : zgf M2 = F' := by
              rw [← hF']
              refine zgf_c (fun j => ?_) (fun j => ?_)
              · rw [hM3 _ _ (by decide)]; rfl
              · rw [hM3 _ _ (by decide)]; rfl
            rw [eg]
            exact gq_ring kno f1 n1 n2
        · rw [r3, e2]
      · exact absurd (hring.mp h3) (fun h => h.elim n1 n2)
    · rcases h2 with ⟨rfl, h3, -⟩ | ⟨rfl, h3, h2⟩
      · exact absurd (hring.mpr n1) h3
      · have hF : ∀ d j, ¬ ((d = 151 ∧ j = 0) ∨ d = 175 ∨ d = 176) → M2.1 d j = M.1 d j := fun d j a => by
          rw [h2, zui_f, m163]
          by_cases e : d = 163 ∧ j = u
          · rw [if_pos e, e.1, e.2]
          · rw [if_neg e, hM3 d j (by omega), if_neg e, if_neg (by omega), e0, hM]
        refine ⟨by rw [h2, zui_f, if_neg (by omega), hM3 _ _ (by decide), if_neg (by omega), if_pos ⟨rfl, rfl⟩], zJ_175 hJ ?_ hF, fun _ => ?_⟩
        · rw [h2]; show M3.2.1 = _; rw [r3, er, hM]
        · rw [h2]; show M3.2.2 182 0 = _; rw [r3, e2]
  · rcases h2 with ⟨-, h2⟩ | ⟨h, -⟩
    · subst h2
      exact ⟨by rw [zui_f, if_pos ⟨rfl, rfl⟩], zJ_same hJ rfl (fun c j h => by rw [zui_f, if_neg h]), fun h => absurd h (by decide)⟩
    · rw [g] at h; exact absurd h (by decide)
theorem s_send {s t lv k rb : Int32} (hJ : zJ M) (h1 : (k = 0 ∧ ∃ (r : Int32) (M0 : zm_T), (zv_sd s t lv = 0 ∧ ((r = 1 ∧ (0 < lv → s.toNatClampNeg ≠ t.toNatClampNeg ∧ ¬ gq_T (zfd M) t.toNatClampNeg s.toNatClampNeg) ∧ M0 = zm_ui M (29 + 14 * s.toNatClampNeg) t.toNatClampNeg lv) ∨ (r = 0 ∧ 0 < lv ∧ (s.toNatClampNeg = t.toNatClampNeg ∨ gq_T (zfd M) t.toNatClampNeg s.toNatClampNeg) ∧ M0 = M))) ∧ M1 = zm_ul M0 182 0 (if r = 0 then 0 else 1)) ∨ (M1 = M ∧ ((k = 1 ∧ (zv_sd s t lv = 1)))))
    (h2 : (zv_sd s t lv = 1 ∧ M2 = zm_ui M1 151 0 1) ∨ (zv_sd s t lv = 0 ∧ ∃ M3, zm_only (zm_ui (zm_ui M1 151 0 0) 164 (3 * s.toNatClampNeg + t.toNatClampNeg - 4) lv) M3 175 ∧ ((rb = 1 ∧ ¬ gq_T (zgf (zm_ui (zm_ui M1 151 0 0) 164 (3 * s.toNatClampNeg + t.toNatClampNeg - 4) lv)) s.toNatClampNeg s.toNatClampNeg ∧ M2 = M3) ∨ (rb = 0 ∧ gq_T (zgf (zm_ui (zm_ui M1 151 0 0) 164 (3 * s.toNatClampNeg + t.toNatClampNeg - 4) lv)) s.toNatClampNeg s.toNatClampNeg ∧ M2 = zm_ui M3 164 (3 * s.toNatClampNeg + t.toNatClampNeg - 4) (M1.1 164 (3 * s.toNatClampNeg + t.toNatClampNeg - 4)))))) :
    M2.1 151 0 = k ∧ zJ M2 ∧ (k = 0 → M2.2.2 182 0 = if rb = 0 then 0 else 1) := by
  rcases h1 with ⟨rfl, r, M0, ⟨g0, g⟩, g1⟩ | ⟨rfl, rfl, g⟩
  · rcases h2 with ⟨h, -⟩ | ⟨-, M3, ho, h2⟩
    · rw [g0] at h; exact absurd h (by decide)
    have a1 : ¬ zf_in s 0 6 = 0 := fun h => by rw [zv_sd, if_pos h] at g0; exact absurd g0 (by decide)
    have a2 : ¬ zf_in t 4 6 = 0 := fun h => by rw [zv_sd, if_neg a1, if_pos h] at g0; exact absurd g0 (by decide)
    have a3 : ¬ zf_in lv 0 1024 = 0 := fun h => by rw [zv_sd, if_neg a1, if_neg a2, if_pos h] at g0; exact absurd g0 (by decide)
    have hlv := zt_in.mp a3
    rw [zn_0, show (1024 : Int32).toInt = 1024 from by decide] at hlv
    obtain ⟨u, hu, rfl⟩ := zt_67 a1
    obtain ⟨v, hv1, hv2, rfl⟩ := zt_47 (m := 6) (by decide) a2
    rw [zn_cl (by omega), zn_cl (i := v) (by omega)] at g h2 ho
    obtain ⟨k0, kt, kc, ⟨kr, kno⟩, ke, kf, km, kb⟩ := id hJ
    rw [zJ_fd kr] at g
    have e0 : M1.1 = M0.1 := by rw [g1]; rfl
    have e2 : M1.2.2 182 0 = (if r = 0 then 0 else 1) := by rw [g1]; exact zul_at
    have er : M1.2.1 = M0.2.1 := by rw [g1]; rfl
    have m163 : ∀ j, M1.1 163 j = M.1 163 j := fun j => by
      rw [e0]
      rcases g with ⟨-, -, rfl⟩ | ⟨-, -, -, rfl⟩
      · rw [zui_f, if_neg (by omega)]
      · rfl
    have m164 : ∀ j, M1.1 164 j = M.1 164 j := fun j => by
      rw [e0]
      rcases g with ⟨-, -, rfl⟩ | ⟨-, -, -, rfl⟩
      · rw [zui_f, if_neg (by omega)]
      · rfl
    obtain ⟨ix, hix⟩ : ∃ ix, 3 * u + v - 4 = ix := ⟨_, rfl⟩
    rw [hix] at h2 ho
    generalize hF' : zgf (zm_ui (zm_ui M1 151 0 0) 164 ix lv) = F' at h2
    have f1 : ∀ a b, F' a b → zgf M a b ∨ (a = u ∧ b = v) := fun a b h => by
      rw [← hF'] at h
      obtain ⟨ha, hb, h⟩ := h
      rw [zui_f, if_neg (by omega), zui_f, if_neg (by omega), m163] at h
      rcases h with h | ⟨q1, q2, q3, q4⟩
      · exact Or.inl ⟨ha, hb, Or.inl h⟩
      · by_cases e : a = u ∧ b = v
        · exact Or.inr e
        · rw [zui_f, if_neg (by omega), zui_f, if_neg (by omega), m164] at q4
          exact Or.inl ⟨ha, hb, Or.inr ⟨q1, q2, q3, q4⟩⟩
    have f1' : ¬ 0 < lv → ∀ a b, F' a b → zgf M a b := fun h0 a b h => by
      rcases f1 a b h with h' | ⟨rfl, rfl⟩
      · exact h'
      · rw [← hF'] at h
        obtain ⟨ha, hb, h⟩ := h
        rw [zui_f, if_neg (by omega), zui_f, if_neg (by omega), m163] at h
        rcases h with h | ⟨q1, q2, q3, q4⟩
        · exact ⟨ha, hb, Or.inl h⟩
        · rw [zui_f, if_pos ⟨rfl, hix⟩] at q4
          exact absurd (Int32.not_lt.mp h0) q4
    have f2 : ∀ a b, a ≠ u → zgf M a b → F' a b := fun a b e h => by
      rw [← hF']
      obtain ⟨ha, hb, h⟩ := h
      refine ⟨ha, hb, ?_⟩
      rw [zui_f, if_neg (by omega), zui_f, if_neg (by omega), m163]
      rcases h with h | ⟨q1, q2, q3, q4⟩
      · exact Or.inl h
      · refine Or.inr ⟨q1, q2, q3, ?_⟩
        rw [zui_f, if_neg (by omega), zui_f, if_neg (by omega), m164]
        exact q4
    have f3 : 0 < lv → F' u v := fun h0 => by
      rw [← hF']
      exact ⟨by omega, by omega, Or.inr ⟨by omega, by omega, by omega, by rw [zui_f, if_pos ⟨rfl, hix⟩]; exact Int32.not_le.mpr h0⟩⟩
    have hM3 : ∀ c j, c ≠ 175 → M3.1 c j = if c = 164 ∧ j = ix then lv else if c = 151 ∧ j = 0 then 0 else M1.1 c j := fun c j h => by
      rw [ho.2 c j h]; rfl
    have r3 : M3.2 = M1.2 := ho.1
    rcases g with ⟨rfl, n1, hM⟩ | ⟨rfl, n0, n1, hM⟩
    · have nor : ∀ a, ¬ gq_T F' a a := by
        by_cases h0 : 0 < lv
        · exact gq_ring kno f1 (n1 h0).1 (n1 h0).2
        · exact fun a h => kno a (gq_less (f1' h0) h)
      rcases h2 with ⟨rfl, h3, rfl⟩ | ⟨rfl, h3, -⟩
      · have hF : ∀ d j, ¬ ((d = 151 ∧ j = 0) ∨ d = 175 ∨ (d = 164 ∧ j = ix) ∨ (d = 29 + 14 * u ∧ j = v)) → M2.1 d j = M.1 d j := fun d j a => by
          rw [hM3 d j (by omega), if_neg (by omega), if_neg (by omega), e0, hM, zui_f, if_neg (by omega)]
        have hr2 : M2.2.1 = M.2.1 := by rw [r3, er, hM]; rfl
        refine ⟨by rw [hM3 _ _ (by decide), if_neg (by omega), if_pos ⟨rfl, rfl⟩], zJ_k hJ hr2 (zJt_c (fun c j h => hF c j (by omega))) (zJc_c (fun c j h => hF c j (by omega)) (fun c _ => by rw [hr2])) (fun _ => ?_) (zJe_c (fun s i j _ _ _ _ => hF _ _ (by omega)) (fun c j _ _ => hF _ _ (by omega))) (zJf_c (fun s j _ _ => hF _ _ (by omega)) (fun s c j _ _ _ => hF _ _ (by omega)) (fun c j _ _ => hF _ _ (by omega))) (zJm_c (fun s j _ _ => hF _ _ (by omega)) (fun c j _ _ => hF _ _ (by omega))) (zJb_c (fun j _ => hF _ _ (by omega)) (fun s j _ => hF _ _ (by omega)) (hF _ _ (by omega)) (fun j => hF _ _ (by omega))), fun _ => ?_⟩
        · have e164 : M2.1 164 ix = lv := by rw [hM3 _ _ (by decide), if_pos ⟨rfl, rfl⟩]
          have e29 : M2.1 (29 + 14 * u) v = lv := by rw [hM3 _ _ (by omega), if_neg (by omega), if_neg (by omega), e0, hM, zui_f, if_pos ⟨rfl, rfl⟩]
          refine ⟨?_, ?_⟩
          · obtain ⟨q1, q2, q3, q4, q5⟩ := kr
            refine ⟨fun x hx => ?_, by rw [hF _ _ (by omega)]; exact q2, by rw [hF _ _ (by omega)]; exact q3, fun x hx b hb => ?_, fun j hj => ?_⟩
            · rw [hF _ _ (by omega), hF _ _ (by omega)]
              exact q1 x hx
            · by_cases e : x = u ∧ b = v
              · obtain ⟨rfl, rfl⟩ := e
                exact Or.inl ⟨hu, hv1, by omega, by rw [e29, hix, e164]⟩
              · rw [hF (29 + 14 * x) b (by omega)]
                rcases q4 x hx b hb with ⟨y1, y2, y3, y4⟩ | y
                · exact Or.inl ⟨y1, y2, y3, by rw [hF 164 _ (by omega)]; exact y4⟩
                · exact Or.inr y
            · by_cases e : j = ix
              · rw [e, e164]; exact hlv
              · rw [hF _ _ (by omega)]; exact q5 j hj
          · have eg : zgf M2 = F' := by
              rw [← hF']
              refine zgf_c (fun j => ?_) (fun j => ?_)
              · rw [hM3 _ _ (by decide)]; rfl
              · rw [hM3 _ _ (by decide)]; rfl
            rw [eg]
            exact nor
        · rw [r3, e2]
      · exact absurd h3 (nor u)
    · have hring := gq_ring_iff kno f1 f2 (f3 n0)
      rcases h2 with ⟨rfl, h3, -⟩ | ⟨rfl, h3, h2⟩
      · exact absurd (hring.mpr n1) h3
      · have hF : ∀ d j, ¬ ((d = 151 ∧ j = 0) ∨ d = 175 ∨ d = 176) → M2.1 d j = M.1 d j := fun d j a => by
          rw [h2, zui_f, m164]
          by_cases e : d = 164 ∧ j = ix
          · rw [if_pos e, e.1, e.2]
          · rw [if_neg e, hM3 d j (by omega), if_neg e, if_neg (by omega), e0, hM]
        refine ⟨by rw [h2, zui_f, if_neg (by omega), hM3 _ _ (by decide), if_neg (by omega), if_pos ⟨rfl, rfl⟩], zJ_175 hJ ?_ hF, fun _ => ?_⟩
        · rw [h2]; show M3.2.1 = _; rw [r3, er, hM]
        · rw [h2]; show M3.2.2 182 0 = _; rw [r3, e2]
  · rcases h2 with ⟨-, h2⟩ | ⟨h, -⟩
    · subst h2
      exact ⟨by rw [zui_f, if_pos ⟨rfl, rfl⟩], zJ_same hJ rfl (fun c j h => by rw [zui_f, if_neg h]), fun h => absurd h (by decide)⟩
    · rw [g] at h; exact absurd h (by decide)
end ZS

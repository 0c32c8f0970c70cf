/-! One call on both sides: move, shape, split. -/
section ZS
variable {M M1 M2 : zm_T}
/-- a clip that is there -/
theorem zJ_there {c : Int32} (kc : zJc M) (h : ¬ zf_has M c = 0) : c.toNatClampNeg < 16 ∧ nI c.toNatClampNeg = c ∧ M.1 154 c.toNatClampNeg = 1 ∧ ∃ t tr a f n lv i o, zg_C M c.toNatClampNeg t tr a f n lv i o ∧ M.2.1 (4 + c.toNatClampNeg) 0 = some (135 + 2 * t) ∧ M.1 (4 + c.toNatClampNeg) 1 = nI tr ∧ M.1 (4 + c.toNatClampNeg) 2 = nI a ∧ M.1 (4 + c.toNatClampNeg) 3 = nI f ∧ M.1 (4 + c.toNatClampNeg) 4 = nI n ∧ M.1 (4 + c.toNatClampNeg) 5 = nI lv ∧ M.1 (4 + c.toNatClampNeg) 6 = nI i ∧ M.1 (4 + c.toNatClampNeg) 7 = nI o := by
  have g : ¬ zf_in c 0 15 = 0 := fun e => h (by simp [zf_has, e])
  have hc := zi_s (i := 0) (n := 15) (by decide) g
  have hlt : c.toNatClampNeg < 16 := by omega
  rcases kc _ hlt with ⟨k1, k2⟩ | ⟨k1, k⟩
  · exfalso
    apply h
    unfold zf_has
    rw [if_neg g, k2, if_pos (by decide)]
  · exact ⟨hlt, hc.2, k1, k⟩
theorem zv_noc_c {c : Int32} (e : M2.1 154 c.toNatClampNeg = M.1 154 c.toNatClampNeg) : zv_noc M2 c = zv_noc M c := by unfold zv_noc; rw [e]
theorem s_move {c t a k rb : Int32} (hJ : zJ M) (h1 : (k = 0 ∧ ∃ (r : Int32) (M0 : zm_T), (zu_mv M c t a = 0 ∧ ((r = 0 ∧ (∃ e, e < 16 ∧ zu_lk M t a (M.1 (4 + c.toNatClampNeg) 4) c e) ∧ M0 = M) ∨ (r = 1 ∧ (¬ ∃ e, e < 16 ∧ zu_lk M t a (M.1 (4 + c.toNatClampNeg) 4) c e) ∧ M0 = zm_ui (zm_ui M (4 + c.toNatClampNeg) 1 t) (4 + c.toNatClampNeg) 2 a))) ∧ M1 = zm_ul M0 182 0 (if r = 0 then 0 else 1)) ∨ (M1 = M ∧ ((k = 1 ∧ (zu_mv M c t a = 1)) ∨ (k = 2 ∧ (zu_mv M c t a = 2)))))
    (h2 : (¬ zv_mv M1 c t a = 0 ∧ M2 = zm_ui M1 151 0 (zv_mv M1 c t a)) ∨ (zv_mv M1 c t a = 0 ∧ ((rb = 0 ∧ (∃ d, d < 16 ∧ zg_tk M1 t a (M1.1 159 c.toNatClampNeg) c d) ∧ M2 = zm_ui M1 151 0 0) ∨ (rb = 1 ∧ ¬ (∃ d, d < 16 ∧ zg_tk M1 t a (M1.1 159 c.toNatClampNeg) c d) ∧ M2 = zm_ui (zm_ui (zm_ui M1 151 0 0) 155 c.toNatClampNeg t) 156 c.toNatClampNeg a)))) :
    M2.1 151 0 = k ∧ zJ M2 ∧ (k = 0 → M2.2.2 182 0 = if rb = 0 then 0 else 1) := by
  obtain ⟨k0, kt, kc, kr, ke, kf, km, kb⟩ := id hJ
  have hcn : ¬ zu_mv M c t a = 1 → ¬ zf_has M c = 0 := fun h e => h (by rw [zu_mv, if_pos e])
  have eR : ∀ d j, 151 ≤ d → M1.1 d j = M.1 d j := fun d j h => by
    rcases h1 with ⟨-, r, M0, ⟨g0, g⟩, rfl⟩ | ⟨rfl, -⟩
    · have hlt := (zJ_there kc (hcn (by rw [g0]; decide))).1
      rcases g with ⟨-, -, rfl⟩ | ⟨-, -, rfl⟩
      · rfl
      · show (zm_ui (zm_ui M (4 + c.toNatClampNeg) 1 t) (4 + c.toNatClampNeg) 2 a).1 d j = _
        rw [zui_f, if_neg (by omega), zui_f, if_neg (by omega)]
    · rfl
  have hz : zv_mv M1 c t a = zu_mv M c t a := by
    unfold zv_mv zu_mv
    rw [zv_noc_c (eR _ _ (by decide)), eR _ _ (by decide)]
    by_cases g1 : zf_has M c = 0
    · rw [if_pos g1, if_pos (fun h => (zJ_has kc).mpr h g1)]
    · rw [if_neg g1, if_neg (fun h => h ((zJ_has kc).mp g1))]
      obtain ⟨-, -, -, t', tr', a', f', n', lv', i', o', ⟨-, -, -, -, -, -, c6, -⟩, -, -, -, -, k5, -⟩ := zJ_there kc g1
      rw [k5, c6]
  rw [hz] at h2
  rcases h1 with ⟨rfl, r, M0, ⟨g0, g⟩, g1⟩ | ⟨rfl, g⟩
  · rcases h2 with ⟨h, -⟩ | ⟨-, h2⟩
    · exact absurd g0 h
    have hh := hcn (by rw [g0]; decide)
    obtain ⟨hlt, hcI, k154, t', tr', a', f', n', lv', i', o', ⟨c0, c1, c2, c3, c4, c5, c6, c7, c8, c9, c10, c11, c12, c13, c14⟩, d0, d1, d2, d3, d4, d5, d6, d7⟩ := zJ_there kc hh
    have b1 : ¬ zf_in t 0 3 = 0 := fun h => by rw [zu_mv, if_neg hh, if_pos h] at g0; exact absurd g0 (by decide)
    have b2 : ¬ zf_in a 0 (1024 - M.1 (4 + c.toNatClampNeg) 4) = 0 := fun h => by rw [zu_mv, if_neg hh, if_neg b1, if_pos h] at g0; exact absurd g0 (by decide)
    have b1' := zi_s (i := 0) (n := 3) (by decide) b1
    have b3 := zt_in.mp b2
    rw [zn_0, d4, zn_sub (by rw [nI_toInt (by omega), show (1024 : Int32).toInt = 1024 from by decide]; omega) (by rw [nI_toInt (by omega), show (1024 : Int32).toInt = 1024 from by decide]; omega), nI_toInt (by omega), show (1024 : Int32).toInt = 1024 from by decide] at b3
    have ea := zt_nI (x := a) (by omega)
    have elk : (∃ d, d < 16 ∧ zg_tk M1 t a (M1.1 159 c.toNatClampNeg) c d) ↔ ∃ e, e < 16 ∧ zu_lk M t a (M.1 (4 + c.toNatClampNeg) 4) c e := by
      rw [eR _ _ (by decide), d4, c6]
      exact (zg_tks (fun d j h1 _ => eR d j (by omega))).trans (zJ_lks kc).symm
    rw [elk] at h2
    have e0 : M1.1 = M0.1 := by rw [g1]; rfl
    have e2 : M1.2.2 182 0 = (if r = 0 then 0 else 1) := by rw [g1]; exact zul_at
    have er : M1.2.1 = M0.2.1 := by rw [g1]; rfl
    rcases g with ⟨rfl, n1, rfl⟩ | ⟨rfl, n1, hM⟩
    · rcases h2 with ⟨rfl, -, h2⟩ | ⟨-, m, -⟩
      · subst h2
        exact ⟨by rw [zui_f, if_pos ⟨rfl, rfl⟩], zJ_same hJ er (fun c j h => by rw [zui_f, if_neg h, e0]), fun _ => e2⟩
      · exact absurd n1 m
    · rcases h2 with ⟨-, m, -⟩ | ⟨rfl, -, h2⟩
      · exact absurd m n1
      generalize c.toNatClampNeg = cn at *
      have hF : ∀ d j, ¬ ((d = 151 ∧ j = 0) ∨ (d = 4 + cn ∧ (j = 1 ∨ j = 2)) ∨ ((d = 155 ∨ d = 156) ∧ j = cn)) → M2.1 d j = M.1 d j := fun d j h => by
        rw [h2, zui_f, if_neg (by omega), zui_f, if_neg (by omega), zui_f, if_neg (by omega), e0, hM, zui_f, if_neg (by omega), zui_f, if_neg (by omega)]
      have hr2 : M2.2.1 = M.2.1 := by rw [h2]; show M1.2.1 = _; rw [er, hM]; rfl
      refine ⟨by rw [h2, zui_f, if_neg (by omega), zui_f, if_neg (by omega), zui_f, if_pos ⟨rfl, rfl⟩], zJ_k hJ hr2 (zJt_c (fun c j h => hF c j (by omega))) (fun _ e he => ?_) (zJr2_c (fun s hs => hF _ _ (by omega)) (fun s j hs => hF _ _ (by omega)) (fun j => hF _ _ (by omega)) (fun j => hF _ _ (by omega))) (zJe_c (fun s i j _ _ _ _ => hF _ _ (by omega)) (fun c j _ _ => hF _ _ (by omega))) (zJf_c (fun s j _ _ => hF _ _ (by omega)) (fun s c j _ _ _ => hF _ _ (by omega)) (fun c j _ _ => hF _ _ (by omega))) (zJm_c (fun s j _ _ => hF _ _ (by omega)) (fun c j _ _ => hF _ _ (by omega))) (zJb_c (fun j _ => hF _ _ (by omega)) (fun s j _ => hF _ _ (by omega)) (hF _ _ (by omega)) (fun j => hF _ _ (by omega))), fun _ => by rw [h2]; exact e2⟩
      by_cases e9 : e = cn
      · subst e9
        right
        refine ⟨by rw [hF _ _ (by omega)]; exact k154, t', t.toNatClampNeg, a.toNatClampNeg, f', n', lv', i', o', ⟨c0, by rw [hF _ _ (by omega)]; exact c1, by omega, ?_, ?_, by rw [hF _ _ (by omega)]; exact c5, by rw [hF _ _ (by omega)]; exact c6, c7, c8, by omega, by rw [hF _ _ (by omega)]; exact c10, c11, by rw [hF _ _ (by omega)]; exact c12, by rw [hF _ _ (by omega)]; exact c13, c14⟩, by rw [hr2]; exact d0, ?_, ?_, by rw [hF _ _ (by omega)]; exact d3, by rw [hF _ _ (by omega)]; exact d4, by rw [hF _ _ (by omega)]; exact d5, by rw [hF _ _ (by omega)]; exact d6, by rw [hF _ _ (by omega)]; exact d7⟩
        · rw [h2, zui_f, if_neg (by omega), zui_f, if_pos ⟨rfl, rfl⟩, b1'.2]
        · rw [h2, zui_f, if_pos ⟨rfl, rfl⟩, ea.1]
        · rw [h2, zui_f, if_neg (by omega), zui_f, if_neg (by omega), zui_f, if_neg (by omega), e0, hM, zui_f, if_neg (by omega), zui_f, if_pos ⟨rfl, rfl⟩, b1'.2]
        · rw [h2, zui_f, if_neg (by omega), zui_f, if_neg (by omega), zui_f, if_neg (by omega), e0, hM, zui_f, if_pos ⟨rfl, rfl⟩, ea.1]
      · exact zJc1_c (fun j => hF _ _ (by omega)) (fun x h1 h2 => hF _ _ (by omega)) (by rw [hr2]) (kc e he)
  · have hk : k = zu_mv M1 c t a ∧ ¬ zu_mv M1 c t a = 0 := by
      rcases g with ⟨rfl, g⟩ | ⟨rfl, g⟩ <;> rw [g] <;> exact ⟨rfl, by decide⟩
    rcases h2 with ⟨-, h2⟩ | ⟨h, -⟩
    · subst h2
      exact ⟨by rw [zui_f, if_pos ⟨rfl, rfl⟩, hk.1], zJ_same hJ rfl (fun c j h => by rw [zui_f, if_neg h]), fun h => absurd (hk.1.symm.trans h) hk.2⟩
    · exact absurd h hk.2
theorem s_shape {c lv i o k : Int32} (hJ : zJ M) (h1 : (k = 0 ∧ (zu_shp M c lv i o = 0 ∧ M1 = zm_ui (zm_ui (zm_ui M (4 + c.toNatClampNeg) 5 lv) (4 + c.toNatClampNeg) 6 i) (4 + c.toNatClampNeg) 7 o)) ∨ (M1 = M ∧ ((k = 1 ∧ (zu_shp M c lv i o = 1)) ∨ (k = 2 ∧ (zu_shp M c lv i o = 2)))))
    (h2 : M2 = if zv_shp M1 c lv i o = 0 then zm_ui (zm_ui (zm_ui (zm_ui M1 151 0 0) 160 c.toNatClampNeg lv) 161 c.toNatClampNeg i) 162 c.toNatClampNeg o else zm_ui M1 151 0 (zv_shp M1 c lv i o)) : M2.1 151 0 = k ∧ zJ M2 := by
  obtain ⟨k0, kt, kc, kr, ke, kf, km, kb⟩ := id hJ
  have hcn : ¬ zu_shp M c lv i o = 1 → ¬ zf_has M c = 0 := fun h e => h (by rw [zu_shp, if_pos e])
  have eR : ∀ d j, 151 ≤ d → M1.1 d j = M.1 d j := fun d j h => by
    rcases h1 with ⟨-, g0, rfl⟩ | ⟨rfl, -⟩
    · have hlt := (zJ_there kc (hcn (by rw [g0]; decide))).1
      rw [zui_f, if_neg (by omega), zui_f, if_neg (by omega), zui_f, if_neg (by omega)]
    · rfl
  have hz : zv_shp M1 c lv i o = zu_shp M c lv i o := by
    unfold zv_shp zu_shp
    rw [zv_noc_c (eR _ _ (by decide)), eR _ _ (by decide)]
    by_cases g1 : zf_has M c = 0
    · rw [if_pos g1, if_pos (fun h => (zJ_has kc).mpr h g1)]
    · rw [if_neg g1, if_neg (fun h => h ((zJ_has kc).mp g1))]
      obtain ⟨-, -, -, t', tr', a', f', n', lv', i', o', ⟨-, -, -, -, -, -, c6, c7, c8, -⟩, -, -, -, -, k5, -⟩ := zJ_there kc g1
      rw [k5, c6]
      by_cases g2 : zf_in lv 0 1024 = 0
      · rw [if_pos g2, if_pos (Or.inl g2)]
      rw [if_neg g2]
      by_cases g3 : i < 0
      · rw [if_pos g3, if_pos (Or.inr (Or.inl g3))]
      rw [if_neg g3]
      by_cases g4 : o < 0
      · rw [if_pos g4, if_pos (Or.inr (Or.inr g4))]
      rw [if_neg g4, if_neg (fun h => h.elim g2 (fun h => h.elim g3 g4))]
      have en : (nI n').toInt = n' := nI_toInt (by omega)
      have io := Int32.toInt_lt o
      have ii := Int32.toInt_lt i
      rw [Int32.lt_iff_toInt_lt, zn_0] at g3 g4
      by_cases g5 : nI n' < i
      · rw [if_pos g5, if_pos]
        rw [Int32.lt_iff_toInt_lt] at g5 ⊢
        rw [zn_sub (by omega) (by omega)]
        omega
      · rw [if_neg g5]
        rw [Int32.lt_iff_toInt_lt] at g5
        by_cases g6 : nI n' - i < o
        · rw [if_pos g6, if_pos]
          rw [Int32.lt_iff_toInt_lt, zn_sub (by omega) (by omega)] at g6 ⊢
          omega
        · rw [if_neg g6, if_neg]
          rw [Int32.lt_iff_toInt_lt, zn_sub (by omega) (by omega)] at g6 ⊢
          omega
  rw [hz] at h2
  rcases h1 with ⟨rfl, g0, hM⟩ | ⟨rfl, g⟩
  · rw [if_pos g0] at h2
    have hh := hcn (by rw [g0]; decide)
    obtain ⟨hlt, hcI, k154, t', tr', a', f', n', lv', i', o', ⟨c0, c1, c2, c3, c4, c5, c6, c7, c8, c9, c10, c11, c12, c13, c14⟩, d0, d1, d2, d3, d4, d5, d6, d7⟩ := zJ_there kc hh
    have b1 : ¬ zf_in lv 0 1024 = 0 := fun h => by rw [zu_shp, if_neg hh, if_pos h] at g0; exact absurd g0 (by decide)
    have b2 : ¬ i < 0 := fun h => by rw [zu_shp, if_neg hh, if_neg b1, if_pos h] at g0; exact absurd g0 (by decide)
    have b3 : ¬ o < 0 := fun h => by rw [zu_shp, if_neg hh, if_neg b1, if_neg b2, if_pos h] at g0; exact absurd g0 (by decide)
    have b4 : ¬ M.1 (4 + c.toNatClampNeg) 4 - o < i := fun h => by rw [zu_shp, if_neg hh, if_neg b1, if_neg b2, if_neg b3, if_pos h] at g0; exact absurd g0 (by decide)
    have b1' := zi_s (i := 0) (n := 1024) (by decide) b1
    have io := Int32.toInt_lt o
    have en : (nI n').toInt = n' := nI_toInt (by omega)
    rw [Int32.lt_iff_toInt_lt, zn_0] at b2 b3
    rw [Int32.lt_iff_toInt_lt, d4, zn_sub (by omega) (by omega), en] at b4
    have ei := zt_nI (x := i) (by omega)
    have eo := zt_nI (x := o) (by omega)
    generalize c.toNatClampNeg = cn at *
    have hF : ∀ d j, ¬ ((d = 151 ∧ j = 0) ∨ (d = 4 + cn ∧ 5 ≤ j ∧ j ≤ 7) ∨ (160 ≤ d ∧ d ≤ 162 ∧ j = cn)) → M2.1 d j = M.1 d j := fun d j h => by
      rw [h2, zui_f, if_neg (by omega), zui_f, if_neg (by omega), zui_f, if_neg (by omega), zui_f, if_neg (by omega), hM, zui_f, if_neg (by omega), zui_f, if_neg (by omega), zui_f, if_neg (by omega)]
    have hr2 : M2.2.1 = M.2.1 := by rw [h2]; show M1.2.1 = _; rw [hM]; rfl
    refine ⟨by rw [h2, zui_f, if_neg (by omega), zui_f, if_neg (by omega), zui_f, if_neg (by omega), zui_f, if_pos ⟨rfl, rfl⟩], zJ_k hJ hr2 (zJt_c (fun c j h => hF c j (by omega))) (fun _ e he => ?_) (zJr2_c (fun s hs => hF _ _ (by omega)) (fun s j hs => hF _ _ (by omega)) (fun j => hF _ _ (by omega)) (fun j => hF _ _ (by omega))) (zJe_c (fun s i j _ _ _ _ => hF _ _ (by omega)) (fun c j _ _ => hF _ _ (by omega))) (zJf_c (fun s j _ _ => hF _ _ (by omega)) (fun s c j _ _ _ => hF _ _ (by omega)) (fun c j _ _ => hF _ _ (by omega))) (zJm_c (fun s j _ _ => hF _ _ (by omega)) (fun c j _ _ => hF _ _ (by omega))) (zJb_c (fun j _ => hF _ _ (by omega)) (fun s j _ => hF _ _ (by omega)) (hF _ _ (by omega)) (fun j => hF _ _ (by omega)))⟩
    by_cases e9 : e = cn
    · subst e9
      right
      refine ⟨by rw [hF _ _ (by omega)]; exact k154, t', tr', a', f', n', lv.toNatClampNeg, i.toNatClampNeg, o.toNatClampNeg, ⟨c0, by rw [hF _ _ (by omega)]; exact c1, c2, by rw [hF _ _ (by omega)]; exact c3, by rw [hF _ _ (by omega)]; exact c4, by rw [hF _ _ (by omega)]; exact c5, by rw [hF _ _ (by omega)]; exact c6, c7, c8, c9, ?_, by omega, ?_, ?_, by omega⟩, by rw [hr2]; exact d0, by rw [hF _ _ (by omega)]; exact d1, by rw [hF _ _ (by omega)]; exact d2, by rw [hF _ _ (by omega)]; exact d3, by rw [hF _ _ (by omega)]; exact d4, ?_, ?_, ?_⟩
      · rw [h2, zui_f, if_neg (by omega), zui_f, if_neg (by omega), zui_f, if_pos ⟨rfl, rfl⟩, b1'.2]
      · rw [h2, zui_f, if_neg (by omega), zui_f, if_pos ⟨rfl, rfl⟩, ei.1]
      · rw [h2, zui_f, if_pos ⟨rfl, rfl⟩, eo.1]
      · rw [h2, zui_f, if_neg (by omega), zui_f, if_neg (by omega), zui_f, if_neg (by omega), zui_f, if_neg (by omega), hM, zui_f, if_neg (by omega), zui_f, if_neg (by omega), zui_f, if_pos ⟨rfl, rfl⟩, b1'.2]
      · rw [h2, zui_f, if_neg (by omega), zui_f, if_neg (by omega), zui_f, if_neg (by omega), zui_f, if_neg (by omega), hM, zui_f, if_neg (by omega), zui_f, if_pos ⟨rfl, rfl⟩, ei.1]
      · rw [h2, zui_f, if_neg (by omega), zui_f, if_neg (by omega), zui_f, if_neg (by omega), zui_f, if_neg (by omega), hM, zui_f, if_pos ⟨rfl, rfl⟩, eo.1]
    · exact zJc1_c (fun j => hF _ _ (by omega)) (fun x h1 h2 => hF _ _ (by omega)) (by rw [hr2]) (kc e he)
  · have hk : k = zu_shp M1 c lv i o ∧ ¬ zu_shp M1 c lv i o = 0 := by
      rcases g with ⟨rfl, g⟩ | ⟨rfl, g⟩ <;> rw [g] <;> exact ⟨rfl, by decide⟩
    rw [if_neg hk.2] at h2
    subst h2
    exact ⟨by rw [zui_f, if_pos ⟨rfl, rfl⟩, hk.1], zJ_same hJ rfl (fun c j h => by rw [zui_f, if_neg h])⟩
end ZS

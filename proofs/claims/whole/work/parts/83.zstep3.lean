/-! One call on both sides: turn, sample, route, send. -/
section ZS
variable {M M1 M2 : zm_T}
theorem s_turn {s w k rb : Int32} (hJ : zJ M) (h1 : (k = 0 ∧ ∃ (r : Int32) (M0 : zm_T), (zv_trn s w = 0 ∧ ((w = 0 ∧ r = M.1 (25 + 14 * s.toNatClampNeg) 3 ∧ M0 = zm_ui M (25 + 14 * s.toNatClampNeg) 3 0) ∨ (¬ w = 0 ∧ w < 3 ∧ (r = if M.1 (23 + 14 * s.toNatClampNeg) 5 = zv_on w then 0 else 1) ∧ M0 = zm_ui M (23 + 14 * s.toNatClampNeg) 5 (zv_on w)) ∨ (¬ w = 0 ∧ ¬ w < 3 ∧ (r = if M.1 (23 + 14 * s.toNatClampNeg) 6 = zv_on w then 0 else 1) ∧ M0 = zm_ui M (23 + 14 * s.toNatClampNeg) 6 (zv_on w)))) ∧ M1 = zm_ul M0 182 0 r.toInt64) ∨ (M1 = M ∧ ((k = 1 ∧ (zv_trn s w = 1)))))
    (h2 : (zv_trn s w = 1 ∧ M2 = zm_ui M1 151 0 1) ∨ (zv_trn s w = 0 ∧ ((w = 0 ∧ rb = M1.1 169 s.toNatClampNeg ∧ M2 = zm_ui (zm_ui M1 151 0 0) 169 s.toNatClampNeg 0) ∨ (¬ w = 0 ∧ w < 3 ∧ (rb = if M1.1 173 s.toNatClampNeg = zv_on w then 0 else 1) ∧ M2 = zm_ui (zm_ui M1 151 0 0) 173 s.toNatClampNeg (zv_on w)) ∨ (¬ w = 0 ∧ ¬ w < 3 ∧ (rb = if M1.1 174 s.toNatClampNeg = zv_on w then 0 else 1) ∧ M2 = zm_ui (zm_ui M1 151 0 0) 174 s.toNatClampNeg (zv_on w))))) :
    M2.1 151 0 = k ∧ zJ M2 ∧ (k = 0 → M2.2.2 182 0 = rb.toInt64) := by
  rcases h1 with ⟨rfl, r, M0, ⟨g0, g⟩, g1⟩ | ⟨rfl, rfl, g⟩
  · have hs : s.toNatClampNeg ≤ 7 := (zi_s (i := 0) (n := 7) (hi := 7) (by decide) (fun h => by rw [zv_trn, if_pos h] at g0; exact absurd g0 (by decide))).1
    rcases h2 with ⟨h, -⟩ | ⟨-, h2⟩
    · rw [g0] at h; exact absurd h (by decide)
    generalize s.toNatClampNeg = sn at *
    have e0 : M1.1 = M0.1 := by rw [g1]; rfl
    have e2 : M1.2.2 182 0 = r.toInt64 := by rw [g1]; exact zul_at
    have er : M1.2.1 = M0.2.1 := by rw [g1]; rfl
    rcases g with ⟨w0, hr, hM⟩ | ⟨w0, w3, hr, hM⟩ | ⟨w0, w3, hr, hM⟩
    · rcases h2 with ⟨-, hb, h2⟩ | ⟨h, -⟩ | ⟨h, -⟩
      · have f0 : M1.1 169 sn = M.1 169 sn := by rw [e0, hM, zui_f, if_neg (by omega)]
        have hF : ∀ d j, ¬ ((d = 151 ∧ j = 0) ∨ (d = 169 ∧ j = sn) ∨ (d = 25 + 14 * sn ∧ j = 3)) → M2.1 d j = M.1 d j := fun d j a => by
          rw [h2, zui_f, if_neg (by omega), zui_f, if_neg (by omega), e0, hM, zui_f, if_neg (by omega)]
        have hr2 : M2.2.1 = M.2.1 := by rw [h2]; show M1.2.1 = _; rw [er, hM]; rfl
        refine ⟨by rw [h2, zui_f, if_neg (by omega), zui_f, if_pos ⟨rfl, rfl⟩], zJ_k hJ hr2 (zJt_c (fun c j h => hF c j (by omega))) (zJc_c (fun c j h => hF c j (by omega)) (fun c _ => by rw [hr2])) (zJr2_c (fun s hs => hF _ _ (by omega)) (fun s j hs => hF _ _ (by omega)) (fun j => hF _ _ (by omega)) (fun j => hF _ _ (by omega))) (zJe_c (fun s i j _ _ _ _ => hF _ _ (by omega)) (fun c j _ _ => hF _ _ (by omega))) (fun kf => ?_) (zJm_c (fun s j _ _ => hF _ _ (by omega)) (fun c j _ _ => hF _ _ (by omega))) (zJb_c (fun j _ => hF _ _ (by omega)) (fun s j _ => hF _ _ (by omega)) (hF _ _ (by omega)) (fun j => hF _ _ (by omega))), fun _ => ?_⟩
        · refine ⟨fun u hu => ?_, fun j hj => by rw [hF _ _ (by omega)]; exact kf.2 j hj⟩
          obtain ⟨n, hn⟩ := kf.1 u hu
          by_cases e : u = sn
          · subst e
            obtain ⟨⟨k1, v1, v2, v3, v4, v5, v6, v7⟩, k2, k3, k4⟩ := hn
            refine ⟨0, ⟨by rw [h2, zui_f, if_pos ⟨rfl, rfl⟩]; rfl, by omega, fun i hi => absurd hi (by omega), fun i j _ hj => absurd hj (by omega), fun i hi => absurd hi (by omega), fun i hi => absurd hi (by omega), by rw [hF _ _ (by omega)]; exact ⟨v6, v7⟩⟩, ?_, by rw [hF _ _ (by omega), hF 168 _ (by omega)]; exact k3, fun i hi => absurd hi (by omega)⟩
            rw [h2, zui_f, if_neg (by omega), zui_f, if_neg (by omega), e0, hM, zui_f, if_pos ⟨rfl, rfl⟩]; rfl
          · exact ⟨n, zJf1_c (fun j _ => hF _ _ (by omega)) (fun c j _ _ => hF _ _ (by omega)) (fun c _ _ => hF _ _ (by omega)) (fun c i _ _ _ => hF _ _ (by omega)) hn⟩
        · obtain ⟨n, ⟨k1, -⟩, k2, -⟩ := hJ.2.2.2.2.2.1.1 sn (by omega)
          rw [h2]
          show M1.2.2 182 0 = _
          rw [e2, hb, f0, hr, k1, k2]
      · exact absurd w0 h
      · exact absurd w0 h
    · rcases h2 with ⟨h, -⟩ | ⟨-, -, hb, h2⟩ | ⟨-, h, -⟩
      · exact absurd h w0
      · have f0 : M1.1 173 sn = M.1 173 sn := by rw [e0, hM, zui_f, if_neg (by omega)]
        have hF : ∀ d j, ¬ ((d = 151 ∧ j = 0) ∨ (d = 173 ∧ j = sn) ∨ (d = 23 + 14 * sn ∧ j = 5)) → M2.1 d j = M.1 d j := fun d j a => by
          rw [h2, zui_f, if_neg (by omega), zui_f, if_neg (by omega), e0, hM, zui_f, if_neg (by omega)]
        have hr2 : M2.2.1 = M.2.1 := by rw [h2]; show M1.2.1 = _; rw [er, hM]; rfl
        refine ⟨by rw [h2, zui_f, if_neg (by omega), zui_f, if_pos ⟨rfl, rfl⟩], zJ_k hJ hr2 (zJt_c (fun c j h => hF c j (by omega))) (zJc_c (fun c j h => hF c j (by omega)) (fun c _ => by rw [hr2])) (zJr2_c (fun s hs => hF _ _ (by omega)) (fun s j hs => hF _ _ (by omega)) (fun j => hF _ _ (by omega)) (fun j => hF _ _ (by omega))) (zJe_c (fun s i j _ _ _ _ => hF _ _ (by omega)) (fun c j _ _ => hF _ _ (by omega))) (zJf_c (fun s j _ _ => hF _ _ (by omega)) (fun s c j _ _ _ => hF _ _ (by omega)) (fun c j _ _ => hF _ _ (by omega))) (fun km u hu => ?_) (zJb_c (fun j _ => hF _ _ (by omega)) (fun s j _ => hF _ _ (by omega)) (hF _ _ (by omega)) (fun j => hF _ _ (by omega))), fun _ => ?_⟩
        · obtain ⟨k1, k2⟩ := km u hu
          rw [hF _ 6 (by omega), hF 174 _ (by omega)]
          refine ⟨?_, k2⟩
          by_cases e : u = sn
          · subst e
            rw [h2, zui_f, if_neg (by omega), zui_f, if_neg (by omega), e0, hM, zui_f, if_pos ⟨rfl, rfl⟩, zui_f, if_pos ⟨rfl, rfl⟩]
          · rw [hF _ _ (by omega), hF 173 _ (by omega)]; exact k1
        · rw [h2]
          show M1.2.2 182 0 = _
          rw [e2, hb, f0, hr, (hJ.2.2.2.2.2.2.1 sn (by omega)).1]
      · exact absurd w3 h
    · rcases h2 with ⟨h, -⟩ | ⟨-, h, -⟩ | ⟨-, -, hb, h2⟩
      · exact absurd h w0
      · exact absurd h w3
      · have f0 : M1.1 174 sn = M.1 174 sn := by rw [e0, hM, zui_f, if_neg (by omega)]
        have hF : ∀ d j, ¬ ((d = 151 ∧ j = 0) ∨ (d = 174 ∧ j = sn) ∨ (d = 23 + 14 * sn ∧ j = 6)) → M2.1 d j = M.1 d j := fun d j a => by
          rw [h2, zui_f, if_neg (by omega), zui_f, if_neg (by omega), e0, hM, zui_f, if_neg (by omega)]
        have hr2 : M2.2.1 = M.2.1 := by rw [h2]; show M1.2.1 = _; rw [er, hM]; rfl
        refine ⟨by rw [h2, zui_f, if_neg (by omega), zui_f, if_pos ⟨rfl, rfl⟩], zJ_k hJ hr2 (zJt_c (fun c j h => hF c j (by omega))) (zJc_c (fun c j h => hF c j (by omega)) (fun c _ => by rw [hr2])) (zJr2_c (fun s hs => hF _ _ (by omega)) (fun s j hs => hF _ _ (by omega)) (fun j => hF _ _ (by omega)) (fun j => hF _ _ (by omega))) (zJe_c (fun s i j _ _ _ _ => hF _ _ (by omega)) (fun c j _ _ => hF _ _ (by omega))) (zJf_c (fun s j _ _ => hF _ _ (by omega)) (fun s c j _ _ _ => hF _ _ (by omega)) (fun c j _ _ => hF _ _ (by omega))) (fun km u hu => ?_) (zJb_c (fun j _ => hF _ _ (by omega)) (fun s j _ => hF _ _ (by omega)) (hF _ _ (by omega)) (fun j => hF _ _ (by omega))), fun _ => ?_⟩
        · obtain ⟨k1, k2⟩ := km u hu
          rw [hF _ 5 (by omega), hF 173 _ (by omega)]
          refine ⟨k1, ?_⟩
          by_cases e : u = sn
          · subst e
            rw [h2, zui_f, if_neg (by omega), zui_f, if_neg (by omega), e0, hM, zui_f, if_pos ⟨rfl, rfl⟩, zui_f, if_pos ⟨rfl, rfl⟩]
          · rw [hF _ _ (by omega), hF 174 _ (by omega)]; exact k2
        · rw [h2]
          show M1.2.2 182 0 = _
          rw [e2, hb, f0, hr, (hJ.2.2.2.2.2.2.1 sn (by omega)).2]
  · rcases h2 with ⟨-, h2⟩ | ⟨h, -⟩
    · subst h2
      exact ⟨by rw [zui_f, if_pos ⟨rfl, rfl⟩], zJ_same hJ rfl (fun c j h => by rw [zui_f, if_neg h]), fun h => absurd h (by decide)⟩
    · rw [g] at h; exact absurd h (by decide)
theorem s_sample {s i k rb : Int32} {f n : Nat} (hJ : zJ M) (hn : M.1 0 4 = nI n) (hn64 : n ≤ 64) (hbs : M.1 151 31 = nI n) (hrow : ∀ s, s < 8 → ∀ i, i < n → M.1 (30 + 14 * s) (f + i) = M.1 181 (64 * s + i))
    (h1 : (k = 0 ∧ ∃ (r : Int32) (M0 : zm_T), (zu_smp M s i = 0 ∧ r = M.1 (30 + 14 * s.toNatClampNeg) (f + i.toNatClampNeg) ∧ M0 = M) ∧ M1 = zm_ul M0 182 0 r.toInt64) ∨ (M1 = M ∧ ((k = 1 ∧ (zu_smp M s i = 1)))))
    (h2 : M2 = zm_ui M1 151 0 (zv_smp M1 s i) ∧ (zv_smp M1 s i = 0 → rb = M1.1 181 (64 * s.toNatClampNeg + i.toNatClampNeg))) : M2.1 151 0 = k ∧ zJ M2 ∧ (k = 0 → M2.2.2 182 0 = rb.toInt64) := by
  obtain ⟨h2, h3⟩ := h2
  have e1 : M1.1 = M.1 ∧ M1.2.1 = M.2.1 := by
    rcases h1 with ⟨-, r, M0, ⟨-, -, rfl⟩, rfl⟩ | ⟨rfl, -⟩ <;> exact ⟨rfl, rfl⟩
  have p1 : (1 : Int32).toInt = 1 := by decide
  have en : (nI n - 1).toInt = (n : Int) - 1 := by rw [zn_sub (by rw [nI_toInt (by omega), p1]; omega) (by rw [nI_toInt (by omega), p1]; omega), nI_toInt (by omega), p1]
  have hz : zv_smp M1 s i = zu_smp M s i := by
    unfold zv_smp zu_smp
    rw [e1.1, hn, hbs]
    by_cases g1 : zf_in s 0 7 = 0
    · rw [if_pos g1, if_pos g1]
    · rw [if_neg g1, if_neg g1]
      by_cases g2 : zf_in i 0 (nI n - 1) = 0
      · rw [if_pos g2]
        by_cases g3 : i < 0
        · rw [if_pos g3]
        · rw [if_neg g3, if_pos]
          rw [Int32.le_iff_toInt_le, nI_toInt (by omega)]
          rw [Int32.lt_iff_toInt_lt, zn_0] at g3
          have := (not_congr (zt_in (x := i) (lo := 0) (hi := nI n - 1))).mp (fun h => h g2)
          rw [zn_0, en] at this
          omega
      · rw [if_neg g2]
        have := zt_in.mp g2
        rw [zn_0, en] at this
        rw [if_neg (by rw [Int32.lt_iff_toInt_lt, zn_0]; omega), if_neg (by rw [Int32.le_iff_toInt_le, nI_toInt (by omega)]; omega)]
  rw [hz] at h2 h3
  subst h2
  refine ⟨?_, zJ_same hJ e1.2 (fun c j h => by rw [zui_f, if_neg h, e1.1]), fun hk => ?_⟩
  · rw [zui_f, if_pos ⟨rfl, rfl⟩]
    rcases h1 with ⟨rfl, r, M0, ⟨g, -⟩, -⟩ | ⟨-, rfl, g⟩ <;> rw [g]
  · rcases h1 with ⟨-, r, M0, ⟨g, hr, -⟩, e⟩ | ⟨-, rfl, -⟩
    · have e2 : (zm_ui M1 151 0 (zu_smp M s i)).2.2 182 0 = r.toInt64 := by rw [e]; exact zul_at
      have g1 : ¬ zf_in s 0 7 = 0 := fun h => by rw [zu_smp, if_pos h] at g; exact absurd g (by decide)
      have g2 : ¬ zf_in i 0 (M.1 0 4 - 1) = 0 := fun h => by rw [zu_smp, if_neg g1, if_pos h] at g; exact absurd g (by decide)
      have g3 := zt_in.mp g2
      rw [zn_0, hn, en] at g3
      have h5 := (zt_nI (x := i) (by omega)).2
      rw [e2, h3 g, e1.1, hr, hrow _ (by have := (zi_s (i := 0) (n := 7) (by decide) g1).1; omega) _ (by omega)]
    · exact absurd hk (by decide)
end ZS

/-! One call on both sides: meter. -/
section ZR
variable {M M1 M2 : zm_T}
theorem zi_sq_c {f g : Nat → Int} : ∀ n, (∀ i, i < n → f i = g i) → zi_sq f n = zi_sq g n
  | 0, _ => rfl
  | n + 1, h => by rw [zi_sq, zi_sq, zi_sq_c n (fun i hi => h i (by omega)), h n (by omega)]
theorem zi_ov_c {f g : Nat → Int} : ∀ n, (∀ i, i < n → f i = g i) → zi_ov f n = zi_ov g n
  | 0, _ => rfl
  | n + 1, h => by rw [zi_ov, zi_ov, zi_ov_c n (fun i hi => h i (by omega)), h n (by omega)]
theorem zg_acc_u {w : Int32} {f g : Nat → Int} {n : Nat} {u v : Int} (hfg : ∀ i, i < n → f i = g i) (h : zg_acc w f n u) (h' : zg_acc w g n v) : u = v := by
  unfold zg_acc at h h'
  by_cases w0 : w = 0
  · rw [if_pos w0] at h h'
    have h2 : ze_max (fun i => ze_abs (g i)) n u := by
      obtain ⟨a, b, c⟩ := h
      exact ⟨a, fun i hi => by have := b i hi; dsimp only at this ⊢; rw [← hfg i hi]; exact this, c.imp id (fun ⟨i, hi, e⟩ => ⟨i, hi, by dsimp only at e ⊢; rw [← hfg i hi]; exact e⟩)⟩
    exact ze_max_u h2 h'
  · rw [if_neg w0] at h h'
    by_cases w1 : w = 1
    · rw [if_pos w1] at h h'
      rw [h, h', zi_sq_c n hfg]
    · rw [if_neg w1] at h h'
      rw [h, h', zi_ov_c n hfg]
theorem s_meter {sv w k : Int32} {rb : Int64} {f n : Nat} (hJ : zJ M) (hbs : M.1 151 31 = nI n) (hrow : ∀ s, s < 8 → ∀ i, i < n → M.1 (30 + 14 * s) (f + i) = M.1 181 (64 * s + i))
    (h1 : (k = 0 ∧ ∃ (r : Int64) (M0 : zm_T), (zv_trn sv w = 0 ∧ ∃ s, s < 8 ∧ sv = nI s ∧ ((w = 3 ∧ (∃ o, zo_P M o ∧ M0 = zf_st (zf_or M o 8) o 8) ∧ r.toInt = (M0.1 (23 + 14 * s) 8).toInt) ∨ (w = 4 ∧ M0 = M ∧ ((r = 1 ∧ zH M s) ∨ (r = 0 ∧ ¬ zH M s))) ∨ (¬ w = 3 ∧ ¬ w = 4 ∧ M0 = M ∧ zg_acc w (fun i => (M.1 (30 + 14 * s) (f + i)).toInt) n r.toInt))) ∧ M1 = zm_ul M0 182 0 r) ∨ (M1 = M ∧ ((k = 1 ∧ (zv_trn sv w = 1)))))
    (h2 : (zv_trn sv w = 1 ∧ M2 = zm_ui M1 151 0 1) ∨ (zv_trn sv w = 0 ∧ ∃ s, s < 8 ∧ sv = nI s ∧ ((w = 3 ∧ zm_only (zm_ui M1 151 0 0) M2 176 ∧ (∀ u, u < 8 → zg_dE (zgf M1) (zg_own M1) (fun a => (M2.1 176 a).toInt) u) ∧ rb.toInt = (M2.1 176 s).toInt) ∨ (w = 4 ∧ zm_only (zm_ui M1 151 0 0) M2 175 ∧ zg_R M2 (gq_T (zgf M1)) ∧ ((rb = 1 ∧ zg_H M1 (gq_T (zgf M1)) s) ∨ (rb = 0 ∧ ¬ zg_H M1 (gq_T (zgf M1)) s))) ∨ (¬ w = 3 ∧ ¬ w = 4 ∧ M2 = zm_ui M1 151 0 0 ∧ zg_acc w (fun i => (M1.1 181 (64 * s + i)).toInt) n rb.toInt)))) :
    M2.1 151 0 = k ∧ zJ M2 ∧ (k = 0 → M2.2.2 182 0 = rb) := by
  rcases h1 with ⟨rfl, r, M0, ⟨g0, s, hs, e1, g⟩, g1⟩ | ⟨rfl, rfl, g⟩
  · rcases h2 with ⟨h, -⟩ | ⟨-, s', hs', e2, h2⟩
    · rw [g0] at h; exact absurd h (by decide)
    have ess : s = s' := by
      have : (nI s).toInt = (nI s').toInt := by rw [← e1, e2]
      rw [nI_toInt (by omega), nI_toInt (by omega)] at this
      omega
    subst ess
    obtain ⟨k0, kt, kc, ⟨kr, kno⟩, ke, kf, km, kb⟩ := id hJ
    have e0 : M1.1 = M0.1 := by rw [g1]; rfl
    have eL : M1.2.2 182 0 = r := by rw [g1]; exact zul_at
    have er : M1.2.1 = M0.2.1 := by rw [g1]; rfl
    rcases g with ⟨w3, ⟨o, ho, hM⟩, hr⟩ | ⟨w4, hM, hr⟩ | ⟨w3, w4, hM, hr⟩
    · rcases h2 with ⟨-, h3, h4, h5⟩ | ⟨h, -⟩ | ⟨h, -⟩
      · have hor : zQ_F M (zf_or M o 8) := zQ_F_or
        have ho8 : ∀ i, i < 8 → o i < 8 := ho.1
        have hF1 : zQ_F M M0 := by rw [hM]; exact zQ_F_t hor (zQ_F_st ho8)
        have hfd : zfd M0 = zgf M := by rw [zQ_F_fd hF1]; exact zJ_fd kr
        have eR : ∀ c j, 151 ≤ c → M1.1 c j = M.1 c j := fun c j hc => by rw [e0]; exact zQ_F_c hF1 (Or.inr (Or.inl (by omega)))
        have hE0 : zd_E M0 := by
          rw [hM]
          refine zd_E_of ?_ (zD_c (zQ_F_fd hor) (zJ_D kr)) (fun s hs i hi => zQ_F_K hor hs hi ((zJ_Qok hJ).2.2.2.1 s hs i hi))
          unfold zo_P at ho ⊢
          rw [zQ_F_fd hor]
          exact ho
        have hgM1 : zgf M1 = zgf M := zgf_c (fun j => eR _ _ (by decide)) (fun j => eR _ _ (by decide))
        have hown : ∀ u, u < 8 → zd_own M0 u = zg_own M1 u := fun u hu => by
          have e : ∀ i, i < 3 → zd_o1 M0 u i = zg_o1 M1 u i := fun i hi => by
            unfold zd_o1 zg_o1
            obtain ⟨j1, -, j3, -⟩ := ke u hu i hi
            rw [hF1.2.2.2 u hu i hi 1 (by decide), hF1.2.2.2 u hu i hi 3 (by decide), j1, j3, eR _ _ (by decide), eR _ _ (by decide)]
          unfold zd_own zg_own
          rw [e 0 (by decide), e 1 (by decide), e 2 (by decide)]
        have hd1 : ∀ u, u < 8 → zg_dE (zgf M) (zg_own M1) (fun a => (M0.1 (23 + 14 * a) 8).toInt) u := fun u hu => by
          obtain ⟨⟨q1, q2, q3, q4, -⟩, -⟩ := hE0 u hu
          rw [hfd] at q2 q3
          exact ⟨_, ⟨q1, fun a _ hf => q2 a hf, q3.imp id (fun ⟨a, hf, e⟩ => ⟨a, hf.1, hf, e⟩)⟩, by rw [← hown u hu]; exact q4⟩
        rw [hgM1] at h4
        have heq := zg_D_u (fun a b (h : zgf M a b) => h.1) kno hd1 h4 8 s hs (zk_8 kno hs)
        have hlow : ∀ c j, c ≠ 176 → M2.1 c j = (zm_ui M1 151 0 0).1 c j := h3.2
        have hF : ∀ c j, ¬ ((c = 151 ∧ j = 0) ∨ c = 176) → (0 < c ∧ c < 22) ∨ 134 < c ∨ (∃ s, s < 8 ∧ 23 + 14 * s < c ∧ c < 30 + 14 * s) → M2.1 c j = M.1 c j := fun c j h hc => by
          rw [hlow c j (by omega), zui_f, if_neg (by omega), e0]
          exact zQ_F_c hF1 hc
        have hk : ∀ c j, c < 151 → M2.1 c j = M0.1 c j := fun c j hc => by rw [hlow c j (by omega), zui_f, if_neg (by omega), e0]
        have st0 : ∀ c j, (∀ s, s < 8 → c ≠ 23 + 14 * s) → c ≠ 22 → M0.1 c j = M.1 c j := fun c j h1 h22 => by
          rw [hM, zf_st_o (Or.inl h1) ho8 8 (by omega)]
          exact zm_seg_out (Or.inl h22)
        have hr2 : M2.2.1 = M.2.1 := by rw [h3.1]; show M1.2.1 = _; rw [er, hF1.1]
        refine ⟨by rw [hlow _ _ (by decide), zui_f, if_pos ⟨rfl, rfl⟩], zJ_k hJ hr2 (zJt_c (fun c j h => hF c j (by omega) (by omega))) (zJc_c (fun c j h => hF c j (by omega) (by omega)) (fun c _ => by rw [hr2])) (zJr2_c (fun s hs => by rw [hk _ _ (by omega)]; exact hF1.2.2.1 s hs 4 (by decide) (by decide)) (fun s j hs => hF _ _ (by omega) (Or.inr (Or.inr ⟨s, hs, by omega, by omega⟩))) (fun j => hF _ _ (by omega) (by omega)) (fun j => hF _ _ (by omega) (by omega))) (zJe_c (fun s i j hs hi h1 h2 => by rw [hk _ _ (by omega)]; exact hF1.2.2.2 s hs i hi j (by omega)) (fun c j _ _ => hF _ _ (by omega) (by omega))) (zJf_c (fun s j hs _ => hF _ _ (by omega) (Or.inr (Or.inr ⟨s, hs, by omega, by omega⟩))) (fun s c j hs _ _ => hF _ _ (by omega) (Or.inr (Or.inr ⟨s, hs, by omega, by omega⟩))) (fun c j _ _ => hF _ _ (by omega) (by omega))) (zJm_c (fun s j hs hj => by rw [hk _ _ (by omega)]; exact hF1.2.2.1 s hs j (by omega) (by omega)) (fun c j _ _ => hF _ _ (by omega) (by omega))) (zJb_c (fun j _ => by rw [hk _ _ (by decide)]; exact st0 _ _ (fun s hs => by omega) (by decide)) (fun s j hs => by rw [hk _ _ (by omega)]; exact st0 _ _ (fun s' hs' => by omega) (by omega)) (hF _ _ (by omega) (by omega)) (fun j => hF _ _ (by omega) (by omega))), fun _ => ?_⟩
        rw [h3.1]
        show M1.2.2 182 0 = _
        rw [eL]
        exact Int64.toInt_inj.mp (by rw [hr, h5]; exact heq)
      · rw [w3] at h; exact absurd h (by decide)
      · exact absurd w3 h
    · rcases h2 with ⟨h, -⟩ | ⟨-, h3, -, h5⟩ | ⟨-, h, -⟩
      · rw [w4] at h; exact absurd h (by decide)
      · subst hM
        have hH : zH M0 s ↔ zg_H M1 (gq_T (zgf M1)) s := by
          have eg : zgf M1 = zgf M0 := zgf_c (fun j => by rw [e0]) (fun j => by rw [e0])
          unfold zH zg_H
          rw [eg, e0, zJ_fd kr, (km s hs).1, (km s hs).2]
          constructor
          · rintro ⟨a1, a2⟩
            refine ⟨a1, a2.imp (fun h i hi => by rw [← (km i hi).2]; exact h i hi) (fun h => h.imp id (fun ⟨i, hi, h3, h4⟩ => ⟨i, hi, by rw [← (km i hi).2]; exact h3, h4⟩))⟩
          · rintro ⟨a1, a2⟩
            refine ⟨a1, a2.imp (fun h i hi => by rw [(km i hi).2]; exact h i hi) (fun h => h.imp id (fun ⟨i, hi, h3, h4⟩ => ⟨i, hi, by rw [(km i hi).2]; exact h3, h4⟩))⟩
        refine ⟨by rw [h3.2 _ _ (by decide), zui_f, if_pos ⟨rfl, rfl⟩], zJ_175 hJ (by rw [h3.1]; exact er) (fun c j h => by rw [h3.2 c j (by omega), zui_f, if_neg (by omega), e0]), fun _ => ?_⟩
        rw [h3.1]
        show M1.2.2 182 0 = _
        rw [eL]
        rcases hr with ⟨rfl, y⟩ | ⟨rfl, y⟩ <;> rcases h5 with ⟨rfl, z⟩ | ⟨rfl, z⟩
        · rfl
        · exact absurd (hH.mp y) z
        · exact absurd (hH.mpr z) y
        · rfl
      · exact absurd w4 h
    · rcases h2 with ⟨h, -⟩ | ⟨h, -⟩ | ⟨-, -, h3, h5⟩
      · exact absurd h w3
      · exact absurd h w4
      · subst hM h3
        refine ⟨by rw [zui_f, if_pos ⟨rfl, rfl⟩], zJ_same hJ er (fun c j h => by rw [zui_f, if_neg h, e0]), fun _ => ?_⟩
        show M1.2.2 182 0 = _
        rw [eL]
        rw [e0] at h5
        exact Int64.toInt_inj.mp (zg_acc_u (fun i hi => by rw [hrow s hs i hi]) hr h5)
  · rcases h2 with ⟨-, h2⟩ | ⟨h, -⟩
    · subst h2
      exact ⟨by rw [zui_f, if_pos ⟨rfl, rfl⟩], zJ_same hJ rfl (fun c j h => by rw [zui_f, if_neg h]), fun h => absurd h (by decide)⟩
    · rw [g] at h; exact absurd h (by decide)
end ZR

/-! One call on both sides: render, bounce, meter. -/
section ZR
variable {M M1 M2 : zm_T}
theorem zJ_Qok (hJ : zJ M) : zQ_ok M (zJ_fn M) := by
  obtain ⟨k0, kt, kc, ⟨kr, kno⟩, ke, kf, km, kb⟩ := hJ
  refine ⟨zJ_D kr, by rw [zJ_fd kr]; exact kno, fun c hc h0 => ?_, fun s hs i hi => ?_, fun s hs => ?_, fun s hs a ha => ?_⟩
  · rcases kc c hc with ⟨-, k2⟩ | ⟨-, t', tr', a', f', n', lv', i', o', ⟨c0, c1, c2, c3, c4, c5, c6, c7, c8, c9, c10, c11, c12, c13, c14⟩, d0, d1, d2, d3, d4, d5, d6, d7⟩
    · rw [k2] at h0; exact absurd (by decide) h0
    · exact ⟨t', tr', a', f', n', lv', i', o', c0, d0, c2, d1, d2, d3, d4, c7, c8, c9, d5, c11, d6, d7, c14⟩
  · obtain ⟨j1, j2, j3, j4⟩ := ke s hs i hi
    unfold zE_K
    rw [j1, j2, j3]
    exact j4
  · obtain ⟨⟨g0, v1, v2, v3, v4, v5, v6, v7⟩, f1, f2, f3⟩ := zJ_f1 kf hs
    refine ⟨f1, v1, fun i hi => ?_, fun i j hij hj => ?_, fun i hi => ?_, fun i hi => ?_, ?_⟩
    · dsimp only; rw [(f3 i hi).1]; exact v2 i hi
    · dsimp only; rw [(f3 i (by omega)).1, (f3 j hj).1]; exact v3 i j hij hj
    · dsimp only; rw [(f3 i hi).2.1]; exact v4 i hi
    · dsimp only; rw [(f3 i hi).2.2]; exact v5 i hi
    · rw [f2]; exact ⟨v6, v7⟩
  · rcases kr.2.2.2.1 a (by omega) s hs with ⟨y1, y2, y3, y4⟩ | ⟨-, y2⟩
    · rw [y4]; exact (kr.2.2.2.2 _ (by omega)).2
    · rw [y2, zn_0]; omega
theorem zJ_Rok (hJ : zJ M) : zR_ok M (zJ_fn M) := by
  obtain ⟨k0, kt, kc, ⟨kr, kno⟩, ke, kf, km, kb⟩ := hJ
  refine ⟨kno, fun c hc h0 => ?_, fun j hj => ?_, kr.2.2.2.2, fun j hj => ?_, fun s hs => (zJ_f1 kf hs).1⟩
  · rcases kc c hc with ⟨k1, -⟩ | ⟨-, t', tr', a', f', n', lv', i', o', hC, -⟩
    · exact absurd k1 h0
    · exact ⟨t', tr', a', f', n', lv', i', o', hC⟩
  · have := (kt (j / 64) (by omega)).2.2.2 (j % 64) (by omega)
    rw [show 64 * (j / 64) + j % 64 = j by omega] at this
    exact this.2
  · have := (ke (j / 3) (by omega) (j % 3) (by omega)).2.2.2
    rw [show 3 * (j / 3) + j % 3 = j by omega] at this
    exact this
theorem zJ_Rok1 {f n : Nat} (hJ : zJ M) (hq : zQ M M1 (zJ_fn M) f n) : zR_ok M1 (zJ_fn M) := zR_ok_c (fun c j h1 h2 => zQ_F_c hq.1 (Or.inr (Or.inl (by omega)))) (zJ_Rok hJ)
/-- both have played the block from f on, n long: V has the class's cells of M1 and the reference's of M2 -/
theorem zY_J {N V : zm_T} {f n : Nat} (h : zY M M1 N M2 f n) (hn : n ≤ 64) (hlow : ∀ c j, c < 151 → V.1 c j = M1.1 c j) (hhi : ∀ c j, 151 ≤ c → V.1 c j = M2.1 c j) (hr2 : V.2.1 = M.2.1) : zJ V := by
  obtain ⟨hJ, hq, hp, he, -⟩ := id h
  obtain ⟨k0, kt, kc, ⟨kr, kno⟩, ke, kf, km, kb⟩ := id hJ
  have hF1 := hq.1
  have hs : ∀ c j, (0 < c ∧ c < 22) ∨ (134 < c ∧ c < 151) ∨ (152 ≤ c ∧ c ≤ 174) → V.1 c j = M.1 c j := fun c j hc => by
    by_cases h1 : c < 151
    · rw [hlow c j h1]
      exact zQ_F_c hF1 (by omega)
    · rw [hhi c j (by omega)]
      exact zY_r h c j (by omega) (by omega)
  have hst : ∀ s c j, s < 8 → 24 + 14 * s ≤ c → c ≤ 29 + 14 * s → V.1 c j = M.1 c j := fun s c j hs h1 h2 => by
    rw [hlow c j (by omega)]
    exact zQ_F_c hF1 (Or.inr (Or.inr ⟨s, hs, by omega, by omega⟩))
  have h23 : ∀ s j, s < 8 → j ≠ 7 → j ≠ 8 → V.1 (23 + 14 * s) j = M.1 (23 + 14 * s) j := fun s j hs a b => by
    rw [hlow _ j (by omega)]
    exact hF1.2.2.1 s hs j a b
  have hef : ∀ s i j, s < 8 → i < 3 → j < 4 → V.1 (31 + 14 * s + 2 * i) j = M.1 (31 + 14 * s + 2 * i) j := fun s i j hs hi hj => by
    rw [hlow _ j (by omega)]
    exact hF1.2.2.2 s hs i hi j hj
  refine zJ_k hJ hr2 (zJt_c (fun c j h => hs c j (by omega))) (zJc_c (fun c j h => hs c j (by omega)) (fun c _ => by rw [hr2])) (zJr2_c (fun s h8 => h23 s 4 h8 (by decide) (by decide)) (fun s j h8 => hst s _ j h8 (by omega) (by omega)) (fun j => hs _ _ (by omega)) (fun j => hs _ _ (by omega))) (zJe_c (fun s i j h1 h2 h3 h4 => hef s i j h1 h2 (by omega)) (fun c j _ _ => hs _ _ (by omega))) (zJf_c (fun s j h8 _ => hst s _ j h8 (by omega) (by omega)) (fun s c j h8 _ _ => hst s c j h8 (by omega) (by omega)) (fun c j _ _ => hs _ _ (by omega))) (zJm_c (fun s j h8 hj => h23 s j h8 (by omega) (by omega)) (fun c j _ _ => hs _ _ (by omega))) (fun _ => ?_)
  have hrow := fun s (h8 : s < 8) => zY_row h 8 s h8 (zk_8 kno h8)
  have h181 := hp.2.2.2.2.2.2
  have hbd : ∀ s, s < 8 → ∀ t, t < f + n → -16777216 ≤ (M2.1 178 (1024 * s + t)).toInt ∧ (M2.1 178 (1024 * s + t)).toInt ≤ 16777216 := fun s h8 t ht => by
    rw [← hrow s h8 t ht]
    exact zQ_row_b (hq.2.2.2.2 s h8) ht
  refine ⟨⟨f, n, by rw [hlow _ _ (by decide)]; exact hq.2.1, by rw [hlow _ _ (by decide)]; exact hq.2.2.1, hn, he, by rw [hhi _ _ (by decide)]; exact hp.2.2.1, fun s h8 i hi => ?_⟩, fun j hj => ?_⟩
  · rw [hlow _ _ (by omega), hhi _ _ (by decide), h181 (64 * s + i) (by omega), if_pos (by omega), show (64 * s + i) / 64 = s by omega, show (64 * s + i) % 64 = i by omega]
    exact Int32.toInt_inj.mp (by rw [show 1024 * s + f + i = 1024 * s + (f + i) by omega]; exact hrow s h8 (f + i) (by omega))
  · rw [hhi _ _ (by decide), h181 j hj]
    by_cases e : j % 64 < n
    · rw [if_pos e, show 1024 * (j / 64) + f + j % 64 = 1024 * (j / 64) + (f + j % 64) by omega]
      exact hbd (j / 64) (by omega) _ (by omega)
    · rw [if_neg e, zn_0]; omega
/-- what the reference left as it was -/
theorem zR_o {N : zm_T} {fn : Nat → Nat} {f n : Nat} (hp : zR_post N M2 fn f n) : ∀ c j, ¬ (175 ≤ c ∧ c ≤ 181) → ¬ (c = 151 ∧ j = 31) → M2.1 c j = N.1 c j := fun c j h1 h2 => by
  rcases hp.2.1 c j with h3 | h3 | h3
  · exact absurd h3 h1
  · exact absurd h3 h2
  · exact h3
theorem s_render {f n k : Int32} (hJ : zJ M) (h1 : (k = 0 ∧ (¬ zf_blk f n = 0 ∧ zQ M M1 (zJ_fn M) f.toNatClampNeg n.toNatClampNeg)) ∨ (M1 = M ∧ ((k = 1 ∧ (zf_blk f n = 0)))))
    (h2 : (zf_blk f n = 0 ∧ M2 = zm_ui M1 151 0 1) ∨ (¬ zf_blk f n = 0 ∧ zR_post (zm_ui M1 151 0 0) M2 (zJ_fn M) f.toNatClampNeg n.toNatClampNeg)) : M2.1 151 0 = k ∧ zJ M2 := by
  rcases h1 with ⟨rfl, g0, g1⟩ | ⟨rfl, rfl, g⟩
  · rcases h2 with ⟨h, -⟩ | ⟨-, h2⟩
    · exact absurd h g0
    obtain ⟨a, b, rfl, rfl, h3, h4, h5⟩ := zf_blk_n g0
    rw [zn_cl (by omega), zn_cl (i := b) (by omega)] at g1 h2
    have hY : zY M M1 (zm_ui M1 151 0 0) M2 a b := ⟨hJ, g1, h2, h3, fun c j hc => by rw [zui_f, if_neg (by omega), zQ_F_c g1.1 (Or.inr (Or.inl (by omega)))]⟩
    refine ⟨by rw [zR_o h2 _ _ (by omega) (by omega), zui_f, if_pos ⟨rfl, rfl⟩], zY_J hY h4 (fun c j hc => by rw [zR_o h2 c j (by omega) (by omega), zui_f, if_neg (by omega)]) (fun _ _ _ => rfl) ?_⟩
    rw [h2.1]; show M1.2.1 = _; rw [g1.1.1]
  · rcases h2 with ⟨-, h2⟩ | ⟨h, -⟩
    · subst h2
      exact ⟨by rw [zui_f, if_pos ⟨rfl, rfl⟩], zJ_same hJ rfl (fun c j h => by rw [zui_f, if_neg h])⟩
    · exact absurd g h
theorem zg_c16_eq (x : Int32) : zf_clip x = zg_c16 x ∧ -32768 ≤ (zg_c16 x).toInt ∧ (zg_c16 x).toInt ≤ 32767 := by
  have c1 : (-32768 : Int32).toInt = -32768 := by decide
  have c2 : (32767 : Int32).toInt = 32767 := by decide
  unfold zf_clip zg_c16
  by_cases h1 : x < 32767
  · rw [if_pos h1]
    rw [Int32.lt_iff_toInt_lt, c2] at h1
    by_cases h2 : (-32768 : Int32) < x
    · rw [if_pos h2]
      rw [Int32.lt_iff_toInt_lt, c1] at h2
      rw [if_pos (by rw [Int32.le_iff_toInt_le, c1]; omega), if_pos (by rw [Int32.le_iff_toInt_le, c2]; omega)]
      exact ⟨rfl, by omega, by omega⟩
    · rw [if_neg h2]
      rw [Int32.lt_iff_toInt_lt, c1] at h2
      by_cases h3 : (-32768 : Int32) ≤ x
      · rw [if_pos h3, if_pos (by rw [Int32.le_iff_toInt_le, c2]; omega)]
        rw [Int32.le_iff_toInt_le, c1] at h3
        refine ⟨Int32.toInt_inj.mp (by rw [c1]; omega), by omega, by omega⟩
      · rw [if_neg h3]
        exact ⟨rfl, by rw [c1]; omega, by rw [c1]; omega⟩
  · rw [if_neg h1, if_pos (by decide)]
    rw [Int32.lt_iff_toInt_lt, c2] at h1
    rw [if_pos (by rw [Int32.le_iff_toInt_le, c1]; omega)]
    by_cases h3 : x ≤ 32767
    · rw [if_pos h3]
      rw [Int32.le_iff_toInt_le, c2] at h3
      exact ⟨Int32.toInt_inj.mp (by rw [c2]; omega), by omega, by omega⟩
    · rw [if_neg h3]
      exact ⟨rfl, by rw [c2]; omega, by rw [c2]; omega⟩
theorem s_bounce {sv f n k rb : Int32} (hJ : zJ M) (h1 : (k = 0 ∧ ∃ (r : Int32) (M0 : zm_T), (¬ (zf_in sv 0 7 = 0 ∨ zf_blk f n = 0) ∧ ∃ t, zf_ot M t ∧ ((t = 8 ∧ r = -1 ∧ M0 = M) ∨ (t < 8 ∧ r = nI t ∧ ∃ M3, zQ M M3 (zJ_fn M) f.toNatClampNeg n.toNatClampNeg ∧ M0 = zm_ui (zm_seg M3 (136 + 2 * t) 0 n.toNatClampNeg (fun j => zf_clip (M3.1 (30 + 14 * sv.toNatClampNeg) (f.toNatClampNeg + j)))) (135 + 2 * t) 1 n))) ∧ M1 = zm_ul M0 182 0 r.toInt64) ∨ (M1 = M ∧ ((k = 1 ∧ (zf_in sv 0 7 = 0 ∨ zf_blk f n = 0)))))
    (h2 : ((zf_in sv 0 7 = 0 ∨ zf_blk f n = 0) ∧ M2 = zm_ui M1 151 0 1) ∨ (¬ (zf_in sv 0 7 = 0 ∨ zf_blk f n = 0) ∧ ∃ t, zg_ot M1 t ∧ ((t = 8 ∧ rb = -1 ∧ M2 = zm_ui M1 151 0 0) ∨ (t < 8 ∧ rb = nI t ∧ ∃ M4, zR_post (zm_ui M1 151 0 0) M4 (zJ_fn M) f.toNatClampNeg n.toNatClampNeg ∧ M2 = zm_ui (zm_seg M4 152 (64 * t) n.toNatClampNeg (fun i => zg_c16 (M4.1 181 (64 * sv.toNatClampNeg + i)))) 153 t n)))) :
    M2.1 151 0 = k ∧ zJ M2 ∧ (k = 0 → M2.2.2 182 0 = rb.toInt64) := by
  rcases h1 with ⟨rfl, r, M0, ⟨g0, t, ht, g⟩, g1⟩ | ⟨rfl, rfl, g⟩
  · rcases h2 with ⟨h, -⟩ | ⟨-, t', ht', h2⟩
    · exact absurd h g0
    obtain ⟨k0, kt, kc, ⟨kr, kno⟩, ke, kf, km, kb⟩ := id hJ
    have e0 : M1.1 = M0.1 := by rw [g1]; rfl
    have eL : M1.2.2 182 0 = r.toInt64 := by rw [g1]; exact zul_at
    have er : M1.2.1 = M0.2.1 := by rw [g1]; rfl
    have hs7 := (zi_s (i := 0) (n := 7) (hi := 7) (by decide) (fun h => g0 (Or.inl h))).1
    obtain ⟨a, b, rfl, rfl, b3, b4, b5⟩ := zf_blk_n (fun h => g0 (Or.inr h))
    rw [zn_cl (by omega), zn_cl (i := b) (by omega)] at g h2
    have eR : ∀ c j, 152 ≤ c → M1.1 c j = M.1 c j := fun c j hc => by
      rw [e0]
      rcases g with ⟨-, -, rfl⟩ | ⟨t8, -, M3, hq, rfl⟩
      · rfl
      · rw [zui_f, if_neg (by omega), zseg_f, if_neg (by omega), zQ_F_c hq.1 (Or.inr (Or.inl (by omega)))]
    have ett : t = t' := by
      obtain ⟨a1, a2, a3⟩ := ht
      obtain ⟨c1, c2, c3⟩ := ht'
      have len : ∀ u, u < 8 → (M1.1 153 u ≤ 0 ↔ M.1 (135 + 2 * u) 1 = 0) := fun u hu => by rw [eR _ _ (by decide)]; exact (zJt_len kt hu).1
      by_cases hlt : t < t'
      · exact absurd ((len t (by omega)).mpr (a3 (by omega))) (c2 t hlt)
      · by_cases hgt : t' < t
        · exact absurd ((len t' (by omega)).mp (c3 (by omega))) (a2 t' hgt)
        · omega
    subst ett
    rcases g with ⟨t8, rfl, hM⟩ | ⟨t8, rfl, M3, hq, hM⟩
    · rcases h2 with ⟨-, rfl, h2⟩ | ⟨h, -⟩
      · subst h2
        exact ⟨by rw [zui_f, if_pos ⟨rfl, rfl⟩], zJ_same hJ (er.trans (by rw [hM])) (fun c j h => by rw [zui_f, if_neg h, e0, hM]), fun _ => eL⟩
      · omega
    · rcases h2 with ⟨h, -⟩ | ⟨-, rfl, M4, hp, h2⟩
      · omega
      generalize sv.toNatClampNeg = sn at *
      have hY : zY M M3 (zm_ui M1 151 0 0) M4 a b := ⟨hJ, hq, hp, b3, fun c j hc => by rw [zui_f, if_neg (by omega), eR c j hc]⟩
      obtain ⟨V, hV⟩ : ∃ V : zm_T, V = ((fun c j => if c < 151 then M3.1 c j else M4.1 c j), M.2) := ⟨_, rfl⟩
      have v1 : ∀ c j, c < 151 → V.1 c j = M3.1 c j := fun c j hc => by rw [hV]; exact if_pos hc
      have v2 : ∀ c j, 151 ≤ c → V.1 c j = M4.1 c j := fun c j hc => by rw [hV]; exact if_neg (by omega)
      have JV := zY_J hY b4 v1 v2 (by rw [hV])
      have o4 := zR_o hp
      have n3 : (nI b).toInt = b := nI_toInt (by omega)
      -- the row of the take that was open, on both sides
      have cl : ∀ c j, c < 151 → M2.1 c j = if c = 135 + 2 * t ∧ j = 1 then nI b else if c = 136 + 2 * t ∧ j < b then zf_clip (M3.1 (30 + 14 * sn) (a + j)) else M3.1 c j := fun c j hc => by
        rw [h2, zui_f, if_neg (by omega), zseg_f, if_neg (by omega), o4 c j (by omega) (by omega), zui_f, if_neg (by omega), e0, hM, zui_f]
        by_cases e : c = 135 + 2 * t ∧ j = 1
        · rw [if_pos e, if_pos e]
        · rw [if_neg e, if_neg e, zseg_f]
          by_cases e2 : c = 136 + 2 * t ∧ j < b
          · rw [if_pos ⟨e2.1, by omega, by omega⟩, if_pos e2]; rfl
          · rw [if_neg (by omega), if_neg e2]
      have rf : ∀ c j, 151 ≤ c → M2.1 c j = if c = 153 ∧ j = t then nI b else if c = 152 ∧ 64 * t ≤ j ∧ j < 64 * t + b then zg_c16 (M4.1 181 (64 * sn + (j - 64 * t))) else M4.1 c j := fun c j hc => by
        rw [h2, zui_f]
        by_cases e : c = 153 ∧ j = t
        · rw [if_pos e, if_pos e]
        · rw [if_neg e, if_neg e, zseg_f]
      have hF : ∀ c j, ¬ ((c = 135 + 2 * t ∧ j = 1) ∨ (c = 136 + 2 * t ∧ j < b) ∨ (c = 153 ∧ j = t) ∨ (c = 152 ∧ 64 * t ≤ j ∧ j < 64 * t + b)) → M2.1 c j = V.1 c j := fun c j h => by
        by_cases hc : c < 151
        · rw [cl c j hc, if_neg (by omega), if_neg (by omega), v1 c j hc]
        · rw [rf c j (by omega), if_neg (by omega), if_neg (by omega), v2 c j (by omega)]
      have hr2 : M2.2.1 = V.2.1 := by
        rw [hV, h2]
        show M4.2.1 = M.2.1
        rw [hp.1]
        show M1.2.1 = _
        rw [er, hM]
        show M3.2.1 = _
        rw [hq.1.1]
      refine ⟨?_, zJ_k JV hr2 (fun kt2 u hu => ?_) (zJc_c (fun c j h => hF c j (by omega)) (fun c _ => by rw [hr2])) (zJr2_c (fun s hs => hF _ _ (by omega)) (fun s j hs => hF _ _ (by omega)) (fun j => hF _ _ (by omega)) (fun j => hF _ _ (by omega))) (zJe_c (fun s i j _ _ _ _ => hF _ _ (by omega)) (fun c j _ _ => hF _ _ (by omega))) (zJf_c (fun s j _ _ => hF _ _ (by omega)) (fun s c j _ _ _ => hF _ _ (by omega)) (fun c j _ _ => hF _ _ (by omega))) (zJm_c (fun s j _ _ => hF _ _ (by omega)) (fun c j _ _ => hF _ _ (by omega))) (zJb_c (fun j _ => hF _ _ (by omega)) (fun s j _ => hF _ _ (by omega)) (hF _ _ (by omega)) (fun j => hF _ _ (by omega))), fun _ => ?_⟩
      · rw [rf _ _ (by decide), if_neg (by omega), if_neg (by omega), o4 _ _ (by omega) (by omega), zui_f, if_pos ⟨rfl, rfl⟩]
      · obtain ⟨w1, w2, w3, w4⟩ := kt2 u hu
        by_cases e : u = t
        · subst e
          have y1 : M2.1 153 u = nI b := by rw [rf _ _ (by decide), if_pos ⟨rfl, rfl⟩]
          have y2 : M2.1 (135 + 2 * u) 1 = nI b := by rw [cl _ _ (by omega), if_pos ⟨rfl, rfl⟩]
          rw [y1, y2]
          refine ⟨rfl, by omega, by omega, fun i hi => ?_⟩
          by_cases hi' : i < b
          · have hrow : M3.1 (30 + 14 * sn) (a + i) = M4.1 181 (64 * sn + i) := by
              have h181 := hp.2.2.2.2.2.2 (64 * sn + i) (by omega)
              rw [h181, if_pos (by omega), show (64 * sn + i) / 64 = sn by omega, show (64 * sn + i) % 64 = i by omega]
              exact Int32.toInt_inj.mp (by rw [show 1024 * sn + a + i = 1024 * sn + (a + i) by omega]; exact zY_row hY 8 sn (by omega) (zk_8 kno (by omega)) (a + i) (by omega))
            have y3 : M2.1 152 (64 * u + i) = zg_c16 (M4.1 181 (64 * sn + i)) := by
              rw [rf _ _ (by decide), if_neg (by omega), if_pos ⟨rfl, by omega, by omega⟩, show 64 * u + i - 64 * u = i by omega]
            have y4 : M2.1 (136 + 2 * u) i = zf_clip (M3.1 (30 + 14 * sn) (a + i)) := by
              rw [cl _ _ (by omega), if_neg (by omega), if_pos ⟨rfl, hi'⟩]
            rw [y3, y4, hrow]
            exact zg_c16_eq _
          · rw [hF _ _ (by omega), hF 152 _ (by omega)]
            exact w4 i hi
        · rw [hF _ _ (by omega), hF 153 _ (by omega)]
          refine ⟨w1, w2, w3, fun i hi => ?_⟩
          rw [hF _ _ (by omega), hF 152 _ (by omega)]
          exact w4 i hi
      · rw [h2]
        show M4.2.2 182 0 = _
        rw [hp.1]
        exact eL
  · rcases h2 with ⟨-, h2⟩ | ⟨h, -⟩
    · subst h2
      exact ⟨by rw [zui_f, if_pos ⟨rfl, rfl⟩], zJ_same hJ rfl (fun c j h => by rw [zui_f, if_neg h]), fun h => absurd h (by decide)⟩
    · exact absurd g h
end ZR

/-! One call on both sides: point. -/
section ZS
variable {M M1 M2 : zm_T}
def zJ_fn (M : zm_T) (a : Nat) : Nat := (M.1 169 a).toNatClampNeg
theorem zJ_f1 (kf : zJf M) {a : Nat} (ha : a < 8) : zJf1 M a (zJ_fn M a) := by
  obtain ⟨n, h⟩ := kf.1 a ha
  have : zJ_fn M a = n := by
    unfold zJ_fn
    rw [h.1.1, zn_cl (by have := h.1.2.1; omega)]
  rw [this]
  exact h
/-- a list of points of strip s in the memory M', by their numbers -/
theorem zJf1_new {M' : zm_T} {s n : Nat} {T V J : Nat → Int32} {re : Int32} (hn : n ≤ 8) (h169 : M'.1 169 s = nI n) (h3 : M'.1 (25 + 14 * s) 3 = nI n) (h168 : M'.1 168 s = re) (h4 : M'.1 (25 + 14 * s) 4 = re)
    (hT : ∀ i, i < n → M'.1 170 (8 * s + i) = T i ∧ M'.1 (26 + 14 * s) i = T i) (hV : ∀ i, i < n → M'.1 171 (8 * s + i) = V i ∧ M'.1 (27 + 14 * s) i = V i) (hJ : ∀ i, i < n → M'.1 172 (8 * s + i) = J i ∧ M'.1 (28 + 14 * s) i = J i)
    (q1 : ∀ i, i < n → 0 ≤ (T i).toInt ∧ (T i).toInt ≤ 1023) (q2 : ∀ i j, i < j → j < n → (T i).toInt < (T j).toInt) (q3 : ∀ i, i < n → 0 ≤ (V i).toInt ∧ (V i).toInt ≤ 1024) (q4 : ∀ i, i < n → J i = 0 ∨ J i = 1) (q5 : 0 ≤ re.toInt ∧ re.toInt ≤ 1024) : zJf1 M' s n := by
  refine ⟨⟨h169, hn, fun i hi => ?_, fun i j hij hj => ?_, fun i hi => ?_, fun i hi => ?_, ?_⟩, h3, by rw [h4, h168], fun i hi => ⟨by rw [(hT i hi).1, (hT i hi).2], by rw [(hV i hi).1, (hV i hi).2], by rw [(hJ i hi).1, (hJ i hi).2]⟩⟩
  · unfold zG_T; rw [(hT i hi).1]; exact q1 i hi
  · unfold zG_T; rw [(hT i (by omega)).1, (hT j hj).1]; exact q2 i j hij hj
  · unfold zG_V; rw [(hV i hi).1]; exact q3 i hi
  · unfold zG_J; rw [(hJ i hi).1]
    rcases q4 i hi with h | h <;> rw [h]
    · exact Or.inl (by decide)
    · exact Or.inr (by decide)
  · rw [h168]; exact q5
theorem s_point {sv t lv jn k rb : Int32} (hJ : zJ M) (hj : jn = 0 ∨ jn = 1)
    (h1 : (k = 0 ∧ ∃ (r : Int32) (M0 : zm_T), (zv_pt sv t lv = 0 ∧ ∃ a, a < 8 ∧ sv = nI a ∧ ∃ c : Nat, c ≤ zJ_fn M a ∧ (∀ i, i < c → M.1 (26 + 14 * a) i < t) ∧ (c < zJ_fn M a → t ≤ M.1 (26 + 14 * a) c) ∧ ((r = 0 ∧ M0 = M ∧ zJ_fn M a = 8 ∧ ¬ (c < zJ_fn M a ∧ M.1 (26 + 14 * a) c = t)) ∨ (r = 1 ∧ zF_put M M0 (25 + 14 * a) (26 + 14 * a) (27 + 14 * a) (28 + 14 * a) (zJ_fn M a) c t lv jn))) ∧ M1 = zm_ul M0 182 0 (if r = 0 then 0 else 1)) ∨ (M1 = M ∧ ((k = 1 ∧ (zv_pt sv t lv = 1)))))
    (h2 : (zv_pt sv t lv = 1 ∧ M2 = zm_ui M1 151 0 1) ∨ (zv_pt sv t lv = 0 ∧ ∃ s n c, s < 8 ∧ sv = nI s ∧ n ≤ 8 ∧ M1.1 169 s = nI n ∧ c ≤ n ∧ (∀ i, i < c → M1.1 170 (8 * s + i) < t) ∧ (c < n → t ≤ M1.1 170 (8 * s + c)) ∧ ((rb = 0 ∧ n = 8 ∧ ¬ (c < n ∧ M1.1 170 (8 * s + c) = t) ∧ M2 = zm_ui M1 151 0 0) ∨ (rb = 1 ∧ (c < n ∧ M1.1 170 (8 * s + c) = t) ∧ M2 = zG_put (zm_ui M1 151 0 0) s c t lv jn n) ∨ (rb = 1 ∧ n < 8 ∧ ¬ (c < n ∧ M1.1 170 (8 * s + c) = t) ∧ M2 = zG_put (zG_sh (zm_ui M1 151 0 0) s c n) s c t lv jn (n + 1))))) :
    M2.1 151 0 = k ∧ zJ M2 ∧ (k = 0 → M2.2.2 182 0 = if rb = 0 then 0 else 1) := by
  rcases h1 with ⟨rfl, r, M0, ⟨g0, a, ha, e1, c, hc1, hc2, hc3, g⟩, g1⟩ | ⟨rfl, rfl, g⟩
  · rcases h2 with ⟨h, -⟩ | ⟨-, s, n, c', hs, e2, hn8, h169, x1, x2, x3, h2⟩
    · rw [g0] at h; exact absurd h (by decide)
    obtain ⟨k0, kt, kc, kr, ke, kf, km, kb⟩ := id hJ
    have eas : a = s := by
      have : (nI a).toInt = (nI s).toInt := by rw [← e1, e2]
      rw [nI_toInt (by omega), nI_toInt (by omega)] at this
      omega
    subst eas
    have e0 : M1.1 = M0.1 := by rw [g1]; rfl
    have eL : M1.2.2 182 0 = (if r = 0 then 0 else 1) := by rw [g1]; exact zul_at
    have er : M1.2.1 = M0.2.1 := by rw [g1]; rfl
    have eR : ∀ d j, 151 ≤ d → M1.1 d j = M.1 d j := fun d j h => by
      rw [e0]
      rcases g with ⟨-, rfl, -⟩ | ⟨-, -, hp, -⟩
      · rfl
      · exact hp d j (by omega) (by omega) (by omega) (Or.inl (by omega))
    obtain ⟨⟨f0, v1, v2, v3, v4, v5, v6, v7⟩, f1, f2, f3⟩ := zJ_f1 kf ha
    have enn : zJ_fn M a = n := by
      rw [eR _ _ (by decide), f0] at h169
      have : (nI (zJ_fn M a)).toInt = (nI n).toInt := by rw [h169]
      rw [nI_toInt (by omega), nI_toInt (by omega)] at this
      omega
    rw [enn] at hc1 hc3 g v1 v2 v3 v4 v5 f0 f1 f3
    have ecc : c = c' := by
      by_cases hlt : c < c'
      · have y1 := x2 c hlt
        have y2 := hc3 (by omega)
        rw [(f3 c (by omega)).1] at y2
        rw [eR _ _ (by decide)] at y1
        exact absurd y1 (Int32.not_lt.mpr y2)
      · by_cases hgt : c' < c
        · have y1 := hc2 c' hgt
          have y2 := x3 (by omega)
          rw [(f3 c' (by omega)).1] at y1
          rw [eR _ _ (by decide)] at y2
          exact absurd y1 (Int32.not_lt.mpr y2)
        · omega
    subst ecc
    have hsame : (c < n ∧ M1.1 170 (8 * a + c) = t) ↔ (c < n ∧ M.1 (26 + 14 * a) c = t) := by
      constructor
      · rintro ⟨h, h'⟩; rw [eR _ _ (by decide)] at h'; exact ⟨h, by rw [(f3 c h).1]; exact h'⟩
      · rintro ⟨h, h'⟩; rw [(f3 c h).1] at h'; exact ⟨h, by rw [eR _ _ (by decide)]; exact h'⟩
    rw [hsame] at h2
    have b1 : ¬ zf_in sv 0 7 = 0 := fun h => by rw [zv_pt, if_pos h] at g0; exact absurd g0 (by decide)
    have b2 : ¬ zf_in t 0 1023 = 0 := fun h => by rw [zv_pt, if_neg b1, if_pos h] at g0; exact absurd g0 (by decide)
    have b3 : ¬ zf_in lv 0 1024 = 0 := fun h => by rw [zv_pt, if_neg b1, if_neg b2, if_pos h] at g0; exact absurd g0 (by decide)
    have b2' := zt_in.mp b2
    have b3' := zt_in.mp b3
    rw [zn_0, show (1023 : Int32).toInt = 1023 from by decide] at b2'
    rw [zn_0, show (1024 : Int32).toInt = 1024 from by decide] at b3'
    -- once both have put the point: n' points, T V J
    have fin : ∀ (n' : Nat) (T V J : Nat → Int32), r = 1 → rb = 1 → n' ≤ 8 → M2.2 = M1.2 → M0.2 = M.2 → (∀ d j, ¬ ((d = 151 ∧ j = 0) ∨ (d = 169 ∧ j = a) ∨ (170 ≤ d ∧ d ≤ 172 ∧ 8 * a ≤ j ∧ j < 8 * a + 8) ∨ (d = 25 + 14 * a ∧ j = 3) ∨ (26 + 14 * a ≤ d ∧ d ≤ 28 + 14 * a)) → M2.1 d j = M.1 d j) → M2.1 151 0 = 0 → M2.1 169 a = nI n' → M2.1 (25 + 14 * a) 3 = nI n' →
        (∀ i, i < n' → M2.1 170 (8 * a + i) = T i ∧ M2.1 (26 + 14 * a) i = T i) → (∀ i, i < n' → M2.1 171 (8 * a + i) = V i ∧ M2.1 (27 + 14 * a) i = V i) → (∀ i, i < n' → M2.1 172 (8 * a + i) = J i ∧ M2.1 (28 + 14 * a) i = J i) →
        (∀ i, i < n' → 0 ≤ (T i).toInt ∧ (T i).toInt ≤ 1023) → (∀ i j, i < j → j < n' → (T i).toInt < (T j).toInt) → (∀ i, i < n' → 0 ≤ (V i).toInt ∧ (V i).toInt ≤ 1024) → (∀ i, i < n' → J i = 0 ∨ J i = 1) → (∀ i, i < 8 → M2.1 172 (8 * a + i) = 0 ∨ M2.1 172 (8 * a + i) = 1) → M2.1 151 0 = 0 ∧ zJ M2 ∧ ((0 : Int32) = 0 → M2.2.2 182 0 = if rb = 0 then 0 else 1) := by
      intro n' T V J hr1 hrb hn' hm2 hm0 hF h151 q169 q3 qT qV qJ p1 p2 p3 p4 pJ
      have hr2 : M2.2.1 = M.2.1 := by rw [hm2, er, hm0]
      refine ⟨h151, zJ_k hJ hr2 (zJt_c (fun c j h => hF c j (by omega))) (zJc_c (fun c j h => hF c j (by omega)) (fun c _ => by rw [hr2])) (zJr2_c (fun s hs => hF _ _ (by omega)) (fun s j hs => hF _ _ (by omega)) (fun j => hF _ _ (by omega)) (fun j => hF _ _ (by omega))) (zJe_c (fun s i j _ _ _ _ => hF _ _ (by omega)) (fun c j _ _ => hF _ _ (by omega))) (fun _ => ⟨fun u hu => ?_, fun j hj => ?_⟩) (zJm_c (fun s j _ _ => hF _ _ (by omega)) (fun c j _ _ => hF _ _ (by omega))) (zJb_c (fun j _ => hF _ _ (by omega)) (fun s j _ => hF _ _ (by omega)) (hF _ _ (by omega)) (fun j => hF _ _ (by omega))), fun _ => by rw [hm2, eL, hr1, hrb]⟩
      · by_cases e : u = a
        · subst e
          exact ⟨n', zJf1_new hn' q169 q3 (hF 168 u (by omega)) ((hF _ _ (by omega)).trans f2) qT qV qJ p1 p2 p3 p4 ⟨v6, v7⟩⟩
        · obtain ⟨m, hm⟩ := kf.1 u hu
          exact ⟨m, zJf1_c (fun j hj => hF _ _ (by omega)) (fun c j _ _ => hF _ _ (by omega)) (fun c _ _ => hF _ _ (by omega)) (fun c i _ _ _ => hF _ _ (by omega)) hm⟩
      · by_cases e : 8 * a ≤ j ∧ j < 8 * a + 8
        · have := pJ (j - 8 * a) (by omega)
          rw [show 8 * a + (j - 8 * a) = j by omega] at this
          exact this
        · rw [hF _ _ (by omega)]; exact kf.2 j hj
    have vT : ∀ i, i < n → 0 ≤ (M.1 170 (8 * a + i)).toInt ∧ (M.1 170 (8 * a + i)).toInt ≤ 1023 := v2
    have vS : ∀ i j, i < j → j < n → (M.1 170 (8 * a + i)).toInt < (M.1 170 (8 * a + j)).toInt := v3
    have vV : ∀ i, i < n → 0 ≤ (M.1 171 (8 * a + i)).toInt ∧ (M.1 171 (8 * a + i)).toInt ≤ 1024 := v4
    have vJ : ∀ i, i < 8 → M.1 172 (8 * a + i) = 0 ∨ M.1 172 (8 * a + i) = 1 := fun i hi => kf.2 _ (by omega)
    have lo : ∀ i, i < c → (M.1 170 (8 * a + i)).toInt < t.toInt := fun i hi => by
      have := x2 i hi
      rw [eR _ _ (by decide), Int32.lt_iff_toInt_lt] at this
      exact this
    have hi' : ∀ i, c ≤ i → i < n → t.toInt ≤ (M.1 170 (8 * a + i)).toInt := fun i h1 h2 => by
      have := x3 (by omega)
      rw [eR _ _ (by decide), Int32.le_iff_toInt_le] at this
      by_cases e : i = c
      · rw [e]; exact this
      · have := vS c i (by omega) h2
        omega
    have zz : ∀ d j, 152 ≤ d → (zm_ui M1 151 0 0).1 d j = M.1 d j := fun d j hd => by rw [zui_f, if_neg (by omega), eR d j (by omega)]
    rcases g with ⟨rfl, hM, n8, nn⟩ | ⟨rfl, hp0, hp1, hp⟩
    · rcases h2 with ⟨rfl, -, -, h2⟩ | ⟨-, h, -⟩ | ⟨-, h, -⟩
      · subst h2
        exact ⟨by rw [zui_f, if_pos ⟨rfl, rfl⟩], zJ_same hJ (er.trans (by rw [hM])) (fun c j h => by rw [zui_f, if_neg h, e0, hM]), fun _ => eL⟩
      · exact absurd h nn
      · omega
    · rcases hp with ⟨y1, y2, y3, y4⟩ | ⟨y1, y2, y3, y4⟩
      · -- the point is there already
        rcases h2 with ⟨-, -, h, -⟩ | ⟨hrb, -, h2⟩ | ⟨-, -, h, -⟩
        · exact absurd ⟨y1, y2⟩ h
        · have et : M.1 170 (8 * a + c) = t := by rw [← (f3 c y1).1]; exact y2
          have rr : ∀ d j, 152 ≤ d → M2.1 d j = if d = 169 ∧ j = a then nI n else if d = 172 ∧ j = 8 * a + c then jn else if d = 171 ∧ j = 8 * a + c then lv else if d = 170 ∧ j = 8 * a + c then t else M.1 d j := fun d j hd => by
            rw [h2]
            show (if d = 169 ∧ j = a then nI n else if d = 172 ∧ j = 8 * a + c then jn else if d = 171 ∧ j = 8 * a + c then lv else if d = 170 ∧ j = 8 * a + c then t else (zm_ui M1 151 0 0).1 d j) = _
            rw [zz d j hd]
          have cl : ∀ d j, d < 151 → M2.1 d j = M0.1 d j := fun d j hd => by
            rw [h2]
            unfold zG_put
            rw [zui_f, if_neg (by omega), zui_f, if_neg (by omega), zui_f, if_neg (by omega), zui_f, if_neg (by omega), zui_f, if_neg (by omega), e0]
          have m151 : ∀ j, M2.1 151 j = if j = 0 then 0 else M.1 151 j := fun j => by
            rw [h2]
            unfold zG_put
            rw [zui_f, if_neg (by omega), zui_f, if_neg (by omega), zui_f, if_neg (by omega), zui_f, if_neg (by omega), zui_f]
            by_cases e : j = 0
            · rw [if_pos ⟨rfl, e⟩, if_pos e]
            · rw [if_neg (by omega), if_neg e, eR _ _ (by decide)]
          refine fin n (fun i => M.1 170 (8 * a + i)) (fun i => if i = c then lv else M.1 171 (8 * a + i)) (fun i => if i = c then jn else M.1 172 (8 * a + i)) rfl hrb hn8 (by rw [h2]; rfl) hp0 (fun d j h => ?_) (by rw [m151, if_pos rfl]) (by rw [rr _ _ (by decide), if_pos ⟨rfl, rfl⟩]) (by rw [cl _ _ (by omega)]; exact y3) (fun i hi => ?_) (fun i hi => ?_) (fun i hi => ?_) vT vS (fun i hi => ?_) (fun i hi => ?_) (fun i hi => ?_)
          · by_cases h5 : d < 151
            · rw [cl d j h5, hp1 d j (by omega) (by omega) (by omega) (by omega)]
            · by_cases h6 : d = 151
              · rw [h6, m151, if_neg (by omega)]
              · rw [rr d j (by omega), if_neg (by omega), if_neg (by omega), if_neg (by omega), if_neg (by omega)]
          · refine ⟨?_, ?_⟩
            · rw [rr _ _ (by decide), if_neg (by omega), if_neg (by omega), if_neg (by omega)]
              by_cases e : i = c
              · rw [if_pos ⟨rfl, by omega⟩, e, et]
              · rw [if_neg (by omega)]
            · rw [cl _ _ (by omega), (y4 i).1]
              by_cases e : i = c
              · rw [if_pos e, e, et]
              · rw [if_neg e, (f3 i hi).1]
          · refine ⟨?_, ?_⟩
            · rw [rr _ _ (by decide), if_neg (by omega), if_neg (by omega)]
              by_cases e : i = c
              · rw [if_pos ⟨rfl, by omega⟩, if_pos e]
              · rw [if_neg (by omega), if_neg e, if_neg (by omega)]
            · rw [cl _ _ (by omega), (y4 i).2.1]
              by_cases e : i = c
              · rw [if_pos e, if_pos e]
              · rw [if_neg e, if_neg e, (f3 i hi).2.1]
          · refine ⟨?_, ?_⟩
            · rw [rr _ _ (by decide), if_neg (by omega)]
              by_cases e : i = c
              · rw [if_pos ⟨rfl, by omega⟩, if_pos e]
              · rw [if_neg (by omega), if_neg e, if_neg (by omega), if_neg (by omega)]
            · rw [cl _ _ (by omega), (y4 i).2.2]
              by_cases e : i = c
              · rw [if_pos e, if_pos e]
              · rw [if_neg e, if_neg e, (f3 i hi).2.2]
          · show 0 ≤ (if i = c then lv else M.1 171 (8 * a + i)).toInt ∧ _
            by_cases e : i = c
            · simp only [if_pos e]; exact b3'
            · simp only [if_neg e]; exact vV i hi
          · by_cases e : i = c
            · simp only [if_pos e]; exact hj
            · simp only [if_neg e]; exact vJ i (by omega)
          · rw [rr _ _ (by decide), if_neg (by omega)]
            by_cases e : i = c
            · rw [if_pos ⟨rfl, by omega⟩]; exact hj
            · rw [if_neg (by omega), if_neg (by omega), if_neg (by omega)]; exact vJ i hi
        · exact absurd ⟨y1, y2⟩ h
      · rcases h2 with ⟨-, h, -⟩ | ⟨-, h, -⟩ | ⟨hrb, -, -, h2⟩
        · omega
        · exact absurd h y1
        · have ne : c < n → t.toInt < (M.1 170 (8 * a + c)).toInt := fun h => by
            have h5 := hi' c (by omega) h
            have h6 : ¬ t.toInt = (M.1 170 (8 * a + c)).toInt := fun e => y1 ⟨h, by rw [(f3 c h).1]; exact (Int32.toInt_inj.mp e).symm⟩
            omega
          have rr : ∀ d j, 152 ≤ d → M2.1 d j = if d = 169 ∧ j = a then nI (n + 1) else if d = 172 ∧ j = 8 * a + c then jn else if d = 171 ∧ j = 8 * a + c then lv else if d = 170 ∧ j = 8 * a + c then t else if (d = 170 ∨ d = 171 ∨ d = 172) ∧ 8 * a + c < j ∧ j ≤ 8 * a + n then M.1 d (j - 1) else M.1 d j := fun d j hd => by
            rw [h2]
            show (if d = 169 ∧ j = a then nI (n + 1) else if d = 172 ∧ j = 8 * a + c then jn else if d = 171 ∧ j = 8 * a + c then lv else if d = 170 ∧ j = 8 * a + c then t else if (d = 170 ∨ d = 171 ∨ d = 172) ∧ 8 * a + c < j ∧ j ≤ 8 * a + n then (zm_ui M1 151 0 0).1 d (j - 1) else (zm_ui M1 151 0 0).1 d j) = _
            rw [zz d j hd, zz d (j - 1) hd]
          have cl : ∀ d j, d < 151 → M2.1 d j = M0.1 d j := fun d j hd => by
            rw [h2]
            unfold zG_put
            rw [zui_f, if_neg (by omega), zui_f, if_neg (by omega), zui_f, if_neg (by omega), zui_f, if_neg (by omega)]
            show (if (d = 170 ∨ d = 171 ∨ d = 172) ∧ 8 * a + c < j ∧ j ≤ 8 * a + n then (zm_ui M1 151 0 0).1 d (j - 1) else (zm_ui M1 151 0 0).1 d j) = _
            rw [if_neg (by omega), zui_f, if_neg (by omega), e0]
          have m151 : ∀ j, M2.1 151 j = if j = 0 then 0 else M.1 151 j := fun j => by
            rw [h2]
            unfold zG_put
            rw [zui_f, if_neg (by omega), zui_f, if_neg (by omega), zui_f, if_neg (by omega), zui_f, if_neg (by omega)]
            show (if (151 = 170 ∨ 151 = 171 ∨ 151 = 172) ∧ 8 * a + c < j ∧ j ≤ 8 * a + n then (zm_ui M1 151 0 0).1 151 (j - 1) else (zm_ui M1 151 0 0).1 151 j) = _
            rw [if_neg (by omega), zui_f]
            by_cases e : j = 0
            · rw [if_pos ⟨rfl, e⟩, if_pos e]
            · rw [if_neg (by omega), if_neg e, eR _ _ (by decide)]
          have ins : ∀ (f : Nat → Int32) (x : Int32) (i : Nat), (if i < c then f i else if i = c then x else f (i - 1)) = if i = c then x else if c < i then f (i - 1) else f i := fun f x i => by
            by_cases h5 : i < c
            · rw [if_pos h5, if_neg (by omega), if_neg (by omega)]
            · rw [if_neg h5]
              by_cases h6 : i = c
              · rw [if_pos h6, if_pos h6]
              · rw [if_neg h6, if_neg h6, if_pos (by omega)]
          refine fin (n + 1) (fun i => if i = c then t else if c < i then M.1 170 (8 * a + (i - 1)) else M.1 170 (8 * a + i)) (fun i => if i = c then lv else if c < i then M.1 171 (8 * a + (i - 1)) else M.1 171 (8 * a + i)) (fun i => if i = c then jn else if c < i then M.1 172 (8 * a + (i - 1)) else M.1 172 (8 * a + i)) rfl hrb (by omega) (by rw [h2]; rfl) hp0 (fun d j h => ?_) (by rw [m151, if_pos rfl]) (by rw [rr _ _ (by decide), if_pos ⟨rfl, rfl⟩]) (by rw [cl _ _ (by omega)]; exact y3) (fun i hi => ?_) (fun i hi => ?_) (fun i hi => ?_) (fun i hi => ?_) (fun i j hij hj => ?_) (fun i hi => ?_) (fun i hi => ?_) (fun i hi => ?_)
          · by_cases h5 : d < 151
            · rw [cl d j h5, hp1 d j (by omega) (by omega) (by omega) (by omega)]
            · by_cases h6 : d = 151
              · rw [h6, m151, if_neg (by omega)]
              · rw [rr d j (by omega), if_neg (by omega), if_neg (by omega), if_neg (by omega), if_neg (by omega), if_neg (by omega)]
          · refine ⟨?_, ?_⟩
            · rw [rr _ _ (by decide), if_neg (by omega), if_neg (by omega), if_neg (by omega)]
              by_cases e : i = c
              · rw [if_pos ⟨rfl, by omega⟩, if_pos e]
              · rw [if_neg (by omega), if_neg e]
                by_cases e' : c < i
                · rw [if_pos (by omega), if_pos e', show 8 * a + i - 1 = 8 * a + (i - 1) by omega]
                · rw [if_neg (by omega), if_neg e']
            · rw [cl _ _ (by omega), (y4 i (by omega)).1, ins (M.1 (26 + 14 * a))]
              by_cases e : i = c
              · rw [if_pos e, if_pos e]
              · rw [if_neg e, if_neg e]
                by_cases e' : c < i
                · rw [if_pos e', if_pos e', (f3 (i - 1) (by omega)).1]
                · rw [if_neg e', if_neg e', (f3 i (by omega)).1]
          · refine ⟨?_, ?_⟩
            · rw [rr _ _ (by decide), if_neg (by omega), if_neg (by omega)]
              by_cases e : i = c
              · rw [if_pos ⟨rfl, by omega⟩, if_pos e]
              · rw [if_neg (by omega), if_neg (by omega), if_neg e]
                by_cases e' : c < i
                · rw [if_pos (by omega), if_pos e', show 8 * a + i - 1 = 8 * a + (i - 1) by omega]
                · rw [if_neg (by omega), if_neg e']
            · rw [cl _ _ (by omega), (y4 i (by omega)).2.1, ins (M.1 (27 + 14 * a))]
              by_cases e : i = c
              · rw [if_pos e, if_pos e]
              · rw [if_neg e, if_neg e]
                by_cases e' : c < i
                · rw [if_pos e', if_pos e', (f3 (i - 1) (by omega)).2.1]
                · rw [if_neg e', if_neg e', (f3 i (by omega)).2.1]
          · refine ⟨?_, ?_⟩
            · rw [rr _ _ (by decide), if_neg (by omega)]
              by_cases e : i = c
              · rw [if_pos ⟨rfl, by omega⟩, if_pos e]
              · rw [if_neg (by omega), if_neg (by omega), if_neg (by omega), if_neg e]
                by_cases e' : c < i
                · rw [if_pos (by omega), if_pos e', show 8 * a + i - 1 = 8 * a + (i - 1) by omega]
                · rw [if_neg (by omega), if_neg e']
            · rw [cl _ _ (by omega), (y4 i (by omega)).2.2, ins (M.1 (28 + 14 * a))]
              by_cases e : i = c
              · rw [if_pos e, if_pos e]
              · rw [if_neg e, if_neg e]
                by_cases e' : c < i
                · rw [if_pos e', if_pos e', (f3 (i - 1) (by omega)).2.2]
                · rw [if_neg e', if_neg e', (f3 i (by omega)).2.2]
          · by_cases e : i = c
            · simp only [if_pos e]; exact b2'
            · simp only [if_neg e]
              by_cases e' : c < i
              · simp only [if_pos e']; exact vT (i - 1) (by omega)
              · simp only [if_neg e']; exact vT i (by omega)
          · by_cases e : i = c
            · simp only [if_pos e]
              rw [if_neg (by omega), if_pos (by omega)]
              by_cases e3 : j - 1 = c
              · rw [e3]; exact ne (by omega)
              · have h5 := vS c (j - 1) (by omega) (by omega)
                have h6 := ne (by omega)
                omega
            · simp only [if_neg e]
              by_cases e' : c < i
              · simp only [if_pos e']
                rw [if_neg (by omega), if_pos (by omega)]
                exact vS (i - 1) (j - 1) (by omega) (by omega)
              · simp only [if_neg e']
                by_cases e2 : j = c
                · simp only [if_pos e2]; exact lo i (by omega)
                · simp only [if_neg e2]
                  by_cases e3 : c < j
                  · simp only [if_pos e3]
                    by_cases e4 : i = j - 1
                    · exfalso; omega
                    · exact vS i (j - 1) (by omega) (by omega)
                  · simp only [if_neg e3]; exact vS i j hij (by omega)
          · by_cases e : i = c
            · simp only [if_pos e]; exact b3'
            · simp only [if_neg e]
              by_cases e' : c < i
              · simp only [if_pos e']; exact vV (i - 1) (by omega)
              · simp only [if_neg e']; exact vV i (by omega)
          · by_cases e : i = c
            · simp only [if_pos e]; exact hj
            · simp only [if_neg e]
              by_cases e' : c < i
              · simp only [if_pos e']; exact vJ (i - 1) (by omega)
              · simp only [if_neg e']; exact vJ i (by omega)
          · rw [rr _ _ (by decide), if_neg (by omega)]
            by_cases e : i = c
            · rw [if_pos ⟨rfl, by omega⟩]; exact hj
            · rw [if_neg (by omega), if_neg (by omega), if_neg (by omega)]
              by_cases e' : c < i ∧ i ≤ n
              · rw [if_pos (by omega), show 8 * a + i - 1 = 8 * a + (i - 1) by omega]; exact vJ (i - 1) (by omega)
              · rw [if_neg (by omega)]; exact vJ i hi
  · rcases h2 with ⟨-, h2⟩ | ⟨h, -⟩
    · subst h2
      exact ⟨by rw [zui_f, if_pos ⟨rfl, rfl⟩], zJ_same hJ rfl (fun c j h => by rw [zui_f, if_neg h]), fun h => absurd h (by decide)⟩
    · rw [g] at h; exact absurd h (by decide)
end ZS

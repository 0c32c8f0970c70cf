/-! One call on both sides: clip, move. -/
section ZS
variable {M M1 M2 : zm_T}
theorem zJ_lk {tr a n x : Int32} {e : Nat} (hJ : zJc1 M e) : zu_lk M tr a n x e ↔ zg_tk M tr a n x e := by
  unfold zu_lk zf_lies zg_tk
  rcases hJ with ⟨k1, k2⟩ | ⟨k1, t', tr', a', f', n', lv', i', o', ⟨-, -, -, c3, c4, -, c6, c7, c8, c9, -⟩, -, k3, k4, -, k5, -⟩
  · rw [k1, k2]
    constructor
    · rintro ⟨-, h⟩; rw [if_pos (by decide)] at h; exact absurd h (by decide)
    · rintro ⟨h, -⟩; exact absurd rfl h
  · rw [k1, k3, k4, k5, c3, c4, c6, if_neg (by rw [Int32.le_iff_toInt_le, nI_toInt (by omega), zn_0]; omega)]
    constructor
    · rintro ⟨h0, h⟩
      by_cases g1 : nI tr' = tr
      · rw [if_neg (fun h => h g1)] at h
        by_cases g2 : a + n ≤ nI a'
        · rw [if_pos g2] at h; exact absurd h (by decide)
        · rw [if_neg g2] at h
          by_cases g3 : nI a' + nI n' ≤ a
          · rw [if_pos g3] at h; exact absurd h (by decide)
          · exact ⟨by decide, h0, g1, g3, g2⟩
      · rw [if_pos g1] at h; exact absurd h (by decide)
    · rintro ⟨-, h0, g1, g3, g2⟩
      exact ⟨h0, by rw [if_neg (fun h => h g1), if_neg g2, if_neg g3]⟩
theorem zJ_lks {tr a n x : Int32} (hJ : zJc M) : (∃ e, e < 16 ∧ zu_lk M tr a n x e) ↔ (∃ e, e < 16 ∧ zg_tk M tr a n x e) :=
  ⟨fun ⟨e, h, h'⟩ => ⟨e, h, (zJ_lk (hJ e h)).mp h'⟩, fun ⟨e, h, h'⟩ => ⟨e, h, (zJ_lk (hJ e h)).mpr h'⟩⟩
theorem zJ_free {e : Nat} (hJ : zJc1 M e) : M.1 (4 + e) 4 = 0 ↔ M.1 154 e = 0 := by
  rcases hJ with ⟨k1, k2⟩ | ⟨k1, t', tr', a', f', n', lv', i', o', ⟨-, -, -, c3, c4, -, c6, c7, c8, c9, -⟩, -, k3, k4, -, k5, -⟩
  · rw [k1, k2]
  · rw [k1, k5]
    constructor
    · intro h
      have : (nI n').toInt = (0 : Int32).toInt := by rw [h]
      rw [nI_toInt (by omega), zn_0] at this
      omega
    · intro h; exact absurd h (by decide)
theorem zJ_fr {d d' : Nat} (hJ : zJc M) (h : zf_fr M d) (h' : zg_fr M d') : d = d' := by
  obtain ⟨a1, a2, a3⟩ := h
  obtain ⟨b1, b2, b3⟩ := h'
  by_cases hlt : d < d'
  · exact absurd ((zJ_free (hJ d (by omega))).mp (a3 (by omega))) (b2 d hlt)
  · by_cases hgt : d' < d
    · exact absurd ((zJ_free (hJ d' (by omega))).mpr (b3 (by omega))) (a2 d' hgt)
    · omega
theorem zg_fr_c {d : Nat} (h : ∀ j, M2.1 154 j = M.1 154 j) (k : zg_fr M2 d) : zg_fr M d := by
  unfold zg_fr at *
  simp only [h] at k
  exact k
theorem zg_tk_c {t x n o : Int32} {c : Nat} (h : ∀ d, 154 ≤ d → d ≤ 162 → M2.1 d c = M.1 d c) : zg_tk M2 t x n o c ↔ zg_tk M t x n o c := by
  unfold zg_tk
  rw [h 154 (by decide) (by decide), h 155 (by decide) (by decide), h 156 (by decide) (by decide), h 159 (by decide) (by decide)]
theorem zg_tks {t x n o : Int32} (h : ∀ d j, 154 ≤ d → d ≤ 162 → M2.1 d j = M.1 d j) : (∃ e, e < 16 ∧ zg_tk M2 t x n o e) ↔ (∃ e, e < 16 ∧ zg_tk M t x n o e) :=
  ⟨fun ⟨e, a, b⟩ => ⟨e, a, (zg_tk_c (fun d h1 h2 => h d e h1 h2)).mp b⟩, fun ⟨e, a, b⟩ => ⟨e, a, (zg_tk_c (fun d h1 h2 => h d e h1 h2)).mpr b⟩⟩
theorem s_clip {tr a t f n k rb : Int32} (hJ : zJ M) (h1 : (k = 0 ∧ ∃ (r : Int32) (M0 : zm_T), (¬ zv_bad tr a t f n ∧ ¬ M.1 (135 + 2 * t.toNatClampNeg) 1 - n < f ∧ ∃ d, zf_fr M d ∧ (((d = 16 ∨ ∃ e, e < 16 ∧ zu_lk M tr a n (-1) e) ∧ r = -1 ∧ M0 = M) ∨ (d < 16 ∧ (¬ ∃ e, e < 16 ∧ zu_lk M tr a n (-1) e) ∧ r = nI d ∧ M0 = zu_new M d tr a t.toNatClampNeg f n))) ∧ M1 = zm_ul M0 182 0 r.toInt64) ∨ (M1 = M ∧ ((k = 1 ∧ (zv_bad tr a t f n)) ∨ (k = 2 ∧ (¬ zv_bad tr a t f n ∧ M.1 (135 + 2 * t.toNatClampNeg) 1 - n < f)))))
    (h2 : ∃ v, zv_clp M1 tr a t f n v ∧ ((¬ v = 0 ∧ M2 = zm_ui M1 151 0 v) ∨ (v = 0 ∧ ∃ d, zg_fr M1 d ∧ (((d = 16 ∨ ∃ e, e < 16 ∧ zg_tk M1 tr a n (-1) e) ∧ rb = -1 ∧ M2 = zm_ui M1 151 0 0) ∨ (d < 16 ∧ ¬ (∃ e, e < 16 ∧ zg_tk M1 tr a n (-1) e) ∧ rb = nI d ∧ M2 = zg_new (zm_ui M1 151 0 0) d tr a t f n))))) :
    M2.1 151 0 = k ∧ zJ M2 ∧ (k = 0 → M2.2.2 182 0 = rb.toInt64) := by
  obtain ⟨k0, kt, kc, kr, ke, kf, km, kb⟩ := id hJ
  have eR : ∀ c j, 151 ≤ c → M1.1 c j = M.1 c j := fun c j h => by
    rcases h1 with ⟨-, r, M0, ⟨-, -, d, hd, g⟩, rfl⟩ | ⟨rfl, -⟩
    · rcases g with ⟨-, -, rfl⟩ | ⟨d16, -, -, rfl⟩
      · rfl
      · show (zu_new M d tr a t.toNatClampNeg f n).1 c j = _
        unfold zu_new
        rw [zui_f, if_neg (by omega), zui_f, if_neg (by omega), zui_f, if_neg (by omega), zui_f, if_neg (by omega), zui_f, if_neg (by omega), zui_f, if_neg (by omega), zui_f, if_neg (by omega)]
        rfl
    · rfl
  have good : ¬ zv_bad tr a t f n → ¬ zf_in tr 0 3 = 0 ∧ ¬ zf_in a 0 1023 = 0 ∧ ¬ zf_in t 0 7 = 0 ∧ ¬ f < 0 ∧ ¬ zf_in n 1 (1024 - a) = 0 := fun h =>
    ⟨fun e => h (Or.inl e), fun e => h (Or.inr (Or.inl e)), fun e => h (Or.inr (Or.inr (Or.inl e))), fun e => h (Or.inr (Or.inr (Or.inr (Or.inl e)))), fun e => h (Or.inr (Or.inr (Or.inr (Or.inr e))))⟩
  have p1 : (1 : Int32).toInt = 1 := by decide
  have p3 : (3 : Int32).toInt = 3 := by decide
  have p1024 : (1024 : Int32).toInt = 1024 := by decide
  have p1023 : (1023 : Int32).toInt = 1023 := by decide
  have nums : ¬ zv_bad tr a t f n → t.toNatClampNeg ≤ 7 ∧ nI t.toNatClampNeg = t ∧ 0 ≤ tr.toInt ∧ tr.toInt ≤ 3 ∧ 0 ≤ a.toInt ∧ a.toInt ≤ 1023 ∧ 0 ≤ f.toInt ∧ 1 ≤ n.toInt ∧ n.toInt ≤ 1024 - a.toInt := fun h => by
    obtain ⟨b1, b2, b3, b4, b5⟩ := good h
    have c2 := zt_in.mp b2
    rw [zn_0, p1023] at c2
    have c1 := zt_in.mp b1
    rw [zn_0, p3] at c1
    have c5 := zt_in.mp b5
    rw [p1, zn_sub (by rw [p1024]; omega) (by rw [p1024]; omega), p1024] at c5
    rw [Int32.lt_iff_toInt_lt, zn_0] at b4
    have c3 := zi_s (i := 0) (n := 7) (by decide) b3
    exact ⟨c3.1, c3.2, c1.1, c1.2, c2.1, c2.2, by omega, c5.1, c5.2⟩
  have hc2 : ¬ zv_bad tr a t f n → ((M1.1 153 t.toNatClampNeg = 0 ∨ M1.1 153 t.toNatClampNeg < n ∨ M1.1 153 t.toNatClampNeg - n < f) ↔ M.1 (135 + 2 * t.toNatClampNeg) 1 - n < f) := fun h => by
    obtain ⟨t7, -, -, -, a0, a2, f0, n1, n2⟩ := nums h
    obtain ⟨q1, q2, q3, -⟩ := kt t.toNatClampNeg (by omega)
    rw [eR _ _ (by decide), q1, Int32.lt_iff_toInt_lt, Int32.lt_iff_toInt_lt, zn_sub (by omega) (by omega)]
    constructor
    · rintro (e | e | e)
      · rw [e, zn_0]; omega
      · omega
      · exact e
    · intro e; exact Or.inr (Or.inr e)
  obtain ⟨v, hv, h2⟩ := h2
  rcases h1 with ⟨rfl, r, M0, ⟨nb, nl, d, hd, g⟩, g1⟩ | ⟨rfl, g⟩
  · rcases hv with ⟨hb, -⟩ | ⟨-, hb, -⟩ | ⟨-, -, rfl⟩
    · exact absurd hb nb
    · exact absurd ((hc2 nb).mp hb) nl
    rcases h2 with ⟨h, -⟩ | ⟨-, d', hd', h2⟩
    · exact absurd rfl h
    have ed : d = d' := zJ_fr kc hd (zg_fr_c (fun j => eR _ _ (by decide)) hd')
    subst ed
    have elk : (∃ e, e < 16 ∧ zg_tk M1 tr a n (-1) e) ↔ ∃ e, e < 16 ∧ zu_lk M tr a n (-1) e := (zg_tks (fun d j h1 _ => eR d j (by omega))).trans (zJ_lks kc).symm
    rw [elk] at h2
    have e0 : M1.1 = M0.1 := by rw [g1]; rfl
    have e2 : M1.2.2 182 0 = r.toInt64 := by rw [g1]; exact zul_at
    have er : M1.2.1 = M0.2.1 := by rw [g1]; rfl
    rcases g with ⟨n1, rfl, rfl⟩ | ⟨n1, n2, rfl, hM⟩
    · rcases h2 with ⟨-, rfl, h2⟩ | ⟨m1, m2, -⟩
      · subst h2
        exact ⟨by rw [zui_f, if_pos ⟨rfl, rfl⟩], zJ_same hJ er (fun c j h => by rw [zui_f, if_neg h, e0]), fun _ => e2⟩
      · exact absurd n1 (fun h => h.elim (fun h => by omega) m2)
    · rcases h2 with ⟨m1, -⟩ | ⟨m1, m2, rfl, h2⟩
      · exact absurd m1 (fun h => h.elim (fun h => by omega) n2)
      obtain ⟨t7, tI, tr0, tr3, a0, a1, f0, q0, q1⟩ := nums nb
      have etr := zt_nI tr0
      have ea := zt_nI a0
      have ef := zt_nI f0
      have en := zt_nI (x := n) (by omega)
      have hF : ∀ c j, ¬ ((c = 151 ∧ j = 0) ∨ c = 4 + d ∨ (154 ≤ c ∧ c ≤ 162 ∧ j = d)) → M2.1 c j = M.1 c j := fun c j h => by
        rw [h2]
        unfold zg_new
        rw [zui_f, if_neg (by omega), zui_f, if_neg (by omega), zui_f, if_neg (by omega), zui_f, if_neg (by omega), zui_f, if_neg (by omega), zui_f, if_neg (by omega), zui_f, if_neg (by omega), zui_f, if_neg (by omega), zui_f, if_neg (by omega), zui_f, if_neg (by omega), e0, hM]
        unfold zu_new
        rw [zui_f, if_neg (by omega), zui_f, if_neg (by omega), zui_f, if_neg (by omega), zui_f, if_neg (by omega), zui_f, if_neg (by omega), zui_f, if_neg (by omega), zui_f, if_neg (by omega)]
        rfl
      have hcl : ∀ j, M2.1 (4 + d) j = (zu_new M d tr a t.toNatClampNeg f n).1 (4 + d) j := fun j => by
        rw [h2]
        unfold zg_new
        rw [zui_f, if_neg (by omega), zui_f, if_neg (by omega), zui_f, if_neg (by omega), zui_f, if_neg (by omega), zui_f, if_neg (by omega), zui_f, if_neg (by omega), zui_f, if_neg (by omega), zui_f, if_neg (by omega), zui_f, if_neg (by omega), zui_f, if_neg (by omega), e0, hM]
      have hr2 : ∀ b j, M2.2.1 b j = if b = 4 + d ∧ j = 0 then some (135 + 2 * t.toNatClampNeg) else M.2.1 b j := fun b j => by
        rw [h2]; show M1.2.1 b j = _; rw [er, hM]; rfl
      have w : ∀ c v, 154 ≤ c → c ≤ 162 → (zg_new (zm_ui M1 151 0 0) d tr a t f n).1 c d = v → M2.1 c d = v := fun c v _ _ h => by rw [h2]; exact h
      refine ⟨?_, ?_, fun _ => by rw [h2]; exact e2⟩
      · rw [h2]
        unfold zg_new
        rw [zui_f, if_neg (by omega), zui_f, if_neg (by omega), zui_f, if_neg (by omega), zui_f, if_neg (by omega), zui_f, if_neg (by omega), zui_f, if_neg (by omega), zui_f, if_neg (by omega), zui_f, if_neg (by omega), zui_f, if_neg (by omega), zui_f, if_pos ⟨rfl, rfl⟩]
      · have hL2 : zL M2.2 := by
          unfold zL at k0 ⊢
          simp only [hr2]
          obtain ⟨l1, l2, l3, l4, l5, l6⟩ := k0
          refine ⟨?_, fun t ht => ?_, fun c hc => ?_, fun s hs => ?_, fun s hs i hi => ?_, fun q hq1 hq2 => ?_⟩
          · rw [if_neg (by omega), if_neg (by omega), if_neg (by omega), if_neg (by omega), if_neg (by omega), if_neg (by omega)]; exact l1
          · rw [if_neg (by omega), if_neg (by omega)]; exact l2 t ht
          · rw [if_neg (by omega)]; exact l3 c hc
          · rw [if_neg (by omega), if_neg (by omega), if_neg (by omega), if_neg (by omega), if_neg (by omega), if_neg (by omega), if_neg (by omega), if_neg (by omega)]; exact l4 s hs
          · rw [if_neg (by omega), if_neg (by omega)]; exact l5 s hs i hi
          · rw [if_neg (by omega)]; exact l6 q hq1 hq2
        refine ⟨hL2, zJt_c (fun c j h => hF c j (by omega)) kt, fun e he => ?_, zJr2_c (fun s hs => hF _ _ (by omega)) (fun s j hs => hF _ _ (by omega)) (fun j => hF _ _ (by omega)) (fun j => hF _ _ (by omega)) kr, zJe_c (fun s i j _ _ _ _ => hF _ _ (by omega)) (fun c j _ _ => hF _ _ (by omega)) ke, zJf_c (fun s j _ _ => hF _ _ (by omega)) (fun s c j _ _ _ => hF _ _ (by omega)) (fun c j _ _ => hF _ _ (by omega)) kf, zJm_c (fun s j _ _ => hF _ _ (by omega)) (fun c j _ _ => hF _ _ (by omega)) km, zJb_c (fun j _ => hF _ _ (by omega)) (fun s j _ => hF _ _ (by omega)) (hF _ _ (by omega)) (fun j => hF _ _ (by omega)) kb⟩
        by_cases e9 : e = d
        · subst e9
          right
          have nl' : ¬ M.1 (135 + 2 * t.toNatClampNeg) 1 - n < f := nl
          obtain ⟨y1, y2, y3, -⟩ := kt t.toNatClampNeg (by omega)
          rw [y1, Int32.lt_iff_toInt_lt, zn_sub (by omega) (by omega)] at nl'
          refine ⟨w 154 1 (by decide) (by decide) ?_, t.toNatClampNeg, tr.toNatClampNeg, a.toNatClampNeg, f.toNatClampNeg, n.toNatClampNeg, 256, 0, 0, ⟨by omega, ?_, by omega, ?_, ?_, ?_, ?_, by omega, by omega, by omega, ?_, by omega, ?_, ?_, by omega⟩, ?_, ?_, ?_, ?_, ?_, ?_, ?_, ?_⟩
          · unfold zg_new; rw [zui_f, if_neg (by omega), zui_f, if_neg (by omega), zui_f, if_neg (by omega), zui_f, if_neg (by omega), zui_f, if_neg (by omega), zui_f, if_neg (by omega), zui_f, if_neg (by omega), zui_f, if_neg (by omega), zui_f, if_pos ⟨rfl, rfl⟩]
          · refine w 157 _ (by decide) (by decide) ?_
            unfold zg_new; rw [zui_f, if_neg (by omega), zui_f, if_neg (by omega), zui_f, if_neg (by omega), zui_f, if_neg (by omega), zui_f, if_neg (by omega), zui_f, if_pos ⟨rfl, rfl⟩, tI]
          · refine w 155 _ (by decide) (by decide) ?_
            unfold zg_new; rw [zui_f, if_neg (by omega), zui_f, if_neg (by omega), zui_f, if_neg (by omega), zui_f, if_neg (by omega), zui_f, if_neg (by omega), zui_f, if_neg (by omega), zui_f, if_neg (by omega), zui_f, if_pos ⟨rfl, rfl⟩, etr.1]
          · refine w 156 _ (by decide) (by decide) ?_
            unfold zg_new; rw [zui_f, if_neg (by omega), zui_f, if_neg (by omega), zui_f, if_neg (by omega), zui_f, if_neg (by omega), zui_f, if_neg (by omega), zui_f, if_neg (by omega), zui_f, if_pos ⟨rfl, rfl⟩, ea.1]
          · refine w 158 _ (by decide) (by decide) ?_
            unfold zg_new; rw [zui_f, if_neg (by omega), zui_f, if_neg (by omega), zui_f, if_neg (by omega), zui_f, if_neg (by omega), zui_f, if_pos ⟨rfl, rfl⟩, ef.1]
          · refine w 159 _ (by decide) (by decide) ?_
            unfold zg_new; rw [zui_f, if_neg (by omega), zui_f, if_neg (by omega), zui_f, if_neg (by omega), zui_f, if_pos ⟨rfl, rfl⟩, en.1]
          · refine w 160 _ (by decide) (by decide) ?_
            unfold zg_new; rw [zui_f, if_neg (by omega), zui_f, if_neg (by omega), zui_f, if_pos ⟨rfl, rfl⟩]; rfl
          · refine w 161 _ (by decide) (by decide) ?_
            unfold zg_new; rw [zui_f, if_neg (by omega), zui_f, if_pos ⟨rfl, rfl⟩]; rfl
          · refine w 162 _ (by decide) (by decide) ?_
            unfold zg_new; rw [zui_f, if_pos ⟨rfl, rfl⟩]; rfl
          · rw [hr2, if_pos ⟨rfl, rfl⟩]
          · rw [hcl]; unfold zu_new; rw [zui_f, if_neg (by omega), zui_f, if_neg (by omega), zui_f, if_neg (by omega), zui_f, if_neg (by omega), zui_f, if_pos ⟨rfl, rfl⟩, etr.1]
          · rw [hcl]; unfold zu_new; rw [zui_f, if_neg (by omega), zui_f, if_neg (by omega), zui_f, if_neg (by omega), zui_f, if_pos ⟨rfl, rfl⟩, ea.1]
          · rw [hcl]; unfold zu_new; rw [zui_f, if_neg (by omega), zui_f, if_neg (by omega), zui_f, if_neg (by omega), zui_f, if_neg (by omega), zui_f, if_neg (by omega), zui_f, if_neg (by omega), zui_f, if_pos ⟨rfl, rfl⟩, ef.1]
          · rw [hcl]; unfold zu_new; rw [zui_f, if_neg (by omega), zui_f, if_neg (by omega), zui_f, if_neg (by omega), zui_f, if_neg (by omega), zui_f, if_neg (by omega), zui_f, if_pos ⟨rfl, rfl⟩, en.1]
          · rw [hcl]; unfold zu_new; rw [zui_f, if_neg (by omega), zui_f, if_neg (by omega), zui_f, if_pos ⟨rfl, rfl⟩]; rfl
          · rw [hcl]; unfold zu_new; rw [zui_f, if_neg (by omega), zui_f, if_pos ⟨rfl, rfl⟩]; rfl
          · rw [hcl]; unfold zu_new; rw [zui_f, if_pos ⟨rfl, rfl⟩]; rfl
        · exact zJc1_c (fun j => hF _ _ (by omega)) (fun x h1 h2 => hF _ _ (by omega)) (by rw [hr2, if_neg (by omega)]) (kc e he)
  · have hk : k = v ∧ ¬ v = 0 := by
      rcases hv with ⟨hb, rfl⟩ | ⟨hb, hb2, rfl⟩ | ⟨hb, hb2, rfl⟩
      · rcases g with ⟨rfl, -⟩ | ⟨-, h, -⟩
        · exact ⟨rfl, by decide⟩
        · exact absurd hb h
      · rcases g with ⟨-, h⟩ | ⟨rfl, -⟩
        · exact absurd h hb
        · exact ⟨rfl, by decide⟩
      · rcases g with ⟨-, h⟩ | ⟨-, -, h⟩
        · exact absurd h hb
        · exact absurd ((hc2 hb).mpr h) hb2
    rcases h2 with ⟨-, h2⟩ | ⟨h, -⟩
    · subst h2
      exact ⟨by rw [zui_f, if_pos ⟨rfl, rfl⟩, hk.1], zJ_same hJ rfl (fun c j h => by rw [zui_f, if_neg h]), fun h => absurd (hk.1.symm.trans h) hk.2⟩
    · exact absurd h hk.2
end ZS

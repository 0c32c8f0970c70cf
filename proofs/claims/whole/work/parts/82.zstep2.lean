/-! One call on both sides: seal, take, drop, fader, effect, turn, sample. -/
section ZS
variable {M M1 M2 : zm_T}
theorem zul_at {M : zm_T} {a k : Nat} {v : Int64} : (zm_ul M a k v).2.2 a k = v := if_pos ⟨rfl, rfl⟩
theorem s_seal {t n k : Int32} (hJ : zJ M) (h1 : (k = 0 ∧ (zu_seal M t n = 0 ∧ M1 = zm_ui M (135 + 2 * t.toNatClampNeg) 1 n)) ∨ (M1 = M ∧ ((k = 1 ∧ (zu_seal M t n = 1)) ∨ (k = 2 ∧ (zu_seal M t n = 2)) ∨ (k = 3 ∧ (zu_seal M t n = 3)))))
    (h2 : M2 = if zv_seal M1 t n = 0 then zm_ui (zm_ui M1 151 0 0) 153 t.toNatClampNeg n else zm_ui M1 151 0 (zv_seal M1 t n)) : M2.1 151 0 = k ∧ zJ M2 := by
  have e153 : ∀ j, M1.1 153 j = M.1 153 j := fun j => by
    rcases h1 with ⟨-, g, rfl⟩ | ⟨rfl, -⟩
    · rw [zui_f, if_neg (by
        have : ¬ zf_in t 0 7 = 0 := fun h => by rw [zu_seal, if_pos h] at g; exact absurd g (by decide)
        have := (zi_s (i := 0) (n := 7) (by decide) this).1
        omega)]
    · rfl
  have hz : zv_seal M1 t n = zu_seal M t n := by
    unfold zv_seal zu_seal
    by_cases g1 : zf_in t 0 7 = 0
    · rw [if_pos g1, if_pos g1]
    · rw [if_neg g1, if_neg g1]
      have hl := (zJt_len hJ.2.1 (t := t.toNatClampNeg) (by have := (zi_s (i := 0) (n := 7) (by decide) g1).1; omega)).1
      rw [e153]
      by_cases g2 : zf_in n 1 64 = 0
      · rw [if_pos g2, if_pos g2]
      · rw [if_neg g2, if_neg g2]
        by_cases g3 : M.1 (135 + 2 * t.toNatClampNeg) 1 = 0
        · rw [if_pos g3, if_pos (hl.mpr g3)]
        · rw [if_neg g3, if_neg (fun h => g3 (hl.mp h))]
  rw [hz] at h2
  rcases h1 with ⟨rfl, g0, g1⟩ | ⟨rfl, g⟩
  · rw [if_pos g0] at h2
    have hin : ¬ zf_in t 0 7 = 0 := fun h => by rw [zu_seal, if_pos h] at g0; exact absurd g0 (by decide)
    have hn : ¬ zf_in n 1 64 = 0 := fun h => by rw [zu_seal, if_neg hin, if_pos h] at g0; exact absurd g0 (by decide)
    have ht := (zi_s (i := 0) (n := 7) (by decide) hin).1
    rw [zt_in, show (1 : Int32).toInt = 1 from by decide, show (64 : Int32).toInt = 64 from by decide] at hn
    generalize t.toNatClampNeg = tn at *
    subst h2 g1
    have hF : ∀ c j, ¬ ((c = 151 ∧ j = 0) ∨ (c = 153 ∧ j = tn) ∨ (c = 135 + 2 * tn ∧ j = 1)) → (zm_ui (zm_ui (zm_ui M (135 + 2 * tn) 1 n) 151 0 0) 153 tn n).1 c j = M.1 c j := fun c j a => by
      rw [zui_f, if_neg (by omega), zui_f, if_neg (by omega), zui_f, if_neg (by omega)]
    refine ⟨by rw [zui_f, if_neg (by omega), zui_f, if_pos ⟨rfl, rfl⟩], zJ_k hJ rfl ?_ (zJc_c (fun c j h => hF c j (by omega)) (fun c _ => rfl)) (zJr2_c (fun s hs => hF _ _ (by omega)) (fun s j hs => hF _ _ (by omega)) (fun j => hF _ _ (by omega)) (fun j => hF _ _ (by omega))) (zJe_c (fun s i j _ _ _ _ => hF _ _ (by omega)) (fun c j _ _ => hF _ _ (by omega))) (zJf_c (fun s j _ _ => hF _ _ (by omega)) (fun s c j _ _ _ => hF _ _ (by omega)) (fun c j _ _ => hF _ _ (by omega))) (zJm_c (fun s j _ _ => hF _ _ (by omega)) (fun c j _ _ => hF _ _ (by omega))) (zJb_c (fun j _ => hF _ _ (by omega)) (fun s j _ => hF _ _ (by omega)) (hF _ _ (by omega)) (fun j => hF _ _ (by omega)))⟩
    intro k u hu
    obtain ⟨k1, k2, k3, k4⟩ := k u hu
    have q4 : ∀ q, q < 64 → (zm_ui (zm_ui (zm_ui M (135 + 2 * tn) 1 n) 151 0 0) 153 tn n).1 (136 + 2 * u) q = (zm_ui (zm_ui (zm_ui M (135 + 2 * tn) 1 n) 151 0 0) 153 tn n).1 152 (64 * u + q) ∧ -32768 ≤ ((zm_ui (zm_ui (zm_ui M (135 + 2 * tn) 1 n) 151 0 0) 153 tn n).1 152 (64 * u + q)).toInt ∧ ((zm_ui (zm_ui (zm_ui M (135 + 2 * tn) 1 n) 151 0 0) 153 tn n).1 152 (64 * u + q)).toInt ≤ 32767 := fun q hq => by
      rw [hF _ _ (by omega), hF 152 _ (by omega)]
      exact k4 q hq
    by_cases e : u = tn
    · subst e
      have e1 : (zm_ui (zm_ui (zm_ui M (135 + 2 * u) 1 n) 151 0 0) 153 u n).1 153 u = n := by rw [zui_f, if_pos ⟨rfl, rfl⟩]
      have e2 : (zm_ui (zm_ui (zm_ui M (135 + 2 * u) 1 n) 151 0 0) 153 u n).1 (135 + 2 * u) 1 = n := by rw [zui_f, if_neg (by omega), zui_f, if_neg (by omega), zui_f, if_pos ⟨rfl, rfl⟩]
      rw [e1, e2]
      exact ⟨rfl, by omega, by omega, q4⟩
    · rw [hF _ _ (by omega), hF 153 _ (by omega)]
      exact ⟨k1, k2, k3, q4⟩
  · have hk : zu_seal M1 t n = k ∧ ¬ zu_seal M1 t n = 0 := by
      rcases g with ⟨rfl, g⟩ | ⟨rfl, g⟩ | ⟨rfl, g⟩ <;> rw [g] <;> exact ⟨rfl, by decide⟩
    rw [if_neg hk.2, hk.1] at h2
    subst h2
    exact ⟨by rw [zui_f, if_pos ⟨rfl, rfl⟩], zJ_same hJ rfl (fun c j h => by rw [zui_f, if_neg h])⟩
theorem s_take {t i k rb : Int32} (hJ : zJ M) (h1 : (k = 0 ∧ ∃ (r : Int32) (M0 : zm_T), (zu_tk M t i = 0 ∧ r = (if i = -1 then M.1 (135 + 2 * t.toNatClampNeg) 1 else M.1 (136 + 2 * t.toNatClampNeg) i.toNatClampNeg) ∧ M0 = M) ∧ M1 = zm_ul M0 182 0 r.toInt64) ∨ (M1 = M ∧ ((k = 1 ∧ (zu_tk M t i = 1)))))
    (h2 : M2 = zm_ui M1 151 0 (zv_tk M1 t i) ∧ (zv_tk M1 t i = 0 → rb = if i < 0 then M1.1 153 t.toNatClampNeg else M1.1 152 (64 * t.toNatClampNeg + i.toNatClampNeg))) : M2.1 151 0 = k ∧ zJ M2 ∧ (k = 0 → M2.2.2 182 0 = rb.toInt64) := by
  obtain ⟨h2, h3⟩ := h2
  have e1 : M1.1 = M.1 ∧ M1.2.1 = M.2.1 := by
    rcases h1 with ⟨-, r, M0, ⟨-, -, rfl⟩, rfl⟩ | ⟨rfl, -⟩ <;> exact ⟨rfl, rfl⟩
  have m1 : (-1 : Int32).toInt = -1 := by decide
  have p1 : (1 : Int32).toInt = 1 := by decide
  have p64 : (64 : Int32).toInt = 64 := by decide
  have key : ∀ g1 : ¬ zf_in t 0 7 = 0, ∃ x : Int, 1 ≤ x ∧ x ≤ 64 ∧ ((if M.1 (135 + 2 * t.toNatClampNeg) 1 = 0 then (64 : Int32) else M.1 (135 + 2 * t.toNatClampNeg) 1) - 1).toInt = x - 1 ∧ (if M.1 153 t.toNatClampNeg = 0 then (64 : Int32) else M.1 153 t.toNatClampNeg).toInt = x := fun g1 => by
    have ht := (zi_s (i := 0) (n := 7) (by decide) g1).1
    obtain ⟨q1, q2, q3, -⟩ := hJ.2.1 t.toNatClampNeg (by omega)
    rw [q1]
    by_cases h : M.1 153 t.toNatClampNeg = 0
    · rw [if_pos h]
      exact ⟨64, by decide, by decide, by decide, by decide⟩
    · rw [if_neg h]
      have : ¬ (M.1 153 t.toNatClampNeg).toInt = 0 := fun e => h (Int32.toInt_inj.mp (by rw [e, zn_0]))
      exact ⟨(M.1 153 t.toNatClampNeg).toInt, by omega, q3, by rw [zn_sub (by omega) (by omega), p1], rfl⟩
  have hz : zv_tk M1 t i = zu_tk M t i := by
    unfold zv_tk zu_tk
    rw [e1.1]
    by_cases g1 : zf_in t 0 7 = 0
    · rw [if_pos g1, if_pos g1]
    · rw [if_neg g1, if_neg g1]
      obtain ⟨x, x1, x2, x3, x4⟩ := key g1
      by_cases g2 : zf_in i (-1) ((if M.1 (135 + 2 * t.toNatClampNeg) 1 = 0 then 64 else M.1 (135 + 2 * t.toNatClampNeg) 1) - 1) = 0
      · rw [if_pos g2]
        by_cases g3 : i < -1
        · rw [if_pos g3]
        · rw [if_neg g3, if_pos]
          rw [Int32.le_iff_toInt_le, x4]
          rw [Int32.lt_iff_toInt_lt, m1] at g3
          have := (not_congr (zt_in (x := i) (lo := -1) (hi := (if M.1 (135 + 2 * t.toNatClampNeg) 1 = 0 then 64 else M.1 (135 + 2 * t.toNatClampNeg) 1) - 1))).mp (fun h => h g2)
          rw [m1, x3] at this
          omega
      · rw [if_neg g2]
        have := zt_in.mp g2
        rw [m1, x3] at this
        rw [if_neg (by rw [Int32.lt_iff_toInt_lt, m1]; omega), if_neg (by rw [Int32.le_iff_toInt_le, x4]; omega)]
  rw [hz] at h2 h3
  have hF : ∀ v c j, ¬ (c = 151 ∧ j = 0) → (zm_ui M1 151 0 v).1 c j = M.1 c j := fun v c j h => by rw [zui_f, if_neg h, e1.1]
  subst h2
  refine ⟨?_, zJ_same hJ e1.2 (fun c j h => hF _ c j h), fun hk => ?_⟩
  · rw [zui_f, if_pos ⟨rfl, rfl⟩]
    rcases h1 with ⟨rfl, r, M0, ⟨g, -⟩, -⟩ | ⟨-, rfl, g⟩ <;> rw [g]
  · rcases h1 with ⟨-, r, M0, ⟨g, hr, -⟩, e⟩ | ⟨-, rfl, -⟩
    · rw [h3 g, e1.1]
      have e2 : (zm_ui M1 151 0 (zu_tk M t i)).2.2 182 0 = r.toInt64 := by
        rw [e]
        exact zul_at
      rw [e2, hr]
      have g1 : ¬ zf_in t 0 7 = 0 := fun h => by rw [zu_tk, if_pos h] at g; exact absurd g (by decide)
      have ht := (zi_s (i := 0) (n := 7) (by decide) g1).1
      obtain ⟨q1, q2, q3, q4⟩ := hJ.2.1 t.toNatClampNeg (by omega)
      obtain ⟨x, x1, x2, x3, x4⟩ := key g1
      have g2 : ¬ zf_in i (-1) ((if M.1 (135 + 2 * t.toNatClampNeg) 1 = 0 then 64 else M.1 (135 + 2 * t.toNatClampNeg) 1) - 1) = 0 := fun h => by rw [zu_tk, if_neg g1, if_pos h] at g; exact absurd g (by decide)
      have g3 := zt_in.mp g2
      rw [m1, x3] at g3
      by_cases hi : i = -1
      · rw [if_pos hi, if_pos (by rw [hi]; decide), q1]
      · have hi' : ¬ i.toInt = -1 := fun h => hi (Int32.toInt_inj.mp (by rw [h, m1]))
        rw [if_neg hi, if_neg (by rw [Int32.lt_iff_toInt_lt, zn_0]; omega)]
        have h5 := (zt_nI (x := i) (by omega)).2
        rw [(q4 i.toNatClampNeg (by omega)).1]
    · exact absurd hk (by decide)
theorem zJ_has {c : Int32} (hJ : zJc M) : (¬ zf_has M c = 0 ↔ zv_noc M c = 0) := by
  unfold zf_has zv_noc
  by_cases g : zf_in c 0 15 = 0
  · rw [if_pos g, if_pos g]
    exact ⟨fun h => absurd rfl h, fun h => absurd h (by decide)⟩
  · rw [if_neg g, if_neg g]
    have hc := (zi_s (i := 0) (n := 15) (by decide) g).1
    rcases hJ c.toNatClampNeg (by omega) with ⟨k1, k2⟩ | ⟨k1, t, tr, a, f, n, lv, i, o, k2, -, -, -, -, k3, -⟩
    · rw [k1, k2, if_pos (by decide), if_pos rfl]
      exact ⟨fun h => absurd rfl h, fun h => absurd h (by decide)⟩
    · rw [k1, k3, if_neg (by
        obtain ⟨-, -, -, -, -, -, -, n1, n2, -⟩ := k2
        rw [Int32.le_iff_toInt_le, nI_toInt (by omega), zn_0]; omega), if_neg (by decide)]
      exact ⟨fun _ => rfl, fun _ => by decide⟩
theorem s_drop {c k : Int32} (hJ : zJ M) (h1 : (k = 0 ∧ (¬ zf_has M c = 0 ∧ M1 = zm_ui M (4 + c.toNatClampNeg) 4 0)) ∨ (M1 = M ∧ ((k = 1 ∧ (zf_has M c = 0)))))
    (h2 : M2 = if zv_noc M1 c = 0 then zm_ui (zm_ui M1 151 0 0) 154 c.toNatClampNeg 0 else zm_ui M1 151 0 1) : M2.1 151 0 = k ∧ zJ M2 := by
  rcases h1 with ⟨rfl, g0, g1⟩ | ⟨rfl, rfl, g⟩
  · have g : ¬ zf_in c 0 15 = 0 := fun h => g0 (by simp [zf_has, h])
    have hc := (zi_s (i := 0) (n := 15) (by decide) g).1
    have hn : zv_noc M1 c = 0 := by
      have h3 := (zJ_has (c := c) hJ.2.2.1).mp g0
      have e154 : M1.1 154 c.toNatClampNeg = M.1 154 c.toNatClampNeg := by rw [g1, zui_f, if_neg (by omega)]
      unfold zv_noc at h3 ⊢
      rw [e154]
      exact h3
    rw [if_pos hn] at h2
    generalize c.toNatClampNeg = cn at *
    subst h2 g1
    have hF : ∀ d j, ¬ ((d = 151 ∧ j = 0) ∨ (d = 154 ∧ j = cn) ∨ (d = 4 + cn ∧ j = 4)) → (zm_ui (zm_ui (zm_ui M (4 + cn) 4 0) 151 0 0) 154 cn 0).1 d j = M.1 d j := fun d j a => by
      rw [zui_f, if_neg (by omega), zui_f, if_neg (by omega), zui_f, if_neg (by omega)]
    refine ⟨by rw [zui_f, if_neg (by omega), zui_f, if_pos ⟨rfl, rfl⟩], zJ_k hJ rfl (zJt_c (fun c j h => hF c j (by omega))) ?_ (zJr2_c (fun s hs => hF _ _ (by omega)) (fun s j hs => hF _ _ (by omega)) (fun j => hF _ _ (by omega)) (fun j => hF _ _ (by omega))) (zJe_c (fun s i j _ _ _ _ => hF _ _ (by omega)) (fun c j _ _ => hF _ _ (by omega))) (zJf_c (fun s j _ _ => hF _ _ (by omega)) (fun s c j _ _ _ => hF _ _ (by omega)) (fun c j _ _ => hF _ _ (by omega))) (zJm_c (fun s j _ _ => hF _ _ (by omega)) (fun c j _ _ => hF _ _ (by omega))) (zJb_c (fun j _ => hF _ _ (by omega)) (fun s j _ => hF _ _ (by omega)) (hF _ _ (by omega)) (fun j => hF _ _ (by omega)))⟩
    intro k d hd
    by_cases e : d = cn
    · subst e
      left
      exact ⟨by rw [zui_f, if_pos ⟨rfl, rfl⟩], by rw [zui_f, if_neg (by omega), zui_f, if_neg (by omega), zui_f, if_pos ⟨rfl, rfl⟩]⟩
    · exact zJc1_c (fun j => hF _ _ (by omega)) (fun x h1 h2 => hF _ _ (by omega)) rfl (k d hd)
  · rw [if_neg (fun h => (zJ_has (c := c) hJ.2.2.1).mpr h g)] at h2
    subst h2
    exact ⟨by rw [zui_f, if_pos ⟨rfl, rfl⟩], zJ_same hJ rfl (fun c j h => by rw [zui_f, if_neg h])⟩
theorem s_fader {s v k : Int32} (hJ : zJ M) (h1 : (k = 0 ∧ (¬ (zf_in s 0 7 = 0 ∨ zf_in v 0 1024 = 0) ∧ M1 = zm_ui M (25 + 14 * s.toNatClampNeg) 4 v)) ∨ (M1 = M ∧ ((k = 1 ∧ (zf_in s 0 7 = 0 ∨ zf_in v 0 1024 = 0)))))
    (h2 : M2 = if zf_in s 0 7 = 0 ∨ zf_in v 0 1024 = 0 then zm_ui M1 151 0 1 else zm_ui (zm_ui M1 151 0 0) 168 s.toNatClampNeg v) : M2.1 151 0 = k ∧ zJ M2 := by
  rcases h1 with ⟨rfl, g0, g1⟩ | ⟨rfl, rfl, g⟩
  · rw [if_neg g0] at h2
    have hs := (zi_s (i := 0) (n := 7) (by decide) (fun h => g0 (Or.inl h))).1
    have hv := zt_in.mp (fun h => g0 (Or.inr h))
    rw [zn_0, show (1024 : Int32).toInt = 1024 from by decide] at hv
    generalize s.toNatClampNeg = sn at *
    subst h2 g1
    have hF : ∀ d j, ¬ ((d = 151 ∧ j = 0) ∨ (d = 168 ∧ j = sn) ∨ (d = 25 + 14 * sn ∧ j = 4)) → (zm_ui (zm_ui (zm_ui M (25 + 14 * sn) 4 v) 151 0 0) 168 sn v).1 d j = M.1 d j := fun d j a => by
      rw [zui_f, if_neg (by omega), zui_f, if_neg (by omega), zui_f, if_neg (by omega)]
    refine ⟨by rw [zui_f, if_neg (by omega), zui_f, if_pos ⟨rfl, rfl⟩], zJ_k hJ rfl (zJt_c (fun c j h => hF c j (by omega))) (zJc_c (fun c j h => hF c j (by omega)) (fun c _ => rfl)) (zJr2_c (fun s hs => hF _ _ (by omega)) (fun s j hs => hF _ _ (by omega)) (fun j => hF _ _ (by omega)) (fun j => hF _ _ (by omega))) (zJe_c (fun s i j _ _ _ _ => hF _ _ (by omega)) (fun c j _ _ => hF _ _ (by omega))) ?_ (zJm_c (fun s j _ _ => hF _ _ (by omega)) (fun c j _ _ => hF _ _ (by omega))) (zJb_c (fun j _ => hF _ _ (by omega)) (fun s j _ => hF _ _ (by omega)) (hF _ _ (by omega)) (fun j => hF _ _ (by omega)))⟩
    intro k
    refine ⟨fun u hu => ?_, fun j hj => by rw [hF _ _ (by omega)]; exact k.2 j hj⟩
    obtain ⟨n, hn⟩ := k.1 u hu
    by_cases e : u = sn
    · subst e
      obtain ⟨⟨k1, v1, v2, v3, v4, v5, v6, v7⟩, k2, k3, k4⟩ := hn
      have e1 : (zm_ui (zm_ui (zm_ui M (25 + 14 * u) 4 v) 151 0 0) 168 u v).1 168 u = v := by rw [zui_f, if_pos ⟨rfl, rfl⟩]
      have e2 : (zm_ui (zm_ui (zm_ui M (25 + 14 * u) 4 v) 151 0 0) 168 u v).1 (25 + 14 * u) 4 = v := by rw [zui_f, if_neg (by omega), zui_f, if_neg (by omega), zui_f, if_pos ⟨rfl, rfl⟩]
      have t0 : zG_T (zm_ui (zm_ui (zm_ui M (25 + 14 * u) 4 v) 151 0 0) 168 u v) u = zG_T M u := by funext i; unfold zG_T; rw [hF _ _ (by omega)]
      have t1 : zG_V (zm_ui (zm_ui (zm_ui M (25 + 14 * u) 4 v) 151 0 0) 168 u v) u = zG_V M u := by funext i; unfold zG_V; rw [hF _ _ (by omega)]
      have t2 : zG_J (zm_ui (zm_ui (zm_ui M (25 + 14 * u) 4 v) 151 0 0) 168 u v) u = zG_J M u := by funext i; unfold zG_J; rw [hF _ _ (by omega)]
      refine ⟨n, ⟨by rw [hF _ _ (by omega)]; exact k1, by rw [t0, t1, t2, e1]; exact ⟨v1, v2, v3, v4, v5, hv⟩⟩, by rw [hF _ _ (by omega)]; exact k2, by rw [e1, e2], fun i hi => ?_⟩
      rw [hF (26 + 14 * u) _ (by omega), hF (27 + 14 * u) _ (by omega), hF (28 + 14 * u) _ (by omega), hF 170 _ (by omega), hF 171 _ (by omega), hF 172 _ (by omega)]
      exact k4 i hi
    · exact ⟨n, zJf1_c (fun j _ => hF _ _ (by omega)) (fun c j _ _ => hF _ _ (by omega)) (fun c _ _ => hF _ _ (by omega)) (fun c i _ _ _ => hF _ _ (by omega)) hn⟩
  · rw [if_pos g] at h2
    subst h2
    exact ⟨by rw [zui_f, if_pos ⟨rfl, rfl⟩], zJ_same hJ rfl (fun c j h => by rw [zui_f, if_neg h])⟩
theorem zE_of {k p q : Int32} (h : ¬ zf_allows k p q = 0) : zE_ok k.toInt p.toInt q.toInt := by
  have bo : ∀ {x y : Int32}, ¬ zf_both x y = 0 → ¬ x = 0 ∧ ¬ y = 0 := fun {x y} h => by
    unfold zf_both at h
    constructor
    · intro e; rw [if_pos e] at h; exact h rfl
    · intro e
      by_cases e' : x = 0
      · rw [if_pos e'] at h; exact h rfl
      · rw [if_neg e', if_pos e] at h; exact h rfl
  have c0 : (0 : Int32).toInt = 0 := by decide
  have c1 : (1 : Int32).toInt = 1 := by decide
  have c16 : (16 : Int32).toInt = 16 := by decide
  have c32 : (32 : Int32).toInt = 32 := by decide
  have c64 : (64 : Int32).toInt = 64 := by decide
  have c255 : (255 : Int32).toInt = 255 := by decide
  have c256 : (256 : Int32).toInt = 256 := by decide
  have c1024 : (1024 : Int32).toInt = 1024 := by decide
  have cm : (100000 : Int32).toInt = 100000 := by decide
  unfold zf_allows at h
  refine ⟨fun e => ?_, fun e => ?_, fun e => ?_, fun e => ?_, fun e => ?_, fun e => ?_⟩ <;> rw [e] at h <;> simp only [reduceIte, Int.reduceEq] at h
  · have := zt_in.mp h; rw [c0, c1024] at this; exact this
  · have := zt_in.mp h; rw [c0, c256] at this; exact this
  · have a := zt_in.mp (bo h).1; have b := zt_in.mp (bo h).2; rw [c1, c32] at a; rw [c0, c255] at b; exact ⟨a.1, a.2, b.1, b.2⟩
  · have a := zt_in.mp (bo h).1; have b := zt_in.mp (bo h).2; rw [c1, cm] at a; rw [c0, c16] at b; exact ⟨a.1, a.2, b.1, b.2⟩
  · have a := zt_in.mp (bo h).1; have b := zt_in.mp (bo h).2; rw [c0, cm] at a; rw [c0, c64] at b; exact ⟨a.1, a.2, b.1, b.2⟩
  · have := zt_in.mp h; rw [c0, cm] at this; exact this
theorem s_effect {s sl k p q kx : Int32} (hJ : zJ M) (h1 : (kx = 0 ∧ (zv_eff s sl k p q = 0 ∧ M1 = zm_ui (zm_ui (zm_ui M (31 + 14 * s.toNatClampNeg + 2 * sl.toNatClampNeg) 1 k) (31 + 14 * s.toNatClampNeg + 2 * sl.toNatClampNeg) 2 p) (31 + 14 * s.toNatClampNeg + 2 * sl.toNatClampNeg) 3 q)) ∨ (M1 = M ∧ ((kx = 1 ∧ (zv_eff s sl k p q = 1)))))
    (h2 : M2 = if zv_eff s sl k p q = 0 then zm_ui (zm_ui (zm_ui (zm_ui M1 151 0 0) 165 (3 * s.toNatClampNeg + sl.toNatClampNeg) k) 166 (3 * s.toNatClampNeg + sl.toNatClampNeg) p) 167 (3 * s.toNatClampNeg + sl.toNatClampNeg) q else zm_ui M1 151 0 1) : M2.1 151 0 = kx ∧ zJ M2 := by
  rcases h1 with ⟨rfl, g0, g1⟩ | ⟨rfl, rfl, g⟩
  · rw [if_pos g0] at h2
    have a1 : ¬ zf_in s 0 7 = 0 := fun h => by rw [zv_eff, if_pos h] at g0; exact absurd g0 (by decide)
    have a2 : ¬ zf_in sl 0 2 = 0 := fun h => by rw [zv_eff, if_neg a1, if_pos h] at g0; exact absurd g0 (by decide)
    have a3 : ¬ zf_allows k p q = 0 := fun h => by rw [zv_eff, if_neg a1, if_neg a2, if_pos h] at g0; exact absurd g0 (by decide)
    have hs := (zi_s (i := 0) (n := 7) (by decide) a1).1
    have hl := (zi_s (i := 0) (n := 2) (by decide) a2).1
    have hE := zE_of a3
    generalize s.toNatClampNeg = sn at *
    generalize sl.toNatClampNeg = ln at *
    have e51 : M2.1 151 0 = 0 := by
      rw [h2, zui_f, if_neg (by omega), zui_f, if_neg (by omega), zui_f, if_neg (by omega), zui_f, if_pos ⟨rfl, rfl⟩]
    have er : M2.2.1 = M.2.1 := by rw [h2, g1]; rfl
    have v1 : M2.1 165 (3 * sn + ln) = k ∧ M2.1 166 (3 * sn + ln) = p ∧ M2.1 167 (3 * sn + ln) = q ∧ M2.1 (31 + 14 * sn + 2 * ln) 1 = k ∧ M2.1 (31 + 14 * sn + 2 * ln) 2 = p ∧ M2.1 (31 + 14 * sn + 2 * ln) 3 = q := by
      rw [h2, g1]
      refine ⟨?_, ?_, ?_, ?_, ?_, ?_⟩
      · rw [zui_f, if_neg (by omega), zui_f, if_neg (by omega), zui_f, if_pos ⟨rfl, rfl⟩]
      · rw [zui_f, if_neg (by omega), zui_f, if_pos ⟨rfl, rfl⟩]
      · rw [zui_f, if_pos ⟨rfl, rfl⟩]
      · rw [zui_f, if_neg (by omega), zui_f, if_neg (by omega), zui_f, if_neg (by omega), zui_f, if_neg (by omega), zui_f, if_neg (by omega), zui_f, if_neg (by omega), zui_f, if_pos ⟨rfl, rfl⟩]
      · rw [zui_f, if_neg (by omega), zui_f, if_neg (by omega), zui_f, if_neg (by omega), zui_f, if_neg (by omega), zui_f, if_neg (by omega), zui_f, if_pos ⟨rfl, rfl⟩]
      · rw [zui_f, if_neg (by omega), zui_f, if_neg (by omega), zui_f, if_neg (by omega), zui_f, if_neg (by omega), zui_f, if_pos ⟨rfl, rfl⟩]
    have hF : ∀ d j, ¬ ((d = 151 ∧ j = 0) ∨ ((d = 165 ∨ d = 166 ∨ d = 167) ∧ j = 3 * sn + ln) ∨ (d = 31 + 14 * sn + 2 * ln)) → M2.1 d j = M.1 d j := fun d j a => by
      rw [h2, g1]
      rw [zui_f, if_neg (by omega), zui_f, if_neg (by omega), zui_f, if_neg (by omega), zui_f, if_neg (by omega), zui_f, if_neg (by omega), zui_f, if_neg (by omega), zui_f, if_neg (by omega)]
    clear h2 g1
    have hF' : ∀ d j, ¬ ((d = 151 ∧ j = 0) ∨ d = 165 ∨ d = 166 ∨ d = 167 ∨ (31 + 14 * sn ≤ d ∧ d ≤ 36 + 14 * sn)) → M2.1 d j = M.1 d j := fun d j a => hF d j (by omega)
    refine ⟨e51, zJ_k hJ er (zJt_c (fun c j h => hF' c j (by omega))) (zJc_c (fun c j h => hF' c j (by omega)) (fun c _ => by rw [er])) (zJr2_c (fun s hs => hF' _ _ (by omega)) (fun s j hs => hF' _ _ (by omega)) (fun j => hF' _ _ (by omega)) (fun j => hF' _ _ (by omega))) (fun k9 u hu i hi => ?_) (zJf_c (fun s j _ _ => hF' _ _ (by omega)) (fun s c j _ _ _ => hF' _ _ (by omega)) (fun c j _ _ => hF' _ _ (by omega))) (zJm_c (fun s j _ _ => hF' _ _ (by omega)) (fun c j _ _ => hF' _ _ (by omega))) (zJb_c (fun j _ => hF' _ _ (by omega)) (fun s j _ => hF' _ _ (by omega)) (hF' _ _ (by omega)) (fun j => hF' _ _ (by omega)))⟩
    by_cases e : u = sn ∧ i = ln
    · obtain ⟨rfl, rfl⟩ := e
      obtain ⟨b1, b2, b3, b4, b5, b6⟩ := v1
      rw [b1, b2, b3, b4, b5, b6]
      exact ⟨rfl, rfl, rfl, hE⟩
    · rw [hF (31 + 14 * u + 2 * i) 1 (by omega), hF (31 + 14 * u + 2 * i) 2 (by omega), hF (31 + 14 * u + 2 * i) 3 (by omega), hF 165 _ (by omega), hF 166 _ (by omega), hF 167 _ (by omega)]
      exact k9 u hu i hi
  · rw [if_neg (by rw [g]; decide)] at h2
    subst h2
    exact ⟨by rw [zui_f, if_pos ⟨rfl, rfl⟩], zJ_same hJ rfl (fun c j h => by rw [zui_f, if_neg h])⟩
end ZS

/-! Both play the same rows. -/
section ZR
variable {M M1 M2 : zm_T}
theorem zF_lev_c {n : Nat} {T L J T' L' J' : Nat → Int} {re t v : Int} (hT : ∀ i, i < n → T i = T' i ∧ L i = L' i ∧ J i = J' i) (h : zF_lev n T L J re t v) : zF_lev n T' L' J' re t v := by
  rcases h with ⟨h0, h1⟩ | ⟨h0, c, h1, h2, h3, h4⟩
  · exact Or.inl ⟨h0, h1⟩
  · refine Or.inr ⟨h0, c, h1, fun i hi => by rw [← (hT i (by omega)).1]; exact h2 i hi, fun i hc hi => by rw [← (hT i hi).1]; exact h3 i hc hi, ?_⟩
    by_cases e : c = 0
    · rw [if_pos e] at h4 ⊢
      rw [← (hT 0 h0).2.1]; exact h4
    · rw [if_neg e] at h4 ⊢
      rw [← (hT (c - 1) (by omega)).2.2]
      by_cases e2 : J (c - 1) = 0 ∨ c = n
      · rw [if_pos e2] at h4 ⊢
        rw [← (hT (c - 1) (by omega)).2.1]; exact h4
      · rw [if_neg e2] at h4 ⊢
        have hc : c < n := by
          by_cases h : c = n
          · exact absurd (Or.inr h) e2
          · omega
        rw [← (hT (c - 1) (by omega)).2.1, ← (hT c hc).2.1, ← (hT c hc).1, ← (hT (c - 1) (by omega)).1]
        exact h4
theorem zJ_tv (kt : zJt M) (kc : zJc M) {s e t : Nat} (hs : s < 4) (ht : t < e) (he : e ≤ 1024) : ∀ c, c ≤ 16 → (zf_lv M (nI s) e c t).toInt = zg_tv M s c t ∧ -16777216 ≤ zg_tv M s c t ∧ zg_tv M s c t ≤ 16777216
  | 0, _ => ⟨by rw [zf_lv, zg_tv, zn_0], by rw [zg_tv]; omega, by rw [zg_tv]; omega⟩
  | c + 1, hc => by
    obtain ⟨ih, ih1, ih2⟩ := zJ_tv kt kc hs ht he c (by omega)
    rw [zf_lv, zg_tv]
    rcases kc c (by omega) with ⟨k1, k2⟩ | ⟨k1, t', tr', a', f', n', lv', i', o', ⟨c0, c1, c2, c3, c4, c5, c6, c7, c8, c9, c10, c11, c12, c13, c14⟩, d0, d1, d2, d3, d4, d5, d6, d7⟩
    · have : zf_lies M (4 + c) (nI s) 0 (nI e) = 0 := by unfold zf_lies; rw [k2, if_pos (by decide)]
      rw [if_pos this, if_neg (fun h => h.1 k1)]
      exact ⟨ih, ih1, ih2⟩
    · have nn : ∀ x y : Nat, x < 4096 → y < 4096 → (nI x = nI y ↔ x = y) := fun x y hx hy => ⟨fun h => by
        have : (nI x).toInt = (nI y).toInt := by rw [h]
        rw [nI_toInt (by omega), nI_toInt (by omega)] at this
        omega, fun h => by rw [h]⟩
      have nle : ∀ x y : Nat, x < 4096 → y < 4096 → (nI x ≤ nI y ↔ x ≤ y) := fun x y hx hy => by
        rw [Int32.le_iff_toInt_le, nI_toInt (by omega), nI_toInt (by omega)]; omega
      have nlt : ∀ x y : Nat, x < 4096 → y < 4096 → (nI x < nI y ↔ x < y) := fun x y hx hy => by
        rw [Int32.lt_iff_toInt_lt, nI_toInt (by omega), nI_toInt (by omega)]; omega
      have ea : (M.1 (4 + c) 2).toNatClampNeg = a' := by rw [d2]; exact zn_cl (by omega)
      have ea2 : (M.1 156 c).toNatClampNeg = a' := by rw [c4]; exact zn_cl (by omega)
      have ecp : zf_cp M c e = min n' (e - a') := by unfold zf_cp; rw [ea, d4, zn_cl (by omega)]
      have hcond : (¬ (1 : Int32) = 0 ∧ nI tr' = nI s ∧ ¬ nI t < nI a' ∧ ¬ nI a' + nI n' ≤ nI t) ↔ (tr' = s ∧ a' ≤ t ∧ t < a' + n') := by
        rw [nn _ _ (by omega) (by omega), nI_add, nle _ _ (by omega) (by omega), nlt _ _ (by omega) (by omega)]
        constructor
        · rintro ⟨-, h1, h2, h3⟩; exact ⟨h1, by omega, by omega⟩
        · rintro ⟨h1, h2, h3⟩; exact ⟨by decide, h1, by omega, by omega⟩
      rw [ea, ea2, ecp, k1, c3, c4, c6]
      by_cases hin : tr' = s ∧ a' ≤ t ∧ t < a' + n'
      · obtain ⟨e1, e2, e3⟩ := hin
        have hl : ¬ zf_lies M (4 + c) (nI s) 0 (nI e) = 0 := by
          unfold zf_lies
          have z0 : (0 : Int32) = nI 0 := rfl
          rw [d4, d1, d2, z0, if_neg (by rw [nle _ _ (by omega) (by omega)]; omega), if_neg (fun h => h (by rw [e1])), if_neg (by rw [nI_add, nle _ _ (by omega) (by omega)]; omega), if_neg (by rw [nI_add, nle _ _ (by omega) (by omega)]; omega)]
          decide
        rw [if_neg hl, if_pos (by omega), if_pos (hcond.mpr ⟨e1, e2, e3⟩)]
        have hv : (zf_cv M c (t - a')).toInt = zg_cs M c (t - a') := by
          unfold zf_cv zg_cs
          rw [d0, d3, d4, d5, d6, d7, c1, c5, c10, c12, c13, c6, zn_cl (by omega), zn_cl (by omega), zn_cl (by omega), zn_cl (by omega), zn_cl (by omega), zn_cl (by omega)]
          obtain ⟨-, -, -, y4⟩ := kt t' c0
          obtain ⟨y5, y6, y7⟩ := y4 (f' + (t - a')) (by omega)
          show (zf_val (M.1 (135 + 2 * t' + 1) (f' + (t - a'))) _ _ _ _ _).toInt = _
          rw [show 135 + 2 * t' + 1 = 136 + 2 * t' by omega, y5, show 64 * t' + f' + (t - a') = 64 * t' + (f' + (t - a')) by omega]
          exact zf_val_eq y6 y7 c11 (by omega) (by omega) c14
        refine ⟨hv, ?_⟩
        unfold zg_cs
        rw [c1, c5, c10, c12, c13, c6, zn_cl (by omega), zn_cl (by omega), zn_cl (by omega), zn_cl (by omega), zn_cl (by omega), zn_cl (by omega)]
        obtain ⟨-, -, -, y4⟩ := kt t' c0
        obtain ⟨-, y6, y7⟩ := y4 (f' + (t - a')) (by omega)
        rw [show 64 * t' + f' + (t - a') = 64 * t' + (f' + (t - a')) by omega]
        have := zi_clip_b (k := t - a') (i := i') (o := o') (n := n') y6 y7 (show (0 : Int) ≤ lv' by omega) (by omega : (lv' : Int) ≤ 1024) (by omega)
        omega
      · rw [if_neg (fun h => hin (hcond.mp h))]
        by_cases hl : zf_lies M (4 + c) (nI s) 0 (nI e) = 0
        · rw [if_pos hl]; exact ⟨ih, ih1, ih2⟩
        · rw [if_neg hl, if_neg]
          · exact ⟨ih, ih1, ih2⟩
          · rintro ⟨q1, q2⟩
            have := (zf_lies_pos hl).2.1
            rw [d1, nn _ _ (by omega) (by omega)] at this
            exact hin ⟨this, q1, by omega⟩
end ZR

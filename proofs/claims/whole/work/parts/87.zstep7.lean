/-! One call on both sides: split. -/
section ZS
variable {M M1 M2 : zm_T}
theorem s_split {c k kx rb : Int32} {t : Nat} (hJ : zJ M) (hcl : ¬ zf_has M c = 0 → M.2.1 (4 + c.toNatClampNeg) 0 = some t) (h1 : (kx = 0 ∧ ∃ (r : Int32) (M0 : zm_T), (zu_spl M c k = 0 ∧ ∃ d, zf_fr M d ∧ (((d = 16 ∨ zu_nsp M c.toNatClampNeg k) ∧ r = -1 ∧ M0 = M) ∨ (d < 16 ∧ ¬ zu_nsp M c.toNatClampNeg k ∧ r = nI d ∧ M0 = zu_sp2 M (4 + c.toNatClampNeg) (4 + d) t k))) ∧ M1 = zm_ul M0 182 0 r.toInt64) ∨ (M1 = M ∧ ((kx = 1 ∧ (zu_spl M c k = 1)) ∨ (kx = 2 ∧ (zu_spl M c k = 2)))))
    (h2 : (¬ zv_spl M1 c k = 0 ∧ M2 = zm_ui M1 151 0 (zv_spl M1 c k)) ∨ (zv_spl M1 c k = 0 ∧ ∃ d, zg_fr M1 d ∧ (((d = 16 ∨ zv_nsp M1 c.toNatClampNeg k) ∧ rb = -1 ∧ M2 = zm_ui M1 151 0 0) ∨ (d < 16 ∧ ¬ zv_nsp M1 c.toNatClampNeg k ∧ rb = nI d ∧ M2 = zg_spl (zm_ui M1 151 0 0) c.toNatClampNeg d k)))) :
    M2.1 151 0 = kx ∧ zJ M2 ∧ (kx = 0 → M2.2.2 182 0 = rb.toInt64) := by
  obtain ⟨k0, kt, kc, kr, ke, kf, km, kb⟩ := id hJ
  have hcn : ¬ zu_spl M c k = 1 → ¬ zf_has M c = 0 := fun h e => h (by rw [zu_spl, if_pos e])
  have eR : ∀ d j, 151 ≤ d → M1.1 d j = M.1 d j := fun d j h => by
    rcases h1 with ⟨-, r, M0, ⟨g0, d', hd', g⟩, rfl⟩ | ⟨rfl, -⟩
    · have hlt := (zJ_there kc (hcn (by rw [g0]; decide))).1
      rcases g with ⟨-, -, rfl⟩ | ⟨g16, -, -, rfl⟩
      · rfl
      · show (zu_sp2 M (4 + c.toNatClampNeg) (4 + d') t k).1 d j = _
        unfold zu_sp2
        rw [zui_f, if_neg (by omega), zui_f, if_neg (by omega), zui_f, if_neg (by omega), zui_f, if_neg (by omega), zui_f, if_neg (by omega), zui_f, if_neg (by omega), zui_f, if_neg (by omega), zui_f, if_neg (by omega), zui_f, if_neg (by omega)]
        rfl
    · rfl
  have p1 : (1 : Int32).toInt = 1 := by decide
  have hz : zv_spl M1 c k = zu_spl M c k := by
    unfold zv_spl zu_spl
    rw [zv_noc_c (eR _ _ (by decide)), eR _ _ (by decide)]
    by_cases g1 : zf_has M c = 0
    · rw [if_pos g1, if_pos (fun h => (zJ_has kc).mpr h g1)]
    · rw [if_neg g1, if_neg (fun h => h ((zJ_has kc).mp g1))]
      obtain ⟨-, -, -, t', tr', a', f', n', lv', i', o', ⟨-, -, -, -, -, -, c6, c7, c8, -⟩, -, -, -, -, k5, -⟩ := zJ_there kc g1
      rw [k5, c6]
      have en : (nI n' - 1).toInt = (n' : Int) - 1 := by rw [zn_sub (by rw [nI_toInt (by omega), p1]; omega) (by rw [nI_toInt (by omega), p1]; omega), nI_toInt (by omega), p1]
      by_cases g2 : zf_in k 1 (nI n' - 1) = 0
      · rw [if_pos g2]
        by_cases g3 : k < 1
        · rw [if_pos g3]
        · rw [if_neg g3, if_pos]
          rw [Int32.le_iff_toInt_le, nI_toInt (by omega)]
          rw [Int32.lt_iff_toInt_lt, p1] at g3
          have := (not_congr (zt_in (x := k) (lo := 1) (hi := nI n' - 1))).mp (fun h => h g2)
          rw [p1, en] at this
          omega
      · rw [if_neg g2]
        have := zt_in.mp g2
        rw [p1, en] at this
        rw [if_neg (by rw [Int32.lt_iff_toInt_lt, p1]; omega), if_neg (by rw [Int32.le_iff_toInt_le, nI_toInt (by omega)]; omega)]
  rw [hz] at h2
  rcases h1 with ⟨rfl, r, M0, ⟨g0, d, hd, g⟩, g1⟩ | ⟨rfl, g⟩
  · rcases h2 with ⟨h, -⟩ | ⟨-, d', hd', h2⟩
    · exact absurd g0 h
    have hh := hcn (by rw [g0]; decide)
    have ed : d = d' := zJ_fr kc hd (zg_fr_c (fun j => eR _ _ (by decide)) hd')
    subst ed
    obtain ⟨hlt, hcI, k154, t', tr', a', f', n', lv', i', o', ⟨c0, c1, c2, c3, c4, c5, c6, c7, c8, c9, c10, c11, c12, c13, c14⟩, d0, d1, d2, d3, d4, d5, d6, d7⟩ := zJ_there kc hh
    have et : t = 135 + 2 * t' := Option.some.inj ((hcl hh).symm.trans d0)
    have b2 : ¬ zf_in k 1 (M.1 (4 + c.toNatClampNeg) 4 - 1) = 0 := fun h => by rw [zu_spl, if_neg hh, if_pos h] at g0; exact absurd g0 (by decide)
    have b3 := zt_in.mp b2
    rw [p1, d4, zn_sub (by rw [nI_toInt (by omega), p1]; omega) (by rw [nI_toInt (by omega), p1]; omega), nI_toInt (by omega), p1] at b3
    obtain ⟨kn, hkn, hkn2⟩ : ∃ kn : Nat, k = nI kn ∧ (kn : Int) = k.toInt := ⟨k.toNatClampNeg, (zt_nI (x := k) (by omega)).1.symm, (zt_nI (x := k) (by omega)).2⟩
    have hk1 : 1 ≤ kn ∧ kn < n' := by omega
    have ensp : zv_nsp M1 c.toNatClampNeg k ↔ zu_nsp M c.toNatClampNeg k := by
      unfold zv_nsp zu_nsp
      rw [eR _ _ (by decide), eR _ _ (by decide), eR _ _ (by decide), c12, c6, c13, d6, d4, d7]
    rw [ensp] at h2
    have e0 : M1.1 = M0.1 := by rw [g1]; rfl
    have e2 : M1.2.2 182 0 = r.toInt64 := by rw [g1]; exact zul_at
    have er : M1.2.1 = M0.2.1 := by rw [g1]; rfl
    rcases g with ⟨n1, rfl, rfl⟩ | ⟨n1, n2, rfl, hM⟩
    · rcases h2 with ⟨-, rfl, h2⟩ | ⟨m1, m2, -⟩
      · subst h2
        exact ⟨by rw [zui_f, if_pos ⟨rfl, rfl⟩], zJ_same hJ er (fun c j h => by rw [zui_f, if_neg h, e0]), fun _ => e2⟩
      · exact absurd n1 (fun h => h.elim (fun h => by omega) m2)
    · rcases h2 with ⟨m1, -⟩ | ⟨m1, m2, rfl, h2⟩
      · exact absurd m1 (fun h => h.elim (fun h => by omega) n2)
      have n3 : i' ≤ kn ∧ o' ≤ n' - kn := by
        unfold zu_nsp at n2
        rw [d6, d4, d7, hkn, Int32.lt_iff_toInt_lt, Int32.lt_iff_toInt_lt, zn_sub (by rw [nI_toInt (by omega), nI_toInt (by omega)]; omega) (by rw [nI_toInt (by omega), nI_toInt (by omega)]; omega), nI_toInt (by omega), nI_toInt (by omega), nI_toInt (by omega), nI_toInt (by omega)] at n2
        omega
      have ncd : c.toNatClampNeg ≠ d := fun e => by
        have := hd.2.2 n1
        rw [← e, d4] at this
        have h9 : (nI n').toInt = (0 : Int32).toInt := by rw [this]
        rw [nI_toInt (by omega), zn_0] at h9
        omega
      have r155 : ∀ j, M1.1 155 j = M.1 155 j := fun j => eR _ _ (by decide)
      generalize c.toNatClampNeg = cn at *
      have hF : ∀ e j, ¬ ((e = 151 ∧ j = 0) ∨ e = 4 + cn ∧ (j = 4 ∨ j = 7) ∨ e = 4 + d ∨ (154 ≤ e ∧ e ≤ 162 ∧ j = d) ∨ ((e = 159 ∨ e = 162) ∧ j = cn)) → M2.1 e j = M.1 e j := fun e j h => by
        rw [h2]
        unfold zg_spl
        rw [zui_f, if_neg (by omega), zui_f, if_neg (by omega), zui_f, if_neg (by omega), zui_f, if_neg (by omega), zui_f, if_neg (by omega), zui_f, if_neg (by omega), zui_f, if_neg (by omega), zui_f, if_neg (by omega), zui_f, if_neg (by omega), zui_f, if_neg (by omega), zui_f, if_neg (by omega), zui_f, if_neg (by omega), e0, hM]
        unfold zu_sp2
        rw [zui_f, if_neg (by omega), zui_f, if_neg (by omega), zui_f, if_neg (by omega), zui_f, if_neg (by omega), zui_f, if_neg (by omega), zui_f, if_neg (by omega), zui_f, if_neg (by omega), zui_f, if_neg (by omega), zui_f, if_neg (by omega)]
        rfl
      have hcl2 : ∀ e j, e < 151 → M2.1 e j = (zu_sp2 M (4 + cn) (4 + d) t k).1 e j := fun e j h => by
        rw [h2]
        unfold zg_spl
        rw [zui_f, if_neg (by omega), zui_f, if_neg (by omega), zui_f, if_neg (by omega), zui_f, if_neg (by omega), zui_f, if_neg (by omega), zui_f, if_neg (by omega), zui_f, if_neg (by omega), zui_f, if_neg (by omega), zui_f, if_neg (by omega), zui_f, if_neg (by omega), zui_f, if_neg (by omega), zui_f, if_neg (by omega), e0, hM]
      have hr2 : ∀ b j, M2.2.1 b j = if b = 4 + d ∧ j = 0 then some t else M.2.1 b j := fun b j => by
        rw [h2]; show M1.2.1 b j = _; rw [er, hM]; rfl
      have x : ∀ e, 152 ≤ e → (zm_ui M1 151 0 0).1 e cn = M.1 e cn := fun e h => by rw [zui_f, if_neg (by omega), eR e cn (by omega)]
      refine ⟨?_, ?_, fun _ => by rw [h2]; exact e2⟩
      · rw [h2]
        unfold zg_spl
        rw [zui_f, if_neg (by omega), zui_f, if_neg (by omega), zui_f, if_neg (by omega), zui_f, if_neg (by omega), zui_f, if_neg (by omega), zui_f, if_neg (by omega), zui_f, if_neg (by omega), zui_f, if_neg (by omega), zui_f, if_neg (by omega), zui_f, if_neg (by omega), zui_f, if_neg (by omega), zui_f, if_pos ⟨rfl, rfl⟩]
      · have hL2 : zL M2.2 := by
          unfold zL at k0 ⊢
          simp only [hr2]
          obtain ⟨l1, l2, l3, l4, l5, l6⟩ := k0
          refine ⟨?_, fun t ht => ?_, fun c hc => ?_, fun s hs => ?_, fun s hs i hi => ?_, fun q hq1 hq2 => ?_⟩
          · rw [if_neg (by omega), if_neg (by omega), if_neg (by omega), if_neg (by omega), if_neg (by omega), if_neg (by omega)]; exact l1
          · rw [if_neg (by omega), if_neg (by omega)]; exact l2 t ht
          · rw [if_neg (by omega)]; exact l3 c hc
          · rw [if_neg (by omega), if_neg (by omega), if_neg (by omega), if_neg (by omega), if_neg (by omega), if_neg (by omega), if_neg (by omega), if_neg (by omega)]; exact l4 s hs
          · rw [if_neg (by omega), if_neg (by omega)]; exact l5 s hs i hi
          · rw [if_neg (by omega)]; exact l6 q hq1 hq2
        refine ⟨hL2, zJt_c (fun c j h => hF c j (by omega)) kt, fun e he => ?_, zJr2_c (fun s hs => hF _ _ (by omega)) (fun s j hs => hF _ _ (by omega)) (fun j => hF _ _ (by omega)) (fun j => hF _ _ (by omega)) kr, zJe_c (fun s i j _ _ _ _ => hF _ _ (by omega)) (fun c j _ _ => hF _ _ (by omega)) ke, zJf_c (fun s j _ _ => hF _ _ (by omega)) (fun s c j _ _ _ => hF _ _ (by omega)) (fun c j _ _ => hF _ _ (by omega)) kf, zJm_c (fun s j _ _ => hF _ _ (by omega)) (fun c j _ _ => hF _ _ (by omega)) km, zJb_c (fun j _ => hF _ _ (by omega)) (fun s j _ => hF _ _ (by omega)) (hF _ _ (by omega)) (fun j => hF _ _ (by omega)) kb⟩
        have sub : ∀ y : Nat, kn ≤ y → y < 2000 → nI y - nI kn = nI (y - kn) := fun y h1 h2 => Int32.toInt_inj.mp (by
          rw [zn_sub (by rw [nI_toInt (by omega), nI_toInt (by omega)]; omega) (by rw [nI_toInt (by omega), nI_toInt (by omega)]; omega), nI_toInt (by omega), nI_toInt (by omega), nI_toInt (by omega)]; omega)
        by_cases e9 : e = d
        · subst e9
          right
          refine ⟨?_, t', tr', a' + kn, f' + kn, n' - kn, lv', 0, o', ⟨c0, ?_, c2, ?_, ?_, ?_, ?_, by omega, by omega, by omega, ?_, c11, ?_, ?_, by omega⟩, ?_, ?_, ?_, ?_, ?_, ?_, ?_, ?_⟩
          · rw [h2]; unfold zg_spl; rw [zui_f, if_neg (by omega), zui_f, if_neg (by omega), zui_f, if_neg (by omega), zui_f, if_neg (by omega), zui_f, if_neg (by omega), zui_f, if_neg (by omega), zui_f, if_neg (by omega), zui_f, if_neg (by omega), zui_f, if_neg (by omega), zui_f, if_neg (by omega), zui_f, if_pos ⟨rfl, rfl⟩]
          · rw [h2]; unfold zg_spl; rw [zui_f, if_neg (by omega), zui_f, if_neg (by omega), zui_f, if_neg (by omega), zui_f, if_neg (by omega), zui_f, if_neg (by omega), zui_f, if_neg (by omega), zui_f, if_neg (by omega), zui_f, if_pos ⟨rfl, rfl⟩]; rw [x _ (by decide)]; exact c1
          · rw [h2]; unfold zg_spl; rw [zui_f, if_neg (by omega), zui_f, if_neg (by omega), zui_f, if_neg (by omega), zui_f, if_neg (by omega), zui_f, if_neg (by omega), zui_f, if_neg (by omega), zui_f, if_neg (by omega), zui_f, if_neg (by omega), zui_f, if_neg (by omega), zui_f, if_pos ⟨rfl, rfl⟩]; rw [x _ (by decide)]; exact c3
          · rw [h2]; unfold zg_spl; rw [zui_f, if_neg (by omega), zui_f, if_neg (by omega), zui_f, if_neg (by omega), zui_f, if_neg (by omega), zui_f, if_neg (by omega), zui_f, if_neg (by omega), zui_f, if_neg (by omega), zui_f, if_neg (by omega), zui_f, if_pos ⟨rfl, rfl⟩]; rw [x _ (by decide), c4, hkn, nI_add]
          · rw [h2]; unfold zg_spl; rw [zui_f, if_neg (by omega), zui_f, if_neg (by omega), zui_f, if_neg (by omega), zui_f, if_neg (by omega), zui_f, if_neg (by omega), zui_f, if_neg (by omega), zui_f, if_pos ⟨rfl, rfl⟩]; rw [x _ (by decide), c5, hkn, nI_add]
          · rw [h2]; unfold zg_spl; rw [zui_f, if_neg (by omega), zui_f, if_neg (by omega), zui_f, if_neg (by omega), zui_f, if_neg (by omega), zui_f, if_neg (by omega), zui_f, if_pos ⟨rfl, rfl⟩]; rw [x _ (by decide), c6, hkn, sub _ (by omega) (by omega)]
          · rw [h2]; unfold zg_spl; rw [zui_f, if_neg (by omega), zui_f, if_neg (by omega), zui_f, if_neg (by omega), zui_f, if_neg (by omega), zui_f, if_pos ⟨rfl, rfl⟩]; rw [x _ (by decide)]; exact c10
          · rw [h2]; unfold zg_spl; rw [zui_f, if_neg (by omega), zui_f, if_neg (by omega), zui_f, if_neg (by omega), zui_f, if_pos ⟨rfl, rfl⟩]; rfl
          · rw [h2]; unfold zg_spl; rw [zui_f, if_neg (by omega), zui_f, if_neg (by omega), zui_f, if_pos ⟨rfl, rfl⟩]; rw [x _ (by decide)]; exact c13
          · rw [hr2, if_pos ⟨rfl, rfl⟩, et]
          · rw [hcl2 _ _ (by omega)]; unfold zu_sp2; rw [zui_f, if_neg (by omega), zui_f, if_neg (by omega), zui_f, if_neg (by omega), zui_f, if_neg (by omega), zui_f, if_neg (by omega), zui_f, if_neg (by omega), zui_f, if_pos ⟨rfl, rfl⟩]; exact d1
          · rw [hcl2 _ _ (by omega)]; unfold zu_sp2; rw [zui_f, if_neg (by omega), zui_f, if_neg (by omega), zui_f, if_neg (by omega), zui_f, if_neg (by omega), zui_f, if_neg (by omega), zui_f, if_pos ⟨rfl, rfl⟩, d2, hkn, nI_add]
          · rw [hcl2 _ _ (by omega)]; unfold zu_sp2; rw [zui_f, if_neg (by omega), zui_f, if_neg (by omega), zui_f, if_neg (by omega), zui_f, if_neg (by omega), zui_f, if_neg (by omega), zui_f, if_neg (by omega), zui_f, if_neg (by omega), zui_f, if_neg (by omega), zui_f, if_pos ⟨rfl, rfl⟩, d3, hkn, nI_add]
          · rw [hcl2 _ _ (by omega)]; unfold zu_sp2; rw [zui_f, if_neg (by omega), zui_f, if_neg (by omega), zui_f, if_neg (by omega), zui_f, if_neg (by omega), zui_f, if_neg (by omega), zui_f, if_neg (by omega), zui_f, if_neg (by omega), zui_f, if_pos ⟨rfl, rfl⟩, d4, hkn, sub _ (by omega) (by omega)]
          · rw [hcl2 _ _ (by omega)]; unfold zu_sp2; rw [zui_f, if_neg (by omega), zui_f, if_neg (by omega), zui_f, if_neg (by omega), zui_f, if_neg (by omega), zui_f, if_pos ⟨rfl, rfl⟩]; exact d5
          · rw [hcl2 _ _ (by omega)]; unfold zu_sp2; rw [zui_f, if_neg (by omega), zui_f, if_neg (by omega), zui_f, if_neg (by omega), zui_f, if_pos ⟨rfl, rfl⟩]; rfl
          · rw [hcl2 _ _ (by omega)]; unfold zu_sp2; rw [zui_f, if_neg (by omega), zui_f, if_neg (by omega), zui_f, if_pos ⟨rfl, rfl⟩]; exact d7
        · by_cases e8 : e = cn
          · subst e8
            right
            refine ⟨by rw [hF _ _ (by omega)]; exact k154, t', tr', a', f', kn, lv', i', 0, ⟨c0, by rw [hF _ _ (by omega)]; exact c1, c2, by rw [hF _ _ (by omega)]; exact c3, by rw [hF _ _ (by omega)]; exact c4, by rw [hF _ _ (by omega)]; exact c5, ?_, by omega, by omega, by omega, by rw [hF _ _ (by omega)]; exact c10, c11, by rw [hF _ _ (by omega)]; exact c12, ?_, by omega⟩, by rw [hr2, if_neg (by omega)]; exact d0, by rw [hF _ _ (by omega)]; exact d1, by rw [hF _ _ (by omega)]; exact d2, by rw [hF _ _ (by omega)]; exact d3, ?_, by rw [hF _ _ (by omega)]; exact d5, by rw [hF _ _ (by omega)]; exact d6, ?_⟩
            · rw [h2]; unfold zg_spl; rw [zui_f, if_neg (by omega), zui_f, if_pos ⟨rfl, rfl⟩]; exact hkn
            · rw [h2]; unfold zg_spl; rw [zui_f, if_pos ⟨rfl, rfl⟩]; rfl
            · rw [hcl2 _ _ (by omega)]; unfold zu_sp2; rw [zui_f, if_neg (by omega), zui_f, if_pos ⟨rfl, rfl⟩]; exact hkn
            · rw [hcl2 _ _ (by omega)]; unfold zu_sp2; rw [zui_f, if_pos ⟨rfl, rfl⟩]; rfl
          · exact zJc1_c (fun j => hF _ _ (by omega)) (fun x h1 h2 => hF _ _ (by omega)) (by rw [hr2, if_neg (by omega)]) (kc e he)
  · have hk : kx = zu_spl M1 c k ∧ ¬ zu_spl M1 c k = 0 := by
      rcases g with ⟨rfl, g⟩ | ⟨rfl, g⟩ <;> rw [g] <;> exact ⟨rfl, by decide⟩
    rcases h2 with ⟨-, h2⟩ | ⟨h, -⟩
    · subst h2
      exact ⟨by rw [zui_f, if_pos ⟨rfl, rfl⟩, hk.1], zJ_same hJ rfl (fun c j h => by rw [zui_f, if_neg h]), fun h => absurd (hk.1.symm.trans h) hk.2⟩
    · exact absurd h hk.2
end ZS

/-! One call on both sides keeps the invariant, and they answer alike: samples, seal, take, drop, fader, effect, turn. -/
theorem zn_cut16 (x : Int64) : x.toInt32.toInt16.toInt32 = if (x &&& 65535).toInt32 ≤ 32767 then (x &&& 65535).toInt32 else (x &&& 65535).toInt32 - 65536 := by
  have e1 : (x &&& 65535).toInt = ((x.toBitVec.toNat % 65536 : Nat) : Int) := by
    have h1 : (x &&& 65535).toBitVec.toNat = x.toBitVec.toNat % 65536 := by
      show (x.toBitVec &&& (65535 : Int64).toBitVec).toNat = _
      rw [BitVec.toNat_and]
      show x.toBitVec.toNat &&& (2 ^ 16 - 1) = _
      rw [Nat.and_two_pow_sub_one_eq_mod]
    show (x &&& 65535).toBitVec.toInt = _
    rw [BitVec.toInt_eq_toNat_of_lt (by omega), h1]
  have e2 : (x &&& 65535).toInt32.toInt = ((x.toBitVec.toNat % 65536 : Nat) : Int) := by rw [zn_l2i (by omega) (by omega), e1]
  have e3 : x.toInt32.toInt16.toInt32.toInt = ((x.toBitVec.toNat : Nat) : Int).bmod 65536 := by
    rw [Int16.toInt_toInt32]
    show (x.toInt32.toBitVec.signExtend 16).toInt = _
    rw [BitVec.toInt_signExtend]
    show (x.toBitVec.signExtend 32).toInt.bmod (2 ^ min 16 32) = _
    rw [BitVec.toInt_signExtend]
    show (x.toBitVec.toInt.bmod (2 ^ min 32 64)).bmod (2 ^ 16) = _
    rw [BitVec.toInt_eq_toNat_bmod]
    have : ∀ a : Int, ((a.bmod (2 ^ 64)).bmod (2 ^ min 32 64)).bmod (2 ^ 16) = a.bmod 65536 := fun a => by
      rw [show min 32 64 = 32 from rfl, Int.bmod_bmod_of_dvd (by decide), Int.bmod_bmod_of_dvd (by decide)]
    exact this _
  apply Int32.toInt_inj.mp
  rw [e3]
  have h5 : (32767 : Int32).toInt = 32767 := by decide
  have h6 : (65536 : Int32).toInt = 65536 := by decide
  by_cases h : (x &&& 65535).toInt32 ≤ 32767
  · rw [if_pos h, e2]
    rw [Int32.le_iff_toInt_le, e2, h5] at h
    simp only [Int.bmod_def]
    omega
  · rw [if_neg h, zn_sub (by rw [e2, h6]; omega) (by rw [e2, h6]; omega), e2, h6]
    rw [Int32.le_iff_toInt_le, e2, h5] at h
    simp only [Int.bmod_def]
    omega
theorem zf_sh_eq (four : Int64) (j : Nat) : zf_sh four j = zg_sh four j := zn_cut16 _
theorem zg_sh_b (four : Int64) (j : Nat) : -32768 ≤ (zg_sh four j).toInt ∧ (zg_sh four j).toInt ≤ 32767 := by
  rw [← zf_sh_eq]
  unfold zf_sh
  rw [Int16.toInt_toInt32]
  have h1 := Int16.le_toInt (four >>> (((16 : Int32) * nI j).toInt64 &&& 63)).toInt32.toInt16
  have h2 := Int16.toInt_lt (four >>> (((16 : Int32) * nI j).toInt64 &&& 63)).toInt32.toInt16
  omega
section ZS
variable {M M1 M2 : zm_T}
theorem zL_1 {N N' : (Nat → Nat → Option Nat) × (Nat → Nat → Int64)} (e : N'.1 = N.1) (h : zL N) : zL N' := by
  unfold zL at *
  rw [e]
  exact h
/-- the invariant, where most of the cells are as they were -/
theorem zJ_k (hJ : zJ M) (hr : M2.2.1 = M.2.1) (ht : zJt M → zJt M2) (hc : zJc M → zJc M2) (hro : (zJr M ∧ ∀ a, ¬ gq_T (zgf M) a a) → (zJr M2 ∧ ∀ a, ¬ gq_T (zgf M2) a a)) (he : zJe M → zJe M2) (hf : zJf M → zJf M2) (hm : zJm M → zJm M2) (hb : zJb M → zJb M2) : zJ M2 := by
  obtain ⟨k0, k1, k2, k3, k4, k5, k6, k7⟩ := hJ
  exact ⟨zL_1 hr k0, ht k1, hc k2, hro k3, he k4, hf k5, hm k6, hb k7⟩
theorem zJr2_c (h : ∀ s, s < 8 → M2.1 (23 + 14 * s) 4 = M.1 (23 + 14 * s) 4) (h2 : ∀ s j, s < 8 → M2.1 (29 + 14 * s) j = M.1 (29 + 14 * s) j) (h3 : ∀ j, M2.1 163 j = M.1 163 j) (h4 : ∀ j, M2.1 164 j = M.1 164 j) (k : zJr M ∧ ∀ a, ¬ gq_T (zgf M) a a) : zJr M2 ∧ ∀ a, ¬ gq_T (zgf M2) a a :=
  ⟨zJr_c h h2 h3 h4 k.1, by rw [zgf_eq h3 h4]; exact k.2⟩
/-- nothing but the reference's code is set, and the longs -/
theorem zJ_same (hJ : zJ M) (hr : M2.2.1 = M.2.1) (hF : ∀ c j, ¬ (c = 151 ∧ j = 0) → M2.1 c j = M.1 c j) : zJ M2 :=
  zJ_k hJ hr (zJt_c (fun c j h => hF c j (by omega))) (zJc_c (fun c j h => hF c j (by omega)) (fun c _ => by rw [hr])) (zJr2_c (fun s _ => hF _ _ (by omega)) (fun s j _ => hF _ _ (by omega)) (fun j => hF _ _ (by omega)) (fun j => hF _ _ (by omega)))
    (zJe_c (fun s i j _ _ _ _ => hF _ _ (by omega)) (fun c j _ _ => hF _ _ (by omega))) (zJf_c (fun s j _ _ => hF _ _ (by omega)) (fun s c j _ _ _ => hF _ _ (by omega)) (fun c j _ _ => hF _ _ (by omega))) (zJm_c (fun s j _ _ => hF _ _ (by omega)) (fun c j _ _ => hF _ _ (by omega)))
    (zJb_c (fun j _ => hF _ _ (by omega)) (fun s j _ => hF _ _ (by omega)) (hF _ _ (by omega)) (fun j => hF _ _ (by omega)))
theorem zui_f {M : zm_T} {a k c j : Nat} {v : Int32} : (zm_ui M a k v).1 c j = if c = a ∧ j = k then v else M.1 c j := rfl
theorem zseg_f {M : zm_T} {b i n c k : Nat} {f : Nat → Int32} : (zm_seg M b i n f).1 c k = if c = b ∧ i ≤ k ∧ k < i + n then f (k - i) else M.1 c k := rfl
theorem zJt_len (k : zJt M) {t : Nat} (ht : t < 8) : (M.1 153 t ≤ 0 ↔ M.1 (135 + 2 * t) 1 = 0) ∧ (M.1 153 t = 0 ↔ M.1 (135 + 2 * t) 1 = 0) := by
  obtain ⟨h1, h2, h3, -⟩ := k t ht
  rw [h1]
  refine ⟨⟨fun h => ?_, fun h => by rw [h]; decide⟩, Iff.rfl⟩
  rw [Int32.le_iff_toInt_le, zn_0] at h
  exact Int32.toInt_inj.mp (by rw [zn_0]; omega)
theorem zi_s {t i : Int32} {n : Nat} {hi : Int32} (hh : hi.toInt = n) (h : ¬ zf_in t 0 hi = 0) : t.toNatClampNeg ≤ n ∧ nI t.toNatClampNeg = t := by
  obtain ⟨a, ha, rfl⟩ := zf_in_n hh h
  have : (0 : Int) ≤ n := by omega
  have hlt : n < 2147483648 := by have := Int32.toInt_lt hi; omega
  rw [zn_cl (by omega)]
  exact ⟨ha, rfl⟩
theorem s_samples {t i k : Int32} {four : Int64} (hJ : zJ M) (h1 : (k = 0 ∧ (zu_sam M t i = 0 ∧ M1 = zm_seg M (136 + 2 * t.toNatClampNeg) i.toNatClampNeg 4 (zf_sh four))) ∨ (M1 = M ∧ ((k = 1 ∧ (zu_sam M t i = 1)) ∨ (k = 2 ∧ (zu_sam M t i = 2)))))
    (h2 : M2 = if zv_sam M1 t i = 0 then zm_seg (zm_ui M1 151 0 0) 152 (64 * t.toNatClampNeg + i.toNatClampNeg) 4 (zg_sh four) else zm_ui M1 151 0 (zv_sam M1 t i)) : M2.1 151 0 = k ∧ zJ M2 := by
  have e153 : ∀ j, M1.1 153 j = M.1 153 j := fun j => by
    rcases h1 with ⟨-, -, rfl⟩ | ⟨rfl, -⟩
    · rw [zseg_f, if_neg (by omega)]
    · rfl
  have hz : zv_sam M1 t i = zu_sam M t i := by
    unfold zv_sam zu_sam
    by_cases g1 : zf_in t 0 7 = 0
    · rw [if_pos g1, if_pos g1]
    · rw [if_neg g1, if_neg g1]
      have hl := (zJt_len hJ.2.1 (t := t.toNatClampNeg) (by have := (zi_s (i := 0) (n := 7) (by decide) g1).1; omega)).1
      rw [e153]
      by_cases g2 : zf_in i 0 60 = 0
      · rw [if_pos g2, if_pos g2]
      · rw [if_neg g2, if_neg g2]
        by_cases g3 : M.1 (135 + 2 * t.toNatClampNeg) 1 = 0
        · rw [if_pos g3, if_pos (hl.mpr g3)]
        · rw [if_neg g3, if_neg (fun h => g3 (hl.mp h))]
  rw [hz] at h2
  rcases h1 with ⟨rfl, g0, g1⟩ | ⟨rfl, g⟩
  · rw [if_pos g0] at h2
    have hin : ¬ zf_in t 0 7 = 0 ∧ ¬ zf_in i 0 60 = 0 := by
      unfold zu_sam at g0
      constructor
      · intro h; rw [if_pos h] at g0; exact absurd g0 (by decide)
      · intro h
        by_cases h' : zf_in t 0 7 = 0
        · rw [if_pos h'] at g0; exact absurd g0 (by decide)
        · rw [if_neg h', if_pos h] at g0; exact absurd g0 (by decide)
    have ht := (zi_s (i := 0) (n := 7) (by decide) hin.1).1
    have hi := (zi_s (i := 0) (n := 60) (by decide) hin.2).1
    generalize t.toNatClampNeg = tn at *
    generalize i.toNatClampNeg = im at *
    subst h2 g1
    have hF : ∀ c j, ¬ (c = 151 ∧ j = 0) → c ≠ 152 → c ≠ 136 + 2 * tn → (zm_seg (zm_ui (zm_seg M (136 + 2 * tn) im 4 (zf_sh four)) 151 0 0) 152 (64 * tn + im) 4 (zg_sh four)).1 c j = M.1 c j := fun c j a b d => by
      rw [zseg_f, if_neg (by omega), zui_f, if_neg (by omega), zseg_f, if_neg (by omega)]
    refine ⟨by rw [zseg_f, if_neg (by omega), zui_f, if_pos ⟨rfl, rfl⟩], zJ_k hJ rfl (fun k => ?_) (zJc_c (fun c j h => hF c j (by omega) (by omega) (by omega)) (fun c _ => rfl)) (zJr2_c (fun s _ => hF _ _ (by omega) (by omega) (by omega)) (fun s j _ => hF _ _ (by omega) (by omega) (by omega)) (fun j => hF _ _ (by omega) (by omega) (by omega)) (fun j => hF _ _ (by omega) (by omega) (by omega)))
      (zJe_c (fun s i j _ _ _ _ => hF _ _ (by omega) (by omega) (by omega)) (fun c j _ _ => hF _ _ (by omega) (by omega) (by omega))) (zJf_c (fun s j _ _ => hF _ _ (by omega) (by omega) (by omega)) (fun s c j _ _ _ => hF _ _ (by omega) (by omega) (by omega)) (fun c j _ _ => hF _ _ (by omega) (by omega) (by omega))) (zJm_c (fun s j _ _ => hF _ _ (by omega) (by omega) (by omega)) (fun c j _ _ => hF _ _ (by omega) (by omega) (by omega)))
      (zJb_c (fun j _ => hF _ _ (by omega) (by omega) (by omega)) (fun s j _ => hF _ _ (by omega) (by omega) (by omega)) (hF _ _ (by omega) (by omega) (by omega)) (fun j => hF _ _ (by omega) (by omega) (by omega)))⟩
    intro u hu
    obtain ⟨k1, k2, k3, k4⟩ := k u hu
    rw [hF _ _ (by omega) (by omega) (by omega), hF 153 _ (by omega) (by omega) (by omega)]
    refine ⟨k1, k2, k3, fun q hq => ?_⟩
    obtain ⟨k5, k6⟩ := k4 q hq
    by_cases hu' : u = tn ∧ im ≤ q ∧ q < im + 4
    · obtain ⟨rfl, q1, q2⟩ := hu'
      have e2 : (zm_seg (zm_ui (zm_seg M (136 + 2 * u) im 4 (zf_sh four)) 151 0 0) 152 (64 * u + im) 4 (zg_sh four)).1 152 (64 * u + q) = zg_sh four (q - im) := by
        rw [zseg_f, if_pos (by omega)]
        congr 1; omega
      rw [e2]
      refine ⟨?_, zg_sh_b _ _⟩
      rw [zseg_f, if_neg (by omega), zui_f, if_neg (by omega), zseg_f, if_pos (by omega), zf_sh_eq]
    · have e2 : (zm_seg (zm_ui (zm_seg M (136 + 2 * tn) im 4 (zf_sh four)) 151 0 0) 152 (64 * tn + im) 4 (zg_sh four)).1 152 (64 * u + q) = M.1 152 (64 * u + q) := by
        rw [zseg_f, if_neg (by omega), zui_f, if_neg (by omega), zseg_f, if_neg (by omega)]
      rw [e2]
      refine ⟨?_, k6⟩
      rw [zseg_f, if_neg (by omega), zui_f, if_neg (by omega), zseg_f, if_neg (by omega)]
      exact k5
  · have hk : zu_sam M1 t i = k ∧ ¬ zu_sam M1 t i = 0 := by
      rcases g with ⟨rfl, g⟩ | ⟨rfl, g⟩ <;> rw [g] <;> exact ⟨rfl, by decide⟩
    rw [if_neg hk.2, hk.1] at h2
    subst h2
    exact ⟨by rw [zui_f, if_pos ⟨rfl, rfl⟩], zJ_same hJ rfl (fun c j h => by rw [zui_f, if_neg h])⟩
end ZS

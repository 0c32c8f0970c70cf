/-! An effect's next sample, by what the numbers stand for. -/
def zE_ok (k p q : Int) : Prop := (k = 1 → 0 ≤ p ∧ p ≤ 1024) ∧ (k = 2 → 0 ≤ p ∧ p ≤ 256) ∧ (k = 3 → 1 ≤ p ∧ p ≤ 32 ∧ 0 ≤ q ∧ q ≤ 255) ∧ (k = 4 → 1 ≤ p ∧ p ≤ 100000 ∧ 0 ≤ q ∧ q ≤ 16) ∧ (k = 5 → 0 ≤ p ∧ p ≤ 100000 ∧ 0 ≤ q ∧ q ≤ 64) ∧ (k = 6 → 0 ≤ p ∧ p ≤ 100000)
def zE_st (k p q pl me : Int) (pa : Nat → Int) : Prop := (∀ i, i < 32 → -16777216 ≤ pa i ∧ pa i ≤ 16777216) ∧ 0 ≤ pl ∧ pl < 32 ∧ (k = 3 → pl < p) ∧ (k = 4 → pl ≤ q) ∧ -16777216 ≤ me ∧ me ≤ 16777216 ∧ (k = 4 → 0 ≤ me) ∧ (k = 5 → 0 ≤ me ∧ me ≤ 65)
def zE_S (M : zm_T) (a b : Nat) : Prop := zE_st (M.1 a 1).toInt (M.1 a 2).toInt (M.1 a 3).toInt (M.1 a 4).toInt (M.1 a 5).toInt (fun i => (M.1 b i).toInt)
def zE_K (M : zm_T) (a : Nat) : Prop := zE_ok (M.1 a 1).toInt (M.1 a 2).toInt (M.1 a 3).toInt
def zE_post (M M' : zm_T) (a b : Nat) (x r : Int32) : Prop :=
  M'.2 = M.2 ∧ (∀ c j, c ≠ a → c ≠ b → M'.1 c j = M.1 c j) ∧ (∀ j, j < 4 → M'.1 a j = M.1 a j) ∧ zE_S M' a b ∧
  ze_N (M.1 a 1).toInt (M.1 a 2).toInt (M.1 a 3).toInt x.toInt (fun i => (M.1 b i).toInt) (M.1 a 4).toInt.toNat (M.1 a 5).toInt r.toInt (fun i => (M'.1 b i).toInt) (M'.1 a 4).toInt.toNat (M'.1 a 5).toInt ∧
  -16777216 ≤ r.toInt ∧ r.toInt ≤ 16777216
section ZE
variable {M : zm_T} {a b : Nat} {x : Int32}
theorem zE_1 (hk : (M.1 a 1).toInt = 1) (hK : zE_K M a) (hS : zE_S M a b) (hx1 : -16777216 ≤ x.toInt) (hx2 : x.toInt ≤ 16777216) : zE_post M M a b x (zf_cut (zf_at x (M.1 a 2))) := by
  obtain ⟨p1, p2⟩ := hK.1 hk
  have hb := zi_cut_b (zf_at x (M.1 a 2)).toInt
  rw [← zf_cut_eq] at hb
  refine ⟨rfl, fun _ _ _ _ => rfl, fun _ _ => rfl, hS, ?_, hb.1, hb.2⟩
  unfold ze_N
  rw [if_pos hk, zf_cut_eq, zf_at_eq (by omega) (by omega) p1 p2]
theorem zE_2 (hk : (M.1 a 1).toInt = 2) (hab : a ≠ b) (hK : zE_K M a) (hS : zE_S M a b) (hx1 : -16777216 ≤ x.toInt) (hx2 : x.toInt ≤ 16777216) : zE_post M (zm_ui M a 5 (M.1 a 5 + zf_at (x - M.1 a 5) (M.1 a 2))) a b x (zf_cut (M.1 a 5 + zf_at (x - M.1 a 5) (M.1 a 2))) := by
  obtain ⟨p1, p2⟩ := hK.2.1 hk
  obtain ⟨s1, s2, s3, s4, s5, s6, s7, s8, s9⟩ := hS
  have s1 : ∀ i, i < 32 → -16777216 ≤ (M.1 b i).toInt ∧ (M.1 b i).toInt ≤ 16777216 := s1
  have e1 : (x - M.1 a 5).toInt = x.toInt - (M.1 a 5).toInt := zn_sub (by omega) (by omega)
  have e2 : (zf_at (x - M.1 a 5) (M.1 a 2)).toInt = (x.toInt - (M.1 a 5).toInt) * (M.1 a 2).toInt / 256 := by
    rw [zf_at_eq (by omega) (by omega) p1 (by omega), e1]
  have hd : (M.1 a 5).toInt + (x.toInt - (M.1 a 5).toInt) * (M.1 a 2).toInt / 256 ≤ 16777216 ∧ -16777216 ≤ (M.1 a 5).toInt + (x.toInt - (M.1 a 5).toInt) * (M.1 a 2).toInt / 256 := by
    by_cases h : (M.1 a 5).toInt ≤ x.toInt
    · have h1 : 0 ≤ (x.toInt - (M.1 a 5).toInt) * (M.1 a 2).toInt := Int.mul_nonneg (by omega) p1
      have h2 : (x.toInt - (M.1 a 5).toInt) * (M.1 a 2).toInt ≤ (x.toInt - (M.1 a 5).toInt) * 256 := Int.mul_le_mul_of_nonneg_left p2 (by omega)
      omega
    · have h1 : (x.toInt - (M.1 a 5).toInt) * (M.1 a 2).toInt ≤ (x.toInt - (M.1 a 5).toInt) * 0 := Int.mul_le_mul_of_nonpos_left (by omega) p1
      have h2 : (x.toInt - (M.1 a 5).toInt) * 256 ≤ (x.toInt - (M.1 a 5).toInt) * (M.1 a 2).toInt := Int.mul_le_mul_of_nonpos_left (by omega) p2
      omega
  have e3 : (M.1 a 5 + zf_at (x - M.1 a 5) (M.1 a 2)).toInt = (M.1 a 5).toInt + (x.toInt - (M.1 a 5).toInt) * (M.1 a 2).toInt / 256 := by
    rw [zn_add] <;> rw [e2] <;> omega
  have hba : b ≠ a := fun h => hab h.symm
  have hb := zi_cut_b (M.1 a 5 + zf_at (x - M.1 a 5) (M.1 a 2)).toInt
  rw [← zf_cut_eq] at hb
  refine ⟨rfl, fun c j h1 _ => zm_ui_ne (Or.inl h1), fun j hj => zm_ui_ne (Or.inr (by omega)), ?_, ?_, hb.1, hb.2⟩
  · unfold zE_S
    rw [zm_ui_ne (Or.inr (by decide)), zm_ui_ne (Or.inr (by decide)), zm_ui_ne (Or.inr (by decide)), zm_ui_ne (Or.inr (by decide)), zm_ui_at]
    refine ⟨fun i hi => by dsimp only; rw [zm_ui_ne (Or.inl hba)]; exact s1 i hi, s2, s3, s4, s5, by rw [e3]; exact hd.2, by rw [e3]; exact hd.1, fun h => by omega, fun h => by omega⟩
  · unfold ze_N
    rw [if_neg (by omega), if_pos hk, zm_ui_at, e3, zf_cut_eq, e3]
    exact ⟨rfl, rfl⟩
theorem zE_3 {pl : Nat} (hpl : M.1 a 4 = nI pl) (hpl32 : pl < 32) (hk : (M.1 a 1).toInt = 3) (hab : a ≠ b) (hK : zE_K M a) (hS : zE_S M a b) (hx1 : -16777216 ≤ x.toInt) (hx2 : x.toInt ≤ 16777216) :
    zE_post M (zm_ui (zm_ui M b pl (zf_cut (x + zf_at (M.1 b pl) (M.1 a 3)))) a 4 (if M.1 a 2 ≤ nI pl + 1 then 0 else nI pl + 1)) a b x (zf_cut (x + zf_at (M.1 b pl) (M.1 a 3))) := by
  obtain ⟨p1, p2, q1, q2⟩ := hK.2.2.1 hk
  obtain ⟨s1, s2, s3, s4, s5, s6, s7, s8, s9⟩ := hS
  have s1 : ∀ i, i < 32 → -16777216 ≤ (M.1 b i).toInt ∧ (M.1 b i).toInt ≤ 16777216 := s1
  have h4 := s4 hk
  have hpi : (M.1 a 4).toInt = pl := by rw [hpl]; exact nI_toInt (by omega)
  obtain ⟨b1, b2⟩ := s1 pl hpl32
  have hba : b ≠ a := fun h => hab h.symm
  have hm := zn_abs_mul (x := (M.1 b pl).toInt) (y := (M.1 a 3).toInt) (a := 16777216) (b := 255) (by omega) (by omega) q1 q2
  have e1 : (zf_at (M.1 b pl) (M.1 a 3)).toInt = (M.1 b pl).toInt * (M.1 a 3).toInt / 256 := zf_at_eq (by omega) (by omega) q1 (by omega)
  have e2 : (x + zf_at (M.1 b pl) (M.1 a 3)).toInt = x.toInt + (M.1 b pl).toInt * (M.1 a 3).toInt / 256 := by
    rw [zn_add] <;> rw [e1] <;> omega
  have hb := zi_cut_b (x + zf_at (M.1 b pl) (M.1 a 3)).toInt
  rw [← zf_cut_eq] at hb
  generalize hr : zf_cut (x + zf_at (M.1 b pl) (M.1 a 3)) = r at hb ⊢
  have er : r.toInt = zi_cut (x.toInt + (M.1 b pl).toInt * (M.1 a 3).toInt / 256) := by rw [← hr, zf_cut_eq, e2]
  have ev : (if M.1 a 2 ≤ nI pl + 1 then 0 else nI pl + 1 : Int32) = nI (if pl + 1 < (M.1 a 2).toInt.toNat then pl + 1 else 0) := by
    rw [← nI_succ]
    by_cases h : M.1 a 2 ≤ nI (pl + 1)
    · have h' := h
      rw [Int32.le_iff_toInt_le, nI_toInt (by omega)] at h'
      rw [if_pos h, if_neg (by omega)]; rfl
    · have h' := h
      rw [Int32.le_iff_toInt_le, nI_toInt (by omega)] at h'
      rw [if_neg h, if_pos (by omega)]
  rw [ev]
  have hlt : (if pl + 1 < (M.1 a 2).toInt.toNat then pl + 1 else 0) < 32 ∧ ((if pl + 1 < (M.1 a 2).toInt.toNat then pl + 1 else 0 : Nat) : Int) < (M.1 a 2).toInt := by split <;> omega
  generalize hE : (if pl + 1 < (M.1 a 2).toInt.toNat then pl + 1 else 0) = pl' at hlt ⊢
  have eb : ∀ i, (zm_ui (zm_ui M b pl r) a 4 (nI pl')).1 b i = if i = pl then r else M.1 b i := fun i => by simp [zm_ui, hba]
  have ea : ∀ j, j ≠ 4 → (zm_ui (zm_ui M b pl r) a 4 (nI pl')).1 a j = M.1 a j := fun j hj => by rw [zm_ui_ne (Or.inr hj), zm_ui_ne (Or.inl hab)]
  have e4 : ((zm_ui (zm_ui M b pl r) a 4 (nI pl')).1 a 4).toInt = pl' := by rw [zm_ui_at]; exact nI_toInt (by omega)
  refine ⟨rfl, fun c j h1 h2 => by rw [zm_ui_ne (Or.inl h1), zm_ui_ne (Or.inl h2)], fun j hj => ea j (by omega), ?_, ?_, hb.1, hb.2⟩
  · unfold zE_S
    rw [ea 1 (by decide), ea 2 (by decide), ea 3 (by decide), ea 5 (by decide), e4]
    refine ⟨fun i hi => ?_, by omega, by omega, fun _ => by omega, fun h => by omega, s6, s7, fun h => by omega, fun h => by omega⟩
    dsimp only
    rw [eb]
    split
    · exact hb
    · exact s1 i hi
  · unfold ze_N
    rw [if_neg (by omega), if_neg (by omega), if_pos hk, e4, hpi]
    dsimp only
    refine ⟨er, by rw [Int.toNat_natCast, eb, if_pos rfl], fun i hi hne => ?_, ?_⟩
    · rw [Int.toNat_natCast] at hne
      rw [eb, if_neg hne]
    · rw [Int.toNat_natCast, Int.toNat_natCast, hE]
theorem zE_lim_eq {p z m : Int32} (hp : 1 ≤ p.toInt) (hp2 : p.toInt ≤ 100000) (hz1 : -16777216 ≤ z.toInt) (hz2 : z.toInt ≤ 16777216) (hm : ze_abs z.toInt ≤ m.toInt) : (zf_lim p z m).toInt = ze_lim p.toInt z.toInt m.toInt ∧ -16777216 ≤ (zf_lim p z m).toInt ∧ (zf_lim p z m).toInt ≤ 16777216 := by
  have hm2 := Int32.toInt_lt m
  unfold zf_lim ze_lim
  by_cases h : p < m
  · have h' := Int32.lt_iff_toInt_lt.mp h
    rw [if_pos h, if_neg (by omega)]
    have hmul := zn_abs_mul (x := z.toInt) (y := p.toInt) (a := 16777216) (b := 100000) (by omega) (by omega) (by omega) (by omega)
    have e1 : (z.toInt64 * p.toInt64).toInt = z.toInt * p.toInt := by
      rw [zn_lmul] <;> rw [Int32.toInt_toInt64, Int32.toInt_toInt64] <;> omega
    have hne : m.toInt64 ≠ -1 := by
      intro he
      have : m.toInt64.toInt = (-1 : Int64).toInt := by rw [he]
      rw [Int32.toInt_toInt64, show (-1 : Int64).toInt = -1 from by decide] at this
      omega
    have e2 : (z.toInt64 * p.toInt64 / m.toInt64).toInt = (z.toInt * p.toInt).tdiv m.toInt := by
      rw [Int64.toInt_div_of_ne_right _ _ hne, e1, Int32.toInt_toInt64]
    have hb : -16777216 ≤ (z.toInt * p.toInt).tdiv m.toInt ∧ (z.toInt * p.toInt).tdiv m.toInt ≤ 16777216 := by
      have hmpos : 0 < m.toInt := by omega
      by_cases hz : 0 ≤ z.toInt
      · have h0 : 0 ≤ z.toInt * p.toInt := Int.mul_nonneg hz (by omega)
        rw [Int.tdiv_eq_ediv_of_nonneg h0]
        have h1 : z.toInt * p.toInt ≤ z.toInt * m.toInt := Int.mul_le_mul_of_nonneg_left (by omega) hz
        have h2 : z.toInt * p.toInt / m.toInt ≤ z.toInt * m.toInt / m.toInt := Int.ediv_le_ediv hmpos h1
        rw [Int.mul_ediv_cancel _ (by omega)] at h2
        have h3 : 0 ≤ z.toInt * p.toInt / m.toInt := Int.ediv_nonneg h0 (by omega)
        omega
      · have e : z.toInt * p.toInt = -((-z.toInt) * p.toInt) := by rw [Int.neg_mul, Int.neg_neg]
        rw [e, Int.neg_tdiv]
        have h0 : 0 ≤ (-z.toInt) * p.toInt := Int.mul_nonneg (by omega) (by omega)
        rw [Int.tdiv_eq_ediv_of_nonneg h0]
        have h1 : (-z.toInt) * p.toInt ≤ (-z.toInt) * m.toInt := Int.mul_le_mul_of_nonneg_left (by omega) (by omega)
        have h2 : (-z.toInt) * p.toInt / m.toInt ≤ (-z.toInt) * m.toInt / m.toInt := Int.ediv_le_ediv hmpos h1
        rw [Int.mul_ediv_cancel _ (by omega)] at h2
        have h3 : 0 ≤ (-z.toInt) * p.toInt / m.toInt := Int.ediv_nonneg h0 (by omega)
        omega
    rw [zn_l2i (by rw [e2]; omega) (by rw [e2]; omega), e2]
    exact ⟨rfl, hb.1, hb.2⟩
  · have h' := h
    rw [Int32.lt_iff_toInt_lt] at h'
    rw [if_neg h, if_pos (by omega)]
    exact ⟨rfl, hz1, hz2⟩
theorem zE_4 {M' : zm_T} {r : Int32} {pl q : Nat} (hpl : M.1 a 4 = nI pl) (hq : M.1 a 3 = nI q) (hq16 : q ≤ 16) (hplq : pl ≤ q) (hk : (M.1 a 1).toInt = 4) (hab : a ≠ b) (hK : zE_K M a) (hS : zE_S M a b) (hmx : ze_max (fun i => ze_abs (M.1 b i).toInt) (q + 1) (M.1 a 5).toInt) (hx1 : -16777216 ≤ x.toInt) (hx2 : x.toInt ≤ 16777216) (h : zE_limP M M' a b pl q x r) :
    zE_post M M' a b x r ∧ ze_max (fun i => ze_abs (M'.1 b i).toInt) (q + 1) (M'.1 a 5).toInt := by
  obtain ⟨p1, p2, q1, q2⟩ := hK.2.2.2.1 hk
  obtain ⟨s1, s2, s3, s4, s5, s6, s7, s8, s9⟩ := hS
  have s1 : ∀ i, i < 32 → -16777216 ≤ (M.1 b i).toInt ∧ (M.1 b i).toInt ≤ 16777216 := s1
  obtain ⟨h1, h2, h3, h4, h5, h6, h7⟩ := h
  have hqi : (M.1 a 3).toInt = q := by rw [hq]; exact nI_toInt (by omega)
  have hpi : (M.1 a 4).toInt = pl := by rw [hpl]; exact nI_toInt (by omega)
  have hlt : (if pl < q then pl + 1 else 0) ≤ q := by split <;> omega
  generalize hE : (if pl < q then pl + 1 else 0) = pl' at hlt h5 h7
  have h5i : (M'.1 a 4).toInt = pl' := by rw [h5]; exact nI_toInt (by omega)
  have hpa' : ∀ i, i < 32 → -16777216 ≤ (M'.1 b i).toInt ∧ (M'.1 b i).toInt ≤ 16777216 := by
    intro i hi
    rw [h4]
    split
    · exact ⟨hx1, hx2⟩
    · exact s1 i hi
  have hax : (zf_abs x).toInt = ze_abs x.toInt := zf_abs_eq (by omega)
  have hag : (zf_abs (M.1 b pl)).toInt = ze_abs (M.1 b pl).toInt := zf_abs_eq (by have := s1 pl (by omega); omega)
  have hput := ze_max_put (f := fun i => ze_abs (M.1 b i).toInt) (f' := fun i => ze_abs (M'.1 b i).toInt) (show pl < q + 1 by omega) hmx (fun i _ hne => by rw [h4, if_neg hne]) (ze_abs_nn _)
  have hpp : M'.1 b pl = x := by rw [h4, if_pos rfl]
  rw [hpp] at hput
  have hN : (M.1 a 5).toInt ≤ ze_abs x.toInt → (M'.1 a 5).toInt = ze_abs x.toInt := by
    intro hc
    rcases h6 with ⟨g1, g2⟩ | ⟨g1, g2⟩ | ⟨g1, g2⟩
    · rw [g2, hax]
    · have := Int32.lt_iff_toInt_lt.mp g1; rw [hax] at this; omega
    · have := Int32.lt_iff_toInt_lt.mp g1; rw [hax] at this; omega
  have hN2 : ze_abs x.toInt < (M.1 a 5).toInt → ze_abs (M.1 b pl).toInt = (M.1 a 5).toInt → ze_max (fun i => ze_abs (M'.1 b i).toInt) (q + 1) (M'.1 a 5).toInt := by
    intro hc hg
    rcases h6 with ⟨g1, g2⟩ | ⟨g1, g2, g3⟩ | ⟨g1, g2, g3⟩
    · have := Int32.le_iff_toInt_le.mp g1; rw [hax] at this; omega
    · exact g3
    · exact absurd (Int32.toInt_inj.mp (by rw [hag, hg])) g2
  have hN3 : ze_abs x.toInt < (M.1 a 5).toInt → ze_abs (M.1 b pl).toInt ≠ (M.1 a 5).toInt → (M'.1 a 5).toInt = (M.1 a 5).toInt := by
    intro hc hg
    rcases h6 with ⟨g1, g2⟩ | ⟨g1, g2, g3⟩ | ⟨g1, g2, g3⟩
    · have := Int32.le_iff_toInt_le.mp g1; rw [hax] at this; omega
    · exact absurd (by rw [← hag, g2]) hg
    · rw [g3]
  have hmx' : ze_max (fun i => ze_abs (M'.1 b i).toInt) (q + 1) (M'.1 a 5).toInt := by
    by_cases c1 : (M.1 a 5).toInt ≤ ze_abs x.toInt
    · rw [hN c1]; exact hput.1 c1
    · by_cases c2 : ze_abs (M.1 b pl).toInt = (M.1 a 5).toInt
      · exact hN2 (by omega) c2
      · rw [hN3 (by omega) c2]; exact hput.2 (by omega) c2
  obtain ⟨z1, z2⟩ := hpa' pl' (by omega)
  have hzm : ze_abs (M'.1 b pl').toInt ≤ (M'.1 a 5).toInt := hmx'.2.1 pl' (by omega)
  obtain ⟨l1, l2, l3⟩ := zE_lim_eq p1 p2 z1 z2 hzm
  rw [← h7] at l1 l2 l3
  have hmb : (M'.1 a 5).toInt ≤ 16777216 := by
    rcases hmx'.2.2 with h0 | ⟨i, hi, h0⟩
    · omega
    · have := hpa' i (by omega)
      dsimp only at h0
      unfold ze_abs at h0
      split at h0 <;> omega
  have hm0 := hmx'.1
  refine ⟨⟨h1, h2, h3, ?_, ?_, l2, l3⟩, hmx'⟩
  · unfold zE_S
    rw [h3 1 (by decide), h3 2 (by decide), h3 3 (by decide), h5i]
    exact ⟨hpa', by omega, by omega, fun h => by omega, fun _ => by omega, by omega, hmb, fun _ => hm0, fun h => by omega⟩
  · unfold ze_N
    rw [if_neg (by omega), if_neg (by omega), if_neg (by omega), if_pos hk, hpi, h5i, hqi]
    dsimp only
    simp only [Int.toNat_natCast]
    exact ⟨by rw [hpp], fun i _ hne => by rw [h4, if_neg hne], hE.symm, hN, hN2, hN3, l1⟩
theorem zE_5 (hk : (M.1 a 1).toInt = 5) (hab : a ≠ b) (hK : zE_K M a) (hS : zE_S M a b) (hx1 : -16777216 ≤ x.toInt) (hx2 : x.toInt ≤ 16777216) : zE_post M (zf_gate M a x).2 a b x (zf_gate M a x).1 := by
  obtain ⟨p1, p2, q1, q2⟩ := hK.2.2.2.2.1 hk
  have hS0 := hS
  obtain ⟨s1, s2, s3, s4, s5, s6, s7, s8, s9⟩ := hS
  have s1 : ∀ i, i < 32 → -16777216 ≤ (M.1 b i).toInt ∧ (M.1 b i).toInt ≤ 16777216 := s1
  obtain ⟨t1, t2⟩ := s9 hk
  have hba : b ≠ a := fun h => hab h.symm
  have hax : (zf_abs x).toInt = ze_abs x.toInt := zf_abs_eq (by omega)
  have c0 : (0 : Int32).toInt = 0 := by decide
  have c1 : (1 : Int32).toInt = 1 := by decide
  have eq1 : (M.1 a 3 + 1).toInt = (M.1 a 3).toInt + 1 := by rw [zn_add] <;> rw [c1] <;> omega
  have mk : ∀ (w r : Int32), 0 ≤ w.toInt → w.toInt ≤ 65 → ze_N 5 (M.1 a 2).toInt (M.1 a 3).toInt x.toInt (fun i => (M.1 b i).toInt) (M.1 a 4).toInt.toNat (M.1 a 5).toInt r.toInt (fun i => (M.1 b i).toInt) (M.1 a 4).toInt.toNat w.toInt → -16777216 ≤ r.toInt → r.toInt ≤ 16777216 → ∀ M', M'.2 = M.2 → (∀ c j, c ≠ a ∨ j ≠ 5 → M'.1 c j = M.1 c j) → M'.1 a 5 = w → zE_post M M' a b x r := by
    intro w r w1 w2 hN r1 r2 M' h2 ho h5
    refine ⟨h2, fun c j hc _ => ho c j (Or.inl hc), fun j hj => ho a j (Or.inr (by omega)), ?_, ?_, r1, r2⟩
    · unfold zE_S
      rw [ho a 1 (Or.inr (by decide)), ho a 2 (Or.inr (by decide)), ho a 3 (Or.inr (by decide)), ho a 4 (Or.inr (by decide)), h5]
      exact ⟨fun i hi => by dsimp only; rw [ho b i (Or.inl hba)]; exact s1 i hi, s2, s3, s4, s5, by omega, by omega, fun h => by omega, fun _ => ⟨w1, w2⟩⟩
    · rw [ho a 4 (Or.inr (by decide)), h5, hk]
      have e : (fun i => (M'.1 b i).toInt) = fun i => (M.1 b i).toInt := by funext i; rw [ho b i (Or.inl hba)]
      rw [e]
      exact hN
  have hN : ∀ (n' y w : Int), (if (M.1 a 2).toInt ≤ ze_abs x.toInt then (M.1 a 3).toInt + 1 else (M.1 a 5).toInt) = n' → y = (if 0 < n' then x.toInt else 0) → w = (if 0 < n' then n' - 1 else n') → ze_N 5 (M.1 a 2).toInt (M.1 a 3).toInt x.toInt (fun i => (M.1 b i).toInt) (M.1 a 4).toInt.toNat (M.1 a 5).toInt y (fun i => (M.1 b i).toInt) (M.1 a 4).toInt.toNat w := by
    intro n' y w hn hy hw
    unfold ze_N
    rw [if_neg (by decide), if_neg (by decide), if_neg (by decide), if_neg (by decide), if_pos rfl, hn]
    exact ⟨hy, hw⟩
  unfold zf_gate
  by_cases h1 : zf_abs x < M.1 a 2
  · have h1' := Int32.lt_iff_toInt_lt.mp h1
    rw [hax] at h1'
    rw [if_pos h1]
    by_cases h2 : M.1 a 5 = 0
    · have h2' : (M.1 a 5).toInt = 0 := by rw [h2, c0]
      rw [if_pos h2]
      exact mk (M.1 a 5) 0 (by omega) (by omega) (hN 0 _ _ (by rw [if_neg (by omega), h2']) (by rw [c0]; rfl) (by rw [h2']; rfl)) (by decide) (by decide) M rfl (fun _ _ _ => rfl) rfl
    · have h2' : (M.1 a 5).toInt ≠ 0 := fun h => h2 (Int32.toInt_inj.mp (by rw [h, c0]))
      rw [if_neg h2]
      have e5 : (M.1 a 5 - 1).toInt = (M.1 a 5).toInt - 1 := by rw [zn_sub] <;> rw [c1] <;> omega
      exact mk (M.1 a 5 - 1) x (by omega) (by omega) (hN (M.1 a 5).toInt _ _ (by rw [if_neg (by omega)]) (by rw [if_pos (by omega)]) (by rw [if_pos (by omega), e5])) hx1 hx2 _ rfl (fun c j h => zm_ui_ne h) zm_ui_at
  · have h1' := h1
    rw [Int32.lt_iff_toInt_lt, hax] at h1'
    have h2 : ¬ M.1 a 3 + 1 = 0 := fun h => by have : (M.1 a 3 + 1).toInt = (0 : Int32).toInt := by rw [h]
                                               rw [eq1, c0] at this; omega
    rw [if_neg h1, if_neg h2]
    have e5 : (M.1 a 3 + 1 - 1).toInt = (M.1 a 3).toInt := by rw [zn_sub] <;> rw [eq1, c1] <;> omega
    exact mk (M.1 a 3 + 1 - 1) x (by omega) (by omega) (hN ((M.1 a 3).toInt + 1) _ _ (by rw [if_pos (by omega)]) (by rw [if_pos (by omega)]) (by rw [if_pos (by omega), e5]; omega)) hx1 hx2 _ rfl (fun c j h => by rw [zm_ui_ne h, zm_ui_ne h]) zm_ui_at
def zf_clamp (p x : Int32) : Int32 := if -p < (if x < p then x else p) then (if x < p then x else p) else -p
theorem zE_6 (hk : (M.1 a 1).toInt = 6) (hK : zE_K M a) (hS : zE_S M a b) (hx1 : -16777216 ≤ x.toInt) (hx2 : x.toInt ≤ 16777216) : zE_post M M a b x (zf_clamp (M.1 a 2) x) := by
  obtain ⟨p1, p2⟩ := hK.2.2.2.2.2 hk
  have en : (-M.1 a 2).toInt = -(M.1 a 2).toInt := zn_neg (by omega)
  have e : (zf_clamp (M.1 a 2) x).toInt = if x.toInt < -(M.1 a 2).toInt then -(M.1 a 2).toInt else if (M.1 a 2).toInt < x.toInt then (M.1 a 2).toInt else x.toInt := by
    unfold zf_clamp
    by_cases h1 : x < M.1 a 2
    · have h1' := Int32.lt_iff_toInt_lt.mp h1
      rw [if_pos h1]
      by_cases h2 : -M.1 a 2 < x
      · have h2' := Int32.lt_iff_toInt_lt.mp h2
        rw [en] at h2'
        rw [if_pos h2, if_neg (by omega), if_neg (by omega)]
      · have h2' := h2
        rw [Int32.lt_iff_toInt_lt, en] at h2'
        rw [if_neg h2, en]
        split
        · rfl
        · rw [if_neg (by omega)]; omega
    · have h1' := h1
      rw [Int32.lt_iff_toInt_lt] at h1'
      rw [if_neg h1]
      by_cases h2 : -M.1 a 2 < M.1 a 2
      · rw [if_pos h2, if_neg (by omega)]
        split
        · rfl
        · omega
      · have h2' := h2
        rw [Int32.lt_iff_toInt_lt, en] at h2'
        rw [if_neg h2, en, if_neg (by omega)]
        split <;> omega
  refine ⟨rfl, fun _ _ _ _ => rfl, fun _ _ => rfl, hS, ?_, ?_, ?_⟩
  · unfold ze_N
    rw [if_neg (by omega), if_neg (by omega), if_neg (by omega), if_neg (by omega), if_neg (by omega), if_pos hk, e]
  · rw [e]; split; omega; split <;> omega
  · rw [e]; split; omega; split <;> omega
theorem zE_0 (hk : (M.1 a 1).toInt < 1 ∨ 6 < (M.1 a 1).toInt) (hS : zE_S M a b) (hx1 : -16777216 ≤ x.toInt) (hx2 : x.toInt ≤ 16777216) : zE_post M M a b x x := by
  refine ⟨rfl, fun _ _ _ _ => rfl, fun _ _ => rfl, hS, ?_, hx1, hx2⟩
  unfold ze_N
  rw [if_neg (by omega), if_neg (by omega), if_neg (by omega), if_neg (by omega), if_neg (by omega), if_neg (by omega)]
end ZE
set_option maxRecDepth 100000 in
set_option maxHeartbeats 4000000 in
theorem c_Ef_next (l : Launch) (G : zg_T) (nc : Nat) (sh : Nat → Nat × Nat) (M : zm_T) (a b : Nat) (x : Int32) (ha_a : a < nc) (hs_a : sh a = (10 + 2, 0)) (hv_a_0 : M.2.1 a 0 = some b) (ha_a_0 : b < nc) (hs_a_0 : sh b = (0, 32)) (hab : a ≠ b) (hE : zE_K M a) (hT : zE_S M a b) (hmx : (M.1 a 1).toInt = 4 → ze_max (fun i => ze_abs (M.1 b i).toInt) ((M.1 a 3).toInt.toNat + 1) (M.1 a 5).toInt) (hx1 : -16777216 ≤ x.toInt) (hx2 : x.toInt ≤ 16777216) : Met l ky_Ef_next (zr_ws ky_Ef_next kc_Ef_next 2 (some .int)) (zr_rm 3) (va_Pc [.ref (G.2.2.1 + a), .int x] (zm_B G nc sh M)) (va_Qi (fun (r : Int32) (M' : zm_T) => zE_post M M' a b x r) (zm_B G nc sh) (zm_A G)) 0 0 (zm_A G) := by
  refine zr_met (by decide +kernel) (Nat.le_of_ble_eq_true rfl) ?_
  intro p0 e0 s0 m0 below meth c0 ls hS hK hlk hr hl hI
  have hx := hS.1
  have hb := hS.2.1
  have hl : zl_has ls 2 [some (.ref (G.2.2.1 + a)), some (.int x)] := hl
  obtain ⟨pl, hpl32, hpl⟩ : ∃ pl : Nat, pl < 32 ∧ M.1 a 4 = nI pl := by
    obtain ⟨j, h1, h2⟩ := vp_in_of (x := M.1 a 4) (n := 32) (vp_in_iff.mpr ⟨hT.2.1, hT.2.2.1⟩) (by decide)
    exact ⟨j, h1, h2⟩
  have hpi : (M.1 a 4).toInt = pl := by rw [hpl]; exact nI_toInt (by omega)
  have hqn : (M.1 a 1).toInt = 4 → ∃ q : Nat, M.1 a 3 = nI q ∧ q ≤ 16 ∧ pl ≤ q ∧ (M.1 a 3).toInt.toNat = q := by
    intro hk
    obtain ⟨-, -, q1, q2⟩ := hE.2.2.2.1 hk
    obtain ⟨j, h1, h2⟩ := vp_in_of (x := M.1 a 3) (n := 17) (vp_in_iff.mpr ⟨q1, by omega⟩) (by decide)
    have h3 : (M.1 a 3).toInt = j := by rw [h2]; exact nI_toInt (by omega)
    have h4 := hT.2.2.2.2.1 hk
    exact ⟨j, h2, by omega, by omega, by omega⟩
  refine zr_aload_n hx hb kd_Ef_next_0 hl rfl ?_
  refine zr_geti hS hK kf_Ef_24 hI ha_a hs_a kd_Ef_next_1 ?_
  by_cases ht_lo : (M.1 a 1).toInt < 1
  · refine lv_tableOut (tgt := 121) hx hb kd_Ef_next_4 (Or.inl ht_lo) (by decide) ?_
    refine zr_iload_n hx hb kd_Ef_next_121 hl rfl ?_
    exact zr_iret hS hK hlk hr hI kd_Ef_next_122 (zE_0 (by omega) hT hx1 hx2)
  by_cases ht_hi : 6 < (M.1 a 1).toInt
  · refine lv_tableOut (tgt := 121) hx hb kd_Ef_next_4 (Or.inr ht_hi) (by decide) ?_
    refine zr_iload_n hx hb kd_Ef_next_121 hl rfl ?_
    exact zr_iret hS hK hlk hr hI kd_Ef_next_122 (zE_0 (by omega) hT hx1 hx2)
  by_cases ht_1 : (M.1 a 1).toInt = 1
  · refine lv_tableIn (tgt := 44) (off := 40) hx hb kd_Ef_next_4 ht_lo ht_hi (by rw [ht_1]; rfl) (by decide) ?_
    refine zr_iload_n hx hb kd_Ef_next_44 hl rfl ?_
    refine zr_aload_n hx hb kd_Ef_next_45 hl rfl ?_
    refine zr_geti hS hK kf_Ef_28 hI ha_a hs_a kd_Ef_next_46 ?_
    refine zr_ci (zr_runS hS hK (c_Mx_atLevel l G nc sh M _ _) km_Ef_46 hI rfl hl.1 (Nat.le_of_ble_eq_true rfl) (by decide) (by decide) kd_Ef_next_49 rfl) hI (fun r49 M49 H locs hp49 hI => ?_)
    obtain ⟨rfl, hM49⟩ := hp49
    rw [hM49] at hI
    refine zr_ci (zr_runS hS hK (c_Mx_cut l G nc sh M _) km_Ef_50 hI rfl hl.1 (Nat.le_of_ble_eq_true rfl) (by decide) (by decide) kd_Ef_next_52 rfl) hI (fun r52 M52 H locs hp52 hI => ?_)
    obtain ⟨rfl, hM52⟩ := hp52
    rw [hM52] at hI
    exact zr_iret hS hK hlk hr hI kd_Ef_next_55 (zE_1 ht_1 hE hT hx1 hx2)
  by_cases ht_2 : (M.1 a 1).toInt = 2
  · refine lv_tableIn (tgt := 56) (off := 52) hx hb kd_Ef_next_4 ht_lo ht_hi (by rw [ht_2]; rfl) (by decide) ?_
    refine zr_aload_n hx hb kd_Ef_next_56 hl rfl ?_
    refine lv_dup hx hb kd_Ef_next_57 rfl ?_
    refine zr_geti hS hK kf_Ef_43 hI ha_a hs_a kd_Ef_next_58 ?_
    refine zr_iload_n hx hb kd_Ef_next_61 hl rfl ?_
    refine zr_aload_n hx hb kd_Ef_next_62 hl rfl ?_
    refine zr_geti hS hK kf_Ef_43 hI ha_a hs_a kd_Ef_next_63 ?_
    refine lv_isub hx hb kd_Ef_next_66 ?_
    refine zr_aload_n hx hb kd_Ef_next_67 hl rfl ?_
    refine zr_geti hS hK kf_Ef_28 hI ha_a hs_a kd_Ef_next_68 ?_
    refine zr_ci (zr_runS hS hK (c_Mx_atLevel l G nc sh M _ _) km_Ef_46 hI rfl hl.1 (Nat.le_of_ble_eq_true rfl) (by decide) (by decide) kd_Ef_next_71 rfl) hI (fun r71 M71 H locs hp71 hI => ?_)
    obtain ⟨rfl, hM71⟩ := hp71
    rw [hM71] at hI
    refine lv_iadd hx hb kd_Ef_next_74 ?_
    refine zr_puti hS hK kf_Ef_43 hI ha_a hs_a rfl rfl kd_Ef_next_75 (fun H locs hI => ?_)
    refine zr_aload_n hx hb kd_Ef_next_78 hl rfl ?_
    refine zr_geti hS hK kf_Ef_43 hI ha_a hs_a kd_Ef_next_79 ?_
    refine zr_ci (zr_runS hS hK (c_Mx_cut l G nc sh _ _) km_Ef_50 hI rfl hl.1 (Nat.le_of_ble_eq_true rfl) (by decide) (by decide) kd_Ef_next_82 rfl) hI (fun r82 M82 H locs hp82 hI => ?_)
    obtain ⟨rfl, hM82⟩ := hp82
    rw [hM82] at hI
    exact zr_iret hS hK hlk hr hI kd_Ef_next_85 (by rw [zm_ui_at]; exact zE_2 ht_2 hab hE hT hx1 hx2)
  by_cases ht_3 : (M.1 a 1).toInt = 3
  · refine lv_tableIn (tgt := 86) (off := 82) hx hb kd_Ef_next_4 ht_lo ht_hi (by rw [ht_3]; rfl) (by decide) ?_
    refine zr_aload_n hx hb kd_Ef_next_86 hl rfl ?_
    refine zr_iload_n hx hb kd_Ef_next_87 hl rfl ?_
    refine zr_ci (zr_runV hS hK (c_Ef_echo l G nc sh M a b pl x ha_a hs_a hv_a_0 ha_a_0 hs_a_0 hab hpl hpl32) km_Ef_54 hI ha_a hs_a rfl hl.1 (Nat.le_of_ble_eq_true rfl) (by decide) (by decide) kd_Ef_next_88 rfl) hI (fun r88 M88 H locs hp88 hI => ?_)
    obtain ⟨rfl, hM88⟩ := hp88
    rw [hM88] at hI
    exact zr_iret hS hK hlk hr hI kd_Ef_next_91 (zE_3 hpl hpl32 ht_3 hab hE hT hx1 hx2)
  by_cases ht_4 : (M.1 a 1).toInt = 4
  · refine lv_tableIn (tgt := 92) (off := 88) hx hb kd_Ef_next_4 ht_lo ht_hi (by rw [ht_4]; rfl) (by decide) ?_
    refine zr_aload_n hx hb kd_Ef_next_92 hl rfl ?_
    refine zr_iload_n hx hb kd_Ef_next_93 hl rfl ?_
    obtain ⟨q, hq, hq16, hplq, hqt⟩ := hqn ht_4
    refine zr_ci (zr_runV hS hK (c_Ef_limit l G nc sh M a b pl q x ha_a hs_a hv_a_0 ha_a_0 hs_a_0 hab hpl hq hq16 hplq (by have := (hE.2.2.2.1 ht_4).1; omega) (by omega) (fun i hi => by have := hT.1 i hi; dsimp only at this; omega)) km_Ef_57 hI ha_a hs_a rfl hl.1 (Nat.le_of_ble_eq_true rfl) (by decide) (by decide) kd_Ef_next_94 rfl) hI (fun r94 M94 H locs hp94 hI => ?_)
    exact zr_iret hS hK hlk hr hI kd_Ef_next_97 ((zE_4 hpl hq hq16 hplq ht_4 hab hE hT (by rw [← hqt]; exact hmx ht_4) hx1 hx2 hp94).1)
  by_cases ht_5 : (M.1 a 1).toInt = 5
  · refine lv_tableIn (tgt := 98) (off := 94) hx hb kd_Ef_next_4 ht_lo ht_hi (by rw [ht_5]; rfl) (by decide) ?_
    refine zr_aload_n hx hb kd_Ef_next_98 hl rfl ?_
    refine zr_iload_n hx hb kd_Ef_next_99 hl rfl ?_
    refine zr_ci (zr_runV hS hK (c_Ef_gate l G nc sh M a x ha_a hs_a) km_Ef_60 hI ha_a hs_a rfl hl.1 (Nat.le_of_ble_eq_true rfl) (by decide) (by decide) kd_Ef_next_100 rfl) hI (fun r100 M100 H locs hp100 hI => ?_)
    obtain ⟨rfl, hM100⟩ := hp100
    rw [hM100] at hI
    exact zr_iret hS hK hlk hr hI kd_Ef_next_103 (zE_5 ht_5 hab hE hT hx1 hx2)
  have ht_6 : (M.1 a 1).toInt = 6 := by omega
  · refine lv_tableIn (tgt := 104) (off := 100) hx hb kd_Ef_next_4 ht_lo ht_hi (by rw [ht_6]; rfl) (by decide) ?_
    refine zr_aload_n hx hb kd_Ef_next_104 hl rfl ?_
    refine zr_geti hS hK kf_Ef_28 hI ha_a hs_a kd_Ef_next_105 ?_
    refine lv_ineg hx hb kd_Ef_next_108 ?_
    refine zr_aload_n hx hb kd_Ef_next_109 hl rfl ?_
    refine zr_geti hS hK kf_Ef_28 hI ha_a hs_a kd_Ef_next_110 ?_
    refine zr_iload_n hx hb kd_Ef_next_113 hl rfl ?_
    refine va_mmin hx hb (hS.2.2.1.trans hl.1.symm) hS.2.2.2.1 (hS.2.2.2.2 _ (zw_mem (i := 988) rfl rfl)) (hS.2.2.2.2 _ (zw_mem (i := 709) rfl rfl)) (hS.2.2.2.2 _ (zw_mem (i := 49) rfl rfl)) (hS.2.2.2.2 _ (zw_mem (i := 710) rfl rfl)) (by decide) (Nat.le_of_ble_eq_true rfl) (by decide) (by decide) kd_Ef_next_114 ?_
    refine va_mmax hx hb (hS.2.2.1.trans hl.1.symm) hS.2.2.2.1 (hS.2.2.2.2 _ (zw_mem (i := 983) rfl rfl)) (hS.2.2.2.2 _ (zw_mem (i := 616) rfl rfl)) (hS.2.2.2.2 _ (zw_mem (i := 49) rfl rfl)) (hS.2.2.2.2 _ (zw_mem (i := 617) rfl rfl)) (by decide) (Nat.le_of_ble_eq_true rfl) (by decide) (by decide) kd_Ef_next_117 ?_
    exact zr_iret hS hK hlk hr hI kd_Ef_next_120 (zE_6 ht_6 hE hT hx1 hx2)

/-! The delays as numbers; what comes into a bus. -/
def zd_o1 (M : zm_T) (s i : Nat) : Int := if M.1 (31 + 14 * s + 2 * i) 1 = 4 then (M.1 (31 + 14 * s + 2 * i) 3).toInt else 0
def zd_own (M : zm_T) (s : Nat) : Int := zd_o1 M s 0 + zd_o1 M s 1 + zd_o1 M s 2
theorem zd_o1_b {M : zm_T} {s i : Nat} (h : zE_K M (31 + 14 * s + 2 * i)) : (zf_own M s i).toInt = zd_o1 M s i ∧ 0 ≤ zd_o1 M s i ∧ zd_o1 M s i ≤ 16 := by
  unfold zf_own zd_o1
  by_cases h4 : M.1 (31 + 14 * s + 2 * i) 1 = 4
  · rw [if_pos h4, if_pos h4]
    have := h.2.2.2.1 (by rw [h4]; rfl)
    exact ⟨rfl, this.2.2.1, this.2.2.2⟩
  · rw [if_neg h4, if_neg h4]
    exact ⟨rfl, by omega, by omega⟩
theorem zf_dl_eq {M : zm_T} {s : Nat} {v : Int32} (h : ∀ i, i < 3 → zE_K M (31 + 14 * s + 2 * i)) (h1 : 0 ≤ v.toInt) (h2 : v.toInt ≤ 1000) : (zf_dl M s v 3).toInt = v.toInt + zd_own M s ∧ 0 ≤ zd_own M s ∧ zd_own M s ≤ 48 := by
  obtain ⟨a0, b0, c0⟩ := zd_o1_b (h 0 (by decide))
  obtain ⟨a1, b1, c1⟩ := zd_o1_b (h 1 (by decide))
  obtain ⟨a2, b2, c2⟩ := zd_o1_b (h 2 (by decide))
  unfold zd_own
  have e0 : (v + zf_own M s 0).toInt = v.toInt + zd_o1 M s 0 := by rw [zn_add] <;> rw [a0] <;> omega
  have e1 : (v + zf_own M s 0 + zf_own M s 1).toInt = v.toInt + zd_o1 M s 0 + zd_o1 M s 1 := by rw [zn_add] <;> rw [a1, e0] <;> omega
  have e2 : (v + zf_own M s 0 + zf_own M s 1 + zf_own M s 2).toInt = v.toInt + zd_o1 M s 0 + zd_o1 M s 1 + zd_o1 M s 2 := by rw [zn_add] <;> rw [a2, e1] <;> omega
  refine ⟨?_, by omega, by omega⟩
  show (v + zf_own M s 0 + zf_own M s 1 + zf_own M s 2).toInt = _
  rw [e2]; omega
theorem zf_gd_eq {M : zm_T} {s : Nat} {B : Int} (hB : 0 ≤ B) : ∀ {n : Nat}, (∀ a, a < n → ¬ zf_feeds M a s = 0 → 0 ≤ (M.1 (23 + 14 * a) 8).toInt ∧ (M.1 (23 + 14 * a) 8).toInt ≤ B) → 0 ≤ (zf_gd M s n).toInt ∧ (zf_gd M s n).toInt ≤ B ∧ (∀ a, a < n → ¬ zf_feeds M a s = 0 → (M.1 (23 + 14 * a) 8).toInt ≤ (zf_gd M s n).toInt) ∧ ((zf_gd M s n).toInt = 0 ∨ ∃ a, a < n ∧ ¬ zf_feeds M a s = 0 ∧ (zf_gd M s n).toInt = (M.1 (23 + 14 * a) 8).toInt)
  | 0, _ => ⟨by show 0 ≤ (0 : Int32).toInt; decide, by show (0 : Int32).toInt ≤ B; rw [zn_0]; exact hB, fun a ha => absurd ha (by omega), Or.inl (by show (0 : Int32).toInt = 0; decide)⟩
  | n + 1, h => by
    obtain ⟨h1, h2, h3, h4⟩ := zf_gd_eq (M := M) (s := s) hB (n := n) (fun a ha => h a (by omega))
    rw [zf_gd]
    by_cases hf : zf_feeds M n s = 0
    · rw [if_pos hf]
      refine ⟨h1, h2, fun a ha hfa => ?_, ?_⟩
      · by_cases e : a = n
        · subst e; exact absurd hf hfa
        · exact h3 a (by omega) hfa
      · rcases h4 with h4 | ⟨a, ha, hfa, h4⟩
        · exact Or.inl h4
        · exact Or.inr ⟨a, by omega, hfa, h4⟩
    · rw [if_neg hf]
      obtain ⟨g1, g2⟩ := h n (by omega) hf
      by_cases hl : zf_gd M s n < M.1 (23 + 14 * n) 8
      · have hl' := hl
        rw [Int32.lt_iff_toInt_lt] at hl'
        rw [if_pos hl]
        refine ⟨g1, g2, fun a ha hfa => ?_, Or.inr ⟨n, by omega, hf, rfl⟩⟩
        by_cases e : a = n
        · subst e; exact Int.le_refl _
        · have := h3 a (by omega) hfa; omega
      · have hl' := hl
        rw [Int32.lt_iff_toInt_lt] at hl'
        rw [if_neg hl]
        refine ⟨h1, h2, fun a ha hfa => ?_, ?_⟩
        · by_cases e : a = n
          · subst e; omega
          · exact h3 a (by omega) hfa
        · rcases h4 with h4 | ⟨a, ha, hfa, h4⟩
          · exact Or.inl h4
          · exact Or.inr ⟨a, by omega, hfa, h4⟩
/-- strip s has its delay: as much comes in as the latest of those that feed it gives -/
def zd_1 (M : zm_T) (s : Nat) : Prop := 0 ≤ (M.1 (23 + 14 * s) 7).toInt ∧ (∀ a, zfd M a s → (M.1 (23 + 14 * a) 8).toInt ≤ (M.1 (23 + 14 * s) 7).toInt) ∧ ((M.1 (23 + 14 * s) 7).toInt = 0 ∨ ∃ a, zfd M a s ∧ (M.1 (23 + 14 * s) 7).toInt = (M.1 (23 + 14 * a) 8).toInt) ∧ (M.1 (23 + 14 * s) 8).toInt = (M.1 (23 + 14 * s) 7).toInt + zd_own M s ∧ 0 ≤ zd_own M s ∧ zd_own M s ≤ 48
def zd_E (M : zm_T) : Prop := ∀ s, s < 8 → zd_1 M s ∧ (M.1 (23 + 14 * s) 8).toInt ≤ 384
theorem zf_st_o {M : zm_T} {o : Nat → Nat} {c j : Nat} (h : (∀ s, s < 8 → c ≠ 23 + 14 * s) ∨ (j ≠ 7 ∧ j ≠ 8)) (ho : ∀ i, i < 8 → o i < 8) : ∀ i, i ≤ 8 → (zf_st M o i).1 c j = M.1 c j
  | 0, _ => rfl
  | i + 1, hi => by
    have h8 := ho i (by omega)
    rw [zf_st, zm_ui_ne, zm_ui_ne]
    · exact zf_st_o h ho i (by omega)
    · exact h.elim (fun h => Or.inl (h _ h8)) (fun h => Or.inr h.1)
    · exact h.elim (fun h => Or.inl (h _ h8)) (fun h => Or.inr h.2)
theorem zf_st_fd {M : zm_T} {o : Nat → Nat} (ho : ∀ i, i < 8 → o i < 8) {i : Nat} (hi : i ≤ 8) : zfd (zf_st M o i) = zfd M :=
  zfd_c (fun a b ha hb => zf_feeds_c (zf_st_o (Or.inr (by omega)) ho i hi) (zf_st_o (Or.inl (fun s hs => by omega)) ho i hi))
theorem zf_st_own {M : zm_T} {o : Nat → Nat} (ho : ∀ i, i < 8 → o i < 8) {i : Nat} (hi : i ≤ 8) {s : Nat} (hs : s < 8) : zd_own (zf_st M o i) s = zd_own M s := by
  have h : ∀ k, k < 3 → zd_o1 (zf_st M o i) s k = zd_o1 M s k := fun k hk => by
    unfold zd_o1
    rw [zf_st_o (Or.inr (by omega)) ho i hi, zf_st_o (Or.inr (by omega)) ho i hi]
  unfold zd_own
  rw [h 0 (by decide), h 1 (by decide), h 2 (by decide)]
theorem zf_st_E {M : zm_T} {o : Nat → Nat} (ho : zo_P M o) (hD : zD M) (hE : ∀ s, s < 8 → ∀ i, i < 3 → zE_K M (31 + 14 * s + 2 * i)) : ∀ i, i ≤ 8 → ∀ j, j < i → zd_1 (zf_st M o i) (o j) ∧ ((zf_st M o i).1 (23 + 14 * o j) 8).toInt ≤ 48 * ((j : Int) + 1)
  | 0, _, _, h => absurd h (by omega)
  | i + 1, hi, j, hj => by
    have ih := zf_st_E ho hD hE i (by omega)
    have hfd : zfd (zf_st M o i) = zfd M := zf_st_fd ho.1 (by omega)
    have hfd1 : zfd (zf_st M o (i + 1)) = zfd M := zf_st_fd ho.1 hi
    have h8 := ho.1 i (by omega)
    have keep : ∀ a k, a < 8 → a ≠ o i → (zf_st M o (i + 1)).1 (23 + 14 * a) k = (zf_st M o i).1 (23 + 14 * a) k := fun a k ha hne => by
      rw [zf_st, zm_ui_ne (Or.inl (by omega)), zm_ui_ne (Or.inl (by omega))]
    -- those that feed a strip of the order stand before it
    have pre : ∀ k a, k < 8 → zfd M a (o k) → ∃ q, q < k ∧ o q = a := fun k a hk hf => by
      obtain ⟨q, hq, rfl⟩ := ho.2.2.1 a hf.1
      exact ⟨q, ho.2.2.2 q k hq hk hf, rfl⟩
    have ne : ∀ q, q < i → o q ≠ o i := fun q hq => ho.2.1 q i hq (by omega)
    by_cases hji : j < i
    · have hj8 := ho.1 j (by omega)
      obtain ⟨⟨a1, a2, a3, a4, a5⟩, a6⟩ := ih j hji
      unfold zd_1 at *
      rw [hfd1, keep _ _ hj8 (ne j hji), keep _ _ hj8 (ne j hji), zf_st_own ho.1 hi hj8]
      rw [hfd] at a2 a3
      rw [zf_st_own ho.1 (by omega) hj8] at a4 a5
      refine ⟨⟨a1, fun a hf => ?_, ?_, a4, a5⟩, a6⟩
      · obtain ⟨q, hq, rfl⟩ := pre j a (by omega) hf
        rw [keep _ _ hf.1 (ne q (by omega))]
        exact a2 _ hf
      · rcases a3 with a3 | ⟨a, hf, a3⟩
        · exact Or.inl a3
        · obtain ⟨q, hq, rfl⟩ := pre j a (by omega) hf
          exact Or.inr ⟨_, hf, by rw [keep _ _ hf.1 (ne q (by omega))]; exact a3⟩
    · obtain rfl : j = i := by omega
      have hb : ∀ a, a < 7 → ¬ zf_feeds (zf_st M o j) a (o j) = 0 → 0 ≤ ((zf_st M o j).1 (23 + 14 * a) 8).toInt ∧ ((zf_st M o j).1 (23 + 14 * a) 8).toInt ≤ 48 * (j : Int) := fun a ha hf => by
        have hf' : zfd M a (o j) := by rw [← hfd]; exact ⟨by omega, h8, hf⟩
        obtain ⟨q, hq, rfl⟩ := pre j a (by omega) hf'
        obtain ⟨⟨a1, a2, a3, a4, a5, a7⟩, a6⟩ := ih q hq
        exact ⟨by omega, by omega⟩
      obtain ⟨g1, g2, g3, g4⟩ := zf_gd_eq (B := 48 * (j : Int)) (by omega) hb
      have hEj : ∀ k, k < 3 → zE_K (zf_st M o j) (31 + 14 * o j + 2 * k) := fun k hk => by
        unfold zE_K
        rw [zf_st_o (Or.inr (by omega)) ho.1 j (by omega), zf_st_o (Or.inr (by omega)) ho.1 j (by omega), zf_st_o (Or.inr (by omega)) ho.1 j (by omega)]
        exact hE _ h8 k hk
      obtain ⟨d1, d2, d3⟩ := zf_dl_eq hEj g1 (by omega)
      have e7 : (zf_st M o (j + 1)).1 (23 + 14 * o j) 7 = zf_gd (zf_st M o j) (o j) 7 := by rw [zf_st, zm_ui_ne (Or.inr (by decide)), zm_ui_at]
      have e8 : (zf_st M o (j + 1)).1 (23 + 14 * o j) 8 = zf_dl (zf_st M o j) (o j) (zf_gd (zf_st M o j) (o j) 7) 3 := by rw [zf_st, zm_ui_at]
      have noself : ∀ a, zfd M a (o j) → a ≠ o j := fun a hf e => by
        obtain ⟨q, hq, hqa⟩ := pre j a (by omega) hf
        exact ne q hq (hqa.trans e)
      unfold zd_1
      rw [hfd1, e7, e8, zf_st_own ho.1 hi h8]
      rw [zf_st_own ho.1 (by omega) h8] at d1 d2 d3
      refine ⟨⟨g1, fun a hf => ?_, ?_, d1, d2, d3⟩, by omega⟩
      · rw [keep _ _ hf.1 (noself a hf)]
        exact g3 a (hD _ _ hf).2 (by have := hfd ▸ hf; exact this.2.2)
      · rcases g4 with g4 | ⟨a, ha, hf, g4⟩
        · exact Or.inl g4
        · have hf' : zfd M a (o j) := by rw [← hfd]; exact ⟨by omega, h8, hf⟩
          exact Or.inr ⟨a, hf', by rw [keep _ _ hf'.1 (noself a hf')]; exact g4⟩
theorem zd_E_of {M : zm_T} {o : Nat → Nat} (ho : zo_P M o) (hD : zD M) (hE : ∀ s, s < 8 → ∀ i, i < 3 → zE_K M (31 + 14 * s + 2 * i)) : zd_E (zf_st M o 8) := fun s hs => by
  obtain ⟨j, hj, rfl⟩ := ho.2.2.1 s hs
  have := zf_st_E ho hD hE 8 (by omega) j hj
  exact ⟨this.1, by have := this.2; omega⟩
/-- what strip a gives strip s at time t, at a level -/
def zi_mt (M : zm_T) (s a : Nat) (lv : Int) (t : Nat) : Int := if (M.1 (23 + 14 * s) 7).toInt - (M.1 (23 + 14 * a) 8).toInt ≤ t then (M.1 (30 + 14 * a) (t - ((M.1 (23 + 14 * s) 7).toInt - (M.1 (23 + 14 * a) 8).toInt).toNat)).toInt * lv / 256 else 0
/-- what the first n strips give strip s at time t -/
def zi_mx (M : zm_T) (s : Nat) : Nat → Nat → Int
  | 0, _ => 0
  | a + 1, t => zi_mx M s a t + (if M.1 (23 + 14 * a) 4 = nI s then zi_mt M s a 256 t else 0) + (if M.1 (29 + 14 * a) s ≤ 0 then 0 else zi_mt M s a (M.1 (29 + 14 * a) s).toInt t)
theorem zi_mt_b {M : zm_T} {s a : Nat} {lv : Int} {t : Nat} (h1 : 0 ≤ lv) (h2 : lv ≤ 1024) (h : ∀ u, u ≤ t → -16777216 ≤ (M.1 (30 + 14 * a) u).toInt ∧ (M.1 (30 + 14 * a) u).toInt ≤ 16777216) : -67108864 ≤ zi_mt M s a lv t ∧ zi_mt M s a lv t ≤ 67108864 := by
  unfold zi_mt
  split
  · have hb := h (t - ((M.1 (23 + 14 * s) 7).toInt - (M.1 (23 + 14 * a) 8).toInt).toNat) (by omega)
    generalize (M.1 (30 + 14 * a) (t - ((M.1 (23 + 14 * s) 7).toInt - (M.1 (23 + 14 * a) 8).toInt).toNat)).toInt = x at hb ⊢
    have := zn_abs_mul (a := 16777216) (b := 1024) (by omega) hb.2 h1 h2
    omega
  · omega
theorem zi_mt_b1 {M : zm_T} {s a : Nat} {t : Nat} (h : ∀ u, u ≤ t → -16777216 ≤ (M.1 (30 + 14 * a) u).toInt ∧ (M.1 (30 + 14 * a) u).toInt ≤ 16777216) : -16777216 ≤ zi_mt M s a 256 t ∧ zi_mt M s a 256 t ≤ 16777216 := by
  unfold zi_mt
  split
  · have hb := h (t - ((M.1 (23 + 14 * s) 7).toInt - (M.1 (23 + 14 * a) 8).toInt).toNat) (by omega)
    omega
  · omega
theorem zfd_t {M : zm_T} {a s : Nat} (ha : a < 8) (hs : s < 8) (h : M.1 (23 + 14 * a) 4 = nI s) : zfd M a s := ⟨ha, hs, by unfold zf_feeds; rw [if_pos h]; decide⟩
theorem zfd_s {M : zm_T} {a s : Nat} (ha : a < 8) (hs : s < 8) (h : ¬ M.1 (29 + 14 * a) s ≤ 0) : zfd M a s := ⟨ha, hs, by
  unfold zf_feeds
  rw [if_neg h]
  split <;> decide⟩
/-- strip s may be mixed up to time e -/
def zi_ok (M : zm_T) (s e : Nat) : Prop := (∀ a, a < 7 → (M.1 (29 + 14 * a) s).toInt ≤ 1024) ∧ ∀ a, zfd M a s → a ≠ s ∧ 0 ≤ (M.1 (23 + 14 * a) 8).toInt ∧ (M.1 (23 + 14 * a) 8).toInt ≤ (M.1 (23 + 14 * s) 7).toInt ∧ ∀ t, t < e → -16777216 ≤ (M.1 (30 + 14 * a) t).toInt ∧ (M.1 (30 + 14 * a) t).toInt ≤ 16777216
theorem zn_nle {x : Int32} (h : ¬ x ≤ 0) : 0 < x.toInt := by
  rw [Int32.le_iff_toInt_le, zn_0] at h; omega
theorem zi_mx_b {M : zm_T} {s e t : Nat} (hs : s < 8) (h : zi_ok M s e) (ht : t < e) : ∀ n : Nat, n ≤ 7 → -(83886080 * (n : Int)) ≤ zi_mx M s n t ∧ zi_mx M s n t ≤ 83886080 * (n : Int)
  | 0, _ => by unfold zi_mx; omega
  | n + 1, hn => by
    have ih := zi_mx_b hs h ht n (by omega)
    have b1 : -16777216 ≤ (if M.1 (23 + 14 * n) 4 = nI s then zi_mt M s n 256 t else 0) ∧ (if M.1 (23 + 14 * n) 4 = nI s then zi_mt M s n 256 t else 0) ≤ 16777216 := by
      split
      · rename_i h4
        exact zi_mt_b1 (fun u hu => (h.2 n (zfd_t (by omega) hs h4)).2.2.2 u (by omega))
      · omega
    have b2 : -67108864 ≤ (if M.1 (29 + 14 * n) s ≤ 0 then 0 else zi_mt M s n (M.1 (29 + 14 * n) s).toInt t) ∧ (if M.1 (29 + 14 * n) s ≤ 0 then 0 else zi_mt M s n (M.1 (29 + 14 * n) s).toInt t) ≤ 67108864 := by
      split
      · omega
      · rename_i h4
        exact zi_mt_b (by have := zn_nle h4; omega) (h.1 n (by omega)) (fun u hu => (h.2 n (zfd_s (by omega) hs h4)).2.2.2 u (by omega))
    unfold zi_mx
    omega
/-- one source is added -/
theorem zi_add {M M1 : zm_T} {s a e la : Nat} {lv : Int32} {f : Nat → Int} (hw : 30 + 14 * s ≠ 30 + 14 * a) (hla : (la : Int) = (M.1 (23 + 14 * s) 7).toInt - (M.1 (23 + 14 * a) 8).toInt) (hrow : ∀ j, M1.1 (30 + 14 * a) j = M.1 (30 + 14 * a) j) (hr : ∀ t, t < e → -16777216 ≤ (M.1 (30 + 14 * a) t).toInt ∧ (M.1 (30 + 14 * a) t).toInt ≤ 16777216) (h1 : 0 ≤ lv.toInt) (h2 : lv.toInt ≤ 1024) (hb : ∀ t, t < e → -1000000000 ≤ f t ∧ f t ≤ 1000000000) (h : ∀ t, t < e → (M1.1 (30 + 14 * s) t).toInt = f t) :
    ∀ t, t < e → ((zm_seg M1 (30 + 14 * s) la (e - la) (fun j => M1.1 (30 + 14 * s) (la + j) + zf_at (M1.1 (30 + 14 * a) j) lv)).1 (30 + 14 * s) t).toInt = f t + zi_mt M s a lv.toInt t := by
  intro t ht
  unfold zi_mt
  rw [← hla]
  by_cases hlt : la ≤ t
  · rw [zm_seg_in hlt (by omega), if_pos (by omega), show la + (t - la) = t by omega, hrow, Int.toNat_natCast]
    have hx := hr (t - la) (by omega)
    have ea := zf_at_eq (x := M.1 (30 + 14 * a) (t - la)) (l := lv) (by omega) (by omega) h1 h2
    have hm := zn_abs_mul (a := 16777216) (b := 1024) (by omega) hx.2 h1 h2
    have hf := hb t ht
    have h3 := h t ht
    generalize (M.1 (30 + 14 * a) (t - la)).toInt * lv.toInt = X at ea hm ⊢
    rw [zn_add] <;> rw [ea, h3] <;> omega
  · rw [zm_seg_out (by omega), if_neg (by omega), h t ht, Int.add_zero]
set_option maxRecDepth 100000 in
set_option maxHeartbeats 4000000 in
theorem c_De_mixInto (l : Launch) (G : zg_T) (M : zm_T) (hL : zL M.2) (s e : Nat) (hs : s < 8) (he : e ≤ 1024) (hok : zi_ok M s e) : Met l ky_De_mixInto (zr_ws ky_De_mixInto kc_De_mixInto 7 none) (zr_rm 2) (va_Pc [.ref (G.2.2.1 + 20), .int (nI s), .int (nI e)] (zm_B G 183 zs M)) (va_Qv (fun (M' : zm_T) => M'.2 = M.2 ∧ (∀ c j, c ≠ 30 + 14 * s → M'.1 c j = M.1 c j) ∧ ∀ t, t < e → (M'.1 (30 + 14 * s) t).toInt = zi_mx M s 7 t) (zm_B G 183 zs) (zm_A G)) 0 0 (zm_A G) := by
  refine zr_met (by decide +kernel) (Nat.le_of_ble_eq_true rfl) ?_
  intro p0 e0 s0 m0 below meth c0 ls hS hK hlk hr hl hI
  have hx := hS.1
  have hb := hS.2.1
  have hl : zl_has ls 7 [some (.ref (G.2.2.1 + 20)), some (.int (nI s)), some (.int (nI e)), none, none, none, none] := hl
  have es : (nI s).toNatClampNeg = s := zn_cl (by omega)
  have ha_w : 30 + 14 * s < 183 := by omega
  have hs_w : zs (30 + 14 * s) = (0, 1024) := zs_st7 s hs
  have ha_S : 23 + 14 * s < 183 := by omega
  have hs_S := zs_st0 s hs
  have loop : ∀ (k a : Nat) (M1 : zm_T) (o5 o6 : Option Value) (H : Heap) (locs : List Loc) (ls : Array Slot), a + k = 7 → M1.2 = M.2 → (∀ c j, c ≠ 30 + 14 * s → M1.1 c j = M.1 c j) → (∀ t, t < e → (M1.1 (30 + 14 * s) t).toInt = zi_mx M s a t) → zl_has ls 7 [some (.ref (G.2.2.1 + 20)), some (.int (nI s)), some (.int (nI e)), some (.ref (G.2.2.1 + (30 + 14 * s))), some (.int (nI a)), o5, o6] → zm_I G 183 zs M1 s0 H locs → W p0 l e0 (zr_rm 2) s0 m0 ([.ref (G.2.2.1 + 20), .int (nI s), .int (nI e)] : List Value).toArray below meth c0 H locs 0 0 (MQ below (va_Qv (fun (M' : zm_T) => M'.2 = M.2 ∧ (∀ c j, c ≠ 30 + 14 * s → M'.1 c j = M.1 c j) ∧ ∀ t, t < e → (M'.1 (30 + 14 * s) t).toInt = zi_mx M s 7 t) (zm_B G 183 zs) (zm_A G)) ([.ref (G.2.2.1 + 20), .int (nI s), .int (nI e)] : List Value).toArray s0 0 0 (zm_A G)) (F0 m0 20 ls []) := by
    intro k
    induction k with
    | zero =>
      intro a M1 o5 o6 H locs ls hk h2 ho hm hl hI
      obtain rfl : a = 7 := by omega
      refine zr_iload hx hb kd_De_mixInto_20 hl rfl ?_
      refine lv_bipush (v := 7) hx hb kd_De_mixInto_22 (by decide) ?_
      refine lv_icmp_ge (tgt := 106) hx hb kd_De_mixInto_24 (by decide) (fun h24 => ?_) (fun h24 => absurd (by decide) h24)
      exact zr_vret hS hK hlk hr hI kd_De_mixInto_106 (⟨h2, ho, hm⟩)
    | succ k ih =>
      intro a M1 o5 o6 H locs ls hk h2 ho hm hl hI
      have ea : (nI a).toNatClampNeg = a := zn_cl (by omega)
      have hL1 : zL M1.2 := by rw [h2]; exact hL
      have ha_A : 23 + 14 * a < 183 := by omega
      have hs_A := zs_st0 a (by omega)
      have ha_X : 29 + 14 * a < 183 := by omega
      have hs_X := zs_st6 a (by omega)
      have hla : zfd M a s → ∃ la : Nat, (la : Int) = (M.1 (23 + 14 * s) 7).toInt - (M.1 (23 + 14 * a) 8).toInt ∧ la < 2147483648 ∧ M1.1 (23 + 14 * s) 7 - M1.1 (23 + 14 * a) 8 = nI la := fun hf => by
        obtain ⟨-, q1, q2, -⟩ := hok.2 a hf
        have q3 := Int32.toInt_lt (M.1 (23 + 14 * s) 7)
        refine ⟨((M.1 (23 + 14 * s) 7).toInt - (M.1 (23 + 14 * a) 8).toInt).toNat, by omega, by omega, ?_⟩
        rw [ho _ _ (by omega), ho _ _ (by omega)]
        refine Int32.toInt_inj.mp ?_
        rw [zn_sub (by omega) (by omega), nI_toInt (by omega)]
        omega
      have mid : ∀ (M2 : zm_T) (H : Heap) (locs : List Loc) (ls : Array Slot), M2.2 = M.2 → (∀ c j, c ≠ 30 + 14 * s → M2.1 c j = M.1 c j) → (∀ t, t < e → (M2.1 (30 + 14 * s) t).toInt = zi_mx M s a t + if M.1 (23 + 14 * a) 4 = nI s then zi_mt M s a 256 t else 0) → zl_has ls 7 [some (.ref (G.2.2.1 + 20)), some (.int (nI s)), some (.int (nI e)), some (.ref (G.2.2.1 + (30 + 14 * s))), some (.int (nI a)), some (.ref (G.2.2.1 + (23 + 14 * a))), some (.int (M1.1 (23 + 14 * s) 7 - M1.1 (23 + 14 * a) 8))] → zm_I G 183 zs M2 s0 H locs → W p0 l e0 (zr_rm 2) s0 m0 ([.ref (G.2.2.1 + 20), .int (nI s), .int (nI e)] : List Value).toArray below meth c0 H locs 0 0 (MQ below (va_Qv (fun (M' : zm_T) => M'.2 = M.2 ∧ (∀ c j, c ≠ 30 + 14 * s → M'.1 c j = M.1 c j) ∧ ∀ t, t < e → (M'.1 (30 + 14 * s) t).toInt = zi_mx M s 7 t) (zm_B G 183 zs) (zm_A G)) ([.ref (G.2.2.1 + 20), .int (nI s), .int (nI e)] : List Value).toArray s0 0 0 (zm_A G)) (F0 m0 74 ls []) := by
        intro M2 H locs ls h2' ho' hm' hl hI
        have hL2 : zL M2.2 := by rw [h2']; exact hL
        have e9 : M2.1 (29 + 14 * a) s = M.1 (29 + 14 * a) s := ho' _ _ (by omega)
        refine zr_aload hx hb kd_De_mixInto_74 hl rfl ?_
        refine zr_getr hS hK kf_De_73 hI ha_A hs_A (zL_st hL2 (by omega)).2.2.2.1 kd_De_mixInto_76 ?_
        refine zr_iload_n hx hb kd_De_mixInto_79 hl rfl ?_
        refine zr_iald hS hK hI ha_X hs_X (vp_in_nI (by omega) (by decide)) kd_De_mixInto_80 ?_
        refine lv_if_le (tgt := 100) hx hb kd_De_mixInto_81 (by decide) (fun h81 => ?_) (fun h81 => ?_)
        · skip
          refine zr_iinc hx hb kd_De_mixInto_100 hl (by decide) rfl rfl (fun ls hl => ?_)
          refine lv_goto (tgt := 20) hx hb kd_De_mixInto_103 (by decide) ?_
          refine ih (a + 1) _ _ _ H locs ls (by omega) ?_ ?_ ?_ (by rw [nI_succ]; exact hl) hI
          · exact h2'
          · intro c j hc
            first
            | exact ho' c j hc
            | rw [zm_seg_out (Or.inl hc)]; exact ho' c j hc
          · intro t ht
            first
            | (rw [zi_mx, if_pos (show M.1 (29 + 14 * a) s ≤ 0 by rw [es, e9] at h81; exact h81), Int.add_zero]; exact hm' t ht)
            | (rw [zi_mx, if_neg h81]
               refine zi_add (M := M) (s := s) (a := a) (e := e) (by omega) hla1 (fun j => ho' _ _ (by omega)) q4 (by have := zn_nle h81; omega) (hok.1 a (by omega)) (fun t ht => ?_) hm' t ht
               have b1 := zi_mx_b hs hok ht a (by omega)
               have b2 : -16777216 ≤ (if M.1 (23 + 14 * a) 4 = nI s then zi_mt M s a 256 t else 0) ∧ (if M.1 (23 + 14 * a) 4 = nI s then zi_mt M s a 256 t else 0) ≤ 16777216 := by
                 split
                 · exact zi_mt_b1 (fun u hu => q4 u (by omega))
                 · omega
               omega)
        · skip
          refine zr_aload hx hb kd_De_mixInto_84 hl rfl ?_
          refine zr_aload_n hx hb kd_De_mixInto_86 hl rfl ?_
          refine zr_aload hx hb kd_De_mixInto_87 hl rfl ?_
          refine zr_getr hS hK kf_De_73 hI ha_A hs_A (zL_st hL2 (by omega)).2.2.2.1 kd_De_mixInto_89 ?_
          refine zr_iload_n hx hb kd_De_mixInto_92 hl rfl ?_
          refine zr_iald hS hK hI ha_X hs_X (vp_in_nI (by omega) (by decide)) kd_De_mixInto_93 ?_
          refine zr_iload hx hb kd_De_mixInto_94 hl rfl ?_
          refine zr_iload_n hx hb kd_De_mixInto_96 hl rfl ?_
          rw [es, e9] at h81
          have hf := zfd_s (M := M) (a := a) (s := s) (by omega) hs h81
          obtain ⟨la, hla1, hla2, hla3⟩ := hla hf
          obtain ⟨q1, q2, q3, q4⟩ := hok.2 a hf
          rw [hla3, es, e9]
          refine zr_cv (zr_runV hS hK (c_St_addTo l G M2 hL2 a (30 + 14 * s) la e (M.1 (29 + 14 * a) s) (by omega) ha_w hs_w (by omega) he hla2) km_De_70 hI ha_A hs_A rfl hl.1 (Nat.le_of_ble_eq_true rfl) (by decide) (by decide) kd_De_mixInto_97 rfl) hI (fun M97 H locs hp97 hI => ?_)
          rw [hp97] at hI
          refine zr_iinc hx hb kd_De_mixInto_100 hl (by decide) rfl rfl (fun ls hl => ?_)
          refine lv_goto (tgt := 20) hx hb kd_De_mixInto_103 (by decide) ?_
          refine ih (a + 1) _ _ _ H locs ls (by omega) ?_ ?_ ?_ (by rw [nI_succ]; exact hl) hI
          · exact h2'
          · intro c j hc
            first
            | exact ho' c j hc
            | rw [zm_seg_out (Or.inl hc)]; exact ho' c j hc
          · intro t ht
            first
            | (rw [zi_mx, if_pos (show M.1 (29 + 14 * a) s ≤ 0 by rw [es, e9] at h81; exact h81), Int.add_zero]; exact hm' t ht)
            | (rw [zi_mx, if_neg h81]
               refine zi_add (M := M) (s := s) (a := a) (e := e) (by omega) hla1 (fun j => ho' _ _ (by omega)) q4 (by have := zn_nle h81; omega) (hok.1 a (by omega)) (fun t ht => ?_) hm' t ht
               have b1 := zi_mx_b hs hok ht a (by omega)
               have b2 : -16777216 ≤ (if M.1 (23 + 14 * a) 4 = nI s then zi_mt M s a 256 t else 0) ∧ (if M.1 (23 + 14 * a) 4 = nI s then zi_mt M s a 256 t else 0) ≤ 16777216 := by
                 split
                 · exact zi_mt_b1 (fun u hu => q4 u (by omega))
                 · omega
               omega)
      have e4 : M1.1 (23 + 14 * a) 4 = M.1 (23 + 14 * a) 4 := ho _ _ (by omega)
      refine zr_iload hx hb kd_De_mixInto_20 hl rfl ?_
      refine lv_bipush (v := 7) hx hb kd_De_mixInto_22 (by decide) ?_
      refine lv_icmp_ge (tgt := 106) hx hb kd_De_mixInto_24 (by decide) (fun h24 => absurd h24 (zn_ge (n := 7) rfl (by omega) (by decide))) (fun h24 => ?_)
      refine zr_aload_n hx hb kd_De_mixInto_27 hl rfl ?_
      refine zr_getr hS hK kf_De_11 hI ha_DE hs_DE (zL_0 hL1).2.2.2.2.1 kd_De_mixInto_28 ?_
      refine zr_iload hx hb kd_De_mixInto_31 hl rfl ?_
      refine zr_aald hS hK hI ha_DE_0 hs_DE_0 (by decide) (by decide) rfl (vp_in_nI (by omega) (by decide)) (by rw [ea]; exact (zL_st hL1 (s := a) (by omega)).1) kd_De_mixInto_33 ?_
      refine zr_astore hx hb kd_De_mixInto_34 hl (by decide) rfl (fun ls hl => ?_)
      refine zr_aload_n hx hb kd_De_mixInto_36 hl rfl ?_
      refine zr_getr hS hK kf_De_11 hI ha_DE hs_DE (zL_0 hL1).2.2.2.2.1 kd_De_mixInto_37 ?_
      refine zr_iload_n hx hb kd_De_mixInto_40 hl rfl ?_
      refine zr_aald hS hK hI ha_DE_0 hs_DE_0 (by decide) (by decide) rfl (vp_in_nI (by omega) (by decide)) (by rw [es]; exact (zL_st hL1 hs).1) kd_De_mixInto_41 ?_
      refine zr_geti hS hK kf_De_60 hI ha_S hs_S kd_De_mixInto_42 ?_
      refine zr_aload hx hb kd_De_mixInto_45 hl rfl ?_
      refine zr_geti hS hK kf_De_64 hI ha_A hs_A kd_De_mixInto_47 ?_
      refine lv_isub hx hb kd_De_mixInto_50 ?_
      refine zr_istore hx hb kd_De_mixInto_51 hl (by decide) rfl (fun ls hl => ?_)
      refine zr_aload hx hb kd_De_mixInto_53 hl rfl ?_
      refine zr_geti hS hK kf_De_67 hI ha_A hs_A kd_De_mixInto_55 ?_
      refine zr_iload_n hx hb kd_De_mixInto_58 hl rfl ?_
      refine lv_icmp_ne (tgt := 74) hx hb kd_De_mixInto_59 (by decide) (fun h59 => ?_) (fun h59 => ?_)
      · skip
        first
        | refine mid M1 H locs ls h2 ho (fun t ht => ?_) hl hI
          rw [if_neg (by rw [← e4]; exact h59), Int.add_zero]; exact hm t ht
        | refine mid (zm_seg M1 (30 + 14 * s) la (e - la) (fun j => M1.1 (30 + 14 * s) (la + j) + zf_at (M1.1 (30 + 14 * a) j) 256)) H locs ls h2 (fun c j hc => by rw [zm_seg_out (Or.inl hc)]; exact ho c j hc) (fun t ht => ?_) hl hI
          rw [if_pos h59]
          refine zi_add (M := M) (s := s) (a := a) (e := e) (lv := 256) (by omega) hla1 (fun j => ho _ _ (by omega)) q4 (by decide) (by decide) (fun t ht => ?_) hm t ht
          have b1 := zi_mx_b hs hok ht a (by omega)
          omega
      · skip
        refine zr_aload hx hb kd_De_mixInto_62 hl rfl ?_
        refine zr_aload_n hx hb kd_De_mixInto_64 hl rfl ?_
        refine lv_sipush (v := 256) hx hb kd_De_mixInto_65 (by decide) ?_
        refine zr_iload hx hb kd_De_mixInto_68 hl rfl ?_
        refine zr_iload_n hx hb kd_De_mixInto_70 hl rfl ?_
        rw [e4] at h59
        have hf := zfd_t (M := M) (a := a) (s := s) (by omega) hs h59
        obtain ⟨la, hla1, hla2, hla3⟩ := hla hf
        obtain ⟨q1, q2, q3, q4⟩ := hok.2 a hf
        have hl' := hl
        rw [hla3]
        refine zr_cv (zr_runV hS hK (c_St_addTo l G M1 hL1 a (30 + 14 * s) la e 256 (by omega) ha_w hs_w (by omega) he hla2) km_De_70 hI ha_A hs_A rfl hl.1 (Nat.le_of_ble_eq_true rfl) (by decide) (by decide) kd_De_mixInto_71 rfl) hI (fun M71 H locs hp71 hI => ?_)
        rw [hp71] at hI
        first
        | refine mid M1 H locs ls h2 ho (fun t ht => ?_) hl hI
          rw [if_neg (by rw [← e4]; exact h59), Int.add_zero]; exact hm t ht
        | refine mid (zm_seg M1 (30 + 14 * s) la (e - la) (fun j => M1.1 (30 + 14 * s) (la + j) + zf_at (M1.1 (30 + 14 * a) j) 256)) H locs ls h2 (fun c j hc => by rw [zm_seg_out (Or.inl hc)]; exact ho c j hc) (fun t ht => ?_) hl hI
          rw [if_pos h59]
          refine zi_add (M := M) (s := s) (a := a) (e := e) (lv := 256) (by omega) hla1 (fun j => ho _ _ (by omega)) q4 (by decide) (by decide) (fun t ht => ?_) hm t ht
          have b1 := zi_mx_b hs hok ht a (by omega)
          omega
  refine zr_aload_n hx hb kd_De_mixInto_0 hl rfl ?_
  refine zr_getr hS hK kf_De_11 hI ha_DE hs_DE (zL_0 hL).2.2.2.2.1 kd_De_mixInto_1 ?_
  refine zr_iload_n hx hb kd_De_mixInto_4 hl rfl ?_
  refine zr_aald hS hK hI ha_DE_0 hs_DE_0 (by decide) (by decide) rfl (vp_in_nI (by omega) (by decide)) (by rw [es]; exact (zL_st hL hs).1) kd_De_mixInto_5 ?_
  refine zr_getr hS hK kf_De_51 hI ha_S hs_S (zL_st hL hs).2.2.2.2.1 kd_De_mixInto_6 ?_
  refine zr_astore_n hx hb kd_De_mixInto_9 hl (by decide) rfl (fun ls hl => ?_)
  refine zr_aload_n hx hb kd_De_mixInto_10 hl rfl ?_
  refine lv_iconst (v := 0) hx hb kd_De_mixInto_11 (by decide) ?_
  refine zr_iload_n hx hb kd_De_mixInto_12 hl rfl ?_
  refine lv_iconst (v := 0) hx hb kd_De_mixInto_13 (by decide) ?_
  refine zr_cv (zr_runS hS hK (c_Ar_fill_aIIIIV l G 183 zs _ (30 + 14 * s) 1024 0 e 0 ha_w hs_w (by decide) (by omega) he) km_De_54 hI rfl hl.1 (Nat.le_of_ble_eq_true rfl) (by decide) (by decide) kd_De_mixInto_14 rfl) hI (fun M14 H locs hp14 hI => ?_)
  rw [hp14] at hI
  refine lv_iconst (v := 0) hx hb kd_De_mixInto_17 (by decide) ?_
  refine zr_istore hx hb kd_De_mixInto_18 hl (by decide) rfl (fun ls hl => ?_)
  refine loop 7 0 _ _ _ _ _ _ (by omega) ?_ ?_ ?_ hl hI
  · rfl
  · exact fun c j hc => zm_seg_out (Or.inl hc)
  · intro t ht
    rw [zm_seg_in (by omega) (by omega)]; rfl

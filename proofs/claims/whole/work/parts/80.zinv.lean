/-! What holds between the class's cells and the reference's, at every time between two calls. -/
def zJt (M : zm_T) : Prop := ∀ t, t < 8 → M.1 (135 + 2 * t) 1 = M.1 153 t ∧ 0 ≤ (M.1 153 t).toInt ∧ (M.1 153 t).toInt ≤ 64 ∧ ∀ i, i < 64 → M.1 (136 + 2 * t) i = M.1 152 (64 * t + i) ∧ -32768 ≤ (M.1 152 (64 * t + i)).toInt ∧ (M.1 152 (64 * t + i)).toInt ≤ 32767
def zJc1 (M : zm_T) (c : Nat) : Prop := (M.1 154 c = 0 ∧ M.1 (4 + c) 4 = 0) ∨ (M.1 154 c = 1 ∧ ∃ t tr a f n lv i o, zg_C M c t tr a f n lv i o ∧ M.2.1 (4 + c) 0 = some (135 + 2 * t) ∧ M.1 (4 + c) 1 = nI tr ∧ M.1 (4 + c) 2 = nI a ∧ M.1 (4 + c) 3 = nI f ∧ M.1 (4 + c) 4 = nI n ∧ M.1 (4 + c) 5 = nI lv ∧ M.1 (4 + c) 6 = nI i ∧ M.1 (4 + c) 7 = nI o)
def zJc (M : zm_T) : Prop := ∀ c, c < 16 → zJc1 M c
def zJr (M : zm_T) : Prop := (∀ s, s < 7 → ∃ n, 4 ≤ n ∧ n ≤ 7 ∧ M.1 163 s = nI n ∧ M.1 (23 + 14 * s) 4 = nI n) ∧ M.1 163 7 = nI 8 ∧ M.1 121 4 = -1 ∧
  (∀ s, s < 8 → ∀ b, b < 8 → (s < 7 ∧ 4 ≤ b ∧ b < 7 ∧ M.1 (29 + 14 * s) b = M.1 164 (3 * s + b - 4)) ∨ (¬ (s < 7 ∧ 4 ≤ b ∧ b < 7) ∧ M.1 (29 + 14 * s) b = 0)) ∧ (∀ j, j < 24 → 0 ≤ (M.1 164 j).toInt ∧ (M.1 164 j).toInt ≤ 1024)
def zJe (M : zm_T) : Prop := ∀ s, s < 8 → ∀ i, i < 3 → M.1 (31 + 14 * s + 2 * i) 1 = M.1 165 (3 * s + i) ∧ M.1 (31 + 14 * s + 2 * i) 2 = M.1 166 (3 * s + i) ∧ M.1 (31 + 14 * s + 2 * i) 3 = M.1 167 (3 * s + i) ∧ zE_ok (M.1 165 (3 * s + i)).toInt (M.1 166 (3 * s + i)).toInt (M.1 167 (3 * s + i)).toInt
def zJf1 (M : zm_T) (s n : Nat) : Prop := zG_M M s n ∧ M.1 (25 + 14 * s) 3 = nI n ∧ M.1 (25 + 14 * s) 4 = M.1 168 s ∧ ∀ i, i < n → M.1 (26 + 14 * s) i = M.1 170 (8 * s + i) ∧ M.1 (27 + 14 * s) i = M.1 171 (8 * s + i) ∧ M.1 (28 + 14 * s) i = M.1 172 (8 * s + i)
def zJf (M : zm_T) : Prop := (∀ s, s < 8 → ∃ n, zJf1 M s n) ∧ ∀ j, j < 64 → M.1 172 j = 0 ∨ M.1 172 j = 1
def zJm (M : zm_T) : Prop := ∀ s, s < 8 → M.1 (23 + 14 * s) 5 = M.1 173 s ∧ M.1 (23 + 14 * s) 6 = M.1 174 s
def zJb (M : zm_T) : Prop := (∃ f n, M.1 0 3 = nI f ∧ M.1 0 4 = nI n ∧ n ≤ 64 ∧ f + n ≤ 1024 ∧ M.1 151 31 = nI n ∧ ∀ s, s < 8 → ∀ i, i < n → M.1 (30 + 14 * s) (f + i) = M.1 181 (64 * s + i)) ∧ ∀ j, j < 512 → -16777216 ≤ (M.1 181 j).toInt ∧ (M.1 181 j).toInt ≤ 16777216
def zJ (M : zm_T) : Prop := zL M.2 ∧ zJt M ∧ zJc M ∧ (zJr M ∧ ∀ a, ¬ gq_T (zgf M) a a) ∧ zJe M ∧ zJf M ∧ zJm M ∧ zJb M
section ZJC
variable {M M' : zm_T}
theorem zJt_c (h : ∀ c j, (135 ≤ c ∧ c ≤ 150) ∨ c = 152 ∨ c = 153 → M'.1 c j = M.1 c j) (k : zJt M) : zJt M' := fun t ht => by
  obtain ⟨h1, h2, h3, h4⟩ := k t ht
  rw [h _ _ (by omega), h 153 _ (by omega)]
  refine ⟨h1, h2, h3, fun i hi => ?_⟩
  rw [h _ _ (by omega), h 152 _ (by omega)]
  exact h4 i hi
theorem zg_C_c {c t tr a f n lv i o : Nat} (h : ∀ j, 155 ≤ j → j ≤ 162 → M'.1 j c = M.1 j c) (k : zg_C M c t tr a f n lv i o) : zg_C M' c t tr a f n lv i o := by
  unfold zg_C at *
  rw [h 157 (by decide) (by decide), h 155 (by decide) (by decide), h 156 (by decide) (by decide), h 158 (by decide) (by decide), h 159 (by decide) (by decide), h 160 (by decide) (by decide), h 161 (by decide) (by decide), h 162 (by decide) (by decide)]
  exact k
theorem zJc1_c {c : Nat} (h : ∀ j, M'.1 (4 + c) j = M.1 (4 + c) j) (h' : ∀ d, 154 ≤ d → d ≤ 162 → M'.1 d c = M.1 d c) (hr : M'.2.1 (4 + c) 0 = M.2.1 (4 + c) 0) (k : zJc1 M c) : zJc1 M' c := by
  rcases k with ⟨k1, k2⟩ | ⟨k1, t, tr, a, f, n, lv, i, o, k2, k3⟩
  · exact Or.inl ⟨(h' _ (by decide) (by decide)).trans k1, (h _).trans k2⟩
  · refine Or.inr ⟨(h' _ (by decide) (by decide)).trans k1, t, tr, a, f, n, lv, i, o, zg_C_c (fun j h1 h2 => h' j (by omega) h2) k2, ?_⟩
    rw [hr, h, h, h, h, h, h, h]
    exact k3
theorem zJc_c (h : ∀ c j, (4 ≤ c ∧ c ≤ 19) ∨ (154 ≤ c ∧ c ≤ 162) → M'.1 c j = M.1 c j) (hr : ∀ c, c < 16 → M'.2.1 (4 + c) 0 = M.2.1 (4 + c) 0) (k : zJc M) : zJc M' := fun c hc =>
  zJc1_c (fun j => h _ _ (by omega)) (fun d h1 h2 => h _ _ (by omega)) (hr c hc) (k c hc)
theorem zJr_c (h : ∀ s, s < 8 → M'.1 (23 + 14 * s) 4 = M.1 (23 + 14 * s) 4) (h2 : ∀ s j, s < 8 → M'.1 (29 + 14 * s) j = M.1 (29 + 14 * s) j) (h3 : ∀ j, M'.1 163 j = M.1 163 j) (h4 : ∀ j, M'.1 164 j = M.1 164 j) (k : zJr M) : zJr M' := by
  obtain ⟨k1, k2, k3, k4, k5⟩ := k
  refine ⟨fun s hs => ?_, by rw [h3]; exact k2, by rw [show 121 = 23 + 14 * 7 from rfl, h 7 (by decide)]; exact k3, fun s hs b hb => ?_, fun j hj => by rw [h4]; exact k5 j hj⟩
  · rw [h3, h s (by omega)]; exact k1 s hs
  · rw [h2 s b hs, h4]; exact k4 s hs b hb
theorem zgf_eq (h3 : ∀ j, M'.1 163 j = M.1 163 j) (h4 : ∀ j, M'.1 164 j = M.1 164 j) : zgf M' = zgf M := zgf_c h3 h4
theorem zJe_c (h : ∀ s i j, s < 8 → i < 3 → 1 ≤ j → j ≤ 3 → M'.1 (31 + 14 * s + 2 * i) j = M.1 (31 + 14 * s + 2 * i) j) (h2 : ∀ c j, 165 ≤ c → c ≤ 167 → M'.1 c j = M.1 c j) (k : zJe M) : zJe M' := fun s hs i hi => by
  rw [h s i 1 hs hi (by decide) (by decide), h s i 2 hs hi (by decide) (by decide), h s i 3 hs hi (by decide) (by decide), h2 165 _ (by decide) (by decide), h2 166 _ (by decide) (by decide), h2 167 _ (by decide) (by decide)]
  exact k s hs i hi
theorem zJf1_c {s n : Nat} (h : ∀ j, (j = 3 ∨ j = 4) → M'.1 (25 + 14 * s) j = M.1 (25 + 14 * s) j) (h1 : ∀ c j, 26 + 14 * s ≤ c → c ≤ 28 + 14 * s → M'.1 c j = M.1 c j) (h2 : ∀ c, 168 ≤ c → c ≤ 169 → M'.1 c s = M.1 c s) (h3 : ∀ c i, 170 ≤ c → c ≤ 172 → i < 8 → M'.1 c (8 * s + i) = M.1 c (8 * s + i)) (k : zJf1 M s n) : zJf1 M' s n := by
  obtain ⟨⟨k1, v1, v2, v3, v4, v5, v6, v7⟩, k2, k3, k4⟩ := k
  have e0 : ∀ i, i < n → zG_T M' s i = zG_T M s i ∧ zG_V M' s i = zG_V M s i ∧ zG_J M' s i = zG_J M s i := fun i hi => by
    unfold zG_T zG_V zG_J
    rw [h3 170 i (by decide) (by decide) (by omega), h3 171 i (by decide) (by decide) (by omega), h3 172 i (by decide) (by decide) (by omega)]
    exact ⟨rfl, rfl, rfl⟩
  refine ⟨⟨by rw [h2 169 (by decide) (by decide)]; exact k1, v1, fun i hi => ?_, fun i j hij hj => ?_, fun i hi => ?_, fun i hi => ?_, ?_⟩, by rw [h 3 (by decide)]; exact k2, by rw [h 4 (by decide), h2 168 (by decide) (by decide)]; exact k3, fun i hi => ?_⟩
  · rw [(e0 i hi).1]; exact v2 i hi
  · rw [(e0 i (by omega)).1, (e0 j hj).1]; exact v3 i j hij hj
  · rw [(e0 i hi).2.1]; exact v4 i hi
  · rw [(e0 i hi).2.2]; exact v5 i hi
  · rw [h2 168 (by decide) (by decide)]; exact ⟨v6, v7⟩
  · rw [h1 (26 + 14 * s) i (by omega) (by omega), h1 (27 + 14 * s) i (by omega) (by omega), h1 (28 + 14 * s) i (by omega) (by omega), h3 170 i (by decide) (by decide) (by omega), h3 171 i (by decide) (by decide) (by omega), h3 172 i (by decide) (by decide) (by omega)]
    exact k4 i hi
theorem zJf_c (h : ∀ s j, s < 8 → (j = 3 ∨ j = 4) → M'.1 (25 + 14 * s) j = M.1 (25 + 14 * s) j) (h1 : ∀ s c j, s < 8 → 26 + 14 * s ≤ c → c ≤ 28 + 14 * s → M'.1 c j = M.1 c j) (h2 : ∀ c j, 168 ≤ c → c ≤ 172 → M'.1 c j = M.1 c j) (k : zJf M) : zJf M' :=
  ⟨fun s hs => by
    obtain ⟨n, hn⟩ := k.1 s hs
    exact ⟨n, zJf1_c (fun j hj => h s j hs hj) (fun c j a b => h1 s c j hs a b) (fun c a b => h2 c s a (by omega)) (fun c i a b _ => h2 c _ (by omega) b) hn⟩, fun j hj => by rw [h2 172 j (by decide) (by decide)]; exact k.2 j hj⟩
theorem zJm_c (h : ∀ s j, s < 8 → (j = 5 ∨ j = 6) → M'.1 (23 + 14 * s) j = M.1 (23 + 14 * s) j) (h2 : ∀ c j, 173 ≤ c → c ≤ 174 → M'.1 c j = M.1 c j) (k : zJm M) : zJm M' := fun s hs => by
  rw [h s 5 hs (Or.inl rfl), h s 6 hs (Or.inr rfl), h2 173 _ (by decide) (by decide), h2 174 _ (by decide) (by decide)]
  exact k s hs
theorem zJb_c (h : ∀ j, (j = 3 ∨ j = 4) → M'.1 0 j = M.1 0 j) (h1 : ∀ s j, s < 8 → M'.1 (30 + 14 * s) j = M.1 (30 + 14 * s) j) (h2 : M'.1 151 31 = M.1 151 31) (h3 : ∀ j, M'.1 181 j = M.1 181 j) (k : zJb M) : zJb M' := by
  obtain ⟨⟨f, n, k1, k2, k3, k4, k5, k6⟩, k7⟩ := k
  refine ⟨⟨f, n, by rw [h 3 (Or.inl rfl)]; exact k1, by rw [h 4 (Or.inr rfl)]; exact k2, k3, k4, by rw [h2]; exact k5, fun s hs i hi => ?_⟩, fun j hj => by rw [h3]; exact k7 j hj⟩
  rw [h1 s _ hs, h3]; exact k6 s hs i hi
/-- both graphs are one -/
theorem zJ_fd (k : zJr M) : zfd M = zgf M := by
  obtain ⟨k1, k2, k3, k4, -⟩ := k
  have nn : ∀ x y : Nat, x < 256 → y < 256 → (nI x = nI y ↔ x = y) := fun x y hx hy => ⟨fun h => by
    have : (nI x).toInt = (nI y).toInt := by rw [h]
    rw [nI_toInt (by omega), nI_toInt (by omega)] at this
    omega, fun h => by rw [h]⟩
  funext a b
  apply propext
  unfold zfd zgf zf_feeds
  constructor
  · rintro ⟨ha, hb, h⟩
    refine ⟨ha, hb, ?_⟩
    by_cases h4 : M.1 (23 + 14 * a) 4 = nI b
    · left
      by_cases h7 : a < 7
      · obtain ⟨n, -, -, g1, g2⟩ := k1 a h7
        rw [g1, ← g2]; exact h4
      · have e : a = 7 := by omega
        subst e
        rw [show 23 + 14 * 7 = 121 from rfl, k3] at h4
        have : (-1 : Int32).toInt = (nI b).toInt := by rw [h4]
        rw [nI_toInt (by omega), show (-1 : Int32).toInt = -1 from by decide] at this
        omega
    · rw [if_neg h4] at h
      right
      by_cases h0 : M.1 (29 + 14 * a) b ≤ 0
      · rw [if_pos h0] at h; exact absurd rfl h
      · rcases k4 a ha b hb with ⟨g1, g2, g3, g4⟩ | ⟨-, g⟩
        · rw [← g4]; exact ⟨g1, by omega, g3, h0⟩
        · rw [g] at h0; exact absurd (by decide) h0
  · rintro ⟨ha, hb, h⟩
    refine ⟨ha, hb, ?_⟩
    rcases h with h | ⟨h1, h2, h3, h4⟩
    · by_cases h7 : a < 7
      · obtain ⟨n, -, -, g1, g2⟩ := k1 a h7
        rw [g1, ← g2] at h
        rw [if_pos h]; decide
      · have e : a = 7 := by omega
        subst e
        rw [k2, nn _ _ (by decide) (by omega)] at h
        omega
    · rcases k4 a ha b hb with ⟨-, -, -, g4⟩ | ⟨g, -⟩
      · rw [← g4] at h4
        by_cases h5 : M.1 (23 + 14 * a) 4 = nI b
        · rw [if_pos h5]; decide
        · rw [if_neg h5, if_neg h4]; decide
      · exact absurd ⟨h1, by omega, h3⟩ g
theorem zJ_D (k : zJr M) : zD M := by
  intro a b h
  rw [zJ_fd k] at h
  obtain ⟨k1, k2, k3, k4, -⟩ := k
  obtain ⟨ha, hb, h⟩ := h
  rcases h with h | ⟨h1, h2, h3, h4⟩
  · by_cases h7 : a < 7
    · obtain ⟨n, g0, g9, g1, g2⟩ := k1 a h7
      rw [g1] at h
      have : (nI n).toInt = (nI b).toInt := by rw [h]
      rw [nI_toInt (by omega), nI_toInt (by omega)] at this
      omega
    · have e : a = 7 := by omega
      subst e
      rw [k2] at h
      have : (nI 8).toInt = (nI b).toInt := by rw [h]
      rw [nI_toInt (by omega), nI_toInt (by omega)] at this
      omega
  · omega
end ZJC

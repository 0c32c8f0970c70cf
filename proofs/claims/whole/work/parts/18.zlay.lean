/-! Where everything lies once it is made: 0 the mixer, 1 its takes, 2 the shelf, 3 its clips (4 .. 19), 20 the desk, 21 its strips, 22 its order; strip s at 23 + 14 s; take t at 135 + 2 t; 151 the reference, its arrays behind it; 182 out. -/
def zs_list : List (Nat × Nat) := [(17, 0), (3, 8), (14, 0), (4, 16), (10, 0), (10, 0), (10, 0), (10, 0), (10, 0), (10, 0), (10, 0), (10, 0), (10, 0), (10, 0), (10, 0), (10, 0), (10, 0), (10, 0), (10, 0), (10, 0), (11, 0), (6, 8), (0, 8), (15, 0), (5, 3), (13, 0), (0, 8), (0, 8), (1, 8), (0, 8), (0, 1024), (12, 0), (0, 32), (12, 0), (0, 32), (12, 0), (0, 32), (15, 0), (5, 3), (13, 0), (0, 8), (0, 8), (1, 8), (0, 8), (0, 1024), (12, 0), (0, 32), (12, 0), (0, 32), (12, 0), (0, 32), (15, 0), (5, 3), (13, 0), (0, 8), (0, 8), (1, 8), (0, 8), (0, 1024), (12, 0), (0, 32), (12, 0), (0, 32), (12, 0), (0, 32), (15, 0), (5, 3), (13, 0), (0, 8), (0, 8), (1, 8), (0, 8), (0, 1024), (12, 0), (0, 32), (12, 0), (0, 32), (12, 0), (0, 32), (15, 0), (5, 3), (13, 0), (0, 8), (0, 8), (1, 8), (0, 8), (0, 1024), (12, 0), (0, 32), (12, 0), (0, 32), (12, 0), (0, 32), (15, 0), (5, 3), (13, 0), (0, 8), (0, 8), (1, 8), (0, 8), (0, 1024), (12, 0), (0, 32), (12, 0), (0, 32), (12, 0), (0, 32), (15, 0), (5, 3), (13, 0), (0, 8), (0, 8), (1, 8), (0, 8), (0, 1024), (12, 0), (0, 32), (12, 0), (0, 32), (12, 0), (0, 32), (15, 0), (5, 3), (13, 0), (0, 8), (0, 8), (1, 8), (0, 8), (0, 1024), (12, 0), (0, 32), (12, 0), (0, 32), (12, 0), (0, 32), (16, 0), (0, 64), (16, 0), (0, 64), (16, 0), (0, 64), (16, 0), (0, 64), (16, 0), (0, 64), (16, 0), (0, 64), (16, 0), (0, 64), (16, 0), (0, 64), (18, 0), (0, 512), (0, 8), (1, 16), (0, 16), (0, 16), (0, 16), (0, 16), (0, 16), (0, 16), (0, 16), (0, 16), (0, 8), (0, 24), (0, 24), (0, 24), (0, 24), (0, 8), (0, 8), (0, 64), (0, 64), (1, 64), (1, 8), (1, 8), (1, 64), (0, 8), (1, 8), (0, 8192), (0, 1024), (0, 1024), (0, 512), (2, 1)]
def zs (a : Nat) : Nat × Nat := zs_list.getD a (0, 0)
theorem zs_st0 : ∀ s, s < 8 → zs (23 + 14 * s) = (10 + 5, 0) := by decide +kernel
theorem zs_st1 : ∀ s, s < 8 → zs (24 + 14 * s) = (5, 3) := by decide +kernel
theorem zs_st2 : ∀ s, s < 8 → zs (25 + 14 * s) = (10 + 3, 0) := by decide +kernel
theorem zs_st3 : ∀ s, s < 8 → zs (26 + 14 * s) = (0, 8) := by decide +kernel
theorem zs_st4 : ∀ s, s < 8 → zs (27 + 14 * s) = (0, 8) := by decide +kernel
theorem zs_st5 : ∀ s, s < 8 → zs (28 + 14 * s) = (1, 8) := by decide +kernel
theorem zs_st6 : ∀ s, s < 8 → zs (29 + 14 * s) = (0, 8) := by decide +kernel
theorem zs_st7 : ∀ s, s < 8 → zs (30 + 14 * s) = (0, 1024) := by decide +kernel
theorem zs_ef : ∀ s, s < 8 → ∀ i, i < 3 → zs (31 + 14 * s + 2 * i) = (10 + 2, 0) ∧ zs (32 + 14 * s + 2 * i) = (0, 32) := by decide +kernel
theorem zs_tk : ∀ t, t < 8 → zs (135 + 2 * t) = (10 + 6, 0) ∧ zs (136 + 2 * t) = (0, 64) := by decide +kernel
theorem zs_cl : ∀ c, c < 16 → zs (4 + c) = (10 + 0, 0) := by decide +kernel
def zL (N : (Nat → Nat → Option Nat) × (Nat → Nat → Int64)) : Prop :=
  (N.1 0 0 = some 1 ∧ N.1 0 1 = some 2 ∧ N.1 0 2 = some 20 ∧ N.1 2 0 = some 3 ∧ N.1 20 0 = some 21 ∧ N.1 20 1 = some 22) ∧
  (∀ t, t < 8 → N.1 1 t = some (135 + 2 * t) ∧ N.1 (135 + 2 * t) 0 = some (136 + 2 * t)) ∧
  (∀ c, c < 16 → N.1 3 c = some (4 + c)) ∧
  (∀ s, s < 8 → N.1 21 s = some (23 + 14 * s) ∧ N.1 (23 + 14 * s) 0 = some (24 + 14 * s) ∧ N.1 (23 + 14 * s) 1 = some (25 + 14 * s) ∧ N.1 (23 + 14 * s) 2 = some (29 + 14 * s) ∧ N.1 (23 + 14 * s) 3 = some (30 + 14 * s) ∧ N.1 (25 + 14 * s) 0 = some (26 + 14 * s) ∧ N.1 (25 + 14 * s) 1 = some (27 + 14 * s) ∧ N.1 (25 + 14 * s) 2 = some (28 + 14 * s)) ∧
  (∀ s, s < 8 → ∀ i, i < 3 → N.1 (24 + 14 * s) i = some (31 + 14 * s + 2 * i) ∧ N.1 (31 + 14 * s + 2 * i) 0 = some (32 + 14 * s + 2 * i)) ∧
  (∀ k, 1 ≤ k → k ≤ 30 → N.1 151 k = some (151 + k))
section ZLY
variable {N : (Nat → Nat → Option Nat) × (Nat → Nat → Int64)}
theorem zL_0 (h : zL N) : N.1 0 0 = some 1 ∧ N.1 0 1 = some 2 ∧ N.1 0 2 = some 20 ∧ N.1 2 0 = some 3 ∧ N.1 20 0 = some 21 ∧ N.1 20 1 = some 22 := h.1
theorem zL_tk (h : zL N) {t : Nat} (ht : t < 8) : N.1 1 t = some (135 + 2 * t) ∧ N.1 (135 + 2 * t) 0 = some (136 + 2 * t) := h.2.1 t ht
theorem zL_cl (h : zL N) {c : Nat} (hc : c < 16) : N.1 3 c = some (4 + c) := h.2.2.1 c hc
theorem zL_st (h : zL N) {s : Nat} (hs : s < 8) : N.1 21 s = some (23 + 14 * s) ∧ N.1 (23 + 14 * s) 0 = some (24 + 14 * s) ∧ N.1 (23 + 14 * s) 1 = some (25 + 14 * s) ∧ N.1 (23 + 14 * s) 2 = some (29 + 14 * s) ∧ N.1 (23 + 14 * s) 3 = some (30 + 14 * s) ∧ N.1 (25 + 14 * s) 0 = some (26 + 14 * s) ∧ N.1 (25 + 14 * s) 1 = some (27 + 14 * s) ∧ N.1 (25 + 14 * s) 2 = some (28 + 14 * s) := h.2.2.2.1 s hs
theorem zL_ef (h : zL N) {s i : Nat} (hs : s < 8) (hi : i < 3) : N.1 (24 + 14 * s) i = some (31 + 14 * s + 2 * i) ∧ N.1 (31 + 14 * s + 2 * i) 0 = some (32 + 14 * s + 2 * i) := h.2.2.2.2.1 s hs i hi
theorem zL_mo (h : zL N) {k : Nat} (h1 : 1 ≤ k) (h2 : k ≤ 30) : N.1 151 k = some (151 + k) := h.2.2.2.2.2 k h1 h2
/-- a clip's take is no part of the layout -/
theorem zL_ur {M : zm_T} {c : Nat} {v : Option Nat} (h : zL M.2) (hc : c < 16) : zL (zm_ur M (4 + c) 0 v).2 := by
  have key : ∀ b j, ¬ (b = 4 + c ∧ j = 0) → (zm_ur M (4 + c) 0 v).2.1 b j = M.2.1 b j := fun b j hb => if_neg hb
  obtain ⟨⟨a1, a2, a3, a4, a5, a6⟩, h2, h3, h4, h5, h6⟩ := h
  refine ⟨⟨?_, ?_, ?_, ?_, ?_, ?_⟩, fun t ht => ⟨?_, ?_⟩, fun d hd => ?_, fun s hs => ⟨?_, ?_, ?_, ?_, ?_, ?_, ?_, ?_⟩, fun s hs i hi => ⟨?_, ?_⟩, fun k k1 k2 => ?_⟩ <;> rw [key _ _ (by omega)]
  · exact a1
  · exact a2
  · exact a3
  · exact a4
  · exact a5
  · exact a6
  · exact (h2 t ht).1
  · exact (h2 t ht).2
  · exact h3 d hd
  · exact (h4 s hs).1
  · exact (h4 s hs).2.1
  · exact (h4 s hs).2.2.1
  · exact (h4 s hs).2.2.2.1
  · exact (h4 s hs).2.2.2.2.1
  · exact (h4 s hs).2.2.2.2.2.1
  · exact (h4 s hs).2.2.2.2.2.2.1
  · exact (h4 s hs).2.2.2.2.2.2.2
  · exact (h5 s hs i hi).1
  · exact (h5 s hs i hi).2
  · exact h6 k k1 k2
end ZLY
theorem ha_MX : 0 < 183 := by decide
theorem hs_MX : zs 0 = (10 + 7, 0) := by decide +kernel
theorem ha_MX_0 : 1 < 183 := by decide
theorem hs_MX_0 : zs 1 = (3, 8) := by decide +kernel
theorem ha_SH : 2 < 183 := by decide
theorem hs_SH : zs 2 = (10 + 4, 0) := by decide +kernel
theorem ha_SH_0 : 3 < 183 := by decide
theorem hs_SH_0 : zs 3 = (4, 16) := by decide +kernel
theorem ha_DE : 20 < 183 := by decide
theorem hs_DE : zs 20 = (10 + 1, 0) := by decide +kernel
theorem ha_DE_0 : 21 < 183 := by decide
theorem hs_DE_0 : zs 21 = (6, 8) := by decide +kernel
theorem ha_DE_1 : 22 < 183 := by decide
theorem hs_DE_1 : zs 22 = (0, 8) := by decide +kernel
theorem ha_MO : 151 < 183 := by decide
theorem hs_MO : zs 151 = (10 + 8, 0) := by decide +kernel
theorem ha_OU : 182 < 183 := by decide
theorem hs_OU : zs 182 = (2, 1) := by decide +kernel
theorem ha_MO_1 : 152 < 183 := by decide
theorem hs_MO_1 : zs 152 = (0, 512) := by decide +kernel
theorem ha_MO_2 : 153 < 183 := by decide
theorem hs_MO_2 : zs 153 = (0, 8) := by decide +kernel
theorem ha_MO_3 : 154 < 183 := by decide
theorem hs_MO_3 : zs 154 = (1, 16) := by decide +kernel
theorem ha_MO_4 : 155 < 183 := by decide
theorem hs_MO_4 : zs 155 = (0, 16) := by decide +kernel
theorem ha_MO_5 : 156 < 183 := by decide
theorem hs_MO_5 : zs 156 = (0, 16) := by decide +kernel
theorem ha_MO_6 : 157 < 183 := by decide
theorem hs_MO_6 : zs 157 = (0, 16) := by decide +kernel
theorem ha_MO_7 : 158 < 183 := by decide
theorem hs_MO_7 : zs 158 = (0, 16) := by decide +kernel
theorem ha_MO_8 : 159 < 183 := by decide
theorem hs_MO_8 : zs 159 = (0, 16) := by decide +kernel
theorem ha_MO_9 : 160 < 183 := by decide
theorem hs_MO_9 : zs 160 = (0, 16) := by decide +kernel
theorem ha_MO_10 : 161 < 183 := by decide
theorem hs_MO_10 : zs 161 = (0, 16) := by decide +kernel
theorem ha_MO_11 : 162 < 183 := by decide
theorem hs_MO_11 : zs 162 = (0, 16) := by decide +kernel
theorem ha_MO_12 : 163 < 183 := by decide
theorem hs_MO_12 : zs 163 = (0, 8) := by decide +kernel
theorem ha_MO_13 : 164 < 183 := by decide
theorem hs_MO_13 : zs 164 = (0, 24) := by decide +kernel
theorem ha_MO_14 : 165 < 183 := by decide
theorem hs_MO_14 : zs 165 = (0, 24) := by decide +kernel
theorem ha_MO_15 : 166 < 183 := by decide
theorem hs_MO_15 : zs 166 = (0, 24) := by decide +kernel
theorem ha_MO_16 : 167 < 183 := by decide
theorem hs_MO_16 : zs 167 = (0, 24) := by decide +kernel
theorem ha_MO_17 : 168 < 183 := by decide
theorem hs_MO_17 : zs 168 = (0, 8) := by decide +kernel
theorem ha_MO_18 : 169 < 183 := by decide
theorem hs_MO_18 : zs 169 = (0, 8) := by decide +kernel
theorem ha_MO_19 : 170 < 183 := by decide
theorem hs_MO_19 : zs 170 = (0, 64) := by decide +kernel
theorem ha_MO_20 : 171 < 183 := by decide
theorem hs_MO_20 : zs 171 = (0, 64) := by decide +kernel
theorem ha_MO_21 : 172 < 183 := by decide
theorem hs_MO_21 : zs 172 = (1, 64) := by decide +kernel
theorem ha_MO_22 : 173 < 183 := by decide
theorem hs_MO_22 : zs 173 = (1, 8) := by decide +kernel
theorem ha_MO_23 : 174 < 183 := by decide
theorem hs_MO_23 : zs 174 = (1, 8) := by decide +kernel
theorem ha_MO_24 : 175 < 183 := by decide
theorem hs_MO_24 : zs 175 = (1, 64) := by decide +kernel
theorem ha_MO_25 : 176 < 183 := by decide
theorem hs_MO_25 : zs 176 = (0, 8) := by decide +kernel
theorem ha_MO_26 : 177 < 183 := by decide
theorem hs_MO_26 : zs 177 = (1, 8) := by decide +kernel
theorem ha_MO_27 : 178 < 183 := by decide
theorem hs_MO_27 : zs 178 = (0, 8192) := by decide +kernel
theorem ha_MO_28 : 179 < 183 := by decide
theorem hs_MO_28 : zs 179 = (0, 1024) := by decide +kernel
theorem ha_MO_29 : 180 < 183 := by decide
theorem hs_MO_29 : zs 180 = (0, 1024) := by decide +kernel
theorem ha_MO_30 : 181 < 183 := by decide
theorem hs_MO_30 : zs 181 = (0, 512) := by decide +kernel

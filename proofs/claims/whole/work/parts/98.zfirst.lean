/-! The memory behind both constructors keeps the invariant. -/
def z0_Z : zm_T := (fun _ _ => 0, fun _ _ => none, fun _ _ => 0)
def z0_M : zm_T := zc_mo (zc_t (zc_m z0_Z) 8)
theorem z0_L : zL z0_M.2 := by
  unfold zL
  refine ⟨?_, ?_, ?_, ?_, ?_, ?_⟩
  · decide +kernel
  · decide +kernel
  · decide +kernel
  · decide +kernel
  · decide +kernel
  · intro k h1 h2
    have : ∀ k, k < 31 → 1 ≤ k → z0_M.2.1 151 k = some (151 + k) := by decide +kernel
    exact this k (by omega) h1
theorem z0_t : zJt z0_M := by
  unfold zJt
  decide +kernel
theorem z0_c : zJc z0_M := by
  have : ∀ c, c < 16 → z0_M.1 154 c = 0 ∧ z0_M.1 (4 + c) 4 = 0 := by decide +kernel
  exact fun c hc => Or.inl (this c hc)
theorem z0_r : zJr z0_M := by
  refine ⟨fun s hs => ⟨7, by decide, by decide, ?_⟩, by decide +kernel, by decide +kernel, by decide +kernel, by decide +kernel⟩
  have : ∀ s, s < 7 → z0_M.1 163 s = nI 7 ∧ z0_M.1 (23 + 14 * s) 4 = nI 7 := by decide +kernel
  exact this s hs
theorem z0_n : ∀ a, ¬ gq_T (zgf z0_M) a a := by
  have h1 : ∀ a b, zgf z0_M a b → a < b := by
    intro a b h
    obtain ⟨ha, hb, h⟩ := h
    have e1 : ∀ a, a < 8 → ∀ b, b < 8 → z0_M.1 163 a = nI b → a < b := by decide +kernel
    have e2 : ∀ j, j < 32 → z0_M.1 164 j ≤ 0 := by decide +kernel
    rcases h with h | ⟨h2, h3, h4, h5⟩
    · exact e1 a ha b hb h
    · exact absurd (e2 _ (by omega)) h5
  have h2 : ∀ a b, gq_T (zgf z0_M) a b → a < b := by
    intro a b h
    induction h with
    | single h => exact h1 _ _ h
    | tail _ h ih => exact Nat.lt_trans ih (h1 _ _ h)
  exact fun a h => Nat.lt_irrefl _ (h2 a a h)
theorem z0_e : zJe z0_M := by
  intro s hs i hi
  have : ∀ s, s < 8 → ∀ i, i < 3 → z0_M.1 (31 + 14 * s + 2 * i) 1 = z0_M.1 165 (3 * s + i) ∧ z0_M.1 (31 + 14 * s + 2 * i) 2 = z0_M.1 166 (3 * s + i) ∧ z0_M.1 (31 + 14 * s + 2 * i) 3 = z0_M.1 167 (3 * s + i) ∧ z0_M.1 165 (3 * s + i) = 0 := by decide +kernel
  obtain ⟨h1, h2, h3, h4⟩ := this s hs i hi
  refine ⟨h1, h2, h3, ?_⟩
  rw [h4]
  have e : (0 : Int32).toInt = 0 := rfl
  rw [e]
  unfold zE_ok
  omega
theorem z0_f : zJf z0_M := by
  refine ⟨fun s hs => ⟨0, ?_⟩, by decide +kernel⟩
  have : ∀ s, s < 8 → z0_M.1 169 s = nI 0 ∧ z0_M.1 (25 + 14 * s) 3 = nI 0 ∧ z0_M.1 (25 + 14 * s) 4 = z0_M.1 168 s ∧ 0 ≤ (z0_M.1 168 s).toInt ∧ (z0_M.1 168 s).toInt ≤ 1024 := by decide +kernel
  obtain ⟨h1, h2, h3, h4, h5⟩ := this s hs
  exact ⟨⟨h1, by decide, fun i hi => by omega, fun i j hi hj => by omega, fun i hi => by omega, fun i hi => by omega, h4, h5⟩, h2, h3, fun i hi => by omega⟩
theorem z0_m : zJm z0_M := by
  unfold zJm
  decide +kernel
theorem z0_b : zJb z0_M := by
  refine ⟨⟨0, 0, by decide +kernel, by decide +kernel, by decide, by decide, by decide +kernel, fun s hs i hi => by omega⟩, by decide +kernel⟩
theorem z0_J : zJ z0_M := ⟨z0_L, z0_t, z0_c, ⟨z0_r, z0_n⟩, z0_e, z0_f, z0_m, z0_b⟩
theorem z0_00 : zc_0 0 z0_Z := fun _ _ => ⟨fun _ => rfl, fun _ => rfl, fun _ => rfl⟩

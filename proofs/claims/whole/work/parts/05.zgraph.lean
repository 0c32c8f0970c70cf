/-! Who reaches whom: pure rows. gq_P F m a b: a way from a to b over strips below m alone (what three nested loops compute); TransGen: any way. -/
def gq_P (F : Nat → Nat → Prop) : Nat → Nat → Nat → Prop
  | 0, a, b => F a b
  | m + 1, a, b => gq_P F m a b ∨ (gq_P F m a m ∧ gq_P F m m b)
theorem gq_mono {F : Nat → Nat → Prop} {m a b : Nat} : ∀ {k : Nat}, gq_P F m a b → gq_P F (m + k) a b
  | 0, h => h
  | _ + 1, h => Or.inl (gq_mono h)
theorem gq_tr {F : Nat → Nat → Prop} : ∀ (m a b c : Nat), b < m → gq_P F m a b → gq_P F m b c → gq_P F m a c
  | 0, _, _, _, h, _, _ => absurd h (Nat.not_lt_zero _)
  | m + 1, a, b, c, hb, h1, h2 => by
    by_cases hm : b = m
    · subst hm
      have e1 : gq_P F b a b := h1.elim id (fun h => h.1)
      have e2 : gq_P F b b c := h2.elim id (fun h => h.2)
      exact Or.inr ⟨e1, e2⟩
    · have hb' : b < m := by omega
      rcases h1 with h1 | ⟨h1, h1'⟩
      · rcases h2 with h2 | ⟨h2, h2'⟩
        · exact Or.inl (gq_tr m a b c hb' h1 h2)
        · exact Or.inr ⟨gq_tr m a b m hb' h1 h2, h2'⟩
      · rcases h2 with h2 | ⟨h2, h2'⟩
        · exact Or.inr ⟨h1, gq_tr m m b c hb' h1' h2⟩
        · exact Or.inr ⟨h1, h2'⟩
abbrev gq_T (F : Nat → Nat → Prop) : Nat → Nat → Prop := Relation.TransGen F
theorem gq_trans {F : Nat → Nat → Prop} {a b c : Nat} (h1 : gq_T F a b) (h2 : gq_T F b c) : gq_T F a c := by
  induction h2 with
  | single h => exact .tail h1 h
  | tail _ h ih => exact .tail ih h
theorem gq_sound {F : Nat → Nat → Prop} : ∀ (m a b : Nat), gq_P F m a b → gq_T F a b
  | 0, _, _, h => .single h
  | m + 1, a, b, h => by
    rcases h with h | ⟨h1, h2⟩
    · exact gq_sound m a b h
    · exact gq_trans (gq_sound m a m h1) (gq_sound m m b h2)
theorem gq_full {F : Nat → Nat → Prop} {N : Nat} (hF : ∀ a b, F a b → a < N) {a b : Nat} (h : gq_T F a b) : gq_P F N a b := by
  have h0 : ∀ x y, F x y → gq_P F N x y := fun x y hxy => by
    have := gq_mono (F := F) (m := 0) (k := N) (a := x) (b := y) hxy
    rwa [Nat.zero_add] at this
  induction h with
  | single h => exact h0 _ _ h
  | tail _ h ih => exact gq_tr N _ _ _ (hF _ _ h) ih (h0 _ _ h)
theorem gq_iff {F : Nat → Nat → Prop} {N : Nat} (hF : ∀ a b, F a b → a < N) (a b : Nat) : gq_P F N a b ↔ gq_T F a b := ⟨gq_sound N a b, gq_full hF⟩
/-- the last step of a way -/
theorem gq_last {F : Nat → Nat → Prop} {a c : Nat} (h : gq_T F a c) : ∃ b, (a = b ∨ gq_T F a b) ∧ F b c := by
  cases h with
  | single h => exact ⟨a, Or.inl rfl, h⟩
  | tail h1 h2 => exact ⟨_, Or.inr h1, h2⟩
/-- the first step of a way -/
theorem gq_head {F : Nat → Nat → Prop} {a c : Nat} (h : gq_T F a c) : ∃ b, F a b ∧ (b = c ∨ gq_T F b c) := by
  induction h with
  | single h => exact ⟨_, h, Or.inl rfl⟩
  | tail h1 h2 ih =>
    obtain ⟨b, hb, hc⟩ := ih
    rcases hc with rfl | hc
    · exact ⟨_, hb, Or.inr (.single h2)⟩
    · exact ⟨b, hb, Or.inr (.tail hc h2)⟩
/-- one step more: what new ways there are -/
theorem gq_add {F F' : Nat → Nat → Prop} {u v : Nat} (hF : ∀ a b, F' a b → F a b ∨ (a = u ∧ b = v)) {x y : Nat} (h : gq_T F' x y) : gq_T F x y ∨ ((x = u ∨ gq_T F x u) ∧ (y = v ∨ gq_T F v y)) := by
  induction h with
  | single h =>
    rcases hF _ _ h with h | ⟨rfl, rfl⟩
    · exact Or.inl (.single h)
    · exact Or.inr ⟨Or.inl rfl, Or.inl rfl⟩
  | tail _ h ih =>
    rcases hF _ _ h with h | ⟨rfl, rfl⟩
    · rcases ih with ih | ⟨i1, i2⟩
      · exact Or.inl (.tail ih h)
      · refine Or.inr ⟨i1, Or.inr ?_⟩
        rcases i2 with rfl | i2
        · exact .single h
        · exact .tail i2 h
    · rcases ih with ih | ⟨i1, i2⟩
      · exact Or.inr ⟨Or.inr ih, Or.inl rfl⟩
      · exact Or.inr ⟨i1, Or.inl rfl⟩
/-- no rings: one step more keeps it so just when the step's end doesn't reach its start -/
theorem gq_ring {F F' : Nat → Nat → Prop} {u v : Nat} (hno : ∀ a, ¬ gq_T F a a) (hF : ∀ a b, F' a b → F a b ∨ (a = u ∧ b = v)) (h1 : u ≠ v) (h2 : ¬ gq_T F v u) : ∀ a, ¬ gq_T F' a a := by
  intro a h
  rcases gq_add hF h with h | ⟨i1, i2⟩
  · exact hno a h
  · rcases i1 with rfl | i1
    · rcases i2 with rfl | i2
      · exact h1 rfl
      · exact h2 i2
    · rcases i2 with rfl | i2
      · exact h2 i1
      · exact h2 (gq_trans i2 i1)
theorem gq_less {F F' : Nat → Nat → Prop} (hF : ∀ a b, F' a b → F a b) {x y : Nat} (h : gq_T F' x y) : gq_T F x y := by
  induction h with
  | single h => exact .single (hF _ _ h)
  | tail _ h ih => exact .tail ih (hF _ _ h)
/-- a way to u doesn't use u's own steps -/
theorem gq_to {F F' : Nat → Nat → Prop} {u : Nat} (hno : ∀ a, ¬ gq_T F a a) (hF : ∀ a b, a ≠ u → F a b → F' a b) {x : Nat} (h : gq_T F x u) : gq_T F' x u := by
  have key : ∀ x y, gq_T F x y → (y = u ∨ gq_T F y u) → gq_T F' x y := by
    intro x y hxy
    induction hxy with
    | single h1 =>
      intro hy
      refine .single (hF _ _ (fun hxu => ?_) h1)
      rcases hy with hy | hy
      · rw [hy, ← hxu] at h1
        exact hno _ (.single h1)
      · rw [← hxu] at hy
        exact hno _ (gq_trans (.single h1) hy)
    | @tail b c h1 h2 ih =>
      intro hy
      have hb : gq_T F b u := by
        rcases hy with hy | hy
        · rw [← hy]; exact .single h2
        · exact gq_trans (.single h2) hy
      refine .tail (ih (Or.inr hb)) (hF _ _ (fun hxu => ?_) h2)
      rw [hxu] at hb
      exact hno _ hb
  exact key x u h (Or.inl rfl)
/-- what a refused step would have closed -/
theorem gq_ring_iff {F F' : Nat → Nat → Prop} {u v : Nat} (hno : ∀ a, ¬ gq_T F a a) (hF : ∀ a b, F' a b → F a b ∨ (a = u ∧ b = v)) (hF2 : ∀ a b, a ≠ u → F a b → F' a b) (huv : F' u v) : gq_T F' u u ↔ (u = v ∨ gq_T F v u) := by
  constructor
  · intro h
    rcases gq_add hF h with h | ⟨i1, i2⟩
    · exact absurd h (hno u)
    · rcases i2 with h | h
      · exact Or.inl h
      · exact Or.inr h
  · rintro (rfl | h)
    · exact .single huv
    · exact gq_trans (.single huv) (gq_to hno hF2 h)

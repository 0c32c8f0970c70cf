/-! The reference: an effect works on a whole row. -/
theorem ze_lim_b {p z m : Int} (hp : 1 ≤ p) (hp2 : p ≤ 100000) (h1 : -16777216 ≤ z) (h2 : z ≤ 16777216) (hm : ze_abs z ≤ m) : -16777216 ≤ ze_lim p z m ∧ ze_lim p z m ≤ 16777216 := by
  unfold ze_lim
  unfold ze_abs at hm
  split
  · omega
  · by_cases h0 : 0 ≤ z
    · rw [if_neg (by omega)] at hm
      have g1 : 0 ≤ z * p := Int.mul_nonneg h0 (by omega)
      rw [Int.tdiv_eq_ediv_of_nonneg g1]
      have g2 : z * p ≤ m * p := Int.mul_le_mul_of_nonneg_right hm (by omega)
      have g3 : z * p / m ≤ p := Int.ediv_le_of_le_mul (by omega) (by rw [Int.mul_comm p m]; exact g2)
      have g4 : 0 ≤ z * p / m := Int.ediv_nonneg g1 (by omega)
      omega
    · rw [if_pos (by omega)] at hm
      have g1 : 0 ≤ -z * p := Int.mul_nonneg (by omega) (by omega)
      have e : z * p = -(-z * p) := by rw [Int.neg_mul, Int.neg_neg]
      rw [e, Int.neg_tdiv, Int.tdiv_eq_ediv_of_nonneg g1]
      have g2 : -z * p ≤ m * p := Int.mul_le_mul_of_nonneg_right hm (by omega)
      have g3 : -z * p / m ≤ p := Int.ediv_le_of_le_mul (by omega) (by rw [Int.mul_comm p m]; exact g2)
      have g4 : 0 ≤ -z * p / m := Int.ediv_nonneg g1 (by omega)
      omega
theorem zi_smooth {x m p : Int} (hx1 : -16777216 ≤ x) (hx2 : x ≤ 16777216) (hm1 : -16777216 ≤ m) (hm2 : m ≤ 16777216) (hp1 : 0 ≤ p) (hp2 : p ≤ 256) : -16777216 ≤ m + (x - m) * p / 256 ∧ m + (x - m) * p / 256 ≤ 16777216 := by
  by_cases h : m ≤ x
  · have h1 : 0 ≤ (x - m) * p := Int.mul_nonneg (by omega) hp1
    have h2 : (x - m) * p ≤ (x - m) * 256 := Int.mul_le_mul_of_nonneg_left hp2 (by omega)
    omega
  · have h1 : (x - m) * p ≤ (x - m) * 0 := Int.mul_le_mul_of_nonpos_left (by omega) hp1
    have h2 : (x - m) * 256 ≤ (x - m) * p := Int.mul_le_mul_of_nonpos_left (by omega) hp2
    omega
/-- an effect has worked up to time t; m: its memory -/
def zw_J (k p q : Int) (t : Nat) (m : Int) (x y : Nat → Int) : Prop :=
  if k = 2 then (∃ f : Nat → Int, f 0 = 0 ∧ (∀ i, i < t → f (i + 1) = f i + (x i - f i) * p / 256 ∧ y i = zi_cut (f (i + 1))) ∧ f t = m) ∧ -16777216 ≤ m ∧ m ≤ 16777216
  else if k = 5 then (∃ f : Nat → Int, f 0 = 0 ∧ (∀ i, i < t → y i = (if 0 < (if p ≤ ze_abs (x i) then q + 1 else f i) then x i else 0) ∧ f (i + 1) = (if 0 < (if p ≤ ze_abs (x i) then q + 1 else f i) then (if p ≤ ze_abs (x i) then q + 1 else f i) - 1 else (if p ≤ ze_abs (x i) then q + 1 else f i))) ∧ f t = m) ∧ 0 ≤ m ∧ m ≤ 65
  else ze_S k p q t x y
theorem zw_J_0 (k p q : Int) (x y : Nat → Int) : zw_J k p q 0 0 x y := by
  unfold zw_J
  split
  · exact ⟨⟨fun _ => 0, rfl, fun i hi => absurd hi (by omega), rfl⟩, by omega, by omega⟩
  split
  · exact ⟨⟨fun _ => 0, rfl, fun i hi => absurd hi (by omega), rfl⟩, by omega, by omega⟩
  unfold ze_S
  (repeat' split) <;> first | exact fun t ht => absurd ht (by omega) | (exfalso; omega)
/-- its next step -/
def zw_1 (k p q : Int) (t : Nat) (m m' : Int) (x y : Nat → Int) : Prop :=
  if k = 1 then y t = zi_cut (x t * p / 256)
  else if k = 2 then m' = m + (x t - m) * p / 256 ∧ y t = zi_cut m' ∧ -16777216 ≤ m' ∧ m' ≤ 16777216
  else if k = 3 then y t = zi_cut (x t + ze_back y t p.toNat * q / 256)
  else if k = 4 then ∃ M, ze_max (fun d => ze_abs (ze_back x t d)) (q.toNat + 1) M ∧ y t = ze_lim p (ze_back x t q.toNat) M
  else if k = 5 then y t = (if 0 < (if p ≤ ze_abs (x t) then q + 1 else m) then x t else 0) ∧ m' = (if 0 < (if p ≤ ze_abs (x t) then q + 1 else m) then (if p ≤ ze_abs (x t) then q + 1 else m) - 1 else (if p ≤ ze_abs (x t) then q + 1 else m)) ∧ 0 ≤ m' ∧ m' ≤ 65
  else if k = 6 then y t = if x t < -p then -p else if p < x t then p else x t
  else y t = x t
theorem zw_ext {f : Nat → Int} {t : Nat} {v : Int} : (fun j => if j = t + 1 then v else f j) (t + 1) = v ∧ ∀ i, i ≤ t → (fun j => if j = t + 1 then v else f j) i = f i := ⟨if_pos rfl, fun i hi => if_neg (by omega)⟩
theorem zw_J_s {k p q : Int} {t : Nat} {m m' : Int} {x y y' : Nat → Int} (hy : ∀ j, j < t → y' j = y j) (h : zw_J k p q t m x y) (hN : zw_1 k p q t m m' x y') : zw_J k p q (t + 1) m' x y' := by
  unfold zw_J at h ⊢
  unfold zw_1 at hN
  by_cases h2 : k = 2
  · rw [if_pos h2] at h ⊢
    rw [if_neg (by omega), if_pos h2] at hN
    obtain ⟨⟨f, f0, hf, fm⟩, -⟩ := h
    obtain ⟨n1, n2, n3⟩ := hN
    obtain ⟨e1, e2⟩ := zw_ext (f := f) (t := t) (v := m')
    refine ⟨⟨fun j => if j = t + 1 then m' else f j, by rw [e2 0 (by omega)]; exact f0, fun i hi => ?_, e1⟩, n3⟩
    by_cases e : i = t
    · subst e
      rw [e1, e2 i (by omega), fm]
      exact ⟨n1, n2⟩
    · rw [e2 (i + 1) (by omega), e2 i (by omega), hy i (by omega)]
      exact hf i (by omega)
  rw [if_neg h2] at h ⊢
  by_cases h5 : k = 5
  · rw [if_pos h5] at h ⊢
    rw [if_neg (by omega), if_neg (by omega), if_neg (by omega), if_neg (by omega), if_pos h5] at hN
    obtain ⟨⟨f, f0, hf, fm⟩, -⟩ := h
    obtain ⟨n1, n2, n3⟩ := hN
    obtain ⟨e1, e2⟩ := zw_ext (f := f) (t := t) (v := m')
    refine ⟨⟨fun j => if j = t + 1 then m' else f j, by rw [e2 0 (by omega)]; exact f0, fun i hi => ?_, e1⟩, n3⟩
    by_cases e : i = t
    · subst e
      rw [e1, e2 i (by omega), fm]
      exact ⟨n1, n2⟩
    · rw [e2 (i + 1) (by omega), e2 i (by omega), hy i (by omega)]
      exact hf i (by omega)
  rw [if_neg h5] at h ⊢
  unfold ze_S at h ⊢
  by_cases h1 : k = 1
  · rw [if_pos h1] at h hN ⊢
    exact ze_all_s (fun i hi => by rw [hy i hi]; exact h i hi) hN
  rw [if_neg h1] at h hN ⊢
  rw [if_neg h2] at h hN ⊢
  by_cases h3 : k = 3
  · rw [if_pos h3] at h hN ⊢
    refine ze_all_s (fun i hi => ?_) hN
    have e : ze_back y' i p.toNat = ze_back y i p.toNat := by
      unfold ze_back
      split
      · exact hy _ (by omega)
      · rfl
    rw [hy i hi, e]; exact h i hi
  rw [if_neg h3] at h hN ⊢
  by_cases h4 : k = 4
  · rw [if_pos h4] at h hN ⊢
    exact ze_all_s (fun i hi => by rw [hy i hi]; exact h i hi) hN
  rw [if_neg h4, if_neg h5] at h hN ⊢
  by_cases h6 : k = 6
  · rw [if_pos h6] at h hN ⊢
    exact ze_all_s (fun i hi => by rw [hy i hi]; exact h i hi) hN
  rw [if_neg h6] at h hN ⊢
  exact ze_all_s (fun i hi => by rw [hy i hi]; exact h i hi) hN
theorem zw_J_S {k p q : Int} {t : Nat} {m : Int} {x y : Nat → Int} (h : zw_J k p q t m x y) : ze_S k p q t x y := by
  unfold zw_J at h
  by_cases h2 : k = 2
  · rw [if_pos h2] at h
    obtain ⟨⟨f, f0, hf, -⟩, -⟩ := h
    unfold ze_S
    rw [if_neg (by omega), if_pos h2]
    exact ⟨f, f0, hf⟩
  rw [if_neg h2] at h
  by_cases h5 : k = 5
  · rw [if_pos h5] at h
    obtain ⟨⟨f, f0, hf, -⟩, -⟩ := h
    unfold ze_S
    rw [if_neg (by omega), if_neg h2, if_neg (by omega), if_neg (by omega), if_pos h5]
    exact ⟨f, f0, hf⟩
  rw [if_neg h5] at h
  exact h

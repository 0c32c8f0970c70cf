/-! An effect that plays sample by sample: what its memories hold at time t, and that one step keeps it so. pa: the ring; pl: its place; me: the one number. -/
def ze_J (k p q : Int) (t : Nat) (pa : Nat → Int) (pl : Nat) (me : Int) (x y : Nat → Int) : Prop :=
  if k = 2 then ∃ m : Nat → Int, m 0 = 0 ∧ (∀ i, i < t → m (i + 1) = m i + (x i - m i) * p / 256 ∧ y i = zi_cut (m (i + 1))) ∧ me = m t
  else if k = 3 then ze_S k p q t x y ∧ ze_ring p.toNat t pa y ∧ pl = t % p.toNat
  else if k = 4 then ze_S k p q t x y ∧ ze_ring (q.toNat + 1) t pa x ∧ pl = t % (q.toNat + 1) ∧ ze_max (fun i => ze_abs (pa i)) (q.toNat + 1) me
  else if k = 5 then ∃ n : Nat → Int, n 0 = 0 ∧ (∀ t', t' < t → y t' = (if 0 < (if p ≤ ze_abs (x t') then q + 1 else n t') then x t' else 0) ∧ n (t' + 1) = (if 0 < (if p ≤ ze_abs (x t') then q + 1 else n t') then (if p ≤ ze_abs (x t') then q + 1 else n t') - 1 else (if p ≤ ze_abs (x t') then q + 1 else n t'))) ∧ me = n t
  else ze_S k p q t x y
/-- one step: x comes, y goes -/
def ze_N (k p q : Int) (x : Int) (pa : Nat → Int) (pl : Nat) (me : Int) (y : Int) (pa' : Nat → Int) (pl' : Nat) (me' : Int) : Prop :=
  if k = 1 then y = zi_cut (x * p / 256)
  else if k = 2 then me' = me + (x - me) * p / 256 ∧ y = zi_cut me'
  else if k = 3 then y = zi_cut (x + pa pl * q / 256) ∧ pa' pl = y ∧ (∀ i, i < p.toNat → i ≠ pl → pa' i = pa i) ∧ pl' = if pl + 1 < p.toNat then pl + 1 else 0
  else if k = 4 then pa' pl = x ∧ (∀ i, i < q.toNat + 1 → i ≠ pl → pa' i = pa i) ∧ pl' = (if pl < q.toNat then pl + 1 else 0) ∧ (me ≤ ze_abs x → me' = ze_abs x) ∧ (ze_abs x < me → ze_abs (pa pl) = me → ze_max (fun i => ze_abs (pa' i)) (q.toNat + 1) me') ∧ (ze_abs x < me → ze_abs (pa pl) ≠ me → me' = me) ∧ y = ze_lim p (pa' pl') me'
  else if k = 5 then y = (if 0 < (if p ≤ ze_abs x then q + 1 else me) then x else 0) ∧ me' = (if 0 < (if p ≤ ze_abs x then q + 1 else me) then (if p ≤ ze_abs x then q + 1 else me) - 1 else (if p ≤ ze_abs x then q + 1 else me))
  else if k = 6 then y = if x < -p then -p else if p < x then p else x
  else y = x
theorem ze_all_s {P : Nat → Prop} {t : Nat} (h : ∀ i, i < t → P i) (ht : P t) : ∀ i, i < t + 1 → P i := fun i hi => by
  by_cases hit : i = t
  · subst hit; exact ht
  · exact h i (by omega)
theorem ze_back_y {y y' : Nat → Int} {t d i : Nat} (hy : ∀ i, i < t → y' i = y i) (hi : i < t ∨ 1 ≤ d ∧ i ≤ t) : ze_back y' i d = ze_back y i d := by
  unfold ze_back
  split
  · exact hy _ (by omega)
  · rfl
theorem ze_J_S {k p q : Int} {t : Nat} {pa : Nat → Int} {pl : Nat} {me : Int} {x y : Nat → Int} (h : ze_J k p q t pa pl me x y) : ze_S k p q t x y := by
  unfold ze_J at h
  by_cases k2 : k = 2
  · rw [if_pos k2] at h
    obtain ⟨m, m0, hm, -⟩ := h
    unfold ze_S
    rw [if_neg (by omega), if_pos k2]
    exact ⟨m, m0, hm⟩
  rw [if_neg k2] at h
  by_cases k3 : k = 3
  · rw [if_pos k3] at h; exact h.1
  rw [if_neg k3] at h
  by_cases k4 : k = 4
  · rw [if_pos k4] at h; exact h.1
  rw [if_neg k4] at h
  by_cases k5 : k = 5
  · rw [if_pos k5] at h
    obtain ⟨n, n0, hn, -⟩ := h
    unfold ze_S
    rw [if_neg (by omega), if_neg (by omega), if_neg (by omega), if_neg (by omega), if_pos k5]
    exact ⟨n, n0, hn⟩
  rw [if_neg k5] at h
  exact h
theorem ze_J_0 {k p q : Int} {pa : Nat → Int} {x y : Nat → Int} (hpa : ∀ i, i < 32 → pa i = 0) (h3 : k = 3 → 1 ≤ p ∧ p ≤ 32) (h4 : k = 4 → 0 ≤ q ∧ q ≤ 16) : ze_J k p q 0 pa 0 0 x y := by
  unfold ze_J ze_S
  by_cases k2 : k = 2
  · rw [if_pos k2]; exact ⟨fun _ => 0, rfl, fun i hi => by omega, rfl⟩
  rw [if_neg k2]
  by_cases k3 : k = 3
  · rw [if_pos k3, if_neg (by omega), if_neg k2, if_pos k3]
    have := h3 k3
    exact ⟨fun i hi => by omega, ze_ring_0 (fun i hi => hpa i (by omega)), (Nat.zero_mod _).symm⟩
  rw [if_neg k3]
  by_cases k4 : k = 4
  · rw [if_pos k4, if_neg (by omega), if_neg k2, if_neg k3, if_pos k4]
    have := h4 k4
    refine ⟨fun i hi => by omega, ze_ring_0 (fun i hi => hpa i (by omega)), (Nat.zero_mod _).symm, by omega, fun i hi => ?_, Or.inl rfl⟩
    show ze_abs (pa i) ≤ 0
    rw [hpa i (by omega)]
    decide
  rw [if_neg k4]
  by_cases k5 : k = 5
  · rw [if_pos k5]; exact ⟨fun _ => 0, rfl, fun i hi => by omega, rfl⟩
  rw [if_neg k5]
  by_cases k1 : k = 1
  · rw [if_pos k1]; exact fun i hi => by omega
  rw [if_neg k1, if_neg k2, if_neg k3, if_neg k4, if_neg k5]
  split <;> exact fun i hi => by omega
/-- one step more; y' is y with the new sample at t -/
theorem ze_J_s {k p q : Int} {t : Nat} {pa pa' : Nat → Int} {pl pl' : Nat} {me me' : Int} {x y y' : Nat → Int} (h3 : k = 3 → 1 ≤ p) (hy : ∀ i, i < t → y' i = y i) (h : ze_J k p q t pa pl me x y) (hn : ze_N k p q (x t) pa pl me (y' t) pa' pl' me') : ze_J k p q (t + 1) pa' pl' me' x y' := by
  unfold ze_J at h ⊢
  unfold ze_N at hn
  by_cases k2 : k = 2
  · rw [if_pos k2] at h ⊢
    rw [if_neg (by omega), if_pos k2] at hn
    obtain ⟨m, m0, hm, hme⟩ := h
    obtain ⟨n1, n2⟩ := hn
    refine ⟨fun i => if i = t + 1 then me' else m i, by simp [m0], ze_all_s (fun i hi => ?_) ?_, by simp⟩
    · have h1 : ¬ i + 1 = t + 1 := by omega
      have h2 : ¬ i = t + 1 := by omega
      simp only [h1, h2, if_false]
      rw [hy i hi]
      exact hm i hi
    · have h2 : ¬ t = t + 1 := by omega
      simp only [h2, if_false, if_true]
      rw [← hme]
      exact ⟨n1, n2⟩
  rw [if_neg k2] at h ⊢
  by_cases k3 : k = 3
  · rw [if_pos k3] at h ⊢
    rw [if_neg (by omega), if_neg k2, if_pos k3] at hn
    obtain ⟨hS, hR, hpl⟩ := h
    obtain ⟨n1, n2, n3, n4⟩ := hn
    have hp : 0 < p.toNat := by have := h3 k3; omega
    unfold ze_S at hS ⊢
    rw [if_neg (by omega), if_neg k2, if_pos k3] at hS ⊢
    subst hpl
    refine ⟨ze_all_s (fun i hi => ?_) ?_, ze_ring_s hp hR hy n2 n3, ?_⟩
    · rw [hy i hi, hS i hi, ze_back_y hy (Or.inl hi)]
    · rw [n1, ze_ring_old hp hR, ze_back_y hy (Or.inr ⟨by omega, by omega⟩)]
    · rw [n4, ze_mod_s hp]
  rw [if_neg k3] at h ⊢
  by_cases k4 : k = 4
  · rw [if_pos k4] at h ⊢
    rw [if_neg (by omega), if_neg k2, if_neg k3, if_pos k4] at hn
    obtain ⟨hS, hR, hpl, hM⟩ := h
    obtain ⟨n1, n2, n3, n4, n5, n6, n7⟩ := hn
    subst hpl
    have hL : 0 < q.toNat + 1 := by omega
    have hj := Nat.mod_lt t hL
    have hR' : ze_ring (q.toNat + 1) (t + 1) pa' x := ze_ring_s hL hR (fun _ _ => rfl) n1 n2
    have hpl' : pl' = (t + 1) % (q.toNat + 1) := by
      rw [n3, ← ze_mod_s hL]
      by_cases h : t % (q.toNat + 1) < q.toNat
      · rw [if_pos h, if_pos (by omega)]
      · rw [if_neg h, if_neg (by omega)]
    have hput := ze_max_put (f := fun i => ze_abs (pa i)) (f' := fun i => ze_abs (pa' i)) hj hM (fun i hi hij => by show ze_abs (pa' i) = ze_abs (pa i); rw [n2 i hi hij]) (ze_abs_nn _)
    simp only [n1] at hput
    have hM' : ze_max (fun i => ze_abs (pa' i)) (q.toNat + 1) me' := by
      by_cases c1 : me ≤ ze_abs (x t)
      · rw [n4 c1]; exact hput.1 c1
      · by_cases c2 : ze_abs (pa (t % (q.toNat + 1))) = me
        · exact n5 (by omega) c2
        · rw [n6 (by omega) c2]; exact hput.2 (by omega) c2
    have hold : pa' pl' = ze_back x t q.toNat := by
      rw [hpl', ze_ring_old hL hR']
      unfold ze_back
      by_cases h : q.toNat ≤ t
      · rw [if_pos (by omega), if_pos h, show t + 1 - (q.toNat + 1) = t - q.toNat by omega]
      · rw [if_neg (by omega), if_neg h]
    unfold ze_S at hS ⊢
    rw [if_neg (by omega), if_neg k2, if_neg k3, if_pos k4] at hS ⊢
    refine ⟨ze_all_s (fun i hi => ?_) ⟨me', ze_ring_max hR' hM', by rw [n7, hold]⟩, hR', hpl', hM'⟩
    rw [hy i hi]
    exact hS i hi
  rw [if_neg k4] at h ⊢
  by_cases k5 : k = 5
  · rw [if_pos k5] at h ⊢
    rw [if_neg (by omega), if_neg k2, if_neg k3, if_neg k4, if_pos k5] at hn
    obtain ⟨m, m0, hm, hme⟩ := h
    obtain ⟨n1, n2⟩ := hn
    refine ⟨fun i => if i = t + 1 then me' else m i, by simp [m0], ze_all_s (fun i hi => ?_) ?_, by simp⟩
    · have h1 : ¬ i + 1 = t + 1 := by omega
      have h2 : ¬ i = t + 1 := by omega
      simp only [h1, h2, if_false]
      rw [hy i hi]
      exact hm i hi
    · have h2 : ¬ t = t + 1 := by omega
      simp only [h2, if_false, if_true]
      rw [← hme]
      exact ⟨n1, n2⟩
  rw [if_neg k5] at h ⊢
  unfold ze_S at h ⊢
  by_cases k1 : k = 1
  · rw [if_pos k1] at h hn ⊢
    exact ze_all_s (fun i hi => by rw [hy i hi]; exact h i hi) hn
  rw [if_neg k1, if_neg k2, if_neg k3, if_neg k4, if_neg k5] at h hn ⊢
  by_cases k6 : k = 6
  · rw [if_pos k6] at h hn ⊢
    exact ze_all_s (fun i hi => by rw [hy i hi]; exact h i hi) hn
  rw [if_neg k6] at h hn ⊢
  exact ze_all_s (fun i hi => by rw [hy i hi]; exact h i hi) hn

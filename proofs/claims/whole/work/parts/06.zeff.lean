/-! What an effect does to a row of numbers: pure rows. -/
def ze_abs (x : Int) : Int := if x < 0 then -x else x
theorem ze_abs_nn (x : Int) : 0 ≤ ze_abs x := by unfold ze_abs; split <;> omega
/-- M is the greatest of f 0 .. f (n - 1), and of 0 -/
def ze_max (f : Nat → Int) (n : Nat) (M : Int) : Prop := 0 ≤ M ∧ (∀ i, i < n → f i ≤ M) ∧ (M = 0 ∨ ∃ i, i < n ∧ f i = M)
theorem ze_max_u {f : Nat → Int} {n : Nat} {M M' : Int} (h : ze_max f n M) (h' : ze_max f n M') : M = M' := by
  obtain ⟨a1, a2, a3⟩ := h
  obtain ⟨b1, b2, b3⟩ := h'
  have h1 : M ≤ M' := by
    rcases a3 with h | ⟨i, hi, h⟩
    · omega
    · have := b2 i hi; omega
  have h2 : M' ≤ M := by
    rcases b3 with h | ⟨i, hi, h⟩
    · omega
    · have := a2 i hi; omega
  omega
theorem ze_max_0 (f : Nat → Int) : ze_max f 0 0 := ⟨by omega, fun i h => by omega, Or.inl rfl⟩
theorem ze_max_s {f : Nat → Int} {n : Nat} {M : Int} (h : ze_max f n M) : ze_max f (n + 1) (if M < f n then f n else M) := by
  obtain ⟨a1, a2, a3⟩ := h
  split
  · refine ⟨by omega, fun i hi => ?_, Or.inr ⟨n, by omega, rfl⟩⟩
    by_cases hin : i = n
    · subst hin; omega
    · have := a2 i (by omega); omega
  · refine ⟨a1, fun i hi => ?_, ?_⟩
    · by_cases hin : i = n
      · subst hin; omega
      · exact a2 i (by omega)
    · rcases a3 with h | ⟨i, hi, h⟩
      · exact Or.inl h
      · exact Or.inr ⟨i, by omega, h⟩
/-- the sample that stands d steps back, 0 before the beginning -/
def ze_back (x : Nat → Int) (t d : Nat) : Int := if d ≤ t then x (t - d) else 0
/-- the limit's answer: M the greatest size of the last q + 1 -/
def ze_lim (p z M : Int) : Int := if M ≤ p then z else (z * p).tdiv M
/-- the effect of kind k with p, q turns the row x into the row y, up to time e -/
def ze_S (k p q : Int) (e : Nat) (x y : Nat → Int) : Prop :=
  if k = 1 then ∀ t, t < e → y t = zi_cut (x t * p / 256)
  else if k = 2 then ∃ m : Nat → Int, m 0 = 0 ∧ ∀ t, t < e → m (t + 1) = m t + (x t - m t) * p / 256 ∧ y t = zi_cut (m (t + 1))
  else if k = 3 then ∀ t, t < e → y t = zi_cut (x t + ze_back y t p.toNat * q / 256)
  else if k = 4 then ∀ t, t < e → ∃ M, ze_max (fun d => ze_abs (ze_back x t d)) (q.toNat + 1) M ∧ y t = ze_lim p (ze_back x t q.toNat) M
  else if k = 5 then ∃ n : Nat → Int, n 0 = 0 ∧ ∀ t, t < e → y t = (if 0 < (if p ≤ ze_abs (x t) then q + 1 else n t) then x t else 0) ∧ n (t + 1) = (if 0 < (if p ≤ ze_abs (x t) then q + 1 else n t) then (if p ≤ ze_abs (x t) then q + 1 else n t) - 1 else (if p ≤ ze_abs (x t) then q + 1 else n t))
  else if k = 6 then ∀ t, t < e → y t = if x t < -p then -p else if p < x t then p else x t
  else ∀ t, t < e → y t = x t
theorem ze_back_c {x x' : Nat → Int} {t d e : Nat} (hx : ∀ t, t < e → x t = x' t) (ht : t < e) : ze_back x t d = ze_back x' t d := by
  unfold ze_back
  split
  · exact hx _ (by omega)
  · rfl
theorem ze_S_u {k p q : Int} {e : Nat} {x x' y y' : Nat → Int} (h3 : k = 3 → 1 ≤ p) (hx : ∀ t, t < e → x t = x' t) (h : ze_S k p q e x y) (h' : ze_S k p q e x' y') : ∀ t, t < e → y t = y' t := by
  unfold ze_S at h h'
  by_cases k1 : k = 1
  · rw [if_pos k1] at h h'
    intro t ht
    rw [h t ht, h' t ht, hx t ht]
  rw [if_neg k1] at h h'
  by_cases k2 : k = 2
  · rw [if_pos k2] at h h'
    obtain ⟨m, m0, hm⟩ := h
    obtain ⟨m', m0', hm'⟩ := h'
    have key : ∀ t, t ≤ e → m t = m' t := by
      intro t
      induction t with
      | zero => intro _; rw [m0, m0']
      | succ t ih =>
        intro ht
        rw [(hm t (by omega)).1, (hm' t (by omega)).1, ih (by omega), hx t (by omega)]
    intro t ht
    rw [(hm t ht).2, (hm' t ht).2, key (t + 1) (by omega)]
  rw [if_neg k2] at h h'
  by_cases k3 : k = 3
  · rw [if_pos k3] at h h'
    have hp := h3 k3
    intro t
    induction t using Nat.strongRecOn with
    | ind t ih =>
      intro ht
      rw [h t ht, h' t ht, hx t ht]
      have : ze_back y t p.toNat = ze_back y' t p.toNat := by
        unfold ze_back
        split
        · exact ih _ (by omega) (by omega)
        · rfl
      rw [this]
  rw [if_neg k3] at h h'
  by_cases k4 : k = 4
  · rw [if_pos k4] at h h'
    intro t ht
    obtain ⟨M, hM, hy⟩ := h t ht
    obtain ⟨M', hM', hy'⟩ := h' t ht
    have e1 : (fun d => ze_abs (ze_back x t d)) = (fun d => ze_abs (ze_back x' t d)) := by
      funext d
      rw [ze_back_c hx ht]
    rw [e1] at hM
    rw [hy, hy', ze_max_u hM hM', ze_back_c hx ht]
  rw [if_neg k4] at h h'
  by_cases k5 : k = 5
  · rw [if_pos k5] at h h'
    obtain ⟨n, n0, hn⟩ := h
    obtain ⟨n', n0', hn'⟩ := h'
    have key : ∀ t, t ≤ e → n t = n' t := by
      intro t
      induction t with
      | zero => intro _; rw [n0, n0']
      | succ t ih =>
        intro ht
        rw [(hn t (by omega)).2, (hn' t (by omega)).2, ih (by omega), hx t (by omega)]
    intro t ht
    rw [(hn t ht).1, (hn' t ht).1, key t (by omega), hx t ht]
  rw [if_neg k5] at h h'
  by_cases k6 : k = 6
  · rw [if_pos k6] at h h'
    intro t ht
    rw [h t ht, h' t ht, hx t ht]
  rw [if_neg k6] at h h'
  intro t ht
  rw [h t ht, h' t ht, hx t ht]
/-! A row that goes round. -/
theorem ze_mod_ne {t L d : Nat} (h1 : 1 ≤ d) (h2 : d < L) : (t + L - d) % L ≠ t % L := by
  intro h
  have h3 := Nat.sub_mod_eq_zero_of_mod_eq h
  rw [show t + L - d - t = L - d by omega, Nat.mod_eq_of_lt (by omega)] at h3
  omega
theorem ze_mod_s {t L : Nat} (hL : 0 < L) : (if t % L + 1 < L then t % L + 1 else 0) = (t + 1) % L := by
  have h1 := Nat.mod_lt t hL
  rw [Nat.add_mod t 1 L]
  by_cases h : L = 1
  · subst h; simp [Nat.mod_one]
  · rw [Nat.mod_eq_of_lt (show 1 < L by omega)]
    split
    · rename_i h2
      exact (Nat.mod_eq_of_lt h2).symm
    · rename_i h2
      have h3 : t % L + 1 = L := by omega
      rw [h3, Nat.mod_self]
/-- pa holds the last L of x, the one d back at (t + L - d) mod L -/
def ze_ring (L t : Nat) (pa x : Nat → Int) : Prop := ∀ d, 1 ≤ d → d ≤ L → pa ((t + L - d) % L) = ze_back x t d
theorem ze_ring_0 {L : Nat} {pa x : Nat → Int} (h : ∀ i, i < L → pa i = 0) : ze_ring L 0 pa x := by
  intro d h1 h2
  rw [h _ (Nat.mod_lt _ (by omega))]
  unfold ze_back
  rw [if_neg (by omega)]
theorem ze_ring_s {L t : Nat} {pa pa' x x' : Nat → Int} (hL : 0 < L) (h : ze_ring L t pa x) (hx : ∀ i, i < t → x' i = x i) (h1 : pa' (t % L) = x' t) (h2 : ∀ i, i < L → i ≠ t % L → pa' i = pa i) : ze_ring L (t + 1) pa' x' := by
  intro d hd1 hd2
  by_cases hd : d = 1
  · subst hd
    rw [show t + 1 + L - 1 = t + L by omega, Nat.add_mod_right, h1]
    unfold ze_back
    rw [if_pos (by omega)]
    rfl
  · rw [show t + 1 + L - d = t + L - (d - 1) by omega, h2 _ (Nat.mod_lt _ hL) (ze_mod_ne (by omega) (by omega)), h (d - 1) (by omega) (by omega)]
    unfold ze_back
    by_cases hdt : d ≤ t + 1
    · rw [if_pos (by omega), if_pos hdt, show t + 1 - d = t - (d - 1) by omega, hx _ (by omega)]
    · rw [if_neg (by omega), if_neg hdt]
theorem ze_ring_old {L t : Nat} {pa x : Nat → Int} (hL : 0 < L) (h : ze_ring L t pa x) : pa (t % L) = ze_back x t L := by
  have := h L hL (Nat.le_refl _)
  rwa [show t + L - L = t by omega] at this
/-- every place of the ring is some d back -/
theorem ze_ring_all {L t i : Nat} (hi : i < L) : ∃ d, 1 ≤ d ∧ d ≤ L ∧ (t + L - d) % L = i := by
  have hr := Nat.mod_lt t (show 0 < L by omega)
  have hd := Nat.div_add_mod t L
  generalize t % L = r at hr hd
  by_cases h : i < r
  · refine ⟨r - i, by omega, by omega, ?_⟩
    have e : t + L - (r - i) = i + L * (t / L + 1) := by rw [Nat.mul_add]; omega
    rw [e, Nat.add_mul_mod_self_left, Nat.mod_eq_of_lt hi]
  · refine ⟨r + L - i, by omega, by omega, ?_⟩
    have e : t + L - (r + L - i) = i + L * (t / L) := by omega
    rw [e, Nat.add_mul_mod_self_left, Nat.mod_eq_of_lt hi]
/-- the greatest of the ring is the greatest of the last L -/
theorem ze_ring_max {L t : Nat} {pa x : Nat → Int} {M : Int} (h : ze_ring L (t + 1) pa x) (hM : ze_max (fun i => ze_abs (pa i)) L M) : ze_max (fun d => ze_abs (ze_back x t d)) L M := by
  obtain ⟨a1, a2, a3⟩ := hM
  have hb : ∀ d, d < L → ze_back x (t + 1) (d + 1) = ze_back x t d := by
    intro d _
    unfold ze_back
    by_cases hd : d ≤ t
    · rw [if_pos (by omega), if_pos hd, show t + 1 - (d + 1) = t - d by omega]
    · rw [if_neg (by omega), if_neg hd]
  refine ⟨a1, fun d hd => ?_, ?_⟩
  · have h1 := h (d + 1) (by omega) (by omega)
    rw [hb d hd] at h1
    show ze_abs (ze_back x t d) ≤ M
    rw [← h1]
    exact a2 _ (Nat.mod_lt _ (by omega))
  · rcases a3 with h0 | ⟨i, hi, h0⟩
    · exact Or.inl h0
    · obtain ⟨d, hd1, hd2, hd3⟩ := ze_ring_all (t := t + 1) hi
      refine Or.inr ⟨d - 1, by omega, ?_⟩
      have h1 := h d hd1 hd2
      rw [hd3] at h1
      have h2 := hb (d - 1) (by omega)
      rw [show d - 1 + 1 = d by omega] at h2
      show ze_abs (ze_back x t (d - 1)) = M
      rw [← h2, ← h1]
      exact h0
/-- the greatest when one place of the ring changes -/
theorem ze_max_put {f f' : Nat → Int} {L j : Nat} {M : Int} (hj : j < L) (hM : ze_max f L M) (ho : ∀ i, i < L → i ≠ j → f' i = f i) (hn : 0 ≤ f' j) :
    (M ≤ f' j → ze_max f' L (f' j)) ∧ (f' j < M → f j ≠ M → ze_max f' L M) := by
  obtain ⟨a1, a2, a3⟩ := hM
  constructor
  · intro h
    refine ⟨hn, fun i hi => ?_, Or.inr ⟨j, hj, rfl⟩⟩
    by_cases hij : i = j
    · subst hij; omega
    · rw [ho i hi hij]; have := a2 i hi; omega
  · intro h1 h2
    refine ⟨a1, fun i hi => ?_, ?_⟩
    · by_cases hij : i = j
      · subst hij; omega
      · rw [ho i hi hij]; exact a2 i hi
    · rcases a3 with h0 | ⟨i, hi, h0⟩
      · exact Or.inl h0
      · by_cases hij : i = j
        · subst hij; exact absurd h0 h2
        · exact Or.inr ⟨i, hi, by rw [ho i hi hij]; exact h0⟩

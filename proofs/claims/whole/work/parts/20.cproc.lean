/-! A strip's row is played: the effects, then the fader. -/
def zf_fg (M : zm_T) (s : Nat) : Nat → zm_T
  | 0 => M
  | i + 1 => zm_ui (zm_ui (zm_seg (zf_fg M s i) (32 + 14 * s + 2 * i) 0 32 (fun _ => 0)) (31 + 14 * s + 2 * i) 4 0) (31 + 14 * s + 2 * i) 5 0
theorem zf_fg_2 (M : zm_T) (s : Nat) : ∀ i, (zf_fg M s i).2 = M.2
  | 0 => rfl
  | i + 1 => zf_fg_2 M s i
theorem zf_fg_o {M : zm_T} {s c j : Nat} (h : c < 31 + 14 * s ∨ 36 + 14 * s < c) : ∀ i, i ≤ 3 → (zf_fg M s i).1 c j = M.1 c j
  | 0, _ => rfl
  | i + 1, hi => by
    show (zm_ui (zm_ui (zm_seg (zf_fg M s i) (32 + 14 * s + 2 * i) 0 32 (fun _ => 0)) (31 + 14 * s + 2 * i) 4 0) (31 + 14 * s + 2 * i) 5 0).1 c j = M.1 c j
    rw [zm_ui_ne (Or.inl (by omega)), zm_ui_ne (Or.inl (by omega)), zm_seg_out (Or.inl (by omega))]
    exact zf_fg_o h i (by omega)
theorem zf_fg_p {M : zm_T} {s e j : Nat} (he : e < 3) (hj : j < 4) : ∀ i, i ≤ 3 → (zf_fg M s i).1 (31 + 14 * s + 2 * e) j = M.1 (31 + 14 * s + 2 * e) j
  | 0, _ => rfl
  | i + 1, hi => by
    show (zm_ui (zm_ui (zm_seg (zf_fg M s i) (32 + 14 * s + 2 * i) 0 32 (fun _ => 0)) (31 + 14 * s + 2 * i) 4 0) (31 + 14 * s + 2 * i) 5 0).1 (31 + 14 * s + 2 * e) j = M.1 (31 + 14 * s + 2 * e) j
    rw [zm_ui_ne (Or.inr (by omega)), zm_ui_ne (Or.inr (by omega)), zm_seg_out (Or.inl (by omega))]
    exact zf_fg_p he hj i (by omega)
/-- behind its forgetting an effect's memories are 0 -/
theorem zf_fg_z {M : zm_T} {s e : Nat} (he : e < 3) : ∀ i, i ≤ 3 → e < i → (zf_fg M s i).1 (31 + 14 * s + 2 * e) 4 = 0 ∧ (zf_fg M s i).1 (31 + 14 * s + 2 * e) 5 = 0 ∧ ∀ j, j < 32 → (zf_fg M s i).1 (32 + 14 * s + 2 * e) j = 0
  | 0, _, h => absurd h (by omega)
  | i + 1, hi, h => by
    show (zm_ui (zm_ui (zm_seg (zf_fg M s i) (32 + 14 * s + 2 * i) 0 32 (fun _ => 0)) (31 + 14 * s + 2 * i) 4 0) (31 + 14 * s + 2 * i) 5 0).1 (31 + 14 * s + 2 * e) 4 = 0 ∧ (zm_ui (zm_ui (zm_seg (zf_fg M s i) (32 + 14 * s + 2 * i) 0 32 (fun _ => 0)) (31 + 14 * s + 2 * i) 4 0) (31 + 14 * s + 2 * i) 5 0).1 (31 + 14 * s + 2 * e) 5 = 0 ∧ ∀ j, j < 32 → (zm_ui (zm_ui (zm_seg (zf_fg M s i) (32 + 14 * s + 2 * i) 0 32 (fun _ => 0)) (31 + 14 * s + 2 * i) 4 0) (31 + 14 * s + 2 * i) 5 0).1 (32 + 14 * s + 2 * e) j = 0
    by_cases hei : e = i
    · subst hei
      refine ⟨?_, zm_ui_at, fun j hj => ?_⟩
      · rw [zm_ui_ne (Or.inr (by decide)), zm_ui_at]
      · rw [zm_ui_ne (Or.inl (by omega)), zm_ui_ne (Or.inl (by omega)), zm_seg_in (by omega) (by omega)]
    · obtain ⟨h1, h2, h3⟩ := zf_fg_z (M := M) (s := s) he i (by omega) (by omega)
      refine ⟨?_, ?_, fun j hj => ?_⟩
      · rw [zm_ui_ne (Or.inl (by omega)), zm_ui_ne (Or.inl (by omega)), zm_seg_out (Or.inl (by omega)), h1]
      · rw [zm_ui_ne (Or.inl (by omega)), zm_ui_ne (Or.inl (by omega)), zm_seg_out (Or.inl (by omega)), h2]
      · rw [zm_ui_ne (Or.inl (by omega)), zm_ui_ne (Or.inl (by omega)), zm_seg_out (Or.inl (by omega)), h3 j hj]
/-- effect i of strip s turns row x into row y up to time e; its kind, p, q as in M -/
def zP_S (M : zm_T) (s i e : Nat) (x y : Nat → Int) : Prop := ze_S (M.1 (31 + 14 * s + 2 * i) 1).toInt (M.1 (31 + 14 * s + 2 * i) 2).toInt (M.1 (31 + 14 * s + 2 * i) 3).toInt e x y
/-- the same with its memories, which lie in M1 -/
def zP_J (M M1 : zm_T) (s i t : Nat) (x y : Nat → Int) : Prop := ze_J (M.1 (31 + 14 * s + 2 * i) 1).toInt (M.1 (31 + 14 * s + 2 * i) 2).toInt (M.1 (31 + 14 * s + 2 * i) 3).toInt t (fun j => (M1.1 (32 + 14 * s + 2 * i) j).toInt) (M1.1 (31 + 14 * s + 2 * i) 4).toInt.toNat (M1.1 (31 + 14 * s + 2 * i) 5).toInt x y
def zP_L (M : zm_T) (s n : Nat) (t v : Int) : Prop := zF_L M (25 + 14 * s) (26 + 14 * s) (27 + 14 * s) (28 + 14 * s) n t v
/-- nothing but the strip's own row and its effects' memories has changed -/
def zP_F (M M1 : zm_T) (s : Nat) : Prop := M1.2 = M.2 ∧ (∀ c j, c < 30 + 14 * s ∨ 36 + 14 * s < c → M1.1 c j = M.1 c j) ∧ ∀ i, i < 3 → ∀ j, j < 4 → M1.1 (31 + 14 * s + 2 * i) j = M.1 (31 + 14 * s + 2 * i) j
/-- what processing up to time e leaves -/
def zP_post (M M' : zm_T) (s n e : Nat) (heard : Int32) : Prop := zP_F M M' s ∧ (∀ t, e ≤ t → M'.1 (30 + 14 * s) t = M.1 (30 + 14 * s) t) ∧
  ∃ x1 x2 x3 lv : Nat → Int, zP_S M s 0 e (fun t => zi_cut (M.1 (30 + 14 * s) t).toInt) x1 ∧ zP_S M s 1 e x1 x2 ∧ zP_S M s 2 e x2 x3 ∧
    ∀ t, t < e → zP_L M s n ((16 * (t / 16) : Nat) : Int) (lv t) ∧ (M'.1 (30 + 14 * s) t).toInt = if heard = 0 then 0 else zi_cut (x3 t * lv t / 256)
/-- the loop's invariant at time t -/
def zP_I (M M1 : zm_T) (s n t : Nat) (heard : Int32) (x1 x2 x3 lv : Nat → Int) : Prop := zP_F M M1 s ∧ (∀ j, t ≤ j → M1.1 (30 + 14 * s) j = M.1 (30 + 14 * s) j) ∧
  (∀ i, i < 3 → zE_S M1 (31 + 14 * s + 2 * i) (32 + 14 * s + 2 * i)) ∧
  zP_J M M1 s 0 t (fun t => zi_cut (M.1 (30 + 14 * s) t).toInt) x1 ∧ zP_J M M1 s 1 t x1 x2 ∧ zP_J M M1 s 2 t x2 x3 ∧
  ∀ j, j < t → zP_L M s n ((16 * (j / 16) : Nat) : Int) (lv j) ∧ (M1.1 (30 + 14 * s) j).toInt = if heard = 0 then 0 else zi_cut (x3 j * lv j / 256)
theorem ze_J_4 {k p q : Int} {t : Nat} {pa : Nat → Int} {pl : Nat} {me : Int} {x y : Nat → Int} (h : ze_J k p q t pa pl me x y) (hk : k = 4) : ze_max (fun i => ze_abs (pa i)) (q.toNat + 1) me := by
  unfold ze_J at h
  rw [if_neg (by omega), if_neg (by omega), if_pos hk] at h
  exact h.2.2.2
theorem zP_F_e {M M1 M2 : zm_T} {s i : Nat} {x r : Int32} (hi : i < 3) (hF : zP_F M M1 s) (h : zE_post M1 M2 (31 + 14 * s + 2 * i) (32 + 14 * s + 2 * i) x r) : zP_F M M2 s := by
  obtain ⟨f1, f2, f3⟩ := hF
  obtain ⟨h1, h2, h3, -⟩ := h
  refine ⟨h1.trans f1, fun c j hc => by rw [h2 c j (by omega) (by omega)]; exact f2 c j hc, fun k hk j hj => ?_⟩
  by_cases hik : k = i
  · subst hik; rw [h3 j hj]; exact f3 k hk j hj
  · rw [h2 _ _ (by omega) (by omega)]; exact f3 k hk j hj
/-- another effect's step -/
theorem zP_J_o {M M1 M2 : zm_T} {s i k t : Nat} {x r : Int32} {u v : Nat → Int} (hki : k ≠ i) (h : zE_post M1 M2 (31 + 14 * s + 2 * i) (32 + 14 * s + 2 * i) x r) (hJ : zP_J M M1 s k t u v) : zP_J M M2 s k t u v := by
  obtain ⟨h1, h2, h3, -⟩ := h
  unfold zP_J at hJ ⊢
  rw [h2 (31 + 14 * s + 2 * k) 4 (by omega) (by omega), h2 (31 + 14 * s + 2 * k) 5 (by omega) (by omega)]
  have e : (fun j => (M2.1 (32 + 14 * s + 2 * k) j).toInt) = fun j => (M1.1 (32 + 14 * s + 2 * k) j).toInt := by
    funext j; rw [h2 (32 + 14 * s + 2 * k) j (by omega) (by omega)]
  rw [e]
  exact hJ
theorem zE_S_o {M1 M2 : zm_T} {s i k : Nat} {x r : Int32} (hki : k ≠ i) (h : zE_post M1 M2 (31 + 14 * s + 2 * i) (32 + 14 * s + 2 * i) x r) (hS : zE_S M1 (31 + 14 * s + 2 * k) (32 + 14 * s + 2 * k)) : zE_S M2 (31 + 14 * s + 2 * k) (32 + 14 * s + 2 * k) := by
  obtain ⟨h1, h2, h3, -⟩ := h
  unfold zE_S at hS ⊢
  have e : (fun j => (M2.1 (32 + 14 * s + 2 * k) j).toInt) = fun j => (M1.1 (32 + 14 * s + 2 * k) j).toInt := by
    funext j; rw [h2 (32 + 14 * s + 2 * k) j (by omega) (by omega)]
  rw [h2 (31 + 14 * s + 2 * k) 1 (by omega) (by omega), h2 (31 + 14 * s + 2 * k) 2 (by omega) (by omega), h2 (31 + 14 * s + 2 * k) 3 (by omega) (by omega), h2 (31 + 14 * s + 2 * k) 4 (by omega) (by omega), h2 (31 + 14 * s + 2 * k) 5 (by omega) (by omega), e]
  exact hS
def zi_up (f : Nat → Int) (t : Nat) (v : Int) : Nat → Int := fun j => if j = t then v else f j
theorem zi_up_at (f : Nat → Int) (t : Nat) (v : Int) : zi_up f t v t = v := if_pos rfl
theorem zi_up_lt {f : Nat → Int} {t j : Nat} {v : Int} (h : j < t) : zi_up f t v j = f j := if_neg (by omega)
/-- an effect's own step -/
theorem zP_J_s {M M1 M2 : zm_T} {s i t : Nat} {x r : Int32} {u v : Nat → Int} (hi : i < 3) (hK : zE_K M (31 + 14 * s + 2 * i)) (hF : zP_F M M1 s) (hx : x.toInt = u t) (h : zE_post M1 M2 (31 + 14 * s + 2 * i) (32 + 14 * s + 2 * i) x r) (hJ : zP_J M M1 s i t u v) : zP_J M M2 s i (t + 1) u (zi_up v t r.toInt) := by
  obtain ⟨h1, h2, h3, h4, h5, -⟩ := h
  unfold zP_J at hJ ⊢
  rw [hF.2.2 i hi 1 (by decide), hF.2.2 i hi 2 (by decide), hF.2.2 i hi 3 (by decide), hx] at h5
  refine ze_J_s (fun hk => (hK.2.2.1 hk).1) (fun j hj => zi_up_lt hj) hJ ?_
  rw [zi_up_at]
  exact h5
/-- the input may be changed where it has not been heard -/
theorem ze_J_x {k p q : Int} {t : Nat} {pa : Nat → Int} {pl : Nat} {me : Int} {x x' y : Nat → Int} (hx : ∀ j, j < t → x' j = x j) (h : ze_J k p q t pa pl me x y) : ze_J k p q t pa pl me x' y := by
  have hback : ∀ i d, i < t → ze_back x' i d = ze_back x i d := fun i d hi => by
    unfold ze_back
    split
    · exact hx _ (by omega)
    · rfl
  unfold ze_J at h ⊢
  by_cases k2 : k = 2
  · rw [if_pos k2] at h ⊢
    obtain ⟨m, m0, hm, hme⟩ := h
    exact ⟨m, m0, fun i hi => by rw [hx i hi]; exact hm i hi, hme⟩
  rw [if_neg k2] at h ⊢
  have hS : ze_S k p q t x y → ze_S k p q t x' y := by
    unfold ze_S
    intro h
    by_cases k1 : k = 1
    · rw [if_pos k1] at h ⊢; exact fun i hi => by rw [hx i hi]; exact h i hi
    rw [if_neg k1, if_neg k2] at h ⊢
    by_cases k3 : k = 3
    · rw [if_pos k3] at h ⊢; exact fun i hi => by rw [hx i hi]; exact h i hi
    rw [if_neg k3] at h ⊢
    by_cases k4 : k = 4
    · rw [if_pos k4] at h ⊢
      intro i hi
      obtain ⟨M, h1, h2⟩ := h i hi
      have e : (fun d => ze_abs (ze_back x' i d)) = fun d => ze_abs (ze_back x i d) := by funext d; rw [hback i d hi]
      exact ⟨M, by rw [e]; exact h1, by rw [hback i _ hi]; exact h2⟩
    rw [if_neg k4] at h ⊢
    by_cases k5 : k = 5
    · rw [if_pos k5] at h ⊢
      obtain ⟨m, m0, hm⟩ := h
      exact ⟨m, m0, fun i hi => by rw [hx i hi]; exact hm i hi⟩
    rw [if_neg k5] at h ⊢
    by_cases k6 : k = 6
    · rw [if_pos k6] at h ⊢; exact fun i hi => by rw [hx i hi]; exact h i hi
    rw [if_neg k6] at h ⊢
    exact fun i hi => by rw [hx i hi]; exact h i hi
  by_cases k3 : k = 3
  · rw [if_pos k3] at h ⊢; exact ⟨hS h.1, h.2⟩
  rw [if_neg k3] at h ⊢
  by_cases k4 : k = 4
  · rw [if_pos k4] at h ⊢
    refine ⟨hS h.1, ?_, h.2.2⟩
    intro d d1 d2
    rw [h.2.1 d d1 d2]
    unfold ze_back
    split
    · exact (hx _ (by omega)).symm
    · rfl
  rw [if_neg k4] at h ⊢
  by_cases k5 : k = 5
  · rw [if_pos k5] at h ⊢
    obtain ⟨m, m0, hm, hme⟩ := h
    exact ⟨m, m0, fun i hi => by rw [hx i hi]; exact hm i hi, hme⟩
  rw [if_neg k5] at h ⊢
  exact hS h
theorem zF_M_c {M M1 : zm_T} {s n : Nat} (h : ∀ c j, 25 + 14 * s ≤ c → c ≤ 28 + 14 * s → M1.1 c j = M.1 c j) (hF : zF_M M (25 + 14 * s) (26 + 14 * s) (27 + 14 * s) (28 + 14 * s) n) : zF_M M1 (25 + 14 * s) (26 + 14 * s) (27 + 14 * s) (28 + 14 * s) n := by
  have e : ∀ c, 25 + 14 * s ≤ c → c ≤ 28 + 14 * s → M1.1 c = M.1 c := fun c h1 h2 => by funext j; exact h c j h1 h2
  unfold zF_M at hF ⊢
  rw [e (25 + 14 * s) (by omega) (by omega), e (26 + 14 * s) (by omega) (by omega), e (27 + 14 * s) (by omega) (by omega), e (28 + 14 * s) (by omega) (by omega)]
  exact hF
theorem zP_L_c {M M1 : zm_T} {s n : Nat} {t v : Int} (h : ∀ c j, 25 + 14 * s ≤ c → c ≤ 28 + 14 * s → M1.1 c j = M.1 c j) (hF : zP_L M1 s n t v) : zP_L M s n t v := by
  have e : ∀ c, 25 + 14 * s ≤ c → c ≤ 28 + 14 * s → M1.1 c = M.1 c := fun c h1 h2 => by funext j; exact h c j h1 h2
  unfold zP_L zF_L at hF ⊢
  rw [e (25 + 14 * s) (by omega) (by omega), e (26 + 14 * s) (by omega) (by omega), e (27 + 14 * s) (by omega) (by omega), e (28 + 14 * s) (by omega) (by omega)] at hF
  exact hF

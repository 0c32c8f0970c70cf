/-! A block is played. -/
/-- the setting is the same: takes, clips, routes, sends, effects, faders, switches -/
def zQ_F (M M' : zm_T) : Prop := M'.2 = M.2 ∧ (∀ c j, c ≠ 0 → c ≠ 22 → (∀ s, s < 8 → c ≠ 23 + 14 * s ∧ (c < 30 + 14 * s ∨ 36 + 14 * s < c)) → M'.1 c j = M.1 c j) ∧ (∀ s, s < 8 → ∀ j, j ≠ 7 → j ≠ 8 → M'.1 (23 + 14 * s) j = M.1 (23 + 14 * s) j) ∧ ∀ s, s < 8 → ∀ i, i < 3 → ∀ j, j < 4 → M'.1 (31 + 14 * s + 2 * i) j = M.1 (31 + 14 * s + 2 * i) j
section ZQ
variable {M M1 M2 : zm_T}
theorem zQ_F_r : zQ_F M M := ⟨rfl, fun _ _ _ _ _ => rfl, fun _ _ _ _ _ => rfl, fun _ _ _ _ _ _ => rfl⟩
theorem zQ_F_t (h : zQ_F M M1) (h' : zQ_F M1 M2) : zQ_F M M2 := ⟨h'.1.trans h.1, fun c j a b d => (h'.2.1 c j a b d).trans (h.2.1 c j a b d), fun s hs j a b => (h'.2.2.1 s hs j a b).trans (h.2.2.1 s hs j a b), fun s hs i hi j hj => (h'.2.2.2 s hs i hi j hj).trans (h.2.2.2 s hs i hi j hj)⟩
theorem zQ_F_0 {k : Nat} {v : Int32} : zQ_F M (zm_ui M 0 k v) := ⟨rfl, fun c j h _ _ => zm_ui_ne (Or.inl h), fun s hs j _ _ => zm_ui_ne (Or.inl (by omega)), fun s hs i hi j hj => zm_ui_ne (Or.inl (by omega))⟩
theorem zQ_F_or {o : Nat → Nat} {p : Nat} : zQ_F M (zf_or M o p) := ⟨rfl, fun c j _ h _ => zm_seg_out (Or.inl h), fun s hs j _ _ => zm_seg_out (Or.inl (by omega)), fun s hs i hi j hj => zm_seg_out (Or.inl (by omega))⟩
theorem zQ_F_st {o : Nat → Nat} (ho : ∀ i, i < 8 → o i < 8) : zQ_F M (zf_st M o 8) := ⟨zf_st_2 M o 8, fun c j _ _ h => zf_st_o (Or.inl (fun s hs => (h s hs).1)) ho 8 (by omega), fun s hs j a b => zf_st_o (Or.inr ⟨a, b⟩) ho 8 (by omega), fun s hs i hi j hj => zf_st_o (Or.inr (by omega)) ho 8 (by omega)⟩
/-- only a row has changed -/
theorem zQ_F_w {s : Nat} (hs : s < 8) (h2 : M1.2 = M.2) (h : ∀ c j, c ≠ 30 + 14 * s → M1.1 c j = M.1 c j) : zQ_F M M1 := ⟨h2, fun c j _ _ hc => h c j (by have := hc s hs; omega), fun u hu j _ _ => h _ _ (by omega), fun u hu i hi j hj => h _ _ (by omega)⟩
theorem zQ_F_p {s : Nat} (hs : s < 8) (h : zP_F M M1 s) : zQ_F M M1 := by
  refine ⟨h.1, fun c j _ _ hc => h.2.1 c j (hc s hs).2, fun u hu j _ _ => h.2.1 _ _ (by omega), fun u hu i hi j hj => ?_⟩
  by_cases e : u = s
  · subst e; exact h.2.2 i hi j hj
  · exact h.2.1 _ _ (by omega)
theorem zQ_F_c (h : zQ_F M M1) {c j : Nat} (hc : (0 < c ∧ c < 22) ∨ 134 < c ∨ (∃ s, s < 8 ∧ 23 + 14 * s < c ∧ c < 30 + 14 * s)) : M1.1 c j = M.1 c j := by
  rcases hc with hc | hc | ⟨q, hq, hc⟩
  · exact h.2.1 c j (by omega) (by omega) (fun s hs => by omega)
  · exact h.2.1 c j (by omega) (by omega) (fun s hs => by omega)
  · exact h.2.1 c j (by omega) (by omega) (fun s hs => by omega)
theorem zQ_F_fd (h : zQ_F M M1) : zfd M1 = zfd M := zfd_c (fun a b ha hb => zf_feeds_c (h.2.2.1 a ha 4 (by decide) (by decide)) (zQ_F_c h (Or.inr (Or.inr ⟨a, ha, by omega, by omega⟩))))
theorem zQ_F_H (h : zQ_F M M1) {s : Nat} (hs : s < 8) : zH M1 s ↔ zH M s := by
  unfold zH
  rw [zQ_F_fd h, h.2.2.1 s hs 5 (by decide) (by decide), h.2.2.1 s hs 6 (by decide) (by decide)]
  have e : ∀ i, i < 8 → M1.1 (23 + 14 * i) 6 = M.1 (23 + 14 * i) 6 := fun i hi => h.2.2.1 i hi 6 (by decide) (by decide)
  constructor
  · rintro ⟨h1, h2 | h2 | ⟨i, hi, h2, h3⟩⟩
    · exact ⟨h1, Or.inl (fun i hi => by rw [← e i hi]; exact h2 i hi)⟩
    · exact ⟨h1, Or.inr (Or.inl h2)⟩
    · exact ⟨h1, Or.inr (Or.inr ⟨i, hi, by rw [← e i hi]; exact h2, h3⟩)⟩
  · rintro ⟨h1, h2 | h2 | ⟨i, hi, h2, h3⟩⟩
    · exact ⟨h1, Or.inl (fun i hi => by rw [e i hi]; exact h2 i hi)⟩
    · exact ⟨h1, Or.inr (Or.inl h2)⟩
    · exact ⟨h1, Or.inr (Or.inr ⟨i, hi, by rw [e i hi]; exact h2, h3⟩)⟩
theorem zQ_F_K (h : zQ_F M M1) {s i : Nat} (hs : s < 8) (hi : i < 3) (hk : zE_K M (31 + 14 * s + 2 * i)) : zE_K M1 (31 + 14 * s + 2 * i) := by
  unfold zE_K
  rw [h.2.2.2 s hs i hi 1 (by decide), h.2.2.2 s hs i hi 2 (by decide), h.2.2.2 s hs i hi 3 (by decide)]
  exact hk
theorem zQ_F_S (h : zQ_F M M1) {s i e : Nat} {x y : Nat → Int} (hs : s < 8) (hi : i < 3) : zP_S M1 s i e x y ↔ zP_S M s i e x y := by
  unfold zP_S
  rw [h.2.2.2 s hs i hi 1 (by decide), h.2.2.2 s hs i hi 2 (by decide), h.2.2.2 s hs i hi 3 (by decide)]
theorem zQ_F_fa (h : zQ_F M M1) {s : Nat} (hs : s < 8) : ∀ c j, 25 + 14 * s ≤ c → c ≤ 28 + 14 * s → M1.1 c j = M.1 c j := fun c j h1 h2 => zQ_F_c h (Or.inr (Or.inr ⟨s, hs, by omega, by omega⟩))
/-- the row of a track, clip by clip -/
def zf_lv (M : zm_T) (tr : Int32) (e : Nat) : Nat → Nat → Int32
  | 0, _ => 0
  | c + 1, t => if zf_lies M (4 + c) tr 0 (nI e) = 0 then zf_lv M tr e c t else if (M.1 (4 + c) 2).toNatClampNeg ≤ t ∧ t < (M.1 (4 + c) 2).toNatClampNeg + zf_cp M c e then zf_cv M c (t - (M.1 (4 + c) 2).toNatClampNeg) else zf_lv M tr e c t
theorem zf_lay_v {s : Nat} {tr : Int32} {e t : Nat} (ht : t < e) : ∀ c, (zf_lay M s tr e c).1 (30 + 14 * s) t = zf_lv M tr e c t
  | 0 => zm_seg_in (by omega) (by omega)
  | c + 1 => by
    rw [zf_lay, zf_lv]
    by_cases h : zf_lies M (4 + c) tr 0 (nI e) = 0
    · rw [if_pos h, if_pos h]; exact zf_lay_v ht c
    · rw [if_neg h, if_neg h]
      by_cases h2 : (M.1 (4 + c) 2).toNatClampNeg ≤ t ∧ t < (M.1 (4 + c) 2).toNatClampNeg + zf_cp M c e
      · rw [if_pos h2, zm_seg_in h2.1 h2.2]
      · rw [if_neg h2, zm_seg_out (by omega)]; exact zf_lay_v ht c
theorem zQ_F_C (h : zQ_F M M1) {c : Nat} (hc : c < 16) (hC : zC M c) : zC M1 c := by
  unfold zC
  have e : ∀ j, M1.1 (4 + c) j = M.1 (4 + c) j := fun j => zQ_F_c h (Or.inl (by omega))
  rw [h.1]
  simp only [e]
  exact hC
theorem zQ_F_lv (h : zQ_F M M1) {tr : Int32} {e t : Nat} (hC : ∀ c, c < 16 → ¬ M.1 (4 + c) 4 ≤ 0 → zC M c) : ∀ c, c ≤ 16 → zf_lv M1 tr e c t = zf_lv M tr e c t
  | 0, _ => rfl
  | c + 1, hc => by
    have e1 : ∀ j, M1.1 (4 + c) j = M.1 (4 + c) j := fun j => zQ_F_c h (Or.inl (by omega))
    rw [zf_lv, zf_lv, zf_lies_c e1, zQ_F_lv h hC c (by omega), e1]
    have e2 : zf_cp M1 c e = zf_cp M c e := by unfold zf_cp; rw [e1, e1]
    rw [e2]
    by_cases h0 : zf_lies M (4 + c) tr 0 (nI e) = 0
    · rw [if_pos h0, if_pos h0]
    · rw [if_neg h0, if_neg h0]
      obtain ⟨q, -, -, -, -, -, -, -, hq, hv, -⟩ := hC c (by omega) (zf_lies_pos h0).1
      have e3 : ∀ k, zf_cv M1 c k = zf_cv M c k := fun k => by
        unfold zf_cv
        rw [h.1, hv, e1, e1, e1, e1, e1]
        show zf_val (M1.1 (135 + 2 * q + 1) _) _ _ _ _ _ = zf_val (M.1 (135 + 2 * q + 1) _) _ _ _ _ _
        rw [zQ_F_c h (Or.inr (Or.inl (by omega)))]
      rw [e3]
theorem zi_mx_c {s t : Nat} (hs : s < 8) (h4 : ∀ a, a < 7 → M1.1 (23 + 14 * a) 4 = M.1 (23 + 14 * a) 4) (h8 : ∀ a, a < 7 → M1.1 (23 + 14 * a) 8 = M.1 (23 + 14 * a) 8) (h7 : M1.1 (23 + 14 * s) 7 = M.1 (23 + 14 * s) 7) (h9 : ∀ a, a < 7 → M1.1 (29 + 14 * a) s = M.1 (29 + 14 * a) s) (hr : ∀ a, zfd M a s → ∀ j, M1.1 (30 + 14 * a) j = M.1 (30 + 14 * a) j) : ∀ n, n ≤ 7 → zi_mx M1 s n t = zi_mx M s n t
  | 0, _ => rfl
  | n + 1, hn => by
    have hmt : ∀ lv, zfd M n s → zi_mt M1 s n lv t = zi_mt M s n lv t := fun lv hf => by
      unfold zi_mt
      rw [h7, h8 n (by omega), hr n hf]
    rw [zi_mx, zi_mx, zi_mx_c hs h4 h8 h7 h9 hr n (by omega), h4 n (by omega), h9 n (by omega)]
    congr 1
    · congr 1
      split
      · rename_i h; exact hmt _ (zfd_t (by omega) hs h)
      · rfl
    · split
      · rfl
      · rename_i h; exact hmt _ (zfd_s (by omega) hs h)
end ZQ
/-- what strip s gives in M', up to time e; all else as in M; n points in its fader -/
def zQ_row (M M' : zm_T) (s n e : Nat) : Prop := ∃ x0 x1 x2 x3 lv : Nat → Int, (s < 4 → ∀ t, t < e → x0 t = (zf_lv M (nI s) e 16 t).toInt) ∧ (4 ≤ s → ∀ t, t < e → x0 t = zi_mx M' s 7 t) ∧ zP_S M s 0 e (fun t => zi_cut (x0 t)) x1 ∧ zP_S M s 1 e x1 x2 ∧ zP_S M s 2 e x2 x3 ∧ ∀ t, t < e → zP_L M s n ((16 * (t / 16) : Nat) : Int) (lv t) ∧ (zH M s → (M'.1 (30 + 14 * s) t).toInt = zi_cut (x3 t * lv t / 256)) ∧ (¬ zH M s → (M'.1 (30 + 14 * s) t).toInt = 0)
theorem zQ_row_b {M M' : zm_T} {s n e t : Nat} (h : zQ_row M M' s n e) (ht : t < e) : -16777216 ≤ (M'.1 (30 + 14 * s) t).toInt ∧ (M'.1 (30 + 14 * s) t).toInt ≤ 16777216 := by
  obtain ⟨x0, x1, x2, x3, lv, -, -, -, -, -, h⟩ := h
  obtain ⟨-, h1, h2⟩ := h t ht
  by_cases hh : zH M s
  · rw [h1 hh]; exact zi_cut_b _
  · rw [h2 hh]; omega
theorem zQ_row_c {M M1 M2 : zm_T} {s n e : Nat} (hw : ∀ t, M2.1 (30 + 14 * s) t = M1.1 (30 + 14 * s) t) (hm : 4 ≤ s → ∀ t, zi_mx M2 s 7 t = zi_mx M1 s 7 t) (h : zQ_row M M1 s n e) : zQ_row M M2 s n e := by
  obtain ⟨x0, x1, x2, x3, lv, h1, h2, h3, h4, h5, h6⟩ := h
  exact ⟨x0, x1, x2, x3, lv, h1, fun h t ht => by rw [hm h]; exact h2 h t ht, h3, h4, h5, fun t ht => by rw [hw]; exact h6 t ht⟩
/-- everything that playing needs of the setting; fn: how many points the faders have -/
def zQ_ok (M : zm_T) (fn : Nat → Nat) : Prop := zD M ∧ (∀ a, ¬ gq_T (zfd M) a a) ∧ (∀ c, c < 16 → ¬ M.1 (4 + c) 4 ≤ 0 → zC M c) ∧ (∀ s, s < 8 → ∀ i, i < 3 → zE_K M (31 + 14 * s + 2 * i)) ∧ (∀ s, s < 8 → zF_M M (25 + 14 * s) (26 + 14 * s) (27 + 14 * s) (28 + 14 * s) (fn s)) ∧ ∀ s, s < 8 → ∀ a, a < 7 → (M.1 (29 + 14 * a) s).toInt ≤ 1024
def zQ (M M' : zm_T) (fn : Nat → Nat) (f n : Nat) : Prop := zQ_F M M' ∧ M'.1 0 3 = nI f ∧ M'.1 0 4 = nI n ∧ zd_E M' ∧ ∀ s, s < 8 → zQ_row M M' s (fn s) (f + n)
theorem zQ_ok_c {M M1 : zm_T} {fn : Nat → Nat} (h : zQ_F M M1) (hk : zQ_ok M fn) : zQ_ok M1 fn := by
  obtain ⟨h1, h2, h3, h4, h5, h6⟩ := hk
  refine ⟨zD_c (zQ_F_fd h) h1, by rw [zQ_F_fd h]; exact h2, fun c hc h0 => zQ_F_C h hc (h3 c hc ?_), fun s hs i hi => zQ_F_K h hs hi (h4 s hs i hi), fun s hs => zF_M_c (zQ_F_fa h hs) (h5 s hs), fun s hs a ha => ?_⟩
  · rw [← zQ_F_c h (Or.inl (by omega))]; exact h0
  · rw [zQ_F_c h (Or.inr (Or.inr ⟨a, by omega, by omega, by omega⟩))]; exact h6 s hs a ha
theorem zd_E_c {M M1 : zm_T} (hF : zQ_F M M1) (h23 : ∀ s, s < 8 → ∀ j, M1.1 (23 + 14 * s) j = M.1 (23 + 14 * s) j) (h : zd_E M) : zd_E M1 := by
  intro s hs
  obtain ⟨h1, h2⟩ := h s hs
  have own : zd_own M1 s = zd_own M s := by
    have h : ∀ k, k < 3 → zd_o1 M1 s k = zd_o1 M s k := fun k hk => by
      unfold zd_o1
      rw [hF.2.2.2 s hs k hk 1 (by decide), hF.2.2.2 s hs k hk 3 (by decide)]
    unfold zd_own
    rw [h 0 (by decide), h 1 (by decide), h 2 (by decide)]
  unfold zd_1 at h1 ⊢
  rw [zQ_F_fd hF, h23 s hs, h23 s hs, own]
  obtain ⟨a1, a2, a3, a4⟩ := h1
  refine ⟨⟨a1, fun a hf => by rw [h23 a hf.1]; exact a2 a hf, ?_, a4⟩, h2⟩
  rcases a3 with a3 | ⟨a, hf, a3⟩
  · exact Or.inl a3
  · exact Or.inr ⟨a, hf, by rw [h23 a hf.1]; exact a3⟩
theorem zQ_end {M Ms Mi : zm_T} {o fn : Nat → Nat} {f n : Nat} (hMs : zQ_F M Ms) (ho : zo_P M o) (hd : zd_E Ms) (h03 : Ms.1 0 3 = nI f) (h04 : Ms.1 0 4 = nI n) (hF : zQ_F Ms Mi) (h23 : ∀ s, s < 8 → ∀ j, Mi.1 (23 + 14 * s) j = Ms.1 (23 + 14 * s) j) (h0 : ∀ j, Mi.1 0 j = Ms.1 0 j) (hrow : ∀ j, j < 8 → zQ_row M Mi (o j) (fn (o j)) (f + n)) : zQ M Mi fn f n := by
  refine ⟨zQ_F_t hMs hF, by rw [h0]; exact h03, by rw [h0]; exact h04, zd_E_c hF h23 hd, fun s hs => ?_⟩
  obtain ⟨j, hj, rfl⟩ := ho.2.2.1 s hs
  exact hrow j hj
/-- strip s is played; u: the strips that have been played before -/
theorem zQ_step {M Mi M2 M3 : zm_T} {o fn : Nat → Nat} {i e : Nat} {hd : Int32} (hFi : zQ_F M Mi) (hFM : zQ_F M M2) (h8 : o i < 8) (hne : ∀ j, j < i → o j ≠ o i) (hfe : ∀ j a, j ≤ i → zfd M a (o j) → a ≠ o i) (hw : ∀ c j, c ≠ 30 + 14 * o i → M2.1 c j = Mi.1 c j) (hx1 : o i < 4 → ∀ t, t < e → M2.1 (30 + 14 * o i) t = zf_lv M (nI (o i)) e 16 t) (hx2 : 4 ≤ o i → ∀ t, t < e → (M2.1 (30 + 14 * o i) t).toInt = zi_mx Mi (o i) 7 t) (hh : (hd = 1 ∧ zH M2 (o i)) ∨ (hd = 0 ∧ ¬ zH M2 (o i))) (hp : zP_post M2 M3 (o i) (fn (o i)) e hd) (hrow : ∀ j, j < i → zQ_row M Mi (o j) (fn (o j)) e) (hlt : ∀ j, j ≤ i → o j < 8) : ∀ j, j < i + 1 → zQ_row M M3 (o j) (fn (o j)) e := by
  obtain ⟨hF, -, x1, x2, x3, lv, s1, s2, s3, h⟩ := hp
  have far : ∀ c j, c < 30 + 14 * o i ∨ 36 + 14 * o i < c → M3.1 c j = Mi.1 c j := fun c j hc => by rw [hF.2.1 c j hc, hw c j (by omega)]
  have hmx : ∀ j, j ≤ i → ∀ t, zi_mx M3 (o j) 7 t = zi_mx Mi (o j) 7 t := fun j hj t => by
    refine zi_mx_c (hlt j hj) (fun a ha => far _ _ (by omega)) (fun a ha => far _ _ (by omega)) (far _ _ (by omega)) (fun a ha => far _ _ (by omega)) (fun a hf q => ?_) 7 (by omega)
    rw [zQ_F_fd hFi] at hf
    have := hfe j a hj hf
    exact far _ _ (by omega)
  intro j hj
  by_cases hji : j = i
  · subst hji
    refine ⟨fun t => (M2.1 (30 + 14 * o j) t).toInt, x1, x2, x3, lv, fun h4 t ht => by dsimp only; rw [hx1 h4 t ht], fun h4 t ht => by dsimp only; rw [hx2 h4 t ht, hmx j (by omega)], (zQ_F_S hFM h8 (by decide)).mp s1, (zQ_F_S hFM h8 (by decide)).mp s2, (zQ_F_S hFM h8 (by decide)).mp s3, fun t ht => ?_⟩
    obtain ⟨g1, g2⟩ := h t ht
    refine ⟨zP_L_c (zQ_F_fa hFM h8) g1, fun hz => ?_, fun hz => ?_⟩
    · rw [g2, if_neg]
      rcases hh with hh | hh
      · rw [hh.1]; decide
      · exact absurd ((zQ_F_H hFM h8).mpr hz) hh.2
    · rw [g2, if_pos]
      rcases hh with hh | hh
      · exact absurd ((zQ_F_H hFM h8).mp hh.2) hz
      · exact hh.1
  · have := hne j (by omega)
    have := hlt j (by omega)
    exact zQ_row_c (fun t => far _ _ (by omega)) (fun _ t => hmx j (by omega) t) (hrow j (by omega))
set_option maxRecDepth 100000 in
set_option maxHeartbeats 4000000 in
theorem c_Mx_playBlock (l : Launch) (G : zg_T) (M : zm_T) (hL : zL M.2) (fn : Nat → Nat) (f n : Nat) (hfn : f + n ≤ 1024) (hok : zQ_ok M fn) : Met l ky_Mx_playBlock (zr_ws ky_Mx_playBlock kc_Mx_playBlock 5 none) (zr_rm 5) (va_Pc [.ref (G.2.2.1 + 0), .int (nI f), .int (nI n)] (zm_B G 183 zs M)) (va_Qv (fun (M' : zm_T) => zQ M M' fn f n) (zm_B G 183 zs) (zm_A G)) 0 0 (zm_A G) := by
  refine zr_met (by decide +kernel) (Nat.le_of_ble_eq_true rfl) ?_
  intro p0 e0 s0 m0 below meth c0 ls hS hK hlk hr hl hI
  have hx := hS.1
  have hb := hS.2.1
  have hl : zl_has ls 5 [some (.ref (G.2.2.1 + 0)), some (.int (nI f)), some (.int (nI n)), none, none] := hl
  have loop : ∀ (Ms : zm_T) (o : Nat → Nat), zQ_F M Ms → zo_P M o → zd_E Ms → Ms.1 0 3 = nI f → Ms.1 0 4 = nI n → (∀ i, i < 8 → Ms.1 22 i = nI (o i)) → ∀ (k i : Nat) (Mi : zm_T) (o4 : Option Value) (H : Heap) (locs : List Loc) (ls : Array Slot), i + k = 8 → zQ_F Ms Mi → (∀ s, s < 8 → ∀ j, Mi.1 (23 + 14 * s) j = Ms.1 (23 + 14 * s) j) → (∀ j, Mi.1 0 j = Ms.1 0 j) → (∀ j, Mi.1 22 j = Ms.1 22 j) → (∀ j, j < i → zQ_row M Mi (o j) (fn (o j)) (f + n)) → zl_has ls 5 [some (.ref (G.2.2.1 + 0)), some (.int (nI f)), some (.int (nI n)), some (.int (nI i)), o4] → zm_I G 183 zs Mi s0 H locs → W p0 l e0 (zr_rm 5) s0 m0 ([.ref (G.2.2.1 + 0), .int (nI f), .int (nI n)] : List Value).toArray below meth c0 H locs 0 0 (MQ below (va_Qv (fun (M' : zm_T) => zQ M M' fn f n) (zm_B G 183 zs) (zm_A G)) ([.ref (G.2.2.1 + 0), .int (nI f), .int (nI n)] : List Value).toArray s0 0 0 (zm_A G)) (F0 m0 19 ls []) := by
    intro Ms o hMs ho hd h03 h04 hord k
    induction k with
    | zero =>
      intro i Mi o4 H locs ls hi hF h23 h0 h22 hrow hl hI
      obtain rfl : i = 8 := by omega
      refine zr_iload_n hx hb kd_Mx_playBlock_19 hl rfl ?_
      refine lv_bipush (v := 8) hx hb kd_Mx_playBlock_20 (by decide) ?_
      refine lv_icmp_ge (tgt := 113) hx hb kd_Mx_playBlock_22 (by decide) (fun h22 => ?_) (fun h22 => absurd (by decide) h22)
      exact zr_vret hS hK hlk hr hI kd_Mx_playBlock_113 (zQ_end hMs ho hd h03 h04 hF h23 h0 hrow)
    | succ k ih =>
      intro i Mi o4 H locs ls hi hF h23 h0 h22 hrow hl hI
      have ei : (nI i).toNatClampNeg = i := zn_cl (by omega)
      have h8 := ho.1 i (by omega)
      have hFi := zQ_F_t hMs hF
      have hLi : zL Mi.2 := by rw [hFi.1]; exact hL
      have hoki := zQ_ok_c hFi hok
      have eo : Mi.1 22 (nI i).toNatClampNeg = nI (o i) := by rw [ei, h22]; exact hord i (by omega)
      have eoo : (nI (o i)).toNatClampNeg = o i := zn_cl (by omega)
      have ha_S : 23 + 14 * o i < 183 := by omega
      have hs_S := zs_st0 _ h8
      -- what comes in lies in the row
      have mid : ∀ (M2 : zm_T) (H : Heap) (locs : List Loc) (ls : Array Slot), M2.2 = Mi.2 → (∀ c j, c ≠ 30 + 14 * o i → M2.1 c j = Mi.1 c j) → (o i < 4 → ∀ t, t < f + n → M2.1 (30 + 14 * o i) t = zf_lv M (nI (o i)) (f + n) 16 t) → (4 ≤ o i → ∀ t, t < f + n → (M2.1 (30 + 14 * o i) t).toInt = zi_mx Mi (o i) 7 t) → zl_has ls 5 [some (.ref (G.2.2.1 + 0)), some (.int (nI f)), some (.int (nI n)), some (.int (nI i)), some (.int (nI (o i)))] → zm_I G 183 zs M2 s0 H locs → W p0 l e0 (zr_rm 5) s0 m0 ([.ref (G.2.2.1 + 0), .int (nI f), .int (nI n)] : List Value).toArray below meth c0 H locs 0 0 (MQ below (va_Qv (fun (M' : zm_T) => zQ M M' fn f n) (zm_B G 183 zs) (zm_A G)) ([.ref (G.2.2.1 + 0), .int (nI f), .int (nI n)] : List Value).toArray s0 0 0 (zm_A G)) (F0 m0 82 ls []) := by
        intro M2 H locs ls h2 hw hx1 hx2 hl hI
        have hF2 := zQ_F_w h8 h2 hw
        have hFM := zQ_F_t hFi hF2
        have hok2 := zQ_ok_c hFM hok
        have hL2 : zL M2.2 := by rw [h2]; exact hLi
        refine zr_aload_n hx hb kd_Mx_playBlock_82 hl rfl ?_
        refine zr_getr hS hK kf_Mx_25 hI ha_MX hs_MX (zL_0 hL2).2.2.1 kd_Mx_playBlock_83 ?_
        refine zr_getr hS hK kf_Mx_113 hI ha_DE hs_DE (zL_0 hL2).2.2.2.2.1 kd_Mx_playBlock_86 ?_
        refine zr_iload hx hb kd_Mx_playBlock_89 hl rfl ?_
        refine zr_aald hS hK hI ha_DE_0 hs_DE_0 (by decide) (by decide) rfl (vp_in_nI (by omega) (by decide)) (by rw [eoo]; exact (zL_st hL2 h8).1) kd_Mx_playBlock_91 ?_
        refine zr_iload_n hx hb kd_Mx_playBlock_92 hl rfl ?_
        refine zr_iload_n hx hb kd_Mx_playBlock_93 hl rfl ?_
        refine lv_iadd hx hb kd_Mx_playBlock_94 ?_
        refine zr_aload_n hx hb kd_Mx_playBlock_95 hl rfl ?_
        refine zr_getr hS hK kf_Mx_25 hI ha_MX hs_MX (zL_0 hL2).2.2.1 kd_Mx_playBlock_96 ?_
        refine zr_iload hx hb kd_Mx_playBlock_99 hl rfl ?_
        refine zr_ci (zr_runV hS hK (c_De_isHeard l G M2 hL2 (o i) h8 hok2.1) km_Mx_193 hI ha_DE hs_DE rfl hl.1 (Nat.le_of_ble_eq_true rfl) (by decide) (by decide) kd_Mx_playBlock_101 rfl) hI (fun r101 M101 H locs hp101 hI => ?_)
        obtain ⟨hh, hM101⟩ := hp101
        rw [hM101] at hI
        rw [nI_add]
        refine zr_cv (zr_runV hS hK (c_St_process l G M2 hL2 (o i) (fn (o i)) (f + n) r101 h8 hfn (fun k hk => hok2.2.2.2.1 _ h8 k hk) (hok2.2.2.2.2.1 _ h8)) km_Mx_213 hI ha_S hs_S rfl hl.1 (Nat.le_of_ble_eq_true rfl) (by decide) (by decide) kd_Mx_playBlock_104 rfl) hI (fun M104 H locs hp104 hI => ?_)
        skip
        refine zr_iinc hx hb kd_Mx_playBlock_107 hl (by decide) rfl rfl (fun ls hl => ?_)
        refine lv_goto (tgt := 19) hx hb kd_Mx_playBlock_110 (by decide) ?_
        refine ih (i + 1) M104 _ H locs ls (by omega) (zQ_F_t (zQ_F_t hF hF2) (zQ_F_p h8 hp104.1)) (fun s hs j => ?_) (fun j => ?_) (fun j => ?_) (zQ_step hFi hFM h8 (fun j hj => ho.2.1 j i hj (by omega)) (fun j a hj hf => ?_) hw hx1 hx2 hh hp104 hrow (fun j hj => ho.1 j (by omega))) (by rw [nI_succ]; exact hl) hI
        · rw [hp104.1.2.1 _ _ (by omega), hw _ _ (by omega)]; exact h23 s hs j
        · rw [hp104.1.2.1 _ _ (by omega), hw _ _ (by omega)]; exact h0 j
        · rw [hp104.1.2.1 _ _ (by omega), hw _ _ (by omega)]; exact h22 j
        · obtain ⟨q, hq, rfl⟩ := ho.2.2.1 a hf.1
          have := ho.2.2.2 q j hq (by omega) hf
          exact ho.2.1 q i (by omega) (by omega)
      have hmok : zi_ok Mi (o i) (f + n) := by
        refine ⟨fun a ha => hoki.2.2.2.2.2 _ h8 a ha, fun a hf => ?_⟩
        have hfs : zfd Ms a (o i) := by rw [← zQ_F_fd hF]; exact hf
        have hfM : zfd M a (o i) := by rw [← zQ_F_fd hFi]; exact hf
        obtain ⟨q, hq, rfl⟩ := ho.2.2.1 a hf.1
        have hqi := ho.2.2.2 q i hq (by omega) hfM
        obtain ⟨⟨d1, d2, d3, d4, d5, d6⟩, d7⟩ := hd _ h8
        obtain ⟨⟨g1, g2, g3, g4, g5, g6⟩, g7⟩ := hd _ hf.1
        refine ⟨ho.2.1 q i hqi (by omega), ?_, ?_, fun t ht => zQ_row_b (hrow q hqi) ht⟩
        · rw [h23 _ hf.1]; omega
        · rw [h23 _ hf.1, h23 _ h8]; exact d2 _ hfs
      refine zr_iload_n hx hb kd_Mx_playBlock_19 hl rfl ?_
      refine lv_bipush (v := 8) hx hb kd_Mx_playBlock_20 (by decide) ?_
      refine lv_icmp_ge (tgt := 113) hx hb kd_Mx_playBlock_22 (by decide) (fun h22 => absurd h22 (zn_ge (n := 8) rfl (by omega) (by decide))) (fun h22 => ?_)
      refine zr_aload_n hx hb kd_Mx_playBlock_25 hl rfl ?_
      refine zr_getr hS hK kf_Mx_25 hI ha_MX hs_MX (zL_0 hLi).2.2.1 kd_Mx_playBlock_26 ?_
      refine zr_getr hS hK kf_Mx_203 hI ha_DE hs_DE (zL_0 hLi).2.2.2.2.2 kd_Mx_playBlock_29 ?_
      refine zr_iload_n hx hb kd_Mx_playBlock_32 hl rfl ?_
      refine zr_iald hS hK hI ha_DE_1 hs_DE_1 (by first | assumption | exact vp_in_nI (by omega) (by decide) | (rw [nI_add]; exact vp_in_nI (by omega) (by decide))) kd_Mx_playBlock_33 ?_
      rw [eo]
      refine zr_istore hx hb kd_Mx_playBlock_34 hl (by decide) rfl (fun ls hl => ?_)
      refine zr_iload hx hb kd_Mx_playBlock_36 hl rfl ?_
      refine lv_iconst (v := 4) hx hb kd_Mx_playBlock_38 (by decide) ?_
      refine lv_icmp_ge (tgt := 70) hx hb kd_Mx_playBlock_39 (by decide) (fun h39 => ?_) (fun h39 => ?_)
      · skip
        refine zr_aload_n hx hb kd_Mx_playBlock_70 hl rfl ?_
        refine zr_getr hS hK kf_Mx_25 hI ha_MX hs_MX (zL_0 hLi).2.2.1 kd_Mx_playBlock_71 ?_
        refine zr_iload hx hb kd_Mx_playBlock_74 hl rfl ?_
        refine zr_iload_n hx hb kd_Mx_playBlock_76 hl rfl ?_
        refine zr_iload_n hx hb kd_Mx_playBlock_77 hl rfl ?_
        refine lv_iadd hx hb kd_Mx_playBlock_78 ?_
        rw [nI_add]
        refine zr_cv (zr_runV hS hK (c_De_mixInto l G Mi hLi (o i) (f + n) h8 hfn hmok) km_Mx_210 hI ha_DE hs_DE rfl hl.1 (Nat.le_of_ble_eq_true rfl) (by decide) (by decide) kd_Mx_playBlock_79 rfl) hI (fun M79 H locs hp79 hI => ?_)
        skip
        first
        | refine mid M79 H locs ls hp79.1 hp79.2.1 (fun h4 => absurd h39 (zn_ge (n := 4) rfl h4 (by decide))) (fun _ => hp79.2.2) hl hI
        | refine mid _ H locs ls (zf_lay_2 _ _ _ _ _) (fun c j hc => zf_lay_o hc 16) (fun _ t ht => ?_) (fun h4 => absurd (zn_le (n := 4) rfl h4 (by omega)) h39) hl hI
          rw [zf_lay_v ht]
          exact zQ_F_lv hFi hok.2.2.1 16 (by omega)
      · skip
        refine zr_aload_n hx hb kd_Mx_playBlock_42 hl rfl ?_
        refine zr_getr hS hK kf_Mx_18 hI ha_MX hs_MX (zL_0 hLi).2.1 kd_Mx_playBlock_43 ?_
        refine zr_iload hx hb kd_Mx_playBlock_46 hl rfl ?_
        refine zr_aload_n hx hb kd_Mx_playBlock_48 hl rfl ?_
        refine zr_getr hS hK kf_Mx_25 hI ha_MX hs_MX (zL_0 hLi).2.2.1 kd_Mx_playBlock_49 ?_
        refine zr_getr hS hK kf_Mx_113 hI ha_DE hs_DE (zL_0 hLi).2.2.2.2.1 kd_Mx_playBlock_52 ?_
        refine zr_iload hx hb kd_Mx_playBlock_55 hl rfl ?_
        refine zr_aald hS hK hI ha_DE_0 hs_DE_0 (by decide) (by decide) rfl (vp_in_nI (by omega) (by decide)) (by rw [eoo]; exact (zL_st hLi h8).1) kd_Mx_playBlock_57 ?_
        refine zr_getr hS hK kf_Mx_172 hI ha_S hs_S (zL_st hLi h8).2.2.2.2.1 kd_Mx_playBlock_58 ?_
        refine zr_iload_n hx hb kd_Mx_playBlock_61 hl rfl ?_
        refine zr_iload_n hx hb kd_Mx_playBlock_62 hl rfl ?_
        refine lv_iadd hx hb kd_Mx_playBlock_63 ?_
        rw [nI_add]
        refine zr_cv (zr_runV hS hK (c_Sh_layOut l G Mi hLi (o i) (f + n) (nI (o i)) h8 hfn hoki.2.2.1) km_Mx_206 hI ha_SH hs_SH rfl hl.1 (Nat.le_of_ble_eq_true rfl) (by decide) (by decide) kd_Mx_playBlock_64 rfl) hI (fun M64 H locs hp64 hI => ?_)
        rw [hp64] at hI
        refine lv_goto (tgt := 82) hx hb kd_Mx_playBlock_67 (by decide) ?_
        first
        | refine mid M79 H locs ls hp79.1 hp79.2.1 (fun h4 => absurd h39 (zn_ge (n := 4) rfl h4 (by decide))) (fun _ => hp79.2.2) hl hI
        | refine mid _ H locs ls (zf_lay_2 _ _ _ _ _) (fun c j hc => zf_lay_o hc 16) (fun _ t ht => ?_) (fun h4 => absurd (zn_le (n := 4) rfl h4 (by omega)) h39) hl hI
          rw [zf_lay_v ht]
          exact zQ_F_lv hFi hok.2.2.1 16 (by omega)
  refine zr_aload_n hx hb kd_Mx_playBlock_0 hl rfl ?_
  refine zr_iload_n hx hb kd_Mx_playBlock_1 hl rfl ?_
  refine zr_puti hS hK kf_Mx_173 hI ha_MX hs_MX rfl rfl kd_Mx_playBlock_2 (fun H locs hI => ?_)
  refine zr_aload_n hx hb kd_Mx_playBlock_5 hl rfl ?_
  refine zr_iload_n hx hb kd_Mx_playBlock_6 hl rfl ?_
  refine zr_puti hS hK kf_Mx_169 hI ha_MX hs_MX rfl rfl kd_Mx_playBlock_7 (fun H locs hI => ?_)
  refine zr_aload_n hx hb kd_Mx_playBlock_10 hl rfl ?_
  refine zr_getr hS hK kf_Mx_25 hI ha_MX hs_MX (zL_0 hL).2.2.1 kd_Mx_playBlock_11 ?_
  refine zr_cv (zr_runV hS hK (c_De_settle l G (zm_ui (zm_ui M 0 3 (nI f)) 0 4 (nI n)) hL (zD_c (zQ_F_fd (zQ_F_t zQ_F_0 zQ_F_0)) hok.1) (by rw [zQ_F_fd (M := M) (zQ_F_t zQ_F_0 zQ_F_0)]; exact hok.2.1)) km_Mx_187 hI ha_DE hs_DE rfl hl.1 (Nat.le_of_ble_eq_true rfl) (by decide) (by decide) kd_Mx_playBlock_14 rfl) hI (fun M14 H locs hp14 hI => ?_)
  obtain ⟨o, ho, hM14⟩ := hp14
  have hf0 : zQ_F M (zm_ui (zm_ui M 0 3 (nI f)) 0 4 (nI n)) := zQ_F_t zQ_F_0 zQ_F_0
  have ho' : zo_P M o := by unfold zo_P at ho ⊢; rw [zQ_F_fd hf0] at ho; exact ho
  have hf1 : zQ_F (zm_ui (zm_ui M 0 3 (nI f)) 0 4 (nI n)) (zf_or (zm_ui (zm_ui M 0 3 (nI f)) 0 4 (nI n)) o 8) := zQ_F_or
  have ho2 : zo_P (zf_or (zm_ui (zm_ui M 0 3 (nI f)) 0 4 (nI n)) o 8) o := by unfold zo_P; rw [zQ_F_fd hf1]; exact ho
  have hf2 := zQ_F_t hf0 hf1
  have hok2 := zQ_ok_c hf2 hok
  have hdE := zd_E_of ho2 hok2.1 hok2.2.2.2.1
  have hf3 := zQ_F_t hf2 (zQ_F_st ho.1)
  refine lv_iconst (v := 0) hx hb kd_Mx_playBlock_17 (by decide) ?_
  refine zr_istore_n hx hb kd_Mx_playBlock_18 hl (by decide) rfl (fun ls hl => ?_)
  refine loop M14 o (hM14 ▸ hf3) ho' (hM14 ▸ hdE) ?_ ?_ ?_ 8 0 M14 _ _ _ _ (by omega) zQ_F_r (fun _ _ _ => rfl) (fun _ => rfl) (fun _ => rfl) (fun j hj => absurd hj (by omega)) hl hI
  · rw [hM14, zf_st_o (Or.inl (fun s hs => by omega)) ho.1 8 (by omega)]
    unfold zf_or
    rw [zm_seg_out (Or.inl (by omega)), zm_ui_ne (Or.inr (by omega)), zm_ui_at]
  · rw [hM14, zf_st_o (Or.inl (fun s hs => by omega)) ho.1 8 (by omega)]
    unfold zf_or
    rw [zm_seg_out (Or.inl (by omega)), zm_ui_at]
  · intro i hi
    rw [hM14, zf_st_o (Or.inl (fun s hs => by omega)) ho.1 8 (by omega)]
    unfold zf_or
    exact zm_seg_in (i := 0) (k := i) (n := 8) (f := fun i => nI (o i)) (by omega) (by omega)

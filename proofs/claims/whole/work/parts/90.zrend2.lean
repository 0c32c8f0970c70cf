/-! Both play the same rows: delays, mixes, rows, by the rank of a strip. -/
section ZR
variable {M M1 N M2 : zm_T} {f n : Nat}
/-- what both sides have, once both have played -/
def zY (M M1 N M2 : zm_T) (f n : Nat) : Prop := zJ M ∧ zQ M M1 (zJ_fn M) f n ∧ zR_post N M2 (zJ_fn M) f n ∧ f + n ≤ 1024 ∧ ∀ c j, 152 ≤ c → N.1 c j = M.1 c j
theorem zY_r (h : zY M M1 N M2 f n) : ∀ c j, 152 ≤ c → c ≤ 174 → M2.1 c j = M.1 c j := fun c j h1 h2 => by
  have hp := h.2.2.1.2.1 c j
  have hM2 : M2.1 c j = N.1 c j := by
    rcases hp with hp | hp | hp
    · omega
    · omega
    · exact hp
  rw [hM2, h.2.2.2.2 c j h1]
theorem zY_m1 (h : zY M M1 N M2 f n) : ∀ c j, 152 ≤ c → N.1 c j = M.1 c j := h.2.2.2.2
theorem zY_g (h : zY M M1 N M2 f n) : zgf N = zgf M ∧ zgf M2 = zgf M ∧ zfd M1 = zgf M :=
  ⟨zgf_c (fun j => zY_m1 h _ _ (by decide)) (fun j => zY_m1 h _ _ (by decide)), zgf_c (fun j => zY_r h _ _ (by decide) (by decide)) (fun j => zY_r h _ _ (by decide) (by decide)), by rw [zQ_F_fd h.2.1.1]; exact zJ_fd h.1.2.2.2.1.1⟩
theorem zgf_8 {M : zm_T} : ∀ a b, zgf M a b → a < 8 := fun a b h => h.1
theorem zY_own (h : zY M M1 N M2 f n) {s : Nat} (hs : s < 8) : zd_own M1 s = zg_own N s := by
  have e : ∀ i, i < 3 → zd_o1 M1 s i = zg_o1 N s i := fun i hi => by
    unfold zd_o1 zg_o1
    obtain ⟨j1, -, j3, -⟩ := h.1.2.2.2.2.1 s hs i hi
    have hf := h.2.1.1.2.2.2 s hs i hi
    rw [hf 1 (by decide), hf 3 (by decide), j1, j3, zY_m1 h _ _ (by decide), zY_m1 h _ _ (by decide)]
  unfold zd_own zg_own
  rw [e 0 (by decide), e 1 (by decide), e 2 (by decide)]
theorem zY_d1 (h : zY M M1 N M2 f n) {s : Nat} (hs : s < 8) : zg_mx (zgf M) (fun a => (M1.1 (23 + 14 * a) 8).toInt) s 8 (M1.1 (23 + 14 * s) 7).toInt ∧ zg_dE (zgf M) (fun s => zg_own N s) (fun a => (M1.1 (23 + 14 * a) 8).toInt) s := by
  obtain ⟨⟨q1, q2, q3, q4, -⟩, -⟩ := h.2.1.2.2.2.1 s hs
  rw [(zY_g h).2.2] at q2 q3
  have hm : zg_mx (zgf M) (fun a => (M1.1 (23 + 14 * a) 8).toInt) s 8 (M1.1 (23 + 14 * s) 7).toInt := ⟨q1, fun a _ hf => q2 a hf, q3.imp id (fun ⟨a, hf, e⟩ => ⟨a, hf.1, hf, e⟩)⟩
  exact ⟨hm, _, hm, by show _ = _ + zg_own N s; rw [← zY_own h hs]; exact q4⟩
theorem zY_d (h : zY M M1 N M2 f n) {s : Nat} (hs : s < 8) : (M1.1 (23 + 14 * s) 8).toInt = (M2.1 176 s).toInt := by
  have hno := h.1.2.2.2.1.2
  have h2 : ∀ s, s < 8 → zg_dE (zgf M) (fun s => zg_own N s) (fun a => (M2.1 176 a).toInt) s := fun s hs => by
    have := (h.2.2.1.2.2.2.2.1 s hs).1
    rw [(zY_g h).1] at this
    exact this
  exact zg_D_u zgf_8 hno (fun s hs => (zY_d1 h hs).2) h2 8 s hs (zk_8 hno hs)
theorem zY_in (h : zY M M1 N M2 f n) {s : Nat} (hs : s < 8) {dl : Int} (hd : zg_di M2 s 8 dl) : (M1.1 (23 + 14 * s) 7).toInt = dl := by
  have h2 : zg_mx (zgf M) (fun a => (M2.1 176 a).toInt) s 8 dl := by
    unfold zg_di at hd
    rw [(zY_g h).2.1] at hd
    exact hd
  exact zg_mx_u (fun a ha _ => zY_d h ha) (zY_d1 h hs).1 h2
theorem zY_mix (h : zY M M1 N M2 f n) {s t : Nat} {dl : Int} (hs4 : 4 ≤ s) (hs : s < 8) (hd : zg_di M2 s 8 dl) (ht : t < f + n) (hr : ∀ a, zgf M a s → ∀ t, t < f + n → (M1.1 (30 + 14 * a) t).toInt = (M2.1 178 (1024 * a + t)).toInt) : ∀ m, m ≤ 7 → zi_mx M1 s m t = zg_sum M2 s dl m t
  | 0, _ => rfl
  | m + 1, hm => by
    have ein := zY_in h hs hd
    have kr := h.1.2.2.2.1.1
    have mt : ∀ lv : Int, zgf M m s → zi_mt M1 s m lv t = if dl - (M2.1 176 m).toInt ≤ t then (M2.1 178 (1024 * m + (t - (dl - (M2.1 176 m).toInt).toNat))).toInt * lv / 256 else 0 := fun lv hf => by
      unfold zi_mt
      rw [ein, zY_d h (show m < 8 by omega)]
      by_cases e : dl - (M2.1 176 m).toInt ≤ t
      · rw [if_pos e, if_pos e, hr m hf _ (by omega)]
      · rw [if_neg e, if_neg e]
    have e4 : M1.1 (23 + 14 * m) 4 = M.1 163 m := by
      obtain ⟨x, -, -, x1, x2⟩ := kr.1 m (by omega)
      rw [h.2.1.1.2.2.1 m (by omega) 4 (by decide) (by decide), x2, x1]
    rw [zi_mx, zg_sum, zY_mix h hs4 hs hd ht hr m (by omega), e4, zY_r h 163 m (by decide) (by decide)]
    congr 1
    · congr 1
      by_cases e : M.1 163 m = nI s
      · rw [if_pos e, if_pos e, mt 256 ⟨by omega, hs, Or.inl e⟩]
        unfold zg_x
        by_cases e2 : dl - (M2.1 176 m).toInt ≤ t
        · rw [if_pos e2, if_pos e2, Int.mul_ediv_cancel _ (by decide)]
        · rw [if_neg e2, if_neg e2]
      · rw [if_neg e, if_neg e]
    · have e29 : M1.1 (29 + 14 * m) s = M.1 (29 + 14 * m) s := zQ_F_c h.2.1.1 (Or.inr (Or.inr ⟨m, by omega, by omega, by omega⟩))
      rw [e29, zY_r h 164 _ (by decide) (by decide)]
      rcases kr.2.2.2.1 m (by omega) s hs with ⟨y1, y2, y3, y4⟩ | ⟨y1, y2⟩
      · rw [if_pos y3, y4]
        by_cases e : M.1 164 (3 * m + s - 4) ≤ 0
        · rw [if_pos e, if_pos e]
        · rw [if_neg e, if_neg e, mt _ ⟨by omega, hs, Or.inr ⟨by omega, by omega, y3, e⟩⟩]
          unfold zg_x
          by_cases e2 : dl - (M2.1 176 m).toInt ≤ t
          · rw [if_pos e2, if_pos e2]
          · rw [if_neg e2, if_neg e2]; omega
      · rw [y2, if_pos (by decide), if_neg (by omega)]
theorem zY_H (h : zY M M1 N M2 f n) {s : Nat} (hs : s < 8) : zH M s ↔ zg_H M2 (gq_T (zgf N)) s := by
  have km := h.1.2.2.2.2.2.2.1
  unfold zH zg_H
  rw [(zY_g h).1, zJ_fd h.1.2.2.2.1.1, zY_r h 173 s (by decide) (by decide), zY_r h 174 s (by decide) (by decide), (km s hs).1, (km s hs).2]
  constructor
  · rintro ⟨h1, h2⟩
    refine ⟨h1, h2.imp (fun h2 i hi => ?_) (fun h2 => h2.imp id (fun ⟨i, hi, h3, h4⟩ => ⟨i, hi, ?_, h4⟩))⟩
    · rw [zY_r h 174 i (by decide) (by decide), ← (km i hi).2]; exact h2 i hi
    · rw [zY_r h 174 i (by decide) (by decide), ← (km i hi).2]; exact h3
  · rintro ⟨h1, h2⟩
    refine ⟨h1, h2.imp (fun h2 i hi => ?_) (fun h2 => h2.imp id (fun ⟨i, hi, h3, h4⟩ => ⟨i, hi, ?_, h4⟩))⟩
    · have := h2 i hi
      rw [zY_r h 174 i (by decide) (by decide), ← (km i hi).2] at this; exact this
    · rw [zY_r h 174 i (by decide) (by decide), ← (km i hi).2] at h3; exact h3
theorem zY_row (h : zY M M1 N M2 f n) : ∀ (r s : Nat), s < 8 → zk_n (zgf M) s < r → ∀ t, t < f + n → (M1.1 (30 + 14 * s) t).toInt = (M2.1 178 (1024 * s + t)).toInt
  | 0, _, _, hk => absurd hk (by omega)
  | r + 1, s, hs, hk => by
    have hno := h.1.2.2.2.1.2
    have ih : ∀ a, zgf M a s → ∀ t, t < f + n → (M1.1 (30 + 14 * a) t).toInt = (M2.1 178 (1024 * a + t)).toInt := fun a ha => zY_row h r a ha.1 (by have := zk_lt zgf_8 hno ha; omega)
    obtain ⟨x0, x1, x2, x3, lv, p0, p0', p1, p2, p3, p4⟩ := h.2.1.2.2.2.2 s hs
    obtain ⟨y0, y1, y2, y3, lw, q0, q0', q1, q2, q3, q4⟩ := h.2.2.1.2.2.2.2.2.1 s hs
    have e0 : ∀ t, t < f + n → zi_cut (x0 t) = y0 t := fun t ht => by
      by_cases h4 : s < 4
      · obtain ⟨a1, a2, a3⟩ := zJ_tv h.1.2.1 h.1.2.2.1 h4 ht h.2.2.2.1 16 (by omega)
        have a4 : zg_tv M2 s 16 t = zg_tv M s 16 t := by
          have ext : ∀ c, c ≤ 16 → zg_tv M2 s c t = zg_tv M s c t := fun c => by
            induction c with
            | zero => intro _; rfl
            | succ c ihc =>
              intro hc
              rw [zg_tv, zg_tv, ihc (by omega), zY_r h 154 c (by decide) (by decide), zY_r h 155 c (by decide) (by decide), zY_r h 156 c (by decide) (by decide), zY_r h 159 c (by decide) (by decide)]
              have : ∀ k, zg_cs M2 c k = zg_cs M c k := fun k => by
                unfold zg_cs
                rw [zY_r h 157 c (by decide) (by decide), zY_r h 158 c (by decide) (by decide), zY_r h 160 c (by decide) (by decide), zY_r h 161 c (by decide) (by decide), zY_r h 162 c (by decide) (by decide), zY_r h 159 c (by decide) (by decide), zY_r h 152 _ (by decide) (by decide)]
              rw [this]
          exact ext 16 (by omega)
        rw [p0 h4 t ht, q0 h4 t ht, a1, a4]
        exact zi_cut_id a2 a3
      · obtain ⟨dl, hd, hq⟩ := q0' (by omega)
        rw [p0' (by omega) t ht, hq t ht, zY_mix h (by omega) hs hd ht ih 7 (by omega)]
    have ek : ∀ i, i < 3 → (M.1 (31 + 14 * s + 2 * i) 1 = M2.1 165 (3 * s + i) ∧ M.1 (31 + 14 * s + 2 * i) 2 = M2.1 166 (3 * s + i) ∧ M.1 (31 + 14 * s + 2 * i) 3 = M2.1 167 (3 * s + i)) ∧ ((M.1 (31 + 14 * s + 2 * i) 1).toInt = 3 → 1 ≤ (M.1 (31 + 14 * s + 2 * i) 2).toInt) := fun i hi => by
      obtain ⟨j1, j2, j3, j4⟩ := h.1.2.2.2.2.1 s hs i hi
      rw [zY_r h 165 _ (by decide) (by decide), zY_r h 166 _ (by decide) (by decide), zY_r h 167 _ (by decide) (by decide)]
      exact ⟨⟨j1, j2, j3⟩, fun e => by rw [j2]; rw [j1] at e; exact (j4.2.2.1 e).1⟩
    unfold zP_S at p1 p2 p3
    unfold zR_S at q1 q2 q3
    rw [← (ek 0 (by decide)).1.1, ← (ek 0 (by decide)).1.2.1, ← (ek 0 (by decide)).1.2.2] at q1
    rw [← (ek 1 (by decide)).1.1, ← (ek 1 (by decide)).1.2.1, ← (ek 1 (by decide)).1.2.2] at q2
    rw [← (ek 2 (by decide)).1.1, ← (ek 2 (by decide)).1.2.1, ← (ek 2 (by decide)).1.2.2] at q3
    have s1 := ze_S_u (ek 0 (by decide)).2 e0 p1 q1
    have s2 := ze_S_u (ek 1 (by decide)).2 s1 p2 q2
    have s3 := ze_S_u (ek 2 (by decide)).2 s2 p3 q3
    intro t ht
    obtain ⟨l1, l2, l3⟩ := p4 t ht
    obtain ⟨m1, m2⟩ := q4 t ht
    by_cases hH : zH M s
    · obtain ⟨m3, m4⟩ := m1 ((zY_H h hs).mp hH)
      have elv : lv t = lw t := by
        obtain ⟨-, f1, f2, f3⟩ := zJ_f1 h.1.2.2.2.2.2.1 hs
        unfold zP_L zF_L at l1
        unfold zG_L at m3
        rw [f2] at l1
        rw [zY_r h 168 s (by decide) (by decide)] at m3
        refine zF_lev_u (zF_lev_c (fun i hi => ?_) l1) m3
        obtain ⟨g1, g2, g3⟩ := f3 i hi
        have v1 := (zJ_f1 h.1.2.2.2.2.2.1 hs).1.2.1
        unfold zG_T zG_V zG_J
        rw [zY_r h 170 _ (by decide) (by decide), zY_r h 171 _ (by decide) (by decide), zY_r h 172 _ (by decide) (by decide), g1, g2, g3]
        exact ⟨rfl, rfl, rfl⟩
      rw [l2 hH, m4, s3 t ht, elv]
    · rw [l3 hH, m2 (fun e => hH ((zY_H h hs).mpr e))]
end ZR

/-! What a wrapper leaves of the references and of the reference's cells. -/
section ZS
variable {M M1 : zm_T}
theorem r_samples {kx : Int32} {t i : Int32} {four : Int64} (hJ : zJ M) (h1 : (kx = 0 ∧ (zu_sam M t i = 0 ∧ M1 = zm_seg M (136 + 2 * t.toNatClampNeg) i.toNatClampNeg 4 (zf_sh four))) ∨ (M1 = M ∧ ((kx = 1 ∧ (zu_sam M t i = 1)) ∨ (kx = 2 ∧ (zu_sam M t i = 2))))) : zL M1.2 := by
  rcases h1 with ⟨-, -, rfl⟩ | ⟨rfl, -⟩ <;> exact hJ.1
theorem r_seal {kx : Int32} {t n : Int32} (hJ : zJ M) (h1 : (kx = 0 ∧ (zu_seal M t n = 0 ∧ M1 = zm_ui M (135 + 2 * t.toNatClampNeg) 1 n)) ∨ (M1 = M ∧ ((kx = 1 ∧ (zu_seal M t n = 1)) ∨ (kx = 2 ∧ (zu_seal M t n = 2)) ∨ (kx = 3 ∧ (zu_seal M t n = 3))))) : zL M1.2 := by
  rcases h1 with ⟨-, -, rfl⟩ | ⟨rfl, -⟩ <;> exact hJ.1
theorem r_take {kx : Int32} {t i : Int32} (hJ : zJ M) (h1 : (kx = 0 ∧ ∃ (r : Int32) (M0 : zm_T), (zu_tk M t i = 0 ∧ r = (if i = -1 then M.1 (135 + 2 * t.toNatClampNeg) 1 else M.1 (136 + 2 * t.toNatClampNeg) i.toNatClampNeg) ∧ M0 = M) ∧ M1 = zm_ul M0 182 0 r.toInt64) ∨ (M1 = M ∧ ((kx = 1 ∧ (zu_tk M t i = 1))))) : zL M1.2 := by
  rcases h1 with ⟨-, r, M0, ⟨-, -, rfl⟩, rfl⟩ | ⟨rfl, -⟩
  · exact zL_1 (N := M0.2) rfl hJ.1
  · exact hJ.1
theorem r_clip {kx : Int32} {tr a t f n : Int32} (hJ : zJ M) (h1 : (kx = 0 ∧ ∃ (r : Int32) (M0 : zm_T), (¬ zv_bad tr a t f n ∧ ¬ M.1 (135 + 2 * t.toNatClampNeg) 1 - n < f ∧ ∃ d, zf_fr M d ∧ (((d = 16 ∨ ∃ e, e < 16 ∧ zu_lk M tr a n (-1) e) ∧ r = -1 ∧ M0 = M) ∨ (d < 16 ∧ (¬ ∃ e, e < 16 ∧ zu_lk M tr a n (-1) e) ∧ r = nI d ∧ M0 = zu_new M d tr a t.toNatClampNeg f n))) ∧ M1 = zm_ul M0 182 0 r.toInt64) ∨ (M1 = M ∧ ((kx = 1 ∧ (zv_bad tr a t f n)) ∨ (kx = 2 ∧ (¬ zv_bad tr a t f n ∧ M.1 (135 + 2 * t.toNatClampNeg) 1 - n < f))))) : zL M1.2 := by
  rcases h1 with ⟨-, r, M0, ⟨-, -, d, hd, g⟩, rfl⟩ | ⟨rfl, -⟩
  · rcases g with ⟨-, -, rfl⟩ | ⟨d16, -, -, rfl⟩
    · exact zL_1 (N := M0.2) rfl hJ.1
    · exact zL_1 (N := (zm_ur M (4 + d) 0 (some (135 + 2 * t.toNatClampNeg))).2) rfl (zL_ur hJ.1 d16)
  · exact hJ.1
theorem r_drop {kx : Int32} {c : Int32} (hJ : zJ M) (h1 : (kx = 0 ∧ (¬ zf_has M c = 0 ∧ M1 = zm_ui M (4 + c.toNatClampNeg) 4 0)) ∨ (M1 = M ∧ ((kx = 1 ∧ (zf_has M c = 0))))) : zL M1.2 := by
  rcases h1 with ⟨-, -, rfl⟩ | ⟨rfl, -⟩ <;> exact hJ.1
theorem r_move {kx : Int32} {c t a : Int32} (hJ : zJ M) (h1 : (kx = 0 ∧ ∃ (r : Int32) (M0 : zm_T), (zu_mv M c t a = 0 ∧ ((r = 0 ∧ (∃ e, e < 16 ∧ zu_lk M t a (M.1 (4 + c.toNatClampNeg) 4) c e) ∧ M0 = M) ∨ (r = 1 ∧ (¬ ∃ e, e < 16 ∧ zu_lk M t a (M.1 (4 + c.toNatClampNeg) 4) c e) ∧ M0 = zm_ui (zm_ui M (4 + c.toNatClampNeg) 1 t) (4 + c.toNatClampNeg) 2 a))) ∧ M1 = zm_ul M0 182 0 (if r = 0 then 0 else 1)) ∨ (M1 = M ∧ ((kx = 1 ∧ (zu_mv M c t a = 1)) ∨ (kx = 2 ∧ (zu_mv M c t a = 2))))) : zL M1.2 := by
  rcases h1 with ⟨-, r, M0, ⟨-, g⟩, rfl⟩ | ⟨rfl, -⟩
  · rcases g with ⟨-, -, rfl⟩ | ⟨-, -, rfl⟩
    · exact zL_1 (N := M0.2) rfl hJ.1
    · exact zL_1 (N := M.2) rfl hJ.1
  · exact hJ.1
theorem r_split {kx : Int32} {c k : Int32} {t : Nat} (hJ : zJ M) (h1 : (kx = 0 ∧ ∃ (r : Int32) (M0 : zm_T), (zu_spl M c k = 0 ∧ ∃ d, zf_fr M d ∧ (((d = 16 ∨ zu_nsp M c.toNatClampNeg k) ∧ r = -1 ∧ M0 = M) ∨ (d < 16 ∧ ¬ zu_nsp M c.toNatClampNeg k ∧ r = nI d ∧ M0 = zu_sp2 M (4 + c.toNatClampNeg) (4 + d) t k))) ∧ M1 = zm_ul M0 182 0 r.toInt64) ∨ (M1 = M ∧ ((kx = 1 ∧ (zu_spl M c k = 1)) ∨ (kx = 2 ∧ (zu_spl M c k = 2))))) : zL M1.2 := by
  rcases h1 with ⟨-, r, M0, ⟨-, d, hd, g⟩, rfl⟩ | ⟨rfl, -⟩
  · rcases g with ⟨-, -, rfl⟩ | ⟨d16, -, -, rfl⟩
    · exact zL_1 (N := M0.2) rfl hJ.1
    · exact zL_1 (N := (zm_ur M (4 + d) 0 (some t)).2) rfl (zL_ur hJ.1 d16)
  · exact hJ.1
theorem r_shape {kx : Int32} {c lv i o : Int32} (hJ : zJ M) (h1 : (kx = 0 ∧ (zu_shp M c lv i o = 0 ∧ M1 = zm_ui (zm_ui (zm_ui M (4 + c.toNatClampNeg) 5 lv) (4 + c.toNatClampNeg) 6 i) (4 + c.toNatClampNeg) 7 o)) ∨ (M1 = M ∧ ((kx = 1 ∧ (zu_shp M c lv i o = 1)) ∨ (kx = 2 ∧ (zu_shp M c lv i o = 2))))) : zL M1.2 := by
  rcases h1 with ⟨-, -, rfl⟩ | ⟨rfl, -⟩ <;> exact hJ.1
theorem r_route {kx : Int32} {s t : Int32} (hJ : zJ M) (h1 : (kx = 0 ∧ ∃ (r : Int32) (M0 : zm_T), (zv_rt s t = 0 ∧ ((r = 1 ∧ s.toNatClampNeg ≠ t.toNatClampNeg ∧ ¬ gq_T (zfd M) t.toNatClampNeg s.toNatClampNeg ∧ M0 = zm_ui M (23 + 14 * s.toNatClampNeg) 4 t) ∨ (r = 0 ∧ (s.toNatClampNeg = t.toNatClampNeg ∨ gq_T (zfd M) t.toNatClampNeg s.toNatClampNeg) ∧ M0 = M))) ∧ M1 = zm_ul M0 182 0 (if r = 0 then 0 else 1)) ∨ (M1 = M ∧ ((kx = 1 ∧ (zv_rt s t = 1))))) : zL M1.2 := by
  rcases h1 with ⟨-, r, M0, ⟨-, g⟩, rfl⟩ | ⟨rfl, -⟩
  · rcases g with ⟨-, -, -, rfl⟩ | ⟨-, -, rfl⟩
    · exact zL_1 (N := M.2) rfl hJ.1
    · exact zL_1 (N := M0.2) rfl hJ.1
  · exact hJ.1
theorem r_send {kx : Int32} {s t lv : Int32} (hJ : zJ M) (h1 : (kx = 0 ∧ ∃ (r : Int32) (M0 : zm_T), (zv_sd s t lv = 0 ∧ ((r = 1 ∧ (0 < lv → s.toNatClampNeg ≠ t.toNatClampNeg ∧ ¬ gq_T (zfd M) t.toNatClampNeg s.toNatClampNeg) ∧ M0 = zm_ui M (29 + 14 * s.toNatClampNeg) t.toNatClampNeg lv) ∨ (r = 0 ∧ 0 < lv ∧ (s.toNatClampNeg = t.toNatClampNeg ∨ gq_T (zfd M) t.toNatClampNeg s.toNatClampNeg) ∧ M0 = M))) ∧ M1 = zm_ul M0 182 0 (if r = 0 then 0 else 1)) ∨ (M1 = M ∧ ((kx = 1 ∧ (zv_sd s t lv = 1))))) : zL M1.2 := by
  rcases h1 with ⟨-, r, M0, ⟨-, g⟩, rfl⟩ | ⟨rfl, -⟩
  · rcases g with ⟨-, -, rfl⟩ | ⟨-, -, -, rfl⟩
    · exact zL_1 (N := M.2) rfl hJ.1
    · exact zL_1 (N := M0.2) rfl hJ.1
  · exact hJ.1
theorem r_effect {kx : Int32} {s sl k p' q : Int32} (hJ : zJ M) (h1 : (kx = 0 ∧ (zv_eff s sl k p' q = 0 ∧ M1 = zm_ui (zm_ui (zm_ui M (31 + 14 * s.toNatClampNeg + 2 * sl.toNatClampNeg) 1 k) (31 + 14 * s.toNatClampNeg + 2 * sl.toNatClampNeg) 2 p') (31 + 14 * s.toNatClampNeg + 2 * sl.toNatClampNeg) 3 q)) ∨ (M1 = M ∧ ((kx = 1 ∧ (zv_eff s sl k p' q = 1))))) : zL M1.2 := by
  rcases h1 with ⟨-, -, rfl⟩ | ⟨rfl, -⟩ <;> exact hJ.1
theorem r_fader {kx : Int32} {s v : Int32} (hJ : zJ M) (h1 : (kx = 0 ∧ (¬ (zf_in s 0 7 = 0 ∨ zf_in v 0 1024 = 0) ∧ M1 = zm_ui M (25 + 14 * s.toNatClampNeg) 4 v)) ∨ (M1 = M ∧ ((kx = 1 ∧ ((zf_in s 0 7 = 0 ∨ zf_in v 0 1024 = 0)))))) : zL M1.2 := by
  rcases h1 with ⟨-, -, rfl⟩ | ⟨rfl, -⟩ <;> exact hJ.1
theorem r_point {kx : Int32} {s t lv jn : Int32} {fn : Nat → Nat} (hJ : zJ M) (h1 : (kx = 0 ∧ ∃ (r : Int32) (M0 : zm_T), (zv_pt s t lv = 0 ∧ ∃ a, a < 8 ∧ s = nI a ∧ ∃ c : Nat, c ≤ fn a ∧ (∀ i, i < c → M.1 (26 + 14 * a) i < t) ∧ (c < fn a → t ≤ M.1 (26 + 14 * a) c) ∧ ((r = 0 ∧ M0 = M ∧ fn a = 8 ∧ ¬ (c < fn a ∧ M.1 (26 + 14 * a) c = t)) ∨ (r = 1 ∧ zF_put M M0 (25 + 14 * a) (26 + 14 * a) (27 + 14 * a) (28 + 14 * a) (fn a) c t lv jn))) ∧ M1 = zm_ul M0 182 0 (if r = 0 then 0 else 1)) ∨ (M1 = M ∧ ((kx = 1 ∧ (zv_pt s t lv = 1))))) : zL M1.2 := by
  rcases h1 with ⟨-, r, M0, ⟨-, a, -, -, c, -, -, -, g⟩, rfl⟩ | ⟨rfl, -⟩
  · rcases g with ⟨-, rfl, -⟩ | ⟨-, hp, -⟩
    · exact zL_1 (N := M0.2) rfl hJ.1
    · exact zL_1 (N := M0.2) rfl (by rw [hp]; exact hJ.1)
  · exact hJ.1
theorem r_turn {kx : Int32} {s w : Int32} (hJ : zJ M) (h1 : (kx = 0 ∧ ∃ (r : Int32) (M0 : zm_T), (zv_trn s w = 0 ∧ ((w = 0 ∧ r = M.1 (25 + 14 * s.toNatClampNeg) 3 ∧ M0 = zm_ui M (25 + 14 * s.toNatClampNeg) 3 0) ∨ (¬ w = 0 ∧ w < 3 ∧ (r = if M.1 (23 + 14 * s.toNatClampNeg) 5 = zv_on w then 0 else 1) ∧ M0 = zm_ui M (23 + 14 * s.toNatClampNeg) 5 (zv_on w)) ∨ (¬ w = 0 ∧ ¬ w < 3 ∧ (r = if M.1 (23 + 14 * s.toNatClampNeg) 6 = zv_on w then 0 else 1) ∧ M0 = zm_ui M (23 + 14 * s.toNatClampNeg) 6 (zv_on w)))) ∧ M1 = zm_ul M0 182 0 r.toInt64) ∨ (M1 = M ∧ ((kx = 1 ∧ (zv_trn s w = 1))))) : zL M1.2 := by
  rcases h1 with ⟨-, r, M0, ⟨-, g⟩, rfl⟩ | ⟨rfl, -⟩
  · rcases g with ⟨-, -, rfl⟩ | ⟨-, -, -, rfl⟩ | ⟨-, -, -, rfl⟩ <;> exact zL_1 (N := M.2) rfl hJ.1
  · exact hJ.1
theorem r_render {kx : Int32} {fn : Nat → Nat} {f n : Int32} (hJ : zJ M) (h1 : (kx = 0 ∧ (¬ zf_blk f n = 0 ∧ zQ M M1 fn f.toNatClampNeg n.toNatClampNeg)) ∨ (M1 = M ∧ ((kx = 1 ∧ (zf_blk f n = 0))))) : zL M1.2 := by
  rcases h1 with ⟨-, -, hq⟩ | ⟨rfl, -⟩
  · rw [hq.1.1]; exact hJ.1
  · exact hJ.1
theorem r_sample {kx : Int32} {s i : Int32} {f n : Nat} (hJ : zJ M) (h1 : (kx = 0 ∧ ∃ (r : Int32) (M0 : zm_T), (zu_smp M s i = 0 ∧ r = M.1 (30 + 14 * s.toNatClampNeg) (f + i.toNatClampNeg) ∧ M0 = M) ∧ M1 = zm_ul M0 182 0 r.toInt64) ∨ (M1 = M ∧ ((kx = 1 ∧ (zu_smp M s i = 1))))) : zL M1.2 := by
  rcases h1 with ⟨-, r, M0, ⟨-, -, rfl⟩, rfl⟩ | ⟨rfl, -⟩
  · exact zL_1 (N := M0.2) rfl hJ.1
  · exact hJ.1
theorem r_meter {kx : Int32} {sv w : Int32} {f n : Nat} (hJ : zJ M) (h1 : (kx = 0 ∧ ∃ (r : Int64) (M0 : zm_T), (zv_trn sv w = 0 ∧ ∃ s, s < 8 ∧ sv = nI s ∧ ((w = 3 ∧ (∃ o, zo_P M o ∧ M0 = zf_st (zf_or M o 8) o 8) ∧ r.toInt = (M0.1 (23 + 14 * s) 8).toInt) ∨ (w = 4 ∧ M0 = M ∧ ((r = 1 ∧ zH M s) ∨ (r = 0 ∧ ¬ zH M s))) ∨ (¬ w = 3 ∧ ¬ w = 4 ∧ M0 = M ∧ zg_acc w (fun i => (M.1 (30 + 14 * s) (f + i)).toInt) n r.toInt))) ∧ M1 = zm_ul M0 182 0 r) ∨ (M1 = M ∧ ((kx = 1 ∧ (zv_trn sv w = 1))))) : zL M1.2 := by
  rcases h1 with ⟨-, r, M0, ⟨-, s, -, -, g⟩, rfl⟩ | ⟨rfl, -⟩
  · rcases g with ⟨-, ⟨o, ho, rfl⟩, -⟩ | ⟨-, rfl, -⟩ | ⟨-, -, rfl, -⟩
    · exact zL_1 (N := M.2) (by show (zf_st (zf_or M o 8) o 8).2.1 = _; rw [zf_st_2]; rfl) hJ.1
    · exact zL_1 (N := M0.2) rfl hJ.1
    · exact zL_1 (N := M0.2) rfl hJ.1
  · exact hJ.1
theorem r_bounce {kx : Int32} {fn : Nat → Nat} {sv f n : Int32} (hJ : zJ M) (h1 : (kx = 0 ∧ ∃ (r : Int32) (M0 : zm_T), (¬ (zf_in sv 0 7 = 0 ∨ zf_blk f n = 0) ∧ ∃ t, zf_ot M t ∧ ((t = 8 ∧ r = -1 ∧ M0 = M) ∨ (t < 8 ∧ r = nI t ∧ ∃ M2, zQ M M2 fn f.toNatClampNeg n.toNatClampNeg ∧ M0 = zm_ui (zm_seg M2 (136 + 2 * t) 0 n.toNatClampNeg (fun j => zf_clip (M2.1 (30 + 14 * sv.toNatClampNeg) (f.toNatClampNeg + j)))) (135 + 2 * t) 1 n))) ∧ M1 = zm_ul M0 182 0 r.toInt64) ∨ (M1 = M ∧ ((kx = 1 ∧ ((zf_in sv 0 7 = 0 ∨ zf_blk f n = 0)))))) : zL M1.2 := by
  rcases h1 with ⟨-, r, M0, ⟨-, t, -, g⟩, rfl⟩ | ⟨rfl, -⟩
  · rcases g with ⟨-, -, rfl⟩ | ⟨-, -, M2, hq, rfl⟩
    · exact zL_1 (N := M0.2) rfl hJ.1
    · exact zL_1 (N := M.2) (by show M2.2.1 = _; rw [hq.1.1]) hJ.1
  · exact hJ.1
theorem e_take {kx : Int32} {t i : Int32} (h1 : (kx = 0 ∧ ∃ (r : Int32) (M0 : zm_T), (zu_tk M t i = 0 ∧ r = (if i = -1 then M.1 (135 + 2 * t.toNatClampNeg) 1 else M.1 (136 + 2 * t.toNatClampNeg) i.toNatClampNeg) ∧ M0 = M) ∧ M1 = zm_ul M0 182 0 r.toInt64) ∨ (M1 = M ∧ ((kx = 1 ∧ (zu_tk M t i = 1))))) : ∀ c j, 151 ≤ c → M1.1 c j = M.1 c j := by
  rcases h1 with ⟨-, r, M0, ⟨-, -, rfl⟩, rfl⟩ | ⟨rfl, -⟩ <;> exact fun _ _ _ => rfl
theorem e_sample {kx : Int32} {s i : Int32} {f n : Nat} (h1 : (kx = 0 ∧ ∃ (r : Int32) (M0 : zm_T), (zu_smp M s i = 0 ∧ r = M.1 (30 + 14 * s.toNatClampNeg) (f + i.toNatClampNeg) ∧ M0 = M) ∧ M1 = zm_ul M0 182 0 r.toInt64) ∨ (M1 = M ∧ ((kx = 1 ∧ (zu_smp M s i = 1))))) : ∀ c j, 151 ≤ c → M1.1 c j = M.1 c j := by
  rcases h1 with ⟨-, r, M0, ⟨-, -, rfl⟩, rfl⟩ | ⟨rfl, -⟩ <;> exact fun _ _ _ => rfl
theorem e_render {kx : Int32} {fn : Nat → Nat} {f n : Int32} (h1 : (kx = 0 ∧ (¬ zf_blk f n = 0 ∧ zQ M M1 fn f.toNatClampNeg n.toNatClampNeg)) ∨ (M1 = M ∧ ((kx = 1 ∧ (zf_blk f n = 0))))) : ∀ c j, 151 ≤ c → M1.1 c j = M.1 c j := by
  rcases h1 with ⟨-, -, hq⟩ | ⟨rfl, -⟩
  · exact fun c j hc => zQ_F_c hq.1 (Or.inr (Or.inl (by omega)))
  · exact fun _ _ _ => rfl
theorem e_point {kx : Int32} {s t lv jn : Int32} {fn : Nat → Nat} (h1 : (kx = 0 ∧ ∃ (r : Int32) (M0 : zm_T), (zv_pt s t lv = 0 ∧ ∃ a, a < 8 ∧ s = nI a ∧ ∃ c : Nat, c ≤ fn a ∧ (∀ i, i < c → M.1 (26 + 14 * a) i < t) ∧ (c < fn a → t ≤ M.1 (26 + 14 * a) c) ∧ ((r = 0 ∧ M0 = M ∧ fn a = 8 ∧ ¬ (c < fn a ∧ M.1 (26 + 14 * a) c = t)) ∨ (r = 1 ∧ zF_put M M0 (25 + 14 * a) (26 + 14 * a) (27 + 14 * a) (28 + 14 * a) (fn a) c t lv jn))) ∧ M1 = zm_ul M0 182 0 (if r = 0 then 0 else 1)) ∨ (M1 = M ∧ ((kx = 1 ∧ (zv_pt s t lv = 1))))) : ∀ c j, 151 ≤ c → M1.1 c j = M.1 c j := by
  rcases h1 with ⟨-, r, M0, ⟨-, a, ha, -, c, -, -, -, g⟩, rfl⟩ | ⟨rfl, -⟩
  · rcases g with ⟨-, rfl, -⟩ | ⟨-, -, hp, -⟩
    · exact fun _ _ _ => rfl
    · exact fun c j hc => hp c j (by omega) (by omega) (by omega) (Or.inl (by omega))
  · exact fun _ _ _ => rfl
theorem e_meter {kx : Int32} {sv w : Int32} {f n : Nat} (h1 : (kx = 0 ∧ ∃ (r : Int64) (M0 : zm_T), (zv_trn sv w = 0 ∧ ∃ s, s < 8 ∧ sv = nI s ∧ ((w = 3 ∧ (∃ o, zo_P M o ∧ M0 = zf_st (zf_or M o 8) o 8) ∧ r.toInt = (M0.1 (23 + 14 * s) 8).toInt) ∨ (w = 4 ∧ M0 = M ∧ ((r = 1 ∧ zH M s) ∨ (r = 0 ∧ ¬ zH M s))) ∨ (¬ w = 3 ∧ ¬ w = 4 ∧ M0 = M ∧ zg_acc w (fun i => (M.1 (30 + 14 * s) (f + i)).toInt) n r.toInt))) ∧ M1 = zm_ul M0 182 0 r) ∨ (M1 = M ∧ ((kx = 1 ∧ (zv_trn sv w = 1))))) : ∀ c j, 151 ≤ c → M1.1 c j = M.1 c j := by
  rcases h1 with ⟨-, r, M0, ⟨-, s, -, -, g⟩, rfl⟩ | ⟨rfl, -⟩
  · rcases g with ⟨-, ⟨o, ho, rfl⟩, -⟩ | ⟨-, rfl, -⟩ | ⟨-, -, rfl, -⟩
    · exact fun c j hc => zQ_F_c (zQ_F_t zQ_F_or (zQ_F_st ho.1)) (Or.inr (Or.inl (by omega)))
    · exact fun _ _ _ => rfl
    · exact fun _ _ _ => rfl
  · exact fun _ _ _ => rfl
theorem e_bounce {kx : Int32} {fn : Nat → Nat} {sv f n : Int32} (h1 : (kx = 0 ∧ ∃ (r : Int32) (M0 : zm_T), (¬ (zf_in sv 0 7 = 0 ∨ zf_blk f n = 0) ∧ ∃ t, zf_ot M t ∧ ((t = 8 ∧ r = -1 ∧ M0 = M) ∨ (t < 8 ∧ r = nI t ∧ ∃ M2, zQ M M2 fn f.toNatClampNeg n.toNatClampNeg ∧ M0 = zm_ui (zm_seg M2 (136 + 2 * t) 0 n.toNatClampNeg (fun j => zf_clip (M2.1 (30 + 14 * sv.toNatClampNeg) (f.toNatClampNeg + j)))) (135 + 2 * t) 1 n))) ∧ M1 = zm_ul M0 182 0 r.toInt64) ∨ (M1 = M ∧ ((kx = 1 ∧ ((zf_in sv 0 7 = 0 ∨ zf_blk f n = 0)))))) : ∀ c j, 151 ≤ c → M1.1 c j = M.1 c j := by
  rcases h1 with ⟨-, r, M0, ⟨-, t, ht, g⟩, rfl⟩ | ⟨rfl, -⟩
  · rcases g with ⟨-, -, rfl⟩ | ⟨t8, -, M2, hq, rfl⟩
    · exact fun _ _ _ => rfl
    · intro c j hc
      show (zm_ui (zm_seg M2 _ _ _ _) _ _ _).1 c j = _
      rw [zui_f, if_neg (by omega), zseg_f, if_neg (by omega), zQ_F_c hq.1 (Or.inr (Or.inl (by omega)))]
  · exact fun _ _ _ => rfl
end ZS

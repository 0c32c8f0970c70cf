/-! The reference's delays: eight rounds reach what no further round changes. -/
/-- how many strips reach s -/
noncomputable def zk_n (F : Nat → Nat → Prop) (s : Nat) : Nat := zo_c (fun x => zx_d (gq_T F x s)) 8
theorem zk_lt {F : Nat → Nat → Prop} (h8 : ∀ a b, F a b → a < 8) (hno : ∀ a, ¬ gq_T F a a) {a s : Nat} (h : F a s) : zk_n F a < zk_n F s := by
  unfold zk_n
  refine zo_c_lt (s := a) (zx_f (hno a)) (zx_t (.single h)) (h8 _ _ h) (fun i hi hT => ?_)
  exact zx_t (.tail (zx_o hT) h)
theorem zk_8 {F : Nat → Nat → Prop} (hno : ∀ a, ¬ gq_T F a a) {s : Nat} (hs : s < 8) : zk_n F s < 8 := by
  unfold zk_n
  have h : zo_c (fun x => zx_d (gq_T F x s)) 8 < zo_c (fun _ => true) 8 := zo_c_lt (s := s) (zx_f (hno s)) rfl hs (fun _ _ _ => rfl)
  rw [zo_c_all (fun _ _ => rfl)] at h
  exact h
/-- v is the greatest of D over the first n strips that feed s -/
def zg_mx (F : Nat → Nat → Prop) (D : Nat → Int) (s n : Nat) (v : Int) : Prop := 0 ≤ v ∧ (∀ a, a < n → F a s → D a ≤ v) ∧ (v = 0 ∨ ∃ a, a < n ∧ F a s ∧ v = D a)
theorem zg_mx_e (F : Nat → Nat → Prop) (D : Nat → Int) (s : Nat) : ∀ n, ∃ v, zg_mx F D s n v
  | 0 => ⟨0, by omega, fun a ha => absurd ha (by omega), Or.inl rfl⟩
  | n + 1 => by
    obtain ⟨v, h1, h2, h3⟩ := zg_mx_e F D s n
    by_cases h : F n s ∧ v < D n
    · refine ⟨D n, by omega, fun a ha hf => ?_, Or.inr ⟨n, by omega, h.1, rfl⟩⟩
      by_cases e : a = n
      · subst e; exact Int.le_refl _
      · have := h2 a (by omega) hf; omega
    · refine ⟨v, h1, fun a ha hf => ?_, h3.elim Or.inl (fun ⟨a, ha, g⟩ => Or.inr ⟨a, by omega, g⟩)⟩
      by_cases e : a = n
      · subst e; by_cases g : v < D a
        · exact absurd ⟨hf, g⟩ h
        · omega
      · exact h2 a (by omega) hf
theorem zg_mx_u {F : Nat → Nat → Prop} {D D' : Nat → Int} {s n : Nat} {v w : Int} (hD : ∀ a, a < n → F a s → D a = D' a) (h : zg_mx F D s n v) (h' : zg_mx F D' s n w) : v = w := by
  obtain ⟨a1, a2, a3⟩ := h
  obtain ⟨b1, b2, b3⟩ := h'
  have h1 : v ≤ w := by
    rcases a3 with rfl | ⟨a, ha, hf, rfl⟩
    · exact b1
    · rw [hD a ha hf]; exact b2 a ha hf
  have h2 : w ≤ v := by
    rcases b3 with rfl | ⟨a, ha, hf, rfl⟩
    · exact a1
    · rw [← hD a ha hf]; exact a2 a ha hf
  omega
def zg_dE (F : Nat → Nat → Prop) (own D : Nat → Int) (s : Nat) : Prop := ∃ v, zg_mx F D s 8 v ∧ D s = v + own s
/-- there are such delays -/
theorem zg_D {F : Nat → Nat → Prop} {own : Nat → Int} (h8 : ∀ a b, F a b → a < 8) (hno : ∀ a, ¬ gq_T F a a) (ho : ∀ s, s < 8 → 0 ≤ own s ∧ own s ≤ 48) : ∀ n : Nat, ∃ D : Nat → Int, ∀ s, s < 8 → zk_n F s < n → zg_dE F own D s ∧ 0 ≤ D s ∧ D s ≤ 48 * ((zk_n F s : Int) + 1)
  | 0 => ⟨fun _ => 0, fun s _ h => absurd h (by omega)⟩
  | n + 1 => by
    obtain ⟨D, hD⟩ := zg_D h8 hno ho n
    obtain ⟨g, hg⟩ := Classical.axiomOfChoice (fun s => zg_mx_e F D s 8)
    have hlow : ∀ s, zk_n F s < n → (fun s => if zk_n F s < n then D s else g s + own s) s = D s := fun s h => if_pos h
    refine ⟨fun s => if zk_n F s < n then D s else g s + own s, fun s hs hk => ?_⟩
    have hfe : ∀ a, a < 8 → F a s → (fun s => if zk_n F s < n then D s else g s + own s) a = D a := fun a _ hf => hlow a (by have := zk_lt h8 hno hf; omega)
    have tr : ∀ v, zg_mx F D s 8 v → zg_mx F (fun s => if zk_n F s < n then D s else g s + own s) s 8 v := fun v h => by
      obtain ⟨a1, a2, a3⟩ := h
      refine ⟨a1, fun a ha hf => by rw [hfe a ha hf]; exact a2 a ha hf, a3.elim Or.inl (fun ⟨a, ha, hf, e⟩ => Or.inr ⟨a, ha, hf, by rw [hfe a ha hf]; exact e⟩)⟩
    by_cases h : zk_n F s < n
    · obtain ⟨⟨v, hv, e⟩, b1, b2⟩ := hD s hs h
      unfold zg_dE
      rw [hlow s h]
      exact ⟨⟨v, tr v hv, e⟩, b1, b2⟩
    · have e : (fun s => if zk_n F s < n then D s else g s + own s) s = g s + own s := if_neg h
      unfold zg_dE
      rw [e]
      obtain ⟨o1, o2⟩ := ho s hs
      obtain ⟨a1, a2, a3⟩ := hg s
      refine ⟨⟨g s, tr _ (hg s), rfl⟩, by omega, ?_⟩
      rcases a3 with a3 | ⟨a, ha, hf, a3⟩
      · omega
      · have hk' := zk_lt h8 hno hf
        have := (hD a ha (by omega)).2.2
        omega
/-- and no others -/
theorem zg_D_u {F : Nat → Nat → Prop} {own D D' : Nat → Int} (h8 : ∀ a b, F a b → a < 8) (hno : ∀ a, ¬ gq_T F a a) (h : ∀ s, s < 8 → zg_dE F own D s) (h' : ∀ s, s < 8 → zg_dE F own D' s) : ∀ n s : Nat, s < 8 → zk_n F s < n → D s = D' s
  | 0, _, _, h => absurd h (by omega)
  | n + 1, s, hs, hk => by
    obtain ⟨v, hv, e⟩ := h s hs
    obtain ⟨w, hw, e'⟩ := h' s hs
    have := zg_mx_u (fun a ha hf => zg_D_u h8 hno h h' n a ha (by have := zk_lt h8 hno hf; omega)) hv hw
    omega
def zg_o1 (M : zm_T) (s k : Nat) : Int := if M.1 165 (3 * s + k) = 4 then (M.1 167 (3 * s + k)).toInt else 0
def zg_own (M : zm_T) (s : Nat) : Int := zg_o1 M s 0 + zg_o1 M s 1 + zg_o1 M s 2
/-- the effects' delays are small -/
def zg_q (M : zm_T) : Prop := ∀ s, s < 8 → ∀ k, k < 3 → 0 ≤ zg_o1 M s k ∧ zg_o1 M s k ≤ 16
set_option maxRecDepth 100000 in
set_option maxHeartbeats 4000000 in
theorem c_Mo_findDelays (l : Launch) (G : zg_T) (M : zm_T) (hL : zL M.2) (hno : ∀ a, ¬ gq_T (zgf M) a a) (hq : zg_q M) : Met l ky_Mo_findDelays (zr_ws ky_Mo_findDelays kc_Mo_findDelays 4 none) (zr_rm 2) (va_Pc [.ref (G.2.2.1 + 151)] (zm_B G 183 zs M)) (va_Qv (fun (M' : zm_T) => zm_only M M' 176 ∧ ∀ s, s < 8 → zg_dE (zgf M) (zg_own M) (fun a => (M'.1 176 a).toInt) s ∧ 0 ≤ (M'.1 176 s).toInt ∧ (M'.1 176 s).toInt ≤ 384) (zm_B G 183 zs) (zm_A G)) 0 0 (zm_A G) := by
  refine zr_met (by decide +kernel) (Nat.le_of_ble_eq_true rfl) ?_
  intro p0 e0 s0 m0 below meth c0 ls hS hK hlk hr hl hI
  have hx := hS.1
  have hb := hS.2.1
  have hl : zl_has ls 4 [some (.ref (G.2.2.1 + 151)), none, none, none] := hl
  have h8F : ∀ a b, zgf M a b → a < 8 := fun a b h => h.1
  have hown : ∀ s, s < 8 → 0 ≤ zg_own M s ∧ zg_own M s ≤ 48 := fun s hs => by
    have q0 := hq s hs 0 (by decide)
    have q1 := hq s hs 1 (by decide)
    have q2 := hq s hs 2 (by decide)
    unfold zg_own
    omega
  obtain ⟨D, hD⟩ := zg_D h8F hno hown 8
  have hD : ∀ s, s < 8 → zg_dE (zgf M) (zg_own M) D s ∧ 0 ≤ D s ∧ D s ≤ 384 := fun s hs => by
    have hk := zk_8 hno hs
    obtain ⟨d1, d2, d3⟩ := hD s hs hk
    exact ⟨d1, d2, by omega⟩
  -- after r rounds, and the strips below s of the next
  have two : ∀ (k r : Nat) (M1 : zm_T) (o2 o3 : Option Value) (H : Heap) (locs : List Loc) (ls : Array Slot), r + k = 8 → zm_only M M1 176 → (∀ a, a < 8 → zk_n (zgf M) a < r → (M1.1 176 a).toInt = D a) → zl_has ls 4 [some (.ref (G.2.2.1 + 151)), some (.int (nI r)), o2, o3] → zm_I G 183 zs M1 s0 H locs → W p0 l e0 (zr_rm 2) s0 m0 ([.ref (G.2.2.1 + 151)] : List Value).toArray below meth c0 H locs 0 0 (MQ below (va_Qv (fun (M' : zm_T) => zm_only M M' 176 ∧ ∀ s, s < 8 → zg_dE (zgf M) (zg_own M) (fun a => (M'.1 176 a).toInt) s ∧ 0 ≤ (M'.1 176 s).toInt ∧ (M'.1 176 s).toInt ≤ 384) (zm_B G 183 zs) (zm_A G)) ([.ref (G.2.2.1 + 151)] : List Value).toArray s0 0 0 (zm_A G)) (F0 m0 23 ls []) := by
    intro k
    induction k with
    | zero =>
      intro r M1 o2 o3 H locs ls hr8 ho hE hl hI
      obtain rfl : r = 8 := by omega
      have fin : ∀ s, s < 8 → zg_dE (zgf M) (zg_own M) (fun a => (M1.1 176 a).toInt) s ∧ 0 ≤ (M1.1 176 s).toInt ∧ (M1.1 176 s).toInt ≤ 384 := fun s hs => by
        have hall : ∀ a, a < 8 → (M1.1 176 a).toInt = D a := fun a ha => hE a ha (zk_8 hno ha)
        obtain ⟨⟨v, ⟨a1, a2, a3⟩, e⟩, d2, d3⟩ := hD s hs
        rw [hall s hs]
        refine ⟨⟨v, ⟨a1, fun a ha hf => by dsimp only; rw [hall a ha]; exact a2 a ha hf, a3.elim Or.inl (fun ⟨a, ha, hf, e⟩ => Or.inr ⟨a, ha, hf, by dsimp only; rw [hall a ha]; exact e⟩)⟩, by dsimp only; rw [hall s hs]; exact e⟩, d2, d3⟩
      refine zr_iload_n hx hb kd_Mo_findDelays_23 hl rfl ?_
      refine lv_bipush (v := 8) hx hb kd_Mo_findDelays_24 (by decide) ?_
      refine lv_icmp_ge (tgt := 119) hx hb kd_Mo_findDelays_26 (by decide) (fun h26 => ?_) (fun h26 => absurd (by decide) h26)
      exact zr_vret hS hK hlk hr hI kd_Mo_findDelays_119 (⟨ho, fin⟩)
    | succ k ih =>
      intro r M1 o2 o3 H locs ls hr8 ho hE hl hI
      have inner : ∀ (j s : Nat) (M1 : zm_T) (o3 : Option Value) (H : Heap) (locs : List Loc) (ls : Array Slot), s + j = 8 → zm_only M M1 176 → (∀ a, a < 8 → (zk_n (zgf M) a < r ∨ (zk_n (zgf M) a ≤ r ∧ a < s)) → (M1.1 176 a).toInt = D a) → zl_has ls 4 [some (.ref (G.2.2.1 + 151)), some (.int (nI r)), some (.int (nI s)), o3] → zm_I G 183 zs M1 s0 H locs → W p0 l e0 (zr_rm 2) s0 m0 ([.ref (G.2.2.1 + 151)] : List Value).toArray below meth c0 H locs 0 0 (MQ below (va_Qv (fun (M' : zm_T) => zm_only M M' 176 ∧ ∀ s, s < 8 → zg_dE (zgf M) (zg_own M) (fun a => (M'.1 176 a).toInt) s ∧ 0 ≤ (M'.1 176 s).toInt ∧ (M'.1 176 s).toInt ≤ 384) (zm_B G 183 zs) (zm_A G)) ([.ref (G.2.2.1 + 151)] : List Value).toArray s0 0 0 (zm_A G)) (F0 m0 31 ls []) := by
        intro j
        induction j with
        | zero =>
          intro s M1 o3 H locs ls hs8 ho hE hl hI
          obtain rfl : s = 8 := by omega
          refine zr_iload_n hx hb kd_Mo_findDelays_31 hl rfl ?_
          refine lv_bipush (v := 8) hx hb kd_Mo_findDelays_32 (by decide) ?_
          refine lv_icmp_ge (tgt := 113) hx hb kd_Mo_findDelays_34 (by decide) (fun h34 => ?_) (fun h34 => absurd (by decide) h34)
          refine zr_iinc hx hb kd_Mo_findDelays_113 hl (by decide) rfl rfl (fun ls hl => ?_)
          refine lv_goto (tgt := 23) hx hb kd_Mo_findDelays_116 (by decide) ?_
          exact ih (r + 1) M1 _ _ H locs ls (by omega) ho (fun a ha hk => hE a ha (Or.inr ⟨by omega, ha⟩)) (by rw [nI_succ]; exact hl) hI
        | succ j ihj =>
          intro s M1 o3 H locs ls hs8 ho hE hl hI
          have hL1 : zL M1.2 := by rw [ho.1]; exact hL
          have hfd : zgf M1 = zgf M := zgf_c (fun j => ho.2 _ _ (by decide)) (fun j => ho.2 _ _ (by decide))
          have es : (nI s).toNatClampNeg = s := zn_cl (by omega)
          -- the three effects
          have three : ∀ (q k : Nat) (v : Int32) (M2 : zm_T) (H : Heap) (locs : List Loc) (ls : Array Slot), k + q = 3 → zm_only M M2 176 → (∀ a, a < 8 → a ≠ s → (M2.1 176 a).toInt = (M1.1 176 a).toInt) → (zk_n (zgf M) s ≤ r → 0 ≤ v.toInt ∧ v.toInt ≤ 384 ∧ D s = v.toInt + zg_own M s ∧ (M2.1 176 s).toInt = v.toInt + (if 0 < k then zg_o1 M s 0 else 0) + (if 1 < k then zg_o1 M s 1 else 0) + (if 2 < k then zg_o1 M s 2 else 0)) → zl_has ls 4 [some (.ref (G.2.2.1 + 151)), some (.int (nI r)), some (.int (nI s)), some (.int (nI k))] → zm_I G 183 zs M2 s0 H locs → W p0 l e0 (zr_rm 2) s0 m0 ([.ref (G.2.2.1 + 151)] : List Value).toArray below meth c0 H locs 0 0 (MQ below (va_Qv (fun (M' : zm_T) => zm_only M M' 176 ∧ ∀ s, s < 8 → zg_dE (zgf M) (zg_own M) (fun a => (M'.1 176 a).toInt) s ∧ 0 ≤ (M'.1 176 s).toInt ∧ (M'.1 176 s).toInt ≤ 384) (zm_B G 183 zs) (zm_A G)) ([.ref (G.2.2.1 + 151)] : List Value).toArray s0 0 0 (zm_A G)) (F0 m0 50 ls []) := by
            intro q
            induction q with
            | zero =>
              intro k v M2 H locs ls hk3 ho2 hoth hv hl hI
              obtain rfl : k = 3 := by omega
              refine zr_iload_n hx hb kd_Mo_findDelays_50 hl rfl ?_
              refine lv_iconst (v := 3) hx hb kd_Mo_findDelays_51 (by decide) ?_
              refine lv_icmp_ge (tgt := 107) hx hb kd_Mo_findDelays_52 (by decide) (fun h52 => ?_) (fun h52 => absurd (by decide) h52)
              refine zr_iinc hx hb kd_Mo_findDelays_107 hl (by decide) rfl rfl (fun ls hl => ?_)
              refine lv_goto (tgt := 31) hx hb kd_Mo_findDelays_110 (by decide) ?_
              refine ihj (s + 1) M2 _ H locs ls (by omega) ho2 (fun a ha hk => ?_) (by rw [nI_succ]; exact hl) hI
              by_cases e : a = s
              · subst e
                obtain ⟨v1, v2, v3, v4⟩ := hv (by omega)
                rw [if_pos (by decide), if_pos (by decide), if_pos (by decide)] at v4
                rw [v4, v3]; unfold zg_own; omega
              · rw [hoth a ha e]; exact hE a ha (by omega)
            | succ q ihq =>
              intro k v M2 H locs ls hk3 ho2 hoth hv hl hI
              have hL2 : zL M2.2 := by rw [ho2.1]; exact hL
              have ei : (3 : Int32) * nI s + nI k = nI (3 * s + k) := by rw [show (3 : Int32) = nI 3 from rfl, zn_mulI, nI_add]
              have ci : (nI (3 * s + k)).toNatClampNeg = 3 * s + k := zn_cl (by omega)
              have k5 : M2.1 165 (3 * s + k) = M.1 165 (3 * s + k) := ho2.2 _ _ (by decide)
              have k7 : M2.1 167 (3 * s + k) = M.1 167 (3 * s + k) := ho2.2 _ _ (by decide)
              have qk := hq s (by omega) k (by omega)
              have ok : ∀ w : Int32, (zk_n (zgf M) s ≤ r → w.toInt = (M2.1 176 s).toInt + zg_o1 M s k) → (zk_n (zgf M) s ≤ r → 0 ≤ v.toInt ∧ v.toInt ≤ 384 ∧ D s = v.toInt + zg_own M s ∧ ((zm_ui M2 176 s w).1 176 s).toInt = v.toInt + (if 0 < k + 1 then zg_o1 M s 0 else 0) + (if 1 < k + 1 then zg_o1 M s 1 else 0) + (if 2 < k + 1 then zg_o1 M s 2 else 0)) := fun w hw hk => by
                obtain ⟨v1, v2, v3, v4⟩ := hv hk
                refine ⟨v1, v2, v3, ?_⟩
                rw [zm_ui_at, hw hk, v4]
                have : k = 0 ∨ k = 1 ∨ k = 2 := by omega
                rcases this with rfl | rfl | rfl <;> simp
              refine zr_iload_n hx hb kd_Mo_findDelays_50 hl rfl ?_
              refine lv_iconst (v := 3) hx hb kd_Mo_findDelays_51 (by decide) ?_
              refine lv_icmp_ge (tgt := 107) hx hb kd_Mo_findDelays_52 (by decide) (fun h52 => absurd h52 (zn_ge (n := 3) rfl (by omega) (by decide))) (fun h52 => ?_)
              refine zr_aload_n hx hb kd_Mo_findDelays_55 hl rfl ?_
              refine zr_getr hS hK kf_Mo_83 hI ha_MO hs_MO (zL_mo hL2 (k := 25) (by decide) (by decide)) kd_Mo_findDelays_56 ?_
              refine zr_iload_n hx hb kd_Mo_findDelays_59 hl rfl ?_
              refine zr_aload_n hx hb kd_Mo_findDelays_60 hl rfl ?_
              refine zr_getr hS hK kf_Mo_50 hI ha_MO hs_MO (zL_mo hL2 (k := 14) (by decide) (by decide)) kd_Mo_findDelays_61 ?_
              refine lv_iconst (v := 3) hx hb kd_Mo_findDelays_64 (by decide) ?_
              refine zr_iload_n hx hb kd_Mo_findDelays_65 hl rfl ?_
              refine lv_imul hx hb kd_Mo_findDelays_66 ?_
              refine zr_iload_n hx hb kd_Mo_findDelays_67 hl rfl ?_
              refine lv_iadd hx hb kd_Mo_findDelays_68 ?_
              rw [ei]
              refine zr_iald hS hK hI ha_MO_14 hs_MO_14 (vp_in_nI (by omega) (by decide)) kd_Mo_findDelays_69 ?_
              refine lv_iconst (v := 4) hx hb kd_Mo_findDelays_70 (by decide) ?_
              refine lv_icmp_ne (tgt := 94) hx hb kd_Mo_findDelays_71 (by decide) (fun h71 => ?_) (fun h71 => ?_)
              · skip
                refine zr_aload_n hx hb kd_Mo_findDelays_94 hl rfl ?_
                refine zr_getr hS hK kf_Mo_83 hI ha_MO hs_MO (zL_mo hL2 (k := 25) (by decide) (by decide)) kd_Mo_findDelays_95 ?_
                refine zr_iload_n hx hb kd_Mo_findDelays_98 hl rfl ?_
                refine zr_iald hS hK hI ha_MO_25 hs_MO_25 (vp_in_nI (by omega) (by decide)) kd_Mo_findDelays_99 ?_
                refine zr_iast hS hK hI ha_MO_25 hs_MO_25 (vp_in_nI (by omega) (by decide)) kd_Mo_findDelays_100 (fun H locs hI => ?_)
                refine zr_iinc hx hb kd_Mo_findDelays_101 hl (by decide) rfl rfl (fun ls hl => ?_)
                refine lv_goto (tgt := 50) hx hb kd_Mo_findDelays_104 (by decide) ?_
                rw [es] at hI
                rw [ci] at h71
                refine ihq (k + 1) v _ H locs ls (by omega) (zm_only_u ho2) (fun a ha hne => by rw [zm_ui_ne (Or.inr hne)]; exact hoth a ha hne) (ok _ (fun hk => ?_)) (by rw [nI_succ]; exact hl) hI
                first
                | (have e0 : zg_o1 M s k = 0 := by unfold zg_o1; rw [if_neg (by rw [← k5]; exact h71)]
                   rw [e0, Int.add_zero])
                | (obtain ⟨v1, v2, v3, v4⟩ := hv hk
                   have e0 : zg_o1 M s k = (M2.1 167 (3 * s + k)).toInt := by unfold zg_o1; rw [if_pos (by rw [← k5]; exact h71), k7]
                   have q0 := hq s (by omega) 0 (by decide)
                   have q1 := hq s (by omega) 1 (by decide)
                   have q2 := hq s (by omega) 2 (by decide)
                   have hb : 0 ≤ (M2.1 176 s).toInt ∧ (M2.1 176 s).toInt ≤ 500 := by rw [v4]; (repeat' split) <;> omega
                   rw [ci]
                   show (M2.1 176 s + M2.1 167 (3 * s + k)).toInt = _
                   rw [zn_add] <;> rw [← e0] <;> omega)
              · skip
                refine zr_aload_n hx hb kd_Mo_findDelays_74 hl rfl ?_
                refine zr_getr hS hK kf_Mo_83 hI ha_MO hs_MO (zL_mo hL2 (k := 25) (by decide) (by decide)) kd_Mo_findDelays_75 ?_
                refine zr_iload_n hx hb kd_Mo_findDelays_78 hl rfl ?_
                refine zr_iald hS hK hI ha_MO_25 hs_MO_25 (vp_in_nI (by omega) (by decide)) kd_Mo_findDelays_79 ?_
                refine zr_aload_n hx hb kd_Mo_findDelays_80 hl rfl ?_
                refine zr_getr hS hK kf_Mo_56 hI ha_MO hs_MO (zL_mo hL2 (k := 16) (by decide) (by decide)) kd_Mo_findDelays_81 ?_
                refine lv_iconst (v := 3) hx hb kd_Mo_findDelays_84 (by decide) ?_
                refine zr_iload_n hx hb kd_Mo_findDelays_85 hl rfl ?_
                refine lv_imul hx hb kd_Mo_findDelays_86 ?_
                refine zr_iload_n hx hb kd_Mo_findDelays_87 hl rfl ?_
                refine lv_iadd hx hb kd_Mo_findDelays_88 ?_
                rw [ei]
                refine zr_iald hS hK hI ha_MO_16 hs_MO_16 (vp_in_nI (by omega) (by decide)) kd_Mo_findDelays_89 ?_
                refine lv_iadd hx hb kd_Mo_findDelays_90 ?_
                refine lv_goto (tgt := 100) hx hb kd_Mo_findDelays_91 (by decide) ?_
                refine zr_iast hS hK hI ha_MO_25 hs_MO_25 (vp_in_nI (by omega) (by decide)) kd_Mo_findDelays_100 (fun H locs hI => ?_)
                refine zr_iinc hx hb kd_Mo_findDelays_101 hl (by decide) rfl rfl (fun ls hl => ?_)
                refine lv_goto (tgt := 50) hx hb kd_Mo_findDelays_104 (by decide) ?_
                rw [es] at hI
                rw [ci] at h71
                refine ihq (k + 1) v _ H locs ls (by omega) (zm_only_u ho2) (fun a ha hne => by rw [zm_ui_ne (Or.inr hne)]; exact hoth a ha hne) (ok _ (fun hk => ?_)) (by rw [nI_succ]; exact hl) hI
                first
                | (have e0 : zg_o1 M s k = 0 := by unfold zg_o1; rw [if_neg (by rw [← k5]; exact h71)]
                   rw [e0, Int.add_zero])
                | (obtain ⟨v1, v2, v3, v4⟩ := hv hk
                   have e0 : zg_o1 M s k = (M2.1 167 (3 * s + k)).toInt := by unfold zg_o1; rw [if_pos (by rw [← k5]; exact h71), k7]
                   have q0 := hq s (by omega) 0 (by decide)
                   have q1 := hq s (by omega) 1 (by decide)
                   have q2 := hq s (by omega) 2 (by decide)
                   have hb : 0 ≤ (M2.1 176 s).toInt ∧ (M2.1 176 s).toInt ≤ 500 := by rw [v4]; (repeat' split) <;> omega
                   rw [ci]
                   show (M2.1 176 s + M2.1 167 (3 * s + k)).toInt = _
                   rw [zn_add] <;> rw [← e0] <;> omega)
          refine zr_iload_n hx hb kd_Mo_findDelays_31 hl rfl ?_
          refine lv_bipush (v := 8) hx hb kd_Mo_findDelays_32 (by decide) ?_
          refine lv_icmp_ge (tgt := 113) hx hb kd_Mo_findDelays_34 (by decide) (fun h34 => absurd h34 (zn_ge (n := 8) rfl (by omega) (by decide))) (fun h34 => ?_)
          refine zr_aload_n hx hb kd_Mo_findDelays_37 hl rfl ?_
          refine zr_getr hS hK kf_Mo_83 hI ha_MO hs_MO (zL_mo hL1 (k := 25) (by decide) (by decide)) kd_Mo_findDelays_38 ?_
          refine zr_iload_n hx hb kd_Mo_findDelays_41 hl rfl ?_
          refine zr_aload_n hx hb kd_Mo_findDelays_42 hl rfl ?_
          refine zr_iload_n hx hb kd_Mo_findDelays_43 hl rfl ?_
          refine zr_ci (zr_runV hS hK (c_Mo_delayIn l G M1 hL1 s (by omega)) km_Mo_155 hI ha_MO hs_MO rfl hl.1 (Nat.le_of_ble_eq_true rfl) (by decide) (by decide) kd_Mo_findDelays_44 rfl) hI (fun r44 M44 H locs hp44 hI => ?_)
          obtain ⟨hd44, hM44⟩ := hp44
          rw [hM44] at hI
          refine zr_iast hS hK hI ha_MO_25 hs_MO_25 (vp_in_nI (by omega) (by decide)) kd_Mo_findDelays_47 (fun H locs hI => ?_)
          refine lv_iconst (v := 0) hx hb kd_Mo_findDelays_48 (by decide) ?_
          refine zr_istore_n hx hb kd_Mo_findDelays_49 hl (by decide) rfl (fun ls hl => ?_)
          rw [es] at hI
          refine three 3 0 r44 _ H locs _ (by omega) (zm_only_u ho) (fun a ha hne => by rw [zm_ui_ne (Or.inr hne)]) (fun hk => ?_) hl hI
          obtain ⟨⟨w, hw, e⟩, d2, d3⟩ := hD s (by omega)
          unfold zg_di at hd44
          rw [hfd] at hd44
          have ew : r44.toInt = w := zg_mx_u (D := fun a => (M1.1 176 a).toInt) (D' := D) (fun a ha hf => hE a ha (Or.inl (by have := zk_lt h8F hno hf; omega))) hd44 hw
          have := hown s (by omega)
          rw [zm_ui_at, if_neg (by decide), if_neg (by decide), if_neg (by decide)]
          exact ⟨hd44.1, by omega, by omega, by omega⟩
      refine zr_iload_n hx hb kd_Mo_findDelays_23 hl rfl ?_
      refine lv_bipush (v := 8) hx hb kd_Mo_findDelays_24 (by decide) ?_
      refine lv_icmp_ge (tgt := 119) hx hb kd_Mo_findDelays_26 (by decide) (fun h26 => absurd h26 (zn_ge (n := 8) rfl (by omega) (by decide))) (fun h26 => ?_)
      refine lv_iconst (v := 0) hx hb kd_Mo_findDelays_29 (by decide) ?_
      refine zr_istore_n hx hb kd_Mo_findDelays_30 hl (by decide) rfl (fun ls hl => ?_)
      exact inner 8 0 M1 _ H locs _ (by omega) ho (fun a ha hk => hE a ha (by omega)) hl hI
  have one : ∀ (k s : Nat) (M1 : zm_T) (H : Heap) (locs : List Loc) (ls : Array Slot), s + k = 8 → zm_only M M1 176 → zl_has ls 4 [some (.ref (G.2.2.1 + 151)), some (.int (nI s)), none, none] → zm_I G 183 zs M1 s0 H locs → W p0 l e0 (zr_rm 2) s0 m0 ([.ref (G.2.2.1 + 151)] : List Value).toArray below meth c0 H locs 0 0 (MQ below (va_Qv (fun (M' : zm_T) => zm_only M M' 176 ∧ ∀ s, s < 8 → zg_dE (zgf M) (zg_own M) (fun a => (M'.1 176 a).toInt) s ∧ 0 ≤ (M'.1 176 s).toInt ∧ (M'.1 176 s).toInt ≤ 384) (zm_B G 183 zs) (zm_A G)) ([.ref (G.2.2.1 + 151)] : List Value).toArray s0 0 0 (zm_A G)) (F0 m0 2 ls []) := by
    intro k
    induction k with
    | zero =>
      intro s M1 H locs ls hs8 ho hl hI
      obtain rfl : s = 8 := by omega
      refine zr_iload_n hx hb kd_Mo_findDelays_2 hl rfl ?_
      refine lv_bipush (v := 8) hx hb kd_Mo_findDelays_3 (by decide) ?_
      refine lv_icmp_ge (tgt := 21) hx hb kd_Mo_findDelays_5 (by decide) (fun h5 => ?_) (fun h5 => absurd (by decide) h5)
      refine lv_iconst (v := 0) hx hb kd_Mo_findDelays_21 (by decide) ?_
      refine zr_istore_n hx hb kd_Mo_findDelays_22 hl (by decide) rfl (fun ls hl => ?_)
      exact two 8 0 M1 _ _ H locs _ (by omega) ho (fun a ha hk => absurd hk (by omega)) hl hI
    | succ k ih =>
      intro s M1 H locs ls hs8 ho hl hI
      have hL1 : zL M1.2 := by rw [ho.1]; exact hL
      refine zr_iload_n hx hb kd_Mo_findDelays_2 hl rfl ?_
      refine lv_bipush (v := 8) hx hb kd_Mo_findDelays_3 (by decide) ?_
      refine lv_icmp_ge (tgt := 21) hx hb kd_Mo_findDelays_5 (by decide) (fun h5 => absurd h5 (zn_ge (n := 8) rfl (by omega) (by decide))) (fun h5 => ?_)
      refine zr_aload_n hx hb kd_Mo_findDelays_8 hl rfl ?_
      refine zr_getr hS hK kf_Mo_83 hI ha_MO hs_MO (zL_mo hL1 (k := 25) (by decide) (by decide)) kd_Mo_findDelays_9 ?_
      refine zr_iload_n hx hb kd_Mo_findDelays_12 hl rfl ?_
      refine lv_iconst (v := 0) hx hb kd_Mo_findDelays_13 (by decide) ?_
      refine zr_iast hS hK hI ha_MO_25 hs_MO_25 (vp_in_nI (by omega) (by decide)) kd_Mo_findDelays_14 (fun H locs hI => ?_)
      refine zr_iinc hx hb kd_Mo_findDelays_15 hl (by decide) rfl rfl (fun ls hl => ?_)
      refine lv_goto (tgt := 2) hx hb kd_Mo_findDelays_18 (by decide) ?_
      exact ih (s + 1) _ H locs ls (by omega) (zm_only_u ho) (by rw [nI_succ]; exact hl) hI
  refine lv_iconst (v := 0) hx hb kd_Mo_findDelays_0 (by decide) ?_
  refine zr_istore_n hx hb kd_Mo_findDelays_1 hl (by decide) rfl (fun ls hl => ?_)
  exact one 8 0 M _ _ _ (by omega) zm_only_r hl hI

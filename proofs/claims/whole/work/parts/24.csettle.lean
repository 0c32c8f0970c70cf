/-! The order and the delays. -/
/-- how many of the first n numbers P holds of -/
def zo_c (P : Nat → Bool) : Nat → Nat
  | 0 => 0
  | n + 1 => zo_c P n + if P n then 1 else 0
theorem zo_c_le (P : Nat → Bool) : ∀ n, zo_c P n ≤ n
  | 0 => Nat.le_refl _
  | n + 1 => by
    have := zo_c_le P n
    show zo_c P n + (if P n then 1 else 0) ≤ n + 1
    split <;> omega
theorem zo_c_c {P Q : Nat → Bool} : ∀ {n : Nat}, (∀ i, i < n → P i = Q i) → zo_c P n = zo_c Q n
  | 0, _ => rfl
  | n + 1, h => by
    show zo_c P n + (if P n then 1 else 0) = zo_c Q n + if Q n then 1 else 0
    rw [zo_c_c (n := n) (fun i hi => h i (by omega)), h n (by omega)]
/-- one more -/
theorem zo_c_add {P Q : Nat → Bool} {s : Nat} (hP : P s = false) (hQ : Q s = true) (h : ∀ i, i ≠ s → P i = Q i) : ∀ {n : Nat}, s < n → zo_c Q n = zo_c P n + 1
  | 0, hs => absurd hs (by omega)
  | n + 1, hs => by
    show zo_c Q n + (if Q n then 1 else 0) = zo_c P n + (if P n then 1 else 0) + 1
    by_cases e : s = n
    · subst e
      rw [zo_c_c (P := Q) (Q := P) (fun i hi => (h i (by omega)).symm), hP, hQ]
      simp
    · rw [zo_c_add hP hQ h (n := n) (by omega), h n (by omega)]
      omega
theorem zo_c_mono {P Q : Nat → Bool} : ∀ {n : Nat}, (∀ i, i < n → P i = true → Q i = true) → zo_c P n ≤ zo_c Q n
  | 0, _ => Nat.le_refl _
  | n + 1, h => by
    have h1 := zo_c_mono (P := P) (Q := Q) (n := n) (fun i hi => h i (by omega))
    have h2 := h n (by omega)
    show zo_c P n + (if P n then 1 else 0) ≤ zo_c Q n + if Q n then 1 else 0
    cases hp : P n with
    | false => simp; omega
    | true => rw [h2 hp]; simp; exact h1
theorem zo_c_lt {P Q : Nat → Bool} {s : Nat} (hP : P s = false) (hQ : Q s = true) : ∀ {n : Nat}, s < n → (∀ i, i < n → P i = true → Q i = true) → zo_c P n < zo_c Q n
  | 0, hs, _ => absurd hs (by omega)
  | n + 1, hs, h => by
    show zo_c P n + (if P n then 1 else 0) < zo_c Q n + if Q n then 1 else 0
    by_cases e : s = n
    · subst e
      have h1 := zo_c_mono (P := P) (Q := Q) (n := s) (fun i hi => h i (by omega))
      rw [hP, hQ]
      simp; omega
    · have h1 := zo_c_lt hP hQ (n := n) (by omega) (fun i hi => h i (by omega))
      have h2 := h n (by omega)
      cases hp : P n with
      | false => simp; omega
      | true => rw [h2 hp]; simp; exact h1
theorem zo_c_all {P : Nat → Bool} : ∀ {n : Nat}, (∀ i, i < n → P i = true) → zo_c P n = n
  | 0, _ => rfl
  | n + 1, h => by
    show zo_c P n + (if P n then 1 else 0) = n + 1
    rw [zo_c_all (fun i hi => h i (by omega)), h n (by omega)]; rfl
theorem zn_pred (q : Nat) : (4 : Int32) - (nI q + 1) = 4 - nI q + (-1) := by rw [Int32.sub_eq_add_neg, Int32.sub_eq_add_neg, Int32.neg_add, Int32.sub_eq_add_neg, Int32.add_assoc]
def zf_bc1 (x : Int32) : Int32 := x - ((x.toUInt32 >>> ((1 : Int32).toUInt32 &&& Int32.toUInt32 31)).toInt32 &&& 1431655765)
def zf_bc2 (x : Int32) : Int32 := (x &&& 858993459) + ((x.toUInt32 >>> ((2 : Int32).toUInt32 &&& Int32.toUInt32 31)).toInt32 &&& 858993459)
def zf_bc3 (x : Int32) : Int32 := (x + (x.toUInt32 >>> ((4 : Int32).toUInt32 &&& Int32.toUInt32 31)).toInt32) &&& 252645135
def zf_bc4 (x : Int32) : Int32 := x + (x.toUInt32 >>> ((8 : Int32).toUInt32 &&& Int32.toUInt32 31)).toInt32
def zf_bc5 (x : Int32) : Int32 := x + (x.toUInt32 >>> ((16 : Int32).toUInt32 &&& Int32.toUInt32 31)).toInt32
theorem zf_bc_eq : ∀ m, m < 256 → zf_bc5 (zf_bc4 (zf_bc3 (zf_bc2 (zf_bc1 (nI m))))) &&& 63 = nI (zo_c (fun i => m.testBit i) 8) := by decide +kernel
set_option maxRecDepth 100000 in
set_option maxHeartbeats 4000000 in
theorem c_In_bitCount (l : Launch) (G : zg_T) (nc : Nat) (sh : Nat → Nat × Nat) (M : zm_T) (m : Nat) (hm : m < 256) : Met l ky_In_bitCount (zr_ws ky_In_bitCount kc_In_bitCount 1 (some .int)) (zr_rm 0) (va_Pc [.int (nI m)] (zm_B G nc sh M)) (va_Qi (fun (r : Int32) (M' : zm_T) => r = nI (zo_c (fun i => m.testBit i) 8) ∧ M' = M) (zm_B G nc sh) (zm_A G)) 0 0 (zm_A G) := by
  refine zr_met (by decide +kernel) (Nat.le_of_ble_eq_true rfl) ?_
  intro p0 e0 s0 m0 below meth c0 ls hS hK hlk hr hl hI
  have hx := hS.1
  have hb := hS.2.1
  have hl : zl_has ls 1 [some (.int (nI m))] := hl
  refine zr_iload_n hx hb kd_In_bitCount_0 hl rfl ?_
  refine zr_iload_n hx hb kd_In_bitCount_1 hl rfl ?_
  refine lv_iconst (v := 1) hx hb kd_In_bitCount_2 (by decide) ?_
  refine lv_iushr hx hb kd_In_bitCount_3 rfl ?_
  refine lv_ldcw (v := 1431655765) hx hb hS.2.2.2.1 (hS.2.2.2.2 _ (zw_mem (i := 608) (w := .constant "java/lang/Integer" 265 1431655765) (by decide +kernel) rfl)) kd_In_bitCount_4 ?_
  refine lv_iand hx hb kd_In_bitCount_7 ?_
  refine lv_isub hx hb kd_In_bitCount_8 ?_
  refine zr_istore_n hx hb kd_In_bitCount_9 hl (by decide) rfl (fun ls hl => ?_)
  refine zr_iload_n hx hb kd_In_bitCount_10 hl rfl ?_
  refine lv_ldcw (v := 858993459) hx hb hS.2.2.2.1 (hS.2.2.2.2 _ (zw_mem (i := 609) (w := .constant "java/lang/Integer" 266 858993459) (by decide +kernel) rfl)) kd_In_bitCount_11 ?_
  refine lv_iand hx hb kd_In_bitCount_14 ?_
  refine zr_iload_n hx hb kd_In_bitCount_15 hl rfl ?_
  refine lv_iconst (v := 2) hx hb kd_In_bitCount_16 (by decide) ?_
  refine lv_iushr hx hb kd_In_bitCount_17 rfl ?_
  refine lv_ldcw (v := 858993459) hx hb hS.2.2.2.1 (hS.2.2.2.2 _ (zw_mem (i := 609) (w := .constant "java/lang/Integer" 266 858993459) (by decide +kernel) rfl)) kd_In_bitCount_18 ?_
  refine lv_iand hx hb kd_In_bitCount_21 ?_
  refine lv_iadd hx hb kd_In_bitCount_22 ?_
  refine zr_istore_n hx hb kd_In_bitCount_23 hl (by decide) rfl (fun ls hl => ?_)
  refine zr_iload_n hx hb kd_In_bitCount_24 hl rfl ?_
  refine zr_iload_n hx hb kd_In_bitCount_25 hl rfl ?_
  refine lv_iconst (v := 4) hx hb kd_In_bitCount_26 (by decide) ?_
  refine lv_iushr hx hb kd_In_bitCount_27 rfl ?_
  refine lv_iadd hx hb kd_In_bitCount_28 ?_
  refine lv_ldcw (v := 252645135) hx hb hS.2.2.2.1 (hS.2.2.2.2 _ (zw_mem (i := 610) (w := .constant "java/lang/Integer" 267 252645135) (by decide +kernel) rfl)) kd_In_bitCount_29 ?_
  refine lv_iand hx hb kd_In_bitCount_32 ?_
  refine zr_istore_n hx hb kd_In_bitCount_33 hl (by decide) rfl (fun ls hl => ?_)
  refine zr_iload_n hx hb kd_In_bitCount_34 hl rfl ?_
  refine zr_iload_n hx hb kd_In_bitCount_35 hl rfl ?_
  refine lv_bipush (v := 8) hx hb kd_In_bitCount_36 (by decide) ?_
  refine lv_iushr hx hb kd_In_bitCount_38 rfl ?_
  refine lv_iadd hx hb kd_In_bitCount_39 ?_
  refine zr_istore_n hx hb kd_In_bitCount_40 hl (by decide) rfl (fun ls hl => ?_)
  refine zr_iload_n hx hb kd_In_bitCount_41 hl rfl ?_
  refine zr_iload_n hx hb kd_In_bitCount_42 hl rfl ?_
  refine lv_bipush (v := 16) hx hb kd_In_bitCount_43 (by decide) ?_
  refine lv_iushr hx hb kd_In_bitCount_45 rfl ?_
  refine lv_iadd hx hb kd_In_bitCount_46 ?_
  refine zr_istore_n hx hb kd_In_bitCount_47 hl (by decide) rfl (fun ls hl => ?_)
  refine zr_iload_n hx hb kd_In_bitCount_48 hl rfl ?_
  refine lv_bipush (v := 63) hx hb kd_In_bitCount_49 (by decide) ?_
  refine lv_iand hx hb kd_In_bitCount_51 ?_
  exact zr_iret hS hK hlk hr hI kd_In_bitCount_52 (⟨zf_bc_eq m hm, rfl⟩)
noncomputable def zx_d (P : Prop) : Bool := @decide P (Classical.propDecidable P)
theorem zx_t {P : Prop} (h : P) : zx_d P = true := @decide_eq_true P (Classical.propDecidable P) h
theorem zx_f {P : Prop} (h : ¬ P) : zx_d P = false := @decide_eq_false P (Classical.propDecidable P) h
theorem zx_o {P : Prop} (h : zx_d P = true) : P := @of_decide_eq_true P (Classical.propDecidable P) h
/-- how many strips s reaches -/
noncomputable def zo_n (M : zm_T) (s : Nat) : Nat := zo_c (fun i => zx_d (gq_T (zfd M) s i)) 8
theorem zo_n_B {M : zm_T} {s m : Nat} (h : ∀ i, i < 8 → (m.testBit i = true ↔ gq_T (zfd M) s i)) : zo_c (fun i => m.testBit i) 8 = zo_n M s := by
  unfold zo_n
  refine zo_c_c (fun i hi => ?_)
  have := h i hi
  cases hb : m.testBit i with
  | false => exact (zx_f (fun hT => absurd (this.mpr hT) (by rw [hb]; decide))).symm
  | true => exact (zx_t (this.mp hb)).symm
theorem zD_T {M : zm_T} (hD : zD M) {s i : Nat} (h : gq_T (zfd M) s i) : 4 ≤ i := by
  rcases h with h | ⟨_, h⟩
  · exact (hD _ _ h).1
  · exact (hD _ _ h).1
theorem zo_n_4 {M : zm_T} (hD : zD M) (s : Nat) : zo_n M s ≤ 4 := by
  unfold zo_n
  have h : ∀ i, i < 4 → zx_d (gq_T (zfd M) s i) = false := fun i hi => zx_f (fun h => absurd (zD_T hD h) (by omega))
  simp only [zo_c, h 0 (by omega), h 1 (by omega), h 2 (by omega), h 3 (by omega)]
  have b : ∀ x : Bool, (if x = true then 1 else 0) ≤ 1 := by decide
  have h4 := b (zx_d (gq_T (zfd M) s 4))
  have h5 := b (zx_d (gq_T (zfd M) s 5))
  have h6 := b (zx_d (gq_T (zfd M) s 6))
  have h7 := b (zx_d (gq_T (zfd M) s 7))
  simp only [Bool.false_eq_true, if_false] at *
  omega
theorem zo_n_lt {M : zm_T} (hno : ∀ a, ¬ gq_T (zfd M) a a) {a b : Nat} (h : zfd M a b) : zo_n M b < zo_n M a := by
  unfold zo_n
  refine zo_c_lt (s := b) (zx_f (hno b)) (zx_t (.single h)) h.2.1 (fun i hi hT => ?_)
  exact zx_t (gq_trans (.single h) (zx_o hT))
/-- strip t stands before the place (q, s): more than q are reached, or q and t < s -/
def zo_b (n : Nat → Nat) (q s t : Nat) : Bool := decide (q < n t ∨ (n t = q ∧ t < s))
/-- o lists the strips before (q, s), in their order -/
def zo_o (n o : Nat → Nat) (q s : Nat) : Prop :=
  (∀ i, i < zo_c (zo_b n q s) 8 → o i < 8 ∧ (q < n (o i) ∨ (n (o i) = q ∧ o i < s))) ∧
  (∀ i j, i < j → j < zo_c (zo_b n q s) 8 → n (o j) < n (o i) ∨ (n (o i) = n (o j) ∧ o i < o j)) ∧
  ∀ t, t < 8 → (q < n t ∨ (n t = q ∧ t < s)) → ∃ i, i < zo_c (zo_b n q s) 8 ∧ o i = t
theorem zo_o_s {n o : Nat → Nat} {q s : Nat} (h : zo_o n o q s) (hs : s < 8) (hn : n s = q) : zo_c (zo_b n q s) 8 < 8 ∧ zo_c (zo_b n q (s + 1)) 8 = zo_c (zo_b n q s) 8 + 1 ∧ zo_o n (fun i => if i = zo_c (zo_b n q s) 8 then s else o i) q (s + 1) := by
  have e : zo_c (zo_b n q (s + 1)) 8 = zo_c (zo_b n q s) 8 + 1 := by
    refine zo_c_add (s := s) (decide_eq_false (by omega)) (decide_eq_true (by omega)) (fun i hi => ?_) hs
    unfold zo_b
    exact decide_eq_decide.mpr (by omega)
  have h8 := zo_c_le (zo_b n q (s + 1)) 8
  refine ⟨by omega, e, ?_⟩
  unfold zo_o at h ⊢
  rw [e]
  generalize zo_c (zo_b n q s) 8 = p at h e h8 ⊢
  obtain ⟨h1, h2, h3⟩ := h
  have f1 : ∀ i, i = p → (fun i => if i = p then s else o i) i = s := fun i h => if_pos h
  have f2 : ∀ i, i ≠ p → (fun i => if i = p then s else o i) i = o i := fun i h => if_neg h
  refine ⟨fun i hi => ?_, fun i j hij hj => ?_, fun t ht hb => ?_⟩
  · by_cases ei : i = p
    · rw [f1 i ei]; exact ⟨hs, by omega⟩
    · rw [f2 i ei]; have := h1 i (by omega); omega
  · rw [f2 i (by omega)]
    by_cases ej : j = p
    · rw [f1 j ej]; have := h1 i (by omega); omega
    · rw [f2 j ej]; exact h2 i j hij (by omega)
  · by_cases et : t = s
    · exact ⟨p, by omega, by rw [f1 p rfl]; exact et.symm⟩
    · obtain ⟨i, hi, hoi⟩ := h3 t ht (by omega)
      exact ⟨i, by omega, by rw [f2 i (by omega)]; exact hoi⟩
theorem zo_b_c {n : Nat → Nat} {q s q' s' : Nat} (h : ∀ t, t < 8 → ((q < n t ∨ (n t = q ∧ t < s)) ↔ (q' < n t ∨ (n t = q' ∧ t < s')))) : zo_c (zo_b n q s) 8 = zo_c (zo_b n q' s') 8 :=
  zo_c_c (fun i hi => decide_eq_decide.mpr (h i hi))
theorem zo_o_c {n o : Nat → Nat} {q s q' s' : Nat} (h : ∀ t, t < 8 → ((q < n t ∨ (n t = q ∧ t < s)) ↔ (q' < n t ∨ (n t = q' ∧ t < s')))) (ho : zo_o n o q s) : zo_o n o q' s' := by
  obtain ⟨h1, h2, h3⟩ := ho
  unfold zo_o
  rw [← zo_b_c h]
  exact ⟨fun i hi => ⟨(h1 i hi).1, (h _ (h1 i hi).1).mp (h1 i hi).2⟩, h2, fun t ht hb => h3 t ht ((h t ht).mpr hb)⟩
/-- o lists all strips, each behind those that feed it -/
def zo_P (M : zm_T) (o : Nat → Nat) : Prop := (∀ i, i < 8 → o i < 8) ∧ (∀ i j, i < j → j < 8 → o i ≠ o j) ∧ (∀ t, t < 8 → ∃ i, i < 8 ∧ o i = t) ∧ ∀ i j, i < 8 → j < 8 → zfd M (o i) (o j) → i < j
theorem zo_P_of {M : zm_T} {o : Nat → Nat} (hno : ∀ a, ¬ gq_T (zfd M) a a) (h : zo_o (zo_n M) o 0 8) : zo_P M o := by
  have e : zo_c (zo_b (zo_n M) 0 8) 8 = 8 := zo_c_all (fun i hi => decide_eq_true (by omega))
  unfold zo_o at h
  rw [e] at h
  obtain ⟨h1, h2, h3⟩ := h
  refine ⟨fun i hi => (h1 i hi).1, fun i j hij hj he => ?_, fun t ht => h3 t ht (by omega), fun i j hi hj hF => ?_⟩
  · have := h2 i j hij hj
    rw [he] at this
    omega
  · have hl := zo_n_lt hno hF
    by_cases hij : i < j
    · exact hij
    · exfalso
      by_cases e : i = j
      · subst e; omega
      · have := h2 j i (by omega) hi
        omega
/-- the memory with the order laid down -/
def zf_or (M : zm_T) (o : Nat → Nat) (p : Nat) : zm_T := zm_seg M 22 0 p (fun i => nI (o i))
theorem zf_or_s {M : zm_T} {o : Nat → Nat} {p s : Nat} : zm_ui (zf_or M o p) 22 p (nI s) = zf_or M (fun i => if i = p then s else o i) (p + 1) := by
  unfold zf_or
  rw [← zm_seg_s]
  have e : zm_seg M 22 0 p (fun i => nI (o i)) = zm_seg M 22 0 p (fun i => nI (if i = p then s else o i)) := by
    unfold zm_seg
    refine Prod.ext ?_ rfl
    funext c k
    show (if c = 22 ∧ 0 ≤ k ∧ k < 0 + p then nI (o (k - 0)) else M.1 c k) = if c = 22 ∧ 0 ≤ k ∧ k < 0 + p then nI (if k - 0 = p then s else o (k - 0)) else M.1 c k
    by_cases h : c = 22 ∧ 0 ≤ k ∧ k < 0 + p
    · rw [if_pos h, if_pos h, if_neg (show ¬ k - 0 = p by omega)]
    · rw [if_neg h, if_neg h]
  have e2 : nI ((fun i => if i = p then s else o i) p) = nI s := congrArg nI (if_pos rfl)
  rw [e, e2, Nat.zero_add]
theorem zf_feeds_c {M M1 : zm_T} {a b : Nat} (h4 : M1.1 (23 + 14 * a) 4 = M.1 (23 + 14 * a) 4) (hs : M1.1 (29 + 14 * a) b = M.1 (29 + 14 * a) b) : zf_feeds M1 a b = zf_feeds M a b := by
  unfold zf_feeds
  rw [h4, hs]
theorem zfd_c {M M1 : zm_T} (h : ∀ a b, a < 8 → b < 8 → zf_feeds M1 a b = zf_feeds M a b) : zfd M1 = zfd M := by
  funext a b
  unfold zfd
  refine propext ⟨fun h' => ⟨h'.1, h'.2.1, by rw [← h a b h'.1 h'.2.1]; exact h'.2.2⟩, fun h' => ⟨h'.1, h'.2.1, by rw [h a b h'.1 h'.2.1]; exact h'.2.2⟩⟩
theorem zf_or_fd {M : zm_T} {o : Nat → Nat} {p : Nat} : zfd (zf_or M o p) = zfd M :=
  zfd_c (fun a b ha hb => zf_feeds_c (zm_seg_out (Or.inl (by omega))) (zm_seg_out (Or.inl (by omega))))
theorem zo_n_c {M M1 : zm_T} (h : zfd M1 = zfd M) (s : Nat) : zo_n M1 s = zo_n M s := by unfold zo_n; rw [h]
theorem zD_c {M M1 : zm_T} (h : zfd M1 = zfd M) (hD : zD M) : zD M1 := by unfold zD; rw [h]; exact hD
/-- the delays behind the first i of the order -/
def zf_st (M : zm_T) (o : Nat → Nat) : Nat → zm_T
  | 0 => M
  | i + 1 => zm_ui (zm_ui (zf_st M o i) (23 + 14 * o i) 7 (zf_gd (zf_st M o i) (o i) 7)) (23 + 14 * o i) 8 (zf_dl (zf_st M o i) (o i) (zf_gd (zf_st M o i) (o i) 7) 3)
theorem zf_st_2 (M : zm_T) (o : Nat → Nat) : ∀ i, (zf_st M o i).2 = M.2
  | 0 => rfl
  | i + 1 => zf_st_2 M o i
set_option maxRecDepth 100000 in
set_option maxHeartbeats 4000000 in
theorem c_De_settle (l : Launch) (G : zg_T) (M : zm_T) (hL : zL M.2) (hD : zD M) (hno : ∀ a, ¬ gq_T (zfd M) a a) : Met l ky_De_settle (zr_ws ky_De_settle kc_De_settle 4 none) (zr_rm 3) (va_Pc [.ref (G.2.2.1 + 20)] (zm_B G 183 zs M)) (va_Qv (fun (M' : zm_T) => ∃ o, zo_P M o ∧ M' = zf_st (zf_or M o 8) o 8) (zm_B G 183 zs) (zm_A G)) 0 0 (zm_A G) := by
  refine zr_met (by decide +kernel) (Nat.le_of_ble_eq_true rfl) ?_
  intro p0 e0 s0 m0 below meth c0 ls hS hK hlk hr hl hI
  have hx := hS.1
  have hb := hS.2.1
  have hl : zl_has ls 4 [some (.ref (G.2.2.1 + 20)), none, none, none] := hl
  have two : ∀ (o : Nat → Nat), zo_P M o → ∀ (k i : Nat) (o3 : Option Value) (p : Int32) (H : Heap) (locs : List Loc) (ls : Array Slot), i + k = 8 → zl_has ls 4 [some (.ref (G.2.2.1 + 20)), some (.int p), some (.int (nI i)), o3] → zm_I G 183 zs (zf_st (zf_or M o 8) o i) s0 H locs → W p0 l e0 (zr_rm 3) s0 m0 ([.ref (G.2.2.1 + 20)] : List Value).toArray below meth c0 H locs 0 0 (MQ below (va_Qv (fun (M' : zm_T) => ∃ o, zo_P M o ∧ M' = zf_st (zf_or M o 8) o 8) (zm_B G 183 zs) (zm_A G)) ([.ref (G.2.2.1 + 20)] : List Value).toArray s0 0 0 (zm_A G)) (F0 m0 52 ls []) := by
    intro o ho k
    have hord : ∀ j i, i < 8 → (zf_st (zf_or M o 8) o j).1 22 i = nI (o i) := by
      intro j
      induction j with
      | zero => intro i hi; exact zm_seg_in (M := M) (b := 22) (i := 0) (n := 8) (k := i) (f := fun i => nI (o i)) (by omega) (by omega)
      | succ j ih => intro i hi; rw [zf_st, zm_ui_ne (Or.inl (by omega)), zm_ui_ne (Or.inl (by omega))]; exact ih i hi
    induction k with
    | zero =>
      intro i o3 p H locs ls hi hl hI
      obtain rfl : i = 8 := by omega
      refine zr_iload_n hx hb kd_De_settle_52 hl rfl ?_
      refine lv_bipush (v := 8) hx hb kd_De_settle_53 (by decide) ?_
      refine lv_icmp_ge (tgt := 88) hx hb kd_De_settle_55 (by decide) (fun h55 => ?_) (fun h55 => absurd (by decide) h55)
      exact zr_vret hS hK hlk hr hI kd_De_settle_88 (⟨o, ho, rfl⟩)
    | succ k ih =>
      intro i o3 p H locs ls hi hl hI
      have ei : (nI i).toNatClampNeg = i := zn_cl (by omega)
      have h8 := ho.1 i (by omega)
      have hLi : zL (zf_st (zf_or M o 8) o i).2 := by rw [zf_st_2]; exact hL
      have eo : (zf_st (zf_or M o 8) o i).1 22 (nI i).toNatClampNeg = nI (o i) := by rw [ei]; exact hord i i (by omega)
      have eoo : (nI (o i)).toNatClampNeg = o i := zn_cl (by omega)
      refine zr_iload_n hx hb kd_De_settle_52 hl rfl ?_
      refine lv_bipush (v := 8) hx hb kd_De_settle_53 (by decide) ?_
      refine lv_icmp_ge (tgt := 88) hx hb kd_De_settle_55 (by decide) (fun h55 => absurd h55 (zn_ge (n := 8) rfl (by omega) (by decide))) (fun h55 => ?_)
      refine zr_aload_n hx hb kd_De_settle_58 hl rfl ?_
      refine zr_getr hS hK kf_De_11 hI ha_DE hs_DE (zL_0 hLi).2.2.2.2.1 kd_De_settle_59 ?_
      refine zr_aload_n hx hb kd_De_settle_62 hl rfl ?_
      refine zr_getr hS hK kf_De_17 hI ha_DE hs_DE (zL_0 hLi).2.2.2.2.2 kd_De_settle_63 ?_
      refine zr_iload_n hx hb kd_De_settle_66 hl rfl ?_
      refine zr_iald hS hK hI ha_DE_1 hs_DE_1 (by first | assumption | exact vp_in_nI (by omega) (by decide) | (rw [nI_add]; exact vp_in_nI (by omega) (by decide))) kd_De_settle_67 ?_
      rw [eo]
      refine zr_aald hS hK hI ha_DE_0 hs_DE_0 (by decide) (by decide) rfl (vp_in_nI (by omega) (by decide)) (by rw [eoo]; exact (zL_st hLi h8).1) kd_De_settle_68 ?_
      refine zr_aload_n hx hb kd_De_settle_69 hl rfl ?_
      refine zr_aload_n hx hb kd_De_settle_70 hl rfl ?_
      refine zr_getr hS hK kf_De_17 hI ha_DE hs_DE (zL_0 hLi).2.2.2.2.2 kd_De_settle_71 ?_
      refine zr_iload_n hx hb kd_De_settle_74 hl rfl ?_
      refine zr_iald hS hK hI ha_DE_1 hs_DE_1 (by first | assumption | exact vp_in_nI (by omega) (by decide) | (rw [nI_add]; exact vp_in_nI (by omega) (by decide))) kd_De_settle_75 ?_
      rw [eo]
      refine zr_ci (zr_runV hS hK (c_De_greatestDelayInto l G _ hLi (o i) h8) km_De_45 hI ha_DE hs_DE rfl hl.1 (Nat.le_of_ble_eq_true rfl) (by decide) (by decide) kd_De_settle_76 rfl) hI (fun r76 M76 H locs hp76 hI => ?_)
      obtain ⟨rfl, hM76⟩ := hp76
      rw [hM76] at hI
      refine zr_cv (zr_runV hS hK (c_St_delayFrom l G _ hLi (o i) _ h8) km_De_48 hI (by omega) (zs_st0 _ h8) rfl hl.1 (Nat.le_of_ble_eq_true rfl) (by decide) (by decide) kd_De_settle_79 rfl) hI (fun M79 H locs hp79 hI => ?_)
      rw [hp79] at hI
      refine zr_iinc hx hb kd_De_settle_82 hl (by decide) rfl rfl (fun ls hl => ?_)
      refine lv_goto (tgt := 52) hx hb kd_De_settle_85 (by decide) ?_
      exact ih (i + 1) _ _ H locs ls (by omega) (by rw [nI_succ]; exact hl) hI
  have one : ∀ (k q : Nat) (o : Nat → Nat) (o3 : Option Value) (H : Heap) (locs : List Loc) (ls : Array Slot), q + k = 5 → zo_o (zo_n M) o (4 - q) 0 → zl_has ls 4 [some (.ref (G.2.2.1 + 20)), some (.int (nI (zo_c (zo_b (zo_n M) (4 - q) 0) 8))), some (.int (4 - nI q)), o3] → zm_I G 183 zs (zf_or M o (zo_c (zo_b (zo_n M) (4 - q) 0) 8)) s0 H locs → q < 5 → W p0 l e0 (zr_rm 3) s0 m0 ([.ref (G.2.2.1 + 20)] : List Value).toArray below meth c0 H locs 0 0 (MQ below (va_Qv (fun (M' : zm_T) => ∃ o, zo_P M o ∧ M' = zf_st (zf_or M o 8) o 8) (zm_B G 183 zs) (zm_A G)) ([.ref (G.2.2.1 + 20)] : List Value).toArray s0 0 0 (zm_A G)) (F0 m0 4 ls []) := by
    intro k
    induction k with
    | zero => intro q o o3 H locs ls hq _ _ _ h5; omega
    | succ k ih =>
      intro q o o3 H locs ls hq ho hl hI h5
      have eq4 : 4 - nI q = nI (4 - q) := pk_sub (a := 4) (by omega)
      have inner : ∀ (j s : Nat) (o : Nat → Nat) (H : Heap) (locs : List Loc) (ls : Array Slot), s + j = 8 → zo_o (zo_n M) o (4 - q) s → zl_has ls 4 [some (.ref (G.2.2.1 + 20)), some (.int (nI (zo_c (zo_b (zo_n M) (4 - q) s) 8))), some (.int (4 - nI q)), some (.int (nI s))] → zm_I G 183 zs (zf_or M o (zo_c (zo_b (zo_n M) (4 - q) s) 8)) s0 H locs → W p0 l e0 (zr_rm 3) s0 m0 ([.ref (G.2.2.1 + 20)] : List Value).toArray below meth c0 H locs 0 0 (MQ below (va_Qv (fun (M' : zm_T) => ∃ o, zo_P M o ∧ M' = zf_st (zf_or M o 8) o 8) (zm_B G 183 zs) (zm_A G)) ([.ref (G.2.2.1 + 20)] : List Value).toArray s0 0 0 (zm_A G)) (F0 m0 10 ls []) := by
        intro j
        induction j with
        | zero =>
          intro s o H locs ls hs ho hl hI
          obtain rfl : s = 8 := by omega
          by_cases hq4 : q = 4
          · subst hq4
            refine zr_iload_n hx hb kd_De_settle_10 hl rfl ?_
            refine lv_bipush (v := 8) hx hb kd_De_settle_11 (by decide) ?_
            refine lv_icmp_ge (tgt := 44) hx hb kd_De_settle_13 (by decide) (fun h13 => ?_) (fun h13 => absurd (by decide) h13)
            refine zr_iinc hx hb kd_De_settle_44 hl (by decide) rfl rfl (fun ls hl => ?_)
            refine lv_goto (tgt := 4) hx hb kd_De_settle_47 (by decide) ?_
            refine zr_iload_n hx hb kd_De_settle_4 hl rfl ?_
            refine lv_if_lt (tgt := 50) hx hb kd_De_settle_5 (by decide) (fun h5 => ?_) (fun h5 => absurd (by decide) h5)
            refine lv_iconst (v := 0) hx hb kd_De_settle_50 (by decide) ?_
            refine zr_istore_n hx hb kd_De_settle_51 hl (by decide) rfl (fun ls hl => ?_)
            have e8 : zo_c (zo_b (zo_n M) (4 - 4) 8) 8 = 8 := zo_c_all (fun i hi => decide_eq_true (by omega))
            rw [e8] at hI
            exact two o (zo_P_of hno ho) 8 0 _ _ H locs ls (by omega) hl hI
          · have hc : ∀ t, t < 8 → ((4 - q < zo_n M t ∨ (zo_n M t = 4 - q ∧ t < 8)) ↔ (4 - (q + 1) < zo_n M t ∨ (zo_n M t = 4 - (q + 1) ∧ t < 0))) := fun t ht => by omega
            refine zr_iload_n hx hb kd_De_settle_10 hl rfl ?_
            refine lv_bipush (v := 8) hx hb kd_De_settle_11 (by decide) ?_
            refine lv_icmp_ge (tgt := 44) hx hb kd_De_settle_13 (by decide) (fun h13 => ?_) (fun h13 => absurd (by decide) h13)
            refine zr_iinc hx hb kd_De_settle_44 hl (by decide) rfl rfl (fun ls hl => ?_)
            refine lv_goto (tgt := 4) hx hb kd_De_settle_47 (by decide) ?_
            refine ih (q + 1) o (some (.int (nI 8))) H locs ls (by omega) (zo_o_c hc ho) ?_ ?_ (by omega)
            · rw [← zo_b_c hc, nI_succ, show (4 : Int32) - (nI q + 1) = 4 - nI q + (-1) from zn_pred q]; exact hl
            · rw [← zo_b_c hc]; exact hI
        | succ j ihj =>
          intro s o H locs ls hs ho hl hI
          have hLo : zL (zf_or M o (zo_c (zo_b (zo_n M) (4 - q) s) 8)).2 := hL
          refine zr_iload_n hx hb kd_De_settle_10 hl rfl ?_
          refine lv_bipush (v := 8) hx hb kd_De_settle_11 (by decide) ?_
          refine lv_icmp_ge (tgt := 44) hx hb kd_De_settle_13 (by decide) (fun h13 => absurd h13 (zn_ge (n := 8) rfl (by omega) (by decide))) (fun h13 => ?_)
          refine zr_aload_n hx hb kd_De_settle_16 hl rfl ?_
          refine zr_iload_n hx hb kd_De_settle_17 hl rfl ?_
          refine zr_ci (zr_runV hS hK (c_De_reach l G _ hLo s (by omega) (zD_c zf_or_fd hD)) km_De_24 hI ha_DE hs_DE rfl hl.1 (Nat.le_of_ble_eq_true rfl) (by decide) (by decide) kd_De_settle_18 rfl) hI (fun r18 M18 H locs hp18 hI => ?_)
          obtain ⟨⟨m, hm, rfl, hbm⟩, hM18⟩ := hp18
          rw [hM18] at hI
          rw [zf_or_fd] at hbm
          refine zr_ci (zr_runS hS hK (c_In_bitCount l G 183 zs _ m hm) km_De_40 hI rfl hl.1 (Nat.le_of_ble_eq_true rfl) (by decide) (by decide) kd_De_settle_21 rfl) hI (fun r21 M21 H locs hp21 hI => ?_)
          obtain ⟨rfl, hM21⟩ := hp21
          rw [hM21] at hI
          refine zr_iload_n hx hb kd_De_settle_24 hl rfl ?_
          rw [zo_n_B hbm, eq4]
          refine lv_icmp_ne (tgt := 38) hx hb kd_De_settle_25 (by decide) (fun h25 => ?_) (fun h25 => ?_)
          · skip
            refine zr_iinc hx hb kd_De_settle_38 hl (by decide) rfl rfl (fun ls hl => ?_)
            refine lv_goto (tgt := 10) hx hb kd_De_settle_41 (by decide) ?_
            first
            | refine ihj (s + 1) _ H locs ls (by omega) ho' ?_ ?_
              · rw [pe, nI_succ, nI_succ]; exact hl
              · rw [zn_cl (by omega)] at hI
                rw [pe, ← zf_or_s]; exact hI
            | have hn4 := zo_n_4 hD s
              have hsn : zo_n M s ≠ 4 - q := fun e => h25 (by rw [e])
              have hc : ∀ t, t < 8 → ((4 - q < zo_n M t ∨ (zo_n M t = 4 - q ∧ t < s)) ↔ (4 - q < zo_n M t ∨ (zo_n M t = 4 - q ∧ t < s + 1))) := fun t ht => by
                by_cases e : t = s
                · subst e; omega
                · omega
              refine ihj (s + 1) o H locs ls (by omega) (zo_o_c hc ho) ?_ ?_
              · rw [← zo_b_c hc, nI_succ]; exact hl
              · rw [← zo_b_c hc]; exact hI
          · skip
            refine zr_aload_n hx hb kd_De_settle_28 hl rfl ?_
            refine zr_getr hS hK kf_De_17 hI ha_DE hs_DE (zL_0 hLo).2.2.2.2.2 kd_De_settle_29 ?_
            refine zr_iload_n hx hb kd_De_settle_32 hl rfl ?_
            refine zr_iload_n hx hb kd_De_settle_33 hl rfl ?_
            have hn4 := zo_n_4 hD s
            have hsn : zo_n M s = 4 - q := (nI_eq (by omega) (by omega)).mp h25
            obtain ⟨p8, pe, ho'⟩ := zo_o_s ho (by omega) hsn
            refine zr_iast hS hK hI ha_DE_1 hs_DE_1 (vp_in_nI (by omega) (by decide)) kd_De_settle_34 (fun H locs hI => ?_)
            refine zr_iinc hx hb kd_De_settle_35 hl (by decide) rfl rfl (fun ls hl => ?_)
            refine zr_iinc hx hb kd_De_settle_38 hl (by decide) rfl rfl (fun ls hl => ?_)
            refine lv_goto (tgt := 10) hx hb kd_De_settle_41 (by decide) ?_
            first
            | refine ihj (s + 1) _ H locs ls (by omega) ho' ?_ ?_
              · rw [pe, nI_succ, nI_succ]; exact hl
              · rw [zn_cl (by omega)] at hI
                rw [pe, ← zf_or_s]; exact hI
            | have hn4 := zo_n_4 hD s
              have hsn : zo_n M s ≠ 4 - q := fun e => h25 (by rw [e])
              have hc : ∀ t, t < 8 → ((4 - q < zo_n M t ∨ (zo_n M t = 4 - q ∧ t < s)) ↔ (4 - q < zo_n M t ∨ (zo_n M t = 4 - q ∧ t < s + 1))) := fun t ht => by
                by_cases e : t = s
                · subst e; omega
                · omega
              refine ihj (s + 1) o H locs ls (by omega) (zo_o_c hc ho) ?_ ?_
              · rw [← zo_b_c hc, nI_succ]; exact hl
              · rw [← zo_b_c hc]; exact hI
      refine zr_iload_n hx hb kd_De_settle_4 hl rfl ?_
      refine lv_if_lt (tgt := 50) hx hb kd_De_settle_5 (by decide) (fun h5 => absurd h5 ((by rw [eq4]; exact nI_pos (by omega)))) (fun h5 => ?_)
      refine lv_iconst (v := 0) hx hb kd_De_settle_8 (by decide) ?_
      refine zr_istore_n hx hb kd_De_settle_9 hl (by decide) rfl (fun ls hl => ?_)
      exact inner 8 0 o _ _ _ (by omega) ho hl hI
  have ez : zo_c (zo_b (zo_n M) (4 - 0) 0) 8 = 0 := by
    rw [zo_c_c (P := zo_b (zo_n M) (4 - 0) 0) (Q := fun _ => false) (n := 8) (fun i hi => decide_eq_false (by have := zo_n_4 hD i; omega))]; rfl
  have ho : zo_o (zo_n M) (fun _ => 0) (4 - 0) 0 := by
    unfold zo_o
    rw [ez]
    exact ⟨fun i hi => absurd hi (by omega), fun i j _ hj => absurd hj (by omega), fun t ht hb => by have := zo_n_4 hD t; omega⟩
  refine lv_iconst (v := 0) hx hb kd_De_settle_0 (by decide) ?_
  refine zr_istore_n hx hb kd_De_settle_1 hl (by decide) rfl (fun ls hl => ?_)
  refine lv_iconst (v := 4) hx hb kd_De_settle_2 (by decide) ?_
  refine zr_istore_n hx hb kd_De_settle_3 hl (by decide) rfl (fun ls hl => ?_)
  refine one 5 0 (fun _ => 0) none _ _ _ (by omega) ho ?_ ?_ (by omega)
  · rw [ez]; exact hl
  · rw [ez]; unfold zf_or; rw [zm_seg_0]; exact hI

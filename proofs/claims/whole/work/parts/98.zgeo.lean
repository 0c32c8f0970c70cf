/-! What the tables' words give at the start. -/
section ZG0
variable {s : State} {A : Array Value}
theorem z0_cast {x y : String} (h : (Cond.not (.castable x y)).before A s = true) : ∃ i j, s.vm.findClass x = some i ∧ s.vm.findClass y = some j ∧ s.vm.assignable i j = false := by
  simp only [Cond.before, Cond.holds, Cond.value] at h
  cases hx : s.vm.findClass x with
  | none => simp [hx] at h
  | some i => cases hy : s.vm.findClass y with
    | none => simp [hx, hy] at h
    | some j =>
      simp [hx, hy] at h
      exact ⟨i, j, rfl, rfl, h⟩
theorem z0_Win : zx_W.all (fun w => lw_tbl.any (fun v => decide (v = w))) = true := by decide +kernel
theorem z0_zxW (hts : ∀ w ∈ lw_tbl, w.before A s = true) : ∀ w ∈ zx_W, w.before #[] s = true := by
  intro w hw
  have h1 := List.all_eq_true.mp z0_Win w hw
  simp only [List.any_eq_true, decide_eq_true_eq] at h1
  obtain ⟨v, hv, rfl⟩ := h1
  exact va_tabs (zx_W_on v hw) rfl (hts v hv)
theorem z0_pairs : zx_X.all (fun x => zx_X.all (fun y => decide (x.1 = y.1) || (flatC (Jvm.Cond.and given_1 narrow_1)).any (fun v => decide (v = Cond.not (.castable x.1 y.1))))) = true := by decide +kernel
theorem z0_T (hts : ∀ w ∈ lw_tbl, w.before A s = true) (hg : (Jvm.Cond.and given_1 narrow_1).before A s = true) : zx_T s := by
  refine ⟨z0_zxW hts, fun x hx y hy hn => ?_⟩
  have h1 := List.all_eq_true.mp (List.all_eq_true.mp z0_pairs x hx) y hy
  simp only [Bool.or_eq_true, decide_eq_true_eq, List.any_eq_true] at h1
  rcases h1 with h1 | ⟨v, hv, rfl⟩
  · exact absurd h1 hn
  · exact z0_cast (flat_of_before _ hg _ hv)
theorem z0_AO (hts : ∀ w ∈ lw_tbl, w.before A s = true) : ∀ C ∈ zc_A, va_AO C s := by
  intro C hC
  simp only [zc_A, List.mem_cons, List.not_mem_nil, or_false] at hC
  rcases hC with rfl | rfl | rfl | rfl
  · exact va_AO.of (hts _ (List.mem_of_getElem? (i := 69) (by decide +kernel)))
  · exact va_AO.of (hts _ (List.mem_of_getElem? (i := 77) (by decide +kernel)))
  · exact va_AO.of (hts _ (List.mem_of_getElem? (i := 132) (by decide +kernel)))
  · exact va_AO.of (hts _ (List.mem_of_getElem? (i := 125) (by decide +kernel)))
theorem z0_arr {ty : FieldType} (h : (Cond.arrayClass ty).before A s = true) (ht : ∀ C, ty ≠ .object C) : ∃ cA, ArrOfT s cA ty ∧ va_RA s cA ty := by
  obtain ⟨c, k, comp, h1, h2, h3⟩ := Cond.arrayClass_spec h
  refine ⟨c, fun n z => ⟨(fun k h => by cases h), k, h2, comp, h3⟩, ?_⟩
  unfold va_RA
  split
  · rename_i C
    exact absurd rfl (ht C)
  · exact h1
theorem z0_arrq {C : String} (h : va_AO C s) : ∃ cA, ArrOfT s cA (.object C) ∧ va_RA s cA (.object C) := by
  obtain ⟨comp, c, k, h1, h2, h3, h4, h5⟩ := Cond.arrayOver_spec h
  exact ⟨c, fun n z => ⟨(fun k h => by cases h), k, h3, comp, h4⟩, k, comp, h3, h4, h1, h5⟩
theorem z0_arrs (hts : ∀ w ∈ lw_tbl, w.before A s = true) (k : Nat) : ∃ cA, ArrOfT s cA (zk_ty k) ∧ va_RA s cA (zk_ty k) := by
  have hA := z0_AO hts
  match k with
  | 0 => exact z0_arr (hts (.arrayClass .int) (List.mem_of_getElem? (i := 156) (by decide +kernel))) (fun C h => by cases h)
  | 1 => exact z0_arr (hts (.arrayClass .boolean) (List.mem_of_getElem? (i := 157) (by decide +kernel))) (fun C h => by cases h)
  | 2 => exact z0_arr (hts (.arrayClass .long) (List.mem_of_getElem? (i := 1316) (by decide +kernel))) (fun C h => by cases h)
  | 3 => exact z0_arrq (hA "StripMixer$Take" (by decide))
  | 4 => exact z0_arrq (hA "StripMixer$Clip" (by decide))
  | 5 => exact z0_arrq (hA "StripMixer$Effect" (by decide))
  | k + 6 => exact z0_arrq (hA "StripMixer$Strip" (by decide))
theorem z0_zw (hts : ∀ w ∈ lw_tbl, w.before A s = true) : ∀ w ∈ zw_T, w.before A s = true := fun w hw => hts w (List.mem_filter.mp hw).1
theorem z0_in {C : String} {n i : Nat} (hts : ∀ w ∈ lw_tbl, w.before A s = true) (h : lw_tbl[i]? = some (.instantiable C n)) : (Cond.instantiable C n).before A s = true := hts _ (List.mem_of_getElem? h)
theorem z0_pk {c : Nat} {C : String} {T : u_T} {N : Nat} (hc : zc_cl[c]? = some (C, T, N)) (h : ∃ (cC : ClassId) (iS : Nat → Nat), u_Kn s C T N cC iS) : ∃ x : ClassId × (Nat → Nat), ∀ q, zc_cl[c]? = some q → u_Kn s q.1 q.2.1 q.2.2 x.1 x.2 := by
  obtain ⟨cC, iS, h⟩ := h
  exact ⟨(cC, iS), fun q hq => by
    rw [hc] at hq
    cases hq
    exact h⟩
theorem z0_cls (hts : ∀ w ∈ lw_tbl, w.before A s = true) (c : Nat) : ∃ x : ClassId × (Nat → Nat), ∀ q, zc_cl[c]? = some q → u_Kn s q.1 q.2.1 q.2.2 x.1 x.2 := by
  have hz := z0_zw hts
  match c with
  | 0 => exact z0_pk rfl (u_known hz ki_0 (z0_in (i := 78) (n := 8) hts (by decide +kernel)))
  | 1 => exact z0_pk rfl (u_known hz ki_1 (z0_in (i := 119) (n := 2) hts (by decide +kernel)))
  | 2 => exact z0_pk rfl (u_known hz ki_2 (z0_in (i := 158) (n := 6) hts (by decide +kernel)))
  | 3 => exact z0_pk rfl (u_known hz ki_3 (z0_in (i := 134) (n := 5) hts (by decide +kernel)))
  | 4 => exact z0_pk rfl (u_known hz ki_4 (z0_in (i := 71) (n := 1) hts (by decide +kernel)))
  | 5 => exact z0_pk rfl (u_known hz ki_5 (z0_in (i := 126) (n := 9) hts (by decide +kernel)))
  | 6 => exact z0_pk rfl (u_known hz ki_6 (z0_in (i := 232) (n := 2) hts (by decide +kernel)))
  | 7 => exact z0_pk rfl (u_known hz ki_7 (z0_in (i := 61) (n := 5) hts (by decide +kernel)))
  | 8 => exact z0_pk rfl (u_known hz ki_8 (z0_in (i := 1036) (n := 32) hts (by decide +kernel)))
  | c + 9 => exact ⟨(0, fun _ => 0), fun q hq => by simp [zc_cl] at hq⟩
theorem z0_Nw (hts : ∀ w ∈ lw_tbl, w.before A s = true) : ∀ w ∈ zw_N, va_Nw w s := by
  intro w hw
  have h := hts w (List.mem_filter.mp hw).1
  have hk := zw_N_kind w hw
  cases w <;> simp [zw_isN] at hk <;> exact va_tabs (by rfl) rfl h
/-- the world's geometry at the law's entry -/
theorem z0_K (hts : ∀ w ∈ lw_tbl, w.before A s = true) : ∃ G : zg_T, G.2.2.1 = s.heap.size ∧ zm_K G s := by
  obtain ⟨f, hf⟩ := Classical.axiomOfChoice (z0_cls hts)
  obtain ⟨g, hg⟩ := Classical.axiomOfChoice (z0_arrs hts)
  refine ⟨((fun c => (f c).1, fun c => (f c).2), g, s.heap.size, s.heap), rfl, ⟨fun c q hq => hf c q hq, fun k q hq => ?_⟩, z0_Nw hts, Nat.le_refl _, fun q _ => rfl⟩
  have hk : k < 7 := by
    have := (List.getElem?_eq_some_iff.mp hq).1
    simpa [zk_tys] using this
  rw [zk_at _ hk] at hq
  cases hq
  exact hg k
theorem z0_H {G : zg_T} (hts : ∀ w ∈ lw_tbl, w.before A s = true) (hg : (Jvm.Cond.and given_1 narrow_1).before A s = true) (hz : G.2.2.1 = s.heap.size) : zx_H G s s.heap := by
  have hA : ∀ a, a < s.heap.size → ¬ zm_A G a := fun a h h' => by
    have : G.2.2.1 ≤ a := h'
    omega
  refine ⟨zx_Z.of (hts _ (List.mem_of_getElem? (i := 302) (by decide +kernel))) (flat_of_before _ hg _ (by decide +kernel)) hA, zx_Z.of (hts _ (List.mem_of_getElem? (i := 304) (by decide +kernel))) (flat_of_before _ hg _ (by decide +kernel)) hA, fun q hq cell hc => ?_⟩
  have := (Array.getElem?_eq_some_iff.mp hc).1
  omega
theorem z0_cell (cA : ClassId) (a : vp_A) : (vp_cell cA a).vm.isStatics = false := by
  obtain ⟨n, f | f | f | f | f⟩ := a <;> rfl
/-- nothing but the places lies above -/
theorem z0_up {G : zg_T} {M : zm_T} {H : Heap} {locs : List Loc} (h0 : zx_H G s s.heap) (hz : G.2.2.1 = s.heap.size) (hI : zm_I G 183 zs M s H locs) (hH : H.size = G.2.2.1 + 183) : zx_H G s H := by
  refine h0.grow (fun q h1 h2 => hI.2.2.1 q h1 h2) (fun q hq cell hc => ?_)
  have hlt := (Array.getElem?_eq_some_iff.mp hc).1
  obtain ⟨a, rfl⟩ : ∃ a, q = G.2.2.1 + a := ⟨q - G.2.2.1, by omega⟩
  have ha := hI.1 a _ (zm_w_at (by omega))
  unfold zm_cell at ha
  split at ha
  · have ha : H[G.2.2.1 + a]? = some (vp_cell _ _) := ha
    rw [hc] at ha
    cases ha
    exact z0_cell _ _
  · obtain ⟨r, -, cl, q1, -, q3, -⟩ := ha
    rw [hc] at q1
    cases q1
    rw [q3]; rfl
end ZG0

/-! One world for both systems. A place is a number; the cell of place a lies at address z0 + a. What a cell is (sh) is apart from what it holds (M). -/
/-- what the cells hold: ints (fields and elements), references (as places), longs; by place and slot -/
abbrev zm_T : Type := (Nat → Nat → Int32) × (Nat → Nat → Option Nat) × (Nat → Nat → Int64)
/-- classes and slots as the launch has them; classes of arrays by kind; the first address; the heap at the start -/
abbrev zg_T : Type := va_G × (Nat → ClassId) × Nat × Heap
def zm_ui (M : zm_T) (a k : Nat) (v : Int32) : zm_T := (fun b j => if b = a ∧ j = k then v else M.1 b j, M.2)
def zm_ur (M : zm_T) (a k : Nat) (v : Option Nat) : zm_T := (M.1, fun b j => if b = a ∧ j = k then v else M.2.1 b j, M.2.2)
def zm_ul (M : zm_T) (a k : Nat) (v : Int64) : zm_T := (M.1, M.2.1, fun b j => if b = a ∧ j = k then v else M.2.2 b j)
/-- an array's contents: kinds 0 int, 1 boolean, 2 long, 3 and on references -/
def zm_arr (z0 k : Nat) (M : zm_T) (a : Nat) : (Nat → Int32) ⊕ (Nat → Int64) ⊕ (Nat → UInt32) ⊕ (Nat → UInt64) ⊕ (Nat → Option Nat) :=
  if k < 2 then .inl (M.1 a) else if k = 2 then .inr (.inl (M.2.2 a)) else .inr (.inr (.inr (.inr (fun j => (M.2.1 a j).map (fun b => z0 + b)))))
def zm_fld (z0 : Nat) (fr : Nat → Bool) (M : zm_T) (a k : Nat) : Value := if fr k = true then va_rf ((M.2.1 a k).map (fun b => z0 + b)) else .int (M.1 a k)
def zc_N (cl : List vw_C) (ci : Nat) : Nat := match cl[ci]? with
  | some r => r.2.2
  | none => 0
def zc_isr (d : String) : Bool := match d.toList with
  | c :: _ => c == 'L' || c == '['
  | [] => false
def zc_ref (cl : List vw_C) (ci k : Nat) : Bool := match cl[ci]? with
  | some r => zc_isr (r.2.1 k).2.2.1
  | none => false
/-- kinds below 10: arrays; 10 + ci: an object of class ci -/
def zm_cell (G : zg_T) (cl : List vw_C) (sh : Nat → Nat × Nat) (M : zm_T) (a : Nat) : va_E :=
  if (sh a).1 < 10 then .inl (G.2.1 (sh a).1, (sh a).2, zm_arr G.2.2.1 (sh a).1 M a)
  else .inr ((sh a).1 - 10, (List.range (zc_N cl ((sh a).1 - 10))).map (zm_fld G.2.2.1 (zc_ref cl ((sh a).1 - 10)) M a))
def zm_w (G : zg_T) (cl : List vw_C) (nc : Nat) (sh : Nat → Nat × Nat) (M : zm_T) : va_W := (List.range nc).map (fun a => (G.2.2.1 + a, zm_cell G cl sh M a))
def zm_A (G : zg_T) : Nat → Prop := fun q => G.2.2.1 ≤ q
section ZW
variable {G : zg_T} {cl : List vw_C} {nc : Nat} {sh : Nat → Nat × Nat} {M : zm_T}
theorem zm_w_at {a : Nat} (h : a < nc) : (zm_w G cl nc sh M)[a]? = some (G.2.2.1 + a, zm_cell G cl sh M a) := by
  simp [zm_w, h]
theorem zm_w_inv {k : Nat} {q : Nat × va_E} (h : (zm_w G cl nc sh M)[k]? = some q) : k < nc ∧ q = (G.2.2.1 + k, zm_cell G cl sh M k) := by
  by_cases hk : k < nc
  · rw [zm_w_at hk] at h
    exact ⟨hk, (Option.some.inj h).symm⟩
  · simp [zm_w, hk] at h
theorem zm_D : va_D (zm_A G) (zm_w G cl nc sh M) := by
  refine ⟨fun i j x y hi hj hxy => ?_, fun k q hk => ?_⟩
  · obtain ⟨-, rfl⟩ := zm_w_inv hi
    obtain ⟨-, rfl⟩ := zm_w_inv hj
    have : G.2.2.1 + i = G.2.2.1 + j := hxy
    omega
  · obtain ⟨-, rfl⟩ := zm_w_inv hk
    show G.2.2.1 ≤ G.2.2.1 + k
    omega
theorem zm_w_set {M' : zm_T} {a : Nat} {E : va_E} (hE : zm_cell G cl sh M' a = E) (ho : ∀ b, b ≠ a → zm_cell G cl sh M' b = zm_cell G cl sh M b) : (zm_w G cl nc sh M).set a (G.2.2.1 + a, E) = zm_w G cl nc sh M' := by
  apply List.ext_getElem?
  intro i
  by_cases hi : i < nc
  · rw [List.getElem?_set]
    by_cases hai : a = i
    · subst hai
      rw [if_pos rfl, if_pos (by simp [zm_w, hi]), zm_w_at (M := M') hi, hE]
    · rw [if_neg hai, zm_w_at hi, zm_w_at hi, ho i (fun h => hai h.symm)]
  · have h1 : (zm_w G cl nc sh M').length ≤ i := by simp [zm_w]; omega
    have h2 : ((zm_w G cl nc sh M).set a (G.2.2.1 + a, E)).length ≤ i := by simp [zm_w]; omega
    rw [List.getElem?_eq_none h1, List.getElem?_eq_none h2]
theorem zm_obj {a ci n : Nat} (hs : sh a = (10 + ci, n)) : zm_cell G cl sh M a = .inr (ci, (List.range (zc_N cl ci)).map (zm_fld G.2.2.1 (zc_ref cl ci) M a)) := by
  have h1 : ¬ 10 + ci < 10 := by omega
  have h2 : 10 + ci - 10 = ci := by omega
  simp only [zm_cell, hs, h1, if_false, h2]
theorem zm_ar {a k n : Nat} (hk : k < 10) (hs : sh a = (k, n)) : zm_cell G cl sh M a = .inl (G.2.1 k, n, zm_arr G.2.2.1 k M a) := by
  simp only [zm_cell, hs, hk, if_true]
theorem zm_ui_o {a k : Nat} {v : Int32} {b : Nat} (h : b ≠ a) : zm_cell G cl sh (zm_ui M a k v) b = zm_cell G cl sh M b := by
  have e : (zm_ui M a k v).1 b = M.1 b := by funext j; simp [zm_ui, h]
  have e2 : (zm_ui M a k v).2 = M.2 := rfl
  unfold zm_cell zm_arr
  rw [e, e2]
  have e3 : ∀ fr, zm_fld G.2.2.1 fr (zm_ui M a k v) b = zm_fld G.2.2.1 fr M b := by
    intro fr; funext j; unfold zm_fld; rw [e, e2]
  rw [e3]
theorem zm_ur_o {a k : Nat} {v : Option Nat} {b : Nat} (h : b ≠ a) : zm_cell G cl sh (zm_ur M a k v) b = zm_cell G cl sh M b := by
  have e : (zm_ur M a k v).2.1 b = M.2.1 b := by funext j; simp [zm_ur, h]
  have e1 : (zm_ur M a k v).1 = M.1 := rfl
  have e2 : (zm_ur M a k v).2.2 = M.2.2 := rfl
  unfold zm_cell zm_arr
  rw [e, e1, e2]
  have e3 : ∀ fr, zm_fld G.2.2.1 fr (zm_ur M a k v) b = zm_fld G.2.2.1 fr M b := by
    intro fr; funext j; unfold zm_fld; rw [e, e1]
  rw [e3]
theorem zm_ul_o {a k : Nat} {v : Int64} {b : Nat} (h : b ≠ a) : zm_cell G cl sh (zm_ul M a k v) b = zm_cell G cl sh M b := by
  have e : (zm_ul M a k v).2.2 b = M.2.2 b := by funext j; simp [zm_ul, h]
  have e1 : (zm_ul M a k v).1 = M.1 := rfl
  have e2 : (zm_ul M a k v).2.1 = M.2.1 := rfl
  unfold zm_cell zm_arr
  rw [e, e1, e2]
  have e3 : ∀ fr, zm_fld G.2.2.1 fr (zm_ul M a k v) b = zm_fld G.2.2.1 fr M b := by
    intro fr; funext j; unfold zm_fld; rw [e1, e2]
  rw [e3]
theorem zm_set_fi {a ci n k : Nat} {v : Int32} (hs : sh a = (10 + ci, n)) (hr : zc_ref cl ci k = false) :
    (zm_w G cl nc sh M).set a (G.2.2.1 + a, .inr (ci, ((List.range (zc_N cl ci)).map (zm_fld G.2.2.1 (zc_ref cl ci) M a)).set k (.int v))) = zm_w G cl nc sh (zm_ui M a k v) := by
  refine zm_w_set ?_ (fun b hb => zm_ui_o hb)
  rw [zm_obj hs]
  congr 2
  apply List.ext_getElem?
  intro j
  rw [List.getElem?_set]
  by_cases hj : j < zc_N cl ci
  · by_cases hkj : k = j
    · subst hkj
      simp [hj, zm_fld, hr, zm_ui]
    · have : ¬ j = k := fun h => hkj h.symm
      simp [hj, hkj, zm_fld, zm_ui, this]
  · by_cases hkj : k = j <;> simp [hj, hkj]
theorem zm_set_fr {a ci n k : Nat} {v : Option Nat} (hs : sh a = (10 + ci, n)) (hr : zc_ref cl ci k = true) :
    (zm_w G cl nc sh M).set a (G.2.2.1 + a, .inr (ci, ((List.range (zc_N cl ci)).map (zm_fld G.2.2.1 (zc_ref cl ci) M a)).set k (va_rf (v.map (fun b => G.2.2.1 + b))))) = zm_w G cl nc sh (zm_ur M a k v) := by
  refine zm_w_set ?_ (fun b hb => zm_ur_o hb)
  rw [zm_obj hs]
  congr 2
  apply List.ext_getElem?
  intro j
  rw [List.getElem?_set]
  by_cases hj : j < zc_N cl ci
  · by_cases hkj : k = j
    · subst hkj
      simp [hj, zm_fld, hr, zm_ur]
    · have : ¬ j = k := fun h => hkj h.symm
      simp [hj, hkj, zm_fld, zm_ur, this]
  · by_cases hkj : k = j <;> simp [hj, hkj]
theorem zm_set_ai {a n i kd : Nat} {v : Int32} (hk : kd < 2) (hs : sh a = (kd, n)) :
    (zm_w G cl nc sh M).set a (G.2.2.1 + a, .inl (G.2.1 kd, n, .inl (upd (M.1 a) i v))) = zm_w G cl nc sh (zm_ui M a i v) := by
  refine zm_w_set ?_ (fun b hb => zm_ui_o hb)
  rw [zm_ar (by omega) hs]
  have e : (zm_ui M a i v).1 a = upd (M.1 a) i v := by funext j; simp [zm_ui, upd]
  simp only [zm_arr, hk, if_true, e]
theorem zm_set_al {a n i : Nat} {v : Int64} (hs : sh a = (2, n)) :
    (zm_w G cl nc sh M).set a (G.2.2.1 + a, .inl (G.2.1 2, n, .inr (.inl (vp_updL (M.2.2 a) i v)))) = zm_w G cl nc sh (zm_ul M a i v) := by
  refine zm_w_set ?_ (fun b hb => zm_ul_o hb)
  rw [zm_ar (by omega) hs]
  have e : (zm_ul M a i v).2.2 a = vp_updL (M.2.2 a) i v := by funext j; simp [zm_ul, vp_updL]
  simp [zm_arr, e]
theorem zm_set_ar {a n i kd : Nat} {v : Nat} (hk : 2 < kd) (hk2 : kd < 10) (hs : sh a = (kd, n)) :
    (zm_w G cl nc sh M).set a (G.2.2.1 + a, .inl (G.2.1 kd, n, .inr (.inr (.inr (.inr (va_up (fun j => (M.2.1 a j).map (fun b => G.2.2.1 + b)) i (some (G.2.2.1 + v)))))))) = zm_w G cl nc sh (zm_ur M a i (some v)) := by
  refine zm_w_set ?_ (fun b hb => zm_ur_o hb)
  rw [zm_ar hk2 hs]
  have h1 : ¬ kd < 2 := by omega
  have h2 : ¬ kd = 2 := by omega
  have e : (fun j => ((zm_ur M a i (some v)).2.1 a j).map (fun b => G.2.2.1 + b)) = va_up (fun j => (M.2.1 a j).map (fun b => G.2.2.1 + b)) i (some (G.2.2.1 + v)) := by
    funext j
    by_cases hj : j = i <;> simp [zm_ur, va_up, hj]
  simp only [zm_arr, h1, h2, if_false, e]
end ZW

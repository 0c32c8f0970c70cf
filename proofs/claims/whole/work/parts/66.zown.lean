/-! What a throw needs of the state beside the table's words, and that every call keeps it. -/
def zx_up : List String := ["java/lang/RuntimeException", "java/lang/Exception"]
/-- the exceptions: class, index of the class, index of its constructor -/
def zx_X : List (String × Nat × Nat) := [("java/lang/IndexOutOfBoundsException", 34, 36), ("java/lang/IllegalStateException", 41, 43), ("java/lang/IllegalArgumentException", 48, 50), ("java/util/NoSuchElementException", 92, 94)]
def zx_W : List Cond := (zx_X.map (fun q => (Bundle.ownAtoms0 "StripMixer" q.2.2 q.1 zx_up).filter Cond.onTables)).flatten
theorem zx_W_on : ∀ w ∈ zx_W, w.onTables = true := by
  intro w hw
  obtain ⟨l, hl, hw⟩ := List.mem_flatten.mp hw
  obtain ⟨q, -, rfl⟩ := List.mem_map.mp hl
  exact (List.mem_filter.mp hw).2
theorem zx_W_face : ∀ w ∈ zx_W, w.keepsFace = true := by
  intro w hw
  obtain ⟨l, hl, hw⟩ := List.mem_flatten.mp hw
  obtain ⟨q, -, rfl⟩ := List.mem_map.mp hl
  exact Bundle.ownAtoms0_keepsFace w (List.mem_filter.mp hw).1
def zx_rv (v : Value) : Prop := (∃ a, v = .ref a) ∨ v = .null
/-- a static field that holds a reference, in a cell that was there before -/
def zx_Z (C n d : String) (G : zg_T) (U : State) (H : Heap) : Prop := ∃ (c : ClassId) (k : Class) (i : Nat) (f : Field) (a : Nat) (cell : Cell) (v : Value), U.vm.findClass C = some c ∧ U.fieldFound? C n d = some (c, k, i, f) ∧ f.isStatic = true ∧ k.statics = some a ∧ H[a]? = some cell ∧ cell.vm.isStatics = true ∧ cell.cls = c ∧ f.slot < cell.slots.size ∧ k.staticTypes[f.slot]? = some f.type ∧ cell.slots[f.slot]? = some v ∧ zx_rv v ∧ ¬ zm_A G a
theorem zx_Z.moved {C n d : String} {G : zg_T} {u U : State} {H : Heap} (hvm : u.vm.Alike U.vm) (h : zx_Z C n d G u H) : zx_Z C n d G U H := by
  obtain ⟨c, k, i, f, a, cell, v, h0, h1, h2, h3, h4, h5, h6, h7, h8, h9⟩ := h
  obtain ⟨k', hi', he⟩ := State.fieldFound?_setVm hvm h1
  exact ⟨c, k', i, f, a, cell, v, by rw [hvm.findClass]; exact h0, hi', h2, by rw [he]; exact h3, h4, h5, h6, h7, by rw [he]; exact h8, h9⟩
theorem zx_Z.kept {C n d : String} {G : zg_T} {U : State} {H H1 : Heap} (h : zx_Z C n d G U H) (hq : ∀ a : Nat, a < H.size → ¬ zm_A G a → H1[a]? = H[a]?) : zx_Z C n d G U H1 := by
  obtain ⟨c, k, i, f, a, cell, v, h0, h1, h2, h3, h4, h5, h6, h7, h8, h9, h10, h11⟩ := h
  exact ⟨c, k, i, f, a, cell, v, h0, h1, h2, h3, by rw [hq a (Array.getElem?_eq_some_iff.mp h4).1 h11]; exact h4, h5, h6, h7, h8, h9, h10, h11⟩
/-- out of the words at a start, where nothing of ours is there yet -/
theorem zx_Z.of {C n d : String} {G : zg_T} {U : State} {A : Array Value} (hl : (Cond.laysStatic C n d).before A U = true) (hr : (Cond.isRef (.static C n d)).before A U = true) (hA : ∀ a, a < U.heap.size → ¬ zm_A G a) : zx_Z C n d G U U.heap := by
  obtain ⟨c, k, i, f, a, cell, h0, h1, h2, h3, h4, h5, h6, h7, h8⟩ := Cond.laysStatic_spec hl
  have hs : cell.slots[f.slot]? = some cell.slots[f.slot] := Array.getElem?_eq_getElem h7
  have e : (Term.static C n d).eval A U none [] U = some cell.slots[f.slot] := by
    simp [Term.eval, State.fieldNamed?, h1, h2, h3, h4, h5]
  refine ⟨c, k, i, f, a, cell, _, h0, h1, h2, h3, h4, h5, h6, h7, h8, hs, ?_, hA a (Array.getElem?_eq_some_iff.mp h4).1⟩
  simp only [Cond.before, Cond.holds, Cond.value, e] at hr
  generalize cell.slots[f.slot] = v at hr
  cases v with
  | ref b => exact Or.inl ⟨b, rfl⟩
  | null => exact Or.inr rfl
  | _ => simp at hr
/-- the heap's part -/
def zx_H (G : zg_T) (U : State) (H : Heap) : Prop :=
  zx_Z "java/lang/Throwable" "UNASSIGNED_STACK" "[Ljava/lang/StackTraceElement;" G U H ∧
  zx_Z "java/lang/Throwable" "SUPPRESSED_SENTINEL" "Ljava/util/List;" G U H ∧
  ∀ q, G.2.2.1 ≤ q → ∀ cell, H[q]? = some cell → cell.vm.isStatics = false
/-- the tables' part -/
def zx_T (U : State) : Prop := (∀ w ∈ zx_W, w.before #[] U = true) ∧
  ∀ x ∈ zx_X, ∀ y ∈ zx_X, x.1 ≠ y.1 → ∃ i j, U.vm.findClass x.1 = some i ∧ U.vm.findClass y.1 = some j ∧ U.vm.assignable i j = false
theorem zx_T.moved {s U : State} (hW : s.WarmedH U.vm) (h : zx_T s) : zx_T U := by
  refine ⟨fun w hw => ?_, fun x hx y hy hn => ?_⟩
  · have h1 := Cond.before_shiftedFace (State.Shifted.of_warmed hW) w (zx_W_face w hw) (h.1 w hw)
    exact va_tabs (u := s.setVm U.vm) (U := U) (zx_W_on w hw) rfl h1
  · obtain ⟨i, j, h1, h2, h3⟩ := h.2 x hx y hy hn
    have ha := hW.alike
    exact ⟨i, j, by rw [ha.findClass]; exact h1, by rw [ha.findClass]; exact h2, by rw [ha.assignable]; exact h3⟩
theorem zx_H.moved {G : zg_T} {s U : State} {H : Heap} (hW : s.vm.Alike U.vm) (h : zx_H G s H) : zx_H G U H := by
  exact ⟨h.1.moved hW, h.2.1.moved hW, h.2.2⟩
/-- the heap grew by cells that hold no statics, or not at all -/
theorem zx_H.grow {G : zg_T} {s : State} {H H1 : Heap} (h : zx_H G s H) (hz : ∀ q : Nat, q < H.size → ¬ zm_A G q → H1[q]? = H[q]?) (hn : ∀ q, G.2.2.1 ≤ q → ∀ cell, H1[q]? = some cell → cell.vm.isStatics = false) : zx_H G s H1 := by
  exact ⟨h.1.kept hz, h.2.1.kept hz, hn⟩
def zx_O (G : zg_T) (U : State) : Prop := zx_T U ∧ zx_H G U U.heap
/-- a call that made nothing keeps it -/
theorem zx_O.kept {G : zg_T} {s t : State} {L : List Loc} (h : zx_O G s) (hW : s.WarmedH t.vm) (hs : s.sameButNew ({ t with vm := s.vm } : State) L 0 0) (hL : ∀ q ∈ L, zm_A G q.base) : zx_O G t := by
  refine ⟨h.1.moved hW, (zx_H.grow h.2 ?_ ?_).moved hW.alike⟩
  · intro q hq hA
    have hc : s.heap[q]? = some s.heap[q] := Array.getElem?_eq_getElem hq
    obtain ⟨c', h1, h2, -, h4⟩ := hs.2.2.2.2.2 q _ hc
    have h1' : t.heap[q]? = some c' := h1
    rw [h1', hc, h2]
    have e : c'.slots = s.heap[q].slots := by
      apply Array.ext_getElem?
      intro i
      exact h4 i (fun hm => hA (hL _ hm))
    rw [e]
  · intro q hq cell hc
    have hsz : t.heap.size ≤ s.heap.size + 0 := hs.2.2.1
    have hlt : q < s.heap.size := by
      have := (Array.getElem?_eq_some_iff.mp hc).1
      omega
    have hc0 : s.heap[q]? = some s.heap[q] := Array.getElem?_eq_getElem hlt
    obtain ⟨c', h1, h2, -, -⟩ := hs.2.2.2.2.2 q _ hc0
    have h1' : t.heap[q]? = some c' := h1
    rw [h1'] at hc
    cases hc
    rw [h2]
    exact (h.2.2.2 q hq _ hc0 : s.heap[q].vm.isStatics = false)
theorem zx_Z.isRef {G : zg_T} {U : State} {C n d : String} {args : Array Value} (h : zx_Z C n d G U U.heap) : (Cond.isRef (.static C n d)).before args U = true := by
  obtain ⟨c, k, i, f, a, cell, v, h0, h1, h2, h3, h4, h5, h6, h7, h8, h9, h10, h11⟩ := h
  have e : (Term.static C n d).eval args U none [] U = some v := by
    rw [Array.getElem?_eq_getElem h7] at h9
    simp [Term.eval, State.fieldNamed?, h1, h2, h3, h4, h5, h7, Option.some.inj h9]
  simp only [Cond.before, Cond.holds, Cond.value, e]
  rcases h10 with ⟨b, rfl⟩ | rfl <;> rfl
theorem zx_Z.lays {G : zg_T} {U : State} {C n d : String} {args : Array Value} (h : zx_Z C n d G U U.heap) : (Cond.laysStatic C n d).before args U = true := by
  obtain ⟨c, k, i, f, a, cell, v, h0, h1, h2, h3, h4, h5, h6, h7, h8, h9, h10, h11⟩ := h
  simp [Cond.before, Cond.holds, Cond.value, h0, h1, h2, h3, h4, h5, h6, h7, h8]
def zx_Uw : List Cond := [.laysStatic "java/lang/Throwable" "UNASSIGNED_STACK" "[Ljava/lang/StackTraceElement;", .laysStatic "java/lang/Throwable" "SUPPRESSED_SENTINEL" "Ljava/util/List;", .isRef (.static "java/lang/Throwable" "UNASSIGNED_STACK" "[Ljava/lang/StackTraceElement;"), .isRef (.static "java/lang/Throwable" "SUPPRESSED_SENTINEL" "Ljava/util/List;")]
theorem zx_two : zx_X.all (fun q => (Bundle.ownAtoms0 "StripMixer" q.2.2 q.1 zx_up).all (fun w => w.onTables || zx_Uw.any (fun v => decide (v = w)))) = true := by decide +kernel
/-- every word that a throw asks -/
theorem zx_O.words {G : zg_T} {U : State} {args : Array Value} {cls : String} {index ic : Nat} (h : zx_O G U) (hq : (cls, index, ic) ∈ zx_X) : ∀ w ∈ Bundle.ownAtoms0 "StripMixer" ic cls zx_up, w.before args U = true := by
  intro w hw
  by_cases ho : w.onTables = true
  · have : w ∈ zx_W := List.mem_flatten.mpr ⟨_, List.mem_map.mpr ⟨_, hq, rfl⟩, List.mem_filter.mpr ⟨hw, ho⟩⟩
    exact va_tabs ho rfl (h.1.1 w this)
  · have h1 := List.all_eq_true.mp (List.all_eq_true.mp zx_two _ hq) w hw
    simp only [Bool.or_eq_true, List.any_eq_true, decide_eq_true_eq] at h1
    rcases h1 with h1 | ⟨v, hv, rfl⟩
    · exact absurd h1 ho
    · simp only [zx_Uw, List.mem_cons, List.not_mem_nil, or_false] at hv
      rcases hv with rfl | rfl | rfl | rfl
      · exact h.2.1.lays
      · exact h.2.2.1.lays
      · exact h.2.1.isRef
      · exact h.2.2.1.isRef

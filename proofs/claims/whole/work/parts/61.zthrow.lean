/-! The end of a method that throws an exception of its own making. -/
section ZT
variable {p : Program} {l : Launch} {e : Env} {R : Room} {s : State} {m : MethodId} {args : Array Value} {below : List Frame} {meth : Method} {c : Code} {H : Heap} {locs : List Loc} {cells slots : Nat} {Q : State → Prop}
variable {cc : ByteArray} {pc nL : Nat} {ls : Array Slot} {rest : List Value} {own : String}
variable {G : zg_T} {nc : Nat} {sh : Nat → Nat × Nat} {M : zm_T}
/-- no cell that was made here holds statics -/
def zx_ns (G : zg_T) (s : State) : Prop := ∀ q, G.2.2.1 ≤ q → ∀ cell, s.heap[q]? = some cell → cell.vm.isStatics = false
/-- where nothing may have been written, every cell is as it was -/
theorem zx_same {s U : State} {k n : Nat} (h : s.sameButNew U [] k n) {q : Nat} {c : Cell} (hc : s.heap[q]? = some c) : U.heap[q]? = some c := by
  obtain ⟨c', h1, h2, -, h4⟩ := h.2.2.2.2.2 q c hc
  have e : c'.slots = c.slots := by
    apply Array.ext_getElem?
    intro i
    exact h4 i (by intro hm; cases hm)
  rw [h1, h2, e]
theorem zx_throw (hS : CallFix p m c cc nL s args zw_T own) (hlk : meth.locks = false) (htr : e.platform.stackTraces = false) (hns : zx_ns G s) (hI : zm_I G nc sh M s H locs)
    {cls : String} {names : List String} {ic index : Nat} (hl : ls.size = nL)
    (hclink : (Cond.classLink own index cls).before args s = true) (hins : (Cond.instantiable cls 6).before args s = true) (hini : (Cond.initialized cls).before args s = true)
    (hat : ∀ a ∈ Bundle.ownAtoms0 own ic cls names, a.before args s = true) (hcls : Bundle.fit cls = true) (hnames : ∀ n ∈ names, Bundle.fit n = true)
    (hex : c.exceptionTable.toList = []) (hRf : names.length + 3 < R.frames) (hRl : (rest.map fun v => v.category).sum + 1 + (13 * (names.length + 1) + 41) ≤ R.locals) (hRc : cells + 1 ≤ R.cells) (hRs : slots + 6 ≤ R.slots)
    (hd0 : decode cc pc = .ok (.new index, 3)) (hd3 : decode cc (pc + 3) = .ok (.dup, 1)) (hd4 : decode cc (pc + 3 + 1) = .ok (.invokespecial ic, 3)) (hd7 : decode cc (pc + 3 + 1 + 3) = .ok (.athrow, 1))
    (hq : ∀ (U : State) (a : Addr) (ce : Cell), U.status = .running → Ended U below (.threw a) → s.WarmedH U.vm → s.sameButNew ({ U with vm := s.vm } : State) locs (cells + 1) (slots + 6) → U.heap[a]? = some ce → s.vm.findClass cls = some ce.cls → ce.vm = .none → a = H.size → Q U) :
    W p l e R s m args below meth c H locs cells slots Q (F0 m pc ls rest) := by
  obtain ⟨cX, kX, hfX, hkX, hkd, -, -, hn6⟩ := Cond.instantiable_spec hins
  refine W.newcK hS.1 hS.2.1 hS.2.2.2.1 hclink hins hini rfl hd0 hRc hRs hfX rfl (fun H' kC hkC hcell hsz hlow => ?_)
  refine lv_dup hS.1 hS.2.1 hd3 rfl ?_
  intro T hT X
  obtain ⟨U, st, hrun, hend, hW, hsame, ce, hce, hown⟩ := X.ctorThrow0 hS.1 htr (own := own) (cls := cls) (names := names) (ic := ic) hS.2.2.2.1 hcls hnames hat
    (fun x hx cell hc => hns x.base (hI.2.2.2 x hx) cell hc) (a := H.size) hfX hkC (by rw [hT]; exact hcell) (by exact hI.2.1) (g := F0 m (pc + 3 + 1) ls (.ref H.size :: .ref H.size :: rest)) rfl (hl.trans hS.2.2.1.symm) rfl rfl rfl
    (by rw [hS.2.1]; exact hd4) (by rw [hS.2.1]; exact hd7) (fun x hx => by rw [hex] at hx; cases hx) hRf (by show 2 * 0 + _ + _ ≤ _; simp only [List.map_cons, List.sum_cons]; show 2 * 0 + (1 + _) + _ ≤ _; omega) hlk
  exact ⟨U, st, hq U H.size ce hrun hend hW hsame hce hown.cls hown.vm rfl⟩
end ZT

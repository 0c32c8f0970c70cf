/-! A handler of the caller's own table: the search through rows whose classes link, cold or warm. -/
section ZK
variable {e : Env} {args : Array Value} {own : String}
/-- the row x, asked of a thrown object: it takes it, or the search goes on; the tables know x's class from now on -/
theorem zk_row {Q : Handler → Pre} {E : CtlPost} {d : Bool} {acts : List Action} {S : State} {f : JFrame} {a : Addr} {x : ExceptionTableEntry} {t : List ExceptionTableEntry} {c : ClassId} {cell : Cell} (hx : covers x f.pc = true) (h0 : x.catchType ≠ 0)
    (hl : S.vm.ClassLinks e.platform f.method.cls x.catchType c) (hcell : S.heap[a]? = some cell) (hobj : cell.vm = .none) (hk : ∃ k, S.vm.classes[cell.cls]? = some k) (hc : ∃ k, S.vm.classes[c]? = some k) :
    wp (findHandler.go f a (x :: t)) Q E e d acts S ↔ if S.vm.assignable cell.cls c = true then Q (.found x.handlerPc) d acts (S.setVm (S.vm.noted f.method.cls x.catchType (.cls c))) else wp (findHandler.go f a t) Q E e d acts (S.setVm (S.vm.noted f.method.cls x.catchType (.cls c))) := by
  simp only [covers] at hx
  obtain ⟨hy, ht⟩ := (resolveClass_links e.toSetting hl).op (op := VmOp.resolveClass f.method.cls x.catchType) rfl
  have hal : S.vm.Alike (S.vm.noted f.method.cls x.catchType (.cls c)) := (Vm.Alike.refl S.vm).noted _ _ _
  obtain ⟨k1, g1⟩ := hk
  obtain ⟨k2, g2⟩ := hc
  obtain ⟨k3, g3, -⟩ := hal.2.2 _ _ g1
  obtain ⟨k4, g4, -⟩ := hal.2.2 _ _ g2
  have hfit : (S.vm.noted f.method.cls x.catchType (.cls c)).assignable cell.cls c = S.vm.assignable cell.cls c := hal.assignable _ _
  cases hq : S.vm.assignable cell.cls c <;>
    simp [findHandler.go, hx, h0, hy, ht, hcell, hobj, g3, g4, hfit, hq, VmOp.dirties, VmOp.acts]
/-- the rows that are passed, and the one that takes it: h is its handler -/
def zk_R (s : State) (args : Array Value) (own : String) (pc : Nat) (thrown : ClassId) : List ExceptionTableEntry → Nat → Prop
  | [], _ => False
  | x :: t, h => covers x pc = true ∧ x.catchType ≠ 0 ∧ ∃ (name : String) (c : ClassId), (Cond.classLink own x.catchType name).before args s = true ∧ s.vm.findClass name = some c ∧ ((s.vm.assignable thrown c = true ∧ h = x.handlerPc) ∨ (s.vm.assignable thrown c = false ∧ zk_R s args own pc thrown t h))
theorem zk_search {l : Launch} {s : State} {f : JFrame} {a : Addr} {cell : Cell} {h : Nat} (ha : l.admits e) (hown : s.vm.findClass own = some f.method.cls) (hobj : cell.vm = .none) (hk : ∃ k, s.vm.classes[cell.cls]? = some k) :
    ∀ (t : List ExceptionTableEntry) (S : State), s.WarmedH S.vm → S.heap[a]? = some cell → zk_R s args own f.pc cell.cls t h →
      ∃ vm', s.WarmedH vm' ∧ ∀ (Q : Handler → Pre) (E : CtlPost) (d : Bool) (acts : List Action), wp (findHandler.go f a t) Q E e d acts S ↔ Q (.found h) d acts (S.setVm vm')
  | [], _, _, _, hr => False.elim hr
  | x :: t, S, hW, hcell, hr => by
    obtain ⟨hx, h0, name, c, hlink, hc, hr⟩ := hr
    have hpl : e.platform.magicAccessors = ({} : Platform).magicAccessors := by rw [ha.platform]
    obtain ⟨c', hc', hcl⟩ := Cond.classLink_spec hown hlink e.platform hpl
    cases hc.symm.trans hc'
    obtain ⟨dk, _, _, kt, hd, _, _, _, _, hkt, _, hopen⟩ := hcl.here
    have hal := hW.alike
    obtain ⟨k0, hk0⟩ := hk
    obtain ⟨k1, hk1, -⟩ := hal.2.2 _ _ hk0
    obtain ⟨k2, hk2, -⟩ := hal.2.2 _ _ hkt
    have hW' : s.WarmedH (S.vm.noted f.method.cls x.catchType (.cls c)) := hW.noted hd hopen (State.rightAt_cls hcl)
    have hasg : S.vm.assignable cell.cls c = s.vm.assignable cell.cls c := hal.assignable _ _
    have key := fun (Q : Handler → Pre) (E : CtlPost) (d : Bool) (acts : List Action) => zk_row (Q := Q) (E := E) (e := e) (d := d) (acts := acts) (t := t) hx h0 (hW.classLinks hcl) hcell hobj ⟨k1, hk1⟩ ⟨k2, hk2⟩
    rw [hasg] at key
    rcases hr with ⟨hy, rfl⟩ | ⟨hn, hr⟩
    · refine ⟨_, hW', fun Q E d acts => ?_⟩
      rw [key, if_pos hy]
    · obtain ⟨vm', h1, h2⟩ := zk_search ha hown hobj ⟨k0, hk0⟩ t (S.setVm (S.vm.noted f.method.cls x.catchType (.cls c))) hW' hcell hr
      refine ⟨vm', h1, fun Q E d acts => ?_⟩
      rw [key, if_neg (by rw [hn]; decide), h2]
      rfl
/-- the frame goes on at its handler, with the thrown object alone on its stack -/
theorem zk_caught {tb : Tables} {s target : State} {g : JFrame} {c : Code} {below : List Frame} {a : Addr} (h : At s g.method c below) {pc : Nat} {vm' : Vm}
    (hfind : ∀ (Q : Handler → Pre) (E : CtlPost) (d : Bool) (acts : List Action), wp (findHandler g a) Q E e d acts ((s.setTop g).pushFrame (.throwing a)) ↔ Q (.found pc) d acts (((s.setTop g).pushFrame (.throwing a)).setVm vm'))
    (hrest : Steps tb e below ((s.setVm vm').setTop { g with pc := pc, stack := [.ref a] }) target) : Steps tb e below ((s.setTop g).pushFrame (.throwing a)) target := by
  obtain ⟨hgo, hw⟩ := h.throwing a
  refine Steps.head hgo hw ?_
  have hstep : ∀ r, (stepThrowing e ((s.setTop g).pushFrame (.throwing a)) a (.java g :: r)).Is ((((s.setTop g).pushFrame (.throwing a)).setVm vm').setFrames (.java { g with pc := pc, stack := [.ref a] } :: r)) [] := by
    intro r
    simp only [stepThrowing, searchFrame, vmDo]
    generalize hq : Sem.go _ e false [] ((s.setTop g).pushFrame (.throwing a)) = res
    obtain ⟨as, rfl, has⟩ := Sem.eq_ok_of hq (a := Handler.found pc) (s' := ((s.setTop g).pushFrame (.throwing a)).setVm vm') (acts' := []) (by simp [hfind])
    exact ⟨rfl, has⟩
  rw [stepThread_throwing (frames_entered h.top _), (hstep _).1]
  obtain ⟨g₀, hg⟩ := Option.isSome_iff_exists.mp h.top
  obtain ⟨r, hr⟩ := State.topJava?_eq_some.mp hg
  have hr' : (s.setVm vm').frames = .java g₀ :: r := hr
  have e1 : (((s.setTop g).pushFrame (.throwing a)).setVm vm').setFrames (.java { g with pc := pc, stack := [.ref a] } :: s.frames.tail) = (s.setVm vm').setTop { g with pc := pc, stack := [.ref a] } := by
    rw [State.setTop_of_frames _ hr', hr]
    rw [State.setTop_of_frames _ hr]
    show (((s.setFrames (.java g :: r)).setFrames _).setVm vm').setFrames _ = (s.setVm vm').setFrames _
    rw [State.setFrames_setFrames]
    show ((s.setVm vm').setFrames _).setFrames _ = _
    rw [State.setFrames_setFrames]
    rfl
  rw [e1]
  exact hrest
end ZK

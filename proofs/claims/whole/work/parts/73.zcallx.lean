/-! A call of a method that may throw, out of a method with handlers. -/
section ZJ
variable {p : Program} {l : Launch} {e : Env} {R : Room} {s : State} {m : MethodId} {args : Array Value} {below : List Frame} {meth : Method} {c : Code} {H : Heap} {locs : List Loc} {cells slots : Nat} {Q : State → Prop}
variable {y : MethodName} {bytes cc : ByteArray} {maxL nL n index : Nat} {ret : Option FieldType} {ws : List Cond} {rm : Room} {Pc : Array Value → State → Prop} {Qc : Array Value → State → Outcome → State → Prop} {free : Addr → Prop} {Ts : List Cond} {own C : String} {b : Addr} {As rest : List Value} {g : JFrame}
theorem zj_call (S : CallFix p m c cc nL s args Ts own) (hM : zx_M l y ws rm Pc Qc) (cw : CallW R s args own C index y bytes maxL ret ws rm 1 6 n) (hp : PreV s H C b Pc As)
    (hg : g.method = m) (hn : As.length = n) (hsize : g.locals.size = nL) (hstack : g.stack = As.reverse ++ .ref b :: rest) (hW : 2 * g.monitorRoom + (rest.map fun v => v.category).sum ≤ 8) (hdg : decode cc g.pc = .ok (.invokevirtual index, 3)) (hf : cells + 1 ≤ R.cells ∧ slots + 6 ≤ R.slots)
    (hQ : ∀ a st o t, Qc a st o t → st.WarmedH t.vm ∧ ∃ L, st.sameButNew ({ t with vm := st.vm } : State) L 1 6 ∧ ∀ q ∈ L, free q.base)
    {T : State} (hT : T.heap = H) (X : Stand p l e R s m args below meth c T locs cells slots) :
    ∃ (o : Outcome) (st₀ t T' : State) (L : List Loc), st₀.heap = H ∧ Stand p l e R s m args below meth c T' (locs ++ L) (cells + 1) (slots + 6) ∧ (∀ q ∈ L, free q.base) ∧ T'.heap = t.heap ∧ T'.vm = t.vm ∧ Qc (Value.ref b :: As).toArray st₀ o t ∧
      (∀ v, o = .returned v → Goes p e below T g T' { g with pc := g.pc + 3, stack := v.toList ++ rest }) ∧
      (∀ a, o = .threw a → ∀ target, Steps p.tables e below ((T'.setTop { g with stack := rest }).pushFrame (.throwing a)) target → Steps p.tables e below (T.setTop g) target) := by
  obtain ⟨⟨hrc, hrs, hfr, hlo, hws, hcm, hcode, hinit, hy, hlen, hl⟩, hin, hse⟩ := cw
  obtain ⟨hx, hb, hml, ho, -⟩ := S
  obtain ⟨hblind, ⟨cellB, hcB, hoB, hclB⟩, hPc⟩ := hp
  obtain ⟨mk, methM, hnamed, hmethM, hstM, habM⟩ := Cond.instanceMethod_spec hin
  obtain ⟨methM', cM, hmethM', hcM, -, hmlM, -, -, -, hsigM⟩ := Cond.code_spec hnamed hcode
  cases hmethM.symm.trans hmethM'
  obtain ⟨c2, r2, m2, q1, q2, q3, q4, kP, hkP, hkPi⟩ := Cond.selects_spec hse
  cases hclB.symm.trans q1
  cases (State.methodFound?_of_named hnamed hy).symm.trans q2
  cases hnamed.symm.trans q3
  have hselP : selectMethod e.platform s.vm cellB.cls mk = .method mk := by rw [Launch.admits_selectMethod X.admits]; exact q4
  obtain ⟨vm₁, X₁, hstep₁⟩ := X.invokevirtual hx ho hl hnamed hmethM hstM hkP hkPi hy (a := b) (cell := cellB) (by rw [hT]; exact hcB)
    (fun z h => by rw [h] at hoB; cases hoB) hselP hmethM habM hkP hkPi (g := g) hg (argsL := As) (rest := rest) (hn.trans (hlen _ hsigM)) hstack (by rw [hb]; exact hdg)
  obtain ⟨U, hU⟩ : ∃ U, T.setVm vm₁ = U := ⟨_, rfl⟩
  rw [hU] at X₁ hstep₁
  have hUh : U.heap = H := by rw [← hU]; exact hT
  obtain ⟨g', hg'⟩ : ∃ g', ({ g with stack := rest } : JFrame) = g' := ⟨_, rfl⟩
  have hgm : g'.method = m := by rw [← hg']; exact hg
  have hgs : g'.locals.size = c.maxLocals := by rw [← hg', hml]; exact hsize
  have hgp : g'.pc = g.pc := by rw [← hg']
  have hgw : 2 * g'.monitorRoom + (g'.stack.map fun v => v.category).sum ≤ 8 := by rw [← hg']; exact hW
  have hnU : U.methodNamed? y = some mk := X₁.named hnamed
  have hdU : decode c.code g'.pc = .ok (.invokevirtual index, 3) := by rw [hb, hgp]; exact hdg
  obtain ⟨methY, cY, hmY, hcY, -, hlY, -⟩ := Cond.code_spec (s := U) (args := args) hnU (hws _ hcm args U X₁.warmed)
  obtain ⟨kY, hkY, -⟩ := className_of_methodNamed hnU
  have hinitY : kY.init = .initialized := by
    have hal := X₁.warmed.alike
    obtain ⟨kS, hkS, hnS⟩ := className_of_methodNamed hnamed
    have h1 : kS.init = .initialized := Cond.initialized_spec (findClass_of_methodNamed hnamed) hkS hinit
    obtain ⟨k', hk', he⟩ := hal.2.2 _ _ hkS
    cases hkY.symm.trans hk'
    rw [he]; exact h1
  have h : At U g'.method c below := by rw [hgm]; exact X₁.here
  have happ : (headSpec ws rm).appliesLoose y e.platform (U.calling g' mk (Value.ref b :: As).toArray) = true :=
    Spec.appliesLoose_calling (g := g') h hdU hnU hkY hinitY
      (X₁.room_calling (g := g') (R' := (headSpec ws rm).room) hgs hmY hcY hfr (by rw [hlY]; show _ + _ + (maxL + 11) + rm.locals ≤ _; omega) (by show cells + rm.cells ≤ _; rw [hrc]; exact hf.1) (by show slots + rm.slots ≤ _; rw [hrs]; exact hf.2)) (atoms_intro fun w hw => hws w hw _ _ X₁.warmed)
  obtain ⟨mid, hmid⟩ := h.above
  have hfrm : (U.setTop g').frames = (.java g' :: mid) ++ below := by rw [State.frames_setTop' g' h.top, hmid]; rfl
  obtain ⟨o, s₂, hsteps, hrun, hend, hq⟩ := Steps.callFree hM p X₁.admits X₁.cas X₁.clock (acts := []) hfrm happ (hblind _ _ _ _ (hPc U hUh X₁.warmed)) trivial
  have hq' : Qc (Value.ref b :: As).toArray (U.calling g' mk (Value.ref b :: As).toArray) o s₂ := hq
  rw [State.frames_setTop' g' h.top] at hend
  obtain ⟨hW₂, L, hsame, hL⟩ := hQ _ _ _ _ hq'
  obtain ⟨e2, f2, f3, f4, f5, f6⟩ := hsame
  have e3 : s₂ = ({ (U.calling g' mk (Value.ref b :: As).toArray).setFrames s₂.frames with heap := s₂.heap, slotsUsed := s₂.slotsUsed } : State).setVm s₂.vm := by
    have h9 : s₂ = ({ s₂ with vm := (U.calling g' mk (Value.ref b :: As).toArray).vm } : State).setVm s₂.vm := rfl
    rw [e2] at h9
    exact h9
  have hW' : U.WarmedH s₂.vm := hW₂
  obtain ⟨g₀, hg0⟩ := Option.isSome_iff_exists.mp h.top
  obtain ⟨r, hr⟩ := State.topJava?_eq_some.mp hg0
  have hsame' : U.sameButNew ({ U with heap := s₂.heap, slotsUsed := s₂.slotsUsed } : State) L 1 6 := by
    refine ⟨?_, f2, f3, f4, f5, f6⟩
    obtain ⟨t, ht, -⟩ := State.frames_cons hr
    show ({ U with heap := s₂.heap, slotsUsed := s₂.slotsUsed } : State) = { U.setFrames U.frames with heap := s₂.heap, slotsUsed := s₂.slotsUsed }
    rw [State.setFrames_self ht]
  obtain ⟨T', hT'⟩ : ∃ T', (({ U with heap := s₂.heap, slotsUsed := s₂.slotsUsed } : State).setVm s₂.vm) = T' := ⟨_, rfl⟩
  have hr' : T'.frames = .java g₀ :: r := by rw [← hT']; exact hr
  have X' : Stand p l e R s m args below meth c T' (locs ++ L) (cells + 1) (slots + 6) := by
    rw [← hT']
    exact ⟨X₁.admits, X₁.cas, X₁.clock, X₁.frames, X₁.room, X₁.hears, X₁.method, X₁.code, (X₁.here.setHeapUsed s₂.heap s₂.slotsUsed).setVm hW'.alike, X₁.tail, State.WarmedH.trans X₁.warmed hW', X₁.limits, X₁.bytes, X₁.same.trans (hsame'.setVm s.vm)⟩
  have hgo : ∀ target, Steps p.tables e below s₂ target → Steps p.tables e below (T.setTop g) target := fun target ht => hstep₁ _ fun acts => by
    rw [doInvoke_state]
    rw [hg']
    exact hsteps.trans ht
  have hs₂ : ∀ F, s₂.frames = F → s₂ = T'.setFrames F := fun F hF => by
    rw [← hT']
    refine e3.trans ?_
    rw [hF, State.calling_eq h.top, State.setFrames_setFrames]
    rfl
  refine ⟨o, U.calling g' mk (Value.ref b :: As).toArray, s₂, T', L, hUh, X', hL, by rw [← hT']; rfl, by rw [← hT']; rfl, hq', ?_, ?_⟩
  · rintro v rfl target ht
    obtain ⟨c₂, i₂, len₂, hc₂, hd₂, hf₂⟩ := hend
    have hcc : c₂ = c := by
      have h1 : s₂.code? g'.method = U.code? g'.method := by
        rw [State.code?_eq, State.code?_eq, hW'.alike.method?]
      exact Option.some.inj (hc₂.symm.trans (h1.trans h.code))
    subst hcc
    have hlen : len₂ = 3 := by rw [hdU] at hd₂; cases hd₂; rfl
    subst hlen
    refine hgo target ?_
    have h8 : s₂ = T'.setTop { g with pc := g.pc + 3, stack := v.toList ++ rest } := by
      rw [State.setTop_of_frames _ hr', hs₂ _ hf₂, hr, ← hg']
      rfl
    rw [h8]
    exact ht
  · rintro a rfl target ht
    refine hgo target ?_
    have h8 : s₂ = (T'.setTop g').pushFrame (.throwing a) := by
      rw [State.setTop_of_frames _ hr', hs₂ _ hend, State.pushFrame, hr, State.setFrames_setFrames]
      rw [State.frames_setFrames _ (State.cur_lt_of_frames hr')]
      rfl
    rw [h8, ← hg']
    exact ht
end ZJ

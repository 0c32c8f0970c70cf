/-! Methods that may throw: a contract whose end is free, and how a body gives it. -/
section ZX
variable {p : Program} {l : Launch} {e : Env} {R : Room} {s : State} {m : MethodId} {args : Array Value} {below : List Frame} {meth : Method} {c : Code} {H : Heap} {locs : List Loc} {cells slots : Nat} {g : JFrame}
theorem zx_mono {Q Q' : State → Prop} (h : ∀ t, Q t → Q' t) (k : W p l e R s m args below meth c H locs cells slots Q g) : W p l e R s m args below meth c H locs cells slots Q' g := by
  intro T hT X
  obtain ⟨t, a, b⟩ := k T hT X
  exact ⟨t, a, h t b⟩
/-- a contract with a free end -/
def zx_M (l : Launch) (y : MethodName) (ws : List Cond) (rm : Room) (Pc : Array Value → State → Prop) (Q : Array Value → State → Outcome → State → Prop) : Prop := MetFree l y (headSpec ws rm) Pc (fun _ _ _ _ _ => True) Q
/-- what a body must reach -/
def zx_E (below : List Frame) (Q : Array Value → State → Outcome → State → Prop) (a : Array Value) (s : State) : State → Prop := fun t => ∃ o, t.status = .running ∧ Ended t below o ∧ Q a s o t
theorem zx_metF {y : MethodName} {ws ws' : List Cond} {rm : Room} {Pc : Array Value → State → Prop} {Q : Array Value → State → Outcome → State → Prop} {cc : ByteArray} {maxL : Nat} {ret : Option FieldType}
    (hy : plainFor y = true) (hw : ws = Cond.code y cc maxL ret :: ws')
    (body : ∀ p e s m args below meth c s₁, BodyLoose p l y (headSpec ws rm) cc maxL ret e s m args below meth c s₁ → c.maxLocals = maxL → Pc args s →
      W p l e (headSpec ws rm).room s m args below meth c s.heap [] 0 0 (zx_E below Q args s) (entryFrame m args maxL)) : zx_M l y ws rm Pc Q := by
  refine MetFree.of_bodySF (code := cc) (maxLocals := maxL) (ret := ret) hy ?_ ?_
  · intro args s m h hn
    obtain ⟨meth, c, h1, h2, h3, h4, h5, h6, -, -⟩ := Cond.code_spec hn (atoms_spec (ws := ws) h _ (by rw [hw]; exact List.mem_cons_self))
    exact ⟨meth, c, h1, h2, h3, h4, h5, h6⟩
  · intro p e s m args below meth c s₁ B hml hP _
    have hh0 : s₁.heap = s.heap := by rw [B.state]; rfl
    obtain ⟨t, a1, o, b1, b2, b3⟩ := body p e s m args below meth c s₁ B hml hP s₁ hh0 (Stand.of_body B)
    exact ⟨t, o, a1, b1, b2, b3⟩
/-- a contract out of a walk of the method's body; cm, sm: what it may make -/
theorem zx_met {y : MethodName} {bytes : ByteArray} {maxL d cm sm : Nat} {ret : Option FieldType} {G : zg_T} {nc : Nat} {sh : Nat → Nat × Nat} {M : zm_T} {Q : Array Value → State → Outcome → State → Prop} {vs : List Value} (hy : plainFor y = true) (hlen : (lg_sl vs).length ≤ maxL)
    (body : ∀ (p : Program) (e : Env) (s : State) (m : MethodId) (below : List Frame) (meth : Method) (c : Code) (ls : Array Slot), l.admits e → CallFix p m c bytes maxL s vs.toArray zw_T y.cls → zm_K G s → meth.locks = false → meth.sig.returnType = ret → lv_has ls maxL (lv_args 0 vs) → zm_I G nc sh M s s.heap [] →
      W p l e { frames := d, cells := cm, slots := sm, locals := 60 * d } s m vs.toArray below meth c s.heap [] 0 0 (zx_E below Q vs.toArray s) (F0 m 0 ls [])) :
    zx_M l y (zr_ws y bytes maxL ret) { frames := d, cells := cm, slots := sm, locals := 60 * d } (va_Pc vs (zm_B G nc sh M)) Q := by
  refine zx_metF (cc := bytes) (maxL := maxL) (ret := ret) hy rfl ?_
  intro p e s m args below meth c s₁ B hml hv
  obtain ⟨rfl, hB⟩ := hv
  have hts := atoms_spec (ws := zr_ws y bytes maxL ret) B.pre
  have hl := lv_entry vs (n := maxL) hlen
  rw [lg_entry_eq]
  exact body p e s m below meth c _ B.admits ⟨B.exec, B.bytes, hml, findClass_of_methodNamed B.named, fun w hw => hts w (List.mem_cons_of_mem _ hw)⟩ hB.2 B.notSynchronized B.returns hl ⟨hB.1, va_S.rf⟩
end ZX

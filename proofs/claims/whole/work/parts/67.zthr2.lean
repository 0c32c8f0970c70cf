/-! Contracts of the class's public methods: they return, or they throw an exception of their own. -/
def zy_B (G : zg_T) (M : zm_T) (U : State) : Prop := zm_B G 183 zs M U ∧ zx_O G U
/-- what a call may make and write -/
def zx_F (G : zg_T) (st t : State) : Prop := st.WarmedH t.vm ∧ ∃ L, st.sameButNew ({ t with vm := st.vm } : State) L 1 6 ∧ ∀ q ∈ L, zm_A G q.base
/-- it threw: nothing is changed -/
def zx_Th (G : zg_T) (exc : String → Prop) (M : zm_T) (o : Outcome) (t : State) : Prop := ∃ (a : Addr) (cls : String) (ce : Cell), o = .threw a ∧ exc cls ∧ t.heap[a]? = some ce ∧ t.vm.findClass cls = some ce.cls ∧ ce.vm = .none ∧ zy_B G M t
def zx_Qv (G : zg_T) (exc : String → Prop) (post : zm_T → Prop) (M : zm_T) : Array Value → State → Outcome → State → Prop := fun _ st o t =>
  zx_F G st t ∧ ((∃ M', o = .returned none ∧ post M' ∧ zy_B G M' t) ∨ zx_Th G exc M o t)
def zx_Qi (G : zg_T) (exc : String → Prop) (post : Int32 → zm_T → Prop) (M : zm_T) : Array Value → State → Outcome → State → Prop := fun _ st o t =>
  zx_F G st t ∧ ((∃ r M', o = .returned (some (.int r)) ∧ post r M' ∧ zy_B G M' t) ∨ zx_Th G exc M o t)
def zx_Ql (G : zg_T) (exc : String → Prop) (post : Int64 → zm_T → Prop) (M : zm_T) : Array Value → State → Outcome → State → Prop := fun _ st o t =>
  zx_F G st t ∧ ((∃ r M', o = .returned (some (.long r)) ∧ post r M' ∧ zy_B G M' t) ∨ zx_Th G exc M o t)
theorem zx_F.of0 {G : zg_T} {s t : State} {o : Outcome} (h : ∃ L, FrameEnd s o t L 0 0 ∧ ∀ q ∈ L, zm_A G q.base) : zx_F G s t := by
  obtain ⟨L, ⟨-, h1, h2⟩, h3⟩ := h
  exact ⟨h1, L, ⟨h2.1, h2.2.1, by have := h2.2.2.1; omega, h2.2.2.2.1, by have := h2.2.2.2.2.1; omega, h2.2.2.2.2.2⟩, h3⟩
theorem zx_O.of0 {G : zg_T} {s t : State} {o : Outcome} (hO : zx_O G s) (h : ∃ L, FrameEnd s o t L 0 0 ∧ ∀ q ∈ L, zm_A G q.base) : zx_O G t := by
  obtain ⟨L, ⟨-, h1, h2⟩, h3⟩ := h
  exact hO.kept h1 h2 h3
section ZU
variable {G : zg_T} {s : State} {below : List Frame} {args : Array Value} {exc : String → Prop} {M : zm_T}
theorem zx_rv' {post : zm_T → Prop} (hO : zx_O G s) (t : State) (h : MQ below (va_Qv post (zm_B G 183 zs) (zm_A G)) args s 0 0 (zm_A G) t) : zx_E below (zx_Qv G exc post M) args s t := by
  obtain ⟨o, h1, h2, ⟨⟨M', h3, h4, h5⟩, -⟩, h6⟩ := h
  exact ⟨o, h1, h2, zx_F.of0 h6, Or.inl ⟨M', h3, h4, h5, hO.of0 h6⟩⟩
theorem zx_ri' {post : Int32 → zm_T → Prop} (hO : zx_O G s) (t : State) (h : MQ below (va_Qi post (zm_B G 183 zs) (zm_A G)) args s 0 0 (zm_A G) t) : zx_E below (zx_Qi G exc post M) args s t := by
  obtain ⟨o, h1, h2, ⟨⟨r, M', h3, h4, h5⟩, -⟩, h6⟩ := h
  exact ⟨o, h1, h2, zx_F.of0 h6, Or.inl ⟨r, M', h3, h4, h5, hO.of0 h6⟩⟩
theorem zx_rl' {post : Int64 → zm_T → Prop} (hO : zx_O G s) (t : State) (h : MQ below (va_Ql post (zm_B G 183 zs) (zm_A G)) args s 0 0 (zm_A G) t) : zx_E below (zx_Ql G exc post M) args s t := by
  obtain ⟨o, h1, h2, ⟨⟨r, M', h3, h4, h5⟩, -⟩, h6⟩ := h
  exact ⟨o, h1, h2, zx_F.of0 h6, Or.inl ⟨r, M', h3, h4, h5, hO.of0 h6⟩⟩
variable {p : Program} {l : Launch} {e : Env} {R : Room} {m : MethodId} {meth : Method} {c : Code} {cc : ByteArray} {pc nL : Nat} {ls : Array Slot} {rest : List Value}
theorem zx_thr {Q : Array Value → State → Outcome → State → Prop} {cls : String} {index ic : Nat} (hS : CallFix p m c cc nL s args zw_T "StripMixer") (hlk : meth.locks = false) (hex : c.exceptionTable.toList = []) (htr : e.platform.stackTraces = false) (hK : zm_K G s) (hO : zx_O G s) (hI : zm_I G 183 zs M s s.heap [])
    (hq : (cls, index, ic) ∈ zx_X) (hl : ls.size = nL) (hrest : (rest.map fun v => v.category).sum = 0)
    (hcl : Cond.classLink "StripMixer" index cls ∈ zw_T) (hin : Cond.instantiable cls 6 ∈ zw_T) (hini : Cond.initialized cls ∈ zw_T) (hfit : Bundle.fit cls = true)
    (hRf : 6 ≤ R.frames) (hRl : 120 ≤ R.locals) (hRc : 1 ≤ R.cells) (hRs : 6 ≤ R.slots)
    (hd0 : decode cc pc = .ok (.new index, 3)) (hd3 : decode cc (pc + 3) = .ok (.dup, 1)) (hd4 : decode cc (pc + 3 + 1) = .ok (.invokespecial ic, 3)) (hd7 : decode cc (pc + 3 + 1 + 3) = .ok (.athrow, 1))
    (hQ : ∀ (o : Outcome) (t : State), zx_F G s t → zx_Th G (· = cls) M o t → Q args s o t) :
    W p l e R s m args below meth c s.heap [] 0 0 (zx_E below Q args s) (F0 m pc ls rest) := by
  refine zx_throw (G := G) (nc := 183) (sh := zs) (M := M) (cls := cls) (names := zx_up) (ic := ic) (index := index) hS hlk htr hO.2.2.2 hI hl (hS.2.2.2.2 _ hcl) (hS.2.2.2.2 _ hin) (hS.2.2.2.2 _ hini) (hO.words hq) hfit (by decide +kernel) hex
    (by show 2 + 3 < _; omega) (by rw [hrest]; show 0 + 1 + (13 * 3 + 41) ≤ _; omega) (by omega) (by omega) hd0 hd3 hd4 hd7 ?_
  intro U a ce hrun hend hW hsame hce hcls hvm ha
  have hold : ∀ q : Nat, q < s.heap.size → U.heap[q]? = s.heap[q]? := fun q hq => by
    have hc : s.heap[q]? = some s.heap[q] := Array.getElem?_eq_getElem hq
    obtain ⟨c', h1, h2, -, h4⟩ := hsame.2.2.2.2.2 q _ hc
    have h1' : U.heap[q]? = some c' := h1
    have e1 : c'.slots = s.heap[q].slots := by
      apply Array.ext_getElem?
      intro i
      exact h4 i (by intro hm; cases hm)
    rw [h1', hc, h2, e1]
  have hsz : U.heap.size ≤ s.heap.size + (0 + 1) := hsame.2.2.1
  have hO' : zx_O G U := by
    refine ⟨hO.1.moved hW, (zx_H.grow hO.2 (fun q hq _ => hold q hq) ?_).moved hW.alike⟩
    intro q hq cell hc
    by_cases hlt : q < s.heap.size
    · rw [hold q hlt] at hc
      exact hO.2.2.2 q hq cell hc
    · have h2 := (Array.getElem?_eq_some_iff.mp hc).1
      have hqa : q = a := by rw [ha]; omega
      rw [hqa] at hc
      rw [hce] at hc
      cases hc
      rw [hvm]
      rfl
  have hB : zm_B G 183 zs M U := by
    have hP : va_P G.1 zc_cl (zm_w G zc_cl 183 zs M) U.heap := fun k q hq => (hI.1 k q hq).kept (hold q.1 (hI.1 k q hq).lt)
    obtain ⟨k1, k2, k3, k4⟩ := hK
    exact ⟨hP, k1.moved hW.alike, zw_N_moved hW k2, Nat.le_trans k3 hsame.2.1, fun q hq => by rw [hold q (by omega)]; exact k4 q hq⟩
  refine ⟨.threw a, hrun, hend, hQ _ _ ⟨hW, [], hsame, fun q hq => by cases hq⟩ ⟨a, cls, ce, rfl, rfl, hce, ?_, hvm, hB, hO'⟩⟩
  rw [hW.alike.findClass]
  exact hcls
/-- a contract out of a walk of the method's body, exception table empty -/
theorem zx_metY {y : MethodName} {bytes : ByteArray} {maxL d : Nat} {ret : Option FieldType} {Q : Array Value → State → Outcome → State → Prop} {vs : List Value} (hfl : l.flags = Jvm.pinnedFlags ++ [Jvm.noTraceFlag]) (hy : plainFor y = true) (hlen : (lg_sl vs).length ≤ maxL)
    (body : ∀ (p : Program) (e : Env) (s : State) (m : MethodId) (below : List Frame) (meth : Method) (c : Code) (ls : Array Slot), e.platform.stackTraces = false → CallFix p m c bytes maxL s vs.toArray zw_T y.cls → zm_K G s → zx_O G s → c.exceptionTable.toList = [] → meth.locks = false → meth.sig.returnType = ret → lv_has ls maxL (lv_args 0 vs) → zm_I G 183 zs M s s.heap [] →
      W p l e { frames := d, cells := 1, slots := 6, locals := 60 * d } s m vs.toArray below meth c s.heap [] 0 0 (zx_E below Q vs.toArray s) (F0 m 0 ls [])) :
    zx_M l y (zr_ws y bytes maxL ret) { frames := d, cells := 1, slots := 6, locals := 60 * d } (va_Pc vs (zy_B G M)) Q := by
  refine zx_metF (cc := bytes) (maxL := maxL) (ret := ret) hy rfl ?_
  intro p e s m args below meth c s₁ B hml hv
  obtain ⟨rfl, hB, hO⟩ := hv
  have hts := atoms_spec (ws := zr_ws y bytes maxL ret) B.pre
  have hl := lv_entry vs (n := maxL) hlen
  have hex : c.exceptionTable.toList = [] := by
    obtain ⟨meth', c', h1, h2, -, -, -, -, h7, -⟩ := Cond.code_spec B.named (hts _ List.mem_cons_self)
    have h3 : s₁.code? m = some c' := by
      have h4 : s₁.vm = s.vm := by rw [B.state]; rfl
      rw [State.code?_eq, h4, h1]
      exact h2
    cases B.here.code.symm.trans h3
    simpa using h7
  rw [lg_entry_eq]
  exact body p e s m below meth c _ (Launch.traces_off hfl B.admits) ⟨B.exec, B.bytes, hml, findClass_of_methodNamed B.named, fun w hw => hts w (List.mem_cons_of_mem _ hw)⟩ hB.2 hO hex B.notSynchronized B.returns hl ⟨hB.1, va_S.rf⟩
end ZU
theorem zx_Th.to {G : zg_T} {exc : String → Prop} {M : zm_T} {o : Outcome} {t : State} {cls : String} (h : zx_Th G (· = cls) M o t) (he : exc cls) : zx_Th G exc M o t := by
  obtain ⟨a, c, ce, h1, rfl, h3⟩ := h
  exact ⟨a, c, ce, h1, he, h3⟩
def zxI : String := "java/lang/IndexOutOfBoundsException"
def zxS : String := "java/lang/IllegalStateException"
def zxA : String := "java/lang/IllegalArgumentException"
def zxN : String := "java/util/NoSuchElementException"
/-- a number of a take, a clip, a strip, and where it lies -/
theorem zt_tk {M : zm_T} (hL : zL M.2) {t : Int32} (h : ¬ zf_in t 0 7 = 0) : vp_in t 8 ∧ M.2.1 1 t.toNatClampNeg = some (135 + 2 * t.toNatClampNeg) ∧ (135 + 2 * t.toNatClampNeg < 183 ∧ zs (135 + 2 * t.toNatClampNeg) = (10 + 6, 0)) ∧ t.toNatClampNeg < 8 ∧ nI t.toNatClampNeg = t := by
  obtain ⟨n, hn, rfl⟩ := zf_in_n (n := 7) (by decide) h
  rw [zn_cl (by omega)]
  exact ⟨vp_in_nI (by omega) (by decide), (zL_tk hL (by omega)).1, ⟨by omega, (zs_tk n (by omega)).1⟩, by omega, rfl⟩
theorem zt_cl {M : zm_T} (hL : zL M.2) {c : Int32} (h : ¬ zf_has M c = 0) : vp_in c 16 ∧ M.2.1 3 c.toNatClampNeg = some (4 + c.toNatClampNeg) ∧ (4 + c.toNatClampNeg < 183 ∧ zs (4 + c.toNatClampNeg) = (10 + 0, 0)) ∧ c.toNatClampNeg < 16 ∧ nI c.toNatClampNeg = c := by
  have h' : ¬ zf_in c 0 15 = 0 := fun e => h (by simp [zf_has, e])
  obtain ⟨n, hn, rfl⟩ := zf_in_n (n := 15) (by decide) h'
  rw [zn_cl (by omega)]
  exact ⟨vp_in_nI (by omega) (by decide), zL_cl hL (by omega), ⟨by omega, zs_cl n (by omega)⟩, by omega, rfl⟩
theorem zt_st {M : zm_T} (hL : zL M.2) {s : Int32} (h : ¬ zf_in s 0 7 = 0) : vp_in s 8 ∧ M.2.1 21 s.toNatClampNeg = some (23 + 14 * s.toNatClampNeg) ∧ (23 + 14 * s.toNatClampNeg < 183 ∧ zs (23 + 14 * s.toNatClampNeg) = (10 + 5, 0)) ∧ s.toNatClampNeg < 8 ∧ nI s.toNatClampNeg = s := by
  obtain ⟨n, hn, rfl⟩ := zf_in_n (n := 7) (by decide) h
  rw [zn_cl (by omega)]
  exact ⟨vp_in_nI (by omega) (by decide), (zL_st hL (by omega)).1, ⟨by omega, zs_st0 n (by omega)⟩, by omega, rfl⟩
theorem zt_in {x lo hi : Int32} : ¬ zf_in x lo hi = 0 ↔ lo.toInt ≤ x.toInt ∧ x.toInt ≤ hi.toInt := by
  unfold zf_in
  by_cases h1 : x < lo
  · rw [if_pos h1]
    rw [Int32.lt_iff_toInt_lt] at h1
    constructor
    · intro h; exact absurd rfl h
    · intro h; omega
  · rw [if_neg h1]
    rw [Int32.lt_iff_toInt_lt] at h1
    by_cases h2 : hi < x
    · rw [if_pos h2]
      rw [Int32.lt_iff_toInt_lt] at h2
      constructor
      · intro h; exact absurd rfl h
      · intro h; omega
    · rw [if_neg h2]
      rw [Int32.lt_iff_toInt_lt] at h2
      constructor
      · intro h; omega
      · intro h; decide
theorem zt_nI {x : Int32} (h1 : 0 ≤ x.toInt) : nI x.toNatClampNeg = x ∧ (x.toNatClampNeg : Int) = x.toInt := by
  have h2 : x.toInt < 2147483648 := Int32.toInt_lt x
  have e : x = nI x.toInt.toNat := Int32.toInt_inj.mp (by rw [nI_toInt (by omega)]; omega)
  have e2 : x.toNatClampNeg = x.toInt.toNat := by
    have : (nI x.toInt.toNat).toNatClampNeg = x.toInt.toNat := zn_cl (by omega)
    rw [← e] at this
    exact this
  rw [e2]
  exact ⟨e.symm, by omega⟩

/-! The law's wrappers: a row for the call, a contract out of the walk. -/
def zy_I (G : zg_T) (M : zm_T) (s : State) (H : Heap) (locs : List Loc) : Prop := zm_I G 183 zs M s H locs ∧ zx_H G s H
def zj_n (k : Nat) : String := if k = 13 then zxI else if k = 15 then zxS else if k = 21 then zxA else if k = 35 then zxN else ""
/-- the handler of cls in the table hh for pc -/
def zj_D (cls : String) (pc : Nat) : List (Nat × Nat × Nat × Nat) → Option Nat
  | [] => none
  | (a, b, h, k) :: t => if a ≤ pc ∧ pc < b ∧ (k = 13 ∨ k = 15 ∨ k = 21 ∨ k = 35) then (if zj_n k = cls then some h else zj_D cls pc t) else none
def zx_Q0 (G : zg_T) (exc : String → Prop) (post : Option Value → zm_T → Prop) (M : zm_T) (st : State) (o : Outcome) (t : State) : Prop :=
  zx_F G st t ∧ ((∃ v M', o = .returned v ∧ post v M' ∧ zy_B G M' t) ∨ zx_Th G exc M o t)
theorem zj_X {k : Nat} (hk : k = 13 ∨ k = 15 ∨ k = 21 ∨ k = 35) : ∃ i j, (zj_n k, i, j) ∈ zx_X := by
  rcases hk with rfl | rfl | rfl | rfl
  · exact ⟨34, 36, by decide⟩
  · exact ⟨41, 43, by decide⟩
  · exact ⟨48, 50, by decide⟩
  · exact ⟨92, 94, by decide⟩
theorem zj_L {k : Nat} (hk : k = 13 ∨ k = 15 ∨ k = 21 ∨ k = 35) : Cond.classLink "StripMixerLaw" k (zj_n k) ∈ zw_T := by
  rcases hk with rfl | rfl | rfl | rfl
  · exact zw_mem (i := 266) (by decide +kernel) rfl
  · exact zw_mem (i := 267) (by decide +kernel) rfl
  · exact zw_mem (i := 367) (by decide +kernel) rfl
  · exact zw_mem (i := 433) (by decide +kernel) rfl
theorem zj_self {s : State} (hX : zx_T s) {q : String × Nat × Nat} (hq : q ∈ zx_X) : ∃ i, s.vm.findClass q.1 = some i ∧ s.vm.assignable i i = true := by
  have hw : Cond.castable q.1 q.1 ∈ zx_W := by
    refine List.mem_flatten.mpr ⟨_, List.mem_map.mpr ⟨q, hq, rfl⟩, List.mem_filter.mpr ⟨?_, rfl⟩⟩
    simp [Bundle.ownAtoms0]
  obtain ⟨c, t, h1, h2, h3⟩ := Cond.castable_spec (hX.1 _ hw)
  cases h1.symm.trans h2
  exact ⟨c, h1, h3⟩
theorem zj_R {s : State} {args : Array Value} (hX : zx_T s) (hT : ∀ w ∈ zw_T, w.before args s = true) {cls : String} {i0 j0 : Nat} (hc : (cls, i0, j0) ∈ zx_X) {th : ClassId} (hth : s.vm.findClass cls = some th) {pc h : Nat} :
    ∀ (tb : List ExceptionTableEntry) (hh : List (Nat × Nat × Nat × Nat)), tb.map (fun h => (h.startPc, h.endPc, h.handlerPc, h.catchType)) = hh → zj_D cls pc hh = some h → zk_R s args "StripMixerLaw" pc th tb h
  | [], hh, e, hd => by
    subst e
    exact absurd hd (by simp [zj_D])
  | x :: tb, hh, e, hd => by
    subst e
    simp only [List.map_cons, zj_D] at hd
    by_cases hg : x.startPc ≤ pc ∧ pc < x.endPc ∧ (x.catchType = 13 ∨ x.catchType = 15 ∨ x.catchType = 21 ∨ x.catchType = 35)
    · rw [if_pos hg] at hd
      obtain ⟨g1, g2, g3⟩ := hg
      obtain ⟨i, j, hq⟩ := zj_X g3
      obtain ⟨cc, hcc, hself⟩ := zj_self hX hq
      refine ⟨by simp [covers, g1, g2], by rcases g3 with g | g | g | g <;> rw [g] <;> decide, zj_n x.catchType, cc, hT _ (zj_L g3), hcc, ?_⟩
      by_cases hn : zj_n x.catchType = cls
      · rw [if_pos hn] at hd
        left
        have hcc' : s.vm.findClass (zj_n x.catchType) = some cc := hcc
        rw [hn] at hcc'
        cases hth.symm.trans hcc'
        exact ⟨hself, (Option.some.inj hd).symm⟩
      · rw [if_neg hn] at hd
        right
        obtain ⟨i', j', h1, h2, h3⟩ := hX.2 _ hc _ hq (fun e => hn e.symm)
        cases hth.symm.trans h1
        cases hcc.symm.trans h2
        exact ⟨h3, zj_R hX hT hc hth tb _ rfl hd⟩
    · rw [if_neg hg] at hd
      cases hd
section ZJ
variable {p : Program} {l : Launch} {e : Env} {R : Room} {s : State} {m : MethodId} {args : Array Value} {below : List Frame} {meth : Method} {c : Code} {H : Heap} {locs : List Loc} {cells slots : Nat} {Q : State → Prop}
variable {y : MethodName} {bytes cc : ByteArray} {pc maxL nL n index d : Nat} {ls : Array Slot} {ret : Option FieldType} {Qc : Array Value → State → Outcome → State → Prop} {As rest : List Value} {G : zg_T} {M : zm_T} {exc : String → Prop} {post : Option Value → zm_T → Prop} {hh : List (Nat × Nat × Nat × Nat)}
/-- the world of a state that a call gave, in the caller's walk -/
theorem zy_back (hK : zm_K G s) (hI : zy_I G M s H locs) {M' : zm_T} {t T' : State} {L : List Loc} (hB : zy_B G M' t) (ht : T'.heap = t.heap) (hsz : s.heap.size ≤ T'.heap.size) (hL : ∀ q ∈ L, zm_A G q.base) : zy_I G M' s T'.heap (locs ++ L) := by
  obtain ⟨⟨hP, hKt⟩, hO⟩ := hB
  have hlow : ∀ q : Nat, ¬ zm_A G q → T'.heap[q]? = s.heap[q]? := fun q hq => by
    have h1 : q < G.2.2.1 := Nat.not_le.mp hq
    rw [ht, hKt.2.2.2 q h1, hK.2.2.2 q h1]
  refine ⟨⟨by rw [ht]; exact hP, hsz, fun q _ hq => hlow q hq, fun q hq => ?_⟩, zx_H.grow hI.2 (fun q h1 h2 => ?_) (by rw [ht]; exact hO.2.2.2)⟩
  · rcases List.mem_append.mp hq with h | h
    · exact hI.1.2.2.2 q h
    · exact hL q h
  · rw [hlow q h2]
    have h3 : q < s.heap.size := Nat.lt_of_lt_of_le (Nat.not_le.mp h2) hK.2.2.1
    exact (hI.1.2.2.1 q h3 h2).symm
theorem zy_I.B (hI : zy_I G M s H locs) (hK : zm_K G s) (hX : zx_T s) {U : State} (hU : U.heap = H) (hW : s.WarmedH U.vm) : zy_B G M U := ⟨hI.1.B hK hU hW, hX.moved hW, by rw [hU]; exact hI.2.moved hW.alike⟩
theorem zy_B.blind {vs : List Value} : FrameBlind (va_Pc vs (zy_B G M)) := by
  intro a U g mk h
  obtain ⟨h1, h2, h3, h4⟩ := h
  exact ⟨h1, (zm_B.blind a U g mk ⟨h1, h2⟩).2, ⟨fun w hw => va_tabs (u := U) (U := U.calling g mk a) (zx_W_on w hw) rfl (h3.1 w hw), h3.2⟩, h4.moved (Vm.Alike.refl _)⟩
theorem zj_row (hS : CallFix p m c cc nL s args zw_T "StripMixerLaw") (hK : zm_K G s) (hX : zx_T s) (hM : zx_M l y (zr_ws y bytes maxL ret) { frames := d, cells := 1, slots := 6, locals := 60 * d } (va_Pc (.ref (G.2.2.1 + 0) :: As) (zy_B G M)) Qc) (hQc : ∀ a st o t, Qc a st o t → zx_Q0 G exc post M st o t)
    (hLk : zl_V "StripMixerLaw" index y bytes maxL ret n 7) (hlm : Cond.methodLink "StripMixerLaw" index y ∈ zw_T) (hI : zy_I G M s H locs) (hex : c.exceptionTable.toList.map (fun h => (h.startPc, h.endPc, h.handlerPc, h.catchType)) = hh)
    (hn : As.length = n) (hsize : ls.size = nL) (hW : (rest.map fun v => v.category).sum ≤ 8) (hR : d + 1 ≤ R.frames ∧ 8 + (maxL + 11) + 60 * d ≤ R.locals) (hf : cells + 1 ≤ R.cells ∧ slots + 6 ≤ R.slots) (hdg : decode cc pc = .ok (.invokevirtual index, 3)) {st0 : List Value} (hst : st0 = As.reverse ++ .ref (G.2.2.1 + 0) :: rest)
    (hD : ∀ cls, exc cls → ∃ h i j, zj_D cls pc hh = some h ∧ (cls, i, j) ∈ zx_X)
    (kr : ∀ (v : Option Value) (M' : zm_T) (H : Heap) (locs : List Loc), post v M' → zy_I G M' s H locs → W p l e R s m args below meth c H locs (cells + 1) (slots + 6) Q (F0 m (pc + 3) ls (v.toList ++ rest)))
    (kt : ∀ (cls : String) (h : Nat) (a : Addr) (H : Heap) (locs : List Loc), exc cls → zj_D cls pc hh = some h → zy_I G M s H locs → W p l e R s m args below meth c H locs (cells + 1) (slots + 6) Q (F0 m h ls [.ref a])) :
    W p l e R s m args below meth c H locs cells slots Q (F0 m pc ls st0) := by
  obtain ⟨-, hin, hini, hcode, hd, hsel, TT, NN, hcc⟩ := hLk
  have hT := hS.2.2.2.2
  subst hst
  have hcell : ∃ cellB : Cell, H[G.2.2.1 + 0]? = some cellB ∧ cellB.vm.isStatics = false ∧ s.vm.findClass y.cls = some cellB.cls := by
    have he := hI.1.1 0 _ (zm_w_at (by decide : 0 < 183))
    rw [zm_obj hs_MX] at he
    obtain ⟨r, h1, cell, q1, q2, q3, -⟩ := he
    refine ⟨cell, q1, by rw [q3]; rfl, ?_⟩
    obtain ⟨-, hfc, -⟩ := hK.1.1 7 _ hcc
    rw [q2]
    exact hfc
  have hp : PreV s H y.cls (G.2.2.1 + 0) (va_Pc (.ref (G.2.2.1 + 0) :: As) (zy_B G M)) As := ⟨zy_B.blind, hcell, fun U hU hW => ⟨rfl, hI.B hK hX hU hW⟩⟩
  intro T hT0 X
  obtain ⟨o, st₀, t, T', L, -, X', hL, e1, e2, hq, hret, hthr⟩ := zj_call (free := zm_A G) (g := F0 m pc ls (As.reverse ++ .ref (G.2.2.1 + 0) :: rest)) hS hM ⟨callB_of n hT (zr_good hcode) rfl rfl rfl (hT _ hini) (hT _ hlm) hd hR, hT _ hin, hT _ hsel⟩ hp rfl hn hsize rfl (lv_room hW) hdg hf (fun a st o t h => (hQc a st o t h).1) hT0 X
  obtain ⟨-, hq⟩ := hQc _ _ _ _ hq
  have hsz : s.heap.size ≤ T'.heap.size := X'.same.2.1
  rcases hq with ⟨v, M', rfl, hpo, hB⟩ | ⟨a, cls, ce, rfl, hec, hce, hfc, hvm, hB⟩
  · obtain ⟨t2, a1, b1⟩ := kr v M' T'.heap (locs ++ L) hpo (zy_back hK hI hB e1 hsz hL) T' rfl X'
    exact ⟨t2, hret v rfl t2 a1, b1⟩
  · obtain ⟨h, i, j, hd1, hd2⟩ := hD cls hec
    have hcls : s.vm.findClass cls = some ce.cls := by
      rw [← e2, X'.warmed.alike.findClass] at hfc
      exact hfc
    obtain ⟨k, hk⟩ := Vm.classAt_of_findClass hcls
    have hrow : zk_R s args "StripMixerLaw" pc ce.cls c.exceptionTable.toList h := zj_R hX hT hd2 hcls _ _ hex hd1
    have hceT : T'.heap[a]? = some ce := by rw [e1]; exact hce
    obtain ⟨vm', hW', hfind⟩ := zk_search (e := e) (args := args) (own := "StripMixerLaw") (f := F0 m pc ls rest) (a := a) X'.admits hS.2.2.2.1 hvm ⟨k, hk⟩ c.exceptionTable.toList ((T'.setTop (F0 m pc ls rest)).pushFrame (.throwing a)) (by rw [Stand.throwing_vm]; exact X'.warmed) (by rw [Stand.throwing_heap]; exact hceT) hrow
    obtain ⟨t2, a1, b1⟩ := kt cls h a T'.heap (locs ++ L) hec hd1 (zy_back hK hI hB e1 hsz hL) (T'.setVm vm') rfl (X'.noted hW')
    refine ⟨t2, hthr a rfl t2 ?_, b1⟩
    refine zk_caught (g := F0 m pc ls rest) (c := c) X'.here (vm' := vm') (pc := h) (fun Q E d acts => ?_) a1
    rw [W.findHandler_eq (meth := meth) (code := c) (by rw [Stand.throwing_vm]; exact X'.method') X'.code]
    exact hfind Q E d acts
/-- a wrapper's words -/
def zj_ws (y : MethodName) (bytes : ByteArray) (maxL : Nat) (ret : Option FieldType) (hh : List (Nat × Nat × Nat × Nat)) : List Cond := Cond.codeWith y bytes maxL ret hh :: zw_T
def zj_rm (d : Nat) : Room := { frames := d, cells := 1, slots := 6, locals := 60 * d }
theorem zj_met {vs : List Value} {po : Int32 → zm_T → Prop} (hy : plainName y.cls = true) (hlen : (lg_sl vs).length ≤ maxL)
    (body : ∀ (p : Program) (e : Env) (s : State) (m : MethodId) (below : List Frame) (meth : Method) (c : Code) (ls : Array Slot), CallFix p m c bytes maxL s vs.toArray zw_T y.cls → zm_K G s → zx_T s → c.exceptionTable.toList.map (fun h => (h.startPc, h.endPc, h.handlerPc, h.catchType)) = hh → meth.locks = false → meth.sig.returnType = ret → lv_has ls maxL (lv_args 0 vs) → zy_I G M s s.heap [] →
      W p l e (zj_rm d) s m vs.toArray below meth c s.heap [] 0 0 (MQ below (va_Qi po (zy_B G) (zm_A G)) vs.toArray s 1 6 (zm_A G)) (F0 m 0 ls [])) :
    Met l y (zj_ws y bytes maxL ret hh) (zj_rm d) (va_Pc vs (zy_B G M)) (va_Qi po (zy_B G) (zm_A G)) 1 6 (zm_A G) := by
  refine va_MetW (cc := bytes) (maxL := maxL) (ret := ret) (hh := hh) hy rfl ?_
  intro p e s m args below meth c s₁ B hml hv
  obtain ⟨rfl, hB, hO⟩ := hv
  have hts := atoms_spec (ws := zj_ws y bytes maxL ret hh) B.pre
  have hl := lv_entry vs (n := maxL) hlen
  have hex : c.exceptionTable.toList.map (fun h => (h.startPc, h.endPc, h.handlerPc, h.catchType)) = hh := by
    obtain ⟨m9, meth', c', h0, h1, h2, -, -, h7, -⟩ := Cond.codeWith_spec (hts _ List.mem_cons_self)
    cases B.named.symm.trans h0
    have h3 : s₁.code? m = some c' := by
      have h4 : s₁.vm = s.vm := by rw [B.state]; rfl
      rw [State.code?_eq, h4, h1]
      exact h2
    cases B.here.code.symm.trans h3
    exact h7
  rw [lg_entry_eq]
  exact body p e s m below meth c _ ⟨B.exec, B.bytes, hml, findClass_of_methodNamed B.named, fun w hw => hts w (List.mem_cons_of_mem _ hw)⟩ hB.2 hO.1 hex B.notSynchronized B.returns hl ⟨⟨hB.1, va_S.rf⟩, hO.2⟩
/-- the end of a wrapper -/
theorem zj_iret {po : Int32 → zm_T → Prop} {v : Int32} (hS : CallFix p m c cc nL s args zw_T "StripMixerLaw") (hK : zm_K G s) (hX : zx_T s) (hlk : meth.locks = false) (hr : meth.sig.returnType = some .int) (hI : zy_I G M s H locs) (hdg : decode cc pc = .ok (.ireturn, 1)) (hp : po v M) :
    W p l e R s m args below meth c H locs cells slots (MQ below (va_Qi po (zy_B G) (zm_A G)) args s cells slots (zm_A G)) (F0 m pc ls [.int v]) :=
  W.iret hS.1 hS.2.1 hr (fun t ht hW => ⟨⟨v, M, rfl, hp, hI.B hK hX ht hW⟩, hI.1.2.F ht⟩) hI.1.2.2.2 hdg hlk
/-- long[] is written, the rest of the world stays -/
theorem zj_last {a n : Nat} {i : Int32} {x : Int64} (hS : CallFix p m c cc nL s args zw_T "StripMixerLaw") (hK : zm_K G s) (hI : zy_I G M s H locs) (ha : a < 183) (hs : zs a = (2, n)) (hin : vp_in i n) (hdg : decode cc pc = .ok (.lastore, 1))
    (kk : ∀ (H : Heap) (locs : List Loc), zy_I G (zm_ul M a i.toNatClampNeg x) s H locs → W p l e R s m args below meth c H locs cells slots Q (F0 m (pc + 1) ls rest)) : W p l e R s m args below meth c H locs cells slots Q (F0 m pc ls (.long x :: .int i :: .ref (G.2.2.1 + a) :: rest)) := by
  have hat := zm_at_al (G := G) (nc := 183) (sh := zs) (M := M) ha hs
  have e0 := zm_set_al (G := G) (cl := zc_cl) (nc := 183) (sh := zs) (M := M) (i := i.toNatClampNeg) (v := x) hs
  have hA : zm_A G (G.2.2.1 + a) := Nat.le_add_right _ _
  refine W.last hS.1 hS.2.1 (hI.1.1 a _ hat) ((hK.1.2 2 _ (zk_at G (by decide))).1 n (fun j => .long (M.2.2 a j))) (fun q => by cases q) (by show ¬ (i < 0 ∨ (arrV _ _ _).slots.size ≤ _); rw [arrV_size]; exact hin) rfl rfl hdg fun H1 e z oq => ?_
  have e1 : H1[G.2.2.1 + a]? = some (vp_cell (G.2.1 2) (n, .inr (.inl (vp_updL (M.2.2 a) i.toNatClampNeg x)))) := by
    rw [e, vp_cell_l, vp_cell_l, arrV_store]
    congr 2
    funext q
    by_cases hq : q = i.toNatClampNeg
    · subst hq
      simp [updV, vp_updL]
    · simp [updV, vp_updL, hq]
  refine kk H1 _ ⟨⟨?_, hI.1.2.put z oq hA⟩, zx_H.grow hI.2 (fun q _ hq => oq q (fun h => hq (h ▸ hA))) ?_⟩
  · rw [← e0]
    exact hI.1.1.set zm_D hat e1 oq
  · intro q hq cell hc
    by_cases hqa : q = G.2.2.1 + a
    · rw [hqa, e1] at hc
      cases hc
      rfl
    · rw [oq q hqa] at hc
      exact hI.2.2.2 q hq cell hc
end ZJ

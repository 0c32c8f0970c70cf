/-! Calls and ends of methods that write nothing: the heap stays the very same. -/
def zx_0 : Addr → Prop := fun _ => False
section ZP
variable {p : Program} {l : Launch} {e : Env} {R : Room} {s : State} {m : MethodId} {args : Array Value} {below : List Frame} {meth : Method} {c : Code} {H : Heap} {locs : List Loc} {cells slots : Nat} {Q : State → Prop}
variable {cc : ByteArray} {pc nL : Nat} {ls : Array Slot} {rest : List Value} {own : String}
variable {G : zg_T} {nc : Nat} {sh : Nat → Nat × Nat} {M : zm_T}
theorem zp_heap {U : State} (h : s.sameButNew U [] 0 0) : U.heap = s.heap := by
  apply Array.ext_getElem?
  intro q
  by_cases hq : q < s.heap.size
  · have hc : s.heap[q]? = some s.heap[q] := Array.getElem?_eq_getElem hq
    rw [zx_same h hc, hc]
  · have h1 := h.2.2.1
    rw [Array.getElem?_eq_none (by omega), Array.getElem?_eq_none (by omega)]
theorem zp_iret {post : Int32 → zm_T → Prop} {v : Int32} (hS : CallFix p m c cc nL s args zw_T own) (hK : zm_K G s) (hlk : meth.locks = false) (hr : meth.sig.returnType = some .int) (hI : zm_I G nc sh M s s.heap []) (hdg : decode cc pc = .ok (.ireturn, 1)) (hp : post v M) :
    W p l e R s m args below meth c s.heap [] cells slots (MQ below (va_Qi post (zm_B G nc sh) zx_0) args s cells slots zx_0) (F0 m pc ls [.int v]) :=
  W.iret hS.1 hS.2.1 hr (fun t ht hW => ⟨⟨v, M, rfl, hp, hI.B hK ht hW⟩, ⟨by rw [ht]; exact Nat.le_refl _, fun q _ _ => by rw [ht]⟩⟩) (fun q hq => by cases hq) hdg hlk
theorem zp_zret {post : Int32 → zm_T → Prop} {v : Int32} (hS : CallFix p m c cc nL s args zw_T own) (hK : zm_K G s) (hlk : meth.locks = false) (hr : meth.sig.returnType = some .boolean) (hn : narrow .boolean (.int v) = .int v) (hI : zm_I G nc sh M s s.heap []) (hdg : decode cc pc = .ok (.ireturn, 1)) (hp : post v M) :
    W p l e R s m args below meth c s.heap [] cells slots (MQ below (va_Qi post (zm_B G nc sh) zx_0) args s cells slots zx_0) (F0 m pc ls [.int v]) :=
  W.zret hS.1 hS.2.1 hr hn (fun t ht hW => ⟨⟨v, M, rfl, hp, hI.B hK ht hW⟩, ⟨by rw [ht]; exact Nat.le_refl _, fun q _ _ => by rw [ht]⟩⟩) (fun q hq => by cases hq) hdg hlk
theorem zp_ci {post : Int32 → zm_T → Prop} {st0 : List Value} {aa : Array Value} (hr : va_Run p l e R s m args below meth c s.heap [] 0 0 0 0 (F0 m pc ls st0) rest (va_Qi post (zm_B G nc sh) zx_0 aa) zx_0)
    (kk : ∀ (r : Int32) (M : zm_T), post r M → W p l e R s m args below meth c s.heap [] 0 0 Q (F0 m (pc + 3) ls (.int r :: rest))) : W p l e R s m args below meth c s.heap [] 0 0 Q (F0 m pc ls st0) := by
  intro T hT X
  obtain ⟨v, st₀, t, T', L, h0, X', hL, e1, e2, ⟨⟨r, u, hv, hp, hb⟩, hz, hk⟩, st⟩ := hr T hT X
  cases hv
  have hL0 : L = [] := by
    cases L with
    | nil => rfl
    | cons a r => exact (hL a List.mem_cons_self).elim
  subst hL0
  obtain ⟨t2, a1, b1⟩ := kk r u hp T' (zp_heap (U := T'.setVm s.vm) X'.same) X'
  exact ⟨t2, st t2 a1, b1⟩
variable {y : MethodName} {bytes : ByteArray} {maxL : Nat} {ret : Option FieldType} {d index n : Nat} {As : List Value} {Qc : Array Value → State → Outcome → State → Prop}
theorem zp_runS (hS : CallFix p m c cc nL s args zw_T own) (hK : zm_K G s) (hM : Met l y (zr_ws y bytes maxL ret) (zr_rm d) (va_Pc As (zm_B G nc sh M)) Qc 0 0 zx_0) (hL : zl_S own index y bytes maxL ret n) (hI : zm_I G nc sh M s H locs)
    (hn : As.length = n) (hsize : ls.size = nL) (hW : (rest.map fun v => v.category).sum ≤ 8) (hR : d + 1 ≤ R.frames ∧ 8 + (maxL + 11) + 60 * d ≤ R.locals) (hf : cells ≤ R.cells ∧ slots ≤ R.slots) (hdg : decode cc pc = .ok (.invokestatic index, 3)) {st0 : List Value} (hst : st0 = As.reverse ++ rest) :
    va_Run p l e R s m args below meth c H locs cells slots 0 0 (F0 m pc ls st0) rest (Qc As.toArray) zx_0 := by
  obtain ⟨hl, hstt, hini, hcode, hd⟩ := hL
  have hT := hS.2.2.2.2
  subst hst
  have hp : PreS s H (va_Pc As (zm_B G nc sh M)) As := ⟨zm_B.blind, fun U hU hW => ⟨rfl, hI.B hK hU hW⟩⟩
  rcases hl with hl | ⟨host, hl⟩
  · exact va_runS hS hM ⟨callB_of n hT (zr_good hcode) rfl rfl rfl (hT _ hini) (hT _ hl) hd hR, hT _ hstt⟩ hp rfl hn hsize rfl (lv_room hW) hdg hf
  · exact va_runSN (host := host) hS hM ⟨va_cnB n hT (zr_good hcode) rfl rfl rfl (hK.2.1 _ hl) (hT _ hini) hd hR, hT _ hstt, trivial⟩ hp rfl hn hsize rfl (lv_room hW) hdg hf
theorem zp_runV (hS : CallFix p m c cc nL s args zw_T own) (hK : zm_K G s) {a ci k : Nat} (hM : Met l y (zr_ws y bytes maxL ret) (zr_rm d) (va_Pc (.ref (G.2.2.1 + a) :: As) (zm_B G nc sh M)) Qc 0 0 zx_0) (hL : zl_V own index y bytes maxL ret n ci) (hI : zm_I G nc sh M s H locs) (ha : a < nc) (hs : sh a = (10 + ci, k))
    (hn : As.length = n) (hsize : ls.size = nL) (hW : (rest.map fun v => v.category).sum ≤ 8) (hR : d + 1 ≤ R.frames ∧ 8 + (maxL + 11) + 60 * d ≤ R.locals) (hf : cells ≤ R.cells ∧ slots ≤ R.slots) (hdg : decode cc pc = .ok (.invokevirtual index, 3)) {st0 : List Value} (hst : st0 = As.reverse ++ .ref (G.2.2.1 + a) :: rest) :
    va_Run p l e R s m args below meth c H locs cells slots 0 0 (F0 m pc ls st0) rest (Qc (Value.ref (G.2.2.1 + a) :: As).toArray) zx_0 := by
  obtain ⟨hl, hin, hini, hcode, hd, hsel, T, N, hc⟩ := hL
  have hT := hS.2.2.2.2
  subst hst
  have hcell : ∃ cellB : Cell, H[G.2.2.1 + a]? = some cellB ∧ cellB.vm.isStatics = false ∧ s.vm.findClass y.cls = some cellB.cls := by
    have he := hI.1 a _ (zm_w_at ha)
    rw [zm_obj hs] at he
    obtain ⟨r, h1, cell, q1, q2, q3, -⟩ := he
    refine ⟨cell, q1, by rw [q3]; rfl, ?_⟩
    obtain ⟨-, hfc, -⟩ := hK.1.1 ci _ hc
    rw [q2]
    exact hfc
  have hp : PreV s H y.cls (G.2.2.1 + a) (va_Pc (.ref (G.2.2.1 + a) :: As) (zm_B G nc sh M)) As := ⟨zm_B.blind, hcell, fun U hU hW => ⟨rfl, hI.B hK hU hW⟩⟩
  rcases hl with hl | ⟨host, hl⟩
  · exact va_runV hS hM ⟨callB_of n hT (zr_good hcode) rfl rfl rfl (hT _ hini) (hT _ hl) hd hR, hT _ hin, hT _ hsel⟩ hp rfl hn hsize rfl (lv_room hW) hdg hf
  · exact va_runVN (host := host) hS hM ⟨va_cnB n hT (zr_good hcode) rfl rfl rfl (hK.2.1 _ hl) (hT _ hini) hd hR, hT _ hin, hT _ hsel⟩ hp rfl hn hsize rfl (lv_room hW) hdg hf
theorem zp_met {vs : List Value} (hy : plainFor y = true) (hlen : (lg_sl vs).length ≤ maxL)
    (body : ∀ (p : Program) (e : Env) (s : State) (m : MethodId) (below : List Frame) (meth : Method) (c : Code) (ls : Array Slot), CallFix p m c bytes maxL s vs.toArray zw_T y.cls → zm_K G s → meth.locks = false → meth.sig.returnType = ret → lv_has ls maxL (lv_args 0 vs) → zm_I G nc sh M s s.heap [] →
      W p l e (zr_rm d) s m vs.toArray below meth c s.heap [] 0 0 (MQ below Qc vs.toArray s 0 0 zx_0) (F0 m 0 ls [])) :
    Met l y (zr_ws y bytes maxL ret) (zr_rm d) (va_Pc vs (zm_B G nc sh M)) Qc 0 0 zx_0 := by
  refine va_MetF (cc := bytes) (maxL := maxL) (ret := ret) hy rfl ?_
  intro p e s m args below meth c s₁ B hml hv
  obtain ⟨rfl, hB⟩ := hv
  have hts := atoms_spec (ws := zr_ws y bytes maxL ret) B.pre
  have hl := lv_entry vs (n := maxL) hlen
  rw [lg_entry_eq]
  exact body p e s m below meth c _ ⟨B.exec, B.bytes, hml, findClass_of_methodNamed B.named, fun w hw => hts w (List.mem_cons_of_mem _ hw)⟩ hB.2 B.notSynchronized B.returns hl ⟨hB.1, va_S.rf⟩
end ZP

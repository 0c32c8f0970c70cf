/-! Rows of the law's own walk: its calls keep the whole world. -/
section ZQ
variable {p : Program} {l : Launch} {e : Env} {R : Room} {s : State} {m : MethodId} {args : Array Value} {below : List Frame} {meth : Method} {c : Code} {H : Heap} {locs : List Loc} {cells slots : Nat} {Q : State → Prop}
variable {y : MethodName} {bytes cc : ByteArray} {pc maxL nL n index d : Nat} {ls : Array Slot} {ret : Option FieldType} {As rest : List Value} {G : zg_T} {M : zm_T} {hh : List (Nat × Nat × Nat × Nat)}
theorem zy_li {ws : List Cond} {rm : Room} {vs : List Value} {post : Int32 → zm_T → Prop} (hM : Met l y ws rm (va_Pc vs (zm_B G 183 zs M)) (va_Qi post (zm_B G 183 zs) (zm_A G)) 0 0 (zm_A G)) : Met l y ws rm (va_Pc vs (zy_B G M)) (va_Qi post (zy_B G) (zm_A G)) 0 0 (zm_A G) := by
  intro p e ha hc hk s m args below hf happ hP hK
  obtain ⟨hv, hB, hO⟩ := hP
  obtain ⟨n, o, h1, h2, h3, h4⟩ := hM p e ha hc hk s m args below hf happ ⟨hv, hB⟩ hK
  obtain ⟨⟨⟨r, u, e1, e2, e3⟩, e4⟩, e5⟩ := h4
  exact ⟨n, o, h1, h2, h3, ⟨⟨r, u, e1, e2, e3, hO.of0 e5⟩, e4⟩, e5⟩
theorem zy_ll {ws : List Cond} {rm : Room} {vs : List Value} {post : Int64 → zm_T → Prop} (hM : Met l y ws rm (va_Pc vs (zm_B G 183 zs M)) (va_Ql post (zm_B G 183 zs) (zm_A G)) 0 0 (zm_A G)) : Met l y ws rm (va_Pc vs (zy_B G M)) (va_Ql post (zy_B G) (zm_A G)) 0 0 (zm_A G) := by
  intro p e ha hc hk s m args below hf happ hP hK
  obtain ⟨hv, hB, hO⟩ := hP
  obtain ⟨n, o, h1, h2, h3, h4⟩ := hM p e ha hc hk s m args below hf happ ⟨hv, hB⟩ hK
  obtain ⟨⟨⟨r, u, e1, e2, e3⟩, e4⟩, e5⟩ := h4
  exact ⟨n, o, h1, h2, h3, ⟨⟨r, u, e1, e2, e3, hO.of0 e5⟩, e4⟩, e5⟩
theorem zy_lv {ws : List Cond} {rm : Room} {vs : List Value} {post : zm_T → Prop} (hM : Met l y ws rm (va_Pc vs (zm_B G 183 zs M)) (va_Qv post (zm_B G 183 zs) (zm_A G)) 0 0 (zm_A G)) : Met l y ws rm (va_Pc vs (zy_B G M)) (va_Qv post (zy_B G) (zm_A G)) 0 0 (zm_A G) := by
  intro p e ha hc hk s m args below hf happ hP hK
  obtain ⟨hv, hB, hO⟩ := hP
  obtain ⟨n, o, h1, h2, h3, h4⟩ := hM p e ha hc hk s m args below hf happ ⟨hv, hB⟩ hK
  obtain ⟨⟨⟨u, e1, e2, e3⟩, e4⟩, e5⟩ := h4
  exact ⟨n, o, h1, h2, h3, ⟨⟨u, e1, e2, e3, hO.of0 e5⟩, e4⟩, e5⟩
/-- the world behind a call, in the law's walk -/
theorem zq_I {u : zm_T} {t : State} {H1 : Heap} {locs1 : List Loc} (hI : zy_I G M s H locs) (ht : t.heap = H1) (hB : zy_B G u t) (hk : ∀ q : Nat, q < H.size → ¬ zm_A G q → H1[q]? = H[q]?) (hS1 : va_S (zm_A G) s.heap H1 locs1) : zy_I G u s H1 locs1 :=
  ⟨⟨by rw [← ht]; exact hB.1.1, hS1⟩, zx_H.grow hI.2 hk (by rw [← ht]; exact hB.2.2.2.2)⟩
theorem zq_run (hS : CallFix p m c cc nL s args zw_T "StripMixerLaw") (hK : zm_K G s) (hX : zx_T s) {Qc : Array Value → State → Outcome → State → Prop} (hM : Met l y (zr_ws y bytes maxL ret) (zr_rm d) (va_Pc (.ref (G.2.2.1 + 151) :: As) (zy_B G M)) Qc 0 0 (zm_A G)) (hLk : zl_V "StripMixerLaw" index y bytes maxL ret n 8) (hlm : Cond.methodLink "StripMixerLaw" index y ∈ zw_T) (hI : zy_I G M s H locs)
    (hn : As.length = n) (hsize : ls.size = nL) (hW : (rest.map fun v => v.category).sum ≤ 8) (hR : d + 1 ≤ R.frames ∧ 8 + (maxL + 11) + 60 * d ≤ R.locals) (hf : cells ≤ R.cells ∧ slots ≤ R.slots) (hdg : decode cc pc = .ok (.invokevirtual index, 3)) {st0 : List Value} (hst : st0 = As.reverse ++ .ref (G.2.2.1 + 151) :: rest) :
    va_Run p l e R s m args below meth c H locs cells slots 0 0 (F0 m pc ls st0) rest (Qc (Value.ref (G.2.2.1 + 151) :: As).toArray) (zm_A G) := by
  obtain ⟨-, hin, hini, hcode, hd, hsel, TT, NN, hcc⟩ := hLk
  have hT := hS.2.2.2.2
  subst hst
  have hcell : ∃ cellB : Cell, H[G.2.2.1 + 151]? = some cellB ∧ cellB.vm.isStatics = false ∧ s.vm.findClass y.cls = some cellB.cls := by
    have he := hI.1.1 151 _ (zm_w_at (by decide : 151 < 183))
    rw [zm_obj hs_MO] at he
    obtain ⟨r, h1, cell, q1, q2, q3, -⟩ := he
    refine ⟨cell, q1, by rw [q3]; rfl, ?_⟩
    obtain ⟨-, hfc, -⟩ := hK.1.1 8 _ hcc
    rw [q2]
    exact hfc
  have hp : PreV s H y.cls (G.2.2.1 + 151) (va_Pc (.ref (G.2.2.1 + 151) :: As) (zy_B G M)) As := ⟨zy_B.blind, hcell, fun U hU hW => ⟨rfl, hI.B hK hX hU hW⟩⟩
  exact va_runV hS hM ⟨callB_of n hT (zr_good hcode) rfl rfl rfl (hT _ hini) (hT _ hlm) hd hR, hT _ hin, hT _ hsel⟩ hp rfl hn hsize rfl (lv_room hW) hdg hf
variable {st0 : List Value} {aa : Array Value}
theorem zq_ci {mc ms : Nat} {post : Int32 → zm_T → Prop} (hr : va_Run p l e R s m args below meth c H locs cells slots mc ms (F0 m pc ls st0) rest (va_Qi post (zy_B G) (zm_A G) aa) (zm_A G)) (hI : zy_I G M s H locs)
    (kk : ∀ (r : Int32) (M : zm_T) (H : Heap) (locs : List Loc), post r M → zy_I G M s H locs → W p l e R s m args below meth c H locs (cells + mc) (slots + ms) Q (F0 m (pc + 3) ls (.int r :: rest))) : W p l e R s m args below meth c H locs cells slots Q (F0 m pc ls st0) :=
  va_calli hr hI.1.2 (fun _ _ h => h) (fun _ h => h) (fun r u t H1 locs1 ht _ hp hB _ hk hS1 => kk r u H1 locs1 hp (zq_I hI ht hB hk hS1))
theorem zq_cl {post : Int64 → zm_T → Prop} (hr : va_Run p l e R s m args below meth c H locs cells slots 0 0 (F0 m pc ls st0) rest (va_Ql post (zy_B G) (zm_A G) aa) (zm_A G)) (hI : zy_I G M s H locs)
    (kk : ∀ (r : Int64) (M : zm_T) (H : Heap) (locs : List Loc), post r M → zy_I G M s H locs → W p l e R s m args below meth c H locs cells slots Q (F0 m (pc + 3) ls (.long r :: rest))) : W p l e R s m args below meth c H locs cells slots Q (F0 m pc ls st0) :=
  va_calll hr hI.1.2 (fun _ _ h => h) (fun _ h => h) (fun r u t H1 locs1 ht _ hp hB _ hk hS1 => kk r u H1 locs1 hp (zq_I hI ht hB hk hS1))
theorem zq_cv {post : zm_T → Prop} (hr : va_Run p l e R s m args below meth c H locs cells slots 0 0 (F0 m pc ls st0) rest (va_Qv post (zy_B G) (zm_A G) aa) (zm_A G)) (hI : zy_I G M s H locs)
    (kk : ∀ (M : zm_T) (H : Heap) (locs : List Loc), post M → zy_I G M s H locs → W p l e R s m args below meth c H locs cells slots Q (F0 m (pc + 3) ls rest)) : W p l e R s m args below meth c H locs cells slots Q (F0 m pc ls st0) :=
  va_callv hr hI.1.2 (fun _ _ h => h) (fun _ h => h) (fun u t H1 locs1 ht _ hp hB _ hk hS1 => kk u H1 locs1 hp (zq_I hI ht hB hk hS1))
/-- a wrapper's words at the law -/
def zl_W (index : Nat) (y : MethodName) (bytes : ByteArray) (maxL n : Nat) (hh : List (Nat × Nat × Nat × Nat)) : Prop := Cond.methodLink "StripMixerLaw" index y ∈ zw_T ∧ Cond.static y ∈ zw_T ∧ Cond.initialized y.cls ∈ zw_T ∧ Cond.codeWith y bytes maxL (some .int) hh ∈ zw_T ∧ (y.cls ≠ "java/lang/invoke/MethodHandle" ∧ y.cls ≠ "java/lang/invoke/VarHandle" ∧ (parseMethodDescriptor y.desc).map (fun d => d.parameters.length) = some n)
theorem zq_runS (hS : CallFix p m c cc nL s args zw_T "StripMixerLaw") (hK : zm_K G s) (hX : zx_T s) {Qc : Array Value → State → Outcome → State → Prop} (hM : Met l y (zj_ws y bytes maxL (some .int) hh) (zj_rm d) (va_Pc As (zy_B G M)) Qc 1 6 (zm_A G)) (hLk : zl_W index y bytes maxL n hh) (hI : zy_I G M s H locs)
    (hn : As.length = n) (hsize : ls.size = nL) (hW : (rest.map fun v => v.category).sum ≤ 8) (hR : d + 1 ≤ R.frames ∧ 8 + (maxL + 11) + 60 * d ≤ R.locals) (hf : cells + 1 ≤ R.cells ∧ slots + 6 ≤ R.slots) (hdg : decode cc pc = .ok (.invokestatic index, 3)) {st0 : List Value} (hst : st0 = As.reverse ++ rest) :
    va_Run p l e R s m args below meth c H locs cells slots 1 6 (F0 m pc ls st0) rest (Qc As.toArray) (zm_A G) := by
  obtain ⟨hl, hstt, hini, hcode, hy1, hy2, hy3⟩ := hLk
  have hT := hS.2.2.2.2
  subst hst
  have hG : GoodIn zw_T (zj_ws y bytes maxL (some .int) hh) := by
    intro w hw
    rcases List.mem_cons.mp hw with rfl | hw
    · exact zw_T_good _ hcode
    · exact zw_T_good _ hw
  have hwarm := pay_in hT hG
  have hB : Back l R p e below s args y 3 8 (PreOf R 1 6 (va_Pc As (zy_B G M))) (PostOf Qc 1 6 (zm_A G)) :=
    va_backW hM zy_B.blind rfl rfl hR.1 (by show 8 + (maxL + 11) + 60 * d ≤ _; exact hR.2) hwarm List.mem_cons_self (fun a' U hU => hwarm _ (List.mem_cons_of_mem _ hini) a' U hU)
  intro T hT0 X
  obtain ⟨mk, methM, cM, hnamed, hmethM, -, -, -, -, -, -, hsigM⟩ := Cond.codeWith_spec (hT _ hcode)
  have hstatic : methM.isStatic = true := Cond.static_spec hnamed hmethM (hT _ hstt)
  obtain ⟨kP, hkP, -⟩ := className_of_methodNamed hnamed
  have hinitP : kP.init = .initialized := Cond.initialized_spec (findClass_of_methodNamed hnamed) hkP (hT _ hini)
  have hlen : As.length = methM.sig.parameters.length := by
    rw [hsigM] at hy3
    exact hn.trans (Option.some.inj hy3).symm
  obtain ⟨vm₁, X₁, hstep₁⟩ := X.invokestatic hS.1 hS.2.2.2.1 (hT _ hl) hnamed hmethM hstatic hkP hinitP ⟨hy1, hy2⟩ (g := F0 m pc ls (As.reverse ++ rest)) rfl (argsL := As) (rest := rest) hlen rfl (by rw [hS.2.1]; exact hdg)
  obtain ⟨v, ⟨U', l2, c2, s2⟩, X', ⟨g', mk', t, L, e1, e2, hq, h1, hL, h2, h3⟩, hsteps⟩ := hB m meth c ⟨T.setVm vm₁, locs, cells, slots⟩ (F0 m pc ls rest) (.invokestatic index) mk As.toArray X₁ rfl (hsize.trans hS.2.2.1.symm) (by rw [hS.2.1]; exact hdg) (lv_room hW) (X₁.named hnamed) ⟨hf.1, hf.2, rfl, hI.B hK hX hT0 X₁.warmed⟩
  dsimp only [Pt.U, Pt.locs, Pt.cells, Pt.slots] at X' e1 e2 h1 h2 h3 hsteps
  subst h1; subst h2; subst h3
  exact ⟨v, (T.setVm vm₁).calling g' mk' As.toArray, t, U', L, hT0, X', hL, e1, e2, hq, fun target h => hstep₁ _ fun acts => by rw [doInvoke_state]; exact hsteps.trans h⟩
/-- the script -/
theorem zq_sld {b L : Nat} {xs : Nat → Int32} (hS : CallFix p m c cc nL s args zw_T "StripMixerLaw") (hX : va_X b L xs s s.heap) (hb : b < s.heap.size) (hbA : ¬ zm_A G b) (hI : zy_I G M s H locs) {i : Int32} (hin : vp_in i L) (hdg : decode cc pc = .ok (.iaload, 1))
    (kk : W p l e R s m args below meth c H locs cells slots Q (F0 m (pc + 1) ls (.int (xs i.toNatClampNeg) :: rest))) : W p l e R s m args below meth c H locs cells slots Q (F0 m pc ls (.int i :: .ref b :: rest)) :=
  va_sld hS.1 hS.2.1 hX hb hbA hI.1.2 hin hdg kk
theorem zl_drop {vs ws : List (Option Value)} (h : zl_has ls nL vs) (hw : ∀ (j : Nat) (v : Value), ws[j]? = some (some v) → vs[j]? = some (some v)) : zl_has ls nL ws :=
  ⟨h.1, h.2.1, fun q hq => by
    obtain ⟨j, v⟩ := q
    obtain ⟨j', hj, hv⟩ := (zl_p_mem _ 0 j v).mp hq
    exact h.2.2 _ ((zl_p_mem vs 0 j v).mpr ⟨j', hj, hw j' v hv⟩)⟩
end ZQ
section ZZ
variable {p : Program} {l : Launch} {e : Env} {R : Room} {s : State} {m : MethodId} {args : Array Value} {below : List Frame} {meth : Method} {c : Code} {H : Heap} {locs : List Loc} {cells slots : Nat} {Q : State → Prop}
variable {cc : ByteArray} {pc nL : Nat} {ls : Array Slot} {rest : List Value} {G : zg_T} {M : zm_T}
/-- what holds all through the law -/
def zz_C (p : Program) (l : Launch) (s : State) (m : MethodId) (c : Code) (b L : Nat) (xs : Nat → Int32) (G : zg_T) : Prop := CallFix p m c code 8 s #[Value.ref b] zw_T "StripMixerLaw" ∧ zm_K G s ∧ zx_T s ∧ va_X b L xs s s.heap ∧ b < s.heap.size ∧ ¬ zm_A G b ∧ L ≤ 3072 ∧ l.flags = Jvm.pinnedFlags ++ [Jvm.noTraceFlag]
/-- its locals at the head of a round -/
def zz_V (b : Nat) (G : zg_T) (i : Nat) : List (Option Value) := [some (.ref b), some (.ref (G.2.2.1 + 0)), some (.ref (G.2.2.1 + 151)), some (.ref (G.2.2.1 + 182)), some (.int (nI i)), none, none, none]
theorem zq_s {b L j k : Nat} {xs : Nat → Int32} {K : Int32} (hS : CallFix p m c cc nL s args zw_T "StripMixerLaw") (hX : va_X b L xs s s.heap) (hb : b < s.heap.size) (hbA : ¬ zm_A G b) (hI : zy_I G M s H locs) (hK : K = nI k) (hj : 6 * j + k < L) (hL : L ≤ 3072) (hdg : decode cc pc = .ok (.iaload, 1))
    (kk : W p l e R s m args below meth c H locs cells slots Q (F0 m (pc + 1) ls (.int (xs (6 * j + k)) :: rest))) : W p l e R s m args below meth c H locs cells slots Q (F0 m pc ls (.int (nI (6 * j) + K) :: .ref b :: rest)) := by
  have e : nI (6 * j) + K = nI (6 * j + k) := by rw [hK, nI_add]
  rw [e]
  refine zq_sld hS hX hb hbA hI (vp_in_nI hj (by omega)) hdg ?_
  rw [zn_cl (by omega)]
  exact kk
theorem zl_cut {a0 a1 a2 a3 a4 : Option Value} {x : List (Option Value)} (h : zl_has ls nL (a0 :: a1 :: a2 :: a3 :: a4 :: x)) : zl_has ls nL [a0, a1, a2, a3, a4, none, none, none] :=
  zl_drop h (fun q v hq => by
    match q, hq with
    | 0, hq => exact hq
    | 1, hq => exact hq
    | 2, hq => exact hq
    | 3, hq => exact hq
    | 4, hq => exact hq
    | 5, hq => simp at hq
    | 6, hq => simp at hq
    | 7, hq => simp at hq
    | q + 8, hq => simp at hq)
theorem zq_cmp (x : Int64) : lg_cmp x x = 0 := by
  unfold lg_cmp
  simp
theorem zq_tk {c : Int32} (kc : zJc M) : ∃ t, ¬ zf_has M c = 0 → M.2.1 (4 + c.toNatClampNeg) 0 = some t := by
  by_cases h : zf_has M c = 0
  · exact ⟨0, fun h' => absurd h h'⟩
  · obtain ⟨-, -, -, t', tr', a', f', n', lv', i', o', -, d0, -⟩ := zJ_there kc h
    exact ⟨_, fun _ => d0⟩
theorem zq_fn (kf : zJf M) : ∀ a, a < 8 → M.1 (25 + 14 * a) 3 = nI (zJ_fn M a) ∧ zJ_fn M a ≤ 8 ∧ ∀ i, i < zJ_fn M a → M.1 (28 + 14 * a) i = 0 ∨ M.1 (28 + 14 * a) i = 1 := fun a ha => by
  obtain ⟨⟨-, v1, -⟩, f1, -, f3⟩ := zJ_f1 kf ha
  exact ⟨f1, v1, fun i hi => by rw [(f3 i hi).2.2]; exact kf.2 _ (by omega)⟩
theorem zq_q {M1 : zm_T} (hJ : zJ M) (hR : ∀ c j, 151 ≤ c → M1.1 c j = M.1 c j) : zg_q M1 := fun s hs k hk => by
  unfold zg_o1
  rw [hR _ _ (by decide), hR _ _ (by decide)]
  obtain ⟨-, -, -, j4⟩ := hJ.2.2.2.2.1 s hs k hk
  by_cases h : M.1 165 (3 * s + k) = 4
  · rw [if_pos h]
    have := j4.2.2.2.1 (by rw [h]; rfl)
    exact ⟨this.2.2.1, this.2.2.2⟩
  · rw [if_neg h]; omega
end ZZ

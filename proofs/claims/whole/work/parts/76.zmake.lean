/-! Making: rows of constructors. The place of what is made is the next one. -/
def zc_A : List String := ["StripMixer$Take", "StripMixer$Clip", "StripMixer$Effect", "StripMixer$Strip"]
def zc_B (G : zg_T) (nc : Nat) (M : zm_T) (U : State) : Prop := zm_B G nc zs M U ∧ U.heap.size = G.2.2.1 + nc ∧ ∀ C ∈ zc_A, va_AO C U
/-- nothing is there yet from place nc on -/
def zc_0 (nc : Nat) (M : zm_T) : Prop := ∀ a, nc ≤ a → (∀ k, M.1 a k = 0) ∧ (∀ k, M.2.1 a k = none) ∧ ∀ k, M.2.2 a k = 0
theorem zc_0.up {nc nd : Nat} {M : zm_T} (h : zc_0 nc M) (hn : nc ≤ nd) : zc_0 nd M := fun a ha => h a (Nat.le_trans hn ha)
theorem zc_0.ui {nc a k : Nat} {v : Int32} {M : zm_T} (h : zc_0 nc M) (ha : a < nc) : zc_0 nc (zm_ui M a k v) := fun b hb => ⟨fun j => by rw [zm_ui_ne (Or.inl (by omega))]; exact (h b hb).1 j, (h b hb).2⟩
theorem zc_0.ur {nc a k : Nat} {v : Option Nat} {M : zm_T} (h : zc_0 nc M) (ha : a < nc) : zc_0 nc (zm_ur M a k v) := fun b hb => ⟨(h b hb).1, fun j => by
  show (if b = a ∧ j = k then v else M.2.1 b j) = none
  rw [if_neg (by omega)]; exact (h b hb).2.1 j, (h b hb).2.2⟩
theorem zm_w_s {G : zg_T} {cl : List vw_C} {nc : Nat} {sh : Nat → Nat × Nat} {M : zm_T} : zm_w G cl (nc + 1) sh M = zm_w G cl nc sh M ++ [(G.2.2.1 + nc, zm_cell G cl sh M nc)] := by
  simp [zm_w, List.range_succ]
section ZM
variable {p : Program} {l : Launch} {e : Env} {R : Room} {s : State} {m : MethodId} {args : Array Value} {below : List Frame} {meth : Method} {c : Code} {H : Heap} {locs : List Loc} {cells slots : Nat} {Q : State → Prop}
variable {cc : ByteArray} {pc nL : Nat} {ls : Array Slot} {rest : List Value} {own : String} {G : zg_T} {nc : Nat} {M : zm_T}
/-- the heap's size, by the cells that were made -/
theorem zc_size {g : JFrame} (hK : zm_K G s) (hI : zm_I G nc zs M s H locs) (hsz : s.heap.size + cells = G.2.2.1 + nc) (k : H.size = G.2.2.1 + nc → W p l e R s m args below meth c H locs cells slots Q g) : W p l e R s m args below meth c H locs cells slots Q g := by
  intro T hT X
  refine k ?_ T hT X
  have h1 : T.heap.size ≤ s.heap.size + cells := X.same.2.2.1
  rw [hT] at h1
  have h2 : s.heap.size ≤ H.size := hI.2.1
  by_cases h0 : nc = 0
  · have := hK.2.2.1
    omega
  · have h3 := (hI.1 (nc - 1) _ (zm_w_at (by omega))).lt
    have h4 : G.2.2.1 + (nc - 1) < H.size := h3
    omega
theorem zc_grow {H1 : Heap} (hI : zm_I G nc zs M s H locs) (hs0 : s.heap.size ≤ G.2.2.1 + nc) (hz : H.size = G.2.2.1 + nc) (z1 : H1.size = G.2.2.1 + nc + 1) (o1 : ∀ q, q < G.2.2.1 + nc → H1[q]? = H[q]?) (hn : ∀ r, zm_cell G zc_cl zs M nc = r → va_P G.1 zc_cl [(G.2.2.1 + nc, r)] H1) : zm_I G (nc + 1) zs M s H1 locs := by
  refine ⟨?_, by have := hI.2.1; omega, fun q h1 h2 => ?_, hI.2.2.2⟩
  · rw [zm_w_s]
    exact (hI.1.kept (fun k x hx => o1 x.1 (by have := (hI.1 k x hx).lt; omega))).app (hn _ rfl)
  · have h3 : q < G.2.2.1 := Nat.not_le.mp h2
    rw [o1 q (by omega)]
    exact hI.2.2.1 q h1 h2
theorem zc_newa {atype : ArrayType} {kd N : Nat} {n : Int32} (hS : CallFix p m c cc nL s args zw_T own) (hK : zm_K G s) (hI : zm_I G nc zs M s H locs) (hsz : s.heap.size + cells = G.2.2.1 + nc) (h0 : zc_0 nc M) (hsh : zs nc = (kd, N))
    (ht : (atype = .int ∧ kd = 0) ∨ (atype = .boolean ∧ kd = 1) ∨ (atype = .long ∧ kd = 2)) (hn : ¬ n < 0) (hN : n.toNatClampNeg = N) (hNb : N ≤ 10000) (hc : cells + 1 ≤ R.cells) (hsl : slots + N ≤ R.slots) (hdg : decode cc pc = .ok (.newarray atype, 2))
    (kk : ∀ H : Heap, zm_I G (nc + 1) zs M s H locs → W p l e R s m args below meth c H locs (cells + 1) (slots + N) Q (F0 m (pc + 2) ls (.ref (G.2.2.1 + nc) :: rest))) : W p l e R s m args below meth c H locs cells slots Q (F0 m pc ls (.int n :: rest)) := by
  refine zc_size hK hI hsz fun hz => ?_
  have hz1 : M.1 nc = fun _ => 0 := funext (h0 nc (Nat.le_refl _)).1
  have hz2 : M.2.2 nc = fun _ => 0 := funext (h0 nc (Nat.le_refl _)).2.2
  rcases ht with ⟨rfl, rfl⟩ | ⟨rfl, rfl⟩ | ⟨rfl, rfl⟩
  · refine va_newaK hS.1 hS.2.1 (atype := .int) (hS.2.2.2.2 (.arrayClass .int) (zw_mem (i := 156) (by decide +kernel) (by decide +kernel))) rfl hdg rfl hn hN (by show N * 4 ≤ _; omega) hc hsl hz fun H1 cA e1 z1 o1 hAr hNm => ?_
    refine kk H1 (zc_grow hI (by omega) hz z1 o1 (fun r hr => ?_))
    have hA : cA = G.2.1 0 := Option.some.inj (hNm.symm.trans (hK.1.2 0 _ (zk_at G (by decide))).2)
    rw [zm_ar (by decide) hsh] at hr
    subst hr
    intro k x hx
    have hk : k < 1 := (List.getElem?_eq_some_iff.mp hx).1
    rw [show k = 0 by omega] at hx
    cases hx
    show H1[G.2.2.1 + nc]? = some (vp_cell _ (N, zm_arr G.2.2.1 0 M nc))
    rw [e1, hA]
    simp only [zm_arr, hz1]
    rfl
  · refine va_newaK hS.1 hS.2.1 (atype := .boolean) (hS.2.2.2.2 (.arrayClass .boolean) (zw_mem (i := 157) (by decide +kernel) (by decide +kernel))) rfl hdg rfl hn hN (by show N * 1 ≤ _; omega) hc hsl hz fun H1 cA e1 z1 o1 hAr hNm => ?_
    refine kk H1 (zc_grow hI (by omega) hz z1 o1 (fun r hr => ?_))
    have hA : cA = G.2.1 1 := Option.some.inj (hNm.symm.trans (hK.1.2 1 _ (zk_at G (by decide))).2)
    rw [zm_ar (by decide) hsh] at hr
    subst hr
    intro k x hx
    have hk : k < 1 := (List.getElem?_eq_some_iff.mp hx).1
    rw [show k = 0 by omega] at hx
    cases hx
    show H1[G.2.2.1 + nc]? = some (vp_cell _ (N, zm_arr G.2.2.1 1 M nc))
    rw [e1, hA]
    simp only [zm_arr, hz1]
    rfl
  · refine va_newaK hS.1 hS.2.1 (atype := .long) (hS.2.2.2.2 (.arrayClass .long) (zw_mem (i := 1316) (by decide +kernel) (by decide +kernel))) rfl hdg rfl hn hN (by show N * 8 ≤ _; omega) hc hsl hz fun H1 cA e1 z1 o1 hAr hNm => ?_
    refine kk H1 (zc_grow hI (by omega) hz z1 o1 (fun r hr => ?_))
    have hA : cA = G.2.1 2 := Option.some.inj (hNm.symm.trans (hK.1.2 2 _ (zk_at G (by decide))).2)
    rw [zm_ar (by decide) hsh] at hr
    subst hr
    intro k x hx
    have hk : k < 1 := (List.getElem?_eq_some_iff.mp hx).1
    rw [show k = 0 by omega] at hx
    cases hx
    show H1[G.2.2.1 + nc]? = some (vp_cell _ (N, zm_arr G.2.2.1 2 M nc))
    rw [e1, hA]
    simp only [zm_arr, hz2]
    rfl
theorem zc_newq {index kd N : Nat} {n : Int32} {C : String} (hS : CallFix p m c cc nL s args zw_T own) (hK : zm_K G s) (hAO : va_AO C s) (hI : zm_I G nc zs M s H locs) (hsz : s.heap.size + cells = G.2.2.1 + nc) (h0 : zc_0 nc M) (hsh : zs nc = (kd, N))
    (hcl : Cond.classLink own index C ∈ zw_T) (hkd : 2 < kd) (hk7 : kd < 7) (hty : zk_ty kd = .object C) (hn : ¬ n < 0) (hN : n.toNatClampNeg = N) (hNb : N ≤ 10000) (hc : cells + 1 ≤ R.cells) (hsl : slots + N ≤ R.slots) (hdg : decode cc pc = .ok (.anewarray index, 3))
    (kk : ∀ H : Heap, zm_I G (nc + 1) zs M s H locs → W p l e R s m args below meth c H locs (cells + 1) (slots + N) Q (F0 m (pc + 3) ls (.ref (G.2.2.1 + nc) :: rest))) : W p l e R s m args below meth c H locs cells slots Q (F0 m pc ls (.int n :: rest)) := by
  refine zc_size hK hI hsz fun hz => ?_
  have hz1 : M.2.1 nc = fun _ => none := funext (h0 nc (Nat.le_refl _)).2.1
  subst hN
  refine W.anew hS.1 hS.2.1 hS.2.2.2.1 (hS.2.2.2.2 _ hcl) (va_AO.use hAO) rfl hdg rfl hn (by omega) hc hsl fun cA kA comp f1 f2 f3 f4 => ?_
  have hA : cA = G.2.1 kd := by
    have h1 := (hK.1.2 kd _ (zk_at G hk7)).2
    rw [hty] at h1
    obtain ⟨_, _, -, -, -, h4⟩ := h1
    exact Option.some.inj (f1.symm.trans h4)
  generalize hH1 : H.push ({ cls := cA, slots := Array.replicate n.toNatClampNeg .null, vm := .none } : Cell) = H1
  have z1 : H1.size = G.2.2.1 + nc + 1 := by rw [← hH1, Array.size_push, hz]
  have e1 : H1[H.size]? = some (arrV cA n.toNatClampNeg (fun _ => .null)) := by rw [← hH1, Array.getElem?_push_size, ← arrV_new]
  have o1 : ∀ q : Nat, q < G.2.2.1 + nc → H1[q]? = H[q]? := fun q hq => by rw [← hH1, Array.getElem?_push, if_neg (by omega)]
  rw [hz]
  rw [hz] at e1
  refine kk H1 (zc_grow hI (by omega) hz z1 o1 (fun r hr => ?_))
  rw [zm_ar (by omega) hsh] at hr
  subst hr
  intro k x hx
  have hk : k < 1 := (List.getElem?_eq_some_iff.mp hx).1
  rw [show k = 0 by omega] at hx
  cases hx
  show H1[G.2.2.1 + nc]? = some (vp_cell _ (n.toNatClampNeg, zm_arr G.2.2.1 kd M nc))
  rw [e1, hA]
  have h1 : ¬ kd < 2 := by omega
  have h2 : ¬ kd = 2 := by omega
  simp only [zm_arr, h1, h2, if_false, hz1]
  rfl
/-- a class whose objects are made -/
def zl_N (own : String) (index ci N : Nat) : Prop := ∃ (C : String) (T : u_T) (ty0 : Nat → FieldType), zc_cl[ci]? = some (C, T, N) ∧ (∀ w ∈ u_ws C T N, w ∈ zw_T) ∧ (∀ j, j < N → parseFieldDescriptor (T j).2.2.1 = some (ty0 j)) ∧
  Cond.classLink own index C ∈ zw_T ∧ Cond.instantiable C N ∈ zw_T ∧ Cond.initialized C ∈ zw_T ∧ ∀ j, j < N → defaultValue (ty0 j) = if zc_isr (T j).2.2.1 = true then .null else .int 0
theorem zc_new {index ci N : Nat} (hS : CallFix p m c cc nL s args zw_T own) (hK : zm_K G s) (hF : zl_N own index ci N) (hI : zm_I G nc zs M s H locs) (hsz : s.heap.size + cells = G.2.2.1 + nc) (h0 : zc_0 nc M) (hsh : zs nc = (10 + ci, 0))
    (hc : cells + 1 ≤ R.cells) (hsl : slots + N ≤ R.slots) (hdg : decode cc pc = .ok (.new index, 3))
    (kk : ∀ H : Heap, zm_I G (nc + 1) zs M s H locs → W p l e R s m args below meth c H locs (cells + 1) (slots + N) Q (F0 m (pc + 3) ls (.ref (G.2.2.1 + nc) :: rest))) : W p l e R s m args below meth c H locs cells slots Q (F0 m pc ls rest) := by
  refine zc_size hK hI hsz fun hz => ?_
  obtain ⟨C, T, ty0, hcl, hin, hty, hlink, hinst, hini, hdef⟩ := hF
  have hT := hS.2.2.2.2
  have hKn := hK.1.1 ci _ hcl
  refine W.newcK hS.1 hS.2.1 hS.2.2.2.1 (hT _ hlink) (hT _ hinst) (hT _ hini) rfl hdg hc hsl hKn.2.1 hz fun H1 kC hkC e1 z1 o1 => ?_
  refine kk H1 (zc_grow hI (by omega) hz z1 o1 (fun r hr => ?_))
  rw [zm_obj hsh] at hr
  subst hr
  intro k x hx
  have hk : k < 1 := (List.getElem?_eq_some_iff.mp hx).1
  rw [show k = 0 by omega] at hx
  cases hx
  refine ⟨_, hcl, (u_born ty0 hT hin hKn hkC e1 hty).to (fun j hj => ?_)⟩
  rw [hdef j hj]
  have h1 := zm_fs (G := G) (M := M) nc hcl hj
  simp only [vp_V, List.getD_eq_getElem?_getD, h1, (h0 nc (Nat.le_refl _)).1, (h0 nc (Nat.le_refl _)).2.1]
  split <;> rfl
theorem zc_obj {idx a : Nat} (hS : CallFix p m c cc nL s args zw_T own) (hl : Cond.methodLink own idx Lib.objectInit ∈ zw_T) (hsize : ls.size = nL) (hR : 1 ≤ R.frames ∧ (rest.map fun v => v.category).sum + 12 ≤ R.locals) (hdg : decode cc pc = .ok (.invokespecial idx, 3))
    (kk : W p l e R s m args below meth c H locs cells slots Q (F0 m (pc + 3) ls rest)) : W p l e R s m args below meth c H locs cells slots Q (F0 m pc ls (.ref a :: rest)) :=
  W.objInit hS.1 hS.2.1 hS.2.2.2.1 (hS.2.2.2.2 _ hl) (hS.2.2.2.2 _ (zw_mem (i := 66) (by decide +kernel) (by decide +kernel))) (hS.2.2.2.2 _ (zw_mem (i := 67) (by decide +kernel) (by decide +kernel))) rfl (by rw [hS.2.2.1]; exact hsize) rfl hdg hR.1 (by show 2 * 0 + _ + 12 ≤ _; omega) kk
/-- a final field that is a reference, in its class's constructor -/
def zl_P (own : String) (index ci k : Nat) (ty : FieldType) : Prop := ∃ (T : u_T) (N : Nat) (ty0 : Nat → FieldType), zc_cl[ci]? = some (own, T, N) ∧ (∀ w ∈ u_ws own T N, w ∈ zw_T) ∧ (∀ j, j < N → parseFieldDescriptor (T j).2.2.1 = some (ty0 j)) ∧
  (∀ a, a < N → ∀ b, b < N → a ≠ b → (T a).2.1 ≠ (T b).2.1) ∧ k < N ∧ zc_isr (T k).2.2.1 = true ∧ (T k).2.2.2 = true ∧ parseFieldDescriptor (T k).2.2.1 = some ty ∧ (T k).1 = own ∧ Cond.fieldLink own index (T k).1 (T k).2.1 (T k).2.2.1 ∈ zw_T
theorem zc_put {index ci k a n b : Nat} {ty : FieldType} (hS : CallFix p m c cc nL s args zw_T own) (hK : zm_K G s) (hname : meth.name = "<init>") (hF : zl_P own index ci k ty) (hI : zm_I G nc zs M s H locs) (ha : a < nc) (hs : zs a = (10 + ci, n)) (hn : ∀ q, narrow ty (.ref q) = .ref q) (hft : ∀ q, fits ty (.ref q) = true) (hdg : decode cc pc = .ok (.putfield index, 3))
    (kk : ∀ (H : Heap) (locs : List Loc), zm_I G nc zs (zm_ur M a k (some b)) s H locs → W p l e R s m args below meth c H locs cells slots Q (F0 m (pc + 3) ls rest)) : W p l e R s m args below meth c H locs cells slots Q (F0 m pc ls (.ref (G.2.2.1 + b) :: .ref (G.2.2.1 + a) :: rest)) := by
  obtain ⟨hx, hb, -, hown, hT⟩ := hS
  obtain ⟨T, N, ty0, hc, hin, hty, hnm, hk, hr, hfin, hd, hdecl, hl⟩ := hF
  have he : (zm_w G zc_cl nc zs M)[a]? = some (G.2.2.1 + a, .inr (ci, (List.range (zc_N zc_cl ci)).map (zm_fld G.2.2.1 (zc_ref zc_cl ci) M a))) := by rw [zm_w_at ha, zm_obj hs]
  have hN : k < zc_N zc_cl ci := by simp [zc_N, hc, hk]
  have hr' : zc_ref zc_cl ci k = true := by simp [zc_ref, hc, hr]
  have e := zm_set_fr (G := G) (cl := zc_cl) (nc := nc) (sh := zs) (M := M) (v := some b) hs hr'
  exact va_putF hx hb hT hin ty0 hty hnm hown hK.1 hI.1 zm_D hI.2 a he hc k hk (hT _ hl) (fun _ h => h) hfin hname hdecl hd (hn _) (hft _) (by simpa using hN) hdg (fun H1 locs1 hP _ hS1 => kk H1 locs1 ⟨by rw [← e]; exact hP, hS1⟩)
/-- an element that is a reference -/
theorem zc_ast {a kd n b ci k : Nat} {C : String} {T : u_T} {N : Nat} {i : Int32} (hS : CallFix p m c cc nL s args zw_T own) (hK : zm_K G s) (hI : zm_I G nc zs M s H locs) (ha : a < nc) (hs : zs a = (kd, n)) (hkd : 2 < kd) (hk7 : kd < 7) (hC : zk_ty kd = .object C) (hb : b < nc) (hsb : zs b = (10 + ci, k)) (hcl : zc_cl[ci]? = some (C, T, N)) (hin : vp_in i n) (hdg : decode cc pc = .ok (.aastore, 1))
    (kk : ∀ (H : Heap) (locs : List Loc), zm_I G nc zs (zm_ur M a i.toNatClampNeg (some b)) s H locs → W p l e R s m args below meth c H locs cells slots Q (F0 m (pc + 1) ls rest)) : W p l e R s m args below meth c H locs cells slots Q (F0 m pc ls (.ref (G.2.2.1 + b) :: .int i :: .ref (G.2.2.1 + a) :: rest)) := by
  have e := zm_set_ar (G := G) (cl := zc_cl) (nc := nc) (sh := zs) (M := M) (i := i.toNatClampNeg) (v := b) hkd (by omega) hs
  have hv : (zm_w G zc_cl nc zs M)[b]? = some (G.2.2.1 + b, .inr (ci, (List.range (zc_N zc_cl ci)).map (zm_fld G.2.2.1 (zc_ref zc_cl ci) M b))) := by rw [zm_w_at hb, zm_obj hsb]
  exact va_astq hS.1 hS.2.1 hK.1 hI.1 zm_D hI.2 a kd b ci (r := (C, T, N)) (zm_at_ar hkd (by omega) ha hs) (by rw [zk_at G hk7, hC]) hv hcl hin hdg (fun H1 locs1 hP _ hS1 => kk H1 locs1 ⟨by rw [← e]; exact hP, hS1⟩)
variable {y : MethodName} {bytes : ByteArray} {maxL : Nat} {d index n mc ms : Nat} {As : List Value} {post : zm_T → Prop}
def zl_I (own : String) (index : Nat) (y : MethodName) (bytes : ByteArray) (maxL n : Nat) : Prop :=
  (Cond.methodLink own index y ∈ zw_T ∨ ∃ host, Cond.methodLinkNest own index y host ∈ zw_N) ∧ Cond.instanceMethod y ∈ zw_T ∧ Cond.initialized y.cls ∈ zw_T ∧ Cond.code y bytes maxL none ∈ zw_T ∧ (y.cls ≠ "java/lang/invoke/MethodHandle" ∧ y.cls ≠ "java/lang/invoke/VarHandle" ∧ (parseMethodDescriptor y.desc).map (fun d => d.parameters.length) = some n) ∧ y.name = "<init>"
def zc_rm (d mc ms : Nat) : Room := { frames := d, cells := mc, slots := ms, locals := 60 * d }
theorem zc_B.blind {vs : List Value} : FrameBlind (va_Pc vs (zc_B G nc M)) := by
  intro a U g mk h
  obtain ⟨h1, h2, h3, h4⟩ := h
  exact ⟨h1, (zm_B.blind a U g mk ⟨h1, h2⟩).2, h3, fun C hC => va_AO.moved (u := U) (U := U.calling g mk a) (Vm.Alike.refl U.vm) (h4 C hC)⟩
theorem zc_call {b : Nat} (hS : CallFix p m c cc nL s args zw_T own) (hK : zm_K G s) (hAO : ∀ C ∈ zc_A, va_AO C s) (hM : Met l y (zr_ws y bytes maxL none) (zc_rm d mc ms) (va_Pc (.ref (G.2.2.1 + b) :: As) (zc_B G nc M)) (va_Qv post (zm_B G (nc + mc) zs) (zm_A G)) mc ms (zm_A G)) (hL : zl_I own index y bytes maxL n) (hI : zm_I G nc zs M s H locs) (hsz : s.heap.size + cells = G.2.2.1 + nc)
    (hn : As.length = n) (hsize : ls.size = nL) (hW : (rest.map fun v => v.category).sum ≤ 8) (hR : d + 1 ≤ R.frames ∧ 8 + (maxL + 11) + 60 * d ≤ R.locals) (hf : cells + mc ≤ R.cells ∧ slots + ms ≤ R.slots) (hdg : decode cc pc = .ok (.invokespecial index, 3)) {st0 : List Value} (hst : st0 = As.reverse ++ .ref (G.2.2.1 + b) :: rest)
    (kk : ∀ (M' : zm_T) (H : Heap) (locs : List Loc), post M' → zm_I G (nc + mc) zs M' s H locs → W p l e R s m args below meth c H locs (cells + mc) (slots + ms) Q (F0 m (pc + 3) ls rest)) : W p l e R s m args below meth c H locs cells slots Q (F0 m pc ls st0) := by
  refine zc_size hK hI hsz fun hz => ?_
  obtain ⟨hl, hin, hini, hcode, hd, hy⟩ := hL
  have hT := hS.2.2.2.2
  subst hst
  have hp : PreS s H (va_Pc (.ref (G.2.2.1 + b) :: As) (zc_B G nc M)) (.ref (G.2.2.1 + b) :: As) := ⟨zc_B.blind, fun U hU hW => ⟨rfl, hI.B hK hU hW, by rw [hU]; exact hz, fun C hC => va_AO.moved hW.alike (hAO C hC)⟩⟩
  have hrun : va_Run p l e R s m args below meth c H locs cells slots mc ms (F0 m pc ls (As.reverse ++ .ref (G.2.2.1 + b) :: rest)) rest (va_Qv post (zm_B G (nc + mc) zs) (zm_A G) (Value.ref (G.2.2.1 + b) :: As).toArray) (zm_A G) := by
    rcases hl with hl | ⟨host, hl⟩
    · exact va_runI hS hM ⟨callB_of n hT (zr_good hcode) rfl rfl rfl (hT _ hini) (hT _ hl) hd hR, hy, hT _ hin⟩ hp rfl hn hsize rfl (lv_room hW) hdg hf
    · exact va_runIN (host := host) hS hM ⟨va_cnB n hT (zr_good hcode) rfl rfl rfl (hK.2.1 _ hl) (hT _ hini) hd hR, hy, hT _ hin⟩ hp rfl hn hsize rfl (lv_room hW) hdg hf
  exact va_callv hrun hI.2 (fun _ _ h => h) (fun _ h => h) (fun u t H1 locs1 ht _ hpo hB _ _ hS1 => kk u H1 locs1 hpo ⟨by rw [← ht]; exact hB.1, hS1⟩)
theorem zc_met {vs : List Value} (hy : plainFor y = true) (hlen : (lg_sl vs).length ≤ maxL)
    (body : ∀ (p : Program) (e : Env) (s : State) (m : MethodId) (below : List Frame) (meth : Method) (c : Code) (ls : Array Slot), CallFix p m c bytes maxL s vs.toArray zw_T y.cls → zm_K G s → (∀ C ∈ zc_A, va_AO C s) → s.heap.size + 0 = G.2.2.1 + nc → meth.name = y.name → meth.locks = false → meth.sig.returnType = none → lv_has ls maxL (lv_args 0 vs) → zm_I G nc zs M s s.heap [] →
      W p l e (zc_rm d mc ms) s m vs.toArray below meth c s.heap [] 0 0 (MQ below (va_Qv post (zm_B G (nc + mc) zs) (zm_A G)) vs.toArray s mc ms (zm_A G)) (F0 m 0 ls [])) :
    Met l y (zr_ws y bytes maxL none) (zc_rm d mc ms) (va_Pc vs (zc_B G nc M)) (va_Qv post (zm_B G (nc + mc) zs) (zm_A G)) mc ms (zm_A G) := by
  refine va_MetF (cc := bytes) (maxL := maxL) (ret := none) hy rfl ?_
  intro p e s m args below meth c s₁ B hml hv
  obtain ⟨rfl, hB, hsz, hAO⟩ := hv
  have hts := atoms_spec (ws := zr_ws y bytes maxL none) B.pre
  have hl := lv_entry vs (n := maxL) hlen
  rw [lg_entry_eq]
  exact body p e s m below meth c _ ⟨B.exec, B.bytes, hml, findClass_of_methodNamed B.named, fun w hw => hts w (List.mem_cons_of_mem _ hw)⟩ hB.2 hAO (by rw [hsz]; rfl) (name_of_methodNamed B.named B.method).1 B.notSynchronized B.returns hl ⟨hB.1, va_S.rf⟩
theorem zc_vret {nd : Nat} (hS : CallFix p m c cc nL s args zw_T own) (hK : zm_K G s) (hlk : meth.locks = false) (hr : meth.sig.returnType = none) (hI : zm_I G nd zs M s H locs) (hdg : decode cc pc = .ok (.return_, 1)) (hp : post M) :
    W p l e R s m args below meth c H locs cells slots (MQ below (va_Qv post (zm_B G nd zs) (zm_A G)) args s cells slots (zm_A G)) (F0 m pc ls []) :=
  W.vret hS.1 hS.2.1 hr (fun t ht hW => ⟨⟨M, rfl, hp, hI.B hK ht hW⟩, hI.2.F ht⟩) hI.2.2.2 hdg hlk
end ZM
theorem zc_sz {a b c d : Nat} (h : a + b = c + d) (k : Nat) : a + (b + k) = c + (d + k) := by omega
theorem zc_0.ofur {G : zg_T} {nc a k : Nat} {v : Option Nat} {M : zm_T} {s : State} {H : Heap} {locs : List Loc} (_ : zm_I G nc zs (zm_ur M a k v) s H locs) (h : zc_0 nc M) (ha : a < nc) : zc_0 nc (zm_ur M a k v) := h.ur ha
theorem zc_0.ofui {G : zg_T} {nc a k : Nat} {v : Int32} {M : zm_T} {s : State} {H : Heap} {locs : List Loc} (_ : zm_I G nc zs (zm_ui M a k v) s H locs) (h : zc_0 nc M) (ha : a < nc) : zc_0 nc (zm_ui M a k v) := h.ui ha

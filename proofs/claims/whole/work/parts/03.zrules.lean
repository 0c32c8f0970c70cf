/-! What holds at a method's start and end, in the words of part 02, and a row an instruction that touches the heap or calls. zc_cl, zw_T, zw_N, zk_ty stand in part 01. -/
def zk_tys (G : zg_T) : List (ClassId × FieldType) := (List.range 7).map (fun k => (G.2.1 k, zk_ty k))
theorem zk_at (G : zg_T) {k : Nat} (h : k < 7) : (zk_tys G)[k]? = some (G.2.1 k, zk_ty k) := by
  simp [zk_tys, h]
/-- what is true of the tables, and of the cells that were there before -/
def zm_K (G : zg_T) (s : State) : Prop := va_K G.1 zc_cl (zk_tys G) s ∧ (∀ w ∈ zw_N, va_Nw w s) ∧ G.2.2.1 ≤ s.heap.size ∧ ∀ q, q < G.2.2.1 → s.heap[q]? = G.2.2.2[q]?
/-- the world at a state -/
def zm_B (G : zg_T) (nc : Nat) (sh : Nat → Nat × Nat) (M : zm_T) (U : State) : Prop := va_P G.1 zc_cl (zm_w G zc_cl nc sh M) U.heap ∧ zm_K G U
/-- the world in a walk -/
def zm_I (G : zg_T) (nc : Nat) (sh : Nat → Nat × Nat) (M : zm_T) (s : State) (H : Heap) (locs : List Loc) : Prop := va_P G.1 zc_cl (zm_w G zc_cl nc sh M) H ∧ va_S (zm_A G) s.heap H locs
theorem zw_N_moved {s U : State} (hW : s.WarmedH U.vm) (h : ∀ w ∈ zw_N, va_Nw w s) : ∀ w ∈ zw_N, va_Nw w U := by
  intro w hw
  have h1 := h w hw
  have h2 := zw_N_kind w hw
  cases w with
  | fieldLinkNest a i b n d h => exact va_Nw.warmF hW h1
  | methodLinkNest a i x h => exact va_Nw.warmM hW h1
  | _ => exact absurd h2 (by simp [zw_isN])
theorem zw_N_onT {w : Cond} (hw : w ∈ zw_N) : w.onTables = true := by
  have h2 := zw_N_kind w hw
  cases w <;> first | rfl | exact absurd h2 (by simp [zw_isN])
section ZR
variable {p : Program} {l : Launch} {e : Env} {R : Room} {s : State} {m : MethodId} {args : Array Value} {below : List Frame} {meth : Method} {c : Code} {H : Heap} {locs : List Loc} {cells slots : Nat} {Q : State → Prop}
variable {cc : ByteArray} {pc nL : Nat} {ls : Array Slot} {rest : List Value} {own : String}
variable {G : zg_T} {nc : Nat} {sh : Nat → Nat × Nat} {M : zm_T}
/-- the locals, by their slots -/
def zl_p : Nat → List (Option Value) → List (Nat × Value)
  | _, [] => []
  | n, none :: r => zl_p (n + 1) r
  | n, some v :: r => (n, v) :: zl_p (n + 1) r
theorem zl_p_mem : ∀ (vs : List (Option Value)) (n i : Nat) (v : Value), (i, v) ∈ zl_p n vs ↔ ∃ j, i = n + j ∧ vs[j]? = some (some v)
  | [], n, i, v => by simp [zl_p]
  | none :: r, n, i, v => by
    simp only [zl_p, zl_p_mem r (n + 1) i v]
    constructor
    · rintro ⟨j, h1, h2⟩
      exact ⟨j + 1, by omega, by simpa using h2⟩
    · rintro ⟨j, h1, h2⟩
      cases j with
      | zero => simp at h2
      | succ j => exact ⟨j, by omega, by simpa using h2⟩
  | some w :: r, n, i, v => by
    simp only [zl_p, List.mem_cons, zl_p_mem r (n + 1) i v]
    constructor
    · rintro (h | ⟨j, h1, h2⟩)
      · cases h
        exact ⟨0, by omega, by simp⟩
      · exact ⟨j + 1, by omega, by simpa using h2⟩
    · rintro ⟨j, h1, h2⟩
      cases j with
      | zero =>
        simp at h2
        subst h2
        left
        have : i = n := by omega
        rw [this]
      | succ j => exact Or.inr ⟨j, by omega, by simpa using h2⟩
def zl_has (ls : Array Slot) (nL : Nat) (vs : List (Option Value)) : Prop := lv_has ls nL (zl_p 0 vs)
theorem zl_at {vs : List (Option Value)} (h : zl_has ls nL vs) {i : Nat} {v : Value} (hv : vs[i]? = some (some v)) : ls[i]? = some (.val v) :=
  h.2.2 (i, v) ((zl_p_mem vs 0 i v).mpr ⟨i, by omega, hv⟩)
/-- no long lies right before slot i -/
def zl_ok (vs : List (Option Value)) (i : Nat) : Bool := match i with
  | 0 => true
  | j + 1 => match vs[j]? with
    | some (some v) => !(v.category == 2)
    | _ => true
theorem zl_st1 {vs : List (Option Value)} {i : Nat} {x : Value} (hok : zl_ok vs i = true) (h : lv_has ls nL ((i, x) :: (zl_p 0 vs).filter (fun q => !(q.1 == i) && !(q.1 + 1 == i && q.2.category == 2)))) : zl_has ls nL (vs.set i (some x)) := by
  refine ⟨h.1, h.2.1, fun q hq => h.2.2 q ?_⟩
  obtain ⟨j, v⟩ := q
  obtain ⟨j', hj, hv⟩ := (zl_p_mem _ 0 j v).mp hq
  have hjj : j' = j := by omega
  subst hjj
  rw [List.getElem?_set] at hv
  by_cases hij : i = j'
  · subst hij
    rw [if_pos rfl] at hv
    split at hv
    · cases hv
      exact List.mem_cons_self
    · cases hv
  · rw [if_neg hij] at hv
    refine List.mem_cons_of_mem _ (List.mem_filter.mpr ⟨(zl_p_mem vs 0 j' v).mpr ⟨j', by omega, hv⟩, ?_⟩)
    have h1 : (j' == i) = false := by simp; omega
    by_cases h2 : j' + 1 = i
    · subst h2
      simp only [zl_ok, hv] at hok
      simp [h1] at hok ⊢
      exact hok
    · have h3 : (j' + 1 == i) = false := by simp; omega
      simp [h1, h3]
theorem zl_st2 {vs : List (Option Value)} {i : Nat} {x : Value} (hok : zl_ok vs i = true) (h : lv_has ls nL ((i, x) :: (zl_p 0 vs).filter (fun q => !(q.1 == i) && (!(q.1 == i + 1) && !(q.1 + 1 == i && q.2.category == 2))))) : zl_has ls nL ((vs.set i (some x)).set (i + 1) none) := by
  refine ⟨h.1, h.2.1, fun q hq => h.2.2 q ?_⟩
  obtain ⟨j, v⟩ := q
  obtain ⟨j', hj, hv⟩ := (zl_p_mem _ 0 j v).mp hq
  have hjj : j' = j := by omega
  subst hjj
  rw [List.getElem?_set] at hv
  by_cases hij2 : i + 1 = j'
  · rw [if_pos hij2] at hv
    split at hv <;> cases hv
  · rw [if_neg hij2, List.getElem?_set] at hv
    by_cases hij : i = j'
    · subst hij
      rw [if_pos rfl] at hv
      split at hv
      · cases hv
        exact List.mem_cons_self
      · cases hv
    · rw [if_neg hij] at hv
      refine List.mem_cons_of_mem _ (List.mem_filter.mpr ⟨(zl_p_mem vs 0 j' v).mpr ⟨j', by omega, hv⟩, ?_⟩)
      have h1 : (j' == i) = false := by simp; omega
      have h1' : (j' == i + 1) = false := by simp; omega
      by_cases h2 : j' + 1 = i
      · subst h2
        simp only [zl_ok, hv] at hok
        simp [h1, h1'] at hok ⊢
        exact hok
      · have h3 : (j' + 1 == i) = false := by simp; omega
        simp [h1, h1', h3]
theorem zr_iload (hx : p.tables.exec = Jvm.exec) (hb : c.code = cc) {i : Nat} {x : Int32} {vs : List (Option Value)} (hdg : decode cc pc = .ok (.iload i, 2)) (hl : zl_has ls nL vs) (hv : vs[i]? = some (some (.int x)))
    (k : W p l e R s m args below meth c H locs cells slots Q (F0 m (pc + 2) ls (.int x :: rest))) : W p l e R s m args below meth c H locs cells slots Q (F0 m pc ls rest) := lv_iload hx hb hdg (zl_at hl hv) k
theorem zr_iload_n (hx : p.tables.exec = Jvm.exec) (hb : c.code = cc) {i : Fin 4} {x : Int32} {vs : List (Option Value)} (hdg : decode cc pc = .ok (.iload_n i, 1)) (hl : zl_has ls nL vs) (hv : vs[(i : Nat)]? = some (some (.int x)))
    (k : W p l e R s m args below meth c H locs cells slots Q (F0 m (pc + 1) ls (.int x :: rest))) : W p l e R s m args below meth c H locs cells slots Q (F0 m pc ls rest) := lv_iload_n hx hb hdg rfl (zl_at hl hv) k
theorem zr_lload (hx : p.tables.exec = Jvm.exec) (hb : c.code = cc) {i : Nat} {x : Int64} {vs : List (Option Value)} (hdg : decode cc pc = .ok (.lload i, 2)) (hl : zl_has ls nL vs) (hv : vs[i]? = some (some (.long x)))
    (k : W p l e R s m args below meth c H locs cells slots Q (F0 m (pc + 2) ls (.long x :: rest))) : W p l e R s m args below meth c H locs cells slots Q (F0 m pc ls rest) := lv_lload hx hb hdg (zl_at hl hv) k
theorem zr_lload_n (hx : p.tables.exec = Jvm.exec) (hb : c.code = cc) {i : Fin 4} {x : Int64} {vs : List (Option Value)} (hdg : decode cc pc = .ok (.lload_n i, 1)) (hl : zl_has ls nL vs) (hv : vs[(i : Nat)]? = some (some (.long x)))
    (k : W p l e R s m args below meth c H locs cells slots Q (F0 m (pc + 1) ls (.long x :: rest))) : W p l e R s m args below meth c H locs cells slots Q (F0 m pc ls rest) := lv_lload_n hx hb hdg rfl (zl_at hl hv) k
theorem zr_aload (hx : p.tables.exec = Jvm.exec) (hb : c.code = cc) {i : Nat} {x : Nat} {vs : List (Option Value)} (hdg : decode cc pc = .ok (.aload i, 2)) (hl : zl_has ls nL vs) (hv : vs[i]? = some (some (.ref x)))
    (k : W p l e R s m args below meth c H locs cells slots Q (F0 m (pc + 2) ls (.ref x :: rest))) : W p l e R s m args below meth c H locs cells slots Q (F0 m pc ls rest) := lv_aload hx hb hdg (zl_at hl hv) k
theorem zr_aload_n (hx : p.tables.exec = Jvm.exec) (hb : c.code = cc) {i : Fin 4} {x : Nat} {vs : List (Option Value)} (hdg : decode cc pc = .ok (.aload_n i, 1)) (hl : zl_has ls nL vs) (hv : vs[(i : Nat)]? = some (some (.ref x)))
    (k : W p l e R s m args below meth c H locs cells slots Q (F0 m (pc + 1) ls (.ref x :: rest))) : W p l e R s m args below meth c H locs cells slots Q (F0 m pc ls rest) := lv_aload_n hx hb hdg rfl (zl_at hl hv) k
theorem zr_istore (hx : p.tables.exec = Jvm.exec) (hb : c.code = cc) {i : Nat} {x : Int32} {vs : List (Option Value)} (hdg : decode cc pc = .ok (.istore i, 2)) (hl : zl_has ls nL vs) (hn : i < nL) (hok : zl_ok vs i = true)
    (k : ∀ ls : Array Slot, zl_has ls nL (vs.set i (some (.int x))) → W p l e R s m args below meth c H locs cells slots Q (F0 m (pc + 2) ls rest)) : W p l e R s m args below meth c H locs cells slots Q (F0 m pc ls (.int x :: rest)) := lv_istore hx hb hdg hl hn rfl (fun ls' h => k ls' (zl_st1 hok h))
theorem zr_istore_n (hx : p.tables.exec = Jvm.exec) (hb : c.code = cc) {i : Fin 4} {x : Int32} {vs : List (Option Value)} (hdg : decode cc pc = .ok (.istore_n i, 1)) (hl : zl_has ls nL vs) (hn : (i : Nat) < nL) (hok : zl_ok vs i = true)
    (k : ∀ ls : Array Slot, zl_has ls nL (vs.set i (some (.int x))) → W p l e R s m args below meth c H locs cells slots Q (F0 m (pc + 1) ls rest)) : W p l e R s m args below meth c H locs cells slots Q (F0 m pc ls (.int x :: rest)) := lv_istore_n hx hb hdg rfl hl hn rfl (fun ls' h => k ls' (zl_st1 hok h))
theorem zr_astore (hx : p.tables.exec = Jvm.exec) (hb : c.code = cc) {i : Nat} {x : Nat} {vs : List (Option Value)} (hdg : decode cc pc = .ok (.astore i, 2)) (hl : zl_has ls nL vs) (hn : i < nL) (hok : zl_ok vs i = true)
    (k : ∀ ls : Array Slot, zl_has ls nL (vs.set i (some (.ref x))) → W p l e R s m args below meth c H locs cells slots Q (F0 m (pc + 2) ls rest)) : W p l e R s m args below meth c H locs cells slots Q (F0 m pc ls (.ref x :: rest)) := lv_astore hx hb hdg hl hn rfl (fun ls' h => k ls' (zl_st1 hok h))
theorem zr_astore_n (hx : p.tables.exec = Jvm.exec) (hb : c.code = cc) {i : Fin 4} {x : Nat} {vs : List (Option Value)} (hdg : decode cc pc = .ok (.astore_n i, 1)) (hl : zl_has ls nL vs) (hn : (i : Nat) < nL) (hok : zl_ok vs i = true)
    (k : ∀ ls : Array Slot, zl_has ls nL (vs.set i (some (.ref x))) → W p l e R s m args below meth c H locs cells slots Q (F0 m (pc + 1) ls rest)) : W p l e R s m args below meth c H locs cells slots Q (F0 m pc ls (.ref x :: rest)) := lv_astore_n hx hb hdg rfl hl hn rfl (fun ls' h => k ls' (zl_st1 hok h))
theorem zr_lstore (hx : p.tables.exec = Jvm.exec) (hb : c.code = cc) {i : Nat} {x : Int64} {vs : List (Option Value)} (hdg : decode cc pc = .ok (.lstore i, 2)) (hl : zl_has ls nL vs) (hn : i + 1 < nL) (hok : zl_ok vs i = true)
    (k : ∀ ls : Array Slot, zl_has ls nL ((vs.set i (some (.long x))).set (i + 1) none) → W p l e R s m args below meth c H locs cells slots Q (F0 m (pc + 2) ls rest)) : W p l e R s m args below meth c H locs cells slots Q (F0 m pc ls (.long x :: rest)) := lv_lstore hx hb hdg hl hn rfl (fun ls' h => k ls' (zl_st2 hok h))
theorem zr_lstore_n (hx : p.tables.exec = Jvm.exec) (hb : c.code = cc) {i : Fin 4} {x : Int64} {vs : List (Option Value)} (hdg : decode cc pc = .ok (.lstore_n i, 1)) (hl : zl_has ls nL vs) (hn : (i : Nat) + 1 < nL) (hok : zl_ok vs i = true)
    (k : ∀ ls : Array Slot, zl_has ls nL ((vs.set i (some (.long x))).set (i + 1) none) → W p l e R s m args below meth c H locs cells slots Q (F0 m (pc + 1) ls rest)) : W p l e R s m args below meth c H locs cells slots Q (F0 m pc ls (.long x :: rest)) := lv_lstore_n hx hb hdg rfl hl hn rfl (fun ls' h => k ls' (zl_st2 hok h))
theorem zr_iinc (hx : p.tables.exec = Jvm.exec) (hb : c.code = cc) {i : Nat} {n : Int} {x : Int32} {vs : List (Option Value)} (hdg : decode cc pc = .ok (.iinc i n, 3)) (hl : zl_has ls nL vs) (hn : i < nL) (hv : vs[i]? = some (some (.int x))) (hok : zl_ok vs i = true)
    (k : ∀ ls : Array Slot, zl_has ls nL (vs.set i (some (.int (x + Int32.ofInt n)))) → W p l e R s m args below meth c H locs cells slots Q (F0 m (pc + 3) ls rest)) : W p l e R s m args below meth c H locs cells slots Q (F0 m pc ls rest) := by
  obtain ⟨k0, hk0⟩ := List.getElem?_of_mem ((zl_p_mem vs 0 i (.int x)).mpr ⟨i, by omega, hv⟩)
  exact lv_iinc hx hb hdg hl hk0 rfl hn rfl (fun ls' h => k ls' (zl_st1 hok h))
/-- a field's link: class ci, slot k; a reference or not; final or not; its type -/
def zl_F (own : String) (index ci k : Nat) (isr fin : Bool) (ty : FieldType) : Prop := ∃ (C : String) (T : u_T) (N : Nat) (ty0 : Nat → FieldType), zc_cl[ci]? = some (C, T, N) ∧ (∀ w ∈ u_ws C T N, w ∈ zw_T) ∧ (∀ j, j < N → parseFieldDescriptor (T j).2.2.1 = some (ty0 j)) ∧
  (∀ a, a < N → ∀ b, b < N → a ≠ b → (T a).2.1 ≠ (T b).2.1) ∧ k < N ∧ zc_isr (T k).2.2.1 = isr ∧ (T k).2.2.2 = fin ∧ parseFieldDescriptor (T k).2.2.1 = some ty ∧
  (Cond.fieldLink own index (T k).1 (T k).2.1 (T k).2.2.1 ∈ zw_T ∨ ∃ host, Cond.fieldLinkNest own index (T k).1 (T k).2.1 (T k).2.2.1 host ∈ zw_N)
theorem zm_fs {ci k : Nat} {C : String} {T : u_T} {N : Nat} (a : Nat) (hc : zc_cl[ci]? = some (C, T, N)) (hk : k < N) : ((List.range (zc_N zc_cl ci)).map (zm_fld G.2.2.1 (zc_ref zc_cl ci) M a))[k]? = some (if zc_isr (T k).2.2.1 = true then va_rf ((M.2.1 a k).map (fun b => G.2.2.1 + b)) else .int (M.1 a k)) := by
  have hN : k < zc_N zc_cl ci := by simp [zc_N, hc, hk]
  rw [List.getElem?_map, List.getElem?_range hN]
  simp [zm_fld, zc_ref, hc]
theorem zr_get (hS : CallFix p m c cc nL s args zw_T own) (hK : zm_K G s) {index ci k a n : Nat} {isr fin : Bool} {ty : FieldType} (hF : zl_F own index ci k isr fin ty) (hI : zm_I G nc sh M s H locs) (ha : a < nc) (hs : sh a = (10 + ci, n)) (hdg : decode cc pc = .ok (.getfield index, 3))
    (kk : W p l e R s m args below meth c H locs cells slots Q (F0 m (pc + 3) ls ((if isr = true then va_rf ((M.2.1 a k).map (fun b => G.2.2.1 + b)) else .int (M.1 a k)) :: rest))) : W p l e R s m args below meth c H locs cells slots Q (F0 m pc ls (.ref (G.2.2.1 + a) :: rest)) := by
  obtain ⟨hx, hb, -, hown, hT⟩ := hS
  obtain ⟨C, T, N, ty0, hc, hin, -, -, hk, hr, -, -, hl⟩ := hF
  have he : (zm_w G zc_cl nc sh M)[a]? = some (G.2.2.1 + a, .inr (ci, (List.range (zc_N zc_cl ci)).map (zm_fld G.2.2.1 (zc_ref zc_cl ci) M a))) := by rw [zm_w_at ha, zm_obj hs]
  have hv := zm_fs (G := G) (M := M) a hc hk
  rw [hr] at hv
  rcases hl with hl | ⟨host, hl⟩
  · exact va_get hx hb hT hin hown hK.1 hI.1 a he hc k hk (hT _ hl) (fun _ h => h) hv hdg kk
  · exact va_getN (host := host) hx hb hT hin hown hK.1 hI.1 a he hc k hk (va_Nw.use (zw_N_onT hl) (hK.2.1 _ hl)) (fun _ h => h) hv hdg kk
theorem zr_geti (hS : CallFix p m c cc nL s args zw_T own) (hK : zm_K G s) {index ci k a n : Nat} {fin : Bool} {ty : FieldType} (hF : zl_F own index ci k false fin ty) (hI : zm_I G nc sh M s H locs) (ha : a < nc) (hs : sh a = (10 + ci, n)) (hdg : decode cc pc = .ok (.getfield index, 3))
    (kk : W p l e R s m args below meth c H locs cells slots Q (F0 m (pc + 3) ls (.int (M.1 a k) :: rest))) : W p l e R s m args below meth c H locs cells slots Q (F0 m pc ls (.ref (G.2.2.1 + a) :: rest)) := zr_get hS hK hF hI ha hs hdg kk
/-- a reference that is there -/
theorem zr_getr (hS : CallFix p m c cc nL s args zw_T own) (hK : zm_K G s) {index ci k a n b : Nat} {fin : Bool} {ty : FieldType} (hF : zl_F own index ci k true fin ty) (hI : zm_I G nc sh M s H locs) (ha : a < nc) (hs : sh a = (10 + ci, n)) (hv : M.2.1 a k = some b) (hdg : decode cc pc = .ok (.getfield index, 3))
    (kk : W p l e R s m args below meth c H locs cells slots Q (F0 m (pc + 3) ls (.ref (G.2.2.1 + b) :: rest))) : W p l e R s m args below meth c H locs cells slots Q (F0 m pc ls (.ref (G.2.2.1 + a) :: rest)) := by
  refine zr_get hS hK hF hI ha hs hdg ?_
  rw [if_pos rfl, hv]
  exact kk
theorem zm_K.moved {U : State} (hK : zm_K G s) (hI : zm_I G nc sh M s H locs) (hU : U.heap = H) (hW : s.WarmedH U.vm) : zm_K G U := by
  refine ⟨va_K.moved hW.alike hK.1, zw_N_moved hW hK.2.1, ?_, fun q hq => ?_⟩
  · rw [hU]; exact Nat.le_trans hK.2.2.1 hI.2.1
  · rw [hU, hI.2.2.1 q (Nat.lt_of_lt_of_le hq hK.2.2.1) (Nat.not_le.mpr hq)]
    exact hK.2.2.2 q hq
theorem zm_I.B {U : State} (hI : zm_I G nc sh M s H locs) (hK : zm_K G s) (hU : U.heap = H) (hW : s.WarmedH U.vm) : zm_B G nc sh M U := ⟨by rw [hU]; exact hI.1, hK.moved hI hU hW⟩
theorem zm_B.blind {As : List Value} : FrameBlind (va_Pc As (zm_B G nc sh M)) := by
  intro a U g mk q
  obtain ⟨q0, qP, qK, qN, qz, qb⟩ := q
  exact ⟨q0, qP, va_K.moved (u := U) (U := U.calling g mk a) (Vm.Alike.refl U.vm) qK, fun w hw => va_Nw.same (zw_N_onT hw) (u := U) (U := U.calling g mk a) rfl (qN w hw), qz, qb⟩
theorem zr_puti (hS : CallFix p m c cc nL s args zw_T own) (hK : zm_K G s) {index ci k a n : Nat} {ty : FieldType} {v : Int32} (hF : zl_F own index ci k false false ty) (hI : zm_I G nc sh M s H locs) (ha : a < nc) (hs : sh a = (10 + ci, n)) (hn : narrow ty (.int v) = .int v) (hft : fits ty (.int v) = true) (hdg : decode cc pc = .ok (.putfield index, 3))
    (kk : ∀ (H : Heap) (locs : List Loc), zm_I G nc sh (zm_ui M a k v) s H locs → W p l e R s m args below meth c H locs cells slots Q (F0 m (pc + 3) ls rest)) : W p l e R s m args below meth c H locs cells slots Q (F0 m pc ls (.int v :: .ref (G.2.2.1 + a) :: rest)) := by
  obtain ⟨hx, hb, -, hown, hT⟩ := hS
  obtain ⟨C, T, N, ty0, hc, hin, hty, hnm, hk, hr, hfin, hd, hl⟩ := hF
  have he : (zm_w G zc_cl nc sh M)[a]? = some (G.2.2.1 + a, .inr (ci, (List.range (zc_N zc_cl ci)).map (zm_fld G.2.2.1 (zc_ref zc_cl ci) M a))) := by rw [zm_w_at ha, zm_obj hs]
  have hN : k < zc_N zc_cl ci := by simp [zc_N, hc, hk]
  have hr' : zc_ref zc_cl ci k = false := by simp [zc_ref, hc, hr]
  have e := zm_set_fi (G := G) (cl := zc_cl) (nc := nc) (sh := sh) (M := M) (v := v) hs hr'
  rcases hl with hl | ⟨host, hl⟩
  · exact va_put hx hb hT hin ty0 hty hnm hown hK.1 hI.1 zm_D hI.2 a he hc k hk (hT _ hl) (fun _ h => h) hfin hd hn hft (by simpa using hN) hdg (fun H1 locs1 hP _ hS1 => kk H1 locs1 ⟨by rw [← e]; exact hP, hS1⟩)
  · exact va_putN (host := host) hx hb hT hin ty0 hty hnm hown hK.1 hI.1 zm_D hI.2 a he hc k hk (va_Nw.use (zw_N_onT hl) (hK.2.1 _ hl)) (fun _ h => h) hfin hd hn hft (by simpa using hN) hdg (fun H1 locs1 hP _ hS1 => kk H1 locs1 ⟨by rw [← e]; exact hP, hS1⟩)
theorem zr_putr (hS : CallFix p m c cc nL s args zw_T own) (hK : zm_K G s) {index ci k a n b : Nat} {ty : FieldType} (hF : zl_F own index ci k true false ty) (hI : zm_I G nc sh M s H locs) (ha : a < nc) (hs : sh a = (10 + ci, n)) (hn : ∀ q, narrow ty (.ref q) = .ref q) (hft : ∀ q, fits ty (.ref q) = true) (hdg : decode cc pc = .ok (.putfield index, 3))
    (kk : ∀ (H : Heap) (locs : List Loc), zm_I G nc sh (zm_ur M a k (some b)) s H locs → W p l e R s m args below meth c H locs cells slots Q (F0 m (pc + 3) ls rest)) : W p l e R s m args below meth c H locs cells slots Q (F0 m pc ls (.ref (G.2.2.1 + b) :: .ref (G.2.2.1 + a) :: rest)) := by
  obtain ⟨hx, hb, -, hown, hT⟩ := hS
  obtain ⟨C, T, N, ty0, hc, hin, hty, hnm, hk, hr, hfin, hd, hl⟩ := hF
  have he : (zm_w G zc_cl nc sh M)[a]? = some (G.2.2.1 + a, .inr (ci, (List.range (zc_N zc_cl ci)).map (zm_fld G.2.2.1 (zc_ref zc_cl ci) M a))) := by rw [zm_w_at ha, zm_obj hs]
  have hN : k < zc_N zc_cl ci := by simp [zc_N, hc, hk]
  have hr' : zc_ref zc_cl ci k = true := by simp [zc_ref, hc, hr]
  have e := zm_set_fr (G := G) (cl := zc_cl) (nc := nc) (sh := sh) (M := M) (v := some b) hs hr'
  rcases hl with hl | ⟨host, hl⟩
  · exact va_put hx hb hT hin ty0 hty hnm hown hK.1 hI.1 zm_D hI.2 a he hc k hk (hT _ hl) (fun _ h => h) hfin hd (hn _) (hft _) (by simpa using hN) hdg (fun H1 locs1 hP _ hS1 => kk H1 locs1 ⟨by rw [← e]; exact hP, hS1⟩)
  · exact va_putN (host := host) hx hb hT hin ty0 hty hnm hown hK.1 hI.1 zm_D hI.2 a he hc k hk (va_Nw.use (zw_N_onT hl) (hK.2.1 _ hl)) (fun _ h => h) hfin hd (hn _) (hft _) (by simpa using hN) hdg (fun H1 locs1 hP _ hS1 => kk H1 locs1 ⟨by rw [← e]; exact hP, hS1⟩)
theorem zm_at_ai {a n kd : Nat} (hk : kd < 2) (ha : a < nc) (hs : sh a = (kd, n)) : (zm_w G zc_cl nc sh M)[a]? = some (G.2.2.1 + a, .inl (G.2.1 kd, n, .inl (M.1 a))) := by
  rw [zm_w_at ha, zm_ar (by omega) hs]
  simp [zm_arr, hk]
theorem zm_at_al {a n : Nat} (ha : a < nc) (hs : sh a = (2, n)) : (zm_w G zc_cl nc sh M)[a]? = some (G.2.2.1 + a, .inl (G.2.1 2, n, .inr (.inl (M.2.2 a)))) := by
  rw [zm_w_at ha, zm_ar (by omega) hs]
  simp [zm_arr]
theorem zm_at_ar {a n kd : Nat} (hk : 2 < kd) (hk2 : kd < 10) (ha : a < nc) (hs : sh a = (kd, n)) : (zm_w G zc_cl nc sh M)[a]? = some (G.2.2.1 + a, .inl (G.2.1 kd, n, .inr (.inr (.inr (.inr (fun j => (M.2.1 a j).map (fun b => G.2.2.1 + b))))))) := by
  rw [zm_w_at ha, zm_ar hk2 hs]
  have h1 : ¬ kd < 2 := by omega
  have h2 : ¬ kd = 2 := by omega
  simp [zm_arr, h1, h2]
theorem zr_iald (hS : CallFix p m c cc nL s args zw_T own) (hK : zm_K G s) {a n : Nat} {i : Int32} (hI : zm_I G nc sh M s H locs) (ha : a < nc) (hs : sh a = (0, n)) (hin : vp_in i n) (hdg : decode cc pc = .ok (.iaload, 1))
    (kk : W p l e R s m args below meth c H locs cells slots Q (F0 m (pc + 1) ls (.int (M.1 a i.toNatClampNeg) :: rest))) : W p l e R s m args below meth c H locs cells slots Q (F0 m pc ls (.int i :: .ref (G.2.2.1 + a) :: rest)) :=
  va_iald hS.1 hS.2.1 hK.1 hI.1 a 0 (zm_at_ai (by decide) ha hs) rfl hin hdg kk
theorem zr_zald (hS : CallFix p m c cc nL s args zw_T own) (hK : zm_K G s) {a n : Nat} {i : Int32} (hI : zm_I G nc sh M s H locs) (ha : a < nc) (hs : sh a = (1, n)) (hin : vp_in i n) (hdg : decode cc pc = .ok (.baload, 1))
    (kk : W p l e R s m args below meth c H locs cells slots Q (F0 m (pc + 1) ls (.int (M.1 a i.toNatClampNeg) :: rest))) : W p l e R s m args below meth c H locs cells slots Q (F0 m pc ls (.int i :: .ref (G.2.2.1 + a) :: rest)) :=
  va_zald hS.1 hS.2.1 hK.1 hI.1 a 1 (zm_at_ai (by decide) ha hs) rfl hin hdg kk
theorem zr_lald (hS : CallFix p m c cc nL s args zw_T own) (hK : zm_K G s) {a n : Nat} {i : Int32} (hI : zm_I G nc sh M s H locs) (ha : a < nc) (hs : sh a = (2, n)) (hin : vp_in i n) (hdg : decode cc pc = .ok (.laload, 1))
    (kk : W p l e R s m args below meth c H locs cells slots Q (F0 m (pc + 1) ls (.long (M.2.2 a i.toNatClampNeg) :: rest))) : W p l e R s m args below meth c H locs cells slots Q (F0 m pc ls (.int i :: .ref (G.2.2.1 + a) :: rest)) :=
  va_lald hS.1 hS.2.1 hK.1 hI.1 a 2 (zm_at_al ha hs) rfl hin hdg kk
/-- an element that is a reference; kinds 3 to 6 -/
theorem zr_aald (hS : CallFix p m c cc nL s args zw_T own) (hK : zm_K G s) {a n kd b : Nat} {C : String} {i : Int32} (hI : zm_I G nc sh M s H locs) (ha : a < nc) (hs : sh a = (kd, n)) (hk : 2 < kd) (hk2 : kd < 7) (hC : zk_ty kd = .object C) (hin : vp_in i n) (hv : M.2.1 a i.toNatClampNeg = some b) (hdg : decode cc pc = .ok (.aaload, 1))
    (kk : W p l e R s m args below meth c H locs cells slots Q (F0 m (pc + 1) ls (.ref (G.2.2.1 + b) :: rest))) : W p l e R s m args below meth c H locs cells slots Q (F0 m pc ls (.int i :: .ref (G.2.2.1 + a) :: rest)) := by
  refine va_aldq hS.1 hS.2.1 hK.1 hI.1 a kd (zm_at_ar hk (by omega) ha hs) (by rw [zk_at G hk2, hC]) hin hdg ?_
  rw [hv]
  exact kk
theorem zr_iast (hS : CallFix p m c cc nL s args zw_T own) (hK : zm_K G s) {a n : Nat} {i x : Int32} (hI : zm_I G nc sh M s H locs) (ha : a < nc) (hs : sh a = (0, n)) (hin : vp_in i n) (hdg : decode cc pc = .ok (.iastore, 1))
    (kk : ∀ (H : Heap) (locs : List Loc), zm_I G nc sh (zm_ui M a i.toNatClampNeg x) s H locs → W p l e R s m args below meth c H locs cells slots Q (F0 m (pc + 1) ls rest)) : W p l e R s m args below meth c H locs cells slots Q (F0 m pc ls (.int x :: .int i :: .ref (G.2.2.1 + a) :: rest)) := by
  have e := zm_set_ai (G := G) (cl := zc_cl) (nc := nc) (sh := sh) (M := M) (i := i.toNatClampNeg) (v := x) (by decide : 0 < 2) hs
  exact va_iast hS.1 hS.2.1 hK.1 hI.1 zm_D hI.2 a 0 (zm_at_ai (by decide) ha hs) rfl hin hdg (fun H1 locs1 hP _ hS1 => kk H1 locs1 ⟨by rw [← e]; exact hP, hS1⟩)
theorem zr_zast (hS : CallFix p m c cc nL s args zw_T own) (hK : zm_K G s) {a n : Nat} {i x : Int32} (hI : zm_I G nc sh M s H locs) (ha : a < nc) (hs : sh a = (1, n)) (hin : vp_in i n) (hdg : decode cc pc = .ok (.bastore, 1))
    (kk : ∀ (H : Heap) (locs : List Loc), zm_I G nc sh (zm_ui M a i.toNatClampNeg (vp_nar .boolean x)) s H locs → W p l e R s m args below meth c H locs cells slots Q (F0 m (pc + 1) ls rest)) : W p l e R s m args below meth c H locs cells slots Q (F0 m pc ls (.int x :: .int i :: .ref (G.2.2.1 + a) :: rest)) := by
  have e := zm_set_ai (G := G) (cl := zc_cl) (nc := nc) (sh := sh) (M := M) (i := i.toNatClampNeg) (v := vp_nar .boolean x) (by decide : 1 < 2) hs
  exact va_zast hS.1 hS.2.1 hK.1 hI.1 zm_D hI.2 a 1 (zm_at_ai (by decide) ha hs) rfl hin hdg (fun H1 locs1 hP _ hS1 => kk H1 locs1 ⟨by rw [← e]; exact hP, hS1⟩)
theorem zr_last (hS : CallFix p m c cc nL s args zw_T own) (hK : zm_K G s) {a n : Nat} {i : Int32} {x : Int64} (hI : zm_I G nc sh M s H locs) (ha : a < nc) (hs : sh a = (2, n)) (hin : vp_in i n) (hdg : decode cc pc = .ok (.lastore, 1))
    (kk : ∀ (H : Heap) (locs : List Loc), zm_I G nc sh (zm_ul M a i.toNatClampNeg x) s H locs → W p l e R s m args below meth c H locs cells slots Q (F0 m (pc + 1) ls rest)) : W p l e R s m args below meth c H locs cells slots Q (F0 m pc ls (.long x :: .int i :: .ref (G.2.2.1 + a) :: rest)) := by
  have e := zm_set_al (G := G) (cl := zc_cl) (nc := nc) (sh := sh) (M := M) (i := i.toNatClampNeg) (v := x) hs
  exact va_last hS.1 hS.2.1 hK.1 hI.1 zm_D hI.2 a 2 (zm_at_al ha hs) rfl hin hdg (fun H1 locs1 hP _ hS1 => kk H1 locs1 ⟨by rw [← e]; exact hP, hS1⟩)
/-- an array's length -/
theorem zr_alen (hS : CallFix p m c cc nL s args zw_T own) (hK : zm_K G s) {a n kd : Nat} (hI : zm_I G nc sh M s H locs) (ha : a < nc) (hs : sh a = (kd, n)) (hk : kd < 7) (hdg : decode cc pc = .ok (.arraylength, 1))
    (kk : W p l e R s m args below meth c H locs cells slots Q (F0 m (pc + 1) ls (.int (nI n) :: rest))) : W p l e R s m args below meth c H locs cells slots Q (F0 m pc ls (.ref (G.2.2.1 + a) :: rest)) :=
  va_alen (x := (n, zm_arr G.2.2.1 kd M a)) hS.1 hS.2.1 hK.1 hI.1 a kd (by rw [zm_w_at ha, zm_ar (by omega) hs]) (zk_at G hk) rfl hdg kk
/-- the ends -/
theorem zr_iret {post : Int32 → zm_T → Prop} {v : Int32} (hS : CallFix p m c cc nL s args zw_T own) (hK : zm_K G s) (hlk : meth.locks = false) (hr : meth.sig.returnType = some .int) (hI : zm_I G nc sh M s H locs) (hdg : decode cc pc = .ok (.ireturn, 1)) (hp : post v M) :
    W p l e R s m args below meth c H locs cells slots (MQ below (va_Qi post (zm_B G nc sh) (zm_A G)) args s cells slots (zm_A G)) (F0 m pc ls [.int v]) :=
  W.iret hS.1 hS.2.1 hr (fun t ht hW => ⟨⟨v, M, rfl, hp, hI.B hK ht hW⟩, hI.2.F ht⟩) hI.2.2.2 hdg hlk
theorem zr_zret {post : Int32 → zm_T → Prop} {v : Int32} (hS : CallFix p m c cc nL s args zw_T own) (hK : zm_K G s) (hlk : meth.locks = false) (hr : meth.sig.returnType = some .boolean) (hn : narrow .boolean (.int v) = .int v) (hI : zm_I G nc sh M s H locs) (hdg : decode cc pc = .ok (.ireturn, 1)) (hp : post v M) :
    W p l e R s m args below meth c H locs cells slots (MQ below (va_Qi post (zm_B G nc sh) (zm_A G)) args s cells slots (zm_A G)) (F0 m pc ls [.int v]) :=
  W.zret hS.1 hS.2.1 hr hn (fun t ht hW => ⟨⟨v, M, rfl, hp, hI.B hK ht hW⟩, hI.2.F ht⟩) hI.2.2.2 hdg hlk
theorem zr_lret {post : Int64 → zm_T → Prop} {v : Int64} (hS : CallFix p m c cc nL s args zw_T own) (hK : zm_K G s) (hlk : meth.locks = false) (hr : meth.sig.returnType = some .long) (hI : zm_I G nc sh M s H locs) (hdg : decode cc pc = .ok (.lreturn, 1)) (hp : post v M) :
    W p l e R s m args below meth c H locs cells slots (MQ below (va_Ql post (zm_B G nc sh) (zm_A G)) args s cells slots (zm_A G)) (F0 m pc ls [.long v]) :=
  W.lret hS.1 hS.2.1 hr (fun t ht hW => ⟨⟨v, M, rfl, hp, hI.B hK ht hW⟩, hI.2.F ht⟩) hI.2.2.2 hdg hlk
theorem zr_vret {post : zm_T → Prop} (hS : CallFix p m c cc nL s args zw_T own) (hK : zm_K G s) (hlk : meth.locks = false) (hr : meth.sig.returnType = none) (hI : zm_I G nc sh M s H locs) (hdg : decode cc pc = .ok (.return_, 1)) (hp : post M) :
    W p l e R s m args below meth c H locs cells slots (MQ below (va_Qv post (zm_B G nc sh) (zm_A G)) args s cells slots (zm_A G)) (F0 m pc ls []) :=
  W.vret hS.1 hS.2.1 hr (fun t ht hW => ⟨⟨M, rfl, hp, hI.B hK ht hW⟩, hI.2.F ht⟩) hI.2.2.2 hdg hlk
/-- a call's words: static -/
def zl_S (own : String) (index : Nat) (y : MethodName) (bytes : ByteArray) (maxL : Nat) (ret : Option FieldType) (n : Nat) : Prop :=
  (Cond.methodLink own index y ∈ zw_T ∨ ∃ host, Cond.methodLinkNest own index y host ∈ zw_N) ∧ Cond.static y ∈ zw_T ∧ Cond.initialized y.cls ∈ zw_T ∧ Cond.code y bytes maxL ret ∈ zw_T ∧ (y.cls ≠ "java/lang/invoke/MethodHandle" ∧ y.cls ≠ "java/lang/invoke/VarHandle" ∧ (parseMethodDescriptor y.desc).map (fun d => d.parameters.length) = some n)
/-- a call's words: on an object of class ci -/
def zl_V (own : String) (index : Nat) (y : MethodName) (bytes : ByteArray) (maxL : Nat) (ret : Option FieldType) (n ci : Nat) : Prop :=
  (Cond.methodLink own index y ∈ zw_T ∨ ∃ host, Cond.methodLinkNest own index y host ∈ zw_N) ∧ Cond.instanceMethod y ∈ zw_T ∧ Cond.initialized y.cls ∈ zw_T ∧ Cond.code y bytes maxL ret ∈ zw_T ∧ (y.cls ≠ "java/lang/invoke/MethodHandle" ∧ y.cls ≠ "java/lang/invoke/VarHandle" ∧ (parseMethodDescriptor y.desc).map (fun d => d.parameters.length) = some n) ∧
  Cond.selects y.cls y y ∈ zw_T ∧ ∃ (T : u_T) (N : Nat), zc_cl[ci]? = some (y.cls, T, N)
def zr_ws (y : MethodName) (bytes : ByteArray) (maxL : Nat) (ret : Option FieldType) : List Cond := Cond.code y bytes maxL ret :: zw_T
def zr_rm (d : Nat) : Room := { frames := d, cells := 0, slots := 0, locals := 60 * d }
theorem zr_good {y : MethodName} {bytes : ByteArray} {maxL : Nat} {ret : Option FieldType} (h : Cond.code y bytes maxL ret ∈ zw_T) : GoodIn zw_T (zr_ws y bytes maxL ret) := by
  intro w hw
  rcases List.mem_cons.mp hw with rfl | hw
  · exact zw_T_good _ h
  · exact zw_T_good _ hw
section ZC
variable {y : MethodName} {bytes : ByteArray} {maxL : Nat} {ret : Option FieldType} {d index n : Nat} {As : List Value} {Qc : Array Value → State → Outcome → State → Prop}
theorem zr_runS (hS : CallFix p m c cc nL s args zw_T own) (hK : zm_K G s) (hM : Met l y (zr_ws y bytes maxL ret) (zr_rm d) (va_Pc As (zm_B G nc sh M)) Qc 0 0 (zm_A G)) (hL : zl_S own index y bytes maxL ret n) (hI : zm_I G nc sh M s H locs)
    (hn : As.length = n) (hsize : ls.size = nL) (hW : (rest.map fun v => v.category).sum ≤ 8) (hR : d + 1 ≤ R.frames ∧ 8 + (maxL + 11) + 60 * d ≤ R.locals) (hf : cells ≤ R.cells ∧ slots ≤ R.slots) (hdg : decode cc pc = .ok (.invokestatic index, 3)) {st0 : List Value} (hst : st0 = As.reverse ++ rest) :
    va_Run p l e R s m args below meth c H locs cells slots 0 0 (F0 m pc ls st0) rest (Qc As.toArray) (zm_A G) := by
  obtain ⟨hl, hstt, hini, hcode, hd⟩ := hL
  have hT := hS.2.2.2.2
  subst hst
  have hp : PreS s H (va_Pc As (zm_B G nc sh M)) As := ⟨zm_B.blind, fun U hU hW => ⟨rfl, hI.B hK hU hW⟩⟩
  rcases hl with hl | ⟨host, hl⟩
  · exact va_runS hS hM ⟨callB_of n hT (zr_good hcode) rfl rfl rfl (hT _ hini) (hT _ hl) hd hR, hT _ hstt⟩ hp rfl hn hsize rfl (lv_room hW) hdg hf
  · exact va_runSN (host := host) hS hM ⟨va_cnB n hT (zr_good hcode) rfl rfl rfl (hK.2.1 _ hl) (hT _ hini) hd hR, hT _ hstt, trivial⟩ hp rfl hn hsize rfl (lv_room hW) hdg hf
theorem zr_runV (hS : CallFix p m c cc nL s args zw_T own) (hK : zm_K G s) {a ci k : Nat} (hM : Met l y (zr_ws y bytes maxL ret) (zr_rm d) (va_Pc (.ref (G.2.2.1 + a) :: As) (zm_B G nc sh M)) Qc 0 0 (zm_A G)) (hL : zl_V own index y bytes maxL ret n ci) (hI : zm_I G nc sh M s H locs) (ha : a < nc) (hs : sh a = (10 + ci, k))
    (hn : As.length = n) (hsize : ls.size = nL) (hW : (rest.map fun v => v.category).sum ≤ 8) (hR : d + 1 ≤ R.frames ∧ 8 + (maxL + 11) + 60 * d ≤ R.locals) (hf : cells ≤ R.cells ∧ slots ≤ R.slots) (hdg : decode cc pc = .ok (.invokevirtual index, 3)) {st0 : List Value} (hst : st0 = As.reverse ++ .ref (G.2.2.1 + a) :: rest) :
    va_Run p l e R s m args below meth c H locs cells slots 0 0 (F0 m pc ls st0) rest (Qc (Value.ref (G.2.2.1 + a) :: As).toArray) (zm_A G) := by
  obtain ⟨hl, hin, hini, hcode, hd, hsel, T, N, hc⟩ := hL
  have hT := hS.2.2.2.2
  subst hst
  have hcell : ∃ cellB : Cell, H[G.2.2.1 + a]? = some cellB ∧ cellB.vm.isStatics = false ∧ s.vm.findClass y.cls = some cellB.cls := by
    have he := hI.1 a _ (zm_w_at ha)
    rw [zm_obj hs] at he
    obtain ⟨r, h1, cell, q1, q2, q3, -⟩ := he
    refine ⟨cell, q1, by rw [q3]; rfl, ?_⟩
    obtain ⟨-, hfc, -⟩ := hK.1.1 ci _ hc
    rw [q2]
    exact hfc
  have hp : PreV s H y.cls (G.2.2.1 + a) (va_Pc (.ref (G.2.2.1 + a) :: As) (zm_B G nc sh M)) As := ⟨zm_B.blind, hcell, fun U hU hW => ⟨rfl, hI.B hK hU hW⟩⟩
  rcases hl with hl | ⟨host, hl⟩
  · exact va_runV hS hM ⟨callB_of n hT (zr_good hcode) rfl rfl rfl (hT _ hini) (hT _ hl) hd hR, hT _ hin, hT _ hsel⟩ hp rfl hn hsize rfl (lv_room hW) hdg hf
  · exact va_runVN (host := host) hS hM ⟨va_cnB n hT (zr_good hcode) rfl rfl rfl (hK.2.1 _ hl) (hT _ hini) hd hR, hT _ hin, hT _ hsel⟩ hp rfl hn hsize rfl (lv_room hW) hdg hf
variable {st0 : List Value} {aa : Array Value}
theorem zr_ci {post : Int32 → zm_T → Prop} (hr : va_Run p l e R s m args below meth c H locs cells slots 0 0 (F0 m pc ls st0) rest (va_Qi post (zm_B G nc sh) (zm_A G) aa) (zm_A G)) (hI : zm_I G nc sh M s H locs)
    (kk : ∀ (r : Int32) (M : zm_T) (H : Heap) (locs : List Loc), post r M → zm_I G nc sh M s H locs → W p l e R s m args below meth c H locs cells slots Q (F0 m (pc + 3) ls (.int r :: rest))) : W p l e R s m args below meth c H locs cells slots Q (F0 m pc ls st0) :=
  va_calli hr hI.2 (fun _ _ h => h) (fun _ h => h) (fun r u t H1 locs1 ht _ hp hB _ _ hS1 => kk r u H1 locs1 hp ⟨by rw [← ht]; exact hB.1, hS1⟩)
theorem zr_cl {post : Int64 → zm_T → Prop} (hr : va_Run p l e R s m args below meth c H locs cells slots 0 0 (F0 m pc ls st0) rest (va_Ql post (zm_B G nc sh) (zm_A G) aa) (zm_A G)) (hI : zm_I G nc sh M s H locs)
    (kk : ∀ (r : Int64) (M : zm_T) (H : Heap) (locs : List Loc), post r M → zm_I G nc sh M s H locs → W p l e R s m args below meth c H locs cells slots Q (F0 m (pc + 3) ls (.long r :: rest))) : W p l e R s m args below meth c H locs cells slots Q (F0 m pc ls st0) :=
  va_calll hr hI.2 (fun _ _ h => h) (fun _ h => h) (fun r u t H1 locs1 ht _ hp hB _ _ hS1 => kk r u H1 locs1 hp ⟨by rw [← ht]; exact hB.1, hS1⟩)
theorem zr_cv {post : zm_T → Prop} (hr : va_Run p l e R s m args below meth c H locs cells slots 0 0 (F0 m pc ls st0) rest (va_Qv post (zm_B G nc sh) (zm_A G) aa) (zm_A G)) (hI : zm_I G nc sh M s H locs)
    (kk : ∀ (M : zm_T) (H : Heap) (locs : List Loc), post M → zm_I G nc sh M s H locs → W p l e R s m args below meth c H locs cells slots Q (F0 m (pc + 3) ls rest)) : W p l e R s m args below meth c H locs cells slots Q (F0 m pc ls st0) :=
  va_callv hr hI.2 (fun _ _ h => h) (fun _ h => h) (fun u t H1 locs1 ht _ hp hB _ _ hS1 => kk u H1 locs1 hp ⟨by rw [← ht]; exact hB.1, hS1⟩)
/-- a contract out of a walk of the method's body -/
theorem zr_met {vs : List Value} (hy : plainFor y = true) (hlen : (lg_sl vs).length ≤ maxL)
    (body : ∀ (p : Program) (e : Env) (s : State) (m : MethodId) (below : List Frame) (meth : Method) (c : Code) (ls : Array Slot), CallFix p m c bytes maxL s vs.toArray zw_T y.cls → zm_K G s → meth.locks = false → meth.sig.returnType = ret → lv_has ls maxL (lv_args 0 vs) → zm_I G nc sh M s s.heap [] →
      W p l e (zr_rm d) s m vs.toArray below meth c s.heap [] 0 0 (MQ below Qc vs.toArray s 0 0 (zm_A G)) (F0 m 0 ls [])) :
    Met l y (zr_ws y bytes maxL ret) (zr_rm d) (va_Pc vs (zm_B G nc sh M)) Qc 0 0 (zm_A G) := by
  refine va_MetF (cc := bytes) (maxL := maxL) (ret := ret) hy rfl ?_
  intro p e s m args below meth c s₁ B hml hv
  obtain ⟨rfl, hB⟩ := hv
  have hts := atoms_spec (ws := zr_ws y bytes maxL ret) B.pre
  have hl := lv_entry vs (n := maxL) hlen
  rw [lg_entry_eq]
  exact body p e s m below meth c _ ⟨B.exec, B.bytes, hml, findClass_of_methodNamed B.named, fun w hw => hts w (List.mem_cons_of_mem _ hw)⟩ hB.2 B.notSynchronized B.returns hl ⟨hB.1, va_S.rf⟩
end ZC
end ZR

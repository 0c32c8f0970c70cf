/-! The law's entry: both objects are made, the answer's cell, and the loop begins. -/
theorem z0_t0 : zc_0 151 (zc_t (zc_m z0_Z) 8) := by
  have h1 : zc_0 4 (zm_ur (zm_ur z0_Z 0 0 (some 1)) 2 0 (some 3)) := ((z0_00.up (by decide)).ur (by decide)).ur (by decide)
  have h2 := zc_c_0 h1 16
  have h3 : zc_0 23 (zm_ur (zm_ur (zm_ur (zc_c (zm_ur (zm_ur z0_Z 0 0 (some 1)) 2 0 (some 3)) 16) 0 1 (some 2)) 20 0 (some 21)) 20 1 (some 22)) := (((h2.up (by decide)).ur (by decide)).ur (by decide)).ur (by decide)
  have h4 := zc_d_0 h3 8
  have h5 : zc_0 135 (zc_m z0_Z) := h4.ur (by decide)
  have h6 : ∀ i, i ≤ 8 → zc_0 (135 + 2 * i) (zc_t (zc_m z0_Z) i) := by
    intro i
    induction i with
    | zero => intro _; exact h5
    | succ i ih => intro hi; exact (((ih (by omega)).up (by omega)).ur (by omega)).ur (by omega)
  exact h6 8 (Nat.le_refl _)
theorem z0_mo0 : zc_0 182 z0_M := by
  unfold z0_M zc_mo
  have h := z0_t0.up (nd := 182) (by decide)
  generalize zc_t (zc_m z0_Z) 8 = M at h ⊢
  repeat first | exact h | apply zc_0.ur _ (by decide) | apply zc_0.ui _ (by decide)
set_option maxRecDepth 100000 in
set_option maxHeartbeats 4000000 in
theorem z0_go {p : Program} {l : Launch} {e : Env} {s : State} {m : MethodId} {below : List Frame} {meth : Method} {c : Code} {b L : Nat} {xs : Nat → Int32} {Q : State → Prop} (hfl : l.flags = Jvm.pinnedFlags ++ [Jvm.noTraceFlag]) (hL : L ≤ 3072) (hx : p.tables.exec = Jvm.exec) (hb : c.code = code) (hml : c.maxLocals = 8) (hown : s.vm.findClass "StripMixerLaw" = some m.cls) (hts : ∀ w ∈ lw_tbl, w.before #[Value.ref b] s = true) (hX : va_X b L xs s s.heap) (hbl : b < s.heap.size) (hgv : (Jvm.Cond.and given_1 narrow_1).before #[Value.ref b] s = true)
    (hE : ∀ (H : Heap) (ls : Array Slot), W p l e room_1 s m #[Value.ref b] below meth c H [] 601024 7293034 Q (F0 m 1449 ls [])) : W p l e room_1 s m #[Value.ref b] below meth c s.heap [] 0 0 Q (entryFrame m ([Value.ref b] : List Value).toArray 8) := by
  obtain ⟨G, hz, hK⟩ := z0_K hts
  have hT := z0_T hts hgv
  have hAO := z0_AO hts
  have hS : CallFix p m c code 8 s #[Value.ref b] zw_T "StripMixerLaw" := ⟨hx, hb, hml, hown, z0_zw hts⟩
  have hbA : ¬ zm_A G b := fun h => by
    have : G.2.2.1 ≤ b := h
    omega
  have C : zz_C p l s m c b L xs G := ⟨hS, hK, hT, hX, hbl, hbA, hL, hfl⟩
  have hl := lv_entry ([.ref b]) (n := 8) (Nat.le_of_ble_eq_true rfl)
  rw [lg_entry_eq]
  generalize (lg_sl ([.ref b]) ++ List.replicate (8 - (lg_sl ([.ref b])).length) Slot.unset).toArray = ls at hl ⊢
  have hl : zl_has ls 8 [some (.ref b), none, none, none, none, none, none, none] := hl
  have hI : zm_I G 0 zs z0_Z s s.heap [] := ⟨fun k q hq => by simp [zm_w] at hq, va_S.rf⟩
  have hsz : s.heap.size + 0 = G.2.2.1 + 0 := by omega
  have h0 := z0_00
  refine zc_new hS hK ⟨"StripMixer", kt_7, kv_7, rfl, ki_7, ko_7, (zw_mem (i := 60) (by decide +kernel) (by decide +kernel)), (zw_mem (i := 61) (by decide +kernel) (by decide +kernel)), (zw_mem (i := 32) (by decide +kernel) (by decide +kernel)), by decide +kernel⟩ hI hsz h0 ((by decide +kernel : zs 0 = (10 + 7, 0))) (by decide) (by decide) kd_Lw_0 (fun H hI => ?_)
  have hsz := zc_sz hsz 1
  have h0 : zc_0 1 z0_Z := h0.up (by decide)
  refine lv_dup hx hb kd_Lw_3 rfl ?_
  refine zc_call hS hK hAO (c_Mx_init l G z0_Z h0) ⟨Or.inl (zw_mem (i := 62) (by decide +kernel) (by decide +kernel)), (zw_mem (i := 63) (by decide +kernel) (by decide +kernel)), (zw_mem (i := 32) (by decide +kernel) (by decide +kernel)), (zw_mem (i := 64) (by decide +kernel) (by decide +kernel)), ⟨by decide +kernel, by decide +kernel, by decide +kernel⟩, rfl⟩ hI hsz rfl hl.1 (Nat.le_of_ble_eq_true rfl) (by decide) (by decide) kd_Lw_4 rfl (fun M4 H locs hp4 hI => ?_)
  subst hp4
  have hsz := zc_sz hsz 150
  have h0 : zc_0 151 (zc_t (zc_m z0_Z) 8) := z0_t0
  refine zr_astore_n hx hb kd_Lw_7 hl (by decide) rfl (fun ls hl => ?_)
  refine zc_new hS hK ⟨"StripMixerModel", kt_8, kv_8, rfl, ki_8, ko_8, (zw_mem (i := 1035) (by decide +kernel) (by decide +kernel)), (zw_mem (i := 1036) (by decide +kernel) (by decide +kernel)), (zw_mem (i := 40) (by decide +kernel) (by decide +kernel)), by decide +kernel⟩ hI hsz h0 ((by decide +kernel : zs 151 = (10 + 8, 0))) (by decide) (by decide) kd_Lw_8 (fun H hI => ?_)
  have hsz := zc_sz hsz 1
  have h0 : zc_0 152 (zc_t (zc_m z0_Z) 8) := h0.up (by decide)
  refine lv_dup hx hb kd_Lw_11 rfl ?_
  refine zc_call hS hK hAO (c_Mo_init l G (zc_t (zc_m z0_Z) 8) h0) ⟨Or.inl (zw_mem (i := 1037) (by decide +kernel) (by decide +kernel)), (zw_mem (i := 1038) (by decide +kernel) (by decide +kernel)), (zw_mem (i := 40) (by decide +kernel) (by decide +kernel)), (zw_mem (i := 1039) (by decide +kernel) (by decide +kernel)), ⟨by decide +kernel, by decide +kernel, by decide +kernel⟩, rfl⟩ hI hsz rfl hl.1 (Nat.le_of_ble_eq_true rfl) (by decide) (by decide) kd_Lw_12 rfl (fun M12 H locs hp12 hI => ?_)
  subst hp12
  have hsz := zc_sz hsz 30
  have h0 : zc_0 182 z0_M := z0_mo0
  have hI : zm_I G 182 zs z0_M s H locs := hI
  refine zr_astore_n hx hb kd_Lw_15 hl (by decide) rfl (fun ls hl => ?_)
  refine lv_iconst (v := 1) hx hb kd_Lw_16 (by decide) ?_
  refine zc_newa (nc := 182) (kd := 2) (N := 1) hS hK hI hsz h0 (by decide +kernel) (Or.inr (Or.inr ⟨rfl, rfl⟩)) (by decide) (by decide) (by decide) (by decide) (by decide) kd_Lw_17 (fun H hI => ?_)
  have hsz := zc_sz hsz 1
  refine zr_astore_n hx hb kd_Lw_19 hl (by decide) rfl (fun ls hl => ?_)
  refine lv_iconst (v := 0) hx hb kd_Lw_20 (by decide) ?_
  refine zr_istore hx hb kd_Lw_21 hl (by decide) rfl (fun ls hl => ?_)
  refine zc_size hK hI hsz fun hHz => ?_
  have hyI : zy_I G z0_M s H locs := ⟨hI, z0_up (z0_H hts hgv hz) hz hI hHz⟩
  refine q_loop C (fun M H locs ls cells slots hc hs hI => ?_) 512 0 _ _ z0_M H locs ls (by omega) (by omega) (by decide) (by decide) z0_J hyI hl
  refine va_forget (fun q hq => by rw [← hz]; exact hI.1.2.2.2 q hq) ?_
  exact W.widen hc hs (hE H ls)

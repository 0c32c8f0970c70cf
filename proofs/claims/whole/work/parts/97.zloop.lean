/-! The law's loop. -/
theorem zq_lt {L j : Nat} (hL : L ≤ 3072) (hj : 6 * j ≤ L) : (Int32.ofNat L - 6 : Int32) < nI (6 * j) ↔ L < 6 * j + 6 := by
  have e1 : (nI L).toInt = L := nI_toInt (by omega)
  have e2 : (nI (6 * j)).toInt = (6 * j : Nat) := nI_toInt (by omega)
  have e3 : (nI L - 6).toInt = (L : Int) - 6 := by
    rw [zn_sub (by rw [e1]; show (-2147483648 : Int) ≤ L - 6; omega) (by rw [e1]; show (L : Int) - 6 < 2147483648; omega), e1]; rfl
  show (nI L - 6 : Int32) < nI (6 * j) ↔ _
  rw [Int32.lt_iff_toInt_lt, e2, e3]; omega
set_option maxRecDepth 100000 in
set_option maxHeartbeats 4000000 in
theorem q_loop {p : Program} {l : Launch} {e : Env} {s : State} {m : MethodId} {below : List Frame} {meth : Method} {c : Code} {b L : Nat} {xs : Nat → Int32} {G : zg_T} {Q : State → Prop} (C : zz_C p l s m c b L xs G)
    (hE : ∀ (M : zm_T) (H : Heap) (locs : List Loc) (ls : Array Slot) (cells slots : Nat), cells ≤ 601024 → slots ≤ 7293034 → zy_I G M s H locs → W p l e room_1 s m #[Value.ref b] below meth c H locs cells slots Q (F0 m 1449 ls [])) : ∀ (n j cells slots : Nat) (M : zm_T) (H : Heap) (locs : List Loc) (ls : Array Slot), L < 6 * j + 6 * n + 6 → 6 * j ≤ L → cells + n ≤ 601024 → slots + 6 * n ≤ 7293034 → zJ M → zy_I G M s H locs → zl_has ls 8 (zz_V b G (6 * j)) → W p l e room_1 s m #[Value.ref b] below meth c H locs cells slots Q (F0 m 23 ls []) := by
  have C1 := C
  obtain ⟨hS, hK, hX, hxs, hb0, hbA, hL3, hfl⟩ := C
  have hx := hS.1
  have hb := hS.2.1
  intro n
  induction n with
  | zero =>
    intro j cells slots M H locs ls hn hj hc hsl hJ hI hl
    have hl1 : zl_has ls 8 [some (.ref b), some (.ref (G.2.2.1 + 0)), some (.ref (G.2.2.1 + 151)), some (.ref (G.2.2.1 + 182)), some (.int (nI (6 * j))), none, none, none] := hl
    refine zr_iload hx hb kd_Lw_23 hl1 rfl ?_
    refine zr_aload_n hx hb kd_Lw_25 hl1 rfl ?_
    refine va_slen hx hb hxs hb0 hbA hI.1.2 kd_Lw_26 ?_
    refine lv_bipush (v := 6) hx hb kd_Lw_27 (by decide) ?_
    refine lv_isub hx hb kd_Lw_29 ?_
    exact lv_icmp_gt (tgt := 1449) hx hb kd_Lw_30 (by decide) (fun _ => hE M H locs _ _ _ (by omega) (by omega) hI) (fun h => absurd ((zq_lt hL3 hj).mpr (by omega)) h)
  | succ n ih =>
    intro j cells slots M H locs ls hn hj hc hsl hJ hI hl
    have hl1 : zl_has ls 8 [some (.ref b), some (.ref (G.2.2.1 + 0)), some (.ref (G.2.2.1 + 151)), some (.ref (G.2.2.1 + 182)), some (.int (nI (6 * j))), none, none, none] := hl
    refine zr_iload hx hb kd_Lw_23 hl1 rfl ?_
    refine zr_aload_n hx hb kd_Lw_25 hl1 rfl ?_
    refine va_slen hx hb hxs hb0 hbA hI.1.2 kd_Lw_26 ?_
    refine lv_bipush (v := 6) hx hb kd_Lw_27 (by decide) ?_
    refine lv_isub hx hb kd_Lw_29 ?_
    refine lv_icmp_gt (tgt := 1449) hx hb kd_Lw_30 (by decide) (fun _ => hE M H locs _ _ _ (by omega) (by omega) hI) (fun h => ?_)
    have hj6 : 6 * j + 6 ≤ L := Nat.not_lt.mp (fun h' => h ((zq_lt hL3 hj).mpr h'))
    have nx : ∀ (M : zm_T) (H : Heap) (locs : List Loc) (ls : Array Slot) (cells' slots' : Nat), cells' ≤ cells + 1 → slots' ≤ slots + 6 → zJ M → zy_I G M s H locs → zl_has ls 8 (zz_V b G (6 * j)) → W p l e room_1 s m #[Value.ref b] below meth c H locs cells' slots' Q (F0 m 1443 ls []) := by
      intro M H locs ls cells' slots' hc' hs' hJ hI hl
      have hl : zl_has ls 8 [some (.ref b), some (.ref (G.2.2.1 + 0)), some (.ref (G.2.2.1 + 151)), some (.ref (G.2.2.1 + 182)), some (.int (nI (6 * j))), none, none, none] := hl
      refine zr_iinc hx hb kd_Lw_1443 hl (by decide) rfl rfl (fun ls hl => ?_)
      have e6 : nI (6 * j) + Int32.ofInt 6 = nI (6 * (j + 1)) := by show nI (6 * j) + nI 6 = _; rw [nI_add]; rfl
      rw [e6] at hl
      refine lv_goto (tgt := 23) hx hb kd_Lw_1446 (by decide) ?_
      exact ih (j + 1) cells' slots' M H locs ls (by omega) (by omega) (by omega) (by omega) hJ hI hl
    refine zr_aload_n hx hb kd_Lw_33 hl1 rfl ?_
    refine zr_iload hx hb kd_Lw_34 hl1 rfl ?_
    refine zq_sld hS hxs hb0 hbA hI (vp_in_nI (by omega : 6 * j < L) (by omega)) kd_Lw_36 ?_
    refine lv_bipush (v := 31) hx hb kd_Lw_37 (by decide) ?_
    refine lv_iand hx hb kd_Lw_39 ?_
    generalize xs (nI (6 * j)).toNatClampNeg &&& 31 = v
    by_cases ho : v.toInt < 0 ∨ 17 < v.toInt
    · exact lv_tableOut (tgt := 1443) hx hb kd_Lw_40 ho (by decide) (nx M H locs ls _ _ (by omega) (by omega) hJ hI hl)
    rcases (by omega : v.toInt = 0 ∨ v.toInt = 1 ∨ v.toInt = 2 ∨ v.toInt = 3 ∨ v.toInt = 4 ∨ v.toInt = 5 ∨ v.toInt = 6 ∨ v.toInt = 7 ∨ v.toInt = 8 ∨ v.toInt = 9 ∨ v.toInt = 10 ∨ v.toInt = 11 ∨ v.toInt = 12 ∨ v.toInt = 13 ∨ v.toInt = 14 ∨ v.toInt = 15 ∨ v.toInt = 16 ∨ v.toInt = 17) with hv | hv | hv | hv | hv | hv | hv | hv | hv | hv | hv | hv | hv | hv | hv | hv | hv | hv
    · exact lv_tableIn (tgt := 128) hx hb kd_Lw_40 (by rw [hv]; decide) (by rw [hv]; decide) (by rw [hv]; rfl) (by decide) (q_samples C1 hj6 (by omega) (by omega) hJ hI hl (fun M H locs ls hJ hI hl => nx M H locs ls _ _ (by omega) (by omega) hJ hI hl))
    · exact lv_tableIn (tgt := 220) hx hb kd_Lw_40 (by rw [hv]; decide) (by rw [hv]; decide) (by rw [hv]; rfl) (by decide) (q_seal C1 hj6 (by omega) (by omega) hJ hI hl (fun M H locs ls hJ hI hl => nx M H locs ls _ _ (by omega) (by omega) hJ hI hl))
    · exact lv_tableIn (tgt := 268) hx hb kd_Lw_40 (by rw [hv]; decide) (by rw [hv]; decide) (by rw [hv]; rfl) (by decide) (q_take C1 hj6 (by omega) (by omega) hJ hI hl (fun M H locs ls hJ hI hl => nx M H locs ls _ _ (by omega) (by omega) hJ hI hl))
    · exact lv_tableIn (tgt := 336) hx hb kd_Lw_40 (by rw [hv]; decide) (by rw [hv]; decide) (by rw [hv]; rfl) (by decide) (q_clip C1 hj6 (by omega) (by omega) hJ hI hl (fun M H locs ls hJ hI hl => nx M H locs ls _ _ (by omega) (by omega) hJ hI hl))
    · exact lv_tableIn (tgt := 440) hx hb kd_Lw_40 (by rw [hv]; decide) (by rw [hv]; decide) (by rw [hv]; rfl) (by decide) (q_drop C1 hj6 (by omega) (by omega) hJ hI hl (fun M H locs ls hJ hI hl => nx M H locs ls _ _ (by omega) (by omega) hJ hI hl))
    · exact lv_tableIn (tgt := 476) hx hb kd_Lw_40 (by rw [hv]; decide) (by rw [hv]; decide) (by rw [hv]; rfl) (by decide) (q_move C1 hj6 (by omega) (by omega) hJ hI hl (fun M H locs ls hJ hI hl => nx M H locs ls _ _ (by omega) (by omega) hJ hI hl))
    · exact lv_tableIn (tgt := 563) hx hb kd_Lw_40 (by rw [hv]; decide) (by rw [hv]; decide) (by rw [hv]; rfl) (by decide) (q_split C1 hj6 (by omega) (by omega) hJ hI hl (fun M H locs ls hJ hI hl => nx M H locs ls _ _ (by omega) (by omega) hJ hI hl))
    · exact lv_tableIn (tgt := 631) hx hb kd_Lw_40 (by rw [hv]; decide) (by rw [hv]; decide) (by rw [hv]; rfl) (by decide) (q_shape C1 hj6 (by omega) (by omega) hJ hI hl (fun M H locs ls hJ hI hl => nx M H locs ls _ _ (by omega) (by omega) hJ hI hl))
    · exact lv_tableIn (tgt := 703) hx hb kd_Lw_40 (by rw [hv]; decide) (by rw [hv]; decide) (by rw [hv]; rfl) (by decide) (q_route C1 hj6 (by omega) (by omega) hJ hI hl (fun M H locs ls hJ hI hl => nx M H locs ls _ _ (by omega) (by omega) hJ hI hl))
    · exact lv_tableIn (tgt := 778) hx hb kd_Lw_40 (by rw [hv]; decide) (by rw [hv]; decide) (by rw [hv]; rfl) (by decide) (q_send C1 hj6 (by omega) (by omega) hJ hI hl (fun M H locs ls hJ hI hl => nx M H locs ls _ _ (by omega) (by omega) hJ hI hl))
    · exact lv_tableIn (tgt := 865) hx hb kd_Lw_40 (by rw [hv]; decide) (by rw [hv]; decide) (by rw [hv]; rfl) (by decide) (q_effect C1 hj6 (by omega) (by omega) hJ hI hl (fun M H locs ls hJ hI hl => nx M H locs ls _ _ (by omega) (by omega) hJ hI hl))
    · exact lv_tableIn (tgt := 949) hx hb kd_Lw_40 (by rw [hv]; decide) (by rw [hv]; decide) (by rw [hv]; rfl) (by decide) (q_fader C1 hj6 (by omega) (by omega) hJ hI hl (fun M H locs ls hJ hI hl => nx M H locs ls _ _ (by omega) (by omega) hJ hI hl))
    · exact lv_tableIn (tgt := 997) hx hb kd_Lw_40 (by rw [hv]; decide) (by rw [hv]; decide) (by rw [hv]; rfl) (by decide) (q_point C1 hj6 (by omega) (by omega) hJ hI hl (fun M H locs ls hJ hI hl => nx M H locs ls _ _ (by omega) (by omega) hJ hI hl))
    · exact lv_tableIn (tgt := 1112) hx hb kd_Lw_40 (by rw [hv]; decide) (by rw [hv]; decide) (by rw [hv]; rfl) (by decide) (q_turn C1 hj6 (by omega) (by omega) hJ hI hl (fun M H locs ls hJ hI hl => nx M H locs ls _ _ (by omega) (by omega) hJ hI hl))
    · exact lv_tableIn (tgt := 1180) hx hb kd_Lw_40 (by rw [hv]; decide) (by rw [hv]; decide) (by rw [hv]; rfl) (by decide) (q_render C1 hj6 (by omega) (by omega) hJ hI hl (fun M H locs ls hJ hI hl => nx M H locs ls _ _ (by omega) (by omega) hJ hI hl))
    · exact lv_tableIn (tgt := 1228) hx hb kd_Lw_40 (by rw [hv]; decide) (by rw [hv]; decide) (by rw [hv]; rfl) (by decide) (q_sample C1 hj6 (by omega) (by omega) hJ hI hl (fun M H locs ls hJ hI hl => nx M H locs ls _ _ (by omega) (by omega) hJ hI hl))
    · exact lv_tableIn (tgt := 1296) hx hb kd_Lw_40 (by rw [hv]; decide) (by rw [hv]; decide) (by rw [hv]; rfl) (by decide) (q_meter C1 hj6 (by omega) (by omega) hJ hI hl (fun M H locs ls hJ hI hl => nx M H locs ls _ _ (by omega) (by omega) hJ hI hl))
    · exact lv_tableIn (tgt := 1363) hx hb kd_Lw_40 (by rw [hv]; decide) (by rw [hv]; decide) (by rw [hv]; rfl) (by decide) (q_bounce C1 hj6 (by omega) (by omega) hJ hI hl (fun M H locs ls hJ hI hl => nx M H locs ls _ _ (by omega) (by omega) hJ hI hl))

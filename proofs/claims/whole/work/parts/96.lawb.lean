/-! The law's cases, printed by gen/mklaw.py out of the bytes. -/
set_option maxRecDepth 100000 in
set_option maxHeartbeats 4000000 in
theorem q_send {p : Program} {l : Launch} {e : Env} {s : State} {m : MethodId} {below : List Frame} {meth : Method} {c : Code} {b L : Nat} {xs : Nat → Int32} {G : zg_T} {Q : State → Prop} (C : zz_C p l s m c b L xs G) {j cells slots : Nat} {M : zm_T} {H : Heap} {locs : List Loc} {ls : Array Slot} (hj : 6 * j + 6 ≤ L) (hc : cells + 1 ≤ 601024) (hsl : slots + 6 ≤ 7293034) (hJ : zJ M) (hI : zy_I G M s H locs) (hl : zl_has ls 8 (zz_V b G (6 * j)))
    (hN : ∀ (M : zm_T) (H : Heap) (locs : List Loc) (ls : Array Slot), zJ M → zy_I G M s H locs → zl_has ls 8 (zz_V b G (6 * j)) → W p l e room_1 s m #[Value.ref b] below meth c H locs (cells + 1) (slots + 6) Q (F0 m 1443 ls [])) : W p l e room_1 s m #[Value.ref b] below meth c H locs cells slots Q (F0 m 778 ls []) := by
  obtain ⟨hS, hK, hX, hxs, hb0, hbA, hL3, hfl⟩ := C
  have hx := hS.1
  have hb := hS.2.1
  have hl : zl_has ls 8 [some (.ref b), some (.ref (G.2.2.1 + 0)), some (.ref (G.2.2.1 + 151)), some (.ref (G.2.2.1 + 182)), some (.int (nI (6 * j))), none, none, none] := hl
  refine zr_aload_n hx hb kd_Lw_778 hl rfl ?_
  refine zr_aload_n hx hb kd_Lw_779 hl rfl ?_
  refine zr_iload hx hb kd_Lw_780 hl rfl ?_
  refine lv_iconst (v := 1) hx hb kd_Lw_782 (by decide) ?_
  refine lv_iadd hx hb kd_Lw_783 ?_
  refine zq_s (j := j) (k := 1) hS hxs hb0 hbA hI rfl (by omega) hL3 kd_Lw_784 ?_
  refine zr_aload_n hx hb kd_Lw_785 hl rfl ?_
  refine zr_iload hx hb kd_Lw_786 hl rfl ?_
  refine lv_iconst (v := 2) hx hb kd_Lw_788 (by decide) ?_
  refine lv_iadd hx hb kd_Lw_789 ?_
  refine zq_s (j := j) (k := 2) hS hxs hb0 hbA hI rfl (by omega) hL3 kd_Lw_790 ?_
  refine zr_aload_n hx hb kd_Lw_791 hl rfl ?_
  refine zr_iload hx hb kd_Lw_792 hl rfl ?_
  refine lv_iconst (v := 3) hx hb kd_Lw_794 (by decide) ?_
  refine lv_iadd hx hb kd_Lw_795 ?_
  refine zq_s (j := j) (k := 3) hS hxs hb0 hbA hI rfl (by omega) hL3 kd_Lw_796 ?_
  refine zr_aload_n hx hb kd_Lw_797 hl rfl ?_
  have hkw : zl_W 129 ky_La_send kc_La_send 6 5 [((0 : Nat), (19 : Nat), (22 : Nat), (21 : Nat))] := ⟨zw_mem (i := 515) rfl rfl, zw_mem (i := 516) rfl rfl, zw_mem (i := 31) rfl rfl, zw_mem (i := 517) rfl rfl, ⟨by decide +kernel, by decide +kernel, by decide +kernel⟩⟩
  refine zq_ci (zq_runS hS hK hX (w_send l hfl G M hJ.1 _ _ _ (zJ_D hJ.2.2.2.1.1)) hkw hI rfl hl.1 (Nat.le_of_ble_eq_true rfl) (by decide) ⟨hc, hsl⟩ kd_Lw_798 rfl) hI (fun k1 M1 H locs hp1 hI => ?_)
  have hL1 := r_send hJ hp1
  refine zr_istore hx hb kd_Lw_801 hl (by decide) rfl (fun ls hl => ?_)
  refine zr_aload_n hx hb kd_Lw_803 hl rfl ?_
  refine zr_aload_n hx hb kd_Lw_804 hl rfl ?_
  refine zr_iload hx hb kd_Lw_805 hl rfl ?_
  refine lv_iconst (v := 1) hx hb kd_Lw_807 (by decide) ?_
  refine lv_iadd hx hb kd_Lw_808 ?_
  refine zq_s (j := j) (k := 1) hS hxs hb0 hbA hI rfl (by omega) hL3 kd_Lw_809 ?_
  refine zr_aload_n hx hb kd_Lw_810 hl rfl ?_
  refine zr_iload hx hb kd_Lw_811 hl rfl ?_
  refine lv_iconst (v := 2) hx hb kd_Lw_813 (by decide) ?_
  refine lv_iadd hx hb kd_Lw_814 ?_
  refine zq_s (j := j) (k := 2) hS hxs hb0 hbA hI rfl (by omega) hL3 kd_Lw_815 ?_
  refine zr_aload_n hx hb kd_Lw_816 hl rfl ?_
  refine zr_iload hx hb kd_Lw_817 hl rfl ?_
  refine lv_iconst (v := 3) hx hb kd_Lw_819 (by decide) ?_
  refine lv_iadd hx hb kd_Lw_820 ?_
  refine zq_s (j := j) (k := 3) hS hxs hb0 hbA hI rfl (by omega) hL3 kd_Lw_821 ?_
  refine zq_ci (zq_run hS hK hX (zy_li (c_Mo_send l G M1 hL1 _ _ _)) km_La_131 (zw_mem (i := 1203) rfl rfl) hI rfl hl.1 (Nat.le_of_ble_eq_true rfl) (by decide) ⟨hc, hsl⟩ kd_Lw_822 rfl) hI (fun rb M2 H locs hp2 hI => ?_)
  obtain ⟨hk, hJ2, hv⟩ := s_send hJ hp1 hp2
  refine zr_istore hx hb kd_Lw_825 hl (by decide) rfl (fun ls hl => ?_)
  refine zr_aload_n hx hb kd_Lw_827 hl rfl ?_
  refine zq_ci (zq_run hS hK hX (zy_li (c_Mo_thrown l G M2 hJ2.1)) km_La_95 (zw_mem (i := 1138) rfl rfl) hI rfl hl.1 (Nat.le_of_ble_eq_true rfl) (by decide) ⟨hc, hsl⟩ kd_Lw_828 rfl) hI (fun r3 M3 H locs hp3 hI => ?_)
  obtain ⟨hr3, hM3⟩ := hp3
  rw [hM3] at hI
  rw [hr3, hk]
  refine zr_iload hx hb kd_Lw_831 hl rfl ?_
  refine lv_icmp_eq (tgt := 838) hx hb kd_Lw_833 (by decide) (fun _ => ?_) (fun h => absurd rfl h)
  refine zr_iload hx hb kd_Lw_838 hl rfl ?_
  refine lv_if_ne (tgt := 862) hx hb kd_Lw_840 (by decide) (fun h840 => ?_) (fun h840 => ?_)
  · skip
    refine lv_goto (tgt := 1443) hx hb kd_Lw_862 (by decide) ?_
    exact hN _ _ _ _ hJ2 hI (zl_cut hl)
  · skip
    refine zr_aload_n hx hb kd_Lw_843 hl rfl ?_
    refine lv_iconst (v := 0) hx hb kd_Lw_844 (by decide) ?_
    refine zr_lald hS hK hI.1 (a := 182) (n := 1) (by decide) (by decide +kernel) (vp_in_iff.mpr (by decide)) kd_Lw_845 ?_
    refine zr_iload hx hb kd_Lw_846 hl rfl ?_
    refine lv_if_eq (tgt := 855) hx hb kd_Lw_848 (by decide) (fun h848 => ?_) (fun h848 => ?_)
    · skip
      refine lv_lconst (v := 0) hx hb kd_Lw_855 (by decide) ?_
      refine W.lcmp hx hb kd_Lw_856 ?_
      refine lv_if_eq (tgt := 862) hx hb kd_Lw_857 (by decide) (fun _ => ?_) (fun h => absurd (by show lg_cmp (M2.2.2 182 0) _ = 0; rw [hv h840, if_pos h848]; exact zq_cmp _) h)
      refine lv_goto (tgt := 1443) hx hb kd_Lw_862 (by decide) ?_
      exact hN _ _ _ _ hJ2 hI (zl_cut hl)
    · skip
      refine lv_lconst (v := 1) hx hb kd_Lw_851 (by decide) ?_
      refine lv_goto (tgt := 856) hx hb kd_Lw_852 (by decide) ?_
      refine W.lcmp hx hb kd_Lw_856 ?_
      refine lv_if_eq (tgt := 862) hx hb kd_Lw_857 (by decide) (fun _ => ?_) (fun h => absurd (by show lg_cmp (M2.2.2 182 0) _ = 0; rw [hv h840, if_neg h848]; exact zq_cmp _) h)
      refine lv_goto (tgt := 1443) hx hb kd_Lw_862 (by decide) ?_
      exact hN _ _ _ _ hJ2 hI (zl_cut hl)
set_option maxRecDepth 100000 in
set_option maxHeartbeats 4000000 in
theorem q_effect {p : Program} {l : Launch} {e : Env} {s : State} {m : MethodId} {below : List Frame} {meth : Method} {c : Code} {b L : Nat} {xs : Nat → Int32} {G : zg_T} {Q : State → Prop} (C : zz_C p l s m c b L xs G) {j cells slots : Nat} {M : zm_T} {H : Heap} {locs : List Loc} {ls : Array Slot} (hj : 6 * j + 6 ≤ L) (hc : cells + 1 ≤ 601024) (hsl : slots + 6 ≤ 7293034) (hJ : zJ M) (hI : zy_I G M s H locs) (hl : zl_has ls 8 (zz_V b G (6 * j)))
    (hN : ∀ (M : zm_T) (H : Heap) (locs : List Loc) (ls : Array Slot), zJ M → zy_I G M s H locs → zl_has ls 8 (zz_V b G (6 * j)) → W p l e room_1 s m #[Value.ref b] below meth c H locs (cells + 1) (slots + 6) Q (F0 m 1443 ls [])) : W p l e room_1 s m #[Value.ref b] below meth c H locs cells slots Q (F0 m 865 ls []) := by
  obtain ⟨hS, hK, hX, hxs, hb0, hbA, hL3, hfl⟩ := C
  have hx := hS.1
  have hb := hS.2.1
  have hl : zl_has ls 8 [some (.ref b), some (.ref (G.2.2.1 + 0)), some (.ref (G.2.2.1 + 151)), some (.ref (G.2.2.1 + 182)), some (.int (nI (6 * j))), none, none, none] := hl
  refine zr_aload_n hx hb kd_Lw_865 hl rfl ?_
  refine zr_aload_n hx hb kd_Lw_866 hl rfl ?_
  refine zr_iload hx hb kd_Lw_867 hl rfl ?_
  refine lv_iconst (v := 1) hx hb kd_Lw_869 (by decide) ?_
  refine lv_iadd hx hb kd_Lw_870 ?_
  refine zq_s (j := j) (k := 1) hS hxs hb0 hbA hI rfl (by omega) hL3 kd_Lw_871 ?_
  refine zr_aload_n hx hb kd_Lw_872 hl rfl ?_
  refine zr_iload hx hb kd_Lw_873 hl rfl ?_
  refine lv_iconst (v := 2) hx hb kd_Lw_875 (by decide) ?_
  refine lv_iadd hx hb kd_Lw_876 ?_
  refine zq_s (j := j) (k := 2) hS hxs hb0 hbA hI rfl (by omega) hL3 kd_Lw_877 ?_
  refine zr_aload_n hx hb kd_Lw_878 hl rfl ?_
  refine zr_iload hx hb kd_Lw_879 hl rfl ?_
  refine lv_iconst (v := 3) hx hb kd_Lw_881 (by decide) ?_
  refine lv_iadd hx hb kd_Lw_882 ?_
  refine zq_s (j := j) (k := 3) hS hxs hb0 hbA hI rfl (by omega) hL3 kd_Lw_883 ?_
  refine zr_aload_n hx hb kd_Lw_884 hl rfl ?_
  refine zr_iload hx hb kd_Lw_885 hl rfl ?_
  refine lv_iconst (v := 4) hx hb kd_Lw_887 (by decide) ?_
  refine lv_iadd hx hb kd_Lw_888 ?_
  refine zq_s (j := j) (k := 4) hS hxs hb0 hbA hI rfl (by omega) hL3 kd_Lw_889 ?_
  refine zr_aload_n hx hb kd_Lw_890 hl rfl ?_
  refine zr_iload hx hb kd_Lw_891 hl rfl ?_
  refine lv_iconst (v := 5) hx hb kd_Lw_893 (by decide) ?_
  refine lv_iadd hx hb kd_Lw_894 ?_
  refine zq_s (j := j) (k := 5) hS hxs hb0 hbA hI rfl (by omega) hL3 kd_Lw_895 ?_
  have hkw : zl_W 132 ky_La_effect kc_La_effect 7 6 [((0 : Nat), (11 : Nat), (14 : Nat), (21 : Nat))] := ⟨zw_mem (i := 522) rfl rfl, zw_mem (i := 523) rfl rfl, zw_mem (i := 31) rfl rfl, zw_mem (i := 524) rfl rfl, ⟨by decide +kernel, by decide +kernel, by decide +kernel⟩⟩
  refine zq_ci (zq_runS hS hK hX (w_effect l hfl G M hJ.1 _ _ _ _ _) hkw hI rfl hl.1 (Nat.le_of_ble_eq_true rfl) (by decide) ⟨hc, hsl⟩ kd_Lw_896 rfl) hI (fun k1 M1 H locs hp1 hI => ?_)
  have hL1 := r_effect hJ hp1
  refine zr_istore hx hb kd_Lw_899 hl (by decide) rfl (fun ls hl => ?_)
  refine zr_aload_n hx hb kd_Lw_901 hl rfl ?_
  refine zr_aload_n hx hb kd_Lw_902 hl rfl ?_
  refine zr_iload hx hb kd_Lw_903 hl rfl ?_
  refine lv_iconst (v := 1) hx hb kd_Lw_905 (by decide) ?_
  refine lv_iadd hx hb kd_Lw_906 ?_
  refine zq_s (j := j) (k := 1) hS hxs hb0 hbA hI rfl (by omega) hL3 kd_Lw_907 ?_
  refine zr_aload_n hx hb kd_Lw_908 hl rfl ?_
  refine zr_iload hx hb kd_Lw_909 hl rfl ?_
  refine lv_iconst (v := 2) hx hb kd_Lw_911 (by decide) ?_
  refine lv_iadd hx hb kd_Lw_912 ?_
  refine zq_s (j := j) (k := 2) hS hxs hb0 hbA hI rfl (by omega) hL3 kd_Lw_913 ?_
  refine zr_aload_n hx hb kd_Lw_914 hl rfl ?_
  refine zr_iload hx hb kd_Lw_915 hl rfl ?_
  refine lv_iconst (v := 3) hx hb kd_Lw_917 (by decide) ?_
  refine lv_iadd hx hb kd_Lw_918 ?_
  refine zq_s (j := j) (k := 3) hS hxs hb0 hbA hI rfl (by omega) hL3 kd_Lw_919 ?_
  refine zr_aload_n hx hb kd_Lw_920 hl rfl ?_
  refine zr_iload hx hb kd_Lw_921 hl rfl ?_
  refine lv_iconst (v := 4) hx hb kd_Lw_923 (by decide) ?_
  refine lv_iadd hx hb kd_Lw_924 ?_
  refine zq_s (j := j) (k := 4) hS hxs hb0 hbA hI rfl (by omega) hL3 kd_Lw_925 ?_
  refine zr_aload_n hx hb kd_Lw_926 hl rfl ?_
  refine zr_iload hx hb kd_Lw_927 hl rfl ?_
  refine lv_iconst (v := 5) hx hb kd_Lw_929 (by decide) ?_
  refine lv_iadd hx hb kd_Lw_930 ?_
  refine zq_s (j := j) (k := 5) hS hxs hb0 hbA hI rfl (by omega) hL3 kd_Lw_931 ?_
  refine zq_cv (zq_run hS hK hX (zy_lv (c_Mo_effect l G M1 hL1 _ _ _ _ _)) km_La_135 (zw_mem (i := 1207) rfl rfl) hI rfl hl.1 (Nat.le_of_ble_eq_true rfl) (by decide) ⟨hc, hsl⟩ kd_Lw_932 rfl) hI (fun M2 H locs hp2 hI => ?_)
  obtain ⟨hk, hJ2⟩ := s_effect hJ hp1 hp2
  refine zr_aload_n hx hb kd_Lw_935 hl rfl ?_
  refine zq_ci (zq_run hS hK hX (zy_li (c_Mo_thrown l G M2 hJ2.1)) km_La_95 (zw_mem (i := 1138) rfl rfl) hI rfl hl.1 (Nat.le_of_ble_eq_true rfl) (by decide) ⟨hc, hsl⟩ kd_Lw_936 rfl) hI (fun r3 M3 H locs hp3 hI => ?_)
  obtain ⟨hr3, hM3⟩ := hp3
  rw [hM3] at hI
  rw [hr3, hk]
  refine zr_iload hx hb kd_Lw_939 hl rfl ?_
  refine lv_icmp_eq (tgt := 946) hx hb kd_Lw_941 (by decide) (fun _ => ?_) (fun h => absurd rfl h)
  refine lv_goto (tgt := 1443) hx hb kd_Lw_946 (by decide) ?_
  exact hN _ _ _ _ hJ2 hI (zl_cut hl)
set_option maxRecDepth 100000 in
set_option maxHeartbeats 4000000 in
theorem q_fader {p : Program} {l : Launch} {e : Env} {s : State} {m : MethodId} {below : List Frame} {meth : Method} {c : Code} {b L : Nat} {xs : Nat → Int32} {G : zg_T} {Q : State → Prop} (C : zz_C p l s m c b L xs G) {j cells slots : Nat} {M : zm_T} {H : Heap} {locs : List Loc} {ls : Array Slot} (hj : 6 * j + 6 ≤ L) (hc : cells + 1 ≤ 601024) (hsl : slots + 6 ≤ 7293034) (hJ : zJ M) (hI : zy_I G M s H locs) (hl : zl_has ls 8 (zz_V b G (6 * j)))
    (hN : ∀ (M : zm_T) (H : Heap) (locs : List Loc) (ls : Array Slot), zJ M → zy_I G M s H locs → zl_has ls 8 (zz_V b G (6 * j)) → W p l e room_1 s m #[Value.ref b] below meth c H locs (cells + 1) (slots + 6) Q (F0 m 1443 ls [])) : W p l e room_1 s m #[Value.ref b] below meth c H locs cells slots Q (F0 m 949 ls []) := by
  obtain ⟨hS, hK, hX, hxs, hb0, hbA, hL3, hfl⟩ := C
  have hx := hS.1
  have hb := hS.2.1
  have hl : zl_has ls 8 [some (.ref b), some (.ref (G.2.2.1 + 0)), some (.ref (G.2.2.1 + 151)), some (.ref (G.2.2.1 + 182)), some (.int (nI (6 * j))), none, none, none] := hl
  refine zr_aload_n hx hb kd_Lw_949 hl rfl ?_
  refine zr_aload_n hx hb kd_Lw_950 hl rfl ?_
  refine zr_iload hx hb kd_Lw_951 hl rfl ?_
  refine lv_iconst (v := 1) hx hb kd_Lw_953 (by decide) ?_
  refine lv_iadd hx hb kd_Lw_954 ?_
  refine zq_s (j := j) (k := 1) hS hxs hb0 hbA hI rfl (by omega) hL3 kd_Lw_955 ?_
  refine zr_aload_n hx hb kd_Lw_956 hl rfl ?_
  refine zr_iload hx hb kd_Lw_957 hl rfl ?_
  refine lv_iconst (v := 2) hx hb kd_Lw_959 (by decide) ?_
  refine lv_iadd hx hb kd_Lw_960 ?_
  refine zq_s (j := j) (k := 2) hS hxs hb0 hbA hI rfl (by omega) hL3 kd_Lw_961 ?_
  have hkw : zl_W 136 ky_La_fader kc_La_fader 4 3 [((0 : Nat), (6 : Nat), (9 : Nat), (21 : Nat))] := ⟨zw_mem (i := 542) rfl rfl, zw_mem (i := 543) rfl rfl, zw_mem (i := 31) rfl rfl, zw_mem (i := 544) rfl rfl, ⟨by decide +kernel, by decide +kernel, by decide +kernel⟩⟩
  refine zq_ci (zq_runS hS hK hX (w_fader l hfl G M hJ.1 _ _) hkw hI rfl hl.1 (Nat.le_of_ble_eq_true rfl) (by decide) ⟨hc, hsl⟩ kd_Lw_962 rfl) hI (fun k1 M1 H locs hp1 hI => ?_)
  have hL1 := r_fader hJ hp1
  refine zr_istore hx hb kd_Lw_965 hl (by decide) rfl (fun ls hl => ?_)
  refine zr_aload_n hx hb kd_Lw_967 hl rfl ?_
  refine zr_aload_n hx hb kd_Lw_968 hl rfl ?_
  refine zr_iload hx hb kd_Lw_969 hl rfl ?_
  refine lv_iconst (v := 1) hx hb kd_Lw_971 (by decide) ?_
  refine lv_iadd hx hb kd_Lw_972 ?_
  refine zq_s (j := j) (k := 1) hS hxs hb0 hbA hI rfl (by omega) hL3 kd_Lw_973 ?_
  refine zr_aload_n hx hb kd_Lw_974 hl rfl ?_
  refine zr_iload hx hb kd_Lw_975 hl rfl ?_
  refine lv_iconst (v := 2) hx hb kd_Lw_977 (by decide) ?_
  refine lv_iadd hx hb kd_Lw_978 ?_
  refine zq_s (j := j) (k := 2) hS hxs hb0 hbA hI rfl (by omega) hL3 kd_Lw_979 ?_
  refine zq_cv (zq_run hS hK hX (zy_lv (c_Mo_fader l G M1 hL1 _ _)) km_La_138 (zw_mem (i := 1218) rfl rfl) hI rfl hl.1 (Nat.le_of_ble_eq_true rfl) (by decide) ⟨hc, hsl⟩ kd_Lw_980 rfl) hI (fun M2 H locs hp2 hI => ?_)
  obtain ⟨hk, hJ2⟩ := s_fader hJ hp1 hp2
  refine zr_aload_n hx hb kd_Lw_983 hl rfl ?_
  refine zq_ci (zq_run hS hK hX (zy_li (c_Mo_thrown l G M2 hJ2.1)) km_La_95 (zw_mem (i := 1138) rfl rfl) hI rfl hl.1 (Nat.le_of_ble_eq_true rfl) (by decide) ⟨hc, hsl⟩ kd_Lw_984 rfl) hI (fun r3 M3 H locs hp3 hI => ?_)
  obtain ⟨hr3, hM3⟩ := hp3
  rw [hM3] at hI
  rw [hr3, hk]
  refine zr_iload hx hb kd_Lw_987 hl rfl ?_
  refine lv_icmp_eq (tgt := 994) hx hb kd_Lw_989 (by decide) (fun _ => ?_) (fun h => absurd rfl h)
  refine lv_goto (tgt := 1443) hx hb kd_Lw_994 (by decide) ?_
  exact hN _ _ _ _ hJ2 hI (zl_cut hl)
set_option maxRecDepth 100000 in
set_option maxHeartbeats 4000000 in
theorem q_point {p : Program} {l : Launch} {e : Env} {s : State} {m : MethodId} {below : List Frame} {meth : Method} {c : Code} {b L : Nat} {xs : Nat → Int32} {G : zg_T} {Q : State → Prop} (C : zz_C p l s m c b L xs G) {j cells slots : Nat} {M : zm_T} {H : Heap} {locs : List Loc} {ls : Array Slot} (hj : 6 * j + 6 ≤ L) (hc : cells + 1 ≤ 601024) (hsl : slots + 6 ≤ 7293034) (hJ : zJ M) (hI : zy_I G M s H locs) (hl : zl_has ls 8 (zz_V b G (6 * j)))
    (hN : ∀ (M : zm_T) (H : Heap) (locs : List Loc) (ls : Array Slot), zJ M → zy_I G M s H locs → zl_has ls 8 (zz_V b G (6 * j)) → W p l e room_1 s m #[Value.ref b] below meth c H locs (cells + 1) (slots + 6) Q (F0 m 1443 ls [])) : W p l e room_1 s m #[Value.ref b] below meth c H locs cells slots Q (F0 m 997 ls []) := by
  obtain ⟨hS, hK, hX, hxs, hb0, hbA, hL3, hfl⟩ := C
  have hx := hS.1
  have hb := hS.2.1
  have hl : zl_has ls 8 [some (.ref b), some (.ref (G.2.2.1 + 0)), some (.ref (G.2.2.1 + 151)), some (.ref (G.2.2.1 + 182)), some (.int (nI (6 * j))), none, none, none] := hl
  refine zr_aload_n hx hb kd_Lw_997 hl rfl ?_
  refine zr_aload_n hx hb kd_Lw_998 hl rfl ?_
  refine zr_iload hx hb kd_Lw_999 hl rfl ?_
  refine lv_iconst (v := 1) hx hb kd_Lw_1001 (by decide) ?_
  refine lv_iadd hx hb kd_Lw_1002 ?_
  refine zq_s (j := j) (k := 1) hS hxs hb0 hbA hI rfl (by omega) hL3 kd_Lw_1003 ?_
  refine zr_aload_n hx hb kd_Lw_1004 hl rfl ?_
  refine zr_iload hx hb kd_Lw_1005 hl rfl ?_
  refine lv_iconst (v := 2) hx hb kd_Lw_1007 (by decide) ?_
  refine lv_iadd hx hb kd_Lw_1008 ?_
  refine zq_s (j := j) (k := 2) hS hxs hb0 hbA hI rfl (by omega) hL3 kd_Lw_1009 ?_
  refine zr_aload_n hx hb kd_Lw_1010 hl rfl ?_
  refine zr_iload hx hb kd_Lw_1011 hl rfl ?_
  refine lv_iconst (v := 3) hx hb kd_Lw_1013 (by decide) ?_
  refine lv_iadd hx hb kd_Lw_1014 ?_
  refine zq_s (j := j) (k := 3) hS hxs hb0 hbA hI rfl (by omega) hL3 kd_Lw_1015 ?_
  refine zr_aload_n hx hb kd_Lw_1016 hl rfl ?_
  refine zr_iload hx hb kd_Lw_1017 hl rfl ?_
  refine lv_iconst (v := 4) hx hb kd_Lw_1019 (by decide) ?_
  refine lv_iadd hx hb kd_Lw_1020 ?_
  refine zq_s (j := j) (k := 4) hS hxs hb0 hbA hI rfl (by omega) hL3 kd_Lw_1021 ?_
  refine lv_if_eq (tgt := 1029) hx hb kd_Lw_1022 (by decide) (fun h1022 => ?_) (fun h1022 => ?_)
  · skip
    refine lv_iconst (v := 0) hx hb kd_Lw_1029 (by decide) ?_
    refine zr_aload_n hx hb kd_Lw_1030 hl rfl ?_
    have hkw : zl_W 139 ky_La_point kc_La_point 7 6 [((0 : Nat), (21 : Nat), (24 : Nat), (21 : Nat))] := ⟨zw_mem (i := 549) rfl rfl, zw_mem (i := 550) rfl rfl, zw_mem (i := 31) rfl rfl, zw_mem (i := 551) rfl rfl, ⟨by decide +kernel, by decide +kernel, by decide +kernel⟩⟩
    refine zq_ci (zq_runS hS hK hX (w_point l hfl G M hJ.1 _ _ _ _ (by decide) (zJ_fn M) (zq_fn hJ.2.2.2.2.2.1)) hkw hI rfl hl.1 (Nat.le_of_ble_eq_true rfl) (by decide) ⟨hc, hsl⟩ kd_Lw_1031 rfl) hI (fun k1 M1 H locs hp1 hI => ?_)
    have hL1 := r_point hJ hp1
    refine zr_istore hx hb kd_Lw_1034 hl (by decide) rfl (fun ls hl => ?_)
    refine zr_aload_n hx hb kd_Lw_1036 hl rfl ?_
    refine zr_aload_n hx hb kd_Lw_1037 hl rfl ?_
    refine zr_iload hx hb kd_Lw_1038 hl rfl ?_
    refine lv_iconst (v := 1) hx hb kd_Lw_1040 (by decide) ?_
    refine lv_iadd hx hb kd_Lw_1041 ?_
    refine zq_s (j := j) (k := 1) hS hxs hb0 hbA hI rfl (by omega) hL3 kd_Lw_1042 ?_
    refine zr_aload_n hx hb kd_Lw_1043 hl rfl ?_
    refine zr_iload hx hb kd_Lw_1044 hl rfl ?_
    refine lv_iconst (v := 2) hx hb kd_Lw_1046 (by decide) ?_
    refine lv_iadd hx hb kd_Lw_1047 ?_
    refine zq_s (j := j) (k := 2) hS hxs hb0 hbA hI rfl (by omega) hL3 kd_Lw_1048 ?_
    refine zr_aload_n hx hb kd_Lw_1049 hl rfl ?_
    refine zr_iload hx hb kd_Lw_1050 hl rfl ?_
    refine lv_iconst (v := 3) hx hb kd_Lw_1052 (by decide) ?_
    refine lv_iadd hx hb kd_Lw_1053 ?_
    refine zq_s (j := j) (k := 3) hS hxs hb0 hbA hI rfl (by omega) hL3 kd_Lw_1054 ?_
    refine zr_aload_n hx hb kd_Lw_1055 hl rfl ?_
    refine zr_iload hx hb kd_Lw_1056 hl rfl ?_
    refine lv_iconst (v := 4) hx hb kd_Lw_1058 (by decide) ?_
    refine lv_iadd hx hb kd_Lw_1059 ?_
    refine zq_s (j := j) (k := 4) hS hxs hb0 hbA hI rfl (by omega) hL3 kd_Lw_1060 ?_
    refine lv_if_eq (tgt := 1068) hx hb kd_Lw_1061 (by decide) (fun _ => ?_) (fun h => absurd h1022 h)
    refine lv_iconst (v := 0) hx hb kd_Lw_1068 (by decide) ?_
    refine zq_ci (zq_run hS hK hX (zy_li (c_Mo_point l G M1 hL1 _ _ _ _ (by decide) (fun s hs => ⟨_, (zJ_f1 hJ.2.2.2.2.2.1 hs).1.2.1, by rw [e_point hp1 _ _ (by decide)]; exact (zJ_f1 hJ.2.2.2.2.2.1 hs).1.1⟩) (fun q hq => by rw [e_point hp1 _ _ (by decide)]; exact hJ.2.2.2.2.2.1.2 q hq))) km_La_142 (zw_mem (i := 1222) rfl rfl) hI rfl hl.1 (Nat.le_of_ble_eq_true rfl) (by decide) ⟨hc, hsl⟩ kd_Lw_1069 rfl) hI (fun rb M2 H locs hp2 hI => ?_)
    obtain ⟨hk, hJ2, hv⟩ := s_point hJ (by decide) hp1 hp2
    refine zr_istore hx hb kd_Lw_1072 hl (by decide) rfl (fun ls hl => ?_)
    refine zr_aload_n hx hb kd_Lw_1074 hl rfl ?_
    refine zq_ci (zq_run hS hK hX (zy_li (c_Mo_thrown l G M2 hJ2.1)) km_La_95 (zw_mem (i := 1138) rfl rfl) hI rfl hl.1 (Nat.le_of_ble_eq_true rfl) (by decide) ⟨hc, hsl⟩ kd_Lw_1075 rfl) hI (fun r3 M3 H locs hp3 hI => ?_)
    obtain ⟨hr3, hM3⟩ := hp3
    rw [hM3] at hI
    rw [hr3, hk]
    refine zr_iload hx hb kd_Lw_1078 hl rfl ?_
    refine lv_icmp_eq (tgt := 1085) hx hb kd_Lw_1080 (by decide) (fun _ => ?_) (fun h => absurd rfl h)
    refine zr_iload hx hb kd_Lw_1085 hl rfl ?_
    refine lv_if_ne (tgt := 1109) hx hb kd_Lw_1087 (by decide) (fun h1087 => ?_) (fun h1087 => ?_)
    · skip
      refine lv_goto (tgt := 1443) hx hb kd_Lw_1109 (by decide) ?_
      exact hN _ _ _ _ hJ2 hI (zl_cut hl)
    · skip
      refine zr_aload_n hx hb kd_Lw_1090 hl rfl ?_
      refine lv_iconst (v := 0) hx hb kd_Lw_1091 (by decide) ?_
      refine zr_lald hS hK hI.1 (a := 182) (n := 1) (by decide) (by decide +kernel) (vp_in_iff.mpr (by decide)) kd_Lw_1092 ?_
      refine zr_iload hx hb kd_Lw_1093 hl rfl ?_
      refine lv_if_eq (tgt := 1102) hx hb kd_Lw_1095 (by decide) (fun h1095 => ?_) (fun h1095 => ?_)
      · skip
        refine lv_lconst (v := 0) hx hb kd_Lw_1102 (by decide) ?_
        refine W.lcmp hx hb kd_Lw_1103 ?_
        refine lv_if_eq (tgt := 1109) hx hb kd_Lw_1104 (by decide) (fun _ => ?_) (fun h => absurd (by show lg_cmp (M2.2.2 182 0) _ = 0; rw [hv h1087, if_pos h1095]; exact zq_cmp _) h)
        refine lv_goto (tgt := 1443) hx hb kd_Lw_1109 (by decide) ?_
        exact hN _ _ _ _ hJ2 hI (zl_cut hl)
      · skip
        refine lv_lconst (v := 1) hx hb kd_Lw_1098 (by decide) ?_
        refine lv_goto (tgt := 1103) hx hb kd_Lw_1099 (by decide) ?_
        refine W.lcmp hx hb kd_Lw_1103 ?_
        refine lv_if_eq (tgt := 1109) hx hb kd_Lw_1104 (by decide) (fun _ => ?_) (fun h => absurd (by show lg_cmp (M2.2.2 182 0) _ = 0; rw [hv h1087, if_neg h1095]; exact zq_cmp _) h)
        refine lv_goto (tgt := 1443) hx hb kd_Lw_1109 (by decide) ?_
        exact hN _ _ _ _ hJ2 hI (zl_cut hl)
  · skip
    refine lv_iconst (v := 1) hx hb kd_Lw_1025 (by decide) ?_
    refine lv_goto (tgt := 1030) hx hb kd_Lw_1026 (by decide) ?_
    refine zr_aload_n hx hb kd_Lw_1030 hl rfl ?_
    have hkw : zl_W 139 ky_La_point kc_La_point 7 6 [((0 : Nat), (21 : Nat), (24 : Nat), (21 : Nat))] := ⟨zw_mem (i := 549) rfl rfl, zw_mem (i := 550) rfl rfl, zw_mem (i := 31) rfl rfl, zw_mem (i := 551) rfl rfl, ⟨by decide +kernel, by decide +kernel, by decide +kernel⟩⟩
    refine zq_ci (zq_runS hS hK hX (w_point l hfl G M hJ.1 _ _ _ _ (by decide) (zJ_fn M) (zq_fn hJ.2.2.2.2.2.1)) hkw hI rfl hl.1 (Nat.le_of_ble_eq_true rfl) (by decide) ⟨hc, hsl⟩ kd_Lw_1031 rfl) hI (fun k1 M1 H locs hp1 hI => ?_)
    have hL1 := r_point hJ hp1
    refine zr_istore hx hb kd_Lw_1034 hl (by decide) rfl (fun ls hl => ?_)
    refine zr_aload_n hx hb kd_Lw_1036 hl rfl ?_
    refine zr_aload_n hx hb kd_Lw_1037 hl rfl ?_
    refine zr_iload hx hb kd_Lw_1038 hl rfl ?_
    refine lv_iconst (v := 1) hx hb kd_Lw_1040 (by decide) ?_
    refine lv_iadd hx hb kd_Lw_1041 ?_
    refine zq_s (j := j) (k := 1) hS hxs hb0 hbA hI rfl (by omega) hL3 kd_Lw_1042 ?_
    refine zr_aload_n hx hb kd_Lw_1043 hl rfl ?_
    refine zr_iload hx hb kd_Lw_1044 hl rfl ?_
    refine lv_iconst (v := 2) hx hb kd_Lw_1046 (by decide) ?_
    refine lv_iadd hx hb kd_Lw_1047 ?_
    refine zq_s (j := j) (k := 2) hS hxs hb0 hbA hI rfl (by omega) hL3 kd_Lw_1048 ?_
    refine zr_aload_n hx hb kd_Lw_1049 hl rfl ?_
    refine zr_iload hx hb kd_Lw_1050 hl rfl ?_
    refine lv_iconst (v := 3) hx hb kd_Lw_1052 (by decide) ?_
    refine lv_iadd hx hb kd_Lw_1053 ?_
    refine zq_s (j := j) (k := 3) hS hxs hb0 hbA hI rfl (by omega) hL3 kd_Lw_1054 ?_
    refine zr_aload_n hx hb kd_Lw_1055 hl rfl ?_
    refine zr_iload hx hb kd_Lw_1056 hl rfl ?_
    refine lv_iconst (v := 4) hx hb kd_Lw_1058 (by decide) ?_
    refine lv_iadd hx hb kd_Lw_1059 ?_
    refine zq_s (j := j) (k := 4) hS hxs hb0 hbA hI rfl (by omega) hL3 kd_Lw_1060 ?_
    refine lv_if_eq (tgt := 1068) hx hb kd_Lw_1061 (by decide) (fun h => absurd h h1022) (fun _ => ?_)
    refine lv_iconst (v := 1) hx hb kd_Lw_1064 (by decide) ?_
    refine lv_goto (tgt := 1069) hx hb kd_Lw_1065 (by decide) ?_
    refine zq_ci (zq_run hS hK hX (zy_li (c_Mo_point l G M1 hL1 _ _ _ _ (by decide) (fun s hs => ⟨_, (zJ_f1 hJ.2.2.2.2.2.1 hs).1.2.1, by rw [e_point hp1 _ _ (by decide)]; exact (zJ_f1 hJ.2.2.2.2.2.1 hs).1.1⟩) (fun q hq => by rw [e_point hp1 _ _ (by decide)]; exact hJ.2.2.2.2.2.1.2 q hq))) km_La_142 (zw_mem (i := 1222) rfl rfl) hI rfl hl.1 (Nat.le_of_ble_eq_true rfl) (by decide) ⟨hc, hsl⟩ kd_Lw_1069 rfl) hI (fun rb M2 H locs hp2 hI => ?_)
    obtain ⟨hk, hJ2, hv⟩ := s_point hJ (by decide) hp1 hp2
    refine zr_istore hx hb kd_Lw_1072 hl (by decide) rfl (fun ls hl => ?_)
    refine zr_aload_n hx hb kd_Lw_1074 hl rfl ?_
    refine zq_ci (zq_run hS hK hX (zy_li (c_Mo_thrown l G M2 hJ2.1)) km_La_95 (zw_mem (i := 1138) rfl rfl) hI rfl hl.1 (Nat.le_of_ble_eq_true rfl) (by decide) ⟨hc, hsl⟩ kd_Lw_1075 rfl) hI (fun r3 M3 H locs hp3 hI => ?_)
    obtain ⟨hr3, hM3⟩ := hp3
    rw [hM3] at hI
    rw [hr3, hk]
    refine zr_iload hx hb kd_Lw_1078 hl rfl ?_
    refine lv_icmp_eq (tgt := 1085) hx hb kd_Lw_1080 (by decide) (fun _ => ?_) (fun h => absurd rfl h)
    refine zr_iload hx hb kd_Lw_1085 hl rfl ?_
    refine lv_if_ne (tgt := 1109) hx hb kd_Lw_1087 (by decide) (fun h1087 => ?_) (fun h1087 => ?_)
    · skip
      refine lv_goto (tgt := 1443) hx hb kd_Lw_1109 (by decide) ?_
      exact hN _ _ _ _ hJ2 hI (zl_cut hl)
    · skip
      refine zr_aload_n hx hb kd_Lw_1090 hl rfl ?_
      refine lv_iconst (v := 0) hx hb kd_Lw_1091 (by decide) ?_
      refine zr_lald hS hK hI.1 (a := 182) (n := 1) (by decide) (by decide +kernel) (vp_in_iff.mpr (by decide)) kd_Lw_1092 ?_
      refine zr_iload hx hb kd_Lw_1093 hl rfl ?_
      refine lv_if_eq (tgt := 1102) hx hb kd_Lw_1095 (by decide) (fun h1095 => ?_) (fun h1095 => ?_)
      · skip
        refine lv_lconst (v := 0) hx hb kd_Lw_1102 (by decide) ?_
        refine W.lcmp hx hb kd_Lw_1103 ?_
        refine lv_if_eq (tgt := 1109) hx hb kd_Lw_1104 (by decide) (fun _ => ?_) (fun h => absurd (by show lg_cmp (M2.2.2 182 0) _ = 0; rw [hv h1087, if_pos h1095]; exact zq_cmp _) h)
        refine lv_goto (tgt := 1443) hx hb kd_Lw_1109 (by decide) ?_
        exact hN _ _ _ _ hJ2 hI (zl_cut hl)
      · skip
        refine lv_lconst (v := 1) hx hb kd_Lw_1098 (by decide) ?_
        refine lv_goto (tgt := 1103) hx hb kd_Lw_1099 (by decide) ?_
        refine W.lcmp hx hb kd_Lw_1103 ?_
        refine lv_if_eq (tgt := 1109) hx hb kd_Lw_1104 (by decide) (fun _ => ?_) (fun h => absurd (by show lg_cmp (M2.2.2 182 0) _ = 0; rw [hv h1087, if_neg h1095]; exact zq_cmp _) h)
        refine lv_goto (tgt := 1443) hx hb kd_Lw_1109 (by decide) ?_
        exact hN _ _ _ _ hJ2 hI (zl_cut hl)
set_option maxRecDepth 100000 in
set_option maxHeartbeats 4000000 in
theorem q_turn {p : Program} {l : Launch} {e : Env} {s : State} {m : MethodId} {below : List Frame} {meth : Method} {c : Code} {b L : Nat} {xs : Nat → Int32} {G : zg_T} {Q : State → Prop} (C : zz_C p l s m c b L xs G) {j cells slots : Nat} {M : zm_T} {H : Heap} {locs : List Loc} {ls : Array Slot} (hj : 6 * j + 6 ≤ L) (hc : cells + 1 ≤ 601024) (hsl : slots + 6 ≤ 7293034) (hJ : zJ M) (hI : zy_I G M s H locs) (hl : zl_has ls 8 (zz_V b G (6 * j)))
    (hN : ∀ (M : zm_T) (H : Heap) (locs : List Loc) (ls : Array Slot), zJ M → zy_I G M s H locs → zl_has ls 8 (zz_V b G (6 * j)) → W p l e room_1 s m #[Value.ref b] below meth c H locs (cells + 1) (slots + 6) Q (F0 m 1443 ls [])) : W p l e room_1 s m #[Value.ref b] below meth c H locs cells slots Q (F0 m 1112 ls []) := by
  obtain ⟨hS, hK, hX, hxs, hb0, hbA, hL3, hfl⟩ := C
  have hx := hS.1
  have hb := hS.2.1
  have hl : zl_has ls 8 [some (.ref b), some (.ref (G.2.2.1 + 0)), some (.ref (G.2.2.1 + 151)), some (.ref (G.2.2.1 + 182)), some (.int (nI (6 * j))), none, none, none] := hl
  refine zr_aload_n hx hb kd_Lw_1112 hl rfl ?_
  refine zr_aload_n hx hb kd_Lw_1113 hl rfl ?_
  refine zr_iload hx hb kd_Lw_1114 hl rfl ?_
  refine lv_iconst (v := 1) hx hb kd_Lw_1116 (by decide) ?_
  refine lv_iadd hx hb kd_Lw_1117 ?_
  refine zq_s (j := j) (k := 1) hS hxs hb0 hbA hI rfl (by omega) hL3 kd_Lw_1118 ?_
  refine zr_aload_n hx hb kd_Lw_1119 hl rfl ?_
  refine zr_iload hx hb kd_Lw_1120 hl rfl ?_
  refine lv_iconst (v := 2) hx hb kd_Lw_1122 (by decide) ?_
  refine lv_iadd hx hb kd_Lw_1123 ?_
  refine zq_s (j := j) (k := 2) hS hxs hb0 hbA hI rfl (by omega) hL3 kd_Lw_1124 ?_
  refine zr_aload_n hx hb kd_Lw_1125 hl rfl ?_
  have hkw : zl_W 143 ky_La_turn kc_La_turn 5 4 [((0 : Nat), (10 : Nat), (13 : Nat), (21 : Nat))] := ⟨zw_mem (i := 568) rfl rfl, zw_mem (i := 569) rfl rfl, zw_mem (i := 31) rfl rfl, zw_mem (i := 570) rfl rfl, ⟨by decide +kernel, by decide +kernel, by decide +kernel⟩⟩
  refine zq_ci (zq_runS hS hK hX (w_turn l hfl G M hJ.1 _ _) hkw hI rfl hl.1 (Nat.le_of_ble_eq_true rfl) (by decide) ⟨hc, hsl⟩ kd_Lw_1126 rfl) hI (fun k1 M1 H locs hp1 hI => ?_)
  have hL1 := r_turn hJ hp1
  refine zr_istore hx hb kd_Lw_1129 hl (by decide) rfl (fun ls hl => ?_)
  refine zr_aload_n hx hb kd_Lw_1131 hl rfl ?_
  refine zr_aload_n hx hb kd_Lw_1132 hl rfl ?_
  refine zr_iload hx hb kd_Lw_1133 hl rfl ?_
  refine lv_iconst (v := 1) hx hb kd_Lw_1135 (by decide) ?_
  refine lv_iadd hx hb kd_Lw_1136 ?_
  refine zq_s (j := j) (k := 1) hS hxs hb0 hbA hI rfl (by omega) hL3 kd_Lw_1137 ?_
  refine zr_aload_n hx hb kd_Lw_1138 hl rfl ?_
  refine zr_iload hx hb kd_Lw_1139 hl rfl ?_
  refine lv_iconst (v := 2) hx hb kd_Lw_1141 (by decide) ?_
  refine lv_iadd hx hb kd_Lw_1142 ?_
  refine zq_s (j := j) (k := 2) hS hxs hb0 hbA hI rfl (by omega) hL3 kd_Lw_1143 ?_
  refine zq_ci (zq_run hS hK hX (zy_li (c_Mo_turn l G M1 hL1 _ _)) km_La_145 (zw_mem (i := 1226) rfl rfl) hI rfl hl.1 (Nat.le_of_ble_eq_true rfl) (by decide) ⟨hc, hsl⟩ kd_Lw_1144 rfl) hI (fun rb M2 H locs hp2 hI => ?_)
  obtain ⟨hk, hJ2, hv⟩ := s_turn hJ hp1 hp2
  refine zr_istore hx hb kd_Lw_1147 hl (by decide) rfl (fun ls hl => ?_)
  refine zr_aload_n hx hb kd_Lw_1149 hl rfl ?_
  refine zq_ci (zq_run hS hK hX (zy_li (c_Mo_thrown l G M2 hJ2.1)) km_La_95 (zw_mem (i := 1138) rfl rfl) hI rfl hl.1 (Nat.le_of_ble_eq_true rfl) (by decide) ⟨hc, hsl⟩ kd_Lw_1150 rfl) hI (fun r3 M3 H locs hp3 hI => ?_)
  obtain ⟨hr3, hM3⟩ := hp3
  rw [hM3] at hI
  rw [hr3, hk]
  refine zr_iload hx hb kd_Lw_1153 hl rfl ?_
  refine lv_icmp_eq (tgt := 1160) hx hb kd_Lw_1155 (by decide) (fun _ => ?_) (fun h => absurd rfl h)
  refine zr_iload hx hb kd_Lw_1160 hl rfl ?_
  refine lv_if_ne (tgt := 1177) hx hb kd_Lw_1162 (by decide) (fun h1162 => ?_) (fun h1162 => ?_)
  · skip
    refine lv_goto (tgt := 1443) hx hb kd_Lw_1177 (by decide) ?_
    exact hN _ _ _ _ hJ2 hI (zl_cut hl)
  · skip
    refine zr_aload_n hx hb kd_Lw_1165 hl rfl ?_
    refine lv_iconst (v := 0) hx hb kd_Lw_1166 (by decide) ?_
    refine zr_lald hS hK hI.1 (a := 182) (n := 1) (by decide) (by decide +kernel) (vp_in_iff.mpr (by decide)) kd_Lw_1167 ?_
    refine zr_iload hx hb kd_Lw_1168 hl rfl ?_
    refine lv_i2l hx hb kd_Lw_1170 rfl ?_
    refine W.lcmp hx hb kd_Lw_1171 ?_
    refine lv_if_eq (tgt := 1177) hx hb kd_Lw_1172 (by decide) (fun _ => ?_) (fun h => absurd (by show lg_cmp (M2.2.2 182 0) _ = 0; rw [hv h1162]; exact zq_cmp _) h)
    refine lv_goto (tgt := 1443) hx hb kd_Lw_1177 (by decide) ?_
    exact hN _ _ _ _ hJ2 hI (zl_cut hl)
set_option maxRecDepth 100000 in
set_option maxHeartbeats 4000000 in
theorem q_render {p : Program} {l : Launch} {e : Env} {s : State} {m : MethodId} {below : List Frame} {meth : Method} {c : Code} {b L : Nat} {xs : Nat → Int32} {G : zg_T} {Q : State → Prop} (C : zz_C p l s m c b L xs G) {j cells slots : Nat} {M : zm_T} {H : Heap} {locs : List Loc} {ls : Array Slot} (hj : 6 * j + 6 ≤ L) (hc : cells + 1 ≤ 601024) (hsl : slots + 6 ≤ 7293034) (hJ : zJ M) (hI : zy_I G M s H locs) (hl : zl_has ls 8 (zz_V b G (6 * j)))
    (hN : ∀ (M : zm_T) (H : Heap) (locs : List Loc) (ls : Array Slot), zJ M → zy_I G M s H locs → zl_has ls 8 (zz_V b G (6 * j)) → W p l e room_1 s m #[Value.ref b] below meth c H locs (cells + 1) (slots + 6) Q (F0 m 1443 ls [])) : W p l e room_1 s m #[Value.ref b] below meth c H locs cells slots Q (F0 m 1180 ls []) := by
  obtain ⟨hS, hK, hX, hxs, hb0, hbA, hL3, hfl⟩ := C
  have hx := hS.1
  have hb := hS.2.1
  have hl : zl_has ls 8 [some (.ref b), some (.ref (G.2.2.1 + 0)), some (.ref (G.2.2.1 + 151)), some (.ref (G.2.2.1 + 182)), some (.int (nI (6 * j))), none, none, none] := hl
  refine zr_aload_n hx hb kd_Lw_1180 hl rfl ?_
  refine zr_aload_n hx hb kd_Lw_1181 hl rfl ?_
  refine zr_iload hx hb kd_Lw_1182 hl rfl ?_
  refine lv_iconst (v := 1) hx hb kd_Lw_1184 (by decide) ?_
  refine lv_iadd hx hb kd_Lw_1185 ?_
  refine zq_s (j := j) (k := 1) hS hxs hb0 hbA hI rfl (by omega) hL3 kd_Lw_1186 ?_
  refine zr_aload_n hx hb kd_Lw_1187 hl rfl ?_
  refine zr_iload hx hb kd_Lw_1188 hl rfl ?_
  refine lv_iconst (v := 2) hx hb kd_Lw_1190 (by decide) ?_
  refine lv_iadd hx hb kd_Lw_1191 ?_
  refine zq_s (j := j) (k := 2) hS hxs hb0 hbA hI rfl (by omega) hL3 kd_Lw_1192 ?_
  have hkw : zl_W 146 ky_La_render kc_La_render 4 3 [((0 : Nat), (6 : Nat), (9 : Nat), (21 : Nat))] := ⟨zw_mem (i := 587) rfl rfl, zw_mem (i := 588) rfl rfl, zw_mem (i := 31) rfl rfl, zw_mem (i := 589) rfl rfl, ⟨by decide +kernel, by decide +kernel, by decide +kernel⟩⟩
  refine zq_ci (zq_runS hS hK hX (w_render l hfl G M hJ.1 (zJ_fn M) _ _ (zJ_Qok hJ)) hkw hI rfl hl.1 (Nat.le_of_ble_eq_true rfl) (by decide) ⟨hc, hsl⟩ kd_Lw_1193 rfl) hI (fun k1 M1 H locs hp1 hI => ?_)
  have hL1 := r_render hJ hp1
  refine zr_istore hx hb kd_Lw_1196 hl (by decide) rfl (fun ls hl => ?_)
  refine zr_aload_n hx hb kd_Lw_1198 hl rfl ?_
  refine zr_aload_n hx hb kd_Lw_1199 hl rfl ?_
  refine zr_iload hx hb kd_Lw_1200 hl rfl ?_
  refine lv_iconst (v := 1) hx hb kd_Lw_1202 (by decide) ?_
  refine lv_iadd hx hb kd_Lw_1203 ?_
  refine zq_s (j := j) (k := 1) hS hxs hb0 hbA hI rfl (by omega) hL3 kd_Lw_1204 ?_
  refine zr_aload_n hx hb kd_Lw_1205 hl rfl ?_
  refine zr_iload hx hb kd_Lw_1206 hl rfl ?_
  refine lv_iconst (v := 2) hx hb kd_Lw_1208 (by decide) ?_
  refine lv_iadd hx hb kd_Lw_1209 ?_
  refine zq_s (j := j) (k := 2) hS hxs hb0 hbA hI rfl (by omega) hL3 kd_Lw_1210 ?_
  refine zq_cv (zq_run hS hK hX (zy_lv (c_Mo_render l G M1 hL1 (zJ_fn M) _ _ (zR_ok_c (fun c q h1 h2 => e_render hp1 c q (by omega)) (zJ_Rok hJ)))) km_La_148 (zw_mem (i := 1230) rfl rfl) hI rfl hl.1 (Nat.le_of_ble_eq_true rfl) (by decide) ⟨hc, hsl⟩ kd_Lw_1211 rfl) hI (fun M2 H locs hp2 hI => ?_)
  obtain ⟨hk, hJ2⟩ := s_render hJ hp1 hp2
  refine zr_aload_n hx hb kd_Lw_1214 hl rfl ?_
  refine zq_ci (zq_run hS hK hX (zy_li (c_Mo_thrown l G M2 hJ2.1)) km_La_95 (zw_mem (i := 1138) rfl rfl) hI rfl hl.1 (Nat.le_of_ble_eq_true rfl) (by decide) ⟨hc, hsl⟩ kd_Lw_1215 rfl) hI (fun r3 M3 H locs hp3 hI => ?_)
  obtain ⟨hr3, hM3⟩ := hp3
  rw [hM3] at hI
  rw [hr3, hk]
  refine zr_iload hx hb kd_Lw_1218 hl rfl ?_
  refine lv_icmp_eq (tgt := 1225) hx hb kd_Lw_1220 (by decide) (fun _ => ?_) (fun h => absurd rfl h)
  refine lv_goto (tgt := 1443) hx hb kd_Lw_1225 (by decide) ?_
  exact hN _ _ _ _ hJ2 hI (zl_cut hl)
set_option maxRecDepth 100000 in
set_option maxHeartbeats 4000000 in
theorem q_sample {p : Program} {l : Launch} {e : Env} {s : State} {m : MethodId} {below : List Frame} {meth : Method} {c : Code} {b L : Nat} {xs : Nat → Int32} {G : zg_T} {Q : State → Prop} (C : zz_C p l s m c b L xs G) {j cells slots : Nat} {M : zm_T} {H : Heap} {locs : List Loc} {ls : Array Slot} (hj : 6 * j + 6 ≤ L) (hc : cells + 1 ≤ 601024) (hsl : slots + 6 ≤ 7293034) (hJ : zJ M) (hI : zy_I G M s H locs) (hl : zl_has ls 8 (zz_V b G (6 * j)))
    (hN : ∀ (M : zm_T) (H : Heap) (locs : List Loc) (ls : Array Slot), zJ M → zy_I G M s H locs → zl_has ls 8 (zz_V b G (6 * j)) → W p l e room_1 s m #[Value.ref b] below meth c H locs (cells + 1) (slots + 6) Q (F0 m 1443 ls [])) : W p l e room_1 s m #[Value.ref b] below meth c H locs cells slots Q (F0 m 1228 ls []) := by
  obtain ⟨hS, hK, hX, hxs, hb0, hbA, hL3, hfl⟩ := C
  have hx := hS.1
  have hb := hS.2.1
  have hl : zl_has ls 8 [some (.ref b), some (.ref (G.2.2.1 + 0)), some (.ref (G.2.2.1 + 151)), some (.ref (G.2.2.1 + 182)), some (.int (nI (6 * j))), none, none, none] := hl
  obtain ⟨⟨fb, nb, b1, b2, b3, b4, b5, b6⟩, b7⟩ := id hJ.2.2.2.2.2.2.2
  refine zr_aload_n hx hb kd_Lw_1228 hl rfl ?_
  refine zr_aload_n hx hb kd_Lw_1229 hl rfl ?_
  refine zr_iload hx hb kd_Lw_1230 hl rfl ?_
  refine lv_iconst (v := 1) hx hb kd_Lw_1232 (by decide) ?_
  refine lv_iadd hx hb kd_Lw_1233 ?_
  refine zq_s (j := j) (k := 1) hS hxs hb0 hbA hI rfl (by omega) hL3 kd_Lw_1234 ?_
  refine zr_aload_n hx hb kd_Lw_1235 hl rfl ?_
  refine zr_iload hx hb kd_Lw_1236 hl rfl ?_
  refine lv_iconst (v := 2) hx hb kd_Lw_1238 (by decide) ?_
  refine lv_iadd hx hb kd_Lw_1239 ?_
  refine zq_s (j := j) (k := 2) hS hxs hb0 hbA hI rfl (by omega) hL3 kd_Lw_1240 ?_
  refine zr_aload_n hx hb kd_Lw_1241 hl rfl ?_
  have hkw : zl_W 149 ky_La_sample kc_La_sample 5 4 [((0 : Nat), (10 : Nat), (13 : Nat), (13 : Nat))] := ⟨zw_mem (i := 989) rfl rfl, zw_mem (i := 990) rfl rfl, zw_mem (i := 31) rfl rfl, zw_mem (i := 991) rfl rfl, ⟨by decide +kernel, by decide +kernel, by decide +kernel⟩⟩
  refine zq_ci (zq_runS hS hK hX (w_sample l hfl G M hJ.1 _ _ fb nb b1 b2 b3 b4) hkw hI rfl hl.1 (Nat.le_of_ble_eq_true rfl) (by decide) ⟨hc, hsl⟩ kd_Lw_1242 rfl) hI (fun k1 M1 H locs hp1 hI => ?_)
  have hL1 := r_sample (n := nb) hJ hp1
  refine zr_istore hx hb kd_Lw_1245 hl (by decide) rfl (fun ls hl => ?_)
  refine zr_aload_n hx hb kd_Lw_1247 hl rfl ?_
  refine zr_aload_n hx hb kd_Lw_1248 hl rfl ?_
  refine zr_iload hx hb kd_Lw_1249 hl rfl ?_
  refine lv_iconst (v := 1) hx hb kd_Lw_1251 (by decide) ?_
  refine lv_iadd hx hb kd_Lw_1252 ?_
  refine zq_s (j := j) (k := 1) hS hxs hb0 hbA hI rfl (by omega) hL3 kd_Lw_1253 ?_
  refine zr_aload_n hx hb kd_Lw_1254 hl rfl ?_
  refine zr_iload hx hb kd_Lw_1255 hl rfl ?_
  refine lv_iconst (v := 2) hx hb kd_Lw_1257 (by decide) ?_
  refine lv_iadd hx hb kd_Lw_1258 ?_
  refine zq_s (j := j) (k := 2) hS hxs hb0 hbA hI rfl (by omega) hL3 kd_Lw_1259 ?_
  refine zq_ci (zq_run hS hK hX (zy_li (c_Mo_sample l G M1 hL1 _ _ (by rw [e_sample (n := nb) hp1 _ _ (by decide), b5, nI_toInt (by omega)]; omega))) km_La_151 (zw_mem (i := 1301) rfl rfl) hI rfl hl.1 (Nat.le_of_ble_eq_true rfl) (by decide) ⟨hc, hsl⟩ kd_Lw_1260 rfl) hI (fun rb M2 H locs hp2 hI => ?_)
  obtain ⟨hk, hJ2, hv⟩ := s_sample hJ b2 b3 b5 b6 hp1 hp2
  refine zr_istore hx hb kd_Lw_1263 hl (by decide) rfl (fun ls hl => ?_)
  refine zr_aload_n hx hb kd_Lw_1265 hl rfl ?_
  refine zq_ci (zq_run hS hK hX (zy_li (c_Mo_thrown l G M2 hJ2.1)) km_La_95 (zw_mem (i := 1138) rfl rfl) hI rfl hl.1 (Nat.le_of_ble_eq_true rfl) (by decide) ⟨hc, hsl⟩ kd_Lw_1266 rfl) hI (fun r3 M3 H locs hp3 hI => ?_)
  obtain ⟨hr3, hM3⟩ := hp3
  rw [hM3] at hI
  rw [hr3, hk]
  refine zr_iload hx hb kd_Lw_1269 hl rfl ?_
  refine lv_icmp_eq (tgt := 1276) hx hb kd_Lw_1271 (by decide) (fun _ => ?_) (fun h => absurd rfl h)
  refine zr_iload hx hb kd_Lw_1276 hl rfl ?_
  refine lv_if_ne (tgt := 1293) hx hb kd_Lw_1278 (by decide) (fun h1278 => ?_) (fun h1278 => ?_)
  · skip
    refine lv_goto (tgt := 1443) hx hb kd_Lw_1293 (by decide) ?_
    exact hN _ _ _ _ hJ2 hI (zl_cut hl)
  · skip
    refine zr_aload_n hx hb kd_Lw_1281 hl rfl ?_
    refine lv_iconst (v := 0) hx hb kd_Lw_1282 (by decide) ?_
    refine zr_lald hS hK hI.1 (a := 182) (n := 1) (by decide) (by decide +kernel) (vp_in_iff.mpr (by decide)) kd_Lw_1283 ?_
    refine zr_iload hx hb kd_Lw_1284 hl rfl ?_
    refine lv_i2l hx hb kd_Lw_1286 rfl ?_
    refine W.lcmp hx hb kd_Lw_1287 ?_
    refine lv_if_eq (tgt := 1293) hx hb kd_Lw_1288 (by decide) (fun _ => ?_) (fun h => absurd (by show lg_cmp (M2.2.2 182 0) _ = 0; rw [hv h1278]; exact zq_cmp _) h)
    refine lv_goto (tgt := 1443) hx hb kd_Lw_1293 (by decide) ?_
    exact hN _ _ _ _ hJ2 hI (zl_cut hl)
set_option maxRecDepth 100000 in
set_option maxHeartbeats 4000000 in
theorem q_meter {p : Program} {l : Launch} {e : Env} {s : State} {m : MethodId} {below : List Frame} {meth : Method} {c : Code} {b L : Nat} {xs : Nat → Int32} {G : zg_T} {Q : State → Prop} (C : zz_C p l s m c b L xs G) {j cells slots : Nat} {M : zm_T} {H : Heap} {locs : List Loc} {ls : Array Slot} (hj : 6 * j + 6 ≤ L) (hc : cells + 1 ≤ 601024) (hsl : slots + 6 ≤ 7293034) (hJ : zJ M) (hI : zy_I G M s H locs) (hl : zl_has ls 8 (zz_V b G (6 * j)))
    (hN : ∀ (M : zm_T) (H : Heap) (locs : List Loc) (ls : Array Slot), zJ M → zy_I G M s H locs → zl_has ls 8 (zz_V b G (6 * j)) → W p l e room_1 s m #[Value.ref b] below meth c H locs (cells + 1) (slots + 6) Q (F0 m 1443 ls [])) : W p l e room_1 s m #[Value.ref b] below meth c H locs cells slots Q (F0 m 1296 ls []) := by
  obtain ⟨hS, hK, hX, hxs, hb0, hbA, hL3, hfl⟩ := C
  have hx := hS.1
  have hb := hS.2.1
  have hl : zl_has ls 8 [some (.ref b), some (.ref (G.2.2.1 + 0)), some (.ref (G.2.2.1 + 151)), some (.ref (G.2.2.1 + 182)), some (.int (nI (6 * j))), none, none, none] := hl
  obtain ⟨⟨fb, nb, b1, b2, b3, b4, b5, b6⟩, b7⟩ := id hJ.2.2.2.2.2.2.2
  refine zr_aload_n hx hb kd_Lw_1296 hl rfl ?_
  refine zr_aload_n hx hb kd_Lw_1297 hl rfl ?_
  refine zr_iload hx hb kd_Lw_1298 hl rfl ?_
  refine lv_iconst (v := 1) hx hb kd_Lw_1300 (by decide) ?_
  refine lv_iadd hx hb kd_Lw_1301 ?_
  refine zq_s (j := j) (k := 1) hS hxs hb0 hbA hI rfl (by omega) hL3 kd_Lw_1302 ?_
  refine zr_aload_n hx hb kd_Lw_1303 hl rfl ?_
  refine zr_iload hx hb kd_Lw_1304 hl rfl ?_
  refine lv_iconst (v := 2) hx hb kd_Lw_1306 (by decide) ?_
  refine lv_iadd hx hb kd_Lw_1307 ?_
  refine zq_s (j := j) (k := 2) hS hxs hb0 hbA hI rfl (by omega) hL3 kd_Lw_1308 ?_
  refine zr_aload_n hx hb kd_Lw_1309 hl rfl ?_
  have hkw : zl_W 152 ky_La_meter kc_La_meter 5 4 [((0 : Nat), (9 : Nat), (12 : Nat), (21 : Nat))] := ⟨zw_mem (i := 996) rfl rfl, zw_mem (i := 997) rfl rfl, zw_mem (i := 31) rfl rfl, zw_mem (i := 998) rfl rfl, ⟨by decide +kernel, by decide +kernel, by decide +kernel⟩⟩
  refine zq_ci (zq_runS hS hK hX (w_meter l hfl G M hJ.1 _ _ fb nb b1 b2 b3 b4 (fun a ha i hi => by rw [b6 a ha i hi]; exact b7 _ (by omega)) (zJ_D hJ.2.2.2.1.1) (by rw [zJ_fd hJ.2.2.2.1.1]; exact hJ.2.2.2.1.2)) hkw hI rfl hl.1 (Nat.le_of_ble_eq_true rfl) (by decide) ⟨hc, hsl⟩ kd_Lw_1310 rfl) hI (fun k1 M1 H locs hp1 hI => ?_)
  have hL1 := r_meter hJ hp1
  refine zr_istore hx hb kd_Lw_1313 hl (by decide) rfl (fun ls hl => ?_)
  refine zr_aload_n hx hb kd_Lw_1315 hl rfl ?_
  refine zr_aload_n hx hb kd_Lw_1316 hl rfl ?_
  refine zr_iload hx hb kd_Lw_1317 hl rfl ?_
  refine lv_iconst (v := 1) hx hb kd_Lw_1319 (by decide) ?_
  refine lv_iadd hx hb kd_Lw_1320 ?_
  refine zq_s (j := j) (k := 1) hS hxs hb0 hbA hI rfl (by omega) hL3 kd_Lw_1321 ?_
  refine zr_aload_n hx hb kd_Lw_1322 hl rfl ?_
  refine zr_iload hx hb kd_Lw_1323 hl rfl ?_
  refine lv_iconst (v := 2) hx hb kd_Lw_1325 (by decide) ?_
  refine lv_iadd hx hb kd_Lw_1326 ?_
  refine zq_s (j := j) (k := 2) hS hxs hb0 hbA hI rfl (by omega) hL3 kd_Lw_1327 ?_
  refine zq_cl (zq_run hS hK hX (zy_ll (c_Mo_meter l G M1 hL1 _ _ nb (by rw [zgf_c (M := M) (fun q => e_meter hp1 _ _ (by decide)) (fun q => e_meter hp1 _ _ (by decide))]; exact hJ.2.2.2.1.2) (zq_q hJ (e_meter hp1)) (by rw [e_meter hp1 _ _ (by decide)]; exact b5) b3 (fun q hq => by rw [e_meter hp1 _ _ (by decide)]; exact b7 q hq))) km_La_154 (zw_mem (i := 1305) rfl rfl) hI rfl hl.1 (Nat.le_of_ble_eq_true rfl) (by decide) ⟨hc, hsl⟩ kd_Lw_1328 rfl) hI (fun rb M2 H locs hp2 hI => ?_)
  obtain ⟨hk, hJ2, hv⟩ := s_meter hJ b5 b6 hp1 hp2
  refine zr_lstore hx hb kd_Lw_1331 hl (by decide) rfl (fun ls hl => ?_)
  refine zr_aload_n hx hb kd_Lw_1333 hl rfl ?_
  refine zq_ci (zq_run hS hK hX (zy_li (c_Mo_thrown l G M2 hJ2.1)) km_La_95 (zw_mem (i := 1138) rfl rfl) hI rfl hl.1 (Nat.le_of_ble_eq_true rfl) (by decide) ⟨hc, hsl⟩ kd_Lw_1334 rfl) hI (fun r3 M3 H locs hp3 hI => ?_)
  obtain ⟨hr3, hM3⟩ := hp3
  rw [hM3] at hI
  rw [hr3, hk]
  refine zr_iload hx hb kd_Lw_1337 hl rfl ?_
  refine lv_icmp_eq (tgt := 1344) hx hb kd_Lw_1339 (by decide) (fun _ => ?_) (fun h => absurd rfl h)
  refine zr_iload hx hb kd_Lw_1344 hl rfl ?_
  refine lv_if_ne (tgt := 1360) hx hb kd_Lw_1346 (by decide) (fun h1346 => ?_) (fun h1346 => ?_)
  · skip
    refine lv_goto (tgt := 1443) hx hb kd_Lw_1360 (by decide) ?_
    exact hN _ _ _ _ hJ2 hI (zl_cut hl)
  · skip
    refine zr_aload_n hx hb kd_Lw_1349 hl rfl ?_
    refine lv_iconst (v := 0) hx hb kd_Lw_1350 (by decide) ?_
    refine zr_lald hS hK hI.1 (a := 182) (n := 1) (by decide) (by decide +kernel) (vp_in_iff.mpr (by decide)) kd_Lw_1351 ?_
    refine zr_lload hx hb kd_Lw_1352 hl rfl ?_
    refine W.lcmp hx hb kd_Lw_1354 ?_
    refine lv_if_eq (tgt := 1360) hx hb kd_Lw_1355 (by decide) (fun _ => ?_) (fun h => absurd (by show lg_cmp (M2.2.2 182 0) _ = 0; rw [hv h1346]; exact zq_cmp _) h)
    refine lv_goto (tgt := 1443) hx hb kd_Lw_1360 (by decide) ?_
    exact hN _ _ _ _ hJ2 hI (zl_cut hl)
set_option maxRecDepth 100000 in
set_option maxHeartbeats 4000000 in
theorem q_bounce {p : Program} {l : Launch} {e : Env} {s : State} {m : MethodId} {below : List Frame} {meth : Method} {c : Code} {b L : Nat} {xs : Nat → Int32} {G : zg_T} {Q : State → Prop} (C : zz_C p l s m c b L xs G) {j cells slots : Nat} {M : zm_T} {H : Heap} {locs : List Loc} {ls : Array Slot} (hj : 6 * j + 6 ≤ L) (hc : cells + 1 ≤ 601024) (hsl : slots + 6 ≤ 7293034) (hJ : zJ M) (hI : zy_I G M s H locs) (hl : zl_has ls 8 (zz_V b G (6 * j)))
    (hN : ∀ (M : zm_T) (H : Heap) (locs : List Loc) (ls : Array Slot), zJ M → zy_I G M s H locs → zl_has ls 8 (zz_V b G (6 * j)) → W p l e room_1 s m #[Value.ref b] below meth c H locs (cells + 1) (slots + 6) Q (F0 m 1443 ls [])) : W p l e room_1 s m #[Value.ref b] below meth c H locs cells slots Q (F0 m 1363 ls []) := by
  obtain ⟨hS, hK, hX, hxs, hb0, hbA, hL3, hfl⟩ := C
  have hx := hS.1
  have hb := hS.2.1
  have hl : zl_has ls 8 [some (.ref b), some (.ref (G.2.2.1 + 0)), some (.ref (G.2.2.1 + 151)), some (.ref (G.2.2.1 + 182)), some (.int (nI (6 * j))), none, none, none] := hl
  refine zr_aload_n hx hb kd_Lw_1363 hl rfl ?_
  refine zr_aload_n hx hb kd_Lw_1364 hl rfl ?_
  refine zr_iload hx hb kd_Lw_1365 hl rfl ?_
  refine lv_iconst (v := 1) hx hb kd_Lw_1367 (by decide) ?_
  refine lv_iadd hx hb kd_Lw_1368 ?_
  refine zq_s (j := j) (k := 1) hS hxs hb0 hbA hI rfl (by omega) hL3 kd_Lw_1369 ?_
  refine zr_aload_n hx hb kd_Lw_1370 hl rfl ?_
  refine zr_iload hx hb kd_Lw_1371 hl rfl ?_
  refine lv_iconst (v := 2) hx hb kd_Lw_1373 (by decide) ?_
  refine lv_iadd hx hb kd_Lw_1374 ?_
  refine zq_s (j := j) (k := 2) hS hxs hb0 hbA hI rfl (by omega) hL3 kd_Lw_1375 ?_
  refine zr_aload_n hx hb kd_Lw_1376 hl rfl ?_
  refine zr_iload hx hb kd_Lw_1377 hl rfl ?_
  refine lv_iconst (v := 3) hx hb kd_Lw_1379 (by decide) ?_
  refine lv_iadd hx hb kd_Lw_1380 ?_
  refine zq_s (j := j) (k := 3) hS hxs hb0 hbA hI rfl (by omega) hL3 kd_Lw_1381 ?_
  refine zr_aload_n hx hb kd_Lw_1382 hl rfl ?_
  have hkw : zl_W 155 ky_La_bounce kc_La_bounce 6 5 [((0 : Nat), (12 : Nat), (15 : Nat), (21 : Nat))] := ⟨zw_mem (i := 1018) rfl rfl, zw_mem (i := 1019) rfl rfl, zw_mem (i := 31) rfl rfl, zw_mem (i := 1020) rfl rfl, ⟨by decide +kernel, by decide +kernel, by decide +kernel⟩⟩
  refine zq_ci (zq_runS hS hK hX (w_bounce l hfl G M hJ.1 (zJ_fn M) _ _ _ (zJ_Qok hJ)) hkw hI rfl hl.1 (Nat.le_of_ble_eq_true rfl) (by decide) ⟨hc, hsl⟩ kd_Lw_1383 rfl) hI (fun k1 M1 H locs hp1 hI => ?_)
  have hL1 := r_bounce hJ hp1
  refine zr_istore hx hb kd_Lw_1386 hl (by decide) rfl (fun ls hl => ?_)
  refine zr_aload_n hx hb kd_Lw_1388 hl rfl ?_
  refine zr_aload_n hx hb kd_Lw_1389 hl rfl ?_
  refine zr_iload hx hb kd_Lw_1390 hl rfl ?_
  refine lv_iconst (v := 1) hx hb kd_Lw_1392 (by decide) ?_
  refine lv_iadd hx hb kd_Lw_1393 ?_
  refine zq_s (j := j) (k := 1) hS hxs hb0 hbA hI rfl (by omega) hL3 kd_Lw_1394 ?_
  refine zr_aload_n hx hb kd_Lw_1395 hl rfl ?_
  refine zr_iload hx hb kd_Lw_1396 hl rfl ?_
  refine lv_iconst (v := 2) hx hb kd_Lw_1398 (by decide) ?_
  refine lv_iadd hx hb kd_Lw_1399 ?_
  refine zq_s (j := j) (k := 2) hS hxs hb0 hbA hI rfl (by omega) hL3 kd_Lw_1400 ?_
  refine zr_aload_n hx hb kd_Lw_1401 hl rfl ?_
  refine zr_iload hx hb kd_Lw_1402 hl rfl ?_
  refine lv_iconst (v := 3) hx hb kd_Lw_1404 (by decide) ?_
  refine lv_iadd hx hb kd_Lw_1405 ?_
  refine zq_s (j := j) (k := 3) hS hxs hb0 hbA hI rfl (by omega) hL3 kd_Lw_1406 ?_
  refine zq_ci (zq_run hS hK hX (zy_li (c_Mo_bounce l G M1 hL1 (zJ_fn M) _ _ _ (zR_ok_c (fun c q h1 h2 => e_bounce hp1 c q (by omega)) (zJ_Rok hJ)))) km_La_157 (zw_mem (i := 1311) rfl rfl) hI rfl hl.1 (Nat.le_of_ble_eq_true rfl) (by decide) ⟨hc, hsl⟩ kd_Lw_1407 rfl) hI (fun rb M2 H locs hp2 hI => ?_)
  obtain ⟨hk, hJ2, hv⟩ := s_bounce hJ hp1 hp2
  refine zr_istore hx hb kd_Lw_1410 hl (by decide) rfl (fun ls hl => ?_)
  refine zr_aload_n hx hb kd_Lw_1412 hl rfl ?_
  refine zq_ci (zq_run hS hK hX (zy_li (c_Mo_thrown l G M2 hJ2.1)) km_La_95 (zw_mem (i := 1138) rfl rfl) hI rfl hl.1 (Nat.le_of_ble_eq_true rfl) (by decide) ⟨hc, hsl⟩ kd_Lw_1413 rfl) hI (fun r3 M3 H locs hp3 hI => ?_)
  obtain ⟨hr3, hM3⟩ := hp3
  rw [hM3] at hI
  rw [hr3, hk]
  refine zr_iload hx hb kd_Lw_1416 hl rfl ?_
  refine lv_icmp_eq (tgt := 1423) hx hb kd_Lw_1418 (by decide) (fun _ => ?_) (fun h => absurd rfl h)
  refine zr_iload hx hb kd_Lw_1423 hl rfl ?_
  refine lv_if_ne (tgt := 1440) hx hb kd_Lw_1425 (by decide) (fun h1425 => ?_) (fun h1425 => ?_)
  · skip
    refine lv_goto (tgt := 1443) hx hb kd_Lw_1440 (by decide) ?_
    exact hN _ _ _ _ hJ2 hI (zl_cut hl)
  · skip
    refine zr_aload_n hx hb kd_Lw_1428 hl rfl ?_
    refine lv_iconst (v := 0) hx hb kd_Lw_1429 (by decide) ?_
    refine zr_lald hS hK hI.1 (a := 182) (n := 1) (by decide) (by decide +kernel) (vp_in_iff.mpr (by decide)) kd_Lw_1430 ?_
    refine zr_iload hx hb kd_Lw_1431 hl rfl ?_
    refine lv_i2l hx hb kd_Lw_1433 rfl ?_
    refine W.lcmp hx hb kd_Lw_1434 ?_
    refine lv_if_eq (tgt := 1440) hx hb kd_Lw_1435 (by decide) (fun _ => ?_) (fun h => absurd (by show lg_cmp (M2.2.2 182 0) _ = 0; rw [hv h1425]; exact zq_cmp _) h)
    refine lv_goto (tgt := 1443) hx hb kd_Lw_1440 (by decide) ?_
    exact hN _ _ _ _ hJ2 hI (zl_cut hl)

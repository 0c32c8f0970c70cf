/-! Links of fields and methods. Printed. -/
theorem kf_Cl_7 : zl_F "StripMixer$Clip" 7 0 0 true false (.object "StripMixer$Take") := ⟨"StripMixer$Clip", kt_0, 8, kv_0, rfl, ki_0, ko_0, kn_0, by decide, by decide +kernel, rfl, by decide +kernel, Or.inl (zw_mem (i := 83) (by decide +kernel) (by decide +kernel))⟩
theorem kf_Cl_20 : zl_F "StripMixer$Clip" 20 0 1 false false (.int) := ⟨"StripMixer$Clip", kt_0, 8, kv_0, rfl, ki_0, ko_0, kn_0, by decide, by decide +kernel, rfl, by decide +kernel, Or.inl (zw_mem (i := 84) (by decide +kernel) (by decide +kernel))⟩
theorem kf_Cl_23 : zl_F "StripMixer$Clip" 23 0 2 false false (.int) := ⟨"StripMixer$Clip", kt_0, 8, kv_0, rfl, ki_0, ko_0, kn_0, by decide, by decide +kernel, rfl, by decide +kernel, Or.inl (zw_mem (i := 85) (by decide +kernel) (by decide +kernel))⟩
theorem kf_Sh_35 : zl_F "StripMixer$Shelf" 35 0 2 false false (.int) := ⟨"StripMixer$Clip", kt_0, 8, kv_0, rfl, ki_0, ko_0, kn_0, by decide, by decide +kernel, rfl, by decide +kernel, Or.inr ⟨"StripMixer", zw_memN (i := 86) (by decide +kernel) (by decide +kernel)⟩⟩
theorem kf_Cl_13 : zl_F "StripMixer$Clip" 13 0 3 false false (.int) := ⟨"StripMixer$Clip", kt_0, 8, kv_0, rfl, ki_0, ko_0, kn_0, by decide, by decide +kernel, rfl, by decide +kernel, Or.inl (zw_mem (i := 87) (by decide +kernel) (by decide +kernel))⟩
theorem kf_Cl_17 : zl_F "StripMixer$Clip" 17 0 4 false false (.int) := ⟨"StripMixer$Clip", kt_0, 8, kv_0, rfl, ki_0, ko_0, kn_0, by decide, by decide +kernel, rfl, by decide +kernel, Or.inl (zw_mem (i := 88) (by decide +kernel) (by decide +kernel))⟩
theorem kf_Sh_22 : zl_F "StripMixer$Shelf" 22 0 4 false false (.int) := ⟨"StripMixer$Clip", kt_0, 8, kv_0, rfl, ki_0, ko_0, kn_0, by decide, by decide +kernel, rfl, by decide +kernel, Or.inr ⟨"StripMixer", zw_memN (i := 89) (by decide +kernel) (by decide +kernel)⟩⟩
theorem kf_Mx_95 : zl_F "StripMixer" 95 0 4 false false (.int) := ⟨"StripMixer$Clip", kt_0, 8, kv_0, rfl, ki_0, ko_0, kn_0, by decide, by decide +kernel, rfl, by decide +kernel, Or.inr ⟨"StripMixer", zw_memN (i := 90) (by decide +kernel) (by decide +kernel)⟩⟩
theorem kf_Cl_26 : zl_F "StripMixer$Clip" 26 0 5 false false (.int) := ⟨"StripMixer$Clip", kt_0, 8, kv_0, rfl, ki_0, ko_0, kn_0, by decide, by decide +kernel, rfl, by decide +kernel, Or.inl (zw_mem (i := 91) (by decide +kernel) (by decide +kernel))⟩
theorem kf_Cl_29 : zl_F "StripMixer$Clip" 29 0 6 false false (.int) := ⟨"StripMixer$Clip", kt_0, 8, kv_0, rfl, ki_0, ko_0, kn_0, by decide, by decide +kernel, rfl, by decide +kernel, Or.inl (zw_mem (i := 92) (by decide +kernel) (by decide +kernel))⟩
theorem kf_Mx_96 : zl_F "StripMixer" 96 0 6 false false (.int) := ⟨"StripMixer$Clip", kt_0, 8, kv_0, rfl, ki_0, ko_0, kn_0, by decide, by decide +kernel, rfl, by decide +kernel, Or.inr ⟨"StripMixer", zw_memN (i := 93) (by decide +kernel) (by decide +kernel)⟩⟩
theorem kf_Cl_32 : zl_F "StripMixer$Clip" 32 0 7 false false (.int) := ⟨"StripMixer$Clip", kt_0, 8, kv_0, rfl, ki_0, ko_0, kn_0, by decide, by decide +kernel, rfl, by decide +kernel, Or.inl (zw_mem (i := 94) (by decide +kernel) (by decide +kernel))⟩
theorem kf_Mx_99 : zl_F "StripMixer" 99 0 7 false false (.int) := ⟨"StripMixer$Clip", kt_0, 8, kv_0, rfl, ki_0, ko_0, kn_0, by decide, by decide +kernel, rfl, by decide +kernel, Or.inr ⟨"StripMixer", zw_memN (i := 95) (by decide +kernel) (by decide +kernel)⟩⟩
theorem kf_Sh_11 : zl_F "StripMixer$Shelf" 11 4 0 true true (.array (.object "StripMixer$Clip")) := ⟨"StripMixer$Shelf", kt_4, 1, kv_4, rfl, ki_4, ko_4, kn_4, by decide, by decide +kernel, rfl, by decide +kernel, Or.inl (zw_mem (i := 113) (by decide +kernel) (by decide +kernel))⟩
theorem kf_Mx_70 : zl_F "StripMixer" 70 4 0 true true (.array (.object "StripMixer$Clip")) := ⟨"StripMixer$Shelf", kt_4, 1, kv_4, rfl, ki_4, ko_4, kn_4, by decide, by decide +kernel, rfl, by decide +kernel, Or.inr ⟨"StripMixer", zw_memN (i := 114) (by decide +kernel) (by decide +kernel)⟩⟩
theorem kf_Fa_9 : zl_F "StripMixer$Fader" 9 3 0 true true (.array .int) := ⟨"StripMixer$Fader", kt_3, 5, kv_3, rfl, ki_3, ko_3, kn_3, by decide, by decide +kernel, rfl, by decide +kernel, Or.inl (zw_mem (i := 139) (by decide +kernel) (by decide +kernel))⟩
theorem kf_Fa_15 : zl_F "StripMixer$Fader" 15 3 1 true true (.array .int) := ⟨"StripMixer$Fader", kt_3, 5, kv_3, rfl, ki_3, ko_3, kn_3, by decide, by decide +kernel, rfl, by decide +kernel, Or.inl (zw_mem (i := 140) (by decide +kernel) (by decide +kernel))⟩
theorem kf_Fa_18 : zl_F "StripMixer$Fader" 18 3 2 true true (.array .boolean) := ⟨"StripMixer$Fader", kt_3, 5, kv_3, rfl, ki_3, ko_3, kn_3, by decide, by decide +kernel, rfl, by decide +kernel, Or.inl (zw_mem (i := 141) (by decide +kernel) (by decide +kernel))⟩
theorem kf_Fa_30 : zl_F "StripMixer$Fader" 30 3 3 false false (.int) := ⟨"StripMixer$Fader", kt_3, 5, kv_3, rfl, ki_3, ko_3, kn_3, by decide, by decide +kernel, rfl, by decide +kernel, Or.inl (zw_mem (i := 142) (by decide +kernel) (by decide +kernel))⟩
theorem kf_Fa_22 : zl_F "StripMixer$Fader" 22 3 4 false false (.int) := ⟨"StripMixer$Fader", kt_3, 5, kv_3, rfl, ki_3, ko_3, kn_3, by decide, by decide +kernel, rfl, by decide +kernel, Or.inl (zw_mem (i := 143) (by decide +kernel) (by decide +kernel))⟩
theorem kf_Mx_144 : zl_F "StripMixer" 144 3 4 false false (.int) := ⟨"StripMixer$Fader", kt_3, 5, kv_3, rfl, ki_3, ko_3, kn_3, by decide, by decide +kernel, rfl, by decide +kernel, Or.inr ⟨"StripMixer", zw_memN (i := 144) (by decide +kernel) (by decide +kernel)⟩⟩
theorem kf_Ef_11 : zl_F "StripMixer$Effect" 11 2 0 true true (.array .int) := ⟨"StripMixer$Effect", kt_2, 6, kv_2, rfl, ki_2, ko_2, kn_2, by decide, by decide +kernel, rfl, by decide +kernel, Or.inl (zw_mem (i := 163) (by decide +kernel) (by decide +kernel))⟩
theorem kf_Ef_24 : zl_F "StripMixer$Effect" 24 2 1 false false (.int) := ⟨"StripMixer$Effect", kt_2, 6, kv_2, rfl, ki_2, ko_2, kn_2, by decide, by decide +kernel, rfl, by decide +kernel, Or.inl (zw_mem (i := 164) (by decide +kernel) (by decide +kernel))⟩
theorem kf_Ef_28 : zl_F "StripMixer$Effect" 28 2 2 false false (.int) := ⟨"StripMixer$Effect", kt_2, 6, kv_2, rfl, ki_2, ko_2, kn_2, by decide, by decide +kernel, rfl, by decide +kernel, Or.inl (zw_mem (i := 165) (by decide +kernel) (by decide +kernel))⟩
theorem kf_Ef_31 : zl_F "StripMixer$Effect" 31 2 3 false false (.int) := ⟨"StripMixer$Effect", kt_2, 6, kv_2, rfl, ki_2, ko_2, kn_2, by decide, by decide +kernel, rfl, by decide +kernel, Or.inl (zw_mem (i := 166) (by decide +kernel) (by decide +kernel))⟩
theorem kf_Ef_40 : zl_F "StripMixer$Effect" 40 2 4 false false (.int) := ⟨"StripMixer$Effect", kt_2, 6, kv_2, rfl, ki_2, ko_2, kn_2, by decide, by decide +kernel, rfl, by decide +kernel, Or.inl (zw_mem (i := 167) (by decide +kernel) (by decide +kernel))⟩
theorem kf_Ef_43 : zl_F "StripMixer$Effect" 43 2 5 false false (.int) := ⟨"StripMixer$Effect", kt_2, 6, kv_2, rfl, ki_2, ko_2, kn_2, by decide, by decide +kernel, rfl, by decide +kernel, Or.inl (zw_mem (i := 168) (by decide +kernel) (by decide +kernel))⟩
theorem kf_St_11 : zl_F "StripMixer$Strip" 11 5 0 true true (.array (.object "StripMixer$Effect")) := ⟨"StripMixer$Strip", kt_5, 9, kv_5, rfl, ki_5, ko_5, kn_5, by decide, by decide +kernel, rfl, by decide +kernel, Or.inl (zw_mem (i := 182) (by decide +kernel) (by decide +kernel))⟩
theorem kf_Mx_133 : zl_F "StripMixer" 133 5 0 true true (.array (.object "StripMixer$Effect")) := ⟨"StripMixer$Strip", kt_5, 9, kv_5, rfl, ki_5, ko_5, kn_5, by decide, by decide +kernel, rfl, by decide +kernel, Or.inr ⟨"StripMixer", zw_memN (i := 183) (by decide +kernel) (by decide +kernel)⟩⟩
theorem kf_St_20 : zl_F "StripMixer$Strip" 20 5 1 true true (.object "StripMixer$Fader") := ⟨"StripMixer$Strip", kt_5, 9, kv_5, rfl, ki_5, ko_5, kn_5, by decide, by decide +kernel, rfl, by decide +kernel, Or.inl (zw_mem (i := 184) (by decide +kernel) (by decide +kernel))⟩
theorem kf_Mx_140 : zl_F "StripMixer" 140 5 1 true true (.object "StripMixer$Fader") := ⟨"StripMixer$Strip", kt_5, 9, kv_5, rfl, ki_5, ko_5, kn_5, by decide, by decide +kernel, rfl, by decide +kernel, Or.inr ⟨"StripMixer", zw_memN (i := 185) (by decide +kernel) (by decide +kernel)⟩⟩
theorem kf_St_24 : zl_F "StripMixer$Strip" 24 5 2 true true (.array .int) := ⟨"StripMixer$Strip", kt_5, 9, kv_5, rfl, ki_5, ko_5, kn_5, by decide, by decide +kernel, rfl, by decide +kernel, Or.inl (zw_mem (i := 186) (by decide +kernel) (by decide +kernel))⟩
theorem kf_De_73 : zl_F "StripMixer$Desk" 73 5 2 true true (.array .int) := ⟨"StripMixer$Strip", kt_5, 9, kv_5, rfl, ki_5, ko_5, kn_5, by decide, by decide +kernel, rfl, by decide +kernel, Or.inr ⟨"StripMixer", zw_memN (i := 187) (by decide +kernel) (by decide +kernel)⟩⟩
theorem kf_Mx_122 : zl_F "StripMixer" 122 5 2 true true (.array .int) := ⟨"StripMixer$Strip", kt_5, 9, kv_5, rfl, ki_5, ko_5, kn_5, by decide, by decide +kernel, rfl, by decide +kernel, Or.inr ⟨"StripMixer", zw_memN (i := 188) (by decide +kernel) (by decide +kernel)⟩⟩
theorem kf_St_28 : zl_F "StripMixer$Strip" 28 5 3 true true (.array .int) := ⟨"StripMixer$Strip", kt_5, 9, kv_5, rfl, ki_5, ko_5, kn_5, by decide, by decide +kernel, rfl, by decide +kernel, Or.inl (zw_mem (i := 189) (by decide +kernel) (by decide +kernel))⟩
theorem kf_De_51 : zl_F "StripMixer$Desk" 51 5 3 true true (.array .int) := ⟨"StripMixer$Strip", kt_5, 9, kv_5, rfl, ki_5, ko_5, kn_5, by decide, by decide +kernel, rfl, by decide +kernel, Or.inr ⟨"StripMixer", zw_memN (i := 190) (by decide +kernel) (by decide +kernel)⟩⟩
theorem kf_Mx_172 : zl_F "StripMixer" 172 5 3 true true (.array .int) := ⟨"StripMixer$Strip", kt_5, 9, kv_5, rfl, ki_5, ko_5, kn_5, by decide, by decide +kernel, rfl, by decide +kernel, Or.inr ⟨"StripMixer", zw_memN (i := 191) (by decide +kernel) (by decide +kernel)⟩⟩
theorem kf_St_31 : zl_F "StripMixer$Strip" 31 5 4 false false (.int) := ⟨"StripMixer$Strip", kt_5, 9, kv_5, rfl, ki_5, ko_5, kn_5, by decide, by decide +kernel, rfl, by decide +kernel, Or.inl (zw_mem (i := 192) (by decide +kernel) (by decide +kernel))⟩
theorem kf_De_67 : zl_F "StripMixer$Desk" 67 5 4 false false (.int) := ⟨"StripMixer$Strip", kt_5, 9, kv_5, rfl, ki_5, ko_5, kn_5, by decide, by decide +kernel, rfl, by decide +kernel, Or.inr ⟨"StripMixer", zw_memN (i := 193) (by decide +kernel) (by decide +kernel)⟩⟩
theorem kf_Mx_117 : zl_F "StripMixer" 117 5 4 false false (.int) := ⟨"StripMixer$Strip", kt_5, 9, kv_5, rfl, ki_5, ko_5, kn_5, by decide, by decide +kernel, rfl, by decide +kernel, Or.inr ⟨"StripMixer", zw_memN (i := 194) (by decide +kernel) (by decide +kernel)⟩⟩
theorem kf_St_36 : zl_F "StripMixer$Strip" 36 5 5 false false (.boolean) := ⟨"StripMixer$Strip", kt_5, 9, kv_5, rfl, ki_5, ko_5, kn_5, by decide, by decide +kernel, rfl, by decide +kernel, Or.inl (zw_mem (i := 195) (by decide +kernel) (by decide +kernel))⟩
theorem kf_De_32 : zl_F "StripMixer$Desk" 32 5 5 false false (.boolean) := ⟨"StripMixer$Strip", kt_5, 9, kv_5, rfl, ki_5, ko_5, kn_5, by decide, by decide +kernel, rfl, by decide +kernel, Or.inr ⟨"StripMixer", zw_memN (i := 196) (by decide +kernel) (by decide +kernel)⟩⟩
theorem kf_St_40 : zl_F "StripMixer$Strip" 40 5 6 false false (.boolean) := ⟨"StripMixer$Strip", kt_5, 9, kv_5, rfl, ki_5, ko_5, kn_5, by decide, by decide +kernel, rfl, by decide +kernel, Or.inl (zw_mem (i := 197) (by decide +kernel) (by decide +kernel))⟩
theorem kf_De_89 : zl_F "StripMixer$Desk" 89 5 6 false false (.boolean) := ⟨"StripMixer$Strip", kt_5, 9, kv_5, rfl, ki_5, ko_5, kn_5, by decide, by decide +kernel, rfl, by decide +kernel, Or.inr ⟨"StripMixer", zw_memN (i := 198) (by decide +kernel) (by decide +kernel)⟩⟩
theorem kf_St_43 : zl_F "StripMixer$Strip" 43 5 7 false false (.int) := ⟨"StripMixer$Strip", kt_5, 9, kv_5, rfl, ki_5, ko_5, kn_5, by decide, by decide +kernel, rfl, by decide +kernel, Or.inl (zw_mem (i := 199) (by decide +kernel) (by decide +kernel))⟩
theorem kf_De_60 : zl_F "StripMixer$Desk" 60 5 7 false false (.int) := ⟨"StripMixer$Strip", kt_5, 9, kv_5, rfl, ki_5, ko_5, kn_5, by decide, by decide +kernel, rfl, by decide +kernel, Or.inr ⟨"StripMixer", zw_memN (i := 200) (by decide +kernel) (by decide +kernel)⟩⟩
theorem kf_St_46 : zl_F "StripMixer$Strip" 46 5 8 false false (.int) := ⟨"StripMixer$Strip", kt_5, 9, kv_5, rfl, ki_5, ko_5, kn_5, by decide, by decide +kernel, rfl, by decide +kernel, Or.inl (zw_mem (i := 201) (by decide +kernel) (by decide +kernel))⟩
theorem kf_De_64 : zl_F "StripMixer$Desk" 64 5 8 false false (.int) := ⟨"StripMixer$Strip", kt_5, 9, kv_5, rfl, ki_5, ko_5, kn_5, by decide, by decide +kernel, rfl, by decide +kernel, Or.inr ⟨"StripMixer", zw_memN (i := 202) (by decide +kernel) (by decide +kernel)⟩⟩
theorem kf_Mx_190 : zl_F "StripMixer" 190 5 8 false false (.int) := ⟨"StripMixer$Strip", kt_5, 9, kv_5, rfl, ki_5, ko_5, kn_5, by decide, by decide +kernel, rfl, by decide +kernel, Or.inr ⟨"StripMixer", zw_memN (i := 203) (by decide +kernel) (by decide +kernel)⟩⟩
theorem kf_De_11 : zl_F "StripMixer$Desk" 11 1 0 true true (.array (.object "StripMixer$Strip")) := ⟨"StripMixer$Desk", kt_1, 2, kv_1, rfl, ki_1, ko_1, kn_1, by decide, by decide +kernel, rfl, by decide +kernel, Or.inl (zw_mem (i := 223) (by decide +kernel) (by decide +kernel))⟩
theorem kf_Mx_113 : zl_F "StripMixer" 113 1 0 true true (.array (.object "StripMixer$Strip")) := ⟨"StripMixer$Desk", kt_1, 2, kv_1, rfl, ki_1, ko_1, kn_1, by decide, by decide +kernel, rfl, by decide +kernel, Or.inr ⟨"StripMixer", zw_memN (i := 224) (by decide +kernel) (by decide +kernel)⟩⟩
theorem kf_De_17 : zl_F "StripMixer$Desk" 17 1 1 true true (.array .int) := ⟨"StripMixer$Desk", kt_1, 2, kv_1, rfl, ki_1, ko_1, kn_1, by decide, by decide +kernel, rfl, by decide +kernel, Or.inl (zw_mem (i := 225) (by decide +kernel) (by decide +kernel))⟩
theorem kf_Mx_203 : zl_F "StripMixer" 203 1 1 true true (.array .int) := ⟨"StripMixer$Desk", kt_1, 2, kv_1, rfl, ki_1, ko_1, kn_1, by decide, by decide +kernel, rfl, by decide +kernel, Or.inr ⟨"StripMixer", zw_memN (i := 226) (by decide +kernel) (by decide +kernel)⟩⟩
theorem kf_Ta_9 : zl_F "StripMixer$Take" 9 6 0 true true (.array .int) := ⟨"StripMixer$Take", kt_6, 2, kv_6, rfl, ki_6, ko_6, kn_6, by decide, by decide +kernel, rfl, by decide +kernel, Or.inl (zw_mem (i := 237) (by decide +kernel) (by decide +kernel))⟩
theorem kf_Mx_59 : zl_F "StripMixer" 59 6 0 true true (.array .int) := ⟨"StripMixer$Take", kt_6, 2, kv_6, rfl, ki_6, ko_6, kn_6, by decide, by decide +kernel, rfl, by decide +kernel, Or.inr ⟨"StripMixer", zw_memN (i := 238) (by decide +kernel) (by decide +kernel)⟩⟩
theorem kf_Cl_47 : zl_F "StripMixer$Clip" 47 6 0 true true (.array .int) := ⟨"StripMixer$Take", kt_6, 2, kv_6, rfl, ki_6, ko_6, kn_6, by decide, by decide +kernel, rfl, by decide +kernel, Or.inr ⟨"StripMixer", zw_memN (i := 239) (by decide +kernel) (by decide +kernel)⟩⟩
theorem kf_Ta_15 : zl_F "StripMixer$Take" 15 6 1 false false (.int) := ⟨"StripMixer$Take", kt_6, 2, kv_6, rfl, ki_6, ko_6, kn_6, by decide, by decide +kernel, rfl, by decide +kernel, Or.inl (zw_mem (i := 240) (by decide +kernel) (by decide +kernel))⟩
theorem kf_Mx_51 : zl_F "StripMixer" 51 6 1 false false (.int) := ⟨"StripMixer$Take", kt_6, 2, kv_6, rfl, ki_6, ko_6, kn_6, by decide, by decide +kernel, rfl, by decide +kernel, Or.inr ⟨"StripMixer", zw_memN (i := 241) (by decide +kernel) (by decide +kernel)⟩⟩
theorem kf_Mx_11 : zl_F "StripMixer" 11 7 0 true true (.array (.object "StripMixer$Take")) := ⟨"StripMixer", kt_7, 5, kv_7, rfl, ki_7, ko_7, kn_7, by decide, by decide +kernel, rfl, by decide +kernel, Or.inl (zw_mem (i := 247) (by decide +kernel) (by decide +kernel))⟩
theorem kf_Mx_18 : zl_F "StripMixer" 18 7 1 true true (.object "StripMixer$Shelf") := ⟨"StripMixer", kt_7, 5, kv_7, rfl, ki_7, ko_7, kn_7, by decide, by decide +kernel, rfl, by decide +kernel, Or.inl (zw_mem (i := 248) (by decide +kernel) (by decide +kernel))⟩
theorem kf_Mx_25 : zl_F "StripMixer" 25 7 2 true true (.object "StripMixer$Desk") := ⟨"StripMixer", kt_7, 5, kv_7, rfl, ki_7, ko_7, kn_7, by decide, by decide +kernel, rfl, by decide +kernel, Or.inl (zw_mem (i := 249) (by decide +kernel) (by decide +kernel))⟩
theorem kf_Mx_173 : zl_F "StripMixer" 173 7 3 false false (.int) := ⟨"StripMixer", kt_7, 5, kv_7, rfl, ki_7, ko_7, kn_7, by decide, by decide +kernel, rfl, by decide +kernel, Or.inl (zw_mem (i := 250) (by decide +kernel) (by decide +kernel))⟩
theorem kf_Mx_169 : zl_F "StripMixer" 169 7 4 false false (.int) := ⟨"StripMixer", kt_7, 5, kv_7, rfl, ki_7, ko_7, kn_7, by decide, by decide +kernel, rfl, by decide +kernel, Or.inl (zw_mem (i := 251) (by decide +kernel) (by decide +kernel))⟩
theorem kf_Mo_101 : zl_F "StripMixerModel" 101 8 0 false false (.int) := ⟨"StripMixerModel", kt_8, 32, kv_8, rfl, ki_8, ko_8, kn_8, by decide, by decide +kernel, rfl, by decide +kernel, Or.inl (zw_mem (i := 1041) (by decide +kernel) (by decide +kernel))⟩
theorem kf_Mo_7 : zl_F "StripMixerModel" 7 8 1 true true (.array .int) := ⟨"StripMixerModel", kt_8, 32, kv_8, rfl, ki_8, ko_8, kn_8, by decide, by decide +kernel, rfl, by decide +kernel, Or.inl (zw_mem (i := 1042) (by decide +kernel) (by decide +kernel))⟩
theorem kf_Mo_13 : zl_F "StripMixerModel" 13 8 2 true true (.array .int) := ⟨"StripMixerModel", kt_8, 32, kv_8, rfl, ki_8, ko_8, kn_8, by decide, by decide +kernel, rfl, by decide +kernel, Or.inl (zw_mem (i := 1043) (by decide +kernel) (by decide +kernel))⟩
theorem kf_Mo_16 : zl_F "StripMixerModel" 16 8 3 true true (.array .boolean) := ⟨"StripMixerModel", kt_8, 32, kv_8, rfl, ki_8, ko_8, kn_8, by decide, by decide +kernel, rfl, by decide +kernel, Or.inl (zw_mem (i := 1044) (by decide +kernel) (by decide +kernel))⟩
theorem kf_Mo_20 : zl_F "StripMixerModel" 20 8 4 true true (.array .int) := ⟨"StripMixerModel", kt_8, 32, kv_8, rfl, ki_8, ko_8, kn_8, by decide, by decide +kernel, rfl, by decide +kernel, Or.inl (zw_mem (i := 1045) (by decide +kernel) (by decide +kernel))⟩
theorem kf_Mo_23 : zl_F "StripMixerModel" 23 8 5 true true (.array .int) := ⟨"StripMixerModel", kt_8, 32, kv_8, rfl, ki_8, ko_8, kn_8, by decide, by decide +kernel, rfl, by decide +kernel, Or.inl (zw_mem (i := 1046) (by decide +kernel) (by decide +kernel))⟩
theorem kf_Mo_26 : zl_F "StripMixerModel" 26 8 6 true true (.array .int) := ⟨"StripMixerModel", kt_8, 32, kv_8, rfl, ki_8, ko_8, kn_8, by decide, by decide +kernel, rfl, by decide +kernel, Or.inl (zw_mem (i := 1047) (by decide +kernel) (by decide +kernel))⟩
theorem kf_Mo_29 : zl_F "StripMixerModel" 29 8 7 true true (.array .int) := ⟨"StripMixerModel", kt_8, 32, kv_8, rfl, ki_8, ko_8, kn_8, by decide, by decide +kernel, rfl, by decide +kernel, Or.inl (zw_mem (i := 1048) (by decide +kernel) (by decide +kernel))⟩
theorem kf_Mo_32 : zl_F "StripMixerModel" 32 8 8 true true (.array .int) := ⟨"StripMixerModel", kt_8, 32, kv_8, rfl, ki_8, ko_8, kn_8, by decide, by decide +kernel, rfl, by decide +kernel, Or.inl (zw_mem (i := 1049) (by decide +kernel) (by decide +kernel))⟩
theorem kf_Mo_35 : zl_F "StripMixerModel" 35 8 9 true true (.array .int) := ⟨"StripMixerModel", kt_8, 32, kv_8, rfl, ki_8, ko_8, kn_8, by decide, by decide +kernel, rfl, by decide +kernel, Or.inl (zw_mem (i := 1050) (by decide +kernel) (by decide +kernel))⟩
theorem kf_Mo_38 : zl_F "StripMixerModel" 38 8 10 true true (.array .int) := ⟨"StripMixerModel", kt_8, 32, kv_8, rfl, ki_8, ko_8, kn_8, by decide, by decide +kernel, rfl, by decide +kernel, Or.inl (zw_mem (i := 1051) (by decide +kernel) (by decide +kernel))⟩
theorem kf_Mo_41 : zl_F "StripMixerModel" 41 8 11 true true (.array .int) := ⟨"StripMixerModel", kt_8, 32, kv_8, rfl, ki_8, ko_8, kn_8, by decide, by decide +kernel, rfl, by decide +kernel, Or.inl (zw_mem (i := 1052) (by decide +kernel) (by decide +kernel))⟩
theorem kf_Mo_44 : zl_F "StripMixerModel" 44 8 12 true true (.array .int) := ⟨"StripMixerModel", kt_8, 32, kv_8, rfl, ki_8, ko_8, kn_8, by decide, by decide +kernel, rfl, by decide +kernel, Or.inl (zw_mem (i := 1053) (by decide +kernel) (by decide +kernel))⟩
theorem kf_Mo_47 : zl_F "StripMixerModel" 47 8 13 true true (.array .int) := ⟨"StripMixerModel", kt_8, 32, kv_8, rfl, ki_8, ko_8, kn_8, by decide, by decide +kernel, rfl, by decide +kernel, Or.inl (zw_mem (i := 1054) (by decide +kernel) (by decide +kernel))⟩
theorem kf_Mo_50 : zl_F "StripMixerModel" 50 8 14 true true (.array .int) := ⟨"StripMixerModel", kt_8, 32, kv_8, rfl, ki_8, ko_8, kn_8, by decide, by decide +kernel, rfl, by decide +kernel, Or.inl (zw_mem (i := 1055) (by decide +kernel) (by decide +kernel))⟩
theorem kf_Mo_53 : zl_F "StripMixerModel" 53 8 15 true true (.array .int) := ⟨"StripMixerModel", kt_8, 32, kv_8, rfl, ki_8, ko_8, kn_8, by decide, by decide +kernel, rfl, by decide +kernel, Or.inl (zw_mem (i := 1056) (by decide +kernel) (by decide +kernel))⟩
theorem kf_Mo_56 : zl_F "StripMixerModel" 56 8 16 true true (.array .int) := ⟨"StripMixerModel", kt_8, 32, kv_8, rfl, ki_8, ko_8, kn_8, by decide, by decide +kernel, rfl, by decide +kernel, Or.inl (zw_mem (i := 1057) (by decide +kernel) (by decide +kernel))⟩
theorem kf_Mo_59 : zl_F "StripMixerModel" 59 8 17 true true (.array .int) := ⟨"StripMixerModel", kt_8, 32, kv_8, rfl, ki_8, ko_8, kn_8, by decide, by decide +kernel, rfl, by decide +kernel, Or.inl (zw_mem (i := 1058) (by decide +kernel) (by decide +kernel))⟩
theorem kf_Mo_62 : zl_F "StripMixerModel" 62 8 18 true true (.array .int) := ⟨"StripMixerModel", kt_8, 32, kv_8, rfl, ki_8, ko_8, kn_8, by decide, by decide +kernel, rfl, by decide +kernel, Or.inl (zw_mem (i := 1059) (by decide +kernel) (by decide +kernel))⟩
theorem kf_Mo_65 : zl_F "StripMixerModel" 65 8 19 true true (.array .int) := ⟨"StripMixerModel", kt_8, 32, kv_8, rfl, ki_8, ko_8, kn_8, by decide, by decide +kernel, rfl, by decide +kernel, Or.inl (zw_mem (i := 1060) (by decide +kernel) (by decide +kernel))⟩
theorem kf_Mo_68 : zl_F "StripMixerModel" 68 8 20 true true (.array .int) := ⟨"StripMixerModel", kt_8, 32, kv_8, rfl, ki_8, ko_8, kn_8, by decide, by decide +kernel, rfl, by decide +kernel, Or.inl (zw_mem (i := 1061) (by decide +kernel) (by decide +kernel))⟩
theorem kf_Mo_71 : zl_F "StripMixerModel" 71 8 21 true true (.array .boolean) := ⟨"StripMixerModel", kt_8, 32, kv_8, rfl, ki_8, ko_8, kn_8, by decide, by decide +kernel, rfl, by decide +kernel, Or.inl (zw_mem (i := 1062) (by decide +kernel) (by decide +kernel))⟩
theorem kf_Mo_74 : zl_F "StripMixerModel" 74 8 22 true true (.array .boolean) := ⟨"StripMixerModel", kt_8, 32, kv_8, rfl, ki_8, ko_8, kn_8, by decide, by decide +kernel, rfl, by decide +kernel, Or.inl (zw_mem (i := 1063) (by decide +kernel) (by decide +kernel))⟩
theorem kf_Mo_77 : zl_F "StripMixerModel" 77 8 23 true true (.array .boolean) := ⟨"StripMixerModel", kt_8, 32, kv_8, rfl, ki_8, ko_8, kn_8, by decide, by decide +kernel, rfl, by decide +kernel, Or.inl (zw_mem (i := 1064) (by decide +kernel) (by decide +kernel))⟩
theorem kf_Mo_80 : zl_F "StripMixerModel" 80 8 24 true true (.array .boolean) := ⟨"StripMixerModel", kt_8, 32, kv_8, rfl, ki_8, ko_8, kn_8, by decide, by decide +kernel, rfl, by decide +kernel, Or.inl (zw_mem (i := 1065) (by decide +kernel) (by decide +kernel))⟩
theorem kf_Mo_83 : zl_F "StripMixerModel" 83 8 25 true true (.array .int) := ⟨"StripMixerModel", kt_8, 32, kv_8, rfl, ki_8, ko_8, kn_8, by decide, by decide +kernel, rfl, by decide +kernel, Or.inl (zw_mem (i := 1066) (by decide +kernel) (by decide +kernel))⟩
theorem kf_Mo_86 : zl_F "StripMixerModel" 86 8 26 true true (.array .boolean) := ⟨"StripMixerModel", kt_8, 32, kv_8, rfl, ki_8, ko_8, kn_8, by decide, by decide +kernel, rfl, by decide +kernel, Or.inl (zw_mem (i := 1067) (by decide +kernel) (by decide +kernel))⟩
theorem kf_Mo_89 : zl_F "StripMixerModel" 89 8 27 true true (.array .int) := ⟨"StripMixerModel", kt_8, 32, kv_8, rfl, ki_8, ko_8, kn_8, by decide, by decide +kernel, rfl, by decide +kernel, Or.inl (zw_mem (i := 1068) (by decide +kernel) (by decide +kernel))⟩
theorem kf_Mo_92 : zl_F "StripMixerModel" 92 8 28 true true (.array .int) := ⟨"StripMixerModel", kt_8, 32, kv_8, rfl, ki_8, ko_8, kn_8, by decide, by decide +kernel, rfl, by decide +kernel, Or.inl (zw_mem (i := 1069) (by decide +kernel) (by decide +kernel))⟩
theorem kf_Mo_95 : zl_F "StripMixerModel" 95 8 29 true true (.array .int) := ⟨"StripMixerModel", kt_8, 32, kv_8, rfl, ki_8, ko_8, kn_8, by decide, by decide +kernel, rfl, by decide +kernel, Or.inl (zw_mem (i := 1070) (by decide +kernel) (by decide +kernel))⟩
theorem kf_Mo_98 : zl_F "StripMixerModel" 98 8 30 true true (.array .int) := ⟨"StripMixerModel", kt_8, 32, kv_8, rfl, ki_8, ko_8, kn_8, by decide, by decide +kernel, rfl, by decide +kernel, Or.inl (zw_mem (i := 1071) (by decide +kernel) (by decide +kernel))⟩
theorem kf_Mo_197 : zl_F "StripMixerModel" 197 8 31 false false (.int) := ⟨"StripMixerModel", kt_8, 32, kv_8, rfl, ki_8, ko_8, kn_8, by decide, by decide +kernel, rfl, by decide +kernel, Or.inl (zw_mem (i := 1072) (by decide +kernel) (by decide +kernel))⟩
set_option maxRecDepth 100000 in
theorem km_La_7 : zl_V "StripMixerLaw" 7 ky_Mx_samples kc_Mx_samples 5 (none) 3 7 := ⟨Or.inl (zw_mem (i := 268) rfl rfl), zw_mem (i := 269) rfl rfl, zw_mem (i := 32) rfl rfl, zw_mem (i := 271) rfl rfl, ⟨by decide +kernel, by decide +kernel, by decide +kernel⟩, zw_mem (i := 270) rfl rfl, kt_7, 5, rfl⟩
set_option maxRecDepth 100000 in
theorem km_Mx_30 : zl_S "StripMixer" 30 ky_Mx_within kc_Mx_within 3 ((some .boolean)) 3 := ⟨Or.inl (zw_mem (i := 272) rfl rfl), zw_mem (i := 273) rfl rfl, zw_mem (i := 32) rfl rfl, zw_mem (i := 274) rfl rfl, ⟨by decide +kernel, by decide +kernel, by decide +kernel⟩⟩
set_option maxRecDepth 100000 in
theorem km_Mx_37 : zl_V "StripMixer" 37 ky_Ta_isOpen kc_Ta_isOpen 1 ((some .boolean)) 0 6 := ⟨Or.inl (zw_mem (i := 341) rfl rfl), zw_mem (i := 342) rfl rfl, zw_mem (i := 39) rfl rfl, zw_mem (i := 344) rfl rfl, ⟨by decide +kernel, by decide +kernel, by decide +kernel⟩, zw_mem (i := 343) rfl rfl, kt_6, 2, rfl⟩
set_option maxRecDepth 100000 in
theorem km_Mx_44 : zl_V "StripMixer" 44 ky_Ta_write kc_Ta_write 5 (none) 2 6 := ⟨Or.inl (zw_mem (i := 360) rfl rfl), zw_mem (i := 361) rfl rfl, zw_mem (i := 39) rfl rfl, zw_mem (i := 363) rfl rfl, ⟨by decide +kernel, by decide +kernel, by decide +kernel⟩, zw_mem (i := 362) rfl rfl, kt_6, 2, rfl⟩
set_option maxRecDepth 100000 in
theorem km_La_17 : zl_V "StripMixerLaw" 17 ky_Mx_seal kc_Mx_seal 3 (none) 2 7 := ⟨Or.inl (zw_mem (i := 368) rfl rfl), zw_mem (i := 369) rfl rfl, zw_mem (i := 32) rfl rfl, zw_mem (i := 371) rfl rfl, ⟨by decide +kernel, by decide +kernel, by decide +kernel⟩, zw_mem (i := 370) rfl rfl, kt_7, 5, rfl⟩
set_option maxRecDepth 100000 in
theorem km_La_23 : zl_V "StripMixerLaw" 23 ky_Mx_take kc_Mx_take 3 ((some .int)) 2 7 := ⟨Or.inl (zw_mem (i := 390) rfl rfl), zw_mem (i := 391) rfl rfl, zw_mem (i := 32) rfl rfl, zw_mem (i := 393) rfl rfl, ⟨by decide +kernel, by decide +kernel, by decide +kernel⟩, zw_mem (i := 392) rfl rfl, kt_7, 5, rfl⟩
set_option maxRecDepth 100000 in
theorem km_Mx_55 : zl_V "StripMixer" 55 ky_Ta_readable kc_Ta_readable 1 ((some .int)) 0 6 := ⟨Or.inl (zw_mem (i := 394) rfl rfl), zw_mem (i := 395) rfl rfl, zw_mem (i := 39) rfl rfl, zw_mem (i := 397) rfl rfl, ⟨by decide +kernel, by decide +kernel, by decide +kernel⟩, zw_mem (i := 396) rfl rfl, kt_6, 2, rfl⟩
set_option maxRecDepth 100000 in
theorem km_Ta_19 : zl_V "StripMixer$Take" 19 ky_Ta_isOpen kc_Ta_isOpen 1 ((some .boolean)) 0 6 := ⟨Or.inl (zw_mem (i := 398) rfl rfl), zw_mem (i := 342) rfl rfl, zw_mem (i := 39) rfl rfl, zw_mem (i := 344) rfl rfl, ⟨by decide +kernel, by decide +kernel, by decide +kernel⟩, zw_mem (i := 343) rfl rfl, kt_6, 2, rfl⟩
set_option maxRecDepth 100000 in
theorem km_La_27 : zl_V "StripMixerLaw" 27 ky_Mx_clip kc_Mx_clip 8 ((some .int)) 5 7 := ⟨Or.inl (zw_mem (i := 402) rfl rfl), zw_mem (i := 403) rfl rfl, zw_mem (i := 32) rfl rfl, zw_mem (i := 405) rfl rfl, ⟨by decide +kernel, by decide +kernel, by decide +kernel⟩, zw_mem (i := 404) rfl rfl, kt_7, 5, rfl⟩
set_option maxRecDepth 100000 in
theorem km_Mx_63 : zl_V "StripMixer" 63 ky_Sh_leastFree kc_Sh_leastFree 2 ((some .int)) 0 4 := ⟨Or.inl (zw_mem (i := 406) rfl rfl), zw_mem (i := 407) rfl rfl, zw_mem (i := 33) rfl rfl, zw_mem (i := 409) rfl rfl, ⟨by decide +kernel, by decide +kernel, by decide +kernel⟩, zw_mem (i := 408) rfl rfl, kt_4, 1, rfl⟩
set_option maxRecDepth 100000 in
theorem km_Mx_66 : zl_V "StripMixer" 66 ky_Sh_overlaps kc_Sh_overlaps 6 ((some .boolean)) 4 4 := ⟨Or.inl (zw_mem (i := 410) rfl rfl), zw_mem (i := 411) rfl rfl, zw_mem (i := 33) rfl rfl, zw_mem (i := 413) rfl rfl, ⟨by decide +kernel, by decide +kernel, by decide +kernel⟩, zw_mem (i := 412) rfl rfl, kt_4, 1, rfl⟩
set_option maxRecDepth 100000 in
theorem km_Sh_26 : zl_V "StripMixer$Shelf" 26 ky_Cl_liesIn kc_Cl_liesIn 4 ((some .boolean)) 3 0 := ⟨Or.inl (zw_mem (i := 414) rfl rfl), zw_mem (i := 415) rfl rfl, zw_mem (i := 34) rfl rfl, zw_mem (i := 417) rfl rfl, ⟨by decide +kernel, by decide +kernel, by decide +kernel⟩, zw_mem (i := 416) rfl rfl, kt_0, 8, rfl⟩
set_option maxRecDepth 100000 in
theorem km_Mx_74 : zl_V "StripMixer" 74 ky_Cl_cutFrom kc_Cl_cutFrom 4 (none) 3 0 := ⟨Or.inl (zw_mem (i := 418) rfl rfl), zw_mem (i := 419) rfl rfl, zw_mem (i := 34) rfl rfl, zw_mem (i := 421) rfl rfl, ⟨by decide +kernel, by decide +kernel, by decide +kernel⟩, zw_mem (i := 420) rfl rfl, kt_0, 8, rfl⟩
set_option maxRecDepth 100000 in
theorem km_Mx_80 : zl_V "StripMixer" 80 ky_Cl_layOn kc_Cl_layOn 3 (none) 2 0 := ⟨Or.inl (zw_mem (i := 422) rfl rfl), zw_mem (i := 423) rfl rfl, zw_mem (i := 34) rfl rfl, zw_mem (i := 425) rfl rfl, ⟨by decide +kernel, by decide +kernel, by decide +kernel⟩, zw_mem (i := 424) rfl rfl, kt_0, 8, rfl⟩
set_option maxRecDepth 100000 in
theorem km_Mx_84 : zl_V "StripMixer" 84 ky_Cl_form kc_Cl_form 4 (none) 3 0 := ⟨Or.inl (zw_mem (i := 426) rfl rfl), zw_mem (i := 427) rfl rfl, zw_mem (i := 34) rfl rfl, zw_mem (i := 429) rfl rfl, ⟨by decide +kernel, by decide +kernel, by decide +kernel⟩, zw_mem (i := 428) rfl rfl, kt_0, 8, rfl⟩
set_option maxRecDepth 100000 in
theorem km_La_31 : zl_V "StripMixerLaw" 31 ky_Mx_drop kc_Mx_drop 2 (none) 1 7 := ⟨Or.inl (zw_mem (i := 434) rfl rfl), zw_mem (i := 435) rfl rfl, zw_mem (i := 32) rfl rfl, zw_mem (i := 437) rfl rfl, ⟨by decide +kernel, by decide +kernel, by decide +kernel⟩, zw_mem (i := 436) rfl rfl, kt_7, 5, rfl⟩
set_option maxRecDepth 100000 in
theorem km_Mx_88 : zl_V "StripMixer" 88 ky_Sh_has kc_Sh_has 2 ((some .boolean)) 1 4 := ⟨Or.inl (zw_mem (i := 438) rfl rfl), zw_mem (i := 439) rfl rfl, zw_mem (i := 33) rfl rfl, zw_mem (i := 441) rfl rfl, ⟨by decide +kernel, by decide +kernel, by decide +kernel⟩, zw_mem (i := 440) rfl rfl, kt_4, 1, rfl⟩
set_option maxRecDepth 100000 in
theorem km_Sh_18 : zl_S "StripMixer$Shelf" 18 ky_Mx_within kc_Mx_within 3 ((some .boolean)) 3 := ⟨Or.inr ⟨"StripMixer", zw_memN (i := 442) rfl rfl⟩, zw_mem (i := 273) rfl rfl, zw_mem (i := 32) rfl rfl, zw_mem (i := 274) rfl rfl, ⟨by decide +kernel, by decide +kernel, by decide +kernel⟩⟩
set_option maxRecDepth 100000 in
theorem km_La_37 : zl_V "StripMixerLaw" 37 ky_Mx_move kc_Mx_move 5 ((some .boolean)) 3 7 := ⟨Or.inl (zw_mem (i := 461) rfl rfl), zw_mem (i := 462) rfl rfl, zw_mem (i := 32) rfl rfl, zw_mem (i := 464) rfl rfl, ⟨by decide +kernel, by decide +kernel, by decide +kernel⟩, zw_mem (i := 463) rfl rfl, kt_7, 5, rfl⟩
set_option maxRecDepth 100000 in
theorem km_La_41 : zl_V "StripMixerLaw" 41 ky_Mx_split kc_Mx_split 5 ((some .int)) 2 7 := ⟨Or.inl (zw_mem (i := 468) rfl rfl), zw_mem (i := 469) rfl rfl, zw_mem (i := 32) rfl rfl, zw_mem (i := 471) rfl rfl, ⟨by decide +kernel, by decide +kernel, by decide +kernel⟩, zw_mem (i := 470) rfl rfl, kt_7, 5, rfl⟩
set_option maxRecDepth 100000 in
theorem km_Mx_102 : zl_V "StripMixer" 102 ky_Cl_splitInto kc_Cl_splitInto 3 (none) 2 0 := ⟨Or.inl (zw_mem (i := 472) rfl rfl), zw_mem (i := 473) rfl rfl, zw_mem (i := 34) rfl rfl, zw_mem (i := 475) rfl rfl, ⟨by decide +kernel, by decide +kernel, by decide +kernel⟩, zw_mem (i := 474) rfl rfl, kt_0, 8, rfl⟩
set_option maxRecDepth 100000 in
theorem km_Cl_35 : zl_V "StripMixer$Clip" 35 ky_Cl_cutFrom kc_Cl_cutFrom 4 (none) 3 0 := ⟨Or.inl (zw_mem (i := 476) rfl rfl), zw_mem (i := 419) rfl rfl, zw_mem (i := 34) rfl rfl, zw_mem (i := 421) rfl rfl, ⟨by decide +kernel, by decide +kernel, by decide +kernel⟩, zw_mem (i := 420) rfl rfl, kt_0, 8, rfl⟩
set_option maxRecDepth 100000 in
theorem km_Cl_39 : zl_V "StripMixer$Clip" 39 ky_Cl_layOn kc_Cl_layOn 3 (none) 2 0 := ⟨Or.inl (zw_mem (i := 477) rfl rfl), zw_mem (i := 423) rfl rfl, zw_mem (i := 34) rfl rfl, zw_mem (i := 425) rfl rfl, ⟨by decide +kernel, by decide +kernel, by decide +kernel⟩, zw_mem (i := 424) rfl rfl, kt_0, 8, rfl⟩
set_option maxRecDepth 100000 in
theorem km_Cl_43 : zl_V "StripMixer$Clip" 43 ky_Cl_form kc_Cl_form 4 (none) 3 0 := ⟨Or.inl (zw_mem (i := 478) rfl rfl), zw_mem (i := 427) rfl rfl, zw_mem (i := 34) rfl rfl, zw_mem (i := 429) rfl rfl, ⟨by decide +kernel, by decide +kernel, by decide +kernel⟩, zw_mem (i := 428) rfl rfl, kt_0, 8, rfl⟩
set_option maxRecDepth 100000 in
theorem km_La_44 : zl_V "StripMixerLaw" 44 ky_Mx_shape kc_Mx_shape 6 (none) 4 7 := ⟨Or.inl (zw_mem (i := 482) rfl rfl), zw_mem (i := 483) rfl rfl, zw_mem (i := 32) rfl rfl, zw_mem (i := 485) rfl rfl, ⟨by decide +kernel, by decide +kernel, by decide +kernel⟩, zw_mem (i := 484) rfl rfl, kt_7, 5, rfl⟩
set_option maxRecDepth 100000 in
theorem km_Mx_106 : zl_S "StripMixer" 106 ky_Mx_isLevel kc_Mx_isLevel 1 ((some .boolean)) 1 := ⟨Or.inl (zw_mem (i := 486) rfl rfl), zw_mem (i := 487) rfl rfl, zw_mem (i := 32) rfl rfl, zw_mem (i := 488) rfl rfl, ⟨by decide +kernel, by decide +kernel, by decide +kernel⟩⟩
set_option maxRecDepth 100000 in
theorem km_La_48 : zl_V "StripMixerLaw" 48 ky_Mx_route kc_Mx_route 3 ((some .boolean)) 2 7 := ⟨Or.inl (zw_mem (i := 492) rfl rfl), zw_mem (i := 493) rfl rfl, zw_mem (i := 32) rfl rfl, zw_mem (i := 495) rfl rfl, ⟨by decide +kernel, by decide +kernel, by decide +kernel⟩, zw_mem (i := 494) rfl rfl, kt_7, 5, rfl⟩
set_option maxRecDepth 100000 in
theorem km_Mx_109 : zl_V "StripMixer" 109 ky_De_mayFeed kc_De_mayFeed 3 ((some .boolean)) 2 1 := ⟨Or.inl (zw_mem (i := 496) rfl rfl), zw_mem (i := 497) rfl rfl, zw_mem (i := 35) rfl rfl, zw_mem (i := 499) rfl rfl, ⟨by decide +kernel, by decide +kernel, by decide +kernel⟩, zw_mem (i := 498) rfl rfl, kt_1, 2, rfl⟩
set_option maxRecDepth 100000 in
theorem km_De_24 : zl_V "StripMixer$Desk" 24 ky_De_reach kc_De_reach 5 ((some .int)) 1 1 := ⟨Or.inl (zw_mem (i := 500) rfl rfl), zw_mem (i := 502) rfl rfl, zw_mem (i := 35) rfl rfl, zw_mem (i := 503) rfl rfl, ⟨by decide +kernel, by decide +kernel, by decide +kernel⟩, zw_mem (i := 1) rfl rfl, kt_1, 2, rfl⟩
set_option maxRecDepth 100000 in
theorem km_De_86 : zl_V "StripMixer$Desk" 86 ky_De_fedBy kc_De_fedBy 4 ((some .int)) 1 1 := ⟨Or.inl (zw_mem (i := 504) rfl rfl), zw_mem (i := 506) rfl rfl, zw_mem (i := 35) rfl rfl, zw_mem (i := 507) rfl rfl, ⟨by decide +kernel, by decide +kernel, by decide +kernel⟩, zw_mem (i := 2) rfl rfl, kt_1, 2, rfl⟩
set_option maxRecDepth 100000 in
theorem km_De_76 : zl_V "StripMixer$Desk" 76 ky_St_feeds kc_St_feeds 2 ((some .boolean)) 1 5 := ⟨Or.inl (zw_mem (i := 508) rfl rfl), zw_mem (i := 509) rfl rfl, zw_mem (i := 36) rfl rfl, zw_mem (i := 511) rfl rfl, ⟨by decide +kernel, by decide +kernel, by decide +kernel⟩, zw_mem (i := 510) rfl rfl, kt_5, 9, rfl⟩
set_option maxRecDepth 100000 in
theorem km_De_28 : zl_S "StripMixer$Desk" 28 ky_De_has kc_De_has 2 ((some .boolean)) 2 := ⟨Or.inl (zw_mem (i := 512) rfl rfl), zw_mem (i := 513) rfl rfl, zw_mem (i := 35) rfl rfl, zw_mem (i := 514) rfl rfl, ⟨by decide +kernel, by decide +kernel, by decide +kernel⟩⟩
set_option maxRecDepth 100000 in
theorem km_La_52 : zl_V "StripMixerLaw" 52 ky_Mx_send kc_Mx_send 4 ((some .boolean)) 3 7 := ⟨Or.inl (zw_mem (i := 518) rfl rfl), zw_mem (i := 519) rfl rfl, zw_mem (i := 32) rfl rfl, zw_mem (i := 521) rfl rfl, ⟨by decide +kernel, by decide +kernel, by decide +kernel⟩, zw_mem (i := 520) rfl rfl, kt_7, 5, rfl⟩
set_option maxRecDepth 100000 in
theorem km_La_55 : zl_V "StripMixerLaw" 55 ky_Mx_effect kc_Mx_effect 6 (none) 5 7 := ⟨Or.inl (zw_mem (i := 525) rfl rfl), zw_mem (i := 526) rfl rfl, zw_mem (i := 32) rfl rfl, zw_mem (i := 528) rfl rfl, ⟨by decide +kernel, by decide +kernel, by decide +kernel⟩, zw_mem (i := 527) rfl rfl, kt_7, 5, rfl⟩
set_option maxRecDepth 100000 in
theorem km_Mx_125 : zl_S "StripMixer" 125 ky_Mx_isStrip kc_Mx_isStrip 1 ((some .boolean)) 1 := ⟨Or.inl (zw_mem (i := 529) rfl rfl), zw_mem (i := 530) rfl rfl, zw_mem (i := 32) rfl rfl, zw_mem (i := 531) rfl rfl, ⟨by decide +kernel, by decide +kernel, by decide +kernel⟩⟩
set_option maxRecDepth 100000 in
theorem km_Mx_128 : zl_S "StripMixer" 128 ky_Ef_allows kc_Ef_allows 3 ((some .boolean)) 3 := ⟨Or.inl (zw_mem (i := 532) rfl rfl), zw_mem (i := 533) rfl rfl, zw_mem (i := 38) rfl rfl, zw_mem (i := 534) rfl rfl, ⟨by decide +kernel, by decide +kernel, by decide +kernel⟩⟩
set_option maxRecDepth 100000 in
theorem km_Ef_15 : zl_S "StripMixer$Effect" 15 ky_Mx_isLevel kc_Mx_isLevel 1 ((some .boolean)) 1 := ⟨Or.inr ⟨"StripMixer", zw_memN (i := 535) rfl rfl⟩, zw_mem (i := 487) rfl rfl, zw_mem (i := 32) rfl rfl, zw_mem (i := 488) rfl rfl, ⟨by decide +kernel, by decide +kernel, by decide +kernel⟩⟩
set_option maxRecDepth 100000 in
theorem km_Ef_19 : zl_S "StripMixer$Effect" 19 ky_Mx_within kc_Mx_within 3 ((some .boolean)) 3 := ⟨Or.inr ⟨"StripMixer", zw_memN (i := 536) rfl rfl⟩, zw_mem (i := 273) rfl rfl, zw_mem (i := 32) rfl rfl, zw_mem (i := 274) rfl rfl, ⟨by decide +kernel, by decide +kernel, by decide +kernel⟩⟩
set_option maxRecDepth 100000 in
theorem km_Mx_137 : zl_V "StripMixer" 137 ky_Ef_become kc_Ef_become 4 (none) 3 2 := ⟨Or.inl (zw_mem (i := 538) rfl rfl), zw_mem (i := 539) rfl rfl, zw_mem (i := 38) rfl rfl, zw_mem (i := 541) rfl rfl, ⟨by decide +kernel, by decide +kernel, by decide +kernel⟩, zw_mem (i := 540) rfl rfl, kt_2, 6, rfl⟩
set_option maxRecDepth 100000 in
theorem km_La_59 : zl_V "StripMixerLaw" 59 ky_Mx_fader kc_Mx_fader 3 (none) 2 7 := ⟨Or.inl (zw_mem (i := 545) rfl rfl), zw_mem (i := 546) rfl rfl, zw_mem (i := 32) rfl rfl, zw_mem (i := 548) rfl rfl, ⟨by decide +kernel, by decide +kernel, by decide +kernel⟩, zw_mem (i := 547) rfl rfl, kt_7, 5, rfl⟩
set_option maxRecDepth 100000 in
theorem km_La_62 : zl_V "StripMixerLaw" 62 ky_Mx_point kc_Mx_point 5 ((some .boolean)) 4 7 := ⟨Or.inl (zw_mem (i := 552) rfl rfl), zw_mem (i := 553) rfl rfl, zw_mem (i := 32) rfl rfl, zw_mem (i := 555) rfl rfl, ⟨by decide +kernel, by decide +kernel, by decide +kernel⟩, zw_mem (i := 554) rfl rfl, kt_7, 5, rfl⟩
set_option maxRecDepth 100000 in
theorem km_Mx_149 : zl_V "StripMixer" 149 ky_Fa_put kc_Fa_put 6 ((some .boolean)) 3 3 := ⟨Or.inl (zw_mem (i := 556) rfl rfl), zw_mem (i := 557) rfl rfl, zw_mem (i := 37) rfl rfl, zw_mem (i := 559) rfl rfl, ⟨by decide +kernel, by decide +kernel, by decide +kernel⟩, zw_mem (i := 558) rfl rfl, kt_3, 5, rfl⟩
set_option maxRecDepth 100000 in
theorem km_Fa_26 : zl_V "StripMixer$Fader" 26 ky_Fa_firstNotBefore kc_Fa_firstNotBefore 3 ((some .int)) 1 3 := ⟨Or.inl (zw_mem (i := 560) rfl rfl), zw_mem (i := 562) rfl rfl, zw_mem (i := 37) rfl rfl, zw_mem (i := 563) rfl rfl, ⟨by decide +kernel, by decide +kernel, by decide +kernel⟩, zw_mem (i := 3) rfl rfl, kt_3, 5, rfl⟩
set_option maxRecDepth 100000 in
theorem km_Fa_33 : zl_V "StripMixer$Fader" 33 ky_Fa_openGap kc_Fa_openGap 3 (none) 1 3 := ⟨Or.inl (zw_mem (i := 564) rfl rfl), zw_mem (i := 566) rfl rfl, zw_mem (i := 37) rfl rfl, zw_mem (i := 567) rfl rfl, ⟨by decide +kernel, by decide +kernel, by decide +kernel⟩, zw_mem (i := 4) rfl rfl, kt_3, 5, rfl⟩
set_option maxRecDepth 100000 in
theorem km_La_66 : zl_V "StripMixerLaw" 66 ky_Mx_turn kc_Mx_turn 6 ((some .int)) 2 7 := ⟨Or.inl (zw_mem (i := 571) rfl rfl), zw_mem (i := 572) rfl rfl, zw_mem (i := 32) rfl rfl, zw_mem (i := 574) rfl rfl, ⟨by decide +kernel, by decide +kernel, by decide +kernel⟩, zw_mem (i := 573) rfl rfl, kt_7, 5, rfl⟩
set_option maxRecDepth 100000 in
theorem km_Mx_153 : zl_V "StripMixer" 153 ky_Fa_clearPoints kc_Fa_clearPoints 2 ((some .int)) 0 3 := ⟨Or.inl (zw_mem (i := 575) rfl rfl), zw_mem (i := 576) rfl rfl, zw_mem (i := 37) rfl rfl, zw_mem (i := 578) rfl rfl, ⟨by decide +kernel, by decide +kernel, by decide +kernel⟩, zw_mem (i := 577) rfl rfl, kt_3, 5, rfl⟩
set_option maxRecDepth 100000 in
theorem km_Mx_156 : zl_V "StripMixer" 156 ky_St_changeMute kc_St_changeMute 3 ((some .boolean)) 1 5 := ⟨Or.inl (zw_mem (i := 579) rfl rfl), zw_mem (i := 580) rfl rfl, zw_mem (i := 36) rfl rfl, zw_mem (i := 582) rfl rfl, ⟨by decide +kernel, by decide +kernel, by decide +kernel⟩, zw_mem (i := 581) rfl rfl, kt_5, 9, rfl⟩
set_option maxRecDepth 100000 in
theorem km_Mx_160 : zl_V "StripMixer" 160 ky_St_changeSolo kc_St_changeSolo 3 ((some .boolean)) 1 5 := ⟨Or.inl (zw_mem (i := 583) rfl rfl), zw_mem (i := 584) rfl rfl, zw_mem (i := 36) rfl rfl, zw_mem (i := 586) rfl rfl, ⟨by decide +kernel, by decide +kernel, by decide +kernel⟩, zw_mem (i := 585) rfl rfl, kt_5, 9, rfl⟩
set_option maxRecDepth 100000 in
theorem km_La_69 : zl_V "StripMixerLaw" 69 ky_Mx_render kc_Mx_render 3 (none) 2 7 := ⟨Or.inl (zw_mem (i := 590) rfl rfl), zw_mem (i := 591) rfl rfl, zw_mem (i := 32) rfl rfl, zw_mem (i := 593) rfl rfl, ⟨by decide +kernel, by decide +kernel, by decide +kernel⟩, zw_mem (i := 592) rfl rfl, kt_7, 5, rfl⟩
set_option maxRecDepth 100000 in
theorem km_Mx_163 : zl_S "StripMixer" 163 ky_Mx_isBlock kc_Mx_isBlock 2 ((some .boolean)) 2 := ⟨Or.inl (zw_mem (i := 594) rfl rfl), zw_mem (i := 595) rfl rfl, zw_mem (i := 32) rfl rfl, zw_mem (i := 596) rfl rfl, ⟨by decide +kernel, by decide +kernel, by decide +kernel⟩⟩
set_option maxRecDepth 100000 in
theorem km_Mx_166 : zl_V "StripMixer" 166 ky_Mx_playBlock kc_Mx_playBlock 5 (none) 2 7 := ⟨Or.inl (zw_mem (i := 597) rfl rfl), zw_mem (i := 599) rfl rfl, zw_mem (i := 32) rfl rfl, zw_mem (i := 600) rfl rfl, ⟨by decide +kernel, by decide +kernel, by decide +kernel⟩, zw_mem (i := 5) rfl rfl, kt_7, 5, rfl⟩
set_option maxRecDepth 100000 in
theorem km_Mx_187 : zl_V "StripMixer" 187 ky_De_settle kc_De_settle 4 (none) 0 1 := ⟨Or.inl (zw_mem (i := 601) rfl rfl), zw_mem (i := 602) rfl rfl, zw_mem (i := 35) rfl rfl, zw_mem (i := 604) rfl rfl, ⟨by decide +kernel, by decide +kernel, by decide +kernel⟩, zw_mem (i := 603) rfl rfl, kt_1, 2, rfl⟩
set_option maxRecDepth 100000 in
theorem km_De_40 : zl_S "StripMixer$Desk" 40 ky_In_bitCount kc_In_bitCount 1 ((some .int)) 1 := ⟨Or.inl (zw_mem (i := 605) rfl rfl), zw_mem (i := 606) rfl rfl, zw_mem (i := 48) rfl rfl, zw_mem (i := 607) rfl rfl, ⟨by decide +kernel, by decide +kernel, by decide +kernel⟩⟩
set_option maxRecDepth 100000 in
theorem km_De_45 : zl_V "StripMixer$Desk" 45 ky_De_greatestDelayInto kc_De_greatestDelayInto 4 ((some .int)) 1 1 := ⟨Or.inl (zw_mem (i := 611) rfl rfl), zw_mem (i := 613) rfl rfl, zw_mem (i := 35) rfl rfl, zw_mem (i := 614) rfl rfl, ⟨by decide +kernel, by decide +kernel, by decide +kernel⟩, zw_mem (i := 6) rfl rfl, kt_1, 2, rfl⟩
set_option maxRecDepth 100000 in
theorem km_De_48 : zl_V "StripMixer$Desk" 48 ky_St_delayFrom kc_St_delayFrom 3 (none) 1 5 := ⟨Or.inl (zw_mem (i := 618) rfl rfl), zw_mem (i := 619) rfl rfl, zw_mem (i := 36) rfl rfl, zw_mem (i := 621) rfl rfl, ⟨by decide +kernel, by decide +kernel, by decide +kernel⟩, zw_mem (i := 620) rfl rfl, kt_5, 9, rfl⟩
set_option maxRecDepth 100000 in
theorem km_St_49 : zl_V "StripMixer$Strip" 49 ky_Ef_ownDelay kc_Ef_ownDelay 1 ((some .int)) 0 2 := ⟨Or.inl (zw_mem (i := 622) rfl rfl), zw_mem (i := 623) rfl rfl, zw_mem (i := 38) rfl rfl, zw_mem (i := 625) rfl rfl, ⟨by decide +kernel, by decide +kernel, by decide +kernel⟩, zw_mem (i := 624) rfl rfl, kt_2, 6, rfl⟩
set_option maxRecDepth 100000 in
theorem km_Mx_206 : zl_V "StripMixer" 206 ky_Sh_layOut kc_Sh_layOut 8 (none) 3 4 := ⟨Or.inl (zw_mem (i := 626) rfl rfl), zw_mem (i := 627) rfl rfl, zw_mem (i := 33) rfl rfl, zw_mem (i := 629) rfl rfl, ⟨by decide +kernel, by decide +kernel, by decide +kernel⟩, zw_mem (i := 628) rfl rfl, kt_4, 1, rfl⟩
set_option maxRecDepth 100000 in
theorem km_Sh_29 : zl_S "StripMixer$Shelf" 29 ky_Ar_fill_aIIIIV kc_Ar_fill_aIIIIV 5 (none) 4 := ⟨Or.inl (zw_mem (i := 630) rfl rfl), zw_mem (i := 631) rfl rfl, zw_mem (i := 50) rfl rfl, zw_mem (i := 632) rfl rfl, ⟨by decide +kernel, by decide +kernel, by decide +kernel⟩⟩
set_option maxRecDepth 100000 in
theorem km_Ar_13 : zl_S "java/util/Arrays" 13 ky_Ar_rangeCheck kc_Ar_rangeCheck 3 (none) 3 := ⟨Or.inl (zw_mem (i := 633) rfl rfl), zw_mem (i := 634) rfl rfl, zw_mem (i := 50) rfl rfl, zw_mem (i := 635) rfl rfl, ⟨by decide +kernel, by decide +kernel, by decide +kernel⟩⟩
set_option maxRecDepth 100000 in
theorem km_Sh_44 : zl_V "StripMixer$Shelf" 44 ky_Cl_valueAt kc_Cl_valueAt 3 ((some .int)) 1 0 := ⟨Or.inl (zw_mem (i := 911) rfl rfl), zw_mem (i := 912) rfl rfl, zw_mem (i := 34) rfl rfl, zw_mem (i := 914) rfl rfl, ⟨by decide +kernel, by decide +kernel, by decide +kernel⟩, zw_mem (i := 913) rfl rfl, kt_0, 8, rfl⟩
set_option maxRecDepth 100000 in
theorem km_Cl_53 : zl_S "StripMixer$Clip" 53 ky_Mx_atLevel kc_Mx_atLevel 2 ((some .int)) 2 := ⟨Or.inr ⟨"StripMixer", zw_memN (i := 915) rfl rfl⟩, zw_mem (i := 916) rfl rfl, zw_mem (i := 32) rfl rfl, zw_mem (i := 917) rfl rfl, ⟨by decide +kernel, by decide +kernel, by decide +kernel⟩⟩
set_option maxRecDepth 100000 in
theorem km_Cl_59 : zl_S "StripMixer$Clip" 59 ky_Ma_floorDiv kc_Ma_floorDiv 3 ((some .int)) 2 := ⟨Or.inl (zw_mem (i := 918) rfl rfl), zw_mem (i := 919) rfl rfl, zw_mem (i := 49) rfl rfl, zw_mem (i := 920) rfl rfl, ⟨by decide +kernel, by decide +kernel, by decide +kernel⟩⟩
set_option maxRecDepth 100000 in
theorem km_Mx_210 : zl_V "StripMixer" 210 ky_De_mixInto kc_De_mixInto 7 (none) 2 1 := ⟨Or.inl (zw_mem (i := 921) rfl rfl), zw_mem (i := 922) rfl rfl, zw_mem (i := 35) rfl rfl, zw_mem (i := 924) rfl rfl, ⟨by decide +kernel, by decide +kernel, by decide +kernel⟩, zw_mem (i := 923) rfl rfl, kt_1, 2, rfl⟩
set_option maxRecDepth 100000 in
theorem km_De_54 : zl_S "StripMixer$Desk" 54 ky_Ar_fill_aIIIIV kc_Ar_fill_aIIIIV 5 (none) 4 := ⟨Or.inl (zw_mem (i := 925) rfl rfl), zw_mem (i := 631) rfl rfl, zw_mem (i := 50) rfl rfl, zw_mem (i := 632) rfl rfl, ⟨by decide +kernel, by decide +kernel, by decide +kernel⟩⟩
set_option maxRecDepth 100000 in
theorem km_De_70 : zl_V "StripMixer$Desk" 70 ky_St_addTo kc_St_addTo 6 (none) 4 5 := ⟨Or.inl (zw_mem (i := 926) rfl rfl), zw_mem (i := 927) rfl rfl, zw_mem (i := 36) rfl rfl, zw_mem (i := 929) rfl rfl, ⟨by decide +kernel, by decide +kernel, by decide +kernel⟩, zw_mem (i := 928) rfl rfl, kt_5, 9, rfl⟩
set_option maxRecDepth 100000 in
theorem km_St_53 : zl_S "StripMixer$Strip" 53 ky_Mx_atLevel kc_Mx_atLevel 2 ((some .int)) 2 := ⟨Or.inr ⟨"StripMixer", zw_memN (i := 930) rfl rfl⟩, zw_mem (i := 916) rfl rfl, zw_mem (i := 32) rfl rfl, zw_mem (i := 917) rfl rfl, ⟨by decide +kernel, by decide +kernel, by decide +kernel⟩⟩
set_option maxRecDepth 100000 in
theorem km_Mx_193 : zl_V "StripMixer" 193 ky_De_isHeard kc_De_isHeard 4 ((some .boolean)) 1 1 := ⟨Or.inl (zw_mem (i := 931) rfl rfl), zw_mem (i := 932) rfl rfl, zw_mem (i := 35) rfl rfl, zw_mem (i := 934) rfl rfl, ⟨by decide +kernel, by decide +kernel, by decide +kernel⟩, zw_mem (i := 933) rfl rfl, kt_1, 2, rfl⟩
set_option maxRecDepth 100000 in
theorem km_De_36 : zl_V "StripMixer$Desk" 36 ky_De_solos kc_De_solos 3 ((some .int)) 0 1 := ⟨Or.inl (zw_mem (i := 935) rfl rfl), zw_mem (i := 937) rfl rfl, zw_mem (i := 35) rfl rfl, zw_mem (i := 938) rfl rfl, ⟨by decide +kernel, by decide +kernel, by decide +kernel⟩, zw_mem (i := 7) rfl rfl, kt_1, 2, rfl⟩
set_option maxRecDepth 100000 in
theorem km_Mx_213 : zl_V "StripMixer" 213 ky_St_process kc_St_process 7 (none) 2 5 := ⟨Or.inl (zw_mem (i := 939) rfl rfl), zw_mem (i := 940) rfl rfl, zw_mem (i := 36) rfl rfl, zw_mem (i := 942) rfl rfl, ⟨by decide +kernel, by decide +kernel, by decide +kernel⟩, zw_mem (i := 941) rfl rfl, kt_5, 9, rfl⟩
set_option maxRecDepth 100000 in
theorem km_St_57 : zl_V "StripMixer$Strip" 57 ky_Ef_forget kc_Ef_forget 1 (none) 0 2 := ⟨Or.inl (zw_mem (i := 943) rfl rfl), zw_mem (i := 944) rfl rfl, zw_mem (i := 38) rfl rfl, zw_mem (i := 946) rfl rfl, ⟨by decide +kernel, by decide +kernel, by decide +kernel⟩, zw_mem (i := 945) rfl rfl, kt_2, 6, rfl⟩
set_option maxRecDepth 100000 in
theorem km_Ef_34 : zl_S "StripMixer$Effect" 34 ky_Ar_fill_aIIV kc_Ar_fill_aIIV 4 (none) 2 := ⟨Or.inl (zw_mem (i := 947) rfl rfl), zw_mem (i := 948) rfl rfl, zw_mem (i := 50) rfl rfl, zw_mem (i := 949) rfl rfl, ⟨by decide +kernel, by decide +kernel, by decide +kernel⟩⟩
set_option maxRecDepth 100000 in
theorem km_St_60 : zl_V "StripMixer$Strip" 60 ky_Fa_levelAt kc_Fa_levelAt 5 ((some .int)) 1 3 := ⟨Or.inl (zw_mem (i := 950) rfl rfl), zw_mem (i := 951) rfl rfl, zw_mem (i := 37) rfl rfl, zw_mem (i := 953) rfl rfl, ⟨by decide +kernel, by decide +kernel, by decide +kernel⟩, zw_mem (i := 952) rfl rfl, kt_3, 5, rfl⟩
set_option maxRecDepth 100000 in
theorem km_Fa_37 : zl_S "StripMixer$Fader" 37 ky_Ma_floorDiv kc_Ma_floorDiv 3 ((some .int)) 2 := ⟨Or.inl (zw_mem (i := 954) rfl rfl), zw_mem (i := 919) rfl rfl, zw_mem (i := 49) rfl rfl, zw_mem (i := 920) rfl rfl, ⟨by decide +kernel, by decide +kernel, by decide +kernel⟩⟩
set_option maxRecDepth 100000 in
theorem km_St_64 : zl_S "StripMixer$Strip" 64 ky_Mx_cut kc_Mx_cut 1 ((some .int)) 1 := ⟨Or.inr ⟨"StripMixer", zw_memN (i := 955) rfl rfl⟩, zw_mem (i := 956) rfl rfl, zw_mem (i := 32) rfl rfl, zw_mem (i := 957) rfl rfl, ⟨by decide +kernel, by decide +kernel, by decide +kernel⟩⟩
set_option maxRecDepth 100000 in
theorem km_St_67 : zl_V "StripMixer$Strip" 67 ky_Ef_next kc_Ef_next 2 ((some .int)) 1 2 := ⟨Or.inl (zw_mem (i := 962) rfl rfl), zw_mem (i := 963) rfl rfl, zw_mem (i := 38) rfl rfl, zw_mem (i := 965) rfl rfl, ⟨by decide +kernel, by decide +kernel, by decide +kernel⟩, zw_mem (i := 964) rfl rfl, kt_2, 6, rfl⟩
set_option maxRecDepth 100000 in
theorem km_Ef_46 : zl_S "StripMixer$Effect" 46 ky_Mx_atLevel kc_Mx_atLevel 2 ((some .int)) 2 := ⟨Or.inr ⟨"StripMixer", zw_memN (i := 966) rfl rfl⟩, zw_mem (i := 916) rfl rfl, zw_mem (i := 32) rfl rfl, zw_mem (i := 917) rfl rfl, ⟨by decide +kernel, by decide +kernel, by decide +kernel⟩⟩
set_option maxRecDepth 100000 in
theorem km_Ef_50 : zl_S "StripMixer$Effect" 50 ky_Mx_cut kc_Mx_cut 1 ((some .int)) 1 := ⟨Or.inr ⟨"StripMixer", zw_memN (i := 967) rfl rfl⟩, zw_mem (i := 956) rfl rfl, zw_mem (i := 32) rfl rfl, zw_mem (i := 957) rfl rfl, ⟨by decide +kernel, by decide +kernel, by decide +kernel⟩⟩
set_option maxRecDepth 100000 in
theorem km_Ef_54 : zl_V "StripMixer$Effect" 54 ky_Ef_echo kc_Ef_echo 3 ((some .int)) 1 2 := ⟨Or.inl (zw_mem (i := 968) rfl rfl), zw_mem (i := 970) rfl rfl, zw_mem (i := 38) rfl rfl, zw_mem (i := 971) rfl rfl, ⟨by decide +kernel, by decide +kernel, by decide +kernel⟩, zw_mem (i := 8) rfl rfl, kt_2, 6, rfl⟩
set_option maxRecDepth 100000 in
theorem km_Ef_57 : zl_V "StripMixer$Effect" 57 ky_Ef_limit kc_Ef_limit 4 ((some .int)) 1 2 := ⟨Or.inl (zw_mem (i := 972) rfl rfl), zw_mem (i := 974) rfl rfl, zw_mem (i := 38) rfl rfl, zw_mem (i := 975) rfl rfl, ⟨by decide +kernel, by decide +kernel, by decide +kernel⟩, zw_mem (i := 9) rfl rfl, kt_2, 6, rfl⟩
set_option maxRecDepth 100000 in
theorem km_Ef_74 : zl_V "StripMixer$Effect" 74 ky_Ef_greatestPast kc_Ef_greatestPast 3 ((some .int)) 0 2 := ⟨Or.inl (zw_mem (i := 979) rfl rfl), zw_mem (i := 981) rfl rfl, zw_mem (i := 38) rfl rfl, zw_mem (i := 982) rfl rfl, ⟨by decide +kernel, by decide +kernel, by decide +kernel⟩, zw_mem (i := 10) rfl rfl, kt_2, 6, rfl⟩
set_option maxRecDepth 100000 in
theorem km_Ef_60 : zl_V "StripMixer$Effect" 60 ky_Ef_gate kc_Ef_gate 2 ((some .int)) 1 2 := ⟨Or.inl (zw_mem (i := 984) rfl rfl), zw_mem (i := 986) rfl rfl, zw_mem (i := 38) rfl rfl, zw_mem (i := 987) rfl rfl, ⟨by decide +kernel, by decide +kernel, by decide +kernel⟩, zw_mem (i := 11) rfl rfl, kt_2, 6, rfl⟩
set_option maxRecDepth 100000 in
theorem km_La_72 : zl_V "StripMixerLaw" 72 ky_Mx_sample kc_Mx_sample 3 ((some .int)) 2 7 := ⟨Or.inl (zw_mem (i := 992) rfl rfl), zw_mem (i := 993) rfl rfl, zw_mem (i := 32) rfl rfl, zw_mem (i := 995) rfl rfl, ⟨by decide +kernel, by decide +kernel, by decide +kernel⟩, zw_mem (i := 994) rfl rfl, kt_7, 5, rfl⟩
set_option maxRecDepth 100000 in
theorem km_La_75 : zl_V "StripMixerLaw" 75 ky_Mx_meter kc_Mx_meter 3 ((some .long)) 2 7 := ⟨Or.inl (zw_mem (i := 999) rfl rfl), zw_mem (i := 1000) rfl rfl, zw_mem (i := 32) rfl rfl, zw_mem (i := 1002) rfl rfl, ⟨by decide +kernel, by decide +kernel, by decide +kernel⟩, zw_mem (i := 1001) rfl rfl, kt_7, 5, rfl⟩
set_option maxRecDepth 100000 in
theorem km_Mx_176 : zl_V "StripMixer" 176 ky_St_peak kc_St_peak 5 ((some .int)) 2 5 := ⟨Or.inl (zw_mem (i := 1003) rfl rfl), zw_mem (i := 1004) rfl rfl, zw_mem (i := 36) rfl rfl, zw_mem (i := 1006) rfl rfl, ⟨by decide +kernel, by decide +kernel, by decide +kernel⟩, zw_mem (i := 1005) rfl rfl, kt_5, 9, rfl⟩
set_option maxRecDepth 100000 in
theorem km_Mx_180 : zl_V "StripMixer" 180 ky_St_power kc_St_power 6 ((some .long)) 2 5 := ⟨Or.inl (zw_mem (i := 1009) rfl rfl), zw_mem (i := 1010) rfl rfl, zw_mem (i := 36) rfl rfl, zw_mem (i := 1012) rfl rfl, ⟨by decide +kernel, by decide +kernel, by decide +kernel⟩, zw_mem (i := 1011) rfl rfl, kt_5, 9, rfl⟩
set_option maxRecDepth 100000 in
theorem km_Mx_184 : zl_V "StripMixer" 184 ky_St_overs kc_St_overs 5 ((some .int)) 2 5 := ⟨Or.inl (zw_mem (i := 1013) rfl rfl), zw_mem (i := 1014) rfl rfl, zw_mem (i := 36) rfl rfl, zw_mem (i := 1016) rfl rfl, ⟨by decide +kernel, by decide +kernel, by decide +kernel⟩, zw_mem (i := 1015) rfl rfl, kt_5, 9, rfl⟩
set_option maxRecDepth 100000 in
theorem km_St_78 : zl_S "StripMixer$Strip" 78 ky_Mx_within kc_Mx_within 3 ((some .boolean)) 3 := ⟨Or.inr ⟨"StripMixer", zw_memN (i := 1017) rfl rfl⟩, zw_mem (i := 273) rfl rfl, zw_mem (i := 32) rfl rfl, zw_mem (i := 274) rfl rfl, ⟨by decide +kernel, by decide +kernel, by decide +kernel⟩⟩
set_option maxRecDepth 100000 in
theorem km_La_79 : zl_V "StripMixerLaw" 79 ky_Mx_bounce kc_Mx_bounce 5 ((some .int)) 3 7 := ⟨Or.inl (zw_mem (i := 1021) rfl rfl), zw_mem (i := 1022) rfl rfl, zw_mem (i := 32) rfl rfl, zw_mem (i := 1024) rfl rfl, ⟨by decide +kernel, by decide +kernel, by decide +kernel⟩, zw_mem (i := 1023) rfl rfl, kt_7, 5, rfl⟩
set_option maxRecDepth 100000 in
theorem km_Mx_196 : zl_V "StripMixer" 196 ky_Mx_leastOpenTake kc_Mx_leastOpenTake 2 ((some .int)) 0 7 := ⟨Or.inl (zw_mem (i := 1025) rfl rfl), zw_mem (i := 1027) rfl rfl, zw_mem (i := 32) rfl rfl, zw_mem (i := 1028) rfl rfl, ⟨by decide +kernel, by decide +kernel, by decide +kernel⟩, zw_mem (i := 12) rfl rfl, kt_7, 5, rfl⟩
set_option maxRecDepth 100000 in
theorem km_Mx_199 : zl_V "StripMixer" 199 ky_Ta_record kc_Ta_record 5 (none) 3 6 := ⟨Or.inl (zw_mem (i := 1029) rfl rfl), zw_mem (i := 1030) rfl rfl, zw_mem (i := 39) rfl rfl, zw_mem (i := 1032) rfl rfl, ⟨by decide +kernel, by decide +kernel, by decide +kernel⟩, zw_mem (i := 1031) rfl rfl, kt_6, 2, rfl⟩
set_option maxRecDepth 100000 in
theorem km_La_95 : zl_V "StripMixerLaw" 95 ky_Mo_thrown kc_Mo_thrown 1 ((some .int)) 0 8 := ⟨Or.inl (zw_mem (i := 1138) rfl rfl), zw_mem (i := 1139) rfl rfl, zw_mem (i := 40) rfl rfl, zw_mem (i := 1141) rfl rfl, ⟨by decide +kernel, by decide +kernel, by decide +kernel⟩, zw_mem (i := 1140) rfl rfl, kt_8, 32, rfl⟩
set_option maxRecDepth 100000 in
theorem km_La_94 : zl_V "StripMixerLaw" 94 ky_Mo_samples kc_Mo_samples 7 (none) 3 8 := ⟨Or.inl (zw_mem (i := 1142) rfl rfl), zw_mem (i := 1143) rfl rfl, zw_mem (i := 40) rfl rfl, zw_mem (i := 1145) rfl rfl, ⟨by decide +kernel, by decide +kernel, by decide +kernel⟩, zw_mem (i := 1144) rfl rfl, kt_8, 32, rfl⟩
set_option maxRecDepth 100000 in
theorem km_La_102 : zl_V "StripMixerLaw" 102 ky_Mo_seal kc_Mo_seal 3 (none) 2 8 := ⟨Or.inl (zw_mem (i := 1148) rfl rfl), zw_mem (i := 1149) rfl rfl, zw_mem (i := 40) rfl rfl, zw_mem (i := 1151) rfl rfl, ⟨by decide +kernel, by decide +kernel, by decide +kernel⟩, zw_mem (i := 1150) rfl rfl, kt_8, 32, rfl⟩
set_option maxRecDepth 100000 in
theorem km_La_106 : zl_V "StripMixerLaw" 106 ky_Mo_take kc_Mo_take 5 ((some .int)) 2 8 := ⟨Or.inl (zw_mem (i := 1152) rfl rfl), zw_mem (i := 1153) rfl rfl, zw_mem (i := 40) rfl rfl, zw_mem (i := 1155) rfl rfl, ⟨by decide +kernel, by decide +kernel, by decide +kernel⟩, zw_mem (i := 1154) rfl rfl, kt_8, 32, rfl⟩
set_option maxRecDepth 100000 in
theorem km_La_110 : zl_V "StripMixerLaw" 110 ky_Mo_clip kc_Mo_clip 8 ((some .int)) 5 8 := ⟨Or.inl (zw_mem (i := 1156) rfl rfl), zw_mem (i := 1157) rfl rfl, zw_mem (i := 40) rfl rfl, zw_mem (i := 1159) rfl rfl, ⟨by decide +kernel, by decide +kernel, by decide +kernel⟩, zw_mem (i := 1158) rfl rfl, kt_8, 32, rfl⟩
set_option maxRecDepth 100000 in
theorem km_Mo_118 : zl_V "StripMixerModel" 118 ky_Mo_freeClip kc_Mo_freeClip 2 ((some .int)) 0 8 := ⟨Or.inl (zw_mem (i := 1160) rfl rfl), zw_mem (i := 1162) rfl rfl, zw_mem (i := 40) rfl rfl, zw_mem (i := 1163) rfl rfl, ⟨by decide +kernel, by decide +kernel, by decide +kernel⟩, zw_mem (i := 13) rfl rfl, kt_8, 32, rfl⟩
set_option maxRecDepth 100000 in
theorem km_Mo_122 : zl_V "StripMixerModel" 122 ky_Mo_isTaken kc_Mo_isTaken 7 ((some .boolean)) 4 8 := ⟨Or.inl (zw_mem (i := 1164) rfl rfl), zw_mem (i := 1166) rfl rfl, zw_mem (i := 40) rfl rfl, zw_mem (i := 1167) rfl rfl, ⟨by decide +kernel, by decide +kernel, by decide +kernel⟩, zw_mem (i := 14) rfl rfl, kt_8, 32, rfl⟩
set_option maxRecDepth 100000 in
theorem km_La_114 : zl_V "StripMixerLaw" 114 ky_Mo_drop kc_Mo_drop 2 (none) 1 8 := ⟨Or.inl (zw_mem (i := 1168) rfl rfl), zw_mem (i := 1169) rfl rfl, zw_mem (i := 40) rfl rfl, zw_mem (i := 1171) rfl rfl, ⟨by decide +kernel, by decide +kernel, by decide +kernel⟩, zw_mem (i := 1170) rfl rfl, kt_8, 32, rfl⟩
set_option maxRecDepth 100000 in
theorem km_Mo_126 : zl_V "StripMixerModel" 126 ky_Mo_noClip kc_Mo_noClip 2 ((some .boolean)) 1 8 := ⟨Or.inl (zw_mem (i := 1172) rfl rfl), zw_mem (i := 1174) rfl rfl, zw_mem (i := 40) rfl rfl, zw_mem (i := 1175) rfl rfl, ⟨by decide +kernel, by decide +kernel, by decide +kernel⟩, zw_mem (i := 15) rfl rfl, kt_8, 32, rfl⟩
set_option maxRecDepth 100000 in
theorem km_La_118 : zl_V "StripMixerLaw" 118 ky_Mo_move kc_Mo_move 4 ((some .boolean)) 3 8 := ⟨Or.inl (zw_mem (i := 1176) rfl rfl), zw_mem (i := 1177) rfl rfl, zw_mem (i := 40) rfl rfl, zw_mem (i := 1179) rfl rfl, ⟨by decide +kernel, by decide +kernel, by decide +kernel⟩, zw_mem (i := 1178) rfl rfl, kt_8, 32, rfl⟩
set_option maxRecDepth 100000 in
theorem km_La_121 : zl_V "StripMixerLaw" 121 ky_Mo_split kc_Mo_split 4 ((some .int)) 2 8 := ⟨Or.inl (zw_mem (i := 1180) rfl rfl), zw_mem (i := 1181) rfl rfl, zw_mem (i := 40) rfl rfl, zw_mem (i := 1183) rfl rfl, ⟨by decide +kernel, by decide +kernel, by decide +kernel⟩, zw_mem (i := 1182) rfl rfl, kt_8, 32, rfl⟩
set_option maxRecDepth 100000 in
theorem km_La_125 : zl_V "StripMixerLaw" 125 ky_Mo_shape kc_Mo_shape 6 (none) 4 8 := ⟨Or.inl (zw_mem (i := 1184) rfl rfl), zw_mem (i := 1185) rfl rfl, zw_mem (i := 40) rfl rfl, zw_mem (i := 1187) rfl rfl, ⟨by decide +kernel, by decide +kernel, by decide +kernel⟩, zw_mem (i := 1186) rfl rfl, kt_8, 32, rfl⟩
set_option maxRecDepth 100000 in
theorem km_Mo_130 : zl_S "StripMixerModel" 130 ky_Mo_noLevel kc_Mo_noLevel 1 ((some .boolean)) 1 := ⟨Or.inl (zw_mem (i := 1188) rfl rfl), zw_mem (i := 1189) rfl rfl, zw_mem (i := 40) rfl rfl, zw_mem (i := 1190) rfl rfl, ⟨by decide +kernel, by decide +kernel, by decide +kernel⟩⟩
set_option maxRecDepth 100000 in
theorem km_La_128 : zl_V "StripMixerLaw" 128 ky_Mo_route kc_Mo_route 4 ((some .boolean)) 2 8 := ⟨Or.inl (zw_mem (i := 1191) rfl rfl), zw_mem (i := 1192) rfl rfl, zw_mem (i := 40) rfl rfl, zw_mem (i := 1194) rfl rfl, ⟨by decide +kernel, by decide +kernel, by decide +kernel⟩, zw_mem (i := 1193) rfl rfl, kt_8, 32, rfl⟩
set_option maxRecDepth 100000 in
theorem km_Mo_137 : zl_V "StripMixerModel" 137 ky_Mo_findReach kc_Mo_findReach 3 (none) 0 8 := ⟨Or.inl (zw_mem (i := 1195) rfl rfl), zw_mem (i := 1197) rfl rfl, zw_mem (i := 40) rfl rfl, zw_mem (i := 1198) rfl rfl, ⟨by decide +kernel, by decide +kernel, by decide +kernel⟩, zw_mem (i := 16) rfl rfl, kt_8, 32, rfl⟩
set_option maxRecDepth 100000 in
theorem km_Mo_133 : zl_V "StripMixerModel" 133 ky_Mo_feeds kc_Mo_feeds 3 ((some .boolean)) 2 8 := ⟨Or.inl (zw_mem (i := 1199) rfl rfl), zw_mem (i := 1201) rfl rfl, zw_mem (i := 40) rfl rfl, zw_mem (i := 1202) rfl rfl, ⟨by decide +kernel, by decide +kernel, by decide +kernel⟩, zw_mem (i := 17) rfl rfl, kt_8, 32, rfl⟩
set_option maxRecDepth 100000 in
theorem km_La_131 : zl_V "StripMixerLaw" 131 ky_Mo_send kc_Mo_send 5 ((some .boolean)) 3 8 := ⟨Or.inl (zw_mem (i := 1203) rfl rfl), zw_mem (i := 1204) rfl rfl, zw_mem (i := 40) rfl rfl, zw_mem (i := 1206) rfl rfl, ⟨by decide +kernel, by decide +kernel, by decide +kernel⟩, zw_mem (i := 1205) rfl rfl, kt_8, 32, rfl⟩
set_option maxRecDepth 100000 in
theorem km_La_135 : zl_V "StripMixerLaw" 135 ky_Mo_effect kc_Mo_effect 6 (none) 5 8 := ⟨Or.inl (zw_mem (i := 1207) rfl rfl), zw_mem (i := 1208) rfl rfl, zw_mem (i := 40) rfl rfl, zw_mem (i := 1210) rfl rfl, ⟨by decide +kernel, by decide +kernel, by decide +kernel⟩, zw_mem (i := 1209) rfl rfl, kt_8, 32, rfl⟩
set_option maxRecDepth 100000 in
theorem km_Mo_141 : zl_S "StripMixerModel" 141 ky_Mo_noStrip kc_Mo_noStrip 1 ((some .boolean)) 1 := ⟨Or.inl (zw_mem (i := 1211) rfl rfl), zw_mem (i := 1212) rfl rfl, zw_mem (i := 40) rfl rfl, zw_mem (i := 1213) rfl rfl, ⟨by decide +kernel, by decide +kernel, by decide +kernel⟩⟩
set_option maxRecDepth 100000 in
theorem km_Mo_144 : zl_S "StripMixerModel" 144 ky_Mo_isOff kc_Mo_isOff 3 ((some .boolean)) 3 := ⟨Or.inl (zw_mem (i := 1214) rfl rfl), zw_mem (i := 1215) rfl rfl, zw_mem (i := 40) rfl rfl, zw_mem (i := 1216) rfl rfl, ⟨by decide +kernel, by decide +kernel, by decide +kernel⟩⟩
set_option maxRecDepth 100000 in
theorem km_La_138 : zl_V "StripMixerLaw" 138 ky_Mo_fader kc_Mo_fader 3 (none) 2 8 := ⟨Or.inl (zw_mem (i := 1218) rfl rfl), zw_mem (i := 1219) rfl rfl, zw_mem (i := 40) rfl rfl, zw_mem (i := 1221) rfl rfl, ⟨by decide +kernel, by decide +kernel, by decide +kernel⟩, zw_mem (i := 1220) rfl rfl, kt_8, 32, rfl⟩
set_option maxRecDepth 100000 in
theorem km_La_142 : zl_V "StripMixerLaw" 142 ky_Mo_point kc_Mo_point 9 ((some .boolean)) 4 8 := ⟨Or.inl (zw_mem (i := 1222) rfl rfl), zw_mem (i := 1223) rfl rfl, zw_mem (i := 40) rfl rfl, zw_mem (i := 1225) rfl rfl, ⟨by decide +kernel, by decide +kernel, by decide +kernel⟩, zw_mem (i := 1224) rfl rfl, kt_8, 32, rfl⟩
set_option maxRecDepth 100000 in
theorem km_La_145 : zl_V "StripMixerLaw" 145 ky_Mo_turn kc_Mo_turn 5 ((some .int)) 2 8 := ⟨Or.inl (zw_mem (i := 1226) rfl rfl), zw_mem (i := 1227) rfl rfl, zw_mem (i := 40) rfl rfl, zw_mem (i := 1229) rfl rfl, ⟨by decide +kernel, by decide +kernel, by decide +kernel⟩, zw_mem (i := 1228) rfl rfl, kt_8, 32, rfl⟩
set_option maxRecDepth 100000 in
theorem km_La_148 : zl_V "StripMixerLaw" 148 ky_Mo_render kc_Mo_render 3 (none) 2 8 := ⟨Or.inl (zw_mem (i := 1230) rfl rfl), zw_mem (i := 1231) rfl rfl, zw_mem (i := 40) rfl rfl, zw_mem (i := 1233) rfl rfl, ⟨by decide +kernel, by decide +kernel, by decide +kernel⟩, zw_mem (i := 1232) rfl rfl, kt_8, 32, rfl⟩
set_option maxRecDepth 100000 in
theorem km_Mo_200 : zl_S "StripMixerModel" 200 ky_Mo_noBlock kc_Mo_noBlock 2 ((some .boolean)) 2 := ⟨Or.inl (zw_mem (i := 1234) rfl rfl), zw_mem (i := 1235) rfl rfl, zw_mem (i := 40) rfl rfl, zw_mem (i := 1236) rfl rfl, ⟨by decide +kernel, by decide +kernel, by decide +kernel⟩⟩
set_option maxRecDepth 100000 in
theorem km_Mo_203 : zl_V "StripMixerModel" 203 ky_Mo_renderAll kc_Mo_renderAll 5 (none) 2 8 := ⟨Or.inl (zw_mem (i := 1237) rfl rfl), zw_mem (i := 1239) rfl rfl, zw_mem (i := 40) rfl rfl, zw_mem (i := 1240) rfl rfl, ⟨by decide +kernel, by decide +kernel, by decide +kernel⟩, zw_mem (i := 18) rfl rfl, kt_8, 32, rfl⟩
set_option maxRecDepth 100000 in
theorem km_Mo_188 : zl_V "StripMixerModel" 188 ky_Mo_findDelays kc_Mo_findDelays 4 (none) 0 8 := ⟨Or.inl (zw_mem (i := 1241) rfl rfl), zw_mem (i := 1243) rfl rfl, zw_mem (i := 40) rfl rfl, zw_mem (i := 1244) rfl rfl, ⟨by decide +kernel, by decide +kernel, by decide +kernel⟩, zw_mem (i := 19) rfl rfl, kt_8, 32, rfl⟩
set_option maxRecDepth 100000 in
theorem km_Mo_155 : zl_V "StripMixerModel" 155 ky_Mo_delayIn kc_Mo_delayIn 4 ((some .int)) 1 8 := ⟨Or.inl (zw_mem (i := 1245) rfl rfl), zw_mem (i := 1247) rfl rfl, zw_mem (i := 40) rfl rfl, zw_mem (i := 1248) rfl rfl, ⟨by decide +kernel, by decide +kernel, by decide +kernel⟩, zw_mem (i := 20) rfl rfl, kt_8, 32, rfl⟩
set_option maxRecDepth 100000 in
theorem km_Mo_191 : zl_V "StripMixerModel" 191 ky_Mo_isReady kc_Mo_isReady 4 ((some .boolean)) 1 8 := ⟨Or.inl (zw_mem (i := 1249) rfl rfl), zw_mem (i := 1251) rfl rfl, zw_mem (i := 40) rfl rfl, zw_mem (i := 1252) rfl rfl, ⟨by decide +kernel, by decide +kernel, by decide +kernel⟩, zw_mem (i := 21) rfl rfl, kt_8, 32, rfl⟩
set_option maxRecDepth 100000 in
theorem km_Mo_194 : zl_V "StripMixerModel" 194 ky_Mo_workOut kc_Mo_workOut 5 (none) 2 8 := ⟨Or.inl (zw_mem (i := 1253) rfl rfl), zw_mem (i := 1255) rfl rfl, zw_mem (i := 40) rfl rfl, zw_mem (i := 1256) rfl rfl, ⟨by decide +kernel, by decide +kernel, by decide +kernel⟩, zw_mem (i := 22) rfl rfl, kt_8, 32, rfl⟩
set_option maxRecDepth 100000 in
theorem km_Mo_171 : zl_V "StripMixerModel" 171 ky_Mo_trackIn kc_Mo_trackIn 5 (none) 2 8 := ⟨Or.inl (zw_mem (i := 1257) rfl rfl), zw_mem (i := 1259) rfl rfl, zw_mem (i := 40) rfl rfl, zw_mem (i := 1260) rfl rfl, ⟨by decide +kernel, by decide +kernel, by decide +kernel⟩, zw_mem (i := 23) rfl rfl, kt_8, 32, rfl⟩
set_option maxRecDepth 100000 in
theorem km_Mo_151 : zl_V "StripMixerModel" 151 ky_Mo_clipSample kc_Mo_clipSample 5 ((some .long)) 2 8 := ⟨Or.inl (zw_mem (i := 1261) rfl rfl), zw_mem (i := 1263) rfl rfl, zw_mem (i := 40) rfl rfl, zw_mem (i := 1264) rfl rfl, ⟨by decide +kernel, by decide +kernel, by decide +kernel⟩, zw_mem (i := 24) rfl rfl, kt_8, 32, rfl⟩
set_option maxRecDepth 100000 in
theorem km_Mo_148 : zl_S "StripMixerModel" 148 ky_Mo_by kc_Mo_by 4 ((some .long)) 2 := ⟨Or.inl (zw_mem (i := 1265) rfl rfl), zw_mem (i := 1266) rfl rfl, zw_mem (i := 40) rfl rfl, zw_mem (i := 1267) rfl rfl, ⟨by decide +kernel, by decide +kernel, by decide +kernel⟩⟩
set_option maxRecDepth 100000 in
theorem km_Mo_111 : zl_S "StripMixerModel" 111 ky_Mo_down kc_Mo_down 6 ((some .long)) 2 := ⟨Or.inl (zw_mem (i := 1269) rfl rfl), zw_mem (i := 1270) rfl rfl, zw_mem (i := 40) rfl rfl, zw_mem (i := 1271) rfl rfl, ⟨by decide +kernel, by decide +kernel, by decide +kernel⟩⟩
set_option maxRecDepth 100000 in
theorem km_Mo_175 : zl_V "StripMixerModel" 175 ky_Mo_mixIn kc_Mo_mixIn 11 (none) 2 8 := ⟨Or.inl (zw_mem (i := 1272) rfl rfl), zw_mem (i := 1274) rfl rfl, zw_mem (i := 40) rfl rfl, zw_mem (i := 1275) rfl rfl, ⟨by decide +kernel, by decide +kernel, by decide +kernel⟩, zw_mem (i := 25) rfl rfl, kt_8, 32, rfl⟩
set_option maxRecDepth 100000 in
theorem km_Mo_159 : zl_S "StripMixerModel" 159 ky_Mo_cut kc_Mo_cut 2 ((some .int)) 1 := ⟨Or.inl (zw_mem (i := 1276) rfl rfl), zw_mem (i := 1277) rfl rfl, zw_mem (i := 40) rfl rfl, zw_mem (i := 1278) rfl rfl, ⟨by decide +kernel, by decide +kernel, by decide +kernel⟩⟩
set_option maxRecDepth 100000 in
theorem km_Mo_178 : zl_V "StripMixerModel" 178 ky_Mo_work kc_Mo_work 10 (none) 4 8 := ⟨Or.inl (zw_mem (i := 1281) rfl rfl), zw_mem (i := 1283) rfl rfl, zw_mem (i := 40) rfl rfl, zw_mem (i := 1284) rfl rfl, ⟨by decide +kernel, by decide +kernel, by decide +kernel⟩, zw_mem (i := 26) rfl rfl, kt_8, 32, rfl⟩
set_option maxRecDepth 100000 in
theorem km_Mo_167 : zl_V "StripMixerModel" 167 ky_Mo_limited kc_Mo_limited 8 ((some .long)) 3 8 := ⟨Or.inl (zw_mem (i := 1285) rfl rfl), zw_mem (i := 1287) rfl rfl, zw_mem (i := 40) rfl rfl, zw_mem (i := 1288) rfl rfl, ⟨by decide +kernel, by decide +kernel, by decide +kernel⟩, zw_mem (i := 27) rfl rfl, kt_8, 32, rfl⟩
set_option maxRecDepth 100000 in
theorem km_Mo_163 : zl_V "StripMixerModel" 163 ky_Mo_size kc_Mo_size 2 ((some .long)) 1 8 := ⟨Or.inl (zw_mem (i := 1289) rfl rfl), zw_mem (i := 1291) rfl rfl, zw_mem (i := 40) rfl rfl, zw_mem (i := 1292) rfl rfl, ⟨by decide +kernel, by decide +kernel, by decide +kernel⟩, zw_mem (i := 28) rfl rfl, kt_8, 32, rfl⟩
set_option maxRecDepth 100000 in
theorem km_Mo_182 : zl_V "StripMixerModel" 182 ky_Mo_isHeard kc_Mo_isHeard 5 ((some .boolean)) 1 8 := ⟨Or.inl (zw_mem (i := 1293) rfl rfl), zw_mem (i := 1295) rfl rfl, zw_mem (i := 40) rfl rfl, zw_mem (i := 1296) rfl rfl, ⟨by decide +kernel, by decide +kernel, by decide +kernel⟩, zw_mem (i := 29) rfl rfl, kt_8, 32, rfl⟩
set_option maxRecDepth 100000 in
theorem km_Mo_185 : zl_V "StripMixerModel" 185 ky_Mo_levelAt kc_Mo_levelAt 7 ((some .long)) 2 8 := ⟨Or.inl (zw_mem (i := 1297) rfl rfl), zw_mem (i := 1299) rfl rfl, zw_mem (i := 40) rfl rfl, zw_mem (i := 1300) rfl rfl, ⟨by decide +kernel, by decide +kernel, by decide +kernel⟩, zw_mem (i := 30) rfl rfl, kt_8, 32, rfl⟩
set_option maxRecDepth 100000 in
theorem km_La_151 : zl_V "StripMixerLaw" 151 ky_Mo_sample kc_Mo_sample 3 ((some .int)) 2 8 := ⟨Or.inl (zw_mem (i := 1301) rfl rfl), zw_mem (i := 1302) rfl rfl, zw_mem (i := 40) rfl rfl, zw_mem (i := 1304) rfl rfl, ⟨by decide +kernel, by decide +kernel, by decide +kernel⟩, zw_mem (i := 1303) rfl rfl, kt_8, 32, rfl⟩
set_option maxRecDepth 100000 in
theorem km_La_154 : zl_V "StripMixerLaw" 154 ky_Mo_meter kc_Mo_meter 10 ((some .long)) 2 8 := ⟨Or.inl (zw_mem (i := 1305) rfl rfl), zw_mem (i := 1306) rfl rfl, zw_mem (i := 40) rfl rfl, zw_mem (i := 1308) rfl rfl, ⟨by decide +kernel, by decide +kernel, by decide +kernel⟩, zw_mem (i := 1307) rfl rfl, kt_8, 32, rfl⟩
set_option maxRecDepth 100000 in
theorem km_La_157 : zl_V "StripMixerLaw" 157 ky_Mo_bounce kc_Mo_bounce 7 ((some .int)) 3 8 := ⟨Or.inl (zw_mem (i := 1311) rfl rfl), zw_mem (i := 1312) rfl rfl, zw_mem (i := 40) rfl rfl, zw_mem (i := 1314) rfl rfl, ⟨by decide +kernel, by decide +kernel, by decide +kernel⟩, zw_mem (i := 1313) rfl rfl, kt_8, 32, rfl⟩

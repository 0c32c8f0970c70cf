/-! Names: classes, fields, code. Printed by wip/whole/gen/mknames.py out of the claim. -/
def kt_0 : u_T := fun k => match k with
  | 0 => ("StripMixer$Clip", "take", "LStripMixer$Take;", false)
  | 1 => ("StripMixer$Clip", "track", "I", false)
  | 2 => ("StripMixer$Clip", "at", "I", false)
  | 3 => ("StripMixer$Clip", "from", "I", false)
  | 4 => ("StripMixer$Clip", "length", "I", false)
  | 5 => ("StripMixer$Clip", "level", "I", false)
  | 6 => ("StripMixer$Clip", "in", "I", false)
  | _ => ("StripMixer$Clip", "out", "I", false)
def kv_0 : Nat → FieldType := fun k => match k with
  | 0 => .object "StripMixer$Take"
  | 1 => .int
  | 2 => .int
  | 3 => .int
  | 4 => .int
  | 5 => .int
  | 6 => .int
  | _ => .int
theorem kn_0 : ∀ a, a < 8 → ∀ b, b < 8 → a ≠ b → (kt_0 a).2.1 ≠ (kt_0 b).2.1 := by decide +kernel
theorem ko_0 : ∀ k, k < 8 → parseFieldDescriptor (kt_0 k).2.2.1 = some (kv_0 k) := by decide +kernel
def kt_1 : u_T := fun k => match k with
  | 0 => ("StripMixer$Desk", "strips", "[LStripMixer$Strip;", true)
  | _ => ("StripMixer$Desk", "order", "[I", true)
def kv_1 : Nat → FieldType := fun k => match k with
  | 0 => .array (.object "StripMixer$Strip")
  | _ => .array .int
theorem kn_1 : ∀ a, a < 2 → ∀ b, b < 2 → a ≠ b → (kt_1 a).2.1 ≠ (kt_1 b).2.1 := by decide +kernel
theorem ko_1 : ∀ k, k < 2 → parseFieldDescriptor (kt_1 k).2.2.1 = some (kv_1 k) := by decide +kernel
def kt_2 : u_T := fun k => match k with
  | 0 => ("StripMixer$Effect", "past", "[I", true)
  | 1 => ("StripMixer$Effect", "kind", "I", false)
  | 2 => ("StripMixer$Effect", "p", "I", false)
  | 3 => ("StripMixer$Effect", "q", "I", false)
  | 4 => ("StripMixer$Effect", "place", "I", false)
  | _ => ("StripMixer$Effect", "memory", "I", false)
def kv_2 : Nat → FieldType := fun k => match k with
  | 0 => .array .int
  | 1 => .int
  | 2 => .int
  | 3 => .int
  | 4 => .int
  | _ => .int
theorem kn_2 : ∀ a, a < 6 → ∀ b, b < 6 → a ≠ b → (kt_2 a).2.1 ≠ (kt_2 b).2.1 := by decide +kernel
theorem ko_2 : ∀ k, k < 6 → parseFieldDescriptor (kt_2 k).2.2.1 = some (kv_2 k) := by decide +kernel
def kt_3 : u_T := fun k => match k with
  | 0 => ("StripMixer$Fader", "times", "[I", true)
  | 1 => ("StripMixer$Fader", "levels", "[I", true)
  | 2 => ("StripMixer$Fader", "joins", "[Z", true)
  | 3 => ("StripMixer$Fader", "count", "I", false)
  | _ => ("StripMixer$Fader", "rest", "I", false)
def kv_3 : Nat → FieldType := fun k => match k with
  | 0 => .array .int
  | 1 => .array .int
  | 2 => .array .boolean
  | 3 => .int
  | _ => .int
theorem kn_3 : ∀ a, a < 5 → ∀ b, b < 5 → a ≠ b → (kt_3 a).2.1 ≠ (kt_3 b).2.1 := by decide +kernel
theorem ko_3 : ∀ k, k < 5 → parseFieldDescriptor (kt_3 k).2.2.1 = some (kv_3 k) := by decide +kernel
def kt_4 : u_T := fun k => match k with
  | _ => ("StripMixer$Shelf", "clips", "[LStripMixer$Clip;", true)
def kv_4 : Nat → FieldType := fun k => match k with
  | _ => .array (.object "StripMixer$Clip")
theorem kn_4 : ∀ a, a < 1 → ∀ b, b < 1 → a ≠ b → (kt_4 a).2.1 ≠ (kt_4 b).2.1 := by decide +kernel
theorem ko_4 : ∀ k, k < 1 → parseFieldDescriptor (kt_4 k).2.2.1 = some (kv_4 k) := by decide +kernel
def kt_5 : u_T := fun k => match k with
  | 0 => ("StripMixer$Strip", "slots", "[LStripMixer$Effect;", true)
  | 1 => ("StripMixer$Strip", "fader", "LStripMixer$Fader;", true)
  | 2 => ("StripMixer$Strip", "sends", "[I", true)
  | 3 => ("StripMixer$Strip", "row", "[I", true)
  | 4 => ("StripMixer$Strip", "target", "I", false)
  | 5 => ("StripMixer$Strip", "muted", "Z", false)
  | 6 => ("StripMixer$Strip", "solo", "Z", false)
  | 7 => ("StripMixer$Strip", "delayIn", "I", false)
  | _ => ("StripMixer$Strip", "delay", "I", false)
def kv_5 : Nat → FieldType := fun k => match k with
  | 0 => .array (.object "StripMixer$Effect")
  | 1 => .object "StripMixer$Fader"
  | 2 => .array .int
  | 3 => .array .int
  | 4 => .int
  | 5 => .boolean
  | 6 => .boolean
  | 7 => .int
  | _ => .int
theorem kn_5 : ∀ a, a < 9 → ∀ b, b < 9 → a ≠ b → (kt_5 a).2.1 ≠ (kt_5 b).2.1 := by decide +kernel
theorem ko_5 : ∀ k, k < 9 → parseFieldDescriptor (kt_5 k).2.2.1 = some (kv_5 k) := by decide +kernel
def kt_6 : u_T := fun k => match k with
  | 0 => ("StripMixer$Take", "row", "[I", true)
  | _ => ("StripMixer$Take", "length", "I", false)
def kv_6 : Nat → FieldType := fun k => match k with
  | 0 => .array .int
  | _ => .int
theorem kn_6 : ∀ a, a < 2 → ∀ b, b < 2 → a ≠ b → (kt_6 a).2.1 ≠ (kt_6 b).2.1 := by decide +kernel
theorem ko_6 : ∀ k, k < 2 → parseFieldDescriptor (kt_6 k).2.2.1 = some (kv_6 k) := by decide +kernel
def kt_7 : u_T := fun k => match k with
  | 0 => ("StripMixer", "takes", "[LStripMixer$Take;", true)
  | 1 => ("StripMixer", "shelf", "LStripMixer$Shelf;", true)
  | 2 => ("StripMixer", "desk", "LStripMixer$Desk;", true)
  | 3 => ("StripMixer", "blockFrom", "I", false)
  | _ => ("StripMixer", "blockLength", "I", false)
def kv_7 : Nat → FieldType := fun k => match k with
  | 0 => .array (.object "StripMixer$Take")
  | 1 => .object "StripMixer$Shelf"
  | 2 => .object "StripMixer$Desk"
  | 3 => .int
  | _ => .int
theorem kn_7 : ∀ a, a < 5 → ∀ b, b < 5 → a ≠ b → (kt_7 a).2.1 ≠ (kt_7 b).2.1 := by decide +kernel
theorem ko_7 : ∀ k, k < 5 → parseFieldDescriptor (kt_7 k).2.2.1 = some (kv_7 k) := by decide +kernel
def kt_8 : u_T := fun k => match k with
  | 0 => ("StripMixerModel", "thrown", "I", false)
  | 1 => ("StripMixerModel", "takes", "[I", true)
  | 2 => ("StripMixerModel", "lengths", "[I", true)
  | 3 => ("StripMixerModel", "there", "[Z", true)
  | 4 => ("StripMixerModel", "trackOf", "[I", true)
  | 5 => ("StripMixerModel", "atOf", "[I", true)
  | 6 => ("StripMixerModel", "takeOf", "[I", true)
  | 7 => ("StripMixerModel", "fromOf", "[I", true)
  | 8 => ("StripMixerModel", "longOf", "[I", true)
  | 9 => ("StripMixerModel", "levelOf", "[I", true)
  | 10 => ("StripMixerModel", "inOf", "[I", true)
  | 11 => ("StripMixerModel", "outOf", "[I", true)
  | 12 => ("StripMixerModel", "routed", "[I", true)
  | 13 => ("StripMixerModel", "sends", "[I", true)
  | 14 => ("StripMixerModel", "kinds", "[I", true)
  | 15 => ("StripMixerModel", "ps", "[I", true)
  | 16 => ("StripMixerModel", "qs", "[I", true)
  | 17 => ("StripMixerModel", "faders", "[I", true)
  | 18 => ("StripMixerModel", "pointCounts", "[I", true)
  | 19 => ("StripMixerModel", "times", "[I", true)
  | 20 => ("StripMixerModel", "levels", "[I", true)
  | 21 => ("StripMixerModel", "joins", "[Z", true)
  | 22 => ("StripMixerModel", "muted", "[Z", true)
  | 23 => ("StripMixerModel", "solo", "[Z", true)
  | 24 => ("StripMixerModel", "reach", "[Z", true)
  | 25 => ("StripMixerModel", "delays", "[I", true)
  | 26 => ("StripMixerModel", "done", "[Z", true)
  | 27 => ("StripMixerModel", "outs", "[I", true)
  | 28 => ("StripMixerModel", "came", "[I", true)
  | 29 => ("StripMixerModel", "went", "[I", true)
  | 30 => ("StripMixerModel", "block", "[I", true)
  | _ => ("StripMixerModel", "blockSize", "I", false)
def kv_8 : Nat → FieldType := fun k => match k with
  | 0 => .int
  | 1 => .array .int
  | 2 => .array .int
  | 3 => .array .boolean
  | 4 => .array .int
  | 5 => .array .int
  | 6 => .array .int
  | 7 => .array .int
  | 8 => .array .int
  | 9 => .array .int
  | 10 => .array .int
  | 11 => .array .int
  | 12 => .array .int
  | 13 => .array .int
  | 14 => .array .int
  | 15 => .array .int
  | 16 => .array .int
  | 17 => .array .int
  | 18 => .array .int
  | 19 => .array .int
  | 20 => .array .int
  | 21 => .array .boolean
  | 22 => .array .boolean
  | 23 => .array .boolean
  | 24 => .array .boolean
  | 25 => .array .int
  | 26 => .array .boolean
  | 27 => .array .int
  | 28 => .array .int
  | 29 => .array .int
  | 30 => .array .int
  | _ => .int
theorem kn_8 : ∀ a, a < 32 → ∀ b, b < 32 → a ≠ b → (kt_8 a).2.1 ≠ (kt_8 b).2.1 := by decide +kernel
theorem ko_8 : ∀ k, k < 32 → parseFieldDescriptor (kt_8 k).2.2.1 = some (kv_8 k) := by decide +kernel
abbrev zc_cl : List vw_C := [("StripMixer$Clip", kt_0, 8), ("StripMixer$Desk", kt_1, 2), ("StripMixer$Effect", kt_2, 6), ("StripMixer$Fader", kt_3, 5), ("StripMixer$Shelf", kt_4, 1), ("StripMixer$Strip", kt_5, 9), ("StripMixer$Take", kt_6, 2), ("StripMixer", kt_7, 5), ("StripMixerModel", kt_8, 32)]
def zk_ty : Nat → FieldType
  | 0 => .int
  | 1 => .boolean
  | 2 => .long
  | 3 => .object "StripMixer$Take"
  | 4 => .object "StripMixer$Clip"
  | 5 => .object "StripMixer$Effect"
  | _ => .object "StripMixer$Strip"
/-- the tables' words that every later state has too -/
def zw_T : List Cond := lw_tbl.filter goodWord
theorem zw_T_good : ∀ w ∈ zw_T, w ∈ zw_T ∧ ((w.onTables && w.keeps) = true ∨ ∃ ty, w = .arrayClass ty) := fun w h => ⟨h, good_of_word (List.mem_filter.mp h).2⟩
theorem zw_mem {i : Nat} {w : Cond} (h : lw_tbl[i]? = some w) (hg : goodWord w = true) : w ∈ zw_T := List.mem_filter.mpr ⟨List.mem_of_getElem? h, hg⟩
/-- the words on private members of nest mates -/
def zw_isN : Cond → Bool
  | .fieldLinkNest .. => true
  | .methodLinkNest .. => true
  | _ => false
def zw_N : List Cond := lw_tbl.filter zw_isN
theorem zw_N_kind : ∀ w ∈ zw_N, zw_isN w = true := fun _ h => (List.mem_filter.mp h).2
theorem zw_memN {i : Nat} {w : Cond} (h : lw_tbl[i]? = some w) (hg : zw_isN w = true) : w ∈ zw_N := List.mem_filter.mpr ⟨List.mem_of_getElem? h, hg⟩
theorem ki_0 : ∀ w ∈ u_ws "StripMixer$Clip" kt_0 8, w ∈ zw_T := by
  intro w hw
  obtain ⟨k, hk, rfl⟩ := List.mem_map.mp hw
  have hk := List.mem_range.mp hk
  have h : ∀ k, k < 8 → lw_tbl[([96, 98, 100, 102, 104, 106, 108, 110] : List Nat).getD k 0]? = some (u_lay "StripMixer$Clip" kt_0 k) ∧ goodWord (u_lay "StripMixer$Clip" kt_0 k) = true := by decide +kernel
  exact zw_mem (h k hk).1 (h k hk).2
theorem ki_1 : ∀ w ∈ u_ws "StripMixer$Desk" kt_1 2, w ∈ zw_T := by
  intro w hw
  obtain ⟨k, hk, rfl⟩ := List.mem_map.mp hw
  have hk := List.mem_range.mp hk
  have h : ∀ k, k < 2 → lw_tbl[([227, 229] : List Nat).getD k 0]? = some (u_lay "StripMixer$Desk" kt_1 k) ∧ goodWord (u_lay "StripMixer$Desk" kt_1 k) = true := by decide +kernel
  exact zw_mem (h k hk).1 (h k hk).2
theorem ki_2 : ∀ w ∈ u_ws "StripMixer$Effect" kt_2 6, w ∈ zw_T := by
  intro w hw
  obtain ⟨k, hk, rfl⟩ := List.mem_map.mp hw
  have hk := List.mem_range.mp hk
  have h : ∀ k, k < 6 → lw_tbl[([169, 171, 173, 175, 177, 179] : List Nat).getD k 0]? = some (u_lay "StripMixer$Effect" kt_2 k) ∧ goodWord (u_lay "StripMixer$Effect" kt_2 k) = true := by decide +kernel
  exact zw_mem (h k hk).1 (h k hk).2
theorem ki_3 : ∀ w ∈ u_ws "StripMixer$Fader" kt_3 5, w ∈ zw_T := by
  intro w hw
  obtain ⟨k, hk, rfl⟩ := List.mem_map.mp hw
  have hk := List.mem_range.mp hk
  have h : ∀ k, k < 5 → lw_tbl[([145, 147, 149, 151, 153] : List Nat).getD k 0]? = some (u_lay "StripMixer$Fader" kt_3 k) ∧ goodWord (u_lay "StripMixer$Fader" kt_3 k) = true := by decide +kernel
  exact zw_mem (h k hk).1 (h k hk).2
theorem ki_4 : ∀ w ∈ u_ws "StripMixer$Shelf" kt_4 1, w ∈ zw_T := by
  intro w hw
  obtain ⟨k, hk, rfl⟩ := List.mem_map.mp hw
  have hk := List.mem_range.mp hk
  have h : ∀ k, k < 1 → lw_tbl[([115] : List Nat).getD k 0]? = some (u_lay "StripMixer$Shelf" kt_4 k) ∧ goodWord (u_lay "StripMixer$Shelf" kt_4 k) = true := by decide +kernel
  exact zw_mem (h k hk).1 (h k hk).2
theorem ki_5 : ∀ w ∈ u_ws "StripMixer$Strip" kt_5 9, w ∈ zw_T := by
  intro w hw
  obtain ⟨k, hk, rfl⟩ := List.mem_map.mp hw
  have hk := List.mem_range.mp hk
  have h : ∀ k, k < 9 → lw_tbl[([204, 206, 208, 210, 212, 214, 216, 218, 220] : List Nat).getD k 0]? = some (u_lay "StripMixer$Strip" kt_5 k) ∧ goodWord (u_lay "StripMixer$Strip" kt_5 k) = true := by decide +kernel
  exact zw_mem (h k hk).1 (h k hk).2
theorem ki_6 : ∀ w ∈ u_ws "StripMixer$Take" kt_6 2, w ∈ zw_T := by
  intro w hw
  obtain ⟨k, hk, rfl⟩ := List.mem_map.mp hw
  have hk := List.mem_range.mp hk
  have h : ∀ k, k < 2 → lw_tbl[([242, 244] : List Nat).getD k 0]? = some (u_lay "StripMixer$Take" kt_6 k) ∧ goodWord (u_lay "StripMixer$Take" kt_6 k) = true := by decide +kernel
  exact zw_mem (h k hk).1 (h k hk).2
theorem ki_7 : ∀ w ∈ u_ws "StripMixer" kt_7 5, w ∈ zw_T := by
  intro w hw
  obtain ⟨k, hk, rfl⟩ := List.mem_map.mp hw
  have hk := List.mem_range.mp hk
  have h : ∀ k, k < 5 → lw_tbl[([252, 254, 256, 258, 260] : List Nat).getD k 0]? = some (u_lay "StripMixer" kt_7 k) ∧ goodWord (u_lay "StripMixer" kt_7 k) = true := by decide +kernel
  exact zw_mem (h k hk).1 (h k hk).2
theorem ki_8 : ∀ w ∈ u_ws "StripMixerModel" kt_8 32, w ∈ zw_T := by
  intro w hw
  obtain ⟨k, hk, rfl⟩ := List.mem_map.mp hw
  have hk := List.mem_range.mp hk
  have h : ∀ k, k < 32 → lw_tbl[([1073, 1075, 1077, 1079, 1081, 1083, 1085, 1087, 1089, 1091, 1093, 1095, 1097, 1099, 1101, 1103, 1105, 1107, 1109, 1111, 1113, 1115, 1117, 1119, 1121, 1123, 1125, 1127, 1129, 1131, 1133, 1135] : List Nat).getD k 0]? = some (u_lay "StripMixerModel" kt_8 k) ∧ goodWord (u_lay "StripMixerModel" kt_8 k) = true := by decide +kernel
  exact zw_mem (h k hk).1 (h k hk).2
abbrev kc_Mx_init : ByteArray := prog_1_method_1_code
def ky_Mx_init : MethodName := ⟨"StripMixer", "<init>", "()V"⟩
abbrev kc_Mx_samples : ByteArray := prog_1_method_2_code
def ky_Mx_samples : MethodName := ⟨"StripMixer", "samples", "(IIJ)V"⟩
abbrev kc_Mx_seal : ByteArray := prog_1_method_3_code
def ky_Mx_seal : MethodName := ⟨"StripMixer", "seal", "(II)V"⟩
abbrev kc_Mx_take : ByteArray := prog_1_method_4_code
def ky_Mx_take : MethodName := ⟨"StripMixer", "take", "(II)I"⟩
abbrev kc_Mx_clip : ByteArray := prog_1_method_5_code
def ky_Mx_clip : MethodName := ⟨"StripMixer", "clip", "(IIIII)I"⟩
abbrev kc_Mx_drop : ByteArray := prog_1_method_6_code
def ky_Mx_drop : MethodName := ⟨"StripMixer", "drop", "(I)V"⟩
abbrev kc_Mx_move : ByteArray := prog_1_method_7_code
def ky_Mx_move : MethodName := ⟨"StripMixer", "move", "(III)Z"⟩
abbrev kc_Mx_split : ByteArray := prog_1_method_8_code
def ky_Mx_split : MethodName := ⟨"StripMixer", "split", "(II)I"⟩
abbrev kc_Mx_shape : ByteArray := prog_1_method_9_code
def ky_Mx_shape : MethodName := ⟨"StripMixer", "shape", "(IIII)V"⟩
abbrev kc_Mx_route : ByteArray := prog_1_method_10_code
def ky_Mx_route : MethodName := ⟨"StripMixer", "route", "(II)Z"⟩
abbrev kc_Mx_send : ByteArray := prog_1_method_11_code
def ky_Mx_send : MethodName := ⟨"StripMixer", "send", "(III)Z"⟩
abbrev kc_Mx_effect : ByteArray := prog_1_method_12_code
def ky_Mx_effect : MethodName := ⟨"StripMixer", "effect", "(IIIII)V"⟩
abbrev kc_Mx_fader : ByteArray := prog_1_method_13_code
def ky_Mx_fader : MethodName := ⟨"StripMixer", "fader", "(II)V"⟩
abbrev kc_Mx_point : ByteArray := prog_1_method_14_code
def ky_Mx_point : MethodName := ⟨"StripMixer", "point", "(IIIZ)Z"⟩
abbrev kc_Mx_turn : ByteArray := prog_1_method_15_code
def ky_Mx_turn : MethodName := ⟨"StripMixer", "turn", "(II)I"⟩
abbrev kc_Mx_render : ByteArray := prog_1_method_16_code
def ky_Mx_render : MethodName := ⟨"StripMixer", "render", "(II)V"⟩
abbrev kc_Mx_sample : ByteArray := prog_1_method_17_code
def ky_Mx_sample : MethodName := ⟨"StripMixer", "sample", "(II)I"⟩
abbrev kc_Mx_meter : ByteArray := prog_1_method_18_code
def ky_Mx_meter : MethodName := ⟨"StripMixer", "meter", "(II)J"⟩
abbrev kc_Mx_bounce : ByteArray := prog_1_method_19_code
def ky_Mx_bounce : MethodName := ⟨"StripMixer", "bounce", "(III)I"⟩
abbrev kc_Mx_leastOpenTake : ByteArray := prog_1_method_20_code
def ky_Mx_leastOpenTake : MethodName := ⟨"StripMixer", "leastOpenTake", "()I"⟩
abbrev kc_Mx_playBlock : ByteArray := prog_1_method_21_code
def ky_Mx_playBlock : MethodName := ⟨"StripMixer", "playBlock", "(II)V"⟩
abbrev kc_Mx_isStrip : ByteArray := prog_1_method_22_code
def ky_Mx_isStrip : MethodName := ⟨"StripMixer", "isStrip", "(I)Z"⟩
abbrev kc_Mx_isLevel : ByteArray := prog_1_method_23_code
def ky_Mx_isLevel : MethodName := ⟨"StripMixer", "isLevel", "(I)Z"⟩
abbrev kc_Mx_isBlock : ByteArray := prog_1_method_24_code
def ky_Mx_isBlock : MethodName := ⟨"StripMixer", "isBlock", "(II)Z"⟩
abbrev kc_Mx_within : ByteArray := prog_1_method_25_code
def ky_Mx_within : MethodName := ⟨"StripMixer", "within", "(III)Z"⟩
abbrev kc_Mx_atLevel : ByteArray := prog_1_method_26_code
def ky_Mx_atLevel : MethodName := ⟨"StripMixer", "atLevel", "(II)I"⟩
abbrev kc_Mx_cut : ByteArray := prog_1_method_27_code
def ky_Mx_cut : MethodName := ⟨"StripMixer", "cut", "(I)I"⟩
abbrev kc_Mo_init : ByteArray := prog_10_method_1_code
def ky_Mo_init : MethodName := ⟨"StripMixerModel", "<init>", "()V"⟩
abbrev kc_Mo_thrown : ByteArray := prog_10_method_2_code
def ky_Mo_thrown : MethodName := ⟨"StripMixerModel", "thrown", "()I"⟩
abbrev kc_Mo_cut : ByteArray := prog_10_method_3_code
def ky_Mo_cut : MethodName := ⟨"StripMixerModel", "cut", "(J)I"⟩
abbrev kc_Mo_down : ByteArray := prog_10_method_4_code
def ky_Mo_down : MethodName := ⟨"StripMixerModel", "down", "(JJ)J"⟩
abbrev kc_Mo_by : ByteArray := prog_10_method_5_code
def ky_Mo_by : MethodName := ⟨"StripMixerModel", "by", "(JJ)J"⟩
abbrev kc_Mo_noLevel : ByteArray := prog_10_method_6_code
def ky_Mo_noLevel : MethodName := ⟨"StripMixerModel", "noLevel", "(I)Z"⟩
abbrev kc_Mo_samples : ByteArray := prog_10_method_7_code
def ky_Mo_samples : MethodName := ⟨"StripMixerModel", "samples", "(IIJ)V"⟩
abbrev kc_Mo_seal : ByteArray := prog_10_method_8_code
def ky_Mo_seal : MethodName := ⟨"StripMixerModel", "seal", "(II)V"⟩
abbrev kc_Mo_take : ByteArray := prog_10_method_9_code
def ky_Mo_take : MethodName := ⟨"StripMixerModel", "take", "(II)I"⟩
abbrev kc_Mo_noClip : ByteArray := prog_10_method_10_code
def ky_Mo_noClip : MethodName := ⟨"StripMixerModel", "noClip", "(I)Z"⟩
abbrev kc_Mo_isTaken : ByteArray := prog_10_method_11_code
def ky_Mo_isTaken : MethodName := ⟨"StripMixerModel", "isTaken", "(IIII)Z"⟩
abbrev kc_Mo_freeClip : ByteArray := prog_10_method_12_code
def ky_Mo_freeClip : MethodName := ⟨"StripMixerModel", "freeClip", "()I"⟩
abbrev kc_Mo_clip : ByteArray := prog_10_method_13_code
def ky_Mo_clip : MethodName := ⟨"StripMixerModel", "clip", "(IIIII)I"⟩
abbrev kc_Mo_drop : ByteArray := prog_10_method_14_code
def ky_Mo_drop : MethodName := ⟨"StripMixerModel", "drop", "(I)V"⟩
abbrev kc_Mo_move : ByteArray := prog_10_method_15_code
def ky_Mo_move : MethodName := ⟨"StripMixerModel", "move", "(III)Z"⟩
abbrev kc_Mo_split : ByteArray := prog_10_method_16_code
def ky_Mo_split : MethodName := ⟨"StripMixerModel", "split", "(II)I"⟩
abbrev kc_Mo_shape : ByteArray := prog_10_method_17_code
def ky_Mo_shape : MethodName := ⟨"StripMixerModel", "shape", "(IIII)V"⟩
abbrev kc_Mo_feeds : ByteArray := prog_10_method_18_code
def ky_Mo_feeds : MethodName := ⟨"StripMixerModel", "feeds", "(II)Z"⟩
abbrev kc_Mo_findReach : ByteArray := prog_10_method_19_code
def ky_Mo_findReach : MethodName := ⟨"StripMixerModel", "findReach", "()V"⟩
abbrev kc_Mo_route : ByteArray := prog_10_method_20_code
def ky_Mo_route : MethodName := ⟨"StripMixerModel", "route", "(II)Z"⟩
abbrev kc_Mo_send : ByteArray := prog_10_method_21_code
def ky_Mo_send : MethodName := ⟨"StripMixerModel", "send", "(III)Z"⟩
abbrev kc_Mo_noStrip : ByteArray := prog_10_method_22_code
def ky_Mo_noStrip : MethodName := ⟨"StripMixerModel", "noStrip", "(I)Z"⟩
abbrev kc_Mo_isOff : ByteArray := prog_10_method_23_code
def ky_Mo_isOff : MethodName := ⟨"StripMixerModel", "isOff", "(III)Z"⟩
abbrev kc_Mo_effect : ByteArray := prog_10_method_24_code
def ky_Mo_effect : MethodName := ⟨"StripMixerModel", "effect", "(IIIII)V"⟩
abbrev kc_Mo_fader : ByteArray := prog_10_method_25_code
def ky_Mo_fader : MethodName := ⟨"StripMixerModel", "fader", "(II)V"⟩
abbrev kc_Mo_point : ByteArray := prog_10_method_26_code
def ky_Mo_point : MethodName := ⟨"StripMixerModel", "point", "(IIIZ)Z"⟩
abbrev kc_Mo_turn : ByteArray := prog_10_method_27_code
def ky_Mo_turn : MethodName := ⟨"StripMixerModel", "turn", "(II)I"⟩
abbrev kc_Mo_clipSample : ByteArray := prog_10_method_28_code
def ky_Mo_clipSample : MethodName := ⟨"StripMixerModel", "clipSample", "(II)J"⟩
abbrev kc_Mo_trackIn : ByteArray := prog_10_method_29_code
def ky_Mo_trackIn : MethodName := ⟨"StripMixerModel", "trackIn", "(II)V"⟩
abbrev kc_Mo_findDelays : ByteArray := prog_10_method_30_code
def ky_Mo_findDelays : MethodName := ⟨"StripMixerModel", "findDelays", "()V"⟩
abbrev kc_Mo_delayIn : ByteArray := prog_10_method_31_code
def ky_Mo_delayIn : MethodName := ⟨"StripMixerModel", "delayIn", "(I)I"⟩
abbrev kc_Mo_mixIn : ByteArray := prog_10_method_32_code
def ky_Mo_mixIn : MethodName := ⟨"StripMixerModel", "mixIn", "(II)V"⟩
abbrev kc_Mo_size : ByteArray := prog_10_method_33_code
def ky_Mo_size : MethodName := ⟨"StripMixerModel", "size", "(I)J"⟩
abbrev kc_Mo_limited : ByteArray := prog_10_method_34_code
def ky_Mo_limited : MethodName := ⟨"StripMixerModel", "limited", "(III)J"⟩
abbrev kc_Mo_work : ByteArray := prog_10_method_35_code
def ky_Mo_work : MethodName := ⟨"StripMixerModel", "work", "(IIII)V"⟩
abbrev kc_Mo_levelAt : ByteArray := prog_10_method_36_code
def ky_Mo_levelAt : MethodName := ⟨"StripMixerModel", "levelAt", "(II)J"⟩
abbrev kc_Mo_isHeard : ByteArray := prog_10_method_37_code
def ky_Mo_isHeard : MethodName := ⟨"StripMixerModel", "isHeard", "(I)Z"⟩
abbrev kc_Mo_workOut : ByteArray := prog_10_method_38_code
def ky_Mo_workOut : MethodName := ⟨"StripMixerModel", "workOut", "(II)V"⟩
abbrev kc_Mo_isReady : ByteArray := prog_10_method_39_code
def ky_Mo_isReady : MethodName := ⟨"StripMixerModel", "isReady", "(I)Z"⟩
abbrev kc_Mo_renderAll : ByteArray := prog_10_method_40_code
def ky_Mo_renderAll : MethodName := ⟨"StripMixerModel", "renderAll", "(II)V"⟩
abbrev kc_Mo_noBlock : ByteArray := prog_10_method_41_code
def ky_Mo_noBlock : MethodName := ⟨"StripMixerModel", "noBlock", "(II)Z"⟩
abbrev kc_Mo_render : ByteArray := prog_10_method_42_code
def ky_Mo_render : MethodName := ⟨"StripMixerModel", "render", "(II)V"⟩
abbrev kc_Mo_sample : ByteArray := prog_10_method_43_code
def ky_Mo_sample : MethodName := ⟨"StripMixerModel", "sample", "(II)I"⟩
abbrev kc_Mo_meter : ByteArray := prog_10_method_44_code
def ky_Mo_meter : MethodName := ⟨"StripMixerModel", "meter", "(II)J"⟩
abbrev kc_Mo_bounce : ByteArray := prog_10_method_45_code
def ky_Mo_bounce : MethodName := ⟨"StripMixerModel", "bounce", "(III)I"⟩
abbrev kc_Cl_init : ByteArray := prog_2_method_1_code
def ky_Cl_init : MethodName := ⟨"StripMixer$Clip", "<init>", "()V"⟩
abbrev kc_Cl_cutFrom : ByteArray := prog_2_method_2_code
def ky_Cl_cutFrom : MethodName := ⟨"StripMixer$Clip", "cutFrom", "(LStripMixer$Take;II)V"⟩
abbrev kc_Cl_layOn : ByteArray := prog_2_method_3_code
def ky_Cl_layOn : MethodName := ⟨"StripMixer$Clip", "layOn", "(II)V"⟩
abbrev kc_Cl_form : ByteArray := prog_2_method_4_code
def ky_Cl_form : MethodName := ⟨"StripMixer$Clip", "form", "(III)V"⟩
abbrev kc_Cl_splitInto : ByteArray := prog_2_method_5_code
def ky_Cl_splitInto : MethodName := ⟨"StripMixer$Clip", "splitInto", "(LStripMixer$Clip;I)V"⟩
abbrev kc_Cl_liesIn : ByteArray := prog_2_method_6_code
def ky_Cl_liesIn : MethodName := ⟨"StripMixer$Clip", "liesIn", "(III)Z"⟩
abbrev kc_Cl_valueAt : ByteArray := prog_2_method_7_code
def ky_Cl_valueAt : MethodName := ⟨"StripMixer$Clip", "valueAt", "(I)I"⟩
abbrev kc_De_init : ByteArray := prog_3_method_1_code
def ky_De_init : MethodName := ⟨"StripMixer$Desk", "<init>", "()V"⟩
abbrev kc_De_mayFeed : ByteArray := prog_3_method_2_code
def ky_De_mayFeed : MethodName := ⟨"StripMixer$Desk", "mayFeed", "(II)Z"⟩
abbrev kc_De_isHeard : ByteArray := prog_3_method_3_code
def ky_De_isHeard : MethodName := ⟨"StripMixer$Desk", "isHeard", "(I)Z"⟩
abbrev kc_De_settle : ByteArray := prog_3_method_4_code
def ky_De_settle : MethodName := ⟨"StripMixer$Desk", "settle", "()V"⟩
abbrev kc_De_mixInto : ByteArray := prog_3_method_5_code
def ky_De_mixInto : MethodName := ⟨"StripMixer$Desk", "mixInto", "(II)V"⟩
abbrev kc_De_greatestDelayInto : ByteArray := prog_3_method_6_code
def ky_De_greatestDelayInto : MethodName := ⟨"StripMixer$Desk", "greatestDelayInto", "(I)I"⟩
abbrev kc_De_reach : ByteArray := prog_3_method_7_code
def ky_De_reach : MethodName := ⟨"StripMixer$Desk", "reach", "(I)I"⟩
abbrev kc_De_fedBy : ByteArray := prog_3_method_8_code
def ky_De_fedBy : MethodName := ⟨"StripMixer$Desk", "fedBy", "(I)I"⟩
abbrev kc_De_solos : ByteArray := prog_3_method_9_code
def ky_De_solos : MethodName := ⟨"StripMixer$Desk", "solos", "()I"⟩
abbrev kc_De_has : ByteArray := prog_3_method_10_code
def ky_De_has : MethodName := ⟨"StripMixer$Desk", "has", "(II)Z"⟩
abbrev kc_Ef_init : ByteArray := prog_4_method_1_code
def ky_Ef_init : MethodName := ⟨"StripMixer$Effect", "<init>", "()V"⟩
abbrev kc_Ef_allows : ByteArray := prog_4_method_2_code
def ky_Ef_allows : MethodName := ⟨"StripMixer$Effect", "allows", "(III)Z"⟩
abbrev kc_Ef_become : ByteArray := prog_4_method_3_code
def ky_Ef_become : MethodName := ⟨"StripMixer$Effect", "become", "(III)V"⟩
abbrev kc_Ef_ownDelay : ByteArray := prog_4_method_4_code
def ky_Ef_ownDelay : MethodName := ⟨"StripMixer$Effect", "ownDelay", "()I"⟩
abbrev kc_Ef_forget : ByteArray := prog_4_method_5_code
def ky_Ef_forget : MethodName := ⟨"StripMixer$Effect", "forget", "()V"⟩
abbrev kc_Ef_next : ByteArray := prog_4_method_6_code
def ky_Ef_next : MethodName := ⟨"StripMixer$Effect", "next", "(I)I"⟩
abbrev kc_Ef_echo : ByteArray := prog_4_method_7_code
def ky_Ef_echo : MethodName := ⟨"StripMixer$Effect", "echo", "(I)I"⟩
abbrev kc_Ef_limit : ByteArray := prog_4_method_8_code
def ky_Ef_limit : MethodName := ⟨"StripMixer$Effect", "limit", "(I)I"⟩
abbrev kc_Ef_greatestPast : ByteArray := prog_4_method_9_code
def ky_Ef_greatestPast : MethodName := ⟨"StripMixer$Effect", "greatestPast", "()I"⟩
abbrev kc_Ef_gate : ByteArray := prog_4_method_10_code
def ky_Ef_gate : MethodName := ⟨"StripMixer$Effect", "gate", "(I)I"⟩
abbrev kc_Fa_init : ByteArray := prog_5_method_1_code
def ky_Fa_init : MethodName := ⟨"StripMixer$Fader", "<init>", "()V"⟩
abbrev kc_Fa_put : ByteArray := prog_5_method_2_code
def ky_Fa_put : MethodName := ⟨"StripMixer$Fader", "put", "(IIZ)Z"⟩
abbrev kc_Fa_clearPoints : ByteArray := prog_5_method_3_code
def ky_Fa_clearPoints : MethodName := ⟨"StripMixer$Fader", "clearPoints", "()I"⟩
abbrev kc_Fa_levelAt : ByteArray := prog_5_method_4_code
def ky_Fa_levelAt : MethodName := ⟨"StripMixer$Fader", "levelAt", "(I)I"⟩
abbrev kc_Fa_firstNotBefore : ByteArray := prog_5_method_5_code
def ky_Fa_firstNotBefore : MethodName := ⟨"StripMixer$Fader", "firstNotBefore", "(I)I"⟩
abbrev kc_Fa_openGap : ByteArray := prog_5_method_6_code
def ky_Fa_openGap : MethodName := ⟨"StripMixer$Fader", "openGap", "(I)V"⟩
abbrev kc_Sh_init : ByteArray := prog_6_method_1_code
def ky_Sh_init : MethodName := ⟨"StripMixer$Shelf", "<init>", "()V"⟩
abbrev kc_Sh_has : ByteArray := prog_6_method_2_code
def ky_Sh_has : MethodName := ⟨"StripMixer$Shelf", "has", "(I)Z"⟩
abbrev kc_Sh_leastFree : ByteArray := prog_6_method_3_code
def ky_Sh_leastFree : MethodName := ⟨"StripMixer$Shelf", "leastFree", "()I"⟩
abbrev kc_Sh_overlaps : ByteArray := prog_6_method_4_code
def ky_Sh_overlaps : MethodName := ⟨"StripMixer$Shelf", "overlaps", "(IIII)Z"⟩
abbrev kc_Sh_layOut : ByteArray := prog_6_method_5_code
def ky_Sh_layOut : MethodName := ⟨"StripMixer$Shelf", "layOut", "(I[II)V"⟩
abbrev kc_St_init : ByteArray := prog_7_method_1_code
def ky_St_init : MethodName := ⟨"StripMixer$Strip", "<init>", "(I)V"⟩
abbrev kc_St_feeds : ByteArray := prog_7_method_2_code
def ky_St_feeds : MethodName := ⟨"StripMixer$Strip", "feeds", "(I)Z"⟩
abbrev kc_St_changeMute : ByteArray := prog_7_method_3_code
def ky_St_changeMute : MethodName := ⟨"StripMixer$Strip", "changeMute", "(Z)Z"⟩
abbrev kc_St_changeSolo : ByteArray := prog_7_method_4_code
def ky_St_changeSolo : MethodName := ⟨"StripMixer$Strip", "changeSolo", "(Z)Z"⟩
abbrev kc_St_delayFrom : ByteArray := prog_7_method_5_code
def ky_St_delayFrom : MethodName := ⟨"StripMixer$Strip", "delayFrom", "(I)V"⟩
abbrev kc_St_addTo : ByteArray := prog_7_method_6_code
def ky_St_addTo : MethodName := ⟨"StripMixer$Strip", "addTo", "([IIII)V"⟩
abbrev kc_St_process : ByteArray := prog_7_method_7_code
def ky_St_process : MethodName := ⟨"StripMixer$Strip", "process", "(IZ)V"⟩
abbrev kc_St_peak : ByteArray := prog_7_method_8_code
def ky_St_peak : MethodName := ⟨"StripMixer$Strip", "peak", "(II)I"⟩
abbrev kc_St_power : ByteArray := prog_7_method_9_code
def ky_St_power : MethodName := ⟨"StripMixer$Strip", "power", "(II)J"⟩
abbrev kc_St_overs : ByteArray := prog_7_method_10_code
def ky_St_overs : MethodName := ⟨"StripMixer$Strip", "overs", "(II)I"⟩
abbrev kc_Ta_init : ByteArray := prog_8_method_1_code
def ky_Ta_init : MethodName := ⟨"StripMixer$Take", "<init>", "()V"⟩
abbrev kc_Ta_isOpen : ByteArray := prog_8_method_2_code
def ky_Ta_isOpen : MethodName := ⟨"StripMixer$Take", "isOpen", "()Z"⟩
abbrev kc_Ta_readable : ByteArray := prog_8_method_3_code
def ky_Ta_readable : MethodName := ⟨"StripMixer$Take", "readable", "()I"⟩
abbrev kc_Ta_write : ByteArray := prog_8_method_4_code
def ky_Ta_write : MethodName := ⟨"StripMixer$Take", "write", "(IJ)V"⟩
abbrev kc_Ta_record : ByteArray := prog_8_method_5_code
def ky_Ta_record : MethodName := ⟨"StripMixer$Take", "record", "([III)V"⟩
abbrev kc_La_samples : ByteArray := method_3_code
def ky_La_samples : MethodName := ⟨"StripMixerLaw", "samples", "(LStripMixer;IIJ)I"⟩
abbrev kc_La_seal : ByteArray := method_4_code
def ky_La_seal : MethodName := ⟨"StripMixerLaw", "seal", "(LStripMixer;II)I"⟩
abbrev kc_La_take : ByteArray := method_5_code
def ky_La_take : MethodName := ⟨"StripMixerLaw", "take", "(LStripMixer;II[J)I"⟩
abbrev kc_La_clip : ByteArray := method_6_code
def ky_La_clip : MethodName := ⟨"StripMixerLaw", "clip", "(LStripMixer;IIIII[J)I"⟩
abbrev kc_La_drop : ByteArray := method_7_code
def ky_La_drop : MethodName := ⟨"StripMixerLaw", "drop", "(LStripMixer;I)I"⟩
abbrev kc_La_move : ByteArray := method_8_code
def ky_La_move : MethodName := ⟨"StripMixerLaw", "move", "(LStripMixer;III[J)I"⟩
abbrev kc_La_split : ByteArray := method_9_code
def ky_La_split : MethodName := ⟨"StripMixerLaw", "split", "(LStripMixer;II[J)I"⟩
abbrev kc_La_shape : ByteArray := method_10_code
def ky_La_shape : MethodName := ⟨"StripMixerLaw", "shape", "(LStripMixer;IIII)I"⟩
abbrev kc_La_route : ByteArray := method_11_code
def ky_La_route : MethodName := ⟨"StripMixerLaw", "route", "(LStripMixer;II[J)I"⟩
abbrev kc_La_send : ByteArray := method_12_code
def ky_La_send : MethodName := ⟨"StripMixerLaw", "send", "(LStripMixer;III[J)I"⟩
abbrev kc_La_effect : ByteArray := method_13_code
def ky_La_effect : MethodName := ⟨"StripMixerLaw", "effect", "(LStripMixer;IIIII)I"⟩
abbrev kc_La_fader : ByteArray := method_14_code
def ky_La_fader : MethodName := ⟨"StripMixerLaw", "fader", "(LStripMixer;II)I"⟩
abbrev kc_La_point : ByteArray := method_15_code
def ky_La_point : MethodName := ⟨"StripMixerLaw", "point", "(LStripMixer;IIIZ[J)I"⟩
abbrev kc_La_turn : ByteArray := method_16_code
def ky_La_turn : MethodName := ⟨"StripMixerLaw", "turn", "(LStripMixer;II[J)I"⟩
abbrev kc_La_render : ByteArray := method_17_code
def ky_La_render : MethodName := ⟨"StripMixerLaw", "render", "(LStripMixer;II)I"⟩
abbrev kc_La_sample : ByteArray := method_18_code
def ky_La_sample : MethodName := ⟨"StripMixerLaw", "sample", "(LStripMixer;II[J)I"⟩
abbrev kc_La_meter : ByteArray := method_19_code
def ky_La_meter : MethodName := ⟨"StripMixerLaw", "meter", "(LStripMixer;II[J)I"⟩
abbrev kc_La_bounce : ByteArray := method_20_code
def ky_La_bounce : MethodName := ⟨"StripMixerLaw", "bounce", "(LStripMixer;III[J)I"⟩
abbrev kc_In_bitCount : ByteArray := prog_18_method_49_code
def ky_In_bitCount : MethodName := ⟨"java/lang/Integer", "bitCount", "(I)I"⟩
abbrev kc_Ar_fill_aIIIIV : ByteArray := prog_27_method_104_code
def ky_Ar_fill_aIIIIV : MethodName := ⟨"java/util/Arrays", "fill", "([IIII)V"⟩
abbrev kc_Ar_rangeCheck : ByteArray := prog_27_method_30_code
def ky_Ar_rangeCheck : MethodName := ⟨"java/util/Arrays", "rangeCheck", "(III)V"⟩
abbrev kc_Ma_floorDiv : ByteArray := prog_19_method_47_code
def ky_Ma_floorDiv : MethodName := ⟨"java/lang/Math", "floorDiv", "(II)I"⟩
abbrev kc_Ar_fill_aIIV : ByteArray := prog_27_method_103_code
def ky_Ar_fill_aIIV : MethodName := ⟨"java/util/Arrays", "fill", "([II)V"⟩

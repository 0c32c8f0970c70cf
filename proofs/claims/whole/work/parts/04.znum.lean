/-! Numbers: ints and longs by what they stand for. -/
theorem zn_add {x y : Int32} (h1 : -2147483648 ≤ x.toInt + y.toInt) (h2 : x.toInt + y.toInt < 2147483648) : (x + y).toInt = x.toInt + y.toInt := by
  rw [Int32.toInt_add]; exact Int.bmod_eq_of_le (by omega) (by omega)
theorem zn_sub {x y : Int32} (h1 : -2147483648 ≤ x.toInt - y.toInt) (h2 : x.toInt - y.toInt < 2147483648) : (x - y).toInt = x.toInt - y.toInt := by
  rw [Int32.toInt_sub]; exact Int.bmod_eq_of_le (by omega) (by omega)
theorem zn_mul {x y : Int32} (h1 : -2147483648 ≤ x.toInt * y.toInt) (h2 : x.toInt * y.toInt < 2147483648) : (x * y).toInt = x.toInt * y.toInt := by
  rw [Int32.toInt_mul]; exact Int.bmod_eq_of_le (by omega) (by omega)
theorem zn_neg {x : Int32} (h : -2147483648 < x.toInt) : (-x).toInt = -x.toInt := by
  have := Int32.toInt_lt x
  rw [Int32.toInt_neg]; exact Int.bmod_eq_of_le (by omega) (by omega)
theorem zn_ladd {x y : Int64} (h1 : -9223372036854775808 ≤ x.toInt + y.toInt) (h2 : x.toInt + y.toInt < 9223372036854775808) : (x + y).toInt = x.toInt + y.toInt := by
  rw [Int64.toInt_add]; exact Int.bmod_eq_of_le (by omega) (by omega)
theorem zn_lsub {x y : Int64} (h1 : -9223372036854775808 ≤ x.toInt - y.toInt) (h2 : x.toInt - y.toInt < 9223372036854775808) : (x - y).toInt = x.toInt - y.toInt := by
  rw [Int64.toInt_sub]; exact Int.bmod_eq_of_le (by omega) (by omega)
theorem zn_lmul {x y : Int64} (h1 : -9223372036854775808 ≤ x.toInt * y.toInt) (h2 : x.toInt * y.toInt < 9223372036854775808) : (x * y).toInt = x.toInt * y.toInt := by
  rw [Int64.toInt_mul]; exact Int.bmod_eq_of_le (by omega) (by omega)
theorem zn_lneg {x : Int64} (h : -9223372036854775808 < x.toInt) : (-x).toInt = -x.toInt := by
  have := Int64.toInt_lt x
  rw [Int64.toInt_neg]; exact Int.bmod_eq_of_le (by omega) (by omega)
theorem zn_l2i {x : Int64} (h1 : -2147483648 ≤ x.toInt) (h2 : x.toInt < 2147483648) : x.toInt32.toInt = x.toInt := by
  rw [Int64.toInt_toInt32]; exact Int.bmod_eq_of_le (by omega) (by omega)
theorem zn_lshr (a s : Int64) (k : Nat) (hs : (s.toBitVec.smod 64).toNat = k) : (a >>> s).toInt = a.toInt >>> k := by
  show (a.toBitVec.sshiftRight (s.toBitVec.smod 64).toNat).toInt = _
  rw [hs, BitVec.toInt_sshiftRight]
  rfl
/-- a product of two bounded numbers -/
theorem zn_abs_mul {x y a b : Int} (hx1 : -a ≤ x) (hx2 : x ≤ a) (hy1 : 0 ≤ y) (hy2 : y ≤ b) : -(a * b) ≤ x * y ∧ x * y ≤ a * b := by
  have ha : 0 ≤ a := by omega
  have h1 : x * y ≤ a * y := Int.mul_le_mul_of_nonneg_right hx2 hy1
  have h2 : a * y ≤ a * b := Int.mul_le_mul_of_nonneg_left hy2 ha
  have h3 : -a * y ≤ x * y := Int.mul_le_mul_of_nonneg_right hx1 hy1
  have h4 : -a * y = -(a * y) := Int.neg_mul a y
  omega
/-- x at a level: (int) (((long) x * level) >> 8) -/
def zf_at (x l : Int32) : Int32 := ((x.toInt64 * l.toInt64) >>> ((8 : Int32).toInt64 &&& 63)).toInt32
theorem zf_at_eq {x l : Int32} (hx1 : -33554432 ≤ x.toInt) (hx2 : x.toInt ≤ 33554432) (hl1 : 0 ≤ l.toInt) (hl2 : l.toInt ≤ 1024) : (zf_at x l).toInt = x.toInt * l.toInt / 256 := by
  obtain ⟨h1, h2⟩ := zn_abs_mul hx1 hx2 hl1 hl2
  have e1 : (x.toInt64 * l.toInt64).toInt = x.toInt * l.toInt := by
    rw [zn_lmul] <;> rw [Int32.toInt_toInt64, Int32.toInt_toInt64] <;> omega
  have e2 : ((x.toInt64 * l.toInt64) >>> ((8 : Int32).toInt64 &&& 63)).toInt = x.toInt * l.toInt / 256 := by
    rw [zn_lshr _ _ 8 (by decide), e1, Int.shiftRight_eq_div_pow]
    rfl
  unfold zf_at
  rw [zn_l2i] <;> rw [e2] <;> omega
def zf_cut (x : Int32) : Int32 := if (-16777216) < (if x < 16777216 then x else 16777216) then (if x < 16777216 then x else 16777216) else (-16777216)
def zi_cut (x : Int) : Int := if x < -16777216 then -16777216 else if 16777216 < x then 16777216 else x
theorem zi_cut_b (x : Int) : -16777216 ≤ zi_cut x ∧ zi_cut x ≤ 16777216 := by
  unfold zi_cut
  split
  · omega
  · split <;> omega
theorem zi_cut_id {x : Int} (h1 : -16777216 ≤ x) (h2 : x ≤ 16777216) : zi_cut x = x := by
  unfold zi_cut
  rw [if_neg (by omega), if_neg (by omega)]
theorem zf_cut_eq (x : Int32) : (zf_cut x).toInt = zi_cut x.toInt := by
  have c1 : (16777216 : Int32).toInt = 16777216 := by decide
  have c2 : (-16777216 : Int32).toInt = -16777216 := by decide
  unfold zf_cut zi_cut
  by_cases h : x < 16777216
  · have h' := h
    rw [Int32.lt_iff_toInt_lt, c1] at h'
    rw [if_pos h]
    by_cases h2 : (-16777216 : Int32) < x
    · have h2' := h2
      rw [Int32.lt_iff_toInt_lt, c2] at h2'
      rw [if_pos h2, if_neg (by omega), if_neg (by omega)]
    · have h2' := h2
      rw [Int32.lt_iff_toInt_lt, c2] at h2'
      rw [if_neg h2, c2]
      split
      · rfl
      · rw [if_neg (by omega)]; omega
  · have h' := h
    rw [Int32.lt_iff_toInt_lt, c1] at h'
    rw [if_neg h, if_pos (by decide), c1, if_neg (by omega)]
    split
    · rfl
    · omega
/-- rounding down, as Math.floorDiv does it -/
def zf_fd (x y : Int32) : Int32 := if (x ^^^ y) < 0 then (if (x / y) * y = x then x / y else x / y - 1) else x / y
theorem zn_xor_neg (x y : Int32) : (x ^^^ y) < 0 ↔ ((x.toInt < 0) ↔ ¬ (y.toInt < 0)) := by
  have e2 : ∀ z : Int32, z.toInt < 0 ↔ z.toBitVec.msb = true := fun z => by
    rw [BitVec.msb_eq_toInt, decide_eq_true_eq]
    exact Iff.rfl
  rw [Int32.lt_iff_toInt_lt, show (0 : Int32).toInt = 0 from by decide, e2, e2, e2, show (x ^^^ y).toBitVec = x.toBitVec ^^^ y.toBitVec from rfl, BitVec.msb_xor]
  cases x.toBitVec.msb <;> cases y.toBitVec.msb <;> simp
theorem zf_fd_eq {x y : Int32} (hy : 0 < y.toInt) : (zf_fd x y).toInt = x.toInt / y.toInt := by
  have hx1 := Int32.le_toInt x
  have hx2 := Int32.toInt_lt x
  have hq : (x / y).toInt = x.toInt.tdiv y.toInt := Int32.toInt_div_of_ne_right x y (by
    rintro rfl
    exact absurd hy (by decide))
  have key := @Int.tdiv_eq_ediv x.toInt y.toInt
  have hsg : y.toInt.sign = 1 := Int.sign_eq_one_of_pos hy
  have hlo := (Int.ediv_eq_iff_of_pos (x := x.toInt) (y := x.toInt / y.toInt) hy).mp rfl
  generalize hE : x.toInt / y.toInt = E at key hlo ⊢
  have hEmul : (E + 1) * y.toInt = E * y.toInt + y.toInt := by rw [Int.add_mul, Int.one_mul]
  by_cases hx : 0 ≤ x.toInt
  · have hxor : ¬ (x ^^^ y) < 0 := fun h => by
      have := (zn_xor_neg x y).mp h
      omega
    unfold zf_fd
    rw [if_neg hxor, hq, key, if_pos (Or.inl hx)]
    omega
  · have hxor : (x ^^^ y) < 0 := (zn_xor_neg x y).mpr ⟨fun _ => by omega, fun _ => by omega⟩
    have hEx : x.toInt ≤ E := by
      by_cases h : E + 1 ≤ x.toInt
      · have h1 : (E + 1) * y.toInt ≤ (E + 1) * 1 := Int.mul_le_mul_of_nonpos_left (by omega) (by omega)
        omega
      · omega
    have hE0 : E < 0 := by
      by_cases h : 0 ≤ E
      · have : 0 ≤ E * y.toInt := Int.mul_nonneg h (by omega)
        omega
      · omega
    by_cases hd : y.toInt ∣ x.toInt
    · rw [if_pos (Or.inr hd)] at key
      have hxE : x.toInt = E * y.toInt := by rw [← hE]; exact (Int.ediv_mul_cancel hd).symm
      have hmul : ((x / y) * y).toInt = x.toInt := by
        rw [zn_mul] <;> rw [hq, key, Int.add_zero] <;> omega
      have he : (x / y) * y = x := Int32.toInt_inj.mp hmul
      unfold zf_fd
      rw [if_pos hxor, if_pos he, hq, key]
      omega
    · have hno : ¬ (0 ≤ x.toInt ∨ y.toInt ∣ x.toInt) := fun h => h.elim hx hd
      rw [if_neg hno, hsg] at key
      have hne : E * y.toInt ≠ x.toInt := fun h => hd ⟨E, by rw [Int.mul_comm]; exact h.symm⟩
      have he : ¬ (x / y) * y = x := by
        intro h
        have h2 : ((x / y) * y).toInt = x.toInt := by rw [h]
        have hb1 : x.toInt < (E + 1) * y.toInt := by omega
        have hb2 : (E + 1) * y.toInt ≤ 0 := by
          have : (E + 1) * y.toInt ≤ (E + 1) * 1 := Int.mul_le_mul_of_nonpos_left (by omega) (by omega)
          omega
        rw [zn_mul] at h2 <;> rw [hq, key] at * <;> omega
      unfold zf_fd
      rw [if_pos hxor, if_neg he, zn_sub] <;> rw [hq, key, show (1 : Int32).toInt = 1 from by decide] <;> omega
/-- rounding down, as the reference does it on longs -/
def zf_dn (a b : Int64) : Int64 := if a < (a / b) * b then a / b - 1 else a / b
theorem zf_dn_eq {a b : Int64} (hb : 0 < b.toInt) : (zf_dn a b).toInt = a.toInt / b.toInt := by
  have hx1 := Int64.le_toInt a
  have hx2 := Int64.toInt_lt a
  have hq : (a / b).toInt = a.toInt.tdiv b.toInt := Int64.toInt_div_of_ne_right a b (by
    rintro rfl
    exact absurd hb (by decide))
  have key := @Int.tdiv_eq_ediv a.toInt b.toInt
  have hsg : b.toInt.sign = 1 := Int.sign_eq_one_of_pos hb
  have hlo := (Int.ediv_eq_iff_of_pos (x := a.toInt) (y := a.toInt / b.toInt) hb).mp rfl
  generalize hE : a.toInt / b.toInt = E at key hlo ⊢
  have hEmul : (E + 1) * b.toInt = E * b.toInt + b.toInt := by rw [Int.add_mul, Int.one_mul]
  by_cases hx : 0 ≤ a.toInt
  · have h0 : 0 ≤ E := by rw [← hE]; exact Int.ediv_nonneg hx (by omega)
    have h1 : 0 ≤ E * b.toInt := Int.mul_nonneg h0 (by omega)
    rw [if_pos (Or.inl hx), Int.add_zero] at key
    have hmul : ((a / b) * b).toInt = E * b.toInt := by
      rw [zn_lmul] <;> rw [hq, key] <;> omega
    have hn : ¬ a < (a / b) * b := by rw [Int64.lt_iff_toInt_lt, hmul]; omega
    unfold zf_dn
    rw [if_neg hn, hq, key]
  · have hEx : a.toInt ≤ E := by
      by_cases h : E + 1 ≤ a.toInt
      · have h1 : (E + 1) * b.toInt ≤ (E + 1) * 1 := Int.mul_le_mul_of_nonpos_left (by omega) (by omega)
        omega
      · omega
    have hE0 : E < 0 := by
      by_cases h : 0 ≤ E
      · have : 0 ≤ E * b.toInt := Int.mul_nonneg h (by omega)
        omega
      · omega
    by_cases hd : b.toInt ∣ a.toInt
    · rw [if_pos (Or.inr hd), Int.add_zero] at key
      have hxE : a.toInt = E * b.toInt := by rw [← hE]; exact (Int.ediv_mul_cancel hd).symm
      have hmul : ((a / b) * b).toInt = a.toInt := by
        rw [zn_lmul] <;> rw [hq, key] <;> omega
      have hn : ¬ a < (a / b) * b := by rw [Int64.lt_iff_toInt_lt, hmul]; omega
      unfold zf_dn
      rw [if_neg hn, hq, key]
    · have hno : ¬ (0 ≤ a.toInt ∨ b.toInt ∣ a.toInt) := fun h => h.elim hx hd
      rw [if_neg hno, hsg] at key
      have hb1 : a.toInt < (E + 1) * b.toInt := by omega
      have hb2 : (E + 1) * b.toInt ≤ 0 := by
        have : (E + 1) * b.toInt ≤ (E + 1) * 1 := Int.mul_le_mul_of_nonpos_left (by omega) (by omega)
        omega
      have hmul : ((a / b) * b).toInt = (E + 1) * b.toInt := by
        rw [zn_lmul] <;> rw [hq, key] <;> omega
      have hn : a < (a / b) * b := by rw [Int64.lt_iff_toInt_lt, hmul]; exact hb1
      unfold zf_dn
      rw [if_pos hn, zn_lsub] <;> rw [hq, key, show (1 : Int64).toInt = 1 from by decide] <;> omega

/-! numbers that stand as expressions: what they are as integers -/
def ush32 (x : Int64) : Int64 := (x.toUInt64 >>> ((32 : Int32).toInt64.toUInt64 &&& Int64.toUInt64 63)).toInt64
def ush16 (x : Int32) : Int32 := (x.toUInt32 >>> ((16 : Int32).toUInt32 &&& Int32.toUInt32 31)).toInt32
def nrem (x y : Int32) : Int32 := x - x / y * y
theorem v_neg {x : Int64} {t : Int} (h : x.toInt = t) (a : -9223372036854775808 < t) (b : t ≤ 9223372036854775807) : (-x).toInt = -t := by
  rw [Int64.toInt_neg, h, Int.bmod_eq_of_le (by omega) (by omega)]
theorem v_l2i {x : Int64} {t : Int} (h : x.toInt = t) (a : -2147483648 ≤ t) (b : t ≤ 2147483647) : x.toInt32.toInt = t := by
  rw [Int64.toInt_toInt32, h, Int.bmod_eq_of_le (by omega) (by omega)]
theorem v_i2l {x : Int32} {t : Int} (h : x.toInt = t) : x.toInt64.toInt = t := by
  rw [Int32.toInt_toInt64, h]
theorem v_addl {x y : Int64} {t u : Int} (h : x.toInt = t) (g : y.toInt = u) (a : -9223372036854775808 ≤ t + u) (b : t + u ≤ 9223372036854775807) : (x + y).toInt = t + u := by
  rw [Int64.toInt_add, h, g, Int.bmod_eq_of_le (by omega) (by omega)]
theorem v_addi {x y : Int32} {t u : Int} (h : x.toInt = t) (g : y.toInt = u) (a : -2147483648 ≤ t + u) (b : t + u ≤ 2147483647) : (x + y).toInt = t + u := by
  rw [Int32.toInt_add, h, g, Int.bmod_eq_of_le (by omega) (by omega)]
theorem v_muli {x y : Int32} {t u : Int} (h : x.toInt = t) (g : y.toInt = u) (a : -2147483648 ≤ t * u) (b : t * u ≤ 2147483647) : (x * y).toInt = t * u := by
  rw [Int32.toInt_mul, h, g, Int.bmod_eq_of_le (by omega) (by omega)]
theorem v_nat {x : Int64} {t : Int} (h : x.toInt = t) (a : 0 ≤ t) (b : t ≤ 4294967295) : (x.toUInt64.toNat : Int) = t := by
  have e : x.toInt = if 2 * x.toUInt64.toNat < 18446744073709551616 then (x.toUInt64.toNat : Int) else (x.toUInt64.toNat : Int) - 18446744073709551616 := BitVec.toInt_eq_toNat_cond _
  have l := x.toUInt64.toNat_lt
  rw [h] at e
  split at e <;> omega
theorem v_mask {x : Int64} {t : Int} (h : x.toInt = t) (a : 0 ≤ t) (b : t ≤ 4294967295) : x &&& 4294967295 = x := by
  have e := v_nat h a b
  have q : (x &&& 4294967295).toUInt64.toNat = x.toUInt64.toNat % 4294967296 := by
    show (x.toUInt64 &&& Int64.toUInt64 4294967295).toNat = _
    rw [UInt64.toNat_and]
    exact Nat.and_two_pow_sub_one_eq_mod _ 32
  have z : (x &&& 4294967295).toUInt64 = x.toUInt64 := UInt64.toNat_inj.mp (by rw [q]; omega)
  exact congrArg UInt64.toInt64 z
theorem v_u32 {x : Int64} {t : Int} (h : x.toInt = t) (a : 0 ≤ t) (b : t ≤ 4294967295) : ush32 x = 0 := by
  have e := v_nat h a b
  have d : ((32 : Int32).toInt64.toUInt64 &&& Int64.toUInt64 63).toNat % 64 = 32 := by decide
  have q : (ush32 x).toUInt64.toNat = x.toUInt64.toNat / 2 ^ 32 := by
    show (x.toUInt64 >>> ((32 : Int32).toInt64.toUInt64 &&& Int64.toUInt64 63)).toNat = _
    rw [UInt64.toNat_shiftRight, d, Nat.shiftRight_eq_div_pow]
  have z : (ush32 x).toUInt64 = (0 : Int64).toUInt64 := UInt64.toNat_inj.mp (by rw [q]; show _ = 0; omega)
  exact congrArg UInt64.toInt64 z
theorem v_u16 (x : Int32) : 0 ≤ (ush16 x).toInt ∧ (ush16 x).toInt ≤ 65535 := by
  have d : ((16 : Int32).toUInt32 &&& Int32.toUInt32 31).toNat % 32 = 16 := by decide
  have l := x.toUInt32.toNat_lt
  have q : (ush16 x).toUInt32.toNat = x.toUInt32.toNat / 2 ^ 16 := by
    show (x.toUInt32 >>> ((16 : Int32).toUInt32 &&& Int32.toUInt32 31)).toNat = _
    rw [UInt32.toNat_shiftRight, d, Nat.shiftRight_eq_div_pow]
  have e : (ush16 x).toInt = if 2 * (ush16 x).toUInt32.toNat < 4294967296 then ((ush16 x).toUInt32.toNat : Int) else ((ush16 x).toUInt32.toNat : Int) - 4294967296 := BitVec.toInt_eq_toNat_cond _
  rw [e, q]
  split <;> omega
theorem v_rem {x y : Int32} {t u : Int} (h : x.toInt = t) (g : y.toInt = u) (a : 0 ≤ t) (b : t ≤ 65535) (c : 1 ≤ u) (d : u ≤ 65535) : 0 ≤ (nrem x y).toInt ∧ (nrem x y).toInt < u := by
  have hd : (x / y).toInt = t.tdiv u := by
    rw [Int32.toInt_div, h, g]
    have : t.tdiv u = t / u := Int.tdiv_eq_ediv_of_nonneg a
    have h2 : t / u ≤ t := Int.ediv_le_self _ a
    have h3 : 0 ≤ t / u := Int.ediv_nonneg a (by omega)
    rw [this, Int.bmod_eq_of_le (by omega) (by omega)]
  have e : t.tdiv u = t / u := Int.tdiv_eq_ediv_of_nonneg a
  have h3 : 0 ≤ t / u := Int.ediv_nonneg a (by omega)
  have h4 := Int.emod_add_mul_ediv t u
  have h5 := Int.emod_nonneg t (show u ≠ 0 by omega)
  have h6 := Int.emod_lt_of_pos t (show 0 < u by omega)
  have h7 : t / u * u = u * (t / u) := Int.mul_comm _ _
  have hm : (x / y * y).toInt = t / u * u := by
    rw [Int32.toInt_mul, hd, g, e, Int.bmod_eq_of_le (by omega) (by omega)]
  show 0 ≤ (x - x / y * y).toInt ∧ (x - x / y * y).toInt < u
  rw [Int32.toInt_sub, hm, h, Int.bmod_eq_of_le (by omega) (by omega)]
  omega
theorem v_noise (X l : Int32) (h0 : 0 ≤ l.toInt) (h1 : l.toInt ≤ 999) : -999 ≤ (nrem (ush16 X) ((2 * l) + 1) - l).toInt ∧ (nrem (ush16 X) ((2 * l) + 1) - l).toInt ≤ 999 := by
  have h2 := v_muli (x := 2) (y := l) (t := 2) rfl rfl (by omega) (by omega)
  have h3 := v_addi (x := 2 * l) (y := 1) h2 (u := 1) rfl (by omega) (by omega)
  have h4 := v_u16 X
  have h5 := v_rem (x := ush16 X) (y := (2 * l) + 1) rfl h3 h4.1 h4.2 (by omega) (by omega)
  rw [Int32.toInt_sub, Int.bmod_eq_of_le (by omega) (by omega)]
  omega
theorem lgn {x y : Int64} (h : x.toInt ≠ y.toInt) : ¬ lg_cmp x y = 0 := by
  rcases Int.lt_or_gt_of_ne h with q | q
  · rw [lgc_lt q]; decide
  · rw [lgc_gt q]; decide

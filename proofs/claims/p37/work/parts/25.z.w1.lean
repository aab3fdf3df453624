/-! A number in one limb. -/
def ub (x : Int32) : Int := x.toInt % 4294967296
theorem ub_in (x : Int32) : 0 ≤ ub x ∧ ub x < 4294967296 := by unfold ub; omega
theorem ub_0 {x : Int32} : ub x = 0 ↔ x = 0 := by
  have h1 := Int32.le_toInt x
  have h2 := Int32.toInt_lt x
  refine ⟨fun h => Int32.toInt_inj.mp ?_, fun h => by rw [h]; decide⟩
  unfold ub at h
  rw [show (0 : Int32).toInt = 0 from by decide]
  omega
theorem mask32 (y : Int64) : (y &&& 4294967295).toInt = y.toInt % 4294967296 := by
  have h1 : (y &&& 4294967295).toBitVec.toNat = y.toBitVec.toNat % 4294967296 := by
    rw [Int64.toBitVec_and, BitVec.toNat_and]
    exact Nat.and_two_pow_sub_one_eq_mod _ 32
  rw [show (y &&& 4294967295).toInt = (y &&& 4294967295).toBitVec.toInt from rfl, show y.toInt = y.toBitVec.toInt from rfl, BitVec.toInt_eq_toNat_cond, BitVec.toInt_eq_toNat_cond, h1]
  have := y.toBitVec.isLt
  split <;> split <;> omega
theorem ub_mask {x : Int32} {y t : Int64} (hy : y.toInt = x.toInt) (h : t = y &&& 4294967295) : t.toInt = ub x := by
  rw [h, mask32, hy]; rfl
theorem ub_l2i {x : Int64} {t : Int32} (h : t = x.toInt32) : ub t = x.toInt % 4294967296 := by
  unfold ub
  rw [h, Int64.toInt_toInt32]
  show (if x.toInt % ((2 ^ 32 : Nat) : Int) < (((2 ^ 32 : Nat) : Int) + 1) / 2 then x.toInt % ((2 ^ 32 : Nat) : Int) else x.toInt % ((2 ^ 32 : Nat) : Int) - ((2 ^ 32 : Nat) : Int)) % 4294967296 = x.toInt % 4294967296
  rw [show ((2 ^ 32 : Nat) : Int) = 4294967296 from rfl]
  split <;> omega
/-- 64 bits shifted by 32 without sign: nothing of a small number is left -/
theorem shr32 {x : Int64} (h0 : 0 ≤ x.toInt) (h1 : x.toInt < 4294967296) {t : Int64} (h : t = (x.toUInt64 >>> ((32 : Int32).toInt64.toUInt64 &&& Int64.toUInt64 63)).toInt64) : t.toInt = 0 := by
  have e1 : t.toBitVec.toNat = x.toBitVec.toNat / 4294967296 := by
    rw [h]
    show (x.toBitVec >>> (((32 : Int32).toInt64.toUInt64 &&& Int64.toUInt64 63).toBitVec % 64#64)).toNat = _
    rw [show (((32 : Int32).toInt64.toUInt64 &&& Int64.toUInt64 63).toBitVec % 64#64) = 32#64 from by decide]
    rw [BitVec.ushiftRight_eq', BitVec.toNat_ushiftRight, Nat.shiftRight_eq_div_pow]
    rfl
  have e2 : x.toInt = x.toBitVec.toInt := rfl
  have e3 : t.toInt = t.toBitVec.toInt := rfl
  have b := x.toBitVec.isLt
  rw [e2, BitVec.toInt_eq_toNat_cond] at h0 h1
  rw [e3, BitVec.toInt_eq_toNat_cond, e1]
  split at h0 <;> split <;> omega
/-- a Whole that holds the number v in one limb -/
def W1 (σ : Gh) (lm a : Nat) (v : Int) : Prop := (v = 0 ∧ (zI σ a 1).toInt = 0 ∧ (zI σ a 2).toInt = 0 ∧ ub (zI σ lm 0) = 0) ∨ (0 < v ∧ v < 4294967296 ∧ (zI σ a 1).toInt = 1 ∧ (zI σ a 2).toInt = 0 ∧ ub (zI σ lm 0) = v) ∨ (v < 0 ∧ -4294967296 < v ∧ (zI σ a 1).toInt = 1 ∧ (zI σ a 2).toInt = 1 ∧ ub (zI σ lm 0) = -v)
theorem W1.eq {σ τ : Gh} {lm a : Nat} {v : Int} (h : W1 σ lm a v) (e1 : zI τ a 1 = zI σ a 1) (e2 : zI τ a 2 = zI σ a 2) (e3 : zI τ lm 0 = zI σ lm 0) : W1 τ lm a v := by
  unfold W1
  rw [e1, e2, e3]
  exact h
/-- division of a long by a number above 0, rounded down -/
theorem tdiv_fl {x y : Int} (hy : 0 < y) : (x.tmod y < 0 → x / y = x.tdiv y - 1) ∧ (0 ≤ x.tmod y → x / y = x.tdiv y) := by
  have h1 := Int.tmod_add_mul_tdiv x y
  have h2 := Int.emod_add_mul_ediv x y
  have h3 := Int.emod_nonneg x (show y ≠ 0 by omega)
  have h4 := Int.emod_lt_of_pos x hy
  have h5 := Int.tmod_lt_of_pos x hy
  have h6 : -y < x.tmod y := by
    have a := Int.lt_tmod_of_pos x hy
    omega
  obtain ⟨q, hq⟩ : ∃ q, q = x.tdiv y := ⟨_, rfl⟩
  obtain ⟨d, hd⟩ : ∃ d, d = x / y := ⟨_, rfl⟩
  obtain ⟨r, hr⟩ : ∃ r, r = x.tmod y := ⟨_, rfl⟩
  obtain ⟨s, hs⟩ : ∃ s, s = x % y := ⟨_, rfl⟩
  rw [← hq, ← hr] at h1
  rw [← hd, ← hs] at h2
  rw [← hs] at h3 h4
  rw [← hr] at h5 h6
  rw [← hq, ← hd, ← hr]
  have key : y * (q - d) = s - r := by rw [Int.mul_sub]; omega
  refine ⟨fun z => ?_, fun z => ?_⟩
  · have k1 : y * (q - d - 1) < y * 1 := by rw [Int.mul_sub, key]; omega
    have k2 : y * (-1) < y * (q - d - 1) := by rw [Int.mul_sub, key]; omega
    have k3 := Int.lt_of_mul_lt_mul_left k1 (show 0 ≤ y by omega)
    have k4 := Int.lt_of_mul_lt_mul_left k2 (show 0 ≤ y by omega)
    omega
  · have k1 : y * (q - d) < y * 1 := by rw [key]; omega
    have k2 : y * (-1) < y * (q - d) := by rw [key]; omega
    have k3 := Int.lt_of_mul_lt_mul_left k1 (show 0 ≤ y by omega)
    have k4 := Int.lt_of_mul_lt_mul_left k2 (show 0 ≤ y by omega)
    omega

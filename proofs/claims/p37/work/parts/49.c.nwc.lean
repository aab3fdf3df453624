/-! Addresses: the size at the start and a number; told apart without a search. -/
theorem nk {s k j : Nat} (h : Nat.beq k j = false) : s + k ≠ s + j := fun e => by
  have : k = j := Nat.add_left_cancel e
  rw [this, Nat.beq_refl] at h
  cases h
theorem nt1 {t s k : Nat} (h : t < s) : t ≠ s + k := Nat.ne_of_lt (Nat.lt_of_lt_of_le h (Nat.le_add_right _ _))
theorem nt2 {t s k : Nat} (h : t < s) : s + k ≠ t := fun e => nt1 h e.symm
theorem lt1 {t s n z : Nat} (h : t < s) (hz : z = s + n) : t < z := by rw [hz]; exact Nat.lt_of_lt_of_le h (Nat.le_add_right _ _)
theorem lt2 {s k n z : Nat} (hz : z = s + n) (h : Nat.blt k n = true) : s + k < z := by
  rw [hz]
  exact Nat.add_lt_add_left (Nat.blt_eq.mp h) s
theorem nlt {s k j : Nat} (h : Nat.blt k j = true) : s + k < s + j := Nat.add_lt_add_left (Nat.blt_eq.mp h) s
theorem nle {s k c j : Nat} (h : Nat.ble (k + c) j = true) : s + k + c ≤ s + j := by
  rw [Nat.add_assoc]
  exact Nat.add_le_add_left (Nat.le_of_ble_eq_true h) s
theorem nlt0 {t s k : Nat} (h : t < s) : t < s + k := Nat.lt_of_lt_of_le h (Nat.le_add_right _ _)

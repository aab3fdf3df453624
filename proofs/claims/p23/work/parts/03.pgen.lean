/-! rows for states that aren't known: numbers as variables, their integers as facts -/
theorem gi_lt {x y : Int32} (h : x < y) : x.toInt < y.toInt := Int32.lt_iff_toInt_lt.mp h
theorem gi_nlt {x y : Int32} (h : ¬ x < y) : y.toInt ≤ x.toInt := by
  have : ¬ x.toInt < y.toInt := fun q => h (Int32.lt_iff_toInt_lt.mpr q)
  omega
theorem gi_le {x y : Int32} (h : x ≤ y) : x.toInt ≤ y.toInt := Int32.le_iff_toInt_le.mp h
theorem gi_nle {x y : Int32} (h : ¬ x ≤ y) : y.toInt < x.toInt := by
  have : ¬ x.toInt ≤ y.toInt := fun q => h (Int32.le_iff_toInt_le.mpr q)
  omega
theorem gi_eq {x y : Int32} (h : x = y) : x.toInt = y.toInt := by rw [h]
theorem gi_ne {x y : Int32} (h : ¬ x = y) : x.toInt ≠ y.toInt := fun q => h (Int32.toInt_inj.mp q)
theorem gl_cases (x y : Int64) : (x.toInt < y.toInt ∧ lg_cmp x y = -1) ∨ (x.toInt = y.toInt ∧ lg_cmp x y = 0) ∨ (y.toInt < x.toInt ∧ lg_cmp x y = 1) := by
  rcases Int.lt_trichotomy x.toInt y.toInt with h | h | h
  · exact Or.inl ⟨h, lgc_lt h⟩
  · exact Or.inr (Or.inl ⟨h, lgc_eq h⟩)
  · exact Or.inr (Or.inr ⟨h, lgc_gt h⟩)
theorem g_one : (1 : Int32).toInt = 1 := by decide
theorem g_zero : (0 : Int32).toInt = 0 := by decide
theorem g_mone : (-1 : Int32).toInt = -1 := by decide
theorem gl_lt {x y : Int64} (h : lg_cmp x y < 0) : x.toInt < y.toInt := by
  rcases gl_cases x y with ⟨q, _⟩ | ⟨_, e⟩ | ⟨_, e⟩
  · exact q
  · rw [e] at h; exact absurd h (by decide)
  · rw [e] at h; exact absurd h (by decide)
theorem gl_nlt {x y : Int64} (h : ¬ lg_cmp x y < 0) : y.toInt ≤ x.toInt := by
  rcases gl_cases x y with ⟨_, e⟩ | ⟨q, _⟩ | ⟨q, _⟩
  · rw [e] at h; exact absurd (by decide) h
  · omega
  · omega
theorem gl_gt {x y : Int64} (h : 0 < lg_cmp x y) : y.toInt < x.toInt := by
  rcases gl_cases x y with ⟨_, e⟩ | ⟨_, e⟩ | ⟨q, _⟩
  · rw [e] at h; exact absurd h (by decide)
  · rw [e] at h; exact absurd h (by decide)
  · exact q
theorem gl_ngt {x y : Int64} (h : ¬ 0 < lg_cmp x y) : x.toInt ≤ y.toInt := by
  rcases gl_cases x y with ⟨q, _⟩ | ⟨q, _⟩ | ⟨_, e⟩
  · omega
  · omega
  · rw [e] at h; exact absurd (by decide) h
theorem gl_eq {x y : Int64} (h : lg_cmp x y = 0) : x.toInt = y.toInt := by
  rcases gl_cases x y with ⟨_, e⟩ | ⟨q, _⟩ | ⟨_, e⟩
  · rw [e] at h; exact absurd h (by decide)
  · exact q
  · rw [e] at h; exact absurd h (by decide)
theorem gl_ne {x y : Int64} (h : ¬ lg_cmp x y = 0) : x.toInt ≠ y.toInt := fun q => h (lgc_eq q)
theorem g_in {t : Int32} {n : Nat} (a : 0 ≤ t.toInt) (b : t.toInt < n) : vp_in t n := by
  rintro (q | q)
  · have := gi_lt q; rw [g_zero] at this; omega
  · have e : t.toNatClampNeg = t.toInt.toNat := rfl
    rw [e] at q; omega
theorem g_cl {t : Int32} {i : Nat} (a : t.toInt = i) : t.toNatClampNeg = i := by
  show t.toInt.toNat = i
  omega
section GROWS
variable {p : Program} {l : Launch} {e : Env} {R : Room} {s : State} {m : MethodId} {args : Array Value} {below : List Frame} {meth : Method} {c : Code} {H : Heap} {locs : List Loc} {cells slots : Nat} {Q : State → Prop} {pc : Nat} {ls : Array Slot} {rest : List Value}
theorem g_add {x y : Int32} (a : -2147483648 ≤ x.toInt + y.toInt) (b : x.toInt + y.toInt ≤ 2147483647) (k : ∀ t : Int32, t.toInt = x.toInt + y.toInt → W p l e R s m args below meth c H locs cells slots Q (F0 m pc ls (.int t :: rest))) : W p l e R s m args below meth c H locs cells slots Q (F0 m pc ls (.int (x + y) :: rest)) := k _ (v_addi rfl rfl a b)
theorem g_sub {x y : Int32} (a : -2147483648 ≤ x.toInt - y.toInt) (b : x.toInt - y.toInt ≤ 2147483647) (k : ∀ t : Int32, t.toInt = x.toInt - y.toInt → W p l e R s m args below meth c H locs cells slots Q (F0 m pc ls (.int t :: rest))) : W p l e R s m args below meth c H locs cells slots Q (F0 m pc ls (.int (x - y) :: rest)) := k _ (by rw [Int32.toInt_sub, Int.bmod_eq_of_le (by omega) (by omega)])
theorem g_mul {x y : Int32} (a : -2147483648 ≤ x.toInt * y.toInt) (b : x.toInt * y.toInt ≤ 2147483647) (k : ∀ t : Int32, t.toInt = x.toInt * y.toInt → W p l e R s m args below meth c H locs cells slots Q (F0 m pc ls (.int t :: rest))) : W p l e R s m args below meth c H locs cells slots Q (F0 m pc ls (.int (x * y) :: rest)) := k _ (v_muli rfl rfl a b)
theorem g_addl {x y : Int64} (a : -9223372036854775808 ≤ x.toInt + y.toInt) (b : x.toInt + y.toInt ≤ 9223372036854775807) (k : ∀ t : Int64, t.toInt = x.toInt + y.toInt → W p l e R s m args below meth c H locs cells slots Q (F0 m pc ls (.long t :: rest))) : W p l e R s m args below meth c H locs cells slots Q (F0 m pc ls (.long (x + y) :: rest)) := k _ (v_addl rfl rfl a b)
theorem g_i2l {x : Int32} (k : ∀ t : Int64, t.toInt = x.toInt → W p l e R s m args below meth c H locs cells slots Q (F0 m pc ls (.long t :: rest))) : W p l e R s m args below meth c H locs cells slots Q (F0 m pc ls (.long x.toInt64 :: rest)) := k _ (v_i2l rfl)
theorem g_l2i {x : Int64} (a : -2147483648 ≤ x.toInt) (b : x.toInt ≤ 2147483647) (k : ∀ t : Int32, t.toInt = x.toInt → W p l e R s m args below meth c H locs cells slots Q (F0 m pc ls (.int t :: rest))) : W p l e R s m args below meth c H locs cells slots Q (F0 m pc ls (.int x.toInt32 :: rest)) := k _ (v_l2i rfl a b)
end GROWS

/-! squares, rests -/
theorem sq_ge {a : Int} (h : 0 ≤ a) : a ≤ a * a := by
  by_cases z : a = 0
  · subst z; decide
  · have := Int.mul_le_mul_of_nonneg_left (show (1 : Int) ≤ a by omega) h
    omega
theorem sq_le {a : Int} (h : 0 ≤ a) (h1 : a ≤ 20000) : a * a ≤ 400000000 := Int.le_trans (Int.mul_le_mul h1 h1 h (by decide)) (by decide)
theorem un {f : Nat → Int64} {k j : Nat} {v : Int64} (h : j ≠ k) : vp_updL f k v j = f j := by simp [vp_updL, h]
theorem uh {f : Nat → Int64} {k : Nat} {v : Int64} : vp_updL f k v k = v := by simp [vp_updL]
section RIE
variable {p : Program} {l : Launch} {e : Env} {R : Room} {s : State} {m : MethodId} {args : Array Value} {below : List Frame} {meth : Method} {c : Code} {H : Heap} {locs : List Loc} {cells slots : Nat} {Q : State → Prop} {cc : ByteArray} {pc : Nat} {ls : Array Slot} {rest : List Value}
theorem g_remk {x y : Int32} {k : Int} (hy : y.toInt = k) (hk : 0 < k) (hx0 : 0 ≤ x.toInt) (kk : ∀ t : Int32, t.toInt = x.toInt % k → W p l e R s m args below meth c H locs cells slots Q (F0 m pc ls (.int t :: rest))) : W p l e R s m args below meth c H locs cells slots Q (F0 m pc ls (.int (x - x / y * y) :: rest)) := by
  subst hy
  refine kk _ ?_
  have h1 : x.toInt.tdiv y.toInt = x.toInt / y.toInt := Int.tdiv_eq_ediv_of_nonneg hx0
  have h2 : x.toInt / y.toInt ≤ x.toInt := Int.ediv_le_self _ hx0
  have h3 : 0 ≤ x.toInt / y.toInt := Int.ediv_nonneg hx0 (by omega)
  have h4 := Int32.toInt_lt x
  have h5 : (x / y).toInt = x.toInt / y.toInt := by rw [Int32.toInt_div, h1, Int.bmod_eq_of_le (by omega) (by omega)]
  have h6 : x.toInt / y.toInt * y.toInt ≤ x.toInt := Int.ediv_mul_le _ (by omega)
  have h7 : 0 ≤ x.toInt / y.toInt * y.toInt := Int.mul_nonneg h3 (by omega)
  have h8 : (x / y * y).toInt = x.toInt / y.toInt * y.toInt := by rw [Int32.toInt_mul, h5, Int.bmod_eq_of_le (by omega) (by omega)]
  have h9 := Int.emod_def x.toInt y.toInt
  rw [Int.mul_comm] at h9
  rw [Int32.toInt_sub, h8, Int.bmod_eq_of_le (by omega) (by omega), h9]
end RIE

/-! Small rows for the walk over states of known kinds. -/
theorem gl_ge {x y : Int64} (h : 0 ≤ lg_cmp x y) : y.toInt ≤ x.toInt := by
  rcases gl_cases x y with ⟨q, e⟩ | ⟨q, e⟩ | ⟨q, e⟩
  · rw [e] at h; exact absurd h (by decide)
  · omega
  · omega
theorem gl_nge {x y : Int64} (h : ¬ 0 ≤ lg_cmp x y) : x.toInt < y.toInt := by
  rcases gl_cases x y with ⟨q, e⟩ | ⟨q, e⟩ | ⟨q, e⟩
  · exact q
  · rw [e] at h; exact absurd (by decide) h
  · rw [e] at h; exact absurd (by decide) h
theorem gl_le {x y : Int64} (h : lg_cmp x y ≤ 0) : x.toInt ≤ y.toInt := by
  rcases gl_cases x y with ⟨q, e⟩ | ⟨q, e⟩ | ⟨q, e⟩
  · omega
  · omega
  · rw [e] at h; exact absurd h (by decide)
theorem gl_nle {x y : Int64} (h : ¬ lg_cmp x y ≤ 0) : y.toInt < x.toInt := by
  rcases gl_cases x y with ⟨q, e⟩ | ⟨q, e⟩ | ⟨q, e⟩
  · rw [e] at h; exact absurd (by decide) h
  · rw [e] at h; exact absurd (by decide) h
  · exact q
section TME
variable {p : Program} {l : Launch} {e : Env} {R : Room} {s : State} {m : MethodId} {args : Array Value} {below : List Frame} {meth : Method} {c : Code} {H : Heap} {locs : List Loc} {cells slots : Nat} {Q : State → Prop} {cc : ByteArray} {pc : Nat} {ls : Array Slot} {rest st0 : List Value}
theorem g_div {x y : Int32} {k : Int} (hy : y.toInt = k) (hk : 0 < k) (hx0 : 0 ≤ x.toInt) (kk : ∀ t : Int32, t.toInt = x.toInt / k → W p l e R s m args below meth c H locs cells slots Q (F0 m pc ls (.int t :: rest))) : W p l e R s m args below meth c H locs cells slots Q (F0 m pc ls (.int (x / y) :: rest)) := by
  refine kk _ ?_
  have h1 : x.toInt.tdiv k = x.toInt / k := Int.tdiv_eq_ediv_of_nonneg hx0
  have h2 : x.toInt / k ≤ x.toInt := Int.ediv_le_self _ hx0
  have h3 : 0 ≤ x.toInt / k := Int.ediv_nonneg hx0 (by omega)
  have h4 := Int32.toInt_lt x
  rw [Int32.toInt_div, hy, h1, Int.bmod_eq_of_le (by omega) (by omega)]
theorem mmax_t {x y : Int32} (kk : ∀ t : Int32, (t.toInt = x.toInt ∨ t.toInt = y.toInt) ∧ x.toInt ≤ t.toInt ∧ y.toInt ≤ t.toInt → W p l e R s m args below meth c H locs cells slots Q (F0 m pc ls (.int t :: rest))) : W p l e R s m args below meth c H locs cells slots Q (F0 m pc ls (.int (if x < y then y else x) :: rest)) := by
  refine kk _ ?_
  by_cases h : x < y
  · rw [if_pos h]; have := gi_lt h; exact ⟨Or.inr rfl, by omega, by omega⟩
  · rw [if_neg h]; have := gi_nlt h; exact ⟨Or.inl rfl, by omega, by omega⟩
theorem mmin_t {x y : Int32} (kk : ∀ t : Int32, (t.toInt = x.toInt ∨ t.toInt = y.toInt) ∧ t.toInt ≤ x.toInt ∧ t.toInt ≤ y.toInt → W p l e R s m args below meth c H locs cells slots Q (F0 m pc ls (.int t :: rest))) : W p l e R s m args below meth c H locs cells slots Q (F0 m pc ls (.int (if y < x then y else x) :: rest)) := by
  refine kk _ ?_
  by_cases h : y < x
  · rw [if_pos h]; have := gi_lt h; exact ⟨Or.inr rfl, by omega, by omega⟩
  · rw [if_neg h]; have := gi_nlt h; exact ⟨Or.inl rfl, by omega, by omega⟩
theorem mmaxl_t {x y : Int64} (kk : ∀ t : Int64, (t.toInt = x.toInt ∨ t.toInt = y.toInt) ∧ x.toInt ≤ t.toInt ∧ y.toInt ≤ t.toInt → W p l e R s m args below meth c H locs cells slots Q (F0 m pc ls (.long t :: rest))) : W p l e R s m args below meth c H locs cells slots Q (F0 m pc ls (.long (if y < x then x else y) :: rest)) := by
  refine kk _ ?_
  by_cases h : y < x
  · rw [if_pos h]; have := Int64.lt_iff_toInt_lt.mp h; exact ⟨Or.inl rfl, by omega, by omega⟩
  · rw [if_neg h]
    have h1 : ¬ y.toInt < x.toInt := fun q => h (Int64.lt_iff_toInt_lt.mpr q)
    exact ⟨Or.inr rfl, by omega, by omega⟩
theorem TC.ofF {y : MethodName} {bc : ByteArray} {ml fr lw : Nat} {rt : Option FieldType} {av : List Value} {κ : Kt} {σ : Gh} (F : Nat → Nat → Bool) {Qc : Nat → Array Value → State → Outcome → State → Prop} (hy : plainFor y = true) (hlen : (lg_sl av).length ≤ ml)
    (body : ∀ (p : Program) (e : Env) (s : State) (m : MethodId) (below : List Frame) (meth : Method) (c : Code) (ls : Array Slot), CS p bc rt ml y av.toArray s m meth c → va_K κ.1 vwCl (kTy κ) s → XY κ (tA σ s.heap.size) s s.heap → TS κ F σ σ s s.heap [] → lv_has ls ml (lv_args 0 av) →
      tW p l e fr lw κ s m av.toArray below meth c s.heap [] (tQ κ σ below Qc av.toArray s) (F0 m 0 ls [])) : TC l y bc ml rt fr lw av κ σ Qc := by
  intro sz su
  refine Met.ofF (cc := bc) (maxL := ml) (ret := rt) hy rfl ?_
  intro p e s m args below meth c s₁ B hml hv
  obtain ⟨rfl, hsz, hsu, hT, hC, hK, hX⟩ := hv
  subst hsz
  subst hsu
  rw [lg_entry_eq]
  have hts := atoms_spec (ws := mw y bc ml rt) B.pre
  refine W.widen (k := kC κ - s.heap.size) (n := kS κ - hsl s.heap) (Nat.zero_le _) (Nat.zero_le _) ?_
  exact body p e s m below meth c _ ⟨B.exec, B.bytes, B.returns, hml, findClass_of_methodNamed B.named, fun w h => hts w (List.mem_cons_of_mem _ h), B.notSynchronized, (name_of_methodNamed B.named B.method).1⟩ hK hX ⟨hT, hC, Ext.rf, va_S.rf⟩ (lv_entry av hlen)
theorem zsum0 (L : List Nat) : (L.map fun _ => 0).sum = 0 := by
  induction L with
  | nil => rfl
  | cons x L ih => rw [List.map_cons, List.sum_cons, ih]
theorem TS.cap {κ : Kt} {F : Nat → Nat → Bool} {σ0 σ : Gh} {a : Nat} (hT : TS κ F σ0 σ s H locs) (ha : zk σ a 1) {n : Nat} (h1 : zN σ a < n) (h2 : n ≤ 1500) (h3 : n = 1500 ∨ 2 * zN σ a + 2 ≤ n) : H.size + 1 ≤ kC κ ∧ hsl H + n ≤ kS κ := by
  have hin := hT.2.1.1 a ha
  have c1 := hT.2.1.2.1
  have c2 := hT.2.1.2.2
  have hp : 2 ≤ zN σ a ∧ zN σ a ≤ 1500 := (hT.P ha (by decide)).1
  have d1 := sum_dec (f := fun x => pcl (zN σ x)) (g := fun _ => 0) (d := 1) (kW κ) (fun _ => Nat.zero_le _) ⟨a, hin, by show 0 + 1 ≤ pcl (zN σ a); unfold pcl; omega⟩
  have d2 := sum_dec (f := fun x => psl (zN σ x)) (g := fun _ => 0) (d := n) (kW κ) (fun _ => Nat.zero_le _) ⟨a, hin, by show 0 + n ≤ psl (zN σ a); unfold psl; split <;> rcases h3 with h3 | h3 <;> omega⟩
  rw [zsum0] at d1 d2
  have d1 : 0 + 1 ≤ zpc κ σ := d1
  have d2 : 0 + n ≤ zps κ σ := d2
  exact ⟨by omega, by omega⟩
end TME

/-! The row begun anew: without what was before. -/
theorem RI.fresh0 {κ : Kt} {τ : Gh} {m : Nat} (h : zk τ m 20 ∧ zk τ (kR κ m 1) 21 ∧ zk τ (kR κ m 3) 22 ∧ zk τ (kR κ m 4) 29 ∧ zk τ (kR κ m 5) 25) (hw : WI (rN τ m) (zJ τ (kR κ m 1))) (hp : PL (rN τ m) (zI τ (kR κ m 5))) (hk : zI τ (kR κ m 4) 0 = 0 ∧ zI τ (kR κ m 4) 1 = 0) (hl : 0 ≤ (zI τ m 13).toInt ∧ (zI τ m 13).toInt ≤ 700) : RI κ τ m := by
  refine ⟨h, hw, hp, hl, fun i hi hz => ?_⟩
  have : i = 0 ∨ i = 1 := by omega
  rcases this with rfl | rfl
  · exact absurd hk.1 hz
  · exact absurd hk.2 hz
theorem TS.ref3 {κ : Kt} {F G : Nat → Nat → Bool} {σ0 σ : Gh} {s : State} {H H0 : Heap} {locs locs0 : List Loc} {m : Nat} (h0 : TS κ G σ0 σ0 s H0 locs0) (hT : TS κ F σ0 σ s H locs) (h : zk σ0 m 20) : zk σ (kR κ m 3) 22 := hT.k (h0.ref h (by decide) (by decide) (by decide)) (by decide)
theorem TS.ref4 {κ : Kt} {F G : Nat → Nat → Bool} {σ0 σ : Gh} {s : State} {H H0 : Heap} {locs locs0 : List Loc} {m : Nat} (h0 : TS κ G σ0 σ0 s H0 locs0) (hT : TS κ F σ0 σ s H locs) (h : zk σ0 m 20) : zk σ (kR κ m 4) 29 := hT.k (h0.ref h (by decide) (by decide) (by decide)) (by decide)

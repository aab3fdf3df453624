/-! Places behind a call. -/
theorem PLe {κ : Kt} {F : Nat → Nat → Bool} {σ τ : Gh} {m sz : Nat} (h : PL (rN σ m) (zI σ (kR κ m 5))) (k20 : zk σ m 20) (k25 : zk σ (kR κ m 5) 25) (g : Ext F sz σ τ) (h7 : F 20 7 = false) (h25 : ∀ k, F 25 k = false) : PL (rN τ m) (zI τ (kR κ m 5)) := by
  have e7 := k20.eI g (by decide) h7
  have ep : zI τ (kR κ m 5) = zI σ (kR κ m 5) := funext fun k => k25.eI g (by decide) (h25 k)
  unfold rN at *
  rw [e7, ep]
  exact h
theorem isB_t {x : Int32} (h : isB x) : 0 ≤ x.toInt ∧ x.toInt ≤ 1 := by rcases h with h | h <;> rw [h] <;> decide
theorem PL.snoc {σ τ : Gh} {a N : Nat} {v : Int32} (h : PL N (zI σ a)) (hu : τ = zput σ a N v) (hv : 0 ≤ v.toInt ∧ v.toInt ≤ 9999) (hg : N = 0 ∨ (zI σ a (N - 1)).toInt < v.toInt) : PL (N + 1) (zI τ a) := by
  have hn : zI τ a N = v := zput_at hu
  have ho : ∀ k, k ≠ N → zI τ a k = zI σ a k := fun k hk => zput_o hu (Or.inr hk)
  intro k hk
  by_cases e : k = N
  · subst e
    rw [hn]
    exact ⟨hv, fun q => by omega⟩
  · rw [ho k e]
    refine ⟨(h k (by omega)).1, fun _ => ?_⟩
    by_cases e1 : k + 1 = N
    · rw [e1, hn]
      have : k = N - 1 := by omega
      rw [this]
      rcases hg with q | q
      · omega
      · exact q
    · rw [ho _ e1]
      exact (h k (by omega)).2 (by omega)
theorem PL.congr {N : Nat} {p q : Nat → Int32} (h : PL N p) (e : ∀ j, j < N → q j = p j) : PL N q := by
  intro k hk
  rw [e k hk]
  refine ⟨(h k hk).1, fun h1 => ?_⟩
  rw [e _ h1]
  exact (h k hk).2 h1
theorem RI.fresh {κ : Kt} {F : Nat → Nat → Bool} {σ τ : Gh} {m sz : Nat} (h : RI κ σ m) (g : Ext F sz σ τ) (h13 : F 20 13 = false) (hw : WI (rN τ m) (zJ τ (kR κ m 1))) (hp : PL (rN τ m) (zI τ (kR κ m 5))) (hk : zI τ (kR κ m 4) 0 = 0 ∧ zI τ (kR κ m 4) 1 = 0) : RI κ τ m := by
  have k1 := h.1.1.ext g (by decide)
  have k2 := h.1.2.1.ext g (by decide)
  have k3 := h.1.2.2.1.ext g (by decide)
  have k4 := h.1.2.2.2.1.ext g (by decide)
  have k5 := h.1.2.2.2.2.ext g (by decide)
  have e13 := h.1.1.eI g (by decide) h13
  refine ⟨⟨k1, k2, k3, k4, k5⟩, hw, hp, by rw [e13]; exact h.2.2.2.1, fun i hi hz => ?_⟩
  have : i = 0 ∨ i = 1 := by omega
  rcases this with rfl | rfl
  · exact absurd hk.1 hz
  · exact absurd hk.2 hz
theorem RI.slots {κ : Kt} {F : Nat → Nat → Bool} {σ τ : Gh} {m sz : Nat} (h : RI κ σ m) (g : Ext F sz σ τ) (hF : F 20 7 = false ∧ F 20 13 = false ∧ (∀ k, F 21 k = false) ∧ (∀ k, F 25 k = false)) (hs : ∀ i, i < 2 → zI τ (kR κ m 4) i ≠ 0 → WI (rN σ m) (fun j => zJ τ (kR κ m 3) (609 * i + j))) : RI κ τ m := by
  have k1 := h.1.1.ext g (by decide)
  have k2 := h.1.2.1.ext g (by decide)
  have k3 := h.1.2.2.1.ext g (by decide)
  have k4 := h.1.2.2.2.1.ext g (by decide)
  have k5 := h.1.2.2.2.2.ext g (by decide)
  have e7 := h.1.1.eI g (by decide) hF.1
  have e13 := h.1.1.eI g (by decide) hF.2.1
  have hw : zJ τ (kR κ m 1) = zJ σ (kR κ m 1) := funext fun k => h.1.2.1.eJ g (by decide) (hF.2.2.1 k)
  have hp : zI τ (kR κ m 5) = zI σ (kR κ m 5) := funext fun k => h.1.2.2.2.2.eI g (by decide) (hF.2.2.2 k)
  unfold rN at hs
  refine ⟨⟨k1, k2, k3, k4, k5⟩, ?_⟩
  unfold rN
  rw [e7, e13, hw, hp]
  exact ⟨h.2.1, h.2.2.1, h.2.2.2.1, hs⟩

/-! Settings alike. -/
/-- settings alike: now's, and those of kept slots -/
def SNW (κ : Kt) (σ : Gh) (x mm : Nat) : Prop := (zI σ (kR κ x 3) 7).toInt = (zJ σ (kR κ mm 1) 0).toInt ∧ (zI σ (kR κ x 3) 8).toInt = (zJ σ (kR κ mm 1) 1).toInt ∧ (zI σ (kR κ x 3) 9).toInt = (zJ σ (kR κ mm 1) 2).toInt
def SLT (κ : Kt) (σ : Gh) (x mm i : Nat) : Prop := (zI σ (kR κ (kR κ x 5) i) 7).toInt = (zJ σ (kR κ mm 3) (609 * i + 0)).toInt ∧ (zI σ (kR κ (kR κ x 5) i) 8).toInt = (zJ σ (kR κ mm 3) (609 * i + 1)).toInt ∧ (zI σ (kR κ (kR κ x 5) i) 9).toInt = (zJ σ (kR κ mm 3) (609 * i + 2)).toInt
def SREL (κ : Kt) (σ : Gh) (x mm : Nat) : Prop := SNW κ σ x mm ∧ ∀ i : Nat, i < 2 → zI σ (kR κ x 6) i ≠ 0 → SLT κ σ x mm i
theorem SNW.tr {κ : Kt} {σ τ : Gh} {x mm : Nat} (h : SNW κ σ x mm) (n : zI τ (kR κ x 3) 7 = zI σ (kR κ x 3) 7 ∧ zI τ (kR κ x 3) 8 = zI σ (kR κ x 3) 8 ∧ zI τ (kR κ x 3) 9 = zI σ (kR κ x 3) 9) (w : ∀ j : Nat, j < 3 → zJ τ (kR κ mm 1) j = zJ σ (kR κ mm 1) j) : SNW κ τ x mm := by
  obtain ⟨h1, h2, h3⟩ := h
  refine ⟨?_, ?_, ?_⟩
  · rw [n.1, w 0 (by decide)]; exact h1
  · rw [n.2.1, w 1 (by decide)]; exact h2
  · rw [n.2.2, w 2 (by decide)]; exact h3
theorem SLT.tr {κ : Kt} {σ τ : Gh} {x mm i : Nat} (h : SLT κ σ x mm i) (n : zI τ (kR κ (kR κ x 5) i) 7 = zI σ (kR κ (kR κ x 5) i) 7 ∧ zI τ (kR κ (kR κ x 5) i) 8 = zI σ (kR κ (kR κ x 5) i) 8 ∧ zI τ (kR κ (kR κ x 5) i) 9 = zI σ (kR κ (kR κ x 5) i) 9) (w : ∀ j : Nat, j < 3 → zJ τ (kR κ mm 3) (609 * i + j) = zJ σ (kR κ mm 3) (609 * i + j)) : SLT κ τ x mm i := by
  obtain ⟨h1, h2, h3⟩ := h
  refine ⟨?_, ?_, ?_⟩
  · rw [n.1, w 0 (by decide)]; exact h1
  · rw [n.2.1, w 1 (by decide)]; exact h2
  · rw [n.2.2, w 2 (by decide)]; exact h3
/-- saved: the slot is as now is -/
theorem SLT.sav {κ : Kt} {σ τ : Gh} {x mm i : Nat} (h : SNW κ σ x mm) (n : zI τ (kR κ (kR κ x 5) i) 7 = zI σ (kR κ x 3) 7 ∧ zI τ (kR κ (kR κ x 5) i) 8 = zI σ (kR κ x 3) 8 ∧ zI τ (kR κ (kR κ x 5) i) 9 = zI σ (kR κ x 3) 9) (w : ∀ j : Nat, j < 3 → zJ τ (kR κ mm 3) (609 * i + j) = zJ σ (kR κ mm 1) j) : SLT κ τ x mm i := by
  obtain ⟨h1, h2, h3⟩ := h
  refine ⟨?_, ?_, ?_⟩
  · rw [n.1, w 0 (by decide)]; exact h1
  · rw [n.2.1, w 1 (by decide)]; exact h2
  · rw [n.2.2, w 2 (by decide)]; exact h3
/-- restored: now is as the slot is -/
theorem SNW.res {κ : Kt} {σ τ : Gh} {x mm i : Nat} (h : SLT κ σ x mm i) (n : zI τ (kR κ x 3) 7 = zI σ (kR κ (kR κ x 5) i) 7 ∧ zI τ (kR κ x 3) 8 = zI σ (kR κ (kR κ x 5) i) 8 ∧ zI τ (kR κ x 3) 9 = zI σ (kR κ (kR κ x 5) i) 9) (w : ∀ j : Nat, j < 3 → zJ τ (kR κ mm 1) j = zJ σ (kR κ mm 3) (609 * i + j)) : SNW κ τ x mm := by
  obtain ⟨h1, h2, h3⟩ := h
  refine ⟨?_, ?_, ?_⟩
  · rw [n.1, w 0 (by decide)]; exact h1
  · rw [n.2.1, w 1 (by decide)]; exact h2
  · rw [n.2.2, w 2 (by decide)]; exact h3
/-- four States, and now's source -/
def DIS (κ : Kt) (x : Nat) : Prop := kR κ (kR κ x 3) 0 = kR κ x 1 ∧ (kR κ x 3 ≠ kR κ x 4 ∧ ∀ i : Nat, i < 2 → kR κ x 3 ≠ kR κ (kR κ x 5) i) ∧ (∀ i : Nat, i < 2 → kR κ x 4 ≠ kR κ (kR κ x 5) i) ∧ kR κ (kR κ x 5) 0 ≠ kR κ (kR κ x 5) 1
theorem kcap_R {κ : Kt} {L : List Nat} {C S : Nat} (a : Nat) : kR (kcap κ L C S) a = kR κ a := rfl
theorem dis9 {κ : Kt} {this B : Nat} (rs : kR κ this 3 = B + 8) (z1 : kR κ this 1 = B + 2) (z4 : kR κ this 4 = B + 255) (z5 : kR κ this 5 = B + 502) (zn : kR κ (B + 8) 0 = B + 2) (zq0 : kR κ (B + 502) 0 = B + 503) (zq1 : kR κ (B + 502) 1 = B + 750) : DIS κ this := by
  have zz : ∀ i : Nat, i < 2 → kR κ (kR κ this 5) i = B + 503 ∨ kR κ (kR κ this 5) i = B + 750 := fun i hi => by
    rw [z5]
    rcases (show i = 0 ∨ i = 1 by omega) with rfl | rfl
    · exact Or.inl zq0
    · exact Or.inr zq1
  refine ⟨by rw [rs, zn, z1], ⟨by rw [rs, z4]; omega, fun i hi => ?_⟩, fun i hi => ?_, by rw [z5, zq0, zq1]; omega⟩
  · rw [rs]
    rcases zz i hi with h | h
    · rw [h]; omega
    · rw [h]; omega
  · rw [z4]
    rcases zz i hi with h | h
    · rw [h]; omega
    · rw [h]; omega

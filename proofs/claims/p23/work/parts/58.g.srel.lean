/-! Settings alike. -/
/-- settings alike: now's, and those of kept slots -/
def SNW (κ : Kt) (σ : Gh) (x mm : Nat) : Prop := (zI σ (kR κ x 3) 7).toInt = (zJ σ (kR κ mm 1) 0).toInt ∧ (zI σ (kR κ x 3) 8).toInt = (zJ σ (kR κ mm 1) 1).toInt ∧ (zI σ (kR κ x 3) 9).toInt = (zJ σ (kR κ mm 1) 2).toInt
def SLT (κ : Kt) (σ : Gh) (x mm i : Nat) : Prop := (zI σ (kR κ (kR κ x 5) i) 7).toInt = (zJ σ (kR κ mm 3) (609 * i + 0)).toInt ∧ (zI σ (kR κ (kR κ x 5) i) 8).toInt = (zJ σ (kR κ mm 3) (609 * i + 1)).toInt ∧ (zI σ (kR κ (kR κ x 5) i) 9).toInt = (zJ σ (kR κ mm 3) (609 * i + 2)).toInt
def SREL (κ : Kt) (σ : Gh) (x mm : Nat) : Prop := SNW κ σ x mm ∧ ∀ i : Nat, i < 2 → zI σ (kR κ x 6) i ≠ 0 → SLT κ σ x mm i
theorem SNW.tr {κ : Kt} {σ τ : Gh} {x mm : Nat} (h : SNW κ σ x mm) (n : zI τ (kR κ x 3) 7 = zI σ (kR κ x 3) 7 ∧ zI τ (kR κ x 3) 8 = zI σ (kR κ x 3) 8 ∧ zI τ (kR κ x 3) 9 = zI σ (kR κ x 3) 9) (w : ∀ j : Nat, j < 3 → zJ τ (kR κ mm 1) j = zJ σ (kR κ mm 1) j) : SNW κ τ x mm := by
  obtain ⟨h1, h2, h3⟩ := h
  refine ⟨?_, ?_, ?_⟩
  · rw [n.1, w 0 (by decide)]; exact h1
  · rw [n.2.1, w 1 (by decide)]; exact h2
  · rw [n.2.2, w 2 (by decide)]; exact h3
theorem SLT.tr {κ : Kt} {σ τ : Gh} {x mm i : Nat} (h : SLT κ σ x mm i) (n : zI τ (kR κ (kR κ x 5) i) 7 = zI σ (kR κ (kR κ x 5) i) 7 ∧ zI τ (kR κ (kR κ x 5) i) 8 = zI σ (kR κ (kR κ x 5) i) 8 ∧ zI τ (kR κ (kR κ x 5) i) 9 = zI σ (kR κ (kR κ x 5) i) 9) (w : ∀ j : Nat, j < 3 → zJ τ (kR κ mm 3) (609 * i + j) = zJ σ (kR κ mm 3) (609 * i + j)) : SLT κ τ x mm i := by
  obtain ⟨h1, h2, h3⟩ := h
  refine ⟨?_, ?_, ?_⟩
  · rw [n.1, w 0 (by decide)]; exact h1
  · rw [n.2.1, w 1 (by decide)]; exact h2
  · rw [n.2.2, w 2 (by decide)]; exact h3
/-- saved: the slot is as now is -/
theorem SLT.sav {κ : Kt} {σ τ : Gh} {x mm i : Nat} (h : SNW κ σ x mm) (n : zI τ (kR κ (kR κ x 5) i) 7 = zI σ (kR κ x 3) 7 ∧ zI τ (kR κ (kR κ x 5) i) 8 = zI σ (kR κ x 3) 8 ∧ zI τ (kR κ (kR κ x 5) i) 9 = zI σ (kR κ x 3) 9) (w : ∀ j : Nat, j < 3 → zJ τ (kR κ mm 3) (609 * i + j) = zJ σ (kR κ mm 1) j) : SLT κ τ x mm i := by
  obtain ⟨h1, h2, h3⟩ := h
  refine ⟨?_, ?_, ?_⟩
  · rw [n.1, w 0 (by decide)]; exact h1
  · rw [n.2.1, w 1 (by decide)]; exact h2
  · rw [n.2.2, w 2 (by decide)]; exact h3
/-- restored: now is as the slot is -/
theorem SNW.res {κ : Kt} {σ τ : Gh} {x mm i : Nat} (h : SLT κ σ x mm i) (n : zI τ (kR κ x 3) 7 = zI σ (kR κ (kR κ x 5) i) 7 ∧ zI τ (kR κ x 3) 8 = zI σ (kR κ (kR κ x 5) i) 8 ∧ zI τ (kR κ x 3) 9 = zI σ (kR κ (kR κ x 5) i) 9) (w : ∀ j : Nat, j < 3 → zJ τ (kR κ mm 1) j = zJ σ (kR κ mm 3) (609 * i + j)) : SNW κ τ x mm := by
  obtain ⟨h1, h2, h3⟩ := h
  refine ⟨?_, ?_, ?_⟩
  · rw [n.1, w 0 (by decide)]; exact h1
  · rw [n.2.1, w 1 (by decide)]; exact h2
  · rw [n.2.2, w 2 (by decide)]; exact h3
/-- four States, and now's source -/
def DIS (κ : Kt) (x : Nat) : Prop := kR κ (kR κ x 3) 0 = kR κ x 1 ∧ (kR κ x 3 ≠ kR κ x 4 ∧ ∀ i : Nat, i < 2 → kR κ x 3 ≠ kR κ (kR κ x 5) i) ∧ (∀ i : Nat, i < 2 → kR κ x 4 ≠ kR κ (kR κ x 5) i) ∧ kR κ (kR κ x 5) 0 ≠ kR κ (kR κ x 5) 1
/-- references of a fresh object that starts at B; out of omega's sight -/
def A9 (κ : Kt) (B this : Nat) : Prop := kR κ (B + 8) 0 = B + 2 ∧ kR κ this 1 = B + 2 ∧ kR κ this 4 = B + 255 ∧ kR κ this 5 = B + 502 ∧ kR κ (B + 502) 0 = B + 503 ∧ kR κ (B + 502) 1 = B + 750
def I9 (σ : Gh) (B : Nat) : Prop := zT σ (B + 2) = 4 ∧ zI σ (B + 2) 3 = 0 ∧ zI σ (B + 2) 4 = 2 ∧ zI σ (B + 2) 5 = 1
theorem A9.cap {κ : Kt} {B this C S : Nat} {L : List Nat} (h : A9 κ B this) : A9 (kcap κ L C S) B this := h
theorem I9.ext {F : Nat → Nat → Bool} {sz B : Nat} {σ τ : Gh} (h : I9 σ B) (g : Ext F sz σ τ) (h3 : F 4 3 = false) (h4 : F 4 4 = false) (h5 : F 4 5 = false) : I9 τ B := by
  obtain ⟨k, i3, i4, i5⟩ := h
  have hk : zk σ (B + 2) 4 := k
  exact ⟨hk.ext g (by decide), (hk.eI g (by decide) h3).trans i3, (hk.eI g (by decide) h4).trans i4, (hk.eI g (by decide) h5).trans i5⟩
theorem I9.set {κ : Kt} {σ τ : Gh} {B this : Nat} (a : A9 κ B this) (i : I9 σ B) (rs : kR κ this 3 = B + 8) (h7 : zI τ (B + 8) 7 = zI σ (kR κ (B + 8) 0) 3) (h8 : zI τ (B + 8) 8 = zI σ (kR κ (B + 8) 0) 4) (h9 : zI τ (B + 8) 9 = zI σ (kR κ (B + 8) 0) 5) : zI τ (kR κ this 3) 7 = 0 ∧ zI τ (kR κ this 3) 8 = 2 ∧ zI τ (kR κ this 3) 9 = 1 := by
  obtain ⟨-, i3, i4, i5⟩ := i
  rw [a.1] at h7 h8 h9
  rw [rs]
  exact ⟨h7.trans i3, h8.trans i4, h9.trans i5⟩
theorem dis9 {κ : Kt} {this B : Nat} (rs : kR κ this 3 = B + 8) (a : A9 κ B this) : DIS κ this := by
  obtain ⟨zn, z1, z4, z5, zq0, zq1⟩ := a
  have zz : ∀ i : Nat, i < 2 → kR κ (kR κ this 5) i = B + 503 ∨ kR κ (kR κ this 5) i = B + 750 := fun i hi => by
    rw [z5]
    rcases (show i = 0 ∨ i = 1 by omega) with rfl | rfl
    · exact Or.inl zq0
    · exact Or.inr zq1
  have a1 : B + 8 ≠ B + 255 := by clear zn z1 z4 z5 zq0 zq1 rs zz; omega
  have a2 : B + 503 ≠ B + 750 := by clear zn z1 z4 z5 zq0 zq1 rs zz; omega
  have a3 : B + 8 ≠ B + 503 := by clear zn z1 z4 z5 zq0 zq1 rs zz; omega
  have a4 : B + 8 ≠ B + 750 := by clear zn z1 z4 z5 zq0 zq1 rs zz; omega
  have a5 : B + 255 ≠ B + 503 := by clear zn z1 z4 z5 zq0 zq1 rs zz; omega
  have a6 : B + 255 ≠ B + 750 := by clear zn z1 z4 z5 zq0 zq1 rs zz; omega
  refine ⟨by rw [rs, zn, z1], ⟨by rw [rs, z4]; exact a1, fun i hi => ?_⟩, fun i hi => ?_, by rw [z5, zq0, zq1]; exact a2⟩
  · rw [rs]
    rcases zz i hi with h | h
    · rw [h]; exact a3
    · rw [h]; exact a4
  · rw [z4]
    rcases zz i hi with h | h
    · rw [h]; exact a5
    · rw [h]; exact a6

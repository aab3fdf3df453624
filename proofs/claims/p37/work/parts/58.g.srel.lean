/-! Settings alike. -/
/-- a State's parts, as the constructor leaves them -/
def UST (κ : Kt) (σ : Gh) (k : Nat) : Prop := ∀ q, zT (gst k) q ≠ 0 → zT σ q ≠ 0 ∧ ∀ j, kR κ q j = if q = k then k + (150 + 2 * j) else if q = k + 3 then k + (12 + 3 * j) else q + 1
theorem UST.ini {κ0 κ : Kt} {σ : Gh} {k : Nat} (h1 : ∀ a t, t ≠ 0 → zT (gst k) a = t → zT σ a = t) (h2 : ∀ a, zT (gst k) a ≠ 0 → zI σ a = zI (gst k) a ∧ kR κ a = kR (kst κ0 k) a) : UST κ σ k := fun q hq => ⟨by rw [h1 q _ hq rfl]; exact hq, fun j => congrFun (h2 q hq).2 j⟩
theorem UST.carry {κ κ' : Kt} {σ σ' : Gh} {k : Nat} (h : UST κ σ k) (h1 : ∀ a t, t ≠ 0 → zT σ a = t → zT σ' a = t) (h2 : ∀ a, zT σ a ≠ 0 → zI σ' a = zI σ a ∧ kR κ' a = kR κ a) : UST κ' σ' k := fun q hq => ⟨by rw [h1 q _ (h q hq).1 rfl]; exact (h q hq).1, fun j => by rw [(h2 q (h q hq).1).2]; exact (h q hq).2 j⟩
theorem dw9 {κ : Kt} {st B : Nat} (h1 : kR κ st 1 = B) (h2 : ∀ j, j < 48 → kR κ B j = B + (150 + 2 * j)) (h3 : kR κ st 4 = B + 3) (h4 : ∀ j, j < 46 → kR κ (B + 3) j = B + (12 + 3 * j)) (h5 : ∀ j, j < 46 → kR κ (B + (12 + 3 * j)) 9 = B + (12 + 3 * j) + 1) (h6 : kR κ st 6 = B + 4) (h7 : kR κ st 11 = B + 8) (h8 : kR κ st 12 = B + 10) : DW κ st := by
  have k1 : ∀ i, i < 48 → wh κ st i = B + (150 + 2 * i) := fun i hi => by rw [wh_v hi, h1, h2 i hi]
  have k2 : ∀ i, ¬ i < 48 → i < 94 → wh κ st i = B + (12 + 3 * (i - 48)) + 1 := fun i c hi => by
    obtain ⟨j, rfl⟩ : ∃ j, i = 48 + j := ⟨i - 48, by omega⟩
    rw [wh_d (show j < 46 by omega), h3, h4 j (by omega), h5 j (by omega), show 48 + j - 48 = j by omega]
  have k3 : ∀ i, ¬ i < 94 → i < 97 → wh κ st i = B + (4 + 4 * (i - 94) - 2 * ((i - 94) / 2)) := fun i c hi => by
    rcases (show i = 94 ∨ i = 95 ∨ i = 96 by omega) with rfl | rfl | rfl
    · exact h6
    · exact h7
    · exact h8
  clear h1 h2 h3 h4 h5 h6 h7 h8
  intro i j hi hj e
  by_cases c1 : i < 48
  · rw [k1 i c1] at e
    by_cases d1 : j < 48
    · rw [k1 j d1] at e; clear k1 k2 k3; omega
    · by_cases d2 : j < 94
      · rw [k2 j d1 d2] at e; clear k1 k2 k3; omega
      · rw [k3 j d2 hj] at e; clear k1 k2 k3; omega
  · by_cases c2 : i < 94
    · rw [k2 i c1 c2] at e
      by_cases d1 : j < 48
      · rw [k1 j d1] at e; clear k1 k2 k3; omega
      · by_cases d2 : j < 94
        · rw [k2 j d1 d2] at e; clear k1 k2 k3; omega
        · rw [k3 j d2 hj] at e; clear k1 k2 k3; omega
    · rw [k3 i c2 hi] at e
      by_cases d1 : j < 48
      · rw [k1 j d1] at e; clear k1 k2 k3; omega
      · by_cases d2 : j < 94
        · rw [k2 j d1 d2] at e; clear k1 k2 k3; omega
        · rw [k3 j d2 hj] at e; clear k1 k2 k3; omega
theorem UST.dw {κ : Kt} {σ : Gh} {k st : Nat} (h : UST κ σ k) (h1 : kR κ st 1 = k + 0) (h4 : kR κ st 4 = k + 3) (h6 : kR κ st 6 = k + 4) (h11 : kR κ st 11 = k + 8) (h12 : kR κ st 12 = k + 10) : DW κ st := by
  refine dw9 h1 (fun j hj => ?_) h4 (fun j hj => ?_) (fun j hj => ?_) h6 h11 h12
  · rw [(h k (by rw [show zT (gst k) k = gstT 0 from gst_T k 0]; decide)).2 j, if_pos rfl]
  · rw [(h (k + 3) (by rw [gst_T]; decide)).2 j, if_neg (by omega), if_pos rfl]
  · rw [(h (k + (12 + 3 * j)) (by rw [gst_T, gstT_s hj]; decide)).2 9, if_neg (by omega), if_neg (by omega)]
theorem DW.tr {κ κ' : Kt} {st : Nat} (h : DW κ st) (e0 : kR κ' st = kR κ st) (e1 : kR κ' (kR κ st 1) = kR κ (kR κ st 1)) (e4 : kR κ' (kR κ st 4) = kR κ (kR κ st 4)) (e9 : ∀ j, j < 46 → kR κ' (kR κ (kR κ st 4) j) = kR κ (kR κ (kR κ st 4) j)) : DW κ' st := by
  have key : ∀ i, i < 97 → wh κ' st i = wh κ st i := fun i hi => by
    unfold wh
    rw [e0, e1, e4]
    by_cases c1 : i < 48
    · rw [if_pos c1, if_pos c1]
    · rw [if_neg c1, if_neg c1]
      by_cases c2 : i < 94
      · rw [if_pos c2, if_pos c2, e9 _ (by omega)]
      · rw [if_neg c2, if_neg c2]
  intro i j hi hj e
  rw [key i hi, key j hj] at e
  exact h i j hi hj e
/-- settings alike: now's, and those of kept slots -/
def SNW (κ : Kt) (σ : Gh) (x mm : Nat) : Prop := (zI σ (kR κ x 3) 7).toInt = (zJ σ (kR κ mm 1) 0).toInt ∧ (zI σ (kR κ x 3) 8).toInt = (zJ σ (kR κ mm 1) 1).toInt ∧ (zI σ (kR κ x 3) 9).toInt = (zJ σ (kR κ mm 1) 2).toInt
def SLT (κ : Kt) (σ : Gh) (x mm i : Nat) : Prop := (zI σ (kR κ (kR κ x 5) i) 7).toInt = (zJ σ (kR κ mm 3) (609 * i + 0)).toInt ∧ (zI σ (kR κ (kR κ x 5) i) 8).toInt = (zJ σ (kR κ mm 3) (609 * i + 1)).toInt ∧ (zI σ (kR κ (kR κ x 5) i) 9).toInt = (zJ σ (kR κ mm 3) (609 * i + 2)).toInt
def SREL (κ : Kt) (σ : Gh) (x mm : Nat) : Prop := SNW κ σ x mm ∧ ∀ i : Nat, i < 2 → zI σ (kR κ x 6) i ≠ 0 → SLT κ σ x mm i
theorem SNW.tr {κ : Kt} {σ τ : Gh} {x mm : Nat} (h : SNW κ σ x mm) (n : zI τ (kR κ x 3) 7 = zI σ (kR κ x 3) 7 ∧ zI τ (kR κ x 3) 8 = zI σ (kR κ x 3) 8 ∧ zI τ (kR κ x 3) 9 = zI σ (kR κ x 3) 9) (w : ∀ j : Nat, j < 3 → zJ τ (kR κ mm 1) j = zJ σ (kR κ mm 1) j) : SNW κ τ x mm := by
  obtain ⟨h1, h2, h3⟩ := h
  refine ⟨?_, ?_, ?_⟩
  · rw [n.1, w 0 (by decide)]; exact h1
  · rw [n.2.1, w 1 (by decide)]; exact h2
  · rw [n.2.2, w 2 (by decide)]; exact h3
theorem SLT.tr {κ : Kt} {σ τ : Gh} {x mm i : Nat} (h : SLT κ σ x mm i) (n : zI τ (kR κ (kR κ x 5) i) 7 = zI σ (kR κ (kR κ x 5) i) 7 ∧ zI τ (kR κ (kR κ x 5) i) 8 = zI σ (kR κ (kR κ x 5) i) 8 ∧ zI τ (kR κ (kR κ x 5) i) 9 = zI σ (kR κ (kR κ x 5) i) 9) (w : ∀ j : Nat, j < 3 → zJ τ (kR κ mm 3) (609 * i + j) = zJ σ (kR κ mm 3) (609 * i + j)) : SLT κ τ x mm i := by
  obtain ⟨h1, h2, h3⟩ := h
  refine ⟨?_, ?_, ?_⟩
  · rw [n.1, w 0 (by decide)]; exact h1
  · rw [n.2.1, w 1 (by decide)]; exact h2
  · rw [n.2.2, w 2 (by decide)]; exact h3
/-- saved: the slot is as now is -/
theorem SLT.sav {κ : Kt} {σ τ : Gh} {x mm i : Nat} (h : SNW κ σ x mm) (n : zI τ (kR κ (kR κ x 5) i) 7 = zI σ (kR κ x 3) 7 ∧ zI τ (kR κ (kR κ x 5) i) 8 = zI σ (kR κ x 3) 8 ∧ zI τ (kR κ (kR κ x 5) i) 9 = zI σ (kR κ x 3) 9) (w : ∀ j : Nat, j < 3 → zJ τ (kR κ mm 3) (609 * i + j) = zJ σ (kR κ mm 1) j) : SLT κ τ x mm i := by
  obtain ⟨h1, h2, h3⟩ := h
  refine ⟨?_, ?_, ?_⟩
  · rw [n.1, w 0 (by decide)]; exact h1
  · rw [n.2.1, w 1 (by decide)]; exact h2
  · rw [n.2.2, w 2 (by decide)]; exact h3
/-- restored: now is as the slot is -/
theorem SNW.res {κ : Kt} {σ τ : Gh} {x mm i : Nat} (h : SLT κ σ x mm i) (n : zI τ (kR κ x 3) 7 = zI σ (kR κ (kR κ x 5) i) 7 ∧ zI τ (kR κ x 3) 8 = zI σ (kR κ (kR κ x 5) i) 8 ∧ zI τ (kR κ x 3) 9 = zI σ (kR κ (kR κ x 5) i) 9) (w : ∀ j : Nat, j < 3 → zJ τ (kR κ mm 1) j = zJ σ (kR κ mm 3) (609 * i + j)) : SNW κ τ x mm := by
  obtain ⟨h1, h2, h3⟩ := h
  refine ⟨?_, ?_, ?_⟩
  · rw [n.1, w 0 (by decide)]; exact h1
  · rw [n.2.1, w 1 (by decide)]; exact h2
  · rw [n.2.2, w 2 (by decide)]; exact h3
/-- four States, and now's source -/
def DIS (κ : Kt) (x : Nat) : Prop := kR κ (kR κ x 3) 0 = kR κ x 1 ∧ (kR κ x 3 ≠ kR κ x 4 ∧ ∀ i : Nat, i < 2 → kR κ x 3 ≠ kR κ (kR κ x 5) i) ∧ (∀ i : Nat, i < 2 → kR κ x 4 ≠ kR κ (kR κ x 5) i) ∧ kR κ (kR κ x 5) 0 ≠ kR κ (kR κ x 5) 1 ∧ (kR κ (kR κ x 4) 0 = kR κ x 1 ∧ DW κ (kR κ x 4))
/-- references of a fresh object that starts at B; out of omega's sight -/
def A9 (κ : Kt) (B this : Nat) : Prop := kR κ (B + 8) 0 = B + 2 ∧ kR κ this 1 = B + 2 ∧ kR κ this 4 = B + 255 ∧ kR κ this 5 = B + 502 ∧ kR κ (B + 502) 0 = B + 503 ∧ kR κ (B + 502) 1 = B + 750 ∧ (kR κ (B + 255) 0 = B + 2 ∧ kR κ (B + 2) 0 = B + 3 ∧ kR κ (B + 2) 1 = B + 4 ∧ DW κ (B + 255))
def I9 (σ : Gh) (B : Nat) : Prop := zT σ (B + 2) = 4 ∧ zI σ (B + 2) 3 = 0 ∧ zI σ (B + 2) 4 = 2 ∧ zI σ (B + 2) 5 = 1 ∧ ((zI σ (B + 2) 2 = 2 ∧ zI σ (B + 2) 6 = 2) ∧ (zT σ (B + 3) = 8 ∧ zT σ (B + 4) = 16) ∧ (zI σ (B + 3) 0 = 0 ∧ zI σ (B + 3) 1 = 1) ∧ zI σ (B + 4) 0 = 0 ∧ zI σ (B + 4) 1 = 0)
theorem A9.cap {κ : Kt} {B this C S : Nat} {L : List Nat} (h : A9 κ B this) : A9 (kcap κ L C S) B this := h
theorem I9.ext {F : Nat → Nat → Bool} {sz B : Nat} {σ τ : Gh} (h : I9 σ B) (g : Ext F sz σ τ) (h3 : F 4 3 = false) (h4 : F 4 4 = false) (h5 : F 4 5 = false) (h2 : F 4 2 = false) (h6 : F 4 6 = false) (h8 : ∀ k, F 8 k = false) (h16 : ∀ k, F 16 k = false) : I9 τ B := by
  obtain ⟨k, i3, i4, i5, ⟨i2, i6⟩, ⟨k8, k16⟩, ⟨p0, p1⟩, o0, o1⟩ := h
  have y8 : zk σ (B + 3) 8 := k8
  have y16 : zk σ (B + 4) 16 := k16
  have hk : zk σ (B + 2) 4 := k
  exact ⟨hk.ext g (by decide), (hk.eI g (by decide) h3).trans i3, (hk.eI g (by decide) h4).trans i4, (hk.eI g (by decide) h5).trans i5, ⟨(hk.eI g (by decide) h2).trans i2, (hk.eI g (by decide) h6).trans i6⟩, ⟨y8.ext g (by decide), y16.ext g (by decide)⟩, ⟨(y8.eI g (by decide) (h8 0)).trans p0, (y8.eI g (by decide) (h8 1)).trans p1⟩, (y16.eI g (by decide) (h16 0)).trans o0, (y16.eI g (by decide) (h16 1)).trans o1⟩
theorem I9.set {κ : Kt} {σ τ : Gh} {B this : Nat} (a : A9 κ B this) (i : I9 σ B) (rs : kR κ this 3 = B + 8) (h7 : zI τ (B + 8) 7 = zI σ (kR κ (B + 8) 0) 3) (h8 : zI τ (B + 8) 8 = zI σ (kR κ (B + 8) 0) 4) (h9 : zI τ (B + 8) 9 = zI σ (kR κ (B + 8) 0) 5) : zI τ (kR κ this 3) 7 = 0 ∧ zI τ (kR κ this 3) 8 = 2 ∧ zI τ (kR κ this 3) 9 = 1 := by
  obtain ⟨-, i3, i4, i5, -⟩ := i
  rw [a.1] at h7 h8 h9
  rw [rs]
  exact ⟨h7.trans i3, h8.trans i4, h9.trans i5⟩
theorem dis9 {κ : Kt} {this B : Nat} (rs : kR κ this 3 = B + 8) (a : A9 κ B this) : DIS κ this := by
  obtain ⟨zn, z1, z4, z5, zq0, zq1, zt0, -, -, zdw⟩ := a
  have zz : ∀ i : Nat, i < 2 → kR κ (kR κ this 5) i = B + 503 ∨ kR κ (kR κ this 5) i = B + 750 := fun i hi => by
    rw [z5]
    rcases (show i = 0 ∨ i = 1 by omega) with rfl | rfl
    · exact Or.inl zq0
    · exact Or.inr zq1
  have a1 : B + 8 ≠ B + 255 := by clear zn z1 z4 z5 zq0 zq1 rs zz zt0 zdw; omega
  have a2 : B + 503 ≠ B + 750 := by clear zn z1 z4 z5 zq0 zq1 rs zz zt0 zdw; omega
  have a3 : B + 8 ≠ B + 503 := by clear zn z1 z4 z5 zq0 zq1 rs zz zt0 zdw; omega
  have a4 : B + 8 ≠ B + 750 := by clear zn z1 z4 z5 zq0 zq1 rs zz zt0 zdw; omega
  have a5 : B + 255 ≠ B + 503 := by clear zn z1 z4 z5 zq0 zq1 rs zz zt0 zdw; omega
  have a6 : B + 255 ≠ B + 750 := by clear zn z1 z4 z5 zq0 zq1 rs zz zt0 zdw; omega
  refine ⟨by rw [rs, zn, z1], ⟨by rw [rs, z4]; exact a1, fun i hi => ?_⟩, fun i hi => ?_, by rw [z5, zq0, zq1]; exact a2, by rw [z4, z1]; exact zt0, by rw [z4]; exact zdw⟩
  · rw [rs]
    rcases zz i hi with h | h
    · rw [h]; exact a3
    · rw [h]; exact a4
  · rw [z4]
    rcases zz i hi with h | h
    · rw [h]; exact a5
    · rw [h]; exact a6
/-- the samples of a fresh object, and of a fresh reference -/
def S9 (κ : Kt) (σ : Gh) (x : Nat) : Prop := (zI σ (kR κ x 1) 2 = 2 ∧ zI σ (kR κ x 1) 6 = 2) ∧ (zI σ (kR κ (kR κ x 1) 0) 0 = 0 ∧ zI σ (kR κ (kR κ x 1) 0) 1 = 1) ∧ zI σ (kR κ (kR κ x 1) 1) 0 = 0 ∧ zI σ (kR κ (kR κ x 1) 1) 1 = 0
def M9 (κ : Kt) (σ : Gh) (mm : Nat) : Prop := (zI σ mm 7 = 2 ∧ zI σ mm 8 = 2) ∧ (zI σ (kR κ mm 5) 0 = 0 ∧ zI σ (kR κ mm 5) 1 = 1) ∧ zI σ (kR κ mm 6) 0 = 0 ∧ zI σ (kR κ mm 6) 1 = 0
theorem I9.s9 {κ : Kt} {τ : Gh} {B this : Nat} (a : A9 κ B this) (i : I9 τ B) : S9 κ τ this := by
  obtain ⟨-, -, -, -, i2, -, ip, io⟩ := i
  obtain ⟨-, z1, -, -, -, -, -, zp, zo, -⟩ := a
  unfold S9
  rw [z1, zp, zo]
  exact ⟨i2, ip, io⟩
/-- samples alike: their number, the least, places and values -/
def SMP (κ : Kt) (σ : Gh) (x mm : Nat) : Prop := ∃ (n : Nat) (g : Nat → Int), ((zI σ (kR κ x 1) 2).toInt = n ∧ (zI σ mm 7).toInt = n) ∧ ((zI σ (kR κ x 1) 6).toInt = g 3 ∧ (zI σ mm 8).toInt = g 3) ∧ (usP (zI σ (kR κ (kR κ x 1) 0)) n g ∧ usP (zI σ (kR κ mm 5)) n g) ∧ (usO (zI σ (kR κ (kR κ x 1) 1)) n g ∧ usO (zI σ (kR κ mm 6)) n g) ∧ usB n g
theorem SMP.tr {κ : Kt} {σ τ : Gh} {x mm : Nat} (h : SMP κ σ x mm) (c : zI τ (kR κ x 1) 2 = zI σ (kR κ x 1) 2 ∧ zI τ (kR κ x 1) 6 = zI σ (kR κ x 1) 6 ∧ zI τ (kR κ (kR κ x 1) 0) = zI σ (kR κ (kR κ x 1) 0) ∧ zI τ (kR κ (kR κ x 1) 1) = zI σ (kR κ (kR κ x 1) 1)) (m : zI τ mm 7 = zI σ mm 7 ∧ zI τ mm 8 = zI σ mm 8 ∧ zI τ (kR κ mm 5) = zI σ (kR κ mm 5) ∧ zI τ (kR κ mm 6) = zI σ (kR κ mm 6)) : SMP κ τ x mm := by
  obtain ⟨n, g, h1, h2, h3, h4, h5⟩ := h
  refine ⟨n, g, ?_, ?_, ?_, ?_, h5⟩
  · rw [c.1, m.1]; exact h1
  · rw [c.2.1, m.2.1]; exact h2
  · rw [c.2.2.1, m.2.2.1]; exact h3
  · rw [c.2.2.2, m.2.2.2]; exact h4
theorem SMP.src {κ : Kt} {σ : Gh} {x mm : Nat} (h : SMP κ σ x mm) (d : kR κ (kR κ x 4) 0 = kR κ x 1) : SRC κ σ (kR κ x 4) (rN σ mm) (plf (zI σ (kR κ mm 5))) ∧ (∀ k, k < rN σ mm → (zI σ (kR κ (kR κ (kR κ x 4) 0) 1) k).toInt = plf (zI σ (kR κ mm 6)) k) ∧ (∀ k, k < rN σ mm → -9999 ≤ plf (zI σ (kR κ mm 6)) k ∧ plf (zI σ (kR κ mm 6)) k ≤ 9999) ∧ (zI σ (kR κ (kR κ x 4) 0) 6).toInt = (zI σ mm 8).toInt := by
  obtain ⟨n, g, ⟨c1, m1⟩, ⟨c2, m2⟩, ⟨c3, m3⟩, ⟨c4, m4⟩, h5⟩ := h
  have en : rN σ mm = n := by unfold rN; omega
  unfold SRC
  rw [d, en]
  refine ⟨⟨c1, fun k hk => (c3 k hk).trans (m3 k hk).symm⟩, fun k hk => (c4 k hk).trans (m4 k hk).symm, fun k hk => ?_, c2.trans m2.symm⟩
  have z := h5 k hk
  rw [← m4 k hk] at z
  exact z
theorem SMP.ini {κ : Kt} {τ : Gh} {x mm : Nat} (h : S9 κ τ x) (k : M9 κ τ mm) : SMP κ τ x mm := by
  obtain ⟨⟨h1, h2⟩, ⟨h3, h4⟩, h5, h6⟩ := h
  obtain ⟨⟨k1, k2⟩, ⟨k3, k4⟩, k5, k6⟩ := k
  have d : ∀ j : Nat, j < 2 → j = 0 ∨ j = 1 := fun j hj => by omega
  refine ⟨2, fun j => if j = 12 then 1 else if j = 3 then 2 else 0, ⟨by rw [h1]; decide, by rw [k1]; decide⟩, ⟨by rw [h2]; decide, by rw [k2]; decide⟩, ⟨fun j hj => ?_, fun j hj => ?_⟩, ⟨fun j hj => ?_, fun j hj => ?_⟩, fun j hj => ?_⟩
  · rcases d j hj with rfl | rfl
    · rw [h3]; decide
    · rw [h4]; decide
  · rcases d j hj with rfl | rfl
    · rw [k3]; decide
    · rw [k4]; decide
  · rcases d j hj with rfl | rfl
    · rw [h5]; decide
    · rw [h6]; decide
  · rcases d j hj with rfl | rfl
    · rw [k5]; decide
    · rw [k6]; decide
  · rcases d j hj with rfl | rfl <;> decide

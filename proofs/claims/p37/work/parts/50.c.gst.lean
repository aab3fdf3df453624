/-! A State's cells as a constructor leaves them, all but its own. -/
def gstT (d : Nat) : Nat := if d = 0 then 10 else if d = 1 then 9 else if d = 2 then 15 else if d = 3 then 11 else if d < 12 then (if d % 2 = 0 then 1 else 102) else if d < 150 then (if d % 3 = 0 then 2 else if d % 3 = 1 then 1 else 102) else if d < 246 then (if d % 2 = 0 then 1 else 102) else 0
def gst (sz : Nat) : Gh := (fun x => if x < sz then 0 else gstT (x - sz), fun x => if gstT (x - sz) = 1 then 2 + 2048 * (x + 1) else 2 + 2048 * (x - 1), fun x => if x = sz + 6 then (fun k => if k = 1 then 1 else 0) else if x = sz + 7 then upd (upd (fun _ => 0) 0 1) 1 0 else fun _ => 0, fun _ _ => 0)
def kst (κ : Kt) (sz : Nat) : Kt := kw κ (fun x k => if x = sz then sz + (150 + 2 * k) else if x = sz + 3 then sz + (12 + 3 * k) else x + 1)
theorem gst_T (sz d : Nat) : zT (gst sz) (sz + d) = gstT d := by
  show (if sz + d < sz then 0 else gstT (sz + d - sz)) = _
  rw [if_neg (by omega), show sz + d - sz = d by omega]
theorem gst_M1 {sz d : Nat} (h : gstT d = 1) : zM (gst sz) (sz + d) = 2 + 2048 * (sz + d + 1) := by
  show (if gstT (sz + d - sz) = 1 then _ else _) = _
  rw [show sz + d - sz = d by omega, if_pos h]
theorem gst_M2 {sz d : Nat} (h : gstT d ≠ 1) : zM (gst sz) (sz + d) = 2 + 2048 * (sz + d - 1) := by
  show (if gstT (sz + d - sz) = 1 then _ else _) = _
  rw [show sz + d - sz = d by omega, if_neg h]
theorem gst_W9 {sz d : Nat} (ht : gstT d = 1) (hl : gstT (d + 1) = 102) : zT (gst sz) (sz + d + 1) = 100 + zM (gst sz) (sz + d) % 2048 ∧ sz + d + 1 = zM (gst sz) (sz + d) / 2048 ∧ zM (gst sz) (sz + d + 1) / 2048 = sz + d := by
  rw [gst_M1 ht, show sz + d + 1 = sz + (d + 1) by omega, gst_T, hl, gst_M2 (d := d + 1) (by rw [hl]; decide)]
  omega
theorem gstT_0 {d : Nat} (h : 246 ≤ d) : gstT d = 0 := by
  unfold gstT
  rw [if_neg (by omega), if_neg (by omega), if_neg (by omega), if_neg (by omega), if_neg (by omega), if_neg (by omega), if_neg (by omega)]
theorem gst_0 {sz x : Nat} (h : x < sz ∨ sz + 246 ≤ x) : zT (gst sz) x = 0 := by
  by_cases h1 : x < sz
  · show (if x < sz then 0 else gstT (x - sz)) = 0
    rw [if_pos h1]
  · obtain ⟨d, rfl⟩ : ∃ d, x = sz + d := ⟨x - sz, by omega⟩
    rw [gst_T]
    exact gstT_0 (by omega)
theorem gst_in {sz x : Nat} (h : zT (gst sz) x ≠ 0) : sz ≤ x ∧ x < sz + 246 := by
  by_cases h1 : x < sz ∨ sz + 246 ≤ x
  · exact absurd (gst_0 h1) h
  · omega
theorem gstT_w {i : Nat} (h : i < 48) : gstT (150 + 2 * i) = 1 := by
  unfold gstT
  rw [if_neg (by omega), if_neg (by omega), if_neg (by omega), if_neg (by omega), if_neg (by omega), if_neg (by omega), if_pos (by omega), if_pos (by omega)]
theorem gstT_wl {i : Nat} (h : i < 48) : gstT (150 + 2 * i + 1) = 102 := by
  unfold gstT
  rw [if_neg (by omega), if_neg (by omega), if_neg (by omega), if_neg (by omega), if_neg (by omega), if_neg (by omega), if_pos (by omega), if_neg (by omega)]
theorem gstT_s {i : Nat} (h : i < 46) : gstT (12 + 3 * i) = 2 := by
  unfold gstT
  rw [if_neg (by omega), if_neg (by omega), if_neg (by omega), if_neg (by omega), if_neg (by omega), if_pos (by omega), if_pos (by omega)]
theorem gstT_sw {i : Nat} (h : i < 46) : gstT (12 + 3 * i + 1) = 1 := by
  unfold gstT
  rw [if_neg (by omega), if_neg (by omega), if_neg (by omega), if_neg (by omega), if_neg (by omega), if_pos (by omega), if_neg (by omega), if_pos (by omega)]
theorem gstT_sl {i : Nat} (h : i < 46) : gstT (12 + 3 * i + 2) = 102 := by
  unfold gstT
  rw [if_neg (by omega), if_neg (by omega), if_neg (by omega), if_neg (by omega), if_neg (by omega), if_pos (by omega), if_neg (by omega), if_neg (by omega)]
theorem gst_I {sz d : Nat} (h6 : d ≠ 6) (h7 : d ≠ 7) : zI (gst sz) (sz + d) = fun _ => 0 := by
  show (if sz + d = sz + 6 then _ else if sz + d = sz + 7 then _ else fun _ => 0) = _
  rw [if_neg (by omega), if_neg (by omega)]
theorem kst_R0 {κ : Kt} {sz : Nat} : kR (kst κ sz) (sz + 0) = fun k => sz + (150 + 2 * k) := by
  funext k
  show (if sz + 0 = sz then _ else _) = _
  rw [if_pos (show sz + 0 = sz from rfl)]
theorem kst_R3 {κ : Kt} {sz : Nat} : kR (kst κ sz) (sz + 3) = fun k => sz + (12 + 3 * k) := by
  funext k
  show (if sz + 3 = sz then _ else if sz + 3 = sz + 3 then _ else _) = _
  rw [if_neg (by omega), if_pos rfl]
theorem kst_Rs {κ : Kt} {sz d : Nat} (h : 4 ≤ d) : kR (kst κ sz) (sz + d) = fun _ => sz + d + 1 := by
  funext k
  show (if sz + d = sz then _ else if sz + d = sz + 3 then _ else sz + d + 1) = _
  rw [if_neg (by omega), if_neg (by omega)]
theorem zP1_0 {c : Nat → Int32} (h1 : zB (c 1) 0 2) (h2 : isB (c 2)) : zP 1 2 c := ⟨⟨by decide, by decide⟩, h1, h2⟩
theorem zB_0 {lo hi : Int} (h : lo ≤ 0) (g : 0 ≤ hi) : zB 0 lo hi := ⟨h, g⟩
section GST
variable {κ : Kt} {sz : Nat} {H : Heap}
/-- a Whole with the number 0 -/
theorem gst_W {d : Nat} (h6 : d ≠ 6) (h7 : d ≠ 7) (ht : gstT d = 1) (hl : gstT (d + 1) = 102) (f : va_at κ.1 vwCl (sz + d, .inr (4, [.ref (sz + d + 1), .int 0, .int 0])) H) : zok (kst κ sz) (zT (gst sz)) (zM (gst sz)) H (sz + d) (gstT d) (zM (gst sz) (sz + d)) (zI (gst sz) (sz + d)) (zJ (gst sz) (sz + d)) := by
  rw [ht, gst_I h6 h7]
  exact Or.inr ⟨sz + d + 1, f, by rw [gst_M1 ht, show (2 + 2048 * (sz + d + 1)) % 2048 = 2 by omega]; exact zP1_0 (zB_0 (by decide) (by decide)) isB0, (fun p hp => by cases hp), fun _ => gst_W9 ht hl⟩
theorem gst_L {d : Nat} (h6 : d ≠ 6) (h7 : d ≠ 7) (ht : gstT d = 102) (f : va_at κ.1 vwCl (sz + d, .inl (kA κ 0, 2, .inl (fun _ => 0))) H) : zok (kst κ sz) (zT (gst sz)) (zM (gst sz)) H (sz + d) (gstT d) (zM (gst sz) (sz + d)) (zI (gst sz) (sz + d)) (zJ (gst sz) (sz + d)) := by
  rw [ht, gst_I h6 h7]
  exact Or.inr ⟨0, f, trivial, (fun p hp => by cases hp), fun h => by cases h⟩
theorem gst_TI (f0 : va_at κ.1 vwCl (sz + 0, .inl (kA κ 4, 48, .inr (.inr (.inr (.inr (fun j => some (sz + (150 + 2 * j)))))))) H) (f1 : va_at κ.1 vwCl (sz + 1, .inl (kA κ 1, 48, .inr (.inl (fun _ => 0)))) H) (f2 : va_at κ.1 vwCl (sz + 2, .inl (kA κ 0, 48, .inl (fun _ => 0))) H) (f3 : va_at κ.1 vwCl (sz + 3, .inl (kA κ 5, 46, .inr (.inr (.inr (.inr (fun j => some (sz + (12 + 3 * j)))))))) H)
    (f4 : va_at κ.1 vwCl (sz + 4, .inr (4, [.ref (sz + 5), .int 0, .int 0])) H) (f5 : va_at κ.1 vwCl (sz + 5, .inl (kA κ 0, 2, .inl (fun _ => 0))) H) (f6 : va_at κ.1 vwCl (sz + 6, .inr (4, [.ref (sz + 7), .int 1, .int 0])) H) (f7 : va_at κ.1 vwCl (sz + 7, .inl (kA κ 0, 2, .inl (upd (upd (fun _ => 0) 0 1) 1 0))) H)
    (f8 : va_at κ.1 vwCl (sz + 8, .inr (4, [.ref (sz + 9), .int 0, .int 0])) H) (f9 : va_at κ.1 vwCl (sz + 9, .inl (kA κ 0, 2, .inl (fun _ => 0))) H) (f10 : va_at κ.1 vwCl (sz + 10, .inr (4, [.ref (sz + 11), .int 0, .int 0])) H) (f11 : va_at κ.1 vwCl (sz + 11, .inl (kA κ 0, 2, .inl (fun _ => 0))) H)
    (hF1 : ∀ j, j < 46 → va_at κ.1 vwCl (sz + (12 + 3 * j), .inr (2, [.int 0, .int 0, .int 0, .long 0, .long 0, .long 0, .long 0, .int 0, .int 0, .ref (sz + (12 + 3 * j) + 1)])) H ∧ va_at κ.1 vwCl (sz + (12 + 3 * j) + 1, .inr (4, [.ref (sz + (12 + 3 * j) + 2), .int 0, .int 0])) H ∧ va_at κ.1 vwCl (sz + (12 + 3 * j) + 2, .inl (kA κ 0, 2, .inl (fun _ => 0))) H)
    (hF2 : ∀ j, j < 48 → va_at κ.1 vwCl (sz + (150 + 2 * j), .inr (4, [.ref (sz + (150 + 2 * j) + 1), .int 0, .int 0])) H ∧ va_at κ.1 vwCl (sz + (150 + 2 * j) + 1, .inl (kA κ 0, 2, .inl (fun _ => 0))) H) : TI (kst κ sz) (gst sz) H := by
  intro x
  by_cases hx : x < sz
  · exact Or.inl (gst_0 (Or.inl hx))
  obtain ⟨d, rfl⟩ : ∃ d, x = sz + d := ⟨x - sz, by omega⟩
  rw [gst_T]
  by_cases e0 : d = 0
  · subst e0
    rw [gst_I (by decide) (by decide), show gstT 0 = 10 from by decide]
    refine Or.inr ⟨0, ?_, trivial, fun p hp => ?_, fun h => by cases h⟩
    · show va_at κ.1 vwCl (sz + 0, .inl (kA κ 4, 48, .inr (.inr (.inr (.inr fun i => some (kR (kst κ sz) (sz + 0) i)))))) H
      rw [kst_R0]; exact f0
    · obtain ⟨i, hi, rfl⟩ := List.mem_map.mp hp
      refine Or.inr ?_
      rw [kst_R0]
      show zT (gst sz) (sz + (150 + 2 * i)) = 1
      rw [gst_T]; exact gstT_w (List.mem_range.mp hi)
  by_cases e1 : d = 1
  · subst e1
    rw [gst_I (by decide) (by decide), show gstT 1 = 9 from by decide]
    exact Or.inr ⟨0, f1, trivial, (fun p hp => by cases hp), fun h => by cases h⟩
  by_cases e2 : d = 2
  · subst e2
    rw [gst_I (by decide) (by decide), show gstT 2 = 15 from by decide]
    exact Or.inr ⟨0, f2, trivial, (fun p hp => by cases hp), fun h => by cases h⟩
  by_cases e3 : d = 3
  · subst e3
    rw [gst_I (by decide) (by decide), show gstT 3 = 11 from by decide]
    refine Or.inr ⟨0, ?_, trivial, fun p hp => ?_, fun h => by cases h⟩
    · show va_at κ.1 vwCl (sz + 3, .inl (kA κ 5, 46, .inr (.inr (.inr (.inr fun i => some (kR (kst κ sz) (sz + 3) i)))))) H
      rw [kst_R3]; exact f3
    · obtain ⟨i, hi, rfl⟩ := List.mem_map.mp hp
      refine Or.inr ?_
      rw [kst_R3]
      show zT (gst sz) (sz + (12 + 3 * i)) = 2
      rw [gst_T]; exact gstT_s (List.mem_range.mp hi)
  by_cases e4 : d = 4
  · subst e4; exact gst_W (by decide) (by decide) (by decide) (by decide) f4
  by_cases e5 : d = 5
  · subst e5; exact gst_L (by decide) (by decide) (by decide) f5
  by_cases e6 : d = 6
  · subst e6
    have hI : zI (gst sz) (sz + 6) = fun k => if k = 1 then 1 else 0 := by
      show (if sz + 6 = sz + 6 then _ else _) = _
      rw [if_pos rfl]
    rw [hI, show gstT 6 = 1 from by decide]
    exact Or.inr ⟨sz + 7, f6, by rw [gst_M1 (d := 6) (by decide), show (2 + 2048 * (sz + 6 + 1)) % 2048 = 2 by omega]; exact zP1_0 ⟨by decide, by decide⟩ isB0, (fun p hp => by cases hp), fun _ => gst_W9 (d := 6) (by decide) (by decide)⟩
  by_cases e7 : d = 7
  · subst e7
    have hI : zI (gst sz) (sz + 7) = upd (upd (fun _ => 0) 0 1) 1 0 := by
      show (if sz + 7 = sz + 6 then _ else if sz + 7 = sz + 7 then _ else _) = _
      rw [if_neg (by omega), if_pos rfl]
    rw [hI, show gstT 7 = 102 from by decide]
    exact Or.inr ⟨0, f7, trivial, (fun p hp => by cases hp), fun h => by cases h⟩
  by_cases e8 : d = 8
  · subst e8; exact gst_W (by decide) (by decide) (by decide) (by decide) f8
  by_cases e9 : d = 9
  · subst e9; exact gst_L (by decide) (by decide) (by decide) f9
  by_cases e10 : d = 10
  · subst e10; exact gst_W (by decide) (by decide) (by decide) (by decide) f10
  by_cases e11 : d = 11
  · subst e11; exact gst_L (by decide) (by decide) (by decide) f11
  by_cases h150 : d < 150
  · obtain ⟨j, hj⟩ : ∃ j, j = (d - 12) / 3 := ⟨_, rfl⟩
    have hj46 : j < 46 := by omega
    rcases (show d = 12 + 3 * j ∨ d = 12 + 3 * j + 1 ∨ d = 12 + 3 * j + 2 by omega) with rfl | rfl | rfl
    · rw [gst_I (by omega) (by omega), gstT_s hj46]
      refine Or.inr ⟨0, ?_, ⟨zB_0 (by decide) (by decide), zB_0 (by decide) (by decide), zB_0 (by decide) (by decide), isB0⟩, fun p hp => ?_, fun h => by cases h⟩
      · show va_at κ.1 vwCl (sz + (12 + 3 * j), .inr (2, fs2 (kR (kst κ sz) (sz + (12 + 3 * j))) _ _)) H
        rw [kst_Rs (by omega)]; exact (hF1 j hj46).1
      · rw [kst_Rs (by omega)]
        simp only [zR, List.mem_singleton] at hp
        subst hp
        exact Or.inr (by show zT (gst sz) (sz + (12 + 3 * j) + 1) = 1; rw [show sz + (12 + 3 * j) + 1 = sz + (12 + 3 * j + 1) by omega, gst_T]; exact gstT_sw hj46)
    · exact gst_W (by omega) (by omega) (gstT_sw hj46) (gstT_sl hj46) (hF1 j hj46).2.1
    · exact gst_L (by omega) (by omega) (gstT_sl hj46) (hF1 j hj46).2.2
  by_cases h246 : d < 246
  · obtain ⟨j, hj⟩ : ∃ j, j = (d - 150) / 2 := ⟨_, rfl⟩
    have hj48 : j < 48 := by omega
    rcases (show d = 150 + 2 * j ∨ d = 150 + 2 * j + 1 by omega) with rfl | rfl
    · exact gst_W (by omega) (by omega) (gstT_w hj48) (gstT_wl hj48) (hF2 j hj48).1
    · exact gst_L (by omega) (by omega) (gstT_wl hj48) (hF2 j hj48).2
  · exact Or.inl (gstT_0 (by omega))
end GST
/-! One ghost for all: built cell by cell and part by part. -/
def GX (κ κj : Kt) (σ : Gh) (H : Heap) (P : Nat → Prop) : Prop := TI κj σ H ∧ (κj.1 = κ.1 ∧ κj.2.1 = κ.2.1 ∧ κj.2.2.2 = κ.2.2.2) ∧ ∀ x, zT σ x ≠ 0 → P x
/-- what stays of the elder one -/
def GU (κj κ' : Kt) (σ σ' : Gh) : Prop := (∀ x u, u ≠ 0 → zT σ x = u → zT σ' x = u) ∧ ∀ x, zT σ x ≠ 0 → zI σ' x = zI σ x ∧ kR κ' x = kR κj x
theorem kA_eq {κ κ' : Kt} (h : κ'.2.1 = κ.2.1) : kA κ' = kA κ := h
theorem kTy_eq {κ κ' : Kt} (h : κ'.2.1 = κ.2.1) : kTy κ' = kTy κ := by unfold kTy; rw [kA_eq h]
theorem XY_eq {κ κ' : Kt} (h : κ'.2.2.2.2.2.2 = κ.2.2.2.2.2.2) : XY κ' = XY κ := by unfold XY XS kK kV; rw [h]
theorem GX.add {κ κj : Kt} {σ : Gh} {H : Heap} {P : Nat → Prop} (h : GX κ κj σ H P) {a t n hh : Nat} {c : Nat → Int32} {l : Nat → Int64} {r : Nat → Nat} {E : va_E} (ha : ¬ P a) (hat : va_at κ.1 vwCl (a, E) H) (hE : ∀ κ' : Kt, kA κ' = kA κ → kR κ' a = r → zS κ' a t hh c l = E) (hP : zP t (n % 2048) c) (hR : ∀ p ∈ zR t, p.2 = 0 ∨ zT σ (r p.1) = p.2) (h1 : t = 1 → False) (P' : Nat → Prop) (hP' : ∀ x, P x ∨ x = a → P' x) : ∃ κ' σ', GX κ κ' σ' H P' ∧ zT σ' a = t ∧ zI σ' a = c ∧ kR κ' a = r ∧ zJ σ' a = l ∧ GU κj κ' σ σ' := by
  obtain ⟨g1, ⟨g2, g3, g4⟩, g5⟩ := h
  have h0 : zT σ a = 0 := by
    by_cases z : zT σ a = 0
    · exact z
    · exact absurd (g5 a z) ha
  refine ⟨kset κj a r, zadd σ a t n c l, ⟨g1.add h0 (hh := hh) ?_ hP hR h1, ⟨g2, g3, g4⟩, fun x hx => ?_⟩, zadd_Ta, zadd_I, kset_Ra, zadd_J, fun x u hu hx => zadd_Tk h0 hu hx, fun x hx => ?_⟩
  · rw [hE (kset κj a r) (kA_eq (κ := κ) (κ' := kset κj a r) g3) kset_Ra, g2]; exact hat
  · by_cases e : x = a
    · exact hP' x (Or.inr e)
    · rw [zadd_To e] at hx
      exact hP' x (Or.inl (g5 x hx))
  · have e : x ≠ a := fun q => hx (by rw [q]; exact h0)
    exact ⟨zadd_Io e, kset_R e⟩
theorem GX.mer {κ κj κ2 : Kt} {σ σ2 : Gh} {H : Heap} {P P2 : Nat → Prop} (h : GX κ κj σ H P) (h2 : GX κ κ2 σ2 H P2) (d : ∀ x, P x → ¬ P2 x) (P' : Nat → Prop) (hP' : ∀ x, P x ∨ P2 x → P' x) : ∃ κ' σ', GX κ κ' σ' H P' ∧ GU κj κ' σ σ' ∧ GU κ2 κ' σ2 σ' := by
  obtain ⟨g1, ⟨g2, g3, g4⟩, g5⟩ := h
  obtain ⟨k1, ⟨k2, k3, k4⟩, k5⟩ := h2
  have dd : ∀ x, zT σ x = 0 ∨ zT σ2 x = 0 := fun x => by
    by_cases z : zT σ x = 0
    · exact Or.inl z
    · by_cases z2 : zT σ2 x = 0
      · exact Or.inr z2
      · exact absurd (k5 x z2) (d x (g5 x z))
  refine ⟨kmer κj κ2 σ2, zmer σ σ2, ⟨g1.mer k1 ⟨k2.trans g2.symm, k3.trans g3.symm⟩ dd, ⟨g2, g3, g4⟩, fun x hx => ?_⟩, ⟨fun x u hu hx => zmer_T1 dd hu hx, fun x hx => ?_⟩, ⟨fun x u hu hx => zmer_T2 hu hx, fun x hx => ?_⟩⟩
  · by_cases z : zT σ2 x = 0
    · rw [zmer_T, if_pos z] at hx
      exact hP' x (Or.inl (g5 x hx))
    · exact hP' x (Or.inr (k5 x z))
  · have z := (dd x).resolve_left hx
    exact ⟨by simp [zmer, zI, z], by simp [kmer, kR, z]⟩
  · exact ⟨by simp [zmer, zI, hx], by simp [kmer, kR, hx]⟩
theorem GX.nil {κ : Kt} {H : Heap} : GX κ κ z0 H (fun x => x < 0) := ⟨TI.nil, ⟨rfl, rfl, rfl⟩, fun x h => absurd rfl h⟩
theorem gst_GX {κ : Kt} {sz : Nat} {H : Heap} (h : TI (kst κ sz) (gst sz) H) : GX κ (kst κ sz) (gst sz) H (fun x => sz ≤ x ∧ x < sz + 246) := ⟨h, ⟨rfl, rfl, rfl⟩, fun x hx => gst_in hx⟩

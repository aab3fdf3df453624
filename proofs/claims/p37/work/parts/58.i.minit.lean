/-! The constructor of the reference: what its text and slots are -/
set_option maxHeartbeats 40000000 in
set_option maxRecDepth 100000 in
theorem W6_asmr {κ : Kt} {H : Heap} {z9 this : Nat} (lt_this : this < z9) (f2 : va_at κ.1 vwCl ((z9 + 0), .inl (kA κ 1, 609, .inr (.inl (fun _ => 0)))) H) (f4 : va_at κ.1 vwCl ((z9 + 1), .inl (kA κ 1, 609, .inr (.inl (fun _ => 0)))) H) (f6 : va_at κ.1 vwCl ((z9 + 2), .inl (kA κ 1, 1218, .inr (.inl (fun _ => 0)))) H) (f8 : va_at κ.1 vwCl ((z9 + 3), .inl (kA κ 3, 2, .inl (fun _ => 0))) H) (f10 : va_at κ.1 vwCl ((z9 + 4), .inl (kA κ 0, 48, .inl (fun _ => 0))) H) (f12 : va_at κ.1 vwCl ((z9 + 5), .inl (kA κ 0, 48, .inl (fun _ => 0))) H) (f14 : va_at κ.1 vwCl ((z9 + 6), .inl (kA κ 0, 700, .inl (fun _ => 0))) H) (f16 : va_at κ.1 vwCl ((z9 + 7), .inl (kA κ 0, 48, .inl (upd ((upd ((fun _ => 0)) 0 0)) 1 1))) H) (f18 : va_at κ.1 vwCl ((z9 + 8), .inl (kA κ 0, 48, .inl (upd ((upd ((fun _ => 0)) 0 0)) 1 0))) H) (f0 : va_at κ.1 vwCl (this, .inr (6, [.int 0, .ref (z9 + 0), .ref (z9 + 1), .ref (z9 + 2), .ref (z9 + 3), .ref (z9 + 4), .ref (z9 + 5), .int 0, .int 0, .int 0, .int 0, .int (-1), .ref (z9 + 6), .int 0, .int 0, .int 0, .int (-1), .int 0, .int 2, .int 2, .int 0, .int 2, .int 1, .int 0, .int 0, .ref (z9 + 7), .ref (z9 + 8)])) H) : ∃ ka sa, GX κ ka sa H (fun x => (z9 + 0 ≤ x ∧ x < z9 + 9) ∨ x = this) ∧ zT sa this = 20 ∧ (∀ a, zT sa a = 1 → a ∈ ([] : List Nat)) ∧ kR ka this 25 = (z9 + 7) ∧ zI sa this 13 = 0 ∧ zI sa this 18 = 2 ∧ zI sa (z9 + 7) = upd (upd (fun _ => 0) 0 0) 1 1 ∧ zI sa this 15 = 0 ∧ zI sa this 16 = -1 ∧ zI sa this 20 = 0 ∧ zI sa this 21 = 2 ∧ zI sa this 22 = 1 ∧ zI sa this 19 = 2 ∧ kR ka this 26 = (z9 + 8) ∧ zI sa (z9 + 8) = upd (upd (fun _ => 0) 0 0) 1 0 := by
  have G0 : GX κ κ z0 H (fun x => x < 0) := GX.nil
  obtain ⟨ka1, sa1, G1, kd_1, i1, r1, l1, U1⟩ := G0.add (a := (z9 + 0)) (t := 21) (n := 0) (hh := 0) (c := (fun _ => 0)) (l := fun _ => 0) (r := fun _ => 0) (E := .inl (kA κ 1, 609, .inr (.inl (fun _ => 0)))) (fun h => by have h9 : (z9 + 0) < 0 := h; omega) f2 (fun κ' h1 h2 => by show (Sum.inl (kA κ' 1, 609, Sum.inr (Sum.inl _)) : va_E) = _; rw [h1]) trivial (fun p hp => by cases hp) (fun h => absurd h (by decide)) (fun x => (z9 + 0 ≤ x ∧ x < z9 + 1)) (fun x h => by have h9 : (x < 0) ∨ x = (z9 + 0) := h; show (z9 + 0 ≤ x ∧ x < z9 + 1); omega)
  obtain ⟨ka2, sa2, G2, kd_2, i2, r2, l2, U2⟩ := G1.add (a := (z9 + 1)) (t := 30) (n := 0) (hh := 0) (c := (fun _ => 0)) (l := fun _ => 0) (r := fun _ => 0) (E := .inl (kA κ 1, 609, .inr (.inl (fun _ => 0)))) (fun h => by have h9 : (z9 + 0 ≤ (z9 + 1) ∧ (z9 + 1) < z9 + 1) := h; omega) f4 (fun κ' h1 h2 => by show (Sum.inl (kA κ' 1, 609, Sum.inr (Sum.inl _)) : va_E) = _; rw [h1]) trivial (fun p hp => by cases hp) (fun h => absurd h (by decide)) (fun x => (z9 + 0 ≤ x ∧ x < z9 + 2)) (fun x h => by have h9 : ((z9 + 0 ≤ x ∧ x < z9 + 1)) ∨ x = (z9 + 1) := h; show (z9 + 0 ≤ x ∧ x < z9 + 2); omega)
  have kd_1 := U2.1 _ _ (by decide) kd_1
  obtain ⟨ka3, sa3, G3, kd_3, i3, r3, l3, U3⟩ := G2.add (a := (z9 + 2)) (t := 22) (n := 0) (hh := 0) (c := (fun _ => 0)) (l := fun _ => 0) (r := fun _ => 0) (E := .inl (kA κ 1, 1218, .inr (.inl (fun _ => 0)))) (fun h => by have h9 : (z9 + 0 ≤ (z9 + 2) ∧ (z9 + 2) < z9 + 2) := h; omega) f6 (fun κ' h1 h2 => by show (Sum.inl (kA κ' 1, 1218, Sum.inr (Sum.inl _)) : va_E) = _; rw [h1]) trivial (fun p hp => by cases hp) (fun h => absurd h (by decide)) (fun x => (z9 + 0 ≤ x ∧ x < z9 + 3)) (fun x h => by have h9 : ((z9 + 0 ≤ x ∧ x < z9 + 2)) ∨ x = (z9 + 2) := h; show (z9 + 0 ≤ x ∧ x < z9 + 3); omega)
  have kd_1 := U3.1 _ _ (by decide) kd_1
  have kd_2 := U3.1 _ _ (by decide) kd_2
  obtain ⟨ka4, sa4, G4, kd_4, i4, r4, l4, U4⟩ := G3.add (a := (z9 + 3)) (t := 29) (n := 0) (hh := 0) (c := (fun _ => 0)) (l := fun _ => 0) (r := fun _ => 0) (E := .inl (kA κ 3, 2, .inl (fun _ => 0))) (fun h => by have h9 : (z9 + 0 ≤ (z9 + 3) ∧ (z9 + 3) < z9 + 3) := h; omega) f8 (fun κ' h1 h2 => by show (Sum.inl (kA κ' 3, 2, Sum.inl _) : va_E) = _; rw [h1]) trivial (fun p hp => by cases hp) (fun h => absurd h (by decide)) (fun x => (z9 + 0 ≤ x ∧ x < z9 + 4)) (fun x h => by have h9 : ((z9 + 0 ≤ x ∧ x < z9 + 3)) ∨ x = (z9 + 3) := h; show (z9 + 0 ≤ x ∧ x < z9 + 4); omega)
  have kd_1 := U4.1 _ _ (by decide) kd_1
  have kd_2 := U4.1 _ _ (by decide) kd_2
  have kd_3 := U4.1 _ _ (by decide) kd_3
  obtain ⟨ka5, sa5, G5, kd_5, i5, r5, l5, U5⟩ := G4.add (a := (z9 + 4)) (t := 25) (n := 0) (hh := 0) (c := (fun _ => 0)) (l := fun _ => 0) (r := fun _ => 0) (E := .inl (kA κ 0, 48, .inl (fun _ => 0))) (fun h => by have h9 : (z9 + 0 ≤ (z9 + 4) ∧ (z9 + 4) < z9 + 4) := h; omega) f10 (fun κ' h1 h2 => by show (Sum.inl (kA κ' 0, 48, Sum.inl _) : va_E) = _; rw [h1]) trivial (fun p hp => by cases hp) (fun h => absurd h (by decide)) (fun x => (z9 + 0 ≤ x ∧ x < z9 + 5)) (fun x h => by have h9 : ((z9 + 0 ≤ x ∧ x < z9 + 4)) ∨ x = (z9 + 4) := h; show (z9 + 0 ≤ x ∧ x < z9 + 5); omega)
  have kd_1 := U5.1 _ _ (by decide) kd_1
  have kd_2 := U5.1 _ _ (by decide) kd_2
  have kd_3 := U5.1 _ _ (by decide) kd_3
  have kd_4 := U5.1 _ _ (by decide) kd_4
  obtain ⟨ka6, sa6, G6, kd_6, i6, r6, l6, U6⟩ := G5.add (a := (z9 + 5)) (t := 26) (n := 0) (hh := 0) (c := (fun _ => 0)) (l := fun _ => 0) (r := fun _ => 0) (E := .inl (kA κ 0, 48, .inl (fun _ => 0))) (fun h => by have h9 : (z9 + 0 ≤ (z9 + 5) ∧ (z9 + 5) < z9 + 5) := h; omega) f12 (fun κ' h1 h2 => by show (Sum.inl (kA κ' 0, 48, Sum.inl _) : va_E) = _; rw [h1]) trivial (fun p hp => by cases hp) (fun h => absurd h (by decide)) (fun x => (z9 + 0 ≤ x ∧ x < z9 + 6)) (fun x h => by have h9 : ((z9 + 0 ≤ x ∧ x < z9 + 5)) ∨ x = (z9 + 5) := h; show (z9 + 0 ≤ x ∧ x < z9 + 6); omega)
  have kd_1 := U6.1 _ _ (by decide) kd_1
  have kd_2 := U6.1 _ _ (by decide) kd_2
  have kd_3 := U6.1 _ _ (by decide) kd_3
  have kd_4 := U6.1 _ _ (by decide) kd_4
  have kd_5 := U6.1 _ _ (by decide) kd_5
  obtain ⟨ka7, sa7, G7, kd_7, i7, r7, l7, U7⟩ := G6.add (a := (z9 + 6)) (t := 23) (n := 0) (hh := 0) (c := (fun _ => 0)) (l := fun _ => 0) (r := fun _ => 0) (E := .inl (kA κ 0, 700, .inl (fun _ => 0))) (fun h => by have h9 : (z9 + 0 ≤ (z9 + 6) ∧ (z9 + 6) < z9 + 6) := h; omega) f14 (fun κ' h1 h2 => by show (Sum.inl (kA κ' 0, 700, Sum.inl _) : va_E) = _; rw [h1]) trivial (fun p hp => by cases hp) (fun h => absurd h (by decide)) (fun x => (z9 + 0 ≤ x ∧ x < z9 + 7)) (fun x h => by have h9 : ((z9 + 0 ≤ x ∧ x < z9 + 6)) ∨ x = (z9 + 6) := h; show (z9 + 0 ≤ x ∧ x < z9 + 7); omega)
  have kd_1 := U7.1 _ _ (by decide) kd_1
  have kd_2 := U7.1 _ _ (by decide) kd_2
  have kd_3 := U7.1 _ _ (by decide) kd_3
  have kd_4 := U7.1 _ _ (by decide) kd_4
  have kd_5 := U7.1 _ _ (by decide) kd_5
  have kd_6 := U7.1 _ _ (by decide) kd_6
  obtain ⟨ka8, sa8, G8, kd_8, i8, r8, l8, U8⟩ := G7.add (a := (z9 + 7)) (t := 27) (n := 0) (hh := 0) (c := (upd ((upd ((fun _ => 0)) 0 0)) 1 1)) (l := fun _ => 0) (r := fun _ => 0) (E := .inl (kA κ 0, 48, .inl (upd ((upd ((fun _ => 0)) 0 0)) 1 1))) (fun h => by have h9 : (z9 + 0 ≤ (z9 + 7) ∧ (z9 + 7) < z9 + 7) := h; omega) f16 (fun κ' h1 h2 => by show (Sum.inl (kA κ' 0, 48, Sum.inl _) : va_E) = _; rw [h1]) trivial (fun p hp => by cases hp) (fun h => absurd h (by decide)) (fun x => (z9 + 0 ≤ x ∧ x < z9 + 8)) (fun x h => by have h9 : ((z9 + 0 ≤ x ∧ x < z9 + 7)) ∨ x = (z9 + 7) := h; show (z9 + 0 ≤ x ∧ x < z9 + 8); omega)
  have kd_1 := U8.1 _ _ (by decide) kd_1
  have kd_2 := U8.1 _ _ (by decide) kd_2
  have kd_3 := U8.1 _ _ (by decide) kd_3
  have kd_4 := U8.1 _ _ (by decide) kd_4
  have kd_5 := U8.1 _ _ (by decide) kd_5
  have kd_6 := U8.1 _ _ (by decide) kd_6
  have kd_7 := U8.1 _ _ (by decide) kd_7
  obtain ⟨ka9, sa9, G9, kd_9, i9, r9, l9, U9⟩ := G8.add (a := (z9 + 8)) (t := 28) (n := 0) (hh := 0) (c := (upd ((upd ((fun _ => 0)) 0 0)) 1 0)) (l := fun _ => 0) (r := fun _ => 0) (E := .inl (kA κ 0, 48, .inl (upd ((upd ((fun _ => 0)) 0 0)) 1 0))) (fun h => by have h9 : (z9 + 0 ≤ (z9 + 8) ∧ (z9 + 8) < z9 + 8) := h; omega) f18 (fun κ' h1 h2 => by show (Sum.inl (kA κ' 0, 48, Sum.inl _) : va_E) = _; rw [h1]) trivial (fun p hp => by cases hp) (fun h => absurd h (by decide)) (fun x => (z9 + 0 ≤ x ∧ x < z9 + 9)) (fun x h => by have h9 : ((z9 + 0 ≤ x ∧ x < z9 + 8)) ∨ x = (z9 + 8) := h; show (z9 + 0 ≤ x ∧ x < z9 + 9); omega)
  have i7 := ((U9.2 _ (by rw [kd_8]; decide)).1).trans i8
  have kd_1 := U9.1 _ _ (by decide) kd_1
  have kd_2 := U9.1 _ _ (by decide) kd_2
  have kd_3 := U9.1 _ _ (by decide) kd_3
  have kd_4 := U9.1 _ _ (by decide) kd_4
  have kd_5 := U9.1 _ _ (by decide) kd_5
  have kd_6 := U9.1 _ _ (by decide) kd_6
  have kd_7 := U9.1 _ _ (by decide) kd_7
  have kd_8 := U9.1 _ _ (by decide) kd_8
  obtain ⟨ka10, sa10, G10, kd_10, i10, r10, l10, U10⟩ := G9.add (a := this) (t := 20) (n := 0) (hh := 0) (c := (fun k => if k = 11 then (-1) else if k = 16 then (-1) else if k = 18 then 2 else if k = 19 then 2 else if k = 21 then 2 else if k = 22 then 1 else 0)) (l := fun _ => 0) (r := (fun k => if k = 1 then (z9 + 0) else if k = 2 then (z9 + 1) else if k = 3 then (z9 + 2) else if k = 4 then (z9 + 3) else if k = 5 then (z9 + 4) else if k = 6 then (z9 + 5) else if k = 12 then (z9 + 6) else if k = 25 then (z9 + 7) else if k = 26 then (z9 + 8) else 0)) (E := .inr (6, [.int 0, .ref (z9 + 0), .ref (z9 + 1), .ref (z9 + 2), .ref (z9 + 3), .ref (z9 + 4), .ref (z9 + 5), .int 0, .int 0, .int 0, .int 0, .int (-1), .ref (z9 + 6), .int 0, .int 0, .int 0, .int (-1), .int 0, .int 2, .int 2, .int 0, .int 2, .int 1, .int 0, .int 0, .ref (z9 + 7), .ref (z9 + 8)])) (fun h => by have h9 : (z9 + 0 ≤ this ∧ this < z9 + 9) := h; omega) f0 (fun κ' h1 h2 => by show (Sum.inr (_, fs6 (kR κ' _) _) : va_E) = _; rw [h2]; rfl) isB0 (fun p hp => by simp only [zR, List.mem_cons, List.not_mem_nil, or_false] at hp; rcases hp with rfl | rfl | rfl | rfl | rfl | rfl | rfl | rfl | rfl <;> first | exact Or.inr kd_1 | exact Or.inr kd_2 | exact Or.inr kd_3 | exact Or.inr kd_4 | exact Or.inr kd_5 | exact Or.inr kd_6 | exact Or.inr kd_7 | exact Or.inr kd_8 | exact Or.inr kd_9) (fun h => absurd h (by decide)) (fun x => (z9 + 0 ≤ x ∧ x < z9 + 9) ∨ x = this) (fun x h => by have h9 : ((z9 + 0 ≤ x ∧ x < z9 + 9)) ∨ x = this := h; show (z9 + 0 ≤ x ∧ x < z9 + 9) ∨ x = this; omega)
  have i7 := ((U10.2 _ (by rw [kd_8]; decide)).1).trans i7
  have i8_ := ((U10.2 _ (by rw [kd_9]; decide)).1).trans i9
  have kd_1 := U10.1 _ _ (by decide) kd_1
  have kd_2 := U10.1 _ _ (by decide) kd_2
  have kd_3 := U10.1 _ _ (by decide) kd_3
  have kd_4 := U10.1 _ _ (by decide) kd_4
  have kd_5 := U10.1 _ _ (by decide) kd_5
  have kd_6 := U10.1 _ _ (by decide) kd_6
  have kd_7 := U10.1 _ _ (by decide) kd_7
  have kd_8 := U10.1 _ _ (by decide) kd_8
  have kd_9 := U10.1 _ _ (by decide) kd_9
  have GP := G10.2.2
  have hno : ∀ a, zT sa10 a = 1 → a ∈ ([] : List Nat) := fun a ha => by
    have h9 : (z9 + 0 ≤ a ∧ a < z9 + 9) ∨ a = this := GP a (by rw [ha]; decide)
    exfalso
    rcases (show a = (z9 + 0) ∨ a = (z9 + 1) ∨ a = (z9 + 2) ∨ a = (z9 + 3) ∨ a = (z9 + 4) ∨ a = (z9 + 5) ∨ a = (z9 + 6) ∨ a = (z9 + 7) ∨ a = (z9 + 8) ∨ a = this by omega) with e9 | e9 | e9 | e9 | e9 | e9 | e9 | e9 | e9 | e9
    · rw [e9, kd_1] at ha; exact absurd ha (by decide)
    · rw [e9, kd_2] at ha; exact absurd ha (by decide)
    · rw [e9, kd_3] at ha; exact absurd ha (by decide)
    · rw [e9, kd_4] at ha; exact absurd ha (by decide)
    · rw [e9, kd_5] at ha; exact absurd ha (by decide)
    · rw [e9, kd_6] at ha; exact absurd ha (by decide)
    · rw [e9, kd_7] at ha; exact absurd ha (by decide)
    · rw [e9, kd_8] at ha; exact absurd ha (by decide)
    · rw [e9, kd_9] at ha; exact absurd ha (by decide)
    · rw [e9, kd_10] at ha; exact absurd ha (by decide)
  exact ⟨ka10, sa10, G10, kd_10, hno, by rw [r10]; rfl, by rw [i10]; rfl, by rw [i10]; rfl, i7, by rw [i10]; rfl, by rw [i10]; rfl, by rw [i10]; rfl, by rw [i10]; rfl, by rw [i10]; rfl, by rw [i10]; rfl, by rw [r10]; rfl, i8_⟩
set_option maxHeartbeats 40000000 in
set_option maxRecDepth 100000 in
theorem W6r_init (l : Launch) (κ : Kt) (this : Nat) : XC l yX6_init cX6_init 1 2 44 9 3330 [.ref this] κ [this] (fun H => va_at κ.1 vwCl (this, .inr (6, [.int 0, .null, .null, .null, .null, .null, .null, .int 0, .int 0, .int 0, .int 0, .int 0, .null, .int 0, .int 0, .int 0, .int 0, .int 0, .int 0, .int 0, .int 0, .int 0, .int 0, .int 0, .int 0, .null, .null])) H) (fun sz su H => ∃ (κ' : Kt) (τ : Gh), TI κ' τ H ∧ (κ'.1 = κ.1 ∧ κ'.2.1 = κ.2.1 ∧ κ'.2.2.2.2.2.2 = κ.2.2.2.2.2.2) ∧ RI κ' τ this ∧ zI τ this 13 = 0 ∧ zI τ this 15 = 0 ∧ zI τ this 16 = -1 ∧ zI τ (kR κ' this 4) 0 = 0 ∧ zI τ (kR κ' this 4) 1 = 0 ∧ (zJ τ (kR κ' this 1) 0).toInt = 0 ∧ (zJ τ (kR κ' this 1) 1).toInt = 2 ∧ (zJ τ (kR κ' this 1) 2).toInt = 1 ∧ M9 κ' τ this ∧ zT τ this = 20 ∧ (∀ a, zT τ a ≠ 1) ∧ ∀ q, zT τ q ≠ 0 → xA [this] sz q) := by
  refine XC.of (by decide +kernel) (Nat.le_of_ble_eq_true rfl) ?_
  intro p e s m below meth c ls hcs hpre hK hX hS hl
  obtain ⟨hx, hb, hr, hml, hown, hg, hlocks, hin⟩ := hcs
  have hown : s.vm.findClass RX6 = some m.cls := hown
  have hl : lv_has ls 1 [(0, .ref this)] := hl
  have f0 := hpre
  have lt_this : this < s.heap.size := f0.lt
  have hz : s.heap.size = s.heap.size + 0 := rfl
  refine lv_aload_n hx hb dX6_init_0 rfl (lv_at hl 0 rfl) ?_
  refine W.objInit hx hb hown (hg _ k1209) (hg _ k111) (hg _ k112) rfl (by rw [hml]; exact hl.1) rfl dX6_init_1 (Nat.le_of_ble_eq_true rfl) (Nat.le_of_ble_eq_true rfl) ?_
  refine W.eq (g2 := F0 m 4 ls []) rfl ?_
  refine lv_aload_n hx hb dX6_init_4 rfl (lv_at hl 0 rfl) ?_
  refine lv_sipush (v := 609) hx hb dX6_init_5 (by decide) ?_
  refine xnewa 1 (atype := .long) (k := 609) (N := 609) (E := (609, .inr (.inl (fun _ => 0)))) hx hb (hg _ k219) hK rfl hS (by decide) (by decide) (Nat.le_of_ble_eq_true rfl) rfl (Nat.le_of_ble_eq_true rfl) (Nat.le_of_ble_eq_true rfl) dX6_init_8 (fun n1 H e9 g f2 hS2 => ?_)
  replace hS := hS2
  clear hS2
  replace f0 := g.kept f0
  obtain rfl : n1 = s.heap.size + 0 := by omega
  replace hz : H.size = s.heap.size + 1 := by have := g.1; omega
  clear g
  refine xputF (cn := 6) (v := .ref (s.heap.size + 0)) (ty := .array .long) (C := RX6) (T := TX6) (N := 27) hx hb hg inX6 tyX6 tyX6_ok nmX6 hown hK hS xA0 f0 rfl 1 (by decide) (hg _ k1220) (fun _ h9 => h9) rfl hin rfl (by decide +kernel) rfl rfl (Nat.le_of_ble_eq_true rfl) dX6_init_10 (fun H locs g f0 hS2 => ?_)
  replace hS := hS2
  clear hS2
  replace f2 := g.kept f2 (show (s.heap.size + 0) ≠ this from (nt2 lt_this))
  replace f0 : va_at κ.1 vwCl (this, .inr (6, [.int 0, .ref (s.heap.size + 0), .null, .null, .null, .null, .null, .int 0, .int 0, .int 0, .int 0, .int 0, .null, .int 0, .int 0, .int 0, .int 0, .int 0, .int 0, .int 0, .int 0, .int 0, .int 0, .int 0, .int 0, .null, .null])) H := f0
  replace hz := g.1.trans hz
  clear g
  refine lv_aload_n hx hb dX6_init_13 rfl (lv_at hl 0 rfl) ?_
  refine lv_sipush (v := 609) hx hb dX6_init_14 (by decide) ?_
  refine xnewa 1 (atype := .long) (k := 609) (N := 609) (E := (609, .inr (.inl (fun _ => 0)))) hx hb (hg _ k219) hK rfl hS (by decide) (by decide) (Nat.le_of_ble_eq_true rfl) rfl (Nat.le_of_ble_eq_true rfl) (Nat.le_of_ble_eq_true rfl) dX6_init_17 (fun n3 H e9 g f4 hS2 => ?_)
  replace hS := hS2
  clear hS2
  replace f0 := g.kept f0
  replace f2 := g.kept f2
  obtain rfl : n3 = s.heap.size + 1 := by omega
  replace hz : H.size = s.heap.size + 2 := by have := g.1; omega
  clear g
  refine xputF (cn := 6) (v := .ref (s.heap.size + 1)) (ty := .array .long) (C := RX6) (T := TX6) (N := 27) hx hb hg inX6 tyX6 tyX6_ok nmX6 hown hK hS xA0 f0 rfl 2 (by decide) (hg _ k1221) (fun _ h9 => h9) rfl hin rfl (by decide +kernel) rfl rfl (Nat.le_of_ble_eq_true rfl) dX6_init_19 (fun H locs g f0 hS2 => ?_)
  replace hS := hS2
  clear hS2
  replace f2 := g.kept f2 (show (s.heap.size + 0) ≠ this from (nt2 lt_this))
  replace f4 := g.kept f4 (show (s.heap.size + 1) ≠ this from (nt2 lt_this))
  replace f0 : va_at κ.1 vwCl (this, .inr (6, [.int 0, .ref (s.heap.size + 0), .ref (s.heap.size + 1), .null, .null, .null, .null, .int 0, .int 0, .int 0, .int 0, .int 0, .null, .int 0, .int 0, .int 0, .int 0, .int 0, .int 0, .int 0, .int 0, .int 0, .int 0, .int 0, .int 0, .null, .null])) H := f0
  replace hz := g.1.trans hz
  clear g
  refine lv_aload_n hx hb dX6_init_22 rfl (lv_at hl 0 rfl) ?_
  refine lv_sipush (v := 1218) hx hb dX6_init_23 (by decide) ?_
  refine xnewa 1 (atype := .long) (k := 1218) (N := 1218) (E := (1218, .inr (.inl (fun _ => 0)))) hx hb (hg _ k219) hK rfl hS (by decide) (by decide) (Nat.le_of_ble_eq_true rfl) rfl (Nat.le_of_ble_eq_true rfl) (Nat.le_of_ble_eq_true rfl) dX6_init_26 (fun n5 H e9 g f6 hS2 => ?_)
  replace hS := hS2
  clear hS2
  replace f0 := g.kept f0
  replace f2 := g.kept f2
  replace f4 := g.kept f4
  obtain rfl : n5 = s.heap.size + 2 := by omega
  replace hz : H.size = s.heap.size + 3 := by have := g.1; omega
  clear g
  refine xputF (cn := 6) (v := .ref (s.heap.size + 2)) (ty := .array .long) (C := RX6) (T := TX6) (N := 27) hx hb hg inX6 tyX6 tyX6_ok nmX6 hown hK hS xA0 f0 rfl 3 (by decide) (hg _ k1222) (fun _ h9 => h9) rfl hin rfl (by decide +kernel) rfl rfl (Nat.le_of_ble_eq_true rfl) dX6_init_28 (fun H locs g f0 hS2 => ?_)
  replace hS := hS2
  clear hS2
  replace f2 := g.kept f2 (show (s.heap.size + 0) ≠ this from (nt2 lt_this))
  replace f4 := g.kept f4 (show (s.heap.size + 1) ≠ this from (nt2 lt_this))
  replace f6 := g.kept f6 (show (s.heap.size + 2) ≠ this from (nt2 lt_this))
  replace f0 : va_at κ.1 vwCl (this, .inr (6, [.int 0, .ref (s.heap.size + 0), .ref (s.heap.size + 1), .ref (s.heap.size + 2), .null, .null, .null, .int 0, .int 0, .int 0, .int 0, .int 0, .null, .int 0, .int 0, .int 0, .int 0, .int 0, .int 0, .int 0, .int 0, .int 0, .int 0, .int 0, .int 0, .null, .null])) H := f0
  replace hz := g.1.trans hz
  clear g
  refine lv_aload_n hx hb dX6_init_31 rfl (lv_at hl 0 rfl) ?_
  refine lv_iconst (v := 2) hx hb dX6_init_32 (by decide) ?_
  refine xnewa 3 (atype := .boolean) (k := 2) (N := 2) (E := (2, .inl (fun _ => 0))) hx hb (hg _ k410) hK rfl hS (by decide) (by decide) (Nat.le_of_ble_eq_true rfl) rfl (Nat.le_of_ble_eq_true rfl) (Nat.le_of_ble_eq_true rfl) dX6_init_33 (fun n7 H e9 g f8 hS2 => ?_)
  replace hS := hS2
  clear hS2
  replace f0 := g.kept f0
  replace f2 := g.kept f2
  replace f4 := g.kept f4
  replace f6 := g.kept f6
  obtain rfl : n7 = s.heap.size + 3 := by omega
  replace hz : H.size = s.heap.size + 4 := by have := g.1; omega
  clear g
  refine xputF (cn := 6) (v := .ref (s.heap.size + 3)) (ty := .array .boolean) (C := RX6) (T := TX6) (N := 27) hx hb hg inX6 tyX6 tyX6_ok nmX6 hown hK hS xA0 f0 rfl 4 (by decide) (hg _ k1223) (fun _ h9 => h9) rfl hin rfl (by decide +kernel) rfl rfl (Nat.le_of_ble_eq_true rfl) dX6_init_35 (fun H locs g f0 hS2 => ?_)
  replace hS := hS2
  clear hS2
  replace f2 := g.kept f2 (show (s.heap.size + 0) ≠ this from (nt2 lt_this))
  replace f4 := g.kept f4 (show (s.heap.size + 1) ≠ this from (nt2 lt_this))
  replace f6 := g.kept f6 (show (s.heap.size + 2) ≠ this from (nt2 lt_this))
  replace f8 := g.kept f8 (show (s.heap.size + 3) ≠ this from (nt2 lt_this))
  replace f0 : va_at κ.1 vwCl (this, .inr (6, [.int 0, .ref (s.heap.size + 0), .ref (s.heap.size + 1), .ref (s.heap.size + 2), .ref (s.heap.size + 3), .null, .null, .int 0, .int 0, .int 0, .int 0, .int 0, .null, .int 0, .int 0, .int 0, .int 0, .int 0, .int 0, .int 0, .int 0, .int 0, .int 0, .int 0, .int 0, .null, .null])) H := f0
  replace hz := g.1.trans hz
  clear g
  refine lv_aload_n hx hb dX6_init_38 rfl (lv_at hl 0 rfl) ?_
  refine lv_bipush (v := 48) hx hb dX6_init_39 (by decide) ?_
  refine xnewa 0 (atype := .int) (k := 48) (N := 48) (E := (48, .inl (fun _ => 0))) hx hb (hg _ k193) hK rfl hS (by decide) (by decide) (Nat.le_of_ble_eq_true rfl) rfl (Nat.le_of_ble_eq_true rfl) (Nat.le_of_ble_eq_true rfl) dX6_init_41 (fun n9 H e9 g f10 hS2 => ?_)
  replace hS := hS2
  clear hS2
  replace f0 := g.kept f0
  replace f2 := g.kept f2
  replace f4 := g.kept f4
  replace f6 := g.kept f6
  replace f8 := g.kept f8
  obtain rfl : n9 = s.heap.size + 4 := by omega
  replace hz : H.size = s.heap.size + 5 := by have := g.1; omega
  clear g
  refine xputF (cn := 6) (v := .ref (s.heap.size + 4)) (ty := .array .int) (C := RX6) (T := TX6) (N := 27) hx hb hg inX6 tyX6 tyX6_ok nmX6 hown hK hS xA0 f0 rfl 5 (by decide) (hg _ k1224) (fun _ h9 => h9) rfl hin rfl (by decide +kernel) rfl rfl (Nat.le_of_ble_eq_true rfl) dX6_init_43 (fun H locs g f0 hS2 => ?_)
  replace hS := hS2
  clear hS2
  replace f2 := g.kept f2 (show (s.heap.size + 0) ≠ this from (nt2 lt_this))
  replace f4 := g.kept f4 (show (s.heap.size + 1) ≠ this from (nt2 lt_this))
  replace f6 := g.kept f6 (show (s.heap.size + 2) ≠ this from (nt2 lt_this))
  replace f8 := g.kept f8 (show (s.heap.size + 3) ≠ this from (nt2 lt_this))
  replace f10 := g.kept f10 (show (s.heap.size + 4) ≠ this from (nt2 lt_this))
  replace f0 : va_at κ.1 vwCl (this, .inr (6, [.int 0, .ref (s.heap.size + 0), .ref (s.heap.size + 1), .ref (s.heap.size + 2), .ref (s.heap.size + 3), .ref (s.heap.size + 4), .null, .int 0, .int 0, .int 0, .int 0, .int 0, .null, .int 0, .int 0, .int 0, .int 0, .int 0, .int 0, .int 0, .int 0, .int 0, .int 0, .int 0, .int 0, .null, .null])) H := f0
  replace hz := g.1.trans hz
  clear g
  refine lv_aload_n hx hb dX6_init_46 rfl (lv_at hl 0 rfl) ?_
  refine lv_bipush (v := 48) hx hb dX6_init_47 (by decide) ?_
  refine xnewa 0 (atype := .int) (k := 48) (N := 48) (E := (48, .inl (fun _ => 0))) hx hb (hg _ k193) hK rfl hS (by decide) (by decide) (Nat.le_of_ble_eq_true rfl) rfl (Nat.le_of_ble_eq_true rfl) (Nat.le_of_ble_eq_true rfl) dX6_init_49 (fun n11 H e9 g f12 hS2 => ?_)
  replace hS := hS2
  clear hS2
  replace f0 := g.kept f0
  replace f2 := g.kept f2
  replace f4 := g.kept f4
  replace f6 := g.kept f6
  replace f8 := g.kept f8
  replace f10 := g.kept f10
  obtain rfl : n11 = s.heap.size + 5 := by omega
  replace hz : H.size = s.heap.size + 6 := by have := g.1; omega
  clear g
  refine xputF (cn := 6) (v := .ref (s.heap.size + 5)) (ty := .array .int) (C := RX6) (T := TX6) (N := 27) hx hb hg inX6 tyX6 tyX6_ok nmX6 hown hK hS xA0 f0 rfl 6 (by decide) (hg _ k1225) (fun _ h9 => h9) rfl hin rfl (by decide +kernel) rfl rfl (Nat.le_of_ble_eq_true rfl) dX6_init_51 (fun H locs g f0 hS2 => ?_)
  replace hS := hS2
  clear hS2
  replace f2 := g.kept f2 (show (s.heap.size + 0) ≠ this from (nt2 lt_this))
  replace f4 := g.kept f4 (show (s.heap.size + 1) ≠ this from (nt2 lt_this))
  replace f6 := g.kept f6 (show (s.heap.size + 2) ≠ this from (nt2 lt_this))
  replace f8 := g.kept f8 (show (s.heap.size + 3) ≠ this from (nt2 lt_this))
  replace f10 := g.kept f10 (show (s.heap.size + 4) ≠ this from (nt2 lt_this))
  replace f12 := g.kept f12 (show (s.heap.size + 5) ≠ this from (nt2 lt_this))
  replace f0 : va_at κ.1 vwCl (this, .inr (6, [.int 0, .ref (s.heap.size + 0), .ref (s.heap.size + 1), .ref (s.heap.size + 2), .ref (s.heap.size + 3), .ref (s.heap.size + 4), .ref (s.heap.size + 5), .int 0, .int 0, .int 0, .int 0, .int 0, .null, .int 0, .int 0, .int 0, .int 0, .int 0, .int 0, .int 0, .int 0, .int 0, .int 0, .int 0, .int 0, .null, .null])) H := f0
  replace hz := g.1.trans hz
  clear g
  refine lv_aload_n hx hb dX6_init_54 rfl (lv_at hl 0 rfl) ?_
  refine lv_iconst (v := (-1)) hx hb dX6_init_55 (by decide) ?_
  refine xput (cn := 6) (v := .int (-1)) (ty := .int) (C := RX6) (T := TX6) (N := 27) hx hb hg inX6 tyX6 tyX6_ok nmX6 hown hK hS xA0 f0 rfl 11 (by decide) (hg _ k1230) (fun _ h9 => h9) rfl (by decide +kernel) rfl rfl (Nat.le_of_ble_eq_true rfl) dX6_init_56 (fun H locs g f0 hS2 => ?_)
  replace hS := hS2
  clear hS2
  replace f2 := g.kept f2 (show (s.heap.size + 0) ≠ this from (nt2 lt_this))
  replace f4 := g.kept f4 (show (s.heap.size + 1) ≠ this from (nt2 lt_this))
  replace f6 := g.kept f6 (show (s.heap.size + 2) ≠ this from (nt2 lt_this))
  replace f8 := g.kept f8 (show (s.heap.size + 3) ≠ this from (nt2 lt_this))
  replace f10 := g.kept f10 (show (s.heap.size + 4) ≠ this from (nt2 lt_this))
  replace f12 := g.kept f12 (show (s.heap.size + 5) ≠ this from (nt2 lt_this))
  replace f0 : va_at κ.1 vwCl (this, .inr (6, [.int 0, .ref (s.heap.size + 0), .ref (s.heap.size + 1), .ref (s.heap.size + 2), .ref (s.heap.size + 3), .ref (s.heap.size + 4), .ref (s.heap.size + 5), .int 0, .int 0, .int 0, .int 0, .int (-1), .null, .int 0, .int 0, .int 0, .int 0, .int 0, .int 0, .int 0, .int 0, .int 0, .int 0, .int 0, .int 0, .null, .null])) H := f0
  replace hz := g.1.trans hz
  clear g
  refine lv_aload_n hx hb dX6_init_59 rfl (lv_at hl 0 rfl) ?_
  refine lv_sipush (v := 700) hx hb dX6_init_60 (by decide) ?_
  refine xnewa 0 (atype := .int) (k := 700) (N := 700) (E := (700, .inl (fun _ => 0))) hx hb (hg _ k193) hK rfl hS (by decide) (by decide) (Nat.le_of_ble_eq_true rfl) rfl (Nat.le_of_ble_eq_true rfl) (Nat.le_of_ble_eq_true rfl) dX6_init_63 (fun n13 H e9 g f14 hS2 => ?_)
  replace hS := hS2
  clear hS2
  replace f0 := g.kept f0
  replace f2 := g.kept f2
  replace f4 := g.kept f4
  replace f6 := g.kept f6
  replace f8 := g.kept f8
  replace f10 := g.kept f10
  replace f12 := g.kept f12
  obtain rfl : n13 = s.heap.size + 6 := by omega
  replace hz : H.size = s.heap.size + 7 := by have := g.1; omega
  clear g
  refine xputF (cn := 6) (v := .ref (s.heap.size + 6)) (ty := .array .int) (C := RX6) (T := TX6) (N := 27) hx hb hg inX6 tyX6 tyX6_ok nmX6 hown hK hS xA0 f0 rfl 12 (by decide) (hg _ k1231) (fun _ h9 => h9) rfl hin rfl (by decide +kernel) rfl rfl (Nat.le_of_ble_eq_true rfl) dX6_init_65 (fun H locs g f0 hS2 => ?_)
  replace hS := hS2
  clear hS2
  replace f2 := g.kept f2 (show (s.heap.size + 0) ≠ this from (nt2 lt_this))
  replace f4 := g.kept f4 (show (s.heap.size + 1) ≠ this from (nt2 lt_this))
  replace f6 := g.kept f6 (show (s.heap.size + 2) ≠ this from (nt2 lt_this))
  replace f8 := g.kept f8 (show (s.heap.size + 3) ≠ this from (nt2 lt_this))
  replace f10 := g.kept f10 (show (s.heap.size + 4) ≠ this from (nt2 lt_this))
  replace f12 := g.kept f12 (show (s.heap.size + 5) ≠ this from (nt2 lt_this))
  replace f14 := g.kept f14 (show (s.heap.size + 6) ≠ this from (nt2 lt_this))
  replace f0 : va_at κ.1 vwCl (this, .inr (6, [.int 0, .ref (s.heap.size + 0), .ref (s.heap.size + 1), .ref (s.heap.size + 2), .ref (s.heap.size + 3), .ref (s.heap.size + 4), .ref (s.heap.size + 5), .int 0, .int 0, .int 0, .int 0, .int (-1), .ref (s.heap.size + 6), .int 0, .int 0, .int 0, .int 0, .int 0, .int 0, .int 0, .int 0, .int 0, .int 0, .int 0, .int 0, .null, .null])) H := f0
  replace hz := g.1.trans hz
  clear g
  refine lv_aload_n hx hb dX6_init_68 rfl (lv_at hl 0 rfl) ?_
  refine lv_iconst (v := (-1)) hx hb dX6_init_69 (by decide) ?_
  refine xput (cn := 6) (v := .int (-1)) (ty := .int) (C := RX6) (T := TX6) (N := 27) hx hb hg inX6 tyX6 tyX6_ok nmX6 hown hK hS xA0 f0 rfl 16 (by decide) (hg _ k1235) (fun _ h9 => h9) rfl (by decide +kernel) rfl rfl (Nat.le_of_ble_eq_true rfl) dX6_init_70 (fun H locs g f0 hS2 => ?_)
  replace hS := hS2
  clear hS2
  replace f2 := g.kept f2 (show (s.heap.size + 0) ≠ this from (nt2 lt_this))
  replace f4 := g.kept f4 (show (s.heap.size + 1) ≠ this from (nt2 lt_this))
  replace f6 := g.kept f6 (show (s.heap.size + 2) ≠ this from (nt2 lt_this))
  replace f8 := g.kept f8 (show (s.heap.size + 3) ≠ this from (nt2 lt_this))
  replace f10 := g.kept f10 (show (s.heap.size + 4) ≠ this from (nt2 lt_this))
  replace f12 := g.kept f12 (show (s.heap.size + 5) ≠ this from (nt2 lt_this))
  replace f14 := g.kept f14 (show (s.heap.size + 6) ≠ this from (nt2 lt_this))
  replace f0 : va_at κ.1 vwCl (this, .inr (6, [.int 0, .ref (s.heap.size + 0), .ref (s.heap.size + 1), .ref (s.heap.size + 2), .ref (s.heap.size + 3), .ref (s.heap.size + 4), .ref (s.heap.size + 5), .int 0, .int 0, .int 0, .int 0, .int (-1), .ref (s.heap.size + 6), .int 0, .int 0, .int 0, .int (-1), .int 0, .int 0, .int 0, .int 0, .int 0, .int 0, .int 0, .int 0, .null, .null])) H := f0
  replace hz := g.1.trans hz
  clear g
  refine lv_aload_n hx hb dX6_init_73 rfl (lv_at hl 0 rfl) ?_
  refine lv_bipush (v := 48) hx hb dX6_init_74 (by decide) ?_
  refine xnewa 0 (atype := .int) (k := 48) (N := 48) (E := (48, .inl (fun _ => 0))) hx hb (hg _ k193) hK rfl hS (by decide) (by decide) (Nat.le_of_ble_eq_true rfl) rfl (Nat.le_of_ble_eq_true rfl) (Nat.le_of_ble_eq_true rfl) dX6_init_76 (fun n15 H e9 g f16 hS2 => ?_)
  replace hS := hS2
  clear hS2
  replace f0 := g.kept f0
  replace f2 := g.kept f2
  replace f4 := g.kept f4
  replace f6 := g.kept f6
  replace f8 := g.kept f8
  replace f10 := g.kept f10
  replace f12 := g.kept f12
  replace f14 := g.kept f14
  obtain rfl : n15 = s.heap.size + 7 := by omega
  replace hz : H.size = s.heap.size + 8 := by have := g.1; omega
  clear g
  refine xputF (cn := 6) (v := .ref (s.heap.size + 7)) (ty := .array .int) (C := RX6) (T := TX6) (N := 27) hx hb hg inX6 tyX6 tyX6_ok nmX6 hown hK hS xA0 f0 rfl 25 (by decide) (hg _ k1244) (fun _ h9 => h9) rfl hin rfl (by decide +kernel) rfl rfl (Nat.le_of_ble_eq_true rfl) dX6_init_78 (fun H locs g f0 hS2 => ?_)
  replace hS := hS2
  clear hS2
  replace f2 := g.kept f2 (show (s.heap.size + 0) ≠ this from (nt2 lt_this))
  replace f4 := g.kept f4 (show (s.heap.size + 1) ≠ this from (nt2 lt_this))
  replace f6 := g.kept f6 (show (s.heap.size + 2) ≠ this from (nt2 lt_this))
  replace f8 := g.kept f8 (show (s.heap.size + 3) ≠ this from (nt2 lt_this))
  replace f10 := g.kept f10 (show (s.heap.size + 4) ≠ this from (nt2 lt_this))
  replace f12 := g.kept f12 (show (s.heap.size + 5) ≠ this from (nt2 lt_this))
  replace f14 := g.kept f14 (show (s.heap.size + 6) ≠ this from (nt2 lt_this))
  replace f16 := g.kept f16 (show (s.heap.size + 7) ≠ this from (nt2 lt_this))
  replace f0 : va_at κ.1 vwCl (this, .inr (6, [.int 0, .ref (s.heap.size + 0), .ref (s.heap.size + 1), .ref (s.heap.size + 2), .ref (s.heap.size + 3), .ref (s.heap.size + 4), .ref (s.heap.size + 5), .int 0, .int 0, .int 0, .int 0, .int (-1), .ref (s.heap.size + 6), .int 0, .int 0, .int 0, .int (-1), .int 0, .int 0, .int 0, .int 0, .int 0, .int 0, .int 0, .int 0, .ref (s.heap.size + 7), .null])) H := f0
  replace hz := g.1.trans hz
  clear g
  refine lv_aload_n hx hb dX6_init_81 rfl (lv_at hl 0 rfl) ?_
  refine lv_bipush (v := 48) hx hb dX6_init_82 (by decide) ?_
  refine xnewa 0 (atype := .int) (k := 48) (N := 48) (E := (48, .inl (fun _ => 0))) hx hb (hg _ k193) hK rfl hS (by decide) (by decide) (Nat.le_of_ble_eq_true rfl) rfl (Nat.le_of_ble_eq_true rfl) (Nat.le_of_ble_eq_true rfl) dX6_init_84 (fun n17 H e9 g f18 hS2 => ?_)
  replace hS := hS2
  clear hS2
  replace f0 := g.kept f0
  replace f2 := g.kept f2
  replace f4 := g.kept f4
  replace f6 := g.kept f6
  replace f8 := g.kept f8
  replace f10 := g.kept f10
  replace f12 := g.kept f12
  replace f14 := g.kept f14
  replace f16 := g.kept f16
  obtain rfl : n17 = s.heap.size + 8 := by omega
  replace hz : H.size = s.heap.size + 9 := by have := g.1; omega
  clear g
  refine xputF (cn := 6) (v := .ref (s.heap.size + 8)) (ty := .array .int) (C := RX6) (T := TX6) (N := 27) hx hb hg inX6 tyX6 tyX6_ok nmX6 hown hK hS xA0 f0 rfl 26 (by decide) (hg _ k1245) (fun _ h9 => h9) rfl hin rfl (by decide +kernel) rfl rfl (Nat.le_of_ble_eq_true rfl) dX6_init_86 (fun H locs g f0 hS2 => ?_)
  replace hS := hS2
  clear hS2
  replace f2 := g.kept f2 (show (s.heap.size + 0) ≠ this from (nt2 lt_this))
  replace f4 := g.kept f4 (show (s.heap.size + 1) ≠ this from (nt2 lt_this))
  replace f6 := g.kept f6 (show (s.heap.size + 2) ≠ this from (nt2 lt_this))
  replace f8 := g.kept f8 (show (s.heap.size + 3) ≠ this from (nt2 lt_this))
  replace f10 := g.kept f10 (show (s.heap.size + 4) ≠ this from (nt2 lt_this))
  replace f12 := g.kept f12 (show (s.heap.size + 5) ≠ this from (nt2 lt_this))
  replace f14 := g.kept f14 (show (s.heap.size + 6) ≠ this from (nt2 lt_this))
  replace f16 := g.kept f16 (show (s.heap.size + 7) ≠ this from (nt2 lt_this))
  replace f18 := g.kept f18 (show (s.heap.size + 8) ≠ this from (nt2 lt_this))
  replace f0 : va_at κ.1 vwCl (this, .inr (6, [.int 0, .ref (s.heap.size + 0), .ref (s.heap.size + 1), .ref (s.heap.size + 2), .ref (s.heap.size + 3), .ref (s.heap.size + 4), .ref (s.heap.size + 5), .int 0, .int 0, .int 0, .int 0, .int (-1), .ref (s.heap.size + 6), .int 0, .int 0, .int 0, .int (-1), .int 0, .int 0, .int 0, .int 0, .int 0, .int 0, .int 0, .int 0, .ref (s.heap.size + 7), .ref (s.heap.size + 8)])) H := f0
  replace hz := g.1.trans hz
  clear g
  refine lv_aload_n hx hb dX6_init_89 rfl (lv_at hl 0 rfl) ?_
  refine lv_iconst (v := 2) hx hb dX6_init_90 (by decide) ?_
  refine xput (cn := 6) (v := .int 2) (ty := .int) (C := RX6) (T := TX6) (N := 27) hx hb hg inX6 tyX6 tyX6_ok nmX6 hown hK hS xA0 f0 rfl 18 (by decide) (hg _ k1237) (fun _ h9 => h9) rfl (by decide +kernel) rfl rfl (Nat.le_of_ble_eq_true rfl) dX6_init_91 (fun H locs g f0 hS2 => ?_)
  replace hS := hS2
  clear hS2
  replace f2 := g.kept f2 (show (s.heap.size + 0) ≠ this from (nt2 lt_this))
  replace f4 := g.kept f4 (show (s.heap.size + 1) ≠ this from (nt2 lt_this))
  replace f6 := g.kept f6 (show (s.heap.size + 2) ≠ this from (nt2 lt_this))
  replace f8 := g.kept f8 (show (s.heap.size + 3) ≠ this from (nt2 lt_this))
  replace f10 := g.kept f10 (show (s.heap.size + 4) ≠ this from (nt2 lt_this))
  replace f12 := g.kept f12 (show (s.heap.size + 5) ≠ this from (nt2 lt_this))
  replace f14 := g.kept f14 (show (s.heap.size + 6) ≠ this from (nt2 lt_this))
  replace f16 := g.kept f16 (show (s.heap.size + 7) ≠ this from (nt2 lt_this))
  replace f18 := g.kept f18 (show (s.heap.size + 8) ≠ this from (nt2 lt_this))
  replace f0 : va_at κ.1 vwCl (this, .inr (6, [.int 0, .ref (s.heap.size + 0), .ref (s.heap.size + 1), .ref (s.heap.size + 2), .ref (s.heap.size + 3), .ref (s.heap.size + 4), .ref (s.heap.size + 5), .int 0, .int 0, .int 0, .int 0, .int (-1), .ref (s.heap.size + 6), .int 0, .int 0, .int 0, .int (-1), .int 0, .int 2, .int 0, .int 0, .int 0, .int 0, .int 0, .int 0, .ref (s.heap.size + 7), .ref (s.heap.size + 8)])) H := f0
  replace hz := g.1.trans hz
  clear g
  refine lv_aload_n hx hb dX6_init_94 rfl (lv_at hl 0 rfl) ?_
  refine lv_iconst (v := 2) hx hb dX6_init_95 (by decide) ?_
  refine xput (cn := 6) (v := .int 2) (ty := .int) (C := RX6) (T := TX6) (N := 27) hx hb hg inX6 tyX6 tyX6_ok nmX6 hown hK hS xA0 f0 rfl 19 (by decide) (hg _ k1238) (fun _ h9 => h9) rfl (by decide +kernel) rfl rfl (Nat.le_of_ble_eq_true rfl) dX6_init_96 (fun H locs g f0 hS2 => ?_)
  replace hS := hS2
  clear hS2
  replace f2 := g.kept f2 (show (s.heap.size + 0) ≠ this from (nt2 lt_this))
  replace f4 := g.kept f4 (show (s.heap.size + 1) ≠ this from (nt2 lt_this))
  replace f6 := g.kept f6 (show (s.heap.size + 2) ≠ this from (nt2 lt_this))
  replace f8 := g.kept f8 (show (s.heap.size + 3) ≠ this from (nt2 lt_this))
  replace f10 := g.kept f10 (show (s.heap.size + 4) ≠ this from (nt2 lt_this))
  replace f12 := g.kept f12 (show (s.heap.size + 5) ≠ this from (nt2 lt_this))
  replace f14 := g.kept f14 (show (s.heap.size + 6) ≠ this from (nt2 lt_this))
  replace f16 := g.kept f16 (show (s.heap.size + 7) ≠ this from (nt2 lt_this))
  replace f18 := g.kept f18 (show (s.heap.size + 8) ≠ this from (nt2 lt_this))
  replace f0 : va_at κ.1 vwCl (this, .inr (6, [.int 0, .ref (s.heap.size + 0), .ref (s.heap.size + 1), .ref (s.heap.size + 2), .ref (s.heap.size + 3), .ref (s.heap.size + 4), .ref (s.heap.size + 5), .int 0, .int 0, .int 0, .int 0, .int (-1), .ref (s.heap.size + 6), .int 0, .int 0, .int 0, .int (-1), .int 0, .int 2, .int 2, .int 0, .int 0, .int 0, .int 0, .int 0, .ref (s.heap.size + 7), .ref (s.heap.size + 8)])) H := f0
  replace hz := g.1.trans hz
  clear g
  refine lv_aload_n hx hb dX6_init_99 rfl (lv_at hl 0 rfl) ?_
  refine lv_iconst (v := 0) hx hb dX6_init_100 (by decide) ?_
  refine xput (cn := 6) (v := .int 0) (ty := .int) (C := RX6) (T := TX6) (N := 27) hx hb hg inX6 tyX6 tyX6_ok nmX6 hown hK hS xA0 f0 rfl 20 (by decide) (hg _ k1239) (fun _ h9 => h9) rfl (by decide +kernel) rfl rfl (Nat.le_of_ble_eq_true rfl) dX6_init_101 (fun H locs g f0 hS2 => ?_)
  replace hS := hS2
  clear hS2
  replace f2 := g.kept f2 (show (s.heap.size + 0) ≠ this from (nt2 lt_this))
  replace f4 := g.kept f4 (show (s.heap.size + 1) ≠ this from (nt2 lt_this))
  replace f6 := g.kept f6 (show (s.heap.size + 2) ≠ this from (nt2 lt_this))
  replace f8 := g.kept f8 (show (s.heap.size + 3) ≠ this from (nt2 lt_this))
  replace f10 := g.kept f10 (show (s.heap.size + 4) ≠ this from (nt2 lt_this))
  replace f12 := g.kept f12 (show (s.heap.size + 5) ≠ this from (nt2 lt_this))
  replace f14 := g.kept f14 (show (s.heap.size + 6) ≠ this from (nt2 lt_this))
  replace f16 := g.kept f16 (show (s.heap.size + 7) ≠ this from (nt2 lt_this))
  replace f18 := g.kept f18 (show (s.heap.size + 8) ≠ this from (nt2 lt_this))
  replace f0 : va_at κ.1 vwCl (this, .inr (6, [.int 0, .ref (s.heap.size + 0), .ref (s.heap.size + 1), .ref (s.heap.size + 2), .ref (s.heap.size + 3), .ref (s.heap.size + 4), .ref (s.heap.size + 5), .int 0, .int 0, .int 0, .int 0, .int (-1), .ref (s.heap.size + 6), .int 0, .int 0, .int 0, .int (-1), .int 0, .int 2, .int 2, .int 0, .int 0, .int 0, .int 0, .int 0, .ref (s.heap.size + 7), .ref (s.heap.size + 8)])) H := f0
  replace hz := g.1.trans hz
  clear g
  refine lv_aload_n hx hb dX6_init_104 rfl (lv_at hl 0 rfl) ?_
  refine lv_iconst (v := 2) hx hb dX6_init_105 (by decide) ?_
  refine xput (cn := 6) (v := .int 2) (ty := .int) (C := RX6) (T := TX6) (N := 27) hx hb hg inX6 tyX6 tyX6_ok nmX6 hown hK hS xA0 f0 rfl 21 (by decide) (hg _ k1240) (fun _ h9 => h9) rfl (by decide +kernel) rfl rfl (Nat.le_of_ble_eq_true rfl) dX6_init_106 (fun H locs g f0 hS2 => ?_)
  replace hS := hS2
  clear hS2
  replace f2 := g.kept f2 (show (s.heap.size + 0) ≠ this from (nt2 lt_this))
  replace f4 := g.kept f4 (show (s.heap.size + 1) ≠ this from (nt2 lt_this))
  replace f6 := g.kept f6 (show (s.heap.size + 2) ≠ this from (nt2 lt_this))
  replace f8 := g.kept f8 (show (s.heap.size + 3) ≠ this from (nt2 lt_this))
  replace f10 := g.kept f10 (show (s.heap.size + 4) ≠ this from (nt2 lt_this))
  replace f12 := g.kept f12 (show (s.heap.size + 5) ≠ this from (nt2 lt_this))
  replace f14 := g.kept f14 (show (s.heap.size + 6) ≠ this from (nt2 lt_this))
  replace f16 := g.kept f16 (show (s.heap.size + 7) ≠ this from (nt2 lt_this))
  replace f18 := g.kept f18 (show (s.heap.size + 8) ≠ this from (nt2 lt_this))
  replace f0 : va_at κ.1 vwCl (this, .inr (6, [.int 0, .ref (s.heap.size + 0), .ref (s.heap.size + 1), .ref (s.heap.size + 2), .ref (s.heap.size + 3), .ref (s.heap.size + 4), .ref (s.heap.size + 5), .int 0, .int 0, .int 0, .int 0, .int (-1), .ref (s.heap.size + 6), .int 0, .int 0, .int 0, .int (-1), .int 0, .int 2, .int 2, .int 0, .int 2, .int 0, .int 0, .int 0, .ref (s.heap.size + 7), .ref (s.heap.size + 8)])) H := f0
  replace hz := g.1.trans hz
  clear g
  refine lv_aload_n hx hb dX6_init_109 rfl (lv_at hl 0 rfl) ?_
  refine lv_iconst (v := 1) hx hb dX6_init_110 (by decide) ?_
  refine xput (cn := 6) (v := .int 1) (ty := .int) (C := RX6) (T := TX6) (N := 27) hx hb hg inX6 tyX6 tyX6_ok nmX6 hown hK hS xA0 f0 rfl 22 (by decide) (hg _ k1241) (fun _ h9 => h9) rfl (by decide +kernel) rfl rfl (Nat.le_of_ble_eq_true rfl) dX6_init_111 (fun H locs g f0 hS2 => ?_)
  replace hS := hS2
  clear hS2
  replace f2 := g.kept f2 (show (s.heap.size + 0) ≠ this from (nt2 lt_this))
  replace f4 := g.kept f4 (show (s.heap.size + 1) ≠ this from (nt2 lt_this))
  replace f6 := g.kept f6 (show (s.heap.size + 2) ≠ this from (nt2 lt_this))
  replace f8 := g.kept f8 (show (s.heap.size + 3) ≠ this from (nt2 lt_this))
  replace f10 := g.kept f10 (show (s.heap.size + 4) ≠ this from (nt2 lt_this))
  replace f12 := g.kept f12 (show (s.heap.size + 5) ≠ this from (nt2 lt_this))
  replace f14 := g.kept f14 (show (s.heap.size + 6) ≠ this from (nt2 lt_this))
  replace f16 := g.kept f16 (show (s.heap.size + 7) ≠ this from (nt2 lt_this))
  replace f18 := g.kept f18 (show (s.heap.size + 8) ≠ this from (nt2 lt_this))
  replace f0 : va_at κ.1 vwCl (this, .inr (6, [.int 0, .ref (s.heap.size + 0), .ref (s.heap.size + 1), .ref (s.heap.size + 2), .ref (s.heap.size + 3), .ref (s.heap.size + 4), .ref (s.heap.size + 5), .int 0, .int 0, .int 0, .int 0, .int (-1), .ref (s.heap.size + 6), .int 0, .int 0, .int 0, .int (-1), .int 0, .int 2, .int 2, .int 0, .int 2, .int 1, .int 0, .int 0, .ref (s.heap.size + 7), .ref (s.heap.size + 8)])) H := f0
  replace hz := g.1.trans hz
  clear g
  refine lv_aload_n hx hb dX6_init_114 rfl (lv_at hl 0 rfl) ?_
  refine va_get (D := κ.1) (ci := 6) (v := .ref (s.heap.size + 7)) (C := RX6) (T := TX6) (N := 27) hx hb hg inX6 hown hK f0.one 0 rfl rfl 25 (by decide) (hg _ k1244) (fun _ h9 => h9) rfl dX6_init_115 ?_
  refine lv_iconst (v := 0) hx hb dX6_init_118 (by decide) ?_
  refine lv_iconst (v := 0) hx hb dX6_init_119 (by decide) ?_
  refine xiast hx hb hK hS (Or.inr (by omega)) f16 (vin (by decide)) dX6_init_120 (fun H locs g f16 hS2 => ?_)
  replace hS := hS2
  clear hS2
  replace f0 := g.kept f0 (show this ≠ (s.heap.size + 7) from (nt1 lt_this))
  replace f2 := g.kept f2 (show (s.heap.size + 0) ≠ (s.heap.size + 7) from (nk rfl))
  replace f4 := g.kept f4 (show (s.heap.size + 1) ≠ (s.heap.size + 7) from (nk rfl))
  replace f6 := g.kept f6 (show (s.heap.size + 2) ≠ (s.heap.size + 7) from (nk rfl))
  replace f8 := g.kept f8 (show (s.heap.size + 3) ≠ (s.heap.size + 7) from (nk rfl))
  replace f10 := g.kept f10 (show (s.heap.size + 4) ≠ (s.heap.size + 7) from (nk rfl))
  replace f12 := g.kept f12 (show (s.heap.size + 5) ≠ (s.heap.size + 7) from (nk rfl))
  replace f14 := g.kept f14 (show (s.heap.size + 6) ≠ (s.heap.size + 7) from (nk rfl))
  replace f18 := g.kept f18 (show (s.heap.size + 8) ≠ (s.heap.size + 7) from (nk rfl))
  replace hz := g.1.trans hz
  clear g
  replace f16 : va_at κ.1 vwCl ((s.heap.size + 7), .inl (kA κ 0, 48, .inl (upd ((fun _ => 0)) 0 0))) H := f16
  refine lv_aload_n hx hb dX6_init_121 rfl (lv_at hl 0 rfl) ?_
  refine va_get (D := κ.1) (ci := 6) (v := .ref (s.heap.size + 7)) (C := RX6) (T := TX6) (N := 27) hx hb hg inX6 hown hK f0.one 0 rfl rfl 25 (by decide) (hg _ k1244) (fun _ h9 => h9) rfl dX6_init_122 ?_
  refine lv_iconst (v := 1) hx hb dX6_init_125 (by decide) ?_
  refine lv_iconst (v := 1) hx hb dX6_init_126 (by decide) ?_
  refine xiast hx hb hK hS (Or.inr (by omega)) f16 (vin (by decide)) dX6_init_127 (fun H locs g f16 hS2 => ?_)
  replace hS := hS2
  clear hS2
  replace f0 := g.kept f0 (show this ≠ (s.heap.size + 7) from (nt1 lt_this))
  replace f2 := g.kept f2 (show (s.heap.size + 0) ≠ (s.heap.size + 7) from (nk rfl))
  replace f4 := g.kept f4 (show (s.heap.size + 1) ≠ (s.heap.size + 7) from (nk rfl))
  replace f6 := g.kept f6 (show (s.heap.size + 2) ≠ (s.heap.size + 7) from (nk rfl))
  replace f8 := g.kept f8 (show (s.heap.size + 3) ≠ (s.heap.size + 7) from (nk rfl))
  replace f10 := g.kept f10 (show (s.heap.size + 4) ≠ (s.heap.size + 7) from (nk rfl))
  replace f12 := g.kept f12 (show (s.heap.size + 5) ≠ (s.heap.size + 7) from (nk rfl))
  replace f14 := g.kept f14 (show (s.heap.size + 6) ≠ (s.heap.size + 7) from (nk rfl))
  replace f18 := g.kept f18 (show (s.heap.size + 8) ≠ (s.heap.size + 7) from (nk rfl))
  replace hz := g.1.trans hz
  clear g
  replace f16 : va_at κ.1 vwCl ((s.heap.size + 7), .inl (kA κ 0, 48, .inl (upd ((upd ((fun _ => 0)) 0 0)) 1 1))) H := f16
  refine lv_aload_n hx hb dX6_init_128 rfl (lv_at hl 0 rfl) ?_
  refine va_get (D := κ.1) (ci := 6) (v := .ref (s.heap.size + 8)) (C := RX6) (T := TX6) (N := 27) hx hb hg inX6 hown hK f0.one 0 rfl rfl 26 (by decide) (hg _ k1245) (fun _ h9 => h9) rfl dX6_init_129 ?_
  refine lv_iconst (v := 0) hx hb dX6_init_132 (by decide) ?_
  refine lv_iconst (v := 0) hx hb dX6_init_133 (by decide) ?_
  refine xiast hx hb hK hS (Or.inr (by omega)) f18 (vin (by decide)) dX6_init_134 (fun H locs g f18 hS2 => ?_)
  replace hS := hS2
  clear hS2
  replace f0 := g.kept f0 (show this ≠ (s.heap.size + 8) from (nt1 lt_this))
  replace f2 := g.kept f2 (show (s.heap.size + 0) ≠ (s.heap.size + 8) from (nk rfl))
  replace f4 := g.kept f4 (show (s.heap.size + 1) ≠ (s.heap.size + 8) from (nk rfl))
  replace f6 := g.kept f6 (show (s.heap.size + 2) ≠ (s.heap.size + 8) from (nk rfl))
  replace f8 := g.kept f8 (show (s.heap.size + 3) ≠ (s.heap.size + 8) from (nk rfl))
  replace f10 := g.kept f10 (show (s.heap.size + 4) ≠ (s.heap.size + 8) from (nk rfl))
  replace f12 := g.kept f12 (show (s.heap.size + 5) ≠ (s.heap.size + 8) from (nk rfl))
  replace f14 := g.kept f14 (show (s.heap.size + 6) ≠ (s.heap.size + 8) from (nk rfl))
  replace f16 := g.kept f16 (show (s.heap.size + 7) ≠ (s.heap.size + 8) from (nk rfl))
  replace hz := g.1.trans hz
  clear g
  replace f18 : va_at κ.1 vwCl ((s.heap.size + 8), .inl (kA κ 0, 48, .inl (upd ((fun _ => 0)) 0 0))) H := f18
  refine lv_aload_n hx hb dX6_init_135 rfl (lv_at hl 0 rfl) ?_
  refine va_get (D := κ.1) (ci := 6) (v := .ref (s.heap.size + 8)) (C := RX6) (T := TX6) (N := 27) hx hb hg inX6 hown hK f0.one 0 rfl rfl 26 (by decide) (hg _ k1245) (fun _ h9 => h9) rfl dX6_init_136 ?_
  refine lv_iconst (v := 1) hx hb dX6_init_139 (by decide) ?_
  refine lv_iconst (v := 0) hx hb dX6_init_140 (by decide) ?_
  refine xiast hx hb hK hS (Or.inr (by omega)) f18 (vin (by decide)) dX6_init_141 (fun H locs g f18 hS2 => ?_)
  replace hS := hS2
  clear hS2
  replace f0 := g.kept f0 (show this ≠ (s.heap.size + 8) from (nt1 lt_this))
  replace f2 := g.kept f2 (show (s.heap.size + 0) ≠ (s.heap.size + 8) from (nk rfl))
  replace f4 := g.kept f4 (show (s.heap.size + 1) ≠ (s.heap.size + 8) from (nk rfl))
  replace f6 := g.kept f6 (show (s.heap.size + 2) ≠ (s.heap.size + 8) from (nk rfl))
  replace f8 := g.kept f8 (show (s.heap.size + 3) ≠ (s.heap.size + 8) from (nk rfl))
  replace f10 := g.kept f10 (show (s.heap.size + 4) ≠ (s.heap.size + 8) from (nk rfl))
  replace f12 := g.kept f12 (show (s.heap.size + 5) ≠ (s.heap.size + 8) from (nk rfl))
  replace f14 := g.kept f14 (show (s.heap.size + 6) ≠ (s.heap.size + 8) from (nk rfl))
  replace f16 := g.kept f16 (show (s.heap.size + 7) ≠ (s.heap.size + 8) from (nk rfl))
  replace hz := g.1.trans hz
  clear g
  replace f18 : va_at κ.1 vwCl ((s.heap.size + 8), .inl (kA κ 0, 48, .inl (upd ((upd ((fun _ => 0)) 0 0)) 1 0))) H := f18
  refine lv_aload_n hx hb dX6_init_142 rfl (lv_at hl 0 rfl) ?_
  obtain ⟨ka10, sa10, G10, kd_10, hno, r10, e13, e18, i7, e15, e16, e20, e21, e22, e19, r26, i8⟩ := W6_asmr lt_this f2 f4 f6 f8 f10 f12 f14 f16 f18 f0
  obtain ⟨GT, ⟨gc1, gc2, gc3⟩, GP⟩ := G10
  refine W.tight (fun w1 w2 w3 w4 => ?_)
  obtain ⟨kz, hkz⟩ : ∃ z, z = kcap ka10 [] H.size (hsl H) := ⟨_, rfl⟩
  have hkC : kC kz = H.size := by rw [hkz]; rfl
  have hkS : kS kz = hsl H := by rw [hkz]; rfl
  have hc1 : kz.1 = κ.1 := by rw [hkz]; exact gc1
  have hc2 : kz.2.1 = κ.2.1 := by rw [hkz]; exact gc2
  have hc3 : kz.2.2.2.2.2.2 = κ.2.2.2.2.2.2 := by rw [hkz]; show ka10.2.2.2.2.2.2 = _; rw [gc3]
  have rz : kR kz this 25 = (s.heap.size + 7) := by rw [hkz]; exact r10
  have rz6 : kR kz this 26 = (s.heap.size + 8) := by rw [hkz]; exact r26
  have hT : TI kz sa10 H := by rw [hkz]; exact GT.kcap
  have hCp : CAP kz sa10 H := by rw [hkz]; exact CAP.mk (n := 0) hno (by decide) (by omega) (by omega)
  have hAq : ∀ q, tA sa10 H.size q → xA [this] s.heap.size q := fun q hq => by
    rcases hq with hq | hq
    · have h9 : (s.heap.size + 0 ≤ q ∧ q < s.heap.size + 9) ∨ q = this := GP q hq; exact h9.elim (fun h => Or.inr (by omega)) (fun h => Or.inl (List.mem_singleton.mpr h))
    · exact Or.inr (by omega)
  have hpl : PL (zI sa10 this 18).toInt.toNat (zI sa10 (kR kz this 25)) := by
    rw [e18, rz, i7]
    intro k hk
    have hk : k < 2 := hk
    rcases (show k = 0 ∨ k = 1 by omega) with rfl | rfl
    · exact ⟨⟨by decide, by decide⟩, fun _ => by decide⟩
    · exact ⟨⟨by decide, by decide⟩, fun h => absurd h (by decide)⟩
  refine xcallV (n := 0) (As := []) (rest := []) hx hb hml hown hg (κ1 := kz) ⟨hc1, kTy_eq hc2, XY_eq hc3⟩ (X6s_takesText l kz sa10 this kd_10 (by rw [e13]; decide) (by rw [e13]; decide) (by rw [e18]; decide) (by rw [e18]; decide) hpl) (mwV k1210 k1212 k34 k92 k1213) ⟨rfl, by decide, by decide, by decide +kernel⟩ ⟨(Nat.le_of_ble_eq_true rfl), (Nat.le_of_ble_eq_true rfl)⟩ hT hCp hK hS hX hAq f0 rfl rfl hl.1 rfl (Nat.le_of_ble_eq_true rfl) dX6_init_143 ⟨by show _ ≤ (9 : Nat); omega, by show _ ≤ (3330 : Nat); omega⟩ (fun tb H locs hφ hE hT hCp g hS => ?_)
  have kt2 : zT tb this = 20 := (hE.1 _ (by rw [kd_10]; decide)).trans kd_10
  have l13 : zI tb this 13 = 0 := ((show zk sa10 this 20 from kd_10).eI hE (by decide) rfl).trans e13
  have l15 : zI tb this 15 = 0 := ((show zk sa10 this 20 from kd_10).eI hE (by decide) rfl).trans e15
  have l16 : zI tb this 16 = -1 := ((show zk sa10 this 20 from kd_10).eI hE (by decide) rfl).trans e16
  have hno2 : ∀ a, zT tb a ≠ 1 := fun a ha => by
    rcases hE.2.1 a (by rw [ha]; decide) with h | h
    · have h9 := hE.1 a h; rw [ha] at h9; exact absurd (hno a h9.symm) (by simp)
    · omega
  have suppc : ∀ q, zT tb q ≠ 0 → xA [this] s.heap.size q := fun q hq => by
    rcases hE.2.1 q hq with h | h
    · exact hAq q (Or.inl h)
    · exact Or.inr (by omega)
  refine W.tight (fun y1 y2 y3 y4 => ?_)
  exact xret (Post := (fun sz su H => ∃ (κ' : Kt) (τ : Gh), TI κ' τ H ∧ (κ'.1 = κ.1 ∧ κ'.2.1 = κ.2.1 ∧ κ'.2.2.2.2.2.2 = κ.2.2.2.2.2.2) ∧ RI κ' τ this ∧ zI τ this 13 = 0 ∧ zI τ this 15 = 0 ∧ zI τ this 16 = -1 ∧ zI τ (kR κ' this 4) 0 = 0 ∧ zI τ (kR κ' this 4) 1 = 0 ∧ (zJ τ (kR κ' this 1) 0).toInt = 0 ∧ (zJ τ (kR κ' this 1) 1).toInt = 2 ∧ (zJ τ (kR κ' this 1) 2).toInt = 1 ∧ M9 κ' τ this ∧ zT τ this = 20 ∧ (∀ a, zT τ a ≠ 1) ∧ ∀ q, zT τ q ≠ 0 → xA [this] sz q)) hx hb hr hlocks hS ⟨kz, tb, hT, ⟨hc1, hc2, hc3⟩, hφ.1, l13, l15, l16, hφ.2.1, hφ.2.2.1, by rw [hφ.2.2.2.2.1, e20]; decide, by rw [hφ.2.2.2.2.2.1, e21]; decide, by rw [hφ.2.2.2.2.2.2.1, e22]; decide, ⟨⟨hφ.2.2.2.1.trans e18, hφ.2.2.2.2.2.2.2.1.trans e19⟩, ⟨(hφ.2.2.2.2.2.2.2.2.1 0 (by rw [e18]; decide)).trans (by rw [rz, i7]; rfl), (hφ.2.2.2.2.2.2.2.2.1 1 (by rw [e18]; decide)).trans (by rw [rz, i7]; rfl)⟩, (hφ.2.2.2.2.2.2.2.2.2 0 (by rw [e18]; decide)).trans (by rw [rz6, i8]; rfl), (hφ.2.2.2.2.2.2.2.2.2 1 (by rw [e18]; decide)).trans (by rw [rz6, i8]; rfl)⟩, kt2, hno2, suppc⟩ (by omega) (by omega) dX6_init_146

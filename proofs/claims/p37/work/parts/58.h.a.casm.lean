/-! The constructor of LiftingSignal: its cells as one ghost -/
set_option maxHeartbeats 40000000 in
set_option maxRecDepth 100000 in
theorem W5_asmr {κ : Kt} {H : Heap} {z9 this : Nat} (lt_this : this < z9) (p4 : va_at κ.1 vwCl ((z9 + 0), .inr (3, [.ref (z9 + 1), .int 0, .int 0, .int (-1), .int 0, .int 0, .int 0, .int 0])) H) (p5 : va_at κ.1 vwCl ((z9 + 1), .inl (kA κ 2, 700, .inl (fun _ => 0))) H) (p39 : va_at κ.1 vwCl ((z9 + 2), .inr (0, [.ref (z9 + 3), .ref (z9 + 4), .int 2, .int 0, .int 2, .int 1, .int 2])) H) (p40 : va_at κ.1 vwCl ((z9 + 3), .inl (kA κ 0, 48, .inl (upd ((upd ((fun _ => 0)) 0 0)) 1 1))) H) (p41 : va_at κ.1 vwCl ((z9 + 4), .inl (kA κ 0, 48, .inl (upd ((upd ((fun _ => 0)) 0 0)) 1 0))) H) (p15 : va_at κ.1 vwCl ((z9 + 5), .inr (0, [.ref (z9 + 6), .ref (z9 + 7), .int 0, .int 0, .int 2, .int 1, .int 2])) H) (p16 : va_at κ.1 vwCl ((z9 + 6), .inl (kA κ 0, 48, .inl (fun _ => 0))) H) (p17 : va_at κ.1 vwCl ((z9 + 7), .inl (kA κ 0, 48, .inl (fun _ => 0))) H) (p20 : va_at κ.1 vwCl ((z9 + 8), .inr (1, [.ref (z9 + 2), .ref (z9 + 9 + 0), .ref (z9 + 9 + 1), .ref (z9 + 9 + 2), .ref (z9 + 9 + 3), .int 0, .ref (z9 + 9 + 4), .int 0, .int 0, .int 0, .ref (z9 + 9 + 6), .ref (z9 + 9 + 8), .ref (z9 + 9 + 10)])) H) (p23 : va_at κ.1 vwCl ((z9 + 255), .inr (1, [.ref (z9 + 2), .ref (z9 + 256 + 0), .ref (z9 + 256 + 1), .ref (z9 + 256 + 2), .ref (z9 + 256 + 3), .int 0, .ref (z9 + 256 + 4), .int 0, .int 0, .int 0, .ref (z9 + 256 + 6), .ref (z9 + 256 + 8), .ref (z9 + 256 + 10)])) H) (f25 : va_at κ.1 vwCl ((z9 + 502), .inl (kA κ 6, 2, .inr (.inr (.inr (.inr (va_up (va_up (fun _ => none) 0 (some (z9 + 503))) 1 (some (z9 + 750)))))))) H) (p28 : va_at κ.1 vwCl ((z9 + 503), .inr (1, [.ref (z9 + 2), .ref (z9 + 504 + 0), .ref (z9 + 504 + 1), .ref (z9 + 504 + 2), .ref (z9 + 504 + 3), .int 0, .ref (z9 + 504 + 4), .int 0, .int 0, .int 0, .ref (z9 + 504 + 6), .ref (z9 + 504 + 8), .ref (z9 + 504 + 10)])) H) (p31 : va_at κ.1 vwCl ((z9 + 750), .inr (1, [.ref (z9 + 2), .ref (z9 + 751 + 0), .ref (z9 + 751 + 1), .ref (z9 + 751 + 2), .ref (z9 + 751 + 3), .int 0, .ref (z9 + 751 + 4), .int 0, .int 0, .int 0, .ref (z9 + 751 + 6), .ref (z9 + 751 + 8), .ref (z9 + 751 + 10)])) H) (f33 : va_at κ.1 vwCl ((z9 + 997), .inl (kA κ 3, 2, .inl (fun _ => 0))) H) (f0 : va_at κ.1 vwCl (this, .inr (5, [.ref (z9 + 0), .ref (z9 + 2), .ref (z9 + 5), .ref (z9 + 8), .ref (z9 + 255), .ref (z9 + 502), .ref (z9 + 997), .int 0, .int 0, .int (-1)])) H) (T9 : TI (kst κ (z9 + 9)) (gst (z9 + 9)) H) (T256 : TI (kst κ (z9 + 256)) (gst (z9 + 256)) H) (T504 : TI (kst κ (z9 + 504)) (gst (z9 + 504)) H) (T751 : TI (kst κ (z9 + 751)) (gst (z9 + 751)) H) : ∃ ka sa, GX κ ka sa H (fun x => (z9 + 0 ≤ x ∧ x < z9 + 998) ∨ x = this) ∧ zT sa (z9 + 8) = 3 ∧ zT sa this = 7 ∧ zT sa (z9 + 0) = 6 ∧ zI sa (z9 + 0) 1 = 0 ∧ kR ka this 0 = (z9 + 0) ∧ kR ka this 3 = (z9 + 8) ∧ zI sa (z9 + 0) 2 = 0 ∧ zI sa (z9 + 0) 3 = -1 ∧ zT sa (z9 + 997) = 13 ∧ kR ka this 6 = (z9 + 997) ∧ zI sa (z9 + 997) 0 = 0 ∧ zI sa (z9 + 997) 1 = 0 ∧ I9 sa z9 ∧ A9 ka z9 this := by
  have G0 : GX κ κ z0 H (fun x => x < 0) := GX.nil
  obtain ⟨ka1, sa1, G1, kd_1, i1, r1, l1, U1⟩ := G0.add (a := (z9 + 1)) (t := 14) (n := 0) (hh := 0) (c := (fun _ => 0)) (l := fun _ => 0) (r := (fun _ => 0)) (E := .inl (kA κ 2, 700, .inl (fun _ => 0))) (fun h => by have h9 : (z9 + 1) < 0 := h; omega) p5 (fun κ' h1 h2 => by show (Sum.inl (kA κ' 2, 700, Sum.inl _) : va_E) = _; rw [h1]) trivial (fun p hp => by cases hp) (fun h => absurd h (by decide)) (fun x => (z9 + 1 ≤ x ∧ x < z9 + 2)) (fun x h => by have h9 : (x < 0) ∨ x = (z9 + 1) := h; show (z9 + 1 ≤ x ∧ x < z9 + 2); omega)
  obtain ⟨ka2, sa2, G2, kd_2, i2, r2, l2, U2⟩ := G1.add (a := (z9 + 0)) (t := 6) (n := 0) (hh := 0) (c := (fun k => if k = 3 then (-1) else 0)) (l := fun _ => 0) (r := (fun k => if k = 0 then (z9 + 1) else 0)) (E := .inr (3, [.ref (z9 + 1), .int 0, .int 0, .int (-1), .int 0, .int 0, .int 0, .int 0])) (fun h => by have h9 : (z9 + 1 ≤ (z9 + 0) ∧ (z9 + 0) < z9 + 2) := h; omega) p4 (fun κ' h1 h2 => by show (Sum.inr (_, fs3 (kR κ' _) _) : va_E) = _; rw [h2]; rfl) ⟨⟨by decide, by decide⟩, ⟨by decide, by decide⟩, ⟨by decide, by decide⟩⟩ (fun p hp => by simp only [zR, List.mem_singleton] at hp; subst hp; exact Or.inr kd_1) (fun h => absurd h (by decide)) (fun x => (z9 + 0 ≤ x ∧ x < z9 + 2)) (fun x h => by have h9 : ((z9 + 1 ≤ x ∧ x < z9 + 2)) ∨ x = (z9 + 0) := h; show (z9 + 0 ≤ x ∧ x < z9 + 2); omega)
  have kd_1 := (U2).1 _ _ (by decide) kd_1
  have it := i2
  obtain ⟨ka3, sa3, G3, kd_3, i3, r3, l3, U3⟩ := G2.add (a := (z9 + 3)) (t := 8) (n := 0) (hh := 0) (c := (upd ((upd ((fun _ => 0)) 0 0)) 1 1)) (l := fun _ => 0) (r := (fun _ => 0)) (E := .inl (kA κ 0, 48, .inl (upd ((upd ((fun _ => 0)) 0 0)) 1 1))) (fun h => by have h9 : (z9 + 0 ≤ (z9 + 3) ∧ (z9 + 3) < z9 + 2) := h; omega) p40 (fun κ' h1 h2 => by show (Sum.inl (kA κ' 0, 48, Sum.inl _) : va_E) = _; rw [h1]) trivial (fun p hp => by cases hp) (fun h => absurd h (by decide)) (fun x => (z9 + 0 ≤ x ∧ x < z9 + 2) ∨ (z9 + 3 ≤ x ∧ x < z9 + 4)) (fun x h => by have h9 : ((z9 + 0 ≤ x ∧ x < z9 + 2)) ∨ x = (z9 + 3) := h; show (z9 + 0 ≤ x ∧ x < z9 + 2) ∨ (z9 + 3 ≤ x ∧ x < z9 + 4); omega)
  have kd_1 := (U3).1 _ _ (by decide) kd_1
  have it := (((U3).2 _ (by rw [kd_2]; decide)).1).trans it
  have kd_2 := (U3).1 _ _ (by decide) kd_2
  have ip9 := i3
  obtain ⟨ka4, sa4, G4, kd_4, i4, r4, l4, U4⟩ := G3.add (a := (z9 + 4)) (t := 16) (n := 0) (hh := 0) (c := (upd ((upd ((fun _ => 0)) 0 0)) 1 0)) (l := fun _ => 0) (r := (fun _ => 0)) (E := .inl (kA κ 0, 48, .inl (upd ((upd ((fun _ => 0)) 0 0)) 1 0))) (fun h => by have h9 : (z9 + 0 ≤ (z9 + 4) ∧ (z9 + 4) < z9 + 2) ∨ (z9 + 3 ≤ (z9 + 4) ∧ (z9 + 4) < z9 + 4) := h; omega) p41 (fun κ' h1 h2 => by show (Sum.inl (kA κ' 0, 48, Sum.inl _) : va_E) = _; rw [h1]) trivial (fun p hp => by cases hp) (fun h => absurd h (by decide)) (fun x => (z9 + 0 ≤ x ∧ x < z9 + 2) ∨ (z9 + 3 ≤ x ∧ x < z9 + 5)) (fun x h => by have h9 : ((z9 + 0 ≤ x ∧ x < z9 + 2) ∨ (z9 + 3 ≤ x ∧ x < z9 + 4)) ∨ x = (z9 + 4) := h; show (z9 + 0 ≤ x ∧ x < z9 + 2) ∨ (z9 + 3 ≤ x ∧ x < z9 + 5); omega)
  have kd_1 := (U4).1 _ _ (by decide) kd_1
  have it := (((U4).2 _ (by rw [kd_2]; decide)).1).trans it
  have kd_2 := (U4).1 _ _ (by decide) kd_2
  have ip9 := (((U4).2 _ (by rw [kd_3]; decide)).1).trans ip9
  have kd_3 := (U4).1 _ _ (by decide) kd_3
  have io9 := i4
  obtain ⟨ka5, sa5, G5, kd_5, i5, r5, l5, U5⟩ := G4.add (a := (z9 + 2)) (t := 4) (n := 0) (hh := 0) (c := (fun k => if k = 2 then 2 else if k = 4 then 2 else if k = 5 then 1 else if k = 6 then 2 else 0)) (l := fun _ => 0) (r := (fun k => if k = 0 then (z9 + 3) else if k = 1 then (z9 + 4) else 0)) (E := .inr (0, [.ref (z9 + 3), .ref (z9 + 4), .int 2, .int 0, .int 2, .int 1, .int 2])) (fun h => by have h9 : (z9 + 0 ≤ (z9 + 2) ∧ (z9 + 2) < z9 + 2) ∨ (z9 + 3 ≤ (z9 + 2) ∧ (z9 + 2) < z9 + 5) := h; omega) p39 (fun κ' h1 h2 => by show (Sum.inr (_, fs0 (kR κ' _) _) : va_E) = _; rw [h2]; rfl) ⟨⟨by decide, by decide⟩, isB1⟩ (fun p hp => by simp only [zR, List.mem_cons, List.not_mem_nil, or_false] at hp; rcases hp with rfl | rfl <;> first | exact Or.inr kd_3 | exact Or.inr kd_4) (fun h => absurd h (by decide)) (fun x => (z9 + 0 ≤ x ∧ x < z9 + 5)) (fun x h => by have h9 : ((z9 + 0 ≤ x ∧ x < z9 + 2) ∨ (z9 + 3 ≤ x ∧ x < z9 + 5)) ∨ x = (z9 + 2) := h; show (z9 + 0 ≤ x ∧ x < z9 + 5); omega)
  have kd_1 := (U5).1 _ _ (by decide) kd_1
  have it := (((U5).2 _ (by rw [kd_2]; decide)).1).trans it
  have kd_2 := (U5).1 _ _ (by decide) kd_2
  have ip9 := (((U5).2 _ (by rw [kd_3]; decide)).1).trans ip9
  have kd_3 := (U5).1 _ _ (by decide) kd_3
  have io9 := (((U5).2 _ (by rw [kd_4]; decide)).1).trans io9
  have kd_4 := (U5).1 _ _ (by decide) kd_4
  have is9 := i5
  have rs9_ := r5
  obtain ⟨ka6, sa6, G6, kd_6, i6, r6, l6, U6⟩ := G5.add (a := (z9 + 6)) (t := 17) (n := 0) (hh := 0) (c := (fun _ => 0)) (l := fun _ => 0) (r := (fun _ => 0)) (E := .inl (kA κ 0, 48, .inl (fun _ => 0))) (fun h => by have h9 : (z9 + 0 ≤ (z9 + 6) ∧ (z9 + 6) < z9 + 5) := h; omega) p16 (fun κ' h1 h2 => by show (Sum.inl (kA κ' 0, 48, Sum.inl _) : va_E) = _; rw [h1]) trivial (fun p hp => by cases hp) (fun h => absurd h (by decide)) (fun x => (z9 + 0 ≤ x ∧ x < z9 + 5) ∨ (z9 + 6 ≤ x ∧ x < z9 + 7)) (fun x h => by have h9 : ((z9 + 0 ≤ x ∧ x < z9 + 5)) ∨ x = (z9 + 6) := h; show (z9 + 0 ≤ x ∧ x < z9 + 5) ∨ (z9 + 6 ≤ x ∧ x < z9 + 7); omega)
  have kd_1 := (U6).1 _ _ (by decide) kd_1
  have it := (((U6).2 _ (by rw [kd_2]; decide)).1).trans it
  have kd_2 := (U6).1 _ _ (by decide) kd_2
  have ip9 := (((U6).2 _ (by rw [kd_3]; decide)).1).trans ip9
  have kd_3 := (U6).1 _ _ (by decide) kd_3
  have io9 := (((U6).2 _ (by rw [kd_4]; decide)).1).trans io9
  have kd_4 := (U6).1 _ _ (by decide) kd_4
  have is9 := (((U6).2 _ (by rw [kd_5]; decide)).1).trans is9
  have rs9_ := (((U6).2 _ (by rw [kd_5]; decide)).2).trans rs9_
  have kd_5 := (U6).1 _ _ (by decide) kd_5
  obtain ⟨ka7, sa7, G7, kd_7, i7, r7, l7, U7⟩ := G6.add (a := (z9 + 7)) (t := 18) (n := 0) (hh := 0) (c := (fun _ => 0)) (l := fun _ => 0) (r := (fun _ => 0)) (E := .inl (kA κ 0, 48, .inl (fun _ => 0))) (fun h => by have h9 : (z9 + 0 ≤ (z9 + 7) ∧ (z9 + 7) < z9 + 5) ∨ (z9 + 6 ≤ (z9 + 7) ∧ (z9 + 7) < z9 + 7) := h; omega) p17 (fun κ' h1 h2 => by show (Sum.inl (kA κ' 0, 48, Sum.inl _) : va_E) = _; rw [h1]) trivial (fun p hp => by cases hp) (fun h => absurd h (by decide)) (fun x => (z9 + 0 ≤ x ∧ x < z9 + 5) ∨ (z9 + 6 ≤ x ∧ x < z9 + 8)) (fun x h => by have h9 : ((z9 + 0 ≤ x ∧ x < z9 + 5) ∨ (z9 + 6 ≤ x ∧ x < z9 + 7)) ∨ x = (z9 + 7) := h; show (z9 + 0 ≤ x ∧ x < z9 + 5) ∨ (z9 + 6 ≤ x ∧ x < z9 + 8); omega)
  have kd_1 := (U7).1 _ _ (by decide) kd_1
  have it := (((U7).2 _ (by rw [kd_2]; decide)).1).trans it
  have kd_2 := (U7).1 _ _ (by decide) kd_2
  have ip9 := (((U7).2 _ (by rw [kd_3]; decide)).1).trans ip9
  have kd_3 := (U7).1 _ _ (by decide) kd_3
  have io9 := (((U7).2 _ (by rw [kd_4]; decide)).1).trans io9
  have kd_4 := (U7).1 _ _ (by decide) kd_4
  have is9 := (((U7).2 _ (by rw [kd_5]; decide)).1).trans is9
  have rs9_ := (((U7).2 _ (by rw [kd_5]; decide)).2).trans rs9_
  have kd_5 := (U7).1 _ _ (by decide) kd_5
  have kd_6 := (U7).1 _ _ (by decide) kd_6
  obtain ⟨ka8, sa8, G8, kd_8, i8, r8, l8, U8⟩ := G7.add (a := (z9 + 5)) (t := 5) (n := 0) (hh := 0) (c := (fun k => if k = 4 then 2 else if k = 5 then 1 else if k = 6 then 2 else 0)) (l := fun _ => 0) (r := (fun k => if k = 0 then (z9 + 6) else if k = 1 then (z9 + 7) else 0)) (E := .inr (0, [.ref (z9 + 6), .ref (z9 + 7), .int 0, .int 0, .int 2, .int 1, .int 2])) (fun h => by have h9 : (z9 + 0 ≤ (z9 + 5) ∧ (z9 + 5) < z9 + 5) ∨ (z9 + 6 ≤ (z9 + 5) ∧ (z9 + 5) < z9 + 8) := h; omega) p15 (fun κ' h1 h2 => by show (Sum.inr (_, fs0 (kR κ' _) _) : va_E) = _; rw [h2]; rfl) ⟨⟨by decide, by decide⟩, isB1⟩ (fun p hp => by simp only [zR, List.mem_cons, List.not_mem_nil, or_false] at hp; rcases hp with rfl | rfl <;> first | exact Or.inr kd_6 | exact Or.inr kd_7) (fun h => absurd h (by decide)) (fun x => (z9 + 0 ≤ x ∧ x < z9 + 8)) (fun x h => by have h9 : ((z9 + 0 ≤ x ∧ x < z9 + 5) ∨ (z9 + 6 ≤ x ∧ x < z9 + 8)) ∨ x = (z9 + 5) := h; show (z9 + 0 ≤ x ∧ x < z9 + 8); omega)
  have kd_1 := (U8).1 _ _ (by decide) kd_1
  have it := (((U8).2 _ (by rw [kd_2]; decide)).1).trans it
  have kd_2 := (U8).1 _ _ (by decide) kd_2
  have ip9 := (((U8).2 _ (by rw [kd_3]; decide)).1).trans ip9
  have kd_3 := (U8).1 _ _ (by decide) kd_3
  have io9 := (((U8).2 _ (by rw [kd_4]; decide)).1).trans io9
  have kd_4 := (U8).1 _ _ (by decide) kd_4
  have is9 := (((U8).2 _ (by rw [kd_5]; decide)).1).trans is9
  have rs9_ := (((U8).2 _ (by rw [kd_5]; decide)).2).trans rs9_
  have kd_5 := (U8).1 _ _ (by decide) kd_5
  have kd_6 := (U8).1 _ _ (by decide) kd_6
  have kd_7 := (U8).1 _ _ (by decide) kd_7
  obtain ⟨ka9, sa9, G9, U9, V9⟩ := G8.mer (gst_GX T9) (fun x h => by have h9 : (z9 + 0 ≤ x ∧ x < z9 + 8) := h; show ¬ (z9 + 9 ≤ x ∧ x < z9 + 9 + 246); omega) (fun x => (z9 + 0 ≤ x ∧ x < z9 + 8) ∨ (z9 + 9 ≤ x ∧ x < z9 + 255)) (fun x h => by have h9 : ((z9 + 0 ≤ x ∧ x < z9 + 8)) ∨ (z9 + 9 ≤ x ∧ x < z9 + 9 + 246) := h; show (z9 + 0 ≤ x ∧ x < z9 + 8) ∨ (z9 + 9 ≤ x ∧ x < z9 + 255); omega)
  have kd_1 := (U9).1 _ _ (by decide) kd_1
  have it := (((U9).2 _ (by rw [kd_2]; decide)).1).trans it
  have kd_2 := (U9).1 _ _ (by decide) kd_2
  have ip9 := (((U9).2 _ (by rw [kd_3]; decide)).1).trans ip9
  have kd_3 := (U9).1 _ _ (by decide) kd_3
  have io9 := (((U9).2 _ (by rw [kd_4]; decide)).1).trans io9
  have kd_4 := (U9).1 _ _ (by decide) kd_4
  have is9 := (((U9).2 _ (by rw [kd_5]; decide)).1).trans is9
  have rs9_ := (((U9).2 _ (by rw [kd_5]; decide)).2).trans rs9_
  have kd_5 := (U9).1 _ _ (by decide) kd_5
  have kd_6 := (U9).1 _ _ (by decide) kd_6
  have kd_7 := (U9).1 _ _ (by decide) kd_7
  have kd_8 := (U9).1 _ _ (by decide) kd_8
  have e0 := V9.1 (z9 + 9 + 0) 10 (by decide) (by rw [gst_T]; decide)
  have e1 := V9.1 (z9 + 9 + 1) 9 (by decide) (by rw [gst_T]; decide)
  have e2 := V9.1 (z9 + 9 + 2) 15 (by decide) (by rw [gst_T]; decide)
  have e3 := V9.1 (z9 + 9 + 3) 11 (by decide) (by rw [gst_T]; decide)
  have e4 := V9.1 (z9 + 9 + 4) 1 (by decide) (by rw [gst_T]; decide)
  have e6 := V9.1 (z9 + 9 + 6) 1 (by decide) (by rw [gst_T]; decide)
  have e8 := V9.1 (z9 + 9 + 8) 1 (by decide) (by rw [gst_T]; decide)
  have e10 := V9.1 (z9 + 9 + 10) 1 (by decide) (by rw [gst_T]; decide)
  obtain ⟨ka10, sa10, G10, kd_10, i10, r10, l10, U10⟩ := G9.add (a := (z9 + 8)) (t := 3) (n := 0) (hh := 0) (c := (fun _ => 0)) (l := fun _ => 0) (r := (fun k => if k = 0 then (z9 + 2) else if k = 1 then (z9 + 9 + 0) else if k = 2 then (z9 + 9 + 1) else if k = 3 then (z9 + 9 + 2) else if k = 4 then (z9 + 9 + 3) else if k = 6 then (z9 + 9 + 4) else if k = 10 then (z9 + 9 + 6) else if k = 11 then (z9 + 9 + 8) else if k = 12 then (z9 + 9 + 10) else 0)) (E := .inr (1, [.ref (z9 + 2), .ref (z9 + 9 + 0), .ref (z9 + 9 + 1), .ref (z9 + 9 + 2), .ref (z9 + 9 + 3), .int 0, .ref (z9 + 9 + 4), .int 0, .int 0, .int 0, .ref (z9 + 9 + 6), .ref (z9 + 9 + 8), .ref (z9 + 9 + 10)])) (fun h => by have h9 : (z9 + 0 ≤ (z9 + 8) ∧ (z9 + 8) < z9 + 8) ∨ (z9 + 9 ≤ (z9 + 8) ∧ (z9 + 8) < z9 + 255) := h; omega) p20 (fun κ' h1 h2 => by show (Sum.inr (_, fs1 (kR κ' _) _) : va_E) = _; rw [h2]; rfl) ⟨⟨by decide, by decide⟩, isB0⟩ (fun p hp => by simp only [zR, List.mem_cons, List.not_mem_nil, or_false] at hp; rcases hp with rfl | rfl | rfl | rfl | rfl | rfl | rfl | rfl | rfl <;> first | exact Or.inr kd_5 | exact Or.inr e0 | exact Or.inr e1 | exact Or.inr e2 | exact Or.inr e3 | exact Or.inr e4 | exact Or.inr e6 | exact Or.inr e8 | exact Or.inr e10) (fun h => absurd h (by decide)) (fun x => (z9 + 0 ≤ x ∧ x < z9 + 255)) (fun x h => by have h9 : ((z9 + 0 ≤ x ∧ x < z9 + 8) ∨ (z9 + 9 ≤ x ∧ x < z9 + 255)) ∨ x = (z9 + 8) := h; show (z9 + 0 ≤ x ∧ x < z9 + 255); omega)
  have kd_1 := (U10).1 _ _ (by decide) kd_1
  have it := (((U10).2 _ (by rw [kd_2]; decide)).1).trans it
  have kd_2 := (U10).1 _ _ (by decide) kd_2
  have ip9 := (((U10).2 _ (by rw [kd_3]; decide)).1).trans ip9
  have kd_3 := (U10).1 _ _ (by decide) kd_3
  have io9 := (((U10).2 _ (by rw [kd_4]; decide)).1).trans io9
  have kd_4 := (U10).1 _ _ (by decide) kd_4
  have is9 := (((U10).2 _ (by rw [kd_5]; decide)).1).trans is9
  have rs9_ := (((U10).2 _ (by rw [kd_5]; decide)).2).trans rs9_
  have kd_5 := (U10).1 _ _ (by decide) kd_5
  have kd_6 := (U10).1 _ _ (by decide) kd_6
  have kd_7 := (U10).1 _ _ (by decide) kd_7
  have kd_8 := (U10).1 _ _ (by decide) kd_8
  have rn9 := r10
  obtain ⟨ka11, sa11, G11, U11, V11⟩ := G10.mer (gst_GX T256) (fun x h => by have h9 : (z9 + 0 ≤ x ∧ x < z9 + 255) := h; show ¬ (z9 + 256 ≤ x ∧ x < z9 + 256 + 246); omega) (fun x => (z9 + 0 ≤ x ∧ x < z9 + 255) ∨ (z9 + 256 ≤ x ∧ x < z9 + 502)) (fun x h => by have h9 : ((z9 + 0 ≤ x ∧ x < z9 + 255)) ∨ (z9 + 256 ≤ x ∧ x < z9 + 256 + 246) := h; show (z9 + 0 ≤ x ∧ x < z9 + 255) ∨ (z9 + 256 ≤ x ∧ x < z9 + 502); omega)
  have kd_1 := (U11).1 _ _ (by decide) kd_1
  have it := (((U11).2 _ (by rw [kd_2]; decide)).1).trans it
  have kd_2 := (U11).1 _ _ (by decide) kd_2
  have ip9 := (((U11).2 _ (by rw [kd_3]; decide)).1).trans ip9
  have kd_3 := (U11).1 _ _ (by decide) kd_3
  have io9 := (((U11).2 _ (by rw [kd_4]; decide)).1).trans io9
  have kd_4 := (U11).1 _ _ (by decide) kd_4
  have is9 := (((U11).2 _ (by rw [kd_5]; decide)).1).trans is9
  have rs9_ := (((U11).2 _ (by rw [kd_5]; decide)).2).trans rs9_
  have kd_5 := (U11).1 _ _ (by decide) kd_5
  have kd_6 := (U11).1 _ _ (by decide) kd_6
  have kd_7 := (U11).1 _ _ (by decide) kd_7
  have kd_8 := (U11).1 _ _ (by decide) kd_8
  have rn9 := (((U11).2 _ (by rw [kd_10]; decide)).2).trans rn9
  have kd_10 := (U11).1 _ _ (by decide) kd_10
  have u9_ : UST ka11 sa11 (z9 + 256) := UST.ini (V11).1 (fun a ha => (V11).2 a ha)
  have e0 := V11.1 (z9 + 256 + 0) 10 (by decide) (by rw [gst_T]; decide)
  have e1 := V11.1 (z9 + 256 + 1) 9 (by decide) (by rw [gst_T]; decide)
  have e2 := V11.1 (z9 + 256 + 2) 15 (by decide) (by rw [gst_T]; decide)
  have e3 := V11.1 (z9 + 256 + 3) 11 (by decide) (by rw [gst_T]; decide)
  have e4 := V11.1 (z9 + 256 + 4) 1 (by decide) (by rw [gst_T]; decide)
  have e6 := V11.1 (z9 + 256 + 6) 1 (by decide) (by rw [gst_T]; decide)
  have e8 := V11.1 (z9 + 256 + 8) 1 (by decide) (by rw [gst_T]; decide)
  have e10 := V11.1 (z9 + 256 + 10) 1 (by decide) (by rw [gst_T]; decide)
  obtain ⟨ka12, sa12, G12, kd_12, i12, r12, l12, U12⟩ := G11.add (a := (z9 + 255)) (t := 3) (n := 0) (hh := 0) (c := (fun _ => 0)) (l := fun _ => 0) (r := (fun k => if k = 0 then (z9 + 2) else if k = 1 then (z9 + 256 + 0) else if k = 2 then (z9 + 256 + 1) else if k = 3 then (z9 + 256 + 2) else if k = 4 then (z9 + 256 + 3) else if k = 6 then (z9 + 256 + 4) else if k = 10 then (z9 + 256 + 6) else if k = 11 then (z9 + 256 + 8) else if k = 12 then (z9 + 256 + 10) else 0)) (E := .inr (1, [.ref (z9 + 2), .ref (z9 + 256 + 0), .ref (z9 + 256 + 1), .ref (z9 + 256 + 2), .ref (z9 + 256 + 3), .int 0, .ref (z9 + 256 + 4), .int 0, .int 0, .int 0, .ref (z9 + 256 + 6), .ref (z9 + 256 + 8), .ref (z9 + 256 + 10)])) (fun h => by have h9 : (z9 + 0 ≤ (z9 + 255) ∧ (z9 + 255) < z9 + 255) ∨ (z9 + 256 ≤ (z9 + 255) ∧ (z9 + 255) < z9 + 502) := h; omega) p23 (fun κ' h1 h2 => by show (Sum.inr (_, fs1 (kR κ' _) _) : va_E) = _; rw [h2]; rfl) ⟨⟨by decide, by decide⟩, isB0⟩ (fun p hp => by simp only [zR, List.mem_cons, List.not_mem_nil, or_false] at hp; rcases hp with rfl | rfl | rfl | rfl | rfl | rfl | rfl | rfl | rfl <;> first | exact Or.inr kd_5 | exact Or.inr e0 | exact Or.inr e1 | exact Or.inr e2 | exact Or.inr e3 | exact Or.inr e4 | exact Or.inr e6 | exact Or.inr e8 | exact Or.inr e10) (fun h => absurd h (by decide)) (fun x => (z9 + 0 ≤ x ∧ x < z9 + 502)) (fun x h => by have h9 : ((z9 + 0 ≤ x ∧ x < z9 + 255) ∨ (z9 + 256 ≤ x ∧ x < z9 + 502)) ∨ x = (z9 + 255) := h; show (z9 + 0 ≤ x ∧ x < z9 + 502); omega)
  have kd_1 := (U12).1 _ _ (by decide) kd_1
  have it := (((U12).2 _ (by rw [kd_2]; decide)).1).trans it
  have kd_2 := (U12).1 _ _ (by decide) kd_2
  have ip9 := (((U12).2 _ (by rw [kd_3]; decide)).1).trans ip9
  have kd_3 := (U12).1 _ _ (by decide) kd_3
  have io9 := (((U12).2 _ (by rw [kd_4]; decide)).1).trans io9
  have kd_4 := (U12).1 _ _ (by decide) kd_4
  have is9 := (((U12).2 _ (by rw [kd_5]; decide)).1).trans is9
  have rs9_ := (((U12).2 _ (by rw [kd_5]; decide)).2).trans rs9_
  have kd_5 := (U12).1 _ _ (by decide) kd_5
  have kd_6 := (U12).1 _ _ (by decide) kd_6
  have kd_7 := (U12).1 _ _ (by decide) kd_7
  have kd_8 := (U12).1 _ _ (by decide) kd_8
  have rn9 := (((U12).2 _ (by rw [kd_10]; decide)).2).trans rn9
  have kd_10 := (U12).1 _ _ (by decide) kd_10
  have u9_ := u9_.carry (U12).1 (fun a ha => (U12).2 a ha)
  have rt9 := r12
  obtain ⟨ka13, sa13, G13, U13, V13⟩ := G12.mer (gst_GX T504) (fun x h => by have h9 : (z9 + 0 ≤ x ∧ x < z9 + 502) := h; show ¬ (z9 + 504 ≤ x ∧ x < z9 + 504 + 246); omega) (fun x => (z9 + 0 ≤ x ∧ x < z9 + 502) ∨ (z9 + 504 ≤ x ∧ x < z9 + 750)) (fun x h => by have h9 : ((z9 + 0 ≤ x ∧ x < z9 + 502)) ∨ (z9 + 504 ≤ x ∧ x < z9 + 504 + 246) := h; show (z9 + 0 ≤ x ∧ x < z9 + 502) ∨ (z9 + 504 ≤ x ∧ x < z9 + 750); omega)
  have kd_1 := (U13).1 _ _ (by decide) kd_1
  have it := (((U13).2 _ (by rw [kd_2]; decide)).1).trans it
  have kd_2 := (U13).1 _ _ (by decide) kd_2
  have ip9 := (((U13).2 _ (by rw [kd_3]; decide)).1).trans ip9
  have kd_3 := (U13).1 _ _ (by decide) kd_3
  have io9 := (((U13).2 _ (by rw [kd_4]; decide)).1).trans io9
  have kd_4 := (U13).1 _ _ (by decide) kd_4
  have is9 := (((U13).2 _ (by rw [kd_5]; decide)).1).trans is9
  have rs9_ := (((U13).2 _ (by rw [kd_5]; decide)).2).trans rs9_
  have kd_5 := (U13).1 _ _ (by decide) kd_5
  have kd_6 := (U13).1 _ _ (by decide) kd_6
  have kd_7 := (U13).1 _ _ (by decide) kd_7
  have kd_8 := (U13).1 _ _ (by decide) kd_8
  have rn9 := (((U13).2 _ (by rw [kd_10]; decide)).2).trans rn9
  have kd_10 := (U13).1 _ _ (by decide) kd_10
  have rt9 := (((U13).2 _ (by rw [kd_12]; decide)).2).trans rt9
  have kd_12 := (U13).1 _ _ (by decide) kd_12
  have u9_ := u9_.carry (U13).1 (fun a ha => (U13).2 a ha)
  have e0 := V13.1 (z9 + 504 + 0) 10 (by decide) (by rw [gst_T]; decide)
  have e1 := V13.1 (z9 + 504 + 1) 9 (by decide) (by rw [gst_T]; decide)
  have e2 := V13.1 (z9 + 504 + 2) 15 (by decide) (by rw [gst_T]; decide)
  have e3 := V13.1 (z9 + 504 + 3) 11 (by decide) (by rw [gst_T]; decide)
  have e4 := V13.1 (z9 + 504 + 4) 1 (by decide) (by rw [gst_T]; decide)
  have e6 := V13.1 (z9 + 504 + 6) 1 (by decide) (by rw [gst_T]; decide)
  have e8 := V13.1 (z9 + 504 + 8) 1 (by decide) (by rw [gst_T]; decide)
  have e10 := V13.1 (z9 + 504 + 10) 1 (by decide) (by rw [gst_T]; decide)
  obtain ⟨ka14, sa14, G14, kd_14, i14, r14, l14, U14⟩ := G13.add (a := (z9 + 503)) (t := 3) (n := 0) (hh := 0) (c := (fun _ => 0)) (l := fun _ => 0) (r := (fun k => if k = 0 then (z9 + 2) else if k = 1 then (z9 + 504 + 0) else if k = 2 then (z9 + 504 + 1) else if k = 3 then (z9 + 504 + 2) else if k = 4 then (z9 + 504 + 3) else if k = 6 then (z9 + 504 + 4) else if k = 10 then (z9 + 504 + 6) else if k = 11 then (z9 + 504 + 8) else if k = 12 then (z9 + 504 + 10) else 0)) (E := .inr (1, [.ref (z9 + 2), .ref (z9 + 504 + 0), .ref (z9 + 504 + 1), .ref (z9 + 504 + 2), .ref (z9 + 504 + 3), .int 0, .ref (z9 + 504 + 4), .int 0, .int 0, .int 0, .ref (z9 + 504 + 6), .ref (z9 + 504 + 8), .ref (z9 + 504 + 10)])) (fun h => by have h9 : (z9 + 0 ≤ (z9 + 503) ∧ (z9 + 503) < z9 + 502) ∨ (z9 + 504 ≤ (z9 + 503) ∧ (z9 + 503) < z9 + 750) := h; omega) p28 (fun κ' h1 h2 => by show (Sum.inr (_, fs1 (kR κ' _) _) : va_E) = _; rw [h2]; rfl) ⟨⟨by decide, by decide⟩, isB0⟩ (fun p hp => by simp only [zR, List.mem_cons, List.not_mem_nil, or_false] at hp; rcases hp with rfl | rfl | rfl | rfl | rfl | rfl | rfl | rfl | rfl <;> first | exact Or.inr kd_5 | exact Or.inr e0 | exact Or.inr e1 | exact Or.inr e2 | exact Or.inr e3 | exact Or.inr e4 | exact Or.inr e6 | exact Or.inr e8 | exact Or.inr e10) (fun h => absurd h (by decide)) (fun x => (z9 + 0 ≤ x ∧ x < z9 + 502) ∨ (z9 + 503 ≤ x ∧ x < z9 + 750)) (fun x h => by have h9 : ((z9 + 0 ≤ x ∧ x < z9 + 502) ∨ (z9 + 504 ≤ x ∧ x < z9 + 750)) ∨ x = (z9 + 503) := h; show (z9 + 0 ≤ x ∧ x < z9 + 502) ∨ (z9 + 503 ≤ x ∧ x < z9 + 750); omega)
  have kd_1 := (U14).1 _ _ (by decide) kd_1
  have it := (((U14).2 _ (by rw [kd_2]; decide)).1).trans it
  have kd_2 := (U14).1 _ _ (by decide) kd_2
  have ip9 := (((U14).2 _ (by rw [kd_3]; decide)).1).trans ip9
  have kd_3 := (U14).1 _ _ (by decide) kd_3
  have io9 := (((U14).2 _ (by rw [kd_4]; decide)).1).trans io9
  have kd_4 := (U14).1 _ _ (by decide) kd_4
  have is9 := (((U14).2 _ (by rw [kd_5]; decide)).1).trans is9
  have rs9_ := (((U14).2 _ (by rw [kd_5]; decide)).2).trans rs9_
  have kd_5 := (U14).1 _ _ (by decide) kd_5
  have kd_6 := (U14).1 _ _ (by decide) kd_6
  have kd_7 := (U14).1 _ _ (by decide) kd_7
  have kd_8 := (U14).1 _ _ (by decide) kd_8
  have rn9 := (((U14).2 _ (by rw [kd_10]; decide)).2).trans rn9
  have kd_10 := (U14).1 _ _ (by decide) kd_10
  have rt9 := (((U14).2 _ (by rw [kd_12]; decide)).2).trans rt9
  have kd_12 := (U14).1 _ _ (by decide) kd_12
  have u9_ := u9_.carry (U14).1 (fun a ha => (U14).2 a ha)
  obtain ⟨ka15, sa15, G15, U15, V15⟩ := G14.mer (gst_GX T751) (fun x h => by have h9 : (z9 + 0 ≤ x ∧ x < z9 + 502) ∨ (z9 + 503 ≤ x ∧ x < z9 + 750) := h; show ¬ (z9 + 751 ≤ x ∧ x < z9 + 751 + 246); omega) (fun x => (z9 + 0 ≤ x ∧ x < z9 + 502) ∨ (z9 + 503 ≤ x ∧ x < z9 + 750) ∨ (z9 + 751 ≤ x ∧ x < z9 + 997)) (fun x h => by have h9 : ((z9 + 0 ≤ x ∧ x < z9 + 502) ∨ (z9 + 503 ≤ x ∧ x < z9 + 750)) ∨ (z9 + 751 ≤ x ∧ x < z9 + 751 + 246) := h; show (z9 + 0 ≤ x ∧ x < z9 + 502) ∨ (z9 + 503 ≤ x ∧ x < z9 + 750) ∨ (z9 + 751 ≤ x ∧ x < z9 + 997); omega)
  have kd_1 := (U15).1 _ _ (by decide) kd_1
  have it := (((U15).2 _ (by rw [kd_2]; decide)).1).trans it
  have kd_2 := (U15).1 _ _ (by decide) kd_2
  have ip9 := (((U15).2 _ (by rw [kd_3]; decide)).1).trans ip9
  have kd_3 := (U15).1 _ _ (by decide) kd_3
  have io9 := (((U15).2 _ (by rw [kd_4]; decide)).1).trans io9
  have kd_4 := (U15).1 _ _ (by decide) kd_4
  have is9 := (((U15).2 _ (by rw [kd_5]; decide)).1).trans is9
  have rs9_ := (((U15).2 _ (by rw [kd_5]; decide)).2).trans rs9_
  have kd_5 := (U15).1 _ _ (by decide) kd_5
  have kd_6 := (U15).1 _ _ (by decide) kd_6
  have kd_7 := (U15).1 _ _ (by decide) kd_7
  have kd_8 := (U15).1 _ _ (by decide) kd_8
  have rn9 := (((U15).2 _ (by rw [kd_10]; decide)).2).trans rn9
  have kd_10 := (U15).1 _ _ (by decide) kd_10
  have rt9 := (((U15).2 _ (by rw [kd_12]; decide)).2).trans rt9
  have kd_12 := (U15).1 _ _ (by decide) kd_12
  have kd_14 := (U15).1 _ _ (by decide) kd_14
  have u9_ := u9_.carry (U15).1 (fun a ha => (U15).2 a ha)
  have e0 := V15.1 (z9 + 751 + 0) 10 (by decide) (by rw [gst_T]; decide)
  have e1 := V15.1 (z9 + 751 + 1) 9 (by decide) (by rw [gst_T]; decide)
  have e2 := V15.1 (z9 + 751 + 2) 15 (by decide) (by rw [gst_T]; decide)
  have e3 := V15.1 (z9 + 751 + 3) 11 (by decide) (by rw [gst_T]; decide)
  have e4 := V15.1 (z9 + 751 + 4) 1 (by decide) (by rw [gst_T]; decide)
  have e6 := V15.1 (z9 + 751 + 6) 1 (by decide) (by rw [gst_T]; decide)
  have e8 := V15.1 (z9 + 751 + 8) 1 (by decide) (by rw [gst_T]; decide)
  have e10 := V15.1 (z9 + 751 + 10) 1 (by decide) (by rw [gst_T]; decide)
  obtain ⟨ka16, sa16, G16, kd_16, i16, r16, l16, U16⟩ := G15.add (a := (z9 + 750)) (t := 3) (n := 0) (hh := 0) (c := (fun _ => 0)) (l := fun _ => 0) (r := (fun k => if k = 0 then (z9 + 2) else if k = 1 then (z9 + 751 + 0) else if k = 2 then (z9 + 751 + 1) else if k = 3 then (z9 + 751 + 2) else if k = 4 then (z9 + 751 + 3) else if k = 6 then (z9 + 751 + 4) else if k = 10 then (z9 + 751 + 6) else if k = 11 then (z9 + 751 + 8) else if k = 12 then (z9 + 751 + 10) else 0)) (E := .inr (1, [.ref (z9 + 2), .ref (z9 + 751 + 0), .ref (z9 + 751 + 1), .ref (z9 + 751 + 2), .ref (z9 + 751 + 3), .int 0, .ref (z9 + 751 + 4), .int 0, .int 0, .int 0, .ref (z9 + 751 + 6), .ref (z9 + 751 + 8), .ref (z9 + 751 + 10)])) (fun h => by have h9 : (z9 + 0 ≤ (z9 + 750) ∧ (z9 + 750) < z9 + 502) ∨ (z9 + 503 ≤ (z9 + 750) ∧ (z9 + 750) < z9 + 750) ∨ (z9 + 751 ≤ (z9 + 750) ∧ (z9 + 750) < z9 + 997) := h; omega) p31 (fun κ' h1 h2 => by show (Sum.inr (_, fs1 (kR κ' _) _) : va_E) = _; rw [h2]; rfl) ⟨⟨by decide, by decide⟩, isB0⟩ (fun p hp => by simp only [zR, List.mem_cons, List.not_mem_nil, or_false] at hp; rcases hp with rfl | rfl | rfl | rfl | rfl | rfl | rfl | rfl | rfl <;> first | exact Or.inr kd_5 | exact Or.inr e0 | exact Or.inr e1 | exact Or.inr e2 | exact Or.inr e3 | exact Or.inr e4 | exact Or.inr e6 | exact Or.inr e8 | exact Or.inr e10) (fun h => absurd h (by decide)) (fun x => (z9 + 0 ≤ x ∧ x < z9 + 502) ∨ (z9 + 503 ≤ x ∧ x < z9 + 997)) (fun x h => by have h9 : ((z9 + 0 ≤ x ∧ x < z9 + 502) ∨ (z9 + 503 ≤ x ∧ x < z9 + 750) ∨ (z9 + 751 ≤ x ∧ x < z9 + 997)) ∨ x = (z9 + 750) := h; show (z9 + 0 ≤ x ∧ x < z9 + 502) ∨ (z9 + 503 ≤ x ∧ x < z9 + 997); omega)
  have kd_1 := (U16).1 _ _ (by decide) kd_1
  have it := (((U16).2 _ (by rw [kd_2]; decide)).1).trans it
  have kd_2 := (U16).1 _ _ (by decide) kd_2
  have ip9 := (((U16).2 _ (by rw [kd_3]; decide)).1).trans ip9
  have kd_3 := (U16).1 _ _ (by decide) kd_3
  have io9 := (((U16).2 _ (by rw [kd_4]; decide)).1).trans io9
  have kd_4 := (U16).1 _ _ (by decide) kd_4
  have is9 := (((U16).2 _ (by rw [kd_5]; decide)).1).trans is9
  have rs9_ := (((U16).2 _ (by rw [kd_5]; decide)).2).trans rs9_
  have kd_5 := (U16).1 _ _ (by decide) kd_5
  have kd_6 := (U16).1 _ _ (by decide) kd_6
  have kd_7 := (U16).1 _ _ (by decide) kd_7
  have kd_8 := (U16).1 _ _ (by decide) kd_8
  have rn9 := (((U16).2 _ (by rw [kd_10]; decide)).2).trans rn9
  have kd_10 := (U16).1 _ _ (by decide) kd_10
  have rt9 := (((U16).2 _ (by rw [kd_12]; decide)).2).trans rt9
  have kd_12 := (U16).1 _ _ (by decide) kd_12
  have kd_14 := (U16).1 _ _ (by decide) kd_14
  have u9_ := u9_.carry (U16).1 (fun a ha => (U16).2 a ha)
  have f502 : va_at κ.1 vwCl ((z9 + 502), .inl (kA κ 6, 2, .inr (.inr (.inr (.inr (fun i => some ((fun k => if k = 0 then (z9 + 503) else (z9 + 750)) i))))))) H := f25.refs (fun i hi => by rcases (show i = 0 ∨ i = 1 by omega) with rfl | rfl <;> rfl)
  obtain ⟨ka17, sa17, G17, kd_17, i17, r17, l17, U17⟩ := G16.add (a := (z9 + 502)) (t := 12) (n := 0) (hh := 0) (c := (fun _ => 0)) (l := fun _ => 0) (r := (fun k => if k = 0 then (z9 + 503) else (z9 + 750))) (E := .inl (kA κ 6, 2, .inr (.inr (.inr (.inr (fun i => some ((fun k => if k = 0 then (z9 + 503) else (z9 + 750)) i))))))) (fun h => by have h9 : (z9 + 0 ≤ (z9 + 502) ∧ (z9 + 502) < z9 + 502) ∨ (z9 + 503 ≤ (z9 + 502) ∧ (z9 + 502) < z9 + 997) := h; omega) f502 (fun κ' h1 h2 => by show (Sum.inl (kA κ' 6, 2, Sum.inr (Sum.inr (Sum.inr (Sum.inr fun i => some (kR κ' _ i))))) : va_E) = _; rw [h1, h2]) trivial (fun p hp => by obtain ⟨i, hi, rfl⟩ := List.mem_map.mp hp; have hi := List.mem_range.mp hi; rcases (show i = 0 ∨ i = 1 by omega) with rfl | rfl <;> first | exact Or.inr kd_14 | exact Or.inr kd_16) (fun h => absurd h (by decide)) (fun x => (z9 + 0 ≤ x ∧ x < z9 + 997)) (fun x h => by have h9 : ((z9 + 0 ≤ x ∧ x < z9 + 502) ∨ (z9 + 503 ≤ x ∧ x < z9 + 997)) ∨ x = (z9 + 502) := h; show (z9 + 0 ≤ x ∧ x < z9 + 997); omega)
  have kd_1 := (U17).1 _ _ (by decide) kd_1
  have it := (((U17).2 _ (by rw [kd_2]; decide)).1).trans it
  have kd_2 := (U17).1 _ _ (by decide) kd_2
  have ip9 := (((U17).2 _ (by rw [kd_3]; decide)).1).trans ip9
  have kd_3 := (U17).1 _ _ (by decide) kd_3
  have io9 := (((U17).2 _ (by rw [kd_4]; decide)).1).trans io9
  have kd_4 := (U17).1 _ _ (by decide) kd_4
  have is9 := (((U17).2 _ (by rw [kd_5]; decide)).1).trans is9
  have rs9_ := (((U17).2 _ (by rw [kd_5]; decide)).2).trans rs9_
  have kd_5 := (U17).1 _ _ (by decide) kd_5
  have kd_6 := (U17).1 _ _ (by decide) kd_6
  have kd_7 := (U17).1 _ _ (by decide) kd_7
  have kd_8 := (U17).1 _ _ (by decide) kd_8
  have rn9 := (((U17).2 _ (by rw [kd_10]; decide)).2).trans rn9
  have kd_10 := (U17).1 _ _ (by decide) kd_10
  have rt9 := (((U17).2 _ (by rw [kd_12]; decide)).2).trans rt9
  have kd_12 := (U17).1 _ _ (by decide) kd_12
  have kd_14 := (U17).1 _ _ (by decide) kd_14
  have kd_16 := (U17).1 _ _ (by decide) kd_16
  have u9_ := u9_.carry (U17).1 (fun a ha => (U17).2 a ha)
  have rq9 := r17
  obtain ⟨ka18, sa18, G18, kd_18, i18, r18, l18, U18⟩ := G17.add (a := (z9 + 997)) (t := 13) (n := 0) (hh := 0) (c := (fun _ => 0)) (l := fun _ => 0) (r := (fun _ => 0)) (E := .inl (kA κ 3, 2, .inl (fun _ => 0))) (fun h => by have h9 : (z9 + 0 ≤ (z9 + 997) ∧ (z9 + 997) < z9 + 997) := h; omega) f33 (fun κ' h1 h2 => by show (Sum.inl (kA κ' 3, 2, Sum.inl _) : va_E) = _; rw [h1]) trivial (fun p hp => by cases hp) (fun h => absurd h (by decide)) (fun x => (z9 + 0 ≤ x ∧ x < z9 + 998)) (fun x h => by have h9 : ((z9 + 0 ≤ x ∧ x < z9 + 997)) ∨ x = (z9 + 997) := h; show (z9 + 0 ≤ x ∧ x < z9 + 998); omega)
  have kd_1 := (U18).1 _ _ (by decide) kd_1
  have it := (((U18).2 _ (by rw [kd_2]; decide)).1).trans it
  have kd_2 := (U18).1 _ _ (by decide) kd_2
  have ip9 := (((U18).2 _ (by rw [kd_3]; decide)).1).trans ip9
  have kd_3 := (U18).1 _ _ (by decide) kd_3
  have io9 := (((U18).2 _ (by rw [kd_4]; decide)).1).trans io9
  have kd_4 := (U18).1 _ _ (by decide) kd_4
  have is9 := (((U18).2 _ (by rw [kd_5]; decide)).1).trans is9
  have rs9_ := (((U18).2 _ (by rw [kd_5]; decide)).2).trans rs9_
  have kd_5 := (U18).1 _ _ (by decide) kd_5
  have kd_6 := (U18).1 _ _ (by decide) kd_6
  have kd_7 := (U18).1 _ _ (by decide) kd_7
  have kd_8 := (U18).1 _ _ (by decide) kd_8
  have rn9 := (((U18).2 _ (by rw [kd_10]; decide)).2).trans rn9
  have kd_10 := (U18).1 _ _ (by decide) kd_10
  have rt9 := (((U18).2 _ (by rw [kd_12]; decide)).2).trans rt9
  have kd_12 := (U18).1 _ _ (by decide) kd_12
  have kd_14 := (U18).1 _ _ (by decide) kd_14
  have kd_16 := (U18).1 _ _ (by decide) kd_16
  have rq9 := (((U18).2 _ (by rw [kd_17]; decide)).2).trans rq9
  have kd_17 := (U18).1 _ _ (by decide) kd_17
  have u9_ := u9_.carry (U18).1 (fun a ha => (U18).2 a ha)
  have kq9 := kd_18
  obtain ⟨ka19, sa19, G19, kd_19, i19, r19, l19, U19⟩ := G18.add (a := this) (t := 7) (n := 0) (hh := 0) (c := (fun k => if k = 9 then (-1) else 0)) (l := fun _ => 0) (r := (fun k => if k = 0 then (z9 + 0) else if k = 1 then (z9 + 2) else if k = 2 then (z9 + 5) else if k = 3 then (z9 + 8) else if k = 4 then (z9 + 255) else if k = 5 then (z9 + 502) else if k = 6 then (z9 + 997) else 0)) (E := .inr (5, [.ref (z9 + 0), .ref (z9 + 2), .ref (z9 + 5), .ref (z9 + 8), .ref (z9 + 255), .ref (z9 + 502), .ref (z9 + 997), .int 0, .int 0, .int (-1)])) (fun h => by have h9 : (z9 + 0 ≤ this ∧ this < z9 + 998) := h; omega) f0 (fun κ' h1 h2 => by show (Sum.inr (_, fs5 (kR κ' _) _) : va_E) = _; rw [h2]; rfl) trivial (fun p hp => by simp only [zR, List.mem_cons, List.not_mem_nil, or_false] at hp; rcases hp with rfl | rfl | rfl | rfl | rfl | rfl | rfl <;> first | exact Or.inr kd_2 | exact Or.inr kd_5 | exact Or.inr kd_8 | exact Or.inr kd_10 | exact Or.inr kd_12 | exact Or.inr kd_17 | exact Or.inr kd_18) (fun h => absurd h (by decide)) (fun x => (z9 + 0 ≤ x ∧ x < z9 + 998) ∨ x = this) (fun x h => by have h9 : ((z9 + 0 ≤ x ∧ x < z9 + 998)) ∨ x = this := h; show (z9 + 0 ≤ x ∧ x < z9 + 998) ∨ x = this; omega)
  have kd_1 := (U19).1 _ _ (by decide) kd_1
  have it := (((U19).2 _ (by rw [kd_2]; decide)).1).trans it
  have kd_2 := (U19).1 _ _ (by decide) kd_2
  have ip9 := (((U19).2 _ (by rw [kd_3]; decide)).1).trans ip9
  have kd_3 := (U19).1 _ _ (by decide) kd_3
  have io9 := (((U19).2 _ (by rw [kd_4]; decide)).1).trans io9
  have kd_4 := (U19).1 _ _ (by decide) kd_4
  have is9 := (((U19).2 _ (by rw [kd_5]; decide)).1).trans is9
  have rs9_ := (((U19).2 _ (by rw [kd_5]; decide)).2).trans rs9_
  have kd_5 := (U19).1 _ _ (by decide) kd_5
  have kd_6 := (U19).1 _ _ (by decide) kd_6
  have kd_7 := (U19).1 _ _ (by decide) kd_7
  have kd_8 := (U19).1 _ _ (by decide) kd_8
  have rn9 := (((U19).2 _ (by rw [kd_10]; decide)).2).trans rn9
  have kd_10 := (U19).1 _ _ (by decide) kd_10
  have rt9 := (((U19).2 _ (by rw [kd_12]; decide)).2).trans rt9
  have kd_12 := (U19).1 _ _ (by decide) kd_12
  have kd_14 := (U19).1 _ _ (by decide) kd_14
  have kd_16 := (U19).1 _ _ (by decide) kd_16
  have rq9 := (((U19).2 _ (by rw [kd_17]; decide)).2).trans rq9
  have kd_17 := (U19).1 _ _ (by decide) kd_17
  have kd_18 := (U19).1 _ _ (by decide) kd_18
  have u9_ := u9_.carry (U19).1 (fun a ha => (U19).2 a ha)
  have ik9 := ((U19.2 _ (by rw [show zT sa18 (z9 + 997) = 13 from kq9]; decide)).1).trans i18
  exact ⟨ka19, sa19, G19, kd_10, kd_19, kd_2, by rw [it]; rfl, by rw [r19]; rfl, by rw [r19]; rfl, by rw [it]; rfl, by rw [it]; rfl, kd_18, by rw [r19]; rfl, by rw [ik9], by rw [ik9], by unfold I9; exact ⟨kd_5, by rw [is9]; rfl, by rw [is9]; rfl, by rw [is9]; rfl, ⟨by rw [is9]; rfl, by rw [is9]; rfl⟩, ⟨kd_3, kd_4⟩, ⟨by rw [ip9]; rfl, by rw [ip9]; rfl⟩, by rw [io9]; rfl, by rw [io9]; rfl⟩, by unfold A9; exact ⟨by rw [rn9]; rfl, by rw [r19]; rfl, by rw [r19]; rfl, by rw [r19]; rfl, by rw [rq9]; rfl, by rw [rq9]; rfl, by rw [rt9]; rfl, by rw [rs9_]; rfl, by rw [rs9_]; rfl, u9_.dw (by rw [rt9]; rfl) (by rw [rt9]; rfl) (by rw [rt9]; rfl) (by rw [rt9]; rfl) (by rw [rt9]; rfl)⟩⟩

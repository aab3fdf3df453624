/-! From the law's entry: classes, arrays, the parts put together. -/
theorem arr_of {args : Array Value} {s : State} {ty : FieldType} (h : (Cond.arrayClass ty).before args s = true) : ∃ cA, ArrOfT s cA ty ∧ s.vm.findClass ("[" ++ ty.toString) = some cA := by
  obtain ⟨cA, kA', comp, h1, h2, h3⟩ := Cond.arrayClass_spec h
  exact ⟨cA, fun n z => ⟨fun k h => (by cases h), kA', h2, comp, h3⟩, h1⟩
theorem arr_ofq {s : State} {C : String} (h : va_AO C s) : ∃ cA, ArrOfT s cA (.object C) ∧ va_RA s cA (.object C) := by
  obtain ⟨comp, c, k, h1, h2, h3, h4, h5⟩ := Cond.arrayOver_spec h
  exact ⟨c, fun N z => ⟨fun k h => (by cases h), k, h3, comp, h4⟩, k, comp, h3, h4, h1, h5⟩
theorem RI.tr {κ κ' : Kt} {σ σ' : Gh} {m : Nat} (h : RI κ σ m) (hR : kR κ' m = kR κ m) (hT : ∀ a, zT σ a ≠ 0 → zT σ' a = zT σ a ∧ zI σ' a = zI σ a ∧ zJ σ' a = zJ σ a) : RI κ' σ' m := by
  obtain ⟨⟨k0, k1, k3, k4, k5⟩, h2⟩ := h
  have z : ∀ {a t : Nat}, zk σ a t → t ≠ 0 → zT σ' a = zT σ a ∧ zI σ' a = zI σ a ∧ zJ σ' a = zJ σ a := fun {a t} q ht => hT a (by rw [show zT σ a = t from q]; exact ht)
  have e0 := z k0 (by decide)
  have e1 := z k1 (by decide)
  have e3 := z k3 (by decide)
  have e4 := z k4 (by decide)
  have e5 := z k5 (by decide)
  refine ⟨⟨e0.1.trans k0, ?_, ?_, ?_, ?_⟩, ?_⟩
  · rw [hR]; exact e1.1.trans k1
  · rw [hR]; exact e3.1.trans k3
  · rw [hR]; exact e4.1.trans k4
  · rw [hR]; exact e5.1.trans k5
  · unfold rN
    rw [hR, e0.2.1, e1.2.2, e3.2.2, e4.2.1, e5.2.1]
    exact h2
theorem sum_filter_le {f g : Nat → Nat} {p : Nat → Bool} (h : ∀ a, p a = true → f a ≤ g a) : ∀ L : List Nat, ((L.filter p).map f).sum ≤ (L.map g).sum := by
  intro L
  induction L with
  | nil => exact Nat.le_refl _
  | cons a L ih =>
    by_cases e : p a = true
    · have := h a e
      rw [List.filter_cons_of_pos e, List.map_cons, List.map_cons, List.sum_cons, List.sum_cons]
      omega
    · rw [List.filter_cons_of_neg e, List.map_cons, List.sum_cons]
      omega
/-- the class's part and the reference's part, and the array for answers -/
theorem law_parts {κ κ1 κ2 : Kt} {σ1 σ2 : Gh} {H1 H : Heap} {x mm out C S : Nat} (c1 : κ1.1 = κ.1 ∧ κ1.2.1 = κ.2.1 ∧ κ1.2.2.2.2.2.2 = κ.2.2.2.2.2.2) (c2 : κ2.1 = κ.1 ∧ κ2.2.1 = κ.2.1 ∧ κ2.2.2.2.2.2.2 = κ.2.2.2.2.2.2) (T1 : TI κ1 σ1 H) (T2 : TI κ2 σ2 H) (C1 : CAP κ1 σ1 H1) (d : ∀ a, zT σ1 a = 0 ∨ zT σ2 a = 0) (h1 : zT σ1 out = 0) (h2 : zT σ2 out = 0) (fo : va_at κ.1 vwCl (out, .inl (kA κ 1, 1, .inr (.inl (fun _ => 0)))) H) (kx : zT σ1 x = 7) (km : zT σ2 mm = 20) (R2 : RI κ2 σ2 mm) (hno : ∀ a, zT σ2 a ≠ 1) (l1 : zI σ1 (kR κ1 x 0) 1 = 0) (l2 : zI σ2 mm 13 = 0) (l1b : zI σ1 (kR κ1 x 0) 2 = 0) (l1c : zI σ1 (kR κ1 x 0) 3 = -1) (k1a : zI σ1 (kR κ1 x 6) 0 = 0) (k1b : zI σ1 (kR κ1 x 6) 1 = 0) (l2b : zI σ2 mm 15 = 0) (l2c : zI σ2 mm 16 = -1) (k2a : zI σ2 (kR κ2 mm 4) 0 = 0) (k2b : zI σ2 (kR κ2 mm 4) 1 = 0) (D1 : DIS κ1 x) (n7 : zI σ1 (kR κ1 x 3) 7 = 0) (n8 : zI σ1 (kR κ1 x 3) 8 = 2) (n9 : zI σ1 (kR κ1 x 3) 9 = 1) (w0 : (zJ σ2 (kR κ2 mm 1) 0).toInt = 0) (w1 : (zJ σ2 (kR κ2 mm 1) 1).toInt = 2) (w2 : (zJ σ2 (kR κ2 mm 1) 2).toInt = 1) (S1 : S9 κ1 σ1 x) (M1 : M9 κ2 σ2 mm) (hz : H.size + kC κ1 ≤ C + H1.size) (hs : hsl H + kS κ1 ≤ S + hsl H1) : ∃ κ' σ', κ'.1 = κ.1 ∧ κ'.2.1 = κ.2.1 ∧ κ'.2.2.2.2.2.2 = κ.2.2.2.2.2.2 ∧ kC κ' = C ∧ kS κ' = S ∧ TI κ' σ' H ∧ CAP κ' σ' H ∧ RI κ' σ' mm ∧ zk σ' x 7 ∧ zk σ' mm 20 ∧ zk σ' out 24 ∧ zk σ' (kR κ' x 0) 6 ∧ LREL κ' σ' x mm ∧ DIS κ' x ∧ SREL κ' σ' x mm ∧ SMP κ' σ' x mm ∧ ∀ a, zT σ' a ≠ 0 → zT σ1 a ≠ 0 ∨ zT σ2 a ≠ 0 ∨ a = out := by
  have T3 := T1.mer T2 ⟨c2.1.trans c1.1.symm, c2.2.1.trans c1.2.1.symm⟩ d
  have o3 : zT (zmer σ1 σ2) out = 0 := by rw [zmer_T, if_pos h2]; exact h1
  have fo3 : va_at (kmer κ1 κ2 σ2).1 vwCl (out, zS (kmer κ1 κ2 σ2) out 24 0 (fun _ => 0) (fun _ => 0)) H := by
    show va_at κ1.1 vwCl (out, .inl (kA κ1 1, 1, .inr (.inl (fun _ => 0)))) H
    rw [c1.1, kA_eq (κ := κ) c1.2.1]; exact fo
  have T4 := T3.addP o3 fo3 trivial rfl (by decide)
  have u1 : ∀ a, zT σ1 a ≠ 0 → zT σ2 a = 0 ∧ a ≠ out := fun a ha => ⟨(d a).resolve_left ha, fun e => ha (by rw [e]; exact h1)⟩
  have u2 : ∀ a, zT σ2 a ≠ 0 → a ≠ out := fun a ha e => ha (by rw [e]; exact h2)
  have v1 : ∀ a, zT σ1 a ≠ 0 → zT (zadd (zmer σ1 σ2) out 24 0 (fun _ => 0) (fun _ => 0)) a = zT σ1 a ∧ zI (zadd (zmer σ1 σ2) out 24 0 (fun _ => 0) (fun _ => 0)) a = zI σ1 a ∧ zN (zadd (zmer σ1 σ2) out 24 0 (fun _ => 0) (fun _ => 0)) a = zN σ1 a := fun a ha => by
    obtain ⟨e1, e2⟩ := u1 a ha
    rw [zadd_To e2, zadd_Io e2, zadd_No e2]
    refine ⟨by rw [zmer_T, if_pos e1], by simp [zmer, zI, e1], by simp [zmer, zN, zM, e1]⟩
  have v2 : ∀ a, zT σ2 a ≠ 0 → zT (zadd (zmer σ1 σ2) out 24 0 (fun _ => 0) (fun _ => 0)) a = zT σ2 a ∧ zI (zadd (zmer σ1 σ2) out 24 0 (fun _ => 0) (fun _ => 0)) a = zI σ2 a ∧ zJ (zadd (zmer σ1 σ2) out 24 0 (fun _ => 0) (fun _ => 0)) a = zJ σ2 a := fun a ha => by
    have e2 := u2 a ha
    rw [zadd_To e2, zadd_Io e2, zadd_Jo e2]
    refine ⟨by rw [zmer_T, if_neg ha], by simp [zmer, zI, ha], by simp [zmer, zJ, ha]⟩
  obtain ⟨k5, hk5⟩ : ∃ z, z = kcap (kmer κ1 κ2 σ2) ((kW κ1).filter (fun a => zT σ1 a == 1)) C S := ⟨_, rfl⟩
  obtain ⟨s5, hs5⟩ : ∃ z, z = zadd (zmer σ1 σ2) out 24 0 (fun _ => 0) (fun _ => 0) := ⟨_, rfl⟩
  rw [← hs5] at T4 v1 v2
  have rx : kR k5 x = kR κ1 x := by
    have e1 := (u1 x (by rw [kx]; decide)).1
    rw [hk5]; show (if zT σ2 x = 0 then κ1.2.2.1 x else _) = _
    rw [if_pos e1]; rfl
  have rm : kR k5 mm = kR κ2 mm := by
    rw [hk5]; show (if zT σ2 mm = 0 then _ else κ2.2.2.1 mm) = _
    rw [if_neg (by rw [km]; decide)]; rfl
  have kt : zT σ1 (kR κ1 x 0) = 6 := by
    obtain ⟨h, -, -, q, -⟩ := T1.at kx (by decide)
    exact (q (0, 6) (by decide)).resolve_left (by decide)
  refine ⟨k5, s5, by rw [hk5]; exact c1.1, by rw [hk5]; exact c1.2.1, by rw [hk5]; exact c1.2.2, by rw [hk5]; rfl, by rw [hk5]; rfl, by rw [hk5]; exact T4.kcap, ?_, R2.tr rm v2, ?_, ?_, ?_, ?_, ?_, ?_, ?_, ?_, fun a ha => ?_⟩
  · refine ⟨fun a ha => ?_, ?_, ?_⟩
    · rw [hk5]
      show a ∈ (kW κ1).filter (fun a => zT σ1 a == 1)
      by_cases z1 : zT σ1 a = 0
      · by_cases z2 : zT σ2 a = 0
        · exfalso
          rw [hs5] at ha
          by_cases e : a = out
          · rw [e, zadd_Ta] at ha; exact absurd ha (by decide)
          · rw [zadd_To e, zmer_T, if_pos z2, z1] at ha; exact absurd ha (by decide)
        · rw [(v2 a z2).1] at ha; exact absurd ha (hno a)
      · rw [(v1 a z1).1] at ha
        exact List.mem_filter.mpr ⟨C1.1 a ha, by rw [ha]; decide⟩
    · have q := sum_filter_le (f := fun a => pcl (zN s5 a)) (g := fun a => pcl (zN σ1 a)) (p := fun a => zT σ1 a == 1) (fun a ha => by
        have e : zT σ1 a = 1 := by simpa using ha
        show pcl (zN s5 a) ≤ pcl (zN σ1 a)
        rw [(v1 a (by rw [e]; decide)).2.2]; exact Nat.le_refl _) (kW κ1)
      have q2 : H1.size + ((kW κ1).map fun a => pcl (zN σ1 a)).sum ≤ kC κ1 := C1.2.1
      have q3 : kC k5 = C := by rw [hk5]; rfl
      have q4 : zpc k5 s5 = (((kW κ1).filter (fun a => zT σ1 a == 1)).map fun a => pcl (zN s5 a)).sum := by rw [hk5]; rfl
      rw [q3, q4]
      omega
    · have q := sum_filter_le (f := fun a => psl (zN s5 a)) (g := fun a => psl (zN σ1 a)) (p := fun a => zT σ1 a == 1) (fun a ha => by
        have e : zT σ1 a = 1 := by simpa using ha
        show psl (zN s5 a) ≤ psl (zN σ1 a)
        rw [(v1 a (by rw [e]; decide)).2.2]; exact Nat.le_refl _) (kW κ1)
      have q2 : hsl H1 + ((kW κ1).map fun a => psl (zN σ1 a)).sum ≤ kS κ1 := C1.2.2
      have q3 : kS k5 = S := by rw [hk5]; rfl
      have q4 : zps k5 s5 = (((kW κ1).filter (fun a => zT σ1 a == 1)).map fun a => psl (zN s5 a)).sum := by rw [hk5]; rfl
      rw [q3, q4]
      omega
  · exact (v1 x (by rw [kx]; decide)).1.trans kx
  · exact (v2 mm (by rw [km]; decide)).1.trans km
  · show zT s5 out = 24
    rw [hs5]; exact zadd_Ta
  · rw [rx]; exact (v1 _ (by rw [kt]; decide)).1.trans kt
  · have kI : zT σ1 (kR κ1 x 6) = 13 := by
      obtain ⟨h, -, -, q, -⟩ := T1.at kx (by decide)
      exact (q (6, 13) (by decide)).resolve_left (by decide)
    have kM : zT σ2 (kR κ2 mm 4) = 29 := by
      obtain ⟨h, -, -, q, -⟩ := T2.at km (by decide)
      exact (q (4, 29) (by decide)).resolve_left (by decide)
    have ex := (v1 _ (by rw [kt]; decide : zT σ1 (kR κ1 x 0) ≠ 0)).2.1
    have em := (v2 mm (by rw [km]; decide)).2.1
    have eI := (v1 _ (by rw [kI]; decide : zT σ1 (kR κ1 x 6) ≠ 0)).2.1
    have eM := (v2 _ (by rw [kM]; decide : zT σ2 (kR κ2 mm 4) ≠ 0)).2.1
    have L0 : (zI s5 mm 13).toInt.toNat = 0 := by rw [em, l2]; decide
    refine ⟨by rw [rx, ex, l1, em, l2], ⟨by rw [L0]; exact fun j hj => absurd hj (Nat.not_lt_zero j), by rw [L0]; exact fun j hj => absurd hj (Nat.not_lt_zero j)⟩, ⟨by rw [rx, ex, l1b, em, l2b], by rw [rx, ex, l1c, em, l2c]⟩, fun i hi => ?_⟩
    rw [rx, rm, eI, eM]
    rcases (show i = 0 ∨ i = 1 by omega) with rfl | rfl
    · rw [k1a, k2a]
    · rw [k1b, k2b]
  · have kN : zT σ1 (kR κ1 x 3) = 3 := by
      obtain ⟨h, -, -, q, -⟩ := T1.at kx (by decide)
      exact (q (3, 3) (by decide)).resolve_left (by decide)
    have k5_ : zT σ1 (kR κ1 x 5) = 12 := by
      obtain ⟨h, -, -, q, -⟩ := T1.at kx (by decide)
      exact (q (5, 12) (by decide)).resolve_left (by decide)
    have rr : ∀ a, zT σ1 a ≠ 0 → kR k5 a = kR κ1 a := fun a ha => by
      rw [hk5]; show (if zT σ2 a = 0 then κ1.2.2.1 a else _) = _
      rw [if_pos (u1 a ha).1]; rfl
    have k4_ : zT σ1 (kR κ1 x 4) = 3 := by
      obtain ⟨h, -, -, q, -⟩ := T1.at kx (by decide)
      exact (q (4, 3) (by decide)).resolve_left (by decide)
    have ka_ : zT σ1 (kR κ1 (kR κ1 x 4) 1) = 10 := by
      obtain ⟨h, -, -, q, -⟩ := T1.at k4_ (by decide)
      exact (q (1, 10) (by decide)).resolve_left (by decide)
    have kb_ : zT σ1 (kR κ1 (kR κ1 x 4) 4) = 11 := by
      obtain ⟨h, -, -, q, -⟩ := T1.at k4_ (by decide)
      exact (q (4, 11) (by decide)).resolve_left (by decide)
    have kc_ : ∀ j, j < 46 → zT σ1 (kR κ1 (kR κ1 (kR κ1 x 4) 4) j) = 2 := fun j hj => by
      obtain ⟨h, -, -, q, -⟩ := T1.at kb_ (by decide)
      exact (q (j, 2) (zR11 hj)).resolve_left (by decide)
    obtain ⟨d1, ⟨d2, d3⟩, d4, d5, d6, d7⟩ := D1
    unfold DIS
    rw [rx, rr _ (by rw [kN]; decide), rr _ (by rw [k5_]; decide), rr _ (by rw [k4_]; decide)]
    exact ⟨d1, ⟨d2, d3⟩, d4, d5, d6, d7.tr (rr _ (by rw [k4_]; decide)) (rr _ (by rw [ka_]; decide)) (rr _ (by rw [kb_]; decide)) (fun j hj => rr _ (by rw [kc_ j hj]; decide))⟩
  · have kN : zT σ1 (kR κ1 x 3) = 3 := by
      obtain ⟨h, -, -, q, -⟩ := T1.at kx (by decide)
      exact (q (3, 3) (by decide)).resolve_left (by decide)
    have kI : zT σ1 (kR κ1 x 6) = 13 := by
      obtain ⟨h, -, -, q, -⟩ := T1.at kx (by decide)
      exact (q (6, 13) (by decide)).resolve_left (by decide)
    have kM : zT σ2 (kR κ2 mm 1) = 21 := by
      obtain ⟨h, -, -, q, -⟩ := T2.at km (by decide)
      exact (q (1, 21) (by decide)).resolve_left (by decide)
    have eN := (v1 _ (by rw [kN]; decide : zT σ1 (kR κ1 x 3) ≠ 0)).2.1
    have eI := (v1 _ (by rw [kI]; decide : zT σ1 (kR κ1 x 6) ≠ 0)).2.1
    have eM := (v2 _ (by rw [kM]; decide : zT σ2 (kR κ2 mm 1) ≠ 0)).2.2
    refine ⟨⟨by rw [rx, rm, eN, eM, n7, w0]; decide, by rw [rx, rm, eN, eM, n8, w1]; decide, by rw [rx, rm, eN, eM, n9, w2]; decide⟩, fun i hi hq => absurd ?_ hq⟩
    rw [rx, eI]
    rcases (show i = 0 ∨ i = 1 by omega) with rfl | rfl
    · exact k1a
    · exact k1b
  · have rr : ∀ a, zT σ1 a ≠ 0 → kR k5 a = kR κ1 a := fun a ha => by
      rw [hk5]; show (if zT σ2 a = 0 then κ1.2.2.1 a else _) = _
      rw [if_pos (u1 a ha).1]; rfl
    have z0 : zT σ1 (kR κ1 x 1) = 4 := by
      obtain ⟨h, -, -, q, -⟩ := T1.at kx (by decide)
      exact (q (1, 4) (by decide)).resolve_left (by decide)
    have z1 : zT σ1 (kR κ1 (kR κ1 x 1) 0) = 8 := by
      obtain ⟨h, -, -, q, -⟩ := T1.at z0 (by decide)
      exact (q (0, 8) (by decide)).resolve_left (by decide)
    have z2 : zT σ1 (kR κ1 (kR κ1 x 1) 1) = 16 := by
      obtain ⟨h, -, -, q, -⟩ := T1.at z0 (by decide)
      exact (q (1, 16) (by decide)).resolve_left (by decide)
    have z5 : zT σ2 (kR κ2 mm 5) = 25 := by
      obtain ⟨h, -, -, q, -⟩ := T2.at km (by decide)
      exact (q (5, 25) (by decide)).resolve_left (by decide)
    have z6 : zT σ2 (kR κ2 mm 6) = 26 := by
      obtain ⟨h, -, -, q, -⟩ := T2.at km (by decide)
      exact (q (6, 26) (by decide)).resolve_left (by decide)
    refine SMP.ini ?_ ?_
    · unfold S9
      rw [rx, rr _ (by rw [z0]; decide), (v1 _ (by rw [z0]; decide : zT σ1 (kR κ1 x 1) ≠ 0)).2.1, (v1 _ (by rw [z1]; decide : zT σ1 (kR κ1 (kR κ1 x 1) 0) ≠ 0)).2.1, (v1 _ (by rw [z2]; decide : zT σ1 (kR κ1 (kR κ1 x 1) 1) ≠ 0)).2.1]
      exact S1
    · unfold M9
      rw [rm, (v2 mm (by rw [km]; decide)).2.1, (v2 _ (by rw [z5]; decide : zT σ2 (kR κ2 mm 5) ≠ 0)).2.1, (v2 _ (by rw [z6]; decide : zT σ2 (kR κ2 mm 6) ≠ 0)).2.1]
      exact M1
  · by_cases z1 : zT σ1 a = 0
    · by_cases z2 : zT σ2 a = 0
      · refine Or.inr (Or.inr ?_)
        by_cases e : a = out
        · exact e
        · rw [hs5, zadd_To e, zmer_T, if_pos z2] at ha
          exact absurd z1 ha
      · exact Or.inr (Or.inl z2)
    · exact Or.inl z1

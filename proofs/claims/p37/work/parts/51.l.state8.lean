/-! LiftingSignal: the bits of a scheme -/
theorem sub_fBv_fCv : ∀ t k, fCv t k = false → fBv t k = false := by
  intro t k h
  simp [fBv, fCv] at h ⊢ <;> omega
theorem sub_fE_fCv : ∀ t k, fCv t k = false → fE t k = false := by
  intro t k h
  simp [fE, fCv] at h ⊢ <;> omega
theorem sub_fLv_fCv : ∀ t k, fCv t k = false → fLv t k = false := by
  intro t k h
  simp [fLv, fCv] at h ⊢ <;> omega
set_option maxHeartbeats 4000000 in
set_option maxRecDepth 100000 in
theorem X5v_beginTrial (l : Launch) (κ : Kt) (σ0 : Gh) (this : Nat) (x : Int32) (z : Int32) {N : Nat} {P V : Nat → Int} (t_this : zk σ0 this 7) (h0 : SRC κ σ0 (kR κ this 4) N P) (h1 : PLI N P) (h2 : ∀ k, k < N → (zI σ0 (kR κ (kR κ (kR κ this 4) 0) 1) k).toInt = V k) (h3 : ∀ k, k < N → -9999 ≤ V k ∧ V k ≤ 9999) (h4 : DW κ (kR κ this 4)) : TC l yX5_beginTrial cX5_beginTrial 3 none 3 71 [.ref this, .int x, .int z] κ σ0 (tqv κ fCv σ0 (fun (τ : Gh) => (SST κ τ (kR κ this 4) N P (ini N P V)) ∧ (zI τ (kR κ this 4) 7 = x) ∧ (zI τ (kR κ this 4) 8 = z) ∧ (zI τ (kR κ this 4) 9 = zI σ0 (kR κ this 3) 9) ∧ (∀ a : Nat, a ≠ (kR κ this 4) → zk σ0 a 3 → zI τ a 7 = zI σ0 a 7 ∧ zI τ a 8 = zI σ0 a 8 ∧ zI τ a 9 = zI σ0 a 9))) := by
  refine TC.of fCv (by decide +kernel) (Nat.le_of_ble_eq_true rfl) ?_
  intro p e s m below meth c ls hcs hK hX hT hl
  obtain ⟨hx, hb, hr, hml, hown, hg, hlocks, hin⟩ := hcs
  have hown : s.vm.findClass RX5 = some m.cls := hown
  have hl : lv_has ls 3 [(0, .ref this), (1, .int x), (2, .int z)] := hl
  have hT0 := hT
  have x_lo := Int32.le_toInt x
  have x_hi := Int32.toInt_lt x
  have z_lo := Int32.le_toInt z
  have z_hi := Int32.toInt_lt z
  generalize hQ9 : tQ _ _ _ _ _ _ = Q9
  obtain ⟨nw, enw⟩ : ∃ z, kR κ this 3 = z := ⟨_, rfl⟩
  have tnw : zk σ0 nw 3 := by rw [← enw]; exact hT0.ref t_this (by decide) (by decide) (by decide)
  obtain ⟨tr, etr⟩ : ∃ z, kR κ this 4 = z := ⟨_, rfl⟩
  have ttr : zk σ0 tr 3 := by rw [← etr]; exact hT0.ref t_this (by decide) (by decide) (by decide)
  obtain ⟨v201, ev201⟩ : ∃ zz9 : Int32, zI σ0 nw 9 = zz9 := ⟨_, rfl⟩
  have qv201 : v201.toInt = (zI σ0 nw 9).toInt := by rw [ev201]
  have b202 : isB v201 := by have q9 := (hT.P (hT.k tnw (by decide)) (by decide)).2; rw [ev201] at q9; exact q9
  have ev9x : zI σ0 nw 9 = v201 := ev201
  have hP48 : N ≤ 48 := by have z9 := h0.1; have z8 := (hT0.P (show zk σ0 (kR κ (kR κ this 4) 0) 4 by rw [etr]; exact hT0.ref ttr (by decide) (by decide) (by decide)) (by decide)).1.2; omega
  refine lv_aload_n hx hb dX5_beginTrial_0 rfl (lv_at hl 0 rfl) ?_
  refine va_get (D := κ.1) (ci := 5) (v := .ref (kR κ this 4)) (C := RX5) (T := TX5) (N := 10) hx hb hg inX5 hown hK (hT.o7 (hT.k t_this (by decide))).one 0 rfl rfl 4 (by decide) (hg _ k383) (fun _ h9 => h9) rfl dX5_beginTrial_1 ?_
  rw [etr]
  have hTo := hT
  refine tVv (n := 0) (As := []) (rest := []) hx hb hml hown hg hT hK hX (X1v_begin l κ σ0 tr  (hT.k ttr (by decide)) (by rw [← etr]; exact h0) h1 (by rw [← etr]; exact h2) h3 (by rw [← etr]; exact h4)) sub_fBv_fCv (mwV k332 k333 k334 k87 k335) ⟨rfl, by decide, by decide, by decide +kernel⟩ ⟨(Nat.le_of_ble_eq_true rfl), (Nat.le_of_ble_eq_true rfl)⟩ (hT.o3 (hT.k ttr (by decide))) rfl rfl hl.1 rfl (Nat.le_of_ble_eq_true rfl) dX5_beginTrial_4 zroom.rf (fun s204 H locs hφ hEs204 hT => ?_)
  have ev201 : zI s204 nw 9 = v201 := ((hTo.k tnw (by decide)).eI hEs204 (by decide) rfl).trans ev201
  have fr205 : ∀ a : Nat, a ≠ tr → zk σ0 a 3 → zI s204 a 7 = zI σ0 a 7 ∧ zI s204 a 8 = zI σ0 a 8 ∧ zI s204 a 9 = zI σ0 a 9 := fun a ha hk => ⟨((hTo.k hk (by decide)).eI hEs204 (by decide) rfl).trans ((show ∀ a : Nat, a ≠ tr → zk σ0 a 3 → zI σ0 a 7 = zI σ0 a 7 ∧ zI σ0 a 8 = zI σ0 a 8 ∧ zI σ0 a 9 = zI σ0 a 9 from fun _ _ _ => ⟨rfl, rfl, rfl⟩) a ha hk).1, ((hTo.k hk (by decide)).eI hEs204 (by decide) rfl).trans ((show ∀ a : Nat, a ≠ tr → zk σ0 a 3 → zI σ0 a 7 = zI σ0 a 7 ∧ zI σ0 a 8 = zI σ0 a 8 ∧ zI σ0 a 9 = zI σ0 a 9 from fun _ _ _ => ⟨rfl, rfl, rfl⟩) a ha hk).2.1, ((hTo.k hk (by decide)).eI hEs204 (by decide) rfl).trans ((show ∀ a : Nat, a ≠ tr → zk σ0 a 3 → zI σ0 a 7 = zI σ0 a 7 ∧ zI σ0 a 8 = zI σ0 a 8 ∧ zI σ0 a 9 = zI σ0 a 9 from fun _ _ _ => ⟨rfl, rfl, rfl⟩) a ha hk).2.2⟩
  have f206 := hφ
  refine lv_aload_n hx hb dX5_beginTrial_7 rfl (lv_at hl 0 rfl) ?_
  refine va_get (D := κ.1) (ci := 5) (v := .ref (kR κ this 4)) (C := RX5) (T := TX5) (N := 10) hx hb hg inX5 hown hK (hT.o7 (hT.k t_this (by decide))).one 0 rfl rfl 4 (by decide) (hg _ k383) (fun _ h9 => h9) rfl dX5_beginTrial_8 ?_
  rw [etr]
  refine lv_iload_n hx hb dX5_beginTrial_11 rfl (lv_at hl 1 rfl) ?_
  have hTo := hT
  refine pf3_7 hx hb hg hown hK hT (hT.k ttr (by decide)) rfl (hg _ k292) dX5_beginTrial_12 (fun H locs s207 hus207 hT => ?_)
  have ev201 : zI s207 nw 9 = v201 := (zput_o hus207 (Or.inr (by decide))).trans ev201
  have fr208 : ∀ a : Nat, a ≠ tr → zk σ0 a 3 → zI s207 a 7 = zI σ0 a 7 ∧ zI s207 a 8 = zI σ0 a 8 ∧ zI s207 a 9 = zI σ0 a 9 := fun a ha hk => ⟨(zput_o hus207 (Or.inl ha)).trans (fr205 a ha hk).1, (zput_o hus207 (Or.inl ha)).trans (fr205 a ha hk).2.1, (zput_o hus207 (Or.inl ha)).trans (fr205 a ha hk).2.2⟩
  have e209 : zI s207 tr 7 = x := zput_at hus207
  have ss210 : SST κ s207 tr N P (ini N P V) := f206.put hTo (hTo.k ttr (by decide)) hus207 (by decide) hP48 (Nat.zero_le _)
  refine lv_aload_n hx hb dX5_beginTrial_15 rfl (lv_at hl 0 rfl) ?_
  refine va_get (D := κ.1) (ci := 5) (v := .ref (kR κ this 4)) (C := RX5) (T := TX5) (N := 10) hx hb hg inX5 hown hK (hT.o7 (hT.k t_this (by decide))).one 0 rfl rfl 4 (by decide) (hg _ k383) (fun _ h9 => h9) rfl dX5_beginTrial_16 ?_
  rw [etr]
  refine lv_iload_n hx hb dX5_beginTrial_19 rfl (lv_at hl 2 rfl) ?_
  have hTo := hT
  refine pf3_8 hx hb hg hown hK hT (hT.k ttr (by decide)) rfl (hg _ k294) dX5_beginTrial_20 (fun H locs s211 hus211 hT => ?_)
  have ev201 : zI s211 nw 9 = v201 := (zput_o hus211 (Or.inr (by decide))).trans ev201
  have e209 : zI s211 tr 7 = x := (zput_o hus211 (Or.inr (by decide))).trans e209
  have fr212 : ∀ a : Nat, a ≠ tr → zk σ0 a 3 → zI s211 a 7 = zI σ0 a 7 ∧ zI s211 a 8 = zI σ0 a 8 ∧ zI s211 a 9 = zI σ0 a 9 := fun a ha hk => ⟨(zput_o hus211 (Or.inl ha)).trans (fr208 a ha hk).1, (zput_o hus211 (Or.inl ha)).trans (fr208 a ha hk).2.1, (zput_o hus211 (Or.inl ha)).trans (fr208 a ha hk).2.2⟩
  have e213 : zI s211 tr 8 = z := zput_at hus211
  have ss214 : SST κ s211 tr N P (ini N P V) := ss210.put hTo (hTo.k ttr (by decide)) hus211 (by decide) hP48 (Nat.zero_le _)
  refine lv_aload_n hx hb dX5_beginTrial_23 rfl (lv_at hl 0 rfl) ?_
  refine va_get (D := κ.1) (ci := 5) (v := .ref (kR κ this 4)) (C := RX5) (T := TX5) (N := 10) hx hb hg inX5 hown hK (hT.o7 (hT.k t_this (by decide))).one 0 rfl rfl 4 (by decide) (hg _ k383) (fun _ h9 => h9) rfl dX5_beginTrial_24 ?_
  rw [etr]
  refine lv_aload_n hx hb dX5_beginTrial_27 rfl (lv_at hl 0 rfl) ?_
  refine va_get (D := κ.1) (ci := 5) (v := .ref (kR κ this 3)) (C := RX5) (T := TX5) (N := 10) hx hb hg inX5 hown hK (hT.o7 (hT.k t_this (by decide))).one 0 rfl rfl 3 (by decide) (hg _ k382) (fun _ h9 => h9) rfl dX5_beginTrial_28 ?_
  rw [enw]
  refine va_get (D := κ.1) (ci := 1) (v := .int (zI s211 nw 9)) (C := RX1) (T := TX1) (N := 13) hx hb hg inX1 hown hK (hT.o3 (hT.k tnw (by decide))).one 0 rfl rfl 9 (by decide) (hg _ k296) (fun _ h9 => h9) rfl dX5_beginTrial_31 ?_
  rw [ev201]
  have hTo := hT
  refine pf3_9 hx hb hg hown hK hT (hT.k ttr (by decide)) rfl b202 (hg _ k296) dX5_beginTrial_34 (fun H locs s215 hus215 hT => ?_)
  have e209 : zI s215 tr 7 = x := (zput_o hus215 (Or.inr (by decide))).trans e209
  have e213 : zI s215 tr 8 = z := (zput_o hus215 (Or.inr (by decide))).trans e213
  have fr216 : ∀ a : Nat, a ≠ tr → zk σ0 a 3 → zI s215 a 7 = zI σ0 a 7 ∧ zI s215 a 8 = zI σ0 a 8 ∧ zI s215 a 9 = zI σ0 a 9 := fun a ha hk => ⟨(zput_o hus215 (Or.inl ha)).trans (fr212 a ha hk).1, (zput_o hus215 (Or.inl ha)).trans (fr212 a ha hk).2.1, (zput_o hus215 (Or.inl ha)).trans (fr212 a ha hk).2.2⟩
  have e217 : zI s215 tr 9 = v201 := zput_at hus215
  have ss218 : SST κ s215 tr N P (ini N P V) := ss214.put hTo (hTo.k ttr (by decide)) hus215 (by decide) hP48 (Nat.zero_le _)
  subst hQ9
  exact t_v hx hb hr hlocks hT ⟨by rw [etr]; exact ss218, by rw [etr]; exact (show zI s215 tr 7 = x from e209), by rw [etr]; exact (show zI s215 tr 8 = z from e213), by rw [etr, enw]; exact ((show zI s215 tr 9 = v201 from e217)).trans ev9x.symm, by rw [etr]; exact fr216⟩ dX5_beginTrial_37
set_option maxHeartbeats 4000000 in
set_option maxRecDepth 100000 in
theorem X5v_bitsBy (l : Launch) (κ : Kt) (σ0 : Gh) (this : Nat) (x : Int32) (z : Int32) {N : Nat} {P V : Nat → Int} (t_this : zk σ0 this 7) (h0 : SRC κ σ0 (kR κ this 4) N P) (h1 : PLI N P) (h2 : ∀ k, k < N → (zI σ0 (kR κ (kR κ (kR κ this 4) 0) 1) k).toInt = V k) (h3 : ∀ k, k < N → -9999 ≤ V k ∧ V k ≤ 9999) (h4 : DW κ (kR κ this 4)) (hlt : l.stackTraces = false) : TX l yX5_bitsBy cX5_bitsBy 3 (some .int) 7 148 [.ref this, .int x, .int z] κ σ0 (tqi κ fCv σ0 (fun (r : Int32) (τ : Gh) => (0 ≤ x.toInt ∧ x.toInt ≤ 2 ∧ 0 ≤ z.toInt ∧ z.toInt ≤ 2) ∧ (∃ Y, Run N P (zI σ0 (kR κ (kR κ this 4) 0) 6).toInt x.toInt z.toInt (zI σ0 (kR κ this 3) 9).toInt (ini N P V) Y ∧ r.toInt = bsum Y) ∧ (∀ a : Nat, a ≠ (kR κ this 4) → zk σ0 a 3 → zI τ a 7 = zI σ0 a 7 ∧ zI τ a 8 = zI σ0 a 8 ∧ zI τ a 9 = zI σ0 a 9))) (txq κ fCv σ0 (fun (E : String) (τ : Gh) => E = "java/lang/IllegalArgumentException" ∧ (x.toInt < 0 ∨ 2 < x.toInt ∨ z.toInt < 0 ∨ 2 < z.toInt) ∧ ∀ a : Nat, zk σ0 a 3 → zI τ a 7 = zI σ0 a 7 ∧ zI τ a 8 = zI σ0 a 8 ∧ zI τ a 9 = zI σ0 a 9)) := by
  refine TX.of fCv (by decide +kernel) (Nat.le_of_ble_eq_true rfl) ?_
  intro p e s m below meth c ls hcs hout hK hX hT hl
  obtain ⟨hx, hb, hr, hml, hown, hg, hlocks, hin⟩ := hcs
  have hown : s.vm.findClass RX5 = some m.cls := hown
  have hl : lv_has ls 3 [(0, .ref this), (1, .int x), (2, .int z)] := hl
  have hT0 := hT
  have n0 : (0 : Int32).toInt = 0 := by decide
  have n2 : (2 : Int32).toInt = 2 := by decide
  have n46 : (46 : Int32).toInt = 46 := by decide
  have x_lo := Int32.le_toInt x
  have x_hi := Int32.toInt_lt x
  have z_lo := Int32.le_toInt z
  have z_hi := Int32.toInt_lt z
  generalize hQ9 : tQX _ _ _ _ _ _ _ = Q9
  obtain ⟨nw, enw⟩ : ∃ z, kR κ this 3 = z := ⟨_, rfl⟩
  have tnw : zk σ0 nw 3 := by rw [← enw]; exact hT0.ref t_this (by decide) (by decide) (by decide)
  obtain ⟨tr, etr⟩ : ∃ z, kR κ this 4 = z := ⟨_, rfl⟩
  have ttr : zk σ0 tr 3 := by rw [← etr]; exact hT0.ref t_this (by decide) (by decide) (by decide)
  obtain ⟨v201, ev201⟩ : ∃ zz9 : Int32, zI σ0 nw 9 = zz9 := ⟨_, rfl⟩
  have qv201 : v201.toInt = (zI σ0 nw 9).toInt := by rw [ev201]
  have b202 : isB v201 := by have q9 := (hT.P (hT.k tnw (by decide)) (by decide)).2; rw [ev201] at q9; exact q9
  have ev9x : zI σ0 nw 9 = v201 := ev201
  refine lv_iload_n hx hb dX5_bitsBy_0 rfl (lv_at hl 1 rfl) ?_
  refine lv_iconst (v := 0) hx hb dX5_bitsBy_1 (by decide) ?_
  refine lv_iconst (v := 2) hx hb dX5_bitsBy_2 (by decide) ?_
  have hTo := hT
  refine xtSv (n := 3) (As := [.int x, .int 0, .int 2]) (rest := []) hx hb hml hown hg hT hK hX (X5_needRange l κ σ0 x 0 2    hlt) sub_fE_fCv (mwS k909 k910 k84 k911) ⟨rfl, by decide, by decide, by decide +kernel⟩ ⟨(Nat.le_of_ble_eq_true rfl), (Nat.le_of_ble_eq_true rfl)⟩ rfl hl.1 rfl (Nat.le_of_ble_eq_true rfl) dX5_bitsBy_3 zroomX.rf (fun E9 ce9 q9 τ9 H9 locs9 hp9 hE9 hT9 hce9 hcv9 hcl9 => by subst hQ9; exact tx_out hT9 ⟨hp9.1, by omega, fun a hk => ⟨hk.eI hE9 (by decide) rfl, hk.eI hE9 (by decide) rfl, hk.eI hE9 (by decide) rfl⟩⟩ hout hlocks hce9 hcv9 hcl9) (fun s204 H locs hφ hEs204 hT => ?_)
  have ev201 : zI s204 nw 9 = v201 := ((hTo.k tnw (by decide)).eI hEs204 (by decide) rfl).trans ev201
  have fr205 : ∀ a : Nat, a ≠ tr → zk σ0 a 3 → zI s204 a 7 = zI σ0 a 7 ∧ zI s204 a 8 = zI σ0 a 8 ∧ zI s204 a 9 = zI σ0 a 9 := fun a ha hk => ⟨((hTo.k hk (by decide)).eI hEs204 (by decide) rfl).trans ((show ∀ a : Nat, a ≠ tr → zk σ0 a 3 → zI σ0 a 7 = zI σ0 a 7 ∧ zI σ0 a 8 = zI σ0 a 8 ∧ zI σ0 a 9 = zI σ0 a 9 from fun _ _ _ => ⟨rfl, rfl, rfl⟩) a ha hk).1, ((hTo.k hk (by decide)).eI hEs204 (by decide) rfl).trans ((show ∀ a : Nat, a ≠ tr → zk σ0 a 3 → zI σ0 a 7 = zI σ0 a 7 ∧ zI σ0 a 8 = zI σ0 a 8 ∧ zI σ0 a 9 = zI σ0 a 9 from fun _ _ _ => ⟨rfl, rfl, rfl⟩) a ha hk).2.1, ((hTo.k hk (by decide)).eI hEs204 (by decide) rfl).trans ((show ∀ a : Nat, a ≠ tr → zk σ0 a 3 → zI σ0 a 7 = zI σ0 a 7 ∧ zI σ0 a 8 = zI σ0 a 8 ∧ zI σ0 a 9 = zI σ0 a 9 from fun _ _ _ => ⟨rfl, rfl, rfl⟩) a ha hk).2.2⟩
  obtain ⟨f206, f207⟩ := hφ
  refine lv_iload_n hx hb dX5_bitsBy_6 rfl (lv_at hl 2 rfl) ?_
  refine lv_iconst (v := 0) hx hb dX5_bitsBy_7 (by decide) ?_
  refine lv_iconst (v := 2) hx hb dX5_bitsBy_8 (by decide) ?_
  have hTo := hT
  refine xtSv (n := 3) (As := [.int z, .int 0, .int 2]) (rest := []) hx hb hml hown hg hT hK hX (X5_needRange l κ s204 z 0 2    hlt) sub_fE_fCv (mwS k909 k910 k84 k911) ⟨rfl, by decide, by decide, by decide +kernel⟩ ⟨(Nat.le_of_ble_eq_true rfl), (Nat.le_of_ble_eq_true rfl)⟩ rfl hl.1 rfl (Nat.le_of_ble_eq_true rfl) dX5_bitsBy_9 zroomX.rf (fun E9 ce9 q9 τ9 H9 locs9 hp9 hE9 hT9 hce9 hcv9 hcl9 => by subst hQ9; exact tx_out hT9 ⟨hp9.1, by omega, fun a hk => ⟨((hTo.k hk (by decide)).eI hE9 (by decide) rfl).trans (hk.eI hEs204 (by decide) rfl), ((hTo.k hk (by decide)).eI hE9 (by decide) rfl).trans (hk.eI hEs204 (by decide) rfl), ((hTo.k hk (by decide)).eI hE9 (by decide) rfl).trans (hk.eI hEs204 (by decide) rfl)⟩⟩ hout hlocks hce9 hcv9 hcl9) (fun s209 H locs hφ hEs209 hT => ?_)
  have ev201 : zI s209 nw 9 = v201 := ((hTo.k tnw (by decide)).eI hEs209 (by decide) rfl).trans ev201
  have fr210 : ∀ a : Nat, a ≠ tr → zk σ0 a 3 → zI s209 a 7 = zI σ0 a 7 ∧ zI s209 a 8 = zI σ0 a 8 ∧ zI s209 a 9 = zI σ0 a 9 := fun a ha hk => ⟨((hTo.k hk (by decide)).eI hEs209 (by decide) rfl).trans (fr205 a ha hk).1, ((hTo.k hk (by decide)).eI hEs209 (by decide) rfl).trans (fr205 a ha hk).2.1, ((hTo.k hk (by decide)).eI hEs209 (by decide) rfl).trans (fr205 a ha hk).2.2⟩
  obtain ⟨f211, f212⟩ := hφ
  refine lv_aload_n hx hb dX5_bitsBy_12 rfl (lv_at hl 0 rfl) ?_
  refine lv_iload_n hx hb dX5_bitsBy_13 rfl (lv_at hl 1 rfl) ?_
  refine lv_iload_n hx hb dX5_bitsBy_14 rfl (lv_at hl 2 rfl) ?_
  have hTo := hT
  refine tVv (n := 2) (As := [.int x, .int z]) (rest := []) hx hb hml hown hg hT hK hX (X5v_beginTrial (N := N) (P := P) (V := V) l κ s209 this x z  (hT.k t_this (by decide)) (h0.ext (by rw [etr]; exact hT0.ref ttr (by decide) (by decide) (by decide)) (hT0.ref (show zk σ0 (kR κ (kR κ this 4) 0) 4 by rw [etr]; exact hT0.ref ttr (by decide) (by decide) (by decide)) (by decide) (show (0, 8) ∈ zR 4 by decide) (by decide)) hT.2.2.1 rfl (fun _ => rfl)) h1 (fun k hk => by rw [(hT0.ref (show zk σ0 (kR κ (kR κ this 4) 0) 4 by rw [etr]; exact hT0.ref ttr (by decide) (by decide) (by decide)) (by decide) (show (1, 16) ∈ zR 4 by decide) (by decide) : zk σ0 (kR κ (kR κ (kR κ this 4) 0) 1) 16).eI hT.2.2.1 (by decide) rfl]; exact h2 k hk) h3 h4) (fun _ _ h => h) (mwV k522 k524 k8 k84 k525) ⟨rfl, by decide, by decide, by decide +kernel⟩ ⟨(Nat.le_of_ble_eq_true rfl), (Nat.le_of_ble_eq_true rfl)⟩ (hT.o7 (hT.k t_this (by decide))) rfl rfl hl.1 rfl (Nat.le_of_ble_eq_true rfl) dX5_bitsBy_15 zroom.up (fun s214 H locs hφ hEs214 hT => ?_)
  obtain ⟨f215, f216, f217, f218, f219⟩ := hφ
  try rw [etr] at f219
  try rw [enw] at f219
  have fr220 : ∀ a : Nat, a ≠ tr → zk σ0 a 3 → zI s214 a 7 = zI σ0 a 7 ∧ zI s214 a 8 = zI σ0 a 8 ∧ zI s214 a 9 = zI σ0 a 9 := fun a ha hk => ⟨(f219 a ha (hTo.k hk (by decide))).1.trans (fr210 a ha hk).1, (f219 a ha (hTo.k hk (by decide))).2.1.trans (fr210 a ha hk).2.1, (f219 a ha (hTo.k hk (by decide))).2.2.trans (fr210 a ha hk).2.2⟩
  refine lv_aload_n hx hb dX5_bitsBy_18 rfl (lv_at hl 0 rfl) ?_
  refine va_get (D := κ.1) (ci := 5) (v := .ref (kR κ this 4)) (C := RX5) (T := TX5) (N := 10) hx hb hg inX5 hown hK (hT.o7 (hT.k t_this (by decide))).one 0 rfl rfl 4 (by decide) (hg _ k383) (fun _ h9 => h9) rfl dX5_bitsBy_19 ?_
  rw [etr]
  refine lv_bipush (v := 46) hx hb dX5_bitsBy_22 (by decide) ?_
  have bt7 : (zI s214 tr 7).toInt = x.toInt := by rw [← etr, f216]
  have bt8 : (zI s214 tr 8).toInt = z.toInt := by rw [← etr, f217]
  have bt9 : zI s214 tr 9 = zI s209 nw 9 := by rw [← etr, f218, enw]
  have bn9 : zI s209 nw 9 = zI σ0 nw 9 := ev201.trans ev9x.symm
  have bl9 : zI s214 (kR κ tr 0) 6 = zI σ0 (kR κ tr 0) 6 := (show zk σ0 (kR κ tr 0) 4 from hT0.ref ttr (by decide) (by decide) (by decide)).eI hT.2.2.1 (by decide) rfl
  have hP48 : N ≤ 48 := by have z9 := h0.1; have z8 := (hT0.P (show zk σ0 (kR κ (kR κ this 4) 0) 4 by rw [etr]; exact hT0.ref ttr (by decide) (by decide) (by decide)) (by decide)).1.2; omega
  have hTo := hT
  refine tVi (n := 1) (As := [.int 46]) (rest := []) hx hb hml hown hg hT hK hX (X1v_liftChosen (N := N) (P := P) (V := V) (rl := z.toInt) l κ s214 tr 46  (hT.k ttr (by decide)) (by rw [← etr]; exact f215) h1 (by rw [← etr]; exact h4) (by have z9 := h0.1; have z8 := (hT0.P (show zk σ0 (kR κ (kR κ this 4) 0) 4 by rw [etr]; exact hT0.ref ttr (by decide) (by decide) (by decide)) (by decide)).1.1; omega) h3 bt8 (by omega) n46) sub_fLv_fCv (mwV k526 k527 k528 k87 k529) ⟨rfl, by decide, by decide, by decide +kernel⟩ ⟨(Nat.le_of_ble_eq_true rfl), (Nat.le_of_ble_eq_true rfl)⟩ (hT.o3 (hT.k ttr (by decide))) rfl rfl hl.1 rfl (Nat.le_of_ble_eq_true rfl) dX5_bitsBy_24 zroom.up (fun x221 s222 H locs hφ hEs222 hT => ?_)
  have fr223 : ∀ a : Nat, a ≠ tr → zk σ0 a 3 → zI s222 a 7 = zI σ0 a 7 ∧ zI s222 a 8 = zI σ0 a 8 ∧ zI s222 a 9 = zI σ0 a 9 := fun a ha hk => ⟨((hTo.k hk (by decide)).eI hEs222 (by decide) rfl).trans (fr220 a ha hk).1, ((hTo.k hk (by decide)).eI hEs222 (by decide) rfl).trans (fr220 a ha hk).2.1, ((hTo.k hk (by decide)).eI hEs222 (by decide) rfl).trans (fr220 a ha hk).2.2⟩
  have f224 := hφ
  obtain ⟨Y9, hS9, hR9, hm9⟩ := f224
  rw [bl9, bt7, bt9, bn9] at hR9
  refine lv_pop hx hb dX5_bitsBy_27 rfl ?_
  refine lv_aload_n hx hb dX5_bitsBy_28 rfl (lv_at hl 0 rfl) ?_
  refine va_get (D := κ.1) (ci := 5) (v := .ref (kR κ this 4)) (C := RX5) (T := TX5) (N := 10) hx hb hg inX5 hown hK (hT.o7 (hT.k t_this (by decide))).one 0 rfl rfl 4 (by decide) (hg _ k383) (fun _ h9 => h9) rfl dX5_bitsBy_29 ?_
  rw [etr]
  have hTo := hT
  refine tVi (n := 0) (As := []) (rest := []) hx hb hml hown hg hT hK hX (X1v_bitsOfDetails (M := Y9.2.2.2.2) (dt := Y9.2.2.2.1) l κ s222 tr  (hT.k ttr (by decide)) hS9.2.2.2.2.1 hS9.2.2.2.2.2 hm9) sub_fE_fCv (mwV k505 k506 k507 k87 k508) ⟨rfl, by decide, by decide, by decide +kernel⟩ ⟨(Nat.le_of_ble_eq_true rfl), (Nat.le_of_ble_eq_true rfl)⟩ (hT.o3 (hT.k ttr (by decide))) rfl rfl hl.1 rfl (Nat.le_of_ble_eq_true rfl) dX5_bitsBy_32 zroom.up (fun x225 s226 H locs hφ hEs226 hT => ?_)
  have fr227 : ∀ a : Nat, a ≠ tr → zk σ0 a 3 → zI s226 a 7 = zI σ0 a 7 ∧ zI s226 a 8 = zI σ0 a 8 ∧ zI s226 a 9 = zI σ0 a 9 := fun a ha hk => ⟨((hTo.k hk (by decide)).eI hEs226 (by decide) rfl).trans (fr223 a ha hk).1, ((hTo.k hk (by decide)).eI hEs226 (by decide) rfl).trans (fr223 a ha hk).2.1, ((hTo.k hk (by decide)).eI hEs226 (by decide) rfl).trans (fr223 a ha hk).2.2⟩
  have f228 := hφ
  subst hQ9
  exact vx_ret (t_i hx hb hr hlocks hT ⟨⟨by omega, by omega, by omega, by omega⟩, by rw [etr, enw]; exact ⟨Y9, hR9, f228⟩, by rw [etr]; exact fr227⟩ dX5_bitsBy_35)

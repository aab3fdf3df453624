/-! LiftingSignal: settings, what-if questions -/
set_option maxHeartbeats 4000000 in
set_option maxRecDepth 100000 in
theorem X5t_error (l : Launch) (κ : Kt) (σ0 : Gh) (this : Nat) (x : Int32) (t_this : zk σ0 this 7) (hlt : l.stackTraces = false) : TX l yX5_error cX5_error 2 (some .long) 7 158 [.ref this, .int x] κ σ0 (tql κ fCp σ0 (fun (r : Int64) (τ : Gh) => (∀ a : Nat, a ≠ (kR κ this 4) → zk σ0 a 3 → zI τ a 7 = zI σ0 a 7 ∧ zI τ a 8 = zI σ0 a 8 ∧ zI τ a 9 = zI σ0 a 9))) (txq κ fCp σ0 (fun (E : String) (τ : Gh) => E = "java/lang/IllegalArgumentException" ∧ ∀ a : Nat, zk σ0 a 3 → zI τ a 7 = zI σ0 a 7 ∧ zI τ a 8 = zI σ0 a 8 ∧ zI τ a 9 = zI σ0 a 9)) := by
  refine TX.of fCp (by decide +kernel) (Nat.le_of_ble_eq_true rfl) ?_
  intro p e s m below meth c ls hcs hout hK hX hT hl
  obtain ⟨hx, hb, hr, hml, hown, hg, hlocks, hin⟩ := hcs
  have hown : s.vm.findClass RX5 = some m.cls := hown
  have hl : lv_has ls 2 [(0, .ref this), (1, .int x)] := hl
  have hT0 := hT
  have n0 : (0 : Int32).toInt = 0 := by decide
  have n1 : (1 : Int32).toInt = 1 := by decide
  have n2 : (2 : Int32).toInt = 2 := by decide
  have n46 : (46 : Int32).toInt = 46 := by decide
  have x_lo := Int32.le_toInt x
  have x_hi := Int32.toInt_lt x
  generalize hQ9 : tQX _ _ _ _ _ _ _ = Q9
  obtain ⟨nw, enw⟩ : ∃ z, kR κ this 3 = z := ⟨_, rfl⟩
  have tnw : zk σ0 nw 3 := by rw [← enw]; exact hT0.ref t_this (by decide) (by decide) (by decide)
  obtain ⟨tr, etr⟩ : ∃ z, kR κ this 4 = z := ⟨_, rfl⟩
  have ttr : zk σ0 tr 3 := by rw [← etr]; exact hT0.ref t_this (by decide) (by decide) (by decide)
  refine lv_iload_n hx hb dX5_error_0 rfl (lv_at hl 1 rfl) ?_
  refine lv_iconst (v := 0) hx hb dX5_error_1 (by decide) ?_
  refine lv_iconst (v := 2) hx hb dX5_error_2 (by decide) ?_
  have hTo := hT
  refine xtSv (n := 3) (As := [.int x, .int 0, .int 2]) (rest := []) hx hb hml hown hg hT hK hX (X5_needRange l κ σ0 x 0 2    hlt) sub_fE_fCp (mwS k909 k910 k84 k911) ⟨rfl, by decide, by decide, by decide +kernel⟩ ⟨(Nat.le_of_ble_eq_true rfl), (Nat.le_of_ble_eq_true rfl)⟩ rfl hl.1 rfl (Nat.le_of_ble_eq_true rfl) dX5_error_3 zroomX.rf (fun E9 ce9 q9 τ9 H9 locs9 hp9 hE9 hT9 hce9 hcv9 hcl9 => by subst hQ9; exact tx_out hT9 ⟨hp9.1, fun a hk => ⟨hk.eI hE9 (by decide) rfl, hk.eI hE9 (by decide) rfl, hk.eI hE9 (by decide) rfl⟩⟩ hout hlocks hce9 hcv9 hcl9) (fun s2 H locs hφ hEs2 hT => ?_)
  have fr3 : ∀ a : Nat, a ≠ tr → zk σ0 a 3 → zI s2 a 7 = zI σ0 a 7 ∧ zI s2 a 8 = zI σ0 a 8 ∧ zI s2 a 9 = zI σ0 a 9 := fun a ha hk => ⟨((hTo.k hk (by decide)).eI hEs2 (by decide) rfl).trans ((show ∀ a : Nat, a ≠ tr → zk σ0 a 3 → zI σ0 a 7 = zI σ0 a 7 ∧ zI σ0 a 8 = zI σ0 a 8 ∧ zI σ0 a 9 = zI σ0 a 9 from fun _ _ _ => ⟨rfl, rfl, rfl⟩) a ha hk).1, ((hTo.k hk (by decide)).eI hEs2 (by decide) rfl).trans ((show ∀ a : Nat, a ≠ tr → zk σ0 a 3 → zI σ0 a 7 = zI σ0 a 7 ∧ zI σ0 a 8 = zI σ0 a 8 ∧ zI σ0 a 9 = zI σ0 a 9 from fun _ _ _ => ⟨rfl, rfl, rfl⟩) a ha hk).2.1, ((hTo.k hk (by decide)).eI hEs2 (by decide) rfl).trans ((show ∀ a : Nat, a ≠ tr → zk σ0 a 3 → zI σ0 a 7 = zI σ0 a 7 ∧ zI σ0 a 8 = zI σ0 a 8 ∧ zI σ0 a 9 = zI σ0 a 9 from fun _ _ _ => ⟨rfl, rfl, rfl⟩) a ha hk).2.2⟩
  obtain ⟨f4, f5⟩ := hφ
  refine lv_aload_n hx hb dX5_error_6 rfl (lv_at hl 0 rfl) ?_
  refine va_get (D := κ.1) (ci := 5) (v := .ref (kR κ this 4)) (C := RX5) (T := TX5) (N := 10) hx hb hg inX5 hown hK (hT.o7 (hT.k t_this (by decide))).one 0 rfl rfl 4 (by decide) (hg _ k383) (fun _ h9 => h9) rfl dX5_error_7 ?_
  rw [etr]
  refine lv_aload_n hx hb dX5_error_10 rfl (lv_at hl 0 rfl) ?_
  refine va_get (D := κ.1) (ci := 5) (v := .ref (kR κ this 3)) (C := RX5) (T := TX5) (N := 10) hx hb hg inX5 hown hK (hT.o7 (hT.k t_this (by decide))).one 0 rfl rfl 3 (by decide) (hg _ k382) (fun _ h9 => h9) rfl dX5_error_11 ?_
  rw [enw]
  have hTo := hT
  refine tVv (n := 1) (As := [.ref nw]) (rest := []) hx hb hml hown hg hT hK hX (X1t_copyFrom l κ s2 tr nw  (hT.k ttr (by decide)) (hT.k tnw (by decide)) ) (fun _ _ h => h) (mwV k1123 k1124 k1125 k87 k1126) ⟨rfl, by decide, by decide, by decide +kernel⟩ ⟨(Nat.le_of_ble_eq_true rfl), (Nat.le_of_ble_eq_true rfl)⟩ (hT.o3 (hT.k ttr (by decide))) rfl rfl hl.1 rfl (Nat.le_of_ble_eq_true rfl) dX5_error_14 zroom.up (fun s7 H locs hφ hEs7 hT => ?_)
  obtain ⟨f8, f9, f10, f11⟩ := hφ
  try rw [etr] at f11
  try rw [enw] at f11
  have fr12 : ∀ a : Nat, a ≠ tr → zk σ0 a 3 → zI s7 a 7 = zI σ0 a 7 ∧ zI s7 a 8 = zI σ0 a 8 ∧ zI s7 a 9 = zI σ0 a 9 := fun a ha hk => ⟨(f11 a ha (hTo.k hk (by decide))).1.trans (fr3 a ha hk).1, (f11 a ha (hTo.k hk (by decide))).2.1.trans (fr3 a ha hk).2.1, (f11 a ha (hTo.k hk (by decide))).2.2.trans (fr3 a ha hk).2.2⟩
  refine lv_aload_n hx hb dX5_error_17 rfl (lv_at hl 0 rfl) ?_
  refine va_get (D := κ.1) (ci := 5) (v := .ref (kR κ this 4)) (C := RX5) (T := TX5) (N := 10) hx hb hg inX5 hown hK (hT.o7 (hT.k t_this (by decide))).one 0 rfl rfl 4 (by decide) (hg _ k383) (fun _ h9 => h9) rfl dX5_error_18 ?_
  rw [etr]
  refine lv_bipush (v := 46) hx hb dX5_error_21 (by decide) ?_
  have hTo := hT
  refine tVi (n := 1) (As := [.int 46]) (rest := []) hx hb hml hown hg hT hK hX (X1_invertLatest l κ s7 tr 46  (hT.k ttr (by decide)) ) sub_fBe_fCp (mwV k1047 k1048 k1049 k87 k1050) ⟨rfl, by decide, by decide, by decide +kernel⟩ ⟨(Nat.le_of_ble_eq_true rfl), (Nat.le_of_ble_eq_true rfl)⟩ (hT.o3 (hT.k ttr (by decide))) rfl rfl hl.1 rfl (Nat.le_of_ble_eq_true rfl) dX5_error_23 zroom.up (fun x13 s14 H locs hφ hEs14 hT => ?_)
  have fr15 : ∀ a : Nat, a ≠ tr → zk σ0 a 3 → zI s14 a 7 = zI σ0 a 7 ∧ zI s14 a 8 = zI σ0 a 8 ∧ zI s14 a 9 = zI σ0 a 9 := fun a ha hk => ⟨((hTo.k hk (by decide)).eI hEs14 (by decide) rfl).trans (fr12 a ha hk).1, ((hTo.k hk (by decide)).eI hEs14 (by decide) rfl).trans (fr12 a ha hk).2.1, ((hTo.k hk (by decide)).eI hEs14 (by decide) rfl).trans (fr12 a ha hk).2.2⟩
  refine lv_pop hx hb dX5_error_26 rfl ?_
  refine lv_iload_n hx hb dX5_error_27 rfl (lv_at hl 1 rfl) ?_
  by_cases q16 : x = 0
  · have q16i := gi_eq q16
    refine lv_lookup (off := 28) (tgt := 56) hx hb dX5_error_28 (by decide) (by rw [q16]; decide) (by decide) ?_
    refine lv_aload_n hx hb dX5_error_56 rfl (lv_at hl 0 rfl) ?_
    refine va_get (D := κ.1) (ci := 5) (v := .ref (kR κ this 4)) (C := RX5) (T := TX5) (N := 10) hx hb hg inX5 hown hK (hT.o7 (hT.k t_this (by decide))).one 0 rfl rfl 4 (by decide) (hg _ k383) (fun _ h9 => h9) rfl dX5_error_57 ?_
    rw [etr]
    have hTo := hT
    refine tVr (n := 0) (As := []) (rest := []) hx hb hml hown hg hT hK hX (X1_greatestDifference l κ s14 tr  (hT.k ttr (by decide)) ) sub_fW_fCp (mwV k1133 k1134 k1135 k87 k1136) ⟨rfl, by decide, by decide, by decide +kernel⟩ ⟨(Nat.le_of_ble_eq_true rfl), (Nat.le_of_ble_eq_true rfl)⟩ (hT.o3 (hT.k ttr (by decide))) rfl rfl hl.1 rfl (Nat.le_of_ble_eq_true rfl) dX5_error_60 zroom.up (fun x17 s18 H locs hφ hEs18 hT => ?_)
    have fr19 : ∀ a : Nat, a ≠ tr → zk σ0 a 3 → zI s18 a 7 = zI σ0 a 7 ∧ zI s18 a 8 = zI σ0 a 8 ∧ zI s18 a 9 = zI σ0 a 9 := fun a ha hk => ⟨((hTo.k hk (by decide)).eI hEs18 (by decide) rfl).trans (fr15 a ha hk).1, ((hTo.k hk (by decide)).eI hEs18 (by decide) rfl).trans (fr15 a ha hk).2.1, ((hTo.k hk (by decide)).eI hEs18 (by decide) rfl).trans (fr15 a ha hk).2.2⟩
    have f20 := hφ
    have tx17 : zk σ0 x17 1 := hTo.kr f20 (by decide) (by decide)
    obtain ⟨h23, oh23, th23⟩ := hT.o1 (hT.k tx17 (by decide))
    have hTo := hT
    refine tVl (n := 0) (As := []) (rest := []) hx hb hml hown hg hT hK hX (X4_toLong l κ s18 x17  (hT.k tx17 (by decide)) ) sub_fE_fCp (mwV k435 k436 k437 k88 k438) ⟨rfl, by decide, by decide, by decide +kernel⟩ ⟨(Nat.le_of_ble_eq_true rfl), (Nat.le_of_ble_eq_true rfl)⟩ oh23 rfl rfl hl.1 rfl (Nat.le_of_ble_eq_true rfl) dX5_error_63 zroom.up (fun x21 s22 H locs hφ hEs22 hT => ?_)
    have fr24 : ∀ a : Nat, a ≠ tr → zk σ0 a 3 → zI s22 a 7 = zI σ0 a 7 ∧ zI s22 a 8 = zI σ0 a 8 ∧ zI s22 a 9 = zI σ0 a 9 := fun a ha hk => ⟨((hTo.k hk (by decide)).eI hEs22 (by decide) rfl).trans (fr19 a ha hk).1, ((hTo.k hk (by decide)).eI hEs22 (by decide) rfl).trans (fr19 a ha hk).2.1, ((hTo.k hk (by decide)).eI hEs22 (by decide) rfl).trans (fr19 a ha hk).2.2⟩
    subst hQ9
    exact vx_ret (t_l hx hb hr hlocks hT (by rw [etr]; exact fr24) dX5_error_66)
  · have q16i := gi_ne q16
    by_cases q25 : x = 1
    · have q25i := gi_eq q25
      refine lv_lookup (off := 39) (tgt := 67) hx hb dX5_error_28 (by decide) (by rw [q25]; decide) (by decide) ?_
      refine lv_aload_n hx hb dX5_error_67 rfl (lv_at hl 0 rfl) ?_
      refine va_get (D := κ.1) (ci := 5) (v := .ref (kR κ this 4)) (C := RX5) (T := TX5) (N := 10) hx hb hg inX5 hown hK (hT.o7 (hT.k t_this (by decide))).one 0 rfl rfl 4 (by decide) (hg _ k383) (fun _ h9 => h9) rfl dX5_error_68 ?_
      rw [etr]
      have hTo := hT
      refine tVr (n := 0) (As := []) (rest := []) hx hb hml hown hg hT hK hX (X1_differenceSum l κ s14 tr  (hT.k ttr (by decide)) ) sub_fW_fCp (mwV k1141 k1142 k1143 k87 k1144) ⟨rfl, by decide, by decide, by decide +kernel⟩ ⟨(Nat.le_of_ble_eq_true rfl), (Nat.le_of_ble_eq_true rfl)⟩ (hT.o3 (hT.k ttr (by decide))) rfl rfl hl.1 rfl (Nat.le_of_ble_eq_true rfl) dX5_error_71 zroom.up (fun x26 s27 H locs hφ hEs27 hT => ?_)
      have fr28 : ∀ a : Nat, a ≠ tr → zk σ0 a 3 → zI s27 a 7 = zI σ0 a 7 ∧ zI s27 a 8 = zI σ0 a 8 ∧ zI s27 a 9 = zI σ0 a 9 := fun a ha hk => ⟨((hTo.k hk (by decide)).eI hEs27 (by decide) rfl).trans (fr15 a ha hk).1, ((hTo.k hk (by decide)).eI hEs27 (by decide) rfl).trans (fr15 a ha hk).2.1, ((hTo.k hk (by decide)).eI hEs27 (by decide) rfl).trans (fr15 a ha hk).2.2⟩
      have f29 := hφ
      have tx26 : zk σ0 x26 1 := hTo.kr f29 (by decide) (by decide)
      obtain ⟨h32, oh32, th32⟩ := hT.o1 (hT.k tx26 (by decide))
      have hTo := hT
      refine tVl (n := 0) (As := []) (rest := []) hx hb hml hown hg hT hK hX (X4_toLong l κ s27 x26  (hT.k tx26 (by decide)) ) sub_fE_fCp (mwV k435 k436 k437 k88 k438) ⟨rfl, by decide, by decide, by decide +kernel⟩ ⟨(Nat.le_of_ble_eq_true rfl), (Nat.le_of_ble_eq_true rfl)⟩ oh32 rfl rfl hl.1 rfl (Nat.le_of_ble_eq_true rfl) dX5_error_74 zroom.up (fun x30 s31 H locs hφ hEs31 hT => ?_)
      have fr33 : ∀ a : Nat, a ≠ tr → zk σ0 a 3 → zI s31 a 7 = zI σ0 a 7 ∧ zI s31 a 8 = zI σ0 a 8 ∧ zI s31 a 9 = zI σ0 a 9 := fun a ha hk => ⟨((hTo.k hk (by decide)).eI hEs31 (by decide) rfl).trans (fr28 a ha hk).1, ((hTo.k hk (by decide)).eI hEs31 (by decide) rfl).trans (fr28 a ha hk).2.1, ((hTo.k hk (by decide)).eI hEs31 (by decide) rfl).trans (fr28 a ha hk).2.2⟩
      subst hQ9
      exact vx_ret (t_l hx hb hr hlocks hT (by rw [etr]; exact fr33) dX5_error_77)
    · have q25i := gi_ne q25
      refine lv_lookup (off := 50) (tgt := 78) hx hb dX5_error_28 (by decide) (by simp [Op.lookupswitch.offset] <;> omega) (by decide) ?_
      refine lv_aload_n hx hb dX5_error_78 rfl (lv_at hl 0 rfl) ?_
      refine va_get (D := κ.1) (ci := 5) (v := .ref (kR κ this 4)) (C := RX5) (T := TX5) (N := 10) hx hb hg inX5 hown hK (hT.o7 (hT.k t_this (by decide))).one 0 rfl rfl 4 (by decide) (hg _ k383) (fun _ h9 => h9) rfl dX5_error_79 ?_
      rw [etr]
      have hTo := hT
      refine tVi (n := 0) (As := []) (rest := []) hx hb hml hown hg hT hK hX (X1_differenceCount l κ s14 tr  (hT.k ttr (by decide)) ) sub_fW_fCp (mwV k1145 k1146 k1147 k87 k1148) ⟨rfl, by decide, by decide, by decide +kernel⟩ ⟨(Nat.le_of_ble_eq_true rfl), (Nat.le_of_ble_eq_true rfl)⟩ (hT.o3 (hT.k ttr (by decide))) rfl rfl hl.1 rfl (Nat.le_of_ble_eq_true rfl) dX5_error_82 zroom.up (fun x34 s35 H locs hφ hEs35 hT => ?_)
      have fr36 : ∀ a : Nat, a ≠ tr → zk σ0 a 3 → zI s35 a 7 = zI σ0 a 7 ∧ zI s35 a 8 = zI σ0 a 8 ∧ zI s35 a 9 = zI σ0 a 9 := fun a ha hk => ⟨((hTo.k hk (by decide)).eI hEs35 (by decide) rfl).trans (fr15 a ha hk).1, ((hTo.k hk (by decide)).eI hEs35 (by decide) rfl).trans (fr15 a ha hk).2.1, ((hTo.k hk (by decide)).eI hEs35 (by decide) rfl).trans (fr15 a ha hk).2.2⟩
      refine lv_i2l hx hb dX5_error_85 rfl ?_
      refine g_i2l (fun t37 ht37 => ?_)
      subst hQ9
      exact vx_ret (t_l hx hb hr hlocks hT (by rw [etr]; exact fr36) dX5_error_86)
set_option maxHeartbeats 4000000 in
set_option maxRecDepth 100000 in
theorem X5t_errorOfCut (l : Launch) (κ : Kt) (σ0 : Gh) (this : Nat) (x : Int32) (so : Int32) (t_this : zk σ0 this 7) (b_so : isB so) : TC l yX5_errorOfCut cX5_errorOfCut 3 (some (.object "LiftingSignal$Whole")) 6 158 [.ref this, .int x, .int so] κ σ0 (tqr κ fCp σ0 (fun (r : Nat) (τ : Gh) => (zk σ0 r 1) ∧ (∀ a : Nat, a ≠ (kR κ this 4) → zk σ0 a 3 → zI τ a 7 = zI σ0 a 7 ∧ zI τ a 8 = zI σ0 a 8 ∧ zI τ a 9 = zI σ0 a 9))) := by
  refine TC.of fCp (by decide +kernel) (Nat.le_of_ble_eq_true rfl) ?_
  intro p e s m below meth c ls hcs hK hX hT hl
  obtain ⟨hx, hb, hr, hml, hown, hg, hlocks, hin⟩ := hcs
  have hown : s.vm.findClass RX5 = some m.cls := hown
  have hl : lv_has ls 3 [(0, .ref this), (1, .int x), (2, .int so)] := hl
  have hT0 := hT
  have n46 : (46 : Int32).toInt = 46 := by decide
  have x_lo := Int32.le_toInt x
  have x_hi := Int32.toInt_lt x
  generalize hQ9 : tQ _ _ _ _ _ _ = Q9
  obtain ⟨nw, enw⟩ : ∃ z, kR κ this 3 = z := ⟨_, rfl⟩
  have tnw : zk σ0 nw 3 := by rw [← enw]; exact hT0.ref t_this (by decide) (by decide) (by decide)
  obtain ⟨tr, etr⟩ : ∃ z, kR κ this 4 = z := ⟨_, rfl⟩
  have ttr : zk σ0 tr 3 := by rw [← etr]; exact hT0.ref t_this (by decide) (by decide) (by decide)
  refine lv_aload_n hx hb dX5_errorOfCut_0 rfl (lv_at hl 0 rfl) ?_
  refine va_get (D := κ.1) (ci := 5) (v := .ref (kR κ this 4)) (C := RX5) (T := TX5) (N := 10) hx hb hg inX5 hown hK (hT.o7 (hT.k t_this (by decide))).one 0 rfl rfl 4 (by decide) (hg _ k383) (fun _ h9 => h9) rfl dX5_errorOfCut_1 ?_
  rw [etr]
  refine lv_aload_n hx hb dX5_errorOfCut_4 rfl (lv_at hl 0 rfl) ?_
  refine va_get (D := κ.1) (ci := 5) (v := .ref (kR κ this 3)) (C := RX5) (T := TX5) (N := 10) hx hb hg inX5 hown hK (hT.o7 (hT.k t_this (by decide))).one 0 rfl rfl 3 (by decide) (hg _ k382) (fun _ h9 => h9) rfl dX5_errorOfCut_5 ?_
  rw [enw]
  have hTo := hT
  refine tVv (n := 1) (As := [.ref nw]) (rest := []) hx hb hml hown hg hT hK hX (X1t_copyFrom l κ σ0 tr nw  (hT.k ttr (by decide)) (hT.k tnw (by decide)) ) (fun _ _ h => h) (mwV k1123 k1124 k1125 k87 k1126) ⟨rfl, by decide, by decide, by decide +kernel⟩ ⟨(Nat.le_of_ble_eq_true rfl), (Nat.le_of_ble_eq_true rfl)⟩ (hT.o3 (hT.k ttr (by decide))) rfl rfl hl.1 rfl (Nat.le_of_ble_eq_true rfl) dX5_errorOfCut_8 zroom.rf (fun s2 H locs hφ hEs2 hT => ?_)
  obtain ⟨f3, f4, f5, f6⟩ := hφ
  try rw [etr] at f6
  try rw [enw] at f6
  have fr7 : ∀ a : Nat, a ≠ tr → zk σ0 a 3 → zI s2 a 7 = zI σ0 a 7 ∧ zI s2 a 8 = zI σ0 a 8 ∧ zI s2 a 9 = zI σ0 a 9 := fun a ha hk => ⟨(f6 a ha (hTo.k hk (by decide))).1.trans ((show ∀ a : Nat, a ≠ tr → zk σ0 a 3 → zI σ0 a 7 = zI σ0 a 7 ∧ zI σ0 a 8 = zI σ0 a 8 ∧ zI σ0 a 9 = zI σ0 a 9 from fun _ _ _ => ⟨rfl, rfl, rfl⟩) a ha hk).1, (f6 a ha (hTo.k hk (by decide))).2.1.trans ((show ∀ a : Nat, a ≠ tr → zk σ0 a 3 → zI σ0 a 7 = zI σ0 a 7 ∧ zI σ0 a 8 = zI σ0 a 8 ∧ zI σ0 a 9 = zI σ0 a 9 from fun _ _ _ => ⟨rfl, rfl, rfl⟩) a ha hk).2.1, (f6 a ha (hTo.k hk (by decide))).2.2.trans ((show ∀ a : Nat, a ≠ tr → zk σ0 a 3 → zI σ0 a 7 = zI σ0 a 7 ∧ zI σ0 a 8 = zI σ0 a 8 ∧ zI σ0 a 9 = zI σ0 a 9 from fun _ _ _ => ⟨rfl, rfl, rfl⟩) a ha hk).2.2⟩
  refine lv_aload_n hx hb dX5_errorOfCut_11 rfl (lv_at hl 0 rfl) ?_
  refine va_get (D := κ.1) (ci := 5) (v := .ref (kR κ this 4)) (C := RX5) (T := TX5) (N := 10) hx hb hg inX5 hown hK (hT.o7 (hT.k t_this (by decide))).one 0 rfl rfl 4 (by decide) (hg _ k383) (fun _ h9 => h9) rfl dX5_errorOfCut_12 ?_
  rw [etr]
  refine lv_iload_n hx hb dX5_errorOfCut_15 rfl (lv_at hl 1 rfl) ?_
  refine lv_iload_n hx hb dX5_errorOfCut_16 rfl (lv_at hl 2 rfl) ?_
  have hTo := hT
  refine tVv (n := 2) (As := [.int x, .int so]) (rest := []) hx hb hml hown hg hT hK hX (X1_cutDetails l κ s2 tr x so  (hT.k ttr (by decide)) b_so ) sub_fW_fCp (mwV k1072 k1073 k1074 k87 k1075) ⟨rfl, by decide, by decide, by decide +kernel⟩ ⟨(Nat.le_of_ble_eq_true rfl), (Nat.le_of_ble_eq_true rfl)⟩ (hT.o3 (hT.k ttr (by decide))) rfl rfl hl.1 rfl (Nat.le_of_ble_eq_true rfl) dX5_errorOfCut_17 zroom.rf (fun s9 H locs hφ hEs9 hT => ?_)
  have fr10 : ∀ a : Nat, a ≠ tr → zk σ0 a 3 → zI s9 a 7 = zI σ0 a 7 ∧ zI s9 a 8 = zI σ0 a 8 ∧ zI s9 a 9 = zI σ0 a 9 := fun a ha hk => ⟨((hTo.k hk (by decide)).eI hEs9 (by decide) rfl).trans (fr7 a ha hk).1, ((hTo.k hk (by decide)).eI hEs9 (by decide) rfl).trans (fr7 a ha hk).2.1, ((hTo.k hk (by decide)).eI hEs9 (by decide) rfl).trans (fr7 a ha hk).2.2⟩
  refine lv_aload_n hx hb dX5_errorOfCut_20 rfl (lv_at hl 0 rfl) ?_
  refine va_get (D := κ.1) (ci := 5) (v := .ref (kR κ this 4)) (C := RX5) (T := TX5) (N := 10) hx hb hg inX5 hown hK (hT.o7 (hT.k t_this (by decide))).one 0 rfl rfl 4 (by decide) (hg _ k383) (fun _ h9 => h9) rfl dX5_errorOfCut_21 ?_
  rw [etr]
  refine lv_bipush (v := 46) hx hb dX5_errorOfCut_24 (by decide) ?_
  have hTo := hT
  refine tVi (n := 1) (As := [.int 46]) (rest := []) hx hb hml hown hg hT hK hX (X1_invertLatest l κ s9 tr 46  (hT.k ttr (by decide)) ) sub_fBe_fCp (mwV k1047 k1048 k1049 k87 k1050) ⟨rfl, by decide, by decide, by decide +kernel⟩ ⟨(Nat.le_of_ble_eq_true rfl), (Nat.le_of_ble_eq_true rfl)⟩ (hT.o3 (hT.k ttr (by decide))) rfl rfl hl.1 rfl (Nat.le_of_ble_eq_true rfl) dX5_errorOfCut_26 zroom.rf (fun x11 s12 H locs hφ hEs12 hT => ?_)
  have fr13 : ∀ a : Nat, a ≠ tr → zk σ0 a 3 → zI s12 a 7 = zI σ0 a 7 ∧ zI s12 a 8 = zI σ0 a 8 ∧ zI s12 a 9 = zI σ0 a 9 := fun a ha hk => ⟨((hTo.k hk (by decide)).eI hEs12 (by decide) rfl).trans (fr10 a ha hk).1, ((hTo.k hk (by decide)).eI hEs12 (by decide) rfl).trans (fr10 a ha hk).2.1, ((hTo.k hk (by decide)).eI hEs12 (by decide) rfl).trans (fr10 a ha hk).2.2⟩
  refine lv_pop hx hb dX5_errorOfCut_29 rfl ?_
  refine lv_aload_n hx hb dX5_errorOfCut_30 rfl (lv_at hl 0 rfl) ?_
  refine va_get (D := κ.1) (ci := 5) (v := .ref (kR κ this 4)) (C := RX5) (T := TX5) (N := 10) hx hb hg inX5 hown hK (hT.o7 (hT.k t_this (by decide))).one 0 rfl rfl 4 (by decide) (hg _ k383) (fun _ h9 => h9) rfl dX5_errorOfCut_31 ?_
  rw [etr]
  have hTo := hT
  refine tVr (n := 0) (As := []) (rest := []) hx hb hml hown hg hT hK hX (X1_greatestDifference l κ s12 tr  (hT.k ttr (by decide)) ) sub_fW_fCp (mwV k1133 k1134 k1135 k87 k1136) ⟨rfl, by decide, by decide, by decide +kernel⟩ ⟨(Nat.le_of_ble_eq_true rfl), (Nat.le_of_ble_eq_true rfl)⟩ (hT.o3 (hT.k ttr (by decide))) rfl rfl hl.1 rfl (Nat.le_of_ble_eq_true rfl) dX5_errorOfCut_34 zroom.rf (fun x14 s15 H locs hφ hEs15 hT => ?_)
  have fr16 : ∀ a : Nat, a ≠ tr → zk σ0 a 3 → zI s15 a 7 = zI σ0 a 7 ∧ zI s15 a 8 = zI σ0 a 8 ∧ zI s15 a 9 = zI σ0 a 9 := fun a ha hk => ⟨((hTo.k hk (by decide)).eI hEs15 (by decide) rfl).trans (fr13 a ha hk).1, ((hTo.k hk (by decide)).eI hEs15 (by decide) rfl).trans (fr13 a ha hk).2.1, ((hTo.k hk (by decide)).eI hEs15 (by decide) rfl).trans (fr13 a ha hk).2.2⟩
  have f17 := hφ
  have tx14 : zk σ0 x14 1 := hTo.kr f17 (by decide) (by decide)
  subst hQ9
  exact t_r rfl hx hb hr hlocks hT ⟨tx14, by rw [etr]; exact fr16⟩ dX5_errorOfCut_37
set_option maxHeartbeats 4000000 in
set_option maxRecDepth 100000 in
theorem X5t_errorWith (l : Launch) (κ : Kt) (σ0 : Gh) (this : Nat) (x : Int32) (so : Int32) (t_this : zk σ0 this 7) (b_so : isB so) (hlt : l.stackTraces = false) : TX l yX5_errorWith cX5_errorWith 3 (some .long) 7 180 [.ref this, .int x, .int so] κ σ0 (tql κ fCp σ0 (fun (r : Int64) (τ : Gh) => (∀ a : Nat, a ≠ (kR κ this 4) → zk σ0 a 3 → zI τ a 7 = zI σ0 a 7 ∧ zI τ a 8 = zI σ0 a 8 ∧ zI τ a 9 = zI σ0 a 9))) (txq κ fCp σ0 (fun (E : String) (τ : Gh) => E = "java/lang/IllegalArgumentException" ∧ ∀ a : Nat, zk σ0 a 3 → zI τ a 7 = zI σ0 a 7 ∧ zI τ a 8 = zI σ0 a 8 ∧ zI τ a 9 = zI σ0 a 9)) := by
  refine TX.of fCp (by decide +kernel) (Nat.le_of_ble_eq_true rfl) ?_
  intro p e s m below meth c ls hcs hout hK hX hT hl
  obtain ⟨hx, hb, hr, hml, hown, hg, hlocks, hin⟩ := hcs
  have hown : s.vm.findClass RX5 = some m.cls := hown
  have hl : lv_has ls 3 [(0, .ref this), (1, .int x), (2, .int so)] := hl
  have hT0 := hT
  have n0 : (0 : Int32).toInt = 0 := by decide
  have n9999 : (9999 : Int32).toInt = 9999 := by decide
  have x_lo := Int32.le_toInt x
  have x_hi := Int32.toInt_lt x
  generalize hQ9 : tQX _ _ _ _ _ _ _ = Q9
  obtain ⟨nw, enw⟩ : ∃ z, kR κ this 3 = z := ⟨_, rfl⟩
  have tnw : zk σ0 nw 3 := by rw [← enw]; exact hT0.ref t_this (by decide) (by decide) (by decide)
  obtain ⟨tr, etr⟩ : ∃ z, kR κ this 4 = z := ⟨_, rfl⟩
  have ttr : zk σ0 tr 3 := by rw [← etr]; exact hT0.ref t_this (by decide) (by decide) (by decide)
  refine lv_iload_n hx hb dX5_errorWith_0 rfl (lv_at hl 1 rfl) ?_
  refine lv_iconst (v := 0) hx hb dX5_errorWith_1 (by decide) ?_
  refine lv_sipush (v := 9999) hx hb dX5_errorWith_2 (by decide) ?_
  have hTo := hT
  refine xtSv (n := 3) (As := [.int x, .int 0, .int 9999]) (rest := []) hx hb hml hown hg hT hK hX (X5_needRange l κ σ0 x 0 9999    hlt) sub_fE_fCp (mwS k909 k910 k84 k911) ⟨rfl, by decide, by decide, by decide +kernel⟩ ⟨(Nat.le_of_ble_eq_true rfl), (Nat.le_of_ble_eq_true rfl)⟩ rfl hl.1 rfl (Nat.le_of_ble_eq_true rfl) dX5_errorWith_5 zroomX.rf (fun E9 ce9 q9 τ9 H9 locs9 hp9 hE9 hT9 hce9 hcv9 hcl9 => by subst hQ9; exact tx_out hT9 ⟨hp9.1, fun a hk => ⟨hk.eI hE9 (by decide) rfl, hk.eI hE9 (by decide) rfl, hk.eI hE9 (by decide) rfl⟩⟩ hout hlocks hce9 hcv9 hcl9) (fun s2 H locs hφ hEs2 hT => ?_)
  have fr3 : ∀ a : Nat, a ≠ tr → zk σ0 a 3 → zI s2 a 7 = zI σ0 a 7 ∧ zI s2 a 8 = zI σ0 a 8 ∧ zI s2 a 9 = zI σ0 a 9 := fun a ha hk => ⟨((hTo.k hk (by decide)).eI hEs2 (by decide) rfl).trans ((show ∀ a : Nat, a ≠ tr → zk σ0 a 3 → zI σ0 a 7 = zI σ0 a 7 ∧ zI σ0 a 8 = zI σ0 a 8 ∧ zI σ0 a 9 = zI σ0 a 9 from fun _ _ _ => ⟨rfl, rfl, rfl⟩) a ha hk).1, ((hTo.k hk (by decide)).eI hEs2 (by decide) rfl).trans ((show ∀ a : Nat, a ≠ tr → zk σ0 a 3 → zI σ0 a 7 = zI σ0 a 7 ∧ zI σ0 a 8 = zI σ0 a 8 ∧ zI σ0 a 9 = zI σ0 a 9 from fun _ _ _ => ⟨rfl, rfl, rfl⟩) a ha hk).2.1, ((hTo.k hk (by decide)).eI hEs2 (by decide) rfl).trans ((show ∀ a : Nat, a ≠ tr → zk σ0 a 3 → zI σ0 a 7 = zI σ0 a 7 ∧ zI σ0 a 8 = zI σ0 a 8 ∧ zI σ0 a 9 = zI σ0 a 9 from fun _ _ _ => ⟨rfl, rfl, rfl⟩) a ha hk).2.2⟩
  obtain ⟨f4, f5⟩ := hφ
  refine lv_aload_n hx hb dX5_errorWith_8 rfl (lv_at hl 0 rfl) ?_
  refine lv_iload_n hx hb dX5_errorWith_9 rfl (lv_at hl 1 rfl) ?_
  refine lv_iload_n hx hb dX5_errorWith_10 rfl (lv_at hl 2 rfl) ?_
  have hTo := hT
  refine tVr (n := 2) (As := [.int x, .int so]) (rest := []) hx hb hml hown hg hT hK hX (X5t_errorOfCut l κ s2 this x so  (hT.k t_this (by decide)) b_so ) (fun _ _ h => h) (mwV k1156 k1158 k33 k84 k1159) ⟨rfl, by decide, by decide, by decide +kernel⟩ ⟨(Nat.le_of_ble_eq_true rfl), (Nat.le_of_ble_eq_true rfl)⟩ (hT.o7 (hT.k t_this (by decide))) rfl rfl hl.1 rfl (Nat.le_of_ble_eq_true rfl) dX5_errorWith_11 zroom.up (fun x6 s7 H locs hφ hEs7 hT => ?_)
  obtain ⟨f8, f9⟩ := hφ
  try rw [etr] at f9
  try rw [enw] at f9
  have fr10 : ∀ a : Nat, a ≠ tr → zk σ0 a 3 → zI s7 a 7 = zI σ0 a 7 ∧ zI s7 a 8 = zI σ0 a 8 ∧ zI s7 a 9 = zI σ0 a 9 := fun a ha hk => ⟨(f9 a ha (hTo.k hk (by decide))).1.trans (fr3 a ha hk).1, (f9 a ha (hTo.k hk (by decide))).2.1.trans (fr3 a ha hk).2.1, (f9 a ha (hTo.k hk (by decide))).2.2.trans (fr3 a ha hk).2.2⟩
  have tx6 : zk σ0 x6 1 := hTo.kr f8 (by decide) (by decide)
  obtain ⟨h13, oh13, th13⟩ := hT.o1 (hT.k tx6 (by decide))
  have hTo := hT
  refine tVl (n := 0) (As := []) (rest := []) hx hb hml hown hg hT hK hX (X4_toLong l κ s7 x6  (hT.k tx6 (by decide)) ) sub_fE_fCp (mwV k435 k436 k437 k88 k438) ⟨rfl, by decide, by decide, by decide +kernel⟩ ⟨(Nat.le_of_ble_eq_true rfl), (Nat.le_of_ble_eq_true rfl)⟩ oh13 rfl rfl hl.1 rfl (Nat.le_of_ble_eq_true rfl) dX5_errorWith_14 zroom.up (fun x11 s12 H locs hφ hEs12 hT => ?_)
  have fr14 : ∀ a : Nat, a ≠ tr → zk σ0 a 3 → zI s12 a 7 = zI σ0 a 7 ∧ zI s12 a 8 = zI σ0 a 8 ∧ zI s12 a 9 = zI σ0 a 9 := fun a ha hk => ⟨((hTo.k hk (by decide)).eI hEs12 (by decide) rfl).trans (fr10 a ha hk).1, ((hTo.k hk (by decide)).eI hEs12 (by decide) rfl).trans (fr10 a ha hk).2.1, ((hTo.k hk (by decide)).eI hEs12 (by decide) rfl).trans (fr10 a ha hk).2.2⟩
  subst hQ9
  exact vx_ret (t_l hx hb hr hlocks hT (by rw [etr]; exact fr14) dX5_errorWith_17)
set_option maxHeartbeats 4000000 in
set_option maxRecDepth 100000 in
theorem X5t_bestThreshold (l : Launch) (κ : Kt) (σ0 : Gh) (this : Nat) (x : Int32) (t_this : zk σ0 this 7) (hlt : l.stackTraces = false) : TX l yX5_bestThreshold cX5_bestThreshold 5 (some .int) 7 180 [.ref this, .int x] κ σ0 (tqi κ fCp σ0 (fun (r : Int32) (τ : Gh) => (∀ a : Nat, a ≠ (kR κ this 4) → zk σ0 a 3 → zI τ a 7 = zI σ0 a 7 ∧ zI τ a 8 = zI σ0 a 8 ∧ zI τ a 9 = zI σ0 a 9))) (txq κ fCp σ0 (fun (E : String) (τ : Gh) => (E = "java/lang/IllegalArgumentException" ∧ ∀ a : Nat, a ≠ (kR κ this 4) → zk σ0 a 3 → zI τ a 7 = zI σ0 a 7 ∧ zI τ a 8 = zI σ0 a 8 ∧ zI τ a 9 = zI σ0 a 9) ∨ (E = "java/util/NoSuchElementException" ∧ ∀ a : Nat, a ≠ (kR κ this 4) → zk σ0 a 3 → zI τ a 7 = zI σ0 a 7 ∧ zI τ a 8 = zI σ0 a 8 ∧ zI τ a 9 = zI σ0 a 9))) := by
  refine TX.of fCp (by decide +kernel) (Nat.le_of_ble_eq_true rfl) ?_
  intro p e s m below meth c ls hcs hout hK hX hT hl
  obtain ⟨hx, hb, hr, hml, hown, hg, hlocks, hin⟩ := hcs
  have hown : s.vm.findClass RX5 = some m.cls := hown
  have hl : lv_has ls 5 [(0, .ref this), (1, .int x)] := hl
  have hT0 := hT
  have n0 : (0 : Int32).toInt = 0 := by decide
  have n46 : (46 : Int32).toInt = 46 := by decide
  have n99999 : (99999 : Int32).toInt = 99999 := by decide
  have j0 : (0 : Int64).toInt = 0 := by decide
  have j1 : (1 : Int64).toInt = 1 := by decide
  have j1000 : (1000 : Int64).toInt = 1000 := by decide
  have x_lo := Int32.le_toInt x
  have x_hi := Int32.toInt_lt x
  generalize hQ9 : tQX _ _ _ _ _ _ _ = Q9
  obtain ⟨nw, enw⟩ : ∃ z, kR κ this 3 = z := ⟨_, rfl⟩
  have tnw : zk σ0 nw 3 := by rw [← enw]; exact hT0.ref t_this (by decide) (by decide) (by decide)
  obtain ⟨tr, etr⟩ : ∃ z, kR κ this 4 = z := ⟨_, rfl⟩
  have ttr : zk σ0 tr 3 := by rw [← etr]; exact hT0.ref t_this (by decide) (by decide) (by decide)
  refine lv_iload_n hx hb dX5_bestThreshold_0 rfl (lv_at hl 1 rfl) ?_
  refine lv_iconst (v := 0) hx hb dX5_bestThreshold_1 (by decide) ?_
  refine lv_ldcw hx hb hown (hg _ k1063) dX5_bestThreshold_2 ?_
  have hTo := hT
  refine xtSv (n := 3) (As := [.int x, .int 0, .int 99999]) (rest := []) hx hb hml hown hg hT hK hX (X5_needRange l κ σ0 x 0 99999    hlt) sub_fE_fCp (mwS k909 k910 k84 k911) ⟨rfl, by decide, by decide, by decide +kernel⟩ ⟨(Nat.le_of_ble_eq_true rfl), (Nat.le_of_ble_eq_true rfl)⟩ rfl hl.1 rfl (Nat.le_of_ble_eq_true rfl) dX5_bestThreshold_5 zroomX.rf (fun E9 ce9 q9 τ9 H9 locs9 hp9 hE9 hT9 hce9 hcv9 hcl9 => by subst hQ9; exact tx_out hT9 (Or.inl ⟨hp9.1, fun a _ hk => ⟨hk.eI hE9 (by decide) rfl, hk.eI hE9 (by decide) rfl, hk.eI hE9 (by decide) rfl⟩⟩) hout hlocks hce9 hcv9 hcl9) (fun s2 H locs hφ hEs2 hT => ?_)
  have fr3 : ∀ a : Nat, a ≠ tr → zk σ0 a 3 → zI s2 a 7 = zI σ0 a 7 ∧ zI s2 a 8 = zI σ0 a 8 ∧ zI s2 a 9 = zI σ0 a 9 := fun a ha hk => ⟨((hTo.k hk (by decide)).eI hEs2 (by decide) rfl).trans ((show ∀ a : Nat, a ≠ tr → zk σ0 a 3 → zI σ0 a 7 = zI σ0 a 7 ∧ zI σ0 a 8 = zI σ0 a 8 ∧ zI σ0 a 9 = zI σ0 a 9 from fun _ _ _ => ⟨rfl, rfl, rfl⟩) a ha hk).1, ((hTo.k hk (by decide)).eI hEs2 (by decide) rfl).trans ((show ∀ a : Nat, a ≠ tr → zk σ0 a 3 → zI σ0 a 7 = zI σ0 a 7 ∧ zI σ0 a 8 = zI σ0 a 8 ∧ zI σ0 a 9 = zI σ0 a 9 from fun _ _ _ => ⟨rfl, rfl, rfl⟩) a ha hk).2.1, ((hTo.k hk (by decide)).eI hEs2 (by decide) rfl).trans ((show ∀ a : Nat, a ≠ tr → zk σ0 a 3 → zI σ0 a 7 = zI σ0 a 7 ∧ zI σ0 a 8 = zI σ0 a 8 ∧ zI σ0 a 9 = zI σ0 a 9 from fun _ _ _ => ⟨rfl, rfl, rfl⟩) a ha hk).2.2⟩
  obtain ⟨f4, f5⟩ := hφ
  refine lv_ldc2 hx hb hown (hg _ k1167) dX5_bestThreshold_8 ?_
  refine lv_lstore_n (lv' := [(2, .long 1000), (0, .ref this), (1, .int x)]) hx hb dX5_bestThreshold_11 rfl hl (by decide) rfl (fun ls hl => ?_)
  refine lv_iconst (v := 0) hx hb dX5_bestThreshold_12 (by decide) ?_
  refine lv_istore (lv' := [(4, .int 0), (2, .long 1000), (0, .ref this), (1, .int x)]) hx hb dX5_bestThreshold_13 hl (by decide) rfl (fun ls hl => ?_)
  have loop15 : ∀ (n9 : Nat) (th : Int64) (k : Int32) (H : Heap) (locs : List Loc) (sg : Gh) (ls : Array Slot), TS κ fCp σ0 sg s H locs → (0 ≤ k.toInt) → (k.toInt ≤ 47) → (∀ a : Nat, a ≠ tr → zk σ0 a 3 → zI sg a 7 = zI σ0 a 7 ∧ zI sg a 8 = zI σ0 a 8 ∧ zI sg a 9 = zI σ0 a 9) → lv_has ls 5 [(2, .long th), (4, .int k), (0, .ref this), (1, .int x)] → (47 - k.toInt) < n9 → tW p l e 7 180 (kX κ) s m #[.ref this, .int x] below meth c H locs Q9 (F0 m 15 ls []) := by
    intro n9
    induction n9 with
    | zero =>
      intro th k H locs sg ls hT q2 q3 FR hl hm9
      exfalso
      omega
    | succ n9 ih9 =>
      have ih15 := ih9
      clear ih9
      intro th k H locs s6 ls hT q2 q3 FR hl hm9
      refine lv_iload hx hb dX5_bestThreshold_15 (lv_at hl 1 rfl) ?_
      refine lv_bipush (v := 46) hx hb dX5_bestThreshold_17 (by decide) ?_
      refine lv_icmp_gt (tgt := 63) hx hb dX5_bestThreshold_19 (by decide) (fun c9 => ?_) (fun c9 => ?_)
      · have c1 := gi_lt c9
        obtain ⟨sa, hsa⟩ := XX_sRX5_312 hX.1
        subst hQ9
        exact tthW_NSEE hx hb hlt hown (hg _ k951) (hg _ k103) hsa hg hX.1 hT (hl.1.trans hml.symm) dX5_bestThreshold_63 dX5_bestThreshold_66 dX5_bestThreshold_67 dX5_bestThreshold_70 dX5_bestThreshold_73 hout (Nat.le_of_ble_eq_true rfl) (Nat.le_of_ble_eq_true rfl) zroomX.rf hlocks (Or.inr ⟨rfl, by rw [etr]; exact FR⟩)
      · have c2 := gi_nlt c9
        refine lv_lload_n hx hb dX5_bestThreshold_22 rfl (lv_at hl 0 rfl) ?_
        refine lv_lconst (v := 0) hx hb dX5_bestThreshold_23 (by decide) ?_
        refine W.lcmp hx hb dX5_bestThreshold_24 ?_
        refine lv_if_lt (tgt := 63) hx hb dX5_bestThreshold_25 (by decide) (fun c9 => ?_) (fun c9 => ?_)
        · have c3 := gl_lt c9
          obtain ⟨sa, hsa⟩ := XX_sRX5_312 hX.1
          subst hQ9
          exact tthW_NSEE hx hb hlt hown (hg _ k951) (hg _ k103) hsa hg hX.1 hT (hl.1.trans hml.symm) dX5_bestThreshold_63 dX5_bestThreshold_66 dX5_bestThreshold_67 dX5_bestThreshold_70 dX5_bestThreshold_73 hout (Nat.le_of_ble_eq_true rfl) (Nat.le_of_ble_eq_true rfl) zroomX.rf hlocks (Or.inr ⟨rfl, by rw [etr]; exact FR⟩)
        · have c4 := gl_nlt c9
          refine lv_aload_n hx hb dX5_bestThreshold_28 rfl (lv_at hl 2 rfl) ?_
          refine lv_lload_n hx hb dX5_bestThreshold_29 rfl (lv_at hl 0 rfl) ?_
          refine lv_l2i hx hb dX5_bestThreshold_30 rfl ?_
          refine lv_topi (fun t7 ht7 => ?_)
          refine lv_iconst (v := 0) hx hb dX5_bestThreshold_31 (by decide) ?_
          have hTo := hT
          refine tVr (n := 2) (As := [.int t7, .int 0]) (rest := []) hx hb hml hown hg hT hK hX (X5t_errorOfCut l κ s6 this t7 0  (hT.k t_this (by decide)) isB0 ) (fun _ _ h => h) (mwV k1156 k1158 k33 k84 k1159) ⟨rfl, by decide, by decide, by decide +kernel⟩ ⟨(Nat.le_of_ble_eq_true rfl), (Nat.le_of_ble_eq_true rfl)⟩ (hT.o7 (hT.k t_this (by decide))) rfl rfl hl.1 rfl (Nat.le_of_ble_eq_true rfl) dX5_bestThreshold_32 zroom.up (fun x8 s9 H locs hφ hEs9 hT => ?_)
          obtain ⟨f10, f11⟩ := hφ
          try rw [etr] at f11
          try rw [enw] at f11
          have fr12 : ∀ a : Nat, a ≠ tr → zk σ0 a 3 → zI s9 a 7 = zI σ0 a 7 ∧ zI s9 a 8 = zI σ0 a 8 ∧ zI s9 a 9 = zI σ0 a 9 := fun a ha hk => ⟨(f11 a ha (hTo.k hk (by decide))).1.trans (FR a ha hk).1, (f11 a ha (hTo.k hk (by decide))).2.1.trans (FR a ha hk).2.1, (f11 a ha (hTo.k hk (by decide))).2.2.trans (FR a ha hk).2.2⟩
          have tx8 : zk σ0 x8 1 := hTo.kr f10 (by decide) (by decide)
          refine lv_iload_n hx hb dX5_bestThreshold_35 rfl (lv_at hl 3 rfl) ?_
          refine lv_i2l hx hb dX5_bestThreshold_36 rfl ?_
          refine g_i2l (fun t13 ht13 => ?_)
          refine lv_lconst (v := 1) hx hb dX5_bestThreshold_37 (by decide) ?_
          refine lv_ladd hx hb dX5_bestThreshold_38 ?_
          refine lv_topl (fun t14 ht14 => ?_)
          obtain ⟨h17, oh17, th17⟩ := hT.o1 (hT.k tx8 (by decide))
          have hTo := hT
          refine tVi (n := 1) (As := [.long t14]) (rest := []) hx hb hml hown hg hT hK hX (X4_isAmountBelow l κ s9 x8 t14  (hT.k tx8 (by decide)) ) sub_fE_fCp (mwV k1168 k1077 k1078 k88 k1079) ⟨rfl, by decide, by decide, by decide +kernel⟩ ⟨(Nat.le_of_ble_eq_true rfl), (Nat.le_of_ble_eq_true rfl)⟩ oh17 rfl rfl hl.1 rfl (Nat.le_of_ble_eq_true rfl) dX5_bestThreshold_39 zroom.up (fun x15 s16 H locs hφ hEs16 hT => ?_)
          have fr18 : ∀ a : Nat, a ≠ tr → zk σ0 a 3 → zI s16 a 7 = zI σ0 a 7 ∧ zI s16 a 8 = zI σ0 a 8 ∧ zI s16 a 9 = zI σ0 a 9 := fun a ha hk => ⟨((hTo.k hk (by decide)).eI hEs16 (by decide) rfl).trans (fr12 a ha hk).1, ((hTo.k hk (by decide)).eI hEs16 (by decide) rfl).trans (fr12 a ha hk).2.1, ((hTo.k hk (by decide)).eI hEs16 (by decide) rfl).trans (fr12 a ha hk).2.2⟩
          have f19 := hφ
          refine lv_if_eq (tgt := 48) hx hb dX5_bestThreshold_42 (by decide) (fun c9 => ?_) (fun c9 => ?_)
          · have c5 := gi_eq c9
            refine lv_aload_n hx hb dX5_bestThreshold_48 rfl (lv_at hl 2 rfl) ?_
            refine va_get (D := κ.1) (ci := 5) (v := .ref (kR κ this 3)) (C := RX5) (T := TX5) (N := 10) hx hb hg inX5 hown hK (hT.o7 (hT.k t_this (by decide))).one 0 rfl rfl 3 (by decide) (hg _ k382) (fun _ h9 => h9) rfl dX5_bestThreshold_49 ?_
            rw [enw]
            refine lv_lload_n hx hb dX5_bestThreshold_52 rfl (lv_at hl 0 rfl) ?_
            have hTo := hT
            refine tVl (n := 1) (As := [.long th]) (rest := []) hx hb hml hown hg hT hK hX (X1_greatestAmountBelow l κ s16 nw th  (hT.k tnw (by decide)) ) sub_fE_fCp (mwV k1169 k1170 k1171 k87 k1172) ⟨rfl, by decide, by decide, by decide +kernel⟩ ⟨(Nat.le_of_ble_eq_true rfl), (Nat.le_of_ble_eq_true rfl)⟩ (hT.o3 (hT.k tnw (by decide))) rfl rfl hl.1 rfl (Nat.le_of_ble_eq_true rfl) dX5_bestThreshold_53 zroom.up (fun x20 s21 H locs hφ hEs21 hT => ?_)
            have fr22 : ∀ a : Nat, a ≠ tr → zk σ0 a 3 → zI s21 a 7 = zI σ0 a 7 ∧ zI s21 a 8 = zI σ0 a 8 ∧ zI s21 a 9 = zI σ0 a 9 := fun a ha hk => ⟨((hTo.k hk (by decide)).eI hEs21 (by decide) rfl).trans (fr18 a ha hk).1, ((hTo.k hk (by decide)).eI hEs21 (by decide) rfl).trans (fr18 a ha hk).2.1, ((hTo.k hk (by decide)).eI hEs21 (by decide) rfl).trans (fr18 a ha hk).2.2⟩
            refine lv_lstore_n (lv' := [(2, .long x20), (4, .int k), (0, .ref this), (1, .int x)]) hx hb dX5_bestThreshold_56 rfl hl (by decide) rfl (fun ls hl => ?_)
            obtain ⟨t23, qt23⟩ : ∃ zz9 : Int32, k + Int32.ofInt 1 = zz9 := ⟨_, rfl⟩
            refine lv_iinc (v := t23) (lv' := [(4, .int t23), (2, .long x20), (0, .ref this), (1, .int x)]) hx hb dX5_bestThreshold_57 hl (k := 1) rfl qt23 (by decide) rfl (fun ls hl => ?_)
            have ht23 : t23.toInt = k.toInt + 1 := by rw [← qt23]; exact v_addi rfl (show (Int32.ofInt 1).toInt = 1 from by decide) (by omega) (by omega)
            refine lv_goto (tgt := 15) hx hb dX5_bestThreshold_60 (by decide) ?_
            exact ih15 x20 t23 _ _ _ _ hT  (by omega) (by omega) fr22 (lv_sub hl [1, 0, 2, 3] rfl) (by omega)
          · have c6 := gi_ne c9
            refine lv_lload_n hx hb dX5_bestThreshold_45 rfl (lv_at hl 0 rfl) ?_
            refine lv_l2i hx hb dX5_bestThreshold_46 rfl ?_
            refine lv_topi (fun t24 ht24 => ?_)
            subst hQ9
            exact vx_ret (t_i hx hb hr hlocks hT (by rw [etr]; exact fr18) dX5_bestThreshold_47)
  exact loop15 ((47 - (0 : Int32).toInt).toNat + 1) 1000 0 _ _ _ _ hT  (by omega) (by omega) fr3 (lv_sub hl [1, 0, 2, 3] rfl) (by omega)
set_option maxHeartbeats 4000000 in
set_option maxRecDepth 100000 in
theorem X5t_beginTrial (l : Launch) (κ : Kt) (σ0 : Gh) (this : Nat) (x : Int32) (z : Int32) (t_this : zk σ0 this 7) : TC l yX5_beginTrial cX5_beginTrial 3 none 4 110 [.ref this, .int x, .int z] κ σ0 (tqv κ fCp σ0 (fun (τ : Gh) => (∀ a : Nat, a ≠ (kR κ this 4) → zk σ0 a 3 → zI τ a 7 = zI σ0 a 7 ∧ zI τ a 8 = zI σ0 a 8 ∧ zI τ a 9 = zI σ0 a 9))) := by
  refine TC.of fCp (by decide +kernel) (Nat.le_of_ble_eq_true rfl) ?_
  intro p e s m below meth c ls hcs hK hX hT hl
  obtain ⟨hx, hb, hr, hml, hown, hg, hlocks, hin⟩ := hcs
  have hown : s.vm.findClass RX5 = some m.cls := hown
  have hl : lv_has ls 3 [(0, .ref this), (1, .int x), (2, .int z)] := hl
  have hT0 := hT
  have x_lo := Int32.le_toInt x
  have x_hi := Int32.toInt_lt x
  have z_lo := Int32.le_toInt z
  have z_hi := Int32.toInt_lt z
  generalize hQ9 : tQ _ _ _ _ _ _ = Q9
  obtain ⟨nw, enw⟩ : ∃ z, kR κ this 3 = z := ⟨_, rfl⟩
  have tnw : zk σ0 nw 3 := by rw [← enw]; exact hT0.ref t_this (by decide) (by decide) (by decide)
  obtain ⟨tr, etr⟩ : ∃ z, kR κ this 4 = z := ⟨_, rfl⟩
  have ttr : zk σ0 tr 3 := by rw [← etr]; exact hT0.ref t_this (by decide) (by decide) (by decide)
  refine lv_aload_n hx hb dX5_beginTrial_0 rfl (lv_at hl 0 rfl) ?_
  refine va_get (D := κ.1) (ci := 5) (v := .ref (kR κ this 4)) (C := RX5) (T := TX5) (N := 10) hx hb hg inX5 hown hK (hT.o7 (hT.k t_this (by decide))).one 0 rfl rfl 4 (by decide) (hg _ k383) (fun _ h9 => h9) rfl dX5_beginTrial_1 ?_
  rw [etr]
  have hTo := hT
  refine tVv (n := 0) (As := []) (rest := []) hx hb hml hown hg hT hK hX (X1_begin l κ σ0 tr  (hT.k ttr (by decide)) ) sub_fBe_fCp (mwV k332 k333 k334 k87 k335) ⟨rfl, by decide, by decide, by decide +kernel⟩ ⟨(Nat.le_of_ble_eq_true rfl), (Nat.le_of_ble_eq_true rfl)⟩ (hT.o3 (hT.k ttr (by decide))) rfl rfl hl.1 rfl (Nat.le_of_ble_eq_true rfl) dX5_beginTrial_4 zroom.rf (fun s2 H locs hφ hEs2 hT => ?_)
  have fr3 : ∀ a : Nat, a ≠ tr → zk σ0 a 3 → zI s2 a 7 = zI σ0 a 7 ∧ zI s2 a 8 = zI σ0 a 8 ∧ zI s2 a 9 = zI σ0 a 9 := fun a ha hk => ⟨((hTo.k hk (by decide)).eI hEs2 (by decide) rfl).trans ((show ∀ a : Nat, a ≠ tr → zk σ0 a 3 → zI σ0 a 7 = zI σ0 a 7 ∧ zI σ0 a 8 = zI σ0 a 8 ∧ zI σ0 a 9 = zI σ0 a 9 from fun _ _ _ => ⟨rfl, rfl, rfl⟩) a ha hk).1, ((hTo.k hk (by decide)).eI hEs2 (by decide) rfl).trans ((show ∀ a : Nat, a ≠ tr → zk σ0 a 3 → zI σ0 a 7 = zI σ0 a 7 ∧ zI σ0 a 8 = zI σ0 a 8 ∧ zI σ0 a 9 = zI σ0 a 9 from fun _ _ _ => ⟨rfl, rfl, rfl⟩) a ha hk).2.1, ((hTo.k hk (by decide)).eI hEs2 (by decide) rfl).trans ((show ∀ a : Nat, a ≠ tr → zk σ0 a 3 → zI σ0 a 7 = zI σ0 a 7 ∧ zI σ0 a 8 = zI σ0 a 8 ∧ zI σ0 a 9 = zI σ0 a 9 from fun _ _ _ => ⟨rfl, rfl, rfl⟩) a ha hk).2.2⟩
  refine lv_aload_n hx hb dX5_beginTrial_7 rfl (lv_at hl 0 rfl) ?_
  refine va_get (D := κ.1) (ci := 5) (v := .ref (kR κ this 4)) (C := RX5) (T := TX5) (N := 10) hx hb hg inX5 hown hK (hT.o7 (hT.k t_this (by decide))).one 0 rfl rfl 4 (by decide) (hg _ k383) (fun _ h9 => h9) rfl dX5_beginTrial_8 ?_
  rw [etr]
  refine lv_iload_n hx hb dX5_beginTrial_11 rfl (lv_at hl 1 rfl) ?_
  have hTo := hT
  refine pf3_7 hx hb hg hown hK hT (hT.k ttr (by decide)) rfl (hg _ k292) dX5_beginTrial_12 (fun H locs s4 hus4 hT => ?_)
  have fr5 : ∀ a : Nat, a ≠ tr → zk σ0 a 3 → zI s4 a 7 = zI σ0 a 7 ∧ zI s4 a 8 = zI σ0 a 8 ∧ zI s4 a 9 = zI σ0 a 9 := fun a ha hk => ⟨(zput_o hus4 (Or.inl ha)).trans (fr3 a ha hk).1, (zput_o hus4 (Or.inl ha)).trans (fr3 a ha hk).2.1, (zput_o hus4 (Or.inl ha)).trans (fr3 a ha hk).2.2⟩
  have e6 : zI s4 tr 7 = x := zput_at hus4
  refine lv_aload_n hx hb dX5_beginTrial_15 rfl (lv_at hl 0 rfl) ?_
  refine va_get (D := κ.1) (ci := 5) (v := .ref (kR κ this 4)) (C := RX5) (T := TX5) (N := 10) hx hb hg inX5 hown hK (hT.o7 (hT.k t_this (by decide))).one 0 rfl rfl 4 (by decide) (hg _ k383) (fun _ h9 => h9) rfl dX5_beginTrial_16 ?_
  rw [etr]
  refine lv_iload_n hx hb dX5_beginTrial_19 rfl (lv_at hl 2 rfl) ?_
  have hTo := hT
  refine pf3_8 hx hb hg hown hK hT (hT.k ttr (by decide)) rfl (hg _ k294) dX5_beginTrial_20 (fun H locs s7 hus7 hT => ?_)
  have e6 : zI s7 tr 7 = x := (zput_o hus7 (Or.inr (by decide))).trans e6
  have fr8 : ∀ a : Nat, a ≠ tr → zk σ0 a 3 → zI s7 a 7 = zI σ0 a 7 ∧ zI s7 a 8 = zI σ0 a 8 ∧ zI s7 a 9 = zI σ0 a 9 := fun a ha hk => ⟨(zput_o hus7 (Or.inl ha)).trans (fr5 a ha hk).1, (zput_o hus7 (Or.inl ha)).trans (fr5 a ha hk).2.1, (zput_o hus7 (Or.inl ha)).trans (fr5 a ha hk).2.2⟩
  have e9 : zI s7 tr 8 = z := zput_at hus7
  refine lv_aload_n hx hb dX5_beginTrial_23 rfl (lv_at hl 0 rfl) ?_
  refine va_get (D := κ.1) (ci := 5) (v := .ref (kR κ this 4)) (C := RX5) (T := TX5) (N := 10) hx hb hg inX5 hown hK (hT.o7 (hT.k t_this (by decide))).one 0 rfl rfl 4 (by decide) (hg _ k383) (fun _ h9 => h9) rfl dX5_beginTrial_24 ?_
  rw [etr]
  refine lv_aload_n hx hb dX5_beginTrial_27 rfl (lv_at hl 0 rfl) ?_
  refine va_get (D := κ.1) (ci := 5) (v := .ref (kR κ this 3)) (C := RX5) (T := TX5) (N := 10) hx hb hg inX5 hown hK (hT.o7 (hT.k t_this (by decide))).one 0 rfl rfl 3 (by decide) (hg _ k382) (fun _ h9 => h9) rfl dX5_beginTrial_28 ?_
  rw [enw]
  obtain ⟨v10, ev10⟩ : ∃ zz9 : Int32, zI s7 nw 9 = zz9 := ⟨_, rfl⟩
  have qv10 : v10.toInt = (zI s7 nw 9).toInt := by rw [ev10]
  have b11 : isB v10 := by have q9 := (hT.P (hT.k tnw (by decide)) (by decide)).2; rw [ev10] at q9; exact q9
  refine va_get (D := κ.1) (ci := 1) (v := .int (zI s7 nw 9)) (C := RX1) (T := TX1) (N := 13) hx hb hg inX1 hown hK (hT.o3 (hT.k tnw (by decide))).one 0 rfl rfl 9 (by decide) (hg _ k296) (fun _ h9 => h9) rfl dX5_beginTrial_31 ?_
  rw [ev10]
  have hTo := hT
  refine pf3_9 hx hb hg hown hK hT (hT.k ttr (by decide)) rfl b11 (hg _ k296) dX5_beginTrial_34 (fun H locs s12 hus12 hT => ?_)
  have e6 : zI s12 tr 7 = x := (zput_o hus12 (Or.inr (by decide))).trans e6
  have e9 : zI s12 tr 8 = z := (zput_o hus12 (Or.inr (by decide))).trans e9
  have fr13 : ∀ a : Nat, a ≠ tr → zk σ0 a 3 → zI s12 a 7 = zI σ0 a 7 ∧ zI s12 a 8 = zI σ0 a 8 ∧ zI s12 a 9 = zI σ0 a 9 := fun a ha hk => ⟨(zput_o hus12 (Or.inl ha)).trans (fr8 a ha hk).1, (zput_o hus12 (Or.inl ha)).trans (fr8 a ha hk).2.1, (zput_o hus12 (Or.inl ha)).trans (fr8 a ha hk).2.2⟩
  have e14 : zI s12 tr 9 = v10 := zput_at hus12
  subst hQ9
  exact t_v hx hb hr hlocks hT (by rw [etr]; exact fr13) dX5_beginTrial_37
set_option maxHeartbeats 4000000 in
set_option maxRecDepth 100000 in
theorem X5t_bitsBy (l : Launch) (κ : Kt) (σ0 : Gh) (this : Nat) (x : Int32) (z : Int32) (t_this : zk σ0 this 7) (hlt : l.stackTraces = false) : TX l yX5_bitsBy cX5_bitsBy 3 (some .int) 7 187 [.ref this, .int x, .int z] κ σ0 (tqi κ fCp σ0 (fun (r : Int32) (τ : Gh) => (∀ a : Nat, a ≠ (kR κ this 4) → zk σ0 a 3 → zI τ a 7 = zI σ0 a 7 ∧ zI τ a 8 = zI σ0 a 8 ∧ zI τ a 9 = zI σ0 a 9))) (txq κ fCp σ0 (fun (E : String) (τ : Gh) => E = "java/lang/IllegalArgumentException" ∧ ∀ a : Nat, zk σ0 a 3 → zI τ a 7 = zI σ0 a 7 ∧ zI τ a 8 = zI σ0 a 8 ∧ zI τ a 9 = zI σ0 a 9)) := by
  refine TX.of fCp (by decide +kernel) (Nat.le_of_ble_eq_true rfl) ?_
  intro p e s m below meth c ls hcs hout hK hX hT hl
  obtain ⟨hx, hb, hr, hml, hown, hg, hlocks, hin⟩ := hcs
  have hown : s.vm.findClass RX5 = some m.cls := hown
  have hl : lv_has ls 3 [(0, .ref this), (1, .int x), (2, .int z)] := hl
  have hT0 := hT
  have n0 : (0 : Int32).toInt = 0 := by decide
  have n2 : (2 : Int32).toInt = 2 := by decide
  have n46 : (46 : Int32).toInt = 46 := by decide
  have x_lo := Int32.le_toInt x
  have x_hi := Int32.toInt_lt x
  have z_lo := Int32.le_toInt z
  have z_hi := Int32.toInt_lt z
  generalize hQ9 : tQX _ _ _ _ _ _ _ = Q9
  obtain ⟨nw, enw⟩ : ∃ z, kR κ this 3 = z := ⟨_, rfl⟩
  have tnw : zk σ0 nw 3 := by rw [← enw]; exact hT0.ref t_this (by decide) (by decide) (by decide)
  obtain ⟨tr, etr⟩ : ∃ z, kR κ this 4 = z := ⟨_, rfl⟩
  have ttr : zk σ0 tr 3 := by rw [← etr]; exact hT0.ref t_this (by decide) (by decide) (by decide)
  refine lv_iload_n hx hb dX5_bitsBy_0 rfl (lv_at hl 1 rfl) ?_
  refine lv_iconst (v := 0) hx hb dX5_bitsBy_1 (by decide) ?_
  refine lv_iconst (v := 2) hx hb dX5_bitsBy_2 (by decide) ?_
  have hTo := hT
  refine xtSv (n := 3) (As := [.int x, .int 0, .int 2]) (rest := []) hx hb hml hown hg hT hK hX (X5_needRange l κ σ0 x 0 2    hlt) sub_fE_fCp (mwS k909 k910 k84 k911) ⟨rfl, by decide, by decide, by decide +kernel⟩ ⟨(Nat.le_of_ble_eq_true rfl), (Nat.le_of_ble_eq_true rfl)⟩ rfl hl.1 rfl (Nat.le_of_ble_eq_true rfl) dX5_bitsBy_3 zroomX.rf (fun E9 ce9 q9 τ9 H9 locs9 hp9 hE9 hT9 hce9 hcv9 hcl9 => by subst hQ9; exact tx_out hT9 ⟨hp9.1, fun a hk => ⟨hk.eI hE9 (by decide) rfl, hk.eI hE9 (by decide) rfl, hk.eI hE9 (by decide) rfl⟩⟩ hout hlocks hce9 hcv9 hcl9) (fun s2 H locs hφ hEs2 hT => ?_)
  have fr3 : ∀ a : Nat, a ≠ tr → zk σ0 a 3 → zI s2 a 7 = zI σ0 a 7 ∧ zI s2 a 8 = zI σ0 a 8 ∧ zI s2 a 9 = zI σ0 a 9 := fun a ha hk => ⟨((hTo.k hk (by decide)).eI hEs2 (by decide) rfl).trans ((show ∀ a : Nat, a ≠ tr → zk σ0 a 3 → zI σ0 a 7 = zI σ0 a 7 ∧ zI σ0 a 8 = zI σ0 a 8 ∧ zI σ0 a 9 = zI σ0 a 9 from fun _ _ _ => ⟨rfl, rfl, rfl⟩) a ha hk).1, ((hTo.k hk (by decide)).eI hEs2 (by decide) rfl).trans ((show ∀ a : Nat, a ≠ tr → zk σ0 a 3 → zI σ0 a 7 = zI σ0 a 7 ∧ zI σ0 a 8 = zI σ0 a 8 ∧ zI σ0 a 9 = zI σ0 a 9 from fun _ _ _ => ⟨rfl, rfl, rfl⟩) a ha hk).2.1, ((hTo.k hk (by decide)).eI hEs2 (by decide) rfl).trans ((show ∀ a : Nat, a ≠ tr → zk σ0 a 3 → zI σ0 a 7 = zI σ0 a 7 ∧ zI σ0 a 8 = zI σ0 a 8 ∧ zI σ0 a 9 = zI σ0 a 9 from fun _ _ _ => ⟨rfl, rfl, rfl⟩) a ha hk).2.2⟩
  obtain ⟨f4, f5⟩ := hφ
  refine lv_iload_n hx hb dX5_bitsBy_6 rfl (lv_at hl 2 rfl) ?_
  refine lv_iconst (v := 0) hx hb dX5_bitsBy_7 (by decide) ?_
  refine lv_iconst (v := 2) hx hb dX5_bitsBy_8 (by decide) ?_
  have hTo := hT
  refine xtSv (n := 3) (As := [.int z, .int 0, .int 2]) (rest := []) hx hb hml hown hg hT hK hX (X5_needRange l κ s2 z 0 2    hlt) sub_fE_fCp (mwS k909 k910 k84 k911) ⟨rfl, by decide, by decide, by decide +kernel⟩ ⟨(Nat.le_of_ble_eq_true rfl), (Nat.le_of_ble_eq_true rfl)⟩ rfl hl.1 rfl (Nat.le_of_ble_eq_true rfl) dX5_bitsBy_9 zroomX.rf (fun E9 ce9 q9 τ9 H9 locs9 hp9 hE9 hT9 hce9 hcv9 hcl9 => by subst hQ9; exact tx_out hT9 ⟨hp9.1, fun a hk => ⟨((hTo.k hk (by decide)).eI hE9 (by decide) rfl).trans (hk.eI hEs2 (by decide) rfl), ((hTo.k hk (by decide)).eI hE9 (by decide) rfl).trans (hk.eI hEs2 (by decide) rfl), ((hTo.k hk (by decide)).eI hE9 (by decide) rfl).trans (hk.eI hEs2 (by decide) rfl)⟩⟩ hout hlocks hce9 hcv9 hcl9) (fun s7 H locs hφ hEs7 hT => ?_)
  have fr8 : ∀ a : Nat, a ≠ tr → zk σ0 a 3 → zI s7 a 7 = zI σ0 a 7 ∧ zI s7 a 8 = zI σ0 a 8 ∧ zI s7 a 9 = zI σ0 a 9 := fun a ha hk => ⟨((hTo.k hk (by decide)).eI hEs7 (by decide) rfl).trans (fr3 a ha hk).1, ((hTo.k hk (by decide)).eI hEs7 (by decide) rfl).trans (fr3 a ha hk).2.1, ((hTo.k hk (by decide)).eI hEs7 (by decide) rfl).trans (fr3 a ha hk).2.2⟩
  obtain ⟨f9, f10⟩ := hφ
  refine lv_aload_n hx hb dX5_bitsBy_12 rfl (lv_at hl 0 rfl) ?_
  refine lv_iload_n hx hb dX5_bitsBy_13 rfl (lv_at hl 1 rfl) ?_
  refine lv_iload_n hx hb dX5_bitsBy_14 rfl (lv_at hl 2 rfl) ?_
  have hTo := hT
  refine tVv (n := 2) (As := [.int x, .int z]) (rest := []) hx hb hml hown hg hT hK hX (X5t_beginTrial l κ s7 this x z  (hT.k t_this (by decide)) ) (fun _ _ h => h) (mwV k522 k524 k8 k84 k525) ⟨rfl, by decide, by decide, by decide +kernel⟩ ⟨(Nat.le_of_ble_eq_true rfl), (Nat.le_of_ble_eq_true rfl)⟩ (hT.o7 (hT.k t_this (by decide))) rfl rfl hl.1 rfl (Nat.le_of_ble_eq_true rfl) dX5_bitsBy_15 zroom.up (fun s12 H locs hφ hEs12 hT => ?_)
  have f13 := hφ
  try rw [etr] at f13
  try rw [enw] at f13
  have fr14 : ∀ a : Nat, a ≠ tr → zk σ0 a 3 → zI s12 a 7 = zI σ0 a 7 ∧ zI s12 a 8 = zI σ0 a 8 ∧ zI s12 a 9 = zI σ0 a 9 := fun a ha hk => ⟨(f13 a ha (hTo.k hk (by decide))).1.trans (fr8 a ha hk).1, (f13 a ha (hTo.k hk (by decide))).2.1.trans (fr8 a ha hk).2.1, (f13 a ha (hTo.k hk (by decide))).2.2.trans (fr8 a ha hk).2.2⟩
  refine lv_aload_n hx hb dX5_bitsBy_18 rfl (lv_at hl 0 rfl) ?_
  refine va_get (D := κ.1) (ci := 5) (v := .ref (kR κ this 4)) (C := RX5) (T := TX5) (N := 10) hx hb hg inX5 hown hK (hT.o7 (hT.k t_this (by decide))).one 0 rfl rfl 4 (by decide) (hg _ k383) (fun _ h9 => h9) rfl dX5_bitsBy_19 ?_
  rw [etr]
  refine lv_bipush (v := 46) hx hb dX5_bitsBy_22 (by decide) ?_
  have hTo := hT
  refine tVi (n := 1) (As := [.int 46]) (rest := []) hx hb hml hown hg hT hK hX (X1_liftChosen l κ s12 tr 46  (hT.k ttr (by decide)) (by omega) (by omega)) sub_fLi_fCp (mwV k526 k527 k528 k87 k529) ⟨rfl, by decide, by decide, by decide +kernel⟩ ⟨(Nat.le_of_ble_eq_true rfl), (Nat.le_of_ble_eq_true rfl)⟩ (hT.o3 (hT.k ttr (by decide))) rfl rfl hl.1 rfl (Nat.le_of_ble_eq_true rfl) dX5_bitsBy_24 zroom.up (fun x15 s16 H locs hφ hEs16 hT => ?_)
  have fr17 : ∀ a : Nat, a ≠ tr → zk σ0 a 3 → zI s16 a 7 = zI σ0 a 7 ∧ zI s16 a 8 = zI σ0 a 8 ∧ zI s16 a 9 = zI σ0 a 9 := fun a ha hk => ⟨((hTo.k hk (by decide)).eI hEs16 (by decide) rfl).trans (fr14 a ha hk).1, ((hTo.k hk (by decide)).eI hEs16 (by decide) rfl).trans (fr14 a ha hk).2.1, ((hTo.k hk (by decide)).eI hEs16 (by decide) rfl).trans (fr14 a ha hk).2.2⟩
  refine lv_pop hx hb dX5_bitsBy_27 rfl ?_
  refine lv_aload_n hx hb dX5_bitsBy_28 rfl (lv_at hl 0 rfl) ?_
  refine va_get (D := κ.1) (ci := 5) (v := .ref (kR κ this 4)) (C := RX5) (T := TX5) (N := 10) hx hb hg inX5 hown hK (hT.o7 (hT.k t_this (by decide))).one 0 rfl rfl 4 (by decide) (hg _ k383) (fun _ h9 => h9) rfl dX5_bitsBy_29 ?_
  rw [etr]
  have hTo := hT
  refine tVi (n := 0) (As := []) (rest := []) hx hb hml hown hg hT hK hX (X1_bitsOfDetails l κ s16 tr  (hT.k ttr (by decide)) ) sub_fE_fCp (mwV k505 k506 k507 k87 k508) ⟨rfl, by decide, by decide, by decide +kernel⟩ ⟨(Nat.le_of_ble_eq_true rfl), (Nat.le_of_ble_eq_true rfl)⟩ (hT.o3 (hT.k ttr (by decide))) rfl rfl hl.1 rfl (Nat.le_of_ble_eq_true rfl) dX5_bitsBy_32 zroom.up (fun x18 s19 H locs hφ hEs19 hT => ?_)
  have fr20 : ∀ a : Nat, a ≠ tr → zk σ0 a 3 → zI s19 a 7 = zI σ0 a 7 ∧ zI s19 a 8 = zI σ0 a 8 ∧ zI s19 a 9 = zI σ0 a 9 := fun a ha hk => ⟨((hTo.k hk (by decide)).eI hEs19 (by decide) rfl).trans (fr17 a ha hk).1, ((hTo.k hk (by decide)).eI hEs19 (by decide) rfl).trans (fr17 a ha hk).2.1, ((hTo.k hk (by decide)).eI hEs19 (by decide) rfl).trans (fr17 a ha hk).2.2⟩
  subst hQ9
  exact vx_ret (t_i hx hb hr hlocks hT (by rw [etr]; exact fr20) dX5_bitsBy_35)
set_option maxHeartbeats 4000000 in
set_option maxRecDepth 100000 in
theorem X5t_bestScheme (l : Launch) (κ : Kt) (σ0 : Gh) (this : Nat) (t_this : zk σ0 this 7) : TC l yX5_bestScheme cX5_bestScheme 5 (some .int) 7 187 [.ref this] κ σ0 (tqi κ fCp σ0 (fun (r : Int32) (τ : Gh) => (∀ a : Nat, a ≠ (kR κ this 4) → zk σ0 a 3 → zI τ a 7 = zI σ0 a 7 ∧ zI τ a 8 = zI σ0 a 8 ∧ zI τ a 9 = zI σ0 a 9))) := by
  refine TC.of fCp (by decide +kernel) (Nat.le_of_ble_eq_true rfl) ?_
  intro p e s m below meth c ls hcs hK hX hT hl
  obtain ⟨hx, hb, hr, hml, hown, hg, hlocks, hin⟩ := hcs
  have hown : s.vm.findClass RX5 = some m.cls := hown
  have hl : lv_has ls 5 [(0, .ref this)] := hl
  have hT0 := hT
  have n0 : (0 : Int32).toInt = 0 := by decide
  have n3 : (3 : Int32).toInt = 3 := by decide
  have n9 : (9 : Int32).toInt = 9 := by decide
  have n46 : (46 : Int32).toInt = 46 := by decide
  generalize hQ9 : tQ _ _ _ _ _ _ = Q9
  obtain ⟨nw, enw⟩ : ∃ z, kR κ this 3 = z := ⟨_, rfl⟩
  have tnw : zk σ0 nw 3 := by rw [← enw]; exact hT0.ref t_this (by decide) (by decide) (by decide)
  obtain ⟨tr, etr⟩ : ∃ z, kR κ this 4 = z := ⟨_, rfl⟩
  have ttr : zk σ0 tr 3 := by rw [← etr]; exact hT0.ref t_this (by decide) (by decide) (by decide)
  refine lv_iconst (v := 0) hx hb dX5_bestScheme_0 (by decide) ?_
  refine lv_istore_n (lv' := [(1, .int 0), (0, .ref this)]) hx hb dX5_bestScheme_1 rfl hl (by decide) rfl (fun ls hl => ?_)
  refine lv_iconst (v := 0) hx hb dX5_bestScheme_2 (by decide) ?_
  refine lv_istore_n (lv' := [(2, .int 0), (1, .int 0), (0, .ref this)]) hx hb dX5_bestScheme_3 rfl hl (by decide) rfl (fun ls hl => ?_)
  refine lv_iconst (v := 0) hx hb dX5_bestScheme_4 (by decide) ?_
  refine lv_istore_n (lv' := [(3, .int 0), (2, .int 0), (1, .int 0), (0, .ref this)]) hx hb dX5_bestScheme_5 rfl hl (by decide) rfl (fun ls hl => ?_)
  have loop6 : ∀ (n9 : Nat) (be : Int32) (fe : Int32) (k : Int32) (H : Heap) (locs : List Loc) (sg : Gh) (ls : Array Slot), TS κ fCp σ0 sg s H locs → (0 ≤ k.toInt) → (k.toInt ≤ 9) → (∀ a : Nat, a ≠ tr → zk σ0 a 3 → zI sg a 7 = zI σ0 a 7 ∧ zI sg a 8 = zI σ0 a 8 ∧ zI sg a 9 = zI σ0 a 9) → lv_has ls 5 [(1, .int be), (2, .int fe), (3, .int k), (0, .ref this)] → (9 - k.toInt) < n9 → tW p l e 7 187 κ s m #[.ref this] below meth c H locs Q9 (F0 m 6 ls []) := by
    intro n9
    induction n9 with
    | zero =>
      intro be fe k H locs sg ls hT q2 q3 FR hl hm9
      exfalso
      omega
    | succ n9 ih9 =>
      have ih6 := ih9
      clear ih9
      intro be fe k H locs s1 ls hT q2 q3 FR hl hm9
      refine lv_iload_n hx hb dX5_bestScheme_6 rfl (lv_at hl 2 rfl) ?_
      refine lv_bipush (v := 9) hx hb dX5_bestScheme_7 (by decide) ?_
      refine lv_icmp_ge (tgt := 62) hx hb dX5_bestScheme_9 (by decide) (fun c9 => ?_) (fun c9 => ?_)
      · have c1 := gi_le c9
        refine lv_iload_n hx hb dX5_bestScheme_62 rfl (lv_at hl 0 rfl) ?_
        subst hQ9
        exact t_i hx hb hr hlocks hT (by rw [etr]; exact FR) dX5_bestScheme_63
      · have c2 := gi_nle c9
        refine lv_aload_n hx hb dX5_bestScheme_12 rfl (lv_at hl 3 rfl) ?_
        refine lv_iload_n hx hb dX5_bestScheme_13 rfl (lv_at hl 2 rfl) ?_
        refine lv_iconst (v := 3) hx hb dX5_bestScheme_14 (by decide) ?_
        refine lv_idiv hx hb dX5_bestScheme_15 (by decide) ?_
        first | refine g_div (k := 3) n3 (by decide) (by omega) (fun t2 ht2 => ?_) | refine lv_topi (fun t2 ht2 => ?_)
        refine lv_iload_n hx hb dX5_bestScheme_16 rfl (lv_at hl 2 rfl) ?_
        refine lv_iconst (v := 3) hx hb dX5_bestScheme_17 (by decide) ?_
        refine lv_irem hx hb dX5_bestScheme_18 (by decide) ?_
        refine lv_topi (fun t3 ht3 => ?_)
        have hTo := hT
        refine tVv (n := 2) (As := [.int t2, .int t3]) (rest := []) hx hb hml hown hg hT hK hX (X5t_beginTrial l κ s1 this t2 t3  (hT.k t_this (by decide)) ) (fun _ _ h => h) (mwV k522 k524 k8 k84 k525) ⟨rfl, by decide, by decide, by decide +kernel⟩ ⟨(Nat.le_of_ble_eq_true rfl), (Nat.le_of_ble_eq_true rfl)⟩ (hT.o7 (hT.k t_this (by decide))) rfl rfl hl.1 rfl (Nat.le_of_ble_eq_true rfl) dX5_bestScheme_19 zroom.rf (fun s5 H locs hφ hEs5 hT => ?_)
        have f6 := hφ
        try rw [etr] at f6
        try rw [enw] at f6
        have fr7 : ∀ a : Nat, a ≠ tr → zk σ0 a 3 → zI s5 a 7 = zI σ0 a 7 ∧ zI s5 a 8 = zI σ0 a 8 ∧ zI s5 a 9 = zI σ0 a 9 := fun a ha hk => ⟨(f6 a ha (hTo.k hk (by decide))).1.trans (FR a ha hk).1, (f6 a ha (hTo.k hk (by decide))).2.1.trans (FR a ha hk).2.1, (f6 a ha (hTo.k hk (by decide))).2.2.trans (FR a ha hk).2.2⟩
        refine lv_aload_n hx hb dX5_bestScheme_22 rfl (lv_at hl 3 rfl) ?_
        refine va_get (D := κ.1) (ci := 5) (v := .ref (kR κ this 4)) (C := RX5) (T := TX5) (N := 10) hx hb hg inX5 hown hK (hT.o7 (hT.k t_this (by decide))).one 0 rfl rfl 4 (by decide) (hg _ k383) (fun _ h9 => h9) rfl dX5_bestScheme_23 ?_
        rw [etr]
        refine lv_bipush (v := 46) hx hb dX5_bestScheme_26 (by decide) ?_
        have hTo := hT
        refine tVi (n := 1) (As := [.int 46]) (rest := []) hx hb hml hown hg hT hK hX (X1_liftChosen l κ s5 tr 46  (hT.k ttr (by decide)) (by omega) (by omega)) sub_fLi_fCp (mwV k526 k527 k528 k87 k529) ⟨rfl, by decide, by decide, by decide +kernel⟩ ⟨(Nat.le_of_ble_eq_true rfl), (Nat.le_of_ble_eq_true rfl)⟩ (hT.o3 (hT.k ttr (by decide))) rfl rfl hl.1 rfl (Nat.le_of_ble_eq_true rfl) dX5_bestScheme_28 zroom.rf (fun x8 s9 H locs hφ hEs9 hT => ?_)
        have fr10 : ∀ a : Nat, a ≠ tr → zk σ0 a 3 → zI s9 a 7 = zI σ0 a 7 ∧ zI s9 a 8 = zI σ0 a 8 ∧ zI s9 a 9 = zI σ0 a 9 := fun a ha hk => ⟨((hTo.k hk (by decide)).eI hEs9 (by decide) rfl).trans (fr7 a ha hk).1, ((hTo.k hk (by decide)).eI hEs9 (by decide) rfl).trans (fr7 a ha hk).2.1, ((hTo.k hk (by decide)).eI hEs9 (by decide) rfl).trans (fr7 a ha hk).2.2⟩
        refine lv_pop hx hb dX5_bestScheme_31 rfl ?_
        refine lv_aload_n hx hb dX5_bestScheme_32 rfl (lv_at hl 3 rfl) ?_
        refine va_get (D := κ.1) (ci := 5) (v := .ref (kR κ this 4)) (C := RX5) (T := TX5) (N := 10) hx hb hg inX5 hown hK (hT.o7 (hT.k t_this (by decide))).one 0 rfl rfl 4 (by decide) (hg _ k383) (fun _ h9 => h9) rfl dX5_bestScheme_33 ?_
        rw [etr]
        have hTo := hT
        refine tVi (n := 0) (As := []) (rest := []) hx hb hml hown hg hT hK hX (X1_bitsOfDetails l κ s9 tr  (hT.k ttr (by decide)) ) sub_fE_fCp (mwV k505 k506 k507 k87 k508) ⟨rfl, by decide, by decide, by decide +kernel⟩ ⟨(Nat.le_of_ble_eq_true rfl), (Nat.le_of_ble_eq_true rfl)⟩ (hT.o3 (hT.k ttr (by decide))) rfl rfl hl.1 rfl (Nat.le_of_ble_eq_true rfl) dX5_bestScheme_36 zroom.rf (fun x11 s12 H locs hφ hEs12 hT => ?_)
        have fr13 : ∀ a : Nat, a ≠ tr → zk σ0 a 3 → zI s12 a 7 = zI σ0 a 7 ∧ zI s12 a 8 = zI σ0 a 8 ∧ zI s12 a 9 = zI σ0 a 9 := fun a ha hk => ⟨((hTo.k hk (by decide)).eI hEs12 (by decide) rfl).trans (fr10 a ha hk).1, ((hTo.k hk (by decide)).eI hEs12 (by decide) rfl).trans (fr10 a ha hk).2.1, ((hTo.k hk (by decide)).eI hEs12 (by decide) rfl).trans (fr10 a ha hk).2.2⟩
        refine lv_istore (lv' := [(4, .int x11), (1, .int be), (2, .int fe), (3, .int k), (0, .ref this)]) hx hb dX5_bestScheme_39 hl (by decide) rfl (fun ls hl => ?_)
        refine lv_iload_n hx hb dX5_bestScheme_41 rfl (lv_at hl 3 rfl) ?_
        refine lv_if_eq (tgt := 51) hx hb dX5_bestScheme_42 (by decide) (fun c9 => ?_) (fun c9 => ?_)
        · have c3 := gi_eq c9
          refine lv_iload_n hx hb dX5_bestScheme_51 rfl (lv_at hl 3 rfl) ?_
          refine lv_istore_n (lv' := [(1, .int k), (4, .int x11), (2, .int fe), (3, .int k), (0, .ref this)]) hx hb dX5_bestScheme_52 rfl hl (by decide) rfl (fun ls hl => ?_)
          refine lv_iload hx hb dX5_bestScheme_53 (lv_at hl 1 rfl) ?_
          refine lv_istore_n (lv' := [(2, .int x11), (1, .int k), (4, .int x11), (3, .int k), (0, .ref this)]) hx hb dX5_bestScheme_55 rfl hl (by decide) rfl (fun ls hl => ?_)
          obtain ⟨t14, qt14⟩ : ∃ zz9 : Int32, k + Int32.ofInt 1 = zz9 := ⟨_, rfl⟩
          refine lv_iinc (v := t14) (lv' := [(3, .int t14), (2, .int x11), (1, .int k), (4, .int x11), (0, .ref this)]) hx hb dX5_bestScheme_56 hl (k := 3) rfl qt14 (by decide) rfl (fun ls hl => ?_)
          have ht14 : t14.toInt = k.toInt + 1 := by rw [← qt14]; exact v_addi rfl (show (Int32.ofInt 1).toInt = 1 from by decide) (by omega) (by omega)
          refine lv_goto (tgt := 6) hx hb dX5_bestScheme_59 (by decide) ?_
          exact ih6 k x11 t14 _ _ _ _ hT  (by omega) (by omega) fr13 (lv_sub hl [2, 1, 0, 4] rfl) (by omega)
        · have c4 := gi_ne c9
          refine lv_iload hx hb dX5_bestScheme_45 (lv_at hl 0 rfl) ?_
          refine lv_iload_n hx hb dX5_bestScheme_47 rfl (lv_at hl 2 rfl) ?_
          refine lv_icmp_ge (tgt := 56) hx hb dX5_bestScheme_48 (by decide) (fun c9 => ?_) (fun c9 => ?_)
          · have c5 := gi_le c9
            obtain ⟨t15, qt15⟩ : ∃ zz9 : Int32, k + Int32.ofInt 1 = zz9 := ⟨_, rfl⟩
            refine lv_iinc (v := t15) (lv' := [(3, .int t15), (4, .int x11), (1, .int be), (2, .int fe), (0, .ref this)]) hx hb dX5_bestScheme_56 hl (k := 3) rfl qt15 (by decide) rfl (fun ls hl => ?_)
            have ht15 : t15.toInt = k.toInt + 1 := by rw [← qt15]; exact v_addi rfl (show (Int32.ofInt 1).toInt = 1 from by decide) (by omega) (by omega)
            refine lv_goto (tgt := 6) hx hb dX5_bestScheme_59 (by decide) ?_
            exact ih6 be fe t15 _ _ _ _ hT  (by omega) (by omega) fr13 (lv_sub hl [2, 3, 0, 4] rfl) (by omega)
          · have c6 := gi_nle c9
            refine lv_iload_n hx hb dX5_bestScheme_51 rfl (lv_at hl 3 rfl) ?_
            refine lv_istore_n (lv' := [(1, .int k), (4, .int x11), (2, .int fe), (3, .int k), (0, .ref this)]) hx hb dX5_bestScheme_52 rfl hl (by decide) rfl (fun ls hl => ?_)
            refine lv_iload hx hb dX5_bestScheme_53 (lv_at hl 1 rfl) ?_
            refine lv_istore_n (lv' := [(2, .int x11), (1, .int k), (4, .int x11), (3, .int k), (0, .ref this)]) hx hb dX5_bestScheme_55 rfl hl (by decide) rfl (fun ls hl => ?_)
            obtain ⟨t16, qt16⟩ : ∃ zz9 : Int32, k + Int32.ofInt 1 = zz9 := ⟨_, rfl⟩
            refine lv_iinc (v := t16) (lv' := [(3, .int t16), (2, .int x11), (1, .int k), (4, .int x11), (0, .ref this)]) hx hb dX5_bestScheme_56 hl (k := 3) rfl qt16 (by decide) rfl (fun ls hl => ?_)
            have ht16 : t16.toInt = k.toInt + 1 := by rw [← qt16]; exact v_addi rfl (show (Int32.ofInt 1).toInt = 1 from by decide) (by omega) (by omega)
            refine lv_goto (tgt := 6) hx hb dX5_bestScheme_59 (by decide) ?_
            exact ih6 k x11 t16 _ _ _ _ hT  (by omega) (by omega) fr13 (lv_sub hl [2, 1, 0, 4] rfl) (by omega)
  exact loop6 ((9 - (0 : Int32).toInt).toNat + 1) 0 0 0 _ _ _ _ hT  (by omega) (by omega) (fun a _ _ => ⟨rfl, rfl, rfl⟩) (lv_sub hl [2, 1, 0, 3] rfl) (by omega)
set_option maxHeartbeats 4000000 in
set_option maxRecDepth 100000 in
theorem X5t_setSplit (l : Launch) (κ : Kt) (σ0 : Gh) (this : Nat) (x : Int32) (t_this : zk σ0 this 7) (hlt : l.stackTraces = false) : TX l yX5_setSplit cX5_setSplit 3 (some .int) 7 112 [.ref this, .int x] κ σ0 (tqi κ fSet σ0 (fun (r : Int32) (τ : Gh) => (0 ≤ x.toInt) ∧ (x.toInt ≤ 2) ∧ (r = zI σ0 (kR κ this 3) 7) ∧ (zI τ (kR κ this 3) 7 = x) ∧ (zI τ (kR κ this 3) 8 = zI σ0 (kR κ this 3) 8) ∧ (zI τ (kR κ this 3) 9 = zI σ0 (kR κ this 3) 9) ∧ (∀ a : Nat, a ≠ (kR κ this 3) → zk σ0 a 3 → zI τ a 7 = zI σ0 a 7 ∧ zI τ a 8 = zI σ0 a 8 ∧ zI τ a 9 = zI σ0 a 9))) (txq κ fSet σ0 (fun (E : String) (τ : Gh) => E = "java/lang/IllegalArgumentException" ∧ (x.toInt < 0 ∨ 2 < x.toInt) ∧ ∀ a : Nat, zk σ0 a 3 → zI τ a 7 = zI σ0 a 7 ∧ zI τ a 8 = zI σ0 a 8 ∧ zI τ a 9 = zI σ0 a 9)) := by
  refine TX.of fSet (by decide +kernel) (Nat.le_of_ble_eq_true rfl) ?_
  intro p e s m below meth c ls hcs hout hK hX hT hl
  obtain ⟨hx, hb, hr, hml, hown, hg, hlocks, hin⟩ := hcs
  have hown : s.vm.findClass RX5 = some m.cls := hown
  have hl : lv_has ls 3 [(0, .ref this), (1, .int x)] := hl
  have hT0 := hT
  have n0 : (0 : Int32).toInt = 0 := by decide
  have n2 : (2 : Int32).toInt = 2 := by decide
  have x_lo := Int32.le_toInt x
  have x_hi := Int32.toInt_lt x
  generalize hQ9 : tQX _ _ _ _ _ _ _ = Q9
  obtain ⟨nw, enw⟩ : ∃ z, kR κ this 3 = z := ⟨_, rfl⟩
  have tnw : zk σ0 nw 3 := by rw [← enw]; exact hT0.ref t_this (by decide) (by decide) (by decide)
  obtain ⟨tr, etr⟩ : ∃ z, kR κ this 4 = z := ⟨_, rfl⟩
  have ttr : zk σ0 tr 3 := by rw [← etr]; exact hT0.ref t_this (by decide) (by decide) (by decide)
  obtain ⟨v1, ev1⟩ : ∃ zz9 : Int32, zI σ0 nw 7 = zz9 := ⟨_, rfl⟩
  have qv1 : v1.toInt = (zI σ0 nw 7).toInt := by rw [ev1]
  have znw7 : zI σ0 nw 7 = v1 := ev1
  obtain ⟨v2, ev2⟩ : ∃ zz9 : Int32, zI σ0 nw 8 = zz9 := ⟨_, rfl⟩
  have qv2 : v2.toInt = (zI σ0 nw 8).toInt := by rw [ev2]
  have znw8 : zI σ0 nw 8 = v2 := ev2
  obtain ⟨v3, ev3⟩ : ∃ zz9 : Int32, zI σ0 nw 9 = zz9 := ⟨_, rfl⟩
  have qv3 : v3.toInt = (zI σ0 nw 9).toInt := by rw [ev3]
  have b4 : isB v3 := by have q9 := (hT.P (hT.k tnw (by decide)) (by decide)).2; rw [ev3] at q9; exact q9
  have znw9 : zI σ0 nw 9 = v3 := ev3
  refine lv_iload_n hx hb dX5_setSplit_0 rfl (lv_at hl 1 rfl) ?_
  refine lv_iconst (v := 0) hx hb dX5_setSplit_1 (by decide) ?_
  refine lv_iconst (v := 2) hx hb dX5_setSplit_2 (by decide) ?_
  have hTo := hT
  refine xtSv (n := 3) (As := [.int x, .int 0, .int 2]) (rest := []) hx hb hml hown hg hT hK hX (X5_needRange l κ σ0 x 0 2    hlt) sub_fE_fSet (mwS k909 k910 k84 k911) ⟨rfl, by decide, by decide, by decide +kernel⟩ ⟨(Nat.le_of_ble_eq_true rfl), (Nat.le_of_ble_eq_true rfl)⟩ rfl hl.1 rfl (Nat.le_of_ble_eq_true rfl) dX5_setSplit_3 zroomX.rf (fun E9 ce9 q9 τ9 H9 locs9 hp9 hE9 hT9 hce9 hcv9 hcl9 => by subst hQ9; exact tx_out hT9 ⟨hp9.1, by omega, fun a hk => ⟨hk.eI hE9 (by decide) rfl, hk.eI hE9 (by decide) rfl, hk.eI hE9 (by decide) rfl⟩⟩ hout hlocks hce9 hcv9 hcl9) (fun s6 H locs hφ hEs6 hT => ?_)
  have ev1 : zI s6 nw 7 = v1 := ((hTo.k tnw (by decide)).eI hEs6 (by decide) rfl).trans ev1
  have ev2 : zI s6 nw 8 = v2 := ((hTo.k tnw (by decide)).eI hEs6 (by decide) rfl).trans ev2
  have ev3 : zI s6 nw 9 = v3 := ((hTo.k tnw (by decide)).eI hEs6 (by decide) rfl).trans ev3
  have fr7 : ∀ a : Nat, a ≠ nw → zk σ0 a 3 → zI s6 a 7 = zI σ0 a 7 ∧ zI s6 a 8 = zI σ0 a 8 ∧ zI s6 a 9 = zI σ0 a 9 := fun a ha hk => ⟨((hTo.k hk (by decide)).eI hEs6 (by decide) rfl).trans ((show ∀ a : Nat, a ≠ nw → zk σ0 a 3 → zI σ0 a 7 = zI σ0 a 7 ∧ zI σ0 a 8 = zI σ0 a 8 ∧ zI σ0 a 9 = zI σ0 a 9 from fun _ _ _ => ⟨rfl, rfl, rfl⟩) a ha hk).1, ((hTo.k hk (by decide)).eI hEs6 (by decide) rfl).trans ((show ∀ a : Nat, a ≠ nw → zk σ0 a 3 → zI σ0 a 7 = zI σ0 a 7 ∧ zI σ0 a 8 = zI σ0 a 8 ∧ zI σ0 a 9 = zI σ0 a 9 from fun _ _ _ => ⟨rfl, rfl, rfl⟩) a ha hk).2.1, ((hTo.k hk (by decide)).eI hEs6 (by decide) rfl).trans ((show ∀ a : Nat, a ≠ nw → zk σ0 a 3 → zI σ0 a 7 = zI σ0 a 7 ∧ zI σ0 a 8 = zI σ0 a 8 ∧ zI σ0 a 9 = zI σ0 a 9 from fun _ _ _ => ⟨rfl, rfl, rfl⟩) a ha hk).2.2⟩
  obtain ⟨f8, f9⟩ := hφ
  refine lv_aload_n hx hb dX5_setSplit_6 rfl (lv_at hl 0 rfl) ?_
  refine va_get (D := κ.1) (ci := 5) (v := .ref (kR κ this 3)) (C := RX5) (T := TX5) (N := 10) hx hb hg inX5 hown hK (hT.o7 (hT.k t_this (by decide))).one 0 rfl rfl 3 (by decide) (hg _ k382) (fun _ h9 => h9) rfl dX5_setSplit_7 ?_
  rw [enw]
  refine va_get (D := κ.1) (ci := 1) (v := .int (zI s6 nw 7)) (C := RX1) (T := TX1) (N := 13) hx hb hg inX1 hown hK (hT.o3 (hT.k tnw (by decide))).one 0 rfl rfl 7 (by decide) (hg _ k292) (fun _ h9 => h9) rfl dX5_setSplit_10 ?_
  rw [ev1]
  refine lv_istore_n (lv' := [(2, .int v1), (0, .ref this), (1, .int x)]) hx hb dX5_setSplit_13 rfl hl (by decide) rfl (fun ls hl => ?_)
  refine lv_aload_n hx hb dX5_setSplit_14 rfl (lv_at hl 1 rfl) ?_
  refine va_get (D := κ.1) (ci := 5) (v := .ref (kR κ this 3)) (C := RX5) (T := TX5) (N := 10) hx hb hg inX5 hown hK (hT.o7 (hT.k t_this (by decide))).one 0 rfl rfl 3 (by decide) (hg _ k382) (fun _ h9 => h9) rfl dX5_setSplit_15 ?_
  rw [enw]
  refine lv_iload_n hx hb dX5_setSplit_18 rfl (lv_at hl 2 rfl) ?_
  have hTo := hT
  refine pf3_7 hx hb hg hown hK hT (hT.k tnw (by decide)) rfl (hg _ k292) dX5_setSplit_19 (fun H locs s10 hus10 hT => ?_)
  have ev2 : zI s10 nw 8 = v2 := (zput_o hus10 (Or.inr (by decide))).trans ev2
  have ev3 : zI s10 nw 9 = v3 := (zput_o hus10 (Or.inr (by decide))).trans ev3
  have fr11 : ∀ a : Nat, a ≠ nw → zk σ0 a 3 → zI s10 a 7 = zI σ0 a 7 ∧ zI s10 a 8 = zI σ0 a 8 ∧ zI s10 a 9 = zI σ0 a 9 := fun a ha hk => ⟨(zput_o hus10 (Or.inl ha)).trans (fr7 a ha hk).1, (zput_o hus10 (Or.inl ha)).trans (fr7 a ha hk).2.1, (zput_o hus10 (Or.inl ha)).trans (fr7 a ha hk).2.2⟩
  have e12 : zI s10 nw 7 = x := zput_at hus10
  refine lv_iload_n hx hb dX5_setSplit_22 rfl (lv_at hl 0 rfl) ?_
  subst hQ9
  exact vx_ret (t_i hx hb hr hlocks hT (by rw [enw]; exact ⟨by omega, by omega, znw7.symm, (show zI s10 nw 7 = x from e12), (show zI s10 nw 8 = v2 from ev2).trans znw8.symm, (show zI s10 nw 9 = v3 from ev3).trans znw9.symm, fr11⟩) dX5_setSplit_23)
set_option maxHeartbeats 4000000 in
set_option maxRecDepth 100000 in
theorem X5t_setPredict (l : Launch) (κ : Kt) (σ0 : Gh) (this : Nat) (x : Int32) (t_this : zk σ0 this 7) (hlt : l.stackTraces = false) : TX l yX5_setPredict cX5_setPredict 3 (some .int) 7 112 [.ref this, .int x] κ σ0 (tqi κ fSet σ0 (fun (r : Int32) (τ : Gh) => (0 ≤ x.toInt) ∧ (x.toInt ≤ 2) ∧ (r = zI σ0 (kR κ this 3) 8) ∧ (zI τ (kR κ this 3) 8 = x) ∧ (zI τ (kR κ this 3) 7 = zI σ0 (kR κ this 3) 7) ∧ (zI τ (kR κ this 3) 9 = zI σ0 (kR κ this 3) 9) ∧ (∀ a : Nat, a ≠ (kR κ this 3) → zk σ0 a 3 → zI τ a 7 = zI σ0 a 7 ∧ zI τ a 8 = zI σ0 a 8 ∧ zI τ a 9 = zI σ0 a 9))) (txq κ fSet σ0 (fun (E : String) (τ : Gh) => E = "java/lang/IllegalArgumentException" ∧ (x.toInt < 0 ∨ 2 < x.toInt) ∧ ∀ a : Nat, zk σ0 a 3 → zI τ a 7 = zI σ0 a 7 ∧ zI τ a 8 = zI σ0 a 8 ∧ zI τ a 9 = zI σ0 a 9)) := by
  refine TX.of fSet (by decide +kernel) (Nat.le_of_ble_eq_true rfl) ?_
  intro p e s m below meth c ls hcs hout hK hX hT hl
  obtain ⟨hx, hb, hr, hml, hown, hg, hlocks, hin⟩ := hcs
  have hown : s.vm.findClass RX5 = some m.cls := hown
  have hl : lv_has ls 3 [(0, .ref this), (1, .int x)] := hl
  have hT0 := hT
  have n0 : (0 : Int32).toInt = 0 := by decide
  have n2 : (2 : Int32).toInt = 2 := by decide
  have x_lo := Int32.le_toInt x
  have x_hi := Int32.toInt_lt x
  generalize hQ9 : tQX _ _ _ _ _ _ _ = Q9
  obtain ⟨nw, enw⟩ : ∃ z, kR κ this 3 = z := ⟨_, rfl⟩
  have tnw : zk σ0 nw 3 := by rw [← enw]; exact hT0.ref t_this (by decide) (by decide) (by decide)
  obtain ⟨tr, etr⟩ : ∃ z, kR κ this 4 = z := ⟨_, rfl⟩
  have ttr : zk σ0 tr 3 := by rw [← etr]; exact hT0.ref t_this (by decide) (by decide) (by decide)
  obtain ⟨v1, ev1⟩ : ∃ zz9 : Int32, zI σ0 nw 7 = zz9 := ⟨_, rfl⟩
  have qv1 : v1.toInt = (zI σ0 nw 7).toInt := by rw [ev1]
  have znw7 : zI σ0 nw 7 = v1 := ev1
  obtain ⟨v2, ev2⟩ : ∃ zz9 : Int32, zI σ0 nw 8 = zz9 := ⟨_, rfl⟩
  have qv2 : v2.toInt = (zI σ0 nw 8).toInt := by rw [ev2]
  have znw8 : zI σ0 nw 8 = v2 := ev2
  obtain ⟨v3, ev3⟩ : ∃ zz9 : Int32, zI σ0 nw 9 = zz9 := ⟨_, rfl⟩
  have qv3 : v3.toInt = (zI σ0 nw 9).toInt := by rw [ev3]
  have b4 : isB v3 := by have q9 := (hT.P (hT.k tnw (by decide)) (by decide)).2; rw [ev3] at q9; exact q9
  have znw9 : zI σ0 nw 9 = v3 := ev3
  refine lv_iload_n hx hb dX5_setPredict_0 rfl (lv_at hl 1 rfl) ?_
  refine lv_iconst (v := 0) hx hb dX5_setPredict_1 (by decide) ?_
  refine lv_iconst (v := 2) hx hb dX5_setPredict_2 (by decide) ?_
  have hTo := hT
  refine xtSv (n := 3) (As := [.int x, .int 0, .int 2]) (rest := []) hx hb hml hown hg hT hK hX (X5_needRange l κ σ0 x 0 2    hlt) sub_fE_fSet (mwS k909 k910 k84 k911) ⟨rfl, by decide, by decide, by decide +kernel⟩ ⟨(Nat.le_of_ble_eq_true rfl), (Nat.le_of_ble_eq_true rfl)⟩ rfl hl.1 rfl (Nat.le_of_ble_eq_true rfl) dX5_setPredict_3 zroomX.rf (fun E9 ce9 q9 τ9 H9 locs9 hp9 hE9 hT9 hce9 hcv9 hcl9 => by subst hQ9; exact tx_out hT9 ⟨hp9.1, by omega, fun a hk => ⟨hk.eI hE9 (by decide) rfl, hk.eI hE9 (by decide) rfl, hk.eI hE9 (by decide) rfl⟩⟩ hout hlocks hce9 hcv9 hcl9) (fun s6 H locs hφ hEs6 hT => ?_)
  have ev1 : zI s6 nw 7 = v1 := ((hTo.k tnw (by decide)).eI hEs6 (by decide) rfl).trans ev1
  have ev2 : zI s6 nw 8 = v2 := ((hTo.k tnw (by decide)).eI hEs6 (by decide) rfl).trans ev2
  have ev3 : zI s6 nw 9 = v3 := ((hTo.k tnw (by decide)).eI hEs6 (by decide) rfl).trans ev3
  have fr7 : ∀ a : Nat, a ≠ nw → zk σ0 a 3 → zI s6 a 7 = zI σ0 a 7 ∧ zI s6 a 8 = zI σ0 a 8 ∧ zI s6 a 9 = zI σ0 a 9 := fun a ha hk => ⟨((hTo.k hk (by decide)).eI hEs6 (by decide) rfl).trans ((show ∀ a : Nat, a ≠ nw → zk σ0 a 3 → zI σ0 a 7 = zI σ0 a 7 ∧ zI σ0 a 8 = zI σ0 a 8 ∧ zI σ0 a 9 = zI σ0 a 9 from fun _ _ _ => ⟨rfl, rfl, rfl⟩) a ha hk).1, ((hTo.k hk (by decide)).eI hEs6 (by decide) rfl).trans ((show ∀ a : Nat, a ≠ nw → zk σ0 a 3 → zI σ0 a 7 = zI σ0 a 7 ∧ zI σ0 a 8 = zI σ0 a 8 ∧ zI σ0 a 9 = zI σ0 a 9 from fun _ _ _ => ⟨rfl, rfl, rfl⟩) a ha hk).2.1, ((hTo.k hk (by decide)).eI hEs6 (by decide) rfl).trans ((show ∀ a : Nat, a ≠ nw → zk σ0 a 3 → zI σ0 a 7 = zI σ0 a 7 ∧ zI σ0 a 8 = zI σ0 a 8 ∧ zI σ0 a 9 = zI σ0 a 9 from fun _ _ _ => ⟨rfl, rfl, rfl⟩) a ha hk).2.2⟩
  obtain ⟨f8, f9⟩ := hφ
  refine lv_aload_n hx hb dX5_setPredict_6 rfl (lv_at hl 0 rfl) ?_
  refine va_get (D := κ.1) (ci := 5) (v := .ref (kR κ this 3)) (C := RX5) (T := TX5) (N := 10) hx hb hg inX5 hown hK (hT.o7 (hT.k t_this (by decide))).one 0 rfl rfl 3 (by decide) (hg _ k382) (fun _ h9 => h9) rfl dX5_setPredict_7 ?_
  rw [enw]
  refine va_get (D := κ.1) (ci := 1) (v := .int (zI s6 nw 8)) (C := RX1) (T := TX1) (N := 13) hx hb hg inX1 hown hK (hT.o3 (hT.k tnw (by decide))).one 0 rfl rfl 8 (by decide) (hg _ k294) (fun _ h9 => h9) rfl dX5_setPredict_10 ?_
  rw [ev2]
  refine lv_istore_n (lv' := [(2, .int v2), (0, .ref this), (1, .int x)]) hx hb dX5_setPredict_13 rfl hl (by decide) rfl (fun ls hl => ?_)
  refine lv_aload_n hx hb dX5_setPredict_14 rfl (lv_at hl 1 rfl) ?_
  refine va_get (D := κ.1) (ci := 5) (v := .ref (kR κ this 3)) (C := RX5) (T := TX5) (N := 10) hx hb hg inX5 hown hK (hT.o7 (hT.k t_this (by decide))).one 0 rfl rfl 3 (by decide) (hg _ k382) (fun _ h9 => h9) rfl dX5_setPredict_15 ?_
  rw [enw]
  refine lv_iload_n hx hb dX5_setPredict_18 rfl (lv_at hl 2 rfl) ?_
  have hTo := hT
  refine pf3_8 hx hb hg hown hK hT (hT.k tnw (by decide)) rfl (hg _ k294) dX5_setPredict_19 (fun H locs s10 hus10 hT => ?_)
  have ev1 : zI s10 nw 7 = v1 := (zput_o hus10 (Or.inr (by decide))).trans ev1
  have ev3 : zI s10 nw 9 = v3 := (zput_o hus10 (Or.inr (by decide))).trans ev3
  have fr11 : ∀ a : Nat, a ≠ nw → zk σ0 a 3 → zI s10 a 7 = zI σ0 a 7 ∧ zI s10 a 8 = zI σ0 a 8 ∧ zI s10 a 9 = zI σ0 a 9 := fun a ha hk => ⟨(zput_o hus10 (Or.inl ha)).trans (fr7 a ha hk).1, (zput_o hus10 (Or.inl ha)).trans (fr7 a ha hk).2.1, (zput_o hus10 (Or.inl ha)).trans (fr7 a ha hk).2.2⟩
  have e12 : zI s10 nw 8 = x := zput_at hus10
  refine lv_iload_n hx hb dX5_setPredict_22 rfl (lv_at hl 0 rfl) ?_
  subst hQ9
  exact vx_ret (t_i hx hb hr hlocks hT (by rw [enw]; exact ⟨by omega, by omega, znw8.symm, (show zI s10 nw 8 = x from e12), (show zI s10 nw 7 = v1 from ev1).trans znw7.symm, (show zI s10 nw 9 = v3 from ev3).trans znw9.symm, fr11⟩) dX5_setPredict_23)
set_option maxHeartbeats 4000000 in
set_option maxRecDepth 100000 in
theorem X5t_setUpdate (l : Launch) (κ : Kt) (σ0 : Gh) (this : Nat) (x : Int32) (t_this : zk σ0 this 7) (b_x : isB x) : TC l yX5_setUpdate cX5_setUpdate 3 (some .boolean) 0 0 [.ref this, .int x] κ σ0 (tqi κ fSet σ0 (fun (r : Int32) (τ : Gh) => (r = zI σ0 (kR κ this 3) 9) ∧ (zI τ (kR κ this 3) 9 = x) ∧ (zI τ (kR κ this 3) 7 = zI σ0 (kR κ this 3) 7) ∧ (zI τ (kR κ this 3) 8 = zI σ0 (kR κ this 3) 8) ∧ (∀ a : Nat, a ≠ (kR κ this 3) → zk σ0 a 3 → zI τ a 7 = zI σ0 a 7 ∧ zI τ a 8 = zI σ0 a 8 ∧ zI τ a 9 = zI σ0 a 9) ∧ (isB r))) := by
  refine TC.of fSet (by decide +kernel) (Nat.le_of_ble_eq_true rfl) ?_
  intro p e s m below meth c ls hcs hK hX hT hl
  obtain ⟨hx, hb, hr, hml, hown, hg, hlocks, hin⟩ := hcs
  have hown : s.vm.findClass RX5 = some m.cls := hown
  have hl : lv_has ls 3 [(0, .ref this), (1, .int x)] := hl
  have hT0 := hT
  generalize hQ9 : tQ _ _ _ _ _ _ = Q9
  obtain ⟨nw, enw⟩ : ∃ z, kR κ this 3 = z := ⟨_, rfl⟩
  have tnw : zk σ0 nw 3 := by rw [← enw]; exact hT0.ref t_this (by decide) (by decide) (by decide)
  obtain ⟨tr, etr⟩ : ∃ z, kR κ this 4 = z := ⟨_, rfl⟩
  have ttr : zk σ0 tr 3 := by rw [← etr]; exact hT0.ref t_this (by decide) (by decide) (by decide)
  obtain ⟨v1, ev1⟩ : ∃ zz9 : Int32, zI σ0 nw 7 = zz9 := ⟨_, rfl⟩
  have qv1 : v1.toInt = (zI σ0 nw 7).toInt := by rw [ev1]
  have znw7 : zI σ0 nw 7 = v1 := ev1
  obtain ⟨v2, ev2⟩ : ∃ zz9 : Int32, zI σ0 nw 8 = zz9 := ⟨_, rfl⟩
  have qv2 : v2.toInt = (zI σ0 nw 8).toInt := by rw [ev2]
  have znw8 : zI σ0 nw 8 = v2 := ev2
  obtain ⟨v3, ev3⟩ : ∃ zz9 : Int32, zI σ0 nw 9 = zz9 := ⟨_, rfl⟩
  have qv3 : v3.toInt = (zI σ0 nw 9).toInt := by rw [ev3]
  have b4 : isB v3 := by have q9 := (hT.P (hT.k tnw (by decide)) (by decide)).2; rw [ev3] at q9; exact q9
  have znw9 : zI σ0 nw 9 = v3 := ev3
  refine lv_aload_n hx hb dX5_setUpdate_0 rfl (lv_at hl 0 rfl) ?_
  refine va_get (D := κ.1) (ci := 5) (v := .ref (kR κ this 3)) (C := RX5) (T := TX5) (N := 10) hx hb hg inX5 hown hK (hT.o7 (hT.k t_this (by decide))).one 0 rfl rfl 3 (by decide) (hg _ k382) (fun _ h9 => h9) rfl dX5_setUpdate_1 ?_
  rw [enw]
  refine va_get (D := κ.1) (ci := 1) (v := .int (zI σ0 nw 9)) (C := RX1) (T := TX1) (N := 13) hx hb hg inX1 hown hK (hT.o3 (hT.k tnw (by decide))).one 0 rfl rfl 9 (by decide) (hg _ k296) (fun _ h9 => h9) rfl dX5_setUpdate_4 ?_
  rw [ev3]
  refine lv_istore_n (lv' := [(2, .int v3), (0, .ref this), (1, .int x)]) hx hb dX5_setUpdate_7 rfl hl (by decide) rfl (fun ls hl => ?_)
  refine lv_aload_n hx hb dX5_setUpdate_8 rfl (lv_at hl 1 rfl) ?_
  refine va_get (D := κ.1) (ci := 5) (v := .ref (kR κ this 3)) (C := RX5) (T := TX5) (N := 10) hx hb hg inX5 hown hK (hT.o7 (hT.k t_this (by decide))).one 0 rfl rfl 3 (by decide) (hg _ k382) (fun _ h9 => h9) rfl dX5_setUpdate_9 ?_
  rw [enw]
  refine lv_iload_n hx hb dX5_setUpdate_12 rfl (lv_at hl 2 rfl) ?_
  have hTo := hT
  refine pf3_9 hx hb hg hown hK hT (hT.k tnw (by decide)) rfl b_x (hg _ k296) dX5_setUpdate_13 (fun H locs s5 hus5 hT => ?_)
  have ev1 : zI s5 nw 7 = v1 := (zput_o hus5 (Or.inr (by decide))).trans ev1
  have ev2 : zI s5 nw 8 = v2 := (zput_o hus5 (Or.inr (by decide))).trans ev2
  have fr6 : ∀ a : Nat, a ≠ nw → zk σ0 a 3 → zI s5 a 7 = zI σ0 a 7 ∧ zI s5 a 8 = zI σ0 a 8 ∧ zI s5 a 9 = zI σ0 a 9 := fun a ha hk => ⟨(zput_o hus5 (Or.inl ha)).trans ((show ∀ a : Nat, a ≠ nw → zk σ0 a 3 → zI σ0 a 7 = zI σ0 a 7 ∧ zI σ0 a 8 = zI σ0 a 8 ∧ zI σ0 a 9 = zI σ0 a 9 from fun _ _ _ => ⟨rfl, rfl, rfl⟩) a ha hk).1, (zput_o hus5 (Or.inl ha)).trans ((show ∀ a : Nat, a ≠ nw → zk σ0 a 3 → zI σ0 a 7 = zI σ0 a 7 ∧ zI σ0 a 8 = zI σ0 a 8 ∧ zI σ0 a 9 = zI σ0 a 9 from fun _ _ _ => ⟨rfl, rfl, rfl⟩) a ha hk).2.1, (zput_o hus5 (Or.inl ha)).trans ((show ∀ a : Nat, a ≠ nw → zk σ0 a 3 → zI σ0 a 7 = zI σ0 a 7 ∧ zI σ0 a 8 = zI σ0 a 8 ∧ zI σ0 a 9 = zI σ0 a 9 from fun _ _ _ => ⟨rfl, rfl, rfl⟩) a ha hk).2.2⟩
  have e7 : zI s5 nw 9 = x := zput_at hus5
  refine lv_iload_n hx hb dX5_setUpdate_16 rfl (lv_at hl 0 rfl) ?_
  subst hQ9
  exact t_z hx hb hr b4 hlocks hT (by rw [enw]; exact ⟨znw9.symm, (show zI s5 nw 9 = x from e7), (show zI s5 nw 7 = v1 from ev1).trans znw7.symm, (show zI s5 nw 8 = v2 from ev2).trans znw8.symm, fr6, b4⟩) dX5_setUpdate_17

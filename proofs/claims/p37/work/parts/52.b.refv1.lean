/-! The reference with its numbers: neighbours, prediction, shares -/
set_option maxHeartbeats 4000000 in
set_option maxRecDepth 100000 in
theorem X6v_floor (l : Launch) (κ : Kt) (σ0 : Gh) (x : Int64) (y : Int64) (h0 : 1 ≤ y.toInt) : TC l yX6_floor cX6_floor 6 (some .long) 0 0 [.long x, .long y] κ σ0 (tql κ fE σ0 (fun (r : Int64) (τ : Gh) => (r.toInt = x.toInt / y.toInt))) := by
  refine TC.of fE (by decide +kernel) (Nat.le_of_ble_eq_true rfl) ?_
  intro p e s m below meth c ls hcs hK hX hT hl
  obtain ⟨hx, hb, hr, hml, hown, hg, hlocks, hin⟩ := hcs
  have hown : s.vm.findClass RX6 = some m.cls := hown
  have hl : lv_has ls 6 [(0, .long x), (2, .long y)] := hl
  have hT0 := hT
  have n0 : (0 : Int32).toInt = 0 := by decide
  have j0 : (0 : Int64).toInt = 0 := by decide
  have j1 : (1 : Int64).toInt = 1 := by decide
  generalize hQ9 : tQ _ _ _ _ _ _ = Q9
  refine lv_lload_n hx hb dX6_floor_0 rfl (lv_at hl 0 rfl) ?_
  refine lv_lload_n hx hb dX6_floor_1 rfl (lv_at hl 1 rfl) ?_
  refine lv_ldiv hx hb dX6_floor_2 (gl_nz (by omega)) ?_
  refine lv_topl (fun t201 ht201 => ?_)
  refine lv_lstore (lv' := [(4, .long t201), (0, .long x), (2, .long y)]) hx hb dX6_floor_3 hl (by decide) rfl (fun ls hl => ?_)
  refine lv_lload_n hx hb dX6_floor_5 rfl (lv_at hl 1 rfl) ?_
  refine lv_lload_n hx hb dX6_floor_6 rfl (lv_at hl 2 rfl) ?_
  refine lv_lrem hx hb dX6_floor_7 (gl_nz (by omega)) ?_
  refine lv_topl (fun t202 ht202 => ?_)
  have xt202 : t202.toInt = x.toInt.tmod y.toInt := by rw [ht202]; exact lrem_t _ _
  have xq9 : t201.toInt = x.toInt.tdiv y.toInt := by rw [ht201]; exact ldiv_t (by omega)
  have g9 := tdiv_fl (x := x.toInt) (y := y.toInt) (by omega)
  have e9 := (ediv_in (z := x.toInt) (x := 1) (D := y.toInt) (by omega) (by omega) (by omega)).2
  rw [Int.mul_one] at e9
  have lx9 := Int64.le_toInt x
  have ux9 := Int64.toInt_lt x
  have tn9 : 0 ≤ x.toInt → 0 ≤ x.toInt.tmod y.toInt := fun h => Int.tmod_nonneg _ h
  have uq9 := Int64.toInt_lt t201
  refine lv_lconst (v := 0) hx hb dX6_floor_8 (by decide) ?_
  refine W.lcmp hx hb dX6_floor_9 ?_
  refine lv_if_ge (tgt := 20) hx hb dX6_floor_10 (by decide) (fun c9 => ?_) (fun c9 => ?_)
  · have c1 := gl_ge c9
    have g8 := g9.2 (by omega)
    refine lv_lload hx hb dX6_floor_20 (lv_at hl 0 rfl) ?_
    subst hQ9
    exact t_l hx hb hr hlocks hT (by omega) dX6_floor_22
  · have c2 := gl_nge c9
    have e8 := e9 (by omega); have g8 := g9.1 (by omega)
    refine lv_lload hx hb dX6_floor_13 (lv_at hl 0 rfl) ?_
    refine lv_lconst (v := 1) hx hb dX6_floor_15 (by decide) ?_
    refine lv_lsub hx hb dX6_floor_16 ?_
    refine g_subl (by omega) (by omega) (fun t203 ht203 => ?_)
    refine lv_goto (tgt := 22) hx hb dX6_floor_17 (by decide) ?_
    subst hQ9
    exact t_l hx hb hr hlocks hT (by omega) dX6_floor_22
set_option maxHeartbeats 4000000 in
set_option maxRecDepth 100000 in
theorem X6v_near (l : Launch) (κ : Kt) (σ0 : Gh) (this : Nat) (x : Int32) (y : Int32) (z : Int32) (t_this : zk σ0 this 20) (h0 : RI κ σ0 this) (h1 : 0 ≤ y.toInt) (h2 : y.toInt < x.toInt) (h3 : x.toInt < z.toInt) (h4 : z.toInt < (zI σ0 this 7).toInt) : TC l yX6_isLeftNearer cX6_isLeftNearer 4 (some .boolean) 0 0 [.ref this, .int x, .int y, .int z] κ σ0 (tqi κ fE σ0 (fun (r : Int32) (τ : Gh) => ((r.toInt = 1 ∧ (zI σ0 (kR κ this 5) (ix x)).toInt - (zI σ0 (kR κ this 5) (ix y)).toInt ≤ (zI σ0 (kR κ this 5) (ix z)).toInt - (zI σ0 (kR κ this 5) (ix x)).toInt) ∨ (r.toInt = 0 ∧ (zI σ0 (kR κ this 5) (ix z)).toInt - (zI σ0 (kR κ this 5) (ix x)).toInt < (zI σ0 (kR κ this 5) (ix x)).toInt - (zI σ0 (kR κ this 5) (ix y)).toInt)) ∧ (isB r))) := by
  refine TC.of fE (by decide +kernel) (Nat.le_of_ble_eq_true rfl) ?_
  intro p e s m below meth c ls hcs hK hX hT hl
  obtain ⟨hx, hb, hr, hml, hown, hg, hlocks, hin⟩ := hcs
  have hown : s.vm.findClass RX6 = some m.cls := hown
  have hl : lv_has ls 4 [(0, .ref this), (1, .int x), (2, .int y), (3, .int z)] := hl
  have hT0 := hT
  have n0 : (0 : Int32).toInt = 0 := by decide
  have n1 : (1 : Int32).toInt = 1 := by decide
  have x_lo := Int32.le_toInt x
  have x_hi := Int32.toInt_lt x
  have y_lo := Int32.le_toInt y
  have y_hi := Int32.toInt_lt y
  have z_lo := Int32.le_toInt z
  have z_hi := Int32.toInt_lt z
  generalize hQ9 : tQ _ _ _ _ _ _ = Q9
  obtain ⟨rW, erW⟩ : ∃ z, kR κ this 1 = z := ⟨_, rfl⟩
  have trW : zk σ0 rW 21 := by rw [← erW]; exact h0.1.2.1
  obtain ⟨rP, erP⟩ : ∃ z, kR κ this 5 = z := ⟨_, rfl⟩
  have trP : zk σ0 rP 25 := by rw [← erP]; exact h0.1.2.2.2.2
  have hB0 := h0.b
  rw [erW] at hB0
  have hW := h0.2.1
  rw [erW] at hW
  have hP := h0.2.2.1
  rw [erP] at hP
  have hrN : (rN σ0 this : Int) = (zI σ0 this 7).toInt := by unfold rN; omega
  have g1 := hP.lt (i := ix y) (j := ix x) (by unfold ix; omega) (by unfold ix; omega)
  have g2 := hP.lt (i := ix x) (j := ix z) (by unfold ix; omega) (by unfold ix; omega)
  have g3 := (hP (ix y) (by unfold ix; omega)).1
  have g4 := (hP (ix z) (by unfold ix; omega)).1
  have hxx : ∀ k : Int32, 0 ≤ k.toInt → (ix k : Int) = k.toInt := fun k q => by unfold ix; omega
  refine lv_aload_n hx hb dX6_isLeftNearer_0 rfl (lv_at hl 0 rfl) ?_
  refine va_get (D := κ.1) (ci := 6) (v := .ref (kR κ this 5)) (C := RX6) (T := TX6) (N := 27) hx hb hg inX6 hown hK (hT.o20 (hT.k t_this (by decide))).one 0 rfl rfl 5 (by decide) (hg _ k1224) (fun _ h9 => h9) rfl dX6_isLeftNearer_1 ?_
  rw [erP]
  refine lv_iload_n hx hb dX6_isLeftNearer_4 rfl (lv_at hl 1 rfl) ?_
  refine va_iald hx hb hK (hT.o25 (hT.k trP (by decide))).one 0 0 rfl rfl (g_in (by omega) (by omega)) dX6_isLeftNearer_5 ?_
  refine lv_topi (fun t201 ht201 => ?_)
  have xt201 : (zI σ0 rP (ix x)).toInt = t201.toInt := by rw [ht201]; exact congrArg (fun q9 => (zI σ0 rP q9).toInt) (show ix x = ix x from rfl)
  refine lv_aload_n hx hb dX6_isLeftNearer_6 rfl (lv_at hl 0 rfl) ?_
  refine va_get (D := κ.1) (ci := 6) (v := .ref (kR κ this 5)) (C := RX6) (T := TX6) (N := 27) hx hb hg inX6 hown hK (hT.o20 (hT.k t_this (by decide))).one 0 rfl rfl 5 (by decide) (hg _ k1224) (fun _ h9 => h9) rfl dX6_isLeftNearer_7 ?_
  rw [erP]
  refine lv_iload_n hx hb dX6_isLeftNearer_10 rfl (lv_at hl 2 rfl) ?_
  refine va_iald hx hb hK (hT.o25 (hT.k trP (by decide))).one 0 0 rfl rfl (g_in (by omega) (by omega)) dX6_isLeftNearer_11 ?_
  refine lv_topi (fun t202 ht202 => ?_)
  have xt202 : (zI σ0 rP (ix y)).toInt = t202.toInt := by rw [ht202]; exact congrArg (fun q9 => (zI σ0 rP q9).toInt) (show ix y = ix y from rfl)
  refine lv_isub hx hb dX6_isLeftNearer_12 ?_
  first | refine g_sub (by omega) (by omega) (fun t203 ht203 => ?_) | refine lv_topi (fun t203 ht203 => ?_)
  refine lv_aload_n hx hb dX6_isLeftNearer_13 rfl (lv_at hl 0 rfl) ?_
  refine va_get (D := κ.1) (ci := 6) (v := .ref (kR κ this 5)) (C := RX6) (T := TX6) (N := 27) hx hb hg inX6 hown hK (hT.o20 (hT.k t_this (by decide))).one 0 rfl rfl 5 (by decide) (hg _ k1224) (fun _ h9 => h9) rfl dX6_isLeftNearer_14 ?_
  rw [erP]
  refine lv_iload_n hx hb dX6_isLeftNearer_17 rfl (lv_at hl 3 rfl) ?_
  refine va_iald hx hb hK (hT.o25 (hT.k trP (by decide))).one 0 0 rfl rfl (g_in (by omega) (by omega)) dX6_isLeftNearer_18 ?_
  refine lv_topi (fun t204 ht204 => ?_)
  have xt204 : (zI σ0 rP (ix z)).toInt = t204.toInt := by rw [ht204]; exact congrArg (fun q9 => (zI σ0 rP q9).toInt) (show ix z = ix z from rfl)
  refine lv_aload_n hx hb dX6_isLeftNearer_19 rfl (lv_at hl 0 rfl) ?_
  refine va_get (D := κ.1) (ci := 6) (v := .ref (kR κ this 5)) (C := RX6) (T := TX6) (N := 27) hx hb hg inX6 hown hK (hT.o20 (hT.k t_this (by decide))).one 0 rfl rfl 5 (by decide) (hg _ k1224) (fun _ h9 => h9) rfl dX6_isLeftNearer_20 ?_
  rw [erP]
  refine lv_iload_n hx hb dX6_isLeftNearer_23 rfl (lv_at hl 1 rfl) ?_
  refine va_iald hx hb hK (hT.o25 (hT.k trP (by decide))).one 0 0 rfl rfl (g_in (by omega) (by omega)) dX6_isLeftNearer_24 ?_
  refine lv_topi (fun t205 ht205 => ?_)
  have xt205 : (zI σ0 rP (ix x)).toInt = t205.toInt := by rw [ht205]; exact congrArg (fun q9 => (zI σ0 rP q9).toInt) (show ix x = ix x from rfl)
  refine lv_isub hx hb dX6_isLeftNearer_25 ?_
  first | refine g_sub (by omega) (by omega) (fun t206 ht206 => ?_) | refine lv_topi (fun t206 ht206 => ?_)
  refine lv_icmp_gt (tgt := 33) hx hb dX6_isLeftNearer_26 (by decide) (fun c9 => ?_) (fun c9 => ?_)
  · have c1 := gi_lt c9
    refine lv_iconst (v := 0) hx hb dX6_isLeftNearer_33 (by decide) ?_
    subst hQ9
    exact t_z hx hb hr isB0 hlocks hT ⟨by simp only [erW, erP]; omega, isB0⟩ dX6_isLeftNearer_34
  · have c2 := gi_nlt c9
    refine lv_iconst (v := 1) hx hb dX6_isLeftNearer_29 (by decide) ?_
    refine lv_goto (tgt := 34) hx hb dX6_isLeftNearer_30 (by decide) ?_
    subst hQ9
    exact t_z hx hb hr isB1 hlocks hT ⟨by simp only [erW, erP]; omega, isB1⟩ dX6_isLeftNearer_34
set_option maxHeartbeats 4000000 in
set_option maxRecDepth 100000 in
theorem X6v_predicted (l : Launch) (κ : Kt) (σ0 : Gh) (this : Nat) (x : Int32) (y : Int32) (z : Int32) (md : Int32) (t_this : zk σ0 this 20) (h0 : RI κ σ0 this) (h1 : 0 ≤ y.toInt) (h2 : y.toInt < x.toInt) (h3 : x.toInt < z.toInt) (h4 : z.toInt < (zI σ0 this 7).toInt) (h5 : md.toInt = 0 ∨ md.toInt = 1 ∨ md.toInt = 2) (h6 : -1114000000 ≤ rvl (zJ σ0 (kR κ this 1)) (ix y) ∧ rvl (zJ σ0 (kR κ this 1)) (ix y) ≤ 1114000000) (h7 : -1114000000 ≤ rvl (zJ σ0 (kR κ this 1)) (ix z) ∧ rvl (zJ σ0 (kR κ this 1)) (ix z) ≤ 1114000000) : TC l yX6_predicted cX6_predicted 5 (some .long) 1 25 [.ref this, .int x, .int y, .int z, .int md] κ σ0 (tql κ fE σ0 (fun (r : Int64) (τ : Gh) => (r.toInt = prd (plf (zI σ0 (kR κ this 5))) (rvl (zJ σ0 (kR κ this 1))) md.toInt (ix x) (ix y) (ix z)))) := by
  refine TC.of fE (by decide +kernel) (Nat.le_of_ble_eq_true rfl) ?_
  intro p e s m below meth c ls hcs hK hX hT hl
  obtain ⟨hx, hb, hr, hml, hown, hg, hlocks, hin⟩ := hcs
  have hown : s.vm.findClass RX6 = some m.cls := hown
  have hl : lv_has ls 5 [(0, .ref this), (1, .int x), (2, .int y), (3, .int z), (4, .int md)] := hl
  have hT0 := hT
  have n0 : (0 : Int32).toInt = 0 := by decide
  have n1 : (1 : Int32).toInt = 1 := by decide
  have n5 : (5 : Int32).toInt = 5 := by decide
  have x_lo := Int32.le_toInt x
  have x_hi := Int32.toInt_lt x
  have y_lo := Int32.le_toInt y
  have y_hi := Int32.toInt_lt y
  have z_lo := Int32.le_toInt z
  have z_hi := Int32.toInt_lt z
  have md_lo := Int32.le_toInt md
  have md_hi := Int32.toInt_lt md
  generalize hQ9 : tQ _ _ _ _ _ _ = Q9
  obtain ⟨rW, erW⟩ : ∃ z, kR κ this 1 = z := ⟨_, rfl⟩
  have trW : zk σ0 rW 21 := by rw [← erW]; exact h0.1.2.1
  obtain ⟨rP, erP⟩ : ∃ z, kR κ this 5 = z := ⟨_, rfl⟩
  have trP : zk σ0 rP 25 := by rw [← erP]; exact h0.1.2.2.2.2
  have hB0 := h0.b
  rw [erW] at hB0
  have hW := h0.2.1
  rw [erW] at hW
  have hP := h0.2.2.1
  rw [erP] at hP
  have hrN : (rN σ0 this : Int) = (zI σ0 this 7).toInt := by unfold rN; omega
  try simp only [erW, erP] at h6
  try simp only [erW, erP] at h7
  have g1 := hP.lt (i := ix y) (j := ix x) (by unfold ix; omega) (by unfold ix; omega)
  have g2 := hP.lt (i := ix x) (j := ix z) (by unfold ix; omega) (by unfold ix; omega)
  have g3 := (hP (ix y) (by unfold ix; omega)).1
  have g4 := (hP (ix z) (by unfold ix; omega)).1
  have hxx : ∀ k : Int32, 0 ≤ k.toInt → (ix k : Int) = k.toInt := fun k q => by unfold ix; omega
  have px9 : plf (zI σ0 rP) (ix x) = (zI σ0 rP (ix x)).toInt := rfl
  have py9 : plf (zI σ0 rP) (ix y) = (zI σ0 rP (ix y)).toInt := rfl
  have pz9 : plf (zI σ0 rP) (ix z) = (zI σ0 rP (ix z)).toInt := rfl
  refine lv_iload hx hb dX6_predicted_0 (lv_at hl 4 rfl) ?_
  refine lv_if_eq (tgt := 21) hx hb dX6_predicted_2 (by decide) (fun c9 => ?_) (fun c9 => ?_)
  · have c1 := gi_eq c9
    refine lv_aload_n hx hb dX6_predicted_21 rfl (lv_at hl 0 rfl) ?_
    refine va_get (D := κ.1) (ci := 6) (v := .ref (kR κ this 1)) (C := RX6) (T := TX6) (N := 27) hx hb hg inX6 hown hK (hT.o20 (hT.k t_this (by decide))).one 0 rfl rfl 1 (by decide) (hg _ k1220) (fun _ h9 => h9) rfl dX6_predicted_22 ?_
    rw [erW]
    refine lv_iconst (v := 5) hx hb dX6_predicted_25 (by decide) ?_
    refine lv_iload_n hx hb dX6_predicted_26 rfl (lv_at hl 2 rfl) ?_
    refine lv_iadd hx hb dX6_predicted_27 ?_
    first | refine g_add (by omega) (by omega) (fun t201 ht201 => ?_) | refine lv_topi (fun t201 ht201 => ?_)
    refine va_lald hx hb hK (hT.o21 (hT.k trW (by decide))).one 0 1 rfl rfl (g_in (by omega) (by omega)) dX6_predicted_28 ?_
    refine lv_topl (fun t202 ht202 => ?_)
    have xt202 : rvl (zJ σ0 rW) (ix y) = t202.toInt := by rw [ht202]; exact congrArg (fun q9 => (zJ σ0 rW q9).toInt) (show 5 + ix y = ix t201 from by unfold ix; omega)
    subst hQ9
    exact t_l hx hb hr hlocks hT (by rw [erW, erP]; unfold prd; rw [if_pos (by omega)]; omega) dX6_predicted_29
  · have c2 := gi_ne c9
    refine lv_iload hx hb dX6_predicted_5 (lv_at hl 4 rfl) ?_
    refine lv_iconst (v := 1) hx hb dX6_predicted_7 (by decide) ?_
    refine lv_icmp_ne (tgt := 30) hx hb dX6_predicted_8 (by decide) (fun c9 => ?_) (fun c9 => ?_)
    · have c3 := gi_ne c9
      refine lv_iload hx hb dX6_predicted_30 (lv_at hl 4 rfl) ?_
      refine lv_iconst (v := 1) hx hb dX6_predicted_32 (by decide) ?_
      refine lv_icmp_ne (tgt := 45) hx hb dX6_predicted_33 (by decide) (fun c9 => ?_) (fun c9 => ?_)
      · have c4 := gi_ne c9
        refine lv_aload_n hx hb dX6_predicted_45 rfl (lv_at hl 0 rfl) ?_
        refine va_get (D := κ.1) (ci := 6) (v := .ref (kR κ this 1)) (C := RX6) (T := TX6) (N := 27) hx hb hg inX6 hown hK (hT.o20 (hT.k t_this (by decide))).one 0 rfl rfl 1 (by decide) (hg _ k1220) (fun _ h9 => h9) rfl dX6_predicted_46 ?_
        rw [erW]
        refine lv_iconst (v := 5) hx hb dX6_predicted_49 (by decide) ?_
        refine lv_iload_n hx hb dX6_predicted_50 rfl (lv_at hl 2 rfl) ?_
        refine lv_iadd hx hb dX6_predicted_51 ?_
        first | refine g_add (by omega) (by omega) (fun t203 ht203 => ?_) | refine lv_topi (fun t203 ht203 => ?_)
        refine va_lald hx hb hK (hT.o21 (hT.k trW (by decide))).one 0 1 rfl rfl (g_in (by omega) (by omega)) dX6_predicted_52 ?_
        refine lv_topl (fun t204 ht204 => ?_)
        have xt204 : rvl (zJ σ0 rW) (ix y) = t204.toInt := by rw [ht204]; exact congrArg (fun q9 => (zJ σ0 rW q9).toInt) (show 5 + ix y = ix t203 from by unfold ix; omega)
        refine lv_aload_n hx hb dX6_predicted_53 rfl (lv_at hl 0 rfl) ?_
        refine va_get (D := κ.1) (ci := 6) (v := .ref (kR κ this 1)) (C := RX6) (T := TX6) (N := 27) hx hb hg inX6 hown hK (hT.o20 (hT.k t_this (by decide))).one 0 rfl rfl 1 (by decide) (hg _ k1220) (fun _ h9 => h9) rfl dX6_predicted_54 ?_
        rw [erW]
        refine lv_iconst (v := 5) hx hb dX6_predicted_57 (by decide) ?_
        refine lv_iload_n hx hb dX6_predicted_58 rfl (lv_at hl 3 rfl) ?_
        refine lv_iadd hx hb dX6_predicted_59 ?_
        first | refine g_add (by omega) (by omega) (fun t205 ht205 => ?_) | refine lv_topi (fun t205 ht205 => ?_)
        refine va_lald hx hb hK (hT.o21 (hT.k trW (by decide))).one 0 1 rfl rfl (g_in (by omega) (by omega)) dX6_predicted_60 ?_
        refine lv_topl (fun t206 ht206 => ?_)
        have xt206 : rvl (zJ σ0 rW) (ix z) = t206.toInt := by rw [ht206]; exact congrArg (fun q9 => (zJ σ0 rW q9).toInt) (show 5 + ix z = ix t205 from by unfold ix; omega)
        refine lv_aload_n hx hb dX6_predicted_61 rfl (lv_at hl 0 rfl) ?_
        refine va_get (D := κ.1) (ci := 6) (v := .ref (kR κ this 1)) (C := RX6) (T := TX6) (N := 27) hx hb hg inX6 hown hK (hT.o20 (hT.k t_this (by decide))).one 0 rfl rfl 1 (by decide) (hg _ k1220) (fun _ h9 => h9) rfl dX6_predicted_62 ?_
        rw [erW]
        refine lv_iconst (v := 5) hx hb dX6_predicted_65 (by decide) ?_
        refine lv_iload_n hx hb dX6_predicted_66 rfl (lv_at hl 2 rfl) ?_
        refine lv_iadd hx hb dX6_predicted_67 ?_
        first | refine g_add (by omega) (by omega) (fun t207 ht207 => ?_) | refine lv_topi (fun t207 ht207 => ?_)
        refine va_lald hx hb hK (hT.o21 (hT.k trW (by decide))).one 0 1 rfl rfl (g_in (by omega) (by omega)) dX6_predicted_68 ?_
        refine lv_topl (fun t208 ht208 => ?_)
        have xt208 : rvl (zJ σ0 rW) (ix y) = t208.toInt := by rw [ht208]; exact congrArg (fun q9 => (zJ σ0 rW q9).toInt) (show 5 + ix y = ix t207 from by unfold ix; omega)
        refine lv_lsub hx hb dX6_predicted_69 ?_
        refine g_subl (by omega) (by omega) (fun t209 ht209 => ?_)
        refine lv_aload_n hx hb dX6_predicted_70 rfl (lv_at hl 0 rfl) ?_
        refine va_get (D := κ.1) (ci := 6) (v := .ref (kR κ this 5)) (C := RX6) (T := TX6) (N := 27) hx hb hg inX6 hown hK (hT.o20 (hT.k t_this (by decide))).one 0 rfl rfl 5 (by decide) (hg _ k1224) (fun _ h9 => h9) rfl dX6_predicted_71 ?_
        rw [erP]
        refine lv_iload_n hx hb dX6_predicted_74 rfl (lv_at hl 1 rfl) ?_
        refine va_iald hx hb hK (hT.o25 (hT.k trP (by decide))).one 0 0 rfl rfl (g_in (by omega) (by omega)) dX6_predicted_75 ?_
        refine lv_topi (fun t210 ht210 => ?_)
        have xt210 : (zI σ0 rP (ix x)).toInt = t210.toInt := by rw [ht210]; exact congrArg (fun q9 => (zI σ0 rP q9).toInt) (show ix x = ix x from rfl)
        refine lv_aload_n hx hb dX6_predicted_76 rfl (lv_at hl 0 rfl) ?_
        refine va_get (D := κ.1) (ci := 6) (v := .ref (kR κ this 5)) (C := RX6) (T := TX6) (N := 27) hx hb hg inX6 hown hK (hT.o20 (hT.k t_this (by decide))).one 0 rfl rfl 5 (by decide) (hg _ k1224) (fun _ h9 => h9) rfl dX6_predicted_77 ?_
        rw [erP]
        refine lv_iload_n hx hb dX6_predicted_80 rfl (lv_at hl 2 rfl) ?_
        refine va_iald hx hb hK (hT.o25 (hT.k trP (by decide))).one 0 0 rfl rfl (g_in (by omega) (by omega)) dX6_predicted_81 ?_
        refine lv_topi (fun t211 ht211 => ?_)
        have xt211 : (zI σ0 rP (ix y)).toInt = t211.toInt := by rw [ht211]; exact congrArg (fun q9 => (zI σ0 rP q9).toInt) (show ix y = ix y from rfl)
        refine lv_isub hx hb dX6_predicted_82 ?_
        first | refine g_sub (by omega) (by omega) (fun t212 ht212 => ?_) | refine lv_topi (fun t212 ht212 => ?_)
        refine lv_i2l hx hb dX6_predicted_83 rfl ?_
        refine g_i2l (fun t213 ht213 => ?_)
        have xa9 : t209.toInt = rvl (zJ σ0 rW) (ix z) - rvl (zJ σ0 rW) (ix y) := by omega
        have xb9 : t213.toInt = plf (zI σ0 rP) (ix x) - plf (zI σ0 rP) (ix y) := by omega
        have nu := prd_num (a := rvl (zJ σ0 rW) (ix z) - rvl (zJ σ0 rW) (ix y)) (x := plf (zI σ0 rP) (ix x) - plf (zI σ0 rP) (ix y)) (D := plf (zI σ0 rP) (ix z) - plf (zI σ0 rP) (ix y)) (by omega) (by omega) (by omega) (by omega) (by omega) rfl
        refine lv_lmul hx hb dX6_predicted_84 ?_
        refine g_mull (by rw [xa9, xb9]; omega) (by rw [xa9, xb9]; omega) (fun t214 ht214 => ?_)
        rw [xa9, xb9] at ht214
        refine lv_aload_n hx hb dX6_predicted_85 rfl (lv_at hl 0 rfl) ?_
        refine va_get (D := κ.1) (ci := 6) (v := .ref (kR κ this 5)) (C := RX6) (T := TX6) (N := 27) hx hb hg inX6 hown hK (hT.o20 (hT.k t_this (by decide))).one 0 rfl rfl 5 (by decide) (hg _ k1224) (fun _ h9 => h9) rfl dX6_predicted_86 ?_
        rw [erP]
        refine lv_iload_n hx hb dX6_predicted_89 rfl (lv_at hl 3 rfl) ?_
        refine va_iald hx hb hK (hT.o25 (hT.k trP (by decide))).one 0 0 rfl rfl (g_in (by omega) (by omega)) dX6_predicted_90 ?_
        refine lv_topi (fun t215 ht215 => ?_)
        have xt215 : (zI σ0 rP (ix z)).toInt = t215.toInt := by rw [ht215]; exact congrArg (fun q9 => (zI σ0 rP q9).toInt) (show ix z = ix z from rfl)
        refine lv_aload_n hx hb dX6_predicted_91 rfl (lv_at hl 0 rfl) ?_
        refine va_get (D := κ.1) (ci := 6) (v := .ref (kR κ this 5)) (C := RX6) (T := TX6) (N := 27) hx hb hg inX6 hown hK (hT.o20 (hT.k t_this (by decide))).one 0 rfl rfl 5 (by decide) (hg _ k1224) (fun _ h9 => h9) rfl dX6_predicted_92 ?_
        rw [erP]
        refine lv_iload_n hx hb dX6_predicted_95 rfl (lv_at hl 2 rfl) ?_
        refine va_iald hx hb hK (hT.o25 (hT.k trP (by decide))).one 0 0 rfl rfl (g_in (by omega) (by omega)) dX6_predicted_96 ?_
        refine lv_topi (fun t216 ht216 => ?_)
        have xt216 : (zI σ0 rP (ix y)).toInt = t216.toInt := by rw [ht216]; exact congrArg (fun q9 => (zI σ0 rP q9).toInt) (show ix y = ix y from rfl)
        refine lv_isub hx hb dX6_predicted_97 ?_
        first | refine g_sub (by omega) (by omega) (fun t217 ht217 => ?_) | refine lv_topi (fun t217 ht217 => ?_)
        refine lv_i2l hx hb dX6_predicted_98 rfl ?_
        refine g_i2l (fun t218 ht218 => ?_)
        have hTo := hT
        refine tSl (n := 2) (As := [.long t214, .long t218]) (rest := [.long t204]) hx hb hml hown hg hT hK hX (X6v_floor l κ σ0 t214 t218   (by omega)) (fun _ _ h => h) (mwS k1469 k1470 k92 k1471) ⟨rfl, by decide, by decide, by decide +kernel⟩ ⟨(Nat.le_of_ble_eq_true rfl), (Nat.le_of_ble_eq_true rfl)⟩ rfl hl.1 rfl (Nat.le_of_ble_eq_true rfl) dX6_predicted_99 zroom.rf (fun x219 s220 H locs hφ hEs220 hT => ?_)
        have f221 := hφ
        have K222 : zI s220 this 7 = zI σ0 this 7 := hT.eI t_this (by decide) rfl rfl
        have K222n : (zI s220 this 7).toInt = (zI σ0 this 7).toInt := by rw [K222]
        have K222r : rN s220 this = rN σ0 this := by unfold rN; rw [K222]
        have J223 : zJ s220 rW = zJ σ0 rW := funext fun k => hT.eJ trW (by decide) rfl rfl
        have J223n : (zJ s220 (kR κ this 1) 4).toInt = (zJ σ0 rW 4).toInt := by rw [erW, J223]
        have P224 : zI s220 rP = zI σ0 rP := funext fun k => hT.eI trP (by decide) rfl rfl
        try simp only [erW, erP, ix_0, ix_1, ix_2, ix_3, ix_4, ix_5, ix_6, ix_7, ix_8, ix_9, K222, K222r, J223, P224] at f221
        have xc9 : t218.toInt = plf (zI σ0 rP) (ix z) - plf (zI σ0 rP) (ix y) := by omega
        rw [ht214, xc9] at f221
        refine lv_ladd hx hb dX6_predicted_102 ?_
        refine g_addl (by omega) (by omega) (fun t225 ht225 => ?_)
        subst hQ9
        exact t_l hx hb hr hlocks hT (by rw [erW, erP]; unfold prd; rw [if_neg (by omega), if_pos (by omega)]; omega) dX6_predicted_103
      · have c5 := gi_eq c9
        refine lv_aload_n hx hb dX6_predicted_36 rfl (lv_at hl 0 rfl) ?_
        refine va_get (D := κ.1) (ci := 6) (v := .ref (kR κ this 1)) (C := RX6) (T := TX6) (N := 27) hx hb hg inX6 hown hK (hT.o20 (hT.k t_this (by decide))).one 0 rfl rfl 1 (by decide) (hg _ k1220) (fun _ h9 => h9) rfl dX6_predicted_37 ?_
        rw [erW]
        refine lv_iconst (v := 5) hx hb dX6_predicted_40 (by decide) ?_
        refine lv_iload_n hx hb dX6_predicted_41 rfl (lv_at hl 3 rfl) ?_
        refine lv_iadd hx hb dX6_predicted_42 ?_
        first | refine g_add (by omega) (by omega) (fun t226 ht226 => ?_) | refine lv_topi (fun t226 ht226 => ?_)
        refine va_lald hx hb hK (hT.o21 (hT.k trW (by decide))).one 0 1 rfl rfl (g_in (by omega) (by omega)) dX6_predicted_43 ?_
        refine lv_topl (fun t227 ht227 => ?_)
        have xt227 : rvl (zJ σ0 rW) (ix z) = t227.toInt := by rw [ht227]; exact congrArg (fun q9 => (zJ σ0 rW q9).toInt) (show 5 + ix z = ix t226 from by unfold ix; omega)
        subst hQ9
        exact t_l hx hb hr hlocks hT (by rw [erW, erP]; unfold prd; rw [if_neg (by omega), if_neg (by omega)]; omega) dX6_predicted_44
    · have c6 := gi_eq c9
      refine lv_aload_n hx hb dX6_predicted_11 rfl (lv_at hl 0 rfl) ?_
      refine lv_iload_n hx hb dX6_predicted_12 rfl (lv_at hl 1 rfl) ?_
      refine lv_iload_n hx hb dX6_predicted_13 rfl (lv_at hl 2 rfl) ?_
      refine lv_iload_n hx hb dX6_predicted_14 rfl (lv_at hl 3 rfl) ?_
      have hTo := hT
      refine tVi (n := 3) (As := [.int x, .int y, .int z]) (rest := []) hx hb hml hown hg hT hK hX (X6v_near l κ σ0 this x y z  (hT.k t_this (by decide)) h0 (by omega) (by omega) (by omega) (by omega)) (fun _ _ h => h) (mwV k1543 k1545 k68 k92 k1546) ⟨rfl, by decide, by decide, by decide +kernel⟩ ⟨(Nat.le_of_ble_eq_true rfl), (Nat.le_of_ble_eq_true rfl)⟩ (hT.o20 (hT.k t_this (by decide))) rfl rfl hl.1 rfl (Nat.le_of_ble_eq_true rfl) dX6_predicted_15 zroom.rf (fun x228 s229 H locs hφ hEs229 hT => ?_)
      obtain ⟨f230, f231⟩ := hφ
      have K232 : zI s229 this 7 = zI σ0 this 7 := hT.eI t_this (by decide) rfl rfl
      have K232n : (zI s229 this 7).toInt = (zI σ0 this 7).toInt := by rw [K232]
      have K232r : rN s229 this = rN σ0 this := by unfold rN; rw [K232]
      have J233 : zJ s229 rW = zJ σ0 rW := funext fun k => hT.eJ trW (by decide) rfl rfl
      have J233n : (zJ s229 (kR κ this 1) 4).toInt = (zJ σ0 rW 4).toInt := by rw [erW, J233]
      have P234 : zI s229 rP = zI σ0 rP := funext fun k => hT.eI trP (by decide) rfl rfl
      try simp only [erW, erP, ix_0, ix_1, ix_2, ix_3, ix_4, ix_5, ix_6, ix_7, ix_8, ix_9, K232, K232r, J233, P234] at f230
      refine lv_if_eq (tgt := 30) hx hb dX6_predicted_18 (by decide) (fun c9 => ?_) (fun c9 => ?_)
      · have c7 := gi_eq c9
        refine lv_iload hx hb dX6_predicted_30 (lv_at hl 4 rfl) ?_
        refine lv_iconst (v := 1) hx hb dX6_predicted_32 (by decide) ?_
        refine lv_icmp_ne (tgt := 45) hx hb dX6_predicted_33 (by decide) (fun c9 => ?_) (fun c9 => ?_)
        · have c8 := gi_ne c9
          refine lv_aload_n hx hb dX6_predicted_45 rfl (lv_at hl 0 rfl) ?_
          refine va_get (D := κ.1) (ci := 6) (v := .ref (kR κ this 1)) (C := RX6) (T := TX6) (N := 27) hx hb hg inX6 hown hK (hT.o20 (hT.k t_this (by decide))).one 0 rfl rfl 1 (by decide) (hg _ k1220) (fun _ h9 => h9) rfl dX6_predicted_46 ?_
          rw [erW]
          refine lv_iconst (v := 5) hx hb dX6_predicted_49 (by decide) ?_
          refine lv_iload_n hx hb dX6_predicted_50 rfl (lv_at hl 2 rfl) ?_
          refine lv_iadd hx hb dX6_predicted_51 ?_
          first | refine g_add (by omega) (by omega) (fun t235 ht235 => ?_) | refine lv_topi (fun t235 ht235 => ?_)
          refine va_lald hx hb hK (hT.o21 (hT.k trW (by decide))).one 0 1 rfl rfl (g_in (by omega) (by omega)) dX6_predicted_52 ?_
          refine lv_topl (fun t236 ht236 => ?_)
          have xt236 : rvl (zJ s229 rW) (ix y) = t236.toInt := by rw [ht236]; exact congrArg (fun q9 => (zJ s229 rW q9).toInt) (show 5 + ix y = ix t235 from by unfold ix; omega)
          try simp only [K232, K232r, J233, P234] at xt236
          refine lv_aload_n hx hb dX6_predicted_53 rfl (lv_at hl 0 rfl) ?_
          refine va_get (D := κ.1) (ci := 6) (v := .ref (kR κ this 1)) (C := RX6) (T := TX6) (N := 27) hx hb hg inX6 hown hK (hT.o20 (hT.k t_this (by decide))).one 0 rfl rfl 1 (by decide) (hg _ k1220) (fun _ h9 => h9) rfl dX6_predicted_54 ?_
          rw [erW]
          refine lv_iconst (v := 5) hx hb dX6_predicted_57 (by decide) ?_
          refine lv_iload_n hx hb dX6_predicted_58 rfl (lv_at hl 3 rfl) ?_
          refine lv_iadd hx hb dX6_predicted_59 ?_
          first | refine g_add (by omega) (by omega) (fun t237 ht237 => ?_) | refine lv_topi (fun t237 ht237 => ?_)
          refine va_lald hx hb hK (hT.o21 (hT.k trW (by decide))).one 0 1 rfl rfl (g_in (by omega) (by omega)) dX6_predicted_60 ?_
          refine lv_topl (fun t238 ht238 => ?_)
          have xt238 : rvl (zJ s229 rW) (ix z) = t238.toInt := by rw [ht238]; exact congrArg (fun q9 => (zJ s229 rW q9).toInt) (show 5 + ix z = ix t237 from by unfold ix; omega)
          try simp only [K232, K232r, J233, P234] at xt238
          refine lv_aload_n hx hb dX6_predicted_61 rfl (lv_at hl 0 rfl) ?_
          refine va_get (D := κ.1) (ci := 6) (v := .ref (kR κ this 1)) (C := RX6) (T := TX6) (N := 27) hx hb hg inX6 hown hK (hT.o20 (hT.k t_this (by decide))).one 0 rfl rfl 1 (by decide) (hg _ k1220) (fun _ h9 => h9) rfl dX6_predicted_62 ?_
          rw [erW]
          refine lv_iconst (v := 5) hx hb dX6_predicted_65 (by decide) ?_
          refine lv_iload_n hx hb dX6_predicted_66 rfl (lv_at hl 2 rfl) ?_
          refine lv_iadd hx hb dX6_predicted_67 ?_
          first | refine g_add (by omega) (by omega) (fun t239 ht239 => ?_) | refine lv_topi (fun t239 ht239 => ?_)
          refine va_lald hx hb hK (hT.o21 (hT.k trW (by decide))).one 0 1 rfl rfl (g_in (by omega) (by omega)) dX6_predicted_68 ?_
          refine lv_topl (fun t240 ht240 => ?_)
          have xt240 : rvl (zJ s229 rW) (ix y) = t240.toInt := by rw [ht240]; exact congrArg (fun q9 => (zJ s229 rW q9).toInt) (show 5 + ix y = ix t239 from by unfold ix; omega)
          try simp only [K232, K232r, J233, P234] at xt240
          refine lv_lsub hx hb dX6_predicted_69 ?_
          refine g_subl (by omega) (by omega) (fun t241 ht241 => ?_)
          refine lv_aload_n hx hb dX6_predicted_70 rfl (lv_at hl 0 rfl) ?_
          refine va_get (D := κ.1) (ci := 6) (v := .ref (kR κ this 5)) (C := RX6) (T := TX6) (N := 27) hx hb hg inX6 hown hK (hT.o20 (hT.k t_this (by decide))).one 0 rfl rfl 5 (by decide) (hg _ k1224) (fun _ h9 => h9) rfl dX6_predicted_71 ?_
          rw [erP]
          refine lv_iload_n hx hb dX6_predicted_74 rfl (lv_at hl 1 rfl) ?_
          refine va_iald hx hb hK (hT.o25 (hT.k trP (by decide))).one 0 0 rfl rfl (g_in (by omega) (by omega)) dX6_predicted_75 ?_
          refine lv_topi (fun t242 ht242 => ?_)
          have xt242 : (zI s229 rP (ix x)).toInt = t242.toInt := by rw [ht242]; exact congrArg (fun q9 => (zI s229 rP q9).toInt) (show ix x = ix x from rfl)
          try simp only [K232, K232r, J233, P234] at xt242
          refine lv_aload_n hx hb dX6_predicted_76 rfl (lv_at hl 0 rfl) ?_
          refine va_get (D := κ.1) (ci := 6) (v := .ref (kR κ this 5)) (C := RX6) (T := TX6) (N := 27) hx hb hg inX6 hown hK (hT.o20 (hT.k t_this (by decide))).one 0 rfl rfl 5 (by decide) (hg _ k1224) (fun _ h9 => h9) rfl dX6_predicted_77 ?_
          rw [erP]
          refine lv_iload_n hx hb dX6_predicted_80 rfl (lv_at hl 2 rfl) ?_
          refine va_iald hx hb hK (hT.o25 (hT.k trP (by decide))).one 0 0 rfl rfl (g_in (by omega) (by omega)) dX6_predicted_81 ?_
          refine lv_topi (fun t243 ht243 => ?_)
          have xt243 : (zI s229 rP (ix y)).toInt = t243.toInt := by rw [ht243]; exact congrArg (fun q9 => (zI s229 rP q9).toInt) (show ix y = ix y from rfl)
          try simp only [K232, K232r, J233, P234] at xt243
          refine lv_isub hx hb dX6_predicted_82 ?_
          first | refine g_sub (by omega) (by omega) (fun t244 ht244 => ?_) | refine lv_topi (fun t244 ht244 => ?_)
          refine lv_i2l hx hb dX6_predicted_83 rfl ?_
          refine g_i2l (fun t245 ht245 => ?_)
          have xa9 : t241.toInt = rvl (zJ σ0 rW) (ix z) - rvl (zJ σ0 rW) (ix y) := by omega
          have xb9 : t245.toInt = plf (zI σ0 rP) (ix x) - plf (zI σ0 rP) (ix y) := by omega
          have nu := prd_num (a := rvl (zJ σ0 rW) (ix z) - rvl (zJ σ0 rW) (ix y)) (x := plf (zI σ0 rP) (ix x) - plf (zI σ0 rP) (ix y)) (D := plf (zI σ0 rP) (ix z) - plf (zI σ0 rP) (ix y)) (by omega) (by omega) (by omega) (by omega) (by omega) rfl
          refine lv_lmul hx hb dX6_predicted_84 ?_
          refine g_mull (by rw [xa9, xb9]; omega) (by rw [xa9, xb9]; omega) (fun t246 ht246 => ?_)
          rw [xa9, xb9] at ht246
          refine lv_aload_n hx hb dX6_predicted_85 rfl (lv_at hl 0 rfl) ?_
          refine va_get (D := κ.1) (ci := 6) (v := .ref (kR κ this 5)) (C := RX6) (T := TX6) (N := 27) hx hb hg inX6 hown hK (hT.o20 (hT.k t_this (by decide))).one 0 rfl rfl 5 (by decide) (hg _ k1224) (fun _ h9 => h9) rfl dX6_predicted_86 ?_
          rw [erP]
          refine lv_iload_n hx hb dX6_predicted_89 rfl (lv_at hl 3 rfl) ?_
          refine va_iald hx hb hK (hT.o25 (hT.k trP (by decide))).one 0 0 rfl rfl (g_in (by omega) (by omega)) dX6_predicted_90 ?_
          refine lv_topi (fun t247 ht247 => ?_)
          have xt247 : (zI s229 rP (ix z)).toInt = t247.toInt := by rw [ht247]; exact congrArg (fun q9 => (zI s229 rP q9).toInt) (show ix z = ix z from rfl)
          try simp only [K232, K232r, J233, P234] at xt247
          refine lv_aload_n hx hb dX6_predicted_91 rfl (lv_at hl 0 rfl) ?_
          refine va_get (D := κ.1) (ci := 6) (v := .ref (kR κ this 5)) (C := RX6) (T := TX6) (N := 27) hx hb hg inX6 hown hK (hT.o20 (hT.k t_this (by decide))).one 0 rfl rfl 5 (by decide) (hg _ k1224) (fun _ h9 => h9) rfl dX6_predicted_92 ?_
          rw [erP]
          refine lv_iload_n hx hb dX6_predicted_95 rfl (lv_at hl 2 rfl) ?_
          refine va_iald hx hb hK (hT.o25 (hT.k trP (by decide))).one 0 0 rfl rfl (g_in (by omega) (by omega)) dX6_predicted_96 ?_
          refine lv_topi (fun t248 ht248 => ?_)
          have xt248 : (zI s229 rP (ix y)).toInt = t248.toInt := by rw [ht248]; exact congrArg (fun q9 => (zI s229 rP q9).toInt) (show ix y = ix y from rfl)
          try simp only [K232, K232r, J233, P234] at xt248
          refine lv_isub hx hb dX6_predicted_97 ?_
          first | refine g_sub (by omega) (by omega) (fun t249 ht249 => ?_) | refine lv_topi (fun t249 ht249 => ?_)
          refine lv_i2l hx hb dX6_predicted_98 rfl ?_
          refine g_i2l (fun t250 ht250 => ?_)
          have hTo := hT
          refine tSl (n := 2) (As := [.long t246, .long t250]) (rest := [.long t236]) hx hb hml hown hg hT hK hX (X6v_floor l κ s229 t246 t250   (by omega)) (fun _ _ h => h) (mwS k1469 k1470 k92 k1471) ⟨rfl, by decide, by decide, by decide +kernel⟩ ⟨(Nat.le_of_ble_eq_true rfl), (Nat.le_of_ble_eq_true rfl)⟩ rfl hl.1 rfl (Nat.le_of_ble_eq_true rfl) dX6_predicted_99 zroom.rf (fun x251 s252 H locs hφ hEs252 hT => ?_)
          have f253 := hφ
          have K254 : zI s252 this 7 = zI σ0 this 7 := hT.eI t_this (by decide) rfl rfl
          have K254n : (zI s252 this 7).toInt = (zI σ0 this 7).toInt := by rw [K254]
          have K254r : rN s252 this = rN σ0 this := by unfold rN; rw [K254]
          have J255 : zJ s252 rW = zJ σ0 rW := funext fun k => hT.eJ trW (by decide) rfl rfl
          have J255n : (zJ s252 (kR κ this 1) 4).toInt = (zJ σ0 rW 4).toInt := by rw [erW, J255]
          have P256 : zI s252 rP = zI σ0 rP := funext fun k => hT.eI trP (by decide) rfl rfl
          try simp only [erW, erP, ix_0, ix_1, ix_2, ix_3, ix_4, ix_5, ix_6, ix_7, ix_8, ix_9, K232, K232r, J233, P234, K254, K254r, J255, P256] at f253
          have xc9 : t250.toInt = plf (zI σ0 rP) (ix z) - plf (zI σ0 rP) (ix y) := by omega
          rw [ht246, xc9] at f253
          refine lv_ladd hx hb dX6_predicted_102 ?_
          refine g_addl (by omega) (by omega) (fun t257 ht257 => ?_)
          subst hQ9
          exact t_l hx hb hr hlocks hT (by rw [erW, erP]; unfold prd; rw [if_neg (by omega), if_pos (by omega)]; omega) dX6_predicted_103
        · have c9 := gi_eq c9
          refine lv_aload_n hx hb dX6_predicted_36 rfl (lv_at hl 0 rfl) ?_
          refine va_get (D := κ.1) (ci := 6) (v := .ref (kR κ this 1)) (C := RX6) (T := TX6) (N := 27) hx hb hg inX6 hown hK (hT.o20 (hT.k t_this (by decide))).one 0 rfl rfl 1 (by decide) (hg _ k1220) (fun _ h9 => h9) rfl dX6_predicted_37 ?_
          rw [erW]
          refine lv_iconst (v := 5) hx hb dX6_predicted_40 (by decide) ?_
          refine lv_iload_n hx hb dX6_predicted_41 rfl (lv_at hl 3 rfl) ?_
          refine lv_iadd hx hb dX6_predicted_42 ?_
          first | refine g_add (by omega) (by omega) (fun t258 ht258 => ?_) | refine lv_topi (fun t258 ht258 => ?_)
          refine va_lald hx hb hK (hT.o21 (hT.k trW (by decide))).one 0 1 rfl rfl (g_in (by omega) (by omega)) dX6_predicted_43 ?_
          refine lv_topl (fun t259 ht259 => ?_)
          have xt259 : rvl (zJ s229 rW) (ix z) = t259.toInt := by rw [ht259]; exact congrArg (fun q9 => (zJ s229 rW q9).toInt) (show 5 + ix z = ix t258 from by unfold ix; omega)
          try simp only [K232, K232r, J233, P234] at xt259
          subst hQ9
          exact t_l hx hb hr hlocks hT (by rw [erW, erP]; unfold prd; rw [if_neg (by omega), if_neg (by omega)]; omega) dX6_predicted_44
      · have c10 := gi_ne c9
        refine lv_aload_n hx hb dX6_predicted_21 rfl (lv_at hl 0 rfl) ?_
        refine va_get (D := κ.1) (ci := 6) (v := .ref (kR κ this 1)) (C := RX6) (T := TX6) (N := 27) hx hb hg inX6 hown hK (hT.o20 (hT.k t_this (by decide))).one 0 rfl rfl 1 (by decide) (hg _ k1220) (fun _ h9 => h9) rfl dX6_predicted_22 ?_
        rw [erW]
        refine lv_iconst (v := 5) hx hb dX6_predicted_25 (by decide) ?_
        refine lv_iload_n hx hb dX6_predicted_26 rfl (lv_at hl 2 rfl) ?_
        refine lv_iadd hx hb dX6_predicted_27 ?_
        first | refine g_add (by omega) (by omega) (fun t260 ht260 => ?_) | refine lv_topi (fun t260 ht260 => ?_)
        refine va_lald hx hb hK (hT.o21 (hT.k trW (by decide))).one 0 1 rfl rfl (g_in (by omega) (by omega)) dX6_predicted_28 ?_
        refine lv_topl (fun t261 ht261 => ?_)
        have xt261 : rvl (zJ s229 rW) (ix y) = t261.toInt := by rw [ht261]; exact congrArg (fun q9 => (zJ s229 rW q9).toInt) (show 5 + ix y = ix t260 from by unfold ix; omega)
        try simp only [K232, K232r, J233, P234] at xt261
        subst hQ9
        exact t_l hx hb hr hlocks hT (by rw [erW, erP]; unfold prd; rw [if_pos (by omega)]; omega) dX6_predicted_29
set_option maxHeartbeats 4000000 in
set_option maxRecDepth 100000 in
theorem X6v_shareOf (l : Launch) (κ : Kt) (σ0 : Gh) (this : Nat) (x : Int32) (y : Int32) (z : Int32) (md : Int32) (t_this : zk σ0 this 20) (h0 : RI κ σ0 this) (h1 : 0 ≤ y.toInt) (h2 : y.toInt < x.toInt) (h3 : x.toInt < z.toInt) (h4 : z.toInt < (zI σ0 this 7).toInt) (h5 : md.toInt = 0 ∨ md.toInt = 1 ∨ md.toInt = 2) (h6 : 1 ≤ rwt (zJ σ0 (kR κ this 1)) (ix x)) (h7 : rwt (zJ σ0 (kR κ this 1)) (ix x) ≤ 20000) : TC l yX6_shareOf cX6_shareOf 7 (some .long) 1 25 [.ref this, .int x, .int y, .int z, .int md] κ σ0 (tql κ fE σ0 (fun (r : Int64) (τ : Gh) => (r.toInt = shr (plf (zI σ0 (kR κ this 5))) (rwt (zJ σ0 (kR κ this 1))) md.toInt (ix x) (ix y) (ix z)) ∧ (0 ≤ r.toInt) ∧ (r.toInt ≤ rwt (zJ σ0 (kR κ this 1)) (ix x)))) := by
  refine TC.of fE (by decide +kernel) (Nat.le_of_ble_eq_true rfl) ?_
  intro p e s m below meth c ls hcs hK hX hT hl
  obtain ⟨hx, hb, hr, hml, hown, hg, hlocks, hin⟩ := hcs
  have hown : s.vm.findClass RX6 = some m.cls := hown
  have hl : lv_has ls 7 [(0, .ref this), (1, .int x), (2, .int y), (3, .int z), (4, .int md)] := hl
  have hT0 := hT
  have n0 : (0 : Int32).toInt = 0 := by decide
  have n2 : (2 : Int32).toInt = 2 := by decide
  have n53 : (53 : Int32).toInt = 53 := by decide
  have j0 : (0 : Int64).toInt = 0 := by decide
  have x_lo := Int32.le_toInt x
  have x_hi := Int32.toInt_lt x
  have y_lo := Int32.le_toInt y
  have y_hi := Int32.toInt_lt y
  have z_lo := Int32.le_toInt z
  have z_hi := Int32.toInt_lt z
  have md_lo := Int32.le_toInt md
  have md_hi := Int32.toInt_lt md
  generalize hQ9 : tQ _ _ _ _ _ _ = Q9
  obtain ⟨rW, erW⟩ : ∃ z, kR κ this 1 = z := ⟨_, rfl⟩
  have trW : zk σ0 rW 21 := by rw [← erW]; exact h0.1.2.1
  obtain ⟨rP, erP⟩ : ∃ z, kR κ this 5 = z := ⟨_, rfl⟩
  have trP : zk σ0 rP 25 := by rw [← erP]; exact h0.1.2.2.2.2
  have hB0 := h0.b
  rw [erW] at hB0
  have hW := h0.2.1
  rw [erW] at hW
  have hP := h0.2.2.1
  rw [erP] at hP
  have hrN : (rN σ0 this : Int) = (zI σ0 this 7).toInt := by unfold rN; omega
  try simp only [erW, erP] at h6
  try simp only [erW, erP] at h7
  have g1 := hP.lt (i := ix y) (j := ix x) (by unfold ix; omega) (by unfold ix; omega)
  have g2 := hP.lt (i := ix x) (j := ix z) (by unfold ix; omega) (by unfold ix; omega)
  have g3 := (hP (ix y) (by unfold ix; omega)).1
  have g4 := (hP (ix z) (by unfold ix; omega)).1
  have hxx : ∀ k : Int32, 0 ≤ k.toInt → (ix k : Int) = k.toInt := fun k q => by unfold ix; omega
  have px9 : plf (zI σ0 rP) (ix x) = (zI σ0 rP (ix x)).toInt := rfl
  have py9 : plf (zI σ0 rP) (ix y) = (zI σ0 rP (ix y)).toInt := rfl
  have pz9 : plf (zI σ0 rP) (ix z) = (zI σ0 rP (ix z)).toInt := rfl
  refine lv_aload_n hx hb dX6_shareOf_0 rfl (lv_at hl 0 rfl) ?_
  refine va_get (D := κ.1) (ci := 6) (v := .ref (kR κ this 1)) (C := RX6) (T := TX6) (N := 27) hx hb hg inX6 hown hK (hT.o20 (hT.k t_this (by decide))).one 0 rfl rfl 1 (by decide) (hg _ k1220) (fun _ h9 => h9) rfl dX6_shareOf_1 ?_
  rw [erW]
  refine lv_bipush (v := 53) hx hb dX6_shareOf_4 (by decide) ?_
  refine lv_iload_n hx hb dX6_shareOf_6 rfl (lv_at hl 1 rfl) ?_
  refine lv_iadd hx hb dX6_shareOf_7 ?_
  first | refine g_add (by omega) (by omega) (fun t201 ht201 => ?_) | refine lv_topi (fun t201 ht201 => ?_)
  refine va_lald hx hb hK (hT.o21 (hT.k trW (by decide))).one 0 1 rfl rfl (g_in (by omega) (by omega)) dX6_shareOf_8 ?_
  refine lv_topl (fun t202 ht202 => ?_)
  have xt202 : rwt (zJ σ0 rW) (ix x) = t202.toInt := by rw [ht202]; exact congrArg (fun q9 => (zJ σ0 rW q9).toInt) (show 53 + ix x = ix t201 from by unfold ix; omega)
  refine lv_lstore (lv' := [(5, .long t202), (0, .ref this), (1, .int x), (2, .int y), (3, .int z), (4, .int md)]) hx hb dX6_shareOf_9 hl (by decide) rfl (fun ls hl => ?_)
  refine lv_iload hx hb dX6_shareOf_11 (lv_at hl 5 rfl) ?_
  refine lv_iconst (v := 2) hx hb dX6_shareOf_13 (by decide) ?_
  refine lv_icmp_ne (tgt := 52) hx hb dX6_shareOf_14 (by decide) (fun c9 => ?_) (fun c9 => ?_)
  · have c1 := gi_ne c9
    refine lv_iload hx hb dX6_shareOf_52 (lv_at hl 5 rfl) ?_
    refine lv_if_eq (tgt := 67) hx hb dX6_shareOf_54 (by decide) (fun c9 => ?_) (fun c9 => ?_)
    · have c2 := gi_eq c9
      refine lv_lload hx hb dX6_shareOf_67 (lv_at hl 0 rfl) ?_
      refine lv_goto (tgt := 73) hx hb dX6_shareOf_69 (by decide) ?_
      subst hQ9
      exact t_l hx hb hr hlocks hT ⟨by rw [erW, erP]; unfold shr; rw [if_neg (by omega), if_pos (by omega)]; omega, by omega, by rw [erW]; omega⟩ dX6_shareOf_73
    · have c3 := gi_ne c9
      refine lv_aload_n hx hb dX6_shareOf_57 rfl (lv_at hl 1 rfl) ?_
      refine lv_iload_n hx hb dX6_shareOf_58 rfl (lv_at hl 2 rfl) ?_
      refine lv_iload_n hx hb dX6_shareOf_59 rfl (lv_at hl 3 rfl) ?_
      refine lv_iload_n hx hb dX6_shareOf_60 rfl (lv_at hl 4 rfl) ?_
      have hTo := hT
      refine tVi (n := 3) (As := [.int x, .int y, .int z]) (rest := []) hx hb hml hown hg hT hK hX (X6v_near l κ σ0 this x y z  (hT.k t_this (by decide)) h0 (by omega) (by omega) (by omega) (by omega)) (fun _ _ h => h) (mwV k1543 k1545 k68 k92 k1546) ⟨rfl, by decide, by decide, by decide +kernel⟩ ⟨(Nat.le_of_ble_eq_true rfl), (Nat.le_of_ble_eq_true rfl)⟩ (hT.o20 (hT.k t_this (by decide))) rfl rfl hl.1 rfl (Nat.le_of_ble_eq_true rfl) dX6_shareOf_61 zroom.rf (fun x203 s204 H locs hφ hEs204 hT => ?_)
      obtain ⟨f205, f206⟩ := hφ
      have K207 : zI s204 this 7 = zI σ0 this 7 := hT.eI t_this (by decide) rfl rfl
      have K207n : (zI s204 this 7).toInt = (zI σ0 this 7).toInt := by rw [K207]
      have K207r : rN s204 this = rN σ0 this := by unfold rN; rw [K207]
      have J208 : zJ s204 rW = zJ σ0 rW := funext fun k => hT.eJ trW (by decide) rfl rfl
      have J208n : (zJ s204 (kR κ this 1) 4).toInt = (zJ σ0 rW 4).toInt := by rw [erW, J208]
      have P209 : zI s204 rP = zI σ0 rP := funext fun k => hT.eI trP (by decide) rfl rfl
      try simp only [erW, erP, ix_0, ix_1, ix_2, ix_3, ix_4, ix_5, ix_6, ix_7, ix_8, ix_9, K207, K207r, J208, P209] at f205
      refine lv_if_eq (tgt := 72) hx hb dX6_shareOf_64 (by decide) (fun c9 => ?_) (fun c9 => ?_)
      · have c4 := gi_eq c9
        refine lv_lconst (v := 0) hx hb dX6_shareOf_72 (by decide) ?_
        subst hQ9
        exact t_l hx hb hr hlocks hT ⟨by rw [erW, erP]; unfold shr; rw [if_neg (by omega), if_neg (by omega)]; omega, by omega, by rw [erW]; omega⟩ dX6_shareOf_73
      · have c5 := gi_ne c9
        refine lv_lload hx hb dX6_shareOf_67 (lv_at hl 0 rfl) ?_
        refine lv_goto (tgt := 73) hx hb dX6_shareOf_69 (by decide) ?_
        subst hQ9
        exact t_l hx hb hr hlocks hT ⟨by rw [erW, erP]; unfold shr; rw [if_neg (by omega), if_pos (by omega)]; omega, by omega, by rw [erW]; omega⟩ dX6_shareOf_73
  · have c6 := gi_eq c9
    refine lv_lload hx hb dX6_shareOf_17 (lv_at hl 0 rfl) ?_
    refine lv_aload_n hx hb dX6_shareOf_19 rfl (lv_at hl 1 rfl) ?_
    refine va_get (D := κ.1) (ci := 6) (v := .ref (kR κ this 5)) (C := RX6) (T := TX6) (N := 27) hx hb hg inX6 hown hK (hT.o20 (hT.k t_this (by decide))).one 0 rfl rfl 5 (by decide) (hg _ k1224) (fun _ h9 => h9) rfl dX6_shareOf_20 ?_
    rw [erP]
    refine lv_iload_n hx hb dX6_shareOf_23 rfl (lv_at hl 4 rfl) ?_
    refine va_iald hx hb hK (hT.o25 (hT.k trP (by decide))).one 0 0 rfl rfl (g_in (by omega) (by omega)) dX6_shareOf_24 ?_
    refine lv_topi (fun t210 ht210 => ?_)
    have xt210 : (zI σ0 rP (ix z)).toInt = t210.toInt := by rw [ht210]; exact congrArg (fun q9 => (zI σ0 rP q9).toInt) (show ix z = ix z from rfl)
    refine lv_aload_n hx hb dX6_shareOf_25 rfl (lv_at hl 1 rfl) ?_
    refine va_get (D := κ.1) (ci := 6) (v := .ref (kR κ this 5)) (C := RX6) (T := TX6) (N := 27) hx hb hg inX6 hown hK (hT.o20 (hT.k t_this (by decide))).one 0 rfl rfl 5 (by decide) (hg _ k1224) (fun _ h9 => h9) rfl dX6_shareOf_26 ?_
    rw [erP]
    refine lv_iload_n hx hb dX6_shareOf_29 rfl (lv_at hl 2 rfl) ?_
    refine va_iald hx hb hK (hT.o25 (hT.k trP (by decide))).one 0 0 rfl rfl (g_in (by omega) (by omega)) dX6_shareOf_30 ?_
    refine lv_topi (fun t211 ht211 => ?_)
    have xt211 : (zI σ0 rP (ix x)).toInt = t211.toInt := by rw [ht211]; exact congrArg (fun q9 => (zI σ0 rP q9).toInt) (show ix x = ix x from rfl)
    refine lv_isub hx hb dX6_shareOf_31 ?_
    first | refine g_sub (by omega) (by omega) (fun t212 ht212 => ?_) | refine lv_topi (fun t212 ht212 => ?_)
    refine lv_i2l hx hb dX6_shareOf_32 rfl ?_
    refine g_i2l (fun t213 ht213 => ?_)
    have xa9 : t202.toInt = rwt (zJ σ0 rW) (ix x) := by omega
    have xb9 : t213.toInt = plf (zI σ0 rP) (ix z) - plf (zI σ0 rP) (ix x) := by omega
    have m9 := mul_bd (a := rwt (zJ σ0 rW) (ix x)) (x := plf (zI σ0 rP) (ix z) - plf (zI σ0 rP) (ix x)) (A := 20000) (B := 9999) (by omega) (by omega) (by omega) (by omega)
    have m8 := Int.mul_nonneg (show 0 ≤ rwt (zJ σ0 rW) (ix x) by omega) (show 0 ≤ plf (zI σ0 rP) (ix z) - plf (zI σ0 rP) (ix x) by omega)
    refine lv_lmul hx hb dX6_shareOf_33 ?_
    refine g_mull (by rw [xa9, xb9]; omega) (by rw [xa9, xb9]; omega) (fun t214 ht214 => ?_)
    rw [xa9, xb9] at ht214
    refine lv_aload_n hx hb dX6_shareOf_34 rfl (lv_at hl 1 rfl) ?_
    refine va_get (D := κ.1) (ci := 6) (v := .ref (kR κ this 5)) (C := RX6) (T := TX6) (N := 27) hx hb hg inX6 hown hK (hT.o20 (hT.k t_this (by decide))).one 0 rfl rfl 5 (by decide) (hg _ k1224) (fun _ h9 => h9) rfl dX6_shareOf_35 ?_
    rw [erP]
    refine lv_iload_n hx hb dX6_shareOf_38 rfl (lv_at hl 4 rfl) ?_
    refine va_iald hx hb hK (hT.o25 (hT.k trP (by decide))).one 0 0 rfl rfl (g_in (by omega) (by omega)) dX6_shareOf_39 ?_
    refine lv_topi (fun t215 ht215 => ?_)
    have xt215 : (zI σ0 rP (ix z)).toInt = t215.toInt := by rw [ht215]; exact congrArg (fun q9 => (zI σ0 rP q9).toInt) (show ix z = ix z from rfl)
    refine lv_aload_n hx hb dX6_shareOf_40 rfl (lv_at hl 1 rfl) ?_
    refine va_get (D := κ.1) (ci := 6) (v := .ref (kR κ this 5)) (C := RX6) (T := TX6) (N := 27) hx hb hg inX6 hown hK (hT.o20 (hT.k t_this (by decide))).one 0 rfl rfl 5 (by decide) (hg _ k1224) (fun _ h9 => h9) rfl dX6_shareOf_41 ?_
    rw [erP]
    refine lv_iload_n hx hb dX6_shareOf_44 rfl (lv_at hl 3 rfl) ?_
    refine va_iald hx hb hK (hT.o25 (hT.k trP (by decide))).one 0 0 rfl rfl (g_in (by omega) (by omega)) dX6_shareOf_45 ?_
    refine lv_topi (fun t216 ht216 => ?_)
    have xt216 : (zI σ0 rP (ix y)).toInt = t216.toInt := by rw [ht216]; exact congrArg (fun q9 => (zI σ0 rP q9).toInt) (show ix y = ix y from rfl)
    refine lv_isub hx hb dX6_shareOf_46 ?_
    first | refine g_sub (by omega) (by omega) (fun t217 ht217 => ?_) | refine lv_topi (fun t217 ht217 => ?_)
    refine lv_i2l hx hb dX6_shareOf_47 rfl ?_
    refine g_i2l (fun t218 ht218 => ?_)
    have hTo := hT
    refine tSl (n := 2) (As := [.long t214, .long t218]) (rest := []) hx hb hml hown hg hT hK hX (X6v_floor l κ σ0 t214 t218   (by omega)) (fun _ _ h => h) (mwS k1469 k1470 k92 k1471) ⟨rfl, by decide, by decide, by decide +kernel⟩ ⟨(Nat.le_of_ble_eq_true rfl), (Nat.le_of_ble_eq_true rfl)⟩ rfl hl.1 rfl (Nat.le_of_ble_eq_true rfl) dX6_shareOf_48 zroom.rf (fun x219 s220 H locs hφ hEs220 hT => ?_)
    have f221 := hφ
    have K222 : zI s220 this 7 = zI σ0 this 7 := hT.eI t_this (by decide) rfl rfl
    have K222n : (zI s220 this 7).toInt = (zI σ0 this 7).toInt := by rw [K222]
    have K222r : rN s220 this = rN σ0 this := by unfold rN; rw [K222]
    have J223 : zJ s220 rW = zJ σ0 rW := funext fun k => hT.eJ trW (by decide) rfl rfl
    have J223n : (zJ s220 (kR κ this 1) 4).toInt = (zJ σ0 rW 4).toInt := by rw [erW, J223]
    have P224 : zI s220 rP = zI σ0 rP := funext fun k => hT.eI trP (by decide) rfl rfl
    try simp only [erW, erP, ix_0, ix_1, ix_2, ix_3, ix_4, ix_5, ix_6, ix_7, ix_8, ix_9, K222, K222r, J223, P224] at f221
    have xc9 : t218.toInt = (plf (zI σ0 rP) (ix z) - plf (zI σ0 rP) (ix y)) := by omega
    rw [ht214, xc9] at f221
    have e9 := (ediv_in (z := rwt (zJ σ0 rW) (ix x)) (x := plf (zI σ0 rP) (ix z) - plf (zI σ0 rP) (ix x)) (D := (plf (zI σ0 rP) (ix z) - plf (zI σ0 rP) (ix y))) (by omega) (by omega) (by omega)).1 (by omega)
    subst hQ9
    exact t_l hx hb hr hlocks hT ⟨by rw [erW, erP]; unfold shr; rw [if_pos (by omega)]; omega, by omega, by rw [erW]; omega⟩ dX6_shareOf_51
set_option maxHeartbeats 4000000 in
set_option maxRecDepth 100000 in
theorem X6v_besideR (l : Launch) (κ : Kt) (σ0 : Gh) (this : Nat) (i : Int32) (d : Int32) (t_this : zk σ0 this 20) (h0 : RI κ σ0 this) (h1 : 0 < i.toInt) (h2 : i.toInt < (zI σ0 this 7).toInt - 1) (h3 : d.toInt = 1) : TC l yX6_beside cX6_beside 4 (some .int) 2 46 [.ref this, .int i, .int d] κ σ0 (tqi κ fE σ0 (fun (r : Int32) (τ : Gh) => (∃ q : Nat, r.toInt = q ∧ RN (rN σ0 this) (rlf (zJ σ0 (kR κ this 1))) (ix i) q))) := by
  refine TC.of fE (by decide +kernel) (Nat.le_of_ble_eq_true rfl) ?_
  intro p e s m below meth c ls hcs hK hX hT hl
  obtain ⟨hx, hb, hr, hml, hown, hg, hlocks, hin⟩ := hcs
  have hown : s.vm.findClass RX6 = some m.cls := hown
  have hl : lv_has ls 4 [(0, .ref this), (1, .int i), (2, .int d)] := hl
  have hT0 := hT
  have n0 : (0 : Int32).toInt = 0 := by decide
  have i_lo := Int32.le_toInt i
  have i_hi := Int32.toInt_lt i
  have d_lo := Int32.le_toInt d
  have d_hi := Int32.toInt_lt d
  generalize hQ9 : tQ _ _ _ _ _ _ = Q9
  obtain ⟨rW, erW⟩ : ∃ z, kR κ this 1 = z := ⟨_, rfl⟩
  have trW : zk σ0 rW 21 := by rw [← erW]; exact h0.1.2.1
  obtain ⟨rP, erP⟩ : ∃ z, kR κ this 5 = z := ⟨_, rfl⟩
  have trP : zk σ0 rP 25 := by rw [← erP]; exact h0.1.2.2.2.2
  have hB0 := h0.b
  rw [erW] at hB0
  have hW := h0.2.1
  rw [erW] at hW
  have hP := h0.2.2.1
  rw [erP] at hP
  have hrN : (rN σ0 this : Int) = (zI σ0 this 7).toInt := by unfold rN; omega
  refine lv_iload_n hx hb dX6_beside_0 rfl (lv_at hl 1 rfl) ?_
  refine lv_iload_n hx hb dX6_beside_1 rfl (lv_at hl 2 rfl) ?_
  refine lv_iadd hx hb dX6_beside_2 ?_
  first | refine g_add (by omega) (by omega) (fun t201 ht201 => ?_) | refine lv_topi (fun t201 ht201 => ?_)
  refine lv_istore_n (lv' := [(3, .int t201), (0, .ref this), (1, .int i), (2, .int d)]) hx hb dX6_beside_3 rfl hl (by decide) rfl (fun ls hl => ?_)
  have loop4 : ∀ (n9 : Nat) (to : Int32) (H : Heap) (locs : List Loc) (sg : Gh) (ls : Array Slot), TS κ fE σ0 sg s H locs → (i.toInt < to.toInt) → (to.toInt ≤ (zI σ0 this 7).toInt - 1) → (∀ z : Nat, ix i < z → (z : Int) < to.toInt → rlf (zJ σ0 rW) z ≠ -1) → lv_has ls 4 [(3, .int to), (0, .ref this), (1, .int i), (2, .int d)] → (49 - to.toInt) < n9 → tW p l e 2 46 κ s m #[.ref this, .int i, .int d] below meth c H locs Q9 (F0 m 4 ls []) := by
    intro n9
    induction n9 with
    | zero =>
      intro to H locs sg ls hT q1 q2 q4 hl hm9
      exfalso
      omega
    | succ n9 ih9 =>
      have ih4 := ih9
      clear ih9
      intro to H locs s202 ls hT q1 q2 q4 hl hm9
      refine lv_iload_n hx hb dX6_beside_4 rfl (lv_at hl 0 rfl) ?_
      have i_i : 0 ≤ i.toInt → (ix i : Int) = i.toInt := fun q9 => by unfold ix; omega
      have i_j : 0 ≤ to.toInt → (ix to : Int) = to.toInt := fun q9 => by unfold ix; omega
      refine lv_if_lt (tgt := 31) hx hb dX6_beside_5 (by decide) (fun c9 => ?_) (fun c9 => ?_)
      · have c1 := gi_lt c9
        exfalso; omega
      · have c2 := gi_nlt c9
        refine lv_iload_n hx hb dX6_beside_8 rfl (lv_at hl 0 rfl) ?_
        refine lv_aload_n hx hb dX6_beside_9 rfl (lv_at hl 1 rfl) ?_
        obtain ⟨v203, ev203⟩ : ∃ zz9 : Int32, zI σ0 this 7 = zz9 := ⟨_, rfl⟩
        have qv203 : v203.toInt = (zI σ0 this 7).toInt := by rw [ev203]
        refine va_get (D := κ.1) (ci := 6) (v := .int (zI s202 this 7)) (C := RX6) (T := TX6) (N := 27) hx hb hg inX6 hown hK (hT.o20 (hT.k t_this (by decide))).one 0 rfl rfl 7 (by decide) (hg _ k1226) (fun _ h9 => h9) rfl dX6_beside_10 ?_
        rw [(hT.eI t_this (by decide) rfl ev203)]
        refine lv_icmp_ge (tgt := 31) hx hb dX6_beside_13 (by decide) (fun c9 => ?_) (fun c9 => ?_)
        · have c3 := gi_le c9
          exfalso; omega
        · have c4 := gi_nle c9
          refine lv_aload_n hx hb dX6_beside_16 rfl (lv_at hl 1 rfl) ?_
          refine lv_iload_n hx hb dX6_beside_17 rfl (lv_at hl 0 rfl) ?_
          have K204 : zI s202 this 7 = zI σ0 this 7 := hT.eI t_this (by decide) rfl rfl
          have K204n : (zI s202 this 7).toInt = (zI σ0 this 7).toInt := by rw [K204]
          have K204r : rN s202 this = rN σ0 this := by unfold rN; rw [K204]
          have J205 : zJ s202 rW = zJ σ0 rW := funext fun k => hT.eJ trW (by decide) rfl rfl
          have J205n : (zJ s202 (kR κ this 1) 4).toInt = (zJ σ0 rW 4).toInt := by rw [erW, J205]
          have P206 : zI s202 rP = zI σ0 rP := funext fun k => hT.eI trP (by decide) rfl rfl
          have R207 : RI κ s202 this := h0.ext hT.2.2.1 ⟨rfl, rfl, fun _ => rfl, fun _ => rfl, fun _ => rfl, fun _ => rfl⟩
          have hTo := hT
          refine tVi (n := 1) (As := [.int to]) (rest := []) hx hb hml hown hg hT hK hX (X6_isPresent l κ s202 this to  (hT.k t_this (by decide)) R207 (by omega) (by omega)) (fun _ _ h => h) (mwV k1432 k1434 k56 k92 k1435) ⟨rfl, by decide, by decide, by decide +kernel⟩ ⟨(Nat.le_of_ble_eq_true rfl), (Nat.le_of_ble_eq_true rfl)⟩ (hT.o20 (hT.k t_this (by decide))) rfl rfl hl.1 rfl (Nat.le_of_ble_eq_true rfl) dX6_beside_18 zroom.rf (fun x208 s209 H locs hφ hEs209 hT => ?_)
          obtain ⟨f210, f211⟩ := hφ
          have K212 : zI s209 this 7 = zI σ0 this 7 := hT.eI t_this (by decide) rfl rfl
          have K212n : (zI s209 this 7).toInt = (zI σ0 this 7).toInt := by rw [K212]
          have K212r : rN s209 this = rN σ0 this := by unfold rN; rw [K212]
          have J213 : zJ s209 rW = zJ σ0 rW := funext fun k => hT.eJ trW (by decide) rfl rfl
          have J213n : (zJ s209 (kR κ this 1) 4).toInt = (zJ σ0 rW 4).toInt := by rw [erW, J213]
          have P214 : zI s209 rP = zI σ0 rP := funext fun k => hT.eI trP (by decide) rfl rfl
          try simp only [erW, erP, ix_0, ix_1, ix_2, ix_3, ix_4, ix_5, ix_6, ix_7, ix_8, ix_9, K204, K204r, J205, P206, K212, K212r, J213, P214] at f210
          have ito : 0 ≤ to.toInt → (ix to : Int) = to.toInt := fun q9 => by unfold ix; omega
          have zto : (zI σ0 this 7).toInt - 1 = to.toInt → rlf (zJ σ0 rW) (ix to) = -1 := fun q9 => by rw [show ix to = rN σ0 this - 1 from by omega]; exact hW.f.2.2.1
          have yto : 0 = to.toInt → rlf (zJ σ0 rW) (ix to) = -1 := fun q9 => by rw [show ix to = 0 from by omega]; exact hW.f.2.1
          refine lv_if_ne (tgt := 31) hx hb dX6_beside_21 (by decide) (fun c9 => ?_) (fun c9 => ?_)
          · have c5 := gi_ne c9
            refine lv_aload_n hx hb dX6_beside_31 rfl (lv_at hl 1 rfl) ?_
            refine lv_iload_n hx hb dX6_beside_32 rfl (lv_at hl 0 rfl) ?_
            have R215 : RI κ s209 this := h0.ext hT.2.2.1 ⟨rfl, rfl, fun _ => rfl, fun _ => rfl, fun _ => rfl, fun _ => rfl⟩
            have hTo := hT
            refine tVi (n := 1) (As := [.int to]) (rest := []) hx hb hml hown hg hT hK hX (X6_isSample l κ s209 this to  (hT.k t_this (by decide)) R215) (fun _ _ h => h) (mwV k1440 k1442 k57 k92 k1443) ⟨rfl, by decide, by decide, by decide +kernel⟩ ⟨(Nat.le_of_ble_eq_true rfl), (Nat.le_of_ble_eq_true rfl)⟩ (hT.o20 (hT.k t_this (by decide))) rfl rfl hl.1 rfl (Nat.le_of_ble_eq_true rfl) dX6_beside_33 zroom.rf (fun x216 s217 H locs hφ hEs217 hT => ?_)
            obtain ⟨f218, f219⟩ := hφ
            have K220 : zI s217 this 7 = zI σ0 this 7 := hT.eI t_this (by decide) rfl rfl
            have K220n : (zI s217 this 7).toInt = (zI σ0 this 7).toInt := by rw [K220]
            have K220r : rN s217 this = rN σ0 this := by unfold rN; rw [K220]
            have J221 : zJ s217 rW = zJ σ0 rW := funext fun k => hT.eJ trW (by decide) rfl rfl
            have J221n : (zJ s217 (kR κ this 1) 4).toInt = (zJ σ0 rW 4).toInt := by rw [erW, J221]
            have P222 : zI s217 rP = zI σ0 rP := funext fun k => hT.eI trP (by decide) rfl rfl
            try simp only [erW, erP, ix_0, ix_1, ix_2, ix_3, ix_4, ix_5, ix_6, ix_7, ix_8, ix_9, K212, K212r, J213, P214, K220, K220r, J221, P222] at f218
            refine lv_if_eq (tgt := 43) hx hb dX6_beside_36 (by decide) (fun c9 => ?_) (fun c9 => ?_)
            · have c6 := gi_eq c9
              exfalso; omega
            · have c7 := gi_ne c9
              refine lv_iload_n hx hb dX6_beside_39 rfl (lv_at hl 0 rfl) ?_
              refine lv_goto (tgt := 44) hx hb dX6_beside_40 (by decide) ?_
              have l9 : rlf (zJ σ0 rW) (ix to) = -1 := by omega
              subst hQ9
              exact t_i hx hb hr hlocks hT ⟨ix to, by omega, by rw [erW]; exact (show RN (rN σ0 this) (rlf (zJ σ0 rW)) (ix i) (ix to) from ⟨⟨by omega, by omega⟩, l9, fun z h1 h2 => q4 z h1 (by omega)⟩)⟩ dX6_beside_44
          · have c8 := gi_eq c9
            refine lv_iload_n hx hb dX6_beside_24 rfl (lv_at hl 0 rfl) ?_
            refine lv_iload_n hx hb dX6_beside_25 rfl (lv_at hl 3 rfl) ?_
            refine lv_iadd hx hb dX6_beside_26 ?_
            first | refine g_add (by omega) (by omega) (fun t223 ht223 => ?_) | refine lv_topi (fun t223 ht223 => ?_)
            refine lv_istore_n (lv' := [(3, .int t223), (0, .ref this), (1, .int i), (2, .int d)]) hx hb dX6_beside_27 rfl hl (by decide) rfl (fun ls hl => ?_)
            refine lv_goto (tgt := 4) hx hb dX6_beside_28 (by decide) ?_
            have ne224 : rlf (zJ σ0 rW) (ix to) ≠ -1 := by omega
            exact ih4 t223 _ _ _ _ hT  (by omega) (by omega) (fun z h1 h2 => (Classical.em (z = ix to)).elim (fun e9 => by rw [e9]; exact ne224) (fun e9 => q4 z (by omega) (by omega))) hl (by omega)
  exact loop4 ((49 - t201.toInt).toNat + 1) t201 _ _ _ _ hT  (by omega) (by omega) (fun z h1 h2 => by unfold ix at h1; omega) hl (by omega)
set_option maxHeartbeats 4000000 in
set_option maxRecDepth 100000 in
theorem X6v_besideL (l : Launch) (κ : Kt) (σ0 : Gh) (this : Nat) (i : Int32) (d : Int32) (t_this : zk σ0 this 20) (h0 : RI κ σ0 this) (h1 : 0 < i.toInt) (h2 : i.toInt < (zI σ0 this 7).toInt - 1) (h3 : d.toInt = -1) : TC l yX6_beside cX6_beside 4 (some .int) 2 46 [.ref this, .int i, .int d] κ σ0 (tqi κ fE σ0 (fun (r : Int32) (τ : Gh) => (∃ q : Nat, r.toInt = q ∧ LN (rlf (zJ σ0 (kR κ this 1))) (ix i) q))) := by
  refine TC.of fE (by decide +kernel) (Nat.le_of_ble_eq_true rfl) ?_
  intro p e s m below meth c ls hcs hK hX hT hl
  obtain ⟨hx, hb, hr, hml, hown, hg, hlocks, hin⟩ := hcs
  have hown : s.vm.findClass RX6 = some m.cls := hown
  have hl : lv_has ls 4 [(0, .ref this), (1, .int i), (2, .int d)] := hl
  have hT0 := hT
  have n0 : (0 : Int32).toInt = 0 := by decide
  have i_lo := Int32.le_toInt i
  have i_hi := Int32.toInt_lt i
  have d_lo := Int32.le_toInt d
  have d_hi := Int32.toInt_lt d
  generalize hQ9 : tQ _ _ _ _ _ _ = Q9
  obtain ⟨rW, erW⟩ : ∃ z, kR κ this 1 = z := ⟨_, rfl⟩
  have trW : zk σ0 rW 21 := by rw [← erW]; exact h0.1.2.1
  obtain ⟨rP, erP⟩ : ∃ z, kR κ this 5 = z := ⟨_, rfl⟩
  have trP : zk σ0 rP 25 := by rw [← erP]; exact h0.1.2.2.2.2
  have hB0 := h0.b
  rw [erW] at hB0
  have hW := h0.2.1
  rw [erW] at hW
  have hP := h0.2.2.1
  rw [erP] at hP
  have hrN : (rN σ0 this : Int) = (zI σ0 this 7).toInt := by unfold rN; omega
  refine lv_iload_n hx hb dX6_beside_0 rfl (lv_at hl 1 rfl) ?_
  refine lv_iload_n hx hb dX6_beside_1 rfl (lv_at hl 2 rfl) ?_
  refine lv_iadd hx hb dX6_beside_2 ?_
  first | refine g_add (by omega) (by omega) (fun t201 ht201 => ?_) | refine lv_topi (fun t201 ht201 => ?_)
  refine lv_istore_n (lv' := [(3, .int t201), (0, .ref this), (1, .int i), (2, .int d)]) hx hb dX6_beside_3 rfl hl (by decide) rfl (fun ls hl => ?_)
  have loop4 : ∀ (n9 : Nat) (to : Int32) (H : Heap) (locs : List Loc) (sg : Gh) (ls : Array Slot), TS κ fE σ0 sg s H locs → (to.toInt < i.toInt) → (0 ≤ to.toInt) → (∀ z : Nat, to.toInt < (z : Int) → z < ix i → rlf (zJ σ0 rW) z ≠ -1) → lv_has ls 4 [(3, .int to), (0, .ref this), (1, .int i), (2, .int d)] → (to.toInt + 2) < n9 → tW p l e 2 46 κ s m #[.ref this, .int i, .int d] below meth c H locs Q9 (F0 m 4 ls []) := by
    intro n9
    induction n9 with
    | zero =>
      intro to H locs sg ls hT q1 q2 q4 hl hm9
      exfalso
      omega
    | succ n9 ih9 =>
      have ih4 := ih9
      clear ih9
      intro to H locs s202 ls hT q1 q2 q4 hl hm9
      refine lv_iload_n hx hb dX6_beside_4 rfl (lv_at hl 0 rfl) ?_
      have i_i : 0 ≤ i.toInt → (ix i : Int) = i.toInt := fun q9 => by unfold ix; omega
      have i_j : 0 ≤ to.toInt → (ix to : Int) = to.toInt := fun q9 => by unfold ix; omega
      refine lv_if_lt (tgt := 31) hx hb dX6_beside_5 (by decide) (fun c9 => ?_) (fun c9 => ?_)
      · have c1 := gi_lt c9
        exfalso; omega
      · have c2 := gi_nlt c9
        refine lv_iload_n hx hb dX6_beside_8 rfl (lv_at hl 0 rfl) ?_
        refine lv_aload_n hx hb dX6_beside_9 rfl (lv_at hl 1 rfl) ?_
        obtain ⟨v203, ev203⟩ : ∃ zz9 : Int32, zI σ0 this 7 = zz9 := ⟨_, rfl⟩
        have qv203 : v203.toInt = (zI σ0 this 7).toInt := by rw [ev203]
        refine va_get (D := κ.1) (ci := 6) (v := .int (zI s202 this 7)) (C := RX6) (T := TX6) (N := 27) hx hb hg inX6 hown hK (hT.o20 (hT.k t_this (by decide))).one 0 rfl rfl 7 (by decide) (hg _ k1226) (fun _ h9 => h9) rfl dX6_beside_10 ?_
        rw [(hT.eI t_this (by decide) rfl ev203)]
        refine lv_icmp_ge (tgt := 31) hx hb dX6_beside_13 (by decide) (fun c9 => ?_) (fun c9 => ?_)
        · have c3 := gi_le c9
          exfalso; omega
        · have c4 := gi_nle c9
          refine lv_aload_n hx hb dX6_beside_16 rfl (lv_at hl 1 rfl) ?_
          refine lv_iload_n hx hb dX6_beside_17 rfl (lv_at hl 0 rfl) ?_
          have K204 : zI s202 this 7 = zI σ0 this 7 := hT.eI t_this (by decide) rfl rfl
          have K204n : (zI s202 this 7).toInt = (zI σ0 this 7).toInt := by rw [K204]
          have K204r : rN s202 this = rN σ0 this := by unfold rN; rw [K204]
          have J205 : zJ s202 rW = zJ σ0 rW := funext fun k => hT.eJ trW (by decide) rfl rfl
          have J205n : (zJ s202 (kR κ this 1) 4).toInt = (zJ σ0 rW 4).toInt := by rw [erW, J205]
          have P206 : zI s202 rP = zI σ0 rP := funext fun k => hT.eI trP (by decide) rfl rfl
          have R207 : RI κ s202 this := h0.ext hT.2.2.1 ⟨rfl, rfl, fun _ => rfl, fun _ => rfl, fun _ => rfl, fun _ => rfl⟩
          have hTo := hT
          refine tVi (n := 1) (As := [.int to]) (rest := []) hx hb hml hown hg hT hK hX (X6_isPresent l κ s202 this to  (hT.k t_this (by decide)) R207 (by omega) (by omega)) (fun _ _ h => h) (mwV k1432 k1434 k56 k92 k1435) ⟨rfl, by decide, by decide, by decide +kernel⟩ ⟨(Nat.le_of_ble_eq_true rfl), (Nat.le_of_ble_eq_true rfl)⟩ (hT.o20 (hT.k t_this (by decide))) rfl rfl hl.1 rfl (Nat.le_of_ble_eq_true rfl) dX6_beside_18 zroom.rf (fun x208 s209 H locs hφ hEs209 hT => ?_)
          obtain ⟨f210, f211⟩ := hφ
          have K212 : zI s209 this 7 = zI σ0 this 7 := hT.eI t_this (by decide) rfl rfl
          have K212n : (zI s209 this 7).toInt = (zI σ0 this 7).toInt := by rw [K212]
          have K212r : rN s209 this = rN σ0 this := by unfold rN; rw [K212]
          have J213 : zJ s209 rW = zJ σ0 rW := funext fun k => hT.eJ trW (by decide) rfl rfl
          have J213n : (zJ s209 (kR κ this 1) 4).toInt = (zJ σ0 rW 4).toInt := by rw [erW, J213]
          have P214 : zI s209 rP = zI σ0 rP := funext fun k => hT.eI trP (by decide) rfl rfl
          try simp only [erW, erP, ix_0, ix_1, ix_2, ix_3, ix_4, ix_5, ix_6, ix_7, ix_8, ix_9, K204, K204r, J205, P206, K212, K212r, J213, P214] at f210
          have ito : 0 ≤ to.toInt → (ix to : Int) = to.toInt := fun q9 => by unfold ix; omega
          have zto : (zI σ0 this 7).toInt - 1 = to.toInt → rlf (zJ σ0 rW) (ix to) = -1 := fun q9 => by rw [show ix to = rN σ0 this - 1 from by omega]; exact hW.f.2.2.1
          have yto : 0 = to.toInt → rlf (zJ σ0 rW) (ix to) = -1 := fun q9 => by rw [show ix to = 0 from by omega]; exact hW.f.2.1
          refine lv_if_ne (tgt := 31) hx hb dX6_beside_21 (by decide) (fun c9 => ?_) (fun c9 => ?_)
          · have c5 := gi_ne c9
            refine lv_aload_n hx hb dX6_beside_31 rfl (lv_at hl 1 rfl) ?_
            refine lv_iload_n hx hb dX6_beside_32 rfl (lv_at hl 0 rfl) ?_
            have R215 : RI κ s209 this := h0.ext hT.2.2.1 ⟨rfl, rfl, fun _ => rfl, fun _ => rfl, fun _ => rfl, fun _ => rfl⟩
            have hTo := hT
            refine tVi (n := 1) (As := [.int to]) (rest := []) hx hb hml hown hg hT hK hX (X6_isSample l κ s209 this to  (hT.k t_this (by decide)) R215) (fun _ _ h => h) (mwV k1440 k1442 k57 k92 k1443) ⟨rfl, by decide, by decide, by decide +kernel⟩ ⟨(Nat.le_of_ble_eq_true rfl), (Nat.le_of_ble_eq_true rfl)⟩ (hT.o20 (hT.k t_this (by decide))) rfl rfl hl.1 rfl (Nat.le_of_ble_eq_true rfl) dX6_beside_33 zroom.rf (fun x216 s217 H locs hφ hEs217 hT => ?_)
            obtain ⟨f218, f219⟩ := hφ
            have K220 : zI s217 this 7 = zI σ0 this 7 := hT.eI t_this (by decide) rfl rfl
            have K220n : (zI s217 this 7).toInt = (zI σ0 this 7).toInt := by rw [K220]
            have K220r : rN s217 this = rN σ0 this := by unfold rN; rw [K220]
            have J221 : zJ s217 rW = zJ σ0 rW := funext fun k => hT.eJ trW (by decide) rfl rfl
            have J221n : (zJ s217 (kR κ this 1) 4).toInt = (zJ σ0 rW 4).toInt := by rw [erW, J221]
            have P222 : zI s217 rP = zI σ0 rP := funext fun k => hT.eI trP (by decide) rfl rfl
            try simp only [erW, erP, ix_0, ix_1, ix_2, ix_3, ix_4, ix_5, ix_6, ix_7, ix_8, ix_9, K212, K212r, J213, P214, K220, K220r, J221, P222] at f218
            refine lv_if_eq (tgt := 43) hx hb dX6_beside_36 (by decide) (fun c9 => ?_) (fun c9 => ?_)
            · have c6 := gi_eq c9
              exfalso; omega
            · have c7 := gi_ne c9
              refine lv_iload_n hx hb dX6_beside_39 rfl (lv_at hl 0 rfl) ?_
              refine lv_goto (tgt := 44) hx hb dX6_beside_40 (by decide) ?_
              have l9 : rlf (zJ σ0 rW) (ix to) = -1 := by omega
              subst hQ9
              exact t_i hx hb hr hlocks hT ⟨ix to, by omega, by rw [erW]; exact (show LN (rlf (zJ σ0 rW)) (ix i) (ix to) from ⟨by omega, l9, fun z h1 h2 => q4 z (by omega) h2⟩)⟩ dX6_beside_44
          · have c8 := gi_eq c9
            refine lv_iload_n hx hb dX6_beside_24 rfl (lv_at hl 0 rfl) ?_
            refine lv_iload_n hx hb dX6_beside_25 rfl (lv_at hl 3 rfl) ?_
            refine lv_iadd hx hb dX6_beside_26 ?_
            first | refine g_add (by omega) (by omega) (fun t223 ht223 => ?_) | refine lv_topi (fun t223 ht223 => ?_)
            refine lv_istore_n (lv' := [(3, .int t223), (0, .ref this), (1, .int i), (2, .int d)]) hx hb dX6_beside_27 rfl hl (by decide) rfl (fun ls hl => ?_)
            refine lv_goto (tgt := 4) hx hb dX6_beside_28 (by decide) ?_
            have ne224 : rlf (zJ σ0 rW) (ix to) ≠ -1 := by omega
            exact ih4 t223 _ _ _ _ hT  (by omega) (by omega) (fun z h1 h2 => (Classical.em (z = ix to)).elim (fun e9 => by rw [e9]; exact ne224) (fun e9 => q4 z (by omega) (by omega))) hl (by omega)
  exact loop4 ((t201.toInt + 2).toNat + 1) t201 _ _ _ _ hT  (by omega) (by omega) (fun z h1 h2 => by unfold ix at h2; omega) hl (by omega)

/-! Wholes with their numbers -/
theorem sub_fE_fX : ∀ t k, fX t k = false → fE t k = false := by
  intro t k h
  simp [fE, fX] at h ⊢ <;> omega
set_option maxHeartbeats 4000000 in
set_option maxRecDepth 100000 in
theorem X4v_lowest (l : Launch) (κ : Kt) (σ0 : Gh) (this : Nat) {v : Int} (t_this : zk σ0 this 1) (h0 : WV σ0 this v) : TC l yX4_lowest cX4_lowest 1 (some .long) 0 0 [.ref this] κ σ0 (tql κ fE σ0 (fun (r : Int64) (τ : Gh) => (r.toInt = v))) := by
  refine TC.of fE (by decide +kernel) (Nat.le_of_ble_eq_true rfl) ?_
  intro p e s m below meth c ls hcs hK hX hT hl
  obtain ⟨hx, hb, hr, hml, hown, hg, hlocks, hin⟩ := hcs
  have hown : s.vm.findClass RX4 = some m.cls := hown
  have hl : lv_has ls 1 [(0, .ref this)] := hl
  have hT0 := hT
  have n0 : (0 : Int32).toInt = 0 := by decide
  have j4294967295 : (4294967295 : Int64).toInt = 4294967295 := by decide
  generalize hQ9 : tQ _ _ _ _ _ _ = Q9
  obtain ⟨lt, elt⟩ : ∃ z, zL σ0 this = z := ⟨_, rfl⟩
  obtain ⟨-, klt, -⟩ := hT.o1z t_this
  rw [elt] at klt
  have hwthis := h0.at elt
  refine lv_aload_n hx hb dX4_lowest_0 rfl (lv_at hl 0 rfl) ?_
  obtain ⟨h1, oh1, th1⟩ := hT.o1 (hT.k t_this (by decide))
  obtain ⟨v2, ev2⟩ : ∃ zz9 : Int32, zI σ0 this 2 = zz9 := ⟨_, rfl⟩
  have qv2 : v2.toInt = (zI σ0 this 2).toInt := by rw [ev2]
  have b3 : isB v2 := by have q9 := (hT.P (hT.k t_this (by decide)) (by decide)).2.2; rw [(hT.eI t_this (by decide) rfl ev2)] at q9; exact q9
  refine va_get (D := κ.1) (ci := 4) (v := .int (zI σ0 this 2)) (C := RX4) (T := TX4) (N := 3) hx hb hg inX4 hown hK oh1.one 0 rfl rfl 2 (by decide) (hg _ k211) (fun _ h9 => h9) rfl dX4_lowest_1 ?_
  rw [(hT.eI t_this (by decide) rfl ev2)]
  refine lv_if_eq (tgt := 22) hx hb dX4_lowest_4 (by decide) (fun c9 => ?_) (fun c9 => ?_)
  · have c1 := gi_eq c9
    refine lv_aload_n hx hb dX4_lowest_22 rfl (lv_at hl 0 rfl) ?_
    obtain ⟨oh4, th4, wh4⟩ := hT.o1z (hT.k t_this (by decide))
    rw [((t_this.eL hT.2.2.1 (by decide) rfl).trans elt)] at oh4 th4 wh4
    refine va_get (D := κ.1) (ci := 4) (v := .ref lt) (C := RX4) (T := TX4) (N := 3) hx hb hg inX4 hown hK oh4.one 0 rfl rfl 0 (by decide) (hg _ k209) (fun _ h9 => h9) rfl dX4_lowest_23 ?_
    have bN5 := (hT.P (hT.k t_this (by decide)) (by decide)).1
    have hN6 : zN σ0 this = zN σ0 this := hT.eN t_this (by decide) rfl rfl
    refine lv_iconst (v := 0) hx hb dX4_lowest_26 (by decide) ?_
    refine va_iald hx hb hK (hT.oL th4).one 0 0 rfl rfl (g_in (by omega) (by omega)) dX4_lowest_27 ?_
    refine lv_topi (fun t7 ht7 => ?_)
    refine lv_i2l hx hb dX4_lowest_28 rfl ?_
    refine g_i2l (fun t8 ht8 => ?_)
    have ut7 : ub t7 = ub (zI σ0 lt 0) := by rw [ht7, ix_0]
    refine lv_ldc2 hx hb hown (hg _ k348) dX4_lowest_29 ?_
    refine lv_land hx hb dX4_lowest_32 ?_
    refine lv_topl (fun t9 ht9 => ?_)
    have ut9 : t9.toInt = ub t7 := ub_mask ht8 ht9
    subst hQ9
    exact t_l hx hb hr hlocks hT (by omega) dX4_lowest_33
  · have c2 := gi_ne c9
    refine lv_aload_n hx hb dX4_lowest_7 rfl (lv_at hl 0 rfl) ?_
    obtain ⟨oh10, th10, wh10⟩ := hT.o1z (hT.k t_this (by decide))
    rw [((t_this.eL hT.2.2.1 (by decide) rfl).trans elt)] at oh10 th10 wh10
    refine va_get (D := κ.1) (ci := 4) (v := .ref lt) (C := RX4) (T := TX4) (N := 3) hx hb hg inX4 hown hK oh10.one 0 rfl rfl 0 (by decide) (hg _ k209) (fun _ h9 => h9) rfl dX4_lowest_8 ?_
    have bN11 := (hT.P (hT.k t_this (by decide)) (by decide)).1
    have hN12 : zN σ0 this = zN σ0 this := hT.eN t_this (by decide) rfl rfl
    refine lv_iconst (v := 0) hx hb dX4_lowest_11 (by decide) ?_
    refine va_iald hx hb hK (hT.oL th10).one 0 0 rfl rfl (g_in (by omega) (by omega)) dX4_lowest_12 ?_
    refine lv_topi (fun t13 ht13 => ?_)
    have ut13 : ub t13 = ub (zI σ0 lt 0) := by rw [ht13, ix_0]
    refine lv_i2l hx hb dX4_lowest_13 rfl ?_
    refine g_i2l (fun t14 ht14 => ?_)
    refine lv_ldc2 hx hb hown (hg _ k348) dX4_lowest_14 ?_
    refine lv_land hx hb dX4_lowest_17 ?_
    refine lv_topl (fun t15 ht15 => ?_)
    have ut15 : t15.toInt = ub t13 := ub_mask ht14 ht15
    refine lv_lneg hx hb dX4_lowest_18 ?_
    refine lv_topl (fun t16 ht16 => ?_)
    have xt16 : t16.toInt = -t15.toInt := by rw [ht16]; exact v_neg rfl (by omega) (by omega)
    refine lv_goto (tgt := 33) hx hb dX4_lowest_19 (by decide) ?_
    subst hQ9
    exact t_l hx hb hr hlocks hT (by omega) dX4_lowest_33
set_option maxHeartbeats 4000000 in
set_option maxRecDepth 100000 in
theorem X4v_become (l : Launch) (κ : Kt) (σ0 : Gh) (this : Nat) (f : Int64) (t_this : zk σ0 this 1) (h0 : -4294967296 < f.toInt) (h1 : f.toInt < 4294967296) : TC l yX4_become cX4_become 5 none 0 0 [.ref this, .long f] κ σ0 (tqv κ fX σ0 (fun (τ : Gh) => (WV τ this f.toInt) ∧ (FW σ0 τ this))) := by
  refine TC.of fX (by decide +kernel) (Nat.le_of_ble_eq_true rfl) ?_
  intro p e s m below meth c ls hcs hK hX hT hl
  obtain ⟨hx, hb, hr, hml, hown, hg, hlocks, hin⟩ := hcs
  have hown : s.vm.findClass RX4 = some m.cls := hown
  have hl : lv_has ls 5 [(0, .ref this), (1, .long f)] := hl
  have hT0 := hT
  have n0 : (0 : Int32).toInt = 0 := by decide
  have n1 : (1 : Int32).toInt = 1 := by decide
  have n32 : (32 : Int32).toInt = 32 := by decide
  have j0 : (0 : Int64).toInt = 0 := by decide
  generalize hQ9 : tQ _ _ _ _ _ _ = Q9
  obtain ⟨lt, elt⟩ : ∃ z, zL σ0 this = z := ⟨_, rfl⟩
  obtain ⟨-, klt, -⟩ := hT.o1z t_this
  rw [elt] at klt
  refine lv_aload_n hx hb dX4_become_0 rfl (lv_at hl 0 rfl) ?_
  refine lv_lload_n hx hb dX4_become_1 rfl (lv_at hl 1 rfl) ?_
  refine lv_lconst (v := 0) hx hb dX4_become_2 (by decide) ?_
  refine W.lcmp hx hb dX4_become_3 ?_
  refine lv_if_ge (tgt := 11) hx hb dX4_become_4 (by decide) (fun c9 => ?_) (fun c9 => ?_)
  · have c1 := gl_ge c9
    refine lv_iconst (v := 0) hx hb dX4_become_11 (by decide) ?_
    have hTo := hT
    refine pf1_2 hx hb hg hown hK hT (hT.k t_this (by decide)) rfl isB0 (hg _ k211) dX4_become_12 (fun H locs s1 hus1 hT => ?_)
    have fw2 : FW σ0 s1 this := FW.put hTo FW.rf (hTo.k t_this (by decide)) hus1
    have e3 : zI s1 this 2 = 0 := zput_at hus1
    refine lv_aload_n hx hb dX4_become_15 rfl (lv_at hl 0 rfl) ?_
    obtain ⟨h4, oh4, th4⟩ := hT.o1 (hT.k t_this (by decide))
    refine va_get (D := κ.1) (ci := 4) (v := .int (zI s1 this 2)) (C := RX4) (T := TX4) (N := 3) hx hb hg inX4 hown hK oh4.one 0 rfl rfl 2 (by decide) (hg _ k211) (fun _ h9 => h9) rfl dX4_become_16 ?_
    rw [e3]
    refine lv_if_eq (tgt := 27) hx hb dX4_become_19 (by decide) (fun _ => ?_) (fun c9 => absurd (by decide) c9)
    refine lv_lload_n hx hb dX4_become_27 rfl (lv_at hl 1 rfl) ?_
    refine lv_lstore_n (lv' := [(3, .long f), (0, .ref this), (1, .long f)]) hx hb dX4_become_28 rfl hl (by decide) rfl (fun ls hl => ?_)
    refine lv_aload_n hx hb dX4_become_29 rfl (lv_at hl 1 rfl) ?_
    obtain ⟨oh5, th5, wh5⟩ := hT.o1z (hT.k t_this (by decide))
    rw [((t_this.eL hT.2.2.1 (by decide) rfl).trans elt)] at oh5 th5 wh5
    refine va_get (D := κ.1) (ci := 4) (v := .ref lt) (C := RX4) (T := TX4) (N := 3) hx hb hg inX4 hown hK oh5.one 0 rfl rfl 0 (by decide) (hg _ k209) (fun _ h9 => h9) rfl dX4_become_30 ?_
    have bN6 := (hT.P (hT.k t_this (by decide)) (by decide)).1
    have hN7 : zN s1 this = zN σ0 this := hT.eN t_this (by decide) rfl rfl
    refine lv_iconst (v := 0) hx hb dX4_become_33 (by decide) ?_
    refine lv_lload_n hx hb dX4_become_34 rfl (lv_at hl 0 rfl) ?_
    refine lv_l2i hx hb dX4_become_35 rfl ?_
    refine lv_topi (fun t8 ht8 => ?_)
    have ut8 := ub_l2i ht8
    have hTo := hT
    refine tasti hx hb hK hT th5 ⟨by omega, by omega⟩ (fun _ _ _ => zS_big) (fun _ _ => zP_big) fL_fX (by omega) (by omega) dX4_become_36 (fun H locs s9 hus9 hT => ?_)
    have e3 : zI s9 this 2 = 0 := (zput_o hus9 (Or.inl ((hTo.k t_this (by decide)).ne th5 (by omega)))).trans e3
    have fw10 : FW σ0 s9 this := FW.putL hTo fw2 (hTo.k t_this (by decide)) ((t_this.eL hTo.2.2.1 (by decide) rfl).trans elt) hus9
    have li11 : zI s9 lt 0 = t8 := by have z9 := zput_at hus9; rw [ix_0] at z9; exact z9
    refine lv_aload_n hx hb dX4_become_37 rfl (lv_at hl 1 rfl) ?_
    obtain ⟨oh12, th12, wh12⟩ := hT.o1z (hT.k t_this (by decide))
    rw [((t_this.eL hT.2.2.1 (by decide) rfl).trans elt)] at oh12 th12 wh12
    refine va_get (D := κ.1) (ci := 4) (v := .ref lt) (C := RX4) (T := TX4) (N := 3) hx hb hg inX4 hown hK oh12.one 0 rfl rfl 0 (by decide) (hg _ k209) (fun _ h9 => h9) rfl dX4_become_38 ?_
    have bN13 := (hT.P (hT.k t_this (by decide)) (by decide)).1
    have hN14 : zN s9 this = zN σ0 this := hT.eN t_this (by decide) rfl rfl
    refine lv_iconst (v := 1) hx hb dX4_become_41 (by decide) ?_
    refine lv_lload_n hx hb dX4_become_42 rfl (lv_at hl 0 rfl) ?_
    refine lv_bipush (v := 32) hx hb dX4_become_43 (by decide) ?_
    refine lv_lushr hx hb dX4_become_45 rfl ?_
    refine lv_topl (fun t15 ht15 => ?_)
    have zt15 : t15.toInt = 0 := shr32 (by omega) (by omega) ht15
    refine lv_l2i hx hb dX4_become_46 rfl ?_
    refine lv_topi (fun t16 ht16 => ?_)
    have yt16 : t16.toInt = 0 := by rw [ht16]; exact v_l2i zt15 (by omega) (by omega)
    have hTo := hT
    refine tasti hx hb hK hT th12 ⟨by omega, by omega⟩ (fun _ _ _ => zS_big) (fun _ _ => zP_big) fL_fX (by omega) (by omega) dX4_become_47 (fun H locs s17 hus17 hT => ?_)
    have e3 : zI s17 this 2 = 0 := (zput_o hus17 (Or.inl ((hTo.k t_this (by decide)).ne th12 (by omega)))).trans e3
    have fw18 : FW σ0 s17 this := FW.putL hTo fw10 (hTo.k t_this (by decide)) ((t_this.eL hTo.2.2.1 (by decide) rfl).trans elt) hus17
    have li19 : zI s17 lt 0 = t8 := (zput_o hus17 (Or.inr (by decide))).trans li11
    have li20 : zI s17 lt 1 = t16 := by have z9 := zput_at hus17; rw [ix_1] at z9; exact z9
    refine lv_aload_n hx hb dX4_become_48 rfl (lv_at hl 1 rfl) ?_
    refine lv_aload_n hx hb dX4_become_49 rfl (lv_at hl 1 rfl) ?_
    obtain ⟨oh21, th21, wh21⟩ := hT.o1z (hT.k t_this (by decide))
    rw [((t_this.eL hT.2.2.1 (by decide) rfl).trans elt)] at oh21 th21 wh21
    refine va_get (D := κ.1) (ci := 4) (v := .ref lt) (C := RX4) (T := TX4) (N := 3) hx hb hg inX4 hown hK oh21.one 0 rfl rfl 0 (by decide) (hg _ k209) (fun _ h9 => h9) rfl dX4_become_50 ?_
    have bN22 := (hT.P (hT.k t_this (by decide)) (by decide)).1
    have hN23 : zN s17 this = zN σ0 this := hT.eN t_this (by decide) rfl rfl
    refine lv_iconst (v := 1) hx hb dX4_become_53 (by decide) ?_
    refine va_iald hx hb hK (hT.oL th21).one 0 0 rfl rfl (g_in (by omega) (by omega)) dX4_become_54 ?_
    refine lv_topi (fun t24 ht24 => ?_)
    have xt24 : t24 = t16 := by rw [ht24, ix_1]; exact li20
    have ut24 : ub t24 = ub t16 := by rw [xt24]
    have zt24 := ub_z t16
    have yt24 : t24.toInt = t16.toInt := by rw [xt24]
    refine lv_if_eq (tgt := 62) hx hb dX4_become_55 (by decide) (fun c9 => ?_) (fun c9 => ?_)
    · have c2 := gi_eq c9
      refine lv_aload_n hx hb dX4_become_62 rfl (lv_at hl 1 rfl) ?_
      obtain ⟨oh25, th25, wh25⟩ := hT.o1z (hT.k t_this (by decide))
      rw [((t_this.eL hT.2.2.1 (by decide) rfl).trans elt)] at oh25 th25 wh25
      refine va_get (D := κ.1) (ci := 4) (v := .ref lt) (C := RX4) (T := TX4) (N := 3) hx hb hg inX4 hown hK oh25.one 0 rfl rfl 0 (by decide) (hg _ k209) (fun _ h9 => h9) rfl dX4_become_63 ?_
      have bN26 := (hT.P (hT.k t_this (by decide)) (by decide)).1
      have hN27 : zN s17 this = zN σ0 this := hT.eN t_this (by decide) rfl rfl
      refine lv_iconst (v := 0) hx hb dX4_become_66 (by decide) ?_
      refine va_iald hx hb hK (hT.oL th25).one 0 0 rfl rfl (g_in (by omega) (by omega)) dX4_become_67 ?_
      refine lv_topi (fun t28 ht28 => ?_)
      have xt28 : t28 = t8 := by rw [ht28, ix_0]; exact li19
      have ut28 : ub t28 = ub t8 := by rw [xt28]
      have zt28 := ub_z t8
      have yt28 : t28.toInt = t8.toInt := by rw [xt28]
      refine lv_if_eq (tgt := 75) hx hb dX4_become_68 (by decide) (fun c9 => ?_) (fun c9 => ?_)
      · have c3 := gi_eq c9
        refine lv_iconst (v := 0) hx hb dX4_become_75 (by decide) ?_
        have bN29 := (hT.P (hT.k t_this (by decide)) (by decide)).1
        have hN30 : zN s17 this = zN σ0 this := hT.eN t_this (by decide) rfl rfl
        have hTo := hT
        refine pf1_1 hx hb hg hown hK hT (hT.k t_this (by decide)) rfl ⟨by omega, by omega⟩ (hg _ k210) dX4_become_76 (fun H locs s31 hus31 hT => ?_)
        have e3 : zI s31 this 2 = 0 := (zput_o hus31 (Or.inr (by decide))).trans e3
        have fw32 : FW σ0 s31 this := FW.put hTo fw18 (hTo.k t_this (by decide)) hus31
        have li33 : zI s31 lt 0 = t8 := (zput_o hus31 (Or.inl (hTo.lne (hTo.k t_this (by decide)) ((t_this.eL hTo.2.2.1 (by decide) rfl).trans elt) (hTo.k t_this (by decide)) (by decide)))).trans li19
        have li34 : zI s31 lt 1 = t16 := (zput_o hus31 (Or.inl (hTo.lne (hTo.k t_this (by decide)) ((t_this.eL hTo.2.2.1 (by decide) rfl).trans elt) (hTo.k t_this (by decide)) (by decide)))).trans li20
        have e35 : zI s31 this 1 = 0 := zput_at hus31
        subst hQ9
        exact t_v hx hb hr hlocks hT ⟨(WV.mk (x1 := 0) (x2 := 0) (x0 := t8) ((t_this.eL hT.2.2.1 (by decide) rfl).trans elt) e35 e3 li33 (by omega)), fw32⟩ dX4_become_79
      · have c4 := gi_ne c9
        refine lv_iconst (v := 1) hx hb dX4_become_71 (by decide) ?_
        refine lv_goto (tgt := 76) hx hb dX4_become_72 (by decide) ?_
        have bN36 := (hT.P (hT.k t_this (by decide)) (by decide)).1
        have hN37 : zN s17 this = zN σ0 this := hT.eN t_this (by decide) rfl rfl
        have hTo := hT
        refine pf1_1 hx hb hg hown hK hT (hT.k t_this (by decide)) rfl ⟨by omega, by omega⟩ (hg _ k210) dX4_become_76 (fun H locs s38 hus38 hT => ?_)
        have e3 : zI s38 this 2 = 0 := (zput_o hus38 (Or.inr (by decide))).trans e3
        have fw39 : FW σ0 s38 this := FW.put hTo fw18 (hTo.k t_this (by decide)) hus38
        have li40 : zI s38 lt 0 = t8 := (zput_o hus38 (Or.inl (hTo.lne (hTo.k t_this (by decide)) ((t_this.eL hTo.2.2.1 (by decide) rfl).trans elt) (hTo.k t_this (by decide)) (by decide)))).trans li19
        have li41 : zI s38 lt 1 = t16 := (zput_o hus38 (Or.inl (hTo.lne (hTo.k t_this (by decide)) ((t_this.eL hTo.2.2.1 (by decide) rfl).trans elt) (hTo.k t_this (by decide)) (by decide)))).trans li20
        have e42 : zI s38 this 1 = 1 := zput_at hus38
        subst hQ9
        exact t_v hx hb hr hlocks hT ⟨(WV.mk (x1 := 1) (x2 := 0) (x0 := t8) ((t_this.eL hT.2.2.1 (by decide) rfl).trans elt) e42 e3 li40 (by omega)), fw39⟩ dX4_become_79
    · have c5 := gi_ne c9
      exfalso; omega
  · have c6 := gl_nge c9
    refine lv_iconst (v := 1) hx hb dX4_become_7 (by decide) ?_
    refine lv_goto (tgt := 12) hx hb dX4_become_8 (by decide) ?_
    have hTo := hT
    refine pf1_2 hx hb hg hown hK hT (hT.k t_this (by decide)) rfl isB1 (hg _ k211) dX4_become_12 (fun H locs s43 hus43 hT => ?_)
    have fw44 : FW σ0 s43 this := FW.put hTo FW.rf (hTo.k t_this (by decide)) hus43
    have e45 : zI s43 this 2 = 1 := zput_at hus43
    refine lv_aload_n hx hb dX4_become_15 rfl (lv_at hl 0 rfl) ?_
    obtain ⟨h46, oh46, th46⟩ := hT.o1 (hT.k t_this (by decide))
    refine va_get (D := κ.1) (ci := 4) (v := .int (zI s43 this 2)) (C := RX4) (T := TX4) (N := 3) hx hb hg inX4 hown hK oh46.one 0 rfl rfl 2 (by decide) (hg _ k211) (fun _ h9 => h9) rfl dX4_become_16 ?_
    rw [e45]
    refine lv_if_eq (tgt := 27) hx hb dX4_become_19 (by decide) (fun c9 => absurd c9 (by decide)) (fun _ => ?_)
    refine lv_lload_n hx hb dX4_become_22 rfl (lv_at hl 1 rfl) ?_
    refine lv_lneg hx hb dX4_become_23 ?_
    refine lv_topl (fun t47 ht47 => ?_)
    have xt47 : t47.toInt = -f.toInt := by rw [ht47]; exact v_neg rfl (by omega) (by omega)
    refine lv_goto (tgt := 28) hx hb dX4_become_24 (by decide) ?_
    refine lv_lstore_n (lv' := [(3, .long t47), (0, .ref this), (1, .long f)]) hx hb dX4_become_28 rfl hl (by decide) rfl (fun ls hl => ?_)
    refine lv_aload_n hx hb dX4_become_29 rfl (lv_at hl 1 rfl) ?_
    obtain ⟨oh48, th48, wh48⟩ := hT.o1z (hT.k t_this (by decide))
    rw [((t_this.eL hT.2.2.1 (by decide) rfl).trans elt)] at oh48 th48 wh48
    refine va_get (D := κ.1) (ci := 4) (v := .ref lt) (C := RX4) (T := TX4) (N := 3) hx hb hg inX4 hown hK oh48.one 0 rfl rfl 0 (by decide) (hg _ k209) (fun _ h9 => h9) rfl dX4_become_30 ?_
    have bN49 := (hT.P (hT.k t_this (by decide)) (by decide)).1
    have hN50 : zN s43 this = zN σ0 this := hT.eN t_this (by decide) rfl rfl
    refine lv_iconst (v := 0) hx hb dX4_become_33 (by decide) ?_
    refine lv_lload_n hx hb dX4_become_34 rfl (lv_at hl 0 rfl) ?_
    refine lv_l2i hx hb dX4_become_35 rfl ?_
    refine lv_topi (fun t51 ht51 => ?_)
    have ut51 := ub_l2i ht51
    have hTo := hT
    refine tasti hx hb hK hT th48 ⟨by omega, by omega⟩ (fun _ _ _ => zS_big) (fun _ _ => zP_big) fL_fX (by omega) (by omega) dX4_become_36 (fun H locs s52 hus52 hT => ?_)
    have e45 : zI s52 this 2 = 1 := (zput_o hus52 (Or.inl ((hTo.k t_this (by decide)).ne th48 (by omega)))).trans e45
    have fw53 : FW σ0 s52 this := FW.putL hTo fw44 (hTo.k t_this (by decide)) ((t_this.eL hTo.2.2.1 (by decide) rfl).trans elt) hus52
    have li54 : zI s52 lt 0 = t51 := by have z9 := zput_at hus52; rw [ix_0] at z9; exact z9
    refine lv_aload_n hx hb dX4_become_37 rfl (lv_at hl 1 rfl) ?_
    obtain ⟨oh55, th55, wh55⟩ := hT.o1z (hT.k t_this (by decide))
    rw [((t_this.eL hT.2.2.1 (by decide) rfl).trans elt)] at oh55 th55 wh55
    refine va_get (D := κ.1) (ci := 4) (v := .ref lt) (C := RX4) (T := TX4) (N := 3) hx hb hg inX4 hown hK oh55.one 0 rfl rfl 0 (by decide) (hg _ k209) (fun _ h9 => h9) rfl dX4_become_38 ?_
    have bN56 := (hT.P (hT.k t_this (by decide)) (by decide)).1
    have hN57 : zN s52 this = zN σ0 this := hT.eN t_this (by decide) rfl rfl
    refine lv_iconst (v := 1) hx hb dX4_become_41 (by decide) ?_
    refine lv_lload_n hx hb dX4_become_42 rfl (lv_at hl 0 rfl) ?_
    refine lv_bipush (v := 32) hx hb dX4_become_43 (by decide) ?_
    refine lv_lushr hx hb dX4_become_45 rfl ?_
    refine lv_topl (fun t58 ht58 => ?_)
    have zt58 : t58.toInt = 0 := shr32 (by omega) (by omega) ht58
    refine lv_l2i hx hb dX4_become_46 rfl ?_
    refine lv_topi (fun t59 ht59 => ?_)
    have yt59 : t59.toInt = 0 := by rw [ht59]; exact v_l2i zt58 (by omega) (by omega)
    have hTo := hT
    refine tasti hx hb hK hT th55 ⟨by omega, by omega⟩ (fun _ _ _ => zS_big) (fun _ _ => zP_big) fL_fX (by omega) (by omega) dX4_become_47 (fun H locs s60 hus60 hT => ?_)
    have e45 : zI s60 this 2 = 1 := (zput_o hus60 (Or.inl ((hTo.k t_this (by decide)).ne th55 (by omega)))).trans e45
    have fw61 : FW σ0 s60 this := FW.putL hTo fw53 (hTo.k t_this (by decide)) ((t_this.eL hTo.2.2.1 (by decide) rfl).trans elt) hus60
    have li62 : zI s60 lt 0 = t51 := (zput_o hus60 (Or.inr (by decide))).trans li54
    have li63 : zI s60 lt 1 = t59 := by have z9 := zput_at hus60; rw [ix_1] at z9; exact z9
    refine lv_aload_n hx hb dX4_become_48 rfl (lv_at hl 1 rfl) ?_
    refine lv_aload_n hx hb dX4_become_49 rfl (lv_at hl 1 rfl) ?_
    obtain ⟨oh64, th64, wh64⟩ := hT.o1z (hT.k t_this (by decide))
    rw [((t_this.eL hT.2.2.1 (by decide) rfl).trans elt)] at oh64 th64 wh64
    refine va_get (D := κ.1) (ci := 4) (v := .ref lt) (C := RX4) (T := TX4) (N := 3) hx hb hg inX4 hown hK oh64.one 0 rfl rfl 0 (by decide) (hg _ k209) (fun _ h9 => h9) rfl dX4_become_50 ?_
    have bN65 := (hT.P (hT.k t_this (by decide)) (by decide)).1
    have hN66 : zN s60 this = zN σ0 this := hT.eN t_this (by decide) rfl rfl
    refine lv_iconst (v := 1) hx hb dX4_become_53 (by decide) ?_
    refine va_iald hx hb hK (hT.oL th64).one 0 0 rfl rfl (g_in (by omega) (by omega)) dX4_become_54 ?_
    refine lv_topi (fun t67 ht67 => ?_)
    have xt67 : t67 = t59 := by rw [ht67, ix_1]; exact li63
    have ut67 : ub t67 = ub t59 := by rw [xt67]
    have zt67 := ub_z t59
    have yt67 : t67.toInt = t59.toInt := by rw [xt67]
    refine lv_if_eq (tgt := 62) hx hb dX4_become_55 (by decide) (fun c9 => ?_) (fun c9 => ?_)
    · have c7 := gi_eq c9
      refine lv_aload_n hx hb dX4_become_62 rfl (lv_at hl 1 rfl) ?_
      obtain ⟨oh68, th68, wh68⟩ := hT.o1z (hT.k t_this (by decide))
      rw [((t_this.eL hT.2.2.1 (by decide) rfl).trans elt)] at oh68 th68 wh68
      refine va_get (D := κ.1) (ci := 4) (v := .ref lt) (C := RX4) (T := TX4) (N := 3) hx hb hg inX4 hown hK oh68.one 0 rfl rfl 0 (by decide) (hg _ k209) (fun _ h9 => h9) rfl dX4_become_63 ?_
      have bN69 := (hT.P (hT.k t_this (by decide)) (by decide)).1
      have hN70 : zN s60 this = zN σ0 this := hT.eN t_this (by decide) rfl rfl
      refine lv_iconst (v := 0) hx hb dX4_become_66 (by decide) ?_
      refine va_iald hx hb hK (hT.oL th68).one 0 0 rfl rfl (g_in (by omega) (by omega)) dX4_become_67 ?_
      refine lv_topi (fun t71 ht71 => ?_)
      have xt71 : t71 = t51 := by rw [ht71, ix_0]; exact li62
      have ut71 : ub t71 = ub t51 := by rw [xt71]
      have zt71 := ub_z t51
      have yt71 : t71.toInt = t51.toInt := by rw [xt71]
      refine lv_if_eq (tgt := 75) hx hb dX4_become_68 (by decide) (fun c9 => ?_) (fun c9 => ?_)
      · have c8 := gi_eq c9
        refine lv_iconst (v := 0) hx hb dX4_become_75 (by decide) ?_
        have bN72 := (hT.P (hT.k t_this (by decide)) (by decide)).1
        have hN73 : zN s60 this = zN σ0 this := hT.eN t_this (by decide) rfl rfl
        have hTo := hT
        refine pf1_1 hx hb hg hown hK hT (hT.k t_this (by decide)) rfl ⟨by omega, by omega⟩ (hg _ k210) dX4_become_76 (fun H locs s74 hus74 hT => ?_)
        have e45 : zI s74 this 2 = 1 := (zput_o hus74 (Or.inr (by decide))).trans e45
        have fw75 : FW σ0 s74 this := FW.put hTo fw61 (hTo.k t_this (by decide)) hus74
        have li76 : zI s74 lt 0 = t51 := (zput_o hus74 (Or.inl (hTo.lne (hTo.k t_this (by decide)) ((t_this.eL hTo.2.2.1 (by decide) rfl).trans elt) (hTo.k t_this (by decide)) (by decide)))).trans li62
        have li77 : zI s74 lt 1 = t59 := (zput_o hus74 (Or.inl (hTo.lne (hTo.k t_this (by decide)) ((t_this.eL hTo.2.2.1 (by decide) rfl).trans elt) (hTo.k t_this (by decide)) (by decide)))).trans li63
        have e78 : zI s74 this 1 = 0 := zput_at hus74
        subst hQ9
        exact t_v hx hb hr hlocks hT ⟨(WV.mk (x1 := 0) (x2 := 1) (x0 := t51) ((t_this.eL hT.2.2.1 (by decide) rfl).trans elt) e78 e45 li76 (by omega)), fw75⟩ dX4_become_79
      · have c9 := gi_ne c9
        refine lv_iconst (v := 1) hx hb dX4_become_71 (by decide) ?_
        refine lv_goto (tgt := 76) hx hb dX4_become_72 (by decide) ?_
        have bN79 := (hT.P (hT.k t_this (by decide)) (by decide)).1
        have hN80 : zN s60 this = zN σ0 this := hT.eN t_this (by decide) rfl rfl
        have hTo := hT
        refine pf1_1 hx hb hg hown hK hT (hT.k t_this (by decide)) rfl ⟨by omega, by omega⟩ (hg _ k210) dX4_become_76 (fun H locs s81 hus81 hT => ?_)
        have e45 : zI s81 this 2 = 1 := (zput_o hus81 (Or.inr (by decide))).trans e45
        have fw82 : FW σ0 s81 this := FW.put hTo fw61 (hTo.k t_this (by decide)) hus81
        have li83 : zI s81 lt 0 = t51 := (zput_o hus81 (Or.inl (hTo.lne (hTo.k t_this (by decide)) ((t_this.eL hTo.2.2.1 (by decide) rfl).trans elt) (hTo.k t_this (by decide)) (by decide)))).trans li62
        have li84 : zI s81 lt 1 = t59 := (zput_o hus81 (Or.inl (hTo.lne (hTo.k t_this (by decide)) ((t_this.eL hTo.2.2.1 (by decide) rfl).trans elt) (hTo.k t_this (by decide)) (by decide)))).trans li63
        have e85 : zI s81 this 1 = 1 := zput_at hus81
        subst hQ9
        exact t_v hx hb hr hlocks hT ⟨(WV.mk (x1 := 1) (x2 := 1) (x0 := t51) ((t_this.eL hT.2.2.1 (by decide) rfl).trans elt) e85 e45 li83 (by omega)), fw82⟩ dX4_become_79
    · have c10 := gi_ne c9
      exfalso; omega
set_option maxHeartbeats 4000000 in
set_option maxRecDepth 100000 in
theorem X4v_copyFrom (l : Launch) (κ : Kt) (σ0 : Gh) (this : Nat) (o : Nat) {v : Int} (t_this : zk σ0 this 1) (t_o : zk σ0 o 1) (h0 : WV σ0 o v) : TC l yX4_copyFrom cX4_copyFrom 2 none 0 0 [.ref this, .ref o] κ σ0 (tqv κ fX σ0 (fun (τ : Gh) => (WV τ this v) ∧ (FW σ0 τ this))) := by
  refine TC.of fX (by decide +kernel) (Nat.le_of_ble_eq_true rfl) ?_
  intro p e s m below meth c ls hcs hK hX hT hl
  obtain ⟨hx, hb, hr, hml, hown, hg, hlocks, hin⟩ := hcs
  have hown : s.vm.findClass RX4 = some m.cls := hown
  have hl : lv_has ls 2 [(0, .ref this), (1, .ref o)] := hl
  have hT0 := hT
  have n0 : (0 : Int32).toInt = 0 := by decide
  have n1 : (1 : Int32).toInt = 1 := by decide
  generalize hQ9 : tQ _ _ _ _ _ _ = Q9
  obtain ⟨lt, elt⟩ : ∃ z, zL σ0 this = z := ⟨_, rfl⟩
  obtain ⟨-, klt, -⟩ := hT.o1z t_this
  rw [elt] at klt
  obtain ⟨lo, elo⟩ : ∃ z, zL σ0 o = z := ⟨_, rfl⟩
  obtain ⟨-, klo, -⟩ := hT.o1z t_o
  rw [elo] at klo
  have hwo := h0.at elo
  obtain ⟨v1, ev1⟩ : ∃ zz9 : Int32, zI σ0 o 1 = zz9 := ⟨_, rfl⟩
  have qv1 : v1.toInt = (zI σ0 o 1).toInt := by rw [ev1]
  have b2 := (hT.P (hT.k t_o (by decide)) (by decide)).2.1
  rw [ev1] at b2
  have b2l := b2.1
  have b2h := b2.2
  have bN3 := (hT.P (hT.k t_o (by decide)) (by decide)).1
  have hN4 : zN σ0 o = zN σ0 o := hT.eN t_o (by decide) rfl rfl
  obtain ⟨v5, ev5⟩ : ∃ zz9 : Int32, zI σ0 o 2 = zz9 := ⟨_, rfl⟩
  have qv5 : v5.toInt = (zI σ0 o 2).toInt := by rw [ev5]
  have b6 : isB v5 := by have q9 := (hT.P (hT.k t_o (by decide)) (by decide)).2.2; rw [ev5] at q9; exact q9
  refine lv_aload_n hx hb dX4_copyFrom_0 rfl (lv_at hl 0 rfl) ?_
  obtain ⟨oh7, th7, wh7⟩ := hT.o1z (hT.k t_this (by decide))
  rw [((t_this.eL hT.2.2.1 (by decide) rfl).trans elt)] at oh7 th7 wh7
  refine va_get (D := κ.1) (ci := 4) (v := .ref lt) (C := RX4) (T := TX4) (N := 3) hx hb hg inX4 hown hK oh7.one 0 rfl rfl 0 (by decide) (hg _ k209) (fun _ h9 => h9) rfl dX4_copyFrom_1 ?_
  have bN8 := (hT.P (hT.k t_this (by decide)) (by decide)).1
  have hN9 : zN σ0 this = zN σ0 this := hT.eN t_this (by decide) rfl rfl
  refine lv_iconst (v := 0) hx hb dX4_copyFrom_4 (by decide) ?_
  refine lv_aload_n hx hb dX4_copyFrom_5 rfl (lv_at hl 1 rfl) ?_
  obtain ⟨oh10, th10, wh10⟩ := hT.o1z (hT.k t_o (by decide))
  rw [((t_o.eL hT.2.2.1 (by decide) rfl).trans elo)] at oh10 th10 wh10
  refine va_get (D := κ.1) (ci := 4) (v := .ref lo) (C := RX4) (T := TX4) (N := 3) hx hb hg inX4 hown hK oh10.one 0 rfl rfl 0 (by decide) (hg _ k209) (fun _ h9 => h9) rfl dX4_copyFrom_6 ?_
  have bN11 := (hT.P (hT.k t_o (by decide)) (by decide)).1
  have hN12 : zN σ0 o = zN σ0 o := hT.eN t_o (by decide) rfl rfl
  refine lv_iconst (v := 0) hx hb dX4_copyFrom_9 (by decide) ?_
  refine va_iald hx hb hK (hT.oL th10).one 0 0 rfl rfl (g_in (by omega) (by omega)) dX4_copyFrom_10 ?_
  refine lv_topi (fun t13 ht13 => ?_)
  have ut13 : ub t13 = ub (zI σ0 lo 0) := by rw [ht13, ix_0]
  have hTo := hT
  refine tasti hx hb hK hT th7 ⟨by omega, by omega⟩ (fun _ _ _ => zS_big) (fun _ _ => zP_big) fL_fX (by omega) (by omega) dX4_copyFrom_11 (fun H locs s14 hus14 hT => ?_)
  have ev1 : zI s14 o 1 = v1 := (zput_o hus14 (Or.inl ((hTo.k t_o (by decide)).ne th7 (by omega)))).trans ev1
  have ev5 : zI s14 o 2 = v5 := (zput_o hus14 (Or.inl ((hTo.k t_o (by decide)).ne th7 (by omega)))).trans ev5
  have fw15 : FW σ0 s14 this := FW.putL hTo FW.rf (hTo.k t_this (by decide)) ((t_this.eL hTo.2.2.1 (by decide) rfl).trans elt) hus14
  have li16 : zI s14 lt 0 = t13 := by have z9 := zput_at hus14; rw [ix_0] at z9; exact z9
  refine lv_aload_n hx hb dX4_copyFrom_12 rfl (lv_at hl 1 rfl) ?_
  obtain ⟨h17, oh17, th17⟩ := hT.o1 (hT.k t_o (by decide))
  refine va_get (D := κ.1) (ci := 4) (v := .int (zI s14 o 1)) (C := RX4) (T := TX4) (N := 3) hx hb hg inX4 hown hK oh17.one 0 rfl rfl 1 (by decide) (hg _ k210) (fun _ h9 => h9) rfl dX4_copyFrom_13 ?_
  rw [ev1]
  refine lv_iconst (v := 1) hx hb dX4_copyFrom_16 (by decide) ?_
  refine lv_icmp_le (tgt := 46) hx hb dX4_copyFrom_17 (by decide) (fun c9 => ?_) (fun c9 => ?_)
  · have c1 := gi_le c9
    refine lv_aload_n hx hb dX4_copyFrom_46 rfl (lv_at hl 0 rfl) ?_
    refine lv_aload_n hx hb dX4_copyFrom_47 rfl (lv_at hl 1 rfl) ?_
    obtain ⟨h18, oh18, th18⟩ := hT.o1 (hT.k t_o (by decide))
    refine va_get (D := κ.1) (ci := 4) (v := .int (zI s14 o 1)) (C := RX4) (T := TX4) (N := 3) hx hb hg inX4 hown hK oh18.one 0 rfl rfl 1 (by decide) (hg _ k210) (fun _ h9 => h9) rfl dX4_copyFrom_48 ?_
    rw [ev1]
    have bN19 := (hT.P (hT.k t_this (by decide)) (by decide)).1
    have hN20 : zN s14 this = zN σ0 this := hT.eN t_this (by decide) rfl rfl
    have hTo := hT
    refine pf1_1 hx hb hg hown hK hT (hT.k t_this (by decide)) rfl ⟨by omega, by omega⟩ (hg _ k210) dX4_copyFrom_51 (fun H locs s21 hus21 hT => ?_)
    have ev5 : zI s21 o 2 = v5 := (zput_o hus21 (Or.inr (by decide))).trans ev5
    have fw22 : FW σ0 s21 this := FW.put hTo fw15 (hTo.k t_this (by decide)) hus21
    have li23 : zI s21 lt 0 = t13 := (zput_o hus21 (Or.inl (hTo.lne (hTo.k t_this (by decide)) ((t_this.eL hTo.2.2.1 (by decide) rfl).trans elt) (hTo.k t_this (by decide)) (by decide)))).trans li16
    have e24 : zI s21 this 1 = v1 := zput_at hus21
    refine lv_aload_n hx hb dX4_copyFrom_54 rfl (lv_at hl 0 rfl) ?_
    refine lv_aload_n hx hb dX4_copyFrom_55 rfl (lv_at hl 1 rfl) ?_
    obtain ⟨h25, oh25, th25⟩ := hT.o1 (hT.k t_o (by decide))
    refine va_get (D := κ.1) (ci := 4) (v := .int (zI s21 o 2)) (C := RX4) (T := TX4) (N := 3) hx hb hg inX4 hown hK oh25.one 0 rfl rfl 2 (by decide) (hg _ k211) (fun _ h9 => h9) rfl dX4_copyFrom_56 ?_
    rw [ev5]
    have hTo := hT
    refine pf1_2 hx hb hg hown hK hT (hT.k t_this (by decide)) rfl b6 (hg _ k211) dX4_copyFrom_59 (fun H locs s26 hus26 hT => ?_)
    have e24 : zI s26 this 1 = v1 := (zput_o hus26 (Or.inr (by decide))).trans e24
    have fw27 : FW σ0 s26 this := FW.put hTo fw22 (hTo.k t_this (by decide)) hus26
    have li28 : zI s26 lt 0 = t13 := (zput_o hus26 (Or.inl (hTo.lne (hTo.k t_this (by decide)) ((t_this.eL hTo.2.2.1 (by decide) rfl).trans elt) (hTo.k t_this (by decide)) (by decide)))).trans li23
    have e29 : zI s26 this 2 = v5 := zput_at hus26
    subst hQ9
    exact t_v hx hb hr hlocks hT ⟨(WV.mk (x1 := v1) (x2 := v5) (x0 := t13) ((t_this.eL hT.2.2.1 (by decide) rfl).trans elt) e24 e29 li28 (by omega)), fw27⟩ dX4_copyFrom_62
  · have c2 := gi_nle c9
    exfalso; omega
set_option maxHeartbeats 4000000 in
set_option maxRecDepth 100000 in
theorem X4v_add (l : Launch) (κ : Kt) (σ0 : Gh) (this : Nat) (o : Nat) (f : Int64) {a b : Int} (t_this : zk σ0 this 1) (t_o : zk σ0 o 1) (h0 : WV σ0 this a) (h1 : WV σ0 o b) (h2 : -4294967296 < a + b * f.toInt) (h3 : a + b * f.toInt < 4294967296) (h4 : -9223372036854775808 ≤ b * f.toInt) (h5 : b * f.toInt ≤ 9223372036854775807) : TC l yX4_add cX4_add 7 none 1 24 [.ref this, .ref o, .long f] κ σ0 (tqv κ fX σ0 (fun (τ : Gh) => (WV τ this (a + b * f.toInt)) ∧ (FW σ0 τ this))) := by
  refine TC.of fX (by decide +kernel) (Nat.le_of_ble_eq_true rfl) ?_
  intro p e s m below meth c ls hcs hK hX hT hl
  obtain ⟨hx, hb, hr, hml, hown, hg, hlocks, hin⟩ := hcs
  have hown : s.vm.findClass RX4 = some m.cls := hown
  have hl : lv_has ls 7 [(0, .ref this), (1, .ref o), (2, .long f)] := hl
  have hT0 := hT
  have n1 : (1 : Int32).toInt = 1 := by decide
  generalize hQ9 : tQ _ _ _ _ _ _ = Q9
  obtain ⟨lt, elt⟩ : ∃ z, zL σ0 this = z := ⟨_, rfl⟩
  obtain ⟨-, klt, -⟩ := hT.o1z t_this
  rw [elt] at klt
  obtain ⟨lo, elo⟩ : ∃ z, zL σ0 o = z := ⟨_, rfl⟩
  obtain ⟨-, klo, -⟩ := hT.o1z t_o
  rw [elo] at klo
  have hwthis := h0.at elt
  have hwo := h1.at elo
  refine lv_aload_n hx hb dX4_add_0 rfl (lv_at hl 0 rfl) ?_
  obtain ⟨h1, oh1, th1⟩ := hT.o1 (hT.k t_this (by decide))
  obtain ⟨v2, ev2⟩ : ∃ zz9 : Int32, zI σ0 this 1 = zz9 := ⟨_, rfl⟩
  have qv2 : v2.toInt = (zI σ0 this 1).toInt := by rw [ev2]
  have b3 := (hT.P (hT.k t_this (by decide)) (by decide)).2.1
  rw [ev2] at b3
  have b3l := b3.1
  have b3h := b3.2
  have bN4 := (hT.P (hT.k t_this (by decide)) (by decide)).1
  have hN5 : zN σ0 this = zN σ0 this := hT.eN t_this (by decide) rfl rfl
  refine va_get (D := κ.1) (ci := 4) (v := .int (zI σ0 this 1)) (C := RX4) (T := TX4) (N := 3) hx hb hg inX4 hown hK oh1.one 0 rfl rfl 1 (by decide) (hg _ k210) (fun _ h9 => h9) rfl dX4_add_1 ?_
  rw [ev2]
  refine lv_iconst (v := 1) hx hb dX4_add_4 (by decide) ?_
  refine lv_icmp_gt (tgt := 32) hx hb dX4_add_5 (by decide) (fun c9 => ?_) (fun c9 => ?_)
  · have c1 := gi_lt c9
    exfalso; omega
  · have c2 := gi_nlt c9
    refine lv_aload_n hx hb dX4_add_8 rfl (lv_at hl 1 rfl) ?_
    obtain ⟨h6, oh6, th6⟩ := hT.o1 (hT.k t_o (by decide))
    obtain ⟨v7, ev7⟩ : ∃ zz9 : Int32, zI σ0 o 1 = zz9 := ⟨_, rfl⟩
    have qv7 : v7.toInt = (zI σ0 o 1).toInt := by rw [ev7]
    have b8 := (hT.P (hT.k t_o (by decide)) (by decide)).2.1
    rw [ev7] at b8
    have b8l := b8.1
    have b8h := b8.2
    have bN9 := (hT.P (hT.k t_o (by decide)) (by decide)).1
    have hN10 : zN σ0 o = zN σ0 o := hT.eN t_o (by decide) rfl rfl
    refine va_get (D := κ.1) (ci := 4) (v := .int (zI σ0 o 1)) (C := RX4) (T := TX4) (N := 3) hx hb hg inX4 hown hK oh6.one 0 rfl rfl 1 (by decide) (hg _ k210) (fun _ h9 => h9) rfl dX4_add_9 ?_
    rw [ev7]
    refine lv_iconst (v := 1) hx hb dX4_add_12 (by decide) ?_
    refine lv_icmp_gt (tgt := 32) hx hb dX4_add_13 (by decide) (fun c9 => ?_) (fun c9 => ?_)
    · have c3 := gi_lt c9
      exfalso; omega
    · have c4 := gi_nlt c9
      refine lv_aload_n hx hb dX4_add_16 rfl (lv_at hl 0 rfl) ?_
      refine lv_aload_n hx hb dX4_add_17 rfl (lv_at hl 0 rfl) ?_
      obtain ⟨h13, oh13, th13⟩ := hT.o1 (hT.k t_this (by decide))
      have hTo := hT
      refine tVl (n := 0) (As := []) (rest := [.ref this]) hx hb hml hown hg hT hK hX (X4v_lowest l κ σ0 this  (hT.k t_this (by decide)) h0) sub_fE_fX (mwV k344 k346 k0 k88 k347) ⟨rfl, by decide, by decide, by decide +kernel⟩ ⟨(Nat.le_of_ble_eq_true rfl), (Nat.le_of_ble_eq_true rfl)⟩ oh13 rfl rfl hl.1 rfl (Nat.le_of_ble_eq_true rfl) dX4_add_18 zroom.rf (fun x11 s12 H locs hφ hEs12 hT => ?_)
      have ev2 : zI s12 this 1 = v2 := ((hTo.k t_this (by decide)).eI hEs12 (by decide) rfl).trans ev2
      have ev7 : zI s12 o 1 = v7 := ((hTo.k t_o (by decide)).eI hEs12 (by decide) rfl).trans ev7
      have fa14 : FA σ0 s12 := FA.ro hTo hEs12 (fun _ => rfl) (fun _ _ => rfl)
      have fw15 : FW σ0 s12 this := FW.callA hTo FW.rf fa14
      have wn16 : WV s12 this a := fa14 this (hTo.k t_this (by decide)) _ h0
      have wn17 : WV s12 o b := fa14 o (hTo.k t_o (by decide)) _ h1
      have f18 := hφ
      refine lv_aload_n hx hb dX4_add_21 rfl (lv_at hl 1 rfl) ?_
      obtain ⟨h21, oh21, th21⟩ := hT.o1 (hT.k t_o (by decide))
      have hTo := hT
      refine tVl (n := 0) (As := []) (rest := [.long x11, .ref this]) hx hb hml hown hg hT hK hX (X4v_lowest l κ s12 o  (hT.k t_o (by decide)) wn17) sub_fE_fX (mwV k344 k346 k0 k88 k347) ⟨rfl, by decide, by decide, by decide +kernel⟩ ⟨(Nat.le_of_ble_eq_true rfl), (Nat.le_of_ble_eq_true rfl)⟩ oh21 rfl rfl hl.1 rfl (Nat.le_of_ble_eq_true rfl) dX4_add_22 zroom.rf (fun x19 s20 H locs hφ hEs20 hT => ?_)
      have ev2 : zI s20 this 1 = v2 := ((hTo.k t_this (by decide)).eI hEs20 (by decide) rfl).trans ev2
      have ev7 : zI s20 o 1 = v7 := ((hTo.k t_o (by decide)).eI hEs20 (by decide) rfl).trans ev7
      have fa22 : FA s12 s20 := FA.ro hTo hEs20 (fun _ => rfl) (fun _ _ => rfl)
      have fw23 : FW σ0 s20 this := FW.callA hTo fw15 fa22
      have wn24 : WV s20 this a := fa22 this (hTo.k t_this (by decide)) _ wn16
      have wn25 : WV s20 o b := fa22 o (hTo.k t_o (by decide)) _ wn17
      have f26 := hφ
      refine lv_lload_n hx hb dX4_add_25 rfl (lv_at hl 2 rfl) ?_
      refine lv_lmul hx hb dX4_add_26 ?_
      refine g_mull (by rw [f26]; omega) (by rw [f26]; omega) (fun t27 ht27 => ?_)
      rw [f26] at ht27
      refine lv_ladd hx hb dX4_add_27 ?_
      refine g_addl (by omega) (by omega) (fun t28 ht28 => ?_)
      obtain ⟨h31, oh31, th31⟩ := hT.o1 (hT.k t_this (by decide))
      have hTo := hT
      refine tVv (n := 1) (As := [.long t28]) (rest := []) hx hb hml hown hg hT hK hX (X4v_become l κ s20 this t28  (hT.k t_this (by decide)) (by omega) (by omega)) (fun _ _ h => h) (mwV k349 k275 k276 k88 k277) ⟨rfl, by decide, by decide, by decide +kernel⟩ ⟨(Nat.le_of_ble_eq_true rfl), (Nat.le_of_ble_eq_true rfl)⟩ oh31 rfl rfl hl.1 rfl (Nat.le_of_ble_eq_true rfl) dX4_add_28 zroom.rf (fun s30 H locs hφ hEs30 hT => ?_)
      obtain ⟨f32, f33⟩ := hφ
      have fw34 : FW σ0 s30 this := FW.call hTo fw23 f33
      subst hQ9
      exact t_v hx hb hr hlocks hT ⟨by rw [show a + b * f.toInt = t28.toInt from by omega]; exact f32, fw34⟩ dX4_add_31
set_option maxHeartbeats 4000000 in
set_option maxRecDepth 100000 in
theorem X4v_scale (l : Launch) (κ : Kt) (σ0 : Gh) (this : Nat) (x : Int64) (y : Int64) {a : Int} (t_this : zk σ0 this 1) (h0 : WV σ0 this a) (h1 : 0 < y.toInt) (h2 : -9223372036854775808 ≤ a * x.toInt) (h3 : a * x.toInt ≤ 9223372036854775807) (h4 : -4294967296 < a * x.toInt / y.toInt) (h5 : a * x.toInt / y.toInt < 4294967296) : TC l yX4_scale cX4_scale 6 none 1 25 [.ref this, .long x, .long y] κ σ0 (tqv κ fX σ0 (fun (τ : Gh) => (WV τ this (a * x.toInt / y.toInt)) ∧ (FW σ0 τ this))) := by
  refine TC.of fX (by decide +kernel) (Nat.le_of_ble_eq_true rfl) ?_
  intro p e s m below meth c ls hcs hK hX hT hl
  obtain ⟨hx, hb, hr, hml, hown, hg, hlocks, hin⟩ := hcs
  have hown : s.vm.findClass RX4 = some m.cls := hown
  have hl : lv_has ls 6 [(0, .ref this), (1, .long x), (3, .long y)] := hl
  have hT0 := hT
  have n0 : (0 : Int32).toInt = 0 := by decide
  have n1 : (1 : Int32).toInt = 1 := by decide
  have j0 : (0 : Int64).toInt = 0 := by decide
  generalize hQ9 : tQ _ _ _ _ _ _ = Q9
  obtain ⟨lt, elt⟩ : ∃ z, zL σ0 this = z := ⟨_, rfl⟩
  obtain ⟨-, klt, -⟩ := hT.o1z t_this
  rw [elt] at klt
  have hwthis := h0.at elt
  refine lv_lload_n hx hb dX4_scale_0 rfl (lv_at hl 2 rfl) ?_
  refine lv_lconst (v := 0) hx hb dX4_scale_1 (by decide) ?_
  refine W.lcmp hx hb dX4_scale_2 ?_
  refine lv_if_gt (tgt := 7) hx hb dX4_scale_3 (by decide) (fun c9 => ?_) (fun c9 => ?_)
  · have c1 := gl_gt c9
    refine lv_aload_n hx hb dX4_scale_7 rfl (lv_at hl 0 rfl) ?_
    obtain ⟨h1, oh1, th1⟩ := hT.o1 (hT.k t_this (by decide))
    obtain ⟨v2, ev2⟩ : ∃ zz9 : Int32, zI σ0 this 1 = zz9 := ⟨_, rfl⟩
    have qv2 : v2.toInt = (zI σ0 this 1).toInt := by rw [ev2]
    have b3 := (hT.P (hT.k t_this (by decide)) (by decide)).2.1
    rw [ev2] at b3
    have b3l := b3.1
    have b3h := b3.2
    have bN4 := (hT.P (hT.k t_this (by decide)) (by decide)).1
    have hN5 : zN σ0 this = zN σ0 this := hT.eN t_this (by decide) rfl rfl
    refine va_get (D := κ.1) (ci := 4) (v := .int (zI σ0 this 1)) (C := RX4) (T := TX4) (N := 3) hx hb hg inX4 hown hK oh1.one 0 rfl rfl 1 (by decide) (hg _ k210) (fun _ h9 => h9) rfl dX4_scale_8 ?_
    rw [ev2]
    refine lv_iconst (v := 1) hx hb dX4_scale_11 (by decide) ?_
    refine lv_icmp_gt (tgt := 30) hx hb dX4_scale_12 (by decide) (fun c9 => ?_) (fun c9 => ?_)
    · have c2 := gi_lt c9
      exfalso; omega
    · have c3 := gi_nlt c9
      refine lv_aload_n hx hb dX4_scale_15 rfl (lv_at hl 0 rfl) ?_
      refine lv_aload_n hx hb dX4_scale_16 rfl (lv_at hl 0 rfl) ?_
      obtain ⟨h8, oh8, th8⟩ := hT.o1 (hT.k t_this (by decide))
      have hTo := hT
      refine tVl (n := 0) (As := []) (rest := [.ref this]) hx hb hml hown hg hT hK hX (X4v_lowest l κ σ0 this  (hT.k t_this (by decide)) h0) sub_fE_fX (mwV k344 k346 k0 k88 k347) ⟨rfl, by decide, by decide, by decide +kernel⟩ ⟨(Nat.le_of_ble_eq_true rfl), (Nat.le_of_ble_eq_true rfl)⟩ oh8 rfl rfl hl.1 rfl (Nat.le_of_ble_eq_true rfl) dX4_scale_17 zroom.rf (fun x6 s7 H locs hφ hEs7 hT => ?_)
      have ev2 : zI s7 this 1 = v2 := ((hTo.k t_this (by decide)).eI hEs7 (by decide) rfl).trans ev2
      have fa9 : FA σ0 s7 := FA.ro hTo hEs7 (fun _ => rfl) (fun _ _ => rfl)
      have fw10 : FW σ0 s7 this := FW.callA hTo FW.rf fa9
      have wn11 : WV s7 this a := fa9 this (hTo.k t_this (by decide)) _ h0
      have f12 := hφ
      refine lv_lload_n hx hb dX4_scale_20 rfl (lv_at hl 1 rfl) ?_
      refine lv_lmul hx hb dX4_scale_21 ?_
      refine g_mull (by rw [f12]; omega) (by rw [f12]; omega) (fun t13 ht13 => ?_)
      rw [f12] at ht13
      refine lv_lload_n hx hb dX4_scale_22 rfl (lv_at hl 2 rfl) ?_
      have hTo := hT
      refine tTl (n := 2) (As := [.long t13, .long y]) (rest := [.ref this]) hx hb hml hown hg hT hK hX (Jv_floorDiv l κ s7 t13 y   (by omega)) sub_fE_fX (mwI k557) ⟨by decide, by decide, by decide +kernel⟩ ⟨(Nat.le_of_ble_eq_true rfl), (Nat.le_of_ble_eq_true rfl)⟩ k90 k555 k556 rfl hl.1 rfl (Nat.le_of_ble_eq_true rfl) dX4_scale_23 zroom.rf (fun x14 s15 H locs hφ hEs15 hT => ?_)
      have ev2 : zI s15 this 1 = v2 := ((hTo.k t_this (by decide)).eI hEs15 (by decide) rfl).trans ev2
      have fa16 : FA s7 s15 := FA.ro hTo hEs15 (fun _ => rfl) (fun _ _ => rfl)
      have fw17 : FW σ0 s15 this := FW.callA hTo fw10 fa16
      have wn18 : WV s15 this a := fa16 this (hTo.k t_this (by decide)) _ wn11
      have f19 := hφ
      rw [ht13] at f19
      obtain ⟨h22, oh22, th22⟩ := hT.o1 (hT.k t_this (by decide))
      have hTo := hT
      refine tVv (n := 1) (As := [.long x14]) (rest := []) hx hb hml hown hg hT hK hX (X4v_become l κ s15 this x14  (hT.k t_this (by decide)) (by omega) (by omega)) (fun _ _ h => h) (mwV k349 k275 k276 k88 k277) ⟨rfl, by decide, by decide, by decide +kernel⟩ ⟨(Nat.le_of_ble_eq_true rfl), (Nat.le_of_ble_eq_true rfl)⟩ oh22 rfl rfl hl.1 rfl (Nat.le_of_ble_eq_true rfl) dX4_scale_26 zroom.rf (fun s21 H locs hφ hEs21 hT => ?_)
      obtain ⟨f23, f24⟩ := hφ
      have fw25 : FW σ0 s21 this := FW.call hTo fw17 f24
      subst hQ9
      exact t_v hx hb hr hlocks hT ⟨by rw [show a * x.toInt / y.toInt = x14.toInt from by omega]; exact f23, fw25⟩ dX4_scale_29
  · have c4 := gl_ngt c9
    exfalso; omega
set_option maxHeartbeats 4000000 in
set_option maxRecDepth 100000 in
theorem X4v_compareAmount (l : Launch) (κ : Kt) (σ0 : Gh) (this : Nat) (o : Nat) {a b : Int} (t_this : zk σ0 this 1) (t_o : zk σ0 o 1) (h0 : WV σ0 this a) (h1 : WV σ0 o b) : TC l yX4_compareAmount cX4_compareAmount 3 (some .int) 0 0 [.ref this, .ref o] κ σ0 (tqi κ fE σ0 (fun (r : Int32) (τ : Gh) => ((r.toInt < 0 ∧ ab a < ab b) ∨ (0 ≤ r.toInt ∧ ab b ≤ ab a)))) := by
  refine TC.of fE (by decide +kernel) (Nat.le_of_ble_eq_true rfl) ?_
  intro p e s m below meth c ls hcs hK hX hT hl
  obtain ⟨hx, hb, hr, hml, hown, hg, hlocks, hin⟩ := hcs
  have hown : s.vm.findClass RX4 = some m.cls := hown
  have hl : lv_has ls 3 [(0, .ref this), (1, .ref o)] := hl
  have hT0 := hT
  have nm1 : ((-1) : Int32).toInt = (-1) := by decide
  have n0 : (0 : Int32).toInt = 0 := by decide
  have n1 : (1 : Int32).toInt = 1 := by decide
  have j4294967295 : (4294967295 : Int64).toInt = 4294967295 := by decide
  generalize hQ9 : tQ _ _ _ _ _ _ = Q9
  obtain ⟨lt, elt⟩ : ∃ z, zL σ0 this = z := ⟨_, rfl⟩
  obtain ⟨-, klt, -⟩ := hT.o1z t_this
  rw [elt] at klt
  obtain ⟨lo, elo⟩ : ∃ z, zL σ0 o = z := ⟨_, rfl⟩
  obtain ⟨-, klo, -⟩ := hT.o1z t_o
  rw [elo] at klo
  have hwthis := h0.at elt
  have hwo := h1.at elo
  obtain ⟨hAthis, hUthis⟩ := h0.amt elt
  obtain ⟨hAo, hUo⟩ := h1.amt elo
  refine lv_aload_n hx hb dX4_compareAmount_0 rfl (lv_at hl 0 rfl) ?_
  obtain ⟨h1, oh1, th1⟩ := hT.o1 (hT.k t_this (by decide))
  obtain ⟨v2, ev2⟩ : ∃ zz9 : Int32, zI σ0 this 1 = zz9 := ⟨_, rfl⟩
  have qv2 : v2.toInt = (zI σ0 this 1).toInt := by rw [ev2]
  have b3 := (hT.P (hT.k t_this (by decide)) (by decide)).2.1
  rw [(hT.eI t_this (by decide) rfl ev2)] at b3
  have b3l := b3.1
  have b3h := b3.2
  have bN4 := (hT.P (hT.k t_this (by decide)) (by decide)).1
  have hN5 : zN σ0 this = zN σ0 this := hT.eN t_this (by decide) rfl rfl
  refine va_get (D := κ.1) (ci := 4) (v := .int (zI σ0 this 1)) (C := RX4) (T := TX4) (N := 3) hx hb hg inX4 hown hK oh1.one 0 rfl rfl 1 (by decide) (hg _ k210) (fun _ h9 => h9) rfl dX4_compareAmount_1 ?_
  rw [(hT.eI t_this (by decide) rfl ev2)]
  refine lv_aload_n hx hb dX4_compareAmount_4 rfl (lv_at hl 1 rfl) ?_
  obtain ⟨h6, oh6, th6⟩ := hT.o1 (hT.k t_o (by decide))
  obtain ⟨v7, ev7⟩ : ∃ zz9 : Int32, zI σ0 o 1 = zz9 := ⟨_, rfl⟩
  have qv7 : v7.toInt = (zI σ0 o 1).toInt := by rw [ev7]
  have b8 := (hT.P (hT.k t_o (by decide)) (by decide)).2.1
  rw [(hT.eI t_o (by decide) rfl ev7)] at b8
  have b8l := b8.1
  have b8h := b8.2
  have bN9 := (hT.P (hT.k t_o (by decide)) (by decide)).1
  have hN10 : zN σ0 o = zN σ0 o := hT.eN t_o (by decide) rfl rfl
  refine va_get (D := κ.1) (ci := 4) (v := .int (zI σ0 o 1)) (C := RX4) (T := TX4) (N := 3) hx hb hg inX4 hown hK oh6.one 0 rfl rfl 1 (by decide) (hg _ k210) (fun _ h9 => h9) rfl dX4_compareAmount_5 ?_
  rw [(hT.eI t_o (by decide) rfl ev7)]
  refine lv_icmp_eq (tgt := 28) hx hb dX4_compareAmount_8 (by decide) (fun c9 => ?_) (fun c9 => ?_)
  · have c1 := gi_eq c9
    refine lv_aload_n hx hb dX4_compareAmount_28 rfl (lv_at hl 0 rfl) ?_
    obtain ⟨h11, oh11, th11⟩ := hT.o1 (hT.k t_this (by decide))
    refine va_get (D := κ.1) (ci := 4) (v := .int (zI σ0 this 1)) (C := RX4) (T := TX4) (N := 3) hx hb hg inX4 hown hK oh11.one 0 rfl rfl 1 (by decide) (hg _ k210) (fun _ h9 => h9) rfl dX4_compareAmount_29 ?_
    rw [(hT.eI t_this (by decide) rfl ev2)]
    refine lv_iconst (v := 1) hx hb dX4_compareAmount_32 (by decide) ?_
    refine lv_isub hx hb dX4_compareAmount_33 ?_
    first | refine g_sub (by omega) (by omega) (fun t12 ht12 => ?_) | refine lv_topi (fun t12 ht12 => ?_)
    refine lv_istore_n (lv' := [(2, .int t12), (0, .ref this), (1, .ref o)]) hx hb dX4_compareAmount_34 rfl hl (by decide) rfl (fun ls hl => ?_)
    have loop35 : ∀ (n9 : Nat) (i : Int32) (H : Heap) (locs : List Loc) (sg : Gh) (ls : Array Slot), TS κ fE σ0 sg s H locs → ((i.toInt = -1 ∧ ab a = ab b) ∨ (i.toInt = 0 ∧ 0 < ab a)) → lv_has ls 3 [(2, .int i), (0, .ref this), (1, .ref o)] → (i.toInt + 1) < n9 → tW p l e 0 0 κ s m #[.ref this, .ref o] below meth c H locs Q9 (F0 m 35 ls []) := by
      intro n9
      induction n9 with
      | zero =>
        intro i H locs sg ls hT q1 hl hm9
        exfalso
        omega
      | succ n9 ih9 =>
        have ih35 := ih9
        clear ih9
        intro i H locs s13 ls hT q1 hl hm9
        refine lv_iload_n hx hb dX4_compareAmount_35 rfl (lv_at hl 0 rfl) ?_
        refine lv_if_lt (tgt := 92) hx hb dX4_compareAmount_36 (by decide) (fun c9 => ?_) (fun c9 => ?_)
        · have c2 := gi_lt c9
          refine lv_iconst (v := 0) hx hb dX4_compareAmount_92 (by decide) ?_
          subst hQ9
          exact t_i hx hb hr hlocks hT (by omega) dX4_compareAmount_93
        · have c3 := gi_nlt c9
          refine lv_aload_n hx hb dX4_compareAmount_39 rfl (lv_at hl 1 rfl) ?_
          obtain ⟨oh14, th14, wh14⟩ := hT.o1z (hT.k t_this (by decide))
          rw [((t_this.eL hT.2.2.1 (by decide) rfl).trans elt)] at oh14 th14 wh14
          refine va_get (D := κ.1) (ci := 4) (v := .ref lt) (C := RX4) (T := TX4) (N := 3) hx hb hg inX4 hown hK oh14.one 0 rfl rfl 0 (by decide) (hg _ k209) (fun _ h9 => h9) rfl dX4_compareAmount_40 ?_
          have bN15 := (hT.P (hT.k t_this (by decide)) (by decide)).1
          have hN16 : zN s13 this = zN σ0 this := hT.eN t_this (by decide) rfl rfl
          refine lv_iload_n hx hb dX4_compareAmount_43 rfl (lv_at hl 0 rfl) ?_
          refine va_iald hx hb hK (hT.oL th14).one 0 0 rfl rfl (g_in (by omega) (by omega)) dX4_compareAmount_44 ?_
          refine lv_topi (fun t17 ht17 => ?_)
          have xt17 : t17 = zI σ0 lt 0 := by rw [ht17, show ix i = 0 from by unfold ix; omega]; exact (klt.eI hT.2.2.1 (by omega) rfl : zI s13 lt 0 = zI σ0 lt 0)
          have ut17 : ub t17 = ub (zI σ0 lt 0) := by rw [xt17]
          have rt17 := ub_r t17
          refine lv_aload_n hx hb dX4_compareAmount_45 rfl (lv_at hl 2 rfl) ?_
          obtain ⟨oh18, th18, wh18⟩ := hT.o1z (hT.k t_o (by decide))
          rw [((t_o.eL hT.2.2.1 (by decide) rfl).trans elo)] at oh18 th18 wh18
          refine va_get (D := κ.1) (ci := 4) (v := .ref lo) (C := RX4) (T := TX4) (N := 3) hx hb hg inX4 hown hK oh18.one 0 rfl rfl 0 (by decide) (hg _ k209) (fun _ h9 => h9) rfl dX4_compareAmount_46 ?_
          have bN19 := (hT.P (hT.k t_o (by decide)) (by decide)).1
          have hN20 : zN s13 o = zN σ0 o := hT.eN t_o (by decide) rfl rfl
          refine lv_iload_n hx hb dX4_compareAmount_49 rfl (lv_at hl 0 rfl) ?_
          refine va_iald hx hb hK (hT.oL th18).one 0 0 rfl rfl (g_in (by omega) (by omega)) dX4_compareAmount_50 ?_
          refine lv_topi (fun t21 ht21 => ?_)
          have xt21 : t21 = zI σ0 lo 0 := by rw [ht21, show ix i = 0 from by unfold ix; omega]; exact (klo.eI hT.2.2.1 (by omega) rfl : zI s13 lo 0 = zI σ0 lo 0)
          have ut21 : ub t21 = ub (zI σ0 lo 0) := by rw [xt21]
          have rt21 := ub_r t21
          refine lv_icmp_eq (tgt := 86) hx hb dX4_compareAmount_51 (by decide) (fun c9 => ?_) (fun c9 => ?_)
          · have c4 := gi_eq c9
            obtain ⟨t22, qt22⟩ : ∃ zz9 : Int32, i + Int32.ofInt (-1) = zz9 := ⟨_, rfl⟩
            refine lv_iinc (v := t22) (lv' := [(2, .int t22), (0, .ref this), (1, .ref o)]) hx hb dX4_compareAmount_86 hl (k := 0) rfl qt22 (by decide) rfl (fun ls hl => ?_)
            have ht22 : t22.toInt = i.toInt + (-1) := by rw [← qt22]; exact v_addi rfl (show (Int32.ofInt (-1)).toInt = (-1) from by decide) (by omega) (by omega)
            refine lv_goto (tgt := 35) hx hb dX4_compareAmount_89 (by decide) ?_
            exact ih35 t22 _ _ _ _ hT  (by omega) hl (by omega)
          · have c5 := gi_ne c9
            refine lv_aload_n hx hb dX4_compareAmount_54 rfl (lv_at hl 1 rfl) ?_
            obtain ⟨oh23, th23, wh23⟩ := hT.o1z (hT.k t_this (by decide))
            rw [((t_this.eL hT.2.2.1 (by decide) rfl).trans elt)] at oh23 th23 wh23
            refine va_get (D := κ.1) (ci := 4) (v := .ref lt) (C := RX4) (T := TX4) (N := 3) hx hb hg inX4 hown hK oh23.one 0 rfl rfl 0 (by decide) (hg _ k209) (fun _ h9 => h9) rfl dX4_compareAmount_55 ?_
            have bN24 := (hT.P (hT.k t_this (by decide)) (by decide)).1
            have hN25 : zN s13 this = zN σ0 this := hT.eN t_this (by decide) rfl rfl
            refine lv_iload_n hx hb dX4_compareAmount_58 rfl (lv_at hl 0 rfl) ?_
            refine va_iald hx hb hK (hT.oL th23).one 0 0 rfl rfl (g_in (by omega) (by omega)) dX4_compareAmount_59 ?_
            refine lv_topi (fun t26 ht26 => ?_)
            have xt26 : t26 = zI σ0 lt 0 := by rw [ht26, show ix i = 0 from by unfold ix; omega]; exact (klt.eI hT.2.2.1 (by omega) rfl : zI s13 lt 0 = zI σ0 lt 0)
            have ut26 : ub t26 = ub (zI σ0 lt 0) := by rw [xt26]
            have rt26 := ub_r t26
            refine lv_i2l hx hb dX4_compareAmount_60 rfl ?_
            refine g_i2l (fun t27 ht27 => ?_)
            refine lv_ldc2 hx hb hown (hg _ k348) dX4_compareAmount_61 ?_
            refine lv_land hx hb dX4_compareAmount_64 ?_
            refine lv_topl (fun t28 ht28 => ?_)
            have ut28 : t28.toInt = ub t26 := ub_mask ht27 ht28
            refine lv_aload_n hx hb dX4_compareAmount_65 rfl (lv_at hl 2 rfl) ?_
            obtain ⟨oh29, th29, wh29⟩ := hT.o1z (hT.k t_o (by decide))
            rw [((t_o.eL hT.2.2.1 (by decide) rfl).trans elo)] at oh29 th29 wh29
            refine va_get (D := κ.1) (ci := 4) (v := .ref lo) (C := RX4) (T := TX4) (N := 3) hx hb hg inX4 hown hK oh29.one 0 rfl rfl 0 (by decide) (hg _ k209) (fun _ h9 => h9) rfl dX4_compareAmount_66 ?_
            have bN30 := (hT.P (hT.k t_o (by decide)) (by decide)).1
            have hN31 : zN s13 o = zN σ0 o := hT.eN t_o (by decide) rfl rfl
            refine lv_iload_n hx hb dX4_compareAmount_69 rfl (lv_at hl 0 rfl) ?_
            refine va_iald hx hb hK (hT.oL th29).one 0 0 rfl rfl (g_in (by omega) (by omega)) dX4_compareAmount_70 ?_
            refine lv_topi (fun t32 ht32 => ?_)
            have xt32 : t32 = zI σ0 lo 0 := by rw [ht32, show ix i = 0 from by unfold ix; omega]; exact (klo.eI hT.2.2.1 (by omega) rfl : zI s13 lo 0 = zI σ0 lo 0)
            have ut32 : ub t32 = ub (zI σ0 lo 0) := by rw [xt32]
            have rt32 := ub_r t32
            refine lv_i2l hx hb dX4_compareAmount_71 rfl ?_
            refine g_i2l (fun t33 ht33 => ?_)
            refine lv_ldc2 hx hb hown (hg _ k348) dX4_compareAmount_72 ?_
            refine lv_land hx hb dX4_compareAmount_75 ?_
            refine lv_topl (fun t34 ht34 => ?_)
            have ut34 : t34.toInt = ub t32 := ub_mask ht33 ht34
            refine W.lcmp hx hb dX4_compareAmount_76 ?_
            refine lv_if_ge (tgt := 84) hx hb dX4_compareAmount_77 (by decide) (fun c9 => ?_) (fun c9 => ?_)
            · have c6 := gl_ge c9
              refine lv_iconst (v := 1) hx hb dX4_compareAmount_84 (by decide) ?_
              subst hQ9
              exact t_i hx hb hr hlocks hT (by omega) dX4_compareAmount_85
            · have c7 := gl_nge c9
              refine lv_iconst (v := (-1)) hx hb dX4_compareAmount_80 (by decide) ?_
              refine lv_goto (tgt := 85) hx hb dX4_compareAmount_81 (by decide) ?_
              subst hQ9
              exact t_i hx hb hr hlocks hT (by omega) dX4_compareAmount_85
    exact loop35 ((t12.toInt + 1).toNat + 1) t12 _ _ _ _ hT  (by omega) hl (by omega)
  · have c8 := gi_ne c9
    refine lv_aload_n hx hb dX4_compareAmount_11 rfl (lv_at hl 0 rfl) ?_
    obtain ⟨h35, oh35, th35⟩ := hT.o1 (hT.k t_this (by decide))
    refine va_get (D := κ.1) (ci := 4) (v := .int (zI σ0 this 1)) (C := RX4) (T := TX4) (N := 3) hx hb hg inX4 hown hK oh35.one 0 rfl rfl 1 (by decide) (hg _ k210) (fun _ h9 => h9) rfl dX4_compareAmount_12 ?_
    rw [(hT.eI t_this (by decide) rfl ev2)]
    refine lv_aload_n hx hb dX4_compareAmount_15 rfl (lv_at hl 1 rfl) ?_
    obtain ⟨h36, oh36, th36⟩ := hT.o1 (hT.k t_o (by decide))
    refine va_get (D := κ.1) (ci := 4) (v := .int (zI σ0 o 1)) (C := RX4) (T := TX4) (N := 3) hx hb hg inX4 hown hK oh36.one 0 rfl rfl 1 (by decide) (hg _ k210) (fun _ h9 => h9) rfl dX4_compareAmount_16 ?_
    rw [(hT.eI t_o (by decide) rfl ev7)]
    refine lv_icmp_ge (tgt := 26) hx hb dX4_compareAmount_19 (by decide) (fun c9 => ?_) (fun c9 => ?_)
    · have c9 := gi_le c9
      refine lv_iconst (v := 1) hx hb dX4_compareAmount_26 (by decide) ?_
      subst hQ9
      exact t_i hx hb hr hlocks hT (by omega) dX4_compareAmount_27
    · have c10 := gi_nle c9
      refine lv_iconst (v := (-1)) hx hb dX4_compareAmount_22 (by decide) ?_
      refine lv_goto (tgt := 27) hx hb dX4_compareAmount_23 (by decide) ?_
      subst hQ9
      exact t_i hx hb hr hlocks hT (by omega) dX4_compareAmount_27
set_option maxHeartbeats 4000000 in
set_option maxRecDepth 100000 in
theorem X4v_bitsOfAmount (l : Launch) (κ : Kt) (σ0 : Gh) (this : Nat) {v : Int} (t_this : zk σ0 this 1) (h0 : WV σ0 this v) : TC l yX4_bitsOfAmount cX4_bitsOfAmount 1 (some .int) 1 21 [.ref this] κ σ0 (tqi κ fE σ0 (fun (r : Int32) (τ : Gh) => (r.toInt = (blen v.natAbs : Nat)))) := by
  refine TC.of fE (by decide +kernel) (Nat.le_of_ble_eq_true rfl) ?_
  intro p e s m below meth c ls hcs hK hX hT hl
  obtain ⟨hx, hb, hr, hml, hown, hg, hlocks, hin⟩ := hcs
  have hown : s.vm.findClass RX4 = some m.cls := hown
  have hl : lv_has ls 1 [(0, .ref this)] := hl
  have hT0 := hT
  have n0 : (0 : Int32).toInt = 0 := by decide
  have n1 : (1 : Int32).toInt = 1 := by decide
  have n32 : (32 : Int32).toInt = 32 := by decide
  generalize hQ9 : tQ _ _ _ _ _ _ = Q9
  obtain ⟨lt, elt⟩ : ∃ z, zL σ0 this = z := ⟨_, rfl⟩
  obtain ⟨-, klt, -⟩ := hT.o1z t_this
  rw [elt] at klt
  have hwthis := h0.at elt
  obtain ⟨hAthis, hUthis⟩ := h0.amt elt
  have nv := ab_nn v
  have bl9 : blen v.natAbs ≤ 32 := blen_le (by have hl9 := h0.lim; omega)
  refine lv_aload_n hx hb dX4_bitsOfAmount_0 rfl (lv_at hl 0 rfl) ?_
  obtain ⟨h1, oh1, th1⟩ := hT.o1 (hT.k t_this (by decide))
  obtain ⟨v2, ev2⟩ : ∃ zz9 : Int32, zI σ0 this 1 = zz9 := ⟨_, rfl⟩
  have qv2 : v2.toInt = (zI σ0 this 1).toInt := by rw [ev2]
  have b3 := (hT.P (hT.k t_this (by decide)) (by decide)).2.1
  rw [(hT.eI t_this (by decide) rfl ev2)] at b3
  have b3l := b3.1
  have b3h := b3.2
  have bN4 := (hT.P (hT.k t_this (by decide)) (by decide)).1
  have hN5 : zN σ0 this = zN σ0 this := hT.eN t_this (by decide) rfl rfl
  refine va_get (D := κ.1) (ci := 4) (v := .int (zI σ0 this 1)) (C := RX4) (T := TX4) (N := 3) hx hb hg inX4 hown hK oh1.one 0 rfl rfl 1 (by decide) (hg _ k210) (fun _ h9 => h9) rfl dX4_bitsOfAmount_1 ?_
  rw [(hT.eI t_this (by decide) rfl ev2)]
  refine lv_if_ne (tgt := 11) hx hb dX4_bitsOfAmount_4 (by decide) (fun c9 => ?_) (fun c9 => ?_)
  · have c1 := gi_ne c9
    refine lv_aload_n hx hb dX4_bitsOfAmount_11 rfl (lv_at hl 0 rfl) ?_
    obtain ⟨h6, oh6, th6⟩ := hT.o1 (hT.k t_this (by decide))
    refine va_get (D := κ.1) (ci := 4) (v := .int (zI σ0 this 1)) (C := RX4) (T := TX4) (N := 3) hx hb hg inX4 hown hK oh6.one 0 rfl rfl 1 (by decide) (hg _ k210) (fun _ h9 => h9) rfl dX4_bitsOfAmount_12 ?_
    rw [(hT.eI t_this (by decide) rfl ev2)]
    refine lv_bipush (v := 32) hx hb dX4_bitsOfAmount_15 (by decide) ?_
    refine lv_imul hx hb dX4_bitsOfAmount_17 ?_
    first | (refine g_mul (by rw [n32]; omega) (by rw [n32]; omega) (fun t7 ht7 => ?_); rw [n32] at ht7) | refine lv_topi (fun t7 ht7 => ?_)
    refine lv_aload_n hx hb dX4_bitsOfAmount_18 rfl (lv_at hl 0 rfl) ?_
    obtain ⟨oh8, th8, wh8⟩ := hT.o1z (hT.k t_this (by decide))
    rw [((t_this.eL hT.2.2.1 (by decide) rfl).trans elt)] at oh8 th8 wh8
    refine va_get (D := κ.1) (ci := 4) (v := .ref lt) (C := RX4) (T := TX4) (N := 3) hx hb hg inX4 hown hK oh8.one 0 rfl rfl 0 (by decide) (hg _ k209) (fun _ h9 => h9) rfl dX4_bitsOfAmount_19 ?_
    have bN9 := (hT.P (hT.k t_this (by decide)) (by decide)).1
    have hN10 : zN σ0 this = zN σ0 this := hT.eN t_this (by decide) rfl rfl
    refine lv_aload_n hx hb dX4_bitsOfAmount_22 rfl (lv_at hl 0 rfl) ?_
    obtain ⟨h11, oh11, th11⟩ := hT.o1 (hT.k t_this (by decide))
    refine va_get (D := κ.1) (ci := 4) (v := .int (zI σ0 this 1)) (C := RX4) (T := TX4) (N := 3) hx hb hg inX4 hown hK oh11.one 0 rfl rfl 1 (by decide) (hg _ k210) (fun _ h9 => h9) rfl dX4_bitsOfAmount_23 ?_
    rw [(hT.eI t_this (by decide) rfl ev2)]
    refine lv_iconst (v := 1) hx hb dX4_bitsOfAmount_26 (by decide) ?_
    refine lv_isub hx hb dX4_bitsOfAmount_27 ?_
    first | refine g_sub (by omega) (by omega) (fun t12 ht12 => ?_) | refine lv_topi (fun t12 ht12 => ?_)
    refine va_iald hx hb hK (hT.oL th8).one 0 0 rfl rfl (g_in (by omega) (by omega)) dX4_bitsOfAmount_28 ?_
    refine lv_topi (fun t13 ht13 => ?_)
    have xt13 : t13 = zI σ0 lt 0 := by rw [ht13, show ix t12 = 0 from by unfold ix; omega]
    have ut13 : ub t13 = ub (zI σ0 lt 0) := by rw [xt13]
    have rt13 := ub_r t13
    have hTo := hT
    refine tTi (n := 1) (As := [.int t13]) (rest := [.int t7]) hx hb hml hown hg hT hK hX (Jv_nlz l κ σ0 t13   ) (fun _ _ h => h) (mwI k481) ⟨by decide, by decide, by decide +kernel⟩ ⟨(Nat.le_of_ble_eq_true rfl), (Nat.le_of_ble_eq_true rfl)⟩ k102 k479 k480 rfl hl.1 rfl (Nat.le_of_ble_eq_true rfl) dX4_bitsOfAmount_29 zroom.rf (fun x14 s15 H locs hφ hEs15 hT => ?_)
    have fa16 : FA σ0 s15 := FA.ro hTo hEs15 (fun _ => rfl) (fun _ _ => rfl)
    have fw17 : FW σ0 s15 this := FW.callA hTo FW.rf fa16
    have wn18 : WV s15 this v := fa16 this (hTo.k t_this (by decide)) _ h0
    have f19 := hφ
    rw [show (ub t13).toNat = v.natAbs from by omega] at f19
    refine lv_isub hx hb dX4_bitsOfAmount_32 ?_
    first | refine g_sub (by omega) (by omega) (fun t20 ht20 => ?_) | refine lv_topi (fun t20 ht20 => ?_)
    subst hQ9
    exact t_i hx hb hr hlocks hT (by omega) dX4_bitsOfAmount_33
  · have c2 := gi_eq c9
    refine lv_iconst (v := 0) hx hb dX4_bitsOfAmount_7 (by decide) ?_
    refine lv_goto (tgt := 33) hx hb dX4_bitsOfAmount_8 (by decide) ?_
    subst hQ9
    exact t_i hx hb hr hlocks hT (by rw [show v = 0 from by have := ab_nn v; omega, n0]; rfl) dX4_bitsOfAmount_33

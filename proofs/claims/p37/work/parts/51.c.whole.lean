/-! Wholes with their numbers -/
theorem sub_fE_fX : ∀ t k, fX t k = false → fE t k = false := by
  intro t k h
  simp [fE, fX] at h ⊢ <;> omega
set_option maxHeartbeats 4000000 in
set_option maxRecDepth 100000 in
theorem X4v_lowest (l : Launch) (κ : Kt) (σ0 : Gh) (this : Nat) {v : Int} (t_this : zk σ0 this 1) (h0 : WV σ0 this v) : TC l yX4_lowest cX4_lowest 1 (some .long) 0 0 [.ref this] κ σ0 (tql κ fE σ0 (fun (r : Int64) (τ : Gh) => (r.toInt = v))) := by
  refine TC.of fE (by decide +kernel) (Nat.le_of_ble_eq_true rfl) ?_
  intro p e s m below meth c ls hcs hK hX hT hl
  obtain ⟨hx, hb, hr, hml, hown, hg, hlocks, hin⟩ := hcs
  have hown : s.vm.findClass RX4 = some m.cls := hown
  have hl : lv_has ls 1 [(0, .ref this)] := hl
  have hT0 := hT
  have n0 : (0 : Int32).toInt = 0 := by decide
  have j4294967295 : (4294967295 : Int64).toInt = 4294967295 := by decide
  generalize hQ9 : tQ _ _ _ _ _ _ = Q9
  obtain ⟨lt, elt⟩ : ∃ z, zL σ0 this = z := ⟨_, rfl⟩
  obtain ⟨-, klt, -⟩ := hT.o1z t_this
  rw [elt] at klt
  have hwthis := h0.at elt
  refine lv_aload_n hx hb dX4_lowest_0 rfl (lv_at hl 0 rfl) ?_
  obtain ⟨h201, oh201, th201⟩ := hT.o1 (hT.k t_this (by decide))
  obtain ⟨v202, ev202⟩ : ∃ zz9 : Int32, zI σ0 this 2 = zz9 := ⟨_, rfl⟩
  have qv202 : v202.toInt = (zI σ0 this 2).toInt := by rw [ev202]
  have b203 : isB v202 := by have q9 := (hT.P (hT.k t_this (by decide)) (by decide)).2.2; rw [(hT.eI t_this (by decide) rfl ev202)] at q9; exact q9
  refine va_get (D := κ.1) (ci := 4) (v := .int (zI σ0 this 2)) (C := RX4) (T := TX4) (N := 3) hx hb hg inX4 hown hK oh201.one 0 rfl rfl 2 (by decide) (hg _ k211) (fun _ h9 => h9) rfl dX4_lowest_1 ?_
  rw [(hT.eI t_this (by decide) rfl ev202)]
  refine lv_if_eq (tgt := 22) hx hb dX4_lowest_4 (by decide) (fun c9 => ?_) (fun c9 => ?_)
  · have c1 := gi_eq c9
    refine lv_aload_n hx hb dX4_lowest_22 rfl (lv_at hl 0 rfl) ?_
    obtain ⟨oh204, th204, wh204⟩ := hT.o1z (hT.k t_this (by decide))
    rw [((t_this.eL hT.2.2.1 (by decide) rfl).trans elt)] at oh204 th204 wh204
    refine va_get (D := κ.1) (ci := 4) (v := .ref lt) (C := RX4) (T := TX4) (N := 3) hx hb hg inX4 hown hK oh204.one 0 rfl rfl 0 (by decide) (hg _ k209) (fun _ h9 => h9) rfl dX4_lowest_23 ?_
    have bN205 := (hT.P (hT.k t_this (by decide)) (by decide)).1
    have hN206 : zN σ0 this = zN σ0 this := hT.eN t_this (by decide) rfl rfl
    refine lv_iconst (v := 0) hx hb dX4_lowest_26 (by decide) ?_
    refine va_iald hx hb hK (hT.oL th204).one 0 0 rfl rfl (g_in (by omega) (by omega)) dX4_lowest_27 ?_
    refine lv_topi (fun t207 ht207 => ?_)
    refine lv_i2l hx hb dX4_lowest_28 rfl ?_
    refine g_i2l (fun t208 ht208 => ?_)
    have ut207 : ub t207 = ub (zI σ0 lt 0) := by rw [ht207, ixc, ix_0]
    refine lv_ldc2 hx hb hown (hg _ k348) dX4_lowest_29 ?_
    refine lv_land hx hb dX4_lowest_32 ?_
    refine lv_topl (fun t209 ht209 => ?_)
    have ut209 : t209.toInt = ub t207 := ub_mask ht208 ht209
    subst hQ9
    exact t_l hx hb hr hlocks hT (by omega) dX4_lowest_33
  · have c2 := gi_ne c9
    refine lv_aload_n hx hb dX4_lowest_7 rfl (lv_at hl 0 rfl) ?_
    obtain ⟨oh210, th210, wh210⟩ := hT.o1z (hT.k t_this (by decide))
    rw [((t_this.eL hT.2.2.1 (by decide) rfl).trans elt)] at oh210 th210 wh210
    refine va_get (D := κ.1) (ci := 4) (v := .ref lt) (C := RX4) (T := TX4) (N := 3) hx hb hg inX4 hown hK oh210.one 0 rfl rfl 0 (by decide) (hg _ k209) (fun _ h9 => h9) rfl dX4_lowest_8 ?_
    have bN211 := (hT.P (hT.k t_this (by decide)) (by decide)).1
    have hN212 : zN σ0 this = zN σ0 this := hT.eN t_this (by decide) rfl rfl
    refine lv_iconst (v := 0) hx hb dX4_lowest_11 (by decide) ?_
    refine va_iald hx hb hK (hT.oL th210).one 0 0 rfl rfl (g_in (by omega) (by omega)) dX4_lowest_12 ?_
    refine lv_topi (fun t213 ht213 => ?_)
    have ut213 : ub t213 = ub (zI σ0 lt 0) := by rw [ht213, ixc, ix_0]
    refine lv_i2l hx hb dX4_lowest_13 rfl ?_
    refine g_i2l (fun t214 ht214 => ?_)
    refine lv_ldc2 hx hb hown (hg _ k348) dX4_lowest_14 ?_
    refine lv_land hx hb dX4_lowest_17 ?_
    refine lv_topl (fun t215 ht215 => ?_)
    have ut215 : t215.toInt = ub t213 := ub_mask ht214 ht215
    refine lv_lneg hx hb dX4_lowest_18 ?_
    refine lv_topl (fun t216 ht216 => ?_)
    have xt216 : t216.toInt = -t215.toInt := by rw [ht216]; exact v_neg rfl (by omega) (by omega)
    refine lv_goto (tgt := 33) hx hb dX4_lowest_19 (by decide) ?_
    subst hQ9
    exact t_l hx hb hr hlocks hT (by omega) dX4_lowest_33
set_option maxHeartbeats 4000000 in
set_option maxRecDepth 100000 in
theorem X4v_become (l : Launch) (κ : Kt) (σ0 : Gh) (this : Nat) (f : Int64) (t_this : zk σ0 this 1) (h0 : -4294967296 < f.toInt) (h1 : f.toInt < 4294967296) : TC l yX4_become cX4_become 5 none 0 0 [.ref this, .long f] κ σ0 (tqv κ fX σ0 (fun (τ : Gh) => (WV τ this f.toInt) ∧ (FW σ0 τ this))) := by
  refine TC.of fX (by decide +kernel) (Nat.le_of_ble_eq_true rfl) ?_
  intro p e s m below meth c ls hcs hK hX hT hl
  obtain ⟨hx, hb, hr, hml, hown, hg, hlocks, hin⟩ := hcs
  have hown : s.vm.findClass RX4 = some m.cls := hown
  have hl : lv_has ls 5 [(0, .ref this), (1, .long f)] := hl
  have hT0 := hT
  have n0 : (0 : Int32).toInt = 0 := by decide
  have n1 : (1 : Int32).toInt = 1 := by decide
  have n32 : (32 : Int32).toInt = 32 := by decide
  have j0 : (0 : Int64).toInt = 0 := by decide
  generalize hQ9 : tQ _ _ _ _ _ _ = Q9
  obtain ⟨lt, elt⟩ : ∃ z, zL σ0 this = z := ⟨_, rfl⟩
  obtain ⟨-, klt, -⟩ := hT.o1z t_this
  rw [elt] at klt
  refine lv_aload_n hx hb dX4_become_0 rfl (lv_at hl 0 rfl) ?_
  refine lv_lload_n hx hb dX4_become_1 rfl (lv_at hl 1 rfl) ?_
  refine lv_lconst (v := 0) hx hb dX4_become_2 (by decide) ?_
  refine W.lcmp hx hb dX4_become_3 ?_
  refine lv_if_ge (tgt := 11) hx hb dX4_become_4 (by decide) (fun c9 => ?_) (fun c9 => ?_)
  · have c1 := gl_ge c9
    refine lv_iconst (v := 0) hx hb dX4_become_11 (by decide) ?_
    have hTo := hT
    refine pf1_2 hx hb hg hown hK hT (hT.k t_this (by decide)) rfl isB0 (hg _ k211) dX4_become_12 (fun H locs s201 hus201 hT => ?_)
    have fw202 : FW σ0 s201 this := FW.put hTo FW.rf (hTo.k t_this (by decide)) hus201
    have e203 : zI s201 this 2 = 0 := zput_at hus201
    refine lv_aload_n hx hb dX4_become_15 rfl (lv_at hl 0 rfl) ?_
    obtain ⟨h204, oh204, th204⟩ := hT.o1 (hT.k t_this (by decide))
    refine va_get (D := κ.1) (ci := 4) (v := .int (zI s201 this 2)) (C := RX4) (T := TX4) (N := 3) hx hb hg inX4 hown hK oh204.one 0 rfl rfl 2 (by decide) (hg _ k211) (fun _ h9 => h9) rfl dX4_become_16 ?_
    rw [e203]
    refine lv_if_eq (tgt := 27) hx hb dX4_become_19 (by decide) (fun _ => ?_) (fun c9 => absurd (by decide) c9)
    refine lv_lload_n hx hb dX4_become_27 rfl (lv_at hl 1 rfl) ?_
    refine lv_lstore_n (lv' := [(3, .long f), (0, .ref this), (1, .long f)]) hx hb dX4_become_28 rfl hl (by decide) rfl (fun ls hl => ?_)
    refine lv_aload_n hx hb dX4_become_29 rfl (lv_at hl 1 rfl) ?_
    obtain ⟨oh205, th205, wh205⟩ := hT.o1z (hT.k t_this (by decide))
    rw [((t_this.eL hT.2.2.1 (by decide) rfl).trans elt)] at oh205 th205 wh205
    refine va_get (D := κ.1) (ci := 4) (v := .ref lt) (C := RX4) (T := TX4) (N := 3) hx hb hg inX4 hown hK oh205.one 0 rfl rfl 0 (by decide) (hg _ k209) (fun _ h9 => h9) rfl dX4_become_30 ?_
    have bN206 := (hT.P (hT.k t_this (by decide)) (by decide)).1
    have hN207 : zN s201 this = zN σ0 this := hT.eN t_this (by decide) rfl rfl
    refine lv_iconst (v := 0) hx hb dX4_become_33 (by decide) ?_
    refine lv_lload_n hx hb dX4_become_34 rfl (lv_at hl 0 rfl) ?_
    refine lv_l2i hx hb dX4_become_35 rfl ?_
    refine lv_topi (fun t208 ht208 => ?_)
    have ut208 := ub_l2i ht208
    have hTo := hT
    refine tasti hx hb hK hT th205 ⟨by omega, by omega⟩ (fun _ _ _ => zS_big) (fun _ _ => zP_big) fL_fX (by omega) (by omega) dX4_become_36 (fun H locs s209 hus209 hT => ?_)
    have e203 : zI s209 this 2 = 0 := (zput_o hus209 (Or.inl ((hTo.k t_this (by decide)).ne th205 (by omega)))).trans e203
    have fw210 : FW σ0 s209 this := FW.putL hTo fw202 (hTo.k t_this (by decide)) ((t_this.eL hTo.2.2.1 (by decide) rfl).trans elt) hus209
    have li211 : zI s209 lt 0 = t208 := by have z9 := zput_at hus209; rw [ix_0] at z9; exact z9
    refine lv_aload_n hx hb dX4_become_37 rfl (lv_at hl 1 rfl) ?_
    obtain ⟨oh212, th212, wh212⟩ := hT.o1z (hT.k t_this (by decide))
    rw [((t_this.eL hT.2.2.1 (by decide) rfl).trans elt)] at oh212 th212 wh212
    refine va_get (D := κ.1) (ci := 4) (v := .ref lt) (C := RX4) (T := TX4) (N := 3) hx hb hg inX4 hown hK oh212.one 0 rfl rfl 0 (by decide) (hg _ k209) (fun _ h9 => h9) rfl dX4_become_38 ?_
    have bN213 := (hT.P (hT.k t_this (by decide)) (by decide)).1
    have hN214 : zN s209 this = zN σ0 this := hT.eN t_this (by decide) rfl rfl
    refine lv_iconst (v := 1) hx hb dX4_become_41 (by decide) ?_
    refine lv_lload_n hx hb dX4_become_42 rfl (lv_at hl 0 rfl) ?_
    refine lv_bipush (v := 32) hx hb dX4_become_43 (by decide) ?_
    refine lv_lushr hx hb dX4_become_45 rfl ?_
    refine lv_topl (fun t215 ht215 => ?_)
    have zt215 : t215.toInt = 0 := shr32 (by omega) (by omega) ht215
    refine lv_l2i hx hb dX4_become_46 rfl ?_
    refine lv_topi (fun t216 ht216 => ?_)
    have yt216 : t216.toInt = 0 := by rw [ht216]; exact v_l2i zt215 (by omega) (by omega)
    have hTo := hT
    refine tasti hx hb hK hT th212 ⟨by omega, by omega⟩ (fun _ _ _ => zS_big) (fun _ _ => zP_big) fL_fX (by omega) (by omega) dX4_become_47 (fun H locs s217 hus217 hT => ?_)
    have e203 : zI s217 this 2 = 0 := (zput_o hus217 (Or.inl ((hTo.k t_this (by decide)).ne th212 (by omega)))).trans e203
    have fw218 : FW σ0 s217 this := FW.putL hTo fw210 (hTo.k t_this (by decide)) ((t_this.eL hTo.2.2.1 (by decide) rfl).trans elt) hus217
    have li219 : zI s217 lt 0 = t208 := (zput_o hus217 (Or.inr (by decide))).trans li211
    have li220 : zI s217 lt 1 = t216 := by have z9 := zput_at hus217; rw [ix_1] at z9; exact z9
    refine lv_aload_n hx hb dX4_become_48 rfl (lv_at hl 1 rfl) ?_
    refine lv_aload_n hx hb dX4_become_49 rfl (lv_at hl 1 rfl) ?_
    obtain ⟨oh221, th221, wh221⟩ := hT.o1z (hT.k t_this (by decide))
    rw [((t_this.eL hT.2.2.1 (by decide) rfl).trans elt)] at oh221 th221 wh221
    refine va_get (D := κ.1) (ci := 4) (v := .ref lt) (C := RX4) (T := TX4) (N := 3) hx hb hg inX4 hown hK oh221.one 0 rfl rfl 0 (by decide) (hg _ k209) (fun _ h9 => h9) rfl dX4_become_50 ?_
    have bN222 := (hT.P (hT.k t_this (by decide)) (by decide)).1
    have hN223 : zN s217 this = zN σ0 this := hT.eN t_this (by decide) rfl rfl
    refine lv_iconst (v := 1) hx hb dX4_become_53 (by decide) ?_
    refine va_iald hx hb hK (hT.oL th221).one 0 0 rfl rfl (g_in (by omega) (by omega)) dX4_become_54 ?_
    refine lv_topi (fun t224 ht224 => ?_)
    have xt224 : t224 = t216 := by rw [ht224, ixc, ix_1]; exact li220
    have ut224 : ub t224 = ub t216 := by rw [xt224]
    have zt224 := ub_z t216
    have yt224 : t224.toInt = t216.toInt := by rw [xt224]
    refine lv_if_eq (tgt := 62) hx hb dX4_become_55 (by decide) (fun c9 => ?_) (fun c9 => ?_)
    · have c2 := gi_eq c9
      refine lv_aload_n hx hb dX4_become_62 rfl (lv_at hl 1 rfl) ?_
      obtain ⟨oh225, th225, wh225⟩ := hT.o1z (hT.k t_this (by decide))
      rw [((t_this.eL hT.2.2.1 (by decide) rfl).trans elt)] at oh225 th225 wh225
      refine va_get (D := κ.1) (ci := 4) (v := .ref lt) (C := RX4) (T := TX4) (N := 3) hx hb hg inX4 hown hK oh225.one 0 rfl rfl 0 (by decide) (hg _ k209) (fun _ h9 => h9) rfl dX4_become_63 ?_
      have bN226 := (hT.P (hT.k t_this (by decide)) (by decide)).1
      have hN227 : zN s217 this = zN σ0 this := hT.eN t_this (by decide) rfl rfl
      refine lv_iconst (v := 0) hx hb dX4_become_66 (by decide) ?_
      refine va_iald hx hb hK (hT.oL th225).one 0 0 rfl rfl (g_in (by omega) (by omega)) dX4_become_67 ?_
      refine lv_topi (fun t228 ht228 => ?_)
      have xt228 : t228 = t208 := by rw [ht228, ixc, ix_0]; exact li219
      have ut228 : ub t228 = ub t208 := by rw [xt228]
      have zt228 := ub_z t208
      have yt228 : t228.toInt = t208.toInt := by rw [xt228]
      refine lv_if_eq (tgt := 75) hx hb dX4_become_68 (by decide) (fun c9 => ?_) (fun c9 => ?_)
      · have c3 := gi_eq c9
        refine lv_iconst (v := 0) hx hb dX4_become_75 (by decide) ?_
        have bN229 := (hT.P (hT.k t_this (by decide)) (by decide)).1
        have hN230 : zN s217 this = zN σ0 this := hT.eN t_this (by decide) rfl rfl
        have hTo := hT
        refine pf1_1 hx hb hg hown hK hT (hT.k t_this (by decide)) rfl ⟨by omega, by omega⟩ (hg _ k210) dX4_become_76 (fun H locs s231 hus231 hT => ?_)
        have e203 : zI s231 this 2 = 0 := (zput_o hus231 (Or.inr (by decide))).trans e203
        have fw232 : FW σ0 s231 this := FW.put hTo fw218 (hTo.k t_this (by decide)) hus231
        have li233 : zI s231 lt 0 = t208 := (zput_o hus231 (Or.inl (hTo.lne (hTo.k t_this (by decide)) ((t_this.eL hTo.2.2.1 (by decide) rfl).trans elt) (hTo.k t_this (by decide)) (by decide)))).trans li219
        have li234 : zI s231 lt 1 = t216 := (zput_o hus231 (Or.inl (hTo.lne (hTo.k t_this (by decide)) ((t_this.eL hTo.2.2.1 (by decide) rfl).trans elt) (hTo.k t_this (by decide)) (by decide)))).trans li220
        have e235 : zI s231 this 1 = 0 := zput_at hus231
        subst hQ9
        exact t_v hx hb hr hlocks hT ⟨(WV.mk (x1 := 0) (x2 := 0) (x0 := t208) ((t_this.eL hT.2.2.1 (by decide) rfl).trans elt) e235 e203 li233 (by omega)), fw232⟩ dX4_become_79
      · have c4 := gi_ne c9
        refine lv_iconst (v := 1) hx hb dX4_become_71 (by decide) ?_
        refine lv_goto (tgt := 76) hx hb dX4_become_72 (by decide) ?_
        have bN236 := (hT.P (hT.k t_this (by decide)) (by decide)).1
        have hN237 : zN s217 this = zN σ0 this := hT.eN t_this (by decide) rfl rfl
        have hTo := hT
        refine pf1_1 hx hb hg hown hK hT (hT.k t_this (by decide)) rfl ⟨by omega, by omega⟩ (hg _ k210) dX4_become_76 (fun H locs s238 hus238 hT => ?_)
        have e203 : zI s238 this 2 = 0 := (zput_o hus238 (Or.inr (by decide))).trans e203
        have fw239 : FW σ0 s238 this := FW.put hTo fw218 (hTo.k t_this (by decide)) hus238
        have li240 : zI s238 lt 0 = t208 := (zput_o hus238 (Or.inl (hTo.lne (hTo.k t_this (by decide)) ((t_this.eL hTo.2.2.1 (by decide) rfl).trans elt) (hTo.k t_this (by decide)) (by decide)))).trans li219
        have li241 : zI s238 lt 1 = t216 := (zput_o hus238 (Or.inl (hTo.lne (hTo.k t_this (by decide)) ((t_this.eL hTo.2.2.1 (by decide) rfl).trans elt) (hTo.k t_this (by decide)) (by decide)))).trans li220
        have e242 : zI s238 this 1 = 1 := zput_at hus238
        subst hQ9
        exact t_v hx hb hr hlocks hT ⟨(WV.mk (x1 := 1) (x2 := 0) (x0 := t208) ((t_this.eL hT.2.2.1 (by decide) rfl).trans elt) e242 e203 li240 (by omega)), fw239⟩ dX4_become_79
    · have c5 := gi_ne c9
      exfalso; omega
  · have c6 := gl_nge c9
    refine lv_iconst (v := 1) hx hb dX4_become_7 (by decide) ?_
    refine lv_goto (tgt := 12) hx hb dX4_become_8 (by decide) ?_
    have hTo := hT
    refine pf1_2 hx hb hg hown hK hT (hT.k t_this (by decide)) rfl isB1 (hg _ k211) dX4_become_12 (fun H locs s243 hus243 hT => ?_)
    have fw244 : FW σ0 s243 this := FW.put hTo FW.rf (hTo.k t_this (by decide)) hus243
    have e245 : zI s243 this 2 = 1 := zput_at hus243
    refine lv_aload_n hx hb dX4_become_15 rfl (lv_at hl 0 rfl) ?_
    obtain ⟨h246, oh246, th246⟩ := hT.o1 (hT.k t_this (by decide))
    refine va_get (D := κ.1) (ci := 4) (v := .int (zI s243 this 2)) (C := RX4) (T := TX4) (N := 3) hx hb hg inX4 hown hK oh246.one 0 rfl rfl 2 (by decide) (hg _ k211) (fun _ h9 => h9) rfl dX4_become_16 ?_
    rw [e245]
    refine lv_if_eq (tgt := 27) hx hb dX4_become_19 (by decide) (fun c9 => absurd c9 (by decide)) (fun _ => ?_)
    refine lv_lload_n hx hb dX4_become_22 rfl (lv_at hl 1 rfl) ?_
    refine lv_lneg hx hb dX4_become_23 ?_
    refine lv_topl (fun t247 ht247 => ?_)
    have xt247 : t247.toInt = -f.toInt := by rw [ht247]; exact v_neg rfl (by omega) (by omega)
    refine lv_goto (tgt := 28) hx hb dX4_become_24 (by decide) ?_
    refine lv_lstore_n (lv' := [(3, .long t247), (0, .ref this), (1, .long f)]) hx hb dX4_become_28 rfl hl (by decide) rfl (fun ls hl => ?_)
    refine lv_aload_n hx hb dX4_become_29 rfl (lv_at hl 1 rfl) ?_
    obtain ⟨oh248, th248, wh248⟩ := hT.o1z (hT.k t_this (by decide))
    rw [((t_this.eL hT.2.2.1 (by decide) rfl).trans elt)] at oh248 th248 wh248
    refine va_get (D := κ.1) (ci := 4) (v := .ref lt) (C := RX4) (T := TX4) (N := 3) hx hb hg inX4 hown hK oh248.one 0 rfl rfl 0 (by decide) (hg _ k209) (fun _ h9 => h9) rfl dX4_become_30 ?_
    have bN249 := (hT.P (hT.k t_this (by decide)) (by decide)).1
    have hN250 : zN s243 this = zN σ0 this := hT.eN t_this (by decide) rfl rfl
    refine lv_iconst (v := 0) hx hb dX4_become_33 (by decide) ?_
    refine lv_lload_n hx hb dX4_become_34 rfl (lv_at hl 0 rfl) ?_
    refine lv_l2i hx hb dX4_become_35 rfl ?_
    refine lv_topi (fun t251 ht251 => ?_)
    have ut251 := ub_l2i ht251
    have hTo := hT
    refine tasti hx hb hK hT th248 ⟨by omega, by omega⟩ (fun _ _ _ => zS_big) (fun _ _ => zP_big) fL_fX (by omega) (by omega) dX4_become_36 (fun H locs s252 hus252 hT => ?_)
    have e245 : zI s252 this 2 = 1 := (zput_o hus252 (Or.inl ((hTo.k t_this (by decide)).ne th248 (by omega)))).trans e245
    have fw253 : FW σ0 s252 this := FW.putL hTo fw244 (hTo.k t_this (by decide)) ((t_this.eL hTo.2.2.1 (by decide) rfl).trans elt) hus252
    have li254 : zI s252 lt 0 = t251 := by have z9 := zput_at hus252; rw [ix_0] at z9; exact z9
    refine lv_aload_n hx hb dX4_become_37 rfl (lv_at hl 1 rfl) ?_
    obtain ⟨oh255, th255, wh255⟩ := hT.o1z (hT.k t_this (by decide))
    rw [((t_this.eL hT.2.2.1 (by decide) rfl).trans elt)] at oh255 th255 wh255
    refine va_get (D := κ.1) (ci := 4) (v := .ref lt) (C := RX4) (T := TX4) (N := 3) hx hb hg inX4 hown hK oh255.one 0 rfl rfl 0 (by decide) (hg _ k209) (fun _ h9 => h9) rfl dX4_become_38 ?_
    have bN256 := (hT.P (hT.k t_this (by decide)) (by decide)).1
    have hN257 : zN s252 this = zN σ0 this := hT.eN t_this (by decide) rfl rfl
    refine lv_iconst (v := 1) hx hb dX4_become_41 (by decide) ?_
    refine lv_lload_n hx hb dX4_become_42 rfl (lv_at hl 0 rfl) ?_
    refine lv_bipush (v := 32) hx hb dX4_become_43 (by decide) ?_
    refine lv_lushr hx hb dX4_become_45 rfl ?_
    refine lv_topl (fun t258 ht258 => ?_)
    have zt258 : t258.toInt = 0 := shr32 (by omega) (by omega) ht258
    refine lv_l2i hx hb dX4_become_46 rfl ?_
    refine lv_topi (fun t259 ht259 => ?_)
    have yt259 : t259.toInt = 0 := by rw [ht259]; exact v_l2i zt258 (by omega) (by omega)
    have hTo := hT
    refine tasti hx hb hK hT th255 ⟨by omega, by omega⟩ (fun _ _ _ => zS_big) (fun _ _ => zP_big) fL_fX (by omega) (by omega) dX4_become_47 (fun H locs s260 hus260 hT => ?_)
    have e245 : zI s260 this 2 = 1 := (zput_o hus260 (Or.inl ((hTo.k t_this (by decide)).ne th255 (by omega)))).trans e245
    have fw261 : FW σ0 s260 this := FW.putL hTo fw253 (hTo.k t_this (by decide)) ((t_this.eL hTo.2.2.1 (by decide) rfl).trans elt) hus260
    have li262 : zI s260 lt 0 = t251 := (zput_o hus260 (Or.inr (by decide))).trans li254
    have li263 : zI s260 lt 1 = t259 := by have z9 := zput_at hus260; rw [ix_1] at z9; exact z9
    refine lv_aload_n hx hb dX4_become_48 rfl (lv_at hl 1 rfl) ?_
    refine lv_aload_n hx hb dX4_become_49 rfl (lv_at hl 1 rfl) ?_
    obtain ⟨oh264, th264, wh264⟩ := hT.o1z (hT.k t_this (by decide))
    rw [((t_this.eL hT.2.2.1 (by decide) rfl).trans elt)] at oh264 th264 wh264
    refine va_get (D := κ.1) (ci := 4) (v := .ref lt) (C := RX4) (T := TX4) (N := 3) hx hb hg inX4 hown hK oh264.one 0 rfl rfl 0 (by decide) (hg _ k209) (fun _ h9 => h9) rfl dX4_become_50 ?_
    have bN265 := (hT.P (hT.k t_this (by decide)) (by decide)).1
    have hN266 : zN s260 this = zN σ0 this := hT.eN t_this (by decide) rfl rfl
    refine lv_iconst (v := 1) hx hb dX4_become_53 (by decide) ?_
    refine va_iald hx hb hK (hT.oL th264).one 0 0 rfl rfl (g_in (by omega) (by omega)) dX4_become_54 ?_
    refine lv_topi (fun t267 ht267 => ?_)
    have xt267 : t267 = t259 := by rw [ht267, ixc, ix_1]; exact li263
    have ut267 : ub t267 = ub t259 := by rw [xt267]
    have zt267 := ub_z t259
    have yt267 : t267.toInt = t259.toInt := by rw [xt267]
    refine lv_if_eq (tgt := 62) hx hb dX4_become_55 (by decide) (fun c9 => ?_) (fun c9 => ?_)
    · have c7 := gi_eq c9
      refine lv_aload_n hx hb dX4_become_62 rfl (lv_at hl 1 rfl) ?_
      obtain ⟨oh268, th268, wh268⟩ := hT.o1z (hT.k t_this (by decide))
      rw [((t_this.eL hT.2.2.1 (by decide) rfl).trans elt)] at oh268 th268 wh268
      refine va_get (D := κ.1) (ci := 4) (v := .ref lt) (C := RX4) (T := TX4) (N := 3) hx hb hg inX4 hown hK oh268.one 0 rfl rfl 0 (by decide) (hg _ k209) (fun _ h9 => h9) rfl dX4_become_63 ?_
      have bN269 := (hT.P (hT.k t_this (by decide)) (by decide)).1
      have hN270 : zN s260 this = zN σ0 this := hT.eN t_this (by decide) rfl rfl
      refine lv_iconst (v := 0) hx hb dX4_become_66 (by decide) ?_
      refine va_iald hx hb hK (hT.oL th268).one 0 0 rfl rfl (g_in (by omega) (by omega)) dX4_become_67 ?_
      refine lv_topi (fun t271 ht271 => ?_)
      have xt271 : t271 = t251 := by rw [ht271, ixc, ix_0]; exact li262
      have ut271 : ub t271 = ub t251 := by rw [xt271]
      have zt271 := ub_z t251
      have yt271 : t271.toInt = t251.toInt := by rw [xt271]
      refine lv_if_eq (tgt := 75) hx hb dX4_become_68 (by decide) (fun c9 => ?_) (fun c9 => ?_)
      · have c8 := gi_eq c9
        refine lv_iconst (v := 0) hx hb dX4_become_75 (by decide) ?_
        have bN272 := (hT.P (hT.k t_this (by decide)) (by decide)).1
        have hN273 : zN s260 this = zN σ0 this := hT.eN t_this (by decide) rfl rfl
        have hTo := hT
        refine pf1_1 hx hb hg hown hK hT (hT.k t_this (by decide)) rfl ⟨by omega, by omega⟩ (hg _ k210) dX4_become_76 (fun H locs s274 hus274 hT => ?_)
        have e245 : zI s274 this 2 = 1 := (zput_o hus274 (Or.inr (by decide))).trans e245
        have fw275 : FW σ0 s274 this := FW.put hTo fw261 (hTo.k t_this (by decide)) hus274
        have li276 : zI s274 lt 0 = t251 := (zput_o hus274 (Or.inl (hTo.lne (hTo.k t_this (by decide)) ((t_this.eL hTo.2.2.1 (by decide) rfl).trans elt) (hTo.k t_this (by decide)) (by decide)))).trans li262
        have li277 : zI s274 lt 1 = t259 := (zput_o hus274 (Or.inl (hTo.lne (hTo.k t_this (by decide)) ((t_this.eL hTo.2.2.1 (by decide) rfl).trans elt) (hTo.k t_this (by decide)) (by decide)))).trans li263
        have e278 : zI s274 this 1 = 0 := zput_at hus274
        subst hQ9
        exact t_v hx hb hr hlocks hT ⟨(WV.mk (x1 := 0) (x2 := 1) (x0 := t251) ((t_this.eL hT.2.2.1 (by decide) rfl).trans elt) e278 e245 li276 (by omega)), fw275⟩ dX4_become_79
      · have c9 := gi_ne c9
        refine lv_iconst (v := 1) hx hb dX4_become_71 (by decide) ?_
        refine lv_goto (tgt := 76) hx hb dX4_become_72 (by decide) ?_
        have bN279 := (hT.P (hT.k t_this (by decide)) (by decide)).1
        have hN280 : zN s260 this = zN σ0 this := hT.eN t_this (by decide) rfl rfl
        have hTo := hT
        refine pf1_1 hx hb hg hown hK hT (hT.k t_this (by decide)) rfl ⟨by omega, by omega⟩ (hg _ k210) dX4_become_76 (fun H locs s281 hus281 hT => ?_)
        have e245 : zI s281 this 2 = 1 := (zput_o hus281 (Or.inr (by decide))).trans e245
        have fw282 : FW σ0 s281 this := FW.put hTo fw261 (hTo.k t_this (by decide)) hus281
        have li283 : zI s281 lt 0 = t251 := (zput_o hus281 (Or.inl (hTo.lne (hTo.k t_this (by decide)) ((t_this.eL hTo.2.2.1 (by decide) rfl).trans elt) (hTo.k t_this (by decide)) (by decide)))).trans li262
        have li284 : zI s281 lt 1 = t259 := (zput_o hus281 (Or.inl (hTo.lne (hTo.k t_this (by decide)) ((t_this.eL hTo.2.2.1 (by decide) rfl).trans elt) (hTo.k t_this (by decide)) (by decide)))).trans li263
        have e285 : zI s281 this 1 = 1 := zput_at hus281
        subst hQ9
        exact t_v hx hb hr hlocks hT ⟨(WV.mk (x1 := 1) (x2 := 1) (x0 := t251) ((t_this.eL hT.2.2.1 (by decide) rfl).trans elt) e285 e245 li283 (by omega)), fw282⟩ dX4_become_79
    · have c10 := gi_ne c9
      exfalso; omega
set_option maxHeartbeats 4000000 in
set_option maxRecDepth 100000 in
theorem X4v_copyFrom (l : Launch) (κ : Kt) (σ0 : Gh) (this : Nat) (o : Nat) {v : Int} (t_this : zk σ0 this 1) (t_o : zk σ0 o 1) (h0 : WV σ0 o v) : TC l yX4_copyFrom cX4_copyFrom 2 none 0 0 [.ref this, .ref o] κ σ0 (tqv κ fX σ0 (fun (τ : Gh) => (WV τ this v) ∧ (FW σ0 τ this))) := by
  refine TC.of fX (by decide +kernel) (Nat.le_of_ble_eq_true rfl) ?_
  intro p e s m below meth c ls hcs hK hX hT hl
  obtain ⟨hx, hb, hr, hml, hown, hg, hlocks, hin⟩ := hcs
  have hown : s.vm.findClass RX4 = some m.cls := hown
  have hl : lv_has ls 2 [(0, .ref this), (1, .ref o)] := hl
  have hT0 := hT
  have n0 : (0 : Int32).toInt = 0 := by decide
  have n1 : (1 : Int32).toInt = 1 := by decide
  generalize hQ9 : tQ _ _ _ _ _ _ = Q9
  obtain ⟨lt, elt⟩ : ∃ z, zL σ0 this = z := ⟨_, rfl⟩
  obtain ⟨-, klt, -⟩ := hT.o1z t_this
  rw [elt] at klt
  obtain ⟨lo, elo⟩ : ∃ z, zL σ0 o = z := ⟨_, rfl⟩
  obtain ⟨-, klo, -⟩ := hT.o1z t_o
  rw [elo] at klo
  have hwo := h0.at elo
  obtain ⟨v201, ev201⟩ : ∃ zz9 : Int32, zI σ0 o 1 = zz9 := ⟨_, rfl⟩
  have qv201 : v201.toInt = (zI σ0 o 1).toInt := by rw [ev201]
  have b202 := (hT.P (hT.k t_o (by decide)) (by decide)).2.1
  rw [ev201] at b202
  have b202l := b202.1
  have b202h := b202.2
  have bN203 := (hT.P (hT.k t_o (by decide)) (by decide)).1
  have hN204 : zN σ0 o = zN σ0 o := hT.eN t_o (by decide) rfl rfl
  obtain ⟨v205, ev205⟩ : ∃ zz9 : Int32, zI σ0 o 2 = zz9 := ⟨_, rfl⟩
  have qv205 : v205.toInt = (zI σ0 o 2).toInt := by rw [ev205]
  have b206 : isB v205 := by have q9 := (hT.P (hT.k t_o (by decide)) (by decide)).2.2; rw [ev205] at q9; exact q9
  refine lv_aload_n hx hb dX4_copyFrom_0 rfl (lv_at hl 0 rfl) ?_
  obtain ⟨oh207, th207, wh207⟩ := hT.o1z (hT.k t_this (by decide))
  rw [((t_this.eL hT.2.2.1 (by decide) rfl).trans elt)] at oh207 th207 wh207
  refine va_get (D := κ.1) (ci := 4) (v := .ref lt) (C := RX4) (T := TX4) (N := 3) hx hb hg inX4 hown hK oh207.one 0 rfl rfl 0 (by decide) (hg _ k209) (fun _ h9 => h9) rfl dX4_copyFrom_1 ?_
  have bN208 := (hT.P (hT.k t_this (by decide)) (by decide)).1
  have hN209 : zN σ0 this = zN σ0 this := hT.eN t_this (by decide) rfl rfl
  refine lv_iconst (v := 0) hx hb dX4_copyFrom_4 (by decide) ?_
  refine lv_aload_n hx hb dX4_copyFrom_5 rfl (lv_at hl 1 rfl) ?_
  obtain ⟨oh210, th210, wh210⟩ := hT.o1z (hT.k t_o (by decide))
  rw [((t_o.eL hT.2.2.1 (by decide) rfl).trans elo)] at oh210 th210 wh210
  refine va_get (D := κ.1) (ci := 4) (v := .ref lo) (C := RX4) (T := TX4) (N := 3) hx hb hg inX4 hown hK oh210.one 0 rfl rfl 0 (by decide) (hg _ k209) (fun _ h9 => h9) rfl dX4_copyFrom_6 ?_
  have bN211 := (hT.P (hT.k t_o (by decide)) (by decide)).1
  have hN212 : zN σ0 o = zN σ0 o := hT.eN t_o (by decide) rfl rfl
  refine lv_iconst (v := 0) hx hb dX4_copyFrom_9 (by decide) ?_
  refine va_iald hx hb hK (hT.oL th210).one 0 0 rfl rfl (g_in (by omega) (by omega)) dX4_copyFrom_10 ?_
  refine lv_topi (fun t213 ht213 => ?_)
  have ut213 : ub t213 = ub (zI σ0 lo 0) := by rw [ht213, ixc, ix_0]
  have hTo := hT
  refine tasti hx hb hK hT th207 ⟨by omega, by omega⟩ (fun _ _ _ => zS_big) (fun _ _ => zP_big) fL_fX (by omega) (by omega) dX4_copyFrom_11 (fun H locs s214 hus214 hT => ?_)
  have ev201 : zI s214 o 1 = v201 := (zput_o hus214 (Or.inl ((hTo.k t_o (by decide)).ne th207 (by omega)))).trans ev201
  have ev205 : zI s214 o 2 = v205 := (zput_o hus214 (Or.inl ((hTo.k t_o (by decide)).ne th207 (by omega)))).trans ev205
  have fw215 : FW σ0 s214 this := FW.putL hTo FW.rf (hTo.k t_this (by decide)) ((t_this.eL hTo.2.2.1 (by decide) rfl).trans elt) hus214
  have li216 : zI s214 lt 0 = t213 := by have z9 := zput_at hus214; rw [ix_0] at z9; exact z9
  refine lv_aload_n hx hb dX4_copyFrom_12 rfl (lv_at hl 1 rfl) ?_
  obtain ⟨h217, oh217, th217⟩ := hT.o1 (hT.k t_o (by decide))
  refine va_get (D := κ.1) (ci := 4) (v := .int (zI s214 o 1)) (C := RX4) (T := TX4) (N := 3) hx hb hg inX4 hown hK oh217.one 0 rfl rfl 1 (by decide) (hg _ k210) (fun _ h9 => h9) rfl dX4_copyFrom_13 ?_
  rw [ev201]
  refine lv_iconst (v := 1) hx hb dX4_copyFrom_16 (by decide) ?_
  refine lv_icmp_le (tgt := 46) hx hb dX4_copyFrom_17 (by decide) (fun c9 => ?_) (fun c9 => ?_)
  · have c1 := gi_le c9
    refine lv_aload_n hx hb dX4_copyFrom_46 rfl (lv_at hl 0 rfl) ?_
    refine lv_aload_n hx hb dX4_copyFrom_47 rfl (lv_at hl 1 rfl) ?_
    obtain ⟨h218, oh218, th218⟩ := hT.o1 (hT.k t_o (by decide))
    refine va_get (D := κ.1) (ci := 4) (v := .int (zI s214 o 1)) (C := RX4) (T := TX4) (N := 3) hx hb hg inX4 hown hK oh218.one 0 rfl rfl 1 (by decide) (hg _ k210) (fun _ h9 => h9) rfl dX4_copyFrom_48 ?_
    rw [ev201]
    have bN219 := (hT.P (hT.k t_this (by decide)) (by decide)).1
    have hN220 : zN s214 this = zN σ0 this := hT.eN t_this (by decide) rfl rfl
    have hTo := hT
    refine pf1_1 hx hb hg hown hK hT (hT.k t_this (by decide)) rfl ⟨by omega, by omega⟩ (hg _ k210) dX4_copyFrom_51 (fun H locs s221 hus221 hT => ?_)
    have ev205 : zI s221 o 2 = v205 := (zput_o hus221 (Or.inr (by decide))).trans ev205
    have fw222 : FW σ0 s221 this := FW.put hTo fw215 (hTo.k t_this (by decide)) hus221
    have li223 : zI s221 lt 0 = t213 := (zput_o hus221 (Or.inl (hTo.lne (hTo.k t_this (by decide)) ((t_this.eL hTo.2.2.1 (by decide) rfl).trans elt) (hTo.k t_this (by decide)) (by decide)))).trans li216
    have e224 : zI s221 this 1 = v201 := zput_at hus221
    refine lv_aload_n hx hb dX4_copyFrom_54 rfl (lv_at hl 0 rfl) ?_
    refine lv_aload_n hx hb dX4_copyFrom_55 rfl (lv_at hl 1 rfl) ?_
    obtain ⟨h225, oh225, th225⟩ := hT.o1 (hT.k t_o (by decide))
    refine va_get (D := κ.1) (ci := 4) (v := .int (zI s221 o 2)) (C := RX4) (T := TX4) (N := 3) hx hb hg inX4 hown hK oh225.one 0 rfl rfl 2 (by decide) (hg _ k211) (fun _ h9 => h9) rfl dX4_copyFrom_56 ?_
    rw [ev205]
    have hTo := hT
    refine pf1_2 hx hb hg hown hK hT (hT.k t_this (by decide)) rfl b206 (hg _ k211) dX4_copyFrom_59 (fun H locs s226 hus226 hT => ?_)
    have e224 : zI s226 this 1 = v201 := (zput_o hus226 (Or.inr (by decide))).trans e224
    have fw227 : FW σ0 s226 this := FW.put hTo fw222 (hTo.k t_this (by decide)) hus226
    have li228 : zI s226 lt 0 = t213 := (zput_o hus226 (Or.inl (hTo.lne (hTo.k t_this (by decide)) ((t_this.eL hTo.2.2.1 (by decide) rfl).trans elt) (hTo.k t_this (by decide)) (by decide)))).trans li223
    have e229 : zI s226 this 2 = v205 := zput_at hus226
    subst hQ9
    exact t_v hx hb hr hlocks hT ⟨(WV.mk (x1 := v201) (x2 := v205) (x0 := t213) ((t_this.eL hT.2.2.1 (by decide) rfl).trans elt) e224 e229 li228 (by omega)), fw227⟩ dX4_copyFrom_62
  · have c2 := gi_nle c9
    exfalso; omega
set_option maxHeartbeats 4000000 in
set_option maxRecDepth 100000 in
theorem X4v_add (l : Launch) (κ : Kt) (σ0 : Gh) (this : Nat) (o : Nat) (f : Int64) {a b : Int} (t_this : zk σ0 this 1) (t_o : zk σ0 o 1) (h0 : WV σ0 this a) (h1 : WV σ0 o b) (h2 : -4294967296 < a + b * f.toInt) (h3 : a + b * f.toInt < 4294967296) (h4 : -9223372036854775808 ≤ b * f.toInt) (h5 : b * f.toInt ≤ 9223372036854775807) : TC l yX4_add cX4_add 7 none 1 24 [.ref this, .ref o, .long f] κ σ0 (tqv κ fX σ0 (fun (τ : Gh) => (WV τ this (a + b * f.toInt)) ∧ (FW σ0 τ this))) := by
  refine TC.of fX (by decide +kernel) (Nat.le_of_ble_eq_true rfl) ?_
  intro p e s m below meth c ls hcs hK hX hT hl
  obtain ⟨hx, hb, hr, hml, hown, hg, hlocks, hin⟩ := hcs
  have hown : s.vm.findClass RX4 = some m.cls := hown
  have hl : lv_has ls 7 [(0, .ref this), (1, .ref o), (2, .long f)] := hl
  have hT0 := hT
  have n1 : (1 : Int32).toInt = 1 := by decide
  generalize hQ9 : tQ _ _ _ _ _ _ = Q9
  obtain ⟨lt, elt⟩ : ∃ z, zL σ0 this = z := ⟨_, rfl⟩
  obtain ⟨-, klt, -⟩ := hT.o1z t_this
  rw [elt] at klt
  obtain ⟨lo, elo⟩ : ∃ z, zL σ0 o = z := ⟨_, rfl⟩
  obtain ⟨-, klo, -⟩ := hT.o1z t_o
  rw [elo] at klo
  have hwthis := h0.at elt
  have hwo := h1.at elo
  refine lv_aload_n hx hb dX4_add_0 rfl (lv_at hl 0 rfl) ?_
  obtain ⟨h201, oh201, th201⟩ := hT.o1 (hT.k t_this (by decide))
  obtain ⟨v202, ev202⟩ : ∃ zz9 : Int32, zI σ0 this 1 = zz9 := ⟨_, rfl⟩
  have qv202 : v202.toInt = (zI σ0 this 1).toInt := by rw [ev202]
  have b203 := (hT.P (hT.k t_this (by decide)) (by decide)).2.1
  rw [ev202] at b203
  have b203l := b203.1
  have b203h := b203.2
  have bN204 := (hT.P (hT.k t_this (by decide)) (by decide)).1
  have hN205 : zN σ0 this = zN σ0 this := hT.eN t_this (by decide) rfl rfl
  refine va_get (D := κ.1) (ci := 4) (v := .int (zI σ0 this 1)) (C := RX4) (T := TX4) (N := 3) hx hb hg inX4 hown hK oh201.one 0 rfl rfl 1 (by decide) (hg _ k210) (fun _ h9 => h9) rfl dX4_add_1 ?_
  rw [ev202]
  refine lv_iconst (v := 1) hx hb dX4_add_4 (by decide) ?_
  refine lv_icmp_gt (tgt := 32) hx hb dX4_add_5 (by decide) (fun c9 => ?_) (fun c9 => ?_)
  · have c1 := gi_lt c9
    exfalso; omega
  · have c2 := gi_nlt c9
    refine lv_aload_n hx hb dX4_add_8 rfl (lv_at hl 1 rfl) ?_
    obtain ⟨h206, oh206, th206⟩ := hT.o1 (hT.k t_o (by decide))
    obtain ⟨v207, ev207⟩ : ∃ zz9 : Int32, zI σ0 o 1 = zz9 := ⟨_, rfl⟩
    have qv207 : v207.toInt = (zI σ0 o 1).toInt := by rw [ev207]
    have b208 := (hT.P (hT.k t_o (by decide)) (by decide)).2.1
    rw [ev207] at b208
    have b208l := b208.1
    have b208h := b208.2
    have bN209 := (hT.P (hT.k t_o (by decide)) (by decide)).1
    have hN210 : zN σ0 o = zN σ0 o := hT.eN t_o (by decide) rfl rfl
    refine va_get (D := κ.1) (ci := 4) (v := .int (zI σ0 o 1)) (C := RX4) (T := TX4) (N := 3) hx hb hg inX4 hown hK oh206.one 0 rfl rfl 1 (by decide) (hg _ k210) (fun _ h9 => h9) rfl dX4_add_9 ?_
    rw [ev207]
    refine lv_iconst (v := 1) hx hb dX4_add_12 (by decide) ?_
    refine lv_icmp_gt (tgt := 32) hx hb dX4_add_13 (by decide) (fun c9 => ?_) (fun c9 => ?_)
    · have c3 := gi_lt c9
      exfalso; omega
    · have c4 := gi_nlt c9
      refine lv_aload_n hx hb dX4_add_16 rfl (lv_at hl 0 rfl) ?_
      refine lv_aload_n hx hb dX4_add_17 rfl (lv_at hl 0 rfl) ?_
      obtain ⟨h213, oh213, th213⟩ := hT.o1 (hT.k t_this (by decide))
      have hTo := hT
      refine tVl (n := 0) (As := []) (rest := [.ref this]) hx hb hml hown hg hT hK hX (X4v_lowest l κ σ0 this  (hT.k t_this (by decide)) h0) sub_fE_fX (mwV k344 k346 k0 k88 k347) ⟨rfl, by decide, by decide, by decide +kernel⟩ ⟨(Nat.le_of_ble_eq_true rfl), (Nat.le_of_ble_eq_true rfl)⟩ oh213 rfl rfl hl.1 rfl (Nat.le_of_ble_eq_true rfl) dX4_add_18 zroom.rf (fun x211 s212 H locs hφ hEs212 hT => ?_)
      have ev202 : zI s212 this 1 = v202 := ((hTo.k t_this (by decide)).eI hEs212 (by decide) rfl).trans ev202
      have ev207 : zI s212 o 1 = v207 := ((hTo.k t_o (by decide)).eI hEs212 (by decide) rfl).trans ev207
      have fa214 : FA σ0 s212 := FA.ro hTo hEs212 (fun _ => rfl) (fun _ _ => rfl)
      have fw215 : FW σ0 s212 this := FW.callA hTo FW.rf fa214
      have wn216 : WV s212 this a := fa214 this (hTo.k t_this (by decide)) _ h0
      have wn217 : WV s212 o b := fa214 o (hTo.k t_o (by decide)) _ h1
      have f218 := hφ
      refine lv_aload_n hx hb dX4_add_21 rfl (lv_at hl 1 rfl) ?_
      obtain ⟨h221, oh221, th221⟩ := hT.o1 (hT.k t_o (by decide))
      have hTo := hT
      refine tVl (n := 0) (As := []) (rest := [.long x211, .ref this]) hx hb hml hown hg hT hK hX (X4v_lowest l κ s212 o  (hT.k t_o (by decide)) wn217) sub_fE_fX (mwV k344 k346 k0 k88 k347) ⟨rfl, by decide, by decide, by decide +kernel⟩ ⟨(Nat.le_of_ble_eq_true rfl), (Nat.le_of_ble_eq_true rfl)⟩ oh221 rfl rfl hl.1 rfl (Nat.le_of_ble_eq_true rfl) dX4_add_22 zroom.rf (fun x219 s220 H locs hφ hEs220 hT => ?_)
      have ev202 : zI s220 this 1 = v202 := ((hTo.k t_this (by decide)).eI hEs220 (by decide) rfl).trans ev202
      have ev207 : zI s220 o 1 = v207 := ((hTo.k t_o (by decide)).eI hEs220 (by decide) rfl).trans ev207
      have fa222 : FA s212 s220 := FA.ro hTo hEs220 (fun _ => rfl) (fun _ _ => rfl)
      have fw223 : FW σ0 s220 this := FW.callA hTo fw215 fa222
      have wn224 : WV s220 this a := fa222 this (hTo.k t_this (by decide)) _ wn216
      have wn225 : WV s220 o b := fa222 o (hTo.k t_o (by decide)) _ wn217
      have f226 := hφ
      refine lv_lload_n hx hb dX4_add_25 rfl (lv_at hl 2 rfl) ?_
      refine lv_lmul hx hb dX4_add_26 ?_
      refine g_mull (by rw [f226]; omega) (by rw [f226]; omega) (fun t227 ht227 => ?_)
      rw [f226] at ht227
      refine lv_ladd hx hb dX4_add_27 ?_
      refine g_addl (by omega) (by omega) (fun t228 ht228 => ?_)
      obtain ⟨h231, oh231, th231⟩ := hT.o1 (hT.k t_this (by decide))
      have hTo := hT
      refine tVv (n := 1) (As := [.long t228]) (rest := []) hx hb hml hown hg hT hK hX (X4v_become l κ s220 this t228  (hT.k t_this (by decide)) (by omega) (by omega)) (fun _ _ h => h) (mwV k349 k275 k276 k88 k277) ⟨rfl, by decide, by decide, by decide +kernel⟩ ⟨(Nat.le_of_ble_eq_true rfl), (Nat.le_of_ble_eq_true rfl)⟩ oh231 rfl rfl hl.1 rfl (Nat.le_of_ble_eq_true rfl) dX4_add_28 zroom.rf (fun s230 H locs hφ hEs230 hT => ?_)
      obtain ⟨f232, f233⟩ := hφ
      have fw234 : FW σ0 s230 this := FW.call hTo fw223 f233
      subst hQ9
      exact t_v hx hb hr hlocks hT ⟨by rw [show a + b * f.toInt = t228.toInt from by omega]; exact f232, fw234⟩ dX4_add_31
set_option maxHeartbeats 4000000 in
set_option maxRecDepth 100000 in
theorem X4v_scale (l : Launch) (κ : Kt) (σ0 : Gh) (this : Nat) (x : Int64) (y : Int64) {a : Int} (t_this : zk σ0 this 1) (h0 : WV σ0 this a) (h1 : 0 < y.toInt) (h2 : -9223372036854775808 ≤ a * x.toInt) (h3 : a * x.toInt ≤ 9223372036854775807) (h4 : -4294967296 < a * x.toInt / y.toInt) (h5 : a * x.toInt / y.toInt < 4294967296) : TC l yX4_scale cX4_scale 6 none 1 25 [.ref this, .long x, .long y] κ σ0 (tqv κ fX σ0 (fun (τ : Gh) => (WV τ this (a * x.toInt / y.toInt)) ∧ (FW σ0 τ this))) := by
  refine TC.of fX (by decide +kernel) (Nat.le_of_ble_eq_true rfl) ?_
  intro p e s m below meth c ls hcs hK hX hT hl
  obtain ⟨hx, hb, hr, hml, hown, hg, hlocks, hin⟩ := hcs
  have hown : s.vm.findClass RX4 = some m.cls := hown
  have hl : lv_has ls 6 [(0, .ref this), (1, .long x), (3, .long y)] := hl
  have hT0 := hT
  have n0 : (0 : Int32).toInt = 0 := by decide
  have n1 : (1 : Int32).toInt = 1 := by decide
  have j0 : (0 : Int64).toInt = 0 := by decide
  generalize hQ9 : tQ _ _ _ _ _ _ = Q9
  obtain ⟨lt, elt⟩ : ∃ z, zL σ0 this = z := ⟨_, rfl⟩
  obtain ⟨-, klt, -⟩ := hT.o1z t_this
  rw [elt] at klt
  have hwthis := h0.at elt
  refine lv_lload_n hx hb dX4_scale_0 rfl (lv_at hl 2 rfl) ?_
  refine lv_lconst (v := 0) hx hb dX4_scale_1 (by decide) ?_
  refine W.lcmp hx hb dX4_scale_2 ?_
  refine lv_if_gt (tgt := 7) hx hb dX4_scale_3 (by decide) (fun c9 => ?_) (fun c9 => ?_)
  · have c1 := gl_gt c9
    refine lv_aload_n hx hb dX4_scale_7 rfl (lv_at hl 0 rfl) ?_
    obtain ⟨h201, oh201, th201⟩ := hT.o1 (hT.k t_this (by decide))
    obtain ⟨v202, ev202⟩ : ∃ zz9 : Int32, zI σ0 this 1 = zz9 := ⟨_, rfl⟩
    have qv202 : v202.toInt = (zI σ0 this 1).toInt := by rw [ev202]
    have b203 := (hT.P (hT.k t_this (by decide)) (by decide)).2.1
    rw [ev202] at b203
    have b203l := b203.1
    have b203h := b203.2
    have bN204 := (hT.P (hT.k t_this (by decide)) (by decide)).1
    have hN205 : zN σ0 this = zN σ0 this := hT.eN t_this (by decide) rfl rfl
    refine va_get (D := κ.1) (ci := 4) (v := .int (zI σ0 this 1)) (C := RX4) (T := TX4) (N := 3) hx hb hg inX4 hown hK oh201.one 0 rfl rfl 1 (by decide) (hg _ k210) (fun _ h9 => h9) rfl dX4_scale_8 ?_
    rw [ev202]
    refine lv_iconst (v := 1) hx hb dX4_scale_11 (by decide) ?_
    refine lv_icmp_gt (tgt := 30) hx hb dX4_scale_12 (by decide) (fun c9 => ?_) (fun c9 => ?_)
    · have c2 := gi_lt c9
      exfalso; omega
    · have c3 := gi_nlt c9
      refine lv_aload_n hx hb dX4_scale_15 rfl (lv_at hl 0 rfl) ?_
      refine lv_aload_n hx hb dX4_scale_16 rfl (lv_at hl 0 rfl) ?_
      obtain ⟨h208, oh208, th208⟩ := hT.o1 (hT.k t_this (by decide))
      have hTo := hT
      refine tVl (n := 0) (As := []) (rest := [.ref this]) hx hb hml hown hg hT hK hX (X4v_lowest l κ σ0 this  (hT.k t_this (by decide)) h0) sub_fE_fX (mwV k344 k346 k0 k88 k347) ⟨rfl, by decide, by decide, by decide +kernel⟩ ⟨(Nat.le_of_ble_eq_true rfl), (Nat.le_of_ble_eq_true rfl)⟩ oh208 rfl rfl hl.1 rfl (Nat.le_of_ble_eq_true rfl) dX4_scale_17 zroom.rf (fun x206 s207 H locs hφ hEs207 hT => ?_)
      have ev202 : zI s207 this 1 = v202 := ((hTo.k t_this (by decide)).eI hEs207 (by decide) rfl).trans ev202
      have fa209 : FA σ0 s207 := FA.ro hTo hEs207 (fun _ => rfl) (fun _ _ => rfl)
      have fw210 : FW σ0 s207 this := FW.callA hTo FW.rf fa209
      have wn211 : WV s207 this a := fa209 this (hTo.k t_this (by decide)) _ h0
      have f212 := hφ
      refine lv_lload_n hx hb dX4_scale_20 rfl (lv_at hl 1 rfl) ?_
      refine lv_lmul hx hb dX4_scale_21 ?_
      refine g_mull (by rw [f212]; omega) (by rw [f212]; omega) (fun t213 ht213 => ?_)
      rw [f212] at ht213
      refine lv_lload_n hx hb dX4_scale_22 rfl (lv_at hl 2 rfl) ?_
      have hTo := hT
      refine tTl (n := 2) (As := [.long t213, .long y]) (rest := [.ref this]) hx hb hml hown hg hT hK hX (Jv_floorDiv l κ s207 t213 y   (by omega)) sub_fE_fX (mwI k557) ⟨by decide, by decide, by decide +kernel⟩ ⟨(Nat.le_of_ble_eq_true rfl), (Nat.le_of_ble_eq_true rfl)⟩ k90 k555 k556 rfl hl.1 rfl (Nat.le_of_ble_eq_true rfl) dX4_scale_23 zroom.rf (fun x214 s215 H locs hφ hEs215 hT => ?_)
      have ev202 : zI s215 this 1 = v202 := ((hTo.k t_this (by decide)).eI hEs215 (by decide) rfl).trans ev202
      have fa216 : FA s207 s215 := FA.ro hTo hEs215 (fun _ => rfl) (fun _ _ => rfl)
      have fw217 : FW σ0 s215 this := FW.callA hTo fw210 fa216
      have wn218 : WV s215 this a := fa216 this (hTo.k t_this (by decide)) _ wn211
      have f219 := hφ
      rw [ht213] at f219
      obtain ⟨h222, oh222, th222⟩ := hT.o1 (hT.k t_this (by decide))
      have hTo := hT
      refine tVv (n := 1) (As := [.long x214]) (rest := []) hx hb hml hown hg hT hK hX (X4v_become l κ s215 this x214  (hT.k t_this (by decide)) (by omega) (by omega)) (fun _ _ h => h) (mwV k349 k275 k276 k88 k277) ⟨rfl, by decide, by decide, by decide +kernel⟩ ⟨(Nat.le_of_ble_eq_true rfl), (Nat.le_of_ble_eq_true rfl)⟩ oh222 rfl rfl hl.1 rfl (Nat.le_of_ble_eq_true rfl) dX4_scale_26 zroom.rf (fun s221 H locs hφ hEs221 hT => ?_)
      obtain ⟨f223, f224⟩ := hφ
      have fw225 : FW σ0 s221 this := FW.call hTo fw217 f224
      subst hQ9
      exact t_v hx hb hr hlocks hT ⟨by rw [show a * x.toInt / y.toInt = x214.toInt from by omega]; exact f223, fw225⟩ dX4_scale_29
  · have c4 := gl_ngt c9
    exfalso; omega
set_option maxHeartbeats 4000000 in
set_option maxRecDepth 100000 in
theorem X4v_compareAmount (l : Launch) (κ : Kt) (σ0 : Gh) (this : Nat) (o : Nat) {a b : Int} (t_this : zk σ0 this 1) (t_o : zk σ0 o 1) (h0 : WV σ0 this a) (h1 : WV σ0 o b) : TC l yX4_compareAmount cX4_compareAmount 3 (some .int) 0 0 [.ref this, .ref o] κ σ0 (tqi κ fE σ0 (fun (r : Int32) (τ : Gh) => ((r.toInt < 0 ∧ ab a < ab b) ∨ (0 ≤ r.toInt ∧ ab b ≤ ab a)))) := by
  refine TC.of fE (by decide +kernel) (Nat.le_of_ble_eq_true rfl) ?_
  intro p e s m below meth c ls hcs hK hX hT hl
  obtain ⟨hx, hb, hr, hml, hown, hg, hlocks, hin⟩ := hcs
  have hown : s.vm.findClass RX4 = some m.cls := hown
  have hl : lv_has ls 3 [(0, .ref this), (1, .ref o)] := hl
  have hT0 := hT
  have nm1 : ((-1) : Int32).toInt = (-1) := by decide
  have n0 : (0 : Int32).toInt = 0 := by decide
  have n1 : (1 : Int32).toInt = 1 := by decide
  have j4294967295 : (4294967295 : Int64).toInt = 4294967295 := by decide
  generalize hQ9 : tQ _ _ _ _ _ _ = Q9
  obtain ⟨lt, elt⟩ : ∃ z, zL σ0 this = z := ⟨_, rfl⟩
  obtain ⟨-, klt, -⟩ := hT.o1z t_this
  rw [elt] at klt
  obtain ⟨lo, elo⟩ : ∃ z, zL σ0 o = z := ⟨_, rfl⟩
  obtain ⟨-, klo, -⟩ := hT.o1z t_o
  rw [elo] at klo
  have hwthis := h0.at elt
  have hwo := h1.at elo
  obtain ⟨hAthis, hUthis⟩ := h0.amt elt
  obtain ⟨hAo, hUo⟩ := h1.amt elo
  refine lv_aload_n hx hb dX4_compareAmount_0 rfl (lv_at hl 0 rfl) ?_
  obtain ⟨h201, oh201, th201⟩ := hT.o1 (hT.k t_this (by decide))
  obtain ⟨v202, ev202⟩ : ∃ zz9 : Int32, zI σ0 this 1 = zz9 := ⟨_, rfl⟩
  have qv202 : v202.toInt = (zI σ0 this 1).toInt := by rw [ev202]
  have b203 := (hT.P (hT.k t_this (by decide)) (by decide)).2.1
  rw [(hT.eI t_this (by decide) rfl ev202)] at b203
  have b203l := b203.1
  have b203h := b203.2
  have bN204 := (hT.P (hT.k t_this (by decide)) (by decide)).1
  have hN205 : zN σ0 this = zN σ0 this := hT.eN t_this (by decide) rfl rfl
  refine va_get (D := κ.1) (ci := 4) (v := .int (zI σ0 this 1)) (C := RX4) (T := TX4) (N := 3) hx hb hg inX4 hown hK oh201.one 0 rfl rfl 1 (by decide) (hg _ k210) (fun _ h9 => h9) rfl dX4_compareAmount_1 ?_
  rw [(hT.eI t_this (by decide) rfl ev202)]
  refine lv_aload_n hx hb dX4_compareAmount_4 rfl (lv_at hl 1 rfl) ?_
  obtain ⟨h206, oh206, th206⟩ := hT.o1 (hT.k t_o (by decide))
  obtain ⟨v207, ev207⟩ : ∃ zz9 : Int32, zI σ0 o 1 = zz9 := ⟨_, rfl⟩
  have qv207 : v207.toInt = (zI σ0 o 1).toInt := by rw [ev207]
  have b208 := (hT.P (hT.k t_o (by decide)) (by decide)).2.1
  rw [(hT.eI t_o (by decide) rfl ev207)] at b208
  have b208l := b208.1
  have b208h := b208.2
  have bN209 := (hT.P (hT.k t_o (by decide)) (by decide)).1
  have hN210 : zN σ0 o = zN σ0 o := hT.eN t_o (by decide) rfl rfl
  refine va_get (D := κ.1) (ci := 4) (v := .int (zI σ0 o 1)) (C := RX4) (T := TX4) (N := 3) hx hb hg inX4 hown hK oh206.one 0 rfl rfl 1 (by decide) (hg _ k210) (fun _ h9 => h9) rfl dX4_compareAmount_5 ?_
  rw [(hT.eI t_o (by decide) rfl ev207)]
  refine lv_icmp_eq (tgt := 28) hx hb dX4_compareAmount_8 (by decide) (fun c9 => ?_) (fun c9 => ?_)
  · have c1 := gi_eq c9
    refine lv_aload_n hx hb dX4_compareAmount_28 rfl (lv_at hl 0 rfl) ?_
    obtain ⟨h211, oh211, th211⟩ := hT.o1 (hT.k t_this (by decide))
    refine va_get (D := κ.1) (ci := 4) (v := .int (zI σ0 this 1)) (C := RX4) (T := TX4) (N := 3) hx hb hg inX4 hown hK oh211.one 0 rfl rfl 1 (by decide) (hg _ k210) (fun _ h9 => h9) rfl dX4_compareAmount_29 ?_
    rw [(hT.eI t_this (by decide) rfl ev202)]
    refine lv_iconst (v := 1) hx hb dX4_compareAmount_32 (by decide) ?_
    refine lv_isub hx hb dX4_compareAmount_33 ?_
    first | refine g_sub (by omega) (by omega) (fun t212 ht212 => ?_) | refine lv_topi (fun t212 ht212 => ?_)
    refine lv_istore_n (lv' := [(2, .int t212), (0, .ref this), (1, .ref o)]) hx hb dX4_compareAmount_34 rfl hl (by decide) rfl (fun ls hl => ?_)
    have loop35 : ∀ (n9 : Nat) (i : Int32) (H : Heap) (locs : List Loc) (sg : Gh) (ls : Array Slot), TS κ fE σ0 sg s H locs → ((i.toInt = -1 ∧ ab a = ab b) ∨ (i.toInt = 0 ∧ 0 < ab a)) → lv_has ls 3 [(2, .int i), (0, .ref this), (1, .ref o)] → (i.toInt + 1) < n9 → tW p l e 0 0 κ s m #[.ref this, .ref o] below meth c H locs Q9 (F0 m 35 ls []) := by
      intro n9
      induction n9 with
      | zero =>
        intro i H locs sg ls hT q1 hl hm9
        exfalso
        omega
      | succ n9 ih9 =>
        have ih35 := ih9
        clear ih9
        intro i H locs s213 ls hT q1 hl hm9
        refine lv_iload_n hx hb dX4_compareAmount_35 rfl (lv_at hl 0 rfl) ?_
        refine lv_if_lt (tgt := 92) hx hb dX4_compareAmount_36 (by decide) (fun c9 => ?_) (fun c9 => ?_)
        · have c2 := gi_lt c9
          refine lv_iconst (v := 0) hx hb dX4_compareAmount_92 (by decide) ?_
          subst hQ9
          exact t_i hx hb hr hlocks hT (by omega) dX4_compareAmount_93
        · have c3 := gi_nlt c9
          refine lv_aload_n hx hb dX4_compareAmount_39 rfl (lv_at hl 1 rfl) ?_
          obtain ⟨oh214, th214, wh214⟩ := hT.o1z (hT.k t_this (by decide))
          rw [((t_this.eL hT.2.2.1 (by decide) rfl).trans elt)] at oh214 th214 wh214
          refine va_get (D := κ.1) (ci := 4) (v := .ref lt) (C := RX4) (T := TX4) (N := 3) hx hb hg inX4 hown hK oh214.one 0 rfl rfl 0 (by decide) (hg _ k209) (fun _ h9 => h9) rfl dX4_compareAmount_40 ?_
          have bN215 := (hT.P (hT.k t_this (by decide)) (by decide)).1
          have hN216 : zN s213 this = zN σ0 this := hT.eN t_this (by decide) rfl rfl
          refine lv_iload_n hx hb dX4_compareAmount_43 rfl (lv_at hl 0 rfl) ?_
          refine va_iald hx hb hK (hT.oL th214).one 0 0 rfl rfl (g_in (by omega) (by omega)) dX4_compareAmount_44 ?_
          refine lv_topi (fun t217 ht217 => ?_)
          have xt217 : t217 = zI σ0 lt 0 := by rw [ht217, ixc, show ix i = 0 from by unfold ix; omega]; exact (klt.eI hT.2.2.1 (by omega) rfl : zI s213 lt 0 = zI σ0 lt 0)
          have ut217 : ub t217 = ub (zI σ0 lt 0) := by rw [xt217]
          have rt217 := ub_r t217
          refine lv_aload_n hx hb dX4_compareAmount_45 rfl (lv_at hl 2 rfl) ?_
          obtain ⟨oh218, th218, wh218⟩ := hT.o1z (hT.k t_o (by decide))
          rw [((t_o.eL hT.2.2.1 (by decide) rfl).trans elo)] at oh218 th218 wh218
          refine va_get (D := κ.1) (ci := 4) (v := .ref lo) (C := RX4) (T := TX4) (N := 3) hx hb hg inX4 hown hK oh218.one 0 rfl rfl 0 (by decide) (hg _ k209) (fun _ h9 => h9) rfl dX4_compareAmount_46 ?_
          have bN219 := (hT.P (hT.k t_o (by decide)) (by decide)).1
          have hN220 : zN s213 o = zN σ0 o := hT.eN t_o (by decide) rfl rfl
          refine lv_iload_n hx hb dX4_compareAmount_49 rfl (lv_at hl 0 rfl) ?_
          refine va_iald hx hb hK (hT.oL th218).one 0 0 rfl rfl (g_in (by omega) (by omega)) dX4_compareAmount_50 ?_
          refine lv_topi (fun t221 ht221 => ?_)
          have xt221 : t221 = zI σ0 lo 0 := by rw [ht221, ixc, show ix i = 0 from by unfold ix; omega]; exact (klo.eI hT.2.2.1 (by omega) rfl : zI s213 lo 0 = zI σ0 lo 0)
          have ut221 : ub t221 = ub (zI σ0 lo 0) := by rw [xt221]
          have rt221 := ub_r t221
          refine lv_icmp_eq (tgt := 86) hx hb dX4_compareAmount_51 (by decide) (fun c9 => ?_) (fun c9 => ?_)
          · have c4 := gi_eq c9
            obtain ⟨t222, qt222⟩ : ∃ zz9 : Int32, i + Int32.ofInt (-1) = zz9 := ⟨_, rfl⟩
            refine lv_iinc (v := t222) (lv' := [(2, .int t222), (0, .ref this), (1, .ref o)]) hx hb dX4_compareAmount_86 hl (k := 0) rfl qt222 (by decide) rfl (fun ls hl => ?_)
            have ht222 : t222.toInt = i.toInt + (-1) := by rw [← qt222]; exact v_addi rfl (show (Int32.ofInt (-1)).toInt = (-1) from by decide) (by omega) (by omega)
            refine lv_goto (tgt := 35) hx hb dX4_compareAmount_89 (by decide) ?_
            exact ih35 t222 _ _ _ _ hT  (by omega) hl (by omega)
          · have c5 := gi_ne c9
            refine lv_aload_n hx hb dX4_compareAmount_54 rfl (lv_at hl 1 rfl) ?_
            obtain ⟨oh223, th223, wh223⟩ := hT.o1z (hT.k t_this (by decide))
            rw [((t_this.eL hT.2.2.1 (by decide) rfl).trans elt)] at oh223 th223 wh223
            refine va_get (D := κ.1) (ci := 4) (v := .ref lt) (C := RX4) (T := TX4) (N := 3) hx hb hg inX4 hown hK oh223.one 0 rfl rfl 0 (by decide) (hg _ k209) (fun _ h9 => h9) rfl dX4_compareAmount_55 ?_
            have bN224 := (hT.P (hT.k t_this (by decide)) (by decide)).1
            have hN225 : zN s213 this = zN σ0 this := hT.eN t_this (by decide) rfl rfl
            refine lv_iload_n hx hb dX4_compareAmount_58 rfl (lv_at hl 0 rfl) ?_
            refine va_iald hx hb hK (hT.oL th223).one 0 0 rfl rfl (g_in (by omega) (by omega)) dX4_compareAmount_59 ?_
            refine lv_topi (fun t226 ht226 => ?_)
            have xt226 : t226 = zI σ0 lt 0 := by rw [ht226, ixc, show ix i = 0 from by unfold ix; omega]; exact (klt.eI hT.2.2.1 (by omega) rfl : zI s213 lt 0 = zI σ0 lt 0)
            have ut226 : ub t226 = ub (zI σ0 lt 0) := by rw [xt226]
            have rt226 := ub_r t226
            refine lv_i2l hx hb dX4_compareAmount_60 rfl ?_
            refine g_i2l (fun t227 ht227 => ?_)
            refine lv_ldc2 hx hb hown (hg _ k348) dX4_compareAmount_61 ?_
            refine lv_land hx hb dX4_compareAmount_64 ?_
            refine lv_topl (fun t228 ht228 => ?_)
            have ut228 : t228.toInt = ub t226 := ub_mask ht227 ht228
            refine lv_aload_n hx hb dX4_compareAmount_65 rfl (lv_at hl 2 rfl) ?_
            obtain ⟨oh229, th229, wh229⟩ := hT.o1z (hT.k t_o (by decide))
            rw [((t_o.eL hT.2.2.1 (by decide) rfl).trans elo)] at oh229 th229 wh229
            refine va_get (D := κ.1) (ci := 4) (v := .ref lo) (C := RX4) (T := TX4) (N := 3) hx hb hg inX4 hown hK oh229.one 0 rfl rfl 0 (by decide) (hg _ k209) (fun _ h9 => h9) rfl dX4_compareAmount_66 ?_
            have bN230 := (hT.P (hT.k t_o (by decide)) (by decide)).1
            have hN231 : zN s213 o = zN σ0 o := hT.eN t_o (by decide) rfl rfl
            refine lv_iload_n hx hb dX4_compareAmount_69 rfl (lv_at hl 0 rfl) ?_
            refine va_iald hx hb hK (hT.oL th229).one 0 0 rfl rfl (g_in (by omega) (by omega)) dX4_compareAmount_70 ?_
            refine lv_topi (fun t232 ht232 => ?_)
            have xt232 : t232 = zI σ0 lo 0 := by rw [ht232, ixc, show ix i = 0 from by unfold ix; omega]; exact (klo.eI hT.2.2.1 (by omega) rfl : zI s213 lo 0 = zI σ0 lo 0)
            have ut232 : ub t232 = ub (zI σ0 lo 0) := by rw [xt232]
            have rt232 := ub_r t232
            refine lv_i2l hx hb dX4_compareAmount_71 rfl ?_
            refine g_i2l (fun t233 ht233 => ?_)
            refine lv_ldc2 hx hb hown (hg _ k348) dX4_compareAmount_72 ?_
            refine lv_land hx hb dX4_compareAmount_75 ?_
            refine lv_topl (fun t234 ht234 => ?_)
            have ut234 : t234.toInt = ub t232 := ub_mask ht233 ht234
            refine W.lcmp hx hb dX4_compareAmount_76 ?_
            refine lv_if_ge (tgt := 84) hx hb dX4_compareAmount_77 (by decide) (fun c9 => ?_) (fun c9 => ?_)
            · have c6 := gl_ge c9
              refine lv_iconst (v := 1) hx hb dX4_compareAmount_84 (by decide) ?_
              subst hQ9
              exact t_i hx hb hr hlocks hT (by omega) dX4_compareAmount_85
            · have c7 := gl_nge c9
              refine lv_iconst (v := (-1)) hx hb dX4_compareAmount_80 (by decide) ?_
              refine lv_goto (tgt := 85) hx hb dX4_compareAmount_81 (by decide) ?_
              subst hQ9
              exact t_i hx hb hr hlocks hT (by omega) dX4_compareAmount_85
    exact loop35 ((t212.toInt + 1).toNat + 1) t212 _ _ _ _ hT  (by omega) hl (by omega)
  · have c8 := gi_ne c9
    refine lv_aload_n hx hb dX4_compareAmount_11 rfl (lv_at hl 0 rfl) ?_
    obtain ⟨h235, oh235, th235⟩ := hT.o1 (hT.k t_this (by decide))
    refine va_get (D := κ.1) (ci := 4) (v := .int (zI σ0 this 1)) (C := RX4) (T := TX4) (N := 3) hx hb hg inX4 hown hK oh235.one 0 rfl rfl 1 (by decide) (hg _ k210) (fun _ h9 => h9) rfl dX4_compareAmount_12 ?_
    rw [(hT.eI t_this (by decide) rfl ev202)]
    refine lv_aload_n hx hb dX4_compareAmount_15 rfl (lv_at hl 1 rfl) ?_
    obtain ⟨h236, oh236, th236⟩ := hT.o1 (hT.k t_o (by decide))
    refine va_get (D := κ.1) (ci := 4) (v := .int (zI σ0 o 1)) (C := RX4) (T := TX4) (N := 3) hx hb hg inX4 hown hK oh236.one 0 rfl rfl 1 (by decide) (hg _ k210) (fun _ h9 => h9) rfl dX4_compareAmount_16 ?_
    rw [(hT.eI t_o (by decide) rfl ev207)]
    refine lv_icmp_ge (tgt := 26) hx hb dX4_compareAmount_19 (by decide) (fun c9 => ?_) (fun c9 => ?_)
    · have c9 := gi_le c9
      refine lv_iconst (v := 1) hx hb dX4_compareAmount_26 (by decide) ?_
      subst hQ9
      exact t_i hx hb hr hlocks hT (by omega) dX4_compareAmount_27
    · have c10 := gi_nle c9
      refine lv_iconst (v := (-1)) hx hb dX4_compareAmount_22 (by decide) ?_
      refine lv_goto (tgt := 27) hx hb dX4_compareAmount_23 (by decide) ?_
      subst hQ9
      exact t_i hx hb hr hlocks hT (by omega) dX4_compareAmount_27
set_option maxHeartbeats 4000000 in
set_option maxRecDepth 100000 in
theorem X4v_bitsOfAmount (l : Launch) (κ : Kt) (σ0 : Gh) (this : Nat) {v : Int} (t_this : zk σ0 this 1) (h0 : WV σ0 this v) : TC l yX4_bitsOfAmount cX4_bitsOfAmount 1 (some .int) 1 21 [.ref this] κ σ0 (tqi κ fE σ0 (fun (r : Int32) (τ : Gh) => (r.toInt = (blen v.natAbs : Nat)))) := by
  refine TC.of fE (by decide +kernel) (Nat.le_of_ble_eq_true rfl) ?_
  intro p e s m below meth c ls hcs hK hX hT hl
  obtain ⟨hx, hb, hr, hml, hown, hg, hlocks, hin⟩ := hcs
  have hown : s.vm.findClass RX4 = some m.cls := hown
  have hl : lv_has ls 1 [(0, .ref this)] := hl
  have hT0 := hT
  have n0 : (0 : Int32).toInt = 0 := by decide
  have n1 : (1 : Int32).toInt = 1 := by decide
  have n32 : (32 : Int32).toInt = 32 := by decide
  generalize hQ9 : tQ _ _ _ _ _ _ = Q9
  obtain ⟨lt, elt⟩ : ∃ z, zL σ0 this = z := ⟨_, rfl⟩
  obtain ⟨-, klt, -⟩ := hT.o1z t_this
  rw [elt] at klt
  have hwthis := h0.at elt
  obtain ⟨hAthis, hUthis⟩ := h0.amt elt
  have nv := ab_nn v
  have bl9 : blen v.natAbs ≤ 32 := blen_le (by have hl9 := h0.lim; omega)
  refine lv_aload_n hx hb dX4_bitsOfAmount_0 rfl (lv_at hl 0 rfl) ?_
  obtain ⟨h201, oh201, th201⟩ := hT.o1 (hT.k t_this (by decide))
  obtain ⟨v202, ev202⟩ : ∃ zz9 : Int32, zI σ0 this 1 = zz9 := ⟨_, rfl⟩
  have qv202 : v202.toInt = (zI σ0 this 1).toInt := by rw [ev202]
  have b203 := (hT.P (hT.k t_this (by decide)) (by decide)).2.1
  rw [(hT.eI t_this (by decide) rfl ev202)] at b203
  have b203l := b203.1
  have b203h := b203.2
  have bN204 := (hT.P (hT.k t_this (by decide)) (by decide)).1
  have hN205 : zN σ0 this = zN σ0 this := hT.eN t_this (by decide) rfl rfl
  refine va_get (D := κ.1) (ci := 4) (v := .int (zI σ0 this 1)) (C := RX4) (T := TX4) (N := 3) hx hb hg inX4 hown hK oh201.one 0 rfl rfl 1 (by decide) (hg _ k210) (fun _ h9 => h9) rfl dX4_bitsOfAmount_1 ?_
  rw [(hT.eI t_this (by decide) rfl ev202)]
  refine lv_if_ne (tgt := 11) hx hb dX4_bitsOfAmount_4 (by decide) (fun c9 => ?_) (fun c9 => ?_)
  · have c1 := gi_ne c9
    refine lv_aload_n hx hb dX4_bitsOfAmount_11 rfl (lv_at hl 0 rfl) ?_
    obtain ⟨h206, oh206, th206⟩ := hT.o1 (hT.k t_this (by decide))
    refine va_get (D := κ.1) (ci := 4) (v := .int (zI σ0 this 1)) (C := RX4) (T := TX4) (N := 3) hx hb hg inX4 hown hK oh206.one 0 rfl rfl 1 (by decide) (hg _ k210) (fun _ h9 => h9) rfl dX4_bitsOfAmount_12 ?_
    rw [(hT.eI t_this (by decide) rfl ev202)]
    refine lv_bipush (v := 32) hx hb dX4_bitsOfAmount_15 (by decide) ?_
    refine lv_imul hx hb dX4_bitsOfAmount_17 ?_
    first | (refine g_mul (by rw [n32]; omega) (by rw [n32]; omega) (fun t207 ht207 => ?_); rw [n32] at ht207) | refine lv_topi (fun t207 ht207 => ?_)
    refine lv_aload_n hx hb dX4_bitsOfAmount_18 rfl (lv_at hl 0 rfl) ?_
    obtain ⟨oh208, th208, wh208⟩ := hT.o1z (hT.k t_this (by decide))
    rw [((t_this.eL hT.2.2.1 (by decide) rfl).trans elt)] at oh208 th208 wh208
    refine va_get (D := κ.1) (ci := 4) (v := .ref lt) (C := RX4) (T := TX4) (N := 3) hx hb hg inX4 hown hK oh208.one 0 rfl rfl 0 (by decide) (hg _ k209) (fun _ h9 => h9) rfl dX4_bitsOfAmount_19 ?_
    have bN209 := (hT.P (hT.k t_this (by decide)) (by decide)).1
    have hN210 : zN σ0 this = zN σ0 this := hT.eN t_this (by decide) rfl rfl
    refine lv_aload_n hx hb dX4_bitsOfAmount_22 rfl (lv_at hl 0 rfl) ?_
    obtain ⟨h211, oh211, th211⟩ := hT.o1 (hT.k t_this (by decide))
    refine va_get (D := κ.1) (ci := 4) (v := .int (zI σ0 this 1)) (C := RX4) (T := TX4) (N := 3) hx hb hg inX4 hown hK oh211.one 0 rfl rfl 1 (by decide) (hg _ k210) (fun _ h9 => h9) rfl dX4_bitsOfAmount_23 ?_
    rw [(hT.eI t_this (by decide) rfl ev202)]
    refine lv_iconst (v := 1) hx hb dX4_bitsOfAmount_26 (by decide) ?_
    refine lv_isub hx hb dX4_bitsOfAmount_27 ?_
    first | refine g_sub (by omega) (by omega) (fun t212 ht212 => ?_) | refine lv_topi (fun t212 ht212 => ?_)
    refine va_iald hx hb hK (hT.oL th208).one 0 0 rfl rfl (g_in (by omega) (by omega)) dX4_bitsOfAmount_28 ?_
    refine lv_topi (fun t213 ht213 => ?_)
    have xt213 : t213 = zI σ0 lt 0 := by rw [ht213, ixc, show ix t212 = 0 from by unfold ix; omega]
    have ut213 : ub t213 = ub (zI σ0 lt 0) := by rw [xt213]
    have rt213 := ub_r t213
    have hTo := hT
    refine tTi (n := 1) (As := [.int t213]) (rest := [.int t207]) hx hb hml hown hg hT hK hX (Jv_nlz l κ σ0 t213   ) (fun _ _ h => h) (mwI k481) ⟨by decide, by decide, by decide +kernel⟩ ⟨(Nat.le_of_ble_eq_true rfl), (Nat.le_of_ble_eq_true rfl)⟩ k102 k479 k480 rfl hl.1 rfl (Nat.le_of_ble_eq_true rfl) dX4_bitsOfAmount_29 zroom.rf (fun x214 s215 H locs hφ hEs215 hT => ?_)
    have fa216 : FA σ0 s215 := FA.ro hTo hEs215 (fun _ => rfl) (fun _ _ => rfl)
    have fw217 : FW σ0 s215 this := FW.callA hTo FW.rf fa216
    have wn218 : WV s215 this v := fa216 this (hTo.k t_this (by decide)) _ h0
    have f219 := hφ
    rw [show (ub t213).toNat = v.natAbs from by omega] at f219
    refine lv_isub hx hb dX4_bitsOfAmount_32 ?_
    first | refine g_sub (by omega) (by omega) (fun t220 ht220 => ?_) | refine lv_topi (fun t220 ht220 => ?_)
    subst hQ9
    exact t_i hx hb hr hlocks hT (by omega) dX4_bitsOfAmount_33
  · have c2 := gi_eq c9
    refine lv_iconst (v := 0) hx hb dX4_bitsOfAmount_7 (by decide) ?_
    refine lv_goto (tgt := 33) hx hb dX4_bitsOfAmount_8 (by decide) ?_
    subst hQ9
    exact t_i hx hb hr hlocks hT (by rw [show v = 0 from by have := ab_nn v; omega, n0]; rfl) dX4_bitsOfAmount_33

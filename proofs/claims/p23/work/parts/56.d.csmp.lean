/-! What LiftingSignal reads: samples -/
theorem sub_fAd_fRs : ∀ t k, fRs t k = false → fAd t k = false := by
  intro t k h
  simp [fAd, fRs] at h ⊢ <;> omega
theorem sub_fCl_fRd : ∀ t k, fRd t k = false → fCl t k = false := by
  intro t k h
  simp [fCl, fRd] at h ⊢ <;> omega
theorem sub_fE_fRs : ∀ t k, fRs t k = false → fE t k = false := by
  intro t k h
  simp [fE, fRs] at h ⊢ <;> omega
theorem sub_fP_fRs : ∀ t k, fRs t k = false → fP t k = false := by
  intro t k h
  simp [fP, fRs] at h ⊢ <;> omega
theorem sub_fPe_fRs : ∀ t k, fRs t k = false → fPe t k = false := by
  intro t k h
  simp [fPe, fRs] at h ⊢ <;> omega
theorem sub_fRs_fRd : ∀ t k, fRd t k = false → fRs t k = false := by
  intro t k h
  simp [fRs, fRd] at h ⊢ <;> omega
theorem sub_fW23_fRs : ∀ t k, fRs t k = false → fW23 t k = false := by
  intro t k h
  simp [fW23, fRs] at h ⊢ <;> omega
set_option maxHeartbeats 4000000 in
set_option maxRecDepth 100000 in
theorem X0s_clear (l : Launch) (κ : Kt) (σ0 : Gh) (this : Nat) (t_this : zk σ0 this 5) : TC l yX0_clear cX0_clear 1 none 0 0 [.ref this] κ σ0 (tqv κ fCl σ0 (fun (τ : Gh) => ((zI τ this 2).toInt = 0) ∧ (GSc τ this ugs0))) := by
  refine TC.of fCl (by decide +kernel) (Nat.le_of_ble_eq_true rfl) ?_
  intro p e s m below meth c ls hcs hK hX hT hl
  obtain ⟨hx, hb, hr, hml, hown, hg, hlocks, hin⟩ := hcs
  have hown : s.vm.findClass RX0 = some m.cls := hown
  have hl : lv_has ls 1 [(0, .ref this)] := hl
  have hT0 := hT
  have n0 : (0 : Int32).toInt = 0 := by decide
  have n1 : (1 : Int32).toInt = 1 := by decide
  have n2 : (2 : Int32).toInt = 2 := by decide
  generalize hQ9 : tQ _ _ _ _ _ _ = Q9
  refine lv_aload_n hx hb dX0_clear_0 rfl (lv_at hl 0 rfl) ?_
  refine lv_iconst (v := 0) hx hb dX0_clear_1 (by decide) ?_
  have hTo := hT
  refine pf5_2 hx hb hg hown hK hT (hT.k t_this (by decide)) rfl ⟨by omega, by omega⟩ (hg _ k161) dX0_clear_2 (fun H locs s1 hus1 hT => ?_)
  have e2 : zI s1 this 2 = 0 := zput_at hus1
  refine lv_aload_n hx hb dX0_clear_5 rfl (lv_at hl 0 rfl) ?_
  refine lv_iconst (v := 0) hx hb dX0_clear_6 (by decide) ?_
  have hTo := hT
  refine pf5_3 hx hb hg hown hK hT (hT.k t_this (by decide)) rfl (hg _ k165) dX0_clear_7 (fun H locs s3 hus3 hT => ?_)
  have e2 : zI s3 this 2 = 0 := (zput_o hus3 (Or.inr (by decide))).trans e2
  have e4 : zI s3 this 3 = 0 := zput_at hus3
  refine lv_aload_n hx hb dX0_clear_10 rfl (lv_at hl 0 rfl) ?_
  refine lv_iconst (v := 2) hx hb dX0_clear_11 (by decide) ?_
  have hTo := hT
  refine pf5_4 hx hb hg hown hK hT (hT.k t_this (by decide)) rfl (hg _ k168) dX0_clear_12 (fun H locs s5 hus5 hT => ?_)
  have e2 : zI s5 this 2 = 0 := (zput_o hus5 (Or.inr (by decide))).trans e2
  have e4 : zI s5 this 3 = 0 := (zput_o hus5 (Or.inr (by decide))).trans e4
  have e6 : zI s5 this 4 = 2 := zput_at hus5
  refine lv_aload_n hx hb dX0_clear_15 rfl (lv_at hl 0 rfl) ?_
  refine lv_iconst (v := 1) hx hb dX0_clear_16 (by decide) ?_
  have hTo := hT
  refine pf5_5 hx hb hg hown hK hT (hT.k t_this (by decide)) rfl isB1 (hg _ k171) dX0_clear_17 (fun H locs s7 hus7 hT => ?_)
  have e2 : zI s7 this 2 = 0 := (zput_o hus7 (Or.inr (by decide))).trans e2
  have e4 : zI s7 this 3 = 0 := (zput_o hus7 (Or.inr (by decide))).trans e4
  have e6 : zI s7 this 4 = 2 := (zput_o hus7 (Or.inr (by decide))).trans e6
  have e8 : zI s7 this 5 = 1 := zput_at hus7
  refine lv_aload_n hx hb dX0_clear_20 rfl (lv_at hl 0 rfl) ?_
  refine lv_iconst (v := 2) hx hb dX0_clear_21 (by decide) ?_
  have hTo := hT
  refine pf5_6 hx hb hg hown hK hT (hT.k t_this (by decide)) rfl (hg _ k174) dX0_clear_22 (fun H locs s9 hus9 hT => ?_)
  have e2 : zI s9 this 2 = 0 := (zput_o hus9 (Or.inr (by decide))).trans e2
  have e4 : zI s9 this 3 = 0 := (zput_o hus9 (Or.inr (by decide))).trans e4
  have e6 : zI s9 this 4 = 2 := (zput_o hus9 (Or.inr (by decide))).trans e6
  have e8 : zI s9 this 5 = 1 := (zput_o hus9 (Or.inr (by decide))).trans e8
  have e10 : zI s9 this 6 = 2 := zput_at hus9
  subst hQ9
  exact t_v hx hb hr hlocks hT ⟨by rw [(show zI s9 this 2 = 0 from e2)]; exact n0, ⟨by rw [(show zI s9 this 3 = 0 from e4)]; decide, by rw [(show zI s9 this 4 = 2 from e6)]; decide, by rw [(show zI s9 this 5 = 1 from e8)]; decide, by rw [(show zI s9 this 6 = 2 from e10)]; decide⟩⟩ dX0_clear_25
set_option maxHeartbeats 4000000 in
set_option maxRecDepth 100000 in
theorem X0s_addSample (l : Launch) (κ : Kt) (σ0 : Gh) (this : Nat) (x : Int32) (y : Int32) {nn : Nat} (t_this : zk σ0 this 5) (h0 : (zI σ0 this 2).toInt = (nn : Nat)) (h1 : nn < 48) : TC l yX0_addSample cX0_addSample 3 none 0 0 [.ref this, .int x, .int y] κ σ0 (tqv κ fAd σ0 (fun (τ : Gh) => ((zI τ this 2).toInt = nn + 1) ∧ (∀ j : Nat, zI τ (kR κ this 0) j = if j = nn then x else zI σ0 (kR κ this 0) j))) := by
  refine TC.of fAd (by decide +kernel) (Nat.le_of_ble_eq_true rfl) ?_
  intro p e s m below meth c ls hcs hK hX hT hl
  obtain ⟨hx, hb, hr, hml, hown, hg, hlocks, hin⟩ := hcs
  have hown : s.vm.findClass RX0 = some m.cls := hown
  have hl : lv_has ls 3 [(0, .ref this), (1, .int x), (2, .int y)] := hl
  have hT0 := hT
  have n1 : (1 : Int32).toInt = 1 := by decide
  have n48 : (48 : Int32).toInt = 48 := by decide
  have x_lo := Int32.le_toInt x
  have x_hi := Int32.toInt_lt x
  have y_lo := Int32.le_toInt y
  have y_hi := Int32.toInt_lt y
  generalize hQ9 : tQ _ _ _ _ _ _ = Q9
  obtain ⟨rP, erP⟩ : ∃ z, kR κ this 0 = z := ⟨_, rfl⟩
  have trP : zk σ0 rP 17 := by rw [← erP]; exact hT0.ref t_this (by decide) (by decide) (by decide)
  obtain ⟨v1, ev1⟩ : ∃ zz9 : Int32, zI σ0 this 2 = zz9 := ⟨_, rfl⟩
  have qv1 : v1.toInt = (zI σ0 this 2).toInt := by rw [ev1]
  have b2 := (hT.P (hT.k t_this (by decide)) (by decide)).1
  rw [ev1] at b2
  have b2l := b2.1
  have b2h := b2.2
  refine lv_aload_n hx hb dX0_addSample_0 rfl (lv_at hl 0 rfl) ?_
  refine va_get (D := κ.1) (ci := 0) (v := .int (zI σ0 this 2)) (C := RX0) (T := TX0) (N := 7) hx hb hg inX0 hown hK (hT.o5 (hT.k t_this (by decide))).one 0 rfl rfl 2 (by decide) (hg _ k161) (fun _ h9 => h9) rfl dX0_addSample_1 ?_
  rw [ev1]
  refine lv_bipush (v := 48) hx hb dX0_addSample_4 (by decide) ?_
  refine lv_icmp_ge (tgt := 39) hx hb dX0_addSample_6 (by decide) (fun c9 => ?_) (fun c9 => ?_)
  · have c1 := gi_le c9
    subst hQ9
    exact t_v hx hb hr hlocks hT (by exfalso; omega) dX0_addSample_39
  · have c2 := gi_nle c9
    refine lv_aload_n hx hb dX0_addSample_9 rfl (lv_at hl 0 rfl) ?_
    refine va_get (D := κ.1) (ci := 0) (v := .ref (kR κ this 0)) (C := RX0) (T := TX0) (N := 7) hx hb hg inX0 hown hK (hT.o5 (hT.k t_this (by decide))).one 0 rfl rfl 0 (by decide) (hg _ k154) (fun _ h9 => h9) rfl dX0_addSample_10 ?_
    rw [erP]
    refine lv_aload_n hx hb dX0_addSample_13 rfl (lv_at hl 0 rfl) ?_
    refine va_get (D := κ.1) (ci := 0) (v := .int (zI σ0 this 2)) (C := RX0) (T := TX0) (N := 7) hx hb hg inX0 hown hK (hT.o5 (hT.k t_this (by decide))).one 0 rfl rfl 2 (by decide) (hg _ k161) (fun _ h9 => h9) rfl dX0_addSample_14 ?_
    rw [ev1]
    refine lv_iload_n hx hb dX0_addSample_17 rfl (lv_at hl 1 rfl) ?_
    have hTo := hT
    refine tasti (n := 48) hx hb hK hT (hT.k trP (by decide)) ⟨by decide, by decide⟩ (fun _ _ _ => rfl) (fun _ _ => trivial) (fun _ => rfl) (by omega) (by omega) dX0_addSample_18 (fun H locs s3 hus3 hT => ?_)
    have ev1 : zI s3 this 2 = v1 := (zput_o hus3 (Or.inl ((hTo.k t_this (by decide)).ne (hTo.k trP (by decide)) (by decide)))).trans ev1
    have Y4 : ∀ j : Nat, zI s3 rP j = if j = nn then x else zI σ0 rP j := fun j => by
      have w9 : ix v1 = nn := by unfold ix; omega
      by_cases e : j = nn
      · rw [if_pos e, e, ← w9]; exact zput_at hus3
      · rw [if_neg e]; exact zput_o hus3 (Or.inr (by omega))
    refine lv_aload_n hx hb dX0_addSample_19 rfl (lv_at hl 0 rfl) ?_
    obtain ⟨r5, er5⟩ : ∃ z, kR κ this 1 = z := ⟨_, rfl⟩
    have tr5 : zk σ0 r5 18 := by rw [← er5]; exact hT0.ref t_this (by decide) (by decide) (by decide)
    refine va_get (D := κ.1) (ci := 0) (v := .ref (kR κ this 1)) (C := RX0) (T := TX0) (N := 7) hx hb hg inX0 hown hK (hT.o5 (hT.k t_this (by decide))).one 0 rfl rfl 1 (by decide) (hg _ k158) (fun _ h9 => h9) rfl dX0_addSample_20 ?_
    rw [er5]
    refine lv_aload_n hx hb dX0_addSample_23 rfl (lv_at hl 0 rfl) ?_
    refine va_get (D := κ.1) (ci := 0) (v := .int (zI s3 this 2)) (C := RX0) (T := TX0) (N := 7) hx hb hg inX0 hown hK (hT.o5 (hT.k t_this (by decide))).one 0 rfl rfl 2 (by decide) (hg _ k161) (fun _ h9 => h9) rfl dX0_addSample_24 ?_
    rw [ev1]
    refine lv_iload_n hx hb dX0_addSample_27 rfl (lv_at hl 2 rfl) ?_
    have hTo := hT
    refine tasti (n := 48) hx hb hK hT (hT.k tr5 (by decide)) ⟨by decide, by decide⟩ (fun _ _ _ => rfl) (fun _ _ => trivial) (fun _ => rfl) (by omega) (by omega) dX0_addSample_28 (fun H locs s6 hus6 hT => ?_)
    have ev1 : zI s6 this 2 = v1 := (zput_o hus6 (Or.inl ((hTo.k t_this (by decide)).ne (hTo.k tr5 (by decide)) (by decide)))).trans ev1
    have Y7 : ∀ j : Nat, zI s6 rP j = if j = nn then x else zI σ0 rP j := by first | (rw [show zI s6 rP = zI s3 rP from zput_Io hus6 ((hTo.k trP (by decide)).ne (hTo.k tr5 (by decide)) (by decide))]; exact Y4) | rw [show zI s6 rP = zI s3 rP from zput_Io hus6 ((hTo.k trP (by decide)).ne (hTo.k tr5 (by decide)) (by decide))]
    refine lv_aload_n hx hb dX0_addSample_29 rfl (lv_at hl 0 rfl) ?_
    refine lv_dup hx hb dX0_addSample_30 rfl ?_
    refine va_get (D := κ.1) (ci := 0) (v := .int (zI s6 this 2)) (C := RX0) (T := TX0) (N := 7) hx hb hg inX0 hown hK (hT.o5 (hT.k t_this (by decide))).one 0 rfl rfl 2 (by decide) (hg _ k161) (fun _ h9 => h9) rfl dX0_addSample_31 ?_
    rw [ev1]
    refine lv_iconst (v := 1) hx hb dX0_addSample_34 (by decide) ?_
    refine lv_iadd hx hb dX0_addSample_35 ?_
    first | refine g_add (by omega) (by omega) (fun t8 ht8 => ?_) | refine lv_topi (fun t8 ht8 => ?_)
    have hTo := hT
    refine pf5_2 hx hb hg hown hK hT (hT.k t_this (by decide)) rfl ⟨by omega, by omega⟩ (hg _ k161) dX0_addSample_36 (fun H locs s9 hus9 hT => ?_)
    have Y10 : ∀ j : Nat, zI s9 rP j = if j = nn then x else zI σ0 rP j := by first | (rw [show zI s9 rP = zI s6 rP from zput_Io hus9 ((hTo.k trP (by decide)).ne (hTo.k t_this (by decide)) (by decide))]; exact Y7) | rw [show zI s9 rP = zI s6 rP from zput_Io hus9 ((hTo.k trP (by decide)).ne (hTo.k t_this (by decide)) (by decide))]
    have e11 : zI s9 this 2 = t8 := zput_at hus9
    subst hQ9
    exact t_v hx hb hr hlocks hT ⟨by rw [(show zI s9 this 2 = t8 from e11)]; omega, by rw [erP]; exact Y10⟩ dX0_addSample_39
set_option maxHeartbeats 8000000 in
set_option maxRecDepth 100000 in
theorem X3s_readSample (l : Launch) (κ : Kt) (σ0 : Gh) (this : Nat) (into : Nat) {tc : Nat → Int} {Ln : Nat} {sp : Nat} {nn : Nat} {vv : Int} (t_this : zk σ0 this 6) (t_into : zk σ0 into 5) (h0 : TXc κ σ0 this tc Ln) (h1 : TKc σ0 this tc Ln sp) (h2 : (zI σ0 into 2).toInt = (nn : Nat)) (h3 : nn < 48) (h4 : (nn = 0 ∧ vv = -1) ∨ (0 < nn ∧ (zI σ0 (kR κ into 0) (nn - 1)).toInt = vv)) : TC l yX3_readSample cX3_readSample 4 (some .boolean) 3 60 [.ref this, .ref into] κ σ0 (tqi κ fRs σ0 (fun (r : Int32) (τ : Gh) => ((r.toInt = 1 ∧ utkK tc Ln sp = 2 ∧ vv < uvl tc Ln sp ∧ utkK tc Ln (svq (utkK tc Ln) (unxt tc Ln) sp) = 2 ∧ TKc τ this tc Ln (unxt tc Ln (svq (utkK tc Ln) (unxt tc Ln) sp)) ∧ (zI τ into 2).toInt = nn + 1 ∧ (zI τ (kR κ into 0) nn).toInt = uvl tc Ln sp ∧ zI τ this 2 = zI σ0 this 2 ∧ zI τ this 3 = zI σ0 this 3 ∧ zI τ into 3 = zI σ0 into 3 ∧ zI τ into 4 = zI σ0 into 4 ∧ zI τ into 5 = zI σ0 into 5 ∧ zI τ into 6 = zI σ0 into 6) ∨ (r.toInt = 0 ∧ ∃ co po : Int, ((utkK tc Ln sp ≠ 2 ∧ co = 1 ∧ po = sp) ∨ (utkK tc Ln sp = 2 ∧ uvl tc Ln sp ≤ vv ∧ co = 2 ∧ po = sp) ∨ (utkK tc Ln sp = 2 ∧ vv < uvl tc Ln sp ∧ utkK tc Ln (svq (utkK tc Ln) (unxt tc Ln) sp) ≠ 2 ∧ co = 1 ∧ po = (svq (utkK tc Ln) (unxt tc Ln) sp))) ∧ (zI τ this 2).toInt = co ∧ (zI τ this 3).toInt = po)) ∧ (isB r))) := by
  refine TC.of fRs (by decide +kernel) (Nat.le_of_ble_eq_true rfl) ?_
  intro p e s m below meth c ls hcs hK hX hT hl
  obtain ⟨hx, hb, hr, hml, hown, hg, hlocks, hin⟩ := hcs
  have hown : s.vm.findClass RX3 = some m.cls := hown
  have hl : lv_has ls 4 [(0, .ref this), (1, .ref into)] := hl
  have hT0 := hT
  have n0 : (0 : Int32).toInt = 0 := by decide
  have n1 : (1 : Int32).toInt = 1 := by decide
  have n2 : (2 : Int32).toInt = 2 := by decide
  have n4 : (4 : Int32).toInt = 4 := by decide
  generalize hQ9 : tQ _ _ _ _ _ _ = Q9
  obtain ⟨rB, erB⟩ : ∃ z, kR κ this 0 = z := ⟨_, rfl⟩
  have trB : zk σ0 rB 14 := by rw [← erB]; exact hT0.ref t_this (by decide) (by decide) (by decide)
  have hpc : ∀ j, tc j = (zI σ0 rB j).toInt := by rw [← erB]; exact h0.1
  have hLn : (zI σ0 this 1).toInt = Ln := h0.2
  have bL := (hT0.P t_this (by decide)).1.2
  have hL7 : (Ln : Int) ≤ 700 := by omega
  obtain ⟨rP, erP⟩ : ∃ z, kR κ into 0 = z := ⟨_, rfl⟩
  have trP : zk σ0 rP 17 := by rw [← erP]; exact hT0.ref t_into (by decide) (by decide) (by decide)
  obtain ⟨v1, ev1⟩ : ∃ zz9 : Int32, zI σ0 this 2 = zz9 := ⟨_, rfl⟩
  have qv1 : v1.toInt = (zI σ0 this 2).toInt := by rw [ev1]
  have zthis2 : zI σ0 this 2 = v1 := ev1
  obtain ⟨v2, ev2⟩ : ∃ zz9 : Int32, zI σ0 this 3 = zz9 := ⟨_, rfl⟩
  have qv2 : v2.toInt = (zI σ0 this 3).toInt := by rw [ev2]
  have zthis3 : zI σ0 this 3 = v2 := ev2
  obtain ⟨v3, ev3⟩ : ∃ zz9 : Int32, zI σ0 into 2 = zz9 := ⟨_, rfl⟩
  have qv3 : v3.toInt = (zI σ0 into 2).toInt := by rw [ev3]
  have b4 := (hT.P (hT.k t_into (by decide)) (by decide)).1
  rw [ev3] at b4
  have b4l := b4.1
  have b4h := b4.2
  obtain ⟨v5, ev5⟩ : ∃ zz9 : Int32, zI σ0 this 4 = zz9 := ⟨_, rfl⟩
  have qv5 : v5.toInt = (zI σ0 this 4).toInt := by rw [ev5]
  obtain ⟨v6, ev6⟩ : ∃ zz9 : Int32, zI σ0 this 5 = zz9 := ⟨_, rfl⟩
  have qv6 : v6.toInt = (zI σ0 this 5).toInt := by rw [ev6]
  have b7 := (hT.P (hT.k t_this (by decide)) (by decide)).2.1
  rw [ev6] at b7
  have b7l := b7.1
  have b7h := b7.2
  obtain ⟨v8, ev8⟩ : ∃ zz9 : Int32, zI σ0 this 6 = zz9 := ⟨_, rfl⟩
  have qv8 : v8.toInt = (zI σ0 this 6).toInt := by rw [ev8]
  have b9 := (hT.P (hT.k t_this (by decide)) (by decide)).2.2
  rw [ev8] at b9
  have b9l := b9.1
  have b9h := b9.2
  obtain ⟨v10, ev10⟩ : ∃ zz9 : Int32, zI σ0 this 7 = zz9 := ⟨_, rfl⟩
  have qv10 : v10.toInt = (zI σ0 this 7).toInt := by rw [ev10]
  have tk11 : TKv v5 v6 v8 v10 tc Ln sp := by have z9 := h1; unfold TKc at z9; rw [(show zI σ0 this 4 = v5 from ev5), (show zI σ0 this 5 = v6 from ev6), (show zI σ0 this 6 = v8 from ev8), (show zI σ0 this 7 = v10 from ev10)] at z9; exact z9
  obtain ⟨tk114, tk115, tk116, tk117, tk118⟩ := id tk11
  refine lv_aload_n hx hb dX3_readSample_0 rfl (lv_at hl 0 rfl) ?_
  refine va_get (D := κ.1) (ci := 3) (v := .int (zI σ0 this 4)) (C := RX3) (T := TX3) (N := 8) hx hb hg inX3 hown hK (hT.o6 (hT.k t_this (by decide))).one 0 rfl rfl 4 (by decide) (hg _ k126) (fun _ h9 => h9) rfl dX3_readSample_1 ?_
  rw [ev5]
  refine lv_iconst (v := 2) hx hb dX3_readSample_4 (by decide) ?_
  refine lv_icmp_eq (tgt := 14) hx hb dX3_readSample_5 (by decide) (fun c9 => ?_) (fun c9 => ?_)
  · have c1 := gi_eq c9
    have hv9 := tk117 (by omega)
    have hvb := uvl_b (c := tc) (L := Ln) (s := sp) (by omega)
    refine lv_aload_n hx hb dX3_readSample_14 rfl (lv_at hl 0 rfl) ?_
    refine va_get (D := κ.1) (ci := 3) (v := .int (zI σ0 this 7)) (C := RX3) (T := TX3) (N := 8) hx hb hg inX3 hown hK (hT.o6 (hT.k t_this (by decide))).one 0 rfl rfl 7 (by decide) (hg _ k129) (fun _ h9 => h9) rfl dX3_readSample_15 ?_
    rw [ev10]
    refine lv_istore_n (lv' := [(2, .int v10), (0, .ref this), (1, .ref into)]) hx hb dX3_readSample_18 rfl hl (by decide) rfl (fun ls hl => ?_)
    refine lv_aload_n hx hb dX3_readSample_19 rfl (lv_at hl 2 rfl) ?_
    refine va_get (D := κ.1) (ci := 0) (v := .int (zI σ0 into 2)) (C := RX0) (T := TX0) (N := 7) hx hb hg inX0 hown hK (hT.o5 (hT.k t_into (by decide))).one 0 rfl rfl 2 (by decide) (hg _ k164) (fun _ h9 => h9) rfl dX3_readSample_20 ?_
    rw [ev3]
    refine lv_if_le (tgt := 47) hx hb dX3_readSample_23 (by decide) (fun c9 => ?_) (fun c9 => ?_)
    · have c2 := gi_le c9
      refine lv_aload_n hx hb dX3_readSample_47 rfl (lv_at hl 1 rfl) ?_
      have hTo := hT
      refine tVi (n := 0) (As := []) (rest := []) hx hb hml hown hg hT hK hX (X3s_pass l κ σ0 this  (hT.k t_this (by decide)) h0 (show (zI σ0 this 6).toInt = (utkE tc Ln sp : Nat) from by rw [(show zI σ0 this 6 = v8 from ev8)]; omega) (utkE_le tk118)) sub_fP_fRs (mwV k697 k699 k17 k85 k700) ⟨rfl, by decide, by decide, by decide +kernel⟩ ⟨(Nat.le_of_ble_eq_true rfl), (Nat.le_of_ble_eq_true rfl)⟩ (hT.o6 (hT.k t_this (by decide))) rfl rfl hl.1 rfl (Nat.le_of_ble_eq_true rfl) dX3_readSample_48 zroom.rf (fun x12 s13 H locs hφ hEs13 hT => ?_)
      have ev1 : zI s13 this 2 = v1 := ((hTo.k t_this (by decide)).eI hEs13 (by decide) rfl).trans ev1
      have ev2 : zI s13 this 3 = v2 := ((hTo.k t_this (by decide)).eI hEs13 (by decide) rfl).trans ev2
      have ev3 : zI s13 into 2 = v3 := ((hTo.k t_into (by decide)).eI hEs13 (by decide) rfl).trans ev3
      obtain ⟨f14, f15, f16⟩ := hφ
      obtain ⟨v17, ev17⟩ : ∃ zz9 : Int32, zI s13 this 4 = zz9 := ⟨_, rfl⟩
      have qv17 : v17.toInt = (zI s13 this 4).toInt := by rw [ev17]
      obtain ⟨v18, ev18⟩ : ∃ zz9 : Int32, zI s13 this 5 = zz9 := ⟨_, rfl⟩
      have qv18 : v18.toInt = (zI s13 this 5).toInt := by rw [ev18]
      have b19 := (hT.P (hT.k t_this (by decide)) (by decide)).2.1
      rw [ev18] at b19
      have b19l := b19.1
      have b19h := b19.2
      obtain ⟨v20, ev20⟩ : ∃ zz9 : Int32, zI s13 this 6 = zz9 := ⟨_, rfl⟩
      have qv20 : v20.toInt = (zI s13 this 6).toInt := by rw [ev20]
      have b21 := (hT.P (hT.k t_this (by decide)) (by decide)).2.2
      rw [ev20] at b21
      have b21l := b21.1
      have b21h := b21.2
      obtain ⟨v22, ev22⟩ : ∃ zz9 : Int32, zI s13 this 7 = zz9 := ⟨_, rfl⟩
      have qv22 : v22.toInt = (zI s13 this 7).toInt := by rw [ev22]
      have tk23 : TKv v17 v18 v20 v22 tc Ln (unxt tc Ln sp) := by have z9 := f15; unfold TKc at z9; rw [(show zI s13 this 4 = v17 from ev17), (show zI s13 this 5 = v18 from ev18), (show zI s13 this 6 = v20 from ev20), (show zI s13 this 7 = v22 from ev22)] at z9; exact z9
      obtain ⟨tk234, tk235, tk236, tk237, tk238⟩ := id tk23
      refine lv_pop hx hb dX3_readSample_51 rfl ?_
      refine lv_aload_n hx hb dX3_readSample_52 rfl (lv_at hl 1 rfl) ?_
      refine va_get (D := κ.1) (ci := 3) (v := .int (zI s13 this 4)) (C := RX3) (T := TX3) (N := 8) hx hb hg inX3 hown hK (hT.o6 (hT.k t_this (by decide))).one 0 rfl rfl 4 (by decide) (hg _ k126) (fun _ h9 => h9) rfl dX3_readSample_53 ?_
      rw [ev17]
      refine lv_iconst (v := 4) hx hb dX3_readSample_56 (by decide) ?_
      refine lv_icmp_ne (tgt := 64) hx hb dX3_readSample_57 (by decide) (fun c9 => ?_) (fun c9 => ?_)
      · have c3 := gi_ne c9
        refine lv_iconst (v := 0) hx hb dX3_readSample_64 (by decide) ?_
        refine lv_istore_n (lv' := [(3, .int 0), (2, .int v10), (0, .ref this), (1, .ref into)]) hx hb dX3_readSample_65 rfl hl (by decide) rfl (fun ls hl => ?_)
        refine lv_iload_n hx hb dX3_readSample_66 rfl (lv_at hl 0 rfl) ?_
        refine lv_if_eq (tgt := 75) hx hb dX3_readSample_67 (by decide) (fun _ => ?_) (fun c9 => absurd (by decide) c9)
        have hsv : (svq (utkK tc Ln) (unxt tc Ln) sp) = (unxt tc Ln sp) := if_neg (by omega)
        refine lv_aload_n hx hb dX3_readSample_75 rfl (lv_at hl 2 rfl) ?_
        refine va_get (D := κ.1) (ci := 3) (v := .int (zI s13 this 4)) (C := RX3) (T := TX3) (N := 8) hx hb hg inX3 hown hK (hT.o6 (hT.k t_this (by decide))).one 0 rfl rfl 4 (by decide) (hg _ k126) (fun _ h9 => h9) rfl dX3_readSample_76 ?_
        rw [ev17]
        refine lv_iconst (v := 2) hx hb dX3_readSample_79 (by decide) ?_
        refine lv_icmp_eq (tgt := 89) hx hb dX3_readSample_80 (by decide) (fun c9 => ?_) (fun c9 => ?_)
        · have c4 := gi_eq c9
          refine lv_aload_n hx hb dX3_readSample_89 rfl (lv_at hl 3 rfl) ?_
          refine lv_iload_n hx hb dX3_readSample_90 rfl (lv_at hl 1 rfl) ?_
          refine lv_iload_n hx hb dX3_readSample_91 rfl (lv_at hl 0 rfl) ?_
          refine lv_if_eq (tgt := 103) hx hb dX3_readSample_92 (by decide) (fun _ => ?_) (fun c9 => absurd (by decide) c9)
          refine lv_aload_n hx hb dX3_readSample_103 rfl (lv_at hl 2 rfl) ?_
          refine va_get (D := κ.1) (ci := 3) (v := .int (zI s13 this 7)) (C := RX3) (T := TX3) (N := 8) hx hb hg inX3 hown hK (hT.o6 (hT.k t_this (by decide))).one 0 rfl rfl 7 (by decide) (hg _ k129) (fun _ h9 => h9) rfl dX3_readSample_104 ?_
          rw [ev22]
          have hTo := hT
          refine tVv (n := 2) (As := [.int v10, .int v22]) (rest := []) hx hb hml hown hg hT hK hX (X0s_addSample l κ s13 into v10 v22  (hT.k t_into (by decide)) (show (zI s13 into 2).toInt = (nn : Nat) from by rw [(show zI s13 into 2 = v3 from ev3)]; omega) (by omega)) sub_fAd_fRs (mwV k812 k329 k330 k86 k331) ⟨rfl, by decide, by decide, by decide +kernel⟩ ⟨(Nat.le_of_ble_eq_true rfl), (Nat.le_of_ble_eq_true rfl)⟩ (hT.o5 (hT.k t_into (by decide))) rfl rfl hl.1 rfl (Nat.le_of_ble_eq_true rfl) dX3_readSample_107 zroom.rf (fun s25 H locs hφ hEs25 hT => ?_)
          have ev1 : zI s25 this 2 = v1 := ((hTo.k t_this (by decide)).eI hEs25 (by decide) rfl).trans ev1
          have ev2 : zI s25 this 3 = v2 := ((hTo.k t_this (by decide)).eI hEs25 (by decide) rfl).trans ev2
          have ev17 : zI s25 this 4 = v17 := ((hTo.k t_this (by decide)).eI hEs25 (by decide) rfl).trans ev17
          have ev18 : zI s25 this 5 = v18 := ((hTo.k t_this (by decide)).eI hEs25 (by decide) rfl).trans ev18
          have ev20 : zI s25 this 6 = v20 := ((hTo.k t_this (by decide)).eI hEs25 (by decide) rfl).trans ev20
          have ev22 : zI s25 this 7 = v22 := ((hTo.k t_this (by decide)).eI hEs25 (by decide) rfl).trans ev22
          obtain ⟨f26, f27⟩ := hφ
          rw [erP] at f27
          obtain ⟨v28, ev28⟩ : ∃ zz9 : Int32, zI s25 into 2 = zz9 := ⟨_, rfl⟩
          have qv28 : v28.toInt = (zI s25 into 2).toInt := by rw [ev28]
          have b29 := (hT.P (hT.k t_into (by decide)) (by decide)).1
          rw [ev28] at b29
          have b29l := b29.1
          have b29h := b29.2
          rw [(show zI s25 into 2 = v28 from ev28)] at f26
          have P30 : (zI s25 rP nn).toInt = uvl tc Ln sp := by rw [f27 nn, if_pos rfl]; omega
          refine lv_aload_n hx hb dX3_readSample_110 rfl (lv_at hl 2 rfl) ?_
          have hTo := hT
          refine tVi (n := 0) (As := []) (rest := []) hx hb hml hown hg hT hK hX (X3s_pass l κ s25 this  (hT.k t_this (by decide)) (h0.tr (funext fun k => by rw [erB]; exact hT.eI trB (by decide) rfl rfl) (hT.eI t_this (by decide) rfl rfl)) (show (zI s25 this 6).toInt = (utkE tc Ln (unxt tc Ln sp) : Nat) from by rw [(show zI s25 this 6 = v20 from ev20)]; omega) (utkE_le tk238)) sub_fP_fRs (mwV k697 k699 k17 k85 k700) ⟨rfl, by decide, by decide, by decide +kernel⟩ ⟨(Nat.le_of_ble_eq_true rfl), (Nat.le_of_ble_eq_true rfl)⟩ (hT.o6 (hT.k t_this (by decide))) rfl rfl hl.1 rfl (Nat.le_of_ble_eq_true rfl) dX3_readSample_111 zroom.rf (fun x31 s32 H locs hφ hEs32 hT => ?_)
          have ev1 : zI s32 this 2 = v1 := ((hTo.k t_this (by decide)).eI hEs32 (by decide) rfl).trans ev1
          have ev2 : zI s32 this 3 = v2 := ((hTo.k t_this (by decide)).eI hEs32 (by decide) rfl).trans ev2
          have ev28 : zI s32 into 2 = v28 := ((hTo.k t_into (by decide)).eI hEs32 (by decide) rfl).trans ev28
          have Y33 : (zI s32 rP nn).toInt = uvl tc Ln sp := by first | (rw [show zI s32 rP = zI s25 rP from funext fun k => (hTo.k trP (by decide)).eI hEs32 (by decide) rfl]; exact P30) | rw [show zI s32 rP = zI s25 rP from funext fun k => (hTo.k trP (by decide)).eI hEs32 (by decide) rfl]
          obtain ⟨f34, f35, f36⟩ := hφ
          subst hQ9
          exact t_z hx hb hr f36 hlocks hT ⟨Or.inl ⟨by omega, by omega, by omega, by rw [hsv]; omega, by rw [hsv]; exact f35, by rw [(show zI s32 into 2 = v28 from ev28)]; omega, by rw [erP]; exact Y33, ((show zI s32 this 2 = v1 from ev1).trans zthis2.symm), ((show zI s32 this 3 = v2 from ev2).trans zthis3.symm), ⟨hT.eI t_into (by decide) rfl rfl, hT.eI t_into (by decide) rfl rfl, hT.eI t_into (by decide) rfl rfl, hT.eI t_into (by decide) rfl rfl⟩⟩, f36⟩ dX3_readSample_114
        · have c5 := gi_ne c9
          refine lv_aload_n hx hb dX3_readSample_83 rfl (lv_at hl 2 rfl) ?_
          refine lv_iconst (v := 1) hx hb dX3_readSample_84 (by decide) ?_
          have cz37 : zI s13 this 5 = v18 := ev18
          have hTo := hT
          refine tVi (n := 1) (As := [.int 1]) (rest := []) hx hb hml hown hg hT hK hX (X3s_isWrong l κ s13 this 1  (hT.k t_this (by decide)) (h0.tr (funext fun k => by rw [erB]; exact hT.eI trB (by decide) rfl rfl) (hT.eI t_this (by decide) rfl rfl))) sub_fW23_fRs (mwV k779 k781 k23 k85 k782) ⟨rfl, by decide, by decide, by decide +kernel⟩ ⟨(Nat.le_of_ble_eq_true rfl), (Nat.le_of_ble_eq_true rfl)⟩ (hT.o6 (hT.k t_this (by decide))) rfl rfl hl.1 rfl (Nat.le_of_ble_eq_true rfl) dX3_readSample_85 zroom.rf (fun x38 s39 H locs hφ hEs39 hT => ?_)
          have ev3 : zI s39 into 2 = v3 := ((hTo.k t_into (by decide)).eI hEs39 (by decide) rfl).trans ev3
          have ev17 : zI s39 this 4 = v17 := ((hTo.k t_this (by decide)).eI hEs39 (by decide) rfl).trans ev17
          have ev18 : zI s39 this 5 = v18 := ((hTo.k t_this (by decide)).eI hEs39 (by decide) rfl).trans ev18
          have ev20 : zI s39 this 6 = v20 := ((hTo.k t_this (by decide)).eI hEs39 (by decide) rfl).trans ev20
          have ev22 : zI s39 this 7 = v22 := ((hTo.k t_this (by decide)).eI hEs39 (by decide) rfl).trans ev22
          obtain ⟨f40, f41, f42, f43⟩ := hφ
          have wr44 : (zI s39 this 3).toInt = (unxt tc Ln sp) := by rw [f42, cz37]; omega
          subst hQ9
          exact t_z hx hb hr f43 hlocks hT ⟨Or.inr ⟨by omega, 1, ((svq (utkK tc Ln) (unxt tc Ln) sp) : Nat), Or.inr (Or.inr ⟨by omega, by omega, by rw [hsv]; omega, rfl, rfl⟩), by omega, by rw [wr44, hsv]⟩, f43⟩ dX3_readSample_88
      · have c6 := gi_eq c9
        refine lv_iconst (v := 1) hx hb dX3_readSample_60 (by decide) ?_
        refine lv_goto (tgt := 65) hx hb dX3_readSample_61 (by decide) ?_
        refine lv_istore_n (lv' := [(3, .int 1), (2, .int v10), (0, .ref this), (1, .ref into)]) hx hb dX3_readSample_65 rfl hl (by decide) rfl (fun ls hl => ?_)
        refine lv_iload_n hx hb dX3_readSample_66 rfl (lv_at hl 0 rfl) ?_
        refine lv_if_eq (tgt := 75) hx hb dX3_readSample_67 (by decide) (fun c9 => absurd c9 (by decide)) (fun _ => ?_)
        refine lv_aload_n hx hb dX3_readSample_70 rfl (lv_at hl 2 rfl) ?_
        have hTo := hT
        refine tVi (n := 0) (As := []) (rest := []) hx hb hml hown hg hT hK hX (X3s_pass l κ s13 this  (hT.k t_this (by decide)) (h0.tr (funext fun k => by rw [erB]; exact hT.eI trB (by decide) rfl rfl) (hT.eI t_this (by decide) rfl rfl)) (show (zI s13 this 6).toInt = (utkE tc Ln (unxt tc Ln sp) : Nat) from by rw [(show zI s13 this 6 = v20 from ev20)]; omega) (utkE_le tk238)) sub_fP_fRs (mwV k697 k699 k17 k85 k700) ⟨rfl, by decide, by decide, by decide +kernel⟩ ⟨(Nat.le_of_ble_eq_true rfl), (Nat.le_of_ble_eq_true rfl)⟩ (hT.o6 (hT.k t_this (by decide))) rfl rfl hl.1 rfl (Nat.le_of_ble_eq_true rfl) dX3_readSample_71 zroom.rf (fun x45 s46 H locs hφ hEs46 hT => ?_)
        have ev1 : zI s46 this 2 = v1 := ((hTo.k t_this (by decide)).eI hEs46 (by decide) rfl).trans ev1
        have ev2 : zI s46 this 3 = v2 := ((hTo.k t_this (by decide)).eI hEs46 (by decide) rfl).trans ev2
        have ev3 : zI s46 into 2 = v3 := ((hTo.k t_into (by decide)).eI hEs46 (by decide) rfl).trans ev3
        obtain ⟨f47, f48, f49⟩ := hφ
        obtain ⟨v50, ev50⟩ : ∃ zz9 : Int32, zI s46 this 4 = zz9 := ⟨_, rfl⟩
        have qv50 : v50.toInt = (zI s46 this 4).toInt := by rw [ev50]
        obtain ⟨v51, ev51⟩ : ∃ zz9 : Int32, zI s46 this 5 = zz9 := ⟨_, rfl⟩
        have qv51 : v51.toInt = (zI s46 this 5).toInt := by rw [ev51]
        have b52 := (hT.P (hT.k t_this (by decide)) (by decide)).2.1
        rw [ev51] at b52
        have b52l := b52.1
        have b52h := b52.2
        obtain ⟨v53, ev53⟩ : ∃ zz9 : Int32, zI s46 this 6 = zz9 := ⟨_, rfl⟩
        have qv53 : v53.toInt = (zI s46 this 6).toInt := by rw [ev53]
        have b54 := (hT.P (hT.k t_this (by decide)) (by decide)).2.2
        rw [ev53] at b54
        have b54l := b54.1
        have b54h := b54.2
        obtain ⟨v55, ev55⟩ : ∃ zz9 : Int32, zI s46 this 7 = zz9 := ⟨_, rfl⟩
        have qv55 : v55.toInt = (zI s46 this 7).toInt := by rw [ev55]
        have tk56 : TKv v50 v51 v53 v55 tc Ln (unxt tc Ln (unxt tc Ln sp)) := by have z9 := f48; unfold TKc at z9; rw [(show zI s46 this 4 = v50 from ev50), (show zI s46 this 5 = v51 from ev51), (show zI s46 this 6 = v53 from ev53), (show zI s46 this 7 = v55 from ev55)] at z9; exact z9
        obtain ⟨tk564, tk565, tk566, tk567, tk568⟩ := id tk56
        refine lv_pop hx hb dX3_readSample_74 rfl ?_
        have hsv : (svq (utkK tc Ln) (unxt tc Ln) sp) = (unxt tc Ln (unxt tc Ln sp)) := if_pos (by omega)
        refine lv_aload_n hx hb dX3_readSample_75 rfl (lv_at hl 2 rfl) ?_
        refine va_get (D := κ.1) (ci := 3) (v := .int (zI s46 this 4)) (C := RX3) (T := TX3) (N := 8) hx hb hg inX3 hown hK (hT.o6 (hT.k t_this (by decide))).one 0 rfl rfl 4 (by decide) (hg _ k126) (fun _ h9 => h9) rfl dX3_readSample_76 ?_
        rw [ev50]
        refine lv_iconst (v := 2) hx hb dX3_readSample_79 (by decide) ?_
        refine lv_icmp_eq (tgt := 89) hx hb dX3_readSample_80 (by decide) (fun c9 => ?_) (fun c9 => ?_)
        · have c7 := gi_eq c9
          refine lv_aload_n hx hb dX3_readSample_89 rfl (lv_at hl 3 rfl) ?_
          refine lv_iload_n hx hb dX3_readSample_90 rfl (lv_at hl 1 rfl) ?_
          refine lv_iload_n hx hb dX3_readSample_91 rfl (lv_at hl 0 rfl) ?_
          refine lv_if_eq (tgt := 103) hx hb dX3_readSample_92 (by decide) (fun c9 => absurd c9 (by decide)) (fun _ => ?_)
          refine lv_aload_n hx hb dX3_readSample_95 rfl (lv_at hl 2 rfl) ?_
          refine va_get (D := κ.1) (ci := 3) (v := .int (zI s46 this 7)) (C := RX3) (T := TX3) (N := 8) hx hb hg inX3 hown hK (hT.o6 (hT.k t_this (by decide))).one 0 rfl rfl 7 (by decide) (hg _ k129) (fun _ h9 => h9) rfl dX3_readSample_96 ?_
          rw [ev55]
          refine lv_ineg hx hb dX3_readSample_99 ?_
          refine lv_topi (fun t57 ht57 => ?_)
          refine lv_goto (tgt := 107) hx hb dX3_readSample_100 (by decide) ?_
          have hTo := hT
          refine tVv (n := 2) (As := [.int v10, .int t57]) (rest := []) hx hb hml hown hg hT hK hX (X0s_addSample l κ s46 into v10 t57  (hT.k t_into (by decide)) (show (zI s46 into 2).toInt = (nn : Nat) from by rw [(show zI s46 into 2 = v3 from ev3)]; omega) (by omega)) sub_fAd_fRs (mwV k812 k329 k330 k86 k331) ⟨rfl, by decide, by decide, by decide +kernel⟩ ⟨(Nat.le_of_ble_eq_true rfl), (Nat.le_of_ble_eq_true rfl)⟩ (hT.o5 (hT.k t_into (by decide))) rfl rfl hl.1 rfl (Nat.le_of_ble_eq_true rfl) dX3_readSample_107 zroom.rf (fun s59 H locs hφ hEs59 hT => ?_)
          have ev1 : zI s59 this 2 = v1 := ((hTo.k t_this (by decide)).eI hEs59 (by decide) rfl).trans ev1
          have ev2 : zI s59 this 3 = v2 := ((hTo.k t_this (by decide)).eI hEs59 (by decide) rfl).trans ev2
          have ev50 : zI s59 this 4 = v50 := ((hTo.k t_this (by decide)).eI hEs59 (by decide) rfl).trans ev50
          have ev51 : zI s59 this 5 = v51 := ((hTo.k t_this (by decide)).eI hEs59 (by decide) rfl).trans ev51
          have ev53 : zI s59 this 6 = v53 := ((hTo.k t_this (by decide)).eI hEs59 (by decide) rfl).trans ev53
          have ev55 : zI s59 this 7 = v55 := ((hTo.k t_this (by decide)).eI hEs59 (by decide) rfl).trans ev55
          obtain ⟨f60, f61⟩ := hφ
          rw [erP] at f61
          obtain ⟨v62, ev62⟩ : ∃ zz9 : Int32, zI s59 into 2 = zz9 := ⟨_, rfl⟩
          have qv62 : v62.toInt = (zI s59 into 2).toInt := by rw [ev62]
          have b63 := (hT.P (hT.k t_into (by decide)) (by decide)).1
          rw [ev62] at b63
          have b63l := b63.1
          have b63h := b63.2
          rw [(show zI s59 into 2 = v62 from ev62)] at f60
          have P64 : (zI s59 rP nn).toInt = uvl tc Ln sp := by rw [f61 nn, if_pos rfl]; omega
          refine lv_aload_n hx hb dX3_readSample_110 rfl (lv_at hl 2 rfl) ?_
          have hTo := hT
          refine tVi (n := 0) (As := []) (rest := []) hx hb hml hown hg hT hK hX (X3s_pass l κ s59 this  (hT.k t_this (by decide)) (h0.tr (funext fun k => by rw [erB]; exact hT.eI trB (by decide) rfl rfl) (hT.eI t_this (by decide) rfl rfl)) (show (zI s59 this 6).toInt = (utkE tc Ln (unxt tc Ln (unxt tc Ln sp)) : Nat) from by rw [(show zI s59 this 6 = v53 from ev53)]; omega) (utkE_le tk568)) sub_fP_fRs (mwV k697 k699 k17 k85 k700) ⟨rfl, by decide, by decide, by decide +kernel⟩ ⟨(Nat.le_of_ble_eq_true rfl), (Nat.le_of_ble_eq_true rfl)⟩ (hT.o6 (hT.k t_this (by decide))) rfl rfl hl.1 rfl (Nat.le_of_ble_eq_true rfl) dX3_readSample_111 zroom.rf (fun x65 s66 H locs hφ hEs66 hT => ?_)
          have ev1 : zI s66 this 2 = v1 := ((hTo.k t_this (by decide)).eI hEs66 (by decide) rfl).trans ev1
          have ev2 : zI s66 this 3 = v2 := ((hTo.k t_this (by decide)).eI hEs66 (by decide) rfl).trans ev2
          have ev62 : zI s66 into 2 = v62 := ((hTo.k t_into (by decide)).eI hEs66 (by decide) rfl).trans ev62
          have Y67 : (zI s66 rP nn).toInt = uvl tc Ln sp := by first | (rw [show zI s66 rP = zI s59 rP from funext fun k => (hTo.k trP (by decide)).eI hEs66 (by decide) rfl]; exact P64) | rw [show zI s66 rP = zI s59 rP from funext fun k => (hTo.k trP (by decide)).eI hEs66 (by decide) rfl]
          obtain ⟨f68, f69, f70⟩ := hφ
          subst hQ9
          exact t_z hx hb hr f70 hlocks hT ⟨Or.inl ⟨by omega, by omega, by omega, by rw [hsv]; omega, by rw [hsv]; exact f69, by rw [(show zI s66 into 2 = v62 from ev62)]; omega, by rw [erP]; exact Y67, ((show zI s66 this 2 = v1 from ev1).trans zthis2.symm), ((show zI s66 this 3 = v2 from ev2).trans zthis3.symm), ⟨hT.eI t_into (by decide) rfl rfl, hT.eI t_into (by decide) rfl rfl, hT.eI t_into (by decide) rfl rfl, hT.eI t_into (by decide) rfl rfl⟩⟩, f70⟩ dX3_readSample_114
        · have c8 := gi_ne c9
          refine lv_aload_n hx hb dX3_readSample_83 rfl (lv_at hl 2 rfl) ?_
          refine lv_iconst (v := 1) hx hb dX3_readSample_84 (by decide) ?_
          have cz71 : zI s46 this 5 = v51 := ev51
          have hTo := hT
          refine tVi (n := 1) (As := [.int 1]) (rest := []) hx hb hml hown hg hT hK hX (X3s_isWrong l κ s46 this 1  (hT.k t_this (by decide)) (h0.tr (funext fun k => by rw [erB]; exact hT.eI trB (by decide) rfl rfl) (hT.eI t_this (by decide) rfl rfl))) sub_fW23_fRs (mwV k779 k781 k23 k85 k782) ⟨rfl, by decide, by decide, by decide +kernel⟩ ⟨(Nat.le_of_ble_eq_true rfl), (Nat.le_of_ble_eq_true rfl)⟩ (hT.o6 (hT.k t_this (by decide))) rfl rfl hl.1 rfl (Nat.le_of_ble_eq_true rfl) dX3_readSample_85 zroom.rf (fun x72 s73 H locs hφ hEs73 hT => ?_)
          have ev3 : zI s73 into 2 = v3 := ((hTo.k t_into (by decide)).eI hEs73 (by decide) rfl).trans ev3
          have ev50 : zI s73 this 4 = v50 := ((hTo.k t_this (by decide)).eI hEs73 (by decide) rfl).trans ev50
          have ev51 : zI s73 this 5 = v51 := ((hTo.k t_this (by decide)).eI hEs73 (by decide) rfl).trans ev51
          have ev53 : zI s73 this 6 = v53 := ((hTo.k t_this (by decide)).eI hEs73 (by decide) rfl).trans ev53
          have ev55 : zI s73 this 7 = v55 := ((hTo.k t_this (by decide)).eI hEs73 (by decide) rfl).trans ev55
          obtain ⟨f74, f75, f76, f77⟩ := hφ
          have wr78 : (zI s73 this 3).toInt = (unxt tc Ln (unxt tc Ln sp)) := by rw [f76, cz71]; omega
          subst hQ9
          exact t_z hx hb hr f77 hlocks hT ⟨Or.inr ⟨by omega, 1, ((svq (utkK tc Ln) (unxt tc Ln) sp) : Nat), Or.inr (Or.inr ⟨by omega, by omega, by rw [hsv]; omega, rfl, rfl⟩), by omega, by rw [wr78, hsv]⟩, f77⟩ dX3_readSample_88
    · have c9 := gi_nle c9
      refine lv_iload_n hx hb dX3_readSample_26 rfl (lv_at hl 0 rfl) ?_
      refine lv_aload_n hx hb dX3_readSample_27 rfl (lv_at hl 2 rfl) ?_
      refine va_get (D := κ.1) (ci := 0) (v := .ref (kR κ into 0)) (C := RX0) (T := TX0) (N := 7) hx hb hg inX0 hown hK (hT.o5 (hT.k t_into (by decide))).one 0 rfl rfl 0 (by decide) (hg _ k156) (fun _ h9 => h9) rfl dX3_readSample_28 ?_
      rw [erP]
      refine lv_aload_n hx hb dX3_readSample_31 rfl (lv_at hl 2 rfl) ?_
      refine va_get (D := κ.1) (ci := 0) (v := .int (zI σ0 into 2)) (C := RX0) (T := TX0) (N := 7) hx hb hg inX0 hown hK (hT.o5 (hT.k t_into (by decide))).one 0 rfl rfl 2 (by decide) (hg _ k164) (fun _ h9 => h9) rfl dX3_readSample_32 ?_
      rw [ev3]
      refine lv_iconst (v := 1) hx hb dX3_readSample_35 (by decide) ?_
      refine lv_isub hx hb dX3_readSample_36 ?_
      first | refine g_sub (by omega) (by omega) (fun t79 ht79 => ?_) | refine lv_topi (fun t79 ht79 => ?_)
      refine va_iald hx hb hK (hT.o17 (hT.k trP (by decide))).one 0 0 rfl rfl (g_in (by omega) (by omega)) dX3_readSample_37 ?_
      refine lv_topi (fun t80 ht80 => ?_)
      have y9 : t80.toInt = vv := by have z9 := h4.resolve_left (by omega); rw [erP] at z9; rw [← z9.2, ht80, ← show ix t79 = nn - 1 from by unfold ix; omega]; rfl
      refine lv_icmp_gt (tgt := 47) hx hb dX3_readSample_38 (by decide) (fun c9 => ?_) (fun c9 => ?_)
      · have c10 := gi_lt c9
        refine lv_aload_n hx hb dX3_readSample_47 rfl (lv_at hl 1 rfl) ?_
        have hTo := hT
        refine tVi (n := 0) (As := []) (rest := []) hx hb hml hown hg hT hK hX (X3s_pass l κ σ0 this  (hT.k t_this (by decide)) h0 (show (zI σ0 this 6).toInt = (utkE tc Ln sp : Nat) from by rw [(show zI σ0 this 6 = v8 from ev8)]; omega) (utkE_le tk118)) sub_fP_fRs (mwV k697 k699 k17 k85 k700) ⟨rfl, by decide, by decide, by decide +kernel⟩ ⟨(Nat.le_of_ble_eq_true rfl), (Nat.le_of_ble_eq_true rfl)⟩ (hT.o6 (hT.k t_this (by decide))) rfl rfl hl.1 rfl (Nat.le_of_ble_eq_true rfl) dX3_readSample_48 zroom.rf (fun x81 s82 H locs hφ hEs82 hT => ?_)
        have ev1 : zI s82 this 2 = v1 := ((hTo.k t_this (by decide)).eI hEs82 (by decide) rfl).trans ev1
        have ev2 : zI s82 this 3 = v2 := ((hTo.k t_this (by decide)).eI hEs82 (by decide) rfl).trans ev2
        have ev3 : zI s82 into 2 = v3 := ((hTo.k t_into (by decide)).eI hEs82 (by decide) rfl).trans ev3
        obtain ⟨f83, f84, f85⟩ := hφ
        obtain ⟨v86, ev86⟩ : ∃ zz9 : Int32, zI s82 this 4 = zz9 := ⟨_, rfl⟩
        have qv86 : v86.toInt = (zI s82 this 4).toInt := by rw [ev86]
        obtain ⟨v87, ev87⟩ : ∃ zz9 : Int32, zI s82 this 5 = zz9 := ⟨_, rfl⟩
        have qv87 : v87.toInt = (zI s82 this 5).toInt := by rw [ev87]
        have b88 := (hT.P (hT.k t_this (by decide)) (by decide)).2.1
        rw [ev87] at b88
        have b88l := b88.1
        have b88h := b88.2
        obtain ⟨v89, ev89⟩ : ∃ zz9 : Int32, zI s82 this 6 = zz9 := ⟨_, rfl⟩
        have qv89 : v89.toInt = (zI s82 this 6).toInt := by rw [ev89]
        have b90 := (hT.P (hT.k t_this (by decide)) (by decide)).2.2
        rw [ev89] at b90
        have b90l := b90.1
        have b90h := b90.2
        obtain ⟨v91, ev91⟩ : ∃ zz9 : Int32, zI s82 this 7 = zz9 := ⟨_, rfl⟩
        have qv91 : v91.toInt = (zI s82 this 7).toInt := by rw [ev91]
        have tk92 : TKv v86 v87 v89 v91 tc Ln (unxt tc Ln sp) := by have z9 := f84; unfold TKc at z9; rw [(show zI s82 this 4 = v86 from ev86), (show zI s82 this 5 = v87 from ev87), (show zI s82 this 6 = v89 from ev89), (show zI s82 this 7 = v91 from ev91)] at z9; exact z9
        obtain ⟨tk924, tk925, tk926, tk927, tk928⟩ := id tk92
        refine lv_pop hx hb dX3_readSample_51 rfl ?_
        refine lv_aload_n hx hb dX3_readSample_52 rfl (lv_at hl 1 rfl) ?_
        refine va_get (D := κ.1) (ci := 3) (v := .int (zI s82 this 4)) (C := RX3) (T := TX3) (N := 8) hx hb hg inX3 hown hK (hT.o6 (hT.k t_this (by decide))).one 0 rfl rfl 4 (by decide) (hg _ k126) (fun _ h9 => h9) rfl dX3_readSample_53 ?_
        rw [ev86]
        refine lv_iconst (v := 4) hx hb dX3_readSample_56 (by decide) ?_
        refine lv_icmp_ne (tgt := 64) hx hb dX3_readSample_57 (by decide) (fun c9 => ?_) (fun c9 => ?_)
        · have c11 := gi_ne c9
          refine lv_iconst (v := 0) hx hb dX3_readSample_64 (by decide) ?_
          refine lv_istore_n (lv' := [(3, .int 0), (2, .int v10), (0, .ref this), (1, .ref into)]) hx hb dX3_readSample_65 rfl hl (by decide) rfl (fun ls hl => ?_)
          refine lv_iload_n hx hb dX3_readSample_66 rfl (lv_at hl 0 rfl) ?_
          refine lv_if_eq (tgt := 75) hx hb dX3_readSample_67 (by decide) (fun _ => ?_) (fun c9 => absurd (by decide) c9)
          have hsv : (svq (utkK tc Ln) (unxt tc Ln) sp) = (unxt tc Ln sp) := if_neg (by omega)
          refine lv_aload_n hx hb dX3_readSample_75 rfl (lv_at hl 2 rfl) ?_
          refine va_get (D := κ.1) (ci := 3) (v := .int (zI s82 this 4)) (C := RX3) (T := TX3) (N := 8) hx hb hg inX3 hown hK (hT.o6 (hT.k t_this (by decide))).one 0 rfl rfl 4 (by decide) (hg _ k126) (fun _ h9 => h9) rfl dX3_readSample_76 ?_
          rw [ev86]
          refine lv_iconst (v := 2) hx hb dX3_readSample_79 (by decide) ?_
          refine lv_icmp_eq (tgt := 89) hx hb dX3_readSample_80 (by decide) (fun c9 => ?_) (fun c9 => ?_)
          · have c12 := gi_eq c9
            refine lv_aload_n hx hb dX3_readSample_89 rfl (lv_at hl 3 rfl) ?_
            refine lv_iload_n hx hb dX3_readSample_90 rfl (lv_at hl 1 rfl) ?_
            refine lv_iload_n hx hb dX3_readSample_91 rfl (lv_at hl 0 rfl) ?_
            refine lv_if_eq (tgt := 103) hx hb dX3_readSample_92 (by decide) (fun _ => ?_) (fun c9 => absurd (by decide) c9)
            refine lv_aload_n hx hb dX3_readSample_103 rfl (lv_at hl 2 rfl) ?_
            refine va_get (D := κ.1) (ci := 3) (v := .int (zI s82 this 7)) (C := RX3) (T := TX3) (N := 8) hx hb hg inX3 hown hK (hT.o6 (hT.k t_this (by decide))).one 0 rfl rfl 7 (by decide) (hg _ k129) (fun _ h9 => h9) rfl dX3_readSample_104 ?_
            rw [ev91]
            have hTo := hT
            refine tVv (n := 2) (As := [.int v10, .int v91]) (rest := []) hx hb hml hown hg hT hK hX (X0s_addSample l κ s82 into v10 v91  (hT.k t_into (by decide)) (show (zI s82 into 2).toInt = (nn : Nat) from by rw [(show zI s82 into 2 = v3 from ev3)]; omega) (by omega)) sub_fAd_fRs (mwV k812 k329 k330 k86 k331) ⟨rfl, by decide, by decide, by decide +kernel⟩ ⟨(Nat.le_of_ble_eq_true rfl), (Nat.le_of_ble_eq_true rfl)⟩ (hT.o5 (hT.k t_into (by decide))) rfl rfl hl.1 rfl (Nat.le_of_ble_eq_true rfl) dX3_readSample_107 zroom.rf (fun s94 H locs hφ hEs94 hT => ?_)
            have ev1 : zI s94 this 2 = v1 := ((hTo.k t_this (by decide)).eI hEs94 (by decide) rfl).trans ev1
            have ev2 : zI s94 this 3 = v2 := ((hTo.k t_this (by decide)).eI hEs94 (by decide) rfl).trans ev2
            have ev86 : zI s94 this 4 = v86 := ((hTo.k t_this (by decide)).eI hEs94 (by decide) rfl).trans ev86
            have ev87 : zI s94 this 5 = v87 := ((hTo.k t_this (by decide)).eI hEs94 (by decide) rfl).trans ev87
            have ev89 : zI s94 this 6 = v89 := ((hTo.k t_this (by decide)).eI hEs94 (by decide) rfl).trans ev89
            have ev91 : zI s94 this 7 = v91 := ((hTo.k t_this (by decide)).eI hEs94 (by decide) rfl).trans ev91
            obtain ⟨f95, f96⟩ := hφ
            rw [erP] at f96
            obtain ⟨v97, ev97⟩ : ∃ zz9 : Int32, zI s94 into 2 = zz9 := ⟨_, rfl⟩
            have qv97 : v97.toInt = (zI s94 into 2).toInt := by rw [ev97]
            have b98 := (hT.P (hT.k t_into (by decide)) (by decide)).1
            rw [ev97] at b98
            have b98l := b98.1
            have b98h := b98.2
            rw [(show zI s94 into 2 = v97 from ev97)] at f95
            have P99 : (zI s94 rP nn).toInt = uvl tc Ln sp := by rw [f96 nn, if_pos rfl]; omega
            refine lv_aload_n hx hb dX3_readSample_110 rfl (lv_at hl 2 rfl) ?_
            have hTo := hT
            refine tVi (n := 0) (As := []) (rest := []) hx hb hml hown hg hT hK hX (X3s_pass l κ s94 this  (hT.k t_this (by decide)) (h0.tr (funext fun k => by rw [erB]; exact hT.eI trB (by decide) rfl rfl) (hT.eI t_this (by decide) rfl rfl)) (show (zI s94 this 6).toInt = (utkE tc Ln (unxt tc Ln sp) : Nat) from by rw [(show zI s94 this 6 = v89 from ev89)]; omega) (utkE_le tk928)) sub_fP_fRs (mwV k697 k699 k17 k85 k700) ⟨rfl, by decide, by decide, by decide +kernel⟩ ⟨(Nat.le_of_ble_eq_true rfl), (Nat.le_of_ble_eq_true rfl)⟩ (hT.o6 (hT.k t_this (by decide))) rfl rfl hl.1 rfl (Nat.le_of_ble_eq_true rfl) dX3_readSample_111 zroom.rf (fun x100 s101 H locs hφ hEs101 hT => ?_)
            have ev1 : zI s101 this 2 = v1 := ((hTo.k t_this (by decide)).eI hEs101 (by decide) rfl).trans ev1
            have ev2 : zI s101 this 3 = v2 := ((hTo.k t_this (by decide)).eI hEs101 (by decide) rfl).trans ev2
            have ev97 : zI s101 into 2 = v97 := ((hTo.k t_into (by decide)).eI hEs101 (by decide) rfl).trans ev97
            have Y102 : (zI s101 rP nn).toInt = uvl tc Ln sp := by first | (rw [show zI s101 rP = zI s94 rP from funext fun k => (hTo.k trP (by decide)).eI hEs101 (by decide) rfl]; exact P99) | rw [show zI s101 rP = zI s94 rP from funext fun k => (hTo.k trP (by decide)).eI hEs101 (by decide) rfl]
            obtain ⟨f103, f104, f105⟩ := hφ
            subst hQ9
            exact t_z hx hb hr f105 hlocks hT ⟨Or.inl ⟨by omega, by omega, by omega, by rw [hsv]; omega, by rw [hsv]; exact f104, by rw [(show zI s101 into 2 = v97 from ev97)]; omega, by rw [erP]; exact Y102, ((show zI s101 this 2 = v1 from ev1).trans zthis2.symm), ((show zI s101 this 3 = v2 from ev2).trans zthis3.symm), ⟨hT.eI t_into (by decide) rfl rfl, hT.eI t_into (by decide) rfl rfl, hT.eI t_into (by decide) rfl rfl, hT.eI t_into (by decide) rfl rfl⟩⟩, f105⟩ dX3_readSample_114
          · have c13 := gi_ne c9
            refine lv_aload_n hx hb dX3_readSample_83 rfl (lv_at hl 2 rfl) ?_
            refine lv_iconst (v := 1) hx hb dX3_readSample_84 (by decide) ?_
            have cz106 : zI s82 this 5 = v87 := ev87
            have hTo := hT
            refine tVi (n := 1) (As := [.int 1]) (rest := []) hx hb hml hown hg hT hK hX (X3s_isWrong l κ s82 this 1  (hT.k t_this (by decide)) (h0.tr (funext fun k => by rw [erB]; exact hT.eI trB (by decide) rfl rfl) (hT.eI t_this (by decide) rfl rfl))) sub_fW23_fRs (mwV k779 k781 k23 k85 k782) ⟨rfl, by decide, by decide, by decide +kernel⟩ ⟨(Nat.le_of_ble_eq_true rfl), (Nat.le_of_ble_eq_true rfl)⟩ (hT.o6 (hT.k t_this (by decide))) rfl rfl hl.1 rfl (Nat.le_of_ble_eq_true rfl) dX3_readSample_85 zroom.rf (fun x107 s108 H locs hφ hEs108 hT => ?_)
            have ev3 : zI s108 into 2 = v3 := ((hTo.k t_into (by decide)).eI hEs108 (by decide) rfl).trans ev3
            have ev86 : zI s108 this 4 = v86 := ((hTo.k t_this (by decide)).eI hEs108 (by decide) rfl).trans ev86
            have ev87 : zI s108 this 5 = v87 := ((hTo.k t_this (by decide)).eI hEs108 (by decide) rfl).trans ev87
            have ev89 : zI s108 this 6 = v89 := ((hTo.k t_this (by decide)).eI hEs108 (by decide) rfl).trans ev89
            have ev91 : zI s108 this 7 = v91 := ((hTo.k t_this (by decide)).eI hEs108 (by decide) rfl).trans ev91
            obtain ⟨f109, f110, f111, f112⟩ := hφ
            have wr113 : (zI s108 this 3).toInt = (unxt tc Ln sp) := by rw [f111, cz106]; omega
            subst hQ9
            exact t_z hx hb hr f112 hlocks hT ⟨Or.inr ⟨by omega, 1, ((svq (utkK tc Ln) (unxt tc Ln) sp) : Nat), Or.inr (Or.inr ⟨by omega, by omega, by rw [hsv]; omega, rfl, rfl⟩), by omega, by rw [wr113, hsv]⟩, f112⟩ dX3_readSample_88
        · have c14 := gi_eq c9
          refine lv_iconst (v := 1) hx hb dX3_readSample_60 (by decide) ?_
          refine lv_goto (tgt := 65) hx hb dX3_readSample_61 (by decide) ?_
          refine lv_istore_n (lv' := [(3, .int 1), (2, .int v10), (0, .ref this), (1, .ref into)]) hx hb dX3_readSample_65 rfl hl (by decide) rfl (fun ls hl => ?_)
          refine lv_iload_n hx hb dX3_readSample_66 rfl (lv_at hl 0 rfl) ?_
          refine lv_if_eq (tgt := 75) hx hb dX3_readSample_67 (by decide) (fun c9 => absurd c9 (by decide)) (fun _ => ?_)
          refine lv_aload_n hx hb dX3_readSample_70 rfl (lv_at hl 2 rfl) ?_
          have hTo := hT
          refine tVi (n := 0) (As := []) (rest := []) hx hb hml hown hg hT hK hX (X3s_pass l κ s82 this  (hT.k t_this (by decide)) (h0.tr (funext fun k => by rw [erB]; exact hT.eI trB (by decide) rfl rfl) (hT.eI t_this (by decide) rfl rfl)) (show (zI s82 this 6).toInt = (utkE tc Ln (unxt tc Ln sp) : Nat) from by rw [(show zI s82 this 6 = v89 from ev89)]; omega) (utkE_le tk928)) sub_fP_fRs (mwV k697 k699 k17 k85 k700) ⟨rfl, by decide, by decide, by decide +kernel⟩ ⟨(Nat.le_of_ble_eq_true rfl), (Nat.le_of_ble_eq_true rfl)⟩ (hT.o6 (hT.k t_this (by decide))) rfl rfl hl.1 rfl (Nat.le_of_ble_eq_true rfl) dX3_readSample_71 zroom.rf (fun x114 s115 H locs hφ hEs115 hT => ?_)
          have ev1 : zI s115 this 2 = v1 := ((hTo.k t_this (by decide)).eI hEs115 (by decide) rfl).trans ev1
          have ev2 : zI s115 this 3 = v2 := ((hTo.k t_this (by decide)).eI hEs115 (by decide) rfl).trans ev2
          have ev3 : zI s115 into 2 = v3 := ((hTo.k t_into (by decide)).eI hEs115 (by decide) rfl).trans ev3
          obtain ⟨f116, f117, f118⟩ := hφ
          obtain ⟨v119, ev119⟩ : ∃ zz9 : Int32, zI s115 this 4 = zz9 := ⟨_, rfl⟩
          have qv119 : v119.toInt = (zI s115 this 4).toInt := by rw [ev119]
          obtain ⟨v120, ev120⟩ : ∃ zz9 : Int32, zI s115 this 5 = zz9 := ⟨_, rfl⟩
          have qv120 : v120.toInt = (zI s115 this 5).toInt := by rw [ev120]
          have b121 := (hT.P (hT.k t_this (by decide)) (by decide)).2.1
          rw [ev120] at b121
          have b121l := b121.1
          have b121h := b121.2
          obtain ⟨v122, ev122⟩ : ∃ zz9 : Int32, zI s115 this 6 = zz9 := ⟨_, rfl⟩
          have qv122 : v122.toInt = (zI s115 this 6).toInt := by rw [ev122]
          have b123 := (hT.P (hT.k t_this (by decide)) (by decide)).2.2
          rw [ev122] at b123
          have b123l := b123.1
          have b123h := b123.2
          obtain ⟨v124, ev124⟩ : ∃ zz9 : Int32, zI s115 this 7 = zz9 := ⟨_, rfl⟩
          have qv124 : v124.toInt = (zI s115 this 7).toInt := by rw [ev124]
          have tk125 : TKv v119 v120 v122 v124 tc Ln (unxt tc Ln (unxt tc Ln sp)) := by have z9 := f117; unfold TKc at z9; rw [(show zI s115 this 4 = v119 from ev119), (show zI s115 this 5 = v120 from ev120), (show zI s115 this 6 = v122 from ev122), (show zI s115 this 7 = v124 from ev124)] at z9; exact z9
          obtain ⟨tk1254, tk1255, tk1256, tk1257, tk1258⟩ := id tk125
          refine lv_pop hx hb dX3_readSample_74 rfl ?_
          have hsv : (svq (utkK tc Ln) (unxt tc Ln) sp) = (unxt tc Ln (unxt tc Ln sp)) := if_pos (by omega)
          refine lv_aload_n hx hb dX3_readSample_75 rfl (lv_at hl 2 rfl) ?_
          refine va_get (D := κ.1) (ci := 3) (v := .int (zI s115 this 4)) (C := RX3) (T := TX3) (N := 8) hx hb hg inX3 hown hK (hT.o6 (hT.k t_this (by decide))).one 0 rfl rfl 4 (by decide) (hg _ k126) (fun _ h9 => h9) rfl dX3_readSample_76 ?_
          rw [ev119]
          refine lv_iconst (v := 2) hx hb dX3_readSample_79 (by decide) ?_
          refine lv_icmp_eq (tgt := 89) hx hb dX3_readSample_80 (by decide) (fun c9 => ?_) (fun c9 => ?_)
          · have c15 := gi_eq c9
            refine lv_aload_n hx hb dX3_readSample_89 rfl (lv_at hl 3 rfl) ?_
            refine lv_iload_n hx hb dX3_readSample_90 rfl (lv_at hl 1 rfl) ?_
            refine lv_iload_n hx hb dX3_readSample_91 rfl (lv_at hl 0 rfl) ?_
            refine lv_if_eq (tgt := 103) hx hb dX3_readSample_92 (by decide) (fun c9 => absurd c9 (by decide)) (fun _ => ?_)
            refine lv_aload_n hx hb dX3_readSample_95 rfl (lv_at hl 2 rfl) ?_
            refine va_get (D := κ.1) (ci := 3) (v := .int (zI s115 this 7)) (C := RX3) (T := TX3) (N := 8) hx hb hg inX3 hown hK (hT.o6 (hT.k t_this (by decide))).one 0 rfl rfl 7 (by decide) (hg _ k129) (fun _ h9 => h9) rfl dX3_readSample_96 ?_
            rw [ev124]
            refine lv_ineg hx hb dX3_readSample_99 ?_
            refine lv_topi (fun t126 ht126 => ?_)
            refine lv_goto (tgt := 107) hx hb dX3_readSample_100 (by decide) ?_
            have hTo := hT
            refine tVv (n := 2) (As := [.int v10, .int t126]) (rest := []) hx hb hml hown hg hT hK hX (X0s_addSample l κ s115 into v10 t126  (hT.k t_into (by decide)) (show (zI s115 into 2).toInt = (nn : Nat) from by rw [(show zI s115 into 2 = v3 from ev3)]; omega) (by omega)) sub_fAd_fRs (mwV k812 k329 k330 k86 k331) ⟨rfl, by decide, by decide, by decide +kernel⟩ ⟨(Nat.le_of_ble_eq_true rfl), (Nat.le_of_ble_eq_true rfl)⟩ (hT.o5 (hT.k t_into (by decide))) rfl rfl hl.1 rfl (Nat.le_of_ble_eq_true rfl) dX3_readSample_107 zroom.rf (fun s128 H locs hφ hEs128 hT => ?_)
            have ev1 : zI s128 this 2 = v1 := ((hTo.k t_this (by decide)).eI hEs128 (by decide) rfl).trans ev1
            have ev2 : zI s128 this 3 = v2 := ((hTo.k t_this (by decide)).eI hEs128 (by decide) rfl).trans ev2
            have ev119 : zI s128 this 4 = v119 := ((hTo.k t_this (by decide)).eI hEs128 (by decide) rfl).trans ev119
            have ev120 : zI s128 this 5 = v120 := ((hTo.k t_this (by decide)).eI hEs128 (by decide) rfl).trans ev120
            have ev122 : zI s128 this 6 = v122 := ((hTo.k t_this (by decide)).eI hEs128 (by decide) rfl).trans ev122
            have ev124 : zI s128 this 7 = v124 := ((hTo.k t_this (by decide)).eI hEs128 (by decide) rfl).trans ev124
            obtain ⟨f129, f130⟩ := hφ
            rw [erP] at f130
            obtain ⟨v131, ev131⟩ : ∃ zz9 : Int32, zI s128 into 2 = zz9 := ⟨_, rfl⟩
            have qv131 : v131.toInt = (zI s128 into 2).toInt := by rw [ev131]
            have b132 := (hT.P (hT.k t_into (by decide)) (by decide)).1
            rw [ev131] at b132
            have b132l := b132.1
            have b132h := b132.2
            rw [(show zI s128 into 2 = v131 from ev131)] at f129
            have P133 : (zI s128 rP nn).toInt = uvl tc Ln sp := by rw [f130 nn, if_pos rfl]; omega
            refine lv_aload_n hx hb dX3_readSample_110 rfl (lv_at hl 2 rfl) ?_
            have hTo := hT
            refine tVi (n := 0) (As := []) (rest := []) hx hb hml hown hg hT hK hX (X3s_pass l κ s128 this  (hT.k t_this (by decide)) (h0.tr (funext fun k => by rw [erB]; exact hT.eI trB (by decide) rfl rfl) (hT.eI t_this (by decide) rfl rfl)) (show (zI s128 this 6).toInt = (utkE tc Ln (unxt tc Ln (unxt tc Ln sp)) : Nat) from by rw [(show zI s128 this 6 = v122 from ev122)]; omega) (utkE_le tk1258)) sub_fP_fRs (mwV k697 k699 k17 k85 k700) ⟨rfl, by decide, by decide, by decide +kernel⟩ ⟨(Nat.le_of_ble_eq_true rfl), (Nat.le_of_ble_eq_true rfl)⟩ (hT.o6 (hT.k t_this (by decide))) rfl rfl hl.1 rfl (Nat.le_of_ble_eq_true rfl) dX3_readSample_111 zroom.rf (fun x134 s135 H locs hφ hEs135 hT => ?_)
            have ev1 : zI s135 this 2 = v1 := ((hTo.k t_this (by decide)).eI hEs135 (by decide) rfl).trans ev1
            have ev2 : zI s135 this 3 = v2 := ((hTo.k t_this (by decide)).eI hEs135 (by decide) rfl).trans ev2
            have ev131 : zI s135 into 2 = v131 := ((hTo.k t_into (by decide)).eI hEs135 (by decide) rfl).trans ev131
            have Y136 : (zI s135 rP nn).toInt = uvl tc Ln sp := by first | (rw [show zI s135 rP = zI s128 rP from funext fun k => (hTo.k trP (by decide)).eI hEs135 (by decide) rfl]; exact P133) | rw [show zI s135 rP = zI s128 rP from funext fun k => (hTo.k trP (by decide)).eI hEs135 (by decide) rfl]
            obtain ⟨f137, f138, f139⟩ := hφ
            subst hQ9
            exact t_z hx hb hr f139 hlocks hT ⟨Or.inl ⟨by omega, by omega, by omega, by rw [hsv]; omega, by rw [hsv]; exact f138, by rw [(show zI s135 into 2 = v131 from ev131)]; omega, by rw [erP]; exact Y136, ((show zI s135 this 2 = v1 from ev1).trans zthis2.symm), ((show zI s135 this 3 = v2 from ev2).trans zthis3.symm), ⟨hT.eI t_into (by decide) rfl rfl, hT.eI t_into (by decide) rfl rfl, hT.eI t_into (by decide) rfl rfl, hT.eI t_into (by decide) rfl rfl⟩⟩, f139⟩ dX3_readSample_114
          · have c16 := gi_ne c9
            refine lv_aload_n hx hb dX3_readSample_83 rfl (lv_at hl 2 rfl) ?_
            refine lv_iconst (v := 1) hx hb dX3_readSample_84 (by decide) ?_
            have cz140 : zI s115 this 5 = v120 := ev120
            have hTo := hT
            refine tVi (n := 1) (As := [.int 1]) (rest := []) hx hb hml hown hg hT hK hX (X3s_isWrong l κ s115 this 1  (hT.k t_this (by decide)) (h0.tr (funext fun k => by rw [erB]; exact hT.eI trB (by decide) rfl rfl) (hT.eI t_this (by decide) rfl rfl))) sub_fW23_fRs (mwV k779 k781 k23 k85 k782) ⟨rfl, by decide, by decide, by decide +kernel⟩ ⟨(Nat.le_of_ble_eq_true rfl), (Nat.le_of_ble_eq_true rfl)⟩ (hT.o6 (hT.k t_this (by decide))) rfl rfl hl.1 rfl (Nat.le_of_ble_eq_true rfl) dX3_readSample_85 zroom.rf (fun x141 s142 H locs hφ hEs142 hT => ?_)
            have ev3 : zI s142 into 2 = v3 := ((hTo.k t_into (by decide)).eI hEs142 (by decide) rfl).trans ev3
            have ev119 : zI s142 this 4 = v119 := ((hTo.k t_this (by decide)).eI hEs142 (by decide) rfl).trans ev119
            have ev120 : zI s142 this 5 = v120 := ((hTo.k t_this (by decide)).eI hEs142 (by decide) rfl).trans ev120
            have ev122 : zI s142 this 6 = v122 := ((hTo.k t_this (by decide)).eI hEs142 (by decide) rfl).trans ev122
            have ev124 : zI s142 this 7 = v124 := ((hTo.k t_this (by decide)).eI hEs142 (by decide) rfl).trans ev124
            obtain ⟨f143, f144, f145, f146⟩ := hφ
            have wr147 : (zI s142 this 3).toInt = (unxt tc Ln (unxt tc Ln sp)) := by rw [f145, cz140]; omega
            subst hQ9
            exact t_z hx hb hr f146 hlocks hT ⟨Or.inr ⟨by omega, 1, ((svq (utkK tc Ln) (unxt tc Ln) sp) : Nat), Or.inr (Or.inr ⟨by omega, by omega, by rw [hsv]; omega, rfl, rfl⟩), by omega, by rw [wr147, hsv]⟩, f146⟩ dX3_readSample_88
      · have c17 := gi_nlt c9
        refine lv_aload_n hx hb dX3_readSample_41 rfl (lv_at hl 1 rfl) ?_
        refine lv_iconst (v := 2) hx hb dX3_readSample_42 (by decide) ?_
        have cz148 : zI σ0 this 5 = v6 := ev6
        have hTo := hT
        refine tVi (n := 1) (As := [.int 2]) (rest := []) hx hb hml hown hg hT hK hX (X3s_isWrong l κ σ0 this 2  (hT.k t_this (by decide)) h0) sub_fW23_fRs (mwV k779 k781 k23 k85 k782) ⟨rfl, by decide, by decide, by decide +kernel⟩ ⟨(Nat.le_of_ble_eq_true rfl), (Nat.le_of_ble_eq_true rfl)⟩ (hT.o6 (hT.k t_this (by decide))) rfl rfl hl.1 rfl (Nat.le_of_ble_eq_true rfl) dX3_readSample_43 zroom.rf (fun x149 s150 H locs hφ hEs150 hT => ?_)
        have ev3 : zI s150 into 2 = v3 := ((hTo.k t_into (by decide)).eI hEs150 (by decide) rfl).trans ev3
        have ev5 : zI s150 this 4 = v5 := ((hTo.k t_this (by decide)).eI hEs150 (by decide) rfl).trans ev5
        have ev6 : zI s150 this 5 = v6 := ((hTo.k t_this (by decide)).eI hEs150 (by decide) rfl).trans ev6
        have ev8 : zI s150 this 6 = v8 := ((hTo.k t_this (by decide)).eI hEs150 (by decide) rfl).trans ev8
        have ev10 : zI s150 this 7 = v10 := ((hTo.k t_this (by decide)).eI hEs150 (by decide) rfl).trans ev10
        obtain ⟨f151, f152, f153, f154⟩ := hφ
        have wr155 : (zI s150 this 3).toInt = sp := by rw [f153, cz148]; omega
        subst hQ9
        exact t_z hx hb hr f154 hlocks hT ⟨Or.inr ⟨by omega, 2, (sp : Nat), Or.inr (Or.inl ⟨by omega, by omega, rfl, rfl⟩), by omega, by rw [wr155]⟩, f154⟩ dX3_readSample_46
  · have c18 := gi_ne c9
    refine lv_aload_n hx hb dX3_readSample_8 rfl (lv_at hl 0 rfl) ?_
    refine lv_iconst (v := 1) hx hb dX3_readSample_9 (by decide) ?_
    have cz156 : zI σ0 this 5 = v6 := ev6
    have hTo := hT
    refine tVi (n := 1) (As := [.int 1]) (rest := []) hx hb hml hown hg hT hK hX (X3s_isWrong l κ σ0 this 1  (hT.k t_this (by decide)) h0) sub_fW23_fRs (mwV k779 k781 k23 k85 k782) ⟨rfl, by decide, by decide, by decide +kernel⟩ ⟨(Nat.le_of_ble_eq_true rfl), (Nat.le_of_ble_eq_true rfl)⟩ (hT.o6 (hT.k t_this (by decide))) rfl rfl hl.1 rfl (Nat.le_of_ble_eq_true rfl) dX3_readSample_10 zroom.rf (fun x157 s158 H locs hφ hEs158 hT => ?_)
    have ev3 : zI s158 into 2 = v3 := ((hTo.k t_into (by decide)).eI hEs158 (by decide) rfl).trans ev3
    have ev5 : zI s158 this 4 = v5 := ((hTo.k t_this (by decide)).eI hEs158 (by decide) rfl).trans ev5
    have ev6 : zI s158 this 5 = v6 := ((hTo.k t_this (by decide)).eI hEs158 (by decide) rfl).trans ev6
    have ev8 : zI s158 this 6 = v8 := ((hTo.k t_this (by decide)).eI hEs158 (by decide) rfl).trans ev8
    have ev10 : zI s158 this 7 = v10 := ((hTo.k t_this (by decide)).eI hEs158 (by decide) rfl).trans ev10
    obtain ⟨f159, f160, f161, f162⟩ := hφ
    have wr163 : (zI s158 this 3).toInt = sp := by rw [f161, cz156]; omega
    subst hQ9
    exact t_z hx hb hr f162 hlocks hT ⟨Or.inr ⟨by omega, 1, (sp : Nat), Or.inl ⟨by omega, rfl, rfl⟩, by omega, by rw [wr163]⟩, f162⟩ dX3_readSample_13
set_option maxHeartbeats 8000000 in
set_option maxRecDepth 100000 in
theorem X3s_readSamples (l : Launch) (κ : Kt) (σ0 : Gh) (this : Nat) (into : Nat) {tc : Nat → Int} {Ln : Nat} {sp : Nat} {gg : Nat → Int} (t_this : zk σ0 this 6) (t_into : zk σ0 into 5) (h0 : TXc κ σ0 this tc Ln) (h1 : TKc σ0 this tc Ln sp) (h2 : (zI σ0 into 2).toInt = 0) : TC l yX3_readSamples cX3_readSamples 3 (some .boolean) 5 107 [.ref this, .ref into] κ σ0 (tqi κ fRs σ0 (fun (r : Int32) (τ : Gh) => (∃ x : uRd, utrt tc Ln (true, sp, 0, -1, gg) x ∧ ((r.toInt = 1 ∧ ∃ (s9 n9 : Nat) (v9 : Int), x = (true, s9, n9, v9, gg) ∧ umEnd (utkK tc Ln) s9 n9 ∧ (zI τ into 2).toInt = n9 ∧ zI τ this 2 = zI σ0 this 2 ∧ zI τ this 3 = zI σ0 this 3 ∧ zI τ into 3 = zI σ0 into 3 ∧ zI τ into 4 = zI σ0 into 4 ∧ zI τ into 5 = zI σ0 into 5 ∧ zI τ into 6 = zI σ0 into 6) ∨ (r.toInt = 0 ∧ ∃ co po : Int, utfi tc Ln x co po ∧ co ≠ 0 ∧ (zI τ this 2).toInt = co ∧ (zI τ this 3).toInt = po))) ∧ (isB r))) := by
  refine TC.of fRs (by decide +kernel) (Nat.le_of_ble_eq_true rfl) ?_
  intro p e s m below meth c ls hcs hK hX hT hl
  obtain ⟨hx, hb, hr, hml, hown, hg, hlocks, hin⟩ := hcs
  have hown : s.vm.findClass RX3 = some m.cls := hown
  have hl : lv_has ls 3 [(0, .ref this), (1, .ref into)] := hl
  have hT0 := hT
  have n0 : (0 : Int32).toInt = 0 := by decide
  have n1 : (1 : Int32).toInt = 1 := by decide
  have n2 : (2 : Int32).toInt = 2 := by decide
  have n4 : (4 : Int32).toInt = 4 := by decide
  have n48 : (48 : Int32).toInt = 48 := by decide
  generalize hQ9 : tQ _ _ _ _ _ _ = Q9
  obtain ⟨rB, erB⟩ : ∃ z, kR κ this 0 = z := ⟨_, rfl⟩
  have trB : zk σ0 rB 14 := by rw [← erB]; exact hT0.ref t_this (by decide) (by decide) (by decide)
  have hpc : ∀ j, tc j = (zI σ0 rB j).toInt := by rw [← erB]; exact h0.1
  have hLn : (zI σ0 this 1).toInt = Ln := h0.2
  have bL := (hT0.P t_this (by decide)).1.2
  have hL7 : (Ln : Int) ≤ 700 := by omega
  obtain ⟨rP, erP⟩ : ∃ z, kR κ into 0 = z := ⟨_, rfl⟩
  have trP : zk σ0 rP 17 := by rw [← erP]; exact hT0.ref t_into (by decide) (by decide) (by decide)
  refine lv_iconst (v := 0) hx hb dX3_readSamples_0 (by decide) ?_
  refine lv_istore_n (lv' := [(2, .int 0), (0, .ref this), (1, .ref into)]) hx hb dX3_readSamples_1 rfl hl (by decide) rfl (fun ls hl => ?_)
  have loop2 : ∀ (n9 : Nat) (j : Int32) (H : Heap) (locs : List Loc) (sg : Gh) (ls : Array Slot), TS κ fRs σ0 sg s H locs → (0 ≤ j.toInt) → (j.toInt ≤ 49) → (∃ (ss nn : Nat) (vv : Int), TKc sg this tc Ln ss ∧ utrt tc Ln (true, sp, 0, -1, gg) (true, ss, nn, vv, gg) ∧ j.toInt = nn ∧ (zI sg into 2).toInt = nn ∧ ((nn = 0 ∧ vv = -1) ∨ (0 < nn ∧ (zI sg rP (nn - 1)).toInt = vv)) ∧ nn ≤ 48 ∧ zI sg this 2 = zI σ0 this 2 ∧ zI sg this 3 = zI σ0 this 3 ∧ zI sg into 3 = zI σ0 into 3 ∧ zI sg into 4 = zI σ0 into 4 ∧ zI sg into 5 = zI σ0 into 5 ∧ zI sg into 6 = zI σ0 into 6) → lv_has ls 3 [(2, .int j), (0, .ref this), (1, .ref into)] → (49 - j.toInt) < n9 → tW p l e 5 107 κ s m #[.ref this, .ref into] below meth c H locs Q9 (F0 m 2 ls []) := by
    intro n9
    induction n9 with
    | zero =>
      intro j H locs sg ls hT q1 q2 q3 hl hm9
      exfalso
      omega
    | succ n9 ih9 =>
      have ih2 := ih9
      clear ih9
      intro j H locs s1 ls hT q1 q2 q3 hl hm9
      obtain ⟨ss, nn, vv, y1, y2, y3, y4, y5, y6, y7, y8, y9, y10, y11, y12⟩ := q3
      obtain ⟨v2, ev2⟩ : ∃ zz9 : Int32, zI s1 this 2 = zz9 := ⟨_, rfl⟩
      have qv2 : v2.toInt = (zI s1 this 2).toInt := by rw [ev2]
      have zthis2 : zI σ0 this 2 = v2 := y7.symm.trans ev2
      obtain ⟨v3, ev3⟩ : ∃ zz9 : Int32, zI s1 this 3 = zz9 := ⟨_, rfl⟩
      have qv3 : v3.toInt = (zI s1 this 3).toInt := by rw [ev3]
      have zthis3 : zI σ0 this 3 = v3 := y8.symm.trans ev3
      obtain ⟨v4, ev4⟩ : ∃ zz9 : Int32, zI s1 into 2 = zz9 := ⟨_, rfl⟩
      have qv4 : v4.toInt = (zI s1 into 2).toInt := by rw [ev4]
      have b5 := (hT.P (hT.k t_into (by decide)) (by decide)).1
      rw [ev4] at b5
      have b5l := b5.1
      have b5h := b5.2
      rw [(show zI s1 into 2 = v4 from ev4)] at y4
      obtain ⟨v6, ev6⟩ : ∃ zz9 : Int32, zI s1 this 4 = zz9 := ⟨_, rfl⟩
      have qv6 : v6.toInt = (zI s1 this 4).toInt := by rw [ev6]
      obtain ⟨v7, ev7⟩ : ∃ zz9 : Int32, zI s1 this 5 = zz9 := ⟨_, rfl⟩
      have qv7 : v7.toInt = (zI s1 this 5).toInt := by rw [ev7]
      have b8 := (hT.P (hT.k t_this (by decide)) (by decide)).2.1
      rw [ev7] at b8
      have b8l := b8.1
      have b8h := b8.2
      obtain ⟨v9, ev9⟩ : ∃ zz9 : Int32, zI s1 this 6 = zz9 := ⟨_, rfl⟩
      have qv9 : v9.toInt = (zI s1 this 6).toInt := by rw [ev9]
      have b10 := (hT.P (hT.k t_this (by decide)) (by decide)).2.2
      rw [ev9] at b10
      have b10l := b10.1
      have b10h := b10.2
      obtain ⟨v11, ev11⟩ : ∃ zz9 : Int32, zI s1 this 7 = zz9 := ⟨_, rfl⟩
      have qv11 : v11.toInt = (zI s1 this 7).toInt := by rw [ev11]
      have tk12 : TKv v6 v7 v9 v11 tc Ln ss := by have z9 := y1; unfold TKc at z9; rw [(show zI s1 this 4 = v6 from ev6), (show zI s1 this 5 = v7 from ev7), (show zI s1 this 6 = v9 from ev9), (show zI s1 this 7 = v11 from ev11)] at z9; exact z9
      obtain ⟨tk124, tk125, tk126, tk127, tk128⟩ := id tk12
      refine lv_iload_n hx hb dX3_readSamples_2 rfl (lv_at hl 0 rfl) ?_
      refine lv_bipush (v := 48) hx hb dX3_readSamples_3 (by decide) ?_
      refine lv_icmp_gt (tgt := 77) hx hb dX3_readSamples_5 (by decide) (fun c9 => ?_) (fun c9 => ?_)
      · have c1 := gi_lt c9
        refine lv_iconst (v := 1) hx hb dX3_readSamples_77 (by decide) ?_
        subst hQ9
        exact t_z hx hb hr isB1 hlocks hT (by exfalso; omega) dX3_readSamples_78
      · have c2 := gi_nlt c9
        refine lv_aload_n hx hb dX3_readSamples_8 rfl (lv_at hl 1 rfl) ?_
        refine va_get (D := κ.1) (ci := 3) (v := .int (zI s1 this 4)) (C := RX3) (T := TX3) (N := 8) hx hb hg inX3 hown hK (hT.o6 (hT.k t_this (by decide))).one 0 rfl rfl 4 (by decide) (hg _ k126) (fun _ h9 => h9) rfl dX3_readSamples_9 ?_
        rw [ev6]
        refine lv_if_ne (tgt := 22) hx hb dX3_readSamples_12 (by decide) (fun c9 => ?_) (fun c9 => ?_)
        · have c3 := gi_ne c9
          refine lv_aload_n hx hb dX3_readSamples_22 rfl (lv_at hl 1 rfl) ?_
          refine va_ldcS hx hb hown (hX.2.2.1 12 (by decide)) dX3_readSamples_23 ?_
          have hTo := hT
          refine tVi (n := 1) (As := [.ref (kK κ 12)]) (rest := []) hx hb hml hown hg hT hK hX (X3s_isWord l κ s1 this 12  (hT.k t_this (by decide)) (by decide) (h0.tr (funext fun k => by rw [erB]; exact hT.eI trB (by decide) rfl rfl) (hT.eI t_this (by decide) rfl rfl)) (show TKc s1 this tc Ln ss from by unfold TKc; rw [(show zI s1 this 4 = v6 from ev6), (show zI s1 this 5 = v7 from ev7), (show zI s1 this 6 = v9 from ev9), (show zI s1 this 7 = v11 from ev11)]; exact tk12)) sub_fE_fRs (mwV k724 k726 k22 k85 k727) ⟨rfl, by decide, by decide, by decide +kernel⟩ ⟨(Nat.le_of_ble_eq_true rfl), (Nat.le_of_ble_eq_true rfl)⟩ (hT.o6 (hT.k t_this (by decide))) rfl rfl hl.1 rfl (Nat.le_of_ble_eq_true rfl) dX3_readSamples_25 zroom.rf (fun x13 s14 H locs hφ hEs14 hT => ?_)
          have ev2 : zI s14 this 2 = v2 := ((hTo.k t_this (by decide)).eI hEs14 (by decide) rfl).trans ev2
          have ev3 : zI s14 this 3 = v3 := ((hTo.k t_this (by decide)).eI hEs14 (by decide) rfl).trans ev3
          have ev4 : zI s14 into 2 = v4 := ((hTo.k t_into (by decide)).eI hEs14 (by decide) rfl).trans ev4
          have ev6 : zI s14 this 4 = v6 := ((hTo.k t_this (by decide)).eI hEs14 (by decide) rfl).trans ev6
          have ev7 : zI s14 this 5 = v7 := ((hTo.k t_this (by decide)).eI hEs14 (by decide) rfl).trans ev7
          have ev9 : zI s14 this 6 = v9 := ((hTo.k t_this (by decide)).eI hEs14 (by decide) rfl).trans ev9
          have ev11 : zI s14 this 7 = v11 := ((hTo.k t_this (by decide)).eI hEs14 (by decide) rfl).trans ev11
          have Y15 : (nn = 0 ∧ vv = -1) ∨ (0 < nn ∧ (zI s14 rP (nn - 1)).toInt = vv) := by first | (rw [show zI s14 rP = zI s1 rP from funext fun k => (hTo.k trP (by decide)).eI hEs14 (by decide) rfl]; exact y5) | rw [show zI s14 rP = zI s1 rP from funext fun k => (hTo.k trP (by decide)).eI hEs14 (by decide) rfl]
          obtain ⟨f16, f17⟩ := hφ
          refine lv_if_ne (tgt := 37) hx hb dX3_readSamples_28 (by decide) (fun c9 => ?_) (fun c9 => ?_)
          · have c4 := gi_ne c9
            refine lv_iload_n hx hb dX3_readSamples_37 rfl (lv_at hl 0 rfl) ?_
            refine lv_bipush (v := 48) hx hb dX3_readSamples_38 (by decide) ?_
            refine lv_icmp_ne (tgt := 49) hx hb dX3_readSamples_40 (by decide) (fun c9 => ?_) (fun c9 => ?_)
            · have c5 := gi_ne c9
              refine lv_aload_n hx hb dX3_readSamples_49 rfl (lv_at hl 1 rfl) ?_
              have hTo := hT
              refine tVi (n := 0) (As := []) (rest := []) hx hb hml hown hg hT hK hX (X3s_pass l κ s14 this  (hT.k t_this (by decide)) (h0.tr (funext fun k => by rw [erB]; exact hT.eI trB (by decide) rfl rfl) (hT.eI t_this (by decide) rfl rfl)) (show (zI s14 this 6).toInt = (utkE tc Ln ss : Nat) from by rw [(show zI s14 this 6 = v9 from ev9)]; omega) (utkE_le tk128)) sub_fP_fRs (mwV k697 k699 k17 k85 k700) ⟨rfl, by decide, by decide, by decide +kernel⟩ ⟨(Nat.le_of_ble_eq_true rfl), (Nat.le_of_ble_eq_true rfl)⟩ (hT.o6 (hT.k t_this (by decide))) rfl rfl hl.1 rfl (Nat.le_of_ble_eq_true rfl) dX3_readSamples_50 zroom.rf (fun x18 s19 H locs hφ hEs19 hT => ?_)
              have ev2 : zI s19 this 2 = v2 := ((hTo.k t_this (by decide)).eI hEs19 (by decide) rfl).trans ev2
              have ev3 : zI s19 this 3 = v3 := ((hTo.k t_this (by decide)).eI hEs19 (by decide) rfl).trans ev3
              have ev4 : zI s19 into 2 = v4 := ((hTo.k t_into (by decide)).eI hEs19 (by decide) rfl).trans ev4
              have Y20 : (nn = 0 ∧ vv = -1) ∨ (0 < nn ∧ (zI s19 rP (nn - 1)).toInt = vv) := by first | (rw [show zI s19 rP = zI s14 rP from funext fun k => (hTo.k trP (by decide)).eI hEs19 (by decide) rfl]; exact Y15) | rw [show zI s19 rP = zI s14 rP from funext fun k => (hTo.k trP (by decide)).eI hEs19 (by decide) rfl]
              obtain ⟨f21, f22, f23⟩ := hφ
              obtain ⟨v24, ev24⟩ : ∃ zz9 : Int32, zI s19 this 4 = zz9 := ⟨_, rfl⟩
              have qv24 : v24.toInt = (zI s19 this 4).toInt := by rw [ev24]
              obtain ⟨v25, ev25⟩ : ∃ zz9 : Int32, zI s19 this 5 = zz9 := ⟨_, rfl⟩
              have qv25 : v25.toInt = (zI s19 this 5).toInt := by rw [ev25]
              have b26 := (hT.P (hT.k t_this (by decide)) (by decide)).2.1
              rw [ev25] at b26
              have b26l := b26.1
              have b26h := b26.2
              obtain ⟨v27, ev27⟩ : ∃ zz9 : Int32, zI s19 this 6 = zz9 := ⟨_, rfl⟩
              have qv27 : v27.toInt = (zI s19 this 6).toInt := by rw [ev27]
              have b28 := (hT.P (hT.k t_this (by decide)) (by decide)).2.2
              rw [ev27] at b28
              have b28l := b28.1
              have b28h := b28.2
              obtain ⟨v29, ev29⟩ : ∃ zz9 : Int32, zI s19 this 7 = zz9 := ⟨_, rfl⟩
              have qv29 : v29.toInt = (zI s19 this 7).toInt := by rw [ev29]
              have tk30 : TKv v24 v25 v27 v29 tc Ln (unxt tc Ln ss) := by have z9 := f22; unfold TKc at z9; rw [(show zI s19 this 4 = v24 from ev24), (show zI s19 this 5 = v25 from ev25), (show zI s19 this 6 = v27 from ev27), (show zI s19 this 7 = v29 from ev29)] at z9; exact z9
              obtain ⟨tk304, tk305, tk306, tk307, tk308⟩ := id tk30
              refine lv_pop hx hb dX3_readSamples_53 rfl ?_
              refine lv_aload_n hx hb dX3_readSamples_54 rfl (lv_at hl 1 rfl) ?_
              refine lv_aload_n hx hb dX3_readSamples_55 rfl (lv_at hl 2 rfl) ?_
              have cz31 : zI s19 this 2 = v2 := ev2
              have cz32 : zI s19 this 3 = v3 := ev3
              have hTo := hT
              refine tVi (n := 1) (As := [.ref into]) (rest := []) hx hb hml hown hg hT hK hX (X3s_readSample l κ s19 this into  (hT.k t_this (by decide)) (hT.k t_into (by decide)) (h0.tr (funext fun k => by rw [erB]; exact hT.eI trB (by decide) rfl rfl) (hT.eI t_this (by decide) rfl rfl)) (show TKc s19 this tc Ln (unxt tc Ln ss) from by unfold TKc; rw [(show zI s19 this 4 = v24 from ev24), (show zI s19 this 5 = v25 from ev25), (show zI s19 this 6 = v27 from ev27), (show zI s19 this 7 = v29 from ev29)]; exact tk30) (show (zI s19 into 2).toInt = (nn : Nat) from by rw [(show zI s19 into 2 = v4 from ev4)]; omega) (by omega) (show (nn = 0 ∧ vv = -1) ∨ (0 < nn ∧ (zI s19 (kR κ into 0) (nn - 1)).toInt = vv) from by rw [erP]; exact Y20)) (fun _ _ h => h) (mwV k808 k810 k28 k85 k811) ⟨rfl, by decide, by decide, by decide +kernel⟩ ⟨(Nat.le_of_ble_eq_true rfl), (Nat.le_of_ble_eq_true rfl)⟩ (hT.o6 (hT.k t_this (by decide))) rfl rfl hl.1 rfl (Nat.le_of_ble_eq_true rfl) dX3_readSamples_56 zroom.rf (fun x33 s34 H locs hφ hEs34 hT => ?_)
              obtain ⟨f35, f36⟩ := hφ
              rcases f35 with ⟨a1, a2, a3, a9, a4, a5, a6, a7, a8, a10, a11, a12, a13⟩ | ⟨a1, co, po, a2, a3, a4⟩
              · skip
                obtain ⟨v37, ev37⟩ : ∃ zz9 : Int32, zI s34 this 2 = zz9 := ⟨_, rfl⟩
                have qv37 : v37.toInt = (zI s34 this 2).toInt := by rw [ev37]
                have zthis2 : zI σ0 this 2 = v37 := zthis2.trans (cz31.symm.trans (a7.symm.trans ev37))
                obtain ⟨v38, ev38⟩ : ∃ zz9 : Int32, zI s34 this 3 = zz9 := ⟨_, rfl⟩
                have qv38 : v38.toInt = (zI s34 this 3).toInt := by rw [ev38]
                have zthis3 : zI σ0 this 3 = v38 := zthis3.trans (cz32.symm.trans (a8.symm.trans ev38))
                obtain ⟨v39, ev39⟩ : ∃ zz9 : Int32, zI s34 into 2 = zz9 := ⟨_, rfl⟩
                have qv39 : v39.toInt = (zI s34 into 2).toInt := by rw [ev39]
                have b40 := (hT.P (hT.k t_into (by decide)) (by decide)).1
                rw [ev39] at b40
                have b40l := b40.1
                have b40h := b40.2
                rw [(show zI s34 into 2 = v39 from ev39)] at a5
                obtain ⟨v41, ev41⟩ : ∃ zz9 : Int32, zI s34 this 4 = zz9 := ⟨_, rfl⟩
                have qv41 : v41.toInt = (zI s34 this 4).toInt := by rw [ev41]
                obtain ⟨v42, ev42⟩ : ∃ zz9 : Int32, zI s34 this 5 = zz9 := ⟨_, rfl⟩
                have qv42 : v42.toInt = (zI s34 this 5).toInt := by rw [ev42]
                have b43 := (hT.P (hT.k t_this (by decide)) (by decide)).2.1
                rw [ev42] at b43
                have b43l := b43.1
                have b43h := b43.2
                obtain ⟨v44, ev44⟩ : ∃ zz9 : Int32, zI s34 this 6 = zz9 := ⟨_, rfl⟩
                have qv44 : v44.toInt = (zI s34 this 6).toInt := by rw [ev44]
                have b45 := (hT.P (hT.k t_this (by decide)) (by decide)).2.2
                rw [ev44] at b45
                have b45l := b45.1
                have b45h := b45.2
                obtain ⟨v46, ev46⟩ : ∃ zz9 : Int32, zI s34 this 7 = zz9 := ⟨_, rfl⟩
                have qv46 : v46.toInt = (zI s34 this 7).toInt := by rw [ev46]
                have tk47 : TKv v41 v42 v44 v46 tc Ln (unxt tc Ln (svq (utkK tc Ln) (unxt tc Ln) (unxt tc Ln ss))) := by have z9 := a4; unfold TKc at z9; rw [(show zI s34 this 4 = v41 from ev41), (show zI s34 this 5 = v42 from ev42), (show zI s34 this 6 = v44 from ev44), (show zI s34 this 7 = v46 from ev46)] at z9; exact z9
                obtain ⟨tk474, tk475, tk476, tk477, tk478⟩ := id tk47
                rw [erP] at a6
                refine lv_if_eq (tgt := 69) hx hb dX3_readSamples_59 (by decide) (fun c9 => absurd (gi_eq c9) (by omega)) (fun _ => ?_)
                refine lv_aload_n hx hb dX3_readSamples_62 rfl (lv_at hl 1 rfl) ?_
                have cz48 : zI s34 this 2 = v37 := ev37
                have cz49 : zI s34 this 3 = v38 := ev38
                have hTo := hT
                refine tVi (n := 0) (As := []) (rest := []) hx hb hml hown hg hT hK hX (X3s_passSemicolon l κ s34 this  (hT.k t_this (by decide)) (h0.tr (funext fun k => by rw [erB]; exact hT.eI trB (by decide) rfl rfl) (hT.eI t_this (by decide) rfl rfl)) (show TKc s34 this tc Ln (unxt tc Ln (svq (utkK tc Ln) (unxt tc Ln) (unxt tc Ln ss))) from by unfold TKc; rw [(show zI s34 this 4 = v41 from ev41), (show zI s34 this 5 = v42 from ev42), (show zI s34 this 6 = v44 from ev44), (show zI s34 this 7 = v46 from ev46)]; exact tk47)) sub_fPe_fRs (mwV k799 k801 k26 k85 k802) ⟨rfl, by decide, by decide, by decide +kernel⟩ ⟨(Nat.le_of_ble_eq_true rfl), (Nat.le_of_ble_eq_true rfl)⟩ (hT.o6 (hT.k t_this (by decide))) rfl rfl hl.1 rfl (Nat.le_of_ble_eq_true rfl) dX3_readSamples_63 zroom.rf (fun x50 s51 H locs hφ hEs51 hT => ?_)
                have ev39 : zI s51 into 2 = v39 := ((hTo.k t_into (by decide)).eI hEs51 (by decide) rfl).trans ev39
                have Y52 : (zI s51 rP nn).toInt = uvl tc Ln (unxt tc Ln ss) := by first | (rw [show zI s51 rP = zI s34 rP from funext fun k => (hTo.k trP (by decide)).eI hEs51 (by decide) rfl]; exact a6) | rw [show zI s51 rP = zI s34 rP from funext fun k => (hTo.k trP (by decide)).eI hEs51 (by decide) rfl]
                obtain ⟨f53, f54⟩ := hφ
                rcases f53 with ⟨b1, b2, b3, b4, b5⟩ | ⟨b1, b2, b3, b4⟩
                · skip
                  obtain ⟨v55, ev55⟩ : ∃ zz9 : Int32, zI s51 this 2 = zz9 := ⟨_, rfl⟩
                  have qv55 : v55.toInt = (zI s51 this 2).toInt := by rw [ev55]
                  have zthis2 : zI σ0 this 2 = v55 := zthis2.trans (cz48.symm.trans (b4.symm.trans ev55))
                  obtain ⟨v56, ev56⟩ : ∃ zz9 : Int32, zI s51 this 3 = zz9 := ⟨_, rfl⟩
                  have qv56 : v56.toInt = (zI s51 this 3).toInt := by rw [ev56]
                  have zthis3 : zI σ0 this 3 = v56 := zthis3.trans (cz49.symm.trans (b5.symm.trans ev56))
                  obtain ⟨v57, ev57⟩ : ∃ zz9 : Int32, zI s51 this 4 = zz9 := ⟨_, rfl⟩
                  have qv57 : v57.toInt = (zI s51 this 4).toInt := by rw [ev57]
                  obtain ⟨v58, ev58⟩ : ∃ zz9 : Int32, zI s51 this 5 = zz9 := ⟨_, rfl⟩
                  have qv58 : v58.toInt = (zI s51 this 5).toInt := by rw [ev58]
                  have b59 := (hT.P (hT.k t_this (by decide)) (by decide)).2.1
                  rw [ev58] at b59
                  have b59l := b59.1
                  have b59h := b59.2
                  obtain ⟨v60, ev60⟩ : ∃ zz9 : Int32, zI s51 this 6 = zz9 := ⟨_, rfl⟩
                  have qv60 : v60.toInt = (zI s51 this 6).toInt := by rw [ev60]
                  have b61 := (hT.P (hT.k t_this (by decide)) (by decide)).2.2
                  rw [ev60] at b61
                  have b61l := b61.1
                  have b61h := b61.2
                  obtain ⟨v62, ev62⟩ : ∃ zz9 : Int32, zI s51 this 7 = zz9 := ⟨_, rfl⟩
                  have qv62 : v62.toInt = (zI s51 this 7).toInt := by rw [ev62]
                  have tk63 : TKv v57 v58 v60 v62 tc Ln (unxt tc Ln (unxt tc Ln (svq (utkK tc Ln) (unxt tc Ln) (unxt tc Ln ss)))) := by have z9 := b3; unfold TKc at z9; rw [(show zI s51 this 4 = v57 from ev57), (show zI s51 this 5 = v58 from ev58), (show zI s51 this 6 = v60 from ev60), (show zI s51 this 7 = v62 from ev62)] at z9; exact z9
                  obtain ⟨tk634, tk635, tk636, tk637, tk638⟩ := id tk63
                  refine lv_if_ne (tgt := 71) hx hb dX3_readSamples_66 (by decide) (fun _ => ?_) (fun c9 => absurd (gi_eq c9) (by omega))
                  obtain ⟨t64, qt64⟩ : ∃ zz9 : Int32, j + Int32.ofInt 1 = zz9 := ⟨_, rfl⟩
                  refine lv_iinc (v := t64) (lv' := [(2, .int t64), (0, .ref this), (1, .ref into)]) hx hb dX3_readSamples_71 hl (k := 0) rfl qt64 (by decide) rfl (fun ls hl => ?_)
                  have ht64 : t64.toInt = j.toInt + 1 := by rw [← qt64]; exact v_addi rfl (show (Int32.ofInt 1).toInt = 1 from by decide) (by omega) (by omega)
                  refine lv_goto (tgt := 2) hx hb dX3_readSamples_74 (by decide) ?_
                  exact ih2 t64 _ _ _ _ hT  (by omega) (by omega) ⟨unxt tc Ln (unxt tc Ln (svq (utkK tc Ln) (unxt tc Ln) (unxt tc Ln ss))), nn + 1, uvl tc Ln (unxt tc Ln ss), (show TKc s51 this tc Ln (unxt tc Ln (unxt tc Ln (svq (utkK tc Ln) (unxt tc Ln) (unxt tc Ln ss)))) from by unfold TKc; rw [(show zI s51 this 4 = v57 from ev57), (show zI s51 this 5 = v58 from ev58), (show zI s51 this 6 = v60 from ev60), (show zI s51 this 7 = v62 from ev62)]; exact tk63), urt_tl y2 (Or.inr ⟨rfl, _, _, _, ⟨⟨by decide, (f16.resolve_right (fun q9 => by have := q9.1; omega)).2⟩, (show nn ≠ 48 from by omega), a2, a3, a9, b2, rfl, rfl, rfl⟩, rfl⟩), by omega, by rw [(show zI s51 into 2 = v39 from ev39)]; omega, Or.inr ⟨by omega, Y52⟩, by omega, ((show zI s51 this 2 = v55 from ev55).trans zthis2.symm), ((show zI s51 this 3 = v56 from ev56).trans zthis3.symm), hT.eI t_into (by decide) rfl rfl, hT.eI t_into (by decide) rfl rfl, hT.eI t_into (by decide) rfl rfl, hT.eI t_into (by decide) rfl rfl⟩ hl (by omega)
                · skip
                  refine lv_if_ne (tgt := 71) hx hb dX3_readSamples_66 (by decide) (fun c9 => absurd (gi_ne c9) (by omega)) (fun _ => ?_)
                  refine lv_iconst (v := 0) hx hb dX3_readSamples_69 (by decide) ?_
                  subst hQ9
                  exact t_z hx hb hr isB0 hlocks hT ⟨⟨(true, ss, nn, vv, gg), y2, Or.inr ⟨by omega, 1, (unxt tc Ln (svq (utkK tc Ln) (unxt tc Ln) (unxt tc Ln ss)) : Nat), Or.inr (Or.inl ⟨rfl, Or.inr (Or.inr ⟨⟨by decide, (f16.resolve_right (fun q9 => by have := q9.1; omega)).2⟩, (show nn ≠ 48 from by omega), Or.inr (Or.inr ⟨a2, a3, Or.inr ⟨a9, b2, rfl, rfl⟩⟩)⟩)⟩), by omega, by omega, b4⟩⟩, isB0⟩ dX3_readSamples_70
              · skip
                refine lv_if_eq (tgt := 69) hx hb dX3_readSamples_59 (by decide) (fun _ => ?_) (fun c9 => absurd (gi_ne c9) (by omega))
                refine lv_iconst (v := 0) hx hb dX3_readSamples_69 (by decide) ?_
                subst hQ9
                exact t_z hx hb hr isB0 hlocks hT ⟨⟨(true, ss, nn, vv, gg), y2, Or.inr ⟨by omega, co, po, by refine Or.inr (Or.inl ⟨rfl, Or.inr (Or.inr ⟨⟨by decide, (f16.resolve_right (fun q9 => by have := q9.1; omega)).2⟩, (show nn ≠ 48 from by omega), ?_⟩)⟩); rw [svl_q]; rcases a2 with ⟨q1, q2, q3⟩ | ⟨q1, q2, q3, q4⟩ | ⟨q1, q2, q3, q4, q5⟩; exact Or.inl ⟨q1, q2, q3⟩; exact Or.inr (Or.inl ⟨q1, q2, q3, q4⟩); exact Or.inr (Or.inr ⟨q1, q2, Or.inl ⟨q3, q4, q5⟩⟩), by rcases a2 with ⟨_, q2, _⟩ | ⟨_, _, q2, _⟩ | ⟨_, _, _, q2, _⟩ <;> omega, a3, a4⟩⟩, isB0⟩ dX3_readSamples_70
            · have c6 := gi_eq c9
              refine lv_aload_n hx hb dX3_readSamples_43 rfl (lv_at hl 1 rfl) ?_
              refine lv_iconst (v := 4) hx hb dX3_readSamples_44 (by decide) ?_
              have cz65 : zI s14 this 5 = v7 := ev7
              have hTo := hT
              refine tVi (n := 1) (As := [.int 4]) (rest := []) hx hb hml hown hg hT hK hX (X3s_isWrong l κ s14 this 4  (hT.k t_this (by decide)) (h0.tr (funext fun k => by rw [erB]; exact hT.eI trB (by decide) rfl rfl) (hT.eI t_this (by decide) rfl rfl))) sub_fW23_fRs (mwV k779 k781 k23 k85 k782) ⟨rfl, by decide, by decide, by decide +kernel⟩ ⟨(Nat.le_of_ble_eq_true rfl), (Nat.le_of_ble_eq_true rfl)⟩ (hT.o6 (hT.k t_this (by decide))) rfl rfl hl.1 rfl (Nat.le_of_ble_eq_true rfl) dX3_readSamples_45 zroom.rf (fun x66 s67 H locs hφ hEs67 hT => ?_)
              have ev4 : zI s67 into 2 = v4 := ((hTo.k t_into (by decide)).eI hEs67 (by decide) rfl).trans ev4
              have ev6 : zI s67 this 4 = v6 := ((hTo.k t_this (by decide)).eI hEs67 (by decide) rfl).trans ev6
              have ev7 : zI s67 this 5 = v7 := ((hTo.k t_this (by decide)).eI hEs67 (by decide) rfl).trans ev7
              have ev9 : zI s67 this 6 = v9 := ((hTo.k t_this (by decide)).eI hEs67 (by decide) rfl).trans ev9
              have ev11 : zI s67 this 7 = v11 := ((hTo.k t_this (by decide)).eI hEs67 (by decide) rfl).trans ev11
              have Y68 : (nn = 0 ∧ vv = -1) ∨ (0 < nn ∧ (zI s67 rP (nn - 1)).toInt = vv) := by first | (rw [show zI s67 rP = zI s14 rP from funext fun k => (hTo.k trP (by decide)).eI hEs67 (by decide) rfl]; exact Y15) | rw [show zI s67 rP = zI s14 rP from funext fun k => (hTo.k trP (by decide)).eI hEs67 (by decide) rfl]
              obtain ⟨f69, f70, f71, f72⟩ := hφ
              have wr73 : (zI s67 this 3).toInt = ss := by rw [f71, cz65]; omega
              subst hQ9
              exact t_z hx hb hr f72 hlocks hT ⟨⟨(true, ss, nn, vv, gg), y2, Or.inr ⟨by omega, 4, (ss : Nat), Or.inr (Or.inl ⟨rfl, Or.inr (Or.inl ⟨⟨by decide, (f16.resolve_right (fun q9 => by have := q9.1; omega)).2⟩, (show nn = 48 from by omega), rfl, rfl⟩)⟩), by omega, by omega, wr73⟩⟩, f72⟩ dX3_readSamples_48
          · have c7 := gi_eq c9
            refine lv_aload_n hx hb dX3_readSamples_31 rfl (lv_at hl 1 rfl) ?_
            refine lv_iconst (v := 1) hx hb dX3_readSamples_32 (by decide) ?_
            have cz74 : zI s14 this 5 = v7 := ev7
            have hTo := hT
            refine tVi (n := 1) (As := [.int 1]) (rest := []) hx hb hml hown hg hT hK hX (X3s_isWrong l κ s14 this 1  (hT.k t_this (by decide)) (h0.tr (funext fun k => by rw [erB]; exact hT.eI trB (by decide) rfl rfl) (hT.eI t_this (by decide) rfl rfl))) sub_fW23_fRs (mwV k779 k781 k23 k85 k782) ⟨rfl, by decide, by decide, by decide +kernel⟩ ⟨(Nat.le_of_ble_eq_true rfl), (Nat.le_of_ble_eq_true rfl)⟩ (hT.o6 (hT.k t_this (by decide))) rfl rfl hl.1 rfl (Nat.le_of_ble_eq_true rfl) dX3_readSamples_33 zroom.rf (fun x75 s76 H locs hφ hEs76 hT => ?_)
            have ev4 : zI s76 into 2 = v4 := ((hTo.k t_into (by decide)).eI hEs76 (by decide) rfl).trans ev4
            have ev6 : zI s76 this 4 = v6 := ((hTo.k t_this (by decide)).eI hEs76 (by decide) rfl).trans ev6
            have ev7 : zI s76 this 5 = v7 := ((hTo.k t_this (by decide)).eI hEs76 (by decide) rfl).trans ev7
            have ev9 : zI s76 this 6 = v9 := ((hTo.k t_this (by decide)).eI hEs76 (by decide) rfl).trans ev9
            have ev11 : zI s76 this 7 = v11 := ((hTo.k t_this (by decide)).eI hEs76 (by decide) rfl).trans ev11
            have Y77 : (nn = 0 ∧ vv = -1) ∨ (0 < nn ∧ (zI s76 rP (nn - 1)).toInt = vv) := by first | (rw [show zI s76 rP = zI s14 rP from funext fun k => (hTo.k trP (by decide)).eI hEs76 (by decide) rfl]; exact Y15) | rw [show zI s76 rP = zI s14 rP from funext fun k => (hTo.k trP (by decide)).eI hEs76 (by decide) rfl]
            obtain ⟨f78, f79, f80, f81⟩ := hφ
            have wr82 : (zI s76 this 3).toInt = ss := by rw [f80, cz74]; omega
            subst hQ9
            exact t_z hx hb hr f81 hlocks hT ⟨⟨(true, ss, nn, vv, gg), y2, Or.inr ⟨by omega, 1, (ss : Nat), Or.inr (Or.inl ⟨rfl, Or.inl ⟨fun q9 => by have q8 : utkK tc Ln ss = 0 := q9.1; have q7 : 2 ≤ nn := q9.2; omega, fun q9 => (f16.resolve_left (fun q9 => by have := q9.1; omega)).2 q9.2, rfl, rfl⟩⟩), by omega, by omega, wr82⟩⟩, f81⟩ dX3_readSamples_36
        · have c8 := gi_eq c9
          refine lv_iload_n hx hb dX3_readSamples_15 rfl (lv_at hl 0 rfl) ?_
          refine lv_iconst (v := 2) hx hb dX3_readSamples_16 (by decide) ?_
          refine lv_icmp_lt (tgt := 22) hx hb dX3_readSamples_17 (by decide) (fun c9 => ?_) (fun c9 => ?_)
          · have c9 := gi_lt c9
            refine lv_aload_n hx hb dX3_readSamples_22 rfl (lv_at hl 1 rfl) ?_
            refine va_ldcS hx hb hown (hX.2.2.1 12 (by decide)) dX3_readSamples_23 ?_
            have hTo := hT
            refine tVi (n := 1) (As := [.ref (kK κ 12)]) (rest := []) hx hb hml hown hg hT hK hX (X3s_isWord l κ s1 this 12  (hT.k t_this (by decide)) (by decide) (h0.tr (funext fun k => by rw [erB]; exact hT.eI trB (by decide) rfl rfl) (hT.eI t_this (by decide) rfl rfl)) (show TKc s1 this tc Ln ss from by unfold TKc; rw [(show zI s1 this 4 = v6 from ev6), (show zI s1 this 5 = v7 from ev7), (show zI s1 this 6 = v9 from ev9), (show zI s1 this 7 = v11 from ev11)]; exact tk12)) sub_fE_fRs (mwV k724 k726 k22 k85 k727) ⟨rfl, by decide, by decide, by decide +kernel⟩ ⟨(Nat.le_of_ble_eq_true rfl), (Nat.le_of_ble_eq_true rfl)⟩ (hT.o6 (hT.k t_this (by decide))) rfl rfl hl.1 rfl (Nat.le_of_ble_eq_true rfl) dX3_readSamples_25 zroom.rf (fun x83 s84 H locs hφ hEs84 hT => ?_)
            have ev2 : zI s84 this 2 = v2 := ((hTo.k t_this (by decide)).eI hEs84 (by decide) rfl).trans ev2
            have ev3 : zI s84 this 3 = v3 := ((hTo.k t_this (by decide)).eI hEs84 (by decide) rfl).trans ev3
            have ev4 : zI s84 into 2 = v4 := ((hTo.k t_into (by decide)).eI hEs84 (by decide) rfl).trans ev4
            have ev6 : zI s84 this 4 = v6 := ((hTo.k t_this (by decide)).eI hEs84 (by decide) rfl).trans ev6
            have ev7 : zI s84 this 5 = v7 := ((hTo.k t_this (by decide)).eI hEs84 (by decide) rfl).trans ev7
            have ev9 : zI s84 this 6 = v9 := ((hTo.k t_this (by decide)).eI hEs84 (by decide) rfl).trans ev9
            have ev11 : zI s84 this 7 = v11 := ((hTo.k t_this (by decide)).eI hEs84 (by decide) rfl).trans ev11
            have Y85 : (nn = 0 ∧ vv = -1) ∨ (0 < nn ∧ (zI s84 rP (nn - 1)).toInt = vv) := by first | (rw [show zI s84 rP = zI s1 rP from funext fun k => (hTo.k trP (by decide)).eI hEs84 (by decide) rfl]; exact y5) | rw [show zI s84 rP = zI s1 rP from funext fun k => (hTo.k trP (by decide)).eI hEs84 (by decide) rfl]
            obtain ⟨f86, f87⟩ := hφ
            refine lv_if_ne (tgt := 37) hx hb dX3_readSamples_28 (by decide) (fun c9 => ?_) (fun c9 => ?_)
            · have c10 := gi_ne c9
              refine lv_iload_n hx hb dX3_readSamples_37 rfl (lv_at hl 0 rfl) ?_
              refine lv_bipush (v := 48) hx hb dX3_readSamples_38 (by decide) ?_
              refine lv_icmp_ne (tgt := 49) hx hb dX3_readSamples_40 (by decide) (fun c9 => ?_) (fun c9 => ?_)
              · have c11 := gi_ne c9
                refine lv_aload_n hx hb dX3_readSamples_49 rfl (lv_at hl 1 rfl) ?_
                have hTo := hT
                refine tVi (n := 0) (As := []) (rest := []) hx hb hml hown hg hT hK hX (X3s_pass l κ s84 this  (hT.k t_this (by decide)) (h0.tr (funext fun k => by rw [erB]; exact hT.eI trB (by decide) rfl rfl) (hT.eI t_this (by decide) rfl rfl)) (show (zI s84 this 6).toInt = (utkE tc Ln ss : Nat) from by rw [(show zI s84 this 6 = v9 from ev9)]; omega) (utkE_le tk128)) sub_fP_fRs (mwV k697 k699 k17 k85 k700) ⟨rfl, by decide, by decide, by decide +kernel⟩ ⟨(Nat.le_of_ble_eq_true rfl), (Nat.le_of_ble_eq_true rfl)⟩ (hT.o6 (hT.k t_this (by decide))) rfl rfl hl.1 rfl (Nat.le_of_ble_eq_true rfl) dX3_readSamples_50 zroom.rf (fun x88 s89 H locs hφ hEs89 hT => ?_)
                have ev2 : zI s89 this 2 = v2 := ((hTo.k t_this (by decide)).eI hEs89 (by decide) rfl).trans ev2
                have ev3 : zI s89 this 3 = v3 := ((hTo.k t_this (by decide)).eI hEs89 (by decide) rfl).trans ev3
                have ev4 : zI s89 into 2 = v4 := ((hTo.k t_into (by decide)).eI hEs89 (by decide) rfl).trans ev4
                have Y90 : (nn = 0 ∧ vv = -1) ∨ (0 < nn ∧ (zI s89 rP (nn - 1)).toInt = vv) := by first | (rw [show zI s89 rP = zI s84 rP from funext fun k => (hTo.k trP (by decide)).eI hEs89 (by decide) rfl]; exact Y85) | rw [show zI s89 rP = zI s84 rP from funext fun k => (hTo.k trP (by decide)).eI hEs89 (by decide) rfl]
                obtain ⟨f91, f92, f93⟩ := hφ
                obtain ⟨v94, ev94⟩ : ∃ zz9 : Int32, zI s89 this 4 = zz9 := ⟨_, rfl⟩
                have qv94 : v94.toInt = (zI s89 this 4).toInt := by rw [ev94]
                obtain ⟨v95, ev95⟩ : ∃ zz9 : Int32, zI s89 this 5 = zz9 := ⟨_, rfl⟩
                have qv95 : v95.toInt = (zI s89 this 5).toInt := by rw [ev95]
                have b96 := (hT.P (hT.k t_this (by decide)) (by decide)).2.1
                rw [ev95] at b96
                have b96l := b96.1
                have b96h := b96.2
                obtain ⟨v97, ev97⟩ : ∃ zz9 : Int32, zI s89 this 6 = zz9 := ⟨_, rfl⟩
                have qv97 : v97.toInt = (zI s89 this 6).toInt := by rw [ev97]
                have b98 := (hT.P (hT.k t_this (by decide)) (by decide)).2.2
                rw [ev97] at b98
                have b98l := b98.1
                have b98h := b98.2
                obtain ⟨v99, ev99⟩ : ∃ zz9 : Int32, zI s89 this 7 = zz9 := ⟨_, rfl⟩
                have qv99 : v99.toInt = (zI s89 this 7).toInt := by rw [ev99]
                have tk100 : TKv v94 v95 v97 v99 tc Ln (unxt tc Ln ss) := by have z9 := f92; unfold TKc at z9; rw [(show zI s89 this 4 = v94 from ev94), (show zI s89 this 5 = v95 from ev95), (show zI s89 this 6 = v97 from ev97), (show zI s89 this 7 = v99 from ev99)] at z9; exact z9
                obtain ⟨tk1004, tk1005, tk1006, tk1007, tk1008⟩ := id tk100
                refine lv_pop hx hb dX3_readSamples_53 rfl ?_
                refine lv_aload_n hx hb dX3_readSamples_54 rfl (lv_at hl 1 rfl) ?_
                refine lv_aload_n hx hb dX3_readSamples_55 rfl (lv_at hl 2 rfl) ?_
                have cz101 : zI s89 this 2 = v2 := ev2
                have cz102 : zI s89 this 3 = v3 := ev3
                have hTo := hT
                refine tVi (n := 1) (As := [.ref into]) (rest := []) hx hb hml hown hg hT hK hX (X3s_readSample l κ s89 this into  (hT.k t_this (by decide)) (hT.k t_into (by decide)) (h0.tr (funext fun k => by rw [erB]; exact hT.eI trB (by decide) rfl rfl) (hT.eI t_this (by decide) rfl rfl)) (show TKc s89 this tc Ln (unxt tc Ln ss) from by unfold TKc; rw [(show zI s89 this 4 = v94 from ev94), (show zI s89 this 5 = v95 from ev95), (show zI s89 this 6 = v97 from ev97), (show zI s89 this 7 = v99 from ev99)]; exact tk100) (show (zI s89 into 2).toInt = (nn : Nat) from by rw [(show zI s89 into 2 = v4 from ev4)]; omega) (by omega) (show (nn = 0 ∧ vv = -1) ∨ (0 < nn ∧ (zI s89 (kR κ into 0) (nn - 1)).toInt = vv) from by rw [erP]; exact Y90)) (fun _ _ h => h) (mwV k808 k810 k28 k85 k811) ⟨rfl, by decide, by decide, by decide +kernel⟩ ⟨(Nat.le_of_ble_eq_true rfl), (Nat.le_of_ble_eq_true rfl)⟩ (hT.o6 (hT.k t_this (by decide))) rfl rfl hl.1 rfl (Nat.le_of_ble_eq_true rfl) dX3_readSamples_56 zroom.rf (fun x103 s104 H locs hφ hEs104 hT => ?_)
                obtain ⟨f105, f106⟩ := hφ
                rcases f105 with ⟨a1, a2, a3, a9, a4, a5, a6, a7, a8, a10, a11, a12, a13⟩ | ⟨a1, co, po, a2, a3, a4⟩
                · skip
                  obtain ⟨v107, ev107⟩ : ∃ zz9 : Int32, zI s104 this 2 = zz9 := ⟨_, rfl⟩
                  have qv107 : v107.toInt = (zI s104 this 2).toInt := by rw [ev107]
                  have zthis2 : zI σ0 this 2 = v107 := zthis2.trans (cz101.symm.trans (a7.symm.trans ev107))
                  obtain ⟨v108, ev108⟩ : ∃ zz9 : Int32, zI s104 this 3 = zz9 := ⟨_, rfl⟩
                  have qv108 : v108.toInt = (zI s104 this 3).toInt := by rw [ev108]
                  have zthis3 : zI σ0 this 3 = v108 := zthis3.trans (cz102.symm.trans (a8.symm.trans ev108))
                  obtain ⟨v109, ev109⟩ : ∃ zz9 : Int32, zI s104 into 2 = zz9 := ⟨_, rfl⟩
                  have qv109 : v109.toInt = (zI s104 into 2).toInt := by rw [ev109]
                  have b110 := (hT.P (hT.k t_into (by decide)) (by decide)).1
                  rw [ev109] at b110
                  have b110l := b110.1
                  have b110h := b110.2
                  rw [(show zI s104 into 2 = v109 from ev109)] at a5
                  obtain ⟨v111, ev111⟩ : ∃ zz9 : Int32, zI s104 this 4 = zz9 := ⟨_, rfl⟩
                  have qv111 : v111.toInt = (zI s104 this 4).toInt := by rw [ev111]
                  obtain ⟨v112, ev112⟩ : ∃ zz9 : Int32, zI s104 this 5 = zz9 := ⟨_, rfl⟩
                  have qv112 : v112.toInt = (zI s104 this 5).toInt := by rw [ev112]
                  have b113 := (hT.P (hT.k t_this (by decide)) (by decide)).2.1
                  rw [ev112] at b113
                  have b113l := b113.1
                  have b113h := b113.2
                  obtain ⟨v114, ev114⟩ : ∃ zz9 : Int32, zI s104 this 6 = zz9 := ⟨_, rfl⟩
                  have qv114 : v114.toInt = (zI s104 this 6).toInt := by rw [ev114]
                  have b115 := (hT.P (hT.k t_this (by decide)) (by decide)).2.2
                  rw [ev114] at b115
                  have b115l := b115.1
                  have b115h := b115.2
                  obtain ⟨v116, ev116⟩ : ∃ zz9 : Int32, zI s104 this 7 = zz9 := ⟨_, rfl⟩
                  have qv116 : v116.toInt = (zI s104 this 7).toInt := by rw [ev116]
                  have tk117 : TKv v111 v112 v114 v116 tc Ln (unxt tc Ln (svq (utkK tc Ln) (unxt tc Ln) (unxt tc Ln ss))) := by have z9 := a4; unfold TKc at z9; rw [(show zI s104 this 4 = v111 from ev111), (show zI s104 this 5 = v112 from ev112), (show zI s104 this 6 = v114 from ev114), (show zI s104 this 7 = v116 from ev116)] at z9; exact z9
                  obtain ⟨tk1174, tk1175, tk1176, tk1177, tk1178⟩ := id tk117
                  rw [erP] at a6
                  refine lv_if_eq (tgt := 69) hx hb dX3_readSamples_59 (by decide) (fun c9 => absurd (gi_eq c9) (by omega)) (fun _ => ?_)
                  refine lv_aload_n hx hb dX3_readSamples_62 rfl (lv_at hl 1 rfl) ?_
                  have cz118 : zI s104 this 2 = v107 := ev107
                  have cz119 : zI s104 this 3 = v108 := ev108
                  have hTo := hT
                  refine tVi (n := 0) (As := []) (rest := []) hx hb hml hown hg hT hK hX (X3s_passSemicolon l κ s104 this  (hT.k t_this (by decide)) (h0.tr (funext fun k => by rw [erB]; exact hT.eI trB (by decide) rfl rfl) (hT.eI t_this (by decide) rfl rfl)) (show TKc s104 this tc Ln (unxt tc Ln (svq (utkK tc Ln) (unxt tc Ln) (unxt tc Ln ss))) from by unfold TKc; rw [(show zI s104 this 4 = v111 from ev111), (show zI s104 this 5 = v112 from ev112), (show zI s104 this 6 = v114 from ev114), (show zI s104 this 7 = v116 from ev116)]; exact tk117)) sub_fPe_fRs (mwV k799 k801 k26 k85 k802) ⟨rfl, by decide, by decide, by decide +kernel⟩ ⟨(Nat.le_of_ble_eq_true rfl), (Nat.le_of_ble_eq_true rfl)⟩ (hT.o6 (hT.k t_this (by decide))) rfl rfl hl.1 rfl (Nat.le_of_ble_eq_true rfl) dX3_readSamples_63 zroom.rf (fun x120 s121 H locs hφ hEs121 hT => ?_)
                  have ev109 : zI s121 into 2 = v109 := ((hTo.k t_into (by decide)).eI hEs121 (by decide) rfl).trans ev109
                  have Y122 : (zI s121 rP nn).toInt = uvl tc Ln (unxt tc Ln ss) := by first | (rw [show zI s121 rP = zI s104 rP from funext fun k => (hTo.k trP (by decide)).eI hEs121 (by decide) rfl]; exact a6) | rw [show zI s121 rP = zI s104 rP from funext fun k => (hTo.k trP (by decide)).eI hEs121 (by decide) rfl]
                  obtain ⟨f123, f124⟩ := hφ
                  rcases f123 with ⟨b1, b2, b3, b4, b5⟩ | ⟨b1, b2, b3, b4⟩
                  · skip
                    obtain ⟨v125, ev125⟩ : ∃ zz9 : Int32, zI s121 this 2 = zz9 := ⟨_, rfl⟩
                    have qv125 : v125.toInt = (zI s121 this 2).toInt := by rw [ev125]
                    have zthis2 : zI σ0 this 2 = v125 := zthis2.trans (cz118.symm.trans (b4.symm.trans ev125))
                    obtain ⟨v126, ev126⟩ : ∃ zz9 : Int32, zI s121 this 3 = zz9 := ⟨_, rfl⟩
                    have qv126 : v126.toInt = (zI s121 this 3).toInt := by rw [ev126]
                    have zthis3 : zI σ0 this 3 = v126 := zthis3.trans (cz119.symm.trans (b5.symm.trans ev126))
                    obtain ⟨v127, ev127⟩ : ∃ zz9 : Int32, zI s121 this 4 = zz9 := ⟨_, rfl⟩
                    have qv127 : v127.toInt = (zI s121 this 4).toInt := by rw [ev127]
                    obtain ⟨v128, ev128⟩ : ∃ zz9 : Int32, zI s121 this 5 = zz9 := ⟨_, rfl⟩
                    have qv128 : v128.toInt = (zI s121 this 5).toInt := by rw [ev128]
                    have b129 := (hT.P (hT.k t_this (by decide)) (by decide)).2.1
                    rw [ev128] at b129
                    have b129l := b129.1
                    have b129h := b129.2
                    obtain ⟨v130, ev130⟩ : ∃ zz9 : Int32, zI s121 this 6 = zz9 := ⟨_, rfl⟩
                    have qv130 : v130.toInt = (zI s121 this 6).toInt := by rw [ev130]
                    have b131 := (hT.P (hT.k t_this (by decide)) (by decide)).2.2
                    rw [ev130] at b131
                    have b131l := b131.1
                    have b131h := b131.2
                    obtain ⟨v132, ev132⟩ : ∃ zz9 : Int32, zI s121 this 7 = zz9 := ⟨_, rfl⟩
                    have qv132 : v132.toInt = (zI s121 this 7).toInt := by rw [ev132]
                    have tk133 : TKv v127 v128 v130 v132 tc Ln (unxt tc Ln (unxt tc Ln (svq (utkK tc Ln) (unxt tc Ln) (unxt tc Ln ss)))) := by have z9 := b3; unfold TKc at z9; rw [(show zI s121 this 4 = v127 from ev127), (show zI s121 this 5 = v128 from ev128), (show zI s121 this 6 = v130 from ev130), (show zI s121 this 7 = v132 from ev132)] at z9; exact z9
                    obtain ⟨tk1334, tk1335, tk1336, tk1337, tk1338⟩ := id tk133
                    refine lv_if_ne (tgt := 71) hx hb dX3_readSamples_66 (by decide) (fun _ => ?_) (fun c9 => absurd (gi_eq c9) (by omega))
                    obtain ⟨t134, qt134⟩ : ∃ zz9 : Int32, j + Int32.ofInt 1 = zz9 := ⟨_, rfl⟩
                    refine lv_iinc (v := t134) (lv' := [(2, .int t134), (0, .ref this), (1, .ref into)]) hx hb dX3_readSamples_71 hl (k := 0) rfl qt134 (by decide) rfl (fun ls hl => ?_)
                    have ht134 : t134.toInt = j.toInt + 1 := by rw [← qt134]; exact v_addi rfl (show (Int32.ofInt 1).toInt = 1 from by decide) (by omega) (by omega)
                    refine lv_goto (tgt := 2) hx hb dX3_readSamples_74 (by decide) ?_
                    exact ih2 t134 _ _ _ _ hT  (by omega) (by omega) ⟨unxt tc Ln (unxt tc Ln (svq (utkK tc Ln) (unxt tc Ln) (unxt tc Ln ss))), nn + 1, uvl tc Ln (unxt tc Ln ss), (show TKc s121 this tc Ln (unxt tc Ln (unxt tc Ln (svq (utkK tc Ln) (unxt tc Ln) (unxt tc Ln ss)))) from by unfold TKc; rw [(show zI s121 this 4 = v127 from ev127), (show zI s121 this 5 = v128 from ev128), (show zI s121 this 6 = v130 from ev130), (show zI s121 this 7 = v132 from ev132)]; exact tk133), urt_tl y2 (Or.inr ⟨rfl, _, _, _, ⟨⟨by decide, (f86.resolve_right (fun q9 => by have := q9.1; omega)).2⟩, (show nn ≠ 48 from by omega), a2, a3, a9, b2, rfl, rfl, rfl⟩, rfl⟩), by omega, by rw [(show zI s121 into 2 = v109 from ev109)]; omega, Or.inr ⟨by omega, Y122⟩, by omega, ((show zI s121 this 2 = v125 from ev125).trans zthis2.symm), ((show zI s121 this 3 = v126 from ev126).trans zthis3.symm), hT.eI t_into (by decide) rfl rfl, hT.eI t_into (by decide) rfl rfl, hT.eI t_into (by decide) rfl rfl, hT.eI t_into (by decide) rfl rfl⟩ hl (by omega)
                  · skip
                    refine lv_if_ne (tgt := 71) hx hb dX3_readSamples_66 (by decide) (fun c9 => absurd (gi_ne c9) (by omega)) (fun _ => ?_)
                    refine lv_iconst (v := 0) hx hb dX3_readSamples_69 (by decide) ?_
                    subst hQ9
                    exact t_z hx hb hr isB0 hlocks hT ⟨⟨(true, ss, nn, vv, gg), y2, Or.inr ⟨by omega, 1, (unxt tc Ln (svq (utkK tc Ln) (unxt tc Ln) (unxt tc Ln ss)) : Nat), Or.inr (Or.inl ⟨rfl, Or.inr (Or.inr ⟨⟨by decide, (f86.resolve_right (fun q9 => by have := q9.1; omega)).2⟩, (show nn ≠ 48 from by omega), Or.inr (Or.inr ⟨a2, a3, Or.inr ⟨a9, b2, rfl, rfl⟩⟩)⟩)⟩), by omega, by omega, b4⟩⟩, isB0⟩ dX3_readSamples_70
                · skip
                  refine lv_if_eq (tgt := 69) hx hb dX3_readSamples_59 (by decide) (fun _ => ?_) (fun c9 => absurd (gi_ne c9) (by omega))
                  refine lv_iconst (v := 0) hx hb dX3_readSamples_69 (by decide) ?_
                  subst hQ9
                  exact t_z hx hb hr isB0 hlocks hT ⟨⟨(true, ss, nn, vv, gg), y2, Or.inr ⟨by omega, co, po, by refine Or.inr (Or.inl ⟨rfl, Or.inr (Or.inr ⟨⟨by decide, (f86.resolve_right (fun q9 => by have := q9.1; omega)).2⟩, (show nn ≠ 48 from by omega), ?_⟩)⟩); rw [svl_q]; rcases a2 with ⟨q1, q2, q3⟩ | ⟨q1, q2, q3, q4⟩ | ⟨q1, q2, q3, q4, q5⟩; exact Or.inl ⟨q1, q2, q3⟩; exact Or.inr (Or.inl ⟨q1, q2, q3, q4⟩); exact Or.inr (Or.inr ⟨q1, q2, Or.inl ⟨q3, q4, q5⟩⟩), by rcases a2 with ⟨_, q2, _⟩ | ⟨_, _, q2, _⟩ | ⟨_, _, _, q2, _⟩ <;> omega, a3, a4⟩⟩, isB0⟩ dX3_readSamples_70
              · have c12 := gi_eq c9
                refine lv_aload_n hx hb dX3_readSamples_43 rfl (lv_at hl 1 rfl) ?_
                refine lv_iconst (v := 4) hx hb dX3_readSamples_44 (by decide) ?_
                have cz135 : zI s84 this 5 = v7 := ev7
                have hTo := hT
                refine tVi (n := 1) (As := [.int 4]) (rest := []) hx hb hml hown hg hT hK hX (X3s_isWrong l κ s84 this 4  (hT.k t_this (by decide)) (h0.tr (funext fun k => by rw [erB]; exact hT.eI trB (by decide) rfl rfl) (hT.eI t_this (by decide) rfl rfl))) sub_fW23_fRs (mwV k779 k781 k23 k85 k782) ⟨rfl, by decide, by decide, by decide +kernel⟩ ⟨(Nat.le_of_ble_eq_true rfl), (Nat.le_of_ble_eq_true rfl)⟩ (hT.o6 (hT.k t_this (by decide))) rfl rfl hl.1 rfl (Nat.le_of_ble_eq_true rfl) dX3_readSamples_45 zroom.rf (fun x136 s137 H locs hφ hEs137 hT => ?_)
                have ev4 : zI s137 into 2 = v4 := ((hTo.k t_into (by decide)).eI hEs137 (by decide) rfl).trans ev4
                have ev6 : zI s137 this 4 = v6 := ((hTo.k t_this (by decide)).eI hEs137 (by decide) rfl).trans ev6
                have ev7 : zI s137 this 5 = v7 := ((hTo.k t_this (by decide)).eI hEs137 (by decide) rfl).trans ev7
                have ev9 : zI s137 this 6 = v9 := ((hTo.k t_this (by decide)).eI hEs137 (by decide) rfl).trans ev9
                have ev11 : zI s137 this 7 = v11 := ((hTo.k t_this (by decide)).eI hEs137 (by decide) rfl).trans ev11
                have Y138 : (nn = 0 ∧ vv = -1) ∨ (0 < nn ∧ (zI s137 rP (nn - 1)).toInt = vv) := by first | (rw [show zI s137 rP = zI s84 rP from funext fun k => (hTo.k trP (by decide)).eI hEs137 (by decide) rfl]; exact Y85) | rw [show zI s137 rP = zI s84 rP from funext fun k => (hTo.k trP (by decide)).eI hEs137 (by decide) rfl]
                obtain ⟨f139, f140, f141, f142⟩ := hφ
                have wr143 : (zI s137 this 3).toInt = ss := by rw [f141, cz135]; omega
                subst hQ9
                exact t_z hx hb hr f142 hlocks hT ⟨⟨(true, ss, nn, vv, gg), y2, Or.inr ⟨by omega, 4, (ss : Nat), Or.inr (Or.inl ⟨rfl, Or.inr (Or.inl ⟨⟨by decide, (f86.resolve_right (fun q9 => by have := q9.1; omega)).2⟩, (show nn = 48 from by omega), rfl, rfl⟩)⟩), by omega, by omega, wr143⟩⟩, f142⟩ dX3_readSamples_48
            · have c13 := gi_eq c9
              refine lv_aload_n hx hb dX3_readSamples_31 rfl (lv_at hl 1 rfl) ?_
              refine lv_iconst (v := 1) hx hb dX3_readSamples_32 (by decide) ?_
              have cz144 : zI s84 this 5 = v7 := ev7
              have hTo := hT
              refine tVi (n := 1) (As := [.int 1]) (rest := []) hx hb hml hown hg hT hK hX (X3s_isWrong l κ s84 this 1  (hT.k t_this (by decide)) (h0.tr (funext fun k => by rw [erB]; exact hT.eI trB (by decide) rfl rfl) (hT.eI t_this (by decide) rfl rfl))) sub_fW23_fRs (mwV k779 k781 k23 k85 k782) ⟨rfl, by decide, by decide, by decide +kernel⟩ ⟨(Nat.le_of_ble_eq_true rfl), (Nat.le_of_ble_eq_true rfl)⟩ (hT.o6 (hT.k t_this (by decide))) rfl rfl hl.1 rfl (Nat.le_of_ble_eq_true rfl) dX3_readSamples_33 zroom.rf (fun x145 s146 H locs hφ hEs146 hT => ?_)
              have ev4 : zI s146 into 2 = v4 := ((hTo.k t_into (by decide)).eI hEs146 (by decide) rfl).trans ev4
              have ev6 : zI s146 this 4 = v6 := ((hTo.k t_this (by decide)).eI hEs146 (by decide) rfl).trans ev6
              have ev7 : zI s146 this 5 = v7 := ((hTo.k t_this (by decide)).eI hEs146 (by decide) rfl).trans ev7
              have ev9 : zI s146 this 6 = v9 := ((hTo.k t_this (by decide)).eI hEs146 (by decide) rfl).trans ev9
              have ev11 : zI s146 this 7 = v11 := ((hTo.k t_this (by decide)).eI hEs146 (by decide) rfl).trans ev11
              have Y147 : (nn = 0 ∧ vv = -1) ∨ (0 < nn ∧ (zI s146 rP (nn - 1)).toInt = vv) := by first | (rw [show zI s146 rP = zI s84 rP from funext fun k => (hTo.k trP (by decide)).eI hEs146 (by decide) rfl]; exact Y85) | rw [show zI s146 rP = zI s84 rP from funext fun k => (hTo.k trP (by decide)).eI hEs146 (by decide) rfl]
              obtain ⟨f148, f149, f150, f151⟩ := hφ
              have wr152 : (zI s146 this 3).toInt = ss := by rw [f150, cz144]; omega
              subst hQ9
              exact t_z hx hb hr f151 hlocks hT ⟨⟨(true, ss, nn, vv, gg), y2, Or.inr ⟨by omega, 1, (ss : Nat), Or.inr (Or.inl ⟨rfl, Or.inl ⟨fun q9 => by have q8 : utkK tc Ln ss = 0 := q9.1; have q7 : 2 ≤ nn := q9.2; omega, fun q9 => (f86.resolve_left (fun q9 => by have := q9.1; omega)).2 q9.2, rfl, rfl⟩⟩), by omega, by omega, wr152⟩⟩, f151⟩ dX3_readSamples_36
          · have c14 := gi_nlt c9
            refine lv_iconst (v := 1) hx hb dX3_readSamples_20 (by decide) ?_
            subst hQ9
            exact t_z hx hb hr isB1 hlocks hT ⟨⟨(true, ss, nn, vv, gg), y2, Or.inl ⟨n1, ss, nn, vv, rfl, ⟨by omega, by omega⟩, by rw [(show zI s1 into 2 = v4 from ev4)]; omega, ((show zI s1 this 2 = v2 from ev2).trans zthis2.symm), ((show zI s1 this 3 = v3 from ev3).trans zthis3.symm), hT.eI t_into (by decide) rfl rfl, hT.eI t_into (by decide) rfl rfl, hT.eI t_into (by decide) rfl rfl, hT.eI t_into (by decide) rfl rfl⟩⟩, isB1⟩ dX3_readSamples_21
  exact loop2 ((49 - (0 : Int32).toInt).toNat + 1) 0 _ _ _ _ hT  (by omega) (by omega) ⟨sp, 0, -1, h1, urt_rf, n0, h2, Or.inl ⟨rfl, rfl⟩, by decide, rfl, rfl, rfl, rfl, rfl, rfl⟩ hl (by omega)
set_option maxHeartbeats 4000000 in
set_option maxRecDepth 100000 in
theorem X3s_readInto (l : Launch) (κ : Kt) (σ0 : Gh) (this : Nat) (into : Nat) {tc : Nat → Int} {Ln : Nat} (t_this : zk σ0 this 6) (t_into : zk σ0 into 5) (h0 : TXc κ σ0 this tc Ln) : TC l yX3_readInto cX3_readInto 2 (some .boolean) 7 153 [.ref this, .ref into] κ σ0 (tqi κ fRd σ0 (fun (r : Int32) (τ : Gh) => (∃ (x : uRd) (co po : Int), uRds tc Ln x co po ∧ ((r.toInt = 1 ∧ co = 0 ∧ (zI τ into 2).toInt = po ∧ 2 ≤ (zI τ into 2).toInt ∧ (zI τ this 2).toInt = 0 ∧ (zI τ this 3).toInt = -1 ∧ GSc τ into x.2.2.2.2) ∨ (r.toInt = 0 ∧ co ≠ 0 ∧ (zI τ this 2).toInt = co ∧ (zI τ this 3).toInt = po))) ∧ (isB r))) := by
  refine TC.of fRd (by decide +kernel) (Nat.le_of_ble_eq_true rfl) ?_
  intro p e s m below meth c ls hcs hK hX hT hl
  obtain ⟨hx, hb, hr, hml, hown, hg, hlocks, hin⟩ := hcs
  have hown : s.vm.findClass RX3 = some m.cls := hown
  have hl : lv_has ls 2 [(0, .ref this), (1, .ref into)] := hl
  have hT0 := hT
  have nm1 : ((-1) : Int32).toInt = (-1) := by decide
  have n0 : (0 : Int32).toInt = 0 := by decide
  have n1 : (1 : Int32).toInt = 1 := by decide
  generalize hQ9 : tQ _ _ _ _ _ _ = Q9
  obtain ⟨rB, erB⟩ : ∃ z, kR κ this 0 = z := ⟨_, rfl⟩
  have trB : zk σ0 rB 14 := by rw [← erB]; exact hT0.ref t_this (by decide) (by decide) (by decide)
  have hpc : ∀ j, tc j = (zI σ0 rB j).toInt := by rw [← erB]; exact h0.1
  have hLn : (zI σ0 this 1).toInt = Ln := h0.2
  have bL := (hT0.P t_this (by decide)).1.2
  have hL7 : (Ln : Int) ≤ 700 := by omega
  refine lv_aload_n hx hb dX3_readInto_0 rfl (lv_at hl 0 rfl) ?_
  refine lv_iconst (v := 0) hx hb dX3_readInto_1 (by decide) ?_
  have hTo := hT
  refine pf6_2 hx hb hg hown hK hT (hT.k t_this (by decide)) rfl (hg _ k122) dX3_readInto_2 (fun H locs s1 hus1 hT => ?_)
  have e2 : zI s1 this 2 = 0 := zput_at hus1
  refine lv_aload_n hx hb dX3_readInto_5 rfl (lv_at hl 0 rfl) ?_
  refine lv_iconst (v := (-1)) hx hb dX3_readInto_6 (by decide) ?_
  have hTo := hT
  refine pf6_3 hx hb hg hown hK hT (hT.k t_this (by decide)) rfl (hg _ k124) dX3_readInto_7 (fun H locs s3 hus3 hT => ?_)
  have e2 : zI s3 this 2 = 0 := (zput_o hus3 (Or.inr (by decide))).trans e2
  have e4 : zI s3 this 3 = (-1) := zput_at hus3
  refine lv_aload_n hx hb dX3_readInto_10 rfl (lv_at hl 0 rfl) ?_
  refine lv_iconst (v := 0) hx hb dX3_readInto_11 (by decide) ?_
  have hTo := hT
  refine pf6_6 hx hb hg hown hK hT (hT.k t_this (by decide)) rfl ⟨by omega, by omega⟩ (hg _ k128) dX3_readInto_12 (fun H locs s5 hus5 hT => ?_)
  have e2 : zI s5 this 2 = 0 := (zput_o hus5 (Or.inr (by decide))).trans e2
  have e4 : zI s5 this 3 = (-1) := (zput_o hus5 (Or.inr (by decide))).trans e4
  have e6 : zI s5 this 6 = 0 := zput_at hus5
  refine lv_aload_n hx hb dX3_readInto_15 rfl (lv_at hl 1 rfl) ?_
  have hTo := hT
  refine tVv (n := 0) (As := []) (rest := []) hx hb hml hown hg hT hK hX (X0s_clear l κ s5 into  (hT.k t_into (by decide)) ) sub_fCl_fRd (mwV k693 k694 k695 k86 k696) ⟨rfl, by decide, by decide, by decide +kernel⟩ ⟨(Nat.le_of_ble_eq_true rfl), (Nat.le_of_ble_eq_true rfl)⟩ (hT.o5 (hT.k t_into (by decide))) rfl rfl hl.1 rfl (Nat.le_of_ble_eq_true rfl) dX3_readInto_16 zroom.rf (fun s8 H locs hφ hEs8 hT => ?_)
  have e2 : zI s8 this 2 = 0 := ((hTo.k t_this (by decide)).eI hEs8 (by decide) rfl).trans e2
  have e4 : zI s8 this 3 = (-1) := ((hTo.k t_this (by decide)).eI hEs8 (by decide) rfl).trans e4
  have e6 : zI s8 this 6 = 0 := ((hTo.k t_this (by decide)).eI hEs8 (by decide) rfl).trans e6
  obtain ⟨f9, f10⟩ := hφ
  obtain ⟨v11, ev11⟩ : ∃ zz9 : Int32, zI s8 into 3 = zz9 := ⟨_, rfl⟩
  have qv11 : v11.toInt = (zI s8 into 3).toInt := by rw [ev11]
  obtain ⟨v12, ev12⟩ : ∃ zz9 : Int32, zI s8 into 4 = zz9 := ⟨_, rfl⟩
  have qv12 : v12.toInt = (zI s8 into 4).toInt := by rw [ev12]
  obtain ⟨v13, ev13⟩ : ∃ zz9 : Int32, zI s8 into 5 = zz9 := ⟨_, rfl⟩
  have qv13 : v13.toInt = (zI s8 into 5).toInt := by rw [ev13]
  have b14 : isB v13 := by have q9 := (hT.P (hT.k t_into (by decide)) (by decide)).2; rw [ev13] at q9; exact q9
  obtain ⟨v15, ev15⟩ : ∃ zz9 : Int32, zI s8 into 6 = zz9 := ⟨_, rfl⟩
  have qv15 : v15.toInt = (zI s8 into 6).toInt := by rw [ev15]
  have gs16 : v11.toInt = ugs0 0 ∧ v12.toInt = ugs0 1 ∧ v13.toInt = ugs0 2 ∧ v15.toInt = ugs0 3 := by have z9 := f10; unfold GSc at z9; rw [(show zI s8 into 3 = v11 from ev11), (show zI s8 into 4 = v12 from ev12), (show zI s8 into 5 = v13 from ev13), (show zI s8 into 6 = v15 from ev15)] at z9; exact z9
  obtain ⟨v17, ev17⟩ : ∃ zz9 : Int32, zI s8 into 2 = zz9 := ⟨_, rfl⟩
  have qv17 : v17.toInt = (zI s8 into 2).toInt := by rw [ev17]
  have b18 := (hT.P (hT.k t_into (by decide)) (by decide)).1
  rw [ev17] at b18
  have b18l := b18.1
  have b18h := b18.2
  rw [(show zI s8 into 2 = v17 from ev17)] at f9
  refine lv_aload_n hx hb dX3_readInto_19 rfl (lv_at hl 0 rfl) ?_
  have hTo := hT
  refine tVi (n := 0) (As := []) (rest := []) hx hb hml hown hg hT hK hX (X3s_pass l κ s8 this  (hT.k t_this (by decide)) (h0.tr (funext fun k => by rw [erB]; exact hT.eI trB (by decide) rfl rfl) (hT.eI t_this (by decide) rfl rfl)) (show (zI s8 this 6).toInt = ((0 : Nat) : Int) from by rw [(show zI s8 this 6 = 0 from e6)]; exact n0) (by omega)) sub_fP_fRd (mwV k697 k699 k17 k85 k700) ⟨rfl, by decide, by decide, by decide +kernel⟩ ⟨(Nat.le_of_ble_eq_true rfl), (Nat.le_of_ble_eq_true rfl)⟩ (hT.o6 (hT.k t_this (by decide))) rfl rfl hl.1 rfl (Nat.le_of_ble_eq_true rfl) dX3_readInto_20 zroom.rf (fun x19 s20 H locs hφ hEs20 hT => ?_)
  have e2 : zI s20 this 2 = 0 := ((hTo.k t_this (by decide)).eI hEs20 (by decide) rfl).trans e2
  have e4 : zI s20 this 3 = (-1) := ((hTo.k t_this (by decide)).eI hEs20 (by decide) rfl).trans e4
  have ev11 : zI s20 into 3 = v11 := ((hTo.k t_into (by decide)).eI hEs20 (by decide) rfl).trans ev11
  have ev12 : zI s20 into 4 = v12 := ((hTo.k t_into (by decide)).eI hEs20 (by decide) rfl).trans ev12
  have ev13 : zI s20 into 5 = v13 := ((hTo.k t_into (by decide)).eI hEs20 (by decide) rfl).trans ev13
  have ev15 : zI s20 into 6 = v15 := ((hTo.k t_into (by decide)).eI hEs20 (by decide) rfl).trans ev15
  have ev17 : zI s20 into 2 = v17 := ((hTo.k t_into (by decide)).eI hEs20 (by decide) rfl).trans ev17
  obtain ⟨f21, f22, f23⟩ := hφ
  obtain ⟨v24, ev24⟩ : ∃ zz9 : Int32, zI s20 this 4 = zz9 := ⟨_, rfl⟩
  have qv24 : v24.toInt = (zI s20 this 4).toInt := by rw [ev24]
  obtain ⟨v25, ev25⟩ : ∃ zz9 : Int32, zI s20 this 5 = zz9 := ⟨_, rfl⟩
  have qv25 : v25.toInt = (zI s20 this 5).toInt := by rw [ev25]
  have b26 := (hT.P (hT.k t_this (by decide)) (by decide)).2.1
  rw [ev25] at b26
  have b26l := b26.1
  have b26h := b26.2
  obtain ⟨v27, ev27⟩ : ∃ zz9 : Int32, zI s20 this 6 = zz9 := ⟨_, rfl⟩
  have qv27 : v27.toInt = (zI s20 this 6).toInt := by rw [ev27]
  have b28 := (hT.P (hT.k t_this (by decide)) (by decide)).2.2
  rw [ev27] at b28
  have b28l := b28.1
  have b28h := b28.2
  obtain ⟨v29, ev29⟩ : ∃ zz9 : Int32, zI s20 this 7 = zz9 := ⟨_, rfl⟩
  have qv29 : v29.toInt = (zI s20 this 7).toInt := by rw [ev29]
  have tk30 : TKv v24 v25 v27 v29 tc Ln (uscn uisBl tc Ln 0) := by have z9 := f22; unfold TKc at z9; rw [(show zI s20 this 4 = v24 from ev24), (show zI s20 this 5 = v25 from ev25), (show zI s20 this 6 = v27 from ev27), (show zI s20 this 7 = v29 from ev29)] at z9; exact z9
  obtain ⟨tk304, tk305, tk306, tk307, tk308⟩ := id tk30
  refine lv_pop hx hb dX3_readInto_23 rfl ?_
  refine lv_aload_n hx hb dX3_readInto_24 rfl (lv_at hl 0 rfl) ?_
  refine lv_aload_n hx hb dX3_readInto_25 rfl (lv_at hl 1 rfl) ?_
  have cz31 : zI s20 this 2 = 0 := e2
  have cz32 : zI s20 this 3 = (-1) := e4
  have hTo := hT
  refine tVi (n := 1) (As := [.ref into]) (rest := []) hx hb hml hown hg hT hK hX (X3s_readSettings l κ s20 this into  (hT.k t_this (by decide)) (hT.k t_into (by decide)) (h0.tr (funext fun k => by rw [erB]; exact hT.eI trB (by decide) rfl rfl) (hT.eI t_this (by decide) rfl rfl)) (show TKc s20 this tc Ln (uscn uisBl tc Ln 0) from by unfold TKc; rw [(show zI s20 this 4 = v24 from ev24), (show zI s20 this 5 = v25 from ev25), (show zI s20 this 6 = v27 from ev27), (show zI s20 this 7 = v29 from ev29)]; exact tk30) (show GSc s20 into ugs0 from ⟨by rw [(show zI s20 into 3 = v11 from ev11)]; exact gs16.1, by rw [(show zI s20 into 4 = v12 from ev12)]; exact gs16.2.1, by rw [(show zI s20 into 5 = v13 from ev13)]; exact gs16.2.2.1, by rw [(show zI s20 into 6 = v15 from ev15)]; exact gs16.2.2.2⟩)) sub_fPs_fRd (mwV k715 k717 k20 k85 k718) ⟨rfl, by decide, by decide, by decide +kernel⟩ ⟨(Nat.le_of_ble_eq_true rfl), (Nat.le_of_ble_eq_true rfl)⟩ (hT.o6 (hT.k t_this (by decide))) rfl rfl hl.1 rfl (Nat.le_of_ble_eq_true rfl) dX3_readInto_26 zroom.rf (fun x33 s34 H locs hφ hEs34 hT => ?_)
  have ev17 : zI s34 into 2 = v17 := ((hTo.k t_into (by decide)).eI hEs34 (by decide) rfl).trans ev17
  obtain ⟨f35, f36⟩ := hφ
  obtain ⟨x9, hx9, f35⟩ := f35
  rcases f35 with ⟨a1, s9, g9, ex9, a2, a3, a4, a5⟩ | ⟨a1, co, po, a2, a3, a4, a5⟩
  · skip
    obtain ⟨v37, ev37⟩ : ∃ zz9 : Int32, zI s34 this 2 = zz9 := ⟨_, rfl⟩
    have qv37 : v37.toInt = (zI s34 this 2).toInt := by rw [ev37]
    have E38 : v37.toInt = (0 : Int32).toInt := by rw [show v37 = (0 : Int32) from ev37.symm.trans (a4.trans cz31)]
    obtain ⟨v39, ev39⟩ : ∃ zz9 : Int32, zI s34 this 3 = zz9 := ⟨_, rfl⟩
    have qv39 : v39.toInt = (zI s34 this 3).toInt := by rw [ev39]
    have E40 : v39.toInt = ((-1) : Int32).toInt := by rw [show v39 = ((-1) : Int32) from ev39.symm.trans (a5.trans cz32)]
    subst ex9
    obtain ⟨v41, ev41⟩ : ∃ zz9 : Int32, zI s34 into 3 = zz9 := ⟨_, rfl⟩
    have qv41 : v41.toInt = (zI s34 into 3).toInt := by rw [ev41]
    obtain ⟨v42, ev42⟩ : ∃ zz9 : Int32, zI s34 into 4 = zz9 := ⟨_, rfl⟩
    have qv42 : v42.toInt = (zI s34 into 4).toInt := by rw [ev42]
    obtain ⟨v43, ev43⟩ : ∃ zz9 : Int32, zI s34 into 5 = zz9 := ⟨_, rfl⟩
    have qv43 : v43.toInt = (zI s34 into 5).toInt := by rw [ev43]
    have b44 : isB v43 := by have q9 := (hT.P (hT.k t_into (by decide)) (by decide)).2; rw [ev43] at q9; exact q9
    obtain ⟨v45, ev45⟩ : ∃ zz9 : Int32, zI s34 into 6 = zz9 := ⟨_, rfl⟩
    have qv45 : v45.toInt = (zI s34 into 6).toInt := by rw [ev45]
    have gs46 : v41.toInt = g9 0 ∧ v42.toInt = g9 1 ∧ v43.toInt = g9 2 ∧ v45.toInt = g9 3 := by have z9 := a3; unfold GSc at z9; rw [(show zI s34 into 3 = v41 from ev41), (show zI s34 into 4 = v42 from ev42), (show zI s34 into 5 = v43 from ev43), (show zI s34 into 6 = v45 from ev45)] at z9; exact z9
    obtain ⟨v47, ev47⟩ : ∃ zz9 : Int32, zI s34 this 4 = zz9 := ⟨_, rfl⟩
    have qv47 : v47.toInt = (zI s34 this 4).toInt := by rw [ev47]
    obtain ⟨v48, ev48⟩ : ∃ zz9 : Int32, zI s34 this 5 = zz9 := ⟨_, rfl⟩
    have qv48 : v48.toInt = (zI s34 this 5).toInt := by rw [ev48]
    have b49 := (hT.P (hT.k t_this (by decide)) (by decide)).2.1
    rw [ev48] at b49
    have b49l := b49.1
    have b49h := b49.2
    obtain ⟨v50, ev50⟩ : ∃ zz9 : Int32, zI s34 this 6 = zz9 := ⟨_, rfl⟩
    have qv50 : v50.toInt = (zI s34 this 6).toInt := by rw [ev50]
    have b51 := (hT.P (hT.k t_this (by decide)) (by decide)).2.2
    rw [ev50] at b51
    have b51l := b51.1
    have b51h := b51.2
    obtain ⟨v52, ev52⟩ : ∃ zz9 : Int32, zI s34 this 7 = zz9 := ⟨_, rfl⟩
    have qv52 : v52.toInt = (zI s34 this 7).toInt := by rw [ev52]
    have tk53 : TKv v47 v48 v50 v52 tc Ln s9 := by have z9 := a2; unfold TKc at z9; rw [(show zI s34 this 4 = v47 from ev47), (show zI s34 this 5 = v48 from ev48), (show zI s34 this 6 = v50 from ev50), (show zI s34 this 7 = v52 from ev52)] at z9; exact z9
    obtain ⟨tk534, tk535, tk536, tk537, tk538⟩ := id tk53
    refine lv_if_eq (tgt := 44) hx hb dX3_readInto_29 (by decide) (fun c9 => absurd (gi_eq c9) (by omega)) (fun _ => ?_)
    refine lv_aload_n hx hb dX3_readInto_32 rfl (lv_at hl 0 rfl) ?_
    refine lv_aload_n hx hb dX3_readInto_33 rfl (lv_at hl 1 rfl) ?_
    have cz54 : zI s34 this 2 = v37 := ev37
    have cz55 : zI s34 this 3 = v39 := ev39
    have cz56 : zI s34 into 3 = v41 := ev41
    have cz57 : zI s34 into 4 = v42 := ev42
    have cz58 : zI s34 into 5 = v43 := ev43
    have cz59 : zI s34 into 6 = v45 := ev45
    have hTo := hT
    refine tVi (n := 1) (As := [.ref into]) (rest := []) hx hb hml hown hg hT hK hX (X3s_readSamples l κ s34 this into (gg := g9) (hT.k t_this (by decide)) (hT.k t_into (by decide)) (h0.tr (funext fun k => by rw [erB]; exact hT.eI trB (by decide) rfl rfl) (hT.eI t_this (by decide) rfl rfl)) (show TKc s34 this tc Ln s9 from by unfold TKc; rw [(show zI s34 this 4 = v47 from ev47), (show zI s34 this 5 = v48 from ev48), (show zI s34 this 6 = v50 from ev50), (show zI s34 this 7 = v52 from ev52)]; exact tk53) (show (zI s34 into 2).toInt = 0 from by rw [(show zI s34 into 2 = v17 from ev17)]; omega)) sub_fRs_fRd (mwV k803 k805 k27 k85 k806) ⟨rfl, by decide, by decide, by decide +kernel⟩ ⟨(Nat.le_of_ble_eq_true rfl), (Nat.le_of_ble_eq_true rfl)⟩ (hT.o6 (hT.k t_this (by decide))) rfl rfl hl.1 rfl (Nat.le_of_ble_eq_true rfl) dX3_readInto_34 zroom.rf (fun x60 s61 H locs hφ hEs61 hT => ?_)
    have ev41 : zI s61 into 3 = v41 := ((hTo.k t_into (by decide)).eI hEs61 (by decide) rfl).trans ev41
    have ev42 : zI s61 into 4 = v42 := ((hTo.k t_into (by decide)).eI hEs61 (by decide) rfl).trans ev42
    have ev43 : zI s61 into 5 = v43 := ((hTo.k t_into (by decide)).eI hEs61 (by decide) rfl).trans ev43
    have ev45 : zI s61 into 6 = v45 := ((hTo.k t_into (by decide)).eI hEs61 (by decide) rfl).trans ev45
    obtain ⟨f62, f63⟩ := hφ
    obtain ⟨y9, hy9, f62⟩ := f62
    rcases f62 with ⟨b1, t9, n9, v9, ey9, b3, b4, b5, b6, b7, b8, b9, b10⟩ | ⟨b1, co, po, b2, b3, b4, b5⟩
    · skip
      obtain ⟨v64, ev64⟩ : ∃ zz9 : Int32, zI s61 this 2 = zz9 := ⟨_, rfl⟩
      have qv64 : v64.toInt = (zI s61 this 2).toInt := by rw [ev64]
      have E65 : v64.toInt = v37.toInt := by rw [show v64 = v37 from ev64.symm.trans (b5.trans cz54)]
      obtain ⟨v66, ev66⟩ : ∃ zz9 : Int32, zI s61 this 3 = zz9 := ⟨_, rfl⟩
      have qv66 : v66.toInt = (zI s61 this 3).toInt := by rw [ev66]
      have E67 : v66.toInt = v39.toInt := by rw [show v66 = v39 from ev66.symm.trans (b6.trans cz55)]
      have gs68 : GSc s61 into g9 := ⟨by rw [b7, cz56]; exact gs46.1, by rw [b8, cz57]; exact gs46.2.1, by rw [b9, cz58]; exact gs46.2.2.1, by rw [b10, cz59]; exact gs46.2.2.2⟩
      subst ey9
      refine lv_if_eq (tgt := 44) hx hb dX3_readInto_37 (by decide) (fun c9 => absurd (gi_eq c9) (by omega)) (fun _ => ?_)
      refine lv_iconst (v := 1) hx hb dX3_readInto_40 (by decide) ?_
      refine lv_goto (tgt := 45) hx hb dX3_readInto_41 (by decide) ?_
      subst hQ9
      exact t_z hx hb hr isB1 hlocks hT ⟨⟨(true, t9, n9, v9, g9), 0, (n9 : Nat), ⟨urt_tr hx9 hy9, Or.inr (Or.inr ⟨rfl, b3, rfl, rfl⟩)⟩, Or.inl ⟨by omega, rfl, b4, by have z9 := b3.2; omega, by rw [(show zI s61 this 2 = v64 from ev64)]; omega, by rw [(show zI s61 this 3 = v66 from ev66)]; omega, gs68⟩⟩, isB1⟩ dX3_readInto_45
    · skip
      refine lv_if_eq (tgt := 44) hx hb dX3_readInto_37 (by decide) (fun _ => ?_) (fun c9 => absurd (gi_ne c9) (by omega))
      refine lv_iconst (v := 0) hx hb dX3_readInto_44 (by decide) ?_
      subst hQ9
      exact t_z hx hb hr isB0 hlocks hT ⟨⟨y9, co, po, ⟨urt_tr hx9 hy9, b2⟩, Or.inr ⟨by omega, b3, b4, b5⟩⟩, isB0⟩ dX3_readInto_45
  · skip
    refine lv_if_eq (tgt := 44) hx hb dX3_readInto_29 (by decide) (fun _ => ?_) (fun c9 => absurd (gi_ne c9) (by omega))
    refine lv_iconst (v := 0) hx hb dX3_readInto_44 (by decide) ?_
    subst hQ9
    exact t_z hx hb hr isB0 hlocks hT ⟨⟨x9, co, po, ⟨hx9, a2⟩, Or.inr ⟨by omega, a3, a4, a5⟩⟩, isB0⟩ dX3_readInto_45

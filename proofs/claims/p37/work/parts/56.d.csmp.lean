/-! What LiftingSignal reads: samples -/
theorem sub_fAd_fRs : ∀ t k, fRs t k = false → fAd t k = false := by
  intro t k h
  simp [fAd, fRs] at h ⊢ <;> omega
theorem sub_fCl_fRd : ∀ t k, fRd t k = false → fCl t k = false := by
  intro t k h
  simp [fCl, fRd] at h ⊢ <;> omega
theorem sub_fE_fRs : ∀ t k, fRs t k = false → fE t k = false := by
  intro t k h
  simp [fE, fRs] at h ⊢ <;> omega
theorem sub_fP_fRs : ∀ t k, fRs t k = false → fP t k = false := by
  intro t k h
  simp [fP, fRs] at h ⊢ <;> omega
theorem sub_fPe_fRs : ∀ t k, fRs t k = false → fPe t k = false := by
  intro t k h
  simp [fPe, fRs] at h ⊢ <;> omega
theorem sub_fRs_fRd : ∀ t k, fRd t k = false → fRs t k = false := by
  intro t k h
  simp [fRs, fRd] at h ⊢ <;> omega
theorem sub_fW23_fRs : ∀ t k, fRs t k = false → fW23 t k = false := by
  intro t k h
  simp [fW23, fRs] at h ⊢ <;> omega
set_option maxHeartbeats 4000000 in
set_option maxRecDepth 100000 in
theorem X0s_clear (l : Launch) (κ : Kt) (σ0 : Gh) (this : Nat) (t_this : zk σ0 this 5) : TC l yX0_clear cX0_clear 1 none 0 0 [.ref this] κ σ0 (tqv κ fCl σ0 (fun (τ : Gh) => ((zI τ this 2).toInt = 0) ∧ (GSc τ this ugs0))) := by
  refine TC.of fCl (by decide +kernel) (Nat.le_of_ble_eq_true rfl) ?_
  intro p e s m below meth c ls hcs hK hX hT hl
  obtain ⟨hx, hb, hr, hml, hown, hg, hlocks, hin⟩ := hcs
  have hown : s.vm.findClass RX0 = some m.cls := hown
  have hl : lv_has ls 1 [(0, .ref this)] := hl
  have hT0 := hT
  have n0 : (0 : Int32).toInt = 0 := by decide
  have n1 : (1 : Int32).toInt = 1 := by decide
  have n2 : (2 : Int32).toInt = 2 := by decide
  generalize hQ9 : tQ _ _ _ _ _ _ = Q9
  refine lv_aload_n hx hb dX0_clear_0 rfl (lv_at hl 0 rfl) ?_
  refine lv_iconst (v := 0) hx hb dX0_clear_1 (by decide) ?_
  have hTo := hT
  refine pf5_2 hx hb hg hown hK hT (hT.k t_this (by decide)) rfl ⟨by omega, by omega⟩ (hg _ k161) dX0_clear_2 (fun H locs s1 hus1 hT => ?_)
  have e2 : zI s1 this 2 = 0 := zput_at hus1
  refine lv_aload_n hx hb dX0_clear_5 rfl (lv_at hl 0 rfl) ?_
  refine lv_iconst (v := 0) hx hb dX0_clear_6 (by decide) ?_
  have hTo := hT
  refine pf5_3 hx hb hg hown hK hT (hT.k t_this (by decide)) rfl (hg _ k165) dX0_clear_7 (fun H locs s3 hus3 hT => ?_)
  have e2 : zI s3 this 2 = 0 := (zput_o hus3 (Or.inr (by decide))).trans e2
  have e4 : zI s3 this 3 = 0 := zput_at hus3
  refine lv_aload_n hx hb dX0_clear_10 rfl (lv_at hl 0 rfl) ?_
  refine lv_iconst (v := 2) hx hb dX0_clear_11 (by decide) ?_
  have hTo := hT
  refine pf5_4 hx hb hg hown hK hT (hT.k t_this (by decide)) rfl (hg _ k168) dX0_clear_12 (fun H locs s5 hus5 hT => ?_)
  have e2 : zI s5 this 2 = 0 := (zput_o hus5 (Or.inr (by decide))).trans e2
  have e4 : zI s5 this 3 = 0 := (zput_o hus5 (Or.inr (by decide))).trans e4
  have e6 : zI s5 this 4 = 2 := zput_at hus5
  refine lv_aload_n hx hb dX0_clear_15 rfl (lv_at hl 0 rfl) ?_
  refine lv_iconst (v := 1) hx hb dX0_clear_16 (by decide) ?_
  have hTo := hT
  refine pf5_5 hx hb hg hown hK hT (hT.k t_this (by decide)) rfl isB1 (hg _ k171) dX0_clear_17 (fun H locs s7 hus7 hT => ?_)
  have e2 : zI s7 this 2 = 0 := (zput_o hus7 (Or.inr (by decide))).trans e2
  have e4 : zI s7 this 3 = 0 := (zput_o hus7 (Or.inr (by decide))).trans e4
  have e6 : zI s7 this 4 = 2 := (zput_o hus7 (Or.inr (by decide))).trans e6
  have e8 : zI s7 this 5 = 1 := zput_at hus7
  refine lv_aload_n hx hb dX0_clear_20 rfl (lv_at hl 0 rfl) ?_
  refine lv_iconst (v := 2) hx hb dX0_clear_21 (by decide) ?_
  have hTo := hT
  refine pf5_6 hx hb hg hown hK hT (hT.k t_this (by decide)) rfl (hg _ k174) dX0_clear_22 (fun H locs s9 hus9 hT => ?_)
  have e2 : zI s9 this 2 = 0 := (zput_o hus9 (Or.inr (by decide))).trans e2
  have e4 : zI s9 this 3 = 0 := (zput_o hus9 (Or.inr (by decide))).trans e4
  have e6 : zI s9 this 4 = 2 := (zput_o hus9 (Or.inr (by decide))).trans e6
  have e8 : zI s9 this 5 = 1 := (zput_o hus9 (Or.inr (by decide))).trans e8
  have e10 : zI s9 this 6 = 2 := zput_at hus9
  subst hQ9
  exact t_v hx hb hr hlocks hT ⟨by rw [(show zI s9 this 2 = 0 from e2)]; exact n0, ⟨by rw [(show zI s9 this 3 = 0 from e4)]; decide, by rw [(show zI s9 this 4 = 2 from e6)]; decide, by rw [(show zI s9 this 5 = 1 from e8)]; decide, by rw [(show zI s9 this 6 = 2 from e10)]; decide⟩⟩ dX0_clear_25
set_option maxHeartbeats 4000000 in
set_option maxRecDepth 100000 in
theorem X0s_addSample (l : Launch) (κ : Kt) (σ0 : Gh) (this : Nat) (x : Int32) (y : Int32) {nn : Nat} (t_this : zk σ0 this 5) (h0 : (zI σ0 this 2).toInt = (nn : Nat)) (h1 : nn < 48) : TC l yX0_addSample cX0_addSample 3 none 0 0 [.ref this, .int x, .int y] κ σ0 (tqv κ fAd σ0 (fun (τ : Gh) => ((zI τ this 2).toInt = nn + 1) ∧ (∀ j : Nat, zI τ (kR κ this 0) j = if j = nn then x else zI σ0 (kR κ this 0) j) ∧ (∀ j : Nat, zI τ (kR κ this 1) j = if j = nn then y else zI σ0 (kR κ this 1) j))) := by
  refine TC.of fAd (by decide +kernel) (Nat.le_of_ble_eq_true rfl) ?_
  intro p e s m below meth c ls hcs hK hX hT hl
  obtain ⟨hx, hb, hr, hml, hown, hg, hlocks, hin⟩ := hcs
  have hown : s.vm.findClass RX0 = some m.cls := hown
  have hl : lv_has ls 3 [(0, .ref this), (1, .int x), (2, .int y)] := hl
  have hT0 := hT
  have n1 : (1 : Int32).toInt = 1 := by decide
  have n48 : (48 : Int32).toInt = 48 := by decide
  have x_lo := Int32.le_toInt x
  have x_hi := Int32.toInt_lt x
  have y_lo := Int32.le_toInt y
  have y_hi := Int32.toInt_lt y
  generalize hQ9 : tQ _ _ _ _ _ _ = Q9
  obtain ⟨rP, erP⟩ : ∃ z, kR κ this 0 = z := ⟨_, rfl⟩
  have trP : zk σ0 rP 17 := by rw [← erP]; exact hT0.ref t_this (by decide) (by decide) (by decide)
  obtain ⟨rO, erO⟩ : ∃ z, kR κ this 1 = z := ⟨_, rfl⟩
  have trO : zk σ0 rO 18 := by rw [← erO]; exact hT0.ref t_this (by decide) (by decide) (by decide)
  obtain ⟨v1, ev1⟩ : ∃ zz9 : Int32, zI σ0 this 2 = zz9 := ⟨_, rfl⟩
  have qv1 : v1.toInt = (zI σ0 this 2).toInt := by rw [ev1]
  have b2 := (hT.P (hT.k t_this (by decide)) (by decide)).1
  rw [ev1] at b2
  have b2l := b2.1
  have b2h := b2.2
  have b0o : zI σ0 rO = zI σ0 rO := rfl
  refine lv_aload_n hx hb dX0_addSample_0 rfl (lv_at hl 0 rfl) ?_
  refine va_get (D := κ.1) (ci := 0) (v := .int (zI σ0 this 2)) (C := RX0) (T := TX0) (N := 7) hx hb hg inX0 hown hK (hT.o5 (hT.k t_this (by decide))).one 0 rfl rfl 2 (by decide) (hg _ k161) (fun _ h9 => h9) rfl dX0_addSample_1 ?_
  rw [ev1]
  refine lv_bipush (v := 48) hx hb dX0_addSample_4 (by decide) ?_
  refine lv_icmp_ge (tgt := 39) hx hb dX0_addSample_6 (by decide) (fun c9 => ?_) (fun c9 => ?_)
  · have c1 := gi_le c9
    subst hQ9
    exact t_v hx hb hr hlocks hT (by exfalso; omega) dX0_addSample_39
  · have c2 := gi_nle c9
    refine lv_aload_n hx hb dX0_addSample_9 rfl (lv_at hl 0 rfl) ?_
    refine va_get (D := κ.1) (ci := 0) (v := .ref (kR κ this 0)) (C := RX0) (T := TX0) (N := 7) hx hb hg inX0 hown hK (hT.o5 (hT.k t_this (by decide))).one 0 rfl rfl 0 (by decide) (hg _ k154) (fun _ h9 => h9) rfl dX0_addSample_10 ?_
    rw [erP]
    refine lv_aload_n hx hb dX0_addSample_13 rfl (lv_at hl 0 rfl) ?_
    refine va_get (D := κ.1) (ci := 0) (v := .int (zI σ0 this 2)) (C := RX0) (T := TX0) (N := 7) hx hb hg inX0 hown hK (hT.o5 (hT.k t_this (by decide))).one 0 rfl rfl 2 (by decide) (hg _ k161) (fun _ h9 => h9) rfl dX0_addSample_14 ?_
    rw [ev1]
    refine lv_iload_n hx hb dX0_addSample_17 rfl (lv_at hl 1 rfl) ?_
    have hTo := hT
    refine tasti (n := 48) hx hb hK hT (hT.k trP (by decide)) ⟨by decide, by decide⟩ (fun _ _ _ => rfl) (fun _ _ => trivial) (fun _ => rfl) (by omega) (by omega) dX0_addSample_18 (fun H locs s3 hus3 hT => ?_)
    have ev1 : zI s3 this 2 = v1 := (zput_o hus3 (Or.inl ((hTo.k t_this (by decide)).ne (hTo.k trP (by decide)) (by decide)))).trans ev1
    have Y4 : zI s3 rO = zI σ0 rO := by first | (rw [show zI s3 rO = zI σ0 rO from zput_Io hus3 ((hTo.k trO (by decide)).ne (hTo.k trP (by decide)) (by decide))]; exact b0o) | rw [show zI s3 rO = zI σ0 rO from zput_Io hus3 ((hTo.k trO (by decide)).ne (hTo.k trP (by decide)) (by decide))]
    have Y5 : ∀ j : Nat, zI s3 rP j = if j = nn then x else zI σ0 rP j := fun j => by
      have w9 : ix v1 = nn := by unfold ix; omega
      by_cases e : j = nn
      · rw [if_pos e, e, ← w9]; exact zput_at hus3
      · rw [if_neg e]; exact zput_o hus3 (Or.inr (by omega))
    refine lv_aload_n hx hb dX0_addSample_19 rfl (lv_at hl 0 rfl) ?_
    refine va_get (D := κ.1) (ci := 0) (v := .ref (kR κ this 1)) (C := RX0) (T := TX0) (N := 7) hx hb hg inX0 hown hK (hT.o5 (hT.k t_this (by decide))).one 0 rfl rfl 1 (by decide) (hg _ k158) (fun _ h9 => h9) rfl dX0_addSample_20 ?_
    rw [erO]
    refine lv_aload_n hx hb dX0_addSample_23 rfl (lv_at hl 0 rfl) ?_
    refine va_get (D := κ.1) (ci := 0) (v := .int (zI s3 this 2)) (C := RX0) (T := TX0) (N := 7) hx hb hg inX0 hown hK (hT.o5 (hT.k t_this (by decide))).one 0 rfl rfl 2 (by decide) (hg _ k161) (fun _ h9 => h9) rfl dX0_addSample_24 ?_
    rw [ev1]
    refine lv_iload_n hx hb dX0_addSample_27 rfl (lv_at hl 2 rfl) ?_
    have hTo := hT
    refine tasti (n := 48) hx hb hK hT (hT.k trO (by decide)) ⟨by decide, by decide⟩ (fun _ _ _ => rfl) (fun _ _ => trivial) (fun _ => rfl) (by omega) (by omega) dX0_addSample_28 (fun H locs s6 hus6 hT => ?_)
    have ev1 : zI s6 this 2 = v1 := (zput_o hus6 (Or.inl ((hTo.k t_this (by decide)).ne (hTo.k trO (by decide)) (by decide)))).trans ev1
    have Y7 : ∀ j : Nat, zI s6 rP j = if j = nn then x else zI σ0 rP j := by first | (rw [show zI s6 rP = zI s3 rP from zput_Io hus6 ((hTo.k trP (by decide)).ne (hTo.k trO (by decide)) (by decide))]; exact Y5) | rw [show zI s6 rP = zI s3 rP from zput_Io hus6 ((hTo.k trP (by decide)).ne (hTo.k trO (by decide)) (by decide))]
    have Y8 : ∀ j : Nat, zI s6 rO j = if j = nn then y else zI σ0 rO j := fun j => by
      have w9 : ix v1 = nn := by unfold ix; omega
      by_cases e : j = nn
      · rw [if_pos e, e, ← w9]; exact zput_at hus6
      · rw [if_neg e, zput_o hus6 (Or.inr (by omega)), Y4]
    refine lv_aload_n hx hb dX0_addSample_29 rfl (lv_at hl 0 rfl) ?_
    refine lv_dup hx hb dX0_addSample_30 rfl ?_
    refine va_get (D := κ.1) (ci := 0) (v := .int (zI s6 this 2)) (C := RX0) (T := TX0) (N := 7) hx hb hg inX0 hown hK (hT.o5 (hT.k t_this (by decide))).one 0 rfl rfl 2 (by decide) (hg _ k161) (fun _ h9 => h9) rfl dX0_addSample_31 ?_
    rw [ev1]
    refine lv_iconst (v := 1) hx hb dX0_addSample_34 (by decide) ?_
    refine lv_iadd hx hb dX0_addSample_35 ?_
    first | refine g_add (by omega) (by omega) (fun t9 ht9 => ?_) | refine lv_topi (fun t9 ht9 => ?_)
    have hTo := hT
    refine pf5_2 hx hb hg hown hK hT (hT.k t_this (by decide)) rfl ⟨by omega, by omega⟩ (hg _ k161) dX0_addSample_36 (fun H locs s10 hus10 hT => ?_)
    have Y11 : ∀ j : Nat, zI s10 rP j = if j = nn then x else zI σ0 rP j := by first | (rw [show zI s10 rP = zI s6 rP from zput_Io hus10 ((hTo.k trP (by decide)).ne (hTo.k t_this (by decide)) (by decide))]; exact Y7) | rw [show zI s10 rP = zI s6 rP from zput_Io hus10 ((hTo.k trP (by decide)).ne (hTo.k t_this (by decide)) (by decide))]
    have Y12 : ∀ j : Nat, zI s10 rO j = if j = nn then y else zI σ0 rO j := by first | (rw [show zI s10 rO = zI s6 rO from zput_Io hus10 ((hTo.k trO (by decide)).ne (hTo.k t_this (by decide)) (by decide))]; exact Y8) | rw [show zI s10 rO = zI s6 rO from zput_Io hus10 ((hTo.k trO (by decide)).ne (hTo.k t_this (by decide)) (by decide))]
    have e13 : zI s10 this 2 = t9 := zput_at hus10
    subst hQ9
    exact t_v hx hb hr hlocks hT ⟨by rw [(show zI s10 this 2 = t9 from e13)]; omega, by rw [erP]; exact Y11, by rw [erO]; exact Y12⟩ dX0_addSample_39
set_option maxHeartbeats 8000000 in
set_option maxRecDepth 100000 in
theorem X3s_readSample (l : Launch) (κ : Kt) (σ0 : Gh) (this : Nat) (into : Nat) {tc : Nat → Int} {Ln : Nat} {sp : Nat} {nn : Nat} {vv : Int} (t_this : zk σ0 this 6) (t_into : zk σ0 into 5) (h0 : TXc κ σ0 this tc Ln) (h1 : TKc σ0 this tc Ln sp) (h2 : (zI σ0 into 2).toInt = (nn : Nat)) (h3 : nn < 48) (h4 : (nn = 0 ∧ vv = -1) ∨ (0 < nn ∧ (zI σ0 (kR κ into 0) (nn - 1)).toInt = vv)) : TC l yX3_readSample cX3_readSample 4 (some .boolean) 3 60 [.ref this, .ref into] κ σ0 (tqi κ fRs σ0 (fun (r : Int32) (τ : Gh) => ((r.toInt = 1 ∧ utkK tc Ln sp = 2 ∧ vv < uvl tc Ln sp ∧ utkK tc Ln (svq (utkK tc Ln) (unxt tc Ln) sp) = 2 ∧ TKc τ this tc Ln (unxt tc Ln (svq (utkK tc Ln) (unxt tc Ln) sp)) ∧ (zI τ into 2).toInt = nn + 1 ∧ (zI τ (kR κ into 0) nn).toInt = uvl tc Ln sp ∧ zI τ this 2 = zI σ0 this 2 ∧ zI τ this 3 = zI σ0 this 3 ∧ zI τ into 3 = zI σ0 into 3 ∧ zI τ into 4 = zI σ0 into 4 ∧ zI τ into 5 = zI σ0 into 5 ∧ zI τ into 6 = zI σ0 into 6 ∧ (∀ j : Nat, j < nn → zI τ (kR κ into 0) j = zI σ0 (kR κ into 0) j) ∧ (∀ j : Nat, j < nn → zI τ (kR κ into 1) j = zI σ0 (kR κ into 1) j) ∧ (zI τ (kR κ into 1) nn).toInt = uvq (utkK tc Ln) (unxt tc Ln) (uvl tc Ln) sp) ∨ (r.toInt = 0 ∧ ∃ co po : Int, ((utkK tc Ln sp ≠ 2 ∧ co = 1 ∧ po = sp) ∨ (utkK tc Ln sp = 2 ∧ uvl tc Ln sp ≤ vv ∧ co = 2 ∧ po = sp) ∨ (utkK tc Ln sp = 2 ∧ vv < uvl tc Ln sp ∧ utkK tc Ln (svq (utkK tc Ln) (unxt tc Ln) sp) ≠ 2 ∧ co = 1 ∧ po = (svq (utkK tc Ln) (unxt tc Ln) sp))) ∧ (zI τ this 2).toInt = co ∧ (zI τ this 3).toInt = po)) ∧ (isB r))) := by
  refine TC.of fRs (by decide +kernel) (Nat.le_of_ble_eq_true rfl) ?_
  intro p e s m below meth c ls hcs hK hX hT hl
  obtain ⟨hx, hb, hr, hml, hown, hg, hlocks, hin⟩ := hcs
  have hown : s.vm.findClass RX3 = some m.cls := hown
  have hl : lv_has ls 4 [(0, .ref this), (1, .ref into)] := hl
  have hT0 := hT
  have n0 : (0 : Int32).toInt = 0 := by decide
  have n1 : (1 : Int32).toInt = 1 := by decide
  have n2 : (2 : Int32).toInt = 2 := by decide
  have n4 : (4 : Int32).toInt = 4 := by decide
  generalize hQ9 : tQ _ _ _ _ _ _ = Q9
  obtain ⟨rB, erB⟩ : ∃ z, kR κ this 0 = z := ⟨_, rfl⟩
  have trB : zk σ0 rB 14 := by rw [← erB]; exact hT0.ref t_this (by decide) (by decide) (by decide)
  have hpc : ∀ j, tc j = (zI σ0 rB j).toInt := by rw [← erB]; exact h0.1
  have hLn : (zI σ0 this 1).toInt = Ln := h0.2
  have bL := (hT0.P t_this (by decide)).1.2
  have hL7 : (Ln : Int) ≤ 700 := by omega
  obtain ⟨rP, erP⟩ : ∃ z, kR κ into 0 = z := ⟨_, rfl⟩
  have trP : zk σ0 rP 17 := by rw [← erP]; exact hT0.ref t_into (by decide) (by decide) (by decide)
  obtain ⟨rO, erO⟩ : ∃ z, kR κ into 1 = z := ⟨_, rfl⟩
  have trO : zk σ0 rO 18 := by rw [← erO]; exact hT0.ref t_into (by decide) (by decide) (by decide)
  obtain ⟨v1, ev1⟩ : ∃ zz9 : Int32, zI σ0 this 2 = zz9 := ⟨_, rfl⟩
  have qv1 : v1.toInt = (zI σ0 this 2).toInt := by rw [ev1]
  have zthis2 : zI σ0 this 2 = v1 := ev1
  obtain ⟨v2, ev2⟩ : ∃ zz9 : Int32, zI σ0 this 3 = zz9 := ⟨_, rfl⟩
  have qv2 : v2.toInt = (zI σ0 this 3).toInt := by rw [ev2]
  have zthis3 : zI σ0 this 3 = v2 := ev2
  obtain ⟨v3, ev3⟩ : ∃ zz9 : Int32, zI σ0 into 2 = zz9 := ⟨_, rfl⟩
  have qv3 : v3.toInt = (zI σ0 into 2).toInt := by rw [ev3]
  have b4 := (hT.P (hT.k t_into (by decide)) (by decide)).1
  rw [ev3] at b4
  have b4l := b4.1
  have b4h := b4.2
  obtain ⟨v5, ev5⟩ : ∃ zz9 : Int32, zI σ0 this 4 = zz9 := ⟨_, rfl⟩
  have qv5 : v5.toInt = (zI σ0 this 4).toInt := by rw [ev5]
  obtain ⟨v6, ev6⟩ : ∃ zz9 : Int32, zI σ0 this 5 = zz9 := ⟨_, rfl⟩
  have qv6 : v6.toInt = (zI σ0 this 5).toInt := by rw [ev6]
  have b7 := (hT.P (hT.k t_this (by decide)) (by decide)).2.1
  rw [ev6] at b7
  have b7l := b7.1
  have b7h := b7.2
  obtain ⟨v8, ev8⟩ : ∃ zz9 : Int32, zI σ0 this 6 = zz9 := ⟨_, rfl⟩
  have qv8 : v8.toInt = (zI σ0 this 6).toInt := by rw [ev8]
  have b9 := (hT.P (hT.k t_this (by decide)) (by decide)).2.2
  rw [ev8] at b9
  have b9l := b9.1
  have b9h := b9.2
  obtain ⟨v10, ev10⟩ : ∃ zz9 : Int32, zI σ0 this 7 = zz9 := ⟨_, rfl⟩
  have qv10 : v10.toInt = (zI σ0 this 7).toInt := by rw [ev10]
  have tk11 : TKv v5 v6 v8 v10 tc Ln sp := by have z9 := h1; unfold TKc at z9; rw [(show zI σ0 this 4 = v5 from ev5), (show zI σ0 this 5 = v6 from ev6), (show zI σ0 this 6 = v8 from ev8), (show zI σ0 this 7 = v10 from ev10)] at z9; exact z9
  obtain ⟨tk114, tk115, tk116, tk117, tk118⟩ := id tk11
  have b0p : zI σ0 rP = zI σ0 rP := rfl
  have b0o : zI σ0 rO = zI σ0 rO := rfl
  refine lv_aload_n hx hb dX3_readSample_0 rfl (lv_at hl 0 rfl) ?_
  refine va_get (D := κ.1) (ci := 3) (v := .int (zI σ0 this 4)) (C := RX3) (T := TX3) (N := 8) hx hb hg inX3 hown hK (hT.o6 (hT.k t_this (by decide))).one 0 rfl rfl 4 (by decide) (hg _ k126) (fun _ h9 => h9) rfl dX3_readSample_1 ?_
  rw [ev5]
  refine lv_iconst (v := 2) hx hb dX3_readSample_4 (by decide) ?_
  refine lv_icmp_eq (tgt := 14) hx hb dX3_readSample_5 (by decide) (fun c9 => ?_) (fun c9 => ?_)
  · have c1 := gi_eq c9
    have hv9 := tk117 (by omega)
    have hvb := uvl_b (c := tc) (L := Ln) (s := sp) (by omega)
    refine lv_aload_n hx hb dX3_readSample_14 rfl (lv_at hl 0 rfl) ?_
    refine va_get (D := κ.1) (ci := 3) (v := .int (zI σ0 this 7)) (C := RX3) (T := TX3) (N := 8) hx hb hg inX3 hown hK (hT.o6 (hT.k t_this (by decide))).one 0 rfl rfl 7 (by decide) (hg _ k129) (fun _ h9 => h9) rfl dX3_readSample_15 ?_
    rw [ev10]
    refine lv_istore_n (lv' := [(2, .int v10), (0, .ref this), (1, .ref into)]) hx hb dX3_readSample_18 rfl hl (by decide) rfl (fun ls hl => ?_)
    refine lv_aload_n hx hb dX3_readSample_19 rfl (lv_at hl 2 rfl) ?_
    refine va_get (D := κ.1) (ci := 0) (v := .int (zI σ0 into 2)) (C := RX0) (T := TX0) (N := 7) hx hb hg inX0 hown hK (hT.o5 (hT.k t_into (by decide))).one 0 rfl rfl 2 (by decide) (hg _ k164) (fun _ h9 => h9) rfl dX3_readSample_20 ?_
    rw [ev3]
    refine lv_if_le (tgt := 47) hx hb dX3_readSample_23 (by decide) (fun c9 => ?_) (fun c9 => ?_)
    · have c2 := gi_le c9
      refine lv_aload_n hx hb dX3_readSample_47 rfl (lv_at hl 1 rfl) ?_
      have hTo := hT
      refine tVi (n := 0) (As := []) (rest := []) hx hb hml hown hg hT hK hX (X3s_pass l κ σ0 this  (hT.k t_this (by decide)) h0 (show (zI σ0 this 6).toInt = (utkE tc Ln sp : Nat) from by rw [(show zI σ0 this 6 = v8 from ev8)]; omega) (utkE_le tk118)) sub_fP_fRs (mwV k697 k699 k17 k85 k700) ⟨rfl, by decide, by decide, by decide +kernel⟩ ⟨(Nat.le_of_ble_eq_true rfl), (Nat.le_of_ble_eq_true rfl)⟩ (hT.o6 (hT.k t_this (by decide))) rfl rfl hl.1 rfl (Nat.le_of_ble_eq_true rfl) dX3_readSample_48 zroom.rf (fun x12 s13 H locs hφ hEs13 hT => ?_)
      have ev1 : zI s13 this 2 = v1 := ((hTo.k t_this (by decide)).eI hEs13 (by decide) rfl).trans ev1
      have ev2 : zI s13 this 3 = v2 := ((hTo.k t_this (by decide)).eI hEs13 (by decide) rfl).trans ev2
      have ev3 : zI s13 into 2 = v3 := ((hTo.k t_into (by decide)).eI hEs13 (by decide) rfl).trans ev3
      have Y14 : zI s13 rP = zI σ0 rP := by first | (rw [show zI s13 rP = zI σ0 rP from funext fun k => (hTo.k trP (by decide)).eI hEs13 (by decide) rfl]; exact b0p) | rw [show zI s13 rP = zI σ0 rP from funext fun k => (hTo.k trP (by decide)).eI hEs13 (by decide) rfl]
      have Y15 : zI s13 rO = zI σ0 rO := by first | (rw [show zI s13 rO = zI σ0 rO from funext fun k => (hTo.k trO (by decide)).eI hEs13 (by decide) rfl]; exact b0o) | rw [show zI s13 rO = zI σ0 rO from funext fun k => (hTo.k trO (by decide)).eI hEs13 (by decide) rfl]
      obtain ⟨f16, f17, f18⟩ := hφ
      obtain ⟨v19, ev19⟩ : ∃ zz9 : Int32, zI s13 this 4 = zz9 := ⟨_, rfl⟩
      have qv19 : v19.toInt = (zI s13 this 4).toInt := by rw [ev19]
      obtain ⟨v20, ev20⟩ : ∃ zz9 : Int32, zI s13 this 5 = zz9 := ⟨_, rfl⟩
      have qv20 : v20.toInt = (zI s13 this 5).toInt := by rw [ev20]
      have b21 := (hT.P (hT.k t_this (by decide)) (by decide)).2.1
      rw [ev20] at b21
      have b21l := b21.1
      have b21h := b21.2
      obtain ⟨v22, ev22⟩ : ∃ zz9 : Int32, zI s13 this 6 = zz9 := ⟨_, rfl⟩
      have qv22 : v22.toInt = (zI s13 this 6).toInt := by rw [ev22]
      have b23 := (hT.P (hT.k t_this (by decide)) (by decide)).2.2
      rw [ev22] at b23
      have b23l := b23.1
      have b23h := b23.2
      obtain ⟨v24, ev24⟩ : ∃ zz9 : Int32, zI s13 this 7 = zz9 := ⟨_, rfl⟩
      have qv24 : v24.toInt = (zI s13 this 7).toInt := by rw [ev24]
      have tk25 : TKv v19 v20 v22 v24 tc Ln (unxt tc Ln sp) := by have z9 := f17; unfold TKc at z9; rw [(show zI s13 this 4 = v19 from ev19), (show zI s13 this 5 = v20 from ev20), (show zI s13 this 6 = v22 from ev22), (show zI s13 this 7 = v24 from ev24)] at z9; exact z9
      obtain ⟨tk254, tk255, tk256, tk257, tk258⟩ := id tk25
      refine lv_pop hx hb dX3_readSample_51 rfl ?_
      refine lv_aload_n hx hb dX3_readSample_52 rfl (lv_at hl 1 rfl) ?_
      refine va_get (D := κ.1) (ci := 3) (v := .int (zI s13 this 4)) (C := RX3) (T := TX3) (N := 8) hx hb hg inX3 hown hK (hT.o6 (hT.k t_this (by decide))).one 0 rfl rfl 4 (by decide) (hg _ k126) (fun _ h9 => h9) rfl dX3_readSample_53 ?_
      rw [ev19]
      refine lv_iconst (v := 4) hx hb dX3_readSample_56 (by decide) ?_
      refine lv_icmp_ne (tgt := 64) hx hb dX3_readSample_57 (by decide) (fun c9 => ?_) (fun c9 => ?_)
      · have c3 := gi_ne c9
        refine lv_iconst (v := 0) hx hb dX3_readSample_64 (by decide) ?_
        refine lv_istore_n (lv' := [(3, .int 0), (2, .int v10), (0, .ref this), (1, .ref into)]) hx hb dX3_readSample_65 rfl hl (by decide) rfl (fun ls hl => ?_)
        refine lv_iload_n hx hb dX3_readSample_66 rfl (lv_at hl 0 rfl) ?_
        refine lv_if_eq (tgt := 75) hx hb dX3_readSample_67 (by decide) (fun _ => ?_) (fun c9 => absurd (by decide) c9)
        have hsv : (svq (utkK tc Ln) (unxt tc Ln) sp) = (unxt tc Ln sp) := if_neg (by omega)
        refine lv_aload_n hx hb dX3_readSample_75 rfl (lv_at hl 2 rfl) ?_
        refine va_get (D := κ.1) (ci := 3) (v := .int (zI s13 this 4)) (C := RX3) (T := TX3) (N := 8) hx hb hg inX3 hown hK (hT.o6 (hT.k t_this (by decide))).one 0 rfl rfl 4 (by decide) (hg _ k126) (fun _ h9 => h9) rfl dX3_readSample_76 ?_
        rw [ev19]
        refine lv_iconst (v := 2) hx hb dX3_readSample_79 (by decide) ?_
        refine lv_icmp_eq (tgt := 89) hx hb dX3_readSample_80 (by decide) (fun c9 => ?_) (fun c9 => ?_)
        · have c4 := gi_eq c9
          have hv8 := tk257 (by omega)
          have hvb8 := uvl_b (c := tc) (L := Ln) (s := (unxt tc Ln sp)) (by omega)
          have hq9 : uvq (utkK tc Ln) (unxt tc Ln) (uvl tc Ln) sp = (uvl tc Ln (unxt tc Ln sp)) := (if_neg (show ¬ utkK tc Ln (unxt tc Ln sp) = 4 by omega)).trans (by show (uvl tc Ln (svq (utkK tc Ln) (unxt tc Ln) sp)) = _; rw [hsv])
          refine lv_aload_n hx hb dX3_readSample_89 rfl (lv_at hl 3 rfl) ?_
          refine lv_iload_n hx hb dX3_readSample_90 rfl (lv_at hl 1 rfl) ?_
          refine lv_iload_n hx hb dX3_readSample_91 rfl (lv_at hl 0 rfl) ?_
          refine lv_if_eq (tgt := 103) hx hb dX3_readSample_92 (by decide) (fun _ => ?_) (fun c9 => absurd (by decide) c9)
          refine lv_aload_n hx hb dX3_readSample_103 rfl (lv_at hl 2 rfl) ?_
          refine va_get (D := κ.1) (ci := 3) (v := .int (zI s13 this 7)) (C := RX3) (T := TX3) (N := 8) hx hb hg inX3 hown hK (hT.o6 (hT.k t_this (by decide))).one 0 rfl rfl 7 (by decide) (hg _ k129) (fun _ h9 => h9) rfl dX3_readSample_104 ?_
          rw [ev24]
          have hTo := hT
          refine tVv (n := 2) (As := [.int v10, .int v24]) (rest := []) hx hb hml hown hg hT hK hX (X0s_addSample l κ s13 into v10 v24  (hT.k t_into (by decide)) (show (zI s13 into 2).toInt = (nn : Nat) from by rw [(show zI s13 into 2 = v3 from ev3)]; omega) (by omega)) sub_fAd_fRs (mwV k812 k329 k330 k86 k331) ⟨rfl, by decide, by decide, by decide +kernel⟩ ⟨(Nat.le_of_ble_eq_true rfl), (Nat.le_of_ble_eq_true rfl)⟩ (hT.o5 (hT.k t_into (by decide))) rfl rfl hl.1 rfl (Nat.le_of_ble_eq_true rfl) dX3_readSample_107 zroom.rf (fun s27 H locs hφ hEs27 hT => ?_)
          have ev1 : zI s27 this 2 = v1 := ((hTo.k t_this (by decide)).eI hEs27 (by decide) rfl).trans ev1
          have ev2 : zI s27 this 3 = v2 := ((hTo.k t_this (by decide)).eI hEs27 (by decide) rfl).trans ev2
          have ev19 : zI s27 this 4 = v19 := ((hTo.k t_this (by decide)).eI hEs27 (by decide) rfl).trans ev19
          have ev20 : zI s27 this 5 = v20 := ((hTo.k t_this (by decide)).eI hEs27 (by decide) rfl).trans ev20
          have ev22 : zI s27 this 6 = v22 := ((hTo.k t_this (by decide)).eI hEs27 (by decide) rfl).trans ev22
          have ev24 : zI s27 this 7 = v24 := ((hTo.k t_this (by decide)).eI hEs27 (by decide) rfl).trans ev24
          obtain ⟨f28, f29, f30⟩ := hφ
          rw [erP] at f29
          obtain ⟨v31, ev31⟩ : ∃ zz9 : Int32, zI s27 into 2 = zz9 := ⟨_, rfl⟩
          have qv31 : v31.toInt = (zI s27 into 2).toInt := by rw [ev31]
          have b32 := (hT.P (hT.k t_into (by decide)) (by decide)).1
          rw [ev31] at b32
          have b32l := b32.1
          have b32h := b32.2
          rw [(show zI s27 into 2 = v31 from ev31)] at f28
          have P33 : (zI s27 rP nn).toInt = uvl tc Ln sp := by rw [f29 nn, if_pos rfl]; omega
          rw [erO] at f30
          have P34 : ∀ j : Nat, j < nn → zI s27 rP j = zI σ0 rP j := fun j hj => by rw [f29 j, if_neg (by omega), Y14]
          have P35 : ∀ j : Nat, j < nn → zI s27 rO j = zI σ0 rO j := fun j hj => by rw [f30 j, if_neg (by omega), Y15]
          have P36 : (zI s27 rO nn).toInt = uvq (utkK tc Ln) (unxt tc Ln) (uvl tc Ln) sp := by rw [f30 nn, if_pos rfl, hq9]; omega
          refine lv_aload_n hx hb dX3_readSample_110 rfl (lv_at hl 2 rfl) ?_
          have hTo := hT
          refine tVi (n := 0) (As := []) (rest := []) hx hb hml hown hg hT hK hX (X3s_pass l κ s27 this  (hT.k t_this (by decide)) (h0.tr (funext fun k => by rw [erB]; exact hT.eI trB (by decide) rfl rfl) (hT.eI t_this (by decide) rfl rfl)) (show (zI s27 this 6).toInt = (utkE tc Ln (unxt tc Ln sp) : Nat) from by rw [(show zI s27 this 6 = v22 from ev22)]; omega) (utkE_le tk258)) sub_fP_fRs (mwV k697 k699 k17 k85 k700) ⟨rfl, by decide, by decide, by decide +kernel⟩ ⟨(Nat.le_of_ble_eq_true rfl), (Nat.le_of_ble_eq_true rfl)⟩ (hT.o6 (hT.k t_this (by decide))) rfl rfl hl.1 rfl (Nat.le_of_ble_eq_true rfl) dX3_readSample_111 zroom.rf (fun x37 s38 H locs hφ hEs38 hT => ?_)
          have ev1 : zI s38 this 2 = v1 := ((hTo.k t_this (by decide)).eI hEs38 (by decide) rfl).trans ev1
          have ev2 : zI s38 this 3 = v2 := ((hTo.k t_this (by decide)).eI hEs38 (by decide) rfl).trans ev2
          have ev31 : zI s38 into 2 = v31 := ((hTo.k t_into (by decide)).eI hEs38 (by decide) rfl).trans ev31
          have Y39 : (zI s38 rP nn).toInt = uvl tc Ln sp := by first | (rw [show zI s38 rP = zI s27 rP from funext fun k => (hTo.k trP (by decide)).eI hEs38 (by decide) rfl]; exact P33) | rw [show zI s38 rP = zI s27 rP from funext fun k => (hTo.k trP (by decide)).eI hEs38 (by decide) rfl]
          have Y40 : ∀ j : Nat, j < nn → zI s38 rP j = zI σ0 rP j := by first | (rw [show zI s38 rP = zI s27 rP from funext fun k => (hTo.k trP (by decide)).eI hEs38 (by decide) rfl]; exact P34) | rw [show zI s38 rP = zI s27 rP from funext fun k => (hTo.k trP (by decide)).eI hEs38 (by decide) rfl]
          have Y41 : ∀ j : Nat, j < nn → zI s38 rO j = zI σ0 rO j := by first | (rw [show zI s38 rO = zI s27 rO from funext fun k => (hTo.k trO (by decide)).eI hEs38 (by decide) rfl]; exact P35) | rw [show zI s38 rO = zI s27 rO from funext fun k => (hTo.k trO (by decide)).eI hEs38 (by decide) rfl]
          have Y42 : (zI s38 rO nn).toInt = uvq (utkK tc Ln) (unxt tc Ln) (uvl tc Ln) sp := by first | (rw [show zI s38 rO = zI s27 rO from funext fun k => (hTo.k trO (by decide)).eI hEs38 (by decide) rfl]; exact P36) | rw [show zI s38 rO = zI s27 rO from funext fun k => (hTo.k trO (by decide)).eI hEs38 (by decide) rfl]
          obtain ⟨f43, f44, f45⟩ := hφ
          subst hQ9
          exact t_z hx hb hr f45 hlocks hT ⟨Or.inl ⟨by omega, by omega, by omega, by rw [hsv]; omega, by rw [hsv]; exact f44, by rw [(show zI s38 into 2 = v31 from ev31)]; omega, by rw [erP]; exact Y39, ((show zI s38 this 2 = v1 from ev1).trans zthis2.symm), ((show zI s38 this 3 = v2 from ev2).trans zthis3.symm), hT.eI t_into (by decide) rfl rfl, hT.eI t_into (by decide) rfl rfl, hT.eI t_into (by decide) rfl rfl, hT.eI t_into (by decide) rfl rfl, by rw [erP]; exact Y40, by rw [erO]; exact Y41, by rw [erO]; exact Y42⟩, f45⟩ dX3_readSample_114
        · have c5 := gi_ne c9
          refine lv_aload_n hx hb dX3_readSample_83 rfl (lv_at hl 2 rfl) ?_
          refine lv_iconst (v := 1) hx hb dX3_readSample_84 (by decide) ?_
          have cz46 : zI s13 this 5 = v20 := ev20
          have hTo := hT
          refine tVi (n := 1) (As := [.int 1]) (rest := []) hx hb hml hown hg hT hK hX (X3s_isWrong l κ s13 this 1  (hT.k t_this (by decide)) (h0.tr (funext fun k => by rw [erB]; exact hT.eI trB (by decide) rfl rfl) (hT.eI t_this (by decide) rfl rfl))) sub_fW23_fRs (mwV k779 k781 k23 k85 k782) ⟨rfl, by decide, by decide, by decide +kernel⟩ ⟨(Nat.le_of_ble_eq_true rfl), (Nat.le_of_ble_eq_true rfl)⟩ (hT.o6 (hT.k t_this (by decide))) rfl rfl hl.1 rfl (Nat.le_of_ble_eq_true rfl) dX3_readSample_85 zroom.rf (fun x47 s48 H locs hφ hEs48 hT => ?_)
          have ev3 : zI s48 into 2 = v3 := ((hTo.k t_into (by decide)).eI hEs48 (by decide) rfl).trans ev3
          have ev19 : zI s48 this 4 = v19 := ((hTo.k t_this (by decide)).eI hEs48 (by decide) rfl).trans ev19
          have ev20 : zI s48 this 5 = v20 := ((hTo.k t_this (by decide)).eI hEs48 (by decide) rfl).trans ev20
          have ev22 : zI s48 this 6 = v22 := ((hTo.k t_this (by decide)).eI hEs48 (by decide) rfl).trans ev22
          have ev24 : zI s48 this 7 = v24 := ((hTo.k t_this (by decide)).eI hEs48 (by decide) rfl).trans ev24
          have Y49 : zI s48 rP = zI σ0 rP := by first | (rw [show zI s48 rP = zI s13 rP from funext fun k => (hTo.k trP (by decide)).eI hEs48 (by decide) rfl]; exact Y14) | rw [show zI s48 rP = zI s13 rP from funext fun k => (hTo.k trP (by decide)).eI hEs48 (by decide) rfl]
          have Y50 : zI s48 rO = zI σ0 rO := by first | (rw [show zI s48 rO = zI s13 rO from funext fun k => (hTo.k trO (by decide)).eI hEs48 (by decide) rfl]; exact Y15) | rw [show zI s48 rO = zI s13 rO from funext fun k => (hTo.k trO (by decide)).eI hEs48 (by decide) rfl]
          obtain ⟨f51, f52, f53, f54⟩ := hφ
          have wr55 : (zI s48 this 3).toInt = (unxt tc Ln sp) := by rw [f53, cz46]; omega
          subst hQ9
          exact t_z hx hb hr f54 hlocks hT ⟨Or.inr ⟨by omega, 1, ((svq (utkK tc Ln) (unxt tc Ln) sp) : Nat), Or.inr (Or.inr ⟨by omega, by omega, by rw [hsv]; omega, rfl, rfl⟩), by omega, by rw [wr55, hsv]⟩, f54⟩ dX3_readSample_88
      · have c6 := gi_eq c9
        refine lv_iconst (v := 1) hx hb dX3_readSample_60 (by decide) ?_
        refine lv_goto (tgt := 65) hx hb dX3_readSample_61 (by decide) ?_
        refine lv_istore_n (lv' := [(3, .int 1), (2, .int v10), (0, .ref this), (1, .ref into)]) hx hb dX3_readSample_65 rfl hl (by decide) rfl (fun ls hl => ?_)
        refine lv_iload_n hx hb dX3_readSample_66 rfl (lv_at hl 0 rfl) ?_
        refine lv_if_eq (tgt := 75) hx hb dX3_readSample_67 (by decide) (fun c9 => absurd c9 (by decide)) (fun _ => ?_)
        refine lv_aload_n hx hb dX3_readSample_70 rfl (lv_at hl 2 rfl) ?_
        have hTo := hT
        refine tVi (n := 0) (As := []) (rest := []) hx hb hml hown hg hT hK hX (X3s_pass l κ s13 this  (hT.k t_this (by decide)) (h0.tr (funext fun k => by rw [erB]; exact hT.eI trB (by decide) rfl rfl) (hT.eI t_this (by decide) rfl rfl)) (show (zI s13 this 6).toInt = (utkE tc Ln (unxt tc Ln sp) : Nat) from by rw [(show zI s13 this 6 = v22 from ev22)]; omega) (utkE_le tk258)) sub_fP_fRs (mwV k697 k699 k17 k85 k700) ⟨rfl, by decide, by decide, by decide +kernel⟩ ⟨(Nat.le_of_ble_eq_true rfl), (Nat.le_of_ble_eq_true rfl)⟩ (hT.o6 (hT.k t_this (by decide))) rfl rfl hl.1 rfl (Nat.le_of_ble_eq_true rfl) dX3_readSample_71 zroom.rf (fun x56 s57 H locs hφ hEs57 hT => ?_)
        have ev1 : zI s57 this 2 = v1 := ((hTo.k t_this (by decide)).eI hEs57 (by decide) rfl).trans ev1
        have ev2 : zI s57 this 3 = v2 := ((hTo.k t_this (by decide)).eI hEs57 (by decide) rfl).trans ev2
        have ev3 : zI s57 into 2 = v3 := ((hTo.k t_into (by decide)).eI hEs57 (by decide) rfl).trans ev3
        have Y58 : zI s57 rP = zI σ0 rP := by first | (rw [show zI s57 rP = zI s13 rP from funext fun k => (hTo.k trP (by decide)).eI hEs57 (by decide) rfl]; exact Y14) | rw [show zI s57 rP = zI s13 rP from funext fun k => (hTo.k trP (by decide)).eI hEs57 (by decide) rfl]
        have Y59 : zI s57 rO = zI σ0 rO := by first | (rw [show zI s57 rO = zI s13 rO from funext fun k => (hTo.k trO (by decide)).eI hEs57 (by decide) rfl]; exact Y15) | rw [show zI s57 rO = zI s13 rO from funext fun k => (hTo.k trO (by decide)).eI hEs57 (by decide) rfl]
        obtain ⟨f60, f61, f62⟩ := hφ
        obtain ⟨v63, ev63⟩ : ∃ zz9 : Int32, zI s57 this 4 = zz9 := ⟨_, rfl⟩
        have qv63 : v63.toInt = (zI s57 this 4).toInt := by rw [ev63]
        obtain ⟨v64, ev64⟩ : ∃ zz9 : Int32, zI s57 this 5 = zz9 := ⟨_, rfl⟩
        have qv64 : v64.toInt = (zI s57 this 5).toInt := by rw [ev64]
        have b65 := (hT.P (hT.k t_this (by decide)) (by decide)).2.1
        rw [ev64] at b65
        have b65l := b65.1
        have b65h := b65.2
        obtain ⟨v66, ev66⟩ : ∃ zz9 : Int32, zI s57 this 6 = zz9 := ⟨_, rfl⟩
        have qv66 : v66.toInt = (zI s57 this 6).toInt := by rw [ev66]
        have b67 := (hT.P (hT.k t_this (by decide)) (by decide)).2.2
        rw [ev66] at b67
        have b67l := b67.1
        have b67h := b67.2
        obtain ⟨v68, ev68⟩ : ∃ zz9 : Int32, zI s57 this 7 = zz9 := ⟨_, rfl⟩
        have qv68 : v68.toInt = (zI s57 this 7).toInt := by rw [ev68]
        have tk69 : TKv v63 v64 v66 v68 tc Ln (unxt tc Ln (unxt tc Ln sp)) := by have z9 := f61; unfold TKc at z9; rw [(show zI s57 this 4 = v63 from ev63), (show zI s57 this 5 = v64 from ev64), (show zI s57 this 6 = v66 from ev66), (show zI s57 this 7 = v68 from ev68)] at z9; exact z9
        obtain ⟨tk694, tk695, tk696, tk697, tk698⟩ := id tk69
        refine lv_pop hx hb dX3_readSample_74 rfl ?_
        have hsv : (svq (utkK tc Ln) (unxt tc Ln) sp) = (unxt tc Ln (unxt tc Ln sp)) := if_pos (by omega)
        refine lv_aload_n hx hb dX3_readSample_75 rfl (lv_at hl 2 rfl) ?_
        refine va_get (D := κ.1) (ci := 3) (v := .int (zI s57 this 4)) (C := RX3) (T := TX3) (N := 8) hx hb hg inX3 hown hK (hT.o6 (hT.k t_this (by decide))).one 0 rfl rfl 4 (by decide) (hg _ k126) (fun _ h9 => h9) rfl dX3_readSample_76 ?_
        rw [ev63]
        refine lv_iconst (v := 2) hx hb dX3_readSample_79 (by decide) ?_
        refine lv_icmp_eq (tgt := 89) hx hb dX3_readSample_80 (by decide) (fun c9 => ?_) (fun c9 => ?_)
        · have c7 := gi_eq c9
          have hv8 := tk697 (by omega)
          have hvb8 := uvl_b (c := tc) (L := Ln) (s := (unxt tc Ln (unxt tc Ln sp))) (by omega)
          have hq9 : uvq (utkK tc Ln) (unxt tc Ln) (uvl tc Ln) sp = -(uvl tc Ln (unxt tc Ln (unxt tc Ln sp))) := (if_pos (show utkK tc Ln (unxt tc Ln sp) = 4 by omega)).trans (by show -(uvl tc Ln (svq (utkK tc Ln) (unxt tc Ln) sp)) = _; rw [hsv])
          refine lv_aload_n hx hb dX3_readSample_89 rfl (lv_at hl 3 rfl) ?_
          refine lv_iload_n hx hb dX3_readSample_90 rfl (lv_at hl 1 rfl) ?_
          refine lv_iload_n hx hb dX3_readSample_91 rfl (lv_at hl 0 rfl) ?_
          refine lv_if_eq (tgt := 103) hx hb dX3_readSample_92 (by decide) (fun c9 => absurd c9 (by decide)) (fun _ => ?_)
          refine lv_aload_n hx hb dX3_readSample_95 rfl (lv_at hl 2 rfl) ?_
          refine va_get (D := κ.1) (ci := 3) (v := .int (zI s57 this 7)) (C := RX3) (T := TX3) (N := 8) hx hb hg inX3 hown hK (hT.o6 (hT.k t_this (by decide))).one 0 rfl rfl 7 (by decide) (hg _ k129) (fun _ h9 => h9) rfl dX3_readSample_96 ?_
          rw [ev68]
          refine lv_ineg hx hb dX3_readSample_99 ?_
          refine lv_topi (fun t70 ht70 => ?_)
          refine lv_goto (tgt := 107) hx hb dX3_readSample_100 (by decide) ?_
          have hTo := hT
          refine tVv (n := 2) (As := [.int v10, .int t70]) (rest := []) hx hb hml hown hg hT hK hX (X0s_addSample l κ s57 into v10 t70  (hT.k t_into (by decide)) (show (zI s57 into 2).toInt = (nn : Nat) from by rw [(show zI s57 into 2 = v3 from ev3)]; omega) (by omega)) sub_fAd_fRs (mwV k812 k329 k330 k86 k331) ⟨rfl, by decide, by decide, by decide +kernel⟩ ⟨(Nat.le_of_ble_eq_true rfl), (Nat.le_of_ble_eq_true rfl)⟩ (hT.o5 (hT.k t_into (by decide))) rfl rfl hl.1 rfl (Nat.le_of_ble_eq_true rfl) dX3_readSample_107 zroom.rf (fun s72 H locs hφ hEs72 hT => ?_)
          have ev1 : zI s72 this 2 = v1 := ((hTo.k t_this (by decide)).eI hEs72 (by decide) rfl).trans ev1
          have ev2 : zI s72 this 3 = v2 := ((hTo.k t_this (by decide)).eI hEs72 (by decide) rfl).trans ev2
          have ev63 : zI s72 this 4 = v63 := ((hTo.k t_this (by decide)).eI hEs72 (by decide) rfl).trans ev63
          have ev64 : zI s72 this 5 = v64 := ((hTo.k t_this (by decide)).eI hEs72 (by decide) rfl).trans ev64
          have ev66 : zI s72 this 6 = v66 := ((hTo.k t_this (by decide)).eI hEs72 (by decide) rfl).trans ev66
          have ev68 : zI s72 this 7 = v68 := ((hTo.k t_this (by decide)).eI hEs72 (by decide) rfl).trans ev68
          obtain ⟨f73, f74, f75⟩ := hφ
          rw [erP] at f74
          obtain ⟨v76, ev76⟩ : ∃ zz9 : Int32, zI s72 into 2 = zz9 := ⟨_, rfl⟩
          have qv76 : v76.toInt = (zI s72 into 2).toInt := by rw [ev76]
          have b77 := (hT.P (hT.k t_into (by decide)) (by decide)).1
          rw [ev76] at b77
          have b77l := b77.1
          have b77h := b77.2
          rw [(show zI s72 into 2 = v76 from ev76)] at f73
          have P78 : (zI s72 rP nn).toInt = uvl tc Ln sp := by rw [f74 nn, if_pos rfl]; omega
          rw [erO] at f75
          have P79 : ∀ j : Nat, j < nn → zI s72 rP j = zI σ0 rP j := fun j hj => by rw [f74 j, if_neg (by omega), Y58]
          have P80 : ∀ j : Nat, j < nn → zI s72 rO j = zI σ0 rO j := fun j hj => by rw [f75 j, if_neg (by omega), Y59]
          have P81 : (zI s72 rO nn).toInt = uvq (utkK tc Ln) (unxt tc Ln) (uvl tc Ln) sp := by rw [f75 nn, if_pos rfl, hq9]; omega
          refine lv_aload_n hx hb dX3_readSample_110 rfl (lv_at hl 2 rfl) ?_
          have hTo := hT
          refine tVi (n := 0) (As := []) (rest := []) hx hb hml hown hg hT hK hX (X3s_pass l κ s72 this  (hT.k t_this (by decide)) (h0.tr (funext fun k => by rw [erB]; exact hT.eI trB (by decide) rfl rfl) (hT.eI t_this (by decide) rfl rfl)) (show (zI s72 this 6).toInt = (utkE tc Ln (unxt tc Ln (unxt tc Ln sp)) : Nat) from by rw [(show zI s72 this 6 = v66 from ev66)]; omega) (utkE_le tk698)) sub_fP_fRs (mwV k697 k699 k17 k85 k700) ⟨rfl, by decide, by decide, by decide +kernel⟩ ⟨(Nat.le_of_ble_eq_true rfl), (Nat.le_of_ble_eq_true rfl)⟩ (hT.o6 (hT.k t_this (by decide))) rfl rfl hl.1 rfl (Nat.le_of_ble_eq_true rfl) dX3_readSample_111 zroom.rf (fun x82 s83 H locs hφ hEs83 hT => ?_)
          have ev1 : zI s83 this 2 = v1 := ((hTo.k t_this (by decide)).eI hEs83 (by decide) rfl).trans ev1
          have ev2 : zI s83 this 3 = v2 := ((hTo.k t_this (by decide)).eI hEs83 (by decide) rfl).trans ev2
          have ev76 : zI s83 into 2 = v76 := ((hTo.k t_into (by decide)).eI hEs83 (by decide) rfl).trans ev76
          have Y84 : (zI s83 rP nn).toInt = uvl tc Ln sp := by first | (rw [show zI s83 rP = zI s72 rP from funext fun k => (hTo.k trP (by decide)).eI hEs83 (by decide) rfl]; exact P78) | rw [show zI s83 rP = zI s72 rP from funext fun k => (hTo.k trP (by decide)).eI hEs83 (by decide) rfl]
          have Y85 : ∀ j : Nat, j < nn → zI s83 rP j = zI σ0 rP j := by first | (rw [show zI s83 rP = zI s72 rP from funext fun k => (hTo.k trP (by decide)).eI hEs83 (by decide) rfl]; exact P79) | rw [show zI s83 rP = zI s72 rP from funext fun k => (hTo.k trP (by decide)).eI hEs83 (by decide) rfl]
          have Y86 : ∀ j : Nat, j < nn → zI s83 rO j = zI σ0 rO j := by first | (rw [show zI s83 rO = zI s72 rO from funext fun k => (hTo.k trO (by decide)).eI hEs83 (by decide) rfl]; exact P80) | rw [show zI s83 rO = zI s72 rO from funext fun k => (hTo.k trO (by decide)).eI hEs83 (by decide) rfl]
          have Y87 : (zI s83 rO nn).toInt = uvq (utkK tc Ln) (unxt tc Ln) (uvl tc Ln) sp := by first | (rw [show zI s83 rO = zI s72 rO from funext fun k => (hTo.k trO (by decide)).eI hEs83 (by decide) rfl]; exact P81) | rw [show zI s83 rO = zI s72 rO from funext fun k => (hTo.k trO (by decide)).eI hEs83 (by decide) rfl]
          obtain ⟨f88, f89, f90⟩ := hφ
          subst hQ9
          exact t_z hx hb hr f90 hlocks hT ⟨Or.inl ⟨by omega, by omega, by omega, by rw [hsv]; omega, by rw [hsv]; exact f89, by rw [(show zI s83 into 2 = v76 from ev76)]; omega, by rw [erP]; exact Y84, ((show zI s83 this 2 = v1 from ev1).trans zthis2.symm), ((show zI s83 this 3 = v2 from ev2).trans zthis3.symm), hT.eI t_into (by decide) rfl rfl, hT.eI t_into (by decide) rfl rfl, hT.eI t_into (by decide) rfl rfl, hT.eI t_into (by decide) rfl rfl, by rw [erP]; exact Y85, by rw [erO]; exact Y86, by rw [erO]; exact Y87⟩, f90⟩ dX3_readSample_114
        · have c8 := gi_ne c9
          refine lv_aload_n hx hb dX3_readSample_83 rfl (lv_at hl 2 rfl) ?_
          refine lv_iconst (v := 1) hx hb dX3_readSample_84 (by decide) ?_
          have cz91 : zI s57 this 5 = v64 := ev64
          have hTo := hT
          refine tVi (n := 1) (As := [.int 1]) (rest := []) hx hb hml hown hg hT hK hX (X3s_isWrong l κ s57 this 1  (hT.k t_this (by decide)) (h0.tr (funext fun k => by rw [erB]; exact hT.eI trB (by decide) rfl rfl) (hT.eI t_this (by decide) rfl rfl))) sub_fW23_fRs (mwV k779 k781 k23 k85 k782) ⟨rfl, by decide, by decide, by decide +kernel⟩ ⟨(Nat.le_of_ble_eq_true rfl), (Nat.le_of_ble_eq_true rfl)⟩ (hT.o6 (hT.k t_this (by decide))) rfl rfl hl.1 rfl (Nat.le_of_ble_eq_true rfl) dX3_readSample_85 zroom.rf (fun x92 s93 H locs hφ hEs93 hT => ?_)
          have ev3 : zI s93 into 2 = v3 := ((hTo.k t_into (by decide)).eI hEs93 (by decide) rfl).trans ev3
          have ev63 : zI s93 this 4 = v63 := ((hTo.k t_this (by decide)).eI hEs93 (by decide) rfl).trans ev63
          have ev64 : zI s93 this 5 = v64 := ((hTo.k t_this (by decide)).eI hEs93 (by decide) rfl).trans ev64
          have ev66 : zI s93 this 6 = v66 := ((hTo.k t_this (by decide)).eI hEs93 (by decide) rfl).trans ev66
          have ev68 : zI s93 this 7 = v68 := ((hTo.k t_this (by decide)).eI hEs93 (by decide) rfl).trans ev68
          have Y94 : zI s93 rP = zI σ0 rP := by first | (rw [show zI s93 rP = zI s57 rP from funext fun k => (hTo.k trP (by decide)).eI hEs93 (by decide) rfl]; exact Y58) | rw [show zI s93 rP = zI s57 rP from funext fun k => (hTo.k trP (by decide)).eI hEs93 (by decide) rfl]
          have Y95 : zI s93 rO = zI σ0 rO := by first | (rw [show zI s93 rO = zI s57 rO from funext fun k => (hTo.k trO (by decide)).eI hEs93 (by decide) rfl]; exact Y59) | rw [show zI s93 rO = zI s57 rO from funext fun k => (hTo.k trO (by decide)).eI hEs93 (by decide) rfl]
          obtain ⟨f96, f97, f98, f99⟩ := hφ
          have wr100 : (zI s93 this 3).toInt = (unxt tc Ln (unxt tc Ln sp)) := by rw [f98, cz91]; omega
          subst hQ9
          exact t_z hx hb hr f99 hlocks hT ⟨Or.inr ⟨by omega, 1, ((svq (utkK tc Ln) (unxt tc Ln) sp) : Nat), Or.inr (Or.inr ⟨by omega, by omega, by rw [hsv]; omega, rfl, rfl⟩), by omega, by rw [wr100, hsv]⟩, f99⟩ dX3_readSample_88
    · have c9 := gi_nle c9
      refine lv_iload_n hx hb dX3_readSample_26 rfl (lv_at hl 0 rfl) ?_
      refine lv_aload_n hx hb dX3_readSample_27 rfl (lv_at hl 2 rfl) ?_
      refine va_get (D := κ.1) (ci := 0) (v := .ref (kR κ into 0)) (C := RX0) (T := TX0) (N := 7) hx hb hg inX0 hown hK (hT.o5 (hT.k t_into (by decide))).one 0 rfl rfl 0 (by decide) (hg _ k156) (fun _ h9 => h9) rfl dX3_readSample_28 ?_
      rw [erP]
      refine lv_aload_n hx hb dX3_readSample_31 rfl (lv_at hl 2 rfl) ?_
      refine va_get (D := κ.1) (ci := 0) (v := .int (zI σ0 into 2)) (C := RX0) (T := TX0) (N := 7) hx hb hg inX0 hown hK (hT.o5 (hT.k t_into (by decide))).one 0 rfl rfl 2 (by decide) (hg _ k164) (fun _ h9 => h9) rfl dX3_readSample_32 ?_
      rw [ev3]
      refine lv_iconst (v := 1) hx hb dX3_readSample_35 (by decide) ?_
      refine lv_isub hx hb dX3_readSample_36 ?_
      first | refine g_sub (by omega) (by omega) (fun t101 ht101 => ?_) | refine lv_topi (fun t101 ht101 => ?_)
      refine va_iald hx hb hK (hT.o17 (hT.k trP (by decide))).one 0 0 rfl rfl (g_in (by omega) (by omega)) dX3_readSample_37 ?_
      refine lv_topi (fun t102 ht102 => ?_)
      have y9 : t102.toInt = vv := by have z9 := h4.resolve_left (by omega); rw [erP] at z9; rw [← z9.2, ht102, ← show ix t101 = nn - 1 from by unfold ix; omega]; rfl
      refine lv_icmp_gt (tgt := 47) hx hb dX3_readSample_38 (by decide) (fun c9 => ?_) (fun c9 => ?_)
      · have c10 := gi_lt c9
        refine lv_aload_n hx hb dX3_readSample_47 rfl (lv_at hl 1 rfl) ?_
        have hTo := hT
        refine tVi (n := 0) (As := []) (rest := []) hx hb hml hown hg hT hK hX (X3s_pass l κ σ0 this  (hT.k t_this (by decide)) h0 (show (zI σ0 this 6).toInt = (utkE tc Ln sp : Nat) from by rw [(show zI σ0 this 6 = v8 from ev8)]; omega) (utkE_le tk118)) sub_fP_fRs (mwV k697 k699 k17 k85 k700) ⟨rfl, by decide, by decide, by decide +kernel⟩ ⟨(Nat.le_of_ble_eq_true rfl), (Nat.le_of_ble_eq_true rfl)⟩ (hT.o6 (hT.k t_this (by decide))) rfl rfl hl.1 rfl (Nat.le_of_ble_eq_true rfl) dX3_readSample_48 zroom.rf (fun x103 s104 H locs hφ hEs104 hT => ?_)
        have ev1 : zI s104 this 2 = v1 := ((hTo.k t_this (by decide)).eI hEs104 (by decide) rfl).trans ev1
        have ev2 : zI s104 this 3 = v2 := ((hTo.k t_this (by decide)).eI hEs104 (by decide) rfl).trans ev2
        have ev3 : zI s104 into 2 = v3 := ((hTo.k t_into (by decide)).eI hEs104 (by decide) rfl).trans ev3
        have Y105 : zI s104 rP = zI σ0 rP := by first | (rw [show zI s104 rP = zI σ0 rP from funext fun k => (hTo.k trP (by decide)).eI hEs104 (by decide) rfl]; exact b0p) | rw [show zI s104 rP = zI σ0 rP from funext fun k => (hTo.k trP (by decide)).eI hEs104 (by decide) rfl]
        have Y106 : zI s104 rO = zI σ0 rO := by first | (rw [show zI s104 rO = zI σ0 rO from funext fun k => (hTo.k trO (by decide)).eI hEs104 (by decide) rfl]; exact b0o) | rw [show zI s104 rO = zI σ0 rO from funext fun k => (hTo.k trO (by decide)).eI hEs104 (by decide) rfl]
        obtain ⟨f107, f108, f109⟩ := hφ
        obtain ⟨v110, ev110⟩ : ∃ zz9 : Int32, zI s104 this 4 = zz9 := ⟨_, rfl⟩
        have qv110 : v110.toInt = (zI s104 this 4).toInt := by rw [ev110]
        obtain ⟨v111, ev111⟩ : ∃ zz9 : Int32, zI s104 this 5 = zz9 := ⟨_, rfl⟩
        have qv111 : v111.toInt = (zI s104 this 5).toInt := by rw [ev111]
        have b112 := (hT.P (hT.k t_this (by decide)) (by decide)).2.1
        rw [ev111] at b112
        have b112l := b112.1
        have b112h := b112.2
        obtain ⟨v113, ev113⟩ : ∃ zz9 : Int32, zI s104 this 6 = zz9 := ⟨_, rfl⟩
        have qv113 : v113.toInt = (zI s104 this 6).toInt := by rw [ev113]
        have b114 := (hT.P (hT.k t_this (by decide)) (by decide)).2.2
        rw [ev113] at b114
        have b114l := b114.1
        have b114h := b114.2
        obtain ⟨v115, ev115⟩ : ∃ zz9 : Int32, zI s104 this 7 = zz9 := ⟨_, rfl⟩
        have qv115 : v115.toInt = (zI s104 this 7).toInt := by rw [ev115]
        have tk116 : TKv v110 v111 v113 v115 tc Ln (unxt tc Ln sp) := by have z9 := f108; unfold TKc at z9; rw [(show zI s104 this 4 = v110 from ev110), (show zI s104 this 5 = v111 from ev111), (show zI s104 this 6 = v113 from ev113), (show zI s104 this 7 = v115 from ev115)] at z9; exact z9
        obtain ⟨tk1164, tk1165, tk1166, tk1167, tk1168⟩ := id tk116
        refine lv_pop hx hb dX3_readSample_51 rfl ?_
        refine lv_aload_n hx hb dX3_readSample_52 rfl (lv_at hl 1 rfl) ?_
        refine va_get (D := κ.1) (ci := 3) (v := .int (zI s104 this 4)) (C := RX3) (T := TX3) (N := 8) hx hb hg inX3 hown hK (hT.o6 (hT.k t_this (by decide))).one 0 rfl rfl 4 (by decide) (hg _ k126) (fun _ h9 => h9) rfl dX3_readSample_53 ?_
        rw [ev110]
        refine lv_iconst (v := 4) hx hb dX3_readSample_56 (by decide) ?_
        refine lv_icmp_ne (tgt := 64) hx hb dX3_readSample_57 (by decide) (fun c9 => ?_) (fun c9 => ?_)
        · have c11 := gi_ne c9
          refine lv_iconst (v := 0) hx hb dX3_readSample_64 (by decide) ?_
          refine lv_istore_n (lv' := [(3, .int 0), (2, .int v10), (0, .ref this), (1, .ref into)]) hx hb dX3_readSample_65 rfl hl (by decide) rfl (fun ls hl => ?_)
          refine lv_iload_n hx hb dX3_readSample_66 rfl (lv_at hl 0 rfl) ?_
          refine lv_if_eq (tgt := 75) hx hb dX3_readSample_67 (by decide) (fun _ => ?_) (fun c9 => absurd (by decide) c9)
          have hsv : (svq (utkK tc Ln) (unxt tc Ln) sp) = (unxt tc Ln sp) := if_neg (by omega)
          refine lv_aload_n hx hb dX3_readSample_75 rfl (lv_at hl 2 rfl) ?_
          refine va_get (D := κ.1) (ci := 3) (v := .int (zI s104 this 4)) (C := RX3) (T := TX3) (N := 8) hx hb hg inX3 hown hK (hT.o6 (hT.k t_this (by decide))).one 0 rfl rfl 4 (by decide) (hg _ k126) (fun _ h9 => h9) rfl dX3_readSample_76 ?_
          rw [ev110]
          refine lv_iconst (v := 2) hx hb dX3_readSample_79 (by decide) ?_
          refine lv_icmp_eq (tgt := 89) hx hb dX3_readSample_80 (by decide) (fun c9 => ?_) (fun c9 => ?_)
          · have c12 := gi_eq c9
            have hv8 := tk1167 (by omega)
            have hvb8 := uvl_b (c := tc) (L := Ln) (s := (unxt tc Ln sp)) (by omega)
            have hq9 : uvq (utkK tc Ln) (unxt tc Ln) (uvl tc Ln) sp = (uvl tc Ln (unxt tc Ln sp)) := (if_neg (show ¬ utkK tc Ln (unxt tc Ln sp) = 4 by omega)).trans (by show (uvl tc Ln (svq (utkK tc Ln) (unxt tc Ln) sp)) = _; rw [hsv])
            refine lv_aload_n hx hb dX3_readSample_89 rfl (lv_at hl 3 rfl) ?_
            refine lv_iload_n hx hb dX3_readSample_90 rfl (lv_at hl 1 rfl) ?_
            refine lv_iload_n hx hb dX3_readSample_91 rfl (lv_at hl 0 rfl) ?_
            refine lv_if_eq (tgt := 103) hx hb dX3_readSample_92 (by decide) (fun _ => ?_) (fun c9 => absurd (by decide) c9)
            refine lv_aload_n hx hb dX3_readSample_103 rfl (lv_at hl 2 rfl) ?_
            refine va_get (D := κ.1) (ci := 3) (v := .int (zI s104 this 7)) (C := RX3) (T := TX3) (N := 8) hx hb hg inX3 hown hK (hT.o6 (hT.k t_this (by decide))).one 0 rfl rfl 7 (by decide) (hg _ k129) (fun _ h9 => h9) rfl dX3_readSample_104 ?_
            rw [ev115]
            have hTo := hT
            refine tVv (n := 2) (As := [.int v10, .int v115]) (rest := []) hx hb hml hown hg hT hK hX (X0s_addSample l κ s104 into v10 v115  (hT.k t_into (by decide)) (show (zI s104 into 2).toInt = (nn : Nat) from by rw [(show zI s104 into 2 = v3 from ev3)]; omega) (by omega)) sub_fAd_fRs (mwV k812 k329 k330 k86 k331) ⟨rfl, by decide, by decide, by decide +kernel⟩ ⟨(Nat.le_of_ble_eq_true rfl), (Nat.le_of_ble_eq_true rfl)⟩ (hT.o5 (hT.k t_into (by decide))) rfl rfl hl.1 rfl (Nat.le_of_ble_eq_true rfl) dX3_readSample_107 zroom.rf (fun s118 H locs hφ hEs118 hT => ?_)
            have ev1 : zI s118 this 2 = v1 := ((hTo.k t_this (by decide)).eI hEs118 (by decide) rfl).trans ev1
            have ev2 : zI s118 this 3 = v2 := ((hTo.k t_this (by decide)).eI hEs118 (by decide) rfl).trans ev2
            have ev110 : zI s118 this 4 = v110 := ((hTo.k t_this (by decide)).eI hEs118 (by decide) rfl).trans ev110
            have ev111 : zI s118 this 5 = v111 := ((hTo.k t_this (by decide)).eI hEs118 (by decide) rfl).trans ev111
            have ev113 : zI s118 this 6 = v113 := ((hTo.k t_this (by decide)).eI hEs118 (by decide) rfl).trans ev113
            have ev115 : zI s118 this 7 = v115 := ((hTo.k t_this (by decide)).eI hEs118 (by decide) rfl).trans ev115
            obtain ⟨f119, f120, f121⟩ := hφ
            rw [erP] at f120
            obtain ⟨v122, ev122⟩ : ∃ zz9 : Int32, zI s118 into 2 = zz9 := ⟨_, rfl⟩
            have qv122 : v122.toInt = (zI s118 into 2).toInt := by rw [ev122]
            have b123 := (hT.P (hT.k t_into (by decide)) (by decide)).1
            rw [ev122] at b123
            have b123l := b123.1
            have b123h := b123.2
            rw [(show zI s118 into 2 = v122 from ev122)] at f119
            have P124 : (zI s118 rP nn).toInt = uvl tc Ln sp := by rw [f120 nn, if_pos rfl]; omega
            rw [erO] at f121
            have P125 : ∀ j : Nat, j < nn → zI s118 rP j = zI σ0 rP j := fun j hj => by rw [f120 j, if_neg (by omega), Y105]
            have P126 : ∀ j : Nat, j < nn → zI s118 rO j = zI σ0 rO j := fun j hj => by rw [f121 j, if_neg (by omega), Y106]
            have P127 : (zI s118 rO nn).toInt = uvq (utkK tc Ln) (unxt tc Ln) (uvl tc Ln) sp := by rw [f121 nn, if_pos rfl, hq9]; omega
            refine lv_aload_n hx hb dX3_readSample_110 rfl (lv_at hl 2 rfl) ?_
            have hTo := hT
            refine tVi (n := 0) (As := []) (rest := []) hx hb hml hown hg hT hK hX (X3s_pass l κ s118 this  (hT.k t_this (by decide)) (h0.tr (funext fun k => by rw [erB]; exact hT.eI trB (by decide) rfl rfl) (hT.eI t_this (by decide) rfl rfl)) (show (zI s118 this 6).toInt = (utkE tc Ln (unxt tc Ln sp) : Nat) from by rw [(show zI s118 this 6 = v113 from ev113)]; omega) (utkE_le tk1168)) sub_fP_fRs (mwV k697 k699 k17 k85 k700) ⟨rfl, by decide, by decide, by decide +kernel⟩ ⟨(Nat.le_of_ble_eq_true rfl), (Nat.le_of_ble_eq_true rfl)⟩ (hT.o6 (hT.k t_this (by decide))) rfl rfl hl.1 rfl (Nat.le_of_ble_eq_true rfl) dX3_readSample_111 zroom.rf (fun x128 s129 H locs hφ hEs129 hT => ?_)
            have ev1 : zI s129 this 2 = v1 := ((hTo.k t_this (by decide)).eI hEs129 (by decide) rfl).trans ev1
            have ev2 : zI s129 this 3 = v2 := ((hTo.k t_this (by decide)).eI hEs129 (by decide) rfl).trans ev2
            have ev122 : zI s129 into 2 = v122 := ((hTo.k t_into (by decide)).eI hEs129 (by decide) rfl).trans ev122
            have Y130 : (zI s129 rP nn).toInt = uvl tc Ln sp := by first | (rw [show zI s129 rP = zI s118 rP from funext fun k => (hTo.k trP (by decide)).eI hEs129 (by decide) rfl]; exact P124) | rw [show zI s129 rP = zI s118 rP from funext fun k => (hTo.k trP (by decide)).eI hEs129 (by decide) rfl]
            have Y131 : ∀ j : Nat, j < nn → zI s129 rP j = zI σ0 rP j := by first | (rw [show zI s129 rP = zI s118 rP from funext fun k => (hTo.k trP (by decide)).eI hEs129 (by decide) rfl]; exact P125) | rw [show zI s129 rP = zI s118 rP from funext fun k => (hTo.k trP (by decide)).eI hEs129 (by decide) rfl]
            have Y132 : ∀ j : Nat, j < nn → zI s129 rO j = zI σ0 rO j := by first | (rw [show zI s129 rO = zI s118 rO from funext fun k => (hTo.k trO (by decide)).eI hEs129 (by decide) rfl]; exact P126) | rw [show zI s129 rO = zI s118 rO from funext fun k => (hTo.k trO (by decide)).eI hEs129 (by decide) rfl]
            have Y133 : (zI s129 rO nn).toInt = uvq (utkK tc Ln) (unxt tc Ln) (uvl tc Ln) sp := by first | (rw [show zI s129 rO = zI s118 rO from funext fun k => (hTo.k trO (by decide)).eI hEs129 (by decide) rfl]; exact P127) | rw [show zI s129 rO = zI s118 rO from funext fun k => (hTo.k trO (by decide)).eI hEs129 (by decide) rfl]
            obtain ⟨f134, f135, f136⟩ := hφ
            subst hQ9
            exact t_z hx hb hr f136 hlocks hT ⟨Or.inl ⟨by omega, by omega, by omega, by rw [hsv]; omega, by rw [hsv]; exact f135, by rw [(show zI s129 into 2 = v122 from ev122)]; omega, by rw [erP]; exact Y130, ((show zI s129 this 2 = v1 from ev1).trans zthis2.symm), ((show zI s129 this 3 = v2 from ev2).trans zthis3.symm), hT.eI t_into (by decide) rfl rfl, hT.eI t_into (by decide) rfl rfl, hT.eI t_into (by decide) rfl rfl, hT.eI t_into (by decide) rfl rfl, by rw [erP]; exact Y131, by rw [erO]; exact Y132, by rw [erO]; exact Y133⟩, f136⟩ dX3_readSample_114
          · have c13 := gi_ne c9
            refine lv_aload_n hx hb dX3_readSample_83 rfl (lv_at hl 2 rfl) ?_
            refine lv_iconst (v := 1) hx hb dX3_readSample_84 (by decide) ?_
            have cz137 : zI s104 this 5 = v111 := ev111
            have hTo := hT
            refine tVi (n := 1) (As := [.int 1]) (rest := []) hx hb hml hown hg hT hK hX (X3s_isWrong l κ s104 this 1  (hT.k t_this (by decide)) (h0.tr (funext fun k => by rw [erB]; exact hT.eI trB (by decide) rfl rfl) (hT.eI t_this (by decide) rfl rfl))) sub_fW23_fRs (mwV k779 k781 k23 k85 k782) ⟨rfl, by decide, by decide, by decide +kernel⟩ ⟨(Nat.le_of_ble_eq_true rfl), (Nat.le_of_ble_eq_true rfl)⟩ (hT.o6 (hT.k t_this (by decide))) rfl rfl hl.1 rfl (Nat.le_of_ble_eq_true rfl) dX3_readSample_85 zroom.rf (fun x138 s139 H locs hφ hEs139 hT => ?_)
            have ev3 : zI s139 into 2 = v3 := ((hTo.k t_into (by decide)).eI hEs139 (by decide) rfl).trans ev3
            have ev110 : zI s139 this 4 = v110 := ((hTo.k t_this (by decide)).eI hEs139 (by decide) rfl).trans ev110
            have ev111 : zI s139 this 5 = v111 := ((hTo.k t_this (by decide)).eI hEs139 (by decide) rfl).trans ev111
            have ev113 : zI s139 this 6 = v113 := ((hTo.k t_this (by decide)).eI hEs139 (by decide) rfl).trans ev113
            have ev115 : zI s139 this 7 = v115 := ((hTo.k t_this (by decide)).eI hEs139 (by decide) rfl).trans ev115
            have Y140 : zI s139 rP = zI σ0 rP := by first | (rw [show zI s139 rP = zI s104 rP from funext fun k => (hTo.k trP (by decide)).eI hEs139 (by decide) rfl]; exact Y105) | rw [show zI s139 rP = zI s104 rP from funext fun k => (hTo.k trP (by decide)).eI hEs139 (by decide) rfl]
            have Y141 : zI s139 rO = zI σ0 rO := by first | (rw [show zI s139 rO = zI s104 rO from funext fun k => (hTo.k trO (by decide)).eI hEs139 (by decide) rfl]; exact Y106) | rw [show zI s139 rO = zI s104 rO from funext fun k => (hTo.k trO (by decide)).eI hEs139 (by decide) rfl]
            obtain ⟨f142, f143, f144, f145⟩ := hφ
            have wr146 : (zI s139 this 3).toInt = (unxt tc Ln sp) := by rw [f144, cz137]; omega
            subst hQ9
            exact t_z hx hb hr f145 hlocks hT ⟨Or.inr ⟨by omega, 1, ((svq (utkK tc Ln) (unxt tc Ln) sp) : Nat), Or.inr (Or.inr ⟨by omega, by omega, by rw [hsv]; omega, rfl, rfl⟩), by omega, by rw [wr146, hsv]⟩, f145⟩ dX3_readSample_88
        · have c14 := gi_eq c9
          refine lv_iconst (v := 1) hx hb dX3_readSample_60 (by decide) ?_
          refine lv_goto (tgt := 65) hx hb dX3_readSample_61 (by decide) ?_
          refine lv_istore_n (lv' := [(3, .int 1), (2, .int v10), (0, .ref this), (1, .ref into)]) hx hb dX3_readSample_65 rfl hl (by decide) rfl (fun ls hl => ?_)
          refine lv_iload_n hx hb dX3_readSample_66 rfl (lv_at hl 0 rfl) ?_
          refine lv_if_eq (tgt := 75) hx hb dX3_readSample_67 (by decide) (fun c9 => absurd c9 (by decide)) (fun _ => ?_)
          refine lv_aload_n hx hb dX3_readSample_70 rfl (lv_at hl 2 rfl) ?_
          have hTo := hT
          refine tVi (n := 0) (As := []) (rest := []) hx hb hml hown hg hT hK hX (X3s_pass l κ s104 this  (hT.k t_this (by decide)) (h0.tr (funext fun k => by rw [erB]; exact hT.eI trB (by decide) rfl rfl) (hT.eI t_this (by decide) rfl rfl)) (show (zI s104 this 6).toInt = (utkE tc Ln (unxt tc Ln sp) : Nat) from by rw [(show zI s104 this 6 = v113 from ev113)]; omega) (utkE_le tk1168)) sub_fP_fRs (mwV k697 k699 k17 k85 k700) ⟨rfl, by decide, by decide, by decide +kernel⟩ ⟨(Nat.le_of_ble_eq_true rfl), (Nat.le_of_ble_eq_true rfl)⟩ (hT.o6 (hT.k t_this (by decide))) rfl rfl hl.1 rfl (Nat.le_of_ble_eq_true rfl) dX3_readSample_71 zroom.rf (fun x147 s148 H locs hφ hEs148 hT => ?_)
          have ev1 : zI s148 this 2 = v1 := ((hTo.k t_this (by decide)).eI hEs148 (by decide) rfl).trans ev1
          have ev2 : zI s148 this 3 = v2 := ((hTo.k t_this (by decide)).eI hEs148 (by decide) rfl).trans ev2
          have ev3 : zI s148 into 2 = v3 := ((hTo.k t_into (by decide)).eI hEs148 (by decide) rfl).trans ev3
          have Y149 : zI s148 rP = zI σ0 rP := by first | (rw [show zI s148 rP = zI s104 rP from funext fun k => (hTo.k trP (by decide)).eI hEs148 (by decide) rfl]; exact Y105) | rw [show zI s148 rP = zI s104 rP from funext fun k => (hTo.k trP (by decide)).eI hEs148 (by decide) rfl]
          have Y150 : zI s148 rO = zI σ0 rO := by first | (rw [show zI s148 rO = zI s104 rO from funext fun k => (hTo.k trO (by decide)).eI hEs148 (by decide) rfl]; exact Y106) | rw [show zI s148 rO = zI s104 rO from funext fun k => (hTo.k trO (by decide)).eI hEs148 (by decide) rfl]
          obtain ⟨f151, f152, f153⟩ := hφ
          obtain ⟨v154, ev154⟩ : ∃ zz9 : Int32, zI s148 this 4 = zz9 := ⟨_, rfl⟩
          have qv154 : v154.toInt = (zI s148 this 4).toInt := by rw [ev154]
          obtain ⟨v155, ev155⟩ : ∃ zz9 : Int32, zI s148 this 5 = zz9 := ⟨_, rfl⟩
          have qv155 : v155.toInt = (zI s148 this 5).toInt := by rw [ev155]
          have b156 := (hT.P (hT.k t_this (by decide)) (by decide)).2.1
          rw [ev155] at b156
          have b156l := b156.1
          have b156h := b156.2
          obtain ⟨v157, ev157⟩ : ∃ zz9 : Int32, zI s148 this 6 = zz9 := ⟨_, rfl⟩
          have qv157 : v157.toInt = (zI s148 this 6).toInt := by rw [ev157]
          have b158 := (hT.P (hT.k t_this (by decide)) (by decide)).2.2
          rw [ev157] at b158
          have b158l := b158.1
          have b158h := b158.2
          obtain ⟨v159, ev159⟩ : ∃ zz9 : Int32, zI s148 this 7 = zz9 := ⟨_, rfl⟩
          have qv159 : v159.toInt = (zI s148 this 7).toInt := by rw [ev159]
          have tk160 : TKv v154 v155 v157 v159 tc Ln (unxt tc Ln (unxt tc Ln sp)) := by have z9 := f152; unfold TKc at z9; rw [(show zI s148 this 4 = v154 from ev154), (show zI s148 this 5 = v155 from ev155), (show zI s148 this 6 = v157 from ev157), (show zI s148 this 7 = v159 from ev159)] at z9; exact z9
          obtain ⟨tk1604, tk1605, tk1606, tk1607, tk1608⟩ := id tk160
          refine lv_pop hx hb dX3_readSample_74 rfl ?_
          have hsv : (svq (utkK tc Ln) (unxt tc Ln) sp) = (unxt tc Ln (unxt tc Ln sp)) := if_pos (by omega)
          refine lv_aload_n hx hb dX3_readSample_75 rfl (lv_at hl 2 rfl) ?_
          refine va_get (D := κ.1) (ci := 3) (v := .int (zI s148 this 4)) (C := RX3) (T := TX3) (N := 8) hx hb hg inX3 hown hK (hT.o6 (hT.k t_this (by decide))).one 0 rfl rfl 4 (by decide) (hg _ k126) (fun _ h9 => h9) rfl dX3_readSample_76 ?_
          rw [ev154]
          refine lv_iconst (v := 2) hx hb dX3_readSample_79 (by decide) ?_
          refine lv_icmp_eq (tgt := 89) hx hb dX3_readSample_80 (by decide) (fun c9 => ?_) (fun c9 => ?_)
          · have c15 := gi_eq c9
            have hv8 := tk1607 (by omega)
            have hvb8 := uvl_b (c := tc) (L := Ln) (s := (unxt tc Ln (unxt tc Ln sp))) (by omega)
            have hq9 : uvq (utkK tc Ln) (unxt tc Ln) (uvl tc Ln) sp = -(uvl tc Ln (unxt tc Ln (unxt tc Ln sp))) := (if_pos (show utkK tc Ln (unxt tc Ln sp) = 4 by omega)).trans (by show -(uvl tc Ln (svq (utkK tc Ln) (unxt tc Ln) sp)) = _; rw [hsv])
            refine lv_aload_n hx hb dX3_readSample_89 rfl (lv_at hl 3 rfl) ?_
            refine lv_iload_n hx hb dX3_readSample_90 rfl (lv_at hl 1 rfl) ?_
            refine lv_iload_n hx hb dX3_readSample_91 rfl (lv_at hl 0 rfl) ?_
            refine lv_if_eq (tgt := 103) hx hb dX3_readSample_92 (by decide) (fun c9 => absurd c9 (by decide)) (fun _ => ?_)
            refine lv_aload_n hx hb dX3_readSample_95 rfl (lv_at hl 2 rfl) ?_
            refine va_get (D := κ.1) (ci := 3) (v := .int (zI s148 this 7)) (C := RX3) (T := TX3) (N := 8) hx hb hg inX3 hown hK (hT.o6 (hT.k t_this (by decide))).one 0 rfl rfl 7 (by decide) (hg _ k129) (fun _ h9 => h9) rfl dX3_readSample_96 ?_
            rw [ev159]
            refine lv_ineg hx hb dX3_readSample_99 ?_
            refine lv_topi (fun t161 ht161 => ?_)
            refine lv_goto (tgt := 107) hx hb dX3_readSample_100 (by decide) ?_
            have hTo := hT
            refine tVv (n := 2) (As := [.int v10, .int t161]) (rest := []) hx hb hml hown hg hT hK hX (X0s_addSample l κ s148 into v10 t161  (hT.k t_into (by decide)) (show (zI s148 into 2).toInt = (nn : Nat) from by rw [(show zI s148 into 2 = v3 from ev3)]; omega) (by omega)) sub_fAd_fRs (mwV k812 k329 k330 k86 k331) ⟨rfl, by decide, by decide, by decide +kernel⟩ ⟨(Nat.le_of_ble_eq_true rfl), (Nat.le_of_ble_eq_true rfl)⟩ (hT.o5 (hT.k t_into (by decide))) rfl rfl hl.1 rfl (Nat.le_of_ble_eq_true rfl) dX3_readSample_107 zroom.rf (fun s163 H locs hφ hEs163 hT => ?_)
            have ev1 : zI s163 this 2 = v1 := ((hTo.k t_this (by decide)).eI hEs163 (by decide) rfl).trans ev1
            have ev2 : zI s163 this 3 = v2 := ((hTo.k t_this (by decide)).eI hEs163 (by decide) rfl).trans ev2
            have ev154 : zI s163 this 4 = v154 := ((hTo.k t_this (by decide)).eI hEs163 (by decide) rfl).trans ev154
            have ev155 : zI s163 this 5 = v155 := ((hTo.k t_this (by decide)).eI hEs163 (by decide) rfl).trans ev155
            have ev157 : zI s163 this 6 = v157 := ((hTo.k t_this (by decide)).eI hEs163 (by decide) rfl).trans ev157
            have ev159 : zI s163 this 7 = v159 := ((hTo.k t_this (by decide)).eI hEs163 (by decide) rfl).trans ev159
            obtain ⟨f164, f165, f166⟩ := hφ
            rw [erP] at f165
            obtain ⟨v167, ev167⟩ : ∃ zz9 : Int32, zI s163 into 2 = zz9 := ⟨_, rfl⟩
            have qv167 : v167.toInt = (zI s163 into 2).toInt := by rw [ev167]
            have b168 := (hT.P (hT.k t_into (by decide)) (by decide)).1
            rw [ev167] at b168
            have b168l := b168.1
            have b168h := b168.2
            rw [(show zI s163 into 2 = v167 from ev167)] at f164
            have P169 : (zI s163 rP nn).toInt = uvl tc Ln sp := by rw [f165 nn, if_pos rfl]; omega
            rw [erO] at f166
            have P170 : ∀ j : Nat, j < nn → zI s163 rP j = zI σ0 rP j := fun j hj => by rw [f165 j, if_neg (by omega), Y149]
            have P171 : ∀ j : Nat, j < nn → zI s163 rO j = zI σ0 rO j := fun j hj => by rw [f166 j, if_neg (by omega), Y150]
            have P172 : (zI s163 rO nn).toInt = uvq (utkK tc Ln) (unxt tc Ln) (uvl tc Ln) sp := by rw [f166 nn, if_pos rfl, hq9]; omega
            refine lv_aload_n hx hb dX3_readSample_110 rfl (lv_at hl 2 rfl) ?_
            have hTo := hT
            refine tVi (n := 0) (As := []) (rest := []) hx hb hml hown hg hT hK hX (X3s_pass l κ s163 this  (hT.k t_this (by decide)) (h0.tr (funext fun k => by rw [erB]; exact hT.eI trB (by decide) rfl rfl) (hT.eI t_this (by decide) rfl rfl)) (show (zI s163 this 6).toInt = (utkE tc Ln (unxt tc Ln (unxt tc Ln sp)) : Nat) from by rw [(show zI s163 this 6 = v157 from ev157)]; omega) (utkE_le tk1608)) sub_fP_fRs (mwV k697 k699 k17 k85 k700) ⟨rfl, by decide, by decide, by decide +kernel⟩ ⟨(Nat.le_of_ble_eq_true rfl), (Nat.le_of_ble_eq_true rfl)⟩ (hT.o6 (hT.k t_this (by decide))) rfl rfl hl.1 rfl (Nat.le_of_ble_eq_true rfl) dX3_readSample_111 zroom.rf (fun x173 s174 H locs hφ hEs174 hT => ?_)
            have ev1 : zI s174 this 2 = v1 := ((hTo.k t_this (by decide)).eI hEs174 (by decide) rfl).trans ev1
            have ev2 : zI s174 this 3 = v2 := ((hTo.k t_this (by decide)).eI hEs174 (by decide) rfl).trans ev2
            have ev167 : zI s174 into 2 = v167 := ((hTo.k t_into (by decide)).eI hEs174 (by decide) rfl).trans ev167
            have Y175 : (zI s174 rP nn).toInt = uvl tc Ln sp := by first | (rw [show zI s174 rP = zI s163 rP from funext fun k => (hTo.k trP (by decide)).eI hEs174 (by decide) rfl]; exact P169) | rw [show zI s174 rP = zI s163 rP from funext fun k => (hTo.k trP (by decide)).eI hEs174 (by decide) rfl]
            have Y176 : ∀ j : Nat, j < nn → zI s174 rP j = zI σ0 rP j := by first | (rw [show zI s174 rP = zI s163 rP from funext fun k => (hTo.k trP (by decide)).eI hEs174 (by decide) rfl]; exact P170) | rw [show zI s174 rP = zI s163 rP from funext fun k => (hTo.k trP (by decide)).eI hEs174 (by decide) rfl]
            have Y177 : ∀ j : Nat, j < nn → zI s174 rO j = zI σ0 rO j := by first | (rw [show zI s174 rO = zI s163 rO from funext fun k => (hTo.k trO (by decide)).eI hEs174 (by decide) rfl]; exact P171) | rw [show zI s174 rO = zI s163 rO from funext fun k => (hTo.k trO (by decide)).eI hEs174 (by decide) rfl]
            have Y178 : (zI s174 rO nn).toInt = uvq (utkK tc Ln) (unxt tc Ln) (uvl tc Ln) sp := by first | (rw [show zI s174 rO = zI s163 rO from funext fun k => (hTo.k trO (by decide)).eI hEs174 (by decide) rfl]; exact P172) | rw [show zI s174 rO = zI s163 rO from funext fun k => (hTo.k trO (by decide)).eI hEs174 (by decide) rfl]
            obtain ⟨f179, f180, f181⟩ := hφ
            subst hQ9
            exact t_z hx hb hr f181 hlocks hT ⟨Or.inl ⟨by omega, by omega, by omega, by rw [hsv]; omega, by rw [hsv]; exact f180, by rw [(show zI s174 into 2 = v167 from ev167)]; omega, by rw [erP]; exact Y175, ((show zI s174 this 2 = v1 from ev1).trans zthis2.symm), ((show zI s174 this 3 = v2 from ev2).trans zthis3.symm), hT.eI t_into (by decide) rfl rfl, hT.eI t_into (by decide) rfl rfl, hT.eI t_into (by decide) rfl rfl, hT.eI t_into (by decide) rfl rfl, by rw [erP]; exact Y176, by rw [erO]; exact Y177, by rw [erO]; exact Y178⟩, f181⟩ dX3_readSample_114
          · have c16 := gi_ne c9
            refine lv_aload_n hx hb dX3_readSample_83 rfl (lv_at hl 2 rfl) ?_
            refine lv_iconst (v := 1) hx hb dX3_readSample_84 (by decide) ?_
            have cz182 : zI s148 this 5 = v155 := ev155
            have hTo := hT
            refine tVi (n := 1) (As := [.int 1]) (rest := []) hx hb hml hown hg hT hK hX (X3s_isWrong l κ s148 this 1  (hT.k t_this (by decide)) (h0.tr (funext fun k => by rw [erB]; exact hT.eI trB (by decide) rfl rfl) (hT.eI t_this (by decide) rfl rfl))) sub_fW23_fRs (mwV k779 k781 k23 k85 k782) ⟨rfl, by decide, by decide, by decide +kernel⟩ ⟨(Nat.le_of_ble_eq_true rfl), (Nat.le_of_ble_eq_true rfl)⟩ (hT.o6 (hT.k t_this (by decide))) rfl rfl hl.1 rfl (Nat.le_of_ble_eq_true rfl) dX3_readSample_85 zroom.rf (fun x183 s184 H locs hφ hEs184 hT => ?_)
            have ev3 : zI s184 into 2 = v3 := ((hTo.k t_into (by decide)).eI hEs184 (by decide) rfl).trans ev3
            have ev154 : zI s184 this 4 = v154 := ((hTo.k t_this (by decide)).eI hEs184 (by decide) rfl).trans ev154
            have ev155 : zI s184 this 5 = v155 := ((hTo.k t_this (by decide)).eI hEs184 (by decide) rfl).trans ev155
            have ev157 : zI s184 this 6 = v157 := ((hTo.k t_this (by decide)).eI hEs184 (by decide) rfl).trans ev157
            have ev159 : zI s184 this 7 = v159 := ((hTo.k t_this (by decide)).eI hEs184 (by decide) rfl).trans ev159
            have Y185 : zI s184 rP = zI σ0 rP := by first | (rw [show zI s184 rP = zI s148 rP from funext fun k => (hTo.k trP (by decide)).eI hEs184 (by decide) rfl]; exact Y149) | rw [show zI s184 rP = zI s148 rP from funext fun k => (hTo.k trP (by decide)).eI hEs184 (by decide) rfl]
            have Y186 : zI s184 rO = zI σ0 rO := by first | (rw [show zI s184 rO = zI s148 rO from funext fun k => (hTo.k trO (by decide)).eI hEs184 (by decide) rfl]; exact Y150) | rw [show zI s184 rO = zI s148 rO from funext fun k => (hTo.k trO (by decide)).eI hEs184 (by decide) rfl]
            obtain ⟨f187, f188, f189, f190⟩ := hφ
            have wr191 : (zI s184 this 3).toInt = (unxt tc Ln (unxt tc Ln sp)) := by rw [f189, cz182]; omega
            subst hQ9
            exact t_z hx hb hr f190 hlocks hT ⟨Or.inr ⟨by omega, 1, ((svq (utkK tc Ln) (unxt tc Ln) sp) : Nat), Or.inr (Or.inr ⟨by omega, by omega, by rw [hsv]; omega, rfl, rfl⟩), by omega, by rw [wr191, hsv]⟩, f190⟩ dX3_readSample_88
      · have c17 := gi_nlt c9
        refine lv_aload_n hx hb dX3_readSample_41 rfl (lv_at hl 1 rfl) ?_
        refine lv_iconst (v := 2) hx hb dX3_readSample_42 (by decide) ?_
        have cz192 : zI σ0 this 5 = v6 := ev6
        have hTo := hT
        refine tVi (n := 1) (As := [.int 2]) (rest := []) hx hb hml hown hg hT hK hX (X3s_isWrong l κ σ0 this 2  (hT.k t_this (by decide)) h0) sub_fW23_fRs (mwV k779 k781 k23 k85 k782) ⟨rfl, by decide, by decide, by decide +kernel⟩ ⟨(Nat.le_of_ble_eq_true rfl), (Nat.le_of_ble_eq_true rfl)⟩ (hT.o6 (hT.k t_this (by decide))) rfl rfl hl.1 rfl (Nat.le_of_ble_eq_true rfl) dX3_readSample_43 zroom.rf (fun x193 s194 H locs hφ hEs194 hT => ?_)
        have ev3 : zI s194 into 2 = v3 := ((hTo.k t_into (by decide)).eI hEs194 (by decide) rfl).trans ev3
        have ev5 : zI s194 this 4 = v5 := ((hTo.k t_this (by decide)).eI hEs194 (by decide) rfl).trans ev5
        have ev6 : zI s194 this 5 = v6 := ((hTo.k t_this (by decide)).eI hEs194 (by decide) rfl).trans ev6
        have ev8 : zI s194 this 6 = v8 := ((hTo.k t_this (by decide)).eI hEs194 (by decide) rfl).trans ev8
        have ev10 : zI s194 this 7 = v10 := ((hTo.k t_this (by decide)).eI hEs194 (by decide) rfl).trans ev10
        have Y195 : zI s194 rP = zI σ0 rP := by first | (rw [show zI s194 rP = zI σ0 rP from funext fun k => (hTo.k trP (by decide)).eI hEs194 (by decide) rfl]; exact b0p) | rw [show zI s194 rP = zI σ0 rP from funext fun k => (hTo.k trP (by decide)).eI hEs194 (by decide) rfl]
        have Y196 : zI s194 rO = zI σ0 rO := by first | (rw [show zI s194 rO = zI σ0 rO from funext fun k => (hTo.k trO (by decide)).eI hEs194 (by decide) rfl]; exact b0o) | rw [show zI s194 rO = zI σ0 rO from funext fun k => (hTo.k trO (by decide)).eI hEs194 (by decide) rfl]
        obtain ⟨f197, f198, f199, f200⟩ := hφ
        have wr201 : (zI s194 this 3).toInt = sp := by rw [f199, cz192]; omega
        subst hQ9
        exact t_z hx hb hr f200 hlocks hT ⟨Or.inr ⟨by omega, 2, (sp : Nat), Or.inr (Or.inl ⟨by omega, by omega, rfl, rfl⟩), by omega, by rw [wr201]⟩, f200⟩ dX3_readSample_46
  · have c18 := gi_ne c9
    refine lv_aload_n hx hb dX3_readSample_8 rfl (lv_at hl 0 rfl) ?_
    refine lv_iconst (v := 1) hx hb dX3_readSample_9 (by decide) ?_
    have cz202 : zI σ0 this 5 = v6 := ev6
    have hTo := hT
    refine tVi (n := 1) (As := [.int 1]) (rest := []) hx hb hml hown hg hT hK hX (X3s_isWrong l κ σ0 this 1  (hT.k t_this (by decide)) h0) sub_fW23_fRs (mwV k779 k781 k23 k85 k782) ⟨rfl, by decide, by decide, by decide +kernel⟩ ⟨(Nat.le_of_ble_eq_true rfl), (Nat.le_of_ble_eq_true rfl)⟩ (hT.o6 (hT.k t_this (by decide))) rfl rfl hl.1 rfl (Nat.le_of_ble_eq_true rfl) dX3_readSample_10 zroom.rf (fun x203 s204 H locs hφ hEs204 hT => ?_)
    have ev3 : zI s204 into 2 = v3 := ((hTo.k t_into (by decide)).eI hEs204 (by decide) rfl).trans ev3
    have ev5 : zI s204 this 4 = v5 := ((hTo.k t_this (by decide)).eI hEs204 (by decide) rfl).trans ev5
    have ev6 : zI s204 this 5 = v6 := ((hTo.k t_this (by decide)).eI hEs204 (by decide) rfl).trans ev6
    have ev8 : zI s204 this 6 = v8 := ((hTo.k t_this (by decide)).eI hEs204 (by decide) rfl).trans ev8
    have ev10 : zI s204 this 7 = v10 := ((hTo.k t_this (by decide)).eI hEs204 (by decide) rfl).trans ev10
    have Y205 : zI s204 rP = zI σ0 rP := by first | (rw [show zI s204 rP = zI σ0 rP from funext fun k => (hTo.k trP (by decide)).eI hEs204 (by decide) rfl]; exact b0p) | rw [show zI s204 rP = zI σ0 rP from funext fun k => (hTo.k trP (by decide)).eI hEs204 (by decide) rfl]
    have Y206 : zI s204 rO = zI σ0 rO := by first | (rw [show zI s204 rO = zI σ0 rO from funext fun k => (hTo.k trO (by decide)).eI hEs204 (by decide) rfl]; exact b0o) | rw [show zI s204 rO = zI σ0 rO from funext fun k => (hTo.k trO (by decide)).eI hEs204 (by decide) rfl]
    obtain ⟨f207, f208, f209, f210⟩ := hφ
    have wr211 : (zI s204 this 3).toInt = sp := by rw [f209, cz202]; omega
    subst hQ9
    exact t_z hx hb hr f210 hlocks hT ⟨Or.inr ⟨by omega, 1, (sp : Nat), Or.inl ⟨by omega, rfl, rfl⟩, by omega, by rw [wr211]⟩, f210⟩ dX3_readSample_13
set_option maxHeartbeats 8000000 in
set_option maxRecDepth 100000 in
theorem X3s_readSamples (l : Launch) (κ : Kt) (σ0 : Gh) (this : Nat) (into : Nat) {tc : Nat → Int} {Ln : Nat} {sp : Nat} {gg : Nat → Int} (t_this : zk σ0 this 6) (t_into : zk σ0 into 5) (h0 : TXc κ σ0 this tc Ln) (h1 : TKc σ0 this tc Ln sp) (h2 : (zI σ0 into 2).toInt = 0) : TC l yX3_readSamples cX3_readSamples 3 (some .boolean) 5 107 [.ref this, .ref into] κ σ0 (tqi κ fRs σ0 (fun (r : Int32) (τ : Gh) => (∃ x : uRd, utrt tc Ln (true, sp, 0, -1, gg) x ∧ ((r.toInt = 1 ∧ ∃ (s9 n9 : Nat) (v9 : Int) (h9 : Nat → Int), x = (true, s9, n9, v9, h9) ∧ umEnd (utkK tc Ln) s9 n9 ∧ (zI τ into 2).toInt = n9 ∧ zI τ this 2 = zI σ0 this 2 ∧ zI τ this 3 = zI σ0 this 3 ∧ zI τ into 3 = zI σ0 into 3 ∧ zI τ into 4 = zI σ0 into 4 ∧ zI τ into 5 = zI σ0 into 5 ∧ zI τ into 6 = zI σ0 into 6 ∧ usP (zI τ (kR κ into 0)) n9 h9 ∧ usO (zI τ (kR κ into 1)) n9 h9 ∧ usB n9 h9 ∧ ∀ k : Nat, k < 10 → h9 k = gg k) ∨ (r.toInt = 0 ∧ ∃ co po : Int, utfi tc Ln x co po ∧ co ≠ 0 ∧ (zI τ this 2).toInt = co ∧ (zI τ this 3).toInt = po))) ∧ (isB r))) := by
  refine TC.of fRs (by decide +kernel) (Nat.le_of_ble_eq_true rfl) ?_
  intro p e s m below meth c ls hcs hK hX hT hl
  obtain ⟨hx, hb, hr, hml, hown, hg, hlocks, hin⟩ := hcs
  have hown : s.vm.findClass RX3 = some m.cls := hown
  have hl : lv_has ls 3 [(0, .ref this), (1, .ref into)] := hl
  have hT0 := hT
  have n0 : (0 : Int32).toInt = 0 := by decide
  have n1 : (1 : Int32).toInt = 1 := by decide
  have n2 : (2 : Int32).toInt = 2 := by decide
  have n4 : (4 : Int32).toInt = 4 := by decide
  have n48 : (48 : Int32).toInt = 48 := by decide
  generalize hQ9 : tQ _ _ _ _ _ _ = Q9
  obtain ⟨rB, erB⟩ : ∃ z, kR κ this 0 = z := ⟨_, rfl⟩
  have trB : zk σ0 rB 14 := by rw [← erB]; exact hT0.ref t_this (by decide) (by decide) (by decide)
  have hpc : ∀ j, tc j = (zI σ0 rB j).toInt := by rw [← erB]; exact h0.1
  have hLn : (zI σ0 this 1).toInt = Ln := h0.2
  have bL := (hT0.P t_this (by decide)).1.2
  have hL7 : (Ln : Int) ≤ 700 := by omega
  obtain ⟨rP, erP⟩ : ∃ z, kR κ into 0 = z := ⟨_, rfl⟩
  have trP : zk σ0 rP 17 := by rw [← erP]; exact hT0.ref t_into (by decide) (by decide) (by decide)
  obtain ⟨rO, erO⟩ : ∃ z, kR κ into 1 = z := ⟨_, rfl⟩
  have trO : zk σ0 rO 18 := by rw [← erO]; exact hT0.ref t_into (by decide) (by decide) (by decide)
  refine lv_iconst (v := 0) hx hb dX3_readSamples_0 (by decide) ?_
  refine lv_istore_n (lv' := [(2, .int 0), (0, .ref this), (1, .ref into)]) hx hb dX3_readSamples_1 rfl hl (by decide) rfl (fun ls hl => ?_)
  have loop2 : ∀ (n9 : Nat) (j : Int32) (H : Heap) (locs : List Loc) (sg : Gh) (ls : Array Slot), TS κ fRs σ0 sg s H locs → (0 ≤ j.toInt) → (j.toInt ≤ 49) → (∃ (ss nn : Nat) (vv : Int) (hh : Nat → Int), TKc sg this tc Ln ss ∧ utrt tc Ln (true, sp, 0, -1, gg) (true, ss, nn, vv, hh) ∧ j.toInt = nn ∧ (zI sg into 2).toInt = nn ∧ ((nn = 0 ∧ vv = -1) ∨ (0 < nn ∧ (zI sg rP (nn - 1)).toInt = vv)) ∧ nn ≤ 48 ∧ zI sg this 2 = zI σ0 this 2 ∧ zI sg this 3 = zI σ0 this 3 ∧ zI sg into 3 = zI σ0 into 3 ∧ zI sg into 4 = zI σ0 into 4 ∧ zI sg into 5 = zI σ0 into 5 ∧ zI sg into 6 = zI σ0 into 6 ∧ usP (zI sg rP) nn hh ∧ usO (zI sg rO) nn hh ∧ usB nn hh ∧ ∀ k : Nat, k < 10 → hh k = gg k) → lv_has ls 3 [(2, .int j), (0, .ref this), (1, .ref into)] → (49 - j.toInt) < n9 → tW p l e 5 107 κ s m #[.ref this, .ref into] below meth c H locs Q9 (F0 m 2 ls []) := by
    intro n9
    induction n9 with
    | zero =>
      intro j H locs sg ls hT q1 q2 q3 hl hm9
      exfalso
      omega
    | succ n9 ih9 =>
      have ih2 := ih9
      clear ih9
      intro j H locs s1 ls hT q1 q2 q3 hl hm9
      obtain ⟨ss, nn, vv, hh, y1, y2, y3, y4, y5, y6, y7, y8, y9, y10, y11, y12, y13, y14, y15, y16⟩ := q3
      obtain ⟨v2, ev2⟩ : ∃ zz9 : Int32, zI s1 this 2 = zz9 := ⟨_, rfl⟩
      have qv2 : v2.toInt = (zI s1 this 2).toInt := by rw [ev2]
      have zthis2 : zI σ0 this 2 = v2 := y7.symm.trans ev2
      obtain ⟨v3, ev3⟩ : ∃ zz9 : Int32, zI s1 this 3 = zz9 := ⟨_, rfl⟩
      have qv3 : v3.toInt = (zI s1 this 3).toInt := by rw [ev3]
      have zthis3 : zI σ0 this 3 = v3 := y8.symm.trans ev3
      obtain ⟨v4, ev4⟩ : ∃ zz9 : Int32, zI s1 into 2 = zz9 := ⟨_, rfl⟩
      have qv4 : v4.toInt = (zI s1 into 2).toInt := by rw [ev4]
      have b5 := (hT.P (hT.k t_into (by decide)) (by decide)).1
      rw [ev4] at b5
      have b5l := b5.1
      have b5h := b5.2
      rw [(show zI s1 into 2 = v4 from ev4)] at y4
      obtain ⟨v6, ev6⟩ : ∃ zz9 : Int32, zI s1 this 4 = zz9 := ⟨_, rfl⟩
      have qv6 : v6.toInt = (zI s1 this 4).toInt := by rw [ev6]
      obtain ⟨v7, ev7⟩ : ∃ zz9 : Int32, zI s1 this 5 = zz9 := ⟨_, rfl⟩
      have qv7 : v7.toInt = (zI s1 this 5).toInt := by rw [ev7]
      have b8 := (hT.P (hT.k t_this (by decide)) (by decide)).2.1
      rw [ev7] at b8
      have b8l := b8.1
      have b8h := b8.2
      obtain ⟨v9, ev9⟩ : ∃ zz9 : Int32, zI s1 this 6 = zz9 := ⟨_, rfl⟩
      have qv9 : v9.toInt = (zI s1 this 6).toInt := by rw [ev9]
      have b10 := (hT.P (hT.k t_this (by decide)) (by decide)).2.2
      rw [ev9] at b10
      have b10l := b10.1
      have b10h := b10.2
      obtain ⟨v11, ev11⟩ : ∃ zz9 : Int32, zI s1 this 7 = zz9 := ⟨_, rfl⟩
      have qv11 : v11.toInt = (zI s1 this 7).toInt := by rw [ev11]
      have tk12 : TKv v6 v7 v9 v11 tc Ln ss := by have z9 := y1; unfold TKc at z9; rw [(show zI s1 this 4 = v6 from ev6), (show zI s1 this 5 = v7 from ev7), (show zI s1 this 6 = v9 from ev9), (show zI s1 this 7 = v11 from ev11)] at z9; exact z9
      obtain ⟨tk124, tk125, tk126, tk127, tk128⟩ := id tk12
      refine lv_iload_n hx hb dX3_readSamples_2 rfl (lv_at hl 0 rfl) ?_
      refine lv_bipush (v := 48) hx hb dX3_readSamples_3 (by decide) ?_
      refine lv_icmp_gt (tgt := 77) hx hb dX3_readSamples_5 (by decide) (fun c9 => ?_) (fun c9 => ?_)
      · have c1 := gi_lt c9
        refine lv_iconst (v := 1) hx hb dX3_readSamples_77 (by decide) ?_
        subst hQ9
        exact t_z hx hb hr isB1 hlocks hT (by exfalso; omega) dX3_readSamples_78
      · have c2 := gi_nlt c9
        refine lv_aload_n hx hb dX3_readSamples_8 rfl (lv_at hl 1 rfl) ?_
        refine va_get (D := κ.1) (ci := 3) (v := .int (zI s1 this 4)) (C := RX3) (T := TX3) (N := 8) hx hb hg inX3 hown hK (hT.o6 (hT.k t_this (by decide))).one 0 rfl rfl 4 (by decide) (hg _ k126) (fun _ h9 => h9) rfl dX3_readSamples_9 ?_
        rw [ev6]
        refine lv_if_ne (tgt := 22) hx hb dX3_readSamples_12 (by decide) (fun c9 => ?_) (fun c9 => ?_)
        · have c3 := gi_ne c9
          refine lv_aload_n hx hb dX3_readSamples_22 rfl (lv_at hl 1 rfl) ?_
          refine va_ldcS hx hb hown (hX.2.2.1 12 (by decide)) dX3_readSamples_23 ?_
          have hTo := hT
          refine tVi (n := 1) (As := [.ref (kK κ 12)]) (rest := []) hx hb hml hown hg hT hK hX (X3s_isWord l κ s1 this 12  (hT.k t_this (by decide)) (by decide) (h0.tr (funext fun k => by rw [erB]; exact hT.eI trB (by decide) rfl rfl) (hT.eI t_this (by decide) rfl rfl)) (show TKc s1 this tc Ln ss from by unfold TKc; rw [(show zI s1 this 4 = v6 from ev6), (show zI s1 this 5 = v7 from ev7), (show zI s1 this 6 = v9 from ev9), (show zI s1 this 7 = v11 from ev11)]; exact tk12)) sub_fE_fRs (mwV k724 k726 k22 k85 k727) ⟨rfl, by decide, by decide, by decide +kernel⟩ ⟨(Nat.le_of_ble_eq_true rfl), (Nat.le_of_ble_eq_true rfl)⟩ (hT.o6 (hT.k t_this (by decide))) rfl rfl hl.1 rfl (Nat.le_of_ble_eq_true rfl) dX3_readSamples_25 zroom.rf (fun x13 s14 H locs hφ hEs14 hT => ?_)
          have ev2 : zI s14 this 2 = v2 := ((hTo.k t_this (by decide)).eI hEs14 (by decide) rfl).trans ev2
          have ev3 : zI s14 this 3 = v3 := ((hTo.k t_this (by decide)).eI hEs14 (by decide) rfl).trans ev3
          have ev4 : zI s14 into 2 = v4 := ((hTo.k t_into (by decide)).eI hEs14 (by decide) rfl).trans ev4
          have ev6 : zI s14 this 4 = v6 := ((hTo.k t_this (by decide)).eI hEs14 (by decide) rfl).trans ev6
          have ev7 : zI s14 this 5 = v7 := ((hTo.k t_this (by decide)).eI hEs14 (by decide) rfl).trans ev7
          have ev9 : zI s14 this 6 = v9 := ((hTo.k t_this (by decide)).eI hEs14 (by decide) rfl).trans ev9
          have ev11 : zI s14 this 7 = v11 := ((hTo.k t_this (by decide)).eI hEs14 (by decide) rfl).trans ev11
          have Y15 : (nn = 0 ∧ vv = -1) ∨ (0 < nn ∧ (zI s14 rP (nn - 1)).toInt = vv) := by first | (rw [show zI s14 rP = zI s1 rP from funext fun k => (hTo.k trP (by decide)).eI hEs14 (by decide) rfl]; exact y5) | rw [show zI s14 rP = zI s1 rP from funext fun k => (hTo.k trP (by decide)).eI hEs14 (by decide) rfl]
          have Y16 : usP (zI s14 rP) nn hh := by first | (rw [show zI s14 rP = zI s1 rP from funext fun k => (hTo.k trP (by decide)).eI hEs14 (by decide) rfl]; exact y13) | rw [show zI s14 rP = zI s1 rP from funext fun k => (hTo.k trP (by decide)).eI hEs14 (by decide) rfl]
          have Y17 : usO (zI s14 rO) nn hh := by first | (rw [show zI s14 rO = zI s1 rO from funext fun k => (hTo.k trO (by decide)).eI hEs14 (by decide) rfl]; exact y14) | rw [show zI s14 rO = zI s1 rO from funext fun k => (hTo.k trO (by decide)).eI hEs14 (by decide) rfl]
          obtain ⟨f18, f19⟩ := hφ
          refine lv_if_ne (tgt := 37) hx hb dX3_readSamples_28 (by decide) (fun c9 => ?_) (fun c9 => ?_)
          · have c4 := gi_ne c9
            refine lv_iload_n hx hb dX3_readSamples_37 rfl (lv_at hl 0 rfl) ?_
            refine lv_bipush (v := 48) hx hb dX3_readSamples_38 (by decide) ?_
            refine lv_icmp_ne (tgt := 49) hx hb dX3_readSamples_40 (by decide) (fun c9 => ?_) (fun c9 => ?_)
            · have c5 := gi_ne c9
              refine lv_aload_n hx hb dX3_readSamples_49 rfl (lv_at hl 1 rfl) ?_
              have hTo := hT
              refine tVi (n := 0) (As := []) (rest := []) hx hb hml hown hg hT hK hX (X3s_pass l κ s14 this  (hT.k t_this (by decide)) (h0.tr (funext fun k => by rw [erB]; exact hT.eI trB (by decide) rfl rfl) (hT.eI t_this (by decide) rfl rfl)) (show (zI s14 this 6).toInt = (utkE tc Ln ss : Nat) from by rw [(show zI s14 this 6 = v9 from ev9)]; omega) (utkE_le tk128)) sub_fP_fRs (mwV k697 k699 k17 k85 k700) ⟨rfl, by decide, by decide, by decide +kernel⟩ ⟨(Nat.le_of_ble_eq_true rfl), (Nat.le_of_ble_eq_true rfl)⟩ (hT.o6 (hT.k t_this (by decide))) rfl rfl hl.1 rfl (Nat.le_of_ble_eq_true rfl) dX3_readSamples_50 zroom.rf (fun x20 s21 H locs hφ hEs21 hT => ?_)
              have ev2 : zI s21 this 2 = v2 := ((hTo.k t_this (by decide)).eI hEs21 (by decide) rfl).trans ev2
              have ev3 : zI s21 this 3 = v3 := ((hTo.k t_this (by decide)).eI hEs21 (by decide) rfl).trans ev3
              have ev4 : zI s21 into 2 = v4 := ((hTo.k t_into (by decide)).eI hEs21 (by decide) rfl).trans ev4
              have Y22 : (nn = 0 ∧ vv = -1) ∨ (0 < nn ∧ (zI s21 rP (nn - 1)).toInt = vv) := by first | (rw [show zI s21 rP = zI s14 rP from funext fun k => (hTo.k trP (by decide)).eI hEs21 (by decide) rfl]; exact Y15) | rw [show zI s21 rP = zI s14 rP from funext fun k => (hTo.k trP (by decide)).eI hEs21 (by decide) rfl]
              have Y23 : usP (zI s21 rP) nn hh := by first | (rw [show zI s21 rP = zI s14 rP from funext fun k => (hTo.k trP (by decide)).eI hEs21 (by decide) rfl]; exact Y16) | rw [show zI s21 rP = zI s14 rP from funext fun k => (hTo.k trP (by decide)).eI hEs21 (by decide) rfl]
              have Y24 : usO (zI s21 rO) nn hh := by first | (rw [show zI s21 rO = zI s14 rO from funext fun k => (hTo.k trO (by decide)).eI hEs21 (by decide) rfl]; exact Y17) | rw [show zI s21 rO = zI s14 rO from funext fun k => (hTo.k trO (by decide)).eI hEs21 (by decide) rfl]
              obtain ⟨f25, f26, f27⟩ := hφ
              obtain ⟨v28, ev28⟩ : ∃ zz9 : Int32, zI s21 this 4 = zz9 := ⟨_, rfl⟩
              have qv28 : v28.toInt = (zI s21 this 4).toInt := by rw [ev28]
              obtain ⟨v29, ev29⟩ : ∃ zz9 : Int32, zI s21 this 5 = zz9 := ⟨_, rfl⟩
              have qv29 : v29.toInt = (zI s21 this 5).toInt := by rw [ev29]
              have b30 := (hT.P (hT.k t_this (by decide)) (by decide)).2.1
              rw [ev29] at b30
              have b30l := b30.1
              have b30h := b30.2
              obtain ⟨v31, ev31⟩ : ∃ zz9 : Int32, zI s21 this 6 = zz9 := ⟨_, rfl⟩
              have qv31 : v31.toInt = (zI s21 this 6).toInt := by rw [ev31]
              have b32 := (hT.P (hT.k t_this (by decide)) (by decide)).2.2
              rw [ev31] at b32
              have b32l := b32.1
              have b32h := b32.2
              obtain ⟨v33, ev33⟩ : ∃ zz9 : Int32, zI s21 this 7 = zz9 := ⟨_, rfl⟩
              have qv33 : v33.toInt = (zI s21 this 7).toInt := by rw [ev33]
              have tk34 : TKv v28 v29 v31 v33 tc Ln (unxt tc Ln ss) := by have z9 := f26; unfold TKc at z9; rw [(show zI s21 this 4 = v28 from ev28), (show zI s21 this 5 = v29 from ev29), (show zI s21 this 6 = v31 from ev31), (show zI s21 this 7 = v33 from ev33)] at z9; exact z9
              obtain ⟨tk344, tk345, tk346, tk347, tk348⟩ := id tk34
              refine lv_pop hx hb dX3_readSamples_53 rfl ?_
              refine lv_aload_n hx hb dX3_readSamples_54 rfl (lv_at hl 1 rfl) ?_
              refine lv_aload_n hx hb dX3_readSamples_55 rfl (lv_at hl 2 rfl) ?_
              have cz35 : zI s21 this 2 = v2 := ev2
              have cz36 : zI s21 this 3 = v3 := ev3
              have hTo := hT
              refine tVi (n := 1) (As := [.ref into]) (rest := []) hx hb hml hown hg hT hK hX (X3s_readSample l κ s21 this into  (hT.k t_this (by decide)) (hT.k t_into (by decide)) (h0.tr (funext fun k => by rw [erB]; exact hT.eI trB (by decide) rfl rfl) (hT.eI t_this (by decide) rfl rfl)) (show TKc s21 this tc Ln (unxt tc Ln ss) from by unfold TKc; rw [(show zI s21 this 4 = v28 from ev28), (show zI s21 this 5 = v29 from ev29), (show zI s21 this 6 = v31 from ev31), (show zI s21 this 7 = v33 from ev33)]; exact tk34) (show (zI s21 into 2).toInt = (nn : Nat) from by rw [(show zI s21 into 2 = v4 from ev4)]; omega) (by omega) (show (nn = 0 ∧ vv = -1) ∨ (0 < nn ∧ (zI s21 (kR κ into 0) (nn - 1)).toInt = vv) from by rw [erP]; exact Y22)) (fun _ _ h => h) (mwV k808 k810 k28 k85 k811) ⟨rfl, by decide, by decide, by decide +kernel⟩ ⟨(Nat.le_of_ble_eq_true rfl), (Nat.le_of_ble_eq_true rfl)⟩ (hT.o6 (hT.k t_this (by decide))) rfl rfl hl.1 rfl (Nat.le_of_ble_eq_true rfl) dX3_readSamples_56 zroom.rf (fun x37 s38 H locs hφ hEs38 hT => ?_)
              obtain ⟨f39, f40⟩ := hφ
              rcases f39 with ⟨a1, a2, a3, a9, a4, a5, a6, a7, a8, a10, a11, a12, a13, a14, a15, a16⟩ | ⟨a1, co, po, a2, a3, a4⟩
              · skip
                obtain ⟨v41, ev41⟩ : ∃ zz9 : Int32, zI s38 this 2 = zz9 := ⟨_, rfl⟩
                have qv41 : v41.toInt = (zI s38 this 2).toInt := by rw [ev41]
                have zthis2 : zI σ0 this 2 = v41 := zthis2.trans (cz35.symm.trans (a7.symm.trans ev41))
                obtain ⟨v42, ev42⟩ : ∃ zz9 : Int32, zI s38 this 3 = zz9 := ⟨_, rfl⟩
                have qv42 : v42.toInt = (zI s38 this 3).toInt := by rw [ev42]
                have zthis3 : zI σ0 this 3 = v42 := zthis3.trans (cz36.symm.trans (a8.symm.trans ev42))
                obtain ⟨v43, ev43⟩ : ∃ zz9 : Int32, zI s38 into 2 = zz9 := ⟨_, rfl⟩
                have qv43 : v43.toInt = (zI s38 into 2).toInt := by rw [ev43]
                have b44 := (hT.P (hT.k t_into (by decide)) (by decide)).1
                rw [ev43] at b44
                have b44l := b44.1
                have b44h := b44.2
                rw [(show zI s38 into 2 = v43 from ev43)] at a5
                obtain ⟨v45, ev45⟩ : ∃ zz9 : Int32, zI s38 this 4 = zz9 := ⟨_, rfl⟩
                have qv45 : v45.toInt = (zI s38 this 4).toInt := by rw [ev45]
                obtain ⟨v46, ev46⟩ : ∃ zz9 : Int32, zI s38 this 5 = zz9 := ⟨_, rfl⟩
                have qv46 : v46.toInt = (zI s38 this 5).toInt := by rw [ev46]
                have b47 := (hT.P (hT.k t_this (by decide)) (by decide)).2.1
                rw [ev46] at b47
                have b47l := b47.1
                have b47h := b47.2
                obtain ⟨v48, ev48⟩ : ∃ zz9 : Int32, zI s38 this 6 = zz9 := ⟨_, rfl⟩
                have qv48 : v48.toInt = (zI s38 this 6).toInt := by rw [ev48]
                have b49 := (hT.P (hT.k t_this (by decide)) (by decide)).2.2
                rw [ev48] at b49
                have b49l := b49.1
                have b49h := b49.2
                obtain ⟨v50, ev50⟩ : ∃ zz9 : Int32, zI s38 this 7 = zz9 := ⟨_, rfl⟩
                have qv50 : v50.toInt = (zI s38 this 7).toInt := by rw [ev50]
                have tk51 : TKv v45 v46 v48 v50 tc Ln (unxt tc Ln (svq (utkK tc Ln) (unxt tc Ln) (unxt tc Ln ss))) := by have z9 := a4; unfold TKc at z9; rw [(show zI s38 this 4 = v45 from ev45), (show zI s38 this 5 = v46 from ev46), (show zI s38 this 6 = v48 from ev48), (show zI s38 this 7 = v50 from ev50)] at z9; exact z9
                obtain ⟨tk514, tk515, tk516, tk517, tk518⟩ := id tk51
                rw [erP] at a6
                rw [erP] at a14
                rw [erO] at a15 a16
                have u13 : usP (zI s38 rP) (nn + 1) (usm (utkK tc Ln) (unxt tc Ln) (uvl tc Ln) ss nn hh) := Y23.more a14 a6
                have u14 : usO (zI s38 rO) (nn + 1) (usm (utkK tc Ln) (unxt tc Ln) (uvl tc Ln) ss nn hh) := Y24.more a15 a16
                have u15 : usB (nn + 1) (usm (utkK tc Ln) (unxt tc Ln) (uvl tc Ln) ss nn hh) := y15.more (uvq_b a9)
                refine lv_if_eq (tgt := 69) hx hb dX3_readSamples_59 (by decide) (fun c9 => absurd (gi_eq c9) (by omega)) (fun _ => ?_)
                refine lv_aload_n hx hb dX3_readSamples_62 rfl (lv_at hl 1 rfl) ?_
                have cz52 : zI s38 this 2 = v41 := ev41
                have cz53 : zI s38 this 3 = v42 := ev42
                have hTo := hT
                refine tVi (n := 0) (As := []) (rest := []) hx hb hml hown hg hT hK hX (X3s_passSemicolon l κ s38 this  (hT.k t_this (by decide)) (h0.tr (funext fun k => by rw [erB]; exact hT.eI trB (by decide) rfl rfl) (hT.eI t_this (by decide) rfl rfl)) (show TKc s38 this tc Ln (unxt tc Ln (svq (utkK tc Ln) (unxt tc Ln) (unxt tc Ln ss))) from by unfold TKc; rw [(show zI s38 this 4 = v45 from ev45), (show zI s38 this 5 = v46 from ev46), (show zI s38 this 6 = v48 from ev48), (show zI s38 this 7 = v50 from ev50)]; exact tk51)) sub_fPe_fRs (mwV k799 k801 k26 k85 k802) ⟨rfl, by decide, by decide, by decide +kernel⟩ ⟨(Nat.le_of_ble_eq_true rfl), (Nat.le_of_ble_eq_true rfl)⟩ (hT.o6 (hT.k t_this (by decide))) rfl rfl hl.1 rfl (Nat.le_of_ble_eq_true rfl) dX3_readSamples_63 zroom.rf (fun x54 s55 H locs hφ hEs55 hT => ?_)
                have ev43 : zI s55 into 2 = v43 := ((hTo.k t_into (by decide)).eI hEs55 (by decide) rfl).trans ev43
                have Y56 : (zI s55 rP nn).toInt = uvl tc Ln (unxt tc Ln ss) := by first | (rw [show zI s55 rP = zI s38 rP from funext fun k => (hTo.k trP (by decide)).eI hEs55 (by decide) rfl]; exact a6) | rw [show zI s55 rP = zI s38 rP from funext fun k => (hTo.k trP (by decide)).eI hEs55 (by decide) rfl]
                have Y57 : usP (zI s55 rP) (nn + 1) (usm (utkK tc Ln) (unxt tc Ln) (uvl tc Ln) ss nn hh) := by first | (rw [show zI s55 rP = zI s38 rP from funext fun k => (hTo.k trP (by decide)).eI hEs55 (by decide) rfl]; exact u13) | rw [show zI s55 rP = zI s38 rP from funext fun k => (hTo.k trP (by decide)).eI hEs55 (by decide) rfl]
                have Y58 : usO (zI s55 rO) (nn + 1) (usm (utkK tc Ln) (unxt tc Ln) (uvl tc Ln) ss nn hh) := by first | (rw [show zI s55 rO = zI s38 rO from funext fun k => (hTo.k trO (by decide)).eI hEs55 (by decide) rfl]; exact u14) | rw [show zI s55 rO = zI s38 rO from funext fun k => (hTo.k trO (by decide)).eI hEs55 (by decide) rfl]
                obtain ⟨f59, f60⟩ := hφ
                rcases f59 with ⟨b1, b2, b3, b4, b5⟩ | ⟨b1, b2, b3, b4⟩
                · skip
                  obtain ⟨v61, ev61⟩ : ∃ zz9 : Int32, zI s55 this 2 = zz9 := ⟨_, rfl⟩
                  have qv61 : v61.toInt = (zI s55 this 2).toInt := by rw [ev61]
                  have zthis2 : zI σ0 this 2 = v61 := zthis2.trans (cz52.symm.trans (b4.symm.trans ev61))
                  obtain ⟨v62, ev62⟩ : ∃ zz9 : Int32, zI s55 this 3 = zz9 := ⟨_, rfl⟩
                  have qv62 : v62.toInt = (zI s55 this 3).toInt := by rw [ev62]
                  have zthis3 : zI σ0 this 3 = v62 := zthis3.trans (cz53.symm.trans (b5.symm.trans ev62))
                  obtain ⟨v63, ev63⟩ : ∃ zz9 : Int32, zI s55 this 4 = zz9 := ⟨_, rfl⟩
                  have qv63 : v63.toInt = (zI s55 this 4).toInt := by rw [ev63]
                  obtain ⟨v64, ev64⟩ : ∃ zz9 : Int32, zI s55 this 5 = zz9 := ⟨_, rfl⟩
                  have qv64 : v64.toInt = (zI s55 this 5).toInt := by rw [ev64]
                  have b65 := (hT.P (hT.k t_this (by decide)) (by decide)).2.1
                  rw [ev64] at b65
                  have b65l := b65.1
                  have b65h := b65.2
                  obtain ⟨v66, ev66⟩ : ∃ zz9 : Int32, zI s55 this 6 = zz9 := ⟨_, rfl⟩
                  have qv66 : v66.toInt = (zI s55 this 6).toInt := by rw [ev66]
                  have b67 := (hT.P (hT.k t_this (by decide)) (by decide)).2.2
                  rw [ev66] at b67
                  have b67l := b67.1
                  have b67h := b67.2
                  obtain ⟨v68, ev68⟩ : ∃ zz9 : Int32, zI s55 this 7 = zz9 := ⟨_, rfl⟩
                  have qv68 : v68.toInt = (zI s55 this 7).toInt := by rw [ev68]
                  have tk69 : TKv v63 v64 v66 v68 tc Ln (unxt tc Ln (unxt tc Ln (svq (utkK tc Ln) (unxt tc Ln) (unxt tc Ln ss)))) := by have z9 := b3; unfold TKc at z9; rw [(show zI s55 this 4 = v63 from ev63), (show zI s55 this 5 = v64 from ev64), (show zI s55 this 6 = v66 from ev66), (show zI s55 this 7 = v68 from ev68)] at z9; exact z9
                  obtain ⟨tk694, tk695, tk696, tk697, tk698⟩ := id tk69
                  refine lv_if_ne (tgt := 71) hx hb dX3_readSamples_66 (by decide) (fun _ => ?_) (fun c9 => absurd (gi_eq c9) (by omega))
                  obtain ⟨t70, qt70⟩ : ∃ zz9 : Int32, j + Int32.ofInt 1 = zz9 := ⟨_, rfl⟩
                  refine lv_iinc (v := t70) (lv' := [(2, .int t70), (0, .ref this), (1, .ref into)]) hx hb dX3_readSamples_71 hl (k := 0) rfl qt70 (by decide) rfl (fun ls hl => ?_)
                  have ht70 : t70.toInt = j.toInt + 1 := by rw [← qt70]; exact v_addi rfl (show (Int32.ofInt 1).toInt = 1 from by decide) (by omega) (by omega)
                  refine lv_goto (tgt := 2) hx hb dX3_readSamples_74 (by decide) ?_
                  exact ih2 t70 _ _ _ _ hT  (by omega) (by omega) ⟨unxt tc Ln (unxt tc Ln (svq (utkK tc Ln) (unxt tc Ln) (unxt tc Ln ss))), nn + 1, uvl tc Ln (unxt tc Ln ss), usm (utkK tc Ln) (unxt tc Ln) (uvl tc Ln) ss nn hh, (show TKc s55 this tc Ln (unxt tc Ln (unxt tc Ln (svq (utkK tc Ln) (unxt tc Ln) (unxt tc Ln ss)))) from by unfold TKc; rw [(show zI s55 this 4 = v63 from ev63), (show zI s55 this 5 = v64 from ev64), (show zI s55 this 6 = v66 from ev66), (show zI s55 this 7 = v68 from ev68)]; exact tk69), urt_tl y2 (Or.inr ⟨rfl, _, _, _, ⟨⟨by decide, (f18.resolve_right (fun q9 => by have := q9.1; omega)).2⟩, (show nn ≠ 48 from by omega), a2, a3, a9, b2, rfl, rfl, rfl⟩, rfl⟩), by omega, by rw [(show zI s55 into 2 = v43 from ev43)]; omega, Or.inr ⟨by omega, Y56⟩, by omega, ((show zI s55 this 2 = v61 from ev61).trans zthis2.symm), ((show zI s55 this 3 = v62 from ev62).trans zthis3.symm), hT.eI t_into (by decide) rfl rfl, hT.eI t_into (by decide) rfl rfl, hT.eI t_into (by decide) rfl rfl, hT.eI t_into (by decide) rfl rfl, Y57, Y58, u15, fun k hk => (usm_lo hk).trans (y16 k hk)⟩ hl (by omega)
                · skip
                  refine lv_if_ne (tgt := 71) hx hb dX3_readSamples_66 (by decide) (fun c9 => absurd (gi_ne c9) (by omega)) (fun _ => ?_)
                  refine lv_iconst (v := 0) hx hb dX3_readSamples_69 (by decide) ?_
                  subst hQ9
                  exact t_z hx hb hr isB0 hlocks hT ⟨⟨(true, ss, nn, vv, hh), y2, Or.inr ⟨by omega, 1, (unxt tc Ln (svq (utkK tc Ln) (unxt tc Ln) (unxt tc Ln ss)) : Nat), Or.inr (Or.inl ⟨rfl, Or.inr (Or.inr ⟨⟨by decide, (f18.resolve_right (fun q9 => by have := q9.1; omega)).2⟩, (show nn ≠ 48 from by omega), Or.inr (Or.inr ⟨a2, a3, Or.inr ⟨a9, b2, rfl, rfl⟩⟩)⟩)⟩), by omega, by omega, b4⟩⟩, isB0⟩ dX3_readSamples_70
              · skip
                refine lv_if_eq (tgt := 69) hx hb dX3_readSamples_59 (by decide) (fun _ => ?_) (fun c9 => absurd (gi_ne c9) (by omega))
                refine lv_iconst (v := 0) hx hb dX3_readSamples_69 (by decide) ?_
                subst hQ9
                exact t_z hx hb hr isB0 hlocks hT ⟨⟨(true, ss, nn, vv, hh), y2, Or.inr ⟨by omega, co, po, by refine Or.inr (Or.inl ⟨rfl, Or.inr (Or.inr ⟨⟨by decide, (f18.resolve_right (fun q9 => by have := q9.1; omega)).2⟩, (show nn ≠ 48 from by omega), ?_⟩)⟩); rw [svl_q]; rcases a2 with ⟨q1, q2, q3⟩ | ⟨q1, q2, q3, q4⟩ | ⟨q1, q2, q3, q4, q5⟩; exact Or.inl ⟨q1, q2, q3⟩; exact Or.inr (Or.inl ⟨q1, q2, q3, q4⟩); exact Or.inr (Or.inr ⟨q1, q2, Or.inl ⟨q3, q4, q5⟩⟩), by rcases a2 with ⟨_, q2, _⟩ | ⟨_, _, q2, _⟩ | ⟨_, _, _, q2, _⟩ <;> omega, a3, a4⟩⟩, isB0⟩ dX3_readSamples_70
            · have c6 := gi_eq c9
              refine lv_aload_n hx hb dX3_readSamples_43 rfl (lv_at hl 1 rfl) ?_
              refine lv_iconst (v := 4) hx hb dX3_readSamples_44 (by decide) ?_
              have cz71 : zI s14 this 5 = v7 := ev7
              have hTo := hT
              refine tVi (n := 1) (As := [.int 4]) (rest := []) hx hb hml hown hg hT hK hX (X3s_isWrong l κ s14 this 4  (hT.k t_this (by decide)) (h0.tr (funext fun k => by rw [erB]; exact hT.eI trB (by decide) rfl rfl) (hT.eI t_this (by decide) rfl rfl))) sub_fW23_fRs (mwV k779 k781 k23 k85 k782) ⟨rfl, by decide, by decide, by decide +kernel⟩ ⟨(Nat.le_of_ble_eq_true rfl), (Nat.le_of_ble_eq_true rfl)⟩ (hT.o6 (hT.k t_this (by decide))) rfl rfl hl.1 rfl (Nat.le_of_ble_eq_true rfl) dX3_readSamples_45 zroom.rf (fun x72 s73 H locs hφ hEs73 hT => ?_)
              have ev4 : zI s73 into 2 = v4 := ((hTo.k t_into (by decide)).eI hEs73 (by decide) rfl).trans ev4
              have ev6 : zI s73 this 4 = v6 := ((hTo.k t_this (by decide)).eI hEs73 (by decide) rfl).trans ev6
              have ev7 : zI s73 this 5 = v7 := ((hTo.k t_this (by decide)).eI hEs73 (by decide) rfl).trans ev7
              have ev9 : zI s73 this 6 = v9 := ((hTo.k t_this (by decide)).eI hEs73 (by decide) rfl).trans ev9
              have ev11 : zI s73 this 7 = v11 := ((hTo.k t_this (by decide)).eI hEs73 (by decide) rfl).trans ev11
              have Y74 : (nn = 0 ∧ vv = -1) ∨ (0 < nn ∧ (zI s73 rP (nn - 1)).toInt = vv) := by first | (rw [show zI s73 rP = zI s14 rP from funext fun k => (hTo.k trP (by decide)).eI hEs73 (by decide) rfl]; exact Y15) | rw [show zI s73 rP = zI s14 rP from funext fun k => (hTo.k trP (by decide)).eI hEs73 (by decide) rfl]
              have Y75 : usP (zI s73 rP) nn hh := by first | (rw [show zI s73 rP = zI s14 rP from funext fun k => (hTo.k trP (by decide)).eI hEs73 (by decide) rfl]; exact Y16) | rw [show zI s73 rP = zI s14 rP from funext fun k => (hTo.k trP (by decide)).eI hEs73 (by decide) rfl]
              have Y76 : usO (zI s73 rO) nn hh := by first | (rw [show zI s73 rO = zI s14 rO from funext fun k => (hTo.k trO (by decide)).eI hEs73 (by decide) rfl]; exact Y17) | rw [show zI s73 rO = zI s14 rO from funext fun k => (hTo.k trO (by decide)).eI hEs73 (by decide) rfl]
              obtain ⟨f77, f78, f79, f80⟩ := hφ
              have wr81 : (zI s73 this 3).toInt = ss := by rw [f79, cz71]; omega
              subst hQ9
              exact t_z hx hb hr f80 hlocks hT ⟨⟨(true, ss, nn, vv, hh), y2, Or.inr ⟨by omega, 4, (ss : Nat), Or.inr (Or.inl ⟨rfl, Or.inr (Or.inl ⟨⟨by decide, (f18.resolve_right (fun q9 => by have := q9.1; omega)).2⟩, (show nn = 48 from by omega), rfl, rfl⟩)⟩), by omega, by omega, wr81⟩⟩, f80⟩ dX3_readSamples_48
          · have c7 := gi_eq c9
            refine lv_aload_n hx hb dX3_readSamples_31 rfl (lv_at hl 1 rfl) ?_
            refine lv_iconst (v := 1) hx hb dX3_readSamples_32 (by decide) ?_
            have cz82 : zI s14 this 5 = v7 := ev7
            have hTo := hT
            refine tVi (n := 1) (As := [.int 1]) (rest := []) hx hb hml hown hg hT hK hX (X3s_isWrong l κ s14 this 1  (hT.k t_this (by decide)) (h0.tr (funext fun k => by rw [erB]; exact hT.eI trB (by decide) rfl rfl) (hT.eI t_this (by decide) rfl rfl))) sub_fW23_fRs (mwV k779 k781 k23 k85 k782) ⟨rfl, by decide, by decide, by decide +kernel⟩ ⟨(Nat.le_of_ble_eq_true rfl), (Nat.le_of_ble_eq_true rfl)⟩ (hT.o6 (hT.k t_this (by decide))) rfl rfl hl.1 rfl (Nat.le_of_ble_eq_true rfl) dX3_readSamples_33 zroom.rf (fun x83 s84 H locs hφ hEs84 hT => ?_)
            have ev4 : zI s84 into 2 = v4 := ((hTo.k t_into (by decide)).eI hEs84 (by decide) rfl).trans ev4
            have ev6 : zI s84 this 4 = v6 := ((hTo.k t_this (by decide)).eI hEs84 (by decide) rfl).trans ev6
            have ev7 : zI s84 this 5 = v7 := ((hTo.k t_this (by decide)).eI hEs84 (by decide) rfl).trans ev7
            have ev9 : zI s84 this 6 = v9 := ((hTo.k t_this (by decide)).eI hEs84 (by decide) rfl).trans ev9
            have ev11 : zI s84 this 7 = v11 := ((hTo.k t_this (by decide)).eI hEs84 (by decide) rfl).trans ev11
            have Y85 : (nn = 0 ∧ vv = -1) ∨ (0 < nn ∧ (zI s84 rP (nn - 1)).toInt = vv) := by first | (rw [show zI s84 rP = zI s14 rP from funext fun k => (hTo.k trP (by decide)).eI hEs84 (by decide) rfl]; exact Y15) | rw [show zI s84 rP = zI s14 rP from funext fun k => (hTo.k trP (by decide)).eI hEs84 (by decide) rfl]
            have Y86 : usP (zI s84 rP) nn hh := by first | (rw [show zI s84 rP = zI s14 rP from funext fun k => (hTo.k trP (by decide)).eI hEs84 (by decide) rfl]; exact Y16) | rw [show zI s84 rP = zI s14 rP from funext fun k => (hTo.k trP (by decide)).eI hEs84 (by decide) rfl]
            have Y87 : usO (zI s84 rO) nn hh := by first | (rw [show zI s84 rO = zI s14 rO from funext fun k => (hTo.k trO (by decide)).eI hEs84 (by decide) rfl]; exact Y17) | rw [show zI s84 rO = zI s14 rO from funext fun k => (hTo.k trO (by decide)).eI hEs84 (by decide) rfl]
            obtain ⟨f88, f89, f90, f91⟩ := hφ
            have wr92 : (zI s84 this 3).toInt = ss := by rw [f90, cz82]; omega
            subst hQ9
            exact t_z hx hb hr f91 hlocks hT ⟨⟨(true, ss, nn, vv, hh), y2, Or.inr ⟨by omega, 1, (ss : Nat), Or.inr (Or.inl ⟨rfl, Or.inl ⟨fun q9 => by have q8 : utkK tc Ln ss = 0 := q9.1; have q7 : 2 ≤ nn := q9.2; omega, fun q9 => (f18.resolve_left (fun q9 => by have := q9.1; omega)).2 q9.2, rfl, rfl⟩⟩), by omega, by omega, wr92⟩⟩, f91⟩ dX3_readSamples_36
        · have c8 := gi_eq c9
          refine lv_iload_n hx hb dX3_readSamples_15 rfl (lv_at hl 0 rfl) ?_
          refine lv_iconst (v := 2) hx hb dX3_readSamples_16 (by decide) ?_
          refine lv_icmp_lt (tgt := 22) hx hb dX3_readSamples_17 (by decide) (fun c9 => ?_) (fun c9 => ?_)
          · have c9 := gi_lt c9
            refine lv_aload_n hx hb dX3_readSamples_22 rfl (lv_at hl 1 rfl) ?_
            refine va_ldcS hx hb hown (hX.2.2.1 12 (by decide)) dX3_readSamples_23 ?_
            have hTo := hT
            refine tVi (n := 1) (As := [.ref (kK κ 12)]) (rest := []) hx hb hml hown hg hT hK hX (X3s_isWord l κ s1 this 12  (hT.k t_this (by decide)) (by decide) (h0.tr (funext fun k => by rw [erB]; exact hT.eI trB (by decide) rfl rfl) (hT.eI t_this (by decide) rfl rfl)) (show TKc s1 this tc Ln ss from by unfold TKc; rw [(show zI s1 this 4 = v6 from ev6), (show zI s1 this 5 = v7 from ev7), (show zI s1 this 6 = v9 from ev9), (show zI s1 this 7 = v11 from ev11)]; exact tk12)) sub_fE_fRs (mwV k724 k726 k22 k85 k727) ⟨rfl, by decide, by decide, by decide +kernel⟩ ⟨(Nat.le_of_ble_eq_true rfl), (Nat.le_of_ble_eq_true rfl)⟩ (hT.o6 (hT.k t_this (by decide))) rfl rfl hl.1 rfl (Nat.le_of_ble_eq_true rfl) dX3_readSamples_25 zroom.rf (fun x93 s94 H locs hφ hEs94 hT => ?_)
            have ev2 : zI s94 this 2 = v2 := ((hTo.k t_this (by decide)).eI hEs94 (by decide) rfl).trans ev2
            have ev3 : zI s94 this 3 = v3 := ((hTo.k t_this (by decide)).eI hEs94 (by decide) rfl).trans ev3
            have ev4 : zI s94 into 2 = v4 := ((hTo.k t_into (by decide)).eI hEs94 (by decide) rfl).trans ev4
            have ev6 : zI s94 this 4 = v6 := ((hTo.k t_this (by decide)).eI hEs94 (by decide) rfl).trans ev6
            have ev7 : zI s94 this 5 = v7 := ((hTo.k t_this (by decide)).eI hEs94 (by decide) rfl).trans ev7
            have ev9 : zI s94 this 6 = v9 := ((hTo.k t_this (by decide)).eI hEs94 (by decide) rfl).trans ev9
            have ev11 : zI s94 this 7 = v11 := ((hTo.k t_this (by decide)).eI hEs94 (by decide) rfl).trans ev11
            have Y95 : (nn = 0 ∧ vv = -1) ∨ (0 < nn ∧ (zI s94 rP (nn - 1)).toInt = vv) := by first | (rw [show zI s94 rP = zI s1 rP from funext fun k => (hTo.k trP (by decide)).eI hEs94 (by decide) rfl]; exact y5) | rw [show zI s94 rP = zI s1 rP from funext fun k => (hTo.k trP (by decide)).eI hEs94 (by decide) rfl]
            have Y96 : usP (zI s94 rP) nn hh := by first | (rw [show zI s94 rP = zI s1 rP from funext fun k => (hTo.k trP (by decide)).eI hEs94 (by decide) rfl]; exact y13) | rw [show zI s94 rP = zI s1 rP from funext fun k => (hTo.k trP (by decide)).eI hEs94 (by decide) rfl]
            have Y97 : usO (zI s94 rO) nn hh := by first | (rw [show zI s94 rO = zI s1 rO from funext fun k => (hTo.k trO (by decide)).eI hEs94 (by decide) rfl]; exact y14) | rw [show zI s94 rO = zI s1 rO from funext fun k => (hTo.k trO (by decide)).eI hEs94 (by decide) rfl]
            obtain ⟨f98, f99⟩ := hφ
            refine lv_if_ne (tgt := 37) hx hb dX3_readSamples_28 (by decide) (fun c9 => ?_) (fun c9 => ?_)
            · have c10 := gi_ne c9
              refine lv_iload_n hx hb dX3_readSamples_37 rfl (lv_at hl 0 rfl) ?_
              refine lv_bipush (v := 48) hx hb dX3_readSamples_38 (by decide) ?_
              refine lv_icmp_ne (tgt := 49) hx hb dX3_readSamples_40 (by decide) (fun c9 => ?_) (fun c9 => ?_)
              · have c11 := gi_ne c9
                refine lv_aload_n hx hb dX3_readSamples_49 rfl (lv_at hl 1 rfl) ?_
                have hTo := hT
                refine tVi (n := 0) (As := []) (rest := []) hx hb hml hown hg hT hK hX (X3s_pass l κ s94 this  (hT.k t_this (by decide)) (h0.tr (funext fun k => by rw [erB]; exact hT.eI trB (by decide) rfl rfl) (hT.eI t_this (by decide) rfl rfl)) (show (zI s94 this 6).toInt = (utkE tc Ln ss : Nat) from by rw [(show zI s94 this 6 = v9 from ev9)]; omega) (utkE_le tk128)) sub_fP_fRs (mwV k697 k699 k17 k85 k700) ⟨rfl, by decide, by decide, by decide +kernel⟩ ⟨(Nat.le_of_ble_eq_true rfl), (Nat.le_of_ble_eq_true rfl)⟩ (hT.o6 (hT.k t_this (by decide))) rfl rfl hl.1 rfl (Nat.le_of_ble_eq_true rfl) dX3_readSamples_50 zroom.rf (fun x100 s101 H locs hφ hEs101 hT => ?_)
                have ev2 : zI s101 this 2 = v2 := ((hTo.k t_this (by decide)).eI hEs101 (by decide) rfl).trans ev2
                have ev3 : zI s101 this 3 = v3 := ((hTo.k t_this (by decide)).eI hEs101 (by decide) rfl).trans ev3
                have ev4 : zI s101 into 2 = v4 := ((hTo.k t_into (by decide)).eI hEs101 (by decide) rfl).trans ev4
                have Y102 : (nn = 0 ∧ vv = -1) ∨ (0 < nn ∧ (zI s101 rP (nn - 1)).toInt = vv) := by first | (rw [show zI s101 rP = zI s94 rP from funext fun k => (hTo.k trP (by decide)).eI hEs101 (by decide) rfl]; exact Y95) | rw [show zI s101 rP = zI s94 rP from funext fun k => (hTo.k trP (by decide)).eI hEs101 (by decide) rfl]
                have Y103 : usP (zI s101 rP) nn hh := by first | (rw [show zI s101 rP = zI s94 rP from funext fun k => (hTo.k trP (by decide)).eI hEs101 (by decide) rfl]; exact Y96) | rw [show zI s101 rP = zI s94 rP from funext fun k => (hTo.k trP (by decide)).eI hEs101 (by decide) rfl]
                have Y104 : usO (zI s101 rO) nn hh := by first | (rw [show zI s101 rO = zI s94 rO from funext fun k => (hTo.k trO (by decide)).eI hEs101 (by decide) rfl]; exact Y97) | rw [show zI s101 rO = zI s94 rO from funext fun k => (hTo.k trO (by decide)).eI hEs101 (by decide) rfl]
                obtain ⟨f105, f106, f107⟩ := hφ
                obtain ⟨v108, ev108⟩ : ∃ zz9 : Int32, zI s101 this 4 = zz9 := ⟨_, rfl⟩
                have qv108 : v108.toInt = (zI s101 this 4).toInt := by rw [ev108]
                obtain ⟨v109, ev109⟩ : ∃ zz9 : Int32, zI s101 this 5 = zz9 := ⟨_, rfl⟩
                have qv109 : v109.toInt = (zI s101 this 5).toInt := by rw [ev109]
                have b110 := (hT.P (hT.k t_this (by decide)) (by decide)).2.1
                rw [ev109] at b110
                have b110l := b110.1
                have b110h := b110.2
                obtain ⟨v111, ev111⟩ : ∃ zz9 : Int32, zI s101 this 6 = zz9 := ⟨_, rfl⟩
                have qv111 : v111.toInt = (zI s101 this 6).toInt := by rw [ev111]
                have b112 := (hT.P (hT.k t_this (by decide)) (by decide)).2.2
                rw [ev111] at b112
                have b112l := b112.1
                have b112h := b112.2
                obtain ⟨v113, ev113⟩ : ∃ zz9 : Int32, zI s101 this 7 = zz9 := ⟨_, rfl⟩
                have qv113 : v113.toInt = (zI s101 this 7).toInt := by rw [ev113]
                have tk114 : TKv v108 v109 v111 v113 tc Ln (unxt tc Ln ss) := by have z9 := f106; unfold TKc at z9; rw [(show zI s101 this 4 = v108 from ev108), (show zI s101 this 5 = v109 from ev109), (show zI s101 this 6 = v111 from ev111), (show zI s101 this 7 = v113 from ev113)] at z9; exact z9
                obtain ⟨tk1144, tk1145, tk1146, tk1147, tk1148⟩ := id tk114
                refine lv_pop hx hb dX3_readSamples_53 rfl ?_
                refine lv_aload_n hx hb dX3_readSamples_54 rfl (lv_at hl 1 rfl) ?_
                refine lv_aload_n hx hb dX3_readSamples_55 rfl (lv_at hl 2 rfl) ?_
                have cz115 : zI s101 this 2 = v2 := ev2
                have cz116 : zI s101 this 3 = v3 := ev3
                have hTo := hT
                refine tVi (n := 1) (As := [.ref into]) (rest := []) hx hb hml hown hg hT hK hX (X3s_readSample l κ s101 this into  (hT.k t_this (by decide)) (hT.k t_into (by decide)) (h0.tr (funext fun k => by rw [erB]; exact hT.eI trB (by decide) rfl rfl) (hT.eI t_this (by decide) rfl rfl)) (show TKc s101 this tc Ln (unxt tc Ln ss) from by unfold TKc; rw [(show zI s101 this 4 = v108 from ev108), (show zI s101 this 5 = v109 from ev109), (show zI s101 this 6 = v111 from ev111), (show zI s101 this 7 = v113 from ev113)]; exact tk114) (show (zI s101 into 2).toInt = (nn : Nat) from by rw [(show zI s101 into 2 = v4 from ev4)]; omega) (by omega) (show (nn = 0 ∧ vv = -1) ∨ (0 < nn ∧ (zI s101 (kR κ into 0) (nn - 1)).toInt = vv) from by rw [erP]; exact Y102)) (fun _ _ h => h) (mwV k808 k810 k28 k85 k811) ⟨rfl, by decide, by decide, by decide +kernel⟩ ⟨(Nat.le_of_ble_eq_true rfl), (Nat.le_of_ble_eq_true rfl)⟩ (hT.o6 (hT.k t_this (by decide))) rfl rfl hl.1 rfl (Nat.le_of_ble_eq_true rfl) dX3_readSamples_56 zroom.rf (fun x117 s118 H locs hφ hEs118 hT => ?_)
                obtain ⟨f119, f120⟩ := hφ
                rcases f119 with ⟨a1, a2, a3, a9, a4, a5, a6, a7, a8, a10, a11, a12, a13, a14, a15, a16⟩ | ⟨a1, co, po, a2, a3, a4⟩
                · skip
                  obtain ⟨v121, ev121⟩ : ∃ zz9 : Int32, zI s118 this 2 = zz9 := ⟨_, rfl⟩
                  have qv121 : v121.toInt = (zI s118 this 2).toInt := by rw [ev121]
                  have zthis2 : zI σ0 this 2 = v121 := zthis2.trans (cz115.symm.trans (a7.symm.trans ev121))
                  obtain ⟨v122, ev122⟩ : ∃ zz9 : Int32, zI s118 this 3 = zz9 := ⟨_, rfl⟩
                  have qv122 : v122.toInt = (zI s118 this 3).toInt := by rw [ev122]
                  have zthis3 : zI σ0 this 3 = v122 := zthis3.trans (cz116.symm.trans (a8.symm.trans ev122))
                  obtain ⟨v123, ev123⟩ : ∃ zz9 : Int32, zI s118 into 2 = zz9 := ⟨_, rfl⟩
                  have qv123 : v123.toInt = (zI s118 into 2).toInt := by rw [ev123]
                  have b124 := (hT.P (hT.k t_into (by decide)) (by decide)).1
                  rw [ev123] at b124
                  have b124l := b124.1
                  have b124h := b124.2
                  rw [(show zI s118 into 2 = v123 from ev123)] at a5
                  obtain ⟨v125, ev125⟩ : ∃ zz9 : Int32, zI s118 this 4 = zz9 := ⟨_, rfl⟩
                  have qv125 : v125.toInt = (zI s118 this 4).toInt := by rw [ev125]
                  obtain ⟨v126, ev126⟩ : ∃ zz9 : Int32, zI s118 this 5 = zz9 := ⟨_, rfl⟩
                  have qv126 : v126.toInt = (zI s118 this 5).toInt := by rw [ev126]
                  have b127 := (hT.P (hT.k t_this (by decide)) (by decide)).2.1
                  rw [ev126] at b127
                  have b127l := b127.1
                  have b127h := b127.2
                  obtain ⟨v128, ev128⟩ : ∃ zz9 : Int32, zI s118 this 6 = zz9 := ⟨_, rfl⟩
                  have qv128 : v128.toInt = (zI s118 this 6).toInt := by rw [ev128]
                  have b129 := (hT.P (hT.k t_this (by decide)) (by decide)).2.2
                  rw [ev128] at b129
                  have b129l := b129.1
                  have b129h := b129.2
                  obtain ⟨v130, ev130⟩ : ∃ zz9 : Int32, zI s118 this 7 = zz9 := ⟨_, rfl⟩
                  have qv130 : v130.toInt = (zI s118 this 7).toInt := by rw [ev130]
                  have tk131 : TKv v125 v126 v128 v130 tc Ln (unxt tc Ln (svq (utkK tc Ln) (unxt tc Ln) (unxt tc Ln ss))) := by have z9 := a4; unfold TKc at z9; rw [(show zI s118 this 4 = v125 from ev125), (show zI s118 this 5 = v126 from ev126), (show zI s118 this 6 = v128 from ev128), (show zI s118 this 7 = v130 from ev130)] at z9; exact z9
                  obtain ⟨tk1314, tk1315, tk1316, tk1317, tk1318⟩ := id tk131
                  rw [erP] at a6
                  rw [erP] at a14
                  rw [erO] at a15 a16
                  have u13 : usP (zI s118 rP) (nn + 1) (usm (utkK tc Ln) (unxt tc Ln) (uvl tc Ln) ss nn hh) := Y103.more a14 a6
                  have u14 : usO (zI s118 rO) (nn + 1) (usm (utkK tc Ln) (unxt tc Ln) (uvl tc Ln) ss nn hh) := Y104.more a15 a16
                  have u15 : usB (nn + 1) (usm (utkK tc Ln) (unxt tc Ln) (uvl tc Ln) ss nn hh) := y15.more (uvq_b a9)
                  refine lv_if_eq (tgt := 69) hx hb dX3_readSamples_59 (by decide) (fun c9 => absurd (gi_eq c9) (by omega)) (fun _ => ?_)
                  refine lv_aload_n hx hb dX3_readSamples_62 rfl (lv_at hl 1 rfl) ?_
                  have cz132 : zI s118 this 2 = v121 := ev121
                  have cz133 : zI s118 this 3 = v122 := ev122
                  have hTo := hT
                  refine tVi (n := 0) (As := []) (rest := []) hx hb hml hown hg hT hK hX (X3s_passSemicolon l κ s118 this  (hT.k t_this (by decide)) (h0.tr (funext fun k => by rw [erB]; exact hT.eI trB (by decide) rfl rfl) (hT.eI t_this (by decide) rfl rfl)) (show TKc s118 this tc Ln (unxt tc Ln (svq (utkK tc Ln) (unxt tc Ln) (unxt tc Ln ss))) from by unfold TKc; rw [(show zI s118 this 4 = v125 from ev125), (show zI s118 this 5 = v126 from ev126), (show zI s118 this 6 = v128 from ev128), (show zI s118 this 7 = v130 from ev130)]; exact tk131)) sub_fPe_fRs (mwV k799 k801 k26 k85 k802) ⟨rfl, by decide, by decide, by decide +kernel⟩ ⟨(Nat.le_of_ble_eq_true rfl), (Nat.le_of_ble_eq_true rfl)⟩ (hT.o6 (hT.k t_this (by decide))) rfl rfl hl.1 rfl (Nat.le_of_ble_eq_true rfl) dX3_readSamples_63 zroom.rf (fun x134 s135 H locs hφ hEs135 hT => ?_)
                  have ev123 : zI s135 into 2 = v123 := ((hTo.k t_into (by decide)).eI hEs135 (by decide) rfl).trans ev123
                  have Y136 : (zI s135 rP nn).toInt = uvl tc Ln (unxt tc Ln ss) := by first | (rw [show zI s135 rP = zI s118 rP from funext fun k => (hTo.k trP (by decide)).eI hEs135 (by decide) rfl]; exact a6) | rw [show zI s135 rP = zI s118 rP from funext fun k => (hTo.k trP (by decide)).eI hEs135 (by decide) rfl]
                  have Y137 : usP (zI s135 rP) (nn + 1) (usm (utkK tc Ln) (unxt tc Ln) (uvl tc Ln) ss nn hh) := by first | (rw [show zI s135 rP = zI s118 rP from funext fun k => (hTo.k trP (by decide)).eI hEs135 (by decide) rfl]; exact u13) | rw [show zI s135 rP = zI s118 rP from funext fun k => (hTo.k trP (by decide)).eI hEs135 (by decide) rfl]
                  have Y138 : usO (zI s135 rO) (nn + 1) (usm (utkK tc Ln) (unxt tc Ln) (uvl tc Ln) ss nn hh) := by first | (rw [show zI s135 rO = zI s118 rO from funext fun k => (hTo.k trO (by decide)).eI hEs135 (by decide) rfl]; exact u14) | rw [show zI s135 rO = zI s118 rO from funext fun k => (hTo.k trO (by decide)).eI hEs135 (by decide) rfl]
                  obtain ⟨f139, f140⟩ := hφ
                  rcases f139 with ⟨b1, b2, b3, b4, b5⟩ | ⟨b1, b2, b3, b4⟩
                  · skip
                    obtain ⟨v141, ev141⟩ : ∃ zz9 : Int32, zI s135 this 2 = zz9 := ⟨_, rfl⟩
                    have qv141 : v141.toInt = (zI s135 this 2).toInt := by rw [ev141]
                    have zthis2 : zI σ0 this 2 = v141 := zthis2.trans (cz132.symm.trans (b4.symm.trans ev141))
                    obtain ⟨v142, ev142⟩ : ∃ zz9 : Int32, zI s135 this 3 = zz9 := ⟨_, rfl⟩
                    have qv142 : v142.toInt = (zI s135 this 3).toInt := by rw [ev142]
                    have zthis3 : zI σ0 this 3 = v142 := zthis3.trans (cz133.symm.trans (b5.symm.trans ev142))
                    obtain ⟨v143, ev143⟩ : ∃ zz9 : Int32, zI s135 this 4 = zz9 := ⟨_, rfl⟩
                    have qv143 : v143.toInt = (zI s135 this 4).toInt := by rw [ev143]
                    obtain ⟨v144, ev144⟩ : ∃ zz9 : Int32, zI s135 this 5 = zz9 := ⟨_, rfl⟩
                    have qv144 : v144.toInt = (zI s135 this 5).toInt := by rw [ev144]
                    have b145 := (hT.P (hT.k t_this (by decide)) (by decide)).2.1
                    rw [ev144] at b145
                    have b145l := b145.1
                    have b145h := b145.2
                    obtain ⟨v146, ev146⟩ : ∃ zz9 : Int32, zI s135 this 6 = zz9 := ⟨_, rfl⟩
                    have qv146 : v146.toInt = (zI s135 this 6).toInt := by rw [ev146]
                    have b147 := (hT.P (hT.k t_this (by decide)) (by decide)).2.2
                    rw [ev146] at b147
                    have b147l := b147.1
                    have b147h := b147.2
                    obtain ⟨v148, ev148⟩ : ∃ zz9 : Int32, zI s135 this 7 = zz9 := ⟨_, rfl⟩
                    have qv148 : v148.toInt = (zI s135 this 7).toInt := by rw [ev148]
                    have tk149 : TKv v143 v144 v146 v148 tc Ln (unxt tc Ln (unxt tc Ln (svq (utkK tc Ln) (unxt tc Ln) (unxt tc Ln ss)))) := by have z9 := b3; unfold TKc at z9; rw [(show zI s135 this 4 = v143 from ev143), (show zI s135 this 5 = v144 from ev144), (show zI s135 this 6 = v146 from ev146), (show zI s135 this 7 = v148 from ev148)] at z9; exact z9
                    obtain ⟨tk1494, tk1495, tk1496, tk1497, tk1498⟩ := id tk149
                    refine lv_if_ne (tgt := 71) hx hb dX3_readSamples_66 (by decide) (fun _ => ?_) (fun c9 => absurd (gi_eq c9) (by omega))
                    obtain ⟨t150, qt150⟩ : ∃ zz9 : Int32, j + Int32.ofInt 1 = zz9 := ⟨_, rfl⟩
                    refine lv_iinc (v := t150) (lv' := [(2, .int t150), (0, .ref this), (1, .ref into)]) hx hb dX3_readSamples_71 hl (k := 0) rfl qt150 (by decide) rfl (fun ls hl => ?_)
                    have ht150 : t150.toInt = j.toInt + 1 := by rw [← qt150]; exact v_addi rfl (show (Int32.ofInt 1).toInt = 1 from by decide) (by omega) (by omega)
                    refine lv_goto (tgt := 2) hx hb dX3_readSamples_74 (by decide) ?_
                    exact ih2 t150 _ _ _ _ hT  (by omega) (by omega) ⟨unxt tc Ln (unxt tc Ln (svq (utkK tc Ln) (unxt tc Ln) (unxt tc Ln ss))), nn + 1, uvl tc Ln (unxt tc Ln ss), usm (utkK tc Ln) (unxt tc Ln) (uvl tc Ln) ss nn hh, (show TKc s135 this tc Ln (unxt tc Ln (unxt tc Ln (svq (utkK tc Ln) (unxt tc Ln) (unxt tc Ln ss)))) from by unfold TKc; rw [(show zI s135 this 4 = v143 from ev143), (show zI s135 this 5 = v144 from ev144), (show zI s135 this 6 = v146 from ev146), (show zI s135 this 7 = v148 from ev148)]; exact tk149), urt_tl y2 (Or.inr ⟨rfl, _, _, _, ⟨⟨by decide, (f98.resolve_right (fun q9 => by have := q9.1; omega)).2⟩, (show nn ≠ 48 from by omega), a2, a3, a9, b2, rfl, rfl, rfl⟩, rfl⟩), by omega, by rw [(show zI s135 into 2 = v123 from ev123)]; omega, Or.inr ⟨by omega, Y136⟩, by omega, ((show zI s135 this 2 = v141 from ev141).trans zthis2.symm), ((show zI s135 this 3 = v142 from ev142).trans zthis3.symm), hT.eI t_into (by decide) rfl rfl, hT.eI t_into (by decide) rfl rfl, hT.eI t_into (by decide) rfl rfl, hT.eI t_into (by decide) rfl rfl, Y137, Y138, u15, fun k hk => (usm_lo hk).trans (y16 k hk)⟩ hl (by omega)
                  · skip
                    refine lv_if_ne (tgt := 71) hx hb dX3_readSamples_66 (by decide) (fun c9 => absurd (gi_ne c9) (by omega)) (fun _ => ?_)
                    refine lv_iconst (v := 0) hx hb dX3_readSamples_69 (by decide) ?_
                    subst hQ9
                    exact t_z hx hb hr isB0 hlocks hT ⟨⟨(true, ss, nn, vv, hh), y2, Or.inr ⟨by omega, 1, (unxt tc Ln (svq (utkK tc Ln) (unxt tc Ln) (unxt tc Ln ss)) : Nat), Or.inr (Or.inl ⟨rfl, Or.inr (Or.inr ⟨⟨by decide, (f98.resolve_right (fun q9 => by have := q9.1; omega)).2⟩, (show nn ≠ 48 from by omega), Or.inr (Or.inr ⟨a2, a3, Or.inr ⟨a9, b2, rfl, rfl⟩⟩)⟩)⟩), by omega, by omega, b4⟩⟩, isB0⟩ dX3_readSamples_70
                · skip
                  refine lv_if_eq (tgt := 69) hx hb dX3_readSamples_59 (by decide) (fun _ => ?_) (fun c9 => absurd (gi_ne c9) (by omega))
                  refine lv_iconst (v := 0) hx hb dX3_readSamples_69 (by decide) ?_
                  subst hQ9
                  exact t_z hx hb hr isB0 hlocks hT ⟨⟨(true, ss, nn, vv, hh), y2, Or.inr ⟨by omega, co, po, by refine Or.inr (Or.inl ⟨rfl, Or.inr (Or.inr ⟨⟨by decide, (f98.resolve_right (fun q9 => by have := q9.1; omega)).2⟩, (show nn ≠ 48 from by omega), ?_⟩)⟩); rw [svl_q]; rcases a2 with ⟨q1, q2, q3⟩ | ⟨q1, q2, q3, q4⟩ | ⟨q1, q2, q3, q4, q5⟩; exact Or.inl ⟨q1, q2, q3⟩; exact Or.inr (Or.inl ⟨q1, q2, q3, q4⟩); exact Or.inr (Or.inr ⟨q1, q2, Or.inl ⟨q3, q4, q5⟩⟩), by rcases a2 with ⟨_, q2, _⟩ | ⟨_, _, q2, _⟩ | ⟨_, _, _, q2, _⟩ <;> omega, a3, a4⟩⟩, isB0⟩ dX3_readSamples_70
              · have c12 := gi_eq c9
                refine lv_aload_n hx hb dX3_readSamples_43 rfl (lv_at hl 1 rfl) ?_
                refine lv_iconst (v := 4) hx hb dX3_readSamples_44 (by decide) ?_
                have cz151 : zI s94 this 5 = v7 := ev7
                have hTo := hT
                refine tVi (n := 1) (As := [.int 4]) (rest := []) hx hb hml hown hg hT hK hX (X3s_isWrong l κ s94 this 4  (hT.k t_this (by decide)) (h0.tr (funext fun k => by rw [erB]; exact hT.eI trB (by decide) rfl rfl) (hT.eI t_this (by decide) rfl rfl))) sub_fW23_fRs (mwV k779 k781 k23 k85 k782) ⟨rfl, by decide, by decide, by decide +kernel⟩ ⟨(Nat.le_of_ble_eq_true rfl), (Nat.le_of_ble_eq_true rfl)⟩ (hT.o6 (hT.k t_this (by decide))) rfl rfl hl.1 rfl (Nat.le_of_ble_eq_true rfl) dX3_readSamples_45 zroom.rf (fun x152 s153 H locs hφ hEs153 hT => ?_)
                have ev4 : zI s153 into 2 = v4 := ((hTo.k t_into (by decide)).eI hEs153 (by decide) rfl).trans ev4
                have ev6 : zI s153 this 4 = v6 := ((hTo.k t_this (by decide)).eI hEs153 (by decide) rfl).trans ev6
                have ev7 : zI s153 this 5 = v7 := ((hTo.k t_this (by decide)).eI hEs153 (by decide) rfl).trans ev7
                have ev9 : zI s153 this 6 = v9 := ((hTo.k t_this (by decide)).eI hEs153 (by decide) rfl).trans ev9
                have ev11 : zI s153 this 7 = v11 := ((hTo.k t_this (by decide)).eI hEs153 (by decide) rfl).trans ev11
                have Y154 : (nn = 0 ∧ vv = -1) ∨ (0 < nn ∧ (zI s153 rP (nn - 1)).toInt = vv) := by first | (rw [show zI s153 rP = zI s94 rP from funext fun k => (hTo.k trP (by decide)).eI hEs153 (by decide) rfl]; exact Y95) | rw [show zI s153 rP = zI s94 rP from funext fun k => (hTo.k trP (by decide)).eI hEs153 (by decide) rfl]
                have Y155 : usP (zI s153 rP) nn hh := by first | (rw [show zI s153 rP = zI s94 rP from funext fun k => (hTo.k trP (by decide)).eI hEs153 (by decide) rfl]; exact Y96) | rw [show zI s153 rP = zI s94 rP from funext fun k => (hTo.k trP (by decide)).eI hEs153 (by decide) rfl]
                have Y156 : usO (zI s153 rO) nn hh := by first | (rw [show zI s153 rO = zI s94 rO from funext fun k => (hTo.k trO (by decide)).eI hEs153 (by decide) rfl]; exact Y97) | rw [show zI s153 rO = zI s94 rO from funext fun k => (hTo.k trO (by decide)).eI hEs153 (by decide) rfl]
                obtain ⟨f157, f158, f159, f160⟩ := hφ
                have wr161 : (zI s153 this 3).toInt = ss := by rw [f159, cz151]; omega
                subst hQ9
                exact t_z hx hb hr f160 hlocks hT ⟨⟨(true, ss, nn, vv, hh), y2, Or.inr ⟨by omega, 4, (ss : Nat), Or.inr (Or.inl ⟨rfl, Or.inr (Or.inl ⟨⟨by decide, (f98.resolve_right (fun q9 => by have := q9.1; omega)).2⟩, (show nn = 48 from by omega), rfl, rfl⟩)⟩), by omega, by omega, wr161⟩⟩, f160⟩ dX3_readSamples_48
            · have c13 := gi_eq c9
              refine lv_aload_n hx hb dX3_readSamples_31 rfl (lv_at hl 1 rfl) ?_
              refine lv_iconst (v := 1) hx hb dX3_readSamples_32 (by decide) ?_
              have cz162 : zI s94 this 5 = v7 := ev7
              have hTo := hT
              refine tVi (n := 1) (As := [.int 1]) (rest := []) hx hb hml hown hg hT hK hX (X3s_isWrong l κ s94 this 1  (hT.k t_this (by decide)) (h0.tr (funext fun k => by rw [erB]; exact hT.eI trB (by decide) rfl rfl) (hT.eI t_this (by decide) rfl rfl))) sub_fW23_fRs (mwV k779 k781 k23 k85 k782) ⟨rfl, by decide, by decide, by decide +kernel⟩ ⟨(Nat.le_of_ble_eq_true rfl), (Nat.le_of_ble_eq_true rfl)⟩ (hT.o6 (hT.k t_this (by decide))) rfl rfl hl.1 rfl (Nat.le_of_ble_eq_true rfl) dX3_readSamples_33 zroom.rf (fun x163 s164 H locs hφ hEs164 hT => ?_)
              have ev4 : zI s164 into 2 = v4 := ((hTo.k t_into (by decide)).eI hEs164 (by decide) rfl).trans ev4
              have ev6 : zI s164 this 4 = v6 := ((hTo.k t_this (by decide)).eI hEs164 (by decide) rfl).trans ev6
              have ev7 : zI s164 this 5 = v7 := ((hTo.k t_this (by decide)).eI hEs164 (by decide) rfl).trans ev7
              have ev9 : zI s164 this 6 = v9 := ((hTo.k t_this (by decide)).eI hEs164 (by decide) rfl).trans ev9
              have ev11 : zI s164 this 7 = v11 := ((hTo.k t_this (by decide)).eI hEs164 (by decide) rfl).trans ev11
              have Y165 : (nn = 0 ∧ vv = -1) ∨ (0 < nn ∧ (zI s164 rP (nn - 1)).toInt = vv) := by first | (rw [show zI s164 rP = zI s94 rP from funext fun k => (hTo.k trP (by decide)).eI hEs164 (by decide) rfl]; exact Y95) | rw [show zI s164 rP = zI s94 rP from funext fun k => (hTo.k trP (by decide)).eI hEs164 (by decide) rfl]
              have Y166 : usP (zI s164 rP) nn hh := by first | (rw [show zI s164 rP = zI s94 rP from funext fun k => (hTo.k trP (by decide)).eI hEs164 (by decide) rfl]; exact Y96) | rw [show zI s164 rP = zI s94 rP from funext fun k => (hTo.k trP (by decide)).eI hEs164 (by decide) rfl]
              have Y167 : usO (zI s164 rO) nn hh := by first | (rw [show zI s164 rO = zI s94 rO from funext fun k => (hTo.k trO (by decide)).eI hEs164 (by decide) rfl]; exact Y97) | rw [show zI s164 rO = zI s94 rO from funext fun k => (hTo.k trO (by decide)).eI hEs164 (by decide) rfl]
              obtain ⟨f168, f169, f170, f171⟩ := hφ
              have wr172 : (zI s164 this 3).toInt = ss := by rw [f170, cz162]; omega
              subst hQ9
              exact t_z hx hb hr f171 hlocks hT ⟨⟨(true, ss, nn, vv, hh), y2, Or.inr ⟨by omega, 1, (ss : Nat), Or.inr (Or.inl ⟨rfl, Or.inl ⟨fun q9 => by have q8 : utkK tc Ln ss = 0 := q9.1; have q7 : 2 ≤ nn := q9.2; omega, fun q9 => (f98.resolve_left (fun q9 => by have := q9.1; omega)).2 q9.2, rfl, rfl⟩⟩), by omega, by omega, wr172⟩⟩, f171⟩ dX3_readSamples_36
          · have c14 := gi_nlt c9
            refine lv_iconst (v := 1) hx hb dX3_readSamples_20 (by decide) ?_
            subst hQ9
            exact t_z hx hb hr isB1 hlocks hT ⟨⟨(true, ss, nn, vv, hh), y2, Or.inl ⟨n1, ss, nn, vv, hh, rfl, ⟨by omega, by omega⟩, by rw [(show zI s1 into 2 = v4 from ev4)]; omega, ((show zI s1 this 2 = v2 from ev2).trans zthis2.symm), ((show zI s1 this 3 = v3 from ev3).trans zthis3.symm), hT.eI t_into (by decide) rfl rfl, hT.eI t_into (by decide) rfl rfl, hT.eI t_into (by decide) rfl rfl, hT.eI t_into (by decide) rfl rfl, by rw [erP]; exact y13, by rw [erO]; exact y14, y15, y16⟩⟩, isB1⟩ dX3_readSamples_21
  exact loop2 ((49 - (0 : Int32).toInt).toNat + 1) 0 _ _ _ _ hT  (by omega) (by omega) ⟨sp, 0, -1, gg, h1, urt_rf, n0, h2, Or.inl ⟨rfl, rfl⟩, by decide, rfl, rfl, rfl, rfl, rfl, rfl, usP.z, usO.z, usB.z, fun _ _ => rfl⟩ hl (by omega)
set_option maxHeartbeats 4000000 in
set_option maxRecDepth 100000 in
theorem X3s_readInto (l : Launch) (κ : Kt) (σ0 : Gh) (this : Nat) (into : Nat) {tc : Nat → Int} {Ln : Nat} (t_this : zk σ0 this 6) (t_into : zk σ0 into 5) (h0 : TXc κ σ0 this tc Ln) : TC l yX3_readInto cX3_readInto 2 (some .boolean) 7 153 [.ref this, .ref into] κ σ0 (tqi κ fRd σ0 (fun (r : Int32) (τ : Gh) => (∃ (x : uRd) (co po : Int), uRds tc Ln x co po ∧ ((r.toInt = 1 ∧ co = 0 ∧ (zI τ into 2).toInt = po ∧ 2 ≤ (zI τ into 2).toInt ∧ (zI τ this 2).toInt = 0 ∧ (zI τ this 3).toInt = -1 ∧ GSc τ into x.2.2.2.2 ∧ usP (zI τ (kR κ into 0)) po.toNat x.2.2.2.2 ∧ usO (zI τ (kR κ into 1)) po.toNat x.2.2.2.2 ∧ usB po.toNat x.2.2.2.2) ∨ (r.toInt = 0 ∧ co ≠ 0 ∧ (zI τ this 2).toInt = co ∧ (zI τ this 3).toInt = po))) ∧ (isB r))) := by
  refine TC.of fRd (by decide +kernel) (Nat.le_of_ble_eq_true rfl) ?_
  intro p e s m below meth c ls hcs hK hX hT hl
  obtain ⟨hx, hb, hr, hml, hown, hg, hlocks, hin⟩ := hcs
  have hown : s.vm.findClass RX3 = some m.cls := hown
  have hl : lv_has ls 2 [(0, .ref this), (1, .ref into)] := hl
  have hT0 := hT
  have nm1 : ((-1) : Int32).toInt = (-1) := by decide
  have n0 : (0 : Int32).toInt = 0 := by decide
  have n1 : (1 : Int32).toInt = 1 := by decide
  generalize hQ9 : tQ _ _ _ _ _ _ = Q9
  obtain ⟨rB, erB⟩ : ∃ z, kR κ this 0 = z := ⟨_, rfl⟩
  have trB : zk σ0 rB 14 := by rw [← erB]; exact hT0.ref t_this (by decide) (by decide) (by decide)
  have hpc : ∀ j, tc j = (zI σ0 rB j).toInt := by rw [← erB]; exact h0.1
  have hLn : (zI σ0 this 1).toInt = Ln := h0.2
  have bL := (hT0.P t_this (by decide)).1.2
  have hL7 : (Ln : Int) ≤ 700 := by omega
  refine lv_aload_n hx hb dX3_readInto_0 rfl (lv_at hl 0 rfl) ?_
  refine lv_iconst (v := 0) hx hb dX3_readInto_1 (by decide) ?_
  have hTo := hT
  refine pf6_2 hx hb hg hown hK hT (hT.k t_this (by decide)) rfl (hg _ k122) dX3_readInto_2 (fun H locs s1 hus1 hT => ?_)
  have e2 : zI s1 this 2 = 0 := zput_at hus1
  refine lv_aload_n hx hb dX3_readInto_5 rfl (lv_at hl 0 rfl) ?_
  refine lv_iconst (v := (-1)) hx hb dX3_readInto_6 (by decide) ?_
  have hTo := hT
  refine pf6_3 hx hb hg hown hK hT (hT.k t_this (by decide)) rfl (hg _ k124) dX3_readInto_7 (fun H locs s3 hus3 hT => ?_)
  have e2 : zI s3 this 2 = 0 := (zput_o hus3 (Or.inr (by decide))).trans e2
  have e4 : zI s3 this 3 = (-1) := zput_at hus3
  refine lv_aload_n hx hb dX3_readInto_10 rfl (lv_at hl 0 rfl) ?_
  refine lv_iconst (v := 0) hx hb dX3_readInto_11 (by decide) ?_
  have hTo := hT
  refine pf6_6 hx hb hg hown hK hT (hT.k t_this (by decide)) rfl ⟨by omega, by omega⟩ (hg _ k128) dX3_readInto_12 (fun H locs s5 hus5 hT => ?_)
  have e2 : zI s5 this 2 = 0 := (zput_o hus5 (Or.inr (by decide))).trans e2
  have e4 : zI s5 this 3 = (-1) := (zput_o hus5 (Or.inr (by decide))).trans e4
  have e6 : zI s5 this 6 = 0 := zput_at hus5
  refine lv_aload_n hx hb dX3_readInto_15 rfl (lv_at hl 1 rfl) ?_
  have hTo := hT
  refine tVv (n := 0) (As := []) (rest := []) hx hb hml hown hg hT hK hX (X0s_clear l κ s5 into  (hT.k t_into (by decide)) ) sub_fCl_fRd (mwV k693 k694 k695 k86 k696) ⟨rfl, by decide, by decide, by decide +kernel⟩ ⟨(Nat.le_of_ble_eq_true rfl), (Nat.le_of_ble_eq_true rfl)⟩ (hT.o5 (hT.k t_into (by decide))) rfl rfl hl.1 rfl (Nat.le_of_ble_eq_true rfl) dX3_readInto_16 zroom.rf (fun s8 H locs hφ hEs8 hT => ?_)
  have e2 : zI s8 this 2 = 0 := ((hTo.k t_this (by decide)).eI hEs8 (by decide) rfl).trans e2
  have e4 : zI s8 this 3 = (-1) := ((hTo.k t_this (by decide)).eI hEs8 (by decide) rfl).trans e4
  have e6 : zI s8 this 6 = 0 := ((hTo.k t_this (by decide)).eI hEs8 (by decide) rfl).trans e6
  obtain ⟨f9, f10⟩ := hφ
  obtain ⟨v11, ev11⟩ : ∃ zz9 : Int32, zI s8 into 3 = zz9 := ⟨_, rfl⟩
  have qv11 : v11.toInt = (zI s8 into 3).toInt := by rw [ev11]
  obtain ⟨v12, ev12⟩ : ∃ zz9 : Int32, zI s8 into 4 = zz9 := ⟨_, rfl⟩
  have qv12 : v12.toInt = (zI s8 into 4).toInt := by rw [ev12]
  obtain ⟨v13, ev13⟩ : ∃ zz9 : Int32, zI s8 into 5 = zz9 := ⟨_, rfl⟩
  have qv13 : v13.toInt = (zI s8 into 5).toInt := by rw [ev13]
  have b14 : isB v13 := by have q9 := (hT.P (hT.k t_into (by decide)) (by decide)).2; rw [ev13] at q9; exact q9
  obtain ⟨v15, ev15⟩ : ∃ zz9 : Int32, zI s8 into 6 = zz9 := ⟨_, rfl⟩
  have qv15 : v15.toInt = (zI s8 into 6).toInt := by rw [ev15]
  have gs16 : v11.toInt = ugs0 0 ∧ v12.toInt = ugs0 1 ∧ v13.toInt = ugs0 2 ∧ v15.toInt = ugs0 3 := by have z9 := f10; unfold GSc at z9; rw [(show zI s8 into 3 = v11 from ev11), (show zI s8 into 4 = v12 from ev12), (show zI s8 into 5 = v13 from ev13), (show zI s8 into 6 = v15 from ev15)] at z9; exact z9
  obtain ⟨v17, ev17⟩ : ∃ zz9 : Int32, zI s8 into 2 = zz9 := ⟨_, rfl⟩
  have qv17 : v17.toInt = (zI s8 into 2).toInt := by rw [ev17]
  have b18 := (hT.P (hT.k t_into (by decide)) (by decide)).1
  rw [ev17] at b18
  have b18l := b18.1
  have b18h := b18.2
  rw [(show zI s8 into 2 = v17 from ev17)] at f9
  refine lv_aload_n hx hb dX3_readInto_19 rfl (lv_at hl 0 rfl) ?_
  have hTo := hT
  refine tVi (n := 0) (As := []) (rest := []) hx hb hml hown hg hT hK hX (X3s_pass l κ s8 this  (hT.k t_this (by decide)) (h0.tr (funext fun k => by rw [erB]; exact hT.eI trB (by decide) rfl rfl) (hT.eI t_this (by decide) rfl rfl)) (show (zI s8 this 6).toInt = ((0 : Nat) : Int) from by rw [(show zI s8 this 6 = 0 from e6)]; exact n0) (by omega)) sub_fP_fRd (mwV k697 k699 k17 k85 k700) ⟨rfl, by decide, by decide, by decide +kernel⟩ ⟨(Nat.le_of_ble_eq_true rfl), (Nat.le_of_ble_eq_true rfl)⟩ (hT.o6 (hT.k t_this (by decide))) rfl rfl hl.1 rfl (Nat.le_of_ble_eq_true rfl) dX3_readInto_20 zroom.rf (fun x19 s20 H locs hφ hEs20 hT => ?_)
  have e2 : zI s20 this 2 = 0 := ((hTo.k t_this (by decide)).eI hEs20 (by decide) rfl).trans e2
  have e4 : zI s20 this 3 = (-1) := ((hTo.k t_this (by decide)).eI hEs20 (by decide) rfl).trans e4
  have ev11 : zI s20 into 3 = v11 := ((hTo.k t_into (by decide)).eI hEs20 (by decide) rfl).trans ev11
  have ev12 : zI s20 into 4 = v12 := ((hTo.k t_into (by decide)).eI hEs20 (by decide) rfl).trans ev12
  have ev13 : zI s20 into 5 = v13 := ((hTo.k t_into (by decide)).eI hEs20 (by decide) rfl).trans ev13
  have ev15 : zI s20 into 6 = v15 := ((hTo.k t_into (by decide)).eI hEs20 (by decide) rfl).trans ev15
  have ev17 : zI s20 into 2 = v17 := ((hTo.k t_into (by decide)).eI hEs20 (by decide) rfl).trans ev17
  obtain ⟨f21, f22, f23⟩ := hφ
  obtain ⟨v24, ev24⟩ : ∃ zz9 : Int32, zI s20 this 4 = zz9 := ⟨_, rfl⟩
  have qv24 : v24.toInt = (zI s20 this 4).toInt := by rw [ev24]
  obtain ⟨v25, ev25⟩ : ∃ zz9 : Int32, zI s20 this 5 = zz9 := ⟨_, rfl⟩
  have qv25 : v25.toInt = (zI s20 this 5).toInt := by rw [ev25]
  have b26 := (hT.P (hT.k t_this (by decide)) (by decide)).2.1
  rw [ev25] at b26
  have b26l := b26.1
  have b26h := b26.2
  obtain ⟨v27, ev27⟩ : ∃ zz9 : Int32, zI s20 this 6 = zz9 := ⟨_, rfl⟩
  have qv27 : v27.toInt = (zI s20 this 6).toInt := by rw [ev27]
  have b28 := (hT.P (hT.k t_this (by decide)) (by decide)).2.2
  rw [ev27] at b28
  have b28l := b28.1
  have b28h := b28.2
  obtain ⟨v29, ev29⟩ : ∃ zz9 : Int32, zI s20 this 7 = zz9 := ⟨_, rfl⟩
  have qv29 : v29.toInt = (zI s20 this 7).toInt := by rw [ev29]
  have tk30 : TKv v24 v25 v27 v29 tc Ln (uscn uisBl tc Ln 0) := by have z9 := f22; unfold TKc at z9; rw [(show zI s20 this 4 = v24 from ev24), (show zI s20 this 5 = v25 from ev25), (show zI s20 this 6 = v27 from ev27), (show zI s20 this 7 = v29 from ev29)] at z9; exact z9
  obtain ⟨tk304, tk305, tk306, tk307, tk308⟩ := id tk30
  refine lv_pop hx hb dX3_readInto_23 rfl ?_
  refine lv_aload_n hx hb dX3_readInto_24 rfl (lv_at hl 0 rfl) ?_
  refine lv_aload_n hx hb dX3_readInto_25 rfl (lv_at hl 1 rfl) ?_
  have cz31 : zI s20 this 2 = 0 := e2
  have cz32 : zI s20 this 3 = (-1) := e4
  have hTo := hT
  refine tVi (n := 1) (As := [.ref into]) (rest := []) hx hb hml hown hg hT hK hX (X3s_readSettings l κ s20 this into  (hT.k t_this (by decide)) (hT.k t_into (by decide)) (h0.tr (funext fun k => by rw [erB]; exact hT.eI trB (by decide) rfl rfl) (hT.eI t_this (by decide) rfl rfl)) (show TKc s20 this tc Ln (uscn uisBl tc Ln 0) from by unfold TKc; rw [(show zI s20 this 4 = v24 from ev24), (show zI s20 this 5 = v25 from ev25), (show zI s20 this 6 = v27 from ev27), (show zI s20 this 7 = v29 from ev29)]; exact tk30) (show GSc s20 into ugs0 from ⟨by rw [(show zI s20 into 3 = v11 from ev11)]; exact gs16.1, by rw [(show zI s20 into 4 = v12 from ev12)]; exact gs16.2.1, by rw [(show zI s20 into 5 = v13 from ev13)]; exact gs16.2.2.1, by rw [(show zI s20 into 6 = v15 from ev15)]; exact gs16.2.2.2⟩)) sub_fPs_fRd (mwV k715 k717 k20 k85 k718) ⟨rfl, by decide, by decide, by decide +kernel⟩ ⟨(Nat.le_of_ble_eq_true rfl), (Nat.le_of_ble_eq_true rfl)⟩ (hT.o6 (hT.k t_this (by decide))) rfl rfl hl.1 rfl (Nat.le_of_ble_eq_true rfl) dX3_readInto_26 zroom.rf (fun x33 s34 H locs hφ hEs34 hT => ?_)
  have ev17 : zI s34 into 2 = v17 := ((hTo.k t_into (by decide)).eI hEs34 (by decide) rfl).trans ev17
  obtain ⟨f35, f36⟩ := hφ
  obtain ⟨x9, hx9, f35⟩ := f35
  rcases f35 with ⟨a1, s9, g9, ex9, a2, a3, a4, a5⟩ | ⟨a1, co, po, a2, a3, a4, a5⟩
  · skip
    obtain ⟨v37, ev37⟩ : ∃ zz9 : Int32, zI s34 this 2 = zz9 := ⟨_, rfl⟩
    have qv37 : v37.toInt = (zI s34 this 2).toInt := by rw [ev37]
    have E38 : v37.toInt = (0 : Int32).toInt := by rw [show v37 = (0 : Int32) from ev37.symm.trans (a4.trans cz31)]
    obtain ⟨v39, ev39⟩ : ∃ zz9 : Int32, zI s34 this 3 = zz9 := ⟨_, rfl⟩
    have qv39 : v39.toInt = (zI s34 this 3).toInt := by rw [ev39]
    have E40 : v39.toInt = ((-1) : Int32).toInt := by rw [show v39 = ((-1) : Int32) from ev39.symm.trans (a5.trans cz32)]
    subst ex9
    obtain ⟨v41, ev41⟩ : ∃ zz9 : Int32, zI s34 into 3 = zz9 := ⟨_, rfl⟩
    have qv41 : v41.toInt = (zI s34 into 3).toInt := by rw [ev41]
    obtain ⟨v42, ev42⟩ : ∃ zz9 : Int32, zI s34 into 4 = zz9 := ⟨_, rfl⟩
    have qv42 : v42.toInt = (zI s34 into 4).toInt := by rw [ev42]
    obtain ⟨v43, ev43⟩ : ∃ zz9 : Int32, zI s34 into 5 = zz9 := ⟨_, rfl⟩
    have qv43 : v43.toInt = (zI s34 into 5).toInt := by rw [ev43]
    have b44 : isB v43 := by have q9 := (hT.P (hT.k t_into (by decide)) (by decide)).2; rw [ev43] at q9; exact q9
    obtain ⟨v45, ev45⟩ : ∃ zz9 : Int32, zI s34 into 6 = zz9 := ⟨_, rfl⟩
    have qv45 : v45.toInt = (zI s34 into 6).toInt := by rw [ev45]
    have gs46 : v41.toInt = g9 0 ∧ v42.toInt = g9 1 ∧ v43.toInt = g9 2 ∧ v45.toInt = g9 3 := by have z9 := a3; unfold GSc at z9; rw [(show zI s34 into 3 = v41 from ev41), (show zI s34 into 4 = v42 from ev42), (show zI s34 into 5 = v43 from ev43), (show zI s34 into 6 = v45 from ev45)] at z9; exact z9
    obtain ⟨v47, ev47⟩ : ∃ zz9 : Int32, zI s34 this 4 = zz9 := ⟨_, rfl⟩
    have qv47 : v47.toInt = (zI s34 this 4).toInt := by rw [ev47]
    obtain ⟨v48, ev48⟩ : ∃ zz9 : Int32, zI s34 this 5 = zz9 := ⟨_, rfl⟩
    have qv48 : v48.toInt = (zI s34 this 5).toInt := by rw [ev48]
    have b49 := (hT.P (hT.k t_this (by decide)) (by decide)).2.1
    rw [ev48] at b49
    have b49l := b49.1
    have b49h := b49.2
    obtain ⟨v50, ev50⟩ : ∃ zz9 : Int32, zI s34 this 6 = zz9 := ⟨_, rfl⟩
    have qv50 : v50.toInt = (zI s34 this 6).toInt := by rw [ev50]
    have b51 := (hT.P (hT.k t_this (by decide)) (by decide)).2.2
    rw [ev50] at b51
    have b51l := b51.1
    have b51h := b51.2
    obtain ⟨v52, ev52⟩ : ∃ zz9 : Int32, zI s34 this 7 = zz9 := ⟨_, rfl⟩
    have qv52 : v52.toInt = (zI s34 this 7).toInt := by rw [ev52]
    have tk53 : TKv v47 v48 v50 v52 tc Ln s9 := by have z9 := a2; unfold TKc at z9; rw [(show zI s34 this 4 = v47 from ev47), (show zI s34 this 5 = v48 from ev48), (show zI s34 this 6 = v50 from ev50), (show zI s34 this 7 = v52 from ev52)] at z9; exact z9
    obtain ⟨tk534, tk535, tk536, tk537, tk538⟩ := id tk53
    refine lv_if_eq (tgt := 44) hx hb dX3_readInto_29 (by decide) (fun c9 => absurd (gi_eq c9) (by omega)) (fun _ => ?_)
    refine lv_aload_n hx hb dX3_readInto_32 rfl (lv_at hl 0 rfl) ?_
    refine lv_aload_n hx hb dX3_readInto_33 rfl (lv_at hl 1 rfl) ?_
    have cz54 : zI s34 this 2 = v37 := ev37
    have cz55 : zI s34 this 3 = v39 := ev39
    have cz56 : zI s34 into 3 = v41 := ev41
    have cz57 : zI s34 into 4 = v42 := ev42
    have cz58 : zI s34 into 5 = v43 := ev43
    have cz59 : zI s34 into 6 = v45 := ev45
    have hTo := hT
    refine tVi (n := 1) (As := [.ref into]) (rest := []) hx hb hml hown hg hT hK hX (X3s_readSamples l κ s34 this into (gg := g9) (hT.k t_this (by decide)) (hT.k t_into (by decide)) (h0.tr (funext fun k => by rw [erB]; exact hT.eI trB (by decide) rfl rfl) (hT.eI t_this (by decide) rfl rfl)) (show TKc s34 this tc Ln s9 from by unfold TKc; rw [(show zI s34 this 4 = v47 from ev47), (show zI s34 this 5 = v48 from ev48), (show zI s34 this 6 = v50 from ev50), (show zI s34 this 7 = v52 from ev52)]; exact tk53) (show (zI s34 into 2).toInt = 0 from by rw [(show zI s34 into 2 = v17 from ev17)]; omega)) sub_fRs_fRd (mwV k803 k805 k27 k85 k806) ⟨rfl, by decide, by decide, by decide +kernel⟩ ⟨(Nat.le_of_ble_eq_true rfl), (Nat.le_of_ble_eq_true rfl)⟩ (hT.o6 (hT.k t_this (by decide))) rfl rfl hl.1 rfl (Nat.le_of_ble_eq_true rfl) dX3_readInto_34 zroom.rf (fun x60 s61 H locs hφ hEs61 hT => ?_)
    have ev41 : zI s61 into 3 = v41 := ((hTo.k t_into (by decide)).eI hEs61 (by decide) rfl).trans ev41
    have ev42 : zI s61 into 4 = v42 := ((hTo.k t_into (by decide)).eI hEs61 (by decide) rfl).trans ev42
    have ev43 : zI s61 into 5 = v43 := ((hTo.k t_into (by decide)).eI hEs61 (by decide) rfl).trans ev43
    have ev45 : zI s61 into 6 = v45 := ((hTo.k t_into (by decide)).eI hEs61 (by decide) rfl).trans ev45
    obtain ⟨f62, f63⟩ := hφ
    obtain ⟨y9, hy9, f62⟩ := f62
    rcases f62 with ⟨b1, t9, n9, v9, h9, ey9, b3, b4, b5, b6, b7, b8, b9, b10, b11, b12, b13, b14⟩ | ⟨b1, co, po, b2, b3, b4, b5⟩
    · skip
      obtain ⟨v64, ev64⟩ : ∃ zz9 : Int32, zI s61 this 2 = zz9 := ⟨_, rfl⟩
      have qv64 : v64.toInt = (zI s61 this 2).toInt := by rw [ev64]
      have E65 : v64.toInt = v37.toInt := by rw [show v64 = v37 from ev64.symm.trans (b5.trans cz54)]
      obtain ⟨v66, ev66⟩ : ∃ zz9 : Int32, zI s61 this 3 = zz9 := ⟨_, rfl⟩
      have qv66 : v66.toInt = (zI s61 this 3).toInt := by rw [ev66]
      have E67 : v66.toInt = v39.toInt := by rw [show v66 = v39 from ev66.symm.trans (b6.trans cz55)]
      have gs68 : GSc s61 into g9 := ⟨by rw [b7, cz56]; exact gs46.1, by rw [b8, cz57]; exact gs46.2.1, by rw [b9, cz58]; exact gs46.2.2.1, by rw [b10, cz59]; exact gs46.2.2.2⟩
      subst ey9
      refine lv_if_eq (tgt := 44) hx hb dX3_readInto_37 (by decide) (fun c9 => absurd (gi_eq c9) (by omega)) (fun _ => ?_)
      refine lv_iconst (v := 1) hx hb dX3_readInto_40 (by decide) ?_
      refine lv_goto (tgt := 45) hx hb dX3_readInto_41 (by decide) ?_
      subst hQ9
      exact t_z hx hb hr isB1 hlocks hT ⟨⟨(true, t9, n9, v9, h9), 0, (n9 : Nat), ⟨urt_tr hx9 hy9, Or.inr (Or.inr ⟨rfl, b3, rfl, rfl⟩)⟩, Or.inl ⟨by omega, rfl, b4, by have z9 := b3.2; omega, by rw [(show zI s61 this 2 = v64 from ev64)]; omega, by rw [(show zI s61 this 3 = v66 from ev66)]; omega, gs68.lo b14, b11, b12, b13⟩⟩, isB1⟩ dX3_readInto_45
    · skip
      refine lv_if_eq (tgt := 44) hx hb dX3_readInto_37 (by decide) (fun _ => ?_) (fun c9 => absurd (gi_ne c9) (by omega))
      refine lv_iconst (v := 0) hx hb dX3_readInto_44 (by decide) ?_
      subst hQ9
      exact t_z hx hb hr isB0 hlocks hT ⟨⟨y9, co, po, ⟨urt_tr hx9 hy9, b2⟩, Or.inr ⟨by omega, b3, b4, b5⟩⟩, isB0⟩ dX3_readInto_45
  · skip
    refine lv_if_eq (tgt := 44) hx hb dX3_readInto_29 (by decide) (fun _ => ?_) (fun c9 => absurd (gi_ne c9) (by omega))
    refine lv_iconst (v := 0) hx hb dX3_readInto_44 (by decide) ?_
    subst hQ9
    exact t_z hx hb hr isB0 hlocks hT ⟨⟨x9, co, po, ⟨hx9, a2⟩, Or.inr ⟨by omega, a3, a4, a5⟩⟩, isB0⟩ dX3_readInto_45

/-! What LiftingSignal reads: letters, digits, the next token -/
theorem sub_fE_fE6 : ∀ t k, fE6 t k = false → fE t k = false := by
  intro t k h
  simp [fE, fE6] at h ⊢ <;> omega
theorem sub_fE_fE67 : ∀ t k, fE67 t k = false → fE t k = false := by
  intro t k h
  simp [fE, fE67] at h ⊢ <;> omega
theorem sub_fE6_fP : ∀ t k, fP t k = false → fE6 t k = false := by
  intro t k h
  simp [fE6, fP] at h ⊢ <;> omega
theorem sub_fE67_fP : ∀ t k, fP t k = false → fE67 t k = false := by
  intro t k h
  simp [fE67, fP] at h ⊢ <;> omega
set_option maxHeartbeats 4000000 in
set_option maxRecDepth 100000 in
theorem X3s_isLetter (l : Launch) (κ : Kt) (σ0 : Gh) (ch : Int32) : TC l yX3_isLetter cX3_isLetter 1 (some .boolean) 0 0 [.int ch] κ σ0 (tqi κ fE σ0 (fun (r : Int32) (τ : Gh) => ((r.toInt = 1 ∧ 97 ≤ ch.toInt ∧ ch.toInt ≤ 122) ∨ (r.toInt = 0 ∧ ¬ (97 ≤ ch.toInt ∧ ch.toInt ≤ 122))) ∧ (isB r))) := by
  refine TC.of fE (by decide +kernel) (Nat.le_of_ble_eq_true rfl) ?_
  intro p e s m below meth c ls hcs hK hX hT hl
  obtain ⟨hx, hb, hr, hml, hown, hg, hlocks, hin⟩ := hcs
  have hown : s.vm.findClass RX3 = some m.cls := hown
  have hl : lv_has ls 1 [(0, .int ch)] := hl
  have hT0 := hT
  have n0 : (0 : Int32).toInt = 0 := by decide
  have n1 : (1 : Int32).toInt = 1 := by decide
  have n97 : (97 : Int32).toInt = 97 := by decide
  have n122 : (122 : Int32).toInt = 122 := by decide
  have ch_lo := Int32.le_toInt ch
  have ch_hi := Int32.toInt_lt ch
  generalize hQ9 : tQ _ _ _ _ _ _ = Q9
  refine lv_iload_n hx hb dX3_isLetter_0 rfl (lv_at hl 0 rfl) ?_
  refine lv_bipush (v := 97) hx hb dX3_isLetter_1 (by decide) ?_
  refine lv_icmp_lt (tgt := 16) hx hb dX3_isLetter_3 (by decide) (fun c9 => ?_) (fun c9 => ?_)
  · have c1 := gi_lt c9
    refine lv_iconst (v := 0) hx hb dX3_isLetter_16 (by decide) ?_
    subst hQ9
    exact t_z hx hb hr isB0 hlocks hT ⟨by omega, isB0⟩ dX3_isLetter_17
  · have c2 := gi_nlt c9
    refine lv_iload_n hx hb dX3_isLetter_6 rfl (lv_at hl 0 rfl) ?_
    refine lv_bipush (v := 122) hx hb dX3_isLetter_7 (by decide) ?_
    refine lv_icmp_gt (tgt := 16) hx hb dX3_isLetter_9 (by decide) (fun c9 => ?_) (fun c9 => ?_)
    · have c3 := gi_lt c9
      refine lv_iconst (v := 0) hx hb dX3_isLetter_16 (by decide) ?_
      subst hQ9
      exact t_z hx hb hr isB0 hlocks hT ⟨by omega, isB0⟩ dX3_isLetter_17
    · have c4 := gi_nlt c9
      refine lv_iconst (v := 1) hx hb dX3_isLetter_12 (by decide) ?_
      refine lv_goto (tgt := 17) hx hb dX3_isLetter_13 (by decide) ?_
      subst hQ9
      exact t_z hx hb hr isB1 hlocks hT ⟨by omega, isB1⟩ dX3_isLetter_17
set_option maxHeartbeats 4000000 in
set_option maxRecDepth 100000 in
theorem X3s_isDigit (l : Launch) (κ : Kt) (σ0 : Gh) (ch : Int32) : TC l yX3_isDigit cX3_isDigit 1 (some .boolean) 0 0 [.int ch] κ σ0 (tqi κ fE σ0 (fun (r : Int32) (τ : Gh) => ((r.toInt = 1 ∧ 48 ≤ ch.toInt ∧ ch.toInt ≤ 57) ∨ (r.toInt = 0 ∧ ¬ (48 ≤ ch.toInt ∧ ch.toInt ≤ 57))) ∧ (isB r))) := by
  refine TC.of fE (by decide +kernel) (Nat.le_of_ble_eq_true rfl) ?_
  intro p e s m below meth c ls hcs hK hX hT hl
  obtain ⟨hx, hb, hr, hml, hown, hg, hlocks, hin⟩ := hcs
  have hown : s.vm.findClass RX3 = some m.cls := hown
  have hl : lv_has ls 1 [(0, .int ch)] := hl
  have hT0 := hT
  have n0 : (0 : Int32).toInt = 0 := by decide
  have n1 : (1 : Int32).toInt = 1 := by decide
  have n48 : (48 : Int32).toInt = 48 := by decide
  have n57 : (57 : Int32).toInt = 57 := by decide
  have ch_lo := Int32.le_toInt ch
  have ch_hi := Int32.toInt_lt ch
  generalize hQ9 : tQ _ _ _ _ _ _ = Q9
  refine lv_iload_n hx hb dX3_isDigit_0 rfl (lv_at hl 0 rfl) ?_
  refine lv_bipush (v := 48) hx hb dX3_isDigit_1 (by decide) ?_
  refine lv_icmp_lt (tgt := 16) hx hb dX3_isDigit_3 (by decide) (fun c9 => ?_) (fun c9 => ?_)
  · have c1 := gi_lt c9
    refine lv_iconst (v := 0) hx hb dX3_isDigit_16 (by decide) ?_
    subst hQ9
    exact t_z hx hb hr isB0 hlocks hT ⟨by omega, isB0⟩ dX3_isDigit_17
  · have c2 := gi_nlt c9
    refine lv_iload_n hx hb dX3_isDigit_6 rfl (lv_at hl 0 rfl) ?_
    refine lv_bipush (v := 57) hx hb dX3_isDigit_7 (by decide) ?_
    refine lv_icmp_gt (tgt := 16) hx hb dX3_isDigit_9 (by decide) (fun c9 => ?_) (fun c9 => ?_)
    · have c3 := gi_lt c9
      refine lv_iconst (v := 0) hx hb dX3_isDigit_16 (by decide) ?_
      subst hQ9
      exact t_z hx hb hr isB0 hlocks hT ⟨by omega, isB0⟩ dX3_isDigit_17
    · have c4 := gi_nlt c9
      refine lv_iconst (v := 1) hx hb dX3_isDigit_12 (by decide) ?_
      refine lv_goto (tgt := 17) hx hb dX3_isDigit_13 (by decide) ?_
      subst hQ9
      exact t_z hx hb hr isB1 hlocks hT ⟨by omega, isB1⟩ dX3_isDigit_17
set_option maxHeartbeats 4000000 in
set_option maxRecDepth 100000 in
theorem X3s_passLetters (l : Launch) (κ : Kt) (σ0 : Gh) (this : Nat) {tc : Nat → Int} {Ln : Nat} {aa : Nat} (t_this : zk σ0 this 6) (h0 : TXc κ σ0 this tc Ln) (h1 : (zI σ0 this 6).toInt = (aa : Nat)) (h2 : aa ≤ Ln) : TC l yX3_passLetters cX3_passLetters 1 none 1 20 [.ref this] κ σ0 (tqv κ fE6 σ0 (fun (τ : Gh) => ((zI τ this 6).toInt = (uscn uisLe tc Ln aa : Nat)))) := by
  refine TC.of fE6 (by decide +kernel) (Nat.le_of_ble_eq_true rfl) ?_
  intro p e s m below meth c ls hcs hK hX hT hl
  obtain ⟨hx, hb, hr, hml, hown, hg, hlocks, hin⟩ := hcs
  have hown : s.vm.findClass RX3 = some m.cls := hown
  have hl : lv_has ls 1 [(0, .ref this)] := hl
  have hT0 := hT
  have n0 : (0 : Int32).toInt = 0 := by decide
  have n1 : (1 : Int32).toInt = 1 := by decide
  generalize hQ9 : tQ _ _ _ _ _ _ = Q9
  obtain ⟨rB, erB⟩ : ∃ z, kR κ this 0 = z := ⟨_, rfl⟩
  have trB : zk σ0 rB 14 := by rw [← erB]; exact hT0.ref t_this (by decide) (by decide) (by decide)
  have hpc : ∀ j, tc j = (zI σ0 rB j).toInt := by rw [← erB]; exact h0.1
  have hLn : (zI σ0 this 1).toInt = Ln := h0.2
  have bL := (hT0.P t_this (by decide)).1.2
  have hL7 : (Ln : Int) ≤ 700 := by omega
  have loop0 : ∀ (n9 : Nat)  (u : Int32) (H : Heap) (locs : List Loc) (sg : Gh) (ls : Array Slot), TS κ fE6 σ0 sg s H locs → (zI sg this 6 = u) → (u.toInt ≤ 700) → (u.toInt ≤ Ln) → (uscn uisLe tc Ln (ix u) = uscn uisLe tc Ln aa) → lv_has ls 1 [(0, .ref this)] → (700 - u.toInt) < n9 → tW p l e 1 20 κ s m #[.ref this] below meth c H locs Q9 (F0 m 0 ls []) := by
    intro n9
    induction n9 with
    | zero =>
      intro u H locs sg ls hT kthis_6 q1 q2 q3 hl hm9
      exfalso
      omega
    | succ n9 ih9 =>
      have ih0 := ih9
      clear ih9
      intro u H locs s1 ls hT kthis_6 q1 q2 q3 hl hm9
      have b2 := (hT.P (hT.k t_this (by decide)) (by decide)).2.2
      rw [kthis_6] at b2
      have b2l := b2.1
      have b2h := b2.2
      have i_u : (ix u : Int) = u.toInt := by unfold ix; omega
      refine lv_aload_n hx hb dX3_passLetters_0 rfl (lv_at hl 0 rfl) ?_
      refine va_get (D := κ.1) (ci := 3) (v := .int (zI s1 this 6)) (C := RX3) (T := TX3) (N := 8) hx hb hg inX3 hown hK (hT.o6 (hT.k t_this (by decide))).one 0 rfl rfl 6 (by decide) (hg _ k128) (fun _ h9 => h9) rfl dX3_passLetters_1 ?_
      rw [kthis_6]
      refine lv_aload_n hx hb dX3_passLetters_4 rfl (lv_at hl 0 rfl) ?_
      obtain ⟨v3, ev3⟩ : ∃ zz9 : Int32, zI σ0 this 1 = zz9 := ⟨_, rfl⟩
      have qv3 : v3.toInt = (zI σ0 this 1).toInt := by rw [ev3]
      have b4 := (hT.P (hT.k t_this (by decide)) (by decide)).1
      rw [(hT.eI t_this (by decide) rfl ev3)] at b4
      have b4l := b4.1
      have b4h := b4.2
      refine va_get (D := κ.1) (ci := 3) (v := .int (zI s1 this 1)) (C := RX3) (T := TX3) (N := 8) hx hb hg inX3 hown hK (hT.o6 (hT.k t_this (by decide))).one 0 rfl rfl 1 (by decide) (hg _ k120) (fun _ h9 => h9) rfl dX3_passLetters_5 ?_
      rw [(hT.eI t_this (by decide) rfl ev3)]
      refine lv_icmp_ge (tgt := 39) hx hb dX3_passLetters_8 (by decide) (fun c9 => ?_) (fun c9 => ?_)
      · have c1 := gi_le c9
        have hs9 : uscn uisLe tc Ln (ix u) = ix u := uscn_no (fun q9 => by have q8 := uisLe_t.mp q9.2; have q7 := q9.1; omega)
        subst hQ9
        exact t_v hx hb hr hlocks hT (by rw [(show zI s1 this 6 = u from kthis_6)]; omega) dX3_passLetters_39
      · have c2 := gi_nle c9
        refine lv_aload_n hx hb dX3_passLetters_11 rfl (lv_at hl 0 rfl) ?_
        refine va_get (D := κ.1) (ci := 3) (v := .ref (kR κ this 0)) (C := RX3) (T := TX3) (N := 8) hx hb hg inX3 hown hK (hT.o6 (hT.k t_this (by decide))).one 0 rfl rfl 0 (by decide) (hg _ k119) (fun _ h9 => h9) rfl dX3_passLetters_12 ?_
        rw [erB]
        refine lv_aload_n hx hb dX3_passLetters_15 rfl (lv_at hl 0 rfl) ?_
        refine va_get (D := κ.1) (ci := 3) (v := .int (zI s1 this 6)) (C := RX3) (T := TX3) (N := 8) hx hb hg inX3 hown hK (hT.o6 (hT.k t_this (by decide))).one 0 rfl rfl 6 (by decide) (hg _ k128) (fun _ h9 => h9) rfl dX3_passLetters_16 ?_
        rw [kthis_6]
        refine va_bald hx hb hK (hT.o14 (hT.k trB (by decide))).one 0 2 rfl rfl (g_in (by omega) (by omega)) dX3_passLetters_19 ?_
        refine lv_topi (fun t5 ht5 => ?_)
        have it5 : (ix u : Int) = u.toInt := by unfold ix; omega
        have xt5 : tc (ix u) = t5.toInt := by rw [hpc, ht5, show (ix u) = ix u from by first | rfl | (unfold ix; omega)]; exact congrArg Int32.toInt (hT.eI trB (by decide) rfl rfl).symm
        have hTo := hT
        refine tSi (n := 1) (As := [.int t5]) (rest := []) hx hb hml hown hg hT hK hX (X3s_isLetter l κ s1 t5   ) sub_fE_fE6 (mwS k701 k702 k85 k703) ⟨rfl, by decide, by decide, by decide +kernel⟩ ⟨(Nat.le_of_ble_eq_true rfl), (Nat.le_of_ble_eq_true rfl)⟩ rfl hl.1 rfl (Nat.le_of_ble_eq_true rfl) dX3_passLetters_20 zroom.rf (fun x6 s7 H locs hφ hEs7 hT => ?_)
        have kthis_6 : zI s7 this 6 = u := ((hTo.k t_this (by decide)).eI hEs7 (by decide) rfl).trans kthis_6
        obtain ⟨f8, f9⟩ := hφ
        refine lv_if_eq (tgt := 39) hx hb dX3_passLetters_23 (by decide) (fun c9 => ?_) (fun c9 => ?_)
        · have c3 := gi_eq c9
          have hs9 : uscn uisLe tc Ln (ix u) = ix u := uscn_no (fun q9 => by have q8 := uisLe_t.mp q9.2; have q7 := q9.1; omega)
          subst hQ9
          exact t_v hx hb hr hlocks hT (by rw [(show zI s7 this 6 = u from kthis_6)]; omega) dX3_passLetters_39
        · have c4 := gi_ne c9
          refine lv_aload_n hx hb dX3_passLetters_26 rfl (lv_at hl 0 rfl) ?_
          refine lv_dup hx hb dX3_passLetters_27 rfl ?_
          refine va_get (D := κ.1) (ci := 3) (v := .int (zI s7 this 6)) (C := RX3) (T := TX3) (N := 8) hx hb hg inX3 hown hK (hT.o6 (hT.k t_this (by decide))).one 0 rfl rfl 6 (by decide) (hg _ k128) (fun _ h9 => h9) rfl dX3_passLetters_28 ?_
          rw [kthis_6]
          refine lv_iconst (v := 1) hx hb dX3_passLetters_31 (by decide) ?_
          refine lv_iadd hx hb dX3_passLetters_32 ?_
          first | refine g_add (by omega) (by omega) (fun t10 ht10 => ?_) | refine lv_topi (fun t10 ht10 => ?_)
          have hTo := hT
          refine pf6_6 hx hb hg hown hK hT (hT.k t_this (by decide)) rfl ⟨by omega, by omega⟩ (hg _ k128) dX3_passLetters_33 (fun H locs s11 hus11 hT => ?_)
          have e12 : zI s11 this 6 = t10 := zput_at hus11
          refine lv_goto (tgt := 0) hx hb dX3_passLetters_36 (by decide) ?_
          exact ih0 t10 _ _ _ _ hT e12 (by omega) (by omega) (by rw [show ix t10 = ix u + 1 from by unfold ix; omega, ← uscn_go (p := uisLe) (c := tc) (L := Ln) (a := ix u) (by omega) (uisLe_t.mpr (by omega))]; exact q3) hl (by omega)
  obtain ⟨v13, ev13⟩ : ∃ zz9 : Int32, zI σ0 this 6 = zz9 := ⟨_, rfl⟩
  have qv13 : v13.toInt = (zI σ0 this 6).toInt := by rw [ev13]
  have b14 := (hT.P (hT.k t_this (by decide)) (by decide)).2.2
  rw [ev13] at b14
  have b14l := b14.1
  have b14h := b14.2
  exact loop0 ((700 - v13.toInt).toNat + 1) v13 _ _ _ _ hT ev13 (by omega) (by omega) (by rw [show ix v13 = aa from by unfold ix; omega]) hl (by omega)
set_option maxHeartbeats 4000000 in
set_option maxRecDepth 100000 in
theorem X3s_passDigits (l : Launch) (κ : Kt) (σ0 : Gh) (this : Nat) {tc : Nat → Int} {Ln : Nat} {aa : Nat} (t_this : zk σ0 this 6) (h0 : TXc κ σ0 this tc Ln) (h1 : (zI σ0 this 6).toInt = (aa : Nat)) (h2 : aa ≤ Ln) : TC l yX3_passDigits cX3_passDigits 1 none 1 20 [.ref this] κ σ0 (tqv κ fE67 σ0 (fun (τ : Gh) => ((zI τ this 6).toInt = (uscn uisDi tc Ln aa : Nat)) ∧ (uscn uisDi tc Ln aa ≤ aa + 4 → (zI τ this 7).toInt = unum tc aa (uscn uisDi tc Ln aa - aa)))) := by
  refine TC.of fE67 (by decide +kernel) (Nat.le_of_ble_eq_true rfl) ?_
  intro p e s m below meth c ls hcs hK hX hT hl
  obtain ⟨hx, hb, hr, hml, hown, hg, hlocks, hin⟩ := hcs
  have hown : s.vm.findClass RX3 = some m.cls := hown
  have hl : lv_has ls 1 [(0, .ref this)] := hl
  have hT0 := hT
  have n0 : (0 : Int32).toInt = 0 := by decide
  have n1 : (1 : Int32).toInt = 1 := by decide
  have n10 : (10 : Int32).toInt = 10 := by decide
  have n48 : (48 : Int32).toInt = 48 := by decide
  generalize hQ9 : tQ _ _ _ _ _ _ = Q9
  obtain ⟨rB, erB⟩ : ∃ z, kR κ this 0 = z := ⟨_, rfl⟩
  have trB : zk σ0 rB 14 := by rw [← erB]; exact hT0.ref t_this (by decide) (by decide) (by decide)
  have hpc : ∀ j, tc j = (zI σ0 rB j).toInt := by rw [← erB]; exact h0.1
  have hLn : (zI σ0 this 1).toInt = Ln := h0.2
  have bL := (hT0.P t_this (by decide)).1.2
  have hL7 : (Ln : Int) ≤ 700 := by omega
  obtain ⟨v1, ev1⟩ : ∃ zz9 : Int32, zI σ0 this 6 = zz9 := ⟨_, rfl⟩
  have qv1 : v1.toInt = (zI σ0 this 6).toInt := by rw [ev1]
  have b2 := (hT.P (hT.k t_this (by decide)) (by decide)).2.2
  rw [ev1] at b2
  have b2l := b2.1
  have b2h := b2.2
  refine lv_aload_n hx hb dX3_passDigits_0 rfl (lv_at hl 0 rfl) ?_
  refine lv_iconst (v := 0) hx hb dX3_passDigits_1 (by decide) ?_
  have hTo := hT
  refine pf6_7 hx hb hg hown hK hT (hT.k t_this (by decide)) rfl (hg _ k129) dX3_passDigits_2 (fun H locs s3 hus3 hT => ?_)
  have ev1 : zI s3 this 6 = v1 := (zput_o hus3 (Or.inr (by decide))).trans ev1
  have e4 : zI s3 this 7 = 0 := zput_at hus3
  have loop5 : ∀ (n9 : Nat)  (u : Int32) (nn : Int32) (H : Heap) (locs : List Loc) (sg : Gh) (ls : Array Slot), TS κ fE67 σ0 sg s H locs → (zI sg this 6 = u) → (zI sg this 7 = nn) → (u.toInt ≤ 700) → (u.toInt ≤ Ln) → (aa ≤ ix u) → (uscn uisDi tc Ln (ix u) = uscn uisDi tc Ln aa) → (ix u ≤ aa + 4 → nn.toInt = unum tc aa (ix u - aa)) → lv_has ls 1 [(0, .ref this)] → (700 - u.toInt) < n9 → tW p l e 1 20 κ s m #[.ref this] below meth c H locs Q9 (F0 m 5 ls []) := by
    intro n9
    induction n9 with
    | zero =>
      intro u nn H locs sg ls hT kthis_6 kthis_7 q1 q2 q0 q3 q4 hl hm9
      exfalso
      omega
    | succ n9 ih9 =>
      have ih5 := ih9
      clear ih9
      intro u nn H locs s5 ls hT kthis_6 kthis_7 q1 q2 q0 q3 q4 hl hm9
      have b6 := (hT.P (hT.k t_this (by decide)) (by decide)).2.2
      rw [kthis_6] at b6
      have b6l := b6.1
      have b6h := b6.2
      have i_u : (ix u : Int) = u.toInt := by unfold ix; omega
      refine lv_aload_n hx hb dX3_passDigits_5 rfl (lv_at hl 0 rfl) ?_
      refine va_get (D := κ.1) (ci := 3) (v := .int (zI s5 this 6)) (C := RX3) (T := TX3) (N := 8) hx hb hg inX3 hown hK (hT.o6 (hT.k t_this (by decide))).one 0 rfl rfl 6 (by decide) (hg _ k128) (fun _ h9 => h9) rfl dX3_passDigits_6 ?_
      rw [kthis_6]
      refine lv_aload_n hx hb dX3_passDigits_9 rfl (lv_at hl 0 rfl) ?_
      obtain ⟨v7, ev7⟩ : ∃ zz9 : Int32, zI σ0 this 1 = zz9 := ⟨_, rfl⟩
      have qv7 : v7.toInt = (zI σ0 this 1).toInt := by rw [ev7]
      have b8 := (hT.P (hT.k t_this (by decide)) (by decide)).1
      rw [(hT.eI t_this (by decide) rfl ev7)] at b8
      have b8l := b8.1
      have b8h := b8.2
      refine va_get (D := κ.1) (ci := 3) (v := .int (zI s5 this 1)) (C := RX3) (T := TX3) (N := 8) hx hb hg inX3 hown hK (hT.o6 (hT.k t_this (by decide))).one 0 rfl rfl 1 (by decide) (hg _ k120) (fun _ h9 => h9) rfl dX3_passDigits_10 ?_
      rw [(hT.eI t_this (by decide) rfl ev7)]
      refine lv_icmp_ge (tgt := 68) hx hb dX3_passDigits_13 (by decide) (fun c9 => ?_) (fun c9 => ?_)
      · have c1 := gi_le c9
        have hs9 : uscn uisDi tc Ln (ix u) = ix u := uscn_no (fun q9 => by have q8 := uisDi_t.mp q9.2; have q7 := q9.1; omega)
        subst hQ9
        exact t_v hx hb hr hlocks hT ⟨by rw [(show zI s5 this 6 = u from kthis_6)]; omega, fun q9 => by rw [(show zI s5 this 7 = nn from kthis_7)]; rw [← q3, hs9] at q9 ⊢; exact q4 q9⟩ dX3_passDigits_68
      · have c2 := gi_nle c9
        refine lv_aload_n hx hb dX3_passDigits_16 rfl (lv_at hl 0 rfl) ?_
        refine va_get (D := κ.1) (ci := 3) (v := .ref (kR κ this 0)) (C := RX3) (T := TX3) (N := 8) hx hb hg inX3 hown hK (hT.o6 (hT.k t_this (by decide))).one 0 rfl rfl 0 (by decide) (hg _ k119) (fun _ h9 => h9) rfl dX3_passDigits_17 ?_
        rw [erB]
        refine lv_aload_n hx hb dX3_passDigits_20 rfl (lv_at hl 0 rfl) ?_
        refine va_get (D := κ.1) (ci := 3) (v := .int (zI s5 this 6)) (C := RX3) (T := TX3) (N := 8) hx hb hg inX3 hown hK (hT.o6 (hT.k t_this (by decide))).one 0 rfl rfl 6 (by decide) (hg _ k128) (fun _ h9 => h9) rfl dX3_passDigits_21 ?_
        rw [kthis_6]
        refine va_bald hx hb hK (hT.o14 (hT.k trB (by decide))).one 0 2 rfl rfl (g_in (by omega) (by omega)) dX3_passDigits_24 ?_
        refine lv_topi (fun t9 ht9 => ?_)
        have it9 : (ix u : Int) = u.toInt := by unfold ix; omega
        have xt9 : tc (ix u) = t9.toInt := by rw [hpc, ht9, show (ix u) = ix u from by first | rfl | (unfold ix; omega)]; exact congrArg Int32.toInt (hT.eI trB (by decide) rfl rfl).symm
        have hTo := hT
        refine tSi (n := 1) (As := [.int t9]) (rest := []) hx hb hml hown hg hT hK hX (X3s_isDigit l κ s5 t9   ) sub_fE_fE67 (mwS k708 k709 k85 k710) ⟨rfl, by decide, by decide, by decide +kernel⟩ ⟨(Nat.le_of_ble_eq_true rfl), (Nat.le_of_ble_eq_true rfl)⟩ rfl hl.1 rfl (Nat.le_of_ble_eq_true rfl) dX3_passDigits_25 zroom.rf (fun x10 s11 H locs hφ hEs11 hT => ?_)
        have kthis_6 : zI s11 this 6 = u := ((hTo.k t_this (by decide)).eI hEs11 (by decide) rfl).trans kthis_6
        have kthis_7 : zI s11 this 7 = nn := ((hTo.k t_this (by decide)).eI hEs11 (by decide) rfl).trans kthis_7
        obtain ⟨f12, f13⟩ := hφ
        refine lv_if_eq (tgt := 68) hx hb dX3_passDigits_28 (by decide) (fun c9 => ?_) (fun c9 => ?_)
        · have c3 := gi_eq c9
          have hs9 : uscn uisDi tc Ln (ix u) = ix u := uscn_no (fun q9 => by have q8 := uisDi_t.mp q9.2; have q7 := q9.1; omega)
          subst hQ9
          exact t_v hx hb hr hlocks hT ⟨by rw [(show zI s11 this 6 = u from kthis_6)]; omega, fun q9 => by rw [(show zI s11 this 7 = nn from kthis_7)]; rw [← q3, hs9] at q9 ⊢; exact q4 q9⟩ dX3_passDigits_68
        · have c4 := gi_ne c9
          refine lv_aload_n hx hb dX3_passDigits_31 rfl (lv_at hl 0 rfl) ?_
          refine lv_aload_n hx hb dX3_passDigits_32 rfl (lv_at hl 0 rfl) ?_
          refine va_get (D := κ.1) (ci := 3) (v := .int (zI s11 this 7)) (C := RX3) (T := TX3) (N := 8) hx hb hg inX3 hown hK (hT.o6 (hT.k t_this (by decide))).one 0 rfl rfl 7 (by decide) (hg _ k129) (fun _ h9 => h9) rfl dX3_passDigits_33 ?_
          rw [kthis_7]
          refine lv_bipush (v := 10) hx hb dX3_passDigits_36 (by decide) ?_
          refine lv_imul hx hb dX3_passDigits_38 ?_
          first | (refine g_mul (by rw [n10]; omega) (by rw [n10]; omega) (fun t14 ht14 => ?_); rw [n10] at ht14) | refine lv_topi (fun t14 ht14 => ?_)
          refine lv_aload_n hx hb dX3_passDigits_39 rfl (lv_at hl 0 rfl) ?_
          refine va_get (D := κ.1) (ci := 3) (v := .ref (kR κ this 0)) (C := RX3) (T := TX3) (N := 8) hx hb hg inX3 hown hK (hT.o6 (hT.k t_this (by decide))).one 0 rfl rfl 0 (by decide) (hg _ k119) (fun _ h9 => h9) rfl dX3_passDigits_40 ?_
          rw [erB]
          refine lv_aload_n hx hb dX3_passDigits_43 rfl (lv_at hl 0 rfl) ?_
          refine va_get (D := κ.1) (ci := 3) (v := .int (zI s11 this 6)) (C := RX3) (T := TX3) (N := 8) hx hb hg inX3 hown hK (hT.o6 (hT.k t_this (by decide))).one 0 rfl rfl 6 (by decide) (hg _ k128) (fun _ h9 => h9) rfl dX3_passDigits_44 ?_
          rw [kthis_6]
          refine va_bald hx hb hK (hT.o14 (hT.k trB (by decide))).one 0 2 rfl rfl (g_in (by omega) (by omega)) dX3_passDigits_47 ?_
          refine lv_topi (fun t15 ht15 => ?_)
          have it15 : (ix u : Int) = u.toInt := by unfold ix; omega
          have xt15 : tc (ix u) = t15.toInt := by rw [hpc, ht15, show (ix u) = ix u from by first | rfl | (unfold ix; omega)]; exact congrArg Int32.toInt (hT.eI trB (by decide) rfl rfl).symm
          refine lv_bipush (v := 48) hx hb dX3_passDigits_48 (by decide) ?_
          refine lv_isub hx hb dX3_passDigits_50 ?_
          first | refine g_sub (by omega) (by omega) (fun t16 ht16 => ?_) | refine lv_topi (fun t16 ht16 => ?_)
          refine lv_iadd hx hb dX3_passDigits_51 ?_
          first | refine g_add (by omega) (by omega) (fun t17 ht17 => ?_) | refine lv_topi (fun t17 ht17 => ?_)
          have y9 : ix u ≤ aa + 3 → t17.toInt = 10 * nn.toInt + (tc (ix u) - 48) := fun q9 => by
            have y8 := q4 (by omega)
            have yg := uscn_ge (p := uisDi) (c := tc) (L := Ln) (a := ix u)
            have y7 := unum_b (c := tc) (a := aa) (k := ix u - aa) (fun j hj => uisDi_t.mp (uscn_in (p := uisDi) (c := tc) (L := Ln) (a := aa) (k := aa + j) (by omega) (by rw [← q3]; omega)))
            have y6 := y7.1
            have y5 := y7.2.2.2.1 (by omega)
            have y4 := (mul10 (x := nn) (by omega) (by omega)).1
            rw [← ht14] at y4
            rw [ht17, v_addi (t := 10 * nn.toInt) (u := t16.toInt) y4 rfl (by omega) (by omega)]
            omega
          have hTo := hT
          refine pf6_7 hx hb hg hown hK hT (hT.k t_this (by decide)) rfl (hg _ k129) dX3_passDigits_52 (fun H locs s18 hus18 hT => ?_)
          have kthis_6 : zI s18 this 6 = u := (zput_o hus18 (Or.inr (by decide))).trans kthis_6
          have e19 : zI s18 this 7 = t17 := zput_at hus18
          refine lv_aload_n hx hb dX3_passDigits_55 rfl (lv_at hl 0 rfl) ?_
          refine lv_dup hx hb dX3_passDigits_56 rfl ?_
          refine va_get (D := κ.1) (ci := 3) (v := .int (zI s18 this 6)) (C := RX3) (T := TX3) (N := 8) hx hb hg inX3 hown hK (hT.o6 (hT.k t_this (by decide))).one 0 rfl rfl 6 (by decide) (hg _ k128) (fun _ h9 => h9) rfl dX3_passDigits_57 ?_
          rw [kthis_6]
          refine lv_iconst (v := 1) hx hb dX3_passDigits_60 (by decide) ?_
          refine lv_iadd hx hb dX3_passDigits_61 ?_
          first | refine g_add (by omega) (by omega) (fun t20 ht20 => ?_) | refine lv_topi (fun t20 ht20 => ?_)
          have hTo := hT
          refine pf6_6 hx hb hg hown hK hT (hT.k t_this (by decide)) rfl ⟨by omega, by omega⟩ (hg _ k128) dX3_passDigits_62 (fun H locs s21 hus21 hT => ?_)
          have e19 : zI s21 this 7 = t17 := (zput_o hus21 (Or.inr (by decide))).trans e19
          have e22 : zI s21 this 6 = t20 := zput_at hus21
          refine lv_goto (tgt := 5) hx hb dX3_passDigits_65 (by decide) ?_
          exact ih5 t20 t17 _ _ _ _ hT e22 e19 (by omega) (by omega) (show aa ≤ ix t20 from by have w9 : ix t20 = ix u + 1 := (by unfold ix; omega); omega) (by rw [show ix t20 = ix u + 1 from by unfold ix; omega, ← uscn_go (p := uisDi) (c := tc) (L := Ln) (a := ix u) (by omega) (uisDi_t.mpr (by omega))]; exact q3) (fun q9 => by rw [show ix t20 - aa = (ix u - aa) + 1 from by unfold ix at *; omega]; show _ = 10 * unum tc aa (ix u - aa) + (tc (aa + (ix u - aa)) - 48); have w9 : ix t20 = ix u + 1 := (by unfold ix; omega); rw [show aa + (ix u - aa) = ix u from by omega, ← q4 (by omega)]; exact y9 (by omega)) hl (by omega)
  exact loop5 ((700 - v1.toInt).toNat + 1) v1 0 _ _ _ _ hT ev1 e4 (by omega) (by omega) (show aa ≤ ix v1 from by unfold ix; omega) (by rw [show ix v1 = aa from by unfold ix; omega]) (fun _ => by rw [show ix v1 - aa = 0 from by unfold ix; omega]; exact n0) hl (by omega)
set_option maxHeartbeats 4000000 in
set_option maxRecDepth 100000 in
theorem X3s_pass (l : Launch) (κ : Kt) (σ0 : Gh) (this : Nat) {tc : Nat → Int} {Ln : Nat} {aa : Nat} (t_this : zk σ0 this 6) (h0 : TXc κ σ0 this tc Ln) (h1 : (zI σ0 this 6).toInt = (aa : Nat)) (h2 : aa ≤ Ln) : TC l yX3_pass cX3_pass 1 (some .boolean) 2 40 [.ref this] κ σ0 (tqi κ fP σ0 (fun (r : Int32) (τ : Gh) => (r.toInt = 1) ∧ (TKc τ this tc Ln (uscn uisBl tc Ln aa)) ∧ (isB r))) := by
  refine TC.of fP (by decide +kernel) (Nat.le_of_ble_eq_true rfl) ?_
  intro p e s m below meth c ls hcs hK hX hT hl
  obtain ⟨hx, hb, hr, hml, hown, hg, hlocks, hin⟩ := hcs
  have hown : s.vm.findClass RX3 = some m.cls := hown
  have hl : lv_has ls 1 [(0, .ref this)] := hl
  have hT0 := hT
  have n0 : (0 : Int32).toInt = 0 := by decide
  have n1 : (1 : Int32).toInt = 1 := by decide
  have n2 : (2 : Int32).toInt = 2 := by decide
  have n3 : (3 : Int32).toInt = 3 := by decide
  have n4 : (4 : Int32).toInt = 4 := by decide
  have n5 : (5 : Int32).toInt = 5 := by decide
  have n10 : (10 : Int32).toInt = 10 := by decide
  have n32 : (32 : Int32).toInt = 32 := by decide
  have n45 : (45 : Int32).toInt = 45 := by decide
  have n59 : (59 : Int32).toInt = 59 := by decide
  generalize hQ9 : tQ _ _ _ _ _ _ = Q9
  obtain ⟨rB, erB⟩ : ∃ z, kR κ this 0 = z := ⟨_, rfl⟩
  have trB : zk σ0 rB 14 := by rw [← erB]; exact hT0.ref t_this (by decide) (by decide) (by decide)
  have hpc : ∀ j, tc j = (zI σ0 rB j).toInt := by rw [← erB]; exact h0.1
  have hLn : (zI σ0 this 1).toInt = Ln := h0.2
  have bL := (hT0.P t_this (by decide)).1.2
  have hL7 : (Ln : Int) ≤ 700 := by omega
  refine lv_aload_n hx hb dX3_pass_0 rfl (lv_at hl 0 rfl) ?_
  refine lv_aload_n hx hb dX3_pass_1 rfl (lv_at hl 0 rfl) ?_
  obtain ⟨v1, ev1⟩ : ∃ zz9 : Int32, zI σ0 this 6 = zz9 := ⟨_, rfl⟩
  have qv1 : v1.toInt = (zI σ0 this 6).toInt := by rw [ev1]
  have b2 := (hT.P (hT.k t_this (by decide)) (by decide)).2.2
  rw [ev1] at b2
  have b2l := b2.1
  have b2h := b2.2
  refine va_get (D := κ.1) (ci := 3) (v := .int (zI σ0 this 6)) (C := RX3) (T := TX3) (N := 8) hx hb hg inX3 hown hK (hT.o6 (hT.k t_this (by decide))).one 0 rfl rfl 6 (by decide) (hg _ k128) (fun _ h9 => h9) rfl dX3_pass_2 ?_
  rw [ev1]
  have hTo := hT
  refine pf6_5 hx hb hg hown hK hT (hT.k t_this (by decide)) rfl ⟨by omega, by omega⟩ (hg _ k127) dX3_pass_5 (fun H locs s3 hus3 hT => ?_)
  have ev1 : zI s3 this 6 = v1 := (zput_o hus3 (Or.inr (by decide))).trans ev1
  have e4 : zI s3 this 5 = v1 := zput_at hus3
  have loop8 : ∀ (n9 : Nat)  (u : Int32) (H : Heap) (locs : List Loc) (sg : Gh) (ls : Array Slot), TS κ fP σ0 sg s H locs → (zI sg this 5 = u) → (u.toInt ≤ 700) → (u.toInt ≤ Ln) → (uscn uisBl tc Ln (ix u) = uscn uisBl tc Ln aa) → lv_has ls 1 [(0, .ref this)] → (700 - u.toInt) < n9 → tW p l e 2 40 κ s m #[.ref this] below meth c H locs Q9 (F0 m 8 ls []) := by
    intro n9
    induction n9 with
    | zero =>
      intro u H locs sg ls hT kthis_5 q1 q2 q3 hl hm9
      exfalso
      omega
    | succ n9 ih9 =>
      have ih8 := ih9
      clear ih9
      intro u H locs s5 ls hT kthis_5 q1 q2 q3 hl hm9
      have b6 := (hT.P (hT.k t_this (by decide)) (by decide)).2.1
      rw [kthis_5] at b6
      have b6l := b6.1
      have b6h := b6.2
      have i_u : (ix u : Int) = u.toInt := by unfold ix; omega
      refine lv_aload_n hx hb dX3_pass_8 rfl (lv_at hl 0 rfl) ?_
      refine va_get (D := κ.1) (ci := 3) (v := .int (zI s5 this 5)) (C := RX3) (T := TX3) (N := 8) hx hb hg inX3 hown hK (hT.o6 (hT.k t_this (by decide))).one 0 rfl rfl 5 (by decide) (hg _ k127) (fun _ h9 => h9) rfl dX3_pass_9 ?_
      rw [kthis_5]
      refine lv_aload_n hx hb dX3_pass_12 rfl (lv_at hl 0 rfl) ?_
      obtain ⟨v7, ev7⟩ : ∃ zz9 : Int32, zI σ0 this 1 = zz9 := ⟨_, rfl⟩
      have qv7 : v7.toInt = (zI σ0 this 1).toInt := by rw [ev7]
      have b8 := (hT.P (hT.k t_this (by decide)) (by decide)).1
      rw [(hT.eI t_this (by decide) rfl ev7)] at b8
      have b8l := b8.1
      have b8h := b8.2
      refine va_get (D := κ.1) (ci := 3) (v := .int (zI s5 this 1)) (C := RX3) (T := TX3) (N := 8) hx hb hg inX3 hown hK (hT.o6 (hT.k t_this (by decide))).one 0 rfl rfl 1 (by decide) (hg _ k120) (fun _ h9 => h9) rfl dX3_pass_13 ?_
      rw [(hT.eI t_this (by decide) rfl ev7)]
      refine lv_icmp_ge (tgt := 60) hx hb dX3_pass_16 (by decide) (fun c9 => ?_) (fun c9 => ?_)
      · have c1 := gi_le c9
        have hs9 : uscn uisBl tc Ln (ix u) = ix u := uscn_no (fun q9 => by have q8 := uisBl_t.mp q9.2; have q7 := q9.1; omega)
        obtain ⟨ss, hss⟩ : ∃ z, uscn uisBl tc Ln aa = z := ⟨_, rfl⟩
        have hsu : u.toInt = (ss : Nat) := by omega
        have hsi : ix u = ss := by omega
        have hsL : ss ≤ Ln := by omega
        refine lv_aload_n hx hb dX3_pass_60 rfl (lv_at hl 0 rfl) ?_
        refine lv_aload_n hx hb dX3_pass_61 rfl (lv_at hl 0 rfl) ?_
        refine va_get (D := κ.1) (ci := 3) (v := .int (zI s5 this 5)) (C := RX3) (T := TX3) (N := 8) hx hb hg inX3 hown hK (hT.o6 (hT.k t_this (by decide))).one 0 rfl rfl 5 (by decide) (hg _ k127) (fun _ h9 => h9) rfl dX3_pass_62 ?_
        rw [kthis_5]
        have hTo := hT
        refine pf6_6 hx hb hg hown hK hT (hT.k t_this (by decide)) rfl ⟨by omega, by omega⟩ (hg _ k128) dX3_pass_65 (fun H locs s9 hus9 hT => ?_)
        have kthis_5 : zI s9 this 5 = u := (zput_o hus9 (Or.inr (by decide))).trans kthis_5
        have e10 : zI s9 this 6 = u := zput_at hus9
        refine lv_aload_n hx hb dX3_pass_68 rfl (lv_at hl 0 rfl) ?_
        refine va_get (D := κ.1) (ci := 3) (v := .int (zI s9 this 5)) (C := RX3) (T := TX3) (N := 8) hx hb hg inX3 hown hK (hT.o6 (hT.k t_this (by decide))).one 0 rfl rfl 5 (by decide) (hg _ k127) (fun _ h9 => h9) rfl dX3_pass_69 ?_
        rw [kthis_5]
        refine lv_aload_n hx hb dX3_pass_72 rfl (lv_at hl 0 rfl) ?_
        refine va_get (D := κ.1) (ci := 3) (v := .int (zI s9 this 1)) (C := RX3) (T := TX3) (N := 8) hx hb hg inX3 hown hK (hT.o6 (hT.k t_this (by decide))).one 0 rfl rfl 1 (by decide) (hg _ k120) (fun _ h9 => h9) rfl dX3_pass_73 ?_
        rw [(hT.eI t_this (by decide) rfl ev7)]
        refine lv_icmp_lt (tgt := 87) hx hb dX3_pass_76 (by decide) (fun c9 => ?_) (fun c9 => ?_)
        · have c2 := gi_lt c9
          refine lv_aload_n hx hb dX3_pass_87 rfl (lv_at hl 0 rfl) ?_
          refine va_get (D := κ.1) (ci := 3) (v := .ref (kR κ this 0)) (C := RX3) (T := TX3) (N := 8) hx hb hg inX3 hown hK (hT.o6 (hT.k t_this (by decide))).one 0 rfl rfl 0 (by decide) (hg _ k119) (fun _ h9 => h9) rfl dX3_pass_88 ?_
          rw [erB]
          refine lv_aload_n hx hb dX3_pass_91 rfl (lv_at hl 0 rfl) ?_
          refine va_get (D := κ.1) (ci := 3) (v := .int (zI s9 this 5)) (C := RX3) (T := TX3) (N := 8) hx hb hg inX3 hown hK (hT.o6 (hT.k t_this (by decide))).one 0 rfl rfl 5 (by decide) (hg _ k127) (fun _ h9 => h9) rfl dX3_pass_92 ?_
          rw [kthis_5]
          refine va_bald hx hb hK (hT.o14 (hT.k trB (by decide))).one 0 2 rfl rfl (g_in (by omega) (by omega)) dX3_pass_95 ?_
          refine lv_topi (fun t11 ht11 => ?_)
          have xt11 : tc ss = t11.toInt := by rw [hpc, ht11, show ss = ix u from by first | rfl | (unfold ix; omega)]; exact congrArg Int32.toInt (hT.eI trB (by decide) rfl rfl).symm
          have hTo := hT
          refine tSi (n := 1) (As := [.int t11]) (rest := []) hx hb hml hown hg hT hK hX (X3s_isLetter l κ s9 t11   ) sub_fE_fP (mwS k701 k702 k85 k703) ⟨rfl, by decide, by decide, by decide +kernel⟩ ⟨(Nat.le_of_ble_eq_true rfl), (Nat.le_of_ble_eq_true rfl)⟩ rfl hl.1 rfl (Nat.le_of_ble_eq_true rfl) dX3_pass_96 zroom.rf (fun x12 s13 H locs hφ hEs13 hT => ?_)
          have kthis_5 : zI s13 this 5 = u := ((hTo.k t_this (by decide)).eI hEs13 (by decide) rfl).trans kthis_5
          have e10 : zI s13 this 6 = u := ((hTo.k t_this (by decide)).eI hEs13 (by decide) rfl).trans e10
          obtain ⟨f14, f15⟩ := hφ
          refine lv_if_eq (tgt := 114) hx hb dX3_pass_99 (by decide) (fun c9 => ?_) (fun c9 => ?_)
          · have c3 := gi_eq c9
            refine lv_aload_n hx hb dX3_pass_114 rfl (lv_at hl 0 rfl) ?_
            refine va_get (D := κ.1) (ci := 3) (v := .ref (kR κ this 0)) (C := RX3) (T := TX3) (N := 8) hx hb hg inX3 hown hK (hT.o6 (hT.k t_this (by decide))).one 0 rfl rfl 0 (by decide) (hg _ k119) (fun _ h9 => h9) rfl dX3_pass_115 ?_
            rw [erB]
            refine lv_aload_n hx hb dX3_pass_118 rfl (lv_at hl 0 rfl) ?_
            refine va_get (D := κ.1) (ci := 3) (v := .int (zI s13 this 5)) (C := RX3) (T := TX3) (N := 8) hx hb hg inX3 hown hK (hT.o6 (hT.k t_this (by decide))).one 0 rfl rfl 5 (by decide) (hg _ k127) (fun _ h9 => h9) rfl dX3_pass_119 ?_
            rw [kthis_5]
            refine va_bald hx hb hK (hT.o14 (hT.k trB (by decide))).one 0 2 rfl rfl (g_in (by omega) (by omega)) dX3_pass_122 ?_
            refine lv_topi (fun t16 ht16 => ?_)
            have xt16 : tc ss = t16.toInt := by rw [hpc, ht16, show ss = ix u from by first | rfl | (unfold ix; omega)]; exact congrArg Int32.toInt (hT.eI trB (by decide) rfl rfl).symm
            have hTo := hT
            refine tSi (n := 1) (As := [.int t16]) (rest := []) hx hb hml hown hg hT hK hX (X3s_isDigit l κ s13 t16   ) sub_fE_fP (mwS k708 k709 k85 k710) ⟨rfl, by decide, by decide, by decide +kernel⟩ ⟨(Nat.le_of_ble_eq_true rfl), (Nat.le_of_ble_eq_true rfl)⟩ rfl hl.1 rfl (Nat.le_of_ble_eq_true rfl) dX3_pass_123 zroom.rf (fun x17 s18 H locs hφ hEs18 hT => ?_)
            have kthis_5 : zI s18 this 5 = u := ((hTo.k t_this (by decide)).eI hEs18 (by decide) rfl).trans kthis_5
            have e10 : zI s18 this 6 = u := ((hTo.k t_this (by decide)).eI hEs18 (by decide) rfl).trans e10
            obtain ⟨f19, f20⟩ := hφ
            refine lv_if_eq (tgt := 158) hx hb dX3_pass_126 (by decide) (fun c9 => ?_) (fun c9 => ?_)
            · have c4 := gi_eq c9
              refine lv_aload_n hx hb dX3_pass_158 rfl (lv_at hl 0 rfl) ?_
              refine lv_aload_n hx hb dX3_pass_159 rfl (lv_at hl 0 rfl) ?_
              refine va_get (D := κ.1) (ci := 3) (v := .ref (kR κ this 0)) (C := RX3) (T := TX3) (N := 8) hx hb hg inX3 hown hK (hT.o6 (hT.k t_this (by decide))).one 0 rfl rfl 0 (by decide) (hg _ k119) (fun _ h9 => h9) rfl dX3_pass_160 ?_
              rw [erB]
              refine lv_aload_n hx hb dX3_pass_163 rfl (lv_at hl 0 rfl) ?_
              refine va_get (D := κ.1) (ci := 3) (v := .int (zI s18 this 5)) (C := RX3) (T := TX3) (N := 8) hx hb hg inX3 hown hK (hT.o6 (hT.k t_this (by decide))).one 0 rfl rfl 5 (by decide) (hg _ k127) (fun _ h9 => h9) rfl dX3_pass_164 ?_
              rw [kthis_5]
              refine va_bald hx hb hK (hT.o14 (hT.k trB (by decide))).one 0 2 rfl rfl (g_in (by omega) (by omega)) dX3_pass_167 ?_
              refine lv_topi (fun t21 ht21 => ?_)
              have xt21 : tc ss = t21.toInt := by rw [hpc, ht21, show ss = ix u from by first | rfl | (unfold ix; omega)]; exact congrArg Int32.toInt (hT.eI trB (by decide) rfl rfl).symm
              refine lv_bipush (v := 59) hx hb dX3_pass_168 (by decide) ?_
              refine lv_icmp_ne (tgt := 177) hx hb dX3_pass_170 (by decide) (fun c9 => ?_) (fun c9 => ?_)
              · have c5 := gi_ne c9
                refine lv_aload_n hx hb dX3_pass_177 rfl (lv_at hl 0 rfl) ?_
                refine va_get (D := κ.1) (ci := 3) (v := .ref (kR κ this 0)) (C := RX3) (T := TX3) (N := 8) hx hb hg inX3 hown hK (hT.o6 (hT.k t_this (by decide))).one 0 rfl rfl 0 (by decide) (hg _ k119) (fun _ h9 => h9) rfl dX3_pass_178 ?_
                rw [erB]
                refine lv_aload_n hx hb dX3_pass_181 rfl (lv_at hl 0 rfl) ?_
                refine va_get (D := κ.1) (ci := 3) (v := .int (zI s18 this 5)) (C := RX3) (T := TX3) (N := 8) hx hb hg inX3 hown hK (hT.o6 (hT.k t_this (by decide))).one 0 rfl rfl 5 (by decide) (hg _ k127) (fun _ h9 => h9) rfl dX3_pass_182 ?_
                rw [kthis_5]
                refine va_bald hx hb hK (hT.o14 (hT.k trB (by decide))).one 0 2 rfl rfl (g_in (by omega) (by omega)) dX3_pass_185 ?_
                refine lv_topi (fun t22 ht22 => ?_)
                have xt22 : tc ss = t22.toInt := by rw [hpc, ht22, show ss = ix u from by first | rfl | (unfold ix; omega)]; exact congrArg Int32.toInt (hT.eI trB (by decide) rfl rfl).symm
                refine lv_bipush (v := 45) hx hb dX3_pass_186 (by decide) ?_
                refine lv_icmp_ne (tgt := 195) hx hb dX3_pass_188 (by decide) (fun c9 => ?_) (fun c9 => ?_)
                · have c6 := gi_ne c9
                  refine lv_iconst (v := 5) hx hb dX3_pass_195 (by decide) ?_
                  have hTo := hT
                  refine pf6_4 hx hb hg hown hK hT (hT.k t_this (by decide)) rfl (hg _ k126) dX3_pass_196 (fun H locs s23 hus23 hT => ?_)
                  have kthis_5 : zI s23 this 5 = u := (zput_o hus23 (Or.inr (by decide))).trans kthis_5
                  have e10 : zI s23 this 6 = u := (zput_o hus23 (Or.inr (by decide))).trans e10
                  have e24 : zI s23 this 4 = 5 := zput_at hus23
                  refine lv_aload_n hx hb dX3_pass_199 rfl (lv_at hl 0 rfl) ?_
                  refine lv_dup hx hb dX3_pass_200 rfl ?_
                  refine va_get (D := κ.1) (ci := 3) (v := .int (zI s23 this 6)) (C := RX3) (T := TX3) (N := 8) hx hb hg inX3 hown hK (hT.o6 (hT.k t_this (by decide))).one 0 rfl rfl 6 (by decide) (hg _ k128) (fun _ h9 => h9) rfl dX3_pass_201 ?_
                  rw [e10]
                  refine lv_iconst (v := 1) hx hb dX3_pass_204 (by decide) ?_
                  refine lv_iadd hx hb dX3_pass_205 ?_
                  first | refine g_add (by omega) (by omega) (fun t25 ht25 => ?_) | refine lv_topi (fun t25 ht25 => ?_)
                  have hTo := hT
                  refine pf6_6 hx hb hg hown hK hT (hT.k t_this (by decide)) rfl ⟨by omega, by omega⟩ (hg _ k128) dX3_pass_206 (fun H locs s26 hus26 hT => ?_)
                  have kthis_5 : zI s26 this 5 = u := (zput_o hus26 (Or.inr (by decide))).trans kthis_5
                  have e24 : zI s26 this 4 = 5 := (zput_o hus26 (Or.inr (by decide))).trans e24
                  have e27 : zI s26 this 6 = t25 := zput_at hus26
                  refine lv_iconst (v := 1) hx hb dX3_pass_209 (by decide) ?_
                  obtain ⟨v28, ev28⟩ : ∃ zz9 : Int32, zI s26 this 7 = zz9 := ⟨_, rfl⟩
                  have qv28 : v28.toInt = (zI s26 this 7).toInt := by rw [ev28]
                  subst hQ9
                  exact t_z hx hb hr isB1 hlocks hT ⟨n1, by rw [hss]; unfold TKc; rw [(show zI s26 this 4 = 5 from e24), (show zI s26 this 5 = u from kthis_5), (show zI s26 this 6 = t25 from e27), (show zI s26 this 7 = v28 from ev28)]; first | exact TKv_other (by omega) (by omega) (by omega) (by omega) (by omega) (by omega) (by omega) | (exfalso; omega), isB1⟩ dX3_pass_210
                · have c7 := gi_eq c9
                  refine lv_iconst (v := 4) hx hb dX3_pass_191 (by decide) ?_
                  refine lv_goto (tgt := 196) hx hb dX3_pass_192 (by decide) ?_
                  have hTo := hT
                  refine pf6_4 hx hb hg hown hK hT (hT.k t_this (by decide)) rfl (hg _ k126) dX3_pass_196 (fun H locs s29 hus29 hT => ?_)
                  have kthis_5 : zI s29 this 5 = u := (zput_o hus29 (Or.inr (by decide))).trans kthis_5
                  have e10 : zI s29 this 6 = u := (zput_o hus29 (Or.inr (by decide))).trans e10
                  have e30 : zI s29 this 4 = 4 := zput_at hus29
                  refine lv_aload_n hx hb dX3_pass_199 rfl (lv_at hl 0 rfl) ?_
                  refine lv_dup hx hb dX3_pass_200 rfl ?_
                  refine va_get (D := κ.1) (ci := 3) (v := .int (zI s29 this 6)) (C := RX3) (T := TX3) (N := 8) hx hb hg inX3 hown hK (hT.o6 (hT.k t_this (by decide))).one 0 rfl rfl 6 (by decide) (hg _ k128) (fun _ h9 => h9) rfl dX3_pass_201 ?_
                  rw [e10]
                  refine lv_iconst (v := 1) hx hb dX3_pass_204 (by decide) ?_
                  refine lv_iadd hx hb dX3_pass_205 ?_
                  first | refine g_add (by omega) (by omega) (fun t31 ht31 => ?_) | refine lv_topi (fun t31 ht31 => ?_)
                  have hTo := hT
                  refine pf6_6 hx hb hg hown hK hT (hT.k t_this (by decide)) rfl ⟨by omega, by omega⟩ (hg _ k128) dX3_pass_206 (fun H locs s32 hus32 hT => ?_)
                  have kthis_5 : zI s32 this 5 = u := (zput_o hus32 (Or.inr (by decide))).trans kthis_5
                  have e30 : zI s32 this 4 = 4 := (zput_o hus32 (Or.inr (by decide))).trans e30
                  have e33 : zI s32 this 6 = t31 := zput_at hus32
                  refine lv_iconst (v := 1) hx hb dX3_pass_209 (by decide) ?_
                  obtain ⟨v34, ev34⟩ : ∃ zz9 : Int32, zI s32 this 7 = zz9 := ⟨_, rfl⟩
                  have qv34 : v34.toInt = (zI s32 this 7).toInt := by rw [ev34]
                  subst hQ9
                  exact t_z hx hb hr isB1 hlocks hT ⟨n1, by rw [hss]; unfold TKc; rw [(show zI s32 this 4 = 4 from e30), (show zI s32 this 5 = u from kthis_5), (show zI s32 this 6 = t31 from e33), (show zI s32 this 7 = v34 from ev34)]; first | exact TKv_minus (by omega) (by omega) (by omega) (by omega) | (exfalso; omega), isB1⟩ dX3_pass_210
              · have c8 := gi_eq c9
                refine lv_iconst (v := 3) hx hb dX3_pass_173 (by decide) ?_
                refine lv_goto (tgt := 196) hx hb dX3_pass_174 (by decide) ?_
                have hTo := hT
                refine pf6_4 hx hb hg hown hK hT (hT.k t_this (by decide)) rfl (hg _ k126) dX3_pass_196 (fun H locs s35 hus35 hT => ?_)
                have kthis_5 : zI s35 this 5 = u := (zput_o hus35 (Or.inr (by decide))).trans kthis_5
                have e10 : zI s35 this 6 = u := (zput_o hus35 (Or.inr (by decide))).trans e10
                have e36 : zI s35 this 4 = 3 := zput_at hus35
                refine lv_aload_n hx hb dX3_pass_199 rfl (lv_at hl 0 rfl) ?_
                refine lv_dup hx hb dX3_pass_200 rfl ?_
                refine va_get (D := κ.1) (ci := 3) (v := .int (zI s35 this 6)) (C := RX3) (T := TX3) (N := 8) hx hb hg inX3 hown hK (hT.o6 (hT.k t_this (by decide))).one 0 rfl rfl 6 (by decide) (hg _ k128) (fun _ h9 => h9) rfl dX3_pass_201 ?_
                rw [e10]
                refine lv_iconst (v := 1) hx hb dX3_pass_204 (by decide) ?_
                refine lv_iadd hx hb dX3_pass_205 ?_
                first | refine g_add (by omega) (by omega) (fun t37 ht37 => ?_) | refine lv_topi (fun t37 ht37 => ?_)
                have hTo := hT
                refine pf6_6 hx hb hg hown hK hT (hT.k t_this (by decide)) rfl ⟨by omega, by omega⟩ (hg _ k128) dX3_pass_206 (fun H locs s38 hus38 hT => ?_)
                have kthis_5 : zI s38 this 5 = u := (zput_o hus38 (Or.inr (by decide))).trans kthis_5
                have e36 : zI s38 this 4 = 3 := (zput_o hus38 (Or.inr (by decide))).trans e36
                have e39 : zI s38 this 6 = t37 := zput_at hus38
                refine lv_iconst (v := 1) hx hb dX3_pass_209 (by decide) ?_
                obtain ⟨v40, ev40⟩ : ∃ zz9 : Int32, zI s38 this 7 = zz9 := ⟨_, rfl⟩
                have qv40 : v40.toInt = (zI s38 this 7).toInt := by rw [ev40]
                subst hQ9
                exact t_z hx hb hr isB1 hlocks hT ⟨n1, by rw [hss]; unfold TKc; rw [(show zI s38 this 4 = 3 from e36), (show zI s38 this 5 = u from kthis_5), (show zI s38 this 6 = t37 from e39), (show zI s38 this 7 = v40 from ev40)]; first | exact TKv_semi (by omega) (by omega) (by omega) (by omega) | (exfalso; omega), isB1⟩ dX3_pass_210
            · have c9 := gi_ne c9
              refine lv_aload_n hx hb dX3_pass_129 rfl (lv_at hl 0 rfl) ?_
              have hTo := hT
              refine tVv (n := 0) (As := []) (rest := []) hx hb hml hown hg hT hK hX (X3s_passDigits l κ s18 this  (hT.k t_this (by decide)) (h0.tr (funext fun k => by rw [erB]; exact hT.eI trB (by decide) rfl rfl) (hT.eI t_this (by decide) rfl rfl)) (show (zI s18 this 6).toInt = (ss : Nat) from by rw [(show zI s18 this 6 = u from e10)]; omega) (by omega)) sub_fE67_fP (mwV k711 k713 k19 k85 k714) ⟨rfl, by decide, by decide, by decide +kernel⟩ ⟨(Nat.le_of_ble_eq_true rfl), (Nat.le_of_ble_eq_true rfl)⟩ (hT.o6 (hT.k t_this (by decide))) rfl rfl hl.1 rfl (Nat.le_of_ble_eq_true rfl) dX3_pass_130 zroom.rf (fun s42 H locs hφ hEs42 hT => ?_)
              have kthis_5 : zI s42 this 5 = u := ((hTo.k t_this (by decide)).eI hEs42 (by decide) rfl).trans kthis_5
              obtain ⟨f43, f44⟩ := hφ
              obtain ⟨v45, ev45⟩ : ∃ zz9 : Int32, zI s42 this 6 = zz9 := ⟨_, rfl⟩
              have qv45 : v45.toInt = (zI s42 this 6).toInt := by rw [ev45]
              have b46 := (hT.P (hT.k t_this (by decide)) (by decide)).2.2
              rw [ev45] at b46
              have b46l := b46.1
              have b46h := b46.2
              rw [(show zI s42 this 6 = v45 from ev45)] at f43
              obtain ⟨v47, ev47⟩ : ∃ zz9 : Int32, zI s42 this 7 = zz9 := ⟨_, rfl⟩
              have qv47 : v47.toInt = (zI s42 this 7).toInt := by rw [ev47]
              rw [(show zI s42 this 7 = v47 from ev47)] at f44
              refine lv_aload_n hx hb dX3_pass_133 rfl (lv_at hl 0 rfl) ?_
              refine lv_aload_n hx hb dX3_pass_134 rfl (lv_at hl 0 rfl) ?_
              refine va_get (D := κ.1) (ci := 3) (v := .int (zI s42 this 6)) (C := RX3) (T := TX3) (N := 8) hx hb hg inX3 hown hK (hT.o6 (hT.k t_this (by decide))).one 0 rfl rfl 6 (by decide) (hg _ k128) (fun _ h9 => h9) rfl dX3_pass_135 ?_
              rw [ev45]
              refine lv_aload_n hx hb dX3_pass_138 rfl (lv_at hl 0 rfl) ?_
              refine va_get (D := κ.1) (ci := 3) (v := .int (zI s42 this 5)) (C := RX3) (T := TX3) (N := 8) hx hb hg inX3 hown hK (hT.o6 (hT.k t_this (by decide))).one 0 rfl rfl 5 (by decide) (hg _ k127) (fun _ h9 => h9) rfl dX3_pass_139 ?_
              rw [kthis_5]
              refine lv_isub hx hb dX3_pass_142 ?_
              first | refine g_sub (by omega) (by omega) (fun t48 ht48 => ?_) | refine lv_topi (fun t48 ht48 => ?_)
              refine lv_iconst (v := 4) hx hb dX3_pass_143 (by decide) ?_
              refine lv_icmp_gt (tgt := 151) hx hb dX3_pass_144 (by decide) (fun c9 => ?_) (fun c9 => ?_)
              · have c10 := gi_lt c9
                refine lv_iconst (v := 5) hx hb dX3_pass_151 (by decide) ?_
                have hTo := hT
                refine pf6_4 hx hb hg hown hK hT (hT.k t_this (by decide)) rfl (hg _ k126) dX3_pass_152 (fun H locs s49 hus49 hT => ?_)
                have kthis_5 : zI s49 this 5 = u := (zput_o hus49 (Or.inr (by decide))).trans kthis_5
                have ev45 : zI s49 this 6 = v45 := (zput_o hus49 (Or.inr (by decide))).trans ev45
                have ev47 : zI s49 this 7 = v47 := (zput_o hus49 (Or.inr (by decide))).trans ev47
                have e50 : zI s49 this 4 = 5 := zput_at hus49
                refine lv_goto (tgt := 209) hx hb dX3_pass_155 (by decide) ?_
                refine lv_iconst (v := 1) hx hb dX3_pass_209 (by decide) ?_
                subst hQ9
                exact t_z hx hb hr isB1 hlocks hT ⟨n1, by rw [hss]; unfold TKc; rw [(show zI s49 this 4 = 5 from e50), (show zI s49 this 5 = u from kthis_5), (show zI s49 this 6 = v45 from ev45), (show zI s49 this 7 = v47 from ev47)]; first | exact TKv_long (by omega) (by omega) (by omega) (by omega) (by omega) (by omega) | (exfalso; omega), isB1⟩ dX3_pass_210
              · have c11 := gi_nlt c9
                refine lv_iconst (v := 2) hx hb dX3_pass_147 (by decide) ?_
                refine lv_goto (tgt := 152) hx hb dX3_pass_148 (by decide) ?_
                have hTo := hT
                refine pf6_4 hx hb hg hown hK hT (hT.k t_this (by decide)) rfl (hg _ k126) dX3_pass_152 (fun H locs s51 hus51 hT => ?_)
                have kthis_5 : zI s51 this 5 = u := (zput_o hus51 (Or.inr (by decide))).trans kthis_5
                have ev45 : zI s51 this 6 = v45 := (zput_o hus51 (Or.inr (by decide))).trans ev45
                have ev47 : zI s51 this 7 = v47 := (zput_o hus51 (Or.inr (by decide))).trans ev47
                have e52 : zI s51 this 4 = 2 := zput_at hus51
                refine lv_goto (tgt := 209) hx hb dX3_pass_155 (by decide) ?_
                refine lv_iconst (v := 1) hx hb dX3_pass_209 (by decide) ?_
                subst hQ9
                exact t_z hx hb hr isB1 hlocks hT ⟨n1, by rw [hss]; unfold TKc; rw [(show zI s51 this 4 = 2 from e52), (show zI s51 this 5 = u from kthis_5), (show zI s51 this 6 = v45 from ev45), (show zI s51 this 7 = v47 from ev47)]; first | exact TKv_num (by omega) (by omega) (by omega) (by omega) (by omega) (by omega) (by rw [f44 (by omega)]) | (exfalso; omega), isB1⟩ dX3_pass_210
          · have c12 := gi_ne c9
            refine lv_aload_n hx hb dX3_pass_102 rfl (lv_at hl 0 rfl) ?_
            refine lv_iconst (v := 1) hx hb dX3_pass_103 (by decide) ?_
            have hTo := hT
            refine pf6_4 hx hb hg hown hK hT (hT.k t_this (by decide)) rfl (hg _ k126) dX3_pass_104 (fun H locs s53 hus53 hT => ?_)
            have kthis_5 : zI s53 this 5 = u := (zput_o hus53 (Or.inr (by decide))).trans kthis_5
            have e10 : zI s53 this 6 = u := (zput_o hus53 (Or.inr (by decide))).trans e10
            have e54 : zI s53 this 4 = 1 := zput_at hus53
            refine lv_aload_n hx hb dX3_pass_107 rfl (lv_at hl 0 rfl) ?_
            have hTo := hT
            refine tVv (n := 0) (As := []) (rest := []) hx hb hml hown hg hT hK hX (X3s_passLetters l κ s53 this  (hT.k t_this (by decide)) (h0.tr (funext fun k => by rw [erB]; exact hT.eI trB (by decide) rfl rfl) (hT.eI t_this (by decide) rfl rfl)) (show (zI s53 this 6).toInt = (ss : Nat) from by rw [(show zI s53 this 6 = u from e10)]; omega) (by omega)) sub_fE6_fP (mwV k704 k706 k18 k85 k707) ⟨rfl, by decide, by decide, by decide +kernel⟩ ⟨(Nat.le_of_ble_eq_true rfl), (Nat.le_of_ble_eq_true rfl)⟩ (hT.o6 (hT.k t_this (by decide))) rfl rfl hl.1 rfl (Nat.le_of_ble_eq_true rfl) dX3_pass_108 zroom.rf (fun s56 H locs hφ hEs56 hT => ?_)
            have kthis_5 : zI s56 this 5 = u := ((hTo.k t_this (by decide)).eI hEs56 (by decide) rfl).trans kthis_5
            have e54 : zI s56 this 4 = 1 := ((hTo.k t_this (by decide)).eI hEs56 (by decide) rfl).trans e54
            have f57 := hφ
            obtain ⟨v58, ev58⟩ : ∃ zz9 : Int32, zI s56 this 6 = zz9 := ⟨_, rfl⟩
            have qv58 : v58.toInt = (zI s56 this 6).toInt := by rw [ev58]
            have b59 := (hT.P (hT.k t_this (by decide)) (by decide)).2.2
            rw [ev58] at b59
            have b59l := b59.1
            have b59h := b59.2
            rw [(show zI s56 this 6 = v58 from ev58)] at f57
            refine lv_goto (tgt := 209) hx hb dX3_pass_111 (by decide) ?_
            refine lv_iconst (v := 1) hx hb dX3_pass_209 (by decide) ?_
            obtain ⟨v60, ev60⟩ : ∃ zz9 : Int32, zI s56 this 7 = zz9 := ⟨_, rfl⟩
            have qv60 : v60.toInt = (zI s56 this 7).toInt := by rw [ev60]
            subst hQ9
            exact t_z hx hb hr isB1 hlocks hT ⟨n1, by rw [hss]; unfold TKc; rw [(show zI s56 this 4 = 1 from e54), (show zI s56 this 5 = u from kthis_5), (show zI s56 this 6 = v58 from ev58), (show zI s56 this 7 = v60 from ev60)]; first | exact TKv_word (by omega) (by omega) (by omega) (by omega) (by omega) | (exfalso; omega), isB1⟩ dX3_pass_210
        · have c13 := gi_nlt c9
          refine lv_aload_n hx hb dX3_pass_79 rfl (lv_at hl 0 rfl) ?_
          refine lv_iconst (v := 0) hx hb dX3_pass_80 (by decide) ?_
          have hTo := hT
          refine pf6_4 hx hb hg hown hK hT (hT.k t_this (by decide)) rfl (hg _ k126) dX3_pass_81 (fun H locs s61 hus61 hT => ?_)
          have kthis_5 : zI s61 this 5 = u := (zput_o hus61 (Or.inr (by decide))).trans kthis_5
          have e10 : zI s61 this 6 = u := (zput_o hus61 (Or.inr (by decide))).trans e10
          have e62 : zI s61 this 4 = 0 := zput_at hus61
          refine lv_goto (tgt := 209) hx hb dX3_pass_84 (by decide) ?_
          refine lv_iconst (v := 1) hx hb dX3_pass_209 (by decide) ?_
          obtain ⟨v63, ev63⟩ : ∃ zz9 : Int32, zI s61 this 7 = zz9 := ⟨_, rfl⟩
          have qv63 : v63.toInt = (zI s61 this 7).toInt := by rw [ev63]
          subst hQ9
          exact t_z hx hb hr isB1 hlocks hT ⟨n1, by rw [hss]; unfold TKc; rw [(show zI s61 this 4 = 0 from e62), (show zI s61 this 5 = u from kthis_5), (show zI s61 this 6 = u from e10), (show zI s61 this 7 = v63 from ev63)]; first | exact TKv_end (by omega) (by omega) (by omega) (by omega) | (exfalso; omega), isB1⟩ dX3_pass_210
      · have c14 := gi_nle c9
        refine lv_aload_n hx hb dX3_pass_19 rfl (lv_at hl 0 rfl) ?_
        refine va_get (D := κ.1) (ci := 3) (v := .ref (kR κ this 0)) (C := RX3) (T := TX3) (N := 8) hx hb hg inX3 hown hK (hT.o6 (hT.k t_this (by decide))).one 0 rfl rfl 0 (by decide) (hg _ k119) (fun _ h9 => h9) rfl dX3_pass_20 ?_
        rw [erB]
        refine lv_aload_n hx hb dX3_pass_23 rfl (lv_at hl 0 rfl) ?_
        refine va_get (D := κ.1) (ci := 3) (v := .int (zI s5 this 5)) (C := RX3) (T := TX3) (N := 8) hx hb hg inX3 hown hK (hT.o6 (hT.k t_this (by decide))).one 0 rfl rfl 5 (by decide) (hg _ k127) (fun _ h9 => h9) rfl dX3_pass_24 ?_
        rw [kthis_5]
        refine va_bald hx hb hK (hT.o14 (hT.k trB (by decide))).one 0 2 rfl rfl (g_in (by omega) (by omega)) dX3_pass_27 ?_
        refine lv_topi (fun t64 ht64 => ?_)
        have it64 : (ix u : Int) = u.toInt := by unfold ix; omega
        have xt64 : tc (ix u) = t64.toInt := by rw [hpc, ht64, show (ix u) = ix u from by first | rfl | (unfold ix; omega)]; exact congrArg Int32.toInt (hT.eI trB (by decide) rfl rfl).symm
        refine lv_bipush (v := 32) hx hb dX3_pass_28 (by decide) ?_
        refine lv_icmp_eq (tgt := 47) hx hb dX3_pass_30 (by decide) (fun c9 => ?_) (fun c9 => ?_)
        · have c15 := gi_eq c9
          refine lv_aload_n hx hb dX3_pass_47 rfl (lv_at hl 0 rfl) ?_
          refine lv_dup hx hb dX3_pass_48 rfl ?_
          refine va_get (D := κ.1) (ci := 3) (v := .int (zI s5 this 5)) (C := RX3) (T := TX3) (N := 8) hx hb hg inX3 hown hK (hT.o6 (hT.k t_this (by decide))).one 0 rfl rfl 5 (by decide) (hg _ k127) (fun _ h9 => h9) rfl dX3_pass_49 ?_
          rw [kthis_5]
          refine lv_iconst (v := 1) hx hb dX3_pass_52 (by decide) ?_
          refine lv_iadd hx hb dX3_pass_53 ?_
          first | refine g_add (by omega) (by omega) (fun t65 ht65 => ?_) | refine lv_topi (fun t65 ht65 => ?_)
          have hTo := hT
          refine pf6_5 hx hb hg hown hK hT (hT.k t_this (by decide)) rfl ⟨by omega, by omega⟩ (hg _ k127) dX3_pass_54 (fun H locs s66 hus66 hT => ?_)
          have e67 : zI s66 this 5 = t65 := zput_at hus66
          refine lv_goto (tgt := 8) hx hb dX3_pass_57 (by decide) ?_
          exact ih8 t65 _ _ _ _ hT e67 (by omega) (by omega) (by rw [show ix t65 = ix u + 1 from by unfold ix; omega, ← uscn_go (p := uisBl) (c := tc) (L := Ln) (a := ix u) (by omega) (uisBl_t.mpr (by omega))]; exact q3) hl (by omega)
        · have c16 := gi_ne c9
          refine lv_aload_n hx hb dX3_pass_33 rfl (lv_at hl 0 rfl) ?_
          refine va_get (D := κ.1) (ci := 3) (v := .ref (kR κ this 0)) (C := RX3) (T := TX3) (N := 8) hx hb hg inX3 hown hK (hT.o6 (hT.k t_this (by decide))).one 0 rfl rfl 0 (by decide) (hg _ k119) (fun _ h9 => h9) rfl dX3_pass_34 ?_
          rw [erB]
          refine lv_aload_n hx hb dX3_pass_37 rfl (lv_at hl 0 rfl) ?_
          refine va_get (D := κ.1) (ci := 3) (v := .int (zI s5 this 5)) (C := RX3) (T := TX3) (N := 8) hx hb hg inX3 hown hK (hT.o6 (hT.k t_this (by decide))).one 0 rfl rfl 5 (by decide) (hg _ k127) (fun _ h9 => h9) rfl dX3_pass_38 ?_
          rw [kthis_5]
          refine va_bald hx hb hK (hT.o14 (hT.k trB (by decide))).one 0 2 rfl rfl (g_in (by omega) (by omega)) dX3_pass_41 ?_
          refine lv_topi (fun t68 ht68 => ?_)
          have it68 : (ix u : Int) = u.toInt := by unfold ix; omega
          have xt68 : tc (ix u) = t68.toInt := by rw [hpc, ht68, show (ix u) = ix u from by first | rfl | (unfold ix; omega)]; exact congrArg Int32.toInt (hT.eI trB (by decide) rfl rfl).symm
          refine lv_bipush (v := 10) hx hb dX3_pass_42 (by decide) ?_
          refine lv_icmp_ne (tgt := 60) hx hb dX3_pass_44 (by decide) (fun c9 => ?_) (fun c9 => ?_)
          · have c17 := gi_ne c9
            have hs9 : uscn uisBl tc Ln (ix u) = ix u := uscn_no (fun q9 => by have q8 := uisBl_t.mp q9.2; have q7 := q9.1; omega)
            obtain ⟨ss, hss⟩ : ∃ z, uscn uisBl tc Ln aa = z := ⟨_, rfl⟩
            have hsu : u.toInt = (ss : Nat) := by omega
            have hsi : ix u = ss := by omega
            have hsL : ss ≤ Ln := by omega
            refine lv_aload_n hx hb dX3_pass_60 rfl (lv_at hl 0 rfl) ?_
            refine lv_aload_n hx hb dX3_pass_61 rfl (lv_at hl 0 rfl) ?_
            refine va_get (D := κ.1) (ci := 3) (v := .int (zI s5 this 5)) (C := RX3) (T := TX3) (N := 8) hx hb hg inX3 hown hK (hT.o6 (hT.k t_this (by decide))).one 0 rfl rfl 5 (by decide) (hg _ k127) (fun _ h9 => h9) rfl dX3_pass_62 ?_
            rw [kthis_5]
            have hTo := hT
            refine pf6_6 hx hb hg hown hK hT (hT.k t_this (by decide)) rfl ⟨by omega, by omega⟩ (hg _ k128) dX3_pass_65 (fun H locs s69 hus69 hT => ?_)
            have kthis_5 : zI s69 this 5 = u := (zput_o hus69 (Or.inr (by decide))).trans kthis_5
            have e70 : zI s69 this 6 = u := zput_at hus69
            refine lv_aload_n hx hb dX3_pass_68 rfl (lv_at hl 0 rfl) ?_
            refine va_get (D := κ.1) (ci := 3) (v := .int (zI s69 this 5)) (C := RX3) (T := TX3) (N := 8) hx hb hg inX3 hown hK (hT.o6 (hT.k t_this (by decide))).one 0 rfl rfl 5 (by decide) (hg _ k127) (fun _ h9 => h9) rfl dX3_pass_69 ?_
            rw [kthis_5]
            refine lv_aload_n hx hb dX3_pass_72 rfl (lv_at hl 0 rfl) ?_
            refine va_get (D := κ.1) (ci := 3) (v := .int (zI s69 this 1)) (C := RX3) (T := TX3) (N := 8) hx hb hg inX3 hown hK (hT.o6 (hT.k t_this (by decide))).one 0 rfl rfl 1 (by decide) (hg _ k120) (fun _ h9 => h9) rfl dX3_pass_73 ?_
            rw [(hT.eI t_this (by decide) rfl ev7)]
            refine lv_icmp_lt (tgt := 87) hx hb dX3_pass_76 (by decide) (fun c9 => ?_) (fun c9 => ?_)
            · have c18 := gi_lt c9
              refine lv_aload_n hx hb dX3_pass_87 rfl (lv_at hl 0 rfl) ?_
              refine va_get (D := κ.1) (ci := 3) (v := .ref (kR κ this 0)) (C := RX3) (T := TX3) (N := 8) hx hb hg inX3 hown hK (hT.o6 (hT.k t_this (by decide))).one 0 rfl rfl 0 (by decide) (hg _ k119) (fun _ h9 => h9) rfl dX3_pass_88 ?_
              rw [erB]
              refine lv_aload_n hx hb dX3_pass_91 rfl (lv_at hl 0 rfl) ?_
              refine va_get (D := κ.1) (ci := 3) (v := .int (zI s69 this 5)) (C := RX3) (T := TX3) (N := 8) hx hb hg inX3 hown hK (hT.o6 (hT.k t_this (by decide))).one 0 rfl rfl 5 (by decide) (hg _ k127) (fun _ h9 => h9) rfl dX3_pass_92 ?_
              rw [kthis_5]
              refine va_bald hx hb hK (hT.o14 (hT.k trB (by decide))).one 0 2 rfl rfl (g_in (by omega) (by omega)) dX3_pass_95 ?_
              refine lv_topi (fun t71 ht71 => ?_)
              have xt71 : tc ss = t71.toInt := by rw [hpc, ht71, show ss = ix u from by first | rfl | (unfold ix; omega)]; exact congrArg Int32.toInt (hT.eI trB (by decide) rfl rfl).symm
              have hTo := hT
              refine tSi (n := 1) (As := [.int t71]) (rest := []) hx hb hml hown hg hT hK hX (X3s_isLetter l κ s69 t71   ) sub_fE_fP (mwS k701 k702 k85 k703) ⟨rfl, by decide, by decide, by decide +kernel⟩ ⟨(Nat.le_of_ble_eq_true rfl), (Nat.le_of_ble_eq_true rfl)⟩ rfl hl.1 rfl (Nat.le_of_ble_eq_true rfl) dX3_pass_96 zroom.rf (fun x72 s73 H locs hφ hEs73 hT => ?_)
              have kthis_5 : zI s73 this 5 = u := ((hTo.k t_this (by decide)).eI hEs73 (by decide) rfl).trans kthis_5
              have e70 : zI s73 this 6 = u := ((hTo.k t_this (by decide)).eI hEs73 (by decide) rfl).trans e70
              obtain ⟨f74, f75⟩ := hφ
              refine lv_if_eq (tgt := 114) hx hb dX3_pass_99 (by decide) (fun c9 => ?_) (fun c9 => ?_)
              · have c19 := gi_eq c9
                refine lv_aload_n hx hb dX3_pass_114 rfl (lv_at hl 0 rfl) ?_
                refine va_get (D := κ.1) (ci := 3) (v := .ref (kR κ this 0)) (C := RX3) (T := TX3) (N := 8) hx hb hg inX3 hown hK (hT.o6 (hT.k t_this (by decide))).one 0 rfl rfl 0 (by decide) (hg _ k119) (fun _ h9 => h9) rfl dX3_pass_115 ?_
                rw [erB]
                refine lv_aload_n hx hb dX3_pass_118 rfl (lv_at hl 0 rfl) ?_
                refine va_get (D := κ.1) (ci := 3) (v := .int (zI s73 this 5)) (C := RX3) (T := TX3) (N := 8) hx hb hg inX3 hown hK (hT.o6 (hT.k t_this (by decide))).one 0 rfl rfl 5 (by decide) (hg _ k127) (fun _ h9 => h9) rfl dX3_pass_119 ?_
                rw [kthis_5]
                refine va_bald hx hb hK (hT.o14 (hT.k trB (by decide))).one 0 2 rfl rfl (g_in (by omega) (by omega)) dX3_pass_122 ?_
                refine lv_topi (fun t76 ht76 => ?_)
                have xt76 : tc ss = t76.toInt := by rw [hpc, ht76, show ss = ix u from by first | rfl | (unfold ix; omega)]; exact congrArg Int32.toInt (hT.eI trB (by decide) rfl rfl).symm
                have hTo := hT
                refine tSi (n := 1) (As := [.int t76]) (rest := []) hx hb hml hown hg hT hK hX (X3s_isDigit l κ s73 t76   ) sub_fE_fP (mwS k708 k709 k85 k710) ⟨rfl, by decide, by decide, by decide +kernel⟩ ⟨(Nat.le_of_ble_eq_true rfl), (Nat.le_of_ble_eq_true rfl)⟩ rfl hl.1 rfl (Nat.le_of_ble_eq_true rfl) dX3_pass_123 zroom.rf (fun x77 s78 H locs hφ hEs78 hT => ?_)
                have kthis_5 : zI s78 this 5 = u := ((hTo.k t_this (by decide)).eI hEs78 (by decide) rfl).trans kthis_5
                have e70 : zI s78 this 6 = u := ((hTo.k t_this (by decide)).eI hEs78 (by decide) rfl).trans e70
                obtain ⟨f79, f80⟩ := hφ
                refine lv_if_eq (tgt := 158) hx hb dX3_pass_126 (by decide) (fun c9 => ?_) (fun c9 => ?_)
                · have c20 := gi_eq c9
                  refine lv_aload_n hx hb dX3_pass_158 rfl (lv_at hl 0 rfl) ?_
                  refine lv_aload_n hx hb dX3_pass_159 rfl (lv_at hl 0 rfl) ?_
                  refine va_get (D := κ.1) (ci := 3) (v := .ref (kR κ this 0)) (C := RX3) (T := TX3) (N := 8) hx hb hg inX3 hown hK (hT.o6 (hT.k t_this (by decide))).one 0 rfl rfl 0 (by decide) (hg _ k119) (fun _ h9 => h9) rfl dX3_pass_160 ?_
                  rw [erB]
                  refine lv_aload_n hx hb dX3_pass_163 rfl (lv_at hl 0 rfl) ?_
                  refine va_get (D := κ.1) (ci := 3) (v := .int (zI s78 this 5)) (C := RX3) (T := TX3) (N := 8) hx hb hg inX3 hown hK (hT.o6 (hT.k t_this (by decide))).one 0 rfl rfl 5 (by decide) (hg _ k127) (fun _ h9 => h9) rfl dX3_pass_164 ?_
                  rw [kthis_5]
                  refine va_bald hx hb hK (hT.o14 (hT.k trB (by decide))).one 0 2 rfl rfl (g_in (by omega) (by omega)) dX3_pass_167 ?_
                  refine lv_topi (fun t81 ht81 => ?_)
                  have xt81 : tc ss = t81.toInt := by rw [hpc, ht81, show ss = ix u from by first | rfl | (unfold ix; omega)]; exact congrArg Int32.toInt (hT.eI trB (by decide) rfl rfl).symm
                  refine lv_bipush (v := 59) hx hb dX3_pass_168 (by decide) ?_
                  refine lv_icmp_ne (tgt := 177) hx hb dX3_pass_170 (by decide) (fun c9 => ?_) (fun c9 => ?_)
                  · have c21 := gi_ne c9
                    refine lv_aload_n hx hb dX3_pass_177 rfl (lv_at hl 0 rfl) ?_
                    refine va_get (D := κ.1) (ci := 3) (v := .ref (kR κ this 0)) (C := RX3) (T := TX3) (N := 8) hx hb hg inX3 hown hK (hT.o6 (hT.k t_this (by decide))).one 0 rfl rfl 0 (by decide) (hg _ k119) (fun _ h9 => h9) rfl dX3_pass_178 ?_
                    rw [erB]
                    refine lv_aload_n hx hb dX3_pass_181 rfl (lv_at hl 0 rfl) ?_
                    refine va_get (D := κ.1) (ci := 3) (v := .int (zI s78 this 5)) (C := RX3) (T := TX3) (N := 8) hx hb hg inX3 hown hK (hT.o6 (hT.k t_this (by decide))).one 0 rfl rfl 5 (by decide) (hg _ k127) (fun _ h9 => h9) rfl dX3_pass_182 ?_
                    rw [kthis_5]
                    refine va_bald hx hb hK (hT.o14 (hT.k trB (by decide))).one 0 2 rfl rfl (g_in (by omega) (by omega)) dX3_pass_185 ?_
                    refine lv_topi (fun t82 ht82 => ?_)
                    have xt82 : tc ss = t82.toInt := by rw [hpc, ht82, show ss = ix u from by first | rfl | (unfold ix; omega)]; exact congrArg Int32.toInt (hT.eI trB (by decide) rfl rfl).symm
                    refine lv_bipush (v := 45) hx hb dX3_pass_186 (by decide) ?_
                    refine lv_icmp_ne (tgt := 195) hx hb dX3_pass_188 (by decide) (fun c9 => ?_) (fun c9 => ?_)
                    · have c22 := gi_ne c9
                      refine lv_iconst (v := 5) hx hb dX3_pass_195 (by decide) ?_
                      have hTo := hT
                      refine pf6_4 hx hb hg hown hK hT (hT.k t_this (by decide)) rfl (hg _ k126) dX3_pass_196 (fun H locs s83 hus83 hT => ?_)
                      have kthis_5 : zI s83 this 5 = u := (zput_o hus83 (Or.inr (by decide))).trans kthis_5
                      have e70 : zI s83 this 6 = u := (zput_o hus83 (Or.inr (by decide))).trans e70
                      have e84 : zI s83 this 4 = 5 := zput_at hus83
                      refine lv_aload_n hx hb dX3_pass_199 rfl (lv_at hl 0 rfl) ?_
                      refine lv_dup hx hb dX3_pass_200 rfl ?_
                      refine va_get (D := κ.1) (ci := 3) (v := .int (zI s83 this 6)) (C := RX3) (T := TX3) (N := 8) hx hb hg inX3 hown hK (hT.o6 (hT.k t_this (by decide))).one 0 rfl rfl 6 (by decide) (hg _ k128) (fun _ h9 => h9) rfl dX3_pass_201 ?_
                      rw [e70]
                      refine lv_iconst (v := 1) hx hb dX3_pass_204 (by decide) ?_
                      refine lv_iadd hx hb dX3_pass_205 ?_
                      first | refine g_add (by omega) (by omega) (fun t85 ht85 => ?_) | refine lv_topi (fun t85 ht85 => ?_)
                      have hTo := hT
                      refine pf6_6 hx hb hg hown hK hT (hT.k t_this (by decide)) rfl ⟨by omega, by omega⟩ (hg _ k128) dX3_pass_206 (fun H locs s86 hus86 hT => ?_)
                      have kthis_5 : zI s86 this 5 = u := (zput_o hus86 (Or.inr (by decide))).trans kthis_5
                      have e84 : zI s86 this 4 = 5 := (zput_o hus86 (Or.inr (by decide))).trans e84
                      have e87 : zI s86 this 6 = t85 := zput_at hus86
                      refine lv_iconst (v := 1) hx hb dX3_pass_209 (by decide) ?_
                      obtain ⟨v88, ev88⟩ : ∃ zz9 : Int32, zI s86 this 7 = zz9 := ⟨_, rfl⟩
                      have qv88 : v88.toInt = (zI s86 this 7).toInt := by rw [ev88]
                      subst hQ9
                      exact t_z hx hb hr isB1 hlocks hT ⟨n1, by rw [hss]; unfold TKc; rw [(show zI s86 this 4 = 5 from e84), (show zI s86 this 5 = u from kthis_5), (show zI s86 this 6 = t85 from e87), (show zI s86 this 7 = v88 from ev88)]; first | exact TKv_other (by omega) (by omega) (by omega) (by omega) (by omega) (by omega) (by omega) | (exfalso; omega), isB1⟩ dX3_pass_210
                    · have c23 := gi_eq c9
                      refine lv_iconst (v := 4) hx hb dX3_pass_191 (by decide) ?_
                      refine lv_goto (tgt := 196) hx hb dX3_pass_192 (by decide) ?_
                      have hTo := hT
                      refine pf6_4 hx hb hg hown hK hT (hT.k t_this (by decide)) rfl (hg _ k126) dX3_pass_196 (fun H locs s89 hus89 hT => ?_)
                      have kthis_5 : zI s89 this 5 = u := (zput_o hus89 (Or.inr (by decide))).trans kthis_5
                      have e70 : zI s89 this 6 = u := (zput_o hus89 (Or.inr (by decide))).trans e70
                      have e90 : zI s89 this 4 = 4 := zput_at hus89
                      refine lv_aload_n hx hb dX3_pass_199 rfl (lv_at hl 0 rfl) ?_
                      refine lv_dup hx hb dX3_pass_200 rfl ?_
                      refine va_get (D := κ.1) (ci := 3) (v := .int (zI s89 this 6)) (C := RX3) (T := TX3) (N := 8) hx hb hg inX3 hown hK (hT.o6 (hT.k t_this (by decide))).one 0 rfl rfl 6 (by decide) (hg _ k128) (fun _ h9 => h9) rfl dX3_pass_201 ?_
                      rw [e70]
                      refine lv_iconst (v := 1) hx hb dX3_pass_204 (by decide) ?_
                      refine lv_iadd hx hb dX3_pass_205 ?_
                      first | refine g_add (by omega) (by omega) (fun t91 ht91 => ?_) | refine lv_topi (fun t91 ht91 => ?_)
                      have hTo := hT
                      refine pf6_6 hx hb hg hown hK hT (hT.k t_this (by decide)) rfl ⟨by omega, by omega⟩ (hg _ k128) dX3_pass_206 (fun H locs s92 hus92 hT => ?_)
                      have kthis_5 : zI s92 this 5 = u := (zput_o hus92 (Or.inr (by decide))).trans kthis_5
                      have e90 : zI s92 this 4 = 4 := (zput_o hus92 (Or.inr (by decide))).trans e90
                      have e93 : zI s92 this 6 = t91 := zput_at hus92
                      refine lv_iconst (v := 1) hx hb dX3_pass_209 (by decide) ?_
                      obtain ⟨v94, ev94⟩ : ∃ zz9 : Int32, zI s92 this 7 = zz9 := ⟨_, rfl⟩
                      have qv94 : v94.toInt = (zI s92 this 7).toInt := by rw [ev94]
                      subst hQ9
                      exact t_z hx hb hr isB1 hlocks hT ⟨n1, by rw [hss]; unfold TKc; rw [(show zI s92 this 4 = 4 from e90), (show zI s92 this 5 = u from kthis_5), (show zI s92 this 6 = t91 from e93), (show zI s92 this 7 = v94 from ev94)]; first | exact TKv_minus (by omega) (by omega) (by omega) (by omega) | (exfalso; omega), isB1⟩ dX3_pass_210
                  · have c24 := gi_eq c9
                    refine lv_iconst (v := 3) hx hb dX3_pass_173 (by decide) ?_
                    refine lv_goto (tgt := 196) hx hb dX3_pass_174 (by decide) ?_
                    have hTo := hT
                    refine pf6_4 hx hb hg hown hK hT (hT.k t_this (by decide)) rfl (hg _ k126) dX3_pass_196 (fun H locs s95 hus95 hT => ?_)
                    have kthis_5 : zI s95 this 5 = u := (zput_o hus95 (Or.inr (by decide))).trans kthis_5
                    have e70 : zI s95 this 6 = u := (zput_o hus95 (Or.inr (by decide))).trans e70
                    have e96 : zI s95 this 4 = 3 := zput_at hus95
                    refine lv_aload_n hx hb dX3_pass_199 rfl (lv_at hl 0 rfl) ?_
                    refine lv_dup hx hb dX3_pass_200 rfl ?_
                    refine va_get (D := κ.1) (ci := 3) (v := .int (zI s95 this 6)) (C := RX3) (T := TX3) (N := 8) hx hb hg inX3 hown hK (hT.o6 (hT.k t_this (by decide))).one 0 rfl rfl 6 (by decide) (hg _ k128) (fun _ h9 => h9) rfl dX3_pass_201 ?_
                    rw [e70]
                    refine lv_iconst (v := 1) hx hb dX3_pass_204 (by decide) ?_
                    refine lv_iadd hx hb dX3_pass_205 ?_
                    first | refine g_add (by omega) (by omega) (fun t97 ht97 => ?_) | refine lv_topi (fun t97 ht97 => ?_)
                    have hTo := hT
                    refine pf6_6 hx hb hg hown hK hT (hT.k t_this (by decide)) rfl ⟨by omega, by omega⟩ (hg _ k128) dX3_pass_206 (fun H locs s98 hus98 hT => ?_)
                    have kthis_5 : zI s98 this 5 = u := (zput_o hus98 (Or.inr (by decide))).trans kthis_5
                    have e96 : zI s98 this 4 = 3 := (zput_o hus98 (Or.inr (by decide))).trans e96
                    have e99 : zI s98 this 6 = t97 := zput_at hus98
                    refine lv_iconst (v := 1) hx hb dX3_pass_209 (by decide) ?_
                    obtain ⟨v100, ev100⟩ : ∃ zz9 : Int32, zI s98 this 7 = zz9 := ⟨_, rfl⟩
                    have qv100 : v100.toInt = (zI s98 this 7).toInt := by rw [ev100]
                    subst hQ9
                    exact t_z hx hb hr isB1 hlocks hT ⟨n1, by rw [hss]; unfold TKc; rw [(show zI s98 this 4 = 3 from e96), (show zI s98 this 5 = u from kthis_5), (show zI s98 this 6 = t97 from e99), (show zI s98 this 7 = v100 from ev100)]; first | exact TKv_semi (by omega) (by omega) (by omega) (by omega) | (exfalso; omega), isB1⟩ dX3_pass_210
                · have c25 := gi_ne c9
                  refine lv_aload_n hx hb dX3_pass_129 rfl (lv_at hl 0 rfl) ?_
                  have hTo := hT
                  refine tVv (n := 0) (As := []) (rest := []) hx hb hml hown hg hT hK hX (X3s_passDigits l κ s78 this  (hT.k t_this (by decide)) (h0.tr (funext fun k => by rw [erB]; exact hT.eI trB (by decide) rfl rfl) (hT.eI t_this (by decide) rfl rfl)) (show (zI s78 this 6).toInt = (ss : Nat) from by rw [(show zI s78 this 6 = u from e70)]; omega) (by omega)) sub_fE67_fP (mwV k711 k713 k19 k85 k714) ⟨rfl, by decide, by decide, by decide +kernel⟩ ⟨(Nat.le_of_ble_eq_true rfl), (Nat.le_of_ble_eq_true rfl)⟩ (hT.o6 (hT.k t_this (by decide))) rfl rfl hl.1 rfl (Nat.le_of_ble_eq_true rfl) dX3_pass_130 zroom.rf (fun s102 H locs hφ hEs102 hT => ?_)
                  have kthis_5 : zI s102 this 5 = u := ((hTo.k t_this (by decide)).eI hEs102 (by decide) rfl).trans kthis_5
                  obtain ⟨f103, f104⟩ := hφ
                  obtain ⟨v105, ev105⟩ : ∃ zz9 : Int32, zI s102 this 6 = zz9 := ⟨_, rfl⟩
                  have qv105 : v105.toInt = (zI s102 this 6).toInt := by rw [ev105]
                  have b106 := (hT.P (hT.k t_this (by decide)) (by decide)).2.2
                  rw [ev105] at b106
                  have b106l := b106.1
                  have b106h := b106.2
                  rw [(show zI s102 this 6 = v105 from ev105)] at f103
                  obtain ⟨v107, ev107⟩ : ∃ zz9 : Int32, zI s102 this 7 = zz9 := ⟨_, rfl⟩
                  have qv107 : v107.toInt = (zI s102 this 7).toInt := by rw [ev107]
                  rw [(show zI s102 this 7 = v107 from ev107)] at f104
                  refine lv_aload_n hx hb dX3_pass_133 rfl (lv_at hl 0 rfl) ?_
                  refine lv_aload_n hx hb dX3_pass_134 rfl (lv_at hl 0 rfl) ?_
                  refine va_get (D := κ.1) (ci := 3) (v := .int (zI s102 this 6)) (C := RX3) (T := TX3) (N := 8) hx hb hg inX3 hown hK (hT.o6 (hT.k t_this (by decide))).one 0 rfl rfl 6 (by decide) (hg _ k128) (fun _ h9 => h9) rfl dX3_pass_135 ?_
                  rw [ev105]
                  refine lv_aload_n hx hb dX3_pass_138 rfl (lv_at hl 0 rfl) ?_
                  refine va_get (D := κ.1) (ci := 3) (v := .int (zI s102 this 5)) (C := RX3) (T := TX3) (N := 8) hx hb hg inX3 hown hK (hT.o6 (hT.k t_this (by decide))).one 0 rfl rfl 5 (by decide) (hg _ k127) (fun _ h9 => h9) rfl dX3_pass_139 ?_
                  rw [kthis_5]
                  refine lv_isub hx hb dX3_pass_142 ?_
                  first | refine g_sub (by omega) (by omega) (fun t108 ht108 => ?_) | refine lv_topi (fun t108 ht108 => ?_)
                  refine lv_iconst (v := 4) hx hb dX3_pass_143 (by decide) ?_
                  refine lv_icmp_gt (tgt := 151) hx hb dX3_pass_144 (by decide) (fun c9 => ?_) (fun c9 => ?_)
                  · have c26 := gi_lt c9
                    refine lv_iconst (v := 5) hx hb dX3_pass_151 (by decide) ?_
                    have hTo := hT
                    refine pf6_4 hx hb hg hown hK hT (hT.k t_this (by decide)) rfl (hg _ k126) dX3_pass_152 (fun H locs s109 hus109 hT => ?_)
                    have kthis_5 : zI s109 this 5 = u := (zput_o hus109 (Or.inr (by decide))).trans kthis_5
                    have ev105 : zI s109 this 6 = v105 := (zput_o hus109 (Or.inr (by decide))).trans ev105
                    have ev107 : zI s109 this 7 = v107 := (zput_o hus109 (Or.inr (by decide))).trans ev107
                    have e110 : zI s109 this 4 = 5 := zput_at hus109
                    refine lv_goto (tgt := 209) hx hb dX3_pass_155 (by decide) ?_
                    refine lv_iconst (v := 1) hx hb dX3_pass_209 (by decide) ?_
                    subst hQ9
                    exact t_z hx hb hr isB1 hlocks hT ⟨n1, by rw [hss]; unfold TKc; rw [(show zI s109 this 4 = 5 from e110), (show zI s109 this 5 = u from kthis_5), (show zI s109 this 6 = v105 from ev105), (show zI s109 this 7 = v107 from ev107)]; first | exact TKv_long (by omega) (by omega) (by omega) (by omega) (by omega) (by omega) | (exfalso; omega), isB1⟩ dX3_pass_210
                  · have c27 := gi_nlt c9
                    refine lv_iconst (v := 2) hx hb dX3_pass_147 (by decide) ?_
                    refine lv_goto (tgt := 152) hx hb dX3_pass_148 (by decide) ?_
                    have hTo := hT
                    refine pf6_4 hx hb hg hown hK hT (hT.k t_this (by decide)) rfl (hg _ k126) dX3_pass_152 (fun H locs s111 hus111 hT => ?_)
                    have kthis_5 : zI s111 this 5 = u := (zput_o hus111 (Or.inr (by decide))).trans kthis_5
                    have ev105 : zI s111 this 6 = v105 := (zput_o hus111 (Or.inr (by decide))).trans ev105
                    have ev107 : zI s111 this 7 = v107 := (zput_o hus111 (Or.inr (by decide))).trans ev107
                    have e112 : zI s111 this 4 = 2 := zput_at hus111
                    refine lv_goto (tgt := 209) hx hb dX3_pass_155 (by decide) ?_
                    refine lv_iconst (v := 1) hx hb dX3_pass_209 (by decide) ?_
                    subst hQ9
                    exact t_z hx hb hr isB1 hlocks hT ⟨n1, by rw [hss]; unfold TKc; rw [(show zI s111 this 4 = 2 from e112), (show zI s111 this 5 = u from kthis_5), (show zI s111 this 6 = v105 from ev105), (show zI s111 this 7 = v107 from ev107)]; first | exact TKv_num (by omega) (by omega) (by omega) (by omega) (by omega) (by omega) (by rw [f104 (by omega)]) | (exfalso; omega), isB1⟩ dX3_pass_210
              · have c28 := gi_ne c9
                refine lv_aload_n hx hb dX3_pass_102 rfl (lv_at hl 0 rfl) ?_
                refine lv_iconst (v := 1) hx hb dX3_pass_103 (by decide) ?_
                have hTo := hT
                refine pf6_4 hx hb hg hown hK hT (hT.k t_this (by decide)) rfl (hg _ k126) dX3_pass_104 (fun H locs s113 hus113 hT => ?_)
                have kthis_5 : zI s113 this 5 = u := (zput_o hus113 (Or.inr (by decide))).trans kthis_5
                have e70 : zI s113 this 6 = u := (zput_o hus113 (Or.inr (by decide))).trans e70
                have e114 : zI s113 this 4 = 1 := zput_at hus113
                refine lv_aload_n hx hb dX3_pass_107 rfl (lv_at hl 0 rfl) ?_
                have hTo := hT
                refine tVv (n := 0) (As := []) (rest := []) hx hb hml hown hg hT hK hX (X3s_passLetters l κ s113 this  (hT.k t_this (by decide)) (h0.tr (funext fun k => by rw [erB]; exact hT.eI trB (by decide) rfl rfl) (hT.eI t_this (by decide) rfl rfl)) (show (zI s113 this 6).toInt = (ss : Nat) from by rw [(show zI s113 this 6 = u from e70)]; omega) (by omega)) sub_fE6_fP (mwV k704 k706 k18 k85 k707) ⟨rfl, by decide, by decide, by decide +kernel⟩ ⟨(Nat.le_of_ble_eq_true rfl), (Nat.le_of_ble_eq_true rfl)⟩ (hT.o6 (hT.k t_this (by decide))) rfl rfl hl.1 rfl (Nat.le_of_ble_eq_true rfl) dX3_pass_108 zroom.rf (fun s116 H locs hφ hEs116 hT => ?_)
                have kthis_5 : zI s116 this 5 = u := ((hTo.k t_this (by decide)).eI hEs116 (by decide) rfl).trans kthis_5
                have e114 : zI s116 this 4 = 1 := ((hTo.k t_this (by decide)).eI hEs116 (by decide) rfl).trans e114
                have f117 := hφ
                obtain ⟨v118, ev118⟩ : ∃ zz9 : Int32, zI s116 this 6 = zz9 := ⟨_, rfl⟩
                have qv118 : v118.toInt = (zI s116 this 6).toInt := by rw [ev118]
                have b119 := (hT.P (hT.k t_this (by decide)) (by decide)).2.2
                rw [ev118] at b119
                have b119l := b119.1
                have b119h := b119.2
                rw [(show zI s116 this 6 = v118 from ev118)] at f117
                refine lv_goto (tgt := 209) hx hb dX3_pass_111 (by decide) ?_
                refine lv_iconst (v := 1) hx hb dX3_pass_209 (by decide) ?_
                obtain ⟨v120, ev120⟩ : ∃ zz9 : Int32, zI s116 this 7 = zz9 := ⟨_, rfl⟩
                have qv120 : v120.toInt = (zI s116 this 7).toInt := by rw [ev120]
                subst hQ9
                exact t_z hx hb hr isB1 hlocks hT ⟨n1, by rw [hss]; unfold TKc; rw [(show zI s116 this 4 = 1 from e114), (show zI s116 this 5 = u from kthis_5), (show zI s116 this 6 = v118 from ev118), (show zI s116 this 7 = v120 from ev120)]; first | exact TKv_word (by omega) (by omega) (by omega) (by omega) (by omega) | (exfalso; omega), isB1⟩ dX3_pass_210
            · have c29 := gi_nlt c9
              refine lv_aload_n hx hb dX3_pass_79 rfl (lv_at hl 0 rfl) ?_
              refine lv_iconst (v := 0) hx hb dX3_pass_80 (by decide) ?_
              have hTo := hT
              refine pf6_4 hx hb hg hown hK hT (hT.k t_this (by decide)) rfl (hg _ k126) dX3_pass_81 (fun H locs s121 hus121 hT => ?_)
              have kthis_5 : zI s121 this 5 = u := (zput_o hus121 (Or.inr (by decide))).trans kthis_5
              have e70 : zI s121 this 6 = u := (zput_o hus121 (Or.inr (by decide))).trans e70
              have e122 : zI s121 this 4 = 0 := zput_at hus121
              refine lv_goto (tgt := 209) hx hb dX3_pass_84 (by decide) ?_
              refine lv_iconst (v := 1) hx hb dX3_pass_209 (by decide) ?_
              obtain ⟨v123, ev123⟩ : ∃ zz9 : Int32, zI s121 this 7 = zz9 := ⟨_, rfl⟩
              have qv123 : v123.toInt = (zI s121 this 7).toInt := by rw [ev123]
              subst hQ9
              exact t_z hx hb hr isB1 hlocks hT ⟨n1, by rw [hss]; unfold TKc; rw [(show zI s121 this 4 = 0 from e122), (show zI s121 this 5 = u from kthis_5), (show zI s121 this 6 = u from e70), (show zI s121 this 7 = v123 from ev123)]; first | exact TKv_end (by omega) (by omega) (by omega) (by omega) | (exfalso; omega), isB1⟩ dX3_pass_210
          · have c30 := gi_eq c9
            refine lv_aload_n hx hb dX3_pass_47 rfl (lv_at hl 0 rfl) ?_
            refine lv_dup hx hb dX3_pass_48 rfl ?_
            refine va_get (D := κ.1) (ci := 3) (v := .int (zI s5 this 5)) (C := RX3) (T := TX3) (N := 8) hx hb hg inX3 hown hK (hT.o6 (hT.k t_this (by decide))).one 0 rfl rfl 5 (by decide) (hg _ k127) (fun _ h9 => h9) rfl dX3_pass_49 ?_
            rw [kthis_5]
            refine lv_iconst (v := 1) hx hb dX3_pass_52 (by decide) ?_
            refine lv_iadd hx hb dX3_pass_53 ?_
            first | refine g_add (by omega) (by omega) (fun t124 ht124 => ?_) | refine lv_topi (fun t124 ht124 => ?_)
            have hTo := hT
            refine pf6_5 hx hb hg hown hK hT (hT.k t_this (by decide)) rfl ⟨by omega, by omega⟩ (hg _ k127) dX3_pass_54 (fun H locs s125 hus125 hT => ?_)
            have e126 : zI s125 this 5 = t124 := zput_at hus125
            refine lv_goto (tgt := 8) hx hb dX3_pass_57 (by decide) ?_
            exact ih8 t124 _ _ _ _ hT e126 (by omega) (by omega) (by rw [show ix t124 = ix u + 1 from by unfold ix; omega, ← uscn_go (p := uisBl) (c := tc) (L := Ln) (a := ix u) (by omega) (uisBl_t.mpr (by omega))]; exact q3) hl (by omega)
  exact loop8 ((700 - v1.toInt).toNat + 1) v1 _ _ _ _ hT e4 (by omega) (by omega) (by rw [show ix v1 = aa from by unfold ix; omega]) hl (by omega)

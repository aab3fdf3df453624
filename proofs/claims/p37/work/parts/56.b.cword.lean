/-! What LiftingSignal reads: words, semicolons -/
theorem sub_fW23_fPe : ∀ t k, fPe t k = false → fW23 t k = false := by
  intro t k h
  simp [fW23, fPe] at h ⊢ <;> omega
set_option maxHeartbeats 4000000 in
set_option maxRecDepth 100000 in
theorem X3s_isWord (l : Launch) (κ : Kt) (σ0 : Gh) (this : Nat) (wi : Nat) {tc : Nat → Int} {Ln : Nat} {sp : Nat} (t_this : zk σ0 this 6) (h_wi : wi < 13) (h0 : TXc κ σ0 this tc Ln) (h1 : TKc σ0 this tc Ln sp) : TC l yX3_isWord cX3_isWord 3 (some .boolean) 4 85 [.ref this, .ref (kK κ wi)] κ σ0 (tqi κ fE σ0 (fun (r : Int32) (τ : Gh) => ((r.toInt = 1 ∧ uIsW tc Ln wi sp) ∨ (r.toInt = 0 ∧ ¬ uIsW tc Ln wi sp)) ∧ (isB r))) := by
  refine TC.of fE (by decide +kernel) (Nat.le_of_ble_eq_true rfl) ?_
  intro p e s m below meth c ls hcs hK hX hT hl
  obtain ⟨hx, hb, hr, hml, hown, hg, hlocks, hin⟩ := hcs
  have hown : s.vm.findClass RX3 = some m.cls := hown
  have hl : lv_has ls 3 [(0, .ref this), (1, .ref (kK κ wi))] := hl
  have hT0 := hT
  have n0 : (0 : Int32).toInt = 0 := by decide
  have n1 : (1 : Int32).toInt = 1 := by decide
  generalize hQ9 : tQ _ _ _ _ _ _ = Q9
  obtain ⟨rB, erB⟩ : ∃ z, kR κ this 0 = z := ⟨_, rfl⟩
  have trB : zk σ0 rB 14 := by rw [← erB]; exact hT0.ref t_this (by decide) (by decide) (by decide)
  have hpc : ∀ j, tc j = (zI σ0 rB j).toInt := by rw [← erB]; exact h0.1
  have hLn : (zI σ0 this 1).toInt = Ln := h0.2
  have bL := (hT0.P t_this (by decide)).1.2
  have hL7 : (Ln : Int) ≤ 700 := by omega
  have hwl := (wd_len wi h_wi).2
  obtain ⟨v1, ev1⟩ : ∃ zz9 : Int32, zI σ0 this 4 = zz9 := ⟨_, rfl⟩
  have qv1 : v1.toInt = (zI σ0 this 4).toInt := by rw [ev1]
  obtain ⟨v2, ev2⟩ : ∃ zz9 : Int32, zI σ0 this 5 = zz9 := ⟨_, rfl⟩
  have qv2 : v2.toInt = (zI σ0 this 5).toInt := by rw [ev2]
  have b3 := (hT.P (hT.k t_this (by decide)) (by decide)).2.1
  rw [(hT.eI t_this (by decide) rfl ev2)] at b3
  have b3l := b3.1
  have b3h := b3.2
  obtain ⟨v4, ev4⟩ : ∃ zz9 : Int32, zI σ0 this 6 = zz9 := ⟨_, rfl⟩
  have qv4 : v4.toInt = (zI σ0 this 6).toInt := by rw [ev4]
  have b5 := (hT.P (hT.k t_this (by decide)) (by decide)).2.2
  rw [(hT.eI t_this (by decide) rfl ev4)] at b5
  have b5l := b5.1
  have b5h := b5.2
  obtain ⟨v6, ev6⟩ : ∃ zz9 : Int32, zI σ0 this 7 = zz9 := ⟨_, rfl⟩
  have qv6 : v6.toInt = (zI σ0 this 7).toInt := by rw [ev6]
  have tk7 : TKv v1 v2 v4 v6 tc Ln sp := by have z9 := h1; unfold TKc at z9; rw [(show zI σ0 this 4 = v1 from (hT.eI t_this (by decide) rfl ev1)), (show zI σ0 this 5 = v2 from (hT.eI t_this (by decide) rfl ev2)), (show zI σ0 this 6 = v4 from (hT.eI t_this (by decide) rfl ev4)), (show zI σ0 this 7 = v6 from (hT.eI t_this (by decide) rfl ev6))] at z9; exact z9
  obtain ⟨tk74, tk75, tk76, tk77, tk78⟩ := id tk7
  have hwN : uwN wi = wdL.getD wi 0 := rfl
  refine lv_aload_n hx hb dX3_isWord_0 rfl (lv_at hl 0 rfl) ?_
  refine va_get (D := κ.1) (ci := 3) (v := .int (zI σ0 this 4)) (C := RX3) (T := TX3) (N := 8) hx hb hg inX3 hown hK (hT.o6 (hT.k t_this (by decide))).one 0 rfl rfl 4 (by decide) (hg _ k126) (fun _ h9 => h9) rfl dX3_isWord_1 ?_
  rw [(hT.eI t_this (by decide) rfl ev1)]
  refine lv_iconst (v := 1) hx hb dX3_isWord_4 (by decide) ?_
  refine lv_icmp_ne (tgt := 24) hx hb dX3_isWord_5 (by decide) (fun c9 => ?_) (fun c9 => ?_)
  · have c1 := gi_ne c9
    refine lv_iconst (v := 0) hx hb dX3_isWord_24 (by decide) ?_
    subst hQ9
    exact t_z hx hb hr isB0 hlocks hT ⟨Or.inr ⟨n0, fun q9 => by have z9 := uIsW_K h_wi q9; have z8 := utkE_word z9; have z7 := q9.1; omega⟩, isB0⟩ dX3_isWord_25
  · have c2 := gi_eq c9
    refine lv_aload_n hx hb dX3_isWord_8 rfl (lv_at hl 0 rfl) ?_
    refine va_get (D := κ.1) (ci := 3) (v := .int (zI σ0 this 6)) (C := RX3) (T := TX3) (N := 8) hx hb hg inX3 hown hK (hT.o6 (hT.k t_this (by decide))).one 0 rfl rfl 6 (by decide) (hg _ k128) (fun _ h9 => h9) rfl dX3_isWord_9 ?_
    rw [(hT.eI t_this (by decide) rfl ev4)]
    refine lv_aload_n hx hb dX3_isWord_12 rfl (lv_at hl 0 rfl) ?_
    refine va_get (D := κ.1) (ci := 3) (v := .int (zI σ0 this 5)) (C := RX3) (T := TX3) (N := 8) hx hb hg inX3 hown hK (hT.o6 (hT.k t_this (by decide))).one 0 rfl rfl 5 (by decide) (hg _ k127) (fun _ h9 => h9) rfl dX3_isWord_13 ?_
    rw [(hT.eI t_this (by decide) rfl ev2)]
    refine lv_isub hx hb dX3_isWord_16 ?_
    first | refine g_sub (by omega) (by omega) (fun t8 ht8 => ?_) | refine lv_topi (fun t8 ht8 => ?_)
    refine lv_aload_n hx hb dX3_isWord_17 rfl (lv_at hl 1 rfl) ?_
    have hTo := hT
    refine tKi (n := 0) (As := []) (rest := [.int t8]) hx hb hml hown hg hT hK hX (J_length l κ σ0 wi h_wi  ) (fun _ _ h => h) (mwV k728 k729 k730 k97 k731) ⟨rfl, by decide, by decide, by decide +kernel⟩ ⟨(Nat.le_of_ble_eq_true rfl), (Nat.le_of_ble_eq_true rfl)⟩ (vk_recv hX.2.1 h_wi hT.2.2.2) rfl hl.1 rfl (Nat.le_of_ble_eq_true rfl) dX3_isWord_18 zroom.rf (fun x10 s9 H locs hx10 hEs9 hT => ?_)
    refine lv_icmp_eq (tgt := 26) hx hb dX3_isWord_21 (by decide) (fun c9 => ?_) (fun c9 => ?_)
    · have c3 := gi_eq c9
      have hwE : uscn uisLe tc Ln sp = sp + uwN wi := by have z9 := utkE_word (c := tc) (L := Ln) (s := sp) (by omega); omega
      refine lv_iconst (v := 0) hx hb dX3_isWord_26 (by decide) ?_
      refine lv_istore_n (lv' := [(2, .int 0), (0, .ref this), (1, .ref (kK κ wi))]) hx hb dX3_isWord_27 rfl hl (by decide) rfl (fun ls hl => ?_)
      have loop28 : ∀ (n9 : Nat) (i : Int32) (H : Heap) (locs : List Loc) (sg : Gh) (ls : Array Slot), TS κ fE σ0 sg s H locs → (0 ≤ i.toInt) → (i.toInt ≤ wdL.getD wi 0) → (∀ k, k < ix i → tc (sp + k) = uwBy wi k) → lv_has ls 3 [(2, .int i), (0, .ref this), (1, .ref (kK κ wi))] → ((wdL.getD wi 0 : Int) - i.toInt) < n9 → tW p l e 4 85 κ s m #[.ref this, .ref (kK κ wi)] below meth c H locs Q9 (F0 m 28 ls []) := by
        intro n9
        induction n9 with
        | zero =>
          intro i H locs sg ls hT q1 q2 q3 hl hm9
          exfalso
          omega
        | succ n9 ih9 =>
          have ih28 := ih9
          clear ih9
          intro i H locs s11 ls hT q1 q2 q3 hl hm9
          have i_i : (ix i : Int) = i.toInt := by unfold ix; omega
          refine lv_iload_n hx hb dX3_isWord_28 rfl (lv_at hl 0 rfl) ?_
          refine lv_aload_n hx hb dX3_isWord_29 rfl (lv_at hl 2 rfl) ?_
          have hTo := hT
          refine tKi (n := 0) (As := []) (rest := [.int i]) hx hb hml hown hg hT hK hX (J_length l κ s11 wi h_wi  ) (fun _ _ h => h) (mwV k728 k729 k730 k97 k731) ⟨rfl, by decide, by decide, by decide +kernel⟩ ⟨(Nat.le_of_ble_eq_true rfl), (Nat.le_of_ble_eq_true rfl)⟩ (vk_recv hX.2.1 h_wi hT.2.2.2) rfl hl.1 rfl (Nat.le_of_ble_eq_true rfl) dX3_isWord_30 zroom.rf (fun x13 s12 H locs hx13 hEs12 hT => ?_)
          refine lv_icmp_ge (tgt := 63) hx hb dX3_isWord_33 (by decide) (fun c9 => ?_) (fun c9 => ?_)
          · have c4 := gi_le c9
            refine lv_iconst (v := 1) hx hb dX3_isWord_63 (by decide) ?_
            subst hQ9
            exact t_z hx hb hr isB1 hlocks hT ⟨Or.inl ⟨n1, hwE, fun k hk => q3 k (by omega)⟩, isB1⟩ dX3_isWord_64
          · have c5 := gi_nle c9
            refine lv_aload_n hx hb dX3_isWord_36 rfl (lv_at hl 1 rfl) ?_
            refine va_get (D := κ.1) (ci := 3) (v := .ref (kR κ this 0)) (C := RX3) (T := TX3) (N := 8) hx hb hg inX3 hown hK (hT.o6 (hT.k t_this (by decide))).one 0 rfl rfl 0 (by decide) (hg _ k119) (fun _ h9 => h9) rfl dX3_isWord_37 ?_
            rw [erB]
            refine lv_aload_n hx hb dX3_isWord_40 rfl (lv_at hl 1 rfl) ?_
            refine va_get (D := κ.1) (ci := 3) (v := .int (zI s12 this 5)) (C := RX3) (T := TX3) (N := 8) hx hb hg inX3 hown hK (hT.o6 (hT.k t_this (by decide))).one 0 rfl rfl 5 (by decide) (hg _ k127) (fun _ h9 => h9) rfl dX3_isWord_41 ?_
            rw [(hT.eI t_this (by decide) rfl ev2)]
            refine lv_iload_n hx hb dX3_isWord_44 rfl (lv_at hl 0 rfl) ?_
            refine lv_iadd hx hb dX3_isWord_45 ?_
            first | refine g_add (by omega) (by omega) (fun t14 ht14 => ?_) | refine lv_topi (fun t14 ht14 => ?_)
            refine va_bald hx hb hK (hT.o14 (hT.k trB (by decide))).one 0 2 rfl rfl (g_in (by omega) (by omega)) dX3_isWord_46 ?_
            refine lv_topi (fun t15 ht15 => ?_)
            have xt15 : tc (sp + ix i) = t15.toInt := by rw [hpc, ht15, show (sp + ix i) = ix t14 from by first | rfl | (unfold ix; omega)]; exact congrArg Int32.toInt (hT.eI trB (by decide) rfl rfl).symm
            refine lv_aload_n hx hb dX3_isWord_47 rfl (lv_at hl 2 rfl) ?_
            refine lv_iload_n hx hb dX3_isWord_48 rfl (lv_at hl 0 rfl) ?_
            have hTo := hT
            refine tKi (n := 1) (As := [.int i]) (rest := [.int t15]) hx hb hml hown hg hT hK hX (J_charAt l κ s12 wi h_wi i (by omega) (by omega)) (fun _ _ h => h) (mwV k738 k739 k740 k97 k741) ⟨rfl, by decide, by decide, by decide +kernel⟩ ⟨(Nat.le_of_ble_eq_true rfl), (Nat.le_of_ble_eq_true rfl)⟩ (vk_recv hX.2.1 h_wi hT.2.2.2) rfl hl.1 rfl (Nat.le_of_ble_eq_true rfl) dX3_isWord_49 zroom.rf (fun x17 s16 H locs hx17 hEs16 hT => ?_)
            have y9 : x17.toInt = uwBy wi (ix i) := by rw [hx17]; rfl
            refine lv_icmp_eq (tgt := 57) hx hb dX3_isWord_52 (by decide) (fun c9 => ?_) (fun c9 => ?_)
            · have c6 := gi_eq c9
              obtain ⟨t18, qt18⟩ : ∃ zz9 : Int32, i + Int32.ofInt 1 = zz9 := ⟨_, rfl⟩
              refine lv_iinc (v := t18) (lv' := [(2, .int t18), (0, .ref this), (1, .ref (kK κ wi))]) hx hb dX3_isWord_57 hl (k := 0) rfl qt18 (by decide) rfl (fun ls hl => ?_)
              have ht18 : t18.toInt = i.toInt + 1 := by rw [← qt18]; exact v_addi rfl (show (Int32.ofInt 1).toInt = 1 from by decide) (by omega) (by omega)
              refine lv_goto (tgt := 28) hx hb dX3_isWord_60 (by decide) ?_
              exact ih28 t18 _ _ _ _ hT  (by omega) (by omega) (fun k hk => by have w9 : ix t18 = ix i + 1 := (by unfold ix; omega); exact (Classical.em (k = ix i)).elim (fun e9 => by rw [e9]; omega) (fun e9 => q3 k (by omega))) hl (by omega)
            · have c7 := gi_ne c9
              refine lv_iconst (v := 0) hx hb dX3_isWord_55 (by decide) ?_
              subst hQ9
              exact t_z hx hb hr isB0 hlocks hT ⟨Or.inr ⟨n0, fun q9 => by have z9 := q9.2 (ix i) (by omega); omega⟩, isB0⟩ dX3_isWord_56
      exact loop28 (((wdL.getD wi 0 : Int) - (0 : Int32).toInt).toNat + 1) 0 _ _ _ _ hT  (by omega) (by omega) (fun k hk => by rw [ix_0] at hk; omega) hl (by omega)
    · have c8 := gi_ne c9
      refine lv_iconst (v := 0) hx hb dX3_isWord_24 (by decide) ?_
      subst hQ9
      exact t_z hx hb hr isB0 hlocks hT ⟨Or.inr ⟨n0, fun q9 => by have z9 := uIsW_K h_wi q9; have z8 := utkE_word z9; have z7 := q9.1; omega⟩, isB0⟩ dX3_isWord_25
set_option maxHeartbeats 4000000 in
set_option maxRecDepth 100000 in
theorem X3s_isWrong (l : Launch) (κ : Kt) (σ0 : Gh) (this : Nat) (ch : Int32) {tc : Nat → Int} {Ln : Nat} (t_this : zk σ0 this 6) (h0 : TXc κ σ0 this tc Ln) : TC l yX3_isWrong cX3_isWrong 2 (some .boolean) 0 0 [.ref this, .int ch] κ σ0 (tqi κ fW23 σ0 (fun (r : Int32) (τ : Gh) => (r.toInt = 0) ∧ ((zI τ this 2).toInt = ch.toInt) ∧ ((zI τ this 3).toInt = (zI σ0 this 5).toInt) ∧ (isB r))) := by
  refine TC.of fW23 (by decide +kernel) (Nat.le_of_ble_eq_true rfl) ?_
  intro p e s m below meth c ls hcs hK hX hT hl
  obtain ⟨hx, hb, hr, hml, hown, hg, hlocks, hin⟩ := hcs
  have hown : s.vm.findClass RX3 = some m.cls := hown
  have hl : lv_has ls 2 [(0, .ref this), (1, .int ch)] := hl
  have hT0 := hT
  have n0 : (0 : Int32).toInt = 0 := by decide
  have ch_lo := Int32.le_toInt ch
  have ch_hi := Int32.toInt_lt ch
  generalize hQ9 : tQ _ _ _ _ _ _ = Q9
  obtain ⟨rB, erB⟩ : ∃ z, kR κ this 0 = z := ⟨_, rfl⟩
  have trB : zk σ0 rB 14 := by rw [← erB]; exact hT0.ref t_this (by decide) (by decide) (by decide)
  have hpc : ∀ j, tc j = (zI σ0 rB j).toInt := by rw [← erB]; exact h0.1
  have hLn : (zI σ0 this 1).toInt = Ln := h0.2
  have bL := (hT0.P t_this (by decide)).1.2
  have hL7 : (Ln : Int) ≤ 700 := by omega
  refine lv_aload_n hx hb dX3_isWrong_0 rfl (lv_at hl 0 rfl) ?_
  refine lv_iload_n hx hb dX3_isWrong_1 rfl (lv_at hl 1 rfl) ?_
  have hTo := hT
  refine pf6_2 hx hb hg hown hK hT (hT.k t_this (by decide)) rfl (hg _ k122) dX3_isWrong_2 (fun H locs s1 hus1 hT => ?_)
  have e2 : zI s1 this 2 = ch := zput_at hus1
  refine lv_aload_n hx hb dX3_isWrong_5 rfl (lv_at hl 0 rfl) ?_
  refine lv_aload_n hx hb dX3_isWrong_6 rfl (lv_at hl 0 rfl) ?_
  obtain ⟨v3, ev3⟩ : ∃ zz9 : Int32, zI σ0 this 5 = zz9 := ⟨_, rfl⟩
  have qv3 : v3.toInt = (zI σ0 this 5).toInt := by rw [ev3]
  have b4 := (hT.P (hT.k t_this (by decide)) (by decide)).2.1
  rw [(hT.eI t_this (by decide) rfl ev3)] at b4
  have b4l := b4.1
  have b4h := b4.2
  refine va_get (D := κ.1) (ci := 3) (v := .int (zI s1 this 5)) (C := RX3) (T := TX3) (N := 8) hx hb hg inX3 hown hK (hT.o6 (hT.k t_this (by decide))).one 0 rfl rfl 5 (by decide) (hg _ k127) (fun _ h9 => h9) rfl dX3_isWrong_7 ?_
  rw [(hT.eI t_this (by decide) rfl ev3)]
  have hTo := hT
  refine pf6_3 hx hb hg hown hK hT (hT.k t_this (by decide)) rfl (hg _ k124) dX3_isWrong_10 (fun H locs s5 hus5 hT => ?_)
  have e2 : zI s5 this 2 = ch := (zput_o hus5 (Or.inr (by decide))).trans e2
  have e6 : zI s5 this 3 = v3 := zput_at hus5
  refine lv_iconst (v := 0) hx hb dX3_isWrong_13 (by decide) ?_
  subst hQ9
  exact t_z hx hb hr isB0 hlocks hT ⟨n0, by rw [(show zI s5 this 2 = ch from e2)], by rw [(show zI s5 this 3 = v3 from e6)]; omega, isB0⟩ dX3_isWrong_14
set_option maxHeartbeats 4000000 in
set_option maxRecDepth 100000 in
theorem X3s_settingHere (l : Launch) (κ : Kt) (σ0 : Gh) (this : Nat) {tc : Nat → Int} {Ln : Nat} {sp : Nat} (t_this : zk σ0 this 6) (h0 : TXc κ σ0 this tc Ln) (h1 : TKc σ0 this tc Ln sp) : TC l yX3_settingHere cX3_settingHere 1 (some .int) 5 107 [.ref this] κ σ0 (tqi κ fE σ0 (fun (r : Int32) (τ : Gh) => ((∃ i : Nat, r.toInt = i ∧ i < 4 ∧ uIsW tc Ln i sp) ∨ (r.toInt = -1 ∧ ∀ i, i < 4 → ¬ uIsW tc Ln i sp)))) := by
  refine TC.of fE (by decide +kernel) (Nat.le_of_ble_eq_true rfl) ?_
  intro p e s m below meth c ls hcs hK hX hT hl
  obtain ⟨hx, hb, hr, hml, hown, hg, hlocks, hin⟩ := hcs
  have hown : s.vm.findClass RX3 = some m.cls := hown
  have hl : lv_has ls 1 [(0, .ref this)] := hl
  have hT0 := hT
  have nm1 : ((-1) : Int32).toInt = (-1) := by decide
  have n0 : (0 : Int32).toInt = 0 := by decide
  have n1 : (1 : Int32).toInt = 1 := by decide
  have n2 : (2 : Int32).toInt = 2 := by decide
  have n3 : (3 : Int32).toInt = 3 := by decide
  generalize hQ9 : tQ _ _ _ _ _ _ = Q9
  obtain ⟨rB, erB⟩ : ∃ z, kR κ this 0 = z := ⟨_, rfl⟩
  have trB : zk σ0 rB 14 := by rw [← erB]; exact hT0.ref t_this (by decide) (by decide) (by decide)
  have hpc : ∀ j, tc j = (zI σ0 rB j).toInt := by rw [← erB]; exact h0.1
  have hLn : (zI σ0 this 1).toInt = Ln := h0.2
  have bL := (hT0.P t_this (by decide)).1.2
  have hL7 : (Ln : Int) ≤ 700 := by omega
  obtain ⟨v1, ev1⟩ : ∃ zz9 : Int32, zI σ0 this 4 = zz9 := ⟨_, rfl⟩
  have qv1 : v1.toInt = (zI σ0 this 4).toInt := by rw [ev1]
  obtain ⟨v2, ev2⟩ : ∃ zz9 : Int32, zI σ0 this 5 = zz9 := ⟨_, rfl⟩
  have qv2 : v2.toInt = (zI σ0 this 5).toInt := by rw [ev2]
  have b3 := (hT.P (hT.k t_this (by decide)) (by decide)).2.1
  rw [(hT.eI t_this (by decide) rfl ev2)] at b3
  have b3l := b3.1
  have b3h := b3.2
  obtain ⟨v4, ev4⟩ : ∃ zz9 : Int32, zI σ0 this 6 = zz9 := ⟨_, rfl⟩
  have qv4 : v4.toInt = (zI σ0 this 6).toInt := by rw [ev4]
  have b5 := (hT.P (hT.k t_this (by decide)) (by decide)).2.2
  rw [(hT.eI t_this (by decide) rfl ev4)] at b5
  have b5l := b5.1
  have b5h := b5.2
  obtain ⟨v6, ev6⟩ : ∃ zz9 : Int32, zI σ0 this 7 = zz9 := ⟨_, rfl⟩
  have qv6 : v6.toInt = (zI σ0 this 7).toInt := by rw [ev6]
  have tk7 : TKv v1 v2 v4 v6 tc Ln sp := by have z9 := h1; unfold TKc at z9; rw [(show zI σ0 this 4 = v1 from (hT.eI t_this (by decide) rfl ev1)), (show zI σ0 this 5 = v2 from (hT.eI t_this (by decide) rfl ev2)), (show zI σ0 this 6 = v4 from (hT.eI t_this (by decide) rfl ev4)), (show zI σ0 this 7 = v6 from (hT.eI t_this (by decide) rfl ev6))] at z9; exact z9
  obtain ⟨tk74, tk75, tk76, tk77, tk78⟩ := id tk7
  refine lv_aload_n hx hb dX3_settingHere_0 rfl (lv_at hl 0 rfl) ?_
  refine va_ldcS hx hb hown (hX.2.2.1 0 (by decide)) dX3_settingHere_1 ?_
  have hTo := hT
  refine tVi (n := 1) (As := [.ref (kK κ 0)]) (rest := []) hx hb hml hown hg hT hK hX (X3s_isWord l κ σ0 this 0  (hT.k t_this (by decide)) (by decide) h0 (show TKc σ0 this tc Ln sp from by unfold TKc; rw [(show zI σ0 this 4 = v1 from (hT.eI t_this (by decide) rfl ev1)), (show zI σ0 this 5 = v2 from (hT.eI t_this (by decide) rfl ev2)), (show zI σ0 this 6 = v4 from (hT.eI t_this (by decide) rfl ev4)), (show zI σ0 this 7 = v6 from (hT.eI t_this (by decide) rfl ev6))]; exact tk7)) (fun _ _ h => h) (mwV k724 k726 k22 k85 k727) ⟨rfl, by decide, by decide, by decide +kernel⟩ ⟨(Nat.le_of_ble_eq_true rfl), (Nat.le_of_ble_eq_true rfl)⟩ (hT.o6 (hT.k t_this (by decide))) rfl rfl hl.1 rfl (Nat.le_of_ble_eq_true rfl) dX3_settingHere_3 zroom.rf (fun x8 s9 H locs hφ hEs9 hT => ?_)
  obtain ⟨f10, f11⟩ := hφ
  refine lv_if_eq (tgt := 11) hx hb dX3_settingHere_6 (by decide) (fun c9 => ?_) (fun c9 => ?_)
  · have c1 := gi_eq c9
    refine lv_aload_n hx hb dX3_settingHere_11 rfl (lv_at hl 0 rfl) ?_
    refine va_ldcS hx hb hown (hX.2.2.1 1 (by decide)) dX3_settingHere_12 ?_
    have hTo := hT
    refine tVi (n := 1) (As := [.ref (kK κ 1)]) (rest := []) hx hb hml hown hg hT hK hX (X3s_isWord l κ s9 this 1  (hT.k t_this (by decide)) (by decide) (h0.tr (funext fun k => by rw [erB]; exact hT.eI trB (by decide) rfl rfl) (hT.eI t_this (by decide) rfl rfl)) (show TKc s9 this tc Ln sp from by unfold TKc; rw [(show zI s9 this 4 = v1 from (hT.eI t_this (by decide) rfl ev1)), (show zI s9 this 5 = v2 from (hT.eI t_this (by decide) rfl ev2)), (show zI s9 this 6 = v4 from (hT.eI t_this (by decide) rfl ev4)), (show zI s9 this 7 = v6 from (hT.eI t_this (by decide) rfl ev6))]; exact tk7)) (fun _ _ h => h) (mwV k724 k726 k22 k85 k727) ⟨rfl, by decide, by decide, by decide +kernel⟩ ⟨(Nat.le_of_ble_eq_true rfl), (Nat.le_of_ble_eq_true rfl)⟩ (hT.o6 (hT.k t_this (by decide))) rfl rfl hl.1 rfl (Nat.le_of_ble_eq_true rfl) dX3_settingHere_14 zroom.rf (fun x12 s13 H locs hφ hEs13 hT => ?_)
    obtain ⟨f14, f15⟩ := hφ
    refine lv_if_eq (tgt := 22) hx hb dX3_settingHere_17 (by decide) (fun c9 => ?_) (fun c9 => ?_)
    · have c2 := gi_eq c9
      refine lv_aload_n hx hb dX3_settingHere_22 rfl (lv_at hl 0 rfl) ?_
      refine va_ldcS hx hb hown (hX.2.2.1 2 (by decide)) dX3_settingHere_23 ?_
      have hTo := hT
      refine tVi (n := 1) (As := [.ref (kK κ 2)]) (rest := []) hx hb hml hown hg hT hK hX (X3s_isWord l κ s13 this 2  (hT.k t_this (by decide)) (by decide) (h0.tr (funext fun k => by rw [erB]; exact hT.eI trB (by decide) rfl rfl) (hT.eI t_this (by decide) rfl rfl)) (show TKc s13 this tc Ln sp from by unfold TKc; rw [(show zI s13 this 4 = v1 from (hT.eI t_this (by decide) rfl ev1)), (show zI s13 this 5 = v2 from (hT.eI t_this (by decide) rfl ev2)), (show zI s13 this 6 = v4 from (hT.eI t_this (by decide) rfl ev4)), (show zI s13 this 7 = v6 from (hT.eI t_this (by decide) rfl ev6))]; exact tk7)) (fun _ _ h => h) (mwV k724 k726 k22 k85 k727) ⟨rfl, by decide, by decide, by decide +kernel⟩ ⟨(Nat.le_of_ble_eq_true rfl), (Nat.le_of_ble_eq_true rfl)⟩ (hT.o6 (hT.k t_this (by decide))) rfl rfl hl.1 rfl (Nat.le_of_ble_eq_true rfl) dX3_settingHere_25 zroom.rf (fun x16 s17 H locs hφ hEs17 hT => ?_)
      obtain ⟨f18, f19⟩ := hφ
      refine lv_if_eq (tgt := 33) hx hb dX3_settingHere_28 (by decide) (fun c9 => ?_) (fun c9 => ?_)
      · have c3 := gi_eq c9
        refine lv_aload_n hx hb dX3_settingHere_33 rfl (lv_at hl 0 rfl) ?_
        refine va_ldcS hx hb hown (hX.2.2.1 3 (by decide)) dX3_settingHere_34 ?_
        have hTo := hT
        refine tVi (n := 1) (As := [.ref (kK κ 3)]) (rest := []) hx hb hml hown hg hT hK hX (X3s_isWord l κ s17 this 3  (hT.k t_this (by decide)) (by decide) (h0.tr (funext fun k => by rw [erB]; exact hT.eI trB (by decide) rfl rfl) (hT.eI t_this (by decide) rfl rfl)) (show TKc s17 this tc Ln sp from by unfold TKc; rw [(show zI s17 this 4 = v1 from (hT.eI t_this (by decide) rfl ev1)), (show zI s17 this 5 = v2 from (hT.eI t_this (by decide) rfl ev2)), (show zI s17 this 6 = v4 from (hT.eI t_this (by decide) rfl ev4)), (show zI s17 this 7 = v6 from (hT.eI t_this (by decide) rfl ev6))]; exact tk7)) (fun _ _ h => h) (mwV k724 k726 k22 k85 k727) ⟨rfl, by decide, by decide, by decide +kernel⟩ ⟨(Nat.le_of_ble_eq_true rfl), (Nat.le_of_ble_eq_true rfl)⟩ (hT.o6 (hT.k t_this (by decide))) rfl rfl hl.1 rfl (Nat.le_of_ble_eq_true rfl) dX3_settingHere_36 zroom.rf (fun x20 s21 H locs hφ hEs21 hT => ?_)
        obtain ⟨f22, f23⟩ := hφ
        refine lv_if_eq (tgt := 46) hx hb dX3_settingHere_39 (by decide) (fun c9 => ?_) (fun c9 => ?_)
        · have c4 := gi_eq c9
          refine lv_iconst (v := (-1)) hx hb dX3_settingHere_46 (by decide) ?_
          subst hQ9
          exact t_i hx hb hr hlocks hT (Or.inr ⟨nm1, fun i hi => by rcases (show i = 0 ∨ i = 1 ∨ i = 2 ∨ i = 3 by omega) with rfl | rfl | rfl | rfl <;> first | exact (f10.resolve_left (fun q9 => by have := q9.1; omega)).2 | exact (f14.resolve_left (fun q9 => by have := q9.1; omega)).2 | exact (f18.resolve_left (fun q9 => by have := q9.1; omega)).2 | exact (f22.resolve_left (fun q9 => by have := q9.1; omega)).2⟩) dX3_settingHere_47
        · have c5 := gi_ne c9
          refine lv_iconst (v := 3) hx hb dX3_settingHere_42 (by decide) ?_
          refine lv_goto (tgt := 47) hx hb dX3_settingHere_43 (by decide) ?_
          subst hQ9
          exact t_i hx hb hr hlocks hT (Or.inl ⟨3, n3, by decide, (f22.resolve_right (fun q9 => by have := q9.1; omega)).2⟩) dX3_settingHere_47
      · have c6 := gi_ne c9
        refine lv_iconst (v := 2) hx hb dX3_settingHere_31 (by decide) ?_
        subst hQ9
        exact t_i hx hb hr hlocks hT (Or.inl ⟨2, n2, by decide, (f18.resolve_right (fun q9 => by have := q9.1; omega)).2⟩) dX3_settingHere_32
    · have c7 := gi_ne c9
      refine lv_iconst (v := 1) hx hb dX3_settingHere_20 (by decide) ?_
      subst hQ9
      exact t_i hx hb hr hlocks hT (Or.inl ⟨1, n1, by decide, (f14.resolve_right (fun q9 => by have := q9.1; omega)).2⟩) dX3_settingHere_21
  · have c8 := gi_ne c9
    refine lv_iconst (v := 0) hx hb dX3_settingHere_9 (by decide) ?_
    subst hQ9
    exact t_i hx hb hr hlocks hT (Or.inl ⟨0, n0, by decide, (f10.resolve_right (fun q9 => by have := q9.1; omega)).2⟩) dX3_settingHere_10
set_option maxHeartbeats 4000000 in
set_option maxRecDepth 100000 in
theorem X3s_passSemicolon (l : Launch) (κ : Kt) (σ0 : Gh) (this : Nat) {tc : Nat → Int} {Ln : Nat} {sp : Nat} (t_this : zk σ0 this 6) (h0 : TXc κ σ0 this tc Ln) (h1 : TKc σ0 this tc Ln sp) : TC l yX3_passSemicolon cX3_passSemicolon 1 (some .boolean) 3 60 [.ref this] κ σ0 (tqi κ fPe σ0 (fun (r : Int32) (τ : Gh) => ((r.toInt = 1 ∧ utkK tc Ln sp = 3 ∧ TKc τ this tc Ln (unxt tc Ln sp) ∧ zI τ this 2 = zI σ0 this 2 ∧ zI τ this 3 = zI σ0 this 3) ∨ (r.toInt = 0 ∧ utkK tc Ln sp ≠ 3 ∧ (zI τ this 2).toInt = 1 ∧ (zI τ this 3).toInt = sp)) ∧ (isB r))) := by
  refine TC.of fPe (by decide +kernel) (Nat.le_of_ble_eq_true rfl) ?_
  intro p e s m below meth c ls hcs hK hX hT hl
  obtain ⟨hx, hb, hr, hml, hown, hg, hlocks, hin⟩ := hcs
  have hown : s.vm.findClass RX3 = some m.cls := hown
  have hl : lv_has ls 1 [(0, .ref this)] := hl
  have hT0 := hT
  have n1 : (1 : Int32).toInt = 1 := by decide
  have n3 : (3 : Int32).toInt = 3 := by decide
  generalize hQ9 : tQ _ _ _ _ _ _ = Q9
  obtain ⟨rB, erB⟩ : ∃ z, kR κ this 0 = z := ⟨_, rfl⟩
  have trB : zk σ0 rB 14 := by rw [← erB]; exact hT0.ref t_this (by decide) (by decide) (by decide)
  have hpc : ∀ j, tc j = (zI σ0 rB j).toInt := by rw [← erB]; exact h0.1
  have hLn : (zI σ0 this 1).toInt = Ln := h0.2
  have bL := (hT0.P t_this (by decide)).1.2
  have hL7 : (Ln : Int) ≤ 700 := by omega
  obtain ⟨v1, ev1⟩ : ∃ zz9 : Int32, zI σ0 this 2 = zz9 := ⟨_, rfl⟩
  have qv1 : v1.toInt = (zI σ0 this 2).toInt := by rw [ev1]
  have zthis2 : zI σ0 this 2 = v1 := ev1
  obtain ⟨v2, ev2⟩ : ∃ zz9 : Int32, zI σ0 this 3 = zz9 := ⟨_, rfl⟩
  have qv2 : v2.toInt = (zI σ0 this 3).toInt := by rw [ev2]
  have zthis3 : zI σ0 this 3 = v2 := ev2
  obtain ⟨v3, ev3⟩ : ∃ zz9 : Int32, zI σ0 this 4 = zz9 := ⟨_, rfl⟩
  have qv3 : v3.toInt = (zI σ0 this 4).toInt := by rw [ev3]
  obtain ⟨v4, ev4⟩ : ∃ zz9 : Int32, zI σ0 this 5 = zz9 := ⟨_, rfl⟩
  have qv4 : v4.toInt = (zI σ0 this 5).toInt := by rw [ev4]
  have b5 := (hT.P (hT.k t_this (by decide)) (by decide)).2.1
  rw [ev4] at b5
  have b5l := b5.1
  have b5h := b5.2
  obtain ⟨v6, ev6⟩ : ∃ zz9 : Int32, zI σ0 this 6 = zz9 := ⟨_, rfl⟩
  have qv6 : v6.toInt = (zI σ0 this 6).toInt := by rw [ev6]
  have b7 := (hT.P (hT.k t_this (by decide)) (by decide)).2.2
  rw [ev6] at b7
  have b7l := b7.1
  have b7h := b7.2
  obtain ⟨v8, ev8⟩ : ∃ zz9 : Int32, zI σ0 this 7 = zz9 := ⟨_, rfl⟩
  have qv8 : v8.toInt = (zI σ0 this 7).toInt := by rw [ev8]
  have tk9 : TKv v3 v4 v6 v8 tc Ln sp := by have z9 := h1; unfold TKc at z9; rw [(show zI σ0 this 4 = v3 from ev3), (show zI σ0 this 5 = v4 from ev4), (show zI σ0 this 6 = v6 from ev6), (show zI σ0 this 7 = v8 from ev8)] at z9; exact z9
  obtain ⟨tk94, tk95, tk96, tk97, tk98⟩ := id tk9
  refine lv_aload_n hx hb dX3_passSemicolon_0 rfl (lv_at hl 0 rfl) ?_
  refine va_get (D := κ.1) (ci := 3) (v := .int (zI σ0 this 4)) (C := RX3) (T := TX3) (N := 8) hx hb hg inX3 hown hK (hT.o6 (hT.k t_this (by decide))).one 0 rfl rfl 4 (by decide) (hg _ k126) (fun _ h9 => h9) rfl dX3_passSemicolon_1 ?_
  rw [ev3]
  refine lv_iconst (v := 3) hx hb dX3_passSemicolon_4 (by decide) ?_
  refine lv_icmp_ne (tgt := 15) hx hb dX3_passSemicolon_5 (by decide) (fun c9 => ?_) (fun c9 => ?_)
  · have c1 := gi_ne c9
    refine lv_aload_n hx hb dX3_passSemicolon_15 rfl (lv_at hl 0 rfl) ?_
    refine lv_iconst (v := 1) hx hb dX3_passSemicolon_16 (by decide) ?_
    have cz10 : zI σ0 this 5 = v4 := ev4
    have hTo := hT
    refine tVi (n := 1) (As := [.int 1]) (rest := []) hx hb hml hown hg hT hK hX (X3s_isWrong l κ σ0 this 1  (hT.k t_this (by decide)) h0) sub_fW23_fPe (mwV k779 k781 k23 k85 k782) ⟨rfl, by decide, by decide, by decide +kernel⟩ ⟨(Nat.le_of_ble_eq_true rfl), (Nat.le_of_ble_eq_true rfl)⟩ (hT.o6 (hT.k t_this (by decide))) rfl rfl hl.1 rfl (Nat.le_of_ble_eq_true rfl) dX3_passSemicolon_17 zroom.rf (fun x11 s12 H locs hφ hEs12 hT => ?_)
    have ev3 : zI s12 this 4 = v3 := ((hTo.k t_this (by decide)).eI hEs12 (by decide) rfl).trans ev3
    have ev4 : zI s12 this 5 = v4 := ((hTo.k t_this (by decide)).eI hEs12 (by decide) rfl).trans ev4
    have ev6 : zI s12 this 6 = v6 := ((hTo.k t_this (by decide)).eI hEs12 (by decide) rfl).trans ev6
    have ev8 : zI s12 this 7 = v8 := ((hTo.k t_this (by decide)).eI hEs12 (by decide) rfl).trans ev8
    obtain ⟨f13, f14, f15, f16⟩ := hφ
    subst hQ9
    exact t_z hx hb hr f16 hlocks hT ⟨Or.inr ⟨by omega, by omega, by omega, by rw [f15, cz10]; omega⟩, f16⟩ dX3_passSemicolon_20
  · have c2 := gi_eq c9
    refine lv_aload_n hx hb dX3_passSemicolon_8 rfl (lv_at hl 0 rfl) ?_
    have hTo := hT
    refine tVi (n := 0) (As := []) (rest := []) hx hb hml hown hg hT hK hX (X3s_pass l κ σ0 this  (hT.k t_this (by decide)) h0 (show (zI σ0 this 6).toInt = (utkE tc Ln sp : Nat) from by rw [(show zI σ0 this 6 = v6 from ev6)]; omega) (utkE_le tk98)) sub_fP_fPe (mwV k697 k699 k17 k85 k700) ⟨rfl, by decide, by decide, by decide +kernel⟩ ⟨(Nat.le_of_ble_eq_true rfl), (Nat.le_of_ble_eq_true rfl)⟩ (hT.o6 (hT.k t_this (by decide))) rfl rfl hl.1 rfl (Nat.le_of_ble_eq_true rfl) dX3_passSemicolon_9 zroom.rf (fun x17 s18 H locs hφ hEs18 hT => ?_)
    have ev1 : zI s18 this 2 = v1 := ((hTo.k t_this (by decide)).eI hEs18 (by decide) rfl).trans ev1
    have ev2 : zI s18 this 3 = v2 := ((hTo.k t_this (by decide)).eI hEs18 (by decide) rfl).trans ev2
    obtain ⟨f19, f20, f21⟩ := hφ
    refine lv_goto (tgt := 20) hx hb dX3_passSemicolon_12 (by decide) ?_
    subst hQ9
    exact t_z hx hb hr f21 hlocks hT ⟨Or.inl ⟨by omega, by omega, f20, ((show zI s18 this 2 = v1 from ev1).trans zthis2.symm), ((show zI s18 this 3 = v2 from ev2).trans zthis3.symm)⟩, f21⟩ dX3_passSemicolon_20

/-! States with their numbers: neighbours, prediction -/
set_option maxHeartbeats 4000000 in
set_option maxRecDepth 100000 in
theorem X1v_isPresent (l : Launch) (κ : Kt) (σ0 : Gh) (this : Nat) (i : Int32) (t_this : zk σ0 this 3) (h0 : 0 ≤ i.toInt) (h1 : i.toInt ≤ 47) : TC l yX1_isPresent cX1_isPresent 2 (some .boolean) 0 0 [.ref this, .int i] κ σ0 (tqi κ fE σ0 (fun (r : Int32) (τ : Gh) => ((r.toInt = 1 ∧ (zI σ0 (kR κ this 3) (ix i)).toInt = -1) ∨ (r.toInt = 0 ∧ (zI σ0 (kR κ this 3) (ix i)).toInt ≠ -1)) ∧ (isB r))) := by
  refine TC.of fE (by decide +kernel) (Nat.le_of_ble_eq_true rfl) ?_
  intro p e s m below meth c ls hcs hK hX hT hl
  obtain ⟨hx, hb, hr, hml, hown, hg, hlocks, hin⟩ := hcs
  have hown : s.vm.findClass RX1 = some m.cls := hown
  have hl : lv_has ls 2 [(0, .ref this), (1, .int i)] := hl
  have hT0 := hT
  have nm1 : ((-1) : Int32).toInt = (-1) := by decide
  have n0 : (0 : Int32).toInt = 0 := by decide
  have n1 : (1 : Int32).toInt = 1 := by decide
  have i_lo := Int32.le_toInt i
  have i_hi := Int32.toInt_lt i
  generalize hQ9 : tQ _ _ _ _ _ _ = Q9
  obtain ⟨rs, ers⟩ : ∃ z, kR κ this 3 = z := ⟨_, rfl⟩
  have trs : zk σ0 rs 15 := by rw [← ers]; exact hT0.ref t_this (by decide) (by decide) (by decide)
  refine lv_aload_n hx hb dX1_isPresent_0 rfl (lv_at hl 0 rfl) ?_
  refine va_get (D := κ.1) (ci := 1) (v := .ref (kR κ this 3)) (C := RX1) (T := TX1) (N := 13) hx hb hg inX1 hown hK (hT.o3 (hT.k t_this (by decide))).one 0 rfl rfl 3 (by decide) (hg _ k283) (fun _ h9 => h9) rfl dX1_isPresent_1 ?_
  rw [ers]
  refine lv_iload_n hx hb dX1_isPresent_4 rfl (lv_at hl 1 rfl) ?_
  refine va_iald hx hb hK (hT.o15 (hT.k trs (by decide))).one 0 0 rfl rfl (g_in (by omega) (by omega)) dX1_isPresent_5 ?_
  refine lv_topi (fun t1 ht1 => ?_)
  have xt1 : t1.toInt = (zI σ0 rs (ix i)).toInt := by rw [ht1]
  refine lv_iconst (v := (-1)) hx hb dX1_isPresent_6 (by decide) ?_
  refine lv_icmp_ne (tgt := 14) hx hb dX1_isPresent_7 (by decide) (fun c9 => ?_) (fun c9 => ?_)
  · have c1 := gi_ne c9
    refine lv_iconst (v := 0) hx hb dX1_isPresent_14 (by decide) ?_
    subst hQ9
    exact t_z hx hb hr isB0 hlocks hT ⟨by rw [ers]; omega, isB0⟩ dX1_isPresent_15
  · have c2 := gi_eq c9
    refine lv_iconst (v := 1) hx hb dX1_isPresent_10 (by decide) ?_
    refine lv_goto (tgt := 15) hx hb dX1_isPresent_11 (by decide) ?_
    subst hQ9
    exact t_z hx hb hr isB1 hlocks hT ⟨by rw [ers]; omega, isB1⟩ dX1_isPresent_15
set_option maxHeartbeats 4000000 in
set_option maxRecDepth 100000 in
theorem X1v_presentCount (l : Launch) (κ : Kt) (σ0 : Gh) (this : Nat) (t_this : zk σ0 this 3) : TC l yX1_presentCount cX1_presentCount 1 (some .int) 0 0 [.ref this] κ σ0 (tqi κ fE σ0 (fun (r : Int32) (τ : Gh) => (r.toInt = (zI σ0 (kR κ this 0) 2).toInt - (zI σ0 this 5).toInt))) := by
  refine TC.of fE (by decide +kernel) (Nat.le_of_ble_eq_true rfl) ?_
  intro p e s m below meth c ls hcs hK hX hT hl
  obtain ⟨hx, hb, hr, hml, hown, hg, hlocks, hin⟩ := hcs
  have hown : s.vm.findClass RX1 = some m.cls := hown
  have hl : lv_has ls 1 [(0, .ref this)] := hl
  have hT0 := hT
  generalize hQ9 : tQ _ _ _ _ _ _ = Q9
  obtain ⟨src, esrc⟩ : ∃ z, kR κ this 0 = z := ⟨_, rfl⟩
  have tsrc : zk σ0 src 4 := by rw [← esrc]; exact hT0.ref t_this (by decide) (by decide) (by decide)
  have bsrc := (hT0.P tsrc (by decide)).1
  have bsrcl := bsrc.1
  have bsrch := bsrc.2
  refine lv_aload_n hx hb dX1_presentCount_0 rfl (lv_at hl 0 rfl) ?_
  refine va_get (D := κ.1) (ci := 1) (v := .ref (kR κ this 0)) (C := RX1) (T := TX1) (N := 13) hx hb hg inX1 hown hK (hT.o3 (hT.k t_this (by decide))).one 0 rfl rfl 0 (by decide) (hg _ k278) (fun _ h9 => h9) rfl dX1_presentCount_1 ?_
  rw [esrc]
  obtain ⟨v1, ev1⟩ : ∃ zz9 : Int32, zI σ0 src 2 = zz9 := ⟨_, rfl⟩
  have qv1 : v1.toInt = (zI σ0 src 2).toInt := by rw [ev1]
  have b2 := (hT.P (hT.k tsrc (by decide)) (by decide)).1
  rw [(hT.eI tsrc (by decide) rfl ev1)] at b2
  have b2l := b2.1
  have b2h := b2.2
  refine va_get (D := κ.1) (ci := 0) (v := .int (zI σ0 src 2)) (C := RX0) (T := TX0) (N := 7) hx hb hg inX0 hown hK (hT.o4 (hT.k tsrc (by decide))).one 0 rfl rfl 2 (by decide) (hg _ k162) (fun _ h9 => h9) rfl dX1_presentCount_4 ?_
  rw [(hT.eI tsrc (by decide) rfl ev1)]
  refine lv_aload_n hx hb dX1_presentCount_7 rfl (lv_at hl 0 rfl) ?_
  obtain ⟨v3, ev3⟩ : ∃ zz9 : Int32, zI σ0 this 5 = zz9 := ⟨_, rfl⟩
  have qv3 : v3.toInt = (zI σ0 this 5).toInt := by rw [ev3]
  have b4 := (hT.P (hT.k t_this (by decide)) (by decide)).1
  rw [(hT.eI t_this (by decide) rfl ev3)] at b4
  have b4l := b4.1
  have b4h := b4.2
  refine va_get (D := κ.1) (ci := 1) (v := .int (zI σ0 this 5)) (C := RX1) (T := TX1) (N := 13) hx hb hg inX1 hown hK (hT.o3 (hT.k t_this (by decide))).one 0 rfl rfl 5 (by decide) (hg _ k287) (fun _ h9 => h9) rfl dX1_presentCount_8 ?_
  rw [(hT.eI t_this (by decide) rfl ev3)]
  refine lv_isub hx hb dX1_presentCount_11 ?_
  first | refine g_sub (by omega) (by omega) (fun t5 ht5 => ?_) | refine lv_topi (fun t5 ht5 => ?_)
  subst hQ9
  exact t_i hx hb hr hlocks hT (by rw [esrc]; omega) dX1_presentCount_12
set_option maxHeartbeats 4000000 in
set_option maxRecDepth 100000 in
theorem X1v_leftOf (l : Launch) (κ : Kt) (σ0 : Gh) (this : Nat) (i : Int32) (t_this : zk σ0 this 3) (h0 : 0 ≤ i.toInt) (h1 : i.toInt ≤ 47) : TC l yX1_leftOf cX1_leftOf 3 (some .int) 1 21 [.ref this, .int i] κ σ0 (tqi κ fE σ0 (fun (r : Int32) (τ : Gh) => ((r.toInt = -1 ∧ ∀ j, j < ix i → (zI σ0 (kR κ this 3) j).toInt ≠ -1) ∨ (∃ p : Nat, r.toInt = p ∧ LN (fun k => (zI σ0 (kR κ this 3) k).toInt) (ix i) p)))) := by
  refine TC.of fE (by decide +kernel) (Nat.le_of_ble_eq_true rfl) ?_
  intro p e s m below meth c ls hcs hK hX hT hl
  obtain ⟨hx, hb, hr, hml, hown, hg, hlocks, hin⟩ := hcs
  have hown : s.vm.findClass RX1 = some m.cls := hown
  have hl : lv_has ls 3 [(0, .ref this), (1, .int i)] := hl
  have hT0 := hT
  have nm1 : ((-1) : Int32).toInt = (-1) := by decide
  have n0 : (0 : Int32).toInt = 0 := by decide
  have n1 : (1 : Int32).toInt = 1 := by decide
  have i_lo := Int32.le_toInt i
  have i_hi := Int32.toInt_lt i
  generalize hQ9 : tQ _ _ _ _ _ _ = Q9
  obtain ⟨rs, ers⟩ : ∃ z, kR κ this 3 = z := ⟨_, rfl⟩
  have trs : zk σ0 rs 15 := by rw [← ers]; exact hT0.ref t_this (by decide) (by decide) (by decide)
  refine lv_iload_n hx hb dX1_leftOf_0 rfl (lv_at hl 1 rfl) ?_
  refine lv_iconst (v := 1) hx hb dX1_leftOf_1 (by decide) ?_
  refine lv_isub hx hb dX1_leftOf_2 ?_
  first | refine g_sub (by omega) (by omega) (fun t1 ht1 => ?_) | refine lv_topi (fun t1 ht1 => ?_)
  refine lv_istore_n (lv' := [(2, .int t1), (0, .ref this), (1, .int i)]) hx hb dX1_leftOf_3 rfl hl (by decide) rfl (fun ls hl => ?_)
  have loop4 : ∀ (n9 : Nat) (j : Int32) (H : Heap) (locs : List Loc) (sg : Gh) (ls : Array Slot), TS κ fE σ0 sg s H locs → (-1 ≤ j.toInt) → (j.toInt < i.toInt) → (∀ z : Nat, j.toInt < z → z < ix i → (zI σ0 rs z).toInt ≠ -1) → lv_has ls 3 [(2, .int j), (0, .ref this), (1, .int i)] → (j.toInt + 1) < n9 → tW p l e 1 21 κ s m #[.ref this, .int i] below meth c H locs Q9 (F0 m 4 ls []) := by
    intro n9
    induction n9 with
    | zero =>
      intro j H locs sg ls hT q1 q2 q3 hl hm9
      exfalso
      omega
    | succ n9 ih9 =>
      have ih4 := ih9
      clear ih9
      intro j H locs s2 ls hT q1 q2 q3 hl hm9
      refine lv_iload_n hx hb dX1_leftOf_4 rfl (lv_at hl 0 rfl) ?_
      refine lv_if_lt (tgt := 24) hx hb dX1_leftOf_5 (by decide) (fun c9 => ?_) (fun c9 => ?_)
      · have c1 := gi_lt c9
        refine lv_iconst (v := (-1)) hx hb dX1_leftOf_24 (by decide) ?_
        subst hQ9
        exact t_i hx hb hr hlocks hT (Or.inl ⟨nm1, fun z hz => by rw [ers]; exact q3 z (by omega) hz⟩) dX1_leftOf_25
      · have c2 := gi_nlt c9
        have i_j : (ix j : Int) = j.toInt := by unfold ix; omega
        refine lv_aload_n hx hb dX1_leftOf_8 rfl (lv_at hl 1 rfl) ?_
        refine lv_iload_n hx hb dX1_leftOf_9 rfl (lv_at hl 0 rfl) ?_
        have hTo := hT
        refine tVi (n := 1) (As := [.int j]) (rest := []) hx hb hml hown hg hT hK hX (X1v_isPresent l κ s2 this j  (hT.k t_this (by decide)) (by omega) (by omega)) (fun _ _ h => h) (mwV k459 k460 k461 k87 k462) ⟨rfl, by decide, by decide, by decide +kernel⟩ ⟨(Nat.le_of_ble_eq_true rfl), (Nat.le_of_ble_eq_true rfl)⟩ (hT.o3 (hT.k t_this (by decide))) rfl rfl hl.1 rfl (Nat.le_of_ble_eq_true rfl) dX1_leftOf_10 zroom.rf (fun x3 s4 H locs hφ hEs4 hT => ?_)
        obtain ⟨f5, f6⟩ := hφ
        rw [ers] at f5
        rw [show zI s2 rs = zI σ0 rs from funext fun k => trs.eI hTo.2.2.1 (by decide) rfl] at f5
        refine lv_if_eq (tgt := 18) hx hb dX1_leftOf_13 (by decide) (fun c9 => ?_) (fun c9 => ?_)
        · have c3 := gi_eq c9
          obtain ⟨t7, qt7⟩ : ∃ zz9 : Int32, j + Int32.ofInt (-1) = zz9 := ⟨_, rfl⟩
          refine lv_iinc (v := t7) (lv' := [(2, .int t7), (0, .ref this), (1, .int i)]) hx hb dX1_leftOf_18 hl (k := 0) rfl qt7 (by decide) rfl (fun ls hl => ?_)
          have ht7 : t7.toInt = j.toInt + (-1) := by rw [← qt7]; exact v_addi rfl (show (Int32.ofInt (-1)).toInt = (-1) from by decide) (by omega) (by omega)
          refine lv_goto (tgt := 4) hx hb dX1_leftOf_21 (by decide) ?_
          have ne8 : (zI σ0 rs (ix j)).toInt ≠ -1 := by omega
          exact ih4 t7 _ _ _ _ hT  (by omega) (by omega) (fun z h1 h2 => (Classical.em (z = ix j)).elim (fun e9 => by rw [e9]; exact ne8) (fun e9 => q3 z (by omega) h2)) hl (by omega)
        · have c4 := gi_ne c9
          refine lv_iload_n hx hb dX1_leftOf_16 rfl (lv_at hl 0 rfl) ?_
          subst hQ9
          exact t_i hx hb hr hlocks hT (Or.inr ⟨ix j, by omega, by rw [ers]; exact ⟨by unfold ix; omega, (show (zI σ0 rs (ix j)).toInt = -1 by omega), fun z h1 h2 => q3 z (by omega) h2⟩⟩) dX1_leftOf_17
  exact loop4 ((t1.toInt + 1).toNat + 1) t1 _ _ _ _ hT  (by omega) (by omega) (fun z h1 h2 => by unfold ix at h2; omega) hl (by omega)
set_option maxHeartbeats 4000000 in
set_option maxRecDepth 100000 in
theorem X1v_rightOf (l : Launch) (κ : Kt) (σ0 : Gh) (this : Nat) (i : Int32) (t_this : zk σ0 this 3) (h0 : 0 ≤ i.toInt) (h1 : i.toInt ≤ 47) : TC l yX1_rightOf cX1_rightOf 3 (some .int) 1 21 [.ref this, .int i] κ σ0 (tqi κ fE σ0 (fun (r : Int32) (τ : Gh) => ((r.toInt = -1 ∧ ∀ j, ix i < j → j < (zI σ0 (kR κ this 0) 2).toInt.toNat → (zI σ0 (kR κ this 3) j).toInt ≠ -1) ∨ (∃ q : Nat, r.toInt = q ∧ RN (zI σ0 (kR κ this 0) 2).toInt.toNat (fun k => (zI σ0 (kR κ this 3) k).toInt) (ix i) q)))) := by
  refine TC.of fE (by decide +kernel) (Nat.le_of_ble_eq_true rfl) ?_
  intro p e s m below meth c ls hcs hK hX hT hl
  obtain ⟨hx, hb, hr, hml, hown, hg, hlocks, hin⟩ := hcs
  have hown : s.vm.findClass RX1 = some m.cls := hown
  have hl : lv_has ls 3 [(0, .ref this), (1, .int i)] := hl
  have hT0 := hT
  have nm1 : ((-1) : Int32).toInt = (-1) := by decide
  have n0 : (0 : Int32).toInt = 0 := by decide
  have n1 : (1 : Int32).toInt = 1 := by decide
  have i_lo := Int32.le_toInt i
  have i_hi := Int32.toInt_lt i
  generalize hQ9 : tQ _ _ _ _ _ _ = Q9
  obtain ⟨rs, ers⟩ : ∃ z, kR κ this 3 = z := ⟨_, rfl⟩
  have trs : zk σ0 rs 15 := by rw [← ers]; exact hT0.ref t_this (by decide) (by decide) (by decide)
  obtain ⟨src, esrc⟩ : ∃ z, kR κ this 0 = z := ⟨_, rfl⟩
  have tsrc : zk σ0 src 4 := by rw [← esrc]; exact hT0.ref t_this (by decide) (by decide) (by decide)
  have bsrc := (hT0.P tsrc (by decide)).1
  have bsrcl := bsrc.1
  have bsrch := bsrc.2
  refine lv_iload_n hx hb dX1_rightOf_0 rfl (lv_at hl 1 rfl) ?_
  refine lv_iconst (v := 1) hx hb dX1_rightOf_1 (by decide) ?_
  refine lv_iadd hx hb dX1_rightOf_2 ?_
  first | refine g_add (by omega) (by omega) (fun t1 ht1 => ?_) | refine lv_topi (fun t1 ht1 => ?_)
  refine lv_istore_n (lv' := [(2, .int t1), (0, .ref this), (1, .int i)]) hx hb dX1_rightOf_3 rfl hl (by decide) rfl (fun ls hl => ?_)
  have loop4 : ∀ (n9 : Nat) (j : Int32) (H : Heap) (locs : List Loc) (sg : Gh) (ls : Array Slot), TS κ fE σ0 sg s H locs → (i.toInt < j.toInt) → (j.toInt ≤ 48) → (∀ z : Nat, ix i < z → (z : Int) < j.toInt → (zI σ0 rs z).toInt ≠ -1) → lv_has ls 3 [(2, .int j), (0, .ref this), (1, .int i)] → (48 - j.toInt) < n9 → tW p l e 1 21 κ s m #[.ref this, .int i] below meth c H locs Q9 (F0 m 4 ls []) := by
    intro n9
    induction n9 with
    | zero =>
      intro j H locs sg ls hT q1 q2 q3 hl hm9
      exfalso
      omega
    | succ n9 ih9 =>
      have ih4 := ih9
      clear ih9
      intro j H locs s2 ls hT q1 q2 q3 hl hm9
      refine lv_iload_n hx hb dX1_rightOf_4 rfl (lv_at hl 0 rfl) ?_
      refine lv_aload_n hx hb dX1_rightOf_5 rfl (lv_at hl 1 rfl) ?_
      refine va_get (D := κ.1) (ci := 1) (v := .ref (kR κ this 0)) (C := RX1) (T := TX1) (N := 13) hx hb hg inX1 hown hK (hT.o3 (hT.k t_this (by decide))).one 0 rfl rfl 0 (by decide) (hg _ k278) (fun _ h9 => h9) rfl dX1_rightOf_6 ?_
      rw [esrc]
      obtain ⟨v3, ev3⟩ : ∃ zz9 : Int32, zI σ0 src 2 = zz9 := ⟨_, rfl⟩
      have qv3 : v3.toInt = (zI σ0 src 2).toInt := by rw [ev3]
      have b4 := (hT.P (hT.k tsrc (by decide)) (by decide)).1
      rw [(hT.eI tsrc (by decide) rfl ev3)] at b4
      have b4l := b4.1
      have b4h := b4.2
      refine va_get (D := κ.1) (ci := 0) (v := .int (zI s2 src 2)) (C := RX0) (T := TX0) (N := 7) hx hb hg inX0 hown hK (hT.o4 (hT.k tsrc (by decide))).one 0 rfl rfl 2 (by decide) (hg _ k162) (fun _ h9 => h9) rfl dX1_rightOf_9 ?_
      rw [(hT.eI tsrc (by decide) rfl ev3)]
      refine lv_icmp_ge (tgt := 31) hx hb dX1_rightOf_12 (by decide) (fun c9 => ?_) (fun c9 => ?_)
      · have c1 := gi_le c9
        refine lv_iconst (v := (-1)) hx hb dX1_rightOf_31 (by decide) ?_
        subst hQ9
        exact t_i hx hb hr hlocks hT (Or.inl ⟨nm1, fun z hz h2 => by rw [ers]; rw [esrc] at h2; exact q3 z hz (by omega)⟩) dX1_rightOf_32
      · have c2 := gi_nle c9
        have i_j : (ix j : Int) = j.toInt := by unfold ix; omega
        refine lv_aload_n hx hb dX1_rightOf_15 rfl (lv_at hl 1 rfl) ?_
        refine lv_iload_n hx hb dX1_rightOf_16 rfl (lv_at hl 0 rfl) ?_
        have hTo := hT
        refine tVi (n := 1) (As := [.int j]) (rest := []) hx hb hml hown hg hT hK hX (X1v_isPresent l κ s2 this j  (hT.k t_this (by decide)) (by omega) (by omega)) (fun _ _ h => h) (mwV k459 k460 k461 k87 k462) ⟨rfl, by decide, by decide, by decide +kernel⟩ ⟨(Nat.le_of_ble_eq_true rfl), (Nat.le_of_ble_eq_true rfl)⟩ (hT.o3 (hT.k t_this (by decide))) rfl rfl hl.1 rfl (Nat.le_of_ble_eq_true rfl) dX1_rightOf_17 zroom.rf (fun x5 s6 H locs hφ hEs6 hT => ?_)
        obtain ⟨f7, f8⟩ := hφ
        rw [ers] at f7
        rw [show zI s2 rs = zI σ0 rs from funext fun k => trs.eI hTo.2.2.1 (by decide) rfl] at f7
        refine lv_if_eq (tgt := 25) hx hb dX1_rightOf_20 (by decide) (fun c9 => ?_) (fun c9 => ?_)
        · have c3 := gi_eq c9
          obtain ⟨t9, qt9⟩ : ∃ zz9 : Int32, j + Int32.ofInt 1 = zz9 := ⟨_, rfl⟩
          refine lv_iinc (v := t9) (lv' := [(2, .int t9), (0, .ref this), (1, .int i)]) hx hb dX1_rightOf_25 hl (k := 0) rfl qt9 (by decide) rfl (fun ls hl => ?_)
          have ht9 : t9.toInt = j.toInt + 1 := by rw [← qt9]; exact v_addi rfl (show (Int32.ofInt 1).toInt = 1 from by decide) (by omega) (by omega)
          refine lv_goto (tgt := 4) hx hb dX1_rightOf_28 (by decide) ?_
          have ne10 : (zI σ0 rs (ix j)).toInt ≠ -1 := by omega
          exact ih4 t9 _ _ _ _ hT  (by omega) (by omega) (fun z h1 h2 => (Classical.em (z = ix j)).elim (fun e9 => by rw [e9]; exact ne10) (fun e9 => q3 z h1 (by omega))) hl (by omega)
        · have c4 := gi_ne c9
          refine lv_iload_n hx hb dX1_rightOf_23 rfl (lv_at hl 0 rfl) ?_
          subst hQ9
          exact t_i hx hb hr hlocks hT (Or.inr ⟨ix j, by omega, by rw [ers, esrc]; exact ⟨⟨by unfold ix; omega, by omega⟩, (show (zI σ0 rs (ix j)).toInt = -1 by omega), fun z h1 h2 => q3 z h1 (by omega)⟩⟩) dX1_rightOf_24
  exact loop4 ((48 - t1.toInt).toNat + 1) t1 _ _ _ _ hT  (by omega) (by omega) (fun z h1 h2 => by unfold ix at h1; omega) hl (by omega)
set_option maxHeartbeats 4000000 in
set_option maxRecDepth 100000 in
theorem X1v_isLeftNear (l : Launch) (κ : Kt) (σ0 : Gh) (this : Nat) (x : Int32) (po : Int32) (y : Int32) {N : Nat} {P : Nat → Int} {p q : Nat} (t_this : zk σ0 this 3) (h0 : SRC κ σ0 this N P) (h1 : PLI N P) (h2 : x.toInt = p) (h3 : y.toInt = q) (h4 : p < N) (h5 : q < N) (h6 : 0 ≤ po.toInt) (h7 : po.toInt ≤ 9999) : TC l yX1_isLeftNear cX1_isLeftNear 4 (some .boolean) 0 0 [.ref this, .int x, .int po, .int y] κ σ0 (tqi κ fE σ0 (fun (r : Int32) (τ : Gh) => ((r.toInt = 1 ∧ po.toInt - P p ≤ P q - po.toInt) ∨ (r.toInt = 0 ∧ P q - po.toInt < po.toInt - P p)) ∧ (isB r))) := by
  refine TC.of fE (by decide +kernel) (Nat.le_of_ble_eq_true rfl) ?_
  intro p e s m below meth c ls hcs hK hX hT hl
  obtain ⟨hx, hb, hr, hml, hown, hg, hlocks, hin⟩ := hcs
  have hown : s.vm.findClass RX1 = some m.cls := hown
  have hl : lv_has ls 4 [(0, .ref this), (1, .int x), (2, .int po), (3, .int y)] := hl
  have hT0 := hT
  have n0 : (0 : Int32).toInt = 0 := by decide
  have n1 : (1 : Int32).toInt = 1 := by decide
  have x_lo := Int32.le_toInt x
  have x_hi := Int32.toInt_lt x
  have po_lo := Int32.le_toInt po
  have po_hi := Int32.toInt_lt po
  have y_lo := Int32.le_toInt y
  have y_hi := Int32.toInt_lt y
  generalize hQ9 : tQ _ _ _ _ _ _ = Q9
  obtain ⟨src, esrc⟩ : ∃ z, kR κ this 0 = z := ⟨_, rfl⟩
  have tsrc : zk σ0 src 4 := by rw [← esrc]; exact hT0.ref t_this (by decide) (by decide) (by decide)
  have bsrc := (hT0.P tsrc (by decide)).1
  have bsrcl := bsrc.1
  have bsrch := bsrc.2
  obtain ⟨rp, erp⟩ : ∃ z, kR κ src 0 = z := ⟨_, rfl⟩
  have trp : zk σ0 rp 8 := by rw [← erp]; exact hT0.ref tsrc (by decide) (by decide) (by decide)
  have hN := h0.1
  have hPS := h0.2
  rw [esrc] at hN hPS
  rw [erp] at hPS
  have hP48 : N ≤ 48 := by omega
  have bp := (h1 p (by omega)).1
  have bq := (h1 q (by omega)).1
  have ex := ixof h2
  have ey := ixof h3
  refine lv_iload_n hx hb dX1_isLeftNear_0 rfl (lv_at hl 2 rfl) ?_
  refine lv_aload_n hx hb dX1_isLeftNear_1 rfl (lv_at hl 0 rfl) ?_
  refine va_get (D := κ.1) (ci := 1) (v := .ref (kR κ this 0)) (C := RX1) (T := TX1) (N := 13) hx hb hg inX1 hown hK (hT.o3 (hT.k t_this (by decide))).one 0 rfl rfl 0 (by decide) (hg _ k278) (fun _ h9 => h9) rfl dX1_isLeftNear_2 ?_
  rw [esrc]
  refine va_get (D := κ.1) (ci := 0) (v := .ref (kR κ src 0)) (C := RX0) (T := TX0) (N := 7) hx hb hg inX0 hown hK (hT.o4 (hT.k tsrc (by decide))).one 0 rfl rfl 0 (by decide) (hg _ k157) (fun _ h9 => h9) rfl dX1_isLeftNear_5 ?_
  rw [erp]
  refine lv_iload_n hx hb dX1_isLeftNear_8 rfl (lv_at hl 1 rfl) ?_
  refine va_iald hx hb hK (hT.o8 (hT.k trp (by decide))).one 0 0 rfl rfl (g_in (by omega) (by omega)) dX1_isLeftNear_9 ?_
  refine lv_topi (fun t1 ht1 => ?_)
  have xt1 : t1.toInt = P p := by rw [ht1, ex]; exact hPS p (by omega)
  refine lv_isub hx hb dX1_isLeftNear_10 ?_
  first | refine g_sub (by omega) (by omega) (fun t2 ht2 => ?_) | refine lv_topi (fun t2 ht2 => ?_)
  refine lv_aload_n hx hb dX1_isLeftNear_11 rfl (lv_at hl 0 rfl) ?_
  refine va_get (D := κ.1) (ci := 1) (v := .ref (kR κ this 0)) (C := RX1) (T := TX1) (N := 13) hx hb hg inX1 hown hK (hT.o3 (hT.k t_this (by decide))).one 0 rfl rfl 0 (by decide) (hg _ k278) (fun _ h9 => h9) rfl dX1_isLeftNear_12 ?_
  rw [esrc]
  refine va_get (D := κ.1) (ci := 0) (v := .ref (kR κ src 0)) (C := RX0) (T := TX0) (N := 7) hx hb hg inX0 hown hK (hT.o4 (hT.k tsrc (by decide))).one 0 rfl rfl 0 (by decide) (hg _ k157) (fun _ h9 => h9) rfl dX1_isLeftNear_15 ?_
  rw [erp]
  refine lv_iload_n hx hb dX1_isLeftNear_18 rfl (lv_at hl 3 rfl) ?_
  refine va_iald hx hb hK (hT.o8 (hT.k trp (by decide))).one 0 0 rfl rfl (g_in (by omega) (by omega)) dX1_isLeftNear_19 ?_
  refine lv_topi (fun t3 ht3 => ?_)
  have xt3 : t3.toInt = P q := by rw [ht3, ey]; exact hPS q (by omega)
  refine lv_iload_n hx hb dX1_isLeftNear_20 rfl (lv_at hl 2 rfl) ?_
  refine lv_isub hx hb dX1_isLeftNear_21 ?_
  first | refine g_sub (by omega) (by omega) (fun t4 ht4 => ?_) | refine lv_topi (fun t4 ht4 => ?_)
  refine lv_icmp_gt (tgt := 29) hx hb dX1_isLeftNear_22 (by decide) (fun c9 => ?_) (fun c9 => ?_)
  · have c1 := gi_lt c9
    refine lv_iconst (v := 0) hx hb dX1_isLeftNear_29 (by decide) ?_
    subst hQ9
    exact t_z hx hb hr isB0 hlocks hT ⟨by omega, isB0⟩ dX1_isLeftNear_30
  · have c2 := gi_nlt c9
    refine lv_iconst (v := 1) hx hb dX1_isLeftNear_25 (by decide) ?_
    refine lv_goto (tgt := 30) hx hb dX1_isLeftNear_26 (by decide) ?_
    subst hQ9
    exact t_z hx hb hr isB1 hlocks hT ⟨by omega, isB1⟩ dX1_isLeftNear_30
set_option maxHeartbeats 4000000 in
set_option maxRecDepth 100000 in
theorem X1v_predictInto (l : Launch) (κ : Kt) (σ0 : Gh) (this : Nat) (into : Nat) (ru : Int32) (x : Int32) (po : Int32) (y : Int32) {N : Nat} {P v : Nat → Int} {rl : Int} {k p q : Nat} (t_this : zk σ0 this 3) (t_into : zk σ0 into 1) (h0 : SRC κ σ0 this N P) (h1 : PLI N P) (h2 : VLS κ σ0 (kR κ this 1) N v) (h3 : ∀ i, i < N → kR κ (kR κ this 1) i ≠ into) (h4 : x.toInt = p) (h5 : y.toInt = q) (h6 : po.toInt = P k) (h7 : p < k ∧ k < q ∧ q < N) (h8 : ru.toInt = rl) (h9 : rl = 0 ∨ rl = 1 ∨ rl = 2) (h10 : -1114000000 ≤ v p ∧ v p ≤ 1114000000) (h11 : -1114000000 ≤ v q ∧ v q ≤ 1114000000) : TC l yX1_predictInto cX1_predictInto 6 none 2 50 [.ref this, .ref into, .int ru, .int x, .int po, .int y] κ σ0 (tqv κ fX σ0 (fun (τ : Gh) => (WV τ into (prd P v rl k p q)) ∧ (FW σ0 τ into))) := by
  refine TC.of fX (by decide +kernel) (Nat.le_of_ble_eq_true rfl) ?_
  intro p e s m below meth c ls hcs hK hX hT hl
  obtain ⟨hx, hb, hr, hml, hown, hg, hlocks, hin⟩ := hcs
  have hown : s.vm.findClass RX1 = some m.cls := hown
  have hl : lv_has ls 6 [(0, .ref this), (1, .ref into), (2, .int ru), (3, .int x), (4, .int po), (5, .int y)] := hl
  have hT0 := hT
  have n0 : (0 : Int32).toInt = 0 := by decide
  have n1 : (1 : Int32).toInt = 1 := by decide
  have n2 : (2 : Int32).toInt = 2 := by decide
  have jm1 : ((-1) : Int64).toInt = (-1) := by decide
  have j1 : (1 : Int64).toInt = 1 := by decide
  have ru_lo := Int32.le_toInt ru
  have ru_hi := Int32.toInt_lt ru
  have x_lo := Int32.le_toInt x
  have x_hi := Int32.toInt_lt x
  have po_lo := Int32.le_toInt po
  have po_hi := Int32.toInt_lt po
  have y_lo := Int32.le_toInt y
  have y_hi := Int32.toInt_lt y
  generalize hQ9 : tQ _ _ _ _ _ _ = Q9
  obtain ⟨src, esrc⟩ : ∃ z, kR κ this 0 = z := ⟨_, rfl⟩
  have tsrc : zk σ0 src 4 := by rw [← esrc]; exact hT0.ref t_this (by decide) (by decide) (by decide)
  have bsrc := (hT0.P tsrc (by decide)).1
  have bsrcl := bsrc.1
  have bsrch := bsrc.2
  obtain ⟨rp, erp⟩ : ∃ z, kR κ src 0 = z := ⟨_, rfl⟩
  have trp : zk σ0 rp 8 := by rw [← erp]; exact hT0.ref tsrc (by decide) (by decide) (by decide)
  obtain ⟨rv, erv⟩ : ∃ z, kR κ this 1 = z := ⟨_, rfl⟩
  have trv : zk σ0 rv 10 := by rw [← erv]; exact hT0.ref t_this (by decide) (by decide) (by decide)
  have hN := h0.1
  have hPS := h0.2
  rw [esrc] at hN hPS
  rw [erp] at hPS
  have hP48 : N ≤ 48 := by omega
  have ex := ixof h4
  have ey := ixof h5
  have bk := (h1 k (by omega)).1
  have bp := (h1 p (by omega)).1
  have bq := (h1 q (by omega)).1
  have opk := h1.lt h7.1 (by omega)
  have okq := h1.lt h7.2.1 h7.2.2
  have hVL := h2
  have hne := h3
  rw [erv] at hVL hne
  have hkv : ∀ i, i < N → zk σ0 (kR κ rv i) 1 := fun i hi => hT0.kv trv (by omega)
  obtain ⟨E9, hM⟩ : ∃ E : Nat → Prop, ∀ a, E a ↔ (a = into) := ⟨fun a => a = into, fun _ => Iff.rfl⟩
  have hnE : ∀ i, i < N → ¬ E9 (kR κ rv i) := fun i hi q9 => hne i hi ((hM _).mp q9)
  refine lv_iload_n hx hb dX1_predictInto_0 rfl (lv_at hl 2 rfl) ?_
  refine lv_if_eq (tgt := 21) hx hb dX1_predictInto_1 (by decide) (fun c9 => ?_) (fun c9 => ?_)
  · have c1 := gi_eq c9
    refine lv_aload_n hx hb dX1_predictInto_21 rfl (lv_at hl 1 rfl) ?_
    refine lv_aload_n hx hb dX1_predictInto_22 rfl (lv_at hl 0 rfl) ?_
    refine va_get (D := κ.1) (ci := 1) (v := .ref (kR κ this 1)) (C := RX1) (T := TX1) (N := 13) hx hb hg inX1 hown hK (hT.o3 (hT.k t_this (by decide))).one 0 rfl rfl 1 (by decide) (hg _ k279) (fun _ h9 => h9) rfl dX1_predictInto_23 ?_
    rw [erv]
    refine lv_iload_n hx hb dX1_predictInto_26 rfl (lv_at hl 3 rfl) ?_
    refine va_aldq hx hb hK (hT.o10 (hT.k trv (by decide))).one 0 4 rfl rfl (g_in (by omega) (by omega)) dX1_predictInto_27 ?_
    obtain ⟨r2, er2⟩ : ∃ z, kR κ rv (ix x) = z := ⟨_, rfl⟩
    have tr2 : zk σ0 r2 1 := by rw [← er2]; exact hT0.ref trv (by decide) (zR10 (ix_lt (by omega) (by omega))) (by decide)
    refine tv (.ref r2) (by rw [← er2]; rfl) ?_
    have wr2 : WV σ0 r2 (v p) := by rw [← er2, ex]; exact (hVL.fp (FP.rf (E := E9)) hkv hnE) p (by omega)
    obtain ⟨h5, oh5, th5⟩ := hT.o1 (hT.k t_into (by decide))
    have hTo := hT
    refine tVv (n := 1) (As := [.ref r2]) (rest := []) hx hb hml hown hg hT hK hX (X4v_copyFrom l κ σ0 into r2  (hT.k t_into (by decide)) (hT.k tr2 (by decide)) wr2) (fun _ _ h => h) (mwV k455 k456 k457 k88 k458) ⟨rfl, by decide, by decide, by decide +kernel⟩ ⟨(Nat.le_of_ble_eq_true rfl), (Nat.le_of_ble_eq_true rfl)⟩ oh5 rfl rfl hl.1 rfl (Nat.le_of_ble_eq_true rfl) dX1_predictInto_28 zroom.rf (fun s4 H locs hφ hEs4 hT => ?_)
    obtain ⟨f6, f7⟩ := hφ
    have fp8 : FP σ0 s4 E9 := FP.call hTo (FP.rf (E := E9)) f7 ((hM _).mpr rfl)
    subst hQ9
    exact t_v hx hb hr hlocks hT ⟨by rw [show prd P v rl k p q = v p from if_pos (by omega)]; exact f6, fp8.toW (fun a q9 => (hM a).mp q9)⟩ dX1_predictInto_31
  · have c2 := gi_ne c9
    refine lv_iload_n hx hb dX1_predictInto_4 rfl (lv_at hl 2 rfl) ?_
    refine lv_iconst (v := 1) hx hb dX1_predictInto_5 (by decide) ?_
    refine lv_icmp_ne (tgt := 32) hx hb dX1_predictInto_6 (by decide) (fun c9 => ?_) (fun c9 => ?_)
    · have c3 := gi_ne c9
      refine lv_aload_n hx hb dX1_predictInto_32 rfl (lv_at hl 1 rfl) ?_
      refine lv_aload_n hx hb dX1_predictInto_33 rfl (lv_at hl 0 rfl) ?_
      refine va_get (D := κ.1) (ci := 1) (v := .ref (kR κ this 1)) (C := RX1) (T := TX1) (N := 13) hx hb hg inX1 hown hK (hT.o3 (hT.k t_this (by decide))).one 0 rfl rfl 1 (by decide) (hg _ k279) (fun _ h9 => h9) rfl dX1_predictInto_34 ?_
      rw [erv]
      refine lv_iload hx hb dX1_predictInto_37 (lv_at hl 5 rfl) ?_
      refine va_aldq hx hb hK (hT.o10 (hT.k trv (by decide))).one 0 4 rfl rfl (g_in (by omega) (by omega)) dX1_predictInto_39 ?_
      obtain ⟨r10, er10⟩ : ∃ z, kR κ rv (ix y) = z := ⟨_, rfl⟩
      have tr10 : zk σ0 r10 1 := by rw [← er10]; exact hT0.ref trv (by decide) (zR10 (ix_lt (by omega) (by omega))) (by decide)
      refine tv (.ref r10) (by rw [← er10]; rfl) ?_
      have wr10 : WV σ0 r10 (v q) := by rw [← er10, ey]; exact (hVL.fp (FP.rf (E := E9)) hkv hnE) q (by omega)
      obtain ⟨h13, oh13, th13⟩ := hT.o1 (hT.k t_into (by decide))
      have hTo := hT
      refine tVv (n := 1) (As := [.ref r10]) (rest := []) hx hb hml hown hg hT hK hX (X4v_copyFrom l κ σ0 into r10  (hT.k t_into (by decide)) (hT.k tr10 (by decide)) wr10) (fun _ _ h => h) (mwV k455 k456 k457 k88 k458) ⟨rfl, by decide, by decide, by decide +kernel⟩ ⟨(Nat.le_of_ble_eq_true rfl), (Nat.le_of_ble_eq_true rfl)⟩ oh13 rfl rfl hl.1 rfl (Nat.le_of_ble_eq_true rfl) dX1_predictInto_40 zroom.rf (fun s12 H locs hφ hEs12 hT => ?_)
      obtain ⟨f14, f15⟩ := hφ
      have fp16 : FP σ0 s12 E9 := FP.call hTo (FP.rf (E := E9)) f15 ((hM _).mpr rfl)
      refine lv_iload_n hx hb dX1_predictInto_43 rfl (lv_at hl 2 rfl) ?_
      refine lv_iconst (v := 2) hx hb dX1_predictInto_44 (by decide) ?_
      refine lv_icmp_ne (tgt := 110) hx hb dX1_predictInto_45 (by decide) (fun c9 => ?_) (fun c9 => ?_)
      · have c4 := gi_ne c9
        subst hQ9
        exact t_v hx hb hr hlocks hT ⟨by rw [show prd P v rl k p q = v q from by unfold prd; rw [if_neg (by omega), if_neg (by omega)]]; exact f14, fp16.toW (fun a q9 => (hM a).mp q9)⟩ dX1_predictInto_110
      · have c5 := gi_eq c9
        refine lv_aload_n hx hb dX1_predictInto_48 rfl (lv_at hl 1 rfl) ?_
        refine lv_aload_n hx hb dX1_predictInto_49 rfl (lv_at hl 0 rfl) ?_
        refine va_get (D := κ.1) (ci := 1) (v := .ref (kR κ this 1)) (C := RX1) (T := TX1) (N := 13) hx hb hg inX1 hown hK (hT.o3 (hT.k t_this (by decide))).one 0 rfl rfl 1 (by decide) (hg _ k279) (fun _ h9 => h9) rfl dX1_predictInto_50 ?_
        rw [erv]
        refine lv_iload_n hx hb dX1_predictInto_53 rfl (lv_at hl 3 rfl) ?_
        refine va_aldq hx hb hK (hT.o10 (hT.k trv (by decide))).one 0 4 rfl rfl (g_in (by omega) (by omega)) dX1_predictInto_54 ?_
        obtain ⟨r18, er18⟩ : ∃ z, kR κ rv (ix x) = z := ⟨_, rfl⟩
        have tr18 : zk σ0 r18 1 := by rw [← er18]; exact hT0.ref trv (by decide) (zR10 (ix_lt (by omega) (by omega))) (by decide)
        refine tv (.ref r18) (by rw [← er18]; rfl) ?_
        have wr18 : WV s12 r18 (v p) := by rw [← er18, ex]; exact (hVL.fp fp16 hkv hnE) p (by omega)
        refine lv_ldc2 hx hb hown (hg _ k550) dX1_predictInto_55 ?_
        obtain ⟨h21, oh21, th21⟩ := hT.o1 (hT.k t_into (by decide))
        have hTo := hT
        refine tVv (n := 2) (As := [.ref r18, .long (-1)]) (rest := []) hx hb hml hown hg hT hK hX (X4v_add l κ s12 into r18 (-1)  (hT.k t_into (by decide)) (hT.k tr18 (by decide)) f14 wr18 (by rw [jm1]; omega) (by rw [jm1]; omega) (by rw [jm1]; omega) (by rw [jm1]; omega)) (fun _ _ h => h) (mwV k340 k341 k342 k88 k343) ⟨rfl, by decide, by decide, by decide +kernel⟩ ⟨(Nat.le_of_ble_eq_true rfl), (Nat.le_of_ble_eq_true rfl)⟩ oh21 rfl rfl hl.1 rfl (Nat.le_of_ble_eq_true rfl) dX1_predictInto_58 zroom.rf (fun s20 H locs hφ hEs20 hT => ?_)
        obtain ⟨f22, f23⟩ := hφ
        have fp24 : FP σ0 s20 E9 := FP.call hTo fp16 f23 ((hM _).mpr rfl)
        have wv25 : WV s20 into (v q - v p) := by have z9 := f22; rw [show v q + v p * (-1 : Int64).toInt = v q - v p from by rw [jm1]; omega] at z9; exact z9
        refine lv_aload_n hx hb dX1_predictInto_61 rfl (lv_at hl 1 rfl) ?_
        refine lv_iload hx hb dX1_predictInto_62 (lv_at hl 4 rfl) ?_
        refine lv_aload_n hx hb dX1_predictInto_64 rfl (lv_at hl 0 rfl) ?_
        refine va_get (D := κ.1) (ci := 1) (v := .ref (kR κ this 0)) (C := RX1) (T := TX1) (N := 13) hx hb hg inX1 hown hK (hT.o3 (hT.k t_this (by decide))).one 0 rfl rfl 0 (by decide) (hg _ k278) (fun _ h9 => h9) rfl dX1_predictInto_65 ?_
        rw [esrc]
        refine va_get (D := κ.1) (ci := 0) (v := .ref (kR κ src 0)) (C := RX0) (T := TX0) (N := 7) hx hb hg inX0 hown hK (hT.o4 (hT.k tsrc (by decide))).one 0 rfl rfl 0 (by decide) (hg _ k157) (fun _ h9 => h9) rfl dX1_predictInto_68 ?_
        rw [erp]
        refine lv_iload_n hx hb dX1_predictInto_71 rfl (lv_at hl 3 rfl) ?_
        refine va_iald hx hb hK (hT.o8 (hT.k trp (by decide))).one 0 0 rfl rfl (g_in (by omega) (by omega)) dX1_predictInto_72 ?_
        refine lv_topi (fun t26 ht26 => ?_)
        have xt26 : t26.toInt = P p := by rw [ht26, ex, show zI s20 rp p = zI σ0 rp p from trp.eI hT.2.2.1 (by decide) rfl]; exact hPS p (by omega)
        refine lv_isub hx hb dX1_predictInto_73 ?_
        first | refine g_sub (by omega) (by omega) (fun t27 ht27 => ?_) | refine lv_topi (fun t27 ht27 => ?_)
        refine lv_i2l hx hb dX1_predictInto_74 rfl ?_
        refine g_i2l (fun t28 ht28 => ?_)
        refine lv_aload_n hx hb dX1_predictInto_75 rfl (lv_at hl 0 rfl) ?_
        refine va_get (D := κ.1) (ci := 1) (v := .ref (kR κ this 0)) (C := RX1) (T := TX1) (N := 13) hx hb hg inX1 hown hK (hT.o3 (hT.k t_this (by decide))).one 0 rfl rfl 0 (by decide) (hg _ k278) (fun _ h9 => h9) rfl dX1_predictInto_76 ?_
        rw [esrc]
        refine va_get (D := κ.1) (ci := 0) (v := .ref (kR κ src 0)) (C := RX0) (T := TX0) (N := 7) hx hb hg inX0 hown hK (hT.o4 (hT.k tsrc (by decide))).one 0 rfl rfl 0 (by decide) (hg _ k157) (fun _ h9 => h9) rfl dX1_predictInto_79 ?_
        rw [erp]
        refine lv_iload hx hb dX1_predictInto_82 (lv_at hl 5 rfl) ?_
        refine va_iald hx hb hK (hT.o8 (hT.k trp (by decide))).one 0 0 rfl rfl (g_in (by omega) (by omega)) dX1_predictInto_84 ?_
        refine lv_topi (fun t29 ht29 => ?_)
        have xt29 : t29.toInt = P q := by rw [ht29, ey, show zI s20 rp q = zI σ0 rp q from trp.eI hT.2.2.1 (by decide) rfl]; exact hPS q (by omega)
        refine lv_aload_n hx hb dX1_predictInto_85 rfl (lv_at hl 0 rfl) ?_
        refine va_get (D := κ.1) (ci := 1) (v := .ref (kR κ this 0)) (C := RX1) (T := TX1) (N := 13) hx hb hg inX1 hown hK (hT.o3 (hT.k t_this (by decide))).one 0 rfl rfl 0 (by decide) (hg _ k278) (fun _ h9 => h9) rfl dX1_predictInto_86 ?_
        rw [esrc]
        refine va_get (D := κ.1) (ci := 0) (v := .ref (kR κ src 0)) (C := RX0) (T := TX0) (N := 7) hx hb hg inX0 hown hK (hT.o4 (hT.k tsrc (by decide))).one 0 rfl rfl 0 (by decide) (hg _ k157) (fun _ h9 => h9) rfl dX1_predictInto_89 ?_
        rw [erp]
        refine lv_iload_n hx hb dX1_predictInto_92 rfl (lv_at hl 3 rfl) ?_
        refine va_iald hx hb hK (hT.o8 (hT.k trp (by decide))).one 0 0 rfl rfl (g_in (by omega) (by omega)) dX1_predictInto_93 ?_
        refine lv_topi (fun t30 ht30 => ?_)
        have xt30 : t30.toInt = P p := by rw [ht30, ex, show zI s20 rp p = zI σ0 rp p from trp.eI hT.2.2.1 (by decide) rfl]; exact hPS p (by omega)
        refine lv_isub hx hb dX1_predictInto_94 ?_
        first | refine g_sub (by omega) (by omega) (fun t31 ht31 => ?_) | refine lv_topi (fun t31 ht31 => ?_)
        refine lv_i2l hx hb dX1_predictInto_95 rfl ?_
        refine g_i2l (fun t32 ht32 => ?_)
        have hX9 : t28.toInt = P k - P p := by omega
        have hY9 : t32.toInt = P q - P p := by omega
        have nu := prd_num (a := v q - v p) (x := P k - P p) (D := P q - P p) (by omega) (by omega) (by omega) (by omega) (by omega) rfl
        obtain ⟨h35, oh35, th35⟩ := hT.o1 (hT.k t_into (by decide))
        have hTo := hT
        refine tVv (n := 2) (As := [.long t28, .long t32]) (rest := []) hx hb hml hown hg hT hK hX (X4v_scale l κ s20 into t28 t32  (hT.k t_into (by decide)) wv25 (by omega) (by rw [hX9]; omega) (by rw [hX9]; omega) (by rw [hX9, hY9]; omega) (by rw [hX9, hY9]; omega)) (fun _ _ h => h) (mwV k551 k552 k553 k88 k554) ⟨rfl, by decide, by decide, by decide +kernel⟩ ⟨(Nat.le_of_ble_eq_true rfl), (Nat.le_of_ble_eq_true rfl)⟩ oh35 rfl rfl hl.1 rfl (Nat.le_of_ble_eq_true rfl) dX1_predictInto_96 zroom.rf (fun s34 H locs hφ hEs34 hT => ?_)
        obtain ⟨f36, f37⟩ := hφ
        have fp38 : FP σ0 s34 E9 := FP.call hTo fp24 f37 ((hM _).mpr rfl)
        have wv39 : WV s34 into ((v q - v p) * (P k - P p) / (P q - P p)) := by have z9 := f36; rw [hX9, hY9] at z9; exact z9
        refine lv_aload_n hx hb dX1_predictInto_99 rfl (lv_at hl 1 rfl) ?_
        refine lv_aload_n hx hb dX1_predictInto_100 rfl (lv_at hl 0 rfl) ?_
        refine va_get (D := κ.1) (ci := 1) (v := .ref (kR κ this 1)) (C := RX1) (T := TX1) (N := 13) hx hb hg inX1 hown hK (hT.o3 (hT.k t_this (by decide))).one 0 rfl rfl 1 (by decide) (hg _ k279) (fun _ h9 => h9) rfl dX1_predictInto_101 ?_
        rw [erv]
        refine lv_iload_n hx hb dX1_predictInto_104 rfl (lv_at hl 3 rfl) ?_
        refine va_aldq hx hb hK (hT.o10 (hT.k trv (by decide))).one 0 4 rfl rfl (g_in (by omega) (by omega)) dX1_predictInto_105 ?_
        obtain ⟨r41, er41⟩ : ∃ z, kR κ rv (ix x) = z := ⟨_, rfl⟩
        have tr41 : zk σ0 r41 1 := by rw [← er41]; exact hT0.ref trv (by decide) (zR10 (ix_lt (by omega) (by omega))) (by decide)
        refine tv (.ref r41) (by rw [← er41]; rfl) ?_
        have wr41 : WV s34 r41 (v p) := by rw [← er41, ex]; exact (hVL.fp fp38 hkv hnE) p (by omega)
        refine lv_lconst (v := 1) hx hb dX1_predictInto_106 (by decide) ?_
        obtain ⟨h44, oh44, th44⟩ := hT.o1 (hT.k t_into (by decide))
        have hTo := hT
        refine tVv (n := 2) (As := [.ref r41, .long 1]) (rest := []) hx hb hml hown hg hT hK hX (X4v_add l κ s34 into r41 1  (hT.k t_into (by decide)) (hT.k tr41 (by decide)) wv39 wr41 (by rw [j1]; omega) (by rw [j1]; omega) (by rw [j1]; omega) (by rw [j1]; omega)) (fun _ _ h => h) (mwV k340 k341 k342 k88 k343) ⟨rfl, by decide, by decide, by decide +kernel⟩ ⟨(Nat.le_of_ble_eq_true rfl), (Nat.le_of_ble_eq_true rfl)⟩ oh44 rfl rfl hl.1 rfl (Nat.le_of_ble_eq_true rfl) dX1_predictInto_107 zroom.rf (fun s43 H locs hφ hEs43 hT => ?_)
        obtain ⟨f45, f46⟩ := hφ
        have fp47 : FP σ0 s43 E9 := FP.call hTo fp38 f46 ((hM _).mpr rfl)
        have wv48 : WV s43 into (v p + (v q - v p) * (P k - P p) / (P q - P p)) := by have z9 := f45; rw [show (v q - v p) * (P k - P p) / (P q - P p) + v p * (1 : Int64).toInt = v p + (v q - v p) * (P k - P p) / (P q - P p) from by rw [j1]; omega] at z9; exact z9
        subst hQ9
        exact t_v hx hb hr hlocks hT ⟨by rw [show prd P v rl k p q = v p + (v q - v p) * (P k - P p) / (P q - P p) from by unfold prd; rw [if_neg (by omega), if_pos (by omega)]]; exact wv48, fp47.toW (fun a q9 => (hM a).mp q9)⟩ dX1_predictInto_110
    · have c6 := gi_eq c9
      refine lv_aload_n hx hb dX1_predictInto_9 rfl (lv_at hl 0 rfl) ?_
      refine lv_iload_n hx hb dX1_predictInto_10 rfl (lv_at hl 3 rfl) ?_
      refine lv_iload hx hb dX1_predictInto_11 (lv_at hl 4 rfl) ?_
      refine lv_iload hx hb dX1_predictInto_13 (lv_at hl 5 rfl) ?_
      have hTo := hT
      refine tVi (n := 3) (As := [.int x, .int po, .int y]) (rest := []) hx hb hml hown hg hT hK hX (X1v_isLeftNear (N := N) (P := P) (p := p) (q := q) l κ σ0 this x po y  (hT.k t_this (by decide)) h0 h1 (by omega) (by omega) (by omega) (by omega) (by omega) (by omega)) sub_fE_fX (mwV k546 k548 k11 k87 k549) ⟨rfl, by decide, by decide, by decide +kernel⟩ ⟨(Nat.le_of_ble_eq_true rfl), (Nat.le_of_ble_eq_true rfl)⟩ (hT.o3 (hT.k t_this (by decide))) rfl rfl hl.1 rfl (Nat.le_of_ble_eq_true rfl) dX1_predictInto_15 zroom.rf (fun x49 s50 H locs hφ hEs50 hT => ?_)
      have fa51 : FA σ0 s50 := FA.ro hTo hEs50 (fun _ => rfl) (fun _ _ => rfl)
      have fp52 : FP σ0 s50 E9 := FP.callA hTo (FP.rf (E := E9)) fa51
      obtain ⟨f53, f54⟩ := hφ
      refine lv_if_eq (tgt := 32) hx hb dX1_predictInto_18 (by decide) (fun c9 => ?_) (fun c9 => ?_)
      · have c7 := gi_eq c9
        refine lv_aload_n hx hb dX1_predictInto_32 rfl (lv_at hl 1 rfl) ?_
        refine lv_aload_n hx hb dX1_predictInto_33 rfl (lv_at hl 0 rfl) ?_
        refine va_get (D := κ.1) (ci := 1) (v := .ref (kR κ this 1)) (C := RX1) (T := TX1) (N := 13) hx hb hg inX1 hown hK (hT.o3 (hT.k t_this (by decide))).one 0 rfl rfl 1 (by decide) (hg _ k279) (fun _ h9 => h9) rfl dX1_predictInto_34 ?_
        rw [erv]
        refine lv_iload hx hb dX1_predictInto_37 (lv_at hl 5 rfl) ?_
        refine va_aldq hx hb hK (hT.o10 (hT.k trv (by decide))).one 0 4 rfl rfl (g_in (by omega) (by omega)) dX1_predictInto_39 ?_
        obtain ⟨r56, er56⟩ : ∃ z, kR κ rv (ix y) = z := ⟨_, rfl⟩
        have tr56 : zk σ0 r56 1 := by rw [← er56]; exact hT0.ref trv (by decide) (zR10 (ix_lt (by omega) (by omega))) (by decide)
        refine tv (.ref r56) (by rw [← er56]; rfl) ?_
        have wr56 : WV s50 r56 (v q) := by rw [← er56, ey]; exact (hVL.fp fp52 hkv hnE) q (by omega)
        obtain ⟨h59, oh59, th59⟩ := hT.o1 (hT.k t_into (by decide))
        have hTo := hT
        refine tVv (n := 1) (As := [.ref r56]) (rest := []) hx hb hml hown hg hT hK hX (X4v_copyFrom l κ s50 into r56  (hT.k t_into (by decide)) (hT.k tr56 (by decide)) wr56) (fun _ _ h => h) (mwV k455 k456 k457 k88 k458) ⟨rfl, by decide, by decide, by decide +kernel⟩ ⟨(Nat.le_of_ble_eq_true rfl), (Nat.le_of_ble_eq_true rfl)⟩ oh59 rfl rfl hl.1 rfl (Nat.le_of_ble_eq_true rfl) dX1_predictInto_40 zroom.rf (fun s58 H locs hφ hEs58 hT => ?_)
        obtain ⟨f60, f61⟩ := hφ
        have fp62 : FP σ0 s58 E9 := FP.call hTo fp52 f61 ((hM _).mpr rfl)
        refine lv_iload_n hx hb dX1_predictInto_43 rfl (lv_at hl 2 rfl) ?_
        refine lv_iconst (v := 2) hx hb dX1_predictInto_44 (by decide) ?_
        refine lv_icmp_ne (tgt := 110) hx hb dX1_predictInto_45 (by decide) (fun c9 => ?_) (fun c9 => ?_)
        · have c8 := gi_ne c9
          subst hQ9
          exact t_v hx hb hr hlocks hT ⟨by rw [show prd P v rl k p q = v q from by unfold prd; rw [if_neg (by omega), if_neg (by omega)]]; exact f60, fp62.toW (fun a q9 => (hM a).mp q9)⟩ dX1_predictInto_110
        · have c9 := gi_eq c9
          refine lv_aload_n hx hb dX1_predictInto_48 rfl (lv_at hl 1 rfl) ?_
          refine lv_aload_n hx hb dX1_predictInto_49 rfl (lv_at hl 0 rfl) ?_
          refine va_get (D := κ.1) (ci := 1) (v := .ref (kR κ this 1)) (C := RX1) (T := TX1) (N := 13) hx hb hg inX1 hown hK (hT.o3 (hT.k t_this (by decide))).one 0 rfl rfl 1 (by decide) (hg _ k279) (fun _ h9 => h9) rfl dX1_predictInto_50 ?_
          rw [erv]
          refine lv_iload_n hx hb dX1_predictInto_53 rfl (lv_at hl 3 rfl) ?_
          refine va_aldq hx hb hK (hT.o10 (hT.k trv (by decide))).one 0 4 rfl rfl (g_in (by omega) (by omega)) dX1_predictInto_54 ?_
          obtain ⟨r64, er64⟩ : ∃ z, kR κ rv (ix x) = z := ⟨_, rfl⟩
          have tr64 : zk σ0 r64 1 := by rw [← er64]; exact hT0.ref trv (by decide) (zR10 (ix_lt (by omega) (by omega))) (by decide)
          refine tv (.ref r64) (by rw [← er64]; rfl) ?_
          have wr64 : WV s58 r64 (v p) := by rw [← er64, ex]; exact (hVL.fp fp62 hkv hnE) p (by omega)
          refine lv_ldc2 hx hb hown (hg _ k550) dX1_predictInto_55 ?_
          obtain ⟨h67, oh67, th67⟩ := hT.o1 (hT.k t_into (by decide))
          have hTo := hT
          refine tVv (n := 2) (As := [.ref r64, .long (-1)]) (rest := []) hx hb hml hown hg hT hK hX (X4v_add l κ s58 into r64 (-1)  (hT.k t_into (by decide)) (hT.k tr64 (by decide)) f60 wr64 (by rw [jm1]; omega) (by rw [jm1]; omega) (by rw [jm1]; omega) (by rw [jm1]; omega)) (fun _ _ h => h) (mwV k340 k341 k342 k88 k343) ⟨rfl, by decide, by decide, by decide +kernel⟩ ⟨(Nat.le_of_ble_eq_true rfl), (Nat.le_of_ble_eq_true rfl)⟩ oh67 rfl rfl hl.1 rfl (Nat.le_of_ble_eq_true rfl) dX1_predictInto_58 zroom.rf (fun s66 H locs hφ hEs66 hT => ?_)
          obtain ⟨f68, f69⟩ := hφ
          have fp70 : FP σ0 s66 E9 := FP.call hTo fp62 f69 ((hM _).mpr rfl)
          have wv71 : WV s66 into (v q - v p) := by have z9 := f68; rw [show v q + v p * (-1 : Int64).toInt = v q - v p from by rw [jm1]; omega] at z9; exact z9
          refine lv_aload_n hx hb dX1_predictInto_61 rfl (lv_at hl 1 rfl) ?_
          refine lv_iload hx hb dX1_predictInto_62 (lv_at hl 4 rfl) ?_
          refine lv_aload_n hx hb dX1_predictInto_64 rfl (lv_at hl 0 rfl) ?_
          refine va_get (D := κ.1) (ci := 1) (v := .ref (kR κ this 0)) (C := RX1) (T := TX1) (N := 13) hx hb hg inX1 hown hK (hT.o3 (hT.k t_this (by decide))).one 0 rfl rfl 0 (by decide) (hg _ k278) (fun _ h9 => h9) rfl dX1_predictInto_65 ?_
          rw [esrc]
          refine va_get (D := κ.1) (ci := 0) (v := .ref (kR κ src 0)) (C := RX0) (T := TX0) (N := 7) hx hb hg inX0 hown hK (hT.o4 (hT.k tsrc (by decide))).one 0 rfl rfl 0 (by decide) (hg _ k157) (fun _ h9 => h9) rfl dX1_predictInto_68 ?_
          rw [erp]
          refine lv_iload_n hx hb dX1_predictInto_71 rfl (lv_at hl 3 rfl) ?_
          refine va_iald hx hb hK (hT.o8 (hT.k trp (by decide))).one 0 0 rfl rfl (g_in (by omega) (by omega)) dX1_predictInto_72 ?_
          refine lv_topi (fun t72 ht72 => ?_)
          have xt72 : t72.toInt = P p := by rw [ht72, ex, show zI s66 rp p = zI σ0 rp p from trp.eI hT.2.2.1 (by decide) rfl]; exact hPS p (by omega)
          refine lv_isub hx hb dX1_predictInto_73 ?_
          first | refine g_sub (by omega) (by omega) (fun t73 ht73 => ?_) | refine lv_topi (fun t73 ht73 => ?_)
          refine lv_i2l hx hb dX1_predictInto_74 rfl ?_
          refine g_i2l (fun t74 ht74 => ?_)
          refine lv_aload_n hx hb dX1_predictInto_75 rfl (lv_at hl 0 rfl) ?_
          refine va_get (D := κ.1) (ci := 1) (v := .ref (kR κ this 0)) (C := RX1) (T := TX1) (N := 13) hx hb hg inX1 hown hK (hT.o3 (hT.k t_this (by decide))).one 0 rfl rfl 0 (by decide) (hg _ k278) (fun _ h9 => h9) rfl dX1_predictInto_76 ?_
          rw [esrc]
          refine va_get (D := κ.1) (ci := 0) (v := .ref (kR κ src 0)) (C := RX0) (T := TX0) (N := 7) hx hb hg inX0 hown hK (hT.o4 (hT.k tsrc (by decide))).one 0 rfl rfl 0 (by decide) (hg _ k157) (fun _ h9 => h9) rfl dX1_predictInto_79 ?_
          rw [erp]
          refine lv_iload hx hb dX1_predictInto_82 (lv_at hl 5 rfl) ?_
          refine va_iald hx hb hK (hT.o8 (hT.k trp (by decide))).one 0 0 rfl rfl (g_in (by omega) (by omega)) dX1_predictInto_84 ?_
          refine lv_topi (fun t75 ht75 => ?_)
          have xt75 : t75.toInt = P q := by rw [ht75, ey, show zI s66 rp q = zI σ0 rp q from trp.eI hT.2.2.1 (by decide) rfl]; exact hPS q (by omega)
          refine lv_aload_n hx hb dX1_predictInto_85 rfl (lv_at hl 0 rfl) ?_
          refine va_get (D := κ.1) (ci := 1) (v := .ref (kR κ this 0)) (C := RX1) (T := TX1) (N := 13) hx hb hg inX1 hown hK (hT.o3 (hT.k t_this (by decide))).one 0 rfl rfl 0 (by decide) (hg _ k278) (fun _ h9 => h9) rfl dX1_predictInto_86 ?_
          rw [esrc]
          refine va_get (D := κ.1) (ci := 0) (v := .ref (kR κ src 0)) (C := RX0) (T := TX0) (N := 7) hx hb hg inX0 hown hK (hT.o4 (hT.k tsrc (by decide))).one 0 rfl rfl 0 (by decide) (hg _ k157) (fun _ h9 => h9) rfl dX1_predictInto_89 ?_
          rw [erp]
          refine lv_iload_n hx hb dX1_predictInto_92 rfl (lv_at hl 3 rfl) ?_
          refine va_iald hx hb hK (hT.o8 (hT.k trp (by decide))).one 0 0 rfl rfl (g_in (by omega) (by omega)) dX1_predictInto_93 ?_
          refine lv_topi (fun t76 ht76 => ?_)
          have xt76 : t76.toInt = P p := by rw [ht76, ex, show zI s66 rp p = zI σ0 rp p from trp.eI hT.2.2.1 (by decide) rfl]; exact hPS p (by omega)
          refine lv_isub hx hb dX1_predictInto_94 ?_
          first | refine g_sub (by omega) (by omega) (fun t77 ht77 => ?_) | refine lv_topi (fun t77 ht77 => ?_)
          refine lv_i2l hx hb dX1_predictInto_95 rfl ?_
          refine g_i2l (fun t78 ht78 => ?_)
          have hX9 : t74.toInt = P k - P p := by omega
          have hY9 : t78.toInt = P q - P p := by omega
          have nu := prd_num (a := v q - v p) (x := P k - P p) (D := P q - P p) (by omega) (by omega) (by omega) (by omega) (by omega) rfl
          obtain ⟨h81, oh81, th81⟩ := hT.o1 (hT.k t_into (by decide))
          have hTo := hT
          refine tVv (n := 2) (As := [.long t74, .long t78]) (rest := []) hx hb hml hown hg hT hK hX (X4v_scale l κ s66 into t74 t78  (hT.k t_into (by decide)) wv71 (by omega) (by rw [hX9]; omega) (by rw [hX9]; omega) (by rw [hX9, hY9]; omega) (by rw [hX9, hY9]; omega)) (fun _ _ h => h) (mwV k551 k552 k553 k88 k554) ⟨rfl, by decide, by decide, by decide +kernel⟩ ⟨(Nat.le_of_ble_eq_true rfl), (Nat.le_of_ble_eq_true rfl)⟩ oh81 rfl rfl hl.1 rfl (Nat.le_of_ble_eq_true rfl) dX1_predictInto_96 zroom.rf (fun s80 H locs hφ hEs80 hT => ?_)
          obtain ⟨f82, f83⟩ := hφ
          have fp84 : FP σ0 s80 E9 := FP.call hTo fp70 f83 ((hM _).mpr rfl)
          have wv85 : WV s80 into ((v q - v p) * (P k - P p) / (P q - P p)) := by have z9 := f82; rw [hX9, hY9] at z9; exact z9
          refine lv_aload_n hx hb dX1_predictInto_99 rfl (lv_at hl 1 rfl) ?_
          refine lv_aload_n hx hb dX1_predictInto_100 rfl (lv_at hl 0 rfl) ?_
          refine va_get (D := κ.1) (ci := 1) (v := .ref (kR κ this 1)) (C := RX1) (T := TX1) (N := 13) hx hb hg inX1 hown hK (hT.o3 (hT.k t_this (by decide))).one 0 rfl rfl 1 (by decide) (hg _ k279) (fun _ h9 => h9) rfl dX1_predictInto_101 ?_
          rw [erv]
          refine lv_iload_n hx hb dX1_predictInto_104 rfl (lv_at hl 3 rfl) ?_
          refine va_aldq hx hb hK (hT.o10 (hT.k trv (by decide))).one 0 4 rfl rfl (g_in (by omega) (by omega)) dX1_predictInto_105 ?_
          obtain ⟨r87, er87⟩ : ∃ z, kR κ rv (ix x) = z := ⟨_, rfl⟩
          have tr87 : zk σ0 r87 1 := by rw [← er87]; exact hT0.ref trv (by decide) (zR10 (ix_lt (by omega) (by omega))) (by decide)
          refine tv (.ref r87) (by rw [← er87]; rfl) ?_
          have wr87 : WV s80 r87 (v p) := by rw [← er87, ex]; exact (hVL.fp fp84 hkv hnE) p (by omega)
          refine lv_lconst (v := 1) hx hb dX1_predictInto_106 (by decide) ?_
          obtain ⟨h90, oh90, th90⟩ := hT.o1 (hT.k t_into (by decide))
          have hTo := hT
          refine tVv (n := 2) (As := [.ref r87, .long 1]) (rest := []) hx hb hml hown hg hT hK hX (X4v_add l κ s80 into r87 1  (hT.k t_into (by decide)) (hT.k tr87 (by decide)) wv85 wr87 (by rw [j1]; omega) (by rw [j1]; omega) (by rw [j1]; omega) (by rw [j1]; omega)) (fun _ _ h => h) (mwV k340 k341 k342 k88 k343) ⟨rfl, by decide, by decide, by decide +kernel⟩ ⟨(Nat.le_of_ble_eq_true rfl), (Nat.le_of_ble_eq_true rfl)⟩ oh90 rfl rfl hl.1 rfl (Nat.le_of_ble_eq_true rfl) dX1_predictInto_107 zroom.rf (fun s89 H locs hφ hEs89 hT => ?_)
          obtain ⟨f91, f92⟩ := hφ
          have fp93 : FP σ0 s89 E9 := FP.call hTo fp84 f92 ((hM _).mpr rfl)
          have wv94 : WV s89 into (v p + (v q - v p) * (P k - P p) / (P q - P p)) := by have z9 := f91; rw [show (v q - v p) * (P k - P p) / (P q - P p) + v p * (1 : Int64).toInt = v p + (v q - v p) * (P k - P p) / (P q - P p) from by rw [j1]; omega] at z9; exact z9
          subst hQ9
          exact t_v hx hb hr hlocks hT ⟨by rw [show prd P v rl k p q = v p + (v q - v p) * (P k - P p) / (P q - P p) from by unfold prd; rw [if_neg (by omega), if_pos (by omega)]]; exact wv94, fp93.toW (fun a q9 => (hM a).mp q9)⟩ dX1_predictInto_110
      · have c10 := gi_ne c9
        refine lv_aload_n hx hb dX1_predictInto_21 rfl (lv_at hl 1 rfl) ?_
        refine lv_aload_n hx hb dX1_predictInto_22 rfl (lv_at hl 0 rfl) ?_
        refine va_get (D := κ.1) (ci := 1) (v := .ref (kR κ this 1)) (C := RX1) (T := TX1) (N := 13) hx hb hg inX1 hown hK (hT.o3 (hT.k t_this (by decide))).one 0 rfl rfl 1 (by decide) (hg _ k279) (fun _ h9 => h9) rfl dX1_predictInto_23 ?_
        rw [erv]
        refine lv_iload_n hx hb dX1_predictInto_26 rfl (lv_at hl 3 rfl) ?_
        refine va_aldq hx hb hK (hT.o10 (hT.k trv (by decide))).one 0 4 rfl rfl (g_in (by omega) (by omega)) dX1_predictInto_27 ?_
        obtain ⟨r96, er96⟩ : ∃ z, kR κ rv (ix x) = z := ⟨_, rfl⟩
        have tr96 : zk σ0 r96 1 := by rw [← er96]; exact hT0.ref trv (by decide) (zR10 (ix_lt (by omega) (by omega))) (by decide)
        refine tv (.ref r96) (by rw [← er96]; rfl) ?_
        have wr96 : WV s50 r96 (v p) := by rw [← er96, ex]; exact (hVL.fp fp52 hkv hnE) p (by omega)
        obtain ⟨h99, oh99, th99⟩ := hT.o1 (hT.k t_into (by decide))
        have hTo := hT
        refine tVv (n := 1) (As := [.ref r96]) (rest := []) hx hb hml hown hg hT hK hX (X4v_copyFrom l κ s50 into r96  (hT.k t_into (by decide)) (hT.k tr96 (by decide)) wr96) (fun _ _ h => h) (mwV k455 k456 k457 k88 k458) ⟨rfl, by decide, by decide, by decide +kernel⟩ ⟨(Nat.le_of_ble_eq_true rfl), (Nat.le_of_ble_eq_true rfl)⟩ oh99 rfl rfl hl.1 rfl (Nat.le_of_ble_eq_true rfl) dX1_predictInto_28 zroom.rf (fun s98 H locs hφ hEs98 hT => ?_)
        obtain ⟨f100, f101⟩ := hφ
        have fp102 : FP σ0 s98 E9 := FP.call hTo fp52 f101 ((hM _).mpr rfl)
        subst hQ9
        exact t_v hx hb hr hlocks hT ⟨by rw [show prd P v rl k p q = v p from if_pos (by omega)]; exact f100, fp102.toW (fun a q9 => (hM a).mp q9)⟩ dX1_predictInto_31

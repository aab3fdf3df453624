/-! States with their numbers: neighbours, prediction -/
set_option maxHeartbeats 4000000 in
set_option maxRecDepth 100000 in
theorem X1v_isPresent (l : Launch) (κ : Kt) (σ0 : Gh) (this : Nat) (i : Int32) (t_this : zk σ0 this 3) (h0 : 0 ≤ i.toInt) (h1 : i.toInt ≤ 47) : TC l yX1_isPresent cX1_isPresent 2 (some .boolean) 0 0 [.ref this, .int i] κ σ0 (tqi κ fE σ0 (fun (r : Int32) (τ : Gh) => ((r.toInt = 1 ∧ (zI σ0 (kR κ this 3) (ix i)).toInt = -1) ∨ (r.toInt = 0 ∧ (zI σ0 (kR κ this 3) (ix i)).toInt ≠ -1)) ∧ (isB r))) := by
  refine TC.of fE (by decide +kernel) (Nat.le_of_ble_eq_true rfl) ?_
  intro p e s m below meth c ls hcs hK hX hT hl
  obtain ⟨hx, hb, hr, hml, hown, hg, hlocks, hin⟩ := hcs
  have hown : s.vm.findClass RX1 = some m.cls := hown
  have hl : lv_has ls 2 [(0, .ref this), (1, .int i)] := hl
  have hT0 := hT
  have nm1 : ((-1) : Int32).toInt = (-1) := by decide
  have n0 : (0 : Int32).toInt = 0 := by decide
  have n1 : (1 : Int32).toInt = 1 := by decide
  have i_lo := Int32.le_toInt i
  have i_hi := Int32.toInt_lt i
  generalize hQ9 : tQ _ _ _ _ _ _ = Q9
  obtain ⟨rs, ers⟩ : ∃ z, kR κ this 3 = z := ⟨_, rfl⟩
  have trs : zk σ0 rs 15 := by rw [← ers]; exact hT0.ref t_this (by decide) (by decide) (by decide)
  refine lv_aload_n hx hb dX1_isPresent_0 rfl (lv_at hl 0 rfl) ?_
  refine va_get (D := κ.1) (ci := 1) (v := .ref (kR κ this 3)) (C := RX1) (T := TX1) (N := 13) hx hb hg inX1 hown hK (hT.o3 (hT.k t_this (by decide))).one 0 rfl rfl 3 (by decide) (hg _ k283) (fun _ h9 => h9) rfl dX1_isPresent_1 ?_
  rw [ers]
  refine lv_iload_n hx hb dX1_isPresent_4 rfl (lv_at hl 1 rfl) ?_
  refine va_iald hx hb hK (hT.o15 (hT.k trs (by decide))).one 0 0 rfl rfl (g_in (by omega) (by omega)) dX1_isPresent_5 ?_
  refine lv_topi (fun t201 ht201 => ?_)
  have xt201 : t201.toInt = (zI σ0 rs (ix i)).toInt := by rw [ht201, ixc]
  refine lv_iconst (v := (-1)) hx hb dX1_isPresent_6 (by decide) ?_
  refine lv_icmp_ne (tgt := 14) hx hb dX1_isPresent_7 (by decide) (fun c9 => ?_) (fun c9 => ?_)
  · have c1 := gi_ne c9
    refine lv_iconst (v := 0) hx hb dX1_isPresent_14 (by decide) ?_
    subst hQ9
    exact t_z hx hb hr isB0 hlocks hT ⟨by rw [ers]; omega, isB0⟩ dX1_isPresent_15
  · have c2 := gi_eq c9
    refine lv_iconst (v := 1) hx hb dX1_isPresent_10 (by decide) ?_
    refine lv_goto (tgt := 15) hx hb dX1_isPresent_11 (by decide) ?_
    subst hQ9
    exact t_z hx hb hr isB1 hlocks hT ⟨by rw [ers]; omega, isB1⟩ dX1_isPresent_15
set_option maxHeartbeats 4000000 in
set_option maxRecDepth 100000 in
theorem X1v_presentCount (l : Launch) (κ : Kt) (σ0 : Gh) (this : Nat) (t_this : zk σ0 this 3) : TC l yX1_presentCount cX1_presentCount 1 (some .int) 0 0 [.ref this] κ σ0 (tqi κ fE σ0 (fun (r : Int32) (τ : Gh) => (r.toInt = (zI σ0 (kR κ this 0) 2).toInt - (zI σ0 this 5).toInt))) := by
  refine TC.of fE (by decide +kernel) (Nat.le_of_ble_eq_true rfl) ?_
  intro p e s m below meth c ls hcs hK hX hT hl
  obtain ⟨hx, hb, hr, hml, hown, hg, hlocks, hin⟩ := hcs
  have hown : s.vm.findClass RX1 = some m.cls := hown
  have hl : lv_has ls 1 [(0, .ref this)] := hl
  have hT0 := hT
  generalize hQ9 : tQ _ _ _ _ _ _ = Q9
  obtain ⟨src, esrc⟩ : ∃ z, kR κ this 0 = z := ⟨_, rfl⟩
  have tsrc : zk σ0 src 4 := by rw [← esrc]; exact hT0.ref t_this (by decide) (by decide) (by decide)
  have bsrc := (hT0.P tsrc (by decide)).1
  have bsrcl := bsrc.1
  have bsrch := bsrc.2
  refine lv_aload_n hx hb dX1_presentCount_0 rfl (lv_at hl 0 rfl) ?_
  refine va_get (D := κ.1) (ci := 1) (v := .ref (kR κ this 0)) (C := RX1) (T := TX1) (N := 13) hx hb hg inX1 hown hK (hT.o3 (hT.k t_this (by decide))).one 0 rfl rfl 0 (by decide) (hg _ k278) (fun _ h9 => h9) rfl dX1_presentCount_1 ?_
  rw [esrc]
  obtain ⟨v201, ev201⟩ : ∃ zz9 : Int32, zI σ0 src 2 = zz9 := ⟨_, rfl⟩
  have qv201 : v201.toInt = (zI σ0 src 2).toInt := by rw [ev201]
  have b202 := (hT.P (hT.k tsrc (by decide)) (by decide)).1
  rw [(hT.eI tsrc (by decide) rfl ev201)] at b202
  have b202l := b202.1
  have b202h := b202.2
  refine va_get (D := κ.1) (ci := 0) (v := .int (zI σ0 src 2)) (C := RX0) (T := TX0) (N := 7) hx hb hg inX0 hown hK (hT.o4 (hT.k tsrc (by decide))).one 0 rfl rfl 2 (by decide) (hg _ k162) (fun _ h9 => h9) rfl dX1_presentCount_4 ?_
  rw [(hT.eI tsrc (by decide) rfl ev201)]
  refine lv_aload_n hx hb dX1_presentCount_7 rfl (lv_at hl 0 rfl) ?_
  obtain ⟨v203, ev203⟩ : ∃ zz9 : Int32, zI σ0 this 5 = zz9 := ⟨_, rfl⟩
  have qv203 : v203.toInt = (zI σ0 this 5).toInt := by rw [ev203]
  have b204 := (hT.P (hT.k t_this (by decide)) (by decide)).1
  rw [(hT.eI t_this (by decide) rfl ev203)] at b204
  have b204l := b204.1
  have b204h := b204.2
  refine va_get (D := κ.1) (ci := 1) (v := .int (zI σ0 this 5)) (C := RX1) (T := TX1) (N := 13) hx hb hg inX1 hown hK (hT.o3 (hT.k t_this (by decide))).one 0 rfl rfl 5 (by decide) (hg _ k287) (fun _ h9 => h9) rfl dX1_presentCount_8 ?_
  rw [(hT.eI t_this (by decide) rfl ev203)]
  refine lv_isub hx hb dX1_presentCount_11 ?_
  first | refine g_sub (by omega) (by omega) (fun t205 ht205 => ?_) | refine lv_topi (fun t205 ht205 => ?_)
  subst hQ9
  exact t_i hx hb hr hlocks hT (by rw [esrc]; omega) dX1_presentCount_12
set_option maxHeartbeats 4000000 in
set_option maxRecDepth 100000 in
theorem X1v_leftOf (l : Launch) (κ : Kt) (σ0 : Gh) (this : Nat) (i : Int32) (t_this : zk σ0 this 3) (h0 : 0 ≤ i.toInt) (h1 : i.toInt ≤ 47) : TC l yX1_leftOf cX1_leftOf 3 (some .int) 1 21 [.ref this, .int i] κ σ0 (tqi κ fE σ0 (fun (r : Int32) (τ : Gh) => ((r.toInt = -1 ∧ ∀ j, j < ix i → (zI σ0 (kR κ this 3) j).toInt ≠ -1) ∨ (∃ pa : Nat, r.toInt = pa ∧ LN (fun k => (zI σ0 (kR κ this 3) k).toInt) (ix i) pa)))) := by
  refine TC.of fE (by decide +kernel) (Nat.le_of_ble_eq_true rfl) ?_
  intro p e s m below meth c ls hcs hK hX hT hl
  obtain ⟨hx, hb, hr, hml, hown, hg, hlocks, hin⟩ := hcs
  have hown : s.vm.findClass RX1 = some m.cls := hown
  have hl : lv_has ls 3 [(0, .ref this), (1, .int i)] := hl
  have hT0 := hT
  have nm1 : ((-1) : Int32).toInt = (-1) := by decide
  have n0 : (0 : Int32).toInt = 0 := by decide
  have n1 : (1 : Int32).toInt = 1 := by decide
  have i_lo := Int32.le_toInt i
  have i_hi := Int32.toInt_lt i
  generalize hQ9 : tQ _ _ _ _ _ _ = Q9
  obtain ⟨rs, ers⟩ : ∃ z, kR κ this 3 = z := ⟨_, rfl⟩
  have trs : zk σ0 rs 15 := by rw [← ers]; exact hT0.ref t_this (by decide) (by decide) (by decide)
  refine lv_iload_n hx hb dX1_leftOf_0 rfl (lv_at hl 1 rfl) ?_
  refine lv_iconst (v := 1) hx hb dX1_leftOf_1 (by decide) ?_
  refine lv_isub hx hb dX1_leftOf_2 ?_
  first | refine g_sub (by omega) (by omega) (fun t201 ht201 => ?_) | refine lv_topi (fun t201 ht201 => ?_)
  refine lv_istore_n (lv' := [(2, .int t201), (0, .ref this), (1, .int i)]) hx hb dX1_leftOf_3 rfl hl (by decide) rfl (fun ls hl => ?_)
  have loop4 : ∀ (n9 : Nat) (j : Int32) (H : Heap) (locs : List Loc) (sg : Gh) (ls : Array Slot), TS κ fE σ0 sg s H locs → (-1 ≤ j.toInt) → (j.toInt < i.toInt) → (∀ z : Nat, j.toInt < z → z < ix i → (zI σ0 rs z).toInt ≠ -1) → lv_has ls 3 [(2, .int j), (0, .ref this), (1, .int i)] → (j.toInt + 1) < n9 → tW p l e 1 21 κ s m #[.ref this, .int i] below meth c H locs Q9 (F0 m 4 ls []) := by
    intro n9
    induction n9 with
    | zero =>
      intro j H locs sg ls hT q1 q2 q3 hl hm9
      exfalso
      omega
    | succ n9 ih9 =>
      have ih4 := ih9
      clear ih9
      intro j H locs s202 ls hT q1 q2 q3 hl hm9
      refine lv_iload_n hx hb dX1_leftOf_4 rfl (lv_at hl 0 rfl) ?_
      refine lv_if_lt (tgt := 24) hx hb dX1_leftOf_5 (by decide) (fun c9 => ?_) (fun c9 => ?_)
      · have c1 := gi_lt c9
        refine lv_iconst (v := (-1)) hx hb dX1_leftOf_24 (by decide) ?_
        subst hQ9
        exact t_i hx hb hr hlocks hT (Or.inl ⟨nm1, fun z hz => by rw [ers]; exact q3 z (by omega) hz⟩) dX1_leftOf_25
      · have c2 := gi_nlt c9
        have i_j : (ix j : Int) = j.toInt := by unfold ix; omega
        refine lv_aload_n hx hb dX1_leftOf_8 rfl (lv_at hl 1 rfl) ?_
        refine lv_iload_n hx hb dX1_leftOf_9 rfl (lv_at hl 0 rfl) ?_
        have hTo := hT
        refine tVi (n := 1) (As := [.int j]) (rest := []) hx hb hml hown hg hT hK hX (X1v_isPresent l κ s202 this j  (hT.k t_this (by decide)) (by omega) (by omega)) (fun _ _ h => h) (mwV k459 k460 k461 k87 k462) ⟨rfl, by decide, by decide, by decide +kernel⟩ ⟨(Nat.le_of_ble_eq_true rfl), (Nat.le_of_ble_eq_true rfl)⟩ (hT.o3 (hT.k t_this (by decide))) rfl rfl hl.1 rfl (Nat.le_of_ble_eq_true rfl) dX1_leftOf_10 zroom.rf (fun x203 s204 H locs hφ hEs204 hT => ?_)
        obtain ⟨f205, f206⟩ := hφ
        rw [ers] at f205
        rw [show zI s202 rs = zI σ0 rs from funext fun k => trs.eI hTo.2.2.1 (by decide) rfl] at f205
        refine lv_if_eq (tgt := 18) hx hb dX1_leftOf_13 (by decide) (fun c9 => ?_) (fun c9 => ?_)
        · have c3 := gi_eq c9
          obtain ⟨t207, qt207⟩ : ∃ zz9 : Int32, j + Int32.ofInt (-1) = zz9 := ⟨_, rfl⟩
          refine lv_iinc (v := t207) (lv' := [(2, .int t207), (0, .ref this), (1, .int i)]) hx hb dX1_leftOf_18 hl (k := 0) rfl qt207 (by decide) rfl (fun ls hl => ?_)
          have ht207 : t207.toInt = j.toInt + (-1) := by rw [← qt207]; exact v_addi rfl (show (Int32.ofInt (-1)).toInt = (-1) from by decide) (by omega) (by omega)
          refine lv_goto (tgt := 4) hx hb dX1_leftOf_21 (by decide) ?_
          have ne208 : (zI σ0 rs (ix j)).toInt ≠ -1 := by omega
          exact ih4 t207 _ _ _ _ hT  (by omega) (by omega) (fun z h1 h2 => (Classical.em (z = ix j)).elim (fun e9 => by rw [e9]; exact ne208) (fun e9 => q3 z (by omega) h2)) hl (by omega)
        · have c4 := gi_ne c9
          refine lv_iload_n hx hb dX1_leftOf_16 rfl (lv_at hl 0 rfl) ?_
          subst hQ9
          exact t_i hx hb hr hlocks hT (Or.inr ⟨ix j, by omega, by rw [ers]; exact ⟨by unfold ix; omega, (show (zI σ0 rs (ix j)).toInt = -1 by omega), fun z h1 h2 => q3 z (by omega) h2⟩⟩) dX1_leftOf_17
  exact loop4 ((t201.toInt + 1).toNat + 1) t201 _ _ _ _ hT  (by omega) (by omega) (fun z h1 h2 => by unfold ix at h2; omega) hl (by omega)
set_option maxHeartbeats 4000000 in
set_option maxRecDepth 100000 in
theorem X1v_rightOf (l : Launch) (κ : Kt) (σ0 : Gh) (this : Nat) (i : Int32) (t_this : zk σ0 this 3) (h0 : 0 ≤ i.toInt) (h1 : i.toInt ≤ 47) : TC l yX1_rightOf cX1_rightOf 3 (some .int) 1 21 [.ref this, .int i] κ σ0 (tqi κ fE σ0 (fun (r : Int32) (τ : Gh) => ((r.toInt = -1 ∧ ∀ j, ix i < j → j < (zI σ0 (kR κ this 0) 2).toInt.toNat → (zI σ0 (kR κ this 3) j).toInt ≠ -1) ∨ (∃ q : Nat, r.toInt = q ∧ RN (zI σ0 (kR κ this 0) 2).toInt.toNat (fun k => (zI σ0 (kR κ this 3) k).toInt) (ix i) q)))) := by
  refine TC.of fE (by decide +kernel) (Nat.le_of_ble_eq_true rfl) ?_
  intro p e s m below meth c ls hcs hK hX hT hl
  obtain ⟨hx, hb, hr, hml, hown, hg, hlocks, hin⟩ := hcs
  have hown : s.vm.findClass RX1 = some m.cls := hown
  have hl : lv_has ls 3 [(0, .ref this), (1, .int i)] := hl
  have hT0 := hT
  have nm1 : ((-1) : Int32).toInt = (-1) := by decide
  have n0 : (0 : Int32).toInt = 0 := by decide
  have n1 : (1 : Int32).toInt = 1 := by decide
  have i_lo := Int32.le_toInt i
  have i_hi := Int32.toInt_lt i
  generalize hQ9 : tQ _ _ _ _ _ _ = Q9
  obtain ⟨rs, ers⟩ : ∃ z, kR κ this 3 = z := ⟨_, rfl⟩
  have trs : zk σ0 rs 15 := by rw [← ers]; exact hT0.ref t_this (by decide) (by decide) (by decide)
  obtain ⟨src, esrc⟩ : ∃ z, kR κ this 0 = z := ⟨_, rfl⟩
  have tsrc : zk σ0 src 4 := by rw [← esrc]; exact hT0.ref t_this (by decide) (by decide) (by decide)
  have bsrc := (hT0.P tsrc (by decide)).1
  have bsrcl := bsrc.1
  have bsrch := bsrc.2
  refine lv_iload_n hx hb dX1_rightOf_0 rfl (lv_at hl 1 rfl) ?_
  refine lv_iconst (v := 1) hx hb dX1_rightOf_1 (by decide) ?_
  refine lv_iadd hx hb dX1_rightOf_2 ?_
  first | refine g_add (by omega) (by omega) (fun t201 ht201 => ?_) | refine lv_topi (fun t201 ht201 => ?_)
  refine lv_istore_n (lv' := [(2, .int t201), (0, .ref this), (1, .int i)]) hx hb dX1_rightOf_3 rfl hl (by decide) rfl (fun ls hl => ?_)
  have loop4 : ∀ (n9 : Nat) (j : Int32) (H : Heap) (locs : List Loc) (sg : Gh) (ls : Array Slot), TS κ fE σ0 sg s H locs → (i.toInt < j.toInt) → (j.toInt ≤ 48) → (∀ z : Nat, ix i < z → (z : Int) < j.toInt → (zI σ0 rs z).toInt ≠ -1) → lv_has ls 3 [(2, .int j), (0, .ref this), (1, .int i)] → (48 - j.toInt) < n9 → tW p l e 1 21 κ s m #[.ref this, .int i] below meth c H locs Q9 (F0 m 4 ls []) := by
    intro n9
    induction n9 with
    | zero =>
      intro j H locs sg ls hT q1 q2 q3 hl hm9
      exfalso
      omega
    | succ n9 ih9 =>
      have ih4 := ih9
      clear ih9
      intro j H locs s202 ls hT q1 q2 q3 hl hm9
      refine lv_iload_n hx hb dX1_rightOf_4 rfl (lv_at hl 0 rfl) ?_
      refine lv_aload_n hx hb dX1_rightOf_5 rfl (lv_at hl 1 rfl) ?_
      refine va_get (D := κ.1) (ci := 1) (v := .ref (kR κ this 0)) (C := RX1) (T := TX1) (N := 13) hx hb hg inX1 hown hK (hT.o3 (hT.k t_this (by decide))).one 0 rfl rfl 0 (by decide) (hg _ k278) (fun _ h9 => h9) rfl dX1_rightOf_6 ?_
      rw [esrc]
      obtain ⟨v203, ev203⟩ : ∃ zz9 : Int32, zI σ0 src 2 = zz9 := ⟨_, rfl⟩
      have qv203 : v203.toInt = (zI σ0 src 2).toInt := by rw [ev203]
      have b204 := (hT.P (hT.k tsrc (by decide)) (by decide)).1
      rw [(hT.eI tsrc (by decide) rfl ev203)] at b204
      have b204l := b204.1
      have b204h := b204.2
      refine va_get (D := κ.1) (ci := 0) (v := .int (zI s202 src 2)) (C := RX0) (T := TX0) (N := 7) hx hb hg inX0 hown hK (hT.o4 (hT.k tsrc (by decide))).one 0 rfl rfl 2 (by decide) (hg _ k162) (fun _ h9 => h9) rfl dX1_rightOf_9 ?_
      rw [(hT.eI tsrc (by decide) rfl ev203)]
      refine lv_icmp_ge (tgt := 31) hx hb dX1_rightOf_12 (by decide) (fun c9 => ?_) (fun c9 => ?_)
      · have c1 := gi_le c9
        refine lv_iconst (v := (-1)) hx hb dX1_rightOf_31 (by decide) ?_
        subst hQ9
        exact t_i hx hb hr hlocks hT (Or.inl ⟨nm1, fun z hz h2 => by rw [ers]; rw [esrc] at h2; exact q3 z hz (by omega)⟩) dX1_rightOf_32
      · have c2 := gi_nle c9
        have i_j : (ix j : Int) = j.toInt := by unfold ix; omega
        refine lv_aload_n hx hb dX1_rightOf_15 rfl (lv_at hl 1 rfl) ?_
        refine lv_iload_n hx hb dX1_rightOf_16 rfl (lv_at hl 0 rfl) ?_
        have hTo := hT
        refine tVi (n := 1) (As := [.int j]) (rest := []) hx hb hml hown hg hT hK hX (X1v_isPresent l κ s202 this j  (hT.k t_this (by decide)) (by omega) (by omega)) (fun _ _ h => h) (mwV k459 k460 k461 k87 k462) ⟨rfl, by decide, by decide, by decide +kernel⟩ ⟨(Nat.le_of_ble_eq_true rfl), (Nat.le_of_ble_eq_true rfl)⟩ (hT.o3 (hT.k t_this (by decide))) rfl rfl hl.1 rfl (Nat.le_of_ble_eq_true rfl) dX1_rightOf_17 zroom.rf (fun x205 s206 H locs hφ hEs206 hT => ?_)
        obtain ⟨f207, f208⟩ := hφ
        rw [ers] at f207
        rw [show zI s202 rs = zI σ0 rs from funext fun k => trs.eI hTo.2.2.1 (by decide) rfl] at f207
        refine lv_if_eq (tgt := 25) hx hb dX1_rightOf_20 (by decide) (fun c9 => ?_) (fun c9 => ?_)
        · have c3 := gi_eq c9
          obtain ⟨t209, qt209⟩ : ∃ zz9 : Int32, j + Int32.ofInt 1 = zz9 := ⟨_, rfl⟩
          refine lv_iinc (v := t209) (lv' := [(2, .int t209), (0, .ref this), (1, .int i)]) hx hb dX1_rightOf_25 hl (k := 0) rfl qt209 (by decide) rfl (fun ls hl => ?_)
          have ht209 : t209.toInt = j.toInt + 1 := by rw [← qt209]; exact v_addi rfl (show (Int32.ofInt 1).toInt = 1 from by decide) (by omega) (by omega)
          refine lv_goto (tgt := 4) hx hb dX1_rightOf_28 (by decide) ?_
          have ne210 : (zI σ0 rs (ix j)).toInt ≠ -1 := by omega
          exact ih4 t209 _ _ _ _ hT  (by omega) (by omega) (fun z h1 h2 => (Classical.em (z = ix j)).elim (fun e9 => by rw [e9]; exact ne210) (fun e9 => q3 z h1 (by omega))) hl (by omega)
        · have c4 := gi_ne c9
          refine lv_iload_n hx hb dX1_rightOf_23 rfl (lv_at hl 0 rfl) ?_
          subst hQ9
          exact t_i hx hb hr hlocks hT (Or.inr ⟨ix j, by omega, by rw [ers, esrc]; exact ⟨⟨by unfold ix; omega, by omega⟩, (show (zI σ0 rs (ix j)).toInt = -1 by omega), fun z h1 h2 => q3 z h1 (by omega)⟩⟩) dX1_rightOf_24
  exact loop4 ((48 - t201.toInt).toNat + 1) t201 _ _ _ _ hT  (by omega) (by omega) (fun z h1 h2 => by unfold ix at h1; omega) hl (by omega)
set_option maxHeartbeats 4000000 in
set_option maxRecDepth 100000 in
theorem X1v_isLeftNear (l : Launch) (κ : Kt) (σ0 : Gh) (this : Nat) (x : Int32) (po : Int32) (y : Int32) {N : Nat} {P : Nat → Int} {pa q : Nat} (t_this : zk σ0 this 3) (h0 : SRC κ σ0 this N P) (h1 : PLI N P) (h2 : x.toInt = pa) (h3 : y.toInt = q) (h4 : pa < N) (h5 : q < N) (h6 : 0 ≤ po.toInt) (h7 : po.toInt ≤ 9999) : TC l yX1_isLeftNear cX1_isLeftNear 4 (some .boolean) 0 0 [.ref this, .int x, .int po, .int y] κ σ0 (tqi κ fE σ0 (fun (r : Int32) (τ : Gh) => ((r.toInt = 1 ∧ po.toInt - P pa ≤ P q - po.toInt) ∨ (r.toInt = 0 ∧ P q - po.toInt < po.toInt - P pa)) ∧ (isB r))) := by
  refine TC.of fE (by decide +kernel) (Nat.le_of_ble_eq_true rfl) ?_
  intro p e s m below meth c ls hcs hK hX hT hl
  obtain ⟨hx, hb, hr, hml, hown, hg, hlocks, hin⟩ := hcs
  have hown : s.vm.findClass RX1 = some m.cls := hown
  have hl : lv_has ls 4 [(0, .ref this), (1, .int x), (2, .int po), (3, .int y)] := hl
  have hT0 := hT
  have n0 : (0 : Int32).toInt = 0 := by decide
  have n1 : (1 : Int32).toInt = 1 := by decide
  have x_lo := Int32.le_toInt x
  have x_hi := Int32.toInt_lt x
  have po_lo := Int32.le_toInt po
  have po_hi := Int32.toInt_lt po
  have y_lo := Int32.le_toInt y
  have y_hi := Int32.toInt_lt y
  generalize hQ9 : tQ _ _ _ _ _ _ = Q9
  obtain ⟨src, esrc⟩ : ∃ z, kR κ this 0 = z := ⟨_, rfl⟩
  have tsrc : zk σ0 src 4 := by rw [← esrc]; exact hT0.ref t_this (by decide) (by decide) (by decide)
  have bsrc := (hT0.P tsrc (by decide)).1
  have bsrcl := bsrc.1
  have bsrch := bsrc.2
  obtain ⟨rp, erp⟩ : ∃ z, kR κ src 0 = z := ⟨_, rfl⟩
  have trp : zk σ0 rp 8 := by rw [← erp]; exact hT0.ref tsrc (by decide) (by decide) (by decide)
  have hN := h0.1
  have hPS := h0.2
  rw [esrc] at hN hPS
  rw [erp] at hPS
  have hP48 : N ≤ 48 := by omega
  have bp := (h1 pa (by omega)).1
  have bq := (h1 q (by omega)).1
  have ex := ixof h2
  have ey := ixof h3
  refine lv_iload_n hx hb dX1_isLeftNear_0 rfl (lv_at hl 2 rfl) ?_
  refine lv_aload_n hx hb dX1_isLeftNear_1 rfl (lv_at hl 0 rfl) ?_
  refine va_get (D := κ.1) (ci := 1) (v := .ref (kR κ this 0)) (C := RX1) (T := TX1) (N := 13) hx hb hg inX1 hown hK (hT.o3 (hT.k t_this (by decide))).one 0 rfl rfl 0 (by decide) (hg _ k278) (fun _ h9 => h9) rfl dX1_isLeftNear_2 ?_
  rw [esrc]
  refine va_get (D := κ.1) (ci := 0) (v := .ref (kR κ src 0)) (C := RX0) (T := TX0) (N := 7) hx hb hg inX0 hown hK (hT.o4 (hT.k tsrc (by decide))).one 0 rfl rfl 0 (by decide) (hg _ k157) (fun _ h9 => h9) rfl dX1_isLeftNear_5 ?_
  rw [erp]
  refine lv_iload_n hx hb dX1_isLeftNear_8 rfl (lv_at hl 1 rfl) ?_
  refine va_iald hx hb hK (hT.o8 (hT.k trp (by decide))).one 0 0 rfl rfl (g_in (by omega) (by omega)) dX1_isLeftNear_9 ?_
  refine lv_topi (fun t201 ht201 => ?_)
  have xt201 : t201.toInt = P pa := by rw [ht201, ixc, ex]; exact hPS pa (by omega)
  refine lv_isub hx hb dX1_isLeftNear_10 ?_
  first | refine g_sub (by omega) (by omega) (fun t202 ht202 => ?_) | refine lv_topi (fun t202 ht202 => ?_)
  refine lv_aload_n hx hb dX1_isLeftNear_11 rfl (lv_at hl 0 rfl) ?_
  refine va_get (D := κ.1) (ci := 1) (v := .ref (kR κ this 0)) (C := RX1) (T := TX1) (N := 13) hx hb hg inX1 hown hK (hT.o3 (hT.k t_this (by decide))).one 0 rfl rfl 0 (by decide) (hg _ k278) (fun _ h9 => h9) rfl dX1_isLeftNear_12 ?_
  rw [esrc]
  refine va_get (D := κ.1) (ci := 0) (v := .ref (kR κ src 0)) (C := RX0) (T := TX0) (N := 7) hx hb hg inX0 hown hK (hT.o4 (hT.k tsrc (by decide))).one 0 rfl rfl 0 (by decide) (hg _ k157) (fun _ h9 => h9) rfl dX1_isLeftNear_15 ?_
  rw [erp]
  refine lv_iload_n hx hb dX1_isLeftNear_18 rfl (lv_at hl 3 rfl) ?_
  refine va_iald hx hb hK (hT.o8 (hT.k trp (by decide))).one 0 0 rfl rfl (g_in (by omega) (by omega)) dX1_isLeftNear_19 ?_
  refine lv_topi (fun t203 ht203 => ?_)
  have xt203 : t203.toInt = P q := by rw [ht203, ixc, ey]; exact hPS q (by omega)
  refine lv_iload_n hx hb dX1_isLeftNear_20 rfl (lv_at hl 2 rfl) ?_
  refine lv_isub hx hb dX1_isLeftNear_21 ?_
  first | refine g_sub (by omega) (by omega) (fun t204 ht204 => ?_) | refine lv_topi (fun t204 ht204 => ?_)
  refine lv_icmp_gt (tgt := 29) hx hb dX1_isLeftNear_22 (by decide) (fun c9 => ?_) (fun c9 => ?_)
  · have c1 := gi_lt c9
    refine lv_iconst (v := 0) hx hb dX1_isLeftNear_29 (by decide) ?_
    subst hQ9
    exact t_z hx hb hr isB0 hlocks hT ⟨by omega, isB0⟩ dX1_isLeftNear_30
  · have c2 := gi_nlt c9
    refine lv_iconst (v := 1) hx hb dX1_isLeftNear_25 (by decide) ?_
    refine lv_goto (tgt := 30) hx hb dX1_isLeftNear_26 (by decide) ?_
    subst hQ9
    exact t_z hx hb hr isB1 hlocks hT ⟨by omega, isB1⟩ dX1_isLeftNear_30
set_option maxHeartbeats 4000000 in
set_option maxRecDepth 100000 in
theorem X1v_predictInto (l : Launch) (κ : Kt) (σ0 : Gh) (this : Nat) (into : Nat) (ru : Int32) (x : Int32) (po : Int32) (y : Int32) {N : Nat} {P v : Nat → Int} {rl : Int} {k pa q : Nat} (t_this : zk σ0 this 3) (t_into : zk σ0 into 1) (h0 : SRC κ σ0 this N P) (h1 : PLI N P) (h2 : VLS κ σ0 (kR κ this 1) N v) (h3 : ∀ i, i < N → kR κ (kR κ this 1) i ≠ into) (h4 : x.toInt = pa) (h5 : y.toInt = q) (h6 : po.toInt = P k) (h7 : pa < k ∧ k < q ∧ q < N) (h8 : ru.toInt = rl) (h9 : rl = 0 ∨ rl = 1 ∨ rl = 2) (h10 : -1114000000 ≤ v pa ∧ v pa ≤ 1114000000) (h11 : -1114000000 ≤ v q ∧ v q ≤ 1114000000) : TC l yX1_predictInto cX1_predictInto 6 none 2 50 [.ref this, .ref into, .int ru, .int x, .int po, .int y] κ σ0 (tqv κ fX σ0 (fun (τ : Gh) => (WV τ into (prd P v rl k pa q)) ∧ (FW σ0 τ into))) := by
  refine TC.of fX (by decide +kernel) (Nat.le_of_ble_eq_true rfl) ?_
  intro p e s m below meth c ls hcs hK hX hT hl
  obtain ⟨hx, hb, hr, hml, hown, hg, hlocks, hin⟩ := hcs
  have hown : s.vm.findClass RX1 = some m.cls := hown
  have hl : lv_has ls 6 [(0, .ref this), (1, .ref into), (2, .int ru), (3, .int x), (4, .int po), (5, .int y)] := hl
  have hT0 := hT
  have n0 : (0 : Int32).toInt = 0 := by decide
  have n1 : (1 : Int32).toInt = 1 := by decide
  have n2 : (2 : Int32).toInt = 2 := by decide
  have jm1 : ((-1) : Int64).toInt = (-1) := by decide
  have j1 : (1 : Int64).toInt = 1 := by decide
  have ru_lo := Int32.le_toInt ru
  have ru_hi := Int32.toInt_lt ru
  have x_lo := Int32.le_toInt x
  have x_hi := Int32.toInt_lt x
  have po_lo := Int32.le_toInt po
  have po_hi := Int32.toInt_lt po
  have y_lo := Int32.le_toInt y
  have y_hi := Int32.toInt_lt y
  generalize hQ9 : tQ _ _ _ _ _ _ = Q9
  obtain ⟨src, esrc⟩ : ∃ z, kR κ this 0 = z := ⟨_, rfl⟩
  have tsrc : zk σ0 src 4 := by rw [← esrc]; exact hT0.ref t_this (by decide) (by decide) (by decide)
  have bsrc := (hT0.P tsrc (by decide)).1
  have bsrcl := bsrc.1
  have bsrch := bsrc.2
  obtain ⟨rp, erp⟩ : ∃ z, kR κ src 0 = z := ⟨_, rfl⟩
  have trp : zk σ0 rp 8 := by rw [← erp]; exact hT0.ref tsrc (by decide) (by decide) (by decide)
  obtain ⟨rv, erv⟩ : ∃ z, kR κ this 1 = z := ⟨_, rfl⟩
  have trv : zk σ0 rv 10 := by rw [← erv]; exact hT0.ref t_this (by decide) (by decide) (by decide)
  have hN := h0.1
  have hPS := h0.2
  rw [esrc] at hN hPS
  rw [erp] at hPS
  have hP48 : N ≤ 48 := by omega
  have ex := ixof h4
  have ey := ixof h5
  have bk := (h1 k (by omega)).1
  have bp := (h1 pa (by omega)).1
  have bq := (h1 q (by omega)).1
  have opk := h1.lt h7.1 (by omega)
  have okq := h1.lt h7.2.1 h7.2.2
  have hVL := h2
  have hne := h3
  rw [erv] at hVL hne
  have hkv : ∀ i, i < N → zk σ0 (kR κ rv i) 1 := fun i hi => hT0.kv trv (by omega)
  obtain ⟨E9, hM⟩ : ∃ E : Nat → Prop, ∀ a, E a ↔ (a = into) := ⟨fun a => a = into, fun _ => Iff.rfl⟩
  have hnE : ∀ i, i < N → ¬ E9 (kR κ rv i) := fun i hi q9 => hne i hi ((hM _).mp q9)
  refine lv_iload_n hx hb dX1_predictInto_0 rfl (lv_at hl 2 rfl) ?_
  refine lv_if_eq (tgt := 21) hx hb dX1_predictInto_1 (by decide) (fun c9 => ?_) (fun c9 => ?_)
  · have c1 := gi_eq c9
    refine lv_aload_n hx hb dX1_predictInto_21 rfl (lv_at hl 1 rfl) ?_
    refine lv_aload_n hx hb dX1_predictInto_22 rfl (lv_at hl 0 rfl) ?_
    refine va_get (D := κ.1) (ci := 1) (v := .ref (kR κ this 1)) (C := RX1) (T := TX1) (N := 13) hx hb hg inX1 hown hK (hT.o3 (hT.k t_this (by decide))).one 0 rfl rfl 1 (by decide) (hg _ k279) (fun _ h9 => h9) rfl dX1_predictInto_23 ?_
    rw [erv]
    refine lv_iload_n hx hb dX1_predictInto_26 rfl (lv_at hl 3 rfl) ?_
    refine va_aldq hx hb hK (hT.o10 (hT.k trv (by decide))).one 0 4 rfl rfl (g_in (by omega) (by omega)) dX1_predictInto_27 ?_
    obtain ⟨r202, er202⟩ : ∃ z, kR κ rv (ix x) = z := ⟨_, rfl⟩
    have tr202 : zk σ0 r202 1 := by rw [← er202]; exact hT0.ref trv (by decide) (zR10 (ix_lt (by omega) (by omega))) (by decide)
    refine tv (.ref r202) (by rw [← er202]; rfl) ?_
    have wr202 : WV σ0 r202 (v pa) := by rw [← er202, ex]; exact (hVL.fp (FP.rf (E := E9)) hkv hnE) pa (by omega)
    obtain ⟨h205, oh205, th205⟩ := hT.o1 (hT.k t_into (by decide))
    have hTo := hT
    refine tVv (n := 1) (As := [.ref r202]) (rest := []) hx hb hml hown hg hT hK hX (X4v_copyFrom l κ σ0 into r202  (hT.k t_into (by decide)) (hT.k tr202 (by decide)) wr202) (fun _ _ h => h) (mwV k455 k456 k457 k88 k458) ⟨rfl, by decide, by decide, by decide +kernel⟩ ⟨(Nat.le_of_ble_eq_true rfl), (Nat.le_of_ble_eq_true rfl)⟩ oh205 rfl rfl hl.1 rfl (Nat.le_of_ble_eq_true rfl) dX1_predictInto_28 zroom.rf (fun s204 H locs hφ hEs204 hT => ?_)
    obtain ⟨f206, f207⟩ := hφ
    have fp208 : FP σ0 s204 E9 := FP.call hTo (FP.rf (E := E9)) f207 ((hM _).mpr rfl)
    subst hQ9
    exact t_v hx hb hr hlocks hT ⟨by rw [show prd P v rl k pa q = v pa from if_pos (by omega)]; exact f206, fp208.toW (fun a q9 => (hM a).mp q9)⟩ dX1_predictInto_31
  · have c2 := gi_ne c9
    refine lv_iload_n hx hb dX1_predictInto_4 rfl (lv_at hl 2 rfl) ?_
    refine lv_iconst (v := 1) hx hb dX1_predictInto_5 (by decide) ?_
    refine lv_icmp_ne (tgt := 32) hx hb dX1_predictInto_6 (by decide) (fun c9 => ?_) (fun c9 => ?_)
    · have c3 := gi_ne c9
      refine lv_aload_n hx hb dX1_predictInto_32 rfl (lv_at hl 1 rfl) ?_
      refine lv_aload_n hx hb dX1_predictInto_33 rfl (lv_at hl 0 rfl) ?_
      refine va_get (D := κ.1) (ci := 1) (v := .ref (kR κ this 1)) (C := RX1) (T := TX1) (N := 13) hx hb hg inX1 hown hK (hT.o3 (hT.k t_this (by decide))).one 0 rfl rfl 1 (by decide) (hg _ k279) (fun _ h9 => h9) rfl dX1_predictInto_34 ?_
      rw [erv]
      refine lv_iload hx hb dX1_predictInto_37 (lv_at hl 5 rfl) ?_
      refine va_aldq hx hb hK (hT.o10 (hT.k trv (by decide))).one 0 4 rfl rfl (g_in (by omega) (by omega)) dX1_predictInto_39 ?_
      obtain ⟨r210, er210⟩ : ∃ z, kR κ rv (ix y) = z := ⟨_, rfl⟩
      have tr210 : zk σ0 r210 1 := by rw [← er210]; exact hT0.ref trv (by decide) (zR10 (ix_lt (by omega) (by omega))) (by decide)
      refine tv (.ref r210) (by rw [← er210]; rfl) ?_
      have wr210 : WV σ0 r210 (v q) := by rw [← er210, ey]; exact (hVL.fp (FP.rf (E := E9)) hkv hnE) q (by omega)
      obtain ⟨h213, oh213, th213⟩ := hT.o1 (hT.k t_into (by decide))
      have hTo := hT
      refine tVv (n := 1) (As := [.ref r210]) (rest := []) hx hb hml hown hg hT hK hX (X4v_copyFrom l κ σ0 into r210  (hT.k t_into (by decide)) (hT.k tr210 (by decide)) wr210) (fun _ _ h => h) (mwV k455 k456 k457 k88 k458) ⟨rfl, by decide, by decide, by decide +kernel⟩ ⟨(Nat.le_of_ble_eq_true rfl), (Nat.le_of_ble_eq_true rfl)⟩ oh213 rfl rfl hl.1 rfl (Nat.le_of_ble_eq_true rfl) dX1_predictInto_40 zroom.rf (fun s212 H locs hφ hEs212 hT => ?_)
      obtain ⟨f214, f215⟩ := hφ
      have fp216 : FP σ0 s212 E9 := FP.call hTo (FP.rf (E := E9)) f215 ((hM _).mpr rfl)
      refine lv_iload_n hx hb dX1_predictInto_43 rfl (lv_at hl 2 rfl) ?_
      refine lv_iconst (v := 2) hx hb dX1_predictInto_44 (by decide) ?_
      refine lv_icmp_ne (tgt := 110) hx hb dX1_predictInto_45 (by decide) (fun c9 => ?_) (fun c9 => ?_)
      · have c4 := gi_ne c9
        subst hQ9
        exact t_v hx hb hr hlocks hT ⟨by rw [show prd P v rl k pa q = v q from by unfold prd; rw [if_neg (by omega), if_neg (by omega)]]; exact f214, fp216.toW (fun a q9 => (hM a).mp q9)⟩ dX1_predictInto_110
      · have c5 := gi_eq c9
        refine lv_aload_n hx hb dX1_predictInto_48 rfl (lv_at hl 1 rfl) ?_
        refine lv_aload_n hx hb dX1_predictInto_49 rfl (lv_at hl 0 rfl) ?_
        refine va_get (D := κ.1) (ci := 1) (v := .ref (kR κ this 1)) (C := RX1) (T := TX1) (N := 13) hx hb hg inX1 hown hK (hT.o3 (hT.k t_this (by decide))).one 0 rfl rfl 1 (by decide) (hg _ k279) (fun _ h9 => h9) rfl dX1_predictInto_50 ?_
        rw [erv]
        refine lv_iload_n hx hb dX1_predictInto_53 rfl (lv_at hl 3 rfl) ?_
        refine va_aldq hx hb hK (hT.o10 (hT.k trv (by decide))).one 0 4 rfl rfl (g_in (by omega) (by omega)) dX1_predictInto_54 ?_
        obtain ⟨r218, er218⟩ : ∃ z, kR κ rv (ix x) = z := ⟨_, rfl⟩
        have tr218 : zk σ0 r218 1 := by rw [← er218]; exact hT0.ref trv (by decide) (zR10 (ix_lt (by omega) (by omega))) (by decide)
        refine tv (.ref r218) (by rw [← er218]; rfl) ?_
        have wr218 : WV s212 r218 (v pa) := by rw [← er218, ex]; exact (hVL.fp fp216 hkv hnE) pa (by omega)
        refine lv_ldc2 hx hb hown (hg _ k550) dX1_predictInto_55 ?_
        obtain ⟨h221, oh221, th221⟩ := hT.o1 (hT.k t_into (by decide))
        have hTo := hT
        refine tVv (n := 2) (As := [.ref r218, .long (-1)]) (rest := []) hx hb hml hown hg hT hK hX (X4v_add l κ s212 into r218 (-1)  (hT.k t_into (by decide)) (hT.k tr218 (by decide)) f214 wr218 (by rw [jm1]; omega) (by rw [jm1]; omega) (by rw [jm1]; omega) (by rw [jm1]; omega)) (fun _ _ h => h) (mwV k340 k341 k342 k88 k343) ⟨rfl, by decide, by decide, by decide +kernel⟩ ⟨(Nat.le_of_ble_eq_true rfl), (Nat.le_of_ble_eq_true rfl)⟩ oh221 rfl rfl hl.1 rfl (Nat.le_of_ble_eq_true rfl) dX1_predictInto_58 zroom.rf (fun s220 H locs hφ hEs220 hT => ?_)
        obtain ⟨f222, f223⟩ := hφ
        have fp224 : FP σ0 s220 E9 := FP.call hTo fp216 f223 ((hM _).mpr rfl)
        have wv225 : WV s220 into (v q - v pa) := by have z9 := f222; rw [show v q + v pa * (-1 : Int64).toInt = v q - v pa from by rw [jm1]; omega] at z9; exact z9
        refine lv_aload_n hx hb dX1_predictInto_61 rfl (lv_at hl 1 rfl) ?_
        refine lv_iload hx hb dX1_predictInto_62 (lv_at hl 4 rfl) ?_
        refine lv_aload_n hx hb dX1_predictInto_64 rfl (lv_at hl 0 rfl) ?_
        refine va_get (D := κ.1) (ci := 1) (v := .ref (kR κ this 0)) (C := RX1) (T := TX1) (N := 13) hx hb hg inX1 hown hK (hT.o3 (hT.k t_this (by decide))).one 0 rfl rfl 0 (by decide) (hg _ k278) (fun _ h9 => h9) rfl dX1_predictInto_65 ?_
        rw [esrc]
        refine va_get (D := κ.1) (ci := 0) (v := .ref (kR κ src 0)) (C := RX0) (T := TX0) (N := 7) hx hb hg inX0 hown hK (hT.o4 (hT.k tsrc (by decide))).one 0 rfl rfl 0 (by decide) (hg _ k157) (fun _ h9 => h9) rfl dX1_predictInto_68 ?_
        rw [erp]
        refine lv_iload_n hx hb dX1_predictInto_71 rfl (lv_at hl 3 rfl) ?_
        refine va_iald hx hb hK (hT.o8 (hT.k trp (by decide))).one 0 0 rfl rfl (g_in (by omega) (by omega)) dX1_predictInto_72 ?_
        refine lv_topi (fun t226 ht226 => ?_)
        have xt226 : t226.toInt = P pa := by rw [ht226, ixc, ex, show zI s220 rp pa = zI σ0 rp pa from trp.eI hT.2.2.1 (by decide) rfl]; exact hPS pa (by omega)
        refine lv_isub hx hb dX1_predictInto_73 ?_
        first | refine g_sub (by omega) (by omega) (fun t227 ht227 => ?_) | refine lv_topi (fun t227 ht227 => ?_)
        refine lv_i2l hx hb dX1_predictInto_74 rfl ?_
        refine g_i2l (fun t228 ht228 => ?_)
        refine lv_aload_n hx hb dX1_predictInto_75 rfl (lv_at hl 0 rfl) ?_
        refine va_get (D := κ.1) (ci := 1) (v := .ref (kR κ this 0)) (C := RX1) (T := TX1) (N := 13) hx hb hg inX1 hown hK (hT.o3 (hT.k t_this (by decide))).one 0 rfl rfl 0 (by decide) (hg _ k278) (fun _ h9 => h9) rfl dX1_predictInto_76 ?_
        rw [esrc]
        refine va_get (D := κ.1) (ci := 0) (v := .ref (kR κ src 0)) (C := RX0) (T := TX0) (N := 7) hx hb hg inX0 hown hK (hT.o4 (hT.k tsrc (by decide))).one 0 rfl rfl 0 (by decide) (hg _ k157) (fun _ h9 => h9) rfl dX1_predictInto_79 ?_
        rw [erp]
        refine lv_iload hx hb dX1_predictInto_82 (lv_at hl 5 rfl) ?_
        refine va_iald hx hb hK (hT.o8 (hT.k trp (by decide))).one 0 0 rfl rfl (g_in (by omega) (by omega)) dX1_predictInto_84 ?_
        refine lv_topi (fun t229 ht229 => ?_)
        have xt229 : t229.toInt = P q := by rw [ht229, ixc, ey, show zI s220 rp q = zI σ0 rp q from trp.eI hT.2.2.1 (by decide) rfl]; exact hPS q (by omega)
        refine lv_aload_n hx hb dX1_predictInto_85 rfl (lv_at hl 0 rfl) ?_
        refine va_get (D := κ.1) (ci := 1) (v := .ref (kR κ this 0)) (C := RX1) (T := TX1) (N := 13) hx hb hg inX1 hown hK (hT.o3 (hT.k t_this (by decide))).one 0 rfl rfl 0 (by decide) (hg _ k278) (fun _ h9 => h9) rfl dX1_predictInto_86 ?_
        rw [esrc]
        refine va_get (D := κ.1) (ci := 0) (v := .ref (kR κ src 0)) (C := RX0) (T := TX0) (N := 7) hx hb hg inX0 hown hK (hT.o4 (hT.k tsrc (by decide))).one 0 rfl rfl 0 (by decide) (hg _ k157) (fun _ h9 => h9) rfl dX1_predictInto_89 ?_
        rw [erp]
        refine lv_iload_n hx hb dX1_predictInto_92 rfl (lv_at hl 3 rfl) ?_
        refine va_iald hx hb hK (hT.o8 (hT.k trp (by decide))).one 0 0 rfl rfl (g_in (by omega) (by omega)) dX1_predictInto_93 ?_
        refine lv_topi (fun t230 ht230 => ?_)
        have xt230 : t230.toInt = P pa := by rw [ht230, ixc, ex, show zI s220 rp pa = zI σ0 rp pa from trp.eI hT.2.2.1 (by decide) rfl]; exact hPS pa (by omega)
        refine lv_isub hx hb dX1_predictInto_94 ?_
        first | refine g_sub (by omega) (by omega) (fun t231 ht231 => ?_) | refine lv_topi (fun t231 ht231 => ?_)
        refine lv_i2l hx hb dX1_predictInto_95 rfl ?_
        refine g_i2l (fun t232 ht232 => ?_)
        have hX9 : t228.toInt = P k - P pa := by omega
        have hY9 : t232.toInt = P q - P pa := by omega
        have nu := prd_num (a := v q - v pa) (x := P k - P pa) (D := P q - P pa) (by omega) (by omega) (by omega) (by omega) (by omega) rfl
        obtain ⟨h235, oh235, th235⟩ := hT.o1 (hT.k t_into (by decide))
        have hTo := hT
        refine tVv (n := 2) (As := [.long t228, .long t232]) (rest := []) hx hb hml hown hg hT hK hX (X4v_scale l κ s220 into t228 t232  (hT.k t_into (by decide)) wv225 (by omega) (by rw [hX9]; omega) (by rw [hX9]; omega) (by rw [hX9, hY9]; omega) (by rw [hX9, hY9]; omega)) (fun _ _ h => h) (mwV k551 k552 k553 k88 k554) ⟨rfl, by decide, by decide, by decide +kernel⟩ ⟨(Nat.le_of_ble_eq_true rfl), (Nat.le_of_ble_eq_true rfl)⟩ oh235 rfl rfl hl.1 rfl (Nat.le_of_ble_eq_true rfl) dX1_predictInto_96 zroom.rf (fun s234 H locs hφ hEs234 hT => ?_)
        obtain ⟨f236, f237⟩ := hφ
        have fp238 : FP σ0 s234 E9 := FP.call hTo fp224 f237 ((hM _).mpr rfl)
        have wv239 : WV s234 into ((v q - v pa) * (P k - P pa) / (P q - P pa)) := by have z9 := f236; rw [hX9, hY9] at z9; exact z9
        refine lv_aload_n hx hb dX1_predictInto_99 rfl (lv_at hl 1 rfl) ?_
        refine lv_aload_n hx hb dX1_predictInto_100 rfl (lv_at hl 0 rfl) ?_
        refine va_get (D := κ.1) (ci := 1) (v := .ref (kR κ this 1)) (C := RX1) (T := TX1) (N := 13) hx hb hg inX1 hown hK (hT.o3 (hT.k t_this (by decide))).one 0 rfl rfl 1 (by decide) (hg _ k279) (fun _ h9 => h9) rfl dX1_predictInto_101 ?_
        rw [erv]
        refine lv_iload_n hx hb dX1_predictInto_104 rfl (lv_at hl 3 rfl) ?_
        refine va_aldq hx hb hK (hT.o10 (hT.k trv (by decide))).one 0 4 rfl rfl (g_in (by omega) (by omega)) dX1_predictInto_105 ?_
        obtain ⟨r241, er241⟩ : ∃ z, kR κ rv (ix x) = z := ⟨_, rfl⟩
        have tr241 : zk σ0 r241 1 := by rw [← er241]; exact hT0.ref trv (by decide) (zR10 (ix_lt (by omega) (by omega))) (by decide)
        refine tv (.ref r241) (by rw [← er241]; rfl) ?_
        have wr241 : WV s234 r241 (v pa) := by rw [← er241, ex]; exact (hVL.fp fp238 hkv hnE) pa (by omega)
        refine lv_lconst (v := 1) hx hb dX1_predictInto_106 (by decide) ?_
        obtain ⟨h244, oh244, th244⟩ := hT.o1 (hT.k t_into (by decide))
        have hTo := hT
        refine tVv (n := 2) (As := [.ref r241, .long 1]) (rest := []) hx hb hml hown hg hT hK hX (X4v_add l κ s234 into r241 1  (hT.k t_into (by decide)) (hT.k tr241 (by decide)) wv239 wr241 (by rw [j1]; omega) (by rw [j1]; omega) (by rw [j1]; omega) (by rw [j1]; omega)) (fun _ _ h => h) (mwV k340 k341 k342 k88 k343) ⟨rfl, by decide, by decide, by decide +kernel⟩ ⟨(Nat.le_of_ble_eq_true rfl), (Nat.le_of_ble_eq_true rfl)⟩ oh244 rfl rfl hl.1 rfl (Nat.le_of_ble_eq_true rfl) dX1_predictInto_107 zroom.rf (fun s243 H locs hφ hEs243 hT => ?_)
        obtain ⟨f245, f246⟩ := hφ
        have fp247 : FP σ0 s243 E9 := FP.call hTo fp238 f246 ((hM _).mpr rfl)
        have wv248 : WV s243 into (v pa + (v q - v pa) * (P k - P pa) / (P q - P pa)) := by have z9 := f245; rw [show (v q - v pa) * (P k - P pa) / (P q - P pa) + v pa * (1 : Int64).toInt = v pa + (v q - v pa) * (P k - P pa) / (P q - P pa) from by rw [j1]; omega] at z9; exact z9
        subst hQ9
        exact t_v hx hb hr hlocks hT ⟨by rw [show prd P v rl k pa q = v pa + (v q - v pa) * (P k - P pa) / (P q - P pa) from by unfold prd; rw [if_neg (by omega), if_pos (by omega)]]; exact wv248, fp247.toW (fun a q9 => (hM a).mp q9)⟩ dX1_predictInto_110
    · have c6 := gi_eq c9
      refine lv_aload_n hx hb dX1_predictInto_9 rfl (lv_at hl 0 rfl) ?_
      refine lv_iload_n hx hb dX1_predictInto_10 rfl (lv_at hl 3 rfl) ?_
      refine lv_iload hx hb dX1_predictInto_11 (lv_at hl 4 rfl) ?_
      refine lv_iload hx hb dX1_predictInto_13 (lv_at hl 5 rfl) ?_
      have hTo := hT
      refine tVi (n := 3) (As := [.int x, .int po, .int y]) (rest := []) hx hb hml hown hg hT hK hX (X1v_isLeftNear (N := N) (P := P) (pa := pa) (q := q) l κ σ0 this x po y  (hT.k t_this (by decide)) h0 h1 (by omega) (by omega) (by omega) (by omega) (by omega) (by omega)) sub_fE_fX (mwV k546 k548 k11 k87 k549) ⟨rfl, by decide, by decide, by decide +kernel⟩ ⟨(Nat.le_of_ble_eq_true rfl), (Nat.le_of_ble_eq_true rfl)⟩ (hT.o3 (hT.k t_this (by decide))) rfl rfl hl.1 rfl (Nat.le_of_ble_eq_true rfl) dX1_predictInto_15 zroom.rf (fun x249 s250 H locs hφ hEs250 hT => ?_)
      have fa251 : FA σ0 s250 := FA.ro hTo hEs250 (fun _ => rfl) (fun _ _ => rfl)
      have fp252 : FP σ0 s250 E9 := FP.callA hTo (FP.rf (E := E9)) fa251
      obtain ⟨f253, f254⟩ := hφ
      refine lv_if_eq (tgt := 32) hx hb dX1_predictInto_18 (by decide) (fun c9 => ?_) (fun c9 => ?_)
      · have c7 := gi_eq c9
        refine lv_aload_n hx hb dX1_predictInto_32 rfl (lv_at hl 1 rfl) ?_
        refine lv_aload_n hx hb dX1_predictInto_33 rfl (lv_at hl 0 rfl) ?_
        refine va_get (D := κ.1) (ci := 1) (v := .ref (kR κ this 1)) (C := RX1) (T := TX1) (N := 13) hx hb hg inX1 hown hK (hT.o3 (hT.k t_this (by decide))).one 0 rfl rfl 1 (by decide) (hg _ k279) (fun _ h9 => h9) rfl dX1_predictInto_34 ?_
        rw [erv]
        refine lv_iload hx hb dX1_predictInto_37 (lv_at hl 5 rfl) ?_
        refine va_aldq hx hb hK (hT.o10 (hT.k trv (by decide))).one 0 4 rfl rfl (g_in (by omega) (by omega)) dX1_predictInto_39 ?_
        obtain ⟨r256, er256⟩ : ∃ z, kR κ rv (ix y) = z := ⟨_, rfl⟩
        have tr256 : zk σ0 r256 1 := by rw [← er256]; exact hT0.ref trv (by decide) (zR10 (ix_lt (by omega) (by omega))) (by decide)
        refine tv (.ref r256) (by rw [← er256]; rfl) ?_
        have wr256 : WV s250 r256 (v q) := by rw [← er256, ey]; exact (hVL.fp fp252 hkv hnE) q (by omega)
        obtain ⟨h259, oh259, th259⟩ := hT.o1 (hT.k t_into (by decide))
        have hTo := hT
        refine tVv (n := 1) (As := [.ref r256]) (rest := []) hx hb hml hown hg hT hK hX (X4v_copyFrom l κ s250 into r256  (hT.k t_into (by decide)) (hT.k tr256 (by decide)) wr256) (fun _ _ h => h) (mwV k455 k456 k457 k88 k458) ⟨rfl, by decide, by decide, by decide +kernel⟩ ⟨(Nat.le_of_ble_eq_true rfl), (Nat.le_of_ble_eq_true rfl)⟩ oh259 rfl rfl hl.1 rfl (Nat.le_of_ble_eq_true rfl) dX1_predictInto_40 zroom.rf (fun s258 H locs hφ hEs258 hT => ?_)
        obtain ⟨f260, f261⟩ := hφ
        have fp262 : FP σ0 s258 E9 := FP.call hTo fp252 f261 ((hM _).mpr rfl)
        refine lv_iload_n hx hb dX1_predictInto_43 rfl (lv_at hl 2 rfl) ?_
        refine lv_iconst (v := 2) hx hb dX1_predictInto_44 (by decide) ?_
        refine lv_icmp_ne (tgt := 110) hx hb dX1_predictInto_45 (by decide) (fun c9 => ?_) (fun c9 => ?_)
        · have c8 := gi_ne c9
          subst hQ9
          exact t_v hx hb hr hlocks hT ⟨by rw [show prd P v rl k pa q = v q from by unfold prd; rw [if_neg (by omega), if_neg (by omega)]]; exact f260, fp262.toW (fun a q9 => (hM a).mp q9)⟩ dX1_predictInto_110
        · have c9 := gi_eq c9
          refine lv_aload_n hx hb dX1_predictInto_48 rfl (lv_at hl 1 rfl) ?_
          refine lv_aload_n hx hb dX1_predictInto_49 rfl (lv_at hl 0 rfl) ?_
          refine va_get (D := κ.1) (ci := 1) (v := .ref (kR κ this 1)) (C := RX1) (T := TX1) (N := 13) hx hb hg inX1 hown hK (hT.o3 (hT.k t_this (by decide))).one 0 rfl rfl 1 (by decide) (hg _ k279) (fun _ h9 => h9) rfl dX1_predictInto_50 ?_
          rw [erv]
          refine lv_iload_n hx hb dX1_predictInto_53 rfl (lv_at hl 3 rfl) ?_
          refine va_aldq hx hb hK (hT.o10 (hT.k trv (by decide))).one 0 4 rfl rfl (g_in (by omega) (by omega)) dX1_predictInto_54 ?_
          obtain ⟨r264, er264⟩ : ∃ z, kR κ rv (ix x) = z := ⟨_, rfl⟩
          have tr264 : zk σ0 r264 1 := by rw [← er264]; exact hT0.ref trv (by decide) (zR10 (ix_lt (by omega) (by omega))) (by decide)
          refine tv (.ref r264) (by rw [← er264]; rfl) ?_
          have wr264 : WV s258 r264 (v pa) := by rw [← er264, ex]; exact (hVL.fp fp262 hkv hnE) pa (by omega)
          refine lv_ldc2 hx hb hown (hg _ k550) dX1_predictInto_55 ?_
          obtain ⟨h267, oh267, th267⟩ := hT.o1 (hT.k t_into (by decide))
          have hTo := hT
          refine tVv (n := 2) (As := [.ref r264, .long (-1)]) (rest := []) hx hb hml hown hg hT hK hX (X4v_add l κ s258 into r264 (-1)  (hT.k t_into (by decide)) (hT.k tr264 (by decide)) f260 wr264 (by rw [jm1]; omega) (by rw [jm1]; omega) (by rw [jm1]; omega) (by rw [jm1]; omega)) (fun _ _ h => h) (mwV k340 k341 k342 k88 k343) ⟨rfl, by decide, by decide, by decide +kernel⟩ ⟨(Nat.le_of_ble_eq_true rfl), (Nat.le_of_ble_eq_true rfl)⟩ oh267 rfl rfl hl.1 rfl (Nat.le_of_ble_eq_true rfl) dX1_predictInto_58 zroom.rf (fun s266 H locs hφ hEs266 hT => ?_)
          obtain ⟨f268, f269⟩ := hφ
          have fp270 : FP σ0 s266 E9 := FP.call hTo fp262 f269 ((hM _).mpr rfl)
          have wv271 : WV s266 into (v q - v pa) := by have z9 := f268; rw [show v q + v pa * (-1 : Int64).toInt = v q - v pa from by rw [jm1]; omega] at z9; exact z9
          refine lv_aload_n hx hb dX1_predictInto_61 rfl (lv_at hl 1 rfl) ?_
          refine lv_iload hx hb dX1_predictInto_62 (lv_at hl 4 rfl) ?_
          refine lv_aload_n hx hb dX1_predictInto_64 rfl (lv_at hl 0 rfl) ?_
          refine va_get (D := κ.1) (ci := 1) (v := .ref (kR κ this 0)) (C := RX1) (T := TX1) (N := 13) hx hb hg inX1 hown hK (hT.o3 (hT.k t_this (by decide))).one 0 rfl rfl 0 (by decide) (hg _ k278) (fun _ h9 => h9) rfl dX1_predictInto_65 ?_
          rw [esrc]
          refine va_get (D := κ.1) (ci := 0) (v := .ref (kR κ src 0)) (C := RX0) (T := TX0) (N := 7) hx hb hg inX0 hown hK (hT.o4 (hT.k tsrc (by decide))).one 0 rfl rfl 0 (by decide) (hg _ k157) (fun _ h9 => h9) rfl dX1_predictInto_68 ?_
          rw [erp]
          refine lv_iload_n hx hb dX1_predictInto_71 rfl (lv_at hl 3 rfl) ?_
          refine va_iald hx hb hK (hT.o8 (hT.k trp (by decide))).one 0 0 rfl rfl (g_in (by omega) (by omega)) dX1_predictInto_72 ?_
          refine lv_topi (fun t272 ht272 => ?_)
          have xt272 : t272.toInt = P pa := by rw [ht272, ixc, ex, show zI s266 rp pa = zI σ0 rp pa from trp.eI hT.2.2.1 (by decide) rfl]; exact hPS pa (by omega)
          refine lv_isub hx hb dX1_predictInto_73 ?_
          first | refine g_sub (by omega) (by omega) (fun t273 ht273 => ?_) | refine lv_topi (fun t273 ht273 => ?_)
          refine lv_i2l hx hb dX1_predictInto_74 rfl ?_
          refine g_i2l (fun t274 ht274 => ?_)
          refine lv_aload_n hx hb dX1_predictInto_75 rfl (lv_at hl 0 rfl) ?_
          refine va_get (D := κ.1) (ci := 1) (v := .ref (kR κ this 0)) (C := RX1) (T := TX1) (N := 13) hx hb hg inX1 hown hK (hT.o3 (hT.k t_this (by decide))).one 0 rfl rfl 0 (by decide) (hg _ k278) (fun _ h9 => h9) rfl dX1_predictInto_76 ?_
          rw [esrc]
          refine va_get (D := κ.1) (ci := 0) (v := .ref (kR κ src 0)) (C := RX0) (T := TX0) (N := 7) hx hb hg inX0 hown hK (hT.o4 (hT.k tsrc (by decide))).one 0 rfl rfl 0 (by decide) (hg _ k157) (fun _ h9 => h9) rfl dX1_predictInto_79 ?_
          rw [erp]
          refine lv_iload hx hb dX1_predictInto_82 (lv_at hl 5 rfl) ?_
          refine va_iald hx hb hK (hT.o8 (hT.k trp (by decide))).one 0 0 rfl rfl (g_in (by omega) (by omega)) dX1_predictInto_84 ?_
          refine lv_topi (fun t275 ht275 => ?_)
          have xt275 : t275.toInt = P q := by rw [ht275, ixc, ey, show zI s266 rp q = zI σ0 rp q from trp.eI hT.2.2.1 (by decide) rfl]; exact hPS q (by omega)
          refine lv_aload_n hx hb dX1_predictInto_85 rfl (lv_at hl 0 rfl) ?_
          refine va_get (D := κ.1) (ci := 1) (v := .ref (kR κ this 0)) (C := RX1) (T := TX1) (N := 13) hx hb hg inX1 hown hK (hT.o3 (hT.k t_this (by decide))).one 0 rfl rfl 0 (by decide) (hg _ k278) (fun _ h9 => h9) rfl dX1_predictInto_86 ?_
          rw [esrc]
          refine va_get (D := κ.1) (ci := 0) (v := .ref (kR κ src 0)) (C := RX0) (T := TX0) (N := 7) hx hb hg inX0 hown hK (hT.o4 (hT.k tsrc (by decide))).one 0 rfl rfl 0 (by decide) (hg _ k157) (fun _ h9 => h9) rfl dX1_predictInto_89 ?_
          rw [erp]
          refine lv_iload_n hx hb dX1_predictInto_92 rfl (lv_at hl 3 rfl) ?_
          refine va_iald hx hb hK (hT.o8 (hT.k trp (by decide))).one 0 0 rfl rfl (g_in (by omega) (by omega)) dX1_predictInto_93 ?_
          refine lv_topi (fun t276 ht276 => ?_)
          have xt276 : t276.toInt = P pa := by rw [ht276, ixc, ex, show zI s266 rp pa = zI σ0 rp pa from trp.eI hT.2.2.1 (by decide) rfl]; exact hPS pa (by omega)
          refine lv_isub hx hb dX1_predictInto_94 ?_
          first | refine g_sub (by omega) (by omega) (fun t277 ht277 => ?_) | refine lv_topi (fun t277 ht277 => ?_)
          refine lv_i2l hx hb dX1_predictInto_95 rfl ?_
          refine g_i2l (fun t278 ht278 => ?_)
          have hX9 : t274.toInt = P k - P pa := by omega
          have hY9 : t278.toInt = P q - P pa := by omega
          have nu := prd_num (a := v q - v pa) (x := P k - P pa) (D := P q - P pa) (by omega) (by omega) (by omega) (by omega) (by omega) rfl
          obtain ⟨h281, oh281, th281⟩ := hT.o1 (hT.k t_into (by decide))
          have hTo := hT
          refine tVv (n := 2) (As := [.long t274, .long t278]) (rest := []) hx hb hml hown hg hT hK hX (X4v_scale l κ s266 into t274 t278  (hT.k t_into (by decide)) wv271 (by omega) (by rw [hX9]; omega) (by rw [hX9]; omega) (by rw [hX9, hY9]; omega) (by rw [hX9, hY9]; omega)) (fun _ _ h => h) (mwV k551 k552 k553 k88 k554) ⟨rfl, by decide, by decide, by decide +kernel⟩ ⟨(Nat.le_of_ble_eq_true rfl), (Nat.le_of_ble_eq_true rfl)⟩ oh281 rfl rfl hl.1 rfl (Nat.le_of_ble_eq_true rfl) dX1_predictInto_96 zroom.rf (fun s280 H locs hφ hEs280 hT => ?_)
          obtain ⟨f282, f283⟩ := hφ
          have fp284 : FP σ0 s280 E9 := FP.call hTo fp270 f283 ((hM _).mpr rfl)
          have wv285 : WV s280 into ((v q - v pa) * (P k - P pa) / (P q - P pa)) := by have z9 := f282; rw [hX9, hY9] at z9; exact z9
          refine lv_aload_n hx hb dX1_predictInto_99 rfl (lv_at hl 1 rfl) ?_
          refine lv_aload_n hx hb dX1_predictInto_100 rfl (lv_at hl 0 rfl) ?_
          refine va_get (D := κ.1) (ci := 1) (v := .ref (kR κ this 1)) (C := RX1) (T := TX1) (N := 13) hx hb hg inX1 hown hK (hT.o3 (hT.k t_this (by decide))).one 0 rfl rfl 1 (by decide) (hg _ k279) (fun _ h9 => h9) rfl dX1_predictInto_101 ?_
          rw [erv]
          refine lv_iload_n hx hb dX1_predictInto_104 rfl (lv_at hl 3 rfl) ?_
          refine va_aldq hx hb hK (hT.o10 (hT.k trv (by decide))).one 0 4 rfl rfl (g_in (by omega) (by omega)) dX1_predictInto_105 ?_
          obtain ⟨r287, er287⟩ : ∃ z, kR κ rv (ix x) = z := ⟨_, rfl⟩
          have tr287 : zk σ0 r287 1 := by rw [← er287]; exact hT0.ref trv (by decide) (zR10 (ix_lt (by omega) (by omega))) (by decide)
          refine tv (.ref r287) (by rw [← er287]; rfl) ?_
          have wr287 : WV s280 r287 (v pa) := by rw [← er287, ex]; exact (hVL.fp fp284 hkv hnE) pa (by omega)
          refine lv_lconst (v := 1) hx hb dX1_predictInto_106 (by decide) ?_
          obtain ⟨h290, oh290, th290⟩ := hT.o1 (hT.k t_into (by decide))
          have hTo := hT
          refine tVv (n := 2) (As := [.ref r287, .long 1]) (rest := []) hx hb hml hown hg hT hK hX (X4v_add l κ s280 into r287 1  (hT.k t_into (by decide)) (hT.k tr287 (by decide)) wv285 wr287 (by rw [j1]; omega) (by rw [j1]; omega) (by rw [j1]; omega) (by rw [j1]; omega)) (fun _ _ h => h) (mwV k340 k341 k342 k88 k343) ⟨rfl, by decide, by decide, by decide +kernel⟩ ⟨(Nat.le_of_ble_eq_true rfl), (Nat.le_of_ble_eq_true rfl)⟩ oh290 rfl rfl hl.1 rfl (Nat.le_of_ble_eq_true rfl) dX1_predictInto_107 zroom.rf (fun s289 H locs hφ hEs289 hT => ?_)
          obtain ⟨f291, f292⟩ := hφ
          have fp293 : FP σ0 s289 E9 := FP.call hTo fp284 f292 ((hM _).mpr rfl)
          have wv294 : WV s289 into (v pa + (v q - v pa) * (P k - P pa) / (P q - P pa)) := by have z9 := f291; rw [show (v q - v pa) * (P k - P pa) / (P q - P pa) + v pa * (1 : Int64).toInt = v pa + (v q - v pa) * (P k - P pa) / (P q - P pa) from by rw [j1]; omega] at z9; exact z9
          subst hQ9
          exact t_v hx hb hr hlocks hT ⟨by rw [show prd P v rl k pa q = v pa + (v q - v pa) * (P k - P pa) / (P q - P pa) from by unfold prd; rw [if_neg (by omega), if_pos (by omega)]]; exact wv294, fp293.toW (fun a q9 => (hM a).mp q9)⟩ dX1_predictInto_110
      · have c10 := gi_ne c9
        refine lv_aload_n hx hb dX1_predictInto_21 rfl (lv_at hl 1 rfl) ?_
        refine lv_aload_n hx hb dX1_predictInto_22 rfl (lv_at hl 0 rfl) ?_
        refine va_get (D := κ.1) (ci := 1) (v := .ref (kR κ this 1)) (C := RX1) (T := TX1) (N := 13) hx hb hg inX1 hown hK (hT.o3 (hT.k t_this (by decide))).one 0 rfl rfl 1 (by decide) (hg _ k279) (fun _ h9 => h9) rfl dX1_predictInto_23 ?_
        rw [erv]
        refine lv_iload_n hx hb dX1_predictInto_26 rfl (lv_at hl 3 rfl) ?_
        refine va_aldq hx hb hK (hT.o10 (hT.k trv (by decide))).one 0 4 rfl rfl (g_in (by omega) (by omega)) dX1_predictInto_27 ?_
        obtain ⟨r296, er296⟩ : ∃ z, kR κ rv (ix x) = z := ⟨_, rfl⟩
        have tr296 : zk σ0 r296 1 := by rw [← er296]; exact hT0.ref trv (by decide) (zR10 (ix_lt (by omega) (by omega))) (by decide)
        refine tv (.ref r296) (by rw [← er296]; rfl) ?_
        have wr296 : WV s250 r296 (v pa) := by rw [← er296, ex]; exact (hVL.fp fp252 hkv hnE) pa (by omega)
        obtain ⟨h299, oh299, th299⟩ := hT.o1 (hT.k t_into (by decide))
        have hTo := hT
        refine tVv (n := 1) (As := [.ref r296]) (rest := []) hx hb hml hown hg hT hK hX (X4v_copyFrom l κ s250 into r296  (hT.k t_into (by decide)) (hT.k tr296 (by decide)) wr296) (fun _ _ h => h) (mwV k455 k456 k457 k88 k458) ⟨rfl, by decide, by decide, by decide +kernel⟩ ⟨(Nat.le_of_ble_eq_true rfl), (Nat.le_of_ble_eq_true rfl)⟩ oh299 rfl rfl hl.1 rfl (Nat.le_of_ble_eq_true rfl) dX1_predictInto_28 zroom.rf (fun s298 H locs hφ hEs298 hT => ?_)
        obtain ⟨f300, f301⟩ := hφ
        have fp302 : FP σ0 s298 E9 := FP.call hTo fp252 f301 ((hM _).mpr rfl)
        subst hQ9
        exact t_v hx hb hr hlocks hT ⟨by rw [show prd P v rl k pa q = v pa from if_pos (by omega)]; exact f300, fp302.toW (fun a q9 => (hM a).mp q9)⟩ dX1_predictInto_31

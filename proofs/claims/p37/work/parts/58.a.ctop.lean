/-! LiftingSignal: append, load, save, restore -/
set_option maxHeartbeats 4000000 in
set_option maxRecDepth 100000 in
theorem X3s_addInt (l : Launch) (κ : Kt) (σ0 : Gh) (this : Nat) (f : Int32) (t_this : zk σ0 this 6) (h0 : (zI σ0 this 1).toInt ≤ 696) : TC l yX3_addInt cX3_addInt 3 none 0 0 [.ref this, .int f] κ σ0 (tqv κ fT1 σ0 (fun (τ : Gh) => ((zI τ this 1).toInt = (zI σ0 this 1).toInt + 4) ∧ (zI τ (kR κ this 0) = byn tcb (zI σ0 (kR κ this 0)) (zI σ0 this 1).toInt.toNat f 4))) := by
  refine TC.of fT1 (by decide +kernel) (Nat.le_of_ble_eq_true rfl) ?_
  intro p e s m below meth c ls hcs hK hX hT hl
  obtain ⟨hx, hb, hr, hml, hown, hg, hlocks, hin⟩ := hcs
  have hown : s.vm.findClass RX3 = some m.cls := hown
  have hl : lv_has ls 3 [(0, .ref this), (1, .int f)] := hl
  have hT0 := hT
  have n0 : (0 : Int32).toInt = 0 := by decide
  have n1 : (1 : Int32).toInt = 1 := by decide
  have n24 : (24 : Int32).toInt = 24 := by decide
  have n700 : (700 : Int32).toInt = 700 := by decide
  have f_lo := Int32.le_toInt f
  have f_hi := Int32.toInt_lt f
  generalize hQ9 : tQ _ _ _ _ _ _ = Q9
  obtain ⟨rB, erB⟩ : ∃ z, kR κ this 0 = z := ⟨_, rfl⟩
  have trB : zk σ0 rB 14 := by rw [← erB]; exact hT0.ref t_this (by decide) (by decide) (by decide)
  obtain ⟨L9, hL9⟩ : ∃ z : Nat, (zI σ0 this 1).toInt.toNat = z := ⟨_, rfl⟩
  have bL := (hT0.P t_this (by decide)).1.1
  have hL8 : (zI σ0 this 1).toInt = L9 := by omega
  refine lv_bipush (v := 24) hx hb dX3_addInt_0 (by decide) ?_
  refine lv_istore_n (lv' := [(2, .int 24), (0, .ref this), (1, .int f)]) hx hb dX3_addInt_2 rfl hl (by decide) rfl (fun ls hl => ?_)
  have loop3 : ∀ (n9 : Nat) (sh : Int32) (u : Int32) (H : Heap) (locs : List Loc) (sg : Gh) (ls : Array Slot), TS κ fT1 σ0 sg s H locs → (zI sg this 1 = u) → (8 * u.toInt + sh.toInt = 8 * (zI σ0 this 1).toInt + 24) → (-8 ≤ sh.toInt) → (sh.toInt ≤ 24) → (∃ n8 : Nat, (n8 : Int) = u.toInt - L9 ∧ zI sg rB = byn tcb (zI σ0 rB) L9 f n8) → lv_has ls 3 [(2, .int sh), (0, .ref this), (1, .int f)] → (sh.toInt + 8) < n9 → tW p l e 0 0 κ s m #[.ref this, .int f] below meth c H locs Q9 (F0 m 3 ls []) := by
    intro n9
    induction n9 with
    | zero =>
      intro sh u H locs sg ls hT kthis_1 q1 q2 q3 q4 hl hm9
      exfalso
      omega
    | succ n9 ih9 =>
      have ih3 := ih9
      clear ih9
      intro sh u H locs s1 ls hT kthis_1 q1 q2 q3 q4 hl hm9
      have b2 := (hT.P (hT.k t_this (by decide)) (by decide)).1
      rw [kthis_1] at b2
      have b2l := b2.1
      have b2h := b2.2
      obtain ⟨n8, hn8, hb8⟩ := q4
      refine lv_iload_n hx hb dX3_addInt_3 rfl (lv_at hl 0 rfl) ?_
      refine lv_if_lt (tgt := 46) hx hb dX3_addInt_4 (by decide) (fun c9 => ?_) (fun c9 => ?_)
      · have c1 := gi_lt c9
        subst hQ9
        exact t_v hx hb hr hlocks hT ⟨by rw [(show zI s1 this 1 = u from kthis_1)]; omega, by rw [erB, hL9, hb8, show n8 = 4 from by omega]⟩ dX3_addInt_46
      · have c2 := gi_nlt c9
        refine lv_aload_n hx hb dX3_addInt_7 rfl (lv_at hl 1 rfl) ?_
        refine va_get (D := κ.1) (ci := 3) (v := .int (zI s1 this 1)) (C := RX3) (T := TX3) (N := 8) hx hb hg inX3 hown hK (hT.o6 (hT.k t_this (by decide))).one 0 rfl rfl 1 (by decide) (hg _ k120) (fun _ h9 => h9) rfl dX3_addInt_8 ?_
        rw [kthis_1]
        refine lv_sipush (v := 700) hx hb dX3_addInt_11 (by decide) ?_
        refine lv_icmp_ge (tgt := 46) hx hb dX3_addInt_14 (by decide) (fun c9 => ?_) (fun c9 => ?_)
        · have c3 := gi_le c9
          subst hQ9
          exact t_v hx hb hr hlocks hT ⟨by rw [(show zI s1 this 1 = u from kthis_1)]; omega, by rw [erB, hL9, hb8, show n8 = 4 from by omega]⟩ dX3_addInt_46
        · have c4 := gi_nle c9
          refine lv_aload_n hx hb dX3_addInt_17 rfl (lv_at hl 1 rfl) ?_
          refine va_get (D := κ.1) (ci := 3) (v := .ref (kR κ this 0)) (C := RX3) (T := TX3) (N := 8) hx hb hg inX3 hown hK (hT.o6 (hT.k t_this (by decide))).one 0 rfl rfl 0 (by decide) (hg _ k119) (fun _ h9 => h9) rfl dX3_addInt_18 ?_
          rw [erB]
          refine lv_aload_n hx hb dX3_addInt_21 rfl (lv_at hl 1 rfl) ?_
          refine va_get (D := κ.1) (ci := 3) (v := .int (zI s1 this 1)) (C := RX3) (T := TX3) (N := 8) hx hb hg inX3 hown hK (hT.o6 (hT.k t_this (by decide))).one 0 rfl rfl 1 (by decide) (hg _ k120) (fun _ h9 => h9) rfl dX3_addInt_22 ?_
          rw [kthis_1]
          refine lv_iload_n hx hb dX3_addInt_25 rfl (lv_at hl 2 rfl) ?_
          refine lv_iload_n hx hb dX3_addInt_26 rfl (lv_at hl 0 rfl) ?_
          refine lv_ishr hx hb dX3_addInt_27 ?_
          refine lv_topi (fun t3 ht3 => ?_)
          refine lv_i2b hx hb dX3_addInt_28 rfl ?_
          refine lv_topi (fun t4 ht4 => ?_)
          have hv9 : vp_nar .byte t4 = tcb (bt4 f sh.toInt) := by rw [ht4, ht3, bt4_of]; rfl
          have hTo := hT
          refine tastb (n := 700) hx hb hK hT (hT.k trB (by decide)) ⟨by decide, by decide⟩ (fun _ _ _ => rfl) (fun _ _ => trivial) (fun _ => rfl) (by omega) (by omega) dX3_addInt_29 (fun H locs s5 hus5 hT => ?_)
          have kthis_1 : zI s5 this 1 = u := (zput_o hus5 (Or.inl ((hTo.k t_this (by decide)).ne (hTo.k trB (by decide)) (by decide)))).trans kthis_1
          have Y6 : zI s5 rB = byn tcb (zI σ0 rB) L9 f (n8 + 1) := byn_put (sh := sh.toInt) hb8 hus5 (show ix u = L9 + n8 from by unfold ix; omega) hv9 (by omega)
          refine lv_aload_n hx hb dX3_addInt_30 rfl (lv_at hl 1 rfl) ?_
          refine lv_dup hx hb dX3_addInt_31 rfl ?_
          refine va_get (D := κ.1) (ci := 3) (v := .int (zI s5 this 1)) (C := RX3) (T := TX3) (N := 8) hx hb hg inX3 hown hK (hT.o6 (hT.k t_this (by decide))).one 0 rfl rfl 1 (by decide) (hg _ k120) (fun _ h9 => h9) rfl dX3_addInt_32 ?_
          rw [kthis_1]
          refine lv_iconst (v := 1) hx hb dX3_addInt_35 (by decide) ?_
          refine lv_iadd hx hb dX3_addInt_36 ?_
          first | refine g_add (by omega) (by omega) (fun t7 ht7 => ?_) | refine lv_topi (fun t7 ht7 => ?_)
          have hTo := hT
          refine pf6_1 hx hb hg hown hK hT (hT.k t_this (by decide)) rfl ⟨by omega, by omega⟩ (hg _ k120) dX3_addInt_37 (fun H locs s8 hus8 hT => ?_)
          have Y9 : zI s8 rB = byn tcb (zI σ0 rB) L9 f (n8 + 1) := by first | (rw [show zI s8 rB = zI s5 rB from zput_Io hus8 ((hTo.k trB (by decide)).ne (hTo.k t_this (by decide)) (by decide))]; exact Y6) | rw [show zI s8 rB = zI s5 rB from zput_Io hus8 ((hTo.k trB (by decide)).ne (hTo.k t_this (by decide)) (by decide))]
          have e10 : zI s8 this 1 = t7 := zput_at hus8
          obtain ⟨t11, qt11⟩ : ∃ zz9 : Int32, sh + Int32.ofInt (-8) = zz9 := ⟨_, rfl⟩
          refine lv_iinc (v := t11) (lv' := [(2, .int t11), (0, .ref this), (1, .int f)]) hx hb dX3_addInt_40 hl (k := 0) rfl qt11 (by decide) rfl (fun ls hl => ?_)
          have ht11 : t11.toInt = sh.toInt + (-8) := by rw [← qt11]; exact v_addi rfl (show (Int32.ofInt (-8)).toInt = (-8) from by decide) (by omega) (by omega)
          refine lv_goto (tgt := 3) hx hb dX3_addInt_43 (by decide) ?_
          exact ih3 t11 t7 _ _ _ _ hT e10 (by omega) (by omega) (by omega) ⟨n8 + 1, by omega, Y9⟩ hl (by omega)
  obtain ⟨v12, ev12⟩ : ∃ zz9 : Int32, zI σ0 this 1 = zz9 := ⟨_, rfl⟩
  have qv12 : v12.toInt = (zI σ0 this 1).toInt := by rw [ev12]
  have b13 := (hT.P (hT.k t_this (by decide)) (by decide)).1
  rw [ev12] at b13
  have b13l := b13.1
  have b13h := b13.2
  exact loop3 (((24 : Int32).toInt + 8).toNat + 1) 24 v12 _ _ _ _ hT ev12 (by omega) (by omega) (by omega) ⟨0, by omega, byn_0.symm⟩ hl (by omega)
set_option maxHeartbeats 4000000 in
set_option maxRecDepth 100000 in
theorem X5s_append (l : Launch) (κ : Kt) (σ0 : Gh) (this : Nat) (y1 : Int32) (y2 : Int32) (y3 : Int32) (y4 : Int32) (y5 : Int32) (t_this : zk σ0 this 7) : TC l yX5_append cX5_append 6 (some .int) 1 22 [.ref this, .int y1, .int y2, .int y3, .int y4, .int y5] κ σ0 (tqi κ fT1 σ0 (fun (r : Int32) (τ : Gh) => (((zI σ0 (kR κ this 0) 1).toInt + 20 ≤ 700 ∧ r.toInt = (zI σ0 (kR κ this 0) 1).toInt + 20 ∧ (zI τ (kR κ this 0) 1).toInt = (zI σ0 (kR κ this 0) 1).toInt + 20 ∧ zI τ (kR κ (kR κ this 0) 0) = by20 tcb (zI σ0 (kR κ (kR κ this 0) 0)) (zI σ0 (kR κ this 0) 1).toInt.toNat y1 y2 y3 y4 y5) ∨ (700 < (zI σ0 (kR κ this 0) 1).toInt + 20 ∧ r.toInt = -1 ∧ (zI τ (kR κ this 0) 1).toInt = (zI σ0 (kR κ this 0) 1).toInt ∧ zI τ (kR κ (kR κ this 0) 0) = zI σ0 (kR κ (kR κ this 0) 0))))) := by
  refine TC.of fT1 (by decide +kernel) (Nat.le_of_ble_eq_true rfl) ?_
  intro p e s m below meth c ls hcs hK hX hT hl
  obtain ⟨hx, hb, hr, hml, hown, hg, hlocks, hin⟩ := hcs
  have hown : s.vm.findClass RX5 = some m.cls := hown
  have hl : lv_has ls 6 [(0, .ref this), (1, .int y1), (2, .int y2), (3, .int y3), (4, .int y4), (5, .int y5)] := hl
  have hT0 := hT
  have nm1 : ((-1) : Int32).toInt = (-1) := by decide
  have n0 : (0 : Int32).toInt = 0 := by decide
  have y1_lo := Int32.le_toInt y1
  have y1_hi := Int32.toInt_lt y1
  have y2_lo := Int32.le_toInt y2
  have y2_hi := Int32.toInt_lt y2
  have y3_lo := Int32.le_toInt y3
  have y3_hi := Int32.toInt_lt y3
  have y4_lo := Int32.le_toInt y4
  have y4_hi := Int32.toInt_lt y4
  have y5_lo := Int32.le_toInt y5
  have y5_hi := Int32.toInt_lt y5
  generalize hQ9 : tQ _ _ _ _ _ _ = Q9
  obtain ⟨tx, etx⟩ : ∃ z, kR κ this 0 = z := ⟨_, rfl⟩
  have ttx : zk σ0 tx 6 := by rw [← etx]; exact hT0.ref t_this (by decide) (by decide) (by decide)
  have btx := hT0.P ttx (by decide)
  have btxl := btx.1.1
  have btxh := btx.1.2
  obtain ⟨rB, erB⟩ : ∃ z, kR κ tx 0 = z := ⟨_, rfl⟩
  have trB : zk σ0 rB 14 := by rw [← erB]; exact hT0.ref ttx (by decide) (by decide) (by decide)
  obtain ⟨rI, erI⟩ : ∃ z, kR κ this 6 = z := ⟨_, rfl⟩
  have trI : zk σ0 rI 13 := by rw [← erI]; exact hT0.ref t_this (by decide) (by decide) (by decide)
  obtain ⟨L9, hL9⟩ : ∃ z : Nat, (zI σ0 tx 1).toInt.toNat = z := ⟨_, rfl⟩
  have hL8 : (zI σ0 tx 1).toInt = L9 := by omega
  have b0 : zI σ0 rB = zI σ0 rB := rfl
  refine lv_aload_n hx hb dX5_append_0 rfl (lv_at hl 0 rfl) ?_
  refine va_get (D := κ.1) (ci := 5) (v := .ref (kR κ this 0)) (C := RX5) (T := TX5) (N := 10) hx hb hg inX5 hown hK (hT.o7 (hT.k t_this (by decide))).one 0 rfl rfl 0 (by decide) (hg _ k379) (fun _ h9 => h9) rfl dX5_append_1 ?_
  rw [etx]
  obtain ⟨v1, ev1⟩ : ∃ zz9 : Int32, zI σ0 tx 1 = zz9 := ⟨_, rfl⟩
  have qv1 : v1.toInt = (zI σ0 tx 1).toInt := by rw [ev1]
  have b2 := (hT.P (hT.k ttx (by decide)) (by decide)).1
  rw [ev1] at b2
  have b2l := b2.1
  have b2h := b2.2
  have qq3 : (zI σ0 tx 1).toInt = v1.toInt := by rw [ev1]
  have hTo := hT
  refine tVi (n := 0) (As := []) (rest := []) hx hb hml hown hg hT hK hX (X3_hasRoom l κ σ0 tx  (hT.k ttx (by decide)) ) sub_fE_fT1 (mwV k415 k416 k417 k85 k418) ⟨rfl, by decide, by decide, by decide +kernel⟩ ⟨(Nat.le_of_ble_eq_true rfl), (Nat.le_of_ble_eq_true rfl)⟩ (hT.o6 (hT.k ttx (by decide))) rfl rfl hl.1 rfl (Nat.le_of_ble_eq_true rfl) dX5_append_4 zroom.rf (fun x4 s5 H locs hφ hEs5 hT => ?_)
  have ev1 : zI s5 tx 1 = v1 := ((hTo.k ttx (by decide)).eI hEs5 (by decide) rfl).trans ev1
  have Y6 : zI s5 rB = zI σ0 rB := by first | (rw [show zI s5 rB = zI σ0 rB from funext fun k => (hTo.k trB (by decide)).eI hEs5 (by decide) rfl]; exact b0) | rw [show zI s5 rB = zI σ0 rB from funext fun k => (hTo.k trB (by decide)).eI hEs5 (by decide) rfl]
  obtain ⟨f7, f8⟩ := hφ
  refine lv_if_ne (tgt := 12) hx hb dX5_append_7 (by decide) (fun c9 => ?_) (fun c9 => ?_)
  · have c1 := gi_ne c9
    refine lv_aload_n hx hb dX5_append_12 rfl (lv_at hl 0 rfl) ?_
    refine va_get (D := κ.1) (ci := 5) (v := .ref (kR κ this 0)) (C := RX5) (T := TX5) (N := 10) hx hb hg inX5 hown hK (hT.o7 (hT.k t_this (by decide))).one 0 rfl rfl 0 (by decide) (hg _ k379) (fun _ h9 => h9) rfl dX5_append_13 ?_
    rw [etx]
    refine lv_iload_n hx hb dX5_append_16 rfl (lv_at hl 1 rfl) ?_
    have cz9 : zI s5 tx 1 = v1 := ev1
    have qq10 : (zI s5 tx 1).toInt = v1.toInt := by rw [ev1]
    have hTo := hT
    refine tVv (n := 1) (As := [.int y1]) (rest := []) hx hb hml hown hg hT hK hX (X3s_addInt l κ s5 tx y1  (hT.k ttx (by decide)) (by omega)) (fun _ _ h => h) (mwV k419 k420 k421 k85 k422) ⟨rfl, by decide, by decide, by decide +kernel⟩ ⟨(Nat.le_of_ble_eq_true rfl), (Nat.le_of_ble_eq_true rfl)⟩ (hT.o6 (hT.k ttx (by decide))) rfl rfl hl.1 rfl (Nat.le_of_ble_eq_true rfl) dX5_append_17 zroom.rf (fun s12 H locs hφ hEs12 hT => ?_)
    obtain ⟨f13, f14⟩ := hφ
    rw [erB] at f14
    obtain ⟨v15, ev15⟩ : ∃ zz9 : Int32, zI s12 tx 1 = zz9 := ⟨_, rfl⟩
    have qv15 : v15.toInt = (zI s12 tx 1).toInt := by rw [ev15]
    have b16 := (hT.P (hT.k ttx (by decide)) (by decide)).1
    rw [ev15] at b16
    have b16l := b16.1
    have b16h := b16.2
    rw [(show zI s12 tx 1 = v15 from ev15)] at f13
    have Y17 : zI s12 rB = (byn tcb (zI σ0 rB) L9 y1 4) := by rw [f14, Y6, cz9, show v1.toInt.toNat = L9 from by omega]
    refine lv_aload_n hx hb dX5_append_20 rfl (lv_at hl 0 rfl) ?_
    refine va_get (D := κ.1) (ci := 5) (v := .ref (kR κ this 0)) (C := RX5) (T := TX5) (N := 10) hx hb hg inX5 hown hK (hT.o7 (hT.k t_this (by decide))).one 0 rfl rfl 0 (by decide) (hg _ k379) (fun _ h9 => h9) rfl dX5_append_21 ?_
    rw [etx]
    refine lv_iload_n hx hb dX5_append_24 rfl (lv_at hl 2 rfl) ?_
    have cz18 : zI s12 tx 1 = v15 := ev15
    have qq19 : (zI s12 tx 1).toInt = v15.toInt := by rw [ev15]
    have hTo := hT
    refine tVv (n := 1) (As := [.int y2]) (rest := []) hx hb hml hown hg hT hK hX (X3s_addInt l κ s12 tx y2  (hT.k ttx (by decide)) (by omega)) (fun _ _ h => h) (mwV k419 k420 k421 k85 k422) ⟨rfl, by decide, by decide, by decide +kernel⟩ ⟨(Nat.le_of_ble_eq_true rfl), (Nat.le_of_ble_eq_true rfl)⟩ (hT.o6 (hT.k ttx (by decide))) rfl rfl hl.1 rfl (Nat.le_of_ble_eq_true rfl) dX5_append_25 zroom.rf (fun s21 H locs hφ hEs21 hT => ?_)
    obtain ⟨f22, f23⟩ := hφ
    rw [erB] at f23
    obtain ⟨v24, ev24⟩ : ∃ zz9 : Int32, zI s21 tx 1 = zz9 := ⟨_, rfl⟩
    have qv24 : v24.toInt = (zI s21 tx 1).toInt := by rw [ev24]
    have b25 := (hT.P (hT.k ttx (by decide)) (by decide)).1
    rw [ev24] at b25
    have b25l := b25.1
    have b25h := b25.2
    rw [(show zI s21 tx 1 = v24 from ev24)] at f22
    have Y26 : zI s21 rB = (byn tcb (byn tcb (zI σ0 rB) L9 y1 4) (L9 + 4) y2 4) := by rw [f23, Y17, cz18, show v15.toInt.toNat = (L9 + 4) from by omega]
    refine lv_aload_n hx hb dX5_append_28 rfl (lv_at hl 0 rfl) ?_
    refine va_get (D := κ.1) (ci := 5) (v := .ref (kR κ this 0)) (C := RX5) (T := TX5) (N := 10) hx hb hg inX5 hown hK (hT.o7 (hT.k t_this (by decide))).one 0 rfl rfl 0 (by decide) (hg _ k379) (fun _ h9 => h9) rfl dX5_append_29 ?_
    rw [etx]
    refine lv_iload_n hx hb dX5_append_32 rfl (lv_at hl 3 rfl) ?_
    have cz27 : zI s21 tx 1 = v24 := ev24
    have qq28 : (zI s21 tx 1).toInt = v24.toInt := by rw [ev24]
    have hTo := hT
    refine tVv (n := 1) (As := [.int y3]) (rest := []) hx hb hml hown hg hT hK hX (X3s_addInt l κ s21 tx y3  (hT.k ttx (by decide)) (by omega)) (fun _ _ h => h) (mwV k419 k420 k421 k85 k422) ⟨rfl, by decide, by decide, by decide +kernel⟩ ⟨(Nat.le_of_ble_eq_true rfl), (Nat.le_of_ble_eq_true rfl)⟩ (hT.o6 (hT.k ttx (by decide))) rfl rfl hl.1 rfl (Nat.le_of_ble_eq_true rfl) dX5_append_33 zroom.rf (fun s30 H locs hφ hEs30 hT => ?_)
    obtain ⟨f31, f32⟩ := hφ
    rw [erB] at f32
    obtain ⟨v33, ev33⟩ : ∃ zz9 : Int32, zI s30 tx 1 = zz9 := ⟨_, rfl⟩
    have qv33 : v33.toInt = (zI s30 tx 1).toInt := by rw [ev33]
    have b34 := (hT.P (hT.k ttx (by decide)) (by decide)).1
    rw [ev33] at b34
    have b34l := b34.1
    have b34h := b34.2
    rw [(show zI s30 tx 1 = v33 from ev33)] at f31
    have Y35 : zI s30 rB = (byn tcb (byn tcb (byn tcb (zI σ0 rB) L9 y1 4) (L9 + 4) y2 4) (L9 + 8) y3 4) := by rw [f32, Y26, cz27, show v24.toInt.toNat = (L9 + 8) from by omega]
    refine lv_aload_n hx hb dX5_append_36 rfl (lv_at hl 0 rfl) ?_
    refine va_get (D := κ.1) (ci := 5) (v := .ref (kR κ this 0)) (C := RX5) (T := TX5) (N := 10) hx hb hg inX5 hown hK (hT.o7 (hT.k t_this (by decide))).one 0 rfl rfl 0 (by decide) (hg _ k379) (fun _ h9 => h9) rfl dX5_append_37 ?_
    rw [etx]
    refine lv_iload hx hb dX5_append_40 (lv_at hl 4 rfl) ?_
    have cz36 : zI s30 tx 1 = v33 := ev33
    have qq37 : (zI s30 tx 1).toInt = v33.toInt := by rw [ev33]
    have hTo := hT
    refine tVv (n := 1) (As := [.int y4]) (rest := []) hx hb hml hown hg hT hK hX (X3s_addInt l κ s30 tx y4  (hT.k ttx (by decide)) (by omega)) (fun _ _ h => h) (mwV k419 k420 k421 k85 k422) ⟨rfl, by decide, by decide, by decide +kernel⟩ ⟨(Nat.le_of_ble_eq_true rfl), (Nat.le_of_ble_eq_true rfl)⟩ (hT.o6 (hT.k ttx (by decide))) rfl rfl hl.1 rfl (Nat.le_of_ble_eq_true rfl) dX5_append_42 zroom.rf (fun s39 H locs hφ hEs39 hT => ?_)
    obtain ⟨f40, f41⟩ := hφ
    rw [erB] at f41
    obtain ⟨v42, ev42⟩ : ∃ zz9 : Int32, zI s39 tx 1 = zz9 := ⟨_, rfl⟩
    have qv42 : v42.toInt = (zI s39 tx 1).toInt := by rw [ev42]
    have b43 := (hT.P (hT.k ttx (by decide)) (by decide)).1
    rw [ev42] at b43
    have b43l := b43.1
    have b43h := b43.2
    rw [(show zI s39 tx 1 = v42 from ev42)] at f40
    have Y44 : zI s39 rB = (byn tcb (byn tcb (byn tcb (byn tcb (zI σ0 rB) L9 y1 4) (L9 + 4) y2 4) (L9 + 8) y3 4) (L9 + 12) y4 4) := by rw [f41, Y35, cz36, show v33.toInt.toNat = (L9 + 12) from by omega]
    refine lv_aload_n hx hb dX5_append_45 rfl (lv_at hl 0 rfl) ?_
    refine va_get (D := κ.1) (ci := 5) (v := .ref (kR κ this 0)) (C := RX5) (T := TX5) (N := 10) hx hb hg inX5 hown hK (hT.o7 (hT.k t_this (by decide))).one 0 rfl rfl 0 (by decide) (hg _ k379) (fun _ h9 => h9) rfl dX5_append_46 ?_
    rw [etx]
    refine lv_iload hx hb dX5_append_49 (lv_at hl 5 rfl) ?_
    have cz45 : zI s39 tx 1 = v42 := ev42
    have qq46 : (zI s39 tx 1).toInt = v42.toInt := by rw [ev42]
    have hTo := hT
    refine tVv (n := 1) (As := [.int y5]) (rest := []) hx hb hml hown hg hT hK hX (X3s_addInt l κ s39 tx y5  (hT.k ttx (by decide)) (by omega)) (fun _ _ h => h) (mwV k419 k420 k421 k85 k422) ⟨rfl, by decide, by decide, by decide +kernel⟩ ⟨(Nat.le_of_ble_eq_true rfl), (Nat.le_of_ble_eq_true rfl)⟩ (hT.o6 (hT.k ttx (by decide))) rfl rfl hl.1 rfl (Nat.le_of_ble_eq_true rfl) dX5_append_51 zroom.rf (fun s48 H locs hφ hEs48 hT => ?_)
    obtain ⟨f49, f50⟩ := hφ
    rw [erB] at f50
    obtain ⟨v51, ev51⟩ : ∃ zz9 : Int32, zI s48 tx 1 = zz9 := ⟨_, rfl⟩
    have qv51 : v51.toInt = (zI s48 tx 1).toInt := by rw [ev51]
    have b52 := (hT.P (hT.k ttx (by decide)) (by decide)).1
    rw [ev51] at b52
    have b52l := b52.1
    have b52h := b52.2
    rw [(show zI s48 tx 1 = v51 from ev51)] at f49
    have Y53 : zI s48 rB = (byn tcb (byn tcb (byn tcb (byn tcb (byn tcb (zI σ0 rB) L9 y1 4) (L9 + 4) y2 4) (L9 + 8) y3 4) (L9 + 12) y4 4) (L9 + 16) y5 4) := by rw [f50, Y44, cz45, show v42.toInt.toNat = (L9 + 16) from by omega]
    refine lv_aload_n hx hb dX5_append_54 rfl (lv_at hl 0 rfl) ?_
    refine va_get (D := κ.1) (ci := 5) (v := .ref (kR κ this 0)) (C := RX5) (T := TX5) (N := 10) hx hb hg inX5 hown hK (hT.o7 (hT.k t_this (by decide))).one 0 rfl rfl 0 (by decide) (hg _ k379) (fun _ h9 => h9) rfl dX5_append_55 ?_
    rw [etx]
    refine va_get (D := κ.1) (ci := 3) (v := .int (zI s48 tx 1)) (C := RX3) (T := TX3) (N := 8) hx hb hg inX3 hown hK (hT.o6 (hT.k ttx (by decide))).one 0 rfl rfl 1 (by decide) (hg _ k121) (fun _ h9 => h9) rfl dX5_append_58 ?_
    rw [ev51]
    subst hQ9
    exact t_i hx hb hr hlocks hT (by rw [etx]; exact Or.inl ⟨by omega, by omega, by rw [(show zI s48 tx 1 = v51 from ev51)]; omega, by rw [erB, hL9, Y53]; rfl⟩) dX5_append_61
  · have c2 := gi_eq c9
    refine lv_iconst (v := (-1)) hx hb dX5_append_10 (by decide) ?_
    subst hQ9
    exact t_i hx hb hr hlocks hT (by rw [etx]; exact Or.inr ⟨by omega, by omega, by rw [(show zI s5 tx 1 = v1 from ev1)]; omega, by rw [erB]; exact Y6⟩) dX5_append_11
set_option maxHeartbeats 4000000 in
set_option maxRecDepth 100000 in
theorem X5s_errorCode (l : Launch) (κ : Kt) (σ0 : Gh) (this : Nat) (t_this : zk σ0 this 7) : TC l yX5_errorCode cX5_errorCode 1 (some .int) 0 0 [.ref this] κ σ0 (tqi κ fE σ0 (fun (r : Int32) (τ : Gh) => (r = zI σ0 (kR κ this 0) 2))) := by
  refine TC.of fE (by decide +kernel) (Nat.le_of_ble_eq_true rfl) ?_
  intro p e s m below meth c ls hcs hK hX hT hl
  obtain ⟨hx, hb, hr, hml, hown, hg, hlocks, hin⟩ := hcs
  have hown : s.vm.findClass RX5 = some m.cls := hown
  have hl : lv_has ls 1 [(0, .ref this)] := hl
  have hT0 := hT
  generalize hQ9 : tQ _ _ _ _ _ _ = Q9
  obtain ⟨tx, etx⟩ : ∃ z, kR κ this 0 = z := ⟨_, rfl⟩
  have ttx : zk σ0 tx 6 := by rw [← etx]; exact hT0.ref t_this (by decide) (by decide) (by decide)
  have btx := hT0.P ttx (by decide)
  have btxl := btx.1.1
  have btxh := btx.1.2
  obtain ⟨rB, erB⟩ : ∃ z, kR κ tx 0 = z := ⟨_, rfl⟩
  have trB : zk σ0 rB 14 := by rw [← erB]; exact hT0.ref ttx (by decide) (by decide) (by decide)
  obtain ⟨rI, erI⟩ : ∃ z, kR κ this 6 = z := ⟨_, rfl⟩
  have trI : zk σ0 rI 13 := by rw [← erI]; exact hT0.ref t_this (by decide) (by decide) (by decide)
  refine lv_aload_n hx hb dX5_errorCode_0 rfl (lv_at hl 0 rfl) ?_
  refine va_get (D := κ.1) (ci := 5) (v := .ref (kR κ this 0)) (C := RX5) (T := TX5) (N := 10) hx hb hg inX5 hown hK (hT.o7 (hT.k t_this (by decide))).one 0 rfl rfl 0 (by decide) (hg _ k379) (fun _ h9 => h9) rfl dX5_errorCode_1 ?_
  rw [etx]
  obtain ⟨v1, ev1⟩ : ∃ zz9 : Int32, zI σ0 tx 2 = zz9 := ⟨_, rfl⟩
  have qv1 : v1.toInt = (zI σ0 tx 2).toInt := by rw [ev1]
  refine va_get (D := κ.1) (ci := 3) (v := .int (zI σ0 tx 2)) (C := RX3) (T := TX3) (N := 8) hx hb hg inX3 hown hK (hT.o6 (hT.k ttx (by decide))).one 0 rfl rfl 2 (by decide) (hg _ k123) (fun _ h9 => h9) rfl dX5_errorCode_4 ?_
  rw [(hT.eI ttx (by decide) rfl ev1)]
  subst hQ9
  exact t_i hx hb hr hlocks hT (by rw [etx]; exact ev1.symm) dX5_errorCode_7
set_option maxHeartbeats 4000000 in
set_option maxRecDepth 100000 in
theorem X5s_errorPosition (l : Launch) (κ : Kt) (σ0 : Gh) (this : Nat) (t_this : zk σ0 this 7) : TC l yX5_errorPosition cX5_errorPosition 1 (some .int) 0 0 [.ref this] κ σ0 (tqi κ fE σ0 (fun (r : Int32) (τ : Gh) => (r = zI σ0 (kR κ this 0) 3))) := by
  refine TC.of fE (by decide +kernel) (Nat.le_of_ble_eq_true rfl) ?_
  intro p e s m below meth c ls hcs hK hX hT hl
  obtain ⟨hx, hb, hr, hml, hown, hg, hlocks, hin⟩ := hcs
  have hown : s.vm.findClass RX5 = some m.cls := hown
  have hl : lv_has ls 1 [(0, .ref this)] := hl
  have hT0 := hT
  generalize hQ9 : tQ _ _ _ _ _ _ = Q9
  obtain ⟨tx, etx⟩ : ∃ z, kR κ this 0 = z := ⟨_, rfl⟩
  have ttx : zk σ0 tx 6 := by rw [← etx]; exact hT0.ref t_this (by decide) (by decide) (by decide)
  have btx := hT0.P ttx (by decide)
  have btxl := btx.1.1
  have btxh := btx.1.2
  obtain ⟨rB, erB⟩ : ∃ z, kR κ tx 0 = z := ⟨_, rfl⟩
  have trB : zk σ0 rB 14 := by rw [← erB]; exact hT0.ref ttx (by decide) (by decide) (by decide)
  obtain ⟨rI, erI⟩ : ∃ z, kR κ this 6 = z := ⟨_, rfl⟩
  have trI : zk σ0 rI 13 := by rw [← erI]; exact hT0.ref t_this (by decide) (by decide) (by decide)
  refine lv_aload_n hx hb dX5_errorPosition_0 rfl (lv_at hl 0 rfl) ?_
  refine va_get (D := κ.1) (ci := 5) (v := .ref (kR κ this 0)) (C := RX5) (T := TX5) (N := 10) hx hb hg inX5 hown hK (hT.o7 (hT.k t_this (by decide))).one 0 rfl rfl 0 (by decide) (hg _ k379) (fun _ h9 => h9) rfl dX5_errorPosition_1 ?_
  rw [etx]
  obtain ⟨v1, ev1⟩ : ∃ zz9 : Int32, zI σ0 tx 3 = zz9 := ⟨_, rfl⟩
  have qv1 : v1.toInt = (zI σ0 tx 3).toInt := by rw [ev1]
  refine va_get (D := κ.1) (ci := 3) (v := .int (zI σ0 tx 3)) (C := RX3) (T := TX3) (N := 8) hx hb hg inX3 hown hK (hT.o6 (hT.k ttx (by decide))).one 0 rfl rfl 3 (by decide) (hg _ k125) (fun _ h9 => h9) rfl dX5_errorPosition_4 ?_
  rw [(hT.eI ttx (by decide) rfl ev1)]
  subst hQ9
  exact t_i hx hb hr hlocks hT (by rw [etx]; exact ev1.symm) dX5_errorPosition_7
set_option maxHeartbeats 4000000 in
set_option maxRecDepth 100000 in
theorem X0s_copyFrom (l : Launch) (κ : Kt) (σ0 : Gh) (this : Nat) (o : Nat) (t_this : zk σ0 this 4) (t_o : zk σ0 o 5) (h0 : 2 ≤ (zI σ0 o 2).toInt) : TC l yX0_copyFrom cX0_copyFrom 2 none 1 40 [.ref this, .ref o] κ σ0 (tqv κ fSrc σ0 (fun (τ : Gh) => (zI τ this 2 = zI σ0 o 2) ∧ (zI τ this 3 = zI σ0 o 3) ∧ (zI τ this 4 = zI σ0 o 4) ∧ (zI τ this 5 = zI σ0 o 5) ∧ (zI τ this 6 = zI σ0 o 6) ∧ (∀ k : Nat, k < 48 → zI τ (kR κ this 0) k = zI σ0 (kR κ o 0) k) ∧ (∀ k : Nat, k < 48 → zI τ (kR κ this 1) k = zI σ0 (kR κ o 1) k))) := by
  refine TC.of fSrc (by decide +kernel) (Nat.le_of_ble_eq_true rfl) ?_
  intro p e s m below meth c ls hcs hK hX hT hl
  obtain ⟨hx, hb, hr, hml, hown, hg, hlocks, hin⟩ := hcs
  have hown : s.vm.findClass RX0 = some m.cls := hown
  have hl : lv_has ls 2 [(0, .ref this), (1, .ref o)] := hl
  have hT0 := hT
  have n0 : (0 : Int32).toInt = 0 := by decide
  have n48 : (48 : Int32).toInt = 48 := by decide
  generalize hQ9 : tQ _ _ _ _ _ _ = Q9
  obtain ⟨p4, ep4⟩ : ∃ z, kR κ this 0 = z := ⟨_, rfl⟩
  have tp4 : zk σ0 p4 8 := by rw [← ep4]; exact hT0.ref t_this (by decide) (by decide) (by decide)
  obtain ⟨o4, eo4⟩ : ∃ z, kR κ this 1 = z := ⟨_, rfl⟩
  have to4 : zk σ0 o4 16 := by rw [← eo4]; exact hT0.ref t_this (by decide) (by decide) (by decide)
  obtain ⟨p5, ep5⟩ : ∃ z, kR κ o 0 = z := ⟨_, rfl⟩
  have tp5 : zk σ0 p5 17 := by rw [← ep5]; exact hT0.ref t_o (by decide) (by decide) (by decide)
  obtain ⟨o5, eo5⟩ : ∃ z, kR κ o 1 = z := ⟨_, rfl⟩
  have to5 : zk σ0 o5 18 := by rw [← eo5]; exact hT0.ref t_o (by decide) (by decide) (by decide)
  obtain ⟨v1, ev1⟩ : ∃ zz9 : Int32, zI σ0 o 2 = zz9 := ⟨_, rfl⟩
  have qv1 : v1.toInt = (zI σ0 o 2).toInt := by rw [ev1]
  have b2 := (hT.P (hT.k t_o (by decide)) (by decide)).1
  rw [(hT.eI t_o (by decide) rfl ev1)] at b2
  have b2l := b2.1
  have b2h := b2.2
  have zo2 : zI σ0 o 2 = v1 := ev1
  obtain ⟨v3, ev3⟩ : ∃ zz9 : Int32, zI σ0 o 3 = zz9 := ⟨_, rfl⟩
  have qv3 : v3.toInt = (zI σ0 o 3).toInt := by rw [ev3]
  have zo3 : zI σ0 o 3 = v3 := ev3
  obtain ⟨v4, ev4⟩ : ∃ zz9 : Int32, zI σ0 o 4 = zz9 := ⟨_, rfl⟩
  have qv4 : v4.toInt = (zI σ0 o 4).toInt := by rw [ev4]
  have zo4 : zI σ0 o 4 = v4 := ev4
  obtain ⟨v5, ev5⟩ : ∃ zz9 : Int32, zI σ0 o 5 = zz9 := ⟨_, rfl⟩
  have qv5 : v5.toInt = (zI σ0 o 5).toInt := by rw [ev5]
  have b6 : isB v5 := by have q9 := (hT.P (hT.k t_o (by decide)) (by decide)).2; rw [(hT.eI t_o (by decide) rfl ev5)] at q9; exact q9
  have zo5 : zI σ0 o 5 = v5 := ev5
  obtain ⟨v7, ev7⟩ : ∃ zz9 : Int32, zI σ0 o 6 = zz9 := ⟨_, rfl⟩
  have qv7 : v7.toInt = (zI σ0 o 6).toInt := by rw [ev7]
  have zo6 : zI σ0 o 6 = v7 := ev7
  have bp5 : zI σ0 p5 = zI σ0 p5 := rfl
  have bo5 : zI σ0 o5 = zI σ0 o5 := rfl
  refine lv_aload_n hx hb dX0_copyFrom_0 rfl (lv_at hl 1 rfl) ?_
  refine va_get (D := κ.1) (ci := 0) (v := .ref (kR κ o 0)) (C := RX0) (T := TX0) (N := 7) hx hb hg inX0 hown hK (hT.o5 (hT.k t_o (by decide))).one 0 rfl rfl 0 (by decide) (hg _ k154) (fun _ h9 => h9) rfl dX0_copyFrom_1 ?_
  rw [ep5]
  refine lv_iconst (v := 0) hx hb dX0_copyFrom_4 (by decide) ?_
  refine lv_aload_n hx hb dX0_copyFrom_5 rfl (lv_at hl 0 rfl) ?_
  refine va_get (D := κ.1) (ci := 0) (v := .ref (kR κ this 0)) (C := RX0) (T := TX0) (N := 7) hx hb hg inX0 hown hK (hT.o4 (hT.k t_this (by decide))).one 0 rfl rfl 0 (by decide) (hg _ k154) (fun _ h9 => h9) rfl dX0_copyFrom_6 ?_
  rw [ep4]
  refine lv_iconst (v := 0) hx hb dX0_copyFrom_9 (by decide) ?_
  refine lv_bipush (v := 48) hx hb dX0_copyFrom_10 (by decide) ?_
  have hTo := hT
  refine tcopyi (n0 := 48) (n1 := 48) hx hb (hml.trans hl.1.symm) hown (hg _ k833) (hg _ k362) (hg _ k361) (hg _ k91) hK hT (hT.k tp5 (by decide)) (by decide) (fun _ _ _ => rfl) (hT.k tp4 (by decide)) ⟨by decide, by decide⟩ (fun _ _ _ => rfl) (fun _ _ => trivial) (fun _ => rfl) (by omega) (by omega) (by omega) (by omega) (by omega) (Nat.le_of_ble_eq_true rfl) (Nat.le_of_ble_eq_true rfl) dX0_copyFrom_12 (fun H locs s8 hus8 hT => ?_)
  have Y9 : zI s8 p5 = zI σ0 p5 := by first | (rw [show zI s8 p5 = zI σ0 p5 from (by rw [hus8]; exact zset_In ((hTo.k tp5 (by decide)).ne (hTo.k tp4 (by decide)) (by decide)))]; exact bp5) | rw [show zI s8 p5 = zI σ0 p5 from (by rw [hus8]; exact zset_In ((hTo.k tp5 (by decide)).ne (hTo.k tp4 (by decide)) (by decide)))]
  have Y10 : zI s8 o5 = zI σ0 o5 := by first | (rw [show zI s8 o5 = zI σ0 o5 from (by rw [hus8]; exact zset_In ((hTo.k to5 (by decide)).ne (hTo.k tp4 (by decide)) (by decide)))]; exact bo5) | rw [show zI s8 o5 = zI σ0 o5 from (by rw [hus8]; exact zset_In ((hTo.k to5 (by decide)).ne (hTo.k tp4 (by decide)) (by decide)))]
  have Y11 : ∀ k : Nat, k < 48 → zI s8 p4 k = zI σ0 p5 k := fun k hk => by rw [hus8, zset_I, cpy48 (by decide) (by decide) (by decide) hk, bp5]
  refine lv_aload_n hx hb dX0_copyFrom_15 rfl (lv_at hl 1 rfl) ?_
  refine va_get (D := κ.1) (ci := 0) (v := .ref (kR κ o 1)) (C := RX0) (T := TX0) (N := 7) hx hb hg inX0 hown hK (hT.o5 (hT.k t_o (by decide))).one 0 rfl rfl 1 (by decide) (hg _ k158) (fun _ h9 => h9) rfl dX0_copyFrom_16 ?_
  rw [eo5]
  refine lv_iconst (v := 0) hx hb dX0_copyFrom_19 (by decide) ?_
  refine lv_aload_n hx hb dX0_copyFrom_20 rfl (lv_at hl 0 rfl) ?_
  refine va_get (D := κ.1) (ci := 0) (v := .ref (kR κ this 1)) (C := RX0) (T := TX0) (N := 7) hx hb hg inX0 hown hK (hT.o4 (hT.k t_this (by decide))).one 0 rfl rfl 1 (by decide) (hg _ k158) (fun _ h9 => h9) rfl dX0_copyFrom_21 ?_
  rw [eo4]
  refine lv_iconst (v := 0) hx hb dX0_copyFrom_24 (by decide) ?_
  refine lv_bipush (v := 48) hx hb dX0_copyFrom_25 (by decide) ?_
  have hTo := hT
  refine tcopyi (n0 := 48) (n1 := 48) hx hb (hml.trans hl.1.symm) hown (hg _ k833) (hg _ k362) (hg _ k361) (hg _ k91) hK hT (hT.k to5 (by decide)) (by decide) (fun _ _ _ => rfl) (hT.k to4 (by decide)) ⟨by decide, by decide⟩ (fun _ _ _ => rfl) (fun _ _ => trivial) (fun _ => rfl) (by omega) (by omega) (by omega) (by omega) (by omega) (Nat.le_of_ble_eq_true rfl) (Nat.le_of_ble_eq_true rfl) dX0_copyFrom_27 (fun H locs s12 hus12 hT => ?_)
  have Y13 : zI s12 p5 = zI σ0 p5 := by first | (rw [show zI s12 p5 = zI s8 p5 from (by rw [hus12]; exact zset_In ((hTo.k tp5 (by decide)).ne (hTo.k to4 (by decide)) (by decide)))]; exact Y9) | rw [show zI s12 p5 = zI s8 p5 from (by rw [hus12]; exact zset_In ((hTo.k tp5 (by decide)).ne (hTo.k to4 (by decide)) (by decide)))]
  have Y14 : zI s12 o5 = zI σ0 o5 := by first | (rw [show zI s12 o5 = zI s8 o5 from (by rw [hus12]; exact zset_In ((hTo.k to5 (by decide)).ne (hTo.k to4 (by decide)) (by decide)))]; exact Y10) | rw [show zI s12 o5 = zI s8 o5 from (by rw [hus12]; exact zset_In ((hTo.k to5 (by decide)).ne (hTo.k to4 (by decide)) (by decide)))]
  have Y15 : ∀ k : Nat, k < 48 → zI s12 p4 k = zI σ0 p5 k := by first | (rw [show zI s12 p4 = zI s8 p4 from (by rw [hus12]; exact zset_In ((hTo.k tp4 (by decide)).ne (hTo.k to4 (by decide)) (by decide)))]; exact Y11) | rw [show zI s12 p4 = zI s8 p4 from (by rw [hus12]; exact zset_In ((hTo.k tp4 (by decide)).ne (hTo.k to4 (by decide)) (by decide)))]
  have Y16 : ∀ k : Nat, k < 48 → zI s12 o4 k = zI σ0 o5 k := fun k hk => by rw [hus12, zset_I, cpy48 (by decide) (by decide) (by decide) hk, Y10]
  refine lv_aload_n hx hb dX0_copyFrom_30 rfl (lv_at hl 0 rfl) ?_
  refine lv_aload_n hx hb dX0_copyFrom_31 rfl (lv_at hl 1 rfl) ?_
  refine va_get (D := κ.1) (ci := 0) (v := .int (zI s12 o 2)) (C := RX0) (T := TX0) (N := 7) hx hb hg inX0 hown hK (hT.o5 (hT.k t_o (by decide))).one 0 rfl rfl 2 (by decide) (hg _ k161) (fun _ h9 => h9) rfl dX0_copyFrom_32 ?_
  rw [(hT.eI t_o (by decide) rfl ev1)]
  have hTo := hT
  refine pf4_2 hx hb hg hown hK hT (hT.k t_this (by decide)) rfl ⟨by omega, by omega⟩ (hg _ k161) dX0_copyFrom_35 (fun H locs s17 hus17 hT => ?_)
  have Y18 : zI s17 p5 = zI σ0 p5 := by first | (rw [show zI s17 p5 = zI s12 p5 from zput_Io hus17 ((hTo.k tp5 (by decide)).ne (hTo.k t_this (by decide)) (by decide))]; exact Y13) | rw [show zI s17 p5 = zI s12 p5 from zput_Io hus17 ((hTo.k tp5 (by decide)).ne (hTo.k t_this (by decide)) (by decide))]
  have Y19 : zI s17 o5 = zI σ0 o5 := by first | (rw [show zI s17 o5 = zI s12 o5 from zput_Io hus17 ((hTo.k to5 (by decide)).ne (hTo.k t_this (by decide)) (by decide))]; exact Y14) | rw [show zI s17 o5 = zI s12 o5 from zput_Io hus17 ((hTo.k to5 (by decide)).ne (hTo.k t_this (by decide)) (by decide))]
  have Y20 : ∀ k : Nat, k < 48 → zI s17 p4 k = zI σ0 p5 k := by first | (rw [show zI s17 p4 = zI s12 p4 from zput_Io hus17 ((hTo.k tp4 (by decide)).ne (hTo.k t_this (by decide)) (by decide))]; exact Y15) | rw [show zI s17 p4 = zI s12 p4 from zput_Io hus17 ((hTo.k tp4 (by decide)).ne (hTo.k t_this (by decide)) (by decide))]
  have Y21 : ∀ k : Nat, k < 48 → zI s17 o4 k = zI σ0 o5 k := by first | (rw [show zI s17 o4 = zI s12 o4 from zput_Io hus17 ((hTo.k to4 (by decide)).ne (hTo.k t_this (by decide)) (by decide))]; exact Y16) | rw [show zI s17 o4 = zI s12 o4 from zput_Io hus17 ((hTo.k to4 (by decide)).ne (hTo.k t_this (by decide)) (by decide))]
  have e22 : zI s17 this 2 = v1 := zput_at hus17
  refine lv_aload_n hx hb dX0_copyFrom_38 rfl (lv_at hl 0 rfl) ?_
  refine lv_aload_n hx hb dX0_copyFrom_39 rfl (lv_at hl 1 rfl) ?_
  refine va_get (D := κ.1) (ci := 0) (v := .int (zI s17 o 3)) (C := RX0) (T := TX0) (N := 7) hx hb hg inX0 hown hK (hT.o5 (hT.k t_o (by decide))).one 0 rfl rfl 3 (by decide) (hg _ k165) (fun _ h9 => h9) rfl dX0_copyFrom_40 ?_
  rw [(hT.eI t_o (by decide) rfl ev3)]
  have hTo := hT
  refine pf4_3 hx hb hg hown hK hT (hT.k t_this (by decide)) rfl (hg _ k165) dX0_copyFrom_43 (fun H locs s23 hus23 hT => ?_)
  have e22 : zI s23 this 2 = v1 := (zput_o hus23 (Or.inr (by decide))).trans e22
  have Y24 : zI s23 p5 = zI σ0 p5 := by first | (rw [show zI s23 p5 = zI s17 p5 from zput_Io hus23 ((hTo.k tp5 (by decide)).ne (hTo.k t_this (by decide)) (by decide))]; exact Y18) | rw [show zI s23 p5 = zI s17 p5 from zput_Io hus23 ((hTo.k tp5 (by decide)).ne (hTo.k t_this (by decide)) (by decide))]
  have Y25 : zI s23 o5 = zI σ0 o5 := by first | (rw [show zI s23 o5 = zI s17 o5 from zput_Io hus23 ((hTo.k to5 (by decide)).ne (hTo.k t_this (by decide)) (by decide))]; exact Y19) | rw [show zI s23 o5 = zI s17 o5 from zput_Io hus23 ((hTo.k to5 (by decide)).ne (hTo.k t_this (by decide)) (by decide))]
  have Y26 : ∀ k : Nat, k < 48 → zI s23 p4 k = zI σ0 p5 k := by first | (rw [show zI s23 p4 = zI s17 p4 from zput_Io hus23 ((hTo.k tp4 (by decide)).ne (hTo.k t_this (by decide)) (by decide))]; exact Y20) | rw [show zI s23 p4 = zI s17 p4 from zput_Io hus23 ((hTo.k tp4 (by decide)).ne (hTo.k t_this (by decide)) (by decide))]
  have Y27 : ∀ k : Nat, k < 48 → zI s23 o4 k = zI σ0 o5 k := by first | (rw [show zI s23 o4 = zI s17 o4 from zput_Io hus23 ((hTo.k to4 (by decide)).ne (hTo.k t_this (by decide)) (by decide))]; exact Y21) | rw [show zI s23 o4 = zI s17 o4 from zput_Io hus23 ((hTo.k to4 (by decide)).ne (hTo.k t_this (by decide)) (by decide))]
  have e28 : zI s23 this 3 = v3 := zput_at hus23
  refine lv_aload_n hx hb dX0_copyFrom_46 rfl (lv_at hl 0 rfl) ?_
  refine lv_aload_n hx hb dX0_copyFrom_47 rfl (lv_at hl 1 rfl) ?_
  refine va_get (D := κ.1) (ci := 0) (v := .int (zI s23 o 4)) (C := RX0) (T := TX0) (N := 7) hx hb hg inX0 hown hK (hT.o5 (hT.k t_o (by decide))).one 0 rfl rfl 4 (by decide) (hg _ k168) (fun _ h9 => h9) rfl dX0_copyFrom_48 ?_
  rw [(hT.eI t_o (by decide) rfl ev4)]
  have hTo := hT
  refine pf4_4 hx hb hg hown hK hT (hT.k t_this (by decide)) rfl (hg _ k168) dX0_copyFrom_51 (fun H locs s29 hus29 hT => ?_)
  have e22 : zI s29 this 2 = v1 := (zput_o hus29 (Or.inr (by decide))).trans e22
  have e28 : zI s29 this 3 = v3 := (zput_o hus29 (Or.inr (by decide))).trans e28
  have Y30 : zI s29 p5 = zI σ0 p5 := by first | (rw [show zI s29 p5 = zI s23 p5 from zput_Io hus29 ((hTo.k tp5 (by decide)).ne (hTo.k t_this (by decide)) (by decide))]; exact Y24) | rw [show zI s29 p5 = zI s23 p5 from zput_Io hus29 ((hTo.k tp5 (by decide)).ne (hTo.k t_this (by decide)) (by decide))]
  have Y31 : zI s29 o5 = zI σ0 o5 := by first | (rw [show zI s29 o5 = zI s23 o5 from zput_Io hus29 ((hTo.k to5 (by decide)).ne (hTo.k t_this (by decide)) (by decide))]; exact Y25) | rw [show zI s29 o5 = zI s23 o5 from zput_Io hus29 ((hTo.k to5 (by decide)).ne (hTo.k t_this (by decide)) (by decide))]
  have Y32 : ∀ k : Nat, k < 48 → zI s29 p4 k = zI σ0 p5 k := by first | (rw [show zI s29 p4 = zI s23 p4 from zput_Io hus29 ((hTo.k tp4 (by decide)).ne (hTo.k t_this (by decide)) (by decide))]; exact Y26) | rw [show zI s29 p4 = zI s23 p4 from zput_Io hus29 ((hTo.k tp4 (by decide)).ne (hTo.k t_this (by decide)) (by decide))]
  have Y33 : ∀ k : Nat, k < 48 → zI s29 o4 k = zI σ0 o5 k := by first | (rw [show zI s29 o4 = zI s23 o4 from zput_Io hus29 ((hTo.k to4 (by decide)).ne (hTo.k t_this (by decide)) (by decide))]; exact Y27) | rw [show zI s29 o4 = zI s23 o4 from zput_Io hus29 ((hTo.k to4 (by decide)).ne (hTo.k t_this (by decide)) (by decide))]
  have e34 : zI s29 this 4 = v4 := zput_at hus29
  refine lv_aload_n hx hb dX0_copyFrom_54 rfl (lv_at hl 0 rfl) ?_
  refine lv_aload_n hx hb dX0_copyFrom_55 rfl (lv_at hl 1 rfl) ?_
  refine va_get (D := κ.1) (ci := 0) (v := .int (zI s29 o 5)) (C := RX0) (T := TX0) (N := 7) hx hb hg inX0 hown hK (hT.o5 (hT.k t_o (by decide))).one 0 rfl rfl 5 (by decide) (hg _ k171) (fun _ h9 => h9) rfl dX0_copyFrom_56 ?_
  rw [(hT.eI t_o (by decide) rfl ev5)]
  have hTo := hT
  refine pf4_5 hx hb hg hown hK hT (hT.k t_this (by decide)) rfl b6 (hg _ k171) dX0_copyFrom_59 (fun H locs s35 hus35 hT => ?_)
  have e22 : zI s35 this 2 = v1 := (zput_o hus35 (Or.inr (by decide))).trans e22
  have e28 : zI s35 this 3 = v3 := (zput_o hus35 (Or.inr (by decide))).trans e28
  have e34 : zI s35 this 4 = v4 := (zput_o hus35 (Or.inr (by decide))).trans e34
  have Y36 : zI s35 p5 = zI σ0 p5 := by first | (rw [show zI s35 p5 = zI s29 p5 from zput_Io hus35 ((hTo.k tp5 (by decide)).ne (hTo.k t_this (by decide)) (by decide))]; exact Y30) | rw [show zI s35 p5 = zI s29 p5 from zput_Io hus35 ((hTo.k tp5 (by decide)).ne (hTo.k t_this (by decide)) (by decide))]
  have Y37 : zI s35 o5 = zI σ0 o5 := by first | (rw [show zI s35 o5 = zI s29 o5 from zput_Io hus35 ((hTo.k to5 (by decide)).ne (hTo.k t_this (by decide)) (by decide))]; exact Y31) | rw [show zI s35 o5 = zI s29 o5 from zput_Io hus35 ((hTo.k to5 (by decide)).ne (hTo.k t_this (by decide)) (by decide))]
  have Y38 : ∀ k : Nat, k < 48 → zI s35 p4 k = zI σ0 p5 k := by first | (rw [show zI s35 p4 = zI s29 p4 from zput_Io hus35 ((hTo.k tp4 (by decide)).ne (hTo.k t_this (by decide)) (by decide))]; exact Y32) | rw [show zI s35 p4 = zI s29 p4 from zput_Io hus35 ((hTo.k tp4 (by decide)).ne (hTo.k t_this (by decide)) (by decide))]
  have Y39 : ∀ k : Nat, k < 48 → zI s35 o4 k = zI σ0 o5 k := by first | (rw [show zI s35 o4 = zI s29 o4 from zput_Io hus35 ((hTo.k to4 (by decide)).ne (hTo.k t_this (by decide)) (by decide))]; exact Y33) | rw [show zI s35 o4 = zI s29 o4 from zput_Io hus35 ((hTo.k to4 (by decide)).ne (hTo.k t_this (by decide)) (by decide))]
  have e40 : zI s35 this 5 = v5 := zput_at hus35
  refine lv_aload_n hx hb dX0_copyFrom_62 rfl (lv_at hl 0 rfl) ?_
  refine lv_aload_n hx hb dX0_copyFrom_63 rfl (lv_at hl 1 rfl) ?_
  refine va_get (D := κ.1) (ci := 0) (v := .int (zI s35 o 6)) (C := RX0) (T := TX0) (N := 7) hx hb hg inX0 hown hK (hT.o5 (hT.k t_o (by decide))).one 0 rfl rfl 6 (by decide) (hg _ k174) (fun _ h9 => h9) rfl dX0_copyFrom_64 ?_
  rw [(hT.eI t_o (by decide) rfl ev7)]
  have hTo := hT
  refine pf4_6 hx hb hg hown hK hT (hT.k t_this (by decide)) rfl (hg _ k174) dX0_copyFrom_67 (fun H locs s41 hus41 hT => ?_)
  have e22 : zI s41 this 2 = v1 := (zput_o hus41 (Or.inr (by decide))).trans e22
  have e28 : zI s41 this 3 = v3 := (zput_o hus41 (Or.inr (by decide))).trans e28
  have e34 : zI s41 this 4 = v4 := (zput_o hus41 (Or.inr (by decide))).trans e34
  have e40 : zI s41 this 5 = v5 := (zput_o hus41 (Or.inr (by decide))).trans e40
  have Y42 : zI s41 p5 = zI σ0 p5 := by first | (rw [show zI s41 p5 = zI s35 p5 from zput_Io hus41 ((hTo.k tp5 (by decide)).ne (hTo.k t_this (by decide)) (by decide))]; exact Y36) | rw [show zI s41 p5 = zI s35 p5 from zput_Io hus41 ((hTo.k tp5 (by decide)).ne (hTo.k t_this (by decide)) (by decide))]
  have Y43 : zI s41 o5 = zI σ0 o5 := by first | (rw [show zI s41 o5 = zI s35 o5 from zput_Io hus41 ((hTo.k to5 (by decide)).ne (hTo.k t_this (by decide)) (by decide))]; exact Y37) | rw [show zI s41 o5 = zI s35 o5 from zput_Io hus41 ((hTo.k to5 (by decide)).ne (hTo.k t_this (by decide)) (by decide))]
  have Y44 : ∀ k : Nat, k < 48 → zI s41 p4 k = zI σ0 p5 k := by first | (rw [show zI s41 p4 = zI s35 p4 from zput_Io hus41 ((hTo.k tp4 (by decide)).ne (hTo.k t_this (by decide)) (by decide))]; exact Y38) | rw [show zI s41 p4 = zI s35 p4 from zput_Io hus41 ((hTo.k tp4 (by decide)).ne (hTo.k t_this (by decide)) (by decide))]
  have Y45 : ∀ k : Nat, k < 48 → zI s41 o4 k = zI σ0 o5 k := by first | (rw [show zI s41 o4 = zI s35 o4 from zput_Io hus41 ((hTo.k to4 (by decide)).ne (hTo.k t_this (by decide)) (by decide))]; exact Y39) | rw [show zI s41 o4 = zI s35 o4 from zput_Io hus41 ((hTo.k to4 (by decide)).ne (hTo.k t_this (by decide)) (by decide))]
  have e46 : zI s41 this 6 = v7 := zput_at hus41
  subst hQ9
  exact t_v hx hb hr hlocks hT ⟨((show zI s41 this 2 = v1 from e22)).trans zo2.symm, ((show zI s41 this 3 = v3 from e28)).trans zo3.symm, ((show zI s41 this 4 = v4 from e34)).trans zo4.symm, ((show zI s41 this 5 = v5 from e40)).trans zo5.symm, ((show zI s41 this 6 = v7 from e46)).trans zo6.symm, by rw [ep4, ep5]; exact Y44, by rw [eo4, eo5]; exact Y45⟩ dX0_copyFrom_70
set_option maxHeartbeats 4000000 in
set_option maxRecDepth 100000 in
theorem X5s_load (l : Launch) (κ : Kt) (σ0 : Gh) (this : Nat) {tc : Nat → Int} {Ln : Nat} (t_this : zk σ0 this 7) (h0 : TXc κ σ0 (kR κ this 0) tc Ln) (h1 : kR κ (kR κ this 3) 0 = kR κ this 1) (hlt : l.stackTraces = false) : TX l yX5_load cX5_load 3 (some .int) 8 174 [.ref this] κ σ0 (tqi κ fLd σ0 (fun (r : Int32) (τ : Gh) => ((zI τ (kR κ this 0) 1).toInt = 0) ∧ (∃ (x9 : uRd) (po : Int), uRds tc Ln x9 0 po ∧ r.toInt = po ∧ (zI τ (kR κ this 0) 2).toInt = 0 ∧ (zI τ (kR κ this 0) 3).toInt = -1 ∧ (∀ i : Nat, i < 2 → zI τ (kR κ this 6) i = 0) ∧ (zI τ (kR κ this 3) 7).toInt = x9.2.2.2.2 0 ∧ (zI τ (kR κ this 3) 8).toInt = x9.2.2.2.2 1 ∧ (zI τ (kR κ this 3) 9).toInt = x9.2.2.2.2 2 ∧ (zI τ (kR κ this 1) 2).toInt = po ∧ (zI τ (kR κ this 1) 6).toInt = x9.2.2.2.2 3 ∧ usP (zI τ (kR κ (kR κ this 1) 0)) po.toNat x9.2.2.2.2 ∧ usO (zI τ (kR κ (kR κ this 1) 1)) po.toNat x9.2.2.2.2 ∧ usB po.toNat x9.2.2.2.2) ∧ (∀ a : Nat, a ≠ (kR κ this 3) → zk σ0 a 3 → zI τ a 7 = zI σ0 a 7 ∧ zI τ a 8 = zI σ0 a 8 ∧ zI τ a 9 = zI σ0 a 9))) (txq κ fLd σ0 (fun (E : String) (τ : Gh) => E = "java/lang/IllegalArgumentException" ∧ (zI τ (kR κ this 0) 1).toInt = 0 ∧ (∃ (x9 : uRd) (co po : Int), uRds tc Ln x9 co po ∧ co ≠ 0 ∧ (zI τ (kR κ this 0) 2).toInt = co ∧ (zI τ (kR κ this 0) 3).toInt = po ∧ zI τ (kR κ this 6) = zI σ0 (kR κ this 6)) ∧ (∀ a : Nat, a ≠ (kR κ this 3) → zk σ0 a 3 → zI τ a 7 = zI σ0 a 7 ∧ zI τ a 8 = zI σ0 a 8 ∧ zI τ a 9 = zI σ0 a 9) ∧ zI τ (kR κ this 3) 7 = zI σ0 (kR κ this 3) 7 ∧ zI τ (kR κ this 3) 8 = zI σ0 (kR κ this 3) 8 ∧ zI τ (kR κ this 3) 9 = zI σ0 (kR κ this 3) 9 ∧ zI τ (kR κ this 1) 2 = zI σ0 (kR κ this 1) 2 ∧ zI τ (kR κ this 1) 6 = zI σ0 (kR κ this 1) 6 ∧ zI τ (kR κ (kR κ this 1) 0) = zI σ0 (kR κ (kR κ this 1) 0) ∧ zI τ (kR κ (kR κ this 1) 1) = zI σ0 (kR κ (kR κ this 1) 1))) := by
  refine TX.of fLd (by decide +kernel) (Nat.le_of_ble_eq_true rfl) ?_
  intro p e s m below meth c ls hcs hout hK hX hT hl
  obtain ⟨hx, hb, hr, hml, hown, hg, hlocks, hin⟩ := hcs
  have hown : s.vm.findClass RX5 = some m.cls := hown
  have hl : lv_has ls 3 [(0, .ref this)] := hl
  have hT0 := hT
  have n0 : (0 : Int32).toInt = 0 := by decide
  have n2 : (2 : Int32).toInt = 2 := by decide
  generalize hQ9 : tQX _ _ _ _ _ _ _ = Q9
  obtain ⟨tx, etx⟩ : ∃ z, kR κ this 0 = z := ⟨_, rfl⟩
  have ttx : zk σ0 tx 6 := by rw [← etx]; exact hT0.ref t_this (by decide) (by decide) (by decide)
  have btx := hT0.P ttx (by decide)
  have btxl := btx.1.1
  have btxh := btx.1.2
  obtain ⟨rB, erB⟩ : ∃ z, kR κ tx 0 = z := ⟨_, rfl⟩
  have trB : zk σ0 rB 14 := by rw [← erB]; exact hT0.ref ttx (by decide) (by decide) (by decide)
  obtain ⟨rI, erI⟩ : ∃ z, kR κ this 6 = z := ⟨_, rfl⟩
  have trI : zk σ0 rI 13 := by rw [← erI]; exact hT0.ref t_this (by decide) (by decide) (by decide)
  rw [etx] at h0
  have hTX := h0
  obtain ⟨so, eso⟩ : ∃ z, kR κ this 1 = z := ⟨_, rfl⟩
  have tso : zk σ0 so 4 := by rw [← eso]; exact hT0.ref t_this (by decide) (by decide) (by decide)
  obtain ⟨dr, edr⟩ : ∃ z, kR κ this 2 = z := ⟨_, rfl⟩
  have tdr : zk σ0 dr 5 := by rw [← edr]; exact hT0.ref t_this (by decide) (by decide) (by decide)
  have kq : zI σ0 rI = zI σ0 rI := rfl
  obtain ⟨qP, eqP⟩ : ∃ z, kR κ so 0 = z := ⟨_, rfl⟩
  have tqP : zk σ0 qP 8 := by rw [← eqP]; exact hT0.ref tso (by decide) (by decide) (by decide)
  obtain ⟨qO, eqO⟩ : ∃ z, kR κ so 1 = z := ⟨_, rfl⟩
  have tqO : zk σ0 qO 16 := by rw [← eqO]; exact hT0.ref tso (by decide) (by decide) (by decide)
  obtain ⟨dP, edP⟩ : ∃ z, kR κ dr 0 = z := ⟨_, rfl⟩
  have tdP : zk σ0 dP 17 := by rw [← edP]; exact hT0.ref tdr (by decide) (by decide) (by decide)
  obtain ⟨dO, edO⟩ : ∃ z, kR κ dr 1 = z := ⟨_, rfl⟩
  have tdO : zk σ0 dO 18 := by rw [← edO]; exact hT0.ref tdr (by decide) (by decide) (by decide)
  have kqP : zI σ0 qP = zI σ0 qP := rfl
  have kqO : zI σ0 qO = zI σ0 qO := rfl
  obtain ⟨nw, enw⟩ : ∃ z, kR κ this 3 = z := ⟨_, rfl⟩
  have tnw : zk σ0 nw 3 := by rw [← enw]; exact hT0.ref t_this (by decide) (by decide) (by decide)
  have hns : kR κ nw 0 = so := by rw [← enw, ← eso]; exact h1
  obtain ⟨v1, ev1⟩ : ∃ zz9 : Int32, zI σ0 nw 7 = zz9 := ⟨_, rfl⟩
  have qv1 : v1.toInt = (zI σ0 nw 7).toInt := by rw [ev1]
  have znw7 : zI σ0 nw 7 = v1 := ev1
  obtain ⟨v2, ev2⟩ : ∃ zz9 : Int32, zI σ0 nw 8 = zz9 := ⟨_, rfl⟩
  have qv2 : v2.toInt = (zI σ0 nw 8).toInt := by rw [ev2]
  have znw8 : zI σ0 nw 8 = v2 := ev2
  obtain ⟨v3, ev3⟩ : ∃ zz9 : Int32, zI σ0 nw 9 = zz9 := ⟨_, rfl⟩
  have qv3 : v3.toInt = (zI σ0 nw 9).toInt := by rw [ev3]
  have b4 : isB v3 := by have q9 := (hT.P (hT.k tnw (by decide)) (by decide)).2; rw [ev3] at q9; exact q9
  have znw9 : zI σ0 nw 9 = v3 := ev3
  obtain ⟨v5, ev5⟩ : ∃ zz9 : Int32, zI σ0 so 2 = zz9 := ⟨_, rfl⟩
  have qv5 : v5.toInt = (zI σ0 so 2).toInt := by rw [ev5]
  have b6 := (hT.P (hT.k tso (by decide)) (by decide)).1
  rw [ev5] at b6
  have b6l := b6.1
  have b6h := b6.2
  have zso2 : zI σ0 so 2 = v5 := ev5
  obtain ⟨v7, ev7⟩ : ∃ zz9 : Int32, zI σ0 so 6 = zz9 := ⟨_, rfl⟩
  have qv7 : v7.toInt = (zI σ0 so 6).toInt := by rw [ev7]
  have zso6 : zI σ0 so 6 = v7 := ev7
  refine lv_aload_n hx hb dX5_load_0 rfl (lv_at hl 0 rfl) ?_
  refine va_get (D := κ.1) (ci := 5) (v := .ref (kR κ this 0)) (C := RX5) (T := TX5) (N := 10) hx hb hg inX5 hown hK (hT.o7 (hT.k t_this (by decide))).one 0 rfl rfl 0 (by decide) (hg _ k379) (fun _ h9 => h9) rfl dX5_load_1 ?_
  rw [etx]
  refine lv_aload_n hx hb dX5_load_4 rfl (lv_at hl 0 rfl) ?_
  refine va_get (D := κ.1) (ci := 5) (v := .ref (kR κ this 2)) (C := RX5) (T := TX5) (N := 10) hx hb hg inX5 hown hK (hT.o7 (hT.k t_this (by decide))).one 0 rfl rfl 2 (by decide) (hg _ k381) (fun _ h9 => h9) rfl dX5_load_5 ?_
  rw [edr]
  have hTo := hT
  refine tVi (n := 1) (As := [.ref dr]) (rest := []) hx hb hml hown hg hT hK hX (X3s_readInto l κ σ0 tx dr  (hT.k ttx (by decide)) (hT.k tdr (by decide)) hTX) sub_fRd_fLd (mwV k689 k690 k691 k85 k692) ⟨rfl, by decide, by decide, by decide +kernel⟩ ⟨(Nat.le_of_ble_eq_true rfl), (Nat.le_of_ble_eq_true rfl)⟩ (hT.o6 (hT.k ttx (by decide))) rfl rfl hl.1 rfl (Nat.le_of_ble_eq_true rfl) dX5_load_8 zroom.up (fun x8 s9 H locs hφ hEs9 hT => ?_)
  have ev1 : zI s9 nw 7 = v1 := ((hTo.k tnw (by decide)).eI hEs9 (by decide) rfl).trans ev1
  have ev2 : zI s9 nw 8 = v2 := ((hTo.k tnw (by decide)).eI hEs9 (by decide) rfl).trans ev2
  have ev3 : zI s9 nw 9 = v3 := ((hTo.k tnw (by decide)).eI hEs9 (by decide) rfl).trans ev3
  have ev5 : zI s9 so 2 = v5 := ((hTo.k tso (by decide)).eI hEs9 (by decide) rfl).trans ev5
  have ev7 : zI s9 so 6 = v7 := ((hTo.k tso (by decide)).eI hEs9 (by decide) rfl).trans ev7
  have fr10 : ∀ a : Nat, a ≠ nw → zk σ0 a 3 → zI s9 a 7 = zI σ0 a 7 ∧ zI s9 a 8 = zI σ0 a 8 ∧ zI s9 a 9 = zI σ0 a 9 := fun a ha hk => ⟨((hTo.k hk (by decide)).eI hEs9 (by decide) rfl).trans ((show ∀ a : Nat, a ≠ nw → zk σ0 a 3 → zI σ0 a 7 = zI σ0 a 7 ∧ zI σ0 a 8 = zI σ0 a 8 ∧ zI σ0 a 9 = zI σ0 a 9 from fun _ _ _ => ⟨rfl, rfl, rfl⟩) a ha hk).1, ((hTo.k hk (by decide)).eI hEs9 (by decide) rfl).trans ((show ∀ a : Nat, a ≠ nw → zk σ0 a 3 → zI σ0 a 7 = zI σ0 a 7 ∧ zI σ0 a 8 = zI σ0 a 8 ∧ zI σ0 a 9 = zI σ0 a 9 from fun _ _ _ => ⟨rfl, rfl, rfl⟩) a ha hk).2.1, ((hTo.k hk (by decide)).eI hEs9 (by decide) rfl).trans ((show ∀ a : Nat, a ≠ nw → zk σ0 a 3 → zI σ0 a 7 = zI σ0 a 7 ∧ zI σ0 a 8 = zI σ0 a 8 ∧ zI σ0 a 9 = zI σ0 a 9 from fun _ _ _ => ⟨rfl, rfl, rfl⟩) a ha hk).2.2⟩
  have Y11 : zI s9 rI = zI σ0 rI := by first | (rw [show zI s9 rI = zI σ0 rI from funext fun k => (hTo.k trI (by decide)).eI hEs9 (by decide) rfl]; exact kq) | rw [show zI s9 rI = zI σ0 rI from funext fun k => (hTo.k trI (by decide)).eI hEs9 (by decide) rfl]
  have Y12 : zI s9 qP = zI σ0 qP := by first | (rw [show zI s9 qP = zI σ0 qP from funext fun k => (hTo.k tqP (by decide)).eI hEs9 (by decide) rfl]; exact kqP) | rw [show zI s9 qP = zI σ0 qP from funext fun k => (hTo.k tqP (by decide)).eI hEs9 (by decide) rfl]
  have Y13 : zI s9 qO = zI σ0 qO := by first | (rw [show zI s9 qO = zI σ0 qO from funext fun k => (hTo.k tqO (by decide)).eI hEs9 (by decide) rfl]; exact kqO) | rw [show zI s9 qO = zI σ0 qO from funext fun k => (hTo.k tqO (by decide)).eI hEs9 (by decide) rfl]
  obtain ⟨f14, f15⟩ := hφ
  obtain ⟨x9, co, po, rds9, f14⟩ := f14
  rcases f14 with ⟨a1, a2, a3, a4, a5, a6, a7, a8, a9, a10⟩ | ⟨a1, a2, a3, a4⟩
  · skip
    obtain ⟨v16, ev16⟩ : ∃ zz9 : Int32, zI s9 dr 3 = zz9 := ⟨_, rfl⟩
    have qv16 : v16.toInt = (zI s9 dr 3).toInt := by rw [ev16]
    obtain ⟨v17, ev17⟩ : ∃ zz9 : Int32, zI s9 dr 4 = zz9 := ⟨_, rfl⟩
    have qv17 : v17.toInt = (zI s9 dr 4).toInt := by rw [ev17]
    obtain ⟨v18, ev18⟩ : ∃ zz9 : Int32, zI s9 dr 5 = zz9 := ⟨_, rfl⟩
    have qv18 : v18.toInt = (zI s9 dr 5).toInt := by rw [ev18]
    have b19 : isB v18 := by have q9 := (hT.P (hT.k tdr (by decide)) (by decide)).2; rw [ev18] at q9; exact q9
    obtain ⟨v20, ev20⟩ : ∃ zz9 : Int32, zI s9 dr 6 = zz9 := ⟨_, rfl⟩
    have qv20 : v20.toInt = (zI s9 dr 6).toInt := by rw [ev20]
    have gd6 : v20.toInt = x9.2.2.2.2 3 := by rw [← (show zI s9 dr 6 = v20 from ev20)]; exact a7.2.2.2
    rw [edP] at a8
    rw [edO] at a9
    have gd9 : v16.toInt = x9.2.2.2.2 0 ∧ v17.toInt = x9.2.2.2.2 1 ∧ v18.toInt = x9.2.2.2.2 2 := ⟨by rw [← (show zI s9 dr 3 = v16 from ev16)]; exact a7.1, by rw [← (show zI s9 dr 4 = v17 from ev17)]; exact a7.2.1, by rw [← (show zI s9 dr 5 = v18 from ev18)]; exact a7.2.2.1⟩
    obtain ⟨v21, ev21⟩ : ∃ zz9 : Int32, zI s9 tx 2 = zz9 := ⟨_, rfl⟩
    have qv21 : v21.toInt = (zI s9 tx 2).toInt := by rw [ev21]
    obtain ⟨v22, ev22⟩ : ∃ zz9 : Int32, zI s9 tx 3 = zz9 := ⟨_, rfl⟩
    have qv22 : v22.toInt = (zI s9 tx 3).toInt := by rw [ev22]
    obtain ⟨v23, ev23⟩ : ∃ zz9 : Int32, zI s9 dr 2 = zz9 := ⟨_, rfl⟩
    have qv23 : v23.toInt = (zI s9 dr 2).toInt := by rw [ev23]
    have b24 := (hT.P (hT.k tdr (by decide)) (by decide)).1
    rw [ev23] at b24
    have b24l := b24.1
    have b24h := b24.2
    rw [(show zI s9 tx 2 = v21 from ev21)] at a5
    rw [(show zI s9 tx 3 = v22 from ev22)] at a6
    rw [(show zI s9 dr 2 = v23 from ev23)] at a3 a4
    refine lv_istore_n (lv' := [(1, .int x8), (0, .ref this)]) hx hb dX5_load_11 rfl hl (by decide) rfl (fun ls hl => ?_)
    refine lv_aload_n hx hb dX5_load_12 rfl (lv_at hl 1 rfl) ?_
    refine va_get (D := κ.1) (ci := 5) (v := .ref (kR κ this 0)) (C := RX5) (T := TX5) (N := 10) hx hb hg inX5 hown hK (hT.o7 (hT.k t_this (by decide))).one 0 rfl rfl 0 (by decide) (hg _ k379) (fun _ h9 => h9) rfl dX5_load_13 ?_
    rw [etx]
    refine lv_iconst (v := 0) hx hb dX5_load_16 (by decide) ?_
    have hTo := hT
    refine pf6_1 hx hb hg hown hK hT (hT.k ttx (by decide)) rfl ⟨by omega, by omega⟩ (hg _ k121) dX5_load_17 (fun H locs s25 hus25 hT => ?_)
    have ev1 : zI s25 nw 7 = v1 := (zput_o hus25 (Or.inr (by decide))).trans ev1
    have ev2 : zI s25 nw 8 = v2 := (zput_o hus25 (Or.inr (by decide))).trans ev2
    have ev3 : zI s25 nw 9 = v3 := (zput_o hus25 (Or.inr (by decide))).trans ev3
    have ev5 : zI s25 so 2 = v5 := (zput_o hus25 (Or.inr (by decide))).trans ev5
    have ev7 : zI s25 so 6 = v7 := (zput_o hus25 (Or.inr (by decide))).trans ev7
    have ev16 : zI s25 dr 3 = v16 := (zput_o hus25 (Or.inr (by decide))).trans ev16
    have ev17 : zI s25 dr 4 = v17 := (zput_o hus25 (Or.inr (by decide))).trans ev17
    have ev18 : zI s25 dr 5 = v18 := (zput_o hus25 (Or.inr (by decide))).trans ev18
    have ev20 : zI s25 dr 6 = v20 := (zput_o hus25 (Or.inr (by decide))).trans ev20
    have ev21 : zI s25 tx 2 = v21 := (zput_o hus25 (Or.inr (by decide))).trans ev21
    have ev22 : zI s25 tx 3 = v22 := (zput_o hus25 (Or.inr (by decide))).trans ev22
    have ev23 : zI s25 dr 2 = v23 := (zput_o hus25 (Or.inr (by decide))).trans ev23
    have fr26 : ∀ a : Nat, a ≠ nw → zk σ0 a 3 → zI s25 a 7 = zI σ0 a 7 ∧ zI s25 a 8 = zI σ0 a 8 ∧ zI s25 a 9 = zI σ0 a 9 := fun a ha hk => ⟨(zput_o hus25 (Or.inl ((hTo.k hk (by decide)).ne (hTo.k ttx (by decide)) (by decide)))).trans (fr10 a ha hk).1, (zput_o hus25 (Or.inl ((hTo.k hk (by decide)).ne (hTo.k ttx (by decide)) (by decide)))).trans (fr10 a ha hk).2.1, (zput_o hus25 (Or.inl ((hTo.k hk (by decide)).ne (hTo.k ttx (by decide)) (by decide)))).trans (fr10 a ha hk).2.2⟩
    have Y27 : zI s25 rI = zI σ0 rI := by first | (rw [show zI s25 rI = zI s9 rI from zput_Io hus25 ((hTo.k trI (by decide)).ne (hTo.k ttx (by decide)) (by decide))]; exact Y11) | rw [show zI s25 rI = zI s9 rI from zput_Io hus25 ((hTo.k trI (by decide)).ne (hTo.k ttx (by decide)) (by decide))]
    have Y28 : zI s25 qP = zI σ0 qP := by first | (rw [show zI s25 qP = zI s9 qP from zput_Io hus25 ((hTo.k tqP (by decide)).ne (hTo.k ttx (by decide)) (by decide))]; exact Y12) | rw [show zI s25 qP = zI s9 qP from zput_Io hus25 ((hTo.k tqP (by decide)).ne (hTo.k ttx (by decide)) (by decide))]
    have Y29 : zI s25 qO = zI σ0 qO := by first | (rw [show zI s25 qO = zI s9 qO from zput_Io hus25 ((hTo.k tqO (by decide)).ne (hTo.k ttx (by decide)) (by decide))]; exact Y13) | rw [show zI s25 qO = zI s9 qO from zput_Io hus25 ((hTo.k tqO (by decide)).ne (hTo.k ttx (by decide)) (by decide))]
    have Y30 : usP (zI s25 dP) po.toNat x9.2.2.2.2 := by first | (rw [show zI s25 dP = zI s9 dP from zput_Io hus25 ((hTo.k tdP (by decide)).ne (hTo.k ttx (by decide)) (by decide))]; exact a8) | rw [show zI s25 dP = zI s9 dP from zput_Io hus25 ((hTo.k tdP (by decide)).ne (hTo.k ttx (by decide)) (by decide))]
    have Y31 : usO (zI s25 dO) po.toNat x9.2.2.2.2 := by first | (rw [show zI s25 dO = zI s9 dO from zput_Io hus25 ((hTo.k tdO (by decide)).ne (hTo.k ttx (by decide)) (by decide))]; exact a9) | rw [show zI s25 dO = zI s9 dO from zput_Io hus25 ((hTo.k tdO (by decide)).ne (hTo.k ttx (by decide)) (by decide))]
    have e32 : zI s25 tx 1 = 0 := zput_at hus25
    refine lv_iload_n hx hb dX5_load_20 rfl (lv_at hl 0 rfl) ?_
    refine lv_if_ne (tgt := 34) hx hb dX5_load_21 (by decide) (fun _ => ?_) (fun c9 => absurd (gi_eq c9) (by omega))
    refine lv_aload_n hx hb dX5_load_34 rfl (lv_at hl 1 rfl) ?_
    refine va_get (D := κ.1) (ci := 5) (v := .ref (kR κ this 1)) (C := RX5) (T := TX5) (N := 10) hx hb hg inX5 hown hK (hT.o7 (hT.k t_this (by decide))).one 0 rfl rfl 1 (by decide) (hg _ k380) (fun _ h9 => h9) rfl dX5_load_35 ?_
    rw [eso]
    refine lv_aload_n hx hb dX5_load_38 rfl (lv_at hl 1 rfl) ?_
    refine va_get (D := κ.1) (ci := 5) (v := .ref (kR κ this 2)) (C := RX5) (T := TX5) (N := 10) hx hb hg inX5 hown hK (hT.o7 (hT.k t_this (by decide))).one 0 rfl rfl 2 (by decide) (hg _ k381) (fun _ h9 => h9) rfl dX5_load_39 ?_
    rw [edr]
    have cz33 : zI s25 dr 2 = v23 := ev23
    have cz34 : zI s25 dr 3 = v16 := ev16
    have cz35 : zI s25 dr 4 = v17 := ev17
    have cz36 : zI s25 dr 5 = v18 := ev18
    have cz37 : zI s25 dr 6 = v20 := ev20
    have qq38 : (zI s25 dr 2).toInt = v23.toInt := by rw [ev23]
    have hTo := hT
    refine tVv (n := 1) (As := [.ref dr]) (rest := []) hx hb hml hown hg hT hK hX (X0s_copyFrom l κ s25 so dr  (hT.k tso (by decide)) (hT.k tdr (by decide)) (by omega)) sub_fSrc_fLd (mwV k829 k830 k831 k86 k832) ⟨rfl, by decide, by decide, by decide +kernel⟩ ⟨(Nat.le_of_ble_eq_true rfl), (Nat.le_of_ble_eq_true rfl)⟩ (hT.o4 (hT.k tso (by decide))) rfl rfl hl.1 rfl (Nat.le_of_ble_eq_true rfl) dX5_load_42 zroom.up (fun s40 H locs hφ hEs40 hT => ?_)
    have ev1 : zI s40 nw 7 = v1 := ((hTo.k tnw (by decide)).eI hEs40 (by decide) rfl).trans ev1
    have ev2 : zI s40 nw 8 = v2 := ((hTo.k tnw (by decide)).eI hEs40 (by decide) rfl).trans ev2
    have ev3 : zI s40 nw 9 = v3 := ((hTo.k tnw (by decide)).eI hEs40 (by decide) rfl).trans ev3
    have ev16 : zI s40 dr 3 = v16 := ((hTo.k tdr (by decide)).eI hEs40 (by decide) rfl).trans ev16
    have ev17 : zI s40 dr 4 = v17 := ((hTo.k tdr (by decide)).eI hEs40 (by decide) rfl).trans ev17
    have ev18 : zI s40 dr 5 = v18 := ((hTo.k tdr (by decide)).eI hEs40 (by decide) rfl).trans ev18
    have ev20 : zI s40 dr 6 = v20 := ((hTo.k tdr (by decide)).eI hEs40 (by decide) rfl).trans ev20
    have ev21 : zI s40 tx 2 = v21 := ((hTo.k ttx (by decide)).eI hEs40 (by decide) rfl).trans ev21
    have ev22 : zI s40 tx 3 = v22 := ((hTo.k ttx (by decide)).eI hEs40 (by decide) rfl).trans ev22
    have ev23 : zI s40 dr 2 = v23 := ((hTo.k tdr (by decide)).eI hEs40 (by decide) rfl).trans ev23
    have e32 : zI s40 tx 1 = 0 := ((hTo.k ttx (by decide)).eI hEs40 (by decide) rfl).trans e32
    have fr41 : ∀ a : Nat, a ≠ nw → zk σ0 a 3 → zI s40 a 7 = zI σ0 a 7 ∧ zI s40 a 8 = zI σ0 a 8 ∧ zI s40 a 9 = zI σ0 a 9 := fun a ha hk => ⟨((hTo.k hk (by decide)).eI hEs40 (by decide) rfl).trans (fr26 a ha hk).1, ((hTo.k hk (by decide)).eI hEs40 (by decide) rfl).trans (fr26 a ha hk).2.1, ((hTo.k hk (by decide)).eI hEs40 (by decide) rfl).trans (fr26 a ha hk).2.2⟩
    have Y42 : zI s40 rI = zI σ0 rI := by first | (rw [show zI s40 rI = zI s25 rI from funext fun k => (hTo.k trI (by decide)).eI hEs40 (by decide) rfl]; exact Y27) | rw [show zI s40 rI = zI s25 rI from funext fun k => (hTo.k trI (by decide)).eI hEs40 (by decide) rfl]
    have Y43 : usP (zI s40 dP) po.toNat x9.2.2.2.2 := by first | (rw [show zI s40 dP = zI s25 dP from funext fun k => (hTo.k tdP (by decide)).eI hEs40 (by decide) rfl]; exact Y30) | rw [show zI s40 dP = zI s25 dP from funext fun k => (hTo.k tdP (by decide)).eI hEs40 (by decide) rfl]
    have Y44 : usO (zI s40 dO) po.toNat x9.2.2.2.2 := by first | (rw [show zI s40 dO = zI s25 dO from funext fun k => (hTo.k tdO (by decide)).eI hEs40 (by decide) rfl]; exact Y31) | rw [show zI s40 dO = zI s25 dO from funext fun k => (hTo.k tdO (by decide)).eI hEs40 (by decide) rfl]
    obtain ⟨f45, f46, f47, f48, f49, f50, f51⟩ := hφ
    obtain ⟨v52, ev52⟩ : ∃ zz9 : Int32, zI s40 so 3 = zz9 := ⟨_, rfl⟩
    have qv52 : v52.toInt = (zI s40 so 3).toInt := by rw [ev52]
    rw [(show zI s40 so 3 = v52 from ev52), cz34] at f46
    have gs3 : v52.toInt = x9.2.2.2.2 0 := by rw [f46]; exact gd9.1
    obtain ⟨v53, ev53⟩ : ∃ zz9 : Int32, zI s40 so 4 = zz9 := ⟨_, rfl⟩
    have qv53 : v53.toInt = (zI s40 so 4).toInt := by rw [ev53]
    rw [(show zI s40 so 4 = v53 from ev53), cz35] at f47
    have gs4 : v53.toInt = x9.2.2.2.2 1 := by rw [f47]; exact gd9.2.1
    obtain ⟨v54, ev54⟩ : ∃ zz9 : Int32, zI s40 so 5 = zz9 := ⟨_, rfl⟩
    have qv54 : v54.toInt = (zI s40 so 5).toInt := by rw [ev54]
    have b55 : isB v54 := by have q9 := (hT.P (hT.k tso (by decide)) (by decide)).2; rw [ev54] at q9; exact q9
    rw [(show zI s40 so 5 = v54 from ev54), cz36] at f48
    have gs5 : v54.toInt = x9.2.2.2.2 2 := by rw [f48]; exact gd9.2.2
    obtain ⟨v56, ev56⟩ : ∃ zz9 : Int32, zI s40 so 2 = zz9 := ⟨_, rfl⟩
    have qv56 : v56.toInt = (zI s40 so 2).toInt := by rw [ev56]
    have b57 := (hT.P (hT.k tso (by decide)) (by decide)).1
    rw [ev56] at b57
    have b57l := b57.1
    have b57h := b57.2
    rw [(show zI s40 so 2 = v56 from ev56), cz33] at f45
    have hso9 : v56.toInt = po := by rw [f45]; exact a3
    obtain ⟨v58, ev58⟩ : ∃ zz9 : Int32, zI s40 so 6 = zz9 := ⟨_, rfl⟩
    have qv58 : v58.toInt = (zI s40 so 6).toInt := by rw [ev58]
    rw [(show zI s40 so 6 = v58 from ev58), cz37] at f49
    have gs6 : v58.toInt = x9.2.2.2.2 3 := by rw [f49]; exact gd6
    have pb9 : po ≤ 48 := by have z9 := (hT.P (show zk s40 so 4 from hT.k tso (by decide)) (by decide)).1.2; rw [(show zI s40 so 2 = v56 from ev56)] at z9; omega
    rw [eqP, edP] at f50
    rw [eqO, edO] at f51
    have vP9 : usP (zI s40 qP) po.toNat x9.2.2.2.2 := Y30.cg (fun j hj => f50 j (by omega))
    have vO9 : usO (zI s40 qO) po.toNat x9.2.2.2.2 := Y31.cg (fun j hj => f51 j (by omega))
    refine lv_aload_n hx hb dX5_load_45 rfl (lv_at hl 1 rfl) ?_
    refine va_get (D := κ.1) (ci := 5) (v := .ref (kR κ this 3)) (C := RX5) (T := TX5) (N := 10) hx hb hg inX5 hown hK (hT.o7 (hT.k t_this (by decide))).one 0 rfl rfl 3 (by decide) (hg _ k382) (fun _ h9 => h9) rfl dX5_load_46 ?_
    rw [enw]
    have hTo := hT
    refine tVv (n := 0) (As := []) (rest := []) hx hb hml hown hg hT hK hX (X1_begin l κ s40 nw  (hT.k tnw (by decide)) ) sub_fBe_fLd (mwV k332 k333 k334 k87 k335) ⟨rfl, by decide, by decide, by decide +kernel⟩ ⟨(Nat.le_of_ble_eq_true rfl), (Nat.le_of_ble_eq_true rfl)⟩ (hT.o3 (hT.k tnw (by decide))) rfl rfl hl.1 rfl (Nat.le_of_ble_eq_true rfl) dX5_load_49 zroom.up (fun s60 H locs hφ hEs60 hT => ?_)
    have ev1 : zI s60 nw 7 = v1 := ((hTo.k tnw (by decide)).eI hEs60 (by decide) rfl).trans ev1
    have ev2 : zI s60 nw 8 = v2 := ((hTo.k tnw (by decide)).eI hEs60 (by decide) rfl).trans ev2
    have ev3 : zI s60 nw 9 = v3 := ((hTo.k tnw (by decide)).eI hEs60 (by decide) rfl).trans ev3
    have ev16 : zI s60 dr 3 = v16 := ((hTo.k tdr (by decide)).eI hEs60 (by decide) rfl).trans ev16
    have ev17 : zI s60 dr 4 = v17 := ((hTo.k tdr (by decide)).eI hEs60 (by decide) rfl).trans ev17
    have ev18 : zI s60 dr 5 = v18 := ((hTo.k tdr (by decide)).eI hEs60 (by decide) rfl).trans ev18
    have ev20 : zI s60 dr 6 = v20 := ((hTo.k tdr (by decide)).eI hEs60 (by decide) rfl).trans ev20
    have ev21 : zI s60 tx 2 = v21 := ((hTo.k ttx (by decide)).eI hEs60 (by decide) rfl).trans ev21
    have ev22 : zI s60 tx 3 = v22 := ((hTo.k ttx (by decide)).eI hEs60 (by decide) rfl).trans ev22
    have ev23 : zI s60 dr 2 = v23 := ((hTo.k tdr (by decide)).eI hEs60 (by decide) rfl).trans ev23
    have e32 : zI s60 tx 1 = 0 := ((hTo.k ttx (by decide)).eI hEs60 (by decide) rfl).trans e32
    have ev52 : zI s60 so 3 = v52 := ((hTo.k tso (by decide)).eI hEs60 (by decide) rfl).trans ev52
    have ev53 : zI s60 so 4 = v53 := ((hTo.k tso (by decide)).eI hEs60 (by decide) rfl).trans ev53
    have ev54 : zI s60 so 5 = v54 := ((hTo.k tso (by decide)).eI hEs60 (by decide) rfl).trans ev54
    have ev56 : zI s60 so 2 = v56 := ((hTo.k tso (by decide)).eI hEs60 (by decide) rfl).trans ev56
    have ev58 : zI s60 so 6 = v58 := ((hTo.k tso (by decide)).eI hEs60 (by decide) rfl).trans ev58
    have fr61 : ∀ a : Nat, a ≠ nw → zk σ0 a 3 → zI s60 a 7 = zI σ0 a 7 ∧ zI s60 a 8 = zI σ0 a 8 ∧ zI s60 a 9 = zI σ0 a 9 := fun a ha hk => ⟨((hTo.k hk (by decide)).eI hEs60 (by decide) rfl).trans (fr41 a ha hk).1, ((hTo.k hk (by decide)).eI hEs60 (by decide) rfl).trans (fr41 a ha hk).2.1, ((hTo.k hk (by decide)).eI hEs60 (by decide) rfl).trans (fr41 a ha hk).2.2⟩
    have Y62 : zI s60 rI = zI σ0 rI := by first | (rw [show zI s60 rI = zI s40 rI from funext fun k => (hTo.k trI (by decide)).eI hEs60 (by decide) rfl]; exact Y42) | rw [show zI s60 rI = zI s40 rI from funext fun k => (hTo.k trI (by decide)).eI hEs60 (by decide) rfl]
    have Y63 : usP (zI s60 qP) po.toNat x9.2.2.2.2 := by first | (rw [show zI s60 qP = zI s40 qP from funext fun k => (hTo.k tqP (by decide)).eI hEs60 (by decide) rfl]; exact vP9) | rw [show zI s60 qP = zI s40 qP from funext fun k => (hTo.k tqP (by decide)).eI hEs60 (by decide) rfl]
    have Y64 : usO (zI s60 qO) po.toNat x9.2.2.2.2 := by first | (rw [show zI s60 qO = zI s40 qO from funext fun k => (hTo.k tqO (by decide)).eI hEs60 (by decide) rfl]; exact vO9) | rw [show zI s60 qO = zI s40 qO from funext fun k => (hTo.k tqO (by decide)).eI hEs60 (by decide) rfl]
    refine lv_aload_n hx hb dX5_load_52 rfl (lv_at hl 1 rfl) ?_
    refine va_get (D := κ.1) (ci := 5) (v := .ref (kR κ this 3)) (C := RX5) (T := TX5) (N := 10) hx hb hg inX5 hown hK (hT.o7 (hT.k t_this (by decide))).one 0 rfl rfl 3 (by decide) (hg _ k382) (fun _ h9 => h9) rfl dX5_load_53 ?_
    rw [enw]
    have cz65 : zI s60 so 3 = v52 := ev52
    have cz66 : zI s60 so 4 = v53 := ev53
    have cz67 : zI s60 so 5 = v54 := ev54
    have hTo := hT
    refine tVv (n := 0) (As := []) (rest := []) hx hb hml hown hg hT hK hX (X1t_takeSettings l κ s60 nw  (hT.k tnw (by decide)) ) sub_fSet_fLd (mwV k375 k376 k377 k87 k378) ⟨rfl, by decide, by decide, by decide +kernel⟩ ⟨(Nat.le_of_ble_eq_true rfl), (Nat.le_of_ble_eq_true rfl)⟩ (hT.o3 (hT.k tnw (by decide))) rfl rfl hl.1 rfl (Nat.le_of_ble_eq_true rfl) dX5_load_56 zroom.up (fun s69 H locs hφ hEs69 hT => ?_)
    have ev16 : zI s69 dr 3 = v16 := ((hTo.k tdr (by decide)).eI hEs69 (by decide) rfl).trans ev16
    have ev17 : zI s69 dr 4 = v17 := ((hTo.k tdr (by decide)).eI hEs69 (by decide) rfl).trans ev17
    have ev18 : zI s69 dr 5 = v18 := ((hTo.k tdr (by decide)).eI hEs69 (by decide) rfl).trans ev18
    have ev20 : zI s69 dr 6 = v20 := ((hTo.k tdr (by decide)).eI hEs69 (by decide) rfl).trans ev20
    have ev21 : zI s69 tx 2 = v21 := ((hTo.k ttx (by decide)).eI hEs69 (by decide) rfl).trans ev21
    have ev22 : zI s69 tx 3 = v22 := ((hTo.k ttx (by decide)).eI hEs69 (by decide) rfl).trans ev22
    have ev23 : zI s69 dr 2 = v23 := ((hTo.k tdr (by decide)).eI hEs69 (by decide) rfl).trans ev23
    have e32 : zI s69 tx 1 = 0 := ((hTo.k ttx (by decide)).eI hEs69 (by decide) rfl).trans e32
    have ev52 : zI s69 so 3 = v52 := ((hTo.k tso (by decide)).eI hEs69 (by decide) rfl).trans ev52
    have ev53 : zI s69 so 4 = v53 := ((hTo.k tso (by decide)).eI hEs69 (by decide) rfl).trans ev53
    have ev54 : zI s69 so 5 = v54 := ((hTo.k tso (by decide)).eI hEs69 (by decide) rfl).trans ev54
    have ev56 : zI s69 so 2 = v56 := ((hTo.k tso (by decide)).eI hEs69 (by decide) rfl).trans ev56
    have ev58 : zI s69 so 6 = v58 := ((hTo.k tso (by decide)).eI hEs69 (by decide) rfl).trans ev58
    have Y70 : zI s69 rI = zI σ0 rI := by first | (rw [show zI s69 rI = zI s60 rI from funext fun k => (hTo.k trI (by decide)).eI hEs69 (by decide) rfl]; exact Y62) | rw [show zI s69 rI = zI s60 rI from funext fun k => (hTo.k trI (by decide)).eI hEs69 (by decide) rfl]
    have Y71 : usP (zI s69 qP) po.toNat x9.2.2.2.2 := by first | (rw [show zI s69 qP = zI s60 qP from funext fun k => (hTo.k tqP (by decide)).eI hEs69 (by decide) rfl]; exact Y63) | rw [show zI s69 qP = zI s60 qP from funext fun k => (hTo.k tqP (by decide)).eI hEs69 (by decide) rfl]
    have Y72 : usO (zI s69 qO) po.toNat x9.2.2.2.2 := by first | (rw [show zI s69 qO = zI s60 qO from funext fun k => (hTo.k tqO (by decide)).eI hEs69 (by decide) rfl]; exact Y64) | rw [show zI s69 qO = zI s60 qO from funext fun k => (hTo.k tqO (by decide)).eI hEs69 (by decide) rfl]
    obtain ⟨f73, f74, f75, f76⟩ := hφ
    have fr77 : ∀ a : Nat, a ≠ nw → zk σ0 a 3 → zI s69 a 7 = zI σ0 a 7 ∧ zI s69 a 8 = zI σ0 a 8 ∧ zI s69 a 9 = zI σ0 a 9 := fun a ha hk => ⟨(f76 a ha (hTo.k hk (by decide))).1.trans (fr61 a ha hk).1, (f76 a ha (hTo.k hk (by decide))).2.1.trans (fr61 a ha hk).2.1, (f76 a ha (hTo.k hk (by decide))).2.2.trans (fr61 a ha hk).2.2⟩
    rw [hns] at f73
    obtain ⟨v78, ev78⟩ : ∃ zz9 : Int32, zI s69 nw 7 = zz9 := ⟨_, rfl⟩
    have qv78 : v78.toInt = (zI s69 nw 7).toInt := by rw [ev78]
    rw [(show zI s69 nw 7 = v78 from ev78), cz65] at f73
    have gn7 : v78.toInt = x9.2.2.2.2 0 := by rw [f73]; exact gs3
    rw [hns] at f74
    obtain ⟨v79, ev79⟩ : ∃ zz9 : Int32, zI s69 nw 8 = zz9 := ⟨_, rfl⟩
    have qv79 : v79.toInt = (zI s69 nw 8).toInt := by rw [ev79]
    rw [(show zI s69 nw 8 = v79 from ev79), cz66] at f74
    have gn8 : v79.toInt = x9.2.2.2.2 1 := by rw [f74]; exact gs4
    rw [hns] at f75
    obtain ⟨v80, ev80⟩ : ∃ zz9 : Int32, zI s69 nw 9 = zz9 := ⟨_, rfl⟩
    have qv80 : v80.toInt = (zI s69 nw 9).toInt := by rw [ev80]
    have b81 : isB v80 := by have q9 := (hT.P (hT.k tnw (by decide)) (by decide)).2; rw [ev80] at q9; exact q9
    rw [(show zI s69 nw 9 = v80 from ev80), cz67] at f75
    have gn9 : v80.toInt = x9.2.2.2.2 2 := by rw [f75]; exact gs5
    refine lv_iconst (v := 0) hx hb dX5_load_59 (by decide) ?_
    refine lv_istore_n (lv' := [(2, .int 0), (1, .int x8), (0, .ref this)]) hx hb dX5_load_60 rfl hl (by decide) rfl (fun ls hl => ?_)
    have loop61 : ∀ (n9 : Nat) (k : Int32) (H : Heap) (locs : List Loc) (sg : Gh) (ls : Array Slot), TS κ fLd σ0 sg s H locs → (zI sg tx 1 = 0) → (zI sg tx 2 = v21) → (zI sg tx 3 = v22) → (zI sg so 2 = v56) → (zI sg so 6 = v58) → (zI sg nw 7 = v78) → (zI sg nw 8 = v79) → (zI sg nw 9 = v80) → (0 ≤ k.toInt) → (k.toInt ≤ 2) → (∀ i : Nat, i < ix k → zI sg rI i = 0) → (∀ a : Nat, a ≠ nw → zk σ0 a 3 → zI sg a 7 = zI σ0 a 7 ∧ zI sg a 8 = zI σ0 a 8 ∧ zI sg a 9 = zI σ0 a 9) → (usP (zI sg qP) po.toNat x9.2.2.2.2) → (usO (zI sg qO) po.toNat x9.2.2.2.2) → lv_has ls 3 [(2, .int k), (1, .int x8), (0, .ref this)] → (2 - k.toInt) < n9 → tW p l e 8 174 (kX κ) s m #[.ref this] below meth c H locs Q9 (F0 m 61 ls []) := by
      intro n9
      induction n9 with
      | zero =>
        intro k H locs sg ls hT ktx_1 ktx_2 ktx_3 kso_2 kso_6 knw_7 knw_8 knw_9 q2 q3 q4 FR q8 q9 hl hm9
        exfalso
        omega
      | succ n9 ih9 =>
        have ih61 := ih9
        clear ih9
        intro k H locs s82 ls hT ktx_1 ktx_2 ktx_3 kso_2 kso_6 knw_7 knw_8 knw_9 q2 q3 q4 FR q8 q9 hl hm9
        have i_k : (ix k : Int) = k.toInt := by unfold ix; omega
        refine lv_iload_n hx hb dX5_load_61 rfl (lv_at hl 0 rfl) ?_
        refine lv_iconst (v := 2) hx hb dX5_load_62 (by decide) ?_
        refine lv_icmp_ge (tgt := 79) hx hb dX5_load_63 (by decide) (fun c9 => ?_) (fun c9 => ?_)
        · have c1 := gi_le c9
          refine lv_aload_n hx hb dX5_load_79 rfl (lv_at hl 2 rfl) ?_
          refine va_get (D := κ.1) (ci := 5) (v := .ref (kR κ this 1)) (C := RX5) (T := TX5) (N := 10) hx hb hg inX5 hown hK (hT.o7 (hT.k t_this (by decide))).one 0 rfl rfl 1 (by decide) (hg _ k380) (fun _ h9 => h9) rfl dX5_load_80 ?_
          rw [eso]
          refine va_get (D := κ.1) (ci := 0) (v := .int (zI s82 so 2)) (C := RX0) (T := TX0) (N := 7) hx hb hg inX0 hown hK (hT.o4 (hT.k tso (by decide))).one 0 rfl rfl 2 (by decide) (hg _ k163) (fun _ h9 => h9) rfl dX5_load_83 ?_
          rw [kso_2]
          subst hQ9
          exact vx_ret (t_i hx hb hr hlocks hT ⟨by rw [etx, (show zI s82 tx 1 = 0 from ktx_1)]; omega, ⟨x9, po, by rw [← a2]; exact rds9, by omega, by rw [etx, (show zI s82 tx 2 = v21 from ktx_2)]; exact a5, by rw [etx, (show zI s82 tx 3 = v22 from ktx_3)]; exact a6, (fun i hi => by rw [erI]; exact q4 i (by omega)), by rw [enw, (show zI s82 nw 7 = v78 from knw_7)]; exact gn7, by rw [enw, (show zI s82 nw 8 = v79 from knw_8)]; exact gn8, by rw [enw, (show zI s82 nw 9 = v80 from knw_9)]; exact gn9, by rw [eso, (show zI s82 so 2 = v56 from kso_2)]; exact hso9, by rw [eso, (show zI s82 so 6 = v58 from kso_6)]; exact gs6, by rw [eso, eqP]; exact q8, by rw [eso, eqO]; exact q9, a10⟩, by rw [enw]; exact FR⟩ dX5_load_86)
        · have c2 := gi_nle c9
          refine lv_aload_n hx hb dX5_load_66 rfl (lv_at hl 2 rfl) ?_
          refine va_get (D := κ.1) (ci := 5) (v := .ref (kR κ this 6)) (C := RX5) (T := TX5) (N := 10) hx hb hg inX5 hown hK (hT.o7 (hT.k t_this (by decide))).one 0 rfl rfl 6 (by decide) (hg _ k385) (fun _ h9 => h9) rfl dX5_load_67 ?_
          rw [erI]
          refine lv_iload_n hx hb dX5_load_70 rfl (lv_at hl 0 rfl) ?_
          refine lv_iconst (v := 0) hx hb dX5_load_71 (by decide) ?_
          have hTo := hT
          refine tastz (n := 2) hx hb hK hT (hT.k trI (by decide)) ⟨by decide, by decide⟩ (fun _ _ _ => rfl) (fun _ _ => trivial) (fun _ => rfl) (by omega) (by omega) dX5_load_72 (fun H locs s83 hus83 hT => ?_)
          have ktx_1 : zI s83 tx 1 = 0 := (zput_o hus83 (Or.inl ((hTo.k ttx (by decide)).ne (hTo.k trI (by decide)) (by decide)))).trans ktx_1
          have ktx_2 : zI s83 tx 2 = v21 := (zput_o hus83 (Or.inl ((hTo.k ttx (by decide)).ne (hTo.k trI (by decide)) (by decide)))).trans ktx_2
          have ktx_3 : zI s83 tx 3 = v22 := (zput_o hus83 (Or.inl ((hTo.k ttx (by decide)).ne (hTo.k trI (by decide)) (by decide)))).trans ktx_3
          have kso_2 : zI s83 so 2 = v56 := (zput_o hus83 (Or.inl ((hTo.k tso (by decide)).ne (hTo.k trI (by decide)) (by decide)))).trans kso_2
          have kso_6 : zI s83 so 6 = v58 := (zput_o hus83 (Or.inl ((hTo.k tso (by decide)).ne (hTo.k trI (by decide)) (by decide)))).trans kso_6
          have knw_7 : zI s83 nw 7 = v78 := (zput_o hus83 (Or.inl ((hTo.k tnw (by decide)).ne (hTo.k trI (by decide)) (by decide)))).trans knw_7
          have knw_8 : zI s83 nw 8 = v79 := (zput_o hus83 (Or.inl ((hTo.k tnw (by decide)).ne (hTo.k trI (by decide)) (by decide)))).trans knw_8
          have knw_9 : zI s83 nw 9 = v80 := (zput_o hus83 (Or.inl ((hTo.k tnw (by decide)).ne (hTo.k trI (by decide)) (by decide)))).trans knw_9
          have fr84 : ∀ a : Nat, a ≠ nw → zk σ0 a 3 → zI s83 a 7 = zI σ0 a 7 ∧ zI s83 a 8 = zI σ0 a 8 ∧ zI s83 a 9 = zI σ0 a 9 := fun a ha hk => ⟨(zput_o hus83 (Or.inl ((hTo.k hk (by decide)).ne (hTo.k trI (by decide)) (by decide)))).trans (FR a ha hk).1, (zput_o hus83 (Or.inl ((hTo.k hk (by decide)).ne (hTo.k trI (by decide)) (by decide)))).trans (FR a ha hk).2.1, (zput_o hus83 (Or.inl ((hTo.k hk (by decide)).ne (hTo.k trI (by decide)) (by decide)))).trans (FR a ha hk).2.2⟩
          have Y85 : usP (zI s83 qP) po.toNat x9.2.2.2.2 := by first | (rw [show zI s83 qP = zI s82 qP from zput_Io hus83 ((hTo.k tqP (by decide)).ne (hTo.k trI (by decide)) (by decide))]; exact q8) | rw [show zI s83 qP = zI s82 qP from zput_Io hus83 ((hTo.k tqP (by decide)).ne (hTo.k trI (by decide)) (by decide))]
          have Y86 : usO (zI s83 qO) po.toNat x9.2.2.2.2 := by first | (rw [show zI s83 qO = zI s82 qO from zput_Io hus83 ((hTo.k tqO (by decide)).ne (hTo.k trI (by decide)) (by decide))]; exact q9) | rw [show zI s83 qO = zI s82 qO from zput_Io hus83 ((hTo.k tqO (by decide)).ne (hTo.k trI (by decide)) (by decide))]
          have Y87 : ∀ i : Nat, i < ix k + 1 → zI s83 rI i = 0 := fun i hi => (Classical.em (i = ix k)).elim (fun e9 => by rw [e9, zput_at hus83]; decide) (fun e9 => (zput_o hus83 (Or.inr e9)).trans (q4 i (by omega)))
          obtain ⟨t88, qt88⟩ : ∃ zz9 : Int32, k + Int32.ofInt 1 = zz9 := ⟨_, rfl⟩
          refine lv_iinc (v := t88) (lv' := [(2, .int t88), (1, .int x8), (0, .ref this)]) hx hb dX5_load_73 hl (k := 0) rfl qt88 (by decide) rfl (fun ls hl => ?_)
          have ht88 : t88.toInt = k.toInt + 1 := by rw [← qt88]; exact v_addi rfl (show (Int32.ofInt 1).toInt = 1 from by decide) (by omega) (by omega)
          refine lv_goto (tgt := 61) hx hb dX5_load_76 (by decide) ?_
          exact ih61 t88 _ _ _ _ hT ktx_1 ktx_2 ktx_3 kso_2 kso_6 knw_7 knw_8 knw_9 (by omega) (by omega) (by rw [show ix t88 = ix k + 1 from by unfold ix; omega]; exact Y87) fr84 Y85 Y86 hl (by omega)
    exact loop61 ((2 - (0 : Int32).toInt).toNat + 1) 0 _ _ _ _ hT e32 ev21 ev22 ev56 ev58 ev78 ev79 ev80 (by omega) (by omega) (fun i hi => by rw [ix_0] at hi; omega) fr77 Y71 Y72 hl (by omega)
  · skip
    obtain ⟨v89, ev89⟩ : ∃ zz9 : Int32, zI s9 tx 2 = zz9 := ⟨_, rfl⟩
    have qv89 : v89.toInt = (zI s9 tx 2).toInt := by rw [ev89]
    obtain ⟨v90, ev90⟩ : ∃ zz9 : Int32, zI s9 tx 3 = zz9 := ⟨_, rfl⟩
    have qv90 : v90.toInt = (zI s9 tx 3).toInt := by rw [ev90]
    rw [(show zI s9 tx 2 = v89 from ev89)] at a3
    rw [(show zI s9 tx 3 = v90 from ev90)] at a4
    refine lv_istore_n (lv' := [(1, .int x8), (0, .ref this)]) hx hb dX5_load_11 rfl hl (by decide) rfl (fun ls hl => ?_)
    refine lv_aload_n hx hb dX5_load_12 rfl (lv_at hl 1 rfl) ?_
    refine va_get (D := κ.1) (ci := 5) (v := .ref (kR κ this 0)) (C := RX5) (T := TX5) (N := 10) hx hb hg inX5 hown hK (hT.o7 (hT.k t_this (by decide))).one 0 rfl rfl 0 (by decide) (hg _ k379) (fun _ h9 => h9) rfl dX5_load_13 ?_
    rw [etx]
    refine lv_iconst (v := 0) hx hb dX5_load_16 (by decide) ?_
    have hTo := hT
    refine pf6_1 hx hb hg hown hK hT (hT.k ttx (by decide)) rfl ⟨by omega, by omega⟩ (hg _ k121) dX5_load_17 (fun H locs s91 hus91 hT => ?_)
    have ev1 : zI s91 nw 7 = v1 := (zput_o hus91 (Or.inr (by decide))).trans ev1
    have ev2 : zI s91 nw 8 = v2 := (zput_o hus91 (Or.inr (by decide))).trans ev2
    have ev3 : zI s91 nw 9 = v3 := (zput_o hus91 (Or.inr (by decide))).trans ev3
    have ev5 : zI s91 so 2 = v5 := (zput_o hus91 (Or.inr (by decide))).trans ev5
    have ev7 : zI s91 so 6 = v7 := (zput_o hus91 (Or.inr (by decide))).trans ev7
    have ev89 : zI s91 tx 2 = v89 := (zput_o hus91 (Or.inr (by decide))).trans ev89
    have ev90 : zI s91 tx 3 = v90 := (zput_o hus91 (Or.inr (by decide))).trans ev90
    have fr92 : ∀ a : Nat, a ≠ nw → zk σ0 a 3 → zI s91 a 7 = zI σ0 a 7 ∧ zI s91 a 8 = zI σ0 a 8 ∧ zI s91 a 9 = zI σ0 a 9 := fun a ha hk => ⟨(zput_o hus91 (Or.inl ((hTo.k hk (by decide)).ne (hTo.k ttx (by decide)) (by decide)))).trans (fr10 a ha hk).1, (zput_o hus91 (Or.inl ((hTo.k hk (by decide)).ne (hTo.k ttx (by decide)) (by decide)))).trans (fr10 a ha hk).2.1, (zput_o hus91 (Or.inl ((hTo.k hk (by decide)).ne (hTo.k ttx (by decide)) (by decide)))).trans (fr10 a ha hk).2.2⟩
    have Y93 : zI s91 rI = zI σ0 rI := by first | (rw [show zI s91 rI = zI s9 rI from zput_Io hus91 ((hTo.k trI (by decide)).ne (hTo.k ttx (by decide)) (by decide))]; exact Y11) | rw [show zI s91 rI = zI s9 rI from zput_Io hus91 ((hTo.k trI (by decide)).ne (hTo.k ttx (by decide)) (by decide))]
    have Y94 : zI s91 qP = zI σ0 qP := by first | (rw [show zI s91 qP = zI s9 qP from zput_Io hus91 ((hTo.k tqP (by decide)).ne (hTo.k ttx (by decide)) (by decide))]; exact Y12) | rw [show zI s91 qP = zI s9 qP from zput_Io hus91 ((hTo.k tqP (by decide)).ne (hTo.k ttx (by decide)) (by decide))]
    have Y95 : zI s91 qO = zI σ0 qO := by first | (rw [show zI s91 qO = zI s9 qO from zput_Io hus91 ((hTo.k tqO (by decide)).ne (hTo.k ttx (by decide)) (by decide))]; exact Y13) | rw [show zI s91 qO = zI s9 qO from zput_Io hus91 ((hTo.k tqO (by decide)).ne (hTo.k ttx (by decide)) (by decide))]
    have e96 : zI s91 tx 1 = 0 := zput_at hus91
    refine lv_iload_n hx hb dX5_load_20 rfl (lv_at hl 0 rfl) ?_
    refine lv_if_ne (tgt := 34) hx hb dX5_load_21 (by decide) (fun c9 => absurd (gi_ne c9) (by omega)) (fun _ => ?_)
    obtain ⟨sa, hsa⟩ := XX_sRX5_86 hX.1
    subst hQ9
    exact tth_IAE hx hb hlt hown (hg _ k813) (hg _ k101) hsa hg hX.1 hT (hl.1.trans hml.symm) dX5_load_24 dX5_load_27 dX5_load_28 dX5_load_30 dX5_load_33 hout (Nat.le_of_ble_eq_true rfl) (Nat.le_of_ble_eq_true rfl) zroomX.rf hlocks ⟨rfl, by rw [etx, (show zI s91 tx 1 = 0 from e96)]; omega, ⟨x9, co, po, rds9, a2, by rw [etx, (show zI s91 tx 2 = v89 from ev89)]; exact a3, by rw [etx, (show zI s91 tx 3 = v90 from ev90)]; exact a4, by rw [erI]; exact Y93⟩, by rw [enw]; exact fr92, by rw [enw]; exact (show zI s91 nw 7 = v1 from ev1).trans znw7.symm, by rw [enw]; exact (show zI s91 nw 8 = v2 from ev2).trans znw8.symm, by rw [enw]; exact (show zI s91 nw 9 = v3 from ev3).trans znw9.symm, by rw [eso]; exact (show zI s91 so 2 = v5 from ev5).trans zso2.symm, by rw [eso]; exact (show zI s91 so 6 = v7 from ev7).trans zso6.symm, by rw [eso, eqP]; exact Y94, by rw [eso, eqO]; exact Y95⟩
set_option maxHeartbeats 4000000 in
set_option maxRecDepth 100000 in
theorem X5s_save (l : Launch) (κ : Kt) (σ0 : Gh) (this : Nat) (i : Int32) (t_this : zk σ0 this 7) (hlt : l.stackTraces = false) : TX l yX5_save cX5_save 2 none 7 127 [.ref this, .int i] κ σ0 (tqv κ fSv σ0 (fun (τ : Gh) => (0 ≤ i.toInt) ∧ (i.toInt ≤ 1) ∧ (∀ j : Nat, zI τ (kR κ this 6) j = if j = ix i then 1 else zI σ0 (kR κ this 6) j) ∧ (zI τ (kR κ (kR κ this 5) (ix i)) 7 = zI σ0 (kR κ this 3) 7 ∧ zI τ (kR κ (kR κ this 5) (ix i)) 8 = zI σ0 (kR κ this 3) 8 ∧ zI τ (kR κ (kR κ this 5) (ix i)) 9 = zI σ0 (kR κ this 3) 9) ∧ (∀ a : Nat, a ≠ (kR κ (kR κ this 5) (ix i)) → zk σ0 a 3 → zI τ a 7 = zI σ0 a 7 ∧ zI τ a 8 = zI σ0 a 8 ∧ zI τ a 9 = zI σ0 a 9))) (txq κ fSv σ0 (fun (E : String) (τ : Gh) => E = "java/lang/IndexOutOfBoundsException" ∧ (i.toInt < 0 ∨ 1 < i.toInt) ∧ zI τ (kR κ this 6) = zI σ0 (kR κ this 6) ∧ ∀ a : Nat, zk σ0 a 3 → zI τ a 7 = zI σ0 a 7 ∧ zI τ a 8 = zI σ0 a 8 ∧ zI τ a 9 = zI σ0 a 9)) := by
  refine TX.of fSv (by decide +kernel) (Nat.le_of_ble_eq_true rfl) ?_
  intro p e s m below meth c ls hcs hout hK hX hT hl
  obtain ⟨hx, hb, hr, hml, hown, hg, hlocks, hin⟩ := hcs
  have hown : s.vm.findClass RX5 = some m.cls := hown
  have hl : lv_has ls 2 [(0, .ref this), (1, .int i)] := hl
  have hT0 := hT
  have n1 : (1 : Int32).toInt = 1 := by decide
  have n2 : (2 : Int32).toInt = 2 := by decide
  have i_lo := Int32.le_toInt i
  have i_hi := Int32.toInt_lt i
  generalize hQ9 : tQX _ _ _ _ _ _ _ = Q9
  obtain ⟨tx, etx⟩ : ∃ z, kR κ this 0 = z := ⟨_, rfl⟩
  have ttx : zk σ0 tx 6 := by rw [← etx]; exact hT0.ref t_this (by decide) (by decide) (by decide)
  have btx := hT0.P ttx (by decide)
  have btxl := btx.1.1
  have btxh := btx.1.2
  obtain ⟨rB, erB⟩ : ∃ z, kR κ tx 0 = z := ⟨_, rfl⟩
  have trB : zk σ0 rB 14 := by rw [← erB]; exact hT0.ref ttx (by decide) (by decide) (by decide)
  obtain ⟨rI, erI⟩ : ∃ z, kR κ this 6 = z := ⟨_, rfl⟩
  have trI : zk σ0 rI 13 := by rw [← erI]; exact hT0.ref t_this (by decide) (by decide) (by decide)
  obtain ⟨rs5, ers5⟩ : ∃ z, kR κ this 5 = z := ⟨_, rfl⟩
  have trs5 : zk σ0 rs5 12 := by rw [← ers5]; exact hT0.ref t_this (by decide) (by decide) (by decide)
  obtain ⟨nw, enw⟩ : ∃ z, kR κ this 3 = z := ⟨_, rfl⟩
  have tnw : zk σ0 nw 3 := by rw [← enw]; exact hT0.ref t_this (by decide) (by decide) (by decide)
  have kq : zI σ0 rI = zI σ0 rI := rfl
  obtain ⟨v1, ev1⟩ : ∃ zz9 : Int32, zI σ0 nw 7 = zz9 := ⟨_, rfl⟩
  have qv1 : v1.toInt = (zI σ0 nw 7).toInt := by rw [ev1]
  have znw7 : zI σ0 nw 7 = v1 := ev1
  obtain ⟨v2, ev2⟩ : ∃ zz9 : Int32, zI σ0 nw 8 = zz9 := ⟨_, rfl⟩
  have qv2 : v2.toInt = (zI σ0 nw 8).toInt := by rw [ev2]
  have znw8 : zI σ0 nw 8 = v2 := ev2
  obtain ⟨v3, ev3⟩ : ∃ zz9 : Int32, zI σ0 nw 9 = zz9 := ⟨_, rfl⟩
  have qv3 : v3.toInt = (zI σ0 nw 9).toInt := by rw [ev3]
  have b4 : isB v3 := by have q9 := (hT.P (hT.k tnw (by decide)) (by decide)).2; rw [ev3] at q9; exact q9
  have znw9 : zI σ0 nw 9 = v3 := ev3
  refine lv_iload_n hx hb dX5_save_0 rfl (lv_at hl 1 rfl) ?_
  refine lv_iconst (v := 2) hx hb dX5_save_1 (by decide) ?_
  have hTo := hT
  refine xtSv (n := 2) (As := [.int i, .int 2]) (rest := []) hx hb hml hown hg hT hK hX (X5_needIndex l κ σ0 i 2    hlt) sub_fE_fSv (mwS k610 k611 k84 k612) ⟨rfl, by decide, by decide, by decide +kernel⟩ ⟨(Nat.le_of_ble_eq_true rfl), (Nat.le_of_ble_eq_true rfl)⟩ rfl hl.1 rfl (Nat.le_of_ble_eq_true rfl) dX5_save_2 zroomX.rf (fun E9 ce9 q9 τ9 H9 locs9 hp9 hE9 hT9 hce9 hcv9 hcl9 => by subst hQ9; exact tx_out hT9 ⟨hp9.1, by omega, by rw [erI]; exact funext fun k => trI.eI hE9 (by decide) rfl, (fun a hk => ⟨hk.eI hE9 (by decide) rfl, hk.eI hE9 (by decide) rfl, hk.eI hE9 (by decide) rfl⟩)⟩ hout hlocks hce9 hcv9 hcl9) (fun s6 H locs hφ hEs6 hT => ?_)
  have ev1 : zI s6 nw 7 = v1 := ((hTo.k tnw (by decide)).eI hEs6 (by decide) rfl).trans ev1
  have ev2 : zI s6 nw 8 = v2 := ((hTo.k tnw (by decide)).eI hEs6 (by decide) rfl).trans ev2
  have ev3 : zI s6 nw 9 = v3 := ((hTo.k tnw (by decide)).eI hEs6 (by decide) rfl).trans ev3
  have fr7 : ∀ a : Nat, a ≠ (kR κ rs5 (ix i)) → zk σ0 a 3 → zI s6 a 7 = zI σ0 a 7 ∧ zI s6 a 8 = zI σ0 a 8 ∧ zI s6 a 9 = zI σ0 a 9 := fun a ha hk => ⟨((hTo.k hk (by decide)).eI hEs6 (by decide) rfl).trans ((show ∀ a : Nat, a ≠ (kR κ rs5 (ix i)) → zk σ0 a 3 → zI σ0 a 7 = zI σ0 a 7 ∧ zI σ0 a 8 = zI σ0 a 8 ∧ zI σ0 a 9 = zI σ0 a 9 from fun _ _ _ => ⟨rfl, rfl, rfl⟩) a ha hk).1, ((hTo.k hk (by decide)).eI hEs6 (by decide) rfl).trans ((show ∀ a : Nat, a ≠ (kR κ rs5 (ix i)) → zk σ0 a 3 → zI σ0 a 7 = zI σ0 a 7 ∧ zI σ0 a 8 = zI σ0 a 8 ∧ zI σ0 a 9 = zI σ0 a 9 from fun _ _ _ => ⟨rfl, rfl, rfl⟩) a ha hk).2.1, ((hTo.k hk (by decide)).eI hEs6 (by decide) rfl).trans ((show ∀ a : Nat, a ≠ (kR κ rs5 (ix i)) → zk σ0 a 3 → zI σ0 a 7 = zI σ0 a 7 ∧ zI σ0 a 8 = zI σ0 a 8 ∧ zI σ0 a 9 = zI σ0 a 9 from fun _ _ _ => ⟨rfl, rfl, rfl⟩) a ha hk).2.2⟩
  have Y8 : zI s6 rI = zI σ0 rI := by first | (rw [show zI s6 rI = zI σ0 rI from funext fun k => (hTo.k trI (by decide)).eI hEs6 (by decide) rfl]; exact kq) | rw [show zI s6 rI = zI σ0 rI from funext fun k => (hTo.k trI (by decide)).eI hEs6 (by decide) rfl]
  obtain ⟨f9, f10⟩ := hφ
  refine lv_aload_n hx hb dX5_save_5 rfl (lv_at hl 0 rfl) ?_
  refine va_get (D := κ.1) (ci := 5) (v := .ref (kR κ this 5)) (C := RX5) (T := TX5) (N := 10) hx hb hg inX5 hown hK (hT.o7 (hT.k t_this (by decide))).one 0 rfl rfl 5 (by decide) (hg _ k384) (fun _ h9 => h9) rfl dX5_save_6 ?_
  rw [ers5]
  refine lv_iload_n hx hb dX5_save_9 rfl (lv_at hl 1 rfl) ?_
  refine va_aldq hx hb hK (hT.o12 (hT.k trs5 (by decide))).one 0 6 rfl rfl (g_in (by omega) (by omega)) dX5_save_10 ?_
  obtain ⟨r12, er12⟩ : ∃ z, kR κ rs5 (ix i) = z := ⟨_, rfl⟩
  have tr12 : zk σ0 r12 3 := by rw [← er12]; exact hT0.ref trs5 (by decide) (zR12 (ix_lt (by omega) (by omega))) (by decide)
  refine tv (.ref r12) (by rw [← er12]; rfl) ?_
  refine lv_aload_n hx hb dX5_save_11 rfl (lv_at hl 0 rfl) ?_
  refine va_get (D := κ.1) (ci := 5) (v := .ref (kR κ this 3)) (C := RX5) (T := TX5) (N := 10) hx hb hg inX5 hown hK (hT.o7 (hT.k t_this (by decide))).one 0 rfl rfl 3 (by decide) (hg _ k382) (fun _ h9 => h9) rfl dX5_save_12 ?_
  rw [enw]
  have cz13 : zI s6 nw 7 = v1 := ev1
  have cz14 : zI s6 nw 8 = v2 := ev2
  have cz15 : zI s6 nw 9 = v3 := ev3
  have hTo := hT
  refine tVv (n := 1) (As := [.ref nw]) (rest := []) hx hb hml hown hg hT hK hX (X1t_copyFrom l κ s6 r12 nw  (hT.k tr12 (by decide)) (hT.k tnw (by decide)) ) sub_fCp_fSv (mwV k1123 k1124 k1125 k87 k1126) ⟨rfl, by decide, by decide, by decide +kernel⟩ ⟨(Nat.le_of_ble_eq_true rfl), (Nat.le_of_ble_eq_true rfl)⟩ (hT.o3 (hT.k tr12 (by decide))) rfl rfl hl.1 rfl (Nat.le_of_ble_eq_true rfl) dX5_save_15 zroom.up (fun s17 H locs hφ hEs17 hT => ?_)
  have Y18 : zI s17 rI = zI σ0 rI := by first | (rw [show zI s17 rI = zI s6 rI from funext fun k => (hTo.k trI (by decide)).eI hEs17 (by decide) rfl]; exact Y8) | rw [show zI s17 rI = zI s6 rI from funext fun k => (hTo.k trI (by decide)).eI hEs17 (by decide) rfl]
  obtain ⟨f19, f20, f21, f22⟩ := hφ
  try rw [← er12] at f22
  have fr23 : ∀ a : Nat, a ≠ (kR κ rs5 (ix i)) → zk σ0 a 3 → zI s17 a 7 = zI σ0 a 7 ∧ zI s17 a 8 = zI σ0 a 8 ∧ zI s17 a 9 = zI σ0 a 9 := fun a ha hk => ⟨(f22 a ha (hTo.k hk (by decide))).1.trans (fr7 a ha hk).1, (f22 a ha (hTo.k hk (by decide))).2.1.trans (fr7 a ha hk).2.1, (f22 a ha (hTo.k hk (by decide))).2.2.trans (fr7 a ha hk).2.2⟩
  obtain ⟨v24, ev24⟩ : ∃ zz9 : Int32, zI s17 r12 7 = zz9 := ⟨_, rfl⟩
  have qv24 : v24.toInt = (zI s17 r12 7).toInt := by rw [ev24]
  have vs7 : v24 = zI σ0 nw 7 := ev24.symm.trans (f19.trans (cz13.trans znw7.symm))
  obtain ⟨v25, ev25⟩ : ∃ zz9 : Int32, zI s17 r12 8 = zz9 := ⟨_, rfl⟩
  have qv25 : v25.toInt = (zI s17 r12 8).toInt := by rw [ev25]
  have vs8 : v25 = zI σ0 nw 8 := ev25.symm.trans (f20.trans (cz14.trans znw8.symm))
  obtain ⟨v26, ev26⟩ : ∃ zz9 : Int32, zI s17 r12 9 = zz9 := ⟨_, rfl⟩
  have qv26 : v26.toInt = (zI s17 r12 9).toInt := by rw [ev26]
  have b27 : isB v26 := by have q9 := (hT.P (hT.k tr12 (by decide)) (by decide)).2; rw [ev26] at q9; exact q9
  have vs9 : v26 = zI σ0 nw 9 := ev26.symm.trans (f21.trans (cz15.trans znw9.symm))
  refine lv_aload_n hx hb dX5_save_18 rfl (lv_at hl 0 rfl) ?_
  refine va_get (D := κ.1) (ci := 5) (v := .ref (kR κ this 6)) (C := RX5) (T := TX5) (N := 10) hx hb hg inX5 hown hK (hT.o7 (hT.k t_this (by decide))).one 0 rfl rfl 6 (by decide) (hg _ k385) (fun _ h9 => h9) rfl dX5_save_19 ?_
  rw [erI]
  refine lv_iload_n hx hb dX5_save_22 rfl (lv_at hl 1 rfl) ?_
  refine lv_iconst (v := 1) hx hb dX5_save_23 (by decide) ?_
  have hTo := hT
  refine tastz (n := 2) hx hb hK hT (hT.k trI (by decide)) ⟨by decide, by decide⟩ (fun _ _ _ => rfl) (fun _ _ => trivial) (fun _ => rfl) (by omega) (by omega) dX5_save_24 (fun H locs s28 hus28 hT => ?_)
  have ev24 : zI s28 r12 7 = v24 := (zput_o hus28 (Or.inl ((hTo.k tr12 (by decide)).ne (hTo.k trI (by decide)) (by decide)))).trans ev24
  have ev25 : zI s28 r12 8 = v25 := (zput_o hus28 (Or.inl ((hTo.k tr12 (by decide)).ne (hTo.k trI (by decide)) (by decide)))).trans ev25
  have ev26 : zI s28 r12 9 = v26 := (zput_o hus28 (Or.inl ((hTo.k tr12 (by decide)).ne (hTo.k trI (by decide)) (by decide)))).trans ev26
  have fr29 : ∀ a : Nat, a ≠ (kR κ rs5 (ix i)) → zk σ0 a 3 → zI s28 a 7 = zI σ0 a 7 ∧ zI s28 a 8 = zI σ0 a 8 ∧ zI s28 a 9 = zI σ0 a 9 := fun a ha hk => ⟨(zput_o hus28 (Or.inl ((hTo.k hk (by decide)).ne (hTo.k trI (by decide)) (by decide)))).trans (fr23 a ha hk).1, (zput_o hus28 (Or.inl ((hTo.k hk (by decide)).ne (hTo.k trI (by decide)) (by decide)))).trans (fr23 a ha hk).2.1, (zput_o hus28 (Or.inl ((hTo.k hk (by decide)).ne (hTo.k trI (by decide)) (by decide)))).trans (fr23 a ha hk).2.2⟩
  subst hQ9
  exact vx_ret (t_v hx hb hr hlocks hT ⟨by omega, by omega, (fun j => by rw [erI]; exact (Classical.em (j = ix i)).elim (fun e9 => by rw [if_pos e9, e9, zput_at hus28]; decide) (fun e9 => by rw [if_neg e9, zput_o hus28 (Or.inr e9), Y18])), by rw [ers5, er12, enw]; exact ⟨(show zI s28 r12 7 = v24 from ev24).trans vs7, (show zI s28 r12 8 = v25 from ev25).trans vs8, (show zI s28 r12 9 = v26 from ev26).trans vs9⟩, by rw [ers5]; exact fr29⟩ dX5_save_25)
set_option maxHeartbeats 4000000 in
set_option maxRecDepth 100000 in
theorem X5s_restore (l : Launch) (κ : Kt) (σ0 : Gh) (this : Nat) (i : Int32) (t_this : zk σ0 this 7) (hlt : l.stackTraces = false) : TX l yX5_restore cX5_restore 2 none 7 127 [.ref this, .int i] κ σ0 (tqv κ fCp σ0 (fun (τ : Gh) => (0 ≤ i.toInt) ∧ (i.toInt ≤ 1) ∧ (zI σ0 (kR κ this 6) (ix i) ≠ 0) ∧ (zI τ (kR κ this 3) 7 = zI σ0 (kR κ (kR κ this 5) (ix i)) 7 ∧ zI τ (kR κ this 3) 8 = zI σ0 (kR κ (kR κ this 5) (ix i)) 8 ∧ zI τ (kR κ this 3) 9 = zI σ0 (kR κ (kR κ this 5) (ix i)) 9) ∧ (∀ a : Nat, a ≠ (kR κ this 3) → zk σ0 a 3 → zI τ a 7 = zI σ0 a 7 ∧ zI τ a 8 = zI σ0 a 8 ∧ zI τ a 9 = zI σ0 a 9))) (txq κ fCp σ0 (fun (E : String) (τ : Gh) => (E = "java/lang/IndexOutOfBoundsException" ∧ (i.toInt < 0 ∨ 1 < i.toInt) ∧ ∀ a : Nat, zk σ0 a 3 → zI τ a 7 = zI σ0 a 7 ∧ zI τ a 8 = zI σ0 a 8 ∧ zI τ a 9 = zI σ0 a 9) ∨ (E = "java/util/NoSuchElementException" ∧ 0 ≤ i.toInt ∧ i.toInt ≤ 1 ∧ zI σ0 (kR κ this 6) (ix i) = 0 ∧ ∀ a : Nat, zk σ0 a 3 → zI τ a 7 = zI σ0 a 7 ∧ zI τ a 8 = zI σ0 a 8 ∧ zI τ a 9 = zI σ0 a 9))) := by
  refine TX.of fCp (by decide +kernel) (Nat.le_of_ble_eq_true rfl) ?_
  intro p e s m below meth c ls hcs hout hK hX hT hl
  obtain ⟨hx, hb, hr, hml, hown, hg, hlocks, hin⟩ := hcs
  have hown : s.vm.findClass RX5 = some m.cls := hown
  have hl : lv_has ls 2 [(0, .ref this), (1, .int i)] := hl
  have hT0 := hT
  have n0 : (0 : Int32).toInt = 0 := by decide
  have n2 : (2 : Int32).toInt = 2 := by decide
  have i_lo := Int32.le_toInt i
  have i_hi := Int32.toInt_lt i
  generalize hQ9 : tQX _ _ _ _ _ _ _ = Q9
  obtain ⟨tx, etx⟩ : ∃ z, kR κ this 0 = z := ⟨_, rfl⟩
  have ttx : zk σ0 tx 6 := by rw [← etx]; exact hT0.ref t_this (by decide) (by decide) (by decide)
  have btx := hT0.P ttx (by decide)
  have btxl := btx.1.1
  have btxh := btx.1.2
  obtain ⟨rB, erB⟩ : ∃ z, kR κ tx 0 = z := ⟨_, rfl⟩
  have trB : zk σ0 rB 14 := by rw [← erB]; exact hT0.ref ttx (by decide) (by decide) (by decide)
  obtain ⟨rI, erI⟩ : ∃ z, kR κ this 6 = z := ⟨_, rfl⟩
  have trI : zk σ0 rI 13 := by rw [← erI]; exact hT0.ref t_this (by decide) (by decide) (by decide)
  obtain ⟨rs5, ers5⟩ : ∃ z, kR κ this 5 = z := ⟨_, rfl⟩
  have trs5 : zk σ0 rs5 12 := by rw [← ers5]; exact hT0.ref t_this (by decide) (by decide) (by decide)
  obtain ⟨nw, enw⟩ : ∃ z, kR κ this 3 = z := ⟨_, rfl⟩
  have tnw : zk σ0 nw 3 := by rw [← enw]; exact hT0.ref t_this (by decide) (by decide) (by decide)
  refine lv_iload_n hx hb dX5_restore_0 rfl (lv_at hl 1 rfl) ?_
  refine lv_iconst (v := 2) hx hb dX5_restore_1 (by decide) ?_
  have hTo := hT
  refine xtSv (n := 2) (As := [.int i, .int 2]) (rest := []) hx hb hml hown hg hT hK hX (X5_needIndex l κ σ0 i 2    hlt) sub_fE_fCp (mwS k610 k611 k84 k612) ⟨rfl, by decide, by decide, by decide +kernel⟩ ⟨(Nat.le_of_ble_eq_true rfl), (Nat.le_of_ble_eq_true rfl)⟩ rfl hl.1 rfl (Nat.le_of_ble_eq_true rfl) dX5_restore_2 zroomX.rf (fun E9 ce9 q9 τ9 H9 locs9 hp9 hE9 hT9 hce9 hcv9 hcl9 => by subst hQ9; exact tx_out hT9 (Or.inl ⟨hp9.1, by omega, (fun a hk => ⟨hk.eI hE9 (by decide) rfl, hk.eI hE9 (by decide) rfl, hk.eI hE9 (by decide) rfl⟩)⟩) hout hlocks hce9 hcv9 hcl9) (fun s2 H locs hφ hEs2 hT => ?_)
  have fr3 : ∀ a : Nat, a ≠ nw → zk σ0 a 3 → zI s2 a 7 = zI σ0 a 7 ∧ zI s2 a 8 = zI σ0 a 8 ∧ zI s2 a 9 = zI σ0 a 9 := fun a ha hk => ⟨((hTo.k hk (by decide)).eI hEs2 (by decide) rfl).trans ((show ∀ a : Nat, a ≠ nw → zk σ0 a 3 → zI σ0 a 7 = zI σ0 a 7 ∧ zI σ0 a 8 = zI σ0 a 8 ∧ zI σ0 a 9 = zI σ0 a 9 from fun _ _ _ => ⟨rfl, rfl, rfl⟩) a ha hk).1, ((hTo.k hk (by decide)).eI hEs2 (by decide) rfl).trans ((show ∀ a : Nat, a ≠ nw → zk σ0 a 3 → zI σ0 a 7 = zI σ0 a 7 ∧ zI σ0 a 8 = zI σ0 a 8 ∧ zI σ0 a 9 = zI σ0 a 9 from fun _ _ _ => ⟨rfl, rfl, rfl⟩) a ha hk).2.1, ((hTo.k hk (by decide)).eI hEs2 (by decide) rfl).trans ((show ∀ a : Nat, a ≠ nw → zk σ0 a 3 → zI σ0 a 7 = zI σ0 a 7 ∧ zI σ0 a 8 = zI σ0 a 8 ∧ zI σ0 a 9 = zI σ0 a 9 from fun _ _ _ => ⟨rfl, rfl, rfl⟩) a ha hk).2.2⟩
  obtain ⟨f4, f5⟩ := hφ
  refine lv_aload_n hx hb dX5_restore_5 rfl (lv_at hl 0 rfl) ?_
  refine va_get (D := κ.1) (ci := 5) (v := .ref (kR κ this 6)) (C := RX5) (T := TX5) (N := 10) hx hb hg inX5 hown hK (hT.o7 (hT.k t_this (by decide))).one 0 rfl rfl 6 (by decide) (hg _ k385) (fun _ h9 => h9) rfl dX5_restore_6 ?_
  rw [erI]
  refine lv_iload_n hx hb dX5_restore_9 rfl (lv_at hl 1 rfl) ?_
  refine va_zald hx hb hK (hT.o13 (hT.k trI (by decide))).one 0 3 rfl rfl (g_in (by omega) (by omega)) dX5_restore_10 ?_
  refine lv_topi (fun t6 ht6 => ?_)
  have z7 : t6 = zI σ0 rI (ix i) := by rw [ht6]; exact hT.eI trI (by decide) rfl rfl
  refine lv_if_ne (tgt := 25) hx hb dX5_restore_11 (by decide) (fun c9 => ?_) (fun c9 => ?_)
  · have c1 := gi_ne c9
    refine lv_aload_n hx hb dX5_restore_25 rfl (lv_at hl 0 rfl) ?_
    refine va_get (D := κ.1) (ci := 5) (v := .ref (kR κ this 3)) (C := RX5) (T := TX5) (N := 10) hx hb hg inX5 hown hK (hT.o7 (hT.k t_this (by decide))).one 0 rfl rfl 3 (by decide) (hg _ k382) (fun _ h9 => h9) rfl dX5_restore_26 ?_
    rw [enw]
    refine lv_aload_n hx hb dX5_restore_29 rfl (lv_at hl 0 rfl) ?_
    refine va_get (D := κ.1) (ci := 5) (v := .ref (kR κ this 5)) (C := RX5) (T := TX5) (N := 10) hx hb hg inX5 hown hK (hT.o7 (hT.k t_this (by decide))).one 0 rfl rfl 5 (by decide) (hg _ k384) (fun _ h9 => h9) rfl dX5_restore_30 ?_
    rw [ers5]
    refine lv_iload_n hx hb dX5_restore_33 rfl (lv_at hl 1 rfl) ?_
    refine va_aldq hx hb hK (hT.o12 (hT.k trs5 (by decide))).one 0 6 rfl rfl (g_in (by omega) (by omega)) dX5_restore_34 ?_
    obtain ⟨r9, er9⟩ : ∃ z, kR κ rs5 (ix i) = z := ⟨_, rfl⟩
    have tr9 : zk σ0 r9 3 := by rw [← er9]; exact hT0.ref trs5 (by decide) (zR12 (ix_lt (by omega) (by omega))) (by decide)
    refine tv (.ref r9) (by rw [← er9]; rfl) ?_
    have cz10 : zI s2 r9 7 = zI σ0 r9 7 := tr9.eI hEs2 (by decide) rfl
    have cz11 : zI s2 r9 8 = zI σ0 r9 8 := tr9.eI hEs2 (by decide) rfl
    have cz12 : zI s2 r9 9 = zI σ0 r9 9 := tr9.eI hEs2 (by decide) rfl
    have hTo := hT
    refine tVv (n := 1) (As := [.ref r9]) (rest := []) hx hb hml hown hg hT hK hX (X1t_copyFrom l κ s2 nw r9  (hT.k tnw (by decide)) (hT.k tr9 (by decide)) ) (fun _ _ h => h) (mwV k1123 k1124 k1125 k87 k1126) ⟨rfl, by decide, by decide, by decide +kernel⟩ ⟨(Nat.le_of_ble_eq_true rfl), (Nat.le_of_ble_eq_true rfl)⟩ (hT.o3 (hT.k tnw (by decide))) rfl rfl hl.1 rfl (Nat.le_of_ble_eq_true rfl) dX5_restore_35 zroom.up (fun s14 H locs hφ hEs14 hT => ?_)
    obtain ⟨f15, f16, f17, f18⟩ := hφ
    have fr19 : ∀ a : Nat, a ≠ nw → zk σ0 a 3 → zI s14 a 7 = zI σ0 a 7 ∧ zI s14 a 8 = zI σ0 a 8 ∧ zI s14 a 9 = zI σ0 a 9 := fun a ha hk => ⟨(f18 a ha (hTo.k hk (by decide))).1.trans (fr3 a ha hk).1, (f18 a ha (hTo.k hk (by decide))).2.1.trans (fr3 a ha hk).2.1, (f18 a ha (hTo.k hk (by decide))).2.2.trans (fr3 a ha hk).2.2⟩
    have vs7 : zI s14 nw 7 = zI σ0 r9 7 := f15.trans cz10
    have vs8 : zI s14 nw 8 = zI σ0 r9 8 := f16.trans cz11
    have vs9 : zI s14 nw 9 = zI σ0 r9 9 := f17.trans cz12
    subst hQ9
    exact vx_ret (t_v hx hb hr hlocks hT ⟨by omega, by omega, by rw [erI]; exact b1_of z7 (by omega), by rw [ers5, er9, enw]; exact ⟨vs7, vs8, vs9⟩, by rw [enw]; exact fr19⟩ dX5_restore_38)
  · have c2 := gi_eq c9
    obtain ⟨sa, hsa⟩ := XX_sRX5_317 hX.1
    subst hQ9
    exact tthW_NSEE hx hb hlt hown (hg _ k951) (hg _ k103) hsa hg hX.1 hT (hl.1.trans hml.symm) dX5_restore_14 dX5_restore_17 dX5_restore_18 dX5_restore_21 dX5_restore_24 hout (Nat.le_of_ble_eq_true rfl) (Nat.le_of_ble_eq_true rfl) zroomX.rf hlocks (Or.inr ⟨rfl, by omega, by omega, by rw [erI]; exact b0_of z7 (by omega), (fun a hk => ⟨hk.eI hEs2 (by decide) rfl, hk.eI hEs2 (by decide) rfl, hk.eI hEs2 (by decide) rfl⟩)⟩)

/-! The reference over any state: append, truncate -/
theorem sub_fE_gTr : ∀ t k, gTr t k = false → fE t k = false := by
  intro t k h
  simp [fE, gTr] at h ⊢ <;> omega
theorem sub_gR_gTr : ∀ t k, gTr t k = false → gR t k = false := by
  intro t k h
  simp [gR, gTr] at h ⊢ <;> omega
theorem k36 : Cond.selects RX6 yX6_four yX6_four ∈ GW := gm 36 (by decide +kernel) (by decide +kernel)
theorem k1231 : Cond.fieldLink RX6 34 "LiftingSignalModel" "text" "[I" ∈ GW := gm 1231 (by decide +kernel) (by decide +kernel)
theorem k1232 : Cond.fieldLink RX6 77 "LiftingSignalModel" "length" "I" ∈ GW := gm 1232 (by decide +kernel) (by decide +kernel)
theorem k1309 : Cond.methodLink RX6 80 yX6_four ∈ GW := gm 1309 (by decide +kernel) (by decide +kernel)
theorem k1311 : Cond.instanceMethod yX6_four ∈ GW := gm 1311 (by decide +kernel) (by decide +kernel)
theorem k1312 : Cond.code yX6_four cX6_four 3 none ∈ GW := gm 1312 (by decide +kernel) (by decide +kernel)
theorem dX6_append_0 : decode cX6_append 0 = .ok (.aload_n 0, 1) := by decide +kernel
theorem dX6_append_1 : decode cX6_append 1 = .ok (.iconst 0, 1) := by decide +kernel
theorem dX6_append_2 : decode cX6_append 2 = .ok (.putfield 64, 3) := by decide +kernel
theorem dX6_append_5 : decode cX6_append 5 = .ok (.aload_n 0, 1) := by decide +kernel
theorem dX6_append_6 : decode cX6_append 6 = .ok (.getfield 77, 3) := by decide +kernel
theorem dX6_append_9 : decode cX6_append 9 = .ok (.bipush 20, 2) := by decide +kernel
theorem dX6_append_11 : decode cX6_append 11 = .ok (.iadd, 1) := by decide +kernel
theorem dX6_append_12 : decode cX6_append 12 = .ok (.sipush 700, 3) := by decide +kernel
theorem dX6_append_15 : decode cX6_append 15 = .ok (.if_icmp .le 5, 3) := by decide +kernel
theorem dX6_append_18 : decode cX6_append 18 = .ok (.iconst (-1), 1) := by decide +kernel
theorem dX6_append_19 : decode cX6_append 19 = .ok (.ireturn, 1) := by decide +kernel
theorem dX6_append_20 : decode cX6_append 20 = .ok (.aload_n 0, 1) := by decide +kernel
theorem dX6_append_21 : decode cX6_append 21 = .ok (.iload_n 1, 1) := by decide +kernel
theorem dX6_append_22 : decode cX6_append 22 = .ok (.invokevirtual 80, 3) := by decide +kernel
theorem dX6_append_25 : decode cX6_append 25 = .ok (.aload_n 0, 1) := by decide +kernel
theorem dX6_append_26 : decode cX6_append 26 = .ok (.iload_n 2, 1) := by decide +kernel
theorem dX6_append_27 : decode cX6_append 27 = .ok (.invokevirtual 80, 3) := by decide +kernel
theorem dX6_append_30 : decode cX6_append 30 = .ok (.aload_n 0, 1) := by decide +kernel
theorem dX6_append_31 : decode cX6_append 31 = .ok (.iload_n 3, 1) := by decide +kernel
theorem dX6_append_32 : decode cX6_append 32 = .ok (.invokevirtual 80, 3) := by decide +kernel
theorem dX6_append_35 : decode cX6_append 35 = .ok (.aload_n 0, 1) := by decide +kernel
theorem dX6_append_36 : decode cX6_append 36 = .ok (.iload 4, 2) := by decide +kernel
theorem dX6_append_38 : decode cX6_append 38 = .ok (.invokevirtual 80, 3) := by decide +kernel
theorem dX6_append_41 : decode cX6_append 41 = .ok (.aload_n 0, 1) := by decide +kernel
theorem dX6_append_42 : decode cX6_append 42 = .ok (.iload 5, 2) := by decide +kernel
theorem dX6_append_44 : decode cX6_append 44 = .ok (.invokevirtual 80, 3) := by decide +kernel
theorem dX6_append_47 : decode cX6_append 47 = .ok (.aload_n 0, 1) := by decide +kernel
theorem dX6_append_48 : decode cX6_append 48 = .ok (.getfield 77, 3) := by decide +kernel
theorem dX6_append_51 : decode cX6_append 51 = .ok (.ireturn, 1) := by decide +kernel
theorem dX6_four_0 : decode cX6_four 0 = .ok (.bipush 24, 2) := by decide +kernel
theorem dX6_four_2 : decode cX6_four 2 = .ok (.istore_n 2, 1) := by decide +kernel
theorem dX6_four_3 : decode cX6_four 3 = .ok (.iload_n 2, 1) := by decide +kernel
theorem dX6_four_4 : decode cX6_four 4 = .ok (.ifCond .lt 35, 3) := by decide +kernel
theorem dX6_four_7 : decode cX6_four 7 = .ok (.aload_n 0, 1) := by decide +kernel
theorem dX6_four_8 : decode cX6_four 8 = .ok (.getfield 34, 3) := by decide +kernel
theorem dX6_four_11 : decode cX6_four 11 = .ok (.aload_n 0, 1) := by decide +kernel
theorem dX6_four_12 : decode cX6_four 12 = .ok (.getfield 77, 3) := by decide +kernel
theorem dX6_four_15 : decode cX6_four 15 = .ok (.iload_n 1, 1) := by decide +kernel
theorem dX6_four_16 : decode cX6_four 16 = .ok (.iload_n 2, 1) := by decide +kernel
theorem dX6_four_17 : decode cX6_four 17 = .ok (.ishr, 1) := by decide +kernel
theorem dX6_four_18 : decode cX6_four 18 = .ok (.sipush 255, 3) := by decide +kernel
theorem dX6_four_21 : decode cX6_four 21 = .ok (.iand, 1) := by decide +kernel
theorem dX6_four_22 : decode cX6_four 22 = .ok (.iastore, 1) := by decide +kernel
theorem dX6_four_23 : decode cX6_four 23 = .ok (.aload_n 0, 1) := by decide +kernel
theorem dX6_four_24 : decode cX6_four 24 = .ok (.dup, 1) := by decide +kernel
theorem dX6_four_25 : decode cX6_four 25 = .ok (.getfield 77, 3) := by decide +kernel
theorem dX6_four_28 : decode cX6_four 28 = .ok (.iconst 1, 1) := by decide +kernel
theorem dX6_four_29 : decode cX6_four 29 = .ok (.iadd, 1) := by decide +kernel
theorem dX6_four_30 : decode cX6_four 30 = .ok (.putfield 77, 3) := by decide +kernel
theorem dX6_four_33 : decode cX6_four 33 = .ok (.iinc 2 (-8), 3) := by decide +kernel
theorem dX6_four_36 : decode cX6_four 36 = .ok (.goto (-33), 3) := by decide +kernel
theorem dX6_four_39 : decode cX6_four 39 = .ok (.return_, 1) := by decide +kernel
theorem dX6_thrown_0 : decode cX6_thrown 0 = .ok (.aload_n 0, 1) := by decide +kernel
theorem dX6_thrown_1 : decode cX6_thrown 1 = .ok (.getfield 64, 3) := by decide +kernel
theorem dX6_thrown_4 : decode cX6_thrown 4 = .ok (.ireturn, 1) := by decide +kernel
theorem dX6_truncate_0 : decode cX6_truncate 0 = .ok (.aload_n 0, 1) := by decide +kernel
theorem dX6_truncate_1 : decode cX6_truncate 1 = .ok (.iconst 0, 1) := by decide +kernel
theorem dX6_truncate_2 : decode cX6_truncate 2 = .ok (.putfield 64, 3) := by decide +kernel
theorem dX6_truncate_5 : decode cX6_truncate 5 = .ok (.iload_n 1, 1) := by decide +kernel
theorem dX6_truncate_6 : decode cX6_truncate 6 = .ok (.i2l, 1) := by decide +kernel
theorem dX6_truncate_7 : decode cX6_truncate 7 = .ok (.lconst 0, 1) := by decide +kernel
theorem dX6_truncate_8 : decode cX6_truncate 8 = .ok (.aload_n 0, 1) := by decide +kernel
theorem dX6_truncate_9 : decode cX6_truncate 9 = .ok (.getfield 77, 3) := by decide +kernel
theorem dX6_truncate_12 : decode cX6_truncate 12 = .ok (.i2l, 1) := by decide +kernel
theorem dX6_truncate_13 : decode cX6_truncate 13 = .ok (.invokestatic 84, 3) := by decide +kernel
theorem dX6_truncate_16 : decode cX6_truncate 16 = .ok (.ifCond .ne 9, 3) := by decide +kernel
theorem dX6_truncate_19 : decode cX6_truncate 19 = .ok (.aload_n 0, 1) := by decide +kernel
theorem dX6_truncate_20 : decode cX6_truncate 20 = .ok (.iconst 1, 1) := by decide +kernel
theorem dX6_truncate_21 : decode cX6_truncate 21 = .ok (.invokevirtual 73, 3) := by decide +kernel
theorem dX6_truncate_24 : decode cX6_truncate 24 = .ok (.ireturn, 1) := by decide +kernel
theorem dX6_truncate_25 : decode cX6_truncate 25 = .ok (.aload_n 0, 1) := by decide +kernel
theorem dX6_truncate_26 : decode cX6_truncate 26 = .ok (.iload_n 1, 1) := by decide +kernel
theorem dX6_truncate_27 : decode cX6_truncate 27 = .ok (.putfield 77, 3) := by decide +kernel
theorem dX6_truncate_30 : decode cX6_truncate 30 = .ok (.aload_n 0, 1) := by decide +kernel
theorem dX6_truncate_31 : decode cX6_truncate 31 = .ok (.getfield 77, 3) := by decide +kernel
theorem dX6_truncate_34 : decode cX6_truncate 34 = .ok (.ireturn, 1) := by decide +kernel
set_option maxHeartbeats 4000000 in
set_option maxRecDepth 100000 in
theorem X6_four (l : Launch) (κ : Kt) (σ0 : Gh) (this : Nat) (v : Int32) (t_this : zk σ0 this 20) (h0 : RI κ σ0 this) (h1 : (zI σ0 this 13).toInt ≤ 696) : TC l yX6_four cX6_four 3 none 0 0 [.ref this, .int v] κ σ0 (tqv κ gAp σ0 (fun (τ : Gh) => (RI κ τ this) ∧ ((zI τ this 13).toInt = (zI σ0 this 13).toInt + 4))) := by
  refine TC.of gAp (by decide +kernel) (Nat.le_of_ble_eq_true rfl) ?_
  intro p e s m below meth c ls hcs hK hX hT hl
  obtain ⟨hx, hb, hr, hml, hown, hg, hlocks, hin⟩ := hcs
  have hown : s.vm.findClass RX6 = some m.cls := hown
  have hl : lv_has ls 3 [(0, .ref this), (1, .int v)] := hl
  have hT0 := hT
  have n0 : (0 : Int32).toInt = 0 := by decide
  have n1 : (1 : Int32).toInt = 1 := by decide
  have n24 : (24 : Int32).toInt = 24 := by decide
  have n255 : (255 : Int32).toInt = 255 := by decide
  have v_lo := Int32.le_toInt v
  have v_hi := Int32.toInt_lt v
  generalize hQ9 : tQ _ _ _ _ _ _ = Q9
  obtain ⟨rW, erW⟩ : ∃ z, kR κ this 1 = z := ⟨_, rfl⟩
  have trW : zk σ0 rW 21 := by rw [← erW]; exact h0.1.2.1
  obtain ⟨rP, erP⟩ : ∃ z, kR κ this 5 = z := ⟨_, rfl⟩
  have trP : zk σ0 rP 25 := by rw [← erP]; exact h0.1.2.2.2.2
  have hB0 := h0.b
  rw [erW] at hB0
  have hW := h0.2.1
  rw [erW] at hW
  have hP := h0.2.2.1
  rw [erP] at hP
  have hrN : (rN σ0 this : Int) = (zI σ0 this 7).toInt := by unfold rN; omega
  obtain ⟨v1, ev1⟩ : ∃ zz9 : Int32, zI σ0 this 13 = zz9 := ⟨_, rfl⟩
  have qv1 : v1.toInt = (zI σ0 this 13).toInt := by rw [ev1]
  refine lv_bipush (v := 24) hx hb dX6_four_0 (by decide) ?_
  refine lv_istore_n (lv' := [(2, .int 24), (0, .ref this), (1, .int v)]) hx hb dX6_four_2 rfl hl (by decide) rfl (fun ls hl => ?_)
  have loop3 : ∀ (n9 : Nat) (sh : Int32) (u : Int32) (H : Heap) (locs : List Loc) (sg : Gh) (ls : Array Slot), TS κ gAp σ0 sg s H locs → (zI sg this 13 = u) → (RI κ sg this) → (8 * u.toInt + sh.toInt = 8 * (zI σ0 this 13).toInt + 24) → (-8 ≤ sh.toInt) → (sh.toInt ≤ 24) → lv_has ls 3 [(2, .int sh), (0, .ref this), (1, .int v)] → (sh.toInt + 8) < n9 → tW p l e 0 0 κ s m #[.ref this, .int v] below meth c H locs Q9 (F0 m 3 ls []) := by
    intro n9
    induction n9 with
    | zero =>
      intro sh u H locs sg ls hT kthis_13 RI0 q1 q2 q3 hl hm9
      exfalso
      omega
    | succ n9 ih9 =>
      have ih3 := ih9
      clear ih9
      intro sh u H locs s2 ls hT kthis_13 RI0 q1 q2 q3 hl hm9
      have B3 := RI0.b
      rw [erW] at B3
      have K4 : zI s2 this 7 = zI σ0 this 7 := hT.eI t_this (by decide) rfl rfl
      have K4n : (zI s2 this 7).toInt = (zI σ0 this 7).toInt := by rw [K4]
      have J5 : zJ s2 rW = zJ σ0 rW := funext fun k => hT.eJ trW (by decide) rfl rfl
      have J5n : (zJ s2 (kR κ this 1) 4).toInt = (zJ σ0 rW 4).toInt := by rw [erW, J5]
      have P6 : zI s2 rP = zI σ0 rP := funext fun k => hT.eI trP (by decide) rfl rfl
      try simp only [K4, J5, P6] at B3
      refine lv_iload_n hx hb dX6_four_3 rfl (lv_at hl 0 rfl) ?_
      refine lv_if_lt (tgt := 39) hx hb dX6_four_4 (by decide) (fun c9 => ?_) (fun c9 => ?_)
      · have c1 := gi_lt c9
        have zz7 : (zI s2 this 13).toInt = u.toInt := by rw [kthis_13]
        subst hQ9
        exact t_v hx hb hr hlocks hT ⟨RI0, by omega⟩ dX6_four_39
      · have c2 := gi_nlt c9
        refine lv_aload_n hx hb dX6_four_7 rfl (lv_at hl 1 rfl) ?_
        obtain ⟨r8, er8⟩ : ∃ z, kR κ this 12 = z := ⟨_, rfl⟩
        have tr8 : zk σ0 r8 23 := by rw [← er8]; exact hT0.ref t_this (by decide) (by decide) (by decide)
        refine va_get (D := κ.1) (ci := 6) (v := .ref (kR κ this 12)) (C := RX6) (T := TX6) (N := 27) hx hb hg inX6 hown hK (hT.o20 (hT.k t_this (by decide))).one 0 rfl rfl 12 (by decide) (hg _ k1231) (fun _ h9 => h9) rfl dX6_four_8 ?_
        rw [er8]
        refine lv_aload_n hx hb dX6_four_11 rfl (lv_at hl 1 rfl) ?_
        refine va_get (D := κ.1) (ci := 6) (v := .int (zI s2 this 13)) (C := RX6) (T := TX6) (N := 27) hx hb hg inX6 hown hK (hT.o20 (hT.k t_this (by decide))).one 0 rfl rfl 13 (by decide) (hg _ k1232) (fun _ h9 => h9) rfl dX6_four_12 ?_
        rw [kthis_13]
        refine lv_iload_n hx hb dX6_four_15 rfl (lv_at hl 2 rfl) ?_
        refine lv_iload_n hx hb dX6_four_16 rfl (lv_at hl 0 rfl) ?_
        refine lv_ishr hx hb dX6_four_17 ?_
        refine lv_topi (fun t9 ht9 => ?_)
        refine lv_sipush (v := 255) hx hb dX6_four_18 (by decide) ?_
        refine lv_iand hx hb dX6_four_21 ?_
        refine lv_topi (fun t10 ht10 => ?_)
        have hTo := hT
        refine tasti (n := 700) hx hb hK hT (hT.k tr8 (by decide)) ⟨by decide, by decide⟩ (fun _ _ _ => rfl) (fun _ _ => trivial) (fun _ => rfl) (by omega) (by omega) dX6_four_22 (fun H locs s11 hus11 hT => ?_)
        have kthis_13 : zI s11 this 13 = u := (zput_o hus11 (Or.inl ((hTo.k t_this (by decide)).ne (hTo.k tr8 (by decide)) (by decide)))).trans kthis_13
        have R12 : RI κ s11 this := RI0.put hus11 (hTo.k tr8 (by decide)) ⟨by decide, by decide, fun q => absurd q (by decide)⟩
        have B13 := R12.b
        rw [erW] at B13
        have K14 : zI s11 this 7 = zI σ0 this 7 := hT.eI t_this (by decide) rfl rfl
        have K14n : (zI s11 this 7).toInt = (zI σ0 this 7).toInt := by rw [K14]
        have J15 : zJ s11 rW = zJ σ0 rW := funext fun k => hT.eJ trW (by decide) rfl rfl
        have J15n : (zJ s11 (kR κ this 1) 4).toInt = (zJ σ0 rW 4).toInt := by rw [erW, J15]
        have P16 : zI s11 rP = zI σ0 rP := funext fun k => hT.eI trP (by decide) rfl rfl
        try simp only [K14, J15, P16] at B13
        refine lv_aload_n hx hb dX6_four_23 rfl (lv_at hl 1 rfl) ?_
        refine lv_dup hx hb dX6_four_24 rfl ?_
        refine va_get (D := κ.1) (ci := 6) (v := .int (zI s11 this 13)) (C := RX6) (T := TX6) (N := 27) hx hb hg inX6 hown hK (hT.o20 (hT.k t_this (by decide))).one 0 rfl rfl 13 (by decide) (hg _ k1232) (fun _ h9 => h9) rfl dX6_four_25 ?_
        rw [kthis_13]
        refine lv_iconst (v := 1) hx hb dX6_four_28 (by decide) ?_
        refine lv_iadd hx hb dX6_four_29 ?_
        first | refine g_add (by omega) (by omega) (fun t17 ht17 => ?_) | refine lv_topi (fun t17 ht17 => ?_)
        have hTo := hT
        refine pf20_13 hx hb hg hown hK hT (hT.k t_this (by decide)) rfl (hg _ k1232) dX6_four_30 (fun H locs s18 hus18 hT => ?_)
        have R19 : RI κ s18 this := R12.putL hus18 ⟨by omega, by omega⟩
        have B20 := R19.b
        rw [erW] at B20
        have K21 : zI s18 this 7 = zI σ0 this 7 := hT.eI t_this (by decide) rfl rfl
        have K21n : (zI s18 this 7).toInt = (zI σ0 this 7).toInt := by rw [K21]
        have J22 : zJ s18 rW = zJ σ0 rW := funext fun k => hT.eJ trW (by decide) rfl rfl
        have J22n : (zJ s18 (kR κ this 1) 4).toInt = (zJ σ0 rW 4).toInt := by rw [erW, J22]
        have P23 : zI s18 rP = zI σ0 rP := funext fun k => hT.eI trP (by decide) rfl rfl
        try simp only [K21, J22, P23] at B20
        have e24 : zI s18 this 13 = t17 := zput_at hus18
        obtain ⟨t25, qt25⟩ : ∃ zz9 : Int32, sh + Int32.ofInt (-8) = zz9 := ⟨_, rfl⟩
        refine lv_iinc (v := t25) (lv' := [(2, .int t25), (0, .ref this), (1, .int v)]) hx hb dX6_four_33 hl (k := 0) rfl qt25 (by decide) rfl (fun ls hl => ?_)
        have ht25 : t25.toInt = sh.toInt + (-8) := by rw [← qt25]; exact v_addi rfl (show (Int32.ofInt (-8)).toInt = (-8) from by decide) (by omega) (by omega)
        refine lv_goto (tgt := 3) hx hb dX6_four_36 (by decide) ?_
        exact ih3 t25 t17 _ _ _ _ hT e24 R19 (by omega) (by omega) (by omega) hl (by omega)
  exact loop3 (((24 : Int32).toInt + 8).toNat + 1) 24 v1 _ _ _ _ hT ev1 h0 (by omega) (by omega) (by omega) hl (by omega)
set_option maxHeartbeats 4000000 in
set_option maxRecDepth 100000 in
theorem X6_append (l : Launch) (κ : Kt) (σ0 : Gh) (this : Nat) (x1 : Int32) (x2 : Int32) (x3 : Int32) (x4 : Int32) (x5 : Int32) (t_this : zk σ0 this 20) (h0 : RI κ σ0 this) : TC l yX6_append cX6_append 6 (some .int) 1 22 [.ref this, .int x1, .int x2, .int x3, .int x4, .int x5] κ σ0 (tqi κ gAp σ0 (fun (r : Int32) (τ : Gh) => (RI κ τ this) ∧ (((zI σ0 this 13).toInt + 20 ≤ 700 ∧ r.toInt = (zI σ0 this 13).toInt + 20 ∧ (zI τ this 13).toInt = (zI σ0 this 13).toInt + 20) ∨ (700 < (zI σ0 this 13).toInt + 20 ∧ r.toInt = -1 ∧ (zI τ this 13).toInt = (zI σ0 this 13).toInt)))) := by
  refine TC.of gAp (by decide +kernel) (Nat.le_of_ble_eq_true rfl) ?_
  intro p e s m below meth c ls hcs hK hX hT hl
  obtain ⟨hx, hb, hr, hml, hown, hg, hlocks, hin⟩ := hcs
  have hown : s.vm.findClass RX6 = some m.cls := hown
  have hl : lv_has ls 6 [(0, .ref this), (1, .int x1), (2, .int x2), (3, .int x3), (4, .int x4), (5, .int x5)] := hl
  have hT0 := hT
  have nm1 : ((-1) : Int32).toInt = (-1) := by decide
  have n0 : (0 : Int32).toInt = 0 := by decide
  have n20 : (20 : Int32).toInt = 20 := by decide
  have n700 : (700 : Int32).toInt = 700 := by decide
  have x1_lo := Int32.le_toInt x1
  have x1_hi := Int32.toInt_lt x1
  have x2_lo := Int32.le_toInt x2
  have x2_hi := Int32.toInt_lt x2
  have x3_lo := Int32.le_toInt x3
  have x3_hi := Int32.toInt_lt x3
  have x4_lo := Int32.le_toInt x4
  have x4_hi := Int32.toInt_lt x4
  have x5_lo := Int32.le_toInt x5
  have x5_hi := Int32.toInt_lt x5
  generalize hQ9 : tQ _ _ _ _ _ _ = Q9
  obtain ⟨rW, erW⟩ : ∃ z, kR κ this 1 = z := ⟨_, rfl⟩
  have trW : zk σ0 rW 21 := by rw [← erW]; exact h0.1.2.1
  obtain ⟨rP, erP⟩ : ∃ z, kR κ this 5 = z := ⟨_, rfl⟩
  have trP : zk σ0 rP 25 := by rw [← erP]; exact h0.1.2.2.2.2
  have hB0 := h0.b
  rw [erW] at hB0
  have hW := h0.2.1
  rw [erW] at hW
  have hP := h0.2.2.1
  rw [erP] at hP
  have hrN : (rN σ0 this : Int) = (zI σ0 this 7).toInt := by unfold rN; omega
  obtain ⟨v1, ev1⟩ : ∃ zz9 : Int32, zI σ0 this 13 = zz9 := ⟨_, rfl⟩
  have qv1 : v1.toInt = (zI σ0 this 13).toInt := by rw [ev1]
  refine lv_aload_n hx hb dX6_append_0 rfl (lv_at hl 0 rfl) ?_
  refine lv_iconst (v := 0) hx hb dX6_append_1 (by decide) ?_
  have hTo := hT
  refine pf20_0 hx hb hg hown hK hT (hT.k t_this (by decide)) rfl (hg _ k1219) dX6_append_2 (fun H locs s2 hus2 hT => ?_)
  have ev1 : zI s2 this 13 = v1 := (zput_o hus2 (Or.inr (by decide))).trans ev1
  have R3 : RI κ s2 this := h0.put hus2 (hTo.k t_this (by decide)) (by decide)
  have B4 := R3.b
  rw [erW] at B4
  have K5 : zI s2 this 7 = zI σ0 this 7 := hT.eI t_this (by decide) rfl rfl
  have K5n : (zI s2 this 7).toInt = (zI σ0 this 7).toInt := by rw [K5]
  have J6 : zJ s2 rW = zJ σ0 rW := funext fun k => hT.eJ trW (by decide) rfl rfl
  have J6n : (zJ s2 (kR κ this 1) 4).toInt = (zJ σ0 rW 4).toInt := by rw [erW, J6]
  have P7 : zI s2 rP = zI σ0 rP := funext fun k => hT.eI trP (by decide) rfl rfl
  try simp only [K5, J6, P7] at B4
  have e8 : zI s2 this 0 = 0 := zput_at hus2
  refine lv_aload_n hx hb dX6_append_5 rfl (lv_at hl 0 rfl) ?_
  refine va_get (D := κ.1) (ci := 6) (v := .int (zI s2 this 13)) (C := RX6) (T := TX6) (N := 27) hx hb hg inX6 hown hK (hT.o20 (hT.k t_this (by decide))).one 0 rfl rfl 13 (by decide) (hg _ k1232) (fun _ h9 => h9) rfl dX6_append_6 ?_
  rw [ev1]
  refine lv_bipush (v := 20) hx hb dX6_append_9 (by decide) ?_
  refine lv_iadd hx hb dX6_append_11 ?_
  first | refine g_add (by omega) (by omega) (fun t9 ht9 => ?_) | refine lv_topi (fun t9 ht9 => ?_)
  refine lv_sipush (v := 700) hx hb dX6_append_12 (by decide) ?_
  refine lv_icmp_le (tgt := 20) hx hb dX6_append_15 (by decide) (fun c9 => ?_) (fun c9 => ?_)
  · have c1 := gi_le c9
    refine lv_aload_n hx hb dX6_append_20 rfl (lv_at hl 0 rfl) ?_
    refine lv_iload_n hx hb dX6_append_21 rfl (lv_at hl 1 rfl) ?_
    have qq10 : (zI s2 this 13).toInt = v1.toInt := by rw [ev1]
    have hTo := hT
    refine tVv (n := 1) (As := [.int x1]) (rest := []) hx hb hml hown hg hT hK hX (X6_four l κ s2 this x1  (hT.k t_this (by decide)) R3 (by omega)) (fun _ _ h => h) (mwV k1309 k1311 k36 k92 k1312) ⟨rfl, by decide, by decide, by decide +kernel⟩ ⟨(Nat.le_of_ble_eq_true rfl), (Nat.le_of_ble_eq_true rfl)⟩ (hT.o20 (hT.k t_this (by decide))) rfl rfl hl.1 rfl (Nat.le_of_ble_eq_true rfl) dX6_append_22 zroom.rf (fun s12 H locs hφ hEs12 hT => ?_)
    obtain ⟨f14, f15⟩ := hφ
    have B16 := f14.b
    rw [erW] at B16
    have K17 : zI s12 this 7 = zI σ0 this 7 := hT.eI t_this (by decide) rfl rfl
    have K17n : (zI s12 this 7).toInt = (zI σ0 this 7).toInt := by rw [K17]
    have J18 : zJ s12 rW = zJ σ0 rW := funext fun k => hT.eJ trW (by decide) rfl rfl
    have J18n : (zJ s12 (kR κ this 1) 4).toInt = (zJ σ0 rW 4).toInt := by rw [erW, J18]
    have P19 : zI s12 rP = zI σ0 rP := funext fun k => hT.eI trP (by decide) rfl rfl
    try simp only [K17, J18, P19] at B16
    try simp only [erW, erP, ix_0, ix_1, ix_2, ix_3, ix_4, ix_5, ix_6, ix_7, ix_8, ix_9, K5, J6, P7, K17, J18, P19] at f15
    obtain ⟨v20, ev20⟩ : ∃ zz9 : Int32, zI s12 this 13 = zz9 := ⟨_, rfl⟩
    have qv20 : v20.toInt = (zI s12 this 13).toInt := by rw [ev20]
    refine lv_aload_n hx hb dX6_append_25 rfl (lv_at hl 0 rfl) ?_
    refine lv_iload_n hx hb dX6_append_26 rfl (lv_at hl 2 rfl) ?_
    have qq21 : (zI s12 this 13).toInt = v20.toInt := by rw [ev20]
    have hTo := hT
    refine tVv (n := 1) (As := [.int x2]) (rest := []) hx hb hml hown hg hT hK hX (X6_four l κ s12 this x2  (hT.k t_this (by decide)) f14 (by omega)) (fun _ _ h => h) (mwV k1309 k1311 k36 k92 k1312) ⟨rfl, by decide, by decide, by decide +kernel⟩ ⟨(Nat.le_of_ble_eq_true rfl), (Nat.le_of_ble_eq_true rfl)⟩ (hT.o20 (hT.k t_this (by decide))) rfl rfl hl.1 rfl (Nat.le_of_ble_eq_true rfl) dX6_append_27 zroom.rf (fun s23 H locs hφ hEs23 hT => ?_)
    obtain ⟨f25, f26⟩ := hφ
    have B27 := f25.b
    rw [erW] at B27
    have K28 : zI s23 this 7 = zI σ0 this 7 := hT.eI t_this (by decide) rfl rfl
    have K28n : (zI s23 this 7).toInt = (zI σ0 this 7).toInt := by rw [K28]
    have J29 : zJ s23 rW = zJ σ0 rW := funext fun k => hT.eJ trW (by decide) rfl rfl
    have J29n : (zJ s23 (kR κ this 1) 4).toInt = (zJ σ0 rW 4).toInt := by rw [erW, J29]
    have P30 : zI s23 rP = zI σ0 rP := funext fun k => hT.eI trP (by decide) rfl rfl
    try simp only [K28, J29, P30] at B27
    try simp only [erW, erP, ix_0, ix_1, ix_2, ix_3, ix_4, ix_5, ix_6, ix_7, ix_8, ix_9, K17, J18, P19, K28, J29, P30] at f26
    obtain ⟨v31, ev31⟩ : ∃ zz9 : Int32, zI s23 this 13 = zz9 := ⟨_, rfl⟩
    have qv31 : v31.toInt = (zI s23 this 13).toInt := by rw [ev31]
    refine lv_aload_n hx hb dX6_append_30 rfl (lv_at hl 0 rfl) ?_
    refine lv_iload_n hx hb dX6_append_31 rfl (lv_at hl 3 rfl) ?_
    have qq32 : (zI s23 this 13).toInt = v31.toInt := by rw [ev31]
    have hTo := hT
    refine tVv (n := 1) (As := [.int x3]) (rest := []) hx hb hml hown hg hT hK hX (X6_four l κ s23 this x3  (hT.k t_this (by decide)) f25 (by omega)) (fun _ _ h => h) (mwV k1309 k1311 k36 k92 k1312) ⟨rfl, by decide, by decide, by decide +kernel⟩ ⟨(Nat.le_of_ble_eq_true rfl), (Nat.le_of_ble_eq_true rfl)⟩ (hT.o20 (hT.k t_this (by decide))) rfl rfl hl.1 rfl (Nat.le_of_ble_eq_true rfl) dX6_append_32 zroom.rf (fun s34 H locs hφ hEs34 hT => ?_)
    obtain ⟨f36, f37⟩ := hφ
    have B38 := f36.b
    rw [erW] at B38
    have K39 : zI s34 this 7 = zI σ0 this 7 := hT.eI t_this (by decide) rfl rfl
    have K39n : (zI s34 this 7).toInt = (zI σ0 this 7).toInt := by rw [K39]
    have J40 : zJ s34 rW = zJ σ0 rW := funext fun k => hT.eJ trW (by decide) rfl rfl
    have J40n : (zJ s34 (kR κ this 1) 4).toInt = (zJ σ0 rW 4).toInt := by rw [erW, J40]
    have P41 : zI s34 rP = zI σ0 rP := funext fun k => hT.eI trP (by decide) rfl rfl
    try simp only [K39, J40, P41] at B38
    try simp only [erW, erP, ix_0, ix_1, ix_2, ix_3, ix_4, ix_5, ix_6, ix_7, ix_8, ix_9, K28, J29, P30, K39, J40, P41] at f37
    obtain ⟨v42, ev42⟩ : ∃ zz9 : Int32, zI s34 this 13 = zz9 := ⟨_, rfl⟩
    have qv42 : v42.toInt = (zI s34 this 13).toInt := by rw [ev42]
    refine lv_aload_n hx hb dX6_append_35 rfl (lv_at hl 0 rfl) ?_
    refine lv_iload hx hb dX6_append_36 (lv_at hl 4 rfl) ?_
    have qq43 : (zI s34 this 13).toInt = v42.toInt := by rw [ev42]
    have hTo := hT
    refine tVv (n := 1) (As := [.int x4]) (rest := []) hx hb hml hown hg hT hK hX (X6_four l κ s34 this x4  (hT.k t_this (by decide)) f36 (by omega)) (fun _ _ h => h) (mwV k1309 k1311 k36 k92 k1312) ⟨rfl, by decide, by decide, by decide +kernel⟩ ⟨(Nat.le_of_ble_eq_true rfl), (Nat.le_of_ble_eq_true rfl)⟩ (hT.o20 (hT.k t_this (by decide))) rfl rfl hl.1 rfl (Nat.le_of_ble_eq_true rfl) dX6_append_38 zroom.rf (fun s45 H locs hφ hEs45 hT => ?_)
    obtain ⟨f47, f48⟩ := hφ
    have B49 := f47.b
    rw [erW] at B49
    have K50 : zI s45 this 7 = zI σ0 this 7 := hT.eI t_this (by decide) rfl rfl
    have K50n : (zI s45 this 7).toInt = (zI σ0 this 7).toInt := by rw [K50]
    have J51 : zJ s45 rW = zJ σ0 rW := funext fun k => hT.eJ trW (by decide) rfl rfl
    have J51n : (zJ s45 (kR κ this 1) 4).toInt = (zJ σ0 rW 4).toInt := by rw [erW, J51]
    have P52 : zI s45 rP = zI σ0 rP := funext fun k => hT.eI trP (by decide) rfl rfl
    try simp only [K50, J51, P52] at B49
    try simp only [erW, erP, ix_0, ix_1, ix_2, ix_3, ix_4, ix_5, ix_6, ix_7, ix_8, ix_9, K39, J40, P41, K50, J51, P52] at f48
    obtain ⟨v53, ev53⟩ : ∃ zz9 : Int32, zI s45 this 13 = zz9 := ⟨_, rfl⟩
    have qv53 : v53.toInt = (zI s45 this 13).toInt := by rw [ev53]
    refine lv_aload_n hx hb dX6_append_41 rfl (lv_at hl 0 rfl) ?_
    refine lv_iload hx hb dX6_append_42 (lv_at hl 5 rfl) ?_
    have qq54 : (zI s45 this 13).toInt = v53.toInt := by rw [ev53]
    have hTo := hT
    refine tVv (n := 1) (As := [.int x5]) (rest := []) hx hb hml hown hg hT hK hX (X6_four l κ s45 this x5  (hT.k t_this (by decide)) f47 (by omega)) (fun _ _ h => h) (mwV k1309 k1311 k36 k92 k1312) ⟨rfl, by decide, by decide, by decide +kernel⟩ ⟨(Nat.le_of_ble_eq_true rfl), (Nat.le_of_ble_eq_true rfl)⟩ (hT.o20 (hT.k t_this (by decide))) rfl rfl hl.1 rfl (Nat.le_of_ble_eq_true rfl) dX6_append_44 zroom.rf (fun s56 H locs hφ hEs56 hT => ?_)
    obtain ⟨f58, f59⟩ := hφ
    have B60 := f58.b
    rw [erW] at B60
    have K61 : zI s56 this 7 = zI σ0 this 7 := hT.eI t_this (by decide) rfl rfl
    have K61n : (zI s56 this 7).toInt = (zI σ0 this 7).toInt := by rw [K61]
    have J62 : zJ s56 rW = zJ σ0 rW := funext fun k => hT.eJ trW (by decide) rfl rfl
    have J62n : (zJ s56 (kR κ this 1) 4).toInt = (zJ σ0 rW 4).toInt := by rw [erW, J62]
    have P63 : zI s56 rP = zI σ0 rP := funext fun k => hT.eI trP (by decide) rfl rfl
    try simp only [K61, J62, P63] at B60
    try simp only [erW, erP, ix_0, ix_1, ix_2, ix_3, ix_4, ix_5, ix_6, ix_7, ix_8, ix_9, K50, J51, P52, K61, J62, P63] at f59
    obtain ⟨v64, ev64⟩ : ∃ zz9 : Int32, zI s56 this 13 = zz9 := ⟨_, rfl⟩
    have qv64 : v64.toInt = (zI s56 this 13).toInt := by rw [ev64]
    refine lv_aload_n hx hb dX6_append_47 rfl (lv_at hl 0 rfl) ?_
    refine va_get (D := κ.1) (ci := 6) (v := .int (zI s56 this 13)) (C := RX6) (T := TX6) (N := 27) hx hb hg inX6 hown hK (hT.o20 (hT.k t_this (by decide))).one 0 rfl rfl 13 (by decide) (hg _ k1232) (fun _ h9 => h9) rfl dX6_append_48 ?_
    rw [ev64]
    have zz65 : (zI s56 this 13).toInt = v64.toInt := by rw [ev64]
    subst hQ9
    exact t_i hx hb hr hlocks hT ⟨f58, by omega⟩ dX6_append_51
  · have c2 := gi_nle c9
    refine lv_iconst (v := (-1)) hx hb dX6_append_18 (by decide) ?_
    have zz66 : (zI s2 this 13).toInt = v1.toInt := by rw [ev1]
    subst hQ9
    exact t_i hx hb hr hlocks hT ⟨R3, by omega⟩ dX6_append_19
set_option maxHeartbeats 4000000 in
set_option maxRecDepth 100000 in
theorem X6_truncate (l : Launch) (κ : Kt) (σ0 : Gh) (this : Nat) (x : Int32) (t_this : zk σ0 this 20) (h0 : RI κ σ0 this) : TC l yX6_truncate cX6_truncate 2 (some .int) 1 25 [.ref this, .int x] κ σ0 (tqi κ gTr σ0 (fun (r : Int32) (τ : Gh) => (RI κ τ this) ∧ ((0 ≤ x.toInt ∧ x.toInt ≤ (zI σ0 this 13).toInt ∧ (zI τ this 13).toInt = x.toInt) ∨ ((x.toInt < 0 ∨ (zI σ0 this 13).toInt < x.toInt) ∧ (zI τ this 13).toInt = (zI σ0 this 13).toInt)))) := by
  refine TC.of gTr (by decide +kernel) (Nat.le_of_ble_eq_true rfl) ?_
  intro p e s m below meth c ls hcs hK hX hT hl
  obtain ⟨hx, hb, hr, hml, hown, hg, hlocks, hin⟩ := hcs
  have hown : s.vm.findClass RX6 = some m.cls := hown
  have hl : lv_has ls 2 [(0, .ref this), (1, .int x)] := hl
  have hT0 := hT
  have n0 : (0 : Int32).toInt = 0 := by decide
  have n1 : (1 : Int32).toInt = 1 := by decide
  have j0 : (0 : Int64).toInt = 0 := by decide
  have x_lo := Int32.le_toInt x
  have x_hi := Int32.toInt_lt x
  generalize hQ9 : tQ _ _ _ _ _ _ = Q9
  obtain ⟨rW, erW⟩ : ∃ z, kR κ this 1 = z := ⟨_, rfl⟩
  have trW : zk σ0 rW 21 := by rw [← erW]; exact h0.1.2.1
  obtain ⟨rP, erP⟩ : ∃ z, kR κ this 5 = z := ⟨_, rfl⟩
  have trP : zk σ0 rP 25 := by rw [← erP]; exact h0.1.2.2.2.2
  have hB0 := h0.b
  rw [erW] at hB0
  have hW := h0.2.1
  rw [erW] at hW
  have hP := h0.2.2.1
  rw [erP] at hP
  have hrN : (rN σ0 this : Int) = (zI σ0 this 7).toInt := by unfold rN; omega
  obtain ⟨v1, ev1⟩ : ∃ zz9 : Int32, zI σ0 this 13 = zz9 := ⟨_, rfl⟩
  have qv1 : v1.toInt = (zI σ0 this 13).toInt := by rw [ev1]
  refine lv_aload_n hx hb dX6_truncate_0 rfl (lv_at hl 0 rfl) ?_
  refine lv_iconst (v := 0) hx hb dX6_truncate_1 (by decide) ?_
  have hTo := hT
  refine pf20_0 hx hb hg hown hK hT (hT.k t_this (by decide)) rfl (hg _ k1219) dX6_truncate_2 (fun H locs s2 hus2 hT => ?_)
  have ev1 : zI s2 this 13 = v1 := (zput_o hus2 (Or.inr (by decide))).trans ev1
  have R3 : RI κ s2 this := h0.put hus2 (hTo.k t_this (by decide)) (by decide)
  have B4 := R3.b
  rw [erW] at B4
  have K5 : zI s2 this 7 = zI σ0 this 7 := hT.eI t_this (by decide) rfl rfl
  have K5n : (zI s2 this 7).toInt = (zI σ0 this 7).toInt := by rw [K5]
  have J6 : zJ s2 rW = zJ σ0 rW := funext fun k => hT.eJ trW (by decide) rfl rfl
  have J6n : (zJ s2 (kR κ this 1) 4).toInt = (zJ σ0 rW 4).toInt := by rw [erW, J6]
  have P7 : zI s2 rP = zI σ0 rP := funext fun k => hT.eI trP (by decide) rfl rfl
  try simp only [K5, J6, P7] at B4
  have e8 : zI s2 this 0 = 0 := zput_at hus2
  refine lv_iload_n hx hb dX6_truncate_5 rfl (lv_at hl 1 rfl) ?_
  refine lv_i2l hx hb dX6_truncate_6 rfl ?_
  refine g_i2l (fun t9 ht9 => ?_)
  refine lv_lconst (v := 0) hx hb dX6_truncate_7 (by decide) ?_
  refine lv_aload_n hx hb dX6_truncate_8 rfl (lv_at hl 0 rfl) ?_
  refine va_get (D := κ.1) (ci := 6) (v := .int (zI s2 this 13)) (C := RX6) (T := TX6) (N := 27) hx hb hg inX6 hown hK (hT.o20 (hT.k t_this (by decide))).one 0 rfl rfl 13 (by decide) (hg _ k1232) (fun _ h9 => h9) rfl dX6_truncate_9 ?_
  rw [ev1]
  refine lv_i2l hx hb dX6_truncate_12 rfl ?_
  refine g_i2l (fun t10 ht10 => ?_)
  have hTo := hT
  refine tSi (n := 3) (As := [.long t9, .long 0, .long t10]) (rest := []) hx hb hml hown hg hT hK hX (X6_in l κ s2 t9 0 t10   ) sub_fE_gTr (mwS k1317 k1318 k92 k1319) ⟨rfl, by decide, by decide, by decide +kernel⟩ ⟨(Nat.le_of_ble_eq_true rfl), (Nat.le_of_ble_eq_true rfl)⟩ rfl hl.1 rfl (Nat.le_of_ble_eq_true rfl) dX6_truncate_13 zroom.rf (fun x11 s12 H locs hφ hEs12 hT => ?_)
  have ev1 : zI s12 this 13 = v1 := ((hTo.k t_this (by decide)).eI hEs12 (by decide) rfl).trans ev1
  have e8 : zI s12 this 0 = 0 := ((hTo.k t_this (by decide)).eI hEs12 (by decide) rfl).trans e8
  have R13 : RI κ s12 this := R3.ext hEs12 ⟨rfl, rfl, fun _ => rfl, fun _ => rfl, fun _ => rfl, fun _ => rfl⟩
  have B14 := R13.b
  rw [erW] at B14
  have K15 : zI s12 this 7 = zI σ0 this 7 := hT.eI t_this (by decide) rfl rfl
  have K15n : (zI s12 this 7).toInt = (zI σ0 this 7).toInt := by rw [K15]
  have J16 : zJ s12 rW = zJ σ0 rW := funext fun k => hT.eJ trW (by decide) rfl rfl
  have J16n : (zJ s12 (kR κ this 1) 4).toInt = (zJ σ0 rW 4).toInt := by rw [erW, J16]
  have P17 : zI s12 rP = zI σ0 rP := funext fun k => hT.eI trP (by decide) rfl rfl
  try simp only [K15, J16, P17] at B14
  obtain ⟨f18, f19⟩ := hφ
  try simp only [erW, erP, ix_0, ix_1, ix_2, ix_3, ix_4, ix_5, ix_6, ix_7, ix_8, ix_9, K5, J6, P7, K15, J16, P17] at f18
  refine lv_if_ne (tgt := 25) hx hb dX6_truncate_16 (by decide) (fun c9 => ?_) (fun c9 => ?_)
  · have c1 := gi_ne c9
    refine lv_aload_n hx hb dX6_truncate_25 rfl (lv_at hl 0 rfl) ?_
    refine lv_iload_n hx hb dX6_truncate_26 rfl (lv_at hl 1 rfl) ?_
    have hTo := hT
    refine pf20_13 hx hb hg hown hK hT (hT.k t_this (by decide)) rfl (hg _ k1232) dX6_truncate_27 (fun H locs s20 hus20 hT => ?_)
    have e8 : zI s20 this 0 = 0 := (zput_o hus20 (Or.inr (by decide))).trans e8
    have R21 : RI κ s20 this := R13.putL hus20 ⟨by omega, by omega⟩
    have B22 := R21.b
    rw [erW] at B22
    have K23 : zI s20 this 7 = zI σ0 this 7 := hT.eI t_this (by decide) rfl rfl
    have K23n : (zI s20 this 7).toInt = (zI σ0 this 7).toInt := by rw [K23]
    have J24 : zJ s20 rW = zJ σ0 rW := funext fun k => hT.eJ trW (by decide) rfl rfl
    have J24n : (zJ s20 (kR κ this 1) 4).toInt = (zJ σ0 rW 4).toInt := by rw [erW, J24]
    have P25 : zI s20 rP = zI σ0 rP := funext fun k => hT.eI trP (by decide) rfl rfl
    try simp only [K23, J24, P25] at B22
    have e26 : zI s20 this 13 = x := zput_at hus20
    refine lv_aload_n hx hb dX6_truncate_30 rfl (lv_at hl 0 rfl) ?_
    refine va_get (D := κ.1) (ci := 6) (v := .int (zI s20 this 13)) (C := RX6) (T := TX6) (N := 27) hx hb hg inX6 hown hK (hT.o20 (hT.k t_this (by decide))).one 0 rfl rfl 13 (by decide) (hg _ k1232) (fun _ h9 => h9) rfl dX6_truncate_31 ?_
    rw [e26]
    have zz27 : (zI s20 this 13).toInt = x.toInt := by rw [e26]
    subst hQ9
    exact t_i hx hb hr hlocks hT ⟨R21, by omega⟩ dX6_truncate_34
  · have c2 := gi_eq c9
    refine lv_aload_n hx hb dX6_truncate_19 rfl (lv_at hl 0 rfl) ?_
    refine lv_iconst (v := 1) hx hb dX6_truncate_20 (by decide) ?_
    have hTo := hT
    refine tVi (n := 1) (As := [.int 1]) (rest := []) hx hb hml hown hg hT hK hX (X6_fails l κ s12 this 1  (hT.k t_this (by decide)) R13) sub_gR_gTr (mwV k1320 k1322 k37 k92 k1323) ⟨rfl, by decide, by decide, by decide +kernel⟩ ⟨(Nat.le_of_ble_eq_true rfl), (Nat.le_of_ble_eq_true rfl)⟩ (hT.o20 (hT.k t_this (by decide))) rfl rfl hl.1 rfl (Nat.le_of_ble_eq_true rfl) dX6_truncate_21 zroom.rf (fun x28 s29 H locs hφ hEs29 hT => ?_)
    have ev1 : zI s29 this 13 = v1 := ((hTo.k t_this (by decide)).eI hEs29 (by decide) rfl).trans ev1
    have R30 : RI κ s29 this := R13.ext hEs29 ⟨rfl, rfl, fun _ => rfl, fun _ => rfl, fun _ => rfl, fun _ => rfl⟩
    have B31 := R30.b
    rw [erW] at B31
    have K32 : zI s29 this 7 = zI σ0 this 7 := hT.eI t_this (by decide) rfl rfl
    have K32n : (zI s29 this 7).toInt = (zI σ0 this 7).toInt := by rw [K32]
    have J33 : zJ s29 rW = zJ σ0 rW := funext fun k => hT.eJ trW (by decide) rfl rfl
    have J33n : (zJ s29 (kR κ this 1) 4).toInt = (zJ σ0 rW 4).toInt := by rw [erW, J33]
    have P34 : zI s29 rP = zI σ0 rP := funext fun k => hT.eI trP (by decide) rfl rfl
    try simp only [K32, J33, P34] at B31
    have f35 := hφ
    try simp only [erW, erP, ix_0, ix_1, ix_2, ix_3, ix_4, ix_5, ix_6, ix_7, ix_8, ix_9, K15, J16, P17, K32, J33, P34] at f35
    have zz36 : (zI s29 this 13).toInt = v1.toInt := by rw [ev1]
    subst hQ9
    exact t_i hx hb hr hlocks hT ⟨R30, by omega⟩ dX6_truncate_24
set_option maxHeartbeats 4000000 in
set_option maxRecDepth 100000 in
theorem X6_thrown (l : Launch) (κ : Kt) (σ0 : Gh) (this : Nat) (t_this : zk σ0 this 20) (h0 : RI κ σ0 this) : TC l yX6_thrown cX6_thrown 1 (some .int) 0 0 [.ref this] κ σ0 (tqi κ fE σ0 (fun (r : Int32) (τ : Gh) => (r.toInt = (zI σ0 this 0).toInt))) := by
  refine TC.of fE (by decide +kernel) (Nat.le_of_ble_eq_true rfl) ?_
  intro p e s m below meth c ls hcs hK hX hT hl
  obtain ⟨hx, hb, hr, hml, hown, hg, hlocks, hin⟩ := hcs
  have hown : s.vm.findClass RX6 = some m.cls := hown
  have hl : lv_has ls 1 [(0, .ref this)] := hl
  have hT0 := hT
  generalize hQ9 : tQ _ _ _ _ _ _ = Q9
  obtain ⟨rW, erW⟩ : ∃ z, kR κ this 1 = z := ⟨_, rfl⟩
  have trW : zk σ0 rW 21 := by rw [← erW]; exact h0.1.2.1
  obtain ⟨rP, erP⟩ : ∃ z, kR κ this 5 = z := ⟨_, rfl⟩
  have trP : zk σ0 rP 25 := by rw [← erP]; exact h0.1.2.2.2.2
  have hB0 := h0.b
  rw [erW] at hB0
  have hW := h0.2.1
  rw [erW] at hW
  have hP := h0.2.2.1
  rw [erP] at hP
  have hrN : (rN σ0 this : Int) = (zI σ0 this 7).toInt := by unfold rN; omega
  obtain ⟨v1, ev1⟩ : ∃ zz9 : Int32, zI σ0 this 0 = zz9 := ⟨_, rfl⟩
  have qv1 : v1.toInt = (zI σ0 this 0).toInt := by rw [ev1]
  refine lv_aload_n hx hb dX6_thrown_0 rfl (lv_at hl 0 rfl) ?_
  refine va_get (D := κ.1) (ci := 6) (v := .int (zI σ0 this 0)) (C := RX6) (T := TX6) (N := 27) hx hb hg inX6 hown hK (hT.o20 (hT.k t_this (by decide))).one 0 rfl rfl 0 (by decide) (hg _ k1219) (fun _ h9 => h9) rfl dX6_thrown_1 ?_
  rw [(hT.eI t_this (by decide) rfl ev1)]
  subst hQ9
  exact t_i hx hb hr hlocks hT (by rw [(hT.eI t_this (by decide) rfl ev1)]) dX6_thrown_4

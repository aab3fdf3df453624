/-! The reference over any state: set, reasons, aside -/
theorem k1221 : Cond.fieldLink RX6 13 "LiftingSignalModel" "aside" "[J" ∈ GW := gm 1221 (by decide +kernel) (by decide +kernel)
theorem k1234 : Cond.fieldLink RX6 95 "LiftingSignalModel" "errorCode" "I" ∈ GW := gm 1234 (by decide +kernel) (by decide +kernel)
theorem k1235 : Cond.fieldLink RX6 37 "LiftingSignalModel" "errorPosition" "I" ∈ GW := gm 1235 (by decide +kernel) (by decide +kernel)
theorem k1567 : Cond.constantLong RX6 290 (-9999) ∈ GW := gm 1567 (by decide +kernel) (by decide +kernel)
theorem dX6_errorCode_0 : decode cX6_errorCode 0 = .ok (.aload_n 0, 1) := by decide +kernel
theorem dX6_errorCode_1 : decode cX6_errorCode 1 = .ok (.iconst 0, 1) := by decide +kernel
theorem dX6_errorCode_2 : decode cX6_errorCode 2 = .ok (.putfield 64, 3) := by decide +kernel
theorem dX6_errorCode_5 : decode cX6_errorCode 5 = .ok (.aload_n 0, 1) := by decide +kernel
theorem dX6_errorCode_6 : decode cX6_errorCode 6 = .ok (.getfield 95, 3) := by decide +kernel
theorem dX6_errorCode_9 : decode cX6_errorCode 9 = .ok (.ireturn, 1) := by decide +kernel
theorem dX6_errorPosition_0 : decode cX6_errorPosition 0 = .ok (.aload_n 0, 1) := by decide +kernel
theorem dX6_errorPosition_1 : decode cX6_errorPosition 1 = .ok (.iconst 0, 1) := by decide +kernel
theorem dX6_errorPosition_2 : decode cX6_errorPosition 2 = .ok (.putfield 64, 3) := by decide +kernel
theorem dX6_errorPosition_5 : decode cX6_errorPosition 5 = .ok (.aload_n 0, 1) := by decide +kernel
theorem dX6_errorPosition_6 : decode cX6_errorPosition 6 = .ok (.getfield 37, 3) := by decide +kernel
theorem dX6_errorPosition_9 : decode cX6_errorPosition 9 = .ok (.ireturn, 1) := by decide +kernel
theorem dX6_puts_0 : decode cX6_puts 0 = .ok (.iconst 0, 1) := by decide +kernel
theorem dX6_puts_1 : decode cX6_puts 1 = .ok (.istore_n 1, 1) := by decide +kernel
theorem dX6_puts_2 : decode cX6_puts 2 = .ok (.iload_n 1, 1) := by decide +kernel
theorem dX6_puts_3 : decode cX6_puts 3 = .ok (.sipush 609, 3) := by decide +kernel
theorem dX6_puts_6 : decode cX6_puts 6 = .ok (.if_icmp .ge 21, 3) := by decide +kernel
theorem dX6_puts_9 : decode cX6_puts 9 = .ok (.aload_n 0, 1) := by decide +kernel
theorem dX6_puts_10 : decode cX6_puts 10 = .ok (.getfield 13, 3) := by decide +kernel
theorem dX6_puts_13 : decode cX6_puts 13 = .ok (.iload_n 1, 1) := by decide +kernel
theorem dX6_puts_14 : decode cX6_puts 14 = .ok (.aload_n 0, 1) := by decide +kernel
theorem dX6_puts_15 : decode cX6_puts 15 = .ok (.getfield 7, 3) := by decide +kernel
theorem dX6_puts_18 : decode cX6_puts 18 = .ok (.iload_n 1, 1) := by decide +kernel
theorem dX6_puts_19 : decode cX6_puts 19 = .ok (.laload, 1) := by decide +kernel
theorem dX6_puts_20 : decode cX6_puts 20 = .ok (.lastore, 1) := by decide +kernel
theorem dX6_puts_21 : decode cX6_puts 21 = .ok (.iinc 1 1, 3) := by decide +kernel
theorem dX6_puts_24 : decode cX6_puts 24 = .ok (.goto (-22), 3) := by decide +kernel
theorem dX6_puts_27 : decode cX6_puts 27 = .ok (.return_, 1) := by decide +kernel
theorem dX6_reason_0 : decode cX6_reason 0 = .ok (.aload_n 0, 1) := by decide +kernel
theorem dX6_reason_1 : decode cX6_reason 1 = .ok (.iload_n 1, 1) := by decide +kernel
theorem dX6_reason_2 : decode cX6_reason 2 = .ok (.i2l, 1) := by decide +kernel
theorem dX6_reason_3 : decode cX6_reason 3 = .ok (.lconst 0, 1) := by decide +kernel
theorem dX6_reason_4 : decode cX6_reason 4 = .ok (.lconst 1, 1) := by decide +kernel
theorem dX6_reason_5 : decode cX6_reason 5 = .ok (.invokestatic 84, 3) := by decide +kernel
theorem dX6_reason_8 : decode cX6_reason 8 = .ok (.ifCond .eq 7, 3) := by decide +kernel
theorem dX6_reason_11 : decode cX6_reason 11 = .ok (.iconst 0, 1) := by decide +kernel
theorem dX6_reason_12 : decode cX6_reason 12 = .ok (.goto 4, 3) := by decide +kernel
theorem dX6_reason_15 : decode cX6_reason 15 = .ok (.iconst 1, 1) := by decide +kernel
theorem dX6_reason_16 : decode cX6_reason 16 = .ok (.putfield 64, 3) := by decide +kernel
theorem dX6_reason_19 : decode cX6_reason 19 = .ok (.aload_n 0, 1) := by decide +kernel
theorem dX6_reason_20 : decode cX6_reason 20 = .ok (.getfield 64, 3) := by decide +kernel
theorem dX6_reason_23 : decode cX6_reason 23 = .ok (.ifCond .le 7, 3) := by decide +kernel
theorem dX6_reason_26 : decode cX6_reason 26 = .ok (.iconst 0, 1) := by decide +kernel
theorem dX6_reason_27 : decode cX6_reason 27 = .ok (.goto 18, 3) := by decide +kernel
theorem dX6_reason_30 : decode cX6_reason 30 = .ok (.iload_n 1, 1) := by decide +kernel
theorem dX6_reason_31 : decode cX6_reason 31 = .ok (.ifCond .ne 10, 3) := by decide +kernel
theorem dX6_reason_34 : decode cX6_reason 34 = .ok (.aload_n 0, 1) := by decide +kernel
theorem dX6_reason_35 : decode cX6_reason 35 = .ok (.getfield 67, 3) := by decide +kernel
theorem dX6_reason_38 : decode cX6_reason 38 = .ok (.goto 7, 3) := by decide +kernel
theorem dX6_reason_41 : decode cX6_reason 41 = .ok (.aload_n 0, 1) := by decide +kernel
theorem dX6_reason_42 : decode cX6_reason 42 = .ok (.getfield 70, 3) := by decide +kernel
theorem dX6_reason_45 : decode cX6_reason 45 = .ok (.ireturn, 1) := by decide +kernel
theorem dX6_reasonSample_0 : decode cX6_reasonSample 0 = .ok (.aload_n 0, 1) := by decide +kernel
theorem dX6_reasonSample_1 : decode cX6_reasonSample 1 = .ok (.iconst 0, 1) := by decide +kernel
theorem dX6_reasonSample_2 : decode cX6_reasonSample 2 = .ok (.putfield 64, 3) := by decide +kernel
theorem dX6_reasonSample_5 : decode cX6_reasonSample 5 = .ok (.aload_n 0, 1) := by decide +kernel
theorem dX6_reasonSample_6 : decode cX6_reasonSample 6 = .ok (.getfield 30, 3) := by decide +kernel
theorem dX6_reasonSample_9 : decode cX6_reasonSample 9 = .ok (.ireturn, 1) := by decide +kernel
theorem dX6_set_0 : decode cX6_set 0 = .ok (.aload_n 0, 1) := by decide +kernel
theorem dX6_set_1 : decode cX6_set 1 = .ok (.aload_n 0, 1) := by decide +kernel
theorem dX6_set_2 : decode cX6_set 2 = .ok (.iload_n 1, 1) := by decide +kernel
theorem dX6_set_3 : decode cX6_set 3 = .ok (.invokevirtual 205, 3) := by decide +kernel
theorem dX6_set_6 : decode cX6_set 6 = .ok (.ifCond .ne 7, 3) := by decide +kernel
theorem dX6_set_9 : decode cX6_set 9 = .ok (.iconst 1, 1) := by decide +kernel
theorem dX6_set_10 : decode cX6_set 10 = .ok (.goto 22, 3) := by decide +kernel
theorem dX6_set_13 : decode cX6_set 13 = .ok (.iload_n 2, 1) := by decide +kernel
theorem dX6_set_14 : decode cX6_set 14 = .ok (.i2l, 1) := by decide +kernel
theorem dX6_set_15 : decode cX6_set 15 = .ok (.ldc2_w 290, 3) := by decide +kernel
theorem dX6_set_18 : decode cX6_set 18 = .ok (.ldc2_w 292, 3) := by decide +kernel
theorem dX6_set_21 : decode cX6_set 21 = .ok (.invokestatic 84, 3) := by decide +kernel
theorem dX6_set_24 : decode cX6_set 24 = .ok (.ifCond .eq 7, 3) := by decide +kernel
theorem dX6_set_27 : decode cX6_set 27 = .ok (.iconst 0, 1) := by decide +kernel
theorem dX6_set_28 : decode cX6_set 28 = .ok (.goto 4, 3) := by decide +kernel
theorem dX6_set_31 : decode cX6_set 31 = .ok (.iconst 2, 1) := by decide +kernel
theorem dX6_set_32 : decode cX6_set 32 = .ok (.putfield 64, 3) := by decide +kernel
theorem dX6_set_35 : decode cX6_set 35 = .ok (.aload_n 0, 1) := by decide +kernel
theorem dX6_set_36 : decode cX6_set 36 = .ok (.getfield 64, 3) := by decide +kernel
theorem dX6_set_39 : decode cX6_set 39 = .ok (.ifCond .le 5, 3) := by decide +kernel
theorem dX6_set_42 : decode cX6_set 42 = .ok (.lconst 0, 1) := by decide +kernel
theorem dX6_set_43 : decode cX6_set 43 = .ok (.lreturn, 1) := by decide +kernel
theorem dX6_set_44 : decode cX6_set 44 = .ok (.aload_n 0, 1) := by decide +kernel
theorem dX6_set_45 : decode cX6_set 45 = .ok (.iload_n 1, 1) := by decide +kernel
theorem dX6_set_46 : decode cX6_set 46 = .ok (.invokevirtual 202, 3) := by decide +kernel
theorem dX6_set_49 : decode cX6_set 49 = .ok (.ifCond .ne 14, 3) := by decide +kernel
theorem dX6_set_52 : decode cX6_set 52 = .ok (.aload_n 0, 1) := by decide +kernel
theorem dX6_set_53 : decode cX6_set 53 = .ok (.iconst 3, 1) := by decide +kernel
theorem dX6_set_54 : decode cX6_set 54 = .ok (.bipush 6, 2) := by decide +kernel
theorem dX6_set_56 : decode cX6_set 56 = .ok (.iconst 4, 1) := by decide +kernel
theorem dX6_set_57 : decode cX6_set 57 = .ok (.iload_n 1, 1) := by decide +kernel
theorem dX6_set_58 : decode cX6_set 58 = .ok (.invokevirtual 294, 3) := by decide +kernel
theorem dX6_set_61 : decode cX6_set 61 = .ok (.i2l, 1) := by decide +kernel
theorem dX6_set_62 : decode cX6_set 62 = .ok (.lreturn, 1) := by decide +kernel
theorem dX6_set_63 : decode cX6_set 63 = .ok (.aload_n 0, 1) := by decide +kernel
theorem dX6_set_64 : decode cX6_set 64 = .ok (.getfield 7, 3) := by decide +kernel
theorem dX6_set_67 : decode cX6_set 67 = .ok (.iconst 5, 1) := by decide +kernel
theorem dX6_set_68 : decode cX6_set 68 = .ok (.iload_n 1, 1) := by decide +kernel
theorem dX6_set_69 : decode cX6_set 69 = .ok (.iadd, 1) := by decide +kernel
theorem dX6_set_70 : decode cX6_set 70 = .ok (.laload, 1) := by decide +kernel
theorem dX6_set_71 : decode cX6_set 71 = .ok (.lstore_n 3, 1) := by decide +kernel
theorem dX6_set_72 : decode cX6_set 72 = .ok (.aload_n 0, 1) := by decide +kernel
theorem dX6_set_73 : decode cX6_set 73 = .ok (.getfield 7, 3) := by decide +kernel
theorem dX6_set_76 : decode cX6_set 76 = .ok (.iconst 5, 1) := by decide +kernel
theorem dX6_set_77 : decode cX6_set 77 = .ok (.iload_n 1, 1) := by decide +kernel
theorem dX6_set_78 : decode cX6_set 78 = .ok (.iadd, 1) := by decide +kernel
theorem dX6_set_79 : decode cX6_set 79 = .ok (.iload_n 2, 1) := by decide +kernel
theorem dX6_set_80 : decode cX6_set 80 = .ok (.i2l, 1) := by decide +kernel
theorem dX6_set_81 : decode cX6_set 81 = .ok (.lastore, 1) := by decide +kernel
theorem dX6_set_82 : decode cX6_set 82 = .ok (.lload_n 3, 1) := by decide +kernel
theorem dX6_set_83 : decode cX6_set 83 = .ok (.lreturn, 1) := by decide +kernel
set_option maxHeartbeats 4000000 in
set_option maxRecDepth 100000 in
theorem X6_set (l : Launch) (κ : Kt) (σ0 : Gh) (this : Nat) (i : Int32) (v : Int32) (t_this : zk σ0 this 20) (h0 : RI κ σ0 this) : TC l yX6_set cX6_set 5 (some .long) 2 46 [.ref this, .int i, .int v] κ σ0 (tql κ gX σ0 (fun (r : Int64) (τ : Gh) => (RI κ τ this))) := by
  refine TC.of gX (by decide +kernel) (Nat.le_of_ble_eq_true rfl) ?_
  intro p e s m below meth c ls hcs hK hX hT hl
  obtain ⟨hx, hb, hr, hml, hown, hg, hlocks, hin⟩ := hcs
  have hown : s.vm.findClass RX6 = some m.cls := hown
  have hl : lv_has ls 5 [(0, .ref this), (1, .int i), (2, .int v)] := hl
  have hT0 := hT
  have n0 : (0 : Int32).toInt = 0 := by decide
  have n1 : (1 : Int32).toInt = 1 := by decide
  have n2 : (2 : Int32).toInt = 2 := by decide
  have n3 : (3 : Int32).toInt = 3 := by decide
  have n4 : (4 : Int32).toInt = 4 := by decide
  have n5 : (5 : Int32).toInt = 5 := by decide
  have n6 : (6 : Int32).toInt = 6 := by decide
  have jm9999 : ((-9999) : Int64).toInt = (-9999) := by decide
  have j0 : (0 : Int64).toInt = 0 := by decide
  have j9999 : (9999 : Int64).toInt = 9999 := by decide
  have i_lo := Int32.le_toInt i
  have i_hi := Int32.toInt_lt i
  have v_lo := Int32.le_toInt v
  have v_hi := Int32.toInt_lt v
  generalize hQ9 : tQ _ _ _ _ _ _ = Q9
  obtain ⟨rW, erW⟩ : ∃ z, kR κ this 1 = z := ⟨_, rfl⟩
  have trW : zk σ0 rW 21 := by rw [← erW]; exact h0.1.2.1
  obtain ⟨rP, erP⟩ : ∃ z, kR κ this 5 = z := ⟨_, rfl⟩
  have trP : zk σ0 rP 25 := by rw [← erP]; exact h0.1.2.2.2.2
  have hB0 := h0.b
  rw [erW] at hB0
  have hW := h0.2.1
  rw [erW] at hW
  have hP := h0.2.2.1
  rw [erP] at hP
  have hrN : (rN σ0 this : Int) = (zI σ0 this 7).toInt := by unfold rN; omega
  refine lv_aload_n hx hb dX6_set_0 rfl (lv_at hl 0 rfl) ?_
  refine lv_aload_n hx hb dX6_set_1 rfl (lv_at hl 0 rfl) ?_
  refine lv_iload_n hx hb dX6_set_2 rfl (lv_at hl 1 rfl) ?_
  have hTo := hT
  refine tVi (n := 1) (As := [.int i]) (rest := [.ref this]) hx hb hml hown hg hT hK hX (X6_isSample l κ σ0 this i  (hT.k t_this (by decide)) h0) sub_fE_gX (mwV k1440 k1442 k57 k92 k1443) ⟨rfl, by decide, by decide, by decide +kernel⟩ ⟨(Nat.le_of_ble_eq_true rfl), (Nat.le_of_ble_eq_true rfl)⟩ (hT.o20 (hT.k t_this (by decide))) rfl rfl hl.1 rfl (Nat.le_of_ble_eq_true rfl) dX6_set_3 zroom.rf (fun x1 s2 H locs hφ hEs2 hT => ?_)
  have R3 : RI κ s2 this := h0.ext hEs2 ⟨rfl, rfl, fun _ => rfl, fun _ => rfl, fun _ => rfl, fun _ => rfl⟩
  have B4 := R3.b
  rw [erW] at B4
  have K5 : zI s2 this 7 = zI σ0 this 7 := hT.eI t_this (by decide) rfl rfl
  have K5n : (zI s2 this 7).toInt = (zI σ0 this 7).toInt := by rw [K5]
  have P6 : zI s2 rP = zI σ0 rP := funext fun k => hT.eI trP (by decide) rfl rfl
  try simp only [K5, P6] at B4
  obtain ⟨f7, f8⟩ := hφ
  try simp only [erW, erP, ix_0, ix_1, ix_2, ix_3, ix_4, ix_5, ix_6, ix_7, ix_8, ix_9, K5, P6] at f7
  refine lv_if_ne (tgt := 13) hx hb dX6_set_6 (by decide) (fun c9 => ?_) (fun c9 => ?_)
  · have c1 := gi_ne c9
    refine lv_iload_n hx hb dX6_set_13 rfl (lv_at hl 2 rfl) ?_
    refine lv_i2l hx hb dX6_set_14 rfl ?_
    refine g_i2l (fun t9 ht9 => ?_)
    refine lv_ldc2 hx hb hown (hg _ k1567) dX6_set_15 ?_
    refine lv_ldc2 hx hb hown (hg _ k1568) dX6_set_18 ?_
    have hTo := hT
    refine tSi (n := 3) (As := [.long t9, .long (-9999), .long 9999]) (rest := [.ref this]) hx hb hml hown hg hT hK hX (X6_in l κ s2 t9 (-9999) 9999   ) sub_fE_gX (mwS k1317 k1318 k92 k1319) ⟨rfl, by decide, by decide, by decide +kernel⟩ ⟨(Nat.le_of_ble_eq_true rfl), (Nat.le_of_ble_eq_true rfl)⟩ rfl hl.1 rfl (Nat.le_of_ble_eq_true rfl) dX6_set_21 zroom.rf (fun x10 s11 H locs hφ hEs11 hT => ?_)
    have R12 : RI κ s11 this := R3.ext hEs11 ⟨rfl, rfl, fun _ => rfl, fun _ => rfl, fun _ => rfl, fun _ => rfl⟩
    have B13 := R12.b
    rw [erW] at B13
    have K14 : zI s11 this 7 = zI σ0 this 7 := hT.eI t_this (by decide) rfl rfl
    have K14n : (zI s11 this 7).toInt = (zI σ0 this 7).toInt := by rw [K14]
    have P15 : zI s11 rP = zI σ0 rP := funext fun k => hT.eI trP (by decide) rfl rfl
    try simp only [K14, P15] at B13
    obtain ⟨f16, f17⟩ := hφ
    try simp only [erW, erP, ix_0, ix_1, ix_2, ix_3, ix_4, ix_5, ix_6, ix_7, ix_8, ix_9, K5, P6, K14, P15] at f16
    refine lv_if_eq (tgt := 31) hx hb dX6_set_24 (by decide) (fun c9 => ?_) (fun c9 => ?_)
    · have c2 := gi_eq c9
      refine lv_iconst (v := 2) hx hb dX6_set_31 (by decide) ?_
      have hTo := hT
      refine pf20_0 hx hb hg hown hK hT (hT.k t_this (by decide)) rfl (hg _ k1219) dX6_set_32 (fun H locs s18 hus18 hT => ?_)
      have R19 : RI κ s18 this := R12.put hus18 (hTo.k t_this (by decide)) (by decide)
      have B20 := R19.b
      rw [erW] at B20
      have K21 : zI s18 this 7 = zI σ0 this 7 := hT.eI t_this (by decide) rfl rfl
      have K21n : (zI s18 this 7).toInt = (zI σ0 this 7).toInt := by rw [K21]
      have P22 : zI s18 rP = zI σ0 rP := funext fun k => hT.eI trP (by decide) rfl rfl
      try simp only [K21, P22] at B20
      have e23 : zI s18 this 0 = 2 := zput_at hus18
      refine lv_aload_n hx hb dX6_set_35 rfl (lv_at hl 0 rfl) ?_
      refine va_get (D := κ.1) (ci := 6) (v := .int (zI s18 this 0)) (C := RX6) (T := TX6) (N := 27) hx hb hg inX6 hown hK (hT.o20 (hT.k t_this (by decide))).one 0 rfl rfl 0 (by decide) (hg _ k1219) (fun _ h9 => h9) rfl dX6_set_36 ?_
      rw [e23]
      refine lv_if_le (tgt := 44) hx hb dX6_set_39 (by decide) (fun c9 => absurd c9 (by decide)) (fun _ => ?_)
      refine lv_lconst (v := 0) hx hb dX6_set_42 (by decide) ?_
      subst hQ9
      exact t_l hx hb hr hlocks hT R19 dX6_set_43
    · have c3 := gi_ne c9
      refine lv_iconst (v := 0) hx hb dX6_set_27 (by decide) ?_
      refine lv_goto (tgt := 32) hx hb dX6_set_28 (by decide) ?_
      have hTo := hT
      refine pf20_0 hx hb hg hown hK hT (hT.k t_this (by decide)) rfl (hg _ k1219) dX6_set_32 (fun H locs s24 hus24 hT => ?_)
      have R25 : RI κ s24 this := R12.put hus24 (hTo.k t_this (by decide)) (by decide)
      have B26 := R25.b
      rw [erW] at B26
      have K27 : zI s24 this 7 = zI σ0 this 7 := hT.eI t_this (by decide) rfl rfl
      have K27n : (zI s24 this 7).toInt = (zI σ0 this 7).toInt := by rw [K27]
      have P28 : zI s24 rP = zI σ0 rP := funext fun k => hT.eI trP (by decide) rfl rfl
      try simp only [K27, P28] at B26
      have e29 : zI s24 this 0 = 0 := zput_at hus24
      refine lv_aload_n hx hb dX6_set_35 rfl (lv_at hl 0 rfl) ?_
      refine va_get (D := κ.1) (ci := 6) (v := .int (zI s24 this 0)) (C := RX6) (T := TX6) (N := 27) hx hb hg inX6 hown hK (hT.o20 (hT.k t_this (by decide))).one 0 rfl rfl 0 (by decide) (hg _ k1219) (fun _ h9 => h9) rfl dX6_set_36 ?_
      rw [e29]
      refine lv_if_le (tgt := 44) hx hb dX6_set_39 (by decide) (fun _ => ?_) (fun c9 => absurd (by decide) c9)
      refine lv_aload_n hx hb dX6_set_44 rfl (lv_at hl 0 rfl) ?_
      refine lv_iload_n hx hb dX6_set_45 rfl (lv_at hl 1 rfl) ?_
      have hTo := hT
      refine tVi (n := 1) (As := [.int i]) (rest := []) hx hb hml hown hg hT hK hX (X6_isPresent l κ s24 this i  (hT.k t_this (by decide)) R25 (by omega) (by omega)) sub_fE_gX (mwV k1432 k1434 k56 k92 k1435) ⟨rfl, by decide, by decide, by decide +kernel⟩ ⟨(Nat.le_of_ble_eq_true rfl), (Nat.le_of_ble_eq_true rfl)⟩ (hT.o20 (hT.k t_this (by decide))) rfl rfl hl.1 rfl (Nat.le_of_ble_eq_true rfl) dX6_set_46 zroom.rf (fun x30 s31 H locs hφ hEs31 hT => ?_)
      have e29 : zI s31 this 0 = 0 := ((hTo.k t_this (by decide)).eI hEs31 (by decide) rfl).trans e29
      have R32 : RI κ s31 this := R25.ext hEs31 ⟨rfl, rfl, fun _ => rfl, fun _ => rfl, fun _ => rfl, fun _ => rfl⟩
      have B33 := R32.b
      rw [erW] at B33
      have K34 : zI s31 this 7 = zI σ0 this 7 := hT.eI t_this (by decide) rfl rfl
      have K34n : (zI s31 this 7).toInt = (zI σ0 this 7).toInt := by rw [K34]
      have P35 : zI s31 rP = zI σ0 rP := funext fun k => hT.eI trP (by decide) rfl rfl
      try simp only [K34, P35] at B33
      obtain ⟨f36, f37⟩ := hφ
      try simp only [erW, erP, ix_0, ix_1, ix_2, ix_3, ix_4, ix_5, ix_6, ix_7, ix_8, ix_9, K27, P28, K34, P35] at f36
      refine lv_if_ne (tgt := 63) hx hb dX6_set_49 (by decide) (fun c9 => ?_) (fun c9 => ?_)
      · have c4 := gi_ne c9
        refine lv_aload_n hx hb dX6_set_63 rfl (lv_at hl 0 rfl) ?_
        refine va_get (D := κ.1) (ci := 6) (v := .ref (kR κ this 1)) (C := RX6) (T := TX6) (N := 27) hx hb hg inX6 hown hK (hT.o20 (hT.k t_this (by decide))).one 0 rfl rfl 1 (by decide) (hg _ k1220) (fun _ h9 => h9) rfl dX6_set_64 ?_
        rw [erW]
        refine lv_iconst (v := 5) hx hb dX6_set_67 (by decide) ?_
        refine lv_iload_n hx hb dX6_set_68 rfl (lv_at hl 1 rfl) ?_
        refine lv_iadd hx hb dX6_set_69 ?_
        first | refine g_add (by omega) (by omega) (fun t38 ht38 => ?_) | refine lv_topi (fun t38 ht38 => ?_)
        refine va_lald hx hb hK (hT.o21 (hT.k trW (by decide))).one 0 1 rfl rfl (g_in (by omega) (by omega)) dX6_set_70 ?_
        refine lv_topl (fun t39 ht39 => ?_)
        refine lv_lstore_n (lv' := [(3, .long t39), (0, .ref this), (1, .int i), (2, .int v)]) hx hb dX6_set_71 rfl hl (by decide) rfl (fun ls hl => ?_)
        refine lv_aload_n hx hb dX6_set_72 rfl (lv_at hl 1 rfl) ?_
        refine va_get (D := κ.1) (ci := 6) (v := .ref (kR κ this 1)) (C := RX6) (T := TX6) (N := 27) hx hb hg inX6 hown hK (hT.o20 (hT.k t_this (by decide))).one 0 rfl rfl 1 (by decide) (hg _ k1220) (fun _ h9 => h9) rfl dX6_set_73 ?_
        rw [erW]
        refine lv_iconst (v := 5) hx hb dX6_set_76 (by decide) ?_
        refine lv_iload_n hx hb dX6_set_77 rfl (lv_at hl 2 rfl) ?_
        refine lv_iadd hx hb dX6_set_78 ?_
        first | refine g_add (by omega) (by omega) (fun t40 ht40 => ?_) | refine lv_topi (fun t40 ht40 => ?_)
        refine lv_iload_n hx hb dX6_set_79 rfl (lv_at hl 3 rfl) ?_
        refine lv_i2l hx hb dX6_set_80 rfl ?_
        refine g_i2l (fun t41 ht41 => ?_)
        have hTo := hT
        refine tastlx (n := 609) hx hb hK hT (hT.k trW (by decide)) ⟨by decide, by decide⟩ (fun _ _ _ => rfl) (fun _ _ => trivial) (by omega) (by omega) (ge3_gX _ (by unfold ix; omega)) dX6_set_81 (fun H locs s42 hus42 hT => ?_)
        have e29 : zI s42 this 0 = 0 := by rw [zpul_I hus42]; exact e29
        have R43 : RI κ s42 this := R32.pulw hus42 erW (nrel (by unfold ix; omega))
        have B44 := R43.b
        rw [erW] at B44
        have K45 : zI s42 this 7 = zI σ0 this 7 := hT.eI t_this (by decide) rfl rfl
        have K45n : (zI s42 this 7).toInt = (zI σ0 this 7).toInt := by rw [K45]
        have P46 : zI s42 rP = zI σ0 rP := funext fun k => hT.eI trP (by decide) rfl rfl
        try simp only [K45, P46] at B44
        refine lv_lload_n hx hb dX6_set_82 rfl (lv_at hl 0 rfl) ?_
        subst hQ9
        exact t_l hx hb hr hlocks hT R43 dX6_set_83
      · have c5 := gi_eq c9
        refine lv_aload_n hx hb dX6_set_52 rfl (lv_at hl 0 rfl) ?_
        refine lv_iconst (v := 3) hx hb dX6_set_53 (by decide) ?_
        refine lv_bipush (v := 6) hx hb dX6_set_54 (by decide) ?_
        refine lv_iconst (v := 4) hx hb dX6_set_56 (by decide) ?_
        refine lv_iload_n hx hb dX6_set_57 rfl (lv_at hl 1 rfl) ?_
        have hTo := hT
        refine tVi (n := 4) (As := [.int 3, .int 6, .int 4, .int i]) (rest := []) hx hb hml hown hg hT hK hX (X6_stateFails l κ s31 this 3 6 4 i  (hT.k t_this (by decide)) R32) sub_gR_gX (mwV k1569 k1571 k70 k92 k1572) ⟨rfl, by decide, by decide, by decide +kernel⟩ ⟨(Nat.le_of_ble_eq_true rfl), (Nat.le_of_ble_eq_true rfl)⟩ (hT.o20 (hT.k t_this (by decide))) rfl rfl hl.1 rfl (Nat.le_of_ble_eq_true rfl) dX6_set_58 zroom.rf (fun x47 s48 H locs hφ hEs48 hT => ?_)
        have R49 : RI κ s48 this := R32.ext hEs48 ⟨rfl, rfl, fun _ => rfl, fun _ => rfl, fun _ => rfl, fun _ => rfl⟩
        have B50 := R49.b
        rw [erW] at B50
        have K51 : zI s48 this 7 = zI σ0 this 7 := hT.eI t_this (by decide) rfl rfl
        have K51n : (zI s48 this 7).toInt = (zI σ0 this 7).toInt := by rw [K51]
        have P52 : zI s48 rP = zI σ0 rP := funext fun k => hT.eI trP (by decide) rfl rfl
        try simp only [K51, P52] at B50
        refine lv_i2l hx hb dX6_set_61 rfl ?_
        refine g_i2l (fun t53 ht53 => ?_)
        subst hQ9
        exact t_l hx hb hr hlocks hT R49 dX6_set_62
  · have c6 := gi_eq c9
    refine lv_iconst (v := 1) hx hb dX6_set_9 (by decide) ?_
    refine lv_goto (tgt := 32) hx hb dX6_set_10 (by decide) ?_
    have hTo := hT
    refine pf20_0 hx hb hg hown hK hT (hT.k t_this (by decide)) rfl (hg _ k1219) dX6_set_32 (fun H locs s54 hus54 hT => ?_)
    have R55 : RI κ s54 this := R3.put hus54 (hTo.k t_this (by decide)) (by decide)
    have B56 := R55.b
    rw [erW] at B56
    have K57 : zI s54 this 7 = zI σ0 this 7 := hT.eI t_this (by decide) rfl rfl
    have K57n : (zI s54 this 7).toInt = (zI σ0 this 7).toInt := by rw [K57]
    have P58 : zI s54 rP = zI σ0 rP := funext fun k => hT.eI trP (by decide) rfl rfl
    try simp only [K57, P58] at B56
    have e59 : zI s54 this 0 = 1 := zput_at hus54
    refine lv_aload_n hx hb dX6_set_35 rfl (lv_at hl 0 rfl) ?_
    refine va_get (D := κ.1) (ci := 6) (v := .int (zI s54 this 0)) (C := RX6) (T := TX6) (N := 27) hx hb hg inX6 hown hK (hT.o20 (hT.k t_this (by decide))).one 0 rfl rfl 0 (by decide) (hg _ k1219) (fun _ h9 => h9) rfl dX6_set_36 ?_
    rw [e59]
    refine lv_if_le (tgt := 44) hx hb dX6_set_39 (by decide) (fun c9 => absurd c9 (by decide)) (fun _ => ?_)
    refine lv_lconst (v := 0) hx hb dX6_set_42 (by decide) ?_
    subst hQ9
    exact t_l hx hb hr hlocks hT R55 dX6_set_43
set_option maxHeartbeats 4000000 in
set_option maxRecDepth 100000 in
theorem X6_reason (l : Launch) (κ : Kt) (σ0 : Gh) (this : Nat) (i : Int32) (t_this : zk σ0 this 20) (h0 : RI κ σ0 this) : TC l yX6_reason cX6_reason 2 (some .int) 1 25 [.ref this, .int i] κ σ0 (tqi κ gR σ0 (fun (r : Int32) (τ : Gh) => True)) := by
  refine TC.of gR (by decide +kernel) (Nat.le_of_ble_eq_true rfl) ?_
  intro p e s m below meth c ls hcs hK hX hT hl
  obtain ⟨hx, hb, hr, hml, hown, hg, hlocks, hin⟩ := hcs
  have hown : s.vm.findClass RX6 = some m.cls := hown
  have hl : lv_has ls 2 [(0, .ref this), (1, .int i)] := hl
  have hT0 := hT
  have n0 : (0 : Int32).toInt = 0 := by decide
  have n1 : (1 : Int32).toInt = 1 := by decide
  have j0 : (0 : Int64).toInt = 0 := by decide
  have j1 : (1 : Int64).toInt = 1 := by decide
  have i_lo := Int32.le_toInt i
  have i_hi := Int32.toInt_lt i
  generalize hQ9 : tQ _ _ _ _ _ _ = Q9
  obtain ⟨rW, erW⟩ : ∃ z, kR κ this 1 = z := ⟨_, rfl⟩
  have trW : zk σ0 rW 21 := by rw [← erW]; exact h0.1.2.1
  obtain ⟨rP, erP⟩ : ∃ z, kR κ this 5 = z := ⟨_, rfl⟩
  have trP : zk σ0 rP 25 := by rw [← erP]; exact h0.1.2.2.2.2
  have hB0 := h0.b
  rw [erW] at hB0
  have hW := h0.2.1
  rw [erW] at hW
  have hP := h0.2.2.1
  rw [erP] at hP
  have hrN : (rN σ0 this : Int) = (zI σ0 this 7).toInt := by unfold rN; omega
  refine lv_aload_n hx hb dX6_reason_0 rfl (lv_at hl 0 rfl) ?_
  refine lv_iload_n hx hb dX6_reason_1 rfl (lv_at hl 1 rfl) ?_
  refine lv_i2l hx hb dX6_reason_2 rfl ?_
  refine g_i2l (fun t1 ht1 => ?_)
  refine lv_lconst (v := 0) hx hb dX6_reason_3 (by decide) ?_
  refine lv_lconst (v := 1) hx hb dX6_reason_4 (by decide) ?_
  have hTo := hT
  refine tSi (n := 3) (As := [.long t1, .long 0, .long 1]) (rest := [.ref this]) hx hb hml hown hg hT hK hX (X6_in l κ σ0 t1 0 1   ) sub_fE_gR (mwS k1317 k1318 k92 k1319) ⟨rfl, by decide, by decide, by decide +kernel⟩ ⟨(Nat.le_of_ble_eq_true rfl), (Nat.le_of_ble_eq_true rfl)⟩ rfl hl.1 rfl (Nat.le_of_ble_eq_true rfl) dX6_reason_5 zroom.rf (fun x2 s3 H locs hφ hEs3 hT => ?_)
  obtain ⟨f4, f5⟩ := hφ
  have K6 : zI s3 this 7 = zI σ0 this 7 := hT.eI t_this (by decide) rfl rfl
  have K6n : (zI s3 this 7).toInt = (zI σ0 this 7).toInt := by rw [K6]
  have J7 : zJ s3 rW = zJ σ0 rW := funext fun k => hT.eJ trW (by decide) rfl rfl
  have J7n : (zJ s3 (kR κ this 1) 4).toInt = (zJ σ0 rW 4).toInt := by rw [erW, J7]
  have P8 : zI s3 rP = zI σ0 rP := funext fun k => hT.eI trP (by decide) rfl rfl
  try simp only [erW, erP, ix_0, ix_1, ix_2, ix_3, ix_4, ix_5, ix_6, ix_7, ix_8, ix_9, K6, J7, P8] at f4
  refine lv_if_eq (tgt := 15) hx hb dX6_reason_8 (by decide) (fun c9 => ?_) (fun c9 => ?_)
  · have c1 := gi_eq c9
    refine lv_iconst (v := 1) hx hb dX6_reason_15 (by decide) ?_
    have hTo := hT
    refine pf20_0 hx hb hg hown hK hT (hT.k t_this (by decide)) rfl (hg _ k1219) dX6_reason_16 (fun H locs s9 hus9 hT => ?_)
    have e10 : zI s9 this 0 = 1 := zput_at hus9
    refine lv_aload_n hx hb dX6_reason_19 rfl (lv_at hl 0 rfl) ?_
    refine va_get (D := κ.1) (ci := 6) (v := .int (zI s9 this 0)) (C := RX6) (T := TX6) (N := 27) hx hb hg inX6 hown hK (hT.o20 (hT.k t_this (by decide))).one 0 rfl rfl 0 (by decide) (hg _ k1219) (fun _ h9 => h9) rfl dX6_reason_20 ?_
    rw [e10]
    refine lv_if_le (tgt := 30) hx hb dX6_reason_23 (by decide) (fun c9 => absurd c9 (by decide)) (fun _ => ?_)
    refine lv_iconst (v := 0) hx hb dX6_reason_26 (by decide) ?_
    refine lv_goto (tgt := 45) hx hb dX6_reason_27 (by decide) ?_
    subst hQ9
    exact t_i hx hb hr hlocks hT trivial dX6_reason_45
  · have c2 := gi_ne c9
    refine lv_iconst (v := 0) hx hb dX6_reason_11 (by decide) ?_
    refine lv_goto (tgt := 16) hx hb dX6_reason_12 (by decide) ?_
    have hTo := hT
    refine pf20_0 hx hb hg hown hK hT (hT.k t_this (by decide)) rfl (hg _ k1219) dX6_reason_16 (fun H locs s11 hus11 hT => ?_)
    have e12 : zI s11 this 0 = 0 := zput_at hus11
    refine lv_aload_n hx hb dX6_reason_19 rfl (lv_at hl 0 rfl) ?_
    refine va_get (D := κ.1) (ci := 6) (v := .int (zI s11 this 0)) (C := RX6) (T := TX6) (N := 27) hx hb hg inX6 hown hK (hT.o20 (hT.k t_this (by decide))).one 0 rfl rfl 0 (by decide) (hg _ k1219) (fun _ h9 => h9) rfl dX6_reason_20 ?_
    rw [e12]
    refine lv_if_le (tgt := 30) hx hb dX6_reason_23 (by decide) (fun _ => ?_) (fun c9 => absurd (by decide) c9)
    refine lv_iload_n hx hb dX6_reason_30 rfl (lv_at hl 1 rfl) ?_
    refine lv_if_ne (tgt := 41) hx hb dX6_reason_31 (by decide) (fun c9 => ?_) (fun c9 => ?_)
    · have c3 := gi_ne c9
      refine lv_aload_n hx hb dX6_reason_41 rfl (lv_at hl 0 rfl) ?_
      obtain ⟨v13, ev13⟩ : ∃ zz9 : Int32, zI s11 this 10 = zz9 := ⟨_, rfl⟩
      have qv13 : v13.toInt = (zI s11 this 10).toInt := by rw [ev13]
      refine va_get (D := κ.1) (ci := 6) (v := .int (zI s11 this 10)) (C := RX6) (T := TX6) (N := 27) hx hb hg inX6 hown hK (hT.o20 (hT.k t_this (by decide))).one 0 rfl rfl 10 (by decide) (hg _ k1229) (fun _ h9 => h9) rfl dX6_reason_42 ?_
      rw [ev13]
      subst hQ9
      exact t_i hx hb hr hlocks hT trivial dX6_reason_45
    · have c4 := gi_eq c9
      refine lv_aload_n hx hb dX6_reason_34 rfl (lv_at hl 0 rfl) ?_
      obtain ⟨v14, ev14⟩ : ∃ zz9 : Int32, zI s11 this 9 = zz9 := ⟨_, rfl⟩
      have qv14 : v14.toInt = (zI s11 this 9).toInt := by rw [ev14]
      refine va_get (D := κ.1) (ci := 6) (v := .int (zI s11 this 9)) (C := RX6) (T := TX6) (N := 27) hx hb hg inX6 hown hK (hT.o20 (hT.k t_this (by decide))).one 0 rfl rfl 9 (by decide) (hg _ k1228) (fun _ h9 => h9) rfl dX6_reason_35 ?_
      rw [ev14]
      refine lv_goto (tgt := 45) hx hb dX6_reason_38 (by decide) ?_
      subst hQ9
      exact t_i hx hb hr hlocks hT trivial dX6_reason_45
set_option maxHeartbeats 4000000 in
set_option maxRecDepth 100000 in
theorem X6_reasonSample (l : Launch) (κ : Kt) (σ0 : Gh) (this : Nat) (t_this : zk σ0 this 20) (h0 : RI κ σ0 this) : TC l yX6_reasonSample cX6_reasonSample 1 (some .int) 0 0 [.ref this] κ σ0 (tqi κ gR σ0 (fun (r : Int32) (τ : Gh) => True)) := by
  refine TC.of gR (by decide +kernel) (Nat.le_of_ble_eq_true rfl) ?_
  intro p e s m below meth c ls hcs hK hX hT hl
  obtain ⟨hx, hb, hr, hml, hown, hg, hlocks, hin⟩ := hcs
  have hown : s.vm.findClass RX6 = some m.cls := hown
  have hl : lv_has ls 1 [(0, .ref this)] := hl
  have hT0 := hT
  have n0 : (0 : Int32).toInt = 0 := by decide
  generalize hQ9 : tQ _ _ _ _ _ _ = Q9
  obtain ⟨rW, erW⟩ : ∃ z, kR κ this 1 = z := ⟨_, rfl⟩
  have trW : zk σ0 rW 21 := by rw [← erW]; exact h0.1.2.1
  obtain ⟨rP, erP⟩ : ∃ z, kR κ this 5 = z := ⟨_, rfl⟩
  have trP : zk σ0 rP 25 := by rw [← erP]; exact h0.1.2.2.2.2
  have hB0 := h0.b
  rw [erW] at hB0
  have hW := h0.2.1
  rw [erW] at hW
  have hP := h0.2.2.1
  rw [erP] at hP
  have hrN : (rN σ0 this : Int) = (zI σ0 this 7).toInt := by unfold rN; omega
  refine lv_aload_n hx hb dX6_reasonSample_0 rfl (lv_at hl 0 rfl) ?_
  refine lv_iconst (v := 0) hx hb dX6_reasonSample_1 (by decide) ?_
  have hTo := hT
  refine pf20_0 hx hb hg hown hK hT (hT.k t_this (by decide)) rfl (hg _ k1219) dX6_reasonSample_2 (fun H locs s1 hus1 hT => ?_)
  have e2 : zI s1 this 0 = 0 := zput_at hus1
  refine lv_aload_n hx hb dX6_reasonSample_5 rfl (lv_at hl 0 rfl) ?_
  obtain ⟨v3, ev3⟩ : ∃ zz9 : Int32, zI s1 this 11 = zz9 := ⟨_, rfl⟩
  have qv3 : v3.toInt = (zI s1 this 11).toInt := by rw [ev3]
  refine va_get (D := κ.1) (ci := 6) (v := .int (zI s1 this 11)) (C := RX6) (T := TX6) (N := 27) hx hb hg inX6 hown hK (hT.o20 (hT.k t_this (by decide))).one 0 rfl rfl 11 (by decide) (hg _ k1230) (fun _ h9 => h9) rfl dX6_reasonSample_6 ?_
  rw [ev3]
  subst hQ9
  exact t_i hx hb hr hlocks hT trivial dX6_reasonSample_9
set_option maxHeartbeats 4000000 in
set_option maxRecDepth 100000 in
theorem X6_errorCode (l : Launch) (κ : Kt) (σ0 : Gh) (this : Nat) (t_this : zk σ0 this 20) (h0 : RI κ σ0 this) : TC l yX6_errorCode cX6_errorCode 1 (some .int) 0 0 [.ref this] κ σ0 (tqi κ gR σ0 (fun (r : Int32) (τ : Gh) => True)) := by
  refine TC.of gR (by decide +kernel) (Nat.le_of_ble_eq_true rfl) ?_
  intro p e s m below meth c ls hcs hK hX hT hl
  obtain ⟨hx, hb, hr, hml, hown, hg, hlocks, hin⟩ := hcs
  have hown : s.vm.findClass RX6 = some m.cls := hown
  have hl : lv_has ls 1 [(0, .ref this)] := hl
  have hT0 := hT
  have n0 : (0 : Int32).toInt = 0 := by decide
  generalize hQ9 : tQ _ _ _ _ _ _ = Q9
  obtain ⟨rW, erW⟩ : ∃ z, kR κ this 1 = z := ⟨_, rfl⟩
  have trW : zk σ0 rW 21 := by rw [← erW]; exact h0.1.2.1
  obtain ⟨rP, erP⟩ : ∃ z, kR κ this 5 = z := ⟨_, rfl⟩
  have trP : zk σ0 rP 25 := by rw [← erP]; exact h0.1.2.2.2.2
  have hB0 := h0.b
  rw [erW] at hB0
  have hW := h0.2.1
  rw [erW] at hW
  have hP := h0.2.2.1
  rw [erP] at hP
  have hrN : (rN σ0 this : Int) = (zI σ0 this 7).toInt := by unfold rN; omega
  refine lv_aload_n hx hb dX6_errorCode_0 rfl (lv_at hl 0 rfl) ?_
  refine lv_iconst (v := 0) hx hb dX6_errorCode_1 (by decide) ?_
  have hTo := hT
  refine pf20_0 hx hb hg hown hK hT (hT.k t_this (by decide)) rfl (hg _ k1219) dX6_errorCode_2 (fun H locs s1 hus1 hT => ?_)
  have e2 : zI s1 this 0 = 0 := zput_at hus1
  refine lv_aload_n hx hb dX6_errorCode_5 rfl (lv_at hl 0 rfl) ?_
  obtain ⟨v3, ev3⟩ : ∃ zz9 : Int32, zI σ0 this 15 = zz9 := ⟨_, rfl⟩
  have qv3 : v3.toInt = (zI σ0 this 15).toInt := by rw [ev3]
  refine va_get (D := κ.1) (ci := 6) (v := .int (zI s1 this 15)) (C := RX6) (T := TX6) (N := 27) hx hb hg inX6 hown hK (hT.o20 (hT.k t_this (by decide))).one 0 rfl rfl 15 (by decide) (hg _ k1234) (fun _ h9 => h9) rfl dX6_errorCode_6 ?_
  rw [(hT.eI t_this (by decide) rfl ev3)]
  subst hQ9
  exact t_i hx hb hr hlocks hT trivial dX6_errorCode_9
set_option maxHeartbeats 4000000 in
set_option maxRecDepth 100000 in
theorem X6_errorPosition (l : Launch) (κ : Kt) (σ0 : Gh) (this : Nat) (t_this : zk σ0 this 20) (h0 : RI κ σ0 this) : TC l yX6_errorPosition cX6_errorPosition 1 (some .int) 0 0 [.ref this] κ σ0 (tqi κ gR σ0 (fun (r : Int32) (τ : Gh) => True)) := by
  refine TC.of gR (by decide +kernel) (Nat.le_of_ble_eq_true rfl) ?_
  intro p e s m below meth c ls hcs hK hX hT hl
  obtain ⟨hx, hb, hr, hml, hown, hg, hlocks, hin⟩ := hcs
  have hown : s.vm.findClass RX6 = some m.cls := hown
  have hl : lv_has ls 1 [(0, .ref this)] := hl
  have hT0 := hT
  have n0 : (0 : Int32).toInt = 0 := by decide
  generalize hQ9 : tQ _ _ _ _ _ _ = Q9
  obtain ⟨rW, erW⟩ : ∃ z, kR κ this 1 = z := ⟨_, rfl⟩
  have trW : zk σ0 rW 21 := by rw [← erW]; exact h0.1.2.1
  obtain ⟨rP, erP⟩ : ∃ z, kR κ this 5 = z := ⟨_, rfl⟩
  have trP : zk σ0 rP 25 := by rw [← erP]; exact h0.1.2.2.2.2
  have hB0 := h0.b
  rw [erW] at hB0
  have hW := h0.2.1
  rw [erW] at hW
  have hP := h0.2.2.1
  rw [erP] at hP
  have hrN : (rN σ0 this : Int) = (zI σ0 this 7).toInt := by unfold rN; omega
  refine lv_aload_n hx hb dX6_errorPosition_0 rfl (lv_at hl 0 rfl) ?_
  refine lv_iconst (v := 0) hx hb dX6_errorPosition_1 (by decide) ?_
  have hTo := hT
  refine pf20_0 hx hb hg hown hK hT (hT.k t_this (by decide)) rfl (hg _ k1219) dX6_errorPosition_2 (fun H locs s1 hus1 hT => ?_)
  have e2 : zI s1 this 0 = 0 := zput_at hus1
  refine lv_aload_n hx hb dX6_errorPosition_5 rfl (lv_at hl 0 rfl) ?_
  obtain ⟨v3, ev3⟩ : ∃ zz9 : Int32, zI σ0 this 16 = zz9 := ⟨_, rfl⟩
  have qv3 : v3.toInt = (zI σ0 this 16).toInt := by rw [ev3]
  refine va_get (D := κ.1) (ci := 6) (v := .int (zI s1 this 16)) (C := RX6) (T := TX6) (N := 27) hx hb hg inX6 hown hK (hT.o20 (hT.k t_this (by decide))).one 0 rfl rfl 16 (by decide) (hg _ k1235) (fun _ h9 => h9) rfl dX6_errorPosition_6 ?_
  rw [(hT.eI t_this (by decide) rfl ev3)]
  subst hQ9
  exact t_i hx hb hr hlocks hT trivial dX6_errorPosition_9
set_option maxHeartbeats 4000000 in
set_option maxRecDepth 100000 in
theorem X6_puts (l : Launch) (κ : Kt) (σ0 : Gh) (this : Nat) (t_this : zk σ0 this 20) (h0 : RI κ σ0 this) : TC l yX6_puts cX6_puts 2 none 0 0 [.ref this] κ σ0 (tqv κ gA σ0 (fun (τ : Gh) => (∀ j : Nat, (j : Int) < 609 → zJ τ (kR κ this 2) j = zJ σ0 (kR κ this 1) j))) := by
  refine TC.of gA (by decide +kernel) (Nat.le_of_ble_eq_true rfl) ?_
  intro p e s m below meth c ls hcs hK hX hT hl
  obtain ⟨hx, hb, hr, hml, hown, hg, hlocks, hin⟩ := hcs
  have hown : s.vm.findClass RX6 = some m.cls := hown
  have hl : lv_has ls 2 [(0, .ref this)] := hl
  have hT0 := hT
  have n0 : (0 : Int32).toInt = 0 := by decide
  have n609 : (609 : Int32).toInt = 609 := by decide
  generalize hQ9 : tQ _ _ _ _ _ _ = Q9
  obtain ⟨rW, erW⟩ : ∃ z, kR κ this 1 = z := ⟨_, rfl⟩
  have trW : zk σ0 rW 21 := by rw [← erW]; exact h0.1.2.1
  obtain ⟨rP, erP⟩ : ∃ z, kR κ this 5 = z := ⟨_, rfl⟩
  have trP : zk σ0 rP 25 := by rw [← erP]; exact h0.1.2.2.2.2
  have hB0 := h0.b
  rw [erW] at hB0
  have hW := h0.2.1
  rw [erW] at hW
  have hP := h0.2.2.1
  rw [erP] at hP
  have hrN : (rN σ0 this : Int) = (zI σ0 this 7).toInt := by unfold rN; omega
  obtain ⟨rA, erA⟩ : ∃ z, kR κ this 2 = z := ⟨_, rfl⟩
  have trA : zk σ0 rA 30 := by rw [← erA]; exact hT0.ref t_this (by decide) (by decide) (by decide)
  refine lv_iconst (v := 0) hx hb dX6_puts_0 (by decide) ?_
  refine lv_istore_n (lv' := [(1, .int 0), (0, .ref this)]) hx hb dX6_puts_1 rfl hl (by decide) rfl (fun ls hl => ?_)
  have loop2 : ∀ (n9 : Nat) (k : Int32) (H : Heap) (locs : List Loc) (sg : Gh) (ls : Array Slot), TS κ gA σ0 sg s H locs → (0 ≤ k.toInt) → (k.toInt ≤ 609) → (∀ j : Nat, (j : Int) < k.toInt → zJ sg rA j = zJ σ0 rW j) → lv_has ls 2 [(1, .int k), (0, .ref this)] → (609 - k.toInt) < n9 → tW p l e 0 0 κ s m #[.ref this] below meth c H locs Q9 (F0 m 2 ls []) := by
    intro n9
    induction n9 with
    | zero =>
      intro k H locs sg ls hT q1 q2 q3 hl hm9
      exfalso
      omega
    | succ n9 ih9 =>
      have ih2 := ih9
      clear ih9
      intro k H locs s1 ls hT q1 q2 q3 hl hm9
      refine lv_iload_n hx hb dX6_puts_2 rfl (lv_at hl 0 rfl) ?_
      refine lv_sipush (v := 609) hx hb dX6_puts_3 (by decide) ?_
      refine lv_icmp_ge (tgt := 27) hx hb dX6_puts_6 (by decide) (fun c9 => ?_) (fun c9 => ?_)
      · have c1 := gi_le c9
        subst hQ9
        exact t_v hx hb hr hlocks hT (fun j hj => by rw [erA, erW]; exact q3 j (by omega)) dX6_puts_27
      · have c2 := gi_nle c9
        refine lv_aload_n hx hb dX6_puts_9 rfl (lv_at hl 1 rfl) ?_
        refine va_get (D := κ.1) (ci := 6) (v := .ref (kR κ this 2)) (C := RX6) (T := TX6) (N := 27) hx hb hg inX6 hown hK (hT.o20 (hT.k t_this (by decide))).one 0 rfl rfl 2 (by decide) (hg _ k1221) (fun _ h9 => h9) rfl dX6_puts_10 ?_
        rw [erA]
        refine lv_iload_n hx hb dX6_puts_13 rfl (lv_at hl 0 rfl) ?_
        refine lv_aload_n hx hb dX6_puts_14 rfl (lv_at hl 1 rfl) ?_
        refine va_get (D := κ.1) (ci := 6) (v := .ref (kR κ this 1)) (C := RX6) (T := TX6) (N := 27) hx hb hg inX6 hown hK (hT.o20 (hT.k t_this (by decide))).one 0 rfl rfl 1 (by decide) (hg _ k1220) (fun _ h9 => h9) rfl dX6_puts_15 ?_
        rw [erW]
        refine lv_iload_n hx hb dX6_puts_18 rfl (lv_at hl 0 rfl) ?_
        refine va_lald hx hb hK (hT.o21 (hT.k trW (by decide))).one 0 1 rfl rfl (g_in (by omega) (by omega)) dX6_puts_19 ?_
        refine lv_topl (fun t2 ht2 => ?_)
        have K3 : zI s1 this 7 = zI σ0 this 7 := hT.eI t_this (by decide) rfl rfl
        have K3n : (zI s1 this 7).toInt = (zI σ0 this 7).toInt := by rw [K3]
        have J4 : zJ s1 rW = zJ σ0 rW := funext fun k => hT.eJ trW (by decide) rfl rfl
        have J4n : (zJ s1 (kR κ this 1) 4).toInt = (zJ σ0 rW 4).toInt := by rw [erW, J4]
        have P5 : zI s1 rP = zI σ0 rP := funext fun k => hT.eI trP (by decide) rfl rfl
        have hTo := hT
        refine tastl (n := 609) hx hb hK hT (hT.k trA (by decide)) ⟨by decide, by decide⟩ (fun _ _ _ => rfl) (fun _ _ => trivial) (fun _ => rfl) (by omega) (by omega) dX6_puts_20 (fun H locs s6 hus6 hT => ?_)
        obtain ⟨t7, qt7⟩ : ∃ zz9 : Int32, k + Int32.ofInt 1 = zz9 := ⟨_, rfl⟩
        refine lv_iinc (v := t7) (lv' := [(1, .int t7), (0, .ref this)]) hx hb dX6_puts_21 hl (k := 0) rfl qt7 (by decide) rfl (fun ls hl => ?_)
        have ht7 : t7.toInt = k.toInt + 1 := by rw [← qt7]; exact v_addi rfl (show (Int32.ofInt 1).toInt = 1 from by decide) (by omega) (by omega)
        refine lv_goto (tgt := 2) hx hb dX6_puts_24 (by decide) ?_
        exact ih2 t7 _ _ _ _ hT  (by omega) (by omega) (fun j hj => by rw [zpul_Ja hus6]; unfold vp_updL; exact (Classical.em (j = ix k)).elim (fun e9 => by rw [if_pos e9, e9, ht2]; exact (hTo.eJ trW (by decide) rfl rfl : _ = zJ σ0 rW (ix k))) (fun e9 => by rw [if_neg e9]; exact q3 j (by unfold ix at e9; omega))) hl (by omega)
  exact loop2 ((609 - (0 : Int32).toInt).toNat + 1) 0 _ _ _ _ hT  (by omega) (by omega) (fun j hj => by omega) hl (by omega)

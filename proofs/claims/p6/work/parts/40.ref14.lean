/-! The reference over any state: schemes -/
theorem sub_fE_gY : ∀ t k, gY t k = false → fE t k = false := by
  intro t k h
  simp [fE, gY] at h ⊢ <;> omega
theorem k82 : Cond.selects RX6 yX6_bitsOf yX6_bitsOf ∈ GW := gm 82 (by decide +kernel) (by decide +kernel)
theorem k1670 : Cond.methodLink RX6 333 yX6_bitsOf ∈ GW := gm 1670 (by decide +kernel) (by decide +kernel)
theorem k1672 : Cond.instanceMethod yX6_bitsOf ∈ GW := gm 1672 (by decide +kernel) (by decide +kernel)
theorem k1673 : Cond.code yX6_bitsOf cX6_bitsOf 4 (some .int) ∈ GW := gm 1673 (by decide +kernel) (by decide +kernel)
theorem dX6_bestScheme_0 : decode cX6_bestScheme 0 = .ok (.aload_n 0, 1) := by decide +kernel
theorem dX6_bestScheme_1 : decode cX6_bestScheme 1 = .ok (.iconst 0, 1) := by decide +kernel
theorem dX6_bestScheme_2 : decode cX6_bestScheme 2 = .ok (.putfield 64, 3) := by decide +kernel
theorem dX6_bestScheme_5 : decode cX6_bestScheme 5 = .ok (.iconst 0, 1) := by decide +kernel
theorem dX6_bestScheme_6 : decode cX6_bestScheme 6 = .ok (.istore_n 1, 1) := by decide +kernel
theorem dX6_bestScheme_7 : decode cX6_bestScheme 7 = .ok (.aload_n 0, 1) := by decide +kernel
theorem dX6_bestScheme_8 : decode cX6_bestScheme 8 = .ok (.iconst 0, 1) := by decide +kernel
theorem dX6_bestScheme_9 : decode cX6_bestScheme 9 = .ok (.iconst 0, 1) := by decide +kernel
theorem dX6_bestScheme_10 : decode cX6_bestScheme 10 = .ok (.invokevirtual 333, 3) := by decide +kernel
theorem dX6_bestScheme_13 : decode cX6_bestScheme 13 = .ok (.istore_n 2, 1) := by decide +kernel
theorem dX6_bestScheme_14 : decode cX6_bestScheme 14 = .ok (.iconst 1, 1) := by decide +kernel
theorem dX6_bestScheme_15 : decode cX6_bestScheme 15 = .ok (.istore_n 3, 1) := by decide +kernel
theorem dX6_bestScheme_16 : decode cX6_bestScheme 16 = .ok (.iload_n 3, 1) := by decide +kernel
theorem dX6_bestScheme_17 : decode cX6_bestScheme 17 = .ok (.bipush 9, 2) := by decide +kernel
theorem dX6_bestScheme_19 : decode cX6_bestScheme 19 = .ok (.if_icmp .ge 32, 3) := by decide +kernel
theorem dX6_bestScheme_22 : decode cX6_bestScheme 22 = .ok (.aload_n 0, 1) := by decide +kernel
theorem dX6_bestScheme_23 : decode cX6_bestScheme 23 = .ok (.iload_n 3, 1) := by decide +kernel
theorem dX6_bestScheme_24 : decode cX6_bestScheme 24 = .ok (.iconst 3, 1) := by decide +kernel
theorem dX6_bestScheme_25 : decode cX6_bestScheme 25 = .ok (.idiv, 1) := by decide +kernel
theorem dX6_bestScheme_26 : decode cX6_bestScheme 26 = .ok (.iload_n 3, 1) := by decide +kernel
theorem dX6_bestScheme_27 : decode cX6_bestScheme 27 = .ok (.iconst 3, 1) := by decide +kernel
theorem dX6_bestScheme_28 : decode cX6_bestScheme 28 = .ok (.irem, 1) := by decide +kernel
theorem dX6_bestScheme_29 : decode cX6_bestScheme 29 = .ok (.invokevirtual 333, 3) := by decide +kernel
theorem dX6_bestScheme_32 : decode cX6_bestScheme 32 = .ok (.istore 4, 2) := by decide +kernel
theorem dX6_bestScheme_34 : decode cX6_bestScheme 34 = .ok (.iload 4, 2) := by decide +kernel
theorem dX6_bestScheme_36 : decode cX6_bestScheme 36 = .ok (.iload_n 2, 1) := by decide +kernel
theorem dX6_bestScheme_37 : decode cX6_bestScheme 37 = .ok (.if_icmp .ge 8, 3) := by decide +kernel
theorem dX6_bestScheme_40 : decode cX6_bestScheme 40 = .ok (.iload_n 3, 1) := by decide +kernel
theorem dX6_bestScheme_41 : decode cX6_bestScheme 41 = .ok (.istore_n 1, 1) := by decide +kernel
theorem dX6_bestScheme_42 : decode cX6_bestScheme 42 = .ok (.iload 4, 2) := by decide +kernel
theorem dX6_bestScheme_44 : decode cX6_bestScheme 44 = .ok (.istore_n 2, 1) := by decide +kernel
theorem dX6_bestScheme_45 : decode cX6_bestScheme 45 = .ok (.iinc 3 1, 3) := by decide +kernel
theorem dX6_bestScheme_48 : decode cX6_bestScheme 48 = .ok (.goto (-32), 3) := by decide +kernel
theorem dX6_bestScheme_51 : decode cX6_bestScheme 51 = .ok (.iload_n 1, 1) := by decide +kernel
theorem dX6_bestScheme_52 : decode cX6_bestScheme 52 = .ok (.ireturn, 1) := by decide +kernel
theorem dX6_bitsBy_0 : decode cX6_bitsBy 0 = .ok (.aload_n 0, 1) := by decide +kernel
theorem dX6_bitsBy_1 : decode cX6_bitsBy 1 = .ok (.iload_n 1, 1) := by decide +kernel
theorem dX6_bitsBy_2 : decode cX6_bitsBy 2 = .ok (.i2l, 1) := by decide +kernel
theorem dX6_bitsBy_3 : decode cX6_bitsBy 3 = .ok (.lconst 0, 1) := by decide +kernel
theorem dX6_bitsBy_4 : decode cX6_bitsBy 4 = .ok (.ldc2_w 246, 3) := by decide +kernel
theorem dX6_bitsBy_7 : decode cX6_bitsBy 7 = .ok (.invokestatic 84, 3) := by decide +kernel
theorem dX6_bitsBy_10 : decode cX6_bitsBy 10 = .ok (.ifCond .eq 19, 3) := by decide +kernel
theorem dX6_bitsBy_13 : decode cX6_bitsBy 13 = .ok (.iload_n 2, 1) := by decide +kernel
theorem dX6_bitsBy_14 : decode cX6_bitsBy 14 = .ok (.i2l, 1) := by decide +kernel
theorem dX6_bitsBy_15 : decode cX6_bitsBy 15 = .ok (.lconst 0, 1) := by decide +kernel
theorem dX6_bitsBy_16 : decode cX6_bitsBy 16 = .ok (.ldc2_w 246, 3) := by decide +kernel
theorem dX6_bitsBy_19 : decode cX6_bitsBy 19 = .ok (.invokestatic 84, 3) := by decide +kernel
theorem dX6_bitsBy_22 : decode cX6_bitsBy 22 = .ok (.ifCond .eq 7, 3) := by decide +kernel
theorem dX6_bitsBy_25 : decode cX6_bitsBy 25 = .ok (.iconst 0, 1) := by decide +kernel
theorem dX6_bitsBy_26 : decode cX6_bitsBy 26 = .ok (.goto 4, 3) := by decide +kernel
theorem dX6_bitsBy_29 : decode cX6_bitsBy 29 = .ok (.iconst 1, 1) := by decide +kernel
theorem dX6_bitsBy_30 : decode cX6_bitsBy 30 = .ok (.putfield 64, 3) := by decide +kernel
theorem dX6_bitsBy_33 : decode cX6_bitsBy 33 = .ok (.aload_n 0, 1) := by decide +kernel
theorem dX6_bitsBy_34 : decode cX6_bitsBy 34 = .ok (.getfield 64, 3) := by decide +kernel
theorem dX6_bitsBy_37 : decode cX6_bitsBy 37 = .ok (.ifCond .le 7, 3) := by decide +kernel
theorem dX6_bitsBy_40 : decode cX6_bitsBy 40 = .ok (.iconst 0, 1) := by decide +kernel
theorem dX6_bitsBy_41 : decode cX6_bitsBy 41 = .ok (.goto 9, 3) := by decide +kernel
theorem dX6_bitsBy_44 : decode cX6_bitsBy 44 = .ok (.aload_n 0, 1) := by decide +kernel
theorem dX6_bitsBy_45 : decode cX6_bitsBy 45 = .ok (.iload_n 1, 1) := by decide +kernel
theorem dX6_bitsBy_46 : decode cX6_bitsBy 46 = .ok (.iload_n 2, 1) := by decide +kernel
theorem dX6_bitsBy_47 : decode cX6_bitsBy 47 = .ok (.invokevirtual 333, 3) := by decide +kernel
theorem dX6_bitsBy_50 : decode cX6_bitsBy 50 = .ok (.ireturn, 1) := by decide +kernel
theorem dX6_bitsOf_0 : decode cX6_bitsOf 0 = .ok (.aload_n 0, 1) := by decide +kernel
theorem dX6_bitsOf_1 : decode cX6_bitsOf 1 = .ok (.invokevirtual 323, 3) := by decide +kernel
theorem dX6_bitsOf_4 : decode cX6_bitsOf 4 = .ok (.aload_n 0, 1) := by decide +kernel
theorem dX6_bitsOf_5 : decode cX6_bitsOf 5 = .ok (.getfield 7, 3) := by decide +kernel
theorem dX6_bitsOf_8 : decode cX6_bitsOf 8 = .ok (.iconst 0, 1) := by decide +kernel
theorem dX6_bitsOf_9 : decode cX6_bitsOf 9 = .ok (.iload_n 1, 1) := by decide +kernel
theorem dX6_bitsOf_10 : decode cX6_bitsOf 10 = .ok (.i2l, 1) := by decide +kernel
theorem dX6_bitsOf_11 : decode cX6_bitsOf 11 = .ok (.lastore, 1) := by decide +kernel
theorem dX6_bitsOf_12 : decode cX6_bitsOf 12 = .ok (.aload_n 0, 1) := by decide +kernel
theorem dX6_bitsOf_13 : decode cX6_bitsOf 13 = .ok (.getfield 7, 3) := by decide +kernel
theorem dX6_bitsOf_16 : decode cX6_bitsOf 16 = .ok (.iconst 1, 1) := by decide +kernel
theorem dX6_bitsOf_17 : decode cX6_bitsOf 17 = .ok (.iload_n 2, 1) := by decide +kernel
theorem dX6_bitsOf_18 : decode cX6_bitsOf 18 = .ok (.i2l, 1) := by decide +kernel
theorem dX6_bitsOf_19 : decode cX6_bitsOf 19 = .ok (.lastore, 1) := by decide +kernel
theorem dX6_bitsOf_20 : decode cX6_bitsOf 20 = .ok (.aload_n 0, 1) := by decide +kernel
theorem dX6_bitsOf_21 : decode cX6_bitsOf 21 = .ok (.invokevirtual 191, 3) := by decide +kernel
theorem dX6_bitsOf_24 : decode cX6_bitsOf 24 = .ok (.aload_n 0, 1) := by decide +kernel
theorem dX6_bitsOf_25 : decode cX6_bitsOf 25 = .ok (.bipush 46, 2) := by decide +kernel
theorem dX6_bitsOf_27 : decode cX6_bitsOf 27 = .ok (.invokevirtual 306, 3) := by decide +kernel
theorem dX6_bitsOf_30 : decode cX6_bitsOf 30 = .ok (.istore_n 3, 1) := by decide +kernel
theorem dX6_bitsOf_31 : decode cX6_bitsOf 31 = .ok (.aload_n 0, 1) := by decide +kernel
theorem dX6_bitsOf_32 : decode cX6_bitsOf 32 = .ok (.invokevirtual 248, 3) := by decide +kernel
theorem dX6_bitsOf_35 : decode cX6_bitsOf 35 = .ok (.istore_n 3, 1) := by decide +kernel
theorem dX6_bitsOf_36 : decode cX6_bitsOf 36 = .ok (.aload_n 0, 1) := by decide +kernel
theorem dX6_bitsOf_37 : decode cX6_bitsOf 37 = .ok (.invokevirtual 320, 3) := by decide +kernel
theorem dX6_bitsOf_40 : decode cX6_bitsOf 40 = .ok (.iload_n 3, 1) := by decide +kernel
theorem dX6_bitsOf_41 : decode cX6_bitsOf 41 = .ok (.ireturn, 1) := by decide +kernel
set_option maxHeartbeats 4000000 in
set_option maxRecDepth 100000 in
theorem X6_bitsOf (l : Launch) (κ : Kt) (σ0 : Gh) (this : Nat) (sp : Int32) (pr : Int32) (t_this : zk σ0 this 20) (h0 : RI κ σ0 this) : TC l yX6_bitsOf cX6_bitsOf 4 (some .int) 7 159 [.ref this, .int sp, .int pr] κ σ0 (tqi κ gY σ0 (fun (r : Int32) (τ : Gh) => (RI κ τ this))) := by
  refine TC.of gY (by decide +kernel) (Nat.le_of_ble_eq_true rfl) ?_
  intro p e s m below meth c ls hcs hK hX hT hl
  obtain ⟨hx, hb, hr, hml, hown, hg, hlocks, hin⟩ := hcs
  have hown : s.vm.findClass RX6 = some m.cls := hown
  have hl : lv_has ls 4 [(0, .ref this), (1, .int sp), (2, .int pr)] := hl
  have hT0 := hT
  have n0 : (0 : Int32).toInt = 0 := by decide
  have n1 : (1 : Int32).toInt = 1 := by decide
  have n46 : (46 : Int32).toInt = 46 := by decide
  have sp_lo := Int32.le_toInt sp
  have sp_hi := Int32.toInt_lt sp
  have pr_lo := Int32.le_toInt pr
  have pr_hi := Int32.toInt_lt pr
  generalize hQ9 : tQ _ _ _ _ _ _ = Q9
  obtain ⟨rW, erW⟩ : ∃ z, kR κ this 1 = z := ⟨_, rfl⟩
  have trW : zk σ0 rW 21 := by rw [← erW]; exact h0.1.2.1
  obtain ⟨rP, erP⟩ : ∃ z, kR κ this 5 = z := ⟨_, rfl⟩
  have trP : zk σ0 rP 25 := by rw [← erP]; exact h0.1.2.2.2.2
  have hB0 := h0.b
  rw [erW] at hB0
  have hW := h0.2.1
  rw [erW] at hW
  have hP := h0.2.2.1
  rw [erP] at hP
  have hrN : (rN σ0 this : Int) = (zI σ0 this 7).toInt := by unfold rN; omega
  obtain ⟨rA, erA⟩ : ∃ z, kR κ this 2 = z := ⟨_, rfl⟩
  have trA : zk σ0 rA 30 := by rw [← erA]; exact hT0.ref t_this (by decide) (by decide) (by decide)
  refine lv_aload_n hx hb dX6_bitsOf_0 rfl (lv_at hl 0 rfl) ?_
  have hTo := hT
  refine tVv (n := 0) (As := []) (rest := []) hx hb hml hown hg hT hK hX (X6_puts l κ σ0 this  (hT.k t_this (by decide)) h0) sub_gA_gY (mwV k1642 k1644 k78 k92 k1645) ⟨rfl, by decide, by decide, by decide +kernel⟩ ⟨(Nat.le_of_ble_eq_true rfl), (Nat.le_of_ble_eq_true rfl)⟩ (hT.o20 (hT.k t_this (by decide))) rfl rfl hl.1 rfl (Nat.le_of_ble_eq_true rfl) dX6_bitsOf_1 zroom.rf (fun s2 H locs hφ hEs2 hT => ?_)
  have R3 : RI κ s2 this := h0.ext hEs2 ⟨rfl, rfl, fun _ => rfl, fun _ => rfl, fun _ => rfl, fun _ => rfl⟩
  have B4 := R3.b
  rw [erW] at B4
  have K5 : zI s2 this 7 = zI σ0 this 7 := hT.eI t_this (by decide) rfl rfl
  have K5n : (zI s2 this 7).toInt = (zI σ0 this 7).toInt := by rw [K5]
  have P6 : zI s2 rP = zI σ0 rP := funext fun k => hT.eI trP (by decide) rfl rfl
  try simp only [K5, P6] at B4
  have f7 := hφ
  try simp only [erW, erP, ix_0, ix_1, ix_2, ix_3, ix_4, ix_5, ix_6, ix_7, ix_8, ix_9, K5, P6] at f7
  have EE8 : zJ s2 rW = zJ σ0 rW := funext fun k => (hTo.k trW (by decide)).eJ hEs2 (by decide) rfl
  rw [erA] at f7
  have A9 : WI (rN s2 this) (zJ s2 rA) := R3.2.1.of609 (fun j hj => by rw [erW, EE8]; exact f7 j hj)
  refine lv_aload_n hx hb dX6_bitsOf_4 rfl (lv_at hl 0 rfl) ?_
  refine va_get (D := κ.1) (ci := 6) (v := .ref (kR κ this 1)) (C := RX6) (T := TX6) (N := 27) hx hb hg inX6 hown hK (hT.o20 (hT.k t_this (by decide))).one 0 rfl rfl 1 (by decide) (hg _ k1220) (fun _ h9 => h9) rfl dX6_bitsOf_5 ?_
  rw [erW]
  refine lv_iconst (v := 0) hx hb dX6_bitsOf_8 (by decide) ?_
  refine lv_iload_n hx hb dX6_bitsOf_9 rfl (lv_at hl 1 rfl) ?_
  refine lv_i2l hx hb dX6_bitsOf_10 rfl ?_
  refine g_i2l (fun t10 ht10 => ?_)
  have hTo := hT
  refine tastl (n := 609) hx hb hK hT (hT.k trW (by decide)) ⟨by decide, by decide⟩ (fun _ _ _ => rfl) (fun _ _ => trivial) (fun _ => rfl) (by omega) (by omega) dX6_bitsOf_11 (fun H locs s11 hus11 hT => ?_)
  have A12 : WI (rN s11 this) (zJ s11 rA) := by rw [show zJ s11 rA = zJ s2 rA from zpul_Jo hus11 ((hTo.k trA (by decide)).ne (hTo.k trW (by decide)) (by decide)), show rN s11 this = rN s2 this from by unfold rN; rw [zpul_I hus11]]; exact A9
  have R13 : RI κ s11 this := R3.pulw hus11 erW (nrel (by unfold ix; omega))
  have B14 := R13.b
  rw [erW] at B14
  have K15 : zI s11 this 7 = zI σ0 this 7 := hT.eI t_this (by decide) rfl rfl
  have K15n : (zI s11 this 7).toInt = (zI σ0 this 7).toInt := by rw [K15]
  have P16 : zI s11 rP = zI σ0 rP := funext fun k => hT.eI trP (by decide) rfl rfl
  try simp only [K15, P16] at B14
  refine lv_aload_n hx hb dX6_bitsOf_12 rfl (lv_at hl 0 rfl) ?_
  refine va_get (D := κ.1) (ci := 6) (v := .ref (kR κ this 1)) (C := RX6) (T := TX6) (N := 27) hx hb hg inX6 hown hK (hT.o20 (hT.k t_this (by decide))).one 0 rfl rfl 1 (by decide) (hg _ k1220) (fun _ h9 => h9) rfl dX6_bitsOf_13 ?_
  rw [erW]
  refine lv_iconst (v := 1) hx hb dX6_bitsOf_16 (by decide) ?_
  refine lv_iload_n hx hb dX6_bitsOf_17 rfl (lv_at hl 2 rfl) ?_
  refine lv_i2l hx hb dX6_bitsOf_18 rfl ?_
  refine g_i2l (fun t17 ht17 => ?_)
  have hTo := hT
  refine tastl (n := 609) hx hb hK hT (hT.k trW (by decide)) ⟨by decide, by decide⟩ (fun _ _ _ => rfl) (fun _ _ => trivial) (fun _ => rfl) (by omega) (by omega) dX6_bitsOf_19 (fun H locs s18 hus18 hT => ?_)
  have A19 : WI (rN s18 this) (zJ s18 rA) := by rw [show zJ s18 rA = zJ s11 rA from zpul_Jo hus18 ((hTo.k trA (by decide)).ne (hTo.k trW (by decide)) (by decide)), show rN s18 this = rN s11 this from by unfold rN; rw [zpul_I hus18]]; exact A12
  have R20 : RI κ s18 this := R13.pulw hus18 erW (nrel (by unfold ix; omega))
  have B21 := R20.b
  rw [erW] at B21
  have K22 : zI s18 this 7 = zI σ0 this 7 := hT.eI t_this (by decide) rfl rfl
  have K22n : (zI s18 this 7).toInt = (zI σ0 this 7).toInt := by rw [K22]
  have P23 : zI s18 rP = zI σ0 rP := funext fun k => hT.eI trP (by decide) rfl rfl
  try simp only [K22, P23] at B21
  refine lv_aload_n hx hb dX6_bitsOf_20 rfl (lv_at hl 0 rfl) ?_
  have hTo := hT
  refine tVv (n := 0) (As := []) (rest := []) hx hb hml hown hg hT hK hX (X6_anew l κ s18 this  (hT.k t_this (by decide)) R20.2.2.1 (by omega) (by omega)) sub_gW_gY (mwV k1214 k1216 k35 k92 k1217) ⟨rfl, by decide, by decide, by decide +kernel⟩ ⟨(Nat.le_of_ble_eq_true rfl), (Nat.le_of_ble_eq_true rfl)⟩ (hT.o20 (hT.k t_this (by decide))) rfl rfl hl.1 rfl (Nat.le_of_ble_eq_true rfl) dX6_bitsOf_21 zroom.rf (fun s25 H locs hφ hEs25 hT => ?_)
  have A26 : WI (rN s25 this) (zJ s25 rA) := by rw [show zJ s25 rA = zJ s18 rA from funext fun k => (hTo.k trA (by decide)).eJ hEs25 (by decide) rfl, show rN s25 this = rN s18 this from by unfold rN; rw [(hTo.k t_this (by decide)).eI hEs25 (by decide) rfl]]; exact A19
  have f28 := hφ
  have K29 : zI s25 this 7 = zI σ0 this 7 := hT.eI t_this (by decide) rfl rfl
  have K29n : (zI s25 this 7).toInt = (zI σ0 this 7).toInt := by rw [K29]
  have P30 : zI s25 rP = zI σ0 rP := funext fun k => hT.eI trP (by decide) rfl rfl
  try simp only [erW, erP, ix_0, ix_1, ix_2, ix_3, ix_4, ix_5, ix_6, ix_7, ix_8, ix_9, K22, P23, K29, P30] at f28
  have R31 : RI κ s25 this := R20.extw hEs25 ⟨rfl, rfl, fun _ => rfl, fun _ => rfl, fun _ => rfl⟩ (by first | exact f28 | (rw [erW]; exact f28))
  have B32 := R31.b
  rw [erW] at B32
  try simp only [K29, P30] at B32
  refine lv_aload_n hx hb dX6_bitsOf_24 rfl (lv_at hl 0 rfl) ?_
  refine lv_bipush (v := 46) hx hb dX6_bitsOf_25 (by decide) ?_
  have hTo := hT
  refine tVi (n := 1) (As := [.int 46]) (rest := []) hx hb hml hown hg hT hK hX (X6_goesOn l κ s25 this 46  (hT.k t_this (by decide)) R31 (by omega)) sub_gW_gY (mwV k1584 k1586 k71 k92 k1587) ⟨rfl, by decide, by decide, by decide +kernel⟩ ⟨(Nat.le_of_ble_eq_true rfl), (Nat.le_of_ble_eq_true rfl)⟩ (hT.o20 (hT.k t_this (by decide))) rfl rfl hl.1 rfl (Nat.le_of_ble_eq_true rfl) dX6_bitsOf_27 zroom.rf (fun x33 s34 H locs hφ hEs34 hT => ?_)
  have A35 : WI (rN s34 this) (zJ s34 rA) := by rw [show zJ s34 rA = zJ s25 rA from funext fun k => (hTo.k trA (by decide)).eJ hEs34 (by decide) rfl, show rN s34 this = rN s25 this from by unfold rN; rw [(hTo.k t_this (by decide)).eI hEs34 (by decide) rfl]]; exact A26
  have f37 := hφ
  have B38 := f37.b
  rw [erW] at B38
  have K39 : zI s34 this 7 = zI σ0 this 7 := hT.eI t_this (by decide) rfl rfl
  have K39n : (zI s34 this 7).toInt = (zI σ0 this 7).toInt := by rw [K39]
  have P40 : zI s34 rP = zI σ0 rP := funext fun k => hT.eI trP (by decide) rfl rfl
  try simp only [K39, P40] at B38
  refine lv_istore_n (lv' := [(3, .int x33), (0, .ref this), (1, .int sp), (2, .int pr)]) hx hb dX6_bitsOf_30 rfl hl (by decide) rfl (fun ls hl => ?_)
  refine lv_aload_n hx hb dX6_bitsOf_31 rfl (lv_at hl 1 rfl) ?_
  have hTo := hT
  refine tVi (n := 0) (As := []) (rest := []) hx hb hml hown hg hT hK hX (X6_bitsNow l κ s34 this  (hT.k t_this (by decide)) f37) sub_fE_gY (mwV k1502 k1504 k61 k92 k1505) ⟨rfl, by decide, by decide, by decide +kernel⟩ ⟨(Nat.le_of_ble_eq_true rfl), (Nat.le_of_ble_eq_true rfl)⟩ (hT.o20 (hT.k t_this (by decide))) rfl rfl hl.1 rfl (Nat.le_of_ble_eq_true rfl) dX6_bitsOf_32 zroom.rf (fun x41 s42 H locs hφ hEs42 hT => ?_)
  have A43 : WI (rN s42 this) (zJ s42 rA) := by rw [show zJ s42 rA = zJ s34 rA from funext fun k => (hTo.k trA (by decide)).eJ hEs42 (by decide) rfl, show rN s42 this = rN s34 this from by unfold rN; rw [(hTo.k t_this (by decide)).eI hEs42 (by decide) rfl]]; exact A35
  have R44 : RI κ s42 this := f37.ext hEs42 ⟨rfl, rfl, fun _ => rfl, fun _ => rfl, fun _ => rfl, fun _ => rfl⟩
  have B45 := R44.b
  rw [erW] at B45
  have K46 : zI s42 this 7 = zI σ0 this 7 := hT.eI t_this (by decide) rfl rfl
  have K46n : (zI s42 this 7).toInt = (zI σ0 this 7).toInt := by rw [K46]
  have P47 : zI s42 rP = zI σ0 rP := funext fun k => hT.eI trP (by decide) rfl rfl
  try simp only [K46, P47] at B45
  refine lv_istore_n (lv' := [(3, .int x41), (0, .ref this), (1, .int sp), (2, .int pr)]) hx hb dX6_bitsOf_35 rfl hl (by decide) rfl (fun ls hl => ?_)
  refine lv_aload_n hx hb dX6_bitsOf_36 rfl (lv_at hl 1 rfl) ?_
  have hTo := hT
  refine tVv (n := 0) (As := []) (rest := []) hx hb hml hown hg hT hK hX (X6_takesBack l κ s42 this  (hT.k t_this (by decide)) R44) sub_gW_gY (mwV k1650 k1652 k80 k92 k1653) ⟨rfl, by decide, by decide, by decide +kernel⟩ ⟨(Nat.le_of_ble_eq_true rfl), (Nat.le_of_ble_eq_true rfl)⟩ (hT.o20 (hT.k t_this (by decide))) rfl rfl hl.1 rfl (Nat.le_of_ble_eq_true rfl) dX6_bitsOf_37 zroom.rf (fun s49 H locs hφ hEs49 hT => ?_)
  have A50 : WI (rN s49 this) (zJ s49 rA) := by rw [show zJ s49 rA = zJ s42 rA from funext fun k => (hTo.k trA (by decide)).eJ hEs49 (by decide) rfl, show rN s49 this = rN s42 this from by unfold rN; rw [(hTo.k t_this (by decide)).eI hEs49 (by decide) rfl]]; exact A43
  have f52 := hφ
  have K53 : zI s49 this 7 = zI σ0 this 7 := hT.eI t_this (by decide) rfl rfl
  have K53n : (zI s49 this 7).toInt = (zI σ0 this 7).toInt := by rw [K53]
  have P54 : zI s49 rP = zI σ0 rP := funext fun k => hT.eI trP (by decide) rfl rfl
  try simp only [erW, erP, ix_0, ix_1, ix_2, ix_3, ix_4, ix_5, ix_6, ix_7, ix_8, ix_9, K46, P47, K53, P54] at f52
  rw [erA] at f52
  have R55 : RI κ s49 this := R44.extw hEs49 ⟨rfl, rfl, fun _ => rfl, fun _ => rfl, fun _ => rfl⟩ (by rw [erW]; exact A43.of609 (fun j hj => f52 j hj))
  have B56 := R55.b
  rw [erW] at B56
  try simp only [K53, P54] at B56
  refine lv_iload_n hx hb dX6_bitsOf_40 rfl (lv_at hl 0 rfl) ?_
  subst hQ9
  exact t_i hx hb hr hlocks hT R55 dX6_bitsOf_41
set_option maxHeartbeats 4000000 in
set_option maxRecDepth 100000 in
theorem X6_bitsBy (l : Launch) (κ : Kt) (σ0 : Gh) (this : Nat) (sp : Int32) (pr : Int32) (t_this : zk σ0 this 20) (h0 : RI κ σ0 this) : TC l yX6_bitsBy cX6_bitsBy 3 (some .int) 8 182 [.ref this, .int sp, .int pr] κ σ0 (tqi κ gZ σ0 (fun (r : Int32) (τ : Gh) => (RI κ τ this))) := by
  refine TC.of gZ (by decide +kernel) (Nat.le_of_ble_eq_true rfl) ?_
  intro p e s m below meth c ls hcs hK hX hT hl
  obtain ⟨hx, hb, hr, hml, hown, hg, hlocks, hin⟩ := hcs
  have hown : s.vm.findClass RX6 = some m.cls := hown
  have hl : lv_has ls 3 [(0, .ref this), (1, .int sp), (2, .int pr)] := hl
  have hT0 := hT
  have n0 : (0 : Int32).toInt = 0 := by decide
  have n1 : (1 : Int32).toInt = 1 := by decide
  have j0 : (0 : Int64).toInt = 0 := by decide
  have j2 : (2 : Int64).toInt = 2 := by decide
  have sp_lo := Int32.le_toInt sp
  have sp_hi := Int32.toInt_lt sp
  have pr_lo := Int32.le_toInt pr
  have pr_hi := Int32.toInt_lt pr
  generalize hQ9 : tQ _ _ _ _ _ _ = Q9
  obtain ⟨rW, erW⟩ : ∃ z, kR κ this 1 = z := ⟨_, rfl⟩
  have trW : zk σ0 rW 21 := by rw [← erW]; exact h0.1.2.1
  obtain ⟨rP, erP⟩ : ∃ z, kR κ this 5 = z := ⟨_, rfl⟩
  have trP : zk σ0 rP 25 := by rw [← erP]; exact h0.1.2.2.2.2
  have hB0 := h0.b
  rw [erW] at hB0
  have hW := h0.2.1
  rw [erW] at hW
  have hP := h0.2.2.1
  rw [erP] at hP
  have hrN : (rN σ0 this : Int) = (zI σ0 this 7).toInt := by unfold rN; omega
  refine lv_aload_n hx hb dX6_bitsBy_0 rfl (lv_at hl 0 rfl) ?_
  refine lv_iload_n hx hb dX6_bitsBy_1 rfl (lv_at hl 1 rfl) ?_
  refine lv_i2l hx hb dX6_bitsBy_2 rfl ?_
  refine g_i2l (fun t1 ht1 => ?_)
  refine lv_lconst (v := 0) hx hb dX6_bitsBy_3 (by decide) ?_
  refine lv_ldc2 hx hb hown (hg _ k1506) dX6_bitsBy_4 ?_
  have hTo := hT
  refine tSi (n := 3) (As := [.long t1, .long 0, .long 2]) (rest := [.ref this]) hx hb hml hown hg hT hK hX (X6_in l κ σ0 t1 0 2   ) sub_fE_gZ (mwS k1313 k1314 k92 k1315) ⟨rfl, by decide, by decide, by decide +kernel⟩ ⟨(Nat.le_of_ble_eq_true rfl), (Nat.le_of_ble_eq_true rfl)⟩ rfl hl.1 rfl (Nat.le_of_ble_eq_true rfl) dX6_bitsBy_7 zroom.rf (fun x2 s3 H locs hφ hEs3 hT => ?_)
  have R4 : RI κ s3 this := h0.ext hEs3 ⟨rfl, rfl, fun _ => rfl, fun _ => rfl, fun _ => rfl, fun _ => rfl⟩
  have B5 := R4.b
  rw [erW] at B5
  have K6 : zI s3 this 7 = zI σ0 this 7 := hT.eI t_this (by decide) rfl rfl
  have K6n : (zI s3 this 7).toInt = (zI σ0 this 7).toInt := by rw [K6]
  have P7 : zI s3 rP = zI σ0 rP := funext fun k => hT.eI trP (by decide) rfl rfl
  try simp only [K6, P7] at B5
  obtain ⟨f8, f9⟩ := hφ
  try simp only [erW, erP, ix_0, ix_1, ix_2, ix_3, ix_4, ix_5, ix_6, ix_7, ix_8, ix_9, K6, P7] at f8
  refine lv_if_eq (tgt := 29) hx hb dX6_bitsBy_10 (by decide) (fun c9 => ?_) (fun c9 => ?_)
  · have c1 := gi_eq c9
    refine lv_iconst (v := 1) hx hb dX6_bitsBy_29 (by decide) ?_
    have hTo := hT
    refine pf20_0 hx hb hg hown hK hT (hT.k t_this (by decide)) rfl (hg _ k1219) dX6_bitsBy_30 (fun H locs s10 hus10 hT => ?_)
    have R11 : RI κ s10 this := R4.put hus10 (hTo.k t_this (by decide)) (by decide)
    have B12 := R11.b
    rw [erW] at B12
    have K13 : zI s10 this 7 = zI σ0 this 7 := hT.eI t_this (by decide) rfl rfl
    have K13n : (zI s10 this 7).toInt = (zI σ0 this 7).toInt := by rw [K13]
    have P14 : zI s10 rP = zI σ0 rP := funext fun k => hT.eI trP (by decide) rfl rfl
    try simp only [K13, P14] at B12
    have e15 : zI s10 this 0 = 1 := zput_at hus10
    refine lv_aload_n hx hb dX6_bitsBy_33 rfl (lv_at hl 0 rfl) ?_
    refine va_get (D := κ.1) (ci := 6) (v := .int (zI s10 this 0)) (C := RX6) (T := TX6) (N := 27) hx hb hg inX6 hown hK (hT.o20 (hT.k t_this (by decide))).one 0 rfl rfl 0 (by decide) (hg _ k1219) (fun _ h9 => h9) rfl dX6_bitsBy_34 ?_
    rw [e15]
    refine lv_if_le (tgt := 44) hx hb dX6_bitsBy_37 (by decide) (fun c9 => absurd c9 (by decide)) (fun _ => ?_)
    refine lv_iconst (v := 0) hx hb dX6_bitsBy_40 (by decide) ?_
    refine lv_goto (tgt := 50) hx hb dX6_bitsBy_41 (by decide) ?_
    subst hQ9
    exact t_i hx hb hr hlocks hT R11 dX6_bitsBy_50
  · have c2 := gi_ne c9
    refine lv_iload_n hx hb dX6_bitsBy_13 rfl (lv_at hl 2 rfl) ?_
    refine lv_i2l hx hb dX6_bitsBy_14 rfl ?_
    refine g_i2l (fun t16 ht16 => ?_)
    refine lv_lconst (v := 0) hx hb dX6_bitsBy_15 (by decide) ?_
    refine lv_ldc2 hx hb hown (hg _ k1506) dX6_bitsBy_16 ?_
    have hTo := hT
    refine tSi (n := 3) (As := [.long t16, .long 0, .long 2]) (rest := [.ref this]) hx hb hml hown hg hT hK hX (X6_in l κ s3 t16 0 2   ) sub_fE_gZ (mwS k1313 k1314 k92 k1315) ⟨rfl, by decide, by decide, by decide +kernel⟩ ⟨(Nat.le_of_ble_eq_true rfl), (Nat.le_of_ble_eq_true rfl)⟩ rfl hl.1 rfl (Nat.le_of_ble_eq_true rfl) dX6_bitsBy_19 zroom.rf (fun x17 s18 H locs hφ hEs18 hT => ?_)
    have R19 : RI κ s18 this := R4.ext hEs18 ⟨rfl, rfl, fun _ => rfl, fun _ => rfl, fun _ => rfl, fun _ => rfl⟩
    have B20 := R19.b
    rw [erW] at B20
    have K21 : zI s18 this 7 = zI σ0 this 7 := hT.eI t_this (by decide) rfl rfl
    have K21n : (zI s18 this 7).toInt = (zI σ0 this 7).toInt := by rw [K21]
    have P22 : zI s18 rP = zI σ0 rP := funext fun k => hT.eI trP (by decide) rfl rfl
    try simp only [K21, P22] at B20
    obtain ⟨f23, f24⟩ := hφ
    try simp only [erW, erP, ix_0, ix_1, ix_2, ix_3, ix_4, ix_5, ix_6, ix_7, ix_8, ix_9, K6, P7, K21, P22] at f23
    refine lv_if_eq (tgt := 29) hx hb dX6_bitsBy_22 (by decide) (fun c9 => ?_) (fun c9 => ?_)
    · have c3 := gi_eq c9
      refine lv_iconst (v := 1) hx hb dX6_bitsBy_29 (by decide) ?_
      have hTo := hT
      refine pf20_0 hx hb hg hown hK hT (hT.k t_this (by decide)) rfl (hg _ k1219) dX6_bitsBy_30 (fun H locs s25 hus25 hT => ?_)
      have R26 : RI κ s25 this := R19.put hus25 (hTo.k t_this (by decide)) (by decide)
      have B27 := R26.b
      rw [erW] at B27
      have K28 : zI s25 this 7 = zI σ0 this 7 := hT.eI t_this (by decide) rfl rfl
      have K28n : (zI s25 this 7).toInt = (zI σ0 this 7).toInt := by rw [K28]
      have P29 : zI s25 rP = zI σ0 rP := funext fun k => hT.eI trP (by decide) rfl rfl
      try simp only [K28, P29] at B27
      have e30 : zI s25 this 0 = 1 := zput_at hus25
      refine lv_aload_n hx hb dX6_bitsBy_33 rfl (lv_at hl 0 rfl) ?_
      refine va_get (D := κ.1) (ci := 6) (v := .int (zI s25 this 0)) (C := RX6) (T := TX6) (N := 27) hx hb hg inX6 hown hK (hT.o20 (hT.k t_this (by decide))).one 0 rfl rfl 0 (by decide) (hg _ k1219) (fun _ h9 => h9) rfl dX6_bitsBy_34 ?_
      rw [e30]
      refine lv_if_le (tgt := 44) hx hb dX6_bitsBy_37 (by decide) (fun c9 => absurd c9 (by decide)) (fun _ => ?_)
      refine lv_iconst (v := 0) hx hb dX6_bitsBy_40 (by decide) ?_
      refine lv_goto (tgt := 50) hx hb dX6_bitsBy_41 (by decide) ?_
      subst hQ9
      exact t_i hx hb hr hlocks hT R26 dX6_bitsBy_50
    · have c4 := gi_ne c9
      refine lv_iconst (v := 0) hx hb dX6_bitsBy_25 (by decide) ?_
      refine lv_goto (tgt := 30) hx hb dX6_bitsBy_26 (by decide) ?_
      have hTo := hT
      refine pf20_0 hx hb hg hown hK hT (hT.k t_this (by decide)) rfl (hg _ k1219) dX6_bitsBy_30 (fun H locs s31 hus31 hT => ?_)
      have R32 : RI κ s31 this := R19.put hus31 (hTo.k t_this (by decide)) (by decide)
      have B33 := R32.b
      rw [erW] at B33
      have K34 : zI s31 this 7 = zI σ0 this 7 := hT.eI t_this (by decide) rfl rfl
      have K34n : (zI s31 this 7).toInt = (zI σ0 this 7).toInt := by rw [K34]
      have P35 : zI s31 rP = zI σ0 rP := funext fun k => hT.eI trP (by decide) rfl rfl
      try simp only [K34, P35] at B33
      have e36 : zI s31 this 0 = 0 := zput_at hus31
      refine lv_aload_n hx hb dX6_bitsBy_33 rfl (lv_at hl 0 rfl) ?_
      refine va_get (D := κ.1) (ci := 6) (v := .int (zI s31 this 0)) (C := RX6) (T := TX6) (N := 27) hx hb hg inX6 hown hK (hT.o20 (hT.k t_this (by decide))).one 0 rfl rfl 0 (by decide) (hg _ k1219) (fun _ h9 => h9) rfl dX6_bitsBy_34 ?_
      rw [e36]
      refine lv_if_le (tgt := 44) hx hb dX6_bitsBy_37 (by decide) (fun _ => ?_) (fun c9 => absurd (by decide) c9)
      refine lv_aload_n hx hb dX6_bitsBy_44 rfl (lv_at hl 0 rfl) ?_
      refine lv_iload_n hx hb dX6_bitsBy_45 rfl (lv_at hl 1 rfl) ?_
      refine lv_iload_n hx hb dX6_bitsBy_46 rfl (lv_at hl 2 rfl) ?_
      have hTo := hT
      refine tVi (n := 2) (As := [.int sp, .int pr]) (rest := []) hx hb hml hown hg hT hK hX (X6_bitsOf l κ s31 this sp pr  (hT.k t_this (by decide)) R32) sub_gY_gZ (mwV k1670 k1672 k82 k92 k1673) ⟨rfl, by decide, by decide, by decide +kernel⟩ ⟨(Nat.le_of_ble_eq_true rfl), (Nat.le_of_ble_eq_true rfl)⟩ (hT.o20 (hT.k t_this (by decide))) rfl rfl hl.1 rfl (Nat.le_of_ble_eq_true rfl) dX6_bitsBy_47 zroom.rf (fun x37 s38 H locs hφ hEs38 hT => ?_)
      have e36 : zI s38 this 0 = 0 := ((hTo.k t_this (by decide)).eI hEs38 (by decide) rfl).trans e36
      have f40 := hφ
      have B41 := f40.b
      rw [erW] at B41
      have K42 : zI s38 this 7 = zI σ0 this 7 := hT.eI t_this (by decide) rfl rfl
      have K42n : (zI s38 this 7).toInt = (zI σ0 this 7).toInt := by rw [K42]
      have P43 : zI s38 rP = zI σ0 rP := funext fun k => hT.eI trP (by decide) rfl rfl
      try simp only [K42, P43] at B41
      subst hQ9
      exact t_i hx hb hr hlocks hT f40 dX6_bitsBy_50
set_option maxHeartbeats 4000000 in
set_option maxRecDepth 100000 in
theorem X6_bestScheme (l : Launch) (κ : Kt) (σ0 : Gh) (this : Nat) (t_this : zk σ0 this 20) (h0 : RI κ σ0 this) : TC l yX6_bestScheme cX6_bestScheme 5 (some .int) 8 182 [.ref this] κ σ0 (tqi κ gZ σ0 (fun (r : Int32) (τ : Gh) => (RI κ τ this))) := by
  refine TC.of gZ (by decide +kernel) (Nat.le_of_ble_eq_true rfl) ?_
  intro p e s m below meth c ls hcs hK hX hT hl
  obtain ⟨hx, hb, hr, hml, hown, hg, hlocks, hin⟩ := hcs
  have hown : s.vm.findClass RX6 = some m.cls := hown
  have hl : lv_has ls 5 [(0, .ref this)] := hl
  have hT0 := hT
  have n0 : (0 : Int32).toInt = 0 := by decide
  have n1 : (1 : Int32).toInt = 1 := by decide
  have n3 : (3 : Int32).toInt = 3 := by decide
  have n9 : (9 : Int32).toInt = 9 := by decide
  generalize hQ9 : tQ _ _ _ _ _ _ = Q9
  obtain ⟨rW, erW⟩ : ∃ z, kR κ this 1 = z := ⟨_, rfl⟩
  have trW : zk σ0 rW 21 := by rw [← erW]; exact h0.1.2.1
  obtain ⟨rP, erP⟩ : ∃ z, kR κ this 5 = z := ⟨_, rfl⟩
  have trP : zk σ0 rP 25 := by rw [← erP]; exact h0.1.2.2.2.2
  have hB0 := h0.b
  rw [erW] at hB0
  have hW := h0.2.1
  rw [erW] at hW
  have hP := h0.2.2.1
  rw [erP] at hP
  have hrN : (rN σ0 this : Int) = (zI σ0 this 7).toInt := by unfold rN; omega
  refine lv_aload_n hx hb dX6_bestScheme_0 rfl (lv_at hl 0 rfl) ?_
  refine lv_iconst (v := 0) hx hb dX6_bestScheme_1 (by decide) ?_
  have hTo := hT
  refine pf20_0 hx hb hg hown hK hT (hT.k t_this (by decide)) rfl (hg _ k1219) dX6_bestScheme_2 (fun H locs s1 hus1 hT => ?_)
  have R2 : RI κ s1 this := h0.put hus1 (hTo.k t_this (by decide)) (by decide)
  have B3 := R2.b
  rw [erW] at B3
  have K4 : zI s1 this 7 = zI σ0 this 7 := hT.eI t_this (by decide) rfl rfl
  have K4n : (zI s1 this 7).toInt = (zI σ0 this 7).toInt := by rw [K4]
  have P5 : zI s1 rP = zI σ0 rP := funext fun k => hT.eI trP (by decide) rfl rfl
  try simp only [K4, P5] at B3
  have e6 : zI s1 this 0 = 0 := zput_at hus1
  refine lv_iconst (v := 0) hx hb dX6_bestScheme_5 (by decide) ?_
  refine lv_istore_n (lv' := [(1, .int 0), (0, .ref this)]) hx hb dX6_bestScheme_6 rfl hl (by decide) rfl (fun ls hl => ?_)
  refine lv_aload_n hx hb dX6_bestScheme_7 rfl (lv_at hl 1 rfl) ?_
  refine lv_iconst (v := 0) hx hb dX6_bestScheme_8 (by decide) ?_
  refine lv_iconst (v := 0) hx hb dX6_bestScheme_9 (by decide) ?_
  have hTo := hT
  refine tVi (n := 2) (As := [.int 0, .int 0]) (rest := []) hx hb hml hown hg hT hK hX (X6_bitsOf l κ s1 this 0 0  (hT.k t_this (by decide)) R2) sub_gY_gZ (mwV k1670 k1672 k82 k92 k1673) ⟨rfl, by decide, by decide, by decide +kernel⟩ ⟨(Nat.le_of_ble_eq_true rfl), (Nat.le_of_ble_eq_true rfl)⟩ (hT.o20 (hT.k t_this (by decide))) rfl rfl hl.1 rfl (Nat.le_of_ble_eq_true rfl) dX6_bestScheme_10 zroom.rf (fun x7 s8 H locs hφ hEs8 hT => ?_)
  have e6 : zI s8 this 0 = 0 := ((hTo.k t_this (by decide)).eI hEs8 (by decide) rfl).trans e6
  have f10 := hφ
  have B11 := f10.b
  rw [erW] at B11
  have K12 : zI s8 this 7 = zI σ0 this 7 := hT.eI t_this (by decide) rfl rfl
  have K12n : (zI s8 this 7).toInt = (zI σ0 this 7).toInt := by rw [K12]
  have P13 : zI s8 rP = zI σ0 rP := funext fun k => hT.eI trP (by decide) rfl rfl
  try simp only [K12, P13] at B11
  refine lv_istore_n (lv' := [(2, .int x7), (1, .int 0), (0, .ref this)]) hx hb dX6_bestScheme_13 rfl hl (by decide) rfl (fun ls hl => ?_)
  refine lv_iconst (v := 1) hx hb dX6_bestScheme_14 (by decide) ?_
  refine lv_istore_n (lv' := [(3, .int 1), (2, .int x7), (1, .int 0), (0, .ref this)]) hx hb dX6_bestScheme_15 rfl hl (by decide) rfl (fun ls hl => ?_)
  have loop16 : ∀ (n9 : Nat) (bs : Int32) (fw : Int32) (k : Int32) (H : Heap) (locs : List Loc) (sg : Gh) (ls : Array Slot), TS κ gZ σ0 sg s H locs → (RI κ sg this) → (1 ≤ k.toInt) → (k.toInt ≤ 9) → lv_has ls 5 [(1, .int bs), (2, .int fw), (3, .int k), (0, .ref this)] → (9 - k.toInt) < n9 → tW p l e 8 182 κ s m #[.ref this] below meth c H locs Q9 (F0 m 16 ls []) := by
    intro n9
    induction n9 with
    | zero =>
      intro bs fw k H locs sg ls hT RI0 q1 q2 hl hm9
      exfalso
      omega
    | succ n9 ih9 =>
      have ih16 := ih9
      clear ih9
      intro bs fw k H locs s14 ls hT RI0 q1 q2 hl hm9
      have B15 := RI0.b
      rw [erW] at B15
      have K16 : zI s14 this 7 = zI σ0 this 7 := hT.eI t_this (by decide) rfl rfl
      have K16n : (zI s14 this 7).toInt = (zI σ0 this 7).toInt := by rw [K16]
      have P17 : zI s14 rP = zI σ0 rP := funext fun k => hT.eI trP (by decide) rfl rfl
      try simp only [K16, P17] at B15
      refine lv_iload_n hx hb dX6_bestScheme_16 rfl (lv_at hl 2 rfl) ?_
      refine lv_bipush (v := 9) hx hb dX6_bestScheme_17 (by decide) ?_
      refine lv_icmp_ge (tgt := 51) hx hb dX6_bestScheme_19 (by decide) (fun c9 => ?_) (fun c9 => ?_)
      · have c1 := gi_le c9
        refine lv_iload_n hx hb dX6_bestScheme_51 rfl (lv_at hl 0 rfl) ?_
        subst hQ9
        exact t_i hx hb hr hlocks hT RI0 dX6_bestScheme_52
      · have c2 := gi_nle c9
        refine lv_aload_n hx hb dX6_bestScheme_22 rfl (lv_at hl 3 rfl) ?_
        refine lv_iload_n hx hb dX6_bestScheme_23 rfl (lv_at hl 2 rfl) ?_
        refine lv_iconst (v := 3) hx hb dX6_bestScheme_24 (by decide) ?_
        refine lv_idiv hx hb dX6_bestScheme_25 (by decide) ?_
        first | refine g_div (k := 3) n3 (by decide) (by omega) (fun t18 ht18 => ?_) | refine lv_topi (fun t18 ht18 => ?_)
        refine lv_iload_n hx hb dX6_bestScheme_26 rfl (lv_at hl 2 rfl) ?_
        refine lv_iconst (v := 3) hx hb dX6_bestScheme_27 (by decide) ?_
        refine lv_irem hx hb dX6_bestScheme_28 (by decide) ?_
        refine lv_topi (fun t19 ht19 => ?_)
        have hTo := hT
        refine tVi (n := 2) (As := [.int t18, .int t19]) (rest := []) hx hb hml hown hg hT hK hX (X6_bitsOf l κ s14 this t18 t19  (hT.k t_this (by decide)) RI0) sub_gY_gZ (mwV k1670 k1672 k82 k92 k1673) ⟨rfl, by decide, by decide, by decide +kernel⟩ ⟨(Nat.le_of_ble_eq_true rfl), (Nat.le_of_ble_eq_true rfl)⟩ (hT.o20 (hT.k t_this (by decide))) rfl rfl hl.1 rfl (Nat.le_of_ble_eq_true rfl) dX6_bestScheme_29 zroom.rf (fun x20 s21 H locs hφ hEs21 hT => ?_)
        have f23 := hφ
        have B24 := f23.b
        rw [erW] at B24
        have K25 : zI s21 this 7 = zI σ0 this 7 := hT.eI t_this (by decide) rfl rfl
        have K25n : (zI s21 this 7).toInt = (zI σ0 this 7).toInt := by rw [K25]
        have P26 : zI s21 rP = zI σ0 rP := funext fun k => hT.eI trP (by decide) rfl rfl
        try simp only [K25, P26] at B24
        refine lv_istore (lv' := [(4, .int x20), (1, .int bs), (2, .int fw), (3, .int k), (0, .ref this)]) hx hb dX6_bestScheme_32 hl (by decide) rfl (fun ls hl => ?_)
        refine lv_iload hx hb dX6_bestScheme_34 (lv_at hl 0 rfl) ?_
        refine lv_iload_n hx hb dX6_bestScheme_36 rfl (lv_at hl 2 rfl) ?_
        refine lv_icmp_ge (tgt := 45) hx hb dX6_bestScheme_37 (by decide) (fun c9 => ?_) (fun c9 => ?_)
        · have c3 := gi_le c9
          obtain ⟨t27, qt27⟩ : ∃ zz9 : Int32, k + Int32.ofInt 1 = zz9 := ⟨_, rfl⟩
          refine lv_iinc (v := t27) (lv' := [(3, .int t27), (4, .int x20), (1, .int bs), (2, .int fw), (0, .ref this)]) hx hb dX6_bestScheme_45 hl (k := 3) rfl qt27 (by decide) rfl (fun ls hl => ?_)
          have ht27 : t27.toInt = k.toInt + 1 := by rw [← qt27]; exact v_addi rfl (show (Int32.ofInt 1).toInt = 1 from by decide) (by omega) (by omega)
          refine lv_goto (tgt := 16) hx hb dX6_bestScheme_48 (by decide) ?_
          exact ih16 bs fw t27 _ _ _ _ hT  f23 (by omega) (by omega) (lv_sub hl [2, 3, 0, 4] rfl) (by omega)
        · have c4 := gi_nle c9
          refine lv_iload_n hx hb dX6_bestScheme_40 rfl (lv_at hl 3 rfl) ?_
          refine lv_istore_n (lv' := [(1, .int k), (4, .int x20), (2, .int fw), (3, .int k), (0, .ref this)]) hx hb dX6_bestScheme_41 rfl hl (by decide) rfl (fun ls hl => ?_)
          refine lv_iload hx hb dX6_bestScheme_42 (lv_at hl 1 rfl) ?_
          refine lv_istore_n (lv' := [(2, .int x20), (1, .int k), (4, .int x20), (3, .int k), (0, .ref this)]) hx hb dX6_bestScheme_44 rfl hl (by decide) rfl (fun ls hl => ?_)
          obtain ⟨t28, qt28⟩ : ∃ zz9 : Int32, k + Int32.ofInt 1 = zz9 := ⟨_, rfl⟩
          refine lv_iinc (v := t28) (lv' := [(3, .int t28), (2, .int x20), (1, .int k), (4, .int x20), (0, .ref this)]) hx hb dX6_bestScheme_45 hl (k := 3) rfl qt28 (by decide) rfl (fun ls hl => ?_)
          have ht28 : t28.toInt = k.toInt + 1 := by rw [← qt28]; exact v_addi rfl (show (Int32.ofInt 1).toInt = 1 from by decide) (by omega) (by omega)
          refine lv_goto (tgt := 16) hx hb dX6_bestScheme_48 (by decide) ?_
          exact ih16 k x20 t28 _ _ _ _ hT  f23 (by omega) (by omega) (lv_sub hl [2, 1, 0, 4] rfl) (by omega)
  exact loop16 ((9 - (1 : Int32).toInt).toNat + 1) 0 x7 1 _ _ _ _ hT  f10 (by omega) (by omega) (lv_sub hl [2, 1, 0, 3] rfl) (by omega)

/-! The reference over any state: schemes -/
theorem sub_fE_gYb : ∀ t k, gYb t k = false → fE t k = false := by
  intro t k h
  simp [fE, gYb] at h ⊢ <;> omega
theorem k82 : Cond.selects RX6 yX6_bitsOf yX6_bitsOf ∈ GW := gm 82 (by decide +kernel) (by decide +kernel)
theorem k1674 : Cond.methodLink RX6 333 yX6_bitsOf ∈ GW := gm 1674 (by decide +kernel) (by decide +kernel)
theorem k1676 : Cond.instanceMethod yX6_bitsOf ∈ GW := gm 1676 (by decide +kernel) (by decide +kernel)
theorem k1677 : Cond.code yX6_bitsOf cX6_bitsOf 4 (some .int) ∈ GW := gm 1677 (by decide +kernel) (by decide +kernel)
theorem dX6_bestScheme_0 : decode cX6_bestScheme 0 = .ok (.aload_n 0, 1) := by decide +kernel
theorem dX6_bestScheme_1 : decode cX6_bestScheme 1 = .ok (.iconst 0, 1) := by decide +kernel
theorem dX6_bestScheme_2 : decode cX6_bestScheme 2 = .ok (.putfield 64, 3) := by decide +kernel
theorem dX6_bestScheme_5 : decode cX6_bestScheme 5 = .ok (.iconst 0, 1) := by decide +kernel
theorem dX6_bestScheme_6 : decode cX6_bestScheme 6 = .ok (.istore_n 1, 1) := by decide +kernel
theorem dX6_bestScheme_7 : decode cX6_bestScheme 7 = .ok (.aload_n 0, 1) := by decide +kernel
theorem dX6_bestScheme_8 : decode cX6_bestScheme 8 = .ok (.iconst 0, 1) := by decide +kernel
theorem dX6_bestScheme_9 : decode cX6_bestScheme 9 = .ok (.iconst 0, 1) := by decide +kernel
theorem dX6_bestScheme_10 : decode cX6_bestScheme 10 = .ok (.invokevirtual 333, 3) := by decide +kernel
theorem dX6_bestScheme_13 : decode cX6_bestScheme 13 = .ok (.istore_n 2, 1) := by decide +kernel
theorem dX6_bestScheme_14 : decode cX6_bestScheme 14 = .ok (.iconst 1, 1) := by decide +kernel
theorem dX6_bestScheme_15 : decode cX6_bestScheme 15 = .ok (.istore_n 3, 1) := by decide +kernel
theorem dX6_bestScheme_16 : decode cX6_bestScheme 16 = .ok (.iload_n 3, 1) := by decide +kernel
theorem dX6_bestScheme_17 : decode cX6_bestScheme 17 = .ok (.bipush 9, 2) := by decide +kernel
theorem dX6_bestScheme_19 : decode cX6_bestScheme 19 = .ok (.if_icmp .ge 32, 3) := by decide +kernel
theorem dX6_bestScheme_22 : decode cX6_bestScheme 22 = .ok (.aload_n 0, 1) := by decide +kernel
theorem dX6_bestScheme_23 : decode cX6_bestScheme 23 = .ok (.iload_n 3, 1) := by decide +kernel
theorem dX6_bestScheme_24 : decode cX6_bestScheme 24 = .ok (.iconst 3, 1) := by decide +kernel
theorem dX6_bestScheme_25 : decode cX6_bestScheme 25 = .ok (.idiv, 1) := by decide +kernel
theorem dX6_bestScheme_26 : decode cX6_bestScheme 26 = .ok (.iload_n 3, 1) := by decide +kernel
theorem dX6_bestScheme_27 : decode cX6_bestScheme 27 = .ok (.iconst 3, 1) := by decide +kernel
theorem dX6_bestScheme_28 : decode cX6_bestScheme 28 = .ok (.irem, 1) := by decide +kernel
theorem dX6_bestScheme_29 : decode cX6_bestScheme 29 = .ok (.invokevirtual 333, 3) := by decide +kernel
theorem dX6_bestScheme_32 : decode cX6_bestScheme 32 = .ok (.istore 4, 2) := by decide +kernel
theorem dX6_bestScheme_34 : decode cX6_bestScheme 34 = .ok (.iload 4, 2) := by decide +kernel
theorem dX6_bestScheme_36 : decode cX6_bestScheme 36 = .ok (.iload_n 2, 1) := by decide +kernel
theorem dX6_bestScheme_37 : decode cX6_bestScheme 37 = .ok (.if_icmp .ge 8, 3) := by decide +kernel
theorem dX6_bestScheme_40 : decode cX6_bestScheme 40 = .ok (.iload_n 3, 1) := by decide +kernel
theorem dX6_bestScheme_41 : decode cX6_bestScheme 41 = .ok (.istore_n 1, 1) := by decide +kernel
theorem dX6_bestScheme_42 : decode cX6_bestScheme 42 = .ok (.iload 4, 2) := by decide +kernel
theorem dX6_bestScheme_44 : decode cX6_bestScheme 44 = .ok (.istore_n 2, 1) := by decide +kernel
theorem dX6_bestScheme_45 : decode cX6_bestScheme 45 = .ok (.iinc 3 1, 3) := by decide +kernel
theorem dX6_bestScheme_48 : decode cX6_bestScheme 48 = .ok (.goto (-32), 3) := by decide +kernel
theorem dX6_bestScheme_51 : decode cX6_bestScheme 51 = .ok (.iload_n 1, 1) := by decide +kernel
theorem dX6_bestScheme_52 : decode cX6_bestScheme 52 = .ok (.ireturn, 1) := by decide +kernel
theorem dX6_bitsBy_0 : decode cX6_bitsBy 0 = .ok (.aload_n 0, 1) := by decide +kernel
theorem dX6_bitsBy_1 : decode cX6_bitsBy 1 = .ok (.iload_n 1, 1) := by decide +kernel
theorem dX6_bitsBy_2 : decode cX6_bitsBy 2 = .ok (.i2l, 1) := by decide +kernel
theorem dX6_bitsBy_3 : decode cX6_bitsBy 3 = .ok (.lconst 0, 1) := by decide +kernel
theorem dX6_bitsBy_4 : decode cX6_bitsBy 4 = .ok (.ldc2_w 246, 3) := by decide +kernel
theorem dX6_bitsBy_7 : decode cX6_bitsBy 7 = .ok (.invokestatic 84, 3) := by decide +kernel
theorem dX6_bitsBy_10 : decode cX6_bitsBy 10 = .ok (.ifCond .eq 19, 3) := by decide +kernel
theorem dX6_bitsBy_13 : decode cX6_bitsBy 13 = .ok (.iload_n 2, 1) := by decide +kernel
theorem dX6_bitsBy_14 : decode cX6_bitsBy 14 = .ok (.i2l, 1) := by decide +kernel
theorem dX6_bitsBy_15 : decode cX6_bitsBy 15 = .ok (.lconst 0, 1) := by decide +kernel
theorem dX6_bitsBy_16 : decode cX6_bitsBy 16 = .ok (.ldc2_w 246, 3) := by decide +kernel
theorem dX6_bitsBy_19 : decode cX6_bitsBy 19 = .ok (.invokestatic 84, 3) := by decide +kernel
theorem dX6_bitsBy_22 : decode cX6_bitsBy 22 = .ok (.ifCond .eq 7, 3) := by decide +kernel
theorem dX6_bitsBy_25 : decode cX6_bitsBy 25 = .ok (.iconst 0, 1) := by decide +kernel
theorem dX6_bitsBy_26 : decode cX6_bitsBy 26 = .ok (.goto 4, 3) := by decide +kernel
theorem dX6_bitsBy_29 : decode cX6_bitsBy 29 = .ok (.iconst 1, 1) := by decide +kernel
theorem dX6_bitsBy_30 : decode cX6_bitsBy 30 = .ok (.putfield 64, 3) := by decide +kernel
theorem dX6_bitsBy_33 : decode cX6_bitsBy 33 = .ok (.aload_n 0, 1) := by decide +kernel
theorem dX6_bitsBy_34 : decode cX6_bitsBy 34 = .ok (.getfield 64, 3) := by decide +kernel
theorem dX6_bitsBy_37 : decode cX6_bitsBy 37 = .ok (.ifCond .le 7, 3) := by decide +kernel
theorem dX6_bitsBy_40 : decode cX6_bitsBy 40 = .ok (.iconst 0, 1) := by decide +kernel
theorem dX6_bitsBy_41 : decode cX6_bitsBy 41 = .ok (.goto 9, 3) := by decide +kernel
theorem dX6_bitsBy_44 : decode cX6_bitsBy 44 = .ok (.aload_n 0, 1) := by decide +kernel
theorem dX6_bitsBy_45 : decode cX6_bitsBy 45 = .ok (.iload_n 1, 1) := by decide +kernel
theorem dX6_bitsBy_46 : decode cX6_bitsBy 46 = .ok (.iload_n 2, 1) := by decide +kernel
theorem dX6_bitsBy_47 : decode cX6_bitsBy 47 = .ok (.invokevirtual 333, 3) := by decide +kernel
theorem dX6_bitsBy_50 : decode cX6_bitsBy 50 = .ok (.ireturn, 1) := by decide +kernel
theorem dX6_bitsOf_0 : decode cX6_bitsOf 0 = .ok (.aload_n 0, 1) := by decide +kernel
theorem dX6_bitsOf_1 : decode cX6_bitsOf 1 = .ok (.invokevirtual 323, 3) := by decide +kernel
theorem dX6_bitsOf_4 : decode cX6_bitsOf 4 = .ok (.aload_n 0, 1) := by decide +kernel
theorem dX6_bitsOf_5 : decode cX6_bitsOf 5 = .ok (.getfield 7, 3) := by decide +kernel
theorem dX6_bitsOf_8 : decode cX6_bitsOf 8 = .ok (.iconst 0, 1) := by decide +kernel
theorem dX6_bitsOf_9 : decode cX6_bitsOf 9 = .ok (.iload_n 1, 1) := by decide +kernel
theorem dX6_bitsOf_10 : decode cX6_bitsOf 10 = .ok (.i2l, 1) := by decide +kernel
theorem dX6_bitsOf_11 : decode cX6_bitsOf 11 = .ok (.lastore, 1) := by decide +kernel
theorem dX6_bitsOf_12 : decode cX6_bitsOf 12 = .ok (.aload_n 0, 1) := by decide +kernel
theorem dX6_bitsOf_13 : decode cX6_bitsOf 13 = .ok (.getfield 7, 3) := by decide +kernel
theorem dX6_bitsOf_16 : decode cX6_bitsOf 16 = .ok (.iconst 1, 1) := by decide +kernel
theorem dX6_bitsOf_17 : decode cX6_bitsOf 17 = .ok (.iload_n 2, 1) := by decide +kernel
theorem dX6_bitsOf_18 : decode cX6_bitsOf 18 = .ok (.i2l, 1) := by decide +kernel
theorem dX6_bitsOf_19 : decode cX6_bitsOf 19 = .ok (.lastore, 1) := by decide +kernel
theorem dX6_bitsOf_20 : decode cX6_bitsOf 20 = .ok (.aload_n 0, 1) := by decide +kernel
theorem dX6_bitsOf_21 : decode cX6_bitsOf 21 = .ok (.invokevirtual 191, 3) := by decide +kernel
theorem dX6_bitsOf_24 : decode cX6_bitsOf 24 = .ok (.aload_n 0, 1) := by decide +kernel
theorem dX6_bitsOf_25 : decode cX6_bitsOf 25 = .ok (.bipush 46, 2) := by decide +kernel
theorem dX6_bitsOf_27 : decode cX6_bitsOf 27 = .ok (.invokevirtual 306, 3) := by decide +kernel
theorem dX6_bitsOf_30 : decode cX6_bitsOf 30 = .ok (.istore_n 3, 1) := by decide +kernel
theorem dX6_bitsOf_31 : decode cX6_bitsOf 31 = .ok (.aload_n 0, 1) := by decide +kernel
theorem dX6_bitsOf_32 : decode cX6_bitsOf 32 = .ok (.invokevirtual 248, 3) := by decide +kernel
theorem dX6_bitsOf_35 : decode cX6_bitsOf 35 = .ok (.istore_n 3, 1) := by decide +kernel
theorem dX6_bitsOf_36 : decode cX6_bitsOf 36 = .ok (.aload_n 0, 1) := by decide +kernel
theorem dX6_bitsOf_37 : decode cX6_bitsOf 37 = .ok (.invokevirtual 320, 3) := by decide +kernel
theorem dX6_bitsOf_40 : decode cX6_bitsOf 40 = .ok (.iload_n 3, 1) := by decide +kernel
theorem dX6_bitsOf_41 : decode cX6_bitsOf 41 = .ok (.ireturn, 1) := by decide +kernel
set_option maxHeartbeats 4000000 in
set_option maxRecDepth 100000 in
theorem X6_bitsOf (l : Launch) (κ : Kt) (σ0 : Gh) (this : Nat) (sp : Int32) (pr : Int32) (t_this : zk σ0 this 20) (h0 : RI κ σ0 this) : TC l yX6_bitsOf cX6_bitsOf 4 (some .int) 7 159 [.ref this, .int sp, .int pr] κ σ0 (tqi κ gYb σ0 (fun (r : Int32) (τ : Gh) => (RI κ τ this) ∧ (∀ j : Nat, j < 3 → zJ τ (kR κ this 1) j = zJ σ0 (kR κ this 1) j))) := by
  refine TC.of gYb (by decide +kernel) (Nat.le_of_ble_eq_true rfl) ?_
  intro p e s m below meth c ls hcs hK hX hT hl
  obtain ⟨hx, hb, hr, hml, hown, hg, hlocks, hin⟩ := hcs
  have hown : s.vm.findClass RX6 = some m.cls := hown
  have hl : lv_has ls 4 [(0, .ref this), (1, .int sp), (2, .int pr)] := hl
  have hT0 := hT
  have n0 : (0 : Int32).toInt = 0 := by decide
  have n1 : (1 : Int32).toInt = 1 := by decide
  have n46 : (46 : Int32).toInt = 46 := by decide
  have sp_lo := Int32.le_toInt sp
  have sp_hi := Int32.toInt_lt sp
  have pr_lo := Int32.le_toInt pr
  have pr_hi := Int32.toInt_lt pr
  generalize hQ9 : tQ _ _ _ _ _ _ = Q9
  obtain ⟨rW, erW⟩ : ∃ z, kR κ this 1 = z := ⟨_, rfl⟩
  have trW : zk σ0 rW 21 := by rw [← erW]; exact h0.1.2.1
  obtain ⟨rP, erP⟩ : ∃ z, kR κ this 5 = z := ⟨_, rfl⟩
  have trP : zk σ0 rP 25 := by rw [← erP]; exact h0.1.2.2.2.2
  have hB0 := h0.b
  rw [erW] at hB0
  have hW := h0.2.1
  rw [erW] at hW
  have hP := h0.2.2.1
  rw [erP] at hP
  have hrN : (rN σ0 this : Int) = (zI σ0 this 7).toInt := by unfold rN; omega
  obtain ⟨rA, erA⟩ : ∃ z, kR κ this 2 = z := ⟨_, rfl⟩
  have trA : zk σ0 rA 30 := by rw [← erA]; exact hT0.ref t_this (by decide) (by decide) (by decide)
  have wv0_0 : zJ σ0 rW 0 = zJ σ0 rW 0 := rfl
  have wv1_0 : zJ σ0 rW 1 = zJ σ0 rW 1 := rfl
  have wv2_0 : zJ σ0 rW 2 = zJ σ0 rW 2 := rfl
  refine lv_aload_n hx hb dX6_bitsOf_0 rfl (lv_at hl 0 rfl) ?_
  have hTo := hT
  refine tVv (n := 0) (As := []) (rest := []) hx hb hml hown hg hT hK hX (X6_puts l κ σ0 this  (hT.k t_this (by decide)) h0) sub_gA_gYb (mwV k1646 k1648 k78 k92 k1649) ⟨rfl, by decide, by decide, by decide +kernel⟩ ⟨(Nat.le_of_ble_eq_true rfl), (Nat.le_of_ble_eq_true rfl)⟩ (hT.o20 (hT.k t_this (by decide))) rfl rfl hl.1 rfl (Nat.le_of_ble_eq_true rfl) dX6_bitsOf_1 zroom.rf (fun s2 H locs hφ hEs2 hT => ?_)
  have R3 : RI κ s2 this := h0.ext hEs2 ⟨rfl, rfl, fun _ => rfl, fun _ => rfl, fun _ => rfl, fun _ => rfl⟩
  have B4 := R3.b
  rw [erW] at B4
  have K5 : zI s2 this 7 = zI σ0 this 7 := hT.eI t_this (by decide) rfl rfl
  have K5n : (zI s2 this 7).toInt = (zI σ0 this 7).toInt := by rw [K5]
  have P6 : zI s2 rP = zI σ0 rP := funext fun k => hT.eI trP (by decide) rfl rfl
  try simp only [K5, P6] at B4
  have wv7 : zJ s2 rW 0 = zJ σ0 rW 0 := ((hTo.k trW (by decide)).eJ hEs2 (by decide) rfl).trans wv0_0
  have wv8 : zJ s2 rW 1 = zJ σ0 rW 1 := ((hTo.k trW (by decide)).eJ hEs2 (by decide) rfl).trans wv1_0
  have wv9 : zJ s2 rW 2 = zJ σ0 rW 2 := ((hTo.k trW (by decide)).eJ hEs2 (by decide) rfl).trans wv2_0
  have f10 := hφ
  try simp only [erW, erP, ix_0, ix_1, ix_2, ix_3, ix_4, ix_5, ix_6, ix_7, ix_8, ix_9, K5, P6] at f10
  have wv11 : zJ s2 rA 0 = zJ σ0 rW 0 := by have z9 := f10 0 (by decide); (try rw [erW] at z9); (try rw [erA] at z9); exact z9.trans wv0_0
  have wv12 : zJ s2 rA 1 = zJ σ0 rW 1 := by have z9 := f10 1 (by decide); (try rw [erW] at z9); (try rw [erA] at z9); exact z9.trans wv1_0
  have wv13 : zJ s2 rA 2 = zJ σ0 rW 2 := by have z9 := f10 2 (by decide); (try rw [erW] at z9); (try rw [erA] at z9); exact z9.trans wv2_0
  have EE14 : zJ s2 rW = zJ σ0 rW := funext fun k => (hTo.k trW (by decide)).eJ hEs2 (by decide) rfl
  rw [erA] at f10
  have A15 : WI (rN s2 this) (zJ s2 rA) := R3.2.1.of609 (fun j hj => by rw [erW, EE14]; exact f10 j hj)
  refine lv_aload_n hx hb dX6_bitsOf_4 rfl (lv_at hl 0 rfl) ?_
  refine va_get (D := κ.1) (ci := 6) (v := .ref (kR κ this 1)) (C := RX6) (T := TX6) (N := 27) hx hb hg inX6 hown hK (hT.o20 (hT.k t_this (by decide))).one 0 rfl rfl 1 (by decide) (hg _ k1220) (fun _ h9 => h9) rfl dX6_bitsOf_5 ?_
  rw [erW]
  refine lv_iconst (v := 0) hx hb dX6_bitsOf_8 (by decide) ?_
  refine lv_iload_n hx hb dX6_bitsOf_9 rfl (lv_at hl 1 rfl) ?_
  refine lv_i2l hx hb dX6_bitsOf_10 rfl ?_
  refine g_i2l (fun t16 ht16 => ?_)
  have hTo := hT
  refine tastl (n := 609) hx hb hK hT (hT.k trW (by decide)) ⟨by decide, by decide⟩ (fun _ _ _ => rfl) (fun _ _ => trivial) (fun _ => rfl) (by omega) (by omega) dX6_bitsOf_11 (fun H locs s17 hus17 hT => ?_)
  have A18 : WI (rN s17 this) (zJ s17 rA) := by rw [show zJ s17 rA = zJ s2 rA from zpul_Jo hus17 ((hTo.k trA (by decide)).ne (hTo.k trW (by decide)) (by decide)), show rN s17 this = rN s2 this from by unfold rN; rw [zpul_I hus17]]; exact A15
  have R19 : RI κ s17 this := R3.pulw hus17 erW (nrel (by unfold ix; omega))
  have B20 := R19.b
  rw [erW] at B20
  have K21 : zI s17 this 7 = zI σ0 this 7 := hT.eI t_this (by decide) rfl rfl
  have K21n : (zI s17 this 7).toInt = (zI σ0 this 7).toInt := by rw [K21]
  have P22 : zI s17 rP = zI σ0 rP := funext fun k => hT.eI trP (by decide) rfl rfl
  try simp only [K21, P22] at B20
  have wv23 : zJ s17 rW 0 = t16 := by rw [zpul_Ja hus17]; exact if_pos (by decide)
  have wv24 : zJ s17 rW 1 = zJ σ0 rW 1 := (show zJ s17 rW 1 = zJ s2 rW 1 from by rw [zpul_Ja hus17]; exact if_neg (show 1 ≠ ix 0 from by decide)).trans wv8
  have wv25 : zJ s17 rW 2 = zJ σ0 rW 2 := (show zJ s17 rW 2 = zJ s2 rW 2 from by rw [zpul_Ja hus17]; exact if_neg (show 2 ≠ ix 0 from by decide)).trans wv9
  have wv26 : zJ s17 rA 0 = zJ σ0 rW 0 := (congrFun (zpul_Jo hus17 ((hTo.k trA (by decide)).ne (hTo.k trW (by decide)) (by decide))) 0).trans wv11
  have wv27 : zJ s17 rA 1 = zJ σ0 rW 1 := (congrFun (zpul_Jo hus17 ((hTo.k trA (by decide)).ne (hTo.k trW (by decide)) (by decide))) 1).trans wv12
  have wv28 : zJ s17 rA 2 = zJ σ0 rW 2 := (congrFun (zpul_Jo hus17 ((hTo.k trA (by decide)).ne (hTo.k trW (by decide)) (by decide))) 2).trans wv13
  refine lv_aload_n hx hb dX6_bitsOf_12 rfl (lv_at hl 0 rfl) ?_
  refine va_get (D := κ.1) (ci := 6) (v := .ref (kR κ this 1)) (C := RX6) (T := TX6) (N := 27) hx hb hg inX6 hown hK (hT.o20 (hT.k t_this (by decide))).one 0 rfl rfl 1 (by decide) (hg _ k1220) (fun _ h9 => h9) rfl dX6_bitsOf_13 ?_
  rw [erW]
  refine lv_iconst (v := 1) hx hb dX6_bitsOf_16 (by decide) ?_
  refine lv_iload_n hx hb dX6_bitsOf_17 rfl (lv_at hl 2 rfl) ?_
  refine lv_i2l hx hb dX6_bitsOf_18 rfl ?_
  refine g_i2l (fun t29 ht29 => ?_)
  have hTo := hT
  refine tastl (n := 609) hx hb hK hT (hT.k trW (by decide)) ⟨by decide, by decide⟩ (fun _ _ _ => rfl) (fun _ _ => trivial) (fun _ => rfl) (by omega) (by omega) dX6_bitsOf_19 (fun H locs s30 hus30 hT => ?_)
  have A31 : WI (rN s30 this) (zJ s30 rA) := by rw [show zJ s30 rA = zJ s17 rA from zpul_Jo hus30 ((hTo.k trA (by decide)).ne (hTo.k trW (by decide)) (by decide)), show rN s30 this = rN s17 this from by unfold rN; rw [zpul_I hus30]]; exact A18
  have R32 : RI κ s30 this := R19.pulw hus30 erW (nrel (by unfold ix; omega))
  have B33 := R32.b
  rw [erW] at B33
  have K34 : zI s30 this 7 = zI σ0 this 7 := hT.eI t_this (by decide) rfl rfl
  have K34n : (zI s30 this 7).toInt = (zI σ0 this 7).toInt := by rw [K34]
  have P35 : zI s30 rP = zI σ0 rP := funext fun k => hT.eI trP (by decide) rfl rfl
  try simp only [K34, P35] at B33
  have wv36 : zJ s30 rW 0 = t16 := (show zJ s30 rW 0 = zJ s17 rW 0 from by rw [zpul_Ja hus30]; exact if_neg (show 0 ≠ ix 1 from by decide)).trans wv23
  have wv37 : zJ s30 rW 1 = t29 := by rw [zpul_Ja hus30]; exact if_pos (by decide)
  have wv38 : zJ s30 rW 2 = zJ σ0 rW 2 := (show zJ s30 rW 2 = zJ s17 rW 2 from by rw [zpul_Ja hus30]; exact if_neg (show 2 ≠ ix 1 from by decide)).trans wv25
  have wv39 : zJ s30 rA 0 = zJ σ0 rW 0 := (congrFun (zpul_Jo hus30 ((hTo.k trA (by decide)).ne (hTo.k trW (by decide)) (by decide))) 0).trans wv26
  have wv40 : zJ s30 rA 1 = zJ σ0 rW 1 := (congrFun (zpul_Jo hus30 ((hTo.k trA (by decide)).ne (hTo.k trW (by decide)) (by decide))) 1).trans wv27
  have wv41 : zJ s30 rA 2 = zJ σ0 rW 2 := (congrFun (zpul_Jo hus30 ((hTo.k trA (by decide)).ne (hTo.k trW (by decide)) (by decide))) 2).trans wv28
  refine lv_aload_n hx hb dX6_bitsOf_20 rfl (lv_at hl 0 rfl) ?_
  have hTo := hT
  refine tVv (n := 0) (As := []) (rest := []) hx hb hml hown hg hT hK hX (X6_anew l κ s30 this  (hT.k t_this (by decide)) R32.2.2.1 (by omega) (by omega)) sub_gW_gYb (mwV k1214 k1216 k35 k92 k1217) ⟨rfl, by decide, by decide, by decide +kernel⟩ ⟨(Nat.le_of_ble_eq_true rfl), (Nat.le_of_ble_eq_true rfl)⟩ (hT.o20 (hT.k t_this (by decide))) rfl rfl hl.1 rfl (Nat.le_of_ble_eq_true rfl) dX6_bitsOf_21 zroom.rf (fun s43 H locs hφ hEs43 hT => ?_)
  have A44 : WI (rN s43 this) (zJ s43 rA) := by rw [show zJ s43 rA = zJ s30 rA from funext fun k => (hTo.k trA (by decide)).eJ hEs43 (by decide) rfl, show rN s43 this = rN s30 this from by unfold rN; rw [(hTo.k t_this (by decide)).eI hEs43 (by decide) rfl]]; exact A31
  have wv46 : zJ s43 rW 0 = t16 := ((hTo.k trW (by decide)).eJ hEs43 (by decide) (lt3_gW 0 (by decide))).trans wv36
  have wv47 : zJ s43 rW 1 = t29 := ((hTo.k trW (by decide)).eJ hEs43 (by decide) (lt3_gW 1 (by decide))).trans wv37
  have wv48 : zJ s43 rW 2 = zJ σ0 rW 2 := ((hTo.k trW (by decide)).eJ hEs43 (by decide) (lt3_gW 2 (by decide))).trans wv38
  have wv49 : zJ s43 rA 0 = zJ σ0 rW 0 := ((hTo.k trA (by decide)).eJ hEs43 (by decide) rfl).trans wv39
  have wv50 : zJ s43 rA 1 = zJ σ0 rW 1 := ((hTo.k trA (by decide)).eJ hEs43 (by decide) rfl).trans wv40
  have wv51 : zJ s43 rA 2 = zJ σ0 rW 2 := ((hTo.k trA (by decide)).eJ hEs43 (by decide) rfl).trans wv41
  have f52 := hφ
  have K53 : zI s43 this 7 = zI σ0 this 7 := hT.eI t_this (by decide) rfl rfl
  have K53n : (zI s43 this 7).toInt = (zI σ0 this 7).toInt := by rw [K53]
  have P54 : zI s43 rP = zI σ0 rP := funext fun k => hT.eI trP (by decide) rfl rfl
  try simp only [erW, erP, ix_0, ix_1, ix_2, ix_3, ix_4, ix_5, ix_6, ix_7, ix_8, ix_9, K34, P35, K53, P54] at f52
  have R55 : RI κ s43 this := R32.extw hEs43 ⟨rfl, rfl, fun _ => rfl, fun _ => rfl, fun _ => rfl⟩ (by first | exact f52 | (rw [erW]; exact f52))
  have B56 := R55.b
  rw [erW] at B56
  try simp only [K53, P54] at B56
  refine lv_aload_n hx hb dX6_bitsOf_24 rfl (lv_at hl 0 rfl) ?_
  refine lv_bipush (v := 46) hx hb dX6_bitsOf_25 (by decide) ?_
  have hTo := hT
  refine tVi (n := 1) (As := [.int 46]) (rest := []) hx hb hml hown hg hT hK hX (X6_goesOn l κ s43 this 46  (hT.k t_this (by decide)) R55 (by omega)) sub_gW_gYb (mwV k1588 k1590 k71 k92 k1591) ⟨rfl, by decide, by decide, by decide +kernel⟩ ⟨(Nat.le_of_ble_eq_true rfl), (Nat.le_of_ble_eq_true rfl)⟩ (hT.o20 (hT.k t_this (by decide))) rfl rfl hl.1 rfl (Nat.le_of_ble_eq_true rfl) dX6_bitsOf_27 zroom.rf (fun x57 s58 H locs hφ hEs58 hT => ?_)
  have A59 : WI (rN s58 this) (zJ s58 rA) := by rw [show zJ s58 rA = zJ s43 rA from funext fun k => (hTo.k trA (by decide)).eJ hEs58 (by decide) rfl, show rN s58 this = rN s43 this from by unfold rN; rw [(hTo.k t_this (by decide)).eI hEs58 (by decide) rfl]]; exact A44
  have wv61 : zJ s58 rW 0 = t16 := ((hTo.k trW (by decide)).eJ hEs58 (by decide) (lt3_gW 0 (by decide))).trans wv46
  have wv62 : zJ s58 rW 1 = t29 := ((hTo.k trW (by decide)).eJ hEs58 (by decide) (lt3_gW 1 (by decide))).trans wv47
  have wv63 : zJ s58 rW 2 = zJ σ0 rW 2 := ((hTo.k trW (by decide)).eJ hEs58 (by decide) (lt3_gW 2 (by decide))).trans wv48
  have wv64 : zJ s58 rA 0 = zJ σ0 rW 0 := ((hTo.k trA (by decide)).eJ hEs58 (by decide) rfl).trans wv49
  have wv65 : zJ s58 rA 1 = zJ σ0 rW 1 := ((hTo.k trA (by decide)).eJ hEs58 (by decide) rfl).trans wv50
  have wv66 : zJ s58 rA 2 = zJ σ0 rW 2 := ((hTo.k trA (by decide)).eJ hEs58 (by decide) rfl).trans wv51
  have f67 := hφ
  have B68 := f67.b
  rw [erW] at B68
  have K69 : zI s58 this 7 = zI σ0 this 7 := hT.eI t_this (by decide) rfl rfl
  have K69n : (zI s58 this 7).toInt = (zI σ0 this 7).toInt := by rw [K69]
  have P70 : zI s58 rP = zI σ0 rP := funext fun k => hT.eI trP (by decide) rfl rfl
  try simp only [K69, P70] at B68
  refine lv_istore_n (lv' := [(3, .int x57), (0, .ref this), (1, .int sp), (2, .int pr)]) hx hb dX6_bitsOf_30 rfl hl (by decide) rfl (fun ls hl => ?_)
  refine lv_aload_n hx hb dX6_bitsOf_31 rfl (lv_at hl 1 rfl) ?_
  have hTo := hT
  refine tVi (n := 0) (As := []) (rest := []) hx hb hml hown hg hT hK hX (X6_bitsNow l κ s58 this  (hT.k t_this (by decide)) f67) sub_fE_gYb (mwV k1506 k1508 k61 k92 k1509) ⟨rfl, by decide, by decide, by decide +kernel⟩ ⟨(Nat.le_of_ble_eq_true rfl), (Nat.le_of_ble_eq_true rfl)⟩ (hT.o20 (hT.k t_this (by decide))) rfl rfl hl.1 rfl (Nat.le_of_ble_eq_true rfl) dX6_bitsOf_32 zroom.rf (fun x71 s72 H locs hφ hEs72 hT => ?_)
  have A73 : WI (rN s72 this) (zJ s72 rA) := by rw [show zJ s72 rA = zJ s58 rA from funext fun k => (hTo.k trA (by decide)).eJ hEs72 (by decide) rfl, show rN s72 this = rN s58 this from by unfold rN; rw [(hTo.k t_this (by decide)).eI hEs72 (by decide) rfl]]; exact A59
  have R74 : RI κ s72 this := f67.ext hEs72 ⟨rfl, rfl, fun _ => rfl, fun _ => rfl, fun _ => rfl, fun _ => rfl⟩
  have B75 := R74.b
  rw [erW] at B75
  have K76 : zI s72 this 7 = zI σ0 this 7 := hT.eI t_this (by decide) rfl rfl
  have K76n : (zI s72 this 7).toInt = (zI σ0 this 7).toInt := by rw [K76]
  have P77 : zI s72 rP = zI σ0 rP := funext fun k => hT.eI trP (by decide) rfl rfl
  try simp only [K76, P77] at B75
  have wv78 : zJ s72 rW 0 = t16 := ((hTo.k trW (by decide)).eJ hEs72 (by decide) rfl).trans wv61
  have wv79 : zJ s72 rW 1 = t29 := ((hTo.k trW (by decide)).eJ hEs72 (by decide) rfl).trans wv62
  have wv80 : zJ s72 rW 2 = zJ σ0 rW 2 := ((hTo.k trW (by decide)).eJ hEs72 (by decide) rfl).trans wv63
  have wv81 : zJ s72 rA 0 = zJ σ0 rW 0 := ((hTo.k trA (by decide)).eJ hEs72 (by decide) rfl).trans wv64
  have wv82 : zJ s72 rA 1 = zJ σ0 rW 1 := ((hTo.k trA (by decide)).eJ hEs72 (by decide) rfl).trans wv65
  have wv83 : zJ s72 rA 2 = zJ σ0 rW 2 := ((hTo.k trA (by decide)).eJ hEs72 (by decide) rfl).trans wv66
  refine lv_istore_n (lv' := [(3, .int x71), (0, .ref this), (1, .int sp), (2, .int pr)]) hx hb dX6_bitsOf_35 rfl hl (by decide) rfl (fun ls hl => ?_)
  refine lv_aload_n hx hb dX6_bitsOf_36 rfl (lv_at hl 1 rfl) ?_
  have hTo := hT
  refine tVv (n := 0) (As := []) (rest := []) hx hb hml hown hg hT hK hX (X6_takesBack l κ s72 this  (hT.k t_this (by decide)) R74) sub_gWb_gYb (mwV k1654 k1656 k80 k92 k1657) ⟨rfl, by decide, by decide, by decide +kernel⟩ ⟨(Nat.le_of_ble_eq_true rfl), (Nat.le_of_ble_eq_true rfl)⟩ (hT.o20 (hT.k t_this (by decide))) rfl rfl hl.1 rfl (Nat.le_of_ble_eq_true rfl) dX6_bitsOf_37 zroom.rf (fun s85 H locs hφ hEs85 hT => ?_)
  have A86 : WI (rN s85 this) (zJ s85 rA) := by rw [show zJ s85 rA = zJ s72 rA from funext fun k => (hTo.k trA (by decide)).eJ hEs85 (by decide) rfl, show rN s85 this = rN s72 this from by unfold rN; rw [(hTo.k t_this (by decide)).eI hEs85 (by decide) rfl]]; exact A73
  have wv88 : zJ s85 rA 0 = zJ σ0 rW 0 := ((hTo.k trA (by decide)).eJ hEs85 (by decide) rfl).trans wv81
  have wv89 : zJ s85 rA 1 = zJ σ0 rW 1 := ((hTo.k trA (by decide)).eJ hEs85 (by decide) rfl).trans wv82
  have wv90 : zJ s85 rA 2 = zJ σ0 rW 2 := ((hTo.k trA (by decide)).eJ hEs85 (by decide) rfl).trans wv83
  have f91 := hφ
  have K92 : zI s85 this 7 = zI σ0 this 7 := hT.eI t_this (by decide) rfl rfl
  have K92n : (zI s85 this 7).toInt = (zI σ0 this 7).toInt := by rw [K92]
  have P93 : zI s85 rP = zI σ0 rP := funext fun k => hT.eI trP (by decide) rfl rfl
  try simp only [erW, erP, ix_0, ix_1, ix_2, ix_3, ix_4, ix_5, ix_6, ix_7, ix_8, ix_9, K76, P77, K92, P93] at f91
  have wv94 : zJ s85 rW 0 = zJ σ0 rW 0 := by have z9 := f91 0 (by decide); (try rw [erW] at z9); (try rw [erA] at z9); exact z9.trans wv81
  have wv95 : zJ s85 rW 1 = zJ σ0 rW 1 := by have z9 := f91 1 (by decide); (try rw [erW] at z9); (try rw [erA] at z9); exact z9.trans wv82
  have wv96 : zJ s85 rW 2 = zJ σ0 rW 2 := by have z9 := f91 2 (by decide); (try rw [erW] at z9); (try rw [erA] at z9); exact z9.trans wv83
  rw [erA] at f91
  have R97 : RI κ s85 this := R74.extw hEs85 ⟨rfl, rfl, fun _ => rfl, fun _ => rfl, fun _ => rfl⟩ (by rw [erW]; exact A73.of609 (fun j hj => f91 j hj))
  have B98 := R97.b
  rw [erW] at B98
  try simp only [K92, P93] at B98
  refine lv_iload_n hx hb dX6_bitsOf_40 rfl (lv_at hl 0 rfl) ?_
  subst hQ9
  exact t_i hx hb hr hlocks hT ⟨R97, (by rw [erW]; exact (fun j hj => by rcases (show j = 0 ∨ j = 1 ∨ j = 2 by omega) with rfl | rfl | rfl <;> first | exact wv94 | exact wv95 | exact wv96))⟩ dX6_bitsOf_41
set_option maxHeartbeats 4000000 in
set_option maxRecDepth 100000 in
theorem X6_bitsBy (l : Launch) (κ : Kt) (σ0 : Gh) (this : Nat) (sp : Int32) (pr : Int32) (t_this : zk σ0 this 20) (h0 : RI κ σ0 this) : TC l yX6_bitsBy cX6_bitsBy 3 (some .int) 8 182 [.ref this, .int sp, .int pr] κ σ0 (tqi κ gZb σ0 (fun (r : Int32) (τ : Gh) => (RI κ τ this) ∧ (∀ j : Nat, j < 3 → zJ τ (kR κ this 1) j = zJ σ0 (kR κ this 1) j))) := by
  refine TC.of gZb (by decide +kernel) (Nat.le_of_ble_eq_true rfl) ?_
  intro p e s m below meth c ls hcs hK hX hT hl
  obtain ⟨hx, hb, hr, hml, hown, hg, hlocks, hin⟩ := hcs
  have hown : s.vm.findClass RX6 = some m.cls := hown
  have hl : lv_has ls 3 [(0, .ref this), (1, .int sp), (2, .int pr)] := hl
  have hT0 := hT
  have n0 : (0 : Int32).toInt = 0 := by decide
  have n1 : (1 : Int32).toInt = 1 := by decide
  have j0 : (0 : Int64).toInt = 0 := by decide
  have j2 : (2 : Int64).toInt = 2 := by decide
  have sp_lo := Int32.le_toInt sp
  have sp_hi := Int32.toInt_lt sp
  have pr_lo := Int32.le_toInt pr
  have pr_hi := Int32.toInt_lt pr
  generalize hQ9 : tQ _ _ _ _ _ _ = Q9
  obtain ⟨rW, erW⟩ : ∃ z, kR κ this 1 = z := ⟨_, rfl⟩
  have trW : zk σ0 rW 21 := by rw [← erW]; exact h0.1.2.1
  obtain ⟨rP, erP⟩ : ∃ z, kR κ this 5 = z := ⟨_, rfl⟩
  have trP : zk σ0 rP 25 := by rw [← erP]; exact h0.1.2.2.2.2
  have hB0 := h0.b
  rw [erW] at hB0
  have hW := h0.2.1
  rw [erW] at hW
  have hP := h0.2.2.1
  rw [erP] at hP
  have hrN : (rN σ0 this : Int) = (zI σ0 this 7).toInt := by unfold rN; omega
  have wv0_0 : zJ σ0 rW 0 = zJ σ0 rW 0 := rfl
  have wv1_0 : zJ σ0 rW 1 = zJ σ0 rW 1 := rfl
  have wv2_0 : zJ σ0 rW 2 = zJ σ0 rW 2 := rfl
  refine lv_aload_n hx hb dX6_bitsBy_0 rfl (lv_at hl 0 rfl) ?_
  refine lv_iload_n hx hb dX6_bitsBy_1 rfl (lv_at hl 1 rfl) ?_
  refine lv_i2l hx hb dX6_bitsBy_2 rfl ?_
  refine g_i2l (fun t1 ht1 => ?_)
  refine lv_lconst (v := 0) hx hb dX6_bitsBy_3 (by decide) ?_
  refine lv_ldc2 hx hb hown (hg _ k1510) dX6_bitsBy_4 ?_
  have hTo := hT
  refine tSi (n := 3) (As := [.long t1, .long 0, .long 2]) (rest := [.ref this]) hx hb hml hown hg hT hK hX (X6_in l κ σ0 t1 0 2   ) sub_fE_gZb (mwS k1317 k1318 k92 k1319) ⟨rfl, by decide, by decide, by decide +kernel⟩ ⟨(Nat.le_of_ble_eq_true rfl), (Nat.le_of_ble_eq_true rfl)⟩ rfl hl.1 rfl (Nat.le_of_ble_eq_true rfl) dX6_bitsBy_7 zroom.rf (fun x2 s3 H locs hφ hEs3 hT => ?_)
  have R4 : RI κ s3 this := h0.ext hEs3 ⟨rfl, rfl, fun _ => rfl, fun _ => rfl, fun _ => rfl, fun _ => rfl⟩
  have B5 := R4.b
  rw [erW] at B5
  have K6 : zI s3 this 7 = zI σ0 this 7 := hT.eI t_this (by decide) rfl rfl
  have K6n : (zI s3 this 7).toInt = (zI σ0 this 7).toInt := by rw [K6]
  have P7 : zI s3 rP = zI σ0 rP := funext fun k => hT.eI trP (by decide) rfl rfl
  try simp only [K6, P7] at B5
  have wv8 : zJ s3 rW 0 = zJ σ0 rW 0 := ((hTo.k trW (by decide)).eJ hEs3 (by decide) rfl).trans wv0_0
  have wv9 : zJ s3 rW 1 = zJ σ0 rW 1 := ((hTo.k trW (by decide)).eJ hEs3 (by decide) rfl).trans wv1_0
  have wv10 : zJ s3 rW 2 = zJ σ0 rW 2 := ((hTo.k trW (by decide)).eJ hEs3 (by decide) rfl).trans wv2_0
  obtain ⟨f11, f12⟩ := hφ
  try simp only [erW, erP, ix_0, ix_1, ix_2, ix_3, ix_4, ix_5, ix_6, ix_7, ix_8, ix_9, K6, P7] at f11
  refine lv_if_eq (tgt := 29) hx hb dX6_bitsBy_10 (by decide) (fun c9 => ?_) (fun c9 => ?_)
  · have c1 := gi_eq c9
    refine lv_iconst (v := 1) hx hb dX6_bitsBy_29 (by decide) ?_
    have hTo := hT
    refine pf20_0 hx hb hg hown hK hT (hT.k t_this (by decide)) rfl (hg _ k1219) dX6_bitsBy_30 (fun H locs s13 hus13 hT => ?_)
    have R14 : RI κ s13 this := R4.put hus13 (hTo.k t_this (by decide)) (by decide)
    have B15 := R14.b
    rw [erW] at B15
    have K16 : zI s13 this 7 = zI σ0 this 7 := hT.eI t_this (by decide) rfl rfl
    have K16n : (zI s13 this 7).toInt = (zI σ0 this 7).toInt := by rw [K16]
    have P17 : zI s13 rP = zI σ0 rP := funext fun k => hT.eI trP (by decide) rfl rfl
    try simp only [K16, P17] at B15
    have wv18 : zJ s13 rW 0 = zJ σ0 rW 0 := (congrFun (zput_J (x := rW) hus13) 0).trans wv8
    have wv19 : zJ s13 rW 1 = zJ σ0 rW 1 := (congrFun (zput_J (x := rW) hus13) 1).trans wv9
    have wv20 : zJ s13 rW 2 = zJ σ0 rW 2 := (congrFun (zput_J (x := rW) hus13) 2).trans wv10
    have e21 : zI s13 this 0 = 1 := zput_at hus13
    refine lv_aload_n hx hb dX6_bitsBy_33 rfl (lv_at hl 0 rfl) ?_
    refine va_get (D := κ.1) (ci := 6) (v := .int (zI s13 this 0)) (C := RX6) (T := TX6) (N := 27) hx hb hg inX6 hown hK (hT.o20 (hT.k t_this (by decide))).one 0 rfl rfl 0 (by decide) (hg _ k1219) (fun _ h9 => h9) rfl dX6_bitsBy_34 ?_
    rw [e21]
    refine lv_if_le (tgt := 44) hx hb dX6_bitsBy_37 (by decide) (fun c9 => absurd c9 (by decide)) (fun _ => ?_)
    refine lv_iconst (v := 0) hx hb dX6_bitsBy_40 (by decide) ?_
    refine lv_goto (tgt := 50) hx hb dX6_bitsBy_41 (by decide) ?_
    subst hQ9
    exact t_i hx hb hr hlocks hT ⟨R14, (by rw [erW]; exact (fun j hj => by rcases (show j = 0 ∨ j = 1 ∨ j = 2 by omega) with rfl | rfl | rfl <;> first | exact wv18 | exact wv19 | exact wv20))⟩ dX6_bitsBy_50
  · have c2 := gi_ne c9
    refine lv_iload_n hx hb dX6_bitsBy_13 rfl (lv_at hl 2 rfl) ?_
    refine lv_i2l hx hb dX6_bitsBy_14 rfl ?_
    refine g_i2l (fun t22 ht22 => ?_)
    refine lv_lconst (v := 0) hx hb dX6_bitsBy_15 (by decide) ?_
    refine lv_ldc2 hx hb hown (hg _ k1510) dX6_bitsBy_16 ?_
    have hTo := hT
    refine tSi (n := 3) (As := [.long t22, .long 0, .long 2]) (rest := [.ref this]) hx hb hml hown hg hT hK hX (X6_in l κ s3 t22 0 2   ) sub_fE_gZb (mwS k1317 k1318 k92 k1319) ⟨rfl, by decide, by decide, by decide +kernel⟩ ⟨(Nat.le_of_ble_eq_true rfl), (Nat.le_of_ble_eq_true rfl)⟩ rfl hl.1 rfl (Nat.le_of_ble_eq_true rfl) dX6_bitsBy_19 zroom.rf (fun x23 s24 H locs hφ hEs24 hT => ?_)
    have R25 : RI κ s24 this := R4.ext hEs24 ⟨rfl, rfl, fun _ => rfl, fun _ => rfl, fun _ => rfl, fun _ => rfl⟩
    have B26 := R25.b
    rw [erW] at B26
    have K27 : zI s24 this 7 = zI σ0 this 7 := hT.eI t_this (by decide) rfl rfl
    have K27n : (zI s24 this 7).toInt = (zI σ0 this 7).toInt := by rw [K27]
    have P28 : zI s24 rP = zI σ0 rP := funext fun k => hT.eI trP (by decide) rfl rfl
    try simp only [K27, P28] at B26
    have wv29 : zJ s24 rW 0 = zJ σ0 rW 0 := ((hTo.k trW (by decide)).eJ hEs24 (by decide) rfl).trans wv8
    have wv30 : zJ s24 rW 1 = zJ σ0 rW 1 := ((hTo.k trW (by decide)).eJ hEs24 (by decide) rfl).trans wv9
    have wv31 : zJ s24 rW 2 = zJ σ0 rW 2 := ((hTo.k trW (by decide)).eJ hEs24 (by decide) rfl).trans wv10
    obtain ⟨f32, f33⟩ := hφ
    try simp only [erW, erP, ix_0, ix_1, ix_2, ix_3, ix_4, ix_5, ix_6, ix_7, ix_8, ix_9, K6, P7, K27, P28] at f32
    refine lv_if_eq (tgt := 29) hx hb dX6_bitsBy_22 (by decide) (fun c9 => ?_) (fun c9 => ?_)
    · have c3 := gi_eq c9
      refine lv_iconst (v := 1) hx hb dX6_bitsBy_29 (by decide) ?_
      have hTo := hT
      refine pf20_0 hx hb hg hown hK hT (hT.k t_this (by decide)) rfl (hg _ k1219) dX6_bitsBy_30 (fun H locs s34 hus34 hT => ?_)
      have R35 : RI κ s34 this := R25.put hus34 (hTo.k t_this (by decide)) (by decide)
      have B36 := R35.b
      rw [erW] at B36
      have K37 : zI s34 this 7 = zI σ0 this 7 := hT.eI t_this (by decide) rfl rfl
      have K37n : (zI s34 this 7).toInt = (zI σ0 this 7).toInt := by rw [K37]
      have P38 : zI s34 rP = zI σ0 rP := funext fun k => hT.eI trP (by decide) rfl rfl
      try simp only [K37, P38] at B36
      have wv39 : zJ s34 rW 0 = zJ σ0 rW 0 := (congrFun (zput_J (x := rW) hus34) 0).trans wv29
      have wv40 : zJ s34 rW 1 = zJ σ0 rW 1 := (congrFun (zput_J (x := rW) hus34) 1).trans wv30
      have wv41 : zJ s34 rW 2 = zJ σ0 rW 2 := (congrFun (zput_J (x := rW) hus34) 2).trans wv31
      have e42 : zI s34 this 0 = 1 := zput_at hus34
      refine lv_aload_n hx hb dX6_bitsBy_33 rfl (lv_at hl 0 rfl) ?_
      refine va_get (D := κ.1) (ci := 6) (v := .int (zI s34 this 0)) (C := RX6) (T := TX6) (N := 27) hx hb hg inX6 hown hK (hT.o20 (hT.k t_this (by decide))).one 0 rfl rfl 0 (by decide) (hg _ k1219) (fun _ h9 => h9) rfl dX6_bitsBy_34 ?_
      rw [e42]
      refine lv_if_le (tgt := 44) hx hb dX6_bitsBy_37 (by decide) (fun c9 => absurd c9 (by decide)) (fun _ => ?_)
      refine lv_iconst (v := 0) hx hb dX6_bitsBy_40 (by decide) ?_
      refine lv_goto (tgt := 50) hx hb dX6_bitsBy_41 (by decide) ?_
      subst hQ9
      exact t_i hx hb hr hlocks hT ⟨R35, (by rw [erW]; exact (fun j hj => by rcases (show j = 0 ∨ j = 1 ∨ j = 2 by omega) with rfl | rfl | rfl <;> first | exact wv39 | exact wv40 | exact wv41))⟩ dX6_bitsBy_50
    · have c4 := gi_ne c9
      refine lv_iconst (v := 0) hx hb dX6_bitsBy_25 (by decide) ?_
      refine lv_goto (tgt := 30) hx hb dX6_bitsBy_26 (by decide) ?_
      have hTo := hT
      refine pf20_0 hx hb hg hown hK hT (hT.k t_this (by decide)) rfl (hg _ k1219) dX6_bitsBy_30 (fun H locs s43 hus43 hT => ?_)
      have R44 : RI κ s43 this := R25.put hus43 (hTo.k t_this (by decide)) (by decide)
      have B45 := R44.b
      rw [erW] at B45
      have K46 : zI s43 this 7 = zI σ0 this 7 := hT.eI t_this (by decide) rfl rfl
      have K46n : (zI s43 this 7).toInt = (zI σ0 this 7).toInt := by rw [K46]
      have P47 : zI s43 rP = zI σ0 rP := funext fun k => hT.eI trP (by decide) rfl rfl
      try simp only [K46, P47] at B45
      have wv48 : zJ s43 rW 0 = zJ σ0 rW 0 := (congrFun (zput_J (x := rW) hus43) 0).trans wv29
      have wv49 : zJ s43 rW 1 = zJ σ0 rW 1 := (congrFun (zput_J (x := rW) hus43) 1).trans wv30
      have wv50 : zJ s43 rW 2 = zJ σ0 rW 2 := (congrFun (zput_J (x := rW) hus43) 2).trans wv31
      have e51 : zI s43 this 0 = 0 := zput_at hus43
      refine lv_aload_n hx hb dX6_bitsBy_33 rfl (lv_at hl 0 rfl) ?_
      refine va_get (D := κ.1) (ci := 6) (v := .int (zI s43 this 0)) (C := RX6) (T := TX6) (N := 27) hx hb hg inX6 hown hK (hT.o20 (hT.k t_this (by decide))).one 0 rfl rfl 0 (by decide) (hg _ k1219) (fun _ h9 => h9) rfl dX6_bitsBy_34 ?_
      rw [e51]
      refine lv_if_le (tgt := 44) hx hb dX6_bitsBy_37 (by decide) (fun _ => ?_) (fun c9 => absurd (by decide) c9)
      refine lv_aload_n hx hb dX6_bitsBy_44 rfl (lv_at hl 0 rfl) ?_
      refine lv_iload_n hx hb dX6_bitsBy_45 rfl (lv_at hl 1 rfl) ?_
      refine lv_iload_n hx hb dX6_bitsBy_46 rfl (lv_at hl 2 rfl) ?_
      have hTo := hT
      refine tVi (n := 2) (As := [.int sp, .int pr]) (rest := []) hx hb hml hown hg hT hK hX (X6_bitsOf l κ s43 this sp pr  (hT.k t_this (by decide)) R44) sub_gYb_gZb (mwV k1674 k1676 k82 k92 k1677) ⟨rfl, by decide, by decide, by decide +kernel⟩ ⟨(Nat.le_of_ble_eq_true rfl), (Nat.le_of_ble_eq_true rfl)⟩ (hT.o20 (hT.k t_this (by decide))) rfl rfl hl.1 rfl (Nat.le_of_ble_eq_true rfl) dX6_bitsBy_47 zroom.rf (fun x52 s53 H locs hφ hEs53 hT => ?_)
      have e51 : zI s53 this 0 = 0 := ((hTo.k t_this (by decide)).eI hEs53 (by decide) rfl).trans e51
      obtain ⟨f55, f56⟩ := hφ
      have B57 := f55.b
      rw [erW] at B57
      have K58 : zI s53 this 7 = zI σ0 this 7 := hT.eI t_this (by decide) rfl rfl
      have K58n : (zI s53 this 7).toInt = (zI σ0 this 7).toInt := by rw [K58]
      have P59 : zI s53 rP = zI σ0 rP := funext fun k => hT.eI trP (by decide) rfl rfl
      try simp only [K58, P59] at B57
      try simp only [erW, erP, ix_0, ix_1, ix_2, ix_3, ix_4, ix_5, ix_6, ix_7, ix_8, ix_9, K46, P47, K58, P59] at f56
      have wv60 : zJ s53 rW 0 = zJ σ0 rW 0 := by have z9 := f56 0 (by decide); (try rw [erW] at z9); (try rw [erA] at z9); exact z9.trans wv48
      have wv61 : zJ s53 rW 1 = zJ σ0 rW 1 := by have z9 := f56 1 (by decide); (try rw [erW] at z9); (try rw [erA] at z9); exact z9.trans wv49
      have wv62 : zJ s53 rW 2 = zJ σ0 rW 2 := by have z9 := f56 2 (by decide); (try rw [erW] at z9); (try rw [erA] at z9); exact z9.trans wv50
      subst hQ9
      exact t_i hx hb hr hlocks hT ⟨f55, (by rw [erW]; exact (fun j hj => by rcases (show j = 0 ∨ j = 1 ∨ j = 2 by omega) with rfl | rfl | rfl <;> first | exact wv60 | exact wv61 | exact wv62))⟩ dX6_bitsBy_50
set_option maxHeartbeats 4000000 in
set_option maxRecDepth 100000 in
theorem X6_bestScheme (l : Launch) (κ : Kt) (σ0 : Gh) (this : Nat) (t_this : zk σ0 this 20) (h0 : RI κ σ0 this) : TC l yX6_bestScheme cX6_bestScheme 5 (some .int) 8 182 [.ref this] κ σ0 (tqi κ gZb σ0 (fun (r : Int32) (τ : Gh) => (RI κ τ this) ∧ (∀ j : Nat, j < 3 → zJ τ (kR κ this 1) j = zJ σ0 (kR κ this 1) j))) := by
  refine TC.of gZb (by decide +kernel) (Nat.le_of_ble_eq_true rfl) ?_
  intro p e s m below meth c ls hcs hK hX hT hl
  obtain ⟨hx, hb, hr, hml, hown, hg, hlocks, hin⟩ := hcs
  have hown : s.vm.findClass RX6 = some m.cls := hown
  have hl : lv_has ls 5 [(0, .ref this)] := hl
  have hT0 := hT
  have n0 : (0 : Int32).toInt = 0 := by decide
  have n1 : (1 : Int32).toInt = 1 := by decide
  have n3 : (3 : Int32).toInt = 3 := by decide
  have n9 : (9 : Int32).toInt = 9 := by decide
  generalize hQ9 : tQ _ _ _ _ _ _ = Q9
  obtain ⟨rW, erW⟩ : ∃ z, kR κ this 1 = z := ⟨_, rfl⟩
  have trW : zk σ0 rW 21 := by rw [← erW]; exact h0.1.2.1
  obtain ⟨rP, erP⟩ : ∃ z, kR κ this 5 = z := ⟨_, rfl⟩
  have trP : zk σ0 rP 25 := by rw [← erP]; exact h0.1.2.2.2.2
  have hB0 := h0.b
  rw [erW] at hB0
  have hW := h0.2.1
  rw [erW] at hW
  have hP := h0.2.2.1
  rw [erP] at hP
  have hrN : (rN σ0 this : Int) = (zI σ0 this 7).toInt := by unfold rN; omega
  have wv0_0 : zJ σ0 rW 0 = zJ σ0 rW 0 := rfl
  have wv1_0 : zJ σ0 rW 1 = zJ σ0 rW 1 := rfl
  have wv2_0 : zJ σ0 rW 2 = zJ σ0 rW 2 := rfl
  refine lv_aload_n hx hb dX6_bestScheme_0 rfl (lv_at hl 0 rfl) ?_
  refine lv_iconst (v := 0) hx hb dX6_bestScheme_1 (by decide) ?_
  have hTo := hT
  refine pf20_0 hx hb hg hown hK hT (hT.k t_this (by decide)) rfl (hg _ k1219) dX6_bestScheme_2 (fun H locs s1 hus1 hT => ?_)
  have R2 : RI κ s1 this := h0.put hus1 (hTo.k t_this (by decide)) (by decide)
  have B3 := R2.b
  rw [erW] at B3
  have K4 : zI s1 this 7 = zI σ0 this 7 := hT.eI t_this (by decide) rfl rfl
  have K4n : (zI s1 this 7).toInt = (zI σ0 this 7).toInt := by rw [K4]
  have P5 : zI s1 rP = zI σ0 rP := funext fun k => hT.eI trP (by decide) rfl rfl
  try simp only [K4, P5] at B3
  have wv6 : zJ s1 rW 0 = zJ σ0 rW 0 := (congrFun (zput_J (x := rW) hus1) 0).trans wv0_0
  have wv7 : zJ s1 rW 1 = zJ σ0 rW 1 := (congrFun (zput_J (x := rW) hus1) 1).trans wv1_0
  have wv8 : zJ s1 rW 2 = zJ σ0 rW 2 := (congrFun (zput_J (x := rW) hus1) 2).trans wv2_0
  have e9 : zI s1 this 0 = 0 := zput_at hus1
  refine lv_iconst (v := 0) hx hb dX6_bestScheme_5 (by decide) ?_
  refine lv_istore_n (lv' := [(1, .int 0), (0, .ref this)]) hx hb dX6_bestScheme_6 rfl hl (by decide) rfl (fun ls hl => ?_)
  refine lv_aload_n hx hb dX6_bestScheme_7 rfl (lv_at hl 1 rfl) ?_
  refine lv_iconst (v := 0) hx hb dX6_bestScheme_8 (by decide) ?_
  refine lv_iconst (v := 0) hx hb dX6_bestScheme_9 (by decide) ?_
  have hTo := hT
  refine tVi (n := 2) (As := [.int 0, .int 0]) (rest := []) hx hb hml hown hg hT hK hX (X6_bitsOf l κ s1 this 0 0  (hT.k t_this (by decide)) R2) sub_gYb_gZb (mwV k1674 k1676 k82 k92 k1677) ⟨rfl, by decide, by decide, by decide +kernel⟩ ⟨(Nat.le_of_ble_eq_true rfl), (Nat.le_of_ble_eq_true rfl)⟩ (hT.o20 (hT.k t_this (by decide))) rfl rfl hl.1 rfl (Nat.le_of_ble_eq_true rfl) dX6_bestScheme_10 zroom.rf (fun x10 s11 H locs hφ hEs11 hT => ?_)
  have e9 : zI s11 this 0 = 0 := ((hTo.k t_this (by decide)).eI hEs11 (by decide) rfl).trans e9
  obtain ⟨f13, f14⟩ := hφ
  have B15 := f13.b
  rw [erW] at B15
  have K16 : zI s11 this 7 = zI σ0 this 7 := hT.eI t_this (by decide) rfl rfl
  have K16n : (zI s11 this 7).toInt = (zI σ0 this 7).toInt := by rw [K16]
  have P17 : zI s11 rP = zI σ0 rP := funext fun k => hT.eI trP (by decide) rfl rfl
  try simp only [K16, P17] at B15
  try simp only [erW, erP, ix_0, ix_1, ix_2, ix_3, ix_4, ix_5, ix_6, ix_7, ix_8, ix_9, K4, P5, K16, P17] at f14
  have wv18 : zJ s11 rW 0 = zJ σ0 rW 0 := by have z9 := f14 0 (by decide); (try rw [erW] at z9); (try rw [erA] at z9); exact z9.trans wv6
  have wv19 : zJ s11 rW 1 = zJ σ0 rW 1 := by have z9 := f14 1 (by decide); (try rw [erW] at z9); (try rw [erA] at z9); exact z9.trans wv7
  have wv20 : zJ s11 rW 2 = zJ σ0 rW 2 := by have z9 := f14 2 (by decide); (try rw [erW] at z9); (try rw [erA] at z9); exact z9.trans wv8
  refine lv_istore_n (lv' := [(2, .int x10), (1, .int 0), (0, .ref this)]) hx hb dX6_bestScheme_13 rfl hl (by decide) rfl (fun ls hl => ?_)
  refine lv_iconst (v := 1) hx hb dX6_bestScheme_14 (by decide) ?_
  refine lv_istore_n (lv' := [(3, .int 1), (2, .int x10), (1, .int 0), (0, .ref this)]) hx hb dX6_bestScheme_15 rfl hl (by decide) rfl (fun ls hl => ?_)
  have loop16 : ∀ (n9 : Nat) (bs : Int32) (fw : Int32) (k : Int32) (H : Heap) (locs : List Loc) (sg : Gh) (ls : Array Slot), TS κ gZb σ0 sg s H locs → (RI κ sg this) → (1 ≤ k.toInt) → (k.toInt ≤ 9) → (zJ sg rW 0 = zJ σ0 rW 0) → (zJ sg rW 1 = zJ σ0 rW 1) → (zJ sg rW 2 = zJ σ0 rW 2) → lv_has ls 5 [(1, .int bs), (2, .int fw), (3, .int k), (0, .ref this)] → (9 - k.toInt) < n9 → tW p l e 8 182 κ s m #[.ref this] below meth c H locs Q9 (F0 m 16 ls []) := by
    intro n9
    induction n9 with
    | zero =>
      intro bs fw k H locs sg ls hT RI0 q1 q2 iw0 iw1 iw2 hl hm9
      exfalso
      omega
    | succ n9 ih9 =>
      have ih16 := ih9
      clear ih9
      intro bs fw k H locs s21 ls hT RI0 q1 q2 iw0 iw1 iw2 hl hm9
      have B22 := RI0.b
      rw [erW] at B22
      have K23 : zI s21 this 7 = zI σ0 this 7 := hT.eI t_this (by decide) rfl rfl
      have K23n : (zI s21 this 7).toInt = (zI σ0 this 7).toInt := by rw [K23]
      have P24 : zI s21 rP = zI σ0 rP := funext fun k => hT.eI trP (by decide) rfl rfl
      try simp only [K23, P24] at B22
      refine lv_iload_n hx hb dX6_bestScheme_16 rfl (lv_at hl 2 rfl) ?_
      refine lv_bipush (v := 9) hx hb dX6_bestScheme_17 (by decide) ?_
      refine lv_icmp_ge (tgt := 51) hx hb dX6_bestScheme_19 (by decide) (fun c9 => ?_) (fun c9 => ?_)
      · have c1 := gi_le c9
        refine lv_iload_n hx hb dX6_bestScheme_51 rfl (lv_at hl 0 rfl) ?_
        subst hQ9
        exact t_i hx hb hr hlocks hT ⟨RI0, (by rw [erW]; exact (fun j hj => by rcases (show j = 0 ∨ j = 1 ∨ j = 2 by omega) with rfl | rfl | rfl <;> first | exact iw0 | exact iw1 | exact iw2))⟩ dX6_bestScheme_52
      · have c2 := gi_nle c9
        refine lv_aload_n hx hb dX6_bestScheme_22 rfl (lv_at hl 3 rfl) ?_
        refine lv_iload_n hx hb dX6_bestScheme_23 rfl (lv_at hl 2 rfl) ?_
        refine lv_iconst (v := 3) hx hb dX6_bestScheme_24 (by decide) ?_
        refine lv_idiv hx hb dX6_bestScheme_25 (by decide) ?_
        first | refine g_div (k := 3) n3 (by decide) (by omega) (fun t25 ht25 => ?_) | refine lv_topi (fun t25 ht25 => ?_)
        refine lv_iload_n hx hb dX6_bestScheme_26 rfl (lv_at hl 2 rfl) ?_
        refine lv_iconst (v := 3) hx hb dX6_bestScheme_27 (by decide) ?_
        refine lv_irem hx hb dX6_bestScheme_28 (by decide) ?_
        refine lv_topi (fun t26 ht26 => ?_)
        have hTo := hT
        refine tVi (n := 2) (As := [.int t25, .int t26]) (rest := []) hx hb hml hown hg hT hK hX (X6_bitsOf l κ s21 this t25 t26  (hT.k t_this (by decide)) RI0) sub_gYb_gZb (mwV k1674 k1676 k82 k92 k1677) ⟨rfl, by decide, by decide, by decide +kernel⟩ ⟨(Nat.le_of_ble_eq_true rfl), (Nat.le_of_ble_eq_true rfl)⟩ (hT.o20 (hT.k t_this (by decide))) rfl rfl hl.1 rfl (Nat.le_of_ble_eq_true rfl) dX6_bestScheme_29 zroom.rf (fun x27 s28 H locs hφ hEs28 hT => ?_)
        obtain ⟨f30, f31⟩ := hφ
        have B32 := f30.b
        rw [erW] at B32
        have K33 : zI s28 this 7 = zI σ0 this 7 := hT.eI t_this (by decide) rfl rfl
        have K33n : (zI s28 this 7).toInt = (zI σ0 this 7).toInt := by rw [K33]
        have P34 : zI s28 rP = zI σ0 rP := funext fun k => hT.eI trP (by decide) rfl rfl
        try simp only [K33, P34] at B32
        try simp only [erW, erP, ix_0, ix_1, ix_2, ix_3, ix_4, ix_5, ix_6, ix_7, ix_8, ix_9, K23, P24, K33, P34] at f31
        have wv35 : zJ s28 rW 0 = zJ σ0 rW 0 := by have z9 := f31 0 (by decide); (try rw [erW] at z9); (try rw [erA] at z9); exact z9.trans iw0
        have wv36 : zJ s28 rW 1 = zJ σ0 rW 1 := by have z9 := f31 1 (by decide); (try rw [erW] at z9); (try rw [erA] at z9); exact z9.trans iw1
        have wv37 : zJ s28 rW 2 = zJ σ0 rW 2 := by have z9 := f31 2 (by decide); (try rw [erW] at z9); (try rw [erA] at z9); exact z9.trans iw2
        refine lv_istore (lv' := [(4, .int x27), (1, .int bs), (2, .int fw), (3, .int k), (0, .ref this)]) hx hb dX6_bestScheme_32 hl (by decide) rfl (fun ls hl => ?_)
        refine lv_iload hx hb dX6_bestScheme_34 (lv_at hl 0 rfl) ?_
        refine lv_iload_n hx hb dX6_bestScheme_36 rfl (lv_at hl 2 rfl) ?_
        refine lv_icmp_ge (tgt := 45) hx hb dX6_bestScheme_37 (by decide) (fun c9 => ?_) (fun c9 => ?_)
        · have c3 := gi_le c9
          obtain ⟨t38, qt38⟩ : ∃ zz9 : Int32, k + Int32.ofInt 1 = zz9 := ⟨_, rfl⟩
          refine lv_iinc (v := t38) (lv' := [(3, .int t38), (4, .int x27), (1, .int bs), (2, .int fw), (0, .ref this)]) hx hb dX6_bestScheme_45 hl (k := 3) rfl qt38 (by decide) rfl (fun ls hl => ?_)
          have ht38 : t38.toInt = k.toInt + 1 := by rw [← qt38]; exact v_addi rfl (show (Int32.ofInt 1).toInt = 1 from by decide) (by omega) (by omega)
          refine lv_goto (tgt := 16) hx hb dX6_bestScheme_48 (by decide) ?_
          exact ih16 bs fw t38 _ _ _ _ hT  f30 (by omega) (by omega) wv35 wv36 wv37 (lv_sub hl [2, 3, 0, 4] rfl) (by omega)
        · have c4 := gi_nle c9
          refine lv_iload_n hx hb dX6_bestScheme_40 rfl (lv_at hl 3 rfl) ?_
          refine lv_istore_n (lv' := [(1, .int k), (4, .int x27), (2, .int fw), (3, .int k), (0, .ref this)]) hx hb dX6_bestScheme_41 rfl hl (by decide) rfl (fun ls hl => ?_)
          refine lv_iload hx hb dX6_bestScheme_42 (lv_at hl 1 rfl) ?_
          refine lv_istore_n (lv' := [(2, .int x27), (1, .int k), (4, .int x27), (3, .int k), (0, .ref this)]) hx hb dX6_bestScheme_44 rfl hl (by decide) rfl (fun ls hl => ?_)
          obtain ⟨t39, qt39⟩ : ∃ zz9 : Int32, k + Int32.ofInt 1 = zz9 := ⟨_, rfl⟩
          refine lv_iinc (v := t39) (lv' := [(3, .int t39), (2, .int x27), (1, .int k), (4, .int x27), (0, .ref this)]) hx hb dX6_bestScheme_45 hl (k := 3) rfl qt39 (by decide) rfl (fun ls hl => ?_)
          have ht39 : t39.toInt = k.toInt + 1 := by rw [← qt39]; exact v_addi rfl (show (Int32.ofInt 1).toInt = 1 from by decide) (by omega) (by omega)
          refine lv_goto (tgt := 16) hx hb dX6_bestScheme_48 (by decide) ?_
          exact ih16 k x27 t39 _ _ _ _ hT  f30 (by omega) (by omega) wv35 wv36 wv37 (lv_sub hl [2, 1, 0, 4] rfl) (by omega)
  exact loop16 ((9 - (1 : Int32).toInt).toNat + 1) 0 x10 1 _ _ _ _ hT  f13 (by omega) (by omega) wv18 wv19 wv20 (lv_sub hl [2, 1, 0, 3] rfl) (by omega)

/-! The reference over any state: sums -/
theorem k60 : Cond.selects RX6 yX6_whole yX6_whole ∈ GW := gm 60 (by decide +kernel) (by decide +kernel)
theorem k61 : Cond.selects RX6 yX6_bitsNow yX6_bitsNow ∈ GW := gm 61 (by decide +kernel) (by decide +kernel)
theorem k1476 : Cond.methodLink RX6 236 yX6_whole ∈ GW := gm 1476 (by decide +kernel) (by decide +kernel)
theorem k1478 : Cond.instanceMethod yX6_whole ∈ GW := gm 1478 (by decide +kernel) (by decide +kernel)
theorem k1479 : Cond.code yX6_whole cX6_whole 4 (some .long) ∈ GW := gm 1479 (by decide +kernel) (by decide +kernel)
theorem k1488 : Cond.methodLink RX6 239 yX6_amount ∈ GW := gm 1488 (by decide +kernel) (by decide +kernel)
theorem k1489 : Cond.static yX6_amount ∈ GW := gm 1489 (by decide +kernel) (by decide +kernel)
theorem k1490 : Cond.code yX6_amount cX6_amount 2 (some .long) ∈ GW := gm 1490 (by decide +kernel) (by decide +kernel)
theorem k1491 : Cond.methodLink RX6 243 yX6_common ∈ GW := gm 1491 (by decide +kernel) (by decide +kernel)
theorem k1492 : Cond.static yX6_common ∈ GW := gm 1492 (by decide +kernel) (by decide +kernel)
theorem k1493 : Cond.code yX6_common cX6_common 10 (some .long) ∈ GW := gm 1493 (by decide +kernel) (by decide +kernel)
theorem k1506 : Cond.methodLink RX6 248 yX6_bitsNow ∈ GW := gm 1506 (by decide +kernel) (by decide +kernel)
theorem k1508 : Cond.instanceMethod yX6_bitsNow ∈ GW := gm 1508 (by decide +kernel) (by decide +kernel)
theorem k1509 : Cond.code yX6_bitsNow cX6_bitsNow 5 (some .int) ∈ GW := gm 1509 (by decide +kernel) (by decide +kernel)
theorem k1510 : Cond.constantLong RX6 246 2 ∈ GW := gm 1510 (by decide +kernel) (by decide +kernel)
theorem dX6_bits_0 : decode cX6_bits 0 = .ok (.aload_n 0, 1) := by decide +kernel
theorem dX6_bits_1 : decode cX6_bits 1 = .ok (.iconst 0, 1) := by decide +kernel
theorem dX6_bits_2 : decode cX6_bits 2 = .ok (.putfield 64, 3) := by decide +kernel
theorem dX6_bits_5 : decode cX6_bits 5 = .ok (.aload_n 0, 1) := by decide +kernel
theorem dX6_bits_6 : decode cX6_bits 6 = .ok (.invokevirtual 248, 3) := by decide +kernel
theorem dX6_bits_9 : decode cX6_bits 9 = .ok (.ireturn, 1) := by decide +kernel
theorem dX6_bitsNow_0 : decode cX6_bitsNow 0 = .ok (.aload_n 0, 1) := by decide +kernel
theorem dX6_bitsNow_1 : decode cX6_bitsNow 1 = .ok (.invokevirtual 199, 3) := by decide +kernel
theorem dX6_bitsNow_4 : decode cX6_bitsNow 4 = .ok (.istore_n 1, 1) := by decide +kernel
theorem dX6_bitsNow_5 : decode cX6_bitsNow 5 = .ok (.iconst 0, 1) := by decide +kernel
theorem dX6_bitsNow_6 : decode cX6_bitsNow 6 = .ok (.istore_n 2, 1) := by decide +kernel
theorem dX6_bitsNow_7 : decode cX6_bitsNow 7 = .ok (.iload_n 2, 1) := by decide +kernel
theorem dX6_bitsNow_8 : decode cX6_bitsNow 8 = .ok (.aload_n 0, 1) := by decide +kernel
theorem dX6_bitsNow_9 : decode cX6_bitsNow 9 = .ok (.invokevirtual 199, 3) := by decide +kernel
theorem dX6_bitsNow_12 : decode cX6_bitsNow 12 = .ok (.if_icmp .ge 37, 3) := by decide +kernel
theorem dX6_bitsNow_15 : decode cX6_bitsNow 15 = .ok (.aload_n 0, 1) := by decide +kernel
theorem dX6_bitsNow_16 : decode cX6_bitsNow 16 = .ok (.iload_n 2, 1) := by decide +kernel
theorem dX6_bitsNow_17 : decode cX6_bitsNow 17 = .ok (.iconst 3, 1) := by decide +kernel
theorem dX6_bitsNow_18 : decode cX6_bitsNow 18 = .ok (.invokevirtual 208, 3) := by decide +kernel
theorem dX6_bitsNow_21 : decode cX6_bitsNow 21 = .ok (.invokestatic 239, 3) := by decide +kernel
theorem dX6_bitsNow_24 : decode cX6_bitsNow 24 = .ok (.lstore_n 3, 1) := by decide +kernel
theorem dX6_bitsNow_25 : decode cX6_bitsNow 25 = .ok (.lload_n 3, 1) := by decide +kernel
theorem dX6_bitsNow_26 : decode cX6_bitsNow 26 = .ok (.lconst 0, 1) := by decide +kernel
theorem dX6_bitsNow_27 : decode cX6_bitsNow 27 = .ok (.lcmp, 1) := by decide +kernel
theorem dX6_bitsNow_28 : decode cX6_bitsNow 28 = .ok (.ifCond .le 15, 3) := by decide +kernel
theorem dX6_bitsNow_31 : decode cX6_bitsNow 31 = .ok (.iinc 1 1, 3) := by decide +kernel
theorem dX6_bitsNow_34 : decode cX6_bitsNow 34 = .ok (.lload_n 3, 1) := by decide +kernel
theorem dX6_bitsNow_35 : decode cX6_bitsNow 35 = .ok (.ldc2_w 246, 3) := by decide +kernel
theorem dX6_bitsNow_38 : decode cX6_bitsNow 38 = .ok (.ldiv, 1) := by decide +kernel
theorem dX6_bitsNow_39 : decode cX6_bitsNow 39 = .ok (.lstore_n 3, 1) := by decide +kernel
theorem dX6_bitsNow_40 : decode cX6_bitsNow 40 = .ok (.goto (-15), 3) := by decide +kernel
theorem dX6_bitsNow_43 : decode cX6_bitsNow 43 = .ok (.iinc 2 1, 3) := by decide +kernel
theorem dX6_bitsNow_46 : decode cX6_bitsNow 46 = .ok (.goto (-39), 3) := by decide +kernel
theorem dX6_bitsNow_49 : decode cX6_bitsNow 49 = .ok (.iload_n 1, 1) := by decide +kernel
theorem dX6_bitsNow_50 : decode cX6_bitsNow 50 = .ok (.ireturn, 1) := by decide +kernel
theorem dX6_common_0 : decode cX6_common 0 = .ok (.lload_n 0, 1) := by decide +kernel
theorem dX6_common_1 : decode cX6_common 1 = .ok (.lstore 4, 2) := by decide +kernel
theorem dX6_common_3 : decode cX6_common 3 = .ok (.lload_n 2, 1) := by decide +kernel
theorem dX6_common_4 : decode cX6_common 4 = .ok (.lstore 6, 2) := by decide +kernel
theorem dX6_common_6 : decode cX6_common 6 = .ok (.lload 6, 2) := by decide +kernel
theorem dX6_common_8 : decode cX6_common 8 = .ok (.lconst 0, 1) := by decide +kernel
theorem dX6_common_9 : decode cX6_common 9 = .ok (.lcmp, 1) := by decide +kernel
theorem dX6_common_10 : decode cX6_common 10 = .ok (.ifCond .eq 21, 3) := by decide +kernel
theorem dX6_common_13 : decode cX6_common 13 = .ok (.lload 4, 2) := by decide +kernel
theorem dX6_common_15 : decode cX6_common 15 = .ok (.lload 6, 2) := by decide +kernel
theorem dX6_common_17 : decode cX6_common 17 = .ok (.lrem, 1) := by decide +kernel
theorem dX6_common_18 : decode cX6_common 18 = .ok (.lstore 8, 2) := by decide +kernel
theorem dX6_common_20 : decode cX6_common 20 = .ok (.lload 6, 2) := by decide +kernel
theorem dX6_common_22 : decode cX6_common 22 = .ok (.lstore 4, 2) := by decide +kernel
theorem dX6_common_24 : decode cX6_common 24 = .ok (.lload 8, 2) := by decide +kernel
theorem dX6_common_26 : decode cX6_common 26 = .ok (.lstore 6, 2) := by decide +kernel
theorem dX6_common_28 : decode cX6_common 28 = .ok (.goto (-22), 3) := by decide +kernel
theorem dX6_common_31 : decode cX6_common 31 = .ok (.lload 4, 2) := by decide +kernel
theorem dX6_common_33 : decode cX6_common 33 = .ok (.lreturn, 1) := by decide +kernel
theorem dX6_drift_0 : decode cX6_drift 0 = .ok (.aload_n 0, 1) := by decide +kernel
theorem dX6_drift_1 : decode cX6_drift 1 = .ok (.iconst 0, 1) := by decide +kernel
theorem dX6_drift_2 : decode cX6_drift 2 = .ok (.putfield 64, 3) := by decide +kernel
theorem dX6_drift_5 : decode cX6_drift 5 = .ok (.aload_n 0, 1) := by decide +kernel
theorem dX6_drift_6 : decode cX6_drift 6 = .ok (.getfield 7, 3) := by decide +kernel
theorem dX6_drift_9 : decode cX6_drift 9 = .ok (.iconst 3, 1) := by decide +kernel
theorem dX6_drift_10 : decode cX6_drift 10 = .ok (.laload, 1) := by decide +kernel
theorem dX6_drift_11 : decode cX6_drift 11 = .ok (.lreturn, 1) := by decide +kernel
theorem dX6_energy_0 : decode cX6_energy 0 = .ok (.aload_n 0, 1) := by decide +kernel
theorem dX6_energy_1 : decode cX6_energy 1 = .ok (.iconst 0, 1) := by decide +kernel
theorem dX6_energy_2 : decode cX6_energy 2 = .ok (.putfield 64, 3) := by decide +kernel
theorem dX6_energy_5 : decode cX6_energy 5 = .ok (.lconst 0, 1) := by decide +kernel
theorem dX6_energy_6 : decode cX6_energy 6 = .ok (.lstore_n 1, 1) := by decide +kernel
theorem dX6_energy_7 : decode cX6_energy 7 = .ok (.iconst 0, 1) := by decide +kernel
theorem dX6_energy_8 : decode cX6_energy 8 = .ok (.istore_n 3, 1) := by decide +kernel
theorem dX6_energy_9 : decode cX6_energy 9 = .ok (.iload_n 3, 1) := by decide +kernel
theorem dX6_energy_10 : decode cX6_energy 10 = .ok (.aload_n 0, 1) := by decide +kernel
theorem dX6_energy_11 : decode cX6_energy 11 = .ok (.invokevirtual 199, 3) := by decide +kernel
theorem dX6_energy_14 : decode cX6_energy 14 = .ok (.if_icmp .ge 32, 3) := by decide +kernel
theorem dX6_energy_17 : decode cX6_energy 17 = .ok (.lload_n 1, 1) := by decide +kernel
theorem dX6_energy_18 : decode cX6_energy 18 = .ok (.aload_n 0, 1) := by decide +kernel
theorem dX6_energy_19 : decode cX6_energy 19 = .ok (.iload_n 3, 1) := by decide +kernel
theorem dX6_energy_20 : decode cX6_energy 20 = .ok (.iconst 4, 1) := by decide +kernel
theorem dX6_energy_21 : decode cX6_energy 21 = .ok (.invokevirtual 208, 3) := by decide +kernel
theorem dX6_energy_24 : decode cX6_energy 24 = .ok (.aload_n 0, 1) := by decide +kernel
theorem dX6_energy_25 : decode cX6_energy 25 = .ok (.iload_n 3, 1) := by decide +kernel
theorem dX6_energy_26 : decode cX6_energy 26 = .ok (.iconst 3, 1) := by decide +kernel
theorem dX6_energy_27 : decode cX6_energy 27 = .ok (.invokevirtual 208, 3) := by decide +kernel
theorem dX6_energy_30 : decode cX6_energy 30 = .ok (.lmul, 1) := by decide +kernel
theorem dX6_energy_31 : decode cX6_energy 31 = .ok (.aload_n 0, 1) := by decide +kernel
theorem dX6_energy_32 : decode cX6_energy 32 = .ok (.iload_n 3, 1) := by decide +kernel
theorem dX6_energy_33 : decode cX6_energy 33 = .ok (.iconst 3, 1) := by decide +kernel
theorem dX6_energy_34 : decode cX6_energy 34 = .ok (.invokevirtual 208, 3) := by decide +kernel
theorem dX6_energy_37 : decode cX6_energy 37 = .ok (.lmul, 1) := by decide +kernel
theorem dX6_energy_38 : decode cX6_energy 38 = .ok (.ladd, 1) := by decide +kernel
theorem dX6_energy_39 : decode cX6_energy 39 = .ok (.lstore_n 1, 1) := by decide +kernel
theorem dX6_energy_40 : decode cX6_energy 40 = .ok (.iinc 3 1, 3) := by decide +kernel
theorem dX6_energy_43 : decode cX6_energy 43 = .ok (.goto (-34), 3) := by decide +kernel
theorem dX6_energy_46 : decode cX6_energy 46 = .ok (.lload_n 1, 1) := by decide +kernel
theorem dX6_energy_47 : decode cX6_energy 47 = .ok (.lreturn, 1) := by decide +kernel
theorem dX6_integral_0 : decode cX6_integral 0 = .ok (.aload_n 0, 1) := by decide +kernel
theorem dX6_integral_1 : decode cX6_integral 1 = .ok (.iconst 0, 1) := by decide +kernel
theorem dX6_integral_2 : decode cX6_integral 2 = .ok (.putfield 64, 3) := by decide +kernel
theorem dX6_integral_5 : decode cX6_integral 5 = .ok (.aload_n 0, 1) := by decide +kernel
theorem dX6_integral_6 : decode cX6_integral 6 = .ok (.invokevirtual 236, 3) := by decide +kernel
theorem dX6_integral_9 : decode cX6_integral 9 = .ok (.lreturn, 1) := by decide +kernel
theorem dX6_mean_0 : decode cX6_mean 0 = .ok (.aload_n 0, 1) := by decide +kernel
theorem dX6_mean_1 : decode cX6_mean 1 = .ok (.iload_n 1, 1) := by decide +kernel
theorem dX6_mean_2 : decode cX6_mean 2 = .ok (.i2l, 1) := by decide +kernel
theorem dX6_mean_3 : decode cX6_mean 3 = .ok (.lconst 0, 1) := by decide +kernel
theorem dX6_mean_4 : decode cX6_mean 4 = .ok (.lconst 1, 1) := by decide +kernel
theorem dX6_mean_5 : decode cX6_mean 5 = .ok (.invokestatic 84, 3) := by decide +kernel
theorem dX6_mean_8 : decode cX6_mean 8 = .ok (.ifCond .eq 7, 3) := by decide +kernel
theorem dX6_mean_11 : decode cX6_mean 11 = .ok (.iconst 0, 1) := by decide +kernel
theorem dX6_mean_12 : decode cX6_mean 12 = .ok (.goto 4, 3) := by decide +kernel
theorem dX6_mean_15 : decode cX6_mean 15 = .ok (.iconst 1, 1) := by decide +kernel
theorem dX6_mean_16 : decode cX6_mean 16 = .ok (.putfield 64, 3) := by decide +kernel
theorem dX6_mean_19 : decode cX6_mean 19 = .ok (.aload_n 0, 1) := by decide +kernel
theorem dX6_mean_20 : decode cX6_mean 20 = .ok (.getfield 64, 3) := by decide +kernel
theorem dX6_mean_23 : decode cX6_mean 23 = .ok (.ifCond .le 5, 3) := by decide +kernel
theorem dX6_mean_26 : decode cX6_mean 26 = .ok (.lconst 0, 1) := by decide +kernel
theorem dX6_mean_27 : decode cX6_mean 27 = .ok (.lreturn, 1) := by decide +kernel
theorem dX6_mean_28 : decode cX6_mean 28 = .ok (.aload_n 0, 1) := by decide +kernel
theorem dX6_mean_29 : decode cX6_mean 29 = .ok (.invokevirtual 236, 3) := by decide +kernel
theorem dX6_mean_32 : decode cX6_mean 32 = .ok (.invokestatic 239, 3) := by decide +kernel
theorem dX6_mean_35 : decode cX6_mean 35 = .ok (.aload_n 0, 1) := by decide +kernel
theorem dX6_mean_36 : decode cX6_mean 36 = .ok (.invokevirtual 220, 3) := by decide +kernel
theorem dX6_mean_39 : decode cX6_mean 39 = .ok (.invokestatic 243, 3) := by decide +kernel
theorem dX6_mean_42 : decode cX6_mean 42 = .ok (.lstore_n 2, 1) := by decide +kernel
theorem dX6_mean_43 : decode cX6_mean 43 = .ok (.iload_n 1, 1) := by decide +kernel
theorem dX6_mean_44 : decode cX6_mean 44 = .ok (.ifCond .ne 10, 3) := by decide +kernel
theorem dX6_mean_47 : decode cX6_mean 47 = .ok (.aload_n 0, 1) := by decide +kernel
theorem dX6_mean_48 : decode cX6_mean 48 = .ok (.invokevirtual 236, 3) := by decide +kernel
theorem dX6_mean_51 : decode cX6_mean 51 = .ok (.goto 7, 3) := by decide +kernel
theorem dX6_mean_54 : decode cX6_mean 54 = .ok (.aload_n 0, 1) := by decide +kernel
theorem dX6_mean_55 : decode cX6_mean 55 = .ok (.invokevirtual 220, 3) := by decide +kernel
theorem dX6_mean_58 : decode cX6_mean 58 = .ok (.lload_n 2, 1) := by decide +kernel
theorem dX6_mean_59 : decode cX6_mean 59 = .ok (.ldiv, 1) := by decide +kernel
theorem dX6_mean_60 : decode cX6_mean 60 = .ok (.lreturn, 1) := by decide +kernel
theorem dX6_whole_0 : decode cX6_whole 0 = .ok (.aload_n 0, 1) := by decide +kernel
theorem dX6_whole_1 : decode cX6_whole 1 = .ok (.getfield 7, 3) := by decide +kernel
theorem dX6_whole_4 : decode cX6_whole 4 = .ok (.iconst 3, 1) := by decide +kernel
theorem dX6_whole_5 : decode cX6_whole 5 = .ok (.laload, 1) := by decide +kernel
theorem dX6_whole_6 : decode cX6_whole 6 = .ok (.lstore_n 1, 1) := by decide +kernel
theorem dX6_whole_7 : decode cX6_whole 7 = .ok (.iconst 0, 1) := by decide +kernel
theorem dX6_whole_8 : decode cX6_whole 8 = .ok (.istore_n 3, 1) := by decide +kernel
theorem dX6_whole_9 : decode cX6_whole 9 = .ok (.iload_n 3, 1) := by decide +kernel
theorem dX6_whole_10 : decode cX6_whole 10 = .ok (.aload_n 0, 1) := by decide +kernel
theorem dX6_whole_11 : decode cX6_whole 11 = .ok (.getfield 185, 3) := by decide +kernel
theorem dX6_whole_14 : decode cX6_whole 14 = .ok (.if_icmp .ge 42, 3) := by decide +kernel
theorem dX6_whole_17 : decode cX6_whole 17 = .ok (.lload_n 1, 1) := by decide +kernel
theorem dX6_whole_18 : decode cX6_whole 18 = .ok (.aload_n 0, 1) := by decide +kernel
theorem dX6_whole_19 : decode cX6_whole 19 = .ok (.iload_n 3, 1) := by decide +kernel
theorem dX6_whole_20 : decode cX6_whole 20 = .ok (.invokevirtual 202, 3) := by decide +kernel
theorem dX6_whole_23 : decode cX6_whole 23 = .ok (.ifCond .eq 24, 3) := by decide +kernel
theorem dX6_whole_26 : decode cX6_whole 26 = .ok (.aload_n 0, 1) := by decide +kernel
theorem dX6_whole_27 : decode cX6_whole 27 = .ok (.getfield 7, 3) := by decide +kernel
theorem dX6_whole_30 : decode cX6_whole 30 = .ok (.bipush 53, 2) := by decide +kernel
theorem dX6_whole_32 : decode cX6_whole 32 = .ok (.iload_n 3, 1) := by decide +kernel
theorem dX6_whole_33 : decode cX6_whole 33 = .ok (.iadd, 1) := by decide +kernel
theorem dX6_whole_34 : decode cX6_whole 34 = .ok (.laload, 1) := by decide +kernel
theorem dX6_whole_35 : decode cX6_whole 35 = .ok (.aload_n 0, 1) := by decide +kernel
theorem dX6_whole_36 : decode cX6_whole 36 = .ok (.getfield 7, 3) := by decide +kernel
theorem dX6_whole_39 : decode cX6_whole 39 = .ok (.iconst 5, 1) := by decide +kernel
theorem dX6_whole_40 : decode cX6_whole 40 = .ok (.iload_n 3, 1) := by decide +kernel
theorem dX6_whole_41 : decode cX6_whole 41 = .ok (.iadd, 1) := by decide +kernel
theorem dX6_whole_42 : decode cX6_whole 42 = .ok (.laload, 1) := by decide +kernel
theorem dX6_whole_43 : decode cX6_whole 43 = .ok (.lmul, 1) := by decide +kernel
theorem dX6_whole_44 : decode cX6_whole 44 = .ok (.goto 4, 3) := by decide +kernel
theorem dX6_whole_47 : decode cX6_whole 47 = .ok (.lconst 0, 1) := by decide +kernel
theorem dX6_whole_48 : decode cX6_whole 48 = .ok (.ladd, 1) := by decide +kernel
theorem dX6_whole_49 : decode cX6_whole 49 = .ok (.lstore_n 1, 1) := by decide +kernel
theorem dX6_whole_50 : decode cX6_whole 50 = .ok (.iinc 3 1, 3) := by decide +kernel
theorem dX6_whole_53 : decode cX6_whole 53 = .ok (.goto (-44), 3) := by decide +kernel
theorem dX6_whole_56 : decode cX6_whole 56 = .ok (.lload_n 1, 1) := by decide +kernel
theorem dX6_whole_57 : decode cX6_whole 57 = .ok (.lreturn, 1) := by decide +kernel
set_option maxHeartbeats 4000000 in
set_option maxRecDepth 100000 in
theorem X6_whole (l : Launch) (κ : Kt) (σ0 : Gh) (this : Nat) (t_this : zk σ0 this 20) (h0 : RI κ σ0 this) : TC l yX6_whole cX6_whole 4 (some .long) 1 21 [.ref this] κ σ0 (tql κ fE σ0 (fun (r : Int64) (τ : Gh) => True)) := by
  refine TC.of fE (by decide +kernel) (Nat.le_of_ble_eq_true rfl) ?_
  intro p e s m below meth c ls hcs hK hX hT hl
  obtain ⟨hx, hb, hr, hml, hown, hg, hlocks, hin⟩ := hcs
  have hown : s.vm.findClass RX6 = some m.cls := hown
  have hl : lv_has ls 4 [(0, .ref this)] := hl
  have hT0 := hT
  have n0 : (0 : Int32).toInt = 0 := by decide
  have n3 : (3 : Int32).toInt = 3 := by decide
  have n5 : (5 : Int32).toInt = 5 := by decide
  have n53 : (53 : Int32).toInt = 53 := by decide
  have j0 : (0 : Int64).toInt = 0 := by decide
  generalize hQ9 : tQ _ _ _ _ _ _ = Q9
  obtain ⟨rW, erW⟩ : ∃ z, kR κ this 1 = z := ⟨_, rfl⟩
  have trW : zk σ0 rW 21 := by rw [← erW]; exact h0.1.2.1
  obtain ⟨rP, erP⟩ : ∃ z, kR κ this 5 = z := ⟨_, rfl⟩
  have trP : zk σ0 rP 25 := by rw [← erP]; exact h0.1.2.2.2.2
  have hB0 := h0.b
  rw [erW] at hB0
  have hW := h0.2.1
  rw [erW] at hW
  have hP := h0.2.2.1
  rw [erP] at hP
  have hrN : (rN σ0 this : Int) = (zI σ0 this 7).toInt := by unfold rN; omega
  refine lv_aload_n hx hb dX6_whole_0 rfl (lv_at hl 0 rfl) ?_
  refine va_get (D := κ.1) (ci := 6) (v := .ref (kR κ this 1)) (C := RX6) (T := TX6) (N := 27) hx hb hg inX6 hown hK (hT.o20 (hT.k t_this (by decide))).one 0 rfl rfl 1 (by decide) (hg _ k1220) (fun _ h9 => h9) rfl dX6_whole_1 ?_
  rw [erW]
  refine lv_iconst (v := 3) hx hb dX6_whole_4 (by decide) ?_
  refine va_lald hx hb hK (hT.o21 (hT.k trW (by decide))).one 0 1 rfl rfl (g_in (by omega) (by omega)) dX6_whole_5 ?_
  refine lv_topl (fun t1 ht1 => ?_)
  have xt1 : (zJ σ0 rW 3).toInt = t1.toInt := by rw [ht1]; exact congrArg (fun q9 => (zJ σ0 rW q9).toInt) (show 3 = ix 3 from by decide)
  refine lv_lstore_n (lv' := [(1, .long t1), (0, .ref this)]) hx hb dX6_whole_6 rfl hl (by decide) rfl (fun ls hl => ?_)
  refine lv_iconst (v := 0) hx hb dX6_whole_7 (by decide) ?_
  refine lv_istore_n (lv' := [(3, .int 0), (1, .long t1), (0, .ref this)]) hx hb dX6_whole_8 rfl hl (by decide) rfl (fun ls hl => ?_)
  have loop9 : ∀ (n9 : Nat) (k : Int32) (sm : Int64) (H : Heap) (locs : List Loc) (sg : Gh) (ls : Array Slot), TS κ fE σ0 sg s H locs → (0 ≤ k.toInt) → (k.toInt ≤ (zI σ0 this 7).toInt) → lv_has ls 4 [(3, .int k), (1, .long sm), (0, .ref this)] → ((zI σ0 this 7).toInt - k.toInt) < n9 → tW p l e 1 21 κ s m #[.ref this] below meth c H locs Q9 (F0 m 9 ls []) := by
    intro n9
    induction n9 with
    | zero =>
      intro k sm H locs sg ls hT q1 q2 hl hm9
      exfalso
      omega
    | succ n9 ih9 =>
      have ih9 := ih9
      clear ih9
      intro k sm H locs s2 ls hT q1 q2 hl hm9
      refine lv_iload_n hx hb dX6_whole_9 rfl (lv_at hl 0 rfl) ?_
      refine lv_aload_n hx hb dX6_whole_10 rfl (lv_at hl 2 rfl) ?_
      obtain ⟨v3, ev3⟩ : ∃ zz9 : Int32, zI σ0 this 7 = zz9 := ⟨_, rfl⟩
      have qv3 : v3.toInt = (zI σ0 this 7).toInt := by rw [ev3]
      refine va_get (D := κ.1) (ci := 6) (v := .int (zI s2 this 7)) (C := RX6) (T := TX6) (N := 27) hx hb hg inX6 hown hK (hT.o20 (hT.k t_this (by decide))).one 0 rfl rfl 7 (by decide) (hg _ k1226) (fun _ h9 => h9) rfl dX6_whole_11 ?_
      rw [(hT.eI t_this (by decide) rfl ev3)]
      refine lv_icmp_ge (tgt := 56) hx hb dX6_whole_14 (by decide) (fun c9 => ?_) (fun c9 => ?_)
      · have c1 := gi_le c9
        refine lv_lload_n hx hb dX6_whole_56 rfl (lv_at hl 1 rfl) ?_
        subst hQ9
        exact t_l hx hb hr hlocks hT trivial dX6_whole_57
      · have c2 := gi_nle c9
        refine lv_lload_n hx hb dX6_whole_17 rfl (lv_at hl 1 rfl) ?_
        refine lv_aload_n hx hb dX6_whole_18 rfl (lv_at hl 2 rfl) ?_
        refine lv_iload_n hx hb dX6_whole_19 rfl (lv_at hl 0 rfl) ?_
        have K4 : zI s2 this 7 = zI σ0 this 7 := hT.eI t_this (by decide) rfl rfl
        have K4n : (zI s2 this 7).toInt = (zI σ0 this 7).toInt := by rw [K4]
        have J5 : zJ s2 rW = zJ σ0 rW := funext fun k => hT.eJ trW (by decide) rfl rfl
        have J5n : (zJ s2 (kR κ this 1) 4).toInt = (zJ σ0 rW 4).toInt := by rw [erW, J5]
        have P6 : zI s2 rP = zI σ0 rP := funext fun k => hT.eI trP (by decide) rfl rfl
        have R7 : RI κ s2 this := h0.ext hT.2.2.1 ⟨rfl, rfl, fun _ => rfl, fun _ => rfl, fun _ => rfl, fun _ => rfl⟩
        have hTo := hT
        refine tVi (n := 1) (As := [.int k]) (rest := [.long sm]) hx hb hml hown hg hT hK hX (X6_isPresent l κ s2 this k  (hT.k t_this (by decide)) R7 (by omega) (by omega)) (fun _ _ h => h) (mwV k1432 k1434 k56 k92 k1435) ⟨rfl, by decide, by decide, by decide +kernel⟩ ⟨(Nat.le_of_ble_eq_true rfl), (Nat.le_of_ble_eq_true rfl)⟩ (hT.o20 (hT.k t_this (by decide))) rfl rfl hl.1 rfl (Nat.le_of_ble_eq_true rfl) dX6_whole_20 zroom.rf (fun x8 s9 H locs hφ hEs9 hT => ?_)
        obtain ⟨f10, f11⟩ := hφ
        have K12 : zI s9 this 7 = zI σ0 this 7 := hT.eI t_this (by decide) rfl rfl
        have K12n : (zI s9 this 7).toInt = (zI σ0 this 7).toInt := by rw [K12]
        have J13 : zJ s9 rW = zJ σ0 rW := funext fun k => hT.eJ trW (by decide) rfl rfl
        have J13n : (zJ s9 (kR κ this 1) 4).toInt = (zJ σ0 rW 4).toInt := by rw [erW, J13]
        have P14 : zI s9 rP = zI σ0 rP := funext fun k => hT.eI trP (by decide) rfl rfl
        try simp only [erW, erP, ix_0, ix_1, ix_2, ix_3, ix_4, ix_5, ix_6, ix_7, ix_8, ix_9, K4, J5, P6, K12, J13, P14] at f10
        refine lv_if_eq (tgt := 47) hx hb dX6_whole_23 (by decide) (fun c9 => ?_) (fun c9 => ?_)
        · have c3 := gi_eq c9
          refine lv_lconst (v := 0) hx hb dX6_whole_47 (by decide) ?_
          refine lv_ladd hx hb dX6_whole_48 ?_
          refine lv_topl (fun t15 ht15 => ?_)
          refine lv_lstore_n (lv' := [(1, .long t15), (3, .int k), (0, .ref this)]) hx hb dX6_whole_49 rfl hl (by decide) rfl (fun ls hl => ?_)
          obtain ⟨t16, qt16⟩ : ∃ zz9 : Int32, k + Int32.ofInt 1 = zz9 := ⟨_, rfl⟩
          refine lv_iinc (v := t16) (lv' := [(3, .int t16), (1, .long t15), (0, .ref this)]) hx hb dX6_whole_50 hl (k := 1) rfl qt16 (by decide) rfl (fun ls hl => ?_)
          have ht16 : t16.toInt = k.toInt + 1 := by rw [← qt16]; exact v_addi rfl (show (Int32.ofInt 1).toInt = 1 from by decide) (by omega) (by omega)
          refine lv_goto (tgt := 9) hx hb dX6_whole_53 (by decide) ?_
          exact ih9 t16 t15 _ _ _ _ hT  (by omega) (by omega) hl (by omega)
        · have c4 := gi_ne c9
          refine lv_aload_n hx hb dX6_whole_26 rfl (lv_at hl 2 rfl) ?_
          refine va_get (D := κ.1) (ci := 6) (v := .ref (kR κ this 1)) (C := RX6) (T := TX6) (N := 27) hx hb hg inX6 hown hK (hT.o20 (hT.k t_this (by decide))).one 0 rfl rfl 1 (by decide) (hg _ k1220) (fun _ h9 => h9) rfl dX6_whole_27 ?_
          rw [erW]
          refine lv_bipush (v := 53) hx hb dX6_whole_30 (by decide) ?_
          refine lv_iload_n hx hb dX6_whole_32 rfl (lv_at hl 0 rfl) ?_
          refine lv_iadd hx hb dX6_whole_33 ?_
          first | refine g_add (by omega) (by omega) (fun t17 ht17 => ?_) | refine lv_topi (fun t17 ht17 => ?_)
          refine va_lald hx hb hK (hT.o21 (hT.k trW (by decide))).one 0 1 rfl rfl (g_in (by omega) (by omega)) dX6_whole_34 ?_
          refine lv_topl (fun t18 ht18 => ?_)
          refine lv_aload_n hx hb dX6_whole_35 rfl (lv_at hl 2 rfl) ?_
          refine va_get (D := κ.1) (ci := 6) (v := .ref (kR κ this 1)) (C := RX6) (T := TX6) (N := 27) hx hb hg inX6 hown hK (hT.o20 (hT.k t_this (by decide))).one 0 rfl rfl 1 (by decide) (hg _ k1220) (fun _ h9 => h9) rfl dX6_whole_36 ?_
          rw [erW]
          refine lv_iconst (v := 5) hx hb dX6_whole_39 (by decide) ?_
          refine lv_iload_n hx hb dX6_whole_40 rfl (lv_at hl 0 rfl) ?_
          refine lv_iadd hx hb dX6_whole_41 ?_
          first | refine g_add (by omega) (by omega) (fun t19 ht19 => ?_) | refine lv_topi (fun t19 ht19 => ?_)
          refine va_lald hx hb hK (hT.o21 (hT.k trW (by decide))).one 0 1 rfl rfl (g_in (by omega) (by omega)) dX6_whole_42 ?_
          refine lv_topl (fun t20 ht20 => ?_)
          refine lv_lmul hx hb dX6_whole_43 ?_
          refine lv_topl (fun t21 ht21 => ?_)
          refine lv_goto (tgt := 48) hx hb dX6_whole_44 (by decide) ?_
          refine lv_ladd hx hb dX6_whole_48 ?_
          refine lv_topl (fun t22 ht22 => ?_)
          refine lv_lstore_n (lv' := [(1, .long t22), (3, .int k), (0, .ref this)]) hx hb dX6_whole_49 rfl hl (by decide) rfl (fun ls hl => ?_)
          obtain ⟨t23, qt23⟩ : ∃ zz9 : Int32, k + Int32.ofInt 1 = zz9 := ⟨_, rfl⟩
          refine lv_iinc (v := t23) (lv' := [(3, .int t23), (1, .long t22), (0, .ref this)]) hx hb dX6_whole_50 hl (k := 1) rfl qt23 (by decide) rfl (fun ls hl => ?_)
          have ht23 : t23.toInt = k.toInt + 1 := by rw [← qt23]; exact v_addi rfl (show (Int32.ofInt 1).toInt = 1 from by decide) (by omega) (by omega)
          refine lv_goto (tgt := 9) hx hb dX6_whole_53 (by decide) ?_
          exact ih9 t23 t22 _ _ _ _ hT  (by omega) (by omega) hl (by omega)
  exact loop9 (((zI σ0 this 7).toInt - (0 : Int32).toInt).toNat + 1) 0 t1 _ _ _ _ hT  (by omega) (by omega) hl (by omega)
set_option maxHeartbeats 4000000 in
set_option maxRecDepth 100000 in
theorem X6_integral (l : Launch) (κ : Kt) (σ0 : Gh) (this : Nat) (t_this : zk σ0 this 20) (h0 : RI κ σ0 this) : TC l yX6_integral cX6_integral 1 (some .long) 2 44 [.ref this] κ σ0 (tql κ gR σ0 (fun (r : Int64) (τ : Gh) => True)) := by
  refine TC.of gR (by decide +kernel) (Nat.le_of_ble_eq_true rfl) ?_
  intro p e s m below meth c ls hcs hK hX hT hl
  obtain ⟨hx, hb, hr, hml, hown, hg, hlocks, hin⟩ := hcs
  have hown : s.vm.findClass RX6 = some m.cls := hown
  have hl : lv_has ls 1 [(0, .ref this)] := hl
  have hT0 := hT
  have n0 : (0 : Int32).toInt = 0 := by decide
  generalize hQ9 : tQ _ _ _ _ _ _ = Q9
  obtain ⟨rW, erW⟩ : ∃ z, kR κ this 1 = z := ⟨_, rfl⟩
  have trW : zk σ0 rW 21 := by rw [← erW]; exact h0.1.2.1
  obtain ⟨rP, erP⟩ : ∃ z, kR κ this 5 = z := ⟨_, rfl⟩
  have trP : zk σ0 rP 25 := by rw [← erP]; exact h0.1.2.2.2.2
  have hB0 := h0.b
  rw [erW] at hB0
  have hW := h0.2.1
  rw [erW] at hW
  have hP := h0.2.2.1
  rw [erP] at hP
  have hrN : (rN σ0 this : Int) = (zI σ0 this 7).toInt := by unfold rN; omega
  refine lv_aload_n hx hb dX6_integral_0 rfl (lv_at hl 0 rfl) ?_
  refine lv_iconst (v := 0) hx hb dX6_integral_1 (by decide) ?_
  have hTo := hT
  refine pf20_0 hx hb hg hown hK hT (hT.k t_this (by decide)) rfl (hg _ k1219) dX6_integral_2 (fun H locs s1 hus1 hT => ?_)
  have e2 : zI s1 this 0 = 0 := zput_at hus1
  refine lv_aload_n hx hb dX6_integral_5 rfl (lv_at hl 0 rfl) ?_
  have K3 : zI s1 this 7 = zI σ0 this 7 := hT.eI t_this (by decide) rfl rfl
  have K3n : (zI s1 this 7).toInt = (zI σ0 this 7).toInt := by rw [K3]
  have J4 : zJ s1 rW = zJ σ0 rW := funext fun k => hT.eJ trW (by decide) rfl rfl
  have J4n : (zJ s1 (kR κ this 1) 4).toInt = (zJ σ0 rW 4).toInt := by rw [erW, J4]
  have P5 : zI s1 rP = zI σ0 rP := funext fun k => hT.eI trP (by decide) rfl rfl
  have R6 : RI κ s1 this := h0.ext hT.2.2.1 ⟨rfl, rfl, fun _ => rfl, fun _ => rfl, fun _ => rfl, fun _ => rfl⟩
  have hTo := hT
  refine tVl (n := 0) (As := []) (rest := []) hx hb hml hown hg hT hK hX (X6_whole l κ s1 this  (hT.k t_this (by decide)) R6) sub_fE_gR (mwV k1476 k1478 k60 k92 k1479) ⟨rfl, by decide, by decide, by decide +kernel⟩ ⟨(Nat.le_of_ble_eq_true rfl), (Nat.le_of_ble_eq_true rfl)⟩ (hT.o20 (hT.k t_this (by decide))) rfl rfl hl.1 rfl (Nat.le_of_ble_eq_true rfl) dX6_integral_6 zroom.rf (fun x7 s8 H locs hφ hEs8 hT => ?_)
  have e2 : zI s8 this 0 = 0 := ((hTo.k t_this (by decide)).eI hEs8 (by decide) rfl).trans e2
  subst hQ9
  exact t_l hx hb hr hlocks hT trivial dX6_integral_9
set_option maxHeartbeats 4000000 in
set_option maxRecDepth 100000 in
theorem X6_drift (l : Launch) (κ : Kt) (σ0 : Gh) (this : Nat) (t_this : zk σ0 this 20) (h0 : RI κ σ0 this) : TC l yX6_drift cX6_drift 1 (some .long) 0 0 [.ref this] κ σ0 (tql κ gR σ0 (fun (r : Int64) (τ : Gh) => True)) := by
  refine TC.of gR (by decide +kernel) (Nat.le_of_ble_eq_true rfl) ?_
  intro p e s m below meth c ls hcs hK hX hT hl
  obtain ⟨hx, hb, hr, hml, hown, hg, hlocks, hin⟩ := hcs
  have hown : s.vm.findClass RX6 = some m.cls := hown
  have hl : lv_has ls 1 [(0, .ref this)] := hl
  have hT0 := hT
  have n0 : (0 : Int32).toInt = 0 := by decide
  have n3 : (3 : Int32).toInt = 3 := by decide
  generalize hQ9 : tQ _ _ _ _ _ _ = Q9
  obtain ⟨rW, erW⟩ : ∃ z, kR κ this 1 = z := ⟨_, rfl⟩
  have trW : zk σ0 rW 21 := by rw [← erW]; exact h0.1.2.1
  obtain ⟨rP, erP⟩ : ∃ z, kR κ this 5 = z := ⟨_, rfl⟩
  have trP : zk σ0 rP 25 := by rw [← erP]; exact h0.1.2.2.2.2
  have hB0 := h0.b
  rw [erW] at hB0
  have hW := h0.2.1
  rw [erW] at hW
  have hP := h0.2.2.1
  rw [erP] at hP
  have hrN : (rN σ0 this : Int) = (zI σ0 this 7).toInt := by unfold rN; omega
  refine lv_aload_n hx hb dX6_drift_0 rfl (lv_at hl 0 rfl) ?_
  refine lv_iconst (v := 0) hx hb dX6_drift_1 (by decide) ?_
  have hTo := hT
  refine pf20_0 hx hb hg hown hK hT (hT.k t_this (by decide)) rfl (hg _ k1219) dX6_drift_2 (fun H locs s1 hus1 hT => ?_)
  have e2 : zI s1 this 0 = 0 := zput_at hus1
  refine lv_aload_n hx hb dX6_drift_5 rfl (lv_at hl 0 rfl) ?_
  refine va_get (D := κ.1) (ci := 6) (v := .ref (kR κ this 1)) (C := RX6) (T := TX6) (N := 27) hx hb hg inX6 hown hK (hT.o20 (hT.k t_this (by decide))).one 0 rfl rfl 1 (by decide) (hg _ k1220) (fun _ h9 => h9) rfl dX6_drift_6 ?_
  rw [erW]
  refine lv_iconst (v := 3) hx hb dX6_drift_9 (by decide) ?_
  refine va_lald hx hb hK (hT.o21 (hT.k trW (by decide))).one 0 1 rfl rfl (g_in (by omega) (by omega)) dX6_drift_10 ?_
  refine lv_topl (fun t3 ht3 => ?_)
  have K4 : zI s1 this 7 = zI σ0 this 7 := hT.eI t_this (by decide) rfl rfl
  have K4n : (zI s1 this 7).toInt = (zI σ0 this 7).toInt := by rw [K4]
  have J5 : zJ s1 rW = zJ σ0 rW := funext fun k => hT.eJ trW (by decide) rfl rfl
  have J5n : (zJ s1 (kR κ this 1) 4).toInt = (zJ σ0 rW 4).toInt := by rw [erW, J5]
  have P6 : zI s1 rP = zI σ0 rP := funext fun k => hT.eI trP (by decide) rfl rfl
  have xt3 : (zJ s1 rW 3).toInt = t3.toInt := by rw [ht3]; exact congrArg (fun q9 => (zJ s1 rW q9).toInt) (show 3 = ix 3 from by decide)
  try simp only [K4, J5, P6] at xt3
  subst hQ9
  exact t_l hx hb hr hlocks hT trivial dX6_drift_11
set_option maxHeartbeats 4000000 in
set_option maxRecDepth 100000 in
theorem X6_common (l : Launch) (κ : Kt) (σ0 : Gh) (x : Int64) (y : Int64) (h0 : 1 ≤ y.toInt) : TC l yX6_common cX6_common 10 (some .long) 0 0 [.long x, .long y] κ σ0 (tql κ fE σ0 (fun (r : Int64) (τ : Gh) => (r.toInt ≠ 0))) := by
  refine TC.of fE (by decide +kernel) (Nat.le_of_ble_eq_true rfl) ?_
  intro p e s m below meth c ls hcs hK hX hT hl
  obtain ⟨hx, hb, hr, hml, hown, hg, hlocks, hin⟩ := hcs
  have hown : s.vm.findClass RX6 = some m.cls := hown
  have hl : lv_has ls 10 [(0, .long x), (2, .long y)] := hl
  have hT0 := hT
  have n0 : (0 : Int32).toInt = 0 := by decide
  have j0 : (0 : Int64).toInt = 0 := by decide
  generalize hQ9 : tQ _ _ _ _ _ _ = Q9
  refine lv_lload_n hx hb dX6_common_0 rfl (lv_at hl 0 rfl) ?_
  refine lv_lstore (lv' := [(4, .long x), (0, .long x), (2, .long y)]) hx hb dX6_common_1 hl (by decide) rfl (fun ls hl => ?_)
  refine lv_lload_n hx hb dX6_common_3 rfl (lv_at hl 2 rfl) ?_
  refine lv_lstore (lv' := [(6, .long y), (4, .long x), (0, .long x), (2, .long y)]) hx hb dX6_common_4 hl (by decide) rfl (fun ls hl => ?_)
  have loop6 : ∀ (n9 : Nat) (x1 : Int64) (y1 : Int64) (H : Heap) (locs : List Loc) (sg : Gh) (ls : Array Slot), TS κ fE σ0 sg s H locs → (x1.toInt ≠ 0 ∨ y1.toInt ≠ 0) → lv_has ls 10 [(4, .long x1), (6, .long y1), (0, .long x), (2, .long y)] → ((y1.toInt.natAbs : Int)) < n9 → tW p l e 0 0 κ s m #[.long x, .long y] below meth c H locs Q9 (F0 m 6 ls []) := by
    intro n9
    induction n9 with
    | zero =>
      intro x1 y1 H locs sg ls hT q1 hl hm9
      exfalso
      omega
    | succ n9 ih9 =>
      have ih6 := ih9
      clear ih9
      intro x1 y1 H locs s1 ls hT q1 hl hm9
      refine lv_lload hx hb dX6_common_6 (lv_at hl 1 rfl) ?_
      refine lv_lconst (v := 0) hx hb dX6_common_8 (by decide) ?_
      refine W.lcmp hx hb dX6_common_9 ?_
      refine lv_if_eq (tgt := 31) hx hb dX6_common_10 (by decide) (fun c9 => ?_) (fun c9 => ?_)
      · have c1 := gl_eq c9
        refine lv_lload hx hb dX6_common_31 (lv_at hl 0 rfl) ?_
        subst hQ9
        exact t_l hx hb hr hlocks hT (by omega) dX6_common_33
      · have c2 := gl_ne c9
        refine lv_lload hx hb dX6_common_13 (lv_at hl 0 rfl) ?_
        refine lv_lload hx hb dX6_common_15 (lv_at hl 1 rfl) ?_
        refine lv_lrem hx hb dX6_common_17 (gl_nz (by omega)) ?_
        refine g_lremn (by omega) (fun t2 ht2 => ?_)
        refine lv_lstore (lv' := [(8, .long t2), (4, .long x1), (6, .long y1), (0, .long x), (2, .long y)]) hx hb dX6_common_18 hl (by decide) rfl (fun ls hl => ?_)
        refine lv_lload hx hb dX6_common_20 (lv_at hl 2 rfl) ?_
        refine lv_lstore (lv' := [(4, .long y1), (8, .long t2), (6, .long y1), (0, .long x), (2, .long y)]) hx hb dX6_common_22 hl (by decide) rfl (fun ls hl => ?_)
        refine lv_lload hx hb dX6_common_24 (lv_at hl 1 rfl) ?_
        refine lv_lstore (lv' := [(6, .long t2), (4, .long y1), (8, .long t2), (0, .long x), (2, .long y)]) hx hb dX6_common_26 hl (by decide) rfl (fun ls hl => ?_)
        refine lv_goto (tgt := 6) hx hb dX6_common_28 (by decide) ?_
        exact ih6 y1 t2 _ _ _ _ hT  (by omega) (lv_sub hl [1, 0, 3, 4] rfl) (by omega)
  exact loop6 (((y.toInt.natAbs : Int)).toNat + 1) x y _ _ _ _ hT  (by omega) (lv_sub hl [1, 0, 2, 3] rfl) (by omega)
set_option maxHeartbeats 4000000 in
set_option maxRecDepth 100000 in
theorem X6_mean (l : Launch) (κ : Kt) (σ0 : Gh) (this : Nat) (i : Int32) (t_this : zk σ0 this 20) (h0 : RI κ σ0 this) : TC l yX6_mean cX6_mean 4 (some .long) 2 44 [.ref this, .int i] κ σ0 (tql κ gR σ0 (fun (r : Int64) (τ : Gh) => True)) := by
  refine TC.of gR (by decide +kernel) (Nat.le_of_ble_eq_true rfl) ?_
  intro p e s m below meth c ls hcs hK hX hT hl
  obtain ⟨hx, hb, hr, hml, hown, hg, hlocks, hin⟩ := hcs
  have hown : s.vm.findClass RX6 = some m.cls := hown
  have hl : lv_has ls 4 [(0, .ref this), (1, .int i)] := hl
  have hT0 := hT
  have n0 : (0 : Int32).toInt = 0 := by decide
  have n1 : (1 : Int32).toInt = 1 := by decide
  have j0 : (0 : Int64).toInt = 0 := by decide
  have j1 : (1 : Int64).toInt = 1 := by decide
  have i_lo := Int32.le_toInt i
  have i_hi := Int32.toInt_lt i
  generalize hQ9 : tQ _ _ _ _ _ _ = Q9
  obtain ⟨rW, erW⟩ : ∃ z, kR κ this 1 = z := ⟨_, rfl⟩
  have trW : zk σ0 rW 21 := by rw [← erW]; exact h0.1.2.1
  obtain ⟨rP, erP⟩ : ∃ z, kR κ this 5 = z := ⟨_, rfl⟩
  have trP : zk σ0 rP 25 := by rw [← erP]; exact h0.1.2.2.2.2
  have hB0 := h0.b
  rw [erW] at hB0
  have hW := h0.2.1
  rw [erW] at hW
  have hP := h0.2.2.1
  rw [erP] at hP
  have hrN : (rN σ0 this : Int) = (zI σ0 this 7).toInt := by unfold rN; omega
  refine lv_aload_n hx hb dX6_mean_0 rfl (lv_at hl 0 rfl) ?_
  refine lv_iload_n hx hb dX6_mean_1 rfl (lv_at hl 1 rfl) ?_
  refine lv_i2l hx hb dX6_mean_2 rfl ?_
  refine g_i2l (fun t1 ht1 => ?_)
  refine lv_lconst (v := 0) hx hb dX6_mean_3 (by decide) ?_
  refine lv_lconst (v := 1) hx hb dX6_mean_4 (by decide) ?_
  have hTo := hT
  refine tSi (n := 3) (As := [.long t1, .long 0, .long 1]) (rest := [.ref this]) hx hb hml hown hg hT hK hX (X6_in l κ σ0 t1 0 1   ) sub_fE_gR (mwS k1317 k1318 k92 k1319) ⟨rfl, by decide, by decide, by decide +kernel⟩ ⟨(Nat.le_of_ble_eq_true rfl), (Nat.le_of_ble_eq_true rfl)⟩ rfl hl.1 rfl (Nat.le_of_ble_eq_true rfl) dX6_mean_5 zroom.rf (fun x2 s3 H locs hφ hEs3 hT => ?_)
  obtain ⟨f4, f5⟩ := hφ
  have K6 : zI s3 this 7 = zI σ0 this 7 := hT.eI t_this (by decide) rfl rfl
  have K6n : (zI s3 this 7).toInt = (zI σ0 this 7).toInt := by rw [K6]
  have J7 : zJ s3 rW = zJ σ0 rW := funext fun k => hT.eJ trW (by decide) rfl rfl
  have J7n : (zJ s3 (kR κ this 1) 4).toInt = (zJ σ0 rW 4).toInt := by rw [erW, J7]
  have P8 : zI s3 rP = zI σ0 rP := funext fun k => hT.eI trP (by decide) rfl rfl
  try simp only [erW, erP, ix_0, ix_1, ix_2, ix_3, ix_4, ix_5, ix_6, ix_7, ix_8, ix_9, K6, J7, P8] at f4
  refine lv_if_eq (tgt := 15) hx hb dX6_mean_8 (by decide) (fun c9 => ?_) (fun c9 => ?_)
  · have c1 := gi_eq c9
    refine lv_iconst (v := 1) hx hb dX6_mean_15 (by decide) ?_
    have hTo := hT
    refine pf20_0 hx hb hg hown hK hT (hT.k t_this (by decide)) rfl (hg _ k1219) dX6_mean_16 (fun H locs s9 hus9 hT => ?_)
    have e10 : zI s9 this 0 = 1 := zput_at hus9
    refine lv_aload_n hx hb dX6_mean_19 rfl (lv_at hl 0 rfl) ?_
    refine va_get (D := κ.1) (ci := 6) (v := .int (zI s9 this 0)) (C := RX6) (T := TX6) (N := 27) hx hb hg inX6 hown hK (hT.o20 (hT.k t_this (by decide))).one 0 rfl rfl 0 (by decide) (hg _ k1219) (fun _ h9 => h9) rfl dX6_mean_20 ?_
    rw [e10]
    refine lv_if_le (tgt := 28) hx hb dX6_mean_23 (by decide) (fun c9 => absurd c9 (by decide)) (fun _ => ?_)
    refine lv_lconst (v := 0) hx hb dX6_mean_26 (by decide) ?_
    subst hQ9
    exact t_l hx hb hr hlocks hT trivial dX6_mean_27
  · have c2 := gi_ne c9
    refine lv_iconst (v := 0) hx hb dX6_mean_11 (by decide) ?_
    refine lv_goto (tgt := 16) hx hb dX6_mean_12 (by decide) ?_
    have hTo := hT
    refine pf20_0 hx hb hg hown hK hT (hT.k t_this (by decide)) rfl (hg _ k1219) dX6_mean_16 (fun H locs s11 hus11 hT => ?_)
    have e12 : zI s11 this 0 = 0 := zput_at hus11
    refine lv_aload_n hx hb dX6_mean_19 rfl (lv_at hl 0 rfl) ?_
    refine va_get (D := κ.1) (ci := 6) (v := .int (zI s11 this 0)) (C := RX6) (T := TX6) (N := 27) hx hb hg inX6 hown hK (hT.o20 (hT.k t_this (by decide))).one 0 rfl rfl 0 (by decide) (hg _ k1219) (fun _ h9 => h9) rfl dX6_mean_20 ?_
    rw [e12]
    refine lv_if_le (tgt := 28) hx hb dX6_mean_23 (by decide) (fun _ => ?_) (fun c9 => absurd (by decide) c9)
    refine lv_aload_n hx hb dX6_mean_28 rfl (lv_at hl 0 rfl) ?_
    have K13 : zI s11 this 7 = zI σ0 this 7 := hT.eI t_this (by decide) rfl rfl
    have K13n : (zI s11 this 7).toInt = (zI σ0 this 7).toInt := by rw [K13]
    have J14 : zJ s11 rW = zJ σ0 rW := funext fun k => hT.eJ trW (by decide) rfl rfl
    have J14n : (zJ s11 (kR κ this 1) 4).toInt = (zJ σ0 rW 4).toInt := by rw [erW, J14]
    have P15 : zI s11 rP = zI σ0 rP := funext fun k => hT.eI trP (by decide) rfl rfl
    have R16 : RI κ s11 this := h0.ext hT.2.2.1 ⟨rfl, rfl, fun _ => rfl, fun _ => rfl, fun _ => rfl, fun _ => rfl⟩
    have hTo := hT
    refine tVl (n := 0) (As := []) (rest := []) hx hb hml hown hg hT hK hX (X6_whole l κ s11 this  (hT.k t_this (by decide)) R16) sub_fE_gR (mwV k1476 k1478 k60 k92 k1479) ⟨rfl, by decide, by decide, by decide +kernel⟩ ⟨(Nat.le_of_ble_eq_true rfl), (Nat.le_of_ble_eq_true rfl)⟩ (hT.o20 (hT.k t_this (by decide))) rfl rfl hl.1 rfl (Nat.le_of_ble_eq_true rfl) dX6_mean_29 zroom.rf (fun x17 s18 H locs hφ hEs18 hT => ?_)
    have e12 : zI s18 this 0 = 0 := ((hTo.k t_this (by decide)).eI hEs18 (by decide) rfl).trans e12
    have K19 : zI s18 this 7 = zI σ0 this 7 := hT.eI t_this (by decide) rfl rfl
    have K19n : (zI s18 this 7).toInt = (zI σ0 this 7).toInt := by rw [K19]
    have J20 : zJ s18 rW = zJ σ0 rW := funext fun k => hT.eJ trW (by decide) rfl rfl
    have J20n : (zJ s18 (kR κ this 1) 4).toInt = (zJ σ0 rW 4).toInt := by rw [erW, J20]
    have P21 : zI s18 rP = zI σ0 rP := funext fun k => hT.eI trP (by decide) rfl rfl
    have hTo := hT
    refine tSl (n := 1) (As := [.long x17]) (rest := []) hx hb hml hown hg hT hK hX (X6_amount l κ s18 x17   ) sub_fE_gR (mwS k1488 k1489 k92 k1490) ⟨rfl, by decide, by decide, by decide +kernel⟩ ⟨(Nat.le_of_ble_eq_true rfl), (Nat.le_of_ble_eq_true rfl)⟩ rfl hl.1 rfl (Nat.le_of_ble_eq_true rfl) dX6_mean_32 zroom.rf (fun x22 s23 H locs hφ hEs23 hT => ?_)
    have e12 : zI s23 this 0 = 0 := ((hTo.k t_this (by decide)).eI hEs23 (by decide) rfl).trans e12
    have f24 := hφ
    have K25 : zI s23 this 7 = zI σ0 this 7 := hT.eI t_this (by decide) rfl rfl
    have K25n : (zI s23 this 7).toInt = (zI σ0 this 7).toInt := by rw [K25]
    have J26 : zJ s23 rW = zJ σ0 rW := funext fun k => hT.eJ trW (by decide) rfl rfl
    have J26n : (zJ s23 (kR κ this 1) 4).toInt = (zJ σ0 rW 4).toInt := by rw [erW, J26]
    have P27 : zI s23 rP = zI σ0 rP := funext fun k => hT.eI trP (by decide) rfl rfl
    try simp only [erW, erP, ix_0, ix_1, ix_2, ix_3, ix_4, ix_5, ix_6, ix_7, ix_8, ix_9, K19, J20, P21, K25, J26, P27] at f24
    refine lv_aload_n hx hb dX6_mean_35 rfl (lv_at hl 0 rfl) ?_
    have R28 : RI κ s23 this := h0.ext hT.2.2.1 ⟨rfl, rfl, fun _ => rfl, fun _ => rfl, fun _ => rfl, fun _ => rfl⟩
    have hTo := hT
    refine tVl (n := 0) (As := []) (rest := [.long x22]) hx hb hml hown hg hT hK hX (X6_weights l κ s23 this  (hT.k t_this (by decide)) R28) sub_fE_gR (mwV k1428 k1430 k55 k92 k1431) ⟨rfl, by decide, by decide, by decide +kernel⟩ ⟨(Nat.le_of_ble_eq_true rfl), (Nat.le_of_ble_eq_true rfl)⟩ (hT.o20 (hT.k t_this (by decide))) rfl rfl hl.1 rfl (Nat.le_of_ble_eq_true rfl) dX6_mean_36 zroom.rf (fun x29 s30 H locs hφ hEs30 hT => ?_)
    have e12 : zI s30 this 0 = 0 := ((hTo.k t_this (by decide)).eI hEs30 (by decide) rfl).trans e12
    obtain ⟨f31, f32⟩ := hφ
    have K33 : zI s30 this 7 = zI σ0 this 7 := hT.eI t_this (by decide) rfl rfl
    have K33n : (zI s30 this 7).toInt = (zI σ0 this 7).toInt := by rw [K33]
    have J34 : zJ s30 rW = zJ σ0 rW := funext fun k => hT.eJ trW (by decide) rfl rfl
    have J34n : (zJ s30 (kR κ this 1) 4).toInt = (zJ σ0 rW 4).toInt := by rw [erW, J34]
    have P35 : zI s30 rP = zI σ0 rP := funext fun k => hT.eI trP (by decide) rfl rfl
    try simp only [erW, erP, ix_0, ix_1, ix_2, ix_3, ix_4, ix_5, ix_6, ix_7, ix_8, ix_9, K25, J26, P27, K33, J34, P35] at f31
    try simp only [erW, erP, ix_0, ix_1, ix_2, ix_3, ix_4, ix_5, ix_6, ix_7, ix_8, ix_9, K25, J26, P27, K33, J34, P35] at f32
    have hTo := hT
    refine tSl (n := 2) (As := [.long x22, .long x29]) (rest := []) hx hb hml hown hg hT hK hX (X6_common l κ s30 x22 x29   (by omega)) sub_fE_gR (mwS k1491 k1492 k92 k1493) ⟨rfl, by decide, by decide, by decide +kernel⟩ ⟨(Nat.le_of_ble_eq_true rfl), (Nat.le_of_ble_eq_true rfl)⟩ rfl hl.1 rfl (Nat.le_of_ble_eq_true rfl) dX6_mean_39 zroom.rf (fun x36 s37 H locs hφ hEs37 hT => ?_)
    have e12 : zI s37 this 0 = 0 := ((hTo.k t_this (by decide)).eI hEs37 (by decide) rfl).trans e12
    have f38 := hφ
    have K39 : zI s37 this 7 = zI σ0 this 7 := hT.eI t_this (by decide) rfl rfl
    have K39n : (zI s37 this 7).toInt = (zI σ0 this 7).toInt := by rw [K39]
    have J40 : zJ s37 rW = zJ σ0 rW := funext fun k => hT.eJ trW (by decide) rfl rfl
    have J40n : (zJ s37 (kR κ this 1) 4).toInt = (zJ σ0 rW 4).toInt := by rw [erW, J40]
    have P41 : zI s37 rP = zI σ0 rP := funext fun k => hT.eI trP (by decide) rfl rfl
    try simp only [erW, erP, ix_0, ix_1, ix_2, ix_3, ix_4, ix_5, ix_6, ix_7, ix_8, ix_9, K33, J34, P35, K39, J40, P41] at f38
    refine lv_lstore_n (lv' := [(2, .long x36), (0, .ref this), (1, .int i)]) hx hb dX6_mean_42 rfl hl (by decide) rfl (fun ls hl => ?_)
    refine lv_iload_n hx hb dX6_mean_43 rfl (lv_at hl 2 rfl) ?_
    refine lv_if_ne (tgt := 54) hx hb dX6_mean_44 (by decide) (fun c9 => ?_) (fun c9 => ?_)
    · have c3 := gi_ne c9
      refine lv_aload_n hx hb dX6_mean_54 rfl (lv_at hl 1 rfl) ?_
      have R42 : RI κ s37 this := h0.ext hT.2.2.1 ⟨rfl, rfl, fun _ => rfl, fun _ => rfl, fun _ => rfl, fun _ => rfl⟩
      have hTo := hT
      refine tVl (n := 0) (As := []) (rest := []) hx hb hml hown hg hT hK hX (X6_weights l κ s37 this  (hT.k t_this (by decide)) R42) sub_fE_gR (mwV k1428 k1430 k55 k92 k1431) ⟨rfl, by decide, by decide, by decide +kernel⟩ ⟨(Nat.le_of_ble_eq_true rfl), (Nat.le_of_ble_eq_true rfl)⟩ (hT.o20 (hT.k t_this (by decide))) rfl rfl hl.1 rfl (Nat.le_of_ble_eq_true rfl) dX6_mean_55 zroom.rf (fun x43 s44 H locs hφ hEs44 hT => ?_)
      have e12 : zI s44 this 0 = 0 := ((hTo.k t_this (by decide)).eI hEs44 (by decide) rfl).trans e12
      obtain ⟨f45, f46⟩ := hφ
      have K47 : zI s44 this 7 = zI σ0 this 7 := hT.eI t_this (by decide) rfl rfl
      have K47n : (zI s44 this 7).toInt = (zI σ0 this 7).toInt := by rw [K47]
      have J48 : zJ s44 rW = zJ σ0 rW := funext fun k => hT.eJ trW (by decide) rfl rfl
      have J48n : (zJ s44 (kR κ this 1) 4).toInt = (zJ σ0 rW 4).toInt := by rw [erW, J48]
      have P49 : zI s44 rP = zI σ0 rP := funext fun k => hT.eI trP (by decide) rfl rfl
      try simp only [erW, erP, ix_0, ix_1, ix_2, ix_3, ix_4, ix_5, ix_6, ix_7, ix_8, ix_9, K39, J40, P41, K47, J48, P49] at f45
      try simp only [erW, erP, ix_0, ix_1, ix_2, ix_3, ix_4, ix_5, ix_6, ix_7, ix_8, ix_9, K39, J40, P41, K47, J48, P49] at f46
      refine lv_lload_n hx hb dX6_mean_58 rfl (lv_at hl 0 rfl) ?_
      refine lv_ldiv hx hb dX6_mean_59 (gl_nz (by omega)) ?_
      refine lv_topl (fun t50 ht50 => ?_)
      subst hQ9
      exact t_l hx hb hr hlocks hT trivial dX6_mean_60
    · have c4 := gi_eq c9
      refine lv_aload_n hx hb dX6_mean_47 rfl (lv_at hl 1 rfl) ?_
      have R51 : RI κ s37 this := h0.ext hT.2.2.1 ⟨rfl, rfl, fun _ => rfl, fun _ => rfl, fun _ => rfl, fun _ => rfl⟩
      have hTo := hT
      refine tVl (n := 0) (As := []) (rest := []) hx hb hml hown hg hT hK hX (X6_whole l κ s37 this  (hT.k t_this (by decide)) R51) sub_fE_gR (mwV k1476 k1478 k60 k92 k1479) ⟨rfl, by decide, by decide, by decide +kernel⟩ ⟨(Nat.le_of_ble_eq_true rfl), (Nat.le_of_ble_eq_true rfl)⟩ (hT.o20 (hT.k t_this (by decide))) rfl rfl hl.1 rfl (Nat.le_of_ble_eq_true rfl) dX6_mean_48 zroom.rf (fun x52 s53 H locs hφ hEs53 hT => ?_)
      have e12 : zI s53 this 0 = 0 := ((hTo.k t_this (by decide)).eI hEs53 (by decide) rfl).trans e12
      refine lv_goto (tgt := 58) hx hb dX6_mean_51 (by decide) ?_
      refine lv_lload_n hx hb dX6_mean_58 rfl (lv_at hl 0 rfl) ?_
      refine lv_ldiv hx hb dX6_mean_59 (gl_nz (by omega)) ?_
      refine lv_topl (fun t54 ht54 => ?_)
      subst hQ9
      exact t_l hx hb hr hlocks hT trivial dX6_mean_60
set_option maxHeartbeats 4000000 in
set_option maxRecDepth 100000 in
theorem X6_energy (l : Launch) (κ : Kt) (σ0 : Gh) (this : Nat) (t_this : zk σ0 this 20) (h0 : RI κ σ0 this) : TC l yX6_energy cX6_energy 4 (some .long) 1 22 [.ref this] κ σ0 (tql κ gR σ0 (fun (r : Int64) (τ : Gh) => True)) := by
  refine TC.of gR (by decide +kernel) (Nat.le_of_ble_eq_true rfl) ?_
  intro p e s m below meth c ls hcs hK hX hT hl
  obtain ⟨hx, hb, hr, hml, hown, hg, hlocks, hin⟩ := hcs
  have hown : s.vm.findClass RX6 = some m.cls := hown
  have hl : lv_has ls 4 [(0, .ref this)] := hl
  have hT0 := hT
  have n0 : (0 : Int32).toInt = 0 := by decide
  have n3 : (3 : Int32).toInt = 3 := by decide
  have n4 : (4 : Int32).toInt = 4 := by decide
  have j0 : (0 : Int64).toInt = 0 := by decide
  generalize hQ9 : tQ _ _ _ _ _ _ = Q9
  obtain ⟨rW, erW⟩ : ∃ z, kR κ this 1 = z := ⟨_, rfl⟩
  have trW : zk σ0 rW 21 := by rw [← erW]; exact h0.1.2.1
  obtain ⟨rP, erP⟩ : ∃ z, kR κ this 5 = z := ⟨_, rfl⟩
  have trP : zk σ0 rP 25 := by rw [← erP]; exact h0.1.2.2.2.2
  have hB0 := h0.b
  rw [erW] at hB0
  have hW := h0.2.1
  rw [erW] at hW
  have hP := h0.2.2.1
  rw [erP] at hP
  have hrN : (rN σ0 this : Int) = (zI σ0 this 7).toInt := by unfold rN; omega
  refine lv_aload_n hx hb dX6_energy_0 rfl (lv_at hl 0 rfl) ?_
  refine lv_iconst (v := 0) hx hb dX6_energy_1 (by decide) ?_
  have hTo := hT
  refine pf20_0 hx hb hg hown hK hT (hT.k t_this (by decide)) rfl (hg _ k1219) dX6_energy_2 (fun H locs s1 hus1 hT => ?_)
  have e2 : zI s1 this 0 = 0 := zput_at hus1
  refine lv_lconst (v := 0) hx hb dX6_energy_5 (by decide) ?_
  refine lv_lstore_n (lv' := [(1, .long 0), (0, .ref this)]) hx hb dX6_energy_6 rfl hl (by decide) rfl (fun ls hl => ?_)
  refine lv_iconst (v := 0) hx hb dX6_energy_7 (by decide) ?_
  refine lv_istore_n (lv' := [(3, .int 0), (1, .long 0), (0, .ref this)]) hx hb dX6_energy_8 rfl hl (by decide) rfl (fun ls hl => ?_)
  have loop9 : ∀ (n9 : Nat) (k : Int32) (sm : Int64) (H : Heap) (locs : List Loc) (sg : Gh) (ls : Array Slot), TS κ gR σ0 sg s H locs → (0 ≤ k.toInt) → (k.toInt ≤ (zJ σ0 rW 4).toInt) → lv_has ls 4 [(3, .int k), (1, .long sm), (0, .ref this)] → ((zJ σ0 rW 4).toInt - k.toInt) < n9 → tW p l e 1 22 κ s m #[.ref this] below meth c H locs Q9 (F0 m 9 ls []) := by
    intro n9
    induction n9 with
    | zero =>
      intro k sm H locs sg ls hT q1 q2 hl hm9
      exfalso
      omega
    | succ n9 ih9 =>
      have ih9 := ih9
      clear ih9
      intro k sm H locs s3 ls hT q1 q2 hl hm9
      refine lv_iload_n hx hb dX6_energy_9 rfl (lv_at hl 0 rfl) ?_
      refine lv_aload_n hx hb dX6_energy_10 rfl (lv_at hl 2 rfl) ?_
      have K4 : zI s3 this 7 = zI σ0 this 7 := hT.eI t_this (by decide) rfl rfl
      have K4n : (zI s3 this 7).toInt = (zI σ0 this 7).toInt := by rw [K4]
      have J5 : zJ s3 rW = zJ σ0 rW := funext fun k => hT.eJ trW (by decide) rfl rfl
      have J5n : (zJ s3 (kR κ this 1) 4).toInt = (zJ σ0 rW 4).toInt := by rw [erW, J5]
      have P6 : zI s3 rP = zI σ0 rP := funext fun k => hT.eI trP (by decide) rfl rfl
      have R7 : RI κ s3 this := h0.ext hT.2.2.1 ⟨rfl, rfl, fun _ => rfl, fun _ => rfl, fun _ => rfl, fun _ => rfl⟩
      have hTo := hT
      refine tVi (n := 0) (As := []) (rest := [.int k]) hx hb hml hown hg hT hK hX (X6_steps l κ s3 this  (hT.k t_this (by decide)) R7) sub_fE_gR (mwV k1416 k1418 k52 k92 k1419) ⟨rfl, by decide, by decide, by decide +kernel⟩ ⟨(Nat.le_of_ble_eq_true rfl), (Nat.le_of_ble_eq_true rfl)⟩ (hT.o20 (hT.k t_this (by decide))) rfl rfl hl.1 rfl (Nat.le_of_ble_eq_true rfl) dX6_energy_11 zroom.rf (fun x8 s9 H locs hφ hEs9 hT => ?_)
      have f10 := hφ
      have K11 : zI s9 this 7 = zI σ0 this 7 := hT.eI t_this (by decide) rfl rfl
      have K11n : (zI s9 this 7).toInt = (zI σ0 this 7).toInt := by rw [K11]
      have J12 : zJ s9 rW = zJ σ0 rW := funext fun k => hT.eJ trW (by decide) rfl rfl
      have J12n : (zJ s9 (kR κ this 1) 4).toInt = (zJ σ0 rW 4).toInt := by rw [erW, J12]
      have P13 : zI s9 rP = zI σ0 rP := funext fun k => hT.eI trP (by decide) rfl rfl
      try simp only [erW, erP, ix_0, ix_1, ix_2, ix_3, ix_4, ix_5, ix_6, ix_7, ix_8, ix_9, K4, J5, P6, K11, J12, P13] at f10
      refine lv_icmp_ge (tgt := 46) hx hb dX6_energy_14 (by decide) (fun c9 => ?_) (fun c9 => ?_)
      · have c1 := gi_le c9
        refine lv_lload_n hx hb dX6_energy_46 rfl (lv_at hl 1 rfl) ?_
        subst hQ9
        exact t_l hx hb hr hlocks hT trivial dX6_energy_47
      · have c2 := gi_nle c9
        refine lv_lload_n hx hb dX6_energy_17 rfl (lv_at hl 1 rfl) ?_
        refine lv_aload_n hx hb dX6_energy_18 rfl (lv_at hl 2 rfl) ?_
        refine lv_iload_n hx hb dX6_energy_19 rfl (lv_at hl 0 rfl) ?_
        refine lv_iconst (v := 4) hx hb dX6_energy_20 (by decide) ?_
        have hTo := hT
        refine tVl (n := 2) (As := [.int k, .int 4]) (rest := [.long sm]) hx hb hml hown hg hT hK hX (X6_of l κ s9 this k 4  (hT.k t_this (by decide)) (by omega) (by omega) (by omega) (by omega)) sub_fE_gR (mwV k1424 k1426 k54 k92 k1427) ⟨rfl, by decide, by decide, by decide +kernel⟩ ⟨(Nat.le_of_ble_eq_true rfl), (Nat.le_of_ble_eq_true rfl)⟩ (hT.o20 (hT.k t_this (by decide))) rfl rfl hl.1 rfl (Nat.le_of_ble_eq_true rfl) dX6_energy_21 zroom.rf (fun x14 s15 H locs hφ hEs15 hT => ?_)
        have f16 := hφ
        have K17 : zI s15 this 7 = zI σ0 this 7 := hT.eI t_this (by decide) rfl rfl
        have K17n : (zI s15 this 7).toInt = (zI σ0 this 7).toInt := by rw [K17]
        have J18 : zJ s15 rW = zJ σ0 rW := funext fun k => hT.eJ trW (by decide) rfl rfl
        have J18n : (zJ s15 (kR κ this 1) 4).toInt = (zJ σ0 rW 4).toInt := by rw [erW, J18]
        have P19 : zI s15 rP = zI σ0 rP := funext fun k => hT.eI trP (by decide) rfl rfl
        try simp only [erW, erP, ix_0, ix_1, ix_2, ix_3, ix_4, ix_5, ix_6, ix_7, ix_8, ix_9, K11, J12, P13, K17, J18, P19] at f16
        refine lv_aload_n hx hb dX6_energy_24 rfl (lv_at hl 2 rfl) ?_
        refine lv_iload_n hx hb dX6_energy_25 rfl (lv_at hl 0 rfl) ?_
        refine lv_iconst (v := 3) hx hb dX6_energy_26 (by decide) ?_
        have hTo := hT
        refine tVl (n := 2) (As := [.int k, .int 3]) (rest := [.long x14, .long sm]) hx hb hml hown hg hT hK hX (X6_of l κ s15 this k 3  (hT.k t_this (by decide)) (by omega) (by omega) (by omega) (by omega)) sub_fE_gR (mwV k1424 k1426 k54 k92 k1427) ⟨rfl, by decide, by decide, by decide +kernel⟩ ⟨(Nat.le_of_ble_eq_true rfl), (Nat.le_of_ble_eq_true rfl)⟩ (hT.o20 (hT.k t_this (by decide))) rfl rfl hl.1 rfl (Nat.le_of_ble_eq_true rfl) dX6_energy_27 zroom.rf (fun x20 s21 H locs hφ hEs21 hT => ?_)
        have f22 := hφ
        have K23 : zI s21 this 7 = zI σ0 this 7 := hT.eI t_this (by decide) rfl rfl
        have K23n : (zI s21 this 7).toInt = (zI σ0 this 7).toInt := by rw [K23]
        have J24 : zJ s21 rW = zJ σ0 rW := funext fun k => hT.eJ trW (by decide) rfl rfl
        have J24n : (zJ s21 (kR κ this 1) 4).toInt = (zJ σ0 rW 4).toInt := by rw [erW, J24]
        have P25 : zI s21 rP = zI σ0 rP := funext fun k => hT.eI trP (by decide) rfl rfl
        try simp only [erW, erP, ix_0, ix_1, ix_2, ix_3, ix_4, ix_5, ix_6, ix_7, ix_8, ix_9, K17, J18, P19, K23, J24, P25] at f22
        refine lv_lmul hx hb dX6_energy_30 ?_
        refine lv_topl (fun t26 ht26 => ?_)
        refine lv_aload_n hx hb dX6_energy_31 rfl (lv_at hl 2 rfl) ?_
        refine lv_iload_n hx hb dX6_energy_32 rfl (lv_at hl 0 rfl) ?_
        refine lv_iconst (v := 3) hx hb dX6_energy_33 (by decide) ?_
        have hTo := hT
        refine tVl (n := 2) (As := [.int k, .int 3]) (rest := [.long t26, .long sm]) hx hb hml hown hg hT hK hX (X6_of l κ s21 this k 3  (hT.k t_this (by decide)) (by omega) (by omega) (by omega) (by omega)) sub_fE_gR (mwV k1424 k1426 k54 k92 k1427) ⟨rfl, by decide, by decide, by decide +kernel⟩ ⟨(Nat.le_of_ble_eq_true rfl), (Nat.le_of_ble_eq_true rfl)⟩ (hT.o20 (hT.k t_this (by decide))) rfl rfl hl.1 rfl (Nat.le_of_ble_eq_true rfl) dX6_energy_34 zroom.rf (fun x27 s28 H locs hφ hEs28 hT => ?_)
        have f29 := hφ
        have K30 : zI s28 this 7 = zI σ0 this 7 := hT.eI t_this (by decide) rfl rfl
        have K30n : (zI s28 this 7).toInt = (zI σ0 this 7).toInt := by rw [K30]
        have J31 : zJ s28 rW = zJ σ0 rW := funext fun k => hT.eJ trW (by decide) rfl rfl
        have J31n : (zJ s28 (kR κ this 1) 4).toInt = (zJ σ0 rW 4).toInt := by rw [erW, J31]
        have P32 : zI s28 rP = zI σ0 rP := funext fun k => hT.eI trP (by decide) rfl rfl
        try simp only [erW, erP, ix_0, ix_1, ix_2, ix_3, ix_4, ix_5, ix_6, ix_7, ix_8, ix_9, K23, J24, P25, K30, J31, P32] at f29
        refine lv_lmul hx hb dX6_energy_37 ?_
        refine lv_topl (fun t33 ht33 => ?_)
        refine lv_ladd hx hb dX6_energy_38 ?_
        refine lv_topl (fun t34 ht34 => ?_)
        refine lv_lstore_n (lv' := [(1, .long t34), (3, .int k), (0, .ref this)]) hx hb dX6_energy_39 rfl hl (by decide) rfl (fun ls hl => ?_)
        obtain ⟨t35, qt35⟩ : ∃ zz9 : Int32, k + Int32.ofInt 1 = zz9 := ⟨_, rfl⟩
        refine lv_iinc (v := t35) (lv' := [(3, .int t35), (1, .long t34), (0, .ref this)]) hx hb dX6_energy_40 hl (k := 1) rfl qt35 (by decide) rfl (fun ls hl => ?_)
        have ht35 : t35.toInt = k.toInt + 1 := by rw [← qt35]; exact v_addi rfl (show (Int32.ofInt 1).toInt = 1 from by decide) (by omega) (by omega)
        refine lv_goto (tgt := 9) hx hb dX6_energy_43 (by decide) ?_
        exact ih9 t35 t34 _ _ _ _ hT  (by omega) (by omega) hl (by omega)
  exact loop9 (((zJ σ0 rW 4).toInt - (0 : Int32).toInt).toNat + 1) 0 0 _ _ _ _ hT  (by omega) (by omega) hl (by omega)
set_option maxHeartbeats 4000000 in
set_option maxRecDepth 100000 in
theorem X6_bitsNow (l : Launch) (κ : Kt) (σ0 : Gh) (this : Nat) (t_this : zk σ0 this 20) (h0 : RI κ σ0 this) : TC l yX6_bitsNow cX6_bitsNow 5 (some .int) 1 22 [.ref this] κ σ0 (tqi κ fE σ0 (fun (r : Int32) (τ : Gh) => True)) := by
  refine TC.of fE (by decide +kernel) (Nat.le_of_ble_eq_true rfl) ?_
  intro p e s m below meth c ls hcs hK hX hT hl
  obtain ⟨hx, hb, hr, hml, hown, hg, hlocks, hin⟩ := hcs
  have hown : s.vm.findClass RX6 = some m.cls := hown
  have hl : lv_has ls 5 [(0, .ref this)] := hl
  have hT0 := hT
  have n0 : (0 : Int32).toInt = 0 := by decide
  have n3 : (3 : Int32).toInt = 3 := by decide
  have j0 : (0 : Int64).toInt = 0 := by decide
  have j2 : (2 : Int64).toInt = 2 := by decide
  generalize hQ9 : tQ _ _ _ _ _ _ = Q9
  obtain ⟨rW, erW⟩ : ∃ z, kR κ this 1 = z := ⟨_, rfl⟩
  have trW : zk σ0 rW 21 := by rw [← erW]; exact h0.1.2.1
  obtain ⟨rP, erP⟩ : ∃ z, kR κ this 5 = z := ⟨_, rfl⟩
  have trP : zk σ0 rP 25 := by rw [← erP]; exact h0.1.2.2.2.2
  have hB0 := h0.b
  rw [erW] at hB0
  have hW := h0.2.1
  rw [erW] at hW
  have hP := h0.2.2.1
  rw [erP] at hP
  have hrN : (rN σ0 this : Int) = (zI σ0 this 7).toInt := by unfold rN; omega
  refine lv_aload_n hx hb dX6_bitsNow_0 rfl (lv_at hl 0 rfl) ?_
  have hTo := hT
  refine tVi (n := 0) (As := []) (rest := []) hx hb hml hown hg hT hK hX (X6_steps l κ σ0 this  (hT.k t_this (by decide)) h0) (fun _ _ h => h) (mwV k1416 k1418 k52 k92 k1419) ⟨rfl, by decide, by decide, by decide +kernel⟩ ⟨(Nat.le_of_ble_eq_true rfl), (Nat.le_of_ble_eq_true rfl)⟩ (hT.o20 (hT.k t_this (by decide))) rfl rfl hl.1 rfl (Nat.le_of_ble_eq_true rfl) dX6_bitsNow_1 zroom.rf (fun x1 s2 H locs hφ hEs2 hT => ?_)
  have f3 := hφ
  have K4 : zI s2 this 7 = zI σ0 this 7 := hT.eI t_this (by decide) rfl rfl
  have K4n : (zI s2 this 7).toInt = (zI σ0 this 7).toInt := by rw [K4]
  have J5 : zJ s2 rW = zJ σ0 rW := funext fun k => hT.eJ trW (by decide) rfl rfl
  have J5n : (zJ s2 (kR κ this 1) 4).toInt = (zJ σ0 rW 4).toInt := by rw [erW, J5]
  have P6 : zI s2 rP = zI σ0 rP := funext fun k => hT.eI trP (by decide) rfl rfl
  try simp only [erW, erP, ix_0, ix_1, ix_2, ix_3, ix_4, ix_5, ix_6, ix_7, ix_8, ix_9, K4, J5, P6] at f3
  refine lv_istore_n (lv' := [(1, .int x1), (0, .ref this)]) hx hb dX6_bitsNow_4 rfl hl (by decide) rfl (fun ls hl => ?_)
  refine lv_iconst (v := 0) hx hb dX6_bitsNow_5 (by decide) ?_
  refine lv_istore_n (lv' := [(2, .int 0), (1, .int x1), (0, .ref this)]) hx hb dX6_bitsNow_6 rfl hl (by decide) rfl (fun ls hl => ?_)
  have loop7 : ∀ (n9 : Nat) (k : Int32) (n : Int32) (H : Heap) (locs : List Loc) (sg : Gh) (ls : Array Slot), TS κ fE σ0 sg s H locs → (0 ≤ k.toInt) → (k.toInt ≤ (zJ σ0 rW 4).toInt) → lv_has ls 5 [(2, .int k), (1, .int n), (0, .ref this)] → ((zJ σ0 rW 4).toInt - k.toInt) < n9 → tW p l e 1 22 κ s m #[.ref this] below meth c H locs Q9 (F0 m 7 ls []) := by
    intro n9
    induction n9 with
    | zero =>
      intro k n H locs sg ls hT q1 q2 hl hm9
      exfalso
      omega
    | succ n9 ih9 =>
      have ih7 := ih9
      clear ih9
      intro k n H locs s7 ls hT q1 q2 hl hm9
      refine lv_iload_n hx hb dX6_bitsNow_7 rfl (lv_at hl 0 rfl) ?_
      refine lv_aload_n hx hb dX6_bitsNow_8 rfl (lv_at hl 2 rfl) ?_
      have K8 : zI s7 this 7 = zI σ0 this 7 := hT.eI t_this (by decide) rfl rfl
      have K8n : (zI s7 this 7).toInt = (zI σ0 this 7).toInt := by rw [K8]
      have J9 : zJ s7 rW = zJ σ0 rW := funext fun k => hT.eJ trW (by decide) rfl rfl
      have J9n : (zJ s7 (kR κ this 1) 4).toInt = (zJ σ0 rW 4).toInt := by rw [erW, J9]
      have P10 : zI s7 rP = zI σ0 rP := funext fun k => hT.eI trP (by decide) rfl rfl
      have R11 : RI κ s7 this := h0.ext hT.2.2.1 ⟨rfl, rfl, fun _ => rfl, fun _ => rfl, fun _ => rfl, fun _ => rfl⟩
      have hTo := hT
      refine tVi (n := 0) (As := []) (rest := [.int k]) hx hb hml hown hg hT hK hX (X6_steps l κ s7 this  (hT.k t_this (by decide)) R11) (fun _ _ h => h) (mwV k1416 k1418 k52 k92 k1419) ⟨rfl, by decide, by decide, by decide +kernel⟩ ⟨(Nat.le_of_ble_eq_true rfl), (Nat.le_of_ble_eq_true rfl)⟩ (hT.o20 (hT.k t_this (by decide))) rfl rfl hl.1 rfl (Nat.le_of_ble_eq_true rfl) dX6_bitsNow_9 zroom.rf (fun x12 s13 H locs hφ hEs13 hT => ?_)
      have f14 := hφ
      have K15 : zI s13 this 7 = zI σ0 this 7 := hT.eI t_this (by decide) rfl rfl
      have K15n : (zI s13 this 7).toInt = (zI σ0 this 7).toInt := by rw [K15]
      have J16 : zJ s13 rW = zJ σ0 rW := funext fun k => hT.eJ trW (by decide) rfl rfl
      have J16n : (zJ s13 (kR κ this 1) 4).toInt = (zJ σ0 rW 4).toInt := by rw [erW, J16]
      have P17 : zI s13 rP = zI σ0 rP := funext fun k => hT.eI trP (by decide) rfl rfl
      try simp only [erW, erP, ix_0, ix_1, ix_2, ix_3, ix_4, ix_5, ix_6, ix_7, ix_8, ix_9, K8, J9, P10, K15, J16, P17] at f14
      refine lv_icmp_ge (tgt := 49) hx hb dX6_bitsNow_12 (by decide) (fun c9 => ?_) (fun c9 => ?_)
      · have c1 := gi_le c9
        refine lv_iload_n hx hb dX6_bitsNow_49 rfl (lv_at hl 1 rfl) ?_
        subst hQ9
        exact t_i hx hb hr hlocks hT trivial dX6_bitsNow_50
      · have c2 := gi_nle c9
        refine lv_aload_n hx hb dX6_bitsNow_15 rfl (lv_at hl 2 rfl) ?_
        refine lv_iload_n hx hb dX6_bitsNow_16 rfl (lv_at hl 0 rfl) ?_
        refine lv_iconst (v := 3) hx hb dX6_bitsNow_17 (by decide) ?_
        have hTo := hT
        refine tVl (n := 2) (As := [.int k, .int 3]) (rest := []) hx hb hml hown hg hT hK hX (X6_of l κ s13 this k 3  (hT.k t_this (by decide)) (by omega) (by omega) (by omega) (by omega)) (fun _ _ h => h) (mwV k1424 k1426 k54 k92 k1427) ⟨rfl, by decide, by decide, by decide +kernel⟩ ⟨(Nat.le_of_ble_eq_true rfl), (Nat.le_of_ble_eq_true rfl)⟩ (hT.o20 (hT.k t_this (by decide))) rfl rfl hl.1 rfl (Nat.le_of_ble_eq_true rfl) dX6_bitsNow_18 zroom.rf (fun x18 s19 H locs hφ hEs19 hT => ?_)
        have f20 := hφ
        have K21 : zI s19 this 7 = zI σ0 this 7 := hT.eI t_this (by decide) rfl rfl
        have K21n : (zI s19 this 7).toInt = (zI σ0 this 7).toInt := by rw [K21]
        have J22 : zJ s19 rW = zJ σ0 rW := funext fun k => hT.eJ trW (by decide) rfl rfl
        have J22n : (zJ s19 (kR κ this 1) 4).toInt = (zJ σ0 rW 4).toInt := by rw [erW, J22]
        have P23 : zI s19 rP = zI σ0 rP := funext fun k => hT.eI trP (by decide) rfl rfl
        try simp only [erW, erP, ix_0, ix_1, ix_2, ix_3, ix_4, ix_5, ix_6, ix_7, ix_8, ix_9, K15, J16, P17, K21, J22, P23] at f20
        have hTo := hT
        refine tSl (n := 1) (As := [.long x18]) (rest := []) hx hb hml hown hg hT hK hX (X6_amount l κ s19 x18   ) (fun _ _ h => h) (mwS k1488 k1489 k92 k1490) ⟨rfl, by decide, by decide, by decide +kernel⟩ ⟨(Nat.le_of_ble_eq_true rfl), (Nat.le_of_ble_eq_true rfl)⟩ rfl hl.1 rfl (Nat.le_of_ble_eq_true rfl) dX6_bitsNow_21 zroom.rf (fun x24 s25 H locs hφ hEs25 hT => ?_)
        have f26 := hφ
        have K27 : zI s25 this 7 = zI σ0 this 7 := hT.eI t_this (by decide) rfl rfl
        have K27n : (zI s25 this 7).toInt = (zI σ0 this 7).toInt := by rw [K27]
        have J28 : zJ s25 rW = zJ σ0 rW := funext fun k => hT.eJ trW (by decide) rfl rfl
        have J28n : (zJ s25 (kR κ this 1) 4).toInt = (zJ σ0 rW 4).toInt := by rw [erW, J28]
        have P29 : zI s25 rP = zI σ0 rP := funext fun k => hT.eI trP (by decide) rfl rfl
        try simp only [erW, erP, ix_0, ix_1, ix_2, ix_3, ix_4, ix_5, ix_6, ix_7, ix_8, ix_9, K21, J22, P23, K27, J28, P29] at f26
        refine lv_lstore_n (lv' := [(3, .long x24), (2, .int k), (1, .int n), (0, .ref this)]) hx hb dX6_bitsNow_24 rfl hl (by decide) rfl (fun ls hl => ?_)
        have loop25 : ∀ (n9 : Nat) (n1 : Int32) (v : Int64) (H : Heap) (locs : List Loc) (sg : Gh) (ls : Array Slot), TS κ fE σ0 sg s H locs → lv_has ls 5 [(1, .int n1), (3, .long v), (2, .int k), (0, .ref this)] → ((v.toInt.toNat : Int)) < n9 → tW p l e 1 22 κ s m #[.ref this] below meth c H locs Q9 (F0 m 25 ls []) := by
          intro n9
          induction n9 with
          | zero =>
            intro n1 v H locs sg ls hT  hl hm9
            exfalso
            omega
          | succ n9 ih9 =>
            have ih25 := ih9
            clear ih9
            intro n1 v H locs s30 ls hT  hl hm9
            refine lv_lload_n hx hb dX6_bitsNow_25 rfl (lv_at hl 1 rfl) ?_
            refine lv_lconst (v := 0) hx hb dX6_bitsNow_26 (by decide) ?_
            refine W.lcmp hx hb dX6_bitsNow_27 ?_
            refine lv_if_le (tgt := 43) hx hb dX6_bitsNow_28 (by decide) (fun c9 => ?_) (fun c9 => ?_)
            · have c3 := gl_le c9
              obtain ⟨t31, qt31⟩ : ∃ zz9 : Int32, k + Int32.ofInt 1 = zz9 := ⟨_, rfl⟩
              refine lv_iinc (v := t31) (lv' := [(2, .int t31), (1, .int n1), (3, .long v), (0, .ref this)]) hx hb dX6_bitsNow_43 hl (k := 2) rfl qt31 (by decide) rfl (fun ls hl => ?_)
              have ht31 : t31.toInt = k.toInt + 1 := by rw [← qt31]; exact v_addi rfl (show (Int32.ofInt 1).toInt = 1 from by decide) (by omega) (by omega)
              refine lv_goto (tgt := 7) hx hb dX6_bitsNow_46 (by decide) ?_
              exact ih7 t31 n1 _ _ _ _ hT  (by omega) (by omega) (lv_sub hl [0, 1, 3] rfl) (by omega)
            · have c4 := gl_nle c9
              obtain ⟨t32, qt32⟩ : ∃ zz9 : Int32, n1 + Int32.ofInt 1 = zz9 := ⟨_, rfl⟩
              refine lv_iinc (v := t32) (lv' := [(1, .int t32), (3, .long v), (2, .int k), (0, .ref this)]) hx hb dX6_bitsNow_31 hl (k := 0) rfl qt32 (by decide) rfl (fun ls hl => ?_)
              refine lv_lload_n hx hb dX6_bitsNow_34 rfl (lv_at hl 1 rfl) ?_
              refine lv_ldc2 hx hb hown (hg _ k1510) dX6_bitsNow_35 ?_
              refine lv_ldiv hx hb dX6_bitsNow_38 (gl_nz (by omega)) ?_
              refine g_ldivk (k := 2) j2 (by decide) (fun t33 ht33 => ?_)
              refine lv_lstore_n (lv' := [(3, .long t33), (1, .int t32), (2, .int k), (0, .ref this)]) hx hb dX6_bitsNow_39 rfl hl (by decide) rfl (fun ls hl => ?_)
              refine lv_goto (tgt := 25) hx hb dX6_bitsNow_40 (by decide) ?_
              exact ih25 t32 t33 _ _ _ _ hT   (lv_sub hl [1, 0, 2, 3] rfl) (by omega)
        exact loop25 (((x24.toInt.toNat : Int)).toNat + 1) n x24 _ _ _ _ hT   (lv_sub hl [2, 0, 1, 3] rfl) (by omega)
  exact loop7 (((zJ σ0 rW 4).toInt - (0 : Int32).toInt).toNat + 1) 0 x1 _ _ _ _ hT  (by omega) (by omega) hl (by omega)
set_option maxHeartbeats 4000000 in
set_option maxRecDepth 100000 in
theorem X6_bits (l : Launch) (κ : Kt) (σ0 : Gh) (this : Nat) (t_this : zk σ0 this 20) (h0 : RI κ σ0 this) : TC l yX6_bits cX6_bits 1 (some .int) 2 46 [.ref this] κ σ0 (tqi κ gR σ0 (fun (r : Int32) (τ : Gh) => True)) := by
  refine TC.of gR (by decide +kernel) (Nat.le_of_ble_eq_true rfl) ?_
  intro p e s m below meth c ls hcs hK hX hT hl
  obtain ⟨hx, hb, hr, hml, hown, hg, hlocks, hin⟩ := hcs
  have hown : s.vm.findClass RX6 = some m.cls := hown
  have hl : lv_has ls 1 [(0, .ref this)] := hl
  have hT0 := hT
  have n0 : (0 : Int32).toInt = 0 := by decide
  generalize hQ9 : tQ _ _ _ _ _ _ = Q9
  obtain ⟨rW, erW⟩ : ∃ z, kR κ this 1 = z := ⟨_, rfl⟩
  have trW : zk σ0 rW 21 := by rw [← erW]; exact h0.1.2.1
  obtain ⟨rP, erP⟩ : ∃ z, kR κ this 5 = z := ⟨_, rfl⟩
  have trP : zk σ0 rP 25 := by rw [← erP]; exact h0.1.2.2.2.2
  have hB0 := h0.b
  rw [erW] at hB0
  have hW := h0.2.1
  rw [erW] at hW
  have hP := h0.2.2.1
  rw [erP] at hP
  have hrN : (rN σ0 this : Int) = (zI σ0 this 7).toInt := by unfold rN; omega
  refine lv_aload_n hx hb dX6_bits_0 rfl (lv_at hl 0 rfl) ?_
  refine lv_iconst (v := 0) hx hb dX6_bits_1 (by decide) ?_
  have hTo := hT
  refine pf20_0 hx hb hg hown hK hT (hT.k t_this (by decide)) rfl (hg _ k1219) dX6_bits_2 (fun H locs s1 hus1 hT => ?_)
  have e2 : zI s1 this 0 = 0 := zput_at hus1
  refine lv_aload_n hx hb dX6_bits_5 rfl (lv_at hl 0 rfl) ?_
  have K3 : zI s1 this 7 = zI σ0 this 7 := hT.eI t_this (by decide) rfl rfl
  have K3n : (zI s1 this 7).toInt = (zI σ0 this 7).toInt := by rw [K3]
  have J4 : zJ s1 rW = zJ σ0 rW := funext fun k => hT.eJ trW (by decide) rfl rfl
  have J4n : (zJ s1 (kR κ this 1) 4).toInt = (zJ σ0 rW 4).toInt := by rw [erW, J4]
  have P5 : zI s1 rP = zI σ0 rP := funext fun k => hT.eI trP (by decide) rfl rfl
  have R6 : RI κ s1 this := h0.ext hT.2.2.1 ⟨rfl, rfl, fun _ => rfl, fun _ => rfl, fun _ => rfl, fun _ => rfl⟩
  have hTo := hT
  refine tVi (n := 0) (As := []) (rest := []) hx hb hml hown hg hT hK hX (X6_bitsNow l κ s1 this  (hT.k t_this (by decide)) R6) sub_fE_gR (mwV k1506 k1508 k61 k92 k1509) ⟨rfl, by decide, by decide, by decide +kernel⟩ ⟨(Nat.le_of_ble_eq_true rfl), (Nat.le_of_ble_eq_true rfl)⟩ (hT.o20 (hT.k t_this (by decide))) rfl rfl hl.1 rfl (Nat.le_of_ble_eq_true rfl) dX6_bits_6 zroom.rf (fun x7 s8 H locs hφ hEs8 hT => ?_)
  have e2 : zI s8 this 0 = 0 := ((hTo.k t_this (by decide)).eI hEs8 (by decide) rfl).trans e2
  subst hQ9
  exact t_i hx hb hr hlocks hT trivial dX6_bits_9

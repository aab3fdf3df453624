/-! The reference over any state: details, measures -/
theorem k63 : Cond.selects RX6 yX6_nextOne yX6_nextOne ∈ GW := gm 63 (by decide +kernel) (by decide +kernel)
theorem k64 : Cond.selects RX6 yX6_isInner yX6_isInner ∈ GW := gm 64 (by decide +kernel) (by decide +kernel)
theorem k65 : Cond.selects RX6 yX6_measure yX6_measure ∈ GW := gm 65 (by decide +kernel) (by decide +kernel)
theorem k66 : Cond.selects RX6 yX6_detailOf yX6_detailOf ∈ GW := gm 66 (by decide +kernel) (by decide +kernel)
theorem k67 : Cond.selects RX6 yX6_predicted yX6_predicted ∈ GW := gm 67 (by decide +kernel) (by decide +kernel)
theorem k1523 : Cond.methodLink RX6 283 yX6_nextOne ∈ GW := gm 1523 (by decide +kernel) (by decide +kernel)
theorem k1525 : Cond.instanceMethod yX6_nextOne ∈ GW := gm 1525 (by decide +kernel) (by decide +kernel)
theorem k1526 : Cond.code yX6_nextOne cX6_nextOne 3 (some .int) ∈ GW := gm 1526 (by decide +kernel) (by decide +kernel)
theorem k1527 : Cond.methodLink RX6 277 yX6_isInner ∈ GW := gm 1527 (by decide +kernel) (by decide +kernel)
theorem k1529 : Cond.instanceMethod yX6_isInner ∈ GW := gm 1529 (by decide +kernel) (by decide +kernel)
theorem k1530 : Cond.code yX6_isInner cX6_isInner 2 (some .boolean) ∈ GW := gm 1530 (by decide +kernel) (by decide +kernel)
theorem k1531 : Cond.methodLink RX6 280 yX6_measure ∈ GW := gm 1531 (by decide +kernel) (by decide +kernel)
theorem k1533 : Cond.instanceMethod yX6_measure ∈ GW := gm 1533 (by decide +kernel) (by decide +kernel)
theorem k1534 : Cond.code yX6_measure cX6_measure 5 (some .long) ∈ GW := gm 1534 (by decide +kernel) (by decide +kernel)
theorem k1535 : Cond.methodLink RX6 262 yX6_detailOf ∈ GW := gm 1535 (by decide +kernel) (by decide +kernel)
theorem k1537 : Cond.instanceMethod yX6_detailOf ∈ GW := gm 1537 (by decide +kernel) (by decide +kernel)
theorem k1538 : Cond.code yX6_detailOf cX6_detailOf 2 (some .long) ∈ GW := gm 1538 (by decide +kernel) (by decide +kernel)
theorem k1539 : Cond.methodLink RX6 258 yX6_predicted ∈ GW := gm 1539 (by decide +kernel) (by decide +kernel)
theorem k1541 : Cond.instanceMethod yX6_predicted ∈ GW := gm 1541 (by decide +kernel) (by decide +kernel)
theorem k1542 : Cond.code yX6_predicted cX6_predicted 5 (some .long) ∈ GW := gm 1542 (by decide +kernel) (by decide +kernel)
theorem dX6_detailOf_0 : decode cX6_detailOf 0 = .ok (.aload_n 0, 1) := by decide +kernel
theorem dX6_detailOf_1 : decode cX6_detailOf 1 = .ok (.getfield 7, 3) := by decide +kernel
theorem dX6_detailOf_4 : decode cX6_detailOf 4 = .ok (.iconst 5, 1) := by decide +kernel
theorem dX6_detailOf_5 : decode cX6_detailOf 5 = .ok (.iload_n 1, 1) := by decide +kernel
theorem dX6_detailOf_6 : decode cX6_detailOf 6 = .ok (.iadd, 1) := by decide +kernel
theorem dX6_detailOf_7 : decode cX6_detailOf 7 = .ok (.laload, 1) := by decide +kernel
theorem dX6_detailOf_8 : decode cX6_detailOf 8 = .ok (.aload_n 0, 1) := by decide +kernel
theorem dX6_detailOf_9 : decode cX6_detailOf 9 = .ok (.iload_n 1, 1) := by decide +kernel
theorem dX6_detailOf_10 : decode cX6_detailOf 10 = .ok (.aload_n 0, 1) := by decide +kernel
theorem dX6_detailOf_11 : decode cX6_detailOf 11 = .ok (.iload_n 1, 1) := by decide +kernel
theorem dX6_detailOf_12 : decode cX6_detailOf 12 = .ok (.iconst (-1), 1) := by decide +kernel
theorem dX6_detailOf_13 : decode cX6_detailOf 13 = .ok (.invokevirtual 225, 3) := by decide +kernel
theorem dX6_detailOf_16 : decode cX6_detailOf 16 = .ok (.aload_n 0, 1) := by decide +kernel
theorem dX6_detailOf_17 : decode cX6_detailOf 17 = .ok (.iload_n 1, 1) := by decide +kernel
theorem dX6_detailOf_18 : decode cX6_detailOf 18 = .ok (.iconst 1, 1) := by decide +kernel
theorem dX6_detailOf_19 : decode cX6_detailOf 19 = .ok (.invokevirtual 225, 3) := by decide +kernel
theorem dX6_detailOf_22 : decode cX6_detailOf 22 = .ok (.aload_n 0, 1) := by decide +kernel
theorem dX6_detailOf_23 : decode cX6_detailOf 23 = .ok (.getfield 7, 3) := by decide +kernel
theorem dX6_detailOf_26 : decode cX6_detailOf 26 = .ok (.iconst 1, 1) := by decide +kernel
theorem dX6_detailOf_27 : decode cX6_detailOf 27 = .ok (.laload, 1) := by decide +kernel
theorem dX6_detailOf_28 : decode cX6_detailOf 28 = .ok (.l2i, 1) := by decide +kernel
theorem dX6_detailOf_29 : decode cX6_detailOf 29 = .ok (.invokevirtual 258, 3) := by decide +kernel
theorem dX6_detailOf_32 : decode cX6_detailOf 32 = .ok (.lsub, 1) := by decide +kernel
theorem dX6_detailOf_33 : decode cX6_detailOf 33 = .ok (.lreturn, 1) := by decide +kernel
theorem dX6_gets_0 : decode cX6_gets 0 = .ok (.aload_n 0, 1) := by decide +kernel
theorem dX6_gets_1 : decode cX6_gets 1 = .ok (.iload_n 1, 1) := by decide +kernel
theorem dX6_gets_2 : decode cX6_gets 2 = .ok (.bipush 9, 2) := by decide +kernel
theorem dX6_gets_4 : decode cX6_gets 4 = .ok (.invokevirtual 208, 3) := by decide +kernel
theorem dX6_gets_7 : decode cX6_gets 7 = .ok (.lconst 0, 1) := by decide +kernel
theorem dX6_gets_8 : decode cX6_gets 8 = .ok (.lcmp, 1) := by decide +kernel
theorem dX6_gets_9 : decode cX6_gets 9 = .ok (.ifCond .ne 7, 3) := by decide +kernel
theorem dX6_gets_12 : decode cX6_gets 12 = .ok (.lconst 0, 1) := by decide +kernel
theorem dX6_gets_13 : decode cX6_gets 13 = .ok (.goto 30, 3) := by decide +kernel
theorem dX6_gets_16 : decode cX6_gets 16 = .ok (.aload_n 0, 1) := by decide +kernel
theorem dX6_gets_17 : decode cX6_gets 17 = .ok (.iload_n 1, 1) := by decide +kernel
theorem dX6_gets_18 : decode cX6_gets 18 = .ok (.iconst 4, 1) := by decide +kernel
theorem dX6_gets_19 : decode cX6_gets 19 = .ok (.invokevirtual 208, 3) := by decide +kernel
theorem dX6_gets_22 : decode cX6_gets 22 = .ok (.aload_n 0, 1) := by decide +kernel
theorem dX6_gets_23 : decode cX6_gets 23 = .ok (.iload_n 1, 1) := by decide +kernel
theorem dX6_gets_24 : decode cX6_gets 24 = .ok (.iconst 3, 1) := by decide +kernel
theorem dX6_gets_25 : decode cX6_gets 25 = .ok (.invokevirtual 208, 3) := by decide +kernel
theorem dX6_gets_28 : decode cX6_gets 28 = .ok (.lmul, 1) := by decide +kernel
theorem dX6_gets_29 : decode cX6_gets 29 = .ok (.lload_n 2, 1) := by decide +kernel
theorem dX6_gets_30 : decode cX6_gets 30 = .ok (.lmul, 1) := by decide +kernel
theorem dX6_gets_31 : decode cX6_gets 31 = .ok (.lload_n 2, 1) := by decide +kernel
theorem dX6_gets_32 : decode cX6_gets 32 = .ok (.lload_n 2, 1) := by decide +kernel
theorem dX6_gets_33 : decode cX6_gets 33 = .ok (.lmul, 1) := by decide +kernel
theorem dX6_gets_34 : decode cX6_gets 34 = .ok (.lload 4, 2) := by decide +kernel
theorem dX6_gets_36 : decode cX6_gets 36 = .ok (.lload 4, 2) := by decide +kernel
theorem dX6_gets_38 : decode cX6_gets 38 = .ok (.lmul, 1) := by decide +kernel
theorem dX6_gets_39 : decode cX6_gets 39 = .ok (.ladd, 1) := by decide +kernel
theorem dX6_gets_40 : decode cX6_gets 40 = .ok (.invokestatic 232, 3) := by decide +kernel
theorem dX6_gets_43 : decode cX6_gets 43 = .ok (.lreturn, 1) := by decide +kernel
theorem dX6_measure_0 : decode cX6_measure 0 = .ok (.aload_n 0, 1) := by decide +kernel
theorem dX6_measure_1 : decode cX6_measure 1 = .ok (.getfield 7, 3) := by decide +kernel
theorem dX6_measure_4 : decode cX6_measure 4 = .ok (.iconst 0, 1) := by decide +kernel
theorem dX6_measure_5 : decode cX6_measure 5 = .ok (.laload, 1) := by decide +kernel
theorem dX6_measure_6 : decode cX6_measure 6 = .ok (.lconst 0, 1) := by decide +kernel
theorem dX6_measure_7 : decode cX6_measure 7 = .ok (.lcmp, 1) := by decide +kernel
theorem dX6_measure_8 : decode cX6_measure 8 = .ok (.ifCond .ne 28, 3) := by decide +kernel
theorem dX6_measure_11 : decode cX6_measure 11 = .ok (.aload_n 0, 1) := by decide +kernel
theorem dX6_measure_12 : decode cX6_measure 12 = .ok (.getfield 23, 3) := by decide +kernel
theorem dX6_measure_15 : decode cX6_measure 15 = .ok (.aload_n 0, 1) := by decide +kernel
theorem dX6_measure_16 : decode cX6_measure 16 = .ok (.iload_n 1, 1) := by decide +kernel
theorem dX6_measure_17 : decode cX6_measure 17 = .ok (.iconst 1, 1) := by decide +kernel
theorem dX6_measure_18 : decode cX6_measure 18 = .ok (.invokevirtual 225, 3) := by decide +kernel
theorem dX6_measure_21 : decode cX6_measure 21 = .ok (.iaload, 1) := by decide +kernel
theorem dX6_measure_22 : decode cX6_measure 22 = .ok (.aload_n 0, 1) := by decide +kernel
theorem dX6_measure_23 : decode cX6_measure 23 = .ok (.getfield 23, 3) := by decide +kernel
theorem dX6_measure_26 : decode cX6_measure 26 = .ok (.aload_n 0, 1) := by decide +kernel
theorem dX6_measure_27 : decode cX6_measure 27 = .ok (.iload_n 1, 1) := by decide +kernel
theorem dX6_measure_28 : decode cX6_measure 28 = .ok (.iconst (-1), 1) := by decide +kernel
theorem dX6_measure_29 : decode cX6_measure 29 = .ok (.invokevirtual 225, 3) := by decide +kernel
theorem dX6_measure_32 : decode cX6_measure 32 = .ok (.iaload, 1) := by decide +kernel
theorem dX6_measure_33 : decode cX6_measure 33 = .ok (.isub, 1) := by decide +kernel
theorem dX6_measure_34 : decode cX6_measure 34 = .ok (.i2l, 1) := by decide +kernel
theorem dX6_measure_35 : decode cX6_measure 35 = .ok (.lreturn, 1) := by decide +kernel
theorem dX6_measure_36 : decode cX6_measure 36 = .ok (.aload_n 0, 1) := by decide +kernel
theorem dX6_measure_37 : decode cX6_measure 37 = .ok (.getfield 7, 3) := by decide +kernel
theorem dX6_measure_40 : decode cX6_measure 40 = .ok (.iconst 0, 1) := by decide +kernel
theorem dX6_measure_41 : decode cX6_measure 41 = .ok (.laload, 1) := by decide +kernel
theorem dX6_measure_42 : decode cX6_measure 42 = .ok (.lconst 1, 1) := by decide +kernel
theorem dX6_measure_43 : decode cX6_measure 43 = .ok (.lcmp, 1) := by decide +kernel
theorem dX6_measure_44 : decode cX6_measure 44 = .ok (.ifCond .eq 12, 3) := by decide +kernel
theorem dX6_measure_47 : decode cX6_measure 47 = .ok (.aload_n 0, 1) := by decide +kernel
theorem dX6_measure_48 : decode cX6_measure 48 = .ok (.iload_n 1, 1) := by decide +kernel
theorem dX6_measure_49 : decode cX6_measure 49 = .ok (.invokevirtual 262, 3) := by decide +kernel
theorem dX6_measure_52 : decode cX6_measure 52 = .ok (.invokestatic 239, 3) := by decide +kernel
theorem dX6_measure_55 : decode cX6_measure 55 = .ok (.lreturn, 1) := by decide +kernel
theorem dX6_measure_56 : decode cX6_measure 56 = .ok (.lconst 0, 1) := by decide +kernel
theorem dX6_measure_57 : decode cX6_measure 57 = .ok (.lstore_n 2, 1) := by decide +kernel
theorem dX6_measure_58 : decode cX6_measure 58 = .ok (.iload_n 1, 1) := by decide +kernel
theorem dX6_measure_59 : decode cX6_measure 59 = .ok (.istore 4, 2) := by decide +kernel
theorem dX6_measure_61 : decode cX6_measure 61 = .ok (.iload 4, 2) := by decide +kernel
theorem dX6_measure_63 : decode cX6_measure 63 = .ok (.iconst 2, 1) := by decide +kernel
theorem dX6_measure_64 : decode cX6_measure 64 = .ok (.irem, 1) := by decide +kernel
theorem dX6_measure_65 : decode cX6_measure 65 = .ok (.ifCond .ne 16, 3) := by decide +kernel
theorem dX6_measure_68 : decode cX6_measure 68 = .ok (.lload_n 2, 1) := by decide +kernel
theorem dX6_measure_69 : decode cX6_measure 69 = .ok (.lconst 1, 1) := by decide +kernel
theorem dX6_measure_70 : decode cX6_measure 70 = .ok (.ladd, 1) := by decide +kernel
theorem dX6_measure_71 : decode cX6_measure 71 = .ok (.lstore_n 2, 1) := by decide +kernel
theorem dX6_measure_72 : decode cX6_measure 72 = .ok (.iload 4, 2) := by decide +kernel
theorem dX6_measure_74 : decode cX6_measure 74 = .ok (.iconst 2, 1) := by decide +kernel
theorem dX6_measure_75 : decode cX6_measure 75 = .ok (.idiv, 1) := by decide +kernel
theorem dX6_measure_76 : decode cX6_measure 76 = .ok (.istore 4, 2) := by decide +kernel
theorem dX6_measure_78 : decode cX6_measure 78 = .ok (.goto (-17), 3) := by decide +kernel
theorem dX6_measure_81 : decode cX6_measure 81 = .ok (.lload_n 2, 1) := by decide +kernel
theorem dX6_measure_82 : decode cX6_measure 82 = .ok (.lreturn, 1) := by decide +kernel
theorem dX6_next_0 : decode cX6_next 0 = .ok (.aload_n 0, 1) := by decide +kernel
theorem dX6_next_1 : decode cX6_next 1 = .ok (.invokevirtual 283, 3) := by decide +kernel
theorem dX6_next_4 : decode cX6_next 4 = .ok (.istore_n 1, 1) := by decide +kernel
theorem dX6_next_5 : decode cX6_next 5 = .ok (.aload_n 0, 1) := by decide +kernel
theorem dX6_next_6 : decode cX6_next 6 = .ok (.iload_n 1, 1) := by decide +kernel
theorem dX6_next_7 : decode cX6_next 7 = .ok (.iconst (-1), 1) := by decide +kernel
theorem dX6_next_8 : decode cX6_next 8 = .ok (.if_icmp .ne 7, 3) := by decide +kernel
theorem dX6_next_11 : decode cX6_next 11 = .ok (.iconst 1, 1) := by decide +kernel
theorem dX6_next_12 : decode cX6_next 12 = .ok (.goto 4, 3) := by decide +kernel
theorem dX6_next_15 : decode cX6_next 15 = .ok (.iconst 0, 1) := by decide +kernel
theorem dX6_next_16 : decode cX6_next 16 = .ok (.putfield 64, 3) := by decide +kernel
theorem dX6_next_19 : decode cX6_next 19 = .ok (.iload_n 1, 1) := by decide +kernel
theorem dX6_next_20 : decode cX6_next 20 = .ok (.ireturn, 1) := by decide +kernel
theorem dX6_nextOne_0 : decode cX6_nextOne 0 = .ok (.aload_n 0, 1) := by decide +kernel
theorem dX6_nextOne_1 : decode cX6_nextOne 1 = .ok (.invokevirtual 214, 3) := by decide +kernel
theorem dX6_nextOne_4 : decode cX6_nextOne 4 = .ok (.aload_n 0, 1) := by decide +kernel
theorem dX6_nextOne_5 : decode cX6_nextOne 5 = .ok (.getfield 188, 3) := by decide +kernel
theorem dX6_nextOne_8 : decode cX6_nextOne 8 = .ok (.if_icmp .gt 5, 3) := by decide +kernel
theorem dX6_nextOne_11 : decode cX6_nextOne 11 = .ok (.iconst (-1), 1) := by decide +kernel
theorem dX6_nextOne_12 : decode cX6_nextOne 12 = .ok (.ireturn, 1) := by decide +kernel
theorem dX6_nextOne_13 : decode cX6_nextOne 13 = .ok (.iconst (-1), 1) := by decide +kernel
theorem dX6_nextOne_14 : decode cX6_nextOne 14 = .ok (.istore_n 1, 1) := by decide +kernel
theorem dX6_nextOne_15 : decode cX6_nextOne 15 = .ok (.iconst 1, 1) := by decide +kernel
theorem dX6_nextOne_16 : decode cX6_nextOne 16 = .ok (.istore_n 2, 1) := by decide +kernel
theorem dX6_nextOne_17 : decode cX6_nextOne 17 = .ok (.iload_n 2, 1) := by decide +kernel
theorem dX6_nextOne_18 : decode cX6_nextOne 18 = .ok (.aload_n 0, 1) := by decide +kernel
theorem dX6_nextOne_19 : decode cX6_nextOne 19 = .ok (.getfield 185, 3) := by decide +kernel
theorem dX6_nextOne_22 : decode cX6_nextOne 22 = .ok (.iconst 1, 1) := by decide +kernel
theorem dX6_nextOne_23 : decode cX6_nextOne 23 = .ok (.isub, 1) := by decide +kernel
theorem dX6_nextOne_24 : decode cX6_nextOne 24 = .ok (.if_icmp .ge 38, 3) := by decide +kernel
theorem dX6_nextOne_27 : decode cX6_nextOne 27 = .ok (.aload_n 0, 1) := by decide +kernel
theorem dX6_nextOne_28 : decode cX6_nextOne 28 = .ok (.iload_n 2, 1) := by decide +kernel
theorem dX6_nextOne_29 : decode cX6_nextOne 29 = .ok (.invokevirtual 277, 3) := by decide +kernel
theorem dX6_nextOne_32 : decode cX6_nextOne 32 = .ok (.ifCond .eq 24, 3) := by decide +kernel
theorem dX6_nextOne_35 : decode cX6_nextOne 35 = .ok (.iload_n 1, 1) := by decide +kernel
theorem dX6_nextOne_36 : decode cX6_nextOne 36 = .ok (.iconst (-1), 1) := by decide +kernel
theorem dX6_nextOne_37 : decode cX6_nextOne 37 = .ok (.if_icmp .eq 17, 3) := by decide +kernel
theorem dX6_nextOne_40 : decode cX6_nextOne 40 = .ok (.aload_n 0, 1) := by decide +kernel
theorem dX6_nextOne_41 : decode cX6_nextOne 41 = .ok (.iload_n 2, 1) := by decide +kernel
theorem dX6_nextOne_42 : decode cX6_nextOne 42 = .ok (.invokevirtual 280, 3) := by decide +kernel
theorem dX6_nextOne_45 : decode cX6_nextOne 45 = .ok (.aload_n 0, 1) := by decide +kernel
theorem dX6_nextOne_46 : decode cX6_nextOne 46 = .ok (.iload_n 1, 1) := by decide +kernel
theorem dX6_nextOne_47 : decode cX6_nextOne 47 = .ok (.invokevirtual 280, 3) := by decide +kernel
theorem dX6_nextOne_50 : decode cX6_nextOne 50 = .ok (.lcmp, 1) := by decide +kernel
theorem dX6_nextOne_51 : decode cX6_nextOne 51 = .ok (.ifCond .ge 5, 3) := by decide +kernel
theorem dX6_nextOne_54 : decode cX6_nextOne 54 = .ok (.iload_n 2, 1) := by decide +kernel
theorem dX6_nextOne_55 : decode cX6_nextOne 55 = .ok (.istore_n 1, 1) := by decide +kernel
theorem dX6_nextOne_56 : decode cX6_nextOne 56 = .ok (.iinc 2 1, 3) := by decide +kernel
theorem dX6_nextOne_59 : decode cX6_nextOne 59 = .ok (.goto (-42), 3) := by decide +kernel
theorem dX6_nextOne_62 : decode cX6_nextOne 62 = .ok (.iload_n 1, 1) := by decide +kernel
theorem dX6_nextOne_63 : decode cX6_nextOne 63 = .ok (.ireturn, 1) := by decide +kernel
set_option maxHeartbeats 4000000 in
set_option maxRecDepth 100000 in
theorem X6_detailOf (l : Launch) (κ : Kt) (σ0 : Gh) (this : Nat) (i : Int32) (t_this : zk σ0 this 20) (h0 : RI κ σ0 this) (h1 : 0 < i.toInt) (h2 : i.toInt < (zI σ0 this 7).toInt - 1) : TC l yX6_detailOf cX6_detailOf 2 (some .long) 3 69 [.ref this, .int i] κ σ0 (tql κ fE σ0 (fun (r : Int64) (τ : Gh) => True)) := by
  refine TC.of fE (by decide +kernel) (Nat.le_of_ble_eq_true rfl) ?_
  intro p e s m below meth c ls hcs hK hX hT hl
  obtain ⟨hx, hb, hr, hml, hown, hg, hlocks, hin⟩ := hcs
  have hown : s.vm.findClass RX6 = some m.cls := hown
  have hl : lv_has ls 2 [(0, .ref this), (1, .int i)] := hl
  have hT0 := hT
  have nm1 : ((-1) : Int32).toInt = (-1) := by decide
  have n1 : (1 : Int32).toInt = 1 := by decide
  have n5 : (5 : Int32).toInt = 5 := by decide
  have i_lo := Int32.le_toInt i
  have i_hi := Int32.toInt_lt i
  generalize hQ9 : tQ _ _ _ _ _ _ = Q9
  obtain ⟨rW, erW⟩ : ∃ z, kR κ this 1 = z := ⟨_, rfl⟩
  have trW : zk σ0 rW 21 := by rw [← erW]; exact h0.1.2.1
  obtain ⟨rP, erP⟩ : ∃ z, kR κ this 5 = z := ⟨_, rfl⟩
  have trP : zk σ0 rP 25 := by rw [← erP]; exact h0.1.2.2.2.2
  have hB0 := h0.b
  rw [erW] at hB0
  have hW := h0.2.1
  rw [erW] at hW
  have hP := h0.2.2.1
  rw [erP] at hP
  have hrN : (rN σ0 this : Int) = (zI σ0 this 7).toInt := by unfold rN; omega
  refine lv_aload_n hx hb dX6_detailOf_0 rfl (lv_at hl 0 rfl) ?_
  refine va_get (D := κ.1) (ci := 6) (v := .ref (kR κ this 1)) (C := RX6) (T := TX6) (N := 27) hx hb hg inX6 hown hK (hT.o20 (hT.k t_this (by decide))).one 0 rfl rfl 1 (by decide) (hg _ k1220) (fun _ h9 => h9) rfl dX6_detailOf_1 ?_
  rw [erW]
  refine lv_iconst (v := 5) hx hb dX6_detailOf_4 (by decide) ?_
  refine lv_iload_n hx hb dX6_detailOf_5 rfl (lv_at hl 1 rfl) ?_
  refine lv_iadd hx hb dX6_detailOf_6 ?_
  first | refine g_add (by omega) (by omega) (fun t1 ht1 => ?_) | refine lv_topi (fun t1 ht1 => ?_)
  refine va_lald hx hb hK (hT.o21 (hT.k trW (by decide))).one 0 1 rfl rfl (g_in (by omega) (by omega)) dX6_detailOf_7 ?_
  refine lv_topl (fun t2 ht2 => ?_)
  refine lv_aload_n hx hb dX6_detailOf_8 rfl (lv_at hl 0 rfl) ?_
  refine lv_iload_n hx hb dX6_detailOf_9 rfl (lv_at hl 1 rfl) ?_
  refine lv_aload_n hx hb dX6_detailOf_10 rfl (lv_at hl 0 rfl) ?_
  refine lv_iload_n hx hb dX6_detailOf_11 rfl (lv_at hl 1 rfl) ?_
  refine lv_iconst (v := (-1)) hx hb dX6_detailOf_12 (by decide) ?_
  have hTo := hT
  refine tVi (n := 2) (As := [.int i, .int (-1)]) (rest := [.int i, .ref this, .long t2]) hx hb hml hown hg hT hK hX (X6_besideL l κ σ0 this i (-1)  (hT.k t_this (by decide)) h0 (by omega) (by omega) (by omega)) (fun _ _ h => h) (mwV k1449 k1451 k58 k92 k1452) ⟨rfl, by decide, by decide, by decide +kernel⟩ ⟨(Nat.le_of_ble_eq_true rfl), (Nat.le_of_ble_eq_true rfl)⟩ (hT.o20 (hT.k t_this (by decide))) rfl rfl hl.1 rfl (Nat.le_of_ble_eq_true rfl) dX6_detailOf_13 zroom.rf (fun x3 s4 H locs hφ hEs4 hT => ?_)
  have f5 := hφ
  have K6 : zI s4 this 7 = zI σ0 this 7 := hT.eI t_this (by decide) rfl rfl
  have K6n : (zI s4 this 7).toInt = (zI σ0 this 7).toInt := by rw [K6]
  have J7 : zJ s4 rW = zJ σ0 rW := funext fun k => hT.eJ trW (by decide) rfl rfl
  have J7n : (zJ s4 (kR κ this 1) 4).toInt = (zJ σ0 rW 4).toInt := by rw [erW, J7]
  have P8 : zI s4 rP = zI σ0 rP := funext fun k => hT.eI trP (by decide) rfl rfl
  try simp only [erW, erP, ix_0, ix_1, ix_2, ix_3, ix_4, ix_5, ix_6, ix_7, ix_8, ix_9, K6, J7, P8] at f5
  refine lv_aload_n hx hb dX6_detailOf_16 rfl (lv_at hl 0 rfl) ?_
  refine lv_iload_n hx hb dX6_detailOf_17 rfl (lv_at hl 1 rfl) ?_
  refine lv_iconst (v := 1) hx hb dX6_detailOf_18 (by decide) ?_
  have R9 : RI κ s4 this := h0.ext hT.2.2.1 ⟨rfl, rfl, fun _ => rfl, fun _ => rfl, fun _ => rfl, fun _ => rfl⟩
  have hTo := hT
  refine tVi (n := 2) (As := [.int i, .int 1]) (rest := [.int x3, .int i, .ref this, .long t2]) hx hb hml hown hg hT hK hX (X6_besideR l κ s4 this i 1  (hT.k t_this (by decide)) R9 (by omega) (by omega) (by omega)) (fun _ _ h => h) (mwV k1449 k1451 k58 k92 k1452) ⟨rfl, by decide, by decide, by decide +kernel⟩ ⟨(Nat.le_of_ble_eq_true rfl), (Nat.le_of_ble_eq_true rfl)⟩ (hT.o20 (hT.k t_this (by decide))) rfl rfl hl.1 rfl (Nat.le_of_ble_eq_true rfl) dX6_detailOf_19 zroom.rf (fun x10 s11 H locs hφ hEs11 hT => ?_)
  have f12 := hφ
  have K13 : zI s11 this 7 = zI σ0 this 7 := hT.eI t_this (by decide) rfl rfl
  have K13n : (zI s11 this 7).toInt = (zI σ0 this 7).toInt := by rw [K13]
  have J14 : zJ s11 rW = zJ σ0 rW := funext fun k => hT.eJ trW (by decide) rfl rfl
  have J14n : (zJ s11 (kR κ this 1) 4).toInt = (zJ σ0 rW 4).toInt := by rw [erW, J14]
  have P15 : zI s11 rP = zI σ0 rP := funext fun k => hT.eI trP (by decide) rfl rfl
  try simp only [erW, erP, ix_0, ix_1, ix_2, ix_3, ix_4, ix_5, ix_6, ix_7, ix_8, ix_9, K6, J7, P8, K13, J14, P15] at f12
  refine lv_aload_n hx hb dX6_detailOf_22 rfl (lv_at hl 0 rfl) ?_
  refine va_get (D := κ.1) (ci := 6) (v := .ref (kR κ this 1)) (C := RX6) (T := TX6) (N := 27) hx hb hg inX6 hown hK (hT.o20 (hT.k t_this (by decide))).one 0 rfl rfl 1 (by decide) (hg _ k1220) (fun _ h9 => h9) rfl dX6_detailOf_23 ?_
  rw [erW]
  refine lv_iconst (v := 1) hx hb dX6_detailOf_26 (by decide) ?_
  refine va_lald hx hb hK (hT.o21 (hT.k trW (by decide))).one 0 1 rfl rfl (g_in (by omega) (by omega)) dX6_detailOf_27 ?_
  refine lv_topl (fun t16 ht16 => ?_)
  have xt16 : (zJ s11 rW 1).toInt = t16.toInt := by rw [ht16]; exact congrArg (fun q9 => (zJ s11 rW q9).toInt) (show 1 = ix 1 from by decide)
  try simp only [K13, J14, P15] at xt16
  refine lv_l2i hx hb dX6_detailOf_28 rfl ?_
  first | refine g_l2i (by omega) (by omega) (fun t17 ht17 => ?_) | refine lv_topi (fun t17 ht17 => ?_)
  have R18 : RI κ s11 this := h0.ext hT.2.2.1 ⟨rfl, rfl, fun _ => rfl, fun _ => rfl, fun _ => rfl, fun _ => rfl⟩
  have hTo := hT
  refine tVl (n := 4) (As := [.int i, .int x3, .int x10, .int t17]) (rest := [.long t2]) hx hb hml hown hg hT hK hX (X6_predicted l κ s11 this i x3 x10 t17  (hT.k t_this (by decide)) R18 (by omega) (by omega) (by omega) (by omega)) (fun _ _ h => h) (mwV k1539 k1541 k67 k92 k1542) ⟨rfl, by decide, by decide, by decide +kernel⟩ ⟨(Nat.le_of_ble_eq_true rfl), (Nat.le_of_ble_eq_true rfl)⟩ (hT.o20 (hT.k t_this (by decide))) rfl rfl hl.1 rfl (Nat.le_of_ble_eq_true rfl) dX6_detailOf_29 zroom.rf (fun x19 s20 H locs hφ hEs20 hT => ?_)
  refine lv_lsub hx hb dX6_detailOf_32 ?_
  refine lv_topl (fun t21 ht21 => ?_)
  subst hQ9
  exact t_l hx hb hr hlocks hT trivial dX6_detailOf_33
set_option maxHeartbeats 4000000 in
set_option maxRecDepth 100000 in
theorem X6_gets (l : Launch) (κ : Kt) (σ0 : Gh) (this : Nat) (i : Int32) (ow : Int64) (ot : Int64) (t_this : zk σ0 this 20) (h0 : 0 ≤ i.toInt) (h1 : i.toInt ≤ 45) (h2 : 0 ≤ ow.toInt) (h3 : ow.toInt ≤ 20000) (h4 : 0 ≤ ot.toInt) (h5 : ot.toInt ≤ 20000) (h6 : 1 ≤ ow.toInt + ot.toInt) : TC l yX6_gets cX6_gets 6 (some .long) 1 25 [.ref this, .int i, .long ow, .long ot] κ σ0 (tql κ fE σ0 (fun (r : Int64) (τ : Gh) => True)) := by
  refine TC.of fE (by decide +kernel) (Nat.le_of_ble_eq_true rfl) ?_
  intro p e s m below meth c ls hcs hK hX hT hl
  obtain ⟨hx, hb, hr, hml, hown, hg, hlocks, hin⟩ := hcs
  have hown : s.vm.findClass RX6 = some m.cls := hown
  have hl : lv_has ls 6 [(0, .ref this), (1, .int i), (2, .long ow), (4, .long ot)] := hl
  have hT0 := hT
  have n0 : (0 : Int32).toInt = 0 := by decide
  have n3 : (3 : Int32).toInt = 3 := by decide
  have n4 : (4 : Int32).toInt = 4 := by decide
  have n9 : (9 : Int32).toInt = 9 := by decide
  have j0 : (0 : Int64).toInt = 0 := by decide
  have i_lo := Int32.le_toInt i
  have i_hi := Int32.toInt_lt i
  generalize hQ9 : tQ _ _ _ _ _ _ = Q9
  obtain ⟨rW, erW⟩ : ∃ z, kR κ this 1 = z := ⟨_, rfl⟩
  have trW : zk σ0 rW 21 := by rw [← erW]; exact hT0.ref t_this (by decide) (by decide) (by decide)
  obtain ⟨rP, erP⟩ : ∃ z, kR κ this 5 = z := ⟨_, rfl⟩
  have trP : zk σ0 rP 25 := by rw [← erP]; exact hT0.ref t_this (by decide) (by decide) (by decide)
  refine lv_aload_n hx hb dX6_gets_0 rfl (lv_at hl 0 rfl) ?_
  refine lv_iload_n hx hb dX6_gets_1 rfl (lv_at hl 1 rfl) ?_
  refine lv_bipush (v := 9) hx hb dX6_gets_2 (by decide) ?_
  have hTo := hT
  refine tVl (n := 2) (As := [.int i, .int 9]) (rest := []) hx hb hml hown hg hT hK hX (X6_of l κ σ0 this i 9  (hT.k t_this (by decide)) (by omega) (by omega) (by omega) (by omega)) (fun _ _ h => h) (mwV k1424 k1426 k54 k92 k1427) ⟨rfl, by decide, by decide, by decide +kernel⟩ ⟨(Nat.le_of_ble_eq_true rfl), (Nat.le_of_ble_eq_true rfl)⟩ (hT.o20 (hT.k t_this (by decide))) rfl rfl hl.1 rfl (Nat.le_of_ble_eq_true rfl) dX6_gets_4 zroom.rf (fun x1 s2 H locs hφ hEs2 hT => ?_)
  have f3 := hφ
  have K4 : zI s2 this 7 = zI σ0 this 7 := hT.eI t_this (by decide) rfl rfl
  have K4n : (zI s2 this 7).toInt = (zI σ0 this 7).toInt := by rw [K4]
  have J5 : zJ s2 rW = zJ σ0 rW := funext fun k => hT.eJ trW (by decide) rfl rfl
  have J5n : (zJ s2 (kR κ this 1) 4).toInt = (zJ σ0 rW 4).toInt := by rw [erW, J5]
  have P6 : zI s2 rP = zI σ0 rP := funext fun k => hT.eI trP (by decide) rfl rfl
  try simp only [erW, erP, ix_0, ix_1, ix_2, ix_3, ix_4, ix_5, ix_6, ix_7, ix_8, ix_9, K4, J5, P6] at f3
  refine lv_lconst (v := 0) hx hb dX6_gets_7 (by decide) ?_
  refine W.lcmp hx hb dX6_gets_8 ?_
  refine lv_if_ne (tgt := 16) hx hb dX6_gets_9 (by decide) (fun c9 => ?_) (fun c9 => ?_)
  · have c1 := gl_ne c9
    refine lv_aload_n hx hb dX6_gets_16 rfl (lv_at hl 0 rfl) ?_
    refine lv_iload_n hx hb dX6_gets_17 rfl (lv_at hl 1 rfl) ?_
    refine lv_iconst (v := 4) hx hb dX6_gets_18 (by decide) ?_
    have hTo := hT
    refine tVl (n := 2) (As := [.int i, .int 4]) (rest := []) hx hb hml hown hg hT hK hX (X6_of l κ s2 this i 4  (hT.k t_this (by decide)) (by omega) (by omega) (by omega) (by omega)) (fun _ _ h => h) (mwV k1424 k1426 k54 k92 k1427) ⟨rfl, by decide, by decide, by decide +kernel⟩ ⟨(Nat.le_of_ble_eq_true rfl), (Nat.le_of_ble_eq_true rfl)⟩ (hT.o20 (hT.k t_this (by decide))) rfl rfl hl.1 rfl (Nat.le_of_ble_eq_true rfl) dX6_gets_19 zroom.rf (fun x7 s8 H locs hφ hEs8 hT => ?_)
    have f9 := hφ
    have K10 : zI s8 this 7 = zI σ0 this 7 := hT.eI t_this (by decide) rfl rfl
    have K10n : (zI s8 this 7).toInt = (zI σ0 this 7).toInt := by rw [K10]
    have J11 : zJ s8 rW = zJ σ0 rW := funext fun k => hT.eJ trW (by decide) rfl rfl
    have J11n : (zJ s8 (kR κ this 1) 4).toInt = (zJ σ0 rW 4).toInt := by rw [erW, J11]
    have P12 : zI s8 rP = zI σ0 rP := funext fun k => hT.eI trP (by decide) rfl rfl
    try simp only [erW, erP, ix_0, ix_1, ix_2, ix_3, ix_4, ix_5, ix_6, ix_7, ix_8, ix_9, K4, J5, P6, K10, J11, P12] at f9
    refine lv_aload_n hx hb dX6_gets_22 rfl (lv_at hl 0 rfl) ?_
    refine lv_iload_n hx hb dX6_gets_23 rfl (lv_at hl 1 rfl) ?_
    refine lv_iconst (v := 3) hx hb dX6_gets_24 (by decide) ?_
    have hTo := hT
    refine tVl (n := 2) (As := [.int i, .int 3]) (rest := [.long x7]) hx hb hml hown hg hT hK hX (X6_of l κ s8 this i 3  (hT.k t_this (by decide)) (by omega) (by omega) (by omega) (by omega)) (fun _ _ h => h) (mwV k1424 k1426 k54 k92 k1427) ⟨rfl, by decide, by decide, by decide +kernel⟩ ⟨(Nat.le_of_ble_eq_true rfl), (Nat.le_of_ble_eq_true rfl)⟩ (hT.o20 (hT.k t_this (by decide))) rfl rfl hl.1 rfl (Nat.le_of_ble_eq_true rfl) dX6_gets_25 zroom.rf (fun x13 s14 H locs hφ hEs14 hT => ?_)
    have f15 := hφ
    have K16 : zI s14 this 7 = zI σ0 this 7 := hT.eI t_this (by decide) rfl rfl
    have K16n : (zI s14 this 7).toInt = (zI σ0 this 7).toInt := by rw [K16]
    have J17 : zJ s14 rW = zJ σ0 rW := funext fun k => hT.eJ trW (by decide) rfl rfl
    have J17n : (zJ s14 (kR κ this 1) 4).toInt = (zJ σ0 rW 4).toInt := by rw [erW, J17]
    have P18 : zI s14 rP = zI σ0 rP := funext fun k => hT.eI trP (by decide) rfl rfl
    try simp only [erW, erP, ix_0, ix_1, ix_2, ix_3, ix_4, ix_5, ix_6, ix_7, ix_8, ix_9, K10, J11, P12, K16, J17, P18] at f15
    refine lv_lmul hx hb dX6_gets_28 ?_
    refine lv_topl (fun t19 ht19 => ?_)
    refine lv_lload_n hx hb dX6_gets_29 rfl (lv_at hl 2 rfl) ?_
    refine lv_lmul hx hb dX6_gets_30 ?_
    refine lv_topl (fun t20 ht20 => ?_)
    refine lv_lload_n hx hb dX6_gets_31 rfl (lv_at hl 2 rfl) ?_
    refine lv_lload_n hx hb dX6_gets_32 rfl (lv_at hl 2 rfl) ?_
    refine lv_lmul hx hb dX6_gets_33 ?_
    have mt21 := sq_ge (show 0 ≤ ow.toInt by omega)
    have kt21 := sq_le (show 0 ≤ ow.toInt by omega) (show ow.toInt ≤ 20000 by omega)
    refine g_mull (by omega) (by omega) (fun t21 ht21 => ?_)
    refine lv_lload hx hb dX6_gets_34 (lv_at hl 3 rfl) ?_
    refine lv_lload hx hb dX6_gets_36 (lv_at hl 3 rfl) ?_
    refine lv_lmul hx hb dX6_gets_38 ?_
    have mt22 := sq_ge (show 0 ≤ ot.toInt by omega)
    have kt22 := sq_le (show 0 ≤ ot.toInt by omega) (show ot.toInt ≤ 20000 by omega)
    refine g_mull (by omega) (by omega) (fun t22 ht22 => ?_)
    refine lv_ladd hx hb dX6_gets_39 ?_
    refine g_addl (by omega) (by omega) (fun t23 ht23 => ?_)
    have hTo := hT
    refine tSl (n := 2) (As := [.long t20, .long t23]) (rest := []) hx hb hml hown hg hT hK hX (X6_floor l κ s14 t20 t23   (by omega)) (fun _ _ h => h) (mwS k1469 k1470 k92 k1471) ⟨rfl, by decide, by decide, by decide +kernel⟩ ⟨(Nat.le_of_ble_eq_true rfl), (Nat.le_of_ble_eq_true rfl)⟩ rfl hl.1 rfl (Nat.le_of_ble_eq_true rfl) dX6_gets_40 zroom.rf (fun x24 s25 H locs hφ hEs25 hT => ?_)
    have f26 := hφ
    have K27 : zI s25 this 7 = zI σ0 this 7 := hT.eI t_this (by decide) rfl rfl
    have K27n : (zI s25 this 7).toInt = (zI σ0 this 7).toInt := by rw [K27]
    have J28 : zJ s25 rW = zJ σ0 rW := funext fun k => hT.eJ trW (by decide) rfl rfl
    have J28n : (zJ s25 (kR κ this 1) 4).toInt = (zJ σ0 rW 4).toInt := by rw [erW, J28]
    have P29 : zI s25 rP = zI σ0 rP := funext fun k => hT.eI trP (by decide) rfl rfl
    try simp only [erW, erP, ix_0, ix_1, ix_2, ix_3, ix_4, ix_5, ix_6, ix_7, ix_8, ix_9, K16, J17, P18, K27, J28, P29] at f26
    subst hQ9
    exact t_l hx hb hr hlocks hT trivial dX6_gets_43
  · have c2 := gl_eq c9
    refine lv_lconst (v := 0) hx hb dX6_gets_12 (by decide) ?_
    refine lv_goto (tgt := 43) hx hb dX6_gets_13 (by decide) ?_
    subst hQ9
    exact t_l hx hb hr hlocks hT trivial dX6_gets_43
set_option maxHeartbeats 4000000 in
set_option maxRecDepth 100000 in
theorem X6_measure (l : Launch) (κ : Kt) (σ0 : Gh) (this : Nat) (i : Int32) (t_this : zk σ0 this 20) (h0 : RI κ σ0 this) (h1 : 0 < i.toInt) (h2 : i.toInt < (zI σ0 this 7).toInt - 1) : TC l yX6_measure cX6_measure 5 (some .long) 4 90 [.ref this, .int i] κ σ0 (tql κ fE σ0 (fun (r : Int64) (τ : Gh) => True)) := by
  refine TC.of fE (by decide +kernel) (Nat.le_of_ble_eq_true rfl) ?_
  intro p e s m below meth c ls hcs hK hX hT hl
  obtain ⟨hx, hb, hr, hml, hown, hg, hlocks, hin⟩ := hcs
  have hown : s.vm.findClass RX6 = some m.cls := hown
  have hl : lv_has ls 5 [(0, .ref this), (1, .int i)] := hl
  have hT0 := hT
  have nm1 : ((-1) : Int32).toInt = (-1) := by decide
  have n0 : (0 : Int32).toInt = 0 := by decide
  have n1 : (1 : Int32).toInt = 1 := by decide
  have n2 : (2 : Int32).toInt = 2 := by decide
  have j0 : (0 : Int64).toInt = 0 := by decide
  have j1 : (1 : Int64).toInt = 1 := by decide
  have i_lo := Int32.le_toInt i
  have i_hi := Int32.toInt_lt i
  generalize hQ9 : tQ _ _ _ _ _ _ = Q9
  obtain ⟨rW, erW⟩ : ∃ z, kR κ this 1 = z := ⟨_, rfl⟩
  have trW : zk σ0 rW 21 := by rw [← erW]; exact h0.1.2.1
  obtain ⟨rP, erP⟩ : ∃ z, kR κ this 5 = z := ⟨_, rfl⟩
  have trP : zk σ0 rP 25 := by rw [← erP]; exact h0.1.2.2.2.2
  have hB0 := h0.b
  rw [erW] at hB0
  have hW := h0.2.1
  rw [erW] at hW
  have hP := h0.2.2.1
  rw [erP] at hP
  have hrN : (rN σ0 this : Int) = (zI σ0 this 7).toInt := by unfold rN; omega
  refine lv_aload_n hx hb dX6_measure_0 rfl (lv_at hl 0 rfl) ?_
  refine va_get (D := κ.1) (ci := 6) (v := .ref (kR κ this 1)) (C := RX6) (T := TX6) (N := 27) hx hb hg inX6 hown hK (hT.o20 (hT.k t_this (by decide))).one 0 rfl rfl 1 (by decide) (hg _ k1220) (fun _ h9 => h9) rfl dX6_measure_1 ?_
  rw [erW]
  refine lv_iconst (v := 0) hx hb dX6_measure_4 (by decide) ?_
  refine va_lald hx hb hK (hT.o21 (hT.k trW (by decide))).one 0 1 rfl rfl (g_in (by omega) (by omega)) dX6_measure_5 ?_
  refine lv_topl (fun t1 ht1 => ?_)
  have xt1 : (zJ σ0 rW 0).toInt = t1.toInt := by rw [ht1]; exact congrArg (fun q9 => (zJ σ0 rW q9).toInt) (show 0 = ix 0 from by decide)
  refine lv_lconst (v := 0) hx hb dX6_measure_6 (by decide) ?_
  refine W.lcmp hx hb dX6_measure_7 ?_
  refine lv_if_ne (tgt := 36) hx hb dX6_measure_8 (by decide) (fun c9 => ?_) (fun c9 => ?_)
  · have c1 := gl_ne c9
    refine lv_aload_n hx hb dX6_measure_36 rfl (lv_at hl 0 rfl) ?_
    refine va_get (D := κ.1) (ci := 6) (v := .ref (kR κ this 1)) (C := RX6) (T := TX6) (N := 27) hx hb hg inX6 hown hK (hT.o20 (hT.k t_this (by decide))).one 0 rfl rfl 1 (by decide) (hg _ k1220) (fun _ h9 => h9) rfl dX6_measure_37 ?_
    rw [erW]
    refine lv_iconst (v := 0) hx hb dX6_measure_40 (by decide) ?_
    refine va_lald hx hb hK (hT.o21 (hT.k trW (by decide))).one 0 1 rfl rfl (g_in (by omega) (by omega)) dX6_measure_41 ?_
    refine lv_topl (fun t2 ht2 => ?_)
    have xt2 : (zJ σ0 rW 0).toInt = t2.toInt := by rw [ht2]; exact congrArg (fun q9 => (zJ σ0 rW q9).toInt) (show 0 = ix 0 from by decide)
    refine lv_lconst (v := 1) hx hb dX6_measure_42 (by decide) ?_
    refine W.lcmp hx hb dX6_measure_43 ?_
    refine lv_if_eq (tgt := 56) hx hb dX6_measure_44 (by decide) (fun c9 => ?_) (fun c9 => ?_)
    · have c2 := gl_eq c9
      refine lv_lconst (v := 0) hx hb dX6_measure_56 (by decide) ?_
      refine lv_lstore_n (lv' := [(2, .long 0), (0, .ref this), (1, .int i)]) hx hb dX6_measure_57 rfl hl (by decide) rfl (fun ls hl => ?_)
      refine lv_iload_n hx hb dX6_measure_58 rfl (lv_at hl 2 rfl) ?_
      refine lv_istore (lv' := [(4, .int i), (2, .long 0), (0, .ref this), (1, .int i)]) hx hb dX6_measure_59 hl (by decide) rfl (fun ls hl => ?_)
      have loop61 : ∀ (n9 : Nat) (v4 : Int32) (n1 : Int64) (H : Heap) (locs : List Loc) (sg : Gh) (ls : Array Slot), TS κ fE σ0 sg s H locs → (1 ≤ v4.toInt) → lv_has ls 5 [(4, .int v4), (2, .long n1), (0, .ref this), (1, .int i)] → (v4.toInt) < n9 → tW p l e 4 90 κ s m #[.ref this, .int i] below meth c H locs Q9 (F0 m 61 ls []) := by
        intro n9
        induction n9 with
        | zero =>
          intro v4 n1 H locs sg ls hT q1 hl hm9
          exfalso
          omega
        | succ n9 ih9 =>
          have ih61 := ih9
          clear ih9
          intro v4 n1 H locs s3 ls hT q1 hl hm9
          refine lv_iload hx hb dX6_measure_61 (lv_at hl 0 rfl) ?_
          refine lv_iconst (v := 2) hx hb dX6_measure_63 (by decide) ?_
          refine lv_irem hx hb dX6_measure_64 (by decide) ?_
          refine g_remk (k := 2) n2 (by decide) (by omega) (fun t4 ht4 => ?_)
          refine lv_if_ne (tgt := 81) hx hb dX6_measure_65 (by decide) (fun c9 => ?_) (fun c9 => ?_)
          · have c3 := gi_ne c9
            refine lv_lload_n hx hb dX6_measure_81 rfl (lv_at hl 1 rfl) ?_
            subst hQ9
            exact t_l hx hb hr hlocks hT trivial dX6_measure_82
          · have c4 := gi_eq c9
            refine lv_lload_n hx hb dX6_measure_68 rfl (lv_at hl 1 rfl) ?_
            refine lv_lconst (v := 1) hx hb dX6_measure_69 (by decide) ?_
            refine lv_ladd hx hb dX6_measure_70 ?_
            refine lv_topl (fun t5 ht5 => ?_)
            refine lv_lstore_n (lv' := [(2, .long t5), (4, .int v4), (0, .ref this), (1, .int i)]) hx hb dX6_measure_71 rfl hl (by decide) rfl (fun ls hl => ?_)
            refine lv_iload hx hb dX6_measure_72 (lv_at hl 1 rfl) ?_
            refine lv_iconst (v := 2) hx hb dX6_measure_74 (by decide) ?_
            refine lv_idiv hx hb dX6_measure_75 (by decide) ?_
            first | refine g_div (k := 2) n2 (by decide) (by omega) (fun t6 ht6 => ?_) | refine lv_topi (fun t6 ht6 => ?_)
            refine lv_istore (lv' := [(4, .int t6), (2, .long t5), (0, .ref this), (1, .int i)]) hx hb dX6_measure_76 hl (by decide) rfl (fun ls hl => ?_)
            refine lv_goto (tgt := 61) hx hb dX6_measure_78 (by decide) ?_
            exact ih61 t6 t5 _ _ _ _ hT  (by omega) hl (by omega)
      exact loop61 ((i.toInt).toNat + 1) i 0 _ _ _ _ hT  (by omega) hl (by omega)
    · have c5 := gl_ne c9
      refine lv_aload_n hx hb dX6_measure_47 rfl (lv_at hl 0 rfl) ?_
      refine lv_iload_n hx hb dX6_measure_48 rfl (lv_at hl 1 rfl) ?_
      have hTo := hT
      refine tVl (n := 1) (As := [.int i]) (rest := []) hx hb hml hown hg hT hK hX (X6_detailOf l κ σ0 this i  (hT.k t_this (by decide)) h0 (by omega) (by omega)) (fun _ _ h => h) (mwV k1535 k1537 k66 k92 k1538) ⟨rfl, by decide, by decide, by decide +kernel⟩ ⟨(Nat.le_of_ble_eq_true rfl), (Nat.le_of_ble_eq_true rfl)⟩ (hT.o20 (hT.k t_this (by decide))) rfl rfl hl.1 rfl (Nat.le_of_ble_eq_true rfl) dX6_measure_49 zroom.rf (fun x7 s8 H locs hφ hEs8 hT => ?_)
      have K9 : zI s8 this 7 = zI σ0 this 7 := hT.eI t_this (by decide) rfl rfl
      have K9n : (zI s8 this 7).toInt = (zI σ0 this 7).toInt := by rw [K9]
      have J10 : zJ s8 rW = zJ σ0 rW := funext fun k => hT.eJ trW (by decide) rfl rfl
      have J10n : (zJ s8 (kR κ this 1) 4).toInt = (zJ σ0 rW 4).toInt := by rw [erW, J10]
      have P11 : zI s8 rP = zI σ0 rP := funext fun k => hT.eI trP (by decide) rfl rfl
      have hTo := hT
      refine tSl (n := 1) (As := [.long x7]) (rest := []) hx hb hml hown hg hT hK hX (X6_amount l κ s8 x7   ) (fun _ _ h => h) (mwS k1488 k1489 k92 k1490) ⟨rfl, by decide, by decide, by decide +kernel⟩ ⟨(Nat.le_of_ble_eq_true rfl), (Nat.le_of_ble_eq_true rfl)⟩ rfl hl.1 rfl (Nat.le_of_ble_eq_true rfl) dX6_measure_52 zroom.rf (fun x12 s13 H locs hφ hEs13 hT => ?_)
      have f14 := hφ
      have K15 : zI s13 this 7 = zI σ0 this 7 := hT.eI t_this (by decide) rfl rfl
      have K15n : (zI s13 this 7).toInt = (zI σ0 this 7).toInt := by rw [K15]
      have J16 : zJ s13 rW = zJ σ0 rW := funext fun k => hT.eJ trW (by decide) rfl rfl
      have J16n : (zJ s13 (kR κ this 1) 4).toInt = (zJ σ0 rW 4).toInt := by rw [erW, J16]
      have P17 : zI s13 rP = zI σ0 rP := funext fun k => hT.eI trP (by decide) rfl rfl
      try simp only [erW, erP, ix_0, ix_1, ix_2, ix_3, ix_4, ix_5, ix_6, ix_7, ix_8, ix_9, K9, J10, P11, K15, J16, P17] at f14
      subst hQ9
      exact t_l hx hb hr hlocks hT trivial dX6_measure_55
  · have c6 := gl_eq c9
    refine lv_aload_n hx hb dX6_measure_11 rfl (lv_at hl 0 rfl) ?_
    refine va_get (D := κ.1) (ci := 6) (v := .ref (kR κ this 5)) (C := RX6) (T := TX6) (N := 27) hx hb hg inX6 hown hK (hT.o20 (hT.k t_this (by decide))).one 0 rfl rfl 5 (by decide) (hg _ k1224) (fun _ h9 => h9) rfl dX6_measure_12 ?_
    rw [erP]
    refine lv_aload_n hx hb dX6_measure_15 rfl (lv_at hl 0 rfl) ?_
    refine lv_iload_n hx hb dX6_measure_16 rfl (lv_at hl 1 rfl) ?_
    refine lv_iconst (v := 1) hx hb dX6_measure_17 (by decide) ?_
    have hTo := hT
    refine tVi (n := 2) (As := [.int i, .int 1]) (rest := [.ref rP]) hx hb hml hown hg hT hK hX (X6_besideR l κ σ0 this i 1  (hT.k t_this (by decide)) h0 (by omega) (by omega) (by omega)) (fun _ _ h => h) (mwV k1449 k1451 k58 k92 k1452) ⟨rfl, by decide, by decide, by decide +kernel⟩ ⟨(Nat.le_of_ble_eq_true rfl), (Nat.le_of_ble_eq_true rfl)⟩ (hT.o20 (hT.k t_this (by decide))) rfl rfl hl.1 rfl (Nat.le_of_ble_eq_true rfl) dX6_measure_18 zroom.rf (fun x18 s19 H locs hφ hEs19 hT => ?_)
    have f20 := hφ
    have K21 : zI s19 this 7 = zI σ0 this 7 := hT.eI t_this (by decide) rfl rfl
    have K21n : (zI s19 this 7).toInt = (zI σ0 this 7).toInt := by rw [K21]
    have J22 : zJ s19 rW = zJ σ0 rW := funext fun k => hT.eJ trW (by decide) rfl rfl
    have J22n : (zJ s19 (kR κ this 1) 4).toInt = (zJ σ0 rW 4).toInt := by rw [erW, J22]
    have P23 : zI s19 rP = zI σ0 rP := funext fun k => hT.eI trP (by decide) rfl rfl
    try simp only [erW, erP, ix_0, ix_1, ix_2, ix_3, ix_4, ix_5, ix_6, ix_7, ix_8, ix_9, K21, J22, P23] at f20
    refine va_iald hx hb hK (hT.o25 (hT.k trP (by decide))).one 0 0 rfl rfl (g_in (by omega) (by omega)) dX6_measure_21 ?_
    refine lv_topi (fun t24 ht24 => ?_)
    have xt24 : (zI s19 rP (ix x18)).toInt = t24.toInt := by rw [ht24]; exact congrArg (fun q9 => (zI s19 rP q9).toInt) (show ix x18 = ix x18 from rfl)
    try simp only [K21, J22, P23] at xt24
    refine lv_aload_n hx hb dX6_measure_22 rfl (lv_at hl 0 rfl) ?_
    refine va_get (D := κ.1) (ci := 6) (v := .ref (kR κ this 5)) (C := RX6) (T := TX6) (N := 27) hx hb hg inX6 hown hK (hT.o20 (hT.k t_this (by decide))).one 0 rfl rfl 5 (by decide) (hg _ k1224) (fun _ h9 => h9) rfl dX6_measure_23 ?_
    rw [erP]
    refine lv_aload_n hx hb dX6_measure_26 rfl (lv_at hl 0 rfl) ?_
    refine lv_iload_n hx hb dX6_measure_27 rfl (lv_at hl 1 rfl) ?_
    refine lv_iconst (v := (-1)) hx hb dX6_measure_28 (by decide) ?_
    have R25 : RI κ s19 this := h0.ext hT.2.2.1 ⟨rfl, rfl, fun _ => rfl, fun _ => rfl, fun _ => rfl, fun _ => rfl⟩
    have hTo := hT
    refine tVi (n := 2) (As := [.int i, .int (-1)]) (rest := [.ref rP, .int t24]) hx hb hml hown hg hT hK hX (X6_besideL l κ s19 this i (-1)  (hT.k t_this (by decide)) R25 (by omega) (by omega) (by omega)) (fun _ _ h => h) (mwV k1449 k1451 k58 k92 k1452) ⟨rfl, by decide, by decide, by decide +kernel⟩ ⟨(Nat.le_of_ble_eq_true rfl), (Nat.le_of_ble_eq_true rfl)⟩ (hT.o20 (hT.k t_this (by decide))) rfl rfl hl.1 rfl (Nat.le_of_ble_eq_true rfl) dX6_measure_29 zroom.rf (fun x26 s27 H locs hφ hEs27 hT => ?_)
    have f28 := hφ
    have K29 : zI s27 this 7 = zI σ0 this 7 := hT.eI t_this (by decide) rfl rfl
    have K29n : (zI s27 this 7).toInt = (zI σ0 this 7).toInt := by rw [K29]
    have J30 : zJ s27 rW = zJ σ0 rW := funext fun k => hT.eJ trW (by decide) rfl rfl
    have J30n : (zJ s27 (kR κ this 1) 4).toInt = (zJ σ0 rW 4).toInt := by rw [erW, J30]
    have P31 : zI s27 rP = zI σ0 rP := funext fun k => hT.eI trP (by decide) rfl rfl
    try simp only [erW, erP, ix_0, ix_1, ix_2, ix_3, ix_4, ix_5, ix_6, ix_7, ix_8, ix_9, K21, J22, P23, K29, J30, P31] at f28
    refine va_iald hx hb hK (hT.o25 (hT.k trP (by decide))).one 0 0 rfl rfl (g_in (by omega) (by omega)) dX6_measure_32 ?_
    refine lv_topi (fun t32 ht32 => ?_)
    have xt32 : (zI s27 rP (ix x26)).toInt = t32.toInt := by rw [ht32]; exact congrArg (fun q9 => (zI s27 rP q9).toInt) (show ix x26 = ix x26 from rfl)
    try simp only [K29, J30, P31] at xt32
    refine lv_isub hx hb dX6_measure_33 ?_
    first | refine g_sub (by omega) (by omega) (fun t33 ht33 => ?_) | refine lv_topi (fun t33 ht33 => ?_)
    refine lv_i2l hx hb dX6_measure_34 rfl ?_
    refine g_i2l (fun t34 ht34 => ?_)
    subst hQ9
    exact t_l hx hb hr hlocks hT trivial dX6_measure_35
set_option maxHeartbeats 4000000 in
set_option maxRecDepth 100000 in
theorem X6_nextOne (l : Launch) (κ : Kt) (σ0 : Gh) (this : Nat) (t_this : zk σ0 this 20) (h0 : RI κ σ0 this) : TC l yX6_nextOne cX6_nextOne 3 (some .int) 5 114 [.ref this] κ σ0 (tqi κ fE σ0 (fun (r : Int32) (τ : Gh) => (r.toInt = -1 ∨ (0 < r.toInt ∧ r.toInt < (zI σ0 this 7).toInt - 1 ∧ rlf (zJ σ0 (kR κ this 1)) (ix r) = -1)))) := by
  refine TC.of fE (by decide +kernel) (Nat.le_of_ble_eq_true rfl) ?_
  intro p e s m below meth c ls hcs hK hX hT hl
  obtain ⟨hx, hb, hr, hml, hown, hg, hlocks, hin⟩ := hcs
  have hown : s.vm.findClass RX6 = some m.cls := hown
  have hl : lv_has ls 3 [(0, .ref this)] := hl
  have hT0 := hT
  have nm1 : ((-1) : Int32).toInt = (-1) := by decide
  have n0 : (0 : Int32).toInt = 0 := by decide
  have n1 : (1 : Int32).toInt = 1 := by decide
  generalize hQ9 : tQ _ _ _ _ _ _ = Q9
  obtain ⟨rW, erW⟩ : ∃ z, kR κ this 1 = z := ⟨_, rfl⟩
  have trW : zk σ0 rW 21 := by rw [← erW]; exact h0.1.2.1
  obtain ⟨rP, erP⟩ : ∃ z, kR κ this 5 = z := ⟨_, rfl⟩
  have trP : zk σ0 rP 25 := by rw [← erP]; exact h0.1.2.2.2.2
  have hB0 := h0.b
  rw [erW] at hB0
  have hW := h0.2.1
  rw [erW] at hW
  have hP := h0.2.2.1
  rw [erP] at hP
  have hrN : (rN σ0 this : Int) = (zI σ0 this 7).toInt := by unfold rN; omega
  refine lv_aload_n hx hb dX6_nextOne_0 rfl (lv_at hl 0 rfl) ?_
  have hTo := hT
  refine tVi (n := 0) (As := []) (rest := []) hx hb hml hown hg hT hK hX (X6_presents l κ σ0 this  (hT.k t_this (by decide)) h0) (fun _ _ h => h) (mwV k1412 k1414 k51 k92 k1415) ⟨rfl, by decide, by decide, by decide +kernel⟩ ⟨(Nat.le_of_ble_eq_true rfl), (Nat.le_of_ble_eq_true rfl)⟩ (hT.o20 (hT.k t_this (by decide))) rfl rfl hl.1 rfl (Nat.le_of_ble_eq_true rfl) dX6_nextOne_1 zroom.rf (fun x1 s2 H locs hφ hEs2 hT => ?_)
  have f3 := hφ
  have K4 : zI s2 this 7 = zI σ0 this 7 := hT.eI t_this (by decide) rfl rfl
  have K4n : (zI s2 this 7).toInt = (zI σ0 this 7).toInt := by rw [K4]
  have J5 : zJ s2 rW = zJ σ0 rW := funext fun k => hT.eJ trW (by decide) rfl rfl
  have J5n : (zJ s2 (kR κ this 1) 4).toInt = (zJ σ0 rW 4).toInt := by rw [erW, J5]
  have P6 : zI s2 rP = zI σ0 rP := funext fun k => hT.eI trP (by decide) rfl rfl
  try simp only [erW, erP, ix_0, ix_1, ix_2, ix_3, ix_4, ix_5, ix_6, ix_7, ix_8, ix_9, K4, J5, P6] at f3
  refine lv_aload_n hx hb dX6_nextOne_4 rfl (lv_at hl 0 rfl) ?_
  obtain ⟨v7, ev7⟩ : ∃ zz9 : Int32, zI σ0 this 8 = zz9 := ⟨_, rfl⟩
  have qv7 : v7.toInt = (zI σ0 this 8).toInt := by rw [ev7]
  refine va_get (D := κ.1) (ci := 6) (v := .int (zI s2 this 8)) (C := RX6) (T := TX6) (N := 27) hx hb hg inX6 hown hK (hT.o20 (hT.k t_this (by decide))).one 0 rfl rfl 8 (by decide) (hg _ k1227) (fun _ h9 => h9) rfl dX6_nextOne_5 ?_
  rw [(hT.eI t_this (by decide) rfl ev7)]
  refine lv_icmp_gt (tgt := 13) hx hb dX6_nextOne_8 (by decide) (fun c9 => ?_) (fun c9 => ?_)
  · have c1 := gi_lt c9
    refine lv_iconst (v := (-1)) hx hb dX6_nextOne_13 (by decide) ?_
    refine lv_istore_n (lv' := [(1, .int (-1)), (0, .ref this)]) hx hb dX6_nextOne_14 rfl hl (by decide) rfl (fun ls hl => ?_)
    refine lv_iconst (v := 1) hx hb dX6_nextOne_15 (by decide) ?_
    refine lv_istore_n (lv' := [(2, .int 1), (1, .int (-1)), (0, .ref this)]) hx hb dX6_nextOne_16 rfl hl (by decide) rfl (fun ls hl => ?_)
    have loop17 : ∀ (n9 : Nat) (bs : Int32) (k : Int32) (H : Heap) (locs : List Loc) (sg : Gh) (ls : Array Slot), TS κ fE σ0 sg s H locs → (1 ≤ k.toInt) → (k.toInt ≤ 48) → (bs.toInt = -1 ∨ (0 < bs.toInt ∧ bs.toInt < (zI σ0 this 7).toInt - 1 ∧ rlf (zJ σ0 rW) (ix bs) = -1)) → lv_has ls 3 [(1, .int bs), (2, .int k), (0, .ref this)] → (48 - k.toInt) < n9 → tW p l e 5 114 κ s m #[.ref this] below meth c H locs Q9 (F0 m 17 ls []) := by
      intro n9
      induction n9 with
      | zero =>
        intro bs k H locs sg ls hT q1 q2 q3 hl hm9
        exfalso
        omega
      | succ n9 ih9 =>
        have ih17 := ih9
        clear ih9
        intro bs k H locs s8 ls hT q1 q2 q3 hl hm9
        refine lv_iload_n hx hb dX6_nextOne_17 rfl (lv_at hl 1 rfl) ?_
        refine lv_aload_n hx hb dX6_nextOne_18 rfl (lv_at hl 2 rfl) ?_
        obtain ⟨v9, ev9⟩ : ∃ zz9 : Int32, zI σ0 this 7 = zz9 := ⟨_, rfl⟩
        have qv9 : v9.toInt = (zI σ0 this 7).toInt := by rw [ev9]
        refine va_get (D := κ.1) (ci := 6) (v := .int (zI s8 this 7)) (C := RX6) (T := TX6) (N := 27) hx hb hg inX6 hown hK (hT.o20 (hT.k t_this (by decide))).one 0 rfl rfl 7 (by decide) (hg _ k1226) (fun _ h9 => h9) rfl dX6_nextOne_19 ?_
        rw [(hT.eI t_this (by decide) rfl ev9)]
        refine lv_iconst (v := 1) hx hb dX6_nextOne_22 (by decide) ?_
        refine lv_isub hx hb dX6_nextOne_23 ?_
        first | refine g_sub (by omega) (by omega) (fun t10 ht10 => ?_) | refine lv_topi (fun t10 ht10 => ?_)
        refine lv_icmp_ge (tgt := 62) hx hb dX6_nextOne_24 (by decide) (fun c9 => ?_) (fun c9 => ?_)
        · have c2 := gi_le c9
          refine lv_iload_n hx hb dX6_nextOne_62 rfl (lv_at hl 0 rfl) ?_
          subst hQ9
          exact t_i hx hb hr hlocks hT (by simp only [erW, erP]; omega) dX6_nextOne_63
        · have c3 := gi_nle c9
          refine lv_aload_n hx hb dX6_nextOne_27 rfl (lv_at hl 2 rfl) ?_
          refine lv_iload_n hx hb dX6_nextOne_28 rfl (lv_at hl 1 rfl) ?_
          have K11 : zI s8 this 7 = zI σ0 this 7 := hT.eI t_this (by decide) rfl rfl
          have K11n : (zI s8 this 7).toInt = (zI σ0 this 7).toInt := by rw [K11]
          have J12 : zJ s8 rW = zJ σ0 rW := funext fun k => hT.eJ trW (by decide) rfl rfl
          have J12n : (zJ s8 (kR κ this 1) 4).toInt = (zJ σ0 rW 4).toInt := by rw [erW, J12]
          have P13 : zI s8 rP = zI σ0 rP := funext fun k => hT.eI trP (by decide) rfl rfl
          have R14 : RI κ s8 this := h0.ext hT.2.2.1 ⟨rfl, rfl, fun _ => rfl, fun _ => rfl, fun _ => rfl, fun _ => rfl⟩
          have hTo := hT
          refine tVi (n := 1) (As := [.int k]) (rest := []) hx hb hml hown hg hT hK hX (X6_isInner l κ s8 this k  (hT.k t_this (by decide)) R14) (fun _ _ h => h) (mwV k1527 k1529 k64 k92 k1530) ⟨rfl, by decide, by decide, by decide +kernel⟩ ⟨(Nat.le_of_ble_eq_true rfl), (Nat.le_of_ble_eq_true rfl)⟩ (hT.o20 (hT.k t_this (by decide))) rfl rfl hl.1 rfl (Nat.le_of_ble_eq_true rfl) dX6_nextOne_29 zroom.rf (fun x15 s16 H locs hφ hEs16 hT => ?_)
          obtain ⟨f17, f18⟩ := hφ
          have K19 : zI s16 this 7 = zI σ0 this 7 := hT.eI t_this (by decide) rfl rfl
          have K19n : (zI s16 this 7).toInt = (zI σ0 this 7).toInt := by rw [K19]
          have J20 : zJ s16 rW = zJ σ0 rW := funext fun k => hT.eJ trW (by decide) rfl rfl
          have J20n : (zJ s16 (kR κ this 1) 4).toInt = (zJ σ0 rW 4).toInt := by rw [erW, J20]
          have P21 : zI s16 rP = zI σ0 rP := funext fun k => hT.eI trP (by decide) rfl rfl
          try simp only [erW, erP, ix_0, ix_1, ix_2, ix_3, ix_4, ix_5, ix_6, ix_7, ix_8, ix_9, K11, J12, P13, K19, J20, P21] at f17
          refine lv_if_eq (tgt := 56) hx hb dX6_nextOne_32 (by decide) (fun c9 => ?_) (fun c9 => ?_)
          · have c4 := gi_eq c9
            obtain ⟨t22, qt22⟩ : ∃ zz9 : Int32, k + Int32.ofInt 1 = zz9 := ⟨_, rfl⟩
            refine lv_iinc (v := t22) (lv' := [(2, .int t22), (1, .int bs), (0, .ref this)]) hx hb dX6_nextOne_56 hl (k := 1) rfl qt22 (by decide) rfl (fun ls hl => ?_)
            have ht22 : t22.toInt = k.toInt + 1 := by rw [← qt22]; exact v_addi rfl (show (Int32.ofInt 1).toInt = 1 from by decide) (by omega) (by omega)
            refine lv_goto (tgt := 17) hx hb dX6_nextOne_59 (by decide) ?_
            exact ih17 bs t22 _ _ _ _ hT  (by omega) (by omega) (by omega) (lv_sub hl [1, 0, 2] rfl) (by omega)
          · have c5 := gi_ne c9
            refine lv_iload_n hx hb dX6_nextOne_35 rfl (lv_at hl 0 rfl) ?_
            refine lv_iconst (v := (-1)) hx hb dX6_nextOne_36 (by decide) ?_
            refine lv_icmp_eq (tgt := 54) hx hb dX6_nextOne_37 (by decide) (fun c9 => ?_) (fun c9 => ?_)
            · have c6 := gi_eq c9
              refine lv_iload_n hx hb dX6_nextOne_54 rfl (lv_at hl 1 rfl) ?_
              refine lv_istore_n (lv' := [(1, .int k), (2, .int k), (0, .ref this)]) hx hb dX6_nextOne_55 rfl hl (by decide) rfl (fun ls hl => ?_)
              obtain ⟨t23, qt23⟩ : ∃ zz9 : Int32, k + Int32.ofInt 1 = zz9 := ⟨_, rfl⟩
              refine lv_iinc (v := t23) (lv' := [(2, .int t23), (1, .int k), (0, .ref this)]) hx hb dX6_nextOne_56 hl (k := 1) rfl qt23 (by decide) rfl (fun ls hl => ?_)
              have ht23 : t23.toInt = k.toInt + 1 := by rw [← qt23]; exact v_addi rfl (show (Int32.ofInt 1).toInt = 1 from by decide) (by omega) (by omega)
              refine lv_goto (tgt := 17) hx hb dX6_nextOne_59 (by decide) ?_
              exact ih17 k t23 _ _ _ _ hT  (by omega) (by omega) (by omega) (lv_sub hl [1, 0, 2] rfl) (by omega)
            · have c7 := gi_ne c9
              refine lv_aload_n hx hb dX6_nextOne_40 rfl (lv_at hl 2 rfl) ?_
              refine lv_iload_n hx hb dX6_nextOne_41 rfl (lv_at hl 1 rfl) ?_
              have R24 : RI κ s16 this := h0.ext hT.2.2.1 ⟨rfl, rfl, fun _ => rfl, fun _ => rfl, fun _ => rfl, fun _ => rfl⟩
              have hTo := hT
              refine tVl (n := 1) (As := [.int k]) (rest := []) hx hb hml hown hg hT hK hX (X6_measure l κ s16 this k  (hT.k t_this (by decide)) R24 (by omega) (by omega)) (fun _ _ h => h) (mwV k1531 k1533 k65 k92 k1534) ⟨rfl, by decide, by decide, by decide +kernel⟩ ⟨(Nat.le_of_ble_eq_true rfl), (Nat.le_of_ble_eq_true rfl)⟩ (hT.o20 (hT.k t_this (by decide))) rfl rfl hl.1 rfl (Nat.le_of_ble_eq_true rfl) dX6_nextOne_42 zroom.rf (fun x25 s26 H locs hφ hEs26 hT => ?_)
              refine lv_aload_n hx hb dX6_nextOne_45 rfl (lv_at hl 2 rfl) ?_
              refine lv_iload_n hx hb dX6_nextOne_46 rfl (lv_at hl 0 rfl) ?_
              have K27 : zI s26 this 7 = zI σ0 this 7 := hT.eI t_this (by decide) rfl rfl
              have K27n : (zI s26 this 7).toInt = (zI σ0 this 7).toInt := by rw [K27]
              have J28 : zJ s26 rW = zJ σ0 rW := funext fun k => hT.eJ trW (by decide) rfl rfl
              have J28n : (zJ s26 (kR κ this 1) 4).toInt = (zJ σ0 rW 4).toInt := by rw [erW, J28]
              have P29 : zI s26 rP = zI σ0 rP := funext fun k => hT.eI trP (by decide) rfl rfl
              have R30 : RI κ s26 this := h0.ext hT.2.2.1 ⟨rfl, rfl, fun _ => rfl, fun _ => rfl, fun _ => rfl, fun _ => rfl⟩
              have hTo := hT
              refine tVl (n := 1) (As := [.int bs]) (rest := [.long x25]) hx hb hml hown hg hT hK hX (X6_measure l κ s26 this bs  (hT.k t_this (by decide)) R30 (by omega) (by omega)) (fun _ _ h => h) (mwV k1531 k1533 k65 k92 k1534) ⟨rfl, by decide, by decide, by decide +kernel⟩ ⟨(Nat.le_of_ble_eq_true rfl), (Nat.le_of_ble_eq_true rfl)⟩ (hT.o20 (hT.k t_this (by decide))) rfl rfl hl.1 rfl (Nat.le_of_ble_eq_true rfl) dX6_nextOne_47 zroom.rf (fun x31 s32 H locs hφ hEs32 hT => ?_)
              refine W.lcmp hx hb dX6_nextOne_50 ?_
              refine lv_if_ge (tgt := 56) hx hb dX6_nextOne_51 (by decide) (fun c9 => ?_) (fun c9 => ?_)
              · have c8 := gl_ge c9
                obtain ⟨t33, qt33⟩ : ∃ zz9 : Int32, k + Int32.ofInt 1 = zz9 := ⟨_, rfl⟩
                refine lv_iinc (v := t33) (lv' := [(2, .int t33), (1, .int bs), (0, .ref this)]) hx hb dX6_nextOne_56 hl (k := 1) rfl qt33 (by decide) rfl (fun ls hl => ?_)
                have ht33 : t33.toInt = k.toInt + 1 := by rw [← qt33]; exact v_addi rfl (show (Int32.ofInt 1).toInt = 1 from by decide) (by omega) (by omega)
                refine lv_goto (tgt := 17) hx hb dX6_nextOne_59 (by decide) ?_
                exact ih17 bs t33 _ _ _ _ hT  (by omega) (by omega) (by omega) (lv_sub hl [1, 0, 2] rfl) (by omega)
              · have c9 := gl_nge c9
                refine lv_iload_n hx hb dX6_nextOne_54 rfl (lv_at hl 1 rfl) ?_
                refine lv_istore_n (lv' := [(1, .int k), (2, .int k), (0, .ref this)]) hx hb dX6_nextOne_55 rfl hl (by decide) rfl (fun ls hl => ?_)
                obtain ⟨t34, qt34⟩ : ∃ zz9 : Int32, k + Int32.ofInt 1 = zz9 := ⟨_, rfl⟩
                refine lv_iinc (v := t34) (lv' := [(2, .int t34), (1, .int k), (0, .ref this)]) hx hb dX6_nextOne_56 hl (k := 1) rfl qt34 (by decide) rfl (fun ls hl => ?_)
                have ht34 : t34.toInt = k.toInt + 1 := by rw [← qt34]; exact v_addi rfl (show (Int32.ofInt 1).toInt = 1 from by decide) (by omega) (by omega)
                refine lv_goto (tgt := 17) hx hb dX6_nextOne_59 (by decide) ?_
                exact ih17 k t34 _ _ _ _ hT  (by omega) (by omega) (by omega) (lv_sub hl [1, 0, 2] rfl) (by omega)
    exact loop17 ((48 - (1 : Int32).toInt).toNat + 1) (-1) 1 _ _ _ _ hT  (by omega) (by omega) (by omega) (lv_sub hl [1, 0, 2] rfl) (by omega)
  · have c10 := gi_nlt c9
    refine lv_iconst (v := (-1)) hx hb dX6_nextOne_11 (by decide) ?_
    subst hQ9
    exact t_i hx hb hr hlocks hT (by simp only [erW, erP]; omega) dX6_nextOne_12
set_option maxHeartbeats 4000000 in
set_option maxRecDepth 100000 in
theorem X6_next (l : Launch) (κ : Kt) (σ0 : Gh) (this : Nat) (t_this : zk σ0 this 20) (h0 : RI κ σ0 this) : TC l yX6_next cX6_next 2 (some .int) 6 136 [.ref this] κ σ0 (tqi κ gR σ0 (fun (r : Int32) (τ : Gh) => True)) := by
  refine TC.of gR (by decide +kernel) (Nat.le_of_ble_eq_true rfl) ?_
  intro p e s m below meth c ls hcs hK hX hT hl
  obtain ⟨hx, hb, hr, hml, hown, hg, hlocks, hin⟩ := hcs
  have hown : s.vm.findClass RX6 = some m.cls := hown
  have hl : lv_has ls 2 [(0, .ref this)] := hl
  have hT0 := hT
  have nm1 : ((-1) : Int32).toInt = (-1) := by decide
  have n0 : (0 : Int32).toInt = 0 := by decide
  have n1 : (1 : Int32).toInt = 1 := by decide
  generalize hQ9 : tQ _ _ _ _ _ _ = Q9
  obtain ⟨rW, erW⟩ : ∃ z, kR κ this 1 = z := ⟨_, rfl⟩
  have trW : zk σ0 rW 21 := by rw [← erW]; exact h0.1.2.1
  obtain ⟨rP, erP⟩ : ∃ z, kR κ this 5 = z := ⟨_, rfl⟩
  have trP : zk σ0 rP 25 := by rw [← erP]; exact h0.1.2.2.2.2
  have hB0 := h0.b
  rw [erW] at hB0
  have hW := h0.2.1
  rw [erW] at hW
  have hP := h0.2.2.1
  rw [erP] at hP
  have hrN : (rN σ0 this : Int) = (zI σ0 this 7).toInt := by unfold rN; omega
  refine lv_aload_n hx hb dX6_next_0 rfl (lv_at hl 0 rfl) ?_
  have hTo := hT
  refine tVi (n := 0) (As := []) (rest := []) hx hb hml hown hg hT hK hX (X6_nextOne l κ σ0 this  (hT.k t_this (by decide)) h0) sub_fE_gR (mwV k1523 k1525 k63 k92 k1526) ⟨rfl, by decide, by decide, by decide +kernel⟩ ⟨(Nat.le_of_ble_eq_true rfl), (Nat.le_of_ble_eq_true rfl)⟩ (hT.o20 (hT.k t_this (by decide))) rfl rfl hl.1 rfl (Nat.le_of_ble_eq_true rfl) dX6_next_1 zroom.rf (fun x1 s2 H locs hφ hEs2 hT => ?_)
  have f3 := hφ
  have K4 : zI s2 this 7 = zI σ0 this 7 := hT.eI t_this (by decide) rfl rfl
  have K4n : (zI s2 this 7).toInt = (zI σ0 this 7).toInt := by rw [K4]
  have J5 : zJ s2 rW = zJ σ0 rW := funext fun k => hT.eJ trW (by decide) rfl rfl
  have J5n : (zJ s2 (kR κ this 1) 4).toInt = (zJ σ0 rW 4).toInt := by rw [erW, J5]
  have P6 : zI s2 rP = zI σ0 rP := funext fun k => hT.eI trP (by decide) rfl rfl
  try simp only [erW, erP, ix_0, ix_1, ix_2, ix_3, ix_4, ix_5, ix_6, ix_7, ix_8, ix_9, K4, J5, P6] at f3
  refine lv_istore_n (lv' := [(1, .int x1), (0, .ref this)]) hx hb dX6_next_4 rfl hl (by decide) rfl (fun ls hl => ?_)
  refine lv_aload_n hx hb dX6_next_5 rfl (lv_at hl 1 rfl) ?_
  refine lv_iload_n hx hb dX6_next_6 rfl (lv_at hl 0 rfl) ?_
  refine lv_iconst (v := (-1)) hx hb dX6_next_7 (by decide) ?_
  refine lv_icmp_ne (tgt := 15) hx hb dX6_next_8 (by decide) (fun c9 => ?_) (fun c9 => ?_)
  · have c1 := gi_ne c9
    refine lv_iconst (v := 0) hx hb dX6_next_15 (by decide) ?_
    have hTo := hT
    refine pf20_0 hx hb hg hown hK hT (hT.k t_this (by decide)) rfl (hg _ k1219) dX6_next_16 (fun H locs s7 hus7 hT => ?_)
    have e8 : zI s7 this 0 = 0 := zput_at hus7
    refine lv_iload_n hx hb dX6_next_19 rfl (lv_at hl 0 rfl) ?_
    subst hQ9
    exact t_i hx hb hr hlocks hT trivial dX6_next_20
  · have c2 := gi_eq c9
    refine lv_iconst (v := 1) hx hb dX6_next_11 (by decide) ?_
    refine lv_goto (tgt := 16) hx hb dX6_next_12 (by decide) ?_
    have hTo := hT
    refine pf20_0 hx hb hg hown hK hT (hT.k t_this (by decide)) rfl (hg _ k1219) dX6_next_16 (fun H locs s9 hus9 hT => ?_)
    have e10 : zI s9 this 0 = 1 := zput_at hus9
    refine lv_iload_n hx hb dX6_next_19 rfl (lv_at hl 0 rfl) ?_
    subst hQ9
    exact t_i hx hb hr hlocks hT trivial dX6_next_20

/-! Text over any state: samples -/
theorem sub_fDr_fRd : ∀ t k, fRd t k = false → fDr t k = false := by
  intro t k h
  simp [fDr, fRd] at h ⊢ <;> omega
theorem sub_fE_fRd : ∀ t k, fRd t k = false → fE t k = false := by
  intro t k h
  simp [fE, fRd] at h ⊢ <;> omega
theorem sub_fP_fRd : ∀ t k, fRd t k = false → fP t k = false := by
  intro t k h
  simp [fP, fRd] at h ⊢ <;> omega
theorem sub_fPe_fRd : ∀ t k, fRd t k = false → fPe t k = false := by
  intro t k h
  simp [fPe, fRd] at h ⊢ <;> omega
theorem sub_fPs_fRd : ∀ t k, fRd t k = false → fPs t k = false := by
  intro t k h
  simp [fPs, fRd] at h ⊢ <;> omega
theorem k20 : Cond.selects RX3 yX3_readSettings yX3_readSettings ∈ GW := gm 20 (by decide +kernel) (by decide +kernel)
theorem k27 : Cond.selects RX3 yX3_readSamples yX3_readSamples ∈ GW := gm 27 (by decide +kernel) (by decide +kernel)
theorem k28 : Cond.selects RX3 yX3_readSample yX3_readSample ∈ GW := gm 28 (by decide +kernel) (by decide +kernel)
theorem k156 : Cond.fieldLink RX3 117 "LiftingSignal$Source" "position" "[I" ∈ GW := gm 156 (by decide +kernel) (by decide +kernel)
theorem k164 : Cond.fieldLink RX3 114 "LiftingSignal$Source" "count" "I" ∈ GW := gm 164 (by decide +kernel) (by decide +kernel)
theorem k329 : Cond.instanceMethod yX0_addSample ∈ GW := gm 329 (by decide +kernel) (by decide +kernel)
theorem k330 : Cond.selects RX0 yX0_addSample yX0_addSample ∈ GW := gm 330 (by decide +kernel) (by decide +kernel)
theorem k331 : Cond.code yX0_addSample cX0_addSample 3 none ∈ GW := gm 331 (by decide +kernel) (by decide +kernel)
theorem k693 : Cond.methodLink RX3 37 yX0_clear ∈ GW := gm 693 (by decide +kernel) (by decide +kernel)
theorem k694 : Cond.instanceMethod yX0_clear ∈ GW := gm 694 (by decide +kernel) (by decide +kernel)
theorem k695 : Cond.selects RX0 yX0_clear yX0_clear ∈ GW := gm 695 (by decide +kernel) (by decide +kernel)
theorem k696 : Cond.code yX0_clear cX0_clear 1 none ∈ GW := gm 696 (by decide +kernel) (by decide +kernel)
theorem k715 : Cond.methodLink RX3 46 yX3_readSettings ∈ GW := gm 715 (by decide +kernel) (by decide +kernel)
theorem k717 : Cond.instanceMethod yX3_readSettings ∈ GW := gm 717 (by decide +kernel) (by decide +kernel)
theorem k718 : Cond.code yX3_readSettings cX3_readSettings 5 (some .boolean) ∈ GW := gm 718 (by decide +kernel) (by decide +kernel)
theorem k803 : Cond.methodLink RX3 50 yX3_readSamples ∈ GW := gm 803 (by decide +kernel) (by decide +kernel)
theorem k805 : Cond.instanceMethod yX3_readSamples ∈ GW := gm 805 (by decide +kernel) (by decide +kernel)
theorem k806 : Cond.code yX3_readSamples cX3_readSamples 3 (some .boolean) ∈ GW := gm 806 (by decide +kernel) (by decide +kernel)
theorem k808 : Cond.methodLink RX3 111 yX3_readSample ∈ GW := gm 808 (by decide +kernel) (by decide +kernel)
theorem k810 : Cond.instanceMethod yX3_readSample ∈ GW := gm 810 (by decide +kernel) (by decide +kernel)
theorem k811 : Cond.code yX3_readSample cX3_readSample 4 (some .boolean) ∈ GW := gm 811 (by decide +kernel) (by decide +kernel)
theorem k812 : Cond.methodLink RX3 121 yX0_addSample ∈ GW := gm 812 (by decide +kernel) (by decide +kernel)
theorem dX3_readInto_0 : decode cX3_readInto 0 = .ok (.aload_n 0, 1) := by decide +kernel
theorem dX3_readInto_1 : decode cX3_readInto 1 = .ok (.iconst 0, 1) := by decide +kernel
theorem dX3_readInto_2 : decode cX3_readInto 2 = .ok (.putfield 19, 3) := by decide +kernel
theorem dX3_readInto_5 : decode cX3_readInto 5 = .ok (.aload_n 0, 1) := by decide +kernel
theorem dX3_readInto_6 : decode cX3_readInto 6 = .ok (.iconst (-1), 1) := by decide +kernel
theorem dX3_readInto_7 : decode cX3_readInto 7 = .ok (.putfield 22, 3) := by decide +kernel
theorem dX3_readInto_10 : decode cX3_readInto 10 = .ok (.aload_n 0, 1) := by decide +kernel
theorem dX3_readInto_11 : decode cX3_readInto 11 = .ok (.iconst 0, 1) := by decide +kernel
theorem dX3_readInto_12 : decode cX3_readInto 12 = .ok (.putfield 31, 3) := by decide +kernel
theorem dX3_readInto_15 : decode cX3_readInto 15 = .ok (.aload_n 1, 1) := by decide +kernel
theorem dX3_readInto_16 : decode cX3_readInto 16 = .ok (.invokevirtual 37, 3) := by decide +kernel
theorem dX3_readInto_19 : decode cX3_readInto 19 = .ok (.aload_n 0, 1) := by decide +kernel
theorem dX3_readInto_20 : decode cX3_readInto 20 = .ok (.invokevirtual 42, 3) := by decide +kernel
theorem dX3_readInto_23 : decode cX3_readInto 23 = .ok (.pop, 1) := by decide +kernel
theorem dX3_readInto_24 : decode cX3_readInto 24 = .ok (.aload_n 0, 1) := by decide +kernel
theorem dX3_readInto_25 : decode cX3_readInto 25 = .ok (.aload_n 1, 1) := by decide +kernel
theorem dX3_readInto_26 : decode cX3_readInto 26 = .ok (.invokevirtual 46, 3) := by decide +kernel
theorem dX3_readInto_29 : decode cX3_readInto 29 = .ok (.ifCond .eq 15, 3) := by decide +kernel
theorem dX3_readInto_32 : decode cX3_readInto 32 = .ok (.aload_n 0, 1) := by decide +kernel
theorem dX3_readInto_33 : decode cX3_readInto 33 = .ok (.aload_n 1, 1) := by decide +kernel
theorem dX3_readInto_34 : decode cX3_readInto 34 = .ok (.invokevirtual 50, 3) := by decide +kernel
theorem dX3_readInto_37 : decode cX3_readInto 37 = .ok (.ifCond .eq 7, 3) := by decide +kernel
theorem dX3_readInto_40 : decode cX3_readInto 40 = .ok (.iconst 1, 1) := by decide +kernel
theorem dX3_readInto_41 : decode cX3_readInto 41 = .ok (.goto 4, 3) := by decide +kernel
theorem dX3_readInto_44 : decode cX3_readInto 44 = .ok (.iconst 0, 1) := by decide +kernel
theorem dX3_readInto_45 : decode cX3_readInto 45 = .ok (.ireturn, 1) := by decide +kernel
theorem dX3_readSample_0 : decode cX3_readSample 0 = .ok (.aload_n 0, 1) := by decide +kernel
theorem dX3_readSample_1 : decode cX3_readSample 1 = .ok (.getfield 25, 3) := by decide +kernel
theorem dX3_readSample_4 : decode cX3_readSample 4 = .ok (.iconst 2, 1) := by decide +kernel
theorem dX3_readSample_5 : decode cX3_readSample 5 = .ok (.if_icmp .eq 9, 3) := by decide +kernel
theorem dX3_readSample_8 : decode cX3_readSample 8 = .ok (.aload_n 0, 1) := by decide +kernel
theorem dX3_readSample_9 : decode cX3_readSample 9 = .ok (.iconst 1, 1) := by decide +kernel
theorem dX3_readSample_10 : decode cX3_readSample 10 = .ok (.invokevirtual 57, 3) := by decide +kernel
theorem dX3_readSample_13 : decode cX3_readSample 13 = .ok (.ireturn, 1) := by decide +kernel
theorem dX3_readSample_14 : decode cX3_readSample 14 = .ok (.aload_n 0, 1) := by decide +kernel
theorem dX3_readSample_15 : decode cX3_readSample 15 = .ok (.getfield 34, 3) := by decide +kernel
theorem dX3_readSample_18 : decode cX3_readSample 18 = .ok (.istore_n 2, 1) := by decide +kernel
theorem dX3_readSample_19 : decode cX3_readSample 19 = .ok (.aload_n 1, 1) := by decide +kernel
theorem dX3_readSample_20 : decode cX3_readSample 20 = .ok (.getfield 114, 3) := by decide +kernel
theorem dX3_readSample_23 : decode cX3_readSample 23 = .ok (.ifCond .le 24, 3) := by decide +kernel
theorem dX3_readSample_26 : decode cX3_readSample 26 = .ok (.iload_n 2, 1) := by decide +kernel
theorem dX3_readSample_27 : decode cX3_readSample 27 = .ok (.aload_n 1, 1) := by decide +kernel
theorem dX3_readSample_28 : decode cX3_readSample 28 = .ok (.getfield 117, 3) := by decide +kernel
theorem dX3_readSample_31 : decode cX3_readSample 31 = .ok (.aload_n 1, 1) := by decide +kernel
theorem dX3_readSample_32 : decode cX3_readSample 32 = .ok (.getfield 114, 3) := by decide +kernel
theorem dX3_readSample_35 : decode cX3_readSample 35 = .ok (.iconst 1, 1) := by decide +kernel
theorem dX3_readSample_36 : decode cX3_readSample 36 = .ok (.isub, 1) := by decide +kernel
theorem dX3_readSample_37 : decode cX3_readSample 37 = .ok (.iaload, 1) := by decide +kernel
theorem dX3_readSample_38 : decode cX3_readSample 38 = .ok (.if_icmp .gt 9, 3) := by decide +kernel
theorem dX3_readSample_41 : decode cX3_readSample 41 = .ok (.aload_n 0, 1) := by decide +kernel
theorem dX3_readSample_42 : decode cX3_readSample 42 = .ok (.iconst 2, 1) := by decide +kernel
theorem dX3_readSample_43 : decode cX3_readSample 43 = .ok (.invokevirtual 57, 3) := by decide +kernel
theorem dX3_readSample_46 : decode cX3_readSample 46 = .ok (.ireturn, 1) := by decide +kernel
theorem dX3_readSample_47 : decode cX3_readSample 47 = .ok (.aload_n 0, 1) := by decide +kernel
theorem dX3_readSample_48 : decode cX3_readSample 48 = .ok (.invokevirtual 42, 3) := by decide +kernel
theorem dX3_readSample_51 : decode cX3_readSample 51 = .ok (.pop, 1) := by decide +kernel
theorem dX3_readSample_52 : decode cX3_readSample 52 = .ok (.aload_n 0, 1) := by decide +kernel
theorem dX3_readSample_53 : decode cX3_readSample 53 = .ok (.getfield 25, 3) := by decide +kernel
theorem dX3_readSample_56 : decode cX3_readSample 56 = .ok (.iconst 4, 1) := by decide +kernel
theorem dX3_readSample_57 : decode cX3_readSample 57 = .ok (.if_icmp .ne 7, 3) := by decide +kernel
theorem dX3_readSample_60 : decode cX3_readSample 60 = .ok (.iconst 1, 1) := by decide +kernel
theorem dX3_readSample_61 : decode cX3_readSample 61 = .ok (.goto 4, 3) := by decide +kernel
theorem dX3_readSample_64 : decode cX3_readSample 64 = .ok (.iconst 0, 1) := by decide +kernel
theorem dX3_readSample_65 : decode cX3_readSample 65 = .ok (.istore_n 3, 1) := by decide +kernel
theorem dX3_readSample_66 : decode cX3_readSample 66 = .ok (.iload_n 3, 1) := by decide +kernel
theorem dX3_readSample_67 : decode cX3_readSample 67 = .ok (.ifCond .eq 8, 3) := by decide +kernel
theorem dX3_readSample_70 : decode cX3_readSample 70 = .ok (.aload_n 0, 1) := by decide +kernel
theorem dX3_readSample_71 : decode cX3_readSample 71 = .ok (.invokevirtual 42, 3) := by decide +kernel
theorem dX3_readSample_74 : decode cX3_readSample 74 = .ok (.pop, 1) := by decide +kernel
theorem dX3_readSample_75 : decode cX3_readSample 75 = .ok (.aload_n 0, 1) := by decide +kernel
theorem dX3_readSample_76 : decode cX3_readSample 76 = .ok (.getfield 25, 3) := by decide +kernel
theorem dX3_readSample_79 : decode cX3_readSample 79 = .ok (.iconst 2, 1) := by decide +kernel
theorem dX3_readSample_80 : decode cX3_readSample 80 = .ok (.if_icmp .eq 9, 3) := by decide +kernel
theorem dX3_readSample_83 : decode cX3_readSample 83 = .ok (.aload_n 0, 1) := by decide +kernel
theorem dX3_readSample_84 : decode cX3_readSample 84 = .ok (.iconst 1, 1) := by decide +kernel
theorem dX3_readSample_85 : decode cX3_readSample 85 = .ok (.invokevirtual 57, 3) := by decide +kernel
theorem dX3_readSample_88 : decode cX3_readSample 88 = .ok (.ireturn, 1) := by decide +kernel
theorem dX3_readSample_89 : decode cX3_readSample 89 = .ok (.aload_n 1, 1) := by decide +kernel
theorem dX3_readSample_90 : decode cX3_readSample 90 = .ok (.iload_n 2, 1) := by decide +kernel
theorem dX3_readSample_91 : decode cX3_readSample 91 = .ok (.iload_n 3, 1) := by decide +kernel
theorem dX3_readSample_92 : decode cX3_readSample 92 = .ok (.ifCond .eq 11, 3) := by decide +kernel
theorem dX3_readSample_95 : decode cX3_readSample 95 = .ok (.aload_n 0, 1) := by decide +kernel
theorem dX3_readSample_96 : decode cX3_readSample 96 = .ok (.getfield 34, 3) := by decide +kernel
theorem dX3_readSample_99 : decode cX3_readSample 99 = .ok (.ineg, 1) := by decide +kernel
theorem dX3_readSample_100 : decode cX3_readSample 100 = .ok (.goto 7, 3) := by decide +kernel
theorem dX3_readSample_103 : decode cX3_readSample 103 = .ok (.aload_n 0, 1) := by decide +kernel
theorem dX3_readSample_104 : decode cX3_readSample 104 = .ok (.getfield 34, 3) := by decide +kernel
theorem dX3_readSample_107 : decode cX3_readSample 107 = .ok (.invokevirtual 121, 3) := by decide +kernel
theorem dX3_readSample_110 : decode cX3_readSample 110 = .ok (.aload_n 0, 1) := by decide +kernel
theorem dX3_readSample_111 : decode cX3_readSample 111 = .ok (.invokevirtual 42, 3) := by decide +kernel
theorem dX3_readSample_114 : decode cX3_readSample 114 = .ok (.ireturn, 1) := by decide +kernel
theorem dX3_readSamples_0 : decode cX3_readSamples 0 = .ok (.iconst 0, 1) := by decide +kernel
theorem dX3_readSamples_1 : decode cX3_readSamples 1 = .ok (.istore_n 2, 1) := by decide +kernel
theorem dX3_readSamples_2 : decode cX3_readSamples 2 = .ok (.iload_n 2, 1) := by decide +kernel
theorem dX3_readSamples_3 : decode cX3_readSamples 3 = .ok (.bipush 48, 2) := by decide +kernel
theorem dX3_readSamples_5 : decode cX3_readSamples 5 = .ok (.if_icmp .gt 72, 3) := by decide +kernel
theorem dX3_readSamples_8 : decode cX3_readSamples 8 = .ok (.aload_n 0, 1) := by decide +kernel
theorem dX3_readSamples_9 : decode cX3_readSamples 9 = .ok (.getfield 25, 3) := by decide +kernel
theorem dX3_readSamples_12 : decode cX3_readSamples 12 = .ok (.ifCond .ne 10, 3) := by decide +kernel
theorem dX3_readSamples_15 : decode cX3_readSamples 15 = .ok (.iload_n 2, 1) := by decide +kernel
theorem dX3_readSamples_16 : decode cX3_readSamples 16 = .ok (.iconst 2, 1) := by decide +kernel
theorem dX3_readSamples_17 : decode cX3_readSamples 17 = .ok (.if_icmp .lt 5, 3) := by decide +kernel
theorem dX3_readSamples_20 : decode cX3_readSamples 20 = .ok (.iconst 1, 1) := by decide +kernel
theorem dX3_readSamples_21 : decode cX3_readSamples 21 = .ok (.ireturn, 1) := by decide +kernel
theorem dX3_readSamples_22 : decode cX3_readSamples 22 = .ok (.aload_n 0, 1) := by decide +kernel
theorem dX3_readSamples_23 : decode cX3_readSamples 23 = .ok (.ldc 109, 2) := by decide +kernel
theorem dX3_readSamples_25 : decode cX3_readSamples 25 = .ok (.invokevirtual 70, 3) := by decide +kernel
theorem dX3_readSamples_28 : decode cX3_readSamples 28 = .ok (.ifCond .ne 9, 3) := by decide +kernel
theorem dX3_readSamples_31 : decode cX3_readSamples 31 = .ok (.aload_n 0, 1) := by decide +kernel
theorem dX3_readSamples_32 : decode cX3_readSamples 32 = .ok (.iconst 1, 1) := by decide +kernel
theorem dX3_readSamples_33 : decode cX3_readSamples 33 = .ok (.invokevirtual 57, 3) := by decide +kernel
theorem dX3_readSamples_36 : decode cX3_readSamples 36 = .ok (.ireturn, 1) := by decide +kernel
theorem dX3_readSamples_37 : decode cX3_readSamples 37 = .ok (.iload_n 2, 1) := by decide +kernel
theorem dX3_readSamples_38 : decode cX3_readSamples 38 = .ok (.bipush 48, 2) := by decide +kernel
theorem dX3_readSamples_40 : decode cX3_readSamples 40 = .ok (.if_icmp .ne 9, 3) := by decide +kernel
theorem dX3_readSamples_43 : decode cX3_readSamples 43 = .ok (.aload_n 0, 1) := by decide +kernel
theorem dX3_readSamples_44 : decode cX3_readSamples 44 = .ok (.iconst 4, 1) := by decide +kernel
theorem dX3_readSamples_45 : decode cX3_readSamples 45 = .ok (.invokevirtual 57, 3) := by decide +kernel
theorem dX3_readSamples_48 : decode cX3_readSamples 48 = .ok (.ireturn, 1) := by decide +kernel
theorem dX3_readSamples_49 : decode cX3_readSamples 49 = .ok (.aload_n 0, 1) := by decide +kernel
theorem dX3_readSamples_50 : decode cX3_readSamples 50 = .ok (.invokevirtual 42, 3) := by decide +kernel
theorem dX3_readSamples_53 : decode cX3_readSamples 53 = .ok (.pop, 1) := by decide +kernel
theorem dX3_readSamples_54 : decode cX3_readSamples 54 = .ok (.aload_n 0, 1) := by decide +kernel
theorem dX3_readSamples_55 : decode cX3_readSamples 55 = .ok (.aload_n 1, 1) := by decide +kernel
theorem dX3_readSamples_56 : decode cX3_readSamples 56 = .ok (.invokevirtual 111, 3) := by decide +kernel
theorem dX3_readSamples_59 : decode cX3_readSamples 59 = .ok (.ifCond .eq 10, 3) := by decide +kernel
theorem dX3_readSamples_62 : decode cX3_readSamples 62 = .ok (.aload_n 0, 1) := by decide +kernel
theorem dX3_readSamples_63 : decode cX3_readSamples 63 = .ok (.invokevirtual 65, 3) := by decide +kernel
theorem dX3_readSamples_66 : decode cX3_readSamples 66 = .ok (.ifCond .ne 5, 3) := by decide +kernel
theorem dX3_readSamples_69 : decode cX3_readSamples 69 = .ok (.iconst 0, 1) := by decide +kernel
theorem dX3_readSamples_70 : decode cX3_readSamples 70 = .ok (.ireturn, 1) := by decide +kernel
theorem dX3_readSamples_71 : decode cX3_readSamples 71 = .ok (.iinc 2 1, 3) := by decide +kernel
theorem dX3_readSamples_74 : decode cX3_readSamples 74 = .ok (.goto (-72), 3) := by decide +kernel
theorem dX3_readSamples_77 : decode cX3_readSamples 77 = .ok (.iconst 1, 1) := by decide +kernel
theorem dX3_readSamples_78 : decode cX3_readSamples 78 = .ok (.ireturn, 1) := by decide +kernel
set_option maxHeartbeats 4000000 in
set_option maxRecDepth 100000 in
theorem X3_readSample (l : Launch) (κ : Kt) (σ0 : Gh) (this : Nat) (into : Nat) (t_this : zk σ0 this 6) (t_into : zk σ0 into 5) : TC l yX3_readSample cX3_readSample 4 (some .boolean) 3 60 [.ref this, .ref into] κ σ0 (tqi κ fRd σ0 (fun (r : Int32) (τ : Gh) => (r.toInt = 0 ∨ (zI τ into 2).toInt = (zI σ0 into 2).toInt + 1 ∨ ((zI σ0 into 2).toInt = 48 ∧ (zI τ into 2).toInt = 48)) ∧ (isB r))) := by
  refine TC.of fRd (by decide +kernel) (Nat.le_of_ble_eq_true rfl) ?_
  intro p e s m below meth c ls hcs hK hX hT hl
  obtain ⟨hx, hb, hr, hml, hown, hg, hlocks, hin⟩ := hcs
  have hown : s.vm.findClass RX3 = some m.cls := hown
  have hl : lv_has ls 4 [(0, .ref this), (1, .ref into)] := hl
  have hT0 := hT
  have n0 : (0 : Int32).toInt = 0 := by decide
  have n1 : (1 : Int32).toInt = 1 := by decide
  have n2 : (2 : Int32).toInt = 2 := by decide
  have n4 : (4 : Int32).toInt = 4 := by decide
  generalize hQ9 : tQ _ _ _ _ _ _ = Q9
  refine lv_aload_n hx hb dX3_readSample_0 rfl (lv_at hl 0 rfl) ?_
  obtain ⟨v1, ev1⟩ : ∃ zz9 : Int32, zI σ0 this 4 = zz9 := ⟨_, rfl⟩
  have qv1 : v1.toInt = (zI σ0 this 4).toInt := by rw [ev1]
  refine va_get (D := κ.1) (ci := 3) (v := .int (zI σ0 this 4)) (C := RX3) (T := TX3) (N := 8) hx hb hg inX3 hown hK (hT.o6 (hT.k t_this (by decide))).one 0 rfl rfl 4 (by decide) (hg _ k126) (fun _ h9 => h9) rfl dX3_readSample_1 ?_
  rw [ev1]
  refine lv_iconst (v := 2) hx hb dX3_readSample_4 (by decide) ?_
  refine lv_icmp_eq (tgt := 14) hx hb dX3_readSample_5 (by decide) (fun c9 => ?_) (fun c9 => ?_)
  · have c1 := gi_eq c9
    refine lv_aload_n hx hb dX3_readSample_14 rfl (lv_at hl 0 rfl) ?_
    obtain ⟨v2, ev2⟩ : ∃ zz9 : Int32, zI σ0 this 7 = zz9 := ⟨_, rfl⟩
    have qv2 : v2.toInt = (zI σ0 this 7).toInt := by rw [ev2]
    refine va_get (D := κ.1) (ci := 3) (v := .int (zI σ0 this 7)) (C := RX3) (T := TX3) (N := 8) hx hb hg inX3 hown hK (hT.o6 (hT.k t_this (by decide))).one 0 rfl rfl 7 (by decide) (hg _ k129) (fun _ h9 => h9) rfl dX3_readSample_15 ?_
    rw [ev2]
    refine lv_istore_n (lv' := [(2, .int v2), (0, .ref this), (1, .ref into)]) hx hb dX3_readSample_18 rfl hl (by decide) rfl (fun ls hl => ?_)
    refine lv_aload_n hx hb dX3_readSample_19 rfl (lv_at hl 2 rfl) ?_
    obtain ⟨v3, ev3⟩ : ∃ zz9 : Int32, zI σ0 into 2 = zz9 := ⟨_, rfl⟩
    have qv3 : v3.toInt = (zI σ0 into 2).toInt := by rw [ev3]
    have b4 := (hT.P (hT.k t_into (by decide)) (by decide)).1
    rw [ev3] at b4
    have b4l := b4.1
    have b4h := b4.2
    refine va_get (D := κ.1) (ci := 0) (v := .int (zI σ0 into 2)) (C := RX0) (T := TX0) (N := 7) hx hb hg inX0 hown hK (hT.o5 (hT.k t_into (by decide))).one 0 rfl rfl 2 (by decide) (hg _ k164) (fun _ h9 => h9) rfl dX3_readSample_20 ?_
    rw [ev3]
    refine lv_if_le (tgt := 47) hx hb dX3_readSample_23 (by decide) (fun c9 => ?_) (fun c9 => ?_)
    · have c2 := gi_le c9
      refine lv_aload_n hx hb dX3_readSample_47 rfl (lv_at hl 1 rfl) ?_
      have hTo := hT
      refine tVi (n := 0) (As := []) (rest := []) hx hb hml hown hg hT hK hX (X3_pass l κ σ0 this  (hT.k t_this (by decide)) ) sub_fP_fRd (mwV k697 k699 k17 k85 k700) ⟨rfl, by decide, by decide, by decide +kernel⟩ ⟨(Nat.le_of_ble_eq_true rfl), (Nat.le_of_ble_eq_true rfl)⟩ (hT.o6 (hT.k t_this (by decide))) rfl rfl hl.1 rfl (Nat.le_of_ble_eq_true rfl) dX3_readSample_48 zroom.rf (fun x5 s6 H locs hφ hEs6 hT => ?_)
      have ev3 : zI s6 into 2 = v3 := ((hTo.k t_into (by decide)).eI hEs6 (by decide) rfl).trans ev3
      have f7 := hφ
      refine lv_pop hx hb dX3_readSample_51 rfl ?_
      refine lv_aload_n hx hb dX3_readSample_52 rfl (lv_at hl 1 rfl) ?_
      obtain ⟨v8, ev8⟩ : ∃ zz9 : Int32, zI s6 this 4 = zz9 := ⟨_, rfl⟩
      have qv8 : v8.toInt = (zI s6 this 4).toInt := by rw [ev8]
      refine va_get (D := κ.1) (ci := 3) (v := .int (zI s6 this 4)) (C := RX3) (T := TX3) (N := 8) hx hb hg inX3 hown hK (hT.o6 (hT.k t_this (by decide))).one 0 rfl rfl 4 (by decide) (hg _ k126) (fun _ h9 => h9) rfl dX3_readSample_53 ?_
      rw [ev8]
      refine lv_iconst (v := 4) hx hb dX3_readSample_56 (by decide) ?_
      refine lv_icmp_ne (tgt := 64) hx hb dX3_readSample_57 (by decide) (fun c9 => ?_) (fun c9 => ?_)
      · have c3 := gi_ne c9
        refine lv_iconst (v := 0) hx hb dX3_readSample_64 (by decide) ?_
        refine lv_istore_n (lv' := [(3, .int 0), (2, .int v2), (0, .ref this), (1, .ref into)]) hx hb dX3_readSample_65 rfl hl (by decide) rfl (fun ls hl => ?_)
        refine lv_iload_n hx hb dX3_readSample_66 rfl (lv_at hl 0 rfl) ?_
        refine lv_if_eq (tgt := 75) hx hb dX3_readSample_67 (by decide) (fun _ => ?_) (fun c9 => absurd (by decide) c9)
        refine lv_aload_n hx hb dX3_readSample_75 rfl (lv_at hl 2 rfl) ?_
        refine va_get (D := κ.1) (ci := 3) (v := .int (zI s6 this 4)) (C := RX3) (T := TX3) (N := 8) hx hb hg inX3 hown hK (hT.o6 (hT.k t_this (by decide))).one 0 rfl rfl 4 (by decide) (hg _ k126) (fun _ h9 => h9) rfl dX3_readSample_76 ?_
        rw [ev8]
        refine lv_iconst (v := 2) hx hb dX3_readSample_79 (by decide) ?_
        refine lv_icmp_eq (tgt := 89) hx hb dX3_readSample_80 (by decide) (fun c9 => ?_) (fun c9 => ?_)
        · have c4 := gi_eq c9
          refine lv_aload_n hx hb dX3_readSample_89 rfl (lv_at hl 3 rfl) ?_
          refine lv_iload_n hx hb dX3_readSample_90 rfl (lv_at hl 1 rfl) ?_
          refine lv_iload_n hx hb dX3_readSample_91 rfl (lv_at hl 0 rfl) ?_
          refine lv_if_eq (tgt := 103) hx hb dX3_readSample_92 (by decide) (fun _ => ?_) (fun c9 => absurd (by decide) c9)
          refine lv_aload_n hx hb dX3_readSample_103 rfl (lv_at hl 2 rfl) ?_
          obtain ⟨v9, ev9⟩ : ∃ zz9 : Int32, zI s6 this 7 = zz9 := ⟨_, rfl⟩
          have qv9 : v9.toInt = (zI s6 this 7).toInt := by rw [ev9]
          refine va_get (D := κ.1) (ci := 3) (v := .int (zI s6 this 7)) (C := RX3) (T := TX3) (N := 8) hx hb hg inX3 hown hK (hT.o6 (hT.k t_this (by decide))).one 0 rfl rfl 7 (by decide) (hg _ k129) (fun _ h9 => h9) rfl dX3_readSample_104 ?_
          rw [ev9]
          have qq10 : (zI s6 into 2).toInt = v3.toInt := by rw [ev3]
          have hTo := hT
          refine tVv (n := 2) (As := [.int v2, .int v9]) (rest := []) hx hb hml hown hg hT hK hX (X0_addSample l κ s6 into v2 v9  (hT.k t_into (by decide)) ) sub_fDr_fRd (mwV k812 k329 k330 k86 k331) ⟨rfl, by decide, by decide, by decide +kernel⟩ ⟨(Nat.le_of_ble_eq_true rfl), (Nat.le_of_ble_eq_true rfl)⟩ (hT.o5 (hT.k t_into (by decide))) rfl rfl hl.1 rfl (Nat.le_of_ble_eq_true rfl) dX3_readSample_107 zroom.rf (fun s12 H locs hφ hEs12 hT => ?_)
          have ev8 : zI s12 this 4 = v8 := ((hTo.k t_this (by decide)).eI hEs12 (by decide) rfl).trans ev8
          have ev9 : zI s12 this 7 = v9 := ((hTo.k t_this (by decide)).eI hEs12 (by decide) rfl).trans ev9
          have f13 := hφ
          obtain ⟨v14, ev14⟩ : ∃ zz9 : Int32, zI s12 into 2 = zz9 := ⟨_, rfl⟩
          have qv14 : v14.toInt = (zI s12 into 2).toInt := by rw [ev14]
          have b15 := (hT.P (hT.k t_into (by decide)) (by decide)).1
          rw [ev14] at b15
          have b15l := b15.1
          have b15h := b15.2
          refine lv_aload_n hx hb dX3_readSample_110 rfl (lv_at hl 2 rfl) ?_
          have hTo := hT
          refine tVi (n := 0) (As := []) (rest := []) hx hb hml hown hg hT hK hX (X3_pass l κ s12 this  (hT.k t_this (by decide)) ) sub_fP_fRd (mwV k697 k699 k17 k85 k700) ⟨rfl, by decide, by decide, by decide +kernel⟩ ⟨(Nat.le_of_ble_eq_true rfl), (Nat.le_of_ble_eq_true rfl)⟩ (hT.o6 (hT.k t_this (by decide))) rfl rfl hl.1 rfl (Nat.le_of_ble_eq_true rfl) dX3_readSample_111 zroom.rf (fun x16 s17 H locs hφ hEs17 hT => ?_)
          have ev14 : zI s17 into 2 = v14 := ((hTo.k t_into (by decide)).eI hEs17 (by decide) rfl).trans ev14
          have f18 := hφ
          subst hQ9
          exact t_z hx hb hr f18 hlocks hT ⟨by rw [ev14]; omega, f18⟩ dX3_readSample_114
        · have c5 := gi_ne c9
          refine lv_aload_n hx hb dX3_readSample_83 rfl (lv_at hl 2 rfl) ?_
          refine lv_iconst (v := 1) hx hb dX3_readSample_84 (by decide) ?_
          have hTo := hT
          refine tVi (n := 1) (As := [.int 1]) (rest := []) hx hb hml hown hg hT hK hX (X3_isWrong l κ s6 this 1  (hT.k t_this (by decide)) ) sub_fPe_fRd (mwV k779 k781 k23 k85 k782) ⟨rfl, by decide, by decide, by decide +kernel⟩ ⟨(Nat.le_of_ble_eq_true rfl), (Nat.le_of_ble_eq_true rfl)⟩ (hT.o6 (hT.k t_this (by decide))) rfl rfl hl.1 rfl (Nat.le_of_ble_eq_true rfl) dX3_readSample_85 zroom.rf (fun x19 s20 H locs hφ hEs20 hT => ?_)
          have ev3 : zI s20 into 2 = v3 := ((hTo.k t_into (by decide)).eI hEs20 (by decide) rfl).trans ev3
          obtain ⟨f21, f22⟩ := hφ
          subst hQ9
          exact t_z hx hb hr f22 hlocks hT ⟨by rw [ev3]; omega, f22⟩ dX3_readSample_88
      · have c6 := gi_eq c9
        refine lv_iconst (v := 1) hx hb dX3_readSample_60 (by decide) ?_
        refine lv_goto (tgt := 65) hx hb dX3_readSample_61 (by decide) ?_
        refine lv_istore_n (lv' := [(3, .int 1), (2, .int v2), (0, .ref this), (1, .ref into)]) hx hb dX3_readSample_65 rfl hl (by decide) rfl (fun ls hl => ?_)
        refine lv_iload_n hx hb dX3_readSample_66 rfl (lv_at hl 0 rfl) ?_
        refine lv_if_eq (tgt := 75) hx hb dX3_readSample_67 (by decide) (fun c9 => absurd c9 (by decide)) (fun _ => ?_)
        refine lv_aload_n hx hb dX3_readSample_70 rfl (lv_at hl 2 rfl) ?_
        have hTo := hT
        refine tVi (n := 0) (As := []) (rest := []) hx hb hml hown hg hT hK hX (X3_pass l κ s6 this  (hT.k t_this (by decide)) ) sub_fP_fRd (mwV k697 k699 k17 k85 k700) ⟨rfl, by decide, by decide, by decide +kernel⟩ ⟨(Nat.le_of_ble_eq_true rfl), (Nat.le_of_ble_eq_true rfl)⟩ (hT.o6 (hT.k t_this (by decide))) rfl rfl hl.1 rfl (Nat.le_of_ble_eq_true rfl) dX3_readSample_71 zroom.rf (fun x23 s24 H locs hφ hEs24 hT => ?_)
        have ev3 : zI s24 into 2 = v3 := ((hTo.k t_into (by decide)).eI hEs24 (by decide) rfl).trans ev3
        have f25 := hφ
        refine lv_pop hx hb dX3_readSample_74 rfl ?_
        refine lv_aload_n hx hb dX3_readSample_75 rfl (lv_at hl 2 rfl) ?_
        obtain ⟨v26, ev26⟩ : ∃ zz9 : Int32, zI s24 this 4 = zz9 := ⟨_, rfl⟩
        have qv26 : v26.toInt = (zI s24 this 4).toInt := by rw [ev26]
        refine va_get (D := κ.1) (ci := 3) (v := .int (zI s24 this 4)) (C := RX3) (T := TX3) (N := 8) hx hb hg inX3 hown hK (hT.o6 (hT.k t_this (by decide))).one 0 rfl rfl 4 (by decide) (hg _ k126) (fun _ h9 => h9) rfl dX3_readSample_76 ?_
        rw [ev26]
        refine lv_iconst (v := 2) hx hb dX3_readSample_79 (by decide) ?_
        refine lv_icmp_eq (tgt := 89) hx hb dX3_readSample_80 (by decide) (fun c9 => ?_) (fun c9 => ?_)
        · have c7 := gi_eq c9
          refine lv_aload_n hx hb dX3_readSample_89 rfl (lv_at hl 3 rfl) ?_
          refine lv_iload_n hx hb dX3_readSample_90 rfl (lv_at hl 1 rfl) ?_
          refine lv_iload_n hx hb dX3_readSample_91 rfl (lv_at hl 0 rfl) ?_
          refine lv_if_eq (tgt := 103) hx hb dX3_readSample_92 (by decide) (fun c9 => absurd c9 (by decide)) (fun _ => ?_)
          refine lv_aload_n hx hb dX3_readSample_95 rfl (lv_at hl 2 rfl) ?_
          obtain ⟨v27, ev27⟩ : ∃ zz9 : Int32, zI s24 this 7 = zz9 := ⟨_, rfl⟩
          have qv27 : v27.toInt = (zI s24 this 7).toInt := by rw [ev27]
          refine va_get (D := κ.1) (ci := 3) (v := .int (zI s24 this 7)) (C := RX3) (T := TX3) (N := 8) hx hb hg inX3 hown hK (hT.o6 (hT.k t_this (by decide))).one 0 rfl rfl 7 (by decide) (hg _ k129) (fun _ h9 => h9) rfl dX3_readSample_96 ?_
          rw [ev27]
          refine lv_ineg hx hb dX3_readSample_99 ?_
          refine lv_topi (fun t28 ht28 => ?_)
          refine lv_goto (tgt := 107) hx hb dX3_readSample_100 (by decide) ?_
          have qq29 : (zI s24 into 2).toInt = v3.toInt := by rw [ev3]
          have hTo := hT
          refine tVv (n := 2) (As := [.int v2, .int t28]) (rest := []) hx hb hml hown hg hT hK hX (X0_addSample l κ s24 into v2 t28  (hT.k t_into (by decide)) ) sub_fDr_fRd (mwV k812 k329 k330 k86 k331) ⟨rfl, by decide, by decide, by decide +kernel⟩ ⟨(Nat.le_of_ble_eq_true rfl), (Nat.le_of_ble_eq_true rfl)⟩ (hT.o5 (hT.k t_into (by decide))) rfl rfl hl.1 rfl (Nat.le_of_ble_eq_true rfl) dX3_readSample_107 zroom.rf (fun s31 H locs hφ hEs31 hT => ?_)
          have ev26 : zI s31 this 4 = v26 := ((hTo.k t_this (by decide)).eI hEs31 (by decide) rfl).trans ev26
          have ev27 : zI s31 this 7 = v27 := ((hTo.k t_this (by decide)).eI hEs31 (by decide) rfl).trans ev27
          have f32 := hφ
          obtain ⟨v33, ev33⟩ : ∃ zz9 : Int32, zI s31 into 2 = zz9 := ⟨_, rfl⟩
          have qv33 : v33.toInt = (zI s31 into 2).toInt := by rw [ev33]
          have b34 := (hT.P (hT.k t_into (by decide)) (by decide)).1
          rw [ev33] at b34
          have b34l := b34.1
          have b34h := b34.2
          refine lv_aload_n hx hb dX3_readSample_110 rfl (lv_at hl 2 rfl) ?_
          have hTo := hT
          refine tVi (n := 0) (As := []) (rest := []) hx hb hml hown hg hT hK hX (X3_pass l κ s31 this  (hT.k t_this (by decide)) ) sub_fP_fRd (mwV k697 k699 k17 k85 k700) ⟨rfl, by decide, by decide, by decide +kernel⟩ ⟨(Nat.le_of_ble_eq_true rfl), (Nat.le_of_ble_eq_true rfl)⟩ (hT.o6 (hT.k t_this (by decide))) rfl rfl hl.1 rfl (Nat.le_of_ble_eq_true rfl) dX3_readSample_111 zroom.rf (fun x35 s36 H locs hφ hEs36 hT => ?_)
          have ev33 : zI s36 into 2 = v33 := ((hTo.k t_into (by decide)).eI hEs36 (by decide) rfl).trans ev33
          have f37 := hφ
          subst hQ9
          exact t_z hx hb hr f37 hlocks hT ⟨by rw [ev33]; omega, f37⟩ dX3_readSample_114
        · have c8 := gi_ne c9
          refine lv_aload_n hx hb dX3_readSample_83 rfl (lv_at hl 2 rfl) ?_
          refine lv_iconst (v := 1) hx hb dX3_readSample_84 (by decide) ?_
          have hTo := hT
          refine tVi (n := 1) (As := [.int 1]) (rest := []) hx hb hml hown hg hT hK hX (X3_isWrong l κ s24 this 1  (hT.k t_this (by decide)) ) sub_fPe_fRd (mwV k779 k781 k23 k85 k782) ⟨rfl, by decide, by decide, by decide +kernel⟩ ⟨(Nat.le_of_ble_eq_true rfl), (Nat.le_of_ble_eq_true rfl)⟩ (hT.o6 (hT.k t_this (by decide))) rfl rfl hl.1 rfl (Nat.le_of_ble_eq_true rfl) dX3_readSample_85 zroom.rf (fun x38 s39 H locs hφ hEs39 hT => ?_)
          have ev3 : zI s39 into 2 = v3 := ((hTo.k t_into (by decide)).eI hEs39 (by decide) rfl).trans ev3
          obtain ⟨f40, f41⟩ := hφ
          subst hQ9
          exact t_z hx hb hr f41 hlocks hT ⟨by rw [ev3]; omega, f41⟩ dX3_readSample_88
    · have c9 := gi_nle c9
      refine lv_iload_n hx hb dX3_readSample_26 rfl (lv_at hl 0 rfl) ?_
      refine lv_aload_n hx hb dX3_readSample_27 rfl (lv_at hl 2 rfl) ?_
      obtain ⟨r42, er42⟩ : ∃ z, kR κ into 0 = z := ⟨_, rfl⟩
      have tr42 : zk σ0 r42 17 := by rw [← er42]; exact hT0.ref t_into (by decide) (by decide) (by decide)
      refine va_get (D := κ.1) (ci := 0) (v := .ref (kR κ into 0)) (C := RX0) (T := TX0) (N := 7) hx hb hg inX0 hown hK (hT.o5 (hT.k t_into (by decide))).one 0 rfl rfl 0 (by decide) (hg _ k156) (fun _ h9 => h9) rfl dX3_readSample_28 ?_
      rw [er42]
      refine lv_aload_n hx hb dX3_readSample_31 rfl (lv_at hl 2 rfl) ?_
      refine va_get (D := κ.1) (ci := 0) (v := .int (zI σ0 into 2)) (C := RX0) (T := TX0) (N := 7) hx hb hg inX0 hown hK (hT.o5 (hT.k t_into (by decide))).one 0 rfl rfl 2 (by decide) (hg _ k164) (fun _ h9 => h9) rfl dX3_readSample_32 ?_
      rw [ev3]
      refine lv_iconst (v := 1) hx hb dX3_readSample_35 (by decide) ?_
      refine lv_isub hx hb dX3_readSample_36 ?_
      first | refine g_sub (by omega) (by omega) (fun t43 ht43 => ?_) | refine lv_topi (fun t43 ht43 => ?_)
      refine va_iald hx hb hK (hT.o17 (hT.k tr42 (by decide))).one 0 0 rfl rfl (g_in (by omega) (by omega)) dX3_readSample_37 ?_
      refine lv_topi (fun t44 ht44 => ?_)
      refine lv_icmp_gt (tgt := 47) hx hb dX3_readSample_38 (by decide) (fun c9 => ?_) (fun c9 => ?_)
      · have c10 := gi_lt c9
        refine lv_aload_n hx hb dX3_readSample_47 rfl (lv_at hl 1 rfl) ?_
        have hTo := hT
        refine tVi (n := 0) (As := []) (rest := []) hx hb hml hown hg hT hK hX (X3_pass l κ σ0 this  (hT.k t_this (by decide)) ) sub_fP_fRd (mwV k697 k699 k17 k85 k700) ⟨rfl, by decide, by decide, by decide +kernel⟩ ⟨(Nat.le_of_ble_eq_true rfl), (Nat.le_of_ble_eq_true rfl)⟩ (hT.o6 (hT.k t_this (by decide))) rfl rfl hl.1 rfl (Nat.le_of_ble_eq_true rfl) dX3_readSample_48 zroom.rf (fun x45 s46 H locs hφ hEs46 hT => ?_)
        have ev3 : zI s46 into 2 = v3 := ((hTo.k t_into (by decide)).eI hEs46 (by decide) rfl).trans ev3
        have f47 := hφ
        refine lv_pop hx hb dX3_readSample_51 rfl ?_
        refine lv_aload_n hx hb dX3_readSample_52 rfl (lv_at hl 1 rfl) ?_
        obtain ⟨v48, ev48⟩ : ∃ zz9 : Int32, zI s46 this 4 = zz9 := ⟨_, rfl⟩
        have qv48 : v48.toInt = (zI s46 this 4).toInt := by rw [ev48]
        refine va_get (D := κ.1) (ci := 3) (v := .int (zI s46 this 4)) (C := RX3) (T := TX3) (N := 8) hx hb hg inX3 hown hK (hT.o6 (hT.k t_this (by decide))).one 0 rfl rfl 4 (by decide) (hg _ k126) (fun _ h9 => h9) rfl dX3_readSample_53 ?_
        rw [ev48]
        refine lv_iconst (v := 4) hx hb dX3_readSample_56 (by decide) ?_
        refine lv_icmp_ne (tgt := 64) hx hb dX3_readSample_57 (by decide) (fun c9 => ?_) (fun c9 => ?_)
        · have c11 := gi_ne c9
          refine lv_iconst (v := 0) hx hb dX3_readSample_64 (by decide) ?_
          refine lv_istore_n (lv' := [(3, .int 0), (2, .int v2), (0, .ref this), (1, .ref into)]) hx hb dX3_readSample_65 rfl hl (by decide) rfl (fun ls hl => ?_)
          refine lv_iload_n hx hb dX3_readSample_66 rfl (lv_at hl 0 rfl) ?_
          refine lv_if_eq (tgt := 75) hx hb dX3_readSample_67 (by decide) (fun _ => ?_) (fun c9 => absurd (by decide) c9)
          refine lv_aload_n hx hb dX3_readSample_75 rfl (lv_at hl 2 rfl) ?_
          refine va_get (D := κ.1) (ci := 3) (v := .int (zI s46 this 4)) (C := RX3) (T := TX3) (N := 8) hx hb hg inX3 hown hK (hT.o6 (hT.k t_this (by decide))).one 0 rfl rfl 4 (by decide) (hg _ k126) (fun _ h9 => h9) rfl dX3_readSample_76 ?_
          rw [ev48]
          refine lv_iconst (v := 2) hx hb dX3_readSample_79 (by decide) ?_
          refine lv_icmp_eq (tgt := 89) hx hb dX3_readSample_80 (by decide) (fun c9 => ?_) (fun c9 => ?_)
          · have c12 := gi_eq c9
            refine lv_aload_n hx hb dX3_readSample_89 rfl (lv_at hl 3 rfl) ?_
            refine lv_iload_n hx hb dX3_readSample_90 rfl (lv_at hl 1 rfl) ?_
            refine lv_iload_n hx hb dX3_readSample_91 rfl (lv_at hl 0 rfl) ?_
            refine lv_if_eq (tgt := 103) hx hb dX3_readSample_92 (by decide) (fun _ => ?_) (fun c9 => absurd (by decide) c9)
            refine lv_aload_n hx hb dX3_readSample_103 rfl (lv_at hl 2 rfl) ?_
            obtain ⟨v49, ev49⟩ : ∃ zz9 : Int32, zI s46 this 7 = zz9 := ⟨_, rfl⟩
            have qv49 : v49.toInt = (zI s46 this 7).toInt := by rw [ev49]
            refine va_get (D := κ.1) (ci := 3) (v := .int (zI s46 this 7)) (C := RX3) (T := TX3) (N := 8) hx hb hg inX3 hown hK (hT.o6 (hT.k t_this (by decide))).one 0 rfl rfl 7 (by decide) (hg _ k129) (fun _ h9 => h9) rfl dX3_readSample_104 ?_
            rw [ev49]
            have qq50 : (zI s46 into 2).toInt = v3.toInt := by rw [ev3]
            have hTo := hT
            refine tVv (n := 2) (As := [.int v2, .int v49]) (rest := []) hx hb hml hown hg hT hK hX (X0_addSample l κ s46 into v2 v49  (hT.k t_into (by decide)) ) sub_fDr_fRd (mwV k812 k329 k330 k86 k331) ⟨rfl, by decide, by decide, by decide +kernel⟩ ⟨(Nat.le_of_ble_eq_true rfl), (Nat.le_of_ble_eq_true rfl)⟩ (hT.o5 (hT.k t_into (by decide))) rfl rfl hl.1 rfl (Nat.le_of_ble_eq_true rfl) dX3_readSample_107 zroom.rf (fun s52 H locs hφ hEs52 hT => ?_)
            have ev48 : zI s52 this 4 = v48 := ((hTo.k t_this (by decide)).eI hEs52 (by decide) rfl).trans ev48
            have ev49 : zI s52 this 7 = v49 := ((hTo.k t_this (by decide)).eI hEs52 (by decide) rfl).trans ev49
            have f53 := hφ
            obtain ⟨v54, ev54⟩ : ∃ zz9 : Int32, zI s52 into 2 = zz9 := ⟨_, rfl⟩
            have qv54 : v54.toInt = (zI s52 into 2).toInt := by rw [ev54]
            have b55 := (hT.P (hT.k t_into (by decide)) (by decide)).1
            rw [ev54] at b55
            have b55l := b55.1
            have b55h := b55.2
            refine lv_aload_n hx hb dX3_readSample_110 rfl (lv_at hl 2 rfl) ?_
            have hTo := hT
            refine tVi (n := 0) (As := []) (rest := []) hx hb hml hown hg hT hK hX (X3_pass l κ s52 this  (hT.k t_this (by decide)) ) sub_fP_fRd (mwV k697 k699 k17 k85 k700) ⟨rfl, by decide, by decide, by decide +kernel⟩ ⟨(Nat.le_of_ble_eq_true rfl), (Nat.le_of_ble_eq_true rfl)⟩ (hT.o6 (hT.k t_this (by decide))) rfl rfl hl.1 rfl (Nat.le_of_ble_eq_true rfl) dX3_readSample_111 zroom.rf (fun x56 s57 H locs hφ hEs57 hT => ?_)
            have ev54 : zI s57 into 2 = v54 := ((hTo.k t_into (by decide)).eI hEs57 (by decide) rfl).trans ev54
            have f58 := hφ
            subst hQ9
            exact t_z hx hb hr f58 hlocks hT ⟨by rw [ev54]; omega, f58⟩ dX3_readSample_114
          · have c13 := gi_ne c9
            refine lv_aload_n hx hb dX3_readSample_83 rfl (lv_at hl 2 rfl) ?_
            refine lv_iconst (v := 1) hx hb dX3_readSample_84 (by decide) ?_
            have hTo := hT
            refine tVi (n := 1) (As := [.int 1]) (rest := []) hx hb hml hown hg hT hK hX (X3_isWrong l κ s46 this 1  (hT.k t_this (by decide)) ) sub_fPe_fRd (mwV k779 k781 k23 k85 k782) ⟨rfl, by decide, by decide, by decide +kernel⟩ ⟨(Nat.le_of_ble_eq_true rfl), (Nat.le_of_ble_eq_true rfl)⟩ (hT.o6 (hT.k t_this (by decide))) rfl rfl hl.1 rfl (Nat.le_of_ble_eq_true rfl) dX3_readSample_85 zroom.rf (fun x59 s60 H locs hφ hEs60 hT => ?_)
            have ev3 : zI s60 into 2 = v3 := ((hTo.k t_into (by decide)).eI hEs60 (by decide) rfl).trans ev3
            obtain ⟨f61, f62⟩ := hφ
            subst hQ9
            exact t_z hx hb hr f62 hlocks hT ⟨by rw [ev3]; omega, f62⟩ dX3_readSample_88
        · have c14 := gi_eq c9
          refine lv_iconst (v := 1) hx hb dX3_readSample_60 (by decide) ?_
          refine lv_goto (tgt := 65) hx hb dX3_readSample_61 (by decide) ?_
          refine lv_istore_n (lv' := [(3, .int 1), (2, .int v2), (0, .ref this), (1, .ref into)]) hx hb dX3_readSample_65 rfl hl (by decide) rfl (fun ls hl => ?_)
          refine lv_iload_n hx hb dX3_readSample_66 rfl (lv_at hl 0 rfl) ?_
          refine lv_if_eq (tgt := 75) hx hb dX3_readSample_67 (by decide) (fun c9 => absurd c9 (by decide)) (fun _ => ?_)
          refine lv_aload_n hx hb dX3_readSample_70 rfl (lv_at hl 2 rfl) ?_
          have hTo := hT
          refine tVi (n := 0) (As := []) (rest := []) hx hb hml hown hg hT hK hX (X3_pass l κ s46 this  (hT.k t_this (by decide)) ) sub_fP_fRd (mwV k697 k699 k17 k85 k700) ⟨rfl, by decide, by decide, by decide +kernel⟩ ⟨(Nat.le_of_ble_eq_true rfl), (Nat.le_of_ble_eq_true rfl)⟩ (hT.o6 (hT.k t_this (by decide))) rfl rfl hl.1 rfl (Nat.le_of_ble_eq_true rfl) dX3_readSample_71 zroom.rf (fun x63 s64 H locs hφ hEs64 hT => ?_)
          have ev3 : zI s64 into 2 = v3 := ((hTo.k t_into (by decide)).eI hEs64 (by decide) rfl).trans ev3
          have f65 := hφ
          refine lv_pop hx hb dX3_readSample_74 rfl ?_
          refine lv_aload_n hx hb dX3_readSample_75 rfl (lv_at hl 2 rfl) ?_
          obtain ⟨v66, ev66⟩ : ∃ zz9 : Int32, zI s64 this 4 = zz9 := ⟨_, rfl⟩
          have qv66 : v66.toInt = (zI s64 this 4).toInt := by rw [ev66]
          refine va_get (D := κ.1) (ci := 3) (v := .int (zI s64 this 4)) (C := RX3) (T := TX3) (N := 8) hx hb hg inX3 hown hK (hT.o6 (hT.k t_this (by decide))).one 0 rfl rfl 4 (by decide) (hg _ k126) (fun _ h9 => h9) rfl dX3_readSample_76 ?_
          rw [ev66]
          refine lv_iconst (v := 2) hx hb dX3_readSample_79 (by decide) ?_
          refine lv_icmp_eq (tgt := 89) hx hb dX3_readSample_80 (by decide) (fun c9 => ?_) (fun c9 => ?_)
          · have c15 := gi_eq c9
            refine lv_aload_n hx hb dX3_readSample_89 rfl (lv_at hl 3 rfl) ?_
            refine lv_iload_n hx hb dX3_readSample_90 rfl (lv_at hl 1 rfl) ?_
            refine lv_iload_n hx hb dX3_readSample_91 rfl (lv_at hl 0 rfl) ?_
            refine lv_if_eq (tgt := 103) hx hb dX3_readSample_92 (by decide) (fun c9 => absurd c9 (by decide)) (fun _ => ?_)
            refine lv_aload_n hx hb dX3_readSample_95 rfl (lv_at hl 2 rfl) ?_
            obtain ⟨v67, ev67⟩ : ∃ zz9 : Int32, zI s64 this 7 = zz9 := ⟨_, rfl⟩
            have qv67 : v67.toInt = (zI s64 this 7).toInt := by rw [ev67]
            refine va_get (D := κ.1) (ci := 3) (v := .int (zI s64 this 7)) (C := RX3) (T := TX3) (N := 8) hx hb hg inX3 hown hK (hT.o6 (hT.k t_this (by decide))).one 0 rfl rfl 7 (by decide) (hg _ k129) (fun _ h9 => h9) rfl dX3_readSample_96 ?_
            rw [ev67]
            refine lv_ineg hx hb dX3_readSample_99 ?_
            refine lv_topi (fun t68 ht68 => ?_)
            refine lv_goto (tgt := 107) hx hb dX3_readSample_100 (by decide) ?_
            have qq69 : (zI s64 into 2).toInt = v3.toInt := by rw [ev3]
            have hTo := hT
            refine tVv (n := 2) (As := [.int v2, .int t68]) (rest := []) hx hb hml hown hg hT hK hX (X0_addSample l κ s64 into v2 t68  (hT.k t_into (by decide)) ) sub_fDr_fRd (mwV k812 k329 k330 k86 k331) ⟨rfl, by decide, by decide, by decide +kernel⟩ ⟨(Nat.le_of_ble_eq_true rfl), (Nat.le_of_ble_eq_true rfl)⟩ (hT.o5 (hT.k t_into (by decide))) rfl rfl hl.1 rfl (Nat.le_of_ble_eq_true rfl) dX3_readSample_107 zroom.rf (fun s71 H locs hφ hEs71 hT => ?_)
            have ev66 : zI s71 this 4 = v66 := ((hTo.k t_this (by decide)).eI hEs71 (by decide) rfl).trans ev66
            have ev67 : zI s71 this 7 = v67 := ((hTo.k t_this (by decide)).eI hEs71 (by decide) rfl).trans ev67
            have f72 := hφ
            obtain ⟨v73, ev73⟩ : ∃ zz9 : Int32, zI s71 into 2 = zz9 := ⟨_, rfl⟩
            have qv73 : v73.toInt = (zI s71 into 2).toInt := by rw [ev73]
            have b74 := (hT.P (hT.k t_into (by decide)) (by decide)).1
            rw [ev73] at b74
            have b74l := b74.1
            have b74h := b74.2
            refine lv_aload_n hx hb dX3_readSample_110 rfl (lv_at hl 2 rfl) ?_
            have hTo := hT
            refine tVi (n := 0) (As := []) (rest := []) hx hb hml hown hg hT hK hX (X3_pass l κ s71 this  (hT.k t_this (by decide)) ) sub_fP_fRd (mwV k697 k699 k17 k85 k700) ⟨rfl, by decide, by decide, by decide +kernel⟩ ⟨(Nat.le_of_ble_eq_true rfl), (Nat.le_of_ble_eq_true rfl)⟩ (hT.o6 (hT.k t_this (by decide))) rfl rfl hl.1 rfl (Nat.le_of_ble_eq_true rfl) dX3_readSample_111 zroom.rf (fun x75 s76 H locs hφ hEs76 hT => ?_)
            have ev73 : zI s76 into 2 = v73 := ((hTo.k t_into (by decide)).eI hEs76 (by decide) rfl).trans ev73
            have f77 := hφ
            subst hQ9
            exact t_z hx hb hr f77 hlocks hT ⟨by rw [ev73]; omega, f77⟩ dX3_readSample_114
          · have c16 := gi_ne c9
            refine lv_aload_n hx hb dX3_readSample_83 rfl (lv_at hl 2 rfl) ?_
            refine lv_iconst (v := 1) hx hb dX3_readSample_84 (by decide) ?_
            have hTo := hT
            refine tVi (n := 1) (As := [.int 1]) (rest := []) hx hb hml hown hg hT hK hX (X3_isWrong l κ s64 this 1  (hT.k t_this (by decide)) ) sub_fPe_fRd (mwV k779 k781 k23 k85 k782) ⟨rfl, by decide, by decide, by decide +kernel⟩ ⟨(Nat.le_of_ble_eq_true rfl), (Nat.le_of_ble_eq_true rfl)⟩ (hT.o6 (hT.k t_this (by decide))) rfl rfl hl.1 rfl (Nat.le_of_ble_eq_true rfl) dX3_readSample_85 zroom.rf (fun x78 s79 H locs hφ hEs79 hT => ?_)
            have ev3 : zI s79 into 2 = v3 := ((hTo.k t_into (by decide)).eI hEs79 (by decide) rfl).trans ev3
            obtain ⟨f80, f81⟩ := hφ
            subst hQ9
            exact t_z hx hb hr f81 hlocks hT ⟨by rw [ev3]; omega, f81⟩ dX3_readSample_88
      · have c17 := gi_nlt c9
        refine lv_aload_n hx hb dX3_readSample_41 rfl (lv_at hl 1 rfl) ?_
        refine lv_iconst (v := 2) hx hb dX3_readSample_42 (by decide) ?_
        have hTo := hT
        refine tVi (n := 1) (As := [.int 2]) (rest := []) hx hb hml hown hg hT hK hX (X3_isWrong l κ σ0 this 2  (hT.k t_this (by decide)) ) sub_fPe_fRd (mwV k779 k781 k23 k85 k782) ⟨rfl, by decide, by decide, by decide +kernel⟩ ⟨(Nat.le_of_ble_eq_true rfl), (Nat.le_of_ble_eq_true rfl)⟩ (hT.o6 (hT.k t_this (by decide))) rfl rfl hl.1 rfl (Nat.le_of_ble_eq_true rfl) dX3_readSample_43 zroom.rf (fun x82 s83 H locs hφ hEs83 hT => ?_)
        have ev3 : zI s83 into 2 = v3 := ((hTo.k t_into (by decide)).eI hEs83 (by decide) rfl).trans ev3
        obtain ⟨f84, f85⟩ := hφ
        subst hQ9
        exact t_z hx hb hr f85 hlocks hT ⟨by rw [ev3]; omega, f85⟩ dX3_readSample_46
  · have c18 := gi_ne c9
    refine lv_aload_n hx hb dX3_readSample_8 rfl (lv_at hl 0 rfl) ?_
    refine lv_iconst (v := 1) hx hb dX3_readSample_9 (by decide) ?_
    have hTo := hT
    refine tVi (n := 1) (As := [.int 1]) (rest := []) hx hb hml hown hg hT hK hX (X3_isWrong l κ σ0 this 1  (hT.k t_this (by decide)) ) sub_fPe_fRd (mwV k779 k781 k23 k85 k782) ⟨rfl, by decide, by decide, by decide +kernel⟩ ⟨(Nat.le_of_ble_eq_true rfl), (Nat.le_of_ble_eq_true rfl)⟩ (hT.o6 (hT.k t_this (by decide))) rfl rfl hl.1 rfl (Nat.le_of_ble_eq_true rfl) dX3_readSample_10 zroom.rf (fun x86 s87 H locs hφ hEs87 hT => ?_)
    obtain ⟨f88, f89⟩ := hφ
    obtain ⟨v90, ev90⟩ : ∃ zz9 : Int32, zI s87 into 2 = zz9 := ⟨_, rfl⟩
    have qv90 : v90.toInt = (zI s87 into 2).toInt := by rw [ev90]
    have b91 := (hT.P (hT.k t_into (by decide)) (by decide)).1
    rw [ev90] at b91
    have b91l := b91.1
    have b91h := b91.2
    subst hQ9
    exact t_z hx hb hr f89 hlocks hT ⟨by rw [ev90]; omega, f89⟩ dX3_readSample_13
set_option maxHeartbeats 4000000 in
set_option maxRecDepth 100000 in
theorem X3_readSamples (l : Launch) (κ : Kt) (σ0 : Gh) (this : Nat) (into : Nat) (t_this : zk σ0 this 6) (t_into : zk σ0 into 5) : TC l yX3_readSamples cX3_readSamples 3 (some .boolean) 5 107 [.ref this, .ref into] κ σ0 (tqi κ fRd σ0 (fun (r : Int32) (τ : Gh) => (r.toInt = 0 ∨ 2 ≤ (zI τ into 2).toInt) ∧ (isB r))) := by
  refine TC.of fRd (by decide +kernel) (Nat.le_of_ble_eq_true rfl) ?_
  intro p e s m below meth c ls hcs hK hX hT hl
  obtain ⟨hx, hb, hr, hml, hown, hg, hlocks, hin⟩ := hcs
  have hown : s.vm.findClass RX3 = some m.cls := hown
  have hl : lv_has ls 3 [(0, .ref this), (1, .ref into)] := hl
  have hT0 := hT
  have n0 : (0 : Int32).toInt = 0 := by decide
  have n1 : (1 : Int32).toInt = 1 := by decide
  have n2 : (2 : Int32).toInt = 2 := by decide
  have n4 : (4 : Int32).toInt = 4 := by decide
  have n48 : (48 : Int32).toInt = 48 := by decide
  generalize hQ9 : tQ _ _ _ _ _ _ = Q9
  refine lv_iconst (v := 0) hx hb dX3_readSamples_0 (by decide) ?_
  refine lv_istore_n (lv' := [(2, .int 0), (0, .ref this), (1, .ref into)]) hx hb dX3_readSamples_1 rfl hl (by decide) rfl (fun ls hl => ?_)
  have loop2 : ∀ (n9 : Nat) (j : Int32) (u : Int32) (H : Heap) (locs : List Loc) (sg : Gh) (ls : Array Slot), TS κ fRd σ0 sg s H locs → (zI sg into 2 = u) → (0 ≤ j.toInt) → (j.toInt ≤ u.toInt) → (u.toInt ≤ 48) → lv_has ls 3 [(2, .int j), (0, .ref this), (1, .ref into)] → (49 - j.toInt) < n9 → tW p l e 5 107 κ s m #[.ref this, .ref into] below meth c H locs Q9 (F0 m 2 ls []) := by
    intro n9
    induction n9 with
    | zero =>
      intro j u H locs sg ls hT kinto_2 q1 q2 q3 hl hm9
      exfalso
      omega
    | succ n9 ih9 =>
      have ih2 := ih9
      clear ih9
      intro j u H locs s1 ls hT kinto_2 q1 q2 q3 hl hm9
      have b2 := (hT.P (hT.k t_into (by decide)) (by decide)).1
      rw [kinto_2] at b2
      have b2l := b2.1
      have b2h := b2.2
      refine lv_iload_n hx hb dX3_readSamples_2 rfl (lv_at hl 0 rfl) ?_
      refine lv_bipush (v := 48) hx hb dX3_readSamples_3 (by decide) ?_
      refine lv_icmp_gt (tgt := 77) hx hb dX3_readSamples_5 (by decide) (fun c9 => ?_) (fun c9 => ?_)
      · have c1 := gi_lt c9
        refine lv_iconst (v := 1) hx hb dX3_readSamples_77 (by decide) ?_
        subst hQ9
        exact t_z hx hb hr isB1 hlocks hT ⟨by rw [kinto_2]; omega, isB1⟩ dX3_readSamples_78
      · have c2 := gi_nlt c9
        refine lv_aload_n hx hb dX3_readSamples_8 rfl (lv_at hl 1 rfl) ?_
        obtain ⟨v3, ev3⟩ : ∃ zz9 : Int32, zI s1 this 4 = zz9 := ⟨_, rfl⟩
        have qv3 : v3.toInt = (zI s1 this 4).toInt := by rw [ev3]
        refine va_get (D := κ.1) (ci := 3) (v := .int (zI s1 this 4)) (C := RX3) (T := TX3) (N := 8) hx hb hg inX3 hown hK (hT.o6 (hT.k t_this (by decide))).one 0 rfl rfl 4 (by decide) (hg _ k126) (fun _ h9 => h9) rfl dX3_readSamples_9 ?_
        rw [ev3]
        refine lv_if_ne (tgt := 22) hx hb dX3_readSamples_12 (by decide) (fun c9 => ?_) (fun c9 => ?_)
        · have c3 := gi_ne c9
          refine lv_aload_n hx hb dX3_readSamples_22 rfl (lv_at hl 1 rfl) ?_
          refine va_ldcS hx hb hown (hX.2.2.1 12 (by decide)) dX3_readSamples_23 ?_
          have hTo := hT
          refine tVi (n := 1) (As := [.ref (kK κ 12)]) (rest := []) hx hb hml hown hg hT hK hX (X3_isWord l κ s1 this 12  (hT.k t_this (by decide)) (by decide) ) sub_fE_fRd (mwV k724 k726 k22 k85 k727) ⟨rfl, by decide, by decide, by decide +kernel⟩ ⟨(Nat.le_of_ble_eq_true rfl), (Nat.le_of_ble_eq_true rfl)⟩ (hT.o6 (hT.k t_this (by decide))) rfl rfl hl.1 rfl (Nat.le_of_ble_eq_true rfl) dX3_readSamples_25 zroom.rf (fun x4 s5 H locs hφ hEs5 hT => ?_)
          have kinto_2 : zI s5 into 2 = u := ((hTo.k t_into (by decide)).eI hEs5 (by decide) rfl).trans kinto_2
          have ev3 : zI s5 this 4 = v3 := ((hTo.k t_this (by decide)).eI hEs5 (by decide) rfl).trans ev3
          have f6 := hφ
          refine lv_if_ne (tgt := 37) hx hb dX3_readSamples_28 (by decide) (fun c9 => ?_) (fun c9 => ?_)
          · have c4 := gi_ne c9
            refine lv_iload_n hx hb dX3_readSamples_37 rfl (lv_at hl 0 rfl) ?_
            refine lv_bipush (v := 48) hx hb dX3_readSamples_38 (by decide) ?_
            refine lv_icmp_ne (tgt := 49) hx hb dX3_readSamples_40 (by decide) (fun c9 => ?_) (fun c9 => ?_)
            · have c5 := gi_ne c9
              refine lv_aload_n hx hb dX3_readSamples_49 rfl (lv_at hl 1 rfl) ?_
              have hTo := hT
              refine tVi (n := 0) (As := []) (rest := []) hx hb hml hown hg hT hK hX (X3_pass l κ s5 this  (hT.k t_this (by decide)) ) sub_fP_fRd (mwV k697 k699 k17 k85 k700) ⟨rfl, by decide, by decide, by decide +kernel⟩ ⟨(Nat.le_of_ble_eq_true rfl), (Nat.le_of_ble_eq_true rfl)⟩ (hT.o6 (hT.k t_this (by decide))) rfl rfl hl.1 rfl (Nat.le_of_ble_eq_true rfl) dX3_readSamples_50 zroom.rf (fun x7 s8 H locs hφ hEs8 hT => ?_)
              have kinto_2 : zI s8 into 2 = u := ((hTo.k t_into (by decide)).eI hEs8 (by decide) rfl).trans kinto_2
              have f9 := hφ
              refine lv_pop hx hb dX3_readSamples_53 rfl ?_
              refine lv_aload_n hx hb dX3_readSamples_54 rfl (lv_at hl 1 rfl) ?_
              refine lv_aload_n hx hb dX3_readSamples_55 rfl (lv_at hl 2 rfl) ?_
              have qq10 : (zI s8 into 2).toInt = u.toInt := by rw [kinto_2]
              have hTo := hT
              refine tVi (n := 1) (As := [.ref into]) (rest := []) hx hb hml hown hg hT hK hX (X3_readSample l κ s8 this into  (hT.k t_this (by decide)) (hT.k t_into (by decide)) ) (fun _ _ h => h) (mwV k808 k810 k28 k85 k811) ⟨rfl, by decide, by decide, by decide +kernel⟩ ⟨(Nat.le_of_ble_eq_true rfl), (Nat.le_of_ble_eq_true rfl)⟩ (hT.o6 (hT.k t_this (by decide))) rfl rfl hl.1 rfl (Nat.le_of_ble_eq_true rfl) dX3_readSamples_56 zroom.rf (fun x11 s12 H locs hφ hEs12 hT => ?_)
              obtain ⟨f13, f14⟩ := hφ
              obtain ⟨v15, ev15⟩ : ∃ zz9 : Int32, zI s12 into 2 = zz9 := ⟨_, rfl⟩
              have qv15 : v15.toInt = (zI s12 into 2).toInt := by rw [ev15]
              have b16 := (hT.P (hT.k t_into (by decide)) (by decide)).1
              rw [ev15] at b16
              have b16l := b16.1
              have b16h := b16.2
              refine lv_if_eq (tgt := 69) hx hb dX3_readSamples_59 (by decide) (fun c9 => ?_) (fun c9 => ?_)
              · have c6 := gi_eq c9
                refine lv_iconst (v := 0) hx hb dX3_readSamples_69 (by decide) ?_
                subst hQ9
                exact t_z hx hb hr isB0 hlocks hT ⟨by rw [ev15]; omega, isB0⟩ dX3_readSamples_70
              · have c7 := gi_ne c9
                refine lv_aload_n hx hb dX3_readSamples_62 rfl (lv_at hl 1 rfl) ?_
                have hTo := hT
                refine tVi (n := 0) (As := []) (rest := []) hx hb hml hown hg hT hK hX (X3_passSemicolon l κ s12 this  (hT.k t_this (by decide)) ) sub_fPe_fRd (mwV k799 k801 k26 k85 k802) ⟨rfl, by decide, by decide, by decide +kernel⟩ ⟨(Nat.le_of_ble_eq_true rfl), (Nat.le_of_ble_eq_true rfl)⟩ (hT.o6 (hT.k t_this (by decide))) rfl rfl hl.1 rfl (Nat.le_of_ble_eq_true rfl) dX3_readSamples_63 zroom.rf (fun x17 s18 H locs hφ hEs18 hT => ?_)
                have ev15 : zI s18 into 2 = v15 := ((hTo.k t_into (by decide)).eI hEs18 (by decide) rfl).trans ev15
                have f19 := hφ
                refine lv_if_ne (tgt := 71) hx hb dX3_readSamples_66 (by decide) (fun c9 => ?_) (fun c9 => ?_)
                · have c8 := gi_ne c9
                  obtain ⟨t20, qt20⟩ : ∃ zz9 : Int32, j + Int32.ofInt 1 = zz9 := ⟨_, rfl⟩
                  refine lv_iinc (v := t20) (lv' := [(2, .int t20), (0, .ref this), (1, .ref into)]) hx hb dX3_readSamples_71 hl (k := 0) rfl qt20 (by decide) rfl (fun ls hl => ?_)
                  have ht20 : t20.toInt = j.toInt + 1 := by rw [← qt20]; exact v_addi rfl (show (Int32.ofInt 1).toInt = 1 from by decide) (by omega) (by omega)
                  refine lv_goto (tgt := 2) hx hb dX3_readSamples_74 (by decide) ?_
                  exact ih2 t20 v15 _ _ _ _ hT ev15 (by omega) (by omega) (by omega) hl (by omega)
                · have c9 := gi_eq c9
                  refine lv_iconst (v := 0) hx hb dX3_readSamples_69 (by decide) ?_
                  subst hQ9
                  exact t_z hx hb hr isB0 hlocks hT ⟨by rw [ev15]; omega, isB0⟩ dX3_readSamples_70
            · have c10 := gi_eq c9
              refine lv_aload_n hx hb dX3_readSamples_43 rfl (lv_at hl 1 rfl) ?_
              refine lv_iconst (v := 4) hx hb dX3_readSamples_44 (by decide) ?_
              have hTo := hT
              refine tVi (n := 1) (As := [.int 4]) (rest := []) hx hb hml hown hg hT hK hX (X3_isWrong l κ s5 this 4  (hT.k t_this (by decide)) ) sub_fPe_fRd (mwV k779 k781 k23 k85 k782) ⟨rfl, by decide, by decide, by decide +kernel⟩ ⟨(Nat.le_of_ble_eq_true rfl), (Nat.le_of_ble_eq_true rfl)⟩ (hT.o6 (hT.k t_this (by decide))) rfl rfl hl.1 rfl (Nat.le_of_ble_eq_true rfl) dX3_readSamples_45 zroom.rf (fun x21 s22 H locs hφ hEs22 hT => ?_)
              have kinto_2 : zI s22 into 2 = u := ((hTo.k t_into (by decide)).eI hEs22 (by decide) rfl).trans kinto_2
              obtain ⟨f23, f24⟩ := hφ
              subst hQ9
              exact t_z hx hb hr f24 hlocks hT ⟨by rw [kinto_2]; omega, f24⟩ dX3_readSamples_48
          · have c11 := gi_eq c9
            refine lv_aload_n hx hb dX3_readSamples_31 rfl (lv_at hl 1 rfl) ?_
            refine lv_iconst (v := 1) hx hb dX3_readSamples_32 (by decide) ?_
            have hTo := hT
            refine tVi (n := 1) (As := [.int 1]) (rest := []) hx hb hml hown hg hT hK hX (X3_isWrong l κ s5 this 1  (hT.k t_this (by decide)) ) sub_fPe_fRd (mwV k779 k781 k23 k85 k782) ⟨rfl, by decide, by decide, by decide +kernel⟩ ⟨(Nat.le_of_ble_eq_true rfl), (Nat.le_of_ble_eq_true rfl)⟩ (hT.o6 (hT.k t_this (by decide))) rfl rfl hl.1 rfl (Nat.le_of_ble_eq_true rfl) dX3_readSamples_33 zroom.rf (fun x25 s26 H locs hφ hEs26 hT => ?_)
            have kinto_2 : zI s26 into 2 = u := ((hTo.k t_into (by decide)).eI hEs26 (by decide) rfl).trans kinto_2
            obtain ⟨f27, f28⟩ := hφ
            subst hQ9
            exact t_z hx hb hr f28 hlocks hT ⟨by rw [kinto_2]; omega, f28⟩ dX3_readSamples_36
        · have c12 := gi_eq c9
          refine lv_iload_n hx hb dX3_readSamples_15 rfl (lv_at hl 0 rfl) ?_
          refine lv_iconst (v := 2) hx hb dX3_readSamples_16 (by decide) ?_
          refine lv_icmp_lt (tgt := 22) hx hb dX3_readSamples_17 (by decide) (fun c9 => ?_) (fun c9 => ?_)
          · have c13 := gi_lt c9
            refine lv_aload_n hx hb dX3_readSamples_22 rfl (lv_at hl 1 rfl) ?_
            refine va_ldcS hx hb hown (hX.2.2.1 12 (by decide)) dX3_readSamples_23 ?_
            have hTo := hT
            refine tVi (n := 1) (As := [.ref (kK κ 12)]) (rest := []) hx hb hml hown hg hT hK hX (X3_isWord l κ s1 this 12  (hT.k t_this (by decide)) (by decide) ) sub_fE_fRd (mwV k724 k726 k22 k85 k727) ⟨rfl, by decide, by decide, by decide +kernel⟩ ⟨(Nat.le_of_ble_eq_true rfl), (Nat.le_of_ble_eq_true rfl)⟩ (hT.o6 (hT.k t_this (by decide))) rfl rfl hl.1 rfl (Nat.le_of_ble_eq_true rfl) dX3_readSamples_25 zroom.rf (fun x29 s30 H locs hφ hEs30 hT => ?_)
            have kinto_2 : zI s30 into 2 = u := ((hTo.k t_into (by decide)).eI hEs30 (by decide) rfl).trans kinto_2
            have ev3 : zI s30 this 4 = v3 := ((hTo.k t_this (by decide)).eI hEs30 (by decide) rfl).trans ev3
            have f31 := hφ
            refine lv_if_ne (tgt := 37) hx hb dX3_readSamples_28 (by decide) (fun c9 => ?_) (fun c9 => ?_)
            · have c14 := gi_ne c9
              refine lv_iload_n hx hb dX3_readSamples_37 rfl (lv_at hl 0 rfl) ?_
              refine lv_bipush (v := 48) hx hb dX3_readSamples_38 (by decide) ?_
              refine lv_icmp_ne (tgt := 49) hx hb dX3_readSamples_40 (by decide) (fun c9 => ?_) (fun c9 => ?_)
              · have c15 := gi_ne c9
                refine lv_aload_n hx hb dX3_readSamples_49 rfl (lv_at hl 1 rfl) ?_
                have hTo := hT
                refine tVi (n := 0) (As := []) (rest := []) hx hb hml hown hg hT hK hX (X3_pass l κ s30 this  (hT.k t_this (by decide)) ) sub_fP_fRd (mwV k697 k699 k17 k85 k700) ⟨rfl, by decide, by decide, by decide +kernel⟩ ⟨(Nat.le_of_ble_eq_true rfl), (Nat.le_of_ble_eq_true rfl)⟩ (hT.o6 (hT.k t_this (by decide))) rfl rfl hl.1 rfl (Nat.le_of_ble_eq_true rfl) dX3_readSamples_50 zroom.rf (fun x32 s33 H locs hφ hEs33 hT => ?_)
                have kinto_2 : zI s33 into 2 = u := ((hTo.k t_into (by decide)).eI hEs33 (by decide) rfl).trans kinto_2
                have f34 := hφ
                refine lv_pop hx hb dX3_readSamples_53 rfl ?_
                refine lv_aload_n hx hb dX3_readSamples_54 rfl (lv_at hl 1 rfl) ?_
                refine lv_aload_n hx hb dX3_readSamples_55 rfl (lv_at hl 2 rfl) ?_
                have qq35 : (zI s33 into 2).toInt = u.toInt := by rw [kinto_2]
                have hTo := hT
                refine tVi (n := 1) (As := [.ref into]) (rest := []) hx hb hml hown hg hT hK hX (X3_readSample l κ s33 this into  (hT.k t_this (by decide)) (hT.k t_into (by decide)) ) (fun _ _ h => h) (mwV k808 k810 k28 k85 k811) ⟨rfl, by decide, by decide, by decide +kernel⟩ ⟨(Nat.le_of_ble_eq_true rfl), (Nat.le_of_ble_eq_true rfl)⟩ (hT.o6 (hT.k t_this (by decide))) rfl rfl hl.1 rfl (Nat.le_of_ble_eq_true rfl) dX3_readSamples_56 zroom.rf (fun x36 s37 H locs hφ hEs37 hT => ?_)
                obtain ⟨f38, f39⟩ := hφ
                obtain ⟨v40, ev40⟩ : ∃ zz9 : Int32, zI s37 into 2 = zz9 := ⟨_, rfl⟩
                have qv40 : v40.toInt = (zI s37 into 2).toInt := by rw [ev40]
                have b41 := (hT.P (hT.k t_into (by decide)) (by decide)).1
                rw [ev40] at b41
                have b41l := b41.1
                have b41h := b41.2
                refine lv_if_eq (tgt := 69) hx hb dX3_readSamples_59 (by decide) (fun c9 => ?_) (fun c9 => ?_)
                · have c16 := gi_eq c9
                  refine lv_iconst (v := 0) hx hb dX3_readSamples_69 (by decide) ?_
                  subst hQ9
                  exact t_z hx hb hr isB0 hlocks hT ⟨by rw [ev40]; omega, isB0⟩ dX3_readSamples_70
                · have c17 := gi_ne c9
                  refine lv_aload_n hx hb dX3_readSamples_62 rfl (lv_at hl 1 rfl) ?_
                  have hTo := hT
                  refine tVi (n := 0) (As := []) (rest := []) hx hb hml hown hg hT hK hX (X3_passSemicolon l κ s37 this  (hT.k t_this (by decide)) ) sub_fPe_fRd (mwV k799 k801 k26 k85 k802) ⟨rfl, by decide, by decide, by decide +kernel⟩ ⟨(Nat.le_of_ble_eq_true rfl), (Nat.le_of_ble_eq_true rfl)⟩ (hT.o6 (hT.k t_this (by decide))) rfl rfl hl.1 rfl (Nat.le_of_ble_eq_true rfl) dX3_readSamples_63 zroom.rf (fun x42 s43 H locs hφ hEs43 hT => ?_)
                  have ev40 : zI s43 into 2 = v40 := ((hTo.k t_into (by decide)).eI hEs43 (by decide) rfl).trans ev40
                  have f44 := hφ
                  refine lv_if_ne (tgt := 71) hx hb dX3_readSamples_66 (by decide) (fun c9 => ?_) (fun c9 => ?_)
                  · have c18 := gi_ne c9
                    obtain ⟨t45, qt45⟩ : ∃ zz9 : Int32, j + Int32.ofInt 1 = zz9 := ⟨_, rfl⟩
                    refine lv_iinc (v := t45) (lv' := [(2, .int t45), (0, .ref this), (1, .ref into)]) hx hb dX3_readSamples_71 hl (k := 0) rfl qt45 (by decide) rfl (fun ls hl => ?_)
                    have ht45 : t45.toInt = j.toInt + 1 := by rw [← qt45]; exact v_addi rfl (show (Int32.ofInt 1).toInt = 1 from by decide) (by omega) (by omega)
                    refine lv_goto (tgt := 2) hx hb dX3_readSamples_74 (by decide) ?_
                    exact ih2 t45 v40 _ _ _ _ hT ev40 (by omega) (by omega) (by omega) hl (by omega)
                  · have c19 := gi_eq c9
                    refine lv_iconst (v := 0) hx hb dX3_readSamples_69 (by decide) ?_
                    subst hQ9
                    exact t_z hx hb hr isB0 hlocks hT ⟨by rw [ev40]; omega, isB0⟩ dX3_readSamples_70
              · have c20 := gi_eq c9
                refine lv_aload_n hx hb dX3_readSamples_43 rfl (lv_at hl 1 rfl) ?_
                refine lv_iconst (v := 4) hx hb dX3_readSamples_44 (by decide) ?_
                have hTo := hT
                refine tVi (n := 1) (As := [.int 4]) (rest := []) hx hb hml hown hg hT hK hX (X3_isWrong l κ s30 this 4  (hT.k t_this (by decide)) ) sub_fPe_fRd (mwV k779 k781 k23 k85 k782) ⟨rfl, by decide, by decide, by decide +kernel⟩ ⟨(Nat.le_of_ble_eq_true rfl), (Nat.le_of_ble_eq_true rfl)⟩ (hT.o6 (hT.k t_this (by decide))) rfl rfl hl.1 rfl (Nat.le_of_ble_eq_true rfl) dX3_readSamples_45 zroom.rf (fun x46 s47 H locs hφ hEs47 hT => ?_)
                have kinto_2 : zI s47 into 2 = u := ((hTo.k t_into (by decide)).eI hEs47 (by decide) rfl).trans kinto_2
                obtain ⟨f48, f49⟩ := hφ
                subst hQ9
                exact t_z hx hb hr f49 hlocks hT ⟨by rw [kinto_2]; omega, f49⟩ dX3_readSamples_48
            · have c21 := gi_eq c9
              refine lv_aload_n hx hb dX3_readSamples_31 rfl (lv_at hl 1 rfl) ?_
              refine lv_iconst (v := 1) hx hb dX3_readSamples_32 (by decide) ?_
              have hTo := hT
              refine tVi (n := 1) (As := [.int 1]) (rest := []) hx hb hml hown hg hT hK hX (X3_isWrong l κ s30 this 1  (hT.k t_this (by decide)) ) sub_fPe_fRd (mwV k779 k781 k23 k85 k782) ⟨rfl, by decide, by decide, by decide +kernel⟩ ⟨(Nat.le_of_ble_eq_true rfl), (Nat.le_of_ble_eq_true rfl)⟩ (hT.o6 (hT.k t_this (by decide))) rfl rfl hl.1 rfl (Nat.le_of_ble_eq_true rfl) dX3_readSamples_33 zroom.rf (fun x50 s51 H locs hφ hEs51 hT => ?_)
              have kinto_2 : zI s51 into 2 = u := ((hTo.k t_into (by decide)).eI hEs51 (by decide) rfl).trans kinto_2
              obtain ⟨f52, f53⟩ := hφ
              subst hQ9
              exact t_z hx hb hr f53 hlocks hT ⟨by rw [kinto_2]; omega, f53⟩ dX3_readSamples_36
          · have c22 := gi_nlt c9
            refine lv_iconst (v := 1) hx hb dX3_readSamples_20 (by decide) ?_
            subst hQ9
            exact t_z hx hb hr isB1 hlocks hT ⟨by rw [kinto_2]; omega, isB1⟩ dX3_readSamples_21
  obtain ⟨v54, ev54⟩ : ∃ zz9 : Int32, zI σ0 into 2 = zz9 := ⟨_, rfl⟩
  have qv54 : v54.toInt = (zI σ0 into 2).toInt := by rw [ev54]
  have b55 := (hT.P (hT.k t_into (by decide)) (by decide)).1
  rw [ev54] at b55
  have b55l := b55.1
  have b55h := b55.2
  exact loop2 ((49 - (0 : Int32).toInt).toNat + 1) 0 v54 _ _ _ _ hT ev54 (by omega) (by omega) (by omega) hl (by omega)
set_option maxHeartbeats 4000000 in
set_option maxRecDepth 100000 in
theorem X3_readInto (l : Launch) (κ : Kt) (σ0 : Gh) (this : Nat) (into : Nat) (t_this : zk σ0 this 6) (t_into : zk σ0 into 5) : TC l yX3_readInto cX3_readInto 2 (some .boolean) 7 153 [.ref this, .ref into] κ σ0 (tqi κ fRd σ0 (fun (r : Int32) (τ : Gh) => (r.toInt = 0 ∨ 2 ≤ (zI τ into 2).toInt) ∧ (isB r))) := by
  refine TC.of fRd (by decide +kernel) (Nat.le_of_ble_eq_true rfl) ?_
  intro p e s m below meth c ls hcs hK hX hT hl
  obtain ⟨hx, hb, hr, hml, hown, hg, hlocks, hin⟩ := hcs
  have hown : s.vm.findClass RX3 = some m.cls := hown
  have hl : lv_has ls 2 [(0, .ref this), (1, .ref into)] := hl
  have hT0 := hT
  have nm1 : ((-1) : Int32).toInt = (-1) := by decide
  have n0 : (0 : Int32).toInt = 0 := by decide
  have n1 : (1 : Int32).toInt = 1 := by decide
  generalize hQ9 : tQ _ _ _ _ _ _ = Q9
  refine lv_aload_n hx hb dX3_readInto_0 rfl (lv_at hl 0 rfl) ?_
  refine lv_iconst (v := 0) hx hb dX3_readInto_1 (by decide) ?_
  have hTo := hT
  refine pf6_2 hx hb hg hown hK hT (hT.k t_this (by decide)) rfl (hg _ k122) dX3_readInto_2 (fun H locs s1 hus1 hT => ?_)
  have e2 : zI s1 this 2 = 0 := zput_at hus1
  refine lv_aload_n hx hb dX3_readInto_5 rfl (lv_at hl 0 rfl) ?_
  refine lv_iconst (v := (-1)) hx hb dX3_readInto_6 (by decide) ?_
  have hTo := hT
  refine pf6_3 hx hb hg hown hK hT (hT.k t_this (by decide)) rfl (hg _ k124) dX3_readInto_7 (fun H locs s3 hus3 hT => ?_)
  have e2 : zI s3 this 2 = 0 := (zput_o hus3 (Or.inr (by decide))).trans e2
  have e4 : zI s3 this 3 = (-1) := zput_at hus3
  refine lv_aload_n hx hb dX3_readInto_10 rfl (lv_at hl 0 rfl) ?_
  refine lv_iconst (v := 0) hx hb dX3_readInto_11 (by decide) ?_
  have hTo := hT
  refine pf6_6 hx hb hg hown hK hT (hT.k t_this (by decide)) rfl ⟨by omega, by omega⟩ (hg _ k128) dX3_readInto_12 (fun H locs s5 hus5 hT => ?_)
  have e2 : zI s5 this 2 = 0 := (zput_o hus5 (Or.inr (by decide))).trans e2
  have e4 : zI s5 this 3 = (-1) := (zput_o hus5 (Or.inr (by decide))).trans e4
  have e6 : zI s5 this 6 = 0 := zput_at hus5
  refine lv_aload_n hx hb dX3_readInto_15 rfl (lv_at hl 1 rfl) ?_
  have hTo := hT
  refine tVv (n := 0) (As := []) (rest := []) hx hb hml hown hg hT hK hX (X0_clear l κ s5 into  (hT.k t_into (by decide)) ) sub_fDr_fRd (mwV k693 k694 k695 k86 k696) ⟨rfl, by decide, by decide, by decide +kernel⟩ ⟨(Nat.le_of_ble_eq_true rfl), (Nat.le_of_ble_eq_true rfl)⟩ (hT.o5 (hT.k t_into (by decide))) rfl rfl hl.1 rfl (Nat.le_of_ble_eq_true rfl) dX3_readInto_16 zroom.rf (fun s8 H locs hφ hEs8 hT => ?_)
  have e2 : zI s8 this 2 = 0 := ((hTo.k t_this (by decide)).eI hEs8 (by decide) rfl).trans e2
  have e4 : zI s8 this 3 = (-1) := ((hTo.k t_this (by decide)).eI hEs8 (by decide) rfl).trans e4
  have e6 : zI s8 this 6 = 0 := ((hTo.k t_this (by decide)).eI hEs8 (by decide) rfl).trans e6
  refine lv_aload_n hx hb dX3_readInto_19 rfl (lv_at hl 0 rfl) ?_
  have hTo := hT
  refine tVi (n := 0) (As := []) (rest := []) hx hb hml hown hg hT hK hX (X3_pass l κ s8 this  (hT.k t_this (by decide)) ) sub_fP_fRd (mwV k697 k699 k17 k85 k700) ⟨rfl, by decide, by decide, by decide +kernel⟩ ⟨(Nat.le_of_ble_eq_true rfl), (Nat.le_of_ble_eq_true rfl)⟩ (hT.o6 (hT.k t_this (by decide))) rfl rfl hl.1 rfl (Nat.le_of_ble_eq_true rfl) dX3_readInto_20 zroom.rf (fun x9 s10 H locs hφ hEs10 hT => ?_)
  have e2 : zI s10 this 2 = 0 := ((hTo.k t_this (by decide)).eI hEs10 (by decide) rfl).trans e2
  have e4 : zI s10 this 3 = (-1) := ((hTo.k t_this (by decide)).eI hEs10 (by decide) rfl).trans e4
  have f11 := hφ
  refine lv_pop hx hb dX3_readInto_23 rfl ?_
  refine lv_aload_n hx hb dX3_readInto_24 rfl (lv_at hl 0 rfl) ?_
  refine lv_aload_n hx hb dX3_readInto_25 rfl (lv_at hl 1 rfl) ?_
  have hTo := hT
  refine tVi (n := 1) (As := [.ref into]) (rest := []) hx hb hml hown hg hT hK hX (X3_readSettings l κ s10 this into  (hT.k t_this (by decide)) (hT.k t_into (by decide)) ) sub_fPs_fRd (mwV k715 k717 k20 k85 k718) ⟨rfl, by decide, by decide, by decide +kernel⟩ ⟨(Nat.le_of_ble_eq_true rfl), (Nat.le_of_ble_eq_true rfl)⟩ (hT.o6 (hT.k t_this (by decide))) rfl rfl hl.1 rfl (Nat.le_of_ble_eq_true rfl) dX3_readInto_26 zroom.rf (fun x12 s13 H locs hφ hEs13 hT => ?_)
  have f14 := hφ
  refine lv_if_eq (tgt := 44) hx hb dX3_readInto_29 (by decide) (fun c9 => ?_) (fun c9 => ?_)
  · have c1 := gi_eq c9
    refine lv_iconst (v := 0) hx hb dX3_readInto_44 (by decide) ?_
    obtain ⟨v15, ev15⟩ : ∃ zz9 : Int32, zI s13 into 2 = zz9 := ⟨_, rfl⟩
    have qv15 : v15.toInt = (zI s13 into 2).toInt := by rw [ev15]
    have b16 := (hT.P (hT.k t_into (by decide)) (by decide)).1
    rw [ev15] at b16
    have b16l := b16.1
    have b16h := b16.2
    subst hQ9
    exact t_z hx hb hr isB0 hlocks hT ⟨by rw [ev15]; omega, isB0⟩ dX3_readInto_45
  · have c2 := gi_ne c9
    refine lv_aload_n hx hb dX3_readInto_32 rfl (lv_at hl 0 rfl) ?_
    refine lv_aload_n hx hb dX3_readInto_33 rfl (lv_at hl 1 rfl) ?_
    obtain ⟨v17, ev17⟩ : ∃ zz9 : Int32, zI s13 into 2 = zz9 := ⟨_, rfl⟩
    have qv17 : v17.toInt = (zI s13 into 2).toInt := by rw [ev17]
    have b18 := (hT.P (hT.k t_into (by decide)) (by decide)).1
    rw [ev17] at b18
    have b18l := b18.1
    have b18h := b18.2
    have qq19 : (zI s13 into 2).toInt = v17.toInt := by rw [ev17]
    have hTo := hT
    refine tVi (n := 1) (As := [.ref into]) (rest := []) hx hb hml hown hg hT hK hX (X3_readSamples l κ s13 this into  (hT.k t_this (by decide)) (hT.k t_into (by decide)) ) (fun _ _ h => h) (mwV k803 k805 k27 k85 k806) ⟨rfl, by decide, by decide, by decide +kernel⟩ ⟨(Nat.le_of_ble_eq_true rfl), (Nat.le_of_ble_eq_true rfl)⟩ (hT.o6 (hT.k t_this (by decide))) rfl rfl hl.1 rfl (Nat.le_of_ble_eq_true rfl) dX3_readInto_34 zroom.rf (fun x20 s21 H locs hφ hEs21 hT => ?_)
    obtain ⟨f22, f23⟩ := hφ
    obtain ⟨v24, ev24⟩ : ∃ zz9 : Int32, zI s21 into 2 = zz9 := ⟨_, rfl⟩
    have qv24 : v24.toInt = (zI s21 into 2).toInt := by rw [ev24]
    have b25 := (hT.P (hT.k t_into (by decide)) (by decide)).1
    rw [ev24] at b25
    have b25l := b25.1
    have b25h := b25.2
    refine lv_if_eq (tgt := 44) hx hb dX3_readInto_37 (by decide) (fun c9 => ?_) (fun c9 => ?_)
    · have c3 := gi_eq c9
      refine lv_iconst (v := 0) hx hb dX3_readInto_44 (by decide) ?_
      subst hQ9
      exact t_z hx hb hr isB0 hlocks hT ⟨by rw [ev24]; omega, isB0⟩ dX3_readInto_45
    · have c4 := gi_ne c9
      refine lv_iconst (v := 1) hx hb dX3_readInto_40 (by decide) ?_
      refine lv_goto (tgt := 45) hx hb dX3_readInto_41 (by decide) ?_
      subst hQ9
      exact t_z hx hb hr isB1 hlocks hT ⟨by rw [ev24]; omega, isB1⟩ dX3_readInto_45

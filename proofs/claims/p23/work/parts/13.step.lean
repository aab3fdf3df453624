/-! Step and Source over any state -/
theorem sub_fW_fSp : ∀ t k, fSp t k = false → fW t k = false := by
  intro t k h
  simp [fW, fSp] at h ⊢ <;> omega
theorem k154 : Cond.fieldLink RX0 9 "LiftingSignal$Source" "position" "[I" ∈ GW := gm 154 (by decide +kernel) (by decide +kernel)
theorem k158 : Cond.fieldLink RX0 15 "LiftingSignal$Source" "original" "[I" ∈ GW := gm 158 (by decide +kernel) (by decide +kernel)
theorem k161 : Cond.fieldLink RX0 18 "LiftingSignal$Source" "count" "I" ∈ GW := gm 161 (by decide +kernel) (by decide +kernel)
theorem k165 : Cond.fieldLink RX0 22 "LiftingSignal$Source" "split" "I" ∈ GW := gm 165 (by decide +kernel) (by decide +kernel)
theorem k168 : Cond.fieldLink RX0 25 "LiftingSignal$Source" "predict" "I" ∈ GW := gm 168 (by decide +kernel) (by decide +kernel)
theorem k171 : Cond.fieldLink RX0 28 "LiftingSignal$Source" "isKeep" "Z" ∈ GW := gm 171 (by decide +kernel) (by decide +kernel)
theorem k174 : Cond.fieldLink RX0 32 "LiftingSignal$Source" "least" "I" ∈ GW := gm 174 (by decide +kernel) (by decide +kernel)
theorem k227 : Cond.fieldLink RX2 16 "LiftingSignal$Step" "sample" "I" ∈ GW := gm 227 (by decide +kernel) (by decide +kernel)
theorem k230 : Cond.fieldLink RX2 20 "LiftingSignal$Step" "left" "I" ∈ GW := gm 230 (by decide +kernel) (by decide +kernel)
theorem k233 : Cond.fieldLink RX2 23 "LiftingSignal$Step" "right" "I" ∈ GW := gm 233 (by decide +kernel) (by decide +kernel)
theorem k236 : Cond.fieldLink RX2 26 "LiftingSignal$Step" "leftWeight" "J" ∈ GW := gm 236 (by decide +kernel) (by decide +kernel)
theorem k238 : Cond.fieldLink RX2 30 "LiftingSignal$Step" "rightWeight" "J" ∈ GW := gm 238 (by decide +kernel) (by decide +kernel)
theorem k240 : Cond.fieldLink RX2 33 "LiftingSignal$Step" "weight" "J" ∈ GW := gm 240 (by decide +kernel) (by decide +kernel)
theorem k243 : Cond.fieldLink RX2 36 "LiftingSignal$Step" "share" "J" ∈ GW := gm 243 (by decide +kernel) (by decide +kernel)
theorem k246 : Cond.fieldLink RX2 39 "LiftingSignal$Step" "predict" "I" ∈ GW := gm 246 (by decide +kernel) (by decide +kernel)
theorem k248 : Cond.fieldLink RX2 42 "LiftingSignal$Step" "isKeep" "Z" ∈ GW := gm 248 (by decide +kernel) (by decide +kernel)
theorem k250 : Cond.fieldLink RX2 10 "LiftingSignal$Step" "detail" "LLiftingSignal$Whole;" ∈ GW := gm 250 (by decide +kernel) (by decide +kernel)
theorem k456 : Cond.instanceMethod yX4_copyFrom ∈ GW := gm 456 (by decide +kernel) (by decide +kernel)
theorem k457 : Cond.selects RX4 yX4_copyFrom yX4_copyFrom ∈ GW := gm 457 (by decide +kernel) (by decide +kernel)
theorem k458 : Cond.code yX4_copyFrom cX4_copyFrom 2 none ∈ GW := gm 458 (by decide +kernel) (by decide +kernel)
theorem k833 : Cond.methodLink RX0 35 arraycopyName ∈ GW := gm 833 (by decide +kernel) (by decide +kernel)
theorem k1132 : Cond.methodLink RX2 46 yX4_copyFrom ∈ GW := gm 1132 (by decide +kernel) (by decide +kernel)
theorem dX0_addSample_0 : decode cX0_addSample 0 = .ok (.aload_n 0, 1) := by decide +kernel
theorem dX0_addSample_1 : decode cX0_addSample 1 = .ok (.getfield 18, 3) := by decide +kernel
theorem dX0_addSample_4 : decode cX0_addSample 4 = .ok (.bipush 48, 2) := by decide +kernel
theorem dX0_addSample_6 : decode cX0_addSample 6 = .ok (.if_icmp .ge 33, 3) := by decide +kernel
theorem dX0_addSample_9 : decode cX0_addSample 9 = .ok (.aload_n 0, 1) := by decide +kernel
theorem dX0_addSample_10 : decode cX0_addSample 10 = .ok (.getfield 9, 3) := by decide +kernel
theorem dX0_addSample_13 : decode cX0_addSample 13 = .ok (.aload_n 0, 1) := by decide +kernel
theorem dX0_addSample_14 : decode cX0_addSample 14 = .ok (.getfield 18, 3) := by decide +kernel
theorem dX0_addSample_17 : decode cX0_addSample 17 = .ok (.iload_n 1, 1) := by decide +kernel
theorem dX0_addSample_18 : decode cX0_addSample 18 = .ok (.iastore, 1) := by decide +kernel
theorem dX0_addSample_19 : decode cX0_addSample 19 = .ok (.aload_n 0, 1) := by decide +kernel
theorem dX0_addSample_20 : decode cX0_addSample 20 = .ok (.getfield 15, 3) := by decide +kernel
theorem dX0_addSample_23 : decode cX0_addSample 23 = .ok (.aload_n 0, 1) := by decide +kernel
theorem dX0_addSample_24 : decode cX0_addSample 24 = .ok (.getfield 18, 3) := by decide +kernel
theorem dX0_addSample_27 : decode cX0_addSample 27 = .ok (.iload_n 2, 1) := by decide +kernel
theorem dX0_addSample_28 : decode cX0_addSample 28 = .ok (.iastore, 1) := by decide +kernel
theorem dX0_addSample_29 : decode cX0_addSample 29 = .ok (.aload_n 0, 1) := by decide +kernel
theorem dX0_addSample_30 : decode cX0_addSample 30 = .ok (.dup, 1) := by decide +kernel
theorem dX0_addSample_31 : decode cX0_addSample 31 = .ok (.getfield 18, 3) := by decide +kernel
theorem dX0_addSample_34 : decode cX0_addSample 34 = .ok (.iconst 1, 1) := by decide +kernel
theorem dX0_addSample_35 : decode cX0_addSample 35 = .ok (.iadd, 1) := by decide +kernel
theorem dX0_addSample_36 : decode cX0_addSample 36 = .ok (.putfield 18, 3) := by decide +kernel
theorem dX0_addSample_39 : decode cX0_addSample 39 = .ok (.return_, 1) := by decide +kernel
theorem dX0_clear_0 : decode cX0_clear 0 = .ok (.aload_n 0, 1) := by decide +kernel
theorem dX0_clear_1 : decode cX0_clear 1 = .ok (.iconst 0, 1) := by decide +kernel
theorem dX0_clear_2 : decode cX0_clear 2 = .ok (.putfield 18, 3) := by decide +kernel
theorem dX0_clear_5 : decode cX0_clear 5 = .ok (.aload_n 0, 1) := by decide +kernel
theorem dX0_clear_6 : decode cX0_clear 6 = .ok (.iconst 0, 1) := by decide +kernel
theorem dX0_clear_7 : decode cX0_clear 7 = .ok (.putfield 22, 3) := by decide +kernel
theorem dX0_clear_10 : decode cX0_clear 10 = .ok (.aload_n 0, 1) := by decide +kernel
theorem dX0_clear_11 : decode cX0_clear 11 = .ok (.iconst 2, 1) := by decide +kernel
theorem dX0_clear_12 : decode cX0_clear 12 = .ok (.putfield 25, 3) := by decide +kernel
theorem dX0_clear_15 : decode cX0_clear 15 = .ok (.aload_n 0, 1) := by decide +kernel
theorem dX0_clear_16 : decode cX0_clear 16 = .ok (.iconst 1, 1) := by decide +kernel
theorem dX0_clear_17 : decode cX0_clear 17 = .ok (.putfield 28, 3) := by decide +kernel
theorem dX0_clear_20 : decode cX0_clear 20 = .ok (.aload_n 0, 1) := by decide +kernel
theorem dX0_clear_21 : decode cX0_clear 21 = .ok (.iconst 2, 1) := by decide +kernel
theorem dX0_clear_22 : decode cX0_clear 22 = .ok (.putfield 32, 3) := by decide +kernel
theorem dX0_clear_25 : decode cX0_clear 25 = .ok (.return_, 1) := by decide +kernel
theorem dX0_copyFrom_0 : decode cX0_copyFrom 0 = .ok (.aload_n 1, 1) := by decide +kernel
theorem dX0_copyFrom_1 : decode cX0_copyFrom 1 = .ok (.getfield 9, 3) := by decide +kernel
theorem dX0_copyFrom_4 : decode cX0_copyFrom 4 = .ok (.iconst 0, 1) := by decide +kernel
theorem dX0_copyFrom_5 : decode cX0_copyFrom 5 = .ok (.aload_n 0, 1) := by decide +kernel
theorem dX0_copyFrom_6 : decode cX0_copyFrom 6 = .ok (.getfield 9, 3) := by decide +kernel
theorem dX0_copyFrom_9 : decode cX0_copyFrom 9 = .ok (.iconst 0, 1) := by decide +kernel
theorem dX0_copyFrom_10 : decode cX0_copyFrom 10 = .ok (.bipush 48, 2) := by decide +kernel
theorem dX0_copyFrom_12 : decode cX0_copyFrom 12 = .ok (.invokestatic 35, 3) := by decide +kernel
theorem dX0_copyFrom_15 : decode cX0_copyFrom 15 = .ok (.aload_n 1, 1) := by decide +kernel
theorem dX0_copyFrom_16 : decode cX0_copyFrom 16 = .ok (.getfield 15, 3) := by decide +kernel
theorem dX0_copyFrom_19 : decode cX0_copyFrom 19 = .ok (.iconst 0, 1) := by decide +kernel
theorem dX0_copyFrom_20 : decode cX0_copyFrom 20 = .ok (.aload_n 0, 1) := by decide +kernel
theorem dX0_copyFrom_21 : decode cX0_copyFrom 21 = .ok (.getfield 15, 3) := by decide +kernel
theorem dX0_copyFrom_24 : decode cX0_copyFrom 24 = .ok (.iconst 0, 1) := by decide +kernel
theorem dX0_copyFrom_25 : decode cX0_copyFrom 25 = .ok (.bipush 48, 2) := by decide +kernel
theorem dX0_copyFrom_27 : decode cX0_copyFrom 27 = .ok (.invokestatic 35, 3) := by decide +kernel
theorem dX0_copyFrom_30 : decode cX0_copyFrom 30 = .ok (.aload_n 0, 1) := by decide +kernel
theorem dX0_copyFrom_31 : decode cX0_copyFrom 31 = .ok (.aload_n 1, 1) := by decide +kernel
theorem dX0_copyFrom_32 : decode cX0_copyFrom 32 = .ok (.getfield 18, 3) := by decide +kernel
theorem dX0_copyFrom_35 : decode cX0_copyFrom 35 = .ok (.putfield 18, 3) := by decide +kernel
theorem dX0_copyFrom_38 : decode cX0_copyFrom 38 = .ok (.aload_n 0, 1) := by decide +kernel
theorem dX0_copyFrom_39 : decode cX0_copyFrom 39 = .ok (.aload_n 1, 1) := by decide +kernel
theorem dX0_copyFrom_40 : decode cX0_copyFrom 40 = .ok (.getfield 22, 3) := by decide +kernel
theorem dX0_copyFrom_43 : decode cX0_copyFrom 43 = .ok (.putfield 22, 3) := by decide +kernel
theorem dX0_copyFrom_46 : decode cX0_copyFrom 46 = .ok (.aload_n 0, 1) := by decide +kernel
theorem dX0_copyFrom_47 : decode cX0_copyFrom 47 = .ok (.aload_n 1, 1) := by decide +kernel
theorem dX0_copyFrom_48 : decode cX0_copyFrom 48 = .ok (.getfield 25, 3) := by decide +kernel
theorem dX0_copyFrom_51 : decode cX0_copyFrom 51 = .ok (.putfield 25, 3) := by decide +kernel
theorem dX0_copyFrom_54 : decode cX0_copyFrom 54 = .ok (.aload_n 0, 1) := by decide +kernel
theorem dX0_copyFrom_55 : decode cX0_copyFrom 55 = .ok (.aload_n 1, 1) := by decide +kernel
theorem dX0_copyFrom_56 : decode cX0_copyFrom 56 = .ok (.getfield 28, 3) := by decide +kernel
theorem dX0_copyFrom_59 : decode cX0_copyFrom 59 = .ok (.putfield 28, 3) := by decide +kernel
theorem dX0_copyFrom_62 : decode cX0_copyFrom 62 = .ok (.aload_n 0, 1) := by decide +kernel
theorem dX0_copyFrom_63 : decode cX0_copyFrom 63 = .ok (.aload_n 1, 1) := by decide +kernel
theorem dX0_copyFrom_64 : decode cX0_copyFrom 64 = .ok (.getfield 32, 3) := by decide +kernel
theorem dX0_copyFrom_67 : decode cX0_copyFrom 67 = .ok (.putfield 32, 3) := by decide +kernel
theorem dX0_copyFrom_70 : decode cX0_copyFrom 70 = .ok (.return_, 1) := by decide +kernel
theorem dX0_firstWeight_0 : decode cX0_firstWeight 0 = .ok (.iload_n 1, 1) := by decide +kernel
theorem dX0_firstWeight_1 : decode cX0_firstWeight 1 = .ok (.ifCond .le 9, 3) := by decide +kernel
theorem dX0_firstWeight_4 : decode cX0_firstWeight 4 = .ok (.iload_n 1, 1) := by decide +kernel
theorem dX0_firstWeight_5 : decode cX0_firstWeight 5 = .ok (.iconst 1, 1) := by decide +kernel
theorem dX0_firstWeight_6 : decode cX0_firstWeight 6 = .ok (.isub, 1) := by decide +kernel
theorem dX0_firstWeight_7 : decode cX0_firstWeight 7 = .ok (.goto 4, 3) := by decide +kernel
theorem dX0_firstWeight_10 : decode cX0_firstWeight 10 = .ok (.iconst 0, 1) := by decide +kernel
theorem dX0_firstWeight_11 : decode cX0_firstWeight 11 = .ok (.istore_n 2, 1) := by decide +kernel
theorem dX0_firstWeight_12 : decode cX0_firstWeight 12 = .ok (.iload_n 1, 1) := by decide +kernel
theorem dX0_firstWeight_13 : decode cX0_firstWeight 13 = .ok (.aload_n 0, 1) := by decide +kernel
theorem dX0_firstWeight_14 : decode cX0_firstWeight 14 = .ok (.getfield 18, 3) := by decide +kernel
theorem dX0_firstWeight_17 : decode cX0_firstWeight 17 = .ok (.iconst 1, 1) := by decide +kernel
theorem dX0_firstWeight_18 : decode cX0_firstWeight 18 = .ok (.isub, 1) := by decide +kernel
theorem dX0_firstWeight_19 : decode cX0_firstWeight 19 = .ok (.if_icmp .ge 9, 3) := by decide +kernel
theorem dX0_firstWeight_22 : decode cX0_firstWeight 22 = .ok (.iload_n 1, 1) := by decide +kernel
theorem dX0_firstWeight_23 : decode cX0_firstWeight 23 = .ok (.iconst 1, 1) := by decide +kernel
theorem dX0_firstWeight_24 : decode cX0_firstWeight 24 = .ok (.iadd, 1) := by decide +kernel
theorem dX0_firstWeight_25 : decode cX0_firstWeight 25 = .ok (.goto 9, 3) := by decide +kernel
theorem dX0_firstWeight_28 : decode cX0_firstWeight 28 = .ok (.aload_n 0, 1) := by decide +kernel
theorem dX0_firstWeight_29 : decode cX0_firstWeight 29 = .ok (.getfield 18, 3) := by decide +kernel
theorem dX0_firstWeight_32 : decode cX0_firstWeight 32 = .ok (.iconst 1, 1) := by decide +kernel
theorem dX0_firstWeight_33 : decode cX0_firstWeight 33 = .ok (.isub, 1) := by decide +kernel
theorem dX0_firstWeight_34 : decode cX0_firstWeight 34 = .ok (.istore_n 3, 1) := by decide +kernel
theorem dX0_firstWeight_35 : decode cX0_firstWeight 35 = .ok (.aload_n 0, 1) := by decide +kernel
theorem dX0_firstWeight_36 : decode cX0_firstWeight 36 = .ok (.getfield 9, 3) := by decide +kernel
theorem dX0_firstWeight_39 : decode cX0_firstWeight 39 = .ok (.iload_n 3, 1) := by decide +kernel
theorem dX0_firstWeight_40 : decode cX0_firstWeight 40 = .ok (.iaload, 1) := by decide +kernel
theorem dX0_firstWeight_41 : decode cX0_firstWeight 41 = .ok (.aload_n 0, 1) := by decide +kernel
theorem dX0_firstWeight_42 : decode cX0_firstWeight 42 = .ok (.getfield 9, 3) := by decide +kernel
theorem dX0_firstWeight_45 : decode cX0_firstWeight 45 = .ok (.iload_n 2, 1) := by decide +kernel
theorem dX0_firstWeight_46 : decode cX0_firstWeight 46 = .ok (.iaload, 1) := by decide +kernel
theorem dX0_firstWeight_47 : decode cX0_firstWeight 47 = .ok (.isub, 1) := by decide +kernel
theorem dX0_firstWeight_48 : decode cX0_firstWeight 48 = .ok (.ireturn, 1) := by decide +kernel
theorem dX2_copyFrom_0 : decode cX2_copyFrom 0 = .ok (.aload_n 0, 1) := by decide +kernel
theorem dX2_copyFrom_1 : decode cX2_copyFrom 1 = .ok (.aload_n 1, 1) := by decide +kernel
theorem dX2_copyFrom_2 : decode cX2_copyFrom 2 = .ok (.getfield 16, 3) := by decide +kernel
theorem dX2_copyFrom_5 : decode cX2_copyFrom 5 = .ok (.putfield 16, 3) := by decide +kernel
theorem dX2_copyFrom_8 : decode cX2_copyFrom 8 = .ok (.aload_n 0, 1) := by decide +kernel
theorem dX2_copyFrom_9 : decode cX2_copyFrom 9 = .ok (.aload_n 1, 1) := by decide +kernel
theorem dX2_copyFrom_10 : decode cX2_copyFrom 10 = .ok (.getfield 20, 3) := by decide +kernel
theorem dX2_copyFrom_13 : decode cX2_copyFrom 13 = .ok (.putfield 20, 3) := by decide +kernel
theorem dX2_copyFrom_16 : decode cX2_copyFrom 16 = .ok (.aload_n 0, 1) := by decide +kernel
theorem dX2_copyFrom_17 : decode cX2_copyFrom 17 = .ok (.aload_n 1, 1) := by decide +kernel
theorem dX2_copyFrom_18 : decode cX2_copyFrom 18 = .ok (.getfield 23, 3) := by decide +kernel
theorem dX2_copyFrom_21 : decode cX2_copyFrom 21 = .ok (.putfield 23, 3) := by decide +kernel
theorem dX2_copyFrom_24 : decode cX2_copyFrom 24 = .ok (.aload_n 0, 1) := by decide +kernel
theorem dX2_copyFrom_25 : decode cX2_copyFrom 25 = .ok (.aload_n 1, 1) := by decide +kernel
theorem dX2_copyFrom_26 : decode cX2_copyFrom 26 = .ok (.getfield 26, 3) := by decide +kernel
theorem dX2_copyFrom_29 : decode cX2_copyFrom 29 = .ok (.putfield 26, 3) := by decide +kernel
theorem dX2_copyFrom_32 : decode cX2_copyFrom 32 = .ok (.aload_n 0, 1) := by decide +kernel
theorem dX2_copyFrom_33 : decode cX2_copyFrom 33 = .ok (.aload_n 1, 1) := by decide +kernel
theorem dX2_copyFrom_34 : decode cX2_copyFrom 34 = .ok (.getfield 30, 3) := by decide +kernel
theorem dX2_copyFrom_37 : decode cX2_copyFrom 37 = .ok (.putfield 30, 3) := by decide +kernel
theorem dX2_copyFrom_40 : decode cX2_copyFrom 40 = .ok (.aload_n 0, 1) := by decide +kernel
theorem dX2_copyFrom_41 : decode cX2_copyFrom 41 = .ok (.aload_n 1, 1) := by decide +kernel
theorem dX2_copyFrom_42 : decode cX2_copyFrom 42 = .ok (.getfield 33, 3) := by decide +kernel
theorem dX2_copyFrom_45 : decode cX2_copyFrom 45 = .ok (.putfield 33, 3) := by decide +kernel
theorem dX2_copyFrom_48 : decode cX2_copyFrom 48 = .ok (.aload_n 0, 1) := by decide +kernel
theorem dX2_copyFrom_49 : decode cX2_copyFrom 49 = .ok (.aload_n 1, 1) := by decide +kernel
theorem dX2_copyFrom_50 : decode cX2_copyFrom 50 = .ok (.getfield 36, 3) := by decide +kernel
theorem dX2_copyFrom_53 : decode cX2_copyFrom 53 = .ok (.putfield 36, 3) := by decide +kernel
theorem dX2_copyFrom_56 : decode cX2_copyFrom 56 = .ok (.aload_n 0, 1) := by decide +kernel
theorem dX2_copyFrom_57 : decode cX2_copyFrom 57 = .ok (.aload_n 1, 1) := by decide +kernel
theorem dX2_copyFrom_58 : decode cX2_copyFrom 58 = .ok (.getfield 39, 3) := by decide +kernel
theorem dX2_copyFrom_61 : decode cX2_copyFrom 61 = .ok (.putfield 39, 3) := by decide +kernel
theorem dX2_copyFrom_64 : decode cX2_copyFrom 64 = .ok (.aload_n 0, 1) := by decide +kernel
theorem dX2_copyFrom_65 : decode cX2_copyFrom 65 = .ok (.aload_n 1, 1) := by decide +kernel
theorem dX2_copyFrom_66 : decode cX2_copyFrom 66 = .ok (.getfield 42, 3) := by decide +kernel
theorem dX2_copyFrom_69 : decode cX2_copyFrom 69 = .ok (.putfield 42, 3) := by decide +kernel
theorem dX2_copyFrom_72 : decode cX2_copyFrom 72 = .ok (.aload_n 0, 1) := by decide +kernel
theorem dX2_copyFrom_73 : decode cX2_copyFrom 73 = .ok (.getfield 10, 3) := by decide +kernel
theorem dX2_copyFrom_76 : decode cX2_copyFrom 76 = .ok (.aload_n 1, 1) := by decide +kernel
theorem dX2_copyFrom_77 : decode cX2_copyFrom 77 = .ok (.getfield 10, 3) := by decide +kernel
theorem dX2_copyFrom_80 : decode cX2_copyFrom 80 = .ok (.invokevirtual 46, 3) := by decide +kernel
theorem dX2_copyFrom_83 : decode cX2_copyFrom 83 = .ok (.return_, 1) := by decide +kernel
theorem dX2_leftWeightAfter_0 : decode cX2_leftWeightAfter 0 = .ok (.aload_n 0, 1) := by decide +kernel
theorem dX2_leftWeightAfter_1 : decode cX2_leftWeightAfter 1 = .ok (.getfield 26, 3) := by decide +kernel
theorem dX2_leftWeightAfter_4 : decode cX2_leftWeightAfter 4 = .ok (.aload_n 0, 1) := by decide +kernel
theorem dX2_leftWeightAfter_5 : decode cX2_leftWeightAfter 5 = .ok (.getfield 36, 3) := by decide +kernel
theorem dX2_leftWeightAfter_8 : decode cX2_leftWeightAfter 8 = .ok (.ladd, 1) := by decide +kernel
theorem dX2_leftWeightAfter_9 : decode cX2_leftWeightAfter 9 = .ok (.lreturn, 1) := by decide +kernel
theorem dX2_rightWeightAfter_0 : decode cX2_rightWeightAfter 0 = .ok (.aload_n 0, 1) := by decide +kernel
theorem dX2_rightWeightAfter_1 : decode cX2_rightWeightAfter 1 = .ok (.getfield 30, 3) := by decide +kernel
theorem dX2_rightWeightAfter_4 : decode cX2_rightWeightAfter 4 = .ok (.aload_n 0, 1) := by decide +kernel
theorem dX2_rightWeightAfter_5 : decode cX2_rightWeightAfter 5 = .ok (.getfield 33, 3) := by decide +kernel
theorem dX2_rightWeightAfter_8 : decode cX2_rightWeightAfter 8 = .ok (.aload_n 0, 1) := by decide +kernel
theorem dX2_rightWeightAfter_9 : decode cX2_rightWeightAfter 9 = .ok (.getfield 36, 3) := by decide +kernel
theorem dX2_rightWeightAfter_12 : decode cX2_rightWeightAfter 12 = .ok (.lsub, 1) := by decide +kernel
theorem dX2_rightWeightAfter_13 : decode cX2_rightWeightAfter 13 = .ok (.ladd, 1) := by decide +kernel
theorem dX2_rightWeightAfter_14 : decode cX2_rightWeightAfter 14 = .ok (.lreturn, 1) := by decide +kernel
set_option maxHeartbeats 4000000 in
set_option maxRecDepth 100000 in
theorem X2_copyFrom (l : Launch) (κ : Kt) (σ0 : Gh) (this : Nat) (o : Nat) (t_this : zk σ0 this 2) (t_o : zk σ0 o 2) : TC l yX2_copyFrom cX2_copyFrom 2 none 3 84 [.ref this, .ref o] κ σ0 (tqv κ fSp σ0 (fun (τ : Gh) => True)) := by
  refine TC.of fSp (by decide +kernel) (Nat.le_of_ble_eq_true rfl) ?_
  intro p e s m below meth c ls hcs hK hX hT hl
  obtain ⟨hx, hb, hr, hml, hown, hg, hlocks, hin⟩ := hcs
  have hown : s.vm.findClass RX2 = some m.cls := hown
  have hl : lv_has ls 2 [(0, .ref this), (1, .ref o)] := hl
  have hT0 := hT
  generalize hQ9 : tQ _ _ _ _ _ _ = Q9
  refine lv_aload_n hx hb dX2_copyFrom_0 rfl (lv_at hl 0 rfl) ?_
  refine lv_aload_n hx hb dX2_copyFrom_1 rfl (lv_at hl 1 rfl) ?_
  obtain ⟨v1, ev1⟩ : ∃ zz9 : Int32, zI σ0 o 0 = zz9 := ⟨_, rfl⟩
  have qv1 : v1.toInt = (zI σ0 o 0).toInt := by rw [ev1]
  have b2 := (hT.P (hT.k t_o (by decide)) (by decide)).1
  rw [ev1] at b2
  have b2l := b2.1
  have b2h := b2.2
  refine va_get (D := κ.1) (ci := 2) (v := .int (zI σ0 o 0)) (C := RX2) (T := TX2) (N := 10) hx hb hg inX2 hown hK (hT.o2 (hT.k t_o (by decide))).one 0 rfl rfl 0 (by decide) (hg _ k227) (fun _ h9 => h9) rfl dX2_copyFrom_2 ?_
  rw [ev1]
  have hTo := hT
  refine pf2_0 hx hb hg hown hK hT (hT.k t_this (by decide)) rfl ⟨by omega, by omega⟩ (hg _ k227) dX2_copyFrom_5 (fun H locs s3 hus3 hT => ?_)
  have e4 : zI s3 this 0 = v1 := zput_at hus3
  refine lv_aload_n hx hb dX2_copyFrom_8 rfl (lv_at hl 0 rfl) ?_
  refine lv_aload_n hx hb dX2_copyFrom_9 rfl (lv_at hl 1 rfl) ?_
  obtain ⟨v5, ev5⟩ : ∃ zz9 : Int32, zI s3 o 1 = zz9 := ⟨_, rfl⟩
  have qv5 : v5.toInt = (zI s3 o 1).toInt := by rw [ev5]
  have b6 := (hT.P (hT.k t_o (by decide)) (by decide)).2.1
  rw [ev5] at b6
  have b6l := b6.1
  have b6h := b6.2
  refine va_get (D := κ.1) (ci := 2) (v := .int (zI s3 o 1)) (C := RX2) (T := TX2) (N := 10) hx hb hg inX2 hown hK (hT.o2 (hT.k t_o (by decide))).one 0 rfl rfl 1 (by decide) (hg _ k230) (fun _ h9 => h9) rfl dX2_copyFrom_10 ?_
  rw [ev5]
  have hTo := hT
  refine pf2_1 hx hb hg hown hK hT (hT.k t_this (by decide)) rfl ⟨by omega, by omega⟩ (hg _ k230) dX2_copyFrom_13 (fun H locs s7 hus7 hT => ?_)
  have e4 : zI s7 this 0 = v1 := (zput_o hus7 (Or.inr (by decide))).trans e4
  have e8 : zI s7 this 1 = v5 := zput_at hus7
  refine lv_aload_n hx hb dX2_copyFrom_16 rfl (lv_at hl 0 rfl) ?_
  refine lv_aload_n hx hb dX2_copyFrom_17 rfl (lv_at hl 1 rfl) ?_
  obtain ⟨v9, ev9⟩ : ∃ zz9 : Int32, zI s7 o 2 = zz9 := ⟨_, rfl⟩
  have qv9 : v9.toInt = (zI s7 o 2).toInt := by rw [ev9]
  have b10 := (hT.P (hT.k t_o (by decide)) (by decide)).2.2.1
  rw [ev9] at b10
  have b10l := b10.1
  have b10h := b10.2
  refine va_get (D := κ.1) (ci := 2) (v := .int (zI s7 o 2)) (C := RX2) (T := TX2) (N := 10) hx hb hg inX2 hown hK (hT.o2 (hT.k t_o (by decide))).one 0 rfl rfl 2 (by decide) (hg _ k233) (fun _ h9 => h9) rfl dX2_copyFrom_18 ?_
  rw [ev9]
  have hTo := hT
  refine pf2_2 hx hb hg hown hK hT (hT.k t_this (by decide)) rfl ⟨by omega, by omega⟩ (hg _ k233) dX2_copyFrom_21 (fun H locs s11 hus11 hT => ?_)
  have e4 : zI s11 this 0 = v1 := (zput_o hus11 (Or.inr (by decide))).trans e4
  have e8 : zI s11 this 1 = v5 := (zput_o hus11 (Or.inr (by decide))).trans e8
  have e12 : zI s11 this 2 = v9 := zput_at hus11
  refine lv_aload_n hx hb dX2_copyFrom_24 rfl (lv_at hl 0 rfl) ?_
  refine lv_aload_n hx hb dX2_copyFrom_25 rfl (lv_at hl 1 rfl) ?_
  refine va_get (D := κ.1) (ci := 2) (v := .long (zJ s11 o 3)) (C := RX2) (T := TX2) (N := 10) hx hb hg inX2 hown hK (hT.o2 (hT.k t_o (by decide))).one 0 rfl rfl 3 (by decide) (hg _ k236) (fun _ h9 => h9) rfl dX2_copyFrom_26 ?_
  refine lv_topl (fun t13 ht13 => ?_)
  have hTo := hT
  refine pf2_3 hx hb hg hown hK hT (hT.k t_this (by decide)) rfl (hg _ k236) dX2_copyFrom_29 (fun H locs s14 hus14 hT => ?_)
  have e4 : zI s14 this 0 = v1 := by rw [zpul_I hus14]; exact e4
  have e8 : zI s14 this 1 = v5 := by rw [zpul_I hus14]; exact e8
  have e12 : zI s14 this 2 = v9 := by rw [zpul_I hus14]; exact e12
  refine lv_aload_n hx hb dX2_copyFrom_32 rfl (lv_at hl 0 rfl) ?_
  refine lv_aload_n hx hb dX2_copyFrom_33 rfl (lv_at hl 1 rfl) ?_
  refine va_get (D := κ.1) (ci := 2) (v := .long (zJ s14 o 4)) (C := RX2) (T := TX2) (N := 10) hx hb hg inX2 hown hK (hT.o2 (hT.k t_o (by decide))).one 0 rfl rfl 4 (by decide) (hg _ k238) (fun _ h9 => h9) rfl dX2_copyFrom_34 ?_
  refine lv_topl (fun t15 ht15 => ?_)
  have hTo := hT
  refine pf2_4 hx hb hg hown hK hT (hT.k t_this (by decide)) rfl (hg _ k238) dX2_copyFrom_37 (fun H locs s16 hus16 hT => ?_)
  have e4 : zI s16 this 0 = v1 := by rw [zpul_I hus16]; exact e4
  have e8 : zI s16 this 1 = v5 := by rw [zpul_I hus16]; exact e8
  have e12 : zI s16 this 2 = v9 := by rw [zpul_I hus16]; exact e12
  refine lv_aload_n hx hb dX2_copyFrom_40 rfl (lv_at hl 0 rfl) ?_
  refine lv_aload_n hx hb dX2_copyFrom_41 rfl (lv_at hl 1 rfl) ?_
  refine va_get (D := κ.1) (ci := 2) (v := .long (zJ s16 o 5)) (C := RX2) (T := TX2) (N := 10) hx hb hg inX2 hown hK (hT.o2 (hT.k t_o (by decide))).one 0 rfl rfl 5 (by decide) (hg _ k240) (fun _ h9 => h9) rfl dX2_copyFrom_42 ?_
  refine lv_topl (fun t17 ht17 => ?_)
  have hTo := hT
  refine pf2_5 hx hb hg hown hK hT (hT.k t_this (by decide)) rfl (hg _ k240) dX2_copyFrom_45 (fun H locs s18 hus18 hT => ?_)
  have e4 : zI s18 this 0 = v1 := by rw [zpul_I hus18]; exact e4
  have e8 : zI s18 this 1 = v5 := by rw [zpul_I hus18]; exact e8
  have e12 : zI s18 this 2 = v9 := by rw [zpul_I hus18]; exact e12
  refine lv_aload_n hx hb dX2_copyFrom_48 rfl (lv_at hl 0 rfl) ?_
  refine lv_aload_n hx hb dX2_copyFrom_49 rfl (lv_at hl 1 rfl) ?_
  refine va_get (D := κ.1) (ci := 2) (v := .long (zJ s18 o 6)) (C := RX2) (T := TX2) (N := 10) hx hb hg inX2 hown hK (hT.o2 (hT.k t_o (by decide))).one 0 rfl rfl 6 (by decide) (hg _ k243) (fun _ h9 => h9) rfl dX2_copyFrom_50 ?_
  refine lv_topl (fun t19 ht19 => ?_)
  have hTo := hT
  refine pf2_6 hx hb hg hown hK hT (hT.k t_this (by decide)) rfl (hg _ k243) dX2_copyFrom_53 (fun H locs s20 hus20 hT => ?_)
  have e4 : zI s20 this 0 = v1 := by rw [zpul_I hus20]; exact e4
  have e8 : zI s20 this 1 = v5 := by rw [zpul_I hus20]; exact e8
  have e12 : zI s20 this 2 = v9 := by rw [zpul_I hus20]; exact e12
  refine lv_aload_n hx hb dX2_copyFrom_56 rfl (lv_at hl 0 rfl) ?_
  refine lv_aload_n hx hb dX2_copyFrom_57 rfl (lv_at hl 1 rfl) ?_
  obtain ⟨v21, ev21⟩ : ∃ zz9 : Int32, zI s20 o 7 = zz9 := ⟨_, rfl⟩
  have qv21 : v21.toInt = (zI s20 o 7).toInt := by rw [ev21]
  refine va_get (D := κ.1) (ci := 2) (v := .int (zI s20 o 7)) (C := RX2) (T := TX2) (N := 10) hx hb hg inX2 hown hK (hT.o2 (hT.k t_o (by decide))).one 0 rfl rfl 7 (by decide) (hg _ k246) (fun _ h9 => h9) rfl dX2_copyFrom_58 ?_
  rw [ev21]
  have hTo := hT
  refine pf2_7 hx hb hg hown hK hT (hT.k t_this (by decide)) rfl (hg _ k246) dX2_copyFrom_61 (fun H locs s22 hus22 hT => ?_)
  have e4 : zI s22 this 0 = v1 := (zput_o hus22 (Or.inr (by decide))).trans e4
  have e8 : zI s22 this 1 = v5 := (zput_o hus22 (Or.inr (by decide))).trans e8
  have e12 : zI s22 this 2 = v9 := (zput_o hus22 (Or.inr (by decide))).trans e12
  have e23 : zI s22 this 7 = v21 := zput_at hus22
  refine lv_aload_n hx hb dX2_copyFrom_64 rfl (lv_at hl 0 rfl) ?_
  refine lv_aload_n hx hb dX2_copyFrom_65 rfl (lv_at hl 1 rfl) ?_
  obtain ⟨v24, ev24⟩ : ∃ zz9 : Int32, zI s22 o 8 = zz9 := ⟨_, rfl⟩
  have qv24 : v24.toInt = (zI s22 o 8).toInt := by rw [ev24]
  have b25 : isB v24 := by have q9 := (hT.P (hT.k t_o (by decide)) (by decide)).2.2.2; rw [ev24] at q9; exact q9
  refine va_get (D := κ.1) (ci := 2) (v := .int (zI s22 o 8)) (C := RX2) (T := TX2) (N := 10) hx hb hg inX2 hown hK (hT.o2 (hT.k t_o (by decide))).one 0 rfl rfl 8 (by decide) (hg _ k248) (fun _ h9 => h9) rfl dX2_copyFrom_66 ?_
  rw [ev24]
  have hTo := hT
  refine pf2_8 hx hb hg hown hK hT (hT.k t_this (by decide)) rfl b25 (hg _ k248) dX2_copyFrom_69 (fun H locs s26 hus26 hT => ?_)
  have e4 : zI s26 this 0 = v1 := (zput_o hus26 (Or.inr (by decide))).trans e4
  have e8 : zI s26 this 1 = v5 := (zput_o hus26 (Or.inr (by decide))).trans e8
  have e12 : zI s26 this 2 = v9 := (zput_o hus26 (Or.inr (by decide))).trans e12
  have e23 : zI s26 this 7 = v21 := (zput_o hus26 (Or.inr (by decide))).trans e23
  have e27 : zI s26 this 8 = v24 := zput_at hus26
  refine lv_aload_n hx hb dX2_copyFrom_72 rfl (lv_at hl 0 rfl) ?_
  obtain ⟨r28, er28⟩ : ∃ z, kR κ this 9 = z := ⟨_, rfl⟩
  have tr28 : zk σ0 r28 1 := by rw [← er28]; exact hT0.ref t_this (by decide) (by decide) (by decide)
  refine va_get (D := κ.1) (ci := 2) (v := .ref (kR κ this 9)) (C := RX2) (T := TX2) (N := 10) hx hb hg inX2 hown hK (hT.o2 (hT.k t_this (by decide))).one 0 rfl rfl 9 (by decide) (hg _ k250) (fun _ h9 => h9) rfl dX2_copyFrom_73 ?_
  rw [er28]
  refine lv_aload_n hx hb dX2_copyFrom_76 rfl (lv_at hl 1 rfl) ?_
  obtain ⟨r29, er29⟩ : ∃ z, kR κ o 9 = z := ⟨_, rfl⟩
  have tr29 : zk σ0 r29 1 := by rw [← er29]; exact hT0.ref t_o (by decide) (by decide) (by decide)
  refine va_get (D := κ.1) (ci := 2) (v := .ref (kR κ o 9)) (C := RX2) (T := TX2) (N := 10) hx hb hg inX2 hown hK (hT.o2 (hT.k t_o (by decide))).one 0 rfl rfl 9 (by decide) (hg _ k250) (fun _ h9 => h9) rfl dX2_copyFrom_77 ?_
  rw [er29]
  obtain ⟨h32, oh32, th32⟩ := hT.o1 (hT.k tr28 (by decide))
  have hTo := hT
  refine tVv (n := 1) (As := [.ref r29]) (rest := []) hx hb hml hown hg hT hK hX (X4_copyFrom l κ s26 r28 r29  (hT.k tr28 (by decide)) (hT.k tr29 (by decide)) ) sub_fW_fSp (mwV k1132 k456 k457 k88 k458) ⟨rfl, by decide, by decide, by decide +kernel⟩ ⟨(Nat.le_of_ble_eq_true rfl), (Nat.le_of_ble_eq_true rfl)⟩ oh32 rfl rfl hl.1 rfl (Nat.le_of_ble_eq_true rfl) dX2_copyFrom_80 zroom.rf (fun s31 H locs hφ hEs31 hT => ?_)
  have e4 : zI s31 this 0 = v1 := ((hTo.k t_this (by decide)).eI hEs31 (by decide) rfl).trans e4
  have e8 : zI s31 this 1 = v5 := ((hTo.k t_this (by decide)).eI hEs31 (by decide) rfl).trans e8
  have e12 : zI s31 this 2 = v9 := ((hTo.k t_this (by decide)).eI hEs31 (by decide) rfl).trans e12
  have e23 : zI s31 this 7 = v21 := ((hTo.k t_this (by decide)).eI hEs31 (by decide) rfl).trans e23
  have e27 : zI s31 this 8 = v24 := ((hTo.k t_this (by decide)).eI hEs31 (by decide) rfl).trans e27
  subst hQ9
  exact t_v hx hb hr hlocks hT trivial dX2_copyFrom_83
set_option maxHeartbeats 4000000 in
set_option maxRecDepth 100000 in
theorem X2_leftWeightAfter (l : Launch) (κ : Kt) (σ0 : Gh) (this : Nat) (t_this : zk σ0 this 2) : TC l yX2_leftWeightAfter cX2_leftWeightAfter 1 (some .long) 0 0 [.ref this] κ σ0 (tql κ fE σ0 (fun (r : Int64) (τ : Gh) => True)) := by
  refine TC.of fE (by decide +kernel) (Nat.le_of_ble_eq_true rfl) ?_
  intro p e s m below meth c ls hcs hK hX hT hl
  obtain ⟨hx, hb, hr, hml, hown, hg, hlocks, hin⟩ := hcs
  have hown : s.vm.findClass RX2 = some m.cls := hown
  have hl : lv_has ls 1 [(0, .ref this)] := hl
  have hT0 := hT
  generalize hQ9 : tQ _ _ _ _ _ _ = Q9
  refine lv_aload_n hx hb dX2_leftWeightAfter_0 rfl (lv_at hl 0 rfl) ?_
  refine va_get (D := κ.1) (ci := 2) (v := .long (zJ σ0 this 3)) (C := RX2) (T := TX2) (N := 10) hx hb hg inX2 hown hK (hT.o2 (hT.k t_this (by decide))).one 0 rfl rfl 3 (by decide) (hg _ k236) (fun _ h9 => h9) rfl dX2_leftWeightAfter_1 ?_
  refine lv_topl (fun t1 ht1 => ?_)
  refine lv_aload_n hx hb dX2_leftWeightAfter_4 rfl (lv_at hl 0 rfl) ?_
  refine va_get (D := κ.1) (ci := 2) (v := .long (zJ σ0 this 6)) (C := RX2) (T := TX2) (N := 10) hx hb hg inX2 hown hK (hT.o2 (hT.k t_this (by decide))).one 0 rfl rfl 6 (by decide) (hg _ k243) (fun _ h9 => h9) rfl dX2_leftWeightAfter_5 ?_
  refine lv_topl (fun t2 ht2 => ?_)
  refine lv_ladd hx hb dX2_leftWeightAfter_8 ?_
  refine lv_topl (fun t3 ht3 => ?_)
  subst hQ9
  exact t_l hx hb hr hlocks hT trivial dX2_leftWeightAfter_9
set_option maxHeartbeats 4000000 in
set_option maxRecDepth 100000 in
theorem X2_rightWeightAfter (l : Launch) (κ : Kt) (σ0 : Gh) (this : Nat) (t_this : zk σ0 this 2) : TC l yX2_rightWeightAfter cX2_rightWeightAfter 1 (some .long) 0 0 [.ref this] κ σ0 (tql κ fE σ0 (fun (r : Int64) (τ : Gh) => True)) := by
  refine TC.of fE (by decide +kernel) (Nat.le_of_ble_eq_true rfl) ?_
  intro p e s m below meth c ls hcs hK hX hT hl
  obtain ⟨hx, hb, hr, hml, hown, hg, hlocks, hin⟩ := hcs
  have hown : s.vm.findClass RX2 = some m.cls := hown
  have hl : lv_has ls 1 [(0, .ref this)] := hl
  have hT0 := hT
  generalize hQ9 : tQ _ _ _ _ _ _ = Q9
  refine lv_aload_n hx hb dX2_rightWeightAfter_0 rfl (lv_at hl 0 rfl) ?_
  refine va_get (D := κ.1) (ci := 2) (v := .long (zJ σ0 this 4)) (C := RX2) (T := TX2) (N := 10) hx hb hg inX2 hown hK (hT.o2 (hT.k t_this (by decide))).one 0 rfl rfl 4 (by decide) (hg _ k238) (fun _ h9 => h9) rfl dX2_rightWeightAfter_1 ?_
  refine lv_topl (fun t1 ht1 => ?_)
  refine lv_aload_n hx hb dX2_rightWeightAfter_4 rfl (lv_at hl 0 rfl) ?_
  refine va_get (D := κ.1) (ci := 2) (v := .long (zJ σ0 this 5)) (C := RX2) (T := TX2) (N := 10) hx hb hg inX2 hown hK (hT.o2 (hT.k t_this (by decide))).one 0 rfl rfl 5 (by decide) (hg _ k240) (fun _ h9 => h9) rfl dX2_rightWeightAfter_5 ?_
  refine lv_topl (fun t2 ht2 => ?_)
  refine lv_aload_n hx hb dX2_rightWeightAfter_8 rfl (lv_at hl 0 rfl) ?_
  refine va_get (D := κ.1) (ci := 2) (v := .long (zJ σ0 this 6)) (C := RX2) (T := TX2) (N := 10) hx hb hg inX2 hown hK (hT.o2 (hT.k t_this (by decide))).one 0 rfl rfl 6 (by decide) (hg _ k243) (fun _ h9 => h9) rfl dX2_rightWeightAfter_9 ?_
  refine lv_topl (fun t3 ht3 => ?_)
  refine lv_lsub hx hb dX2_rightWeightAfter_12 ?_
  refine lv_topl (fun t4 ht4 => ?_)
  refine lv_ladd hx hb dX2_rightWeightAfter_13 ?_
  refine lv_topl (fun t5 ht5 => ?_)
  subst hQ9
  exact t_l hx hb hr hlocks hT trivial dX2_rightWeightAfter_14
set_option maxHeartbeats 4000000 in
set_option maxRecDepth 100000 in
theorem X0_clear (l : Launch) (κ : Kt) (σ0 : Gh) (this : Nat) (t_this : zk σ0 this 5) : TC l yX0_clear cX0_clear 1 none 0 0 [.ref this] κ σ0 (tqv κ fDr σ0 (fun (τ : Gh) => True)) := by
  refine TC.of fDr (by decide +kernel) (Nat.le_of_ble_eq_true rfl) ?_
  intro p e s m below meth c ls hcs hK hX hT hl
  obtain ⟨hx, hb, hr, hml, hown, hg, hlocks, hin⟩ := hcs
  have hown : s.vm.findClass RX0 = some m.cls := hown
  have hl : lv_has ls 1 [(0, .ref this)] := hl
  have hT0 := hT
  have n0 : (0 : Int32).toInt = 0 := by decide
  have n1 : (1 : Int32).toInt = 1 := by decide
  have n2 : (2 : Int32).toInt = 2 := by decide
  generalize hQ9 : tQ _ _ _ _ _ _ = Q9
  refine lv_aload_n hx hb dX0_clear_0 rfl (lv_at hl 0 rfl) ?_
  refine lv_iconst (v := 0) hx hb dX0_clear_1 (by decide) ?_
  have hTo := hT
  refine pf5_2 hx hb hg hown hK hT (hT.k t_this (by decide)) rfl ⟨by omega, by omega⟩ (hg _ k161) dX0_clear_2 (fun H locs s1 hus1 hT => ?_)
  have e2 : zI s1 this 2 = 0 := zput_at hus1
  refine lv_aload_n hx hb dX0_clear_5 rfl (lv_at hl 0 rfl) ?_
  refine lv_iconst (v := 0) hx hb dX0_clear_6 (by decide) ?_
  have hTo := hT
  refine pf5_3 hx hb hg hown hK hT (hT.k t_this (by decide)) rfl (hg _ k165) dX0_clear_7 (fun H locs s3 hus3 hT => ?_)
  have e2 : zI s3 this 2 = 0 := (zput_o hus3 (Or.inr (by decide))).trans e2
  have e4 : zI s3 this 3 = 0 := zput_at hus3
  refine lv_aload_n hx hb dX0_clear_10 rfl (lv_at hl 0 rfl) ?_
  refine lv_iconst (v := 2) hx hb dX0_clear_11 (by decide) ?_
  have hTo := hT
  refine pf5_4 hx hb hg hown hK hT (hT.k t_this (by decide)) rfl (hg _ k168) dX0_clear_12 (fun H locs s5 hus5 hT => ?_)
  have e2 : zI s5 this 2 = 0 := (zput_o hus5 (Or.inr (by decide))).trans e2
  have e4 : zI s5 this 3 = 0 := (zput_o hus5 (Or.inr (by decide))).trans e4
  have e6 : zI s5 this 4 = 2 := zput_at hus5
  refine lv_aload_n hx hb dX0_clear_15 rfl (lv_at hl 0 rfl) ?_
  refine lv_iconst (v := 1) hx hb dX0_clear_16 (by decide) ?_
  have hTo := hT
  refine pf5_5 hx hb hg hown hK hT (hT.k t_this (by decide)) rfl isB1 (hg _ k171) dX0_clear_17 (fun H locs s7 hus7 hT => ?_)
  have e2 : zI s7 this 2 = 0 := (zput_o hus7 (Or.inr (by decide))).trans e2
  have e4 : zI s7 this 3 = 0 := (zput_o hus7 (Or.inr (by decide))).trans e4
  have e6 : zI s7 this 4 = 2 := (zput_o hus7 (Or.inr (by decide))).trans e6
  have e8 : zI s7 this 5 = 1 := zput_at hus7
  refine lv_aload_n hx hb dX0_clear_20 rfl (lv_at hl 0 rfl) ?_
  refine lv_iconst (v := 2) hx hb dX0_clear_21 (by decide) ?_
  have hTo := hT
  refine pf5_6 hx hb hg hown hK hT (hT.k t_this (by decide)) rfl (hg _ k174) dX0_clear_22 (fun H locs s9 hus9 hT => ?_)
  have e2 : zI s9 this 2 = 0 := (zput_o hus9 (Or.inr (by decide))).trans e2
  have e4 : zI s9 this 3 = 0 := (zput_o hus9 (Or.inr (by decide))).trans e4
  have e6 : zI s9 this 4 = 2 := (zput_o hus9 (Or.inr (by decide))).trans e6
  have e8 : zI s9 this 5 = 1 := (zput_o hus9 (Or.inr (by decide))).trans e8
  have e10 : zI s9 this 6 = 2 := zput_at hus9
  subst hQ9
  exact t_v hx hb hr hlocks hT trivial dX0_clear_25
set_option maxHeartbeats 4000000 in
set_option maxRecDepth 100000 in
theorem X0_addSample (l : Launch) (κ : Kt) (σ0 : Gh) (this : Nat) (x : Int32) (y : Int32) (t_this : zk σ0 this 5) : TC l yX0_addSample cX0_addSample 3 none 0 0 [.ref this, .int x, .int y] κ σ0 (tqv κ fDr σ0 (fun (τ : Gh) => ((zI τ this 2).toInt = (zI σ0 this 2).toInt + 1 ∨ ((zI σ0 this 2).toInt = 48 ∧ (zI τ this 2).toInt = 48)))) := by
  refine TC.of fDr (by decide +kernel) (Nat.le_of_ble_eq_true rfl) ?_
  intro p e s m below meth c ls hcs hK hX hT hl
  obtain ⟨hx, hb, hr, hml, hown, hg, hlocks, hin⟩ := hcs
  have hown : s.vm.findClass RX0 = some m.cls := hown
  have hl : lv_has ls 3 [(0, .ref this), (1, .int x), (2, .int y)] := hl
  have hT0 := hT
  have n1 : (1 : Int32).toInt = 1 := by decide
  have n48 : (48 : Int32).toInt = 48 := by decide
  have x_lo := Int32.le_toInt x
  have x_hi := Int32.toInt_lt x
  have y_lo := Int32.le_toInt y
  have y_hi := Int32.toInt_lt y
  generalize hQ9 : tQ _ _ _ _ _ _ = Q9
  refine lv_aload_n hx hb dX0_addSample_0 rfl (lv_at hl 0 rfl) ?_
  obtain ⟨v1, ev1⟩ : ∃ zz9 : Int32, zI σ0 this 2 = zz9 := ⟨_, rfl⟩
  have qv1 : v1.toInt = (zI σ0 this 2).toInt := by rw [ev1]
  have b2 := (hT.P (hT.k t_this (by decide)) (by decide)).1
  rw [ev1] at b2
  have b2l := b2.1
  have b2h := b2.2
  refine va_get (D := κ.1) (ci := 0) (v := .int (zI σ0 this 2)) (C := RX0) (T := TX0) (N := 7) hx hb hg inX0 hown hK (hT.o5 (hT.k t_this (by decide))).one 0 rfl rfl 2 (by decide) (hg _ k161) (fun _ h9 => h9) rfl dX0_addSample_1 ?_
  rw [ev1]
  refine lv_bipush (v := 48) hx hb dX0_addSample_4 (by decide) ?_
  refine lv_icmp_ge (tgt := 39) hx hb dX0_addSample_6 (by decide) (fun c9 => ?_) (fun c9 => ?_)
  · have c1 := gi_le c9
    subst hQ9
    exact t_v hx hb hr hlocks hT (by rw [ev1]; omega) dX0_addSample_39
  · have c2 := gi_nle c9
    refine lv_aload_n hx hb dX0_addSample_9 rfl (lv_at hl 0 rfl) ?_
    obtain ⟨r3, er3⟩ : ∃ z, kR κ this 0 = z := ⟨_, rfl⟩
    have tr3 : zk σ0 r3 17 := by rw [← er3]; exact hT0.ref t_this (by decide) (by decide) (by decide)
    refine va_get (D := κ.1) (ci := 0) (v := .ref (kR κ this 0)) (C := RX0) (T := TX0) (N := 7) hx hb hg inX0 hown hK (hT.o5 (hT.k t_this (by decide))).one 0 rfl rfl 0 (by decide) (hg _ k154) (fun _ h9 => h9) rfl dX0_addSample_10 ?_
    rw [er3]
    refine lv_aload_n hx hb dX0_addSample_13 rfl (lv_at hl 0 rfl) ?_
    refine va_get (D := κ.1) (ci := 0) (v := .int (zI σ0 this 2)) (C := RX0) (T := TX0) (N := 7) hx hb hg inX0 hown hK (hT.o5 (hT.k t_this (by decide))).one 0 rfl rfl 2 (by decide) (hg _ k161) (fun _ h9 => h9) rfl dX0_addSample_14 ?_
    rw [ev1]
    refine lv_iload_n hx hb dX0_addSample_17 rfl (lv_at hl 1 rfl) ?_
    have hTo := hT
    refine tasti (n := 48) hx hb hK hT (hT.k tr3 (by decide)) ⟨by decide, by decide⟩ (fun _ _ _ => rfl) (fun _ _ => trivial) (fun _ => rfl) (by omega) (by omega) dX0_addSample_18 (fun H locs s4 hus4 hT => ?_)
    have ev1 : zI s4 this 2 = v1 := (zput_o hus4 (Or.inl ((hTo.k t_this (by decide)).ne (hTo.k tr3 (by decide)) (by decide)))).trans ev1
    refine lv_aload_n hx hb dX0_addSample_19 rfl (lv_at hl 0 rfl) ?_
    obtain ⟨r5, er5⟩ : ∃ z, kR κ this 1 = z := ⟨_, rfl⟩
    have tr5 : zk σ0 r5 18 := by rw [← er5]; exact hT0.ref t_this (by decide) (by decide) (by decide)
    refine va_get (D := κ.1) (ci := 0) (v := .ref (kR κ this 1)) (C := RX0) (T := TX0) (N := 7) hx hb hg inX0 hown hK (hT.o5 (hT.k t_this (by decide))).one 0 rfl rfl 1 (by decide) (hg _ k158) (fun _ h9 => h9) rfl dX0_addSample_20 ?_
    rw [er5]
    refine lv_aload_n hx hb dX0_addSample_23 rfl (lv_at hl 0 rfl) ?_
    refine va_get (D := κ.1) (ci := 0) (v := .int (zI s4 this 2)) (C := RX0) (T := TX0) (N := 7) hx hb hg inX0 hown hK (hT.o5 (hT.k t_this (by decide))).one 0 rfl rfl 2 (by decide) (hg _ k161) (fun _ h9 => h9) rfl dX0_addSample_24 ?_
    rw [ev1]
    refine lv_iload_n hx hb dX0_addSample_27 rfl (lv_at hl 2 rfl) ?_
    have hTo := hT
    refine tasti (n := 48) hx hb hK hT (hT.k tr5 (by decide)) ⟨by decide, by decide⟩ (fun _ _ _ => rfl) (fun _ _ => trivial) (fun _ => rfl) (by omega) (by omega) dX0_addSample_28 (fun H locs s6 hus6 hT => ?_)
    have ev1 : zI s6 this 2 = v1 := (zput_o hus6 (Or.inl ((hTo.k t_this (by decide)).ne (hTo.k tr5 (by decide)) (by decide)))).trans ev1
    refine lv_aload_n hx hb dX0_addSample_29 rfl (lv_at hl 0 rfl) ?_
    refine lv_dup hx hb dX0_addSample_30 rfl ?_
    refine va_get (D := κ.1) (ci := 0) (v := .int (zI s6 this 2)) (C := RX0) (T := TX0) (N := 7) hx hb hg inX0 hown hK (hT.o5 (hT.k t_this (by decide))).one 0 rfl rfl 2 (by decide) (hg _ k161) (fun _ h9 => h9) rfl dX0_addSample_31 ?_
    rw [ev1]
    refine lv_iconst (v := 1) hx hb dX0_addSample_34 (by decide) ?_
    refine lv_iadd hx hb dX0_addSample_35 ?_
    first | refine g_add (by omega) (by omega) (fun t7 ht7 => ?_) | refine lv_topi (fun t7 ht7 => ?_)
    have hTo := hT
    refine pf5_2 hx hb hg hown hK hT (hT.k t_this (by decide)) rfl ⟨by omega, by omega⟩ (hg _ k161) dX0_addSample_36 (fun H locs s8 hus8 hT => ?_)
    have e9 : zI s8 this 2 = t7 := zput_at hus8
    subst hQ9
    exact t_v hx hb hr hlocks hT (by rw [e9]; omega) dX0_addSample_39
set_option maxHeartbeats 4000000 in
set_option maxRecDepth 100000 in
theorem X0_copyFrom (l : Launch) (κ : Kt) (σ0 : Gh) (this : Nat) (o : Nat) (t_this : zk σ0 this 4) (t_o : zk σ0 o 5) (h0 : 2 ≤ (zI σ0 o 2).toInt) : TC l yX0_copyFrom cX0_copyFrom 2 none 1 40 [.ref this, .ref o] κ σ0 (tqv κ fSrc σ0 (fun (τ : Gh) => True)) := by
  refine TC.of fSrc (by decide +kernel) (Nat.le_of_ble_eq_true rfl) ?_
  intro p e s m below meth c ls hcs hK hX hT hl
  obtain ⟨hx, hb, hr, hml, hown, hg, hlocks, hin⟩ := hcs
  have hown : s.vm.findClass RX0 = some m.cls := hown
  have hl : lv_has ls 2 [(0, .ref this), (1, .ref o)] := hl
  have hT0 := hT
  have n0 : (0 : Int32).toInt = 0 := by decide
  have n48 : (48 : Int32).toInt = 48 := by decide
  generalize hQ9 : tQ _ _ _ _ _ _ = Q9
  refine lv_aload_n hx hb dX0_copyFrom_0 rfl (lv_at hl 1 rfl) ?_
  obtain ⟨r1, er1⟩ : ∃ z, kR κ o 0 = z := ⟨_, rfl⟩
  have tr1 : zk σ0 r1 17 := by rw [← er1]; exact hT0.ref t_o (by decide) (by decide) (by decide)
  refine va_get (D := κ.1) (ci := 0) (v := .ref (kR κ o 0)) (C := RX0) (T := TX0) (N := 7) hx hb hg inX0 hown hK (hT.o5 (hT.k t_o (by decide))).one 0 rfl rfl 0 (by decide) (hg _ k154) (fun _ h9 => h9) rfl dX0_copyFrom_1 ?_
  rw [er1]
  refine lv_iconst (v := 0) hx hb dX0_copyFrom_4 (by decide) ?_
  refine lv_aload_n hx hb dX0_copyFrom_5 rfl (lv_at hl 0 rfl) ?_
  obtain ⟨r2, er2⟩ : ∃ z, kR κ this 0 = z := ⟨_, rfl⟩
  have tr2 : zk σ0 r2 8 := by rw [← er2]; exact hT0.ref t_this (by decide) (by decide) (by decide)
  refine va_get (D := κ.1) (ci := 0) (v := .ref (kR κ this 0)) (C := RX0) (T := TX0) (N := 7) hx hb hg inX0 hown hK (hT.o4 (hT.k t_this (by decide))).one 0 rfl rfl 0 (by decide) (hg _ k154) (fun _ h9 => h9) rfl dX0_copyFrom_6 ?_
  rw [er2]
  refine lv_iconst (v := 0) hx hb dX0_copyFrom_9 (by decide) ?_
  refine lv_bipush (v := 48) hx hb dX0_copyFrom_10 (by decide) ?_
  have hTo := hT
  refine tcopyi (n0 := 48) (n1 := 48) hx hb (hml.trans hl.1.symm) hown (hg _ k833) (hg _ k362) (hg _ k361) (hg _ k91) hK hT (hT.k tr1 (by decide)) (by decide) (fun _ _ _ => rfl) (hT.k tr2 (by decide)) ⟨by decide, by decide⟩ (fun _ _ _ => rfl) (fun _ _ => trivial) (fun _ => rfl) (by omega) (by omega) (by omega) (by omega) (by omega) (Nat.le_of_ble_eq_true rfl) (Nat.le_of_ble_eq_true rfl) dX0_copyFrom_12 (fun H locs s3 hus3 hT => ?_)
  refine lv_aload_n hx hb dX0_copyFrom_15 rfl (lv_at hl 1 rfl) ?_
  obtain ⟨r4, er4⟩ : ∃ z, kR κ o 1 = z := ⟨_, rfl⟩
  have tr4 : zk σ0 r4 18 := by rw [← er4]; exact hT0.ref t_o (by decide) (by decide) (by decide)
  refine va_get (D := κ.1) (ci := 0) (v := .ref (kR κ o 1)) (C := RX0) (T := TX0) (N := 7) hx hb hg inX0 hown hK (hT.o5 (hT.k t_o (by decide))).one 0 rfl rfl 1 (by decide) (hg _ k158) (fun _ h9 => h9) rfl dX0_copyFrom_16 ?_
  rw [er4]
  refine lv_iconst (v := 0) hx hb dX0_copyFrom_19 (by decide) ?_
  refine lv_aload_n hx hb dX0_copyFrom_20 rfl (lv_at hl 0 rfl) ?_
  obtain ⟨r5, er5⟩ : ∃ z, kR κ this 1 = z := ⟨_, rfl⟩
  have tr5 : zk σ0 r5 16 := by rw [← er5]; exact hT0.ref t_this (by decide) (by decide) (by decide)
  refine va_get (D := κ.1) (ci := 0) (v := .ref (kR κ this 1)) (C := RX0) (T := TX0) (N := 7) hx hb hg inX0 hown hK (hT.o4 (hT.k t_this (by decide))).one 0 rfl rfl 1 (by decide) (hg _ k158) (fun _ h9 => h9) rfl dX0_copyFrom_21 ?_
  rw [er5]
  refine lv_iconst (v := 0) hx hb dX0_copyFrom_24 (by decide) ?_
  refine lv_bipush (v := 48) hx hb dX0_copyFrom_25 (by decide) ?_
  have hTo := hT
  refine tcopyi (n0 := 48) (n1 := 48) hx hb (hml.trans hl.1.symm) hown (hg _ k833) (hg _ k362) (hg _ k361) (hg _ k91) hK hT (hT.k tr4 (by decide)) (by decide) (fun _ _ _ => rfl) (hT.k tr5 (by decide)) ⟨by decide, by decide⟩ (fun _ _ _ => rfl) (fun _ _ => trivial) (fun _ => rfl) (by omega) (by omega) (by omega) (by omega) (by omega) (Nat.le_of_ble_eq_true rfl) (Nat.le_of_ble_eq_true rfl) dX0_copyFrom_27 (fun H locs s6 hus6 hT => ?_)
  refine lv_aload_n hx hb dX0_copyFrom_30 rfl (lv_at hl 0 rfl) ?_
  refine lv_aload_n hx hb dX0_copyFrom_31 rfl (lv_at hl 1 rfl) ?_
  obtain ⟨v7, ev7⟩ : ∃ zz9 : Int32, zI σ0 o 2 = zz9 := ⟨_, rfl⟩
  have qv7 : v7.toInt = (zI σ0 o 2).toInt := by rw [ev7]
  have b8 := (hT.P (hT.k t_o (by decide)) (by decide)).1
  rw [(hT.eI t_o (by decide) rfl ev7)] at b8
  have b8l := b8.1
  have b8h := b8.2
  refine va_get (D := κ.1) (ci := 0) (v := .int (zI s6 o 2)) (C := RX0) (T := TX0) (N := 7) hx hb hg inX0 hown hK (hT.o5 (hT.k t_o (by decide))).one 0 rfl rfl 2 (by decide) (hg _ k161) (fun _ h9 => h9) rfl dX0_copyFrom_32 ?_
  rw [(hT.eI t_o (by decide) rfl ev7)]
  have hTo := hT
  refine pf4_2 hx hb hg hown hK hT (hT.k t_this (by decide)) rfl ⟨by omega, by omega⟩ (hg _ k161) dX0_copyFrom_35 (fun H locs s9 hus9 hT => ?_)
  have e10 : zI s9 this 2 = v7 := zput_at hus9
  refine lv_aload_n hx hb dX0_copyFrom_38 rfl (lv_at hl 0 rfl) ?_
  refine lv_aload_n hx hb dX0_copyFrom_39 rfl (lv_at hl 1 rfl) ?_
  obtain ⟨v11, ev11⟩ : ∃ zz9 : Int32, zI σ0 o 3 = zz9 := ⟨_, rfl⟩
  have qv11 : v11.toInt = (zI σ0 o 3).toInt := by rw [ev11]
  refine va_get (D := κ.1) (ci := 0) (v := .int (zI s9 o 3)) (C := RX0) (T := TX0) (N := 7) hx hb hg inX0 hown hK (hT.o5 (hT.k t_o (by decide))).one 0 rfl rfl 3 (by decide) (hg _ k165) (fun _ h9 => h9) rfl dX0_copyFrom_40 ?_
  rw [(hT.eI t_o (by decide) rfl ev11)]
  have hTo := hT
  refine pf4_3 hx hb hg hown hK hT (hT.k t_this (by decide)) rfl (hg _ k165) dX0_copyFrom_43 (fun H locs s12 hus12 hT => ?_)
  have e10 : zI s12 this 2 = v7 := (zput_o hus12 (Or.inr (by decide))).trans e10
  have e13 : zI s12 this 3 = v11 := zput_at hus12
  refine lv_aload_n hx hb dX0_copyFrom_46 rfl (lv_at hl 0 rfl) ?_
  refine lv_aload_n hx hb dX0_copyFrom_47 rfl (lv_at hl 1 rfl) ?_
  obtain ⟨v14, ev14⟩ : ∃ zz9 : Int32, zI σ0 o 4 = zz9 := ⟨_, rfl⟩
  have qv14 : v14.toInt = (zI σ0 o 4).toInt := by rw [ev14]
  refine va_get (D := κ.1) (ci := 0) (v := .int (zI s12 o 4)) (C := RX0) (T := TX0) (N := 7) hx hb hg inX0 hown hK (hT.o5 (hT.k t_o (by decide))).one 0 rfl rfl 4 (by decide) (hg _ k168) (fun _ h9 => h9) rfl dX0_copyFrom_48 ?_
  rw [(hT.eI t_o (by decide) rfl ev14)]
  have hTo := hT
  refine pf4_4 hx hb hg hown hK hT (hT.k t_this (by decide)) rfl (hg _ k168) dX0_copyFrom_51 (fun H locs s15 hus15 hT => ?_)
  have e10 : zI s15 this 2 = v7 := (zput_o hus15 (Or.inr (by decide))).trans e10
  have e13 : zI s15 this 3 = v11 := (zput_o hus15 (Or.inr (by decide))).trans e13
  have e16 : zI s15 this 4 = v14 := zput_at hus15
  refine lv_aload_n hx hb dX0_copyFrom_54 rfl (lv_at hl 0 rfl) ?_
  refine lv_aload_n hx hb dX0_copyFrom_55 rfl (lv_at hl 1 rfl) ?_
  obtain ⟨v17, ev17⟩ : ∃ zz9 : Int32, zI σ0 o 5 = zz9 := ⟨_, rfl⟩
  have qv17 : v17.toInt = (zI σ0 o 5).toInt := by rw [ev17]
  have b18 : isB v17 := by have q9 := (hT.P (hT.k t_o (by decide)) (by decide)).2; rw [(hT.eI t_o (by decide) rfl ev17)] at q9; exact q9
  refine va_get (D := κ.1) (ci := 0) (v := .int (zI s15 o 5)) (C := RX0) (T := TX0) (N := 7) hx hb hg inX0 hown hK (hT.o5 (hT.k t_o (by decide))).one 0 rfl rfl 5 (by decide) (hg _ k171) (fun _ h9 => h9) rfl dX0_copyFrom_56 ?_
  rw [(hT.eI t_o (by decide) rfl ev17)]
  have hTo := hT
  refine pf4_5 hx hb hg hown hK hT (hT.k t_this (by decide)) rfl b18 (hg _ k171) dX0_copyFrom_59 (fun H locs s19 hus19 hT => ?_)
  have e10 : zI s19 this 2 = v7 := (zput_o hus19 (Or.inr (by decide))).trans e10
  have e13 : zI s19 this 3 = v11 := (zput_o hus19 (Or.inr (by decide))).trans e13
  have e16 : zI s19 this 4 = v14 := (zput_o hus19 (Or.inr (by decide))).trans e16
  have e20 : zI s19 this 5 = v17 := zput_at hus19
  refine lv_aload_n hx hb dX0_copyFrom_62 rfl (lv_at hl 0 rfl) ?_
  refine lv_aload_n hx hb dX0_copyFrom_63 rfl (lv_at hl 1 rfl) ?_
  obtain ⟨v21, ev21⟩ : ∃ zz9 : Int32, zI σ0 o 6 = zz9 := ⟨_, rfl⟩
  have qv21 : v21.toInt = (zI σ0 o 6).toInt := by rw [ev21]
  refine va_get (D := κ.1) (ci := 0) (v := .int (zI s19 o 6)) (C := RX0) (T := TX0) (N := 7) hx hb hg inX0 hown hK (hT.o5 (hT.k t_o (by decide))).one 0 rfl rfl 6 (by decide) (hg _ k174) (fun _ h9 => h9) rfl dX0_copyFrom_64 ?_
  rw [(hT.eI t_o (by decide) rfl ev21)]
  have hTo := hT
  refine pf4_6 hx hb hg hown hK hT (hT.k t_this (by decide)) rfl (hg _ k174) dX0_copyFrom_67 (fun H locs s22 hus22 hT => ?_)
  have e10 : zI s22 this 2 = v7 := (zput_o hus22 (Or.inr (by decide))).trans e10
  have e13 : zI s22 this 3 = v11 := (zput_o hus22 (Or.inr (by decide))).trans e13
  have e16 : zI s22 this 4 = v14 := (zput_o hus22 (Or.inr (by decide))).trans e16
  have e20 : zI s22 this 5 = v17 := (zput_o hus22 (Or.inr (by decide))).trans e20
  have e23 : zI s22 this 6 = v21 := zput_at hus22
  subst hQ9
  exact t_v hx hb hr hlocks hT trivial dX0_copyFrom_70
set_option maxHeartbeats 4000000 in
set_option maxRecDepth 100000 in
theorem X0_firstWeight (l : Launch) (κ : Kt) (σ0 : Gh) (this : Nat) (i : Int32) (t_this : zk σ0 this 4) (h0 : 0 ≤ i.toInt) (h1 : i.toInt < (zI σ0 this 2).toInt) : TC l yX0_firstWeight cX0_firstWeight 4 (some .int) 0 0 [.ref this, .int i] κ σ0 (tqi κ fE σ0 (fun (r : Int32) (τ : Gh) => True)) := by
  refine TC.of fE (by decide +kernel) (Nat.le_of_ble_eq_true rfl) ?_
  intro p e s m below meth c ls hcs hK hX hT hl
  obtain ⟨hx, hb, hr, hml, hown, hg, hlocks, hin⟩ := hcs
  have hown : s.vm.findClass RX0 = some m.cls := hown
  have hl : lv_has ls 4 [(0, .ref this), (1, .int i)] := hl
  have hT0 := hT
  have n0 : (0 : Int32).toInt = 0 := by decide
  have n1 : (1 : Int32).toInt = 1 := by decide
  have i_lo := Int32.le_toInt i
  have i_hi := Int32.toInt_lt i
  generalize hQ9 : tQ _ _ _ _ _ _ = Q9
  refine lv_iload_n hx hb dX0_firstWeight_0 rfl (lv_at hl 1 rfl) ?_
  refine lv_if_le (tgt := 10) hx hb dX0_firstWeight_1 (by decide) (fun c9 => ?_) (fun c9 => ?_)
  · have c1 := gi_le c9
    refine lv_iconst (v := 0) hx hb dX0_firstWeight_10 (by decide) ?_
    refine lv_istore_n (lv' := [(2, .int 0), (0, .ref this), (1, .int i)]) hx hb dX0_firstWeight_11 rfl hl (by decide) rfl (fun ls hl => ?_)
    refine lv_iload_n hx hb dX0_firstWeight_12 rfl (lv_at hl 2 rfl) ?_
    refine lv_aload_n hx hb dX0_firstWeight_13 rfl (lv_at hl 1 rfl) ?_
    obtain ⟨v1, ev1⟩ : ∃ zz9 : Int32, zI σ0 this 2 = zz9 := ⟨_, rfl⟩
    have qv1 : v1.toInt = (zI σ0 this 2).toInt := by rw [ev1]
    have b2 := (hT.P (hT.k t_this (by decide)) (by decide)).1
    rw [(hT.eI t_this (by decide) rfl ev1)] at b2
    have b2l := b2.1
    have b2h := b2.2
    refine va_get (D := κ.1) (ci := 0) (v := .int (zI σ0 this 2)) (C := RX0) (T := TX0) (N := 7) hx hb hg inX0 hown hK (hT.o4 (hT.k t_this (by decide))).one 0 rfl rfl 2 (by decide) (hg _ k161) (fun _ h9 => h9) rfl dX0_firstWeight_14 ?_
    rw [(hT.eI t_this (by decide) rfl ev1)]
    refine lv_iconst (v := 1) hx hb dX0_firstWeight_17 (by decide) ?_
    refine lv_isub hx hb dX0_firstWeight_18 ?_
    first | refine g_sub (by omega) (by omega) (fun t3 ht3 => ?_) | refine lv_topi (fun t3 ht3 => ?_)
    refine lv_icmp_ge (tgt := 28) hx hb dX0_firstWeight_19 (by decide) (fun c9 => ?_) (fun c9 => ?_)
    · have c2 := gi_le c9
      refine lv_aload_n hx hb dX0_firstWeight_28 rfl (lv_at hl 1 rfl) ?_
      refine va_get (D := κ.1) (ci := 0) (v := .int (zI σ0 this 2)) (C := RX0) (T := TX0) (N := 7) hx hb hg inX0 hown hK (hT.o4 (hT.k t_this (by decide))).one 0 rfl rfl 2 (by decide) (hg _ k161) (fun _ h9 => h9) rfl dX0_firstWeight_29 ?_
      rw [(hT.eI t_this (by decide) rfl ev1)]
      refine lv_iconst (v := 1) hx hb dX0_firstWeight_32 (by decide) ?_
      refine lv_isub hx hb dX0_firstWeight_33 ?_
      first | refine g_sub (by omega) (by omega) (fun t4 ht4 => ?_) | refine lv_topi (fun t4 ht4 => ?_)
      refine lv_istore_n (lv' := [(3, .int t4), (2, .int 0), (0, .ref this), (1, .int i)]) hx hb dX0_firstWeight_34 rfl hl (by decide) rfl (fun ls hl => ?_)
      refine lv_aload_n hx hb dX0_firstWeight_35 rfl (lv_at hl 2 rfl) ?_
      obtain ⟨r5, er5⟩ : ∃ z, kR κ this 0 = z := ⟨_, rfl⟩
      have tr5 : zk σ0 r5 8 := by rw [← er5]; exact hT0.ref t_this (by decide) (by decide) (by decide)
      refine va_get (D := κ.1) (ci := 0) (v := .ref (kR κ this 0)) (C := RX0) (T := TX0) (N := 7) hx hb hg inX0 hown hK (hT.o4 (hT.k t_this (by decide))).one 0 rfl rfl 0 (by decide) (hg _ k154) (fun _ h9 => h9) rfl dX0_firstWeight_36 ?_
      rw [er5]
      refine lv_iload_n hx hb dX0_firstWeight_39 rfl (lv_at hl 0 rfl) ?_
      refine va_iald hx hb hK (hT.o8 (hT.k tr5 (by decide))).one 0 0 rfl rfl (g_in (by omega) (by omega)) dX0_firstWeight_40 ?_
      refine lv_topi (fun t6 ht6 => ?_)
      refine lv_aload_n hx hb dX0_firstWeight_41 rfl (lv_at hl 2 rfl) ?_
      refine va_get (D := κ.1) (ci := 0) (v := .ref (kR κ this 0)) (C := RX0) (T := TX0) (N := 7) hx hb hg inX0 hown hK (hT.o4 (hT.k t_this (by decide))).one 0 rfl rfl 0 (by decide) (hg _ k154) (fun _ h9 => h9) rfl dX0_firstWeight_42 ?_
      rw [er5]
      refine lv_iload_n hx hb dX0_firstWeight_45 rfl (lv_at hl 1 rfl) ?_
      refine va_iald hx hb hK (hT.o8 (hT.k tr5 (by decide))).one 0 0 rfl rfl (g_in (by omega) (by omega)) dX0_firstWeight_46 ?_
      refine lv_topi (fun t7 ht7 => ?_)
      refine lv_isub hx hb dX0_firstWeight_47 ?_
      first | refine g_sub (by omega) (by omega) (fun t8 ht8 => ?_) | refine lv_topi (fun t8 ht8 => ?_)
      subst hQ9
      exact t_i hx hb hr hlocks hT trivial dX0_firstWeight_48
    · have c3 := gi_nle c9
      refine lv_iload_n hx hb dX0_firstWeight_22 rfl (lv_at hl 2 rfl) ?_
      refine lv_iconst (v := 1) hx hb dX0_firstWeight_23 (by decide) ?_
      refine lv_iadd hx hb dX0_firstWeight_24 ?_
      first | refine g_add (by omega) (by omega) (fun t9 ht9 => ?_) | refine lv_topi (fun t9 ht9 => ?_)
      refine lv_goto (tgt := 34) hx hb dX0_firstWeight_25 (by decide) ?_
      refine lv_istore_n (lv' := [(3, .int t9), (2, .int 0), (0, .ref this), (1, .int i)]) hx hb dX0_firstWeight_34 rfl hl (by decide) rfl (fun ls hl => ?_)
      refine lv_aload_n hx hb dX0_firstWeight_35 rfl (lv_at hl 2 rfl) ?_
      obtain ⟨r10, er10⟩ : ∃ z, kR κ this 0 = z := ⟨_, rfl⟩
      have tr10 : zk σ0 r10 8 := by rw [← er10]; exact hT0.ref t_this (by decide) (by decide) (by decide)
      refine va_get (D := κ.1) (ci := 0) (v := .ref (kR κ this 0)) (C := RX0) (T := TX0) (N := 7) hx hb hg inX0 hown hK (hT.o4 (hT.k t_this (by decide))).one 0 rfl rfl 0 (by decide) (hg _ k154) (fun _ h9 => h9) rfl dX0_firstWeight_36 ?_
      rw [er10]
      refine lv_iload_n hx hb dX0_firstWeight_39 rfl (lv_at hl 0 rfl) ?_
      refine va_iald hx hb hK (hT.o8 (hT.k tr10 (by decide))).one 0 0 rfl rfl (g_in (by omega) (by omega)) dX0_firstWeight_40 ?_
      refine lv_topi (fun t11 ht11 => ?_)
      refine lv_aload_n hx hb dX0_firstWeight_41 rfl (lv_at hl 2 rfl) ?_
      refine va_get (D := κ.1) (ci := 0) (v := .ref (kR κ this 0)) (C := RX0) (T := TX0) (N := 7) hx hb hg inX0 hown hK (hT.o4 (hT.k t_this (by decide))).one 0 rfl rfl 0 (by decide) (hg _ k154) (fun _ h9 => h9) rfl dX0_firstWeight_42 ?_
      rw [er10]
      refine lv_iload_n hx hb dX0_firstWeight_45 rfl (lv_at hl 1 rfl) ?_
      refine va_iald hx hb hK (hT.o8 (hT.k tr10 (by decide))).one 0 0 rfl rfl (g_in (by omega) (by omega)) dX0_firstWeight_46 ?_
      refine lv_topi (fun t12 ht12 => ?_)
      refine lv_isub hx hb dX0_firstWeight_47 ?_
      first | refine g_sub (by omega) (by omega) (fun t13 ht13 => ?_) | refine lv_topi (fun t13 ht13 => ?_)
      subst hQ9
      exact t_i hx hb hr hlocks hT trivial dX0_firstWeight_48
  · have c4 := gi_nle c9
    refine lv_iload_n hx hb dX0_firstWeight_4 rfl (lv_at hl 1 rfl) ?_
    refine lv_iconst (v := 1) hx hb dX0_firstWeight_5 (by decide) ?_
    refine lv_isub hx hb dX0_firstWeight_6 ?_
    first | refine g_sub (by omega) (by omega) (fun t14 ht14 => ?_) | refine lv_topi (fun t14 ht14 => ?_)
    refine lv_goto (tgt := 11) hx hb dX0_firstWeight_7 (by decide) ?_
    refine lv_istore_n (lv' := [(2, .int t14), (0, .ref this), (1, .int i)]) hx hb dX0_firstWeight_11 rfl hl (by decide) rfl (fun ls hl => ?_)
    refine lv_iload_n hx hb dX0_firstWeight_12 rfl (lv_at hl 2 rfl) ?_
    refine lv_aload_n hx hb dX0_firstWeight_13 rfl (lv_at hl 1 rfl) ?_
    obtain ⟨v15, ev15⟩ : ∃ zz9 : Int32, zI σ0 this 2 = zz9 := ⟨_, rfl⟩
    have qv15 : v15.toInt = (zI σ0 this 2).toInt := by rw [ev15]
    have b16 := (hT.P (hT.k t_this (by decide)) (by decide)).1
    rw [(hT.eI t_this (by decide) rfl ev15)] at b16
    have b16l := b16.1
    have b16h := b16.2
    refine va_get (D := κ.1) (ci := 0) (v := .int (zI σ0 this 2)) (C := RX0) (T := TX0) (N := 7) hx hb hg inX0 hown hK (hT.o4 (hT.k t_this (by decide))).one 0 rfl rfl 2 (by decide) (hg _ k161) (fun _ h9 => h9) rfl dX0_firstWeight_14 ?_
    rw [(hT.eI t_this (by decide) rfl ev15)]
    refine lv_iconst (v := 1) hx hb dX0_firstWeight_17 (by decide) ?_
    refine lv_isub hx hb dX0_firstWeight_18 ?_
    first | refine g_sub (by omega) (by omega) (fun t17 ht17 => ?_) | refine lv_topi (fun t17 ht17 => ?_)
    refine lv_icmp_ge (tgt := 28) hx hb dX0_firstWeight_19 (by decide) (fun c9 => ?_) (fun c9 => ?_)
    · have c5 := gi_le c9
      refine lv_aload_n hx hb dX0_firstWeight_28 rfl (lv_at hl 1 rfl) ?_
      refine va_get (D := κ.1) (ci := 0) (v := .int (zI σ0 this 2)) (C := RX0) (T := TX0) (N := 7) hx hb hg inX0 hown hK (hT.o4 (hT.k t_this (by decide))).one 0 rfl rfl 2 (by decide) (hg _ k161) (fun _ h9 => h9) rfl dX0_firstWeight_29 ?_
      rw [(hT.eI t_this (by decide) rfl ev15)]
      refine lv_iconst (v := 1) hx hb dX0_firstWeight_32 (by decide) ?_
      refine lv_isub hx hb dX0_firstWeight_33 ?_
      first | refine g_sub (by omega) (by omega) (fun t18 ht18 => ?_) | refine lv_topi (fun t18 ht18 => ?_)
      refine lv_istore_n (lv' := [(3, .int t18), (2, .int t14), (0, .ref this), (1, .int i)]) hx hb dX0_firstWeight_34 rfl hl (by decide) rfl (fun ls hl => ?_)
      refine lv_aload_n hx hb dX0_firstWeight_35 rfl (lv_at hl 2 rfl) ?_
      obtain ⟨r19, er19⟩ : ∃ z, kR κ this 0 = z := ⟨_, rfl⟩
      have tr19 : zk σ0 r19 8 := by rw [← er19]; exact hT0.ref t_this (by decide) (by decide) (by decide)
      refine va_get (D := κ.1) (ci := 0) (v := .ref (kR κ this 0)) (C := RX0) (T := TX0) (N := 7) hx hb hg inX0 hown hK (hT.o4 (hT.k t_this (by decide))).one 0 rfl rfl 0 (by decide) (hg _ k154) (fun _ h9 => h9) rfl dX0_firstWeight_36 ?_
      rw [er19]
      refine lv_iload_n hx hb dX0_firstWeight_39 rfl (lv_at hl 0 rfl) ?_
      refine va_iald hx hb hK (hT.o8 (hT.k tr19 (by decide))).one 0 0 rfl rfl (g_in (by omega) (by omega)) dX0_firstWeight_40 ?_
      refine lv_topi (fun t20 ht20 => ?_)
      refine lv_aload_n hx hb dX0_firstWeight_41 rfl (lv_at hl 2 rfl) ?_
      refine va_get (D := κ.1) (ci := 0) (v := .ref (kR κ this 0)) (C := RX0) (T := TX0) (N := 7) hx hb hg inX0 hown hK (hT.o4 (hT.k t_this (by decide))).one 0 rfl rfl 0 (by decide) (hg _ k154) (fun _ h9 => h9) rfl dX0_firstWeight_42 ?_
      rw [er19]
      refine lv_iload_n hx hb dX0_firstWeight_45 rfl (lv_at hl 1 rfl) ?_
      refine va_iald hx hb hK (hT.o8 (hT.k tr19 (by decide))).one 0 0 rfl rfl (g_in (by omega) (by omega)) dX0_firstWeight_46 ?_
      refine lv_topi (fun t21 ht21 => ?_)
      refine lv_isub hx hb dX0_firstWeight_47 ?_
      first | refine g_sub (by omega) (by omega) (fun t22 ht22 => ?_) | refine lv_topi (fun t22 ht22 => ?_)
      subst hQ9
      exact t_i hx hb hr hlocks hT trivial dX0_firstWeight_48
    · have c6 := gi_nle c9
      refine lv_iload_n hx hb dX0_firstWeight_22 rfl (lv_at hl 2 rfl) ?_
      refine lv_iconst (v := 1) hx hb dX0_firstWeight_23 (by decide) ?_
      refine lv_iadd hx hb dX0_firstWeight_24 ?_
      first | refine g_add (by omega) (by omega) (fun t23 ht23 => ?_) | refine lv_topi (fun t23 ht23 => ?_)
      refine lv_goto (tgt := 34) hx hb dX0_firstWeight_25 (by decide) ?_
      refine lv_istore_n (lv' := [(3, .int t23), (2, .int t14), (0, .ref this), (1, .int i)]) hx hb dX0_firstWeight_34 rfl hl (by decide) rfl (fun ls hl => ?_)
      refine lv_aload_n hx hb dX0_firstWeight_35 rfl (lv_at hl 2 rfl) ?_
      obtain ⟨r24, er24⟩ : ∃ z, kR κ this 0 = z := ⟨_, rfl⟩
      have tr24 : zk σ0 r24 8 := by rw [← er24]; exact hT0.ref t_this (by decide) (by decide) (by decide)
      refine va_get (D := κ.1) (ci := 0) (v := .ref (kR κ this 0)) (C := RX0) (T := TX0) (N := 7) hx hb hg inX0 hown hK (hT.o4 (hT.k t_this (by decide))).one 0 rfl rfl 0 (by decide) (hg _ k154) (fun _ h9 => h9) rfl dX0_firstWeight_36 ?_
      rw [er24]
      refine lv_iload_n hx hb dX0_firstWeight_39 rfl (lv_at hl 0 rfl) ?_
      refine va_iald hx hb hK (hT.o8 (hT.k tr24 (by decide))).one 0 0 rfl rfl (g_in (by omega) (by omega)) dX0_firstWeight_40 ?_
      refine lv_topi (fun t25 ht25 => ?_)
      refine lv_aload_n hx hb dX0_firstWeight_41 rfl (lv_at hl 2 rfl) ?_
      refine va_get (D := κ.1) (ci := 0) (v := .ref (kR κ this 0)) (C := RX0) (T := TX0) (N := 7) hx hb hg inX0 hown hK (hT.o4 (hT.k t_this (by decide))).one 0 rfl rfl 0 (by decide) (hg _ k154) (fun _ h9 => h9) rfl dX0_firstWeight_42 ?_
      rw [er24]
      refine lv_iload_n hx hb dX0_firstWeight_45 rfl (lv_at hl 1 rfl) ?_
      refine va_iald hx hb hK (hT.o8 (hT.k tr24 (by decide))).one 0 0 rfl rfl (g_in (by omega) (by omega)) dX0_firstWeight_46 ?_
      refine lv_topi (fun t26 ht26 => ?_)
      refine lv_isub hx hb dX0_firstWeight_47 ?_
      first | refine g_sub (by omega) (by omega) (fun t27 ht27 => ?_) | refine lv_topi (fun t27 ht27 => ?_)
      subst hQ9
      exact t_i hx hb hr hlocks hT trivial dX0_firstWeight_48

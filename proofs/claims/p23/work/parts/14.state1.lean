/-! State over any state: reports, begin, copy, prediction -/
theorem sub_fE_fBe : ∀ t k, fBe t k = false → fE t k = false := by
  intro t k h
  simp [fE, fBe] at h ⊢ <;> omega
theorem sub_fSp_fCp : ∀ t k, fCp t k = false → fSp t k = false := by
  intro t k h
  simp [fSp, fCp] at h ⊢ <;> omega
theorem sub_fW_fBe : ∀ t k, fBe t k = false → fW t k = false := by
  intro t k h
  simp [fW, fBe] at h ⊢ <;> omega
theorem sub_fW_fCp : ∀ t k, fCp t k = false → fW t k = false := by
  intro t k h
  simp [fW, fCp] at h ⊢ <;> omega
theorem sub_fX_fBe : ∀ t k, fBe t k = false → fX t k = false := by
  intro t k h
  simp [fX, fBe] at h ⊢ <;> omega
theorem k10 : Cond.selects RX1 yX1_predictInto yX1_predictInto ∈ GW := gm 10 (by decide +kernel) (by decide +kernel)
theorem k11 : Cond.selects RX1 yX1_isLeftNear yX1_isLeftNear ∈ GW := gm 11 (by decide +kernel) (by decide +kernel)
theorem k86 : Cond.initialized RX0 ∈ GW := gm 86 (by decide +kernel) (by decide +kernel)
theorem k87 : Cond.initialized RX1 ∈ GW := gm 87 (by decide +kernel) (by decide +kernel)
theorem k89 : Cond.initialized RX2 ∈ GW := gm 89 (by decide +kernel) (by decide +kernel)
theorem k157 : Cond.fieldLink RX1 108 "LiftingSignal$Source" "position" "[I" ∈ GW := gm 157 (by decide +kernel) (by decide +kernel)
theorem k159 : Cond.fieldLink RX1 63 "LiftingSignal$Source" "original" "[I" ∈ GW := gm 159 (by decide +kernel) (by decide +kernel)
theorem k162 : Cond.fieldLink RX1 58 "LiftingSignal$Source" "count" "I" ∈ GW := gm 162 (by decide +kernel) (by decide +kernel)
theorem k166 : Cond.fieldLink RX1 74 "LiftingSignal$Source" "split" "I" ∈ GW := gm 166 (by decide +kernel) (by decide +kernel)
theorem k169 : Cond.fieldLink RX1 78 "LiftingSignal$Source" "predict" "I" ∈ GW := gm 169 (by decide +kernel) (by decide +kernel)
theorem k172 : Cond.fieldLink RX1 82 "LiftingSignal$Source" "isKeep" "Z" ∈ GW := gm 172 (by decide +kernel) (by decide +kernel)
theorem k274 : Cond.methodLink RX1 54 yX4_become ∈ GW := gm 274 (by decide +kernel) (by decide +kernel)
theorem k278 : Cond.fieldLink RX1 49 "LiftingSignal$State" "source" "LLiftingSignal$Source;" ∈ GW := gm 278 (by decide +kernel) (by decide +kernel)
theorem k279 : Cond.fieldLink RX1 11 "LiftingSignal$State" "value" "[LLiftingSignal$Whole;" ∈ GW := gm 279 (by decide +kernel) (by decide +kernel)
theorem k281 : Cond.fieldLink RX1 17 "LiftingSignal$State" "weight" "[J" ∈ GW := gm 281 (by decide +kernel) (by decide +kernel)
theorem k283 : Cond.fieldLink RX1 21 "LiftingSignal$State" "stepOf" "[I" ∈ GW := gm 283 (by decide +kernel) (by decide +kernel)
theorem k285 : Cond.fieldLink RX1 27 "LiftingSignal$State" "steps" "[LLiftingSignal$Step;" ∈ GW := gm 285 (by decide +kernel) (by decide +kernel)
theorem k287 : Cond.fieldLink RX1 31 "LiftingSignal$State" "stepCount" "I" ∈ GW := gm 287 (by decide +kernel) (by decide +kernel)
theorem k289 : Cond.fieldLink RX1 36 "LiftingSignal$State" "integral" "LLiftingSignal$Whole;" ∈ GW := gm 289 (by decide +kernel) (by decide +kernel)
theorem k291 : Cond.fieldLink RX1 77 "LiftingSignal$State" "split" "I" ∈ GW := gm 291 (by decide +kernel) (by decide +kernel)
theorem k293 : Cond.fieldLink RX1 81 "LiftingSignal$State" "predict" "I" ∈ GW := gm 293 (by decide +kernel) (by decide +kernel)
theorem k295 : Cond.fieldLink RX1 86 "LiftingSignal$State" "isKeep" "Z" ∈ GW := gm 295 (by decide +kernel) (by decide +kernel)
theorem k297 : Cond.fieldLink RX1 40 "LiftingSignal$State" "one" "LLiftingSignal$Whole;" ∈ GW := gm 297 (by decide +kernel) (by decide +kernel)
theorem k299 : Cond.fieldLink RX1 46 "LiftingSignal$State" "result" "LLiftingSignal$Whole;" ∈ GW := gm 299 (by decide +kernel) (by decide +kernel)
theorem k336 : Cond.methodLink RX1 66 yX0_firstWeight ∈ GW := gm 336 (by decide +kernel) (by decide +kernel)
theorem k337 : Cond.instanceMethod yX0_firstWeight ∈ GW := gm 337 (by decide +kernel) (by decide +kernel)
theorem k338 : Cond.selects RX0 yX0_firstWeight yX0_firstWeight ∈ GW := gm 338 (by decide +kernel) (by decide +kernel)
theorem k339 : Cond.code yX0_firstWeight cX0_firstWeight 4 (some .int) ∈ GW := gm 339 (by decide +kernel) (by decide +kernel)
theorem k340 : Cond.methodLink RX1 70 yX4_add ∈ GW := gm 340 (by decide +kernel) (by decide +kernel)
theorem k341 : Cond.instanceMethod yX4_add ∈ GW := gm 341 (by decide +kernel) (by decide +kernel)
theorem k342 : Cond.selects RX4 yX4_add yX4_add ∈ GW := gm 342 (by decide +kernel) (by decide +kernel)
theorem k343 : Cond.code yX4_add cX4_add 7 none ∈ GW := gm 343 (by decide +kernel) (by decide +kernel)
theorem k455 : Cond.methodLink RX1 87 yX4_copyFrom ∈ GW := gm 455 (by decide +kernel) (by decide +kernel)
theorem k459 : Cond.methodLink RX1 100 yX1_isPresent ∈ GW := gm 459 (by decide +kernel) (by decide +kernel)
theorem k460 : Cond.instanceMethod yX1_isPresent ∈ GW := gm 460 (by decide +kernel) (by decide +kernel)
theorem k461 : Cond.selects RX1 yX1_isPresent yX1_isPresent ∈ GW := gm 461 (by decide +kernel) (by decide +kernel)
theorem k462 : Cond.code yX1_isPresent cX1_isPresent 2 (some .boolean) ∈ GW := gm 462 (by decide +kernel) (by decide +kernel)
theorem k542 : Cond.methodLink RX1 111 yX1_predictInto ∈ GW := gm 542 (by decide +kernel) (by decide +kernel)
theorem k544 : Cond.instanceMethod yX1_predictInto ∈ GW := gm 544 (by decide +kernel) (by decide +kernel)
theorem k545 : Cond.code yX1_predictInto cX1_predictInto 6 none ∈ GW := gm 545 (by decide +kernel) (by decide +kernel)
theorem k546 : Cond.methodLink RX1 138 yX1_isLeftNear ∈ GW := gm 546 (by decide +kernel) (by decide +kernel)
theorem k548 : Cond.instanceMethod yX1_isLeftNear ∈ GW := gm 548 (by decide +kernel) (by decide +kernel)
theorem k549 : Cond.code yX1_isLeftNear cX1_isLeftNear 4 (some .boolean) ∈ GW := gm 549 (by decide +kernel) (by decide +kernel)
theorem k550 : Cond.constantLong RX1 136 (-1) ∈ GW := gm 550 (by decide +kernel) (by decide +kernel)
theorem k551 : Cond.methodLink RX1 104 yX4_scale ∈ GW := gm 551 (by decide +kernel) (by decide +kernel)
theorem k552 : Cond.instanceMethod yX4_scale ∈ GW := gm 552 (by decide +kernel) (by decide +kernel)
theorem k553 : Cond.selects RX4 yX4_scale yX4_scale ∈ GW := gm 553 (by decide +kernel) (by decide +kernel)
theorem k554 : Cond.code yX4_scale cX4_scale 6 none ∈ GW := gm 554 (by decide +kernel) (by decide +kernel)
theorem k1024 : Cond.constant RX1 115 1103515245 ∈ GW := gm 1024 (by decide +kernel) (by decide +kernel)
theorem k1127 : Cond.methodLink RX1 91 arraycopyName ∈ GW := gm 1127 (by decide +kernel) (by decide +kernel)
theorem k1128 : Cond.methodLink RX1 97 yX2_copyFrom ∈ GW := gm 1128 (by decide +kernel) (by decide +kernel)
theorem k1129 : Cond.instanceMethod yX2_copyFrom ∈ GW := gm 1129 (by decide +kernel) (by decide +kernel)
theorem k1130 : Cond.selects RX2 yX2_copyFrom yX2_copyFrom ∈ GW := gm 1130 (by decide +kernel) (by decide +kernel)
theorem k1131 : Cond.code yX2_copyFrom cX2_copyFrom 2 none ∈ GW := gm 1131 (by decide +kernel) (by decide +kernel)
theorem dX1_addNoise_0 : decode cX1_addNoise 0 = .ok (.iconst 2, 1) := by decide +kernel
theorem dX1_addNoise_1 : decode cX1_addNoise 1 = .ok (.iload_n 2, 1) := by decide +kernel
theorem dX1_addNoise_2 : decode cX1_addNoise 2 = .ok (.imul, 1) := by decide +kernel
theorem dX1_addNoise_3 : decode cX1_addNoise 3 = .ok (.iconst 1, 1) := by decide +kernel
theorem dX1_addNoise_4 : decode cX1_addNoise 4 = .ok (.iadd, 1) := by decide +kernel
theorem dX1_addNoise_5 : decode cX1_addNoise 5 = .ok (.istore_n 3, 1) := by decide +kernel
theorem dX1_addNoise_6 : decode cX1_addNoise 6 = .ok (.iload_n 1, 1) := by decide +kernel
theorem dX1_addNoise_7 : decode cX1_addNoise 7 = .ok (.istore 4, 2) := by decide +kernel
theorem dX1_addNoise_9 : decode cX1_addNoise 9 = .ok (.iconst 0, 1) := by decide +kernel
theorem dX1_addNoise_10 : decode cX1_addNoise 10 = .ok (.istore 5, 2) := by decide +kernel
theorem dX1_addNoise_12 : decode cX1_addNoise 12 = .ok (.iload 5, 2) := by decide +kernel
theorem dX1_addNoise_14 : decode cX1_addNoise 14 = .ok (.aload_n 0, 1) := by decide +kernel
theorem dX1_addNoise_15 : decode cX1_addNoise 15 = .ok (.getfield 49, 3) := by decide +kernel
theorem dX1_addNoise_18 : decode cX1_addNoise 18 = .ok (.getfield 58, 3) := by decide +kernel
theorem dX1_addNoise_21 : decode cX1_addNoise 21 = .ok (.if_icmp .ge 74, 3) := by decide +kernel
theorem dX1_addNoise_24 : decode cX1_addNoise 24 = .ok (.iload_n 3, 1) := by decide +kernel
theorem dX1_addNoise_25 : decode cX1_addNoise 25 = .ok (.ifCond .le 70, 3) := by decide +kernel
theorem dX1_addNoise_28 : decode cX1_addNoise 28 = .ok (.iload 4, 2) := by decide +kernel
theorem dX1_addNoise_30 : decode cX1_addNoise 30 = .ok (.ldc 115, 2) := by decide +kernel
theorem dX1_addNoise_32 : decode cX1_addNoise 32 = .ok (.imul, 1) := by decide +kernel
theorem dX1_addNoise_33 : decode cX1_addNoise 33 = .ok (.sipush 12345, 3) := by decide +kernel
theorem dX1_addNoise_36 : decode cX1_addNoise 36 = .ok (.iadd, 1) := by decide +kernel
theorem dX1_addNoise_37 : decode cX1_addNoise 37 = .ok (.istore 4, 2) := by decide +kernel
theorem dX1_addNoise_39 : decode cX1_addNoise 39 = .ok (.iload 4, 2) := by decide +kernel
theorem dX1_addNoise_41 : decode cX1_addNoise 41 = .ok (.bipush 16, 2) := by decide +kernel
theorem dX1_addNoise_43 : decode cX1_addNoise 43 = .ok (.iushr, 1) := by decide +kernel
theorem dX1_addNoise_44 : decode cX1_addNoise 44 = .ok (.iload_n 3, 1) := by decide +kernel
theorem dX1_addNoise_45 : decode cX1_addNoise 45 = .ok (.irem, 1) := by decide +kernel
theorem dX1_addNoise_46 : decode cX1_addNoise 46 = .ok (.iload_n 2, 1) := by decide +kernel
theorem dX1_addNoise_47 : decode cX1_addNoise 47 = .ok (.isub, 1) := by decide +kernel
theorem dX1_addNoise_48 : decode cX1_addNoise 48 = .ok (.istore 6, 2) := by decide +kernel
theorem dX1_addNoise_50 : decode cX1_addNoise 50 = .ok (.aload_n 0, 1) := by decide +kernel
theorem dX1_addNoise_51 : decode cX1_addNoise 51 = .ok (.getfield 11, 3) := by decide +kernel
theorem dX1_addNoise_54 : decode cX1_addNoise 54 = .ok (.iload 5, 2) := by decide +kernel
theorem dX1_addNoise_56 : decode cX1_addNoise 56 = .ok (.aaload, 1) := by decide +kernel
theorem dX1_addNoise_57 : decode cX1_addNoise 57 = .ok (.aload_n 0, 1) := by decide +kernel
theorem dX1_addNoise_58 : decode cX1_addNoise 58 = .ok (.getfield 40, 3) := by decide +kernel
theorem dX1_addNoise_61 : decode cX1_addNoise 61 = .ok (.iload 6, 2) := by decide +kernel
theorem dX1_addNoise_63 : decode cX1_addNoise 63 = .ok (.i2l, 1) := by decide +kernel
theorem dX1_addNoise_64 : decode cX1_addNoise 64 = .ok (.invokevirtual 70, 3) := by decide +kernel
theorem dX1_addNoise_67 : decode cX1_addNoise 67 = .ok (.aload_n 0, 1) := by decide +kernel
theorem dX1_addNoise_68 : decode cX1_addNoise 68 = .ok (.getfield 36, 3) := by decide +kernel
theorem dX1_addNoise_71 : decode cX1_addNoise 71 = .ok (.aload_n 0, 1) := by decide +kernel
theorem dX1_addNoise_72 : decode cX1_addNoise 72 = .ok (.getfield 40, 3) := by decide +kernel
theorem dX1_addNoise_75 : decode cX1_addNoise 75 = .ok (.aload_n 0, 1) := by decide +kernel
theorem dX1_addNoise_76 : decode cX1_addNoise 76 = .ok (.getfield 17, 3) := by decide +kernel
theorem dX1_addNoise_79 : decode cX1_addNoise 79 = .ok (.iload 5, 2) := by decide +kernel
theorem dX1_addNoise_81 : decode cX1_addNoise 81 = .ok (.laload, 1) := by decide +kernel
theorem dX1_addNoise_82 : decode cX1_addNoise 82 = .ok (.iload 6, 2) := by decide +kernel
theorem dX1_addNoise_84 : decode cX1_addNoise 84 = .ok (.i2l, 1) := by decide +kernel
theorem dX1_addNoise_85 : decode cX1_addNoise 85 = .ok (.lmul, 1) := by decide +kernel
theorem dX1_addNoise_86 : decode cX1_addNoise 86 = .ok (.invokevirtual 70, 3) := by decide +kernel
theorem dX1_addNoise_89 : decode cX1_addNoise 89 = .ok (.iinc 5 1, 3) := by decide +kernel
theorem dX1_addNoise_92 : decode cX1_addNoise 92 = .ok (.goto (-80), 3) := by decide +kernel
theorem dX1_addNoise_95 : decode cX1_addNoise 95 = .ok (.return_, 1) := by decide +kernel
theorem dX1_begin_0 : decode cX1_begin 0 = .ok (.aload_n 0, 1) := by decide +kernel
theorem dX1_begin_1 : decode cX1_begin 1 = .ok (.getfield 36, 3) := by decide +kernel
theorem dX1_begin_4 : decode cX1_begin 4 = .ok (.lconst 0, 1) := by decide +kernel
theorem dX1_begin_5 : decode cX1_begin 5 = .ok (.invokevirtual 54, 3) := by decide +kernel
theorem dX1_begin_8 : decode cX1_begin 8 = .ok (.iconst 0, 1) := by decide +kernel
theorem dX1_begin_9 : decode cX1_begin 9 = .ok (.istore_n 1, 1) := by decide +kernel
theorem dX1_begin_10 : decode cX1_begin 10 = .ok (.iload_n 1, 1) := by decide +kernel
theorem dX1_begin_11 : decode cX1_begin 11 = .ok (.aload_n 0, 1) := by decide +kernel
theorem dX1_begin_12 : decode cX1_begin 12 = .ok (.getfield 49, 3) := by decide +kernel
theorem dX1_begin_15 : decode cX1_begin 15 = .ok (.getfield 58, 3) := by decide +kernel
theorem dX1_begin_18 : decode cX1_begin 18 = .ok (.if_icmp .ge 69, 3) := by decide +kernel
theorem dX1_begin_21 : decode cX1_begin 21 = .ok (.aload_n 0, 1) := by decide +kernel
theorem dX1_begin_22 : decode cX1_begin 22 = .ok (.getfield 11, 3) := by decide +kernel
theorem dX1_begin_25 : decode cX1_begin 25 = .ok (.iload_n 1, 1) := by decide +kernel
theorem dX1_begin_26 : decode cX1_begin 26 = .ok (.aaload, 1) := by decide +kernel
theorem dX1_begin_27 : decode cX1_begin 27 = .ok (.aload_n 0, 1) := by decide +kernel
theorem dX1_begin_28 : decode cX1_begin 28 = .ok (.getfield 49, 3) := by decide +kernel
theorem dX1_begin_31 : decode cX1_begin 31 = .ok (.getfield 63, 3) := by decide +kernel
theorem dX1_begin_34 : decode cX1_begin 34 = .ok (.iload_n 1, 1) := by decide +kernel
theorem dX1_begin_35 : decode cX1_begin 35 = .ok (.iaload, 1) := by decide +kernel
theorem dX1_begin_36 : decode cX1_begin 36 = .ok (.i2l, 1) := by decide +kernel
theorem dX1_begin_37 : decode cX1_begin 37 = .ok (.invokevirtual 54, 3) := by decide +kernel
theorem dX1_begin_40 : decode cX1_begin 40 = .ok (.aload_n 0, 1) := by decide +kernel
theorem dX1_begin_41 : decode cX1_begin 41 = .ok (.getfield 17, 3) := by decide +kernel
theorem dX1_begin_44 : decode cX1_begin 44 = .ok (.iload_n 1, 1) := by decide +kernel
theorem dX1_begin_45 : decode cX1_begin 45 = .ok (.aload_n 0, 1) := by decide +kernel
theorem dX1_begin_46 : decode cX1_begin 46 = .ok (.getfield 49, 3) := by decide +kernel
theorem dX1_begin_49 : decode cX1_begin 49 = .ok (.iload_n 1, 1) := by decide +kernel
theorem dX1_begin_50 : decode cX1_begin 50 = .ok (.invokevirtual 66, 3) := by decide +kernel
theorem dX1_begin_53 : decode cX1_begin 53 = .ok (.i2l, 1) := by decide +kernel
theorem dX1_begin_54 : decode cX1_begin 54 = .ok (.lastore, 1) := by decide +kernel
theorem dX1_begin_55 : decode cX1_begin 55 = .ok (.aload_n 0, 1) := by decide +kernel
theorem dX1_begin_56 : decode cX1_begin 56 = .ok (.getfield 21, 3) := by decide +kernel
theorem dX1_begin_59 : decode cX1_begin 59 = .ok (.iload_n 1, 1) := by decide +kernel
theorem dX1_begin_60 : decode cX1_begin 60 = .ok (.iconst (-1), 1) := by decide +kernel
theorem dX1_begin_61 : decode cX1_begin 61 = .ok (.iastore, 1) := by decide +kernel
theorem dX1_begin_62 : decode cX1_begin 62 = .ok (.aload_n 0, 1) := by decide +kernel
theorem dX1_begin_63 : decode cX1_begin 63 = .ok (.getfield 36, 3) := by decide +kernel
theorem dX1_begin_66 : decode cX1_begin 66 = .ok (.aload_n 0, 1) := by decide +kernel
theorem dX1_begin_67 : decode cX1_begin 67 = .ok (.getfield 11, 3) := by decide +kernel
theorem dX1_begin_70 : decode cX1_begin 70 = .ok (.iload_n 1, 1) := by decide +kernel
theorem dX1_begin_71 : decode cX1_begin 71 = .ok (.aaload, 1) := by decide +kernel
theorem dX1_begin_72 : decode cX1_begin 72 = .ok (.aload_n 0, 1) := by decide +kernel
theorem dX1_begin_73 : decode cX1_begin 73 = .ok (.getfield 17, 3) := by decide +kernel
theorem dX1_begin_76 : decode cX1_begin 76 = .ok (.iload_n 1, 1) := by decide +kernel
theorem dX1_begin_77 : decode cX1_begin 77 = .ok (.laload, 1) := by decide +kernel
theorem dX1_begin_78 : decode cX1_begin 78 = .ok (.invokevirtual 70, 3) := by decide +kernel
theorem dX1_begin_81 : decode cX1_begin 81 = .ok (.iinc 1 1, 3) := by decide +kernel
theorem dX1_begin_84 : decode cX1_begin 84 = .ok (.goto (-74), 3) := by decide +kernel
theorem dX1_begin_87 : decode cX1_begin 87 = .ok (.aload_n 0, 1) := by decide +kernel
theorem dX1_begin_88 : decode cX1_begin 88 = .ok (.iconst 0, 1) := by decide +kernel
theorem dX1_begin_89 : decode cX1_begin 89 = .ok (.putfield 31, 3) := by decide +kernel
theorem dX1_begin_92 : decode cX1_begin 92 = .ok (.return_, 1) := by decide +kernel
theorem dX1_changeValue_0 : decode cX1_changeValue 0 = .ok (.aload_n 0, 1) := by decide +kernel
theorem dX1_changeValue_1 : decode cX1_changeValue 1 = .ok (.getfield 36, 3) := by decide +kernel
theorem dX1_changeValue_4 : decode cX1_changeValue 4 = .ok (.aload_n 0, 1) := by decide +kernel
theorem dX1_changeValue_5 : decode cX1_changeValue 5 = .ok (.getfield 11, 3) := by decide +kernel
theorem dX1_changeValue_8 : decode cX1_changeValue 8 = .ok (.iload_n 1, 1) := by decide +kernel
theorem dX1_changeValue_9 : decode cX1_changeValue 9 = .ok (.aaload, 1) := by decide +kernel
theorem dX1_changeValue_10 : decode cX1_changeValue 10 = .ok (.aload_n 0, 1) := by decide +kernel
theorem dX1_changeValue_11 : decode cX1_changeValue 11 = .ok (.getfield 17, 3) := by decide +kernel
theorem dX1_changeValue_14 : decode cX1_changeValue 14 = .ok (.iload_n 1, 1) := by decide +kernel
theorem dX1_changeValue_15 : decode cX1_changeValue 15 = .ok (.laload, 1) := by decide +kernel
theorem dX1_changeValue_16 : decode cX1_changeValue 16 = .ok (.lneg, 1) := by decide +kernel
theorem dX1_changeValue_17 : decode cX1_changeValue 17 = .ok (.invokevirtual 70, 3) := by decide +kernel
theorem dX1_changeValue_20 : decode cX1_changeValue 20 = .ok (.aload_n 0, 1) := by decide +kernel
theorem dX1_changeValue_21 : decode cX1_changeValue 21 = .ok (.getfield 11, 3) := by decide +kernel
theorem dX1_changeValue_24 : decode cX1_changeValue 24 = .ok (.iload_n 1, 1) := by decide +kernel
theorem dX1_changeValue_25 : decode cX1_changeValue 25 = .ok (.aaload, 1) := by decide +kernel
theorem dX1_changeValue_26 : decode cX1_changeValue 26 = .ok (.iload_n 2, 1) := by decide +kernel
theorem dX1_changeValue_27 : decode cX1_changeValue 27 = .ok (.i2l, 1) := by decide +kernel
theorem dX1_changeValue_28 : decode cX1_changeValue 28 = .ok (.invokevirtual 54, 3) := by decide +kernel
theorem dX1_changeValue_31 : decode cX1_changeValue 31 = .ok (.aload_n 0, 1) := by decide +kernel
theorem dX1_changeValue_32 : decode cX1_changeValue 32 = .ok (.getfield 36, 3) := by decide +kernel
theorem dX1_changeValue_35 : decode cX1_changeValue 35 = .ok (.aload_n 0, 1) := by decide +kernel
theorem dX1_changeValue_36 : decode cX1_changeValue 36 = .ok (.getfield 11, 3) := by decide +kernel
theorem dX1_changeValue_39 : decode cX1_changeValue 39 = .ok (.iload_n 1, 1) := by decide +kernel
theorem dX1_changeValue_40 : decode cX1_changeValue 40 = .ok (.aaload, 1) := by decide +kernel
theorem dX1_changeValue_41 : decode cX1_changeValue 41 = .ok (.aload_n 0, 1) := by decide +kernel
theorem dX1_changeValue_42 : decode cX1_changeValue 42 = .ok (.getfield 17, 3) := by decide +kernel
theorem dX1_changeValue_45 : decode cX1_changeValue 45 = .ok (.iload_n 1, 1) := by decide +kernel
theorem dX1_changeValue_46 : decode cX1_changeValue 46 = .ok (.laload, 1) := by decide +kernel
theorem dX1_changeValue_47 : decode cX1_changeValue 47 = .ok (.invokevirtual 70, 3) := by decide +kernel
theorem dX1_changeValue_50 : decode cX1_changeValue 50 = .ok (.return_, 1) := by decide +kernel
theorem dX1_copyFrom_0 : decode cX1_copyFrom 0 = .ok (.iconst 0, 1) := by decide +kernel
theorem dX1_copyFrom_1 : decode cX1_copyFrom 1 = .ok (.istore_n 2, 1) := by decide +kernel
theorem dX1_copyFrom_2 : decode cX1_copyFrom 2 = .ok (.iload_n 2, 1) := by decide +kernel
theorem dX1_copyFrom_3 : decode cX1_copyFrom 3 = .ok (.aload_n 0, 1) := by decide +kernel
theorem dX1_copyFrom_4 : decode cX1_copyFrom 4 = .ok (.getfield 49, 3) := by decide +kernel
theorem dX1_copyFrom_7 : decode cX1_copyFrom 7 = .ok (.getfield 58, 3) := by decide +kernel
theorem dX1_copyFrom_10 : decode cX1_copyFrom 10 = .ok (.if_icmp .ge 24, 3) := by decide +kernel
theorem dX1_copyFrom_13 : decode cX1_copyFrom 13 = .ok (.aload_n 0, 1) := by decide +kernel
theorem dX1_copyFrom_14 : decode cX1_copyFrom 14 = .ok (.getfield 11, 3) := by decide +kernel
theorem dX1_copyFrom_17 : decode cX1_copyFrom 17 = .ok (.iload_n 2, 1) := by decide +kernel
theorem dX1_copyFrom_18 : decode cX1_copyFrom 18 = .ok (.aaload, 1) := by decide +kernel
theorem dX1_copyFrom_19 : decode cX1_copyFrom 19 = .ok (.aload_n 1, 1) := by decide +kernel
theorem dX1_copyFrom_20 : decode cX1_copyFrom 20 = .ok (.getfield 11, 3) := by decide +kernel
theorem dX1_copyFrom_23 : decode cX1_copyFrom 23 = .ok (.iload_n 2, 1) := by decide +kernel
theorem dX1_copyFrom_24 : decode cX1_copyFrom 24 = .ok (.aaload, 1) := by decide +kernel
theorem dX1_copyFrom_25 : decode cX1_copyFrom 25 = .ok (.invokevirtual 87, 3) := by decide +kernel
theorem dX1_copyFrom_28 : decode cX1_copyFrom 28 = .ok (.iinc 2 1, 3) := by decide +kernel
theorem dX1_copyFrom_31 : decode cX1_copyFrom 31 = .ok (.goto (-29), 3) := by decide +kernel
theorem dX1_copyFrom_34 : decode cX1_copyFrom 34 = .ok (.aload_n 1, 1) := by decide +kernel
theorem dX1_copyFrom_35 : decode cX1_copyFrom 35 = .ok (.getfield 17, 3) := by decide +kernel
theorem dX1_copyFrom_38 : decode cX1_copyFrom 38 = .ok (.iconst 0, 1) := by decide +kernel
theorem dX1_copyFrom_39 : decode cX1_copyFrom 39 = .ok (.aload_n 0, 1) := by decide +kernel
theorem dX1_copyFrom_40 : decode cX1_copyFrom 40 = .ok (.getfield 17, 3) := by decide +kernel
theorem dX1_copyFrom_43 : decode cX1_copyFrom 43 = .ok (.iconst 0, 1) := by decide +kernel
theorem dX1_copyFrom_44 : decode cX1_copyFrom 44 = .ok (.bipush 48, 2) := by decide +kernel
theorem dX1_copyFrom_46 : decode cX1_copyFrom 46 = .ok (.invokestatic 91, 3) := by decide +kernel
theorem dX1_copyFrom_49 : decode cX1_copyFrom 49 = .ok (.aload_n 1, 1) := by decide +kernel
theorem dX1_copyFrom_50 : decode cX1_copyFrom 50 = .ok (.getfield 21, 3) := by decide +kernel
theorem dX1_copyFrom_53 : decode cX1_copyFrom 53 = .ok (.iconst 0, 1) := by decide +kernel
theorem dX1_copyFrom_54 : decode cX1_copyFrom 54 = .ok (.aload_n 0, 1) := by decide +kernel
theorem dX1_copyFrom_55 : decode cX1_copyFrom 55 = .ok (.getfield 21, 3) := by decide +kernel
theorem dX1_copyFrom_58 : decode cX1_copyFrom 58 = .ok (.iconst 0, 1) := by decide +kernel
theorem dX1_copyFrom_59 : decode cX1_copyFrom 59 = .ok (.bipush 48, 2) := by decide +kernel
theorem dX1_copyFrom_61 : decode cX1_copyFrom 61 = .ok (.invokestatic 91, 3) := by decide +kernel
theorem dX1_copyFrom_64 : decode cX1_copyFrom 64 = .ok (.iconst 0, 1) := by decide +kernel
theorem dX1_copyFrom_65 : decode cX1_copyFrom 65 = .ok (.istore_n 2, 1) := by decide +kernel
theorem dX1_copyFrom_66 : decode cX1_copyFrom 66 = .ok (.iload_n 2, 1) := by decide +kernel
theorem dX1_copyFrom_67 : decode cX1_copyFrom 67 = .ok (.aload_n 1, 1) := by decide +kernel
theorem dX1_copyFrom_68 : decode cX1_copyFrom 68 = .ok (.getfield 31, 3) := by decide +kernel
theorem dX1_copyFrom_71 : decode cX1_copyFrom 71 = .ok (.if_icmp .ge 24, 3) := by decide +kernel
theorem dX1_copyFrom_74 : decode cX1_copyFrom 74 = .ok (.aload_n 0, 1) := by decide +kernel
theorem dX1_copyFrom_75 : decode cX1_copyFrom 75 = .ok (.getfield 27, 3) := by decide +kernel
theorem dX1_copyFrom_78 : decode cX1_copyFrom 78 = .ok (.iload_n 2, 1) := by decide +kernel
theorem dX1_copyFrom_79 : decode cX1_copyFrom 79 = .ok (.aaload, 1) := by decide +kernel
theorem dX1_copyFrom_80 : decode cX1_copyFrom 80 = .ok (.aload_n 1, 1) := by decide +kernel
theorem dX1_copyFrom_81 : decode cX1_copyFrom 81 = .ok (.getfield 27, 3) := by decide +kernel
theorem dX1_copyFrom_84 : decode cX1_copyFrom 84 = .ok (.iload_n 2, 1) := by decide +kernel
theorem dX1_copyFrom_85 : decode cX1_copyFrom 85 = .ok (.aaload, 1) := by decide +kernel
theorem dX1_copyFrom_86 : decode cX1_copyFrom 86 = .ok (.invokevirtual 97, 3) := by decide +kernel
theorem dX1_copyFrom_89 : decode cX1_copyFrom 89 = .ok (.iinc 2 1, 3) := by decide +kernel
theorem dX1_copyFrom_92 : decode cX1_copyFrom 92 = .ok (.goto (-26), 3) := by decide +kernel
theorem dX1_copyFrom_95 : decode cX1_copyFrom 95 = .ok (.aload_n 0, 1) := by decide +kernel
theorem dX1_copyFrom_96 : decode cX1_copyFrom 96 = .ok (.aload_n 1, 1) := by decide +kernel
theorem dX1_copyFrom_97 : decode cX1_copyFrom 97 = .ok (.getfield 31, 3) := by decide +kernel
theorem dX1_copyFrom_100 : decode cX1_copyFrom 100 = .ok (.putfield 31, 3) := by decide +kernel
theorem dX1_copyFrom_103 : decode cX1_copyFrom 103 = .ok (.aload_n 0, 1) := by decide +kernel
theorem dX1_copyFrom_104 : decode cX1_copyFrom 104 = .ok (.getfield 36, 3) := by decide +kernel
theorem dX1_copyFrom_107 : decode cX1_copyFrom 107 = .ok (.aload_n 1, 1) := by decide +kernel
theorem dX1_copyFrom_108 : decode cX1_copyFrom 108 = .ok (.getfield 36, 3) := by decide +kernel
theorem dX1_copyFrom_111 : decode cX1_copyFrom 111 = .ok (.invokevirtual 87, 3) := by decide +kernel
theorem dX1_copyFrom_114 : decode cX1_copyFrom 114 = .ok (.aload_n 0, 1) := by decide +kernel
theorem dX1_copyFrom_115 : decode cX1_copyFrom 115 = .ok (.aload_n 1, 1) := by decide +kernel
theorem dX1_copyFrom_116 : decode cX1_copyFrom 116 = .ok (.getfield 77, 3) := by decide +kernel
theorem dX1_copyFrom_119 : decode cX1_copyFrom 119 = .ok (.putfield 77, 3) := by decide +kernel
theorem dX1_copyFrom_122 : decode cX1_copyFrom 122 = .ok (.aload_n 0, 1) := by decide +kernel
theorem dX1_copyFrom_123 : decode cX1_copyFrom 123 = .ok (.aload_n 1, 1) := by decide +kernel
theorem dX1_copyFrom_124 : decode cX1_copyFrom 124 = .ok (.getfield 81, 3) := by decide +kernel
theorem dX1_copyFrom_127 : decode cX1_copyFrom 127 = .ok (.putfield 81, 3) := by decide +kernel
theorem dX1_copyFrom_130 : decode cX1_copyFrom 130 = .ok (.aload_n 0, 1) := by decide +kernel
theorem dX1_copyFrom_131 : decode cX1_copyFrom 131 = .ok (.aload_n 1, 1) := by decide +kernel
theorem dX1_copyFrom_132 : decode cX1_copyFrom 132 = .ok (.getfield 86, 3) := by decide +kernel
theorem dX1_copyFrom_135 : decode cX1_copyFrom 135 = .ok (.putfield 86, 3) := by decide +kernel
theorem dX1_copyFrom_138 : decode cX1_copyFrom 138 = .ok (.return_, 1) := by decide +kernel
theorem dX1_driftNow_0 : decode cX1_driftNow 0 = .ok (.aload_n 0, 1) := by decide +kernel
theorem dX1_driftNow_1 : decode cX1_driftNow 1 = .ok (.getfield 46, 3) := by decide +kernel
theorem dX1_driftNow_4 : decode cX1_driftNow 4 = .ok (.aload_n 0, 1) := by decide +kernel
theorem dX1_driftNow_5 : decode cX1_driftNow 5 = .ok (.getfield 36, 3) := by decide +kernel
theorem dX1_driftNow_8 : decode cX1_driftNow 8 = .ok (.invokevirtual 87, 3) := by decide +kernel
theorem dX1_driftNow_11 : decode cX1_driftNow 11 = .ok (.iconst 0, 1) := by decide +kernel
theorem dX1_driftNow_12 : decode cX1_driftNow 12 = .ok (.istore_n 1, 1) := by decide +kernel
theorem dX1_driftNow_13 : decode cX1_driftNow 13 = .ok (.iload_n 1, 1) := by decide +kernel
theorem dX1_driftNow_14 : decode cX1_driftNow 14 = .ok (.aload_n 0, 1) := by decide +kernel
theorem dX1_driftNow_15 : decode cX1_driftNow 15 = .ok (.getfield 49, 3) := by decide +kernel
theorem dX1_driftNow_18 : decode cX1_driftNow 18 = .ok (.getfield 58, 3) := by decide +kernel
theorem dX1_driftNow_21 : decode cX1_driftNow 21 = .ok (.if_icmp .ge 37, 3) := by decide +kernel
theorem dX1_driftNow_24 : decode cX1_driftNow 24 = .ok (.aload_n 0, 1) := by decide +kernel
theorem dX1_driftNow_25 : decode cX1_driftNow 25 = .ok (.iload_n 1, 1) := by decide +kernel
theorem dX1_driftNow_26 : decode cX1_driftNow 26 = .ok (.invokevirtual 100, 3) := by decide +kernel
theorem dX1_driftNow_29 : decode cX1_driftNow 29 = .ok (.ifCond .eq 23, 3) := by decide +kernel
theorem dX1_driftNow_32 : decode cX1_driftNow 32 = .ok (.aload_n 0, 1) := by decide +kernel
theorem dX1_driftNow_33 : decode cX1_driftNow 33 = .ok (.getfield 46, 3) := by decide +kernel
theorem dX1_driftNow_36 : decode cX1_driftNow 36 = .ok (.aload_n 0, 1) := by decide +kernel
theorem dX1_driftNow_37 : decode cX1_driftNow 37 = .ok (.getfield 11, 3) := by decide +kernel
theorem dX1_driftNow_40 : decode cX1_driftNow 40 = .ok (.iload_n 1, 1) := by decide +kernel
theorem dX1_driftNow_41 : decode cX1_driftNow 41 = .ok (.aaload, 1) := by decide +kernel
theorem dX1_driftNow_42 : decode cX1_driftNow 42 = .ok (.aload_n 0, 1) := by decide +kernel
theorem dX1_driftNow_43 : decode cX1_driftNow 43 = .ok (.getfield 17, 3) := by decide +kernel
theorem dX1_driftNow_46 : decode cX1_driftNow 46 = .ok (.iload_n 1, 1) := by decide +kernel
theorem dX1_driftNow_47 : decode cX1_driftNow 47 = .ok (.laload, 1) := by decide +kernel
theorem dX1_driftNow_48 : decode cX1_driftNow 48 = .ok (.lneg, 1) := by decide +kernel
theorem dX1_driftNow_49 : decode cX1_driftNow 49 = .ok (.invokevirtual 70, 3) := by decide +kernel
theorem dX1_driftNow_52 : decode cX1_driftNow 52 = .ok (.iinc 1 1, 3) := by decide +kernel
theorem dX1_driftNow_55 : decode cX1_driftNow 55 = .ok (.goto (-42), 3) := by decide +kernel
theorem dX1_driftNow_58 : decode cX1_driftNow 58 = .ok (.aload_n 0, 1) := by decide +kernel
theorem dX1_driftNow_59 : decode cX1_driftNow 59 = .ok (.getfield 46, 3) := by decide +kernel
theorem dX1_driftNow_62 : decode cX1_driftNow 62 = .ok (.areturn, 1) := by decide +kernel
theorem dX1_integralBy_0 : decode cX1_integralBy 0 = .ok (.aload_n 0, 1) := by decide +kernel
theorem dX1_integralBy_1 : decode cX1_integralBy 1 = .ok (.getfield 46, 3) := by decide +kernel
theorem dX1_integralBy_4 : decode cX1_integralBy 4 = .ok (.aload_n 0, 1) := by decide +kernel
theorem dX1_integralBy_5 : decode cX1_integralBy 5 = .ok (.getfield 36, 3) := by decide +kernel
theorem dX1_integralBy_8 : decode cX1_integralBy 8 = .ok (.invokevirtual 87, 3) := by decide +kernel
theorem dX1_integralBy_11 : decode cX1_integralBy 11 = .ok (.aload_n 0, 1) := by decide +kernel
theorem dX1_integralBy_12 : decode cX1_integralBy 12 = .ok (.getfield 46, 3) := by decide +kernel
theorem dX1_integralBy_15 : decode cX1_integralBy 15 = .ok (.lconst 1, 1) := by decide +kernel
theorem dX1_integralBy_16 : decode cX1_integralBy 16 = .ok (.lload_n 1, 1) := by decide +kernel
theorem dX1_integralBy_17 : decode cX1_integralBy 17 = .ok (.invokevirtual 104, 3) := by decide +kernel
theorem dX1_integralBy_20 : decode cX1_integralBy 20 = .ok (.aload_n 0, 1) := by decide +kernel
theorem dX1_integralBy_21 : decode cX1_integralBy 21 = .ok (.getfield 46, 3) := by decide +kernel
theorem dX1_integralBy_24 : decode cX1_integralBy 24 = .ok (.areturn, 1) := by decide +kernel
theorem dX1_isLeftNear_0 : decode cX1_isLeftNear 0 = .ok (.iload_n 2, 1) := by decide +kernel
theorem dX1_isLeftNear_1 : decode cX1_isLeftNear 1 = .ok (.aload_n 0, 1) := by decide +kernel
theorem dX1_isLeftNear_2 : decode cX1_isLeftNear 2 = .ok (.getfield 49, 3) := by decide +kernel
theorem dX1_isLeftNear_5 : decode cX1_isLeftNear 5 = .ok (.getfield 108, 3) := by decide +kernel
theorem dX1_isLeftNear_8 : decode cX1_isLeftNear 8 = .ok (.iload_n 1, 1) := by decide +kernel
theorem dX1_isLeftNear_9 : decode cX1_isLeftNear 9 = .ok (.iaload, 1) := by decide +kernel
theorem dX1_isLeftNear_10 : decode cX1_isLeftNear 10 = .ok (.isub, 1) := by decide +kernel
theorem dX1_isLeftNear_11 : decode cX1_isLeftNear 11 = .ok (.aload_n 0, 1) := by decide +kernel
theorem dX1_isLeftNear_12 : decode cX1_isLeftNear 12 = .ok (.getfield 49, 3) := by decide +kernel
theorem dX1_isLeftNear_15 : decode cX1_isLeftNear 15 = .ok (.getfield 108, 3) := by decide +kernel
theorem dX1_isLeftNear_18 : decode cX1_isLeftNear 18 = .ok (.iload_n 3, 1) := by decide +kernel
theorem dX1_isLeftNear_19 : decode cX1_isLeftNear 19 = .ok (.iaload, 1) := by decide +kernel
theorem dX1_isLeftNear_20 : decode cX1_isLeftNear 20 = .ok (.iload_n 2, 1) := by decide +kernel
theorem dX1_isLeftNear_21 : decode cX1_isLeftNear 21 = .ok (.isub, 1) := by decide +kernel
theorem dX1_isLeftNear_22 : decode cX1_isLeftNear 22 = .ok (.if_icmp .gt 7, 3) := by decide +kernel
theorem dX1_isLeftNear_25 : decode cX1_isLeftNear 25 = .ok (.iconst 1, 1) := by decide +kernel
theorem dX1_isLeftNear_26 : decode cX1_isLeftNear 26 = .ok (.goto 4, 3) := by decide +kernel
theorem dX1_isLeftNear_29 : decode cX1_isLeftNear 29 = .ok (.iconst 0, 1) := by decide +kernel
theorem dX1_isLeftNear_30 : decode cX1_isLeftNear 30 = .ok (.ireturn, 1) := by decide +kernel
theorem dX1_isPresent_0 : decode cX1_isPresent 0 = .ok (.aload_n 0, 1) := by decide +kernel
theorem dX1_isPresent_1 : decode cX1_isPresent 1 = .ok (.getfield 21, 3) := by decide +kernel
theorem dX1_isPresent_4 : decode cX1_isPresent 4 = .ok (.iload_n 1, 1) := by decide +kernel
theorem dX1_isPresent_5 : decode cX1_isPresent 5 = .ok (.iaload, 1) := by decide +kernel
theorem dX1_isPresent_6 : decode cX1_isPresent 6 = .ok (.iconst (-1), 1) := by decide +kernel
theorem dX1_isPresent_7 : decode cX1_isPresent 7 = .ok (.if_icmp .ne 7, 3) := by decide +kernel
theorem dX1_isPresent_10 : decode cX1_isPresent 10 = .ok (.iconst 1, 1) := by decide +kernel
theorem dX1_isPresent_11 : decode cX1_isPresent 11 = .ok (.goto 4, 3) := by decide +kernel
theorem dX1_isPresent_14 : decode cX1_isPresent 14 = .ok (.iconst 0, 1) := by decide +kernel
theorem dX1_isPresent_15 : decode cX1_isPresent 15 = .ok (.ireturn, 1) := by decide +kernel
theorem dX1_leftOf_0 : decode cX1_leftOf 0 = .ok (.iload_n 1, 1) := by decide +kernel
theorem dX1_leftOf_1 : decode cX1_leftOf 1 = .ok (.iconst 1, 1) := by decide +kernel
theorem dX1_leftOf_2 : decode cX1_leftOf 2 = .ok (.isub, 1) := by decide +kernel
theorem dX1_leftOf_3 : decode cX1_leftOf 3 = .ok (.istore_n 2, 1) := by decide +kernel
theorem dX1_leftOf_4 : decode cX1_leftOf 4 = .ok (.iload_n 2, 1) := by decide +kernel
theorem dX1_leftOf_5 : decode cX1_leftOf 5 = .ok (.ifCond .lt 19, 3) := by decide +kernel
theorem dX1_leftOf_8 : decode cX1_leftOf 8 = .ok (.aload_n 0, 1) := by decide +kernel
theorem dX1_leftOf_9 : decode cX1_leftOf 9 = .ok (.iload_n 2, 1) := by decide +kernel
theorem dX1_leftOf_10 : decode cX1_leftOf 10 = .ok (.invokevirtual 100, 3) := by decide +kernel
theorem dX1_leftOf_13 : decode cX1_leftOf 13 = .ok (.ifCond .eq 5, 3) := by decide +kernel
theorem dX1_leftOf_16 : decode cX1_leftOf 16 = .ok (.iload_n 2, 1) := by decide +kernel
theorem dX1_leftOf_17 : decode cX1_leftOf 17 = .ok (.ireturn, 1) := by decide +kernel
theorem dX1_leftOf_18 : decode cX1_leftOf 18 = .ok (.iinc 2 (-1), 3) := by decide +kernel
theorem dX1_leftOf_21 : decode cX1_leftOf 21 = .ok (.goto (-17), 3) := by decide +kernel
theorem dX1_leftOf_24 : decode cX1_leftOf 24 = .ok (.iconst (-1), 1) := by decide +kernel
theorem dX1_leftOf_25 : decode cX1_leftOf 25 = .ok (.ireturn, 1) := by decide +kernel
theorem dX1_lineAt_0 : decode cX1_lineAt 0 = .ok (.iconst 0, 1) := by decide +kernel
theorem dX1_lineAt_1 : decode cX1_lineAt 1 = .ok (.istore_n 2, 1) := by decide +kernel
theorem dX1_lineAt_2 : decode cX1_lineAt 2 = .ok (.iconst 1, 1) := by decide +kernel
theorem dX1_lineAt_3 : decode cX1_lineAt 3 = .ok (.istore_n 3, 1) := by decide +kernel
theorem dX1_lineAt_4 : decode cX1_lineAt 4 = .ok (.iload_n 3, 1) := by decide +kernel
theorem dX1_lineAt_5 : decode cX1_lineAt 5 = .ok (.aload_n 0, 1) := by decide +kernel
theorem dX1_lineAt_6 : decode cX1_lineAt 6 = .ok (.getfield 49, 3) := by decide +kernel
theorem dX1_lineAt_9 : decode cX1_lineAt 9 = .ok (.getfield 58, 3) := by decide +kernel
theorem dX1_lineAt_12 : decode cX1_lineAt 12 = .ok (.if_icmp .ge 49, 3) := by decide +kernel
theorem dX1_lineAt_15 : decode cX1_lineAt 15 = .ok (.aload_n 0, 1) := by decide +kernel
theorem dX1_lineAt_16 : decode cX1_lineAt 16 = .ok (.iload_n 3, 1) := by decide +kernel
theorem dX1_lineAt_17 : decode cX1_lineAt 17 = .ok (.invokevirtual 100, 3) := by decide +kernel
theorem dX1_lineAt_20 : decode cX1_lineAt 20 = .ok (.ifCond .eq 35, 3) := by decide +kernel
theorem dX1_lineAt_23 : decode cX1_lineAt 23 = .ok (.iload_n 1, 1) := by decide +kernel
theorem dX1_lineAt_24 : decode cX1_lineAt 24 = .ok (.aload_n 0, 1) := by decide +kernel
theorem dX1_lineAt_25 : decode cX1_lineAt 25 = .ok (.getfield 49, 3) := by decide +kernel
theorem dX1_lineAt_28 : decode cX1_lineAt 28 = .ok (.getfield 108, 3) := by decide +kernel
theorem dX1_lineAt_31 : decode cX1_lineAt 31 = .ok (.iload_n 3, 1) := by decide +kernel
theorem dX1_lineAt_32 : decode cX1_lineAt 32 = .ok (.iaload, 1) := by decide +kernel
theorem dX1_lineAt_33 : decode cX1_lineAt 33 = .ok (.if_icmp .gt 20, 3) := by decide +kernel
theorem dX1_lineAt_36 : decode cX1_lineAt 36 = .ok (.aload_n 0, 1) := by decide +kernel
theorem dX1_lineAt_37 : decode cX1_lineAt 37 = .ok (.aload_n 0, 1) := by decide +kernel
theorem dX1_lineAt_38 : decode cX1_lineAt 38 = .ok (.getfield 46, 3) := by decide +kernel
theorem dX1_lineAt_41 : decode cX1_lineAt 41 = .ok (.iconst 2, 1) := by decide +kernel
theorem dX1_lineAt_42 : decode cX1_lineAt 42 = .ok (.iload_n 2, 1) := by decide +kernel
theorem dX1_lineAt_43 : decode cX1_lineAt 43 = .ok (.iload_n 1, 1) := by decide +kernel
theorem dX1_lineAt_44 : decode cX1_lineAt 44 = .ok (.iload_n 3, 1) := by decide +kernel
theorem dX1_lineAt_45 : decode cX1_lineAt 45 = .ok (.invokevirtual 111, 3) := by decide +kernel
theorem dX1_lineAt_48 : decode cX1_lineAt 48 = .ok (.aload_n 0, 1) := by decide +kernel
theorem dX1_lineAt_49 : decode cX1_lineAt 49 = .ok (.getfield 46, 3) := by decide +kernel
theorem dX1_lineAt_52 : decode cX1_lineAt 52 = .ok (.areturn, 1) := by decide +kernel
theorem dX1_lineAt_53 : decode cX1_lineAt 53 = .ok (.iload_n 3, 1) := by decide +kernel
theorem dX1_lineAt_54 : decode cX1_lineAt 54 = .ok (.istore_n 2, 1) := by decide +kernel
theorem dX1_lineAt_55 : decode cX1_lineAt 55 = .ok (.iinc 3 1, 3) := by decide +kernel
theorem dX1_lineAt_58 : decode cX1_lineAt 58 = .ok (.goto (-54), 3) := by decide +kernel
theorem dX1_lineAt_61 : decode cX1_lineAt 61 = .ok (.aload_n 0, 1) := by decide +kernel
theorem dX1_lineAt_62 : decode cX1_lineAt 62 = .ok (.getfield 11, 3) := by decide +kernel
theorem dX1_lineAt_65 : decode cX1_lineAt 65 = .ok (.iload_n 2, 1) := by decide +kernel
theorem dX1_lineAt_66 : decode cX1_lineAt 66 = .ok (.aaload, 1) := by decide +kernel
theorem dX1_lineAt_67 : decode cX1_lineAt 67 = .ok (.areturn, 1) := by decide +kernel
theorem dX1_predictInto_0 : decode cX1_predictInto 0 = .ok (.iload_n 2, 1) := by decide +kernel
theorem dX1_predictInto_1 : decode cX1_predictInto 1 = .ok (.ifCond .eq 20, 3) := by decide +kernel
theorem dX1_predictInto_4 : decode cX1_predictInto 4 = .ok (.iload_n 2, 1) := by decide +kernel
theorem dX1_predictInto_5 : decode cX1_predictInto 5 = .ok (.iconst 1, 1) := by decide +kernel
theorem dX1_predictInto_6 : decode cX1_predictInto 6 = .ok (.if_icmp .ne 26, 3) := by decide +kernel
theorem dX1_predictInto_9 : decode cX1_predictInto 9 = .ok (.aload_n 0, 1) := by decide +kernel
theorem dX1_predictInto_10 : decode cX1_predictInto 10 = .ok (.iload_n 3, 1) := by decide +kernel
theorem dX1_predictInto_11 : decode cX1_predictInto 11 = .ok (.iload 4, 2) := by decide +kernel
theorem dX1_predictInto_13 : decode cX1_predictInto 13 = .ok (.iload 5, 2) := by decide +kernel
theorem dX1_predictInto_15 : decode cX1_predictInto 15 = .ok (.invokevirtual 138, 3) := by decide +kernel
theorem dX1_predictInto_18 : decode cX1_predictInto 18 = .ok (.ifCond .eq 14, 3) := by decide +kernel
theorem dX1_predictInto_21 : decode cX1_predictInto 21 = .ok (.aload_n 1, 1) := by decide +kernel
theorem dX1_predictInto_22 : decode cX1_predictInto 22 = .ok (.aload_n 0, 1) := by decide +kernel
theorem dX1_predictInto_23 : decode cX1_predictInto 23 = .ok (.getfield 11, 3) := by decide +kernel
theorem dX1_predictInto_26 : decode cX1_predictInto 26 = .ok (.iload_n 3, 1) := by decide +kernel
theorem dX1_predictInto_27 : decode cX1_predictInto 27 = .ok (.aaload, 1) := by decide +kernel
theorem dX1_predictInto_28 : decode cX1_predictInto 28 = .ok (.invokevirtual 87, 3) := by decide +kernel
theorem dX1_predictInto_31 : decode cX1_predictInto 31 = .ok (.return_, 1) := by decide +kernel
theorem dX1_predictInto_32 : decode cX1_predictInto 32 = .ok (.aload_n 1, 1) := by decide +kernel
theorem dX1_predictInto_33 : decode cX1_predictInto 33 = .ok (.aload_n 0, 1) := by decide +kernel
theorem dX1_predictInto_34 : decode cX1_predictInto 34 = .ok (.getfield 11, 3) := by decide +kernel
theorem dX1_predictInto_37 : decode cX1_predictInto 37 = .ok (.iload 5, 2) := by decide +kernel
theorem dX1_predictInto_39 : decode cX1_predictInto 39 = .ok (.aaload, 1) := by decide +kernel
theorem dX1_predictInto_40 : decode cX1_predictInto 40 = .ok (.invokevirtual 87, 3) := by decide +kernel
theorem dX1_predictInto_43 : decode cX1_predictInto 43 = .ok (.iload_n 2, 1) := by decide +kernel
theorem dX1_predictInto_44 : decode cX1_predictInto 44 = .ok (.iconst 2, 1) := by decide +kernel
theorem dX1_predictInto_45 : decode cX1_predictInto 45 = .ok (.if_icmp .ne 65, 3) := by decide +kernel
theorem dX1_predictInto_48 : decode cX1_predictInto 48 = .ok (.aload_n 1, 1) := by decide +kernel
theorem dX1_predictInto_49 : decode cX1_predictInto 49 = .ok (.aload_n 0, 1) := by decide +kernel
theorem dX1_predictInto_50 : decode cX1_predictInto 50 = .ok (.getfield 11, 3) := by decide +kernel
theorem dX1_predictInto_53 : decode cX1_predictInto 53 = .ok (.iload_n 3, 1) := by decide +kernel
theorem dX1_predictInto_54 : decode cX1_predictInto 54 = .ok (.aaload, 1) := by decide +kernel
theorem dX1_predictInto_55 : decode cX1_predictInto 55 = .ok (.ldc2_w 136, 3) := by decide +kernel
theorem dX1_predictInto_58 : decode cX1_predictInto 58 = .ok (.invokevirtual 70, 3) := by decide +kernel
theorem dX1_predictInto_61 : decode cX1_predictInto 61 = .ok (.aload_n 1, 1) := by decide +kernel
theorem dX1_predictInto_62 : decode cX1_predictInto 62 = .ok (.iload 4, 2) := by decide +kernel
theorem dX1_predictInto_64 : decode cX1_predictInto 64 = .ok (.aload_n 0, 1) := by decide +kernel
theorem dX1_predictInto_65 : decode cX1_predictInto 65 = .ok (.getfield 49, 3) := by decide +kernel
theorem dX1_predictInto_68 : decode cX1_predictInto 68 = .ok (.getfield 108, 3) := by decide +kernel
theorem dX1_predictInto_71 : decode cX1_predictInto 71 = .ok (.iload_n 3, 1) := by decide +kernel
theorem dX1_predictInto_72 : decode cX1_predictInto 72 = .ok (.iaload, 1) := by decide +kernel
theorem dX1_predictInto_73 : decode cX1_predictInto 73 = .ok (.isub, 1) := by decide +kernel
theorem dX1_predictInto_74 : decode cX1_predictInto 74 = .ok (.i2l, 1) := by decide +kernel
theorem dX1_predictInto_75 : decode cX1_predictInto 75 = .ok (.aload_n 0, 1) := by decide +kernel
theorem dX1_predictInto_76 : decode cX1_predictInto 76 = .ok (.getfield 49, 3) := by decide +kernel
theorem dX1_predictInto_79 : decode cX1_predictInto 79 = .ok (.getfield 108, 3) := by decide +kernel
theorem dX1_predictInto_82 : decode cX1_predictInto 82 = .ok (.iload 5, 2) := by decide +kernel
theorem dX1_predictInto_84 : decode cX1_predictInto 84 = .ok (.iaload, 1) := by decide +kernel
theorem dX1_predictInto_85 : decode cX1_predictInto 85 = .ok (.aload_n 0, 1) := by decide +kernel
theorem dX1_predictInto_86 : decode cX1_predictInto 86 = .ok (.getfield 49, 3) := by decide +kernel
theorem dX1_predictInto_89 : decode cX1_predictInto 89 = .ok (.getfield 108, 3) := by decide +kernel
theorem dX1_predictInto_92 : decode cX1_predictInto 92 = .ok (.iload_n 3, 1) := by decide +kernel
theorem dX1_predictInto_93 : decode cX1_predictInto 93 = .ok (.iaload, 1) := by decide +kernel
theorem dX1_predictInto_94 : decode cX1_predictInto 94 = .ok (.isub, 1) := by decide +kernel
theorem dX1_predictInto_95 : decode cX1_predictInto 95 = .ok (.i2l, 1) := by decide +kernel
theorem dX1_predictInto_96 : decode cX1_predictInto 96 = .ok (.invokevirtual 104, 3) := by decide +kernel
theorem dX1_predictInto_99 : decode cX1_predictInto 99 = .ok (.aload_n 1, 1) := by decide +kernel
theorem dX1_predictInto_100 : decode cX1_predictInto 100 = .ok (.aload_n 0, 1) := by decide +kernel
theorem dX1_predictInto_101 : decode cX1_predictInto 101 = .ok (.getfield 11, 3) := by decide +kernel
theorem dX1_predictInto_104 : decode cX1_predictInto 104 = .ok (.iload_n 3, 1) := by decide +kernel
theorem dX1_predictInto_105 : decode cX1_predictInto 105 = .ok (.aaload, 1) := by decide +kernel
theorem dX1_predictInto_106 : decode cX1_predictInto 106 = .ok (.lconst 1, 1) := by decide +kernel
theorem dX1_predictInto_107 : decode cX1_predictInto 107 = .ok (.invokevirtual 70, 3) := by decide +kernel
theorem dX1_predictInto_110 : decode cX1_predictInto 110 = .ok (.return_, 1) := by decide +kernel
theorem dX1_presentAt_0 : decode cX1_presentAt 0 = .ok (.iconst 0, 1) := by decide +kernel
theorem dX1_presentAt_1 : decode cX1_presentAt 1 = .ok (.istore_n 2, 1) := by decide +kernel
theorem dX1_presentAt_2 : decode cX1_presentAt 2 = .ok (.iconst 0, 1) := by decide +kernel
theorem dX1_presentAt_3 : decode cX1_presentAt 3 = .ok (.istore_n 3, 1) := by decide +kernel
theorem dX1_presentAt_4 : decode cX1_presentAt 4 = .ok (.iload_n 3, 1) := by decide +kernel
theorem dX1_presentAt_5 : decode cX1_presentAt 5 = .ok (.aload_n 0, 1) := by decide +kernel
theorem dX1_presentAt_6 : decode cX1_presentAt 6 = .ok (.getfield 49, 3) := by decide +kernel
theorem dX1_presentAt_9 : decode cX1_presentAt 9 = .ok (.getfield 58, 3) := by decide +kernel
theorem dX1_presentAt_12 : decode cX1_presentAt 12 = .ok (.if_icmp .ge 27, 3) := by decide +kernel
theorem dX1_presentAt_15 : decode cX1_presentAt 15 = .ok (.aload_n 0, 1) := by decide +kernel
theorem dX1_presentAt_16 : decode cX1_presentAt 16 = .ok (.iload_n 3, 1) := by decide +kernel
theorem dX1_presentAt_17 : decode cX1_presentAt 17 = .ok (.invokevirtual 100, 3) := by decide +kernel
theorem dX1_presentAt_20 : decode cX1_presentAt 20 = .ok (.ifCond .eq 13, 3) := by decide +kernel
theorem dX1_presentAt_23 : decode cX1_presentAt 23 = .ok (.iload_n 2, 1) := by decide +kernel
theorem dX1_presentAt_24 : decode cX1_presentAt 24 = .ok (.iload_n 1, 1) := by decide +kernel
theorem dX1_presentAt_25 : decode cX1_presentAt 25 = .ok (.if_icmp .ne 5, 3) := by decide +kernel
theorem dX1_presentAt_28 : decode cX1_presentAt 28 = .ok (.iload_n 3, 1) := by decide +kernel
theorem dX1_presentAt_29 : decode cX1_presentAt 29 = .ok (.ireturn, 1) := by decide +kernel
theorem dX1_presentAt_30 : decode cX1_presentAt 30 = .ok (.iinc 2 1, 3) := by decide +kernel
theorem dX1_presentAt_33 : decode cX1_presentAt 33 = .ok (.iinc 3 1, 3) := by decide +kernel
theorem dX1_presentAt_36 : decode cX1_presentAt 36 = .ok (.goto (-32), 3) := by decide +kernel
theorem dX1_presentAt_39 : decode cX1_presentAt 39 = .ok (.iconst (-1), 1) := by decide +kernel
theorem dX1_presentAt_40 : decode cX1_presentAt 40 = .ok (.ireturn, 1) := by decide +kernel
theorem dX1_presentCount_0 : decode cX1_presentCount 0 = .ok (.aload_n 0, 1) := by decide +kernel
theorem dX1_presentCount_1 : decode cX1_presentCount 1 = .ok (.getfield 49, 3) := by decide +kernel
theorem dX1_presentCount_4 : decode cX1_presentCount 4 = .ok (.getfield 58, 3) := by decide +kernel
theorem dX1_presentCount_7 : decode cX1_presentCount 7 = .ok (.aload_n 0, 1) := by decide +kernel
theorem dX1_presentCount_8 : decode cX1_presentCount 8 = .ok (.getfield 31, 3) := by decide +kernel
theorem dX1_presentCount_11 : decode cX1_presentCount 11 = .ok (.isub, 1) := by decide +kernel
theorem dX1_presentCount_12 : decode cX1_presentCount 12 = .ok (.ireturn, 1) := by decide +kernel
theorem dX1_rightOf_0 : decode cX1_rightOf 0 = .ok (.iload_n 1, 1) := by decide +kernel
theorem dX1_rightOf_1 : decode cX1_rightOf 1 = .ok (.iconst 1, 1) := by decide +kernel
theorem dX1_rightOf_2 : decode cX1_rightOf 2 = .ok (.iadd, 1) := by decide +kernel
theorem dX1_rightOf_3 : decode cX1_rightOf 3 = .ok (.istore_n 2, 1) := by decide +kernel
theorem dX1_rightOf_4 : decode cX1_rightOf 4 = .ok (.iload_n 2, 1) := by decide +kernel
theorem dX1_rightOf_5 : decode cX1_rightOf 5 = .ok (.aload_n 0, 1) := by decide +kernel
theorem dX1_rightOf_6 : decode cX1_rightOf 6 = .ok (.getfield 49, 3) := by decide +kernel
theorem dX1_rightOf_9 : decode cX1_rightOf 9 = .ok (.getfield 58, 3) := by decide +kernel
theorem dX1_rightOf_12 : decode cX1_rightOf 12 = .ok (.if_icmp .ge 19, 3) := by decide +kernel
theorem dX1_rightOf_15 : decode cX1_rightOf 15 = .ok (.aload_n 0, 1) := by decide +kernel
theorem dX1_rightOf_16 : decode cX1_rightOf 16 = .ok (.iload_n 2, 1) := by decide +kernel
theorem dX1_rightOf_17 : decode cX1_rightOf 17 = .ok (.invokevirtual 100, 3) := by decide +kernel
theorem dX1_rightOf_20 : decode cX1_rightOf 20 = .ok (.ifCond .eq 5, 3) := by decide +kernel
theorem dX1_rightOf_23 : decode cX1_rightOf 23 = .ok (.iload_n 2, 1) := by decide +kernel
theorem dX1_rightOf_24 : decode cX1_rightOf 24 = .ok (.ireturn, 1) := by decide +kernel
theorem dX1_rightOf_25 : decode cX1_rightOf 25 = .ok (.iinc 2 1, 3) := by decide +kernel
theorem dX1_rightOf_28 : decode cX1_rightOf 28 = .ok (.goto (-24), 3) := by decide +kernel
theorem dX1_rightOf_31 : decode cX1_rightOf 31 = .ok (.iconst (-1), 1) := by decide +kernel
theorem dX1_rightOf_32 : decode cX1_rightOf 32 = .ok (.ireturn, 1) := by decide +kernel
theorem dX1_takeSettings_0 : decode cX1_takeSettings 0 = .ok (.aload_n 0, 1) := by decide +kernel
theorem dX1_takeSettings_1 : decode cX1_takeSettings 1 = .ok (.aload_n 0, 1) := by decide +kernel
theorem dX1_takeSettings_2 : decode cX1_takeSettings 2 = .ok (.getfield 49, 3) := by decide +kernel
theorem dX1_takeSettings_5 : decode cX1_takeSettings 5 = .ok (.getfield 74, 3) := by decide +kernel
theorem dX1_takeSettings_8 : decode cX1_takeSettings 8 = .ok (.putfield 77, 3) := by decide +kernel
theorem dX1_takeSettings_11 : decode cX1_takeSettings 11 = .ok (.aload_n 0, 1) := by decide +kernel
theorem dX1_takeSettings_12 : decode cX1_takeSettings 12 = .ok (.aload_n 0, 1) := by decide +kernel
theorem dX1_takeSettings_13 : decode cX1_takeSettings 13 = .ok (.getfield 49, 3) := by decide +kernel
theorem dX1_takeSettings_16 : decode cX1_takeSettings 16 = .ok (.getfield 78, 3) := by decide +kernel
theorem dX1_takeSettings_19 : decode cX1_takeSettings 19 = .ok (.putfield 81, 3) := by decide +kernel
theorem dX1_takeSettings_22 : decode cX1_takeSettings 22 = .ok (.aload_n 0, 1) := by decide +kernel
theorem dX1_takeSettings_23 : decode cX1_takeSettings 23 = .ok (.aload_n 0, 1) := by decide +kernel
theorem dX1_takeSettings_24 : decode cX1_takeSettings 24 = .ok (.getfield 49, 3) := by decide +kernel
theorem dX1_takeSettings_27 : decode cX1_takeSettings 27 = .ok (.getfield 82, 3) := by decide +kernel
theorem dX1_takeSettings_30 : decode cX1_takeSettings 30 = .ok (.putfield 86, 3) := by decide +kernel
theorem dX1_takeSettings_33 : decode cX1_takeSettings 33 = .ok (.return_, 1) := by decide +kernel
theorem dX1_valueSum_0 : decode cX1_valueSum 0 = .ok (.aload_n 0, 1) := by decide +kernel
theorem dX1_valueSum_1 : decode cX1_valueSum 1 = .ok (.getfield 46, 3) := by decide +kernel
theorem dX1_valueSum_4 : decode cX1_valueSum 4 = .ok (.lconst 0, 1) := by decide +kernel
theorem dX1_valueSum_5 : decode cX1_valueSum 5 = .ok (.invokevirtual 54, 3) := by decide +kernel
theorem dX1_valueSum_8 : decode cX1_valueSum 8 = .ok (.iconst 0, 1) := by decide +kernel
theorem dX1_valueSum_9 : decode cX1_valueSum 9 = .ok (.istore_n 1, 1) := by decide +kernel
theorem dX1_valueSum_10 : decode cX1_valueSum 10 = .ok (.iload_n 1, 1) := by decide +kernel
theorem dX1_valueSum_11 : decode cX1_valueSum 11 = .ok (.aload_n 0, 1) := by decide +kernel
theorem dX1_valueSum_12 : decode cX1_valueSum 12 = .ok (.getfield 49, 3) := by decide +kernel
theorem dX1_valueSum_15 : decode cX1_valueSum 15 = .ok (.getfield 58, 3) := by decide +kernel
theorem dX1_valueSum_18 : decode cX1_valueSum 18 = .ok (.if_icmp .ge 31, 3) := by decide +kernel
theorem dX1_valueSum_21 : decode cX1_valueSum 21 = .ok (.aload_n 0, 1) := by decide +kernel
theorem dX1_valueSum_22 : decode cX1_valueSum 22 = .ok (.iload_n 1, 1) := by decide +kernel
theorem dX1_valueSum_23 : decode cX1_valueSum 23 = .ok (.invokevirtual 100, 3) := by decide +kernel
theorem dX1_valueSum_26 : decode cX1_valueSum 26 = .ok (.ifCond .eq 17, 3) := by decide +kernel
theorem dX1_valueSum_29 : decode cX1_valueSum 29 = .ok (.aload_n 0, 1) := by decide +kernel
theorem dX1_valueSum_30 : decode cX1_valueSum 30 = .ok (.getfield 46, 3) := by decide +kernel
theorem dX1_valueSum_33 : decode cX1_valueSum 33 = .ok (.aload_n 0, 1) := by decide +kernel
theorem dX1_valueSum_34 : decode cX1_valueSum 34 = .ok (.getfield 11, 3) := by decide +kernel
theorem dX1_valueSum_37 : decode cX1_valueSum 37 = .ok (.iload_n 1, 1) := by decide +kernel
theorem dX1_valueSum_38 : decode cX1_valueSum 38 = .ok (.aaload, 1) := by decide +kernel
theorem dX1_valueSum_39 : decode cX1_valueSum 39 = .ok (.lconst 1, 1) := by decide +kernel
theorem dX1_valueSum_40 : decode cX1_valueSum 40 = .ok (.invokevirtual 70, 3) := by decide +kernel
theorem dX1_valueSum_43 : decode cX1_valueSum 43 = .ok (.iinc 1 1, 3) := by decide +kernel
theorem dX1_valueSum_46 : decode cX1_valueSum 46 = .ok (.goto (-36), 3) := by decide +kernel
theorem dX1_valueSum_49 : decode cX1_valueSum 49 = .ok (.aload_n 0, 1) := by decide +kernel
theorem dX1_valueSum_50 : decode cX1_valueSum 50 = .ok (.getfield 46, 3) := by decide +kernel
theorem dX1_valueSum_53 : decode cX1_valueSum 53 = .ok (.areturn, 1) := by decide +kernel
theorem dX1_weightSum_0 : decode cX1_weightSum 0 = .ok (.lconst 0, 1) := by decide +kernel
theorem dX1_weightSum_1 : decode cX1_weightSum 1 = .ok (.lstore_n 1, 1) := by decide +kernel
theorem dX1_weightSum_2 : decode cX1_weightSum 2 = .ok (.iconst 0, 1) := by decide +kernel
theorem dX1_weightSum_3 : decode cX1_weightSum 3 = .ok (.istore_n 3, 1) := by decide +kernel
theorem dX1_weightSum_4 : decode cX1_weightSum 4 = .ok (.iload_n 3, 1) := by decide +kernel
theorem dX1_weightSum_5 : decode cX1_weightSum 5 = .ok (.aload_n 0, 1) := by decide +kernel
theorem dX1_weightSum_6 : decode cX1_weightSum 6 = .ok (.getfield 49, 3) := by decide +kernel
theorem dX1_weightSum_9 : decode cX1_weightSum 9 = .ok (.getfield 58, 3) := by decide +kernel
theorem dX1_weightSum_12 : decode cX1_weightSum 12 = .ok (.if_icmp .ge 26, 3) := by decide +kernel
theorem dX1_weightSum_15 : decode cX1_weightSum 15 = .ok (.aload_n 0, 1) := by decide +kernel
theorem dX1_weightSum_16 : decode cX1_weightSum 16 = .ok (.iload_n 3, 1) := by decide +kernel
theorem dX1_weightSum_17 : decode cX1_weightSum 17 = .ok (.invokevirtual 100, 3) := by decide +kernel
theorem dX1_weightSum_20 : decode cX1_weightSum 20 = .ok (.ifCond .eq 12, 3) := by decide +kernel
theorem dX1_weightSum_23 : decode cX1_weightSum 23 = .ok (.lload_n 1, 1) := by decide +kernel
theorem dX1_weightSum_24 : decode cX1_weightSum 24 = .ok (.aload_n 0, 1) := by decide +kernel
theorem dX1_weightSum_25 : decode cX1_weightSum 25 = .ok (.getfield 17, 3) := by decide +kernel
theorem dX1_weightSum_28 : decode cX1_weightSum 28 = .ok (.iload_n 3, 1) := by decide +kernel
theorem dX1_weightSum_29 : decode cX1_weightSum 29 = .ok (.laload, 1) := by decide +kernel
theorem dX1_weightSum_30 : decode cX1_weightSum 30 = .ok (.ladd, 1) := by decide +kernel
theorem dX1_weightSum_31 : decode cX1_weightSum 31 = .ok (.lstore_n 1, 1) := by decide +kernel
theorem dX1_weightSum_32 : decode cX1_weightSum 32 = .ok (.iinc 3 1, 3) := by decide +kernel
theorem dX1_weightSum_35 : decode cX1_weightSum 35 = .ok (.goto (-31), 3) := by decide +kernel
theorem dX1_weightSum_38 : decode cX1_weightSum 38 = .ok (.lload_n 1, 1) := by decide +kernel
theorem dX1_weightSum_39 : decode cX1_weightSum 39 = .ok (.lreturn, 1) := by decide +kernel
set_option maxHeartbeats 4000000 in
set_option maxRecDepth 100000 in
theorem X1_begin (l : Launch) (κ : Kt) (σ0 : Gh) (this : Nat) (t_this : zk σ0 this 3) : TC l yX1_begin cX1_begin 2 none 3 89 [.ref this] κ σ0 (tqv κ fBe σ0 (fun (τ : Gh) => True)) := by
  refine TC.of fBe (by decide +kernel) (Nat.le_of_ble_eq_true rfl) ?_
  intro p e s m below meth c ls hcs hK hX hT hl
  obtain ⟨hx, hb, hr, hml, hown, hg, hlocks, hin⟩ := hcs
  have hown : s.vm.findClass RX1 = some m.cls := hown
  have hl : lv_has ls 2 [(0, .ref this)] := hl
  have hT0 := hT
  have nm1 : ((-1) : Int32).toInt = (-1) := by decide
  have n0 : (0 : Int32).toInt = 0 := by decide
  have j0 : (0 : Int64).toInt = 0 := by decide
  generalize hQ9 : tQ _ _ _ _ _ _ = Q9
  obtain ⟨src, esrc⟩ : ∃ z, kR κ this 0 = z := ⟨_, rfl⟩
  have tsrc : zk σ0 src 4 := by rw [← esrc]; exact hT0.ref t_this (by decide) (by decide) (by decide)
  have bsrc := (hT0.P tsrc (by decide)).1
  have bsrcl := bsrc.1
  have bsrch := bsrc.2
  refine lv_aload_n hx hb dX1_begin_0 rfl (lv_at hl 0 rfl) ?_
  obtain ⟨r1, er1⟩ : ∃ z, kR κ this 6 = z := ⟨_, rfl⟩
  have tr1 : zk σ0 r1 1 := by rw [← er1]; exact hT0.ref t_this (by decide) (by decide) (by decide)
  refine va_get (D := κ.1) (ci := 1) (v := .ref (kR κ this 6)) (C := RX1) (T := TX1) (N := 13) hx hb hg inX1 hown hK (hT.o3 (hT.k t_this (by decide))).one 0 rfl rfl 6 (by decide) (hg _ k289) (fun _ h9 => h9) rfl dX1_begin_1 ?_
  rw [er1]
  refine lv_lconst (v := 0) hx hb dX1_begin_4 (by decide) ?_
  obtain ⟨h4, oh4, th4⟩ := hT.o1 (hT.k tr1 (by decide))
  have hTo := hT
  refine tVv (n := 1) (As := [.long 0]) (rest := []) hx hb hml hown hg hT hK hX (X4_become l κ σ0 r1 0  (hT.k tr1 (by decide)) ) sub_fX_fBe (mwV k274 k275 k276 k88 k277) ⟨rfl, by decide, by decide, by decide +kernel⟩ ⟨(Nat.le_of_ble_eq_true rfl), (Nat.le_of_ble_eq_true rfl)⟩ oh4 rfl rfl hl.1 rfl (Nat.le_of_ble_eq_true rfl) dX1_begin_5 zroom.rf (fun s3 H locs hφ hEs3 hT => ?_)
  refine lv_iconst (v := 0) hx hb dX1_begin_8 (by decide) ?_
  refine lv_istore_n (lv' := [(1, .int 0), (0, .ref this)]) hx hb dX1_begin_9 rfl hl (by decide) rfl (fun ls hl => ?_)
  have loop10 : ∀ (n9 : Nat) (i : Int32) (H : Heap) (locs : List Loc) (sg : Gh) (ls : Array Slot), TS κ fBe σ0 sg s H locs → (0 ≤ i.toInt) → (i.toInt ≤ (zI σ0 src 2).toInt) → lv_has ls 2 [(1, .int i), (0, .ref this)] → ((zI σ0 src 2).toInt - i.toInt) < n9 → tW p l e 3 89 κ s m #[.ref this] below meth c H locs Q9 (F0 m 10 ls []) := by
    intro n9
    induction n9 with
    | zero =>
      intro i H locs sg ls hT q1 q2 hl hm9
      exfalso
      omega
    | succ n9 ih9 =>
      have ih10 := ih9
      clear ih9
      intro i H locs s5 ls hT q1 q2 hl hm9
      refine lv_iload_n hx hb dX1_begin_10 rfl (lv_at hl 0 rfl) ?_
      refine lv_aload_n hx hb dX1_begin_11 rfl (lv_at hl 1 rfl) ?_
      refine va_get (D := κ.1) (ci := 1) (v := .ref (kR κ this 0)) (C := RX1) (T := TX1) (N := 13) hx hb hg inX1 hown hK (hT.o3 (hT.k t_this (by decide))).one 0 rfl rfl 0 (by decide) (hg _ k278) (fun _ h9 => h9) rfl dX1_begin_12 ?_
      rw [esrc]
      obtain ⟨v6, ev6⟩ : ∃ zz9 : Int32, zI σ0 src 2 = zz9 := ⟨_, rfl⟩
      have qv6 : v6.toInt = (zI σ0 src 2).toInt := by rw [ev6]
      have b7 := (hT.P (hT.k tsrc (by decide)) (by decide)).1
      rw [(hT.eI tsrc (by decide) rfl ev6)] at b7
      have b7l := b7.1
      have b7h := b7.2
      refine va_get (D := κ.1) (ci := 0) (v := .int (zI s5 src 2)) (C := RX0) (T := TX0) (N := 7) hx hb hg inX0 hown hK (hT.o4 (hT.k tsrc (by decide))).one 0 rfl rfl 2 (by decide) (hg _ k162) (fun _ h9 => h9) rfl dX1_begin_15 ?_
      rw [(hT.eI tsrc (by decide) rfl ev6)]
      refine lv_icmp_ge (tgt := 87) hx hb dX1_begin_18 (by decide) (fun c9 => ?_) (fun c9 => ?_)
      · have c1 := gi_le c9
        refine lv_aload_n hx hb dX1_begin_87 rfl (lv_at hl 1 rfl) ?_
        refine lv_iconst (v := 0) hx hb dX1_begin_88 (by decide) ?_
        have hTo := hT
        refine pf3_5 hx hb hg hown hK hT (hT.k t_this (by decide)) rfl ⟨by omega, by omega⟩ (hg _ k287) dX1_begin_89 (fun H locs s8 hus8 hT => ?_)
        have e9 : zI s8 this 5 = 0 := zput_at hus8
        subst hQ9
        exact t_v hx hb hr hlocks hT trivial dX1_begin_92
      · have c2 := gi_nle c9
        refine lv_aload_n hx hb dX1_begin_21 rfl (lv_at hl 1 rfl) ?_
        obtain ⟨r10, er10⟩ : ∃ z, kR κ this 1 = z := ⟨_, rfl⟩
        have tr10 : zk σ0 r10 10 := by rw [← er10]; exact hT0.ref t_this (by decide) (by decide) (by decide)
        refine va_get (D := κ.1) (ci := 1) (v := .ref (kR κ this 1)) (C := RX1) (T := TX1) (N := 13) hx hb hg inX1 hown hK (hT.o3 (hT.k t_this (by decide))).one 0 rfl rfl 1 (by decide) (hg _ k279) (fun _ h9 => h9) rfl dX1_begin_22 ?_
        rw [er10]
        refine lv_iload_n hx hb dX1_begin_25 rfl (lv_at hl 0 rfl) ?_
        refine va_aldq hx hb hK (hT.o10 (hT.k tr10 (by decide))).one 0 4 rfl rfl (g_in (by omega) (by omega)) dX1_begin_26 ?_
        obtain ⟨r12, er12⟩ : ∃ z, kR κ r10 (ix i) = z := ⟨_, rfl⟩
        have tr12 : zk σ0 r12 1 := by rw [← er12]; exact hT0.ref tr10 (by decide) (zR10 (ix_lt (by omega) (by omega))) (by decide)
        refine tv (.ref r12) (by rw [← er12]; rfl) ?_
        refine lv_aload_n hx hb dX1_begin_27 rfl (lv_at hl 1 rfl) ?_
        refine va_get (D := κ.1) (ci := 1) (v := .ref (kR κ this 0)) (C := RX1) (T := TX1) (N := 13) hx hb hg inX1 hown hK (hT.o3 (hT.k t_this (by decide))).one 0 rfl rfl 0 (by decide) (hg _ k278) (fun _ h9 => h9) rfl dX1_begin_28 ?_
        rw [esrc]
        obtain ⟨r13, er13⟩ : ∃ z, kR κ src 1 = z := ⟨_, rfl⟩
        have tr13 : zk σ0 r13 16 := by rw [← er13]; exact hT0.ref tsrc (by decide) (by decide) (by decide)
        refine va_get (D := κ.1) (ci := 0) (v := .ref (kR κ src 1)) (C := RX0) (T := TX0) (N := 7) hx hb hg inX0 hown hK (hT.o4 (hT.k tsrc (by decide))).one 0 rfl rfl 1 (by decide) (hg _ k159) (fun _ h9 => h9) rfl dX1_begin_31 ?_
        rw [er13]
        refine lv_iload_n hx hb dX1_begin_34 rfl (lv_at hl 0 rfl) ?_
        refine va_iald hx hb hK (hT.o16 (hT.k tr13 (by decide))).one 0 0 rfl rfl (g_in (by omega) (by omega)) dX1_begin_35 ?_
        refine lv_topi (fun t14 ht14 => ?_)
        refine lv_i2l hx hb dX1_begin_36 rfl ?_
        refine g_i2l (fun t15 ht15 => ?_)
        obtain ⟨h18, oh18, th18⟩ := hT.o1 (hT.k tr12 (by decide))
        have hTo := hT
        refine tVv (n := 1) (As := [.long t15]) (rest := []) hx hb hml hown hg hT hK hX (X4_become l κ s5 r12 t15  (hT.k tr12 (by decide)) ) sub_fX_fBe (mwV k274 k275 k276 k88 k277) ⟨rfl, by decide, by decide, by decide +kernel⟩ ⟨(Nat.le_of_ble_eq_true rfl), (Nat.le_of_ble_eq_true rfl)⟩ oh18 rfl rfl hl.1 rfl (Nat.le_of_ble_eq_true rfl) dX1_begin_37 zroom.rf (fun s17 H locs hφ hEs17 hT => ?_)
        refine lv_aload_n hx hb dX1_begin_40 rfl (lv_at hl 1 rfl) ?_
        obtain ⟨r19, er19⟩ : ∃ z, kR κ this 2 = z := ⟨_, rfl⟩
        have tr19 : zk σ0 r19 9 := by rw [← er19]; exact hT0.ref t_this (by decide) (by decide) (by decide)
        refine va_get (D := κ.1) (ci := 1) (v := .ref (kR κ this 2)) (C := RX1) (T := TX1) (N := 13) hx hb hg inX1 hown hK (hT.o3 (hT.k t_this (by decide))).one 0 rfl rfl 2 (by decide) (hg _ k281) (fun _ h9 => h9) rfl dX1_begin_41 ?_
        rw [er19]
        refine lv_iload_n hx hb dX1_begin_44 rfl (lv_at hl 0 rfl) ?_
        refine lv_aload_n hx hb dX1_begin_45 rfl (lv_at hl 1 rfl) ?_
        refine va_get (D := κ.1) (ci := 1) (v := .ref (kR κ this 0)) (C := RX1) (T := TX1) (N := 13) hx hb hg inX1 hown hK (hT.o3 (hT.k t_this (by decide))).one 0 rfl rfl 0 (by decide) (hg _ k278) (fun _ h9 => h9) rfl dX1_begin_46 ?_
        rw [esrc]
        refine lv_iload_n hx hb dX1_begin_49 rfl (lv_at hl 0 rfl) ?_
        have hTo := hT
        refine tVi (n := 1) (As := [.int i]) (rest := [.int i, .ref r19]) hx hb hml hown hg hT hK hX (X0_firstWeight l κ s17 src i  (hT.k tsrc (by decide)) (by omega) (by rw [hT.eI tsrc (by decide) rfl (rfl : zI σ0 src 2 = zI σ0 src 2)]; omega)) sub_fE_fBe (mwV k336 k337 k338 k86 k339) ⟨rfl, by decide, by decide, by decide +kernel⟩ ⟨(Nat.le_of_ble_eq_true rfl), (Nat.le_of_ble_eq_true rfl)⟩ (hT.o4 (hT.k tsrc (by decide))) rfl rfl hl.1 rfl (Nat.le_of_ble_eq_true rfl) dX1_begin_50 zroom.rf (fun x20 s21 H locs hφ hEs21 hT => ?_)
        refine lv_i2l hx hb dX1_begin_53 rfl ?_
        refine g_i2l (fun t22 ht22 => ?_)
        have hTo := hT
        refine tastl (n := 48) hx hb hK hT (hT.k tr19 (by decide)) ⟨by decide, by decide⟩ (fun _ _ _ => rfl) (fun _ _ => trivial) (fun _ => rfl) (by omega) (by omega) dX1_begin_54 (fun H locs s23 hus23 hT => ?_)
        refine lv_aload_n hx hb dX1_begin_55 rfl (lv_at hl 1 rfl) ?_
        obtain ⟨r24, er24⟩ : ∃ z, kR κ this 3 = z := ⟨_, rfl⟩
        have tr24 : zk σ0 r24 15 := by rw [← er24]; exact hT0.ref t_this (by decide) (by decide) (by decide)
        refine va_get (D := κ.1) (ci := 1) (v := .ref (kR κ this 3)) (C := RX1) (T := TX1) (N := 13) hx hb hg inX1 hown hK (hT.o3 (hT.k t_this (by decide))).one 0 rfl rfl 3 (by decide) (hg _ k283) (fun _ h9 => h9) rfl dX1_begin_56 ?_
        rw [er24]
        refine lv_iload_n hx hb dX1_begin_59 rfl (lv_at hl 0 rfl) ?_
        refine lv_iconst (v := (-1)) hx hb dX1_begin_60 (by decide) ?_
        have hTo := hT
        refine tasti (n := 48) hx hb hK hT (hT.k tr24 (by decide)) ⟨by decide, by decide⟩ (fun _ _ _ => rfl) (fun _ _ => trivial) (fun _ => rfl) (by omega) (by omega) dX1_begin_61 (fun H locs s25 hus25 hT => ?_)
        refine lv_aload_n hx hb dX1_begin_62 rfl (lv_at hl 1 rfl) ?_
        refine va_get (D := κ.1) (ci := 1) (v := .ref (kR κ this 6)) (C := RX1) (T := TX1) (N := 13) hx hb hg inX1 hown hK (hT.o3 (hT.k t_this (by decide))).one 0 rfl rfl 6 (by decide) (hg _ k289) (fun _ h9 => h9) rfl dX1_begin_63 ?_
        rw [er1]
        refine lv_aload_n hx hb dX1_begin_66 rfl (lv_at hl 1 rfl) ?_
        refine va_get (D := κ.1) (ci := 1) (v := .ref (kR κ this 1)) (C := RX1) (T := TX1) (N := 13) hx hb hg inX1 hown hK (hT.o3 (hT.k t_this (by decide))).one 0 rfl rfl 1 (by decide) (hg _ k279) (fun _ h9 => h9) rfl dX1_begin_67 ?_
        rw [er10]
        refine lv_iload_n hx hb dX1_begin_70 rfl (lv_at hl 0 rfl) ?_
        refine va_aldq hx hb hK (hT.o10 (hT.k tr10 (by decide))).one 0 4 rfl rfl (g_in (by omega) (by omega)) dX1_begin_71 ?_
        obtain ⟨r27, er27⟩ : ∃ z, kR κ r10 (ix i) = z := ⟨_, rfl⟩
        have tr27 : zk σ0 r27 1 := by rw [← er27]; exact hT0.ref tr10 (by decide) (zR10 (ix_lt (by omega) (by omega))) (by decide)
        refine tv (.ref r27) (by rw [← er27]; rfl) ?_
        refine lv_aload_n hx hb dX1_begin_72 rfl (lv_at hl 1 rfl) ?_
        refine va_get (D := κ.1) (ci := 1) (v := .ref (kR κ this 2)) (C := RX1) (T := TX1) (N := 13) hx hb hg inX1 hown hK (hT.o3 (hT.k t_this (by decide))).one 0 rfl rfl 2 (by decide) (hg _ k281) (fun _ h9 => h9) rfl dX1_begin_73 ?_
        rw [er19]
        refine lv_iload_n hx hb dX1_begin_76 rfl (lv_at hl 0 rfl) ?_
        refine va_lald hx hb hK (hT.o9 (hT.k tr19 (by decide))).one 0 1 rfl rfl (g_in (by omega) (by omega)) dX1_begin_77 ?_
        refine lv_topl (fun t28 ht28 => ?_)
        obtain ⟨h31, oh31, th31⟩ := hT.o1 (hT.k tr1 (by decide))
        have hTo := hT
        refine tVv (n := 2) (As := [.ref r27, .long t28]) (rest := []) hx hb hml hown hg hT hK hX (X4_add l κ s25 r1 r27 t28  (hT.k tr1 (by decide)) (hT.k tr27 (by decide)) ) sub_fW_fBe (mwV k340 k341 k342 k88 k343) ⟨rfl, by decide, by decide, by decide +kernel⟩ ⟨(Nat.le_of_ble_eq_true rfl), (Nat.le_of_ble_eq_true rfl)⟩ oh31 rfl rfl hl.1 rfl (Nat.le_of_ble_eq_true rfl) dX1_begin_78 zroom.rf (fun s30 H locs hφ hEs30 hT => ?_)
        obtain ⟨t32, qt32⟩ : ∃ zz9 : Int32, i + Int32.ofInt 1 = zz9 := ⟨_, rfl⟩
        refine lv_iinc (v := t32) (lv' := [(1, .int t32), (0, .ref this)]) hx hb dX1_begin_81 hl (k := 0) rfl qt32 (by decide) rfl (fun ls hl => ?_)
        have ht32 : t32.toInt = i.toInt + 1 := by rw [← qt32]; exact v_addi rfl (show (Int32.ofInt 1).toInt = 1 from by decide) (by omega) (by omega)
        refine lv_goto (tgt := 10) hx hb dX1_begin_84 (by decide) ?_
        exact ih10 t32 _ _ _ _ hT  (by omega) (by omega) hl (by omega)
  exact loop10 (((zI σ0 src 2).toInt - (0 : Int32).toInt).toNat + 1) 0 _ _ _ _ hT  (by omega) (by omega) hl (by omega)
set_option maxHeartbeats 4000000 in
set_option maxRecDepth 100000 in
theorem X1_takeSettings (l : Launch) (κ : Kt) (σ0 : Gh) (this : Nat) (t_this : zk σ0 this 3) : TC l yX1_takeSettings cX1_takeSettings 1 none 0 0 [.ref this] κ σ0 (tqv κ fSet σ0 (fun (τ : Gh) => True)) := by
  refine TC.of fSet (by decide +kernel) (Nat.le_of_ble_eq_true rfl) ?_
  intro p e s m below meth c ls hcs hK hX hT hl
  obtain ⟨hx, hb, hr, hml, hown, hg, hlocks, hin⟩ := hcs
  have hown : s.vm.findClass RX1 = some m.cls := hown
  have hl : lv_has ls 1 [(0, .ref this)] := hl
  have hT0 := hT
  generalize hQ9 : tQ _ _ _ _ _ _ = Q9
  refine lv_aload_n hx hb dX1_takeSettings_0 rfl (lv_at hl 0 rfl) ?_
  refine lv_aload_n hx hb dX1_takeSettings_1 rfl (lv_at hl 0 rfl) ?_
  obtain ⟨r1, er1⟩ : ∃ z, kR κ this 0 = z := ⟨_, rfl⟩
  have tr1 : zk σ0 r1 4 := by rw [← er1]; exact hT0.ref t_this (by decide) (by decide) (by decide)
  refine va_get (D := κ.1) (ci := 1) (v := .ref (kR κ this 0)) (C := RX1) (T := TX1) (N := 13) hx hb hg inX1 hown hK (hT.o3 (hT.k t_this (by decide))).one 0 rfl rfl 0 (by decide) (hg _ k278) (fun _ h9 => h9) rfl dX1_takeSettings_2 ?_
  rw [er1]
  obtain ⟨v2, ev2⟩ : ∃ zz9 : Int32, zI σ0 r1 3 = zz9 := ⟨_, rfl⟩
  have qv2 : v2.toInt = (zI σ0 r1 3).toInt := by rw [ev2]
  refine va_get (D := κ.1) (ci := 0) (v := .int (zI σ0 r1 3)) (C := RX0) (T := TX0) (N := 7) hx hb hg inX0 hown hK (hT.o4 (hT.k tr1 (by decide))).one 0 rfl rfl 3 (by decide) (hg _ k166) (fun _ h9 => h9) rfl dX1_takeSettings_5 ?_
  rw [(hT.eI tr1 (by decide) rfl ev2)]
  have hTo := hT
  refine pf3_7 hx hb hg hown hK hT (hT.k t_this (by decide)) rfl (hg _ k291) dX1_takeSettings_8 (fun H locs s3 hus3 hT => ?_)
  have e4 : zI s3 this 7 = v2 := zput_at hus3
  refine lv_aload_n hx hb dX1_takeSettings_11 rfl (lv_at hl 0 rfl) ?_
  refine lv_aload_n hx hb dX1_takeSettings_12 rfl (lv_at hl 0 rfl) ?_
  refine va_get (D := κ.1) (ci := 1) (v := .ref (kR κ this 0)) (C := RX1) (T := TX1) (N := 13) hx hb hg inX1 hown hK (hT.o3 (hT.k t_this (by decide))).one 0 rfl rfl 0 (by decide) (hg _ k278) (fun _ h9 => h9) rfl dX1_takeSettings_13 ?_
  rw [er1]
  obtain ⟨v5, ev5⟩ : ∃ zz9 : Int32, zI σ0 r1 4 = zz9 := ⟨_, rfl⟩
  have qv5 : v5.toInt = (zI σ0 r1 4).toInt := by rw [ev5]
  refine va_get (D := κ.1) (ci := 0) (v := .int (zI s3 r1 4)) (C := RX0) (T := TX0) (N := 7) hx hb hg inX0 hown hK (hT.o4 (hT.k tr1 (by decide))).one 0 rfl rfl 4 (by decide) (hg _ k169) (fun _ h9 => h9) rfl dX1_takeSettings_16 ?_
  rw [(hT.eI tr1 (by decide) rfl ev5)]
  have hTo := hT
  refine pf3_8 hx hb hg hown hK hT (hT.k t_this (by decide)) rfl (hg _ k293) dX1_takeSettings_19 (fun H locs s6 hus6 hT => ?_)
  have e4 : zI s6 this 7 = v2 := (zput_o hus6 (Or.inr (by decide))).trans e4
  have e7 : zI s6 this 8 = v5 := zput_at hus6
  refine lv_aload_n hx hb dX1_takeSettings_22 rfl (lv_at hl 0 rfl) ?_
  refine lv_aload_n hx hb dX1_takeSettings_23 rfl (lv_at hl 0 rfl) ?_
  refine va_get (D := κ.1) (ci := 1) (v := .ref (kR κ this 0)) (C := RX1) (T := TX1) (N := 13) hx hb hg inX1 hown hK (hT.o3 (hT.k t_this (by decide))).one 0 rfl rfl 0 (by decide) (hg _ k278) (fun _ h9 => h9) rfl dX1_takeSettings_24 ?_
  rw [er1]
  obtain ⟨v8, ev8⟩ : ∃ zz9 : Int32, zI σ0 r1 5 = zz9 := ⟨_, rfl⟩
  have qv8 : v8.toInt = (zI σ0 r1 5).toInt := by rw [ev8]
  have b9 : isB v8 := by have q9 := (hT.P (hT.k tr1 (by decide)) (by decide)).2; rw [(hT.eI tr1 (by decide) rfl ev8)] at q9; exact q9
  refine va_get (D := κ.1) (ci := 0) (v := .int (zI s6 r1 5)) (C := RX0) (T := TX0) (N := 7) hx hb hg inX0 hown hK (hT.o4 (hT.k tr1 (by decide))).one 0 rfl rfl 5 (by decide) (hg _ k172) (fun _ h9 => h9) rfl dX1_takeSettings_27 ?_
  rw [(hT.eI tr1 (by decide) rfl ev8)]
  have hTo := hT
  refine pf3_9 hx hb hg hown hK hT (hT.k t_this (by decide)) rfl b9 (hg _ k295) dX1_takeSettings_30 (fun H locs s10 hus10 hT => ?_)
  have e4 : zI s10 this 7 = v2 := (zput_o hus10 (Or.inr (by decide))).trans e4
  have e7 : zI s10 this 8 = v5 := (zput_o hus10 (Or.inr (by decide))).trans e7
  have e11 : zI s10 this 9 = v8 := zput_at hus10
  subst hQ9
  exact t_v hx hb hr hlocks hT trivial dX1_takeSettings_33
set_option maxHeartbeats 4000000 in
set_option maxRecDepth 100000 in
theorem X1_copyFrom (l : Launch) (κ : Kt) (σ0 : Gh) (this : Nat) (o : Nat) (t_this : zk σ0 this 3) (t_o : zk σ0 o 3) : TC l yX1_copyFrom cX1_copyFrom 3 none 4 105 [.ref this, .ref o] κ σ0 (tqv κ fCp σ0 (fun (τ : Gh) => True)) := by
  refine TC.of fCp (by decide +kernel) (Nat.le_of_ble_eq_true rfl) ?_
  intro p e s m below meth c ls hcs hK hX hT hl
  obtain ⟨hx, hb, hr, hml, hown, hg, hlocks, hin⟩ := hcs
  have hown : s.vm.findClass RX1 = some m.cls := hown
  have hl : lv_has ls 3 [(0, .ref this), (1, .ref o)] := hl
  have hT0 := hT
  have n0 : (0 : Int32).toInt = 0 := by decide
  have n48 : (48 : Int32).toInt = 48 := by decide
  generalize hQ9 : tQ _ _ _ _ _ _ = Q9
  obtain ⟨src, esrc⟩ : ∃ z, kR κ this 0 = z := ⟨_, rfl⟩
  have tsrc : zk σ0 src 4 := by rw [← esrc]; exact hT0.ref t_this (by decide) (by decide) (by decide)
  have bsrc := (hT0.P tsrc (by decide)).1
  have bsrcl := bsrc.1
  have bsrch := bsrc.2
  refine lv_iconst (v := 0) hx hb dX1_copyFrom_0 (by decide) ?_
  refine lv_istore_n (lv' := [(2, .int 0), (0, .ref this), (1, .ref o)]) hx hb dX1_copyFrom_1 rfl hl (by decide) rfl (fun ls hl => ?_)
  have loop2 : ∀ (n9 : Nat) (i : Int32) (H : Heap) (locs : List Loc) (sg : Gh) (ls : Array Slot), TS κ fCp σ0 sg s H locs → (0 ≤ i.toInt) → (i.toInt ≤ (zI σ0 src 2).toInt) → lv_has ls 3 [(2, .int i), (0, .ref this), (1, .ref o)] → ((zI σ0 src 2).toInt - i.toInt) < n9 → tW p l e 4 105 κ s m #[.ref this, .ref o] below meth c H locs Q9 (F0 m 2 ls []) := by
    intro n9
    induction n9 with
    | zero =>
      intro i H locs sg ls hT q1 q2 hl hm9
      exfalso
      omega
    | succ n9 ih9 =>
      have ih2 := ih9
      clear ih9
      intro i H locs s1 ls hT q1 q2 hl hm9
      refine lv_iload_n hx hb dX1_copyFrom_2 rfl (lv_at hl 0 rfl) ?_
      refine lv_aload_n hx hb dX1_copyFrom_3 rfl (lv_at hl 1 rfl) ?_
      refine va_get (D := κ.1) (ci := 1) (v := .ref (kR κ this 0)) (C := RX1) (T := TX1) (N := 13) hx hb hg inX1 hown hK (hT.o3 (hT.k t_this (by decide))).one 0 rfl rfl 0 (by decide) (hg _ k278) (fun _ h9 => h9) rfl dX1_copyFrom_4 ?_
      rw [esrc]
      obtain ⟨v2, ev2⟩ : ∃ zz9 : Int32, zI σ0 src 2 = zz9 := ⟨_, rfl⟩
      have qv2 : v2.toInt = (zI σ0 src 2).toInt := by rw [ev2]
      have b3 := (hT.P (hT.k tsrc (by decide)) (by decide)).1
      rw [(hT.eI tsrc (by decide) rfl ev2)] at b3
      have b3l := b3.1
      have b3h := b3.2
      refine va_get (D := κ.1) (ci := 0) (v := .int (zI s1 src 2)) (C := RX0) (T := TX0) (N := 7) hx hb hg inX0 hown hK (hT.o4 (hT.k tsrc (by decide))).one 0 rfl rfl 2 (by decide) (hg _ k162) (fun _ h9 => h9) rfl dX1_copyFrom_7 ?_
      rw [(hT.eI tsrc (by decide) rfl ev2)]
      refine lv_icmp_ge (tgt := 34) hx hb dX1_copyFrom_10 (by decide) (fun c9 => ?_) (fun c9 => ?_)
      · have c1 := gi_le c9
        refine lv_aload_n hx hb dX1_copyFrom_34 rfl (lv_at hl 2 rfl) ?_
        obtain ⟨r4, er4⟩ : ∃ z, kR κ o 2 = z := ⟨_, rfl⟩
        have tr4 : zk σ0 r4 9 := by rw [← er4]; exact hT0.ref t_o (by decide) (by decide) (by decide)
        refine va_get (D := κ.1) (ci := 1) (v := .ref (kR κ o 2)) (C := RX1) (T := TX1) (N := 13) hx hb hg inX1 hown hK (hT.o3 (hT.k t_o (by decide))).one 0 rfl rfl 2 (by decide) (hg _ k281) (fun _ h9 => h9) rfl dX1_copyFrom_35 ?_
        rw [er4]
        refine lv_iconst (v := 0) hx hb dX1_copyFrom_38 (by decide) ?_
        refine lv_aload_n hx hb dX1_copyFrom_39 rfl (lv_at hl 1 rfl) ?_
        obtain ⟨r5, er5⟩ : ∃ z, kR κ this 2 = z := ⟨_, rfl⟩
        have tr5 : zk σ0 r5 9 := by rw [← er5]; exact hT0.ref t_this (by decide) (by decide) (by decide)
        refine va_get (D := κ.1) (ci := 1) (v := .ref (kR κ this 2)) (C := RX1) (T := TX1) (N := 13) hx hb hg inX1 hown hK (hT.o3 (hT.k t_this (by decide))).one 0 rfl rfl 2 (by decide) (hg _ k281) (fun _ h9 => h9) rfl dX1_copyFrom_40 ?_
        rw [er5]
        refine lv_iconst (v := 0) hx hb dX1_copyFrom_43 (by decide) ?_
        refine lv_bipush (v := 48) hx hb dX1_copyFrom_44 (by decide) ?_
        have hTo := hT
        refine tcopyl (n0 := 48) (n1 := 48) hx hb (hml.trans hl.1.symm) hown (hg _ k1127) (hg _ k362) (hg _ k361) (hg _ k91) hK hT (hT.k tr4 (by decide)) (by decide) (fun _ _ _ => rfl) (hT.k tr5 (by decide)) ⟨by decide, by decide⟩ (fun _ _ _ => rfl) (fun _ _ => trivial) (fun _ => rfl) (by omega) (by omega) (by omega) (by omega) (by omega) (Nat.le_of_ble_eq_true rfl) (Nat.le_of_ble_eq_true rfl) dX1_copyFrom_46 (fun H locs s6 hus6 hT => ?_)
        refine lv_aload_n hx hb dX1_copyFrom_49 rfl (lv_at hl 2 rfl) ?_
        obtain ⟨r7, er7⟩ : ∃ z, kR κ o 3 = z := ⟨_, rfl⟩
        have tr7 : zk σ0 r7 15 := by rw [← er7]; exact hT0.ref t_o (by decide) (by decide) (by decide)
        refine va_get (D := κ.1) (ci := 1) (v := .ref (kR κ o 3)) (C := RX1) (T := TX1) (N := 13) hx hb hg inX1 hown hK (hT.o3 (hT.k t_o (by decide))).one 0 rfl rfl 3 (by decide) (hg _ k283) (fun _ h9 => h9) rfl dX1_copyFrom_50 ?_
        rw [er7]
        refine lv_iconst (v := 0) hx hb dX1_copyFrom_53 (by decide) ?_
        refine lv_aload_n hx hb dX1_copyFrom_54 rfl (lv_at hl 1 rfl) ?_
        obtain ⟨r8, er8⟩ : ∃ z, kR κ this 3 = z := ⟨_, rfl⟩
        have tr8 : zk σ0 r8 15 := by rw [← er8]; exact hT0.ref t_this (by decide) (by decide) (by decide)
        refine va_get (D := κ.1) (ci := 1) (v := .ref (kR κ this 3)) (C := RX1) (T := TX1) (N := 13) hx hb hg inX1 hown hK (hT.o3 (hT.k t_this (by decide))).one 0 rfl rfl 3 (by decide) (hg _ k283) (fun _ h9 => h9) rfl dX1_copyFrom_55 ?_
        rw [er8]
        refine lv_iconst (v := 0) hx hb dX1_copyFrom_58 (by decide) ?_
        refine lv_bipush (v := 48) hx hb dX1_copyFrom_59 (by decide) ?_
        have hTo := hT
        refine tcopyi (n0 := 48) (n1 := 48) hx hb (hml.trans hl.1.symm) hown (hg _ k1127) (hg _ k362) (hg _ k361) (hg _ k91) hK hT (hT.k tr7 (by decide)) (by decide) (fun _ _ _ => rfl) (hT.k tr8 (by decide)) ⟨by decide, by decide⟩ (fun _ _ _ => rfl) (fun _ _ => trivial) (fun _ => rfl) (by omega) (by omega) (by omega) (by omega) (by omega) (Nat.le_of_ble_eq_true rfl) (Nat.le_of_ble_eq_true rfl) dX1_copyFrom_61 (fun H locs s9 hus9 hT => ?_)
        refine lv_iconst (v := 0) hx hb dX1_copyFrom_64 (by decide) ?_
        refine lv_istore_n (lv' := [(2, .int 0), (0, .ref this), (1, .ref o)]) hx hb dX1_copyFrom_65 rfl hl (by decide) rfl (fun ls hl => ?_)
        have loop66 : ∀ (n9 : Nat) (i : Int32) (H : Heap) (locs : List Loc) (sg : Gh) (ls : Array Slot), TS κ fCp σ0 sg s H locs → (0 ≤ i.toInt) → (i.toInt ≤ 46) → lv_has ls 3 [(2, .int i), (0, .ref this), (1, .ref o)] → (46 - i.toInt) < n9 → tW p l e 4 105 κ s m #[.ref this, .ref o] below meth c H locs Q9 (F0 m 66 ls []) := by
          intro n9
          induction n9 with
          | zero =>
            intro i H locs sg ls hT q1 q2 hl hm9
            exfalso
            omega
          | succ n9 ih9 =>
            have ih66 := ih9
            clear ih9
            intro i H locs s10 ls hT q1 q2 hl hm9
            refine lv_iload_n hx hb dX1_copyFrom_66 rfl (lv_at hl 0 rfl) ?_
            refine lv_aload_n hx hb dX1_copyFrom_67 rfl (lv_at hl 2 rfl) ?_
            obtain ⟨v11, ev11⟩ : ∃ zz9 : Int32, zI s10 o 5 = zz9 := ⟨_, rfl⟩
            have qv11 : v11.toInt = (zI s10 o 5).toInt := by rw [ev11]
            have b12 := (hT.P (hT.k t_o (by decide)) (by decide)).1
            rw [ev11] at b12
            have b12l := b12.1
            have b12h := b12.2
            refine va_get (D := κ.1) (ci := 1) (v := .int (zI s10 o 5)) (C := RX1) (T := TX1) (N := 13) hx hb hg inX1 hown hK (hT.o3 (hT.k t_o (by decide))).one 0 rfl rfl 5 (by decide) (hg _ k287) (fun _ h9 => h9) rfl dX1_copyFrom_68 ?_
            rw [ev11]
            refine lv_icmp_ge (tgt := 95) hx hb dX1_copyFrom_71 (by decide) (fun c9 => ?_) (fun c9 => ?_)
            · have c2 := gi_le c9
              refine lv_aload_n hx hb dX1_copyFrom_95 rfl (lv_at hl 1 rfl) ?_
              refine lv_aload_n hx hb dX1_copyFrom_96 rfl (lv_at hl 2 rfl) ?_
              refine va_get (D := κ.1) (ci := 1) (v := .int (zI s10 o 5)) (C := RX1) (T := TX1) (N := 13) hx hb hg inX1 hown hK (hT.o3 (hT.k t_o (by decide))).one 0 rfl rfl 5 (by decide) (hg _ k287) (fun _ h9 => h9) rfl dX1_copyFrom_97 ?_
              rw [ev11]
              have hTo := hT
              refine pf3_5 hx hb hg hown hK hT (hT.k t_this (by decide)) rfl ⟨by omega, by omega⟩ (hg _ k287) dX1_copyFrom_100 (fun H locs s13 hus13 hT => ?_)
              have e14 : zI s13 this 5 = v11 := zput_at hus13
              refine lv_aload_n hx hb dX1_copyFrom_103 rfl (lv_at hl 1 rfl) ?_
              obtain ⟨r15, er15⟩ : ∃ z, kR κ this 6 = z := ⟨_, rfl⟩
              have tr15 : zk σ0 r15 1 := by rw [← er15]; exact hT0.ref t_this (by decide) (by decide) (by decide)
              refine va_get (D := κ.1) (ci := 1) (v := .ref (kR κ this 6)) (C := RX1) (T := TX1) (N := 13) hx hb hg inX1 hown hK (hT.o3 (hT.k t_this (by decide))).one 0 rfl rfl 6 (by decide) (hg _ k289) (fun _ h9 => h9) rfl dX1_copyFrom_104 ?_
              rw [er15]
              refine lv_aload_n hx hb dX1_copyFrom_107 rfl (lv_at hl 2 rfl) ?_
              obtain ⟨r16, er16⟩ : ∃ z, kR κ o 6 = z := ⟨_, rfl⟩
              have tr16 : zk σ0 r16 1 := by rw [← er16]; exact hT0.ref t_o (by decide) (by decide) (by decide)
              refine va_get (D := κ.1) (ci := 1) (v := .ref (kR κ o 6)) (C := RX1) (T := TX1) (N := 13) hx hb hg inX1 hown hK (hT.o3 (hT.k t_o (by decide))).one 0 rfl rfl 6 (by decide) (hg _ k289) (fun _ h9 => h9) rfl dX1_copyFrom_108 ?_
              rw [er16]
              obtain ⟨h19, oh19, th19⟩ := hT.o1 (hT.k tr15 (by decide))
              have hTo := hT
              refine tVv (n := 1) (As := [.ref r16]) (rest := []) hx hb hml hown hg hT hK hX (X4_copyFrom l κ s13 r15 r16  (hT.k tr15 (by decide)) (hT.k tr16 (by decide)) ) sub_fW_fCp (mwV k455 k456 k457 k88 k458) ⟨rfl, by decide, by decide, by decide +kernel⟩ ⟨(Nat.le_of_ble_eq_true rfl), (Nat.le_of_ble_eq_true rfl)⟩ oh19 rfl rfl hl.1 rfl (Nat.le_of_ble_eq_true rfl) dX1_copyFrom_111 zroom.rf (fun s18 H locs hφ hEs18 hT => ?_)
              have e14 : zI s18 this 5 = v11 := ((hTo.k t_this (by decide)).eI hEs18 (by decide) rfl).trans e14
              refine lv_aload_n hx hb dX1_copyFrom_114 rfl (lv_at hl 1 rfl) ?_
              refine lv_aload_n hx hb dX1_copyFrom_115 rfl (lv_at hl 2 rfl) ?_
              obtain ⟨v20, ev20⟩ : ∃ zz9 : Int32, zI s18 o 7 = zz9 := ⟨_, rfl⟩
              have qv20 : v20.toInt = (zI s18 o 7).toInt := by rw [ev20]
              refine va_get (D := κ.1) (ci := 1) (v := .int (zI s18 o 7)) (C := RX1) (T := TX1) (N := 13) hx hb hg inX1 hown hK (hT.o3 (hT.k t_o (by decide))).one 0 rfl rfl 7 (by decide) (hg _ k291) (fun _ h9 => h9) rfl dX1_copyFrom_116 ?_
              rw [ev20]
              have hTo := hT
              refine pf3_7 hx hb hg hown hK hT (hT.k t_this (by decide)) rfl (hg _ k291) dX1_copyFrom_119 (fun H locs s21 hus21 hT => ?_)
              have e14 : zI s21 this 5 = v11 := (zput_o hus21 (Or.inr (by decide))).trans e14
              have e22 : zI s21 this 7 = v20 := zput_at hus21
              refine lv_aload_n hx hb dX1_copyFrom_122 rfl (lv_at hl 1 rfl) ?_
              refine lv_aload_n hx hb dX1_copyFrom_123 rfl (lv_at hl 2 rfl) ?_
              obtain ⟨v23, ev23⟩ : ∃ zz9 : Int32, zI s21 o 8 = zz9 := ⟨_, rfl⟩
              have qv23 : v23.toInt = (zI s21 o 8).toInt := by rw [ev23]
              refine va_get (D := κ.1) (ci := 1) (v := .int (zI s21 o 8)) (C := RX1) (T := TX1) (N := 13) hx hb hg inX1 hown hK (hT.o3 (hT.k t_o (by decide))).one 0 rfl rfl 8 (by decide) (hg _ k293) (fun _ h9 => h9) rfl dX1_copyFrom_124 ?_
              rw [ev23]
              have hTo := hT
              refine pf3_8 hx hb hg hown hK hT (hT.k t_this (by decide)) rfl (hg _ k293) dX1_copyFrom_127 (fun H locs s24 hus24 hT => ?_)
              have e14 : zI s24 this 5 = v11 := (zput_o hus24 (Or.inr (by decide))).trans e14
              have e22 : zI s24 this 7 = v20 := (zput_o hus24 (Or.inr (by decide))).trans e22
              have e25 : zI s24 this 8 = v23 := zput_at hus24
              refine lv_aload_n hx hb dX1_copyFrom_130 rfl (lv_at hl 1 rfl) ?_
              refine lv_aload_n hx hb dX1_copyFrom_131 rfl (lv_at hl 2 rfl) ?_
              obtain ⟨v26, ev26⟩ : ∃ zz9 : Int32, zI s24 o 9 = zz9 := ⟨_, rfl⟩
              have qv26 : v26.toInt = (zI s24 o 9).toInt := by rw [ev26]
              have b27 : isB v26 := by have q9 := (hT.P (hT.k t_o (by decide)) (by decide)).2; rw [ev26] at q9; exact q9
              refine va_get (D := κ.1) (ci := 1) (v := .int (zI s24 o 9)) (C := RX1) (T := TX1) (N := 13) hx hb hg inX1 hown hK (hT.o3 (hT.k t_o (by decide))).one 0 rfl rfl 9 (by decide) (hg _ k295) (fun _ h9 => h9) rfl dX1_copyFrom_132 ?_
              rw [ev26]
              have hTo := hT
              refine pf3_9 hx hb hg hown hK hT (hT.k t_this (by decide)) rfl b27 (hg _ k295) dX1_copyFrom_135 (fun H locs s28 hus28 hT => ?_)
              have e14 : zI s28 this 5 = v11 := (zput_o hus28 (Or.inr (by decide))).trans e14
              have e22 : zI s28 this 7 = v20 := (zput_o hus28 (Or.inr (by decide))).trans e22
              have e25 : zI s28 this 8 = v23 := (zput_o hus28 (Or.inr (by decide))).trans e25
              have e29 : zI s28 this 9 = v26 := zput_at hus28
              subst hQ9
              exact t_v hx hb hr hlocks hT trivial dX1_copyFrom_138
            · have c3 := gi_nle c9
              refine lv_aload_n hx hb dX1_copyFrom_74 rfl (lv_at hl 1 rfl) ?_
              obtain ⟨r30, er30⟩ : ∃ z, kR κ this 4 = z := ⟨_, rfl⟩
              have tr30 : zk σ0 r30 11 := by rw [← er30]; exact hT0.ref t_this (by decide) (by decide) (by decide)
              refine va_get (D := κ.1) (ci := 1) (v := .ref (kR κ this 4)) (C := RX1) (T := TX1) (N := 13) hx hb hg inX1 hown hK (hT.o3 (hT.k t_this (by decide))).one 0 rfl rfl 4 (by decide) (hg _ k285) (fun _ h9 => h9) rfl dX1_copyFrom_75 ?_
              rw [er30]
              refine lv_iload_n hx hb dX1_copyFrom_78 rfl (lv_at hl 0 rfl) ?_
              refine va_aldq hx hb hK (hT.o11 (hT.k tr30 (by decide))).one 0 5 rfl rfl (g_in (by omega) (by omega)) dX1_copyFrom_79 ?_
              obtain ⟨r32, er32⟩ : ∃ z, kR κ r30 (ix i) = z := ⟨_, rfl⟩
              have tr32 : zk σ0 r32 2 := by rw [← er32]; exact hT0.ref tr30 (by decide) (zR11 (ix_lt (by omega) (by omega))) (by decide)
              refine tv (.ref r32) (by rw [← er32]; rfl) ?_
              refine lv_aload_n hx hb dX1_copyFrom_80 rfl (lv_at hl 2 rfl) ?_
              obtain ⟨r33, er33⟩ : ∃ z, kR κ o 4 = z := ⟨_, rfl⟩
              have tr33 : zk σ0 r33 11 := by rw [← er33]; exact hT0.ref t_o (by decide) (by decide) (by decide)
              refine va_get (D := κ.1) (ci := 1) (v := .ref (kR κ o 4)) (C := RX1) (T := TX1) (N := 13) hx hb hg inX1 hown hK (hT.o3 (hT.k t_o (by decide))).one 0 rfl rfl 4 (by decide) (hg _ k285) (fun _ h9 => h9) rfl dX1_copyFrom_81 ?_
              rw [er33]
              refine lv_iload_n hx hb dX1_copyFrom_84 rfl (lv_at hl 0 rfl) ?_
              refine va_aldq hx hb hK (hT.o11 (hT.k tr33 (by decide))).one 0 5 rfl rfl (g_in (by omega) (by omega)) dX1_copyFrom_85 ?_
              obtain ⟨r35, er35⟩ : ∃ z, kR κ r33 (ix i) = z := ⟨_, rfl⟩
              have tr35 : zk σ0 r35 2 := by rw [← er35]; exact hT0.ref tr33 (by decide) (zR11 (ix_lt (by omega) (by omega))) (by decide)
              refine tv (.ref r35) (by rw [← er35]; rfl) ?_
              have hTo := hT
              refine tVv (n := 1) (As := [.ref r35]) (rest := []) hx hb hml hown hg hT hK hX (X2_copyFrom l κ s10 r32 r35  (hT.k tr32 (by decide)) (hT.k tr35 (by decide)) ) sub_fSp_fCp (mwV k1128 k1129 k1130 k89 k1131) ⟨rfl, by decide, by decide, by decide +kernel⟩ ⟨(Nat.le_of_ble_eq_true rfl), (Nat.le_of_ble_eq_true rfl)⟩ (hT.o2 (hT.k tr32 (by decide))) rfl rfl hl.1 rfl (Nat.le_of_ble_eq_true rfl) dX1_copyFrom_86 zroom.rf (fun s37 H locs hφ hEs37 hT => ?_)
              have ev11 : zI s37 o 5 = v11 := ((hTo.k t_o (by decide)).eI hEs37 (by decide) rfl).trans ev11
              obtain ⟨t38, qt38⟩ : ∃ zz9 : Int32, i + Int32.ofInt 1 = zz9 := ⟨_, rfl⟩
              refine lv_iinc (v := t38) (lv' := [(2, .int t38), (0, .ref this), (1, .ref o)]) hx hb dX1_copyFrom_89 hl (k := 0) rfl qt38 (by decide) rfl (fun ls hl => ?_)
              have ht38 : t38.toInt = i.toInt + 1 := by rw [← qt38]; exact v_addi rfl (show (Int32.ofInt 1).toInt = 1 from by decide) (by omega) (by omega)
              refine lv_goto (tgt := 66) hx hb dX1_copyFrom_92 (by decide) ?_
              exact ih66 t38 _ _ _ _ hT  (by omega) (by omega) hl (by omega)
        exact loop66 ((46 - (0 : Int32).toInt).toNat + 1) 0 _ _ _ _ hT  (by omega) (by omega) hl (by omega)
      · have c4 := gi_nle c9
        refine lv_aload_n hx hb dX1_copyFrom_13 rfl (lv_at hl 1 rfl) ?_
        obtain ⟨r39, er39⟩ : ∃ z, kR κ this 1 = z := ⟨_, rfl⟩
        have tr39 : zk σ0 r39 10 := by rw [← er39]; exact hT0.ref t_this (by decide) (by decide) (by decide)
        refine va_get (D := κ.1) (ci := 1) (v := .ref (kR κ this 1)) (C := RX1) (T := TX1) (N := 13) hx hb hg inX1 hown hK (hT.o3 (hT.k t_this (by decide))).one 0 rfl rfl 1 (by decide) (hg _ k279) (fun _ h9 => h9) rfl dX1_copyFrom_14 ?_
        rw [er39]
        refine lv_iload_n hx hb dX1_copyFrom_17 rfl (lv_at hl 0 rfl) ?_
        refine va_aldq hx hb hK (hT.o10 (hT.k tr39 (by decide))).one 0 4 rfl rfl (g_in (by omega) (by omega)) dX1_copyFrom_18 ?_
        obtain ⟨r41, er41⟩ : ∃ z, kR κ r39 (ix i) = z := ⟨_, rfl⟩
        have tr41 : zk σ0 r41 1 := by rw [← er41]; exact hT0.ref tr39 (by decide) (zR10 (ix_lt (by omega) (by omega))) (by decide)
        refine tv (.ref r41) (by rw [← er41]; rfl) ?_
        refine lv_aload_n hx hb dX1_copyFrom_19 rfl (lv_at hl 2 rfl) ?_
        obtain ⟨r42, er42⟩ : ∃ z, kR κ o 1 = z := ⟨_, rfl⟩
        have tr42 : zk σ0 r42 10 := by rw [← er42]; exact hT0.ref t_o (by decide) (by decide) (by decide)
        refine va_get (D := κ.1) (ci := 1) (v := .ref (kR κ o 1)) (C := RX1) (T := TX1) (N := 13) hx hb hg inX1 hown hK (hT.o3 (hT.k t_o (by decide))).one 0 rfl rfl 1 (by decide) (hg _ k279) (fun _ h9 => h9) rfl dX1_copyFrom_20 ?_
        rw [er42]
        refine lv_iload_n hx hb dX1_copyFrom_23 rfl (lv_at hl 0 rfl) ?_
        refine va_aldq hx hb hK (hT.o10 (hT.k tr42 (by decide))).one 0 4 rfl rfl (g_in (by omega) (by omega)) dX1_copyFrom_24 ?_
        obtain ⟨r44, er44⟩ : ∃ z, kR κ r42 (ix i) = z := ⟨_, rfl⟩
        have tr44 : zk σ0 r44 1 := by rw [← er44]; exact hT0.ref tr42 (by decide) (zR10 (ix_lt (by omega) (by omega))) (by decide)
        refine tv (.ref r44) (by rw [← er44]; rfl) ?_
        obtain ⟨h47, oh47, th47⟩ := hT.o1 (hT.k tr41 (by decide))
        have hTo := hT
        refine tVv (n := 1) (As := [.ref r44]) (rest := []) hx hb hml hown hg hT hK hX (X4_copyFrom l κ s1 r41 r44  (hT.k tr41 (by decide)) (hT.k tr44 (by decide)) ) sub_fW_fCp (mwV k455 k456 k457 k88 k458) ⟨rfl, by decide, by decide, by decide +kernel⟩ ⟨(Nat.le_of_ble_eq_true rfl), (Nat.le_of_ble_eq_true rfl)⟩ oh47 rfl rfl hl.1 rfl (Nat.le_of_ble_eq_true rfl) dX1_copyFrom_25 zroom.rf (fun s46 H locs hφ hEs46 hT => ?_)
        obtain ⟨t48, qt48⟩ : ∃ zz9 : Int32, i + Int32.ofInt 1 = zz9 := ⟨_, rfl⟩
        refine lv_iinc (v := t48) (lv' := [(2, .int t48), (0, .ref this), (1, .ref o)]) hx hb dX1_copyFrom_28 hl (k := 0) rfl qt48 (by decide) rfl (fun ls hl => ?_)
        have ht48 : t48.toInt = i.toInt + 1 := by rw [← qt48]; exact v_addi rfl (show (Int32.ofInt 1).toInt = 1 from by decide) (by omega) (by omega)
        refine lv_goto (tgt := 2) hx hb dX1_copyFrom_31 (by decide) ?_
        exact ih2 t48 _ _ _ _ hT  (by omega) (by omega) hl (by omega)
  exact loop2 (((zI σ0 src 2).toInt - (0 : Int32).toInt).toNat + 1) 0 _ _ _ _ hT  (by omega) (by omega) hl (by omega)
set_option maxHeartbeats 4000000 in
set_option maxRecDepth 100000 in
theorem X1_isPresent (l : Launch) (κ : Kt) (σ0 : Gh) (this : Nat) (i : Int32) (t_this : zk σ0 this 3) (h0 : 0 ≤ i.toInt) (h1 : i.toInt ≤ 47) : TC l yX1_isPresent cX1_isPresent 2 (some .boolean) 0 0 [.ref this, .int i] κ σ0 (tqi κ fE σ0 (fun (r : Int32) (τ : Gh) => (isB r))) := by
  refine TC.of fE (by decide +kernel) (Nat.le_of_ble_eq_true rfl) ?_
  intro p e s m below meth c ls hcs hK hX hT hl
  obtain ⟨hx, hb, hr, hml, hown, hg, hlocks, hin⟩ := hcs
  have hown : s.vm.findClass RX1 = some m.cls := hown
  have hl : lv_has ls 2 [(0, .ref this), (1, .int i)] := hl
  have hT0 := hT
  have nm1 : ((-1) : Int32).toInt = (-1) := by decide
  have n0 : (0 : Int32).toInt = 0 := by decide
  have n1 : (1 : Int32).toInt = 1 := by decide
  have i_lo := Int32.le_toInt i
  have i_hi := Int32.toInt_lt i
  generalize hQ9 : tQ _ _ _ _ _ _ = Q9
  refine lv_aload_n hx hb dX1_isPresent_0 rfl (lv_at hl 0 rfl) ?_
  obtain ⟨r1, er1⟩ : ∃ z, kR κ this 3 = z := ⟨_, rfl⟩
  have tr1 : zk σ0 r1 15 := by rw [← er1]; exact hT0.ref t_this (by decide) (by decide) (by decide)
  refine va_get (D := κ.1) (ci := 1) (v := .ref (kR κ this 3)) (C := RX1) (T := TX1) (N := 13) hx hb hg inX1 hown hK (hT.o3 (hT.k t_this (by decide))).one 0 rfl rfl 3 (by decide) (hg _ k283) (fun _ h9 => h9) rfl dX1_isPresent_1 ?_
  rw [er1]
  refine lv_iload_n hx hb dX1_isPresent_4 rfl (lv_at hl 1 rfl) ?_
  refine va_iald hx hb hK (hT.o15 (hT.k tr1 (by decide))).one 0 0 rfl rfl (g_in (by omega) (by omega)) dX1_isPresent_5 ?_
  refine lv_topi (fun t2 ht2 => ?_)
  refine lv_iconst (v := (-1)) hx hb dX1_isPresent_6 (by decide) ?_
  refine lv_icmp_ne (tgt := 14) hx hb dX1_isPresent_7 (by decide) (fun c9 => ?_) (fun c9 => ?_)
  · have c1 := gi_ne c9
    refine lv_iconst (v := 0) hx hb dX1_isPresent_14 (by decide) ?_
    subst hQ9
    exact t_z hx hb hr isB0 hlocks hT isB0 dX1_isPresent_15
  · have c2 := gi_eq c9
    refine lv_iconst (v := 1) hx hb dX1_isPresent_10 (by decide) ?_
    refine lv_goto (tgt := 15) hx hb dX1_isPresent_11 (by decide) ?_
    subst hQ9
    exact t_z hx hb hr isB1 hlocks hT isB1 dX1_isPresent_15
set_option maxHeartbeats 4000000 in
set_option maxRecDepth 100000 in
theorem X1_presentCount (l : Launch) (κ : Kt) (σ0 : Gh) (this : Nat) (t_this : zk σ0 this 3) : TC l yX1_presentCount cX1_presentCount 1 (some .int) 0 0 [.ref this] κ σ0 (tqi κ fE σ0 (fun (r : Int32) (τ : Gh) => True)) := by
  refine TC.of fE (by decide +kernel) (Nat.le_of_ble_eq_true rfl) ?_
  intro p e s m below meth c ls hcs hK hX hT hl
  obtain ⟨hx, hb, hr, hml, hown, hg, hlocks, hin⟩ := hcs
  have hown : s.vm.findClass RX1 = some m.cls := hown
  have hl : lv_has ls 1 [(0, .ref this)] := hl
  have hT0 := hT
  generalize hQ9 : tQ _ _ _ _ _ _ = Q9
  refine lv_aload_n hx hb dX1_presentCount_0 rfl (lv_at hl 0 rfl) ?_
  obtain ⟨r1, er1⟩ : ∃ z, kR κ this 0 = z := ⟨_, rfl⟩
  have tr1 : zk σ0 r1 4 := by rw [← er1]; exact hT0.ref t_this (by decide) (by decide) (by decide)
  refine va_get (D := κ.1) (ci := 1) (v := .ref (kR κ this 0)) (C := RX1) (T := TX1) (N := 13) hx hb hg inX1 hown hK (hT.o3 (hT.k t_this (by decide))).one 0 rfl rfl 0 (by decide) (hg _ k278) (fun _ h9 => h9) rfl dX1_presentCount_1 ?_
  rw [er1]
  obtain ⟨v2, ev2⟩ : ∃ zz9 : Int32, zI σ0 r1 2 = zz9 := ⟨_, rfl⟩
  have qv2 : v2.toInt = (zI σ0 r1 2).toInt := by rw [ev2]
  have b3 := (hT.P (hT.k tr1 (by decide)) (by decide)).1
  rw [(hT.eI tr1 (by decide) rfl ev2)] at b3
  have b3l := b3.1
  have b3h := b3.2
  refine va_get (D := κ.1) (ci := 0) (v := .int (zI σ0 r1 2)) (C := RX0) (T := TX0) (N := 7) hx hb hg inX0 hown hK (hT.o4 (hT.k tr1 (by decide))).one 0 rfl rfl 2 (by decide) (hg _ k162) (fun _ h9 => h9) rfl dX1_presentCount_4 ?_
  rw [(hT.eI tr1 (by decide) rfl ev2)]
  refine lv_aload_n hx hb dX1_presentCount_7 rfl (lv_at hl 0 rfl) ?_
  obtain ⟨v4, ev4⟩ : ∃ zz9 : Int32, zI σ0 this 5 = zz9 := ⟨_, rfl⟩
  have qv4 : v4.toInt = (zI σ0 this 5).toInt := by rw [ev4]
  have b5 := (hT.P (hT.k t_this (by decide)) (by decide)).1
  rw [(hT.eI t_this (by decide) rfl ev4)] at b5
  have b5l := b5.1
  have b5h := b5.2
  refine va_get (D := κ.1) (ci := 1) (v := .int (zI σ0 this 5)) (C := RX1) (T := TX1) (N := 13) hx hb hg inX1 hown hK (hT.o3 (hT.k t_this (by decide))).one 0 rfl rfl 5 (by decide) (hg _ k287) (fun _ h9 => h9) rfl dX1_presentCount_8 ?_
  rw [(hT.eI t_this (by decide) rfl ev4)]
  refine lv_isub hx hb dX1_presentCount_11 ?_
  first | refine g_sub (by omega) (by omega) (fun t6 ht6 => ?_) | refine lv_topi (fun t6 ht6 => ?_)
  subst hQ9
  exact t_i hx hb hr hlocks hT trivial dX1_presentCount_12
set_option maxHeartbeats 4000000 in
set_option maxRecDepth 100000 in
theorem X1_presentAt (l : Launch) (κ : Kt) (σ0 : Gh) (this : Nat) (x : Int32) (t_this : zk σ0 this 3) : TC l yX1_presentAt cX1_presentAt 4 (some .int) 1 21 [.ref this, .int x] κ σ0 (tqi κ fE σ0 (fun (r : Int32) (τ : Gh) => True)) := by
  refine TC.of fE (by decide +kernel) (Nat.le_of_ble_eq_true rfl) ?_
  intro p e s m below meth c ls hcs hK hX hT hl
  obtain ⟨hx, hb, hr, hml, hown, hg, hlocks, hin⟩ := hcs
  have hown : s.vm.findClass RX1 = some m.cls := hown
  have hl : lv_has ls 4 [(0, .ref this), (1, .int x)] := hl
  have hT0 := hT
  have nm1 : ((-1) : Int32).toInt = (-1) := by decide
  have n0 : (0 : Int32).toInt = 0 := by decide
  have x_lo := Int32.le_toInt x
  have x_hi := Int32.toInt_lt x
  generalize hQ9 : tQ _ _ _ _ _ _ = Q9
  obtain ⟨src, esrc⟩ : ∃ z, kR κ this 0 = z := ⟨_, rfl⟩
  have tsrc : zk σ0 src 4 := by rw [← esrc]; exact hT0.ref t_this (by decide) (by decide) (by decide)
  have bsrc := (hT0.P tsrc (by decide)).1
  have bsrcl := bsrc.1
  have bsrch := bsrc.2
  refine lv_iconst (v := 0) hx hb dX1_presentAt_0 (by decide) ?_
  refine lv_istore_n (lv' := [(2, .int 0), (0, .ref this), (1, .int x)]) hx hb dX1_presentAt_1 rfl hl (by decide) rfl (fun ls hl => ?_)
  refine lv_iconst (v := 0) hx hb dX1_presentAt_2 (by decide) ?_
  refine lv_istore_n (lv' := [(3, .int 0), (2, .int 0), (0, .ref this), (1, .int x)]) hx hb dX1_presentAt_3 rfl hl (by decide) rfl (fun ls hl => ?_)
  have loop4 : ∀ (n9 : Nat) (i : Int32) (pl : Int32) (H : Heap) (locs : List Loc) (sg : Gh) (ls : Array Slot), TS κ fE σ0 sg s H locs → (0 ≤ i.toInt) → (i.toInt ≤ (zI σ0 src 2).toInt) → (0 ≤ pl.toInt) → (pl.toInt ≤ i.toInt) → lv_has ls 4 [(3, .int i), (2, .int pl), (0, .ref this), (1, .int x)] → ((zI σ0 src 2).toInt - i.toInt) < n9 → tW p l e 1 21 κ s m #[.ref this, .int x] below meth c H locs Q9 (F0 m 4 ls []) := by
    intro n9
    induction n9 with
    | zero =>
      intro i pl H locs sg ls hT q1 q2 q3 q4 hl hm9
      exfalso
      omega
    | succ n9 ih9 =>
      have ih4 := ih9
      clear ih9
      intro i pl H locs s1 ls hT q1 q2 q3 q4 hl hm9
      refine lv_iload_n hx hb dX1_presentAt_4 rfl (lv_at hl 0 rfl) ?_
      refine lv_aload_n hx hb dX1_presentAt_5 rfl (lv_at hl 2 rfl) ?_
      refine va_get (D := κ.1) (ci := 1) (v := .ref (kR κ this 0)) (C := RX1) (T := TX1) (N := 13) hx hb hg inX1 hown hK (hT.o3 (hT.k t_this (by decide))).one 0 rfl rfl 0 (by decide) (hg _ k278) (fun _ h9 => h9) rfl dX1_presentAt_6 ?_
      rw [esrc]
      obtain ⟨v2, ev2⟩ : ∃ zz9 : Int32, zI σ0 src 2 = zz9 := ⟨_, rfl⟩
      have qv2 : v2.toInt = (zI σ0 src 2).toInt := by rw [ev2]
      have b3 := (hT.P (hT.k tsrc (by decide)) (by decide)).1
      rw [(hT.eI tsrc (by decide) rfl ev2)] at b3
      have b3l := b3.1
      have b3h := b3.2
      refine va_get (D := κ.1) (ci := 0) (v := .int (zI s1 src 2)) (C := RX0) (T := TX0) (N := 7) hx hb hg inX0 hown hK (hT.o4 (hT.k tsrc (by decide))).one 0 rfl rfl 2 (by decide) (hg _ k162) (fun _ h9 => h9) rfl dX1_presentAt_9 ?_
      rw [(hT.eI tsrc (by decide) rfl ev2)]
      refine lv_icmp_ge (tgt := 39) hx hb dX1_presentAt_12 (by decide) (fun c9 => ?_) (fun c9 => ?_)
      · have c1 := gi_le c9
        refine lv_iconst (v := (-1)) hx hb dX1_presentAt_39 (by decide) ?_
        subst hQ9
        exact t_i hx hb hr hlocks hT trivial dX1_presentAt_40
      · have c2 := gi_nle c9
        refine lv_aload_n hx hb dX1_presentAt_15 rfl (lv_at hl 2 rfl) ?_
        refine lv_iload_n hx hb dX1_presentAt_16 rfl (lv_at hl 0 rfl) ?_
        have hTo := hT
        refine tVi (n := 1) (As := [.int i]) (rest := []) hx hb hml hown hg hT hK hX (X1_isPresent l κ s1 this i  (hT.k t_this (by decide)) (by omega) (by omega)) (fun _ _ h => h) (mwV k459 k460 k461 k87 k462) ⟨rfl, by decide, by decide, by decide +kernel⟩ ⟨(Nat.le_of_ble_eq_true rfl), (Nat.le_of_ble_eq_true rfl)⟩ (hT.o3 (hT.k t_this (by decide))) rfl rfl hl.1 rfl (Nat.le_of_ble_eq_true rfl) dX1_presentAt_17 zroom.rf (fun x4 s5 H locs hφ hEs5 hT => ?_)
        have f6 := hφ
        refine lv_if_eq (tgt := 33) hx hb dX1_presentAt_20 (by decide) (fun c9 => ?_) (fun c9 => ?_)
        · have c3 := gi_eq c9
          obtain ⟨t7, qt7⟩ : ∃ zz9 : Int32, i + Int32.ofInt 1 = zz9 := ⟨_, rfl⟩
          refine lv_iinc (v := t7) (lv' := [(3, .int t7), (2, .int pl), (0, .ref this), (1, .int x)]) hx hb dX1_presentAt_33 hl (k := 0) rfl qt7 (by decide) rfl (fun ls hl => ?_)
          have ht7 : t7.toInt = i.toInt + 1 := by rw [← qt7]; exact v_addi rfl (show (Int32.ofInt 1).toInt = 1 from by decide) (by omega) (by omega)
          refine lv_goto (tgt := 4) hx hb dX1_presentAt_36 (by decide) ?_
          exact ih4 t7 pl _ _ _ _ hT  (by omega) (by omega) (by omega) (by omega) hl (by omega)
        · have c4 := gi_ne c9
          refine lv_iload_n hx hb dX1_presentAt_23 rfl (lv_at hl 1 rfl) ?_
          refine lv_iload_n hx hb dX1_presentAt_24 rfl (lv_at hl 3 rfl) ?_
          refine lv_icmp_ne (tgt := 30) hx hb dX1_presentAt_25 (by decide) (fun c9 => ?_) (fun c9 => ?_)
          · have c5 := gi_ne c9
            obtain ⟨t8, qt8⟩ : ∃ zz9 : Int32, pl + Int32.ofInt 1 = zz9 := ⟨_, rfl⟩
            refine lv_iinc (v := t8) (lv' := [(2, .int t8), (3, .int i), (0, .ref this), (1, .int x)]) hx hb dX1_presentAt_30 hl (k := 1) rfl qt8 (by decide) rfl (fun ls hl => ?_)
            have ht8 : t8.toInt = pl.toInt + 1 := by rw [← qt8]; exact v_addi rfl (show (Int32.ofInt 1).toInt = 1 from by decide) (by omega) (by omega)
            obtain ⟨t9, qt9⟩ : ∃ zz9 : Int32, i + Int32.ofInt 1 = zz9 := ⟨_, rfl⟩
            refine lv_iinc (v := t9) (lv' := [(3, .int t9), (2, .int t8), (0, .ref this), (1, .int x)]) hx hb dX1_presentAt_33 hl (k := 1) rfl qt9 (by decide) rfl (fun ls hl => ?_)
            have ht9 : t9.toInt = i.toInt + 1 := by rw [← qt9]; exact v_addi rfl (show (Int32.ofInt 1).toInt = 1 from by decide) (by omega) (by omega)
            refine lv_goto (tgt := 4) hx hb dX1_presentAt_36 (by decide) ?_
            exact ih4 t9 t8 _ _ _ _ hT  (by omega) (by omega) (by omega) (by omega) hl (by omega)
          · have c6 := gi_eq c9
            refine lv_iload_n hx hb dX1_presentAt_28 rfl (lv_at hl 0 rfl) ?_
            subst hQ9
            exact t_i hx hb hr hlocks hT trivial dX1_presentAt_29
  exact loop4 (((zI σ0 src 2).toInt - (0 : Int32).toInt).toNat + 1) 0 0 _ _ _ _ hT  (by omega) (by omega) (by omega) (by omega) hl (by omega)
set_option maxHeartbeats 4000000 in
set_option maxRecDepth 100000 in
theorem X1_leftOf (l : Launch) (κ : Kt) (σ0 : Gh) (this : Nat) (i : Int32) (t_this : zk σ0 this 3) (h0 : 0 ≤ i.toInt) (h1 : i.toInt ≤ 47) : TC l yX1_leftOf cX1_leftOf 3 (some .int) 1 21 [.ref this, .int i] κ σ0 (tqi κ fE σ0 (fun (r : Int32) (τ : Gh) => (-1 ≤ r.toInt) ∧ (r.toInt ≤ 47))) := by
  refine TC.of fE (by decide +kernel) (Nat.le_of_ble_eq_true rfl) ?_
  intro p e s m below meth c ls hcs hK hX hT hl
  obtain ⟨hx, hb, hr, hml, hown, hg, hlocks, hin⟩ := hcs
  have hown : s.vm.findClass RX1 = some m.cls := hown
  have hl : lv_has ls 3 [(0, .ref this), (1, .int i)] := hl
  have hT0 := hT
  have nm1 : ((-1) : Int32).toInt = (-1) := by decide
  have n0 : (0 : Int32).toInt = 0 := by decide
  have n1 : (1 : Int32).toInt = 1 := by decide
  have i_lo := Int32.le_toInt i
  have i_hi := Int32.toInt_lt i
  generalize hQ9 : tQ _ _ _ _ _ _ = Q9
  refine lv_iload_n hx hb dX1_leftOf_0 rfl (lv_at hl 1 rfl) ?_
  refine lv_iconst (v := 1) hx hb dX1_leftOf_1 (by decide) ?_
  refine lv_isub hx hb dX1_leftOf_2 ?_
  first | refine g_sub (by omega) (by omega) (fun t1 ht1 => ?_) | refine lv_topi (fun t1 ht1 => ?_)
  refine lv_istore_n (lv' := [(2, .int t1), (0, .ref this), (1, .int i)]) hx hb dX1_leftOf_3 rfl hl (by decide) rfl (fun ls hl => ?_)
  have loop4 : ∀ (n9 : Nat) (j : Int32) (H : Heap) (locs : List Loc) (sg : Gh) (ls : Array Slot), TS κ fE σ0 sg s H locs → (-1 ≤ j.toInt) → (j.toInt ≤ 47) → lv_has ls 3 [(2, .int j), (0, .ref this), (1, .int i)] → (j.toInt + 1) < n9 → tW p l e 1 21 κ s m #[.ref this, .int i] below meth c H locs Q9 (F0 m 4 ls []) := by
    intro n9
    induction n9 with
    | zero =>
      intro j H locs sg ls hT q1 q2 hl hm9
      exfalso
      omega
    | succ n9 ih9 =>
      have ih4 := ih9
      clear ih9
      intro j H locs s2 ls hT q1 q2 hl hm9
      refine lv_iload_n hx hb dX1_leftOf_4 rfl (lv_at hl 0 rfl) ?_
      refine lv_if_lt (tgt := 24) hx hb dX1_leftOf_5 (by decide) (fun c9 => ?_) (fun c9 => ?_)
      · have c1 := gi_lt c9
        refine lv_iconst (v := (-1)) hx hb dX1_leftOf_24 (by decide) ?_
        subst hQ9
        exact t_i hx hb hr hlocks hT ⟨by omega, by omega⟩ dX1_leftOf_25
      · have c2 := gi_nlt c9
        refine lv_aload_n hx hb dX1_leftOf_8 rfl (lv_at hl 1 rfl) ?_
        refine lv_iload_n hx hb dX1_leftOf_9 rfl (lv_at hl 0 rfl) ?_
        have hTo := hT
        refine tVi (n := 1) (As := [.int j]) (rest := []) hx hb hml hown hg hT hK hX (X1_isPresent l κ s2 this j  (hT.k t_this (by decide)) (by omega) (by omega)) (fun _ _ h => h) (mwV k459 k460 k461 k87 k462) ⟨rfl, by decide, by decide, by decide +kernel⟩ ⟨(Nat.le_of_ble_eq_true rfl), (Nat.le_of_ble_eq_true rfl)⟩ (hT.o3 (hT.k t_this (by decide))) rfl rfl hl.1 rfl (Nat.le_of_ble_eq_true rfl) dX1_leftOf_10 zroom.rf (fun x3 s4 H locs hφ hEs4 hT => ?_)
        have f5 := hφ
        refine lv_if_eq (tgt := 18) hx hb dX1_leftOf_13 (by decide) (fun c9 => ?_) (fun c9 => ?_)
        · have c3 := gi_eq c9
          obtain ⟨t6, qt6⟩ : ∃ zz9 : Int32, j + Int32.ofInt (-1) = zz9 := ⟨_, rfl⟩
          refine lv_iinc (v := t6) (lv' := [(2, .int t6), (0, .ref this), (1, .int i)]) hx hb dX1_leftOf_18 hl (k := 0) rfl qt6 (by decide) rfl (fun ls hl => ?_)
          have ht6 : t6.toInt = j.toInt + (-1) := by rw [← qt6]; exact v_addi rfl (show (Int32.ofInt (-1)).toInt = (-1) from by decide) (by omega) (by omega)
          refine lv_goto (tgt := 4) hx hb dX1_leftOf_21 (by decide) ?_
          exact ih4 t6 _ _ _ _ hT  (by omega) (by omega) hl (by omega)
        · have c4 := gi_ne c9
          refine lv_iload_n hx hb dX1_leftOf_16 rfl (lv_at hl 0 rfl) ?_
          subst hQ9
          exact t_i hx hb hr hlocks hT ⟨by omega, by omega⟩ dX1_leftOf_17
  exact loop4 ((t1.toInt + 1).toNat + 1) t1 _ _ _ _ hT  (by omega) (by omega) hl (by omega)
set_option maxHeartbeats 4000000 in
set_option maxRecDepth 100000 in
theorem X1_rightOf (l : Launch) (κ : Kt) (σ0 : Gh) (this : Nat) (i : Int32) (t_this : zk σ0 this 3) (h0 : 0 ≤ i.toInt) (h1 : i.toInt ≤ 47) : TC l yX1_rightOf cX1_rightOf 3 (some .int) 1 21 [.ref this, .int i] κ σ0 (tqi κ fE σ0 (fun (r : Int32) (τ : Gh) => (-1 ≤ r.toInt) ∧ (r.toInt ≤ 47))) := by
  refine TC.of fE (by decide +kernel) (Nat.le_of_ble_eq_true rfl) ?_
  intro p e s m below meth c ls hcs hK hX hT hl
  obtain ⟨hx, hb, hr, hml, hown, hg, hlocks, hin⟩ := hcs
  have hown : s.vm.findClass RX1 = some m.cls := hown
  have hl : lv_has ls 3 [(0, .ref this), (1, .int i)] := hl
  have hT0 := hT
  have nm1 : ((-1) : Int32).toInt = (-1) := by decide
  have n0 : (0 : Int32).toInt = 0 := by decide
  have n1 : (1 : Int32).toInt = 1 := by decide
  have i_lo := Int32.le_toInt i
  have i_hi := Int32.toInt_lt i
  generalize hQ9 : tQ _ _ _ _ _ _ = Q9
  obtain ⟨src, esrc⟩ : ∃ z, kR κ this 0 = z := ⟨_, rfl⟩
  have tsrc : zk σ0 src 4 := by rw [← esrc]; exact hT0.ref t_this (by decide) (by decide) (by decide)
  have bsrc := (hT0.P tsrc (by decide)).1
  have bsrcl := bsrc.1
  have bsrch := bsrc.2
  refine lv_iload_n hx hb dX1_rightOf_0 rfl (lv_at hl 1 rfl) ?_
  refine lv_iconst (v := 1) hx hb dX1_rightOf_1 (by decide) ?_
  refine lv_iadd hx hb dX1_rightOf_2 ?_
  first | refine g_add (by omega) (by omega) (fun t1 ht1 => ?_) | refine lv_topi (fun t1 ht1 => ?_)
  refine lv_istore_n (lv' := [(2, .int t1), (0, .ref this), (1, .int i)]) hx hb dX1_rightOf_3 rfl hl (by decide) rfl (fun ls hl => ?_)
  have loop4 : ∀ (n9 : Nat) (j : Int32) (H : Heap) (locs : List Loc) (sg : Gh) (ls : Array Slot), TS κ fE σ0 sg s H locs → (0 ≤ j.toInt) → (j.toInt ≤ 48) → lv_has ls 3 [(2, .int j), (0, .ref this), (1, .int i)] → (48 - j.toInt) < n9 → tW p l e 1 21 κ s m #[.ref this, .int i] below meth c H locs Q9 (F0 m 4 ls []) := by
    intro n9
    induction n9 with
    | zero =>
      intro j H locs sg ls hT q1 q2 hl hm9
      exfalso
      omega
    | succ n9 ih9 =>
      have ih4 := ih9
      clear ih9
      intro j H locs s2 ls hT q1 q2 hl hm9
      refine lv_iload_n hx hb dX1_rightOf_4 rfl (lv_at hl 0 rfl) ?_
      refine lv_aload_n hx hb dX1_rightOf_5 rfl (lv_at hl 1 rfl) ?_
      refine va_get (D := κ.1) (ci := 1) (v := .ref (kR κ this 0)) (C := RX1) (T := TX1) (N := 13) hx hb hg inX1 hown hK (hT.o3 (hT.k t_this (by decide))).one 0 rfl rfl 0 (by decide) (hg _ k278) (fun _ h9 => h9) rfl dX1_rightOf_6 ?_
      rw [esrc]
      obtain ⟨v3, ev3⟩ : ∃ zz9 : Int32, zI σ0 src 2 = zz9 := ⟨_, rfl⟩
      have qv3 : v3.toInt = (zI σ0 src 2).toInt := by rw [ev3]
      have b4 := (hT.P (hT.k tsrc (by decide)) (by decide)).1
      rw [(hT.eI tsrc (by decide) rfl ev3)] at b4
      have b4l := b4.1
      have b4h := b4.2
      refine va_get (D := κ.1) (ci := 0) (v := .int (zI s2 src 2)) (C := RX0) (T := TX0) (N := 7) hx hb hg inX0 hown hK (hT.o4 (hT.k tsrc (by decide))).one 0 rfl rfl 2 (by decide) (hg _ k162) (fun _ h9 => h9) rfl dX1_rightOf_9 ?_
      rw [(hT.eI tsrc (by decide) rfl ev3)]
      refine lv_icmp_ge (tgt := 31) hx hb dX1_rightOf_12 (by decide) (fun c9 => ?_) (fun c9 => ?_)
      · have c1 := gi_le c9
        refine lv_iconst (v := (-1)) hx hb dX1_rightOf_31 (by decide) ?_
        subst hQ9
        exact t_i hx hb hr hlocks hT ⟨by omega, by omega⟩ dX1_rightOf_32
      · have c2 := gi_nle c9
        refine lv_aload_n hx hb dX1_rightOf_15 rfl (lv_at hl 1 rfl) ?_
        refine lv_iload_n hx hb dX1_rightOf_16 rfl (lv_at hl 0 rfl) ?_
        have hTo := hT
        refine tVi (n := 1) (As := [.int j]) (rest := []) hx hb hml hown hg hT hK hX (X1_isPresent l κ s2 this j  (hT.k t_this (by decide)) (by omega) (by omega)) (fun _ _ h => h) (mwV k459 k460 k461 k87 k462) ⟨rfl, by decide, by decide, by decide +kernel⟩ ⟨(Nat.le_of_ble_eq_true rfl), (Nat.le_of_ble_eq_true rfl)⟩ (hT.o3 (hT.k t_this (by decide))) rfl rfl hl.1 rfl (Nat.le_of_ble_eq_true rfl) dX1_rightOf_17 zroom.rf (fun x5 s6 H locs hφ hEs6 hT => ?_)
        have f7 := hφ
        refine lv_if_eq (tgt := 25) hx hb dX1_rightOf_20 (by decide) (fun c9 => ?_) (fun c9 => ?_)
        · have c3 := gi_eq c9
          obtain ⟨t8, qt8⟩ : ∃ zz9 : Int32, j + Int32.ofInt 1 = zz9 := ⟨_, rfl⟩
          refine lv_iinc (v := t8) (lv' := [(2, .int t8), (0, .ref this), (1, .int i)]) hx hb dX1_rightOf_25 hl (k := 0) rfl qt8 (by decide) rfl (fun ls hl => ?_)
          have ht8 : t8.toInt = j.toInt + 1 := by rw [← qt8]; exact v_addi rfl (show (Int32.ofInt 1).toInt = 1 from by decide) (by omega) (by omega)
          refine lv_goto (tgt := 4) hx hb dX1_rightOf_28 (by decide) ?_
          exact ih4 t8 _ _ _ _ hT  (by omega) (by omega) hl (by omega)
        · have c4 := gi_ne c9
          refine lv_iload_n hx hb dX1_rightOf_23 rfl (lv_at hl 0 rfl) ?_
          subst hQ9
          exact t_i hx hb hr hlocks hT ⟨by omega, by omega⟩ dX1_rightOf_24
  exact loop4 ((48 - t1.toInt).toNat + 1) t1 _ _ _ _ hT  (by omega) (by omega) hl (by omega)
set_option maxHeartbeats 4000000 in
set_option maxRecDepth 100000 in
theorem X1_weightSum (l : Launch) (κ : Kt) (σ0 : Gh) (this : Nat) (t_this : zk σ0 this 3) : TC l yX1_weightSum cX1_weightSum 4 (some .long) 1 21 [.ref this] κ σ0 (tql κ fE σ0 (fun (r : Int64) (τ : Gh) => True)) := by
  refine TC.of fE (by decide +kernel) (Nat.le_of_ble_eq_true rfl) ?_
  intro p e s m below meth c ls hcs hK hX hT hl
  obtain ⟨hx, hb, hr, hml, hown, hg, hlocks, hin⟩ := hcs
  have hown : s.vm.findClass RX1 = some m.cls := hown
  have hl : lv_has ls 4 [(0, .ref this)] := hl
  have hT0 := hT
  have n0 : (0 : Int32).toInt = 0 := by decide
  have j0 : (0 : Int64).toInt = 0 := by decide
  generalize hQ9 : tQ _ _ _ _ _ _ = Q9
  obtain ⟨src, esrc⟩ : ∃ z, kR κ this 0 = z := ⟨_, rfl⟩
  have tsrc : zk σ0 src 4 := by rw [← esrc]; exact hT0.ref t_this (by decide) (by decide) (by decide)
  have bsrc := (hT0.P tsrc (by decide)).1
  have bsrcl := bsrc.1
  have bsrch := bsrc.2
  refine lv_lconst (v := 0) hx hb dX1_weightSum_0 (by decide) ?_
  refine lv_lstore_n (lv' := [(1, .long 0), (0, .ref this)]) hx hb dX1_weightSum_1 rfl hl (by decide) rfl (fun ls hl => ?_)
  refine lv_iconst (v := 0) hx hb dX1_weightSum_2 (by decide) ?_
  refine lv_istore_n (lv' := [(3, .int 0), (1, .long 0), (0, .ref this)]) hx hb dX1_weightSum_3 rfl hl (by decide) rfl (fun ls hl => ?_)
  have loop4 : ∀ (n9 : Nat) (i : Int32) (sm : Int64) (H : Heap) (locs : List Loc) (sg : Gh) (ls : Array Slot), TS κ fE σ0 sg s H locs → (0 ≤ i.toInt) → (i.toInt ≤ (zI σ0 src 2).toInt) → lv_has ls 4 [(3, .int i), (1, .long sm), (0, .ref this)] → ((zI σ0 src 2).toInt - i.toInt) < n9 → tW p l e 1 21 κ s m #[.ref this] below meth c H locs Q9 (F0 m 4 ls []) := by
    intro n9
    induction n9 with
    | zero =>
      intro i sm H locs sg ls hT q1 q2 hl hm9
      exfalso
      omega
    | succ n9 ih9 =>
      have ih4 := ih9
      clear ih9
      intro i sm H locs s1 ls hT q1 q2 hl hm9
      refine lv_iload_n hx hb dX1_weightSum_4 rfl (lv_at hl 0 rfl) ?_
      refine lv_aload_n hx hb dX1_weightSum_5 rfl (lv_at hl 2 rfl) ?_
      refine va_get (D := κ.1) (ci := 1) (v := .ref (kR κ this 0)) (C := RX1) (T := TX1) (N := 13) hx hb hg inX1 hown hK (hT.o3 (hT.k t_this (by decide))).one 0 rfl rfl 0 (by decide) (hg _ k278) (fun _ h9 => h9) rfl dX1_weightSum_6 ?_
      rw [esrc]
      obtain ⟨v2, ev2⟩ : ∃ zz9 : Int32, zI σ0 src 2 = zz9 := ⟨_, rfl⟩
      have qv2 : v2.toInt = (zI σ0 src 2).toInt := by rw [ev2]
      have b3 := (hT.P (hT.k tsrc (by decide)) (by decide)).1
      rw [(hT.eI tsrc (by decide) rfl ev2)] at b3
      have b3l := b3.1
      have b3h := b3.2
      refine va_get (D := κ.1) (ci := 0) (v := .int (zI s1 src 2)) (C := RX0) (T := TX0) (N := 7) hx hb hg inX0 hown hK (hT.o4 (hT.k tsrc (by decide))).one 0 rfl rfl 2 (by decide) (hg _ k162) (fun _ h9 => h9) rfl dX1_weightSum_9 ?_
      rw [(hT.eI tsrc (by decide) rfl ev2)]
      refine lv_icmp_ge (tgt := 38) hx hb dX1_weightSum_12 (by decide) (fun c9 => ?_) (fun c9 => ?_)
      · have c1 := gi_le c9
        refine lv_lload_n hx hb dX1_weightSum_38 rfl (lv_at hl 1 rfl) ?_
        subst hQ9
        exact t_l hx hb hr hlocks hT trivial dX1_weightSum_39
      · have c2 := gi_nle c9
        refine lv_aload_n hx hb dX1_weightSum_15 rfl (lv_at hl 2 rfl) ?_
        refine lv_iload_n hx hb dX1_weightSum_16 rfl (lv_at hl 0 rfl) ?_
        have hTo := hT
        refine tVi (n := 1) (As := [.int i]) (rest := []) hx hb hml hown hg hT hK hX (X1_isPresent l κ s1 this i  (hT.k t_this (by decide)) (by omega) (by omega)) (fun _ _ h => h) (mwV k459 k460 k461 k87 k462) ⟨rfl, by decide, by decide, by decide +kernel⟩ ⟨(Nat.le_of_ble_eq_true rfl), (Nat.le_of_ble_eq_true rfl)⟩ (hT.o3 (hT.k t_this (by decide))) rfl rfl hl.1 rfl (Nat.le_of_ble_eq_true rfl) dX1_weightSum_17 zroom.rf (fun x4 s5 H locs hφ hEs5 hT => ?_)
        have f6 := hφ
        refine lv_if_eq (tgt := 32) hx hb dX1_weightSum_20 (by decide) (fun c9 => ?_) (fun c9 => ?_)
        · have c3 := gi_eq c9
          obtain ⟨t7, qt7⟩ : ∃ zz9 : Int32, i + Int32.ofInt 1 = zz9 := ⟨_, rfl⟩
          refine lv_iinc (v := t7) (lv' := [(3, .int t7), (1, .long sm), (0, .ref this)]) hx hb dX1_weightSum_32 hl (k := 0) rfl qt7 (by decide) rfl (fun ls hl => ?_)
          have ht7 : t7.toInt = i.toInt + 1 := by rw [← qt7]; exact v_addi rfl (show (Int32.ofInt 1).toInt = 1 from by decide) (by omega) (by omega)
          refine lv_goto (tgt := 4) hx hb dX1_weightSum_35 (by decide) ?_
          exact ih4 t7 sm _ _ _ _ hT  (by omega) (by omega) hl (by omega)
        · have c4 := gi_ne c9
          refine lv_lload_n hx hb dX1_weightSum_23 rfl (lv_at hl 1 rfl) ?_
          refine lv_aload_n hx hb dX1_weightSum_24 rfl (lv_at hl 2 rfl) ?_
          obtain ⟨r8, er8⟩ : ∃ z, kR κ this 2 = z := ⟨_, rfl⟩
          have tr8 : zk σ0 r8 9 := by rw [← er8]; exact hT0.ref t_this (by decide) (by decide) (by decide)
          refine va_get (D := κ.1) (ci := 1) (v := .ref (kR κ this 2)) (C := RX1) (T := TX1) (N := 13) hx hb hg inX1 hown hK (hT.o3 (hT.k t_this (by decide))).one 0 rfl rfl 2 (by decide) (hg _ k281) (fun _ h9 => h9) rfl dX1_weightSum_25 ?_
          rw [er8]
          refine lv_iload_n hx hb dX1_weightSum_28 rfl (lv_at hl 0 rfl) ?_
          refine va_lald hx hb hK (hT.o9 (hT.k tr8 (by decide))).one 0 1 rfl rfl (g_in (by omega) (by omega)) dX1_weightSum_29 ?_
          refine lv_topl (fun t9 ht9 => ?_)
          refine lv_ladd hx hb dX1_weightSum_30 ?_
          refine lv_topl (fun t10 ht10 => ?_)
          refine lv_lstore_n (lv' := [(1, .long t10), (3, .int i), (0, .ref this)]) hx hb dX1_weightSum_31 rfl hl (by decide) rfl (fun ls hl => ?_)
          obtain ⟨t11, qt11⟩ : ∃ zz9 : Int32, i + Int32.ofInt 1 = zz9 := ⟨_, rfl⟩
          refine lv_iinc (v := t11) (lv' := [(3, .int t11), (1, .long t10), (0, .ref this)]) hx hb dX1_weightSum_32 hl (k := 1) rfl qt11 (by decide) rfl (fun ls hl => ?_)
          have ht11 : t11.toInt = i.toInt + 1 := by rw [← qt11]; exact v_addi rfl (show (Int32.ofInt 1).toInt = 1 from by decide) (by omega) (by omega)
          refine lv_goto (tgt := 4) hx hb dX1_weightSum_35 (by decide) ?_
          exact ih4 t11 t10 _ _ _ _ hT  (by omega) (by omega) hl (by omega)
  exact loop4 (((zI σ0 src 2).toInt - (0 : Int32).toInt).toNat + 1) 0 0 _ _ _ _ hT  (by omega) (by omega) hl (by omega)
set_option maxHeartbeats 4000000 in
set_option maxRecDepth 100000 in
theorem X1_valueSum (l : Launch) (κ : Kt) (σ0 : Gh) (this : Nat) (t_this : zk σ0 this 3) : TC l yX1_valueSum cX1_valueSum 2 (some (.object "LiftingSignal$Whole")) 3 89 [.ref this] κ σ0 (tqr κ fW σ0 (fun (r : Nat) (τ : Gh) => (zk σ0 r 1))) := by
  refine TC.of fW (by decide +kernel) (Nat.le_of_ble_eq_true rfl) ?_
  intro p e s m below meth c ls hcs hK hX hT hl
  obtain ⟨hx, hb, hr, hml, hown, hg, hlocks, hin⟩ := hcs
  have hown : s.vm.findClass RX1 = some m.cls := hown
  have hl : lv_has ls 2 [(0, .ref this)] := hl
  have hT0 := hT
  have n0 : (0 : Int32).toInt = 0 := by decide
  have j0 : (0 : Int64).toInt = 0 := by decide
  have j1 : (1 : Int64).toInt = 1 := by decide
  generalize hQ9 : tQ _ _ _ _ _ _ = Q9
  obtain ⟨src, esrc⟩ : ∃ z, kR κ this 0 = z := ⟨_, rfl⟩
  have tsrc : zk σ0 src 4 := by rw [← esrc]; exact hT0.ref t_this (by decide) (by decide) (by decide)
  have bsrc := (hT0.P tsrc (by decide)).1
  have bsrcl := bsrc.1
  have bsrch := bsrc.2
  refine lv_aload_n hx hb dX1_valueSum_0 rfl (lv_at hl 0 rfl) ?_
  obtain ⟨r1, er1⟩ : ∃ z, kR κ this 12 = z := ⟨_, rfl⟩
  have tr1 : zk σ0 r1 1 := by rw [← er1]; exact hT0.ref t_this (by decide) (by decide) (by decide)
  refine va_get (D := κ.1) (ci := 1) (v := .ref (kR κ this 12)) (C := RX1) (T := TX1) (N := 13) hx hb hg inX1 hown hK (hT.o3 (hT.k t_this (by decide))).one 0 rfl rfl 12 (by decide) (hg _ k299) (fun _ h9 => h9) rfl dX1_valueSum_1 ?_
  rw [er1]
  refine lv_lconst (v := 0) hx hb dX1_valueSum_4 (by decide) ?_
  obtain ⟨h4, oh4, th4⟩ := hT.o1 (hT.k tr1 (by decide))
  have hTo := hT
  refine tVv (n := 1) (As := [.long 0]) (rest := []) hx hb hml hown hg hT hK hX (X4_become l κ σ0 r1 0  (hT.k tr1 (by decide)) ) sub_fX_fW (mwV k274 k275 k276 k88 k277) ⟨rfl, by decide, by decide, by decide +kernel⟩ ⟨(Nat.le_of_ble_eq_true rfl), (Nat.le_of_ble_eq_true rfl)⟩ oh4 rfl rfl hl.1 rfl (Nat.le_of_ble_eq_true rfl) dX1_valueSum_5 zroom.rf (fun s3 H locs hφ hEs3 hT => ?_)
  refine lv_iconst (v := 0) hx hb dX1_valueSum_8 (by decide) ?_
  refine lv_istore_n (lv' := [(1, .int 0), (0, .ref this)]) hx hb dX1_valueSum_9 rfl hl (by decide) rfl (fun ls hl => ?_)
  have loop10 : ∀ (n9 : Nat) (i : Int32) (H : Heap) (locs : List Loc) (sg : Gh) (ls : Array Slot), TS κ fW σ0 sg s H locs → (0 ≤ i.toInt) → (i.toInt ≤ (zI σ0 src 2).toInt) → lv_has ls 2 [(1, .int i), (0, .ref this)] → ((zI σ0 src 2).toInt - i.toInt) < n9 → tW p l e 3 89 κ s m #[.ref this] below meth c H locs Q9 (F0 m 10 ls []) := by
    intro n9
    induction n9 with
    | zero =>
      intro i H locs sg ls hT q1 q2 hl hm9
      exfalso
      omega
    | succ n9 ih9 =>
      have ih10 := ih9
      clear ih9
      intro i H locs s5 ls hT q1 q2 hl hm9
      refine lv_iload_n hx hb dX1_valueSum_10 rfl (lv_at hl 0 rfl) ?_
      refine lv_aload_n hx hb dX1_valueSum_11 rfl (lv_at hl 1 rfl) ?_
      refine va_get (D := κ.1) (ci := 1) (v := .ref (kR κ this 0)) (C := RX1) (T := TX1) (N := 13) hx hb hg inX1 hown hK (hT.o3 (hT.k t_this (by decide))).one 0 rfl rfl 0 (by decide) (hg _ k278) (fun _ h9 => h9) rfl dX1_valueSum_12 ?_
      rw [esrc]
      obtain ⟨v6, ev6⟩ : ∃ zz9 : Int32, zI σ0 src 2 = zz9 := ⟨_, rfl⟩
      have qv6 : v6.toInt = (zI σ0 src 2).toInt := by rw [ev6]
      have b7 := (hT.P (hT.k tsrc (by decide)) (by decide)).1
      rw [(hT.eI tsrc (by decide) rfl ev6)] at b7
      have b7l := b7.1
      have b7h := b7.2
      refine va_get (D := κ.1) (ci := 0) (v := .int (zI s5 src 2)) (C := RX0) (T := TX0) (N := 7) hx hb hg inX0 hown hK (hT.o4 (hT.k tsrc (by decide))).one 0 rfl rfl 2 (by decide) (hg _ k162) (fun _ h9 => h9) rfl dX1_valueSum_15 ?_
      rw [(hT.eI tsrc (by decide) rfl ev6)]
      refine lv_icmp_ge (tgt := 49) hx hb dX1_valueSum_18 (by decide) (fun c9 => ?_) (fun c9 => ?_)
      · have c1 := gi_le c9
        refine lv_aload_n hx hb dX1_valueSum_49 rfl (lv_at hl 1 rfl) ?_
        refine va_get (D := κ.1) (ci := 1) (v := .ref (kR κ this 12)) (C := RX1) (T := TX1) (N := 13) hx hb hg inX1 hown hK (hT.o3 (hT.k t_this (by decide))).one 0 rfl rfl 12 (by decide) (hg _ k299) (fun _ h9 => h9) rfl dX1_valueSum_50 ?_
        rw [er1]
        subst hQ9
        exact t_r rfl hx hb hr hlocks hT tr1 dX1_valueSum_53
      · have c2 := gi_nle c9
        refine lv_aload_n hx hb dX1_valueSum_21 rfl (lv_at hl 1 rfl) ?_
        refine lv_iload_n hx hb dX1_valueSum_22 rfl (lv_at hl 0 rfl) ?_
        have hTo := hT
        refine tVi (n := 1) (As := [.int i]) (rest := []) hx hb hml hown hg hT hK hX (X1_isPresent l κ s5 this i  (hT.k t_this (by decide)) (by omega) (by omega)) sub_fE_fW (mwV k459 k460 k461 k87 k462) ⟨rfl, by decide, by decide, by decide +kernel⟩ ⟨(Nat.le_of_ble_eq_true rfl), (Nat.le_of_ble_eq_true rfl)⟩ (hT.o3 (hT.k t_this (by decide))) rfl rfl hl.1 rfl (Nat.le_of_ble_eq_true rfl) dX1_valueSum_23 zroom.rf (fun x8 s9 H locs hφ hEs9 hT => ?_)
        have f10 := hφ
        refine lv_if_eq (tgt := 43) hx hb dX1_valueSum_26 (by decide) (fun c9 => ?_) (fun c9 => ?_)
        · have c3 := gi_eq c9
          obtain ⟨t11, qt11⟩ : ∃ zz9 : Int32, i + Int32.ofInt 1 = zz9 := ⟨_, rfl⟩
          refine lv_iinc (v := t11) (lv' := [(1, .int t11), (0, .ref this)]) hx hb dX1_valueSum_43 hl (k := 0) rfl qt11 (by decide) rfl (fun ls hl => ?_)
          have ht11 : t11.toInt = i.toInt + 1 := by rw [← qt11]; exact v_addi rfl (show (Int32.ofInt 1).toInt = 1 from by decide) (by omega) (by omega)
          refine lv_goto (tgt := 10) hx hb dX1_valueSum_46 (by decide) ?_
          exact ih10 t11 _ _ _ _ hT  (by omega) (by omega) hl (by omega)
        · have c4 := gi_ne c9
          refine lv_aload_n hx hb dX1_valueSum_29 rfl (lv_at hl 1 rfl) ?_
          refine va_get (D := κ.1) (ci := 1) (v := .ref (kR κ this 12)) (C := RX1) (T := TX1) (N := 13) hx hb hg inX1 hown hK (hT.o3 (hT.k t_this (by decide))).one 0 rfl rfl 12 (by decide) (hg _ k299) (fun _ h9 => h9) rfl dX1_valueSum_30 ?_
          rw [er1]
          refine lv_aload_n hx hb dX1_valueSum_33 rfl (lv_at hl 1 rfl) ?_
          obtain ⟨r12, er12⟩ : ∃ z, kR κ this 1 = z := ⟨_, rfl⟩
          have tr12 : zk σ0 r12 10 := by rw [← er12]; exact hT0.ref t_this (by decide) (by decide) (by decide)
          refine va_get (D := κ.1) (ci := 1) (v := .ref (kR κ this 1)) (C := RX1) (T := TX1) (N := 13) hx hb hg inX1 hown hK (hT.o3 (hT.k t_this (by decide))).one 0 rfl rfl 1 (by decide) (hg _ k279) (fun _ h9 => h9) rfl dX1_valueSum_34 ?_
          rw [er12]
          refine lv_iload_n hx hb dX1_valueSum_37 rfl (lv_at hl 0 rfl) ?_
          refine va_aldq hx hb hK (hT.o10 (hT.k tr12 (by decide))).one 0 4 rfl rfl (g_in (by omega) (by omega)) dX1_valueSum_38 ?_
          obtain ⟨r14, er14⟩ : ∃ z, kR κ r12 (ix i) = z := ⟨_, rfl⟩
          have tr14 : zk σ0 r14 1 := by rw [← er14]; exact hT0.ref tr12 (by decide) (zR10 (ix_lt (by omega) (by omega))) (by decide)
          refine tv (.ref r14) (by rw [← er14]; rfl) ?_
          refine lv_lconst (v := 1) hx hb dX1_valueSum_39 (by decide) ?_
          obtain ⟨h17, oh17, th17⟩ := hT.o1 (hT.k tr1 (by decide))
          have hTo := hT
          refine tVv (n := 2) (As := [.ref r14, .long 1]) (rest := []) hx hb hml hown hg hT hK hX (X4_add l κ s9 r1 r14 1  (hT.k tr1 (by decide)) (hT.k tr14 (by decide)) ) (fun _ _ h => h) (mwV k340 k341 k342 k88 k343) ⟨rfl, by decide, by decide, by decide +kernel⟩ ⟨(Nat.le_of_ble_eq_true rfl), (Nat.le_of_ble_eq_true rfl)⟩ oh17 rfl rfl hl.1 rfl (Nat.le_of_ble_eq_true rfl) dX1_valueSum_40 zroom.rf (fun s16 H locs hφ hEs16 hT => ?_)
          obtain ⟨t18, qt18⟩ : ∃ zz9 : Int32, i + Int32.ofInt 1 = zz9 := ⟨_, rfl⟩
          refine lv_iinc (v := t18) (lv' := [(1, .int t18), (0, .ref this)]) hx hb dX1_valueSum_43 hl (k := 0) rfl qt18 (by decide) rfl (fun ls hl => ?_)
          have ht18 : t18.toInt = i.toInt + 1 := by rw [← qt18]; exact v_addi rfl (show (Int32.ofInt 1).toInt = 1 from by decide) (by omega) (by omega)
          refine lv_goto (tgt := 10) hx hb dX1_valueSum_46 (by decide) ?_
          exact ih10 t18 _ _ _ _ hT  (by omega) (by omega) hl (by omega)
  exact loop10 (((zI σ0 src 2).toInt - (0 : Int32).toInt).toNat + 1) 0 _ _ _ _ hT  (by omega) (by omega) hl (by omega)
set_option maxHeartbeats 4000000 in
set_option maxRecDepth 100000 in
theorem X1_driftNow (l : Launch) (κ : Kt) (σ0 : Gh) (this : Nat) (t_this : zk σ0 this 3) : TC l yX1_driftNow cX1_driftNow 2 (some (.object "LiftingSignal$Whole")) 3 89 [.ref this] κ σ0 (tqr κ fW σ0 (fun (r : Nat) (τ : Gh) => (zk σ0 r 1))) := by
  refine TC.of fW (by decide +kernel) (Nat.le_of_ble_eq_true rfl) ?_
  intro p e s m below meth c ls hcs hK hX hT hl
  obtain ⟨hx, hb, hr, hml, hown, hg, hlocks, hin⟩ := hcs
  have hown : s.vm.findClass RX1 = some m.cls := hown
  have hl : lv_has ls 2 [(0, .ref this)] := hl
  have hT0 := hT
  have n0 : (0 : Int32).toInt = 0 := by decide
  generalize hQ9 : tQ _ _ _ _ _ _ = Q9
  obtain ⟨src, esrc⟩ : ∃ z, kR κ this 0 = z := ⟨_, rfl⟩
  have tsrc : zk σ0 src 4 := by rw [← esrc]; exact hT0.ref t_this (by decide) (by decide) (by decide)
  have bsrc := (hT0.P tsrc (by decide)).1
  have bsrcl := bsrc.1
  have bsrch := bsrc.2
  refine lv_aload_n hx hb dX1_driftNow_0 rfl (lv_at hl 0 rfl) ?_
  obtain ⟨r1, er1⟩ : ∃ z, kR κ this 12 = z := ⟨_, rfl⟩
  have tr1 : zk σ0 r1 1 := by rw [← er1]; exact hT0.ref t_this (by decide) (by decide) (by decide)
  refine va_get (D := κ.1) (ci := 1) (v := .ref (kR κ this 12)) (C := RX1) (T := TX1) (N := 13) hx hb hg inX1 hown hK (hT.o3 (hT.k t_this (by decide))).one 0 rfl rfl 12 (by decide) (hg _ k299) (fun _ h9 => h9) rfl dX1_driftNow_1 ?_
  rw [er1]
  refine lv_aload_n hx hb dX1_driftNow_4 rfl (lv_at hl 0 rfl) ?_
  obtain ⟨r2, er2⟩ : ∃ z, kR κ this 6 = z := ⟨_, rfl⟩
  have tr2 : zk σ0 r2 1 := by rw [← er2]; exact hT0.ref t_this (by decide) (by decide) (by decide)
  refine va_get (D := κ.1) (ci := 1) (v := .ref (kR κ this 6)) (C := RX1) (T := TX1) (N := 13) hx hb hg inX1 hown hK (hT.o3 (hT.k t_this (by decide))).one 0 rfl rfl 6 (by decide) (hg _ k289) (fun _ h9 => h9) rfl dX1_driftNow_5 ?_
  rw [er2]
  obtain ⟨h5, oh5, th5⟩ := hT.o1 (hT.k tr1 (by decide))
  have hTo := hT
  refine tVv (n := 1) (As := [.ref r2]) (rest := []) hx hb hml hown hg hT hK hX (X4_copyFrom l κ σ0 r1 r2  (hT.k tr1 (by decide)) (hT.k tr2 (by decide)) ) (fun _ _ h => h) (mwV k455 k456 k457 k88 k458) ⟨rfl, by decide, by decide, by decide +kernel⟩ ⟨(Nat.le_of_ble_eq_true rfl), (Nat.le_of_ble_eq_true rfl)⟩ oh5 rfl rfl hl.1 rfl (Nat.le_of_ble_eq_true rfl) dX1_driftNow_8 zroom.rf (fun s4 H locs hφ hEs4 hT => ?_)
  refine lv_iconst (v := 0) hx hb dX1_driftNow_11 (by decide) ?_
  refine lv_istore_n (lv' := [(1, .int 0), (0, .ref this)]) hx hb dX1_driftNow_12 rfl hl (by decide) rfl (fun ls hl => ?_)
  have loop13 : ∀ (n9 : Nat) (i : Int32) (H : Heap) (locs : List Loc) (sg : Gh) (ls : Array Slot), TS κ fW σ0 sg s H locs → (0 ≤ i.toInt) → (i.toInt ≤ (zI σ0 src 2).toInt) → lv_has ls 2 [(1, .int i), (0, .ref this)] → ((zI σ0 src 2).toInt - i.toInt) < n9 → tW p l e 3 89 κ s m #[.ref this] below meth c H locs Q9 (F0 m 13 ls []) := by
    intro n9
    induction n9 with
    | zero =>
      intro i H locs sg ls hT q1 q2 hl hm9
      exfalso
      omega
    | succ n9 ih9 =>
      have ih13 := ih9
      clear ih9
      intro i H locs s6 ls hT q1 q2 hl hm9
      refine lv_iload_n hx hb dX1_driftNow_13 rfl (lv_at hl 0 rfl) ?_
      refine lv_aload_n hx hb dX1_driftNow_14 rfl (lv_at hl 1 rfl) ?_
      refine va_get (D := κ.1) (ci := 1) (v := .ref (kR κ this 0)) (C := RX1) (T := TX1) (N := 13) hx hb hg inX1 hown hK (hT.o3 (hT.k t_this (by decide))).one 0 rfl rfl 0 (by decide) (hg _ k278) (fun _ h9 => h9) rfl dX1_driftNow_15 ?_
      rw [esrc]
      obtain ⟨v7, ev7⟩ : ∃ zz9 : Int32, zI σ0 src 2 = zz9 := ⟨_, rfl⟩
      have qv7 : v7.toInt = (zI σ0 src 2).toInt := by rw [ev7]
      have b8 := (hT.P (hT.k tsrc (by decide)) (by decide)).1
      rw [(hT.eI tsrc (by decide) rfl ev7)] at b8
      have b8l := b8.1
      have b8h := b8.2
      refine va_get (D := κ.1) (ci := 0) (v := .int (zI s6 src 2)) (C := RX0) (T := TX0) (N := 7) hx hb hg inX0 hown hK (hT.o4 (hT.k tsrc (by decide))).one 0 rfl rfl 2 (by decide) (hg _ k162) (fun _ h9 => h9) rfl dX1_driftNow_18 ?_
      rw [(hT.eI tsrc (by decide) rfl ev7)]
      refine lv_icmp_ge (tgt := 58) hx hb dX1_driftNow_21 (by decide) (fun c9 => ?_) (fun c9 => ?_)
      · have c1 := gi_le c9
        refine lv_aload_n hx hb dX1_driftNow_58 rfl (lv_at hl 1 rfl) ?_
        refine va_get (D := κ.1) (ci := 1) (v := .ref (kR κ this 12)) (C := RX1) (T := TX1) (N := 13) hx hb hg inX1 hown hK (hT.o3 (hT.k t_this (by decide))).one 0 rfl rfl 12 (by decide) (hg _ k299) (fun _ h9 => h9) rfl dX1_driftNow_59 ?_
        rw [er1]
        subst hQ9
        exact t_r rfl hx hb hr hlocks hT tr1 dX1_driftNow_62
      · have c2 := gi_nle c9
        refine lv_aload_n hx hb dX1_driftNow_24 rfl (lv_at hl 1 rfl) ?_
        refine lv_iload_n hx hb dX1_driftNow_25 rfl (lv_at hl 0 rfl) ?_
        have hTo := hT
        refine tVi (n := 1) (As := [.int i]) (rest := []) hx hb hml hown hg hT hK hX (X1_isPresent l κ s6 this i  (hT.k t_this (by decide)) (by omega) (by omega)) sub_fE_fW (mwV k459 k460 k461 k87 k462) ⟨rfl, by decide, by decide, by decide +kernel⟩ ⟨(Nat.le_of_ble_eq_true rfl), (Nat.le_of_ble_eq_true rfl)⟩ (hT.o3 (hT.k t_this (by decide))) rfl rfl hl.1 rfl (Nat.le_of_ble_eq_true rfl) dX1_driftNow_26 zroom.rf (fun x9 s10 H locs hφ hEs10 hT => ?_)
        have f11 := hφ
        refine lv_if_eq (tgt := 52) hx hb dX1_driftNow_29 (by decide) (fun c9 => ?_) (fun c9 => ?_)
        · have c3 := gi_eq c9
          obtain ⟨t12, qt12⟩ : ∃ zz9 : Int32, i + Int32.ofInt 1 = zz9 := ⟨_, rfl⟩
          refine lv_iinc (v := t12) (lv' := [(1, .int t12), (0, .ref this)]) hx hb dX1_driftNow_52 hl (k := 0) rfl qt12 (by decide) rfl (fun ls hl => ?_)
          have ht12 : t12.toInt = i.toInt + 1 := by rw [← qt12]; exact v_addi rfl (show (Int32.ofInt 1).toInt = 1 from by decide) (by omega) (by omega)
          refine lv_goto (tgt := 13) hx hb dX1_driftNow_55 (by decide) ?_
          exact ih13 t12 _ _ _ _ hT  (by omega) (by omega) hl (by omega)
        · have c4 := gi_ne c9
          refine lv_aload_n hx hb dX1_driftNow_32 rfl (lv_at hl 1 rfl) ?_
          refine va_get (D := κ.1) (ci := 1) (v := .ref (kR κ this 12)) (C := RX1) (T := TX1) (N := 13) hx hb hg inX1 hown hK (hT.o3 (hT.k t_this (by decide))).one 0 rfl rfl 12 (by decide) (hg _ k299) (fun _ h9 => h9) rfl dX1_driftNow_33 ?_
          rw [er1]
          refine lv_aload_n hx hb dX1_driftNow_36 rfl (lv_at hl 1 rfl) ?_
          obtain ⟨r13, er13⟩ : ∃ z, kR κ this 1 = z := ⟨_, rfl⟩
          have tr13 : zk σ0 r13 10 := by rw [← er13]; exact hT0.ref t_this (by decide) (by decide) (by decide)
          refine va_get (D := κ.1) (ci := 1) (v := .ref (kR κ this 1)) (C := RX1) (T := TX1) (N := 13) hx hb hg inX1 hown hK (hT.o3 (hT.k t_this (by decide))).one 0 rfl rfl 1 (by decide) (hg _ k279) (fun _ h9 => h9) rfl dX1_driftNow_37 ?_
          rw [er13]
          refine lv_iload_n hx hb dX1_driftNow_40 rfl (lv_at hl 0 rfl) ?_
          refine va_aldq hx hb hK (hT.o10 (hT.k tr13 (by decide))).one 0 4 rfl rfl (g_in (by omega) (by omega)) dX1_driftNow_41 ?_
          obtain ⟨r15, er15⟩ : ∃ z, kR κ r13 (ix i) = z := ⟨_, rfl⟩
          have tr15 : zk σ0 r15 1 := by rw [← er15]; exact hT0.ref tr13 (by decide) (zR10 (ix_lt (by omega) (by omega))) (by decide)
          refine tv (.ref r15) (by rw [← er15]; rfl) ?_
          refine lv_aload_n hx hb dX1_driftNow_42 rfl (lv_at hl 1 rfl) ?_
          obtain ⟨r16, er16⟩ : ∃ z, kR κ this 2 = z := ⟨_, rfl⟩
          have tr16 : zk σ0 r16 9 := by rw [← er16]; exact hT0.ref t_this (by decide) (by decide) (by decide)
          refine va_get (D := κ.1) (ci := 1) (v := .ref (kR κ this 2)) (C := RX1) (T := TX1) (N := 13) hx hb hg inX1 hown hK (hT.o3 (hT.k t_this (by decide))).one 0 rfl rfl 2 (by decide) (hg _ k281) (fun _ h9 => h9) rfl dX1_driftNow_43 ?_
          rw [er16]
          refine lv_iload_n hx hb dX1_driftNow_46 rfl (lv_at hl 0 rfl) ?_
          refine va_lald hx hb hK (hT.o9 (hT.k tr16 (by decide))).one 0 1 rfl rfl (g_in (by omega) (by omega)) dX1_driftNow_47 ?_
          refine lv_topl (fun t17 ht17 => ?_)
          refine lv_lneg hx hb dX1_driftNow_48 ?_
          refine lv_topl (fun t18 ht18 => ?_)
          obtain ⟨h21, oh21, th21⟩ := hT.o1 (hT.k tr1 (by decide))
          have hTo := hT
          refine tVv (n := 2) (As := [.ref r15, .long t18]) (rest := []) hx hb hml hown hg hT hK hX (X4_add l κ s10 r1 r15 t18  (hT.k tr1 (by decide)) (hT.k tr15 (by decide)) ) (fun _ _ h => h) (mwV k340 k341 k342 k88 k343) ⟨rfl, by decide, by decide, by decide +kernel⟩ ⟨(Nat.le_of_ble_eq_true rfl), (Nat.le_of_ble_eq_true rfl)⟩ oh21 rfl rfl hl.1 rfl (Nat.le_of_ble_eq_true rfl) dX1_driftNow_49 zroom.rf (fun s20 H locs hφ hEs20 hT => ?_)
          obtain ⟨t22, qt22⟩ : ∃ zz9 : Int32, i + Int32.ofInt 1 = zz9 := ⟨_, rfl⟩
          refine lv_iinc (v := t22) (lv' := [(1, .int t22), (0, .ref this)]) hx hb dX1_driftNow_52 hl (k := 0) rfl qt22 (by decide) rfl (fun ls hl => ?_)
          have ht22 : t22.toInt = i.toInt + 1 := by rw [← qt22]; exact v_addi rfl (show (Int32.ofInt 1).toInt = 1 from by decide) (by omega) (by omega)
          refine lv_goto (tgt := 13) hx hb dX1_driftNow_55 (by decide) ?_
          exact ih13 t22 _ _ _ _ hT  (by omega) (by omega) hl (by omega)
  exact loop13 (((zI σ0 src 2).toInt - (0 : Int32).toInt).toNat + 1) 0 _ _ _ _ hT  (by omega) (by omega) hl (by omega)
set_option maxHeartbeats 4000000 in
set_option maxRecDepth 100000 in
theorem X1_integralBy (l : Launch) (κ : Kt) (σ0 : Gh) (this : Nat) (f : Int64) (t_this : zk σ0 this 3) : TC l yX1_integralBy cX1_integralBy 3 (some (.object "LiftingSignal$Whole")) 3 88 [.ref this, .long f] κ σ0 (tqr κ fW σ0 (fun (r : Nat) (τ : Gh) => (zk σ0 r 1))) := by
  refine TC.of fW (by decide +kernel) (Nat.le_of_ble_eq_true rfl) ?_
  intro p e s m below meth c ls hcs hK hX hT hl
  obtain ⟨hx, hb, hr, hml, hown, hg, hlocks, hin⟩ := hcs
  have hown : s.vm.findClass RX1 = some m.cls := hown
  have hl : lv_has ls 3 [(0, .ref this), (1, .long f)] := hl
  have hT0 := hT
  have j1 : (1 : Int64).toInt = 1 := by decide
  generalize hQ9 : tQ _ _ _ _ _ _ = Q9
  refine lv_aload_n hx hb dX1_integralBy_0 rfl (lv_at hl 0 rfl) ?_
  obtain ⟨r1, er1⟩ : ∃ z, kR κ this 12 = z := ⟨_, rfl⟩
  have tr1 : zk σ0 r1 1 := by rw [← er1]; exact hT0.ref t_this (by decide) (by decide) (by decide)
  refine va_get (D := κ.1) (ci := 1) (v := .ref (kR κ this 12)) (C := RX1) (T := TX1) (N := 13) hx hb hg inX1 hown hK (hT.o3 (hT.k t_this (by decide))).one 0 rfl rfl 12 (by decide) (hg _ k299) (fun _ h9 => h9) rfl dX1_integralBy_1 ?_
  rw [er1]
  refine lv_aload_n hx hb dX1_integralBy_4 rfl (lv_at hl 0 rfl) ?_
  obtain ⟨r2, er2⟩ : ∃ z, kR κ this 6 = z := ⟨_, rfl⟩
  have tr2 : zk σ0 r2 1 := by rw [← er2]; exact hT0.ref t_this (by decide) (by decide) (by decide)
  refine va_get (D := κ.1) (ci := 1) (v := .ref (kR κ this 6)) (C := RX1) (T := TX1) (N := 13) hx hb hg inX1 hown hK (hT.o3 (hT.k t_this (by decide))).one 0 rfl rfl 6 (by decide) (hg _ k289) (fun _ h9 => h9) rfl dX1_integralBy_5 ?_
  rw [er2]
  obtain ⟨h5, oh5, th5⟩ := hT.o1 (hT.k tr1 (by decide))
  have hTo := hT
  refine tVv (n := 1) (As := [.ref r2]) (rest := []) hx hb hml hown hg hT hK hX (X4_copyFrom l κ σ0 r1 r2  (hT.k tr1 (by decide)) (hT.k tr2 (by decide)) ) (fun _ _ h => h) (mwV k455 k456 k457 k88 k458) ⟨rfl, by decide, by decide, by decide +kernel⟩ ⟨(Nat.le_of_ble_eq_true rfl), (Nat.le_of_ble_eq_true rfl)⟩ oh5 rfl rfl hl.1 rfl (Nat.le_of_ble_eq_true rfl) dX1_integralBy_8 zroom.rf (fun s4 H locs hφ hEs4 hT => ?_)
  refine lv_aload_n hx hb dX1_integralBy_11 rfl (lv_at hl 0 rfl) ?_
  refine va_get (D := κ.1) (ci := 1) (v := .ref (kR κ this 12)) (C := RX1) (T := TX1) (N := 13) hx hb hg inX1 hown hK (hT.o3 (hT.k t_this (by decide))).one 0 rfl rfl 12 (by decide) (hg _ k299) (fun _ h9 => h9) rfl dX1_integralBy_12 ?_
  rw [er1]
  refine lv_lconst (v := 1) hx hb dX1_integralBy_15 (by decide) ?_
  refine lv_lload_n hx hb dX1_integralBy_16 rfl (lv_at hl 1 rfl) ?_
  obtain ⟨h8, oh8, th8⟩ := hT.o1 (hT.k tr1 (by decide))
  have hTo := hT
  refine tVv (n := 2) (As := [.long 1, .long f]) (rest := []) hx hb hml hown hg hT hK hX (X4_scale l κ s4 r1 1 f  (hT.k tr1 (by decide)) ) (fun _ _ h => h) (mwV k551 k552 k553 k88 k554) ⟨rfl, by decide, by decide, by decide +kernel⟩ ⟨(Nat.le_of_ble_eq_true rfl), (Nat.le_of_ble_eq_true rfl)⟩ oh8 rfl rfl hl.1 rfl (Nat.le_of_ble_eq_true rfl) dX1_integralBy_17 zroom.rf (fun s7 H locs hφ hEs7 hT => ?_)
  refine lv_aload_n hx hb dX1_integralBy_20 rfl (lv_at hl 0 rfl) ?_
  refine va_get (D := κ.1) (ci := 1) (v := .ref (kR κ this 12)) (C := RX1) (T := TX1) (N := 13) hx hb hg inX1 hown hK (hT.o3 (hT.k t_this (by decide))).one 0 rfl rfl 12 (by decide) (hg _ k299) (fun _ h9 => h9) rfl dX1_integralBy_21 ?_
  rw [er1]
  subst hQ9
  exact t_r rfl hx hb hr hlocks hT tr1 dX1_integralBy_24
set_option maxHeartbeats 4000000 in
set_option maxRecDepth 100000 in
theorem X1_isLeftNear (l : Launch) (κ : Kt) (σ0 : Gh) (this : Nat) (x : Int32) (po : Int32) (y : Int32) (t_this : zk σ0 this 3) (h0 : 0 ≤ x.toInt) (h1 : x.toInt ≤ 47) (h2 : 0 ≤ y.toInt) (h3 : y.toInt ≤ 47) : TC l yX1_isLeftNear cX1_isLeftNear 4 (some .boolean) 0 0 [.ref this, .int x, .int po, .int y] κ σ0 (tqi κ fE σ0 (fun (r : Int32) (τ : Gh) => (isB r))) := by
  refine TC.of fE (by decide +kernel) (Nat.le_of_ble_eq_true rfl) ?_
  intro p e s m below meth c ls hcs hK hX hT hl
  obtain ⟨hx, hb, hr, hml, hown, hg, hlocks, hin⟩ := hcs
  have hown : s.vm.findClass RX1 = some m.cls := hown
  have hl : lv_has ls 4 [(0, .ref this), (1, .int x), (2, .int po), (3, .int y)] := hl
  have hT0 := hT
  have n0 : (0 : Int32).toInt = 0 := by decide
  have n1 : (1 : Int32).toInt = 1 := by decide
  have x_lo := Int32.le_toInt x
  have x_hi := Int32.toInt_lt x
  have po_lo := Int32.le_toInt po
  have po_hi := Int32.toInt_lt po
  have y_lo := Int32.le_toInt y
  have y_hi := Int32.toInt_lt y
  generalize hQ9 : tQ _ _ _ _ _ _ = Q9
  refine lv_iload_n hx hb dX1_isLeftNear_0 rfl (lv_at hl 2 rfl) ?_
  refine lv_aload_n hx hb dX1_isLeftNear_1 rfl (lv_at hl 0 rfl) ?_
  obtain ⟨r1, er1⟩ : ∃ z, kR κ this 0 = z := ⟨_, rfl⟩
  have tr1 : zk σ0 r1 4 := by rw [← er1]; exact hT0.ref t_this (by decide) (by decide) (by decide)
  refine va_get (D := κ.1) (ci := 1) (v := .ref (kR κ this 0)) (C := RX1) (T := TX1) (N := 13) hx hb hg inX1 hown hK (hT.o3 (hT.k t_this (by decide))).one 0 rfl rfl 0 (by decide) (hg _ k278) (fun _ h9 => h9) rfl dX1_isLeftNear_2 ?_
  rw [er1]
  obtain ⟨r2, er2⟩ : ∃ z, kR κ r1 0 = z := ⟨_, rfl⟩
  have tr2 : zk σ0 r2 8 := by rw [← er2]; exact hT0.ref tr1 (by decide) (by decide) (by decide)
  refine va_get (D := κ.1) (ci := 0) (v := .ref (kR κ r1 0)) (C := RX0) (T := TX0) (N := 7) hx hb hg inX0 hown hK (hT.o4 (hT.k tr1 (by decide))).one 0 rfl rfl 0 (by decide) (hg _ k157) (fun _ h9 => h9) rfl dX1_isLeftNear_5 ?_
  rw [er2]
  refine lv_iload_n hx hb dX1_isLeftNear_8 rfl (lv_at hl 1 rfl) ?_
  refine va_iald hx hb hK (hT.o8 (hT.k tr2 (by decide))).one 0 0 rfl rfl (g_in (by omega) (by omega)) dX1_isLeftNear_9 ?_
  refine lv_topi (fun t3 ht3 => ?_)
  refine lv_isub hx hb dX1_isLeftNear_10 ?_
  first | refine g_sub (by omega) (by omega) (fun t4 ht4 => ?_) | refine lv_topi (fun t4 ht4 => ?_)
  refine lv_aload_n hx hb dX1_isLeftNear_11 rfl (lv_at hl 0 rfl) ?_
  refine va_get (D := κ.1) (ci := 1) (v := .ref (kR κ this 0)) (C := RX1) (T := TX1) (N := 13) hx hb hg inX1 hown hK (hT.o3 (hT.k t_this (by decide))).one 0 rfl rfl 0 (by decide) (hg _ k278) (fun _ h9 => h9) rfl dX1_isLeftNear_12 ?_
  rw [er1]
  refine va_get (D := κ.1) (ci := 0) (v := .ref (kR κ r1 0)) (C := RX0) (T := TX0) (N := 7) hx hb hg inX0 hown hK (hT.o4 (hT.k tr1 (by decide))).one 0 rfl rfl 0 (by decide) (hg _ k157) (fun _ h9 => h9) rfl dX1_isLeftNear_15 ?_
  rw [er2]
  refine lv_iload_n hx hb dX1_isLeftNear_18 rfl (lv_at hl 3 rfl) ?_
  refine va_iald hx hb hK (hT.o8 (hT.k tr2 (by decide))).one 0 0 rfl rfl (g_in (by omega) (by omega)) dX1_isLeftNear_19 ?_
  refine lv_topi (fun t5 ht5 => ?_)
  refine lv_iload_n hx hb dX1_isLeftNear_20 rfl (lv_at hl 2 rfl) ?_
  refine lv_isub hx hb dX1_isLeftNear_21 ?_
  first | refine g_sub (by omega) (by omega) (fun t6 ht6 => ?_) | refine lv_topi (fun t6 ht6 => ?_)
  refine lv_icmp_gt (tgt := 29) hx hb dX1_isLeftNear_22 (by decide) (fun c9 => ?_) (fun c9 => ?_)
  · have c1 := gi_lt c9
    refine lv_iconst (v := 0) hx hb dX1_isLeftNear_29 (by decide) ?_
    subst hQ9
    exact t_z hx hb hr isB0 hlocks hT isB0 dX1_isLeftNear_30
  · have c2 := gi_nlt c9
    refine lv_iconst (v := 1) hx hb dX1_isLeftNear_25 (by decide) ?_
    refine lv_goto (tgt := 30) hx hb dX1_isLeftNear_26 (by decide) ?_
    subst hQ9
    exact t_z hx hb hr isB1 hlocks hT isB1 dX1_isLeftNear_30
set_option maxHeartbeats 4000000 in
set_option maxRecDepth 100000 in
theorem X1_predictInto (l : Launch) (κ : Kt) (σ0 : Gh) (this : Nat) (into : Nat) (ru : Int32) (x : Int32) (po : Int32) (y : Int32) (t_this : zk σ0 this 3) (t_into : zk σ0 into 1) (h0 : 0 ≤ x.toInt) (h1 : x.toInt ≤ 47) (h2 : 0 ≤ y.toInt) (h3 : y.toInt ≤ 47) : TC l yX1_predictInto cX1_predictInto 6 none 3 89 [.ref this, .ref into, .int ru, .int x, .int po, .int y] κ σ0 (tqv κ fW σ0 (fun (τ : Gh) => True)) := by
  refine TC.of fW (by decide +kernel) (Nat.le_of_ble_eq_true rfl) ?_
  intro p e s m below meth c ls hcs hK hX hT hl
  obtain ⟨hx, hb, hr, hml, hown, hg, hlocks, hin⟩ := hcs
  have hown : s.vm.findClass RX1 = some m.cls := hown
  have hl : lv_has ls 6 [(0, .ref this), (1, .ref into), (2, .int ru), (3, .int x), (4, .int po), (5, .int y)] := hl
  have hT0 := hT
  have n0 : (0 : Int32).toInt = 0 := by decide
  have n1 : (1 : Int32).toInt = 1 := by decide
  have n2 : (2 : Int32).toInt = 2 := by decide
  have jm1 : ((-1) : Int64).toInt = (-1) := by decide
  have j1 : (1 : Int64).toInt = 1 := by decide
  have ru_lo := Int32.le_toInt ru
  have ru_hi := Int32.toInt_lt ru
  have x_lo := Int32.le_toInt x
  have x_hi := Int32.toInt_lt x
  have po_lo := Int32.le_toInt po
  have po_hi := Int32.toInt_lt po
  have y_lo := Int32.le_toInt y
  have y_hi := Int32.toInt_lt y
  generalize hQ9 : tQ _ _ _ _ _ _ = Q9
  refine lv_iload_n hx hb dX1_predictInto_0 rfl (lv_at hl 2 rfl) ?_
  refine lv_if_eq (tgt := 21) hx hb dX1_predictInto_1 (by decide) (fun c9 => ?_) (fun c9 => ?_)
  · have c1 := gi_eq c9
    refine lv_aload_n hx hb dX1_predictInto_21 rfl (lv_at hl 1 rfl) ?_
    refine lv_aload_n hx hb dX1_predictInto_22 rfl (lv_at hl 0 rfl) ?_
    obtain ⟨r1, er1⟩ : ∃ z, kR κ this 1 = z := ⟨_, rfl⟩
    have tr1 : zk σ0 r1 10 := by rw [← er1]; exact hT0.ref t_this (by decide) (by decide) (by decide)
    refine va_get (D := κ.1) (ci := 1) (v := .ref (kR κ this 1)) (C := RX1) (T := TX1) (N := 13) hx hb hg inX1 hown hK (hT.o3 (hT.k t_this (by decide))).one 0 rfl rfl 1 (by decide) (hg _ k279) (fun _ h9 => h9) rfl dX1_predictInto_23 ?_
    rw [er1]
    refine lv_iload_n hx hb dX1_predictInto_26 rfl (lv_at hl 3 rfl) ?_
    refine va_aldq hx hb hK (hT.o10 (hT.k tr1 (by decide))).one 0 4 rfl rfl (g_in (by omega) (by omega)) dX1_predictInto_27 ?_
    obtain ⟨r3, er3⟩ : ∃ z, kR κ r1 (ix x) = z := ⟨_, rfl⟩
    have tr3 : zk σ0 r3 1 := by rw [← er3]; exact hT0.ref tr1 (by decide) (zR10 (ix_lt (by omega) (by omega))) (by decide)
    refine tv (.ref r3) (by rw [← er3]; rfl) ?_
    obtain ⟨h6, oh6, th6⟩ := hT.o1 (hT.k t_into (by decide))
    have hTo := hT
    refine tVv (n := 1) (As := [.ref r3]) (rest := []) hx hb hml hown hg hT hK hX (X4_copyFrom l κ σ0 into r3  (hT.k t_into (by decide)) (hT.k tr3 (by decide)) ) (fun _ _ h => h) (mwV k455 k456 k457 k88 k458) ⟨rfl, by decide, by decide, by decide +kernel⟩ ⟨(Nat.le_of_ble_eq_true rfl), (Nat.le_of_ble_eq_true rfl)⟩ oh6 rfl rfl hl.1 rfl (Nat.le_of_ble_eq_true rfl) dX1_predictInto_28 zroom.rf (fun s5 H locs hφ hEs5 hT => ?_)
    subst hQ9
    exact t_v hx hb hr hlocks hT trivial dX1_predictInto_31
  · have c2 := gi_ne c9
    refine lv_iload_n hx hb dX1_predictInto_4 rfl (lv_at hl 2 rfl) ?_
    refine lv_iconst (v := 1) hx hb dX1_predictInto_5 (by decide) ?_
    refine lv_icmp_ne (tgt := 32) hx hb dX1_predictInto_6 (by decide) (fun c9 => ?_) (fun c9 => ?_)
    · have c3 := gi_ne c9
      refine lv_aload_n hx hb dX1_predictInto_32 rfl (lv_at hl 1 rfl) ?_
      refine lv_aload_n hx hb dX1_predictInto_33 rfl (lv_at hl 0 rfl) ?_
      obtain ⟨r7, er7⟩ : ∃ z, kR κ this 1 = z := ⟨_, rfl⟩
      have tr7 : zk σ0 r7 10 := by rw [← er7]; exact hT0.ref t_this (by decide) (by decide) (by decide)
      refine va_get (D := κ.1) (ci := 1) (v := .ref (kR κ this 1)) (C := RX1) (T := TX1) (N := 13) hx hb hg inX1 hown hK (hT.o3 (hT.k t_this (by decide))).one 0 rfl rfl 1 (by decide) (hg _ k279) (fun _ h9 => h9) rfl dX1_predictInto_34 ?_
      rw [er7]
      refine lv_iload hx hb dX1_predictInto_37 (lv_at hl 5 rfl) ?_
      refine va_aldq hx hb hK (hT.o10 (hT.k tr7 (by decide))).one 0 4 rfl rfl (g_in (by omega) (by omega)) dX1_predictInto_39 ?_
      obtain ⟨r9, er9⟩ : ∃ z, kR κ r7 (ix y) = z := ⟨_, rfl⟩
      have tr9 : zk σ0 r9 1 := by rw [← er9]; exact hT0.ref tr7 (by decide) (zR10 (ix_lt (by omega) (by omega))) (by decide)
      refine tv (.ref r9) (by rw [← er9]; rfl) ?_
      obtain ⟨h12, oh12, th12⟩ := hT.o1 (hT.k t_into (by decide))
      have hTo := hT
      refine tVv (n := 1) (As := [.ref r9]) (rest := []) hx hb hml hown hg hT hK hX (X4_copyFrom l κ σ0 into r9  (hT.k t_into (by decide)) (hT.k tr9 (by decide)) ) (fun _ _ h => h) (mwV k455 k456 k457 k88 k458) ⟨rfl, by decide, by decide, by decide +kernel⟩ ⟨(Nat.le_of_ble_eq_true rfl), (Nat.le_of_ble_eq_true rfl)⟩ oh12 rfl rfl hl.1 rfl (Nat.le_of_ble_eq_true rfl) dX1_predictInto_40 zroom.rf (fun s11 H locs hφ hEs11 hT => ?_)
      refine lv_iload_n hx hb dX1_predictInto_43 rfl (lv_at hl 2 rfl) ?_
      refine lv_iconst (v := 2) hx hb dX1_predictInto_44 (by decide) ?_
      refine lv_icmp_ne (tgt := 110) hx hb dX1_predictInto_45 (by decide) (fun c9 => ?_) (fun c9 => ?_)
      · have c4 := gi_ne c9
        subst hQ9
        exact t_v hx hb hr hlocks hT trivial dX1_predictInto_110
      · have c5 := gi_eq c9
        refine lv_aload_n hx hb dX1_predictInto_48 rfl (lv_at hl 1 rfl) ?_
        refine lv_aload_n hx hb dX1_predictInto_49 rfl (lv_at hl 0 rfl) ?_
        refine va_get (D := κ.1) (ci := 1) (v := .ref (kR κ this 1)) (C := RX1) (T := TX1) (N := 13) hx hb hg inX1 hown hK (hT.o3 (hT.k t_this (by decide))).one 0 rfl rfl 1 (by decide) (hg _ k279) (fun _ h9 => h9) rfl dX1_predictInto_50 ?_
        rw [er7]
        refine lv_iload_n hx hb dX1_predictInto_53 rfl (lv_at hl 3 rfl) ?_
        refine va_aldq hx hb hK (hT.o10 (hT.k tr7 (by decide))).one 0 4 rfl rfl (g_in (by omega) (by omega)) dX1_predictInto_54 ?_
        obtain ⟨r14, er14⟩ : ∃ z, kR κ r7 (ix x) = z := ⟨_, rfl⟩
        have tr14 : zk σ0 r14 1 := by rw [← er14]; exact hT0.ref tr7 (by decide) (zR10 (ix_lt (by omega) (by omega))) (by decide)
        refine tv (.ref r14) (by rw [← er14]; rfl) ?_
        refine lv_ldc2 hx hb hown (hg _ k550) dX1_predictInto_55 ?_
        obtain ⟨h17, oh17, th17⟩ := hT.o1 (hT.k t_into (by decide))
        have hTo := hT
        refine tVv (n := 2) (As := [.ref r14, .long (-1)]) (rest := []) hx hb hml hown hg hT hK hX (X4_add l κ s11 into r14 (-1)  (hT.k t_into (by decide)) (hT.k tr14 (by decide)) ) (fun _ _ h => h) (mwV k340 k341 k342 k88 k343) ⟨rfl, by decide, by decide, by decide +kernel⟩ ⟨(Nat.le_of_ble_eq_true rfl), (Nat.le_of_ble_eq_true rfl)⟩ oh17 rfl rfl hl.1 rfl (Nat.le_of_ble_eq_true rfl) dX1_predictInto_58 zroom.rf (fun s16 H locs hφ hEs16 hT => ?_)
        refine lv_aload_n hx hb dX1_predictInto_61 rfl (lv_at hl 1 rfl) ?_
        refine lv_iload hx hb dX1_predictInto_62 (lv_at hl 4 rfl) ?_
        refine lv_aload_n hx hb dX1_predictInto_64 rfl (lv_at hl 0 rfl) ?_
        obtain ⟨r18, er18⟩ : ∃ z, kR κ this 0 = z := ⟨_, rfl⟩
        have tr18 : zk σ0 r18 4 := by rw [← er18]; exact hT0.ref t_this (by decide) (by decide) (by decide)
        refine va_get (D := κ.1) (ci := 1) (v := .ref (kR κ this 0)) (C := RX1) (T := TX1) (N := 13) hx hb hg inX1 hown hK (hT.o3 (hT.k t_this (by decide))).one 0 rfl rfl 0 (by decide) (hg _ k278) (fun _ h9 => h9) rfl dX1_predictInto_65 ?_
        rw [er18]
        obtain ⟨r19, er19⟩ : ∃ z, kR κ r18 0 = z := ⟨_, rfl⟩
        have tr19 : zk σ0 r19 8 := by rw [← er19]; exact hT0.ref tr18 (by decide) (by decide) (by decide)
        refine va_get (D := κ.1) (ci := 0) (v := .ref (kR κ r18 0)) (C := RX0) (T := TX0) (N := 7) hx hb hg inX0 hown hK (hT.o4 (hT.k tr18 (by decide))).one 0 rfl rfl 0 (by decide) (hg _ k157) (fun _ h9 => h9) rfl dX1_predictInto_68 ?_
        rw [er19]
        refine lv_iload_n hx hb dX1_predictInto_71 rfl (lv_at hl 3 rfl) ?_
        refine va_iald hx hb hK (hT.o8 (hT.k tr19 (by decide))).one 0 0 rfl rfl (g_in (by omega) (by omega)) dX1_predictInto_72 ?_
        refine lv_topi (fun t20 ht20 => ?_)
        refine lv_isub hx hb dX1_predictInto_73 ?_
        first | refine g_sub (by omega) (by omega) (fun t21 ht21 => ?_) | refine lv_topi (fun t21 ht21 => ?_)
        refine lv_i2l hx hb dX1_predictInto_74 rfl ?_
        refine g_i2l (fun t22 ht22 => ?_)
        refine lv_aload_n hx hb dX1_predictInto_75 rfl (lv_at hl 0 rfl) ?_
        refine va_get (D := κ.1) (ci := 1) (v := .ref (kR κ this 0)) (C := RX1) (T := TX1) (N := 13) hx hb hg inX1 hown hK (hT.o3 (hT.k t_this (by decide))).one 0 rfl rfl 0 (by decide) (hg _ k278) (fun _ h9 => h9) rfl dX1_predictInto_76 ?_
        rw [er18]
        refine va_get (D := κ.1) (ci := 0) (v := .ref (kR κ r18 0)) (C := RX0) (T := TX0) (N := 7) hx hb hg inX0 hown hK (hT.o4 (hT.k tr18 (by decide))).one 0 rfl rfl 0 (by decide) (hg _ k157) (fun _ h9 => h9) rfl dX1_predictInto_79 ?_
        rw [er19]
        refine lv_iload hx hb dX1_predictInto_82 (lv_at hl 5 rfl) ?_
        refine va_iald hx hb hK (hT.o8 (hT.k tr19 (by decide))).one 0 0 rfl rfl (g_in (by omega) (by omega)) dX1_predictInto_84 ?_
        refine lv_topi (fun t23 ht23 => ?_)
        refine lv_aload_n hx hb dX1_predictInto_85 rfl (lv_at hl 0 rfl) ?_
        refine va_get (D := κ.1) (ci := 1) (v := .ref (kR κ this 0)) (C := RX1) (T := TX1) (N := 13) hx hb hg inX1 hown hK (hT.o3 (hT.k t_this (by decide))).one 0 rfl rfl 0 (by decide) (hg _ k278) (fun _ h9 => h9) rfl dX1_predictInto_86 ?_
        rw [er18]
        refine va_get (D := κ.1) (ci := 0) (v := .ref (kR κ r18 0)) (C := RX0) (T := TX0) (N := 7) hx hb hg inX0 hown hK (hT.o4 (hT.k tr18 (by decide))).one 0 rfl rfl 0 (by decide) (hg _ k157) (fun _ h9 => h9) rfl dX1_predictInto_89 ?_
        rw [er19]
        refine lv_iload_n hx hb dX1_predictInto_92 rfl (lv_at hl 3 rfl) ?_
        refine va_iald hx hb hK (hT.o8 (hT.k tr19 (by decide))).one 0 0 rfl rfl (g_in (by omega) (by omega)) dX1_predictInto_93 ?_
        refine lv_topi (fun t24 ht24 => ?_)
        refine lv_isub hx hb dX1_predictInto_94 ?_
        first | refine g_sub (by omega) (by omega) (fun t25 ht25 => ?_) | refine lv_topi (fun t25 ht25 => ?_)
        refine lv_i2l hx hb dX1_predictInto_95 rfl ?_
        refine g_i2l (fun t26 ht26 => ?_)
        obtain ⟨h29, oh29, th29⟩ := hT.o1 (hT.k t_into (by decide))
        have hTo := hT
        refine tVv (n := 2) (As := [.long t22, .long t26]) (rest := []) hx hb hml hown hg hT hK hX (X4_scale l κ s16 into t22 t26  (hT.k t_into (by decide)) ) (fun _ _ h => h) (mwV k551 k552 k553 k88 k554) ⟨rfl, by decide, by decide, by decide +kernel⟩ ⟨(Nat.le_of_ble_eq_true rfl), (Nat.le_of_ble_eq_true rfl)⟩ oh29 rfl rfl hl.1 rfl (Nat.le_of_ble_eq_true rfl) dX1_predictInto_96 zroom.rf (fun s28 H locs hφ hEs28 hT => ?_)
        refine lv_aload_n hx hb dX1_predictInto_99 rfl (lv_at hl 1 rfl) ?_
        refine lv_aload_n hx hb dX1_predictInto_100 rfl (lv_at hl 0 rfl) ?_
        refine va_get (D := κ.1) (ci := 1) (v := .ref (kR κ this 1)) (C := RX1) (T := TX1) (N := 13) hx hb hg inX1 hown hK (hT.o3 (hT.k t_this (by decide))).one 0 rfl rfl 1 (by decide) (hg _ k279) (fun _ h9 => h9) rfl dX1_predictInto_101 ?_
        rw [er7]
        refine lv_iload_n hx hb dX1_predictInto_104 rfl (lv_at hl 3 rfl) ?_
        refine va_aldq hx hb hK (hT.o10 (hT.k tr7 (by decide))).one 0 4 rfl rfl (g_in (by omega) (by omega)) dX1_predictInto_105 ?_
        obtain ⟨r31, er31⟩ : ∃ z, kR κ r7 (ix x) = z := ⟨_, rfl⟩
        have tr31 : zk σ0 r31 1 := by rw [← er31]; exact hT0.ref tr7 (by decide) (zR10 (ix_lt (by omega) (by omega))) (by decide)
        refine tv (.ref r31) (by rw [← er31]; rfl) ?_
        refine lv_lconst (v := 1) hx hb dX1_predictInto_106 (by decide) ?_
        obtain ⟨h34, oh34, th34⟩ := hT.o1 (hT.k t_into (by decide))
        have hTo := hT
        refine tVv (n := 2) (As := [.ref r31, .long 1]) (rest := []) hx hb hml hown hg hT hK hX (X4_add l κ s28 into r31 1  (hT.k t_into (by decide)) (hT.k tr31 (by decide)) ) (fun _ _ h => h) (mwV k340 k341 k342 k88 k343) ⟨rfl, by decide, by decide, by decide +kernel⟩ ⟨(Nat.le_of_ble_eq_true rfl), (Nat.le_of_ble_eq_true rfl)⟩ oh34 rfl rfl hl.1 rfl (Nat.le_of_ble_eq_true rfl) dX1_predictInto_107 zroom.rf (fun s33 H locs hφ hEs33 hT => ?_)
        subst hQ9
        exact t_v hx hb hr hlocks hT trivial dX1_predictInto_110
    · have c6 := gi_eq c9
      refine lv_aload_n hx hb dX1_predictInto_9 rfl (lv_at hl 0 rfl) ?_
      refine lv_iload_n hx hb dX1_predictInto_10 rfl (lv_at hl 3 rfl) ?_
      refine lv_iload hx hb dX1_predictInto_11 (lv_at hl 4 rfl) ?_
      refine lv_iload hx hb dX1_predictInto_13 (lv_at hl 5 rfl) ?_
      have hTo := hT
      refine tVi (n := 3) (As := [.int x, .int po, .int y]) (rest := []) hx hb hml hown hg hT hK hX (X1_isLeftNear l κ σ0 this x po y  (hT.k t_this (by decide)) (by omega) (by omega) (by omega) (by omega)) sub_fE_fW (mwV k546 k548 k11 k87 k549) ⟨rfl, by decide, by decide, by decide +kernel⟩ ⟨(Nat.le_of_ble_eq_true rfl), (Nat.le_of_ble_eq_true rfl)⟩ (hT.o3 (hT.k t_this (by decide))) rfl rfl hl.1 rfl (Nat.le_of_ble_eq_true rfl) dX1_predictInto_15 zroom.rf (fun x35 s36 H locs hφ hEs36 hT => ?_)
      have f37 := hφ
      refine lv_if_eq (tgt := 32) hx hb dX1_predictInto_18 (by decide) (fun c9 => ?_) (fun c9 => ?_)
      · have c7 := gi_eq c9
        refine lv_aload_n hx hb dX1_predictInto_32 rfl (lv_at hl 1 rfl) ?_
        refine lv_aload_n hx hb dX1_predictInto_33 rfl (lv_at hl 0 rfl) ?_
        obtain ⟨r38, er38⟩ : ∃ z, kR κ this 1 = z := ⟨_, rfl⟩
        have tr38 : zk σ0 r38 10 := by rw [← er38]; exact hT0.ref t_this (by decide) (by decide) (by decide)
        refine va_get (D := κ.1) (ci := 1) (v := .ref (kR κ this 1)) (C := RX1) (T := TX1) (N := 13) hx hb hg inX1 hown hK (hT.o3 (hT.k t_this (by decide))).one 0 rfl rfl 1 (by decide) (hg _ k279) (fun _ h9 => h9) rfl dX1_predictInto_34 ?_
        rw [er38]
        refine lv_iload hx hb dX1_predictInto_37 (lv_at hl 5 rfl) ?_
        refine va_aldq hx hb hK (hT.o10 (hT.k tr38 (by decide))).one 0 4 rfl rfl (g_in (by omega) (by omega)) dX1_predictInto_39 ?_
        obtain ⟨r40, er40⟩ : ∃ z, kR κ r38 (ix y) = z := ⟨_, rfl⟩
        have tr40 : zk σ0 r40 1 := by rw [← er40]; exact hT0.ref tr38 (by decide) (zR10 (ix_lt (by omega) (by omega))) (by decide)
        refine tv (.ref r40) (by rw [← er40]; rfl) ?_
        obtain ⟨h43, oh43, th43⟩ := hT.o1 (hT.k t_into (by decide))
        have hTo := hT
        refine tVv (n := 1) (As := [.ref r40]) (rest := []) hx hb hml hown hg hT hK hX (X4_copyFrom l κ s36 into r40  (hT.k t_into (by decide)) (hT.k tr40 (by decide)) ) (fun _ _ h => h) (mwV k455 k456 k457 k88 k458) ⟨rfl, by decide, by decide, by decide +kernel⟩ ⟨(Nat.le_of_ble_eq_true rfl), (Nat.le_of_ble_eq_true rfl)⟩ oh43 rfl rfl hl.1 rfl (Nat.le_of_ble_eq_true rfl) dX1_predictInto_40 zroom.rf (fun s42 H locs hφ hEs42 hT => ?_)
        refine lv_iload_n hx hb dX1_predictInto_43 rfl (lv_at hl 2 rfl) ?_
        refine lv_iconst (v := 2) hx hb dX1_predictInto_44 (by decide) ?_
        refine lv_icmp_ne (tgt := 110) hx hb dX1_predictInto_45 (by decide) (fun c9 => ?_) (fun c9 => ?_)
        · have c8 := gi_ne c9
          subst hQ9
          exact t_v hx hb hr hlocks hT trivial dX1_predictInto_110
        · have c9 := gi_eq c9
          refine lv_aload_n hx hb dX1_predictInto_48 rfl (lv_at hl 1 rfl) ?_
          refine lv_aload_n hx hb dX1_predictInto_49 rfl (lv_at hl 0 rfl) ?_
          refine va_get (D := κ.1) (ci := 1) (v := .ref (kR κ this 1)) (C := RX1) (T := TX1) (N := 13) hx hb hg inX1 hown hK (hT.o3 (hT.k t_this (by decide))).one 0 rfl rfl 1 (by decide) (hg _ k279) (fun _ h9 => h9) rfl dX1_predictInto_50 ?_
          rw [er38]
          refine lv_iload_n hx hb dX1_predictInto_53 rfl (lv_at hl 3 rfl) ?_
          refine va_aldq hx hb hK (hT.o10 (hT.k tr38 (by decide))).one 0 4 rfl rfl (g_in (by omega) (by omega)) dX1_predictInto_54 ?_
          obtain ⟨r45, er45⟩ : ∃ z, kR κ r38 (ix x) = z := ⟨_, rfl⟩
          have tr45 : zk σ0 r45 1 := by rw [← er45]; exact hT0.ref tr38 (by decide) (zR10 (ix_lt (by omega) (by omega))) (by decide)
          refine tv (.ref r45) (by rw [← er45]; rfl) ?_
          refine lv_ldc2 hx hb hown (hg _ k550) dX1_predictInto_55 ?_
          obtain ⟨h48, oh48, th48⟩ := hT.o1 (hT.k t_into (by decide))
          have hTo := hT
          refine tVv (n := 2) (As := [.ref r45, .long (-1)]) (rest := []) hx hb hml hown hg hT hK hX (X4_add l κ s42 into r45 (-1)  (hT.k t_into (by decide)) (hT.k tr45 (by decide)) ) (fun _ _ h => h) (mwV k340 k341 k342 k88 k343) ⟨rfl, by decide, by decide, by decide +kernel⟩ ⟨(Nat.le_of_ble_eq_true rfl), (Nat.le_of_ble_eq_true rfl)⟩ oh48 rfl rfl hl.1 rfl (Nat.le_of_ble_eq_true rfl) dX1_predictInto_58 zroom.rf (fun s47 H locs hφ hEs47 hT => ?_)
          refine lv_aload_n hx hb dX1_predictInto_61 rfl (lv_at hl 1 rfl) ?_
          refine lv_iload hx hb dX1_predictInto_62 (lv_at hl 4 rfl) ?_
          refine lv_aload_n hx hb dX1_predictInto_64 rfl (lv_at hl 0 rfl) ?_
          obtain ⟨r49, er49⟩ : ∃ z, kR κ this 0 = z := ⟨_, rfl⟩
          have tr49 : zk σ0 r49 4 := by rw [← er49]; exact hT0.ref t_this (by decide) (by decide) (by decide)
          refine va_get (D := κ.1) (ci := 1) (v := .ref (kR κ this 0)) (C := RX1) (T := TX1) (N := 13) hx hb hg inX1 hown hK (hT.o3 (hT.k t_this (by decide))).one 0 rfl rfl 0 (by decide) (hg _ k278) (fun _ h9 => h9) rfl dX1_predictInto_65 ?_
          rw [er49]
          obtain ⟨r50, er50⟩ : ∃ z, kR κ r49 0 = z := ⟨_, rfl⟩
          have tr50 : zk σ0 r50 8 := by rw [← er50]; exact hT0.ref tr49 (by decide) (by decide) (by decide)
          refine va_get (D := κ.1) (ci := 0) (v := .ref (kR κ r49 0)) (C := RX0) (T := TX0) (N := 7) hx hb hg inX0 hown hK (hT.o4 (hT.k tr49 (by decide))).one 0 rfl rfl 0 (by decide) (hg _ k157) (fun _ h9 => h9) rfl dX1_predictInto_68 ?_
          rw [er50]
          refine lv_iload_n hx hb dX1_predictInto_71 rfl (lv_at hl 3 rfl) ?_
          refine va_iald hx hb hK (hT.o8 (hT.k tr50 (by decide))).one 0 0 rfl rfl (g_in (by omega) (by omega)) dX1_predictInto_72 ?_
          refine lv_topi (fun t51 ht51 => ?_)
          refine lv_isub hx hb dX1_predictInto_73 ?_
          first | refine g_sub (by omega) (by omega) (fun t52 ht52 => ?_) | refine lv_topi (fun t52 ht52 => ?_)
          refine lv_i2l hx hb dX1_predictInto_74 rfl ?_
          refine g_i2l (fun t53 ht53 => ?_)
          refine lv_aload_n hx hb dX1_predictInto_75 rfl (lv_at hl 0 rfl) ?_
          refine va_get (D := κ.1) (ci := 1) (v := .ref (kR κ this 0)) (C := RX1) (T := TX1) (N := 13) hx hb hg inX1 hown hK (hT.o3 (hT.k t_this (by decide))).one 0 rfl rfl 0 (by decide) (hg _ k278) (fun _ h9 => h9) rfl dX1_predictInto_76 ?_
          rw [er49]
          refine va_get (D := κ.1) (ci := 0) (v := .ref (kR κ r49 0)) (C := RX0) (T := TX0) (N := 7) hx hb hg inX0 hown hK (hT.o4 (hT.k tr49 (by decide))).one 0 rfl rfl 0 (by decide) (hg _ k157) (fun _ h9 => h9) rfl dX1_predictInto_79 ?_
          rw [er50]
          refine lv_iload hx hb dX1_predictInto_82 (lv_at hl 5 rfl) ?_
          refine va_iald hx hb hK (hT.o8 (hT.k tr50 (by decide))).one 0 0 rfl rfl (g_in (by omega) (by omega)) dX1_predictInto_84 ?_
          refine lv_topi (fun t54 ht54 => ?_)
          refine lv_aload_n hx hb dX1_predictInto_85 rfl (lv_at hl 0 rfl) ?_
          refine va_get (D := κ.1) (ci := 1) (v := .ref (kR κ this 0)) (C := RX1) (T := TX1) (N := 13) hx hb hg inX1 hown hK (hT.o3 (hT.k t_this (by decide))).one 0 rfl rfl 0 (by decide) (hg _ k278) (fun _ h9 => h9) rfl dX1_predictInto_86 ?_
          rw [er49]
          refine va_get (D := κ.1) (ci := 0) (v := .ref (kR κ r49 0)) (C := RX0) (T := TX0) (N := 7) hx hb hg inX0 hown hK (hT.o4 (hT.k tr49 (by decide))).one 0 rfl rfl 0 (by decide) (hg _ k157) (fun _ h9 => h9) rfl dX1_predictInto_89 ?_
          rw [er50]
          refine lv_iload_n hx hb dX1_predictInto_92 rfl (lv_at hl 3 rfl) ?_
          refine va_iald hx hb hK (hT.o8 (hT.k tr50 (by decide))).one 0 0 rfl rfl (g_in (by omega) (by omega)) dX1_predictInto_93 ?_
          refine lv_topi (fun t55 ht55 => ?_)
          refine lv_isub hx hb dX1_predictInto_94 ?_
          first | refine g_sub (by omega) (by omega) (fun t56 ht56 => ?_) | refine lv_topi (fun t56 ht56 => ?_)
          refine lv_i2l hx hb dX1_predictInto_95 rfl ?_
          refine g_i2l (fun t57 ht57 => ?_)
          obtain ⟨h60, oh60, th60⟩ := hT.o1 (hT.k t_into (by decide))
          have hTo := hT
          refine tVv (n := 2) (As := [.long t53, .long t57]) (rest := []) hx hb hml hown hg hT hK hX (X4_scale l κ s47 into t53 t57  (hT.k t_into (by decide)) ) (fun _ _ h => h) (mwV k551 k552 k553 k88 k554) ⟨rfl, by decide, by decide, by decide +kernel⟩ ⟨(Nat.le_of_ble_eq_true rfl), (Nat.le_of_ble_eq_true rfl)⟩ oh60 rfl rfl hl.1 rfl (Nat.le_of_ble_eq_true rfl) dX1_predictInto_96 zroom.rf (fun s59 H locs hφ hEs59 hT => ?_)
          refine lv_aload_n hx hb dX1_predictInto_99 rfl (lv_at hl 1 rfl) ?_
          refine lv_aload_n hx hb dX1_predictInto_100 rfl (lv_at hl 0 rfl) ?_
          refine va_get (D := κ.1) (ci := 1) (v := .ref (kR κ this 1)) (C := RX1) (T := TX1) (N := 13) hx hb hg inX1 hown hK (hT.o3 (hT.k t_this (by decide))).one 0 rfl rfl 1 (by decide) (hg _ k279) (fun _ h9 => h9) rfl dX1_predictInto_101 ?_
          rw [er38]
          refine lv_iload_n hx hb dX1_predictInto_104 rfl (lv_at hl 3 rfl) ?_
          refine va_aldq hx hb hK (hT.o10 (hT.k tr38 (by decide))).one 0 4 rfl rfl (g_in (by omega) (by omega)) dX1_predictInto_105 ?_
          obtain ⟨r62, er62⟩ : ∃ z, kR κ r38 (ix x) = z := ⟨_, rfl⟩
          have tr62 : zk σ0 r62 1 := by rw [← er62]; exact hT0.ref tr38 (by decide) (zR10 (ix_lt (by omega) (by omega))) (by decide)
          refine tv (.ref r62) (by rw [← er62]; rfl) ?_
          refine lv_lconst (v := 1) hx hb dX1_predictInto_106 (by decide) ?_
          obtain ⟨h65, oh65, th65⟩ := hT.o1 (hT.k t_into (by decide))
          have hTo := hT
          refine tVv (n := 2) (As := [.ref r62, .long 1]) (rest := []) hx hb hml hown hg hT hK hX (X4_add l κ s59 into r62 1  (hT.k t_into (by decide)) (hT.k tr62 (by decide)) ) (fun _ _ h => h) (mwV k340 k341 k342 k88 k343) ⟨rfl, by decide, by decide, by decide +kernel⟩ ⟨(Nat.le_of_ble_eq_true rfl), (Nat.le_of_ble_eq_true rfl)⟩ oh65 rfl rfl hl.1 rfl (Nat.le_of_ble_eq_true rfl) dX1_predictInto_107 zroom.rf (fun s64 H locs hφ hEs64 hT => ?_)
          subst hQ9
          exact t_v hx hb hr hlocks hT trivial dX1_predictInto_110
      · have c10 := gi_ne c9
        refine lv_aload_n hx hb dX1_predictInto_21 rfl (lv_at hl 1 rfl) ?_
        refine lv_aload_n hx hb dX1_predictInto_22 rfl (lv_at hl 0 rfl) ?_
        obtain ⟨r66, er66⟩ : ∃ z, kR κ this 1 = z := ⟨_, rfl⟩
        have tr66 : zk σ0 r66 10 := by rw [← er66]; exact hT0.ref t_this (by decide) (by decide) (by decide)
        refine va_get (D := κ.1) (ci := 1) (v := .ref (kR κ this 1)) (C := RX1) (T := TX1) (N := 13) hx hb hg inX1 hown hK (hT.o3 (hT.k t_this (by decide))).one 0 rfl rfl 1 (by decide) (hg _ k279) (fun _ h9 => h9) rfl dX1_predictInto_23 ?_
        rw [er66]
        refine lv_iload_n hx hb dX1_predictInto_26 rfl (lv_at hl 3 rfl) ?_
        refine va_aldq hx hb hK (hT.o10 (hT.k tr66 (by decide))).one 0 4 rfl rfl (g_in (by omega) (by omega)) dX1_predictInto_27 ?_
        obtain ⟨r68, er68⟩ : ∃ z, kR κ r66 (ix x) = z := ⟨_, rfl⟩
        have tr68 : zk σ0 r68 1 := by rw [← er68]; exact hT0.ref tr66 (by decide) (zR10 (ix_lt (by omega) (by omega))) (by decide)
        refine tv (.ref r68) (by rw [← er68]; rfl) ?_
        obtain ⟨h71, oh71, th71⟩ := hT.o1 (hT.k t_into (by decide))
        have hTo := hT
        refine tVv (n := 1) (As := [.ref r68]) (rest := []) hx hb hml hown hg hT hK hX (X4_copyFrom l κ s36 into r68  (hT.k t_into (by decide)) (hT.k tr68 (by decide)) ) (fun _ _ h => h) (mwV k455 k456 k457 k88 k458) ⟨rfl, by decide, by decide, by decide +kernel⟩ ⟨(Nat.le_of_ble_eq_true rfl), (Nat.le_of_ble_eq_true rfl)⟩ oh71 rfl rfl hl.1 rfl (Nat.le_of_ble_eq_true rfl) dX1_predictInto_28 zroom.rf (fun s70 H locs hφ hEs70 hT => ?_)
        subst hQ9
        exact t_v hx hb hr hlocks hT trivial dX1_predictInto_31
set_option maxHeartbeats 4000000 in
set_option maxRecDepth 100000 in
theorem X1_lineAt (l : Launch) (κ : Kt) (σ0 : Gh) (this : Nat) (po : Int32) (t_this : zk σ0 this 3) : TC l yX1_lineAt cX1_lineAt 4 (some (.object "LiftingSignal$Whole")) 4 114 [.ref this, .int po] κ σ0 (tqr κ fW σ0 (fun (r : Nat) (τ : Gh) => (zk σ0 r 1))) := by
  refine TC.of fW (by decide +kernel) (Nat.le_of_ble_eq_true rfl) ?_
  intro p e s m below meth c ls hcs hK hX hT hl
  obtain ⟨hx, hb, hr, hml, hown, hg, hlocks, hin⟩ := hcs
  have hown : s.vm.findClass RX1 = some m.cls := hown
  have hl : lv_has ls 4 [(0, .ref this), (1, .int po)] := hl
  have hT0 := hT
  have n0 : (0 : Int32).toInt = 0 := by decide
  have n1 : (1 : Int32).toInt = 1 := by decide
  have n2 : (2 : Int32).toInt = 2 := by decide
  have po_lo := Int32.le_toInt po
  have po_hi := Int32.toInt_lt po
  generalize hQ9 : tQ _ _ _ _ _ _ = Q9
  obtain ⟨src, esrc⟩ : ∃ z, kR κ this 0 = z := ⟨_, rfl⟩
  have tsrc : zk σ0 src 4 := by rw [← esrc]; exact hT0.ref t_this (by decide) (by decide) (by decide)
  have bsrc := (hT0.P tsrc (by decide)).1
  have bsrcl := bsrc.1
  have bsrch := bsrc.2
  refine lv_iconst (v := 0) hx hb dX1_lineAt_0 (by decide) ?_
  refine lv_istore_n (lv' := [(2, .int 0), (0, .ref this), (1, .int po)]) hx hb dX1_lineAt_1 rfl hl (by decide) rfl (fun ls hl => ?_)
  refine lv_iconst (v := 1) hx hb dX1_lineAt_2 (by decide) ?_
  refine lv_istore_n (lv' := [(3, .int 1), (2, .int 0), (0, .ref this), (1, .int po)]) hx hb dX1_lineAt_3 rfl hl (by decide) rfl (fun ls hl => ?_)
  have loop4 : ∀ (n9 : Nat) (i : Int32) (lf : Int32) (H : Heap) (locs : List Loc) (sg : Gh) (ls : Array Slot), TS κ fW σ0 sg s H locs → (0 ≤ i.toInt) → (i.toInt ≤ (zI σ0 src 2).toInt) → (0 ≤ lf.toInt) → (lf.toInt ≤ 47) → lv_has ls 4 [(3, .int i), (2, .int lf), (0, .ref this), (1, .int po)] → ((zI σ0 src 2).toInt - i.toInt) < n9 → tW p l e 4 114 κ s m #[.ref this, .int po] below meth c H locs Q9 (F0 m 4 ls []) := by
    intro n9
    induction n9 with
    | zero =>
      intro i lf H locs sg ls hT q1 q2 q3 q4 hl hm9
      exfalso
      omega
    | succ n9 ih9 =>
      have ih4 := ih9
      clear ih9
      intro i lf H locs s1 ls hT q1 q2 q3 q4 hl hm9
      refine lv_iload_n hx hb dX1_lineAt_4 rfl (lv_at hl 0 rfl) ?_
      refine lv_aload_n hx hb dX1_lineAt_5 rfl (lv_at hl 2 rfl) ?_
      refine va_get (D := κ.1) (ci := 1) (v := .ref (kR κ this 0)) (C := RX1) (T := TX1) (N := 13) hx hb hg inX1 hown hK (hT.o3 (hT.k t_this (by decide))).one 0 rfl rfl 0 (by decide) (hg _ k278) (fun _ h9 => h9) rfl dX1_lineAt_6 ?_
      rw [esrc]
      obtain ⟨v2, ev2⟩ : ∃ zz9 : Int32, zI σ0 src 2 = zz9 := ⟨_, rfl⟩
      have qv2 : v2.toInt = (zI σ0 src 2).toInt := by rw [ev2]
      have b3 := (hT.P (hT.k tsrc (by decide)) (by decide)).1
      rw [(hT.eI tsrc (by decide) rfl ev2)] at b3
      have b3l := b3.1
      have b3h := b3.2
      refine va_get (D := κ.1) (ci := 0) (v := .int (zI s1 src 2)) (C := RX0) (T := TX0) (N := 7) hx hb hg inX0 hown hK (hT.o4 (hT.k tsrc (by decide))).one 0 rfl rfl 2 (by decide) (hg _ k162) (fun _ h9 => h9) rfl dX1_lineAt_9 ?_
      rw [(hT.eI tsrc (by decide) rfl ev2)]
      refine lv_icmp_ge (tgt := 61) hx hb dX1_lineAt_12 (by decide) (fun c9 => ?_) (fun c9 => ?_)
      · have c1 := gi_le c9
        refine lv_aload_n hx hb dX1_lineAt_61 rfl (lv_at hl 2 rfl) ?_
        obtain ⟨r4, er4⟩ : ∃ z, kR κ this 1 = z := ⟨_, rfl⟩
        have tr4 : zk σ0 r4 10 := by rw [← er4]; exact hT0.ref t_this (by decide) (by decide) (by decide)
        refine va_get (D := κ.1) (ci := 1) (v := .ref (kR κ this 1)) (C := RX1) (T := TX1) (N := 13) hx hb hg inX1 hown hK (hT.o3 (hT.k t_this (by decide))).one 0 rfl rfl 1 (by decide) (hg _ k279) (fun _ h9 => h9) rfl dX1_lineAt_62 ?_
        rw [er4]
        refine lv_iload_n hx hb dX1_lineAt_65 rfl (lv_at hl 1 rfl) ?_
        refine va_aldq hx hb hK (hT.o10 (hT.k tr4 (by decide))).one 0 4 rfl rfl (g_in (by omega) (by omega)) dX1_lineAt_66 ?_
        obtain ⟨r6, er6⟩ : ∃ z, kR κ r4 (ix lf) = z := ⟨_, rfl⟩
        have tr6 : zk σ0 r6 1 := by rw [← er6]; exact hT0.ref tr4 (by decide) (zR10 (ix_lt (by omega) (by omega))) (by decide)
        refine tv (.ref r6) (by rw [← er6]; rfl) ?_
        subst hQ9
        exact t_r rfl hx hb hr hlocks hT tr6 dX1_lineAt_67
      · have c2 := gi_nle c9
        refine lv_aload_n hx hb dX1_lineAt_15 rfl (lv_at hl 2 rfl) ?_
        refine lv_iload_n hx hb dX1_lineAt_16 rfl (lv_at hl 0 rfl) ?_
        have hTo := hT
        refine tVi (n := 1) (As := [.int i]) (rest := []) hx hb hml hown hg hT hK hX (X1_isPresent l κ s1 this i  (hT.k t_this (by decide)) (by omega) (by omega)) sub_fE_fW (mwV k459 k460 k461 k87 k462) ⟨rfl, by decide, by decide, by decide +kernel⟩ ⟨(Nat.le_of_ble_eq_true rfl), (Nat.le_of_ble_eq_true rfl)⟩ (hT.o3 (hT.k t_this (by decide))) rfl rfl hl.1 rfl (Nat.le_of_ble_eq_true rfl) dX1_lineAt_17 zroom.rf (fun x7 s8 H locs hφ hEs8 hT => ?_)
        have f9 := hφ
        refine lv_if_eq (tgt := 55) hx hb dX1_lineAt_20 (by decide) (fun c9 => ?_) (fun c9 => ?_)
        · have c3 := gi_eq c9
          obtain ⟨t10, qt10⟩ : ∃ zz9 : Int32, i + Int32.ofInt 1 = zz9 := ⟨_, rfl⟩
          refine lv_iinc (v := t10) (lv' := [(3, .int t10), (2, .int lf), (0, .ref this), (1, .int po)]) hx hb dX1_lineAt_55 hl (k := 0) rfl qt10 (by decide) rfl (fun ls hl => ?_)
          have ht10 : t10.toInt = i.toInt + 1 := by rw [← qt10]; exact v_addi rfl (show (Int32.ofInt 1).toInt = 1 from by decide) (by omega) (by omega)
          refine lv_goto (tgt := 4) hx hb dX1_lineAt_58 (by decide) ?_
          exact ih4 t10 lf _ _ _ _ hT  (by omega) (by omega) (by omega) (by omega) hl (by omega)
        · have c4 := gi_ne c9
          refine lv_iload_n hx hb dX1_lineAt_23 rfl (lv_at hl 3 rfl) ?_
          refine lv_aload_n hx hb dX1_lineAt_24 rfl (lv_at hl 2 rfl) ?_
          refine va_get (D := κ.1) (ci := 1) (v := .ref (kR κ this 0)) (C := RX1) (T := TX1) (N := 13) hx hb hg inX1 hown hK (hT.o3 (hT.k t_this (by decide))).one 0 rfl rfl 0 (by decide) (hg _ k278) (fun _ h9 => h9) rfl dX1_lineAt_25 ?_
          rw [esrc]
          obtain ⟨r11, er11⟩ : ∃ z, kR κ src 0 = z := ⟨_, rfl⟩
          have tr11 : zk σ0 r11 8 := by rw [← er11]; exact hT0.ref tsrc (by decide) (by decide) (by decide)
          refine va_get (D := κ.1) (ci := 0) (v := .ref (kR κ src 0)) (C := RX0) (T := TX0) (N := 7) hx hb hg inX0 hown hK (hT.o4 (hT.k tsrc (by decide))).one 0 rfl rfl 0 (by decide) (hg _ k157) (fun _ h9 => h9) rfl dX1_lineAt_28 ?_
          rw [er11]
          refine lv_iload_n hx hb dX1_lineAt_31 rfl (lv_at hl 0 rfl) ?_
          refine va_iald hx hb hK (hT.o8 (hT.k tr11 (by decide))).one 0 0 rfl rfl (g_in (by omega) (by omega)) dX1_lineAt_32 ?_
          refine lv_topi (fun t12 ht12 => ?_)
          refine lv_icmp_gt (tgt := 53) hx hb dX1_lineAt_33 (by decide) (fun c9 => ?_) (fun c9 => ?_)
          · have c5 := gi_lt c9
            refine lv_iload_n hx hb dX1_lineAt_53 rfl (lv_at hl 0 rfl) ?_
            refine lv_istore_n (lv' := [(2, .int i), (3, .int i), (0, .ref this), (1, .int po)]) hx hb dX1_lineAt_54 rfl hl (by decide) rfl (fun ls hl => ?_)
            obtain ⟨t13, qt13⟩ : ∃ zz9 : Int32, i + Int32.ofInt 1 = zz9 := ⟨_, rfl⟩
            refine lv_iinc (v := t13) (lv' := [(3, .int t13), (2, .int i), (0, .ref this), (1, .int po)]) hx hb dX1_lineAt_55 hl (k := 1) rfl qt13 (by decide) rfl (fun ls hl => ?_)
            have ht13 : t13.toInt = i.toInt + 1 := by rw [← qt13]; exact v_addi rfl (show (Int32.ofInt 1).toInt = 1 from by decide) (by omega) (by omega)
            refine lv_goto (tgt := 4) hx hb dX1_lineAt_58 (by decide) ?_
            exact ih4 t13 i _ _ _ _ hT  (by omega) (by omega) (by omega) (by omega) hl (by omega)
          · have c6 := gi_nlt c9
            refine lv_aload_n hx hb dX1_lineAt_36 rfl (lv_at hl 2 rfl) ?_
            refine lv_aload_n hx hb dX1_lineAt_37 rfl (lv_at hl 2 rfl) ?_
            obtain ⟨r14, er14⟩ : ∃ z, kR κ this 12 = z := ⟨_, rfl⟩
            have tr14 : zk σ0 r14 1 := by rw [← er14]; exact hT0.ref t_this (by decide) (by decide) (by decide)
            refine va_get (D := κ.1) (ci := 1) (v := .ref (kR κ this 12)) (C := RX1) (T := TX1) (N := 13) hx hb hg inX1 hown hK (hT.o3 (hT.k t_this (by decide))).one 0 rfl rfl 12 (by decide) (hg _ k299) (fun _ h9 => h9) rfl dX1_lineAt_38 ?_
            rw [er14]
            refine lv_iconst (v := 2) hx hb dX1_lineAt_41 (by decide) ?_
            refine lv_iload_n hx hb dX1_lineAt_42 rfl (lv_at hl 1 rfl) ?_
            refine lv_iload_n hx hb dX1_lineAt_43 rfl (lv_at hl 3 rfl) ?_
            refine lv_iload_n hx hb dX1_lineAt_44 rfl (lv_at hl 0 rfl) ?_
            have hTo := hT
            refine tVv (n := 5) (As := [.ref r14, .int 2, .int lf, .int po, .int i]) (rest := []) hx hb hml hown hg hT hK hX (X1_predictInto l κ s8 this r14 2 lf po i  (hT.k t_this (by decide)) (hT.k tr14 (by decide)) (by omega) (by omega) (by omega) (by omega)) (fun _ _ h => h) (mwV k542 k544 k10 k87 k545) ⟨rfl, by decide, by decide, by decide +kernel⟩ ⟨(Nat.le_of_ble_eq_true rfl), (Nat.le_of_ble_eq_true rfl)⟩ (hT.o3 (hT.k t_this (by decide))) rfl rfl hl.1 rfl (Nat.le_of_ble_eq_true rfl) dX1_lineAt_45 zroom.rf (fun s16 H locs hφ hEs16 hT => ?_)
            refine lv_aload_n hx hb dX1_lineAt_48 rfl (lv_at hl 2 rfl) ?_
            refine va_get (D := κ.1) (ci := 1) (v := .ref (kR κ this 12)) (C := RX1) (T := TX1) (N := 13) hx hb hg inX1 hown hK (hT.o3 (hT.k t_this (by decide))).one 0 rfl rfl 12 (by decide) (hg _ k299) (fun _ h9 => h9) rfl dX1_lineAt_49 ?_
            rw [er14]
            subst hQ9
            exact t_r rfl hx hb hr hlocks hT tr14 dX1_lineAt_52
  exact loop4 (((zI σ0 src 2).toInt - (1 : Int32).toInt).toNat + 1) 1 0 _ _ _ _ hT  (by omega) (by omega) (by omega) (by omega) hl (by omega)
set_option maxHeartbeats 4000000 in
set_option maxRecDepth 100000 in
theorem X1_changeValue (l : Launch) (κ : Kt) (σ0 : Gh) (this : Nat) (i : Int32) (v : Int32) (t_this : zk σ0 this 3) (h0 : 0 ≤ i.toInt) (h1 : i.toInt ≤ 47) : TC l yX1_changeValue cX1_changeValue 3 none 3 89 [.ref this, .int i, .int v] κ σ0 (tqv κ fW σ0 (fun (τ : Gh) => True)) := by
  refine TC.of fW (by decide +kernel) (Nat.le_of_ble_eq_true rfl) ?_
  intro p e s m below meth c ls hcs hK hX hT hl
  obtain ⟨hx, hb, hr, hml, hown, hg, hlocks, hin⟩ := hcs
  have hown : s.vm.findClass RX1 = some m.cls := hown
  have hl : lv_has ls 3 [(0, .ref this), (1, .int i), (2, .int v)] := hl
  have hT0 := hT
  have i_lo := Int32.le_toInt i
  have i_hi := Int32.toInt_lt i
  have v_lo := Int32.le_toInt v
  have v_hi := Int32.toInt_lt v
  generalize hQ9 : tQ _ _ _ _ _ _ = Q9
  refine lv_aload_n hx hb dX1_changeValue_0 rfl (lv_at hl 0 rfl) ?_
  obtain ⟨r1, er1⟩ : ∃ z, kR κ this 6 = z := ⟨_, rfl⟩
  have tr1 : zk σ0 r1 1 := by rw [← er1]; exact hT0.ref t_this (by decide) (by decide) (by decide)
  refine va_get (D := κ.1) (ci := 1) (v := .ref (kR κ this 6)) (C := RX1) (T := TX1) (N := 13) hx hb hg inX1 hown hK (hT.o3 (hT.k t_this (by decide))).one 0 rfl rfl 6 (by decide) (hg _ k289) (fun _ h9 => h9) rfl dX1_changeValue_1 ?_
  rw [er1]
  refine lv_aload_n hx hb dX1_changeValue_4 rfl (lv_at hl 0 rfl) ?_
  obtain ⟨r2, er2⟩ : ∃ z, kR κ this 1 = z := ⟨_, rfl⟩
  have tr2 : zk σ0 r2 10 := by rw [← er2]; exact hT0.ref t_this (by decide) (by decide) (by decide)
  refine va_get (D := κ.1) (ci := 1) (v := .ref (kR κ this 1)) (C := RX1) (T := TX1) (N := 13) hx hb hg inX1 hown hK (hT.o3 (hT.k t_this (by decide))).one 0 rfl rfl 1 (by decide) (hg _ k279) (fun _ h9 => h9) rfl dX1_changeValue_5 ?_
  rw [er2]
  refine lv_iload_n hx hb dX1_changeValue_8 rfl (lv_at hl 1 rfl) ?_
  refine va_aldq hx hb hK (hT.o10 (hT.k tr2 (by decide))).one 0 4 rfl rfl (g_in (by omega) (by omega)) dX1_changeValue_9 ?_
  obtain ⟨r4, er4⟩ : ∃ z, kR κ r2 (ix i) = z := ⟨_, rfl⟩
  have tr4 : zk σ0 r4 1 := by rw [← er4]; exact hT0.ref tr2 (by decide) (zR10 (ix_lt (by omega) (by omega))) (by decide)
  refine tv (.ref r4) (by rw [← er4]; rfl) ?_
  refine lv_aload_n hx hb dX1_changeValue_10 rfl (lv_at hl 0 rfl) ?_
  obtain ⟨r5, er5⟩ : ∃ z, kR κ this 2 = z := ⟨_, rfl⟩
  have tr5 : zk σ0 r5 9 := by rw [← er5]; exact hT0.ref t_this (by decide) (by decide) (by decide)
  refine va_get (D := κ.1) (ci := 1) (v := .ref (kR κ this 2)) (C := RX1) (T := TX1) (N := 13) hx hb hg inX1 hown hK (hT.o3 (hT.k t_this (by decide))).one 0 rfl rfl 2 (by decide) (hg _ k281) (fun _ h9 => h9) rfl dX1_changeValue_11 ?_
  rw [er5]
  refine lv_iload_n hx hb dX1_changeValue_14 rfl (lv_at hl 1 rfl) ?_
  refine va_lald hx hb hK (hT.o9 (hT.k tr5 (by decide))).one 0 1 rfl rfl (g_in (by omega) (by omega)) dX1_changeValue_15 ?_
  refine lv_topl (fun t6 ht6 => ?_)
  refine lv_lneg hx hb dX1_changeValue_16 ?_
  refine lv_topl (fun t7 ht7 => ?_)
  obtain ⟨h10, oh10, th10⟩ := hT.o1 (hT.k tr1 (by decide))
  have hTo := hT
  refine tVv (n := 2) (As := [.ref r4, .long t7]) (rest := []) hx hb hml hown hg hT hK hX (X4_add l κ σ0 r1 r4 t7  (hT.k tr1 (by decide)) (hT.k tr4 (by decide)) ) (fun _ _ h => h) (mwV k340 k341 k342 k88 k343) ⟨rfl, by decide, by decide, by decide +kernel⟩ ⟨(Nat.le_of_ble_eq_true rfl), (Nat.le_of_ble_eq_true rfl)⟩ oh10 rfl rfl hl.1 rfl (Nat.le_of_ble_eq_true rfl) dX1_changeValue_17 zroom.rf (fun s9 H locs hφ hEs9 hT => ?_)
  refine lv_aload_n hx hb dX1_changeValue_20 rfl (lv_at hl 0 rfl) ?_
  refine va_get (D := κ.1) (ci := 1) (v := .ref (kR κ this 1)) (C := RX1) (T := TX1) (N := 13) hx hb hg inX1 hown hK (hT.o3 (hT.k t_this (by decide))).one 0 rfl rfl 1 (by decide) (hg _ k279) (fun _ h9 => h9) rfl dX1_changeValue_21 ?_
  rw [er2]
  refine lv_iload_n hx hb dX1_changeValue_24 rfl (lv_at hl 1 rfl) ?_
  refine va_aldq hx hb hK (hT.o10 (hT.k tr2 (by decide))).one 0 4 rfl rfl (g_in (by omega) (by omega)) dX1_changeValue_25 ?_
  obtain ⟨r12, er12⟩ : ∃ z, kR κ r2 (ix i) = z := ⟨_, rfl⟩
  have tr12 : zk σ0 r12 1 := by rw [← er12]; exact hT0.ref tr2 (by decide) (zR10 (ix_lt (by omega) (by omega))) (by decide)
  refine tv (.ref r12) (by rw [← er12]; rfl) ?_
  refine lv_iload_n hx hb dX1_changeValue_26 rfl (lv_at hl 2 rfl) ?_
  refine lv_i2l hx hb dX1_changeValue_27 rfl ?_
  refine g_i2l (fun t13 ht13 => ?_)
  obtain ⟨h16, oh16, th16⟩ := hT.o1 (hT.k tr12 (by decide))
  have hTo := hT
  refine tVv (n := 1) (As := [.long t13]) (rest := []) hx hb hml hown hg hT hK hX (X4_become l κ s9 r12 t13  (hT.k tr12 (by decide)) ) sub_fX_fW (mwV k274 k275 k276 k88 k277) ⟨rfl, by decide, by decide, by decide +kernel⟩ ⟨(Nat.le_of_ble_eq_true rfl), (Nat.le_of_ble_eq_true rfl)⟩ oh16 rfl rfl hl.1 rfl (Nat.le_of_ble_eq_true rfl) dX1_changeValue_28 zroom.rf (fun s15 H locs hφ hEs15 hT => ?_)
  refine lv_aload_n hx hb dX1_changeValue_31 rfl (lv_at hl 0 rfl) ?_
  refine va_get (D := κ.1) (ci := 1) (v := .ref (kR κ this 6)) (C := RX1) (T := TX1) (N := 13) hx hb hg inX1 hown hK (hT.o3 (hT.k t_this (by decide))).one 0 rfl rfl 6 (by decide) (hg _ k289) (fun _ h9 => h9) rfl dX1_changeValue_32 ?_
  rw [er1]
  refine lv_aload_n hx hb dX1_changeValue_35 rfl (lv_at hl 0 rfl) ?_
  refine va_get (D := κ.1) (ci := 1) (v := .ref (kR κ this 1)) (C := RX1) (T := TX1) (N := 13) hx hb hg inX1 hown hK (hT.o3 (hT.k t_this (by decide))).one 0 rfl rfl 1 (by decide) (hg _ k279) (fun _ h9 => h9) rfl dX1_changeValue_36 ?_
  rw [er2]
  refine lv_iload_n hx hb dX1_changeValue_39 rfl (lv_at hl 1 rfl) ?_
  refine va_aldq hx hb hK (hT.o10 (hT.k tr2 (by decide))).one 0 4 rfl rfl (g_in (by omega) (by omega)) dX1_changeValue_40 ?_
  obtain ⟨r18, er18⟩ : ∃ z, kR κ r2 (ix i) = z := ⟨_, rfl⟩
  have tr18 : zk σ0 r18 1 := by rw [← er18]; exact hT0.ref tr2 (by decide) (zR10 (ix_lt (by omega) (by omega))) (by decide)
  refine tv (.ref r18) (by rw [← er18]; rfl) ?_
  refine lv_aload_n hx hb dX1_changeValue_41 rfl (lv_at hl 0 rfl) ?_
  refine va_get (D := κ.1) (ci := 1) (v := .ref (kR κ this 2)) (C := RX1) (T := TX1) (N := 13) hx hb hg inX1 hown hK (hT.o3 (hT.k t_this (by decide))).one 0 rfl rfl 2 (by decide) (hg _ k281) (fun _ h9 => h9) rfl dX1_changeValue_42 ?_
  rw [er5]
  refine lv_iload_n hx hb dX1_changeValue_45 rfl (lv_at hl 1 rfl) ?_
  refine va_lald hx hb hK (hT.o9 (hT.k tr5 (by decide))).one 0 1 rfl rfl (g_in (by omega) (by omega)) dX1_changeValue_46 ?_
  refine lv_topl (fun t19 ht19 => ?_)
  obtain ⟨h22, oh22, th22⟩ := hT.o1 (hT.k tr1 (by decide))
  have hTo := hT
  refine tVv (n := 2) (As := [.ref r18, .long t19]) (rest := []) hx hb hml hown hg hT hK hX (X4_add l κ s15 r1 r18 t19  (hT.k tr1 (by decide)) (hT.k tr18 (by decide)) ) (fun _ _ h => h) (mwV k340 k341 k342 k88 k343) ⟨rfl, by decide, by decide, by decide +kernel⟩ ⟨(Nat.le_of_ble_eq_true rfl), (Nat.le_of_ble_eq_true rfl)⟩ oh22 rfl rfl hl.1 rfl (Nat.le_of_ble_eq_true rfl) dX1_changeValue_47 zroom.rf (fun s21 H locs hφ hEs21 hT => ?_)
  subst hQ9
  exact t_v hx hb hr hlocks hT trivial dX1_changeValue_50
set_option maxHeartbeats 4000000 in
set_option maxRecDepth 100000 in
theorem X1_addNoise (l : Launch) (κ : Kt) (σ0 : Gh) (this : Nat) (sd : Int32) (lv : Int32) (t_this : zk σ0 this 3) : TC l yX1_addNoise cX1_addNoise 7 none 3 89 [.ref this, .int sd, .int lv] κ σ0 (tqv κ fW σ0 (fun (τ : Gh) => True)) := by
  refine TC.of fW (by decide +kernel) (Nat.le_of_ble_eq_true rfl) ?_
  intro p e s m below meth c ls hcs hK hX hT hl
  obtain ⟨hx, hb, hr, hml, hown, hg, hlocks, hin⟩ := hcs
  have hown : s.vm.findClass RX1 = some m.cls := hown
  have hl : lv_has ls 7 [(0, .ref this), (1, .int sd), (2, .int lv)] := hl
  have hT0 := hT
  have n0 : (0 : Int32).toInt = 0 := by decide
  have n1 : (1 : Int32).toInt = 1 := by decide
  have n2 : (2 : Int32).toInt = 2 := by decide
  have n16 : (16 : Int32).toInt = 16 := by decide
  have n12345 : (12345 : Int32).toInt = 12345 := by decide
  have n1103515245 : (1103515245 : Int32).toInt = 1103515245 := by decide
  have sd_lo := Int32.le_toInt sd
  have sd_hi := Int32.toInt_lt sd
  have lv_lo := Int32.le_toInt lv
  have lv_hi := Int32.toInt_lt lv
  generalize hQ9 : tQ _ _ _ _ _ _ = Q9
  obtain ⟨src, esrc⟩ : ∃ z, kR κ this 0 = z := ⟨_, rfl⟩
  have tsrc : zk σ0 src 4 := by rw [← esrc]; exact hT0.ref t_this (by decide) (by decide) (by decide)
  have bsrc := (hT0.P tsrc (by decide)).1
  have bsrcl := bsrc.1
  have bsrch := bsrc.2
  refine lv_iconst (v := 2) hx hb dX1_addNoise_0 (by decide) ?_
  refine lv_iload_n hx hb dX1_addNoise_1 rfl (lv_at hl 2 rfl) ?_
  refine lv_imul hx hb dX1_addNoise_2 ?_
  first | (refine g_mul (by rw [n2]; omega) (by rw [n2]; omega) (fun t1 ht1 => ?_); rw [n2] at ht1) | refine lv_topi (fun t1 ht1 => ?_)
  refine lv_iconst (v := 1) hx hb dX1_addNoise_3 (by decide) ?_
  refine lv_iadd hx hb dX1_addNoise_4 ?_
  first | refine g_add (by omega) (by omega) (fun t2 ht2 => ?_) | refine lv_topi (fun t2 ht2 => ?_)
  refine lv_istore_n (lv' := [(3, .int t2), (0, .ref this), (1, .int sd), (2, .int lv)]) hx hb dX1_addNoise_5 rfl hl (by decide) rfl (fun ls hl => ?_)
  refine lv_iload_n hx hb dX1_addNoise_6 rfl (lv_at hl 2 rfl) ?_
  refine lv_istore (lv' := [(4, .int sd), (3, .int t2), (0, .ref this), (1, .int sd), (2, .int lv)]) hx hb dX1_addNoise_7 hl (by decide) rfl (fun ls hl => ?_)
  refine lv_iconst (v := 0) hx hb dX1_addNoise_9 (by decide) ?_
  refine lv_istore (lv' := [(5, .int 0), (4, .int sd), (3, .int t2), (0, .ref this), (1, .int sd), (2, .int lv)]) hx hb dX1_addNoise_10 hl (by decide) rfl (fun ls hl => ?_)
  have loop12 : ∀ (n9 : Nat) (i : Int32) (rn : Int32) (H : Heap) (locs : List Loc) (sg : Gh) (ls : Array Slot), TS κ fW σ0 sg s H locs → (0 ≤ i.toInt) → (i.toInt ≤ (zI σ0 src 2).toInt) → lv_has ls 7 [(5, .int i), (4, .int rn), (3, .int t2), (0, .ref this), (1, .int sd), (2, .int lv)] → ((zI σ0 src 2).toInt - i.toInt) < n9 → tW p l e 3 89 κ s m #[.ref this, .int sd, .int lv] below meth c H locs Q9 (F0 m 12 ls []) := by
    intro n9
    induction n9 with
    | zero =>
      intro i rn H locs sg ls hT q1 q2 hl hm9
      exfalso
      omega
    | succ n9 ih9 =>
      have ih12 := ih9
      clear ih9
      intro i rn H locs s3 ls hT q1 q2 hl hm9
      refine lv_iload hx hb dX1_addNoise_12 (lv_at hl 0 rfl) ?_
      refine lv_aload_n hx hb dX1_addNoise_14 rfl (lv_at hl 3 rfl) ?_
      refine va_get (D := κ.1) (ci := 1) (v := .ref (kR κ this 0)) (C := RX1) (T := TX1) (N := 13) hx hb hg inX1 hown hK (hT.o3 (hT.k t_this (by decide))).one 0 rfl rfl 0 (by decide) (hg _ k278) (fun _ h9 => h9) rfl dX1_addNoise_15 ?_
      rw [esrc]
      obtain ⟨v4, ev4⟩ : ∃ zz9 : Int32, zI σ0 src 2 = zz9 := ⟨_, rfl⟩
      have qv4 : v4.toInt = (zI σ0 src 2).toInt := by rw [ev4]
      have b5 := (hT.P (hT.k tsrc (by decide)) (by decide)).1
      rw [(hT.eI tsrc (by decide) rfl ev4)] at b5
      have b5l := b5.1
      have b5h := b5.2
      refine va_get (D := κ.1) (ci := 0) (v := .int (zI s3 src 2)) (C := RX0) (T := TX0) (N := 7) hx hb hg inX0 hown hK (hT.o4 (hT.k tsrc (by decide))).one 0 rfl rfl 2 (by decide) (hg _ k162) (fun _ h9 => h9) rfl dX1_addNoise_18 ?_
      rw [(hT.eI tsrc (by decide) rfl ev4)]
      refine lv_icmp_ge (tgt := 95) hx hb dX1_addNoise_21 (by decide) (fun c9 => ?_) (fun c9 => ?_)
      · have c1 := gi_le c9
        subst hQ9
        exact t_v hx hb hr hlocks hT trivial dX1_addNoise_95
      · have c2 := gi_nle c9
        refine lv_iload_n hx hb dX1_addNoise_24 rfl (lv_at hl 2 rfl) ?_
        refine lv_if_le (tgt := 95) hx hb dX1_addNoise_25 (by decide) (fun c9 => ?_) (fun c9 => ?_)
        · have c3 := gi_le c9
          subst hQ9
          exact t_v hx hb hr hlocks hT trivial dX1_addNoise_95
        · have c4 := gi_nle c9
          refine lv_iload hx hb dX1_addNoise_28 (lv_at hl 1 rfl) ?_
          refine lv_ldc hx hb hown (hg _ k1024) dX1_addNoise_30 ?_
          refine lv_imul hx hb dX1_addNoise_32 ?_
          first | (refine g_mul (by rw [n1103515245]; omega) (by rw [n1103515245]; omega) (fun t6 ht6 => ?_); rw [n1103515245] at ht6) | refine lv_topi (fun t6 ht6 => ?_)
          refine lv_sipush (v := 12345) hx hb dX1_addNoise_33 (by decide) ?_
          refine lv_iadd hx hb dX1_addNoise_36 ?_
          first | refine g_add (by omega) (by omega) (fun t7 ht7 => ?_) | refine lv_topi (fun t7 ht7 => ?_)
          refine lv_istore (lv' := [(4, .int t7), (5, .int i), (3, .int t2), (0, .ref this), (1, .int sd), (2, .int lv)]) hx hb dX1_addNoise_37 hl (by decide) rfl (fun ls hl => ?_)
          refine lv_iload hx hb dX1_addNoise_39 (lv_at hl 0 rfl) ?_
          refine lv_bipush (v := 16) hx hb dX1_addNoise_41 (by decide) ?_
          refine lv_iushr hx hb dX1_addNoise_43 rfl ?_
          refine lv_topi (fun t8 ht8 => ?_)
          refine lv_iload_n hx hb dX1_addNoise_44 rfl (lv_at hl 2 rfl) ?_
          refine lv_irem hx hb dX1_addNoise_45 (gi_nz (by omega)) ?_
          refine lv_topi (fun t9 ht9 => ?_)
          refine lv_iload_n hx hb dX1_addNoise_46 rfl (lv_at hl 5 rfl) ?_
          refine lv_isub hx hb dX1_addNoise_47 ?_
          first | refine g_sub (by omega) (by omega) (fun t10 ht10 => ?_) | refine lv_topi (fun t10 ht10 => ?_)
          refine lv_istore (lv' := [(6, .int t10), (4, .int t7), (5, .int i), (3, .int t2), (0, .ref this), (1, .int sd), (2, .int lv)]) hx hb dX1_addNoise_48 hl (by decide) rfl (fun ls hl => ?_)
          refine lv_aload_n hx hb dX1_addNoise_50 rfl (lv_at hl 4 rfl) ?_
          obtain ⟨r11, er11⟩ : ∃ z, kR κ this 1 = z := ⟨_, rfl⟩
          have tr11 : zk σ0 r11 10 := by rw [← er11]; exact hT0.ref t_this (by decide) (by decide) (by decide)
          refine va_get (D := κ.1) (ci := 1) (v := .ref (kR κ this 1)) (C := RX1) (T := TX1) (N := 13) hx hb hg inX1 hown hK (hT.o3 (hT.k t_this (by decide))).one 0 rfl rfl 1 (by decide) (hg _ k279) (fun _ h9 => h9) rfl dX1_addNoise_51 ?_
          rw [er11]
          refine lv_iload hx hb dX1_addNoise_54 (lv_at hl 2 rfl) ?_
          refine va_aldq hx hb hK (hT.o10 (hT.k tr11 (by decide))).one 0 4 rfl rfl (g_in (by omega) (by omega)) dX1_addNoise_56 ?_
          obtain ⟨r13, er13⟩ : ∃ z, kR κ r11 (ix i) = z := ⟨_, rfl⟩
          have tr13 : zk σ0 r13 1 := by rw [← er13]; exact hT0.ref tr11 (by decide) (zR10 (ix_lt (by omega) (by omega))) (by decide)
          refine tv (.ref r13) (by rw [← er13]; rfl) ?_
          refine lv_aload_n hx hb dX1_addNoise_57 rfl (lv_at hl 4 rfl) ?_
          obtain ⟨r14, er14⟩ : ∃ z, kR κ this 10 = z := ⟨_, rfl⟩
          have tr14 : zk σ0 r14 1 := by rw [← er14]; exact hT0.ref t_this (by decide) (by decide) (by decide)
          refine va_get (D := κ.1) (ci := 1) (v := .ref (kR κ this 10)) (C := RX1) (T := TX1) (N := 13) hx hb hg inX1 hown hK (hT.o3 (hT.k t_this (by decide))).one 0 rfl rfl 10 (by decide) (hg _ k297) (fun _ h9 => h9) rfl dX1_addNoise_58 ?_
          rw [er14]
          refine lv_iload hx hb dX1_addNoise_61 (lv_at hl 0 rfl) ?_
          refine lv_i2l hx hb dX1_addNoise_63 rfl ?_
          refine g_i2l (fun t15 ht15 => ?_)
          obtain ⟨h18, oh18, th18⟩ := hT.o1 (hT.k tr13 (by decide))
          have hTo := hT
          refine tVv (n := 2) (As := [.ref r14, .long t15]) (rest := []) hx hb hml hown hg hT hK hX (X4_add l κ s3 r13 r14 t15  (hT.k tr13 (by decide)) (hT.k tr14 (by decide)) ) (fun _ _ h => h) (mwV k340 k341 k342 k88 k343) ⟨rfl, by decide, by decide, by decide +kernel⟩ ⟨(Nat.le_of_ble_eq_true rfl), (Nat.le_of_ble_eq_true rfl)⟩ oh18 rfl rfl hl.1 rfl (Nat.le_of_ble_eq_true rfl) dX1_addNoise_64 zroom.rf (fun s17 H locs hφ hEs17 hT => ?_)
          refine lv_aload_n hx hb dX1_addNoise_67 rfl (lv_at hl 4 rfl) ?_
          obtain ⟨r19, er19⟩ : ∃ z, kR κ this 6 = z := ⟨_, rfl⟩
          have tr19 : zk σ0 r19 1 := by rw [← er19]; exact hT0.ref t_this (by decide) (by decide) (by decide)
          refine va_get (D := κ.1) (ci := 1) (v := .ref (kR κ this 6)) (C := RX1) (T := TX1) (N := 13) hx hb hg inX1 hown hK (hT.o3 (hT.k t_this (by decide))).one 0 rfl rfl 6 (by decide) (hg _ k289) (fun _ h9 => h9) rfl dX1_addNoise_68 ?_
          rw [er19]
          refine lv_aload_n hx hb dX1_addNoise_71 rfl (lv_at hl 4 rfl) ?_
          refine va_get (D := κ.1) (ci := 1) (v := .ref (kR κ this 10)) (C := RX1) (T := TX1) (N := 13) hx hb hg inX1 hown hK (hT.o3 (hT.k t_this (by decide))).one 0 rfl rfl 10 (by decide) (hg _ k297) (fun _ h9 => h9) rfl dX1_addNoise_72 ?_
          rw [er14]
          refine lv_aload_n hx hb dX1_addNoise_75 rfl (lv_at hl 4 rfl) ?_
          obtain ⟨r20, er20⟩ : ∃ z, kR κ this 2 = z := ⟨_, rfl⟩
          have tr20 : zk σ0 r20 9 := by rw [← er20]; exact hT0.ref t_this (by decide) (by decide) (by decide)
          refine va_get (D := κ.1) (ci := 1) (v := .ref (kR κ this 2)) (C := RX1) (T := TX1) (N := 13) hx hb hg inX1 hown hK (hT.o3 (hT.k t_this (by decide))).one 0 rfl rfl 2 (by decide) (hg _ k281) (fun _ h9 => h9) rfl dX1_addNoise_76 ?_
          rw [er20]
          refine lv_iload hx hb dX1_addNoise_79 (lv_at hl 2 rfl) ?_
          refine va_lald hx hb hK (hT.o9 (hT.k tr20 (by decide))).one 0 1 rfl rfl (g_in (by omega) (by omega)) dX1_addNoise_81 ?_
          refine lv_topl (fun t21 ht21 => ?_)
          refine lv_iload hx hb dX1_addNoise_82 (lv_at hl 0 rfl) ?_
          refine lv_i2l hx hb dX1_addNoise_84 rfl ?_
          refine g_i2l (fun t22 ht22 => ?_)
          refine lv_lmul hx hb dX1_addNoise_85 ?_
          refine lv_topl (fun t23 ht23 => ?_)
          obtain ⟨h26, oh26, th26⟩ := hT.o1 (hT.k tr19 (by decide))
          have hTo := hT
          refine tVv (n := 2) (As := [.ref r14, .long t23]) (rest := []) hx hb hml hown hg hT hK hX (X4_add l κ s17 r19 r14 t23  (hT.k tr19 (by decide)) (hT.k tr14 (by decide)) ) (fun _ _ h => h) (mwV k340 k341 k342 k88 k343) ⟨rfl, by decide, by decide, by decide +kernel⟩ ⟨(Nat.le_of_ble_eq_true rfl), (Nat.le_of_ble_eq_true rfl)⟩ oh26 rfl rfl hl.1 rfl (Nat.le_of_ble_eq_true rfl) dX1_addNoise_86 zroom.rf (fun s25 H locs hφ hEs25 hT => ?_)
          obtain ⟨t27, qt27⟩ : ∃ zz9 : Int32, i + Int32.ofInt 1 = zz9 := ⟨_, rfl⟩
          refine lv_iinc (v := t27) (lv' := [(5, .int t27), (6, .int t10), (4, .int t7), (3, .int t2), (0, .ref this), (1, .int sd), (2, .int lv)]) hx hb dX1_addNoise_89 hl (k := 2) rfl qt27 (by decide) rfl (fun ls hl => ?_)
          have ht27 : t27.toInt = i.toInt + 1 := by rw [← qt27]; exact v_addi rfl (show (Int32.ofInt 1).toInt = 1 from by decide) (by omega) (by omega)
          refine lv_goto (tgt := 12) hx hb dX1_addNoise_92 (by decide) ?_
          exact ih12 t27 t7 _ _ _ _ hT  (by omega) (by omega) (lv_sub hl [0, 2, 3, 4, 5, 6] rfl) (by omega)
  exact loop12 (((zI σ0 src 2).toInt - (0 : Int32).toInt).toNat + 1) 0 sd _ _ _ _ hT  (by omega) (by omega) hl (by omega)

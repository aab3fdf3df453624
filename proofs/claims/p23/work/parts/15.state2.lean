/-! State over any state: lifting, inverting -/
theorem sub_fE_fLi : ∀ t k, fLi t k = false → fE t k = false := by
  intro t k h
  simp [fE, fLi] at h ⊢ <;> omega
theorem sub_fIn_fBe : ∀ t k, fBe t k = false → fIn t k = false := by
  intro t k h
  simp [fIn, fBe] at h ⊢ <;> omega
theorem sub_fW_fIn : ∀ t k, fIn t k = false → fW t k = false := by
  intro t k h
  simp [fW, fIn] at h ⊢ <;> omega
theorem sub_fW_fLi : ∀ t k, fLi t k = false → fW t k = false := by
  intro t k h
  simp [fW, fLi] at h ⊢ <;> omega
theorem k9 : Cond.selects RX1 yX1_costInto yX1_costInto ∈ GW := gm 9 (by decide +kernel) (by decide +kernel)
theorem k14 : Cond.selects RX1 yX1_shareOf yX1_shareOf ∈ GW := gm 14 (by decide +kernel) (by decide +kernel)
theorem k15 : Cond.selects RX1 yX1_addGains yX1_addGains ∈ GW := gm 15 (by decide +kernel) (by decide +kernel)
theorem k31 : Cond.selects RX1 yX1_invertStep yX1_invertStep ∈ GW := gm 31 (by decide +kernel) (by decide +kernel)
theorem k177 : Cond.fieldLink RX1 120 "LiftingSignal$Source" "least" "I" ∈ GW := gm 177 (by decide +kernel) (by decide +kernel)
theorem k229 : Cond.fieldLink RX1 155 "LiftingSignal$Step" "sample" "I" ∈ GW := gm 229 (by decide +kernel) (by decide +kernel)
theorem k232 : Cond.fieldLink RX1 158 "LiftingSignal$Step" "left" "I" ∈ GW := gm 232 (by decide +kernel) (by decide +kernel)
theorem k235 : Cond.fieldLink RX1 161 "LiftingSignal$Step" "right" "I" ∈ GW := gm 235 (by decide +kernel) (by decide +kernel)
theorem k237 : Cond.fieldLink RX1 164 "LiftingSignal$Step" "leftWeight" "J" ∈ GW := gm 237 (by decide +kernel) (by decide +kernel)
theorem k239 : Cond.fieldLink RX1 168 "LiftingSignal$Step" "rightWeight" "J" ∈ GW := gm 239 (by decide +kernel) (by decide +kernel)
theorem k242 : Cond.fieldLink RX1 171 "LiftingSignal$Step" "weight" "J" ∈ GW := gm 242 (by decide +kernel) (by decide +kernel)
theorem k245 : Cond.fieldLink RX1 177 "LiftingSignal$Step" "share" "J" ∈ GW := gm 245 (by decide +kernel) (by decide +kernel)
theorem k247 : Cond.fieldLink RX1 180 "LiftingSignal$Step" "predict" "I" ∈ GW := gm 247 (by decide +kernel) (by decide +kernel)
theorem k249 : Cond.fieldLink RX1 181 "LiftingSignal$Step" "isKeep" "Z" ∈ GW := gm 249 (by decide +kernel) (by decide +kernel)
theorem k252 : Cond.fieldLink RX1 182 "LiftingSignal$Step" "detail" "LLiftingSignal$Whole;" ∈ GW := gm 252 (by decide +kernel) (by decide +kernel)
theorem k298 : Cond.fieldLink RX1 43 "LiftingSignal$State" "part" "LLiftingSignal$Whole;" ∈ GW := gm 298 (by decide +kernel) (by decide +kernel)
theorem k436 : Cond.instanceMethod yX4_toLong ∈ GW := gm 436 (by decide +kernel) (by decide +kernel)
theorem k437 : Cond.selects RX4 yX4_toLong yX4_toLong ∈ GW := gm 437 (by decide +kernel) (by decide +kernel)
theorem k438 : Cond.code yX4_toLong cX4_toLong 1 (some .long) ∈ GW := gm 438 (by decide +kernel) (by decide +kernel)
theorem k489 : Cond.instanceMethod yX1_presentCount ∈ GW := gm 489 (by decide +kernel) (by decide +kernel)
theorem k490 : Cond.selects RX1 yX1_presentCount yX1_presentCount ∈ GW := gm 490 (by decide +kernel) (by decide +kernel)
theorem k491 : Cond.code yX1_presentCount cX1_presentCount 1 (some .int) ∈ GW := gm 491 (by decide +kernel) (by decide +kernel)
theorem k500 : Cond.methodLink RX1 196 yX4_toLong ∈ GW := gm 500 (by decide +kernel) (by decide +kernel)
theorem k530 : Cond.methodLink RX1 142 yX1_chosenSample ∈ GW := gm 530 (by decide +kernel) (by decide +kernel)
theorem k531 : Cond.instanceMethod yX1_chosenSample ∈ GW := gm 531 (by decide +kernel) (by decide +kernel)
theorem k532 : Cond.selects RX1 yX1_chosenSample yX1_chosenSample ∈ GW := gm 532 (by decide +kernel) (by decide +kernel)
theorem k533 : Cond.code yX1_chosenSample cX1_chosenSample 7 (some .int) ∈ GW := gm 533 (by decide +kernel) (by decide +kernel)
theorem k534 : Cond.methodLink RX1 116 yX1_presentCount ∈ GW := gm 534 (by decide +kernel) (by decide +kernel)
theorem k535 : Cond.methodLink RX1 123 yX1_costInto ∈ GW := gm 535 (by decide +kernel) (by decide +kernel)
theorem k537 : Cond.instanceMethod yX1_costInto ∈ GW := gm 537 (by decide +kernel) (by decide +kernel)
theorem k538 : Cond.code yX1_costInto cX1_costInto 5 none ∈ GW := gm 538 (by decide +kernel) (by decide +kernel)
theorem k539 : Cond.methodLink RX1 131 yJ6_numberOfTrailingZeros_0f7a4 ∈ GW := gm 539 (by decide +kernel) (by decide +kernel)
theorem k540 : Cond.static yJ6_numberOfTrailingZeros_0f7a4 ∈ GW := gm 540 (by decide +kernel) (by decide +kernel)
theorem k541 : Cond.code yJ6_numberOfTrailingZeros_0f7a4 cJ6_numberOfTrailingZeros_0f7a4 2 (some .int) ∈ GW := gm 541 (by decide +kernel) (by decide +kernel)
theorem k566 : Cond.methodLink RX1 127 yX4_compareAmount ∈ GW := gm 566 (by decide +kernel) (by decide +kernel)
theorem k567 : Cond.instanceMethod yX4_compareAmount ∈ GW := gm 567 (by decide +kernel) (by decide +kernel)
theorem k568 : Cond.selects RX4 yX4_compareAmount yX4_compareAmount ∈ GW := gm 568 (by decide +kernel) (by decide +kernel)
theorem k569 : Cond.code yX4_compareAmount cX4_compareAmount 3 (some .int) ∈ GW := gm 569 (by decide +kernel) (by decide +kernel)
theorem k570 : Cond.methodLink RX1 145 yX1_liftSample ∈ GW := gm 570 (by decide +kernel) (by decide +kernel)
theorem k571 : Cond.instanceMethod yX1_liftSample ∈ GW := gm 571 (by decide +kernel) (by decide +kernel)
theorem k572 : Cond.selects RX1 yX1_liftSample yX1_liftSample ∈ GW := gm 572 (by decide +kernel) (by decide +kernel)
theorem k573 : Cond.code yX1_liftSample cX1_liftSample 5 (some .long) ∈ GW := gm 573 (by decide +kernel) (by decide +kernel)
theorem k574 : Cond.methodLink RX1 149 yX1_leftOf ∈ GW := gm 574 (by decide +kernel) (by decide +kernel)
theorem k575 : Cond.instanceMethod yX1_leftOf ∈ GW := gm 575 (by decide +kernel) (by decide +kernel)
theorem k576 : Cond.selects RX1 yX1_leftOf yX1_leftOf ∈ GW := gm 576 (by decide +kernel) (by decide +kernel)
theorem k577 : Cond.code yX1_leftOf cX1_leftOf 3 (some .int) ∈ GW := gm 577 (by decide +kernel) (by decide +kernel)
theorem k578 : Cond.methodLink RX1 152 yX1_rightOf ∈ GW := gm 578 (by decide +kernel) (by decide +kernel)
theorem k579 : Cond.instanceMethod yX1_rightOf ∈ GW := gm 579 (by decide +kernel) (by decide +kernel)
theorem k580 : Cond.selects RX1 yX1_rightOf yX1_rightOf ∈ GW := gm 580 (by decide +kernel) (by decide +kernel)
theorem k581 : Cond.code yX1_rightOf cX1_rightOf 3 (some .int) ∈ GW := gm 581 (by decide +kernel) (by decide +kernel)
theorem k582 : Cond.methodLink RX1 173 yX1_shareOf ∈ GW := gm 582 (by decide +kernel) (by decide +kernel)
theorem k584 : Cond.instanceMethod yX1_shareOf ∈ GW := gm 584 (by decide +kernel) (by decide +kernel)
theorem k585 : Cond.code yX1_shareOf cX1_shareOf 6 (some .long) ∈ GW := gm 585 (by decide +kernel) (by decide +kernel)
theorem k586 : Cond.methodLink RX1 185 yX1_addGains ∈ GW := gm 586 (by decide +kernel) (by decide +kernel)
theorem k588 : Cond.instanceMethod yX1_addGains ∈ GW := gm 588 (by decide +kernel) (by decide +kernel)
theorem k589 : Cond.code yX1_addGains cX1_addGains 7 none ∈ GW := gm 589 (by decide +kernel) (by decide +kernel)
theorem k590 : Cond.methodLink RX1 189 yX2_leftWeightAfter ∈ GW := gm 590 (by decide +kernel) (by decide +kernel)
theorem k591 : Cond.instanceMethod yX2_leftWeightAfter ∈ GW := gm 591 (by decide +kernel) (by decide +kernel)
theorem k592 : Cond.selects RX2 yX2_leftWeightAfter yX2_leftWeightAfter ∈ GW := gm 592 (by decide +kernel) (by decide +kernel)
theorem k593 : Cond.code yX2_leftWeightAfter cX2_leftWeightAfter 1 (some .long) ∈ GW := gm 593 (by decide +kernel) (by decide +kernel)
theorem k594 : Cond.methodLink RX1 193 yX2_rightWeightAfter ∈ GW := gm 594 (by decide +kernel) (by decide +kernel)
theorem k595 : Cond.instanceMethod yX2_rightWeightAfter ∈ GW := gm 595 (by decide +kernel) (by decide +kernel)
theorem k596 : Cond.selects RX2 yX2_rightWeightAfter yX2_rightWeightAfter ∈ GW := gm 596 (by decide +kernel) (by decide +kernel)
theorem k597 : Cond.code yX2_rightWeightAfter cX2_rightWeightAfter 1 (some .long) ∈ GW := gm 597 (by decide +kernel) (by decide +kernel)
theorem k1051 : Cond.methodLink RX1 199 yX1_invertStep ∈ GW := gm 1051 (by decide +kernel) (by decide +kernel)
theorem k1053 : Cond.instanceMethod yX1_invertStep ∈ GW := gm 1053 (by decide +kernel) (by decide +kernel)
theorem k1054 : Cond.code yX1_invertStep cX1_invertStep 2 none ∈ GW := gm 1054 (by decide +kernel) (by decide +kernel)
theorem dX1_addGains_0 : decode cX1_addGains 0 = .ok (.aload_n 1, 1) := by decide +kernel
theorem dX1_addGains_1 : decode cX1_addGains 1 = .ok (.getfield 181, 3) := by decide +kernel
theorem dX1_addGains_4 : decode cX1_addGains 4 = .ok (.ifCond .ne 4, 3) := by decide +kernel
theorem dX1_addGains_7 : decode cX1_addGains 7 = .ok (.return_, 1) := by decide +kernel
theorem dX1_addGains_8 : decode cX1_addGains 8 = .ok (.aload_n 1, 1) := by decide +kernel
theorem dX1_addGains_9 : decode cX1_addGains 9 = .ok (.invokevirtual 189, 3) := by decide +kernel
theorem dX1_addGains_12 : decode cX1_addGains 12 = .ok (.lstore_n 3, 1) := by decide +kernel
theorem dX1_addGains_13 : decode cX1_addGains 13 = .ok (.aload_n 1, 1) := by decide +kernel
theorem dX1_addGains_14 : decode cX1_addGains 14 = .ok (.invokevirtual 193, 3) := by decide +kernel
theorem dX1_addGains_17 : decode cX1_addGains 17 = .ok (.lstore 5, 2) := by decide +kernel
theorem dX1_addGains_19 : decode cX1_addGains 19 = .ok (.aload_n 0, 1) := by decide +kernel
theorem dX1_addGains_20 : decode cX1_addGains 20 = .ok (.getfield 43, 3) := by decide +kernel
theorem dX1_addGains_23 : decode cX1_addGains 23 = .ok (.aload_n 1, 1) := by decide +kernel
theorem dX1_addGains_24 : decode cX1_addGains 24 = .ok (.getfield 182, 3) := by decide +kernel
theorem dX1_addGains_27 : decode cX1_addGains 27 = .ok (.invokevirtual 87, 3) := by decide +kernel
theorem dX1_addGains_30 : decode cX1_addGains 30 = .ok (.aload_n 0, 1) := by decide +kernel
theorem dX1_addGains_31 : decode cX1_addGains 31 = .ok (.getfield 43, 3) := by decide +kernel
theorem dX1_addGains_34 : decode cX1_addGains 34 = .ok (.aload_n 1, 1) := by decide +kernel
theorem dX1_addGains_35 : decode cX1_addGains 35 = .ok (.getfield 171, 3) := by decide +kernel
theorem dX1_addGains_38 : decode cX1_addGains 38 = .ok (.lload_n 3, 1) := by decide +kernel
theorem dX1_addGains_39 : decode cX1_addGains 39 = .ok (.lmul, 1) := by decide +kernel
theorem dX1_addGains_40 : decode cX1_addGains 40 = .ok (.lload_n 3, 1) := by decide +kernel
theorem dX1_addGains_41 : decode cX1_addGains 41 = .ok (.lload_n 3, 1) := by decide +kernel
theorem dX1_addGains_42 : decode cX1_addGains 42 = .ok (.lmul, 1) := by decide +kernel
theorem dX1_addGains_43 : decode cX1_addGains 43 = .ok (.lload 5, 2) := by decide +kernel
theorem dX1_addGains_45 : decode cX1_addGains 45 = .ok (.lload 5, 2) := by decide +kernel
theorem dX1_addGains_47 : decode cX1_addGains 47 = .ok (.lmul, 1) := by decide +kernel
theorem dX1_addGains_48 : decode cX1_addGains 48 = .ok (.ladd, 1) := by decide +kernel
theorem dX1_addGains_49 : decode cX1_addGains 49 = .ok (.invokevirtual 104, 3) := by decide +kernel
theorem dX1_addGains_52 : decode cX1_addGains 52 = .ok (.aload_n 0, 1) := by decide +kernel
theorem dX1_addGains_53 : decode cX1_addGains 53 = .ok (.getfield 11, 3) := by decide +kernel
theorem dX1_addGains_56 : decode cX1_addGains 56 = .ok (.aload_n 1, 1) := by decide +kernel
theorem dX1_addGains_57 : decode cX1_addGains 57 = .ok (.getfield 158, 3) := by decide +kernel
theorem dX1_addGains_60 : decode cX1_addGains 60 = .ok (.aaload, 1) := by decide +kernel
theorem dX1_addGains_61 : decode cX1_addGains 61 = .ok (.aload_n 0, 1) := by decide +kernel
theorem dX1_addGains_62 : decode cX1_addGains 62 = .ok (.getfield 43, 3) := by decide +kernel
theorem dX1_addGains_65 : decode cX1_addGains 65 = .ok (.iload_n 2, 1) := by decide +kernel
theorem dX1_addGains_66 : decode cX1_addGains 66 = .ok (.i2l, 1) := by decide +kernel
theorem dX1_addGains_67 : decode cX1_addGains 67 = .ok (.invokevirtual 70, 3) := by decide +kernel
theorem dX1_addGains_70 : decode cX1_addGains 70 = .ok (.aload_n 0, 1) := by decide +kernel
theorem dX1_addGains_71 : decode cX1_addGains 71 = .ok (.getfield 43, 3) := by decide +kernel
theorem dX1_addGains_74 : decode cX1_addGains 74 = .ok (.aload_n 1, 1) := by decide +kernel
theorem dX1_addGains_75 : decode cX1_addGains 75 = .ok (.getfield 182, 3) := by decide +kernel
theorem dX1_addGains_78 : decode cX1_addGains 78 = .ok (.invokevirtual 87, 3) := by decide +kernel
theorem dX1_addGains_81 : decode cX1_addGains 81 = .ok (.aload_n 0, 1) := by decide +kernel
theorem dX1_addGains_82 : decode cX1_addGains 82 = .ok (.getfield 43, 3) := by decide +kernel
theorem dX1_addGains_85 : decode cX1_addGains 85 = .ok (.aload_n 1, 1) := by decide +kernel
theorem dX1_addGains_86 : decode cX1_addGains 86 = .ok (.getfield 171, 3) := by decide +kernel
theorem dX1_addGains_89 : decode cX1_addGains 89 = .ok (.lload 5, 2) := by decide +kernel
theorem dX1_addGains_91 : decode cX1_addGains 91 = .ok (.lmul, 1) := by decide +kernel
theorem dX1_addGains_92 : decode cX1_addGains 92 = .ok (.lload_n 3, 1) := by decide +kernel
theorem dX1_addGains_93 : decode cX1_addGains 93 = .ok (.lload_n 3, 1) := by decide +kernel
theorem dX1_addGains_94 : decode cX1_addGains 94 = .ok (.lmul, 1) := by decide +kernel
theorem dX1_addGains_95 : decode cX1_addGains 95 = .ok (.lload 5, 2) := by decide +kernel
theorem dX1_addGains_97 : decode cX1_addGains 97 = .ok (.lload 5, 2) := by decide +kernel
theorem dX1_addGains_99 : decode cX1_addGains 99 = .ok (.lmul, 1) := by decide +kernel
theorem dX1_addGains_100 : decode cX1_addGains 100 = .ok (.ladd, 1) := by decide +kernel
theorem dX1_addGains_101 : decode cX1_addGains 101 = .ok (.invokevirtual 104, 3) := by decide +kernel
theorem dX1_addGains_104 : decode cX1_addGains 104 = .ok (.aload_n 0, 1) := by decide +kernel
theorem dX1_addGains_105 : decode cX1_addGains 105 = .ok (.getfield 11, 3) := by decide +kernel
theorem dX1_addGains_108 : decode cX1_addGains 108 = .ok (.aload_n 1, 1) := by decide +kernel
theorem dX1_addGains_109 : decode cX1_addGains 109 = .ok (.getfield 161, 3) := by decide +kernel
theorem dX1_addGains_112 : decode cX1_addGains 112 = .ok (.aaload, 1) := by decide +kernel
theorem dX1_addGains_113 : decode cX1_addGains 113 = .ok (.aload_n 0, 1) := by decide +kernel
theorem dX1_addGains_114 : decode cX1_addGains 114 = .ok (.getfield 43, 3) := by decide +kernel
theorem dX1_addGains_117 : decode cX1_addGains 117 = .ok (.iload_n 2, 1) := by decide +kernel
theorem dX1_addGains_118 : decode cX1_addGains 118 = .ok (.i2l, 1) := by decide +kernel
theorem dX1_addGains_119 : decode cX1_addGains 119 = .ok (.invokevirtual 70, 3) := by decide +kernel
theorem dX1_addGains_122 : decode cX1_addGains 122 = .ok (.return_, 1) := by decide +kernel
theorem dX1_chosenSample_0 : decode cX1_chosenSample 0 = .ok (.aload_n 0, 1) := by decide +kernel
theorem dX1_chosenSample_1 : decode cX1_chosenSample 1 = .ok (.invokevirtual 116, 3) := by decide +kernel
theorem dX1_chosenSample_4 : decode cX1_chosenSample 4 = .ok (.aload_n 0, 1) := by decide +kernel
theorem dX1_chosenSample_5 : decode cX1_chosenSample 5 = .ok (.getfield 49, 3) := by decide +kernel
theorem dX1_chosenSample_8 : decode cX1_chosenSample 8 = .ok (.getfield 120, 3) := by decide +kernel
theorem dX1_chosenSample_11 : decode cX1_chosenSample 11 = .ok (.if_icmp .gt 5, 3) := by decide +kernel
theorem dX1_chosenSample_14 : decode cX1_chosenSample 14 = .ok (.iconst (-1), 1) := by decide +kernel
theorem dX1_chosenSample_15 : decode cX1_chosenSample 15 = .ok (.ireturn, 1) := by decide +kernel
theorem dX1_chosenSample_16 : decode cX1_chosenSample 16 = .ok (.aload_n 0, 1) := by decide +kernel
theorem dX1_chosenSample_17 : decode cX1_chosenSample 17 = .ok (.getfield 43, 3) := by decide +kernel
theorem dX1_chosenSample_20 : decode cX1_chosenSample 20 = .ok (.astore_n 1, 1) := by decide +kernel
theorem dX1_chosenSample_21 : decode cX1_chosenSample 21 = .ok (.aload_n 0, 1) := by decide +kernel
theorem dX1_chosenSample_22 : decode cX1_chosenSample 22 = .ok (.getfield 46, 3) := by decide +kernel
theorem dX1_chosenSample_25 : decode cX1_chosenSample 25 = .ok (.astore_n 2, 1) := by decide +kernel
theorem dX1_chosenSample_26 : decode cX1_chosenSample 26 = .ok (.iconst (-1), 1) := by decide +kernel
theorem dX1_chosenSample_27 : decode cX1_chosenSample 27 = .ok (.istore_n 3, 1) := by decide +kernel
theorem dX1_chosenSample_28 : decode cX1_chosenSample 28 = .ok (.iconst (-1), 1) := by decide +kernel
theorem dX1_chosenSample_29 : decode cX1_chosenSample 29 = .ok (.istore 4, 2) := by decide +kernel
theorem dX1_chosenSample_31 : decode cX1_chosenSample 31 = .ok (.iconst (-1), 1) := by decide +kernel
theorem dX1_chosenSample_32 : decode cX1_chosenSample 32 = .ok (.istore 5, 2) := by decide +kernel
theorem dX1_chosenSample_34 : decode cX1_chosenSample 34 = .ok (.iconst 0, 1) := by decide +kernel
theorem dX1_chosenSample_35 : decode cX1_chosenSample 35 = .ok (.istore 6, 2) := by decide +kernel
theorem dX1_chosenSample_37 : decode cX1_chosenSample 37 = .ok (.iload 6, 2) := by decide +kernel
theorem dX1_chosenSample_39 : decode cX1_chosenSample 39 = .ok (.aload_n 0, 1) := by decide +kernel
theorem dX1_chosenSample_40 : decode cX1_chosenSample 40 = .ok (.getfield 49, 3) := by decide +kernel
theorem dX1_chosenSample_43 : decode cX1_chosenSample 43 = .ok (.getfield 58, 3) := by decide +kernel
theorem dX1_chosenSample_46 : decode cX1_chosenSample 46 = .ok (.if_icmp .ge 67, 3) := by decide +kernel
theorem dX1_chosenSample_49 : decode cX1_chosenSample 49 = .ok (.aload_n 0, 1) := by decide +kernel
theorem dX1_chosenSample_50 : decode cX1_chosenSample 50 = .ok (.iload 6, 2) := by decide +kernel
theorem dX1_chosenSample_52 : decode cX1_chosenSample 52 = .ok (.invokevirtual 100, 3) := by decide +kernel
theorem dX1_chosenSample_55 : decode cX1_chosenSample 55 = .ok (.ifCond .ne 6, 3) := by decide +kernel
theorem dX1_chosenSample_58 : decode cX1_chosenSample 58 = .ok (.goto 49, 3) := by decide +kernel
theorem dX1_chosenSample_61 : decode cX1_chosenSample 61 = .ok (.iload 4, 2) := by decide +kernel
theorem dX1_chosenSample_63 : decode cX1_chosenSample 63 = .ok (.iconst (-1), 1) := by decide +kernel
theorem dX1_chosenSample_64 : decode cX1_chosenSample 64 = .ok (.if_icmp .eq 35, 3) := by decide +kernel
theorem dX1_chosenSample_67 : decode cX1_chosenSample 67 = .ok (.aload_n 0, 1) := by decide +kernel
theorem dX1_chosenSample_68 : decode cX1_chosenSample 68 = .ok (.aload_n 1, 1) := by decide +kernel
theorem dX1_chosenSample_69 : decode cX1_chosenSample 69 = .ok (.iload 4, 2) := by decide +kernel
theorem dX1_chosenSample_71 : decode cX1_chosenSample 71 = .ok (.iload 5, 2) := by decide +kernel
theorem dX1_chosenSample_73 : decode cX1_chosenSample 73 = .ok (.iload 6, 2) := by decide +kernel
theorem dX1_chosenSample_75 : decode cX1_chosenSample 75 = .ok (.invokevirtual 123, 3) := by decide +kernel
theorem dX1_chosenSample_78 : decode cX1_chosenSample 78 = .ok (.iload_n 3, 1) := by decide +kernel
theorem dX1_chosenSample_79 : decode cX1_chosenSample 79 = .ok (.iconst (-1), 1) := by decide +kernel
theorem dX1_chosenSample_80 : decode cX1_chosenSample 80 = .ok (.if_icmp .eq 11, 3) := by decide +kernel
theorem dX1_chosenSample_83 : decode cX1_chosenSample 83 = .ok (.aload_n 1, 1) := by decide +kernel
theorem dX1_chosenSample_84 : decode cX1_chosenSample 84 = .ok (.aload_n 2, 1) := by decide +kernel
theorem dX1_chosenSample_85 : decode cX1_chosenSample 85 = .ok (.invokevirtual 127, 3) := by decide +kernel
theorem dX1_chosenSample_88 : decode cX1_chosenSample 88 = .ok (.ifCond .ge 11, 3) := by decide +kernel
theorem dX1_chosenSample_91 : decode cX1_chosenSample 91 = .ok (.iload 5, 2) := by decide +kernel
theorem dX1_chosenSample_93 : decode cX1_chosenSample 93 = .ok (.istore_n 3, 1) := by decide +kernel
theorem dX1_chosenSample_94 : decode cX1_chosenSample 94 = .ok (.aload_n 2, 1) := by decide +kernel
theorem dX1_chosenSample_95 : decode cX1_chosenSample 95 = .ok (.aload_n 1, 1) := by decide +kernel
theorem dX1_chosenSample_96 : decode cX1_chosenSample 96 = .ok (.invokevirtual 87, 3) := by decide +kernel
theorem dX1_chosenSample_99 : decode cX1_chosenSample 99 = .ok (.iload 5, 2) := by decide +kernel
theorem dX1_chosenSample_101 : decode cX1_chosenSample 101 = .ok (.istore 4, 2) := by decide +kernel
theorem dX1_chosenSample_103 : decode cX1_chosenSample 103 = .ok (.iload 6, 2) := by decide +kernel
theorem dX1_chosenSample_105 : decode cX1_chosenSample 105 = .ok (.istore 5, 2) := by decide +kernel
theorem dX1_chosenSample_107 : decode cX1_chosenSample 107 = .ok (.iinc 6 1, 3) := by decide +kernel
theorem dX1_chosenSample_110 : decode cX1_chosenSample 110 = .ok (.goto (-73), 3) := by decide +kernel
theorem dX1_chosenSample_113 : decode cX1_chosenSample 113 = .ok (.iload_n 3, 1) := by decide +kernel
theorem dX1_chosenSample_114 : decode cX1_chosenSample 114 = .ok (.ireturn, 1) := by decide +kernel
theorem dX1_costInto_0 : decode cX1_costInto 0 = .ok (.aload_n 0, 1) := by decide +kernel
theorem dX1_costInto_1 : decode cX1_costInto 1 = .ok (.getfield 77, 3) := by decide +kernel
theorem dX1_costInto_4 : decode cX1_costInto 4 = .ok (.lookupswitch 68 #[(0, 28), (1, 56)], 28) := by decide +kernel
theorem dX1_costInto_32 : decode cX1_costInto 32 = .ok (.aload_n 1, 1) := by decide +kernel
theorem dX1_costInto_33 : decode cX1_costInto 33 = .ok (.aload_n 0, 1) := by decide +kernel
theorem dX1_costInto_34 : decode cX1_costInto 34 = .ok (.getfield 49, 3) := by decide +kernel
theorem dX1_costInto_37 : decode cX1_costInto 37 = .ok (.getfield 108, 3) := by decide +kernel
theorem dX1_costInto_40 : decode cX1_costInto 40 = .ok (.iload 4, 2) := by decide +kernel
theorem dX1_costInto_42 : decode cX1_costInto 42 = .ok (.iaload, 1) := by decide +kernel
theorem dX1_costInto_43 : decode cX1_costInto 43 = .ok (.aload_n 0, 1) := by decide +kernel
theorem dX1_costInto_44 : decode cX1_costInto 44 = .ok (.getfield 49, 3) := by decide +kernel
theorem dX1_costInto_47 : decode cX1_costInto 47 = .ok (.getfield 108, 3) := by decide +kernel
theorem dX1_costInto_50 : decode cX1_costInto 50 = .ok (.iload_n 2, 1) := by decide +kernel
theorem dX1_costInto_51 : decode cX1_costInto 51 = .ok (.iaload, 1) := by decide +kernel
theorem dX1_costInto_52 : decode cX1_costInto 52 = .ok (.isub, 1) := by decide +kernel
theorem dX1_costInto_53 : decode cX1_costInto 53 = .ok (.i2l, 1) := by decide +kernel
theorem dX1_costInto_54 : decode cX1_costInto 54 = .ok (.invokevirtual 54, 3) := by decide +kernel
theorem dX1_costInto_57 : decode cX1_costInto 57 = .ok (.goto 49, 3) := by decide +kernel
theorem dX1_costInto_60 : decode cX1_costInto 60 = .ok (.aload_n 1, 1) := by decide +kernel
theorem dX1_costInto_61 : decode cX1_costInto 61 = .ok (.iload_n 3, 1) := by decide +kernel
theorem dX1_costInto_62 : decode cX1_costInto 62 = .ok (.invokestatic 131, 3) := by decide +kernel
theorem dX1_costInto_65 : decode cX1_costInto 65 = .ok (.i2l, 1) := by decide +kernel
theorem dX1_costInto_66 : decode cX1_costInto 66 = .ok (.invokevirtual 54, 3) := by decide +kernel
theorem dX1_costInto_69 : decode cX1_costInto 69 = .ok (.goto 37, 3) := by decide +kernel
theorem dX1_costInto_72 : decode cX1_costInto 72 = .ok (.aload_n 0, 1) := by decide +kernel
theorem dX1_costInto_73 : decode cX1_costInto 73 = .ok (.aload_n 1, 1) := by decide +kernel
theorem dX1_costInto_74 : decode cX1_costInto 74 = .ok (.aload_n 0, 1) := by decide +kernel
theorem dX1_costInto_75 : decode cX1_costInto 75 = .ok (.getfield 81, 3) := by decide +kernel
theorem dX1_costInto_78 : decode cX1_costInto 78 = .ok (.iload_n 2, 1) := by decide +kernel
theorem dX1_costInto_79 : decode cX1_costInto 79 = .ok (.aload_n 0, 1) := by decide +kernel
theorem dX1_costInto_80 : decode cX1_costInto 80 = .ok (.getfield 49, 3) := by decide +kernel
theorem dX1_costInto_83 : decode cX1_costInto 83 = .ok (.getfield 108, 3) := by decide +kernel
theorem dX1_costInto_86 : decode cX1_costInto 86 = .ok (.iload_n 3, 1) := by decide +kernel
theorem dX1_costInto_87 : decode cX1_costInto 87 = .ok (.iaload, 1) := by decide +kernel
theorem dX1_costInto_88 : decode cX1_costInto 88 = .ok (.iload 4, 2) := by decide +kernel
theorem dX1_costInto_90 : decode cX1_costInto 90 = .ok (.invokevirtual 111, 3) := by decide +kernel
theorem dX1_costInto_93 : decode cX1_costInto 93 = .ok (.aload_n 1, 1) := by decide +kernel
theorem dX1_costInto_94 : decode cX1_costInto 94 = .ok (.aload_n 0, 1) := by decide +kernel
theorem dX1_costInto_95 : decode cX1_costInto 95 = .ok (.getfield 11, 3) := by decide +kernel
theorem dX1_costInto_98 : decode cX1_costInto 98 = .ok (.iload_n 3, 1) := by decide +kernel
theorem dX1_costInto_99 : decode cX1_costInto 99 = .ok (.aaload, 1) := by decide +kernel
theorem dX1_costInto_100 : decode cX1_costInto 100 = .ok (.ldc2_w 136, 3) := by decide +kernel
theorem dX1_costInto_103 : decode cX1_costInto 103 = .ok (.invokevirtual 70, 3) := by decide +kernel
theorem dX1_costInto_106 : decode cX1_costInto 106 = .ok (.return_, 1) := by decide +kernel
theorem dX1_invertLatest_0 : decode cX1_invertLatest 0 = .ok (.iconst 0, 1) := by decide +kernel
theorem dX1_invertLatest_1 : decode cX1_invertLatest 1 = .ok (.istore_n 2, 1) := by decide +kernel
theorem dX1_invertLatest_2 : decode cX1_invertLatest 2 = .ok (.iload_n 2, 1) := by decide +kernel
theorem dX1_invertLatest_3 : decode cX1_invertLatest 3 = .ok (.iload_n 1, 1) := by decide +kernel
theorem dX1_invertLatest_4 : decode cX1_invertLatest 4 = .ok (.if_icmp .ge 41, 3) := by decide +kernel
theorem dX1_invertLatest_7 : decode cX1_invertLatest 7 = .ok (.aload_n 0, 1) := by decide +kernel
theorem dX1_invertLatest_8 : decode cX1_invertLatest 8 = .ok (.getfield 31, 3) := by decide +kernel
theorem dX1_invertLatest_11 : decode cX1_invertLatest 11 = .ok (.ifCond .le 34, 3) := by decide +kernel
theorem dX1_invertLatest_14 : decode cX1_invertLatest 14 = .ok (.aload_n 0, 1) := by decide +kernel
theorem dX1_invertLatest_15 : decode cX1_invertLatest 15 = .ok (.aload_n 0, 1) := by decide +kernel
theorem dX1_invertLatest_16 : decode cX1_invertLatest 16 = .ok (.getfield 27, 3) := by decide +kernel
theorem dX1_invertLatest_19 : decode cX1_invertLatest 19 = .ok (.aload_n 0, 1) := by decide +kernel
theorem dX1_invertLatest_20 : decode cX1_invertLatest 20 = .ok (.getfield 31, 3) := by decide +kernel
theorem dX1_invertLatest_23 : decode cX1_invertLatest 23 = .ok (.iconst 1, 1) := by decide +kernel
theorem dX1_invertLatest_24 : decode cX1_invertLatest 24 = .ok (.isub, 1) := by decide +kernel
theorem dX1_invertLatest_25 : decode cX1_invertLatest 25 = .ok (.aaload, 1) := by decide +kernel
theorem dX1_invertLatest_26 : decode cX1_invertLatest 26 = .ok (.invokevirtual 199, 3) := by decide +kernel
theorem dX1_invertLatest_29 : decode cX1_invertLatest 29 = .ok (.aload_n 0, 1) := by decide +kernel
theorem dX1_invertLatest_30 : decode cX1_invertLatest 30 = .ok (.dup, 1) := by decide +kernel
theorem dX1_invertLatest_31 : decode cX1_invertLatest 31 = .ok (.getfield 31, 3) := by decide +kernel
theorem dX1_invertLatest_34 : decode cX1_invertLatest 34 = .ok (.iconst 1, 1) := by decide +kernel
theorem dX1_invertLatest_35 : decode cX1_invertLatest 35 = .ok (.isub, 1) := by decide +kernel
theorem dX1_invertLatest_36 : decode cX1_invertLatest 36 = .ok (.putfield 31, 3) := by decide +kernel
theorem dX1_invertLatest_39 : decode cX1_invertLatest 39 = .ok (.iinc 2 1, 3) := by decide +kernel
theorem dX1_invertLatest_42 : decode cX1_invertLatest 42 = .ok (.goto (-40), 3) := by decide +kernel
theorem dX1_invertLatest_45 : decode cX1_invertLatest 45 = .ok (.iload_n 2, 1) := by decide +kernel
theorem dX1_invertLatest_46 : decode cX1_invertLatest 46 = .ok (.ireturn, 1) := by decide +kernel
theorem dX1_invertStep_0 : decode cX1_invertStep 0 = .ok (.aload_n 0, 1) := by decide +kernel
theorem dX1_invertStep_1 : decode cX1_invertStep 1 = .ok (.aload_n 1, 1) := by decide +kernel
theorem dX1_invertStep_2 : decode cX1_invertStep 2 = .ok (.iconst (-1), 1) := by decide +kernel
theorem dX1_invertStep_3 : decode cX1_invertStep 3 = .ok (.invokevirtual 185, 3) := by decide +kernel
theorem dX1_invertStep_6 : decode cX1_invertStep 6 = .ok (.aload_n 0, 1) := by decide +kernel
theorem dX1_invertStep_7 : decode cX1_invertStep 7 = .ok (.getfield 17, 3) := by decide +kernel
theorem dX1_invertStep_10 : decode cX1_invertStep 10 = .ok (.aload_n 1, 1) := by decide +kernel
theorem dX1_invertStep_11 : decode cX1_invertStep 11 = .ok (.getfield 158, 3) := by decide +kernel
theorem dX1_invertStep_14 : decode cX1_invertStep 14 = .ok (.aload_n 1, 1) := by decide +kernel
theorem dX1_invertStep_15 : decode cX1_invertStep 15 = .ok (.getfield 164, 3) := by decide +kernel
theorem dX1_invertStep_18 : decode cX1_invertStep 18 = .ok (.lastore, 1) := by decide +kernel
theorem dX1_invertStep_19 : decode cX1_invertStep 19 = .ok (.aload_n 0, 1) := by decide +kernel
theorem dX1_invertStep_20 : decode cX1_invertStep 20 = .ok (.getfield 17, 3) := by decide +kernel
theorem dX1_invertStep_23 : decode cX1_invertStep 23 = .ok (.aload_n 1, 1) := by decide +kernel
theorem dX1_invertStep_24 : decode cX1_invertStep 24 = .ok (.getfield 161, 3) := by decide +kernel
theorem dX1_invertStep_27 : decode cX1_invertStep 27 = .ok (.aload_n 1, 1) := by decide +kernel
theorem dX1_invertStep_28 : decode cX1_invertStep 28 = .ok (.getfield 168, 3) := by decide +kernel
theorem dX1_invertStep_31 : decode cX1_invertStep 31 = .ok (.lastore, 1) := by decide +kernel
theorem dX1_invertStep_32 : decode cX1_invertStep 32 = .ok (.aload_n 0, 1) := by decide +kernel
theorem dX1_invertStep_33 : decode cX1_invertStep 33 = .ok (.aload_n 0, 1) := by decide +kernel
theorem dX1_invertStep_34 : decode cX1_invertStep 34 = .ok (.getfield 11, 3) := by decide +kernel
theorem dX1_invertStep_37 : decode cX1_invertStep 37 = .ok (.aload_n 1, 1) := by decide +kernel
theorem dX1_invertStep_38 : decode cX1_invertStep 38 = .ok (.getfield 155, 3) := by decide +kernel
theorem dX1_invertStep_41 : decode cX1_invertStep 41 = .ok (.aaload, 1) := by decide +kernel
theorem dX1_invertStep_42 : decode cX1_invertStep 42 = .ok (.aload_n 1, 1) := by decide +kernel
theorem dX1_invertStep_43 : decode cX1_invertStep 43 = .ok (.getfield 180, 3) := by decide +kernel
theorem dX1_invertStep_46 : decode cX1_invertStep 46 = .ok (.aload_n 1, 1) := by decide +kernel
theorem dX1_invertStep_47 : decode cX1_invertStep 47 = .ok (.getfield 158, 3) := by decide +kernel
theorem dX1_invertStep_50 : decode cX1_invertStep 50 = .ok (.aload_n 0, 1) := by decide +kernel
theorem dX1_invertStep_51 : decode cX1_invertStep 51 = .ok (.getfield 49, 3) := by decide +kernel
theorem dX1_invertStep_54 : decode cX1_invertStep 54 = .ok (.getfield 108, 3) := by decide +kernel
theorem dX1_invertStep_57 : decode cX1_invertStep 57 = .ok (.aload_n 1, 1) := by decide +kernel
theorem dX1_invertStep_58 : decode cX1_invertStep 58 = .ok (.getfield 155, 3) := by decide +kernel
theorem dX1_invertStep_61 : decode cX1_invertStep 61 = .ok (.iaload, 1) := by decide +kernel
theorem dX1_invertStep_62 : decode cX1_invertStep 62 = .ok (.aload_n 1, 1) := by decide +kernel
theorem dX1_invertStep_63 : decode cX1_invertStep 63 = .ok (.getfield 161, 3) := by decide +kernel
theorem dX1_invertStep_66 : decode cX1_invertStep 66 = .ok (.invokevirtual 111, 3) := by decide +kernel
theorem dX1_invertStep_69 : decode cX1_invertStep 69 = .ok (.aload_n 0, 1) := by decide +kernel
theorem dX1_invertStep_70 : decode cX1_invertStep 70 = .ok (.getfield 11, 3) := by decide +kernel
theorem dX1_invertStep_73 : decode cX1_invertStep 73 = .ok (.aload_n 1, 1) := by decide +kernel
theorem dX1_invertStep_74 : decode cX1_invertStep 74 = .ok (.getfield 155, 3) := by decide +kernel
theorem dX1_invertStep_77 : decode cX1_invertStep 77 = .ok (.aaload, 1) := by decide +kernel
theorem dX1_invertStep_78 : decode cX1_invertStep 78 = .ok (.aload_n 1, 1) := by decide +kernel
theorem dX1_invertStep_79 : decode cX1_invertStep 79 = .ok (.getfield 182, 3) := by decide +kernel
theorem dX1_invertStep_82 : decode cX1_invertStep 82 = .ok (.lconst 1, 1) := by decide +kernel
theorem dX1_invertStep_83 : decode cX1_invertStep 83 = .ok (.invokevirtual 70, 3) := by decide +kernel
theorem dX1_invertStep_86 : decode cX1_invertStep 86 = .ok (.aload_n 0, 1) := by decide +kernel
theorem dX1_invertStep_87 : decode cX1_invertStep 87 = .ok (.getfield 21, 3) := by decide +kernel
theorem dX1_invertStep_90 : decode cX1_invertStep 90 = .ok (.aload_n 1, 1) := by decide +kernel
theorem dX1_invertStep_91 : decode cX1_invertStep 91 = .ok (.getfield 155, 3) := by decide +kernel
theorem dX1_invertStep_94 : decode cX1_invertStep 94 = .ok (.iconst (-1), 1) := by decide +kernel
theorem dX1_invertStep_95 : decode cX1_invertStep 95 = .ok (.iastore, 1) := by decide +kernel
theorem dX1_invertStep_96 : decode cX1_invertStep 96 = .ok (.return_, 1) := by decide +kernel
theorem dX1_liftChosen_0 : decode cX1_liftChosen 0 = .ok (.iconst 0, 1) := by decide +kernel
theorem dX1_liftChosen_1 : decode cX1_liftChosen 1 = .ok (.istore_n 2, 1) := by decide +kernel
theorem dX1_liftChosen_2 : decode cX1_liftChosen 2 = .ok (.iload_n 2, 1) := by decide +kernel
theorem dX1_liftChosen_3 : decode cX1_liftChosen 3 = .ok (.iload_n 1, 1) := by decide +kernel
theorem dX1_liftChosen_4 : decode cX1_liftChosen 4 = .ok (.if_icmp .ge 28, 3) := by decide +kernel
theorem dX1_liftChosen_7 : decode cX1_liftChosen 7 = .ok (.aload_n 0, 1) := by decide +kernel
theorem dX1_liftChosen_8 : decode cX1_liftChosen 8 = .ok (.invokevirtual 142, 3) := by decide +kernel
theorem dX1_liftChosen_11 : decode cX1_liftChosen 11 = .ok (.istore_n 3, 1) := by decide +kernel
theorem dX1_liftChosen_12 : decode cX1_liftChosen 12 = .ok (.iload_n 3, 1) := by decide +kernel
theorem dX1_liftChosen_13 : decode cX1_liftChosen 13 = .ok (.iconst (-1), 1) := by decide +kernel
theorem dX1_liftChosen_14 : decode cX1_liftChosen 14 = .ok (.if_icmp .ne 6, 3) := by decide +kernel
theorem dX1_liftChosen_17 : decode cX1_liftChosen 17 = .ok (.goto 15, 3) := by decide +kernel
theorem dX1_liftChosen_20 : decode cX1_liftChosen 20 = .ok (.aload_n 0, 1) := by decide +kernel
theorem dX1_liftChosen_21 : decode cX1_liftChosen 21 = .ok (.iload_n 3, 1) := by decide +kernel
theorem dX1_liftChosen_22 : decode cX1_liftChosen 22 = .ok (.invokevirtual 145, 3) := by decide +kernel
theorem dX1_liftChosen_25 : decode cX1_liftChosen 25 = .ok (.pop2, 1) := by decide +kernel
theorem dX1_liftChosen_26 : decode cX1_liftChosen 26 = .ok (.iinc 2 1, 3) := by decide +kernel
theorem dX1_liftChosen_29 : decode cX1_liftChosen 29 = .ok (.goto (-27), 3) := by decide +kernel
theorem dX1_liftChosen_32 : decode cX1_liftChosen 32 = .ok (.iload_n 2, 1) := by decide +kernel
theorem dX1_liftChosen_33 : decode cX1_liftChosen 33 = .ok (.ireturn, 1) := by decide +kernel
theorem dX1_liftSample_0 : decode cX1_liftSample 0 = .ok (.aload_n 0, 1) := by decide +kernel
theorem dX1_liftSample_1 : decode cX1_liftSample 1 = .ok (.iload_n 1, 1) := by decide +kernel
theorem dX1_liftSample_2 : decode cX1_liftSample 2 = .ok (.invokevirtual 149, 3) := by decide +kernel
theorem dX1_liftSample_5 : decode cX1_liftSample 5 = .ok (.istore_n 2, 1) := by decide +kernel
theorem dX1_liftSample_6 : decode cX1_liftSample 6 = .ok (.aload_n 0, 1) := by decide +kernel
theorem dX1_liftSample_7 : decode cX1_liftSample 7 = .ok (.iload_n 1, 1) := by decide +kernel
theorem dX1_liftSample_8 : decode cX1_liftSample 8 = .ok (.invokevirtual 152, 3) := by decide +kernel
theorem dX1_liftSample_11 : decode cX1_liftSample 11 = .ok (.istore_n 3, 1) := by decide +kernel
theorem dX1_liftSample_12 : decode cX1_liftSample 12 = .ok (.iload_n 2, 1) := by decide +kernel
theorem dX1_liftSample_13 : decode cX1_liftSample 13 = .ok (.iconst (-1), 1) := by decide +kernel
theorem dX1_liftSample_14 : decode cX1_liftSample 14 = .ok (.if_icmp .eq 17, 3) := by decide +kernel
theorem dX1_liftSample_17 : decode cX1_liftSample 17 = .ok (.iload_n 3, 1) := by decide +kernel
theorem dX1_liftSample_18 : decode cX1_liftSample 18 = .ok (.iconst (-1), 1) := by decide +kernel
theorem dX1_liftSample_19 : decode cX1_liftSample 19 = .ok (.if_icmp .eq 12, 3) := by decide +kernel
theorem dX1_liftSample_22 : decode cX1_liftSample 22 = .ok (.aload_n 0, 1) := by decide +kernel
theorem dX1_liftSample_23 : decode cX1_liftSample 23 = .ok (.getfield 31, 3) := by decide +kernel
theorem dX1_liftSample_26 : decode cX1_liftSample 26 = .ok (.bipush 46, 2) := by decide +kernel
theorem dX1_liftSample_28 : decode cX1_liftSample 28 = .ok (.if_icmp .lt 5, 3) := by decide +kernel
theorem dX1_liftSample_31 : decode cX1_liftSample 31 = .ok (.lconst 0, 1) := by decide +kernel
theorem dX1_liftSample_32 : decode cX1_liftSample 32 = .ok (.lreturn, 1) := by decide +kernel
theorem dX1_liftSample_33 : decode cX1_liftSample 33 = .ok (.aload_n 0, 1) := by decide +kernel
theorem dX1_liftSample_34 : decode cX1_liftSample 34 = .ok (.getfield 27, 3) := by decide +kernel
theorem dX1_liftSample_37 : decode cX1_liftSample 37 = .ok (.aload_n 0, 1) := by decide +kernel
theorem dX1_liftSample_38 : decode cX1_liftSample 38 = .ok (.getfield 31, 3) := by decide +kernel
theorem dX1_liftSample_41 : decode cX1_liftSample 41 = .ok (.aaload, 1) := by decide +kernel
theorem dX1_liftSample_42 : decode cX1_liftSample 42 = .ok (.astore 4, 2) := by decide +kernel
theorem dX1_liftSample_44 : decode cX1_liftSample 44 = .ok (.aload 4, 2) := by decide +kernel
theorem dX1_liftSample_46 : decode cX1_liftSample 46 = .ok (.iload_n 1, 1) := by decide +kernel
theorem dX1_liftSample_47 : decode cX1_liftSample 47 = .ok (.putfield 155, 3) := by decide +kernel
theorem dX1_liftSample_50 : decode cX1_liftSample 50 = .ok (.aload 4, 2) := by decide +kernel
theorem dX1_liftSample_52 : decode cX1_liftSample 52 = .ok (.iload_n 2, 1) := by decide +kernel
theorem dX1_liftSample_53 : decode cX1_liftSample 53 = .ok (.putfield 158, 3) := by decide +kernel
theorem dX1_liftSample_56 : decode cX1_liftSample 56 = .ok (.aload 4, 2) := by decide +kernel
theorem dX1_liftSample_58 : decode cX1_liftSample 58 = .ok (.iload_n 3, 1) := by decide +kernel
theorem dX1_liftSample_59 : decode cX1_liftSample 59 = .ok (.putfield 161, 3) := by decide +kernel
theorem dX1_liftSample_62 : decode cX1_liftSample 62 = .ok (.aload 4, 2) := by decide +kernel
theorem dX1_liftSample_64 : decode cX1_liftSample 64 = .ok (.aload_n 0, 1) := by decide +kernel
theorem dX1_liftSample_65 : decode cX1_liftSample 65 = .ok (.getfield 17, 3) := by decide +kernel
theorem dX1_liftSample_68 : decode cX1_liftSample 68 = .ok (.iload_n 2, 1) := by decide +kernel
theorem dX1_liftSample_69 : decode cX1_liftSample 69 = .ok (.laload, 1) := by decide +kernel
theorem dX1_liftSample_70 : decode cX1_liftSample 70 = .ok (.putfield 164, 3) := by decide +kernel
theorem dX1_liftSample_73 : decode cX1_liftSample 73 = .ok (.aload 4, 2) := by decide +kernel
theorem dX1_liftSample_75 : decode cX1_liftSample 75 = .ok (.aload_n 0, 1) := by decide +kernel
theorem dX1_liftSample_76 : decode cX1_liftSample 76 = .ok (.getfield 17, 3) := by decide +kernel
theorem dX1_liftSample_79 : decode cX1_liftSample 79 = .ok (.iload_n 3, 1) := by decide +kernel
theorem dX1_liftSample_80 : decode cX1_liftSample 80 = .ok (.laload, 1) := by decide +kernel
theorem dX1_liftSample_81 : decode cX1_liftSample 81 = .ok (.putfield 168, 3) := by decide +kernel
theorem dX1_liftSample_84 : decode cX1_liftSample 84 = .ok (.aload 4, 2) := by decide +kernel
theorem dX1_liftSample_86 : decode cX1_liftSample 86 = .ok (.aload_n 0, 1) := by decide +kernel
theorem dX1_liftSample_87 : decode cX1_liftSample 87 = .ok (.getfield 17, 3) := by decide +kernel
theorem dX1_liftSample_90 : decode cX1_liftSample 90 = .ok (.iload_n 1, 1) := by decide +kernel
theorem dX1_liftSample_91 : decode cX1_liftSample 91 = .ok (.laload, 1) := by decide +kernel
theorem dX1_liftSample_92 : decode cX1_liftSample 92 = .ok (.putfield 171, 3) := by decide +kernel
theorem dX1_liftSample_95 : decode cX1_liftSample 95 = .ok (.aload 4, 2) := by decide +kernel
theorem dX1_liftSample_97 : decode cX1_liftSample 97 = .ok (.aload_n 0, 1) := by decide +kernel
theorem dX1_liftSample_98 : decode cX1_liftSample 98 = .ok (.iload_n 2, 1) := by decide +kernel
theorem dX1_liftSample_99 : decode cX1_liftSample 99 = .ok (.iload_n 1, 1) := by decide +kernel
theorem dX1_liftSample_100 : decode cX1_liftSample 100 = .ok (.iload_n 3, 1) := by decide +kernel
theorem dX1_liftSample_101 : decode cX1_liftSample 101 = .ok (.invokevirtual 173, 3) := by decide +kernel
theorem dX1_liftSample_104 : decode cX1_liftSample 104 = .ok (.putfield 177, 3) := by decide +kernel
theorem dX1_liftSample_107 : decode cX1_liftSample 107 = .ok (.aload 4, 2) := by decide +kernel
theorem dX1_liftSample_109 : decode cX1_liftSample 109 = .ok (.aload_n 0, 1) := by decide +kernel
theorem dX1_liftSample_110 : decode cX1_liftSample 110 = .ok (.getfield 81, 3) := by decide +kernel
theorem dX1_liftSample_113 : decode cX1_liftSample 113 = .ok (.putfield 180, 3) := by decide +kernel
theorem dX1_liftSample_116 : decode cX1_liftSample 116 = .ok (.aload 4, 2) := by decide +kernel
theorem dX1_liftSample_118 : decode cX1_liftSample 118 = .ok (.aload_n 0, 1) := by decide +kernel
theorem dX1_liftSample_119 : decode cX1_liftSample 119 = .ok (.getfield 86, 3) := by decide +kernel
theorem dX1_liftSample_122 : decode cX1_liftSample 122 = .ok (.putfield 181, 3) := by decide +kernel
theorem dX1_liftSample_125 : decode cX1_liftSample 125 = .ok (.aload_n 0, 1) := by decide +kernel
theorem dX1_liftSample_126 : decode cX1_liftSample 126 = .ok (.aload_n 0, 1) := by decide +kernel
theorem dX1_liftSample_127 : decode cX1_liftSample 127 = .ok (.getfield 43, 3) := by decide +kernel
theorem dX1_liftSample_130 : decode cX1_liftSample 130 = .ok (.aload_n 0, 1) := by decide +kernel
theorem dX1_liftSample_131 : decode cX1_liftSample 131 = .ok (.getfield 81, 3) := by decide +kernel
theorem dX1_liftSample_134 : decode cX1_liftSample 134 = .ok (.iload_n 2, 1) := by decide +kernel
theorem dX1_liftSample_135 : decode cX1_liftSample 135 = .ok (.aload_n 0, 1) := by decide +kernel
theorem dX1_liftSample_136 : decode cX1_liftSample 136 = .ok (.getfield 49, 3) := by decide +kernel
theorem dX1_liftSample_139 : decode cX1_liftSample 139 = .ok (.getfield 108, 3) := by decide +kernel
theorem dX1_liftSample_142 : decode cX1_liftSample 142 = .ok (.iload_n 1, 1) := by decide +kernel
theorem dX1_liftSample_143 : decode cX1_liftSample 143 = .ok (.iaload, 1) := by decide +kernel
theorem dX1_liftSample_144 : decode cX1_liftSample 144 = .ok (.iload_n 3, 1) := by decide +kernel
theorem dX1_liftSample_145 : decode cX1_liftSample 145 = .ok (.invokevirtual 111, 3) := by decide +kernel
theorem dX1_liftSample_148 : decode cX1_liftSample 148 = .ok (.aload 4, 2) := by decide +kernel
theorem dX1_liftSample_150 : decode cX1_liftSample 150 = .ok (.getfield 182, 3) := by decide +kernel
theorem dX1_liftSample_153 : decode cX1_liftSample 153 = .ok (.aload_n 0, 1) := by decide +kernel
theorem dX1_liftSample_154 : decode cX1_liftSample 154 = .ok (.getfield 11, 3) := by decide +kernel
theorem dX1_liftSample_157 : decode cX1_liftSample 157 = .ok (.iload_n 1, 1) := by decide +kernel
theorem dX1_liftSample_158 : decode cX1_liftSample 158 = .ok (.aaload, 1) := by decide +kernel
theorem dX1_liftSample_159 : decode cX1_liftSample 159 = .ok (.invokevirtual 87, 3) := by decide +kernel
theorem dX1_liftSample_162 : decode cX1_liftSample 162 = .ok (.aload 4, 2) := by decide +kernel
theorem dX1_liftSample_164 : decode cX1_liftSample 164 = .ok (.getfield 182, 3) := by decide +kernel
theorem dX1_liftSample_167 : decode cX1_liftSample 167 = .ok (.aload_n 0, 1) := by decide +kernel
theorem dX1_liftSample_168 : decode cX1_liftSample 168 = .ok (.getfield 43, 3) := by decide +kernel
theorem dX1_liftSample_171 : decode cX1_liftSample 171 = .ok (.ldc2_w 136, 3) := by decide +kernel
theorem dX1_liftSample_174 : decode cX1_liftSample 174 = .ok (.invokevirtual 70, 3) := by decide +kernel
theorem dX1_liftSample_177 : decode cX1_liftSample 177 = .ok (.aload_n 0, 1) := by decide +kernel
theorem dX1_liftSample_178 : decode cX1_liftSample 178 = .ok (.aload 4, 2) := by decide +kernel
theorem dX1_liftSample_180 : decode cX1_liftSample 180 = .ok (.iconst 1, 1) := by decide +kernel
theorem dX1_liftSample_181 : decode cX1_liftSample 181 = .ok (.invokevirtual 185, 3) := by decide +kernel
theorem dX1_liftSample_184 : decode cX1_liftSample 184 = .ok (.aload_n 0, 1) := by decide +kernel
theorem dX1_liftSample_185 : decode cX1_liftSample 185 = .ok (.getfield 17, 3) := by decide +kernel
theorem dX1_liftSample_188 : decode cX1_liftSample 188 = .ok (.iload_n 2, 1) := by decide +kernel
theorem dX1_liftSample_189 : decode cX1_liftSample 189 = .ok (.aload 4, 2) := by decide +kernel
theorem dX1_liftSample_191 : decode cX1_liftSample 191 = .ok (.invokevirtual 189, 3) := by decide +kernel
theorem dX1_liftSample_194 : decode cX1_liftSample 194 = .ok (.lastore, 1) := by decide +kernel
theorem dX1_liftSample_195 : decode cX1_liftSample 195 = .ok (.aload_n 0, 1) := by decide +kernel
theorem dX1_liftSample_196 : decode cX1_liftSample 196 = .ok (.getfield 17, 3) := by decide +kernel
theorem dX1_liftSample_199 : decode cX1_liftSample 199 = .ok (.iload_n 3, 1) := by decide +kernel
theorem dX1_liftSample_200 : decode cX1_liftSample 200 = .ok (.aload 4, 2) := by decide +kernel
theorem dX1_liftSample_202 : decode cX1_liftSample 202 = .ok (.invokevirtual 193, 3) := by decide +kernel
theorem dX1_liftSample_205 : decode cX1_liftSample 205 = .ok (.lastore, 1) := by decide +kernel
theorem dX1_liftSample_206 : decode cX1_liftSample 206 = .ok (.aload_n 0, 1) := by decide +kernel
theorem dX1_liftSample_207 : decode cX1_liftSample 207 = .ok (.getfield 21, 3) := by decide +kernel
theorem dX1_liftSample_210 : decode cX1_liftSample 210 = .ok (.iload_n 1, 1) := by decide +kernel
theorem dX1_liftSample_211 : decode cX1_liftSample 211 = .ok (.aload_n 0, 1) := by decide +kernel
theorem dX1_liftSample_212 : decode cX1_liftSample 212 = .ok (.getfield 31, 3) := by decide +kernel
theorem dX1_liftSample_215 : decode cX1_liftSample 215 = .ok (.iastore, 1) := by decide +kernel
theorem dX1_liftSample_216 : decode cX1_liftSample 216 = .ok (.aload_n 0, 1) := by decide +kernel
theorem dX1_liftSample_217 : decode cX1_liftSample 217 = .ok (.dup, 1) := by decide +kernel
theorem dX1_liftSample_218 : decode cX1_liftSample 218 = .ok (.getfield 31, 3) := by decide +kernel
theorem dX1_liftSample_221 : decode cX1_liftSample 221 = .ok (.iconst 1, 1) := by decide +kernel
theorem dX1_liftSample_222 : decode cX1_liftSample 222 = .ok (.iadd, 1) := by decide +kernel
theorem dX1_liftSample_223 : decode cX1_liftSample 223 = .ok (.putfield 31, 3) := by decide +kernel
theorem dX1_liftSample_226 : decode cX1_liftSample 226 = .ok (.aload 4, 2) := by decide +kernel
theorem dX1_liftSample_228 : decode cX1_liftSample 228 = .ok (.getfield 182, 3) := by decide +kernel
theorem dX1_liftSample_231 : decode cX1_liftSample 231 = .ok (.invokevirtual 196, 3) := by decide +kernel
theorem dX1_liftSample_234 : decode cX1_liftSample 234 = .ok (.lreturn, 1) := by decide +kernel
theorem dX1_shareOf_0 : decode cX1_shareOf 0 = .ok (.aload_n 0, 1) := by decide +kernel
theorem dX1_shareOf_1 : decode cX1_shareOf 1 = .ok (.getfield 49, 3) := by decide +kernel
theorem dX1_shareOf_4 : decode cX1_shareOf 4 = .ok (.getfield 108, 3) := by decide +kernel
theorem dX1_shareOf_7 : decode cX1_shareOf 7 = .ok (.iload_n 2, 1) := by decide +kernel
theorem dX1_shareOf_8 : decode cX1_shareOf 8 = .ok (.iaload, 1) := by decide +kernel
theorem dX1_shareOf_9 : decode cX1_shareOf 9 = .ok (.istore 4, 2) := by decide +kernel
theorem dX1_shareOf_11 : decode cX1_shareOf 11 = .ok (.aload_n 0, 1) := by decide +kernel
theorem dX1_shareOf_12 : decode cX1_shareOf 12 = .ok (.getfield 81, 3) := by decide +kernel
theorem dX1_shareOf_15 : decode cX1_shareOf 15 = .ok (.ifCond .eq 22, 3) := by decide +kernel
theorem dX1_shareOf_18 : decode cX1_shareOf 18 = .ok (.aload_n 0, 1) := by decide +kernel
theorem dX1_shareOf_19 : decode cX1_shareOf 19 = .ok (.getfield 81, 3) := by decide +kernel
theorem dX1_shareOf_22 : decode cX1_shareOf 22 = .ok (.iconst 1, 1) := by decide +kernel
theorem dX1_shareOf_23 : decode cX1_shareOf 23 = .ok (.if_icmp .ne 21, 3) := by decide +kernel
theorem dX1_shareOf_26 : decode cX1_shareOf 26 = .ok (.aload_n 0, 1) := by decide +kernel
theorem dX1_shareOf_27 : decode cX1_shareOf 27 = .ok (.iload_n 1, 1) := by decide +kernel
theorem dX1_shareOf_28 : decode cX1_shareOf 28 = .ok (.iload 4, 2) := by decide +kernel
theorem dX1_shareOf_30 : decode cX1_shareOf 30 = .ok (.iload_n 3, 1) := by decide +kernel
theorem dX1_shareOf_31 : decode cX1_shareOf 31 = .ok (.invokevirtual 138, 3) := by decide +kernel
theorem dX1_shareOf_34 : decode cX1_shareOf 34 = .ok (.ifCond .eq 10, 3) := by decide +kernel
theorem dX1_shareOf_37 : decode cX1_shareOf 37 = .ok (.aload_n 0, 1) := by decide +kernel
theorem dX1_shareOf_38 : decode cX1_shareOf 38 = .ok (.getfield 17, 3) := by decide +kernel
theorem dX1_shareOf_41 : decode cX1_shareOf 41 = .ok (.iload_n 2, 1) := by decide +kernel
theorem dX1_shareOf_42 : decode cX1_shareOf 42 = .ok (.laload, 1) := by decide +kernel
theorem dX1_shareOf_43 : decode cX1_shareOf 43 = .ok (.lreturn, 1) := by decide +kernel
theorem dX1_shareOf_44 : decode cX1_shareOf 44 = .ok (.aload_n 0, 1) := by decide +kernel
theorem dX1_shareOf_45 : decode cX1_shareOf 45 = .ok (.getfield 49, 3) := by decide +kernel
theorem dX1_shareOf_48 : decode cX1_shareOf 48 = .ok (.getfield 108, 3) := by decide +kernel
theorem dX1_shareOf_51 : decode cX1_shareOf 51 = .ok (.iload_n 3, 1) := by decide +kernel
theorem dX1_shareOf_52 : decode cX1_shareOf 52 = .ok (.iaload, 1) := by decide +kernel
theorem dX1_shareOf_53 : decode cX1_shareOf 53 = .ok (.aload_n 0, 1) := by decide +kernel
theorem dX1_shareOf_54 : decode cX1_shareOf 54 = .ok (.getfield 49, 3) := by decide +kernel
theorem dX1_shareOf_57 : decode cX1_shareOf 57 = .ok (.getfield 108, 3) := by decide +kernel
theorem dX1_shareOf_60 : decode cX1_shareOf 60 = .ok (.iload_n 1, 1) := by decide +kernel
theorem dX1_shareOf_61 : decode cX1_shareOf 61 = .ok (.iaload, 1) := by decide +kernel
theorem dX1_shareOf_62 : decode cX1_shareOf 62 = .ok (.isub, 1) := by decide +kernel
theorem dX1_shareOf_63 : decode cX1_shareOf 63 = .ok (.istore 5, 2) := by decide +kernel
theorem dX1_shareOf_65 : decode cX1_shareOf 65 = .ok (.aload_n 0, 1) := by decide +kernel
theorem dX1_shareOf_66 : decode cX1_shareOf 66 = .ok (.getfield 81, 3) := by decide +kernel
theorem dX1_shareOf_69 : decode cX1_shareOf 69 = .ok (.iconst 1, 1) := by decide +kernel
theorem dX1_shareOf_70 : decode cX1_shareOf 70 = .ok (.if_icmp .eq 8, 3) := by decide +kernel
theorem dX1_shareOf_73 : decode cX1_shareOf 73 = .ok (.iload 5, 2) := by decide +kernel
theorem dX1_shareOf_75 : decode cX1_shareOf 75 = .ok (.ifCond .gt 5, 3) := by decide +kernel
theorem dX1_shareOf_78 : decode cX1_shareOf 78 = .ok (.lconst 0, 1) := by decide +kernel
theorem dX1_shareOf_79 : decode cX1_shareOf 79 = .ok (.lreturn, 1) := by decide +kernel
theorem dX1_shareOf_80 : decode cX1_shareOf 80 = .ok (.aload_n 0, 1) := by decide +kernel
theorem dX1_shareOf_81 : decode cX1_shareOf 81 = .ok (.getfield 17, 3) := by decide +kernel
theorem dX1_shareOf_84 : decode cX1_shareOf 84 = .ok (.iload_n 2, 1) := by decide +kernel
theorem dX1_shareOf_85 : decode cX1_shareOf 85 = .ok (.laload, 1) := by decide +kernel
theorem dX1_shareOf_86 : decode cX1_shareOf 86 = .ok (.aload_n 0, 1) := by decide +kernel
theorem dX1_shareOf_87 : decode cX1_shareOf 87 = .ok (.getfield 49, 3) := by decide +kernel
theorem dX1_shareOf_90 : decode cX1_shareOf 90 = .ok (.getfield 108, 3) := by decide +kernel
theorem dX1_shareOf_93 : decode cX1_shareOf 93 = .ok (.iload_n 3, 1) := by decide +kernel
theorem dX1_shareOf_94 : decode cX1_shareOf 94 = .ok (.iaload, 1) := by decide +kernel
theorem dX1_shareOf_95 : decode cX1_shareOf 95 = .ok (.iload 4, 2) := by decide +kernel
theorem dX1_shareOf_97 : decode cX1_shareOf 97 = .ok (.isub, 1) := by decide +kernel
theorem dX1_shareOf_98 : decode cX1_shareOf 98 = .ok (.i2l, 1) := by decide +kernel
theorem dX1_shareOf_99 : decode cX1_shareOf 99 = .ok (.lmul, 1) := by decide +kernel
theorem dX1_shareOf_100 : decode cX1_shareOf 100 = .ok (.iload 5, 2) := by decide +kernel
theorem dX1_shareOf_102 : decode cX1_shareOf 102 = .ok (.i2l, 1) := by decide +kernel
theorem dX1_shareOf_103 : decode cX1_shareOf 103 = .ok (.ldiv, 1) := by decide +kernel
theorem dX1_shareOf_104 : decode cX1_shareOf 104 = .ok (.lreturn, 1) := by decide +kernel
set_option maxHeartbeats 4000000 in
set_option maxRecDepth 100000 in
theorem X1_costInto (l : Launch) (κ : Kt) (σ0 : Gh) (this : Nat) (into : Nat) (x : Int32) (i : Int32) (y : Int32) (t_this : zk σ0 this 3) (t_into : zk σ0 into 1) (h0 : 0 ≤ x.toInt) (h1 : x.toInt ≤ 47) (h2 : 0 ≤ i.toInt) (h3 : i.toInt ≤ 47) (h4 : 0 ≤ y.toInt) (h5 : y.toInt ≤ 47) : TC l yX1_costInto cX1_costInto 5 none 4 114 [.ref this, .ref into, .int x, .int i, .int y] κ σ0 (tqv κ fW σ0 (fun (τ : Gh) => True)) := by
  refine TC.of fW (by decide +kernel) (Nat.le_of_ble_eq_true rfl) ?_
  intro p e s m below meth c ls hcs hK hX hT hl
  obtain ⟨hx, hb, hr, hml, hown, hg, hlocks, hin⟩ := hcs
  have hown : s.vm.findClass RX1 = some m.cls := hown
  have hl : lv_has ls 5 [(0, .ref this), (1, .ref into), (2, .int x), (3, .int i), (4, .int y)] := hl
  have hT0 := hT
  have n0 : (0 : Int32).toInt = 0 := by decide
  have n1 : (1 : Int32).toInt = 1 := by decide
  have jm1 : ((-1) : Int64).toInt = (-1) := by decide
  have x_lo := Int32.le_toInt x
  have x_hi := Int32.toInt_lt x
  have i_lo := Int32.le_toInt i
  have i_hi := Int32.toInt_lt i
  have y_lo := Int32.le_toInt y
  have y_hi := Int32.toInt_lt y
  generalize hQ9 : tQ _ _ _ _ _ _ = Q9
  refine lv_aload_n hx hb dX1_costInto_0 rfl (lv_at hl 0 rfl) ?_
  obtain ⟨v1, ev1⟩ : ∃ zz9 : Int32, zI σ0 this 7 = zz9 := ⟨_, rfl⟩
  have qv1 : v1.toInt = (zI σ0 this 7).toInt := by rw [ev1]
  refine va_get (D := κ.1) (ci := 1) (v := .int (zI σ0 this 7)) (C := RX1) (T := TX1) (N := 13) hx hb hg inX1 hown hK (hT.o3 (hT.k t_this (by decide))).one 0 rfl rfl 7 (by decide) (hg _ k291) (fun _ h9 => h9) rfl dX1_costInto_1 ?_
  rw [(hT.eI t_this (by decide) rfl ev1)]
  by_cases q2 : v1 = 0
  · have q2i := gi_eq q2
    refine lv_lookup (off := 28) (tgt := 32) hx hb dX1_costInto_4 (by decide) (by rw [q2]; decide) (by decide) ?_
    refine lv_aload_n hx hb dX1_costInto_32 rfl (lv_at hl 1 rfl) ?_
    refine lv_aload_n hx hb dX1_costInto_33 rfl (lv_at hl 0 rfl) ?_
    obtain ⟨r3, er3⟩ : ∃ z, kR κ this 0 = z := ⟨_, rfl⟩
    have tr3 : zk σ0 r3 4 := by rw [← er3]; exact hT0.ref t_this (by decide) (by decide) (by decide)
    refine va_get (D := κ.1) (ci := 1) (v := .ref (kR κ this 0)) (C := RX1) (T := TX1) (N := 13) hx hb hg inX1 hown hK (hT.o3 (hT.k t_this (by decide))).one 0 rfl rfl 0 (by decide) (hg _ k278) (fun _ h9 => h9) rfl dX1_costInto_34 ?_
    rw [er3]
    obtain ⟨r4, er4⟩ : ∃ z, kR κ r3 0 = z := ⟨_, rfl⟩
    have tr4 : zk σ0 r4 8 := by rw [← er4]; exact hT0.ref tr3 (by decide) (by decide) (by decide)
    refine va_get (D := κ.1) (ci := 0) (v := .ref (kR κ r3 0)) (C := RX0) (T := TX0) (N := 7) hx hb hg inX0 hown hK (hT.o4 (hT.k tr3 (by decide))).one 0 rfl rfl 0 (by decide) (hg _ k157) (fun _ h9 => h9) rfl dX1_costInto_37 ?_
    rw [er4]
    refine lv_iload hx hb dX1_costInto_40 (lv_at hl 4 rfl) ?_
    refine va_iald hx hb hK (hT.o8 (hT.k tr4 (by decide))).one 0 0 rfl rfl (g_in (by omega) (by omega)) dX1_costInto_42 ?_
    refine lv_topi (fun t5 ht5 => ?_)
    refine lv_aload_n hx hb dX1_costInto_43 rfl (lv_at hl 0 rfl) ?_
    refine va_get (D := κ.1) (ci := 1) (v := .ref (kR κ this 0)) (C := RX1) (T := TX1) (N := 13) hx hb hg inX1 hown hK (hT.o3 (hT.k t_this (by decide))).one 0 rfl rfl 0 (by decide) (hg _ k278) (fun _ h9 => h9) rfl dX1_costInto_44 ?_
    rw [er3]
    refine va_get (D := κ.1) (ci := 0) (v := .ref (kR κ r3 0)) (C := RX0) (T := TX0) (N := 7) hx hb hg inX0 hown hK (hT.o4 (hT.k tr3 (by decide))).one 0 rfl rfl 0 (by decide) (hg _ k157) (fun _ h9 => h9) rfl dX1_costInto_47 ?_
    rw [er4]
    refine lv_iload_n hx hb dX1_costInto_50 rfl (lv_at hl 2 rfl) ?_
    refine va_iald hx hb hK (hT.o8 (hT.k tr4 (by decide))).one 0 0 rfl rfl (g_in (by omega) (by omega)) dX1_costInto_51 ?_
    refine lv_topi (fun t6 ht6 => ?_)
    refine lv_isub hx hb dX1_costInto_52 ?_
    first | refine g_sub (by omega) (by omega) (fun t7 ht7 => ?_) | refine lv_topi (fun t7 ht7 => ?_)
    refine lv_i2l hx hb dX1_costInto_53 rfl ?_
    refine g_i2l (fun t8 ht8 => ?_)
    obtain ⟨h11, oh11, th11⟩ := hT.o1 (hT.k t_into (by decide))
    have hTo := hT
    refine tVv (n := 1) (As := [.long t8]) (rest := []) hx hb hml hown hg hT hK hX (X4_become l κ σ0 into t8  (hT.k t_into (by decide)) ) sub_fX_fW (mwV k274 k275 k276 k88 k277) ⟨rfl, by decide, by decide, by decide +kernel⟩ ⟨(Nat.le_of_ble_eq_true rfl), (Nat.le_of_ble_eq_true rfl)⟩ oh11 rfl rfl hl.1 rfl (Nat.le_of_ble_eq_true rfl) dX1_costInto_54 zroom.rf (fun s10 H locs hφ hEs10 hT => ?_)
    refine lv_goto (tgt := 106) hx hb dX1_costInto_57 (by decide) ?_
    subst hQ9
    exact t_v hx hb hr hlocks hT trivial dX1_costInto_106
  · have q2i := gi_ne q2
    by_cases q12 : v1 = 1
    · have q12i := gi_eq q12
      refine lv_lookup (off := 56) (tgt := 60) hx hb dX1_costInto_4 (by decide) (by rw [q12]; decide) (by decide) ?_
      refine lv_aload_n hx hb dX1_costInto_60 rfl (lv_at hl 1 rfl) ?_
      refine lv_iload_n hx hb dX1_costInto_61 rfl (lv_at hl 3 rfl) ?_
      have hTo := hT
      refine tTi (n := 1) (As := [.int i]) (rest := [.ref into]) hx hb hml hown hg hT hK hX (J_ntz l κ σ0 i   ) sub_fE_fW (mwI k541) ⟨by decide, by decide, by decide +kernel⟩ ⟨(Nat.le_of_ble_eq_true rfl), (Nat.le_of_ble_eq_true rfl)⟩ k102 k539 k540 rfl hl.1 rfl (Nat.le_of_ble_eq_true rfl) dX1_costInto_62 zroom.rf (fun x13 s14 H locs hφ hEs14 hT => ?_)
      refine lv_i2l hx hb dX1_costInto_65 rfl ?_
      refine g_i2l (fun t15 ht15 => ?_)
      obtain ⟨h18, oh18, th18⟩ := hT.o1 (hT.k t_into (by decide))
      have hTo := hT
      refine tVv (n := 1) (As := [.long t15]) (rest := []) hx hb hml hown hg hT hK hX (X4_become l κ s14 into t15  (hT.k t_into (by decide)) ) sub_fX_fW (mwV k274 k275 k276 k88 k277) ⟨rfl, by decide, by decide, by decide +kernel⟩ ⟨(Nat.le_of_ble_eq_true rfl), (Nat.le_of_ble_eq_true rfl)⟩ oh18 rfl rfl hl.1 rfl (Nat.le_of_ble_eq_true rfl) dX1_costInto_66 zroom.rf (fun s17 H locs hφ hEs17 hT => ?_)
      refine lv_goto (tgt := 106) hx hb dX1_costInto_69 (by decide) ?_
      subst hQ9
      exact t_v hx hb hr hlocks hT trivial dX1_costInto_106
    · have q12i := gi_ne q12
      refine lv_lookup (off := 68) (tgt := 72) hx hb dX1_costInto_4 (by decide) (by simp [Op.lookupswitch.offset] <;> omega) (by decide) ?_
      refine lv_aload_n hx hb dX1_costInto_72 rfl (lv_at hl 0 rfl) ?_
      refine lv_aload_n hx hb dX1_costInto_73 rfl (lv_at hl 1 rfl) ?_
      refine lv_aload_n hx hb dX1_costInto_74 rfl (lv_at hl 0 rfl) ?_
      obtain ⟨v19, ev19⟩ : ∃ zz9 : Int32, zI σ0 this 8 = zz9 := ⟨_, rfl⟩
      have qv19 : v19.toInt = (zI σ0 this 8).toInt := by rw [ev19]
      refine va_get (D := κ.1) (ci := 1) (v := .int (zI σ0 this 8)) (C := RX1) (T := TX1) (N := 13) hx hb hg inX1 hown hK (hT.o3 (hT.k t_this (by decide))).one 0 rfl rfl 8 (by decide) (hg _ k293) (fun _ h9 => h9) rfl dX1_costInto_75 ?_
      rw [(hT.eI t_this (by decide) rfl ev19)]
      refine lv_iload_n hx hb dX1_costInto_78 rfl (lv_at hl 2 rfl) ?_
      refine lv_aload_n hx hb dX1_costInto_79 rfl (lv_at hl 0 rfl) ?_
      obtain ⟨r20, er20⟩ : ∃ z, kR κ this 0 = z := ⟨_, rfl⟩
      have tr20 : zk σ0 r20 4 := by rw [← er20]; exact hT0.ref t_this (by decide) (by decide) (by decide)
      refine va_get (D := κ.1) (ci := 1) (v := .ref (kR κ this 0)) (C := RX1) (T := TX1) (N := 13) hx hb hg inX1 hown hK (hT.o3 (hT.k t_this (by decide))).one 0 rfl rfl 0 (by decide) (hg _ k278) (fun _ h9 => h9) rfl dX1_costInto_80 ?_
      rw [er20]
      obtain ⟨r21, er21⟩ : ∃ z, kR κ r20 0 = z := ⟨_, rfl⟩
      have tr21 : zk σ0 r21 8 := by rw [← er21]; exact hT0.ref tr20 (by decide) (by decide) (by decide)
      refine va_get (D := κ.1) (ci := 0) (v := .ref (kR κ r20 0)) (C := RX0) (T := TX0) (N := 7) hx hb hg inX0 hown hK (hT.o4 (hT.k tr20 (by decide))).one 0 rfl rfl 0 (by decide) (hg _ k157) (fun _ h9 => h9) rfl dX1_costInto_83 ?_
      rw [er21]
      refine lv_iload_n hx hb dX1_costInto_86 rfl (lv_at hl 3 rfl) ?_
      refine va_iald hx hb hK (hT.o8 (hT.k tr21 (by decide))).one 0 0 rfl rfl (g_in (by omega) (by omega)) dX1_costInto_87 ?_
      refine lv_topi (fun t22 ht22 => ?_)
      refine lv_iload hx hb dX1_costInto_88 (lv_at hl 4 rfl) ?_
      have hTo := hT
      refine tVv (n := 5) (As := [.ref into, .int v19, .int x, .int t22, .int y]) (rest := []) hx hb hml hown hg hT hK hX (X1_predictInto l κ σ0 this into v19 x t22 y  (hT.k t_this (by decide)) (hT.k t_into (by decide)) (by omega) (by omega) (by omega) (by omega)) (fun _ _ h => h) (mwV k542 k544 k10 k87 k545) ⟨rfl, by decide, by decide, by decide +kernel⟩ ⟨(Nat.le_of_ble_eq_true rfl), (Nat.le_of_ble_eq_true rfl)⟩ (hT.o3 (hT.k t_this (by decide))) rfl rfl hl.1 rfl (Nat.le_of_ble_eq_true rfl) dX1_costInto_90 zroom.rf (fun s24 H locs hφ hEs24 hT => ?_)
      refine lv_aload_n hx hb dX1_costInto_93 rfl (lv_at hl 1 rfl) ?_
      refine lv_aload_n hx hb dX1_costInto_94 rfl (lv_at hl 0 rfl) ?_
      obtain ⟨r25, er25⟩ : ∃ z, kR κ this 1 = z := ⟨_, rfl⟩
      have tr25 : zk σ0 r25 10 := by rw [← er25]; exact hT0.ref t_this (by decide) (by decide) (by decide)
      refine va_get (D := κ.1) (ci := 1) (v := .ref (kR κ this 1)) (C := RX1) (T := TX1) (N := 13) hx hb hg inX1 hown hK (hT.o3 (hT.k t_this (by decide))).one 0 rfl rfl 1 (by decide) (hg _ k279) (fun _ h9 => h9) rfl dX1_costInto_95 ?_
      rw [er25]
      refine lv_iload_n hx hb dX1_costInto_98 rfl (lv_at hl 3 rfl) ?_
      refine va_aldq hx hb hK (hT.o10 (hT.k tr25 (by decide))).one 0 4 rfl rfl (g_in (by omega) (by omega)) dX1_costInto_99 ?_
      obtain ⟨r27, er27⟩ : ∃ z, kR κ r25 (ix i) = z := ⟨_, rfl⟩
      have tr27 : zk σ0 r27 1 := by rw [← er27]; exact hT0.ref tr25 (by decide) (zR10 (ix_lt (by omega) (by omega))) (by decide)
      refine tv (.ref r27) (by rw [← er27]; rfl) ?_
      refine lv_ldc2 hx hb hown (hg _ k550) dX1_costInto_100 ?_
      obtain ⟨h30, oh30, th30⟩ := hT.o1 (hT.k t_into (by decide))
      have hTo := hT
      refine tVv (n := 2) (As := [.ref r27, .long (-1)]) (rest := []) hx hb hml hown hg hT hK hX (X4_add l κ s24 into r27 (-1)  (hT.k t_into (by decide)) (hT.k tr27 (by decide)) ) (fun _ _ h => h) (mwV k340 k341 k342 k88 k343) ⟨rfl, by decide, by decide, by decide +kernel⟩ ⟨(Nat.le_of_ble_eq_true rfl), (Nat.le_of_ble_eq_true rfl)⟩ oh30 rfl rfl hl.1 rfl (Nat.le_of_ble_eq_true rfl) dX1_costInto_103 zroom.rf (fun s29 H locs hφ hEs29 hT => ?_)
      subst hQ9
      exact t_v hx hb hr hlocks hT trivial dX1_costInto_106
set_option maxHeartbeats 4000000 in
set_option maxRecDepth 100000 in
theorem X1_chosenSample (l : Launch) (κ : Kt) (σ0 : Gh) (this : Nat) (t_this : zk σ0 this 3) : TC l yX1_chosenSample cX1_chosenSample 7 (some .int) 5 138 [.ref this] κ σ0 (tqi κ fW σ0 (fun (r : Int32) (τ : Gh) => (-1 ≤ r.toInt) ∧ (r.toInt ≤ 47))) := by
  refine TC.of fW (by decide +kernel) (Nat.le_of_ble_eq_true rfl) ?_
  intro p e s m below meth c ls hcs hK hX hT hl
  obtain ⟨hx, hb, hr, hml, hown, hg, hlocks, hin⟩ := hcs
  have hown : s.vm.findClass RX1 = some m.cls := hown
  have hl : lv_has ls 7 [(0, .ref this)] := hl
  have hT0 := hT
  have nm1 : ((-1) : Int32).toInt = (-1) := by decide
  have n0 : (0 : Int32).toInt = 0 := by decide
  generalize hQ9 : tQ _ _ _ _ _ _ = Q9
  obtain ⟨src, esrc⟩ : ∃ z, kR κ this 0 = z := ⟨_, rfl⟩
  have tsrc : zk σ0 src 4 := by rw [← esrc]; exact hT0.ref t_this (by decide) (by decide) (by decide)
  have bsrc := (hT0.P tsrc (by decide)).1
  have bsrcl := bsrc.1
  have bsrch := bsrc.2
  refine lv_aload_n hx hb dX1_chosenSample_0 rfl (lv_at hl 0 rfl) ?_
  have hTo := hT
  refine tVi (n := 0) (As := []) (rest := []) hx hb hml hown hg hT hK hX (X1_presentCount l κ σ0 this  (hT.k t_this (by decide)) ) sub_fE_fW (mwV k534 k489 k490 k87 k491) ⟨rfl, by decide, by decide, by decide +kernel⟩ ⟨(Nat.le_of_ble_eq_true rfl), (Nat.le_of_ble_eq_true rfl)⟩ (hT.o3 (hT.k t_this (by decide))) rfl rfl hl.1 rfl (Nat.le_of_ble_eq_true rfl) dX1_chosenSample_1 zroom.rf (fun x1 s2 H locs hφ hEs2 hT => ?_)
  refine lv_aload_n hx hb dX1_chosenSample_4 rfl (lv_at hl 0 rfl) ?_
  refine va_get (D := κ.1) (ci := 1) (v := .ref (kR κ this 0)) (C := RX1) (T := TX1) (N := 13) hx hb hg inX1 hown hK (hT.o3 (hT.k t_this (by decide))).one 0 rfl rfl 0 (by decide) (hg _ k278) (fun _ h9 => h9) rfl dX1_chosenSample_5 ?_
  rw [esrc]
  obtain ⟨v3, ev3⟩ : ∃ zz9 : Int32, zI σ0 src 6 = zz9 := ⟨_, rfl⟩
  have qv3 : v3.toInt = (zI σ0 src 6).toInt := by rw [ev3]
  refine va_get (D := κ.1) (ci := 0) (v := .int (zI s2 src 6)) (C := RX0) (T := TX0) (N := 7) hx hb hg inX0 hown hK (hT.o4 (hT.k tsrc (by decide))).one 0 rfl rfl 6 (by decide) (hg _ k177) (fun _ h9 => h9) rfl dX1_chosenSample_8 ?_
  rw [(hT.eI tsrc (by decide) rfl ev3)]
  refine lv_icmp_gt (tgt := 16) hx hb dX1_chosenSample_11 (by decide) (fun c9 => ?_) (fun c9 => ?_)
  · have c1 := gi_lt c9
    refine lv_aload_n hx hb dX1_chosenSample_16 rfl (lv_at hl 0 rfl) ?_
    obtain ⟨r4, er4⟩ : ∃ z, kR κ this 11 = z := ⟨_, rfl⟩
    have tr4 : zk σ0 r4 1 := by rw [← er4]; exact hT0.ref t_this (by decide) (by decide) (by decide)
    refine va_get (D := κ.1) (ci := 1) (v := .ref (kR κ this 11)) (C := RX1) (T := TX1) (N := 13) hx hb hg inX1 hown hK (hT.o3 (hT.k t_this (by decide))).one 0 rfl rfl 11 (by decide) (hg _ k298) (fun _ h9 => h9) rfl dX1_chosenSample_17 ?_
    rw [er4]
    refine lv_astore_n (lv' := [(1, .ref r4), (0, .ref this)]) hx hb dX1_chosenSample_20 rfl hl (by decide) rfl (fun ls hl => ?_)
    refine lv_aload_n hx hb dX1_chosenSample_21 rfl (lv_at hl 1 rfl) ?_
    obtain ⟨r5, er5⟩ : ∃ z, kR κ this 12 = z := ⟨_, rfl⟩
    have tr5 : zk σ0 r5 1 := by rw [← er5]; exact hT0.ref t_this (by decide) (by decide) (by decide)
    refine va_get (D := κ.1) (ci := 1) (v := .ref (kR κ this 12)) (C := RX1) (T := TX1) (N := 13) hx hb hg inX1 hown hK (hT.o3 (hT.k t_this (by decide))).one 0 rfl rfl 12 (by decide) (hg _ k299) (fun _ h9 => h9) rfl dX1_chosenSample_22 ?_
    rw [er5]
    refine lv_astore_n (lv' := [(2, .ref r5), (1, .ref r4), (0, .ref this)]) hx hb dX1_chosenSample_25 rfl hl (by decide) rfl (fun ls hl => ?_)
    refine lv_iconst (v := (-1)) hx hb dX1_chosenSample_26 (by decide) ?_
    refine lv_istore_n (lv' := [(3, .int (-1)), (2, .ref r5), (1, .ref r4), (0, .ref this)]) hx hb dX1_chosenSample_27 rfl hl (by decide) rfl (fun ls hl => ?_)
    refine lv_iconst (v := (-1)) hx hb dX1_chosenSample_28 (by decide) ?_
    refine lv_istore (lv' := [(4, .int (-1)), (3, .int (-1)), (2, .ref r5), (1, .ref r4), (0, .ref this)]) hx hb dX1_chosenSample_29 hl (by decide) rfl (fun ls hl => ?_)
    refine lv_iconst (v := (-1)) hx hb dX1_chosenSample_31 (by decide) ?_
    refine lv_istore (lv' := [(5, .int (-1)), (4, .int (-1)), (3, .int (-1)), (2, .ref r5), (1, .ref r4), (0, .ref this)]) hx hb dX1_chosenSample_32 hl (by decide) rfl (fun ls hl => ?_)
    refine lv_iconst (v := 0) hx hb dX1_chosenSample_34 (by decide) ?_
    refine lv_istore (lv' := [(6, .int 0), (5, .int (-1)), (4, .int (-1)), (3, .int (-1)), (2, .ref r5), (1, .ref r4), (0, .ref this)]) hx hb dX1_chosenSample_35 hl (by decide) rfl (fun ls hl => ?_)
    have loop37 : ∀ (n9 : Nat) (i : Int32) (bs : Int32) (lf : Int32) (md : Int32) (H : Heap) (locs : List Loc) (sg : Gh) (ls : Array Slot), TS κ fW σ0 sg s H locs → (0 ≤ i.toInt) → (i.toInt ≤ (zI σ0 src 2).toInt) → (-1 ≤ bs.toInt) → (bs.toInt ≤ 47) → (-1 ≤ lf.toInt) → (lf.toInt ≤ 47) → (-1 ≤ md.toInt) → (md.toInt ≤ 47) → (lf.toInt = -1 ∨ 0 ≤ md.toInt) → lv_has ls 7 [(6, .int i), (3, .int bs), (4, .int lf), (5, .int md), (2, .ref r5), (1, .ref r4), (0, .ref this)] → ((zI σ0 src 2).toInt - i.toInt) < n9 → tW p l e 5 138 κ s m #[.ref this] below meth c H locs Q9 (F0 m 37 ls []) := by
      intro n9
      induction n9 with
      | zero =>
        intro i bs lf md H locs sg ls hT q1 q2 q3 q4 q5 q6 q7 q8 q9 hl hm9
        exfalso
        omega
      | succ n9 ih9 =>
        have ih37 := ih9
        clear ih9
        intro i bs lf md H locs s6 ls hT q1 q2 q3 q4 q5 q6 q7 q8 q9 hl hm9
        refine lv_iload hx hb dX1_chosenSample_37 (lv_at hl 0 rfl) ?_
        refine lv_aload_n hx hb dX1_chosenSample_39 rfl (lv_at hl 6 rfl) ?_
        refine va_get (D := κ.1) (ci := 1) (v := .ref (kR κ this 0)) (C := RX1) (T := TX1) (N := 13) hx hb hg inX1 hown hK (hT.o3 (hT.k t_this (by decide))).one 0 rfl rfl 0 (by decide) (hg _ k278) (fun _ h9 => h9) rfl dX1_chosenSample_40 ?_
        rw [esrc]
        obtain ⟨v7, ev7⟩ : ∃ zz9 : Int32, zI σ0 src 2 = zz9 := ⟨_, rfl⟩
        have qv7 : v7.toInt = (zI σ0 src 2).toInt := by rw [ev7]
        have b8 := (hT.P (hT.k tsrc (by decide)) (by decide)).1
        rw [(hT.eI tsrc (by decide) rfl ev7)] at b8
        have b8l := b8.1
        have b8h := b8.2
        refine va_get (D := κ.1) (ci := 0) (v := .int (zI s6 src 2)) (C := RX0) (T := TX0) (N := 7) hx hb hg inX0 hown hK (hT.o4 (hT.k tsrc (by decide))).one 0 rfl rfl 2 (by decide) (hg _ k162) (fun _ h9 => h9) rfl dX1_chosenSample_43 ?_
        rw [(hT.eI tsrc (by decide) rfl ev7)]
        refine lv_icmp_ge (tgt := 113) hx hb dX1_chosenSample_46 (by decide) (fun c9 => ?_) (fun c9 => ?_)
        · have c2 := gi_le c9
          refine lv_iload_n hx hb dX1_chosenSample_113 rfl (lv_at hl 1 rfl) ?_
          subst hQ9
          exact t_i hx hb hr hlocks hT ⟨by omega, by omega⟩ dX1_chosenSample_114
        · have c3 := gi_nle c9
          refine lv_aload_n hx hb dX1_chosenSample_49 rfl (lv_at hl 6 rfl) ?_
          refine lv_iload hx hb dX1_chosenSample_50 (lv_at hl 0 rfl) ?_
          have hTo := hT
          refine tVi (n := 1) (As := [.int i]) (rest := []) hx hb hml hown hg hT hK hX (X1_isPresent l κ s6 this i  (hT.k t_this (by decide)) (by omega) (by omega)) sub_fE_fW (mwV k459 k460 k461 k87 k462) ⟨rfl, by decide, by decide, by decide +kernel⟩ ⟨(Nat.le_of_ble_eq_true rfl), (Nat.le_of_ble_eq_true rfl)⟩ (hT.o3 (hT.k t_this (by decide))) rfl rfl hl.1 rfl (Nat.le_of_ble_eq_true rfl) dX1_chosenSample_52 zroom.rf (fun x9 s10 H locs hφ hEs10 hT => ?_)
          have f11 := hφ
          refine lv_if_ne (tgt := 61) hx hb dX1_chosenSample_55 (by decide) (fun c9 => ?_) (fun c9 => ?_)
          · have c4 := gi_ne c9
            refine lv_iload hx hb dX1_chosenSample_61 (lv_at hl 2 rfl) ?_
            refine lv_iconst (v := (-1)) hx hb dX1_chosenSample_63 (by decide) ?_
            refine lv_icmp_eq (tgt := 99) hx hb dX1_chosenSample_64 (by decide) (fun c9 => ?_) (fun c9 => ?_)
            · have c5 := gi_eq c9
              refine lv_iload hx hb dX1_chosenSample_99 (lv_at hl 3 rfl) ?_
              refine lv_istore (lv' := [(4, .int md), (6, .int i), (3, .int bs), (5, .int md), (2, .ref r5), (1, .ref r4), (0, .ref this)]) hx hb dX1_chosenSample_101 hl (by decide) rfl (fun ls hl => ?_)
              refine lv_iload hx hb dX1_chosenSample_103 (lv_at hl 1 rfl) ?_
              refine lv_istore (lv' := [(5, .int i), (4, .int md), (6, .int i), (3, .int bs), (2, .ref r5), (1, .ref r4), (0, .ref this)]) hx hb dX1_chosenSample_105 hl (by decide) rfl (fun ls hl => ?_)
              obtain ⟨t12, qt12⟩ : ∃ zz9 : Int32, i + Int32.ofInt 1 = zz9 := ⟨_, rfl⟩
              refine lv_iinc (v := t12) (lv' := [(6, .int t12), (5, .int i), (4, .int md), (3, .int bs), (2, .ref r5), (1, .ref r4), (0, .ref this)]) hx hb dX1_chosenSample_107 hl (k := 2) rfl qt12 (by decide) rfl (fun ls hl => ?_)
              have ht12 : t12.toInt = i.toInt + 1 := by rw [← qt12]; exact v_addi rfl (show (Int32.ofInt 1).toInt = 1 from by decide) (by omega) (by omega)
              refine lv_goto (tgt := 37) hx hb dX1_chosenSample_110 (by decide) ?_
              exact ih37 t12 bs md i _ _ _ _ hT  (by omega) (by omega) (by omega) (by omega) (by omega) (by omega) (by omega) (by omega) (by omega) (lv_sub hl [0, 3, 2, 1, 4, 5, 6] rfl) (by omega)
            · have c6 := gi_ne c9
              refine lv_aload_n hx hb dX1_chosenSample_67 rfl (lv_at hl 6 rfl) ?_
              refine lv_aload_n hx hb dX1_chosenSample_68 rfl (lv_at hl 5 rfl) ?_
              refine lv_iload hx hb dX1_chosenSample_69 (lv_at hl 2 rfl) ?_
              refine lv_iload hx hb dX1_chosenSample_71 (lv_at hl 3 rfl) ?_
              refine lv_iload hx hb dX1_chosenSample_73 (lv_at hl 0 rfl) ?_
              have hTo := hT
              refine tVv (n := 4) (As := [.ref r4, .int lf, .int md, .int i]) (rest := []) hx hb hml hown hg hT hK hX (X1_costInto l κ s10 this r4 lf md i  (hT.k t_this (by decide)) (hT.k tr4 (by decide)) (by omega) (by omega) (by omega) (by omega) (by omega) (by omega)) (fun _ _ h => h) (mwV k535 k537 k9 k87 k538) ⟨rfl, by decide, by decide, by decide +kernel⟩ ⟨(Nat.le_of_ble_eq_true rfl), (Nat.le_of_ble_eq_true rfl)⟩ (hT.o3 (hT.k t_this (by decide))) rfl rfl hl.1 rfl (Nat.le_of_ble_eq_true rfl) dX1_chosenSample_75 zroom.rf (fun s14 H locs hφ hEs14 hT => ?_)
              refine lv_iload_n hx hb dX1_chosenSample_78 rfl (lv_at hl 1 rfl) ?_
              refine lv_iconst (v := (-1)) hx hb dX1_chosenSample_79 (by decide) ?_
              refine lv_icmp_eq (tgt := 91) hx hb dX1_chosenSample_80 (by decide) (fun c9 => ?_) (fun c9 => ?_)
              · have c7 := gi_eq c9
                refine lv_iload hx hb dX1_chosenSample_91 (lv_at hl 3 rfl) ?_
                refine lv_istore_n (lv' := [(3, .int md), (6, .int i), (4, .int lf), (5, .int md), (2, .ref r5), (1, .ref r4), (0, .ref this)]) hx hb dX1_chosenSample_93 rfl hl (by decide) rfl (fun ls hl => ?_)
                refine lv_aload_n hx hb dX1_chosenSample_94 rfl (lv_at hl 4 rfl) ?_
                refine lv_aload_n hx hb dX1_chosenSample_95 rfl (lv_at hl 5 rfl) ?_
                obtain ⟨h17, oh17, th17⟩ := hT.o1 (hT.k tr5 (by decide))
                have hTo := hT
                refine tVv (n := 1) (As := [.ref r4]) (rest := []) hx hb hml hown hg hT hK hX (X4_copyFrom l κ s14 r5 r4  (hT.k tr5 (by decide)) (hT.k tr4 (by decide)) ) (fun _ _ h => h) (mwV k455 k456 k457 k88 k458) ⟨rfl, by decide, by decide, by decide +kernel⟩ ⟨(Nat.le_of_ble_eq_true rfl), (Nat.le_of_ble_eq_true rfl)⟩ oh17 rfl rfl hl.1 rfl (Nat.le_of_ble_eq_true rfl) dX1_chosenSample_96 zroom.rf (fun s16 H locs hφ hEs16 hT => ?_)
                refine lv_iload hx hb dX1_chosenSample_99 (lv_at hl 3 rfl) ?_
                refine lv_istore (lv' := [(4, .int md), (3, .int md), (6, .int i), (5, .int md), (2, .ref r5), (1, .ref r4), (0, .ref this)]) hx hb dX1_chosenSample_101 hl (by decide) rfl (fun ls hl => ?_)
                refine lv_iload hx hb dX1_chosenSample_103 (lv_at hl 2 rfl) ?_
                refine lv_istore (lv' := [(5, .int i), (4, .int md), (3, .int md), (6, .int i), (2, .ref r5), (1, .ref r4), (0, .ref this)]) hx hb dX1_chosenSample_105 hl (by decide) rfl (fun ls hl => ?_)
                obtain ⟨t18, qt18⟩ : ∃ zz9 : Int32, i + Int32.ofInt 1 = zz9 := ⟨_, rfl⟩
                refine lv_iinc (v := t18) (lv' := [(6, .int t18), (5, .int i), (4, .int md), (3, .int md), (2, .ref r5), (1, .ref r4), (0, .ref this)]) hx hb dX1_chosenSample_107 hl (k := 3) rfl qt18 (by decide) rfl (fun ls hl => ?_)
                have ht18 : t18.toInt = i.toInt + 1 := by rw [← qt18]; exact v_addi rfl (show (Int32.ofInt 1).toInt = 1 from by decide) (by omega) (by omega)
                refine lv_goto (tgt := 37) hx hb dX1_chosenSample_110 (by decide) ?_
                exact ih37 t18 md md i _ _ _ _ hT  (by omega) (by omega) (by omega) (by omega) (by omega) (by omega) (by omega) (by omega) (by omega) (lv_sub hl [0, 3, 2, 1, 4, 5, 6] rfl) (by omega)
              · have c8 := gi_ne c9
                refine lv_aload_n hx hb dX1_chosenSample_83 rfl (lv_at hl 5 rfl) ?_
                refine lv_aload_n hx hb dX1_chosenSample_84 rfl (lv_at hl 4 rfl) ?_
                obtain ⟨h21, oh21, th21⟩ := hT.o1 (hT.k tr4 (by decide))
                have hTo := hT
                refine tVi (n := 1) (As := [.ref r5]) (rest := []) hx hb hml hown hg hT hK hX (X4_compareAmount l κ s14 r4 r5  (hT.k tr4 (by decide)) (hT.k tr5 (by decide)) ) sub_fE_fW (mwV k566 k567 k568 k88 k569) ⟨rfl, by decide, by decide, by decide +kernel⟩ ⟨(Nat.le_of_ble_eq_true rfl), (Nat.le_of_ble_eq_true rfl)⟩ oh21 rfl rfl hl.1 rfl (Nat.le_of_ble_eq_true rfl) dX1_chosenSample_85 zroom.rf (fun x19 s20 H locs hφ hEs20 hT => ?_)
                refine lv_if_ge (tgt := 99) hx hb dX1_chosenSample_88 (by decide) (fun c9 => ?_) (fun c9 => ?_)
                · have c9 := gi_le c9
                  refine lv_iload hx hb dX1_chosenSample_99 (lv_at hl 3 rfl) ?_
                  refine lv_istore (lv' := [(4, .int md), (6, .int i), (3, .int bs), (5, .int md), (2, .ref r5), (1, .ref r4), (0, .ref this)]) hx hb dX1_chosenSample_101 hl (by decide) rfl (fun ls hl => ?_)
                  refine lv_iload hx hb dX1_chosenSample_103 (lv_at hl 1 rfl) ?_
                  refine lv_istore (lv' := [(5, .int i), (4, .int md), (6, .int i), (3, .int bs), (2, .ref r5), (1, .ref r4), (0, .ref this)]) hx hb dX1_chosenSample_105 hl (by decide) rfl (fun ls hl => ?_)
                  obtain ⟨t22, qt22⟩ : ∃ zz9 : Int32, i + Int32.ofInt 1 = zz9 := ⟨_, rfl⟩
                  refine lv_iinc (v := t22) (lv' := [(6, .int t22), (5, .int i), (4, .int md), (3, .int bs), (2, .ref r5), (1, .ref r4), (0, .ref this)]) hx hb dX1_chosenSample_107 hl (k := 2) rfl qt22 (by decide) rfl (fun ls hl => ?_)
                  have ht22 : t22.toInt = i.toInt + 1 := by rw [← qt22]; exact v_addi rfl (show (Int32.ofInt 1).toInt = 1 from by decide) (by omega) (by omega)
                  refine lv_goto (tgt := 37) hx hb dX1_chosenSample_110 (by decide) ?_
                  exact ih37 t22 bs md i _ _ _ _ hT  (by omega) (by omega) (by omega) (by omega) (by omega) (by omega) (by omega) (by omega) (by omega) (lv_sub hl [0, 3, 2, 1, 4, 5, 6] rfl) (by omega)
                · have c10 := gi_nle c9
                  refine lv_iload hx hb dX1_chosenSample_91 (lv_at hl 3 rfl) ?_
                  refine lv_istore_n (lv' := [(3, .int md), (6, .int i), (4, .int lf), (5, .int md), (2, .ref r5), (1, .ref r4), (0, .ref this)]) hx hb dX1_chosenSample_93 rfl hl (by decide) rfl (fun ls hl => ?_)
                  refine lv_aload_n hx hb dX1_chosenSample_94 rfl (lv_at hl 4 rfl) ?_
                  refine lv_aload_n hx hb dX1_chosenSample_95 rfl (lv_at hl 5 rfl) ?_
                  obtain ⟨h25, oh25, th25⟩ := hT.o1 (hT.k tr5 (by decide))
                  have hTo := hT
                  refine tVv (n := 1) (As := [.ref r4]) (rest := []) hx hb hml hown hg hT hK hX (X4_copyFrom l κ s20 r5 r4  (hT.k tr5 (by decide)) (hT.k tr4 (by decide)) ) (fun _ _ h => h) (mwV k455 k456 k457 k88 k458) ⟨rfl, by decide, by decide, by decide +kernel⟩ ⟨(Nat.le_of_ble_eq_true rfl), (Nat.le_of_ble_eq_true rfl)⟩ oh25 rfl rfl hl.1 rfl (Nat.le_of_ble_eq_true rfl) dX1_chosenSample_96 zroom.rf (fun s24 H locs hφ hEs24 hT => ?_)
                  refine lv_iload hx hb dX1_chosenSample_99 (lv_at hl 3 rfl) ?_
                  refine lv_istore (lv' := [(4, .int md), (3, .int md), (6, .int i), (5, .int md), (2, .ref r5), (1, .ref r4), (0, .ref this)]) hx hb dX1_chosenSample_101 hl (by decide) rfl (fun ls hl => ?_)
                  refine lv_iload hx hb dX1_chosenSample_103 (lv_at hl 2 rfl) ?_
                  refine lv_istore (lv' := [(5, .int i), (4, .int md), (3, .int md), (6, .int i), (2, .ref r5), (1, .ref r4), (0, .ref this)]) hx hb dX1_chosenSample_105 hl (by decide) rfl (fun ls hl => ?_)
                  obtain ⟨t26, qt26⟩ : ∃ zz9 : Int32, i + Int32.ofInt 1 = zz9 := ⟨_, rfl⟩
                  refine lv_iinc (v := t26) (lv' := [(6, .int t26), (5, .int i), (4, .int md), (3, .int md), (2, .ref r5), (1, .ref r4), (0, .ref this)]) hx hb dX1_chosenSample_107 hl (k := 3) rfl qt26 (by decide) rfl (fun ls hl => ?_)
                  have ht26 : t26.toInt = i.toInt + 1 := by rw [← qt26]; exact v_addi rfl (show (Int32.ofInt 1).toInt = 1 from by decide) (by omega) (by omega)
                  refine lv_goto (tgt := 37) hx hb dX1_chosenSample_110 (by decide) ?_
                  exact ih37 t26 md md i _ _ _ _ hT  (by omega) (by omega) (by omega) (by omega) (by omega) (by omega) (by omega) (by omega) (by omega) (lv_sub hl [0, 3, 2, 1, 4, 5, 6] rfl) (by omega)
          · have c11 := gi_eq c9
            refine lv_goto (tgt := 107) hx hb dX1_chosenSample_58 (by decide) ?_
            obtain ⟨t27, qt27⟩ : ∃ zz9 : Int32, i + Int32.ofInt 1 = zz9 := ⟨_, rfl⟩
            refine lv_iinc (v := t27) (lv' := [(6, .int t27), (3, .int bs), (4, .int lf), (5, .int md), (2, .ref r5), (1, .ref r4), (0, .ref this)]) hx hb dX1_chosenSample_107 hl (k := 0) rfl qt27 (by decide) rfl (fun ls hl => ?_)
            have ht27 : t27.toInt = i.toInt + 1 := by rw [← qt27]; exact v_addi rfl (show (Int32.ofInt 1).toInt = 1 from by decide) (by omega) (by omega)
            refine lv_goto (tgt := 37) hx hb dX1_chosenSample_110 (by decide) ?_
            exact ih37 t27 bs lf md _ _ _ _ hT  (by omega) (by omega) (by omega) (by omega) (by omega) (by omega) (by omega) (by omega) (by omega) hl (by omega)
    exact loop37 (((zI σ0 src 2).toInt - (0 : Int32).toInt).toNat + 1) 0 (-1) (-1) (-1) _ _ _ _ hT  (by omega) (by omega) (by omega) (by omega) (by omega) (by omega) (by omega) (by omega) (by omega) (lv_sub hl [0, 3, 2, 1, 4, 5, 6] rfl) (by omega)
  · have c12 := gi_nlt c9
    refine lv_iconst (v := (-1)) hx hb dX1_chosenSample_14 (by decide) ?_
    subst hQ9
    exact t_i hx hb hr hlocks hT ⟨by omega, by omega⟩ dX1_chosenSample_15
set_option maxHeartbeats 4000000 in
set_option maxRecDepth 100000 in
theorem X1_shareOf (l : Launch) (κ : Kt) (σ0 : Gh) (this : Nat) (x : Int32) (i : Int32) (y : Int32) (t_this : zk σ0 this 3) (h0 : 0 ≤ x.toInt) (h1 : x.toInt ≤ 47) (h2 : 0 ≤ i.toInt) (h3 : i.toInt ≤ 47) (h4 : 0 ≤ y.toInt) (h5 : y.toInt ≤ 47) : TC l yX1_shareOf cX1_shareOf 6 (some .long) 1 23 [.ref this, .int x, .int i, .int y] κ σ0 (tql κ fE σ0 (fun (r : Int64) (τ : Gh) => True)) := by
  refine TC.of fE (by decide +kernel) (Nat.le_of_ble_eq_true rfl) ?_
  intro p e s m below meth c ls hcs hK hX hT hl
  obtain ⟨hx, hb, hr, hml, hown, hg, hlocks, hin⟩ := hcs
  have hown : s.vm.findClass RX1 = some m.cls := hown
  have hl : lv_has ls 6 [(0, .ref this), (1, .int x), (2, .int i), (3, .int y)] := hl
  have hT0 := hT
  have n0 : (0 : Int32).toInt = 0 := by decide
  have n1 : (1 : Int32).toInt = 1 := by decide
  have j0 : (0 : Int64).toInt = 0 := by decide
  have x_lo := Int32.le_toInt x
  have x_hi := Int32.toInt_lt x
  have i_lo := Int32.le_toInt i
  have i_hi := Int32.toInt_lt i
  have y_lo := Int32.le_toInt y
  have y_hi := Int32.toInt_lt y
  generalize hQ9 : tQ _ _ _ _ _ _ = Q9
  refine lv_aload_n hx hb dX1_shareOf_0 rfl (lv_at hl 0 rfl) ?_
  obtain ⟨r1, er1⟩ : ∃ z, kR κ this 0 = z := ⟨_, rfl⟩
  have tr1 : zk σ0 r1 4 := by rw [← er1]; exact hT0.ref t_this (by decide) (by decide) (by decide)
  refine va_get (D := κ.1) (ci := 1) (v := .ref (kR κ this 0)) (C := RX1) (T := TX1) (N := 13) hx hb hg inX1 hown hK (hT.o3 (hT.k t_this (by decide))).one 0 rfl rfl 0 (by decide) (hg _ k278) (fun _ h9 => h9) rfl dX1_shareOf_1 ?_
  rw [er1]
  obtain ⟨r2, er2⟩ : ∃ z, kR κ r1 0 = z := ⟨_, rfl⟩
  have tr2 : zk σ0 r2 8 := by rw [← er2]; exact hT0.ref tr1 (by decide) (by decide) (by decide)
  refine va_get (D := κ.1) (ci := 0) (v := .ref (kR κ r1 0)) (C := RX0) (T := TX0) (N := 7) hx hb hg inX0 hown hK (hT.o4 (hT.k tr1 (by decide))).one 0 rfl rfl 0 (by decide) (hg _ k157) (fun _ h9 => h9) rfl dX1_shareOf_4 ?_
  rw [er2]
  refine lv_iload_n hx hb dX1_shareOf_7 rfl (lv_at hl 2 rfl) ?_
  refine va_iald hx hb hK (hT.o8 (hT.k tr2 (by decide))).one 0 0 rfl rfl (g_in (by omega) (by omega)) dX1_shareOf_8 ?_
  refine lv_topi (fun t3 ht3 => ?_)
  refine lv_istore (lv' := [(4, .int t3), (0, .ref this), (1, .int x), (2, .int i), (3, .int y)]) hx hb dX1_shareOf_9 hl (by decide) rfl (fun ls hl => ?_)
  refine lv_aload_n hx hb dX1_shareOf_11 rfl (lv_at hl 1 rfl) ?_
  obtain ⟨v4, ev4⟩ : ∃ zz9 : Int32, zI σ0 this 8 = zz9 := ⟨_, rfl⟩
  have qv4 : v4.toInt = (zI σ0 this 8).toInt := by rw [ev4]
  refine va_get (D := κ.1) (ci := 1) (v := .int (zI σ0 this 8)) (C := RX1) (T := TX1) (N := 13) hx hb hg inX1 hown hK (hT.o3 (hT.k t_this (by decide))).one 0 rfl rfl 8 (by decide) (hg _ k293) (fun _ h9 => h9) rfl dX1_shareOf_12 ?_
  rw [(hT.eI t_this (by decide) rfl ev4)]
  refine lv_if_eq (tgt := 37) hx hb dX1_shareOf_15 (by decide) (fun c9 => ?_) (fun c9 => ?_)
  · have c1 := gi_eq c9
    refine lv_aload_n hx hb dX1_shareOf_37 rfl (lv_at hl 1 rfl) ?_
    obtain ⟨r5, er5⟩ : ∃ z, kR κ this 2 = z := ⟨_, rfl⟩
    have tr5 : zk σ0 r5 9 := by rw [← er5]; exact hT0.ref t_this (by decide) (by decide) (by decide)
    refine va_get (D := κ.1) (ci := 1) (v := .ref (kR κ this 2)) (C := RX1) (T := TX1) (N := 13) hx hb hg inX1 hown hK (hT.o3 (hT.k t_this (by decide))).one 0 rfl rfl 2 (by decide) (hg _ k281) (fun _ h9 => h9) rfl dX1_shareOf_38 ?_
    rw [er5]
    refine lv_iload_n hx hb dX1_shareOf_41 rfl (lv_at hl 3 rfl) ?_
    refine va_lald hx hb hK (hT.o9 (hT.k tr5 (by decide))).one 0 1 rfl rfl (g_in (by omega) (by omega)) dX1_shareOf_42 ?_
    refine lv_topl (fun t6 ht6 => ?_)
    subst hQ9
    exact t_l hx hb hr hlocks hT trivial dX1_shareOf_43
  · have c2 := gi_ne c9
    refine lv_aload_n hx hb dX1_shareOf_18 rfl (lv_at hl 1 rfl) ?_
    refine va_get (D := κ.1) (ci := 1) (v := .int (zI σ0 this 8)) (C := RX1) (T := TX1) (N := 13) hx hb hg inX1 hown hK (hT.o3 (hT.k t_this (by decide))).one 0 rfl rfl 8 (by decide) (hg _ k293) (fun _ h9 => h9) rfl dX1_shareOf_19 ?_
    rw [(hT.eI t_this (by decide) rfl ev4)]
    refine lv_iconst (v := 1) hx hb dX1_shareOf_22 (by decide) ?_
    refine lv_icmp_ne (tgt := 44) hx hb dX1_shareOf_23 (by decide) (fun c9 => ?_) (fun c9 => ?_)
    · have c3 := gi_ne c9
      refine lv_aload_n hx hb dX1_shareOf_44 rfl (lv_at hl 1 rfl) ?_
      refine va_get (D := κ.1) (ci := 1) (v := .ref (kR κ this 0)) (C := RX1) (T := TX1) (N := 13) hx hb hg inX1 hown hK (hT.o3 (hT.k t_this (by decide))).one 0 rfl rfl 0 (by decide) (hg _ k278) (fun _ h9 => h9) rfl dX1_shareOf_45 ?_
      rw [er1]
      refine va_get (D := κ.1) (ci := 0) (v := .ref (kR κ r1 0)) (C := RX0) (T := TX0) (N := 7) hx hb hg inX0 hown hK (hT.o4 (hT.k tr1 (by decide))).one 0 rfl rfl 0 (by decide) (hg _ k157) (fun _ h9 => h9) rfl dX1_shareOf_48 ?_
      rw [er2]
      refine lv_iload_n hx hb dX1_shareOf_51 rfl (lv_at hl 4 rfl) ?_
      refine va_iald hx hb hK (hT.o8 (hT.k tr2 (by decide))).one 0 0 rfl rfl (g_in (by omega) (by omega)) dX1_shareOf_52 ?_
      refine lv_topi (fun t7 ht7 => ?_)
      refine lv_aload_n hx hb dX1_shareOf_53 rfl (lv_at hl 1 rfl) ?_
      refine va_get (D := κ.1) (ci := 1) (v := .ref (kR κ this 0)) (C := RX1) (T := TX1) (N := 13) hx hb hg inX1 hown hK (hT.o3 (hT.k t_this (by decide))).one 0 rfl rfl 0 (by decide) (hg _ k278) (fun _ h9 => h9) rfl dX1_shareOf_54 ?_
      rw [er1]
      refine va_get (D := κ.1) (ci := 0) (v := .ref (kR κ r1 0)) (C := RX0) (T := TX0) (N := 7) hx hb hg inX0 hown hK (hT.o4 (hT.k tr1 (by decide))).one 0 rfl rfl 0 (by decide) (hg _ k157) (fun _ h9 => h9) rfl dX1_shareOf_57 ?_
      rw [er2]
      refine lv_iload_n hx hb dX1_shareOf_60 rfl (lv_at hl 2 rfl) ?_
      refine va_iald hx hb hK (hT.o8 (hT.k tr2 (by decide))).one 0 0 rfl rfl (g_in (by omega) (by omega)) dX1_shareOf_61 ?_
      refine lv_topi (fun t8 ht8 => ?_)
      refine lv_isub hx hb dX1_shareOf_62 ?_
      first | refine g_sub (by omega) (by omega) (fun t9 ht9 => ?_) | refine lv_topi (fun t9 ht9 => ?_)
      refine lv_istore (lv' := [(5, .int t9), (4, .int t3), (0, .ref this), (1, .int x), (2, .int i), (3, .int y)]) hx hb dX1_shareOf_63 hl (by decide) rfl (fun ls hl => ?_)
      refine lv_aload_n hx hb dX1_shareOf_65 rfl (lv_at hl 2 rfl) ?_
      refine va_get (D := κ.1) (ci := 1) (v := .int (zI σ0 this 8)) (C := RX1) (T := TX1) (N := 13) hx hb hg inX1 hown hK (hT.o3 (hT.k t_this (by decide))).one 0 rfl rfl 8 (by decide) (hg _ k293) (fun _ h9 => h9) rfl dX1_shareOf_66 ?_
      rw [(hT.eI t_this (by decide) rfl ev4)]
      refine lv_iconst (v := 1) hx hb dX1_shareOf_69 (by decide) ?_
      refine lv_icmp_eq (tgt := 78) hx hb dX1_shareOf_70 (by decide) (fun c9 => ?_) (fun c9 => ?_)
      · have c4 := gi_eq c9
        refine lv_lconst (v := 0) hx hb dX1_shareOf_78 (by decide) ?_
        subst hQ9
        exact t_l hx hb hr hlocks hT trivial dX1_shareOf_79
      · have c5 := gi_ne c9
        refine lv_iload hx hb dX1_shareOf_73 (lv_at hl 0 rfl) ?_
        refine lv_if_gt (tgt := 80) hx hb dX1_shareOf_75 (by decide) (fun c9 => ?_) (fun c9 => ?_)
        · have c6 := gi_lt c9
          refine lv_aload_n hx hb dX1_shareOf_80 rfl (lv_at hl 2 rfl) ?_
          obtain ⟨r10, er10⟩ : ∃ z, kR κ this 2 = z := ⟨_, rfl⟩
          have tr10 : zk σ0 r10 9 := by rw [← er10]; exact hT0.ref t_this (by decide) (by decide) (by decide)
          refine va_get (D := κ.1) (ci := 1) (v := .ref (kR κ this 2)) (C := RX1) (T := TX1) (N := 13) hx hb hg inX1 hown hK (hT.o3 (hT.k t_this (by decide))).one 0 rfl rfl 2 (by decide) (hg _ k281) (fun _ h9 => h9) rfl dX1_shareOf_81 ?_
          rw [er10]
          refine lv_iload_n hx hb dX1_shareOf_84 rfl (lv_at hl 4 rfl) ?_
          refine va_lald hx hb hK (hT.o9 (hT.k tr10 (by decide))).one 0 1 rfl rfl (g_in (by omega) (by omega)) dX1_shareOf_85 ?_
          refine lv_topl (fun t11 ht11 => ?_)
          refine lv_aload_n hx hb dX1_shareOf_86 rfl (lv_at hl 2 rfl) ?_
          refine va_get (D := κ.1) (ci := 1) (v := .ref (kR κ this 0)) (C := RX1) (T := TX1) (N := 13) hx hb hg inX1 hown hK (hT.o3 (hT.k t_this (by decide))).one 0 rfl rfl 0 (by decide) (hg _ k278) (fun _ h9 => h9) rfl dX1_shareOf_87 ?_
          rw [er1]
          refine va_get (D := κ.1) (ci := 0) (v := .ref (kR κ r1 0)) (C := RX0) (T := TX0) (N := 7) hx hb hg inX0 hown hK (hT.o4 (hT.k tr1 (by decide))).one 0 rfl rfl 0 (by decide) (hg _ k157) (fun _ h9 => h9) rfl dX1_shareOf_90 ?_
          rw [er2]
          refine lv_iload_n hx hb dX1_shareOf_93 rfl (lv_at hl 5 rfl) ?_
          refine va_iald hx hb hK (hT.o8 (hT.k tr2 (by decide))).one 0 0 rfl rfl (g_in (by omega) (by omega)) dX1_shareOf_94 ?_
          refine lv_topi (fun t12 ht12 => ?_)
          refine lv_iload hx hb dX1_shareOf_95 (lv_at hl 1 rfl) ?_
          refine lv_isub hx hb dX1_shareOf_97 ?_
          first | refine g_sub (by omega) (by omega) (fun t13 ht13 => ?_) | refine lv_topi (fun t13 ht13 => ?_)
          refine lv_i2l hx hb dX1_shareOf_98 rfl ?_
          refine g_i2l (fun t14 ht14 => ?_)
          refine lv_lmul hx hb dX1_shareOf_99 ?_
          refine lv_topl (fun t15 ht15 => ?_)
          refine lv_iload hx hb dX1_shareOf_100 (lv_at hl 0 rfl) ?_
          refine lv_i2l hx hb dX1_shareOf_102 rfl ?_
          refine g_i2l (fun t16 ht16 => ?_)
          refine lv_ldiv hx hb dX1_shareOf_103 (gl_nz (by omega)) ?_
          refine lv_topl (fun t17 ht17 => ?_)
          subst hQ9
          exact t_l hx hb hr hlocks hT trivial dX1_shareOf_104
        · have c7 := gi_nlt c9
          refine lv_lconst (v := 0) hx hb dX1_shareOf_78 (by decide) ?_
          subst hQ9
          exact t_l hx hb hr hlocks hT trivial dX1_shareOf_79
    · have c8 := gi_eq c9
      refine lv_aload_n hx hb dX1_shareOf_26 rfl (lv_at hl 1 rfl) ?_
      refine lv_iload_n hx hb dX1_shareOf_27 rfl (lv_at hl 2 rfl) ?_
      refine lv_iload hx hb dX1_shareOf_28 (lv_at hl 0 rfl) ?_
      refine lv_iload_n hx hb dX1_shareOf_30 rfl (lv_at hl 4 rfl) ?_
      have hTo := hT
      refine tVi (n := 3) (As := [.int x, .int t3, .int y]) (rest := []) hx hb hml hown hg hT hK hX (X1_isLeftNear l κ σ0 this x t3 y  (hT.k t_this (by decide)) (by omega) (by omega) (by omega) (by omega)) (fun _ _ h => h) (mwV k546 k548 k11 k87 k549) ⟨rfl, by decide, by decide, by decide +kernel⟩ ⟨(Nat.le_of_ble_eq_true rfl), (Nat.le_of_ble_eq_true rfl)⟩ (hT.o3 (hT.k t_this (by decide))) rfl rfl hl.1 rfl (Nat.le_of_ble_eq_true rfl) dX1_shareOf_31 zroom.rf (fun x18 s19 H locs hφ hEs19 hT => ?_)
      have f20 := hφ
      refine lv_if_eq (tgt := 44) hx hb dX1_shareOf_34 (by decide) (fun c9 => ?_) (fun c9 => ?_)
      · have c9 := gi_eq c9
        refine lv_aload_n hx hb dX1_shareOf_44 rfl (lv_at hl 1 rfl) ?_
        refine va_get (D := κ.1) (ci := 1) (v := .ref (kR κ this 0)) (C := RX1) (T := TX1) (N := 13) hx hb hg inX1 hown hK (hT.o3 (hT.k t_this (by decide))).one 0 rfl rfl 0 (by decide) (hg _ k278) (fun _ h9 => h9) rfl dX1_shareOf_45 ?_
        rw [er1]
        refine va_get (D := κ.1) (ci := 0) (v := .ref (kR κ r1 0)) (C := RX0) (T := TX0) (N := 7) hx hb hg inX0 hown hK (hT.o4 (hT.k tr1 (by decide))).one 0 rfl rfl 0 (by decide) (hg _ k157) (fun _ h9 => h9) rfl dX1_shareOf_48 ?_
        rw [er2]
        refine lv_iload_n hx hb dX1_shareOf_51 rfl (lv_at hl 4 rfl) ?_
        refine va_iald hx hb hK (hT.o8 (hT.k tr2 (by decide))).one 0 0 rfl rfl (g_in (by omega) (by omega)) dX1_shareOf_52 ?_
        refine lv_topi (fun t21 ht21 => ?_)
        refine lv_aload_n hx hb dX1_shareOf_53 rfl (lv_at hl 1 rfl) ?_
        refine va_get (D := κ.1) (ci := 1) (v := .ref (kR κ this 0)) (C := RX1) (T := TX1) (N := 13) hx hb hg inX1 hown hK (hT.o3 (hT.k t_this (by decide))).one 0 rfl rfl 0 (by decide) (hg _ k278) (fun _ h9 => h9) rfl dX1_shareOf_54 ?_
        rw [er1]
        refine va_get (D := κ.1) (ci := 0) (v := .ref (kR κ r1 0)) (C := RX0) (T := TX0) (N := 7) hx hb hg inX0 hown hK (hT.o4 (hT.k tr1 (by decide))).one 0 rfl rfl 0 (by decide) (hg _ k157) (fun _ h9 => h9) rfl dX1_shareOf_57 ?_
        rw [er2]
        refine lv_iload_n hx hb dX1_shareOf_60 rfl (lv_at hl 2 rfl) ?_
        refine va_iald hx hb hK (hT.o8 (hT.k tr2 (by decide))).one 0 0 rfl rfl (g_in (by omega) (by omega)) dX1_shareOf_61 ?_
        refine lv_topi (fun t22 ht22 => ?_)
        refine lv_isub hx hb dX1_shareOf_62 ?_
        first | refine g_sub (by omega) (by omega) (fun t23 ht23 => ?_) | refine lv_topi (fun t23 ht23 => ?_)
        refine lv_istore (lv' := [(5, .int t23), (4, .int t3), (0, .ref this), (1, .int x), (2, .int i), (3, .int y)]) hx hb dX1_shareOf_63 hl (by decide) rfl (fun ls hl => ?_)
        refine lv_aload_n hx hb dX1_shareOf_65 rfl (lv_at hl 2 rfl) ?_
        refine va_get (D := κ.1) (ci := 1) (v := .int (zI s19 this 8)) (C := RX1) (T := TX1) (N := 13) hx hb hg inX1 hown hK (hT.o3 (hT.k t_this (by decide))).one 0 rfl rfl 8 (by decide) (hg _ k293) (fun _ h9 => h9) rfl dX1_shareOf_66 ?_
        rw [(hT.eI t_this (by decide) rfl ev4)]
        refine lv_iconst (v := 1) hx hb dX1_shareOf_69 (by decide) ?_
        refine lv_icmp_eq (tgt := 78) hx hb dX1_shareOf_70 (by decide) (fun c9 => ?_) (fun c9 => ?_)
        · have c10 := gi_eq c9
          refine lv_lconst (v := 0) hx hb dX1_shareOf_78 (by decide) ?_
          subst hQ9
          exact t_l hx hb hr hlocks hT trivial dX1_shareOf_79
        · have c11 := gi_ne c9
          refine lv_iload hx hb dX1_shareOf_73 (lv_at hl 0 rfl) ?_
          refine lv_if_gt (tgt := 80) hx hb dX1_shareOf_75 (by decide) (fun c9 => ?_) (fun c9 => ?_)
          · have c12 := gi_lt c9
            refine lv_aload_n hx hb dX1_shareOf_80 rfl (lv_at hl 2 rfl) ?_
            obtain ⟨r24, er24⟩ : ∃ z, kR κ this 2 = z := ⟨_, rfl⟩
            have tr24 : zk σ0 r24 9 := by rw [← er24]; exact hT0.ref t_this (by decide) (by decide) (by decide)
            refine va_get (D := κ.1) (ci := 1) (v := .ref (kR κ this 2)) (C := RX1) (T := TX1) (N := 13) hx hb hg inX1 hown hK (hT.o3 (hT.k t_this (by decide))).one 0 rfl rfl 2 (by decide) (hg _ k281) (fun _ h9 => h9) rfl dX1_shareOf_81 ?_
            rw [er24]
            refine lv_iload_n hx hb dX1_shareOf_84 rfl (lv_at hl 4 rfl) ?_
            refine va_lald hx hb hK (hT.o9 (hT.k tr24 (by decide))).one 0 1 rfl rfl (g_in (by omega) (by omega)) dX1_shareOf_85 ?_
            refine lv_topl (fun t25 ht25 => ?_)
            refine lv_aload_n hx hb dX1_shareOf_86 rfl (lv_at hl 2 rfl) ?_
            refine va_get (D := κ.1) (ci := 1) (v := .ref (kR κ this 0)) (C := RX1) (T := TX1) (N := 13) hx hb hg inX1 hown hK (hT.o3 (hT.k t_this (by decide))).one 0 rfl rfl 0 (by decide) (hg _ k278) (fun _ h9 => h9) rfl dX1_shareOf_87 ?_
            rw [er1]
            refine va_get (D := κ.1) (ci := 0) (v := .ref (kR κ r1 0)) (C := RX0) (T := TX0) (N := 7) hx hb hg inX0 hown hK (hT.o4 (hT.k tr1 (by decide))).one 0 rfl rfl 0 (by decide) (hg _ k157) (fun _ h9 => h9) rfl dX1_shareOf_90 ?_
            rw [er2]
            refine lv_iload_n hx hb dX1_shareOf_93 rfl (lv_at hl 5 rfl) ?_
            refine va_iald hx hb hK (hT.o8 (hT.k tr2 (by decide))).one 0 0 rfl rfl (g_in (by omega) (by omega)) dX1_shareOf_94 ?_
            refine lv_topi (fun t26 ht26 => ?_)
            refine lv_iload hx hb dX1_shareOf_95 (lv_at hl 1 rfl) ?_
            refine lv_isub hx hb dX1_shareOf_97 ?_
            first | refine g_sub (by omega) (by omega) (fun t27 ht27 => ?_) | refine lv_topi (fun t27 ht27 => ?_)
            refine lv_i2l hx hb dX1_shareOf_98 rfl ?_
            refine g_i2l (fun t28 ht28 => ?_)
            refine lv_lmul hx hb dX1_shareOf_99 ?_
            refine lv_topl (fun t29 ht29 => ?_)
            refine lv_iload hx hb dX1_shareOf_100 (lv_at hl 0 rfl) ?_
            refine lv_i2l hx hb dX1_shareOf_102 rfl ?_
            refine g_i2l (fun t30 ht30 => ?_)
            refine lv_ldiv hx hb dX1_shareOf_103 (gl_nz (by omega)) ?_
            refine lv_topl (fun t31 ht31 => ?_)
            subst hQ9
            exact t_l hx hb hr hlocks hT trivial dX1_shareOf_104
          · have c13 := gi_nlt c9
            refine lv_lconst (v := 0) hx hb dX1_shareOf_78 (by decide) ?_
            subst hQ9
            exact t_l hx hb hr hlocks hT trivial dX1_shareOf_79
      · have c14 := gi_ne c9
        refine lv_aload_n hx hb dX1_shareOf_37 rfl (lv_at hl 1 rfl) ?_
        obtain ⟨r32, er32⟩ : ∃ z, kR κ this 2 = z := ⟨_, rfl⟩
        have tr32 : zk σ0 r32 9 := by rw [← er32]; exact hT0.ref t_this (by decide) (by decide) (by decide)
        refine va_get (D := κ.1) (ci := 1) (v := .ref (kR κ this 2)) (C := RX1) (T := TX1) (N := 13) hx hb hg inX1 hown hK (hT.o3 (hT.k t_this (by decide))).one 0 rfl rfl 2 (by decide) (hg _ k281) (fun _ h9 => h9) rfl dX1_shareOf_38 ?_
        rw [er32]
        refine lv_iload_n hx hb dX1_shareOf_41 rfl (lv_at hl 3 rfl) ?_
        refine va_lald hx hb hK (hT.o9 (hT.k tr32 (by decide))).one 0 1 rfl rfl (g_in (by omega) (by omega)) dX1_shareOf_42 ?_
        refine lv_topl (fun t33 ht33 => ?_)
        subst hQ9
        exact t_l hx hb hr hlocks hT trivial dX1_shareOf_43
set_option maxHeartbeats 4000000 in
set_option maxRecDepth 100000 in
theorem X1_addGains (l : Launch) (κ : Kt) (σ0 : Gh) (this : Nat) (sp : Nat) (n : Int32) (t_this : zk σ0 this 3) (t_sp : zk σ0 sp 2) : TC l yX1_addGains cX1_addGains 7 none 3 89 [.ref this, .ref sp, .int n] κ σ0 (tqv κ fW σ0 (fun (τ : Gh) => True)) := by
  refine TC.of fW (by decide +kernel) (Nat.le_of_ble_eq_true rfl) ?_
  intro p e s m below meth c ls hcs hK hX hT hl
  obtain ⟨hx, hb, hr, hml, hown, hg, hlocks, hin⟩ := hcs
  have hown : s.vm.findClass RX1 = some m.cls := hown
  have hl : lv_has ls 7 [(0, .ref this), (1, .ref sp), (2, .int n)] := hl
  have hT0 := hT
  have n0 : (0 : Int32).toInt = 0 := by decide
  have n_lo := Int32.le_toInt n
  have n_hi := Int32.toInt_lt n
  generalize hQ9 : tQ _ _ _ _ _ _ = Q9
  refine lv_aload_n hx hb dX1_addGains_0 rfl (lv_at hl 1 rfl) ?_
  obtain ⟨v1, ev1⟩ : ∃ zz9 : Int32, zI σ0 sp 8 = zz9 := ⟨_, rfl⟩
  have qv1 : v1.toInt = (zI σ0 sp 8).toInt := by rw [ev1]
  have b2 : isB v1 := by have q9 := (hT.P (hT.k t_sp (by decide)) (by decide)).2.2.2; rw [(hT.eI t_sp (by decide) rfl ev1)] at q9; exact q9
  refine va_get (D := κ.1) (ci := 2) (v := .int (zI σ0 sp 8)) (C := RX2) (T := TX2) (N := 10) hx hb hg inX2 hown hK (hT.o2 (hT.k t_sp (by decide))).one 0 rfl rfl 8 (by decide) (hg _ k249) (fun _ h9 => h9) rfl dX1_addGains_1 ?_
  rw [(hT.eI t_sp (by decide) rfl ev1)]
  refine lv_if_ne (tgt := 8) hx hb dX1_addGains_4 (by decide) (fun c9 => ?_) (fun c9 => ?_)
  · have c1 := gi_ne c9
    refine lv_aload_n hx hb dX1_addGains_8 rfl (lv_at hl 1 rfl) ?_
    have hTo := hT
    refine tVl (n := 0) (As := []) (rest := []) hx hb hml hown hg hT hK hX (X2_leftWeightAfter l κ σ0 sp  (hT.k t_sp (by decide)) ) sub_fE_fW (mwV k590 k591 k592 k89 k593) ⟨rfl, by decide, by decide, by decide +kernel⟩ ⟨(Nat.le_of_ble_eq_true rfl), (Nat.le_of_ble_eq_true rfl)⟩ (hT.o2 (hT.k t_sp (by decide))) rfl rfl hl.1 rfl (Nat.le_of_ble_eq_true rfl) dX1_addGains_9 zroom.rf (fun x3 s4 H locs hφ hEs4 hT => ?_)
    refine lv_lstore_n (lv' := [(3, .long x3), (0, .ref this), (1, .ref sp), (2, .int n)]) hx hb dX1_addGains_12 rfl hl (by decide) rfl (fun ls hl => ?_)
    refine lv_aload_n hx hb dX1_addGains_13 rfl (lv_at hl 2 rfl) ?_
    have hTo := hT
    refine tVl (n := 0) (As := []) (rest := []) hx hb hml hown hg hT hK hX (X2_rightWeightAfter l κ s4 sp  (hT.k t_sp (by decide)) ) sub_fE_fW (mwV k594 k595 k596 k89 k597) ⟨rfl, by decide, by decide, by decide +kernel⟩ ⟨(Nat.le_of_ble_eq_true rfl), (Nat.le_of_ble_eq_true rfl)⟩ (hT.o2 (hT.k t_sp (by decide))) rfl rfl hl.1 rfl (Nat.le_of_ble_eq_true rfl) dX1_addGains_14 zroom.rf (fun x5 s6 H locs hφ hEs6 hT => ?_)
    refine lv_lstore (lv' := [(5, .long x5), (3, .long x3), (0, .ref this), (1, .ref sp), (2, .int n)]) hx hb dX1_addGains_17 hl (by decide) rfl (fun ls hl => ?_)
    refine lv_aload_n hx hb dX1_addGains_19 rfl (lv_at hl 2 rfl) ?_
    obtain ⟨r7, er7⟩ : ∃ z, kR κ this 11 = z := ⟨_, rfl⟩
    have tr7 : zk σ0 r7 1 := by rw [← er7]; exact hT0.ref t_this (by decide) (by decide) (by decide)
    refine va_get (D := κ.1) (ci := 1) (v := .ref (kR κ this 11)) (C := RX1) (T := TX1) (N := 13) hx hb hg inX1 hown hK (hT.o3 (hT.k t_this (by decide))).one 0 rfl rfl 11 (by decide) (hg _ k298) (fun _ h9 => h9) rfl dX1_addGains_20 ?_
    rw [er7]
    refine lv_aload_n hx hb dX1_addGains_23 rfl (lv_at hl 3 rfl) ?_
    obtain ⟨r8, er8⟩ : ∃ z, kR κ sp 9 = z := ⟨_, rfl⟩
    have tr8 : zk σ0 r8 1 := by rw [← er8]; exact hT0.ref t_sp (by decide) (by decide) (by decide)
    refine va_get (D := κ.1) (ci := 2) (v := .ref (kR κ sp 9)) (C := RX2) (T := TX2) (N := 10) hx hb hg inX2 hown hK (hT.o2 (hT.k t_sp (by decide))).one 0 rfl rfl 9 (by decide) (hg _ k252) (fun _ h9 => h9) rfl dX1_addGains_24 ?_
    rw [er8]
    obtain ⟨h11, oh11, th11⟩ := hT.o1 (hT.k tr7 (by decide))
    have hTo := hT
    refine tVv (n := 1) (As := [.ref r8]) (rest := []) hx hb hml hown hg hT hK hX (X4_copyFrom l κ s6 r7 r8  (hT.k tr7 (by decide)) (hT.k tr8 (by decide)) ) (fun _ _ h => h) (mwV k455 k456 k457 k88 k458) ⟨rfl, by decide, by decide, by decide +kernel⟩ ⟨(Nat.le_of_ble_eq_true rfl), (Nat.le_of_ble_eq_true rfl)⟩ oh11 rfl rfl hl.1 rfl (Nat.le_of_ble_eq_true rfl) dX1_addGains_27 zroom.rf (fun s10 H locs hφ hEs10 hT => ?_)
    refine lv_aload_n hx hb dX1_addGains_30 rfl (lv_at hl 2 rfl) ?_
    refine va_get (D := κ.1) (ci := 1) (v := .ref (kR κ this 11)) (C := RX1) (T := TX1) (N := 13) hx hb hg inX1 hown hK (hT.o3 (hT.k t_this (by decide))).one 0 rfl rfl 11 (by decide) (hg _ k298) (fun _ h9 => h9) rfl dX1_addGains_31 ?_
    rw [er7]
    refine lv_aload_n hx hb dX1_addGains_34 rfl (lv_at hl 3 rfl) ?_
    refine va_get (D := κ.1) (ci := 2) (v := .long (zJ s10 sp 5)) (C := RX2) (T := TX2) (N := 10) hx hb hg inX2 hown hK (hT.o2 (hT.k t_sp (by decide))).one 0 rfl rfl 5 (by decide) (hg _ k242) (fun _ h9 => h9) rfl dX1_addGains_35 ?_
    refine lv_topl (fun t12 ht12 => ?_)
    refine lv_lload_n hx hb dX1_addGains_38 rfl (lv_at hl 1 rfl) ?_
    refine lv_lmul hx hb dX1_addGains_39 ?_
    refine lv_topl (fun t13 ht13 => ?_)
    refine lv_lload_n hx hb dX1_addGains_40 rfl (lv_at hl 1 rfl) ?_
    refine lv_lload_n hx hb dX1_addGains_41 rfl (lv_at hl 1 rfl) ?_
    refine lv_lmul hx hb dX1_addGains_42 ?_
    refine lv_topl (fun t14 ht14 => ?_)
    refine lv_lload hx hb dX1_addGains_43 (lv_at hl 0 rfl) ?_
    refine lv_lload hx hb dX1_addGains_45 (lv_at hl 0 rfl) ?_
    refine lv_lmul hx hb dX1_addGains_47 ?_
    refine lv_topl (fun t15 ht15 => ?_)
    refine lv_ladd hx hb dX1_addGains_48 ?_
    refine lv_topl (fun t16 ht16 => ?_)
    obtain ⟨h19, oh19, th19⟩ := hT.o1 (hT.k tr7 (by decide))
    have hTo := hT
    refine tVv (n := 2) (As := [.long t13, .long t16]) (rest := []) hx hb hml hown hg hT hK hX (X4_scale l κ s10 r7 t13 t16  (hT.k tr7 (by decide)) ) (fun _ _ h => h) (mwV k551 k552 k553 k88 k554) ⟨rfl, by decide, by decide, by decide +kernel⟩ ⟨(Nat.le_of_ble_eq_true rfl), (Nat.le_of_ble_eq_true rfl)⟩ oh19 rfl rfl hl.1 rfl (Nat.le_of_ble_eq_true rfl) dX1_addGains_49 zroom.rf (fun s18 H locs hφ hEs18 hT => ?_)
    refine lv_aload_n hx hb dX1_addGains_52 rfl (lv_at hl 2 rfl) ?_
    obtain ⟨r20, er20⟩ : ∃ z, kR κ this 1 = z := ⟨_, rfl⟩
    have tr20 : zk σ0 r20 10 := by rw [← er20]; exact hT0.ref t_this (by decide) (by decide) (by decide)
    refine va_get (D := κ.1) (ci := 1) (v := .ref (kR κ this 1)) (C := RX1) (T := TX1) (N := 13) hx hb hg inX1 hown hK (hT.o3 (hT.k t_this (by decide))).one 0 rfl rfl 1 (by decide) (hg _ k279) (fun _ h9 => h9) rfl dX1_addGains_53 ?_
    rw [er20]
    refine lv_aload_n hx hb dX1_addGains_56 rfl (lv_at hl 3 rfl) ?_
    obtain ⟨v21, ev21⟩ : ∃ zz9 : Int32, zI σ0 sp 1 = zz9 := ⟨_, rfl⟩
    have qv21 : v21.toInt = (zI σ0 sp 1).toInt := by rw [ev21]
    have b22 := (hT.P (hT.k t_sp (by decide)) (by decide)).2.1
    rw [(hT.eI t_sp (by decide) rfl ev21)] at b22
    have b22l := b22.1
    have b22h := b22.2
    refine va_get (D := κ.1) (ci := 2) (v := .int (zI s18 sp 1)) (C := RX2) (T := TX2) (N := 10) hx hb hg inX2 hown hK (hT.o2 (hT.k t_sp (by decide))).one 0 rfl rfl 1 (by decide) (hg _ k232) (fun _ h9 => h9) rfl dX1_addGains_57 ?_
    rw [(hT.eI t_sp (by decide) rfl ev21)]
    refine va_aldq hx hb hK (hT.o10 (hT.k tr20 (by decide))).one 0 4 rfl rfl (g_in (by omega) (by omega)) dX1_addGains_60 ?_
    obtain ⟨r24, er24⟩ : ∃ z, kR κ r20 (ix v21) = z := ⟨_, rfl⟩
    have tr24 : zk σ0 r24 1 := by rw [← er24]; exact hT0.ref tr20 (by decide) (zR10 (ix_lt (by omega) (by omega))) (by decide)
    refine tv (.ref r24) (by rw [← er24]; rfl) ?_
    refine lv_aload_n hx hb dX1_addGains_61 rfl (lv_at hl 2 rfl) ?_
    refine va_get (D := κ.1) (ci := 1) (v := .ref (kR κ this 11)) (C := RX1) (T := TX1) (N := 13) hx hb hg inX1 hown hK (hT.o3 (hT.k t_this (by decide))).one 0 rfl rfl 11 (by decide) (hg _ k298) (fun _ h9 => h9) rfl dX1_addGains_62 ?_
    rw [er7]
    refine lv_iload_n hx hb dX1_addGains_65 rfl (lv_at hl 4 rfl) ?_
    refine lv_i2l hx hb dX1_addGains_66 rfl ?_
    refine g_i2l (fun t25 ht25 => ?_)
    obtain ⟨h28, oh28, th28⟩ := hT.o1 (hT.k tr24 (by decide))
    have hTo := hT
    refine tVv (n := 2) (As := [.ref r7, .long t25]) (rest := []) hx hb hml hown hg hT hK hX (X4_add l κ s18 r24 r7 t25  (hT.k tr24 (by decide)) (hT.k tr7 (by decide)) ) (fun _ _ h => h) (mwV k340 k341 k342 k88 k343) ⟨rfl, by decide, by decide, by decide +kernel⟩ ⟨(Nat.le_of_ble_eq_true rfl), (Nat.le_of_ble_eq_true rfl)⟩ oh28 rfl rfl hl.1 rfl (Nat.le_of_ble_eq_true rfl) dX1_addGains_67 zroom.rf (fun s27 H locs hφ hEs27 hT => ?_)
    refine lv_aload_n hx hb dX1_addGains_70 rfl (lv_at hl 2 rfl) ?_
    refine va_get (D := κ.1) (ci := 1) (v := .ref (kR κ this 11)) (C := RX1) (T := TX1) (N := 13) hx hb hg inX1 hown hK (hT.o3 (hT.k t_this (by decide))).one 0 rfl rfl 11 (by decide) (hg _ k298) (fun _ h9 => h9) rfl dX1_addGains_71 ?_
    rw [er7]
    refine lv_aload_n hx hb dX1_addGains_74 rfl (lv_at hl 3 rfl) ?_
    refine va_get (D := κ.1) (ci := 2) (v := .ref (kR κ sp 9)) (C := RX2) (T := TX2) (N := 10) hx hb hg inX2 hown hK (hT.o2 (hT.k t_sp (by decide))).one 0 rfl rfl 9 (by decide) (hg _ k252) (fun _ h9 => h9) rfl dX1_addGains_75 ?_
    rw [er8]
    obtain ⟨h31, oh31, th31⟩ := hT.o1 (hT.k tr7 (by decide))
    have hTo := hT
    refine tVv (n := 1) (As := [.ref r8]) (rest := []) hx hb hml hown hg hT hK hX (X4_copyFrom l κ s27 r7 r8  (hT.k tr7 (by decide)) (hT.k tr8 (by decide)) ) (fun _ _ h => h) (mwV k455 k456 k457 k88 k458) ⟨rfl, by decide, by decide, by decide +kernel⟩ ⟨(Nat.le_of_ble_eq_true rfl), (Nat.le_of_ble_eq_true rfl)⟩ oh31 rfl rfl hl.1 rfl (Nat.le_of_ble_eq_true rfl) dX1_addGains_78 zroom.rf (fun s30 H locs hφ hEs30 hT => ?_)
    refine lv_aload_n hx hb dX1_addGains_81 rfl (lv_at hl 2 rfl) ?_
    refine va_get (D := κ.1) (ci := 1) (v := .ref (kR κ this 11)) (C := RX1) (T := TX1) (N := 13) hx hb hg inX1 hown hK (hT.o3 (hT.k t_this (by decide))).one 0 rfl rfl 11 (by decide) (hg _ k298) (fun _ h9 => h9) rfl dX1_addGains_82 ?_
    rw [er7]
    refine lv_aload_n hx hb dX1_addGains_85 rfl (lv_at hl 3 rfl) ?_
    refine va_get (D := κ.1) (ci := 2) (v := .long (zJ s30 sp 5)) (C := RX2) (T := TX2) (N := 10) hx hb hg inX2 hown hK (hT.o2 (hT.k t_sp (by decide))).one 0 rfl rfl 5 (by decide) (hg _ k242) (fun _ h9 => h9) rfl dX1_addGains_86 ?_
    refine lv_topl (fun t32 ht32 => ?_)
    refine lv_lload hx hb dX1_addGains_89 (lv_at hl 0 rfl) ?_
    refine lv_lmul hx hb dX1_addGains_91 ?_
    refine lv_topl (fun t33 ht33 => ?_)
    refine lv_lload_n hx hb dX1_addGains_92 rfl (lv_at hl 1 rfl) ?_
    refine lv_lload_n hx hb dX1_addGains_93 rfl (lv_at hl 1 rfl) ?_
    refine lv_lmul hx hb dX1_addGains_94 ?_
    refine lv_topl (fun t34 ht34 => ?_)
    refine lv_lload hx hb dX1_addGains_95 (lv_at hl 0 rfl) ?_
    refine lv_lload hx hb dX1_addGains_97 (lv_at hl 0 rfl) ?_
    refine lv_lmul hx hb dX1_addGains_99 ?_
    refine lv_topl (fun t35 ht35 => ?_)
    refine lv_ladd hx hb dX1_addGains_100 ?_
    refine lv_topl (fun t36 ht36 => ?_)
    obtain ⟨h39, oh39, th39⟩ := hT.o1 (hT.k tr7 (by decide))
    have hTo := hT
    refine tVv (n := 2) (As := [.long t33, .long t36]) (rest := []) hx hb hml hown hg hT hK hX (X4_scale l κ s30 r7 t33 t36  (hT.k tr7 (by decide)) ) (fun _ _ h => h) (mwV k551 k552 k553 k88 k554) ⟨rfl, by decide, by decide, by decide +kernel⟩ ⟨(Nat.le_of_ble_eq_true rfl), (Nat.le_of_ble_eq_true rfl)⟩ oh39 rfl rfl hl.1 rfl (Nat.le_of_ble_eq_true rfl) dX1_addGains_101 zroom.rf (fun s38 H locs hφ hEs38 hT => ?_)
    refine lv_aload_n hx hb dX1_addGains_104 rfl (lv_at hl 2 rfl) ?_
    refine va_get (D := κ.1) (ci := 1) (v := .ref (kR κ this 1)) (C := RX1) (T := TX1) (N := 13) hx hb hg inX1 hown hK (hT.o3 (hT.k t_this (by decide))).one 0 rfl rfl 1 (by decide) (hg _ k279) (fun _ h9 => h9) rfl dX1_addGains_105 ?_
    rw [er20]
    refine lv_aload_n hx hb dX1_addGains_108 rfl (lv_at hl 3 rfl) ?_
    obtain ⟨v40, ev40⟩ : ∃ zz9 : Int32, zI σ0 sp 2 = zz9 := ⟨_, rfl⟩
    have qv40 : v40.toInt = (zI σ0 sp 2).toInt := by rw [ev40]
    have b41 := (hT.P (hT.k t_sp (by decide)) (by decide)).2.2.1
    rw [(hT.eI t_sp (by decide) rfl ev40)] at b41
    have b41l := b41.1
    have b41h := b41.2
    refine va_get (D := κ.1) (ci := 2) (v := .int (zI s38 sp 2)) (C := RX2) (T := TX2) (N := 10) hx hb hg inX2 hown hK (hT.o2 (hT.k t_sp (by decide))).one 0 rfl rfl 2 (by decide) (hg _ k235) (fun _ h9 => h9) rfl dX1_addGains_109 ?_
    rw [(hT.eI t_sp (by decide) rfl ev40)]
    refine va_aldq hx hb hK (hT.o10 (hT.k tr20 (by decide))).one 0 4 rfl rfl (g_in (by omega) (by omega)) dX1_addGains_112 ?_
    obtain ⟨r43, er43⟩ : ∃ z, kR κ r20 (ix v40) = z := ⟨_, rfl⟩
    have tr43 : zk σ0 r43 1 := by rw [← er43]; exact hT0.ref tr20 (by decide) (zR10 (ix_lt (by omega) (by omega))) (by decide)
    refine tv (.ref r43) (by rw [← er43]; rfl) ?_
    refine lv_aload_n hx hb dX1_addGains_113 rfl (lv_at hl 2 rfl) ?_
    refine va_get (D := κ.1) (ci := 1) (v := .ref (kR κ this 11)) (C := RX1) (T := TX1) (N := 13) hx hb hg inX1 hown hK (hT.o3 (hT.k t_this (by decide))).one 0 rfl rfl 11 (by decide) (hg _ k298) (fun _ h9 => h9) rfl dX1_addGains_114 ?_
    rw [er7]
    refine lv_iload_n hx hb dX1_addGains_117 rfl (lv_at hl 4 rfl) ?_
    refine lv_i2l hx hb dX1_addGains_118 rfl ?_
    refine g_i2l (fun t44 ht44 => ?_)
    obtain ⟨h47, oh47, th47⟩ := hT.o1 (hT.k tr43 (by decide))
    have hTo := hT
    refine tVv (n := 2) (As := [.ref r7, .long t44]) (rest := []) hx hb hml hown hg hT hK hX (X4_add l κ s38 r43 r7 t44  (hT.k tr43 (by decide)) (hT.k tr7 (by decide)) ) (fun _ _ h => h) (mwV k340 k341 k342 k88 k343) ⟨rfl, by decide, by decide, by decide +kernel⟩ ⟨(Nat.le_of_ble_eq_true rfl), (Nat.le_of_ble_eq_true rfl)⟩ oh47 rfl rfl hl.1 rfl (Nat.le_of_ble_eq_true rfl) dX1_addGains_119 zroom.rf (fun s46 H locs hφ hEs46 hT => ?_)
    subst hQ9
    exact t_v hx hb hr hlocks hT trivial dX1_addGains_122
  · have c2 := gi_eq c9
    subst hQ9
    exact t_v hx hb hr hlocks hT trivial dX1_addGains_7
set_option maxHeartbeats 4000000 in
set_option maxRecDepth 100000 in
theorem X1_liftSample (l : Launch) (κ : Kt) (σ0 : Gh) (this : Nat) (i : Int32) (t_this : zk σ0 this 3) (h0 : 0 ≤ i.toInt) (h1 : i.toInt ≤ 47) : TC l yX1_liftSample cX1_liftSample 5 (some .long) 4 115 [.ref this, .int i] κ σ0 (tql κ fLi σ0 (fun (r : Int64) (τ : Gh) => True)) := by
  refine TC.of fLi (by decide +kernel) (Nat.le_of_ble_eq_true rfl) ?_
  intro p e s m below meth c ls hcs hK hX hT hl
  obtain ⟨hx, hb, hr, hml, hown, hg, hlocks, hin⟩ := hcs
  have hown : s.vm.findClass RX1 = some m.cls := hown
  have hl : lv_has ls 5 [(0, .ref this), (1, .int i)] := hl
  have hT0 := hT
  have nm1 : ((-1) : Int32).toInt = (-1) := by decide
  have n1 : (1 : Int32).toInt = 1 := by decide
  have n46 : (46 : Int32).toInt = 46 := by decide
  have jm1 : ((-1) : Int64).toInt = (-1) := by decide
  have j0 : (0 : Int64).toInt = 0 := by decide
  have i_lo := Int32.le_toInt i
  have i_hi := Int32.toInt_lt i
  generalize hQ9 : tQ _ _ _ _ _ _ = Q9
  refine lv_aload_n hx hb dX1_liftSample_0 rfl (lv_at hl 0 rfl) ?_
  refine lv_iload_n hx hb dX1_liftSample_1 rfl (lv_at hl 1 rfl) ?_
  have hTo := hT
  refine tVi (n := 1) (As := [.int i]) (rest := []) hx hb hml hown hg hT hK hX (X1_leftOf l κ σ0 this i  (hT.k t_this (by decide)) (by omega) (by omega)) sub_fE_fLi (mwV k574 k575 k576 k87 k577) ⟨rfl, by decide, by decide, by decide +kernel⟩ ⟨(Nat.le_of_ble_eq_true rfl), (Nat.le_of_ble_eq_true rfl)⟩ (hT.o3 (hT.k t_this (by decide))) rfl rfl hl.1 rfl (Nat.le_of_ble_eq_true rfl) dX1_liftSample_2 zroom.rf (fun x1 s2 H locs hφ hEs2 hT => ?_)
  obtain ⟨f3, f4⟩ := hφ
  refine lv_istore_n (lv' := [(2, .int x1), (0, .ref this), (1, .int i)]) hx hb dX1_liftSample_5 rfl hl (by decide) rfl (fun ls hl => ?_)
  refine lv_aload_n hx hb dX1_liftSample_6 rfl (lv_at hl 1 rfl) ?_
  refine lv_iload_n hx hb dX1_liftSample_7 rfl (lv_at hl 2 rfl) ?_
  have hTo := hT
  refine tVi (n := 1) (As := [.int i]) (rest := []) hx hb hml hown hg hT hK hX (X1_rightOf l κ s2 this i  (hT.k t_this (by decide)) (by omega) (by omega)) sub_fE_fLi (mwV k578 k579 k580 k87 k581) ⟨rfl, by decide, by decide, by decide +kernel⟩ ⟨(Nat.le_of_ble_eq_true rfl), (Nat.le_of_ble_eq_true rfl)⟩ (hT.o3 (hT.k t_this (by decide))) rfl rfl hl.1 rfl (Nat.le_of_ble_eq_true rfl) dX1_liftSample_8 zroom.rf (fun x5 s6 H locs hφ hEs6 hT => ?_)
  obtain ⟨f7, f8⟩ := hφ
  refine lv_istore_n (lv' := [(3, .int x5), (2, .int x1), (0, .ref this), (1, .int i)]) hx hb dX1_liftSample_11 rfl hl (by decide) rfl (fun ls hl => ?_)
  refine lv_iload_n hx hb dX1_liftSample_12 rfl (lv_at hl 1 rfl) ?_
  refine lv_iconst (v := (-1)) hx hb dX1_liftSample_13 (by decide) ?_
  refine lv_icmp_eq (tgt := 31) hx hb dX1_liftSample_14 (by decide) (fun c9 => ?_) (fun c9 => ?_)
  · have c1 := gi_eq c9
    refine lv_lconst (v := 0) hx hb dX1_liftSample_31 (by decide) ?_
    subst hQ9
    exact t_l hx hb hr hlocks hT trivial dX1_liftSample_32
  · have c2 := gi_ne c9
    refine lv_iload_n hx hb dX1_liftSample_17 rfl (lv_at hl 0 rfl) ?_
    refine lv_iconst (v := (-1)) hx hb dX1_liftSample_18 (by decide) ?_
    refine lv_icmp_eq (tgt := 31) hx hb dX1_liftSample_19 (by decide) (fun c9 => ?_) (fun c9 => ?_)
    · have c3 := gi_eq c9
      refine lv_lconst (v := 0) hx hb dX1_liftSample_31 (by decide) ?_
      subst hQ9
      exact t_l hx hb hr hlocks hT trivial dX1_liftSample_32
    · have c4 := gi_ne c9
      refine lv_aload_n hx hb dX1_liftSample_22 rfl (lv_at hl 2 rfl) ?_
      obtain ⟨v9, ev9⟩ : ∃ zz9 : Int32, zI s6 this 5 = zz9 := ⟨_, rfl⟩
      have qv9 : v9.toInt = (zI s6 this 5).toInt := by rw [ev9]
      have b10 := (hT.P (hT.k t_this (by decide)) (by decide)).1
      rw [ev9] at b10
      have b10l := b10.1
      have b10h := b10.2
      refine va_get (D := κ.1) (ci := 1) (v := .int (zI s6 this 5)) (C := RX1) (T := TX1) (N := 13) hx hb hg inX1 hown hK (hT.o3 (hT.k t_this (by decide))).one 0 rfl rfl 5 (by decide) (hg _ k287) (fun _ h9 => h9) rfl dX1_liftSample_23 ?_
      rw [ev9]
      refine lv_bipush (v := 46) hx hb dX1_liftSample_26 (by decide) ?_
      refine lv_icmp_lt (tgt := 33) hx hb dX1_liftSample_28 (by decide) (fun c9 => ?_) (fun c9 => ?_)
      · have c5 := gi_lt c9
        refine lv_aload_n hx hb dX1_liftSample_33 rfl (lv_at hl 2 rfl) ?_
        obtain ⟨r11, er11⟩ : ∃ z, kR κ this 4 = z := ⟨_, rfl⟩
        have tr11 : zk σ0 r11 11 := by rw [← er11]; exact hT0.ref t_this (by decide) (by decide) (by decide)
        refine va_get (D := κ.1) (ci := 1) (v := .ref (kR κ this 4)) (C := RX1) (T := TX1) (N := 13) hx hb hg inX1 hown hK (hT.o3 (hT.k t_this (by decide))).one 0 rfl rfl 4 (by decide) (hg _ k285) (fun _ h9 => h9) rfl dX1_liftSample_34 ?_
        rw [er11]
        refine lv_aload_n hx hb dX1_liftSample_37 rfl (lv_at hl 2 rfl) ?_
        refine va_get (D := κ.1) (ci := 1) (v := .int (zI s6 this 5)) (C := RX1) (T := TX1) (N := 13) hx hb hg inX1 hown hK (hT.o3 (hT.k t_this (by decide))).one 0 rfl rfl 5 (by decide) (hg _ k287) (fun _ h9 => h9) rfl dX1_liftSample_38 ?_
        rw [ev9]
        refine va_aldq hx hb hK (hT.o11 (hT.k tr11 (by decide))).one 0 5 rfl rfl (g_in (by omega) (by omega)) dX1_liftSample_41 ?_
        obtain ⟨r13, er13⟩ : ∃ z, kR κ r11 (ix v9) = z := ⟨_, rfl⟩
        have tr13 : zk σ0 r13 2 := by rw [← er13]; exact hT0.ref tr11 (by decide) (zR11 (ix_lt (by omega) (by omega))) (by decide)
        refine tv (.ref r13) (by rw [← er13]; rfl) ?_
        refine lv_astore (lv' := [(4, .ref r13), (3, .int x5), (2, .int x1), (0, .ref this), (1, .int i)]) hx hb dX1_liftSample_42 hl (by decide) rfl (fun ls hl => ?_)
        refine lv_aload hx hb dX1_liftSample_44 (lv_at hl 0 rfl) ?_
        refine lv_iload_n hx hb dX1_liftSample_46 rfl (lv_at hl 4 rfl) ?_
        have hTo := hT
        refine pf2_0 hx hb hg hown hK hT (hT.k tr13 (by decide)) rfl ⟨by omega, by omega⟩ (hg _ k229) dX1_liftSample_47 (fun H locs s14 hus14 hT => ?_)
        have ev9 : zI s14 this 5 = v9 := (zput_o hus14 (Or.inr (by decide))).trans ev9
        have e15 : zI s14 r13 0 = i := zput_at hus14
        refine lv_aload hx hb dX1_liftSample_50 (lv_at hl 0 rfl) ?_
        refine lv_iload_n hx hb dX1_liftSample_52 rfl (lv_at hl 2 rfl) ?_
        have hTo := hT
        refine pf2_1 hx hb hg hown hK hT (hT.k tr13 (by decide)) rfl ⟨by omega, by omega⟩ (hg _ k232) dX1_liftSample_53 (fun H locs s16 hus16 hT => ?_)
        have ev9 : zI s16 this 5 = v9 := (zput_o hus16 (Or.inr (by decide))).trans ev9
        have e15 : zI s16 r13 0 = i := (zput_o hus16 (Or.inr (by decide))).trans e15
        have e17 : zI s16 r13 1 = x1 := zput_at hus16
        refine lv_aload hx hb dX1_liftSample_56 (lv_at hl 0 rfl) ?_
        refine lv_iload_n hx hb dX1_liftSample_58 rfl (lv_at hl 1 rfl) ?_
        have hTo := hT
        refine pf2_2 hx hb hg hown hK hT (hT.k tr13 (by decide)) rfl ⟨by omega, by omega⟩ (hg _ k235) dX1_liftSample_59 (fun H locs s18 hus18 hT => ?_)
        have ev9 : zI s18 this 5 = v9 := (zput_o hus18 (Or.inr (by decide))).trans ev9
        have e15 : zI s18 r13 0 = i := (zput_o hus18 (Or.inr (by decide))).trans e15
        have e17 : zI s18 r13 1 = x1 := (zput_o hus18 (Or.inr (by decide))).trans e17
        have e19 : zI s18 r13 2 = x5 := zput_at hus18
        refine lv_aload hx hb dX1_liftSample_62 (lv_at hl 0 rfl) ?_
        refine lv_aload_n hx hb dX1_liftSample_64 rfl (lv_at hl 3 rfl) ?_
        obtain ⟨r20, er20⟩ : ∃ z, kR κ this 2 = z := ⟨_, rfl⟩
        have tr20 : zk σ0 r20 9 := by rw [← er20]; exact hT0.ref t_this (by decide) (by decide) (by decide)
        refine va_get (D := κ.1) (ci := 1) (v := .ref (kR κ this 2)) (C := RX1) (T := TX1) (N := 13) hx hb hg inX1 hown hK (hT.o3 (hT.k t_this (by decide))).one 0 rfl rfl 2 (by decide) (hg _ k281) (fun _ h9 => h9) rfl dX1_liftSample_65 ?_
        rw [er20]
        refine lv_iload_n hx hb dX1_liftSample_68 rfl (lv_at hl 2 rfl) ?_
        refine va_lald hx hb hK (hT.o9 (hT.k tr20 (by decide))).one 0 1 rfl rfl (g_in (by omega) (by omega)) dX1_liftSample_69 ?_
        refine lv_topl (fun t21 ht21 => ?_)
        have hTo := hT
        refine pf2_3 hx hb hg hown hK hT (hT.k tr13 (by decide)) rfl (hg _ k237) dX1_liftSample_70 (fun H locs s22 hus22 hT => ?_)
        have ev9 : zI s22 this 5 = v9 := by rw [zpul_I hus22]; exact ev9
        have e15 : zI s22 r13 0 = i := by rw [zpul_I hus22]; exact e15
        have e17 : zI s22 r13 1 = x1 := by rw [zpul_I hus22]; exact e17
        have e19 : zI s22 r13 2 = x5 := by rw [zpul_I hus22]; exact e19
        refine lv_aload hx hb dX1_liftSample_73 (lv_at hl 0 rfl) ?_
        refine lv_aload_n hx hb dX1_liftSample_75 rfl (lv_at hl 3 rfl) ?_
        refine va_get (D := κ.1) (ci := 1) (v := .ref (kR κ this 2)) (C := RX1) (T := TX1) (N := 13) hx hb hg inX1 hown hK (hT.o3 (hT.k t_this (by decide))).one 0 rfl rfl 2 (by decide) (hg _ k281) (fun _ h9 => h9) rfl dX1_liftSample_76 ?_
        rw [er20]
        refine lv_iload_n hx hb dX1_liftSample_79 rfl (lv_at hl 1 rfl) ?_
        refine va_lald hx hb hK (hT.o9 (hT.k tr20 (by decide))).one 0 1 rfl rfl (g_in (by omega) (by omega)) dX1_liftSample_80 ?_
        refine lv_topl (fun t23 ht23 => ?_)
        have hTo := hT
        refine pf2_4 hx hb hg hown hK hT (hT.k tr13 (by decide)) rfl (hg _ k239) dX1_liftSample_81 (fun H locs s24 hus24 hT => ?_)
        have ev9 : zI s24 this 5 = v9 := by rw [zpul_I hus24]; exact ev9
        have e15 : zI s24 r13 0 = i := by rw [zpul_I hus24]; exact e15
        have e17 : zI s24 r13 1 = x1 := by rw [zpul_I hus24]; exact e17
        have e19 : zI s24 r13 2 = x5 := by rw [zpul_I hus24]; exact e19
        refine lv_aload hx hb dX1_liftSample_84 (lv_at hl 0 rfl) ?_
        refine lv_aload_n hx hb dX1_liftSample_86 rfl (lv_at hl 3 rfl) ?_
        refine va_get (D := κ.1) (ci := 1) (v := .ref (kR κ this 2)) (C := RX1) (T := TX1) (N := 13) hx hb hg inX1 hown hK (hT.o3 (hT.k t_this (by decide))).one 0 rfl rfl 2 (by decide) (hg _ k281) (fun _ h9 => h9) rfl dX1_liftSample_87 ?_
        rw [er20]
        refine lv_iload_n hx hb dX1_liftSample_90 rfl (lv_at hl 4 rfl) ?_
        refine va_lald hx hb hK (hT.o9 (hT.k tr20 (by decide))).one 0 1 rfl rfl (g_in (by omega) (by omega)) dX1_liftSample_91 ?_
        refine lv_topl (fun t25 ht25 => ?_)
        have hTo := hT
        refine pf2_5 hx hb hg hown hK hT (hT.k tr13 (by decide)) rfl (hg _ k242) dX1_liftSample_92 (fun H locs s26 hus26 hT => ?_)
        have ev9 : zI s26 this 5 = v9 := by rw [zpul_I hus26]; exact ev9
        have e15 : zI s26 r13 0 = i := by rw [zpul_I hus26]; exact e15
        have e17 : zI s26 r13 1 = x1 := by rw [zpul_I hus26]; exact e17
        have e19 : zI s26 r13 2 = x5 := by rw [zpul_I hus26]; exact e19
        refine lv_aload hx hb dX1_liftSample_95 (lv_at hl 0 rfl) ?_
        refine lv_aload_n hx hb dX1_liftSample_97 rfl (lv_at hl 3 rfl) ?_
        refine lv_iload_n hx hb dX1_liftSample_98 rfl (lv_at hl 2 rfl) ?_
        refine lv_iload_n hx hb dX1_liftSample_99 rfl (lv_at hl 4 rfl) ?_
        refine lv_iload_n hx hb dX1_liftSample_100 rfl (lv_at hl 1 rfl) ?_
        have hTo := hT
        refine tVl (n := 3) (As := [.int x1, .int i, .int x5]) (rest := [.ref r13]) hx hb hml hown hg hT hK hX (X1_shareOf l κ s26 this x1 i x5  (hT.k t_this (by decide)) (by omega) (by omega) (by omega) (by omega) (by omega) (by omega)) sub_fE_fLi (mwV k582 k584 k14 k87 k585) ⟨rfl, by decide, by decide, by decide +kernel⟩ ⟨(Nat.le_of_ble_eq_true rfl), (Nat.le_of_ble_eq_true rfl)⟩ (hT.o3 (hT.k t_this (by decide))) rfl rfl hl.1 rfl (Nat.le_of_ble_eq_true rfl) dX1_liftSample_101 zroom.rf (fun x27 s28 H locs hφ hEs28 hT => ?_)
        have ev9 : zI s28 this 5 = v9 := ((hTo.k t_this (by decide)).eI hEs28 (by decide) rfl).trans ev9
        have e15 : zI s28 r13 0 = i := ((hTo.k tr13 (by decide)).eI hEs28 (by decide) rfl).trans e15
        have e17 : zI s28 r13 1 = x1 := ((hTo.k tr13 (by decide)).eI hEs28 (by decide) rfl).trans e17
        have e19 : zI s28 r13 2 = x5 := ((hTo.k tr13 (by decide)).eI hEs28 (by decide) rfl).trans e19
        have hTo := hT
        refine pf2_6 hx hb hg hown hK hT (hT.k tr13 (by decide)) rfl (hg _ k245) dX1_liftSample_104 (fun H locs s29 hus29 hT => ?_)
        have ev9 : zI s29 this 5 = v9 := by rw [zpul_I hus29]; exact ev9
        have e15 : zI s29 r13 0 = i := by rw [zpul_I hus29]; exact e15
        have e17 : zI s29 r13 1 = x1 := by rw [zpul_I hus29]; exact e17
        have e19 : zI s29 r13 2 = x5 := by rw [zpul_I hus29]; exact e19
        refine lv_aload hx hb dX1_liftSample_107 (lv_at hl 0 rfl) ?_
        refine lv_aload_n hx hb dX1_liftSample_109 rfl (lv_at hl 3 rfl) ?_
        obtain ⟨v30, ev30⟩ : ∃ zz9 : Int32, zI σ0 this 8 = zz9 := ⟨_, rfl⟩
        have qv30 : v30.toInt = (zI σ0 this 8).toInt := by rw [ev30]
        refine va_get (D := κ.1) (ci := 1) (v := .int (zI s29 this 8)) (C := RX1) (T := TX1) (N := 13) hx hb hg inX1 hown hK (hT.o3 (hT.k t_this (by decide))).one 0 rfl rfl 8 (by decide) (hg _ k293) (fun _ h9 => h9) rfl dX1_liftSample_110 ?_
        rw [(hT.eI t_this (by decide) rfl ev30)]
        have hTo := hT
        refine pf2_7 hx hb hg hown hK hT (hT.k tr13 (by decide)) rfl (hg _ k247) dX1_liftSample_113 (fun H locs s31 hus31 hT => ?_)
        have ev9 : zI s31 this 5 = v9 := (zput_o hus31 (Or.inr (by decide))).trans ev9
        have e15 : zI s31 r13 0 = i := (zput_o hus31 (Or.inr (by decide))).trans e15
        have e17 : zI s31 r13 1 = x1 := (zput_o hus31 (Or.inr (by decide))).trans e17
        have e19 : zI s31 r13 2 = x5 := (zput_o hus31 (Or.inr (by decide))).trans e19
        have e32 : zI s31 r13 7 = v30 := zput_at hus31
        refine lv_aload hx hb dX1_liftSample_116 (lv_at hl 0 rfl) ?_
        refine lv_aload_n hx hb dX1_liftSample_118 rfl (lv_at hl 3 rfl) ?_
        obtain ⟨v33, ev33⟩ : ∃ zz9 : Int32, zI σ0 this 9 = zz9 := ⟨_, rfl⟩
        have qv33 : v33.toInt = (zI σ0 this 9).toInt := by rw [ev33]
        have b34 : isB v33 := by have q9 := (hT.P (hT.k t_this (by decide)) (by decide)).2; rw [(hT.eI t_this (by decide) rfl ev33)] at q9; exact q9
        refine va_get (D := κ.1) (ci := 1) (v := .int (zI s31 this 9)) (C := RX1) (T := TX1) (N := 13) hx hb hg inX1 hown hK (hT.o3 (hT.k t_this (by decide))).one 0 rfl rfl 9 (by decide) (hg _ k295) (fun _ h9 => h9) rfl dX1_liftSample_119 ?_
        rw [(hT.eI t_this (by decide) rfl ev33)]
        have hTo := hT
        refine pf2_8 hx hb hg hown hK hT (hT.k tr13 (by decide)) rfl b34 (hg _ k249) dX1_liftSample_122 (fun H locs s35 hus35 hT => ?_)
        have ev9 : zI s35 this 5 = v9 := (zput_o hus35 (Or.inr (by decide))).trans ev9
        have e15 : zI s35 r13 0 = i := (zput_o hus35 (Or.inr (by decide))).trans e15
        have e17 : zI s35 r13 1 = x1 := (zput_o hus35 (Or.inr (by decide))).trans e17
        have e19 : zI s35 r13 2 = x5 := (zput_o hus35 (Or.inr (by decide))).trans e19
        have e32 : zI s35 r13 7 = v30 := (zput_o hus35 (Or.inr (by decide))).trans e32
        have e36 : zI s35 r13 8 = v33 := zput_at hus35
        refine lv_aload_n hx hb dX1_liftSample_125 rfl (lv_at hl 3 rfl) ?_
        refine lv_aload_n hx hb dX1_liftSample_126 rfl (lv_at hl 3 rfl) ?_
        obtain ⟨r37, er37⟩ : ∃ z, kR κ this 11 = z := ⟨_, rfl⟩
        have tr37 : zk σ0 r37 1 := by rw [← er37]; exact hT0.ref t_this (by decide) (by decide) (by decide)
        refine va_get (D := κ.1) (ci := 1) (v := .ref (kR κ this 11)) (C := RX1) (T := TX1) (N := 13) hx hb hg inX1 hown hK (hT.o3 (hT.k t_this (by decide))).one 0 rfl rfl 11 (by decide) (hg _ k298) (fun _ h9 => h9) rfl dX1_liftSample_127 ?_
        rw [er37]
        refine lv_aload_n hx hb dX1_liftSample_130 rfl (lv_at hl 3 rfl) ?_
        refine va_get (D := κ.1) (ci := 1) (v := .int (zI s35 this 8)) (C := RX1) (T := TX1) (N := 13) hx hb hg inX1 hown hK (hT.o3 (hT.k t_this (by decide))).one 0 rfl rfl 8 (by decide) (hg _ k293) (fun _ h9 => h9) rfl dX1_liftSample_131 ?_
        rw [(hT.eI t_this (by decide) rfl ev30)]
        refine lv_iload_n hx hb dX1_liftSample_134 rfl (lv_at hl 2 rfl) ?_
        refine lv_aload_n hx hb dX1_liftSample_135 rfl (lv_at hl 3 rfl) ?_
        obtain ⟨r38, er38⟩ : ∃ z, kR κ this 0 = z := ⟨_, rfl⟩
        have tr38 : zk σ0 r38 4 := by rw [← er38]; exact hT0.ref t_this (by decide) (by decide) (by decide)
        refine va_get (D := κ.1) (ci := 1) (v := .ref (kR κ this 0)) (C := RX1) (T := TX1) (N := 13) hx hb hg inX1 hown hK (hT.o3 (hT.k t_this (by decide))).one 0 rfl rfl 0 (by decide) (hg _ k278) (fun _ h9 => h9) rfl dX1_liftSample_136 ?_
        rw [er38]
        obtain ⟨r39, er39⟩ : ∃ z, kR κ r38 0 = z := ⟨_, rfl⟩
        have tr39 : zk σ0 r39 8 := by rw [← er39]; exact hT0.ref tr38 (by decide) (by decide) (by decide)
        refine va_get (D := κ.1) (ci := 0) (v := .ref (kR κ r38 0)) (C := RX0) (T := TX0) (N := 7) hx hb hg inX0 hown hK (hT.o4 (hT.k tr38 (by decide))).one 0 rfl rfl 0 (by decide) (hg _ k157) (fun _ h9 => h9) rfl dX1_liftSample_139 ?_
        rw [er39]
        refine lv_iload_n hx hb dX1_liftSample_142 rfl (lv_at hl 4 rfl) ?_
        refine va_iald hx hb hK (hT.o8 (hT.k tr39 (by decide))).one 0 0 rfl rfl (g_in (by omega) (by omega)) dX1_liftSample_143 ?_
        refine lv_topi (fun t40 ht40 => ?_)
        refine lv_iload_n hx hb dX1_liftSample_144 rfl (lv_at hl 1 rfl) ?_
        have hTo := hT
        refine tVv (n := 5) (As := [.ref r37, .int v30, .int x1, .int t40, .int x5]) (rest := []) hx hb hml hown hg hT hK hX (X1_predictInto l κ s35 this r37 v30 x1 t40 x5  (hT.k t_this (by decide)) (hT.k tr37 (by decide)) (by omega) (by omega) (by omega) (by omega)) sub_fW_fLi (mwV k542 k544 k10 k87 k545) ⟨rfl, by decide, by decide, by decide +kernel⟩ ⟨(Nat.le_of_ble_eq_true rfl), (Nat.le_of_ble_eq_true rfl)⟩ (hT.o3 (hT.k t_this (by decide))) rfl rfl hl.1 rfl (Nat.le_of_ble_eq_true rfl) dX1_liftSample_145 zroom.rf (fun s42 H locs hφ hEs42 hT => ?_)
        have ev9 : zI s42 this 5 = v9 := ((hTo.k t_this (by decide)).eI hEs42 (by decide) rfl).trans ev9
        have e15 : zI s42 r13 0 = i := ((hTo.k tr13 (by decide)).eI hEs42 (by decide) rfl).trans e15
        have e17 : zI s42 r13 1 = x1 := ((hTo.k tr13 (by decide)).eI hEs42 (by decide) rfl).trans e17
        have e19 : zI s42 r13 2 = x5 := ((hTo.k tr13 (by decide)).eI hEs42 (by decide) rfl).trans e19
        have e32 : zI s42 r13 7 = v30 := ((hTo.k tr13 (by decide)).eI hEs42 (by decide) rfl).trans e32
        have e36 : zI s42 r13 8 = v33 := ((hTo.k tr13 (by decide)).eI hEs42 (by decide) rfl).trans e36
        refine lv_aload hx hb dX1_liftSample_148 (lv_at hl 0 rfl) ?_
        obtain ⟨r43, er43⟩ : ∃ z, kR κ r13 9 = z := ⟨_, rfl⟩
        have tr43 : zk σ0 r43 1 := by rw [← er43]; exact hT0.ref tr13 (by decide) (by decide) (by decide)
        refine va_get (D := κ.1) (ci := 2) (v := .ref (kR κ r13 9)) (C := RX2) (T := TX2) (N := 10) hx hb hg inX2 hown hK (hT.o2 (hT.k tr13 (by decide))).one 0 rfl rfl 9 (by decide) (hg _ k252) (fun _ h9 => h9) rfl dX1_liftSample_150 ?_
        rw [er43]
        refine lv_aload_n hx hb dX1_liftSample_153 rfl (lv_at hl 3 rfl) ?_
        obtain ⟨r44, er44⟩ : ∃ z, kR κ this 1 = z := ⟨_, rfl⟩
        have tr44 : zk σ0 r44 10 := by rw [← er44]; exact hT0.ref t_this (by decide) (by decide) (by decide)
        refine va_get (D := κ.1) (ci := 1) (v := .ref (kR κ this 1)) (C := RX1) (T := TX1) (N := 13) hx hb hg inX1 hown hK (hT.o3 (hT.k t_this (by decide))).one 0 rfl rfl 1 (by decide) (hg _ k279) (fun _ h9 => h9) rfl dX1_liftSample_154 ?_
        rw [er44]
        refine lv_iload_n hx hb dX1_liftSample_157 rfl (lv_at hl 4 rfl) ?_
        refine va_aldq hx hb hK (hT.o10 (hT.k tr44 (by decide))).one 0 4 rfl rfl (g_in (by omega) (by omega)) dX1_liftSample_158 ?_
        obtain ⟨r46, er46⟩ : ∃ z, kR κ r44 (ix i) = z := ⟨_, rfl⟩
        have tr46 : zk σ0 r46 1 := by rw [← er46]; exact hT0.ref tr44 (by decide) (zR10 (ix_lt (by omega) (by omega))) (by decide)
        refine tv (.ref r46) (by rw [← er46]; rfl) ?_
        obtain ⟨h49, oh49, th49⟩ := hT.o1 (hT.k tr43 (by decide))
        have hTo := hT
        refine tVv (n := 1) (As := [.ref r46]) (rest := []) hx hb hml hown hg hT hK hX (X4_copyFrom l κ s42 r43 r46  (hT.k tr43 (by decide)) (hT.k tr46 (by decide)) ) sub_fW_fLi (mwV k455 k456 k457 k88 k458) ⟨rfl, by decide, by decide, by decide +kernel⟩ ⟨(Nat.le_of_ble_eq_true rfl), (Nat.le_of_ble_eq_true rfl)⟩ oh49 rfl rfl hl.1 rfl (Nat.le_of_ble_eq_true rfl) dX1_liftSample_159 zroom.rf (fun s48 H locs hφ hEs48 hT => ?_)
        have ev9 : zI s48 this 5 = v9 := ((hTo.k t_this (by decide)).eI hEs48 (by decide) rfl).trans ev9
        have e15 : zI s48 r13 0 = i := ((hTo.k tr13 (by decide)).eI hEs48 (by decide) rfl).trans e15
        have e17 : zI s48 r13 1 = x1 := ((hTo.k tr13 (by decide)).eI hEs48 (by decide) rfl).trans e17
        have e19 : zI s48 r13 2 = x5 := ((hTo.k tr13 (by decide)).eI hEs48 (by decide) rfl).trans e19
        have e32 : zI s48 r13 7 = v30 := ((hTo.k tr13 (by decide)).eI hEs48 (by decide) rfl).trans e32
        have e36 : zI s48 r13 8 = v33 := ((hTo.k tr13 (by decide)).eI hEs48 (by decide) rfl).trans e36
        refine lv_aload hx hb dX1_liftSample_162 (lv_at hl 0 rfl) ?_
        refine va_get (D := κ.1) (ci := 2) (v := .ref (kR κ r13 9)) (C := RX2) (T := TX2) (N := 10) hx hb hg inX2 hown hK (hT.o2 (hT.k tr13 (by decide))).one 0 rfl rfl 9 (by decide) (hg _ k252) (fun _ h9 => h9) rfl dX1_liftSample_164 ?_
        rw [er43]
        refine lv_aload_n hx hb dX1_liftSample_167 rfl (lv_at hl 3 rfl) ?_
        refine va_get (D := κ.1) (ci := 1) (v := .ref (kR κ this 11)) (C := RX1) (T := TX1) (N := 13) hx hb hg inX1 hown hK (hT.o3 (hT.k t_this (by decide))).one 0 rfl rfl 11 (by decide) (hg _ k298) (fun _ h9 => h9) rfl dX1_liftSample_168 ?_
        rw [er37]
        refine lv_ldc2 hx hb hown (hg _ k550) dX1_liftSample_171 ?_
        obtain ⟨h52, oh52, th52⟩ := hT.o1 (hT.k tr43 (by decide))
        have hTo := hT
        refine tVv (n := 2) (As := [.ref r37, .long (-1)]) (rest := []) hx hb hml hown hg hT hK hX (X4_add l κ s48 r43 r37 (-1)  (hT.k tr43 (by decide)) (hT.k tr37 (by decide)) ) sub_fW_fLi (mwV k340 k341 k342 k88 k343) ⟨rfl, by decide, by decide, by decide +kernel⟩ ⟨(Nat.le_of_ble_eq_true rfl), (Nat.le_of_ble_eq_true rfl)⟩ oh52 rfl rfl hl.1 rfl (Nat.le_of_ble_eq_true rfl) dX1_liftSample_174 zroom.rf (fun s51 H locs hφ hEs51 hT => ?_)
        have ev9 : zI s51 this 5 = v9 := ((hTo.k t_this (by decide)).eI hEs51 (by decide) rfl).trans ev9
        have e15 : zI s51 r13 0 = i := ((hTo.k tr13 (by decide)).eI hEs51 (by decide) rfl).trans e15
        have e17 : zI s51 r13 1 = x1 := ((hTo.k tr13 (by decide)).eI hEs51 (by decide) rfl).trans e17
        have e19 : zI s51 r13 2 = x5 := ((hTo.k tr13 (by decide)).eI hEs51 (by decide) rfl).trans e19
        have e32 : zI s51 r13 7 = v30 := ((hTo.k tr13 (by decide)).eI hEs51 (by decide) rfl).trans e32
        have e36 : zI s51 r13 8 = v33 := ((hTo.k tr13 (by decide)).eI hEs51 (by decide) rfl).trans e36
        refine lv_aload_n hx hb dX1_liftSample_177 rfl (lv_at hl 3 rfl) ?_
        refine lv_aload hx hb dX1_liftSample_178 (lv_at hl 0 rfl) ?_
        refine lv_iconst (v := 1) hx hb dX1_liftSample_180 (by decide) ?_
        have hTo := hT
        refine tVv (n := 2) (As := [.ref r13, .int 1]) (rest := []) hx hb hml hown hg hT hK hX (X1_addGains l κ s51 this r13 1  (hT.k t_this (by decide)) (hT.k tr13 (by decide)) ) sub_fW_fLi (mwV k586 k588 k15 k87 k589) ⟨rfl, by decide, by decide, by decide +kernel⟩ ⟨(Nat.le_of_ble_eq_true rfl), (Nat.le_of_ble_eq_true rfl)⟩ (hT.o3 (hT.k t_this (by decide))) rfl rfl hl.1 rfl (Nat.le_of_ble_eq_true rfl) dX1_liftSample_181 zroom.rf (fun s54 H locs hφ hEs54 hT => ?_)
        have ev9 : zI s54 this 5 = v9 := ((hTo.k t_this (by decide)).eI hEs54 (by decide) rfl).trans ev9
        have e15 : zI s54 r13 0 = i := ((hTo.k tr13 (by decide)).eI hEs54 (by decide) rfl).trans e15
        have e17 : zI s54 r13 1 = x1 := ((hTo.k tr13 (by decide)).eI hEs54 (by decide) rfl).trans e17
        have e19 : zI s54 r13 2 = x5 := ((hTo.k tr13 (by decide)).eI hEs54 (by decide) rfl).trans e19
        have e32 : zI s54 r13 7 = v30 := ((hTo.k tr13 (by decide)).eI hEs54 (by decide) rfl).trans e32
        have e36 : zI s54 r13 8 = v33 := ((hTo.k tr13 (by decide)).eI hEs54 (by decide) rfl).trans e36
        refine lv_aload_n hx hb dX1_liftSample_184 rfl (lv_at hl 3 rfl) ?_
        refine va_get (D := κ.1) (ci := 1) (v := .ref (kR κ this 2)) (C := RX1) (T := TX1) (N := 13) hx hb hg inX1 hown hK (hT.o3 (hT.k t_this (by decide))).one 0 rfl rfl 2 (by decide) (hg _ k281) (fun _ h9 => h9) rfl dX1_liftSample_185 ?_
        rw [er20]
        refine lv_iload_n hx hb dX1_liftSample_188 rfl (lv_at hl 2 rfl) ?_
        refine lv_aload hx hb dX1_liftSample_189 (lv_at hl 0 rfl) ?_
        have hTo := hT
        refine tVl (n := 0) (As := []) (rest := [.int x1, .ref r20]) hx hb hml hown hg hT hK hX (X2_leftWeightAfter l κ s54 r13  (hT.k tr13 (by decide)) ) sub_fE_fLi (mwV k590 k591 k592 k89 k593) ⟨rfl, by decide, by decide, by decide +kernel⟩ ⟨(Nat.le_of_ble_eq_true rfl), (Nat.le_of_ble_eq_true rfl)⟩ (hT.o2 (hT.k tr13 (by decide))) rfl rfl hl.1 rfl (Nat.le_of_ble_eq_true rfl) dX1_liftSample_191 zroom.rf (fun x55 s56 H locs hφ hEs56 hT => ?_)
        have ev9 : zI s56 this 5 = v9 := ((hTo.k t_this (by decide)).eI hEs56 (by decide) rfl).trans ev9
        have e15 : zI s56 r13 0 = i := ((hTo.k tr13 (by decide)).eI hEs56 (by decide) rfl).trans e15
        have e17 : zI s56 r13 1 = x1 := ((hTo.k tr13 (by decide)).eI hEs56 (by decide) rfl).trans e17
        have e19 : zI s56 r13 2 = x5 := ((hTo.k tr13 (by decide)).eI hEs56 (by decide) rfl).trans e19
        have e32 : zI s56 r13 7 = v30 := ((hTo.k tr13 (by decide)).eI hEs56 (by decide) rfl).trans e32
        have e36 : zI s56 r13 8 = v33 := ((hTo.k tr13 (by decide)).eI hEs56 (by decide) rfl).trans e36
        have hTo := hT
        refine tastl (n := 48) hx hb hK hT (hT.k tr20 (by decide)) ⟨by decide, by decide⟩ (fun _ _ _ => rfl) (fun _ _ => trivial) (fun _ => rfl) (by omega) (by omega) dX1_liftSample_194 (fun H locs s57 hus57 hT => ?_)
        have ev9 : zI s57 this 5 = v9 := by rw [zpul_I hus57]; exact ev9
        have e15 : zI s57 r13 0 = i := by rw [zpul_I hus57]; exact e15
        have e17 : zI s57 r13 1 = x1 := by rw [zpul_I hus57]; exact e17
        have e19 : zI s57 r13 2 = x5 := by rw [zpul_I hus57]; exact e19
        have e32 : zI s57 r13 7 = v30 := by rw [zpul_I hus57]; exact e32
        have e36 : zI s57 r13 8 = v33 := by rw [zpul_I hus57]; exact e36
        refine lv_aload_n hx hb dX1_liftSample_195 rfl (lv_at hl 3 rfl) ?_
        refine va_get (D := κ.1) (ci := 1) (v := .ref (kR κ this 2)) (C := RX1) (T := TX1) (N := 13) hx hb hg inX1 hown hK (hT.o3 (hT.k t_this (by decide))).one 0 rfl rfl 2 (by decide) (hg _ k281) (fun _ h9 => h9) rfl dX1_liftSample_196 ?_
        rw [er20]
        refine lv_iload_n hx hb dX1_liftSample_199 rfl (lv_at hl 1 rfl) ?_
        refine lv_aload hx hb dX1_liftSample_200 (lv_at hl 0 rfl) ?_
        have hTo := hT
        refine tVl (n := 0) (As := []) (rest := [.int x5, .ref r20]) hx hb hml hown hg hT hK hX (X2_rightWeightAfter l κ s57 r13  (hT.k tr13 (by decide)) ) sub_fE_fLi (mwV k594 k595 k596 k89 k597) ⟨rfl, by decide, by decide, by decide +kernel⟩ ⟨(Nat.le_of_ble_eq_true rfl), (Nat.le_of_ble_eq_true rfl)⟩ (hT.o2 (hT.k tr13 (by decide))) rfl rfl hl.1 rfl (Nat.le_of_ble_eq_true rfl) dX1_liftSample_202 zroom.rf (fun x58 s59 H locs hφ hEs59 hT => ?_)
        have ev9 : zI s59 this 5 = v9 := ((hTo.k t_this (by decide)).eI hEs59 (by decide) rfl).trans ev9
        have e15 : zI s59 r13 0 = i := ((hTo.k tr13 (by decide)).eI hEs59 (by decide) rfl).trans e15
        have e17 : zI s59 r13 1 = x1 := ((hTo.k tr13 (by decide)).eI hEs59 (by decide) rfl).trans e17
        have e19 : zI s59 r13 2 = x5 := ((hTo.k tr13 (by decide)).eI hEs59 (by decide) rfl).trans e19
        have e32 : zI s59 r13 7 = v30 := ((hTo.k tr13 (by decide)).eI hEs59 (by decide) rfl).trans e32
        have e36 : zI s59 r13 8 = v33 := ((hTo.k tr13 (by decide)).eI hEs59 (by decide) rfl).trans e36
        have hTo := hT
        refine tastl (n := 48) hx hb hK hT (hT.k tr20 (by decide)) ⟨by decide, by decide⟩ (fun _ _ _ => rfl) (fun _ _ => trivial) (fun _ => rfl) (by omega) (by omega) dX1_liftSample_205 (fun H locs s60 hus60 hT => ?_)
        have ev9 : zI s60 this 5 = v9 := by rw [zpul_I hus60]; exact ev9
        have e15 : zI s60 r13 0 = i := by rw [zpul_I hus60]; exact e15
        have e17 : zI s60 r13 1 = x1 := by rw [zpul_I hus60]; exact e17
        have e19 : zI s60 r13 2 = x5 := by rw [zpul_I hus60]; exact e19
        have e32 : zI s60 r13 7 = v30 := by rw [zpul_I hus60]; exact e32
        have e36 : zI s60 r13 8 = v33 := by rw [zpul_I hus60]; exact e36
        refine lv_aload_n hx hb dX1_liftSample_206 rfl (lv_at hl 3 rfl) ?_
        obtain ⟨r61, er61⟩ : ∃ z, kR κ this 3 = z := ⟨_, rfl⟩
        have tr61 : zk σ0 r61 15 := by rw [← er61]; exact hT0.ref t_this (by decide) (by decide) (by decide)
        refine va_get (D := κ.1) (ci := 1) (v := .ref (kR κ this 3)) (C := RX1) (T := TX1) (N := 13) hx hb hg inX1 hown hK (hT.o3 (hT.k t_this (by decide))).one 0 rfl rfl 3 (by decide) (hg _ k283) (fun _ h9 => h9) rfl dX1_liftSample_207 ?_
        rw [er61]
        refine lv_iload_n hx hb dX1_liftSample_210 rfl (lv_at hl 4 rfl) ?_
        refine lv_aload_n hx hb dX1_liftSample_211 rfl (lv_at hl 3 rfl) ?_
        refine va_get (D := κ.1) (ci := 1) (v := .int (zI s60 this 5)) (C := RX1) (T := TX1) (N := 13) hx hb hg inX1 hown hK (hT.o3 (hT.k t_this (by decide))).one 0 rfl rfl 5 (by decide) (hg _ k287) (fun _ h9 => h9) rfl dX1_liftSample_212 ?_
        rw [ev9]
        have hTo := hT
        refine tasti (n := 48) hx hb hK hT (hT.k tr61 (by decide)) ⟨by decide, by decide⟩ (fun _ _ _ => rfl) (fun _ _ => trivial) (fun _ => rfl) (by omega) (by omega) dX1_liftSample_215 (fun H locs s62 hus62 hT => ?_)
        have ev9 : zI s62 this 5 = v9 := (zput_o hus62 (Or.inl ((hTo.k t_this (by decide)).ne (hTo.k tr61 (by decide)) (by decide)))).trans ev9
        have e15 : zI s62 r13 0 = i := (zput_o hus62 (Or.inl ((hTo.k tr13 (by decide)).ne (hTo.k tr61 (by decide)) (by decide)))).trans e15
        have e17 : zI s62 r13 1 = x1 := (zput_o hus62 (Or.inl ((hTo.k tr13 (by decide)).ne (hTo.k tr61 (by decide)) (by decide)))).trans e17
        have e19 : zI s62 r13 2 = x5 := (zput_o hus62 (Or.inl ((hTo.k tr13 (by decide)).ne (hTo.k tr61 (by decide)) (by decide)))).trans e19
        have e32 : zI s62 r13 7 = v30 := (zput_o hus62 (Or.inl ((hTo.k tr13 (by decide)).ne (hTo.k tr61 (by decide)) (by decide)))).trans e32
        have e36 : zI s62 r13 8 = v33 := (zput_o hus62 (Or.inl ((hTo.k tr13 (by decide)).ne (hTo.k tr61 (by decide)) (by decide)))).trans e36
        refine lv_aload_n hx hb dX1_liftSample_216 rfl (lv_at hl 3 rfl) ?_
        refine lv_dup hx hb dX1_liftSample_217 rfl ?_
        refine va_get (D := κ.1) (ci := 1) (v := .int (zI s62 this 5)) (C := RX1) (T := TX1) (N := 13) hx hb hg inX1 hown hK (hT.o3 (hT.k t_this (by decide))).one 0 rfl rfl 5 (by decide) (hg _ k287) (fun _ h9 => h9) rfl dX1_liftSample_218 ?_
        rw [ev9]
        refine lv_iconst (v := 1) hx hb dX1_liftSample_221 (by decide) ?_
        refine lv_iadd hx hb dX1_liftSample_222 ?_
        first | refine g_add (by omega) (by omega) (fun t63 ht63 => ?_) | refine lv_topi (fun t63 ht63 => ?_)
        have hTo := hT
        refine pf3_5 hx hb hg hown hK hT (hT.k t_this (by decide)) rfl ⟨by omega, by omega⟩ (hg _ k287) dX1_liftSample_223 (fun H locs s64 hus64 hT => ?_)
        have e15 : zI s64 r13 0 = i := (zput_o hus64 (Or.inr (by decide))).trans e15
        have e17 : zI s64 r13 1 = x1 := (zput_o hus64 (Or.inr (by decide))).trans e17
        have e19 : zI s64 r13 2 = x5 := (zput_o hus64 (Or.inr (by decide))).trans e19
        have e32 : zI s64 r13 7 = v30 := (zput_o hus64 (Or.inr (by decide))).trans e32
        have e36 : zI s64 r13 8 = v33 := (zput_o hus64 (Or.inr (by decide))).trans e36
        have e65 : zI s64 this 5 = t63 := zput_at hus64
        refine lv_aload hx hb dX1_liftSample_226 (lv_at hl 0 rfl) ?_
        refine va_get (D := κ.1) (ci := 2) (v := .ref (kR κ r13 9)) (C := RX2) (T := TX2) (N := 10) hx hb hg inX2 hown hK (hT.o2 (hT.k tr13 (by decide))).one 0 rfl rfl 9 (by decide) (hg _ k252) (fun _ h9 => h9) rfl dX1_liftSample_228 ?_
        rw [er43]
        obtain ⟨h68, oh68, th68⟩ := hT.o1 (hT.k tr43 (by decide))
        have hTo := hT
        refine tVl (n := 0) (As := []) (rest := []) hx hb hml hown hg hT hK hX (X4_toLong l κ s64 r43  (hT.k tr43 (by decide)) ) sub_fE_fLi (mwV k500 k436 k437 k88 k438) ⟨rfl, by decide, by decide, by decide +kernel⟩ ⟨(Nat.le_of_ble_eq_true rfl), (Nat.le_of_ble_eq_true rfl)⟩ oh68 rfl rfl hl.1 rfl (Nat.le_of_ble_eq_true rfl) dX1_liftSample_231 zroom.rf (fun x66 s67 H locs hφ hEs67 hT => ?_)
        have e15 : zI s67 r13 0 = i := ((hTo.k tr13 (by decide)).eI hEs67 (by decide) rfl).trans e15
        have e17 : zI s67 r13 1 = x1 := ((hTo.k tr13 (by decide)).eI hEs67 (by decide) rfl).trans e17
        have e19 : zI s67 r13 2 = x5 := ((hTo.k tr13 (by decide)).eI hEs67 (by decide) rfl).trans e19
        have e32 : zI s67 r13 7 = v30 := ((hTo.k tr13 (by decide)).eI hEs67 (by decide) rfl).trans e32
        have e36 : zI s67 r13 8 = v33 := ((hTo.k tr13 (by decide)).eI hEs67 (by decide) rfl).trans e36
        have e65 : zI s67 this 5 = t63 := ((hTo.k t_this (by decide)).eI hEs67 (by decide) rfl).trans e65
        subst hQ9
        exact t_l hx hb hr hlocks hT trivial dX1_liftSample_234
      · have c6 := gi_nlt c9
        refine lv_lconst (v := 0) hx hb dX1_liftSample_31 (by decide) ?_
        subst hQ9
        exact t_l hx hb hr hlocks hT trivial dX1_liftSample_32
set_option maxHeartbeats 4000000 in
set_option maxRecDepth 100000 in
theorem X1_liftChosen (l : Launch) (κ : Kt) (σ0 : Gh) (this : Nat) (n : Int32) (t_this : zk σ0 this 3) (h0 : 0 ≤ n.toInt) (h1 : n.toInt ≤ 46) : TC l yX1_liftChosen cX1_liftChosen 4 (some .int) 6 164 [.ref this, .int n] κ σ0 (tqi κ fLi σ0 (fun (r : Int32) (τ : Gh) => True)) := by
  refine TC.of fLi (by decide +kernel) (Nat.le_of_ble_eq_true rfl) ?_
  intro p e s m below meth c ls hcs hK hX hT hl
  obtain ⟨hx, hb, hr, hml, hown, hg, hlocks, hin⟩ := hcs
  have hown : s.vm.findClass RX1 = some m.cls := hown
  have hl : lv_has ls 4 [(0, .ref this), (1, .int n)] := hl
  have hT0 := hT
  have nm1 : ((-1) : Int32).toInt = (-1) := by decide
  have n0 : (0 : Int32).toInt = 0 := by decide
  have n_lo := Int32.le_toInt n
  have n_hi := Int32.toInt_lt n
  generalize hQ9 : tQ _ _ _ _ _ _ = Q9
  refine lv_iconst (v := 0) hx hb dX1_liftChosen_0 (by decide) ?_
  refine lv_istore_n (lv' := [(2, .int 0), (0, .ref this), (1, .int n)]) hx hb dX1_liftChosen_1 rfl hl (by decide) rfl (fun ls hl => ?_)
  have loop2 : ∀ (n9 : Nat) (j : Int32) (H : Heap) (locs : List Loc) (sg : Gh) (ls : Array Slot), TS κ fLi σ0 sg s H locs → (0 ≤ j.toInt) → (j.toInt ≤ n.toInt) → lv_has ls 4 [(2, .int j), (0, .ref this), (1, .int n)] → (n.toInt - j.toInt) < n9 → tW p l e 6 164 κ s m #[.ref this, .int n] below meth c H locs Q9 (F0 m 2 ls []) := by
    intro n9
    induction n9 with
    | zero =>
      intro j H locs sg ls hT q1 q2 hl hm9
      exfalso
      omega
    | succ n9 ih9 =>
      have ih2 := ih9
      clear ih9
      intro j H locs s1 ls hT q1 q2 hl hm9
      refine lv_iload_n hx hb dX1_liftChosen_2 rfl (lv_at hl 0 rfl) ?_
      refine lv_iload_n hx hb dX1_liftChosen_3 rfl (lv_at hl 2 rfl) ?_
      refine lv_icmp_ge (tgt := 32) hx hb dX1_liftChosen_4 (by decide) (fun c9 => ?_) (fun c9 => ?_)
      · have c1 := gi_le c9
        refine lv_iload_n hx hb dX1_liftChosen_32 rfl (lv_at hl 0 rfl) ?_
        subst hQ9
        exact t_i hx hb hr hlocks hT trivial dX1_liftChosen_33
      · have c2 := gi_nle c9
        refine lv_aload_n hx hb dX1_liftChosen_7 rfl (lv_at hl 1 rfl) ?_
        have hTo := hT
        refine tVi (n := 0) (As := []) (rest := []) hx hb hml hown hg hT hK hX (X1_chosenSample l κ s1 this  (hT.k t_this (by decide)) ) sub_fW_fLi (mwV k530 k531 k532 k87 k533) ⟨rfl, by decide, by decide, by decide +kernel⟩ ⟨(Nat.le_of_ble_eq_true rfl), (Nat.le_of_ble_eq_true rfl)⟩ (hT.o3 (hT.k t_this (by decide))) rfl rfl hl.1 rfl (Nat.le_of_ble_eq_true rfl) dX1_liftChosen_8 zroom.rf (fun x2 s3 H locs hφ hEs3 hT => ?_)
        obtain ⟨f4, f5⟩ := hφ
        refine lv_istore_n (lv' := [(3, .int x2), (2, .int j), (0, .ref this), (1, .int n)]) hx hb dX1_liftChosen_11 rfl hl (by decide) rfl (fun ls hl => ?_)
        refine lv_iload_n hx hb dX1_liftChosen_12 rfl (lv_at hl 0 rfl) ?_
        refine lv_iconst (v := (-1)) hx hb dX1_liftChosen_13 (by decide) ?_
        refine lv_icmp_ne (tgt := 20) hx hb dX1_liftChosen_14 (by decide) (fun c9 => ?_) (fun c9 => ?_)
        · have c3 := gi_ne c9
          refine lv_aload_n hx hb dX1_liftChosen_20 rfl (lv_at hl 2 rfl) ?_
          refine lv_iload_n hx hb dX1_liftChosen_21 rfl (lv_at hl 0 rfl) ?_
          have hTo := hT
          refine tVl (n := 1) (As := [.int x2]) (rest := []) hx hb hml hown hg hT hK hX (X1_liftSample l κ s3 this x2  (hT.k t_this (by decide)) (by omega) (by omega)) (fun _ _ h => h) (mwV k570 k571 k572 k87 k573) ⟨rfl, by decide, by decide, by decide +kernel⟩ ⟨(Nat.le_of_ble_eq_true rfl), (Nat.le_of_ble_eq_true rfl)⟩ (hT.o3 (hT.k t_this (by decide))) rfl rfl hl.1 rfl (Nat.le_of_ble_eq_true rfl) dX1_liftChosen_22 zroom.rf (fun x6 s7 H locs hφ hEs7 hT => ?_)
          refine lv_pop2_2 hx hb dX1_liftChosen_25 rfl ?_
          obtain ⟨t8, qt8⟩ : ∃ zz9 : Int32, j + Int32.ofInt 1 = zz9 := ⟨_, rfl⟩
          refine lv_iinc (v := t8) (lv' := [(2, .int t8), (3, .int x2), (0, .ref this), (1, .int n)]) hx hb dX1_liftChosen_26 hl (k := 1) rfl qt8 (by decide) rfl (fun ls hl => ?_)
          have ht8 : t8.toInt = j.toInt + 1 := by rw [← qt8]; exact v_addi rfl (show (Int32.ofInt 1).toInt = 1 from by decide) (by omega) (by omega)
          refine lv_goto (tgt := 2) hx hb dX1_liftChosen_29 (by decide) ?_
          exact ih2 t8 _ _ _ _ hT  (by omega) (by omega) (lv_sub hl [0, 2, 3] rfl) (by omega)
        · have c4 := gi_eq c9
          refine lv_goto (tgt := 32) hx hb dX1_liftChosen_17 (by decide) ?_
          refine lv_iload_n hx hb dX1_liftChosen_32 rfl (lv_at hl 1 rfl) ?_
          subst hQ9
          exact t_i hx hb hr hlocks hT trivial dX1_liftChosen_33
  exact loop2 ((n.toInt - (0 : Int32).toInt).toNat + 1) 0 _ _ _ _ hT  (by omega) (by omega) hl (by omega)
set_option maxHeartbeats 4000000 in
set_option maxRecDepth 100000 in
theorem X1_invertStep (l : Launch) (κ : Kt) (σ0 : Gh) (this : Nat) (sp : Nat) (t_this : zk σ0 this 3) (t_sp : zk σ0 sp 2) : TC l yX1_invertStep cX1_invertStep 2 none 4 115 [.ref this, .ref sp] κ σ0 (tqv κ fIn σ0 (fun (τ : Gh) => True)) := by
  refine TC.of fIn (by decide +kernel) (Nat.le_of_ble_eq_true rfl) ?_
  intro p e s m below meth c ls hcs hK hX hT hl
  obtain ⟨hx, hb, hr, hml, hown, hg, hlocks, hin⟩ := hcs
  have hown : s.vm.findClass RX1 = some m.cls := hown
  have hl : lv_has ls 2 [(0, .ref this), (1, .ref sp)] := hl
  have hT0 := hT
  have nm1 : ((-1) : Int32).toInt = (-1) := by decide
  have j1 : (1 : Int64).toInt = 1 := by decide
  generalize hQ9 : tQ _ _ _ _ _ _ = Q9
  refine lv_aload_n hx hb dX1_invertStep_0 rfl (lv_at hl 0 rfl) ?_
  refine lv_aload_n hx hb dX1_invertStep_1 rfl (lv_at hl 1 rfl) ?_
  refine lv_iconst (v := (-1)) hx hb dX1_invertStep_2 (by decide) ?_
  have hTo := hT
  refine tVv (n := 2) (As := [.ref sp, .int (-1)]) (rest := []) hx hb hml hown hg hT hK hX (X1_addGains l κ σ0 this sp (-1)  (hT.k t_this (by decide)) (hT.k t_sp (by decide)) ) sub_fW_fIn (mwV k586 k588 k15 k87 k589) ⟨rfl, by decide, by decide, by decide +kernel⟩ ⟨(Nat.le_of_ble_eq_true rfl), (Nat.le_of_ble_eq_true rfl)⟩ (hT.o3 (hT.k t_this (by decide))) rfl rfl hl.1 rfl (Nat.le_of_ble_eq_true rfl) dX1_invertStep_3 zroom.rf (fun s2 H locs hφ hEs2 hT => ?_)
  refine lv_aload_n hx hb dX1_invertStep_6 rfl (lv_at hl 0 rfl) ?_
  obtain ⟨r3, er3⟩ : ∃ z, kR κ this 2 = z := ⟨_, rfl⟩
  have tr3 : zk σ0 r3 9 := by rw [← er3]; exact hT0.ref t_this (by decide) (by decide) (by decide)
  refine va_get (D := κ.1) (ci := 1) (v := .ref (kR κ this 2)) (C := RX1) (T := TX1) (N := 13) hx hb hg inX1 hown hK (hT.o3 (hT.k t_this (by decide))).one 0 rfl rfl 2 (by decide) (hg _ k281) (fun _ h9 => h9) rfl dX1_invertStep_7 ?_
  rw [er3]
  refine lv_aload_n hx hb dX1_invertStep_10 rfl (lv_at hl 1 rfl) ?_
  obtain ⟨v4, ev4⟩ : ∃ zz9 : Int32, zI σ0 sp 1 = zz9 := ⟨_, rfl⟩
  have qv4 : v4.toInt = (zI σ0 sp 1).toInt := by rw [ev4]
  have b5 := (hT.P (hT.k t_sp (by decide)) (by decide)).2.1
  rw [(hT.eI t_sp (by decide) rfl ev4)] at b5
  have b5l := b5.1
  have b5h := b5.2
  refine va_get (D := κ.1) (ci := 2) (v := .int (zI s2 sp 1)) (C := RX2) (T := TX2) (N := 10) hx hb hg inX2 hown hK (hT.o2 (hT.k t_sp (by decide))).one 0 rfl rfl 1 (by decide) (hg _ k232) (fun _ h9 => h9) rfl dX1_invertStep_11 ?_
  rw [(hT.eI t_sp (by decide) rfl ev4)]
  refine lv_aload_n hx hb dX1_invertStep_14 rfl (lv_at hl 1 rfl) ?_
  refine va_get (D := κ.1) (ci := 2) (v := .long (zJ s2 sp 3)) (C := RX2) (T := TX2) (N := 10) hx hb hg inX2 hown hK (hT.o2 (hT.k t_sp (by decide))).one 0 rfl rfl 3 (by decide) (hg _ k237) (fun _ h9 => h9) rfl dX1_invertStep_15 ?_
  refine lv_topl (fun t6 ht6 => ?_)
  have hTo := hT
  refine tastl (n := 48) hx hb hK hT (hT.k tr3 (by decide)) ⟨by decide, by decide⟩ (fun _ _ _ => rfl) (fun _ _ => trivial) (fun _ => rfl) (by omega) (by omega) dX1_invertStep_18 (fun H locs s7 hus7 hT => ?_)
  refine lv_aload_n hx hb dX1_invertStep_19 rfl (lv_at hl 0 rfl) ?_
  refine va_get (D := κ.1) (ci := 1) (v := .ref (kR κ this 2)) (C := RX1) (T := TX1) (N := 13) hx hb hg inX1 hown hK (hT.o3 (hT.k t_this (by decide))).one 0 rfl rfl 2 (by decide) (hg _ k281) (fun _ h9 => h9) rfl dX1_invertStep_20 ?_
  rw [er3]
  refine lv_aload_n hx hb dX1_invertStep_23 rfl (lv_at hl 1 rfl) ?_
  obtain ⟨v8, ev8⟩ : ∃ zz9 : Int32, zI σ0 sp 2 = zz9 := ⟨_, rfl⟩
  have qv8 : v8.toInt = (zI σ0 sp 2).toInt := by rw [ev8]
  have b9 := (hT.P (hT.k t_sp (by decide)) (by decide)).2.2.1
  rw [(hT.eI t_sp (by decide) rfl ev8)] at b9
  have b9l := b9.1
  have b9h := b9.2
  refine va_get (D := κ.1) (ci := 2) (v := .int (zI s7 sp 2)) (C := RX2) (T := TX2) (N := 10) hx hb hg inX2 hown hK (hT.o2 (hT.k t_sp (by decide))).one 0 rfl rfl 2 (by decide) (hg _ k235) (fun _ h9 => h9) rfl dX1_invertStep_24 ?_
  rw [(hT.eI t_sp (by decide) rfl ev8)]
  refine lv_aload_n hx hb dX1_invertStep_27 rfl (lv_at hl 1 rfl) ?_
  refine va_get (D := κ.1) (ci := 2) (v := .long (zJ s7 sp 4)) (C := RX2) (T := TX2) (N := 10) hx hb hg inX2 hown hK (hT.o2 (hT.k t_sp (by decide))).one 0 rfl rfl 4 (by decide) (hg _ k239) (fun _ h9 => h9) rfl dX1_invertStep_28 ?_
  refine lv_topl (fun t10 ht10 => ?_)
  have hTo := hT
  refine tastl (n := 48) hx hb hK hT (hT.k tr3 (by decide)) ⟨by decide, by decide⟩ (fun _ _ _ => rfl) (fun _ _ => trivial) (fun _ => rfl) (by omega) (by omega) dX1_invertStep_31 (fun H locs s11 hus11 hT => ?_)
  refine lv_aload_n hx hb dX1_invertStep_32 rfl (lv_at hl 0 rfl) ?_
  refine lv_aload_n hx hb dX1_invertStep_33 rfl (lv_at hl 0 rfl) ?_
  obtain ⟨r12, er12⟩ : ∃ z, kR κ this 1 = z := ⟨_, rfl⟩
  have tr12 : zk σ0 r12 10 := by rw [← er12]; exact hT0.ref t_this (by decide) (by decide) (by decide)
  refine va_get (D := κ.1) (ci := 1) (v := .ref (kR κ this 1)) (C := RX1) (T := TX1) (N := 13) hx hb hg inX1 hown hK (hT.o3 (hT.k t_this (by decide))).one 0 rfl rfl 1 (by decide) (hg _ k279) (fun _ h9 => h9) rfl dX1_invertStep_34 ?_
  rw [er12]
  refine lv_aload_n hx hb dX1_invertStep_37 rfl (lv_at hl 1 rfl) ?_
  obtain ⟨v13, ev13⟩ : ∃ zz9 : Int32, zI σ0 sp 0 = zz9 := ⟨_, rfl⟩
  have qv13 : v13.toInt = (zI σ0 sp 0).toInt := by rw [ev13]
  have b14 := (hT.P (hT.k t_sp (by decide)) (by decide)).1
  rw [(hT.eI t_sp (by decide) rfl ev13)] at b14
  have b14l := b14.1
  have b14h := b14.2
  refine va_get (D := κ.1) (ci := 2) (v := .int (zI s11 sp 0)) (C := RX2) (T := TX2) (N := 10) hx hb hg inX2 hown hK (hT.o2 (hT.k t_sp (by decide))).one 0 rfl rfl 0 (by decide) (hg _ k229) (fun _ h9 => h9) rfl dX1_invertStep_38 ?_
  rw [(hT.eI t_sp (by decide) rfl ev13)]
  refine va_aldq hx hb hK (hT.o10 (hT.k tr12 (by decide))).one 0 4 rfl rfl (g_in (by omega) (by omega)) dX1_invertStep_41 ?_
  obtain ⟨r16, er16⟩ : ∃ z, kR κ r12 (ix v13) = z := ⟨_, rfl⟩
  have tr16 : zk σ0 r16 1 := by rw [← er16]; exact hT0.ref tr12 (by decide) (zR10 (ix_lt (by omega) (by omega))) (by decide)
  refine tv (.ref r16) (by rw [← er16]; rfl) ?_
  refine lv_aload_n hx hb dX1_invertStep_42 rfl (lv_at hl 1 rfl) ?_
  obtain ⟨v17, ev17⟩ : ∃ zz9 : Int32, zI σ0 sp 7 = zz9 := ⟨_, rfl⟩
  have qv17 : v17.toInt = (zI σ0 sp 7).toInt := by rw [ev17]
  refine va_get (D := κ.1) (ci := 2) (v := .int (zI s11 sp 7)) (C := RX2) (T := TX2) (N := 10) hx hb hg inX2 hown hK (hT.o2 (hT.k t_sp (by decide))).one 0 rfl rfl 7 (by decide) (hg _ k247) (fun _ h9 => h9) rfl dX1_invertStep_43 ?_
  rw [(hT.eI t_sp (by decide) rfl ev17)]
  refine lv_aload_n hx hb dX1_invertStep_46 rfl (lv_at hl 1 rfl) ?_
  refine va_get (D := κ.1) (ci := 2) (v := .int (zI s11 sp 1)) (C := RX2) (T := TX2) (N := 10) hx hb hg inX2 hown hK (hT.o2 (hT.k t_sp (by decide))).one 0 rfl rfl 1 (by decide) (hg _ k232) (fun _ h9 => h9) rfl dX1_invertStep_47 ?_
  rw [(hT.eI t_sp (by decide) rfl ev4)]
  refine lv_aload_n hx hb dX1_invertStep_50 rfl (lv_at hl 0 rfl) ?_
  obtain ⟨r18, er18⟩ : ∃ z, kR κ this 0 = z := ⟨_, rfl⟩
  have tr18 : zk σ0 r18 4 := by rw [← er18]; exact hT0.ref t_this (by decide) (by decide) (by decide)
  refine va_get (D := κ.1) (ci := 1) (v := .ref (kR κ this 0)) (C := RX1) (T := TX1) (N := 13) hx hb hg inX1 hown hK (hT.o3 (hT.k t_this (by decide))).one 0 rfl rfl 0 (by decide) (hg _ k278) (fun _ h9 => h9) rfl dX1_invertStep_51 ?_
  rw [er18]
  obtain ⟨r19, er19⟩ : ∃ z, kR κ r18 0 = z := ⟨_, rfl⟩
  have tr19 : zk σ0 r19 8 := by rw [← er19]; exact hT0.ref tr18 (by decide) (by decide) (by decide)
  refine va_get (D := κ.1) (ci := 0) (v := .ref (kR κ r18 0)) (C := RX0) (T := TX0) (N := 7) hx hb hg inX0 hown hK (hT.o4 (hT.k tr18 (by decide))).one 0 rfl rfl 0 (by decide) (hg _ k157) (fun _ h9 => h9) rfl dX1_invertStep_54 ?_
  rw [er19]
  refine lv_aload_n hx hb dX1_invertStep_57 rfl (lv_at hl 1 rfl) ?_
  refine va_get (D := κ.1) (ci := 2) (v := .int (zI s11 sp 0)) (C := RX2) (T := TX2) (N := 10) hx hb hg inX2 hown hK (hT.o2 (hT.k t_sp (by decide))).one 0 rfl rfl 0 (by decide) (hg _ k229) (fun _ h9 => h9) rfl dX1_invertStep_58 ?_
  rw [(hT.eI t_sp (by decide) rfl ev13)]
  refine va_iald hx hb hK (hT.o8 (hT.k tr19 (by decide))).one 0 0 rfl rfl (g_in (by omega) (by omega)) dX1_invertStep_61 ?_
  refine lv_topi (fun t20 ht20 => ?_)
  refine lv_aload_n hx hb dX1_invertStep_62 rfl (lv_at hl 1 rfl) ?_
  refine va_get (D := κ.1) (ci := 2) (v := .int (zI s11 sp 2)) (C := RX2) (T := TX2) (N := 10) hx hb hg inX2 hown hK (hT.o2 (hT.k t_sp (by decide))).one 0 rfl rfl 2 (by decide) (hg _ k235) (fun _ h9 => h9) rfl dX1_invertStep_63 ?_
  rw [(hT.eI t_sp (by decide) rfl ev8)]
  have hTo := hT
  refine tVv (n := 5) (As := [.ref r16, .int v17, .int v4, .int t20, .int v8]) (rest := []) hx hb hml hown hg hT hK hX (X1_predictInto l κ s11 this r16 v17 v4 t20 v8  (hT.k t_this (by decide)) (hT.k tr16 (by decide)) (by omega) (by omega) (by omega) (by omega)) sub_fW_fIn (mwV k542 k544 k10 k87 k545) ⟨rfl, by decide, by decide, by decide +kernel⟩ ⟨(Nat.le_of_ble_eq_true rfl), (Nat.le_of_ble_eq_true rfl)⟩ (hT.o3 (hT.k t_this (by decide))) rfl rfl hl.1 rfl (Nat.le_of_ble_eq_true rfl) dX1_invertStep_66 zroom.rf (fun s22 H locs hφ hEs22 hT => ?_)
  refine lv_aload_n hx hb dX1_invertStep_69 rfl (lv_at hl 0 rfl) ?_
  refine va_get (D := κ.1) (ci := 1) (v := .ref (kR κ this 1)) (C := RX1) (T := TX1) (N := 13) hx hb hg inX1 hown hK (hT.o3 (hT.k t_this (by decide))).one 0 rfl rfl 1 (by decide) (hg _ k279) (fun _ h9 => h9) rfl dX1_invertStep_70 ?_
  rw [er12]
  refine lv_aload_n hx hb dX1_invertStep_73 rfl (lv_at hl 1 rfl) ?_
  refine va_get (D := κ.1) (ci := 2) (v := .int (zI s22 sp 0)) (C := RX2) (T := TX2) (N := 10) hx hb hg inX2 hown hK (hT.o2 (hT.k t_sp (by decide))).one 0 rfl rfl 0 (by decide) (hg _ k229) (fun _ h9 => h9) rfl dX1_invertStep_74 ?_
  rw [(hT.eI t_sp (by decide) rfl ev13)]
  refine va_aldq hx hb hK (hT.o10 (hT.k tr12 (by decide))).one 0 4 rfl rfl (g_in (by omega) (by omega)) dX1_invertStep_77 ?_
  obtain ⟨r24, er24⟩ : ∃ z, kR κ r12 (ix v13) = z := ⟨_, rfl⟩
  have tr24 : zk σ0 r24 1 := by rw [← er24]; exact hT0.ref tr12 (by decide) (zR10 (ix_lt (by omega) (by omega))) (by decide)
  refine tv (.ref r24) (by rw [← er24]; rfl) ?_
  refine lv_aload_n hx hb dX1_invertStep_78 rfl (lv_at hl 1 rfl) ?_
  obtain ⟨r25, er25⟩ : ∃ z, kR κ sp 9 = z := ⟨_, rfl⟩
  have tr25 : zk σ0 r25 1 := by rw [← er25]; exact hT0.ref t_sp (by decide) (by decide) (by decide)
  refine va_get (D := κ.1) (ci := 2) (v := .ref (kR κ sp 9)) (C := RX2) (T := TX2) (N := 10) hx hb hg inX2 hown hK (hT.o2 (hT.k t_sp (by decide))).one 0 rfl rfl 9 (by decide) (hg _ k252) (fun _ h9 => h9) rfl dX1_invertStep_79 ?_
  rw [er25]
  refine lv_lconst (v := 1) hx hb dX1_invertStep_82 (by decide) ?_
  obtain ⟨h28, oh28, th28⟩ := hT.o1 (hT.k tr24 (by decide))
  have hTo := hT
  refine tVv (n := 2) (As := [.ref r25, .long 1]) (rest := []) hx hb hml hown hg hT hK hX (X4_add l κ s22 r24 r25 1  (hT.k tr24 (by decide)) (hT.k tr25 (by decide)) ) sub_fW_fIn (mwV k340 k341 k342 k88 k343) ⟨rfl, by decide, by decide, by decide +kernel⟩ ⟨(Nat.le_of_ble_eq_true rfl), (Nat.le_of_ble_eq_true rfl)⟩ oh28 rfl rfl hl.1 rfl (Nat.le_of_ble_eq_true rfl) dX1_invertStep_83 zroom.rf (fun s27 H locs hφ hEs27 hT => ?_)
  refine lv_aload_n hx hb dX1_invertStep_86 rfl (lv_at hl 0 rfl) ?_
  obtain ⟨r29, er29⟩ : ∃ z, kR κ this 3 = z := ⟨_, rfl⟩
  have tr29 : zk σ0 r29 15 := by rw [← er29]; exact hT0.ref t_this (by decide) (by decide) (by decide)
  refine va_get (D := κ.1) (ci := 1) (v := .ref (kR κ this 3)) (C := RX1) (T := TX1) (N := 13) hx hb hg inX1 hown hK (hT.o3 (hT.k t_this (by decide))).one 0 rfl rfl 3 (by decide) (hg _ k283) (fun _ h9 => h9) rfl dX1_invertStep_87 ?_
  rw [er29]
  refine lv_aload_n hx hb dX1_invertStep_90 rfl (lv_at hl 1 rfl) ?_
  refine va_get (D := κ.1) (ci := 2) (v := .int (zI s27 sp 0)) (C := RX2) (T := TX2) (N := 10) hx hb hg inX2 hown hK (hT.o2 (hT.k t_sp (by decide))).one 0 rfl rfl 0 (by decide) (hg _ k229) (fun _ h9 => h9) rfl dX1_invertStep_91 ?_
  rw [(hT.eI t_sp (by decide) rfl ev13)]
  refine lv_iconst (v := (-1)) hx hb dX1_invertStep_94 (by decide) ?_
  have hTo := hT
  refine tasti (n := 48) hx hb hK hT (hT.k tr29 (by decide)) ⟨by decide, by decide⟩ (fun _ _ _ => rfl) (fun _ _ => trivial) (fun _ => rfl) (by omega) (by omega) dX1_invertStep_95 (fun H locs s30 hus30 hT => ?_)
  subst hQ9
  exact t_v hx hb hr hlocks hT trivial dX1_invertStep_96
set_option maxHeartbeats 4000000 in
set_option maxRecDepth 100000 in
theorem X1_invertLatest (l : Launch) (κ : Kt) (σ0 : Gh) (this : Nat) (n : Int32) (t_this : zk σ0 this 3) : TC l yX1_invertLatest cX1_invertLatest 3 (some .int) 5 136 [.ref this, .int n] κ σ0 (tqi κ fBe σ0 (fun (r : Int32) (τ : Gh) => True)) := by
  refine TC.of fBe (by decide +kernel) (Nat.le_of_ble_eq_true rfl) ?_
  intro p e s m below meth c ls hcs hK hX hT hl
  obtain ⟨hx, hb, hr, hml, hown, hg, hlocks, hin⟩ := hcs
  have hown : s.vm.findClass RX1 = some m.cls := hown
  have hl : lv_has ls 3 [(0, .ref this), (1, .int n)] := hl
  have hT0 := hT
  have n0 : (0 : Int32).toInt = 0 := by decide
  have n1 : (1 : Int32).toInt = 1 := by decide
  have n_lo := Int32.le_toInt n
  have n_hi := Int32.toInt_lt n
  generalize hQ9 : tQ _ _ _ _ _ _ = Q9
  refine lv_iconst (v := 0) hx hb dX1_invertLatest_0 (by decide) ?_
  refine lv_istore_n (lv' := [(2, .int 0), (0, .ref this), (1, .int n)]) hx hb dX1_invertLatest_1 rfl hl (by decide) rfl (fun ls hl => ?_)
  have loop2 : ∀ (n9 : Nat) (j : Int32) (u : Int32) (H : Heap) (locs : List Loc) (sg : Gh) (ls : Array Slot), TS κ fBe σ0 sg s H locs → (zI sg this 5 = u) → (0 ≤ j.toInt) → (0 ≤ u.toInt) → (j.toInt + u.toInt ≤ 46) → lv_has ls 3 [(2, .int j), (0, .ref this), (1, .int n)] → (u.toInt) < n9 → tW p l e 5 136 κ s m #[.ref this, .int n] below meth c H locs Q9 (F0 m 2 ls []) := by
    intro n9
    induction n9 with
    | zero =>
      intro j u H locs sg ls hT kthis_5 q1 q2 q3 hl hm9
      exfalso
      omega
    | succ n9 ih9 =>
      have ih2 := ih9
      clear ih9
      intro j u H locs s1 ls hT kthis_5 q1 q2 q3 hl hm9
      have b2 := (hT.P (hT.k t_this (by decide)) (by decide)).1
      rw [kthis_5] at b2
      have b2l := b2.1
      have b2h := b2.2
      refine lv_iload_n hx hb dX1_invertLatest_2 rfl (lv_at hl 0 rfl) ?_
      refine lv_iload_n hx hb dX1_invertLatest_3 rfl (lv_at hl 2 rfl) ?_
      refine lv_icmp_ge (tgt := 45) hx hb dX1_invertLatest_4 (by decide) (fun c9 => ?_) (fun c9 => ?_)
      · have c1 := gi_le c9
        refine lv_iload_n hx hb dX1_invertLatest_45 rfl (lv_at hl 0 rfl) ?_
        subst hQ9
        exact t_i hx hb hr hlocks hT trivial dX1_invertLatest_46
      · have c2 := gi_nle c9
        refine lv_aload_n hx hb dX1_invertLatest_7 rfl (lv_at hl 1 rfl) ?_
        refine va_get (D := κ.1) (ci := 1) (v := .int (zI s1 this 5)) (C := RX1) (T := TX1) (N := 13) hx hb hg inX1 hown hK (hT.o3 (hT.k t_this (by decide))).one 0 rfl rfl 5 (by decide) (hg _ k287) (fun _ h9 => h9) rfl dX1_invertLatest_8 ?_
        rw [kthis_5]
        refine lv_if_le (tgt := 45) hx hb dX1_invertLatest_11 (by decide) (fun c9 => ?_) (fun c9 => ?_)
        · have c3 := gi_le c9
          refine lv_iload_n hx hb dX1_invertLatest_45 rfl (lv_at hl 0 rfl) ?_
          subst hQ9
          exact t_i hx hb hr hlocks hT trivial dX1_invertLatest_46
        · have c4 := gi_nle c9
          refine lv_aload_n hx hb dX1_invertLatest_14 rfl (lv_at hl 1 rfl) ?_
          refine lv_aload_n hx hb dX1_invertLatest_15 rfl (lv_at hl 1 rfl) ?_
          obtain ⟨r3, er3⟩ : ∃ z, kR κ this 4 = z := ⟨_, rfl⟩
          have tr3 : zk σ0 r3 11 := by rw [← er3]; exact hT0.ref t_this (by decide) (by decide) (by decide)
          refine va_get (D := κ.1) (ci := 1) (v := .ref (kR κ this 4)) (C := RX1) (T := TX1) (N := 13) hx hb hg inX1 hown hK (hT.o3 (hT.k t_this (by decide))).one 0 rfl rfl 4 (by decide) (hg _ k285) (fun _ h9 => h9) rfl dX1_invertLatest_16 ?_
          rw [er3]
          refine lv_aload_n hx hb dX1_invertLatest_19 rfl (lv_at hl 1 rfl) ?_
          refine va_get (D := κ.1) (ci := 1) (v := .int (zI s1 this 5)) (C := RX1) (T := TX1) (N := 13) hx hb hg inX1 hown hK (hT.o3 (hT.k t_this (by decide))).one 0 rfl rfl 5 (by decide) (hg _ k287) (fun _ h9 => h9) rfl dX1_invertLatest_20 ?_
          rw [kthis_5]
          refine lv_iconst (v := 1) hx hb dX1_invertLatest_23 (by decide) ?_
          refine lv_isub hx hb dX1_invertLatest_24 ?_
          first | refine g_sub (by omega) (by omega) (fun t4 ht4 => ?_) | refine lv_topi (fun t4 ht4 => ?_)
          refine va_aldq hx hb hK (hT.o11 (hT.k tr3 (by decide))).one 0 5 rfl rfl (g_in (by omega) (by omega)) dX1_invertLatest_25 ?_
          obtain ⟨r6, er6⟩ : ∃ z, kR κ r3 (ix t4) = z := ⟨_, rfl⟩
          have tr6 : zk σ0 r6 2 := by rw [← er6]; exact hT0.ref tr3 (by decide) (zR11 (ix_lt (by omega) (by omega))) (by decide)
          refine tv (.ref r6) (by rw [← er6]; rfl) ?_
          have hTo := hT
          refine tVv (n := 1) (As := [.ref r6]) (rest := []) hx hb hml hown hg hT hK hX (X1_invertStep l κ s1 this r6  (hT.k t_this (by decide)) (hT.k tr6 (by decide)) ) sub_fIn_fBe (mwV k1051 k1053 k31 k87 k1054) ⟨rfl, by decide, by decide, by decide +kernel⟩ ⟨(Nat.le_of_ble_eq_true rfl), (Nat.le_of_ble_eq_true rfl)⟩ (hT.o3 (hT.k t_this (by decide))) rfl rfl hl.1 rfl (Nat.le_of_ble_eq_true rfl) dX1_invertLatest_26 zroom.rf (fun s8 H locs hφ hEs8 hT => ?_)
          have kthis_5 : zI s8 this 5 = u := ((hTo.k t_this (by decide)).eI hEs8 (by decide) rfl).trans kthis_5
          refine lv_aload_n hx hb dX1_invertLatest_29 rfl (lv_at hl 1 rfl) ?_
          refine lv_dup hx hb dX1_invertLatest_30 rfl ?_
          refine va_get (D := κ.1) (ci := 1) (v := .int (zI s8 this 5)) (C := RX1) (T := TX1) (N := 13) hx hb hg inX1 hown hK (hT.o3 (hT.k t_this (by decide))).one 0 rfl rfl 5 (by decide) (hg _ k287) (fun _ h9 => h9) rfl dX1_invertLatest_31 ?_
          rw [kthis_5]
          refine lv_iconst (v := 1) hx hb dX1_invertLatest_34 (by decide) ?_
          refine lv_isub hx hb dX1_invertLatest_35 ?_
          first | refine g_sub (by omega) (by omega) (fun t9 ht9 => ?_) | refine lv_topi (fun t9 ht9 => ?_)
          have hTo := hT
          refine pf3_5 hx hb hg hown hK hT (hT.k t_this (by decide)) rfl ⟨by omega, by omega⟩ (hg _ k287) dX1_invertLatest_36 (fun H locs s10 hus10 hT => ?_)
          have e11 : zI s10 this 5 = t9 := zput_at hus10
          obtain ⟨t12, qt12⟩ : ∃ zz9 : Int32, j + Int32.ofInt 1 = zz9 := ⟨_, rfl⟩
          refine lv_iinc (v := t12) (lv' := [(2, .int t12), (0, .ref this), (1, .int n)]) hx hb dX1_invertLatest_39 hl (k := 0) rfl qt12 (by decide) rfl (fun ls hl => ?_)
          have ht12 : t12.toInt = j.toInt + 1 := by rw [← qt12]; exact v_addi rfl (show (Int32.ofInt 1).toInt = 1 from by decide) (by omega) (by omega)
          refine lv_goto (tgt := 2) hx hb dX1_invertLatest_42 (by decide) ?_
          exact ih2 t12 t9 _ _ _ _ hT e11 (by omega) (by omega) (by omega) hl (by omega)
  obtain ⟨v13, ev13⟩ : ∃ zz9 : Int32, zI σ0 this 5 = zz9 := ⟨_, rfl⟩
  have qv13 : v13.toInt = (zI σ0 this 5).toInt := by rw [ev13]
  have b14 := (hT.P (hT.k t_this (by decide)) (by decide)).1
  rw [ev13] at b14
  have b14l := b14.1
  have b14h := b14.2
  exact loop2 ((v13.toInt).toNat + 1) 0 v13 _ _ _ _ hT ev13 (by omega) (by omega) (by omega) hl (by omega)

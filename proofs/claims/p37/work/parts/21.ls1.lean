/-! LiftingSignal over any state: text, reports -/
theorem sub_fE_fT1 : ∀ t k, fT1 t k = false → fE t k = false := by
  intro t k h
  simp [fE, fT1] at h ⊢ <;> omega
theorem sub_fE_fTr : ∀ t k, fTr t k = false → fE t k = false := by
  intro t k h
  simp [fE, fTr] at h ⊢ <;> omega
theorem k84 : Cond.initialized RX5 ∈ GW := gm 84 (by decide +kernel) (by decide +kernel)
theorem k96 : Cond.initialized "java/lang/IndexOutOfBoundsException" ∈ GW := gm 96 (by decide +kernel) (by decide +kernel)
theorem k101 : Cond.initialized "java/lang/IllegalArgumentException" ∈ GW := gm 101 (by decide +kernel) (by decide +kernel)
theorem k103 : Cond.initialized "java/util/NoSuchElementException" ∈ GW := gm 103 (by decide +kernel) (by decide +kernel)
theorem k104 : Cond.initialized "java/lang/IllegalStateException" ∈ GW := gm 104 (by decide +kernel) (by decide +kernel)
theorem k121 : Cond.fieldLink RX5 74 "LiftingSignal$Text" "length" "I" ∈ GW := gm 121 (by decide +kernel) (by decide +kernel)
theorem k123 : Cond.fieldLink RX5 97 "LiftingSignal$Text" "errorCode" "I" ∈ GW := gm 123 (by decide +kernel) (by decide +kernel)
theorem k125 : Cond.fieldLink RX5 100 "LiftingSignal$Text" "errorPosition" "I" ∈ GW := gm 125 (by decide +kernel) (by decide +kernel)
theorem k155 : Cond.fieldLink RX5 132 "LiftingSignal$Source" "position" "[I" ∈ GW := gm 155 (by decide +kernel) (by decide +kernel)
theorem k160 : Cond.fieldLink RX5 136 "LiftingSignal$Source" "original" "[I" ∈ GW := gm 160 (by decide +kernel) (by decide +kernel)
theorem k163 : Cond.fieldLink RX5 94 "LiftingSignal$Source" "count" "I" ∈ GW := gm 163 (by decide +kernel) (by decide +kernel)
theorem k175 : Cond.fieldLink RX5 123 "LiftingSignal$Source" "least" "I" ∈ GW := gm 175 (by decide +kernel) (by decide +kernel)
theorem k228 : Cond.fieldLink RX5 175 "LiftingSignal$Step" "sample" "I" ∈ GW := gm 228 (by decide +kernel) (by decide +kernel)
theorem k231 : Cond.fieldLink RX5 180 "LiftingSignal$Step" "left" "I" ∈ GW := gm 231 (by decide +kernel) (by decide +kernel)
theorem k234 : Cond.fieldLink RX5 183 "LiftingSignal$Step" "right" "I" ∈ GW := gm 234 (by decide +kernel) (by decide +kernel)
theorem k241 : Cond.fieldLink RX5 190 "LiftingSignal$Step" "weight" "J" ∈ GW := gm 241 (by decide +kernel) (by decide +kernel)
theorem k244 : Cond.fieldLink RX5 193 "LiftingSignal$Step" "share" "J" ∈ GW := gm 244 (by decide +kernel) (by decide +kernel)
theorem k251 : Cond.fieldLink RX5 186 "LiftingSignal$Step" "detail" "LLiftingSignal$Whole;" ∈ GW := gm 251 (by decide +kernel) (by decide +kernel)
theorem k280 : Cond.fieldLink RX5 143 "LiftingSignal$State" "value" "[LLiftingSignal$Whole;" ∈ GW := gm 280 (by decide +kernel) (by decide +kernel)
theorem k282 : Cond.fieldLink RX5 154 "LiftingSignal$State" "weight" "[J" ∈ GW := gm 282 (by decide +kernel) (by decide +kernel)
theorem k284 : Cond.fieldLink RX5 158 "LiftingSignal$State" "stepOf" "[I" ∈ GW := gm 284 (by decide +kernel) (by decide +kernel)
theorem k286 : Cond.fieldLink RX5 171 "LiftingSignal$State" "steps" "[LLiftingSignal$Step;" ∈ GW := gm 286 (by decide +kernel) (by decide +kernel)
theorem k288 : Cond.fieldLink RX5 107 "LiftingSignal$State" "stepCount" "I" ∈ GW := gm 288 (by decide +kernel) (by decide +kernel)
theorem k290 : Cond.fieldLink RX5 205 "LiftingSignal$State" "integral" "LLiftingSignal$Whole;" ∈ GW := gm 290 (by decide +kernel) (by decide +kernel)
theorem k292 : Cond.fieldLink RX5 113 "LiftingSignal$State" "split" "I" ∈ GW := gm 292 (by decide +kernel) (by decide +kernel)
theorem k294 : Cond.fieldLink RX5 116 "LiftingSignal$State" "predict" "I" ∈ GW := gm 294 (by decide +kernel) (by decide +kernel)
theorem k296 : Cond.fieldLink RX5 119 "LiftingSignal$State" "isKeep" "Z" ∈ GW := gm 296 (by decide +kernel) (by decide +kernel)
theorem k379 : Cond.fieldLink RX5 12 "LiftingSignal" "text" "LLiftingSignal$Text;" ∈ GW := gm 379 (by decide +kernel) (by decide +kernel)
theorem k380 : Cond.fieldLink RX5 19 "LiftingSignal" "source" "LLiftingSignal$Source;" ∈ GW := gm 380 (by decide +kernel) (by decide +kernel)
theorem k382 : Cond.fieldLink RX5 31 "LiftingSignal" "now" "LLiftingSignal$State;" ∈ GW := gm 382 (by decide +kernel) (by decide +kernel)
theorem k386 : Cond.fieldLink RX5 46 "LiftingSignal" "reasonCode" "I" ∈ GW := gm 386 (by decide +kernel) (by decide +kernel)
theorem k387 : Cond.fieldLink RX5 50 "LiftingSignal" "causeCode" "I" ∈ GW := gm 387 (by decide +kernel) (by decide +kernel)
theorem k388 : Cond.fieldLink RX5 53 "LiftingSignal" "refusedSample" "I" ∈ GW := gm 388 (by decide +kernel) (by decide +kernel)
theorem k415 : Cond.methodLink RX5 66 yX3_hasRoom ∈ GW := gm 415 (by decide +kernel) (by decide +kernel)
theorem k416 : Cond.instanceMethod yX3_hasRoom ∈ GW := gm 416 (by decide +kernel) (by decide +kernel)
theorem k417 : Cond.selects RX3 yX3_hasRoom yX3_hasRoom ∈ GW := gm 417 (by decide +kernel) (by decide +kernel)
theorem k418 : Cond.code yX3_hasRoom cX3_hasRoom 1 (some .boolean) ∈ GW := gm 418 (by decide +kernel) (by decide +kernel)
theorem k419 : Cond.methodLink RX5 70 yX3_addInt ∈ GW := gm 419 (by decide +kernel) (by decide +kernel)
theorem k420 : Cond.instanceMethod yX3_addInt ∈ GW := gm 420 (by decide +kernel) (by decide +kernel)
theorem k421 : Cond.selects RX3 yX3_addInt yX3_addInt ∈ GW := gm 421 (by decide +kernel) (by decide +kernel)
theorem k422 : Cond.code yX3_addInt cX3_addInt 3 none ∈ GW := gm 422 (by decide +kernel) (by decide +kernel)
theorem k435 : Cond.methodLink RX5 147 yX4_toLong ∈ GW := gm 435 (by decide +kernel) (by decide +kernel)
theorem k451 : Cond.methodLink RX5 208 yX1_driftNow ∈ GW := gm 451 (by decide +kernel) (by decide +kernel)
theorem k452 : Cond.instanceMethod yX1_driftNow ∈ GW := gm 452 (by decide +kernel) (by decide +kernel)
theorem k453 : Cond.selects RX1 yX1_driftNow yX1_driftNow ∈ GW := gm 453 (by decide +kernel) (by decide +kernel)
theorem k454 : Cond.code yX1_driftNow cX1_driftNow 2 (some (.object "LiftingSignal$Whole")) ∈ GW := gm 454 (by decide +kernel) (by decide +kernel)
theorem k488 : Cond.methodLink RX5 103 yX1_presentCount ∈ GW := gm 488 (by decide +kernel) (by decide +kernel)
theorem k496 : Cond.methodLink RX5 235 yX1_energyOfDetails ∈ GW := gm 496 (by decide +kernel) (by decide +kernel)
theorem k497 : Cond.instanceMethod yX1_energyOfDetails ∈ GW := gm 497 (by decide +kernel) (by decide +kernel)
theorem k498 : Cond.selects RX1 yX1_energyOfDetails yX1_energyOfDetails ∈ GW := gm 498 (by decide +kernel) (by decide +kernel)
theorem k499 : Cond.code yX1_energyOfDetails cX1_energyOfDetails 6 (some .long) ∈ GW := gm 499 (by decide +kernel) (by decide +kernel)
theorem k505 : Cond.methodLink RX5 238 yX1_bitsOfDetails ∈ GW := gm 505 (by decide +kernel) (by decide +kernel)
theorem k506 : Cond.instanceMethod yX1_bitsOfDetails ∈ GW := gm 506 (by decide +kernel) (by decide +kernel)
theorem k507 : Cond.selects RX1 yX1_bitsOfDetails yX1_bitsOfDetails ∈ GW := gm 507 (by decide +kernel) (by decide +kernel)
theorem k508 : Cond.code yX1_bitsOfDetails cX1_bitsOfDetails 3 (some .int) ∈ GW := gm 508 (by decide +kernel) (by decide +kernel)
theorem k610 : Cond.methodLink RX5 77 yX5_needIndex ∈ GW := gm 610 (by decide +kernel) (by decide +kernel)
theorem k611 : Cond.static yX5_needIndex ∈ GW := gm 611 (by decide +kernel) (by decide +kernel)
theorem k612 : Cond.code yX5_needIndex cX5_needIndex 2 none ∈ GW := gm 612 (by decide +kernel) (by decide +kernel)
theorem k613 : Cond.classLink RX5 196 "java/lang/IndexOutOfBoundsException" ∈ GW := gm 613 (by decide +kernel) (by decide +kernel)
theorem k813 : Cond.classLink RX5 84 "java/lang/IllegalArgumentException" ∈ GW := gm 813 (by decide +kernel) (by decide +kernel)
theorem k841 : Cond.methodLink RX5 110 yX1_zeroDetails ∈ GW := gm 841 (by decide +kernel) (by decide +kernel)
theorem k842 : Cond.instanceMethod yX1_zeroDetails ∈ GW := gm 842 (by decide +kernel) (by decide +kernel)
theorem k843 : Cond.selects RX1 yX1_zeroDetails yX1_zeroDetails ∈ GW := gm 843 (by decide +kernel) (by decide +kernel)
theorem k844 : Cond.code yX1_zeroDetails cX1_zeroDetails 3 (some .int) ∈ GW := gm 844 (by decide +kernel) (by decide +kernel)
theorem k849 : Cond.methodLink RX5 126 yX1_weightSum ∈ GW := gm 849 (by decide +kernel) (by decide +kernel)
theorem k850 : Cond.instanceMethod yX1_weightSum ∈ GW := gm 850 (by decide +kernel) (by decide +kernel)
theorem k851 : Cond.selects RX1 yX1_weightSum yX1_weightSum ∈ GW := gm 851 (by decide +kernel) (by decide +kernel)
theorem k852 : Cond.code yX1_weightSum cX1_weightSum 4 (some .long) ∈ GW := gm 852 (by decide +kernel) (by decide +kernel)
theorem k861 : Cond.methodLink RX5 139 yX1_isPresent ∈ GW := gm 861 (by decide +kernel) (by decide +kernel)
theorem k862 : Cond.constantLong RX5 152 (-1) ∈ GW := gm 862 (by decide +kernel) (by decide +kernel)
theorem k870 : Cond.methodLink RX5 161 yX1_presentAt ∈ GW := gm 870 (by decide +kernel) (by decide +kernel)
theorem k871 : Cond.instanceMethod yX1_presentAt ∈ GW := gm 871 (by decide +kernel) (by decide +kernel)
theorem k872 : Cond.selects RX1 yX1_presentAt yX1_presentAt ∈ GW := gm 872 (by decide +kernel) (by decide +kernel)
theorem k873 : Cond.code yX1_presentAt cX1_presentAt 4 (some .int) ∈ GW := gm 873 (by decide +kernel) (by decide +kernel)
theorem k881 : Cond.methodLink RX5 165 yX1_rightOf ∈ GW := gm 881 (by decide +kernel) (by decide +kernel)
theorem k882 : Cond.methodLink RX5 168 yX1_leftOf ∈ GW := gm 882 (by decide +kernel) (by decide +kernel)
theorem k898 : Cond.methodLink RX5 201 yX1_lineAt ∈ GW := gm 898 (by decide +kernel) (by decide +kernel)
theorem k899 : Cond.instanceMethod yX1_lineAt ∈ GW := gm 899 (by decide +kernel) (by decide +kernel)
theorem k900 : Cond.selects RX1 yX1_lineAt yX1_lineAt ∈ GW := gm 900 (by decide +kernel) (by decide +kernel)
theorem k901 : Cond.code yX1_lineAt cX1_lineAt 4 (some (.object "LiftingSignal$Whole")) ∈ GW := gm 901 (by decide +kernel) (by decide +kernel)
theorem k909 : Cond.methodLink RX5 212 yX5_needRange ∈ GW := gm 909 (by decide +kernel) (by decide +kernel)
theorem k910 : Cond.static yX5_needRange ∈ GW := gm 910 (by decide +kernel) (by decide +kernel)
theorem k911 : Cond.code yX5_needRange cX5_needRange 3 none ∈ GW := gm 911 (by decide +kernel) (by decide +kernel)
theorem k913 : Cond.methodLink RX5 216 yX4_restOfAmount ∈ GW := gm 913 (by decide +kernel) (by decide +kernel)
theorem k917 : Cond.methodLink RX5 220 yX5_commonDivisor ∈ GW := gm 917 (by decide +kernel) (by decide +kernel)
theorem k918 : Cond.static yX5_commonDivisor ∈ GW := gm 918 (by decide +kernel) (by decide +kernel)
theorem k919 : Cond.code yX5_commonDivisor cX5_commonDivisor 11 (some .long) ∈ GW := gm 919 (by decide +kernel) (by decide +kernel)
theorem k920 : Cond.methodLink RX5 328 yJ9_max_f86c9 ∈ GW := gm 920 (by decide +kernel) (by decide +kernel)
theorem k923 : Cond.methodLink RX5 224 yX1_integralBy ∈ GW := gm 923 (by decide +kernel) (by decide +kernel)
theorem k924 : Cond.instanceMethod yX1_integralBy ∈ GW := gm 924 (by decide +kernel) (by decide +kernel)
theorem k925 : Cond.selects RX1 yX1_integralBy yX1_integralBy ∈ GW := gm 925 (by decide +kernel) (by decide +kernel)
theorem k926 : Cond.code yX1_integralBy cX1_integralBy 3 (some (.object "LiftingSignal$Whole")) ∈ GW := gm 926 (by decide +kernel) (by decide +kernel)
theorem k934 : Cond.methodLink RX5 241 yX1_stepOfRank ∈ GW := gm 934 (by decide +kernel) (by decide +kernel)
theorem k950 : Cond.methodLink RX5 244 yX1_chosenSample ∈ GW := gm 950 (by decide +kernel) (by decide +kernel)
theorem k951 : Cond.classLink RX5 247 "java/util/NoSuchElementException" ∈ GW := gm 951 (by decide +kernel) (by decide +kernel)
theorem k993 : Cond.classLink RX5 323 "java/lang/IllegalStateException" ∈ GW := gm 993 (by decide +kernel) (by decide +kernel)
theorem dX5_append_0 : decode cX5_append 0 = .ok (.aload_n 0, 1) := by decide +kernel
theorem dX5_append_1 : decode cX5_append 1 = .ok (.getfield 12, 3) := by decide +kernel
theorem dX5_append_4 : decode cX5_append 4 = .ok (.invokevirtual 66, 3) := by decide +kernel
theorem dX5_append_7 : decode cX5_append 7 = .ok (.ifCond .ne 5, 3) := by decide +kernel
theorem dX5_append_10 : decode cX5_append 10 = .ok (.iconst (-1), 1) := by decide +kernel
theorem dX5_append_11 : decode cX5_append 11 = .ok (.ireturn, 1) := by decide +kernel
theorem dX5_append_12 : decode cX5_append 12 = .ok (.aload_n 0, 1) := by decide +kernel
theorem dX5_append_13 : decode cX5_append 13 = .ok (.getfield 12, 3) := by decide +kernel
theorem dX5_append_16 : decode cX5_append 16 = .ok (.iload_n 1, 1) := by decide +kernel
theorem dX5_append_17 : decode cX5_append 17 = .ok (.invokevirtual 70, 3) := by decide +kernel
theorem dX5_append_20 : decode cX5_append 20 = .ok (.aload_n 0, 1) := by decide +kernel
theorem dX5_append_21 : decode cX5_append 21 = .ok (.getfield 12, 3) := by decide +kernel
theorem dX5_append_24 : decode cX5_append 24 = .ok (.iload_n 2, 1) := by decide +kernel
theorem dX5_append_25 : decode cX5_append 25 = .ok (.invokevirtual 70, 3) := by decide +kernel
theorem dX5_append_28 : decode cX5_append 28 = .ok (.aload_n 0, 1) := by decide +kernel
theorem dX5_append_29 : decode cX5_append 29 = .ok (.getfield 12, 3) := by decide +kernel
theorem dX5_append_32 : decode cX5_append 32 = .ok (.iload_n 3, 1) := by decide +kernel
theorem dX5_append_33 : decode cX5_append 33 = .ok (.invokevirtual 70, 3) := by decide +kernel
theorem dX5_append_36 : decode cX5_append 36 = .ok (.aload_n 0, 1) := by decide +kernel
theorem dX5_append_37 : decode cX5_append 37 = .ok (.getfield 12, 3) := by decide +kernel
theorem dX5_append_40 : decode cX5_append 40 = .ok (.iload 4, 2) := by decide +kernel
theorem dX5_append_42 : decode cX5_append 42 = .ok (.invokevirtual 70, 3) := by decide +kernel
theorem dX5_append_45 : decode cX5_append 45 = .ok (.aload_n 0, 1) := by decide +kernel
theorem dX5_append_46 : decode cX5_append 46 = .ok (.getfield 12, 3) := by decide +kernel
theorem dX5_append_49 : decode cX5_append 49 = .ok (.iload 5, 2) := by decide +kernel
theorem dX5_append_51 : decode cX5_append 51 = .ok (.invokevirtual 70, 3) := by decide +kernel
theorem dX5_append_54 : decode cX5_append 54 = .ok (.aload_n 0, 1) := by decide +kernel
theorem dX5_append_55 : decode cX5_append 55 = .ok (.getfield 12, 3) := by decide +kernel
theorem dX5_append_58 : decode cX5_append 58 = .ok (.getfield 74, 3) := by decide +kernel
theorem dX5_append_61 : decode cX5_append 61 = .ok (.ireturn, 1) := by decide +kernel
theorem dX5_bits_0 : decode cX5_bits 0 = .ok (.aload_n 0, 1) := by decide +kernel
theorem dX5_bits_1 : decode cX5_bits 1 = .ok (.getfield 31, 3) := by decide +kernel
theorem dX5_bits_4 : decode cX5_bits 4 = .ok (.invokevirtual 238, 3) := by decide +kernel
theorem dX5_bits_7 : decode cX5_bits 7 = .ok (.ireturn, 1) := by decide +kernel
theorem dX5_commonDivisor_0 : decode cX5_commonDivisor 0 = .ok (.lload_n 0, 1) := by decide +kernel
theorem dX5_commonDivisor_1 : decode cX5_commonDivisor 1 = .ok (.lconst 1, 1) := by decide +kernel
theorem dX5_commonDivisor_2 : decode cX5_commonDivisor 2 = .ok (.invokestatic 328, 3) := by decide +kernel
theorem dX5_commonDivisor_5 : decode cX5_commonDivisor 5 = .ok (.lstore 4, 2) := by decide +kernel
theorem dX5_commonDivisor_7 : decode cX5_commonDivisor 7 = .ok (.lload_n 2, 1) := by decide +kernel
theorem dX5_commonDivisor_8 : decode cX5_commonDivisor 8 = .ok (.lstore 6, 2) := by decide +kernel
theorem dX5_commonDivisor_10 : decode cX5_commonDivisor 10 = .ok (.iconst 0, 1) := by decide +kernel
theorem dX5_commonDivisor_11 : decode cX5_commonDivisor 11 = .ok (.istore 8, 2) := by decide +kernel
theorem dX5_commonDivisor_13 : decode cX5_commonDivisor 13 = .ok (.iload 8, 2) := by decide +kernel
theorem dX5_commonDivisor_15 : decode cX5_commonDivisor 15 = .ok (.sipush 1000, 3) := by decide +kernel
theorem dX5_commonDivisor_18 : decode cX5_commonDivisor 18 = .ok (.if_icmp .ge 31, 3) := by decide +kernel
theorem dX5_commonDivisor_21 : decode cX5_commonDivisor 21 = .ok (.lload 6, 2) := by decide +kernel
theorem dX5_commonDivisor_23 : decode cX5_commonDivisor 23 = .ok (.lconst 0, 1) := by decide +kernel
theorem dX5_commonDivisor_24 : decode cX5_commonDivisor 24 = .ok (.lcmp, 1) := by decide +kernel
theorem dX5_commonDivisor_25 : decode cX5_commonDivisor 25 = .ok (.ifCond .le 24, 3) := by decide +kernel
theorem dX5_commonDivisor_28 : decode cX5_commonDivisor 28 = .ok (.lload 4, 2) := by decide +kernel
theorem dX5_commonDivisor_30 : decode cX5_commonDivisor 30 = .ok (.lload 6, 2) := by decide +kernel
theorem dX5_commonDivisor_32 : decode cX5_commonDivisor 32 = .ok (.lrem, 1) := by decide +kernel
theorem dX5_commonDivisor_33 : decode cX5_commonDivisor 33 = .ok (.lstore 9, 2) := by decide +kernel
theorem dX5_commonDivisor_35 : decode cX5_commonDivisor 35 = .ok (.lload 6, 2) := by decide +kernel
theorem dX5_commonDivisor_37 : decode cX5_commonDivisor 37 = .ok (.lstore 4, 2) := by decide +kernel
theorem dX5_commonDivisor_39 : decode cX5_commonDivisor 39 = .ok (.lload 9, 2) := by decide +kernel
theorem dX5_commonDivisor_41 : decode cX5_commonDivisor 41 = .ok (.lstore 6, 2) := by decide +kernel
theorem dX5_commonDivisor_43 : decode cX5_commonDivisor 43 = .ok (.iinc 8 1, 3) := by decide +kernel
theorem dX5_commonDivisor_46 : decode cX5_commonDivisor 46 = .ok (.goto (-33), 3) := by decide +kernel
theorem dX5_commonDivisor_49 : decode cX5_commonDivisor 49 = .ok (.lload 4, 2) := by decide +kernel
theorem dX5_commonDivisor_51 : decode cX5_commonDivisor 51 = .ok (.lreturn, 1) := by decide +kernel
theorem dX5_count_0 : decode cX5_count 0 = .ok (.iload_n 1, 1) := by decide +kernel
theorem dX5_count_1 : decode cX5_count 1 = .ok (.tableswitch 132 0 8 #[51, 59, 67, 75, 83, 91, 99, 115, 123], 51) := by decide +kernel
theorem dX5_count_52 : decode cX5_count 52 = .ok (.aload_n 0, 1) := by decide +kernel
theorem dX5_count_53 : decode cX5_count 53 = .ok (.getfield 19, 3) := by decide +kernel
theorem dX5_count_56 : decode cX5_count 56 = .ok (.getfield 94, 3) := by decide +kernel
theorem dX5_count_59 : decode cX5_count 59 = .ok (.ireturn, 1) := by decide +kernel
theorem dX5_count_60 : decode cX5_count 60 = .ok (.aload_n 0, 1) := by decide +kernel
theorem dX5_count_61 : decode cX5_count 61 = .ok (.getfield 31, 3) := by decide +kernel
theorem dX5_count_64 : decode cX5_count 64 = .ok (.invokevirtual 103, 3) := by decide +kernel
theorem dX5_count_67 : decode cX5_count 67 = .ok (.ireturn, 1) := by decide +kernel
theorem dX5_count_68 : decode cX5_count 68 = .ok (.aload_n 0, 1) := by decide +kernel
theorem dX5_count_69 : decode cX5_count 69 = .ok (.getfield 31, 3) := by decide +kernel
theorem dX5_count_72 : decode cX5_count 72 = .ok (.getfield 107, 3) := by decide +kernel
theorem dX5_count_75 : decode cX5_count 75 = .ok (.ireturn, 1) := by decide +kernel
theorem dX5_count_76 : decode cX5_count 76 = .ok (.aload_n 0, 1) := by decide +kernel
theorem dX5_count_77 : decode cX5_count 77 = .ok (.getfield 31, 3) := by decide +kernel
theorem dX5_count_80 : decode cX5_count 80 = .ok (.invokevirtual 110, 3) := by decide +kernel
theorem dX5_count_83 : decode cX5_count 83 = .ok (.ireturn, 1) := by decide +kernel
theorem dX5_count_84 : decode cX5_count 84 = .ok (.aload_n 0, 1) := by decide +kernel
theorem dX5_count_85 : decode cX5_count 85 = .ok (.getfield 31, 3) := by decide +kernel
theorem dX5_count_88 : decode cX5_count 88 = .ok (.getfield 113, 3) := by decide +kernel
theorem dX5_count_91 : decode cX5_count 91 = .ok (.ireturn, 1) := by decide +kernel
theorem dX5_count_92 : decode cX5_count 92 = .ok (.aload_n 0, 1) := by decide +kernel
theorem dX5_count_93 : decode cX5_count 93 = .ok (.getfield 31, 3) := by decide +kernel
theorem dX5_count_96 : decode cX5_count 96 = .ok (.getfield 116, 3) := by decide +kernel
theorem dX5_count_99 : decode cX5_count 99 = .ok (.ireturn, 1) := by decide +kernel
theorem dX5_count_100 : decode cX5_count 100 = .ok (.aload_n 0, 1) := by decide +kernel
theorem dX5_count_101 : decode cX5_count 101 = .ok (.getfield 31, 3) := by decide +kernel
theorem dX5_count_104 : decode cX5_count 104 = .ok (.getfield 119, 3) := by decide +kernel
theorem dX5_count_107 : decode cX5_count 107 = .ok (.ifCond .eq 7, 3) := by decide +kernel
theorem dX5_count_110 : decode cX5_count 110 = .ok (.iconst 1, 1) := by decide +kernel
theorem dX5_count_111 : decode cX5_count 111 = .ok (.goto 4, 3) := by decide +kernel
theorem dX5_count_114 : decode cX5_count 114 = .ok (.iconst 0, 1) := by decide +kernel
theorem dX5_count_115 : decode cX5_count 115 = .ok (.ireturn, 1) := by decide +kernel
theorem dX5_count_116 : decode cX5_count 116 = .ok (.aload_n 0, 1) := by decide +kernel
theorem dX5_count_117 : decode cX5_count 117 = .ok (.getfield 19, 3) := by decide +kernel
theorem dX5_count_120 : decode cX5_count 120 = .ok (.getfield 123, 3) := by decide +kernel
theorem dX5_count_123 : decode cX5_count 123 = .ok (.ireturn, 1) := by decide +kernel
theorem dX5_count_124 : decode cX5_count 124 = .ok (.aload_n 0, 1) := by decide +kernel
theorem dX5_count_125 : decode cX5_count 125 = .ok (.getfield 31, 3) := by decide +kernel
theorem dX5_count_128 : decode cX5_count 128 = .ok (.invokevirtual 126, 3) := by decide +kernel
theorem dX5_count_131 : decode cX5_count 131 = .ok (.l2i, 1) := by decide +kernel
theorem dX5_count_132 : decode cX5_count 132 = .ok (.ireturn, 1) := by decide +kernel
theorem dX5_count_133 : decode cX5_count 133 = .ok (.new 84, 3) := by decide +kernel
theorem dX5_count_136 : decode cX5_count 136 = .ok (.dup, 1) := by decide +kernel
theorem dX5_count_137 : decode cX5_count 137 = .ok (.ldc 130, 2) := by decide +kernel
theorem dX5_count_139 : decode cX5_count 139 = .ok (.invokespecial 88, 3) := by decide +kernel
theorem dX5_count_142 : decode cX5_count 142 = .ok (.athrow, 1) := by decide +kernel
theorem dX5_drift_0 : decode cX5_drift 0 = .ok (.aload_n 0, 1) := by decide +kernel
theorem dX5_drift_1 : decode cX5_drift 1 = .ok (.getfield 31, 3) := by decide +kernel
theorem dX5_drift_4 : decode cX5_drift 4 = .ok (.invokevirtual 208, 3) := by decide +kernel
theorem dX5_drift_7 : decode cX5_drift 7 = .ok (.invokevirtual 147, 3) := by decide +kernel
theorem dX5_drift_10 : decode cX5_drift 10 = .ok (.lreturn, 1) := by decide +kernel
theorem dX5_energy_0 : decode cX5_energy 0 = .ok (.aload_n 0, 1) := by decide +kernel
theorem dX5_energy_1 : decode cX5_energy 1 = .ok (.getfield 31, 3) := by decide +kernel
theorem dX5_energy_4 : decode cX5_energy 4 = .ok (.invokevirtual 235, 3) := by decide +kernel
theorem dX5_energy_7 : decode cX5_energy 7 = .ok (.lreturn, 1) := by decide +kernel
theorem dX5_errorCode_0 : decode cX5_errorCode 0 = .ok (.aload_n 0, 1) := by decide +kernel
theorem dX5_errorCode_1 : decode cX5_errorCode 1 = .ok (.getfield 12, 3) := by decide +kernel
theorem dX5_errorCode_4 : decode cX5_errorCode 4 = .ok (.getfield 97, 3) := by decide +kernel
theorem dX5_errorCode_7 : decode cX5_errorCode 7 = .ok (.ireturn, 1) := by decide +kernel
theorem dX5_errorPosition_0 : decode cX5_errorPosition 0 = .ok (.aload_n 0, 1) := by decide +kernel
theorem dX5_errorPosition_1 : decode cX5_errorPosition 1 = .ok (.getfield 12, 3) := by decide +kernel
theorem dX5_errorPosition_4 : decode cX5_errorPosition 4 = .ok (.getfield 100, 3) := by decide +kernel
theorem dX5_errorPosition_7 : decode cX5_errorPosition 7 = .ok (.ireturn, 1) := by decide +kernel
theorem dX5_integral_0 : decode cX5_integral 0 = .ok (.aload_n 0, 1) := by decide +kernel
theorem dX5_integral_1 : decode cX5_integral 1 = .ok (.getfield 31, 3) := by decide +kernel
theorem dX5_integral_4 : decode cX5_integral 4 = .ok (.getfield 205, 3) := by decide +kernel
theorem dX5_integral_7 : decode cX5_integral 7 = .ok (.invokevirtual 147, 3) := by decide +kernel
theorem dX5_integral_10 : decode cX5_integral 10 = .ok (.lreturn, 1) := by decide +kernel
theorem dX5_largest_0 : decode cX5_largest 0 = .ok (.iload_n 1, 1) := by decide +kernel
theorem dX5_largest_1 : decode cX5_largest 1 = .ok (.aload_n 0, 1) := by decide +kernel
theorem dX5_largest_2 : decode cX5_largest 2 = .ok (.getfield 31, 3) := by decide +kernel
theorem dX5_largest_5 : decode cX5_largest 5 = .ok (.getfield 107, 3) := by decide +kernel
theorem dX5_largest_8 : decode cX5_largest 8 = .ok (.invokestatic 77, 3) := by decide +kernel
theorem dX5_largest_11 : decode cX5_largest 11 = .ok (.aload_n 0, 1) := by decide +kernel
theorem dX5_largest_12 : decode cX5_largest 12 = .ok (.getfield 31, 3) := by decide +kernel
theorem dX5_largest_15 : decode cX5_largest 15 = .ok (.iload_n 1, 1) := by decide +kernel
theorem dX5_largest_16 : decode cX5_largest 16 = .ok (.invokevirtual 241, 3) := by decide +kernel
theorem dX5_largest_19 : decode cX5_largest 19 = .ok (.ireturn, 1) := by decide +kernel
theorem dX5_mean_0 : decode cX5_mean 0 = .ok (.iload_n 1, 1) := by decide +kernel
theorem dX5_mean_1 : decode cX5_mean 1 = .ok (.iconst 0, 1) := by decide +kernel
theorem dX5_mean_2 : decode cX5_mean 2 = .ok (.iconst 1, 1) := by decide +kernel
theorem dX5_mean_3 : decode cX5_mean 3 = .ok (.invokestatic 212, 3) := by decide +kernel
theorem dX5_mean_6 : decode cX5_mean 6 = .ok (.aload_n 0, 1) := by decide +kernel
theorem dX5_mean_7 : decode cX5_mean 7 = .ok (.getfield 31, 3) := by decide +kernel
theorem dX5_mean_10 : decode cX5_mean 10 = .ok (.invokevirtual 126, 3) := by decide +kernel
theorem dX5_mean_13 : decode cX5_mean 13 = .ok (.lstore_n 2, 1) := by decide +kernel
theorem dX5_mean_14 : decode cX5_mean 14 = .ok (.lload_n 2, 1) := by decide +kernel
theorem dX5_mean_15 : decode cX5_mean 15 = .ok (.aload_n 0, 1) := by decide +kernel
theorem dX5_mean_16 : decode cX5_mean 16 = .ok (.getfield 31, 3) := by decide +kernel
theorem dX5_mean_19 : decode cX5_mean 19 = .ok (.getfield 205, 3) := by decide +kernel
theorem dX5_mean_22 : decode cX5_mean 22 = .ok (.lload_n 2, 1) := by decide +kernel
theorem dX5_mean_23 : decode cX5_mean 23 = .ok (.invokevirtual 216, 3) := by decide +kernel
theorem dX5_mean_26 : decode cX5_mean 26 = .ok (.invokestatic 220, 3) := by decide +kernel
theorem dX5_mean_29 : decode cX5_mean 29 = .ok (.lstore 4, 2) := by decide +kernel
theorem dX5_mean_31 : decode cX5_mean 31 = .ok (.iload_n 1, 1) := by decide +kernel
theorem dX5_mean_32 : decode cX5_mean 32 = .ok (.ifCond .ne 18, 3) := by decide +kernel
theorem dX5_mean_35 : decode cX5_mean 35 = .ok (.aload_n 0, 1) := by decide +kernel
theorem dX5_mean_36 : decode cX5_mean 36 = .ok (.getfield 31, 3) := by decide +kernel
theorem dX5_mean_39 : decode cX5_mean 39 = .ok (.lload 4, 2) := by decide +kernel
theorem dX5_mean_41 : decode cX5_mean 41 = .ok (.invokevirtual 224, 3) := by decide +kernel
theorem dX5_mean_44 : decode cX5_mean 44 = .ok (.invokevirtual 147, 3) := by decide +kernel
theorem dX5_mean_47 : decode cX5_mean 47 = .ok (.goto 7, 3) := by decide +kernel
theorem dX5_mean_50 : decode cX5_mean 50 = .ok (.lload_n 2, 1) := by decide +kernel
theorem dX5_mean_51 : decode cX5_mean 51 = .ok (.lload 4, 2) := by decide +kernel
theorem dX5_mean_53 : decode cX5_mean 53 = .ok (.ldiv, 1) := by decide +kernel
theorem dX5_mean_54 : decode cX5_mean 54 = .ok (.lreturn, 1) := by decide +kernel
theorem dX5_needIndex_0 : decode cX5_needIndex 0 = .ok (.iload_n 0, 1) := by decide +kernel
theorem dX5_needIndex_1 : decode cX5_needIndex 1 = .ok (.ifCond .lt 8, 3) := by decide +kernel
theorem dX5_needIndex_4 : decode cX5_needIndex 4 = .ok (.iload_n 0, 1) := by decide +kernel
theorem dX5_needIndex_5 : decode cX5_needIndex 5 = .ok (.iload_n 1, 1) := by decide +kernel
theorem dX5_needIndex_6 : decode cX5_needIndex 6 = .ok (.if_icmp .lt 14, 3) := by decide +kernel
theorem dX5_needIndex_9 : decode cX5_needIndex 9 = .ok (.new 196, 3) := by decide +kernel
theorem dX5_needIndex_12 : decode cX5_needIndex 12 = .ok (.dup, 1) := by decide +kernel
theorem dX5_needIndex_13 : decode cX5_needIndex 13 = .ok (.ldc_w 319, 3) := by decide +kernel
theorem dX5_needIndex_16 : decode cX5_needIndex 16 = .ok (.invokespecial 200, 3) := by decide +kernel
theorem dX5_needIndex_19 : decode cX5_needIndex 19 = .ok (.athrow, 1) := by decide +kernel
theorem dX5_needIndex_20 : decode cX5_needIndex 20 = .ok (.return_, 1) := by decide +kernel
theorem dX5_needRange_0 : decode cX5_needRange 0 = .ok (.iload_n 0, 1) := by decide +kernel
theorem dX5_needRange_1 : decode cX5_needRange 1 = .ok (.iload_n 1, 1) := by decide +kernel
theorem dX5_needRange_2 : decode cX5_needRange 2 = .ok (.if_icmp .lt 8, 3) := by decide +kernel
theorem dX5_needRange_5 : decode cX5_needRange 5 = .ok (.iload_n 0, 1) := by decide +kernel
theorem dX5_needRange_6 : decode cX5_needRange 6 = .ok (.iload_n 2, 1) := by decide +kernel
theorem dX5_needRange_7 : decode cX5_needRange 7 = .ok (.if_icmp .le 14, 3) := by decide +kernel
theorem dX5_needRange_10 : decode cX5_needRange 10 = .ok (.new 84, 3) := by decide +kernel
theorem dX5_needRange_13 : decode cX5_needRange 13 = .ok (.dup, 1) := by decide +kernel
theorem dX5_needRange_14 : decode cX5_needRange 14 = .ok (.ldc_w 321, 3) := by decide +kernel
theorem dX5_needRange_17 : decode cX5_needRange 17 = .ok (.invokespecial 88, 3) := by decide +kernel
theorem dX5_needRange_20 : decode cX5_needRange 20 = .ok (.athrow, 1) := by decide +kernel
theorem dX5_needRange_21 : decode cX5_needRange 21 = .ok (.return_, 1) := by decide +kernel
theorem dX5_neighbour_0 : decode cX5_neighbour 0 = .ok (.iload_n 1, 1) := by decide +kernel
theorem dX5_neighbour_1 : decode cX5_neighbour 1 = .ok (.aload_n 0, 1) := by decide +kernel
theorem dX5_neighbour_2 : decode cX5_neighbour 2 = .ok (.getfield 19, 3) := by decide +kernel
theorem dX5_neighbour_5 : decode cX5_neighbour 5 = .ok (.getfield 94, 3) := by decide +kernel
theorem dX5_neighbour_8 : decode cX5_neighbour 8 = .ok (.invokestatic 77, 3) := by decide +kernel
theorem dX5_neighbour_11 : decode cX5_neighbour 11 = .ok (.iload_n 2, 1) := by decide +kernel
theorem dX5_neighbour_12 : decode cX5_neighbour 12 = .ok (.ifCond .eq 14, 3) := by decide +kernel
theorem dX5_neighbour_15 : decode cX5_neighbour 15 = .ok (.aload_n 0, 1) := by decide +kernel
theorem dX5_neighbour_16 : decode cX5_neighbour 16 = .ok (.getfield 31, 3) := by decide +kernel
theorem dX5_neighbour_19 : decode cX5_neighbour 19 = .ok (.iload_n 1, 1) := by decide +kernel
theorem dX5_neighbour_20 : decode cX5_neighbour 20 = .ok (.invokevirtual 165, 3) := by decide +kernel
theorem dX5_neighbour_23 : decode cX5_neighbour 23 = .ok (.goto 11, 3) := by decide +kernel
theorem dX5_neighbour_26 : decode cX5_neighbour 26 = .ok (.aload_n 0, 1) := by decide +kernel
theorem dX5_neighbour_27 : decode cX5_neighbour 27 = .ok (.getfield 31, 3) := by decide +kernel
theorem dX5_neighbour_30 : decode cX5_neighbour 30 = .ok (.iload_n 1, 1) := by decide +kernel
theorem dX5_neighbour_31 : decode cX5_neighbour 31 = .ok (.invokevirtual 168, 3) := by decide +kernel
theorem dX5_neighbour_34 : decode cX5_neighbour 34 = .ok (.ireturn, 1) := by decide +kernel
theorem dX5_next_0 : decode cX5_next 0 = .ok (.aload_n 0, 1) := by decide +kernel
theorem dX5_next_1 : decode cX5_next 1 = .ok (.getfield 31, 3) := by decide +kernel
theorem dX5_next_4 : decode cX5_next 4 = .ok (.invokevirtual 244, 3) := by decide +kernel
theorem dX5_next_7 : decode cX5_next 7 = .ok (.istore_n 1, 1) := by decide +kernel
theorem dX5_next_8 : decode cX5_next 8 = .ok (.iload_n 1, 1) := by decide +kernel
theorem dX5_next_9 : decode cX5_next 9 = .ok (.iconst (-1), 1) := by decide +kernel
theorem dX5_next_10 : decode cX5_next 10 = .ok (.if_icmp .ne 13, 3) := by decide +kernel
theorem dX5_next_13 : decode cX5_next 13 = .ok (.new 247, 3) := by decide +kernel
theorem dX5_next_16 : decode cX5_next 16 = .ok (.dup, 1) := by decide +kernel
theorem dX5_next_17 : decode cX5_next 17 = .ok (.ldc 249, 2) := by decide +kernel
theorem dX5_next_19 : decode cX5_next 19 = .ok (.invokespecial 251, 3) := by decide +kernel
theorem dX5_next_22 : decode cX5_next 22 = .ok (.athrow, 1) := by decide +kernel
theorem dX5_next_23 : decode cX5_next 23 = .ok (.iload_n 1, 1) := by decide +kernel
theorem dX5_next_24 : decode cX5_next 24 = .ok (.ireturn, 1) := by decide +kernel
theorem dX5_present_0 : decode cX5_present 0 = .ok (.iload_n 1, 1) := by decide +kernel
theorem dX5_present_1 : decode cX5_present 1 = .ok (.aload_n 0, 1) := by decide +kernel
theorem dX5_present_2 : decode cX5_present 2 = .ok (.getfield 31, 3) := by decide +kernel
theorem dX5_present_5 : decode cX5_present 5 = .ok (.invokevirtual 103, 3) := by decide +kernel
theorem dX5_present_8 : decode cX5_present 8 = .ok (.invokestatic 77, 3) := by decide +kernel
theorem dX5_present_11 : decode cX5_present 11 = .ok (.aload_n 0, 1) := by decide +kernel
theorem dX5_present_12 : decode cX5_present 12 = .ok (.getfield 31, 3) := by decide +kernel
theorem dX5_present_15 : decode cX5_present 15 = .ok (.iload_n 1, 1) := by decide +kernel
theorem dX5_present_16 : decode cX5_present 16 = .ok (.invokevirtual 161, 3) := by decide +kernel
theorem dX5_present_19 : decode cX5_present 19 = .ok (.ireturn, 1) := by decide +kernel
theorem dX5_refuse_0 : decode cX5_refuse 0 = .ok (.aload_n 0, 1) := by decide +kernel
theorem dX5_refuse_1 : decode cX5_refuse 1 = .ok (.iload_n 1, 1) := by decide +kernel
theorem dX5_refuse_2 : decode cX5_refuse 2 = .ok (.putfield 46, 3) := by decide +kernel
theorem dX5_refuse_5 : decode cX5_refuse 5 = .ok (.aload_n 0, 1) := by decide +kernel
theorem dX5_refuse_6 : decode cX5_refuse 6 = .ok (.iload_n 2, 1) := by decide +kernel
theorem dX5_refuse_7 : decode cX5_refuse 7 = .ok (.putfield 50, 3) := by decide +kernel
theorem dX5_refuse_10 : decode cX5_refuse 10 = .ok (.aload_n 0, 1) := by decide +kernel
theorem dX5_refuse_11 : decode cX5_refuse 11 = .ok (.iload_n 3, 1) := by decide +kernel
theorem dX5_refuse_12 : decode cX5_refuse 12 = .ok (.putfield 53, 3) := by decide +kernel
theorem dX5_refuse_15 : decode cX5_refuse 15 = .ok (.new 323, 3) := by decide +kernel
theorem dX5_refuse_18 : decode cX5_refuse 18 = .ok (.dup, 1) := by decide +kernel
theorem dX5_refuse_19 : decode cX5_refuse 19 = .ok (.ldc_w 325, 3) := by decide +kernel
theorem dX5_refuse_22 : decode cX5_refuse 22 = .ok (.invokespecial 327, 3) := by decide +kernel
theorem dX5_refuse_25 : decode cX5_refuse 25 = .ok (.athrow, 1) := by decide +kernel
theorem dX5_sample_0 : decode cX5_sample 0 = .ok (.iload_n 1, 1) := by decide +kernel
theorem dX5_sample_1 : decode cX5_sample 1 = .ok (.aload_n 0, 1) := by decide +kernel
theorem dX5_sample_2 : decode cX5_sample 2 = .ok (.getfield 19, 3) := by decide +kernel
theorem dX5_sample_5 : decode cX5_sample 5 = .ok (.getfield 94, 3) := by decide +kernel
theorem dX5_sample_8 : decode cX5_sample 8 = .ok (.invokestatic 77, 3) := by decide +kernel
theorem dX5_sample_11 : decode cX5_sample 11 = .ok (.iload_n 2, 1) := by decide +kernel
theorem dX5_sample_12 : decode cX5_sample 12 = .ok (.tableswitch 130 0 5 #[40, 51, 62, 79, 109, 119], 40) := by decide +kernel
theorem dX5_sample_52 : decode cX5_sample 52 = .ok (.aload_n 0, 1) := by decide +kernel
theorem dX5_sample_53 : decode cX5_sample 53 = .ok (.getfield 19, 3) := by decide +kernel
theorem dX5_sample_56 : decode cX5_sample 56 = .ok (.getfield 132, 3) := by decide +kernel
theorem dX5_sample_59 : decode cX5_sample 59 = .ok (.iload_n 1, 1) := by decide +kernel
theorem dX5_sample_60 : decode cX5_sample 60 = .ok (.iaload, 1) := by decide +kernel
theorem dX5_sample_61 : decode cX5_sample 61 = .ok (.i2l, 1) := by decide +kernel
theorem dX5_sample_62 : decode cX5_sample 62 = .ok (.lreturn, 1) := by decide +kernel
theorem dX5_sample_63 : decode cX5_sample 63 = .ok (.aload_n 0, 1) := by decide +kernel
theorem dX5_sample_64 : decode cX5_sample 64 = .ok (.getfield 19, 3) := by decide +kernel
theorem dX5_sample_67 : decode cX5_sample 67 = .ok (.getfield 136, 3) := by decide +kernel
theorem dX5_sample_70 : decode cX5_sample 70 = .ok (.iload_n 1, 1) := by decide +kernel
theorem dX5_sample_71 : decode cX5_sample 71 = .ok (.iaload, 1) := by decide +kernel
theorem dX5_sample_72 : decode cX5_sample 72 = .ok (.i2l, 1) := by decide +kernel
theorem dX5_sample_73 : decode cX5_sample 73 = .ok (.lreturn, 1) := by decide +kernel
theorem dX5_sample_74 : decode cX5_sample 74 = .ok (.aload_n 0, 1) := by decide +kernel
theorem dX5_sample_75 : decode cX5_sample 75 = .ok (.getfield 31, 3) := by decide +kernel
theorem dX5_sample_78 : decode cX5_sample 78 = .ok (.iload_n 1, 1) := by decide +kernel
theorem dX5_sample_79 : decode cX5_sample 79 = .ok (.invokevirtual 139, 3) := by decide +kernel
theorem dX5_sample_82 : decode cX5_sample 82 = .ok (.ifCond .eq 7, 3) := by decide +kernel
theorem dX5_sample_85 : decode cX5_sample 85 = .ok (.lconst 1, 1) := by decide +kernel
theorem dX5_sample_86 : decode cX5_sample 86 = .ok (.goto 4, 3) := by decide +kernel
theorem dX5_sample_89 : decode cX5_sample 89 = .ok (.lconst 0, 1) := by decide +kernel
theorem dX5_sample_90 : decode cX5_sample 90 = .ok (.lreturn, 1) := by decide +kernel
theorem dX5_sample_91 : decode cX5_sample 91 = .ok (.aload_n 0, 1) := by decide +kernel
theorem dX5_sample_92 : decode cX5_sample 92 = .ok (.getfield 31, 3) := by decide +kernel
theorem dX5_sample_95 : decode cX5_sample 95 = .ok (.iload_n 1, 1) := by decide +kernel
theorem dX5_sample_96 : decode cX5_sample 96 = .ok (.invokevirtual 139, 3) := by decide +kernel
theorem dX5_sample_99 : decode cX5_sample 99 = .ok (.ifCond .eq 18, 3) := by decide +kernel
theorem dX5_sample_102 : decode cX5_sample 102 = .ok (.aload_n 0, 1) := by decide +kernel
theorem dX5_sample_103 : decode cX5_sample 103 = .ok (.getfield 31, 3) := by decide +kernel
theorem dX5_sample_106 : decode cX5_sample 106 = .ok (.getfield 143, 3) := by decide +kernel
theorem dX5_sample_109 : decode cX5_sample 109 = .ok (.iload_n 1, 1) := by decide +kernel
theorem dX5_sample_110 : decode cX5_sample 110 = .ok (.aaload, 1) := by decide +kernel
theorem dX5_sample_111 : decode cX5_sample 111 = .ok (.invokevirtual 147, 3) := by decide +kernel
theorem dX5_sample_114 : decode cX5_sample 114 = .ok (.goto 6, 3) := by decide +kernel
theorem dX5_sample_117 : decode cX5_sample 117 = .ok (.ldc2_w 152, 3) := by decide +kernel
theorem dX5_sample_120 : decode cX5_sample 120 = .ok (.lreturn, 1) := by decide +kernel
theorem dX5_sample_121 : decode cX5_sample 121 = .ok (.aload_n 0, 1) := by decide +kernel
theorem dX5_sample_122 : decode cX5_sample 122 = .ok (.getfield 31, 3) := by decide +kernel
theorem dX5_sample_125 : decode cX5_sample 125 = .ok (.getfield 154, 3) := by decide +kernel
theorem dX5_sample_128 : decode cX5_sample 128 = .ok (.iload_n 1, 1) := by decide +kernel
theorem dX5_sample_129 : decode cX5_sample 129 = .ok (.laload, 1) := by decide +kernel
theorem dX5_sample_130 : decode cX5_sample 130 = .ok (.lreturn, 1) := by decide +kernel
theorem dX5_sample_131 : decode cX5_sample 131 = .ok (.aload_n 0, 1) := by decide +kernel
theorem dX5_sample_132 : decode cX5_sample 132 = .ok (.getfield 31, 3) := by decide +kernel
theorem dX5_sample_135 : decode cX5_sample 135 = .ok (.getfield 158, 3) := by decide +kernel
theorem dX5_sample_138 : decode cX5_sample 138 = .ok (.iload_n 1, 1) := by decide +kernel
theorem dX5_sample_139 : decode cX5_sample 139 = .ok (.iaload, 1) := by decide +kernel
theorem dX5_sample_140 : decode cX5_sample 140 = .ok (.i2l, 1) := by decide +kernel
theorem dX5_sample_141 : decode cX5_sample 141 = .ok (.lreturn, 1) := by decide +kernel
theorem dX5_sample_142 : decode cX5_sample 142 = .ok (.new 84, 3) := by decide +kernel
theorem dX5_sample_145 : decode cX5_sample 145 = .ok (.dup, 1) := by decide +kernel
theorem dX5_sample_146 : decode cX5_sample 146 = .ok (.ldc 130, 2) := by decide +kernel
theorem dX5_sample_148 : decode cX5_sample 148 = .ok (.invokespecial 88, 3) := by decide +kernel
theorem dX5_sample_151 : decode cX5_sample 151 = .ok (.athrow, 1) := by decide +kernel
theorem dX5_step_0 : decode cX5_step 0 = .ok (.iload_n 1, 1) := by decide +kernel
theorem dX5_step_1 : decode cX5_step 1 = .ok (.aload_n 0, 1) := by decide +kernel
theorem dX5_step_2 : decode cX5_step 2 = .ok (.getfield 31, 3) := by decide +kernel
theorem dX5_step_5 : decode cX5_step 5 = .ok (.getfield 107, 3) := by decide +kernel
theorem dX5_step_8 : decode cX5_step 8 = .ok (.invokestatic 77, 3) := by decide +kernel
theorem dX5_step_11 : decode cX5_step 11 = .ok (.aload_n 0, 1) := by decide +kernel
theorem dX5_step_12 : decode cX5_step 12 = .ok (.getfield 31, 3) := by decide +kernel
theorem dX5_step_15 : decode cX5_step 15 = .ok (.getfield 171, 3) := by decide +kernel
theorem dX5_step_18 : decode cX5_step 18 = .ok (.iload_n 1, 1) := by decide +kernel
theorem dX5_step_19 : decode cX5_step 19 = .ok (.aaload, 1) := by decide +kernel
theorem dX5_step_20 : decode cX5_step 20 = .ok (.astore_n 3, 1) := by decide +kernel
theorem dX5_step_21 : decode cX5_step 21 = .ok (.iload_n 2, 1) := by decide +kernel
theorem dX5_step_22 : decode cX5_step 22 = .ok (.tableswitch 74 0 5 #[38, 44, 50, 56, 64, 69], 38) := by decide +kernel
theorem dX5_step_60 : decode cX5_step 60 = .ok (.aload_n 3, 1) := by decide +kernel
theorem dX5_step_61 : decode cX5_step 61 = .ok (.getfield 175, 3) := by decide +kernel
theorem dX5_step_64 : decode cX5_step 64 = .ok (.i2l, 1) := by decide +kernel
theorem dX5_step_65 : decode cX5_step 65 = .ok (.lreturn, 1) := by decide +kernel
theorem dX5_step_66 : decode cX5_step 66 = .ok (.aload_n 3, 1) := by decide +kernel
theorem dX5_step_67 : decode cX5_step 67 = .ok (.getfield 180, 3) := by decide +kernel
theorem dX5_step_70 : decode cX5_step 70 = .ok (.i2l, 1) := by decide +kernel
theorem dX5_step_71 : decode cX5_step 71 = .ok (.lreturn, 1) := by decide +kernel
theorem dX5_step_72 : decode cX5_step 72 = .ok (.aload_n 3, 1) := by decide +kernel
theorem dX5_step_73 : decode cX5_step 73 = .ok (.getfield 183, 3) := by decide +kernel
theorem dX5_step_76 : decode cX5_step 76 = .ok (.i2l, 1) := by decide +kernel
theorem dX5_step_77 : decode cX5_step 77 = .ok (.lreturn, 1) := by decide +kernel
theorem dX5_step_78 : decode cX5_step 78 = .ok (.aload_n 3, 1) := by decide +kernel
theorem dX5_step_79 : decode cX5_step 79 = .ok (.getfield 186, 3) := by decide +kernel
theorem dX5_step_82 : decode cX5_step 82 = .ok (.invokevirtual 147, 3) := by decide +kernel
theorem dX5_step_85 : decode cX5_step 85 = .ok (.lreturn, 1) := by decide +kernel
theorem dX5_step_86 : decode cX5_step 86 = .ok (.aload_n 3, 1) := by decide +kernel
theorem dX5_step_87 : decode cX5_step 87 = .ok (.getfield 190, 3) := by decide +kernel
theorem dX5_step_90 : decode cX5_step 90 = .ok (.lreturn, 1) := by decide +kernel
theorem dX5_step_91 : decode cX5_step 91 = .ok (.aload_n 3, 1) := by decide +kernel
theorem dX5_step_92 : decode cX5_step 92 = .ok (.getfield 193, 3) := by decide +kernel
theorem dX5_step_95 : decode cX5_step 95 = .ok (.lreturn, 1) := by decide +kernel
theorem dX5_step_96 : decode cX5_step 96 = .ok (.new 84, 3) := by decide +kernel
theorem dX5_step_99 : decode cX5_step 99 = .ok (.dup, 1) := by decide +kernel
theorem dX5_step_100 : decode cX5_step 100 = .ok (.ldc 130, 2) := by decide +kernel
theorem dX5_step_102 : decode cX5_step 102 = .ok (.invokespecial 88, 3) := by decide +kernel
theorem dX5_step_105 : decode cX5_step 105 = .ok (.athrow, 1) := by decide +kernel
theorem dX5_truncate_0 : decode cX5_truncate 0 = .ok (.iload_n 1, 1) := by decide +kernel
theorem dX5_truncate_1 : decode cX5_truncate 1 = .ok (.aload_n 0, 1) := by decide +kernel
theorem dX5_truncate_2 : decode cX5_truncate 2 = .ok (.getfield 12, 3) := by decide +kernel
theorem dX5_truncate_5 : decode cX5_truncate 5 = .ok (.getfield 74, 3) := by decide +kernel
theorem dX5_truncate_8 : decode cX5_truncate 8 = .ok (.iconst 1, 1) := by decide +kernel
theorem dX5_truncate_9 : decode cX5_truncate 9 = .ok (.iadd, 1) := by decide +kernel
theorem dX5_truncate_10 : decode cX5_truncate 10 = .ok (.invokestatic 77, 3) := by decide +kernel
theorem dX5_truncate_13 : decode cX5_truncate 13 = .ok (.aload_n 0, 1) := by decide +kernel
theorem dX5_truncate_14 : decode cX5_truncate 14 = .ok (.getfield 12, 3) := by decide +kernel
theorem dX5_truncate_17 : decode cX5_truncate 17 = .ok (.iload_n 1, 1) := by decide +kernel
theorem dX5_truncate_18 : decode cX5_truncate 18 = .ok (.putfield 74, 3) := by decide +kernel
theorem dX5_truncate_21 : decode cX5_truncate 21 = .ok (.iload_n 1, 1) := by decide +kernel
theorem dX5_truncate_22 : decode cX5_truncate 22 = .ok (.ireturn, 1) := by decide +kernel
theorem dX5_valueAt_0 : decode cX5_valueAt 0 = .ok (.iload_n 1, 1) := by decide +kernel
theorem dX5_valueAt_1 : decode cX5_valueAt 1 = .ok (.aload_n 0, 1) := by decide +kernel
theorem dX5_valueAt_2 : decode cX5_valueAt 2 = .ok (.getfield 19, 3) := by decide +kernel
theorem dX5_valueAt_5 : decode cX5_valueAt 5 = .ok (.getfield 132, 3) := by decide +kernel
theorem dX5_valueAt_8 : decode cX5_valueAt 8 = .ok (.iconst 0, 1) := by decide +kernel
theorem dX5_valueAt_9 : decode cX5_valueAt 9 = .ok (.iaload, 1) := by decide +kernel
theorem dX5_valueAt_10 : decode cX5_valueAt 10 = .ok (.if_icmp .lt 24, 3) := by decide +kernel
theorem dX5_valueAt_13 : decode cX5_valueAt 13 = .ok (.iload_n 1, 1) := by decide +kernel
theorem dX5_valueAt_14 : decode cX5_valueAt 14 = .ok (.aload_n 0, 1) := by decide +kernel
theorem dX5_valueAt_15 : decode cX5_valueAt 15 = .ok (.getfield 19, 3) := by decide +kernel
theorem dX5_valueAt_18 : decode cX5_valueAt 18 = .ok (.getfield 132, 3) := by decide +kernel
theorem dX5_valueAt_21 : decode cX5_valueAt 21 = .ok (.aload_n 0, 1) := by decide +kernel
theorem dX5_valueAt_22 : decode cX5_valueAt 22 = .ok (.getfield 19, 3) := by decide +kernel
theorem dX5_valueAt_25 : decode cX5_valueAt 25 = .ok (.getfield 94, 3) := by decide +kernel
theorem dX5_valueAt_28 : decode cX5_valueAt 28 = .ok (.iconst 1, 1) := by decide +kernel
theorem dX5_valueAt_29 : decode cX5_valueAt 29 = .ok (.isub, 1) := by decide +kernel
theorem dX5_valueAt_30 : decode cX5_valueAt 30 = .ok (.iaload, 1) := by decide +kernel
theorem dX5_valueAt_31 : decode cX5_valueAt 31 = .ok (.if_icmp .le 13, 3) := by decide +kernel
theorem dX5_valueAt_34 : decode cX5_valueAt 34 = .ok (.new 196, 3) := by decide +kernel
theorem dX5_valueAt_37 : decode cX5_valueAt 37 = .ok (.dup, 1) := by decide +kernel
theorem dX5_valueAt_38 : decode cX5_valueAt 38 = .ok (.ldc 198, 2) := by decide +kernel
theorem dX5_valueAt_40 : decode cX5_valueAt 40 = .ok (.invokespecial 200, 3) := by decide +kernel
theorem dX5_valueAt_43 : decode cX5_valueAt 43 = .ok (.athrow, 1) := by decide +kernel
theorem dX5_valueAt_44 : decode cX5_valueAt 44 = .ok (.aload_n 0, 1) := by decide +kernel
theorem dX5_valueAt_45 : decode cX5_valueAt 45 = .ok (.getfield 31, 3) := by decide +kernel
theorem dX5_valueAt_48 : decode cX5_valueAt 48 = .ok (.iload_n 1, 1) := by decide +kernel
theorem dX5_valueAt_49 : decode cX5_valueAt 49 = .ok (.invokevirtual 201, 3) := by decide +kernel
theorem dX5_valueAt_52 : decode cX5_valueAt 52 = .ok (.invokevirtual 147, 3) := by decide +kernel
theorem dX5_valueAt_55 : decode cX5_valueAt 55 = .ok (.lreturn, 1) := by decide +kernel
set_option maxHeartbeats 4000000 in
set_option maxRecDepth 100000 in
theorem X5_needIndex (l : Launch) (κ : Kt) (σ0 : Gh) (i : Int32) (n : Int32) (hlt : l.stackTraces = false) : TX l yX5_needIndex cX5_needIndex 2 none 6 90 [.int i, .int n] κ σ0 (tqv κ fE σ0 (fun (τ : Gh) => (0 ≤ i.toInt) ∧ (i.toInt < n.toInt))) (txq κ fE σ0 (fun (E : String) (τ : Gh) => E = "java/lang/IndexOutOfBoundsException" ∧ (i.toInt < 0 ∨ n.toInt ≤ i.toInt))) := by
  refine TX.of fE (by decide +kernel) (Nat.le_of_ble_eq_true rfl) ?_
  intro p e s m below meth c ls hcs hout hK hX hT hl
  obtain ⟨hx, hb, hr, hml, hown, hg, hlocks, hin⟩ := hcs
  have hown : s.vm.findClass RX5 = some m.cls := hown
  have hl : lv_has ls 2 [(0, .int i), (1, .int n)] := hl
  have hT0 := hT
  have n0 : (0 : Int32).toInt = 0 := by decide
  have i_lo := Int32.le_toInt i
  have i_hi := Int32.toInt_lt i
  have n_lo := Int32.le_toInt n
  have n_hi := Int32.toInt_lt n
  generalize hQ9 : tQX _ _ _ _ _ _ _ = Q9
  refine lv_iload_n hx hb dX5_needIndex_0 rfl (lv_at hl 0 rfl) ?_
  refine lv_if_lt (tgt := 9) hx hb dX5_needIndex_1 (by decide) (fun c9 => ?_) (fun c9 => ?_)
  · have c1 := gi_lt c9
    obtain ⟨sa, hsa⟩ := XX_sRX5_319 hX.1
    subst hQ9
    exact tthW_IOOBE hx hb hlt hown (hg _ k613) (hg _ k96) hsa hg hX.1 hT (hl.1.trans hml.symm) dX5_needIndex_9 dX5_needIndex_12 dX5_needIndex_13 dX5_needIndex_16 dX5_needIndex_19 hout (Nat.le_of_ble_eq_true rfl) (Nat.le_of_ble_eq_true rfl) zroomX.rf hlocks ⟨rfl, by omega⟩
  · have c2 := gi_nlt c9
    refine lv_iload_n hx hb dX5_needIndex_4 rfl (lv_at hl 0 rfl) ?_
    refine lv_iload_n hx hb dX5_needIndex_5 rfl (lv_at hl 1 rfl) ?_
    refine lv_icmp_lt (tgt := 20) hx hb dX5_needIndex_6 (by decide) (fun c9 => ?_) (fun c9 => ?_)
    · have c3 := gi_lt c9
      subst hQ9
      exact vx_ret (t_v hx hb hr hlocks hT ⟨by omega, by omega⟩ dX5_needIndex_20)
    · have c4 := gi_nlt c9
      obtain ⟨sa, hsa⟩ := XX_sRX5_319 hX.1
      subst hQ9
      exact tthW_IOOBE hx hb hlt hown (hg _ k613) (hg _ k96) hsa hg hX.1 hT (hl.1.trans hml.symm) dX5_needIndex_9 dX5_needIndex_12 dX5_needIndex_13 dX5_needIndex_16 dX5_needIndex_19 hout (Nat.le_of_ble_eq_true rfl) (Nat.le_of_ble_eq_true rfl) zroomX.rf hlocks ⟨rfl, by omega⟩
set_option maxHeartbeats 4000000 in
set_option maxRecDepth 100000 in
theorem X5_needRange (l : Launch) (κ : Kt) (σ0 : Gh) (i : Int32) (lo : Int32) (hi : Int32) (hlt : l.stackTraces = false) : TX l yX5_needRange cX5_needRange 3 none 6 90 [.int i, .int lo, .int hi] κ σ0 (tqv κ fE σ0 (fun (τ : Gh) => (lo.toInt ≤ i.toInt) ∧ (i.toInt ≤ hi.toInt))) (txq κ fE σ0 (fun (E : String) (τ : Gh) => E = "java/lang/IllegalArgumentException" ∧ (i.toInt < lo.toInt ∨ hi.toInt < i.toInt))) := by
  refine TX.of fE (by decide +kernel) (Nat.le_of_ble_eq_true rfl) ?_
  intro p e s m below meth c ls hcs hout hK hX hT hl
  obtain ⟨hx, hb, hr, hml, hown, hg, hlocks, hin⟩ := hcs
  have hown : s.vm.findClass RX5 = some m.cls := hown
  have hl : lv_has ls 3 [(0, .int i), (1, .int lo), (2, .int hi)] := hl
  have hT0 := hT
  have i_lo := Int32.le_toInt i
  have i_hi := Int32.toInt_lt i
  have lo_lo := Int32.le_toInt lo
  have lo_hi := Int32.toInt_lt lo
  have hi_lo := Int32.le_toInt hi
  have hi_hi := Int32.toInt_lt hi
  generalize hQ9 : tQX _ _ _ _ _ _ _ = Q9
  refine lv_iload_n hx hb dX5_needRange_0 rfl (lv_at hl 0 rfl) ?_
  refine lv_iload_n hx hb dX5_needRange_1 rfl (lv_at hl 1 rfl) ?_
  refine lv_icmp_lt (tgt := 10) hx hb dX5_needRange_2 (by decide) (fun c9 => ?_) (fun c9 => ?_)
  · have c1 := gi_lt c9
    obtain ⟨sa, hsa⟩ := XX_sRX5_321 hX.1
    subst hQ9
    exact tthW_IAE hx hb hlt hown (hg _ k813) (hg _ k101) hsa hg hX.1 hT (hl.1.trans hml.symm) dX5_needRange_10 dX5_needRange_13 dX5_needRange_14 dX5_needRange_17 dX5_needRange_20 hout (Nat.le_of_ble_eq_true rfl) (Nat.le_of_ble_eq_true rfl) zroomX.rf hlocks ⟨rfl, by omega⟩
  · have c2 := gi_nlt c9
    refine lv_iload_n hx hb dX5_needRange_5 rfl (lv_at hl 0 rfl) ?_
    refine lv_iload_n hx hb dX5_needRange_6 rfl (lv_at hl 2 rfl) ?_
    refine lv_icmp_le (tgt := 21) hx hb dX5_needRange_7 (by decide) (fun c9 => ?_) (fun c9 => ?_)
    · have c3 := gi_le c9
      subst hQ9
      exact vx_ret (t_v hx hb hr hlocks hT ⟨by omega, by omega⟩ dX5_needRange_21)
    · have c4 := gi_nle c9
      obtain ⟨sa, hsa⟩ := XX_sRX5_321 hX.1
      subst hQ9
      exact tthW_IAE hx hb hlt hown (hg _ k813) (hg _ k101) hsa hg hX.1 hT (hl.1.trans hml.symm) dX5_needRange_10 dX5_needRange_13 dX5_needRange_14 dX5_needRange_17 dX5_needRange_20 hout (Nat.le_of_ble_eq_true rfl) (Nat.le_of_ble_eq_true rfl) zroomX.rf hlocks ⟨rfl, by omega⟩
set_option maxHeartbeats 4000000 in
set_option maxRecDepth 100000 in
theorem X5_refuse (l : Launch) (κ : Kt) (σ0 : Gh) (this : Nat) (co : Int32) (ca : Int32) (sa : Int32) (t_this : zk σ0 this 7) (hlt : l.stackTraces = false) : TX l yX5_refuse cX5_refuse 4 none 6 90 [.ref this, .int co, .int ca, .int sa] κ σ0 (tqv κ fRf σ0 (fun (τ : Gh) => (False))) (txq κ fRf σ0 (fun (E : String) (τ : Gh) => E = "java/lang/IllegalStateException")) := by
  refine TX.of fRf (by decide +kernel) (Nat.le_of_ble_eq_true rfl) ?_
  intro p e s m below meth c ls hcs hout hK hX hT hl
  obtain ⟨hx, hb, hr, hml, hown, hg, hlocks, hin⟩ := hcs
  have hown : s.vm.findClass RX5 = some m.cls := hown
  have hl : lv_has ls 4 [(0, .ref this), (1, .int co), (2, .int ca), (3, .int sa)] := hl
  have hT0 := hT
  have co_lo := Int32.le_toInt co
  have co_hi := Int32.toInt_lt co
  have ca_lo := Int32.le_toInt ca
  have ca_hi := Int32.toInt_lt ca
  have sa_lo := Int32.le_toInt sa
  have sa_hi := Int32.toInt_lt sa
  generalize hQ9 : tQX _ _ _ _ _ _ _ = Q9
  refine lv_aload_n hx hb dX5_refuse_0 rfl (lv_at hl 0 rfl) ?_
  refine lv_iload_n hx hb dX5_refuse_1 rfl (lv_at hl 1 rfl) ?_
  have hTo := hT
  refine pf7_7 hx hb hg hown hK hT (hT.k t_this (by decide)) rfl (hg _ k386) dX5_refuse_2 (fun H locs s1 hus1 hT => ?_)
  have e2 : zI s1 this 7 = co := zput_at hus1
  refine lv_aload_n hx hb dX5_refuse_5 rfl (lv_at hl 0 rfl) ?_
  refine lv_iload_n hx hb dX5_refuse_6 rfl (lv_at hl 2 rfl) ?_
  have hTo := hT
  refine pf7_8 hx hb hg hown hK hT (hT.k t_this (by decide)) rfl (hg _ k387) dX5_refuse_7 (fun H locs s3 hus3 hT => ?_)
  have e2 : zI s3 this 7 = co := (zput_o hus3 (Or.inr (by decide))).trans e2
  have e4 : zI s3 this 8 = ca := zput_at hus3
  refine lv_aload_n hx hb dX5_refuse_10 rfl (lv_at hl 0 rfl) ?_
  refine lv_iload_n hx hb dX5_refuse_11 rfl (lv_at hl 3 rfl) ?_
  have hTo := hT
  refine pf7_9 hx hb hg hown hK hT (hT.k t_this (by decide)) rfl (hg _ k388) dX5_refuse_12 (fun H locs s5 hus5 hT => ?_)
  have e2 : zI s5 this 7 = co := (zput_o hus5 (Or.inr (by decide))).trans e2
  have e4 : zI s5 this 8 = ca := (zput_o hus5 (Or.inr (by decide))).trans e4
  have e6 : zI s5 this 9 = sa := zput_at hus5
  obtain ⟨sa, hsa⟩ := XX_sRX5_325 hX.1
  subst hQ9
  exact tthW_ISE hx hb hlt hown (hg _ k993) (hg _ k104) hsa hg hX.1 hT (hl.1.trans hml.symm) dX5_refuse_15 dX5_refuse_18 dX5_refuse_19 dX5_refuse_22 dX5_refuse_25 hout (Nat.le_of_ble_eq_true rfl) (Nat.le_of_ble_eq_true rfl) zroomX.rf hlocks rfl
set_option maxHeartbeats 4000000 in
set_option maxRecDepth 100000 in
theorem X5_commonDivisor (l : Launch) (κ : Kt) (σ0 : Gh) (po : Int64) (re : Int64) : TC l yX5_commonDivisor cX5_commonDivisor 11 (some .long) 1 15 [.long po, .long re] κ σ0 (tql κ fE σ0 (fun (r : Int64) (τ : Gh) => (1 ≤ r.toInt))) := by
  refine TC.of fE (by decide +kernel) (Nat.le_of_ble_eq_true rfl) ?_
  intro p e s m below meth c ls hcs hK hX hT hl
  obtain ⟨hx, hb, hr, hml, hown, hg, hlocks, hin⟩ := hcs
  have hown : s.vm.findClass RX5 = some m.cls := hown
  have hl : lv_has ls 11 [(0, .long po), (2, .long re)] := hl
  have hT0 := hT
  have n0 : (0 : Int32).toInt = 0 := by decide
  have n1000 : (1000 : Int32).toInt = 1000 := by decide
  have j0 : (0 : Int64).toInt = 0 := by decide
  have j1 : (1 : Int64).toInt = 1 := by decide
  generalize hQ9 : tQ _ _ _ _ _ _ = Q9
  refine lv_lload_n hx hb dX5_commonDivisor_0 rfl (lv_at hl 0 rfl) ?_
  refine lv_lconst (v := 1) hx hb dX5_commonDivisor_1 (by decide) ?_
  refine va_mmax_long hx hb (hml.trans hl.1.symm) hown (hg _ k920) (hg _ k921) (hg _ k90) (hg _ k922) (Nat.le_of_ble_eq_true rfl) (Nat.le_of_ble_eq_true rfl) zroom.rf.2.2.1 zroom.rf.2.2.2 dX5_commonDivisor_2 ?_
  refine mmaxl_t (fun t1 ht1 => ?_)
  refine lv_lstore (lv' := [(4, .long t1), (0, .long po), (2, .long re)]) hx hb dX5_commonDivisor_5 hl (by decide) rfl (fun ls hl => ?_)
  refine lv_lload_n hx hb dX5_commonDivisor_7 rfl (lv_at hl 2 rfl) ?_
  refine lv_lstore (lv' := [(6, .long re), (4, .long t1), (0, .long po), (2, .long re)]) hx hb dX5_commonDivisor_8 hl (by decide) rfl (fun ls hl => ?_)
  refine lv_iconst (v := 0) hx hb dX5_commonDivisor_10 (by decide) ?_
  refine lv_istore (lv' := [(8, .int 0), (6, .long re), (4, .long t1), (0, .long po), (2, .long re)]) hx hb dX5_commonDivisor_11 hl (by decide) rfl (fun ls hl => ?_)
  have loop13 : ∀ (n9 : Nat) (gr : Int64) (le : Int64) (k : Int32) (H : Heap) (locs : List Loc) (sg : Gh) (ls : Array Slot), TS κ fE σ0 sg s H locs → (1 ≤ gr.toInt) → (0 ≤ k.toInt) → (k.toInt ≤ 1000) → lv_has ls 11 [(4, .long gr), (6, .long le), (8, .int k), (0, .long po), (2, .long re)] → (1000 - k.toInt) < n9 → tW p l e 1 15 κ s m #[.long po, .long re] below meth c H locs Q9 (F0 m 13 ls []) := by
    intro n9
    induction n9 with
    | zero =>
      intro gr le k H locs sg ls hT q1 q2 q3 hl hm9
      exfalso
      omega
    | succ n9 ih9 =>
      have ih13 := ih9
      clear ih9
      intro gr le k H locs s2 ls hT q1 q2 q3 hl hm9
      refine lv_iload hx hb dX5_commonDivisor_13 (lv_at hl 2 rfl) ?_
      refine lv_sipush (v := 1000) hx hb dX5_commonDivisor_15 (by decide) ?_
      refine lv_icmp_ge (tgt := 49) hx hb dX5_commonDivisor_18 (by decide) (fun c9 => ?_) (fun c9 => ?_)
      · have c1 := gi_le c9
        refine lv_lload hx hb dX5_commonDivisor_49 (lv_at hl 0 rfl) ?_
        subst hQ9
        exact t_l hx hb hr hlocks hT (by omega) dX5_commonDivisor_51
      · have c2 := gi_nle c9
        refine lv_lload hx hb dX5_commonDivisor_21 (lv_at hl 1 rfl) ?_
        refine lv_lconst (v := 0) hx hb dX5_commonDivisor_23 (by decide) ?_
        refine W.lcmp hx hb dX5_commonDivisor_24 ?_
        refine lv_if_le (tgt := 49) hx hb dX5_commonDivisor_25 (by decide) (fun c9 => ?_) (fun c9 => ?_)
        · have c3 := gl_le c9
          refine lv_lload hx hb dX5_commonDivisor_49 (lv_at hl 0 rfl) ?_
          subst hQ9
          exact t_l hx hb hr hlocks hT (by omega) dX5_commonDivisor_51
        · have c4 := gl_nle c9
          refine lv_lload hx hb dX5_commonDivisor_28 (lv_at hl 0 rfl) ?_
          refine lv_lload hx hb dX5_commonDivisor_30 (lv_at hl 1 rfl) ?_
          refine lv_lrem hx hb dX5_commonDivisor_32 (gl_nz (by omega)) ?_
          refine lv_topl (fun t3 ht3 => ?_)
          refine lv_lstore (lv' := [(9, .long t3), (4, .long gr), (6, .long le), (8, .int k), (0, .long po), (2, .long re)]) hx hb dX5_commonDivisor_33 hl (by decide) rfl (fun ls hl => ?_)
          refine lv_lload hx hb dX5_commonDivisor_35 (lv_at hl 2 rfl) ?_
          refine lv_lstore (lv' := [(4, .long le), (9, .long t3), (6, .long le), (8, .int k), (0, .long po), (2, .long re)]) hx hb dX5_commonDivisor_37 hl (by decide) rfl (fun ls hl => ?_)
          refine lv_lload hx hb dX5_commonDivisor_39 (lv_at hl 1 rfl) ?_
          refine lv_lstore (lv' := [(6, .long t3), (4, .long le), (9, .long t3), (8, .int k), (0, .long po), (2, .long re)]) hx hb dX5_commonDivisor_41 hl (by decide) rfl (fun ls hl => ?_)
          obtain ⟨t4, qt4⟩ : ∃ zz9 : Int32, k + Int32.ofInt 1 = zz9 := ⟨_, rfl⟩
          refine lv_iinc (v := t4) (lv' := [(8, .int t4), (6, .long t3), (4, .long le), (9, .long t3), (0, .long po), (2, .long re)]) hx hb dX5_commonDivisor_43 hl (k := 3) rfl qt4 (by decide) rfl (fun ls hl => ?_)
          have ht4 : t4.toInt = k.toInt + 1 := by rw [← qt4]; exact v_addi rfl (show (Int32.ofInt 1).toInt = 1 from by decide) (by omega) (by omega)
          refine lv_goto (tgt := 13) hx hb dX5_commonDivisor_46 (by decide) ?_
          exact ih13 le t3 t4 _ _ _ _ hT  (by omega) (by omega) (by omega) (lv_sub hl [2, 1, 0, 4, 5] rfl) (by omega)
  exact loop13 ((1000 - (0 : Int32).toInt).toNat + 1) t1 re 0 _ _ _ _ hT  (by omega) (by omega) (by omega) (lv_sub hl [2, 1, 0, 3, 4] rfl) (by omega)
set_option maxHeartbeats 4000000 in
set_option maxRecDepth 100000 in
theorem X5_append (l : Launch) (κ : Kt) (σ0 : Gh) (this : Nat) (y1 : Int32) (y2 : Int32) (y3 : Int32) (y4 : Int32) (y5 : Int32) (t_this : zk σ0 this 7) : TC l yX5_append cX5_append 6 (some .int) 1 22 [.ref this, .int y1, .int y2, .int y3, .int y4, .int y5] κ σ0 (tqi κ fT1 σ0 (fun (r : Int32) (τ : Gh) => (((zI σ0 (kR κ this 0) 1).toInt + 20 ≤ 700 ∧ r.toInt = (zI σ0 (kR κ this 0) 1).toInt + 20 ∧ (zI τ (kR κ this 0) 1).toInt = (zI σ0 (kR κ this 0) 1).toInt + 20) ∨ (700 < (zI σ0 (kR κ this 0) 1).toInt + 20 ∧ r.toInt = -1 ∧ (zI τ (kR κ this 0) 1).toInt = (zI σ0 (kR κ this 0) 1).toInt)))) := by
  refine TC.of fT1 (by decide +kernel) (Nat.le_of_ble_eq_true rfl) ?_
  intro p e s m below meth c ls hcs hK hX hT hl
  obtain ⟨hx, hb, hr, hml, hown, hg, hlocks, hin⟩ := hcs
  have hown : s.vm.findClass RX5 = some m.cls := hown
  have hl : lv_has ls 6 [(0, .ref this), (1, .int y1), (2, .int y2), (3, .int y3), (4, .int y4), (5, .int y5)] := hl
  have hT0 := hT
  have nm1 : ((-1) : Int32).toInt = (-1) := by decide
  have n0 : (0 : Int32).toInt = 0 := by decide
  have y1_lo := Int32.le_toInt y1
  have y1_hi := Int32.toInt_lt y1
  have y2_lo := Int32.le_toInt y2
  have y2_hi := Int32.toInt_lt y2
  have y3_lo := Int32.le_toInt y3
  have y3_hi := Int32.toInt_lt y3
  have y4_lo := Int32.le_toInt y4
  have y4_hi := Int32.toInt_lt y4
  have y5_lo := Int32.le_toInt y5
  have y5_hi := Int32.toInt_lt y5
  generalize hQ9 : tQ _ _ _ _ _ _ = Q9
  obtain ⟨tx, etx⟩ : ∃ z, kR κ this 0 = z := ⟨_, rfl⟩
  have ttx : zk σ0 tx 6 := by rw [← etx]; exact hT0.ref t_this (by decide) (by decide) (by decide)
  have btx := hT0.P ttx (by decide)
  have btxl := btx.1.1
  have btxh := btx.1.2
  refine lv_aload_n hx hb dX5_append_0 rfl (lv_at hl 0 rfl) ?_
  refine va_get (D := κ.1) (ci := 5) (v := .ref (kR κ this 0)) (C := RX5) (T := TX5) (N := 10) hx hb hg inX5 hown hK (hT.o7 (hT.k t_this (by decide))).one 0 rfl rfl 0 (by decide) (hg _ k379) (fun _ h9 => h9) rfl dX5_append_1 ?_
  rw [etx]
  obtain ⟨v1, ev1⟩ : ∃ zz9 : Int32, zI σ0 tx 1 = zz9 := ⟨_, rfl⟩
  have qv1 : v1.toInt = (zI σ0 tx 1).toInt := by rw [ev1]
  have b2 := (hT.P (hT.k ttx (by decide)) (by decide)).1
  rw [ev1] at b2
  have b2l := b2.1
  have b2h := b2.2
  have qq3 : (zI σ0 tx 1).toInt = v1.toInt := by rw [ev1]
  have hTo := hT
  refine tVi (n := 0) (As := []) (rest := []) hx hb hml hown hg hT hK hX (X3_hasRoom l κ σ0 tx  (hT.k ttx (by decide)) ) sub_fE_fT1 (mwV k415 k416 k417 k85 k418) ⟨rfl, by decide, by decide, by decide +kernel⟩ ⟨(Nat.le_of_ble_eq_true rfl), (Nat.le_of_ble_eq_true rfl)⟩ (hT.o6 (hT.k ttx (by decide))) rfl rfl hl.1 rfl (Nat.le_of_ble_eq_true rfl) dX5_append_4 zroom.rf (fun x4 s5 H locs hφ hEs5 hT => ?_)
  have ev1 : zI s5 tx 1 = v1 := ((hTo.k ttx (by decide)).eI hEs5 (by decide) rfl).trans ev1
  obtain ⟨f6, f7⟩ := hφ
  refine lv_if_ne (tgt := 12) hx hb dX5_append_7 (by decide) (fun c9 => ?_) (fun c9 => ?_)
  · have c1 := gi_ne c9
    refine lv_aload_n hx hb dX5_append_12 rfl (lv_at hl 0 rfl) ?_
    refine va_get (D := κ.1) (ci := 5) (v := .ref (kR κ this 0)) (C := RX5) (T := TX5) (N := 10) hx hb hg inX5 hown hK (hT.o7 (hT.k t_this (by decide))).one 0 rfl rfl 0 (by decide) (hg _ k379) (fun _ h9 => h9) rfl dX5_append_13 ?_
    rw [etx]
    refine lv_iload_n hx hb dX5_append_16 rfl (lv_at hl 1 rfl) ?_
    have qq8 : (zI s5 tx 1).toInt = v1.toInt := by rw [ev1]
    have hTo := hT
    refine tVv (n := 1) (As := [.int y1]) (rest := []) hx hb hml hown hg hT hK hX (X3_addInt l κ s5 tx y1  (hT.k ttx (by decide)) (by omega)) (fun _ _ h => h) (mwV k419 k420 k421 k85 k422) ⟨rfl, by decide, by decide, by decide +kernel⟩ ⟨(Nat.le_of_ble_eq_true rfl), (Nat.le_of_ble_eq_true rfl)⟩ (hT.o6 (hT.k ttx (by decide))) rfl rfl hl.1 rfl (Nat.le_of_ble_eq_true rfl) dX5_append_17 zroom.rf (fun s10 H locs hφ hEs10 hT => ?_)
    have f11 := hφ
    obtain ⟨v12, ev12⟩ : ∃ zz9 : Int32, zI s10 tx 1 = zz9 := ⟨_, rfl⟩
    have qv12 : v12.toInt = (zI s10 tx 1).toInt := by rw [ev12]
    have b13 := (hT.P (hT.k ttx (by decide)) (by decide)).1
    rw [ev12] at b13
    have b13l := b13.1
    have b13h := b13.2
    refine lv_aload_n hx hb dX5_append_20 rfl (lv_at hl 0 rfl) ?_
    refine va_get (D := κ.1) (ci := 5) (v := .ref (kR κ this 0)) (C := RX5) (T := TX5) (N := 10) hx hb hg inX5 hown hK (hT.o7 (hT.k t_this (by decide))).one 0 rfl rfl 0 (by decide) (hg _ k379) (fun _ h9 => h9) rfl dX5_append_21 ?_
    rw [etx]
    refine lv_iload_n hx hb dX5_append_24 rfl (lv_at hl 2 rfl) ?_
    have qq14 : (zI s10 tx 1).toInt = v12.toInt := by rw [ev12]
    have hTo := hT
    refine tVv (n := 1) (As := [.int y2]) (rest := []) hx hb hml hown hg hT hK hX (X3_addInt l κ s10 tx y2  (hT.k ttx (by decide)) (by omega)) (fun _ _ h => h) (mwV k419 k420 k421 k85 k422) ⟨rfl, by decide, by decide, by decide +kernel⟩ ⟨(Nat.le_of_ble_eq_true rfl), (Nat.le_of_ble_eq_true rfl)⟩ (hT.o6 (hT.k ttx (by decide))) rfl rfl hl.1 rfl (Nat.le_of_ble_eq_true rfl) dX5_append_25 zroom.rf (fun s16 H locs hφ hEs16 hT => ?_)
    have f17 := hφ
    obtain ⟨v18, ev18⟩ : ∃ zz9 : Int32, zI s16 tx 1 = zz9 := ⟨_, rfl⟩
    have qv18 : v18.toInt = (zI s16 tx 1).toInt := by rw [ev18]
    have b19 := (hT.P (hT.k ttx (by decide)) (by decide)).1
    rw [ev18] at b19
    have b19l := b19.1
    have b19h := b19.2
    refine lv_aload_n hx hb dX5_append_28 rfl (lv_at hl 0 rfl) ?_
    refine va_get (D := κ.1) (ci := 5) (v := .ref (kR κ this 0)) (C := RX5) (T := TX5) (N := 10) hx hb hg inX5 hown hK (hT.o7 (hT.k t_this (by decide))).one 0 rfl rfl 0 (by decide) (hg _ k379) (fun _ h9 => h9) rfl dX5_append_29 ?_
    rw [etx]
    refine lv_iload_n hx hb dX5_append_32 rfl (lv_at hl 3 rfl) ?_
    have qq20 : (zI s16 tx 1).toInt = v18.toInt := by rw [ev18]
    have hTo := hT
    refine tVv (n := 1) (As := [.int y3]) (rest := []) hx hb hml hown hg hT hK hX (X3_addInt l κ s16 tx y3  (hT.k ttx (by decide)) (by omega)) (fun _ _ h => h) (mwV k419 k420 k421 k85 k422) ⟨rfl, by decide, by decide, by decide +kernel⟩ ⟨(Nat.le_of_ble_eq_true rfl), (Nat.le_of_ble_eq_true rfl)⟩ (hT.o6 (hT.k ttx (by decide))) rfl rfl hl.1 rfl (Nat.le_of_ble_eq_true rfl) dX5_append_33 zroom.rf (fun s22 H locs hφ hEs22 hT => ?_)
    have f23 := hφ
    obtain ⟨v24, ev24⟩ : ∃ zz9 : Int32, zI s22 tx 1 = zz9 := ⟨_, rfl⟩
    have qv24 : v24.toInt = (zI s22 tx 1).toInt := by rw [ev24]
    have b25 := (hT.P (hT.k ttx (by decide)) (by decide)).1
    rw [ev24] at b25
    have b25l := b25.1
    have b25h := b25.2
    refine lv_aload_n hx hb dX5_append_36 rfl (lv_at hl 0 rfl) ?_
    refine va_get (D := κ.1) (ci := 5) (v := .ref (kR κ this 0)) (C := RX5) (T := TX5) (N := 10) hx hb hg inX5 hown hK (hT.o7 (hT.k t_this (by decide))).one 0 rfl rfl 0 (by decide) (hg _ k379) (fun _ h9 => h9) rfl dX5_append_37 ?_
    rw [etx]
    refine lv_iload hx hb dX5_append_40 (lv_at hl 4 rfl) ?_
    have qq26 : (zI s22 tx 1).toInt = v24.toInt := by rw [ev24]
    have hTo := hT
    refine tVv (n := 1) (As := [.int y4]) (rest := []) hx hb hml hown hg hT hK hX (X3_addInt l κ s22 tx y4  (hT.k ttx (by decide)) (by omega)) (fun _ _ h => h) (mwV k419 k420 k421 k85 k422) ⟨rfl, by decide, by decide, by decide +kernel⟩ ⟨(Nat.le_of_ble_eq_true rfl), (Nat.le_of_ble_eq_true rfl)⟩ (hT.o6 (hT.k ttx (by decide))) rfl rfl hl.1 rfl (Nat.le_of_ble_eq_true rfl) dX5_append_42 zroom.rf (fun s28 H locs hφ hEs28 hT => ?_)
    have f29 := hφ
    obtain ⟨v30, ev30⟩ : ∃ zz9 : Int32, zI s28 tx 1 = zz9 := ⟨_, rfl⟩
    have qv30 : v30.toInt = (zI s28 tx 1).toInt := by rw [ev30]
    have b31 := (hT.P (hT.k ttx (by decide)) (by decide)).1
    rw [ev30] at b31
    have b31l := b31.1
    have b31h := b31.2
    refine lv_aload_n hx hb dX5_append_45 rfl (lv_at hl 0 rfl) ?_
    refine va_get (D := κ.1) (ci := 5) (v := .ref (kR κ this 0)) (C := RX5) (T := TX5) (N := 10) hx hb hg inX5 hown hK (hT.o7 (hT.k t_this (by decide))).one 0 rfl rfl 0 (by decide) (hg _ k379) (fun _ h9 => h9) rfl dX5_append_46 ?_
    rw [etx]
    refine lv_iload hx hb dX5_append_49 (lv_at hl 5 rfl) ?_
    have qq32 : (zI s28 tx 1).toInt = v30.toInt := by rw [ev30]
    have hTo := hT
    refine tVv (n := 1) (As := [.int y5]) (rest := []) hx hb hml hown hg hT hK hX (X3_addInt l κ s28 tx y5  (hT.k ttx (by decide)) (by omega)) (fun _ _ h => h) (mwV k419 k420 k421 k85 k422) ⟨rfl, by decide, by decide, by decide +kernel⟩ ⟨(Nat.le_of_ble_eq_true rfl), (Nat.le_of_ble_eq_true rfl)⟩ (hT.o6 (hT.k ttx (by decide))) rfl rfl hl.1 rfl (Nat.le_of_ble_eq_true rfl) dX5_append_51 zroom.rf (fun s34 H locs hφ hEs34 hT => ?_)
    have f35 := hφ
    obtain ⟨v36, ev36⟩ : ∃ zz9 : Int32, zI s34 tx 1 = zz9 := ⟨_, rfl⟩
    have qv36 : v36.toInt = (zI s34 tx 1).toInt := by rw [ev36]
    have b37 := (hT.P (hT.k ttx (by decide)) (by decide)).1
    rw [ev36] at b37
    have b37l := b37.1
    have b37h := b37.2
    refine lv_aload_n hx hb dX5_append_54 rfl (lv_at hl 0 rfl) ?_
    refine va_get (D := κ.1) (ci := 5) (v := .ref (kR κ this 0)) (C := RX5) (T := TX5) (N := 10) hx hb hg inX5 hown hK (hT.o7 (hT.k t_this (by decide))).one 0 rfl rfl 0 (by decide) (hg _ k379) (fun _ h9 => h9) rfl dX5_append_55 ?_
    rw [etx]
    refine va_get (D := κ.1) (ci := 3) (v := .int (zI s34 tx 1)) (C := RX3) (T := TX3) (N := 8) hx hb hg inX3 hown hK (hT.o6 (hT.k ttx (by decide))).one 0 rfl rfl 1 (by decide) (hg _ k121) (fun _ h9 => h9) rfl dX5_append_58 ?_
    rw [ev36]
    subst hQ9
    exact t_i hx hb hr hlocks hT (by rw [etx, ev36]; omega) dX5_append_61
  · have c2 := gi_eq c9
    refine lv_iconst (v := (-1)) hx hb dX5_append_10 (by decide) ?_
    subst hQ9
    exact t_i hx hb hr hlocks hT (by rw [etx, ev1]; omega) dX5_append_11
set_option maxHeartbeats 4000000 in
set_option maxRecDepth 100000 in
theorem X5_truncate (l : Launch) (κ : Kt) (σ0 : Gh) (this : Nat) (n : Int32) (t_this : zk σ0 this 7) (hlt : l.stackTraces = false) : TX l yX5_truncate cX5_truncate 2 (some .int) 7 111 [.ref this, .int n] κ σ0 (tqi κ fTr σ0 (fun (r : Int32) (τ : Gh) => (0 ≤ n.toInt) ∧ (n.toInt ≤ (zI σ0 (kR κ this 0) 1).toInt) ∧ (r.toInt = n.toInt) ∧ ((zI τ (kR κ this 0) 1).toInt = n.toInt))) (txq κ fTr σ0 (fun (E : String) (τ : Gh) => E = "java/lang/IndexOutOfBoundsException" ∧ (n.toInt < 0 ∨ (zI σ0 (kR κ this 0) 1).toInt < n.toInt) ∧ (zI τ (kR κ this 0) 1).toInt = (zI σ0 (kR κ this 0) 1).toInt)) := by
  refine TX.of fTr (by decide +kernel) (Nat.le_of_ble_eq_true rfl) ?_
  intro p e s m below meth c ls hcs hout hK hX hT hl
  obtain ⟨hx, hb, hr, hml, hown, hg, hlocks, hin⟩ := hcs
  have hown : s.vm.findClass RX5 = some m.cls := hown
  have hl : lv_has ls 2 [(0, .ref this), (1, .int n)] := hl
  have hT0 := hT
  have n1 : (1 : Int32).toInt = 1 := by decide
  have n_lo := Int32.le_toInt n
  have n_hi := Int32.toInt_lt n
  generalize hQ9 : tQX _ _ _ _ _ _ _ = Q9
  obtain ⟨tx, etx⟩ : ∃ z, kR κ this 0 = z := ⟨_, rfl⟩
  have ttx : zk σ0 tx 6 := by rw [← etx]; exact hT0.ref t_this (by decide) (by decide) (by decide)
  have btx := hT0.P ttx (by decide)
  have btxl := btx.1.1
  have btxh := btx.1.2
  refine lv_iload_n hx hb dX5_truncate_0 rfl (lv_at hl 1 rfl) ?_
  refine lv_aload_n hx hb dX5_truncate_1 rfl (lv_at hl 0 rfl) ?_
  refine va_get (D := κ.1) (ci := 5) (v := .ref (kR κ this 0)) (C := RX5) (T := TX5) (N := 10) hx hb hg inX5 hown hK (hT.o7 (hT.k t_this (by decide))).one 0 rfl rfl 0 (by decide) (hg _ k379) (fun _ h9 => h9) rfl dX5_truncate_2 ?_
  rw [etx]
  obtain ⟨v1, ev1⟩ : ∃ zz9 : Int32, zI σ0 tx 1 = zz9 := ⟨_, rfl⟩
  have qv1 : v1.toInt = (zI σ0 tx 1).toInt := by rw [ev1]
  have b2 := (hT.P (hT.k ttx (by decide)) (by decide)).1
  rw [ev1] at b2
  have b2l := b2.1
  have b2h := b2.2
  refine va_get (D := κ.1) (ci := 3) (v := .int (zI σ0 tx 1)) (C := RX3) (T := TX3) (N := 8) hx hb hg inX3 hown hK (hT.o6 (hT.k ttx (by decide))).one 0 rfl rfl 1 (by decide) (hg _ k121) (fun _ h9 => h9) rfl dX5_truncate_5 ?_
  rw [ev1]
  refine lv_iconst (v := 1) hx hb dX5_truncate_8 (by decide) ?_
  refine lv_iadd hx hb dX5_truncate_9 ?_
  first | refine g_add (by omega) (by omega) (fun t3 ht3 => ?_) | refine lv_topi (fun t3 ht3 => ?_)
  have hTo := hT
  refine xtSv (n := 2) (As := [.int n, .int t3]) (rest := []) hx hb hml hown hg hT hK hX (X5_needIndex l κ σ0 n t3    hlt) sub_fE_fTr (mwS k610 k611 k84 k612) ⟨rfl, by decide, by decide, by decide +kernel⟩ ⟨(Nat.le_of_ble_eq_true rfl), (Nat.le_of_ble_eq_true rfl)⟩ rfl hl.1 rfl (Nat.le_of_ble_eq_true rfl) dX5_truncate_10 zroomX.rf (fun E9 ce9 q9 τ9 H9 locs9 hp9 hE9 hT9 hce9 hcv9 hcl9 => by subst hQ9; exact tx_out hT9 ⟨hp9.1, by rw [etx]; omega, by rw [etx, (ttx.eI hE9 (by decide) rfl : zI τ9 tx 1 = zI σ0 tx 1)]⟩ hout hlocks hce9 hcv9 hcl9) (fun s5 H locs hφ hEs5 hT => ?_)
  have ev1 : zI s5 tx 1 = v1 := ((hTo.k ttx (by decide)).eI hEs5 (by decide) rfl).trans ev1
  obtain ⟨f6, f7⟩ := hφ
  refine lv_aload_n hx hb dX5_truncate_13 rfl (lv_at hl 0 rfl) ?_
  refine va_get (D := κ.1) (ci := 5) (v := .ref (kR κ this 0)) (C := RX5) (T := TX5) (N := 10) hx hb hg inX5 hown hK (hT.o7 (hT.k t_this (by decide))).one 0 rfl rfl 0 (by decide) (hg _ k379) (fun _ h9 => h9) rfl dX5_truncate_14 ?_
  rw [etx]
  refine lv_iload_n hx hb dX5_truncate_17 rfl (lv_at hl 1 rfl) ?_
  have hTo := hT
  refine pf6_1 hx hb hg hown hK hT (hT.k ttx (by decide)) rfl ⟨by omega, by omega⟩ (hg _ k121) dX5_truncate_18 (fun H locs s8 hus8 hT => ?_)
  have e9 : zI s8 tx 1 = n := zput_at hus8
  refine lv_iload_n hx hb dX5_truncate_21 rfl (lv_at hl 1 rfl) ?_
  subst hQ9
  exact vx_ret (t_i hx hb hr hlocks hT ⟨by omega, by rw [etx]; omega, by omega, by rw [etx, e9]⟩ dX5_truncate_22)
set_option maxHeartbeats 4000000 in
set_option maxRecDepth 100000 in
theorem X5_errorCode (l : Launch) (κ : Kt) (σ0 : Gh) (this : Nat) (t_this : zk σ0 this 7) : TC l yX5_errorCode cX5_errorCode 1 (some .int) 0 0 [.ref this] κ σ0 (tqi κ fE σ0 (fun (r : Int32) (τ : Gh) => True)) := by
  refine TC.of fE (by decide +kernel) (Nat.le_of_ble_eq_true rfl) ?_
  intro p e s m below meth c ls hcs hK hX hT hl
  obtain ⟨hx, hb, hr, hml, hown, hg, hlocks, hin⟩ := hcs
  have hown : s.vm.findClass RX5 = some m.cls := hown
  have hl : lv_has ls 1 [(0, .ref this)] := hl
  have hT0 := hT
  generalize hQ9 : tQ _ _ _ _ _ _ = Q9
  refine lv_aload_n hx hb dX5_errorCode_0 rfl (lv_at hl 0 rfl) ?_
  obtain ⟨r1, er1⟩ : ∃ z, kR κ this 0 = z := ⟨_, rfl⟩
  have tr1 : zk σ0 r1 6 := by rw [← er1]; exact hT0.ref t_this (by decide) (by decide) (by decide)
  refine va_get (D := κ.1) (ci := 5) (v := .ref (kR κ this 0)) (C := RX5) (T := TX5) (N := 10) hx hb hg inX5 hown hK (hT.o7 (hT.k t_this (by decide))).one 0 rfl rfl 0 (by decide) (hg _ k379) (fun _ h9 => h9) rfl dX5_errorCode_1 ?_
  rw [er1]
  obtain ⟨v2, ev2⟩ : ∃ zz9 : Int32, zI σ0 r1 2 = zz9 := ⟨_, rfl⟩
  have qv2 : v2.toInt = (zI σ0 r1 2).toInt := by rw [ev2]
  refine va_get (D := κ.1) (ci := 3) (v := .int (zI σ0 r1 2)) (C := RX3) (T := TX3) (N := 8) hx hb hg inX3 hown hK (hT.o6 (hT.k tr1 (by decide))).one 0 rfl rfl 2 (by decide) (hg _ k123) (fun _ h9 => h9) rfl dX5_errorCode_4 ?_
  rw [(hT.eI tr1 (by decide) rfl ev2)]
  subst hQ9
  exact t_i hx hb hr hlocks hT trivial dX5_errorCode_7
set_option maxHeartbeats 4000000 in
set_option maxRecDepth 100000 in
theorem X5_errorPosition (l : Launch) (κ : Kt) (σ0 : Gh) (this : Nat) (t_this : zk σ0 this 7) : TC l yX5_errorPosition cX5_errorPosition 1 (some .int) 0 0 [.ref this] κ σ0 (tqi κ fE σ0 (fun (r : Int32) (τ : Gh) => True)) := by
  refine TC.of fE (by decide +kernel) (Nat.le_of_ble_eq_true rfl) ?_
  intro p e s m below meth c ls hcs hK hX hT hl
  obtain ⟨hx, hb, hr, hml, hown, hg, hlocks, hin⟩ := hcs
  have hown : s.vm.findClass RX5 = some m.cls := hown
  have hl : lv_has ls 1 [(0, .ref this)] := hl
  have hT0 := hT
  generalize hQ9 : tQ _ _ _ _ _ _ = Q9
  refine lv_aload_n hx hb dX5_errorPosition_0 rfl (lv_at hl 0 rfl) ?_
  obtain ⟨r1, er1⟩ : ∃ z, kR κ this 0 = z := ⟨_, rfl⟩
  have tr1 : zk σ0 r1 6 := by rw [← er1]; exact hT0.ref t_this (by decide) (by decide) (by decide)
  refine va_get (D := κ.1) (ci := 5) (v := .ref (kR κ this 0)) (C := RX5) (T := TX5) (N := 10) hx hb hg inX5 hown hK (hT.o7 (hT.k t_this (by decide))).one 0 rfl rfl 0 (by decide) (hg _ k379) (fun _ h9 => h9) rfl dX5_errorPosition_1 ?_
  rw [er1]
  obtain ⟨v2, ev2⟩ : ∃ zz9 : Int32, zI σ0 r1 3 = zz9 := ⟨_, rfl⟩
  have qv2 : v2.toInt = (zI σ0 r1 3).toInt := by rw [ev2]
  refine va_get (D := κ.1) (ci := 3) (v := .int (zI σ0 r1 3)) (C := RX3) (T := TX3) (N := 8) hx hb hg inX3 hown hK (hT.o6 (hT.k tr1 (by decide))).one 0 rfl rfl 3 (by decide) (hg _ k125) (fun _ h9 => h9) rfl dX5_errorPosition_4 ?_
  rw [(hT.eI tr1 (by decide) rfl ev2)]
  subst hQ9
  exact t_i hx hb hr hlocks hT trivial dX5_errorPosition_7
set_option maxHeartbeats 4000000 in
set_option maxRecDepth 100000 in
theorem X5_count (l : Launch) (κ : Kt) (σ0 : Gh) (this : Nat) (x : Int32) (t_this : zk σ0 this 7) (hlt : l.stackTraces = false) : TX l yX5_count cX5_count 2 (some .int) 6 90 [.ref this, .int x] κ σ0 (tqi κ fE σ0 (fun (r : Int32) (τ : Gh) => True)) (txq κ fE σ0 (fun (E : String) (τ : Gh) => E = "java/lang/IllegalArgumentException")) := by
  refine TX.of fE (by decide +kernel) (Nat.le_of_ble_eq_true rfl) ?_
  intro p e s m below meth c ls hcs hout hK hX hT hl
  obtain ⟨hx, hb, hr, hml, hown, hg, hlocks, hin⟩ := hcs
  have hown : s.vm.findClass RX5 = some m.cls := hown
  have hl : lv_has ls 2 [(0, .ref this), (1, .int x)] := hl
  have hT0 := hT
  have n0 : (0 : Int32).toInt = 0 := by decide
  have n1 : (1 : Int32).toInt = 1 := by decide
  have n2 : (2 : Int32).toInt = 2 := by decide
  have n3 : (3 : Int32).toInt = 3 := by decide
  have n4 : (4 : Int32).toInt = 4 := by decide
  have n5 : (5 : Int32).toInt = 5 := by decide
  have n6 : (6 : Int32).toInt = 6 := by decide
  have n7 : (7 : Int32).toInt = 7 := by decide
  have n8 : (8 : Int32).toInt = 8 := by decide
  have x_lo := Int32.le_toInt x
  have x_hi := Int32.toInt_lt x
  generalize hQ9 : tQX _ _ _ _ _ _ _ = Q9
  refine lv_iload_n hx hb dX5_count_0 rfl (lv_at hl 1 rfl) ?_
  by_cases q1 : x = 0
  · have q1i := gi_eq q1
    refine lv_tableIn (off := 51) (tgt := 52) hx hb dX5_count_1 (by rw [q1]; decide) (by rw [q1]; decide) (by rw [q1]; decide) (by decide) ?_
    refine lv_aload_n hx hb dX5_count_52 rfl (lv_at hl 0 rfl) ?_
    obtain ⟨r2, er2⟩ : ∃ z, kR κ this 1 = z := ⟨_, rfl⟩
    have tr2 : zk σ0 r2 4 := by rw [← er2]; exact hT0.ref t_this (by decide) (by decide) (by decide)
    refine va_get (D := κ.1) (ci := 5) (v := .ref (kR κ this 1)) (C := RX5) (T := TX5) (N := 10) hx hb hg inX5 hown hK (hT.o7 (hT.k t_this (by decide))).one 0 rfl rfl 1 (by decide) (hg _ k380) (fun _ h9 => h9) rfl dX5_count_53 ?_
    rw [er2]
    obtain ⟨v3, ev3⟩ : ∃ zz9 : Int32, zI σ0 r2 2 = zz9 := ⟨_, rfl⟩
    have qv3 : v3.toInt = (zI σ0 r2 2).toInt := by rw [ev3]
    have b4 := (hT.P (hT.k tr2 (by decide)) (by decide)).1
    rw [(hT.eI tr2 (by decide) rfl ev3)] at b4
    have b4l := b4.1
    have b4h := b4.2
    refine va_get (D := κ.1) (ci := 0) (v := .int (zI σ0 r2 2)) (C := RX0) (T := TX0) (N := 7) hx hb hg inX0 hown hK (hT.o4 (hT.k tr2 (by decide))).one 0 rfl rfl 2 (by decide) (hg _ k163) (fun _ h9 => h9) rfl dX5_count_56 ?_
    rw [(hT.eI tr2 (by decide) rfl ev3)]
    subst hQ9
    exact vx_ret (t_i hx hb hr hlocks hT trivial dX5_count_59)
  · have q1i := gi_ne q1
    by_cases q5 : x = 1
    · have q5i := gi_eq q5
      refine lv_tableIn (off := 59) (tgt := 60) hx hb dX5_count_1 (by rw [q5]; decide) (by rw [q5]; decide) (by rw [q5]; decide) (by decide) ?_
      refine lv_aload_n hx hb dX5_count_60 rfl (lv_at hl 0 rfl) ?_
      obtain ⟨r6, er6⟩ : ∃ z, kR κ this 3 = z := ⟨_, rfl⟩
      have tr6 : zk σ0 r6 3 := by rw [← er6]; exact hT0.ref t_this (by decide) (by decide) (by decide)
      refine va_get (D := κ.1) (ci := 5) (v := .ref (kR κ this 3)) (C := RX5) (T := TX5) (N := 10) hx hb hg inX5 hown hK (hT.o7 (hT.k t_this (by decide))).one 0 rfl rfl 3 (by decide) (hg _ k382) (fun _ h9 => h9) rfl dX5_count_61 ?_
      rw [er6]
      have hTo := hT
      refine tVi (n := 0) (As := []) (rest := []) hx hb hml hown hg hT hK hX (X1_presentCount l κ σ0 r6  (hT.k tr6 (by decide)) ) (fun _ _ h => h) (mwV k488 k489 k490 k87 k491) ⟨rfl, by decide, by decide, by decide +kernel⟩ ⟨(Nat.le_of_ble_eq_true rfl), (Nat.le_of_ble_eq_true rfl)⟩ (hT.o3 (hT.k tr6 (by decide))) rfl rfl hl.1 rfl (Nat.le_of_ble_eq_true rfl) dX5_count_64 zroom.up (fun x7 s8 H locs hφ hEs8 hT => ?_)
      subst hQ9
      exact vx_ret (t_i hx hb hr hlocks hT trivial dX5_count_67)
    · have q5i := gi_ne q5
      by_cases q9 : x = 2
      · have q9i := gi_eq q9
        refine lv_tableIn (off := 67) (tgt := 68) hx hb dX5_count_1 (by rw [q9]; decide) (by rw [q9]; decide) (by rw [q9]; decide) (by decide) ?_
        refine lv_aload_n hx hb dX5_count_68 rfl (lv_at hl 0 rfl) ?_
        obtain ⟨r10, er10⟩ : ∃ z, kR κ this 3 = z := ⟨_, rfl⟩
        have tr10 : zk σ0 r10 3 := by rw [← er10]; exact hT0.ref t_this (by decide) (by decide) (by decide)
        refine va_get (D := κ.1) (ci := 5) (v := .ref (kR κ this 3)) (C := RX5) (T := TX5) (N := 10) hx hb hg inX5 hown hK (hT.o7 (hT.k t_this (by decide))).one 0 rfl rfl 3 (by decide) (hg _ k382) (fun _ h9 => h9) rfl dX5_count_69 ?_
        rw [er10]
        obtain ⟨v11, ev11⟩ : ∃ zz9 : Int32, zI σ0 r10 5 = zz9 := ⟨_, rfl⟩
        have qv11 : v11.toInt = (zI σ0 r10 5).toInt := by rw [ev11]
        have b12 := (hT.P (hT.k tr10 (by decide)) (by decide)).1
        rw [(hT.eI tr10 (by decide) rfl ev11)] at b12
        have b12l := b12.1
        have b12h := b12.2
        refine va_get (D := κ.1) (ci := 1) (v := .int (zI σ0 r10 5)) (C := RX1) (T := TX1) (N := 13) hx hb hg inX1 hown hK (hT.o3 (hT.k tr10 (by decide))).one 0 rfl rfl 5 (by decide) (hg _ k288) (fun _ h9 => h9) rfl dX5_count_72 ?_
        rw [(hT.eI tr10 (by decide) rfl ev11)]
        subst hQ9
        exact vx_ret (t_i hx hb hr hlocks hT trivial dX5_count_75)
      · have q9i := gi_ne q9
        by_cases q13 : x = 3
        · have q13i := gi_eq q13
          refine lv_tableIn (off := 75) (tgt := 76) hx hb dX5_count_1 (by rw [q13]; decide) (by rw [q13]; decide) (by rw [q13]; decide) (by decide) ?_
          refine lv_aload_n hx hb dX5_count_76 rfl (lv_at hl 0 rfl) ?_
          obtain ⟨r14, er14⟩ : ∃ z, kR κ this 3 = z := ⟨_, rfl⟩
          have tr14 : zk σ0 r14 3 := by rw [← er14]; exact hT0.ref t_this (by decide) (by decide) (by decide)
          refine va_get (D := κ.1) (ci := 5) (v := .ref (kR κ this 3)) (C := RX5) (T := TX5) (N := 10) hx hb hg inX5 hown hK (hT.o7 (hT.k t_this (by decide))).one 0 rfl rfl 3 (by decide) (hg _ k382) (fun _ h9 => h9) rfl dX5_count_77 ?_
          rw [er14]
          have hTo := hT
          refine tVi (n := 0) (As := []) (rest := []) hx hb hml hown hg hT hK hX (X1_zeroDetails l κ σ0 r14  (hT.k tr14 (by decide)) ) (fun _ _ h => h) (mwV k841 k842 k843 k87 k844) ⟨rfl, by decide, by decide, by decide +kernel⟩ ⟨(Nat.le_of_ble_eq_true rfl), (Nat.le_of_ble_eq_true rfl)⟩ (hT.o3 (hT.k tr14 (by decide))) rfl rfl hl.1 rfl (Nat.le_of_ble_eq_true rfl) dX5_count_80 zroom.up (fun x15 s16 H locs hφ hEs16 hT => ?_)
          subst hQ9
          exact vx_ret (t_i hx hb hr hlocks hT trivial dX5_count_83)
        · have q13i := gi_ne q13
          by_cases q17 : x = 4
          · have q17i := gi_eq q17
            refine lv_tableIn (off := 83) (tgt := 84) hx hb dX5_count_1 (by rw [q17]; decide) (by rw [q17]; decide) (by rw [q17]; decide) (by decide) ?_
            refine lv_aload_n hx hb dX5_count_84 rfl (lv_at hl 0 rfl) ?_
            obtain ⟨r18, er18⟩ : ∃ z, kR κ this 3 = z := ⟨_, rfl⟩
            have tr18 : zk σ0 r18 3 := by rw [← er18]; exact hT0.ref t_this (by decide) (by decide) (by decide)
            refine va_get (D := κ.1) (ci := 5) (v := .ref (kR κ this 3)) (C := RX5) (T := TX5) (N := 10) hx hb hg inX5 hown hK (hT.o7 (hT.k t_this (by decide))).one 0 rfl rfl 3 (by decide) (hg _ k382) (fun _ h9 => h9) rfl dX5_count_85 ?_
            rw [er18]
            obtain ⟨v19, ev19⟩ : ∃ zz9 : Int32, zI σ0 r18 7 = zz9 := ⟨_, rfl⟩
            have qv19 : v19.toInt = (zI σ0 r18 7).toInt := by rw [ev19]
            refine va_get (D := κ.1) (ci := 1) (v := .int (zI σ0 r18 7)) (C := RX1) (T := TX1) (N := 13) hx hb hg inX1 hown hK (hT.o3 (hT.k tr18 (by decide))).one 0 rfl rfl 7 (by decide) (hg _ k292) (fun _ h9 => h9) rfl dX5_count_88 ?_
            rw [(hT.eI tr18 (by decide) rfl ev19)]
            subst hQ9
            exact vx_ret (t_i hx hb hr hlocks hT trivial dX5_count_91)
          · have q17i := gi_ne q17
            by_cases q20 : x = 5
            · have q20i := gi_eq q20
              refine lv_tableIn (off := 91) (tgt := 92) hx hb dX5_count_1 (by rw [q20]; decide) (by rw [q20]; decide) (by rw [q20]; decide) (by decide) ?_
              refine lv_aload_n hx hb dX5_count_92 rfl (lv_at hl 0 rfl) ?_
              obtain ⟨r21, er21⟩ : ∃ z, kR κ this 3 = z := ⟨_, rfl⟩
              have tr21 : zk σ0 r21 3 := by rw [← er21]; exact hT0.ref t_this (by decide) (by decide) (by decide)
              refine va_get (D := κ.1) (ci := 5) (v := .ref (kR κ this 3)) (C := RX5) (T := TX5) (N := 10) hx hb hg inX5 hown hK (hT.o7 (hT.k t_this (by decide))).one 0 rfl rfl 3 (by decide) (hg _ k382) (fun _ h9 => h9) rfl dX5_count_93 ?_
              rw [er21]
              obtain ⟨v22, ev22⟩ : ∃ zz9 : Int32, zI σ0 r21 8 = zz9 := ⟨_, rfl⟩
              have qv22 : v22.toInt = (zI σ0 r21 8).toInt := by rw [ev22]
              refine va_get (D := κ.1) (ci := 1) (v := .int (zI σ0 r21 8)) (C := RX1) (T := TX1) (N := 13) hx hb hg inX1 hown hK (hT.o3 (hT.k tr21 (by decide))).one 0 rfl rfl 8 (by decide) (hg _ k294) (fun _ h9 => h9) rfl dX5_count_96 ?_
              rw [(hT.eI tr21 (by decide) rfl ev22)]
              subst hQ9
              exact vx_ret (t_i hx hb hr hlocks hT trivial dX5_count_99)
            · have q20i := gi_ne q20
              by_cases q23 : x = 6
              · have q23i := gi_eq q23
                refine lv_tableIn (off := 99) (tgt := 100) hx hb dX5_count_1 (by rw [q23]; decide) (by rw [q23]; decide) (by rw [q23]; decide) (by decide) ?_
                refine lv_aload_n hx hb dX5_count_100 rfl (lv_at hl 0 rfl) ?_
                obtain ⟨r24, er24⟩ : ∃ z, kR κ this 3 = z := ⟨_, rfl⟩
                have tr24 : zk σ0 r24 3 := by rw [← er24]; exact hT0.ref t_this (by decide) (by decide) (by decide)
                refine va_get (D := κ.1) (ci := 5) (v := .ref (kR κ this 3)) (C := RX5) (T := TX5) (N := 10) hx hb hg inX5 hown hK (hT.o7 (hT.k t_this (by decide))).one 0 rfl rfl 3 (by decide) (hg _ k382) (fun _ h9 => h9) rfl dX5_count_101 ?_
                rw [er24]
                obtain ⟨v25, ev25⟩ : ∃ zz9 : Int32, zI σ0 r24 9 = zz9 := ⟨_, rfl⟩
                have qv25 : v25.toInt = (zI σ0 r24 9).toInt := by rw [ev25]
                have b26 : isB v25 := by have q9 := (hT.P (hT.k tr24 (by decide)) (by decide)).2; rw [(hT.eI tr24 (by decide) rfl ev25)] at q9; exact q9
                refine va_get (D := κ.1) (ci := 1) (v := .int (zI σ0 r24 9)) (C := RX1) (T := TX1) (N := 13) hx hb hg inX1 hown hK (hT.o3 (hT.k tr24 (by decide))).one 0 rfl rfl 9 (by decide) (hg _ k296) (fun _ h9 => h9) rfl dX5_count_104 ?_
                rw [(hT.eI tr24 (by decide) rfl ev25)]
                refine lv_if_eq (tgt := 114) hx hb dX5_count_107 (by decide) (fun c9 => ?_) (fun c9 => ?_)
                · have c1 := gi_eq c9
                  refine lv_iconst (v := 0) hx hb dX5_count_114 (by decide) ?_
                  subst hQ9
                  exact vx_ret (t_i hx hb hr hlocks hT trivial dX5_count_115)
                · have c2 := gi_ne c9
                  refine lv_iconst (v := 1) hx hb dX5_count_110 (by decide) ?_
                  refine lv_goto (tgt := 115) hx hb dX5_count_111 (by decide) ?_
                  subst hQ9
                  exact vx_ret (t_i hx hb hr hlocks hT trivial dX5_count_115)
              · have q23i := gi_ne q23
                by_cases q27 : x = 7
                · have q27i := gi_eq q27
                  refine lv_tableIn (off := 115) (tgt := 116) hx hb dX5_count_1 (by rw [q27]; decide) (by rw [q27]; decide) (by rw [q27]; decide) (by decide) ?_
                  refine lv_aload_n hx hb dX5_count_116 rfl (lv_at hl 0 rfl) ?_
                  obtain ⟨r28, er28⟩ : ∃ z, kR κ this 1 = z := ⟨_, rfl⟩
                  have tr28 : zk σ0 r28 4 := by rw [← er28]; exact hT0.ref t_this (by decide) (by decide) (by decide)
                  refine va_get (D := κ.1) (ci := 5) (v := .ref (kR κ this 1)) (C := RX5) (T := TX5) (N := 10) hx hb hg inX5 hown hK (hT.o7 (hT.k t_this (by decide))).one 0 rfl rfl 1 (by decide) (hg _ k380) (fun _ h9 => h9) rfl dX5_count_117 ?_
                  rw [er28]
                  obtain ⟨v29, ev29⟩ : ∃ zz9 : Int32, zI σ0 r28 6 = zz9 := ⟨_, rfl⟩
                  have qv29 : v29.toInt = (zI σ0 r28 6).toInt := by rw [ev29]
                  refine va_get (D := κ.1) (ci := 0) (v := .int (zI σ0 r28 6)) (C := RX0) (T := TX0) (N := 7) hx hb hg inX0 hown hK (hT.o4 (hT.k tr28 (by decide))).one 0 rfl rfl 6 (by decide) (hg _ k175) (fun _ h9 => h9) rfl dX5_count_120 ?_
                  rw [(hT.eI tr28 (by decide) rfl ev29)]
                  subst hQ9
                  exact vx_ret (t_i hx hb hr hlocks hT trivial dX5_count_123)
                · have q27i := gi_ne q27
                  by_cases q30 : x = 8
                  · have q30i := gi_eq q30
                    refine lv_tableIn (off := 123) (tgt := 124) hx hb dX5_count_1 (by rw [q30]; decide) (by rw [q30]; decide) (by rw [q30]; decide) (by decide) ?_
                    refine lv_aload_n hx hb dX5_count_124 rfl (lv_at hl 0 rfl) ?_
                    obtain ⟨r31, er31⟩ : ∃ z, kR κ this 3 = z := ⟨_, rfl⟩
                    have tr31 : zk σ0 r31 3 := by rw [← er31]; exact hT0.ref t_this (by decide) (by decide) (by decide)
                    refine va_get (D := κ.1) (ci := 5) (v := .ref (kR κ this 3)) (C := RX5) (T := TX5) (N := 10) hx hb hg inX5 hown hK (hT.o7 (hT.k t_this (by decide))).one 0 rfl rfl 3 (by decide) (hg _ k382) (fun _ h9 => h9) rfl dX5_count_125 ?_
                    rw [er31]
                    have hTo := hT
                    refine tVl (n := 0) (As := []) (rest := []) hx hb hml hown hg hT hK hX (X1_weightSum l κ σ0 r31  (hT.k tr31 (by decide)) ) (fun _ _ h => h) (mwV k849 k850 k851 k87 k852) ⟨rfl, by decide, by decide, by decide +kernel⟩ ⟨(Nat.le_of_ble_eq_true rfl), (Nat.le_of_ble_eq_true rfl)⟩ (hT.o3 (hT.k tr31 (by decide))) rfl rfl hl.1 rfl (Nat.le_of_ble_eq_true rfl) dX5_count_128 zroom.up (fun x32 s33 H locs hφ hEs33 hT => ?_)
                    refine lv_l2i hx hb dX5_count_131 rfl ?_
                    refine lv_topi (fun t34 ht34 => ?_)
                    subst hQ9
                    exact vx_ret (t_i hx hb hr hlocks hT trivial dX5_count_132)
                  · have q30i := gi_ne q30
                    refine lv_tableOut (tgt := 133) hx hb dX5_count_1 (by omega) (by decide) ?_
                    obtain ⟨sa, hsa⟩ := XX_sRX5_130 hX.1
                    subst hQ9
                    exact tth_IAE hx hb hlt hown (hg _ k813) (hg _ k101) hsa hg hX.1 hT (hl.1.trans hml.symm) dX5_count_133 dX5_count_136 dX5_count_137 dX5_count_139 dX5_count_142 hout (Nat.le_of_ble_eq_true rfl) (Nat.le_of_ble_eq_true rfl) zroomX.rf hlocks rfl
set_option maxHeartbeats 4000000 in
set_option maxRecDepth 100000 in
theorem X5_sample (l : Launch) (κ : Kt) (σ0 : Gh) (this : Nat) (i : Int32) (x : Int32) (t_this : zk σ0 this 7) (hlt : l.stackTraces = false) : TX l yX5_sample cX5_sample 3 (some .long) 7 111 [.ref this, .int i, .int x] κ σ0 (tql κ fE σ0 (fun (r : Int64) (τ : Gh) => True)) (txq κ fE σ0 (fun (E : String) (τ : Gh) => E = "java/lang/IndexOutOfBoundsException" ∨ E = "java/lang/IllegalArgumentException")) := by
  refine TX.of fE (by decide +kernel) (Nat.le_of_ble_eq_true rfl) ?_
  intro p e s m below meth c ls hcs hout hK hX hT hl
  obtain ⟨hx, hb, hr, hml, hown, hg, hlocks, hin⟩ := hcs
  have hown : s.vm.findClass RX5 = some m.cls := hown
  have hl : lv_has ls 3 [(0, .ref this), (1, .int i), (2, .int x)] := hl
  have hT0 := hT
  have n0 : (0 : Int32).toInt = 0 := by decide
  have n1 : (1 : Int32).toInt = 1 := by decide
  have n2 : (2 : Int32).toInt = 2 := by decide
  have n3 : (3 : Int32).toInt = 3 := by decide
  have n4 : (4 : Int32).toInt = 4 := by decide
  have n5 : (5 : Int32).toInt = 5 := by decide
  have jm1 : ((-1) : Int64).toInt = (-1) := by decide
  have j0 : (0 : Int64).toInt = 0 := by decide
  have j1 : (1 : Int64).toInt = 1 := by decide
  have i_lo := Int32.le_toInt i
  have i_hi := Int32.toInt_lt i
  have x_lo := Int32.le_toInt x
  have x_hi := Int32.toInt_lt x
  generalize hQ9 : tQX _ _ _ _ _ _ _ = Q9
  refine lv_iload_n hx hb dX5_sample_0 rfl (lv_at hl 1 rfl) ?_
  refine lv_aload_n hx hb dX5_sample_1 rfl (lv_at hl 0 rfl) ?_
  obtain ⟨r1, er1⟩ : ∃ z, kR κ this 1 = z := ⟨_, rfl⟩
  have tr1 : zk σ0 r1 4 := by rw [← er1]; exact hT0.ref t_this (by decide) (by decide) (by decide)
  refine va_get (D := κ.1) (ci := 5) (v := .ref (kR κ this 1)) (C := RX5) (T := TX5) (N := 10) hx hb hg inX5 hown hK (hT.o7 (hT.k t_this (by decide))).one 0 rfl rfl 1 (by decide) (hg _ k380) (fun _ h9 => h9) rfl dX5_sample_2 ?_
  rw [er1]
  obtain ⟨v2, ev2⟩ : ∃ zz9 : Int32, zI σ0 r1 2 = zz9 := ⟨_, rfl⟩
  have qv2 : v2.toInt = (zI σ0 r1 2).toInt := by rw [ev2]
  have b3 := (hT.P (hT.k tr1 (by decide)) (by decide)).1
  rw [(hT.eI tr1 (by decide) rfl ev2)] at b3
  have b3l := b3.1
  have b3h := b3.2
  refine va_get (D := κ.1) (ci := 0) (v := .int (zI σ0 r1 2)) (C := RX0) (T := TX0) (N := 7) hx hb hg inX0 hown hK (hT.o4 (hT.k tr1 (by decide))).one 0 rfl rfl 2 (by decide) (hg _ k163) (fun _ h9 => h9) rfl dX5_sample_5 ?_
  rw [(hT.eI tr1 (by decide) rfl ev2)]
  have hTo := hT
  refine xtSv (n := 2) (As := [.int i, .int v2]) (rest := []) hx hb hml hown hg hT hK hX (X5_needIndex l κ σ0 i v2    hlt) (fun _ _ h => h) (mwS k610 k611 k84 k612) ⟨rfl, by decide, by decide, by decide +kernel⟩ ⟨(Nat.le_of_ble_eq_true rfl), (Nat.le_of_ble_eq_true rfl)⟩ rfl hl.1 rfl (Nat.le_of_ble_eq_true rfl) dX5_sample_8 zroomX.rf (fun E9 ce9 q9 τ9 H9 locs9 hp9 hE9 hT9 hce9 hcv9 hcl9 => by subst hQ9; exact tx_out hT9 (Or.inl hp9.1) hout hlocks hce9 hcv9 hcl9) (fun s5 H locs hφ hEs5 hT => ?_)
  obtain ⟨f6, f7⟩ := hφ
  refine lv_iload_n hx hb dX5_sample_11 rfl (lv_at hl 2 rfl) ?_
  by_cases q8 : x = 0
  · have q8i := gi_eq q8
    refine lv_tableIn (off := 40) (tgt := 52) hx hb dX5_sample_12 (by rw [q8]; decide) (by rw [q8]; decide) (by rw [q8]; decide) (by decide) ?_
    refine lv_aload_n hx hb dX5_sample_52 rfl (lv_at hl 0 rfl) ?_
    refine va_get (D := κ.1) (ci := 5) (v := .ref (kR κ this 1)) (C := RX5) (T := TX5) (N := 10) hx hb hg inX5 hown hK (hT.o7 (hT.k t_this (by decide))).one 0 rfl rfl 1 (by decide) (hg _ k380) (fun _ h9 => h9) rfl dX5_sample_53 ?_
    rw [er1]
    obtain ⟨r9, er9⟩ : ∃ z, kR κ r1 0 = z := ⟨_, rfl⟩
    have tr9 : zk σ0 r9 8 := by rw [← er9]; exact hT0.ref tr1 (by decide) (by decide) (by decide)
    refine va_get (D := κ.1) (ci := 0) (v := .ref (kR κ r1 0)) (C := RX0) (T := TX0) (N := 7) hx hb hg inX0 hown hK (hT.o4 (hT.k tr1 (by decide))).one 0 rfl rfl 0 (by decide) (hg _ k155) (fun _ h9 => h9) rfl dX5_sample_56 ?_
    rw [er9]
    refine lv_iload_n hx hb dX5_sample_59 rfl (lv_at hl 1 rfl) ?_
    refine va_iald hx hb hK (hT.o8 (hT.k tr9 (by decide))).one 0 0 rfl rfl (g_in (by omega) (by omega)) dX5_sample_60 ?_
    refine lv_topi (fun t10 ht10 => ?_)
    refine lv_i2l hx hb dX5_sample_61 rfl ?_
    refine g_i2l (fun t11 ht11 => ?_)
    subst hQ9
    exact vx_ret (t_l hx hb hr hlocks hT trivial dX5_sample_62)
  · have q8i := gi_ne q8
    by_cases q12 : x = 1
    · have q12i := gi_eq q12
      refine lv_tableIn (off := 51) (tgt := 63) hx hb dX5_sample_12 (by rw [q12]; decide) (by rw [q12]; decide) (by rw [q12]; decide) (by decide) ?_
      refine lv_aload_n hx hb dX5_sample_63 rfl (lv_at hl 0 rfl) ?_
      refine va_get (D := κ.1) (ci := 5) (v := .ref (kR κ this 1)) (C := RX5) (T := TX5) (N := 10) hx hb hg inX5 hown hK (hT.o7 (hT.k t_this (by decide))).one 0 rfl rfl 1 (by decide) (hg _ k380) (fun _ h9 => h9) rfl dX5_sample_64 ?_
      rw [er1]
      obtain ⟨r13, er13⟩ : ∃ z, kR κ r1 1 = z := ⟨_, rfl⟩
      have tr13 : zk σ0 r13 16 := by rw [← er13]; exact hT0.ref tr1 (by decide) (by decide) (by decide)
      refine va_get (D := κ.1) (ci := 0) (v := .ref (kR κ r1 1)) (C := RX0) (T := TX0) (N := 7) hx hb hg inX0 hown hK (hT.o4 (hT.k tr1 (by decide))).one 0 rfl rfl 1 (by decide) (hg _ k160) (fun _ h9 => h9) rfl dX5_sample_67 ?_
      rw [er13]
      refine lv_iload_n hx hb dX5_sample_70 rfl (lv_at hl 1 rfl) ?_
      refine va_iald hx hb hK (hT.o16 (hT.k tr13 (by decide))).one 0 0 rfl rfl (g_in (by omega) (by omega)) dX5_sample_71 ?_
      refine lv_topi (fun t14 ht14 => ?_)
      refine lv_i2l hx hb dX5_sample_72 rfl ?_
      refine g_i2l (fun t15 ht15 => ?_)
      subst hQ9
      exact vx_ret (t_l hx hb hr hlocks hT trivial dX5_sample_73)
    · have q12i := gi_ne q12
      by_cases q16 : x = 2
      · have q16i := gi_eq q16
        refine lv_tableIn (off := 62) (tgt := 74) hx hb dX5_sample_12 (by rw [q16]; decide) (by rw [q16]; decide) (by rw [q16]; decide) (by decide) ?_
        refine lv_aload_n hx hb dX5_sample_74 rfl (lv_at hl 0 rfl) ?_
        obtain ⟨r17, er17⟩ : ∃ z, kR κ this 3 = z := ⟨_, rfl⟩
        have tr17 : zk σ0 r17 3 := by rw [← er17]; exact hT0.ref t_this (by decide) (by decide) (by decide)
        refine va_get (D := κ.1) (ci := 5) (v := .ref (kR κ this 3)) (C := RX5) (T := TX5) (N := 10) hx hb hg inX5 hown hK (hT.o7 (hT.k t_this (by decide))).one 0 rfl rfl 3 (by decide) (hg _ k382) (fun _ h9 => h9) rfl dX5_sample_75 ?_
        rw [er17]
        refine lv_iload_n hx hb dX5_sample_78 rfl (lv_at hl 1 rfl) ?_
        have hTo := hT
        refine tVi (n := 1) (As := [.int i]) (rest := []) hx hb hml hown hg hT hK hX (X1_isPresent l κ s5 r17 i  (hT.k tr17 (by decide)) (by omega) (by omega)) (fun _ _ h => h) (mwV k861 k460 k461 k87 k462) ⟨rfl, by decide, by decide, by decide +kernel⟩ ⟨(Nat.le_of_ble_eq_true rfl), (Nat.le_of_ble_eq_true rfl)⟩ (hT.o3 (hT.k tr17 (by decide))) rfl rfl hl.1 rfl (Nat.le_of_ble_eq_true rfl) dX5_sample_79 zroom.up (fun x18 s19 H locs hφ hEs19 hT => ?_)
        have f20 := hφ
        refine lv_if_eq (tgt := 89) hx hb dX5_sample_82 (by decide) (fun c9 => ?_) (fun c9 => ?_)
        · have c1 := gi_eq c9
          refine lv_lconst (v := 0) hx hb dX5_sample_89 (by decide) ?_
          subst hQ9
          exact vx_ret (t_l hx hb hr hlocks hT trivial dX5_sample_90)
        · have c2 := gi_ne c9
          refine lv_lconst (v := 1) hx hb dX5_sample_85 (by decide) ?_
          refine lv_goto (tgt := 90) hx hb dX5_sample_86 (by decide) ?_
          subst hQ9
          exact vx_ret (t_l hx hb hr hlocks hT trivial dX5_sample_90)
      · have q16i := gi_ne q16
        by_cases q21 : x = 3
        · have q21i := gi_eq q21
          refine lv_tableIn (off := 79) (tgt := 91) hx hb dX5_sample_12 (by rw [q21]; decide) (by rw [q21]; decide) (by rw [q21]; decide) (by decide) ?_
          refine lv_aload_n hx hb dX5_sample_91 rfl (lv_at hl 0 rfl) ?_
          obtain ⟨r22, er22⟩ : ∃ z, kR κ this 3 = z := ⟨_, rfl⟩
          have tr22 : zk σ0 r22 3 := by rw [← er22]; exact hT0.ref t_this (by decide) (by decide) (by decide)
          refine va_get (D := κ.1) (ci := 5) (v := .ref (kR κ this 3)) (C := RX5) (T := TX5) (N := 10) hx hb hg inX5 hown hK (hT.o7 (hT.k t_this (by decide))).one 0 rfl rfl 3 (by decide) (hg _ k382) (fun _ h9 => h9) rfl dX5_sample_92 ?_
          rw [er22]
          refine lv_iload_n hx hb dX5_sample_95 rfl (lv_at hl 1 rfl) ?_
          have hTo := hT
          refine tVi (n := 1) (As := [.int i]) (rest := []) hx hb hml hown hg hT hK hX (X1_isPresent l κ s5 r22 i  (hT.k tr22 (by decide)) (by omega) (by omega)) (fun _ _ h => h) (mwV k861 k460 k461 k87 k462) ⟨rfl, by decide, by decide, by decide +kernel⟩ ⟨(Nat.le_of_ble_eq_true rfl), (Nat.le_of_ble_eq_true rfl)⟩ (hT.o3 (hT.k tr22 (by decide))) rfl rfl hl.1 rfl (Nat.le_of_ble_eq_true rfl) dX5_sample_96 zroom.up (fun x23 s24 H locs hφ hEs24 hT => ?_)
          have f25 := hφ
          refine lv_if_eq (tgt := 117) hx hb dX5_sample_99 (by decide) (fun c9 => ?_) (fun c9 => ?_)
          · have c3 := gi_eq c9
            refine lv_ldc2 hx hb hown (hg _ k862) dX5_sample_117 ?_
            subst hQ9
            exact vx_ret (t_l hx hb hr hlocks hT trivial dX5_sample_120)
          · have c4 := gi_ne c9
            refine lv_aload_n hx hb dX5_sample_102 rfl (lv_at hl 0 rfl) ?_
            refine va_get (D := κ.1) (ci := 5) (v := .ref (kR κ this 3)) (C := RX5) (T := TX5) (N := 10) hx hb hg inX5 hown hK (hT.o7 (hT.k t_this (by decide))).one 0 rfl rfl 3 (by decide) (hg _ k382) (fun _ h9 => h9) rfl dX5_sample_103 ?_
            rw [er22]
            obtain ⟨r26, er26⟩ : ∃ z, kR κ r22 1 = z := ⟨_, rfl⟩
            have tr26 : zk σ0 r26 10 := by rw [← er26]; exact hT0.ref tr22 (by decide) (by decide) (by decide)
            refine va_get (D := κ.1) (ci := 1) (v := .ref (kR κ r22 1)) (C := RX1) (T := TX1) (N := 13) hx hb hg inX1 hown hK (hT.o3 (hT.k tr22 (by decide))).one 0 rfl rfl 1 (by decide) (hg _ k280) (fun _ h9 => h9) rfl dX5_sample_106 ?_
            rw [er26]
            refine lv_iload_n hx hb dX5_sample_109 rfl (lv_at hl 1 rfl) ?_
            refine va_aldq hx hb hK (hT.o10 (hT.k tr26 (by decide))).one 0 4 rfl rfl (g_in (by omega) (by omega)) dX5_sample_110 ?_
            obtain ⟨r28, er28⟩ : ∃ z, kR κ r26 (ix i) = z := ⟨_, rfl⟩
            have tr28 : zk σ0 r28 1 := by rw [← er28]; exact hT0.ref tr26 (by decide) (zR10 (ix_lt (by omega) (by omega))) (by decide)
            refine tv (.ref r28) (by rw [← er28]; rfl) ?_
            obtain ⟨h31, oh31, th31⟩ := hT.o1 (hT.k tr28 (by decide))
            have hTo := hT
            refine tVl (n := 0) (As := []) (rest := []) hx hb hml hown hg hT hK hX (X4_toLong l κ s24 r28  (hT.k tr28 (by decide)) ) (fun _ _ h => h) (mwV k435 k436 k437 k88 k438) ⟨rfl, by decide, by decide, by decide +kernel⟩ ⟨(Nat.le_of_ble_eq_true rfl), (Nat.le_of_ble_eq_true rfl)⟩ oh31 rfl rfl hl.1 rfl (Nat.le_of_ble_eq_true rfl) dX5_sample_111 zroom.up (fun x29 s30 H locs hφ hEs30 hT => ?_)
            refine lv_goto (tgt := 120) hx hb dX5_sample_114 (by decide) ?_
            subst hQ9
            exact vx_ret (t_l hx hb hr hlocks hT trivial dX5_sample_120)
        · have q21i := gi_ne q21
          by_cases q32 : x = 4
          · have q32i := gi_eq q32
            refine lv_tableIn (off := 109) (tgt := 121) hx hb dX5_sample_12 (by rw [q32]; decide) (by rw [q32]; decide) (by rw [q32]; decide) (by decide) ?_
            refine lv_aload_n hx hb dX5_sample_121 rfl (lv_at hl 0 rfl) ?_
            obtain ⟨r33, er33⟩ : ∃ z, kR κ this 3 = z := ⟨_, rfl⟩
            have tr33 : zk σ0 r33 3 := by rw [← er33]; exact hT0.ref t_this (by decide) (by decide) (by decide)
            refine va_get (D := κ.1) (ci := 5) (v := .ref (kR κ this 3)) (C := RX5) (T := TX5) (N := 10) hx hb hg inX5 hown hK (hT.o7 (hT.k t_this (by decide))).one 0 rfl rfl 3 (by decide) (hg _ k382) (fun _ h9 => h9) rfl dX5_sample_122 ?_
            rw [er33]
            obtain ⟨r34, er34⟩ : ∃ z, kR κ r33 2 = z := ⟨_, rfl⟩
            have tr34 : zk σ0 r34 9 := by rw [← er34]; exact hT0.ref tr33 (by decide) (by decide) (by decide)
            refine va_get (D := κ.1) (ci := 1) (v := .ref (kR κ r33 2)) (C := RX1) (T := TX1) (N := 13) hx hb hg inX1 hown hK (hT.o3 (hT.k tr33 (by decide))).one 0 rfl rfl 2 (by decide) (hg _ k282) (fun _ h9 => h9) rfl dX5_sample_125 ?_
            rw [er34]
            refine lv_iload_n hx hb dX5_sample_128 rfl (lv_at hl 1 rfl) ?_
            refine va_lald hx hb hK (hT.o9 (hT.k tr34 (by decide))).one 0 1 rfl rfl (g_in (by omega) (by omega)) dX5_sample_129 ?_
            refine lv_topl (fun t35 ht35 => ?_)
            subst hQ9
            exact vx_ret (t_l hx hb hr hlocks hT trivial dX5_sample_130)
          · have q32i := gi_ne q32
            by_cases q36 : x = 5
            · have q36i := gi_eq q36
              refine lv_tableIn (off := 119) (tgt := 131) hx hb dX5_sample_12 (by rw [q36]; decide) (by rw [q36]; decide) (by rw [q36]; decide) (by decide) ?_
              refine lv_aload_n hx hb dX5_sample_131 rfl (lv_at hl 0 rfl) ?_
              obtain ⟨r37, er37⟩ : ∃ z, kR κ this 3 = z := ⟨_, rfl⟩
              have tr37 : zk σ0 r37 3 := by rw [← er37]; exact hT0.ref t_this (by decide) (by decide) (by decide)
              refine va_get (D := κ.1) (ci := 5) (v := .ref (kR κ this 3)) (C := RX5) (T := TX5) (N := 10) hx hb hg inX5 hown hK (hT.o7 (hT.k t_this (by decide))).one 0 rfl rfl 3 (by decide) (hg _ k382) (fun _ h9 => h9) rfl dX5_sample_132 ?_
              rw [er37]
              obtain ⟨r38, er38⟩ : ∃ z, kR κ r37 3 = z := ⟨_, rfl⟩
              have tr38 : zk σ0 r38 15 := by rw [← er38]; exact hT0.ref tr37 (by decide) (by decide) (by decide)
              refine va_get (D := κ.1) (ci := 1) (v := .ref (kR κ r37 3)) (C := RX1) (T := TX1) (N := 13) hx hb hg inX1 hown hK (hT.o3 (hT.k tr37 (by decide))).one 0 rfl rfl 3 (by decide) (hg _ k284) (fun _ h9 => h9) rfl dX5_sample_135 ?_
              rw [er38]
              refine lv_iload_n hx hb dX5_sample_138 rfl (lv_at hl 1 rfl) ?_
              refine va_iald hx hb hK (hT.o15 (hT.k tr38 (by decide))).one 0 0 rfl rfl (g_in (by omega) (by omega)) dX5_sample_139 ?_
              refine lv_topi (fun t39 ht39 => ?_)
              refine lv_i2l hx hb dX5_sample_140 rfl ?_
              refine g_i2l (fun t40 ht40 => ?_)
              subst hQ9
              exact vx_ret (t_l hx hb hr hlocks hT trivial dX5_sample_141)
            · have q36i := gi_ne q36
              refine lv_tableOut (tgt := 142) hx hb dX5_sample_12 (by omega) (by decide) ?_
              obtain ⟨sa, hsa⟩ := XX_sRX5_130 hX.1
              subst hQ9
              exact tth_IAE hx hb hlt hown (hg _ k813) (hg _ k101) hsa hg hX.1 hT (hl.1.trans hml.symm) dX5_sample_142 dX5_sample_145 dX5_sample_146 dX5_sample_148 dX5_sample_151 hout (Nat.le_of_ble_eq_true rfl) (Nat.le_of_ble_eq_true rfl) zroomX.rf hlocks (Or.inr rfl)
set_option maxHeartbeats 4000000 in
set_option maxRecDepth 100000 in
theorem X5_present (l : Launch) (κ : Kt) (σ0 : Gh) (this : Nat) (i : Int32) (t_this : zk σ0 this 7) (hlt : l.stackTraces = false) : TX l yX5_present cX5_present 2 (some .int) 7 111 [.ref this, .int i] κ σ0 (tqi κ fE σ0 (fun (r : Int32) (τ : Gh) => True)) (txq κ fE σ0 (fun (E : String) (τ : Gh) => E = "java/lang/IndexOutOfBoundsException")) := by
  refine TX.of fE (by decide +kernel) (Nat.le_of_ble_eq_true rfl) ?_
  intro p e s m below meth c ls hcs hout hK hX hT hl
  obtain ⟨hx, hb, hr, hml, hown, hg, hlocks, hin⟩ := hcs
  have hown : s.vm.findClass RX5 = some m.cls := hown
  have hl : lv_has ls 2 [(0, .ref this), (1, .int i)] := hl
  have hT0 := hT
  have i_lo := Int32.le_toInt i
  have i_hi := Int32.toInt_lt i
  generalize hQ9 : tQX _ _ _ _ _ _ _ = Q9
  refine lv_iload_n hx hb dX5_present_0 rfl (lv_at hl 1 rfl) ?_
  refine lv_aload_n hx hb dX5_present_1 rfl (lv_at hl 0 rfl) ?_
  obtain ⟨r1, er1⟩ : ∃ z, kR κ this 3 = z := ⟨_, rfl⟩
  have tr1 : zk σ0 r1 3 := by rw [← er1]; exact hT0.ref t_this (by decide) (by decide) (by decide)
  refine va_get (D := κ.1) (ci := 5) (v := .ref (kR κ this 3)) (C := RX5) (T := TX5) (N := 10) hx hb hg inX5 hown hK (hT.o7 (hT.k t_this (by decide))).one 0 rfl rfl 3 (by decide) (hg _ k382) (fun _ h9 => h9) rfl dX5_present_2 ?_
  rw [er1]
  have hTo := hT
  refine tVi (n := 0) (As := []) (rest := [.int i]) hx hb hml hown hg hT hK hX (X1_presentCount l κ σ0 r1  (hT.k tr1 (by decide)) ) (fun _ _ h => h) (mwV k488 k489 k490 k87 k491) ⟨rfl, by decide, by decide, by decide +kernel⟩ ⟨(Nat.le_of_ble_eq_true rfl), (Nat.le_of_ble_eq_true rfl)⟩ (hT.o3 (hT.k tr1 (by decide))) rfl rfl hl.1 rfl (Nat.le_of_ble_eq_true rfl) dX5_present_5 zroom.up (fun x2 s3 H locs hφ hEs3 hT => ?_)
  have hTo := hT
  refine xtSv (n := 2) (As := [.int i, .int x2]) (rest := []) hx hb hml hown hg hT hK hX (X5_needIndex l κ s3 i x2    hlt) (fun _ _ h => h) (mwS k610 k611 k84 k612) ⟨rfl, by decide, by decide, by decide +kernel⟩ ⟨(Nat.le_of_ble_eq_true rfl), (Nat.le_of_ble_eq_true rfl)⟩ rfl hl.1 rfl (Nat.le_of_ble_eq_true rfl) dX5_present_8 zroomX.rf (fun E9 ce9 q9 τ9 H9 locs9 hp9 hE9 hT9 hce9 hcv9 hcl9 => by subst hQ9; exact tx_out hT9 hp9.1 hout hlocks hce9 hcv9 hcl9) (fun s5 H locs hφ hEs5 hT => ?_)
  obtain ⟨f6, f7⟩ := hφ
  refine lv_aload_n hx hb dX5_present_11 rfl (lv_at hl 0 rfl) ?_
  refine va_get (D := κ.1) (ci := 5) (v := .ref (kR κ this 3)) (C := RX5) (T := TX5) (N := 10) hx hb hg inX5 hown hK (hT.o7 (hT.k t_this (by decide))).one 0 rfl rfl 3 (by decide) (hg _ k382) (fun _ h9 => h9) rfl dX5_present_12 ?_
  rw [er1]
  refine lv_iload_n hx hb dX5_present_15 rfl (lv_at hl 1 rfl) ?_
  have hTo := hT
  refine tVi (n := 1) (As := [.int i]) (rest := []) hx hb hml hown hg hT hK hX (X1_presentAt l κ s5 r1 i  (hT.k tr1 (by decide)) ) (fun _ _ h => h) (mwV k870 k871 k872 k87 k873) ⟨rfl, by decide, by decide, by decide +kernel⟩ ⟨(Nat.le_of_ble_eq_true rfl), (Nat.le_of_ble_eq_true rfl)⟩ (hT.o3 (hT.k tr1 (by decide))) rfl rfl hl.1 rfl (Nat.le_of_ble_eq_true rfl) dX5_present_16 zroom.up (fun x8 s9 H locs hφ hEs9 hT => ?_)
  subst hQ9
  exact vx_ret (t_i hx hb hr hlocks hT trivial dX5_present_19)
set_option maxHeartbeats 4000000 in
set_option maxRecDepth 100000 in
theorem X5_neighbour (l : Launch) (κ : Kt) (σ0 : Gh) (this : Nat) (i : Int32) (ri : Int32) (t_this : zk σ0 this 7) (b_ri : isB ri) (hlt : l.stackTraces = false) : TX l yX5_neighbour cX5_neighbour 3 (some .int) 7 111 [.ref this, .int i, .int ri] κ σ0 (tqi κ fE σ0 (fun (r : Int32) (τ : Gh) => True)) (txq κ fE σ0 (fun (E : String) (τ : Gh) => E = "java/lang/IndexOutOfBoundsException")) := by
  refine TX.of fE (by decide +kernel) (Nat.le_of_ble_eq_true rfl) ?_
  intro p e s m below meth c ls hcs hout hK hX hT hl
  obtain ⟨hx, hb, hr, hml, hown, hg, hlocks, hin⟩ := hcs
  have hown : s.vm.findClass RX5 = some m.cls := hown
  have hl : lv_has ls 3 [(0, .ref this), (1, .int i), (2, .int ri)] := hl
  have hT0 := hT
  have n0 : (0 : Int32).toInt = 0 := by decide
  have i_lo := Int32.le_toInt i
  have i_hi := Int32.toInt_lt i
  generalize hQ9 : tQX _ _ _ _ _ _ _ = Q9
  refine lv_iload_n hx hb dX5_neighbour_0 rfl (lv_at hl 1 rfl) ?_
  refine lv_aload_n hx hb dX5_neighbour_1 rfl (lv_at hl 0 rfl) ?_
  obtain ⟨r1, er1⟩ : ∃ z, kR κ this 1 = z := ⟨_, rfl⟩
  have tr1 : zk σ0 r1 4 := by rw [← er1]; exact hT0.ref t_this (by decide) (by decide) (by decide)
  refine va_get (D := κ.1) (ci := 5) (v := .ref (kR κ this 1)) (C := RX5) (T := TX5) (N := 10) hx hb hg inX5 hown hK (hT.o7 (hT.k t_this (by decide))).one 0 rfl rfl 1 (by decide) (hg _ k380) (fun _ h9 => h9) rfl dX5_neighbour_2 ?_
  rw [er1]
  obtain ⟨v2, ev2⟩ : ∃ zz9 : Int32, zI σ0 r1 2 = zz9 := ⟨_, rfl⟩
  have qv2 : v2.toInt = (zI σ0 r1 2).toInt := by rw [ev2]
  have b3 := (hT.P (hT.k tr1 (by decide)) (by decide)).1
  rw [(hT.eI tr1 (by decide) rfl ev2)] at b3
  have b3l := b3.1
  have b3h := b3.2
  refine va_get (D := κ.1) (ci := 0) (v := .int (zI σ0 r1 2)) (C := RX0) (T := TX0) (N := 7) hx hb hg inX0 hown hK (hT.o4 (hT.k tr1 (by decide))).one 0 rfl rfl 2 (by decide) (hg _ k163) (fun _ h9 => h9) rfl dX5_neighbour_5 ?_
  rw [(hT.eI tr1 (by decide) rfl ev2)]
  have hTo := hT
  refine xtSv (n := 2) (As := [.int i, .int v2]) (rest := []) hx hb hml hown hg hT hK hX (X5_needIndex l κ σ0 i v2    hlt) (fun _ _ h => h) (mwS k610 k611 k84 k612) ⟨rfl, by decide, by decide, by decide +kernel⟩ ⟨(Nat.le_of_ble_eq_true rfl), (Nat.le_of_ble_eq_true rfl)⟩ rfl hl.1 rfl (Nat.le_of_ble_eq_true rfl) dX5_neighbour_8 zroomX.rf (fun E9 ce9 q9 τ9 H9 locs9 hp9 hE9 hT9 hce9 hcv9 hcl9 => by subst hQ9; exact tx_out hT9 hp9.1 hout hlocks hce9 hcv9 hcl9) (fun s5 H locs hφ hEs5 hT => ?_)
  obtain ⟨f6, f7⟩ := hφ
  refine lv_iload_n hx hb dX5_neighbour_11 rfl (lv_at hl 2 rfl) ?_
  refine lv_if_eq (tgt := 26) hx hb dX5_neighbour_12 (by decide) (fun c9 => ?_) (fun c9 => ?_)
  · have c1 := gi_eq c9
    refine lv_aload_n hx hb dX5_neighbour_26 rfl (lv_at hl 0 rfl) ?_
    obtain ⟨r8, er8⟩ : ∃ z, kR κ this 3 = z := ⟨_, rfl⟩
    have tr8 : zk σ0 r8 3 := by rw [← er8]; exact hT0.ref t_this (by decide) (by decide) (by decide)
    refine va_get (D := κ.1) (ci := 5) (v := .ref (kR κ this 3)) (C := RX5) (T := TX5) (N := 10) hx hb hg inX5 hown hK (hT.o7 (hT.k t_this (by decide))).one 0 rfl rfl 3 (by decide) (hg _ k382) (fun _ h9 => h9) rfl dX5_neighbour_27 ?_
    rw [er8]
    refine lv_iload_n hx hb dX5_neighbour_30 rfl (lv_at hl 1 rfl) ?_
    have hTo := hT
    refine tVi (n := 1) (As := [.int i]) (rest := []) hx hb hml hown hg hT hK hX (X1_leftOf l κ s5 r8 i  (hT.k tr8 (by decide)) (by omega) (by omega)) (fun _ _ h => h) (mwV k882 k575 k576 k87 k577) ⟨rfl, by decide, by decide, by decide +kernel⟩ ⟨(Nat.le_of_ble_eq_true rfl), (Nat.le_of_ble_eq_true rfl)⟩ (hT.o3 (hT.k tr8 (by decide))) rfl rfl hl.1 rfl (Nat.le_of_ble_eq_true rfl) dX5_neighbour_31 zroom.up (fun x9 s10 H locs hφ hEs10 hT => ?_)
    obtain ⟨f11, f12⟩ := hφ
    subst hQ9
    exact vx_ret (t_i hx hb hr hlocks hT trivial dX5_neighbour_34)
  · have c2 := gi_ne c9
    refine lv_aload_n hx hb dX5_neighbour_15 rfl (lv_at hl 0 rfl) ?_
    obtain ⟨r13, er13⟩ : ∃ z, kR κ this 3 = z := ⟨_, rfl⟩
    have tr13 : zk σ0 r13 3 := by rw [← er13]; exact hT0.ref t_this (by decide) (by decide) (by decide)
    refine va_get (D := κ.1) (ci := 5) (v := .ref (kR κ this 3)) (C := RX5) (T := TX5) (N := 10) hx hb hg inX5 hown hK (hT.o7 (hT.k t_this (by decide))).one 0 rfl rfl 3 (by decide) (hg _ k382) (fun _ h9 => h9) rfl dX5_neighbour_16 ?_
    rw [er13]
    refine lv_iload_n hx hb dX5_neighbour_19 rfl (lv_at hl 1 rfl) ?_
    have hTo := hT
    refine tVi (n := 1) (As := [.int i]) (rest := []) hx hb hml hown hg hT hK hX (X1_rightOf l κ s5 r13 i  (hT.k tr13 (by decide)) (by omega) (by omega)) (fun _ _ h => h) (mwV k881 k579 k580 k87 k581) ⟨rfl, by decide, by decide, by decide +kernel⟩ ⟨(Nat.le_of_ble_eq_true rfl), (Nat.le_of_ble_eq_true rfl)⟩ (hT.o3 (hT.k tr13 (by decide))) rfl rfl hl.1 rfl (Nat.le_of_ble_eq_true rfl) dX5_neighbour_20 zroom.up (fun x14 s15 H locs hφ hEs15 hT => ?_)
    obtain ⟨f16, f17⟩ := hφ
    refine lv_goto (tgt := 34) hx hb dX5_neighbour_23 (by decide) ?_
    subst hQ9
    exact vx_ret (t_i hx hb hr hlocks hT trivial dX5_neighbour_34)
set_option maxHeartbeats 4000000 in
set_option maxRecDepth 100000 in
theorem X5_step (l : Launch) (κ : Kt) (σ0 : Gh) (this : Nat) (i : Int32) (x : Int32) (t_this : zk σ0 this 7) (hlt : l.stackTraces = false) : TX l yX5_step cX5_step 4 (some .long) 7 111 [.ref this, .int i, .int x] κ σ0 (tql κ fE σ0 (fun (r : Int64) (τ : Gh) => True)) (txq κ fE σ0 (fun (E : String) (τ : Gh) => E = "java/lang/IndexOutOfBoundsException" ∨ E = "java/lang/IllegalArgumentException")) := by
  refine TX.of fE (by decide +kernel) (Nat.le_of_ble_eq_true rfl) ?_
  intro p e s m below meth c ls hcs hout hK hX hT hl
  obtain ⟨hx, hb, hr, hml, hown, hg, hlocks, hin⟩ := hcs
  have hown : s.vm.findClass RX5 = some m.cls := hown
  have hl : lv_has ls 4 [(0, .ref this), (1, .int i), (2, .int x)] := hl
  have hT0 := hT
  have n0 : (0 : Int32).toInt = 0 := by decide
  have n1 : (1 : Int32).toInt = 1 := by decide
  have n2 : (2 : Int32).toInt = 2 := by decide
  have n3 : (3 : Int32).toInt = 3 := by decide
  have n4 : (4 : Int32).toInt = 4 := by decide
  have n5 : (5 : Int32).toInt = 5 := by decide
  have i_lo := Int32.le_toInt i
  have i_hi := Int32.toInt_lt i
  have x_lo := Int32.le_toInt x
  have x_hi := Int32.toInt_lt x
  generalize hQ9 : tQX _ _ _ _ _ _ _ = Q9
  refine lv_iload_n hx hb dX5_step_0 rfl (lv_at hl 1 rfl) ?_
  refine lv_aload_n hx hb dX5_step_1 rfl (lv_at hl 0 rfl) ?_
  obtain ⟨r1, er1⟩ : ∃ z, kR κ this 3 = z := ⟨_, rfl⟩
  have tr1 : zk σ0 r1 3 := by rw [← er1]; exact hT0.ref t_this (by decide) (by decide) (by decide)
  refine va_get (D := κ.1) (ci := 5) (v := .ref (kR κ this 3)) (C := RX5) (T := TX5) (N := 10) hx hb hg inX5 hown hK (hT.o7 (hT.k t_this (by decide))).one 0 rfl rfl 3 (by decide) (hg _ k382) (fun _ h9 => h9) rfl dX5_step_2 ?_
  rw [er1]
  obtain ⟨v2, ev2⟩ : ∃ zz9 : Int32, zI σ0 r1 5 = zz9 := ⟨_, rfl⟩
  have qv2 : v2.toInt = (zI σ0 r1 5).toInt := by rw [ev2]
  have b3 := (hT.P (hT.k tr1 (by decide)) (by decide)).1
  rw [(hT.eI tr1 (by decide) rfl ev2)] at b3
  have b3l := b3.1
  have b3h := b3.2
  refine va_get (D := κ.1) (ci := 1) (v := .int (zI σ0 r1 5)) (C := RX1) (T := TX1) (N := 13) hx hb hg inX1 hown hK (hT.o3 (hT.k tr1 (by decide))).one 0 rfl rfl 5 (by decide) (hg _ k288) (fun _ h9 => h9) rfl dX5_step_5 ?_
  rw [(hT.eI tr1 (by decide) rfl ev2)]
  have hTo := hT
  refine xtSv (n := 2) (As := [.int i, .int v2]) (rest := []) hx hb hml hown hg hT hK hX (X5_needIndex l κ σ0 i v2    hlt) (fun _ _ h => h) (mwS k610 k611 k84 k612) ⟨rfl, by decide, by decide, by decide +kernel⟩ ⟨(Nat.le_of_ble_eq_true rfl), (Nat.le_of_ble_eq_true rfl)⟩ rfl hl.1 rfl (Nat.le_of_ble_eq_true rfl) dX5_step_8 zroomX.rf (fun E9 ce9 q9 τ9 H9 locs9 hp9 hE9 hT9 hce9 hcv9 hcl9 => by subst hQ9; exact tx_out hT9 (Or.inl hp9.1) hout hlocks hce9 hcv9 hcl9) (fun s5 H locs hφ hEs5 hT => ?_)
  obtain ⟨f6, f7⟩ := hφ
  refine lv_aload_n hx hb dX5_step_11 rfl (lv_at hl 0 rfl) ?_
  refine va_get (D := κ.1) (ci := 5) (v := .ref (kR κ this 3)) (C := RX5) (T := TX5) (N := 10) hx hb hg inX5 hown hK (hT.o7 (hT.k t_this (by decide))).one 0 rfl rfl 3 (by decide) (hg _ k382) (fun _ h9 => h9) rfl dX5_step_12 ?_
  rw [er1]
  obtain ⟨r8, er8⟩ : ∃ z, kR κ r1 4 = z := ⟨_, rfl⟩
  have tr8 : zk σ0 r8 11 := by rw [← er8]; exact hT0.ref tr1 (by decide) (by decide) (by decide)
  refine va_get (D := κ.1) (ci := 1) (v := .ref (kR κ r1 4)) (C := RX1) (T := TX1) (N := 13) hx hb hg inX1 hown hK (hT.o3 (hT.k tr1 (by decide))).one 0 rfl rfl 4 (by decide) (hg _ k286) (fun _ h9 => h9) rfl dX5_step_15 ?_
  rw [er8]
  refine lv_iload_n hx hb dX5_step_18 rfl (lv_at hl 1 rfl) ?_
  refine va_aldq hx hb hK (hT.o11 (hT.k tr8 (by decide))).one 0 5 rfl rfl (g_in (by omega) (by omega)) dX5_step_19 ?_
  obtain ⟨r10, er10⟩ : ∃ z, kR κ r8 (ix i) = z := ⟨_, rfl⟩
  have tr10 : zk σ0 r10 2 := by rw [← er10]; exact hT0.ref tr8 (by decide) (zR11 (ix_lt (by omega) (by omega))) (by decide)
  refine tv (.ref r10) (by rw [← er10]; rfl) ?_
  refine lv_astore_n (lv' := [(3, .ref r10), (0, .ref this), (1, .int i), (2, .int x)]) hx hb dX5_step_20 rfl hl (by decide) rfl (fun ls hl => ?_)
  refine lv_iload_n hx hb dX5_step_21 rfl (lv_at hl 3 rfl) ?_
  by_cases q11 : x = 0
  · have q11i := gi_eq q11
    refine lv_tableIn (off := 38) (tgt := 60) hx hb dX5_step_22 (by rw [q11]; decide) (by rw [q11]; decide) (by rw [q11]; decide) (by decide) ?_
    refine lv_aload_n hx hb dX5_step_60 rfl (lv_at hl 0 rfl) ?_
    obtain ⟨v12, ev12⟩ : ∃ zz9 : Int32, zI σ0 r10 0 = zz9 := ⟨_, rfl⟩
    have qv12 : v12.toInt = (zI σ0 r10 0).toInt := by rw [ev12]
    have b13 := (hT.P (hT.k tr10 (by decide)) (by decide)).1
    rw [(hT.eI tr10 (by decide) rfl ev12)] at b13
    have b13l := b13.1
    have b13h := b13.2
    refine va_get (D := κ.1) (ci := 2) (v := .int (zI s5 r10 0)) (C := RX2) (T := TX2) (N := 10) hx hb hg inX2 hown hK (hT.o2 (hT.k tr10 (by decide))).one 0 rfl rfl 0 (by decide) (hg _ k228) (fun _ h9 => h9) rfl dX5_step_61 ?_
    rw [(hT.eI tr10 (by decide) rfl ev12)]
    refine lv_i2l hx hb dX5_step_64 rfl ?_
    refine g_i2l (fun t14 ht14 => ?_)
    subst hQ9
    exact vx_ret (t_l hx hb hr hlocks hT trivial dX5_step_65)
  · have q11i := gi_ne q11
    by_cases q15 : x = 1
    · have q15i := gi_eq q15
      refine lv_tableIn (off := 44) (tgt := 66) hx hb dX5_step_22 (by rw [q15]; decide) (by rw [q15]; decide) (by rw [q15]; decide) (by decide) ?_
      refine lv_aload_n hx hb dX5_step_66 rfl (lv_at hl 0 rfl) ?_
      obtain ⟨v16, ev16⟩ : ∃ zz9 : Int32, zI σ0 r10 1 = zz9 := ⟨_, rfl⟩
      have qv16 : v16.toInt = (zI σ0 r10 1).toInt := by rw [ev16]
      have b17 := (hT.P (hT.k tr10 (by decide)) (by decide)).2.1
      rw [(hT.eI tr10 (by decide) rfl ev16)] at b17
      have b17l := b17.1
      have b17h := b17.2
      refine va_get (D := κ.1) (ci := 2) (v := .int (zI s5 r10 1)) (C := RX2) (T := TX2) (N := 10) hx hb hg inX2 hown hK (hT.o2 (hT.k tr10 (by decide))).one 0 rfl rfl 1 (by decide) (hg _ k231) (fun _ h9 => h9) rfl dX5_step_67 ?_
      rw [(hT.eI tr10 (by decide) rfl ev16)]
      refine lv_i2l hx hb dX5_step_70 rfl ?_
      refine g_i2l (fun t18 ht18 => ?_)
      subst hQ9
      exact vx_ret (t_l hx hb hr hlocks hT trivial dX5_step_71)
    · have q15i := gi_ne q15
      by_cases q19 : x = 2
      · have q19i := gi_eq q19
        refine lv_tableIn (off := 50) (tgt := 72) hx hb dX5_step_22 (by rw [q19]; decide) (by rw [q19]; decide) (by rw [q19]; decide) (by decide) ?_
        refine lv_aload_n hx hb dX5_step_72 rfl (lv_at hl 0 rfl) ?_
        obtain ⟨v20, ev20⟩ : ∃ zz9 : Int32, zI σ0 r10 2 = zz9 := ⟨_, rfl⟩
        have qv20 : v20.toInt = (zI σ0 r10 2).toInt := by rw [ev20]
        have b21 := (hT.P (hT.k tr10 (by decide)) (by decide)).2.2.1
        rw [(hT.eI tr10 (by decide) rfl ev20)] at b21
        have b21l := b21.1
        have b21h := b21.2
        refine va_get (D := κ.1) (ci := 2) (v := .int (zI s5 r10 2)) (C := RX2) (T := TX2) (N := 10) hx hb hg inX2 hown hK (hT.o2 (hT.k tr10 (by decide))).one 0 rfl rfl 2 (by decide) (hg _ k234) (fun _ h9 => h9) rfl dX5_step_73 ?_
        rw [(hT.eI tr10 (by decide) rfl ev20)]
        refine lv_i2l hx hb dX5_step_76 rfl ?_
        refine g_i2l (fun t22 ht22 => ?_)
        subst hQ9
        exact vx_ret (t_l hx hb hr hlocks hT trivial dX5_step_77)
      · have q19i := gi_ne q19
        by_cases q23 : x = 3
        · have q23i := gi_eq q23
          refine lv_tableIn (off := 56) (tgt := 78) hx hb dX5_step_22 (by rw [q23]; decide) (by rw [q23]; decide) (by rw [q23]; decide) (by decide) ?_
          refine lv_aload_n hx hb dX5_step_78 rfl (lv_at hl 0 rfl) ?_
          obtain ⟨r24, er24⟩ : ∃ z, kR κ r10 9 = z := ⟨_, rfl⟩
          have tr24 : zk σ0 r24 1 := by rw [← er24]; exact hT0.ref tr10 (by decide) (by decide) (by decide)
          refine va_get (D := κ.1) (ci := 2) (v := .ref (kR κ r10 9)) (C := RX2) (T := TX2) (N := 10) hx hb hg inX2 hown hK (hT.o2 (hT.k tr10 (by decide))).one 0 rfl rfl 9 (by decide) (hg _ k251) (fun _ h9 => h9) rfl dX5_step_79 ?_
          rw [er24]
          obtain ⟨h27, oh27, th27⟩ := hT.o1 (hT.k tr24 (by decide))
          have hTo := hT
          refine tVl (n := 0) (As := []) (rest := []) hx hb hml hown hg hT hK hX (X4_toLong l κ s5 r24  (hT.k tr24 (by decide)) ) (fun _ _ h => h) (mwV k435 k436 k437 k88 k438) ⟨rfl, by decide, by decide, by decide +kernel⟩ ⟨(Nat.le_of_ble_eq_true rfl), (Nat.le_of_ble_eq_true rfl)⟩ oh27 rfl rfl hl.1 rfl (Nat.le_of_ble_eq_true rfl) dX5_step_82 zroom.up (fun x25 s26 H locs hφ hEs26 hT => ?_)
          subst hQ9
          exact vx_ret (t_l hx hb hr hlocks hT trivial dX5_step_85)
        · have q23i := gi_ne q23
          by_cases q28 : x = 4
          · have q28i := gi_eq q28
            refine lv_tableIn (off := 64) (tgt := 86) hx hb dX5_step_22 (by rw [q28]; decide) (by rw [q28]; decide) (by rw [q28]; decide) (by decide) ?_
            refine lv_aload_n hx hb dX5_step_86 rfl (lv_at hl 0 rfl) ?_
            refine va_get (D := κ.1) (ci := 2) (v := .long (zJ s5 r10 5)) (C := RX2) (T := TX2) (N := 10) hx hb hg inX2 hown hK (hT.o2 (hT.k tr10 (by decide))).one 0 rfl rfl 5 (by decide) (hg _ k241) (fun _ h9 => h9) rfl dX5_step_87 ?_
            refine lv_topl (fun t29 ht29 => ?_)
            subst hQ9
            exact vx_ret (t_l hx hb hr hlocks hT trivial dX5_step_90)
          · have q28i := gi_ne q28
            by_cases q30 : x = 5
            · have q30i := gi_eq q30
              refine lv_tableIn (off := 69) (tgt := 91) hx hb dX5_step_22 (by rw [q30]; decide) (by rw [q30]; decide) (by rw [q30]; decide) (by decide) ?_
              refine lv_aload_n hx hb dX5_step_91 rfl (lv_at hl 0 rfl) ?_
              refine va_get (D := κ.1) (ci := 2) (v := .long (zJ s5 r10 6)) (C := RX2) (T := TX2) (N := 10) hx hb hg inX2 hown hK (hT.o2 (hT.k tr10 (by decide))).one 0 rfl rfl 6 (by decide) (hg _ k244) (fun _ h9 => h9) rfl dX5_step_92 ?_
              refine lv_topl (fun t31 ht31 => ?_)
              subst hQ9
              exact vx_ret (t_l hx hb hr hlocks hT trivial dX5_step_95)
            · have q30i := gi_ne q30
              refine lv_tableOut (tgt := 96) hx hb dX5_step_22 (by omega) (by decide) ?_
              obtain ⟨sa, hsa⟩ := XX_sRX5_130 hX.1
              subst hQ9
              exact tth_IAE hx hb hlt hown (hg _ k813) (hg _ k101) hsa hg hX.1 hT (hl.1.trans hml.symm) dX5_step_96 dX5_step_99 dX5_step_100 dX5_step_102 dX5_step_105 hout (Nat.le_of_ble_eq_true rfl) (Nat.le_of_ble_eq_true rfl) zroomX.rf hlocks (Or.inr rfl)
set_option maxHeartbeats 4000000 in
set_option maxRecDepth 100000 in
theorem X5_valueAt (l : Launch) (κ : Kt) (σ0 : Gh) (this : Nat) (po : Int32) (t_this : zk σ0 this 7) (hlt : l.stackTraces = false) : TX l yX5_valueAt cX5_valueAt 2 (some .long) 6 137 [.ref this, .int po] κ σ0 (tql κ fW σ0 (fun (r : Int64) (τ : Gh) => True)) (txq κ fW σ0 (fun (E : String) (τ : Gh) => E = "java/lang/IndexOutOfBoundsException")) := by
  refine TX.of fW (by decide +kernel) (Nat.le_of_ble_eq_true rfl) ?_
  intro p e s m below meth c ls hcs hout hK hX hT hl
  obtain ⟨hx, hb, hr, hml, hown, hg, hlocks, hin⟩ := hcs
  have hown : s.vm.findClass RX5 = some m.cls := hown
  have hl : lv_has ls 2 [(0, .ref this), (1, .int po)] := hl
  have hT0 := hT
  have n0 : (0 : Int32).toInt = 0 := by decide
  have n1 : (1 : Int32).toInt = 1 := by decide
  have po_lo := Int32.le_toInt po
  have po_hi := Int32.toInt_lt po
  generalize hQ9 : tQX _ _ _ _ _ _ _ = Q9
  refine lv_iload_n hx hb dX5_valueAt_0 rfl (lv_at hl 1 rfl) ?_
  refine lv_aload_n hx hb dX5_valueAt_1 rfl (lv_at hl 0 rfl) ?_
  obtain ⟨r1, er1⟩ : ∃ z, kR κ this 1 = z := ⟨_, rfl⟩
  have tr1 : zk σ0 r1 4 := by rw [← er1]; exact hT0.ref t_this (by decide) (by decide) (by decide)
  refine va_get (D := κ.1) (ci := 5) (v := .ref (kR κ this 1)) (C := RX5) (T := TX5) (N := 10) hx hb hg inX5 hown hK (hT.o7 (hT.k t_this (by decide))).one 0 rfl rfl 1 (by decide) (hg _ k380) (fun _ h9 => h9) rfl dX5_valueAt_2 ?_
  rw [er1]
  obtain ⟨r2, er2⟩ : ∃ z, kR κ r1 0 = z := ⟨_, rfl⟩
  have tr2 : zk σ0 r2 8 := by rw [← er2]; exact hT0.ref tr1 (by decide) (by decide) (by decide)
  refine va_get (D := κ.1) (ci := 0) (v := .ref (kR κ r1 0)) (C := RX0) (T := TX0) (N := 7) hx hb hg inX0 hown hK (hT.o4 (hT.k tr1 (by decide))).one 0 rfl rfl 0 (by decide) (hg _ k155) (fun _ h9 => h9) rfl dX5_valueAt_5 ?_
  rw [er2]
  refine lv_iconst (v := 0) hx hb dX5_valueAt_8 (by decide) ?_
  refine va_iald hx hb hK (hT.o8 (hT.k tr2 (by decide))).one 0 0 rfl rfl (g_in (by omega) (by omega)) dX5_valueAt_9 ?_
  refine lv_topi (fun t3 ht3 => ?_)
  refine lv_icmp_lt (tgt := 34) hx hb dX5_valueAt_10 (by decide) (fun c9 => ?_) (fun c9 => ?_)
  · have c1 := gi_lt c9
    obtain ⟨sa, hsa⟩ := XX_sRX5_198 hX.1
    subst hQ9
    exact tth_IOOBE hx hb hlt hown (hg _ k613) (hg _ k96) hsa hg hX.1 hT (hl.1.trans hml.symm) dX5_valueAt_34 dX5_valueAt_37 dX5_valueAt_38 dX5_valueAt_40 dX5_valueAt_43 hout (Nat.le_of_ble_eq_true rfl) (Nat.le_of_ble_eq_true rfl) zroomX.rf hlocks rfl
  · have c2 := gi_nlt c9
    refine lv_iload_n hx hb dX5_valueAt_13 rfl (lv_at hl 1 rfl) ?_
    refine lv_aload_n hx hb dX5_valueAt_14 rfl (lv_at hl 0 rfl) ?_
    refine va_get (D := κ.1) (ci := 5) (v := .ref (kR κ this 1)) (C := RX5) (T := TX5) (N := 10) hx hb hg inX5 hown hK (hT.o7 (hT.k t_this (by decide))).one 0 rfl rfl 1 (by decide) (hg _ k380) (fun _ h9 => h9) rfl dX5_valueAt_15 ?_
    rw [er1]
    refine va_get (D := κ.1) (ci := 0) (v := .ref (kR κ r1 0)) (C := RX0) (T := TX0) (N := 7) hx hb hg inX0 hown hK (hT.o4 (hT.k tr1 (by decide))).one 0 rfl rfl 0 (by decide) (hg _ k155) (fun _ h9 => h9) rfl dX5_valueAt_18 ?_
    rw [er2]
    refine lv_aload_n hx hb dX5_valueAt_21 rfl (lv_at hl 0 rfl) ?_
    refine va_get (D := κ.1) (ci := 5) (v := .ref (kR κ this 1)) (C := RX5) (T := TX5) (N := 10) hx hb hg inX5 hown hK (hT.o7 (hT.k t_this (by decide))).one 0 rfl rfl 1 (by decide) (hg _ k380) (fun _ h9 => h9) rfl dX5_valueAt_22 ?_
    rw [er1]
    obtain ⟨v4, ev4⟩ : ∃ zz9 : Int32, zI σ0 r1 2 = zz9 := ⟨_, rfl⟩
    have qv4 : v4.toInt = (zI σ0 r1 2).toInt := by rw [ev4]
    have b5 := (hT.P (hT.k tr1 (by decide)) (by decide)).1
    rw [(hT.eI tr1 (by decide) rfl ev4)] at b5
    have b5l := b5.1
    have b5h := b5.2
    refine va_get (D := κ.1) (ci := 0) (v := .int (zI σ0 r1 2)) (C := RX0) (T := TX0) (N := 7) hx hb hg inX0 hown hK (hT.o4 (hT.k tr1 (by decide))).one 0 rfl rfl 2 (by decide) (hg _ k163) (fun _ h9 => h9) rfl dX5_valueAt_25 ?_
    rw [(hT.eI tr1 (by decide) rfl ev4)]
    refine lv_iconst (v := 1) hx hb dX5_valueAt_28 (by decide) ?_
    refine lv_isub hx hb dX5_valueAt_29 ?_
    first | refine g_sub (by omega) (by omega) (fun t6 ht6 => ?_) | refine lv_topi (fun t6 ht6 => ?_)
    refine va_iald hx hb hK (hT.o8 (hT.k tr2 (by decide))).one 0 0 rfl rfl (g_in (by omega) (by omega)) dX5_valueAt_30 ?_
    refine lv_topi (fun t7 ht7 => ?_)
    refine lv_icmp_le (tgt := 44) hx hb dX5_valueAt_31 (by decide) (fun c9 => ?_) (fun c9 => ?_)
    · have c3 := gi_le c9
      refine lv_aload_n hx hb dX5_valueAt_44 rfl (lv_at hl 0 rfl) ?_
      obtain ⟨r8, er8⟩ : ∃ z, kR κ this 3 = z := ⟨_, rfl⟩
      have tr8 : zk σ0 r8 3 := by rw [← er8]; exact hT0.ref t_this (by decide) (by decide) (by decide)
      refine va_get (D := κ.1) (ci := 5) (v := .ref (kR κ this 3)) (C := RX5) (T := TX5) (N := 10) hx hb hg inX5 hown hK (hT.o7 (hT.k t_this (by decide))).one 0 rfl rfl 3 (by decide) (hg _ k382) (fun _ h9 => h9) rfl dX5_valueAt_45 ?_
      rw [er8]
      refine lv_iload_n hx hb dX5_valueAt_48 rfl (lv_at hl 1 rfl) ?_
      have hTo := hT
      refine tVr (n := 1) (As := [.int po]) (rest := []) hx hb hml hown hg hT hK hX (X1_lineAt l κ σ0 r8 po  (hT.k tr8 (by decide)) ) (fun _ _ h => h) (mwV k898 k899 k900 k87 k901) ⟨rfl, by decide, by decide, by decide +kernel⟩ ⟨(Nat.le_of_ble_eq_true rfl), (Nat.le_of_ble_eq_true rfl)⟩ (hT.o3 (hT.k tr8 (by decide))) rfl rfl hl.1 rfl (Nat.le_of_ble_eq_true rfl) dX5_valueAt_49 zroom.up (fun x9 s10 H locs hφ hEs10 hT => ?_)
      have f11 := hφ
      have tx9 : zk σ0 x9 1 := hTo.kr f11 (by decide) (by decide)
      obtain ⟨h14, oh14, th14⟩ := hT.o1 (hT.k tx9 (by decide))
      have hTo := hT
      refine tVl (n := 0) (As := []) (rest := []) hx hb hml hown hg hT hK hX (X4_toLong l κ s10 x9  (hT.k tx9 (by decide)) ) sub_fE_fW (mwV k435 k436 k437 k88 k438) ⟨rfl, by decide, by decide, by decide +kernel⟩ ⟨(Nat.le_of_ble_eq_true rfl), (Nat.le_of_ble_eq_true rfl)⟩ oh14 rfl rfl hl.1 rfl (Nat.le_of_ble_eq_true rfl) dX5_valueAt_52 zroom.up (fun x12 s13 H locs hφ hEs13 hT => ?_)
      subst hQ9
      exact vx_ret (t_l hx hb hr hlocks hT trivial dX5_valueAt_55)
    · have c4 := gi_nle c9
      obtain ⟨sa, hsa⟩ := XX_sRX5_198 hX.1
      subst hQ9
      exact tth_IOOBE hx hb hlt hown (hg _ k613) (hg _ k96) hsa hg hX.1 hT (hl.1.trans hml.symm) dX5_valueAt_34 dX5_valueAt_37 dX5_valueAt_38 dX5_valueAt_40 dX5_valueAt_43 hout (Nat.le_of_ble_eq_true rfl) (Nat.le_of_ble_eq_true rfl) zroomX.rf hlocks rfl
set_option maxHeartbeats 4000000 in
set_option maxRecDepth 100000 in
theorem X5_integral (l : Launch) (κ : Kt) (σ0 : Gh) (this : Nat) (t_this : zk σ0 this 7) : TC l yX5_integral cX5_integral 1 (some .long) 3 66 [.ref this] κ σ0 (tql κ fE σ0 (fun (r : Int64) (τ : Gh) => True)) := by
  refine TC.of fE (by decide +kernel) (Nat.le_of_ble_eq_true rfl) ?_
  intro p e s m below meth c ls hcs hK hX hT hl
  obtain ⟨hx, hb, hr, hml, hown, hg, hlocks, hin⟩ := hcs
  have hown : s.vm.findClass RX5 = some m.cls := hown
  have hl : lv_has ls 1 [(0, .ref this)] := hl
  have hT0 := hT
  generalize hQ9 : tQ _ _ _ _ _ _ = Q9
  refine lv_aload_n hx hb dX5_integral_0 rfl (lv_at hl 0 rfl) ?_
  obtain ⟨r1, er1⟩ : ∃ z, kR κ this 3 = z := ⟨_, rfl⟩
  have tr1 : zk σ0 r1 3 := by rw [← er1]; exact hT0.ref t_this (by decide) (by decide) (by decide)
  refine va_get (D := κ.1) (ci := 5) (v := .ref (kR κ this 3)) (C := RX5) (T := TX5) (N := 10) hx hb hg inX5 hown hK (hT.o7 (hT.k t_this (by decide))).one 0 rfl rfl 3 (by decide) (hg _ k382) (fun _ h9 => h9) rfl dX5_integral_1 ?_
  rw [er1]
  obtain ⟨r2, er2⟩ : ∃ z, kR κ r1 6 = z := ⟨_, rfl⟩
  have tr2 : zk σ0 r2 1 := by rw [← er2]; exact hT0.ref tr1 (by decide) (by decide) (by decide)
  refine va_get (D := κ.1) (ci := 1) (v := .ref (kR κ r1 6)) (C := RX1) (T := TX1) (N := 13) hx hb hg inX1 hown hK (hT.o3 (hT.k tr1 (by decide))).one 0 rfl rfl 6 (by decide) (hg _ k290) (fun _ h9 => h9) rfl dX5_integral_4 ?_
  rw [er2]
  obtain ⟨h5, oh5, th5⟩ := hT.o1 (hT.k tr2 (by decide))
  have hTo := hT
  refine tVl (n := 0) (As := []) (rest := []) hx hb hml hown hg hT hK hX (X4_toLong l κ σ0 r2  (hT.k tr2 (by decide)) ) (fun _ _ h => h) (mwV k435 k436 k437 k88 k438) ⟨rfl, by decide, by decide, by decide +kernel⟩ ⟨(Nat.le_of_ble_eq_true rfl), (Nat.le_of_ble_eq_true rfl)⟩ oh5 rfl rfl hl.1 rfl (Nat.le_of_ble_eq_true rfl) dX5_integral_7 zroom.rf (fun x3 s4 H locs hφ hEs4 hT => ?_)
  subst hQ9
  exact t_l hx hb hr hlocks hT trivial dX5_integral_10
set_option maxHeartbeats 4000000 in
set_option maxRecDepth 100000 in
theorem X5_drift (l : Launch) (κ : Kt) (σ0 : Gh) (this : Nat) (t_this : zk σ0 this 7) : TC l yX5_drift cX5_drift 1 (some .long) 4 110 [.ref this] κ σ0 (tql κ fW σ0 (fun (r : Int64) (τ : Gh) => True)) := by
  refine TC.of fW (by decide +kernel) (Nat.le_of_ble_eq_true rfl) ?_
  intro p e s m below meth c ls hcs hK hX hT hl
  obtain ⟨hx, hb, hr, hml, hown, hg, hlocks, hin⟩ := hcs
  have hown : s.vm.findClass RX5 = some m.cls := hown
  have hl : lv_has ls 1 [(0, .ref this)] := hl
  have hT0 := hT
  generalize hQ9 : tQ _ _ _ _ _ _ = Q9
  refine lv_aload_n hx hb dX5_drift_0 rfl (lv_at hl 0 rfl) ?_
  obtain ⟨r1, er1⟩ : ∃ z, kR κ this 3 = z := ⟨_, rfl⟩
  have tr1 : zk σ0 r1 3 := by rw [← er1]; exact hT0.ref t_this (by decide) (by decide) (by decide)
  refine va_get (D := κ.1) (ci := 5) (v := .ref (kR κ this 3)) (C := RX5) (T := TX5) (N := 10) hx hb hg inX5 hown hK (hT.o7 (hT.k t_this (by decide))).one 0 rfl rfl 3 (by decide) (hg _ k382) (fun _ h9 => h9) rfl dX5_drift_1 ?_
  rw [er1]
  have hTo := hT
  refine tVr (n := 0) (As := []) (rest := []) hx hb hml hown hg hT hK hX (X1_driftNow l κ σ0 r1  (hT.k tr1 (by decide)) ) (fun _ _ h => h) (mwV k451 k452 k453 k87 k454) ⟨rfl, by decide, by decide, by decide +kernel⟩ ⟨(Nat.le_of_ble_eq_true rfl), (Nat.le_of_ble_eq_true rfl)⟩ (hT.o3 (hT.k tr1 (by decide))) rfl rfl hl.1 rfl (Nat.le_of_ble_eq_true rfl) dX5_drift_4 zroom.rf (fun x2 s3 H locs hφ hEs3 hT => ?_)
  have f4 := hφ
  have tx2 : zk σ0 x2 1 := hTo.kr f4 (by decide) (by decide)
  obtain ⟨h7, oh7, th7⟩ := hT.o1 (hT.k tx2 (by decide))
  have hTo := hT
  refine tVl (n := 0) (As := []) (rest := []) hx hb hml hown hg hT hK hX (X4_toLong l κ s3 x2  (hT.k tx2 (by decide)) ) sub_fE_fW (mwV k435 k436 k437 k88 k438) ⟨rfl, by decide, by decide, by decide +kernel⟩ ⟨(Nat.le_of_ble_eq_true rfl), (Nat.le_of_ble_eq_true rfl)⟩ oh7 rfl rfl hl.1 rfl (Nat.le_of_ble_eq_true rfl) dX5_drift_7 zroom.rf (fun x5 s6 H locs hφ hEs6 hT => ?_)
  subst hQ9
  exact t_l hx hb hr hlocks hT trivial dX5_drift_10
set_option maxHeartbeats 4000000 in
set_option maxRecDepth 100000 in
theorem X5_mean (l : Launch) (κ : Kt) (σ0 : Gh) (this : Nat) (x : Int32) (t_this : zk σ0 this 7) (hlt : l.stackTraces = false) : TX l yX5_mean cX5_mean 6 (some .long) 7 112 [.ref this, .int x] κ σ0 (tql κ fW σ0 (fun (r : Int64) (τ : Gh) => True)) (txq κ fW σ0 (fun (E : String) (τ : Gh) => E = "java/lang/IllegalArgumentException")) := by
  refine TX.of fW (by decide +kernel) (Nat.le_of_ble_eq_true rfl) ?_
  intro p e s m below meth c ls hcs hout hK hX hT hl
  obtain ⟨hx, hb, hr, hml, hown, hg, hlocks, hin⟩ := hcs
  have hown : s.vm.findClass RX5 = some m.cls := hown
  have hl : lv_has ls 6 [(0, .ref this), (1, .int x)] := hl
  have hT0 := hT
  have n0 : (0 : Int32).toInt = 0 := by decide
  have n1 : (1 : Int32).toInt = 1 := by decide
  have x_lo := Int32.le_toInt x
  have x_hi := Int32.toInt_lt x
  generalize hQ9 : tQX _ _ _ _ _ _ _ = Q9
  refine lv_iload_n hx hb dX5_mean_0 rfl (lv_at hl 1 rfl) ?_
  refine lv_iconst (v := 0) hx hb dX5_mean_1 (by decide) ?_
  refine lv_iconst (v := 1) hx hb dX5_mean_2 (by decide) ?_
  have hTo := hT
  refine xtSv (n := 3) (As := [.int x, .int 0, .int 1]) (rest := []) hx hb hml hown hg hT hK hX (X5_needRange l κ σ0 x 0 1    hlt) sub_fE_fW (mwS k909 k910 k84 k911) ⟨rfl, by decide, by decide, by decide +kernel⟩ ⟨(Nat.le_of_ble_eq_true rfl), (Nat.le_of_ble_eq_true rfl)⟩ rfl hl.1 rfl (Nat.le_of_ble_eq_true rfl) dX5_mean_3 zroomX.rf (fun E9 ce9 q9 τ9 H9 locs9 hp9 hE9 hT9 hce9 hcv9 hcl9 => by subst hQ9; exact tx_out hT9 hp9.1 hout hlocks hce9 hcv9 hcl9) (fun s2 H locs hφ hEs2 hT => ?_)
  obtain ⟨f3, f4⟩ := hφ
  refine lv_aload_n hx hb dX5_mean_6 rfl (lv_at hl 0 rfl) ?_
  obtain ⟨r5, er5⟩ : ∃ z, kR κ this 3 = z := ⟨_, rfl⟩
  have tr5 : zk σ0 r5 3 := by rw [← er5]; exact hT0.ref t_this (by decide) (by decide) (by decide)
  refine va_get (D := κ.1) (ci := 5) (v := .ref (kR κ this 3)) (C := RX5) (T := TX5) (N := 10) hx hb hg inX5 hown hK (hT.o7 (hT.k t_this (by decide))).one 0 rfl rfl 3 (by decide) (hg _ k382) (fun _ h9 => h9) rfl dX5_mean_7 ?_
  rw [er5]
  have hTo := hT
  refine tVl (n := 0) (As := []) (rest := []) hx hb hml hown hg hT hK hX (X1_weightSum l κ s2 r5  (hT.k tr5 (by decide)) ) sub_fE_fW (mwV k849 k850 k851 k87 k852) ⟨rfl, by decide, by decide, by decide +kernel⟩ ⟨(Nat.le_of_ble_eq_true rfl), (Nat.le_of_ble_eq_true rfl)⟩ (hT.o3 (hT.k tr5 (by decide))) rfl rfl hl.1 rfl (Nat.le_of_ble_eq_true rfl) dX5_mean_10 zroom.up (fun x6 s7 H locs hφ hEs7 hT => ?_)
  refine lv_lstore_n (lv' := [(2, .long x6), (0, .ref this), (1, .int x)]) hx hb dX5_mean_13 rfl hl (by decide) rfl (fun ls hl => ?_)
  refine lv_lload_n hx hb dX5_mean_14 rfl (lv_at hl 0 rfl) ?_
  refine lv_aload_n hx hb dX5_mean_15 rfl (lv_at hl 1 rfl) ?_
  refine va_get (D := κ.1) (ci := 5) (v := .ref (kR κ this 3)) (C := RX5) (T := TX5) (N := 10) hx hb hg inX5 hown hK (hT.o7 (hT.k t_this (by decide))).one 0 rfl rfl 3 (by decide) (hg _ k382) (fun _ h9 => h9) rfl dX5_mean_16 ?_
  rw [er5]
  obtain ⟨r8, er8⟩ : ∃ z, kR κ r5 6 = z := ⟨_, rfl⟩
  have tr8 : zk σ0 r8 1 := by rw [← er8]; exact hT0.ref tr5 (by decide) (by decide) (by decide)
  refine va_get (D := κ.1) (ci := 1) (v := .ref (kR κ r5 6)) (C := RX1) (T := TX1) (N := 13) hx hb hg inX1 hown hK (hT.o3 (hT.k tr5 (by decide))).one 0 rfl rfl 6 (by decide) (hg _ k290) (fun _ h9 => h9) rfl dX5_mean_19 ?_
  rw [er8]
  refine lv_lload_n hx hb dX5_mean_22 rfl (lv_at hl 0 rfl) ?_
  obtain ⟨h11, oh11, th11⟩ := hT.o1 (hT.k tr8 (by decide))
  have hTo := hT
  refine tVl (n := 1) (As := [.long x6]) (rest := [.long x6]) hx hb hml hown hg hT hK hX (X4_restOfAmount l κ s7 r8 x6  (hT.k tr8 (by decide)) ) sub_fE_fW (mwV k913 k914 k915 k88 k916) ⟨rfl, by decide, by decide, by decide +kernel⟩ ⟨(Nat.le_of_ble_eq_true rfl), (Nat.le_of_ble_eq_true rfl)⟩ oh11 rfl rfl hl.1 rfl (Nat.le_of_ble_eq_true rfl) dX5_mean_23 zroom.up (fun x9 s10 H locs hφ hEs10 hT => ?_)
  have hTo := hT
  refine tSl (n := 2) (As := [.long x6, .long x9]) (rest := []) hx hb hml hown hg hT hK hX (X5_commonDivisor l κ s10 x6 x9   ) sub_fE_fW (mwS k917 k918 k84 k919) ⟨rfl, by decide, by decide, by decide +kernel⟩ ⟨(Nat.le_of_ble_eq_true rfl), (Nat.le_of_ble_eq_true rfl)⟩ rfl hl.1 rfl (Nat.le_of_ble_eq_true rfl) dX5_mean_26 zroom.up (fun x12 s13 H locs hφ hEs13 hT => ?_)
  have f14 := hφ
  refine lv_lstore (lv' := [(4, .long x12), (2, .long x6), (0, .ref this), (1, .int x)]) hx hb dX5_mean_29 hl (by decide) rfl (fun ls hl => ?_)
  refine lv_iload_n hx hb dX5_mean_31 rfl (lv_at hl 3 rfl) ?_
  refine lv_if_ne (tgt := 50) hx hb dX5_mean_32 (by decide) (fun c9 => ?_) (fun c9 => ?_)
  · have c1 := gi_ne c9
    refine lv_lload_n hx hb dX5_mean_50 rfl (lv_at hl 1 rfl) ?_
    refine lv_lload hx hb dX5_mean_51 (lv_at hl 0 rfl) ?_
    refine lv_ldiv hx hb dX5_mean_53 (gl_nz (by omega)) ?_
    refine lv_topl (fun t15 ht15 => ?_)
    subst hQ9
    exact vx_ret (t_l hx hb hr hlocks hT trivial dX5_mean_54)
  · have c2 := gi_eq c9
    refine lv_aload_n hx hb dX5_mean_35 rfl (lv_at hl 2 rfl) ?_
    refine va_get (D := κ.1) (ci := 5) (v := .ref (kR κ this 3)) (C := RX5) (T := TX5) (N := 10) hx hb hg inX5 hown hK (hT.o7 (hT.k t_this (by decide))).one 0 rfl rfl 3 (by decide) (hg _ k382) (fun _ h9 => h9) rfl dX5_mean_36 ?_
    rw [er5]
    refine lv_lload hx hb dX5_mean_39 (lv_at hl 0 rfl) ?_
    have hTo := hT
    refine tVr (n := 1) (As := [.long x12]) (rest := []) hx hb hml hown hg hT hK hX (X1_integralBy l κ s13 r5 x12  (hT.k tr5 (by decide)) ) (fun _ _ h => h) (mwV k923 k924 k925 k87 k926) ⟨rfl, by decide, by decide, by decide +kernel⟩ ⟨(Nat.le_of_ble_eq_true rfl), (Nat.le_of_ble_eq_true rfl)⟩ (hT.o3 (hT.k tr5 (by decide))) rfl rfl hl.1 rfl (Nat.le_of_ble_eq_true rfl) dX5_mean_41 zroom.up (fun x16 s17 H locs hφ hEs17 hT => ?_)
    have f18 := hφ
    have tx16 : zk σ0 x16 1 := hTo.kr f18 (by decide) (by decide)
    obtain ⟨h21, oh21, th21⟩ := hT.o1 (hT.k tx16 (by decide))
    have hTo := hT
    refine tVl (n := 0) (As := []) (rest := []) hx hb hml hown hg hT hK hX (X4_toLong l κ s17 x16  (hT.k tx16 (by decide)) ) sub_fE_fW (mwV k435 k436 k437 k88 k438) ⟨rfl, by decide, by decide, by decide +kernel⟩ ⟨(Nat.le_of_ble_eq_true rfl), (Nat.le_of_ble_eq_true rfl)⟩ oh21 rfl rfl hl.1 rfl (Nat.le_of_ble_eq_true rfl) dX5_mean_44 zroom.up (fun x19 s20 H locs hφ hEs20 hT => ?_)
    refine lv_goto (tgt := 54) hx hb dX5_mean_47 (by decide) ?_
    subst hQ9
    exact vx_ret (t_l hx hb hr hlocks hT trivial dX5_mean_54)
set_option maxHeartbeats 4000000 in
set_option maxRecDepth 100000 in
theorem X5_energy (l : Launch) (κ : Kt) (σ0 : Gh) (this : Nat) (t_this : zk σ0 this 7) : TC l yX5_energy cX5_energy 1 (some .long) 4 91 [.ref this] κ σ0 (tql κ fE σ0 (fun (r : Int64) (τ : Gh) => True)) := by
  refine TC.of fE (by decide +kernel) (Nat.le_of_ble_eq_true rfl) ?_
  intro p e s m below meth c ls hcs hK hX hT hl
  obtain ⟨hx, hb, hr, hml, hown, hg, hlocks, hin⟩ := hcs
  have hown : s.vm.findClass RX5 = some m.cls := hown
  have hl : lv_has ls 1 [(0, .ref this)] := hl
  have hT0 := hT
  generalize hQ9 : tQ _ _ _ _ _ _ = Q9
  refine lv_aload_n hx hb dX5_energy_0 rfl (lv_at hl 0 rfl) ?_
  obtain ⟨r1, er1⟩ : ∃ z, kR κ this 3 = z := ⟨_, rfl⟩
  have tr1 : zk σ0 r1 3 := by rw [← er1]; exact hT0.ref t_this (by decide) (by decide) (by decide)
  refine va_get (D := κ.1) (ci := 5) (v := .ref (kR κ this 3)) (C := RX5) (T := TX5) (N := 10) hx hb hg inX5 hown hK (hT.o7 (hT.k t_this (by decide))).one 0 rfl rfl 3 (by decide) (hg _ k382) (fun _ h9 => h9) rfl dX5_energy_1 ?_
  rw [er1]
  have hTo := hT
  refine tVl (n := 0) (As := []) (rest := []) hx hb hml hown hg hT hK hX (X1_energyOfDetails l κ σ0 r1  (hT.k tr1 (by decide)) ) (fun _ _ h => h) (mwV k496 k497 k498 k87 k499) ⟨rfl, by decide, by decide, by decide +kernel⟩ ⟨(Nat.le_of_ble_eq_true rfl), (Nat.le_of_ble_eq_true rfl)⟩ (hT.o3 (hT.k tr1 (by decide))) rfl rfl hl.1 rfl (Nat.le_of_ble_eq_true rfl) dX5_energy_4 zroom.rf (fun x2 s3 H locs hφ hEs3 hT => ?_)
  subst hQ9
  exact t_l hx hb hr hlocks hT trivial dX5_energy_7
set_option maxHeartbeats 4000000 in
set_option maxRecDepth 100000 in
theorem X5_bits (l : Launch) (κ : Kt) (σ0 : Gh) (this : Nat) (t_this : zk σ0 this 7) : TC l yX5_bits cX5_bits 1 (some .int) 3 63 [.ref this] κ σ0 (tqi κ fE σ0 (fun (r : Int32) (τ : Gh) => True)) := by
  refine TC.of fE (by decide +kernel) (Nat.le_of_ble_eq_true rfl) ?_
  intro p e s m below meth c ls hcs hK hX hT hl
  obtain ⟨hx, hb, hr, hml, hown, hg, hlocks, hin⟩ := hcs
  have hown : s.vm.findClass RX5 = some m.cls := hown
  have hl : lv_has ls 1 [(0, .ref this)] := hl
  have hT0 := hT
  generalize hQ9 : tQ _ _ _ _ _ _ = Q9
  refine lv_aload_n hx hb dX5_bits_0 rfl (lv_at hl 0 rfl) ?_
  obtain ⟨r1, er1⟩ : ∃ z, kR κ this 3 = z := ⟨_, rfl⟩
  have tr1 : zk σ0 r1 3 := by rw [← er1]; exact hT0.ref t_this (by decide) (by decide) (by decide)
  refine va_get (D := κ.1) (ci := 5) (v := .ref (kR κ this 3)) (C := RX5) (T := TX5) (N := 10) hx hb hg inX5 hown hK (hT.o7 (hT.k t_this (by decide))).one 0 rfl rfl 3 (by decide) (hg _ k382) (fun _ h9 => h9) rfl dX5_bits_1 ?_
  rw [er1]
  have hTo := hT
  refine tVi (n := 0) (As := []) (rest := []) hx hb hml hown hg hT hK hX (X1_bitsOfDetails l κ σ0 r1  (hT.k tr1 (by decide)) ) (fun _ _ h => h) (mwV k505 k506 k507 k87 k508) ⟨rfl, by decide, by decide, by decide +kernel⟩ ⟨(Nat.le_of_ble_eq_true rfl), (Nat.le_of_ble_eq_true rfl)⟩ (hT.o3 (hT.k tr1 (by decide))) rfl rfl hl.1 rfl (Nat.le_of_ble_eq_true rfl) dX5_bits_4 zroom.rf (fun x2 s3 H locs hφ hEs3 hT => ?_)
  subst hQ9
  exact t_i hx hb hr hlocks hT trivial dX5_bits_7
set_option maxHeartbeats 4000000 in
set_option maxRecDepth 100000 in
theorem X5_largest (l : Launch) (κ : Kt) (σ0 : Gh) (this : Nat) (i : Int32) (t_this : zk σ0 this 7) (hlt : l.stackTraces = false) : TX l yX5_largest cX5_largest 2 (some .int) 7 111 [.ref this, .int i] κ σ0 (tqi κ fE σ0 (fun (r : Int32) (τ : Gh) => True)) (txq κ fE σ0 (fun (E : String) (τ : Gh) => E = "java/lang/IndexOutOfBoundsException")) := by
  refine TX.of fE (by decide +kernel) (Nat.le_of_ble_eq_true rfl) ?_
  intro p e s m below meth c ls hcs hout hK hX hT hl
  obtain ⟨hx, hb, hr, hml, hown, hg, hlocks, hin⟩ := hcs
  have hown : s.vm.findClass RX5 = some m.cls := hown
  have hl : lv_has ls 2 [(0, .ref this), (1, .int i)] := hl
  have hT0 := hT
  have i_lo := Int32.le_toInt i
  have i_hi := Int32.toInt_lt i
  generalize hQ9 : tQX _ _ _ _ _ _ _ = Q9
  refine lv_iload_n hx hb dX5_largest_0 rfl (lv_at hl 1 rfl) ?_
  refine lv_aload_n hx hb dX5_largest_1 rfl (lv_at hl 0 rfl) ?_
  obtain ⟨r1, er1⟩ : ∃ z, kR κ this 3 = z := ⟨_, rfl⟩
  have tr1 : zk σ0 r1 3 := by rw [← er1]; exact hT0.ref t_this (by decide) (by decide) (by decide)
  refine va_get (D := κ.1) (ci := 5) (v := .ref (kR κ this 3)) (C := RX5) (T := TX5) (N := 10) hx hb hg inX5 hown hK (hT.o7 (hT.k t_this (by decide))).one 0 rfl rfl 3 (by decide) (hg _ k382) (fun _ h9 => h9) rfl dX5_largest_2 ?_
  rw [er1]
  obtain ⟨v2, ev2⟩ : ∃ zz9 : Int32, zI σ0 r1 5 = zz9 := ⟨_, rfl⟩
  have qv2 : v2.toInt = (zI σ0 r1 5).toInt := by rw [ev2]
  have b3 := (hT.P (hT.k tr1 (by decide)) (by decide)).1
  rw [(hT.eI tr1 (by decide) rfl ev2)] at b3
  have b3l := b3.1
  have b3h := b3.2
  refine va_get (D := κ.1) (ci := 1) (v := .int (zI σ0 r1 5)) (C := RX1) (T := TX1) (N := 13) hx hb hg inX1 hown hK (hT.o3 (hT.k tr1 (by decide))).one 0 rfl rfl 5 (by decide) (hg _ k288) (fun _ h9 => h9) rfl dX5_largest_5 ?_
  rw [(hT.eI tr1 (by decide) rfl ev2)]
  have hTo := hT
  refine xtSv (n := 2) (As := [.int i, .int v2]) (rest := []) hx hb hml hown hg hT hK hX (X5_needIndex l κ σ0 i v2    hlt) (fun _ _ h => h) (mwS k610 k611 k84 k612) ⟨rfl, by decide, by decide, by decide +kernel⟩ ⟨(Nat.le_of_ble_eq_true rfl), (Nat.le_of_ble_eq_true rfl)⟩ rfl hl.1 rfl (Nat.le_of_ble_eq_true rfl) dX5_largest_8 zroomX.rf (fun E9 ce9 q9 τ9 H9 locs9 hp9 hE9 hT9 hce9 hcv9 hcl9 => by subst hQ9; exact tx_out hT9 hp9.1 hout hlocks hce9 hcv9 hcl9) (fun s5 H locs hφ hEs5 hT => ?_)
  obtain ⟨f6, f7⟩ := hφ
  refine lv_aload_n hx hb dX5_largest_11 rfl (lv_at hl 0 rfl) ?_
  refine va_get (D := κ.1) (ci := 5) (v := .ref (kR κ this 3)) (C := RX5) (T := TX5) (N := 10) hx hb hg inX5 hown hK (hT.o7 (hT.k t_this (by decide))).one 0 rfl rfl 3 (by decide) (hg _ k382) (fun _ h9 => h9) rfl dX5_largest_12 ?_
  rw [er1]
  refine lv_iload_n hx hb dX5_largest_15 rfl (lv_at hl 1 rfl) ?_
  have hTo := hT
  refine tVi (n := 1) (As := [.int i]) (rest := []) hx hb hml hown hg hT hK hX (X1_stepOfRank l κ s5 r1 i  (hT.k tr1 (by decide)) ) (fun _ _ h => h) (mwV k934 k935 k936 k87 k937) ⟨rfl, by decide, by decide, by decide +kernel⟩ ⟨(Nat.le_of_ble_eq_true rfl), (Nat.le_of_ble_eq_true rfl)⟩ (hT.o3 (hT.k tr1 (by decide))) rfl rfl hl.1 rfl (Nat.le_of_ble_eq_true rfl) dX5_largest_16 zroom.up (fun x8 s9 H locs hφ hEs9 hT => ?_)
  obtain ⟨f10, f11⟩ := hφ
  subst hQ9
  exact vx_ret (t_i hx hb hr hlocks hT trivial dX5_largest_19)
set_option maxHeartbeats 4000000 in
set_option maxRecDepth 100000 in
theorem X5_next (l : Launch) (κ : Kt) (σ0 : Gh) (this : Nat) (t_this : zk σ0 this 7) (hlt : l.stackTraces = false) : TX l yX5_next cX5_next 2 (some .int) 6 164 [.ref this] κ σ0 (tqi κ fW σ0 (fun (r : Int32) (τ : Gh) => True)) (txq κ fW σ0 (fun (E : String) (τ : Gh) => E = "java/util/NoSuchElementException")) := by
  refine TX.of fW (by decide +kernel) (Nat.le_of_ble_eq_true rfl) ?_
  intro p e s m below meth c ls hcs hout hK hX hT hl
  obtain ⟨hx, hb, hr, hml, hown, hg, hlocks, hin⟩ := hcs
  have hown : s.vm.findClass RX5 = some m.cls := hown
  have hl : lv_has ls 2 [(0, .ref this)] := hl
  have hT0 := hT
  have nm1 : ((-1) : Int32).toInt = (-1) := by decide
  generalize hQ9 : tQX _ _ _ _ _ _ _ = Q9
  refine lv_aload_n hx hb dX5_next_0 rfl (lv_at hl 0 rfl) ?_
  obtain ⟨r1, er1⟩ : ∃ z, kR κ this 3 = z := ⟨_, rfl⟩
  have tr1 : zk σ0 r1 3 := by rw [← er1]; exact hT0.ref t_this (by decide) (by decide) (by decide)
  refine va_get (D := κ.1) (ci := 5) (v := .ref (kR κ this 3)) (C := RX5) (T := TX5) (N := 10) hx hb hg inX5 hown hK (hT.o7 (hT.k t_this (by decide))).one 0 rfl rfl 3 (by decide) (hg _ k382) (fun _ h9 => h9) rfl dX5_next_1 ?_
  rw [er1]
  have hTo := hT
  refine tVi (n := 0) (As := []) (rest := []) hx hb hml hown hg hT hK hX (X1_chosenSample l κ σ0 r1  (hT.k tr1 (by decide)) ) (fun _ _ h => h) (mwV k950 k531 k532 k87 k533) ⟨rfl, by decide, by decide, by decide +kernel⟩ ⟨(Nat.le_of_ble_eq_true rfl), (Nat.le_of_ble_eq_true rfl)⟩ (hT.o3 (hT.k tr1 (by decide))) rfl rfl hl.1 rfl (Nat.le_of_ble_eq_true rfl) dX5_next_4 zroom.up (fun x2 s3 H locs hφ hEs3 hT => ?_)
  obtain ⟨f4, f5⟩ := hφ
  refine lv_istore_n (lv' := [(1, .int x2), (0, .ref this)]) hx hb dX5_next_7 rfl hl (by decide) rfl (fun ls hl => ?_)
  refine lv_iload_n hx hb dX5_next_8 rfl (lv_at hl 0 rfl) ?_
  refine lv_iconst (v := (-1)) hx hb dX5_next_9 (by decide) ?_
  refine lv_icmp_ne (tgt := 23) hx hb dX5_next_10 (by decide) (fun c9 => ?_) (fun c9 => ?_)
  · have c1 := gi_ne c9
    refine lv_iload_n hx hb dX5_next_23 rfl (lv_at hl 0 rfl) ?_
    subst hQ9
    exact vx_ret (t_i hx hb hr hlocks hT trivial dX5_next_24)
  · have c2 := gi_eq c9
    obtain ⟨sa, hsa⟩ := XX_sRX5_249 hX.1
    subst hQ9
    exact tth_NSEE hx hb hlt hown (hg _ k951) (hg _ k103) hsa hg hX.1 hT (hl.1.trans hml.symm) dX5_next_13 dX5_next_16 dX5_next_17 dX5_next_19 dX5_next_22 hout (Nat.le_of_ble_eq_true rfl) (Nat.le_of_ble_eq_true rfl) zroomX.rf hlocks rfl

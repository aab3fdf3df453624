/-! LiftingSignal over any state: what changes it -/
theorem sub_fBe_fCp : ∀ t k, fCp t k = false → fBe t k = false := by
  intro t k h
  simp [fBe, fCp] at h ⊢ <;> omega
theorem sub_fBe_fLd : ∀ t k, fLd t k = false → fBe t k = false := by
  intro t k h
  simp [fBe, fLd] at h ⊢ <;> omega
theorem sub_fBe_fLr : ∀ t k, fLr t k = false → fBe t k = false := by
  intro t k h
  simp [fBe, fLr] at h ⊢ <;> omega
theorem sub_fCp_fSv : ∀ t k, fSv t k = false → fCp t k = false := by
  intro t k h
  simp [fCp, fSv] at h ⊢ <;> omega
theorem sub_fE_fCp : ∀ t k, fCp t k = false → fE t k = false := by
  intro t k h
  simp [fE, fCp] at h ⊢ <;> omega
theorem sub_fE_fLr : ∀ t k, fLr t k = false → fE t k = false := by
  intro t k h
  simp [fE, fLr] at h ⊢ <;> omega
theorem sub_fE_fSet : ∀ t k, fSet t k = false → fE t k = false := by
  intro t k h
  simp [fE, fSet] at h ⊢ <;> omega
theorem sub_fE_fSv : ∀ t k, fSv t k = false → fE t k = false := by
  intro t k h
  simp [fE, fSv] at h ⊢ <;> omega
theorem sub_fE_fWr : ∀ t k, fWr t k = false → fE t k = false := by
  intro t k h
  simp [fE, fWr] at h ⊢ <;> omega
theorem sub_fLi_fCp : ∀ t k, fCp t k = false → fLi t k = false := by
  intro t k h
  simp [fLi, fCp] at h ⊢ <;> omega
theorem sub_fLi_fLr : ∀ t k, fLr t k = false → fLi t k = false := by
  intro t k h
  simp [fLi, fLr] at h ⊢ <;> omega
theorem sub_fRd_fLd : ∀ t k, fLd t k = false → fRd t k = false := by
  intro t k h
  simp [fRd, fLd] at h ⊢ <;> omega
theorem sub_fRf_fLr : ∀ t k, fLr t k = false → fRf t k = false := by
  intro t k h
  simp [fRf, fLr] at h ⊢ <;> omega
theorem sub_fRf_fWr : ∀ t k, fWr t k = false → fRf t k = false := by
  intro t k h
  simp [fRf, fWr] at h ⊢ <;> omega
theorem sub_fSet_fLd : ∀ t k, fLd t k = false → fSet t k = false := by
  intro t k h
  simp [fSet, fLd] at h ⊢ <;> omega
theorem sub_fSrc_fLd : ∀ t k, fLd t k = false → fSrc t k = false := by
  intro t k h
  simp [fSrc, fLd] at h ⊢ <;> omega
theorem sub_fW_fWr : ∀ t k, fWr t k = false → fW t k = false := by
  intro t k h
  simp [fW, fWr] at h ⊢ <;> omega
theorem k8 : Cond.selects RX5 yX5_beginTrial yX5_beginTrial ∈ GW := gm 8 (by decide +kernel) (by decide +kernel)
theorem k30 : Cond.selects RX5 yX5_refuse yX5_refuse ∈ GW := gm 30 (by decide +kernel) (by decide +kernel)
theorem k33 : Cond.selects RX5 yX5_errorOfCut yX5_errorOfCut ∈ GW := gm 33 (by decide +kernel) (by decide +kernel)
theorem k332 : Cond.methodLink RX5 60 yX1_begin ∈ GW := gm 332 (by decide +kernel) (by decide +kernel)
theorem k333 : Cond.instanceMethod yX1_begin ∈ GW := gm 333 (by decide +kernel) (by decide +kernel)
theorem k334 : Cond.selects RX1 yX1_begin yX1_begin ∈ GW := gm 334 (by decide +kernel) (by decide +kernel)
theorem k335 : Cond.code yX1_begin cX1_begin 2 none ∈ GW := gm 335 (by decide +kernel) (by decide +kernel)
theorem k375 : Cond.methodLink RX5 63 yX1_takeSettings ∈ GW := gm 375 (by decide +kernel) (by decide +kernel)
theorem k376 : Cond.instanceMethod yX1_takeSettings ∈ GW := gm 376 (by decide +kernel) (by decide +kernel)
theorem k377 : Cond.selects RX1 yX1_takeSettings yX1_takeSettings ∈ GW := gm 377 (by decide +kernel) (by decide +kernel)
theorem k378 : Cond.code yX1_takeSettings cX1_takeSettings 1 none ∈ GW := gm 378 (by decide +kernel) (by decide +kernel)
theorem k381 : Cond.fieldLink RX5 23 "LiftingSignal" "draft" "LLiftingSignal$Source;" ∈ GW := gm 381 (by decide +kernel) (by decide +kernel)
theorem k383 : Cond.fieldLink RX5 35 "LiftingSignal" "trial" "LLiftingSignal$State;" ∈ GW := gm 383 (by decide +kernel) (by decide +kernel)
theorem k384 : Cond.fieldLink RX5 38 "LiftingSignal" "slots" "[LLiftingSignal$State;" ∈ GW := gm 384 (by decide +kernel) (by decide +kernel)
theorem k385 : Cond.fieldLink RX5 42 "LiftingSignal" "isSaved" "[Z" ∈ GW := gm 385 (by decide +kernel) (by decide +kernel)
theorem k467 : Cond.methodLink RX5 228 yX1_valueSum ∈ GW := gm 467 (by decide +kernel) (by decide +kernel)
theorem k468 : Cond.instanceMethod yX1_valueSum ∈ GW := gm 468 (by decide +kernel) (by decide +kernel)
theorem k469 : Cond.selects RX1 yX1_valueSum yX1_valueSum ∈ GW := gm 469 (by decide +kernel) (by decide +kernel)
theorem k470 : Cond.code yX1_valueSum cX1_valueSum 2 (some (.object "LiftingSignal$Whole")) ∈ GW := gm 470 (by decide +kernel) (by decide +kernel)
theorem k522 : Cond.methodLink RX5 314 yX5_beginTrial ∈ GW := gm 522 (by decide +kernel) (by decide +kernel)
theorem k524 : Cond.instanceMethod yX5_beginTrial ∈ GW := gm 524 (by decide +kernel) (by decide +kernel)
theorem k525 : Cond.code yX5_beginTrial cX5_beginTrial 3 none ∈ GW := gm 525 (by decide +kernel) (by decide +kernel)
theorem k526 : Cond.methodLink RX5 261 yX1_liftChosen ∈ GW := gm 526 (by decide +kernel) (by decide +kernel)
theorem k527 : Cond.instanceMethod yX1_liftChosen ∈ GW := gm 527 (by decide +kernel) (by decide +kernel)
theorem k528 : Cond.selects RX1 yX1_liftChosen yX1_liftChosen ∈ GW := gm 528 (by decide +kernel) (by decide +kernel)
theorem k529 : Cond.code yX1_liftChosen cX1_liftChosen 4 (some .int) ∈ GW := gm 529 (by decide +kernel) (by decide +kernel)
theorem k689 : Cond.methodLink RX5 80 yX3_readInto ∈ GW := gm 689 (by decide +kernel) (by decide +kernel)
theorem k690 : Cond.instanceMethod yX3_readInto ∈ GW := gm 690 (by decide +kernel) (by decide +kernel)
theorem k691 : Cond.selects RX3 yX3_readInto yX3_readInto ∈ GW := gm 691 (by decide +kernel) (by decide +kernel)
theorem k692 : Cond.code yX3_readInto cX3_readInto 2 (some .boolean) ∈ GW := gm 692 (by decide +kernel) (by decide +kernel)
theorem k829 : Cond.methodLink RX5 91 yX0_copyFrom ∈ GW := gm 829 (by decide +kernel) (by decide +kernel)
theorem k830 : Cond.instanceMethod yX0_copyFrom ∈ GW := gm 830 (by decide +kernel) (by decide +kernel)
theorem k831 : Cond.selects RX0 yX0_copyFrom yX0_copyFrom ∈ GW := gm 831 (by decide +kernel) (by decide +kernel)
theorem k832 : Cond.code yX0_copyFrom cX0_copyFrom 2 none ∈ GW := gm 832 (by decide +kernel) (by decide +kernel)
theorem k989 : Cond.methodLink RX5 252 yX5_refuse ∈ GW := gm 989 (by decide +kernel) (by decide +kernel)
theorem k991 : Cond.instanceMethod yX5_refuse ∈ GW := gm 991 (by decide +kernel) (by decide +kernel)
theorem k992 : Cond.code yX5_refuse cX5_refuse 4 none ∈ GW := gm 992 (by decide +kernel) (by decide +kernel)
theorem k1009 : Cond.methodLink RX5 255 yX1_changeValue ∈ GW := gm 1009 (by decide +kernel) (by decide +kernel)
theorem k1010 : Cond.instanceMethod yX1_changeValue ∈ GW := gm 1010 (by decide +kernel) (by decide +kernel)
theorem k1011 : Cond.selects RX1 yX1_changeValue yX1_changeValue ∈ GW := gm 1011 (by decide +kernel) (by decide +kernel)
theorem k1012 : Cond.code yX1_changeValue cX1_changeValue 3 none ∈ GW := gm 1012 (by decide +kernel) (by decide +kernel)
theorem k1020 : Cond.methodLink RX5 258 yX1_addNoise ∈ GW := gm 1020 (by decide +kernel) (by decide +kernel)
theorem k1021 : Cond.instanceMethod yX1_addNoise ∈ GW := gm 1021 (by decide +kernel) (by decide +kernel)
theorem k1022 : Cond.selects RX1 yX1_addNoise yX1_addNoise ∈ GW := gm 1022 (by decide +kernel) (by decide +kernel)
theorem k1023 : Cond.code yX1_addNoise cX1_addNoise 7 none ∈ GW := gm 1023 (by decide +kernel) (by decide +kernel)
theorem k1039 : Cond.methodLink RX5 264 yX1_liftSample ∈ GW := gm 1039 (by decide +kernel) (by decide +kernel)
theorem k1047 : Cond.methodLink RX5 268 yX1_invertLatest ∈ GW := gm 1047 (by decide +kernel) (by decide +kernel)
theorem k1048 : Cond.instanceMethod yX1_invertLatest ∈ GW := gm 1048 (by decide +kernel) (by decide +kernel)
theorem k1049 : Cond.selects RX1 yX1_invertLatest yX1_invertLatest ∈ GW := gm 1049 (by decide +kernel) (by decide +kernel)
theorem k1050 : Cond.code yX1_invertLatest cX1_invertLatest 3 (some .int) ∈ GW := gm 1050 (by decide +kernel) (by decide +kernel)
theorem k1062 : Cond.constant RX5 271 (-99999) ∈ GW := gm 1062 (by decide +kernel) (by decide +kernel)
theorem k1063 : Cond.constant RX5 272 99999 ∈ GW := gm 1063 (by decide +kernel) (by decide +kernel)
theorem k1064 : Cond.methodLink RX5 273 yX4_become ∈ GW := gm 1064 (by decide +kernel) (by decide +kernel)
theorem k1072 : Cond.methodLink RX5 277 yX1_cutDetails ∈ GW := gm 1072 (by decide +kernel) (by decide +kernel)
theorem k1073 : Cond.instanceMethod yX1_cutDetails ∈ GW := gm 1073 (by decide +kernel) (by decide +kernel)
theorem k1074 : Cond.selects RX1 yX1_cutDetails yX1_cutDetails ∈ GW := gm 1074 (by decide +kernel) (by decide +kernel)
theorem k1075 : Cond.code yX1_cutDetails cX1_cutDetails 5 none ∈ GW := gm 1075 (by decide +kernel) (by decide +kernel)
theorem k1091 : Cond.methodLink RX5 281 yX1_quantizeDetails ∈ GW := gm 1091 (by decide +kernel) (by decide +kernel)
theorem k1092 : Cond.instanceMethod yX1_quantizeDetails ∈ GW := gm 1092 (by decide +kernel) (by decide +kernel)
theorem k1093 : Cond.selects RX1 yX1_quantizeDetails yX1_quantizeDetails ∈ GW := gm 1093 (by decide +kernel) (by decide +kernel)
theorem k1094 : Cond.code yX1_quantizeDetails cX1_quantizeDetails 10 (some .long) ∈ GW := gm 1094 (by decide +kernel) (by decide +kernel)
theorem k1107 : Cond.methodLink RX5 284 yX1_dropFromRank ∈ GW := gm 1107 (by decide +kernel) (by decide +kernel)
theorem k1108 : Cond.instanceMethod yX1_dropFromRank ∈ GW := gm 1108 (by decide +kernel) (by decide +kernel)
theorem k1109 : Cond.selects RX1 yX1_dropFromRank yX1_dropFromRank ∈ GW := gm 1109 (by decide +kernel) (by decide +kernel)
theorem k1110 : Cond.code yX1_dropFromRank cX1_dropFromRank 6 (some (.object "LiftingSignal$Whole")) ∈ GW := gm 1110 (by decide +kernel) (by decide +kernel)
theorem k1123 : Cond.methodLink RX5 287 yX1_copyFrom ∈ GW := gm 1123 (by decide +kernel) (by decide +kernel)
theorem k1124 : Cond.instanceMethod yX1_copyFrom ∈ GW := gm 1124 (by decide +kernel) (by decide +kernel)
theorem k1125 : Cond.selects RX1 yX1_copyFrom yX1_copyFrom ∈ GW := gm 1125 (by decide +kernel) (by decide +kernel)
theorem k1126 : Cond.code yX1_copyFrom cX1_copyFrom 3 none ∈ GW := gm 1126 (by decide +kernel) (by decide +kernel)
theorem k1133 : Cond.methodLink RX5 290 yX1_greatestDifference ∈ GW := gm 1133 (by decide +kernel) (by decide +kernel)
theorem k1134 : Cond.instanceMethod yX1_greatestDifference ∈ GW := gm 1134 (by decide +kernel) (by decide +kernel)
theorem k1135 : Cond.selects RX1 yX1_greatestDifference yX1_greatestDifference ∈ GW := gm 1135 (by decide +kernel) (by decide +kernel)
theorem k1136 : Cond.code yX1_greatestDifference cX1_greatestDifference 2 (some (.object "LiftingSignal$Whole")) ∈ GW := gm 1136 (by decide +kernel) (by decide +kernel)
theorem k1141 : Cond.methodLink RX5 293 yX1_differenceSum ∈ GW := gm 1141 (by decide +kernel) (by decide +kernel)
theorem k1142 : Cond.instanceMethod yX1_differenceSum ∈ GW := gm 1142 (by decide +kernel) (by decide +kernel)
theorem k1143 : Cond.selects RX1 yX1_differenceSum yX1_differenceSum ∈ GW := gm 1143 (by decide +kernel) (by decide +kernel)
theorem k1144 : Cond.code yX1_differenceSum cX1_differenceSum 2 (some (.object "LiftingSignal$Whole")) ∈ GW := gm 1144 (by decide +kernel) (by decide +kernel)
theorem k1145 : Cond.methodLink RX5 296 yX1_differenceCount ∈ GW := gm 1145 (by decide +kernel) (by decide +kernel)
theorem k1146 : Cond.instanceMethod yX1_differenceCount ∈ GW := gm 1146 (by decide +kernel) (by decide +kernel)
theorem k1147 : Cond.selects RX1 yX1_differenceCount yX1_differenceCount ∈ GW := gm 1147 (by decide +kernel) (by decide +kernel)
theorem k1148 : Cond.code yX1_differenceCount cX1_differenceCount 3 (some .int) ∈ GW := gm 1148 (by decide +kernel) (by decide +kernel)
theorem k1156 : Cond.methodLink RX5 299 yX5_errorOfCut ∈ GW := gm 1156 (by decide +kernel) (by decide +kernel)
theorem k1158 : Cond.instanceMethod yX5_errorOfCut ∈ GW := gm 1158 (by decide +kernel) (by decide +kernel)
theorem k1159 : Cond.code yX5_errorOfCut cX5_errorOfCut 3 (some (.object "LiftingSignal$Whole")) ∈ GW := gm 1159 (by decide +kernel) (by decide +kernel)
theorem k1167 : Cond.constantLong RX5 303 1000 ∈ GW := gm 1167 (by decide +kernel) (by decide +kernel)
theorem k1168 : Cond.methodLink RX5 305 yX4_isAmountBelow ∈ GW := gm 1168 (by decide +kernel) (by decide +kernel)
theorem k1169 : Cond.methodLink RX5 309 yX1_greatestAmountBelow ∈ GW := gm 1169 (by decide +kernel) (by decide +kernel)
theorem k1170 : Cond.instanceMethod yX1_greatestAmountBelow ∈ GW := gm 1170 (by decide +kernel) (by decide +kernel)
theorem k1171 : Cond.selects RX1 yX1_greatestAmountBelow yX1_greatestAmountBelow ∈ GW := gm 1171 (by decide +kernel) (by decide +kernel)
theorem k1172 : Cond.code yX1_greatestAmountBelow cX1_greatestAmountBelow 6 (some .long) ∈ GW := gm 1172 (by decide +kernel) (by decide +kernel)
theorem dX5_beginTrial_0 : decode cX5_beginTrial 0 = .ok (.aload_n 0, 1) := by decide +kernel
theorem dX5_beginTrial_1 : decode cX5_beginTrial 1 = .ok (.getfield 35, 3) := by decide +kernel
theorem dX5_beginTrial_4 : decode cX5_beginTrial 4 = .ok (.invokevirtual 60, 3) := by decide +kernel
theorem dX5_beginTrial_7 : decode cX5_beginTrial 7 = .ok (.aload_n 0, 1) := by decide +kernel
theorem dX5_beginTrial_8 : decode cX5_beginTrial 8 = .ok (.getfield 35, 3) := by decide +kernel
theorem dX5_beginTrial_11 : decode cX5_beginTrial 11 = .ok (.iload_n 1, 1) := by decide +kernel
theorem dX5_beginTrial_12 : decode cX5_beginTrial 12 = .ok (.putfield 113, 3) := by decide +kernel
theorem dX5_beginTrial_15 : decode cX5_beginTrial 15 = .ok (.aload_n 0, 1) := by decide +kernel
theorem dX5_beginTrial_16 : decode cX5_beginTrial 16 = .ok (.getfield 35, 3) := by decide +kernel
theorem dX5_beginTrial_19 : decode cX5_beginTrial 19 = .ok (.iload_n 2, 1) := by decide +kernel
theorem dX5_beginTrial_20 : decode cX5_beginTrial 20 = .ok (.putfield 116, 3) := by decide +kernel
theorem dX5_beginTrial_23 : decode cX5_beginTrial 23 = .ok (.aload_n 0, 1) := by decide +kernel
theorem dX5_beginTrial_24 : decode cX5_beginTrial 24 = .ok (.getfield 35, 3) := by decide +kernel
theorem dX5_beginTrial_27 : decode cX5_beginTrial 27 = .ok (.aload_n 0, 1) := by decide +kernel
theorem dX5_beginTrial_28 : decode cX5_beginTrial 28 = .ok (.getfield 31, 3) := by decide +kernel
theorem dX5_beginTrial_31 : decode cX5_beginTrial 31 = .ok (.getfield 119, 3) := by decide +kernel
theorem dX5_beginTrial_34 : decode cX5_beginTrial 34 = .ok (.putfield 119, 3) := by decide +kernel
theorem dX5_beginTrial_37 : decode cX5_beginTrial 37 = .ok (.return_, 1) := by decide +kernel
theorem dX5_bestScheme_0 : decode cX5_bestScheme 0 = .ok (.iconst 0, 1) := by decide +kernel
theorem dX5_bestScheme_1 : decode cX5_bestScheme 1 = .ok (.istore_n 1, 1) := by decide +kernel
theorem dX5_bestScheme_2 : decode cX5_bestScheme 2 = .ok (.iconst 0, 1) := by decide +kernel
theorem dX5_bestScheme_3 : decode cX5_bestScheme 3 = .ok (.istore_n 2, 1) := by decide +kernel
theorem dX5_bestScheme_4 : decode cX5_bestScheme 4 = .ok (.iconst 0, 1) := by decide +kernel
theorem dX5_bestScheme_5 : decode cX5_bestScheme 5 = .ok (.istore_n 3, 1) := by decide +kernel
theorem dX5_bestScheme_6 : decode cX5_bestScheme 6 = .ok (.iload_n 3, 1) := by decide +kernel
theorem dX5_bestScheme_7 : decode cX5_bestScheme 7 = .ok (.bipush 9, 2) := by decide +kernel
theorem dX5_bestScheme_9 : decode cX5_bestScheme 9 = .ok (.if_icmp .ge 53, 3) := by decide +kernel
theorem dX5_bestScheme_12 : decode cX5_bestScheme 12 = .ok (.aload_n 0, 1) := by decide +kernel
theorem dX5_bestScheme_13 : decode cX5_bestScheme 13 = .ok (.iload_n 3, 1) := by decide +kernel
theorem dX5_bestScheme_14 : decode cX5_bestScheme 14 = .ok (.iconst 3, 1) := by decide +kernel
theorem dX5_bestScheme_15 : decode cX5_bestScheme 15 = .ok (.idiv, 1) := by decide +kernel
theorem dX5_bestScheme_16 : decode cX5_bestScheme 16 = .ok (.iload_n 3, 1) := by decide +kernel
theorem dX5_bestScheme_17 : decode cX5_bestScheme 17 = .ok (.iconst 3, 1) := by decide +kernel
theorem dX5_bestScheme_18 : decode cX5_bestScheme 18 = .ok (.irem, 1) := by decide +kernel
theorem dX5_bestScheme_19 : decode cX5_bestScheme 19 = .ok (.invokevirtual 314, 3) := by decide +kernel
theorem dX5_bestScheme_22 : decode cX5_bestScheme 22 = .ok (.aload_n 0, 1) := by decide +kernel
theorem dX5_bestScheme_23 : decode cX5_bestScheme 23 = .ok (.getfield 35, 3) := by decide +kernel
theorem dX5_bestScheme_26 : decode cX5_bestScheme 26 = .ok (.bipush 46, 2) := by decide +kernel
theorem dX5_bestScheme_28 : decode cX5_bestScheme 28 = .ok (.invokevirtual 261, 3) := by decide +kernel
theorem dX5_bestScheme_31 : decode cX5_bestScheme 31 = .ok (.pop, 1) := by decide +kernel
theorem dX5_bestScheme_32 : decode cX5_bestScheme 32 = .ok (.aload_n 0, 1) := by decide +kernel
theorem dX5_bestScheme_33 : decode cX5_bestScheme 33 = .ok (.getfield 35, 3) := by decide +kernel
theorem dX5_bestScheme_36 : decode cX5_bestScheme 36 = .ok (.invokevirtual 238, 3) := by decide +kernel
theorem dX5_bestScheme_39 : decode cX5_bestScheme 39 = .ok (.istore 4, 2) := by decide +kernel
theorem dX5_bestScheme_41 : decode cX5_bestScheme 41 = .ok (.iload_n 3, 1) := by decide +kernel
theorem dX5_bestScheme_42 : decode cX5_bestScheme 42 = .ok (.ifCond .eq 9, 3) := by decide +kernel
theorem dX5_bestScheme_45 : decode cX5_bestScheme 45 = .ok (.iload 4, 2) := by decide +kernel
theorem dX5_bestScheme_47 : decode cX5_bestScheme 47 = .ok (.iload_n 2, 1) := by decide +kernel
theorem dX5_bestScheme_48 : decode cX5_bestScheme 48 = .ok (.if_icmp .ge 8, 3) := by decide +kernel
theorem dX5_bestScheme_51 : decode cX5_bestScheme 51 = .ok (.iload_n 3, 1) := by decide +kernel
theorem dX5_bestScheme_52 : decode cX5_bestScheme 52 = .ok (.istore_n 1, 1) := by decide +kernel
theorem dX5_bestScheme_53 : decode cX5_bestScheme 53 = .ok (.iload 4, 2) := by decide +kernel
theorem dX5_bestScheme_55 : decode cX5_bestScheme 55 = .ok (.istore_n 2, 1) := by decide +kernel
theorem dX5_bestScheme_56 : decode cX5_bestScheme 56 = .ok (.iinc 3 1, 3) := by decide +kernel
theorem dX5_bestScheme_59 : decode cX5_bestScheme 59 = .ok (.goto (-53), 3) := by decide +kernel
theorem dX5_bestScheme_62 : decode cX5_bestScheme 62 = .ok (.iload_n 1, 1) := by decide +kernel
theorem dX5_bestScheme_63 : decode cX5_bestScheme 63 = .ok (.ireturn, 1) := by decide +kernel
theorem dX5_bestThreshold_0 : decode cX5_bestThreshold 0 = .ok (.iload_n 1, 1) := by decide +kernel
theorem dX5_bestThreshold_1 : decode cX5_bestThreshold 1 = .ok (.iconst 0, 1) := by decide +kernel
theorem dX5_bestThreshold_2 : decode cX5_bestThreshold 2 = .ok (.ldc_w 272, 3) := by decide +kernel
theorem dX5_bestThreshold_5 : decode cX5_bestThreshold 5 = .ok (.invokestatic 212, 3) := by decide +kernel
theorem dX5_bestThreshold_8 : decode cX5_bestThreshold 8 = .ok (.ldc2_w 303, 3) := by decide +kernel
theorem dX5_bestThreshold_11 : decode cX5_bestThreshold 11 = .ok (.lstore_n 2, 1) := by decide +kernel
theorem dX5_bestThreshold_12 : decode cX5_bestThreshold 12 = .ok (.iconst 0, 1) := by decide +kernel
theorem dX5_bestThreshold_13 : decode cX5_bestThreshold 13 = .ok (.istore 4, 2) := by decide +kernel
theorem dX5_bestThreshold_15 : decode cX5_bestThreshold 15 = .ok (.iload 4, 2) := by decide +kernel
theorem dX5_bestThreshold_17 : decode cX5_bestThreshold 17 = .ok (.bipush 46, 2) := by decide +kernel
theorem dX5_bestThreshold_19 : decode cX5_bestThreshold 19 = .ok (.if_icmp .gt 44, 3) := by decide +kernel
theorem dX5_bestThreshold_22 : decode cX5_bestThreshold 22 = .ok (.lload_n 2, 1) := by decide +kernel
theorem dX5_bestThreshold_23 : decode cX5_bestThreshold 23 = .ok (.lconst 0, 1) := by decide +kernel
theorem dX5_bestThreshold_24 : decode cX5_bestThreshold 24 = .ok (.lcmp, 1) := by decide +kernel
theorem dX5_bestThreshold_25 : decode cX5_bestThreshold 25 = .ok (.ifCond .lt 38, 3) := by decide +kernel
theorem dX5_bestThreshold_28 : decode cX5_bestThreshold 28 = .ok (.aload_n 0, 1) := by decide +kernel
theorem dX5_bestThreshold_29 : decode cX5_bestThreshold 29 = .ok (.lload_n 2, 1) := by decide +kernel
theorem dX5_bestThreshold_30 : decode cX5_bestThreshold 30 = .ok (.l2i, 1) := by decide +kernel
theorem dX5_bestThreshold_31 : decode cX5_bestThreshold 31 = .ok (.iconst 0, 1) := by decide +kernel
theorem dX5_bestThreshold_32 : decode cX5_bestThreshold 32 = .ok (.invokevirtual 299, 3) := by decide +kernel
theorem dX5_bestThreshold_35 : decode cX5_bestThreshold 35 = .ok (.iload_n 1, 1) := by decide +kernel
theorem dX5_bestThreshold_36 : decode cX5_bestThreshold 36 = .ok (.i2l, 1) := by decide +kernel
theorem dX5_bestThreshold_37 : decode cX5_bestThreshold 37 = .ok (.lconst 1, 1) := by decide +kernel
theorem dX5_bestThreshold_38 : decode cX5_bestThreshold 38 = .ok (.ladd, 1) := by decide +kernel
theorem dX5_bestThreshold_39 : decode cX5_bestThreshold 39 = .ok (.invokevirtual 305, 3) := by decide +kernel
theorem dX5_bestThreshold_42 : decode cX5_bestThreshold 42 = .ok (.ifCond .eq 6, 3) := by decide +kernel
theorem dX5_bestThreshold_45 : decode cX5_bestThreshold 45 = .ok (.lload_n 2, 1) := by decide +kernel
theorem dX5_bestThreshold_46 : decode cX5_bestThreshold 46 = .ok (.l2i, 1) := by decide +kernel
theorem dX5_bestThreshold_47 : decode cX5_bestThreshold 47 = .ok (.ireturn, 1) := by decide +kernel
theorem dX5_bestThreshold_48 : decode cX5_bestThreshold 48 = .ok (.aload_n 0, 1) := by decide +kernel
theorem dX5_bestThreshold_49 : decode cX5_bestThreshold 49 = .ok (.getfield 31, 3) := by decide +kernel
theorem dX5_bestThreshold_52 : decode cX5_bestThreshold 52 = .ok (.lload_n 2, 1) := by decide +kernel
theorem dX5_bestThreshold_53 : decode cX5_bestThreshold 53 = .ok (.invokevirtual 309, 3) := by decide +kernel
theorem dX5_bestThreshold_56 : decode cX5_bestThreshold 56 = .ok (.lstore_n 2, 1) := by decide +kernel
theorem dX5_bestThreshold_57 : decode cX5_bestThreshold 57 = .ok (.iinc 4 1, 3) := by decide +kernel
theorem dX5_bestThreshold_60 : decode cX5_bestThreshold 60 = .ok (.goto (-45), 3) := by decide +kernel
theorem dX5_bestThreshold_63 : decode cX5_bestThreshold 63 = .ok (.new 247, 3) := by decide +kernel
theorem dX5_bestThreshold_66 : decode cX5_bestThreshold 66 = .ok (.dup, 1) := by decide +kernel
theorem dX5_bestThreshold_67 : decode cX5_bestThreshold 67 = .ok (.ldc_w 312, 3) := by decide +kernel
theorem dX5_bestThreshold_70 : decode cX5_bestThreshold 70 = .ok (.invokespecial 251, 3) := by decide +kernel
theorem dX5_bestThreshold_73 : decode cX5_bestThreshold 73 = .ok (.athrow, 1) := by decide +kernel
theorem dX5_bitsBy_0 : decode cX5_bitsBy 0 = .ok (.iload_n 1, 1) := by decide +kernel
theorem dX5_bitsBy_1 : decode cX5_bitsBy 1 = .ok (.iconst 0, 1) := by decide +kernel
theorem dX5_bitsBy_2 : decode cX5_bitsBy 2 = .ok (.iconst 2, 1) := by decide +kernel
theorem dX5_bitsBy_3 : decode cX5_bitsBy 3 = .ok (.invokestatic 212, 3) := by decide +kernel
theorem dX5_bitsBy_6 : decode cX5_bitsBy 6 = .ok (.iload_n 2, 1) := by decide +kernel
theorem dX5_bitsBy_7 : decode cX5_bitsBy 7 = .ok (.iconst 0, 1) := by decide +kernel
theorem dX5_bitsBy_8 : decode cX5_bitsBy 8 = .ok (.iconst 2, 1) := by decide +kernel
theorem dX5_bitsBy_9 : decode cX5_bitsBy 9 = .ok (.invokestatic 212, 3) := by decide +kernel
theorem dX5_bitsBy_12 : decode cX5_bitsBy 12 = .ok (.aload_n 0, 1) := by decide +kernel
theorem dX5_bitsBy_13 : decode cX5_bitsBy 13 = .ok (.iload_n 1, 1) := by decide +kernel
theorem dX5_bitsBy_14 : decode cX5_bitsBy 14 = .ok (.iload_n 2, 1) := by decide +kernel
theorem dX5_bitsBy_15 : decode cX5_bitsBy 15 = .ok (.invokevirtual 314, 3) := by decide +kernel
theorem dX5_bitsBy_18 : decode cX5_bitsBy 18 = .ok (.aload_n 0, 1) := by decide +kernel
theorem dX5_bitsBy_19 : decode cX5_bitsBy 19 = .ok (.getfield 35, 3) := by decide +kernel
theorem dX5_bitsBy_22 : decode cX5_bitsBy 22 = .ok (.bipush 46, 2) := by decide +kernel
theorem dX5_bitsBy_24 : decode cX5_bitsBy 24 = .ok (.invokevirtual 261, 3) := by decide +kernel
theorem dX5_bitsBy_27 : decode cX5_bitsBy 27 = .ok (.pop, 1) := by decide +kernel
theorem dX5_bitsBy_28 : decode cX5_bitsBy 28 = .ok (.aload_n 0, 1) := by decide +kernel
theorem dX5_bitsBy_29 : decode cX5_bitsBy 29 = .ok (.getfield 35, 3) := by decide +kernel
theorem dX5_bitsBy_32 : decode cX5_bitsBy 32 = .ok (.invokevirtual 238, 3) := by decide +kernel
theorem dX5_bitsBy_35 : decode cX5_bitsBy 35 = .ok (.ireturn, 1) := by decide +kernel
theorem dX5_error_0 : decode cX5_error 0 = .ok (.iload_n 1, 1) := by decide +kernel
theorem dX5_error_1 : decode cX5_error 1 = .ok (.iconst 0, 1) := by decide +kernel
theorem dX5_error_2 : decode cX5_error 2 = .ok (.iconst 2, 1) := by decide +kernel
theorem dX5_error_3 : decode cX5_error 3 = .ok (.invokestatic 212, 3) := by decide +kernel
theorem dX5_error_6 : decode cX5_error 6 = .ok (.aload_n 0, 1) := by decide +kernel
theorem dX5_error_7 : decode cX5_error 7 = .ok (.getfield 35, 3) := by decide +kernel
theorem dX5_error_10 : decode cX5_error 10 = .ok (.aload_n 0, 1) := by decide +kernel
theorem dX5_error_11 : decode cX5_error 11 = .ok (.getfield 31, 3) := by decide +kernel
theorem dX5_error_14 : decode cX5_error 14 = .ok (.invokevirtual 287, 3) := by decide +kernel
theorem dX5_error_17 : decode cX5_error 17 = .ok (.aload_n 0, 1) := by decide +kernel
theorem dX5_error_18 : decode cX5_error 18 = .ok (.getfield 35, 3) := by decide +kernel
theorem dX5_error_21 : decode cX5_error 21 = .ok (.bipush 46, 2) := by decide +kernel
theorem dX5_error_23 : decode cX5_error 23 = .ok (.invokevirtual 268, 3) := by decide +kernel
theorem dX5_error_26 : decode cX5_error 26 = .ok (.pop, 1) := by decide +kernel
theorem dX5_error_27 : decode cX5_error 27 = .ok (.iload_n 1, 1) := by decide +kernel
theorem dX5_error_28 : decode cX5_error 28 = .ok (.lookupswitch 50 #[(0, 28), (1, 39)], 28) := by decide +kernel
theorem dX5_error_56 : decode cX5_error 56 = .ok (.aload_n 0, 1) := by decide +kernel
theorem dX5_error_57 : decode cX5_error 57 = .ok (.getfield 35, 3) := by decide +kernel
theorem dX5_error_60 : decode cX5_error 60 = .ok (.invokevirtual 290, 3) := by decide +kernel
theorem dX5_error_63 : decode cX5_error 63 = .ok (.invokevirtual 147, 3) := by decide +kernel
theorem dX5_error_66 : decode cX5_error 66 = .ok (.lreturn, 1) := by decide +kernel
theorem dX5_error_67 : decode cX5_error 67 = .ok (.aload_n 0, 1) := by decide +kernel
theorem dX5_error_68 : decode cX5_error 68 = .ok (.getfield 35, 3) := by decide +kernel
theorem dX5_error_71 : decode cX5_error 71 = .ok (.invokevirtual 293, 3) := by decide +kernel
theorem dX5_error_74 : decode cX5_error 74 = .ok (.invokevirtual 147, 3) := by decide +kernel
theorem dX5_error_77 : decode cX5_error 77 = .ok (.lreturn, 1) := by decide +kernel
theorem dX5_error_78 : decode cX5_error 78 = .ok (.aload_n 0, 1) := by decide +kernel
theorem dX5_error_79 : decode cX5_error 79 = .ok (.getfield 35, 3) := by decide +kernel
theorem dX5_error_82 : decode cX5_error 82 = .ok (.invokevirtual 296, 3) := by decide +kernel
theorem dX5_error_85 : decode cX5_error 85 = .ok (.i2l, 1) := by decide +kernel
theorem dX5_error_86 : decode cX5_error 86 = .ok (.lreturn, 1) := by decide +kernel
theorem dX5_errorOfCut_0 : decode cX5_errorOfCut 0 = .ok (.aload_n 0, 1) := by decide +kernel
theorem dX5_errorOfCut_1 : decode cX5_errorOfCut 1 = .ok (.getfield 35, 3) := by decide +kernel
theorem dX5_errorOfCut_4 : decode cX5_errorOfCut 4 = .ok (.aload_n 0, 1) := by decide +kernel
theorem dX5_errorOfCut_5 : decode cX5_errorOfCut 5 = .ok (.getfield 31, 3) := by decide +kernel
theorem dX5_errorOfCut_8 : decode cX5_errorOfCut 8 = .ok (.invokevirtual 287, 3) := by decide +kernel
theorem dX5_errorOfCut_11 : decode cX5_errorOfCut 11 = .ok (.aload_n 0, 1) := by decide +kernel
theorem dX5_errorOfCut_12 : decode cX5_errorOfCut 12 = .ok (.getfield 35, 3) := by decide +kernel
theorem dX5_errorOfCut_15 : decode cX5_errorOfCut 15 = .ok (.iload_n 1, 1) := by decide +kernel
theorem dX5_errorOfCut_16 : decode cX5_errorOfCut 16 = .ok (.iload_n 2, 1) := by decide +kernel
theorem dX5_errorOfCut_17 : decode cX5_errorOfCut 17 = .ok (.invokevirtual 277, 3) := by decide +kernel
theorem dX5_errorOfCut_20 : decode cX5_errorOfCut 20 = .ok (.aload_n 0, 1) := by decide +kernel
theorem dX5_errorOfCut_21 : decode cX5_errorOfCut 21 = .ok (.getfield 35, 3) := by decide +kernel
theorem dX5_errorOfCut_24 : decode cX5_errorOfCut 24 = .ok (.bipush 46, 2) := by decide +kernel
theorem dX5_errorOfCut_26 : decode cX5_errorOfCut 26 = .ok (.invokevirtual 268, 3) := by decide +kernel
theorem dX5_errorOfCut_29 : decode cX5_errorOfCut 29 = .ok (.pop, 1) := by decide +kernel
theorem dX5_errorOfCut_30 : decode cX5_errorOfCut 30 = .ok (.aload_n 0, 1) := by decide +kernel
theorem dX5_errorOfCut_31 : decode cX5_errorOfCut 31 = .ok (.getfield 35, 3) := by decide +kernel
theorem dX5_errorOfCut_34 : decode cX5_errorOfCut 34 = .ok (.invokevirtual 290, 3) := by decide +kernel
theorem dX5_errorOfCut_37 : decode cX5_errorOfCut 37 = .ok (.areturn, 1) := by decide +kernel
theorem dX5_errorWith_0 : decode cX5_errorWith 0 = .ok (.iload_n 1, 1) := by decide +kernel
theorem dX5_errorWith_1 : decode cX5_errorWith 1 = .ok (.iconst 0, 1) := by decide +kernel
theorem dX5_errorWith_2 : decode cX5_errorWith 2 = .ok (.sipush 9999, 3) := by decide +kernel
theorem dX5_errorWith_5 : decode cX5_errorWith 5 = .ok (.invokestatic 212, 3) := by decide +kernel
theorem dX5_errorWith_8 : decode cX5_errorWith 8 = .ok (.aload_n 0, 1) := by decide +kernel
theorem dX5_errorWith_9 : decode cX5_errorWith 9 = .ok (.iload_n 1, 1) := by decide +kernel
theorem dX5_errorWith_10 : decode cX5_errorWith 10 = .ok (.iload_n 2, 1) := by decide +kernel
theorem dX5_errorWith_11 : decode cX5_errorWith 11 = .ok (.invokevirtual 299, 3) := by decide +kernel
theorem dX5_errorWith_14 : decode cX5_errorWith 14 = .ok (.invokevirtual 147, 3) := by decide +kernel
theorem dX5_errorWith_17 : decode cX5_errorWith 17 = .ok (.lreturn, 1) := by decide +kernel
theorem dX5_forward_0 : decode cX5_forward 0 = .ok (.iload_n 1, 1) := by decide +kernel
theorem dX5_forward_1 : decode cX5_forward 1 = .ok (.iconst 1, 1) := by decide +kernel
theorem dX5_forward_2 : decode cX5_forward 2 = .ok (.bipush 46, 2) := by decide +kernel
theorem dX5_forward_4 : decode cX5_forward 4 = .ok (.invokestatic 212, 3) := by decide +kernel
theorem dX5_forward_7 : decode cX5_forward 7 = .ok (.aload_n 0, 1) := by decide +kernel
theorem dX5_forward_8 : decode cX5_forward 8 = .ok (.getfield 31, 3) := by decide +kernel
theorem dX5_forward_11 : decode cX5_forward 11 = .ok (.iload_n 1, 1) := by decide +kernel
theorem dX5_forward_12 : decode cX5_forward 12 = .ok (.invokevirtual 261, 3) := by decide +kernel
theorem dX5_forward_15 : decode cX5_forward 15 = .ok (.istore_n 2, 1) := by decide +kernel
theorem dX5_forward_16 : decode cX5_forward 16 = .ok (.iload_n 2, 1) := by decide +kernel
theorem dX5_forward_17 : decode cX5_forward 17 = .ok (.ifCond .ne 10, 3) := by decide +kernel
theorem dX5_forward_20 : decode cX5_forward 20 = .ok (.aload_n 0, 1) := by decide +kernel
theorem dX5_forward_21 : decode cX5_forward 21 = .ok (.iconst 1, 1) := by decide +kernel
theorem dX5_forward_22 : decode cX5_forward 22 = .ok (.iconst 0, 1) := by decide +kernel
theorem dX5_forward_23 : decode cX5_forward 23 = .ok (.iconst (-1), 1) := by decide +kernel
theorem dX5_forward_24 : decode cX5_forward 24 = .ok (.invokevirtual 252, 3) := by decide +kernel
theorem dX5_forward_27 : decode cX5_forward 27 = .ok (.iload_n 2, 1) := by decide +kernel
theorem dX5_forward_28 : decode cX5_forward 28 = .ok (.ireturn, 1) := by decide +kernel
theorem dX5_inverse_0 : decode cX5_inverse 0 = .ok (.iload_n 1, 1) := by decide +kernel
theorem dX5_inverse_1 : decode cX5_inverse 1 = .ok (.iconst 1, 1) := by decide +kernel
theorem dX5_inverse_2 : decode cX5_inverse 2 = .ok (.bipush 46, 2) := by decide +kernel
theorem dX5_inverse_4 : decode cX5_inverse 4 = .ok (.invokestatic 212, 3) := by decide +kernel
theorem dX5_inverse_7 : decode cX5_inverse 7 = .ok (.aload_n 0, 1) := by decide +kernel
theorem dX5_inverse_8 : decode cX5_inverse 8 = .ok (.getfield 31, 3) := by decide +kernel
theorem dX5_inverse_11 : decode cX5_inverse 11 = .ok (.getfield 107, 3) := by decide +kernel
theorem dX5_inverse_14 : decode cX5_inverse 14 = .ok (.ifCond .ne 10, 3) := by decide +kernel
theorem dX5_inverse_17 : decode cX5_inverse 17 = .ok (.aload_n 0, 1) := by decide +kernel
theorem dX5_inverse_18 : decode cX5_inverse 18 = .ok (.iconst 2, 1) := by decide +kernel
theorem dX5_inverse_19 : decode cX5_inverse 19 = .ok (.iconst 0, 1) := by decide +kernel
theorem dX5_inverse_20 : decode cX5_inverse 20 = .ok (.iconst (-1), 1) := by decide +kernel
theorem dX5_inverse_21 : decode cX5_inverse 21 = .ok (.invokevirtual 252, 3) := by decide +kernel
theorem dX5_inverse_24 : decode cX5_inverse 24 = .ok (.aload_n 0, 1) := by decide +kernel
theorem dX5_inverse_25 : decode cX5_inverse 25 = .ok (.getfield 31, 3) := by decide +kernel
theorem dX5_inverse_28 : decode cX5_inverse 28 = .ok (.iload_n 1, 1) := by decide +kernel
theorem dX5_inverse_29 : decode cX5_inverse 29 = .ok (.invokevirtual 268, 3) := by decide +kernel
theorem dX5_inverse_32 : decode cX5_inverse 32 = .ok (.ireturn, 1) := by decide +kernel
theorem dX5_keepLargest_0 : decode cX5_keepLargest 0 = .ok (.iload_n 1, 1) := by decide +kernel
theorem dX5_keepLargest_1 : decode cX5_keepLargest 1 = .ok (.iconst 0, 1) := by decide +kernel
theorem dX5_keepLargest_2 : decode cX5_keepLargest 2 = .ok (.bipush 46, 2) := by decide +kernel
theorem dX5_keepLargest_4 : decode cX5_keepLargest 4 = .ok (.invokestatic 212, 3) := by decide +kernel
theorem dX5_keepLargest_7 : decode cX5_keepLargest 7 = .ok (.aload_n 0, 1) := by decide +kernel
theorem dX5_keepLargest_8 : decode cX5_keepLargest 8 = .ok (.getfield 31, 3) := by decide +kernel
theorem dX5_keepLargest_11 : decode cX5_keepLargest 11 = .ok (.iload_n 1, 1) := by decide +kernel
theorem dX5_keepLargest_12 : decode cX5_keepLargest 12 = .ok (.invokevirtual 284, 3) := by decide +kernel
theorem dX5_keepLargest_15 : decode cX5_keepLargest 15 = .ok (.invokevirtual 147, 3) := by decide +kernel
theorem dX5_keepLargest_18 : decode cX5_keepLargest 18 = .ok (.lreturn, 1) := by decide +kernel
theorem dX5_lift_0 : decode cX5_lift 0 = .ok (.iload_n 1, 1) := by decide +kernel
theorem dX5_lift_1 : decode cX5_lift 1 = .ok (.aload_n 0, 1) := by decide +kernel
theorem dX5_lift_2 : decode cX5_lift 2 = .ok (.getfield 19, 3) := by decide +kernel
theorem dX5_lift_5 : decode cX5_lift 5 = .ok (.getfield 94, 3) := by decide +kernel
theorem dX5_lift_8 : decode cX5_lift 8 = .ok (.invokestatic 77, 3) := by decide +kernel
theorem dX5_lift_11 : decode cX5_lift 11 = .ok (.aload_n 0, 1) := by decide +kernel
theorem dX5_lift_12 : decode cX5_lift 12 = .ok (.getfield 31, 3) := by decide +kernel
theorem dX5_lift_15 : decode cX5_lift 15 = .ok (.iload_n 1, 1) := by decide +kernel
theorem dX5_lift_16 : decode cX5_lift 16 = .ok (.invokevirtual 139, 3) := by decide +kernel
theorem dX5_lift_19 : decode cX5_lift 19 = .ok (.ifCond .ne 10, 3) := by decide +kernel
theorem dX5_lift_22 : decode cX5_lift 22 = .ok (.aload_n 0, 1) := by decide +kernel
theorem dX5_lift_23 : decode cX5_lift 23 = .ok (.iconst 3, 1) := by decide +kernel
theorem dX5_lift_24 : decode cX5_lift 24 = .ok (.iconst 4, 1) := by decide +kernel
theorem dX5_lift_25 : decode cX5_lift 25 = .ok (.iload_n 1, 1) := by decide +kernel
theorem dX5_lift_26 : decode cX5_lift 26 = .ok (.invokevirtual 252, 3) := by decide +kernel
theorem dX5_lift_29 : decode cX5_lift 29 = .ok (.iload_n 1, 1) := by decide +kernel
theorem dX5_lift_30 : decode cX5_lift 30 = .ok (.ifCond .eq 16, 3) := by decide +kernel
theorem dX5_lift_33 : decode cX5_lift 33 = .ok (.iload_n 1, 1) := by decide +kernel
theorem dX5_lift_34 : decode cX5_lift 34 = .ok (.aload_n 0, 1) := by decide +kernel
theorem dX5_lift_35 : decode cX5_lift 35 = .ok (.getfield 19, 3) := by decide +kernel
theorem dX5_lift_38 : decode cX5_lift 38 = .ok (.getfield 94, 3) := by decide +kernel
theorem dX5_lift_41 : decode cX5_lift 41 = .ok (.iconst 1, 1) := by decide +kernel
theorem dX5_lift_42 : decode cX5_lift 42 = .ok (.isub, 1) := by decide +kernel
theorem dX5_lift_43 : decode cX5_lift 43 = .ok (.if_icmp .ne 10, 3) := by decide +kernel
theorem dX5_lift_46 : decode cX5_lift 46 = .ok (.aload_n 0, 1) := by decide +kernel
theorem dX5_lift_47 : decode cX5_lift 47 = .ok (.iconst 3, 1) := by decide +kernel
theorem dX5_lift_48 : decode cX5_lift 48 = .ok (.iconst 5, 1) := by decide +kernel
theorem dX5_lift_49 : decode cX5_lift 49 = .ok (.iload_n 1, 1) := by decide +kernel
theorem dX5_lift_50 : decode cX5_lift 50 = .ok (.invokevirtual 252, 3) := by decide +kernel
theorem dX5_lift_53 : decode cX5_lift 53 = .ok (.aload_n 0, 1) := by decide +kernel
theorem dX5_lift_54 : decode cX5_lift 54 = .ok (.getfield 31, 3) := by decide +kernel
theorem dX5_lift_57 : decode cX5_lift 57 = .ok (.iload_n 1, 1) := by decide +kernel
theorem dX5_lift_58 : decode cX5_lift 58 = .ok (.invokevirtual 264, 3) := by decide +kernel
theorem dX5_lift_61 : decode cX5_lift 61 = .ok (.lreturn, 1) := by decide +kernel
theorem dX5_load_0 : decode cX5_load 0 = .ok (.aload_n 0, 1) := by decide +kernel
theorem dX5_load_1 : decode cX5_load 1 = .ok (.getfield 12, 3) := by decide +kernel
theorem dX5_load_4 : decode cX5_load 4 = .ok (.aload_n 0, 1) := by decide +kernel
theorem dX5_load_5 : decode cX5_load 5 = .ok (.getfield 23, 3) := by decide +kernel
theorem dX5_load_8 : decode cX5_load 8 = .ok (.invokevirtual 80, 3) := by decide +kernel
theorem dX5_load_11 : decode cX5_load 11 = .ok (.istore_n 1, 1) := by decide +kernel
theorem dX5_load_12 : decode cX5_load 12 = .ok (.aload_n 0, 1) := by decide +kernel
theorem dX5_load_13 : decode cX5_load 13 = .ok (.getfield 12, 3) := by decide +kernel
theorem dX5_load_16 : decode cX5_load 16 = .ok (.iconst 0, 1) := by decide +kernel
theorem dX5_load_17 : decode cX5_load 17 = .ok (.putfield 74, 3) := by decide +kernel
theorem dX5_load_20 : decode cX5_load 20 = .ok (.iload_n 1, 1) := by decide +kernel
theorem dX5_load_21 : decode cX5_load 21 = .ok (.ifCond .ne 13, 3) := by decide +kernel
theorem dX5_load_24 : decode cX5_load 24 = .ok (.new 84, 3) := by decide +kernel
theorem dX5_load_27 : decode cX5_load 27 = .ok (.dup, 1) := by decide +kernel
theorem dX5_load_28 : decode cX5_load 28 = .ok (.ldc 86, 2) := by decide +kernel
theorem dX5_load_30 : decode cX5_load 30 = .ok (.invokespecial 88, 3) := by decide +kernel
theorem dX5_load_33 : decode cX5_load 33 = .ok (.athrow, 1) := by decide +kernel
theorem dX5_load_34 : decode cX5_load 34 = .ok (.aload_n 0, 1) := by decide +kernel
theorem dX5_load_35 : decode cX5_load 35 = .ok (.getfield 19, 3) := by decide +kernel
theorem dX5_load_38 : decode cX5_load 38 = .ok (.aload_n 0, 1) := by decide +kernel
theorem dX5_load_39 : decode cX5_load 39 = .ok (.getfield 23, 3) := by decide +kernel
theorem dX5_load_42 : decode cX5_load 42 = .ok (.invokevirtual 91, 3) := by decide +kernel
theorem dX5_load_45 : decode cX5_load 45 = .ok (.aload_n 0, 1) := by decide +kernel
theorem dX5_load_46 : decode cX5_load 46 = .ok (.getfield 31, 3) := by decide +kernel
theorem dX5_load_49 : decode cX5_load 49 = .ok (.invokevirtual 60, 3) := by decide +kernel
theorem dX5_load_52 : decode cX5_load 52 = .ok (.aload_n 0, 1) := by decide +kernel
theorem dX5_load_53 : decode cX5_load 53 = .ok (.getfield 31, 3) := by decide +kernel
theorem dX5_load_56 : decode cX5_load 56 = .ok (.invokevirtual 63, 3) := by decide +kernel
theorem dX5_load_59 : decode cX5_load 59 = .ok (.iconst 0, 1) := by decide +kernel
theorem dX5_load_60 : decode cX5_load 60 = .ok (.istore_n 2, 1) := by decide +kernel
theorem dX5_load_61 : decode cX5_load 61 = .ok (.iload_n 2, 1) := by decide +kernel
theorem dX5_load_62 : decode cX5_load 62 = .ok (.iconst 2, 1) := by decide +kernel
theorem dX5_load_63 : decode cX5_load 63 = .ok (.if_icmp .ge 16, 3) := by decide +kernel
theorem dX5_load_66 : decode cX5_load 66 = .ok (.aload_n 0, 1) := by decide +kernel
theorem dX5_load_67 : decode cX5_load 67 = .ok (.getfield 42, 3) := by decide +kernel
theorem dX5_load_70 : decode cX5_load 70 = .ok (.iload_n 2, 1) := by decide +kernel
theorem dX5_load_71 : decode cX5_load 71 = .ok (.iconst 0, 1) := by decide +kernel
theorem dX5_load_72 : decode cX5_load 72 = .ok (.bastore, 1) := by decide +kernel
theorem dX5_load_73 : decode cX5_load 73 = .ok (.iinc 2 1, 3) := by decide +kernel
theorem dX5_load_76 : decode cX5_load 76 = .ok (.goto (-15), 3) := by decide +kernel
theorem dX5_load_79 : decode cX5_load 79 = .ok (.aload_n 0, 1) := by decide +kernel
theorem dX5_load_80 : decode cX5_load 80 = .ok (.getfield 19, 3) := by decide +kernel
theorem dX5_load_83 : decode cX5_load 83 = .ok (.getfield 94, 3) := by decide +kernel
theorem dX5_load_86 : decode cX5_load 86 = .ok (.ireturn, 1) := by decide +kernel
theorem dX5_noise_0 : decode cX5_noise 0 = .ok (.iload_n 2, 1) := by decide +kernel
theorem dX5_noise_1 : decode cX5_noise 1 = .ok (.iconst 0, 1) := by decide +kernel
theorem dX5_noise_2 : decode cX5_noise 2 = .ok (.sipush 999, 3) := by decide +kernel
theorem dX5_noise_5 : decode cX5_noise 5 = .ok (.invokestatic 212, 3) := by decide +kernel
theorem dX5_noise_8 : decode cX5_noise 8 = .ok (.aload_n 0, 1) := by decide +kernel
theorem dX5_noise_9 : decode cX5_noise 9 = .ok (.getfield 31, 3) := by decide +kernel
theorem dX5_noise_12 : decode cX5_noise 12 = .ok (.getfield 107, 3) := by decide +kernel
theorem dX5_noise_15 : decode cX5_noise 15 = .ok (.ifCond .le 11, 3) := by decide +kernel
theorem dX5_noise_18 : decode cX5_noise 18 = .ok (.aload_n 0, 1) := by decide +kernel
theorem dX5_noise_19 : decode cX5_noise 19 = .ok (.bipush 7, 2) := by decide +kernel
theorem dX5_noise_21 : decode cX5_noise 21 = .ok (.iconst 0, 1) := by decide +kernel
theorem dX5_noise_22 : decode cX5_noise 22 = .ok (.iconst (-1), 1) := by decide +kernel
theorem dX5_noise_23 : decode cX5_noise 23 = .ok (.invokevirtual 252, 3) := by decide +kernel
theorem dX5_noise_26 : decode cX5_noise 26 = .ok (.aload_n 0, 1) := by decide +kernel
theorem dX5_noise_27 : decode cX5_noise 27 = .ok (.getfield 31, 3) := by decide +kernel
theorem dX5_noise_30 : decode cX5_noise 30 = .ok (.iload_n 1, 1) := by decide +kernel
theorem dX5_noise_31 : decode cX5_noise 31 = .ok (.iload_n 2, 1) := by decide +kernel
theorem dX5_noise_32 : decode cX5_noise 32 = .ok (.invokevirtual 258, 3) := by decide +kernel
theorem dX5_noise_35 : decode cX5_noise 35 = .ok (.aload_n 0, 1) := by decide +kernel
theorem dX5_noise_36 : decode cX5_noise 36 = .ok (.getfield 31, 3) := by decide +kernel
theorem dX5_noise_39 : decode cX5_noise 39 = .ok (.invokevirtual 228, 3) := by decide +kernel
theorem dX5_noise_42 : decode cX5_noise 42 = .ok (.invokevirtual 147, 3) := by decide +kernel
theorem dX5_noise_45 : decode cX5_noise 45 = .ok (.lreturn, 1) := by decide +kernel
theorem dX5_quantize_0 : decode cX5_quantize 0 = .ok (.iload_n 1, 1) := by decide +kernel
theorem dX5_quantize_1 : decode cX5_quantize 1 = .ok (.iconst 1, 1) := by decide +kernel
theorem dX5_quantize_2 : decode cX5_quantize 2 = .ok (.sipush 9999, 3) := by decide +kernel
theorem dX5_quantize_5 : decode cX5_quantize 5 = .ok (.invokestatic 212, 3) := by decide +kernel
theorem dX5_quantize_8 : decode cX5_quantize 8 = .ok (.aload_n 0, 1) := by decide +kernel
theorem dX5_quantize_9 : decode cX5_quantize 9 = .ok (.getfield 31, 3) := by decide +kernel
theorem dX5_quantize_12 : decode cX5_quantize 12 = .ok (.iload_n 1, 1) := by decide +kernel
theorem dX5_quantize_13 : decode cX5_quantize 13 = .ok (.invokevirtual 281, 3) := by decide +kernel
theorem dX5_quantize_16 : decode cX5_quantize 16 = .ok (.lreturn, 1) := by decide +kernel
theorem dX5_reason_0 : decode cX5_reason 0 = .ok (.iload_n 1, 1) := by decide +kernel
theorem dX5_reason_1 : decode cX5_reason 1 = .ok (.iconst 0, 1) := by decide +kernel
theorem dX5_reason_2 : decode cX5_reason 2 = .ok (.iconst 1, 1) := by decide +kernel
theorem dX5_reason_3 : decode cX5_reason 3 = .ok (.invokestatic 212, 3) := by decide +kernel
theorem dX5_reason_6 : decode cX5_reason 6 = .ok (.iload_n 1, 1) := by decide +kernel
theorem dX5_reason_7 : decode cX5_reason 7 = .ok (.ifCond .ne 10, 3) := by decide +kernel
theorem dX5_reason_10 : decode cX5_reason 10 = .ok (.aload_n 0, 1) := by decide +kernel
theorem dX5_reason_11 : decode cX5_reason 11 = .ok (.getfield 46, 3) := by decide +kernel
theorem dX5_reason_14 : decode cX5_reason 14 = .ok (.goto 7, 3) := by decide +kernel
theorem dX5_reason_17 : decode cX5_reason 17 = .ok (.aload_n 0, 1) := by decide +kernel
theorem dX5_reason_18 : decode cX5_reason 18 = .ok (.getfield 50, 3) := by decide +kernel
theorem dX5_reason_21 : decode cX5_reason 21 = .ok (.ireturn, 1) := by decide +kernel
theorem dX5_reasonSample_0 : decode cX5_reasonSample 0 = .ok (.aload_n 0, 1) := by decide +kernel
theorem dX5_reasonSample_1 : decode cX5_reasonSample 1 = .ok (.getfield 53, 3) := by decide +kernel
theorem dX5_reasonSample_4 : decode cX5_reasonSample 4 = .ok (.ireturn, 1) := by decide +kernel
theorem dX5_reset_0 : decode cX5_reset 0 = .ok (.aload_n 0, 1) := by decide +kernel
theorem dX5_reset_1 : decode cX5_reset 1 = .ok (.getfield 31, 3) := by decide +kernel
theorem dX5_reset_4 : decode cX5_reset 4 = .ok (.getfield 107, 3) := by decide +kernel
theorem dX5_reset_7 : decode cX5_reset 7 = .ok (.istore_n 1, 1) := by decide +kernel
theorem dX5_reset_8 : decode cX5_reset 8 = .ok (.aload_n 0, 1) := by decide +kernel
theorem dX5_reset_9 : decode cX5_reset 9 = .ok (.getfield 31, 3) := by decide +kernel
theorem dX5_reset_12 : decode cX5_reset 12 = .ok (.invokevirtual 60, 3) := by decide +kernel
theorem dX5_reset_15 : decode cX5_reset 15 = .ok (.iload_n 1, 1) := by decide +kernel
theorem dX5_reset_16 : decode cX5_reset 16 = .ok (.ireturn, 1) := by decide +kernel
theorem dX5_restore_0 : decode cX5_restore 0 = .ok (.iload_n 1, 1) := by decide +kernel
theorem dX5_restore_1 : decode cX5_restore 1 = .ok (.iconst 2, 1) := by decide +kernel
theorem dX5_restore_2 : decode cX5_restore 2 = .ok (.invokestatic 77, 3) := by decide +kernel
theorem dX5_restore_5 : decode cX5_restore 5 = .ok (.aload_n 0, 1) := by decide +kernel
theorem dX5_restore_6 : decode cX5_restore 6 = .ok (.getfield 42, 3) := by decide +kernel
theorem dX5_restore_9 : decode cX5_restore 9 = .ok (.iload_n 1, 1) := by decide +kernel
theorem dX5_restore_10 : decode cX5_restore 10 = .ok (.baload, 1) := by decide +kernel
theorem dX5_restore_11 : decode cX5_restore 11 = .ok (.ifCond .ne 14, 3) := by decide +kernel
theorem dX5_restore_14 : decode cX5_restore 14 = .ok (.new 247, 3) := by decide +kernel
theorem dX5_restore_17 : decode cX5_restore 17 = .ok (.dup, 1) := by decide +kernel
theorem dX5_restore_18 : decode cX5_restore 18 = .ok (.ldc_w 317, 3) := by decide +kernel
theorem dX5_restore_21 : decode cX5_restore 21 = .ok (.invokespecial 251, 3) := by decide +kernel
theorem dX5_restore_24 : decode cX5_restore 24 = .ok (.athrow, 1) := by decide +kernel
theorem dX5_restore_25 : decode cX5_restore 25 = .ok (.aload_n 0, 1) := by decide +kernel
theorem dX5_restore_26 : decode cX5_restore 26 = .ok (.getfield 31, 3) := by decide +kernel
theorem dX5_restore_29 : decode cX5_restore 29 = .ok (.aload_n 0, 1) := by decide +kernel
theorem dX5_restore_30 : decode cX5_restore 30 = .ok (.getfield 38, 3) := by decide +kernel
theorem dX5_restore_33 : decode cX5_restore 33 = .ok (.iload_n 1, 1) := by decide +kernel
theorem dX5_restore_34 : decode cX5_restore 34 = .ok (.aaload, 1) := by decide +kernel
theorem dX5_restore_35 : decode cX5_restore 35 = .ok (.invokevirtual 287, 3) := by decide +kernel
theorem dX5_restore_38 : decode cX5_restore 38 = .ok (.return_, 1) := by decide +kernel
theorem dX5_save_0 : decode cX5_save 0 = .ok (.iload_n 1, 1) := by decide +kernel
theorem dX5_save_1 : decode cX5_save 1 = .ok (.iconst 2, 1) := by decide +kernel
theorem dX5_save_2 : decode cX5_save 2 = .ok (.invokestatic 77, 3) := by decide +kernel
theorem dX5_save_5 : decode cX5_save 5 = .ok (.aload_n 0, 1) := by decide +kernel
theorem dX5_save_6 : decode cX5_save 6 = .ok (.getfield 38, 3) := by decide +kernel
theorem dX5_save_9 : decode cX5_save 9 = .ok (.iload_n 1, 1) := by decide +kernel
theorem dX5_save_10 : decode cX5_save 10 = .ok (.aaload, 1) := by decide +kernel
theorem dX5_save_11 : decode cX5_save 11 = .ok (.aload_n 0, 1) := by decide +kernel
theorem dX5_save_12 : decode cX5_save 12 = .ok (.getfield 31, 3) := by decide +kernel
theorem dX5_save_15 : decode cX5_save 15 = .ok (.invokevirtual 287, 3) := by decide +kernel
theorem dX5_save_18 : decode cX5_save 18 = .ok (.aload_n 0, 1) := by decide +kernel
theorem dX5_save_19 : decode cX5_save 19 = .ok (.getfield 42, 3) := by decide +kernel
theorem dX5_save_22 : decode cX5_save 22 = .ok (.iload_n 1, 1) := by decide +kernel
theorem dX5_save_23 : decode cX5_save 23 = .ok (.iconst 1, 1) := by decide +kernel
theorem dX5_save_24 : decode cX5_save 24 = .ok (.bastore, 1) := by decide +kernel
theorem dX5_save_25 : decode cX5_save 25 = .ok (.return_, 1) := by decide +kernel
theorem dX5_set_0 : decode cX5_set 0 = .ok (.iload_n 1, 1) := by decide +kernel
theorem dX5_set_1 : decode cX5_set 1 = .ok (.aload_n 0, 1) := by decide +kernel
theorem dX5_set_2 : decode cX5_set 2 = .ok (.getfield 19, 3) := by decide +kernel
theorem dX5_set_5 : decode cX5_set 5 = .ok (.getfield 94, 3) := by decide +kernel
theorem dX5_set_8 : decode cX5_set 8 = .ok (.invokestatic 77, 3) := by decide +kernel
theorem dX5_set_11 : decode cX5_set 11 = .ok (.iload_n 2, 1) := by decide +kernel
theorem dX5_set_12 : decode cX5_set 12 = .ok (.sipush (-9999), 3) := by decide +kernel
theorem dX5_set_15 : decode cX5_set 15 = .ok (.sipush 9999, 3) := by decide +kernel
theorem dX5_set_18 : decode cX5_set 18 = .ok (.invokestatic 212, 3) := by decide +kernel
theorem dX5_set_21 : decode cX5_set 21 = .ok (.aload_n 0, 1) := by decide +kernel
theorem dX5_set_22 : decode cX5_set 22 = .ok (.getfield 31, 3) := by decide +kernel
theorem dX5_set_25 : decode cX5_set 25 = .ok (.iload_n 1, 1) := by decide +kernel
theorem dX5_set_26 : decode cX5_set 26 = .ok (.invokevirtual 139, 3) := by decide +kernel
theorem dX5_set_29 : decode cX5_set 29 = .ok (.ifCond .ne 11, 3) := by decide +kernel
theorem dX5_set_32 : decode cX5_set 32 = .ok (.aload_n 0, 1) := by decide +kernel
theorem dX5_set_33 : decode cX5_set 33 = .ok (.bipush 6, 2) := by decide +kernel
theorem dX5_set_35 : decode cX5_set 35 = .ok (.iconst 4, 1) := by decide +kernel
theorem dX5_set_36 : decode cX5_set 36 = .ok (.iload_n 1, 1) := by decide +kernel
theorem dX5_set_37 : decode cX5_set 37 = .ok (.invokevirtual 252, 3) := by decide +kernel
theorem dX5_set_40 : decode cX5_set 40 = .ok (.aload_n 0, 1) := by decide +kernel
theorem dX5_set_41 : decode cX5_set 41 = .ok (.getfield 31, 3) := by decide +kernel
theorem dX5_set_44 : decode cX5_set 44 = .ok (.getfield 143, 3) := by decide +kernel
theorem dX5_set_47 : decode cX5_set 47 = .ok (.iload_n 1, 1) := by decide +kernel
theorem dX5_set_48 : decode cX5_set 48 = .ok (.aaload, 1) := by decide +kernel
theorem dX5_set_49 : decode cX5_set 49 = .ok (.invokevirtual 147, 3) := by decide +kernel
theorem dX5_set_52 : decode cX5_set 52 = .ok (.lstore_n 3, 1) := by decide +kernel
theorem dX5_set_53 : decode cX5_set 53 = .ok (.aload_n 0, 1) := by decide +kernel
theorem dX5_set_54 : decode cX5_set 54 = .ok (.getfield 31, 3) := by decide +kernel
theorem dX5_set_57 : decode cX5_set 57 = .ok (.iload_n 1, 1) := by decide +kernel
theorem dX5_set_58 : decode cX5_set 58 = .ok (.iload_n 2, 1) := by decide +kernel
theorem dX5_set_59 : decode cX5_set 59 = .ok (.invokevirtual 255, 3) := by decide +kernel
theorem dX5_set_62 : decode cX5_set 62 = .ok (.lload_n 3, 1) := by decide +kernel
theorem dX5_set_63 : decode cX5_set 63 = .ok (.lreturn, 1) := by decide +kernel
theorem dX5_setDetail_0 : decode cX5_setDetail 0 = .ok (.iload_n 1, 1) := by decide +kernel
theorem dX5_setDetail_1 : decode cX5_setDetail 1 = .ok (.aload_n 0, 1) := by decide +kernel
theorem dX5_setDetail_2 : decode cX5_setDetail 2 = .ok (.getfield 31, 3) := by decide +kernel
theorem dX5_setDetail_5 : decode cX5_setDetail 5 = .ok (.getfield 107, 3) := by decide +kernel
theorem dX5_setDetail_8 : decode cX5_setDetail 8 = .ok (.invokestatic 77, 3) := by decide +kernel
theorem dX5_setDetail_11 : decode cX5_setDetail 11 = .ok (.iload_n 2, 1) := by decide +kernel
theorem dX5_setDetail_12 : decode cX5_setDetail 12 = .ok (.ldc_w 271, 3) := by decide +kernel
theorem dX5_setDetail_15 : decode cX5_setDetail 15 = .ok (.ldc_w 272, 3) := by decide +kernel
theorem dX5_setDetail_18 : decode cX5_setDetail 18 = .ok (.invokestatic 212, 3) := by decide +kernel
theorem dX5_setDetail_21 : decode cX5_setDetail 21 = .ok (.aload_n 0, 1) := by decide +kernel
theorem dX5_setDetail_22 : decode cX5_setDetail 22 = .ok (.getfield 31, 3) := by decide +kernel
theorem dX5_setDetail_25 : decode cX5_setDetail 25 = .ok (.getfield 171, 3) := by decide +kernel
theorem dX5_setDetail_28 : decode cX5_setDetail 28 = .ok (.iload_n 1, 1) := by decide +kernel
theorem dX5_setDetail_29 : decode cX5_setDetail 29 = .ok (.aaload, 1) := by decide +kernel
theorem dX5_setDetail_30 : decode cX5_setDetail 30 = .ok (.getfield 186, 3) := by decide +kernel
theorem dX5_setDetail_33 : decode cX5_setDetail 33 = .ok (.invokevirtual 147, 3) := by decide +kernel
theorem dX5_setDetail_36 : decode cX5_setDetail 36 = .ok (.lstore_n 3, 1) := by decide +kernel
theorem dX5_setDetail_37 : decode cX5_setDetail 37 = .ok (.aload_n 0, 1) := by decide +kernel
theorem dX5_setDetail_38 : decode cX5_setDetail 38 = .ok (.getfield 31, 3) := by decide +kernel
theorem dX5_setDetail_41 : decode cX5_setDetail 41 = .ok (.getfield 171, 3) := by decide +kernel
theorem dX5_setDetail_44 : decode cX5_setDetail 44 = .ok (.iload_n 1, 1) := by decide +kernel
theorem dX5_setDetail_45 : decode cX5_setDetail 45 = .ok (.aaload, 1) := by decide +kernel
theorem dX5_setDetail_46 : decode cX5_setDetail 46 = .ok (.getfield 186, 3) := by decide +kernel
theorem dX5_setDetail_49 : decode cX5_setDetail 49 = .ok (.iload_n 2, 1) := by decide +kernel
theorem dX5_setDetail_50 : decode cX5_setDetail 50 = .ok (.i2l, 1) := by decide +kernel
theorem dX5_setDetail_51 : decode cX5_setDetail 51 = .ok (.invokevirtual 273, 3) := by decide +kernel
theorem dX5_setDetail_54 : decode cX5_setDetail 54 = .ok (.lload_n 3, 1) := by decide +kernel
theorem dX5_setDetail_55 : decode cX5_setDetail 55 = .ok (.lreturn, 1) := by decide +kernel
theorem dX5_setPredict_0 : decode cX5_setPredict 0 = .ok (.iload_n 1, 1) := by decide +kernel
theorem dX5_setPredict_1 : decode cX5_setPredict 1 = .ok (.iconst 0, 1) := by decide +kernel
theorem dX5_setPredict_2 : decode cX5_setPredict 2 = .ok (.iconst 2, 1) := by decide +kernel
theorem dX5_setPredict_3 : decode cX5_setPredict 3 = .ok (.invokestatic 212, 3) := by decide +kernel
theorem dX5_setPredict_6 : decode cX5_setPredict 6 = .ok (.aload_n 0, 1) := by decide +kernel
theorem dX5_setPredict_7 : decode cX5_setPredict 7 = .ok (.getfield 31, 3) := by decide +kernel
theorem dX5_setPredict_10 : decode cX5_setPredict 10 = .ok (.getfield 116, 3) := by decide +kernel
theorem dX5_setPredict_13 : decode cX5_setPredict 13 = .ok (.istore_n 2, 1) := by decide +kernel
theorem dX5_setPredict_14 : decode cX5_setPredict 14 = .ok (.aload_n 0, 1) := by decide +kernel
theorem dX5_setPredict_15 : decode cX5_setPredict 15 = .ok (.getfield 31, 3) := by decide +kernel
theorem dX5_setPredict_18 : decode cX5_setPredict 18 = .ok (.iload_n 1, 1) := by decide +kernel
theorem dX5_setPredict_19 : decode cX5_setPredict 19 = .ok (.putfield 116, 3) := by decide +kernel
theorem dX5_setPredict_22 : decode cX5_setPredict 22 = .ok (.iload_n 2, 1) := by decide +kernel
theorem dX5_setPredict_23 : decode cX5_setPredict 23 = .ok (.ireturn, 1) := by decide +kernel
theorem dX5_setSplit_0 : decode cX5_setSplit 0 = .ok (.iload_n 1, 1) := by decide +kernel
theorem dX5_setSplit_1 : decode cX5_setSplit 1 = .ok (.iconst 0, 1) := by decide +kernel
theorem dX5_setSplit_2 : decode cX5_setSplit 2 = .ok (.iconst 2, 1) := by decide +kernel
theorem dX5_setSplit_3 : decode cX5_setSplit 3 = .ok (.invokestatic 212, 3) := by decide +kernel
theorem dX5_setSplit_6 : decode cX5_setSplit 6 = .ok (.aload_n 0, 1) := by decide +kernel
theorem dX5_setSplit_7 : decode cX5_setSplit 7 = .ok (.getfield 31, 3) := by decide +kernel
theorem dX5_setSplit_10 : decode cX5_setSplit 10 = .ok (.getfield 113, 3) := by decide +kernel
theorem dX5_setSplit_13 : decode cX5_setSplit 13 = .ok (.istore_n 2, 1) := by decide +kernel
theorem dX5_setSplit_14 : decode cX5_setSplit 14 = .ok (.aload_n 0, 1) := by decide +kernel
theorem dX5_setSplit_15 : decode cX5_setSplit 15 = .ok (.getfield 31, 3) := by decide +kernel
theorem dX5_setSplit_18 : decode cX5_setSplit 18 = .ok (.iload_n 1, 1) := by decide +kernel
theorem dX5_setSplit_19 : decode cX5_setSplit 19 = .ok (.putfield 113, 3) := by decide +kernel
theorem dX5_setSplit_22 : decode cX5_setSplit 22 = .ok (.iload_n 2, 1) := by decide +kernel
theorem dX5_setSplit_23 : decode cX5_setSplit 23 = .ok (.ireturn, 1) := by decide +kernel
theorem dX5_setUpdate_0 : decode cX5_setUpdate 0 = .ok (.aload_n 0, 1) := by decide +kernel
theorem dX5_setUpdate_1 : decode cX5_setUpdate 1 = .ok (.getfield 31, 3) := by decide +kernel
theorem dX5_setUpdate_4 : decode cX5_setUpdate 4 = .ok (.getfield 119, 3) := by decide +kernel
theorem dX5_setUpdate_7 : decode cX5_setUpdate 7 = .ok (.istore_n 2, 1) := by decide +kernel
theorem dX5_setUpdate_8 : decode cX5_setUpdate 8 = .ok (.aload_n 0, 1) := by decide +kernel
theorem dX5_setUpdate_9 : decode cX5_setUpdate 9 = .ok (.getfield 31, 3) := by decide +kernel
theorem dX5_setUpdate_12 : decode cX5_setUpdate 12 = .ok (.iload_n 1, 1) := by decide +kernel
theorem dX5_setUpdate_13 : decode cX5_setUpdate 13 = .ok (.putfield 119, 3) := by decide +kernel
theorem dX5_setUpdate_16 : decode cX5_setUpdate 16 = .ok (.iload_n 2, 1) := by decide +kernel
theorem dX5_setUpdate_17 : decode cX5_setUpdate 17 = .ok (.ireturn, 1) := by decide +kernel
theorem dX5_threshold_0 : decode cX5_threshold 0 = .ok (.iload_n 1, 1) := by decide +kernel
theorem dX5_threshold_1 : decode cX5_threshold 1 = .ok (.iconst 0, 1) := by decide +kernel
theorem dX5_threshold_2 : decode cX5_threshold 2 = .ok (.sipush 9999, 3) := by decide +kernel
theorem dX5_threshold_5 : decode cX5_threshold 5 = .ok (.invokestatic 212, 3) := by decide +kernel
theorem dX5_threshold_8 : decode cX5_threshold 8 = .ok (.aload_n 0, 1) := by decide +kernel
theorem dX5_threshold_9 : decode cX5_threshold 9 = .ok (.getfield 31, 3) := by decide +kernel
theorem dX5_threshold_12 : decode cX5_threshold 12 = .ok (.iload_n 1, 1) := by decide +kernel
theorem dX5_threshold_13 : decode cX5_threshold 13 = .ok (.iload_n 2, 1) := by decide +kernel
theorem dX5_threshold_14 : decode cX5_threshold 14 = .ok (.invokevirtual 277, 3) := by decide +kernel
theorem dX5_threshold_17 : decode cX5_threshold 17 = .ok (.aload_n 0, 1) := by decide +kernel
theorem dX5_threshold_18 : decode cX5_threshold 18 = .ok (.getfield 31, 3) := by decide +kernel
theorem dX5_threshold_21 : decode cX5_threshold 21 = .ok (.invokevirtual 110, 3) := by decide +kernel
theorem dX5_threshold_24 : decode cX5_threshold 24 = .ok (.ireturn, 1) := by decide +kernel
set_option maxHeartbeats 4000000 in
set_option maxRecDepth 100000 in
theorem X5_setSplit (l : Launch) (κ : Kt) (σ0 : Gh) (this : Nat) (x : Int32) (t_this : zk σ0 this 7) (hlt : l.stackTraces = false) : TX l yX5_setSplit cX5_setSplit 3 (some .int) 7 112 [.ref this, .int x] κ σ0 (tqi κ fSet σ0 (fun (r : Int32) (τ : Gh) => True)) (txq κ fSet σ0 (fun (E : String) (τ : Gh) => E = "java/lang/IllegalArgumentException")) := by
  refine TX.of fSet (by decide +kernel) (Nat.le_of_ble_eq_true rfl) ?_
  intro p e s m below meth c ls hcs hout hK hX hT hl
  obtain ⟨hx, hb, hr, hml, hown, hg, hlocks, hin⟩ := hcs
  have hown : s.vm.findClass RX5 = some m.cls := hown
  have hl : lv_has ls 3 [(0, .ref this), (1, .int x)] := hl
  have hT0 := hT
  have n0 : (0 : Int32).toInt = 0 := by decide
  have n2 : (2 : Int32).toInt = 2 := by decide
  have x_lo := Int32.le_toInt x
  have x_hi := Int32.toInt_lt x
  generalize hQ9 : tQX _ _ _ _ _ _ _ = Q9
  refine lv_iload_n hx hb dX5_setSplit_0 rfl (lv_at hl 1 rfl) ?_
  refine lv_iconst (v := 0) hx hb dX5_setSplit_1 (by decide) ?_
  refine lv_iconst (v := 2) hx hb dX5_setSplit_2 (by decide) ?_
  have hTo := hT
  refine xtSv (n := 3) (As := [.int x, .int 0, .int 2]) (rest := []) hx hb hml hown hg hT hK hX (X5_needRange l κ σ0 x 0 2    hlt) sub_fE_fSet (mwS k909 k910 k84 k911) ⟨rfl, by decide, by decide, by decide +kernel⟩ ⟨(Nat.le_of_ble_eq_true rfl), (Nat.le_of_ble_eq_true rfl)⟩ rfl hl.1 rfl (Nat.le_of_ble_eq_true rfl) dX5_setSplit_3 zroomX.rf (fun E9 ce9 q9 τ9 H9 locs9 hp9 hE9 hT9 hce9 hcv9 hcl9 => by subst hQ9; exact tx_out hT9 hp9.1 hout hlocks hce9 hcv9 hcl9) (fun s2 H locs hφ hEs2 hT => ?_)
  obtain ⟨f3, f4⟩ := hφ
  refine lv_aload_n hx hb dX5_setSplit_6 rfl (lv_at hl 0 rfl) ?_
  obtain ⟨r5, er5⟩ : ∃ z, kR κ this 3 = z := ⟨_, rfl⟩
  have tr5 : zk σ0 r5 3 := by rw [← er5]; exact hT0.ref t_this (by decide) (by decide) (by decide)
  refine va_get (D := κ.1) (ci := 5) (v := .ref (kR κ this 3)) (C := RX5) (T := TX5) (N := 10) hx hb hg inX5 hown hK (hT.o7 (hT.k t_this (by decide))).one 0 rfl rfl 3 (by decide) (hg _ k382) (fun _ h9 => h9) rfl dX5_setSplit_7 ?_
  rw [er5]
  obtain ⟨v6, ev6⟩ : ∃ zz9 : Int32, zI s2 r5 7 = zz9 := ⟨_, rfl⟩
  have qv6 : v6.toInt = (zI s2 r5 7).toInt := by rw [ev6]
  refine va_get (D := κ.1) (ci := 1) (v := .int (zI s2 r5 7)) (C := RX1) (T := TX1) (N := 13) hx hb hg inX1 hown hK (hT.o3 (hT.k tr5 (by decide))).one 0 rfl rfl 7 (by decide) (hg _ k292) (fun _ h9 => h9) rfl dX5_setSplit_10 ?_
  rw [ev6]
  refine lv_istore_n (lv' := [(2, .int v6), (0, .ref this), (1, .int x)]) hx hb dX5_setSplit_13 rfl hl (by decide) rfl (fun ls hl => ?_)
  refine lv_aload_n hx hb dX5_setSplit_14 rfl (lv_at hl 1 rfl) ?_
  refine va_get (D := κ.1) (ci := 5) (v := .ref (kR κ this 3)) (C := RX5) (T := TX5) (N := 10) hx hb hg inX5 hown hK (hT.o7 (hT.k t_this (by decide))).one 0 rfl rfl 3 (by decide) (hg _ k382) (fun _ h9 => h9) rfl dX5_setSplit_15 ?_
  rw [er5]
  refine lv_iload_n hx hb dX5_setSplit_18 rfl (lv_at hl 2 rfl) ?_
  have hTo := hT
  refine pf3_7 hx hb hg hown hK hT (hT.k tr5 (by decide)) rfl (hg _ k292) dX5_setSplit_19 (fun H locs s7 hus7 hT => ?_)
  have e8 : zI s7 r5 7 = x := zput_at hus7
  refine lv_iload_n hx hb dX5_setSplit_22 rfl (lv_at hl 0 rfl) ?_
  subst hQ9
  exact vx_ret (t_i hx hb hr hlocks hT trivial dX5_setSplit_23)
set_option maxHeartbeats 4000000 in
set_option maxRecDepth 100000 in
theorem X5_setPredict (l : Launch) (κ : Kt) (σ0 : Gh) (this : Nat) (x : Int32) (t_this : zk σ0 this 7) (hlt : l.stackTraces = false) : TX l yX5_setPredict cX5_setPredict 3 (some .int) 7 112 [.ref this, .int x] κ σ0 (tqi κ fSet σ0 (fun (r : Int32) (τ : Gh) => True)) (txq κ fSet σ0 (fun (E : String) (τ : Gh) => E = "java/lang/IllegalArgumentException")) := by
  refine TX.of fSet (by decide +kernel) (Nat.le_of_ble_eq_true rfl) ?_
  intro p e s m below meth c ls hcs hout hK hX hT hl
  obtain ⟨hx, hb, hr, hml, hown, hg, hlocks, hin⟩ := hcs
  have hown : s.vm.findClass RX5 = some m.cls := hown
  have hl : lv_has ls 3 [(0, .ref this), (1, .int x)] := hl
  have hT0 := hT
  have n0 : (0 : Int32).toInt = 0 := by decide
  have n2 : (2 : Int32).toInt = 2 := by decide
  have x_lo := Int32.le_toInt x
  have x_hi := Int32.toInt_lt x
  generalize hQ9 : tQX _ _ _ _ _ _ _ = Q9
  refine lv_iload_n hx hb dX5_setPredict_0 rfl (lv_at hl 1 rfl) ?_
  refine lv_iconst (v := 0) hx hb dX5_setPredict_1 (by decide) ?_
  refine lv_iconst (v := 2) hx hb dX5_setPredict_2 (by decide) ?_
  have hTo := hT
  refine xtSv (n := 3) (As := [.int x, .int 0, .int 2]) (rest := []) hx hb hml hown hg hT hK hX (X5_needRange l κ σ0 x 0 2    hlt) sub_fE_fSet (mwS k909 k910 k84 k911) ⟨rfl, by decide, by decide, by decide +kernel⟩ ⟨(Nat.le_of_ble_eq_true rfl), (Nat.le_of_ble_eq_true rfl)⟩ rfl hl.1 rfl (Nat.le_of_ble_eq_true rfl) dX5_setPredict_3 zroomX.rf (fun E9 ce9 q9 τ9 H9 locs9 hp9 hE9 hT9 hce9 hcv9 hcl9 => by subst hQ9; exact tx_out hT9 hp9.1 hout hlocks hce9 hcv9 hcl9) (fun s2 H locs hφ hEs2 hT => ?_)
  obtain ⟨f3, f4⟩ := hφ
  refine lv_aload_n hx hb dX5_setPredict_6 rfl (lv_at hl 0 rfl) ?_
  obtain ⟨r5, er5⟩ : ∃ z, kR κ this 3 = z := ⟨_, rfl⟩
  have tr5 : zk σ0 r5 3 := by rw [← er5]; exact hT0.ref t_this (by decide) (by decide) (by decide)
  refine va_get (D := κ.1) (ci := 5) (v := .ref (kR κ this 3)) (C := RX5) (T := TX5) (N := 10) hx hb hg inX5 hown hK (hT.o7 (hT.k t_this (by decide))).one 0 rfl rfl 3 (by decide) (hg _ k382) (fun _ h9 => h9) rfl dX5_setPredict_7 ?_
  rw [er5]
  obtain ⟨v6, ev6⟩ : ∃ zz9 : Int32, zI s2 r5 8 = zz9 := ⟨_, rfl⟩
  have qv6 : v6.toInt = (zI s2 r5 8).toInt := by rw [ev6]
  refine va_get (D := κ.1) (ci := 1) (v := .int (zI s2 r5 8)) (C := RX1) (T := TX1) (N := 13) hx hb hg inX1 hown hK (hT.o3 (hT.k tr5 (by decide))).one 0 rfl rfl 8 (by decide) (hg _ k294) (fun _ h9 => h9) rfl dX5_setPredict_10 ?_
  rw [ev6]
  refine lv_istore_n (lv' := [(2, .int v6), (0, .ref this), (1, .int x)]) hx hb dX5_setPredict_13 rfl hl (by decide) rfl (fun ls hl => ?_)
  refine lv_aload_n hx hb dX5_setPredict_14 rfl (lv_at hl 1 rfl) ?_
  refine va_get (D := κ.1) (ci := 5) (v := .ref (kR κ this 3)) (C := RX5) (T := TX5) (N := 10) hx hb hg inX5 hown hK (hT.o7 (hT.k t_this (by decide))).one 0 rfl rfl 3 (by decide) (hg _ k382) (fun _ h9 => h9) rfl dX5_setPredict_15 ?_
  rw [er5]
  refine lv_iload_n hx hb dX5_setPredict_18 rfl (lv_at hl 2 rfl) ?_
  have hTo := hT
  refine pf3_8 hx hb hg hown hK hT (hT.k tr5 (by decide)) rfl (hg _ k294) dX5_setPredict_19 (fun H locs s7 hus7 hT => ?_)
  have e8 : zI s7 r5 8 = x := zput_at hus7
  refine lv_iload_n hx hb dX5_setPredict_22 rfl (lv_at hl 0 rfl) ?_
  subst hQ9
  exact vx_ret (t_i hx hb hr hlocks hT trivial dX5_setPredict_23)
set_option maxHeartbeats 4000000 in
set_option maxRecDepth 100000 in
theorem X5_setUpdate (l : Launch) (κ : Kt) (σ0 : Gh) (this : Nat) (x : Int32) (t_this : zk σ0 this 7) (b_x : isB x) : TC l yX5_setUpdate cX5_setUpdate 3 (some .boolean) 0 0 [.ref this, .int x] κ σ0 (tqi κ fSet σ0 (fun (r : Int32) (τ : Gh) => (isB r))) := by
  refine TC.of fSet (by decide +kernel) (Nat.le_of_ble_eq_true rfl) ?_
  intro p e s m below meth c ls hcs hK hX hT hl
  obtain ⟨hx, hb, hr, hml, hown, hg, hlocks, hin⟩ := hcs
  have hown : s.vm.findClass RX5 = some m.cls := hown
  have hl : lv_has ls 3 [(0, .ref this), (1, .int x)] := hl
  have hT0 := hT
  generalize hQ9 : tQ _ _ _ _ _ _ = Q9
  refine lv_aload_n hx hb dX5_setUpdate_0 rfl (lv_at hl 0 rfl) ?_
  obtain ⟨r1, er1⟩ : ∃ z, kR κ this 3 = z := ⟨_, rfl⟩
  have tr1 : zk σ0 r1 3 := by rw [← er1]; exact hT0.ref t_this (by decide) (by decide) (by decide)
  refine va_get (D := κ.1) (ci := 5) (v := .ref (kR κ this 3)) (C := RX5) (T := TX5) (N := 10) hx hb hg inX5 hown hK (hT.o7 (hT.k t_this (by decide))).one 0 rfl rfl 3 (by decide) (hg _ k382) (fun _ h9 => h9) rfl dX5_setUpdate_1 ?_
  rw [er1]
  obtain ⟨v2, ev2⟩ : ∃ zz9 : Int32, zI σ0 r1 9 = zz9 := ⟨_, rfl⟩
  have qv2 : v2.toInt = (zI σ0 r1 9).toInt := by rw [ev2]
  have b3 : isB v2 := by have q9 := (hT.P (hT.k tr1 (by decide)) (by decide)).2; rw [ev2] at q9; exact q9
  refine va_get (D := κ.1) (ci := 1) (v := .int (zI σ0 r1 9)) (C := RX1) (T := TX1) (N := 13) hx hb hg inX1 hown hK (hT.o3 (hT.k tr1 (by decide))).one 0 rfl rfl 9 (by decide) (hg _ k296) (fun _ h9 => h9) rfl dX5_setUpdate_4 ?_
  rw [ev2]
  refine lv_istore_n (lv' := [(2, .int v2), (0, .ref this), (1, .int x)]) hx hb dX5_setUpdate_7 rfl hl (by decide) rfl (fun ls hl => ?_)
  refine lv_aload_n hx hb dX5_setUpdate_8 rfl (lv_at hl 1 rfl) ?_
  refine va_get (D := κ.1) (ci := 5) (v := .ref (kR κ this 3)) (C := RX5) (T := TX5) (N := 10) hx hb hg inX5 hown hK (hT.o7 (hT.k t_this (by decide))).one 0 rfl rfl 3 (by decide) (hg _ k382) (fun _ h9 => h9) rfl dX5_setUpdate_9 ?_
  rw [er1]
  refine lv_iload_n hx hb dX5_setUpdate_12 rfl (lv_at hl 2 rfl) ?_
  have hTo := hT
  refine pf3_9 hx hb hg hown hK hT (hT.k tr1 (by decide)) rfl b_x (hg _ k296) dX5_setUpdate_13 (fun H locs s4 hus4 hT => ?_)
  have e5 : zI s4 r1 9 = x := zput_at hus4
  refine lv_iload_n hx hb dX5_setUpdate_16 rfl (lv_at hl 0 rfl) ?_
  subst hQ9
  exact t_z hx hb hr b3 hlocks hT b3 dX5_setUpdate_17
set_option maxHeartbeats 4000000 in
set_option maxRecDepth 100000 in
theorem X5_set (l : Launch) (κ : Kt) (σ0 : Gh) (this : Nat) (i : Int32) (x : Int32) (t_this : zk σ0 this 7) (hlt : l.stackTraces = false) : TX l yX5_set cX5_set 5 (some .long) 7 113 [.ref this, .int i, .int x] κ σ0 (tql κ fWr σ0 (fun (r : Int64) (τ : Gh) => True)) (txq κ fWr σ0 (fun (E : String) (τ : Gh) => E = "java/lang/IndexOutOfBoundsException" ∨ E = "java/lang/IllegalArgumentException" ∨ E = "java/lang/IllegalStateException")) := by
  refine TX.of fWr (by decide +kernel) (Nat.le_of_ble_eq_true rfl) ?_
  intro p e s m below meth c ls hcs hout hK hX hT hl
  obtain ⟨hx, hb, hr, hml, hown, hg, hlocks, hin⟩ := hcs
  have hown : s.vm.findClass RX5 = some m.cls := hown
  have hl : lv_has ls 5 [(0, .ref this), (1, .int i), (2, .int x)] := hl
  have hT0 := hT
  have nm9999 : ((-9999) : Int32).toInt = (-9999) := by decide
  have n0 : (0 : Int32).toInt = 0 := by decide
  have n4 : (4 : Int32).toInt = 4 := by decide
  have n6 : (6 : Int32).toInt = 6 := by decide
  have n9999 : (9999 : Int32).toInt = 9999 := by decide
  have i_lo := Int32.le_toInt i
  have i_hi := Int32.toInt_lt i
  have x_lo := Int32.le_toInt x
  have x_hi := Int32.toInt_lt x
  generalize hQ9 : tQX _ _ _ _ _ _ _ = Q9
  refine lv_iload_n hx hb dX5_set_0 rfl (lv_at hl 1 rfl) ?_
  refine lv_aload_n hx hb dX5_set_1 rfl (lv_at hl 0 rfl) ?_
  obtain ⟨r1, er1⟩ : ∃ z, kR κ this 1 = z := ⟨_, rfl⟩
  have tr1 : zk σ0 r1 4 := by rw [← er1]; exact hT0.ref t_this (by decide) (by decide) (by decide)
  refine va_get (D := κ.1) (ci := 5) (v := .ref (kR κ this 1)) (C := RX5) (T := TX5) (N := 10) hx hb hg inX5 hown hK (hT.o7 (hT.k t_this (by decide))).one 0 rfl rfl 1 (by decide) (hg _ k380) (fun _ h9 => h9) rfl dX5_set_2 ?_
  rw [er1]
  obtain ⟨v2, ev2⟩ : ∃ zz9 : Int32, zI σ0 r1 2 = zz9 := ⟨_, rfl⟩
  have qv2 : v2.toInt = (zI σ0 r1 2).toInt := by rw [ev2]
  have b3 := (hT.P (hT.k tr1 (by decide)) (by decide)).1
  rw [(hT.eI tr1 (by decide) rfl ev2)] at b3
  have b3l := b3.1
  have b3h := b3.2
  refine va_get (D := κ.1) (ci := 0) (v := .int (zI σ0 r1 2)) (C := RX0) (T := TX0) (N := 7) hx hb hg inX0 hown hK (hT.o4 (hT.k tr1 (by decide))).one 0 rfl rfl 2 (by decide) (hg _ k163) (fun _ h9 => h9) rfl dX5_set_5 ?_
  rw [(hT.eI tr1 (by decide) rfl ev2)]
  have hTo := hT
  refine xtSv (n := 2) (As := [.int i, .int v2]) (rest := []) hx hb hml hown hg hT hK hX (X5_needIndex l κ σ0 i v2    hlt) sub_fE_fWr (mwS k610 k611 k84 k612) ⟨rfl, by decide, by decide, by decide +kernel⟩ ⟨(Nat.le_of_ble_eq_true rfl), (Nat.le_of_ble_eq_true rfl)⟩ rfl hl.1 rfl (Nat.le_of_ble_eq_true rfl) dX5_set_8 zroomX.rf (fun E9 ce9 q9 τ9 H9 locs9 hp9 hE9 hT9 hce9 hcv9 hcl9 => by subst hQ9; exact tx_out hT9 (Or.inl hp9.1) hout hlocks hce9 hcv9 hcl9) (fun s5 H locs hφ hEs5 hT => ?_)
  obtain ⟨f6, f7⟩ := hφ
  refine lv_iload_n hx hb dX5_set_11 rfl (lv_at hl 2 rfl) ?_
  refine lv_sipush (v := (-9999)) hx hb dX5_set_12 (by decide) ?_
  refine lv_sipush (v := 9999) hx hb dX5_set_15 (by decide) ?_
  have hTo := hT
  refine xtSv (n := 3) (As := [.int x, .int (-9999), .int 9999]) (rest := []) hx hb hml hown hg hT hK hX (X5_needRange l κ s5 x (-9999) 9999    hlt) sub_fE_fWr (mwS k909 k910 k84 k911) ⟨rfl, by decide, by decide, by decide +kernel⟩ ⟨(Nat.le_of_ble_eq_true rfl), (Nat.le_of_ble_eq_true rfl)⟩ rfl hl.1 rfl (Nat.le_of_ble_eq_true rfl) dX5_set_18 zroomX.rf (fun E9 ce9 q9 τ9 H9 locs9 hp9 hE9 hT9 hce9 hcv9 hcl9 => by subst hQ9; exact tx_out hT9 (Or.inr (Or.inl hp9.1)) hout hlocks hce9 hcv9 hcl9) (fun s9 H locs hφ hEs9 hT => ?_)
  obtain ⟨f10, f11⟩ := hφ
  refine lv_aload_n hx hb dX5_set_21 rfl (lv_at hl 0 rfl) ?_
  obtain ⟨r12, er12⟩ : ∃ z, kR κ this 3 = z := ⟨_, rfl⟩
  have tr12 : zk σ0 r12 3 := by rw [← er12]; exact hT0.ref t_this (by decide) (by decide) (by decide)
  refine va_get (D := κ.1) (ci := 5) (v := .ref (kR κ this 3)) (C := RX5) (T := TX5) (N := 10) hx hb hg inX5 hown hK (hT.o7 (hT.k t_this (by decide))).one 0 rfl rfl 3 (by decide) (hg _ k382) (fun _ h9 => h9) rfl dX5_set_22 ?_
  rw [er12]
  refine lv_iload_n hx hb dX5_set_25 rfl (lv_at hl 1 rfl) ?_
  have hTo := hT
  refine tVi (n := 1) (As := [.int i]) (rest := []) hx hb hml hown hg hT hK hX (X1_isPresent l κ s9 r12 i  (hT.k tr12 (by decide)) (by omega) (by omega)) sub_fE_fWr (mwV k861 k460 k461 k87 k462) ⟨rfl, by decide, by decide, by decide +kernel⟩ ⟨(Nat.le_of_ble_eq_true rfl), (Nat.le_of_ble_eq_true rfl)⟩ (hT.o3 (hT.k tr12 (by decide))) rfl rfl hl.1 rfl (Nat.le_of_ble_eq_true rfl) dX5_set_26 zroom.up (fun x13 s14 H locs hφ hEs14 hT => ?_)
  have f15 := hφ
  refine lv_if_ne (tgt := 40) hx hb dX5_set_29 (by decide) (fun c9 => ?_) (fun c9 => ?_)
  · have c1 := gi_ne c9
    refine lv_aload_n hx hb dX5_set_40 rfl (lv_at hl 0 rfl) ?_
    refine va_get (D := κ.1) (ci := 5) (v := .ref (kR κ this 3)) (C := RX5) (T := TX5) (N := 10) hx hb hg inX5 hown hK (hT.o7 (hT.k t_this (by decide))).one 0 rfl rfl 3 (by decide) (hg _ k382) (fun _ h9 => h9) rfl dX5_set_41 ?_
    rw [er12]
    obtain ⟨r16, er16⟩ : ∃ z, kR κ r12 1 = z := ⟨_, rfl⟩
    have tr16 : zk σ0 r16 10 := by rw [← er16]; exact hT0.ref tr12 (by decide) (by decide) (by decide)
    refine va_get (D := κ.1) (ci := 1) (v := .ref (kR κ r12 1)) (C := RX1) (T := TX1) (N := 13) hx hb hg inX1 hown hK (hT.o3 (hT.k tr12 (by decide))).one 0 rfl rfl 1 (by decide) (hg _ k280) (fun _ h9 => h9) rfl dX5_set_44 ?_
    rw [er16]
    refine lv_iload_n hx hb dX5_set_47 rfl (lv_at hl 1 rfl) ?_
    refine va_aldq hx hb hK (hT.o10 (hT.k tr16 (by decide))).one 0 4 rfl rfl (g_in (by omega) (by omega)) dX5_set_48 ?_
    obtain ⟨r18, er18⟩ : ∃ z, kR κ r16 (ix i) = z := ⟨_, rfl⟩
    have tr18 : zk σ0 r18 1 := by rw [← er18]; exact hT0.ref tr16 (by decide) (zR10 (ix_lt (by omega) (by omega))) (by decide)
    refine tv (.ref r18) (by rw [← er18]; rfl) ?_
    obtain ⟨h21, oh21, th21⟩ := hT.o1 (hT.k tr18 (by decide))
    have hTo := hT
    refine tVl (n := 0) (As := []) (rest := []) hx hb hml hown hg hT hK hX (X4_toLong l κ s14 r18  (hT.k tr18 (by decide)) ) sub_fE_fWr (mwV k435 k436 k437 k88 k438) ⟨rfl, by decide, by decide, by decide +kernel⟩ ⟨(Nat.le_of_ble_eq_true rfl), (Nat.le_of_ble_eq_true rfl)⟩ oh21 rfl rfl hl.1 rfl (Nat.le_of_ble_eq_true rfl) dX5_set_49 zroom.up (fun x19 s20 H locs hφ hEs20 hT => ?_)
    refine lv_lstore_n (lv' := [(3, .long x19), (0, .ref this), (1, .int i), (2, .int x)]) hx hb dX5_set_52 rfl hl (by decide) rfl (fun ls hl => ?_)
    refine lv_aload_n hx hb dX5_set_53 rfl (lv_at hl 1 rfl) ?_
    refine va_get (D := κ.1) (ci := 5) (v := .ref (kR κ this 3)) (C := RX5) (T := TX5) (N := 10) hx hb hg inX5 hown hK (hT.o7 (hT.k t_this (by decide))).one 0 rfl rfl 3 (by decide) (hg _ k382) (fun _ h9 => h9) rfl dX5_set_54 ?_
    rw [er12]
    refine lv_iload_n hx hb dX5_set_57 rfl (lv_at hl 2 rfl) ?_
    refine lv_iload_n hx hb dX5_set_58 rfl (lv_at hl 3 rfl) ?_
    have hTo := hT
    refine tVv (n := 2) (As := [.int i, .int x]) (rest := []) hx hb hml hown hg hT hK hX (X1_changeValue l κ s20 r12 i x  (hT.k tr12 (by decide)) (by omega) (by omega)) sub_fW_fWr (mwV k1009 k1010 k1011 k87 k1012) ⟨rfl, by decide, by decide, by decide +kernel⟩ ⟨(Nat.le_of_ble_eq_true rfl), (Nat.le_of_ble_eq_true rfl)⟩ (hT.o3 (hT.k tr12 (by decide))) rfl rfl hl.1 rfl (Nat.le_of_ble_eq_true rfl) dX5_set_59 zroom.up (fun s23 H locs hφ hEs23 hT => ?_)
    refine lv_lload_n hx hb dX5_set_62 rfl (lv_at hl 0 rfl) ?_
    subst hQ9
    exact vx_ret (t_l hx hb hr hlocks hT trivial dX5_set_63)
  · have c2 := gi_eq c9
    refine lv_aload_n hx hb dX5_set_32 rfl (lv_at hl 0 rfl) ?_
    refine lv_bipush (v := 6) hx hb dX5_set_33 (by decide) ?_
    refine lv_iconst (v := 4) hx hb dX5_set_35 (by decide) ?_
    refine lv_iload_n hx hb dX5_set_36 rfl (lv_at hl 1 rfl) ?_
    have hTo := hT
    refine xtVv (n := 3) (As := [.int 6, .int 4, .int i]) (rest := []) hx hb hml hown hg hT hK hX (X5_refuse l κ s14 this 6 4 i  (hT.k t_this (by decide))  hlt) sub_fRf_fWr (mwV k989 k991 k30 k84 k992) ⟨rfl, by decide, by decide, by decide +kernel⟩ ⟨(Nat.le_of_ble_eq_true rfl), (Nat.le_of_ble_eq_true rfl)⟩ (hT.o7 (hT.k t_this (by decide))) rfl rfl hl.1 rfl (Nat.le_of_ble_eq_true rfl) dX5_set_37 zroomX.rf (fun E9 ce9 q9 τ9 H9 locs9 hp9 hE9 hT9 hce9 hcv9 hcl9 => by subst hQ9; exact tx_out hT9 (Or.inr (Or.inr hp9)) hout hlocks hce9 hcv9 hcl9) (fun s25 H locs hφ hEs25 hT => ?_)
    exact hφ.elim
set_option maxHeartbeats 4000000 in
set_option maxRecDepth 100000 in
theorem X5_noise (l : Launch) (κ : Kt) (σ0 : Gh) (this : Nat) (sd : Int32) (lv : Int32) (t_this : zk σ0 this 7) (hlt : l.stackTraces = false) : TX l yX5_noise cX5_noise 3 (some .long) 7 115 [.ref this, .int sd, .int lv] κ σ0 (tql κ fWr σ0 (fun (r : Int64) (τ : Gh) => True)) (txq κ fWr σ0 (fun (E : String) (τ : Gh) => E = "java/lang/IllegalArgumentException" ∨ E = "java/lang/IllegalStateException")) := by
  refine TX.of fWr (by decide +kernel) (Nat.le_of_ble_eq_true rfl) ?_
  intro p e s m below meth c ls hcs hout hK hX hT hl
  obtain ⟨hx, hb, hr, hml, hown, hg, hlocks, hin⟩ := hcs
  have hown : s.vm.findClass RX5 = some m.cls := hown
  have hl : lv_has ls 3 [(0, .ref this), (1, .int sd), (2, .int lv)] := hl
  have hT0 := hT
  have nm1 : ((-1) : Int32).toInt = (-1) := by decide
  have n0 : (0 : Int32).toInt = 0 := by decide
  have n7 : (7 : Int32).toInt = 7 := by decide
  have n999 : (999 : Int32).toInt = 999 := by decide
  have sd_lo := Int32.le_toInt sd
  have sd_hi := Int32.toInt_lt sd
  have lv_lo := Int32.le_toInt lv
  have lv_hi := Int32.toInt_lt lv
  generalize hQ9 : tQX _ _ _ _ _ _ _ = Q9
  refine lv_iload_n hx hb dX5_noise_0 rfl (lv_at hl 2 rfl) ?_
  refine lv_iconst (v := 0) hx hb dX5_noise_1 (by decide) ?_
  refine lv_sipush (v := 999) hx hb dX5_noise_2 (by decide) ?_
  have hTo := hT
  refine xtSv (n := 3) (As := [.int lv, .int 0, .int 999]) (rest := []) hx hb hml hown hg hT hK hX (X5_needRange l κ σ0 lv 0 999    hlt) sub_fE_fWr (mwS k909 k910 k84 k911) ⟨rfl, by decide, by decide, by decide +kernel⟩ ⟨(Nat.le_of_ble_eq_true rfl), (Nat.le_of_ble_eq_true rfl)⟩ rfl hl.1 rfl (Nat.le_of_ble_eq_true rfl) dX5_noise_5 zroomX.rf (fun E9 ce9 q9 τ9 H9 locs9 hp9 hE9 hT9 hce9 hcv9 hcl9 => by subst hQ9; exact tx_out hT9 (Or.inl hp9.1) hout hlocks hce9 hcv9 hcl9) (fun s2 H locs hφ hEs2 hT => ?_)
  obtain ⟨f3, f4⟩ := hφ
  refine lv_aload_n hx hb dX5_noise_8 rfl (lv_at hl 0 rfl) ?_
  obtain ⟨r5, er5⟩ : ∃ z, kR κ this 3 = z := ⟨_, rfl⟩
  have tr5 : zk σ0 r5 3 := by rw [← er5]; exact hT0.ref t_this (by decide) (by decide) (by decide)
  refine va_get (D := κ.1) (ci := 5) (v := .ref (kR κ this 3)) (C := RX5) (T := TX5) (N := 10) hx hb hg inX5 hown hK (hT.o7 (hT.k t_this (by decide))).one 0 rfl rfl 3 (by decide) (hg _ k382) (fun _ h9 => h9) rfl dX5_noise_9 ?_
  rw [er5]
  obtain ⟨v6, ev6⟩ : ∃ zz9 : Int32, zI σ0 r5 5 = zz9 := ⟨_, rfl⟩
  have qv6 : v6.toInt = (zI σ0 r5 5).toInt := by rw [ev6]
  have b7 := (hT.P (hT.k tr5 (by decide)) (by decide)).1
  rw [(hT.eI tr5 (by decide) rfl ev6)] at b7
  have b7l := b7.1
  have b7h := b7.2
  refine va_get (D := κ.1) (ci := 1) (v := .int (zI s2 r5 5)) (C := RX1) (T := TX1) (N := 13) hx hb hg inX1 hown hK (hT.o3 (hT.k tr5 (by decide))).one 0 rfl rfl 5 (by decide) (hg _ k288) (fun _ h9 => h9) rfl dX5_noise_12 ?_
  rw [(hT.eI tr5 (by decide) rfl ev6)]
  refine lv_if_le (tgt := 26) hx hb dX5_noise_15 (by decide) (fun c9 => ?_) (fun c9 => ?_)
  · have c1 := gi_le c9
    refine lv_aload_n hx hb dX5_noise_26 rfl (lv_at hl 0 rfl) ?_
    refine va_get (D := κ.1) (ci := 5) (v := .ref (kR κ this 3)) (C := RX5) (T := TX5) (N := 10) hx hb hg inX5 hown hK (hT.o7 (hT.k t_this (by decide))).one 0 rfl rfl 3 (by decide) (hg _ k382) (fun _ h9 => h9) rfl dX5_noise_27 ?_
    rw [er5]
    refine lv_iload_n hx hb dX5_noise_30 rfl (lv_at hl 1 rfl) ?_
    refine lv_iload_n hx hb dX5_noise_31 rfl (lv_at hl 2 rfl) ?_
    have hTo := hT
    refine tVv (n := 2) (As := [.int sd, .int lv]) (rest := []) hx hb hml hown hg hT hK hX (X1_addNoise l κ s2 r5 sd lv  (hT.k tr5 (by decide)) ) sub_fW_fWr (mwV k1020 k1021 k1022 k87 k1023) ⟨rfl, by decide, by decide, by decide +kernel⟩ ⟨(Nat.le_of_ble_eq_true rfl), (Nat.le_of_ble_eq_true rfl)⟩ (hT.o3 (hT.k tr5 (by decide))) rfl rfl hl.1 rfl (Nat.le_of_ble_eq_true rfl) dX5_noise_32 zroom.up (fun s9 H locs hφ hEs9 hT => ?_)
    refine lv_aload_n hx hb dX5_noise_35 rfl (lv_at hl 0 rfl) ?_
    refine va_get (D := κ.1) (ci := 5) (v := .ref (kR κ this 3)) (C := RX5) (T := TX5) (N := 10) hx hb hg inX5 hown hK (hT.o7 (hT.k t_this (by decide))).one 0 rfl rfl 3 (by decide) (hg _ k382) (fun _ h9 => h9) rfl dX5_noise_36 ?_
    rw [er5]
    have hTo := hT
    refine tVr (n := 0) (As := []) (rest := []) hx hb hml hown hg hT hK hX (X1_valueSum l κ s9 r5  (hT.k tr5 (by decide)) ) sub_fW_fWr (mwV k467 k468 k469 k87 k470) ⟨rfl, by decide, by decide, by decide +kernel⟩ ⟨(Nat.le_of_ble_eq_true rfl), (Nat.le_of_ble_eq_true rfl)⟩ (hT.o3 (hT.k tr5 (by decide))) rfl rfl hl.1 rfl (Nat.le_of_ble_eq_true rfl) dX5_noise_39 zroom.up (fun x10 s11 H locs hφ hEs11 hT => ?_)
    have f12 := hφ
    have tx10 : zk σ0 x10 1 := hTo.kr f12 (by decide) (by decide)
    obtain ⟨h15, oh15, th15⟩ := hT.o1 (hT.k tx10 (by decide))
    have hTo := hT
    refine tVl (n := 0) (As := []) (rest := []) hx hb hml hown hg hT hK hX (X4_toLong l κ s11 x10  (hT.k tx10 (by decide)) ) sub_fE_fWr (mwV k435 k436 k437 k88 k438) ⟨rfl, by decide, by decide, by decide +kernel⟩ ⟨(Nat.le_of_ble_eq_true rfl), (Nat.le_of_ble_eq_true rfl)⟩ oh15 rfl rfl hl.1 rfl (Nat.le_of_ble_eq_true rfl) dX5_noise_42 zroom.up (fun x13 s14 H locs hφ hEs14 hT => ?_)
    subst hQ9
    exact vx_ret (t_l hx hb hr hlocks hT trivial dX5_noise_45)
  · have c2 := gi_nle c9
    refine lv_aload_n hx hb dX5_noise_18 rfl (lv_at hl 0 rfl) ?_
    refine lv_bipush (v := 7) hx hb dX5_noise_19 (by decide) ?_
    refine lv_iconst (v := 0) hx hb dX5_noise_21 (by decide) ?_
    refine lv_iconst (v := (-1)) hx hb dX5_noise_22 (by decide) ?_
    have hTo := hT
    refine xtVv (n := 3) (As := [.int 7, .int 0, .int (-1)]) (rest := []) hx hb hml hown hg hT hK hX (X5_refuse l κ s2 this 7 0 (-1)  (hT.k t_this (by decide))  hlt) sub_fRf_fWr (mwV k989 k991 k30 k84 k992) ⟨rfl, by decide, by decide, by decide +kernel⟩ ⟨(Nat.le_of_ble_eq_true rfl), (Nat.le_of_ble_eq_true rfl)⟩ (hT.o7 (hT.k t_this (by decide))) rfl rfl hl.1 rfl (Nat.le_of_ble_eq_true rfl) dX5_noise_23 zroomX.rf (fun E9 ce9 q9 τ9 H9 locs9 hp9 hE9 hT9 hce9 hcv9 hcl9 => by subst hQ9; exact tx_out hT9 (Or.inr hp9) hout hlocks hce9 hcv9 hcl9) (fun s17 H locs hφ hEs17 hT => ?_)
    exact hφ.elim
set_option maxHeartbeats 4000000 in
set_option maxRecDepth 100000 in
theorem X5_reset (l : Launch) (κ : Kt) (σ0 : Gh) (this : Nat) (t_this : zk σ0 this 7) : TC l yX5_reset cX5_reset 2 (some .int) 4 110 [.ref this] κ σ0 (tqi κ fBe σ0 (fun (r : Int32) (τ : Gh) => True)) := by
  refine TC.of fBe (by decide +kernel) (Nat.le_of_ble_eq_true rfl) ?_
  intro p e s m below meth c ls hcs hK hX hT hl
  obtain ⟨hx, hb, hr, hml, hown, hg, hlocks, hin⟩ := hcs
  have hown : s.vm.findClass RX5 = some m.cls := hown
  have hl : lv_has ls 2 [(0, .ref this)] := hl
  have hT0 := hT
  generalize hQ9 : tQ _ _ _ _ _ _ = Q9
  refine lv_aload_n hx hb dX5_reset_0 rfl (lv_at hl 0 rfl) ?_
  obtain ⟨r1, er1⟩ : ∃ z, kR κ this 3 = z := ⟨_, rfl⟩
  have tr1 : zk σ0 r1 3 := by rw [← er1]; exact hT0.ref t_this (by decide) (by decide) (by decide)
  refine va_get (D := κ.1) (ci := 5) (v := .ref (kR κ this 3)) (C := RX5) (T := TX5) (N := 10) hx hb hg inX5 hown hK (hT.o7 (hT.k t_this (by decide))).one 0 rfl rfl 3 (by decide) (hg _ k382) (fun _ h9 => h9) rfl dX5_reset_1 ?_
  rw [er1]
  obtain ⟨v2, ev2⟩ : ∃ zz9 : Int32, zI σ0 r1 5 = zz9 := ⟨_, rfl⟩
  have qv2 : v2.toInt = (zI σ0 r1 5).toInt := by rw [ev2]
  have b3 := (hT.P (hT.k tr1 (by decide)) (by decide)).1
  rw [ev2] at b3
  have b3l := b3.1
  have b3h := b3.2
  refine va_get (D := κ.1) (ci := 1) (v := .int (zI σ0 r1 5)) (C := RX1) (T := TX1) (N := 13) hx hb hg inX1 hown hK (hT.o3 (hT.k tr1 (by decide))).one 0 rfl rfl 5 (by decide) (hg _ k288) (fun _ h9 => h9) rfl dX5_reset_4 ?_
  rw [ev2]
  refine lv_istore_n (lv' := [(1, .int v2), (0, .ref this)]) hx hb dX5_reset_7 rfl hl (by decide) rfl (fun ls hl => ?_)
  refine lv_aload_n hx hb dX5_reset_8 rfl (lv_at hl 1 rfl) ?_
  refine va_get (D := κ.1) (ci := 5) (v := .ref (kR κ this 3)) (C := RX5) (T := TX5) (N := 10) hx hb hg inX5 hown hK (hT.o7 (hT.k t_this (by decide))).one 0 rfl rfl 3 (by decide) (hg _ k382) (fun _ h9 => h9) rfl dX5_reset_9 ?_
  rw [er1]
  have hTo := hT
  refine tVv (n := 0) (As := []) (rest := []) hx hb hml hown hg hT hK hX (X1_begin l κ σ0 r1  (hT.k tr1 (by decide)) ) (fun _ _ h => h) (mwV k332 k333 k334 k87 k335) ⟨rfl, by decide, by decide, by decide +kernel⟩ ⟨(Nat.le_of_ble_eq_true rfl), (Nat.le_of_ble_eq_true rfl)⟩ (hT.o3 (hT.k tr1 (by decide))) rfl rfl hl.1 rfl (Nat.le_of_ble_eq_true rfl) dX5_reset_12 zroom.rf (fun s5 H locs hφ hEs5 hT => ?_)
  refine lv_iload_n hx hb dX5_reset_15 rfl (lv_at hl 0 rfl) ?_
  subst hQ9
  exact t_i hx hb hr hlocks hT trivial dX5_reset_16
set_option maxHeartbeats 4000000 in
set_option maxRecDepth 100000 in
theorem X5_forward (l : Launch) (κ : Kt) (σ0 : Gh) (this : Nat) (n : Int32) (t_this : zk σ0 this 7) (hlt : l.stackTraces = false) : TX l yX5_forward cX5_forward 3 (some .int) 7 187 [.ref this, .int n] κ σ0 (tqi κ fLr σ0 (fun (r : Int32) (τ : Gh) => True)) (txq κ fLr σ0 (fun (E : String) (τ : Gh) => E = "java/lang/IllegalArgumentException" ∨ E = "java/lang/IllegalStateException")) := by
  refine TX.of fLr (by decide +kernel) (Nat.le_of_ble_eq_true rfl) ?_
  intro p e s m below meth c ls hcs hout hK hX hT hl
  obtain ⟨hx, hb, hr, hml, hown, hg, hlocks, hin⟩ := hcs
  have hown : s.vm.findClass RX5 = some m.cls := hown
  have hl : lv_has ls 3 [(0, .ref this), (1, .int n)] := hl
  have hT0 := hT
  have nm1 : ((-1) : Int32).toInt = (-1) := by decide
  have n0 : (0 : Int32).toInt = 0 := by decide
  have n1 : (1 : Int32).toInt = 1 := by decide
  have n46 : (46 : Int32).toInt = 46 := by decide
  have n_lo := Int32.le_toInt n
  have n_hi := Int32.toInt_lt n
  generalize hQ9 : tQX _ _ _ _ _ _ _ = Q9
  refine lv_iload_n hx hb dX5_forward_0 rfl (lv_at hl 1 rfl) ?_
  refine lv_iconst (v := 1) hx hb dX5_forward_1 (by decide) ?_
  refine lv_bipush (v := 46) hx hb dX5_forward_2 (by decide) ?_
  have hTo := hT
  refine xtSv (n := 3) (As := [.int n, .int 1, .int 46]) (rest := []) hx hb hml hown hg hT hK hX (X5_needRange l κ σ0 n 1 46    hlt) sub_fE_fLr (mwS k909 k910 k84 k911) ⟨rfl, by decide, by decide, by decide +kernel⟩ ⟨(Nat.le_of_ble_eq_true rfl), (Nat.le_of_ble_eq_true rfl)⟩ rfl hl.1 rfl (Nat.le_of_ble_eq_true rfl) dX5_forward_4 zroomX.rf (fun E9 ce9 q9 τ9 H9 locs9 hp9 hE9 hT9 hce9 hcv9 hcl9 => by subst hQ9; exact tx_out hT9 (Or.inl hp9.1) hout hlocks hce9 hcv9 hcl9) (fun s2 H locs hφ hEs2 hT => ?_)
  obtain ⟨f3, f4⟩ := hφ
  refine lv_aload_n hx hb dX5_forward_7 rfl (lv_at hl 0 rfl) ?_
  obtain ⟨r5, er5⟩ : ∃ z, kR κ this 3 = z := ⟨_, rfl⟩
  have tr5 : zk σ0 r5 3 := by rw [← er5]; exact hT0.ref t_this (by decide) (by decide) (by decide)
  refine va_get (D := κ.1) (ci := 5) (v := .ref (kR κ this 3)) (C := RX5) (T := TX5) (N := 10) hx hb hg inX5 hown hK (hT.o7 (hT.k t_this (by decide))).one 0 rfl rfl 3 (by decide) (hg _ k382) (fun _ h9 => h9) rfl dX5_forward_8 ?_
  rw [er5]
  refine lv_iload_n hx hb dX5_forward_11 rfl (lv_at hl 1 rfl) ?_
  have hTo := hT
  refine tVi (n := 1) (As := [.int n]) (rest := []) hx hb hml hown hg hT hK hX (X1_liftChosen l κ s2 r5 n  (hT.k tr5 (by decide)) (by omega) (by omega)) sub_fLi_fLr (mwV k526 k527 k528 k87 k529) ⟨rfl, by decide, by decide, by decide +kernel⟩ ⟨(Nat.le_of_ble_eq_true rfl), (Nat.le_of_ble_eq_true rfl)⟩ (hT.o3 (hT.k tr5 (by decide))) rfl rfl hl.1 rfl (Nat.le_of_ble_eq_true rfl) dX5_forward_12 zroom.up (fun x6 s7 H locs hφ hEs7 hT => ?_)
  refine lv_istore_n (lv' := [(2, .int x6), (0, .ref this), (1, .int n)]) hx hb dX5_forward_15 rfl hl (by decide) rfl (fun ls hl => ?_)
  refine lv_iload_n hx hb dX5_forward_16 rfl (lv_at hl 0 rfl) ?_
  refine lv_if_ne (tgt := 27) hx hb dX5_forward_17 (by decide) (fun c9 => ?_) (fun c9 => ?_)
  · have c1 := gi_ne c9
    refine lv_iload_n hx hb dX5_forward_27 rfl (lv_at hl 0 rfl) ?_
    subst hQ9
    exact vx_ret (t_i hx hb hr hlocks hT trivial dX5_forward_28)
  · have c2 := gi_eq c9
    refine lv_aload_n hx hb dX5_forward_20 rfl (lv_at hl 1 rfl) ?_
    refine lv_iconst (v := 1) hx hb dX5_forward_21 (by decide) ?_
    refine lv_iconst (v := 0) hx hb dX5_forward_22 (by decide) ?_
    refine lv_iconst (v := (-1)) hx hb dX5_forward_23 (by decide) ?_
    have hTo := hT
    refine xtVv (n := 3) (As := [.int 1, .int 0, .int (-1)]) (rest := []) hx hb hml hown hg hT hK hX (X5_refuse l κ s7 this 1 0 (-1)  (hT.k t_this (by decide))  hlt) sub_fRf_fLr (mwV k989 k991 k30 k84 k992) ⟨rfl, by decide, by decide, by decide +kernel⟩ ⟨(Nat.le_of_ble_eq_true rfl), (Nat.le_of_ble_eq_true rfl)⟩ (hT.o7 (hT.k t_this (by decide))) rfl rfl hl.1 rfl (Nat.le_of_ble_eq_true rfl) dX5_forward_24 zroomX.rf (fun E9 ce9 q9 τ9 H9 locs9 hp9 hE9 hT9 hce9 hcv9 hcl9 => by subst hQ9; exact tx_out hT9 (Or.inr hp9) hout hlocks hce9 hcv9 hcl9) (fun s9 H locs hφ hEs9 hT => ?_)
    exact hφ.elim
set_option maxHeartbeats 4000000 in
set_option maxRecDepth 100000 in
theorem X5_lift (l : Launch) (κ : Kt) (σ0 : Gh) (this : Nat) (i : Int32) (t_this : zk σ0 this 7) (hlt : l.stackTraces = false) : TX l yX5_lift cX5_lift 2 (some .long) 7 139 [.ref this, .int i] κ σ0 (tql κ fLr σ0 (fun (r : Int64) (τ : Gh) => True)) (txq κ fLr σ0 (fun (E : String) (τ : Gh) => E = "java/lang/IndexOutOfBoundsException" ∨ E = "java/lang/IllegalStateException")) := by
  refine TX.of fLr (by decide +kernel) (Nat.le_of_ble_eq_true rfl) ?_
  intro p e s m below meth c ls hcs hout hK hX hT hl
  obtain ⟨hx, hb, hr, hml, hown, hg, hlocks, hin⟩ := hcs
  have hown : s.vm.findClass RX5 = some m.cls := hown
  have hl : lv_has ls 2 [(0, .ref this), (1, .int i)] := hl
  have hT0 := hT
  have n0 : (0 : Int32).toInt = 0 := by decide
  have n1 : (1 : Int32).toInt = 1 := by decide
  have n3 : (3 : Int32).toInt = 3 := by decide
  have n4 : (4 : Int32).toInt = 4 := by decide
  have n5 : (5 : Int32).toInt = 5 := by decide
  have i_lo := Int32.le_toInt i
  have i_hi := Int32.toInt_lt i
  generalize hQ9 : tQX _ _ _ _ _ _ _ = Q9
  refine lv_iload_n hx hb dX5_lift_0 rfl (lv_at hl 1 rfl) ?_
  refine lv_aload_n hx hb dX5_lift_1 rfl (lv_at hl 0 rfl) ?_
  obtain ⟨r1, er1⟩ : ∃ z, kR κ this 1 = z := ⟨_, rfl⟩
  have tr1 : zk σ0 r1 4 := by rw [← er1]; exact hT0.ref t_this (by decide) (by decide) (by decide)
  refine va_get (D := κ.1) (ci := 5) (v := .ref (kR κ this 1)) (C := RX5) (T := TX5) (N := 10) hx hb hg inX5 hown hK (hT.o7 (hT.k t_this (by decide))).one 0 rfl rfl 1 (by decide) (hg _ k380) (fun _ h9 => h9) rfl dX5_lift_2 ?_
  rw [er1]
  obtain ⟨v2, ev2⟩ : ∃ zz9 : Int32, zI σ0 r1 2 = zz9 := ⟨_, rfl⟩
  have qv2 : v2.toInt = (zI σ0 r1 2).toInt := by rw [ev2]
  have b3 := (hT.P (hT.k tr1 (by decide)) (by decide)).1
  rw [(hT.eI tr1 (by decide) rfl ev2)] at b3
  have b3l := b3.1
  have b3h := b3.2
  refine va_get (D := κ.1) (ci := 0) (v := .int (zI σ0 r1 2)) (C := RX0) (T := TX0) (N := 7) hx hb hg inX0 hown hK (hT.o4 (hT.k tr1 (by decide))).one 0 rfl rfl 2 (by decide) (hg _ k163) (fun _ h9 => h9) rfl dX5_lift_5 ?_
  rw [(hT.eI tr1 (by decide) rfl ev2)]
  have hTo := hT
  refine xtSv (n := 2) (As := [.int i, .int v2]) (rest := []) hx hb hml hown hg hT hK hX (X5_needIndex l κ σ0 i v2    hlt) sub_fE_fLr (mwS k610 k611 k84 k612) ⟨rfl, by decide, by decide, by decide +kernel⟩ ⟨(Nat.le_of_ble_eq_true rfl), (Nat.le_of_ble_eq_true rfl)⟩ rfl hl.1 rfl (Nat.le_of_ble_eq_true rfl) dX5_lift_8 zroomX.rf (fun E9 ce9 q9 τ9 H9 locs9 hp9 hE9 hT9 hce9 hcv9 hcl9 => by subst hQ9; exact tx_out hT9 (Or.inl hp9.1) hout hlocks hce9 hcv9 hcl9) (fun s5 H locs hφ hEs5 hT => ?_)
  obtain ⟨f6, f7⟩ := hφ
  refine lv_aload_n hx hb dX5_lift_11 rfl (lv_at hl 0 rfl) ?_
  obtain ⟨r8, er8⟩ : ∃ z, kR κ this 3 = z := ⟨_, rfl⟩
  have tr8 : zk σ0 r8 3 := by rw [← er8]; exact hT0.ref t_this (by decide) (by decide) (by decide)
  refine va_get (D := κ.1) (ci := 5) (v := .ref (kR κ this 3)) (C := RX5) (T := TX5) (N := 10) hx hb hg inX5 hown hK (hT.o7 (hT.k t_this (by decide))).one 0 rfl rfl 3 (by decide) (hg _ k382) (fun _ h9 => h9) rfl dX5_lift_12 ?_
  rw [er8]
  refine lv_iload_n hx hb dX5_lift_15 rfl (lv_at hl 1 rfl) ?_
  have hTo := hT
  refine tVi (n := 1) (As := [.int i]) (rest := []) hx hb hml hown hg hT hK hX (X1_isPresent l κ s5 r8 i  (hT.k tr8 (by decide)) (by omega) (by omega)) sub_fE_fLr (mwV k861 k460 k461 k87 k462) ⟨rfl, by decide, by decide, by decide +kernel⟩ ⟨(Nat.le_of_ble_eq_true rfl), (Nat.le_of_ble_eq_true rfl)⟩ (hT.o3 (hT.k tr8 (by decide))) rfl rfl hl.1 rfl (Nat.le_of_ble_eq_true rfl) dX5_lift_16 zroom.up (fun x9 s10 H locs hφ hEs10 hT => ?_)
  have f11 := hφ
  refine lv_if_ne (tgt := 29) hx hb dX5_lift_19 (by decide) (fun c9 => ?_) (fun c9 => ?_)
  · have c1 := gi_ne c9
    refine lv_iload_n hx hb dX5_lift_29 rfl (lv_at hl 1 rfl) ?_
    refine lv_if_eq (tgt := 46) hx hb dX5_lift_30 (by decide) (fun c9 => ?_) (fun c9 => ?_)
    · have c2 := gi_eq c9
      refine lv_aload_n hx hb dX5_lift_46 rfl (lv_at hl 0 rfl) ?_
      refine lv_iconst (v := 3) hx hb dX5_lift_47 (by decide) ?_
      refine lv_iconst (v := 5) hx hb dX5_lift_48 (by decide) ?_
      refine lv_iload_n hx hb dX5_lift_49 rfl (lv_at hl 1 rfl) ?_
      have hTo := hT
      refine xtVv (n := 3) (As := [.int 3, .int 5, .int i]) (rest := []) hx hb hml hown hg hT hK hX (X5_refuse l κ s10 this 3 5 i  (hT.k t_this (by decide))  hlt) sub_fRf_fLr (mwV k989 k991 k30 k84 k992) ⟨rfl, by decide, by decide, by decide +kernel⟩ ⟨(Nat.le_of_ble_eq_true rfl), (Nat.le_of_ble_eq_true rfl)⟩ (hT.o7 (hT.k t_this (by decide))) rfl rfl hl.1 rfl (Nat.le_of_ble_eq_true rfl) dX5_lift_50 zroomX.rf (fun E9 ce9 q9 τ9 H9 locs9 hp9 hE9 hT9 hce9 hcv9 hcl9 => by subst hQ9; exact tx_out hT9 (Or.inr hp9) hout hlocks hce9 hcv9 hcl9) (fun s13 H locs hφ hEs13 hT => ?_)
      exact hφ.elim
    · have c3 := gi_ne c9
      refine lv_iload_n hx hb dX5_lift_33 rfl (lv_at hl 1 rfl) ?_
      refine lv_aload_n hx hb dX5_lift_34 rfl (lv_at hl 0 rfl) ?_
      refine va_get (D := κ.1) (ci := 5) (v := .ref (kR κ this 1)) (C := RX5) (T := TX5) (N := 10) hx hb hg inX5 hown hK (hT.o7 (hT.k t_this (by decide))).one 0 rfl rfl 1 (by decide) (hg _ k380) (fun _ h9 => h9) rfl dX5_lift_35 ?_
      rw [er1]
      refine va_get (D := κ.1) (ci := 0) (v := .int (zI s10 r1 2)) (C := RX0) (T := TX0) (N := 7) hx hb hg inX0 hown hK (hT.o4 (hT.k tr1 (by decide))).one 0 rfl rfl 2 (by decide) (hg _ k163) (fun _ h9 => h9) rfl dX5_lift_38 ?_
      rw [(hT.eI tr1 (by decide) rfl ev2)]
      refine lv_iconst (v := 1) hx hb dX5_lift_41 (by decide) ?_
      refine lv_isub hx hb dX5_lift_42 ?_
      first | refine g_sub (by omega) (by omega) (fun t14 ht14 => ?_) | refine lv_topi (fun t14 ht14 => ?_)
      refine lv_icmp_ne (tgt := 53) hx hb dX5_lift_43 (by decide) (fun c9 => ?_) (fun c9 => ?_)
      · have c4 := gi_ne c9
        refine lv_aload_n hx hb dX5_lift_53 rfl (lv_at hl 0 rfl) ?_
        refine va_get (D := κ.1) (ci := 5) (v := .ref (kR κ this 3)) (C := RX5) (T := TX5) (N := 10) hx hb hg inX5 hown hK (hT.o7 (hT.k t_this (by decide))).one 0 rfl rfl 3 (by decide) (hg _ k382) (fun _ h9 => h9) rfl dX5_lift_54 ?_
        rw [er8]
        refine lv_iload_n hx hb dX5_lift_57 rfl (lv_at hl 1 rfl) ?_
        have hTo := hT
        refine tVl (n := 1) (As := [.int i]) (rest := []) hx hb hml hown hg hT hK hX (X1_liftSample l κ s10 r8 i  (hT.k tr8 (by decide)) (by omega) (by omega)) sub_fLi_fLr (mwV k1039 k571 k572 k87 k573) ⟨rfl, by decide, by decide, by decide +kernel⟩ ⟨(Nat.le_of_ble_eq_true rfl), (Nat.le_of_ble_eq_true rfl)⟩ (hT.o3 (hT.k tr8 (by decide))) rfl rfl hl.1 rfl (Nat.le_of_ble_eq_true rfl) dX5_lift_58 zroom.up (fun x15 s16 H locs hφ hEs16 hT => ?_)
        subst hQ9
        exact vx_ret (t_l hx hb hr hlocks hT trivial dX5_lift_61)
      · have c5 := gi_eq c9
        refine lv_aload_n hx hb dX5_lift_46 rfl (lv_at hl 0 rfl) ?_
        refine lv_iconst (v := 3) hx hb dX5_lift_47 (by decide) ?_
        refine lv_iconst (v := 5) hx hb dX5_lift_48 (by decide) ?_
        refine lv_iload_n hx hb dX5_lift_49 rfl (lv_at hl 1 rfl) ?_
        have hTo := hT
        refine xtVv (n := 3) (As := [.int 3, .int 5, .int i]) (rest := []) hx hb hml hown hg hT hK hX (X5_refuse l κ s10 this 3 5 i  (hT.k t_this (by decide))  hlt) sub_fRf_fLr (mwV k989 k991 k30 k84 k992) ⟨rfl, by decide, by decide, by decide +kernel⟩ ⟨(Nat.le_of_ble_eq_true rfl), (Nat.le_of_ble_eq_true rfl)⟩ (hT.o7 (hT.k t_this (by decide))) rfl rfl hl.1 rfl (Nat.le_of_ble_eq_true rfl) dX5_lift_50 zroomX.rf (fun E9 ce9 q9 τ9 H9 locs9 hp9 hE9 hT9 hce9 hcv9 hcl9 => by subst hQ9; exact tx_out hT9 (Or.inr hp9) hout hlocks hce9 hcv9 hcl9) (fun s18 H locs hφ hEs18 hT => ?_)
        exact hφ.elim
  · have c6 := gi_eq c9
    refine lv_aload_n hx hb dX5_lift_22 rfl (lv_at hl 0 rfl) ?_
    refine lv_iconst (v := 3) hx hb dX5_lift_23 (by decide) ?_
    refine lv_iconst (v := 4) hx hb dX5_lift_24 (by decide) ?_
    refine lv_iload_n hx hb dX5_lift_25 rfl (lv_at hl 1 rfl) ?_
    have hTo := hT
    refine xtVv (n := 3) (As := [.int 3, .int 4, .int i]) (rest := []) hx hb hml hown hg hT hK hX (X5_refuse l κ s10 this 3 4 i  (hT.k t_this (by decide))  hlt) sub_fRf_fLr (mwV k989 k991 k30 k84 k992) ⟨rfl, by decide, by decide, by decide +kernel⟩ ⟨(Nat.le_of_ble_eq_true rfl), (Nat.le_of_ble_eq_true rfl)⟩ (hT.o7 (hT.k t_this (by decide))) rfl rfl hl.1 rfl (Nat.le_of_ble_eq_true rfl) dX5_lift_26 zroomX.rf (fun E9 ce9 q9 τ9 H9 locs9 hp9 hE9 hT9 hce9 hcv9 hcl9 => by subst hQ9; exact tx_out hT9 (Or.inr hp9) hout hlocks hce9 hcv9 hcl9) (fun s20 H locs hφ hEs20 hT => ?_)
    exact hφ.elim
set_option maxHeartbeats 4000000 in
set_option maxRecDepth 100000 in
theorem X5_inverse (l : Launch) (κ : Kt) (σ0 : Gh) (this : Nat) (n : Int32) (t_this : zk σ0 this 7) (hlt : l.stackTraces = false) : TX l yX5_inverse cX5_inverse 2 (some .int) 7 158 [.ref this, .int n] κ σ0 (tqi κ fLr σ0 (fun (r : Int32) (τ : Gh) => True)) (txq κ fLr σ0 (fun (E : String) (τ : Gh) => E = "java/lang/IllegalArgumentException" ∨ E = "java/lang/IllegalStateException")) := by
  refine TX.of fLr (by decide +kernel) (Nat.le_of_ble_eq_true rfl) ?_
  intro p e s m below meth c ls hcs hout hK hX hT hl
  obtain ⟨hx, hb, hr, hml, hown, hg, hlocks, hin⟩ := hcs
  have hown : s.vm.findClass RX5 = some m.cls := hown
  have hl : lv_has ls 2 [(0, .ref this), (1, .int n)] := hl
  have hT0 := hT
  have nm1 : ((-1) : Int32).toInt = (-1) := by decide
  have n0 : (0 : Int32).toInt = 0 := by decide
  have n1 : (1 : Int32).toInt = 1 := by decide
  have n2 : (2 : Int32).toInt = 2 := by decide
  have n46 : (46 : Int32).toInt = 46 := by decide
  have n_lo := Int32.le_toInt n
  have n_hi := Int32.toInt_lt n
  generalize hQ9 : tQX _ _ _ _ _ _ _ = Q9
  refine lv_iload_n hx hb dX5_inverse_0 rfl (lv_at hl 1 rfl) ?_
  refine lv_iconst (v := 1) hx hb dX5_inverse_1 (by decide) ?_
  refine lv_bipush (v := 46) hx hb dX5_inverse_2 (by decide) ?_
  have hTo := hT
  refine xtSv (n := 3) (As := [.int n, .int 1, .int 46]) (rest := []) hx hb hml hown hg hT hK hX (X5_needRange l κ σ0 n 1 46    hlt) sub_fE_fLr (mwS k909 k910 k84 k911) ⟨rfl, by decide, by decide, by decide +kernel⟩ ⟨(Nat.le_of_ble_eq_true rfl), (Nat.le_of_ble_eq_true rfl)⟩ rfl hl.1 rfl (Nat.le_of_ble_eq_true rfl) dX5_inverse_4 zroomX.rf (fun E9 ce9 q9 τ9 H9 locs9 hp9 hE9 hT9 hce9 hcv9 hcl9 => by subst hQ9; exact tx_out hT9 (Or.inl hp9.1) hout hlocks hce9 hcv9 hcl9) (fun s2 H locs hφ hEs2 hT => ?_)
  obtain ⟨f3, f4⟩ := hφ
  refine lv_aload_n hx hb dX5_inverse_7 rfl (lv_at hl 0 rfl) ?_
  obtain ⟨r5, er5⟩ : ∃ z, kR κ this 3 = z := ⟨_, rfl⟩
  have tr5 : zk σ0 r5 3 := by rw [← er5]; exact hT0.ref t_this (by decide) (by decide) (by decide)
  refine va_get (D := κ.1) (ci := 5) (v := .ref (kR κ this 3)) (C := RX5) (T := TX5) (N := 10) hx hb hg inX5 hown hK (hT.o7 (hT.k t_this (by decide))).one 0 rfl rfl 3 (by decide) (hg _ k382) (fun _ h9 => h9) rfl dX5_inverse_8 ?_
  rw [er5]
  obtain ⟨v6, ev6⟩ : ∃ zz9 : Int32, zI s2 r5 5 = zz9 := ⟨_, rfl⟩
  have qv6 : v6.toInt = (zI s2 r5 5).toInt := by rw [ev6]
  have b7 := (hT.P (hT.k tr5 (by decide)) (by decide)).1
  rw [ev6] at b7
  have b7l := b7.1
  have b7h := b7.2
  refine va_get (D := κ.1) (ci := 1) (v := .int (zI s2 r5 5)) (C := RX1) (T := TX1) (N := 13) hx hb hg inX1 hown hK (hT.o3 (hT.k tr5 (by decide))).one 0 rfl rfl 5 (by decide) (hg _ k288) (fun _ h9 => h9) rfl dX5_inverse_11 ?_
  rw [ev6]
  refine lv_if_ne (tgt := 24) hx hb dX5_inverse_14 (by decide) (fun c9 => ?_) (fun c9 => ?_)
  · have c1 := gi_ne c9
    refine lv_aload_n hx hb dX5_inverse_24 rfl (lv_at hl 0 rfl) ?_
    refine va_get (D := κ.1) (ci := 5) (v := .ref (kR κ this 3)) (C := RX5) (T := TX5) (N := 10) hx hb hg inX5 hown hK (hT.o7 (hT.k t_this (by decide))).one 0 rfl rfl 3 (by decide) (hg _ k382) (fun _ h9 => h9) rfl dX5_inverse_25 ?_
    rw [er5]
    refine lv_iload_n hx hb dX5_inverse_28 rfl (lv_at hl 1 rfl) ?_
    have hTo := hT
    refine tVi (n := 1) (As := [.int n]) (rest := []) hx hb hml hown hg hT hK hX (X1_invertLatest l κ s2 r5 n  (hT.k tr5 (by decide)) ) sub_fBe_fLr (mwV k1047 k1048 k1049 k87 k1050) ⟨rfl, by decide, by decide, by decide +kernel⟩ ⟨(Nat.le_of_ble_eq_true rfl), (Nat.le_of_ble_eq_true rfl)⟩ (hT.o3 (hT.k tr5 (by decide))) rfl rfl hl.1 rfl (Nat.le_of_ble_eq_true rfl) dX5_inverse_29 zroom.up (fun x8 s9 H locs hφ hEs9 hT => ?_)
    subst hQ9
    exact vx_ret (t_i hx hb hr hlocks hT trivial dX5_inverse_32)
  · have c2 := gi_eq c9
    refine lv_aload_n hx hb dX5_inverse_17 rfl (lv_at hl 0 rfl) ?_
    refine lv_iconst (v := 2) hx hb dX5_inverse_18 (by decide) ?_
    refine lv_iconst (v := 0) hx hb dX5_inverse_19 (by decide) ?_
    refine lv_iconst (v := (-1)) hx hb dX5_inverse_20 (by decide) ?_
    have hTo := hT
    refine xtVv (n := 3) (As := [.int 2, .int 0, .int (-1)]) (rest := []) hx hb hml hown hg hT hK hX (X5_refuse l κ s2 this 2 0 (-1)  (hT.k t_this (by decide))  hlt) sub_fRf_fLr (mwV k989 k991 k30 k84 k992) ⟨rfl, by decide, by decide, by decide +kernel⟩ ⟨(Nat.le_of_ble_eq_true rfl), (Nat.le_of_ble_eq_true rfl)⟩ (hT.o7 (hT.k t_this (by decide))) rfl rfl hl.1 rfl (Nat.le_of_ble_eq_true rfl) dX5_inverse_21 zroomX.rf (fun E9 ce9 q9 τ9 H9 locs9 hp9 hE9 hT9 hce9 hcv9 hcl9 => by subst hQ9; exact tx_out hT9 (Or.inr hp9) hout hlocks hce9 hcv9 hcl9) (fun s11 H locs hφ hEs11 hT => ?_)
    exact hφ.elim
set_option maxHeartbeats 4000000 in
set_option maxRecDepth 100000 in
theorem X5_setDetail (l : Launch) (κ : Kt) (σ0 : Gh) (this : Nat) (i : Int32) (x : Int32) (t_this : zk σ0 this 7) (hlt : l.stackTraces = false) : TX l yX5_setDetail cX5_setDetail 5 (some .long) 7 112 [.ref this, .int i, .int x] κ σ0 (tql κ fW σ0 (fun (r : Int64) (τ : Gh) => True)) (txq κ fW σ0 (fun (E : String) (τ : Gh) => E = "java/lang/IndexOutOfBoundsException" ∨ E = "java/lang/IllegalArgumentException")) := by
  refine TX.of fW (by decide +kernel) (Nat.le_of_ble_eq_true rfl) ?_
  intro p e s m below meth c ls hcs hout hK hX hT hl
  obtain ⟨hx, hb, hr, hml, hown, hg, hlocks, hin⟩ := hcs
  have hown : s.vm.findClass RX5 = some m.cls := hown
  have hl : lv_has ls 5 [(0, .ref this), (1, .int i), (2, .int x)] := hl
  have hT0 := hT
  have nm99999 : ((-99999) : Int32).toInt = (-99999) := by decide
  have n99999 : (99999 : Int32).toInt = 99999 := by decide
  have i_lo := Int32.le_toInt i
  have i_hi := Int32.toInt_lt i
  have x_lo := Int32.le_toInt x
  have x_hi := Int32.toInt_lt x
  generalize hQ9 : tQX _ _ _ _ _ _ _ = Q9
  refine lv_iload_n hx hb dX5_setDetail_0 rfl (lv_at hl 1 rfl) ?_
  refine lv_aload_n hx hb dX5_setDetail_1 rfl (lv_at hl 0 rfl) ?_
  obtain ⟨r1, er1⟩ : ∃ z, kR κ this 3 = z := ⟨_, rfl⟩
  have tr1 : zk σ0 r1 3 := by rw [← er1]; exact hT0.ref t_this (by decide) (by decide) (by decide)
  refine va_get (D := κ.1) (ci := 5) (v := .ref (kR κ this 3)) (C := RX5) (T := TX5) (N := 10) hx hb hg inX5 hown hK (hT.o7 (hT.k t_this (by decide))).one 0 rfl rfl 3 (by decide) (hg _ k382) (fun _ h9 => h9) rfl dX5_setDetail_2 ?_
  rw [er1]
  obtain ⟨v2, ev2⟩ : ∃ zz9 : Int32, zI σ0 r1 5 = zz9 := ⟨_, rfl⟩
  have qv2 : v2.toInt = (zI σ0 r1 5).toInt := by rw [ev2]
  have b3 := (hT.P (hT.k tr1 (by decide)) (by decide)).1
  rw [(hT.eI tr1 (by decide) rfl ev2)] at b3
  have b3l := b3.1
  have b3h := b3.2
  refine va_get (D := κ.1) (ci := 1) (v := .int (zI σ0 r1 5)) (C := RX1) (T := TX1) (N := 13) hx hb hg inX1 hown hK (hT.o3 (hT.k tr1 (by decide))).one 0 rfl rfl 5 (by decide) (hg _ k288) (fun _ h9 => h9) rfl dX5_setDetail_5 ?_
  rw [(hT.eI tr1 (by decide) rfl ev2)]
  have hTo := hT
  refine xtSv (n := 2) (As := [.int i, .int v2]) (rest := []) hx hb hml hown hg hT hK hX (X5_needIndex l κ σ0 i v2    hlt) sub_fE_fW (mwS k610 k611 k84 k612) ⟨rfl, by decide, by decide, by decide +kernel⟩ ⟨(Nat.le_of_ble_eq_true rfl), (Nat.le_of_ble_eq_true rfl)⟩ rfl hl.1 rfl (Nat.le_of_ble_eq_true rfl) dX5_setDetail_8 zroomX.rf (fun E9 ce9 q9 τ9 H9 locs9 hp9 hE9 hT9 hce9 hcv9 hcl9 => by subst hQ9; exact tx_out hT9 (Or.inl hp9.1) hout hlocks hce9 hcv9 hcl9) (fun s5 H locs hφ hEs5 hT => ?_)
  obtain ⟨f6, f7⟩ := hφ
  refine lv_iload_n hx hb dX5_setDetail_11 rfl (lv_at hl 2 rfl) ?_
  refine lv_ldcw hx hb hown (hg _ k1062) dX5_setDetail_12 ?_
  refine lv_ldcw hx hb hown (hg _ k1063) dX5_setDetail_15 ?_
  have hTo := hT
  refine xtSv (n := 3) (As := [.int x, .int (-99999), .int 99999]) (rest := []) hx hb hml hown hg hT hK hX (X5_needRange l κ s5 x (-99999) 99999    hlt) sub_fE_fW (mwS k909 k910 k84 k911) ⟨rfl, by decide, by decide, by decide +kernel⟩ ⟨(Nat.le_of_ble_eq_true rfl), (Nat.le_of_ble_eq_true rfl)⟩ rfl hl.1 rfl (Nat.le_of_ble_eq_true rfl) dX5_setDetail_18 zroomX.rf (fun E9 ce9 q9 τ9 H9 locs9 hp9 hE9 hT9 hce9 hcv9 hcl9 => by subst hQ9; exact tx_out hT9 (Or.inr hp9.1) hout hlocks hce9 hcv9 hcl9) (fun s9 H locs hφ hEs9 hT => ?_)
  obtain ⟨f10, f11⟩ := hφ
  refine lv_aload_n hx hb dX5_setDetail_21 rfl (lv_at hl 0 rfl) ?_
  refine va_get (D := κ.1) (ci := 5) (v := .ref (kR κ this 3)) (C := RX5) (T := TX5) (N := 10) hx hb hg inX5 hown hK (hT.o7 (hT.k t_this (by decide))).one 0 rfl rfl 3 (by decide) (hg _ k382) (fun _ h9 => h9) rfl dX5_setDetail_22 ?_
  rw [er1]
  obtain ⟨r12, er12⟩ : ∃ z, kR κ r1 4 = z := ⟨_, rfl⟩
  have tr12 : zk σ0 r12 11 := by rw [← er12]; exact hT0.ref tr1 (by decide) (by decide) (by decide)
  refine va_get (D := κ.1) (ci := 1) (v := .ref (kR κ r1 4)) (C := RX1) (T := TX1) (N := 13) hx hb hg inX1 hown hK (hT.o3 (hT.k tr1 (by decide))).one 0 rfl rfl 4 (by decide) (hg _ k286) (fun _ h9 => h9) rfl dX5_setDetail_25 ?_
  rw [er12]
  refine lv_iload_n hx hb dX5_setDetail_28 rfl (lv_at hl 1 rfl) ?_
  refine va_aldq hx hb hK (hT.o11 (hT.k tr12 (by decide))).one 0 5 rfl rfl (g_in (by omega) (by omega)) dX5_setDetail_29 ?_
  obtain ⟨r14, er14⟩ : ∃ z, kR κ r12 (ix i) = z := ⟨_, rfl⟩
  have tr14 : zk σ0 r14 2 := by rw [← er14]; exact hT0.ref tr12 (by decide) (zR11 (ix_lt (by omega) (by omega))) (by decide)
  refine tv (.ref r14) (by rw [← er14]; rfl) ?_
  obtain ⟨r15, er15⟩ : ∃ z, kR κ r14 9 = z := ⟨_, rfl⟩
  have tr15 : zk σ0 r15 1 := by rw [← er15]; exact hT0.ref tr14 (by decide) (by decide) (by decide)
  refine va_get (D := κ.1) (ci := 2) (v := .ref (kR κ r14 9)) (C := RX2) (T := TX2) (N := 10) hx hb hg inX2 hown hK (hT.o2 (hT.k tr14 (by decide))).one 0 rfl rfl 9 (by decide) (hg _ k251) (fun _ h9 => h9) rfl dX5_setDetail_30 ?_
  rw [er15]
  obtain ⟨h18, oh18, th18⟩ := hT.o1 (hT.k tr15 (by decide))
  have hTo := hT
  refine tVl (n := 0) (As := []) (rest := []) hx hb hml hown hg hT hK hX (X4_toLong l κ s9 r15  (hT.k tr15 (by decide)) ) sub_fE_fW (mwV k435 k436 k437 k88 k438) ⟨rfl, by decide, by decide, by decide +kernel⟩ ⟨(Nat.le_of_ble_eq_true rfl), (Nat.le_of_ble_eq_true rfl)⟩ oh18 rfl rfl hl.1 rfl (Nat.le_of_ble_eq_true rfl) dX5_setDetail_33 zroom.up (fun x16 s17 H locs hφ hEs17 hT => ?_)
  refine lv_lstore_n (lv' := [(3, .long x16), (0, .ref this), (1, .int i), (2, .int x)]) hx hb dX5_setDetail_36 rfl hl (by decide) rfl (fun ls hl => ?_)
  refine lv_aload_n hx hb dX5_setDetail_37 rfl (lv_at hl 1 rfl) ?_
  refine va_get (D := κ.1) (ci := 5) (v := .ref (kR κ this 3)) (C := RX5) (T := TX5) (N := 10) hx hb hg inX5 hown hK (hT.o7 (hT.k t_this (by decide))).one 0 rfl rfl 3 (by decide) (hg _ k382) (fun _ h9 => h9) rfl dX5_setDetail_38 ?_
  rw [er1]
  refine va_get (D := κ.1) (ci := 1) (v := .ref (kR κ r1 4)) (C := RX1) (T := TX1) (N := 13) hx hb hg inX1 hown hK (hT.o3 (hT.k tr1 (by decide))).one 0 rfl rfl 4 (by decide) (hg _ k286) (fun _ h9 => h9) rfl dX5_setDetail_41 ?_
  rw [er12]
  refine lv_iload_n hx hb dX5_setDetail_44 rfl (lv_at hl 2 rfl) ?_
  refine va_aldq hx hb hK (hT.o11 (hT.k tr12 (by decide))).one 0 5 rfl rfl (g_in (by omega) (by omega)) dX5_setDetail_45 ?_
  obtain ⟨r20, er20⟩ : ∃ z, kR κ r12 (ix i) = z := ⟨_, rfl⟩
  have tr20 : zk σ0 r20 2 := by rw [← er20]; exact hT0.ref tr12 (by decide) (zR11 (ix_lt (by omega) (by omega))) (by decide)
  refine tv (.ref r20) (by rw [← er20]; rfl) ?_
  obtain ⟨r21, er21⟩ : ∃ z, kR κ r20 9 = z := ⟨_, rfl⟩
  have tr21 : zk σ0 r21 1 := by rw [← er21]; exact hT0.ref tr20 (by decide) (by decide) (by decide)
  refine va_get (D := κ.1) (ci := 2) (v := .ref (kR κ r20 9)) (C := RX2) (T := TX2) (N := 10) hx hb hg inX2 hown hK (hT.o2 (hT.k tr20 (by decide))).one 0 rfl rfl 9 (by decide) (hg _ k251) (fun _ h9 => h9) rfl dX5_setDetail_46 ?_
  rw [er21]
  refine lv_iload_n hx hb dX5_setDetail_49 rfl (lv_at hl 3 rfl) ?_
  refine lv_i2l hx hb dX5_setDetail_50 rfl ?_
  refine g_i2l (fun t22 ht22 => ?_)
  obtain ⟨h25, oh25, th25⟩ := hT.o1 (hT.k tr21 (by decide))
  have hTo := hT
  refine tVv (n := 1) (As := [.long t22]) (rest := []) hx hb hml hown hg hT hK hX (X4_become l κ s17 r21 t22  (hT.k tr21 (by decide)) ) sub_fX_fW (mwV k1064 k275 k276 k88 k277) ⟨rfl, by decide, by decide, by decide +kernel⟩ ⟨(Nat.le_of_ble_eq_true rfl), (Nat.le_of_ble_eq_true rfl)⟩ oh25 rfl rfl hl.1 rfl (Nat.le_of_ble_eq_true rfl) dX5_setDetail_51 zroom.up (fun s24 H locs hφ hEs24 hT => ?_)
  refine lv_lload_n hx hb dX5_setDetail_54 rfl (lv_at hl 0 rfl) ?_
  subst hQ9
  exact vx_ret (t_l hx hb hr hlocks hT trivial dX5_setDetail_55)
set_option maxHeartbeats 4000000 in
set_option maxRecDepth 100000 in
theorem X5_threshold (l : Launch) (κ : Kt) (σ0 : Gh) (this : Nat) (x : Int32) (so : Int32) (t_this : zk σ0 this 7) (b_so : isB so) (hlt : l.stackTraces = false) : TX l yX5_threshold cX5_threshold 3 (some .int) 7 113 [.ref this, .int x, .int so] κ σ0 (tqi κ fW σ0 (fun (r : Int32) (τ : Gh) => True)) (txq κ fW σ0 (fun (E : String) (τ : Gh) => E = "java/lang/IllegalArgumentException")) := by
  refine TX.of fW (by decide +kernel) (Nat.le_of_ble_eq_true rfl) ?_
  intro p e s m below meth c ls hcs hout hK hX hT hl
  obtain ⟨hx, hb, hr, hml, hown, hg, hlocks, hin⟩ := hcs
  have hown : s.vm.findClass RX5 = some m.cls := hown
  have hl : lv_has ls 3 [(0, .ref this), (1, .int x), (2, .int so)] := hl
  have hT0 := hT
  have n0 : (0 : Int32).toInt = 0 := by decide
  have n9999 : (9999 : Int32).toInt = 9999 := by decide
  have x_lo := Int32.le_toInt x
  have x_hi := Int32.toInt_lt x
  generalize hQ9 : tQX _ _ _ _ _ _ _ = Q9
  refine lv_iload_n hx hb dX5_threshold_0 rfl (lv_at hl 1 rfl) ?_
  refine lv_iconst (v := 0) hx hb dX5_threshold_1 (by decide) ?_
  refine lv_sipush (v := 9999) hx hb dX5_threshold_2 (by decide) ?_
  have hTo := hT
  refine xtSv (n := 3) (As := [.int x, .int 0, .int 9999]) (rest := []) hx hb hml hown hg hT hK hX (X5_needRange l κ σ0 x 0 9999    hlt) sub_fE_fW (mwS k909 k910 k84 k911) ⟨rfl, by decide, by decide, by decide +kernel⟩ ⟨(Nat.le_of_ble_eq_true rfl), (Nat.le_of_ble_eq_true rfl)⟩ rfl hl.1 rfl (Nat.le_of_ble_eq_true rfl) dX5_threshold_5 zroomX.rf (fun E9 ce9 q9 τ9 H9 locs9 hp9 hE9 hT9 hce9 hcv9 hcl9 => by subst hQ9; exact tx_out hT9 hp9.1 hout hlocks hce9 hcv9 hcl9) (fun s2 H locs hφ hEs2 hT => ?_)
  obtain ⟨f3, f4⟩ := hφ
  refine lv_aload_n hx hb dX5_threshold_8 rfl (lv_at hl 0 rfl) ?_
  obtain ⟨r5, er5⟩ : ∃ z, kR κ this 3 = z := ⟨_, rfl⟩
  have tr5 : zk σ0 r5 3 := by rw [← er5]; exact hT0.ref t_this (by decide) (by decide) (by decide)
  refine va_get (D := κ.1) (ci := 5) (v := .ref (kR κ this 3)) (C := RX5) (T := TX5) (N := 10) hx hb hg inX5 hown hK (hT.o7 (hT.k t_this (by decide))).one 0 rfl rfl 3 (by decide) (hg _ k382) (fun _ h9 => h9) rfl dX5_threshold_9 ?_
  rw [er5]
  refine lv_iload_n hx hb dX5_threshold_12 rfl (lv_at hl 1 rfl) ?_
  refine lv_iload_n hx hb dX5_threshold_13 rfl (lv_at hl 2 rfl) ?_
  have hTo := hT
  refine tVv (n := 2) (As := [.int x, .int so]) (rest := []) hx hb hml hown hg hT hK hX (X1_cutDetails l κ s2 r5 x so  (hT.k tr5 (by decide)) b_so ) (fun _ _ h => h) (mwV k1072 k1073 k1074 k87 k1075) ⟨rfl, by decide, by decide, by decide +kernel⟩ ⟨(Nat.le_of_ble_eq_true rfl), (Nat.le_of_ble_eq_true rfl)⟩ (hT.o3 (hT.k tr5 (by decide))) rfl rfl hl.1 rfl (Nat.le_of_ble_eq_true rfl) dX5_threshold_14 zroom.up (fun s7 H locs hφ hEs7 hT => ?_)
  refine lv_aload_n hx hb dX5_threshold_17 rfl (lv_at hl 0 rfl) ?_
  refine va_get (D := κ.1) (ci := 5) (v := .ref (kR κ this 3)) (C := RX5) (T := TX5) (N := 10) hx hb hg inX5 hown hK (hT.o7 (hT.k t_this (by decide))).one 0 rfl rfl 3 (by decide) (hg _ k382) (fun _ h9 => h9) rfl dX5_threshold_18 ?_
  rw [er5]
  have hTo := hT
  refine tVi (n := 0) (As := []) (rest := []) hx hb hml hown hg hT hK hX (X1_zeroDetails l κ s7 r5  (hT.k tr5 (by decide)) ) sub_fE_fW (mwV k841 k842 k843 k87 k844) ⟨rfl, by decide, by decide, by decide +kernel⟩ ⟨(Nat.le_of_ble_eq_true rfl), (Nat.le_of_ble_eq_true rfl)⟩ (hT.o3 (hT.k tr5 (by decide))) rfl rfl hl.1 rfl (Nat.le_of_ble_eq_true rfl) dX5_threshold_21 zroom.up (fun x8 s9 H locs hφ hEs9 hT => ?_)
  subst hQ9
  exact vx_ret (t_i hx hb hr hlocks hT trivial dX5_threshold_24)
set_option maxHeartbeats 4000000 in
set_option maxRecDepth 100000 in
theorem X5_quantize (l : Launch) (κ : Kt) (σ0 : Gh) (this : Nat) (x : Int32) (t_this : zk σ0 this 7) (hlt : l.stackTraces = false) : TX l yX5_quantize cX5_quantize 2 (some .long) 7 118 [.ref this, .int x] κ σ0 (tql κ fW σ0 (fun (r : Int64) (τ : Gh) => True)) (txq κ fW σ0 (fun (E : String) (τ : Gh) => E = "java/lang/IllegalArgumentException")) := by
  refine TX.of fW (by decide +kernel) (Nat.le_of_ble_eq_true rfl) ?_
  intro p e s m below meth c ls hcs hout hK hX hT hl
  obtain ⟨hx, hb, hr, hml, hown, hg, hlocks, hin⟩ := hcs
  have hown : s.vm.findClass RX5 = some m.cls := hown
  have hl : lv_has ls 2 [(0, .ref this), (1, .int x)] := hl
  have hT0 := hT
  have n1 : (1 : Int32).toInt = 1 := by decide
  have n9999 : (9999 : Int32).toInt = 9999 := by decide
  have x_lo := Int32.le_toInt x
  have x_hi := Int32.toInt_lt x
  generalize hQ9 : tQX _ _ _ _ _ _ _ = Q9
  refine lv_iload_n hx hb dX5_quantize_0 rfl (lv_at hl 1 rfl) ?_
  refine lv_iconst (v := 1) hx hb dX5_quantize_1 (by decide) ?_
  refine lv_sipush (v := 9999) hx hb dX5_quantize_2 (by decide) ?_
  have hTo := hT
  refine xtSv (n := 3) (As := [.int x, .int 1, .int 9999]) (rest := []) hx hb hml hown hg hT hK hX (X5_needRange l κ σ0 x 1 9999    hlt) sub_fE_fW (mwS k909 k910 k84 k911) ⟨rfl, by decide, by decide, by decide +kernel⟩ ⟨(Nat.le_of_ble_eq_true rfl), (Nat.le_of_ble_eq_true rfl)⟩ rfl hl.1 rfl (Nat.le_of_ble_eq_true rfl) dX5_quantize_5 zroomX.rf (fun E9 ce9 q9 τ9 H9 locs9 hp9 hE9 hT9 hce9 hcv9 hcl9 => by subst hQ9; exact tx_out hT9 hp9.1 hout hlocks hce9 hcv9 hcl9) (fun s2 H locs hφ hEs2 hT => ?_)
  obtain ⟨f3, f4⟩ := hφ
  refine lv_aload_n hx hb dX5_quantize_8 rfl (lv_at hl 0 rfl) ?_
  obtain ⟨r5, er5⟩ : ∃ z, kR κ this 3 = z := ⟨_, rfl⟩
  have tr5 : zk σ0 r5 3 := by rw [← er5]; exact hT0.ref t_this (by decide) (by decide) (by decide)
  refine va_get (D := κ.1) (ci := 5) (v := .ref (kR κ this 3)) (C := RX5) (T := TX5) (N := 10) hx hb hg inX5 hown hK (hT.o7 (hT.k t_this (by decide))).one 0 rfl rfl 3 (by decide) (hg _ k382) (fun _ h9 => h9) rfl dX5_quantize_9 ?_
  rw [er5]
  refine lv_iload_n hx hb dX5_quantize_12 rfl (lv_at hl 1 rfl) ?_
  have hTo := hT
  refine tVl (n := 1) (As := [.int x]) (rest := []) hx hb hml hown hg hT hK hX (X1_quantizeDetails l κ s2 r5 x  (hT.k tr5 (by decide)) ) (fun _ _ h => h) (mwV k1091 k1092 k1093 k87 k1094) ⟨rfl, by decide, by decide, by decide +kernel⟩ ⟨(Nat.le_of_ble_eq_true rfl), (Nat.le_of_ble_eq_true rfl)⟩ (hT.o3 (hT.k tr5 (by decide))) rfl rfl hl.1 rfl (Nat.le_of_ble_eq_true rfl) dX5_quantize_13 zroom.up (fun x6 s7 H locs hφ hEs7 hT => ?_)
  subst hQ9
  exact vx_ret (t_l hx hb hr hlocks hT trivial dX5_quantize_16)
set_option maxHeartbeats 4000000 in
set_option maxRecDepth 100000 in
theorem X5_keepLargest (l : Launch) (κ : Kt) (σ0 : Gh) (this : Nat) (x : Int32) (t_this : zk σ0 this 7) (hlt : l.stackTraces = false) : TX l yX5_keepLargest cX5_keepLargest 2 (some .long) 7 112 [.ref this, .int x] κ σ0 (tql κ fW σ0 (fun (r : Int64) (τ : Gh) => True)) (txq κ fW σ0 (fun (E : String) (τ : Gh) => E = "java/lang/IllegalArgumentException")) := by
  refine TX.of fW (by decide +kernel) (Nat.le_of_ble_eq_true rfl) ?_
  intro p e s m below meth c ls hcs hout hK hX hT hl
  obtain ⟨hx, hb, hr, hml, hown, hg, hlocks, hin⟩ := hcs
  have hown : s.vm.findClass RX5 = some m.cls := hown
  have hl : lv_has ls 2 [(0, .ref this), (1, .int x)] := hl
  have hT0 := hT
  have n0 : (0 : Int32).toInt = 0 := by decide
  have n46 : (46 : Int32).toInt = 46 := by decide
  have x_lo := Int32.le_toInt x
  have x_hi := Int32.toInt_lt x
  generalize hQ9 : tQX _ _ _ _ _ _ _ = Q9
  refine lv_iload_n hx hb dX5_keepLargest_0 rfl (lv_at hl 1 rfl) ?_
  refine lv_iconst (v := 0) hx hb dX5_keepLargest_1 (by decide) ?_
  refine lv_bipush (v := 46) hx hb dX5_keepLargest_2 (by decide) ?_
  have hTo := hT
  refine xtSv (n := 3) (As := [.int x, .int 0, .int 46]) (rest := []) hx hb hml hown hg hT hK hX (X5_needRange l κ σ0 x 0 46    hlt) sub_fE_fW (mwS k909 k910 k84 k911) ⟨rfl, by decide, by decide, by decide +kernel⟩ ⟨(Nat.le_of_ble_eq_true rfl), (Nat.le_of_ble_eq_true rfl)⟩ rfl hl.1 rfl (Nat.le_of_ble_eq_true rfl) dX5_keepLargest_4 zroomX.rf (fun E9 ce9 q9 τ9 H9 locs9 hp9 hE9 hT9 hce9 hcv9 hcl9 => by subst hQ9; exact tx_out hT9 hp9.1 hout hlocks hce9 hcv9 hcl9) (fun s2 H locs hφ hEs2 hT => ?_)
  obtain ⟨f3, f4⟩ := hφ
  refine lv_aload_n hx hb dX5_keepLargest_7 rfl (lv_at hl 0 rfl) ?_
  obtain ⟨r5, er5⟩ : ∃ z, kR κ this 3 = z := ⟨_, rfl⟩
  have tr5 : zk σ0 r5 3 := by rw [← er5]; exact hT0.ref t_this (by decide) (by decide) (by decide)
  refine va_get (D := κ.1) (ci := 5) (v := .ref (kR κ this 3)) (C := RX5) (T := TX5) (N := 10) hx hb hg inX5 hown hK (hT.o7 (hT.k t_this (by decide))).one 0 rfl rfl 3 (by decide) (hg _ k382) (fun _ h9 => h9) rfl dX5_keepLargest_8 ?_
  rw [er5]
  refine lv_iload_n hx hb dX5_keepLargest_11 rfl (lv_at hl 1 rfl) ?_
  have hTo := hT
  refine tVr (n := 1) (As := [.int x]) (rest := []) hx hb hml hown hg hT hK hX (X1_dropFromRank l κ s2 r5 x  (hT.k tr5 (by decide)) ) (fun _ _ h => h) (mwV k1107 k1108 k1109 k87 k1110) ⟨rfl, by decide, by decide, by decide +kernel⟩ ⟨(Nat.le_of_ble_eq_true rfl), (Nat.le_of_ble_eq_true rfl)⟩ (hT.o3 (hT.k tr5 (by decide))) rfl rfl hl.1 rfl (Nat.le_of_ble_eq_true rfl) dX5_keepLargest_12 zroom.up (fun x6 s7 H locs hφ hEs7 hT => ?_)
  have f8 := hφ
  have tx6 : zk σ0 x6 1 := hTo.kr f8 (by decide) (by decide)
  obtain ⟨h11, oh11, th11⟩ := hT.o1 (hT.k tx6 (by decide))
  have hTo := hT
  refine tVl (n := 0) (As := []) (rest := []) hx hb hml hown hg hT hK hX (X4_toLong l κ s7 x6  (hT.k tx6 (by decide)) ) sub_fE_fW (mwV k435 k436 k437 k88 k438) ⟨rfl, by decide, by decide, by decide +kernel⟩ ⟨(Nat.le_of_ble_eq_true rfl), (Nat.le_of_ble_eq_true rfl)⟩ oh11 rfl rfl hl.1 rfl (Nat.le_of_ble_eq_true rfl) dX5_keepLargest_15 zroom.up (fun x9 s10 H locs hφ hEs10 hT => ?_)
  subst hQ9
  exact vx_ret (t_l hx hb hr hlocks hT trivial dX5_keepLargest_18)
set_option maxHeartbeats 4000000 in
set_option maxRecDepth 100000 in
theorem X5_error (l : Launch) (κ : Kt) (σ0 : Gh) (this : Nat) (x : Int32) (t_this : zk σ0 this 7) (hlt : l.stackTraces = false) : TX l yX5_error cX5_error 2 (some .long) 7 158 [.ref this, .int x] κ σ0 (tql κ fCp σ0 (fun (r : Int64) (τ : Gh) => True)) (txq κ fCp σ0 (fun (E : String) (τ : Gh) => E = "java/lang/IllegalArgumentException")) := by
  refine TX.of fCp (by decide +kernel) (Nat.le_of_ble_eq_true rfl) ?_
  intro p e s m below meth c ls hcs hout hK hX hT hl
  obtain ⟨hx, hb, hr, hml, hown, hg, hlocks, hin⟩ := hcs
  have hown : s.vm.findClass RX5 = some m.cls := hown
  have hl : lv_has ls 2 [(0, .ref this), (1, .int x)] := hl
  have hT0 := hT
  have n0 : (0 : Int32).toInt = 0 := by decide
  have n1 : (1 : Int32).toInt = 1 := by decide
  have n2 : (2 : Int32).toInt = 2 := by decide
  have n46 : (46 : Int32).toInt = 46 := by decide
  have x_lo := Int32.le_toInt x
  have x_hi := Int32.toInt_lt x
  generalize hQ9 : tQX _ _ _ _ _ _ _ = Q9
  refine lv_iload_n hx hb dX5_error_0 rfl (lv_at hl 1 rfl) ?_
  refine lv_iconst (v := 0) hx hb dX5_error_1 (by decide) ?_
  refine lv_iconst (v := 2) hx hb dX5_error_2 (by decide) ?_
  have hTo := hT
  refine xtSv (n := 3) (As := [.int x, .int 0, .int 2]) (rest := []) hx hb hml hown hg hT hK hX (X5_needRange l κ σ0 x 0 2    hlt) sub_fE_fCp (mwS k909 k910 k84 k911) ⟨rfl, by decide, by decide, by decide +kernel⟩ ⟨(Nat.le_of_ble_eq_true rfl), (Nat.le_of_ble_eq_true rfl)⟩ rfl hl.1 rfl (Nat.le_of_ble_eq_true rfl) dX5_error_3 zroomX.rf (fun E9 ce9 q9 τ9 H9 locs9 hp9 hE9 hT9 hce9 hcv9 hcl9 => by subst hQ9; exact tx_out hT9 hp9.1 hout hlocks hce9 hcv9 hcl9) (fun s2 H locs hφ hEs2 hT => ?_)
  obtain ⟨f3, f4⟩ := hφ
  refine lv_aload_n hx hb dX5_error_6 rfl (lv_at hl 0 rfl) ?_
  obtain ⟨r5, er5⟩ : ∃ z, kR κ this 4 = z := ⟨_, rfl⟩
  have tr5 : zk σ0 r5 3 := by rw [← er5]; exact hT0.ref t_this (by decide) (by decide) (by decide)
  refine va_get (D := κ.1) (ci := 5) (v := .ref (kR κ this 4)) (C := RX5) (T := TX5) (N := 10) hx hb hg inX5 hown hK (hT.o7 (hT.k t_this (by decide))).one 0 rfl rfl 4 (by decide) (hg _ k383) (fun _ h9 => h9) rfl dX5_error_7 ?_
  rw [er5]
  refine lv_aload_n hx hb dX5_error_10 rfl (lv_at hl 0 rfl) ?_
  obtain ⟨r6, er6⟩ : ∃ z, kR κ this 3 = z := ⟨_, rfl⟩
  have tr6 : zk σ0 r6 3 := by rw [← er6]; exact hT0.ref t_this (by decide) (by decide) (by decide)
  refine va_get (D := κ.1) (ci := 5) (v := .ref (kR κ this 3)) (C := RX5) (T := TX5) (N := 10) hx hb hg inX5 hown hK (hT.o7 (hT.k t_this (by decide))).one 0 rfl rfl 3 (by decide) (hg _ k382) (fun _ h9 => h9) rfl dX5_error_11 ?_
  rw [er6]
  have hTo := hT
  refine tVv (n := 1) (As := [.ref r6]) (rest := []) hx hb hml hown hg hT hK hX (X1_copyFrom l κ s2 r5 r6  (hT.k tr5 (by decide)) (hT.k tr6 (by decide)) ) (fun _ _ h => h) (mwV k1123 k1124 k1125 k87 k1126) ⟨rfl, by decide, by decide, by decide +kernel⟩ ⟨(Nat.le_of_ble_eq_true rfl), (Nat.le_of_ble_eq_true rfl)⟩ (hT.o3 (hT.k tr5 (by decide))) rfl rfl hl.1 rfl (Nat.le_of_ble_eq_true rfl) dX5_error_14 zroom.up (fun s8 H locs hφ hEs8 hT => ?_)
  refine lv_aload_n hx hb dX5_error_17 rfl (lv_at hl 0 rfl) ?_
  refine va_get (D := κ.1) (ci := 5) (v := .ref (kR κ this 4)) (C := RX5) (T := TX5) (N := 10) hx hb hg inX5 hown hK (hT.o7 (hT.k t_this (by decide))).one 0 rfl rfl 4 (by decide) (hg _ k383) (fun _ h9 => h9) rfl dX5_error_18 ?_
  rw [er5]
  refine lv_bipush (v := 46) hx hb dX5_error_21 (by decide) ?_
  have hTo := hT
  refine tVi (n := 1) (As := [.int 46]) (rest := []) hx hb hml hown hg hT hK hX (X1_invertLatest l κ s8 r5 46  (hT.k tr5 (by decide)) ) sub_fBe_fCp (mwV k1047 k1048 k1049 k87 k1050) ⟨rfl, by decide, by decide, by decide +kernel⟩ ⟨(Nat.le_of_ble_eq_true rfl), (Nat.le_of_ble_eq_true rfl)⟩ (hT.o3 (hT.k tr5 (by decide))) rfl rfl hl.1 rfl (Nat.le_of_ble_eq_true rfl) dX5_error_23 zroom.up (fun x9 s10 H locs hφ hEs10 hT => ?_)
  refine lv_pop hx hb dX5_error_26 rfl ?_
  refine lv_iload_n hx hb dX5_error_27 rfl (lv_at hl 1 rfl) ?_
  by_cases q11 : x = 0
  · have q11i := gi_eq q11
    refine lv_lookup (off := 28) (tgt := 56) hx hb dX5_error_28 (by decide) (by rw [q11]; decide) (by decide) ?_
    refine lv_aload_n hx hb dX5_error_56 rfl (lv_at hl 0 rfl) ?_
    refine va_get (D := κ.1) (ci := 5) (v := .ref (kR κ this 4)) (C := RX5) (T := TX5) (N := 10) hx hb hg inX5 hown hK (hT.o7 (hT.k t_this (by decide))).one 0 rfl rfl 4 (by decide) (hg _ k383) (fun _ h9 => h9) rfl dX5_error_57 ?_
    rw [er5]
    have hTo := hT
    refine tVr (n := 0) (As := []) (rest := []) hx hb hml hown hg hT hK hX (X1_greatestDifference l κ s10 r5  (hT.k tr5 (by decide)) ) sub_fW_fCp (mwV k1133 k1134 k1135 k87 k1136) ⟨rfl, by decide, by decide, by decide +kernel⟩ ⟨(Nat.le_of_ble_eq_true rfl), (Nat.le_of_ble_eq_true rfl)⟩ (hT.o3 (hT.k tr5 (by decide))) rfl rfl hl.1 rfl (Nat.le_of_ble_eq_true rfl) dX5_error_60 zroom.up (fun x12 s13 H locs hφ hEs13 hT => ?_)
    have f14 := hφ
    have tx12 : zk σ0 x12 1 := hTo.kr f14 (by decide) (by decide)
    obtain ⟨h17, oh17, th17⟩ := hT.o1 (hT.k tx12 (by decide))
    have hTo := hT
    refine tVl (n := 0) (As := []) (rest := []) hx hb hml hown hg hT hK hX (X4_toLong l κ s13 x12  (hT.k tx12 (by decide)) ) sub_fE_fCp (mwV k435 k436 k437 k88 k438) ⟨rfl, by decide, by decide, by decide +kernel⟩ ⟨(Nat.le_of_ble_eq_true rfl), (Nat.le_of_ble_eq_true rfl)⟩ oh17 rfl rfl hl.1 rfl (Nat.le_of_ble_eq_true rfl) dX5_error_63 zroom.up (fun x15 s16 H locs hφ hEs16 hT => ?_)
    subst hQ9
    exact vx_ret (t_l hx hb hr hlocks hT trivial dX5_error_66)
  · have q11i := gi_ne q11
    by_cases q18 : x = 1
    · have q18i := gi_eq q18
      refine lv_lookup (off := 39) (tgt := 67) hx hb dX5_error_28 (by decide) (by rw [q18]; decide) (by decide) ?_
      refine lv_aload_n hx hb dX5_error_67 rfl (lv_at hl 0 rfl) ?_
      refine va_get (D := κ.1) (ci := 5) (v := .ref (kR κ this 4)) (C := RX5) (T := TX5) (N := 10) hx hb hg inX5 hown hK (hT.o7 (hT.k t_this (by decide))).one 0 rfl rfl 4 (by decide) (hg _ k383) (fun _ h9 => h9) rfl dX5_error_68 ?_
      rw [er5]
      have hTo := hT
      refine tVr (n := 0) (As := []) (rest := []) hx hb hml hown hg hT hK hX (X1_differenceSum l κ s10 r5  (hT.k tr5 (by decide)) ) sub_fW_fCp (mwV k1141 k1142 k1143 k87 k1144) ⟨rfl, by decide, by decide, by decide +kernel⟩ ⟨(Nat.le_of_ble_eq_true rfl), (Nat.le_of_ble_eq_true rfl)⟩ (hT.o3 (hT.k tr5 (by decide))) rfl rfl hl.1 rfl (Nat.le_of_ble_eq_true rfl) dX5_error_71 zroom.up (fun x19 s20 H locs hφ hEs20 hT => ?_)
      have f21 := hφ
      have tx19 : zk σ0 x19 1 := hTo.kr f21 (by decide) (by decide)
      obtain ⟨h24, oh24, th24⟩ := hT.o1 (hT.k tx19 (by decide))
      have hTo := hT
      refine tVl (n := 0) (As := []) (rest := []) hx hb hml hown hg hT hK hX (X4_toLong l κ s20 x19  (hT.k tx19 (by decide)) ) sub_fE_fCp (mwV k435 k436 k437 k88 k438) ⟨rfl, by decide, by decide, by decide +kernel⟩ ⟨(Nat.le_of_ble_eq_true rfl), (Nat.le_of_ble_eq_true rfl)⟩ oh24 rfl rfl hl.1 rfl (Nat.le_of_ble_eq_true rfl) dX5_error_74 zroom.up (fun x22 s23 H locs hφ hEs23 hT => ?_)
      subst hQ9
      exact vx_ret (t_l hx hb hr hlocks hT trivial dX5_error_77)
    · have q18i := gi_ne q18
      refine lv_lookup (off := 50) (tgt := 78) hx hb dX5_error_28 (by decide) (by simp [Op.lookupswitch.offset] <;> omega) (by decide) ?_
      refine lv_aload_n hx hb dX5_error_78 rfl (lv_at hl 0 rfl) ?_
      refine va_get (D := κ.1) (ci := 5) (v := .ref (kR κ this 4)) (C := RX5) (T := TX5) (N := 10) hx hb hg inX5 hown hK (hT.o7 (hT.k t_this (by decide))).one 0 rfl rfl 4 (by decide) (hg _ k383) (fun _ h9 => h9) rfl dX5_error_79 ?_
      rw [er5]
      have hTo := hT
      refine tVi (n := 0) (As := []) (rest := []) hx hb hml hown hg hT hK hX (X1_differenceCount l κ s10 r5  (hT.k tr5 (by decide)) ) sub_fW_fCp (mwV k1145 k1146 k1147 k87 k1148) ⟨rfl, by decide, by decide, by decide +kernel⟩ ⟨(Nat.le_of_ble_eq_true rfl), (Nat.le_of_ble_eq_true rfl)⟩ (hT.o3 (hT.k tr5 (by decide))) rfl rfl hl.1 rfl (Nat.le_of_ble_eq_true rfl) dX5_error_82 zroom.up (fun x25 s26 H locs hφ hEs26 hT => ?_)
      refine lv_i2l hx hb dX5_error_85 rfl ?_
      refine g_i2l (fun t27 ht27 => ?_)
      subst hQ9
      exact vx_ret (t_l hx hb hr hlocks hT trivial dX5_error_86)
set_option maxHeartbeats 4000000 in
set_option maxRecDepth 100000 in
theorem X5_errorOfCut (l : Launch) (κ : Kt) (σ0 : Gh) (this : Nat) (x : Int32) (so : Int32) (t_this : zk σ0 this 7) (b_so : isB so) : TC l yX5_errorOfCut cX5_errorOfCut 3 (some (.object "LiftingSignal$Whole")) 6 158 [.ref this, .int x, .int so] κ σ0 (tqr κ fCp σ0 (fun (r : Nat) (τ : Gh) => (zk σ0 r 1))) := by
  refine TC.of fCp (by decide +kernel) (Nat.le_of_ble_eq_true rfl) ?_
  intro p e s m below meth c ls hcs hK hX hT hl
  obtain ⟨hx, hb, hr, hml, hown, hg, hlocks, hin⟩ := hcs
  have hown : s.vm.findClass RX5 = some m.cls := hown
  have hl : lv_has ls 3 [(0, .ref this), (1, .int x), (2, .int so)] := hl
  have hT0 := hT
  have n46 : (46 : Int32).toInt = 46 := by decide
  have x_lo := Int32.le_toInt x
  have x_hi := Int32.toInt_lt x
  generalize hQ9 : tQ _ _ _ _ _ _ = Q9
  refine lv_aload_n hx hb dX5_errorOfCut_0 rfl (lv_at hl 0 rfl) ?_
  obtain ⟨r1, er1⟩ : ∃ z, kR κ this 4 = z := ⟨_, rfl⟩
  have tr1 : zk σ0 r1 3 := by rw [← er1]; exact hT0.ref t_this (by decide) (by decide) (by decide)
  refine va_get (D := κ.1) (ci := 5) (v := .ref (kR κ this 4)) (C := RX5) (T := TX5) (N := 10) hx hb hg inX5 hown hK (hT.o7 (hT.k t_this (by decide))).one 0 rfl rfl 4 (by decide) (hg _ k383) (fun _ h9 => h9) rfl dX5_errorOfCut_1 ?_
  rw [er1]
  refine lv_aload_n hx hb dX5_errorOfCut_4 rfl (lv_at hl 0 rfl) ?_
  obtain ⟨r2, er2⟩ : ∃ z, kR κ this 3 = z := ⟨_, rfl⟩
  have tr2 : zk σ0 r2 3 := by rw [← er2]; exact hT0.ref t_this (by decide) (by decide) (by decide)
  refine va_get (D := κ.1) (ci := 5) (v := .ref (kR κ this 3)) (C := RX5) (T := TX5) (N := 10) hx hb hg inX5 hown hK (hT.o7 (hT.k t_this (by decide))).one 0 rfl rfl 3 (by decide) (hg _ k382) (fun _ h9 => h9) rfl dX5_errorOfCut_5 ?_
  rw [er2]
  have hTo := hT
  refine tVv (n := 1) (As := [.ref r2]) (rest := []) hx hb hml hown hg hT hK hX (X1_copyFrom l κ σ0 r1 r2  (hT.k tr1 (by decide)) (hT.k tr2 (by decide)) ) (fun _ _ h => h) (mwV k1123 k1124 k1125 k87 k1126) ⟨rfl, by decide, by decide, by decide +kernel⟩ ⟨(Nat.le_of_ble_eq_true rfl), (Nat.le_of_ble_eq_true rfl)⟩ (hT.o3 (hT.k tr1 (by decide))) rfl rfl hl.1 rfl (Nat.le_of_ble_eq_true rfl) dX5_errorOfCut_8 zroom.rf (fun s4 H locs hφ hEs4 hT => ?_)
  refine lv_aload_n hx hb dX5_errorOfCut_11 rfl (lv_at hl 0 rfl) ?_
  refine va_get (D := κ.1) (ci := 5) (v := .ref (kR κ this 4)) (C := RX5) (T := TX5) (N := 10) hx hb hg inX5 hown hK (hT.o7 (hT.k t_this (by decide))).one 0 rfl rfl 4 (by decide) (hg _ k383) (fun _ h9 => h9) rfl dX5_errorOfCut_12 ?_
  rw [er1]
  refine lv_iload_n hx hb dX5_errorOfCut_15 rfl (lv_at hl 1 rfl) ?_
  refine lv_iload_n hx hb dX5_errorOfCut_16 rfl (lv_at hl 2 rfl) ?_
  have hTo := hT
  refine tVv (n := 2) (As := [.int x, .int so]) (rest := []) hx hb hml hown hg hT hK hX (X1_cutDetails l κ s4 r1 x so  (hT.k tr1 (by decide)) b_so ) sub_fW_fCp (mwV k1072 k1073 k1074 k87 k1075) ⟨rfl, by decide, by decide, by decide +kernel⟩ ⟨(Nat.le_of_ble_eq_true rfl), (Nat.le_of_ble_eq_true rfl)⟩ (hT.o3 (hT.k tr1 (by decide))) rfl rfl hl.1 rfl (Nat.le_of_ble_eq_true rfl) dX5_errorOfCut_17 zroom.rf (fun s6 H locs hφ hEs6 hT => ?_)
  refine lv_aload_n hx hb dX5_errorOfCut_20 rfl (lv_at hl 0 rfl) ?_
  refine va_get (D := κ.1) (ci := 5) (v := .ref (kR κ this 4)) (C := RX5) (T := TX5) (N := 10) hx hb hg inX5 hown hK (hT.o7 (hT.k t_this (by decide))).one 0 rfl rfl 4 (by decide) (hg _ k383) (fun _ h9 => h9) rfl dX5_errorOfCut_21 ?_
  rw [er1]
  refine lv_bipush (v := 46) hx hb dX5_errorOfCut_24 (by decide) ?_
  have hTo := hT
  refine tVi (n := 1) (As := [.int 46]) (rest := []) hx hb hml hown hg hT hK hX (X1_invertLatest l κ s6 r1 46  (hT.k tr1 (by decide)) ) sub_fBe_fCp (mwV k1047 k1048 k1049 k87 k1050) ⟨rfl, by decide, by decide, by decide +kernel⟩ ⟨(Nat.le_of_ble_eq_true rfl), (Nat.le_of_ble_eq_true rfl)⟩ (hT.o3 (hT.k tr1 (by decide))) rfl rfl hl.1 rfl (Nat.le_of_ble_eq_true rfl) dX5_errorOfCut_26 zroom.rf (fun x7 s8 H locs hφ hEs8 hT => ?_)
  refine lv_pop hx hb dX5_errorOfCut_29 rfl ?_
  refine lv_aload_n hx hb dX5_errorOfCut_30 rfl (lv_at hl 0 rfl) ?_
  refine va_get (D := κ.1) (ci := 5) (v := .ref (kR κ this 4)) (C := RX5) (T := TX5) (N := 10) hx hb hg inX5 hown hK (hT.o7 (hT.k t_this (by decide))).one 0 rfl rfl 4 (by decide) (hg _ k383) (fun _ h9 => h9) rfl dX5_errorOfCut_31 ?_
  rw [er1]
  have hTo := hT
  refine tVr (n := 0) (As := []) (rest := []) hx hb hml hown hg hT hK hX (X1_greatestDifference l κ s8 r1  (hT.k tr1 (by decide)) ) sub_fW_fCp (mwV k1133 k1134 k1135 k87 k1136) ⟨rfl, by decide, by decide, by decide +kernel⟩ ⟨(Nat.le_of_ble_eq_true rfl), (Nat.le_of_ble_eq_true rfl)⟩ (hT.o3 (hT.k tr1 (by decide))) rfl rfl hl.1 rfl (Nat.le_of_ble_eq_true rfl) dX5_errorOfCut_34 zroom.rf (fun x9 s10 H locs hφ hEs10 hT => ?_)
  have f11 := hφ
  have tx9 : zk σ0 x9 1 := hTo.kr f11 (by decide) (by decide)
  subst hQ9
  exact t_r rfl hx hb hr hlocks hT tx9 dX5_errorOfCut_37
set_option maxHeartbeats 4000000 in
set_option maxRecDepth 100000 in
theorem X5_errorWith (l : Launch) (κ : Kt) (σ0 : Gh) (this : Nat) (x : Int32) (so : Int32) (t_this : zk σ0 this 7) (b_so : isB so) (hlt : l.stackTraces = false) : TX l yX5_errorWith cX5_errorWith 3 (some .long) 7 180 [.ref this, .int x, .int so] κ σ0 (tql κ fCp σ0 (fun (r : Int64) (τ : Gh) => True)) (txq κ fCp σ0 (fun (E : String) (τ : Gh) => E = "java/lang/IllegalArgumentException")) := by
  refine TX.of fCp (by decide +kernel) (Nat.le_of_ble_eq_true rfl) ?_
  intro p e s m below meth c ls hcs hout hK hX hT hl
  obtain ⟨hx, hb, hr, hml, hown, hg, hlocks, hin⟩ := hcs
  have hown : s.vm.findClass RX5 = some m.cls := hown
  have hl : lv_has ls 3 [(0, .ref this), (1, .int x), (2, .int so)] := hl
  have hT0 := hT
  have n0 : (0 : Int32).toInt = 0 := by decide
  have n9999 : (9999 : Int32).toInt = 9999 := by decide
  have x_lo := Int32.le_toInt x
  have x_hi := Int32.toInt_lt x
  generalize hQ9 : tQX _ _ _ _ _ _ _ = Q9
  refine lv_iload_n hx hb dX5_errorWith_0 rfl (lv_at hl 1 rfl) ?_
  refine lv_iconst (v := 0) hx hb dX5_errorWith_1 (by decide) ?_
  refine lv_sipush (v := 9999) hx hb dX5_errorWith_2 (by decide) ?_
  have hTo := hT
  refine xtSv (n := 3) (As := [.int x, .int 0, .int 9999]) (rest := []) hx hb hml hown hg hT hK hX (X5_needRange l κ σ0 x 0 9999    hlt) sub_fE_fCp (mwS k909 k910 k84 k911) ⟨rfl, by decide, by decide, by decide +kernel⟩ ⟨(Nat.le_of_ble_eq_true rfl), (Nat.le_of_ble_eq_true rfl)⟩ rfl hl.1 rfl (Nat.le_of_ble_eq_true rfl) dX5_errorWith_5 zroomX.rf (fun E9 ce9 q9 τ9 H9 locs9 hp9 hE9 hT9 hce9 hcv9 hcl9 => by subst hQ9; exact tx_out hT9 hp9.1 hout hlocks hce9 hcv9 hcl9) (fun s2 H locs hφ hEs2 hT => ?_)
  obtain ⟨f3, f4⟩ := hφ
  refine lv_aload_n hx hb dX5_errorWith_8 rfl (lv_at hl 0 rfl) ?_
  refine lv_iload_n hx hb dX5_errorWith_9 rfl (lv_at hl 1 rfl) ?_
  refine lv_iload_n hx hb dX5_errorWith_10 rfl (lv_at hl 2 rfl) ?_
  have hTo := hT
  refine tVr (n := 2) (As := [.int x, .int so]) (rest := []) hx hb hml hown hg hT hK hX (X5_errorOfCut l κ s2 this x so  (hT.k t_this (by decide)) b_so ) (fun _ _ h => h) (mwV k1156 k1158 k33 k84 k1159) ⟨rfl, by decide, by decide, by decide +kernel⟩ ⟨(Nat.le_of_ble_eq_true rfl), (Nat.le_of_ble_eq_true rfl)⟩ (hT.o7 (hT.k t_this (by decide))) rfl rfl hl.1 rfl (Nat.le_of_ble_eq_true rfl) dX5_errorWith_11 zroom.up (fun x5 s6 H locs hφ hEs6 hT => ?_)
  have f7 := hφ
  have tx5 : zk σ0 x5 1 := hTo.kr f7 (by decide) (by decide)
  obtain ⟨h10, oh10, th10⟩ := hT.o1 (hT.k tx5 (by decide))
  have hTo := hT
  refine tVl (n := 0) (As := []) (rest := []) hx hb hml hown hg hT hK hX (X4_toLong l κ s6 x5  (hT.k tx5 (by decide)) ) sub_fE_fCp (mwV k435 k436 k437 k88 k438) ⟨rfl, by decide, by decide, by decide +kernel⟩ ⟨(Nat.le_of_ble_eq_true rfl), (Nat.le_of_ble_eq_true rfl)⟩ oh10 rfl rfl hl.1 rfl (Nat.le_of_ble_eq_true rfl) dX5_errorWith_14 zroom.up (fun x8 s9 H locs hφ hEs9 hT => ?_)
  subst hQ9
  exact vx_ret (t_l hx hb hr hlocks hT trivial dX5_errorWith_17)
set_option maxHeartbeats 4000000 in
set_option maxRecDepth 100000 in
theorem X5_bestThreshold (l : Launch) (κ : Kt) (σ0 : Gh) (this : Nat) (x : Int32) (t_this : zk σ0 this 7) (hlt : l.stackTraces = false) : TX l yX5_bestThreshold cX5_bestThreshold 5 (some .int) 7 180 [.ref this, .int x] κ σ0 (tqi κ fCp σ0 (fun (r : Int32) (τ : Gh) => True)) (txq κ fCp σ0 (fun (E : String) (τ : Gh) => E = "java/lang/IllegalArgumentException" ∨ E = "java/util/NoSuchElementException")) := by
  refine TX.of fCp (by decide +kernel) (Nat.le_of_ble_eq_true rfl) ?_
  intro p e s m below meth c ls hcs hout hK hX hT hl
  obtain ⟨hx, hb, hr, hml, hown, hg, hlocks, hin⟩ := hcs
  have hown : s.vm.findClass RX5 = some m.cls := hown
  have hl : lv_has ls 5 [(0, .ref this), (1, .int x)] := hl
  have hT0 := hT
  have n0 : (0 : Int32).toInt = 0 := by decide
  have n46 : (46 : Int32).toInt = 46 := by decide
  have n99999 : (99999 : Int32).toInt = 99999 := by decide
  have j0 : (0 : Int64).toInt = 0 := by decide
  have j1 : (1 : Int64).toInt = 1 := by decide
  have j1000 : (1000 : Int64).toInt = 1000 := by decide
  have x_lo := Int32.le_toInt x
  have x_hi := Int32.toInt_lt x
  generalize hQ9 : tQX _ _ _ _ _ _ _ = Q9
  refine lv_iload_n hx hb dX5_bestThreshold_0 rfl (lv_at hl 1 rfl) ?_
  refine lv_iconst (v := 0) hx hb dX5_bestThreshold_1 (by decide) ?_
  refine lv_ldcw hx hb hown (hg _ k1063) dX5_bestThreshold_2 ?_
  have hTo := hT
  refine xtSv (n := 3) (As := [.int x, .int 0, .int 99999]) (rest := []) hx hb hml hown hg hT hK hX (X5_needRange l κ σ0 x 0 99999    hlt) sub_fE_fCp (mwS k909 k910 k84 k911) ⟨rfl, by decide, by decide, by decide +kernel⟩ ⟨(Nat.le_of_ble_eq_true rfl), (Nat.le_of_ble_eq_true rfl)⟩ rfl hl.1 rfl (Nat.le_of_ble_eq_true rfl) dX5_bestThreshold_5 zroomX.rf (fun E9 ce9 q9 τ9 H9 locs9 hp9 hE9 hT9 hce9 hcv9 hcl9 => by subst hQ9; exact tx_out hT9 (Or.inl hp9.1) hout hlocks hce9 hcv9 hcl9) (fun s2 H locs hφ hEs2 hT => ?_)
  obtain ⟨f3, f4⟩ := hφ
  refine lv_ldc2 hx hb hown (hg _ k1167) dX5_bestThreshold_8 ?_
  refine lv_lstore_n (lv' := [(2, .long 1000), (0, .ref this), (1, .int x)]) hx hb dX5_bestThreshold_11 rfl hl (by decide) rfl (fun ls hl => ?_)
  refine lv_iconst (v := 0) hx hb dX5_bestThreshold_12 (by decide) ?_
  refine lv_istore (lv' := [(4, .int 0), (2, .long 1000), (0, .ref this), (1, .int x)]) hx hb dX5_bestThreshold_13 hl (by decide) rfl (fun ls hl => ?_)
  have loop15 : ∀ (n9 : Nat) (th : Int64) (k : Int32) (H : Heap) (locs : List Loc) (sg : Gh) (ls : Array Slot), TS κ fCp σ0 sg s H locs → (0 ≤ k.toInt) → (k.toInt ≤ 47) → lv_has ls 5 [(2, .long th), (4, .int k), (0, .ref this), (1, .int x)] → (47 - k.toInt) < n9 → tW p l e 7 180 (kX κ) s m #[.ref this, .int x] below meth c H locs Q9 (F0 m 15 ls []) := by
    intro n9
    induction n9 with
    | zero =>
      intro th k H locs sg ls hT q2 q3 hl hm9
      exfalso
      omega
    | succ n9 ih9 =>
      have ih15 := ih9
      clear ih9
      intro th k H locs s5 ls hT q2 q3 hl hm9
      refine lv_iload hx hb dX5_bestThreshold_15 (lv_at hl 1 rfl) ?_
      refine lv_bipush (v := 46) hx hb dX5_bestThreshold_17 (by decide) ?_
      refine lv_icmp_gt (tgt := 63) hx hb dX5_bestThreshold_19 (by decide) (fun c9 => ?_) (fun c9 => ?_)
      · have c1 := gi_lt c9
        obtain ⟨sa, hsa⟩ := XX_sRX5_312 hX.1
        subst hQ9
        exact tthW_NSEE hx hb hlt hown (hg _ k951) (hg _ k103) hsa hg hX.1 hT (hl.1.trans hml.symm) dX5_bestThreshold_63 dX5_bestThreshold_66 dX5_bestThreshold_67 dX5_bestThreshold_70 dX5_bestThreshold_73 hout (Nat.le_of_ble_eq_true rfl) (Nat.le_of_ble_eq_true rfl) zroomX.rf hlocks (Or.inr rfl)
      · have c2 := gi_nlt c9
        refine lv_lload_n hx hb dX5_bestThreshold_22 rfl (lv_at hl 0 rfl) ?_
        refine lv_lconst (v := 0) hx hb dX5_bestThreshold_23 (by decide) ?_
        refine W.lcmp hx hb dX5_bestThreshold_24 ?_
        refine lv_if_lt (tgt := 63) hx hb dX5_bestThreshold_25 (by decide) (fun c9 => ?_) (fun c9 => ?_)
        · have c3 := gl_lt c9
          obtain ⟨sa, hsa⟩ := XX_sRX5_312 hX.1
          subst hQ9
          exact tthW_NSEE hx hb hlt hown (hg _ k951) (hg _ k103) hsa hg hX.1 hT (hl.1.trans hml.symm) dX5_bestThreshold_63 dX5_bestThreshold_66 dX5_bestThreshold_67 dX5_bestThreshold_70 dX5_bestThreshold_73 hout (Nat.le_of_ble_eq_true rfl) (Nat.le_of_ble_eq_true rfl) zroomX.rf hlocks (Or.inr rfl)
        · have c4 := gl_nlt c9
          refine lv_aload_n hx hb dX5_bestThreshold_28 rfl (lv_at hl 2 rfl) ?_
          refine lv_lload_n hx hb dX5_bestThreshold_29 rfl (lv_at hl 0 rfl) ?_
          refine lv_l2i hx hb dX5_bestThreshold_30 rfl ?_
          refine lv_topi (fun t6 ht6 => ?_)
          refine lv_iconst (v := 0) hx hb dX5_bestThreshold_31 (by decide) ?_
          have hTo := hT
          refine tVr (n := 2) (As := [.int t6, .int 0]) (rest := []) hx hb hml hown hg hT hK hX (X5_errorOfCut l κ s5 this t6 0  (hT.k t_this (by decide)) isB0 ) (fun _ _ h => h) (mwV k1156 k1158 k33 k84 k1159) ⟨rfl, by decide, by decide, by decide +kernel⟩ ⟨(Nat.le_of_ble_eq_true rfl), (Nat.le_of_ble_eq_true rfl)⟩ (hT.o7 (hT.k t_this (by decide))) rfl rfl hl.1 rfl (Nat.le_of_ble_eq_true rfl) dX5_bestThreshold_32 zroom.up (fun x7 s8 H locs hφ hEs8 hT => ?_)
          have f9 := hφ
          have tx7 : zk σ0 x7 1 := hTo.kr f9 (by decide) (by decide)
          refine lv_iload_n hx hb dX5_bestThreshold_35 rfl (lv_at hl 3 rfl) ?_
          refine lv_i2l hx hb dX5_bestThreshold_36 rfl ?_
          refine g_i2l (fun t10 ht10 => ?_)
          refine lv_lconst (v := 1) hx hb dX5_bestThreshold_37 (by decide) ?_
          refine lv_ladd hx hb dX5_bestThreshold_38 ?_
          refine lv_topl (fun t11 ht11 => ?_)
          obtain ⟨h14, oh14, th14⟩ := hT.o1 (hT.k tx7 (by decide))
          have hTo := hT
          refine tVi (n := 1) (As := [.long t11]) (rest := []) hx hb hml hown hg hT hK hX (X4_isAmountBelow l κ s8 x7 t11  (hT.k tx7 (by decide)) ) sub_fE_fCp (mwV k1168 k1077 k1078 k88 k1079) ⟨rfl, by decide, by decide, by decide +kernel⟩ ⟨(Nat.le_of_ble_eq_true rfl), (Nat.le_of_ble_eq_true rfl)⟩ oh14 rfl rfl hl.1 rfl (Nat.le_of_ble_eq_true rfl) dX5_bestThreshold_39 zroom.up (fun x12 s13 H locs hφ hEs13 hT => ?_)
          have f15 := hφ
          refine lv_if_eq (tgt := 48) hx hb dX5_bestThreshold_42 (by decide) (fun c9 => ?_) (fun c9 => ?_)
          · have c5 := gi_eq c9
            refine lv_aload_n hx hb dX5_bestThreshold_48 rfl (lv_at hl 2 rfl) ?_
            obtain ⟨r16, er16⟩ : ∃ z, kR κ this 3 = z := ⟨_, rfl⟩
            have tr16 : zk σ0 r16 3 := by rw [← er16]; exact hT0.ref t_this (by decide) (by decide) (by decide)
            refine va_get (D := κ.1) (ci := 5) (v := .ref (kR κ this 3)) (C := RX5) (T := TX5) (N := 10) hx hb hg inX5 hown hK (hT.o7 (hT.k t_this (by decide))).one 0 rfl rfl 3 (by decide) (hg _ k382) (fun _ h9 => h9) rfl dX5_bestThreshold_49 ?_
            rw [er16]
            refine lv_lload_n hx hb dX5_bestThreshold_52 rfl (lv_at hl 0 rfl) ?_
            have hTo := hT
            refine tVl (n := 1) (As := [.long th]) (rest := []) hx hb hml hown hg hT hK hX (X1_greatestAmountBelow l κ s13 r16 th  (hT.k tr16 (by decide)) ) sub_fE_fCp (mwV k1169 k1170 k1171 k87 k1172) ⟨rfl, by decide, by decide, by decide +kernel⟩ ⟨(Nat.le_of_ble_eq_true rfl), (Nat.le_of_ble_eq_true rfl)⟩ (hT.o3 (hT.k tr16 (by decide))) rfl rfl hl.1 rfl (Nat.le_of_ble_eq_true rfl) dX5_bestThreshold_53 zroom.up (fun x17 s18 H locs hφ hEs18 hT => ?_)
            refine lv_lstore_n (lv' := [(2, .long x17), (4, .int k), (0, .ref this), (1, .int x)]) hx hb dX5_bestThreshold_56 rfl hl (by decide) rfl (fun ls hl => ?_)
            obtain ⟨t19, qt19⟩ : ∃ zz9 : Int32, k + Int32.ofInt 1 = zz9 := ⟨_, rfl⟩
            refine lv_iinc (v := t19) (lv' := [(4, .int t19), (2, .long x17), (0, .ref this), (1, .int x)]) hx hb dX5_bestThreshold_57 hl (k := 1) rfl qt19 (by decide) rfl (fun ls hl => ?_)
            have ht19 : t19.toInt = k.toInt + 1 := by rw [← qt19]; exact v_addi rfl (show (Int32.ofInt 1).toInt = 1 from by decide) (by omega) (by omega)
            refine lv_goto (tgt := 15) hx hb dX5_bestThreshold_60 (by decide) ?_
            exact ih15 x17 t19 _ _ _ _ hT  (by omega) (by omega) (lv_sub hl [1, 0, 2, 3] rfl) (by omega)
          · have c6 := gi_ne c9
            refine lv_lload_n hx hb dX5_bestThreshold_45 rfl (lv_at hl 0 rfl) ?_
            refine lv_l2i hx hb dX5_bestThreshold_46 rfl ?_
            refine lv_topi (fun t20 ht20 => ?_)
            subst hQ9
            exact vx_ret (t_i hx hb hr hlocks hT trivial dX5_bestThreshold_47)
  exact loop15 ((47 - (0 : Int32).toInt).toNat + 1) 1000 0 _ _ _ _ hT  (by omega) (by omega) (lv_sub hl [1, 0, 2, 3] rfl) (by omega)
set_option maxHeartbeats 4000000 in
set_option maxRecDepth 100000 in
theorem X5_beginTrial (l : Launch) (κ : Kt) (σ0 : Gh) (this : Nat) (x : Int32) (z : Int32) (t_this : zk σ0 this 7) : TC l yX5_beginTrial cX5_beginTrial 3 none 4 110 [.ref this, .int x, .int z] κ σ0 (tqv κ fCp σ0 (fun (τ : Gh) => True)) := by
  refine TC.of fCp (by decide +kernel) (Nat.le_of_ble_eq_true rfl) ?_
  intro p e s m below meth c ls hcs hK hX hT hl
  obtain ⟨hx, hb, hr, hml, hown, hg, hlocks, hin⟩ := hcs
  have hown : s.vm.findClass RX5 = some m.cls := hown
  have hl : lv_has ls 3 [(0, .ref this), (1, .int x), (2, .int z)] := hl
  have hT0 := hT
  have x_lo := Int32.le_toInt x
  have x_hi := Int32.toInt_lt x
  have z_lo := Int32.le_toInt z
  have z_hi := Int32.toInt_lt z
  generalize hQ9 : tQ _ _ _ _ _ _ = Q9
  refine lv_aload_n hx hb dX5_beginTrial_0 rfl (lv_at hl 0 rfl) ?_
  obtain ⟨r1, er1⟩ : ∃ z, kR κ this 4 = z := ⟨_, rfl⟩
  have tr1 : zk σ0 r1 3 := by rw [← er1]; exact hT0.ref t_this (by decide) (by decide) (by decide)
  refine va_get (D := κ.1) (ci := 5) (v := .ref (kR κ this 4)) (C := RX5) (T := TX5) (N := 10) hx hb hg inX5 hown hK (hT.o7 (hT.k t_this (by decide))).one 0 rfl rfl 4 (by decide) (hg _ k383) (fun _ h9 => h9) rfl dX5_beginTrial_1 ?_
  rw [er1]
  have hTo := hT
  refine tVv (n := 0) (As := []) (rest := []) hx hb hml hown hg hT hK hX (X1_begin l κ σ0 r1  (hT.k tr1 (by decide)) ) sub_fBe_fCp (mwV k332 k333 k334 k87 k335) ⟨rfl, by decide, by decide, by decide +kernel⟩ ⟨(Nat.le_of_ble_eq_true rfl), (Nat.le_of_ble_eq_true rfl)⟩ (hT.o3 (hT.k tr1 (by decide))) rfl rfl hl.1 rfl (Nat.le_of_ble_eq_true rfl) dX5_beginTrial_4 zroom.rf (fun s3 H locs hφ hEs3 hT => ?_)
  refine lv_aload_n hx hb dX5_beginTrial_7 rfl (lv_at hl 0 rfl) ?_
  refine va_get (D := κ.1) (ci := 5) (v := .ref (kR κ this 4)) (C := RX5) (T := TX5) (N := 10) hx hb hg inX5 hown hK (hT.o7 (hT.k t_this (by decide))).one 0 rfl rfl 4 (by decide) (hg _ k383) (fun _ h9 => h9) rfl dX5_beginTrial_8 ?_
  rw [er1]
  refine lv_iload_n hx hb dX5_beginTrial_11 rfl (lv_at hl 1 rfl) ?_
  have hTo := hT
  refine pf3_7 hx hb hg hown hK hT (hT.k tr1 (by decide)) rfl (hg _ k292) dX5_beginTrial_12 (fun H locs s4 hus4 hT => ?_)
  have e5 : zI s4 r1 7 = x := zput_at hus4
  refine lv_aload_n hx hb dX5_beginTrial_15 rfl (lv_at hl 0 rfl) ?_
  refine va_get (D := κ.1) (ci := 5) (v := .ref (kR κ this 4)) (C := RX5) (T := TX5) (N := 10) hx hb hg inX5 hown hK (hT.o7 (hT.k t_this (by decide))).one 0 rfl rfl 4 (by decide) (hg _ k383) (fun _ h9 => h9) rfl dX5_beginTrial_16 ?_
  rw [er1]
  refine lv_iload_n hx hb dX5_beginTrial_19 rfl (lv_at hl 2 rfl) ?_
  have hTo := hT
  refine pf3_8 hx hb hg hown hK hT (hT.k tr1 (by decide)) rfl (hg _ k294) dX5_beginTrial_20 (fun H locs s6 hus6 hT => ?_)
  have e5 : zI s6 r1 7 = x := (zput_o hus6 (Or.inr (by decide))).trans e5
  have e7 : zI s6 r1 8 = z := zput_at hus6
  refine lv_aload_n hx hb dX5_beginTrial_23 rfl (lv_at hl 0 rfl) ?_
  refine va_get (D := κ.1) (ci := 5) (v := .ref (kR κ this 4)) (C := RX5) (T := TX5) (N := 10) hx hb hg inX5 hown hK (hT.o7 (hT.k t_this (by decide))).one 0 rfl rfl 4 (by decide) (hg _ k383) (fun _ h9 => h9) rfl dX5_beginTrial_24 ?_
  rw [er1]
  refine lv_aload_n hx hb dX5_beginTrial_27 rfl (lv_at hl 0 rfl) ?_
  obtain ⟨r8, er8⟩ : ∃ z, kR κ this 3 = z := ⟨_, rfl⟩
  have tr8 : zk σ0 r8 3 := by rw [← er8]; exact hT0.ref t_this (by decide) (by decide) (by decide)
  refine va_get (D := κ.1) (ci := 5) (v := .ref (kR κ this 3)) (C := RX5) (T := TX5) (N := 10) hx hb hg inX5 hown hK (hT.o7 (hT.k t_this (by decide))).one 0 rfl rfl 3 (by decide) (hg _ k382) (fun _ h9 => h9) rfl dX5_beginTrial_28 ?_
  rw [er8]
  obtain ⟨v9, ev9⟩ : ∃ zz9 : Int32, zI s6 r8 9 = zz9 := ⟨_, rfl⟩
  have qv9 : v9.toInt = (zI s6 r8 9).toInt := by rw [ev9]
  have b10 : isB v9 := by have q9 := (hT.P (hT.k tr8 (by decide)) (by decide)).2; rw [ev9] at q9; exact q9
  refine va_get (D := κ.1) (ci := 1) (v := .int (zI s6 r8 9)) (C := RX1) (T := TX1) (N := 13) hx hb hg inX1 hown hK (hT.o3 (hT.k tr8 (by decide))).one 0 rfl rfl 9 (by decide) (hg _ k296) (fun _ h9 => h9) rfl dX5_beginTrial_31 ?_
  rw [ev9]
  have hTo := hT
  refine pf3_9 hx hb hg hown hK hT (hT.k tr1 (by decide)) rfl b10 (hg _ k296) dX5_beginTrial_34 (fun H locs s11 hus11 hT => ?_)
  have e5 : zI s11 r1 7 = x := (zput_o hus11 (Or.inr (by decide))).trans e5
  have e7 : zI s11 r1 8 = z := (zput_o hus11 (Or.inr (by decide))).trans e7
  have e12 : zI s11 r1 9 = v9 := zput_at hus11
  subst hQ9
  exact t_v hx hb hr hlocks hT trivial dX5_beginTrial_37
set_option maxHeartbeats 4000000 in
set_option maxRecDepth 100000 in
theorem X5_bitsBy (l : Launch) (κ : Kt) (σ0 : Gh) (this : Nat) (x : Int32) (z : Int32) (t_this : zk σ0 this 7) (hlt : l.stackTraces = false) : TX l yX5_bitsBy cX5_bitsBy 3 (some .int) 7 187 [.ref this, .int x, .int z] κ σ0 (tqi κ fCp σ0 (fun (r : Int32) (τ : Gh) => True)) (txq κ fCp σ0 (fun (E : String) (τ : Gh) => E = "java/lang/IllegalArgumentException")) := by
  refine TX.of fCp (by decide +kernel) (Nat.le_of_ble_eq_true rfl) ?_
  intro p e s m below meth c ls hcs hout hK hX hT hl
  obtain ⟨hx, hb, hr, hml, hown, hg, hlocks, hin⟩ := hcs
  have hown : s.vm.findClass RX5 = some m.cls := hown
  have hl : lv_has ls 3 [(0, .ref this), (1, .int x), (2, .int z)] := hl
  have hT0 := hT
  have n0 : (0 : Int32).toInt = 0 := by decide
  have n2 : (2 : Int32).toInt = 2 := by decide
  have n46 : (46 : Int32).toInt = 46 := by decide
  have x_lo := Int32.le_toInt x
  have x_hi := Int32.toInt_lt x
  have z_lo := Int32.le_toInt z
  have z_hi := Int32.toInt_lt z
  generalize hQ9 : tQX _ _ _ _ _ _ _ = Q9
  refine lv_iload_n hx hb dX5_bitsBy_0 rfl (lv_at hl 1 rfl) ?_
  refine lv_iconst (v := 0) hx hb dX5_bitsBy_1 (by decide) ?_
  refine lv_iconst (v := 2) hx hb dX5_bitsBy_2 (by decide) ?_
  have hTo := hT
  refine xtSv (n := 3) (As := [.int x, .int 0, .int 2]) (rest := []) hx hb hml hown hg hT hK hX (X5_needRange l κ σ0 x 0 2    hlt) sub_fE_fCp (mwS k909 k910 k84 k911) ⟨rfl, by decide, by decide, by decide +kernel⟩ ⟨(Nat.le_of_ble_eq_true rfl), (Nat.le_of_ble_eq_true rfl)⟩ rfl hl.1 rfl (Nat.le_of_ble_eq_true rfl) dX5_bitsBy_3 zroomX.rf (fun E9 ce9 q9 τ9 H9 locs9 hp9 hE9 hT9 hce9 hcv9 hcl9 => by subst hQ9; exact tx_out hT9 hp9.1 hout hlocks hce9 hcv9 hcl9) (fun s2 H locs hφ hEs2 hT => ?_)
  obtain ⟨f3, f4⟩ := hφ
  refine lv_iload_n hx hb dX5_bitsBy_6 rfl (lv_at hl 2 rfl) ?_
  refine lv_iconst (v := 0) hx hb dX5_bitsBy_7 (by decide) ?_
  refine lv_iconst (v := 2) hx hb dX5_bitsBy_8 (by decide) ?_
  have hTo := hT
  refine xtSv (n := 3) (As := [.int z, .int 0, .int 2]) (rest := []) hx hb hml hown hg hT hK hX (X5_needRange l κ s2 z 0 2    hlt) sub_fE_fCp (mwS k909 k910 k84 k911) ⟨rfl, by decide, by decide, by decide +kernel⟩ ⟨(Nat.le_of_ble_eq_true rfl), (Nat.le_of_ble_eq_true rfl)⟩ rfl hl.1 rfl (Nat.le_of_ble_eq_true rfl) dX5_bitsBy_9 zroomX.rf (fun E9 ce9 q9 τ9 H9 locs9 hp9 hE9 hT9 hce9 hcv9 hcl9 => by subst hQ9; exact tx_out hT9 hp9.1 hout hlocks hce9 hcv9 hcl9) (fun s6 H locs hφ hEs6 hT => ?_)
  obtain ⟨f7, f8⟩ := hφ
  refine lv_aload_n hx hb dX5_bitsBy_12 rfl (lv_at hl 0 rfl) ?_
  refine lv_iload_n hx hb dX5_bitsBy_13 rfl (lv_at hl 1 rfl) ?_
  refine lv_iload_n hx hb dX5_bitsBy_14 rfl (lv_at hl 2 rfl) ?_
  have hTo := hT
  refine tVv (n := 2) (As := [.int x, .int z]) (rest := []) hx hb hml hown hg hT hK hX (X5_beginTrial l κ s6 this x z  (hT.k t_this (by decide)) ) (fun _ _ h => h) (mwV k522 k524 k8 k84 k525) ⟨rfl, by decide, by decide, by decide +kernel⟩ ⟨(Nat.le_of_ble_eq_true rfl), (Nat.le_of_ble_eq_true rfl)⟩ (hT.o7 (hT.k t_this (by decide))) rfl rfl hl.1 rfl (Nat.le_of_ble_eq_true rfl) dX5_bitsBy_15 zroom.up (fun s10 H locs hφ hEs10 hT => ?_)
  refine lv_aload_n hx hb dX5_bitsBy_18 rfl (lv_at hl 0 rfl) ?_
  obtain ⟨r11, er11⟩ : ∃ z, kR κ this 4 = z := ⟨_, rfl⟩
  have tr11 : zk σ0 r11 3 := by rw [← er11]; exact hT0.ref t_this (by decide) (by decide) (by decide)
  refine va_get (D := κ.1) (ci := 5) (v := .ref (kR κ this 4)) (C := RX5) (T := TX5) (N := 10) hx hb hg inX5 hown hK (hT.o7 (hT.k t_this (by decide))).one 0 rfl rfl 4 (by decide) (hg _ k383) (fun _ h9 => h9) rfl dX5_bitsBy_19 ?_
  rw [er11]
  refine lv_bipush (v := 46) hx hb dX5_bitsBy_22 (by decide) ?_
  have hTo := hT
  refine tVi (n := 1) (As := [.int 46]) (rest := []) hx hb hml hown hg hT hK hX (X1_liftChosen l κ s10 r11 46  (hT.k tr11 (by decide)) (by omega) (by omega)) sub_fLi_fCp (mwV k526 k527 k528 k87 k529) ⟨rfl, by decide, by decide, by decide +kernel⟩ ⟨(Nat.le_of_ble_eq_true rfl), (Nat.le_of_ble_eq_true rfl)⟩ (hT.o3 (hT.k tr11 (by decide))) rfl rfl hl.1 rfl (Nat.le_of_ble_eq_true rfl) dX5_bitsBy_24 zroom.up (fun x12 s13 H locs hφ hEs13 hT => ?_)
  refine lv_pop hx hb dX5_bitsBy_27 rfl ?_
  refine lv_aload_n hx hb dX5_bitsBy_28 rfl (lv_at hl 0 rfl) ?_
  refine va_get (D := κ.1) (ci := 5) (v := .ref (kR κ this 4)) (C := RX5) (T := TX5) (N := 10) hx hb hg inX5 hown hK (hT.o7 (hT.k t_this (by decide))).one 0 rfl rfl 4 (by decide) (hg _ k383) (fun _ h9 => h9) rfl dX5_bitsBy_29 ?_
  rw [er11]
  have hTo := hT
  refine tVi (n := 0) (As := []) (rest := []) hx hb hml hown hg hT hK hX (X1_bitsOfDetails l κ s13 r11  (hT.k tr11 (by decide)) ) sub_fE_fCp (mwV k505 k506 k507 k87 k508) ⟨rfl, by decide, by decide, by decide +kernel⟩ ⟨(Nat.le_of_ble_eq_true rfl), (Nat.le_of_ble_eq_true rfl)⟩ (hT.o3 (hT.k tr11 (by decide))) rfl rfl hl.1 rfl (Nat.le_of_ble_eq_true rfl) dX5_bitsBy_32 zroom.up (fun x14 s15 H locs hφ hEs15 hT => ?_)
  subst hQ9
  exact vx_ret (t_i hx hb hr hlocks hT trivial dX5_bitsBy_35)
set_option maxHeartbeats 4000000 in
set_option maxRecDepth 100000 in
theorem X5_bestScheme (l : Launch) (κ : Kt) (σ0 : Gh) (this : Nat) (t_this : zk σ0 this 7) : TC l yX5_bestScheme cX5_bestScheme 5 (some .int) 7 187 [.ref this] κ σ0 (tqi κ fCp σ0 (fun (r : Int32) (τ : Gh) => True)) := by
  refine TC.of fCp (by decide +kernel) (Nat.le_of_ble_eq_true rfl) ?_
  intro p e s m below meth c ls hcs hK hX hT hl
  obtain ⟨hx, hb, hr, hml, hown, hg, hlocks, hin⟩ := hcs
  have hown : s.vm.findClass RX5 = some m.cls := hown
  have hl : lv_has ls 5 [(0, .ref this)] := hl
  have hT0 := hT
  have n0 : (0 : Int32).toInt = 0 := by decide
  have n3 : (3 : Int32).toInt = 3 := by decide
  have n9 : (9 : Int32).toInt = 9 := by decide
  have n46 : (46 : Int32).toInt = 46 := by decide
  generalize hQ9 : tQ _ _ _ _ _ _ = Q9
  refine lv_iconst (v := 0) hx hb dX5_bestScheme_0 (by decide) ?_
  refine lv_istore_n (lv' := [(1, .int 0), (0, .ref this)]) hx hb dX5_bestScheme_1 rfl hl (by decide) rfl (fun ls hl => ?_)
  refine lv_iconst (v := 0) hx hb dX5_bestScheme_2 (by decide) ?_
  refine lv_istore_n (lv' := [(2, .int 0), (1, .int 0), (0, .ref this)]) hx hb dX5_bestScheme_3 rfl hl (by decide) rfl (fun ls hl => ?_)
  refine lv_iconst (v := 0) hx hb dX5_bestScheme_4 (by decide) ?_
  refine lv_istore_n (lv' := [(3, .int 0), (2, .int 0), (1, .int 0), (0, .ref this)]) hx hb dX5_bestScheme_5 rfl hl (by decide) rfl (fun ls hl => ?_)
  have loop6 : ∀ (n9 : Nat) (be : Int32) (fe : Int32) (k : Int32) (H : Heap) (locs : List Loc) (sg : Gh) (ls : Array Slot), TS κ fCp σ0 sg s H locs → (0 ≤ k.toInt) → (k.toInt ≤ 9) → lv_has ls 5 [(1, .int be), (2, .int fe), (3, .int k), (0, .ref this)] → (9 - k.toInt) < n9 → tW p l e 7 187 κ s m #[.ref this] below meth c H locs Q9 (F0 m 6 ls []) := by
    intro n9
    induction n9 with
    | zero =>
      intro be fe k H locs sg ls hT q2 q3 hl hm9
      exfalso
      omega
    | succ n9 ih9 =>
      have ih6 := ih9
      clear ih9
      intro be fe k H locs s1 ls hT q2 q3 hl hm9
      refine lv_iload_n hx hb dX5_bestScheme_6 rfl (lv_at hl 2 rfl) ?_
      refine lv_bipush (v := 9) hx hb dX5_bestScheme_7 (by decide) ?_
      refine lv_icmp_ge (tgt := 62) hx hb dX5_bestScheme_9 (by decide) (fun c9 => ?_) (fun c9 => ?_)
      · have c1 := gi_le c9
        refine lv_iload_n hx hb dX5_bestScheme_62 rfl (lv_at hl 0 rfl) ?_
        subst hQ9
        exact t_i hx hb hr hlocks hT trivial dX5_bestScheme_63
      · have c2 := gi_nle c9
        refine lv_aload_n hx hb dX5_bestScheme_12 rfl (lv_at hl 3 rfl) ?_
        refine lv_iload_n hx hb dX5_bestScheme_13 rfl (lv_at hl 2 rfl) ?_
        refine lv_iconst (v := 3) hx hb dX5_bestScheme_14 (by decide) ?_
        refine lv_idiv hx hb dX5_bestScheme_15 (by decide) ?_
        first | refine g_div (k := 3) n3 (by decide) (by omega) (fun t2 ht2 => ?_) | refine lv_topi (fun t2 ht2 => ?_)
        refine lv_iload_n hx hb dX5_bestScheme_16 rfl (lv_at hl 2 rfl) ?_
        refine lv_iconst (v := 3) hx hb dX5_bestScheme_17 (by decide) ?_
        refine lv_irem hx hb dX5_bestScheme_18 (by decide) ?_
        refine lv_topi (fun t3 ht3 => ?_)
        have hTo := hT
        refine tVv (n := 2) (As := [.int t2, .int t3]) (rest := []) hx hb hml hown hg hT hK hX (X5_beginTrial l κ s1 this t2 t3  (hT.k t_this (by decide)) ) (fun _ _ h => h) (mwV k522 k524 k8 k84 k525) ⟨rfl, by decide, by decide, by decide +kernel⟩ ⟨(Nat.le_of_ble_eq_true rfl), (Nat.le_of_ble_eq_true rfl)⟩ (hT.o7 (hT.k t_this (by decide))) rfl rfl hl.1 rfl (Nat.le_of_ble_eq_true rfl) dX5_bestScheme_19 zroom.rf (fun s5 H locs hφ hEs5 hT => ?_)
        refine lv_aload_n hx hb dX5_bestScheme_22 rfl (lv_at hl 3 rfl) ?_
        obtain ⟨r6, er6⟩ : ∃ z, kR κ this 4 = z := ⟨_, rfl⟩
        have tr6 : zk σ0 r6 3 := by rw [← er6]; exact hT0.ref t_this (by decide) (by decide) (by decide)
        refine va_get (D := κ.1) (ci := 5) (v := .ref (kR κ this 4)) (C := RX5) (T := TX5) (N := 10) hx hb hg inX5 hown hK (hT.o7 (hT.k t_this (by decide))).one 0 rfl rfl 4 (by decide) (hg _ k383) (fun _ h9 => h9) rfl dX5_bestScheme_23 ?_
        rw [er6]
        refine lv_bipush (v := 46) hx hb dX5_bestScheme_26 (by decide) ?_
        have hTo := hT
        refine tVi (n := 1) (As := [.int 46]) (rest := []) hx hb hml hown hg hT hK hX (X1_liftChosen l κ s5 r6 46  (hT.k tr6 (by decide)) (by omega) (by omega)) sub_fLi_fCp (mwV k526 k527 k528 k87 k529) ⟨rfl, by decide, by decide, by decide +kernel⟩ ⟨(Nat.le_of_ble_eq_true rfl), (Nat.le_of_ble_eq_true rfl)⟩ (hT.o3 (hT.k tr6 (by decide))) rfl rfl hl.1 rfl (Nat.le_of_ble_eq_true rfl) dX5_bestScheme_28 zroom.rf (fun x7 s8 H locs hφ hEs8 hT => ?_)
        refine lv_pop hx hb dX5_bestScheme_31 rfl ?_
        refine lv_aload_n hx hb dX5_bestScheme_32 rfl (lv_at hl 3 rfl) ?_
        refine va_get (D := κ.1) (ci := 5) (v := .ref (kR κ this 4)) (C := RX5) (T := TX5) (N := 10) hx hb hg inX5 hown hK (hT.o7 (hT.k t_this (by decide))).one 0 rfl rfl 4 (by decide) (hg _ k383) (fun _ h9 => h9) rfl dX5_bestScheme_33 ?_
        rw [er6]
        have hTo := hT
        refine tVi (n := 0) (As := []) (rest := []) hx hb hml hown hg hT hK hX (X1_bitsOfDetails l κ s8 r6  (hT.k tr6 (by decide)) ) sub_fE_fCp (mwV k505 k506 k507 k87 k508) ⟨rfl, by decide, by decide, by decide +kernel⟩ ⟨(Nat.le_of_ble_eq_true rfl), (Nat.le_of_ble_eq_true rfl)⟩ (hT.o3 (hT.k tr6 (by decide))) rfl rfl hl.1 rfl (Nat.le_of_ble_eq_true rfl) dX5_bestScheme_36 zroom.rf (fun x9 s10 H locs hφ hEs10 hT => ?_)
        refine lv_istore (lv' := [(4, .int x9), (1, .int be), (2, .int fe), (3, .int k), (0, .ref this)]) hx hb dX5_bestScheme_39 hl (by decide) rfl (fun ls hl => ?_)
        refine lv_iload_n hx hb dX5_bestScheme_41 rfl (lv_at hl 3 rfl) ?_
        refine lv_if_eq (tgt := 51) hx hb dX5_bestScheme_42 (by decide) (fun c9 => ?_) (fun c9 => ?_)
        · have c3 := gi_eq c9
          refine lv_iload_n hx hb dX5_bestScheme_51 rfl (lv_at hl 3 rfl) ?_
          refine lv_istore_n (lv' := [(1, .int k), (4, .int x9), (2, .int fe), (3, .int k), (0, .ref this)]) hx hb dX5_bestScheme_52 rfl hl (by decide) rfl (fun ls hl => ?_)
          refine lv_iload hx hb dX5_bestScheme_53 (lv_at hl 1 rfl) ?_
          refine lv_istore_n (lv' := [(2, .int x9), (1, .int k), (4, .int x9), (3, .int k), (0, .ref this)]) hx hb dX5_bestScheme_55 rfl hl (by decide) rfl (fun ls hl => ?_)
          obtain ⟨t11, qt11⟩ : ∃ zz9 : Int32, k + Int32.ofInt 1 = zz9 := ⟨_, rfl⟩
          refine lv_iinc (v := t11) (lv' := [(3, .int t11), (2, .int x9), (1, .int k), (4, .int x9), (0, .ref this)]) hx hb dX5_bestScheme_56 hl (k := 3) rfl qt11 (by decide) rfl (fun ls hl => ?_)
          have ht11 : t11.toInt = k.toInt + 1 := by rw [← qt11]; exact v_addi rfl (show (Int32.ofInt 1).toInt = 1 from by decide) (by omega) (by omega)
          refine lv_goto (tgt := 6) hx hb dX5_bestScheme_59 (by decide) ?_
          exact ih6 k x9 t11 _ _ _ _ hT  (by omega) (by omega) (lv_sub hl [2, 1, 0, 4] rfl) (by omega)
        · have c4 := gi_ne c9
          refine lv_iload hx hb dX5_bestScheme_45 (lv_at hl 0 rfl) ?_
          refine lv_iload_n hx hb dX5_bestScheme_47 rfl (lv_at hl 2 rfl) ?_
          refine lv_icmp_ge (tgt := 56) hx hb dX5_bestScheme_48 (by decide) (fun c9 => ?_) (fun c9 => ?_)
          · have c5 := gi_le c9
            obtain ⟨t12, qt12⟩ : ∃ zz9 : Int32, k + Int32.ofInt 1 = zz9 := ⟨_, rfl⟩
            refine lv_iinc (v := t12) (lv' := [(3, .int t12), (4, .int x9), (1, .int be), (2, .int fe), (0, .ref this)]) hx hb dX5_bestScheme_56 hl (k := 3) rfl qt12 (by decide) rfl (fun ls hl => ?_)
            have ht12 : t12.toInt = k.toInt + 1 := by rw [← qt12]; exact v_addi rfl (show (Int32.ofInt 1).toInt = 1 from by decide) (by omega) (by omega)
            refine lv_goto (tgt := 6) hx hb dX5_bestScheme_59 (by decide) ?_
            exact ih6 be fe t12 _ _ _ _ hT  (by omega) (by omega) (lv_sub hl [2, 3, 0, 4] rfl) (by omega)
          · have c6 := gi_nle c9
            refine lv_iload_n hx hb dX5_bestScheme_51 rfl (lv_at hl 3 rfl) ?_
            refine lv_istore_n (lv' := [(1, .int k), (4, .int x9), (2, .int fe), (3, .int k), (0, .ref this)]) hx hb dX5_bestScheme_52 rfl hl (by decide) rfl (fun ls hl => ?_)
            refine lv_iload hx hb dX5_bestScheme_53 (lv_at hl 1 rfl) ?_
            refine lv_istore_n (lv' := [(2, .int x9), (1, .int k), (4, .int x9), (3, .int k), (0, .ref this)]) hx hb dX5_bestScheme_55 rfl hl (by decide) rfl (fun ls hl => ?_)
            obtain ⟨t13, qt13⟩ : ∃ zz9 : Int32, k + Int32.ofInt 1 = zz9 := ⟨_, rfl⟩
            refine lv_iinc (v := t13) (lv' := [(3, .int t13), (2, .int x9), (1, .int k), (4, .int x9), (0, .ref this)]) hx hb dX5_bestScheme_56 hl (k := 3) rfl qt13 (by decide) rfl (fun ls hl => ?_)
            have ht13 : t13.toInt = k.toInt + 1 := by rw [← qt13]; exact v_addi rfl (show (Int32.ofInt 1).toInt = 1 from by decide) (by omega) (by omega)
            refine lv_goto (tgt := 6) hx hb dX5_bestScheme_59 (by decide) ?_
            exact ih6 k x9 t13 _ _ _ _ hT  (by omega) (by omega) (lv_sub hl [2, 1, 0, 4] rfl) (by omega)
  exact loop6 ((9 - (0 : Int32).toInt).toNat + 1) 0 0 0 _ _ _ _ hT  (by omega) (by omega) (lv_sub hl [2, 1, 0, 3] rfl) (by omega)
set_option maxHeartbeats 4000000 in
set_option maxRecDepth 100000 in
theorem X5_reason (l : Launch) (κ : Kt) (σ0 : Gh) (this : Nat) (x : Int32) (t_this : zk σ0 this 7) (hlt : l.stackTraces = false) : TX l yX5_reason cX5_reason 2 (some .int) 7 112 [.ref this, .int x] κ σ0 (tqi κ fE σ0 (fun (r : Int32) (τ : Gh) => True)) (txq κ fE σ0 (fun (E : String) (τ : Gh) => E = "java/lang/IllegalArgumentException")) := by
  refine TX.of fE (by decide +kernel) (Nat.le_of_ble_eq_true rfl) ?_
  intro p e s m below meth c ls hcs hout hK hX hT hl
  obtain ⟨hx, hb, hr, hml, hown, hg, hlocks, hin⟩ := hcs
  have hown : s.vm.findClass RX5 = some m.cls := hown
  have hl : lv_has ls 2 [(0, .ref this), (1, .int x)] := hl
  have hT0 := hT
  have n0 : (0 : Int32).toInt = 0 := by decide
  have n1 : (1 : Int32).toInt = 1 := by decide
  have x_lo := Int32.le_toInt x
  have x_hi := Int32.toInt_lt x
  generalize hQ9 : tQX _ _ _ _ _ _ _ = Q9
  refine lv_iload_n hx hb dX5_reason_0 rfl (lv_at hl 1 rfl) ?_
  refine lv_iconst (v := 0) hx hb dX5_reason_1 (by decide) ?_
  refine lv_iconst (v := 1) hx hb dX5_reason_2 (by decide) ?_
  have hTo := hT
  refine xtSv (n := 3) (As := [.int x, .int 0, .int 1]) (rest := []) hx hb hml hown hg hT hK hX (X5_needRange l κ σ0 x 0 1    hlt) (fun _ _ h => h) (mwS k909 k910 k84 k911) ⟨rfl, by decide, by decide, by decide +kernel⟩ ⟨(Nat.le_of_ble_eq_true rfl), (Nat.le_of_ble_eq_true rfl)⟩ rfl hl.1 rfl (Nat.le_of_ble_eq_true rfl) dX5_reason_3 zroomX.rf (fun E9 ce9 q9 τ9 H9 locs9 hp9 hE9 hT9 hce9 hcv9 hcl9 => by subst hQ9; exact tx_out hT9 hp9.1 hout hlocks hce9 hcv9 hcl9) (fun s2 H locs hφ hEs2 hT => ?_)
  obtain ⟨f3, f4⟩ := hφ
  refine lv_iload_n hx hb dX5_reason_6 rfl (lv_at hl 1 rfl) ?_
  refine lv_if_ne (tgt := 17) hx hb dX5_reason_7 (by decide) (fun c9 => ?_) (fun c9 => ?_)
  · have c1 := gi_ne c9
    refine lv_aload_n hx hb dX5_reason_17 rfl (lv_at hl 0 rfl) ?_
    obtain ⟨v5, ev5⟩ : ∃ zz9 : Int32, zI σ0 this 8 = zz9 := ⟨_, rfl⟩
    have qv5 : v5.toInt = (zI σ0 this 8).toInt := by rw [ev5]
    refine va_get (D := κ.1) (ci := 5) (v := .int (zI s2 this 8)) (C := RX5) (T := TX5) (N := 10) hx hb hg inX5 hown hK (hT.o7 (hT.k t_this (by decide))).one 0 rfl rfl 8 (by decide) (hg _ k387) (fun _ h9 => h9) rfl dX5_reason_18 ?_
    rw [(hT.eI t_this (by decide) rfl ev5)]
    subst hQ9
    exact vx_ret (t_i hx hb hr hlocks hT trivial dX5_reason_21)
  · have c2 := gi_eq c9
    refine lv_aload_n hx hb dX5_reason_10 rfl (lv_at hl 0 rfl) ?_
    obtain ⟨v6, ev6⟩ : ∃ zz9 : Int32, zI σ0 this 7 = zz9 := ⟨_, rfl⟩
    have qv6 : v6.toInt = (zI σ0 this 7).toInt := by rw [ev6]
    refine va_get (D := κ.1) (ci := 5) (v := .int (zI s2 this 7)) (C := RX5) (T := TX5) (N := 10) hx hb hg inX5 hown hK (hT.o7 (hT.k t_this (by decide))).one 0 rfl rfl 7 (by decide) (hg _ k386) (fun _ h9 => h9) rfl dX5_reason_11 ?_
    rw [(hT.eI t_this (by decide) rfl ev6)]
    refine lv_goto (tgt := 21) hx hb dX5_reason_14 (by decide) ?_
    subst hQ9
    exact vx_ret (t_i hx hb hr hlocks hT trivial dX5_reason_21)
set_option maxHeartbeats 4000000 in
set_option maxRecDepth 100000 in
theorem X5_reasonSample (l : Launch) (κ : Kt) (σ0 : Gh) (this : Nat) (t_this : zk σ0 this 7) : TC l yX5_reasonSample cX5_reasonSample 1 (some .int) 0 0 [.ref this] κ σ0 (tqi κ fE σ0 (fun (r : Int32) (τ : Gh) => True)) := by
  refine TC.of fE (by decide +kernel) (Nat.le_of_ble_eq_true rfl) ?_
  intro p e s m below meth c ls hcs hK hX hT hl
  obtain ⟨hx, hb, hr, hml, hown, hg, hlocks, hin⟩ := hcs
  have hown : s.vm.findClass RX5 = some m.cls := hown
  have hl : lv_has ls 1 [(0, .ref this)] := hl
  have hT0 := hT
  generalize hQ9 : tQ _ _ _ _ _ _ = Q9
  refine lv_aload_n hx hb dX5_reasonSample_0 rfl (lv_at hl 0 rfl) ?_
  obtain ⟨v1, ev1⟩ : ∃ zz9 : Int32, zI σ0 this 9 = zz9 := ⟨_, rfl⟩
  have qv1 : v1.toInt = (zI σ0 this 9).toInt := by rw [ev1]
  refine va_get (D := κ.1) (ci := 5) (v := .int (zI σ0 this 9)) (C := RX5) (T := TX5) (N := 10) hx hb hg inX5 hown hK (hT.o7 (hT.k t_this (by decide))).one 0 rfl rfl 9 (by decide) (hg _ k388) (fun _ h9 => h9) rfl dX5_reasonSample_1 ?_
  rw [(hT.eI t_this (by decide) rfl ev1)]
  subst hQ9
  exact t_i hx hb hr hlocks hT trivial dX5_reasonSample_4
set_option maxHeartbeats 4000000 in
set_option maxRecDepth 100000 in
theorem X5_save (l : Launch) (κ : Kt) (σ0 : Gh) (this : Nat) (i : Int32) (t_this : zk σ0 this 7) (hlt : l.stackTraces = false) : TX l yX5_save cX5_save 2 none 7 127 [.ref this, .int i] κ σ0 (tqv κ fSv σ0 (fun (τ : Gh) => (0 ≤ i.toInt) ∧ (i.toInt ≤ 1))) (txq κ fSv σ0 (fun (E : String) (τ : Gh) => E = "java/lang/IndexOutOfBoundsException" ∧ (i.toInt < 0 ∨ 1 < i.toInt))) := by
  refine TX.of fSv (by decide +kernel) (Nat.le_of_ble_eq_true rfl) ?_
  intro p e s m below meth c ls hcs hout hK hX hT hl
  obtain ⟨hx, hb, hr, hml, hown, hg, hlocks, hin⟩ := hcs
  have hown : s.vm.findClass RX5 = some m.cls := hown
  have hl : lv_has ls 2 [(0, .ref this), (1, .int i)] := hl
  have hT0 := hT
  have n1 : (1 : Int32).toInt = 1 := by decide
  have n2 : (2 : Int32).toInt = 2 := by decide
  have i_lo := Int32.le_toInt i
  have i_hi := Int32.toInt_lt i
  generalize hQ9 : tQX _ _ _ _ _ _ _ = Q9
  refine lv_iload_n hx hb dX5_save_0 rfl (lv_at hl 1 rfl) ?_
  refine lv_iconst (v := 2) hx hb dX5_save_1 (by decide) ?_
  have hTo := hT
  refine xtSv (n := 2) (As := [.int i, .int 2]) (rest := []) hx hb hml hown hg hT hK hX (X5_needIndex l κ σ0 i 2    hlt) sub_fE_fSv (mwS k610 k611 k84 k612) ⟨rfl, by decide, by decide, by decide +kernel⟩ ⟨(Nat.le_of_ble_eq_true rfl), (Nat.le_of_ble_eq_true rfl)⟩ rfl hl.1 rfl (Nat.le_of_ble_eq_true rfl) dX5_save_2 zroomX.rf (fun E9 ce9 q9 τ9 H9 locs9 hp9 hE9 hT9 hce9 hcv9 hcl9 => by subst hQ9; exact tx_out hT9 ⟨hp9.1, by omega⟩ hout hlocks hce9 hcv9 hcl9) (fun s2 H locs hφ hEs2 hT => ?_)
  obtain ⟨f3, f4⟩ := hφ
  refine lv_aload_n hx hb dX5_save_5 rfl (lv_at hl 0 rfl) ?_
  obtain ⟨r5, er5⟩ : ∃ z, kR κ this 5 = z := ⟨_, rfl⟩
  have tr5 : zk σ0 r5 12 := by rw [← er5]; exact hT0.ref t_this (by decide) (by decide) (by decide)
  refine va_get (D := κ.1) (ci := 5) (v := .ref (kR κ this 5)) (C := RX5) (T := TX5) (N := 10) hx hb hg inX5 hown hK (hT.o7 (hT.k t_this (by decide))).one 0 rfl rfl 5 (by decide) (hg _ k384) (fun _ h9 => h9) rfl dX5_save_6 ?_
  rw [er5]
  refine lv_iload_n hx hb dX5_save_9 rfl (lv_at hl 1 rfl) ?_
  refine va_aldq hx hb hK (hT.o12 (hT.k tr5 (by decide))).one 0 6 rfl rfl (g_in (by omega) (by omega)) dX5_save_10 ?_
  obtain ⟨r7, er7⟩ : ∃ z, kR κ r5 (ix i) = z := ⟨_, rfl⟩
  have tr7 : zk σ0 r7 3 := by rw [← er7]; exact hT0.ref tr5 (by decide) (zR12 (ix_lt (by omega) (by omega))) (by decide)
  refine tv (.ref r7) (by rw [← er7]; rfl) ?_
  refine lv_aload_n hx hb dX5_save_11 rfl (lv_at hl 0 rfl) ?_
  obtain ⟨r8, er8⟩ : ∃ z, kR κ this 3 = z := ⟨_, rfl⟩
  have tr8 : zk σ0 r8 3 := by rw [← er8]; exact hT0.ref t_this (by decide) (by decide) (by decide)
  refine va_get (D := κ.1) (ci := 5) (v := .ref (kR κ this 3)) (C := RX5) (T := TX5) (N := 10) hx hb hg inX5 hown hK (hT.o7 (hT.k t_this (by decide))).one 0 rfl rfl 3 (by decide) (hg _ k382) (fun _ h9 => h9) rfl dX5_save_12 ?_
  rw [er8]
  have hTo := hT
  refine tVv (n := 1) (As := [.ref r8]) (rest := []) hx hb hml hown hg hT hK hX (X1_copyFrom l κ s2 r7 r8  (hT.k tr7 (by decide)) (hT.k tr8 (by decide)) ) sub_fCp_fSv (mwV k1123 k1124 k1125 k87 k1126) ⟨rfl, by decide, by decide, by decide +kernel⟩ ⟨(Nat.le_of_ble_eq_true rfl), (Nat.le_of_ble_eq_true rfl)⟩ (hT.o3 (hT.k tr7 (by decide))) rfl rfl hl.1 rfl (Nat.le_of_ble_eq_true rfl) dX5_save_15 zroom.up (fun s10 H locs hφ hEs10 hT => ?_)
  refine lv_aload_n hx hb dX5_save_18 rfl (lv_at hl 0 rfl) ?_
  obtain ⟨r11, er11⟩ : ∃ z, kR κ this 6 = z := ⟨_, rfl⟩
  have tr11 : zk σ0 r11 13 := by rw [← er11]; exact hT0.ref t_this (by decide) (by decide) (by decide)
  refine va_get (D := κ.1) (ci := 5) (v := .ref (kR κ this 6)) (C := RX5) (T := TX5) (N := 10) hx hb hg inX5 hown hK (hT.o7 (hT.k t_this (by decide))).one 0 rfl rfl 6 (by decide) (hg _ k385) (fun _ h9 => h9) rfl dX5_save_19 ?_
  rw [er11]
  refine lv_iload_n hx hb dX5_save_22 rfl (lv_at hl 1 rfl) ?_
  refine lv_iconst (v := 1) hx hb dX5_save_23 (by decide) ?_
  have hTo := hT
  refine tastz (n := 2) hx hb hK hT (hT.k tr11 (by decide)) ⟨by decide, by decide⟩ (fun _ _ _ => rfl) (fun _ _ => trivial) (fun _ => rfl) (by omega) (by omega) dX5_save_24 (fun H locs s12 hus12 hT => ?_)
  subst hQ9
  exact vx_ret (t_v hx hb hr hlocks hT ⟨by omega, by omega⟩ dX5_save_25)
set_option maxHeartbeats 4000000 in
set_option maxRecDepth 100000 in
theorem X5_restore (l : Launch) (κ : Kt) (σ0 : Gh) (this : Nat) (i : Int32) (t_this : zk σ0 this 7) (hlt : l.stackTraces = false) : TX l yX5_restore cX5_restore 2 none 7 127 [.ref this, .int i] κ σ0 (tqv κ fCp σ0 (fun (τ : Gh) => True)) (txq κ fCp σ0 (fun (E : String) (τ : Gh) => E = "java/lang/IndexOutOfBoundsException" ∨ E = "java/util/NoSuchElementException")) := by
  refine TX.of fCp (by decide +kernel) (Nat.le_of_ble_eq_true rfl) ?_
  intro p e s m below meth c ls hcs hout hK hX hT hl
  obtain ⟨hx, hb, hr, hml, hown, hg, hlocks, hin⟩ := hcs
  have hown : s.vm.findClass RX5 = some m.cls := hown
  have hl : lv_has ls 2 [(0, .ref this), (1, .int i)] := hl
  have hT0 := hT
  have n0 : (0 : Int32).toInt = 0 := by decide
  have n2 : (2 : Int32).toInt = 2 := by decide
  have i_lo := Int32.le_toInt i
  have i_hi := Int32.toInt_lt i
  generalize hQ9 : tQX _ _ _ _ _ _ _ = Q9
  refine lv_iload_n hx hb dX5_restore_0 rfl (lv_at hl 1 rfl) ?_
  refine lv_iconst (v := 2) hx hb dX5_restore_1 (by decide) ?_
  have hTo := hT
  refine xtSv (n := 2) (As := [.int i, .int 2]) (rest := []) hx hb hml hown hg hT hK hX (X5_needIndex l κ σ0 i 2    hlt) sub_fE_fCp (mwS k610 k611 k84 k612) ⟨rfl, by decide, by decide, by decide +kernel⟩ ⟨(Nat.le_of_ble_eq_true rfl), (Nat.le_of_ble_eq_true rfl)⟩ rfl hl.1 rfl (Nat.le_of_ble_eq_true rfl) dX5_restore_2 zroomX.rf (fun E9 ce9 q9 τ9 H9 locs9 hp9 hE9 hT9 hce9 hcv9 hcl9 => by subst hQ9; exact tx_out hT9 (Or.inl hp9.1) hout hlocks hce9 hcv9 hcl9) (fun s2 H locs hφ hEs2 hT => ?_)
  obtain ⟨f3, f4⟩ := hφ
  refine lv_aload_n hx hb dX5_restore_5 rfl (lv_at hl 0 rfl) ?_
  obtain ⟨r5, er5⟩ : ∃ z, kR κ this 6 = z := ⟨_, rfl⟩
  have tr5 : zk σ0 r5 13 := by rw [← er5]; exact hT0.ref t_this (by decide) (by decide) (by decide)
  refine va_get (D := κ.1) (ci := 5) (v := .ref (kR κ this 6)) (C := RX5) (T := TX5) (N := 10) hx hb hg inX5 hown hK (hT.o7 (hT.k t_this (by decide))).one 0 rfl rfl 6 (by decide) (hg _ k385) (fun _ h9 => h9) rfl dX5_restore_6 ?_
  rw [er5]
  refine lv_iload_n hx hb dX5_restore_9 rfl (lv_at hl 1 rfl) ?_
  refine va_zald hx hb hK (hT.o13 (hT.k tr5 (by decide))).one 0 3 rfl rfl (g_in (by omega) (by omega)) dX5_restore_10 ?_
  refine lv_topi (fun t6 ht6 => ?_)
  refine lv_if_ne (tgt := 25) hx hb dX5_restore_11 (by decide) (fun c9 => ?_) (fun c9 => ?_)
  · have c1 := gi_ne c9
    refine lv_aload_n hx hb dX5_restore_25 rfl (lv_at hl 0 rfl) ?_
    obtain ⟨r7, er7⟩ : ∃ z, kR κ this 3 = z := ⟨_, rfl⟩
    have tr7 : zk σ0 r7 3 := by rw [← er7]; exact hT0.ref t_this (by decide) (by decide) (by decide)
    refine va_get (D := κ.1) (ci := 5) (v := .ref (kR κ this 3)) (C := RX5) (T := TX5) (N := 10) hx hb hg inX5 hown hK (hT.o7 (hT.k t_this (by decide))).one 0 rfl rfl 3 (by decide) (hg _ k382) (fun _ h9 => h9) rfl dX5_restore_26 ?_
    rw [er7]
    refine lv_aload_n hx hb dX5_restore_29 rfl (lv_at hl 0 rfl) ?_
    obtain ⟨r8, er8⟩ : ∃ z, kR κ this 5 = z := ⟨_, rfl⟩
    have tr8 : zk σ0 r8 12 := by rw [← er8]; exact hT0.ref t_this (by decide) (by decide) (by decide)
    refine va_get (D := κ.1) (ci := 5) (v := .ref (kR κ this 5)) (C := RX5) (T := TX5) (N := 10) hx hb hg inX5 hown hK (hT.o7 (hT.k t_this (by decide))).one 0 rfl rfl 5 (by decide) (hg _ k384) (fun _ h9 => h9) rfl dX5_restore_30 ?_
    rw [er8]
    refine lv_iload_n hx hb dX5_restore_33 rfl (lv_at hl 1 rfl) ?_
    refine va_aldq hx hb hK (hT.o12 (hT.k tr8 (by decide))).one 0 6 rfl rfl (g_in (by omega) (by omega)) dX5_restore_34 ?_
    obtain ⟨r10, er10⟩ : ∃ z, kR κ r8 (ix i) = z := ⟨_, rfl⟩
    have tr10 : zk σ0 r10 3 := by rw [← er10]; exact hT0.ref tr8 (by decide) (zR12 (ix_lt (by omega) (by omega))) (by decide)
    refine tv (.ref r10) (by rw [← er10]; rfl) ?_
    have hTo := hT
    refine tVv (n := 1) (As := [.ref r10]) (rest := []) hx hb hml hown hg hT hK hX (X1_copyFrom l κ s2 r7 r10  (hT.k tr7 (by decide)) (hT.k tr10 (by decide)) ) (fun _ _ h => h) (mwV k1123 k1124 k1125 k87 k1126) ⟨rfl, by decide, by decide, by decide +kernel⟩ ⟨(Nat.le_of_ble_eq_true rfl), (Nat.le_of_ble_eq_true rfl)⟩ (hT.o3 (hT.k tr7 (by decide))) rfl rfl hl.1 rfl (Nat.le_of_ble_eq_true rfl) dX5_restore_35 zroom.up (fun s12 H locs hφ hEs12 hT => ?_)
    subst hQ9
    exact vx_ret (t_v hx hb hr hlocks hT trivial dX5_restore_38)
  · have c2 := gi_eq c9
    obtain ⟨sa, hsa⟩ := XX_sRX5_317 hX.1
    subst hQ9
    exact tthW_NSEE hx hb hlt hown (hg _ k951) (hg _ k103) hsa hg hX.1 hT (hl.1.trans hml.symm) dX5_restore_14 dX5_restore_17 dX5_restore_18 dX5_restore_21 dX5_restore_24 hout (Nat.le_of_ble_eq_true rfl) (Nat.le_of_ble_eq_true rfl) zroomX.rf hlocks (Or.inr rfl)
set_option maxHeartbeats 4000000 in
set_option maxRecDepth 100000 in
theorem X5_load (l : Launch) (κ : Kt) (σ0 : Gh) (this : Nat) (t_this : zk σ0 this 7) (hlt : l.stackTraces = false) : TX l yX5_load cX5_load 3 (some .int) 8 174 [.ref this] κ σ0 (tqi κ fLd σ0 (fun (r : Int32) (τ : Gh) => ((zI τ (kR κ this 0) 1).toInt = 0))) (txq κ fLd σ0 (fun (E : String) (τ : Gh) => E = "java/lang/IllegalArgumentException" ∧ (zI τ (kR κ this 0) 1).toInt = 0)) := by
  refine TX.of fLd (by decide +kernel) (Nat.le_of_ble_eq_true rfl) ?_
  intro p e s m below meth c ls hcs hout hK hX hT hl
  obtain ⟨hx, hb, hr, hml, hown, hg, hlocks, hin⟩ := hcs
  have hown : s.vm.findClass RX5 = some m.cls := hown
  have hl : lv_has ls 3 [(0, .ref this)] := hl
  have hT0 := hT
  have n0 : (0 : Int32).toInt = 0 := by decide
  have n2 : (2 : Int32).toInt = 2 := by decide
  generalize hQ9 : tQX _ _ _ _ _ _ _ = Q9
  obtain ⟨tx, etx⟩ : ∃ z, kR κ this 0 = z := ⟨_, rfl⟩
  have ttx : zk σ0 tx 6 := by rw [← etx]; exact hT0.ref t_this (by decide) (by decide) (by decide)
  have btx := hT0.P ttx (by decide)
  have btxl := btx.1.1
  have btxh := btx.1.2
  refine lv_aload_n hx hb dX5_load_0 rfl (lv_at hl 0 rfl) ?_
  refine va_get (D := κ.1) (ci := 5) (v := .ref (kR κ this 0)) (C := RX5) (T := TX5) (N := 10) hx hb hg inX5 hown hK (hT.o7 (hT.k t_this (by decide))).one 0 rfl rfl 0 (by decide) (hg _ k379) (fun _ h9 => h9) rfl dX5_load_1 ?_
  rw [etx]
  refine lv_aload_n hx hb dX5_load_4 rfl (lv_at hl 0 rfl) ?_
  obtain ⟨r1, er1⟩ : ∃ z, kR κ this 2 = z := ⟨_, rfl⟩
  have tr1 : zk σ0 r1 5 := by rw [← er1]; exact hT0.ref t_this (by decide) (by decide) (by decide)
  refine va_get (D := κ.1) (ci := 5) (v := .ref (kR κ this 2)) (C := RX5) (T := TX5) (N := 10) hx hb hg inX5 hown hK (hT.o7 (hT.k t_this (by decide))).one 0 rfl rfl 2 (by decide) (hg _ k381) (fun _ h9 => h9) rfl dX5_load_5 ?_
  rw [er1]
  obtain ⟨v2, ev2⟩ : ∃ zz9 : Int32, zI σ0 r1 2 = zz9 := ⟨_, rfl⟩
  have qv2 : v2.toInt = (zI σ0 r1 2).toInt := by rw [ev2]
  have b3 := (hT.P (hT.k tr1 (by decide)) (by decide)).1
  rw [ev2] at b3
  have b3l := b3.1
  have b3h := b3.2
  have qq4 : (zI σ0 r1 2).toInt = v2.toInt := by rw [ev2]
  have hTo := hT
  refine tVi (n := 1) (As := [.ref r1]) (rest := []) hx hb hml hown hg hT hK hX (X3_readInto l κ σ0 tx r1  (hT.k ttx (by decide)) (hT.k tr1 (by decide)) ) sub_fRd_fLd (mwV k689 k690 k691 k85 k692) ⟨rfl, by decide, by decide, by decide +kernel⟩ ⟨(Nat.le_of_ble_eq_true rfl), (Nat.le_of_ble_eq_true rfl)⟩ (hT.o6 (hT.k ttx (by decide))) rfl rfl hl.1 rfl (Nat.le_of_ble_eq_true rfl) dX5_load_8 zroom.up (fun x5 s6 H locs hφ hEs6 hT => ?_)
  obtain ⟨f7, f8⟩ := hφ
  obtain ⟨v9, ev9⟩ : ∃ zz9 : Int32, zI s6 r1 2 = zz9 := ⟨_, rfl⟩
  have qv9 : v9.toInt = (zI s6 r1 2).toInt := by rw [ev9]
  have b10 := (hT.P (hT.k tr1 (by decide)) (by decide)).1
  rw [ev9] at b10
  have b10l := b10.1
  have b10h := b10.2
  refine lv_istore_n (lv' := [(1, .int x5), (0, .ref this)]) hx hb dX5_load_11 rfl hl (by decide) rfl (fun ls hl => ?_)
  refine lv_aload_n hx hb dX5_load_12 rfl (lv_at hl 1 rfl) ?_
  refine va_get (D := κ.1) (ci := 5) (v := .ref (kR κ this 0)) (C := RX5) (T := TX5) (N := 10) hx hb hg inX5 hown hK (hT.o7 (hT.k t_this (by decide))).one 0 rfl rfl 0 (by decide) (hg _ k379) (fun _ h9 => h9) rfl dX5_load_13 ?_
  rw [etx]
  refine lv_iconst (v := 0) hx hb dX5_load_16 (by decide) ?_
  have hTo := hT
  refine pf6_1 hx hb hg hown hK hT (hT.k ttx (by decide)) rfl ⟨by omega, by omega⟩ (hg _ k121) dX5_load_17 (fun H locs s11 hus11 hT => ?_)
  have ev9 : zI s11 r1 2 = v9 := (zput_o hus11 (Or.inr (by decide))).trans ev9
  have e12 : zI s11 tx 1 = 0 := zput_at hus11
  refine lv_iload_n hx hb dX5_load_20 rfl (lv_at hl 0 rfl) ?_
  refine lv_if_ne (tgt := 34) hx hb dX5_load_21 (by decide) (fun c9 => ?_) (fun c9 => ?_)
  · have c1 := gi_ne c9
    refine lv_aload_n hx hb dX5_load_34 rfl (lv_at hl 1 rfl) ?_
    obtain ⟨r13, er13⟩ : ∃ z, kR κ this 1 = z := ⟨_, rfl⟩
    have tr13 : zk σ0 r13 4 := by rw [← er13]; exact hT0.ref t_this (by decide) (by decide) (by decide)
    refine va_get (D := κ.1) (ci := 5) (v := .ref (kR κ this 1)) (C := RX5) (T := TX5) (N := 10) hx hb hg inX5 hown hK (hT.o7 (hT.k t_this (by decide))).one 0 rfl rfl 1 (by decide) (hg _ k380) (fun _ h9 => h9) rfl dX5_load_35 ?_
    rw [er13]
    refine lv_aload_n hx hb dX5_load_38 rfl (lv_at hl 1 rfl) ?_
    refine va_get (D := κ.1) (ci := 5) (v := .ref (kR κ this 2)) (C := RX5) (T := TX5) (N := 10) hx hb hg inX5 hown hK (hT.o7 (hT.k t_this (by decide))).one 0 rfl rfl 2 (by decide) (hg _ k381) (fun _ h9 => h9) rfl dX5_load_39 ?_
    rw [er1]
    have qq14 : (zI s11 r1 2).toInt = v9.toInt := by rw [ev9]
    have hTo := hT
    refine tVv (n := 1) (As := [.ref r1]) (rest := []) hx hb hml hown hg hT hK hX (X0_copyFrom l κ s11 r13 r1  (hT.k tr13 (by decide)) (hT.k tr1 (by decide)) (by omega)) sub_fSrc_fLd (mwV k829 k830 k831 k86 k832) ⟨rfl, by decide, by decide, by decide +kernel⟩ ⟨(Nat.le_of_ble_eq_true rfl), (Nat.le_of_ble_eq_true rfl)⟩ (hT.o4 (hT.k tr13 (by decide))) rfl rfl hl.1 rfl (Nat.le_of_ble_eq_true rfl) dX5_load_42 zroom.up (fun s16 H locs hφ hEs16 hT => ?_)
    have ev9 : zI s16 r1 2 = v9 := ((hTo.k tr1 (by decide)).eI hEs16 (by decide) rfl).trans ev9
    have e12 : zI s16 tx 1 = 0 := ((hTo.k ttx (by decide)).eI hEs16 (by decide) rfl).trans e12
    refine lv_aload_n hx hb dX5_load_45 rfl (lv_at hl 1 rfl) ?_
    obtain ⟨r17, er17⟩ : ∃ z, kR κ this 3 = z := ⟨_, rfl⟩
    have tr17 : zk σ0 r17 3 := by rw [← er17]; exact hT0.ref t_this (by decide) (by decide) (by decide)
    refine va_get (D := κ.1) (ci := 5) (v := .ref (kR κ this 3)) (C := RX5) (T := TX5) (N := 10) hx hb hg inX5 hown hK (hT.o7 (hT.k t_this (by decide))).one 0 rfl rfl 3 (by decide) (hg _ k382) (fun _ h9 => h9) rfl dX5_load_46 ?_
    rw [er17]
    have hTo := hT
    refine tVv (n := 0) (As := []) (rest := []) hx hb hml hown hg hT hK hX (X1_begin l κ s16 r17  (hT.k tr17 (by decide)) ) sub_fBe_fLd (mwV k332 k333 k334 k87 k335) ⟨rfl, by decide, by decide, by decide +kernel⟩ ⟨(Nat.le_of_ble_eq_true rfl), (Nat.le_of_ble_eq_true rfl)⟩ (hT.o3 (hT.k tr17 (by decide))) rfl rfl hl.1 rfl (Nat.le_of_ble_eq_true rfl) dX5_load_49 zroom.up (fun s19 H locs hφ hEs19 hT => ?_)
    have ev9 : zI s19 r1 2 = v9 := ((hTo.k tr1 (by decide)).eI hEs19 (by decide) rfl).trans ev9
    have e12 : zI s19 tx 1 = 0 := ((hTo.k ttx (by decide)).eI hEs19 (by decide) rfl).trans e12
    refine lv_aload_n hx hb dX5_load_52 rfl (lv_at hl 1 rfl) ?_
    refine va_get (D := κ.1) (ci := 5) (v := .ref (kR κ this 3)) (C := RX5) (T := TX5) (N := 10) hx hb hg inX5 hown hK (hT.o7 (hT.k t_this (by decide))).one 0 rfl rfl 3 (by decide) (hg _ k382) (fun _ h9 => h9) rfl dX5_load_53 ?_
    rw [er17]
    have hTo := hT
    refine tVv (n := 0) (As := []) (rest := []) hx hb hml hown hg hT hK hX (X1_takeSettings l κ s19 r17  (hT.k tr17 (by decide)) ) sub_fSet_fLd (mwV k375 k376 k377 k87 k378) ⟨rfl, by decide, by decide, by decide +kernel⟩ ⟨(Nat.le_of_ble_eq_true rfl), (Nat.le_of_ble_eq_true rfl)⟩ (hT.o3 (hT.k tr17 (by decide))) rfl rfl hl.1 rfl (Nat.le_of_ble_eq_true rfl) dX5_load_56 zroom.up (fun s21 H locs hφ hEs21 hT => ?_)
    have ev9 : zI s21 r1 2 = v9 := ((hTo.k tr1 (by decide)).eI hEs21 (by decide) rfl).trans ev9
    have e12 : zI s21 tx 1 = 0 := ((hTo.k ttx (by decide)).eI hEs21 (by decide) rfl).trans e12
    refine lv_iconst (v := 0) hx hb dX5_load_59 (by decide) ?_
    refine lv_istore_n (lv' := [(2, .int 0), (1, .int x5), (0, .ref this)]) hx hb dX5_load_60 rfl hl (by decide) rfl (fun ls hl => ?_)
    have loop61 : ∀ (n9 : Nat) (k : Int32) (H : Heap) (locs : List Loc) (sg : Gh) (ls : Array Slot), TS κ fLd σ0 sg s H locs → (zI sg tx 1 = 0) → (0 ≤ k.toInt) → (k.toInt ≤ 2) → lv_has ls 3 [(2, .int k), (1, .int x5), (0, .ref this)] → (2 - k.toInt) < n9 → tW p l e 8 174 (kX κ) s m #[.ref this] below meth c H locs Q9 (F0 m 61 ls []) := by
      intro n9
      induction n9 with
      | zero =>
        intro k H locs sg ls hT ktx_1 q2 q3 hl hm9
        exfalso
        omega
      | succ n9 ih9 =>
        have ih61 := ih9
        clear ih9
        intro k H locs s22 ls hT ktx_1 q2 q3 hl hm9
        refine lv_iload_n hx hb dX5_load_61 rfl (lv_at hl 0 rfl) ?_
        refine lv_iconst (v := 2) hx hb dX5_load_62 (by decide) ?_
        refine lv_icmp_ge (tgt := 79) hx hb dX5_load_63 (by decide) (fun c9 => ?_) (fun c9 => ?_)
        · have c2 := gi_le c9
          refine lv_aload_n hx hb dX5_load_79 rfl (lv_at hl 2 rfl) ?_
          refine va_get (D := κ.1) (ci := 5) (v := .ref (kR κ this 1)) (C := RX5) (T := TX5) (N := 10) hx hb hg inX5 hown hK (hT.o7 (hT.k t_this (by decide))).one 0 rfl rfl 1 (by decide) (hg _ k380) (fun _ h9 => h9) rfl dX5_load_80 ?_
          rw [er13]
          obtain ⟨v23, ev23⟩ : ∃ zz9 : Int32, zI s22 r13 2 = zz9 := ⟨_, rfl⟩
          have qv23 : v23.toInt = (zI s22 r13 2).toInt := by rw [ev23]
          have b24 := (hT.P (hT.k tr13 (by decide)) (by decide)).1
          rw [ev23] at b24
          have b24l := b24.1
          have b24h := b24.2
          refine va_get (D := κ.1) (ci := 0) (v := .int (zI s22 r13 2)) (C := RX0) (T := TX0) (N := 7) hx hb hg inX0 hown hK (hT.o4 (hT.k tr13 (by decide))).one 0 rfl rfl 2 (by decide) (hg _ k163) (fun _ h9 => h9) rfl dX5_load_83 ?_
          rw [ev23]
          subst hQ9
          exact vx_ret (t_i hx hb hr hlocks hT (by rw [etx, ktx_1]; omega) dX5_load_86)
        · have c3 := gi_nle c9
          refine lv_aload_n hx hb dX5_load_66 rfl (lv_at hl 2 rfl) ?_
          obtain ⟨r25, er25⟩ : ∃ z, kR κ this 6 = z := ⟨_, rfl⟩
          have tr25 : zk σ0 r25 13 := by rw [← er25]; exact hT0.ref t_this (by decide) (by decide) (by decide)
          refine va_get (D := κ.1) (ci := 5) (v := .ref (kR κ this 6)) (C := RX5) (T := TX5) (N := 10) hx hb hg inX5 hown hK (hT.o7 (hT.k t_this (by decide))).one 0 rfl rfl 6 (by decide) (hg _ k385) (fun _ h9 => h9) rfl dX5_load_67 ?_
          rw [er25]
          refine lv_iload_n hx hb dX5_load_70 rfl (lv_at hl 0 rfl) ?_
          refine lv_iconst (v := 0) hx hb dX5_load_71 (by decide) ?_
          have hTo := hT
          refine tastz (n := 2) hx hb hK hT (hT.k tr25 (by decide)) ⟨by decide, by decide⟩ (fun _ _ _ => rfl) (fun _ _ => trivial) (fun _ => rfl) (by omega) (by omega) dX5_load_72 (fun H locs s26 hus26 hT => ?_)
          have ktx_1 : zI s26 tx 1 = 0 := (zput_o hus26 (Or.inl ((hTo.k ttx (by decide)).ne (hTo.k tr25 (by decide)) (by decide)))).trans ktx_1
          obtain ⟨t27, qt27⟩ : ∃ zz9 : Int32, k + Int32.ofInt 1 = zz9 := ⟨_, rfl⟩
          refine lv_iinc (v := t27) (lv' := [(2, .int t27), (1, .int x5), (0, .ref this)]) hx hb dX5_load_73 hl (k := 0) rfl qt27 (by decide) rfl (fun ls hl => ?_)
          have ht27 : t27.toInt = k.toInt + 1 := by rw [← qt27]; exact v_addi rfl (show (Int32.ofInt 1).toInt = 1 from by decide) (by omega) (by omega)
          refine lv_goto (tgt := 61) hx hb dX5_load_76 (by decide) ?_
          exact ih61 t27 _ _ _ _ hT ktx_1 (by omega) (by omega) hl (by omega)
    exact loop61 ((2 - (0 : Int32).toInt).toNat + 1) 0 _ _ _ _ hT e12 (by omega) (by omega) hl (by omega)
  · have c4 := gi_eq c9
    obtain ⟨sa, hsa⟩ := XX_sRX5_86 hX.1
    subst hQ9
    exact tth_IAE hx hb hlt hown (hg _ k813) (hg _ k101) hsa hg hX.1 hT (hl.1.trans hml.symm) dX5_load_24 dX5_load_27 dX5_load_28 dX5_load_30 dX5_load_33 hout (Nat.le_of_ble_eq_true rfl) (Nat.le_of_ble_eq_true rfl) zroomX.rf hlocks ⟨rfl, by rw [etx, e12]; omega⟩

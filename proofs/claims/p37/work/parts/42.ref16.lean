/-! The reference over any state: tokens -/
theorem sub_fE_gBe : ∀ t k, gBe t k = false → fE t k = false := by
  intro t k h
  simp [fE, gBe] at h ⊢ <;> omega
theorem sub_fE_gH : ∀ t k, gH t k = false → fE t k = false := by
  intro t k h
  simp [fE, gH] at h ⊢ <;> omega
theorem sub_fE_gN : ∀ t k, gN t k = false → fE t k = false := by
  intro t k h
  simp [fE, gN] at h ⊢ <;> omega
theorem sub_gB_gBe : ∀ t k, gBe t k = false → gB t k = false := by
  intro t k h
  simp [gB, gBe] at h ⊢ <;> omega
theorem sub_gB_gHB : ∀ t k, gHB t k = false → gB t k = false := by
  intro t k h
  simp [gB, gHB] at h ⊢ <;> omega
theorem sub_gB_gN : ∀ t k, gN t k = false → gB t k = false := by
  intro t k h
  simp [gB, gN] at h ⊢ <;> omega
theorem sub_gH_gHB : ∀ t k, gHB t k = false → gH t k = false := by
  intro t k h
  simp [gH, gHB] at h ⊢ <;> omega
theorem sub_gH_gN : ∀ t k, gN t k = false → gH t k = false := by
  intro t k h
  simp [gH, gN] at h ⊢ <;> omega
theorem k40 : Cond.selects RX6 yX6_isWord yX6_isWord ∈ GW := gm 40 (by decide +kernel) (by decide +kernel)
theorem k41 : Cond.selects RX6 yX6_word yX6_word ∈ GW := gm 41 (by decide +kernel) (by decide +kernel)
theorem k42 : Cond.selects RX6 yX6_here yX6_here ∈ GW := gm 42 (by decide +kernel) (by decide +kernel)
theorem k43 : Cond.selects RX6 yX6_wordEnd yX6_wordEnd ∈ GW := gm 43 (by decide +kernel) (by decide +kernel)
theorem k45 : Cond.selects RX6 yX6_wrong yX6_wrong ∈ GW := gm 45 (by decide +kernel) (by decide +kernel)
theorem k47 : Cond.selects RX6 yX6_takes yX6_takes ∈ GW := gm 47 (by decide +kernel) (by decide +kernel)
theorem k1233 : Cond.fieldLink RX6 88 "LiftingSignalModel" "at" "I" ∈ GW := gm 1233 (by decide +kernel) (by decide +kernel)
theorem k1236 : Cond.fieldLink RX6 91 "LiftingSignalModel" "isBad" "Z" ∈ GW := gm 1236 (by decide +kernel) (by decide +kernel)
theorem k1242 : Cond.fieldLink RX6 135 "LiftingSignalModel" "told" "I" ∈ GW := gm 1242 (by decide +kernel) (by decide +kernel)
theorem k1243 : Cond.fieldLink RX6 121 "LiftingSignalModel" "value" "I" ∈ GW := gm 1243 (by decide +kernel) (by decide +kernel)
theorem k1337 : Cond.methodLink RX6 117 yX6_isWord ∈ GW := gm 1337 (by decide +kernel) (by decide +kernel)
theorem k1339 : Cond.instanceMethod yX6_isWord ∈ GW := gm 1339 (by decide +kernel) (by decide +kernel)
theorem k1340 : Cond.code yX6_isWord cX6_isWord 3 (some .boolean) ∈ GW := gm 1340 (by decide +kernel) (by decide +kernel)
theorem k1341 : Cond.methodLink RX6 113 yX6_word ∈ GW := gm 1341 (by decide +kernel) (by decide +kernel)
theorem k1343 : Cond.instanceMethod yX6_word ∈ GW := gm 1343 (by decide +kernel) (by decide +kernel)
theorem k1344 : Cond.code yX6_word cX6_word 5 (some .long) ∈ GW := gm 1344 (by decide +kernel) (by decide +kernel)
theorem k1345 : Cond.methodLink RX6 102 yX6_here ∈ GW := gm 1345 (by decide +kernel) (by decide +kernel)
theorem k1347 : Cond.instanceMethod yX6_here ∈ GW := gm 1347 (by decide +kernel) (by decide +kernel)
theorem k1348 : Cond.code yX6_here cX6_here 1 (some .int) ∈ GW := gm 1348 (by decide +kernel) (by decide +kernel)
theorem k1349 : Cond.methodLink RX6 106 yX6_wordEnd ∈ GW := gm 1349 (by decide +kernel) (by decide +kernel)
theorem k1351 : Cond.instanceMethod yX6_wordEnd ∈ GW := gm 1351 (by decide +kernel) (by decide +kernel)
theorem k1352 : Cond.code yX6_wordEnd cX6_wordEnd 2 (some .int) ∈ GW := gm 1352 (by decide +kernel) (by decide +kernel)
theorem k1353 : Cond.constantLong RX6 98 97 ∈ GW := gm 1353 (by decide +kernel) (by decide +kernel)
theorem k1354 : Cond.constantLong RX6 100 122 ∈ GW := gm 1354 (by decide +kernel) (by decide +kernel)
theorem k1355 : Cond.constantLong RX6 109 27 ∈ GW := gm 1355 (by decide +kernel) (by decide +kernel)
theorem k1356 : Cond.constantLong RX6 111 96 ∈ GW := gm 1356 (by decide +kernel) (by decide +kernel)
theorem k1361 : Cond.methodLink RX6 128 yX6_wrong ∈ GW := gm 1361 (by decide +kernel) (by decide +kernel)
theorem k1363 : Cond.instanceMethod yX6_wrong ∈ GW := gm 1363 (by decide +kernel) (by decide +kernel)
theorem k1364 : Cond.code yX6_wrong cX6_wrong 3 none ∈ GW := gm 1364 (by decide +kernel) (by decide +kernel)
theorem k1372 : Cond.methodLink RX6 132 yX6_takes ∈ GW := gm 1372 (by decide +kernel) (by decide +kernel)
theorem k1374 : Cond.instanceMethod yX6_takes ∈ GW := gm 1374 (by decide +kernel) (by decide +kernel)
theorem k1375 : Cond.code yX6_takes cX6_takes 4 (some .boolean) ∈ GW := gm 1375 (by decide +kernel) (by decide +kernel)
theorem k1388 : Cond.constantLong RX6 124 48 ∈ GW := gm 1388 (by decide +kernel) (by decide +kernel)
theorem k1389 : Cond.constantLong RX6 126 57 ∈ GW := gm 1389 (by decide +kernel) (by decide +kernel)
theorem dX6_begins_0 : decode cX6_begins 0 = .ok (.aload_n 0, 1) := by decide +kernel
theorem dX6_begins_1 : decode cX6_begins 1 = .ok (.getfield 135, 3) := by decide +kernel
theorem dX6_begins_4 : decode cX6_begins 4 = .ok (.iload_n 1, 1) := by decide +kernel
theorem dX6_begins_5 : decode cX6_begins 5 = .ok (.ishr, 1) := by decide +kernel
theorem dX6_begins_6 : decode cX6_begins 6 = .ok (.iconst 1, 1) := by decide +kernel
theorem dX6_begins_7 : decode cX6_begins 7 = .ok (.iand, 1) := by decide +kernel
theorem dX6_begins_8 : decode cX6_begins 8 = .ok (.iconst 1, 1) := by decide +kernel
theorem dX6_begins_9 : decode cX6_begins 9 = .ok (.if_icmp .ne 14, 3) := by decide +kernel
theorem dX6_begins_12 : decode cX6_begins 12 = .ok (.aload_n 0, 1) := by decide +kernel
theorem dX6_begins_13 : decode cX6_begins 13 = .ok (.iconst 3, 1) := by decide +kernel
theorem dX6_begins_14 : decode cX6_begins 14 = .ok (.aload_n 0, 1) := by decide +kernel
theorem dX6_begins_15 : decode cX6_begins 15 = .ok (.getfield 88, 3) := by decide +kernel
theorem dX6_begins_18 : decode cX6_begins 18 = .ok (.invokevirtual 128, 3) := by decide +kernel
theorem dX6_begins_21 : decode cX6_begins 21 = .ok (.iconst 0, 1) := by decide +kernel
theorem dX6_begins_22 : decode cX6_begins 22 = .ok (.ireturn, 1) := by decide +kernel
theorem dX6_begins_23 : decode cX6_begins 23 = .ok (.aload_n 0, 1) := by decide +kernel
theorem dX6_begins_24 : decode cX6_begins 24 = .ok (.dup, 1) := by decide +kernel
theorem dX6_begins_25 : decode cX6_begins 25 = .ok (.getfield 135, 3) := by decide +kernel
theorem dX6_begins_28 : decode cX6_begins 28 = .ok (.iconst 1, 1) := by decide +kernel
theorem dX6_begins_29 : decode cX6_begins 29 = .ok (.iload_n 1, 1) := by decide +kernel
theorem dX6_begins_30 : decode cX6_begins 30 = .ok (.ishl, 1) := by decide +kernel
theorem dX6_begins_31 : decode cX6_begins 31 = .ok (.ior, 1) := by decide +kernel
theorem dX6_begins_32 : decode cX6_begins 32 = .ok (.putfield 135, 3) := by decide +kernel
theorem dX6_begins_35 : decode cX6_begins 35 = .ok (.aload_n 0, 1) := by decide +kernel
theorem dX6_begins_36 : decode cX6_begins 36 = .ok (.aload_n 0, 1) := by decide +kernel
theorem dX6_begins_37 : decode cX6_begins 37 = .ok (.invokevirtual 106, 3) := by decide +kernel
theorem dX6_begins_40 : decode cX6_begins 40 = .ok (.putfield 88, 3) := by decide +kernel
theorem dX6_begins_43 : decode cX6_begins 43 = .ok (.iconst 1, 1) := by decide +kernel
theorem dX6_begins_44 : decode cX6_begins 44 = .ok (.ireturn, 1) := by decide +kernel
theorem dX6_choice_0 : decode cX6_choice 0 = .ok (.aload_n 0, 1) := by decide +kernel
theorem dX6_choice_1 : decode cX6_choice 1 = .ok (.lload_n 1, 1) := by decide +kernel
theorem dX6_choice_2 : decode cX6_choice 2 = .ok (.invokevirtual 132, 3) := by decide +kernel
theorem dX6_choice_5 : decode cX6_choice 5 = .ok (.ifCond .eq 7, 3) := by decide +kernel
theorem dX6_choice_8 : decode cX6_choice 8 = .ok (.iconst 0, 1) := by decide +kernel
theorem dX6_choice_9 : decode cX6_choice 9 = .ok (.goto 36, 3) := by decide +kernel
theorem dX6_choice_12 : decode cX6_choice 12 = .ok (.aload_n 0, 1) := by decide +kernel
theorem dX6_choice_13 : decode cX6_choice 13 = .ok (.lload_n 3, 1) := by decide +kernel
theorem dX6_choice_14 : decode cX6_choice 14 = .ok (.invokevirtual 132, 3) := by decide +kernel
theorem dX6_choice_17 : decode cX6_choice 17 = .ok (.ifCond .eq 7, 3) := by decide +kernel
theorem dX6_choice_20 : decode cX6_choice 20 = .ok (.iconst 1, 1) := by decide +kernel
theorem dX6_choice_21 : decode cX6_choice 21 = .ok (.goto 24, 3) := by decide +kernel
theorem dX6_choice_24 : decode cX6_choice 24 = .ok (.lload 5, 2) := by decide +kernel
theorem dX6_choice_26 : decode cX6_choice 26 = .ok (.lconst 0, 1) := by decide +kernel
theorem dX6_choice_27 : decode cX6_choice 27 = .ok (.lcmp, 1) := by decide +kernel
theorem dX6_choice_28 : decode cX6_choice 28 = .ok (.ifCond .le 16, 3) := by decide +kernel
theorem dX6_choice_31 : decode cX6_choice 31 = .ok (.aload_n 0, 1) := by decide +kernel
theorem dX6_choice_32 : decode cX6_choice 32 = .ok (.lload 5, 2) := by decide +kernel
theorem dX6_choice_34 : decode cX6_choice 34 = .ok (.invokevirtual 132, 3) := by decide +kernel
theorem dX6_choice_37 : decode cX6_choice 37 = .ok (.ifCond .eq 7, 3) := by decide +kernel
theorem dX6_choice_40 : decode cX6_choice 40 = .ok (.iconst 2, 1) := by decide +kernel
theorem dX6_choice_41 : decode cX6_choice 41 = .ok (.goto 4, 3) := by decide +kernel
theorem dX6_choice_44 : decode cX6_choice 44 = .ok (.iconst (-1), 1) := by decide +kernel
theorem dX6_choice_45 : decode cX6_choice 45 = .ok (.istore 7, 2) := by decide +kernel
theorem dX6_choice_47 : decode cX6_choice 47 = .ok (.iload 7, 2) := by decide +kernel
theorem dX6_choice_49 : decode cX6_choice 49 = .ok (.iconst (-1), 1) := by decide +kernel
theorem dX6_choice_50 : decode cX6_choice 50 = .ok (.if_icmp .ne 25, 3) := by decide +kernel
theorem dX6_choice_53 : decode cX6_choice 53 = .ok (.aload_n 0, 1) := by decide +kernel
theorem dX6_choice_54 : decode cX6_choice 54 = .ok (.getfield 91, 3) := by decide +kernel
theorem dX6_choice_57 : decode cX6_choice 57 = .ok (.ifCond .ne 18, 3) := by decide +kernel
theorem dX6_choice_60 : decode cX6_choice 60 = .ok (.aload_n 0, 1) := by decide +kernel
theorem dX6_choice_61 : decode cX6_choice 61 = .ok (.invokevirtual 102, 3) := by decide +kernel
theorem dX6_choice_64 : decode cX6_choice 64 = .ok (.istore 8, 2) := by decide +kernel
theorem dX6_choice_66 : decode cX6_choice 66 = .ok (.aload_n 0, 1) := by decide +kernel
theorem dX6_choice_67 : decode cX6_choice 67 = .ok (.iconst 1, 1) := by decide +kernel
theorem dX6_choice_68 : decode cX6_choice 68 = .ok (.aload_n 0, 1) := by decide +kernel
theorem dX6_choice_69 : decode cX6_choice 69 = .ok (.getfield 88, 3) := by decide +kernel
theorem dX6_choice_72 : decode cX6_choice 72 = .ok (.invokevirtual 128, 3) := by decide +kernel
theorem dX6_choice_75 : decode cX6_choice 75 = .ok (.iload 7, 2) := by decide +kernel
theorem dX6_choice_77 : decode cX6_choice 77 = .ok (.ireturn, 1) := by decide +kernel
theorem dX6_ends_0 : decode cX6_ends 0 = .ok (.aload_n 0, 1) := by decide +kernel
theorem dX6_ends_1 : decode cX6_ends 1 = .ok (.getfield 91, 3) := by decide +kernel
theorem dX6_ends_4 : decode cX6_ends 4 = .ok (.ifCond .ne 21, 3) := by decide +kernel
theorem dX6_ends_7 : decode cX6_ends 7 = .ok (.aload_n 0, 1) := by decide +kernel
theorem dX6_ends_8 : decode cX6_ends 8 = .ok (.invokevirtual 102, 3) := by decide +kernel
theorem dX6_ends_11 : decode cX6_ends 11 = .ok (.bipush 59, 2) := by decide +kernel
theorem dX6_ends_13 : decode cX6_ends 13 = .ok (.if_icmp .eq 12, 3) := by decide +kernel
theorem dX6_ends_16 : decode cX6_ends 16 = .ok (.aload_n 0, 1) := by decide +kernel
theorem dX6_ends_17 : decode cX6_ends 17 = .ok (.iconst 1, 1) := by decide +kernel
theorem dX6_ends_18 : decode cX6_ends 18 = .ok (.aload_n 0, 1) := by decide +kernel
theorem dX6_ends_19 : decode cX6_ends 19 = .ok (.getfield 88, 3) := by decide +kernel
theorem dX6_ends_22 : decode cX6_ends 22 = .ok (.invokevirtual 128, 3) := by decide +kernel
theorem dX6_ends_25 : decode cX6_ends 25 = .ok (.aload_n 0, 1) := by decide +kernel
theorem dX6_ends_26 : decode cX6_ends 26 = .ok (.dup, 1) := by decide +kernel
theorem dX6_ends_27 : decode cX6_ends 27 = .ok (.getfield 88, 3) := by decide +kernel
theorem dX6_ends_30 : decode cX6_ends 30 = .ok (.iconst 1, 1) := by decide +kernel
theorem dX6_ends_31 : decode cX6_ends 31 = .ok (.iadd, 1) := by decide +kernel
theorem dX6_ends_32 : decode cX6_ends 32 = .ok (.putfield 88, 3) := by decide +kernel
theorem dX6_ends_35 : decode cX6_ends 35 = .ok (.return_, 1) := by decide +kernel
theorem dX6_here_0 : decode cX6_here 0 = .ok (.aload_n 0, 1) := by decide +kernel
theorem dX6_here_1 : decode cX6_here 1 = .ok (.getfield 88, 3) := by decide +kernel
theorem dX6_here_4 : decode cX6_here 4 = .ok (.aload_n 0, 1) := by decide +kernel
theorem dX6_here_5 : decode cX6_here 5 = .ok (.getfield 77, 3) := by decide +kernel
theorem dX6_here_8 : decode cX6_here 8 = .ok (.if_icmp .ge 44, 3) := by decide +kernel
theorem dX6_here_11 : decode cX6_here 11 = .ok (.aload_n 0, 1) := by decide +kernel
theorem dX6_here_12 : decode cX6_here 12 = .ok (.getfield 34, 3) := by decide +kernel
theorem dX6_here_15 : decode cX6_here 15 = .ok (.aload_n 0, 1) := by decide +kernel
theorem dX6_here_16 : decode cX6_here 16 = .ok (.getfield 88, 3) := by decide +kernel
theorem dX6_here_19 : decode cX6_here 19 = .ok (.iaload, 1) := by decide +kernel
theorem dX6_here_20 : decode cX6_here 20 = .ok (.bipush 32, 2) := by decide +kernel
theorem dX6_here_22 : decode cX6_here 22 = .ok (.if_icmp .eq 17, 3) := by decide +kernel
theorem dX6_here_25 : decode cX6_here 25 = .ok (.aload_n 0, 1) := by decide +kernel
theorem dX6_here_26 : decode cX6_here 26 = .ok (.getfield 34, 3) := by decide +kernel
theorem dX6_here_29 : decode cX6_here 29 = .ok (.aload_n 0, 1) := by decide +kernel
theorem dX6_here_30 : decode cX6_here 30 = .ok (.getfield 88, 3) := by decide +kernel
theorem dX6_here_33 : decode cX6_here 33 = .ok (.iaload, 1) := by decide +kernel
theorem dX6_here_34 : decode cX6_here 34 = .ok (.bipush 10, 2) := by decide +kernel
theorem dX6_here_36 : decode cX6_here 36 = .ok (.if_icmp .ne 16, 3) := by decide +kernel
theorem dX6_here_39 : decode cX6_here 39 = .ok (.aload_n 0, 1) := by decide +kernel
theorem dX6_here_40 : decode cX6_here 40 = .ok (.dup, 1) := by decide +kernel
theorem dX6_here_41 : decode cX6_here 41 = .ok (.getfield 88, 3) := by decide +kernel
theorem dX6_here_44 : decode cX6_here 44 = .ok (.iconst 1, 1) := by decide +kernel
theorem dX6_here_45 : decode cX6_here 45 = .ok (.iadd, 1) := by decide +kernel
theorem dX6_here_46 : decode cX6_here 46 = .ok (.putfield 88, 3) := by decide +kernel
theorem dX6_here_49 : decode cX6_here 49 = .ok (.goto (-49), 3) := by decide +kernel
theorem dX6_here_52 : decode cX6_here 52 = .ok (.aload_n 0, 1) := by decide +kernel
theorem dX6_here_53 : decode cX6_here 53 = .ok (.getfield 88, 3) := by decide +kernel
theorem dX6_here_56 : decode cX6_here 56 = .ok (.aload_n 0, 1) := by decide +kernel
theorem dX6_here_57 : decode cX6_here 57 = .ok (.getfield 77, 3) := by decide +kernel
theorem dX6_here_60 : decode cX6_here 60 = .ok (.if_icmp .ge 15, 3) := by decide +kernel
theorem dX6_here_63 : decode cX6_here 63 = .ok (.aload_n 0, 1) := by decide +kernel
theorem dX6_here_64 : decode cX6_here 64 = .ok (.getfield 34, 3) := by decide +kernel
theorem dX6_here_67 : decode cX6_here 67 = .ok (.aload_n 0, 1) := by decide +kernel
theorem dX6_here_68 : decode cX6_here 68 = .ok (.getfield 88, 3) := by decide +kernel
theorem dX6_here_71 : decode cX6_here 71 = .ok (.iaload, 1) := by decide +kernel
theorem dX6_here_72 : decode cX6_here 72 = .ok (.goto 4, 3) := by decide +kernel
theorem dX6_here_75 : decode cX6_here 75 = .ok (.iconst (-1), 1) := by decide +kernel
theorem dX6_here_76 : decode cX6_here 76 = .ok (.ireturn, 1) := by decide +kernel
theorem dX6_isWord_0 : decode cX6_isWord 0 = .ok (.aload_n 0, 1) := by decide +kernel
theorem dX6_isWord_1 : decode cX6_isWord 1 = .ok (.getfield 91, 3) := by decide +kernel
theorem dX6_isWord_4 : decode cX6_isWord 4 = .ok (.ifCond .ne 16, 3) := by decide +kernel
theorem dX6_isWord_7 : decode cX6_isWord 7 = .ok (.aload_n 0, 1) := by decide +kernel
theorem dX6_isWord_8 : decode cX6_isWord 8 = .ok (.invokevirtual 113, 3) := by decide +kernel
theorem dX6_isWord_11 : decode cX6_isWord 11 = .ok (.lload_n 1, 1) := by decide +kernel
theorem dX6_isWord_12 : decode cX6_isWord 12 = .ok (.lcmp, 1) := by decide +kernel
theorem dX6_isWord_13 : decode cX6_isWord 13 = .ok (.ifCond .ne 7, 3) := by decide +kernel
theorem dX6_isWord_16 : decode cX6_isWord 16 = .ok (.iconst 1, 1) := by decide +kernel
theorem dX6_isWord_17 : decode cX6_isWord 17 = .ok (.goto 4, 3) := by decide +kernel
theorem dX6_isWord_20 : decode cX6_isWord 20 = .ok (.iconst 0, 1) := by decide +kernel
theorem dX6_isWord_21 : decode cX6_isWord 21 = .ok (.ireturn, 1) := by decide +kernel
theorem dX6_number_0 : decode cX6_number 0 = .ok (.aload_n 0, 1) := by decide +kernel
theorem dX6_number_1 : decode cX6_number 1 = .ok (.iconst 0, 1) := by decide +kernel
theorem dX6_number_2 : decode cX6_number 2 = .ok (.putfield 121, 3) := by decide +kernel
theorem dX6_number_5 : decode cX6_number 5 = .ok (.aload_n 0, 1) := by decide +kernel
theorem dX6_number_6 : decode cX6_number 6 = .ok (.getfield 91, 3) := by decide +kernel
theorem dX6_number_9 : decode cX6_number 9 = .ok (.ifCond .eq 4, 3) := by decide +kernel
theorem dX6_number_12 : decode cX6_number 12 = .ok (.return_, 1) := by decide +kernel
theorem dX6_number_13 : decode cX6_number 13 = .ok (.aload_n 0, 1) := by decide +kernel
theorem dX6_number_14 : decode cX6_number 14 = .ok (.invokevirtual 102, 3) := by decide +kernel
theorem dX6_number_17 : decode cX6_number 17 = .ok (.i2l, 1) := by decide +kernel
theorem dX6_number_18 : decode cX6_number 18 = .ok (.ldc2_w 124, 3) := by decide +kernel
theorem dX6_number_21 : decode cX6_number 21 = .ok (.ldc2_w 126, 3) := by decide +kernel
theorem dX6_number_24 : decode cX6_number 24 = .ok (.invokestatic 84, 3) := by decide +kernel
theorem dX6_number_27 : decode cX6_number 27 = .ok (.istore_n 3, 1) := by decide +kernel
theorem dX6_number_28 : decode cX6_number 28 = .ok (.aload_n 0, 1) := by decide +kernel
theorem dX6_number_29 : decode cX6_number 29 = .ok (.getfield 88, 3) := by decide +kernel
theorem dX6_number_32 : decode cX6_number 32 = .ok (.istore 4, 2) := by decide +kernel
theorem dX6_number_34 : decode cX6_number 34 = .ok (.iload_n 3, 1) := by decide +kernel
theorem dX6_number_35 : decode cX6_number 35 = .ok (.ifCond .eq 91, 3) := by decide +kernel
theorem dX6_number_38 : decode cX6_number 38 = .ok (.aload_n 0, 1) := by decide +kernel
theorem dX6_number_39 : decode cX6_number 39 = .ok (.getfield 88, 3) := by decide +kernel
theorem dX6_number_42 : decode cX6_number 42 = .ok (.aload_n 0, 1) := by decide +kernel
theorem dX6_number_43 : decode cX6_number 43 = .ok (.getfield 77, 3) := by decide +kernel
theorem dX6_number_46 : decode cX6_number 46 = .ok (.if_icmp .ge 80, 3) := by decide +kernel
theorem dX6_number_49 : decode cX6_number 49 = .ok (.aload_n 0, 1) := by decide +kernel
theorem dX6_number_50 : decode cX6_number 50 = .ok (.getfield 34, 3) := by decide +kernel
theorem dX6_number_53 : decode cX6_number 53 = .ok (.aload_n 0, 1) := by decide +kernel
theorem dX6_number_54 : decode cX6_number 54 = .ok (.getfield 88, 3) := by decide +kernel
theorem dX6_number_57 : decode cX6_number 57 = .ok (.iaload, 1) := by decide +kernel
theorem dX6_number_58 : decode cX6_number 58 = .ok (.i2l, 1) := by decide +kernel
theorem dX6_number_59 : decode cX6_number 59 = .ok (.ldc2_w 124, 3) := by decide +kernel
theorem dX6_number_62 : decode cX6_number 62 = .ok (.ldc2_w 126, 3) := by decide +kernel
theorem dX6_number_65 : decode cX6_number 65 = .ok (.invokestatic 84, 3) := by decide +kernel
theorem dX6_number_68 : decode cX6_number 68 = .ok (.ifCond .eq 58, 3) := by decide +kernel
theorem dX6_number_71 : decode cX6_number 71 = .ok (.aload_n 0, 1) := by decide +kernel
theorem dX6_number_72 : decode cX6_number 72 = .ok (.aload_n 0, 1) := by decide +kernel
theorem dX6_number_73 : decode cX6_number 73 = .ok (.getfield 88, 3) := by decide +kernel
theorem dX6_number_76 : decode cX6_number 76 = .ok (.iload 4, 2) := by decide +kernel
theorem dX6_number_78 : decode cX6_number 78 = .ok (.isub, 1) := by decide +kernel
theorem dX6_number_79 : decode cX6_number 79 = .ok (.iconst 4, 1) := by decide +kernel
theorem dX6_number_80 : decode cX6_number 80 = .ok (.if_icmp .ge 26, 3) := by decide +kernel
theorem dX6_number_83 : decode cX6_number 83 = .ok (.bipush 10, 2) := by decide +kernel
theorem dX6_number_85 : decode cX6_number 85 = .ok (.aload_n 0, 1) := by decide +kernel
theorem dX6_number_86 : decode cX6_number 86 = .ok (.getfield 121, 3) := by decide +kernel
theorem dX6_number_89 : decode cX6_number 89 = .ok (.imul, 1) := by decide +kernel
theorem dX6_number_90 : decode cX6_number 90 = .ok (.aload_n 0, 1) := by decide +kernel
theorem dX6_number_91 : decode cX6_number 91 = .ok (.getfield 34, 3) := by decide +kernel
theorem dX6_number_94 : decode cX6_number 94 = .ok (.aload_n 0, 1) := by decide +kernel
theorem dX6_number_95 : decode cX6_number 95 = .ok (.getfield 88, 3) := by decide +kernel
theorem dX6_number_98 : decode cX6_number 98 = .ok (.iaload, 1) := by decide +kernel
theorem dX6_number_99 : decode cX6_number 99 = .ok (.iadd, 1) := by decide +kernel
theorem dX6_number_100 : decode cX6_number 100 = .ok (.bipush 48, 2) := by decide +kernel
theorem dX6_number_102 : decode cX6_number 102 = .ok (.isub, 1) := by decide +kernel
theorem dX6_number_103 : decode cX6_number 103 = .ok (.goto 7, 3) := by decide +kernel
theorem dX6_number_106 : decode cX6_number 106 = .ok (.aload_n 0, 1) := by decide +kernel
theorem dX6_number_107 : decode cX6_number 107 = .ok (.getfield 121, 3) := by decide +kernel
theorem dX6_number_110 : decode cX6_number 110 = .ok (.putfield 121, 3) := by decide +kernel
theorem dX6_number_113 : decode cX6_number 113 = .ok (.aload_n 0, 1) := by decide +kernel
theorem dX6_number_114 : decode cX6_number 114 = .ok (.dup, 1) := by decide +kernel
theorem dX6_number_115 : decode cX6_number 115 = .ok (.getfield 88, 3) := by decide +kernel
theorem dX6_number_118 : decode cX6_number 118 = .ok (.iconst 1, 1) := by decide +kernel
theorem dX6_number_119 : decode cX6_number 119 = .ok (.iadd, 1) := by decide +kernel
theorem dX6_number_120 : decode cX6_number 120 = .ok (.putfield 88, 3) := by decide +kernel
theorem dX6_number_123 : decode cX6_number 123 = .ok (.goto (-89), 3) := by decide +kernel
theorem dX6_number_126 : decode cX6_number 126 = .ok (.iload_n 3, 1) := by decide +kernel
theorem dX6_number_127 : decode cX6_number 127 = .ok (.ifCond .eq 14, 3) := by decide +kernel
theorem dX6_number_130 : decode cX6_number 130 = .ok (.aload_n 0, 1) := by decide +kernel
theorem dX6_number_131 : decode cX6_number 131 = .ok (.getfield 88, 3) := by decide +kernel
theorem dX6_number_134 : decode cX6_number 134 = .ok (.iload 4, 2) := by decide +kernel
theorem dX6_number_136 : decode cX6_number 136 = .ok (.isub, 1) := by decide +kernel
theorem dX6_number_137 : decode cX6_number 137 = .ok (.iconst 4, 1) := by decide +kernel
theorem dX6_number_138 : decode cX6_number 138 = .ok (.if_icmp .le 13, 3) := by decide +kernel
theorem dX6_number_141 : decode cX6_number 141 = .ok (.aload_n 0, 1) := by decide +kernel
theorem dX6_number_142 : decode cX6_number 142 = .ok (.iconst 1, 1) := by decide +kernel
theorem dX6_number_143 : decode cX6_number 143 = .ok (.iload 4, 2) := by decide +kernel
theorem dX6_number_145 : decode cX6_number 145 = .ok (.invokevirtual 128, 3) := by decide +kernel
theorem dX6_number_148 : decode cX6_number 148 = .ok (.goto 25, 3) := by decide +kernel
theorem dX6_number_151 : decode cX6_number 151 = .ok (.aload_n 0, 1) := by decide +kernel
theorem dX6_number_152 : decode cX6_number 152 = .ok (.getfield 121, 3) := by decide +kernel
theorem dX6_number_155 : decode cX6_number 155 = .ok (.i2l, 1) := by decide +kernel
theorem dX6_number_156 : decode cX6_number 156 = .ok (.iload_n 1, 1) := by decide +kernel
theorem dX6_number_157 : decode cX6_number 157 = .ok (.i2l, 1) := by decide +kernel
theorem dX6_number_158 : decode cX6_number 158 = .ok (.iload_n 2, 1) := by decide +kernel
theorem dX6_number_159 : decode cX6_number 159 = .ok (.i2l, 1) := by decide +kernel
theorem dX6_number_160 : decode cX6_number 160 = .ok (.invokestatic 84, 3) := by decide +kernel
theorem dX6_number_163 : decode cX6_number 163 = .ok (.ifCond .ne 10, 3) := by decide +kernel
theorem dX6_number_166 : decode cX6_number 166 = .ok (.aload_n 0, 1) := by decide +kernel
theorem dX6_number_167 : decode cX6_number 167 = .ok (.iconst 2, 1) := by decide +kernel
theorem dX6_number_168 : decode cX6_number 168 = .ok (.iload 4, 2) := by decide +kernel
theorem dX6_number_170 : decode cX6_number 170 = .ok (.invokevirtual 128, 3) := by decide +kernel
theorem dX6_number_173 : decode cX6_number 173 = .ok (.return_, 1) := by decide +kernel
theorem dX6_takes_0 : decode cX6_takes 0 = .ok (.aload_n 0, 1) := by decide +kernel
theorem dX6_takes_1 : decode cX6_takes 1 = .ok (.lload_n 1, 1) := by decide +kernel
theorem dX6_takes_2 : decode cX6_takes 2 = .ok (.invokevirtual 117, 3) := by decide +kernel
theorem dX6_takes_5 : decode cX6_takes 5 = .ok (.istore_n 3, 1) := by decide +kernel
theorem dX6_takes_6 : decode cX6_takes 6 = .ok (.aload_n 0, 1) := by decide +kernel
theorem dX6_takes_7 : decode cX6_takes 7 = .ok (.iload_n 3, 1) := by decide +kernel
theorem dX6_takes_8 : decode cX6_takes 8 = .ok (.ifCond .eq 10, 3) := by decide +kernel
theorem dX6_takes_11 : decode cX6_takes 11 = .ok (.aload_n 0, 1) := by decide +kernel
theorem dX6_takes_12 : decode cX6_takes 12 = .ok (.invokevirtual 106, 3) := by decide +kernel
theorem dX6_takes_15 : decode cX6_takes 15 = .ok (.goto 7, 3) := by decide +kernel
theorem dX6_takes_18 : decode cX6_takes 18 = .ok (.aload_n 0, 1) := by decide +kernel
theorem dX6_takes_19 : decode cX6_takes 19 = .ok (.getfield 88, 3) := by decide +kernel
theorem dX6_takes_22 : decode cX6_takes 22 = .ok (.putfield 88, 3) := by decide +kernel
theorem dX6_takes_25 : decode cX6_takes 25 = .ok (.iload_n 3, 1) := by decide +kernel
theorem dX6_takes_26 : decode cX6_takes 26 = .ok (.ireturn, 1) := by decide +kernel
theorem dX6_word_0 : decode cX6_word 0 = .ok (.lconst 0, 1) := by decide +kernel
theorem dX6_word_1 : decode cX6_word 1 = .ok (.lstore_n 1, 1) := by decide +kernel
theorem dX6_word_2 : decode cX6_word 2 = .ok (.aload_n 0, 1) := by decide +kernel
theorem dX6_word_3 : decode cX6_word 3 = .ok (.invokevirtual 102, 3) := by decide +kernel
theorem dX6_word_6 : decode cX6_word 6 = .ok (.iconst (-1), 1) := by decide +kernel
theorem dX6_word_7 : decode cX6_word 7 = .ok (.if_icmp .ne 10, 3) := by decide +kernel
theorem dX6_word_10 : decode cX6_word 10 = .ok (.aload_n 0, 1) := by decide +kernel
theorem dX6_word_11 : decode cX6_word 11 = .ok (.getfield 88, 3) := by decide +kernel
theorem dX6_word_14 : decode cX6_word 14 = .ok (.goto 7, 3) := by decide +kernel
theorem dX6_word_17 : decode cX6_word 17 = .ok (.aload_n 0, 1) := by decide +kernel
theorem dX6_word_18 : decode cX6_word 18 = .ok (.invokevirtual 106, 3) := by decide +kernel
theorem dX6_word_21 : decode cX6_word 21 = .ok (.istore_n 3, 1) := by decide +kernel
theorem dX6_word_22 : decode cX6_word 22 = .ok (.aload_n 0, 1) := by decide +kernel
theorem dX6_word_23 : decode cX6_word 23 = .ok (.getfield 88, 3) := by decide +kernel
theorem dX6_word_26 : decode cX6_word 26 = .ok (.istore 4, 2) := by decide +kernel
theorem dX6_word_28 : decode cX6_word 28 = .ok (.iload 4, 2) := by decide +kernel
theorem dX6_word_30 : decode cX6_word 30 = .ok (.iload_n 3, 1) := by decide +kernel
theorem dX6_word_31 : decode cX6_word 31 = .ok (.if_icmp .ge 43, 3) := by decide +kernel
theorem dX6_word_34 : decode cX6_word 34 = .ok (.iload_n 3, 1) := by decide +kernel
theorem dX6_word_35 : decode cX6_word 35 = .ok (.aload_n 0, 1) := by decide +kernel
theorem dX6_word_36 : decode cX6_word 36 = .ok (.getfield 88, 3) := by decide +kernel
theorem dX6_word_39 : decode cX6_word 39 = .ok (.isub, 1) := by decide +kernel
theorem dX6_word_40 : decode cX6_word 40 = .ok (.bipush 7, 2) := by decide +kernel
theorem dX6_word_42 : decode cX6_word 42 = .ok (.if_icmp .le 7, 3) := by decide +kernel
theorem dX6_word_45 : decode cX6_word 45 = .ok (.lconst 0, 1) := by decide +kernel
theorem dX6_word_46 : decode cX6_word 46 = .ok (.goto 21, 3) := by decide +kernel
theorem dX6_word_49 : decode cX6_word 49 = .ok (.ldc2_w 109, 3) := by decide +kernel
theorem dX6_word_52 : decode cX6_word 52 = .ok (.lload_n 1, 1) := by decide +kernel
theorem dX6_word_53 : decode cX6_word 53 = .ok (.lmul, 1) := by decide +kernel
theorem dX6_word_54 : decode cX6_word 54 = .ok (.aload_n 0, 1) := by decide +kernel
theorem dX6_word_55 : decode cX6_word 55 = .ok (.getfield 34, 3) := by decide +kernel
theorem dX6_word_58 : decode cX6_word 58 = .ok (.iload 4, 2) := by decide +kernel
theorem dX6_word_60 : decode cX6_word 60 = .ok (.iaload, 1) := by decide +kernel
theorem dX6_word_61 : decode cX6_word 61 = .ok (.i2l, 1) := by decide +kernel
theorem dX6_word_62 : decode cX6_word 62 = .ok (.ladd, 1) := by decide +kernel
theorem dX6_word_63 : decode cX6_word 63 = .ok (.ldc2_w 111, 3) := by decide +kernel
theorem dX6_word_66 : decode cX6_word 66 = .ok (.lsub, 1) := by decide +kernel
theorem dX6_word_67 : decode cX6_word 67 = .ok (.lstore_n 1, 1) := by decide +kernel
theorem dX6_word_68 : decode cX6_word 68 = .ok (.iinc 4 1, 3) := by decide +kernel
theorem dX6_word_71 : decode cX6_word 71 = .ok (.goto (-43), 3) := by decide +kernel
theorem dX6_word_74 : decode cX6_word 74 = .ok (.lload_n 1, 1) := by decide +kernel
theorem dX6_word_75 : decode cX6_word 75 = .ok (.lreturn, 1) := by decide +kernel
theorem dX6_wordEnd_0 : decode cX6_wordEnd 0 = .ok (.aload_n 0, 1) := by decide +kernel
theorem dX6_wordEnd_1 : decode cX6_wordEnd 1 = .ok (.getfield 88, 3) := by decide +kernel
theorem dX6_wordEnd_4 : decode cX6_wordEnd 4 = .ok (.istore_n 1, 1) := by decide +kernel
theorem dX6_wordEnd_5 : decode cX6_wordEnd 5 = .ok (.iload_n 1, 1) := by decide +kernel
theorem dX6_wordEnd_6 : decode cX6_wordEnd 6 = .ok (.aload_n 0, 1) := by decide +kernel
theorem dX6_wordEnd_7 : decode cX6_wordEnd 7 = .ok (.getfield 77, 3) := by decide +kernel
theorem dX6_wordEnd_10 : decode cX6_wordEnd 10 = .ok (.if_icmp .ge 28, 3) := by decide +kernel
theorem dX6_wordEnd_13 : decode cX6_wordEnd 13 = .ok (.aload_n 0, 1) := by decide +kernel
theorem dX6_wordEnd_14 : decode cX6_wordEnd 14 = .ok (.getfield 34, 3) := by decide +kernel
theorem dX6_wordEnd_17 : decode cX6_wordEnd 17 = .ok (.iload_n 1, 1) := by decide +kernel
theorem dX6_wordEnd_18 : decode cX6_wordEnd 18 = .ok (.iaload, 1) := by decide +kernel
theorem dX6_wordEnd_19 : decode cX6_wordEnd 19 = .ok (.i2l, 1) := by decide +kernel
theorem dX6_wordEnd_20 : decode cX6_wordEnd 20 = .ok (.ldc2_w 98, 3) := by decide +kernel
theorem dX6_wordEnd_23 : decode cX6_wordEnd 23 = .ok (.ldc2_w 100, 3) := by decide +kernel
theorem dX6_wordEnd_26 : decode cX6_wordEnd 26 = .ok (.invokestatic 84, 3) := by decide +kernel
theorem dX6_wordEnd_29 : decode cX6_wordEnd 29 = .ok (.ifCond .eq 9, 3) := by decide +kernel
theorem dX6_wordEnd_32 : decode cX6_wordEnd 32 = .ok (.iinc 1 1, 3) := by decide +kernel
theorem dX6_wordEnd_35 : decode cX6_wordEnd 35 = .ok (.goto (-30), 3) := by decide +kernel
theorem dX6_wordEnd_38 : decode cX6_wordEnd 38 = .ok (.iload_n 1, 1) := by decide +kernel
theorem dX6_wordEnd_39 : decode cX6_wordEnd 39 = .ok (.ireturn, 1) := by decide +kernel
theorem dX6_wrong_0 : decode cX6_wrong 0 = .ok (.aload_n 0, 1) := by decide +kernel
theorem dX6_wrong_1 : decode cX6_wrong 1 = .ok (.getfield 91, 3) := by decide +kernel
theorem dX6_wrong_4 : decode cX6_wrong 4 = .ok (.ifCond .eq 4, 3) := by decide +kernel
theorem dX6_wrong_7 : decode cX6_wrong 7 = .ok (.return_, 1) := by decide +kernel
theorem dX6_wrong_8 : decode cX6_wrong 8 = .ok (.aload_n 0, 1) := by decide +kernel
theorem dX6_wrong_9 : decode cX6_wrong 9 = .ok (.iconst 1, 1) := by decide +kernel
theorem dX6_wrong_10 : decode cX6_wrong 10 = .ok (.putfield 91, 3) := by decide +kernel
theorem dX6_wrong_13 : decode cX6_wrong 13 = .ok (.aload_n 0, 1) := by decide +kernel
theorem dX6_wrong_14 : decode cX6_wrong 14 = .ok (.iload_n 1, 1) := by decide +kernel
theorem dX6_wrong_15 : decode cX6_wrong 15 = .ok (.putfield 95, 3) := by decide +kernel
theorem dX6_wrong_18 : decode cX6_wrong 18 = .ok (.aload_n 0, 1) := by decide +kernel
theorem dX6_wrong_19 : decode cX6_wrong 19 = .ok (.iload_n 2, 1) := by decide +kernel
theorem dX6_wrong_20 : decode cX6_wrong 20 = .ok (.putfield 37, 3) := by decide +kernel
theorem dX6_wrong_23 : decode cX6_wrong 23 = .ok (.return_, 1) := by decide +kernel
set_option maxHeartbeats 4000000 in
set_option maxRecDepth 100000 in
theorem X6_here (l : Launch) (κ : Kt) (σ0 : Gh) (this : Nat) (t_this : zk σ0 this 20) (h0 : 0 ≤ (zI σ0 this 13).toInt) (h1 : (zI σ0 this 13).toInt ≤ 700) (h2 : 0 ≤ (zI σ0 this 14).toInt) (h3 : (zI σ0 this 14).toInt ≤ 702) : TC l yX6_here cX6_here 1 (some .int) 0 0 [.ref this] κ σ0 (tqi κ gH σ0 (fun (r : Int32) (τ : Gh) => ((zI σ0 this 14).toInt ≤ (zI τ this 14).toInt) ∧ ((zI τ this 14).toInt ≤ (zI σ0 this 13).toInt ∨ (zI τ this 14).toInt = (zI σ0 this 14).toInt) ∧ (r.toInt = -1 ∨ (zI τ this 14).toInt < (zI σ0 this 13).toInt))) := by
  refine TC.of gH (by decide +kernel) (Nat.le_of_ble_eq_true rfl) ?_
  intro p e s m below meth c ls hcs hK hX hT hl
  obtain ⟨hx, hb, hr, hml, hown, hg, hlocks, hin⟩ := hcs
  have hown : s.vm.findClass RX6 = some m.cls := hown
  have hl : lv_has ls 1 [(0, .ref this)] := hl
  have hT0 := hT
  have nm1 : ((-1) : Int32).toInt = (-1) := by decide
  have n1 : (1 : Int32).toInt = 1 := by decide
  have n10 : (10 : Int32).toInt = 10 := by decide
  have n32 : (32 : Int32).toInt = 32 := by decide
  generalize hQ9 : tQ _ _ _ _ _ _ = Q9
  obtain ⟨v1, ev1⟩ : ∃ zz9 : Int32, zI σ0 this 13 = zz9 := ⟨_, rfl⟩
  have qv1 : v1.toInt = (zI σ0 this 13).toInt := by rw [ev1]
  obtain ⟨v2, ev2⟩ : ∃ zz9 : Int32, zI σ0 this 14 = zz9 := ⟨_, rfl⟩
  have qv2 : v2.toInt = (zI σ0 this 14).toInt := by rw [ev2]
  obtain ⟨v3, ev3⟩ : ∃ zz9 : Int32, zI σ0 this 17 = zz9 := ⟨_, rfl⟩
  have qv3 : v3.toInt = (zI σ0 this 17).toInt := by rw [ev3]
  have b4 : isB v3 := by have q9 : isB (zI σ0 this 17) := hT.P (hT.k t_this (by decide)) (by decide); rw [(hT.eI t_this (by decide) rfl ev3)] at q9; exact q9
  have b4t := isB_t b4
  have loop0 : ∀ (n9 : Nat)  (u : Int32) (H : Heap) (locs : List Loc) (sg : Gh) (ls : Array Slot), TS κ gH σ0 sg s H locs → (zI sg this 14 = u) → ((zI σ0 this 14).toInt ≤ u.toInt) → (u.toInt ≤ (zI σ0 this 13).toInt ∨ u.toInt = (zI σ0 this 14).toInt) → lv_has ls 1 [(0, .ref this)] → (703 - u.toInt) < n9 → tW p l e 0 0 κ s m #[.ref this] below meth c H locs Q9 (F0 m 0 ls []) := by
    intro n9
    induction n9 with
    | zero =>
      intro u H locs sg ls hT kthis_14 q1 q2 hl hm9
      exfalso
      omega
    | succ n9 ih9 =>
      have ih0 := ih9
      clear ih9
      intro u H locs s5 ls hT kthis_14 q1 q2 hl hm9
      refine lv_aload_n hx hb dX6_here_0 rfl (lv_at hl 0 rfl) ?_
      refine va_get (D := κ.1) (ci := 6) (v := .int (zI s5 this 14)) (C := RX6) (T := TX6) (N := 27) hx hb hg inX6 hown hK (hT.o20 (hT.k t_this (by decide))).one 0 rfl rfl 14 (by decide) (hg _ k1233) (fun _ h9 => h9) rfl dX6_here_1 ?_
      rw [kthis_14]
      refine lv_aload_n hx hb dX6_here_4 rfl (lv_at hl 0 rfl) ?_
      refine va_get (D := κ.1) (ci := 6) (v := .int (zI s5 this 13)) (C := RX6) (T := TX6) (N := 27) hx hb hg inX6 hown hK (hT.o20 (hT.k t_this (by decide))).one 0 rfl rfl 13 (by decide) (hg _ k1232) (fun _ h9 => h9) rfl dX6_here_5 ?_
      rw [(hT.eI t_this (by decide) rfl ev1)]
      refine lv_icmp_ge (tgt := 52) hx hb dX6_here_8 (by decide) (fun c9 => ?_) (fun c9 => ?_)
      · have c1 := gi_le c9
        refine lv_aload_n hx hb dX6_here_52 rfl (lv_at hl 0 rfl) ?_
        refine va_get (D := κ.1) (ci := 6) (v := .int (zI s5 this 14)) (C := RX6) (T := TX6) (N := 27) hx hb hg inX6 hown hK (hT.o20 (hT.k t_this (by decide))).one 0 rfl rfl 14 (by decide) (hg _ k1233) (fun _ h9 => h9) rfl dX6_here_53 ?_
        rw [kthis_14]
        refine lv_aload_n hx hb dX6_here_56 rfl (lv_at hl 0 rfl) ?_
        refine va_get (D := κ.1) (ci := 6) (v := .int (zI s5 this 13)) (C := RX6) (T := TX6) (N := 27) hx hb hg inX6 hown hK (hT.o20 (hT.k t_this (by decide))).one 0 rfl rfl 13 (by decide) (hg _ k1232) (fun _ h9 => h9) rfl dX6_here_57 ?_
        rw [(hT.eI t_this (by decide) rfl ev1)]
        refine lv_icmp_ge (tgt := 75) hx hb dX6_here_60 (by decide) (fun c9 => ?_) (fun c9 => ?_)
        · have c2 := gi_le c9
          refine lv_iconst (v := (-1)) hx hb dX6_here_75 (by decide) ?_
          have zz6 : (zI s5 this 14).toInt = u.toInt := by rw [kthis_14]
          subst hQ9
          exact t_i hx hb hr hlocks hT ⟨by omega, by omega, by omega⟩ dX6_here_76
        · have c3 := gi_nle c9
          refine lv_aload_n hx hb dX6_here_63 rfl (lv_at hl 0 rfl) ?_
          obtain ⟨r7, er7⟩ : ∃ z, kR κ this 12 = z := ⟨_, rfl⟩
          have tr7 : zk σ0 r7 23 := by rw [← er7]; exact hT0.ref t_this (by decide) (by decide) (by decide)
          refine va_get (D := κ.1) (ci := 6) (v := .ref (kR κ this 12)) (C := RX6) (T := TX6) (N := 27) hx hb hg inX6 hown hK (hT.o20 (hT.k t_this (by decide))).one 0 rfl rfl 12 (by decide) (hg _ k1231) (fun _ h9 => h9) rfl dX6_here_64 ?_
          rw [er7]
          refine lv_aload_n hx hb dX6_here_67 rfl (lv_at hl 0 rfl) ?_
          refine va_get (D := κ.1) (ci := 6) (v := .int (zI s5 this 14)) (C := RX6) (T := TX6) (N := 27) hx hb hg inX6 hown hK (hT.o20 (hT.k t_this (by decide))).one 0 rfl rfl 14 (by decide) (hg _ k1233) (fun _ h9 => h9) rfl dX6_here_68 ?_
          rw [kthis_14]
          refine va_iald hx hb hK (hT.o23 (hT.k tr7 (by decide))).one 0 0 rfl rfl (g_in (by omega) (by omega)) dX6_here_71 ?_
          refine lv_topi (fun t8 ht8 => ?_)
          refine lv_goto (tgt := 76) hx hb dX6_here_72 (by decide) ?_
          have zz9 : (zI s5 this 14).toInt = u.toInt := by rw [kthis_14]
          subst hQ9
          exact t_i hx hb hr hlocks hT ⟨by omega, by omega, by omega⟩ dX6_here_76
      · have c4 := gi_nle c9
        refine lv_aload_n hx hb dX6_here_11 rfl (lv_at hl 0 rfl) ?_
        obtain ⟨r10, er10⟩ : ∃ z, kR κ this 12 = z := ⟨_, rfl⟩
        have tr10 : zk σ0 r10 23 := by rw [← er10]; exact hT0.ref t_this (by decide) (by decide) (by decide)
        refine va_get (D := κ.1) (ci := 6) (v := .ref (kR κ this 12)) (C := RX6) (T := TX6) (N := 27) hx hb hg inX6 hown hK (hT.o20 (hT.k t_this (by decide))).one 0 rfl rfl 12 (by decide) (hg _ k1231) (fun _ h9 => h9) rfl dX6_here_12 ?_
        rw [er10]
        refine lv_aload_n hx hb dX6_here_15 rfl (lv_at hl 0 rfl) ?_
        refine va_get (D := κ.1) (ci := 6) (v := .int (zI s5 this 14)) (C := RX6) (T := TX6) (N := 27) hx hb hg inX6 hown hK (hT.o20 (hT.k t_this (by decide))).one 0 rfl rfl 14 (by decide) (hg _ k1233) (fun _ h9 => h9) rfl dX6_here_16 ?_
        rw [kthis_14]
        refine va_iald hx hb hK (hT.o23 (hT.k tr10 (by decide))).one 0 0 rfl rfl (g_in (by omega) (by omega)) dX6_here_19 ?_
        refine lv_topi (fun t11 ht11 => ?_)
        refine lv_bipush (v := 32) hx hb dX6_here_20 (by decide) ?_
        refine lv_icmp_eq (tgt := 39) hx hb dX6_here_22 (by decide) (fun c9 => ?_) (fun c9 => ?_)
        · have c5 := gi_eq c9
          refine lv_aload_n hx hb dX6_here_39 rfl (lv_at hl 0 rfl) ?_
          refine lv_dup hx hb dX6_here_40 rfl ?_
          refine va_get (D := κ.1) (ci := 6) (v := .int (zI s5 this 14)) (C := RX6) (T := TX6) (N := 27) hx hb hg inX6 hown hK (hT.o20 (hT.k t_this (by decide))).one 0 rfl rfl 14 (by decide) (hg _ k1233) (fun _ h9 => h9) rfl dX6_here_41 ?_
          rw [kthis_14]
          refine lv_iconst (v := 1) hx hb dX6_here_44 (by decide) ?_
          refine lv_iadd hx hb dX6_here_45 ?_
          first | refine g_add (by omega) (by omega) (fun t12 ht12 => ?_) | refine lv_topi (fun t12 ht12 => ?_)
          have hTo := hT
          refine pf20_14 hx hb hg hown hK hT (hT.k t_this (by decide)) rfl (hg _ k1233) dX6_here_46 (fun H locs s13 hus13 hT => ?_)
          have e14 : zI s13 this 14 = t12 := zput_at hus13
          refine lv_goto (tgt := 0) hx hb dX6_here_49 (by decide) ?_
          exact ih0 t12 _ _ _ _ hT e14 (by omega) (by omega) hl (by omega)
        · have c6 := gi_ne c9
          refine lv_aload_n hx hb dX6_here_25 rfl (lv_at hl 0 rfl) ?_
          refine va_get (D := κ.1) (ci := 6) (v := .ref (kR κ this 12)) (C := RX6) (T := TX6) (N := 27) hx hb hg inX6 hown hK (hT.o20 (hT.k t_this (by decide))).one 0 rfl rfl 12 (by decide) (hg _ k1231) (fun _ h9 => h9) rfl dX6_here_26 ?_
          rw [er10]
          refine lv_aload_n hx hb dX6_here_29 rfl (lv_at hl 0 rfl) ?_
          refine va_get (D := κ.1) (ci := 6) (v := .int (zI s5 this 14)) (C := RX6) (T := TX6) (N := 27) hx hb hg inX6 hown hK (hT.o20 (hT.k t_this (by decide))).one 0 rfl rfl 14 (by decide) (hg _ k1233) (fun _ h9 => h9) rfl dX6_here_30 ?_
          rw [kthis_14]
          refine va_iald hx hb hK (hT.o23 (hT.k tr10 (by decide))).one 0 0 rfl rfl (g_in (by omega) (by omega)) dX6_here_33 ?_
          refine lv_topi (fun t15 ht15 => ?_)
          refine lv_bipush (v := 10) hx hb dX6_here_34 (by decide) ?_
          refine lv_icmp_ne (tgt := 52) hx hb dX6_here_36 (by decide) (fun c9 => ?_) (fun c9 => ?_)
          · have c7 := gi_ne c9
            refine lv_aload_n hx hb dX6_here_52 rfl (lv_at hl 0 rfl) ?_
            refine va_get (D := κ.1) (ci := 6) (v := .int (zI s5 this 14)) (C := RX6) (T := TX6) (N := 27) hx hb hg inX6 hown hK (hT.o20 (hT.k t_this (by decide))).one 0 rfl rfl 14 (by decide) (hg _ k1233) (fun _ h9 => h9) rfl dX6_here_53 ?_
            rw [kthis_14]
            refine lv_aload_n hx hb dX6_here_56 rfl (lv_at hl 0 rfl) ?_
            refine va_get (D := κ.1) (ci := 6) (v := .int (zI s5 this 13)) (C := RX6) (T := TX6) (N := 27) hx hb hg inX6 hown hK (hT.o20 (hT.k t_this (by decide))).one 0 rfl rfl 13 (by decide) (hg _ k1232) (fun _ h9 => h9) rfl dX6_here_57 ?_
            rw [(hT.eI t_this (by decide) rfl ev1)]
            refine lv_icmp_ge (tgt := 75) hx hb dX6_here_60 (by decide) (fun c9 => ?_) (fun c9 => ?_)
            · have c8 := gi_le c9
              refine lv_iconst (v := (-1)) hx hb dX6_here_75 (by decide) ?_
              have zz16 : (zI s5 this 14).toInt = u.toInt := by rw [kthis_14]
              subst hQ9
              exact t_i hx hb hr hlocks hT ⟨by omega, by omega, by omega⟩ dX6_here_76
            · have c9 := gi_nle c9
              refine lv_aload_n hx hb dX6_here_63 rfl (lv_at hl 0 rfl) ?_
              refine va_get (D := κ.1) (ci := 6) (v := .ref (kR κ this 12)) (C := RX6) (T := TX6) (N := 27) hx hb hg inX6 hown hK (hT.o20 (hT.k t_this (by decide))).one 0 rfl rfl 12 (by decide) (hg _ k1231) (fun _ h9 => h9) rfl dX6_here_64 ?_
              rw [er10]
              refine lv_aload_n hx hb dX6_here_67 rfl (lv_at hl 0 rfl) ?_
              refine va_get (D := κ.1) (ci := 6) (v := .int (zI s5 this 14)) (C := RX6) (T := TX6) (N := 27) hx hb hg inX6 hown hK (hT.o20 (hT.k t_this (by decide))).one 0 rfl rfl 14 (by decide) (hg _ k1233) (fun _ h9 => h9) rfl dX6_here_68 ?_
              rw [kthis_14]
              refine va_iald hx hb hK (hT.o23 (hT.k tr10 (by decide))).one 0 0 rfl rfl (g_in (by omega) (by omega)) dX6_here_71 ?_
              refine lv_topi (fun t17 ht17 => ?_)
              refine lv_goto (tgt := 76) hx hb dX6_here_72 (by decide) ?_
              have zz18 : (zI s5 this 14).toInt = u.toInt := by rw [kthis_14]
              subst hQ9
              exact t_i hx hb hr hlocks hT ⟨by omega, by omega, by omega⟩ dX6_here_76
          · have c10 := gi_eq c9
            refine lv_aload_n hx hb dX6_here_39 rfl (lv_at hl 0 rfl) ?_
            refine lv_dup hx hb dX6_here_40 rfl ?_
            refine va_get (D := κ.1) (ci := 6) (v := .int (zI s5 this 14)) (C := RX6) (T := TX6) (N := 27) hx hb hg inX6 hown hK (hT.o20 (hT.k t_this (by decide))).one 0 rfl rfl 14 (by decide) (hg _ k1233) (fun _ h9 => h9) rfl dX6_here_41 ?_
            rw [kthis_14]
            refine lv_iconst (v := 1) hx hb dX6_here_44 (by decide) ?_
            refine lv_iadd hx hb dX6_here_45 ?_
            first | refine g_add (by omega) (by omega) (fun t19 ht19 => ?_) | refine lv_topi (fun t19 ht19 => ?_)
            have hTo := hT
            refine pf20_14 hx hb hg hown hK hT (hT.k t_this (by decide)) rfl (hg _ k1233) dX6_here_46 (fun H locs s20 hus20 hT => ?_)
            have e21 : zI s20 this 14 = t19 := zput_at hus20
            refine lv_goto (tgt := 0) hx hb dX6_here_49 (by decide) ?_
            exact ih0 t19 _ _ _ _ hT e21 (by omega) (by omega) hl (by omega)
  exact loop0 ((703 - v2.toInt).toNat + 1) v2 _ _ _ _ hT ev2 (by omega) (by omega) hl (by omega)
set_option maxHeartbeats 4000000 in
set_option maxRecDepth 100000 in
theorem X6_wordEnd (l : Launch) (κ : Kt) (σ0 : Gh) (this : Nat) (t_this : zk σ0 this 20) (h0 : 0 ≤ (zI σ0 this 13).toInt) (h1 : (zI σ0 this 13).toInt ≤ 700) (h2 : 0 ≤ (zI σ0 this 14).toInt) (h3 : (zI σ0 this 14).toInt ≤ 702) : TC l yX6_wordEnd cX6_wordEnd 2 (some .int) 1 25 [.ref this] κ σ0 (tqi κ fE σ0 (fun (r : Int32) (τ : Gh) => ((zI σ0 this 14).toInt ≤ r.toInt) ∧ (r.toInt ≤ (zI σ0 this 13).toInt ∨ r.toInt = (zI σ0 this 14).toInt))) := by
  refine TC.of fE (by decide +kernel) (Nat.le_of_ble_eq_true rfl) ?_
  intro p e s m below meth c ls hcs hK hX hT hl
  obtain ⟨hx, hb, hr, hml, hown, hg, hlocks, hin⟩ := hcs
  have hown : s.vm.findClass RX6 = some m.cls := hown
  have hl : lv_has ls 2 [(0, .ref this)] := hl
  have hT0 := hT
  have n0 : (0 : Int32).toInt = 0 := by decide
  have j97 : (97 : Int64).toInt = 97 := by decide
  have j122 : (122 : Int64).toInt = 122 := by decide
  generalize hQ9 : tQ _ _ _ _ _ _ = Q9
  obtain ⟨v1, ev1⟩ : ∃ zz9 : Int32, zI σ0 this 13 = zz9 := ⟨_, rfl⟩
  have qv1 : v1.toInt = (zI σ0 this 13).toInt := by rw [ev1]
  obtain ⟨v2, ev2⟩ : ∃ zz9 : Int32, zI σ0 this 14 = zz9 := ⟨_, rfl⟩
  have qv2 : v2.toInt = (zI σ0 this 14).toInt := by rw [ev2]
  obtain ⟨v3, ev3⟩ : ∃ zz9 : Int32, zI σ0 this 17 = zz9 := ⟨_, rfl⟩
  have qv3 : v3.toInt = (zI σ0 this 17).toInt := by rw [ev3]
  have b4 : isB v3 := by have q9 : isB (zI σ0 this 17) := hT.P (hT.k t_this (by decide)) (by decide); rw [(hT.eI t_this (by decide) rfl ev3)] at q9; exact q9
  have b4t := isB_t b4
  refine lv_aload_n hx hb dX6_wordEnd_0 rfl (lv_at hl 0 rfl) ?_
  refine va_get (D := κ.1) (ci := 6) (v := .int (zI σ0 this 14)) (C := RX6) (T := TX6) (N := 27) hx hb hg inX6 hown hK (hT.o20 (hT.k t_this (by decide))).one 0 rfl rfl 14 (by decide) (hg _ k1233) (fun _ h9 => h9) rfl dX6_wordEnd_1 ?_
  rw [(hT.eI t_this (by decide) rfl ev2)]
  refine lv_istore_n (lv' := [(1, .int v2), (0, .ref this)]) hx hb dX6_wordEnd_4 rfl hl (by decide) rfl (fun ls hl => ?_)
  have loop5 : ∀ (n9 : Nat) (n : Int32) (H : Heap) (locs : List Loc) (sg : Gh) (ls : Array Slot), TS κ fE σ0 sg s H locs → ((zI σ0 this 14).toInt ≤ n.toInt) → (n.toInt ≤ (zI σ0 this 13).toInt ∨ n.toInt = (zI σ0 this 14).toInt) → lv_has ls 2 [(1, .int n), (0, .ref this)] → (703 - n.toInt) < n9 → tW p l e 1 25 κ s m #[.ref this] below meth c H locs Q9 (F0 m 5 ls []) := by
    intro n9
    induction n9 with
    | zero =>
      intro n H locs sg ls hT q1 q2 hl hm9
      exfalso
      omega
    | succ n9 ih9 =>
      have ih5 := ih9
      clear ih9
      intro n H locs s5 ls hT q1 q2 hl hm9
      refine lv_iload_n hx hb dX6_wordEnd_5 rfl (lv_at hl 0 rfl) ?_
      refine lv_aload_n hx hb dX6_wordEnd_6 rfl (lv_at hl 1 rfl) ?_
      refine va_get (D := κ.1) (ci := 6) (v := .int (zI s5 this 13)) (C := RX6) (T := TX6) (N := 27) hx hb hg inX6 hown hK (hT.o20 (hT.k t_this (by decide))).one 0 rfl rfl 13 (by decide) (hg _ k1232) (fun _ h9 => h9) rfl dX6_wordEnd_7 ?_
      rw [(hT.eI t_this (by decide) rfl ev1)]
      refine lv_icmp_ge (tgt := 38) hx hb dX6_wordEnd_10 (by decide) (fun c9 => ?_) (fun c9 => ?_)
      · have c1 := gi_le c9
        refine lv_iload_n hx hb dX6_wordEnd_38 rfl (lv_at hl 0 rfl) ?_
        subst hQ9
        exact t_i hx hb hr hlocks hT ⟨by omega, by omega⟩ dX6_wordEnd_39
      · have c2 := gi_nle c9
        refine lv_aload_n hx hb dX6_wordEnd_13 rfl (lv_at hl 1 rfl) ?_
        obtain ⟨r6, er6⟩ : ∃ z, kR κ this 12 = z := ⟨_, rfl⟩
        have tr6 : zk σ0 r6 23 := by rw [← er6]; exact hT0.ref t_this (by decide) (by decide) (by decide)
        refine va_get (D := κ.1) (ci := 6) (v := .ref (kR κ this 12)) (C := RX6) (T := TX6) (N := 27) hx hb hg inX6 hown hK (hT.o20 (hT.k t_this (by decide))).one 0 rfl rfl 12 (by decide) (hg _ k1231) (fun _ h9 => h9) rfl dX6_wordEnd_14 ?_
        rw [er6]
        refine lv_iload_n hx hb dX6_wordEnd_17 rfl (lv_at hl 0 rfl) ?_
        refine va_iald hx hb hK (hT.o23 (hT.k tr6 (by decide))).one 0 0 rfl rfl (g_in (by omega) (by omega)) dX6_wordEnd_18 ?_
        refine lv_topi (fun t7 ht7 => ?_)
        refine lv_i2l hx hb dX6_wordEnd_19 rfl ?_
        refine g_i2l (fun t8 ht8 => ?_)
        refine lv_ldc2 hx hb hown (hg _ k1353) dX6_wordEnd_20 ?_
        refine lv_ldc2 hx hb hown (hg _ k1354) dX6_wordEnd_23 ?_
        have hTo := hT
        refine tSi (n := 3) (As := [.long t8, .long 97, .long 122]) (rest := []) hx hb hml hown hg hT hK hX (X6_in l κ s5 t8 97 122   ) (fun _ _ h => h) (mwS k1317 k1318 k92 k1319) ⟨rfl, by decide, by decide, by decide +kernel⟩ ⟨(Nat.le_of_ble_eq_true rfl), (Nat.le_of_ble_eq_true rfl)⟩ rfl hl.1 rfl (Nat.le_of_ble_eq_true rfl) dX6_wordEnd_26 zroom.rf (fun x9 s10 H locs hφ hEs10 hT => ?_)
        obtain ⟨f11, f12⟩ := hφ
        refine lv_if_eq (tgt := 38) hx hb dX6_wordEnd_29 (by decide) (fun c9 => ?_) (fun c9 => ?_)
        · have c3 := gi_eq c9
          refine lv_iload_n hx hb dX6_wordEnd_38 rfl (lv_at hl 0 rfl) ?_
          subst hQ9
          exact t_i hx hb hr hlocks hT ⟨by omega, by omega⟩ dX6_wordEnd_39
        · have c4 := gi_ne c9
          obtain ⟨t13, qt13⟩ : ∃ zz9 : Int32, n + Int32.ofInt 1 = zz9 := ⟨_, rfl⟩
          refine lv_iinc (v := t13) (lv' := [(1, .int t13), (0, .ref this)]) hx hb dX6_wordEnd_32 hl (k := 0) rfl qt13 (by decide) rfl (fun ls hl => ?_)
          have ht13 : t13.toInt = n.toInt + 1 := by rw [← qt13]; exact v_addi rfl (show (Int32.ofInt 1).toInt = 1 from by decide) (by omega) (by omega)
          refine lv_goto (tgt := 5) hx hb dX6_wordEnd_35 (by decide) ?_
          exact ih5 t13 _ _ _ _ hT  (by omega) (by omega) hl (by omega)
  exact loop5 ((703 - v2.toInt).toNat + 1) v2 _ _ _ _ hT  (by omega) (by omega) hl (by omega)
set_option maxHeartbeats 4000000 in
set_option maxRecDepth 100000 in
theorem X6_wrong (l : Launch) (κ : Kt) (σ0 : Gh) (this : Nat) (co : Int32) (po : Int32) (t_this : zk σ0 this 20) : TC l yX6_wrong cX6_wrong 3 none 0 0 [.ref this, .int co, .int po] κ σ0 (tqv κ gB σ0 (fun (τ : Gh) => ((zI τ this 17).toInt = 1))) := by
  refine TC.of gB (by decide +kernel) (Nat.le_of_ble_eq_true rfl) ?_
  intro p e s m below meth c ls hcs hK hX hT hl
  obtain ⟨hx, hb, hr, hml, hown, hg, hlocks, hin⟩ := hcs
  have hown : s.vm.findClass RX6 = some m.cls := hown
  have hl : lv_has ls 3 [(0, .ref this), (1, .int co), (2, .int po)] := hl
  have hT0 := hT
  have n0 : (0 : Int32).toInt = 0 := by decide
  have n1 : (1 : Int32).toInt = 1 := by decide
  have co_lo := Int32.le_toInt co
  have co_hi := Int32.toInt_lt co
  have po_lo := Int32.le_toInt po
  have po_hi := Int32.toInt_lt po
  generalize hQ9 : tQ _ _ _ _ _ _ = Q9
  obtain ⟨v1, ev1⟩ : ∃ zz9 : Int32, zI σ0 this 17 = zz9 := ⟨_, rfl⟩
  have qv1 : v1.toInt = (zI σ0 this 17).toInt := by rw [ev1]
  have b2 : isB v1 := by have q9 : isB (zI σ0 this 17) := hT.P (hT.k t_this (by decide)) (by decide); rw [ev1] at q9; exact q9
  have b2t := isB_t b2
  refine lv_aload_n hx hb dX6_wrong_0 rfl (lv_at hl 0 rfl) ?_
  refine va_get (D := κ.1) (ci := 6) (v := .int (zI σ0 this 17)) (C := RX6) (T := TX6) (N := 27) hx hb hg inX6 hown hK (hT.o20 (hT.k t_this (by decide))).one 0 rfl rfl 17 (by decide) (hg _ k1236) (fun _ h9 => h9) rfl dX6_wrong_1 ?_
  rw [ev1]
  refine lv_if_eq (tgt := 8) hx hb dX6_wrong_4 (by decide) (fun c9 => ?_) (fun c9 => ?_)
  · have c1 := gi_eq c9
    refine lv_aload_n hx hb dX6_wrong_8 rfl (lv_at hl 0 rfl) ?_
    refine lv_iconst (v := 1) hx hb dX6_wrong_9 (by decide) ?_
    have hTo := hT
    refine pf20_17 hx hb hg hown hK hT (hT.k t_this (by decide)) rfl isB1 (hg _ k1236) dX6_wrong_10 (fun H locs s3 hus3 hT => ?_)
    have e4 : zI s3 this 17 = 1 := zput_at hus3
    refine lv_aload_n hx hb dX6_wrong_13 rfl (lv_at hl 0 rfl) ?_
    refine lv_iload_n hx hb dX6_wrong_14 rfl (lv_at hl 1 rfl) ?_
    have hTo := hT
    refine pf20_15 hx hb hg hown hK hT (hT.k t_this (by decide)) rfl (hg _ k1234) dX6_wrong_15 (fun H locs s5 hus5 hT => ?_)
    have e4 : zI s5 this 17 = 1 := (zput_o hus5 (Or.inr (by decide))).trans e4
    have e6 : zI s5 this 15 = co := zput_at hus5
    refine lv_aload_n hx hb dX6_wrong_18 rfl (lv_at hl 0 rfl) ?_
    refine lv_iload_n hx hb dX6_wrong_19 rfl (lv_at hl 2 rfl) ?_
    have hTo := hT
    refine pf20_16 hx hb hg hown hK hT (hT.k t_this (by decide)) rfl (hg _ k1235) dX6_wrong_20 (fun H locs s7 hus7 hT => ?_)
    have e4 : zI s7 this 17 = 1 := (zput_o hus7 (Or.inr (by decide))).trans e4
    have e6 : zI s7 this 15 = co := (zput_o hus7 (Or.inr (by decide))).trans e6
    have e8 : zI s7 this 16 = po := zput_at hus7
    have zz9 : (zI s7 this 17).toInt = (1 : Int32).toInt := by rw [e4]
    subst hQ9
    exact t_v hx hb hr hlocks hT (by omega) dX6_wrong_23
  · have c2 := gi_ne c9
    have zz10 : (zI σ0 this 17).toInt = v1.toInt := by rw [ev1]
    subst hQ9
    exact t_v hx hb hr hlocks hT (by omega) dX6_wrong_7
set_option maxHeartbeats 4000000 in
set_option maxRecDepth 100000 in
theorem X6_word (l : Launch) (κ : Kt) (σ0 : Gh) (this : Nat) (t_this : zk σ0 this 20) (h0 : 0 ≤ (zI σ0 this 13).toInt) (h1 : (zI σ0 this 13).toInt ≤ 700) (h2 : 0 ≤ (zI σ0 this 14).toInt) (h3 : (zI σ0 this 14).toInt ≤ 702) : TC l yX6_word cX6_word 5 (some .long) 2 46 [.ref this] κ σ0 (tql κ gH σ0 (fun (r : Int64) (τ : Gh) => ((zI σ0 this 14).toInt ≤ (zI τ this 14).toInt) ∧ ((zI τ this 14).toInt ≤ (zI σ0 this 13).toInt ∨ (zI τ this 14).toInt = (zI σ0 this 14).toInt))) := by
  refine TC.of gH (by decide +kernel) (Nat.le_of_ble_eq_true rfl) ?_
  intro p e s m below meth c ls hcs hK hX hT hl
  obtain ⟨hx, hb, hr, hml, hown, hg, hlocks, hin⟩ := hcs
  have hown : s.vm.findClass RX6 = some m.cls := hown
  have hl : lv_has ls 5 [(0, .ref this)] := hl
  have hT0 := hT
  have nm1 : ((-1) : Int32).toInt = (-1) := by decide
  have n7 : (7 : Int32).toInt = 7 := by decide
  have j0 : (0 : Int64).toInt = 0 := by decide
  have j27 : (27 : Int64).toInt = 27 := by decide
  have j96 : (96 : Int64).toInt = 96 := by decide
  generalize hQ9 : tQ _ _ _ _ _ _ = Q9
  obtain ⟨v1, ev1⟩ : ∃ zz9 : Int32, zI σ0 this 13 = zz9 := ⟨_, rfl⟩
  have qv1 : v1.toInt = (zI σ0 this 13).toInt := by rw [ev1]
  obtain ⟨v2, ev2⟩ : ∃ zz9 : Int32, zI σ0 this 14 = zz9 := ⟨_, rfl⟩
  have qv2 : v2.toInt = (zI σ0 this 14).toInt := by rw [ev2]
  obtain ⟨v3, ev3⟩ : ∃ zz9 : Int32, zI σ0 this 17 = zz9 := ⟨_, rfl⟩
  have qv3 : v3.toInt = (zI σ0 this 17).toInt := by rw [ev3]
  have b4 : isB v3 := by have q9 : isB (zI σ0 this 17) := hT.P (hT.k t_this (by decide)) (by decide); rw [(hT.eI t_this (by decide) rfl ev3)] at q9; exact q9
  have b4t := isB_t b4
  refine lv_lconst (v := 0) hx hb dX6_word_0 (by decide) ?_
  refine lv_lstore_n (lv' := [(1, .long 0), (0, .ref this)]) hx hb dX6_word_1 rfl hl (by decide) rfl (fun ls hl => ?_)
  refine lv_aload_n hx hb dX6_word_2 rfl (lv_at hl 1 rfl) ?_
  have qq5 : (zI σ0 this 13).toInt = v1.toInt := by rw [(hT.eI t_this (by decide) rfl ev1)]
  have qq6 : (zI σ0 this 14).toInt = v2.toInt := by rw [ev2]
  have qq7 : (zI σ0 this 17).toInt = v3.toInt := by rw [(hT.eI t_this (by decide) rfl ev3)]
  have hTo := hT
  refine tVi (n := 0) (As := []) (rest := []) hx hb hml hown hg hT hK hX (X6_here l κ σ0 this  (hT.k t_this (by decide)) (by omega) (by omega) (by omega) (by omega)) (fun _ _ h => h) (mwV k1345 k1347 k42 k92 k1348) ⟨rfl, by decide, by decide, by decide +kernel⟩ ⟨(Nat.le_of_ble_eq_true rfl), (Nat.le_of_ble_eq_true rfl)⟩ (hT.o20 (hT.k t_this (by decide))) rfl rfl hl.1 rfl (Nat.le_of_ble_eq_true rfl) dX6_word_3 zroom.rf (fun x8 s9 H locs hφ hEs9 hT => ?_)
  obtain ⟨f10, f11, f12⟩ := hφ
  obtain ⟨v13, ev13⟩ : ∃ zz9 : Int32, zI s9 this 14 = zz9 := ⟨_, rfl⟩
  have qv13 : v13.toInt = (zI s9 this 14).toInt := by rw [ev13]
  refine lv_iconst (v := (-1)) hx hb dX6_word_6 (by decide) ?_
  refine lv_icmp_ne (tgt := 17) hx hb dX6_word_7 (by decide) (fun c9 => ?_) (fun c9 => ?_)
  · have c1 := gi_ne c9
    refine lv_aload_n hx hb dX6_word_17 rfl (lv_at hl 1 rfl) ?_
    have qq14 : (zI s9 this 13).toInt = v1.toInt := by rw [(hT.eI t_this (by decide) rfl ev1)]
    have qq15 : (zI s9 this 14).toInt = v13.toInt := by rw [ev13]
    have qq16 : (zI s9 this 17).toInt = v3.toInt := by rw [(hT.eI t_this (by decide) rfl ev3)]
    have hTo := hT
    refine tVi (n := 0) (As := []) (rest := []) hx hb hml hown hg hT hK hX (X6_wordEnd l κ s9 this  (hT.k t_this (by decide)) (by omega) (by omega) (by omega) (by omega)) sub_fE_gH (mwV k1349 k1351 k43 k92 k1352) ⟨rfl, by decide, by decide, by decide +kernel⟩ ⟨(Nat.le_of_ble_eq_true rfl), (Nat.le_of_ble_eq_true rfl)⟩ (hT.o20 (hT.k t_this (by decide))) rfl rfl hl.1 rfl (Nat.le_of_ble_eq_true rfl) dX6_word_18 zroom.rf (fun x17 s18 H locs hφ hEs18 hT => ?_)
    have ev13 : zI s18 this 14 = v13 := ((hTo.k t_this (by decide)).eI hEs18 (by decide) rfl).trans ev13
    obtain ⟨f19, f20⟩ := hφ
    refine lv_istore_n (lv' := [(3, .int x17), (1, .long 0), (0, .ref this)]) hx hb dX6_word_21 rfl hl (by decide) rfl (fun ls hl => ?_)
    refine lv_aload_n hx hb dX6_word_22 rfl (lv_at hl 2 rfl) ?_
    refine va_get (D := κ.1) (ci := 6) (v := .int (zI s18 this 14)) (C := RX6) (T := TX6) (N := 27) hx hb hg inX6 hown hK (hT.o20 (hT.k t_this (by decide))).one 0 rfl rfl 14 (by decide) (hg _ k1233) (fun _ h9 => h9) rfl dX6_word_23 ?_
    rw [ev13]
    refine lv_istore (lv' := [(4, .int v13), (3, .int x17), (1, .long 0), (0, .ref this)]) hx hb dX6_word_26 hl (by decide) rfl (fun ls hl => ?_)
    have loop28 : ∀ (n9 : Nat) (v : Int64) (k : Int32) (H : Heap) (locs : List Loc) (sg : Gh) (ls : Array Slot), TS κ gH σ0 sg s H locs → (zI sg this 14 = v13) → ((v13 : Int32).toInt ≤ k.toInt) → (k.toInt ≤ 702) → lv_has ls 5 [(1, .long v), (4, .int k), (3, .int x17), (0, .ref this)] → (703 - k.toInt) < n9 → tW p l e 2 46 κ s m #[.ref this] below meth c H locs Q9 (F0 m 28 ls []) := by
      intro n9
      induction n9 with
      | zero =>
        intro v k H locs sg ls hT kthis_14 q1 q2 hl hm9
        exfalso
        omega
      | succ n9 ih9 =>
        have ih28 := ih9
        clear ih9
        intro v k H locs s21 ls hT kthis_14 q1 q2 hl hm9
        refine lv_iload hx hb dX6_word_28 (lv_at hl 1 rfl) ?_
        refine lv_iload_n hx hb dX6_word_30 rfl (lv_at hl 2 rfl) ?_
        refine lv_icmp_ge (tgt := 74) hx hb dX6_word_31 (by decide) (fun c9 => ?_) (fun c9 => ?_)
        · have c2 := gi_le c9
          refine lv_lload_n hx hb dX6_word_74 rfl (lv_at hl 0 rfl) ?_
          have zz22 : (zI s21 this 14).toInt = v13.toInt := by rw [kthis_14]
          subst hQ9
          exact t_l hx hb hr hlocks hT ⟨by omega, by omega⟩ dX6_word_75
        · have c3 := gi_nle c9
          refine lv_iload_n hx hb dX6_word_34 rfl (lv_at hl 2 rfl) ?_
          refine lv_aload_n hx hb dX6_word_35 rfl (lv_at hl 3 rfl) ?_
          refine va_get (D := κ.1) (ci := 6) (v := .int (zI s21 this 14)) (C := RX6) (T := TX6) (N := 27) hx hb hg inX6 hown hK (hT.o20 (hT.k t_this (by decide))).one 0 rfl rfl 14 (by decide) (hg _ k1233) (fun _ h9 => h9) rfl dX6_word_36 ?_
          rw [kthis_14]
          refine lv_isub hx hb dX6_word_39 ?_
          first | refine g_sub (by omega) (by omega) (fun t23 ht23 => ?_) | refine lv_topi (fun t23 ht23 => ?_)
          refine lv_bipush (v := 7) hx hb dX6_word_40 (by decide) ?_
          refine lv_icmp_le (tgt := 49) hx hb dX6_word_42 (by decide) (fun c9 => ?_) (fun c9 => ?_)
          · have c4 := gi_le c9
            refine lv_ldc2 hx hb hown (hg _ k1355) dX6_word_49 ?_
            refine lv_lload_n hx hb dX6_word_52 rfl (lv_at hl 0 rfl) ?_
            refine lv_lmul hx hb dX6_word_53 ?_
            refine lv_topl (fun t24 ht24 => ?_)
            refine lv_aload_n hx hb dX6_word_54 rfl (lv_at hl 3 rfl) ?_
            obtain ⟨r25, er25⟩ : ∃ z, kR κ this 12 = z := ⟨_, rfl⟩
            have tr25 : zk σ0 r25 23 := by rw [← er25]; exact hT0.ref t_this (by decide) (by decide) (by decide)
            refine va_get (D := κ.1) (ci := 6) (v := .ref (kR κ this 12)) (C := RX6) (T := TX6) (N := 27) hx hb hg inX6 hown hK (hT.o20 (hT.k t_this (by decide))).one 0 rfl rfl 12 (by decide) (hg _ k1231) (fun _ h9 => h9) rfl dX6_word_55 ?_
            rw [er25]
            refine lv_iload hx hb dX6_word_58 (lv_at hl 1 rfl) ?_
            refine va_iald hx hb hK (hT.o23 (hT.k tr25 (by decide))).one 0 0 rfl rfl (g_in (by omega) (by omega)) dX6_word_60 ?_
            refine lv_topi (fun t26 ht26 => ?_)
            refine lv_i2l hx hb dX6_word_61 rfl ?_
            refine g_i2l (fun t27 ht27 => ?_)
            refine lv_ladd hx hb dX6_word_62 ?_
            refine lv_topl (fun t28 ht28 => ?_)
            refine lv_ldc2 hx hb hown (hg _ k1356) dX6_word_63 ?_
            refine lv_lsub hx hb dX6_word_66 ?_
            refine lv_topl (fun t29 ht29 => ?_)
            refine lv_lstore_n (lv' := [(1, .long t29), (4, .int k), (3, .int x17), (0, .ref this)]) hx hb dX6_word_67 rfl hl (by decide) rfl (fun ls hl => ?_)
            obtain ⟨t30, qt30⟩ : ∃ zz9 : Int32, k + Int32.ofInt 1 = zz9 := ⟨_, rfl⟩
            refine lv_iinc (v := t30) (lv' := [(4, .int t30), (1, .long t29), (3, .int x17), (0, .ref this)]) hx hb dX6_word_68 hl (k := 1) rfl qt30 (by decide) rfl (fun ls hl => ?_)
            have ht30 : t30.toInt = k.toInt + 1 := by rw [← qt30]; exact v_addi rfl (show (Int32.ofInt 1).toInt = 1 from by decide) (by omega) (by omega)
            refine lv_goto (tgt := 28) hx hb dX6_word_71 (by decide) ?_
            exact ih28 t29 t30 _ _ _ _ hT kthis_14 (by omega) (by omega) (lv_sub hl [1, 0, 2, 3] rfl) (by omega)
          · have c5 := gi_nle c9
            refine lv_lconst (v := 0) hx hb dX6_word_45 (by decide) ?_
            refine lv_goto (tgt := 67) hx hb dX6_word_46 (by decide) ?_
            refine lv_lstore_n (lv' := [(1, .long 0), (4, .int k), (3, .int x17), (0, .ref this)]) hx hb dX6_word_67 rfl hl (by decide) rfl (fun ls hl => ?_)
            obtain ⟨t31, qt31⟩ : ∃ zz9 : Int32, k + Int32.ofInt 1 = zz9 := ⟨_, rfl⟩
            refine lv_iinc (v := t31) (lv' := [(4, .int t31), (1, .long 0), (3, .int x17), (0, .ref this)]) hx hb dX6_word_68 hl (k := 1) rfl qt31 (by decide) rfl (fun ls hl => ?_)
            have ht31 : t31.toInt = k.toInt + 1 := by rw [← qt31]; exact v_addi rfl (show (Int32.ofInt 1).toInt = 1 from by decide) (by omega) (by omega)
            refine lv_goto (tgt := 28) hx hb dX6_word_71 (by decide) ?_
            exact ih28 0 t31 _ _ _ _ hT kthis_14 (by omega) (by omega) (lv_sub hl [1, 0, 2, 3] rfl) (by omega)
    exact loop28 ((703 - v13.toInt).toNat + 1) 0 v13 _ _ _ _ hT ev13 (by omega) (by omega) (lv_sub hl [2, 0, 1, 3] rfl) (by omega)
  · have c6 := gi_eq c9
    refine lv_aload_n hx hb dX6_word_10 rfl (lv_at hl 1 rfl) ?_
    refine va_get (D := κ.1) (ci := 6) (v := .int (zI s9 this 14)) (C := RX6) (T := TX6) (N := 27) hx hb hg inX6 hown hK (hT.o20 (hT.k t_this (by decide))).one 0 rfl rfl 14 (by decide) (hg _ k1233) (fun _ h9 => h9) rfl dX6_word_11 ?_
    rw [ev13]
    refine lv_goto (tgt := 21) hx hb dX6_word_14 (by decide) ?_
    refine lv_istore_n (lv' := [(3, .int v13), (1, .long 0), (0, .ref this)]) hx hb dX6_word_21 rfl hl (by decide) rfl (fun ls hl => ?_)
    refine lv_aload_n hx hb dX6_word_22 rfl (lv_at hl 2 rfl) ?_
    refine va_get (D := κ.1) (ci := 6) (v := .int (zI s9 this 14)) (C := RX6) (T := TX6) (N := 27) hx hb hg inX6 hown hK (hT.o20 (hT.k t_this (by decide))).one 0 rfl rfl 14 (by decide) (hg _ k1233) (fun _ h9 => h9) rfl dX6_word_23 ?_
    rw [ev13]
    refine lv_istore (lv' := [(4, .int v13), (3, .int v13), (1, .long 0), (0, .ref this)]) hx hb dX6_word_26 hl (by decide) rfl (fun ls hl => ?_)
    have loop28 : ∀ (n9 : Nat) (v : Int64) (k : Int32) (H : Heap) (locs : List Loc) (sg : Gh) (ls : Array Slot), TS κ gH σ0 sg s H locs → (zI sg this 14 = v13) → ((v13 : Int32).toInt ≤ k.toInt) → (k.toInt ≤ 702) → lv_has ls 5 [(1, .long v), (4, .int k), (3, .int v13), (0, .ref this)] → (703 - k.toInt) < n9 → tW p l e 2 46 κ s m #[.ref this] below meth c H locs Q9 (F0 m 28 ls []) := by
      intro n9
      induction n9 with
      | zero =>
        intro v k H locs sg ls hT kthis_14 q1 q2 hl hm9
        exfalso
        omega
      | succ n9 ih9 =>
        have ih28 := ih9
        clear ih9
        intro v k H locs s32 ls hT kthis_14 q1 q2 hl hm9
        refine lv_iload hx hb dX6_word_28 (lv_at hl 1 rfl) ?_
        refine lv_iload_n hx hb dX6_word_30 rfl (lv_at hl 2 rfl) ?_
        refine lv_icmp_ge (tgt := 74) hx hb dX6_word_31 (by decide) (fun c9 => ?_) (fun c9 => ?_)
        · have c7 := gi_le c9
          refine lv_lload_n hx hb dX6_word_74 rfl (lv_at hl 0 rfl) ?_
          have zz33 : (zI s32 this 14).toInt = v13.toInt := by rw [kthis_14]
          subst hQ9
          exact t_l hx hb hr hlocks hT ⟨by omega, by omega⟩ dX6_word_75
        · have c8 := gi_nle c9
          refine lv_iload_n hx hb dX6_word_34 rfl (lv_at hl 2 rfl) ?_
          refine lv_aload_n hx hb dX6_word_35 rfl (lv_at hl 3 rfl) ?_
          refine va_get (D := κ.1) (ci := 6) (v := .int (zI s32 this 14)) (C := RX6) (T := TX6) (N := 27) hx hb hg inX6 hown hK (hT.o20 (hT.k t_this (by decide))).one 0 rfl rfl 14 (by decide) (hg _ k1233) (fun _ h9 => h9) rfl dX6_word_36 ?_
          rw [kthis_14]
          refine lv_isub hx hb dX6_word_39 ?_
          first | refine g_sub (by omega) (by omega) (fun t34 ht34 => ?_) | refine lv_topi (fun t34 ht34 => ?_)
          refine lv_bipush (v := 7) hx hb dX6_word_40 (by decide) ?_
          refine lv_icmp_le (tgt := 49) hx hb dX6_word_42 (by decide) (fun c9 => ?_) (fun c9 => ?_)
          · have c9 := gi_le c9
            refine lv_ldc2 hx hb hown (hg _ k1355) dX6_word_49 ?_
            refine lv_lload_n hx hb dX6_word_52 rfl (lv_at hl 0 rfl) ?_
            refine lv_lmul hx hb dX6_word_53 ?_
            refine lv_topl (fun t35 ht35 => ?_)
            refine lv_aload_n hx hb dX6_word_54 rfl (lv_at hl 3 rfl) ?_
            obtain ⟨r36, er36⟩ : ∃ z, kR κ this 12 = z := ⟨_, rfl⟩
            have tr36 : zk σ0 r36 23 := by rw [← er36]; exact hT0.ref t_this (by decide) (by decide) (by decide)
            refine va_get (D := κ.1) (ci := 6) (v := .ref (kR κ this 12)) (C := RX6) (T := TX6) (N := 27) hx hb hg inX6 hown hK (hT.o20 (hT.k t_this (by decide))).one 0 rfl rfl 12 (by decide) (hg _ k1231) (fun _ h9 => h9) rfl dX6_word_55 ?_
            rw [er36]
            refine lv_iload hx hb dX6_word_58 (lv_at hl 1 rfl) ?_
            refine va_iald hx hb hK (hT.o23 (hT.k tr36 (by decide))).one 0 0 rfl rfl (g_in (by omega) (by omega)) dX6_word_60 ?_
            refine lv_topi (fun t37 ht37 => ?_)
            refine lv_i2l hx hb dX6_word_61 rfl ?_
            refine g_i2l (fun t38 ht38 => ?_)
            refine lv_ladd hx hb dX6_word_62 ?_
            refine lv_topl (fun t39 ht39 => ?_)
            refine lv_ldc2 hx hb hown (hg _ k1356) dX6_word_63 ?_
            refine lv_lsub hx hb dX6_word_66 ?_
            refine lv_topl (fun t40 ht40 => ?_)
            refine lv_lstore_n (lv' := [(1, .long t40), (4, .int k), (3, .int v13), (0, .ref this)]) hx hb dX6_word_67 rfl hl (by decide) rfl (fun ls hl => ?_)
            obtain ⟨t41, qt41⟩ : ∃ zz9 : Int32, k + Int32.ofInt 1 = zz9 := ⟨_, rfl⟩
            refine lv_iinc (v := t41) (lv' := [(4, .int t41), (1, .long t40), (3, .int v13), (0, .ref this)]) hx hb dX6_word_68 hl (k := 1) rfl qt41 (by decide) rfl (fun ls hl => ?_)
            have ht41 : t41.toInt = k.toInt + 1 := by rw [← qt41]; exact v_addi rfl (show (Int32.ofInt 1).toInt = 1 from by decide) (by omega) (by omega)
            refine lv_goto (tgt := 28) hx hb dX6_word_71 (by decide) ?_
            exact ih28 t40 t41 _ _ _ _ hT kthis_14 (by omega) (by omega) (lv_sub hl [1, 0, 2, 3] rfl) (by omega)
          · have c10 := gi_nle c9
            refine lv_lconst (v := 0) hx hb dX6_word_45 (by decide) ?_
            refine lv_goto (tgt := 67) hx hb dX6_word_46 (by decide) ?_
            refine lv_lstore_n (lv' := [(1, .long 0), (4, .int k), (3, .int v13), (0, .ref this)]) hx hb dX6_word_67 rfl hl (by decide) rfl (fun ls hl => ?_)
            obtain ⟨t42, qt42⟩ : ∃ zz9 : Int32, k + Int32.ofInt 1 = zz9 := ⟨_, rfl⟩
            refine lv_iinc (v := t42) (lv' := [(4, .int t42), (1, .long 0), (3, .int v13), (0, .ref this)]) hx hb dX6_word_68 hl (k := 1) rfl qt42 (by decide) rfl (fun ls hl => ?_)
            have ht42 : t42.toInt = k.toInt + 1 := by rw [← qt42]; exact v_addi rfl (show (Int32.ofInt 1).toInt = 1 from by decide) (by omega) (by omega)
            refine lv_goto (tgt := 28) hx hb dX6_word_71 (by decide) ?_
            exact ih28 0 t42 _ _ _ _ hT kthis_14 (by omega) (by omega) (lv_sub hl [1, 0, 2, 3] rfl) (by omega)
    exact loop28 ((703 - v13.toInt).toNat + 1) 0 v13 _ _ _ _ hT ev13 (by omega) (by omega) (lv_sub hl [2, 0, 1, 3] rfl) (by omega)
set_option maxHeartbeats 4000000 in
set_option maxRecDepth 100000 in
theorem X6_isWord (l : Launch) (κ : Kt) (σ0 : Gh) (this : Nat) (nm : Int64) (t_this : zk σ0 this 20) (h0 : 0 ≤ (zI σ0 this 13).toInt) (h1 : (zI σ0 this 13).toInt ≤ 700) (h2 : 0 ≤ (zI σ0 this 14).toInt) (h3 : (zI σ0 this 14).toInt ≤ 702) : TC l yX6_isWord cX6_isWord 3 (some .boolean) 3 70 [.ref this, .long nm] κ σ0 (tqi κ gH σ0 (fun (r : Int32) (τ : Gh) => ((zI σ0 this 14).toInt ≤ (zI τ this 14).toInt) ∧ ((zI τ this 14).toInt ≤ (zI σ0 this 13).toInt ∨ (zI τ this 14).toInt = (zI σ0 this 14).toInt) ∧ (r.toInt = 0 ∨ (zI σ0 this 17).toInt = 0) ∧ (isB r))) := by
  refine TC.of gH (by decide +kernel) (Nat.le_of_ble_eq_true rfl) ?_
  intro p e s m below meth c ls hcs hK hX hT hl
  obtain ⟨hx, hb, hr, hml, hown, hg, hlocks, hin⟩ := hcs
  have hown : s.vm.findClass RX6 = some m.cls := hown
  have hl : lv_has ls 3 [(0, .ref this), (1, .long nm)] := hl
  have hT0 := hT
  have n0 : (0 : Int32).toInt = 0 := by decide
  have n1 : (1 : Int32).toInt = 1 := by decide
  generalize hQ9 : tQ _ _ _ _ _ _ = Q9
  obtain ⟨v1, ev1⟩ : ∃ zz9 : Int32, zI σ0 this 13 = zz9 := ⟨_, rfl⟩
  have qv1 : v1.toInt = (zI σ0 this 13).toInt := by rw [ev1]
  obtain ⟨v2, ev2⟩ : ∃ zz9 : Int32, zI σ0 this 14 = zz9 := ⟨_, rfl⟩
  have qv2 : v2.toInt = (zI σ0 this 14).toInt := by rw [ev2]
  obtain ⟨v3, ev3⟩ : ∃ zz9 : Int32, zI σ0 this 17 = zz9 := ⟨_, rfl⟩
  have qv3 : v3.toInt = (zI σ0 this 17).toInt := by rw [ev3]
  have b4 : isB v3 := by have q9 : isB (zI σ0 this 17) := hT.P (hT.k t_this (by decide)) (by decide); rw [(hT.eI t_this (by decide) rfl ev3)] at q9; exact q9
  have b4t := isB_t b4
  refine lv_aload_n hx hb dX6_isWord_0 rfl (lv_at hl 0 rfl) ?_
  refine va_get (D := κ.1) (ci := 6) (v := .int (zI σ0 this 17)) (C := RX6) (T := TX6) (N := 27) hx hb hg inX6 hown hK (hT.o20 (hT.k t_this (by decide))).one 0 rfl rfl 17 (by decide) (hg _ k1236) (fun _ h9 => h9) rfl dX6_isWord_1 ?_
  rw [(hT.eI t_this (by decide) rfl ev3)]
  refine lv_if_ne (tgt := 20) hx hb dX6_isWord_4 (by decide) (fun c9 => ?_) (fun c9 => ?_)
  · have c1 := gi_ne c9
    refine lv_iconst (v := 0) hx hb dX6_isWord_20 (by decide) ?_
    have zz5 : (zI σ0 this 14).toInt = v2.toInt := by rw [ev2]
    subst hQ9
    exact t_z hx hb hr isB0 hlocks hT ⟨by omega, by omega, by omega, isB0⟩ dX6_isWord_21
  · have c2 := gi_eq c9
    refine lv_aload_n hx hb dX6_isWord_7 rfl (lv_at hl 0 rfl) ?_
    have qq6 : (zI σ0 this 13).toInt = v1.toInt := by rw [(hT.eI t_this (by decide) rfl ev1)]
    have qq7 : (zI σ0 this 14).toInt = v2.toInt := by rw [ev2]
    have qq8 : (zI σ0 this 17).toInt = v3.toInt := by rw [(hT.eI t_this (by decide) rfl ev3)]
    have hTo := hT
    refine tVl (n := 0) (As := []) (rest := []) hx hb hml hown hg hT hK hX (X6_word l κ σ0 this  (hT.k t_this (by decide)) (by omega) (by omega) (by omega) (by omega)) (fun _ _ h => h) (mwV k1341 k1343 k41 k92 k1344) ⟨rfl, by decide, by decide, by decide +kernel⟩ ⟨(Nat.le_of_ble_eq_true rfl), (Nat.le_of_ble_eq_true rfl)⟩ (hT.o20 (hT.k t_this (by decide))) rfl rfl hl.1 rfl (Nat.le_of_ble_eq_true rfl) dX6_isWord_8 zroom.rf (fun x9 s10 H locs hφ hEs10 hT => ?_)
    obtain ⟨f11, f12⟩ := hφ
    obtain ⟨v13, ev13⟩ : ∃ zz9 : Int32, zI s10 this 14 = zz9 := ⟨_, rfl⟩
    have qv13 : v13.toInt = (zI s10 this 14).toInt := by rw [ev13]
    refine lv_lload_n hx hb dX6_isWord_11 rfl (lv_at hl 1 rfl) ?_
    refine W.lcmp hx hb dX6_isWord_12 ?_
    refine lv_if_ne (tgt := 20) hx hb dX6_isWord_13 (by decide) (fun c9 => ?_) (fun c9 => ?_)
    · have c3 := gl_ne c9
      refine lv_iconst (v := 0) hx hb dX6_isWord_20 (by decide) ?_
      have zz14 : (zI s10 this 14).toInt = v13.toInt := by rw [ev13]
      subst hQ9
      exact t_z hx hb hr isB0 hlocks hT ⟨by omega, by omega, by omega, isB0⟩ dX6_isWord_21
    · have c4 := gl_eq c9
      refine lv_iconst (v := 1) hx hb dX6_isWord_16 (by decide) ?_
      refine lv_goto (tgt := 21) hx hb dX6_isWord_17 (by decide) ?_
      have zz15 : (zI s10 this 14).toInt = v13.toInt := by rw [ev13]
      subst hQ9
      exact t_z hx hb hr isB1 hlocks hT ⟨by omega, by omega, by omega, isB1⟩ dX6_isWord_21
set_option maxHeartbeats 4000000 in
set_option maxRecDepth 100000 in
theorem X6_takes (l : Launch) (κ : Kt) (σ0 : Gh) (this : Nat) (nm : Int64) (t_this : zk σ0 this 20) (h0 : 0 ≤ (zI σ0 this 13).toInt) (h1 : (zI σ0 this 13).toInt ≤ 700) (h2 : 0 ≤ (zI σ0 this 14).toInt) (h3 : (zI σ0 this 14).toInt ≤ 702) : TC l yX6_takes cX6_takes 4 (some .boolean) 4 92 [.ref this, .long nm] κ σ0 (tqi κ gH σ0 (fun (r : Int32) (τ : Gh) => ((zI σ0 this 14).toInt ≤ (zI τ this 14).toInt) ∧ ((zI τ this 14).toInt ≤ (zI σ0 this 13).toInt ∨ (zI τ this 14).toInt = (zI σ0 this 14).toInt) ∧ (isB r))) := by
  refine TC.of gH (by decide +kernel) (Nat.le_of_ble_eq_true rfl) ?_
  intro p e s m below meth c ls hcs hK hX hT hl
  obtain ⟨hx, hb, hr, hml, hown, hg, hlocks, hin⟩ := hcs
  have hown : s.vm.findClass RX6 = some m.cls := hown
  have hl : lv_has ls 4 [(0, .ref this), (1, .long nm)] := hl
  have hT0 := hT
  have n0 : (0 : Int32).toInt = 0 := by decide
  generalize hQ9 : tQ _ _ _ _ _ _ = Q9
  obtain ⟨v1, ev1⟩ : ∃ zz9 : Int32, zI σ0 this 13 = zz9 := ⟨_, rfl⟩
  have qv1 : v1.toInt = (zI σ0 this 13).toInt := by rw [ev1]
  obtain ⟨v2, ev2⟩ : ∃ zz9 : Int32, zI σ0 this 14 = zz9 := ⟨_, rfl⟩
  have qv2 : v2.toInt = (zI σ0 this 14).toInt := by rw [ev2]
  obtain ⟨v3, ev3⟩ : ∃ zz9 : Int32, zI σ0 this 17 = zz9 := ⟨_, rfl⟩
  have qv3 : v3.toInt = (zI σ0 this 17).toInt := by rw [ev3]
  have b4 : isB v3 := by have q9 : isB (zI σ0 this 17) := hT.P (hT.k t_this (by decide)) (by decide); rw [(hT.eI t_this (by decide) rfl ev3)] at q9; exact q9
  have b4t := isB_t b4
  refine lv_aload_n hx hb dX6_takes_0 rfl (lv_at hl 0 rfl) ?_
  refine lv_lload_n hx hb dX6_takes_1 rfl (lv_at hl 1 rfl) ?_
  have qq5 : (zI σ0 this 13).toInt = v1.toInt := by rw [(hT.eI t_this (by decide) rfl ev1)]
  have qq6 : (zI σ0 this 14).toInt = v2.toInt := by rw [ev2]
  have qq7 : (zI σ0 this 17).toInt = v3.toInt := by rw [(hT.eI t_this (by decide) rfl ev3)]
  have hTo := hT
  refine tVi (n := 1) (As := [.long nm]) (rest := []) hx hb hml hown hg hT hK hX (X6_isWord l κ σ0 this nm  (hT.k t_this (by decide)) (by omega) (by omega) (by omega) (by omega)) (fun _ _ h => h) (mwV k1337 k1339 k40 k92 k1340) ⟨rfl, by decide, by decide, by decide +kernel⟩ ⟨(Nat.le_of_ble_eq_true rfl), (Nat.le_of_ble_eq_true rfl)⟩ (hT.o20 (hT.k t_this (by decide))) rfl rfl hl.1 rfl (Nat.le_of_ble_eq_true rfl) dX6_takes_2 zroom.rf (fun x8 s9 H locs hφ hEs9 hT => ?_)
  obtain ⟨f10, f11, f12, f13⟩ := hφ
  obtain ⟨v14, ev14⟩ : ∃ zz9 : Int32, zI s9 this 14 = zz9 := ⟨_, rfl⟩
  have qv14 : v14.toInt = (zI s9 this 14).toInt := by rw [ev14]
  refine lv_istore_n (lv' := [(3, .int x8), (0, .ref this), (1, .long nm)]) hx hb dX6_takes_5 rfl hl (by decide) rfl (fun ls hl => ?_)
  refine lv_aload_n hx hb dX6_takes_6 rfl (lv_at hl 1 rfl) ?_
  refine lv_iload_n hx hb dX6_takes_7 rfl (lv_at hl 0 rfl) ?_
  refine lv_if_eq (tgt := 18) hx hb dX6_takes_8 (by decide) (fun c9 => ?_) (fun c9 => ?_)
  · have c1 := gi_eq c9
    refine lv_aload_n hx hb dX6_takes_18 rfl (lv_at hl 1 rfl) ?_
    refine va_get (D := κ.1) (ci := 6) (v := .int (zI s9 this 14)) (C := RX6) (T := TX6) (N := 27) hx hb hg inX6 hown hK (hT.o20 (hT.k t_this (by decide))).one 0 rfl rfl 14 (by decide) (hg _ k1233) (fun _ h9 => h9) rfl dX6_takes_19 ?_
    rw [ev14]
    have hTo := hT
    refine pf20_14 hx hb hg hown hK hT (hT.k t_this (by decide)) rfl (hg _ k1233) dX6_takes_22 (fun H locs s15 hus15 hT => ?_)
    have e16 : zI s15 this 14 = v14 := zput_at hus15
    refine lv_iload_n hx hb dX6_takes_25 rfl (lv_at hl 0 rfl) ?_
    have zz17 : (zI s15 this 14).toInt = v14.toInt := by rw [e16]
    subst hQ9
    exact t_z hx hb hr f13 hlocks hT ⟨by omega, by omega, f13⟩ dX6_takes_26
  · have c2 := gi_ne c9
    refine lv_aload_n hx hb dX6_takes_11 rfl (lv_at hl 1 rfl) ?_
    have qq18 : (zI s9 this 13).toInt = v1.toInt := by rw [(hT.eI t_this (by decide) rfl ev1)]
    have qq19 : (zI s9 this 14).toInt = v14.toInt := by rw [ev14]
    have qq20 : (zI s9 this 17).toInt = v3.toInt := by rw [(hT.eI t_this (by decide) rfl ev3)]
    have hTo := hT
    refine tVi (n := 0) (As := []) (rest := [.ref this]) hx hb hml hown hg hT hK hX (X6_wordEnd l κ s9 this  (hT.k t_this (by decide)) (by omega) (by omega) (by omega) (by omega)) sub_fE_gH (mwV k1349 k1351 k43 k92 k1352) ⟨rfl, by decide, by decide, by decide +kernel⟩ ⟨(Nat.le_of_ble_eq_true rfl), (Nat.le_of_ble_eq_true rfl)⟩ (hT.o20 (hT.k t_this (by decide))) rfl rfl hl.1 rfl (Nat.le_of_ble_eq_true rfl) dX6_takes_12 zroom.rf (fun x21 s22 H locs hφ hEs22 hT => ?_)
    have ev14 : zI s22 this 14 = v14 := ((hTo.k t_this (by decide)).eI hEs22 (by decide) rfl).trans ev14
    obtain ⟨f23, f24⟩ := hφ
    refine lv_goto (tgt := 22) hx hb dX6_takes_15 (by decide) ?_
    have hTo := hT
    refine pf20_14 hx hb hg hown hK hT (hT.k t_this (by decide)) rfl (hg _ k1233) dX6_takes_22 (fun H locs s25 hus25 hT => ?_)
    have e26 : zI s25 this 14 = x21 := zput_at hus25
    refine lv_iload_n hx hb dX6_takes_25 rfl (lv_at hl 0 rfl) ?_
    have zz27 : (zI s25 this 14).toInt = x21.toInt := by rw [e26]
    subst hQ9
    exact t_z hx hb hr f13 hlocks hT ⟨by omega, by omega, f13⟩ dX6_takes_26
set_option maxHeartbeats 4000000 in
set_option maxRecDepth 100000 in
theorem X6_number (l : Launch) (κ : Kt) (σ0 : Gh) (this : Nat) (lo : Int32) (hi : Int32) (t_this : zk σ0 this 20) (h0 : 0 ≤ (zI σ0 this 13).toInt) (h1 : (zI σ0 this 13).toInt ≤ 700) (h2 : 0 ≤ (zI σ0 this 14).toInt) (h3 : (zI σ0 this 14).toInt ≤ 702) : TC l yX6_number cX6_number 5 none 1 25 [.ref this, .int lo, .int hi] κ σ0 (tqv κ gN σ0 (fun (τ : Gh) => ((zI σ0 this 14).toInt ≤ (zI τ this 14).toInt) ∧ ((zI τ this 14).toInt ≤ (zI σ0 this 13).toInt ∨ (zI τ this 14).toInt = (zI σ0 this 14).toInt) ∧ ((zI τ this 17).toInt = 1 ∨ ((zI σ0 this 17).toInt = 0 ∧ lo.toInt ≤ (zI τ this 24).toInt ∧ (zI τ this 24).toInt ≤ hi.toInt)))) := by
  refine TC.of gN (by decide +kernel) (Nat.le_of_ble_eq_true rfl) ?_
  intro p e s m below meth c ls hcs hK hX hT hl
  obtain ⟨hx, hb, hr, hml, hown, hg, hlocks, hin⟩ := hcs
  have hown : s.vm.findClass RX6 = some m.cls := hown
  have hl : lv_has ls 5 [(0, .ref this), (1, .int lo), (2, .int hi)] := hl
  have hT0 := hT
  have n0 : (0 : Int32).toInt = 0 := by decide
  have n1 : (1 : Int32).toInt = 1 := by decide
  have n2 : (2 : Int32).toInt = 2 := by decide
  have n4 : (4 : Int32).toInt = 4 := by decide
  have n10 : (10 : Int32).toInt = 10 := by decide
  have n48 : (48 : Int32).toInt = 48 := by decide
  have j48 : (48 : Int64).toInt = 48 := by decide
  have j57 : (57 : Int64).toInt = 57 := by decide
  have lo_lo := Int32.le_toInt lo
  have lo_hi := Int32.toInt_lt lo
  have hi_lo := Int32.le_toInt hi
  have hi_hi := Int32.toInt_lt hi
  generalize hQ9 : tQ _ _ _ _ _ _ = Q9
  obtain ⟨v1, ev1⟩ : ∃ zz9 : Int32, zI σ0 this 13 = zz9 := ⟨_, rfl⟩
  have qv1 : v1.toInt = (zI σ0 this 13).toInt := by rw [ev1]
  obtain ⟨v2, ev2⟩ : ∃ zz9 : Int32, zI σ0 this 14 = zz9 := ⟨_, rfl⟩
  have qv2 : v2.toInt = (zI σ0 this 14).toInt := by rw [ev2]
  obtain ⟨v3, ev3⟩ : ∃ zz9 : Int32, zI σ0 this 17 = zz9 := ⟨_, rfl⟩
  have qv3 : v3.toInt = (zI σ0 this 17).toInt := by rw [ev3]
  have b4 : isB v3 := by have q9 : isB (zI σ0 this 17) := hT.P (hT.k t_this (by decide)) (by decide); rw [ev3] at q9; exact q9
  have b4t := isB_t b4
  obtain ⟨v5, ev5⟩ : ∃ zz9 : Int32, zI σ0 this 24 = zz9 := ⟨_, rfl⟩
  have qv5 : v5.toInt = (zI σ0 this 24).toInt := by rw [ev5]
  refine lv_aload_n hx hb dX6_number_0 rfl (lv_at hl 0 rfl) ?_
  refine lv_iconst (v := 0) hx hb dX6_number_1 (by decide) ?_
  have hTo := hT
  refine pf20_24 hx hb hg hown hK hT (hT.k t_this (by decide)) rfl (hg _ k1243) dX6_number_2 (fun H locs s6 hus6 hT => ?_)
  have ev2 : zI s6 this 14 = v2 := (zput_o hus6 (Or.inr (by decide))).trans ev2
  have ev3 : zI s6 this 17 = v3 := (zput_o hus6 (Or.inr (by decide))).trans ev3
  have e7 : zI s6 this 24 = 0 := zput_at hus6
  refine lv_aload_n hx hb dX6_number_5 rfl (lv_at hl 0 rfl) ?_
  refine va_get (D := κ.1) (ci := 6) (v := .int (zI s6 this 17)) (C := RX6) (T := TX6) (N := 27) hx hb hg inX6 hown hK (hT.o20 (hT.k t_this (by decide))).one 0 rfl rfl 17 (by decide) (hg _ k1236) (fun _ h9 => h9) rfl dX6_number_6 ?_
  rw [ev3]
  refine lv_if_eq (tgt := 13) hx hb dX6_number_9 (by decide) (fun c9 => ?_) (fun c9 => ?_)
  · have c1 := gi_eq c9
    refine lv_aload_n hx hb dX6_number_13 rfl (lv_at hl 0 rfl) ?_
    have qq8 : (zI s6 this 13).toInt = v1.toInt := by rw [(hT.eI t_this (by decide) rfl ev1)]
    have qq9 : (zI s6 this 14).toInt = v2.toInt := by rw [ev2]
    have qq10 : (zI s6 this 17).toInt = v3.toInt := by rw [ev3]
    have hTo := hT
    refine tVi (n := 0) (As := []) (rest := []) hx hb hml hown hg hT hK hX (X6_here l κ s6 this  (hT.k t_this (by decide)) (by omega) (by omega) (by omega) (by omega)) sub_gH_gN (mwV k1345 k1347 k42 k92 k1348) ⟨rfl, by decide, by decide, by decide +kernel⟩ ⟨(Nat.le_of_ble_eq_true rfl), (Nat.le_of_ble_eq_true rfl)⟩ (hT.o20 (hT.k t_this (by decide))) rfl rfl hl.1 rfl (Nat.le_of_ble_eq_true rfl) dX6_number_14 zroom.rf (fun x11 s12 H locs hφ hEs12 hT => ?_)
    have ev3 : zI s12 this 17 = v3 := ((hTo.k t_this (by decide)).eI hEs12 (by decide) rfl).trans ev3
    have e7 : zI s12 this 24 = 0 := ((hTo.k t_this (by decide)).eI hEs12 (by decide) rfl).trans e7
    obtain ⟨f13, f14, f15⟩ := hφ
    obtain ⟨v16, ev16⟩ : ∃ zz9 : Int32, zI s12 this 14 = zz9 := ⟨_, rfl⟩
    have qv16 : v16.toInt = (zI s12 this 14).toInt := by rw [ev16]
    refine lv_i2l hx hb dX6_number_17 rfl ?_
    refine g_i2l (fun t17 ht17 => ?_)
    refine lv_ldc2 hx hb hown (hg _ k1388) dX6_number_18 ?_
    refine lv_ldc2 hx hb hown (hg _ k1389) dX6_number_21 ?_
    have hTo := hT
    refine tSi (n := 3) (As := [.long t17, .long 48, .long 57]) (rest := []) hx hb hml hown hg hT hK hX (X6_in l κ s12 t17 48 57   ) sub_fE_gN (mwS k1317 k1318 k92 k1319) ⟨rfl, by decide, by decide, by decide +kernel⟩ ⟨(Nat.le_of_ble_eq_true rfl), (Nat.le_of_ble_eq_true rfl)⟩ rfl hl.1 rfl (Nat.le_of_ble_eq_true rfl) dX6_number_24 zroom.rf (fun x18 s19 H locs hφ hEs19 hT => ?_)
    have ev3 : zI s19 this 17 = v3 := ((hTo.k t_this (by decide)).eI hEs19 (by decide) rfl).trans ev3
    have e7 : zI s19 this 24 = 0 := ((hTo.k t_this (by decide)).eI hEs19 (by decide) rfl).trans e7
    have ev16 : zI s19 this 14 = v16 := ((hTo.k t_this (by decide)).eI hEs19 (by decide) rfl).trans ev16
    obtain ⟨f20, f21⟩ := hφ
    refine lv_istore_n (lv' := [(3, .int x18), (0, .ref this), (1, .int lo), (2, .int hi)]) hx hb dX6_number_27 rfl hl (by decide) rfl (fun ls hl => ?_)
    refine lv_aload_n hx hb dX6_number_28 rfl (lv_at hl 1 rfl) ?_
    refine va_get (D := κ.1) (ci := 6) (v := .int (zI s19 this 14)) (C := RX6) (T := TX6) (N := 27) hx hb hg inX6 hown hK (hT.o20 (hT.k t_this (by decide))).one 0 rfl rfl 14 (by decide) (hg _ k1233) (fun _ h9 => h9) rfl dX6_number_29 ?_
    rw [ev16]
    refine lv_istore (lv' := [(4, .int v16), (3, .int x18), (0, .ref this), (1, .int lo), (2, .int hi)]) hx hb dX6_number_32 hl (by decide) rfl (fun ls hl => ?_)
    have loop34 : ∀ (n9 : Nat)  (u : Int32) (H : Heap) (locs : List Loc) (sg : Gh) (ls : Array Slot), TS κ gN σ0 sg s H locs → (zI sg this 17 = v3) → (zI sg this 14 = u) → (v16.toInt ≤ u.toInt) → (u.toInt ≤ (zI σ0 this 13).toInt ∨ u.toInt = v16.toInt) → lv_has ls 5 [(4, .int v16), (3, .int x18), (0, .ref this), (1, .int lo), (2, .int hi)] → (703 - u.toInt) < n9 → tW p l e 1 25 κ s m #[.ref this, .int lo, .int hi] below meth c H locs Q9 (F0 m 34 ls []) := by
      intro n9
      induction n9 with
      | zero =>
        intro u H locs sg ls hT kthis_17 kthis_14 q1 q2 hl hm9
        exfalso
        omega
      | succ n9 ih9 =>
        have ih34 := ih9
        clear ih9
        intro u H locs s22 ls hT kthis_17 kthis_14 q1 q2 hl hm9
        refine lv_iload_n hx hb dX6_number_34 rfl (lv_at hl 1 rfl) ?_
        refine lv_if_eq (tgt := 126) hx hb dX6_number_35 (by decide) (fun c9 => ?_) (fun c9 => ?_)
        · have c2 := gi_eq c9
          refine lv_iload_n hx hb dX6_number_126 rfl (lv_at hl 1 rfl) ?_
          refine lv_if_eq (tgt := 141) hx hb dX6_number_127 (by decide) (fun c9 => ?_) (fun c9 => ?_)
          · have c3 := gi_eq c9
            refine lv_aload_n hx hb dX6_number_141 rfl (lv_at hl 2 rfl) ?_
            refine lv_iconst (v := 1) hx hb dX6_number_142 (by decide) ?_
            refine lv_iload hx hb dX6_number_143 (lv_at hl 0 rfl) ?_
            have qq23 : (zI s22 this 17).toInt = v3.toInt := by rw [kthis_17]
            have hTo := hT
            refine tVv (n := 2) (As := [.int 1, .int v16]) (rest := []) hx hb hml hown hg hT hK hX (X6_wrong l κ s22 this 1 v16  (hT.k t_this (by decide)) ) sub_gB_gN (mwV k1361 k1363 k45 k92 k1364) ⟨rfl, by decide, by decide, by decide +kernel⟩ ⟨(Nat.le_of_ble_eq_true rfl), (Nat.le_of_ble_eq_true rfl)⟩ (hT.o20 (hT.k t_this (by decide))) rfl rfl hl.1 rfl (Nat.le_of_ble_eq_true rfl) dX6_number_145 zroom.rf (fun s25 H locs hφ hEs25 hT => ?_)
            have kthis_14 : zI s25 this 14 = u := ((hTo.k t_this (by decide)).eI hEs25 (by decide) rfl).trans kthis_14
            have f26 := hφ
            obtain ⟨v27, ev27⟩ : ∃ zz9 : Int32, zI s25 this 17 = zz9 := ⟨_, rfl⟩
            have qv27 : v27.toInt = (zI s25 this 17).toInt := by rw [ev27]
            have b28 : isB v27 := by have q9 : isB (zI s25 this 17) := hT.P (hT.k t_this (by decide)) (by decide); rw [ev27] at q9; exact q9
            have b28t := isB_t b28
            refine lv_goto (tgt := 173) hx hb dX6_number_148 (by decide) ?_
            have zz29 : (zI s25 this 14).toInt = u.toInt := by rw [kthis_14]
            have zz30 : (zI s25 this 17).toInt = v27.toInt := by rw [ev27]
            obtain ⟨v31, ev31⟩ : ∃ zz9 : Int32, zI s25 this 24 = zz9 := ⟨_, rfl⟩
            have qv31 : v31.toInt = (zI s25 this 24).toInt := by rw [ev31]
            have zz32 : (zI s25 this 24).toInt = v31.toInt := by rw [ev31]
            subst hQ9
            exact t_v hx hb hr hlocks hT ⟨by omega, by omega, by omega⟩ dX6_number_173
          · have c4 := gi_ne c9
            refine lv_aload_n hx hb dX6_number_130 rfl (lv_at hl 2 rfl) ?_
            refine va_get (D := κ.1) (ci := 6) (v := .int (zI s22 this 14)) (C := RX6) (T := TX6) (N := 27) hx hb hg inX6 hown hK (hT.o20 (hT.k t_this (by decide))).one 0 rfl rfl 14 (by decide) (hg _ k1233) (fun _ h9 => h9) rfl dX6_number_131 ?_
            rw [kthis_14]
            refine lv_iload hx hb dX6_number_134 (lv_at hl 0 rfl) ?_
            refine lv_isub hx hb dX6_number_136 ?_
            first | refine g_sub (by omega) (by omega) (fun t33 ht33 => ?_) | refine lv_topi (fun t33 ht33 => ?_)
            refine lv_iconst (v := 4) hx hb dX6_number_137 (by decide) ?_
            refine lv_icmp_le (tgt := 151) hx hb dX6_number_138 (by decide) (fun c9 => ?_) (fun c9 => ?_)
            · have c5 := gi_le c9
              refine lv_aload_n hx hb dX6_number_151 rfl (lv_at hl 2 rfl) ?_
              obtain ⟨v34, ev34⟩ : ∃ zz9 : Int32, zI s22 this 24 = zz9 := ⟨_, rfl⟩
              have qv34 : v34.toInt = (zI s22 this 24).toInt := by rw [ev34]
              refine va_get (D := κ.1) (ci := 6) (v := .int (zI s22 this 24)) (C := RX6) (T := TX6) (N := 27) hx hb hg inX6 hown hK (hT.o20 (hT.k t_this (by decide))).one 0 rfl rfl 24 (by decide) (hg _ k1243) (fun _ h9 => h9) rfl dX6_number_152 ?_
              rw [ev34]
              refine lv_i2l hx hb dX6_number_155 rfl ?_
              refine g_i2l (fun t35 ht35 => ?_)
              refine lv_iload_n hx hb dX6_number_156 rfl (lv_at hl 3 rfl) ?_
              refine lv_i2l hx hb dX6_number_157 rfl ?_
              refine g_i2l (fun t36 ht36 => ?_)
              refine lv_iload_n hx hb dX6_number_158 rfl (lv_at hl 4 rfl) ?_
              refine lv_i2l hx hb dX6_number_159 rfl ?_
              refine g_i2l (fun t37 ht37 => ?_)
              have hTo := hT
              refine tSi (n := 3) (As := [.long t35, .long t36, .long t37]) (rest := []) hx hb hml hown hg hT hK hX (X6_in l κ s22 t35 t36 t37   ) sub_fE_gN (mwS k1317 k1318 k92 k1319) ⟨rfl, by decide, by decide, by decide +kernel⟩ ⟨(Nat.le_of_ble_eq_true rfl), (Nat.le_of_ble_eq_true rfl)⟩ rfl hl.1 rfl (Nat.le_of_ble_eq_true rfl) dX6_number_160 zroom.rf (fun x38 s39 H locs hφ hEs39 hT => ?_)
              have kthis_17 : zI s39 this 17 = v3 := ((hTo.k t_this (by decide)).eI hEs39 (by decide) rfl).trans kthis_17
              have kthis_14 : zI s39 this 14 = u := ((hTo.k t_this (by decide)).eI hEs39 (by decide) rfl).trans kthis_14
              have ev34 : zI s39 this 24 = v34 := ((hTo.k t_this (by decide)).eI hEs39 (by decide) rfl).trans ev34
              obtain ⟨f40, f41⟩ := hφ
              refine lv_if_ne (tgt := 173) hx hb dX6_number_163 (by decide) (fun c9 => ?_) (fun c9 => ?_)
              · have c6 := gi_ne c9
                have zz42 : (zI s39 this 14).toInt = u.toInt := by rw [kthis_14]
                have zz43 : (zI s39 this 17).toInt = v3.toInt := by rw [kthis_17]
                have zz44 : (zI s39 this 24).toInt = v34.toInt := by rw [ev34]
                subst hQ9
                exact t_v hx hb hr hlocks hT ⟨by omega, by omega, by omega⟩ dX6_number_173
              · have c7 := gi_eq c9
                refine lv_aload_n hx hb dX6_number_166 rfl (lv_at hl 2 rfl) ?_
                refine lv_iconst (v := 2) hx hb dX6_number_167 (by decide) ?_
                refine lv_iload hx hb dX6_number_168 (lv_at hl 0 rfl) ?_
                have qq45 : (zI s39 this 17).toInt = v3.toInt := by rw [kthis_17]
                have hTo := hT
                refine tVv (n := 2) (As := [.int 2, .int v16]) (rest := []) hx hb hml hown hg hT hK hX (X6_wrong l κ s39 this 2 v16  (hT.k t_this (by decide)) ) sub_gB_gN (mwV k1361 k1363 k45 k92 k1364) ⟨rfl, by decide, by decide, by decide +kernel⟩ ⟨(Nat.le_of_ble_eq_true rfl), (Nat.le_of_ble_eq_true rfl)⟩ (hT.o20 (hT.k t_this (by decide))) rfl rfl hl.1 rfl (Nat.le_of_ble_eq_true rfl) dX6_number_170 zroom.rf (fun s47 H locs hφ hEs47 hT => ?_)
                have kthis_14 : zI s47 this 14 = u := ((hTo.k t_this (by decide)).eI hEs47 (by decide) rfl).trans kthis_14
                have ev34 : zI s47 this 24 = v34 := ((hTo.k t_this (by decide)).eI hEs47 (by decide) rfl).trans ev34
                have f48 := hφ
                obtain ⟨v49, ev49⟩ : ∃ zz9 : Int32, zI s47 this 17 = zz9 := ⟨_, rfl⟩
                have qv49 : v49.toInt = (zI s47 this 17).toInt := by rw [ev49]
                have b50 : isB v49 := by have q9 : isB (zI s47 this 17) := hT.P (hT.k t_this (by decide)) (by decide); rw [ev49] at q9; exact q9
                have b50t := isB_t b50
                have zz51 : (zI s47 this 14).toInt = u.toInt := by rw [kthis_14]
                have zz52 : (zI s47 this 17).toInt = v49.toInt := by rw [ev49]
                have zz53 : (zI s47 this 24).toInt = v34.toInt := by rw [ev34]
                subst hQ9
                exact t_v hx hb hr hlocks hT ⟨by omega, by omega, by omega⟩ dX6_number_173
            · have c8 := gi_nle c9
              refine lv_aload_n hx hb dX6_number_141 rfl (lv_at hl 2 rfl) ?_
              refine lv_iconst (v := 1) hx hb dX6_number_142 (by decide) ?_
              refine lv_iload hx hb dX6_number_143 (lv_at hl 0 rfl) ?_
              have qq54 : (zI s22 this 17).toInt = v3.toInt := by rw [kthis_17]
              have hTo := hT
              refine tVv (n := 2) (As := [.int 1, .int v16]) (rest := []) hx hb hml hown hg hT hK hX (X6_wrong l κ s22 this 1 v16  (hT.k t_this (by decide)) ) sub_gB_gN (mwV k1361 k1363 k45 k92 k1364) ⟨rfl, by decide, by decide, by decide +kernel⟩ ⟨(Nat.le_of_ble_eq_true rfl), (Nat.le_of_ble_eq_true rfl)⟩ (hT.o20 (hT.k t_this (by decide))) rfl rfl hl.1 rfl (Nat.le_of_ble_eq_true rfl) dX6_number_145 zroom.rf (fun s56 H locs hφ hEs56 hT => ?_)
              have kthis_14 : zI s56 this 14 = u := ((hTo.k t_this (by decide)).eI hEs56 (by decide) rfl).trans kthis_14
              have f57 := hφ
              obtain ⟨v58, ev58⟩ : ∃ zz9 : Int32, zI s56 this 17 = zz9 := ⟨_, rfl⟩
              have qv58 : v58.toInt = (zI s56 this 17).toInt := by rw [ev58]
              have b59 : isB v58 := by have q9 : isB (zI s56 this 17) := hT.P (hT.k t_this (by decide)) (by decide); rw [ev58] at q9; exact q9
              have b59t := isB_t b59
              refine lv_goto (tgt := 173) hx hb dX6_number_148 (by decide) ?_
              have zz60 : (zI s56 this 14).toInt = u.toInt := by rw [kthis_14]
              have zz61 : (zI s56 this 17).toInt = v58.toInt := by rw [ev58]
              obtain ⟨v62, ev62⟩ : ∃ zz9 : Int32, zI s56 this 24 = zz9 := ⟨_, rfl⟩
              have qv62 : v62.toInt = (zI s56 this 24).toInt := by rw [ev62]
              have zz63 : (zI s56 this 24).toInt = v62.toInt := by rw [ev62]
              subst hQ9
              exact t_v hx hb hr hlocks hT ⟨by omega, by omega, by omega⟩ dX6_number_173
        · have c9 := gi_ne c9
          refine lv_aload_n hx hb dX6_number_38 rfl (lv_at hl 2 rfl) ?_
          refine va_get (D := κ.1) (ci := 6) (v := .int (zI s22 this 14)) (C := RX6) (T := TX6) (N := 27) hx hb hg inX6 hown hK (hT.o20 (hT.k t_this (by decide))).one 0 rfl rfl 14 (by decide) (hg _ k1233) (fun _ h9 => h9) rfl dX6_number_39 ?_
          rw [kthis_14]
          refine lv_aload_n hx hb dX6_number_42 rfl (lv_at hl 2 rfl) ?_
          refine va_get (D := κ.1) (ci := 6) (v := .int (zI s22 this 13)) (C := RX6) (T := TX6) (N := 27) hx hb hg inX6 hown hK (hT.o20 (hT.k t_this (by decide))).one 0 rfl rfl 13 (by decide) (hg _ k1232) (fun _ h9 => h9) rfl dX6_number_43 ?_
          rw [(hT.eI t_this (by decide) rfl ev1)]
          refine lv_icmp_ge (tgt := 126) hx hb dX6_number_46 (by decide) (fun c9 => ?_) (fun c9 => ?_)
          · have c10 := gi_le c9
            refine lv_iload_n hx hb dX6_number_126 rfl (lv_at hl 1 rfl) ?_
            refine lv_if_eq (tgt := 141) hx hb dX6_number_127 (by decide) (fun c9 => ?_) (fun c9 => ?_)
            · have c11 := gi_eq c9
              refine lv_aload_n hx hb dX6_number_141 rfl (lv_at hl 2 rfl) ?_
              refine lv_iconst (v := 1) hx hb dX6_number_142 (by decide) ?_
              refine lv_iload hx hb dX6_number_143 (lv_at hl 0 rfl) ?_
              have qq64 : (zI s22 this 17).toInt = v3.toInt := by rw [kthis_17]
              have hTo := hT
              refine tVv (n := 2) (As := [.int 1, .int v16]) (rest := []) hx hb hml hown hg hT hK hX (X6_wrong l κ s22 this 1 v16  (hT.k t_this (by decide)) ) sub_gB_gN (mwV k1361 k1363 k45 k92 k1364) ⟨rfl, by decide, by decide, by decide +kernel⟩ ⟨(Nat.le_of_ble_eq_true rfl), (Nat.le_of_ble_eq_true rfl)⟩ (hT.o20 (hT.k t_this (by decide))) rfl rfl hl.1 rfl (Nat.le_of_ble_eq_true rfl) dX6_number_145 zroom.rf (fun s66 H locs hφ hEs66 hT => ?_)
              have kthis_14 : zI s66 this 14 = u := ((hTo.k t_this (by decide)).eI hEs66 (by decide) rfl).trans kthis_14
              have f67 := hφ
              obtain ⟨v68, ev68⟩ : ∃ zz9 : Int32, zI s66 this 17 = zz9 := ⟨_, rfl⟩
              have qv68 : v68.toInt = (zI s66 this 17).toInt := by rw [ev68]
              have b69 : isB v68 := by have q9 : isB (zI s66 this 17) := hT.P (hT.k t_this (by decide)) (by decide); rw [ev68] at q9; exact q9
              have b69t := isB_t b69
              refine lv_goto (tgt := 173) hx hb dX6_number_148 (by decide) ?_
              have zz70 : (zI s66 this 14).toInt = u.toInt := by rw [kthis_14]
              have zz71 : (zI s66 this 17).toInt = v68.toInt := by rw [ev68]
              obtain ⟨v72, ev72⟩ : ∃ zz9 : Int32, zI s66 this 24 = zz9 := ⟨_, rfl⟩
              have qv72 : v72.toInt = (zI s66 this 24).toInt := by rw [ev72]
              have zz73 : (zI s66 this 24).toInt = v72.toInt := by rw [ev72]
              subst hQ9
              exact t_v hx hb hr hlocks hT ⟨by omega, by omega, by omega⟩ dX6_number_173
            · have c12 := gi_ne c9
              refine lv_aload_n hx hb dX6_number_130 rfl (lv_at hl 2 rfl) ?_
              refine va_get (D := κ.1) (ci := 6) (v := .int (zI s22 this 14)) (C := RX6) (T := TX6) (N := 27) hx hb hg inX6 hown hK (hT.o20 (hT.k t_this (by decide))).one 0 rfl rfl 14 (by decide) (hg _ k1233) (fun _ h9 => h9) rfl dX6_number_131 ?_
              rw [kthis_14]
              refine lv_iload hx hb dX6_number_134 (lv_at hl 0 rfl) ?_
              refine lv_isub hx hb dX6_number_136 ?_
              first | refine g_sub (by omega) (by omega) (fun t74 ht74 => ?_) | refine lv_topi (fun t74 ht74 => ?_)
              refine lv_iconst (v := 4) hx hb dX6_number_137 (by decide) ?_
              refine lv_icmp_le (tgt := 151) hx hb dX6_number_138 (by decide) (fun c9 => ?_) (fun c9 => ?_)
              · have c13 := gi_le c9
                refine lv_aload_n hx hb dX6_number_151 rfl (lv_at hl 2 rfl) ?_
                obtain ⟨v75, ev75⟩ : ∃ zz9 : Int32, zI s22 this 24 = zz9 := ⟨_, rfl⟩
                have qv75 : v75.toInt = (zI s22 this 24).toInt := by rw [ev75]
                refine va_get (D := κ.1) (ci := 6) (v := .int (zI s22 this 24)) (C := RX6) (T := TX6) (N := 27) hx hb hg inX6 hown hK (hT.o20 (hT.k t_this (by decide))).one 0 rfl rfl 24 (by decide) (hg _ k1243) (fun _ h9 => h9) rfl dX6_number_152 ?_
                rw [ev75]
                refine lv_i2l hx hb dX6_number_155 rfl ?_
                refine g_i2l (fun t76 ht76 => ?_)
                refine lv_iload_n hx hb dX6_number_156 rfl (lv_at hl 3 rfl) ?_
                refine lv_i2l hx hb dX6_number_157 rfl ?_
                refine g_i2l (fun t77 ht77 => ?_)
                refine lv_iload_n hx hb dX6_number_158 rfl (lv_at hl 4 rfl) ?_
                refine lv_i2l hx hb dX6_number_159 rfl ?_
                refine g_i2l (fun t78 ht78 => ?_)
                have hTo := hT
                refine tSi (n := 3) (As := [.long t76, .long t77, .long t78]) (rest := []) hx hb hml hown hg hT hK hX (X6_in l κ s22 t76 t77 t78   ) sub_fE_gN (mwS k1317 k1318 k92 k1319) ⟨rfl, by decide, by decide, by decide +kernel⟩ ⟨(Nat.le_of_ble_eq_true rfl), (Nat.le_of_ble_eq_true rfl)⟩ rfl hl.1 rfl (Nat.le_of_ble_eq_true rfl) dX6_number_160 zroom.rf (fun x79 s80 H locs hφ hEs80 hT => ?_)
                have kthis_17 : zI s80 this 17 = v3 := ((hTo.k t_this (by decide)).eI hEs80 (by decide) rfl).trans kthis_17
                have kthis_14 : zI s80 this 14 = u := ((hTo.k t_this (by decide)).eI hEs80 (by decide) rfl).trans kthis_14
                have ev75 : zI s80 this 24 = v75 := ((hTo.k t_this (by decide)).eI hEs80 (by decide) rfl).trans ev75
                obtain ⟨f81, f82⟩ := hφ
                refine lv_if_ne (tgt := 173) hx hb dX6_number_163 (by decide) (fun c9 => ?_) (fun c9 => ?_)
                · have c14 := gi_ne c9
                  have zz83 : (zI s80 this 14).toInt = u.toInt := by rw [kthis_14]
                  have zz84 : (zI s80 this 17).toInt = v3.toInt := by rw [kthis_17]
                  have zz85 : (zI s80 this 24).toInt = v75.toInt := by rw [ev75]
                  subst hQ9
                  exact t_v hx hb hr hlocks hT ⟨by omega, by omega, by omega⟩ dX6_number_173
                · have c15 := gi_eq c9
                  refine lv_aload_n hx hb dX6_number_166 rfl (lv_at hl 2 rfl) ?_
                  refine lv_iconst (v := 2) hx hb dX6_number_167 (by decide) ?_
                  refine lv_iload hx hb dX6_number_168 (lv_at hl 0 rfl) ?_
                  have qq86 : (zI s80 this 17).toInt = v3.toInt := by rw [kthis_17]
                  have hTo := hT
                  refine tVv (n := 2) (As := [.int 2, .int v16]) (rest := []) hx hb hml hown hg hT hK hX (X6_wrong l κ s80 this 2 v16  (hT.k t_this (by decide)) ) sub_gB_gN (mwV k1361 k1363 k45 k92 k1364) ⟨rfl, by decide, by decide, by decide +kernel⟩ ⟨(Nat.le_of_ble_eq_true rfl), (Nat.le_of_ble_eq_true rfl)⟩ (hT.o20 (hT.k t_this (by decide))) rfl rfl hl.1 rfl (Nat.le_of_ble_eq_true rfl) dX6_number_170 zroom.rf (fun s88 H locs hφ hEs88 hT => ?_)
                  have kthis_14 : zI s88 this 14 = u := ((hTo.k t_this (by decide)).eI hEs88 (by decide) rfl).trans kthis_14
                  have ev75 : zI s88 this 24 = v75 := ((hTo.k t_this (by decide)).eI hEs88 (by decide) rfl).trans ev75
                  have f89 := hφ
                  obtain ⟨v90, ev90⟩ : ∃ zz9 : Int32, zI s88 this 17 = zz9 := ⟨_, rfl⟩
                  have qv90 : v90.toInt = (zI s88 this 17).toInt := by rw [ev90]
                  have b91 : isB v90 := by have q9 : isB (zI s88 this 17) := hT.P (hT.k t_this (by decide)) (by decide); rw [ev90] at q9; exact q9
                  have b91t := isB_t b91
                  have zz92 : (zI s88 this 14).toInt = u.toInt := by rw [kthis_14]
                  have zz93 : (zI s88 this 17).toInt = v90.toInt := by rw [ev90]
                  have zz94 : (zI s88 this 24).toInt = v75.toInt := by rw [ev75]
                  subst hQ9
                  exact t_v hx hb hr hlocks hT ⟨by omega, by omega, by omega⟩ dX6_number_173
              · have c16 := gi_nle c9
                refine lv_aload_n hx hb dX6_number_141 rfl (lv_at hl 2 rfl) ?_
                refine lv_iconst (v := 1) hx hb dX6_number_142 (by decide) ?_
                refine lv_iload hx hb dX6_number_143 (lv_at hl 0 rfl) ?_
                have qq95 : (zI s22 this 17).toInt = v3.toInt := by rw [kthis_17]
                have hTo := hT
                refine tVv (n := 2) (As := [.int 1, .int v16]) (rest := []) hx hb hml hown hg hT hK hX (X6_wrong l κ s22 this 1 v16  (hT.k t_this (by decide)) ) sub_gB_gN (mwV k1361 k1363 k45 k92 k1364) ⟨rfl, by decide, by decide, by decide +kernel⟩ ⟨(Nat.le_of_ble_eq_true rfl), (Nat.le_of_ble_eq_true rfl)⟩ (hT.o20 (hT.k t_this (by decide))) rfl rfl hl.1 rfl (Nat.le_of_ble_eq_true rfl) dX6_number_145 zroom.rf (fun s97 H locs hφ hEs97 hT => ?_)
                have kthis_14 : zI s97 this 14 = u := ((hTo.k t_this (by decide)).eI hEs97 (by decide) rfl).trans kthis_14
                have f98 := hφ
                obtain ⟨v99, ev99⟩ : ∃ zz9 : Int32, zI s97 this 17 = zz9 := ⟨_, rfl⟩
                have qv99 : v99.toInt = (zI s97 this 17).toInt := by rw [ev99]
                have b100 : isB v99 := by have q9 : isB (zI s97 this 17) := hT.P (hT.k t_this (by decide)) (by decide); rw [ev99] at q9; exact q9
                have b100t := isB_t b100
                refine lv_goto (tgt := 173) hx hb dX6_number_148 (by decide) ?_
                have zz101 : (zI s97 this 14).toInt = u.toInt := by rw [kthis_14]
                have zz102 : (zI s97 this 17).toInt = v99.toInt := by rw [ev99]
                obtain ⟨v103, ev103⟩ : ∃ zz9 : Int32, zI s97 this 24 = zz9 := ⟨_, rfl⟩
                have qv103 : v103.toInt = (zI s97 this 24).toInt := by rw [ev103]
                have zz104 : (zI s97 this 24).toInt = v103.toInt := by rw [ev103]
                subst hQ9
                exact t_v hx hb hr hlocks hT ⟨by omega, by omega, by omega⟩ dX6_number_173
          · have c17 := gi_nle c9
            refine lv_aload_n hx hb dX6_number_49 rfl (lv_at hl 2 rfl) ?_
            obtain ⟨r105, er105⟩ : ∃ z, kR κ this 12 = z := ⟨_, rfl⟩
            have tr105 : zk σ0 r105 23 := by rw [← er105]; exact hT0.ref t_this (by decide) (by decide) (by decide)
            refine va_get (D := κ.1) (ci := 6) (v := .ref (kR κ this 12)) (C := RX6) (T := TX6) (N := 27) hx hb hg inX6 hown hK (hT.o20 (hT.k t_this (by decide))).one 0 rfl rfl 12 (by decide) (hg _ k1231) (fun _ h9 => h9) rfl dX6_number_50 ?_
            rw [er105]
            refine lv_aload_n hx hb dX6_number_53 rfl (lv_at hl 2 rfl) ?_
            refine va_get (D := κ.1) (ci := 6) (v := .int (zI s22 this 14)) (C := RX6) (T := TX6) (N := 27) hx hb hg inX6 hown hK (hT.o20 (hT.k t_this (by decide))).one 0 rfl rfl 14 (by decide) (hg _ k1233) (fun _ h9 => h9) rfl dX6_number_54 ?_
            rw [kthis_14]
            refine va_iald hx hb hK (hT.o23 (hT.k tr105 (by decide))).one 0 0 rfl rfl (g_in (by omega) (by omega)) dX6_number_57 ?_
            refine lv_topi (fun t106 ht106 => ?_)
            refine lv_i2l hx hb dX6_number_58 rfl ?_
            refine g_i2l (fun t107 ht107 => ?_)
            refine lv_ldc2 hx hb hown (hg _ k1388) dX6_number_59 ?_
            refine lv_ldc2 hx hb hown (hg _ k1389) dX6_number_62 ?_
            have hTo := hT
            refine tSi (n := 3) (As := [.long t107, .long 48, .long 57]) (rest := []) hx hb hml hown hg hT hK hX (X6_in l κ s22 t107 48 57   ) sub_fE_gN (mwS k1317 k1318 k92 k1319) ⟨rfl, by decide, by decide, by decide +kernel⟩ ⟨(Nat.le_of_ble_eq_true rfl), (Nat.le_of_ble_eq_true rfl)⟩ rfl hl.1 rfl (Nat.le_of_ble_eq_true rfl) dX6_number_65 zroom.rf (fun x108 s109 H locs hφ hEs109 hT => ?_)
            have kthis_17 : zI s109 this 17 = v3 := ((hTo.k t_this (by decide)).eI hEs109 (by decide) rfl).trans kthis_17
            have kthis_14 : zI s109 this 14 = u := ((hTo.k t_this (by decide)).eI hEs109 (by decide) rfl).trans kthis_14
            obtain ⟨f110, f111⟩ := hφ
            refine lv_if_eq (tgt := 126) hx hb dX6_number_68 (by decide) (fun c9 => ?_) (fun c9 => ?_)
            · have c18 := gi_eq c9
              refine lv_iload_n hx hb dX6_number_126 rfl (lv_at hl 1 rfl) ?_
              refine lv_if_eq (tgt := 141) hx hb dX6_number_127 (by decide) (fun c9 => ?_) (fun c9 => ?_)
              · have c19 := gi_eq c9
                refine lv_aload_n hx hb dX6_number_141 rfl (lv_at hl 2 rfl) ?_
                refine lv_iconst (v := 1) hx hb dX6_number_142 (by decide) ?_
                refine lv_iload hx hb dX6_number_143 (lv_at hl 0 rfl) ?_
                have qq112 : (zI s109 this 17).toInt = v3.toInt := by rw [kthis_17]
                have hTo := hT
                refine tVv (n := 2) (As := [.int 1, .int v16]) (rest := []) hx hb hml hown hg hT hK hX (X6_wrong l κ s109 this 1 v16  (hT.k t_this (by decide)) ) sub_gB_gN (mwV k1361 k1363 k45 k92 k1364) ⟨rfl, by decide, by decide, by decide +kernel⟩ ⟨(Nat.le_of_ble_eq_true rfl), (Nat.le_of_ble_eq_true rfl)⟩ (hT.o20 (hT.k t_this (by decide))) rfl rfl hl.1 rfl (Nat.le_of_ble_eq_true rfl) dX6_number_145 zroom.rf (fun s114 H locs hφ hEs114 hT => ?_)
                have kthis_14 : zI s114 this 14 = u := ((hTo.k t_this (by decide)).eI hEs114 (by decide) rfl).trans kthis_14
                have f115 := hφ
                obtain ⟨v116, ev116⟩ : ∃ zz9 : Int32, zI s114 this 17 = zz9 := ⟨_, rfl⟩
                have qv116 : v116.toInt = (zI s114 this 17).toInt := by rw [ev116]
                have b117 : isB v116 := by have q9 : isB (zI s114 this 17) := hT.P (hT.k t_this (by decide)) (by decide); rw [ev116] at q9; exact q9
                have b117t := isB_t b117
                refine lv_goto (tgt := 173) hx hb dX6_number_148 (by decide) ?_
                have zz118 : (zI s114 this 14).toInt = u.toInt := by rw [kthis_14]
                have zz119 : (zI s114 this 17).toInt = v116.toInt := by rw [ev116]
                obtain ⟨v120, ev120⟩ : ∃ zz9 : Int32, zI s114 this 24 = zz9 := ⟨_, rfl⟩
                have qv120 : v120.toInt = (zI s114 this 24).toInt := by rw [ev120]
                have zz121 : (zI s114 this 24).toInt = v120.toInt := by rw [ev120]
                subst hQ9
                exact t_v hx hb hr hlocks hT ⟨by omega, by omega, by omega⟩ dX6_number_173
              · have c20 := gi_ne c9
                refine lv_aload_n hx hb dX6_number_130 rfl (lv_at hl 2 rfl) ?_
                refine va_get (D := κ.1) (ci := 6) (v := .int (zI s109 this 14)) (C := RX6) (T := TX6) (N := 27) hx hb hg inX6 hown hK (hT.o20 (hT.k t_this (by decide))).one 0 rfl rfl 14 (by decide) (hg _ k1233) (fun _ h9 => h9) rfl dX6_number_131 ?_
                rw [kthis_14]
                refine lv_iload hx hb dX6_number_134 (lv_at hl 0 rfl) ?_
                refine lv_isub hx hb dX6_number_136 ?_
                first | refine g_sub (by omega) (by omega) (fun t122 ht122 => ?_) | refine lv_topi (fun t122 ht122 => ?_)
                refine lv_iconst (v := 4) hx hb dX6_number_137 (by decide) ?_
                refine lv_icmp_le (tgt := 151) hx hb dX6_number_138 (by decide) (fun c9 => ?_) (fun c9 => ?_)
                · have c21 := gi_le c9
                  refine lv_aload_n hx hb dX6_number_151 rfl (lv_at hl 2 rfl) ?_
                  obtain ⟨v123, ev123⟩ : ∃ zz9 : Int32, zI s109 this 24 = zz9 := ⟨_, rfl⟩
                  have qv123 : v123.toInt = (zI s109 this 24).toInt := by rw [ev123]
                  refine va_get (D := κ.1) (ci := 6) (v := .int (zI s109 this 24)) (C := RX6) (T := TX6) (N := 27) hx hb hg inX6 hown hK (hT.o20 (hT.k t_this (by decide))).one 0 rfl rfl 24 (by decide) (hg _ k1243) (fun _ h9 => h9) rfl dX6_number_152 ?_
                  rw [ev123]
                  refine lv_i2l hx hb dX6_number_155 rfl ?_
                  refine g_i2l (fun t124 ht124 => ?_)
                  refine lv_iload_n hx hb dX6_number_156 rfl (lv_at hl 3 rfl) ?_
                  refine lv_i2l hx hb dX6_number_157 rfl ?_
                  refine g_i2l (fun t125 ht125 => ?_)
                  refine lv_iload_n hx hb dX6_number_158 rfl (lv_at hl 4 rfl) ?_
                  refine lv_i2l hx hb dX6_number_159 rfl ?_
                  refine g_i2l (fun t126 ht126 => ?_)
                  have hTo := hT
                  refine tSi (n := 3) (As := [.long t124, .long t125, .long t126]) (rest := []) hx hb hml hown hg hT hK hX (X6_in l κ s109 t124 t125 t126   ) sub_fE_gN (mwS k1317 k1318 k92 k1319) ⟨rfl, by decide, by decide, by decide +kernel⟩ ⟨(Nat.le_of_ble_eq_true rfl), (Nat.le_of_ble_eq_true rfl)⟩ rfl hl.1 rfl (Nat.le_of_ble_eq_true rfl) dX6_number_160 zroom.rf (fun x127 s128 H locs hφ hEs128 hT => ?_)
                  have kthis_17 : zI s128 this 17 = v3 := ((hTo.k t_this (by decide)).eI hEs128 (by decide) rfl).trans kthis_17
                  have kthis_14 : zI s128 this 14 = u := ((hTo.k t_this (by decide)).eI hEs128 (by decide) rfl).trans kthis_14
                  have ev123 : zI s128 this 24 = v123 := ((hTo.k t_this (by decide)).eI hEs128 (by decide) rfl).trans ev123
                  obtain ⟨f129, f130⟩ := hφ
                  refine lv_if_ne (tgt := 173) hx hb dX6_number_163 (by decide) (fun c9 => ?_) (fun c9 => ?_)
                  · have c22 := gi_ne c9
                    have zz131 : (zI s128 this 14).toInt = u.toInt := by rw [kthis_14]
                    have zz132 : (zI s128 this 17).toInt = v3.toInt := by rw [kthis_17]
                    have zz133 : (zI s128 this 24).toInt = v123.toInt := by rw [ev123]
                    subst hQ9
                    exact t_v hx hb hr hlocks hT ⟨by omega, by omega, by omega⟩ dX6_number_173
                  · have c23 := gi_eq c9
                    refine lv_aload_n hx hb dX6_number_166 rfl (lv_at hl 2 rfl) ?_
                    refine lv_iconst (v := 2) hx hb dX6_number_167 (by decide) ?_
                    refine lv_iload hx hb dX6_number_168 (lv_at hl 0 rfl) ?_
                    have qq134 : (zI s128 this 17).toInt = v3.toInt := by rw [kthis_17]
                    have hTo := hT
                    refine tVv (n := 2) (As := [.int 2, .int v16]) (rest := []) hx hb hml hown hg hT hK hX (X6_wrong l κ s128 this 2 v16  (hT.k t_this (by decide)) ) sub_gB_gN (mwV k1361 k1363 k45 k92 k1364) ⟨rfl, by decide, by decide, by decide +kernel⟩ ⟨(Nat.le_of_ble_eq_true rfl), (Nat.le_of_ble_eq_true rfl)⟩ (hT.o20 (hT.k t_this (by decide))) rfl rfl hl.1 rfl (Nat.le_of_ble_eq_true rfl) dX6_number_170 zroom.rf (fun s136 H locs hφ hEs136 hT => ?_)
                    have kthis_14 : zI s136 this 14 = u := ((hTo.k t_this (by decide)).eI hEs136 (by decide) rfl).trans kthis_14
                    have ev123 : zI s136 this 24 = v123 := ((hTo.k t_this (by decide)).eI hEs136 (by decide) rfl).trans ev123
                    have f137 := hφ
                    obtain ⟨v138, ev138⟩ : ∃ zz9 : Int32, zI s136 this 17 = zz9 := ⟨_, rfl⟩
                    have qv138 : v138.toInt = (zI s136 this 17).toInt := by rw [ev138]
                    have b139 : isB v138 := by have q9 : isB (zI s136 this 17) := hT.P (hT.k t_this (by decide)) (by decide); rw [ev138] at q9; exact q9
                    have b139t := isB_t b139
                    have zz140 : (zI s136 this 14).toInt = u.toInt := by rw [kthis_14]
                    have zz141 : (zI s136 this 17).toInt = v138.toInt := by rw [ev138]
                    have zz142 : (zI s136 this 24).toInt = v123.toInt := by rw [ev123]
                    subst hQ9
                    exact t_v hx hb hr hlocks hT ⟨by omega, by omega, by omega⟩ dX6_number_173
                · have c24 := gi_nle c9
                  refine lv_aload_n hx hb dX6_number_141 rfl (lv_at hl 2 rfl) ?_
                  refine lv_iconst (v := 1) hx hb dX6_number_142 (by decide) ?_
                  refine lv_iload hx hb dX6_number_143 (lv_at hl 0 rfl) ?_
                  have qq143 : (zI s109 this 17).toInt = v3.toInt := by rw [kthis_17]
                  have hTo := hT
                  refine tVv (n := 2) (As := [.int 1, .int v16]) (rest := []) hx hb hml hown hg hT hK hX (X6_wrong l κ s109 this 1 v16  (hT.k t_this (by decide)) ) sub_gB_gN (mwV k1361 k1363 k45 k92 k1364) ⟨rfl, by decide, by decide, by decide +kernel⟩ ⟨(Nat.le_of_ble_eq_true rfl), (Nat.le_of_ble_eq_true rfl)⟩ (hT.o20 (hT.k t_this (by decide))) rfl rfl hl.1 rfl (Nat.le_of_ble_eq_true rfl) dX6_number_145 zroom.rf (fun s145 H locs hφ hEs145 hT => ?_)
                  have kthis_14 : zI s145 this 14 = u := ((hTo.k t_this (by decide)).eI hEs145 (by decide) rfl).trans kthis_14
                  have f146 := hφ
                  obtain ⟨v147, ev147⟩ : ∃ zz9 : Int32, zI s145 this 17 = zz9 := ⟨_, rfl⟩
                  have qv147 : v147.toInt = (zI s145 this 17).toInt := by rw [ev147]
                  have b148 : isB v147 := by have q9 : isB (zI s145 this 17) := hT.P (hT.k t_this (by decide)) (by decide); rw [ev147] at q9; exact q9
                  have b148t := isB_t b148
                  refine lv_goto (tgt := 173) hx hb dX6_number_148 (by decide) ?_
                  have zz149 : (zI s145 this 14).toInt = u.toInt := by rw [kthis_14]
                  have zz150 : (zI s145 this 17).toInt = v147.toInt := by rw [ev147]
                  obtain ⟨v151, ev151⟩ : ∃ zz9 : Int32, zI s145 this 24 = zz9 := ⟨_, rfl⟩
                  have qv151 : v151.toInt = (zI s145 this 24).toInt := by rw [ev151]
                  have zz152 : (zI s145 this 24).toInt = v151.toInt := by rw [ev151]
                  subst hQ9
                  exact t_v hx hb hr hlocks hT ⟨by omega, by omega, by omega⟩ dX6_number_173
            · have c25 := gi_ne c9
              refine lv_aload_n hx hb dX6_number_71 rfl (lv_at hl 2 rfl) ?_
              refine lv_aload_n hx hb dX6_number_72 rfl (lv_at hl 2 rfl) ?_
              refine va_get (D := κ.1) (ci := 6) (v := .int (zI s109 this 14)) (C := RX6) (T := TX6) (N := 27) hx hb hg inX6 hown hK (hT.o20 (hT.k t_this (by decide))).one 0 rfl rfl 14 (by decide) (hg _ k1233) (fun _ h9 => h9) rfl dX6_number_73 ?_
              rw [kthis_14]
              refine lv_iload hx hb dX6_number_76 (lv_at hl 0 rfl) ?_
              refine lv_isub hx hb dX6_number_78 ?_
              first | refine g_sub (by omega) (by omega) (fun t153 ht153 => ?_) | refine lv_topi (fun t153 ht153 => ?_)
              refine lv_iconst (v := 4) hx hb dX6_number_79 (by decide) ?_
              refine lv_icmp_ge (tgt := 106) hx hb dX6_number_80 (by decide) (fun c9 => ?_) (fun c9 => ?_)
              · have c26 := gi_le c9
                refine lv_aload_n hx hb dX6_number_106 rfl (lv_at hl 2 rfl) ?_
                obtain ⟨v154, ev154⟩ : ∃ zz9 : Int32, zI s109 this 24 = zz9 := ⟨_, rfl⟩
                have qv154 : v154.toInt = (zI s109 this 24).toInt := by rw [ev154]
                refine va_get (D := κ.1) (ci := 6) (v := .int (zI s109 this 24)) (C := RX6) (T := TX6) (N := 27) hx hb hg inX6 hown hK (hT.o20 (hT.k t_this (by decide))).one 0 rfl rfl 24 (by decide) (hg _ k1243) (fun _ h9 => h9) rfl dX6_number_107 ?_
                rw [ev154]
                have hTo := hT
                refine pf20_24 hx hb hg hown hK hT (hT.k t_this (by decide)) rfl (hg _ k1243) dX6_number_110 (fun H locs s155 hus155 hT => ?_)
                have kthis_17 : zI s155 this 17 = v3 := (zput_o hus155 (Or.inr (by decide))).trans kthis_17
                have kthis_14 : zI s155 this 14 = u := (zput_o hus155 (Or.inr (by decide))).trans kthis_14
                have e156 : zI s155 this 24 = v154 := zput_at hus155
                refine lv_aload_n hx hb dX6_number_113 rfl (lv_at hl 2 rfl) ?_
                refine lv_dup hx hb dX6_number_114 rfl ?_
                refine va_get (D := κ.1) (ci := 6) (v := .int (zI s155 this 14)) (C := RX6) (T := TX6) (N := 27) hx hb hg inX6 hown hK (hT.o20 (hT.k t_this (by decide))).one 0 rfl rfl 14 (by decide) (hg _ k1233) (fun _ h9 => h9) rfl dX6_number_115 ?_
                rw [kthis_14]
                refine lv_iconst (v := 1) hx hb dX6_number_118 (by decide) ?_
                refine lv_iadd hx hb dX6_number_119 ?_
                first | refine g_add (by omega) (by omega) (fun t157 ht157 => ?_) | refine lv_topi (fun t157 ht157 => ?_)
                have hTo := hT
                refine pf20_14 hx hb hg hown hK hT (hT.k t_this (by decide)) rfl (hg _ k1233) dX6_number_120 (fun H locs s158 hus158 hT => ?_)
                have kthis_17 : zI s158 this 17 = v3 := (zput_o hus158 (Or.inr (by decide))).trans kthis_17
                have e156 : zI s158 this 24 = v154 := (zput_o hus158 (Or.inr (by decide))).trans e156
                have e159 : zI s158 this 14 = t157 := zput_at hus158
                refine lv_goto (tgt := 34) hx hb dX6_number_123 (by decide) ?_
                exact ih34 t157 _ _ _ _ hT kthis_17 e159 (by omega) (by omega) hl (by omega)
              · have c27 := gi_nle c9
                refine lv_bipush (v := 10) hx hb dX6_number_83 (by decide) ?_
                refine lv_aload_n hx hb dX6_number_85 rfl (lv_at hl 2 rfl) ?_
                obtain ⟨v160, ev160⟩ : ∃ zz9 : Int32, zI s109 this 24 = zz9 := ⟨_, rfl⟩
                have qv160 : v160.toInt = (zI s109 this 24).toInt := by rw [ev160]
                refine va_get (D := κ.1) (ci := 6) (v := .int (zI s109 this 24)) (C := RX6) (T := TX6) (N := 27) hx hb hg inX6 hown hK (hT.o20 (hT.k t_this (by decide))).one 0 rfl rfl 24 (by decide) (hg _ k1243) (fun _ h9 => h9) rfl dX6_number_86 ?_
                rw [ev160]
                refine lv_imul hx hb dX6_number_89 ?_
                first | (refine g_mul (by rw [n10]; omega) (by rw [n10]; omega) (fun t161 ht161 => ?_); rw [n10] at ht161) | refine lv_topi (fun t161 ht161 => ?_)
                refine lv_aload_n hx hb dX6_number_90 rfl (lv_at hl 2 rfl) ?_
                refine va_get (D := κ.1) (ci := 6) (v := .ref (kR κ this 12)) (C := RX6) (T := TX6) (N := 27) hx hb hg inX6 hown hK (hT.o20 (hT.k t_this (by decide))).one 0 rfl rfl 12 (by decide) (hg _ k1231) (fun _ h9 => h9) rfl dX6_number_91 ?_
                rw [er105]
                refine lv_aload_n hx hb dX6_number_94 rfl (lv_at hl 2 rfl) ?_
                refine va_get (D := κ.1) (ci := 6) (v := .int (zI s109 this 14)) (C := RX6) (T := TX6) (N := 27) hx hb hg inX6 hown hK (hT.o20 (hT.k t_this (by decide))).one 0 rfl rfl 14 (by decide) (hg _ k1233) (fun _ h9 => h9) rfl dX6_number_95 ?_
                rw [kthis_14]
                refine va_iald hx hb hK (hT.o23 (hT.k tr105 (by decide))).one 0 0 rfl rfl (g_in (by omega) (by omega)) dX6_number_98 ?_
                refine lv_topi (fun t162 ht162 => ?_)
                refine lv_iadd hx hb dX6_number_99 ?_
                first | refine g_add (by omega) (by omega) (fun t163 ht163 => ?_) | refine lv_topi (fun t163 ht163 => ?_)
                refine lv_bipush (v := 48) hx hb dX6_number_100 (by decide) ?_
                refine lv_isub hx hb dX6_number_102 ?_
                first | refine g_sub (by omega) (by omega) (fun t164 ht164 => ?_) | refine lv_topi (fun t164 ht164 => ?_)
                refine lv_goto (tgt := 110) hx hb dX6_number_103 (by decide) ?_
                have hTo := hT
                refine pf20_24 hx hb hg hown hK hT (hT.k t_this (by decide)) rfl (hg _ k1243) dX6_number_110 (fun H locs s165 hus165 hT => ?_)
                have kthis_17 : zI s165 this 17 = v3 := (zput_o hus165 (Or.inr (by decide))).trans kthis_17
                have kthis_14 : zI s165 this 14 = u := (zput_o hus165 (Or.inr (by decide))).trans kthis_14
                have e166 : zI s165 this 24 = t164 := zput_at hus165
                refine lv_aload_n hx hb dX6_number_113 rfl (lv_at hl 2 rfl) ?_
                refine lv_dup hx hb dX6_number_114 rfl ?_
                refine va_get (D := κ.1) (ci := 6) (v := .int (zI s165 this 14)) (C := RX6) (T := TX6) (N := 27) hx hb hg inX6 hown hK (hT.o20 (hT.k t_this (by decide))).one 0 rfl rfl 14 (by decide) (hg _ k1233) (fun _ h9 => h9) rfl dX6_number_115 ?_
                rw [kthis_14]
                refine lv_iconst (v := 1) hx hb dX6_number_118 (by decide) ?_
                refine lv_iadd hx hb dX6_number_119 ?_
                first | refine g_add (by omega) (by omega) (fun t167 ht167 => ?_) | refine lv_topi (fun t167 ht167 => ?_)
                have hTo := hT
                refine pf20_14 hx hb hg hown hK hT (hT.k t_this (by decide)) rfl (hg _ k1233) dX6_number_120 (fun H locs s168 hus168 hT => ?_)
                have kthis_17 : zI s168 this 17 = v3 := (zput_o hus168 (Or.inr (by decide))).trans kthis_17
                have e166 : zI s168 this 24 = t164 := (zput_o hus168 (Or.inr (by decide))).trans e166
                have e169 : zI s168 this 14 = t167 := zput_at hus168
                refine lv_goto (tgt := 34) hx hb dX6_number_123 (by decide) ?_
                exact ih34 t167 _ _ _ _ hT kthis_17 e169 (by omega) (by omega) hl (by omega)
    exact loop34 ((703 - v16.toInt).toNat + 1) v16 _ _ _ _ hT ev3 ev16 (by omega) (by omega) hl (by omega)
  · have c28 := gi_ne c9
    have zz170 : (zI s6 this 14).toInt = v2.toInt := by rw [ev2]
    have zz171 : (zI s6 this 17).toInt = v3.toInt := by rw [ev3]
    have zz172 : (zI s6 this 24).toInt = (0 : Int32).toInt := by rw [e7]
    subst hQ9
    exact t_v hx hb hr hlocks hT ⟨by omega, by omega, by omega⟩ dX6_number_12
set_option maxHeartbeats 4000000 in
set_option maxRecDepth 100000 in
theorem X6_ends (l : Launch) (κ : Kt) (σ0 : Gh) (this : Nat) (t_this : zk σ0 this 20) (h0 : 0 ≤ (zI σ0 this 13).toInt) (h1 : (zI σ0 this 13).toInt ≤ 700) (h2 : 0 ≤ (zI σ0 this 14).toInt) (h3 : (zI σ0 this 14).toInt ≤ 702) : TC l yX6_ends cX6_ends 1 none 1 22 [.ref this] κ σ0 (tqv κ gHB σ0 (fun (τ : Gh) => ((zI σ0 this 14).toInt < (zI τ this 14).toInt) ∧ ((zI τ this 14).toInt ≤ (zI σ0 this 13).toInt + 1 ∨ (zI τ this 14).toInt = (zI σ0 this 14).toInt + 1) ∧ ((zI τ this 17).toInt = 1 ∨ ((zI σ0 this 17).toInt = 0 ∧ (zI τ this 14).toInt ≤ (zI σ0 this 13).toInt)))) := by
  refine TC.of gHB (by decide +kernel) (Nat.le_of_ble_eq_true rfl) ?_
  intro p e s m below meth c ls hcs hK hX hT hl
  obtain ⟨hx, hb, hr, hml, hown, hg, hlocks, hin⟩ := hcs
  have hown : s.vm.findClass RX6 = some m.cls := hown
  have hl : lv_has ls 1 [(0, .ref this)] := hl
  have hT0 := hT
  have n0 : (0 : Int32).toInt = 0 := by decide
  have n1 : (1 : Int32).toInt = 1 := by decide
  have n59 : (59 : Int32).toInt = 59 := by decide
  generalize hQ9 : tQ _ _ _ _ _ _ = Q9
  obtain ⟨v1, ev1⟩ : ∃ zz9 : Int32, zI σ0 this 13 = zz9 := ⟨_, rfl⟩
  have qv1 : v1.toInt = (zI σ0 this 13).toInt := by rw [ev1]
  obtain ⟨v2, ev2⟩ : ∃ zz9 : Int32, zI σ0 this 14 = zz9 := ⟨_, rfl⟩
  have qv2 : v2.toInt = (zI σ0 this 14).toInt := by rw [ev2]
  obtain ⟨v3, ev3⟩ : ∃ zz9 : Int32, zI σ0 this 17 = zz9 := ⟨_, rfl⟩
  have qv3 : v3.toInt = (zI σ0 this 17).toInt := by rw [ev3]
  have b4 : isB v3 := by have q9 : isB (zI σ0 this 17) := hT.P (hT.k t_this (by decide)) (by decide); rw [ev3] at q9; exact q9
  have b4t := isB_t b4
  refine lv_aload_n hx hb dX6_ends_0 rfl (lv_at hl 0 rfl) ?_
  refine va_get (D := κ.1) (ci := 6) (v := .int (zI σ0 this 17)) (C := RX6) (T := TX6) (N := 27) hx hb hg inX6 hown hK (hT.o20 (hT.k t_this (by decide))).one 0 rfl rfl 17 (by decide) (hg _ k1236) (fun _ h9 => h9) rfl dX6_ends_1 ?_
  rw [ev3]
  refine lv_if_ne (tgt := 25) hx hb dX6_ends_4 (by decide) (fun c9 => ?_) (fun c9 => ?_)
  · have c1 := gi_ne c9
    refine lv_aload_n hx hb dX6_ends_25 rfl (lv_at hl 0 rfl) ?_
    refine lv_dup hx hb dX6_ends_26 rfl ?_
    refine va_get (D := κ.1) (ci := 6) (v := .int (zI σ0 this 14)) (C := RX6) (T := TX6) (N := 27) hx hb hg inX6 hown hK (hT.o20 (hT.k t_this (by decide))).one 0 rfl rfl 14 (by decide) (hg _ k1233) (fun _ h9 => h9) rfl dX6_ends_27 ?_
    rw [ev2]
    refine lv_iconst (v := 1) hx hb dX6_ends_30 (by decide) ?_
    refine lv_iadd hx hb dX6_ends_31 ?_
    first | refine g_add (by omega) (by omega) (fun t5 ht5 => ?_) | refine lv_topi (fun t5 ht5 => ?_)
    have hTo := hT
    refine pf20_14 hx hb hg hown hK hT (hT.k t_this (by decide)) rfl (hg _ k1233) dX6_ends_32 (fun H locs s6 hus6 hT => ?_)
    have ev3 : zI s6 this 17 = v3 := (zput_o hus6 (Or.inr (by decide))).trans ev3
    have e7 : zI s6 this 14 = t5 := zput_at hus6
    have zz8 : (zI s6 this 14).toInt = t5.toInt := by rw [e7]
    have zz9 : (zI s6 this 17).toInt = v3.toInt := by rw [ev3]
    subst hQ9
    exact t_v hx hb hr hlocks hT ⟨by omega, by omega, by omega⟩ dX6_ends_35
  · have c2 := gi_eq c9
    refine lv_aload_n hx hb dX6_ends_7 rfl (lv_at hl 0 rfl) ?_
    have qq10 : (zI σ0 this 13).toInt = v1.toInt := by rw [(hT.eI t_this (by decide) rfl ev1)]
    have qq11 : (zI σ0 this 14).toInt = v2.toInt := by rw [ev2]
    have qq12 : (zI σ0 this 17).toInt = v3.toInt := by rw [ev3]
    have hTo := hT
    refine tVi (n := 0) (As := []) (rest := []) hx hb hml hown hg hT hK hX (X6_here l κ σ0 this  (hT.k t_this (by decide)) (by omega) (by omega) (by omega) (by omega)) sub_gH_gHB (mwV k1345 k1347 k42 k92 k1348) ⟨rfl, by decide, by decide, by decide +kernel⟩ ⟨(Nat.le_of_ble_eq_true rfl), (Nat.le_of_ble_eq_true rfl)⟩ (hT.o20 (hT.k t_this (by decide))) rfl rfl hl.1 rfl (Nat.le_of_ble_eq_true rfl) dX6_ends_8 zroom.rf (fun x13 s14 H locs hφ hEs14 hT => ?_)
    have ev3 : zI s14 this 17 = v3 := ((hTo.k t_this (by decide)).eI hEs14 (by decide) rfl).trans ev3
    obtain ⟨f15, f16, f17⟩ := hφ
    obtain ⟨v18, ev18⟩ : ∃ zz9 : Int32, zI s14 this 14 = zz9 := ⟨_, rfl⟩
    have qv18 : v18.toInt = (zI s14 this 14).toInt := by rw [ev18]
    refine lv_bipush (v := 59) hx hb dX6_ends_11 (by decide) ?_
    refine lv_icmp_eq (tgt := 25) hx hb dX6_ends_13 (by decide) (fun c9 => ?_) (fun c9 => ?_)
    · have c3 := gi_eq c9
      refine lv_aload_n hx hb dX6_ends_25 rfl (lv_at hl 0 rfl) ?_
      refine lv_dup hx hb dX6_ends_26 rfl ?_
      refine va_get (D := κ.1) (ci := 6) (v := .int (zI s14 this 14)) (C := RX6) (T := TX6) (N := 27) hx hb hg inX6 hown hK (hT.o20 (hT.k t_this (by decide))).one 0 rfl rfl 14 (by decide) (hg _ k1233) (fun _ h9 => h9) rfl dX6_ends_27 ?_
      rw [ev18]
      refine lv_iconst (v := 1) hx hb dX6_ends_30 (by decide) ?_
      refine lv_iadd hx hb dX6_ends_31 ?_
      first | refine g_add (by omega) (by omega) (fun t19 ht19 => ?_) | refine lv_topi (fun t19 ht19 => ?_)
      have hTo := hT
      refine pf20_14 hx hb hg hown hK hT (hT.k t_this (by decide)) rfl (hg _ k1233) dX6_ends_32 (fun H locs s20 hus20 hT => ?_)
      have ev3 : zI s20 this 17 = v3 := (zput_o hus20 (Or.inr (by decide))).trans ev3
      have e21 : zI s20 this 14 = t19 := zput_at hus20
      have zz22 : (zI s20 this 14).toInt = t19.toInt := by rw [e21]
      have zz23 : (zI s20 this 17).toInt = v3.toInt := by rw [ev3]
      subst hQ9
      exact t_v hx hb hr hlocks hT ⟨by omega, by omega, by omega⟩ dX6_ends_35
    · have c4 := gi_ne c9
      refine lv_aload_n hx hb dX6_ends_16 rfl (lv_at hl 0 rfl) ?_
      refine lv_iconst (v := 1) hx hb dX6_ends_17 (by decide) ?_
      refine lv_aload_n hx hb dX6_ends_18 rfl (lv_at hl 0 rfl) ?_
      refine va_get (D := κ.1) (ci := 6) (v := .int (zI s14 this 14)) (C := RX6) (T := TX6) (N := 27) hx hb hg inX6 hown hK (hT.o20 (hT.k t_this (by decide))).one 0 rfl rfl 14 (by decide) (hg _ k1233) (fun _ h9 => h9) rfl dX6_ends_19 ?_
      rw [ev18]
      have qq24 : (zI s14 this 17).toInt = v3.toInt := by rw [ev3]
      have hTo := hT
      refine tVv (n := 2) (As := [.int 1, .int v18]) (rest := []) hx hb hml hown hg hT hK hX (X6_wrong l κ s14 this 1 v18  (hT.k t_this (by decide)) ) sub_gB_gHB (mwV k1361 k1363 k45 k92 k1364) ⟨rfl, by decide, by decide, by decide +kernel⟩ ⟨(Nat.le_of_ble_eq_true rfl), (Nat.le_of_ble_eq_true rfl)⟩ (hT.o20 (hT.k t_this (by decide))) rfl rfl hl.1 rfl (Nat.le_of_ble_eq_true rfl) dX6_ends_22 zroom.rf (fun s26 H locs hφ hEs26 hT => ?_)
      have ev18 : zI s26 this 14 = v18 := ((hTo.k t_this (by decide)).eI hEs26 (by decide) rfl).trans ev18
      have f27 := hφ
      obtain ⟨v28, ev28⟩ : ∃ zz9 : Int32, zI s26 this 17 = zz9 := ⟨_, rfl⟩
      have qv28 : v28.toInt = (zI s26 this 17).toInt := by rw [ev28]
      have b29 : isB v28 := by have q9 : isB (zI s26 this 17) := hT.P (hT.k t_this (by decide)) (by decide); rw [ev28] at q9; exact q9
      have b29t := isB_t b29
      refine lv_aload_n hx hb dX6_ends_25 rfl (lv_at hl 0 rfl) ?_
      refine lv_dup hx hb dX6_ends_26 rfl ?_
      refine va_get (D := κ.1) (ci := 6) (v := .int (zI s26 this 14)) (C := RX6) (T := TX6) (N := 27) hx hb hg inX6 hown hK (hT.o20 (hT.k t_this (by decide))).one 0 rfl rfl 14 (by decide) (hg _ k1233) (fun _ h9 => h9) rfl dX6_ends_27 ?_
      rw [ev18]
      refine lv_iconst (v := 1) hx hb dX6_ends_30 (by decide) ?_
      refine lv_iadd hx hb dX6_ends_31 ?_
      first | refine g_add (by omega) (by omega) (fun t30 ht30 => ?_) | refine lv_topi (fun t30 ht30 => ?_)
      have hTo := hT
      refine pf20_14 hx hb hg hown hK hT (hT.k t_this (by decide)) rfl (hg _ k1233) dX6_ends_32 (fun H locs s31 hus31 hT => ?_)
      have ev28 : zI s31 this 17 = v28 := (zput_o hus31 (Or.inr (by decide))).trans ev28
      have e32 : zI s31 this 14 = t30 := zput_at hus31
      have zz33 : (zI s31 this 14).toInt = t30.toInt := by rw [e32]
      have zz34 : (zI s31 this 17).toInt = v28.toInt := by rw [ev28]
      subst hQ9
      exact t_v hx hb hr hlocks hT ⟨by omega, by omega, by omega⟩ dX6_ends_35
set_option maxHeartbeats 4000000 in
set_option maxRecDepth 100000 in
theorem X6_choice (l : Launch) (κ : Kt) (σ0 : Gh) (this : Nat) (w1 : Int64) (w2 : Int64) (w3 : Int64) (t_this : zk σ0 this 20) (h0 : 0 ≤ (zI σ0 this 13).toInt) (h1 : (zI σ0 this 13).toInt ≤ 700) (h2 : 0 ≤ (zI σ0 this 14).toInt) (h3 : (zI σ0 this 14).toInt ≤ 702) : TC l yX6_choice cX6_choice 9 (some .int) 5 115 [.ref this, .long w1, .long w2, .long w3] κ σ0 (tqi κ gHB σ0 (fun (r : Int32) (τ : Gh) => ((zI σ0 this 14).toInt ≤ (zI τ this 14).toInt) ∧ ((zI τ this 14).toInt ≤ (zI σ0 this 13).toInt ∨ (zI τ this 14).toInt = (zI σ0 this 14).toInt) ∧ ((zI τ this 17).toInt = 1 ∨ (zI σ0 this 17).toInt = 0))) := by
  refine TC.of gHB (by decide +kernel) (Nat.le_of_ble_eq_true rfl) ?_
  intro p e s m below meth c ls hcs hK hX hT hl
  obtain ⟨hx, hb, hr, hml, hown, hg, hlocks, hin⟩ := hcs
  have hown : s.vm.findClass RX6 = some m.cls := hown
  have hl : lv_has ls 9 [(0, .ref this), (1, .long w1), (3, .long w2), (5, .long w3)] := hl
  have hT0 := hT
  have nm1 : ((-1) : Int32).toInt = (-1) := by decide
  have n0 : (0 : Int32).toInt = 0 := by decide
  have n1 : (1 : Int32).toInt = 1 := by decide
  have n2 : (2 : Int32).toInt = 2 := by decide
  have j0 : (0 : Int64).toInt = 0 := by decide
  generalize hQ9 : tQ _ _ _ _ _ _ = Q9
  obtain ⟨v1, ev1⟩ : ∃ zz9 : Int32, zI σ0 this 13 = zz9 := ⟨_, rfl⟩
  have qv1 : v1.toInt = (zI σ0 this 13).toInt := by rw [ev1]
  obtain ⟨v2, ev2⟩ : ∃ zz9 : Int32, zI σ0 this 14 = zz9 := ⟨_, rfl⟩
  have qv2 : v2.toInt = (zI σ0 this 14).toInt := by rw [ev2]
  obtain ⟨v3, ev3⟩ : ∃ zz9 : Int32, zI σ0 this 17 = zz9 := ⟨_, rfl⟩
  have qv3 : v3.toInt = (zI σ0 this 17).toInt := by rw [ev3]
  have b4 : isB v3 := by have q9 : isB (zI σ0 this 17) := hT.P (hT.k t_this (by decide)) (by decide); rw [ev3] at q9; exact q9
  have b4t := isB_t b4
  refine lv_aload_n hx hb dX6_choice_0 rfl (lv_at hl 0 rfl) ?_
  refine lv_lload_n hx hb dX6_choice_1 rfl (lv_at hl 1 rfl) ?_
  have qq5 : (zI σ0 this 13).toInt = v1.toInt := by rw [(hT.eI t_this (by decide) rfl ev1)]
  have qq6 : (zI σ0 this 14).toInt = v2.toInt := by rw [ev2]
  have qq7 : (zI σ0 this 17).toInt = v3.toInt := by rw [ev3]
  have hTo := hT
  refine tVi (n := 1) (As := [.long w1]) (rest := []) hx hb hml hown hg hT hK hX (X6_takes l κ σ0 this w1  (hT.k t_this (by decide)) (by omega) (by omega) (by omega) (by omega)) sub_gH_gHB (mwV k1372 k1374 k47 k92 k1375) ⟨rfl, by decide, by decide, by decide +kernel⟩ ⟨(Nat.le_of_ble_eq_true rfl), (Nat.le_of_ble_eq_true rfl)⟩ (hT.o20 (hT.k t_this (by decide))) rfl rfl hl.1 rfl (Nat.le_of_ble_eq_true rfl) dX6_choice_2 zroom.rf (fun x8 s9 H locs hφ hEs9 hT => ?_)
  have ev3 : zI s9 this 17 = v3 := ((hTo.k t_this (by decide)).eI hEs9 (by decide) rfl).trans ev3
  obtain ⟨f10, f11, f12⟩ := hφ
  obtain ⟨v13, ev13⟩ : ∃ zz9 : Int32, zI s9 this 14 = zz9 := ⟨_, rfl⟩
  have qv13 : v13.toInt = (zI s9 this 14).toInt := by rw [ev13]
  refine lv_if_eq (tgt := 12) hx hb dX6_choice_5 (by decide) (fun c9 => ?_) (fun c9 => ?_)
  · have c1 := gi_eq c9
    refine lv_aload_n hx hb dX6_choice_12 rfl (lv_at hl 0 rfl) ?_
    refine lv_lload_n hx hb dX6_choice_13 rfl (lv_at hl 2 rfl) ?_
    have qq14 : (zI s9 this 13).toInt = v1.toInt := by rw [(hT.eI t_this (by decide) rfl ev1)]
    have qq15 : (zI s9 this 14).toInt = v13.toInt := by rw [ev13]
    have qq16 : (zI s9 this 17).toInt = v3.toInt := by rw [ev3]
    have hTo := hT
    refine tVi (n := 1) (As := [.long w2]) (rest := []) hx hb hml hown hg hT hK hX (X6_takes l κ s9 this w2  (hT.k t_this (by decide)) (by omega) (by omega) (by omega) (by omega)) sub_gH_gHB (mwV k1372 k1374 k47 k92 k1375) ⟨rfl, by decide, by decide, by decide +kernel⟩ ⟨(Nat.le_of_ble_eq_true rfl), (Nat.le_of_ble_eq_true rfl)⟩ (hT.o20 (hT.k t_this (by decide))) rfl rfl hl.1 rfl (Nat.le_of_ble_eq_true rfl) dX6_choice_14 zroom.rf (fun x17 s18 H locs hφ hEs18 hT => ?_)
    have ev3 : zI s18 this 17 = v3 := ((hTo.k t_this (by decide)).eI hEs18 (by decide) rfl).trans ev3
    obtain ⟨f19, f20, f21⟩ := hφ
    obtain ⟨v22, ev22⟩ : ∃ zz9 : Int32, zI s18 this 14 = zz9 := ⟨_, rfl⟩
    have qv22 : v22.toInt = (zI s18 this 14).toInt := by rw [ev22]
    refine lv_if_eq (tgt := 24) hx hb dX6_choice_17 (by decide) (fun c9 => ?_) (fun c9 => ?_)
    · have c2 := gi_eq c9
      refine lv_lload hx hb dX6_choice_24 (lv_at hl 3 rfl) ?_
      refine lv_lconst (v := 0) hx hb dX6_choice_26 (by decide) ?_
      refine W.lcmp hx hb dX6_choice_27 ?_
      refine lv_if_le (tgt := 44) hx hb dX6_choice_28 (by decide) (fun c9 => ?_) (fun c9 => ?_)
      · have c3 := gl_le c9
        refine lv_iconst (v := (-1)) hx hb dX6_choice_44 (by decide) ?_
        refine lv_istore (lv' := [(7, .int (-1)), (0, .ref this), (1, .long w1), (3, .long w2), (5, .long w3)]) hx hb dX6_choice_45 hl (by decide) rfl (fun ls hl => ?_)
        refine lv_iload hx hb dX6_choice_47 (lv_at hl 0 rfl) ?_
        refine lv_iconst (v := (-1)) hx hb dX6_choice_49 (by decide) ?_
        refine lv_icmp_ne (tgt := 75) hx hb dX6_choice_50 (by decide) (fun c9 => absurd (by decide) c9) (fun _ => ?_)
        refine lv_aload_n hx hb dX6_choice_53 rfl (lv_at hl 1 rfl) ?_
        refine va_get (D := κ.1) (ci := 6) (v := .int (zI s18 this 17)) (C := RX6) (T := TX6) (N := 27) hx hb hg inX6 hown hK (hT.o20 (hT.k t_this (by decide))).one 0 rfl rfl 17 (by decide) (hg _ k1236) (fun _ h9 => h9) rfl dX6_choice_54 ?_
        rw [ev3]
        refine lv_if_ne (tgt := 75) hx hb dX6_choice_57 (by decide) (fun c9 => ?_) (fun c9 => ?_)
        · have c4 := gi_ne c9
          refine lv_iload hx hb dX6_choice_75 (lv_at hl 0 rfl) ?_
          have zz23 : (zI s18 this 14).toInt = v22.toInt := by rw [ev22]
          have zz24 : (zI s18 this 17).toInt = v3.toInt := by rw [ev3]
          subst hQ9
          exact t_i hx hb hr hlocks hT ⟨by omega, by omega, by omega⟩ dX6_choice_77
        · have c5 := gi_eq c9
          refine lv_aload_n hx hb dX6_choice_60 rfl (lv_at hl 1 rfl) ?_
          have qq25 : (zI s18 this 13).toInt = v1.toInt := by rw [(hT.eI t_this (by decide) rfl ev1)]
          have qq26 : (zI s18 this 14).toInt = v22.toInt := by rw [ev22]
          have qq27 : (zI s18 this 17).toInt = v3.toInt := by rw [ev3]
          have hTo := hT
          refine tVi (n := 0) (As := []) (rest := []) hx hb hml hown hg hT hK hX (X6_here l κ s18 this  (hT.k t_this (by decide)) (by omega) (by omega) (by omega) (by omega)) sub_gH_gHB (mwV k1345 k1347 k42 k92 k1348) ⟨rfl, by decide, by decide, by decide +kernel⟩ ⟨(Nat.le_of_ble_eq_true rfl), (Nat.le_of_ble_eq_true rfl)⟩ (hT.o20 (hT.k t_this (by decide))) rfl rfl hl.1 rfl (Nat.le_of_ble_eq_true rfl) dX6_choice_61 zroom.rf (fun x28 s29 H locs hφ hEs29 hT => ?_)
          have ev3 : zI s29 this 17 = v3 := ((hTo.k t_this (by decide)).eI hEs29 (by decide) rfl).trans ev3
          obtain ⟨f30, f31, f32⟩ := hφ
          obtain ⟨v33, ev33⟩ : ∃ zz9 : Int32, zI s29 this 14 = zz9 := ⟨_, rfl⟩
          have qv33 : v33.toInt = (zI s29 this 14).toInt := by rw [ev33]
          refine lv_istore (lv' := [(8, .int x28), (7, .int (-1)), (0, .ref this), (1, .long w1), (3, .long w2), (5, .long w3)]) hx hb dX6_choice_64 hl (by decide) rfl (fun ls hl => ?_)
          refine lv_aload_n hx hb dX6_choice_66 rfl (lv_at hl 2 rfl) ?_
          refine lv_iconst (v := 1) hx hb dX6_choice_67 (by decide) ?_
          refine lv_aload_n hx hb dX6_choice_68 rfl (lv_at hl 2 rfl) ?_
          refine va_get (D := κ.1) (ci := 6) (v := .int (zI s29 this 14)) (C := RX6) (T := TX6) (N := 27) hx hb hg inX6 hown hK (hT.o20 (hT.k t_this (by decide))).one 0 rfl rfl 14 (by decide) (hg _ k1233) (fun _ h9 => h9) rfl dX6_choice_69 ?_
          rw [ev33]
          have qq34 : (zI s29 this 17).toInt = v3.toInt := by rw [ev3]
          have hTo := hT
          refine tVv (n := 2) (As := [.int 1, .int v33]) (rest := []) hx hb hml hown hg hT hK hX (X6_wrong l κ s29 this 1 v33  (hT.k t_this (by decide)) ) sub_gB_gHB (mwV k1361 k1363 k45 k92 k1364) ⟨rfl, by decide, by decide, by decide +kernel⟩ ⟨(Nat.le_of_ble_eq_true rfl), (Nat.le_of_ble_eq_true rfl)⟩ (hT.o20 (hT.k t_this (by decide))) rfl rfl hl.1 rfl (Nat.le_of_ble_eq_true rfl) dX6_choice_72 zroom.rf (fun s36 H locs hφ hEs36 hT => ?_)
          have ev33 : zI s36 this 14 = v33 := ((hTo.k t_this (by decide)).eI hEs36 (by decide) rfl).trans ev33
          have f37 := hφ
          obtain ⟨v38, ev38⟩ : ∃ zz9 : Int32, zI s36 this 17 = zz9 := ⟨_, rfl⟩
          have qv38 : v38.toInt = (zI s36 this 17).toInt := by rw [ev38]
          have b39 : isB v38 := by have q9 : isB (zI s36 this 17) := hT.P (hT.k t_this (by decide)) (by decide); rw [ev38] at q9; exact q9
          have b39t := isB_t b39
          refine lv_iload hx hb dX6_choice_75 (lv_at hl 1 rfl) ?_
          have zz40 : (zI s36 this 14).toInt = v33.toInt := by rw [ev33]
          have zz41 : (zI s36 this 17).toInt = v38.toInt := by rw [ev38]
          subst hQ9
          exact t_i hx hb hr hlocks hT ⟨by omega, by omega, by omega⟩ dX6_choice_77
      · have c6 := gl_nle c9
        refine lv_aload_n hx hb dX6_choice_31 rfl (lv_at hl 0 rfl) ?_
        refine lv_lload hx hb dX6_choice_32 (lv_at hl 3 rfl) ?_
        have qq42 : (zI s18 this 13).toInt = v1.toInt := by rw [(hT.eI t_this (by decide) rfl ev1)]
        have qq43 : (zI s18 this 14).toInt = v22.toInt := by rw [ev22]
        have qq44 : (zI s18 this 17).toInt = v3.toInt := by rw [ev3]
        have hTo := hT
        refine tVi (n := 1) (As := [.long w3]) (rest := []) hx hb hml hown hg hT hK hX (X6_takes l κ s18 this w3  (hT.k t_this (by decide)) (by omega) (by omega) (by omega) (by omega)) sub_gH_gHB (mwV k1372 k1374 k47 k92 k1375) ⟨rfl, by decide, by decide, by decide +kernel⟩ ⟨(Nat.le_of_ble_eq_true rfl), (Nat.le_of_ble_eq_true rfl)⟩ (hT.o20 (hT.k t_this (by decide))) rfl rfl hl.1 rfl (Nat.le_of_ble_eq_true rfl) dX6_choice_34 zroom.rf (fun x45 s46 H locs hφ hEs46 hT => ?_)
        have ev3 : zI s46 this 17 = v3 := ((hTo.k t_this (by decide)).eI hEs46 (by decide) rfl).trans ev3
        obtain ⟨f47, f48, f49⟩ := hφ
        obtain ⟨v50, ev50⟩ : ∃ zz9 : Int32, zI s46 this 14 = zz9 := ⟨_, rfl⟩
        have qv50 : v50.toInt = (zI s46 this 14).toInt := by rw [ev50]
        refine lv_if_eq (tgt := 44) hx hb dX6_choice_37 (by decide) (fun c9 => ?_) (fun c9 => ?_)
        · have c7 := gi_eq c9
          refine lv_iconst (v := (-1)) hx hb dX6_choice_44 (by decide) ?_
          refine lv_istore (lv' := [(7, .int (-1)), (0, .ref this), (1, .long w1), (3, .long w2), (5, .long w3)]) hx hb dX6_choice_45 hl (by decide) rfl (fun ls hl => ?_)
          refine lv_iload hx hb dX6_choice_47 (lv_at hl 0 rfl) ?_
          refine lv_iconst (v := (-1)) hx hb dX6_choice_49 (by decide) ?_
          refine lv_icmp_ne (tgt := 75) hx hb dX6_choice_50 (by decide) (fun c9 => absurd (by decide) c9) (fun _ => ?_)
          refine lv_aload_n hx hb dX6_choice_53 rfl (lv_at hl 1 rfl) ?_
          refine va_get (D := κ.1) (ci := 6) (v := .int (zI s46 this 17)) (C := RX6) (T := TX6) (N := 27) hx hb hg inX6 hown hK (hT.o20 (hT.k t_this (by decide))).one 0 rfl rfl 17 (by decide) (hg _ k1236) (fun _ h9 => h9) rfl dX6_choice_54 ?_
          rw [ev3]
          refine lv_if_ne (tgt := 75) hx hb dX6_choice_57 (by decide) (fun c9 => ?_) (fun c9 => ?_)
          · have c8 := gi_ne c9
            refine lv_iload hx hb dX6_choice_75 (lv_at hl 0 rfl) ?_
            have zz51 : (zI s46 this 14).toInt = v50.toInt := by rw [ev50]
            have zz52 : (zI s46 this 17).toInt = v3.toInt := by rw [ev3]
            subst hQ9
            exact t_i hx hb hr hlocks hT ⟨by omega, by omega, by omega⟩ dX6_choice_77
          · have c9 := gi_eq c9
            refine lv_aload_n hx hb dX6_choice_60 rfl (lv_at hl 1 rfl) ?_
            have qq53 : (zI s46 this 13).toInt = v1.toInt := by rw [(hT.eI t_this (by decide) rfl ev1)]
            have qq54 : (zI s46 this 14).toInt = v50.toInt := by rw [ev50]
            have qq55 : (zI s46 this 17).toInt = v3.toInt := by rw [ev3]
            have hTo := hT
            refine tVi (n := 0) (As := []) (rest := []) hx hb hml hown hg hT hK hX (X6_here l κ s46 this  (hT.k t_this (by decide)) (by omega) (by omega) (by omega) (by omega)) sub_gH_gHB (mwV k1345 k1347 k42 k92 k1348) ⟨rfl, by decide, by decide, by decide +kernel⟩ ⟨(Nat.le_of_ble_eq_true rfl), (Nat.le_of_ble_eq_true rfl)⟩ (hT.o20 (hT.k t_this (by decide))) rfl rfl hl.1 rfl (Nat.le_of_ble_eq_true rfl) dX6_choice_61 zroom.rf (fun x56 s57 H locs hφ hEs57 hT => ?_)
            have ev3 : zI s57 this 17 = v3 := ((hTo.k t_this (by decide)).eI hEs57 (by decide) rfl).trans ev3
            obtain ⟨f58, f59, f60⟩ := hφ
            obtain ⟨v61, ev61⟩ : ∃ zz9 : Int32, zI s57 this 14 = zz9 := ⟨_, rfl⟩
            have qv61 : v61.toInt = (zI s57 this 14).toInt := by rw [ev61]
            refine lv_istore (lv' := [(8, .int x56), (7, .int (-1)), (0, .ref this), (1, .long w1), (3, .long w2), (5, .long w3)]) hx hb dX6_choice_64 hl (by decide) rfl (fun ls hl => ?_)
            refine lv_aload_n hx hb dX6_choice_66 rfl (lv_at hl 2 rfl) ?_
            refine lv_iconst (v := 1) hx hb dX6_choice_67 (by decide) ?_
            refine lv_aload_n hx hb dX6_choice_68 rfl (lv_at hl 2 rfl) ?_
            refine va_get (D := κ.1) (ci := 6) (v := .int (zI s57 this 14)) (C := RX6) (T := TX6) (N := 27) hx hb hg inX6 hown hK (hT.o20 (hT.k t_this (by decide))).one 0 rfl rfl 14 (by decide) (hg _ k1233) (fun _ h9 => h9) rfl dX6_choice_69 ?_
            rw [ev61]
            have qq62 : (zI s57 this 17).toInt = v3.toInt := by rw [ev3]
            have hTo := hT
            refine tVv (n := 2) (As := [.int 1, .int v61]) (rest := []) hx hb hml hown hg hT hK hX (X6_wrong l κ s57 this 1 v61  (hT.k t_this (by decide)) ) sub_gB_gHB (mwV k1361 k1363 k45 k92 k1364) ⟨rfl, by decide, by decide, by decide +kernel⟩ ⟨(Nat.le_of_ble_eq_true rfl), (Nat.le_of_ble_eq_true rfl)⟩ (hT.o20 (hT.k t_this (by decide))) rfl rfl hl.1 rfl (Nat.le_of_ble_eq_true rfl) dX6_choice_72 zroom.rf (fun s64 H locs hφ hEs64 hT => ?_)
            have ev61 : zI s64 this 14 = v61 := ((hTo.k t_this (by decide)).eI hEs64 (by decide) rfl).trans ev61
            have f65 := hφ
            obtain ⟨v66, ev66⟩ : ∃ zz9 : Int32, zI s64 this 17 = zz9 := ⟨_, rfl⟩
            have qv66 : v66.toInt = (zI s64 this 17).toInt := by rw [ev66]
            have b67 : isB v66 := by have q9 : isB (zI s64 this 17) := hT.P (hT.k t_this (by decide)) (by decide); rw [ev66] at q9; exact q9
            have b67t := isB_t b67
            refine lv_iload hx hb dX6_choice_75 (lv_at hl 1 rfl) ?_
            have zz68 : (zI s64 this 14).toInt = v61.toInt := by rw [ev61]
            have zz69 : (zI s64 this 17).toInt = v66.toInt := by rw [ev66]
            subst hQ9
            exact t_i hx hb hr hlocks hT ⟨by omega, by omega, by omega⟩ dX6_choice_77
        · have c10 := gi_ne c9
          refine lv_iconst (v := 2) hx hb dX6_choice_40 (by decide) ?_
          refine lv_goto (tgt := 45) hx hb dX6_choice_41 (by decide) ?_
          refine lv_istore (lv' := [(7, .int 2), (0, .ref this), (1, .long w1), (3, .long w2), (5, .long w3)]) hx hb dX6_choice_45 hl (by decide) rfl (fun ls hl => ?_)
          refine lv_iload hx hb dX6_choice_47 (lv_at hl 0 rfl) ?_
          refine lv_iconst (v := (-1)) hx hb dX6_choice_49 (by decide) ?_
          refine lv_icmp_ne (tgt := 75) hx hb dX6_choice_50 (by decide) (fun _ => ?_) (fun c9 => absurd c9 (by decide))
          refine lv_iload hx hb dX6_choice_75 (lv_at hl 0 rfl) ?_
          have zz70 : (zI s46 this 14).toInt = v50.toInt := by rw [ev50]
          have zz71 : (zI s46 this 17).toInt = v3.toInt := by rw [ev3]
          subst hQ9
          exact t_i hx hb hr hlocks hT ⟨by omega, by omega, by omega⟩ dX6_choice_77
    · have c11 := gi_ne c9
      refine lv_iconst (v := 1) hx hb dX6_choice_20 (by decide) ?_
      refine lv_goto (tgt := 45) hx hb dX6_choice_21 (by decide) ?_
      refine lv_istore (lv' := [(7, .int 1), (0, .ref this), (1, .long w1), (3, .long w2), (5, .long w3)]) hx hb dX6_choice_45 hl (by decide) rfl (fun ls hl => ?_)
      refine lv_iload hx hb dX6_choice_47 (lv_at hl 0 rfl) ?_
      refine lv_iconst (v := (-1)) hx hb dX6_choice_49 (by decide) ?_
      refine lv_icmp_ne (tgt := 75) hx hb dX6_choice_50 (by decide) (fun _ => ?_) (fun c9 => absurd c9 (by decide))
      refine lv_iload hx hb dX6_choice_75 (lv_at hl 0 rfl) ?_
      have zz72 : (zI s18 this 14).toInt = v22.toInt := by rw [ev22]
      have zz73 : (zI s18 this 17).toInt = v3.toInt := by rw [ev3]
      subst hQ9
      exact t_i hx hb hr hlocks hT ⟨by omega, by omega, by omega⟩ dX6_choice_77
  · have c12 := gi_ne c9
    refine lv_iconst (v := 0) hx hb dX6_choice_8 (by decide) ?_
    refine lv_goto (tgt := 45) hx hb dX6_choice_9 (by decide) ?_
    refine lv_istore (lv' := [(7, .int 0), (0, .ref this), (1, .long w1), (3, .long w2), (5, .long w3)]) hx hb dX6_choice_45 hl (by decide) rfl (fun ls hl => ?_)
    refine lv_iload hx hb dX6_choice_47 (lv_at hl 0 rfl) ?_
    refine lv_iconst (v := (-1)) hx hb dX6_choice_49 (by decide) ?_
    refine lv_icmp_ne (tgt := 75) hx hb dX6_choice_50 (by decide) (fun _ => ?_) (fun c9 => absurd c9 (by decide))
    refine lv_iload hx hb dX6_choice_75 (lv_at hl 0 rfl) ?_
    have zz74 : (zI s9 this 14).toInt = v13.toInt := by rw [ev13]
    have zz75 : (zI s9 this 17).toInt = v3.toInt := by rw [ev3]
    subst hQ9
    exact t_i hx hb hr hlocks hT ⟨by omega, by omega, by omega⟩ dX6_choice_77
set_option maxHeartbeats 4000000 in
set_option maxRecDepth 100000 in
theorem X6_begins (l : Launch) (κ : Kt) (σ0 : Gh) (this : Nat) (bt : Int32) (t_this : zk σ0 this 20) (h0 : 0 ≤ (zI σ0 this 13).toInt) (h1 : (zI σ0 this 13).toInt ≤ 700) (h2 : 0 ≤ (zI σ0 this 14).toInt) (h3 : (zI σ0 this 14).toInt ≤ 702) : TC l yX6_begins cX6_begins 2 (some .boolean) 2 46 [.ref this, .int bt] κ σ0 (tqi κ gBe σ0 (fun (r : Int32) (τ : Gh) => ((zI σ0 this 14).toInt ≤ (zI τ this 14).toInt) ∧ ((zI τ this 14).toInt ≤ (zI σ0 this 13).toInt ∨ (zI τ this 14).toInt = (zI σ0 this 14).toInt) ∧ ((zI τ this 17).toInt = 1 ∨ (zI σ0 this 17).toInt = 0) ∧ (isB r))) := by
  refine TC.of gBe (by decide +kernel) (Nat.le_of_ble_eq_true rfl) ?_
  intro p e s m below meth c ls hcs hK hX hT hl
  obtain ⟨hx, hb, hr, hml, hown, hg, hlocks, hin⟩ := hcs
  have hown : s.vm.findClass RX6 = some m.cls := hown
  have hl : lv_has ls 2 [(0, .ref this), (1, .int bt)] := hl
  have hT0 := hT
  have n0 : (0 : Int32).toInt = 0 := by decide
  have n1 : (1 : Int32).toInt = 1 := by decide
  have n3 : (3 : Int32).toInt = 3 := by decide
  have bt_lo := Int32.le_toInt bt
  have bt_hi := Int32.toInt_lt bt
  generalize hQ9 : tQ _ _ _ _ _ _ = Q9
  obtain ⟨v1, ev1⟩ : ∃ zz9 : Int32, zI σ0 this 13 = zz9 := ⟨_, rfl⟩
  have qv1 : v1.toInt = (zI σ0 this 13).toInt := by rw [ev1]
  obtain ⟨v2, ev2⟩ : ∃ zz9 : Int32, zI σ0 this 14 = zz9 := ⟨_, rfl⟩
  have qv2 : v2.toInt = (zI σ0 this 14).toInt := by rw [ev2]
  obtain ⟨v3, ev3⟩ : ∃ zz9 : Int32, zI σ0 this 17 = zz9 := ⟨_, rfl⟩
  have qv3 : v3.toInt = (zI σ0 this 17).toInt := by rw [ev3]
  have b4 : isB v3 := by have q9 : isB (zI σ0 this 17) := hT.P (hT.k t_this (by decide)) (by decide); rw [ev3] at q9; exact q9
  have b4t := isB_t b4
  refine lv_aload_n hx hb dX6_begins_0 rfl (lv_at hl 0 rfl) ?_
  obtain ⟨v5, ev5⟩ : ∃ zz9 : Int32, zI σ0 this 23 = zz9 := ⟨_, rfl⟩
  have qv5 : v5.toInt = (zI σ0 this 23).toInt := by rw [ev5]
  refine va_get (D := κ.1) (ci := 6) (v := .int (zI σ0 this 23)) (C := RX6) (T := TX6) (N := 27) hx hb hg inX6 hown hK (hT.o20 (hT.k t_this (by decide))).one 0 rfl rfl 23 (by decide) (hg _ k1242) (fun _ h9 => h9) rfl dX6_begins_1 ?_
  rw [ev5]
  refine lv_iload_n hx hb dX6_begins_4 rfl (lv_at hl 1 rfl) ?_
  refine lv_ishr hx hb dX6_begins_5 ?_
  refine lv_topi (fun t6 ht6 => ?_)
  refine lv_iconst (v := 1) hx hb dX6_begins_6 (by decide) ?_
  refine lv_iand hx hb dX6_begins_7 ?_
  refine lv_topi (fun t7 ht7 => ?_)
  refine lv_iconst (v := 1) hx hb dX6_begins_8 (by decide) ?_
  refine lv_icmp_ne (tgt := 23) hx hb dX6_begins_9 (by decide) (fun c9 => ?_) (fun c9 => ?_)
  · have c1 := gi_ne c9
    refine lv_aload_n hx hb dX6_begins_23 rfl (lv_at hl 0 rfl) ?_
    refine lv_dup hx hb dX6_begins_24 rfl ?_
    refine va_get (D := κ.1) (ci := 6) (v := .int (zI σ0 this 23)) (C := RX6) (T := TX6) (N := 27) hx hb hg inX6 hown hK (hT.o20 (hT.k t_this (by decide))).one 0 rfl rfl 23 (by decide) (hg _ k1242) (fun _ h9 => h9) rfl dX6_begins_25 ?_
    rw [ev5]
    refine lv_iconst (v := 1) hx hb dX6_begins_28 (by decide) ?_
    refine lv_iload_n hx hb dX6_begins_29 rfl (lv_at hl 1 rfl) ?_
    refine lv_ishl hx hb dX6_begins_30 ?_
    refine lv_topi (fun t8 ht8 => ?_)
    refine lv_ior hx hb dX6_begins_31 ?_
    refine lv_topi (fun t9 ht9 => ?_)
    have hTo := hT
    refine pf20_23 hx hb hg hown hK hT (hT.k t_this (by decide)) rfl (hg _ k1242) dX6_begins_32 (fun H locs s10 hus10 hT => ?_)
    have ev2 : zI s10 this 14 = v2 := (zput_o hus10 (Or.inr (by decide))).trans ev2
    have ev3 : zI s10 this 17 = v3 := (zput_o hus10 (Or.inr (by decide))).trans ev3
    have e11 : zI s10 this 23 = t9 := zput_at hus10
    refine lv_aload_n hx hb dX6_begins_35 rfl (lv_at hl 0 rfl) ?_
    refine lv_aload_n hx hb dX6_begins_36 rfl (lv_at hl 0 rfl) ?_
    have qq12 : (zI s10 this 13).toInt = v1.toInt := by rw [(hT.eI t_this (by decide) rfl ev1)]
    have qq13 : (zI s10 this 14).toInt = v2.toInt := by rw [ev2]
    have qq14 : (zI s10 this 17).toInt = v3.toInt := by rw [ev3]
    have hTo := hT
    refine tVi (n := 0) (As := []) (rest := [.ref this]) hx hb hml hown hg hT hK hX (X6_wordEnd l κ s10 this  (hT.k t_this (by decide)) (by omega) (by omega) (by omega) (by omega)) sub_fE_gBe (mwV k1349 k1351 k43 k92 k1352) ⟨rfl, by decide, by decide, by decide +kernel⟩ ⟨(Nat.le_of_ble_eq_true rfl), (Nat.le_of_ble_eq_true rfl)⟩ (hT.o20 (hT.k t_this (by decide))) rfl rfl hl.1 rfl (Nat.le_of_ble_eq_true rfl) dX6_begins_37 zroom.rf (fun x15 s16 H locs hφ hEs16 hT => ?_)
    have ev2 : zI s16 this 14 = v2 := ((hTo.k t_this (by decide)).eI hEs16 (by decide) rfl).trans ev2
    have ev3 : zI s16 this 17 = v3 := ((hTo.k t_this (by decide)).eI hEs16 (by decide) rfl).trans ev3
    have e11 : zI s16 this 23 = t9 := ((hTo.k t_this (by decide)).eI hEs16 (by decide) rfl).trans e11
    obtain ⟨f17, f18⟩ := hφ
    have hTo := hT
    refine pf20_14 hx hb hg hown hK hT (hT.k t_this (by decide)) rfl (hg _ k1233) dX6_begins_40 (fun H locs s19 hus19 hT => ?_)
    have ev3 : zI s19 this 17 = v3 := (zput_o hus19 (Or.inr (by decide))).trans ev3
    have e11 : zI s19 this 23 = t9 := (zput_o hus19 (Or.inr (by decide))).trans e11
    have e20 : zI s19 this 14 = x15 := zput_at hus19
    refine lv_iconst (v := 1) hx hb dX6_begins_43 (by decide) ?_
    have zz21 : (zI s19 this 14).toInt = x15.toInt := by rw [e20]
    have zz22 : (zI s19 this 17).toInt = v3.toInt := by rw [ev3]
    subst hQ9
    exact t_z hx hb hr isB1 hlocks hT ⟨by omega, by omega, by omega, isB1⟩ dX6_begins_44
  · have c2 := gi_eq c9
    refine lv_aload_n hx hb dX6_begins_12 rfl (lv_at hl 0 rfl) ?_
    refine lv_iconst (v := 3) hx hb dX6_begins_13 (by decide) ?_
    refine lv_aload_n hx hb dX6_begins_14 rfl (lv_at hl 0 rfl) ?_
    refine va_get (D := κ.1) (ci := 6) (v := .int (zI σ0 this 14)) (C := RX6) (T := TX6) (N := 27) hx hb hg inX6 hown hK (hT.o20 (hT.k t_this (by decide))).one 0 rfl rfl 14 (by decide) (hg _ k1233) (fun _ h9 => h9) rfl dX6_begins_15 ?_
    rw [ev2]
    have qq23 : (zI σ0 this 17).toInt = v3.toInt := by rw [ev3]
    have hTo := hT
    refine tVv (n := 2) (As := [.int 3, .int v2]) (rest := []) hx hb hml hown hg hT hK hX (X6_wrong l κ σ0 this 3 v2  (hT.k t_this (by decide)) ) sub_gB_gBe (mwV k1361 k1363 k45 k92 k1364) ⟨rfl, by decide, by decide, by decide +kernel⟩ ⟨(Nat.le_of_ble_eq_true rfl), (Nat.le_of_ble_eq_true rfl)⟩ (hT.o20 (hT.k t_this (by decide))) rfl rfl hl.1 rfl (Nat.le_of_ble_eq_true rfl) dX6_begins_18 zroom.rf (fun s25 H locs hφ hEs25 hT => ?_)
    have ev2 : zI s25 this 14 = v2 := ((hTo.k t_this (by decide)).eI hEs25 (by decide) rfl).trans ev2
    have ev5 : zI s25 this 23 = v5 := ((hTo.k t_this (by decide)).eI hEs25 (by decide) rfl).trans ev5
    have f26 := hφ
    obtain ⟨v27, ev27⟩ : ∃ zz9 : Int32, zI s25 this 17 = zz9 := ⟨_, rfl⟩
    have qv27 : v27.toInt = (zI s25 this 17).toInt := by rw [ev27]
    have b28 : isB v27 := by have q9 : isB (zI s25 this 17) := hT.P (hT.k t_this (by decide)) (by decide); rw [ev27] at q9; exact q9
    have b28t := isB_t b28
    refine lv_iconst (v := 0) hx hb dX6_begins_21 (by decide) ?_
    have zz29 : (zI s25 this 14).toInt = v2.toInt := by rw [ev2]
    have zz30 : (zI s25 this 17).toInt = v27.toInt := by rw [ev27]
    subst hQ9
    exact t_z hx hb hr isB0 hlocks hT ⟨by omega, by omega, by omega, isB0⟩ dX6_begins_22

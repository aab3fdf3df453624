/-! The reference over any state: prediction, shares -/
theorem k68 : Cond.selects RX6 yX6_isLeftNearer yX6_isLeftNearer ∈ GW := gm 68 (by decide +kernel) (by decide +kernel)
theorem k1469 : Cond.methodLink RX6 232 yX6_floor ∈ GW := gm 1469 (by decide +kernel) (by decide +kernel)
theorem k1470 : Cond.static yX6_floor ∈ GW := gm 1470 (by decide +kernel) (by decide +kernel)
theorem k1471 : Cond.code yX6_floor cX6_floor 6 (some .long) ∈ GW := gm 1471 (by decide +kernel) (by decide +kernel)
theorem k1543 : Cond.methodLink RX6 254 yX6_isLeftNearer ∈ GW := gm 1543 (by decide +kernel) (by decide +kernel)
theorem k1545 : Cond.instanceMethod yX6_isLeftNearer ∈ GW := gm 1545 (by decide +kernel) (by decide +kernel)
theorem k1546 : Cond.code yX6_isLeftNearer cX6_isLeftNearer 4 (some .boolean) ∈ GW := gm 1546 (by decide +kernel) (by decide +kernel)
theorem dX6_isLeftNearer_0 : decode cX6_isLeftNearer 0 = .ok (.aload_n 0, 1) := by decide +kernel
theorem dX6_isLeftNearer_1 : decode cX6_isLeftNearer 1 = .ok (.getfield 23, 3) := by decide +kernel
theorem dX6_isLeftNearer_4 : decode cX6_isLeftNearer 4 = .ok (.iload_n 1, 1) := by decide +kernel
theorem dX6_isLeftNearer_5 : decode cX6_isLeftNearer 5 = .ok (.iaload, 1) := by decide +kernel
theorem dX6_isLeftNearer_6 : decode cX6_isLeftNearer 6 = .ok (.aload_n 0, 1) := by decide +kernel
theorem dX6_isLeftNearer_7 : decode cX6_isLeftNearer 7 = .ok (.getfield 23, 3) := by decide +kernel
theorem dX6_isLeftNearer_10 : decode cX6_isLeftNearer 10 = .ok (.iload_n 2, 1) := by decide +kernel
theorem dX6_isLeftNearer_11 : decode cX6_isLeftNearer 11 = .ok (.iaload, 1) := by decide +kernel
theorem dX6_isLeftNearer_12 : decode cX6_isLeftNearer 12 = .ok (.isub, 1) := by decide +kernel
theorem dX6_isLeftNearer_13 : decode cX6_isLeftNearer 13 = .ok (.aload_n 0, 1) := by decide +kernel
theorem dX6_isLeftNearer_14 : decode cX6_isLeftNearer 14 = .ok (.getfield 23, 3) := by decide +kernel
theorem dX6_isLeftNearer_17 : decode cX6_isLeftNearer 17 = .ok (.iload_n 3, 1) := by decide +kernel
theorem dX6_isLeftNearer_18 : decode cX6_isLeftNearer 18 = .ok (.iaload, 1) := by decide +kernel
theorem dX6_isLeftNearer_19 : decode cX6_isLeftNearer 19 = .ok (.aload_n 0, 1) := by decide +kernel
theorem dX6_isLeftNearer_20 : decode cX6_isLeftNearer 20 = .ok (.getfield 23, 3) := by decide +kernel
theorem dX6_isLeftNearer_23 : decode cX6_isLeftNearer 23 = .ok (.iload_n 1, 1) := by decide +kernel
theorem dX6_isLeftNearer_24 : decode cX6_isLeftNearer 24 = .ok (.iaload, 1) := by decide +kernel
theorem dX6_isLeftNearer_25 : decode cX6_isLeftNearer 25 = .ok (.isub, 1) := by decide +kernel
theorem dX6_isLeftNearer_26 : decode cX6_isLeftNearer 26 = .ok (.if_icmp .gt 7, 3) := by decide +kernel
theorem dX6_isLeftNearer_29 : decode cX6_isLeftNearer 29 = .ok (.iconst 1, 1) := by decide +kernel
theorem dX6_isLeftNearer_30 : decode cX6_isLeftNearer 30 = .ok (.goto 4, 3) := by decide +kernel
theorem dX6_isLeftNearer_33 : decode cX6_isLeftNearer 33 = .ok (.iconst 0, 1) := by decide +kernel
theorem dX6_isLeftNearer_34 : decode cX6_isLeftNearer 34 = .ok (.ireturn, 1) := by decide +kernel
theorem dX6_predicted_0 : decode cX6_predicted 0 = .ok (.iload 4, 2) := by decide +kernel
theorem dX6_predicted_2 : decode cX6_predicted 2 = .ok (.ifCond .eq 19, 3) := by decide +kernel
theorem dX6_predicted_5 : decode cX6_predicted 5 = .ok (.iload 4, 2) := by decide +kernel
theorem dX6_predicted_7 : decode cX6_predicted 7 = .ok (.iconst 1, 1) := by decide +kernel
theorem dX6_predicted_8 : decode cX6_predicted 8 = .ok (.if_icmp .ne 22, 3) := by decide +kernel
theorem dX6_predicted_11 : decode cX6_predicted 11 = .ok (.aload_n 0, 1) := by decide +kernel
theorem dX6_predicted_12 : decode cX6_predicted 12 = .ok (.iload_n 1, 1) := by decide +kernel
theorem dX6_predicted_13 : decode cX6_predicted 13 = .ok (.iload_n 2, 1) := by decide +kernel
theorem dX6_predicted_14 : decode cX6_predicted 14 = .ok (.iload_n 3, 1) := by decide +kernel
theorem dX6_predicted_15 : decode cX6_predicted 15 = .ok (.invokevirtual 254, 3) := by decide +kernel
theorem dX6_predicted_18 : decode cX6_predicted 18 = .ok (.ifCond .eq 12, 3) := by decide +kernel
theorem dX6_predicted_21 : decode cX6_predicted 21 = .ok (.aload_n 0, 1) := by decide +kernel
theorem dX6_predicted_22 : decode cX6_predicted 22 = .ok (.getfield 7, 3) := by decide +kernel
theorem dX6_predicted_25 : decode cX6_predicted 25 = .ok (.iconst 5, 1) := by decide +kernel
theorem dX6_predicted_26 : decode cX6_predicted 26 = .ok (.iload_n 2, 1) := by decide +kernel
theorem dX6_predicted_27 : decode cX6_predicted 27 = .ok (.iadd, 1) := by decide +kernel
theorem dX6_predicted_28 : decode cX6_predicted 28 = .ok (.laload, 1) := by decide +kernel
theorem dX6_predicted_29 : decode cX6_predicted 29 = .ok (.lreturn, 1) := by decide +kernel
theorem dX6_predicted_30 : decode cX6_predicted 30 = .ok (.iload 4, 2) := by decide +kernel
theorem dX6_predicted_32 : decode cX6_predicted 32 = .ok (.iconst 1, 1) := by decide +kernel
theorem dX6_predicted_33 : decode cX6_predicted 33 = .ok (.if_icmp .ne 12, 3) := by decide +kernel
theorem dX6_predicted_36 : decode cX6_predicted 36 = .ok (.aload_n 0, 1) := by decide +kernel
theorem dX6_predicted_37 : decode cX6_predicted 37 = .ok (.getfield 7, 3) := by decide +kernel
theorem dX6_predicted_40 : decode cX6_predicted 40 = .ok (.iconst 5, 1) := by decide +kernel
theorem dX6_predicted_41 : decode cX6_predicted 41 = .ok (.iload_n 3, 1) := by decide +kernel
theorem dX6_predicted_42 : decode cX6_predicted 42 = .ok (.iadd, 1) := by decide +kernel
theorem dX6_predicted_43 : decode cX6_predicted 43 = .ok (.laload, 1) := by decide +kernel
theorem dX6_predicted_44 : decode cX6_predicted 44 = .ok (.lreturn, 1) := by decide +kernel
theorem dX6_predicted_45 : decode cX6_predicted 45 = .ok (.aload_n 0, 1) := by decide +kernel
theorem dX6_predicted_46 : decode cX6_predicted 46 = .ok (.getfield 7, 3) := by decide +kernel
theorem dX6_predicted_49 : decode cX6_predicted 49 = .ok (.iconst 5, 1) := by decide +kernel
theorem dX6_predicted_50 : decode cX6_predicted 50 = .ok (.iload_n 2, 1) := by decide +kernel
theorem dX6_predicted_51 : decode cX6_predicted 51 = .ok (.iadd, 1) := by decide +kernel
theorem dX6_predicted_52 : decode cX6_predicted 52 = .ok (.laload, 1) := by decide +kernel
theorem dX6_predicted_53 : decode cX6_predicted 53 = .ok (.aload_n 0, 1) := by decide +kernel
theorem dX6_predicted_54 : decode cX6_predicted 54 = .ok (.getfield 7, 3) := by decide +kernel
theorem dX6_predicted_57 : decode cX6_predicted 57 = .ok (.iconst 5, 1) := by decide +kernel
theorem dX6_predicted_58 : decode cX6_predicted 58 = .ok (.iload_n 3, 1) := by decide +kernel
theorem dX6_predicted_59 : decode cX6_predicted 59 = .ok (.iadd, 1) := by decide +kernel
theorem dX6_predicted_60 : decode cX6_predicted 60 = .ok (.laload, 1) := by decide +kernel
theorem dX6_predicted_61 : decode cX6_predicted 61 = .ok (.aload_n 0, 1) := by decide +kernel
theorem dX6_predicted_62 : decode cX6_predicted 62 = .ok (.getfield 7, 3) := by decide +kernel
theorem dX6_predicted_65 : decode cX6_predicted 65 = .ok (.iconst 5, 1) := by decide +kernel
theorem dX6_predicted_66 : decode cX6_predicted 66 = .ok (.iload_n 2, 1) := by decide +kernel
theorem dX6_predicted_67 : decode cX6_predicted 67 = .ok (.iadd, 1) := by decide +kernel
theorem dX6_predicted_68 : decode cX6_predicted 68 = .ok (.laload, 1) := by decide +kernel
theorem dX6_predicted_69 : decode cX6_predicted 69 = .ok (.lsub, 1) := by decide +kernel
theorem dX6_predicted_70 : decode cX6_predicted 70 = .ok (.aload_n 0, 1) := by decide +kernel
theorem dX6_predicted_71 : decode cX6_predicted 71 = .ok (.getfield 23, 3) := by decide +kernel
theorem dX6_predicted_74 : decode cX6_predicted 74 = .ok (.iload_n 1, 1) := by decide +kernel
theorem dX6_predicted_75 : decode cX6_predicted 75 = .ok (.iaload, 1) := by decide +kernel
theorem dX6_predicted_76 : decode cX6_predicted 76 = .ok (.aload_n 0, 1) := by decide +kernel
theorem dX6_predicted_77 : decode cX6_predicted 77 = .ok (.getfield 23, 3) := by decide +kernel
theorem dX6_predicted_80 : decode cX6_predicted 80 = .ok (.iload_n 2, 1) := by decide +kernel
theorem dX6_predicted_81 : decode cX6_predicted 81 = .ok (.iaload, 1) := by decide +kernel
theorem dX6_predicted_82 : decode cX6_predicted 82 = .ok (.isub, 1) := by decide +kernel
theorem dX6_predicted_83 : decode cX6_predicted 83 = .ok (.i2l, 1) := by decide +kernel
theorem dX6_predicted_84 : decode cX6_predicted 84 = .ok (.lmul, 1) := by decide +kernel
theorem dX6_predicted_85 : decode cX6_predicted 85 = .ok (.aload_n 0, 1) := by decide +kernel
theorem dX6_predicted_86 : decode cX6_predicted 86 = .ok (.getfield 23, 3) := by decide +kernel
theorem dX6_predicted_89 : decode cX6_predicted 89 = .ok (.iload_n 3, 1) := by decide +kernel
theorem dX6_predicted_90 : decode cX6_predicted 90 = .ok (.iaload, 1) := by decide +kernel
theorem dX6_predicted_91 : decode cX6_predicted 91 = .ok (.aload_n 0, 1) := by decide +kernel
theorem dX6_predicted_92 : decode cX6_predicted 92 = .ok (.getfield 23, 3) := by decide +kernel
theorem dX6_predicted_95 : decode cX6_predicted 95 = .ok (.iload_n 2, 1) := by decide +kernel
theorem dX6_predicted_96 : decode cX6_predicted 96 = .ok (.iaload, 1) := by decide +kernel
theorem dX6_predicted_97 : decode cX6_predicted 97 = .ok (.isub, 1) := by decide +kernel
theorem dX6_predicted_98 : decode cX6_predicted 98 = .ok (.i2l, 1) := by decide +kernel
theorem dX6_predicted_99 : decode cX6_predicted 99 = .ok (.invokestatic 232, 3) := by decide +kernel
theorem dX6_predicted_102 : decode cX6_predicted 102 = .ok (.ladd, 1) := by decide +kernel
theorem dX6_predicted_103 : decode cX6_predicted 103 = .ok (.lreturn, 1) := by decide +kernel
theorem dX6_shareOf_0 : decode cX6_shareOf 0 = .ok (.aload_n 0, 1) := by decide +kernel
theorem dX6_shareOf_1 : decode cX6_shareOf 1 = .ok (.getfield 7, 3) := by decide +kernel
theorem dX6_shareOf_4 : decode cX6_shareOf 4 = .ok (.bipush 53, 2) := by decide +kernel
theorem dX6_shareOf_6 : decode cX6_shareOf 6 = .ok (.iload_n 1, 1) := by decide +kernel
theorem dX6_shareOf_7 : decode cX6_shareOf 7 = .ok (.iadd, 1) := by decide +kernel
theorem dX6_shareOf_8 : decode cX6_shareOf 8 = .ok (.laload, 1) := by decide +kernel
theorem dX6_shareOf_9 : decode cX6_shareOf 9 = .ok (.lstore 5, 2) := by decide +kernel
theorem dX6_shareOf_11 : decode cX6_shareOf 11 = .ok (.iload 4, 2) := by decide +kernel
theorem dX6_shareOf_13 : decode cX6_shareOf 13 = .ok (.iconst 2, 1) := by decide +kernel
theorem dX6_shareOf_14 : decode cX6_shareOf 14 = .ok (.if_icmp .ne 38, 3) := by decide +kernel
theorem dX6_shareOf_17 : decode cX6_shareOf 17 = .ok (.lload 5, 2) := by decide +kernel
theorem dX6_shareOf_19 : decode cX6_shareOf 19 = .ok (.aload_n 0, 1) := by decide +kernel
theorem dX6_shareOf_20 : decode cX6_shareOf 20 = .ok (.getfield 23, 3) := by decide +kernel
theorem dX6_shareOf_23 : decode cX6_shareOf 23 = .ok (.iload_n 3, 1) := by decide +kernel
theorem dX6_shareOf_24 : decode cX6_shareOf 24 = .ok (.iaload, 1) := by decide +kernel
theorem dX6_shareOf_25 : decode cX6_shareOf 25 = .ok (.aload_n 0, 1) := by decide +kernel
theorem dX6_shareOf_26 : decode cX6_shareOf 26 = .ok (.getfield 23, 3) := by decide +kernel
theorem dX6_shareOf_29 : decode cX6_shareOf 29 = .ok (.iload_n 1, 1) := by decide +kernel
theorem dX6_shareOf_30 : decode cX6_shareOf 30 = .ok (.iaload, 1) := by decide +kernel
theorem dX6_shareOf_31 : decode cX6_shareOf 31 = .ok (.isub, 1) := by decide +kernel
theorem dX6_shareOf_32 : decode cX6_shareOf 32 = .ok (.i2l, 1) := by decide +kernel
theorem dX6_shareOf_33 : decode cX6_shareOf 33 = .ok (.lmul, 1) := by decide +kernel
theorem dX6_shareOf_34 : decode cX6_shareOf 34 = .ok (.aload_n 0, 1) := by decide +kernel
theorem dX6_shareOf_35 : decode cX6_shareOf 35 = .ok (.getfield 23, 3) := by decide +kernel
theorem dX6_shareOf_38 : decode cX6_shareOf 38 = .ok (.iload_n 3, 1) := by decide +kernel
theorem dX6_shareOf_39 : decode cX6_shareOf 39 = .ok (.iaload, 1) := by decide +kernel
theorem dX6_shareOf_40 : decode cX6_shareOf 40 = .ok (.aload_n 0, 1) := by decide +kernel
theorem dX6_shareOf_41 : decode cX6_shareOf 41 = .ok (.getfield 23, 3) := by decide +kernel
theorem dX6_shareOf_44 : decode cX6_shareOf 44 = .ok (.iload_n 2, 1) := by decide +kernel
theorem dX6_shareOf_45 : decode cX6_shareOf 45 = .ok (.iaload, 1) := by decide +kernel
theorem dX6_shareOf_46 : decode cX6_shareOf 46 = .ok (.isub, 1) := by decide +kernel
theorem dX6_shareOf_47 : decode cX6_shareOf 47 = .ok (.i2l, 1) := by decide +kernel
theorem dX6_shareOf_48 : decode cX6_shareOf 48 = .ok (.invokestatic 232, 3) := by decide +kernel
theorem dX6_shareOf_51 : decode cX6_shareOf 51 = .ok (.lreturn, 1) := by decide +kernel
theorem dX6_shareOf_52 : decode cX6_shareOf 52 = .ok (.iload 4, 2) := by decide +kernel
theorem dX6_shareOf_54 : decode cX6_shareOf 54 = .ok (.ifCond .eq 13, 3) := by decide +kernel
theorem dX6_shareOf_57 : decode cX6_shareOf 57 = .ok (.aload_n 0, 1) := by decide +kernel
theorem dX6_shareOf_58 : decode cX6_shareOf 58 = .ok (.iload_n 1, 1) := by decide +kernel
theorem dX6_shareOf_59 : decode cX6_shareOf 59 = .ok (.iload_n 2, 1) := by decide +kernel
theorem dX6_shareOf_60 : decode cX6_shareOf 60 = .ok (.iload_n 3, 1) := by decide +kernel
theorem dX6_shareOf_61 : decode cX6_shareOf 61 = .ok (.invokevirtual 254, 3) := by decide +kernel
theorem dX6_shareOf_64 : decode cX6_shareOf 64 = .ok (.ifCond .eq 8, 3) := by decide +kernel
theorem dX6_shareOf_67 : decode cX6_shareOf 67 = .ok (.lload 5, 2) := by decide +kernel
theorem dX6_shareOf_69 : decode cX6_shareOf 69 = .ok (.goto 4, 3) := by decide +kernel
theorem dX6_shareOf_72 : decode cX6_shareOf 72 = .ok (.lconst 0, 1) := by decide +kernel
theorem dX6_shareOf_73 : decode cX6_shareOf 73 = .ok (.lreturn, 1) := by decide +kernel
theorem dX6_valueAt_0 : decode cX6_valueAt 0 = .ok (.aload_n 0, 1) := by decide +kernel
theorem dX6_valueAt_1 : decode cX6_valueAt 1 = .ok (.iload_n 1, 1) := by decide +kernel
theorem dX6_valueAt_2 : decode cX6_valueAt 2 = .ok (.i2l, 1) := by decide +kernel
theorem dX6_valueAt_3 : decode cX6_valueAt 3 = .ok (.aload_n 0, 1) := by decide +kernel
theorem dX6_valueAt_4 : decode cX6_valueAt 4 = .ok (.getfield 23, 3) := by decide +kernel
theorem dX6_valueAt_7 : decode cX6_valueAt 7 = .ok (.iconst 0, 1) := by decide +kernel
theorem dX6_valueAt_8 : decode cX6_valueAt 8 = .ok (.iaload, 1) := by decide +kernel
theorem dX6_valueAt_9 : decode cX6_valueAt 9 = .ok (.i2l, 1) := by decide +kernel
theorem dX6_valueAt_10 : decode cX6_valueAt 10 = .ok (.aload_n 0, 1) := by decide +kernel
theorem dX6_valueAt_11 : decode cX6_valueAt 11 = .ok (.getfield 23, 3) := by decide +kernel
theorem dX6_valueAt_14 : decode cX6_valueAt 14 = .ok (.aload_n 0, 1) := by decide +kernel
theorem dX6_valueAt_15 : decode cX6_valueAt 15 = .ok (.getfield 185, 3) := by decide +kernel
theorem dX6_valueAt_18 : decode cX6_valueAt 18 = .ok (.iconst 1, 1) := by decide +kernel
theorem dX6_valueAt_19 : decode cX6_valueAt 19 = .ok (.isub, 1) := by decide +kernel
theorem dX6_valueAt_20 : decode cX6_valueAt 20 = .ok (.iaload, 1) := by decide +kernel
theorem dX6_valueAt_21 : decode cX6_valueAt 21 = .ok (.i2l, 1) := by decide +kernel
theorem dX6_valueAt_22 : decode cX6_valueAt 22 = .ok (.invokestatic 84, 3) := by decide +kernel
theorem dX6_valueAt_25 : decode cX6_valueAt 25 = .ok (.ifCond .eq 7, 3) := by decide +kernel
theorem dX6_valueAt_28 : decode cX6_valueAt 28 = .ok (.iconst 0, 1) := by decide +kernel
theorem dX6_valueAt_29 : decode cX6_valueAt 29 = .ok (.goto 4, 3) := by decide +kernel
theorem dX6_valueAt_32 : decode cX6_valueAt 32 = .ok (.iconst 1, 1) := by decide +kernel
theorem dX6_valueAt_33 : decode cX6_valueAt 33 = .ok (.putfield 64, 3) := by decide +kernel
theorem dX6_valueAt_36 : decode cX6_valueAt 36 = .ok (.aload_n 0, 1) := by decide +kernel
theorem dX6_valueAt_37 : decode cX6_valueAt 37 = .ok (.getfield 64, 3) := by decide +kernel
theorem dX6_valueAt_40 : decode cX6_valueAt 40 = .ok (.ifCond .le 5, 3) := by decide +kernel
theorem dX6_valueAt_43 : decode cX6_valueAt 43 = .ok (.lconst 0, 1) := by decide +kernel
theorem dX6_valueAt_44 : decode cX6_valueAt 44 = .ok (.lreturn, 1) := by decide +kernel
theorem dX6_valueAt_45 : decode cX6_valueAt 45 = .ok (.iconst 0, 1) := by decide +kernel
theorem dX6_valueAt_46 : decode cX6_valueAt 46 = .ok (.istore_n 2, 1) := by decide +kernel
theorem dX6_valueAt_47 : decode cX6_valueAt 47 = .ok (.aload_n 0, 1) := by decide +kernel
theorem dX6_valueAt_48 : decode cX6_valueAt 48 = .ok (.iconst 0, 1) := by decide +kernel
theorem dX6_valueAt_49 : decode cX6_valueAt 49 = .ok (.iconst 1, 1) := by decide +kernel
theorem dX6_valueAt_50 : decode cX6_valueAt 50 = .ok (.invokevirtual 225, 3) := by decide +kernel
theorem dX6_valueAt_53 : decode cX6_valueAt 53 = .ok (.istore_n 3, 1) := by decide +kernel
theorem dX6_valueAt_54 : decode cX6_valueAt 54 = .ok (.aload_n 0, 1) := by decide +kernel
theorem dX6_valueAt_55 : decode cX6_valueAt 55 = .ok (.getfield 23, 3) := by decide +kernel
theorem dX6_valueAt_58 : decode cX6_valueAt 58 = .ok (.iload_n 3, 1) := by decide +kernel
theorem dX6_valueAt_59 : decode cX6_valueAt 59 = .ok (.iaload, 1) := by decide +kernel
theorem dX6_valueAt_60 : decode cX6_valueAt 60 = .ok (.iload_n 1, 1) := by decide +kernel
theorem dX6_valueAt_61 : decode cX6_valueAt 61 = .ok (.if_icmp .ge 15, 3) := by decide +kernel
theorem dX6_valueAt_64 : decode cX6_valueAt 64 = .ok (.iload_n 3, 1) := by decide +kernel
theorem dX6_valueAt_65 : decode cX6_valueAt 65 = .ok (.istore_n 2, 1) := by decide +kernel
theorem dX6_valueAt_66 : decode cX6_valueAt 66 = .ok (.aload_n 0, 1) := by decide +kernel
theorem dX6_valueAt_67 : decode cX6_valueAt 67 = .ok (.iload_n 3, 1) := by decide +kernel
theorem dX6_valueAt_68 : decode cX6_valueAt 68 = .ok (.iconst 1, 1) := by decide +kernel
theorem dX6_valueAt_69 : decode cX6_valueAt 69 = .ok (.invokevirtual 225, 3) := by decide +kernel
theorem dX6_valueAt_72 : decode cX6_valueAt 72 = .ok (.istore_n 3, 1) := by decide +kernel
theorem dX6_valueAt_73 : decode cX6_valueAt 73 = .ok (.goto (-19), 3) := by decide +kernel
theorem dX6_valueAt_76 : decode cX6_valueAt 76 = .ok (.aload_n 0, 1) := by decide +kernel
theorem dX6_valueAt_77 : decode cX6_valueAt 77 = .ok (.getfield 7, 3) := by decide +kernel
theorem dX6_valueAt_80 : decode cX6_valueAt 80 = .ok (.iconst 5, 1) := by decide +kernel
theorem dX6_valueAt_81 : decode cX6_valueAt 81 = .ok (.iload_n 2, 1) := by decide +kernel
theorem dX6_valueAt_82 : decode cX6_valueAt 82 = .ok (.iadd, 1) := by decide +kernel
theorem dX6_valueAt_83 : decode cX6_valueAt 83 = .ok (.laload, 1) := by decide +kernel
theorem dX6_valueAt_84 : decode cX6_valueAt 84 = .ok (.aload_n 0, 1) := by decide +kernel
theorem dX6_valueAt_85 : decode cX6_valueAt 85 = .ok (.getfield 7, 3) := by decide +kernel
theorem dX6_valueAt_88 : decode cX6_valueAt 88 = .ok (.iconst 5, 1) := by decide +kernel
theorem dX6_valueAt_89 : decode cX6_valueAt 89 = .ok (.iload_n 3, 1) := by decide +kernel
theorem dX6_valueAt_90 : decode cX6_valueAt 90 = .ok (.iadd, 1) := by decide +kernel
theorem dX6_valueAt_91 : decode cX6_valueAt 91 = .ok (.laload, 1) := by decide +kernel
theorem dX6_valueAt_92 : decode cX6_valueAt 92 = .ok (.aload_n 0, 1) := by decide +kernel
theorem dX6_valueAt_93 : decode cX6_valueAt 93 = .ok (.getfield 7, 3) := by decide +kernel
theorem dX6_valueAt_96 : decode cX6_valueAt 96 = .ok (.iconst 5, 1) := by decide +kernel
theorem dX6_valueAt_97 : decode cX6_valueAt 97 = .ok (.iload_n 2, 1) := by decide +kernel
theorem dX6_valueAt_98 : decode cX6_valueAt 98 = .ok (.iadd, 1) := by decide +kernel
theorem dX6_valueAt_99 : decode cX6_valueAt 99 = .ok (.laload, 1) := by decide +kernel
theorem dX6_valueAt_100 : decode cX6_valueAt 100 = .ok (.lsub, 1) := by decide +kernel
theorem dX6_valueAt_101 : decode cX6_valueAt 101 = .ok (.iload_n 1, 1) := by decide +kernel
theorem dX6_valueAt_102 : decode cX6_valueAt 102 = .ok (.aload_n 0, 1) := by decide +kernel
theorem dX6_valueAt_103 : decode cX6_valueAt 103 = .ok (.getfield 23, 3) := by decide +kernel
theorem dX6_valueAt_106 : decode cX6_valueAt 106 = .ok (.iload_n 2, 1) := by decide +kernel
theorem dX6_valueAt_107 : decode cX6_valueAt 107 = .ok (.iaload, 1) := by decide +kernel
theorem dX6_valueAt_108 : decode cX6_valueAt 108 = .ok (.isub, 1) := by decide +kernel
theorem dX6_valueAt_109 : decode cX6_valueAt 109 = .ok (.i2l, 1) := by decide +kernel
theorem dX6_valueAt_110 : decode cX6_valueAt 110 = .ok (.lmul, 1) := by decide +kernel
theorem dX6_valueAt_111 : decode cX6_valueAt 111 = .ok (.aload_n 0, 1) := by decide +kernel
theorem dX6_valueAt_112 : decode cX6_valueAt 112 = .ok (.getfield 23, 3) := by decide +kernel
theorem dX6_valueAt_115 : decode cX6_valueAt 115 = .ok (.iload_n 3, 1) := by decide +kernel
theorem dX6_valueAt_116 : decode cX6_valueAt 116 = .ok (.iaload, 1) := by decide +kernel
theorem dX6_valueAt_117 : decode cX6_valueAt 117 = .ok (.aload_n 0, 1) := by decide +kernel
theorem dX6_valueAt_118 : decode cX6_valueAt 118 = .ok (.getfield 23, 3) := by decide +kernel
theorem dX6_valueAt_121 : decode cX6_valueAt 121 = .ok (.iload_n 2, 1) := by decide +kernel
theorem dX6_valueAt_122 : decode cX6_valueAt 122 = .ok (.iaload, 1) := by decide +kernel
theorem dX6_valueAt_123 : decode cX6_valueAt 123 = .ok (.isub, 1) := by decide +kernel
theorem dX6_valueAt_124 : decode cX6_valueAt 124 = .ok (.i2l, 1) := by decide +kernel
theorem dX6_valueAt_125 : decode cX6_valueAt 125 = .ok (.invokestatic 232, 3) := by decide +kernel
theorem dX6_valueAt_128 : decode cX6_valueAt 128 = .ok (.ladd, 1) := by decide +kernel
theorem dX6_valueAt_129 : decode cX6_valueAt 129 = .ok (.lreturn, 1) := by decide +kernel
set_option maxHeartbeats 4000000 in
set_option maxRecDepth 100000 in
theorem X6_valueAt (l : Launch) (κ : Kt) (σ0 : Gh) (this : Nat) (po : Int32) (t_this : zk σ0 this 20) (h0 : RI κ σ0 this) : TC l yX6_valueAt cX6_valueAt 4 (some .long) 3 69 [.ref this, .int po] κ σ0 (tql κ gR σ0 (fun (r : Int64) (τ : Gh) => True)) := by
  refine TC.of gR (by decide +kernel) (Nat.le_of_ble_eq_true rfl) ?_
  intro p e s m below meth c ls hcs hK hX hT hl
  obtain ⟨hx, hb, hr, hml, hown, hg, hlocks, hin⟩ := hcs
  have hown : s.vm.findClass RX6 = some m.cls := hown
  have hl : lv_has ls 4 [(0, .ref this), (1, .int po)] := hl
  have hT0 := hT
  have n0 : (0 : Int32).toInt = 0 := by decide
  have n1 : (1 : Int32).toInt = 1 := by decide
  have n5 : (5 : Int32).toInt = 5 := by decide
  have j0 : (0 : Int64).toInt = 0 := by decide
  have po_lo := Int32.le_toInt po
  have po_hi := Int32.toInt_lt po
  generalize hQ9 : tQ _ _ _ _ _ _ = Q9
  obtain ⟨rW, erW⟩ : ∃ z, kR κ this 1 = z := ⟨_, rfl⟩
  have trW : zk σ0 rW 21 := by rw [← erW]; exact h0.1.2.1
  obtain ⟨rP, erP⟩ : ∃ z, kR κ this 5 = z := ⟨_, rfl⟩
  have trP : zk σ0 rP 25 := by rw [← erP]; exact h0.1.2.2.2.2
  have hB0 := h0.b
  rw [erW] at hB0
  have hW := h0.2.1
  rw [erW] at hW
  have hP := h0.2.2.1
  rw [erP] at hP
  have hrN : (rN σ0 this : Int) = (zI σ0 this 7).toInt := by unfold rN; omega
  refine lv_aload_n hx hb dX6_valueAt_0 rfl (lv_at hl 0 rfl) ?_
  refine lv_iload_n hx hb dX6_valueAt_1 rfl (lv_at hl 1 rfl) ?_
  refine lv_i2l hx hb dX6_valueAt_2 rfl ?_
  refine g_i2l (fun t1 ht1 => ?_)
  refine lv_aload_n hx hb dX6_valueAt_3 rfl (lv_at hl 0 rfl) ?_
  refine va_get (D := κ.1) (ci := 6) (v := .ref (kR κ this 5)) (C := RX6) (T := TX6) (N := 27) hx hb hg inX6 hown hK (hT.o20 (hT.k t_this (by decide))).one 0 rfl rfl 5 (by decide) (hg _ k1224) (fun _ h9 => h9) rfl dX6_valueAt_4 ?_
  rw [erP]
  refine lv_iconst (v := 0) hx hb dX6_valueAt_7 (by decide) ?_
  refine va_iald hx hb hK (hT.o25 (hT.k trP (by decide))).one 0 0 rfl rfl (g_in (by omega) (by omega)) dX6_valueAt_8 ?_
  refine lv_topi (fun t2 ht2 => ?_)
  have xt2 : (zI σ0 rP 0).toInt = t2.toInt := by rw [ht2]; exact congrArg (fun q9 => (zI σ0 rP q9).toInt) (show 0 = ix 0 from by decide)
  refine lv_i2l hx hb dX6_valueAt_9 rfl ?_
  refine g_i2l (fun t3 ht3 => ?_)
  refine lv_aload_n hx hb dX6_valueAt_10 rfl (lv_at hl 0 rfl) ?_
  refine va_get (D := κ.1) (ci := 6) (v := .ref (kR κ this 5)) (C := RX6) (T := TX6) (N := 27) hx hb hg inX6 hown hK (hT.o20 (hT.k t_this (by decide))).one 0 rfl rfl 5 (by decide) (hg _ k1224) (fun _ h9 => h9) rfl dX6_valueAt_11 ?_
  rw [erP]
  refine lv_aload_n hx hb dX6_valueAt_14 rfl (lv_at hl 0 rfl) ?_
  obtain ⟨v4, ev4⟩ : ∃ zz9 : Int32, zI σ0 this 7 = zz9 := ⟨_, rfl⟩
  have qv4 : v4.toInt = (zI σ0 this 7).toInt := by rw [ev4]
  refine va_get (D := κ.1) (ci := 6) (v := .int (zI σ0 this 7)) (C := RX6) (T := TX6) (N := 27) hx hb hg inX6 hown hK (hT.o20 (hT.k t_this (by decide))).one 0 rfl rfl 7 (by decide) (hg _ k1226) (fun _ h9 => h9) rfl dX6_valueAt_15 ?_
  rw [(hT.eI t_this (by decide) rfl ev4)]
  refine lv_iconst (v := 1) hx hb dX6_valueAt_18 (by decide) ?_
  refine lv_isub hx hb dX6_valueAt_19 ?_
  first | refine g_sub (by omega) (by omega) (fun t5 ht5 => ?_) | refine lv_topi (fun t5 ht5 => ?_)
  refine va_iald hx hb hK (hT.o25 (hT.k trP (by decide))).one 0 0 rfl rfl (g_in (by omega) (by omega)) dX6_valueAt_20 ?_
  refine lv_topi (fun t6 ht6 => ?_)
  have xt6 : ((zI σ0 rP) (rN σ0 this - 1)).toInt = t6.toInt := by rw [ht6]; exact congrArg (fun q9 => (zI σ0 rP q9).toInt) (show rN σ0 this - 1 = ix t5 from by unfold ix; omega)
  refine lv_i2l hx hb dX6_valueAt_21 rfl ?_
  refine g_i2l (fun t7 ht7 => ?_)
  have hTo := hT
  refine tSi (n := 3) (As := [.long t1, .long t3, .long t7]) (rest := [.ref this]) hx hb hml hown hg hT hK hX (X6_in l κ σ0 t1 t3 t7   ) sub_fE_gR (mwS k1317 k1318 k92 k1319) ⟨rfl, by decide, by decide, by decide +kernel⟩ ⟨(Nat.le_of_ble_eq_true rfl), (Nat.le_of_ble_eq_true rfl)⟩ rfl hl.1 rfl (Nat.le_of_ble_eq_true rfl) dX6_valueAt_22 zroom.rf (fun x8 s9 H locs hφ hEs9 hT => ?_)
  obtain ⟨f10, f11⟩ := hφ
  have K12 : zI s9 this 7 = zI σ0 this 7 := hT.eI t_this (by decide) rfl rfl
  have K12n : (zI s9 this 7).toInt = (zI σ0 this 7).toInt := by rw [K12]
  have J13 : zJ s9 rW = zJ σ0 rW := funext fun k => hT.eJ trW (by decide) rfl rfl
  have J13n : (zJ s9 (kR κ this 1) 4).toInt = (zJ σ0 rW 4).toInt := by rw [erW, J13]
  have P14 : zI s9 rP = zI σ0 rP := funext fun k => hT.eI trP (by decide) rfl rfl
  try simp only [erW, erP, ix_0, ix_1, ix_2, ix_3, ix_4, ix_5, ix_6, ix_7, ix_8, ix_9, K12, J13, P14] at f10
  refine lv_if_eq (tgt := 32) hx hb dX6_valueAt_25 (by decide) (fun c9 => ?_) (fun c9 => ?_)
  · have c1 := gi_eq c9
    refine lv_iconst (v := 1) hx hb dX6_valueAt_32 (by decide) ?_
    have hTo := hT
    refine pf20_0 hx hb hg hown hK hT (hT.k t_this (by decide)) rfl (hg _ k1219) dX6_valueAt_33 (fun H locs s15 hus15 hT => ?_)
    have e16 : zI s15 this 0 = 1 := zput_at hus15
    refine lv_aload_n hx hb dX6_valueAt_36 rfl (lv_at hl 0 rfl) ?_
    refine va_get (D := κ.1) (ci := 6) (v := .int (zI s15 this 0)) (C := RX6) (T := TX6) (N := 27) hx hb hg inX6 hown hK (hT.o20 (hT.k t_this (by decide))).one 0 rfl rfl 0 (by decide) (hg _ k1219) (fun _ h9 => h9) rfl dX6_valueAt_37 ?_
    rw [e16]
    refine lv_if_le (tgt := 45) hx hb dX6_valueAt_40 (by decide) (fun c9 => absurd c9 (by decide)) (fun _ => ?_)
    refine lv_lconst (v := 0) hx hb dX6_valueAt_43 (by decide) ?_
    subst hQ9
    exact t_l hx hb hr hlocks hT trivial dX6_valueAt_44
  · have c2 := gi_ne c9
    refine lv_iconst (v := 0) hx hb dX6_valueAt_28 (by decide) ?_
    refine lv_goto (tgt := 33) hx hb dX6_valueAt_29 (by decide) ?_
    have hTo := hT
    refine pf20_0 hx hb hg hown hK hT (hT.k t_this (by decide)) rfl (hg _ k1219) dX6_valueAt_33 (fun H locs s17 hus17 hT => ?_)
    have e18 : zI s17 this 0 = 0 := zput_at hus17
    refine lv_aload_n hx hb dX6_valueAt_36 rfl (lv_at hl 0 rfl) ?_
    refine va_get (D := κ.1) (ci := 6) (v := .int (zI s17 this 0)) (C := RX6) (T := TX6) (N := 27) hx hb hg inX6 hown hK (hT.o20 (hT.k t_this (by decide))).one 0 rfl rfl 0 (by decide) (hg _ k1219) (fun _ h9 => h9) rfl dX6_valueAt_37 ?_
    rw [e18]
    refine lv_if_le (tgt := 45) hx hb dX6_valueAt_40 (by decide) (fun _ => ?_) (fun c9 => absurd (by decide) c9)
    refine lv_iconst (v := 0) hx hb dX6_valueAt_45 (by decide) ?_
    refine lv_istore_n (lv' := [(2, .int 0), (0, .ref this), (1, .int po)]) hx hb dX6_valueAt_46 rfl hl (by decide) rfl (fun ls hl => ?_)
    refine lv_aload_n hx hb dX6_valueAt_47 rfl (lv_at hl 1 rfl) ?_
    refine lv_iconst (v := 0) hx hb dX6_valueAt_48 (by decide) ?_
    refine lv_iconst (v := 1) hx hb dX6_valueAt_49 (by decide) ?_
    have K19 : zI s17 this 7 = zI σ0 this 7 := hT.eI t_this (by decide) rfl rfl
    have K19n : (zI s17 this 7).toInt = (zI σ0 this 7).toInt := by rw [K19]
    have J20 : zJ s17 rW = zJ σ0 rW := funext fun k => hT.eJ trW (by decide) rfl rfl
    have J20n : (zJ s17 (kR κ this 1) 4).toInt = (zJ σ0 rW 4).toInt := by rw [erW, J20]
    have P21 : zI s17 rP = zI σ0 rP := funext fun k => hT.eI trP (by decide) rfl rfl
    have R22 : RI κ s17 this := h0.ext hT.2.2.1 ⟨rfl, rfl, fun _ => rfl, fun _ => rfl, fun _ => rfl, fun _ => rfl⟩
    have hTo := hT
    refine tVi (n := 2) (As := [.int 0, .int 1]) (rest := []) hx hb hml hown hg hT hK hX (X6_besideR l κ s17 this 0 1  (hT.k t_this (by decide)) R22 (by omega) (by omega) (by omega)) sub_fE_gR (mwV k1449 k1451 k58 k92 k1452) ⟨rfl, by decide, by decide, by decide +kernel⟩ ⟨(Nat.le_of_ble_eq_true rfl), (Nat.le_of_ble_eq_true rfl)⟩ (hT.o20 (hT.k t_this (by decide))) rfl rfl hl.1 rfl (Nat.le_of_ble_eq_true rfl) dX6_valueAt_50 zroom.rf (fun x23 s24 H locs hφ hEs24 hT => ?_)
    have e18 : zI s24 this 0 = 0 := ((hTo.k t_this (by decide)).eI hEs24 (by decide) rfl).trans e18
    have f25 := hφ
    have K26 : zI s24 this 7 = zI σ0 this 7 := hT.eI t_this (by decide) rfl rfl
    have K26n : (zI s24 this 7).toInt = (zI σ0 this 7).toInt := by rw [K26]
    have J27 : zJ s24 rW = zJ σ0 rW := funext fun k => hT.eJ trW (by decide) rfl rfl
    have J27n : (zJ s24 (kR κ this 1) 4).toInt = (zJ σ0 rW 4).toInt := by rw [erW, J27]
    have P28 : zI s24 rP = zI σ0 rP := funext fun k => hT.eI trP (by decide) rfl rfl
    try simp only [erW, erP, ix_0, ix_1, ix_2, ix_3, ix_4, ix_5, ix_6, ix_7, ix_8, ix_9, K19, J20, P21, K26, J27, P28] at f25
    refine lv_istore_n (lv' := [(3, .int x23), (2, .int 0), (0, .ref this), (1, .int po)]) hx hb dX6_valueAt_53 rfl hl (by decide) rfl (fun ls hl => ?_)
    have loop54 : ∀ (n9 : Nat) (pp : Int32) (qq : Int32) (H : Heap) (locs : List Loc) (sg : Gh) (ls : Array Slot), TS κ gR σ0 sg s H locs → (0 ≤ pp.toInt) → (pp.toInt < qq.toInt) → (qq.toInt < (zI σ0 this 7).toInt) → lv_has ls 4 [(2, .int pp), (3, .int qq), (0, .ref this), (1, .int po)] → ((zI σ0 this 7).toInt - qq.toInt) < n9 → tW p l e 3 69 κ s m #[.ref this, .int po] below meth c H locs Q9 (F0 m 54 ls []) := by
      intro n9
      induction n9 with
      | zero =>
        intro pp qq H locs sg ls hT q1 q2 q3 hl hm9
        exfalso
        omega
      | succ n9 ih9 =>
        have ih54 := ih9
        clear ih9
        intro pp qq H locs s29 ls hT q1 q2 q3 hl hm9
        refine lv_aload_n hx hb dX6_valueAt_54 rfl (lv_at hl 2 rfl) ?_
        refine va_get (D := κ.1) (ci := 6) (v := .ref (kR κ this 5)) (C := RX6) (T := TX6) (N := 27) hx hb hg inX6 hown hK (hT.o20 (hT.k t_this (by decide))).one 0 rfl rfl 5 (by decide) (hg _ k1224) (fun _ h9 => h9) rfl dX6_valueAt_55 ?_
        rw [erP]
        refine lv_iload_n hx hb dX6_valueAt_58 rfl (lv_at hl 1 rfl) ?_
        refine va_iald hx hb hK (hT.o25 (hT.k trP (by decide))).one 0 0 rfl rfl (g_in (by omega) (by omega)) dX6_valueAt_59 ?_
        refine lv_topi (fun t30 ht30 => ?_)
        have K31 : zI s29 this 7 = zI σ0 this 7 := hT.eI t_this (by decide) rfl rfl
        have K31n : (zI s29 this 7).toInt = (zI σ0 this 7).toInt := by rw [K31]
        have J32 : zJ s29 rW = zJ σ0 rW := funext fun k => hT.eJ trW (by decide) rfl rfl
        have J32n : (zJ s29 (kR κ this 1) 4).toInt = (zJ σ0 rW 4).toInt := by rw [erW, J32]
        have P33 : zI s29 rP = zI σ0 rP := funext fun k => hT.eI trP (by decide) rfl rfl
        have xt30 : (zI s29 rP (ix qq)).toInt = t30.toInt := by rw [ht30]; exact congrArg (fun q9 => (zI s29 rP q9).toInt) (show ix qq = ix qq from rfl)
        try simp only [K31, J32, P33] at xt30
        refine lv_iload_n hx hb dX6_valueAt_60 rfl (lv_at hl 3 rfl) ?_
        refine lv_icmp_ge (tgt := 76) hx hb dX6_valueAt_61 (by decide) (fun c9 => ?_) (fun c9 => ?_)
        · have c3 := gi_le c9
          have y8 := hP.lt (i := ix pp) (j := ix qq) (by unfold ix; omega) (by unfold ix; omega); have y7 := (hP (ix pp) (by unfold ix; omega)).1; have y6 := (hP (ix qq) (by unfold ix; omega)).1
          refine lv_aload_n hx hb dX6_valueAt_76 rfl (lv_at hl 2 rfl) ?_
          refine va_get (D := κ.1) (ci := 6) (v := .ref (kR κ this 1)) (C := RX6) (T := TX6) (N := 27) hx hb hg inX6 hown hK (hT.o20 (hT.k t_this (by decide))).one 0 rfl rfl 1 (by decide) (hg _ k1220) (fun _ h9 => h9) rfl dX6_valueAt_77 ?_
          rw [erW]
          refine lv_iconst (v := 5) hx hb dX6_valueAt_80 (by decide) ?_
          refine lv_iload_n hx hb dX6_valueAt_81 rfl (lv_at hl 0 rfl) ?_
          refine lv_iadd hx hb dX6_valueAt_82 ?_
          first | refine g_add (by omega) (by omega) (fun t34 ht34 => ?_) | refine lv_topi (fun t34 ht34 => ?_)
          refine va_lald hx hb hK (hT.o21 (hT.k trW (by decide))).one 0 1 rfl rfl (g_in (by omega) (by omega)) dX6_valueAt_83 ?_
          refine lv_topl (fun t35 ht35 => ?_)
          refine lv_aload_n hx hb dX6_valueAt_84 rfl (lv_at hl 2 rfl) ?_
          refine va_get (D := κ.1) (ci := 6) (v := .ref (kR κ this 1)) (C := RX6) (T := TX6) (N := 27) hx hb hg inX6 hown hK (hT.o20 (hT.k t_this (by decide))).one 0 rfl rfl 1 (by decide) (hg _ k1220) (fun _ h9 => h9) rfl dX6_valueAt_85 ?_
          rw [erW]
          refine lv_iconst (v := 5) hx hb dX6_valueAt_88 (by decide) ?_
          refine lv_iload_n hx hb dX6_valueAt_89 rfl (lv_at hl 1 rfl) ?_
          refine lv_iadd hx hb dX6_valueAt_90 ?_
          first | refine g_add (by omega) (by omega) (fun t36 ht36 => ?_) | refine lv_topi (fun t36 ht36 => ?_)
          refine va_lald hx hb hK (hT.o21 (hT.k trW (by decide))).one 0 1 rfl rfl (g_in (by omega) (by omega)) dX6_valueAt_91 ?_
          refine lv_topl (fun t37 ht37 => ?_)
          refine lv_aload_n hx hb dX6_valueAt_92 rfl (lv_at hl 2 rfl) ?_
          refine va_get (D := κ.1) (ci := 6) (v := .ref (kR κ this 1)) (C := RX6) (T := TX6) (N := 27) hx hb hg inX6 hown hK (hT.o20 (hT.k t_this (by decide))).one 0 rfl rfl 1 (by decide) (hg _ k1220) (fun _ h9 => h9) rfl dX6_valueAt_93 ?_
          rw [erW]
          refine lv_iconst (v := 5) hx hb dX6_valueAt_96 (by decide) ?_
          refine lv_iload_n hx hb dX6_valueAt_97 rfl (lv_at hl 0 rfl) ?_
          refine lv_iadd hx hb dX6_valueAt_98 ?_
          first | refine g_add (by omega) (by omega) (fun t38 ht38 => ?_) | refine lv_topi (fun t38 ht38 => ?_)
          refine va_lald hx hb hK (hT.o21 (hT.k trW (by decide))).one 0 1 rfl rfl (g_in (by omega) (by omega)) dX6_valueAt_99 ?_
          refine lv_topl (fun t39 ht39 => ?_)
          refine lv_lsub hx hb dX6_valueAt_100 ?_
          refine lv_topl (fun t40 ht40 => ?_)
          refine lv_iload_n hx hb dX6_valueAt_101 rfl (lv_at hl 3 rfl) ?_
          refine lv_aload_n hx hb dX6_valueAt_102 rfl (lv_at hl 2 rfl) ?_
          refine va_get (D := κ.1) (ci := 6) (v := .ref (kR κ this 5)) (C := RX6) (T := TX6) (N := 27) hx hb hg inX6 hown hK (hT.o20 (hT.k t_this (by decide))).one 0 rfl rfl 5 (by decide) (hg _ k1224) (fun _ h9 => h9) rfl dX6_valueAt_103 ?_
          rw [erP]
          refine lv_iload_n hx hb dX6_valueAt_106 rfl (lv_at hl 0 rfl) ?_
          refine va_iald hx hb hK (hT.o25 (hT.k trP (by decide))).one 0 0 rfl rfl (g_in (by omega) (by omega)) dX6_valueAt_107 ?_
          refine lv_topi (fun t41 ht41 => ?_)
          have xt41 : (zI s29 rP (ix pp)).toInt = t41.toInt := by rw [ht41]; exact congrArg (fun q9 => (zI s29 rP q9).toInt) (show ix pp = ix pp from rfl)
          try simp only [K31, J32, P33] at xt41
          refine lv_isub hx hb dX6_valueAt_108 ?_
          first | refine g_sub (by omega) (by omega) (fun t42 ht42 => ?_) | refine lv_topi (fun t42 ht42 => ?_)
          refine lv_i2l hx hb dX6_valueAt_109 rfl ?_
          refine g_i2l (fun t43 ht43 => ?_)
          refine lv_lmul hx hb dX6_valueAt_110 ?_
          refine lv_topl (fun t44 ht44 => ?_)
          refine lv_aload_n hx hb dX6_valueAt_111 rfl (lv_at hl 2 rfl) ?_
          refine va_get (D := κ.1) (ci := 6) (v := .ref (kR κ this 5)) (C := RX6) (T := TX6) (N := 27) hx hb hg inX6 hown hK (hT.o20 (hT.k t_this (by decide))).one 0 rfl rfl 5 (by decide) (hg _ k1224) (fun _ h9 => h9) rfl dX6_valueAt_112 ?_
          rw [erP]
          refine lv_iload_n hx hb dX6_valueAt_115 rfl (lv_at hl 1 rfl) ?_
          refine va_iald hx hb hK (hT.o25 (hT.k trP (by decide))).one 0 0 rfl rfl (g_in (by omega) (by omega)) dX6_valueAt_116 ?_
          refine lv_topi (fun t45 ht45 => ?_)
          have xt45 : (zI s29 rP (ix qq)).toInt = t45.toInt := by rw [ht45]; exact congrArg (fun q9 => (zI s29 rP q9).toInt) (show ix qq = ix qq from rfl)
          try simp only [K31, J32, P33] at xt45
          refine lv_aload_n hx hb dX6_valueAt_117 rfl (lv_at hl 2 rfl) ?_
          refine va_get (D := κ.1) (ci := 6) (v := .ref (kR κ this 5)) (C := RX6) (T := TX6) (N := 27) hx hb hg inX6 hown hK (hT.o20 (hT.k t_this (by decide))).one 0 rfl rfl 5 (by decide) (hg _ k1224) (fun _ h9 => h9) rfl dX6_valueAt_118 ?_
          rw [erP]
          refine lv_iload_n hx hb dX6_valueAt_121 rfl (lv_at hl 0 rfl) ?_
          refine va_iald hx hb hK (hT.o25 (hT.k trP (by decide))).one 0 0 rfl rfl (g_in (by omega) (by omega)) dX6_valueAt_122 ?_
          refine lv_topi (fun t46 ht46 => ?_)
          have xt46 : (zI s29 rP (ix pp)).toInt = t46.toInt := by rw [ht46]; exact congrArg (fun q9 => (zI s29 rP q9).toInt) (show ix pp = ix pp from rfl)
          try simp only [K31, J32, P33] at xt46
          refine lv_isub hx hb dX6_valueAt_123 ?_
          first | refine g_sub (by omega) (by omega) (fun t47 ht47 => ?_) | refine lv_topi (fun t47 ht47 => ?_)
          refine lv_i2l hx hb dX6_valueAt_124 rfl ?_
          refine g_i2l (fun t48 ht48 => ?_)
          have hTo := hT
          refine tSl (n := 2) (As := [.long t44, .long t48]) (rest := [.long t35]) hx hb hml hown hg hT hK hX (X6_floor l κ s29 t44 t48   (by omega)) sub_fE_gR (mwS k1469 k1470 k92 k1471) ⟨rfl, by decide, by decide, by decide +kernel⟩ ⟨(Nat.le_of_ble_eq_true rfl), (Nat.le_of_ble_eq_true rfl)⟩ rfl hl.1 rfl (Nat.le_of_ble_eq_true rfl) dX6_valueAt_125 zroom.rf (fun x49 s50 H locs hφ hEs50 hT => ?_)
          have f51 := hφ
          have K52 : zI s50 this 7 = zI σ0 this 7 := hT.eI t_this (by decide) rfl rfl
          have K52n : (zI s50 this 7).toInt = (zI σ0 this 7).toInt := by rw [K52]
          have J53 : zJ s50 rW = zJ σ0 rW := funext fun k => hT.eJ trW (by decide) rfl rfl
          have J53n : (zJ s50 (kR κ this 1) 4).toInt = (zJ σ0 rW 4).toInt := by rw [erW, J53]
          have P54 : zI s50 rP = zI σ0 rP := funext fun k => hT.eI trP (by decide) rfl rfl
          try simp only [erW, erP, ix_0, ix_1, ix_2, ix_3, ix_4, ix_5, ix_6, ix_7, ix_8, ix_9, K31, J32, P33, K52, J53, P54] at f51
          refine lv_ladd hx hb dX6_valueAt_128 ?_
          refine lv_topl (fun t55 ht55 => ?_)
          subst hQ9
          exact t_l hx hb hr hlocks hT trivial dX6_valueAt_129
        · have c4 := gi_nle c9
          have y9 : qq.toInt = (zI σ0 this 7).toInt - 1 → (zI σ0 rP (ix qq)).toInt = (zI σ0 rP (rN σ0 this - 1)).toInt := fun q => by rw [show ix qq = rN σ0 this - 1 from by unfold ix; omega]
          refine lv_iload_n hx hb dX6_valueAt_64 rfl (lv_at hl 1 rfl) ?_
          refine lv_istore_n (lv' := [(2, .int qq), (3, .int qq), (0, .ref this), (1, .int po)]) hx hb dX6_valueAt_65 rfl hl (by decide) rfl (fun ls hl => ?_)
          refine lv_aload_n hx hb dX6_valueAt_66 rfl (lv_at hl 2 rfl) ?_
          refine lv_iload_n hx hb dX6_valueAt_67 rfl (lv_at hl 1 rfl) ?_
          refine lv_iconst (v := 1) hx hb dX6_valueAt_68 (by decide) ?_
          have R56 : RI κ s29 this := h0.ext hT.2.2.1 ⟨rfl, rfl, fun _ => rfl, fun _ => rfl, fun _ => rfl, fun _ => rfl⟩
          have hTo := hT
          refine tVi (n := 2) (As := [.int qq, .int 1]) (rest := []) hx hb hml hown hg hT hK hX (X6_besideR l κ s29 this qq 1  (hT.k t_this (by decide)) R56 (by omega) (by omega) (by omega)) sub_fE_gR (mwV k1449 k1451 k58 k92 k1452) ⟨rfl, by decide, by decide, by decide +kernel⟩ ⟨(Nat.le_of_ble_eq_true rfl), (Nat.le_of_ble_eq_true rfl)⟩ (hT.o20 (hT.k t_this (by decide))) rfl rfl hl.1 rfl (Nat.le_of_ble_eq_true rfl) dX6_valueAt_69 zroom.rf (fun x57 s58 H locs hφ hEs58 hT => ?_)
          have f59 := hφ
          have K60 : zI s58 this 7 = zI σ0 this 7 := hT.eI t_this (by decide) rfl rfl
          have K60n : (zI s58 this 7).toInt = (zI σ0 this 7).toInt := by rw [K60]
          have J61 : zJ s58 rW = zJ σ0 rW := funext fun k => hT.eJ trW (by decide) rfl rfl
          have J61n : (zJ s58 (kR κ this 1) 4).toInt = (zJ σ0 rW 4).toInt := by rw [erW, J61]
          have P62 : zI s58 rP = zI σ0 rP := funext fun k => hT.eI trP (by decide) rfl rfl
          try simp only [erW, erP, ix_0, ix_1, ix_2, ix_3, ix_4, ix_5, ix_6, ix_7, ix_8, ix_9, K31, J32, P33, K60, J61, P62] at f59
          refine lv_istore_n (lv' := [(3, .int x57), (2, .int qq), (0, .ref this), (1, .int po)]) hx hb dX6_valueAt_72 rfl hl (by decide) rfl (fun ls hl => ?_)
          refine lv_goto (tgt := 54) hx hb dX6_valueAt_73 (by decide) ?_
          exact ih54 qq x57 _ _ _ _ hT  (by omega) (by omega) (by omega) (lv_sub hl [1, 0, 2, 3] rfl) (by omega)
    exact loop54 (((zI σ0 this 7).toInt - x23.toInt).toNat + 1) 0 x23 _ _ _ _ hT  (by omega) (by omega) (by omega) (lv_sub hl [1, 0, 2, 3] rfl) (by omega)
set_option maxHeartbeats 4000000 in
set_option maxRecDepth 100000 in
theorem X6_isLeftNearer (l : Launch) (κ : Kt) (σ0 : Gh) (this : Nat) (x : Int32) (y : Int32) (z : Int32) (t_this : zk σ0 this 20) (h0 : RI κ σ0 this) (h1 : 0 ≤ y.toInt) (h2 : y.toInt < x.toInt) (h3 : x.toInt < z.toInt) (h4 : z.toInt < (zI σ0 this 7).toInt) : TC l yX6_isLeftNearer cX6_isLeftNearer 4 (some .boolean) 0 0 [.ref this, .int x, .int y, .int z] κ σ0 (tqi κ fE σ0 (fun (r : Int32) (τ : Gh) => (isB r))) := by
  refine TC.of fE (by decide +kernel) (Nat.le_of_ble_eq_true rfl) ?_
  intro p e s m below meth c ls hcs hK hX hT hl
  obtain ⟨hx, hb, hr, hml, hown, hg, hlocks, hin⟩ := hcs
  have hown : s.vm.findClass RX6 = some m.cls := hown
  have hl : lv_has ls 4 [(0, .ref this), (1, .int x), (2, .int y), (3, .int z)] := hl
  have hT0 := hT
  have n0 : (0 : Int32).toInt = 0 := by decide
  have n1 : (1 : Int32).toInt = 1 := by decide
  have x_lo := Int32.le_toInt x
  have x_hi := Int32.toInt_lt x
  have y_lo := Int32.le_toInt y
  have y_hi := Int32.toInt_lt y
  have z_lo := Int32.le_toInt z
  have z_hi := Int32.toInt_lt z
  generalize hQ9 : tQ _ _ _ _ _ _ = Q9
  obtain ⟨rW, erW⟩ : ∃ z, kR κ this 1 = z := ⟨_, rfl⟩
  have trW : zk σ0 rW 21 := by rw [← erW]; exact h0.1.2.1
  obtain ⟨rP, erP⟩ : ∃ z, kR κ this 5 = z := ⟨_, rfl⟩
  have trP : zk σ0 rP 25 := by rw [← erP]; exact h0.1.2.2.2.2
  have hB0 := h0.b
  rw [erW] at hB0
  have hW := h0.2.1
  rw [erW] at hW
  have hP := h0.2.2.1
  rw [erP] at hP
  have hrN : (rN σ0 this : Int) = (zI σ0 this 7).toInt := by unfold rN; omega
  have g1 := hP.lt (i := ix y) (j := ix x) (by unfold ix; omega) (by unfold ix; omega)
  have g2 := hP.lt (i := ix x) (j := ix z) (by unfold ix; omega) (by unfold ix; omega)
  have g3 := (hP (ix y) (by unfold ix; omega)).1
  have g4 := (hP (ix z) (by unfold ix; omega)).1
  have hxx : ∀ k : Int32, 0 ≤ k.toInt → (ix k : Int) = k.toInt := fun k q => by unfold ix; omega
  refine lv_aload_n hx hb dX6_isLeftNearer_0 rfl (lv_at hl 0 rfl) ?_
  refine va_get (D := κ.1) (ci := 6) (v := .ref (kR κ this 5)) (C := RX6) (T := TX6) (N := 27) hx hb hg inX6 hown hK (hT.o20 (hT.k t_this (by decide))).one 0 rfl rfl 5 (by decide) (hg _ k1224) (fun _ h9 => h9) rfl dX6_isLeftNearer_1 ?_
  rw [erP]
  refine lv_iload_n hx hb dX6_isLeftNearer_4 rfl (lv_at hl 1 rfl) ?_
  refine va_iald hx hb hK (hT.o25 (hT.k trP (by decide))).one 0 0 rfl rfl (g_in (by omega) (by omega)) dX6_isLeftNearer_5 ?_
  refine lv_topi (fun t1 ht1 => ?_)
  have xt1 : (zI σ0 rP (ix x)).toInt = t1.toInt := by rw [ht1]; exact congrArg (fun q9 => (zI σ0 rP q9).toInt) (show ix x = ix x from rfl)
  refine lv_aload_n hx hb dX6_isLeftNearer_6 rfl (lv_at hl 0 rfl) ?_
  refine va_get (D := κ.1) (ci := 6) (v := .ref (kR κ this 5)) (C := RX6) (T := TX6) (N := 27) hx hb hg inX6 hown hK (hT.o20 (hT.k t_this (by decide))).one 0 rfl rfl 5 (by decide) (hg _ k1224) (fun _ h9 => h9) rfl dX6_isLeftNearer_7 ?_
  rw [erP]
  refine lv_iload_n hx hb dX6_isLeftNearer_10 rfl (lv_at hl 2 rfl) ?_
  refine va_iald hx hb hK (hT.o25 (hT.k trP (by decide))).one 0 0 rfl rfl (g_in (by omega) (by omega)) dX6_isLeftNearer_11 ?_
  refine lv_topi (fun t2 ht2 => ?_)
  have xt2 : (zI σ0 rP (ix y)).toInt = t2.toInt := by rw [ht2]; exact congrArg (fun q9 => (zI σ0 rP q9).toInt) (show ix y = ix y from rfl)
  refine lv_isub hx hb dX6_isLeftNearer_12 ?_
  first | refine g_sub (by omega) (by omega) (fun t3 ht3 => ?_) | refine lv_topi (fun t3 ht3 => ?_)
  refine lv_aload_n hx hb dX6_isLeftNearer_13 rfl (lv_at hl 0 rfl) ?_
  refine va_get (D := κ.1) (ci := 6) (v := .ref (kR κ this 5)) (C := RX6) (T := TX6) (N := 27) hx hb hg inX6 hown hK (hT.o20 (hT.k t_this (by decide))).one 0 rfl rfl 5 (by decide) (hg _ k1224) (fun _ h9 => h9) rfl dX6_isLeftNearer_14 ?_
  rw [erP]
  refine lv_iload_n hx hb dX6_isLeftNearer_17 rfl (lv_at hl 3 rfl) ?_
  refine va_iald hx hb hK (hT.o25 (hT.k trP (by decide))).one 0 0 rfl rfl (g_in (by omega) (by omega)) dX6_isLeftNearer_18 ?_
  refine lv_topi (fun t4 ht4 => ?_)
  have xt4 : (zI σ0 rP (ix z)).toInt = t4.toInt := by rw [ht4]; exact congrArg (fun q9 => (zI σ0 rP q9).toInt) (show ix z = ix z from rfl)
  refine lv_aload_n hx hb dX6_isLeftNearer_19 rfl (lv_at hl 0 rfl) ?_
  refine va_get (D := κ.1) (ci := 6) (v := .ref (kR κ this 5)) (C := RX6) (T := TX6) (N := 27) hx hb hg inX6 hown hK (hT.o20 (hT.k t_this (by decide))).one 0 rfl rfl 5 (by decide) (hg _ k1224) (fun _ h9 => h9) rfl dX6_isLeftNearer_20 ?_
  rw [erP]
  refine lv_iload_n hx hb dX6_isLeftNearer_23 rfl (lv_at hl 1 rfl) ?_
  refine va_iald hx hb hK (hT.o25 (hT.k trP (by decide))).one 0 0 rfl rfl (g_in (by omega) (by omega)) dX6_isLeftNearer_24 ?_
  refine lv_topi (fun t5 ht5 => ?_)
  have xt5 : (zI σ0 rP (ix x)).toInt = t5.toInt := by rw [ht5]; exact congrArg (fun q9 => (zI σ0 rP q9).toInt) (show ix x = ix x from rfl)
  refine lv_isub hx hb dX6_isLeftNearer_25 ?_
  first | refine g_sub (by omega) (by omega) (fun t6 ht6 => ?_) | refine lv_topi (fun t6 ht6 => ?_)
  refine lv_icmp_gt (tgt := 33) hx hb dX6_isLeftNearer_26 (by decide) (fun c9 => ?_) (fun c9 => ?_)
  · have c1 := gi_lt c9
    refine lv_iconst (v := 0) hx hb dX6_isLeftNearer_33 (by decide) ?_
    subst hQ9
    exact t_z hx hb hr isB0 hlocks hT isB0 dX6_isLeftNearer_34
  · have c2 := gi_nlt c9
    refine lv_iconst (v := 1) hx hb dX6_isLeftNearer_29 (by decide) ?_
    refine lv_goto (tgt := 34) hx hb dX6_isLeftNearer_30 (by decide) ?_
    subst hQ9
    exact t_z hx hb hr isB1 hlocks hT isB1 dX6_isLeftNearer_34
set_option maxHeartbeats 4000000 in
set_option maxRecDepth 100000 in
theorem X6_predicted (l : Launch) (κ : Kt) (σ0 : Gh) (this : Nat) (x : Int32) (y : Int32) (z : Int32) (md : Int32) (t_this : zk σ0 this 20) (h0 : RI κ σ0 this) (h1 : 0 ≤ y.toInt) (h2 : y.toInt < x.toInt) (h3 : x.toInt < z.toInt) (h4 : z.toInt < (zI σ0 this 7).toInt) : TC l yX6_predicted cX6_predicted 5 (some .long) 1 25 [.ref this, .int x, .int y, .int z, .int md] κ σ0 (tql κ fE σ0 (fun (r : Int64) (τ : Gh) => True)) := by
  refine TC.of fE (by decide +kernel) (Nat.le_of_ble_eq_true rfl) ?_
  intro p e s m below meth c ls hcs hK hX hT hl
  obtain ⟨hx, hb, hr, hml, hown, hg, hlocks, hin⟩ := hcs
  have hown : s.vm.findClass RX6 = some m.cls := hown
  have hl : lv_has ls 5 [(0, .ref this), (1, .int x), (2, .int y), (3, .int z), (4, .int md)] := hl
  have hT0 := hT
  have n0 : (0 : Int32).toInt = 0 := by decide
  have n1 : (1 : Int32).toInt = 1 := by decide
  have n5 : (5 : Int32).toInt = 5 := by decide
  have x_lo := Int32.le_toInt x
  have x_hi := Int32.toInt_lt x
  have y_lo := Int32.le_toInt y
  have y_hi := Int32.toInt_lt y
  have z_lo := Int32.le_toInt z
  have z_hi := Int32.toInt_lt z
  have md_lo := Int32.le_toInt md
  have md_hi := Int32.toInt_lt md
  generalize hQ9 : tQ _ _ _ _ _ _ = Q9
  obtain ⟨rW, erW⟩ : ∃ z, kR κ this 1 = z := ⟨_, rfl⟩
  have trW : zk σ0 rW 21 := by rw [← erW]; exact h0.1.2.1
  obtain ⟨rP, erP⟩ : ∃ z, kR κ this 5 = z := ⟨_, rfl⟩
  have trP : zk σ0 rP 25 := by rw [← erP]; exact h0.1.2.2.2.2
  have hB0 := h0.b
  rw [erW] at hB0
  have hW := h0.2.1
  rw [erW] at hW
  have hP := h0.2.2.1
  rw [erP] at hP
  have hrN : (rN σ0 this : Int) = (zI σ0 this 7).toInt := by unfold rN; omega
  have g1 := hP.lt (i := ix y) (j := ix x) (by unfold ix; omega) (by unfold ix; omega)
  have g2 := hP.lt (i := ix x) (j := ix z) (by unfold ix; omega) (by unfold ix; omega)
  have g3 := (hP (ix y) (by unfold ix; omega)).1
  have g4 := (hP (ix z) (by unfold ix; omega)).1
  have hxx : ∀ k : Int32, 0 ≤ k.toInt → (ix k : Int) = k.toInt := fun k q => by unfold ix; omega
  refine lv_iload hx hb dX6_predicted_0 (lv_at hl 4 rfl) ?_
  refine lv_if_eq (tgt := 21) hx hb dX6_predicted_2 (by decide) (fun c9 => ?_) (fun c9 => ?_)
  · have c1 := gi_eq c9
    refine lv_aload_n hx hb dX6_predicted_21 rfl (lv_at hl 0 rfl) ?_
    refine va_get (D := κ.1) (ci := 6) (v := .ref (kR κ this 1)) (C := RX6) (T := TX6) (N := 27) hx hb hg inX6 hown hK (hT.o20 (hT.k t_this (by decide))).one 0 rfl rfl 1 (by decide) (hg _ k1220) (fun _ h9 => h9) rfl dX6_predicted_22 ?_
    rw [erW]
    refine lv_iconst (v := 5) hx hb dX6_predicted_25 (by decide) ?_
    refine lv_iload_n hx hb dX6_predicted_26 rfl (lv_at hl 2 rfl) ?_
    refine lv_iadd hx hb dX6_predicted_27 ?_
    first | refine g_add (by omega) (by omega) (fun t1 ht1 => ?_) | refine lv_topi (fun t1 ht1 => ?_)
    refine va_lald hx hb hK (hT.o21 (hT.k trW (by decide))).one 0 1 rfl rfl (g_in (by omega) (by omega)) dX6_predicted_28 ?_
    refine lv_topl (fun t2 ht2 => ?_)
    subst hQ9
    exact t_l hx hb hr hlocks hT trivial dX6_predicted_29
  · have c2 := gi_ne c9
    refine lv_iload hx hb dX6_predicted_5 (lv_at hl 4 rfl) ?_
    refine lv_iconst (v := 1) hx hb dX6_predicted_7 (by decide) ?_
    refine lv_icmp_ne (tgt := 30) hx hb dX6_predicted_8 (by decide) (fun c9 => ?_) (fun c9 => ?_)
    · have c3 := gi_ne c9
      refine lv_iload hx hb dX6_predicted_30 (lv_at hl 4 rfl) ?_
      refine lv_iconst (v := 1) hx hb dX6_predicted_32 (by decide) ?_
      refine lv_icmp_ne (tgt := 45) hx hb dX6_predicted_33 (by decide) (fun c9 => ?_) (fun c9 => ?_)
      · have c4 := gi_ne c9
        refine lv_aload_n hx hb dX6_predicted_45 rfl (lv_at hl 0 rfl) ?_
        refine va_get (D := κ.1) (ci := 6) (v := .ref (kR κ this 1)) (C := RX6) (T := TX6) (N := 27) hx hb hg inX6 hown hK (hT.o20 (hT.k t_this (by decide))).one 0 rfl rfl 1 (by decide) (hg _ k1220) (fun _ h9 => h9) rfl dX6_predicted_46 ?_
        rw [erW]
        refine lv_iconst (v := 5) hx hb dX6_predicted_49 (by decide) ?_
        refine lv_iload_n hx hb dX6_predicted_50 rfl (lv_at hl 2 rfl) ?_
        refine lv_iadd hx hb dX6_predicted_51 ?_
        first | refine g_add (by omega) (by omega) (fun t3 ht3 => ?_) | refine lv_topi (fun t3 ht3 => ?_)
        refine va_lald hx hb hK (hT.o21 (hT.k trW (by decide))).one 0 1 rfl rfl (g_in (by omega) (by omega)) dX6_predicted_52 ?_
        refine lv_topl (fun t4 ht4 => ?_)
        refine lv_aload_n hx hb dX6_predicted_53 rfl (lv_at hl 0 rfl) ?_
        refine va_get (D := κ.1) (ci := 6) (v := .ref (kR κ this 1)) (C := RX6) (T := TX6) (N := 27) hx hb hg inX6 hown hK (hT.o20 (hT.k t_this (by decide))).one 0 rfl rfl 1 (by decide) (hg _ k1220) (fun _ h9 => h9) rfl dX6_predicted_54 ?_
        rw [erW]
        refine lv_iconst (v := 5) hx hb dX6_predicted_57 (by decide) ?_
        refine lv_iload_n hx hb dX6_predicted_58 rfl (lv_at hl 3 rfl) ?_
        refine lv_iadd hx hb dX6_predicted_59 ?_
        first | refine g_add (by omega) (by omega) (fun t5 ht5 => ?_) | refine lv_topi (fun t5 ht5 => ?_)
        refine va_lald hx hb hK (hT.o21 (hT.k trW (by decide))).one 0 1 rfl rfl (g_in (by omega) (by omega)) dX6_predicted_60 ?_
        refine lv_topl (fun t6 ht6 => ?_)
        refine lv_aload_n hx hb dX6_predicted_61 rfl (lv_at hl 0 rfl) ?_
        refine va_get (D := κ.1) (ci := 6) (v := .ref (kR κ this 1)) (C := RX6) (T := TX6) (N := 27) hx hb hg inX6 hown hK (hT.o20 (hT.k t_this (by decide))).one 0 rfl rfl 1 (by decide) (hg _ k1220) (fun _ h9 => h9) rfl dX6_predicted_62 ?_
        rw [erW]
        refine lv_iconst (v := 5) hx hb dX6_predicted_65 (by decide) ?_
        refine lv_iload_n hx hb dX6_predicted_66 rfl (lv_at hl 2 rfl) ?_
        refine lv_iadd hx hb dX6_predicted_67 ?_
        first | refine g_add (by omega) (by omega) (fun t7 ht7 => ?_) | refine lv_topi (fun t7 ht7 => ?_)
        refine va_lald hx hb hK (hT.o21 (hT.k trW (by decide))).one 0 1 rfl rfl (g_in (by omega) (by omega)) dX6_predicted_68 ?_
        refine lv_topl (fun t8 ht8 => ?_)
        refine lv_lsub hx hb dX6_predicted_69 ?_
        refine lv_topl (fun t9 ht9 => ?_)
        refine lv_aload_n hx hb dX6_predicted_70 rfl (lv_at hl 0 rfl) ?_
        refine va_get (D := κ.1) (ci := 6) (v := .ref (kR κ this 5)) (C := RX6) (T := TX6) (N := 27) hx hb hg inX6 hown hK (hT.o20 (hT.k t_this (by decide))).one 0 rfl rfl 5 (by decide) (hg _ k1224) (fun _ h9 => h9) rfl dX6_predicted_71 ?_
        rw [erP]
        refine lv_iload_n hx hb dX6_predicted_74 rfl (lv_at hl 1 rfl) ?_
        refine va_iald hx hb hK (hT.o25 (hT.k trP (by decide))).one 0 0 rfl rfl (g_in (by omega) (by omega)) dX6_predicted_75 ?_
        refine lv_topi (fun t10 ht10 => ?_)
        have xt10 : (zI σ0 rP (ix x)).toInt = t10.toInt := by rw [ht10]; exact congrArg (fun q9 => (zI σ0 rP q9).toInt) (show ix x = ix x from rfl)
        refine lv_aload_n hx hb dX6_predicted_76 rfl (lv_at hl 0 rfl) ?_
        refine va_get (D := κ.1) (ci := 6) (v := .ref (kR κ this 5)) (C := RX6) (T := TX6) (N := 27) hx hb hg inX6 hown hK (hT.o20 (hT.k t_this (by decide))).one 0 rfl rfl 5 (by decide) (hg _ k1224) (fun _ h9 => h9) rfl dX6_predicted_77 ?_
        rw [erP]
        refine lv_iload_n hx hb dX6_predicted_80 rfl (lv_at hl 2 rfl) ?_
        refine va_iald hx hb hK (hT.o25 (hT.k trP (by decide))).one 0 0 rfl rfl (g_in (by omega) (by omega)) dX6_predicted_81 ?_
        refine lv_topi (fun t11 ht11 => ?_)
        have xt11 : (zI σ0 rP (ix y)).toInt = t11.toInt := by rw [ht11]; exact congrArg (fun q9 => (zI σ0 rP q9).toInt) (show ix y = ix y from rfl)
        refine lv_isub hx hb dX6_predicted_82 ?_
        first | refine g_sub (by omega) (by omega) (fun t12 ht12 => ?_) | refine lv_topi (fun t12 ht12 => ?_)
        refine lv_i2l hx hb dX6_predicted_83 rfl ?_
        refine g_i2l (fun t13 ht13 => ?_)
        refine lv_lmul hx hb dX6_predicted_84 ?_
        refine lv_topl (fun t14 ht14 => ?_)
        refine lv_aload_n hx hb dX6_predicted_85 rfl (lv_at hl 0 rfl) ?_
        refine va_get (D := κ.1) (ci := 6) (v := .ref (kR κ this 5)) (C := RX6) (T := TX6) (N := 27) hx hb hg inX6 hown hK (hT.o20 (hT.k t_this (by decide))).one 0 rfl rfl 5 (by decide) (hg _ k1224) (fun _ h9 => h9) rfl dX6_predicted_86 ?_
        rw [erP]
        refine lv_iload_n hx hb dX6_predicted_89 rfl (lv_at hl 3 rfl) ?_
        refine va_iald hx hb hK (hT.o25 (hT.k trP (by decide))).one 0 0 rfl rfl (g_in (by omega) (by omega)) dX6_predicted_90 ?_
        refine lv_topi (fun t15 ht15 => ?_)
        have xt15 : (zI σ0 rP (ix z)).toInt = t15.toInt := by rw [ht15]; exact congrArg (fun q9 => (zI σ0 rP q9).toInt) (show ix z = ix z from rfl)
        refine lv_aload_n hx hb dX6_predicted_91 rfl (lv_at hl 0 rfl) ?_
        refine va_get (D := κ.1) (ci := 6) (v := .ref (kR κ this 5)) (C := RX6) (T := TX6) (N := 27) hx hb hg inX6 hown hK (hT.o20 (hT.k t_this (by decide))).one 0 rfl rfl 5 (by decide) (hg _ k1224) (fun _ h9 => h9) rfl dX6_predicted_92 ?_
        rw [erP]
        refine lv_iload_n hx hb dX6_predicted_95 rfl (lv_at hl 2 rfl) ?_
        refine va_iald hx hb hK (hT.o25 (hT.k trP (by decide))).one 0 0 rfl rfl (g_in (by omega) (by omega)) dX6_predicted_96 ?_
        refine lv_topi (fun t16 ht16 => ?_)
        have xt16 : (zI σ0 rP (ix y)).toInt = t16.toInt := by rw [ht16]; exact congrArg (fun q9 => (zI σ0 rP q9).toInt) (show ix y = ix y from rfl)
        refine lv_isub hx hb dX6_predicted_97 ?_
        first | refine g_sub (by omega) (by omega) (fun t17 ht17 => ?_) | refine lv_topi (fun t17 ht17 => ?_)
        refine lv_i2l hx hb dX6_predicted_98 rfl ?_
        refine g_i2l (fun t18 ht18 => ?_)
        have hTo := hT
        refine tSl (n := 2) (As := [.long t14, .long t18]) (rest := [.long t4]) hx hb hml hown hg hT hK hX (X6_floor l κ σ0 t14 t18   (by omega)) (fun _ _ h => h) (mwS k1469 k1470 k92 k1471) ⟨rfl, by decide, by decide, by decide +kernel⟩ ⟨(Nat.le_of_ble_eq_true rfl), (Nat.le_of_ble_eq_true rfl)⟩ rfl hl.1 rfl (Nat.le_of_ble_eq_true rfl) dX6_predicted_99 zroom.rf (fun x19 s20 H locs hφ hEs20 hT => ?_)
        have f21 := hφ
        have K22 : zI s20 this 7 = zI σ0 this 7 := hT.eI t_this (by decide) rfl rfl
        have K22n : (zI s20 this 7).toInt = (zI σ0 this 7).toInt := by rw [K22]
        have J23 : zJ s20 rW = zJ σ0 rW := funext fun k => hT.eJ trW (by decide) rfl rfl
        have J23n : (zJ s20 (kR κ this 1) 4).toInt = (zJ σ0 rW 4).toInt := by rw [erW, J23]
        have P24 : zI s20 rP = zI σ0 rP := funext fun k => hT.eI trP (by decide) rfl rfl
        try simp only [erW, erP, ix_0, ix_1, ix_2, ix_3, ix_4, ix_5, ix_6, ix_7, ix_8, ix_9, K22, J23, P24] at f21
        refine lv_ladd hx hb dX6_predicted_102 ?_
        refine lv_topl (fun t25 ht25 => ?_)
        subst hQ9
        exact t_l hx hb hr hlocks hT trivial dX6_predicted_103
      · have c5 := gi_eq c9
        refine lv_aload_n hx hb dX6_predicted_36 rfl (lv_at hl 0 rfl) ?_
        refine va_get (D := κ.1) (ci := 6) (v := .ref (kR κ this 1)) (C := RX6) (T := TX6) (N := 27) hx hb hg inX6 hown hK (hT.o20 (hT.k t_this (by decide))).one 0 rfl rfl 1 (by decide) (hg _ k1220) (fun _ h9 => h9) rfl dX6_predicted_37 ?_
        rw [erW]
        refine lv_iconst (v := 5) hx hb dX6_predicted_40 (by decide) ?_
        refine lv_iload_n hx hb dX6_predicted_41 rfl (lv_at hl 3 rfl) ?_
        refine lv_iadd hx hb dX6_predicted_42 ?_
        first | refine g_add (by omega) (by omega) (fun t26 ht26 => ?_) | refine lv_topi (fun t26 ht26 => ?_)
        refine va_lald hx hb hK (hT.o21 (hT.k trW (by decide))).one 0 1 rfl rfl (g_in (by omega) (by omega)) dX6_predicted_43 ?_
        refine lv_topl (fun t27 ht27 => ?_)
        subst hQ9
        exact t_l hx hb hr hlocks hT trivial dX6_predicted_44
    · have c6 := gi_eq c9
      refine lv_aload_n hx hb dX6_predicted_11 rfl (lv_at hl 0 rfl) ?_
      refine lv_iload_n hx hb dX6_predicted_12 rfl (lv_at hl 1 rfl) ?_
      refine lv_iload_n hx hb dX6_predicted_13 rfl (lv_at hl 2 rfl) ?_
      refine lv_iload_n hx hb dX6_predicted_14 rfl (lv_at hl 3 rfl) ?_
      have hTo := hT
      refine tVi (n := 3) (As := [.int x, .int y, .int z]) (rest := []) hx hb hml hown hg hT hK hX (X6_isLeftNearer l κ σ0 this x y z  (hT.k t_this (by decide)) h0 (by omega) (by omega) (by omega) (by omega)) (fun _ _ h => h) (mwV k1543 k1545 k68 k92 k1546) ⟨rfl, by decide, by decide, by decide +kernel⟩ ⟨(Nat.le_of_ble_eq_true rfl), (Nat.le_of_ble_eq_true rfl)⟩ (hT.o20 (hT.k t_this (by decide))) rfl rfl hl.1 rfl (Nat.le_of_ble_eq_true rfl) dX6_predicted_15 zroom.rf (fun x28 s29 H locs hφ hEs29 hT => ?_)
      have f30 := hφ
      have K31 : zI s29 this 7 = zI σ0 this 7 := hT.eI t_this (by decide) rfl rfl
      have K31n : (zI s29 this 7).toInt = (zI σ0 this 7).toInt := by rw [K31]
      have J32 : zJ s29 rW = zJ σ0 rW := funext fun k => hT.eJ trW (by decide) rfl rfl
      have J32n : (zJ s29 (kR κ this 1) 4).toInt = (zJ σ0 rW 4).toInt := by rw [erW, J32]
      have P33 : zI s29 rP = zI σ0 rP := funext fun k => hT.eI trP (by decide) rfl rfl
      refine lv_if_eq (tgt := 30) hx hb dX6_predicted_18 (by decide) (fun c9 => ?_) (fun c9 => ?_)
      · have c7 := gi_eq c9
        refine lv_iload hx hb dX6_predicted_30 (lv_at hl 4 rfl) ?_
        refine lv_iconst (v := 1) hx hb dX6_predicted_32 (by decide) ?_
        refine lv_icmp_ne (tgt := 45) hx hb dX6_predicted_33 (by decide) (fun c9 => ?_) (fun c9 => ?_)
        · have c8 := gi_ne c9
          refine lv_aload_n hx hb dX6_predicted_45 rfl (lv_at hl 0 rfl) ?_
          refine va_get (D := κ.1) (ci := 6) (v := .ref (kR κ this 1)) (C := RX6) (T := TX6) (N := 27) hx hb hg inX6 hown hK (hT.o20 (hT.k t_this (by decide))).one 0 rfl rfl 1 (by decide) (hg _ k1220) (fun _ h9 => h9) rfl dX6_predicted_46 ?_
          rw [erW]
          refine lv_iconst (v := 5) hx hb dX6_predicted_49 (by decide) ?_
          refine lv_iload_n hx hb dX6_predicted_50 rfl (lv_at hl 2 rfl) ?_
          refine lv_iadd hx hb dX6_predicted_51 ?_
          first | refine g_add (by omega) (by omega) (fun t34 ht34 => ?_) | refine lv_topi (fun t34 ht34 => ?_)
          refine va_lald hx hb hK (hT.o21 (hT.k trW (by decide))).one 0 1 rfl rfl (g_in (by omega) (by omega)) dX6_predicted_52 ?_
          refine lv_topl (fun t35 ht35 => ?_)
          refine lv_aload_n hx hb dX6_predicted_53 rfl (lv_at hl 0 rfl) ?_
          refine va_get (D := κ.1) (ci := 6) (v := .ref (kR κ this 1)) (C := RX6) (T := TX6) (N := 27) hx hb hg inX6 hown hK (hT.o20 (hT.k t_this (by decide))).one 0 rfl rfl 1 (by decide) (hg _ k1220) (fun _ h9 => h9) rfl dX6_predicted_54 ?_
          rw [erW]
          refine lv_iconst (v := 5) hx hb dX6_predicted_57 (by decide) ?_
          refine lv_iload_n hx hb dX6_predicted_58 rfl (lv_at hl 3 rfl) ?_
          refine lv_iadd hx hb dX6_predicted_59 ?_
          first | refine g_add (by omega) (by omega) (fun t36 ht36 => ?_) | refine lv_topi (fun t36 ht36 => ?_)
          refine va_lald hx hb hK (hT.o21 (hT.k trW (by decide))).one 0 1 rfl rfl (g_in (by omega) (by omega)) dX6_predicted_60 ?_
          refine lv_topl (fun t37 ht37 => ?_)
          refine lv_aload_n hx hb dX6_predicted_61 rfl (lv_at hl 0 rfl) ?_
          refine va_get (D := κ.1) (ci := 6) (v := .ref (kR κ this 1)) (C := RX6) (T := TX6) (N := 27) hx hb hg inX6 hown hK (hT.o20 (hT.k t_this (by decide))).one 0 rfl rfl 1 (by decide) (hg _ k1220) (fun _ h9 => h9) rfl dX6_predicted_62 ?_
          rw [erW]
          refine lv_iconst (v := 5) hx hb dX6_predicted_65 (by decide) ?_
          refine lv_iload_n hx hb dX6_predicted_66 rfl (lv_at hl 2 rfl) ?_
          refine lv_iadd hx hb dX6_predicted_67 ?_
          first | refine g_add (by omega) (by omega) (fun t38 ht38 => ?_) | refine lv_topi (fun t38 ht38 => ?_)
          refine va_lald hx hb hK (hT.o21 (hT.k trW (by decide))).one 0 1 rfl rfl (g_in (by omega) (by omega)) dX6_predicted_68 ?_
          refine lv_topl (fun t39 ht39 => ?_)
          refine lv_lsub hx hb dX6_predicted_69 ?_
          refine lv_topl (fun t40 ht40 => ?_)
          refine lv_aload_n hx hb dX6_predicted_70 rfl (lv_at hl 0 rfl) ?_
          refine va_get (D := κ.1) (ci := 6) (v := .ref (kR κ this 5)) (C := RX6) (T := TX6) (N := 27) hx hb hg inX6 hown hK (hT.o20 (hT.k t_this (by decide))).one 0 rfl rfl 5 (by decide) (hg _ k1224) (fun _ h9 => h9) rfl dX6_predicted_71 ?_
          rw [erP]
          refine lv_iload_n hx hb dX6_predicted_74 rfl (lv_at hl 1 rfl) ?_
          refine va_iald hx hb hK (hT.o25 (hT.k trP (by decide))).one 0 0 rfl rfl (g_in (by omega) (by omega)) dX6_predicted_75 ?_
          refine lv_topi (fun t41 ht41 => ?_)
          have xt41 : (zI s29 rP (ix x)).toInt = t41.toInt := by rw [ht41]; exact congrArg (fun q9 => (zI s29 rP q9).toInt) (show ix x = ix x from rfl)
          try simp only [K31, J32, P33] at xt41
          refine lv_aload_n hx hb dX6_predicted_76 rfl (lv_at hl 0 rfl) ?_
          refine va_get (D := κ.1) (ci := 6) (v := .ref (kR κ this 5)) (C := RX6) (T := TX6) (N := 27) hx hb hg inX6 hown hK (hT.o20 (hT.k t_this (by decide))).one 0 rfl rfl 5 (by decide) (hg _ k1224) (fun _ h9 => h9) rfl dX6_predicted_77 ?_
          rw [erP]
          refine lv_iload_n hx hb dX6_predicted_80 rfl (lv_at hl 2 rfl) ?_
          refine va_iald hx hb hK (hT.o25 (hT.k trP (by decide))).one 0 0 rfl rfl (g_in (by omega) (by omega)) dX6_predicted_81 ?_
          refine lv_topi (fun t42 ht42 => ?_)
          have xt42 : (zI s29 rP (ix y)).toInt = t42.toInt := by rw [ht42]; exact congrArg (fun q9 => (zI s29 rP q9).toInt) (show ix y = ix y from rfl)
          try simp only [K31, J32, P33] at xt42
          refine lv_isub hx hb dX6_predicted_82 ?_
          first | refine g_sub (by omega) (by omega) (fun t43 ht43 => ?_) | refine lv_topi (fun t43 ht43 => ?_)
          refine lv_i2l hx hb dX6_predicted_83 rfl ?_
          refine g_i2l (fun t44 ht44 => ?_)
          refine lv_lmul hx hb dX6_predicted_84 ?_
          refine lv_topl (fun t45 ht45 => ?_)
          refine lv_aload_n hx hb dX6_predicted_85 rfl (lv_at hl 0 rfl) ?_
          refine va_get (D := κ.1) (ci := 6) (v := .ref (kR κ this 5)) (C := RX6) (T := TX6) (N := 27) hx hb hg inX6 hown hK (hT.o20 (hT.k t_this (by decide))).one 0 rfl rfl 5 (by decide) (hg _ k1224) (fun _ h9 => h9) rfl dX6_predicted_86 ?_
          rw [erP]
          refine lv_iload_n hx hb dX6_predicted_89 rfl (lv_at hl 3 rfl) ?_
          refine va_iald hx hb hK (hT.o25 (hT.k trP (by decide))).one 0 0 rfl rfl (g_in (by omega) (by omega)) dX6_predicted_90 ?_
          refine lv_topi (fun t46 ht46 => ?_)
          have xt46 : (zI s29 rP (ix z)).toInt = t46.toInt := by rw [ht46]; exact congrArg (fun q9 => (zI s29 rP q9).toInt) (show ix z = ix z from rfl)
          try simp only [K31, J32, P33] at xt46
          refine lv_aload_n hx hb dX6_predicted_91 rfl (lv_at hl 0 rfl) ?_
          refine va_get (D := κ.1) (ci := 6) (v := .ref (kR κ this 5)) (C := RX6) (T := TX6) (N := 27) hx hb hg inX6 hown hK (hT.o20 (hT.k t_this (by decide))).one 0 rfl rfl 5 (by decide) (hg _ k1224) (fun _ h9 => h9) rfl dX6_predicted_92 ?_
          rw [erP]
          refine lv_iload_n hx hb dX6_predicted_95 rfl (lv_at hl 2 rfl) ?_
          refine va_iald hx hb hK (hT.o25 (hT.k trP (by decide))).one 0 0 rfl rfl (g_in (by omega) (by omega)) dX6_predicted_96 ?_
          refine lv_topi (fun t47 ht47 => ?_)
          have xt47 : (zI s29 rP (ix y)).toInt = t47.toInt := by rw [ht47]; exact congrArg (fun q9 => (zI s29 rP q9).toInt) (show ix y = ix y from rfl)
          try simp only [K31, J32, P33] at xt47
          refine lv_isub hx hb dX6_predicted_97 ?_
          first | refine g_sub (by omega) (by omega) (fun t48 ht48 => ?_) | refine lv_topi (fun t48 ht48 => ?_)
          refine lv_i2l hx hb dX6_predicted_98 rfl ?_
          refine g_i2l (fun t49 ht49 => ?_)
          have hTo := hT
          refine tSl (n := 2) (As := [.long t45, .long t49]) (rest := [.long t35]) hx hb hml hown hg hT hK hX (X6_floor l κ s29 t45 t49   (by omega)) (fun _ _ h => h) (mwS k1469 k1470 k92 k1471) ⟨rfl, by decide, by decide, by decide +kernel⟩ ⟨(Nat.le_of_ble_eq_true rfl), (Nat.le_of_ble_eq_true rfl)⟩ rfl hl.1 rfl (Nat.le_of_ble_eq_true rfl) dX6_predicted_99 zroom.rf (fun x50 s51 H locs hφ hEs51 hT => ?_)
          have f52 := hφ
          have K53 : zI s51 this 7 = zI σ0 this 7 := hT.eI t_this (by decide) rfl rfl
          have K53n : (zI s51 this 7).toInt = (zI σ0 this 7).toInt := by rw [K53]
          have J54 : zJ s51 rW = zJ σ0 rW := funext fun k => hT.eJ trW (by decide) rfl rfl
          have J54n : (zJ s51 (kR κ this 1) 4).toInt = (zJ σ0 rW 4).toInt := by rw [erW, J54]
          have P55 : zI s51 rP = zI σ0 rP := funext fun k => hT.eI trP (by decide) rfl rfl
          try simp only [erW, erP, ix_0, ix_1, ix_2, ix_3, ix_4, ix_5, ix_6, ix_7, ix_8, ix_9, K31, J32, P33, K53, J54, P55] at f52
          refine lv_ladd hx hb dX6_predicted_102 ?_
          refine lv_topl (fun t56 ht56 => ?_)
          subst hQ9
          exact t_l hx hb hr hlocks hT trivial dX6_predicted_103
        · have c9 := gi_eq c9
          refine lv_aload_n hx hb dX6_predicted_36 rfl (lv_at hl 0 rfl) ?_
          refine va_get (D := κ.1) (ci := 6) (v := .ref (kR κ this 1)) (C := RX6) (T := TX6) (N := 27) hx hb hg inX6 hown hK (hT.o20 (hT.k t_this (by decide))).one 0 rfl rfl 1 (by decide) (hg _ k1220) (fun _ h9 => h9) rfl dX6_predicted_37 ?_
          rw [erW]
          refine lv_iconst (v := 5) hx hb dX6_predicted_40 (by decide) ?_
          refine lv_iload_n hx hb dX6_predicted_41 rfl (lv_at hl 3 rfl) ?_
          refine lv_iadd hx hb dX6_predicted_42 ?_
          first | refine g_add (by omega) (by omega) (fun t57 ht57 => ?_) | refine lv_topi (fun t57 ht57 => ?_)
          refine va_lald hx hb hK (hT.o21 (hT.k trW (by decide))).one 0 1 rfl rfl (g_in (by omega) (by omega)) dX6_predicted_43 ?_
          refine lv_topl (fun t58 ht58 => ?_)
          subst hQ9
          exact t_l hx hb hr hlocks hT trivial dX6_predicted_44
      · have c10 := gi_ne c9
        refine lv_aload_n hx hb dX6_predicted_21 rfl (lv_at hl 0 rfl) ?_
        refine va_get (D := κ.1) (ci := 6) (v := .ref (kR κ this 1)) (C := RX6) (T := TX6) (N := 27) hx hb hg inX6 hown hK (hT.o20 (hT.k t_this (by decide))).one 0 rfl rfl 1 (by decide) (hg _ k1220) (fun _ h9 => h9) rfl dX6_predicted_22 ?_
        rw [erW]
        refine lv_iconst (v := 5) hx hb dX6_predicted_25 (by decide) ?_
        refine lv_iload_n hx hb dX6_predicted_26 rfl (lv_at hl 2 rfl) ?_
        refine lv_iadd hx hb dX6_predicted_27 ?_
        first | refine g_add (by omega) (by omega) (fun t59 ht59 => ?_) | refine lv_topi (fun t59 ht59 => ?_)
        refine va_lald hx hb hK (hT.o21 (hT.k trW (by decide))).one 0 1 rfl rfl (g_in (by omega) (by omega)) dX6_predicted_28 ?_
        refine lv_topl (fun t60 ht60 => ?_)
        subst hQ9
        exact t_l hx hb hr hlocks hT trivial dX6_predicted_29
set_option maxHeartbeats 4000000 in
set_option maxRecDepth 100000 in
theorem X6_shareOf (l : Launch) (κ : Kt) (σ0 : Gh) (this : Nat) (x : Int32) (y : Int32) (z : Int32) (md : Int32) (t_this : zk σ0 this 20) (h0 : RI κ σ0 this) (h1 : 0 ≤ y.toInt) (h2 : y.toInt < x.toInt) (h3 : x.toInt < z.toInt) (h4 : z.toInt < (zI σ0 this 7).toInt) (h5 : 1 ≤ rwt (zJ σ0 (kR κ this 1)) (ix x)) (h6 : rwt (zJ σ0 (kR κ this 1)) (ix x) ≤ 20000) : TC l yX6_shareOf cX6_shareOf 7 (some .long) 1 25 [.ref this, .int x, .int y, .int z, .int md] κ σ0 (tql κ fE σ0 (fun (r : Int64) (τ : Gh) => (0 ≤ r.toInt) ∧ (r.toInt ≤ rwt (zJ σ0 (kR κ this 1)) (ix x)))) := by
  refine TC.of fE (by decide +kernel) (Nat.le_of_ble_eq_true rfl) ?_
  intro p e s m below meth c ls hcs hK hX hT hl
  obtain ⟨hx, hb, hr, hml, hown, hg, hlocks, hin⟩ := hcs
  have hown : s.vm.findClass RX6 = some m.cls := hown
  have hl : lv_has ls 7 [(0, .ref this), (1, .int x), (2, .int y), (3, .int z), (4, .int md)] := hl
  have hT0 := hT
  have n0 : (0 : Int32).toInt = 0 := by decide
  have n2 : (2 : Int32).toInt = 2 := by decide
  have n53 : (53 : Int32).toInt = 53 := by decide
  have j0 : (0 : Int64).toInt = 0 := by decide
  have x_lo := Int32.le_toInt x
  have x_hi := Int32.toInt_lt x
  have y_lo := Int32.le_toInt y
  have y_hi := Int32.toInt_lt y
  have z_lo := Int32.le_toInt z
  have z_hi := Int32.toInt_lt z
  have md_lo := Int32.le_toInt md
  have md_hi := Int32.toInt_lt md
  generalize hQ9 : tQ _ _ _ _ _ _ = Q9
  obtain ⟨rW, erW⟩ : ∃ z, kR κ this 1 = z := ⟨_, rfl⟩
  have trW : zk σ0 rW 21 := by rw [← erW]; exact h0.1.2.1
  obtain ⟨rP, erP⟩ : ∃ z, kR κ this 5 = z := ⟨_, rfl⟩
  have trP : zk σ0 rP 25 := by rw [← erP]; exact h0.1.2.2.2.2
  have hB0 := h0.b
  rw [erW] at hB0
  have hW := h0.2.1
  rw [erW] at hW
  have hP := h0.2.2.1
  rw [erP] at hP
  have hrN : (rN σ0 this : Int) = (zI σ0 this 7).toInt := by unfold rN; omega
  try simp only [erW, erP] at h5
  try simp only [erW, erP] at h6
  have g1 := hP.lt (i := ix y) (j := ix x) (by unfold ix; omega) (by unfold ix; omega)
  have g2 := hP.lt (i := ix x) (j := ix z) (by unfold ix; omega) (by unfold ix; omega)
  have g3 := (hP (ix y) (by unfold ix; omega)).1
  have g4 := (hP (ix z) (by unfold ix; omega)).1
  have hxx : ∀ k : Int32, 0 ≤ k.toInt → (ix k : Int) = k.toInt := fun k q => by unfold ix; omega
  refine lv_aload_n hx hb dX6_shareOf_0 rfl (lv_at hl 0 rfl) ?_
  refine va_get (D := κ.1) (ci := 6) (v := .ref (kR κ this 1)) (C := RX6) (T := TX6) (N := 27) hx hb hg inX6 hown hK (hT.o20 (hT.k t_this (by decide))).one 0 rfl rfl 1 (by decide) (hg _ k1220) (fun _ h9 => h9) rfl dX6_shareOf_1 ?_
  rw [erW]
  refine lv_bipush (v := 53) hx hb dX6_shareOf_4 (by decide) ?_
  refine lv_iload_n hx hb dX6_shareOf_6 rfl (lv_at hl 1 rfl) ?_
  refine lv_iadd hx hb dX6_shareOf_7 ?_
  first | refine g_add (by omega) (by omega) (fun t1 ht1 => ?_) | refine lv_topi (fun t1 ht1 => ?_)
  refine va_lald hx hb hK (hT.o21 (hT.k trW (by decide))).one 0 1 rfl rfl (g_in (by omega) (by omega)) dX6_shareOf_8 ?_
  refine lv_topl (fun t2 ht2 => ?_)
  have xt2 : rwt (zJ σ0 rW) (ix x) = t2.toInt := by rw [ht2]; exact congrArg (fun q9 => (zJ σ0 rW q9).toInt) (show 53 + ix x = ix t1 from by unfold ix; omega)
  refine lv_lstore (lv' := [(5, .long t2), (0, .ref this), (1, .int x), (2, .int y), (3, .int z), (4, .int md)]) hx hb dX6_shareOf_9 hl (by decide) rfl (fun ls hl => ?_)
  refine lv_iload hx hb dX6_shareOf_11 (lv_at hl 5 rfl) ?_
  refine lv_iconst (v := 2) hx hb dX6_shareOf_13 (by decide) ?_
  refine lv_icmp_ne (tgt := 52) hx hb dX6_shareOf_14 (by decide) (fun c9 => ?_) (fun c9 => ?_)
  · have c1 := gi_ne c9
    refine lv_iload hx hb dX6_shareOf_52 (lv_at hl 5 rfl) ?_
    refine lv_if_eq (tgt := 67) hx hb dX6_shareOf_54 (by decide) (fun c9 => ?_) (fun c9 => ?_)
    · have c2 := gi_eq c9
      refine lv_lload hx hb dX6_shareOf_67 (lv_at hl 0 rfl) ?_
      refine lv_goto (tgt := 73) hx hb dX6_shareOf_69 (by decide) ?_
      subst hQ9
      exact t_l hx hb hr hlocks hT ⟨by omega, by simp only [erW, erP]; omega⟩ dX6_shareOf_73
    · have c3 := gi_ne c9
      refine lv_aload_n hx hb dX6_shareOf_57 rfl (lv_at hl 1 rfl) ?_
      refine lv_iload_n hx hb dX6_shareOf_58 rfl (lv_at hl 2 rfl) ?_
      refine lv_iload_n hx hb dX6_shareOf_59 rfl (lv_at hl 3 rfl) ?_
      refine lv_iload_n hx hb dX6_shareOf_60 rfl (lv_at hl 4 rfl) ?_
      have hTo := hT
      refine tVi (n := 3) (As := [.int x, .int y, .int z]) (rest := []) hx hb hml hown hg hT hK hX (X6_isLeftNearer l κ σ0 this x y z  (hT.k t_this (by decide)) h0 (by omega) (by omega) (by omega) (by omega)) (fun _ _ h => h) (mwV k1543 k1545 k68 k92 k1546) ⟨rfl, by decide, by decide, by decide +kernel⟩ ⟨(Nat.le_of_ble_eq_true rfl), (Nat.le_of_ble_eq_true rfl)⟩ (hT.o20 (hT.k t_this (by decide))) rfl rfl hl.1 rfl (Nat.le_of_ble_eq_true rfl) dX6_shareOf_61 zroom.rf (fun x3 s4 H locs hφ hEs4 hT => ?_)
      have f5 := hφ
      have K6 : zI s4 this 7 = zI σ0 this 7 := hT.eI t_this (by decide) rfl rfl
      have K6n : (zI s4 this 7).toInt = (zI σ0 this 7).toInt := by rw [K6]
      have J7 : zJ s4 rW = zJ σ0 rW := funext fun k => hT.eJ trW (by decide) rfl rfl
      have J7n : (zJ s4 (kR κ this 1) 4).toInt = (zJ σ0 rW 4).toInt := by rw [erW, J7]
      have P8 : zI s4 rP = zI σ0 rP := funext fun k => hT.eI trP (by decide) rfl rfl
      refine lv_if_eq (tgt := 72) hx hb dX6_shareOf_64 (by decide) (fun c9 => ?_) (fun c9 => ?_)
      · have c4 := gi_eq c9
        refine lv_lconst (v := 0) hx hb dX6_shareOf_72 (by decide) ?_
        subst hQ9
        exact t_l hx hb hr hlocks hT ⟨by omega, by simp only [erW, erP]; omega⟩ dX6_shareOf_73
      · have c5 := gi_ne c9
        refine lv_lload hx hb dX6_shareOf_67 (lv_at hl 0 rfl) ?_
        refine lv_goto (tgt := 73) hx hb dX6_shareOf_69 (by decide) ?_
        subst hQ9
        exact t_l hx hb hr hlocks hT ⟨by omega, by simp only [erW, erP]; omega⟩ dX6_shareOf_73
  · have c6 := gi_eq c9
    refine lv_lload hx hb dX6_shareOf_17 (lv_at hl 0 rfl) ?_
    refine lv_aload_n hx hb dX6_shareOf_19 rfl (lv_at hl 1 rfl) ?_
    refine va_get (D := κ.1) (ci := 6) (v := .ref (kR κ this 5)) (C := RX6) (T := TX6) (N := 27) hx hb hg inX6 hown hK (hT.o20 (hT.k t_this (by decide))).one 0 rfl rfl 5 (by decide) (hg _ k1224) (fun _ h9 => h9) rfl dX6_shareOf_20 ?_
    rw [erP]
    refine lv_iload_n hx hb dX6_shareOf_23 rfl (lv_at hl 4 rfl) ?_
    refine va_iald hx hb hK (hT.o25 (hT.k trP (by decide))).one 0 0 rfl rfl (g_in (by omega) (by omega)) dX6_shareOf_24 ?_
    refine lv_topi (fun t9 ht9 => ?_)
    have xt9 : (zI σ0 rP (ix z)).toInt = t9.toInt := by rw [ht9]; exact congrArg (fun q9 => (zI σ0 rP q9).toInt) (show ix z = ix z from rfl)
    refine lv_aload_n hx hb dX6_shareOf_25 rfl (lv_at hl 1 rfl) ?_
    refine va_get (D := κ.1) (ci := 6) (v := .ref (kR κ this 5)) (C := RX6) (T := TX6) (N := 27) hx hb hg inX6 hown hK (hT.o20 (hT.k t_this (by decide))).one 0 rfl rfl 5 (by decide) (hg _ k1224) (fun _ h9 => h9) rfl dX6_shareOf_26 ?_
    rw [erP]
    refine lv_iload_n hx hb dX6_shareOf_29 rfl (lv_at hl 2 rfl) ?_
    refine va_iald hx hb hK (hT.o25 (hT.k trP (by decide))).one 0 0 rfl rfl (g_in (by omega) (by omega)) dX6_shareOf_30 ?_
    refine lv_topi (fun t10 ht10 => ?_)
    have xt10 : (zI σ0 rP (ix x)).toInt = t10.toInt := by rw [ht10]; exact congrArg (fun q9 => (zI σ0 rP q9).toInt) (show ix x = ix x from rfl)
    refine lv_isub hx hb dX6_shareOf_31 ?_
    first | refine g_sub (by omega) (by omega) (fun t11 ht11 => ?_) | refine lv_topi (fun t11 ht11 => ?_)
    refine lv_i2l hx hb dX6_shareOf_32 rfl ?_
    refine g_i2l (fun t12 ht12 => ?_)
    refine lv_lmul hx hb dX6_shareOf_33 ?_
    have m1 : 0 ≤ t2.toInt * t12.toInt := Int.mul_nonneg (by omega) (by omega)
    have m2 : t2.toInt * t12.toInt ≤ 20000 * 9999 := Int.mul_le_mul (by omega) (by omega) (by omega) (by omega)
    refine g_mull (by omega) (by omega) (fun t13 ht13 => ?_)
    refine lv_aload_n hx hb dX6_shareOf_34 rfl (lv_at hl 1 rfl) ?_
    refine va_get (D := κ.1) (ci := 6) (v := .ref (kR κ this 5)) (C := RX6) (T := TX6) (N := 27) hx hb hg inX6 hown hK (hT.o20 (hT.k t_this (by decide))).one 0 rfl rfl 5 (by decide) (hg _ k1224) (fun _ h9 => h9) rfl dX6_shareOf_35 ?_
    rw [erP]
    refine lv_iload_n hx hb dX6_shareOf_38 rfl (lv_at hl 4 rfl) ?_
    refine va_iald hx hb hK (hT.o25 (hT.k trP (by decide))).one 0 0 rfl rfl (g_in (by omega) (by omega)) dX6_shareOf_39 ?_
    refine lv_topi (fun t14 ht14 => ?_)
    have xt14 : (zI σ0 rP (ix z)).toInt = t14.toInt := by rw [ht14]; exact congrArg (fun q9 => (zI σ0 rP q9).toInt) (show ix z = ix z from rfl)
    refine lv_aload_n hx hb dX6_shareOf_40 rfl (lv_at hl 1 rfl) ?_
    refine va_get (D := κ.1) (ci := 6) (v := .ref (kR κ this 5)) (C := RX6) (T := TX6) (N := 27) hx hb hg inX6 hown hK (hT.o20 (hT.k t_this (by decide))).one 0 rfl rfl 5 (by decide) (hg _ k1224) (fun _ h9 => h9) rfl dX6_shareOf_41 ?_
    rw [erP]
    refine lv_iload_n hx hb dX6_shareOf_44 rfl (lv_at hl 3 rfl) ?_
    refine va_iald hx hb hK (hT.o25 (hT.k trP (by decide))).one 0 0 rfl rfl (g_in (by omega) (by omega)) dX6_shareOf_45 ?_
    refine lv_topi (fun t15 ht15 => ?_)
    have xt15 : (zI σ0 rP (ix y)).toInt = t15.toInt := by rw [ht15]; exact congrArg (fun q9 => (zI σ0 rP q9).toInt) (show ix y = ix y from rfl)
    refine lv_isub hx hb dX6_shareOf_46 ?_
    first | refine g_sub (by omega) (by omega) (fun t16 ht16 => ?_) | refine lv_topi (fun t16 ht16 => ?_)
    refine lv_i2l hx hb dX6_shareOf_47 rfl ?_
    refine g_i2l (fun t17 ht17 => ?_)
    have hTo := hT
    refine tSl (n := 2) (As := [.long t13, .long t17]) (rest := []) hx hb hml hown hg hT hK hX (X6_floor l κ σ0 t13 t17   (by omega)) (fun _ _ h => h) (mwS k1469 k1470 k92 k1471) ⟨rfl, by decide, by decide, by decide +kernel⟩ ⟨(Nat.le_of_ble_eq_true rfl), (Nat.le_of_ble_eq_true rfl)⟩ rfl hl.1 rfl (Nat.le_of_ble_eq_true rfl) dX6_shareOf_48 zroom.rf (fun x18 s19 H locs hφ hEs19 hT => ?_)
    have f20 := hφ
    have K21 : zI s19 this 7 = zI σ0 this 7 := hT.eI t_this (by decide) rfl rfl
    have K21n : (zI s19 this 7).toInt = (zI σ0 this 7).toInt := by rw [K21]
    have J22 : zJ s19 rW = zJ σ0 rW := funext fun k => hT.eJ trW (by decide) rfl rfl
    have J22n : (zJ s19 (kR κ this 1) 4).toInt = (zJ σ0 rW 4).toInt := by rw [erW, J22]
    have P23 : zI s19 rP = zI σ0 rP := funext fun k => hT.eI trP (by decide) rfl rfl
    try simp only [erW, erP, ix_0, ix_1, ix_2, ix_3, ix_4, ix_5, ix_6, ix_7, ix_8, ix_9, K21, J22, P23] at f20
    obtain ⟨n1, n2⟩ := f20 (by omega)
    have n3 : x18.toInt ≤ t2.toInt := Int.le_trans n2 (Int.ediv_le_of_le_mul (by omega) (by rw [ht13]; exact Int.mul_le_mul_of_nonneg_left (by omega) (by omega)))
    subst hQ9
    exact t_l hx hb hr hlocks hT ⟨by omega, by simp only [erW, erP]; omega⟩ dX6_shareOf_51

/-! State over any state: details, differences -/
theorem k29 : Cond.selects RX1 yX1_rankOf yX1_rankOf ∈ GW := gm 29 (by decide +kernel) (by decide +kernel)
theorem k32 : Cond.selects RX1 yX1_differenceInto yX1_differenceInto ∈ GW := gm 32 (by decide +kernel) (by decide +kernel)
theorem k476 : Cond.instanceMethod yX4_bitsOfAmount ∈ GW := gm 476 (by decide +kernel) (by decide +kernel)
theorem k477 : Cond.selects RX4 yX4_bitsOfAmount yX4_bitsOfAmount ∈ GW := gm 477 (by decide +kernel) (by decide +kernel)
theorem k478 : Cond.code yX4_bitsOfAmount cX4_bitsOfAmount 1 (some .int) ∈ GW := gm 478 (by decide +kernel) (by decide +kernel)
theorem k509 : Cond.methodLink RX1 206 yX4_bitsOfAmount ∈ GW := gm 509 (by decide +kernel) (by decide +kernel)
theorem k845 : Cond.methodLink RX1 202 yX4_isZero ∈ GW := gm 845 (by decide +kernel) (by decide +kernel)
theorem k846 : Cond.instanceMethod yX4_isZero ∈ GW := gm 846 (by decide +kernel) (by decide +kernel)
theorem k847 : Cond.selects RX4 yX4_isZero yX4_isZero ∈ GW := gm 847 (by decide +kernel) (by decide +kernel)
theorem k848 : Cond.code yX4_isZero cX4_isZero 1 (some .boolean) ∈ GW := gm 848 (by decide +kernel) (by decide +kernel)
theorem k914 : Cond.instanceMethod yX4_restOfAmount ∈ GW := gm 914 (by decide +kernel) (by decide +kernel)
theorem k915 : Cond.selects RX4 yX4_restOfAmount yX4_restOfAmount ∈ GW := gm 915 (by decide +kernel) (by decide +kernel)
theorem k916 : Cond.code yX4_restOfAmount cX4_restOfAmount 6 (some .long) ∈ GW := gm 916 (by decide +kernel) (by decide +kernel)
theorem k921 : Cond.static yJ9_max_f86c9 ∈ GW := gm 921 (by decide +kernel) (by decide +kernel)
theorem k922 : Cond.code yJ9_max_f86c9 cJ9_max_f86c9 4 (some .long) ∈ GW := gm 922 (by decide +kernel) (by decide +kernel)
theorem k935 : Cond.instanceMethod yX1_stepOfRank ∈ GW := gm 935 (by decide +kernel) (by decide +kernel)
theorem k936 : Cond.selects RX1 yX1_stepOfRank yX1_stepOfRank ∈ GW := gm 936 (by decide +kernel) (by decide +kernel)
theorem k937 : Cond.code yX1_stepOfRank cX1_stepOfRank 3 (some .int) ∈ GW := gm 937 (by decide +kernel) (by decide +kernel)
theorem k938 : Cond.methodLink RX1 209 yX1_rankOf ∈ GW := gm 938 (by decide +kernel) (by decide +kernel)
theorem k940 : Cond.instanceMethod yX1_rankOf ∈ GW := gm 940 (by decide +kernel) (by decide +kernel)
theorem k941 : Cond.code yX1_rankOf cX1_rankOf 5 (some .int) ∈ GW := gm 941 (by decide +kernel) (by decide +kernel)
theorem k1076 : Cond.methodLink RX1 212 yX4_isAmountBelow ∈ GW := gm 1076 (by decide +kernel) (by decide +kernel)
theorem k1077 : Cond.instanceMethod yX4_isAmountBelow ∈ GW := gm 1077 (by decide +kernel) (by decide +kernel)
theorem k1078 : Cond.selects RX4 yX4_isAmountBelow yX4_isAmountBelow ∈ GW := gm 1078 (by decide +kernel) (by decide +kernel)
theorem k1079 : Cond.code yX4_isAmountBelow cX4_isAmountBelow 3 (some .boolean) ∈ GW := gm 1079 (by decide +kernel) (by decide +kernel)
theorem k1080 : Cond.methodLink RX1 216 yX4_isBelowZero ∈ GW := gm 1080 (by decide +kernel) (by decide +kernel)
theorem k1081 : Cond.instanceMethod yX4_isBelowZero ∈ GW := gm 1081 (by decide +kernel) (by decide +kernel)
theorem k1082 : Cond.selects RX4 yX4_isBelowZero yX4_isBelowZero ∈ GW := gm 1082 (by decide +kernel) (by decide +kernel)
theorem k1083 : Cond.code yX4_isBelowZero cX4_isBelowZero 1 (some .boolean) ∈ GW := gm 1083 (by decide +kernel) (by decide +kernel)
theorem k1095 : Cond.methodLink RX1 219 yX4_restOfAmount ∈ GW := gm 1095 (by decide +kernel) (by decide +kernel)
theorem k1096 : Cond.constantLong RX1 223 2 ∈ GW := gm 1096 (by decide +kernel) (by decide +kernel)
theorem k1097 : Cond.methodLink RX1 225 yJ9_abs_067f4 ∈ GW := gm 1097 (by decide +kernel) (by decide +kernel)
theorem k1098 : Cond.static yJ9_abs_067f4 ∈ GW := gm 1098 (by decide +kernel) (by decide +kernel)
theorem k1099 : Cond.code yJ9_abs_067f4 cJ9_abs_067f4 2 (some .long) ∈ GW := gm 1099 (by decide +kernel) (by decide +kernel)
theorem k1111 : Cond.methodLink RX1 230 yX1_stepOfRank ∈ GW := gm 1111 (by decide +kernel) (by decide +kernel)
theorem k1112 : Cond.methodLink RX1 233 yX4_dropSign ∈ GW := gm 1112 (by decide +kernel) (by decide +kernel)
theorem k1113 : Cond.instanceMethod yX4_dropSign ∈ GW := gm 1113 (by decide +kernel) (by decide +kernel)
theorem k1114 : Cond.selects RX4 yX4_dropSign yX4_dropSign ∈ GW := gm 1114 (by decide +kernel) (by decide +kernel)
theorem k1115 : Cond.code yX4_dropSign cX4_dropSign 1 none ∈ GW := gm 1115 (by decide +kernel) (by decide +kernel)
theorem k1137 : Cond.methodLink RX1 240 yX1_differenceInto ∈ GW := gm 1137 (by decide +kernel) (by decide +kernel)
theorem k1139 : Cond.instanceMethod yX1_differenceInto ∈ GW := gm 1139 (by decide +kernel) (by decide +kernel)
theorem k1140 : Cond.code yX1_differenceInto cX1_differenceInto 3 none ∈ GW := gm 1140 (by decide +kernel) (by decide +kernel)
theorem k1173 : Cond.methodLink RX1 236 yJ9_max_f86c9 ∈ GW := gm 1173 (by decide +kernel) (by decide +kernel)
theorem dX1_bitsOfDetails_0 : decode cX1_bitsOfDetails 0 = .ok (.iconst 0, 1) := by decide +kernel
theorem dX1_bitsOfDetails_1 : decode cX1_bitsOfDetails 1 = .ok (.istore_n 1, 1) := by decide +kernel
theorem dX1_bitsOfDetails_2 : decode cX1_bitsOfDetails 2 = .ok (.iconst 0, 1) := by decide +kernel
theorem dX1_bitsOfDetails_3 : decode cX1_bitsOfDetails 3 = .ok (.istore_n 2, 1) := by decide +kernel
theorem dX1_bitsOfDetails_4 : decode cX1_bitsOfDetails 4 = .ok (.iload_n 2, 1) := by decide +kernel
theorem dX1_bitsOfDetails_5 : decode cX1_bitsOfDetails 5 = .ok (.aload_n 0, 1) := by decide +kernel
theorem dX1_bitsOfDetails_6 : decode cX1_bitsOfDetails 6 = .ok (.getfield 31, 3) := by decide +kernel
theorem dX1_bitsOfDetails_9 : decode cX1_bitsOfDetails 9 = .ok (.if_icmp .ge 26, 3) := by decide +kernel
theorem dX1_bitsOfDetails_12 : decode cX1_bitsOfDetails 12 = .ok (.iload_n 1, 1) := by decide +kernel
theorem dX1_bitsOfDetails_13 : decode cX1_bitsOfDetails 13 = .ok (.iconst 1, 1) := by decide +kernel
theorem dX1_bitsOfDetails_14 : decode cX1_bitsOfDetails 14 = .ok (.aload_n 0, 1) := by decide +kernel
theorem dX1_bitsOfDetails_15 : decode cX1_bitsOfDetails 15 = .ok (.getfield 27, 3) := by decide +kernel
theorem dX1_bitsOfDetails_18 : decode cX1_bitsOfDetails 18 = .ok (.iload_n 2, 1) := by decide +kernel
theorem dX1_bitsOfDetails_19 : decode cX1_bitsOfDetails 19 = .ok (.aaload, 1) := by decide +kernel
theorem dX1_bitsOfDetails_20 : decode cX1_bitsOfDetails 20 = .ok (.getfield 182, 3) := by decide +kernel
theorem dX1_bitsOfDetails_23 : decode cX1_bitsOfDetails 23 = .ok (.invokevirtual 206, 3) := by decide +kernel
theorem dX1_bitsOfDetails_26 : decode cX1_bitsOfDetails 26 = .ok (.iadd, 1) := by decide +kernel
theorem dX1_bitsOfDetails_27 : decode cX1_bitsOfDetails 27 = .ok (.iadd, 1) := by decide +kernel
theorem dX1_bitsOfDetails_28 : decode cX1_bitsOfDetails 28 = .ok (.istore_n 1, 1) := by decide +kernel
theorem dX1_bitsOfDetails_29 : decode cX1_bitsOfDetails 29 = .ok (.iinc 2 1, 3) := by decide +kernel
theorem dX1_bitsOfDetails_32 : decode cX1_bitsOfDetails 32 = .ok (.goto (-28), 3) := by decide +kernel
theorem dX1_bitsOfDetails_35 : decode cX1_bitsOfDetails 35 = .ok (.iload_n 1, 1) := by decide +kernel
theorem dX1_bitsOfDetails_36 : decode cX1_bitsOfDetails 36 = .ok (.ireturn, 1) := by decide +kernel
theorem dX1_cutDetails_0 : decode cX1_cutDetails 0 = .ok (.iconst 0, 1) := by decide +kernel
theorem dX1_cutDetails_1 : decode cX1_cutDetails 1 = .ok (.istore_n 3, 1) := by decide +kernel
theorem dX1_cutDetails_2 : decode cX1_cutDetails 2 = .ok (.iload_n 3, 1) := by decide +kernel
theorem dX1_cutDetails_3 : decode cX1_cutDetails 3 = .ok (.aload_n 0, 1) := by decide +kernel
theorem dX1_cutDetails_4 : decode cX1_cutDetails 4 = .ok (.getfield 31, 3) := by decide +kernel
theorem dX1_cutDetails_7 : decode cX1_cutDetails 7 = .ok (.if_icmp .ge 68, 3) := by decide +kernel
theorem dX1_cutDetails_10 : decode cX1_cutDetails 10 = .ok (.aload_n 0, 1) := by decide +kernel
theorem dX1_cutDetails_11 : decode cX1_cutDetails 11 = .ok (.getfield 27, 3) := by decide +kernel
theorem dX1_cutDetails_14 : decode cX1_cutDetails 14 = .ok (.iload_n 3, 1) := by decide +kernel
theorem dX1_cutDetails_15 : decode cX1_cutDetails 15 = .ok (.aaload, 1) := by decide +kernel
theorem dX1_cutDetails_16 : decode cX1_cutDetails 16 = .ok (.getfield 182, 3) := by decide +kernel
theorem dX1_cutDetails_19 : decode cX1_cutDetails 19 = .ok (.astore 4, 2) := by decide +kernel
theorem dX1_cutDetails_21 : decode cX1_cutDetails 21 = .ok (.aload 4, 2) := by decide +kernel
theorem dX1_cutDetails_23 : decode cX1_cutDetails 23 = .ok (.iload_n 1, 1) := by decide +kernel
theorem dX1_cutDetails_24 : decode cX1_cutDetails 24 = .ok (.i2l, 1) := by decide +kernel
theorem dX1_cutDetails_25 : decode cX1_cutDetails 25 = .ok (.invokevirtual 212, 3) := by decide +kernel
theorem dX1_cutDetails_28 : decode cX1_cutDetails 28 = .ok (.ifCond .eq 12, 3) := by decide +kernel
theorem dX1_cutDetails_31 : decode cX1_cutDetails 31 = .ok (.aload 4, 2) := by decide +kernel
theorem dX1_cutDetails_33 : decode cX1_cutDetails 33 = .ok (.lconst 0, 1) := by decide +kernel
theorem dX1_cutDetails_34 : decode cX1_cutDetails 34 = .ok (.invokevirtual 54, 3) := by decide +kernel
theorem dX1_cutDetails_37 : decode cX1_cutDetails 37 = .ok (.goto 32, 3) := by decide +kernel
theorem dX1_cutDetails_40 : decode cX1_cutDetails 40 = .ok (.iload_n 2, 1) := by decide +kernel
theorem dX1_cutDetails_41 : decode cX1_cutDetails 41 = .ok (.ifCond .eq 28, 3) := by decide +kernel
theorem dX1_cutDetails_44 : decode cX1_cutDetails 44 = .ok (.aload 4, 2) := by decide +kernel
theorem dX1_cutDetails_46 : decode cX1_cutDetails 46 = .ok (.aload_n 0, 1) := by decide +kernel
theorem dX1_cutDetails_47 : decode cX1_cutDetails 47 = .ok (.getfield 40, 3) := by decide +kernel
theorem dX1_cutDetails_50 : decode cX1_cutDetails 50 = .ok (.aload 4, 2) := by decide +kernel
theorem dX1_cutDetails_52 : decode cX1_cutDetails 52 = .ok (.invokevirtual 216, 3) := by decide +kernel
theorem dX1_cutDetails_55 : decode cX1_cutDetails 55 = .ok (.ifCond .eq 8, 3) := by decide +kernel
theorem dX1_cutDetails_58 : decode cX1_cutDetails 58 = .ok (.iload_n 1, 1) := by decide +kernel
theorem dX1_cutDetails_59 : decode cX1_cutDetails 59 = .ok (.i2l, 1) := by decide +kernel
theorem dX1_cutDetails_60 : decode cX1_cutDetails 60 = .ok (.goto 6, 3) := by decide +kernel
theorem dX1_cutDetails_63 : decode cX1_cutDetails 63 = .ok (.iload_n 1, 1) := by decide +kernel
theorem dX1_cutDetails_64 : decode cX1_cutDetails 64 = .ok (.ineg, 1) := by decide +kernel
theorem dX1_cutDetails_65 : decode cX1_cutDetails 65 = .ok (.i2l, 1) := by decide +kernel
theorem dX1_cutDetails_66 : decode cX1_cutDetails 66 = .ok (.invokevirtual 70, 3) := by decide +kernel
theorem dX1_cutDetails_69 : decode cX1_cutDetails 69 = .ok (.iinc 3 1, 3) := by decide +kernel
theorem dX1_cutDetails_72 : decode cX1_cutDetails 72 = .ok (.goto (-70), 3) := by decide +kernel
theorem dX1_cutDetails_75 : decode cX1_cutDetails 75 = .ok (.return_, 1) := by decide +kernel
theorem dX1_differenceCount_0 : decode cX1_differenceCount 0 = .ok (.iconst 0, 1) := by decide +kernel
theorem dX1_differenceCount_1 : decode cX1_differenceCount 1 = .ok (.istore_n 1, 1) := by decide +kernel
theorem dX1_differenceCount_2 : decode cX1_differenceCount 2 = .ok (.iconst 0, 1) := by decide +kernel
theorem dX1_differenceCount_3 : decode cX1_differenceCount 3 = .ok (.istore_n 2, 1) := by decide +kernel
theorem dX1_differenceCount_4 : decode cX1_differenceCount 4 = .ok (.iload_n 2, 1) := by decide +kernel
theorem dX1_differenceCount_5 : decode cX1_differenceCount 5 = .ok (.aload_n 0, 1) := by decide +kernel
theorem dX1_differenceCount_6 : decode cX1_differenceCount 6 = .ok (.getfield 49, 3) := by decide +kernel
theorem dX1_differenceCount_9 : decode cX1_differenceCount 9 = .ok (.getfield 58, 3) := by decide +kernel
theorem dX1_differenceCount_12 : decode cX1_differenceCount 12 = .ok (.if_icmp .ge 31, 3) := by decide +kernel
theorem dX1_differenceCount_15 : decode cX1_differenceCount 15 = .ok (.aload_n 0, 1) := by decide +kernel
theorem dX1_differenceCount_16 : decode cX1_differenceCount 16 = .ok (.aload_n 0, 1) := by decide +kernel
theorem dX1_differenceCount_17 : decode cX1_differenceCount 17 = .ok (.getfield 43, 3) := by decide +kernel
theorem dX1_differenceCount_20 : decode cX1_differenceCount 20 = .ok (.iload_n 2, 1) := by decide +kernel
theorem dX1_differenceCount_21 : decode cX1_differenceCount 21 = .ok (.invokevirtual 240, 3) := by decide +kernel
theorem dX1_differenceCount_24 : decode cX1_differenceCount 24 = .ok (.aload_n 0, 1) := by decide +kernel
theorem dX1_differenceCount_25 : decode cX1_differenceCount 25 = .ok (.getfield 43, 3) := by decide +kernel
theorem dX1_differenceCount_28 : decode cX1_differenceCount 28 = .ok (.invokevirtual 202, 3) := by decide +kernel
theorem dX1_differenceCount_31 : decode cX1_differenceCount 31 = .ok (.ifCond .ne 6, 3) := by decide +kernel
theorem dX1_differenceCount_34 : decode cX1_differenceCount 34 = .ok (.iinc 1 1, 3) := by decide +kernel
theorem dX1_differenceCount_37 : decode cX1_differenceCount 37 = .ok (.iinc 2 1, 3) := by decide +kernel
theorem dX1_differenceCount_40 : decode cX1_differenceCount 40 = .ok (.goto (-36), 3) := by decide +kernel
theorem dX1_differenceCount_43 : decode cX1_differenceCount 43 = .ok (.iload_n 1, 1) := by decide +kernel
theorem dX1_differenceCount_44 : decode cX1_differenceCount 44 = .ok (.ireturn, 1) := by decide +kernel
theorem dX1_differenceInto_0 : decode cX1_differenceInto 0 = .ok (.aload_n 1, 1) := by decide +kernel
theorem dX1_differenceInto_1 : decode cX1_differenceInto 1 = .ok (.aload_n 0, 1) := by decide +kernel
theorem dX1_differenceInto_2 : decode cX1_differenceInto 2 = .ok (.getfield 11, 3) := by decide +kernel
theorem dX1_differenceInto_5 : decode cX1_differenceInto 5 = .ok (.iload_n 2, 1) := by decide +kernel
theorem dX1_differenceInto_6 : decode cX1_differenceInto 6 = .ok (.aaload, 1) := by decide +kernel
theorem dX1_differenceInto_7 : decode cX1_differenceInto 7 = .ok (.invokevirtual 87, 3) := by decide +kernel
theorem dX1_differenceInto_10 : decode cX1_differenceInto 10 = .ok (.aload_n 1, 1) := by decide +kernel
theorem dX1_differenceInto_11 : decode cX1_differenceInto 11 = .ok (.aload_n 0, 1) := by decide +kernel
theorem dX1_differenceInto_12 : decode cX1_differenceInto 12 = .ok (.getfield 40, 3) := by decide +kernel
theorem dX1_differenceInto_15 : decode cX1_differenceInto 15 = .ok (.aload_n 0, 1) := by decide +kernel
theorem dX1_differenceInto_16 : decode cX1_differenceInto 16 = .ok (.getfield 49, 3) := by decide +kernel
theorem dX1_differenceInto_19 : decode cX1_differenceInto 19 = .ok (.getfield 63, 3) := by decide +kernel
theorem dX1_differenceInto_22 : decode cX1_differenceInto 22 = .ok (.iload_n 2, 1) := by decide +kernel
theorem dX1_differenceInto_23 : decode cX1_differenceInto 23 = .ok (.iaload, 1) := by decide +kernel
theorem dX1_differenceInto_24 : decode cX1_differenceInto 24 = .ok (.ineg, 1) := by decide +kernel
theorem dX1_differenceInto_25 : decode cX1_differenceInto 25 = .ok (.i2l, 1) := by decide +kernel
theorem dX1_differenceInto_26 : decode cX1_differenceInto 26 = .ok (.invokevirtual 70, 3) := by decide +kernel
theorem dX1_differenceInto_29 : decode cX1_differenceInto 29 = .ok (.aload_n 1, 1) := by decide +kernel
theorem dX1_differenceInto_30 : decode cX1_differenceInto 30 = .ok (.invokevirtual 233, 3) := by decide +kernel
theorem dX1_differenceInto_33 : decode cX1_differenceInto 33 = .ok (.return_, 1) := by decide +kernel
theorem dX1_differenceSum_0 : decode cX1_differenceSum 0 = .ok (.aload_n 0, 1) := by decide +kernel
theorem dX1_differenceSum_1 : decode cX1_differenceSum 1 = .ok (.getfield 46, 3) := by decide +kernel
theorem dX1_differenceSum_4 : decode cX1_differenceSum 4 = .ok (.lconst 0, 1) := by decide +kernel
theorem dX1_differenceSum_5 : decode cX1_differenceSum 5 = .ok (.invokevirtual 54, 3) := by decide +kernel
theorem dX1_differenceSum_8 : decode cX1_differenceSum 8 = .ok (.iconst 0, 1) := by decide +kernel
theorem dX1_differenceSum_9 : decode cX1_differenceSum 9 = .ok (.istore_n 1, 1) := by decide +kernel
theorem dX1_differenceSum_10 : decode cX1_differenceSum 10 = .ok (.iload_n 1, 1) := by decide +kernel
theorem dX1_differenceSum_11 : decode cX1_differenceSum 11 = .ok (.aload_n 0, 1) := by decide +kernel
theorem dX1_differenceSum_12 : decode cX1_differenceSum 12 = .ok (.getfield 49, 3) := by decide +kernel
theorem dX1_differenceSum_15 : decode cX1_differenceSum 15 = .ok (.getfield 58, 3) := by decide +kernel
theorem dX1_differenceSum_18 : decode cX1_differenceSum 18 = .ok (.if_icmp .ge 30, 3) := by decide +kernel
theorem dX1_differenceSum_21 : decode cX1_differenceSum 21 = .ok (.aload_n 0, 1) := by decide +kernel
theorem dX1_differenceSum_22 : decode cX1_differenceSum 22 = .ok (.aload_n 0, 1) := by decide +kernel
theorem dX1_differenceSum_23 : decode cX1_differenceSum 23 = .ok (.getfield 43, 3) := by decide +kernel
theorem dX1_differenceSum_26 : decode cX1_differenceSum 26 = .ok (.iload_n 1, 1) := by decide +kernel
theorem dX1_differenceSum_27 : decode cX1_differenceSum 27 = .ok (.invokevirtual 240, 3) := by decide +kernel
theorem dX1_differenceSum_30 : decode cX1_differenceSum 30 = .ok (.aload_n 0, 1) := by decide +kernel
theorem dX1_differenceSum_31 : decode cX1_differenceSum 31 = .ok (.getfield 46, 3) := by decide +kernel
theorem dX1_differenceSum_34 : decode cX1_differenceSum 34 = .ok (.aload_n 0, 1) := by decide +kernel
theorem dX1_differenceSum_35 : decode cX1_differenceSum 35 = .ok (.getfield 43, 3) := by decide +kernel
theorem dX1_differenceSum_38 : decode cX1_differenceSum 38 = .ok (.lconst 1, 1) := by decide +kernel
theorem dX1_differenceSum_39 : decode cX1_differenceSum 39 = .ok (.invokevirtual 70, 3) := by decide +kernel
theorem dX1_differenceSum_42 : decode cX1_differenceSum 42 = .ok (.iinc 1 1, 3) := by decide +kernel
theorem dX1_differenceSum_45 : decode cX1_differenceSum 45 = .ok (.goto (-35), 3) := by decide +kernel
theorem dX1_differenceSum_48 : decode cX1_differenceSum 48 = .ok (.aload_n 0, 1) := by decide +kernel
theorem dX1_differenceSum_49 : decode cX1_differenceSum 49 = .ok (.getfield 46, 3) := by decide +kernel
theorem dX1_differenceSum_52 : decode cX1_differenceSum 52 = .ok (.areturn, 1) := by decide +kernel
theorem dX1_dropFromRank_0 : decode cX1_dropFromRank 0 = .ok (.aload_n 0, 1) := by decide +kernel
theorem dX1_dropFromRank_1 : decode cX1_dropFromRank 1 = .ok (.getfield 46, 3) := by decide +kernel
theorem dX1_dropFromRank_4 : decode cX1_dropFromRank 4 = .ok (.astore_n 2, 1) := by decide +kernel
theorem dX1_dropFromRank_5 : decode cX1_dropFromRank 5 = .ok (.aload_n 2, 1) := by decide +kernel
theorem dX1_dropFromRank_6 : decode cX1_dropFromRank 6 = .ok (.lconst 0, 1) := by decide +kernel
theorem dX1_dropFromRank_7 : decode cX1_dropFromRank 7 = .ok (.invokevirtual 54, 3) := by decide +kernel
theorem dX1_dropFromRank_10 : decode cX1_dropFromRank 10 = .ok (.aload_n 0, 1) := by decide +kernel
theorem dX1_dropFromRank_11 : decode cX1_dropFromRank 11 = .ok (.iload_n 1, 1) := by decide +kernel
theorem dX1_dropFromRank_12 : decode cX1_dropFromRank 12 = .ok (.invokevirtual 230, 3) := by decide +kernel
theorem dX1_dropFromRank_15 : decode cX1_dropFromRank 15 = .ok (.istore_n 3, 1) := by decide +kernel
theorem dX1_dropFromRank_16 : decode cX1_dropFromRank 16 = .ok (.iload_n 3, 1) := by decide +kernel
theorem dX1_dropFromRank_17 : decode cX1_dropFromRank 17 = .ok (.iconst (-1), 1) := by decide +kernel
theorem dX1_dropFromRank_18 : decode cX1_dropFromRank 18 = .ok (.if_icmp .eq 20, 3) := by decide +kernel
theorem dX1_dropFromRank_21 : decode cX1_dropFromRank 21 = .ok (.aload_n 2, 1) := by decide +kernel
theorem dX1_dropFromRank_22 : decode cX1_dropFromRank 22 = .ok (.aload_n 0, 1) := by decide +kernel
theorem dX1_dropFromRank_23 : decode cX1_dropFromRank 23 = .ok (.getfield 27, 3) := by decide +kernel
theorem dX1_dropFromRank_26 : decode cX1_dropFromRank 26 = .ok (.iload_n 3, 1) := by decide +kernel
theorem dX1_dropFromRank_27 : decode cX1_dropFromRank 27 = .ok (.aaload, 1) := by decide +kernel
theorem dX1_dropFromRank_28 : decode cX1_dropFromRank 28 = .ok (.getfield 182, 3) := by decide +kernel
theorem dX1_dropFromRank_31 : decode cX1_dropFromRank 31 = .ok (.invokevirtual 87, 3) := by decide +kernel
theorem dX1_dropFromRank_34 : decode cX1_dropFromRank 34 = .ok (.aload_n 2, 1) := by decide +kernel
theorem dX1_dropFromRank_35 : decode cX1_dropFromRank 35 = .ok (.invokevirtual 233, 3) := by decide +kernel
theorem dX1_dropFromRank_38 : decode cX1_dropFromRank 38 = .ok (.iconst 0, 1) := by decide +kernel
theorem dX1_dropFromRank_39 : decode cX1_dropFromRank 39 = .ok (.istore 4, 2) := by decide +kernel
theorem dX1_dropFromRank_41 : decode cX1_dropFromRank 41 = .ok (.iload 4, 2) := by decide +kernel
theorem dX1_dropFromRank_43 : decode cX1_dropFromRank 43 = .ok (.aload_n 0, 1) := by decide +kernel
theorem dX1_dropFromRank_44 : decode cX1_dropFromRank 44 = .ok (.getfield 31, 3) := by decide +kernel
theorem dX1_dropFromRank_47 : decode cX1_dropFromRank 47 = .ok (.if_icmp .ge 60, 3) := by decide +kernel
theorem dX1_dropFromRank_50 : decode cX1_dropFromRank 50 = .ok (.iload_n 3, 1) := by decide +kernel
theorem dX1_dropFromRank_51 : decode cX1_dropFromRank 51 = .ok (.iconst (-1), 1) := by decide +kernel
theorem dX1_dropFromRank_52 : decode cX1_dropFromRank 52 = .ok (.if_icmp .eq 55, 3) := by decide +kernel
theorem dX1_dropFromRank_55 : decode cX1_dropFromRank 55 = .ok (.aload_n 0, 1) := by decide +kernel
theorem dX1_dropFromRank_56 : decode cX1_dropFromRank 56 = .ok (.getfield 27, 3) := by decide +kernel
theorem dX1_dropFromRank_59 : decode cX1_dropFromRank 59 = .ok (.iload 4, 2) := by decide +kernel
theorem dX1_dropFromRank_61 : decode cX1_dropFromRank 61 = .ok (.aaload, 1) := by decide +kernel
theorem dX1_dropFromRank_62 : decode cX1_dropFromRank 62 = .ok (.getfield 182, 3) := by decide +kernel
theorem dX1_dropFromRank_65 : decode cX1_dropFromRank 65 = .ok (.aload_n 2, 1) := by decide +kernel
theorem dX1_dropFromRank_66 : decode cX1_dropFromRank 66 = .ok (.invokevirtual 127, 3) := by decide +kernel
theorem dX1_dropFromRank_69 : decode cX1_dropFromRank 69 = .ok (.istore 5, 2) := by decide +kernel
theorem dX1_dropFromRank_71 : decode cX1_dropFromRank 71 = .ok (.iload 5, 2) := by decide +kernel
theorem dX1_dropFromRank_73 : decode cX1_dropFromRank 73 = .ok (.ifCond .lt 14, 3) := by decide +kernel
theorem dX1_dropFromRank_76 : decode cX1_dropFromRank 76 = .ok (.iload 5, 2) := by decide +kernel
theorem dX1_dropFromRank_78 : decode cX1_dropFromRank 78 = .ok (.ifCond .ne 23, 3) := by decide +kernel
theorem dX1_dropFromRank_81 : decode cX1_dropFromRank 81 = .ok (.iload 4, 2) := by decide +kernel
theorem dX1_dropFromRank_83 : decode cX1_dropFromRank 83 = .ok (.iload_n 3, 1) := by decide +kernel
theorem dX1_dropFromRank_84 : decode cX1_dropFromRank 84 = .ok (.if_icmp .lt 17, 3) := by decide +kernel
theorem dX1_dropFromRank_87 : decode cX1_dropFromRank 87 = .ok (.aload_n 0, 1) := by decide +kernel
theorem dX1_dropFromRank_88 : decode cX1_dropFromRank 88 = .ok (.getfield 27, 3) := by decide +kernel
theorem dX1_dropFromRank_91 : decode cX1_dropFromRank 91 = .ok (.iload 4, 2) := by decide +kernel
theorem dX1_dropFromRank_93 : decode cX1_dropFromRank 93 = .ok (.aaload, 1) := by decide +kernel
theorem dX1_dropFromRank_94 : decode cX1_dropFromRank 94 = .ok (.getfield 182, 3) := by decide +kernel
theorem dX1_dropFromRank_97 : decode cX1_dropFromRank 97 = .ok (.lconst 0, 1) := by decide +kernel
theorem dX1_dropFromRank_98 : decode cX1_dropFromRank 98 = .ok (.invokevirtual 54, 3) := by decide +kernel
theorem dX1_dropFromRank_101 : decode cX1_dropFromRank 101 = .ok (.iinc 4 1, 3) := by decide +kernel
theorem dX1_dropFromRank_104 : decode cX1_dropFromRank 104 = .ok (.goto (-63), 3) := by decide +kernel
theorem dX1_dropFromRank_107 : decode cX1_dropFromRank 107 = .ok (.aload_n 2, 1) := by decide +kernel
theorem dX1_dropFromRank_108 : decode cX1_dropFromRank 108 = .ok (.areturn, 1) := by decide +kernel
theorem dX1_energyOfDetails_0 : decode cX1_energyOfDetails 0 = .ok (.lconst 0, 1) := by decide +kernel
theorem dX1_energyOfDetails_1 : decode cX1_energyOfDetails 1 = .ok (.lstore_n 1, 1) := by decide +kernel
theorem dX1_energyOfDetails_2 : decode cX1_energyOfDetails 2 = .ok (.iconst 0, 1) := by decide +kernel
theorem dX1_energyOfDetails_3 : decode cX1_energyOfDetails 3 = .ok (.istore_n 3, 1) := by decide +kernel
theorem dX1_energyOfDetails_4 : decode cX1_energyOfDetails 4 = .ok (.iload_n 3, 1) := by decide +kernel
theorem dX1_energyOfDetails_5 : decode cX1_energyOfDetails 5 = .ok (.aload_n 0, 1) := by decide +kernel
theorem dX1_energyOfDetails_6 : decode cX1_energyOfDetails 6 = .ok (.getfield 31, 3) := by decide +kernel
theorem dX1_energyOfDetails_9 : decode cX1_energyOfDetails 9 = .ok (.if_icmp .ge 41, 3) := by decide +kernel
theorem dX1_energyOfDetails_12 : decode cX1_energyOfDetails 12 = .ok (.aload_n 0, 1) := by decide +kernel
theorem dX1_energyOfDetails_13 : decode cX1_energyOfDetails 13 = .ok (.getfield 27, 3) := by decide +kernel
theorem dX1_energyOfDetails_16 : decode cX1_energyOfDetails 16 = .ok (.iload_n 3, 1) := by decide +kernel
theorem dX1_energyOfDetails_17 : decode cX1_energyOfDetails 17 = .ok (.aaload, 1) := by decide +kernel
theorem dX1_energyOfDetails_18 : decode cX1_energyOfDetails 18 = .ok (.getfield 182, 3) := by decide +kernel
theorem dX1_energyOfDetails_21 : decode cX1_energyOfDetails 21 = .ok (.invokevirtual 196, 3) := by decide +kernel
theorem dX1_energyOfDetails_24 : decode cX1_energyOfDetails 24 = .ok (.lstore 4, 2) := by decide +kernel
theorem dX1_energyOfDetails_26 : decode cX1_energyOfDetails 26 = .ok (.lload_n 1, 1) := by decide +kernel
theorem dX1_energyOfDetails_27 : decode cX1_energyOfDetails 27 = .ok (.aload_n 0, 1) := by decide +kernel
theorem dX1_energyOfDetails_28 : decode cX1_energyOfDetails 28 = .ok (.getfield 27, 3) := by decide +kernel
theorem dX1_energyOfDetails_31 : decode cX1_energyOfDetails 31 = .ok (.iload_n 3, 1) := by decide +kernel
theorem dX1_energyOfDetails_32 : decode cX1_energyOfDetails 32 = .ok (.aaload, 1) := by decide +kernel
theorem dX1_energyOfDetails_33 : decode cX1_energyOfDetails 33 = .ok (.getfield 171, 3) := by decide +kernel
theorem dX1_energyOfDetails_36 : decode cX1_energyOfDetails 36 = .ok (.lload 4, 2) := by decide +kernel
theorem dX1_energyOfDetails_38 : decode cX1_energyOfDetails 38 = .ok (.lmul, 1) := by decide +kernel
theorem dX1_energyOfDetails_39 : decode cX1_energyOfDetails 39 = .ok (.lload 4, 2) := by decide +kernel
theorem dX1_energyOfDetails_41 : decode cX1_energyOfDetails 41 = .ok (.lmul, 1) := by decide +kernel
theorem dX1_energyOfDetails_42 : decode cX1_energyOfDetails 42 = .ok (.ladd, 1) := by decide +kernel
theorem dX1_energyOfDetails_43 : decode cX1_energyOfDetails 43 = .ok (.lstore_n 1, 1) := by decide +kernel
theorem dX1_energyOfDetails_44 : decode cX1_energyOfDetails 44 = .ok (.iinc 3 1, 3) := by decide +kernel
theorem dX1_energyOfDetails_47 : decode cX1_energyOfDetails 47 = .ok (.goto (-43), 3) := by decide +kernel
theorem dX1_energyOfDetails_50 : decode cX1_energyOfDetails 50 = .ok (.lload_n 1, 1) := by decide +kernel
theorem dX1_energyOfDetails_51 : decode cX1_energyOfDetails 51 = .ok (.lreturn, 1) := by decide +kernel
theorem dX1_greatestAmountBelow_0 : decode cX1_greatestAmountBelow 0 = .ok (.ldc2_w 136, 3) := by decide +kernel
theorem dX1_greatestAmountBelow_3 : decode cX1_greatestAmountBelow 3 = .ok (.lstore_n 3, 1) := by decide +kernel
theorem dX1_greatestAmountBelow_4 : decode cX1_greatestAmountBelow 4 = .ok (.iconst 0, 1) := by decide +kernel
theorem dX1_greatestAmountBelow_5 : decode cX1_greatestAmountBelow 5 = .ok (.istore 5, 2) := by decide +kernel
theorem dX1_greatestAmountBelow_7 : decode cX1_greatestAmountBelow 7 = .ok (.iload 5, 2) := by decide +kernel
theorem dX1_greatestAmountBelow_9 : decode cX1_greatestAmountBelow 9 = .ok (.aload_n 0, 1) := by decide +kernel
theorem dX1_greatestAmountBelow_10 : decode cX1_greatestAmountBelow 10 = .ok (.getfield 31, 3) := by decide +kernel
theorem dX1_greatestAmountBelow_13 : decode cX1_greatestAmountBelow 13 = .ok (.if_icmp .ge 47, 3) := by decide +kernel
theorem dX1_greatestAmountBelow_16 : decode cX1_greatestAmountBelow 16 = .ok (.aload_n 0, 1) := by decide +kernel
theorem dX1_greatestAmountBelow_17 : decode cX1_greatestAmountBelow 17 = .ok (.getfield 27, 3) := by decide +kernel
theorem dX1_greatestAmountBelow_20 : decode cX1_greatestAmountBelow 20 = .ok (.iload 5, 2) := by decide +kernel
theorem dX1_greatestAmountBelow_22 : decode cX1_greatestAmountBelow 22 = .ok (.aaload, 1) := by decide +kernel
theorem dX1_greatestAmountBelow_23 : decode cX1_greatestAmountBelow 23 = .ok (.getfield 182, 3) := by decide +kernel
theorem dX1_greatestAmountBelow_26 : decode cX1_greatestAmountBelow 26 = .ok (.lload_n 1, 1) := by decide +kernel
theorem dX1_greatestAmountBelow_27 : decode cX1_greatestAmountBelow 27 = .ok (.invokevirtual 212, 3) := by decide +kernel
theorem dX1_greatestAmountBelow_30 : decode cX1_greatestAmountBelow 30 = .ok (.ifCond .eq 24, 3) := by decide +kernel
theorem dX1_greatestAmountBelow_33 : decode cX1_greatestAmountBelow 33 = .ok (.lload_n 3, 1) := by decide +kernel
theorem dX1_greatestAmountBelow_34 : decode cX1_greatestAmountBelow 34 = .ok (.aload_n 0, 1) := by decide +kernel
theorem dX1_greatestAmountBelow_35 : decode cX1_greatestAmountBelow 35 = .ok (.getfield 27, 3) := by decide +kernel
theorem dX1_greatestAmountBelow_38 : decode cX1_greatestAmountBelow 38 = .ok (.iload 5, 2) := by decide +kernel
theorem dX1_greatestAmountBelow_40 : decode cX1_greatestAmountBelow 40 = .ok (.aaload, 1) := by decide +kernel
theorem dX1_greatestAmountBelow_41 : decode cX1_greatestAmountBelow 41 = .ok (.getfield 182, 3) := by decide +kernel
theorem dX1_greatestAmountBelow_44 : decode cX1_greatestAmountBelow 44 = .ok (.invokevirtual 196, 3) := by decide +kernel
theorem dX1_greatestAmountBelow_47 : decode cX1_greatestAmountBelow 47 = .ok (.invokestatic 225, 3) := by decide +kernel
theorem dX1_greatestAmountBelow_50 : decode cX1_greatestAmountBelow 50 = .ok (.invokestatic 236, 3) := by decide +kernel
theorem dX1_greatestAmountBelow_53 : decode cX1_greatestAmountBelow 53 = .ok (.lstore_n 3, 1) := by decide +kernel
theorem dX1_greatestAmountBelow_54 : decode cX1_greatestAmountBelow 54 = .ok (.iinc 5 1, 3) := by decide +kernel
theorem dX1_greatestAmountBelow_57 : decode cX1_greatestAmountBelow 57 = .ok (.goto (-50), 3) := by decide +kernel
theorem dX1_greatestAmountBelow_60 : decode cX1_greatestAmountBelow 60 = .ok (.lload_n 3, 1) := by decide +kernel
theorem dX1_greatestAmountBelow_61 : decode cX1_greatestAmountBelow 61 = .ok (.lreturn, 1) := by decide +kernel
theorem dX1_greatestDifference_0 : decode cX1_greatestDifference 0 = .ok (.aload_n 0, 1) := by decide +kernel
theorem dX1_greatestDifference_1 : decode cX1_greatestDifference 1 = .ok (.getfield 46, 3) := by decide +kernel
theorem dX1_greatestDifference_4 : decode cX1_greatestDifference 4 = .ok (.lconst 0, 1) := by decide +kernel
theorem dX1_greatestDifference_5 : decode cX1_greatestDifference 5 = .ok (.invokevirtual 54, 3) := by decide +kernel
theorem dX1_greatestDifference_8 : decode cX1_greatestDifference 8 = .ok (.iconst 0, 1) := by decide +kernel
theorem dX1_greatestDifference_9 : decode cX1_greatestDifference 9 = .ok (.istore_n 1, 1) := by decide +kernel
theorem dX1_greatestDifference_10 : decode cX1_greatestDifference 10 = .ok (.iload_n 1, 1) := by decide +kernel
theorem dX1_greatestDifference_11 : decode cX1_greatestDifference 11 = .ok (.aload_n 0, 1) := by decide +kernel
theorem dX1_greatestDifference_12 : decode cX1_greatestDifference 12 = .ok (.getfield 49, 3) := by decide +kernel
theorem dX1_greatestDifference_15 : decode cX1_greatestDifference 15 = .ok (.getfield 58, 3) := by decide +kernel
theorem dX1_greatestDifference_18 : decode cX1_greatestDifference 18 = .ok (.if_icmp .ge 43, 3) := by decide +kernel
theorem dX1_greatestDifference_21 : decode cX1_greatestDifference 21 = .ok (.aload_n 0, 1) := by decide +kernel
theorem dX1_greatestDifference_22 : decode cX1_greatestDifference 22 = .ok (.aload_n 0, 1) := by decide +kernel
theorem dX1_greatestDifference_23 : decode cX1_greatestDifference 23 = .ok (.getfield 43, 3) := by decide +kernel
theorem dX1_greatestDifference_26 : decode cX1_greatestDifference 26 = .ok (.iload_n 1, 1) := by decide +kernel
theorem dX1_greatestDifference_27 : decode cX1_greatestDifference 27 = .ok (.invokevirtual 240, 3) := by decide +kernel
theorem dX1_greatestDifference_30 : decode cX1_greatestDifference 30 = .ok (.aload_n 0, 1) := by decide +kernel
theorem dX1_greatestDifference_31 : decode cX1_greatestDifference 31 = .ok (.getfield 43, 3) := by decide +kernel
theorem dX1_greatestDifference_34 : decode cX1_greatestDifference 34 = .ok (.aload_n 0, 1) := by decide +kernel
theorem dX1_greatestDifference_35 : decode cX1_greatestDifference 35 = .ok (.getfield 46, 3) := by decide +kernel
theorem dX1_greatestDifference_38 : decode cX1_greatestDifference 38 = .ok (.invokevirtual 127, 3) := by decide +kernel
theorem dX1_greatestDifference_41 : decode cX1_greatestDifference 41 = .ok (.ifCond .le 14, 3) := by decide +kernel
theorem dX1_greatestDifference_44 : decode cX1_greatestDifference 44 = .ok (.aload_n 0, 1) := by decide +kernel
theorem dX1_greatestDifference_45 : decode cX1_greatestDifference 45 = .ok (.getfield 46, 3) := by decide +kernel
theorem dX1_greatestDifference_48 : decode cX1_greatestDifference 48 = .ok (.aload_n 0, 1) := by decide +kernel
theorem dX1_greatestDifference_49 : decode cX1_greatestDifference 49 = .ok (.getfield 43, 3) := by decide +kernel
theorem dX1_greatestDifference_52 : decode cX1_greatestDifference 52 = .ok (.invokevirtual 87, 3) := by decide +kernel
theorem dX1_greatestDifference_55 : decode cX1_greatestDifference 55 = .ok (.iinc 1 1, 3) := by decide +kernel
theorem dX1_greatestDifference_58 : decode cX1_greatestDifference 58 = .ok (.goto (-48), 3) := by decide +kernel
theorem dX1_greatestDifference_61 : decode cX1_greatestDifference 61 = .ok (.aload_n 0, 1) := by decide +kernel
theorem dX1_greatestDifference_62 : decode cX1_greatestDifference 62 = .ok (.getfield 46, 3) := by decide +kernel
theorem dX1_greatestDifference_65 : decode cX1_greatestDifference 65 = .ok (.areturn, 1) := by decide +kernel
theorem dX1_quantizeDetails_0 : decode cX1_quantizeDetails 0 = .ok (.lconst 0, 1) := by decide +kernel
theorem dX1_quantizeDetails_1 : decode cX1_quantizeDetails 1 = .ok (.lstore_n 2, 1) := by decide +kernel
theorem dX1_quantizeDetails_2 : decode cX1_quantizeDetails 2 = .ok (.iconst 0, 1) := by decide +kernel
theorem dX1_quantizeDetails_3 : decode cX1_quantizeDetails 3 = .ok (.istore 4, 2) := by decide +kernel
theorem dX1_quantizeDetails_5 : decode cX1_quantizeDetails 5 = .ok (.iload 4, 2) := by decide +kernel
theorem dX1_quantizeDetails_7 : decode cX1_quantizeDetails 7 = .ok (.aload_n 0, 1) := by decide +kernel
theorem dX1_quantizeDetails_8 : decode cX1_quantizeDetails 8 = .ok (.getfield 31, 3) := by decide +kernel
theorem dX1_quantizeDetails_11 : decode cX1_quantizeDetails 11 = .ok (.if_icmp .ge 88, 3) := by decide +kernel
theorem dX1_quantizeDetails_14 : decode cX1_quantizeDetails 14 = .ok (.aload_n 0, 1) := by decide +kernel
theorem dX1_quantizeDetails_15 : decode cX1_quantizeDetails 15 = .ok (.getfield 27, 3) := by decide +kernel
theorem dX1_quantizeDetails_18 : decode cX1_quantizeDetails 18 = .ok (.iload 4, 2) := by decide +kernel
theorem dX1_quantizeDetails_20 : decode cX1_quantizeDetails 20 = .ok (.aaload, 1) := by decide +kernel
theorem dX1_quantizeDetails_21 : decode cX1_quantizeDetails 21 = .ok (.getfield 182, 3) := by decide +kernel
theorem dX1_quantizeDetails_24 : decode cX1_quantizeDetails 24 = .ok (.astore 5, 2) := by decide +kernel
theorem dX1_quantizeDetails_26 : decode cX1_quantizeDetails 26 = .ok (.aload 5, 2) := by decide +kernel
theorem dX1_quantizeDetails_28 : decode cX1_quantizeDetails 28 = .ok (.iload_n 1, 1) := by decide +kernel
theorem dX1_quantizeDetails_29 : decode cX1_quantizeDetails 29 = .ok (.i2l, 1) := by decide +kernel
theorem dX1_quantizeDetails_30 : decode cX1_quantizeDetails 30 = .ok (.invokevirtual 219, 3) := by decide +kernel
theorem dX1_quantizeDetails_33 : decode cX1_quantizeDetails 33 = .ok (.lstore 6, 2) := by decide +kernel
theorem dX1_quantizeDetails_35 : decode cX1_quantizeDetails 35 = .ok (.ldc2_w 223, 3) := by decide +kernel
theorem dX1_quantizeDetails_38 : decode cX1_quantizeDetails 38 = .ok (.lload 6, 2) := by decide +kernel
theorem dX1_quantizeDetails_40 : decode cX1_quantizeDetails 40 = .ok (.lmul, 1) := by decide +kernel
theorem dX1_quantizeDetails_41 : decode cX1_quantizeDetails 41 = .ok (.iload_n 1, 1) := by decide +kernel
theorem dX1_quantizeDetails_42 : decode cX1_quantizeDetails 42 = .ok (.i2l, 1) := by decide +kernel
theorem dX1_quantizeDetails_43 : decode cX1_quantizeDetails 43 = .ok (.lcmp, 1) := by decide +kernel
theorem dX1_quantizeDetails_44 : decode cX1_quantizeDetails 44 = .ok (.ifCond .le 11, 3) := by decide +kernel
theorem dX1_quantizeDetails_47 : decode cX1_quantizeDetails 47 = .ok (.iload_n 1, 1) := by decide +kernel
theorem dX1_quantizeDetails_48 : decode cX1_quantizeDetails 48 = .ok (.i2l, 1) := by decide +kernel
theorem dX1_quantizeDetails_49 : decode cX1_quantizeDetails 49 = .ok (.lload 6, 2) := by decide +kernel
theorem dX1_quantizeDetails_51 : decode cX1_quantizeDetails 51 = .ok (.lsub, 1) := by decide +kernel
theorem dX1_quantizeDetails_52 : decode cX1_quantizeDetails 52 = .ok (.goto 6, 3) := by decide +kernel
theorem dX1_quantizeDetails_55 : decode cX1_quantizeDetails 55 = .ok (.lload 6, 2) := by decide +kernel
theorem dX1_quantizeDetails_57 : decode cX1_quantizeDetails 57 = .ok (.lneg, 1) := by decide +kernel
theorem dX1_quantizeDetails_58 : decode cX1_quantizeDetails 58 = .ok (.lstore 8, 2) := by decide +kernel
theorem dX1_quantizeDetails_60 : decode cX1_quantizeDetails 60 = .ok (.aload 5, 2) := by decide +kernel
theorem dX1_quantizeDetails_62 : decode cX1_quantizeDetails 62 = .ok (.aload_n 0, 1) := by decide +kernel
theorem dX1_quantizeDetails_63 : decode cX1_quantizeDetails 63 = .ok (.getfield 40, 3) := by decide +kernel
theorem dX1_quantizeDetails_66 : decode cX1_quantizeDetails 66 = .ok (.aload 5, 2) := by decide +kernel
theorem dX1_quantizeDetails_68 : decode cX1_quantizeDetails 68 = .ok (.invokevirtual 216, 3) := by decide +kernel
theorem dX1_quantizeDetails_71 : decode cX1_quantizeDetails 71 = .ok (.ifCond .eq 9, 3) := by decide +kernel
theorem dX1_quantizeDetails_74 : decode cX1_quantizeDetails 74 = .ok (.lload 8, 2) := by decide +kernel
theorem dX1_quantizeDetails_76 : decode cX1_quantizeDetails 76 = .ok (.lneg, 1) := by decide +kernel
theorem dX1_quantizeDetails_77 : decode cX1_quantizeDetails 77 = .ok (.goto 5, 3) := by decide +kernel
theorem dX1_quantizeDetails_80 : decode cX1_quantizeDetails 80 = .ok (.lload 8, 2) := by decide +kernel
theorem dX1_quantizeDetails_82 : decode cX1_quantizeDetails 82 = .ok (.invokevirtual 70, 3) := by decide +kernel
theorem dX1_quantizeDetails_85 : decode cX1_quantizeDetails 85 = .ok (.lload_n 2, 1) := by decide +kernel
theorem dX1_quantizeDetails_86 : decode cX1_quantizeDetails 86 = .ok (.lload 8, 2) := by decide +kernel
theorem dX1_quantizeDetails_88 : decode cX1_quantizeDetails 88 = .ok (.invokestatic 225, 3) := by decide +kernel
theorem dX1_quantizeDetails_91 : decode cX1_quantizeDetails 91 = .ok (.ladd, 1) := by decide +kernel
theorem dX1_quantizeDetails_92 : decode cX1_quantizeDetails 92 = .ok (.lstore_n 2, 1) := by decide +kernel
theorem dX1_quantizeDetails_93 : decode cX1_quantizeDetails 93 = .ok (.iinc 4 1, 3) := by decide +kernel
theorem dX1_quantizeDetails_96 : decode cX1_quantizeDetails 96 = .ok (.goto (-91), 3) := by decide +kernel
theorem dX1_quantizeDetails_99 : decode cX1_quantizeDetails 99 = .ok (.lload_n 2, 1) := by decide +kernel
theorem dX1_quantizeDetails_100 : decode cX1_quantizeDetails 100 = .ok (.lreturn, 1) := by decide +kernel
theorem dX1_rankOf_0 : decode cX1_rankOf 0 = .ok (.iconst 0, 1) := by decide +kernel
theorem dX1_rankOf_1 : decode cX1_rankOf 1 = .ok (.istore_n 2, 1) := by decide +kernel
theorem dX1_rankOf_2 : decode cX1_rankOf 2 = .ok (.iconst 0, 1) := by decide +kernel
theorem dX1_rankOf_3 : decode cX1_rankOf 3 = .ok (.istore_n 3, 1) := by decide +kernel
theorem dX1_rankOf_4 : decode cX1_rankOf 4 = .ok (.iload_n 3, 1) := by decide +kernel
theorem dX1_rankOf_5 : decode cX1_rankOf 5 = .ok (.aload_n 0, 1) := by decide +kernel
theorem dX1_rankOf_6 : decode cX1_rankOf 6 = .ok (.getfield 31, 3) := by decide +kernel
theorem dX1_rankOf_9 : decode cX1_rankOf 9 = .ok (.if_icmp .ge 50, 3) := by decide +kernel
theorem dX1_rankOf_12 : decode cX1_rankOf 12 = .ok (.aload_n 0, 1) := by decide +kernel
theorem dX1_rankOf_13 : decode cX1_rankOf 13 = .ok (.getfield 27, 3) := by decide +kernel
theorem dX1_rankOf_16 : decode cX1_rankOf 16 = .ok (.iload_n 3, 1) := by decide +kernel
theorem dX1_rankOf_17 : decode cX1_rankOf 17 = .ok (.aaload, 1) := by decide +kernel
theorem dX1_rankOf_18 : decode cX1_rankOf 18 = .ok (.getfield 182, 3) := by decide +kernel
theorem dX1_rankOf_21 : decode cX1_rankOf 21 = .ok (.aload_n 0, 1) := by decide +kernel
theorem dX1_rankOf_22 : decode cX1_rankOf 22 = .ok (.getfield 27, 3) := by decide +kernel
theorem dX1_rankOf_25 : decode cX1_rankOf 25 = .ok (.iload_n 1, 1) := by decide +kernel
theorem dX1_rankOf_26 : decode cX1_rankOf 26 = .ok (.aaload, 1) := by decide +kernel
theorem dX1_rankOf_27 : decode cX1_rankOf 27 = .ok (.getfield 182, 3) := by decide +kernel
theorem dX1_rankOf_30 : decode cX1_rankOf 30 = .ok (.invokevirtual 127, 3) := by decide +kernel
theorem dX1_rankOf_33 : decode cX1_rankOf 33 = .ok (.istore 4, 2) := by decide +kernel
theorem dX1_rankOf_35 : decode cX1_rankOf 35 = .ok (.iload 4, 2) := by decide +kernel
theorem dX1_rankOf_37 : decode cX1_rankOf 37 = .ok (.ifCond .gt 13, 3) := by decide +kernel
theorem dX1_rankOf_40 : decode cX1_rankOf 40 = .ok (.iload 4, 2) := by decide +kernel
theorem dX1_rankOf_42 : decode cX1_rankOf 42 = .ok (.ifCond .ne 11, 3) := by decide +kernel
theorem dX1_rankOf_45 : decode cX1_rankOf 45 = .ok (.iload_n 3, 1) := by decide +kernel
theorem dX1_rankOf_46 : decode cX1_rankOf 46 = .ok (.iload_n 1, 1) := by decide +kernel
theorem dX1_rankOf_47 : decode cX1_rankOf 47 = .ok (.if_icmp .ge 6, 3) := by decide +kernel
theorem dX1_rankOf_50 : decode cX1_rankOf 50 = .ok (.iinc 2 1, 3) := by decide +kernel
theorem dX1_rankOf_53 : decode cX1_rankOf 53 = .ok (.iinc 3 1, 3) := by decide +kernel
theorem dX1_rankOf_56 : decode cX1_rankOf 56 = .ok (.goto (-52), 3) := by decide +kernel
theorem dX1_rankOf_59 : decode cX1_rankOf 59 = .ok (.iload_n 2, 1) := by decide +kernel
theorem dX1_rankOf_60 : decode cX1_rankOf 60 = .ok (.ireturn, 1) := by decide +kernel
theorem dX1_stepOfRank_0 : decode cX1_stepOfRank 0 = .ok (.iconst 0, 1) := by decide +kernel
theorem dX1_stepOfRank_1 : decode cX1_stepOfRank 1 = .ok (.istore_n 2, 1) := by decide +kernel
theorem dX1_stepOfRank_2 : decode cX1_stepOfRank 2 = .ok (.iload_n 2, 1) := by decide +kernel
theorem dX1_stepOfRank_3 : decode cX1_stepOfRank 3 = .ok (.aload_n 0, 1) := by decide +kernel
theorem dX1_stepOfRank_4 : decode cX1_stepOfRank 4 = .ok (.getfield 31, 3) := by decide +kernel
theorem dX1_stepOfRank_7 : decode cX1_stepOfRank 7 = .ok (.if_icmp .ge 20, 3) := by decide +kernel
theorem dX1_stepOfRank_10 : decode cX1_stepOfRank 10 = .ok (.aload_n 0, 1) := by decide +kernel
theorem dX1_stepOfRank_11 : decode cX1_stepOfRank 11 = .ok (.iload_n 2, 1) := by decide +kernel
theorem dX1_stepOfRank_12 : decode cX1_stepOfRank 12 = .ok (.invokevirtual 209, 3) := by decide +kernel
theorem dX1_stepOfRank_15 : decode cX1_stepOfRank 15 = .ok (.iload_n 1, 1) := by decide +kernel
theorem dX1_stepOfRank_16 : decode cX1_stepOfRank 16 = .ok (.if_icmp .ne 5, 3) := by decide +kernel
theorem dX1_stepOfRank_19 : decode cX1_stepOfRank 19 = .ok (.iload_n 2, 1) := by decide +kernel
theorem dX1_stepOfRank_20 : decode cX1_stepOfRank 20 = .ok (.ireturn, 1) := by decide +kernel
theorem dX1_stepOfRank_21 : decode cX1_stepOfRank 21 = .ok (.iinc 2 1, 3) := by decide +kernel
theorem dX1_stepOfRank_24 : decode cX1_stepOfRank 24 = .ok (.goto (-22), 3) := by decide +kernel
theorem dX1_stepOfRank_27 : decode cX1_stepOfRank 27 = .ok (.iconst (-1), 1) := by decide +kernel
theorem dX1_stepOfRank_28 : decode cX1_stepOfRank 28 = .ok (.ireturn, 1) := by decide +kernel
theorem dX1_zeroDetails_0 : decode cX1_zeroDetails 0 = .ok (.iconst 0, 1) := by decide +kernel
theorem dX1_zeroDetails_1 : decode cX1_zeroDetails 1 = .ok (.istore_n 1, 1) := by decide +kernel
theorem dX1_zeroDetails_2 : decode cX1_zeroDetails 2 = .ok (.iconst 0, 1) := by decide +kernel
theorem dX1_zeroDetails_3 : decode cX1_zeroDetails 3 = .ok (.istore_n 2, 1) := by decide +kernel
theorem dX1_zeroDetails_4 : decode cX1_zeroDetails 4 = .ok (.iload_n 2, 1) := by decide +kernel
theorem dX1_zeroDetails_5 : decode cX1_zeroDetails 5 = .ok (.aload_n 0, 1) := by decide +kernel
theorem dX1_zeroDetails_6 : decode cX1_zeroDetails 6 = .ok (.getfield 31, 3) := by decide +kernel
theorem dX1_zeroDetails_9 : decode cX1_zeroDetails 9 = .ok (.if_icmp .ge 27, 3) := by decide +kernel
theorem dX1_zeroDetails_12 : decode cX1_zeroDetails 12 = .ok (.aload_n 0, 1) := by decide +kernel
theorem dX1_zeroDetails_13 : decode cX1_zeroDetails 13 = .ok (.getfield 27, 3) := by decide +kernel
theorem dX1_zeroDetails_16 : decode cX1_zeroDetails 16 = .ok (.iload_n 2, 1) := by decide +kernel
theorem dX1_zeroDetails_17 : decode cX1_zeroDetails 17 = .ok (.aaload, 1) := by decide +kernel
theorem dX1_zeroDetails_18 : decode cX1_zeroDetails 18 = .ok (.getfield 182, 3) := by decide +kernel
theorem dX1_zeroDetails_21 : decode cX1_zeroDetails 21 = .ok (.invokevirtual 202, 3) := by decide +kernel
theorem dX1_zeroDetails_24 : decode cX1_zeroDetails 24 = .ok (.ifCond .eq 6, 3) := by decide +kernel
theorem dX1_zeroDetails_27 : decode cX1_zeroDetails 27 = .ok (.iinc 1 1, 3) := by decide +kernel
theorem dX1_zeroDetails_30 : decode cX1_zeroDetails 30 = .ok (.iinc 2 1, 3) := by decide +kernel
theorem dX1_zeroDetails_33 : decode cX1_zeroDetails 33 = .ok (.goto (-29), 3) := by decide +kernel
theorem dX1_zeroDetails_36 : decode cX1_zeroDetails 36 = .ok (.iload_n 1, 1) := by decide +kernel
theorem dX1_zeroDetails_37 : decode cX1_zeroDetails 37 = .ok (.ireturn, 1) := by decide +kernel
set_option maxHeartbeats 4000000 in
set_option maxRecDepth 100000 in
theorem X1_zeroDetails (l : Launch) (κ : Kt) (σ0 : Gh) (this : Nat) (t_this : zk σ0 this 3) : TC l yX1_zeroDetails cX1_zeroDetails 3 (some .int) 1 20 [.ref this] κ σ0 (tqi κ fE σ0 (fun (r : Int32) (τ : Gh) => True)) := by
  refine TC.of fE (by decide +kernel) (Nat.le_of_ble_eq_true rfl) ?_
  intro p e s m below meth c ls hcs hK hX hT hl
  obtain ⟨hx, hb, hr, hml, hown, hg, hlocks, hin⟩ := hcs
  have hown : s.vm.findClass RX1 = some m.cls := hown
  have hl : lv_has ls 3 [(0, .ref this)] := hl
  have hT0 := hT
  have n0 : (0 : Int32).toInt = 0 := by decide
  generalize hQ9 : tQ _ _ _ _ _ _ = Q9
  refine lv_iconst (v := 0) hx hb dX1_zeroDetails_0 (by decide) ?_
  refine lv_istore_n (lv' := [(1, .int 0), (0, .ref this)]) hx hb dX1_zeroDetails_1 rfl hl (by decide) rfl (fun ls hl => ?_)
  refine lv_iconst (v := 0) hx hb dX1_zeroDetails_2 (by decide) ?_
  refine lv_istore_n (lv' := [(2, .int 0), (1, .int 0), (0, .ref this)]) hx hb dX1_zeroDetails_3 rfl hl (by decide) rfl (fun ls hl => ?_)
  have loop4 : ∀ (n9 : Nat) (i : Int32) (z : Int32) (H : Heap) (locs : List Loc) (sg : Gh) (ls : Array Slot), TS κ fE σ0 sg s H locs → (0 ≤ i.toInt) → (i.toInt ≤ 46) → (0 ≤ z.toInt) → (z.toInt ≤ i.toInt) → lv_has ls 3 [(2, .int i), (1, .int z), (0, .ref this)] → (46 - i.toInt) < n9 → tW p l e 1 20 κ s m #[.ref this] below meth c H locs Q9 (F0 m 4 ls []) := by
    intro n9
    induction n9 with
    | zero =>
      intro i z H locs sg ls hT q1 q2 q3 q4 hl hm9
      exfalso
      omega
    | succ n9 ih9 =>
      have ih4 := ih9
      clear ih9
      intro i z H locs s1 ls hT q1 q2 q3 q4 hl hm9
      refine lv_iload_n hx hb dX1_zeroDetails_4 rfl (lv_at hl 0 rfl) ?_
      refine lv_aload_n hx hb dX1_zeroDetails_5 rfl (lv_at hl 2 rfl) ?_
      obtain ⟨v2, ev2⟩ : ∃ zz9 : Int32, zI σ0 this 5 = zz9 := ⟨_, rfl⟩
      have qv2 : v2.toInt = (zI σ0 this 5).toInt := by rw [ev2]
      have b3 := (hT.P (hT.k t_this (by decide)) (by decide)).1
      rw [(hT.eI t_this (by decide) rfl ev2)] at b3
      have b3l := b3.1
      have b3h := b3.2
      refine va_get (D := κ.1) (ci := 1) (v := .int (zI s1 this 5)) (C := RX1) (T := TX1) (N := 13) hx hb hg inX1 hown hK (hT.o3 (hT.k t_this (by decide))).one 0 rfl rfl 5 (by decide) (hg _ k287) (fun _ h9 => h9) rfl dX1_zeroDetails_6 ?_
      rw [(hT.eI t_this (by decide) rfl ev2)]
      refine lv_icmp_ge (tgt := 36) hx hb dX1_zeroDetails_9 (by decide) (fun c9 => ?_) (fun c9 => ?_)
      · have c1 := gi_le c9
        refine lv_iload_n hx hb dX1_zeroDetails_36 rfl (lv_at hl 1 rfl) ?_
        subst hQ9
        exact t_i hx hb hr hlocks hT trivial dX1_zeroDetails_37
      · have c2 := gi_nle c9
        refine lv_aload_n hx hb dX1_zeroDetails_12 rfl (lv_at hl 2 rfl) ?_
        obtain ⟨r4, er4⟩ : ∃ z, kR κ this 4 = z := ⟨_, rfl⟩
        have tr4 : zk σ0 r4 11 := by rw [← er4]; exact hT0.ref t_this (by decide) (by decide) (by decide)
        refine va_get (D := κ.1) (ci := 1) (v := .ref (kR κ this 4)) (C := RX1) (T := TX1) (N := 13) hx hb hg inX1 hown hK (hT.o3 (hT.k t_this (by decide))).one 0 rfl rfl 4 (by decide) (hg _ k285) (fun _ h9 => h9) rfl dX1_zeroDetails_13 ?_
        rw [er4]
        refine lv_iload_n hx hb dX1_zeroDetails_16 rfl (lv_at hl 0 rfl) ?_
        refine va_aldq hx hb hK (hT.o11 (hT.k tr4 (by decide))).one 0 5 rfl rfl (g_in (by omega) (by omega)) dX1_zeroDetails_17 ?_
        obtain ⟨r6, er6⟩ : ∃ z, kR κ r4 (ix i) = z := ⟨_, rfl⟩
        have tr6 : zk σ0 r6 2 := by rw [← er6]; exact hT0.ref tr4 (by decide) (zR11 (ix_lt (by omega) (by omega))) (by decide)
        refine tv (.ref r6) (by rw [← er6]; rfl) ?_
        obtain ⟨r7, er7⟩ : ∃ z, kR κ r6 9 = z := ⟨_, rfl⟩
        have tr7 : zk σ0 r7 1 := by rw [← er7]; exact hT0.ref tr6 (by decide) (by decide) (by decide)
        refine va_get (D := κ.1) (ci := 2) (v := .ref (kR κ r6 9)) (C := RX2) (T := TX2) (N := 10) hx hb hg inX2 hown hK (hT.o2 (hT.k tr6 (by decide))).one 0 rfl rfl 9 (by decide) (hg _ k252) (fun _ h9 => h9) rfl dX1_zeroDetails_18 ?_
        rw [er7]
        obtain ⟨h10, oh10, th10⟩ := hT.o1 (hT.k tr7 (by decide))
        have hTo := hT
        refine tVi (n := 0) (As := []) (rest := []) hx hb hml hown hg hT hK hX (X4_isZero l κ s1 r7  (hT.k tr7 (by decide)) ) (fun _ _ h => h) (mwV k845 k846 k847 k88 k848) ⟨rfl, by decide, by decide, by decide +kernel⟩ ⟨(Nat.le_of_ble_eq_true rfl), (Nat.le_of_ble_eq_true rfl)⟩ oh10 rfl rfl hl.1 rfl (Nat.le_of_ble_eq_true rfl) dX1_zeroDetails_21 zroom.rf (fun x8 s9 H locs hφ hEs9 hT => ?_)
        have f11 := hφ
        refine lv_if_eq (tgt := 30) hx hb dX1_zeroDetails_24 (by decide) (fun c9 => ?_) (fun c9 => ?_)
        · have c3 := gi_eq c9
          obtain ⟨t12, qt12⟩ : ∃ zz9 : Int32, i + Int32.ofInt 1 = zz9 := ⟨_, rfl⟩
          refine lv_iinc (v := t12) (lv' := [(2, .int t12), (1, .int z), (0, .ref this)]) hx hb dX1_zeroDetails_30 hl (k := 0) rfl qt12 (by decide) rfl (fun ls hl => ?_)
          have ht12 : t12.toInt = i.toInt + 1 := by rw [← qt12]; exact v_addi rfl (show (Int32.ofInt 1).toInt = 1 from by decide) (by omega) (by omega)
          refine lv_goto (tgt := 4) hx hb dX1_zeroDetails_33 (by decide) ?_
          exact ih4 t12 z _ _ _ _ hT  (by omega) (by omega) (by omega) (by omega) hl (by omega)
        · have c4 := gi_ne c9
          obtain ⟨t13, qt13⟩ : ∃ zz9 : Int32, z + Int32.ofInt 1 = zz9 := ⟨_, rfl⟩
          refine lv_iinc (v := t13) (lv' := [(1, .int t13), (2, .int i), (0, .ref this)]) hx hb dX1_zeroDetails_27 hl (k := 1) rfl qt13 (by decide) rfl (fun ls hl => ?_)
          have ht13 : t13.toInt = z.toInt + 1 := by rw [← qt13]; exact v_addi rfl (show (Int32.ofInt 1).toInt = 1 from by decide) (by omega) (by omega)
          obtain ⟨t14, qt14⟩ : ∃ zz9 : Int32, i + Int32.ofInt 1 = zz9 := ⟨_, rfl⟩
          refine lv_iinc (v := t14) (lv' := [(2, .int t14), (1, .int t13), (0, .ref this)]) hx hb dX1_zeroDetails_30 hl (k := 1) rfl qt14 (by decide) rfl (fun ls hl => ?_)
          have ht14 : t14.toInt = i.toInt + 1 := by rw [← qt14]; exact v_addi rfl (show (Int32.ofInt 1).toInt = 1 from by decide) (by omega) (by omega)
          refine lv_goto (tgt := 4) hx hb dX1_zeroDetails_33 (by decide) ?_
          exact ih4 t14 t13 _ _ _ _ hT  (by omega) (by omega) (by omega) (by omega) hl (by omega)
  exact loop4 ((46 - (0 : Int32).toInt).toNat + 1) 0 0 _ _ _ _ hT  (by omega) (by omega) (by omega) (by omega) hl (by omega)
set_option maxHeartbeats 4000000 in
set_option maxRecDepth 100000 in
theorem X1_energyOfDetails (l : Launch) (κ : Kt) (σ0 : Gh) (this : Nat) (t_this : zk σ0 this 3) : TC l yX1_energyOfDetails cX1_energyOfDetails 6 (some .long) 3 66 [.ref this] κ σ0 (tql κ fE σ0 (fun (r : Int64) (τ : Gh) => True)) := by
  refine TC.of fE (by decide +kernel) (Nat.le_of_ble_eq_true rfl) ?_
  intro p e s m below meth c ls hcs hK hX hT hl
  obtain ⟨hx, hb, hr, hml, hown, hg, hlocks, hin⟩ := hcs
  have hown : s.vm.findClass RX1 = some m.cls := hown
  have hl : lv_has ls 6 [(0, .ref this)] := hl
  have hT0 := hT
  have n0 : (0 : Int32).toInt = 0 := by decide
  have j0 : (0 : Int64).toInt = 0 := by decide
  generalize hQ9 : tQ _ _ _ _ _ _ = Q9
  refine lv_lconst (v := 0) hx hb dX1_energyOfDetails_0 (by decide) ?_
  refine lv_lstore_n (lv' := [(1, .long 0), (0, .ref this)]) hx hb dX1_energyOfDetails_1 rfl hl (by decide) rfl (fun ls hl => ?_)
  refine lv_iconst (v := 0) hx hb dX1_energyOfDetails_2 (by decide) ?_
  refine lv_istore_n (lv' := [(3, .int 0), (1, .long 0), (0, .ref this)]) hx hb dX1_energyOfDetails_3 rfl hl (by decide) rfl (fun ls hl => ?_)
  have loop4 : ∀ (n9 : Nat) (i : Int32) (z : Int64) (H : Heap) (locs : List Loc) (sg : Gh) (ls : Array Slot), TS κ fE σ0 sg s H locs → (0 ≤ i.toInt) → (i.toInt ≤ 46) → lv_has ls 6 [(3, .int i), (1, .long z), (0, .ref this)] → (46 - i.toInt) < n9 → tW p l e 3 66 κ s m #[.ref this] below meth c H locs Q9 (F0 m 4 ls []) := by
    intro n9
    induction n9 with
    | zero =>
      intro i z H locs sg ls hT q1 q2 hl hm9
      exfalso
      omega
    | succ n9 ih9 =>
      have ih4 := ih9
      clear ih9
      intro i z H locs s1 ls hT q1 q2 hl hm9
      refine lv_iload_n hx hb dX1_energyOfDetails_4 rfl (lv_at hl 0 rfl) ?_
      refine lv_aload_n hx hb dX1_energyOfDetails_5 rfl (lv_at hl 2 rfl) ?_
      obtain ⟨v2, ev2⟩ : ∃ zz9 : Int32, zI σ0 this 5 = zz9 := ⟨_, rfl⟩
      have qv2 : v2.toInt = (zI σ0 this 5).toInt := by rw [ev2]
      have b3 := (hT.P (hT.k t_this (by decide)) (by decide)).1
      rw [(hT.eI t_this (by decide) rfl ev2)] at b3
      have b3l := b3.1
      have b3h := b3.2
      refine va_get (D := κ.1) (ci := 1) (v := .int (zI s1 this 5)) (C := RX1) (T := TX1) (N := 13) hx hb hg inX1 hown hK (hT.o3 (hT.k t_this (by decide))).one 0 rfl rfl 5 (by decide) (hg _ k287) (fun _ h9 => h9) rfl dX1_energyOfDetails_6 ?_
      rw [(hT.eI t_this (by decide) rfl ev2)]
      refine lv_icmp_ge (tgt := 50) hx hb dX1_energyOfDetails_9 (by decide) (fun c9 => ?_) (fun c9 => ?_)
      · have c1 := gi_le c9
        refine lv_lload_n hx hb dX1_energyOfDetails_50 rfl (lv_at hl 1 rfl) ?_
        subst hQ9
        exact t_l hx hb hr hlocks hT trivial dX1_energyOfDetails_51
      · have c2 := gi_nle c9
        refine lv_aload_n hx hb dX1_energyOfDetails_12 rfl (lv_at hl 2 rfl) ?_
        obtain ⟨r4, er4⟩ : ∃ z, kR κ this 4 = z := ⟨_, rfl⟩
        have tr4 : zk σ0 r4 11 := by rw [← er4]; exact hT0.ref t_this (by decide) (by decide) (by decide)
        refine va_get (D := κ.1) (ci := 1) (v := .ref (kR κ this 4)) (C := RX1) (T := TX1) (N := 13) hx hb hg inX1 hown hK (hT.o3 (hT.k t_this (by decide))).one 0 rfl rfl 4 (by decide) (hg _ k285) (fun _ h9 => h9) rfl dX1_energyOfDetails_13 ?_
        rw [er4]
        refine lv_iload_n hx hb dX1_energyOfDetails_16 rfl (lv_at hl 0 rfl) ?_
        refine va_aldq hx hb hK (hT.o11 (hT.k tr4 (by decide))).one 0 5 rfl rfl (g_in (by omega) (by omega)) dX1_energyOfDetails_17 ?_
        obtain ⟨r6, er6⟩ : ∃ z, kR κ r4 (ix i) = z := ⟨_, rfl⟩
        have tr6 : zk σ0 r6 2 := by rw [← er6]; exact hT0.ref tr4 (by decide) (zR11 (ix_lt (by omega) (by omega))) (by decide)
        refine tv (.ref r6) (by rw [← er6]; rfl) ?_
        obtain ⟨r7, er7⟩ : ∃ z, kR κ r6 9 = z := ⟨_, rfl⟩
        have tr7 : zk σ0 r7 1 := by rw [← er7]; exact hT0.ref tr6 (by decide) (by decide) (by decide)
        refine va_get (D := κ.1) (ci := 2) (v := .ref (kR κ r6 9)) (C := RX2) (T := TX2) (N := 10) hx hb hg inX2 hown hK (hT.o2 (hT.k tr6 (by decide))).one 0 rfl rfl 9 (by decide) (hg _ k252) (fun _ h9 => h9) rfl dX1_energyOfDetails_18 ?_
        rw [er7]
        obtain ⟨h10, oh10, th10⟩ := hT.o1 (hT.k tr7 (by decide))
        have hTo := hT
        refine tVl (n := 0) (As := []) (rest := []) hx hb hml hown hg hT hK hX (X4_toLong l κ s1 r7  (hT.k tr7 (by decide)) ) (fun _ _ h => h) (mwV k500 k436 k437 k88 k438) ⟨rfl, by decide, by decide, by decide +kernel⟩ ⟨(Nat.le_of_ble_eq_true rfl), (Nat.le_of_ble_eq_true rfl)⟩ oh10 rfl rfl hl.1 rfl (Nat.le_of_ble_eq_true rfl) dX1_energyOfDetails_21 zroom.rf (fun x8 s9 H locs hφ hEs9 hT => ?_)
        refine lv_lstore (lv' := [(4, .long x8), (3, .int i), (1, .long z), (0, .ref this)]) hx hb dX1_energyOfDetails_24 hl (by decide) rfl (fun ls hl => ?_)
        refine lv_lload_n hx hb dX1_energyOfDetails_26 rfl (lv_at hl 2 rfl) ?_
        refine lv_aload_n hx hb dX1_energyOfDetails_27 rfl (lv_at hl 3 rfl) ?_
        refine va_get (D := κ.1) (ci := 1) (v := .ref (kR κ this 4)) (C := RX1) (T := TX1) (N := 13) hx hb hg inX1 hown hK (hT.o3 (hT.k t_this (by decide))).one 0 rfl rfl 4 (by decide) (hg _ k285) (fun _ h9 => h9) rfl dX1_energyOfDetails_28 ?_
        rw [er4]
        refine lv_iload_n hx hb dX1_energyOfDetails_31 rfl (lv_at hl 1 rfl) ?_
        refine va_aldq hx hb hK (hT.o11 (hT.k tr4 (by decide))).one 0 5 rfl rfl (g_in (by omega) (by omega)) dX1_energyOfDetails_32 ?_
        obtain ⟨r12, er12⟩ : ∃ z, kR κ r4 (ix i) = z := ⟨_, rfl⟩
        have tr12 : zk σ0 r12 2 := by rw [← er12]; exact hT0.ref tr4 (by decide) (zR11 (ix_lt (by omega) (by omega))) (by decide)
        refine tv (.ref r12) (by rw [← er12]; rfl) ?_
        refine va_get (D := κ.1) (ci := 2) (v := .long (zJ s9 r12 5)) (C := RX2) (T := TX2) (N := 10) hx hb hg inX2 hown hK (hT.o2 (hT.k tr12 (by decide))).one 0 rfl rfl 5 (by decide) (hg _ k242) (fun _ h9 => h9) rfl dX1_energyOfDetails_33 ?_
        refine lv_topl (fun t13 ht13 => ?_)
        refine lv_lload hx hb dX1_energyOfDetails_36 (lv_at hl 0 rfl) ?_
        refine lv_lmul hx hb dX1_energyOfDetails_38 ?_
        refine lv_topl (fun t14 ht14 => ?_)
        refine lv_lload hx hb dX1_energyOfDetails_39 (lv_at hl 0 rfl) ?_
        refine lv_lmul hx hb dX1_energyOfDetails_41 ?_
        refine lv_topl (fun t15 ht15 => ?_)
        refine lv_ladd hx hb dX1_energyOfDetails_42 ?_
        refine lv_topl (fun t16 ht16 => ?_)
        refine lv_lstore_n (lv' := [(1, .long t16), (4, .long x8), (3, .int i), (0, .ref this)]) hx hb dX1_energyOfDetails_43 rfl hl (by decide) rfl (fun ls hl => ?_)
        obtain ⟨t17, qt17⟩ : ∃ zz9 : Int32, i + Int32.ofInt 1 = zz9 := ⟨_, rfl⟩
        refine lv_iinc (v := t17) (lv' := [(3, .int t17), (1, .long t16), (4, .long x8), (0, .ref this)]) hx hb dX1_energyOfDetails_44 hl (k := 2) rfl qt17 (by decide) rfl (fun ls hl => ?_)
        have ht17 : t17.toInt = i.toInt + 1 := by rw [← qt17]; exact v_addi rfl (show (Int32.ofInt 1).toInt = 1 from by decide) (by omega) (by omega)
        refine lv_goto (tgt := 4) hx hb dX1_energyOfDetails_47 (by decide) ?_
        exact ih4 t17 t16 _ _ _ _ hT  (by omega) (by omega) (lv_sub hl [0, 1, 3] rfl) (by omega)
  exact loop4 ((46 - (0 : Int32).toInt).toNat + 1) 0 0 _ _ _ _ hT  (by omega) (by omega) hl (by omega)
set_option maxHeartbeats 4000000 in
set_option maxRecDepth 100000 in
theorem X1_bitsOfDetails (l : Launch) (κ : Kt) (σ0 : Gh) (this : Nat) (t_this : zk σ0 this 3) : TC l yX1_bitsOfDetails cX1_bitsOfDetails 3 (some .int) 2 41 [.ref this] κ σ0 (tqi κ fE σ0 (fun (r : Int32) (τ : Gh) => True)) := by
  refine TC.of fE (by decide +kernel) (Nat.le_of_ble_eq_true rfl) ?_
  intro p e s m below meth c ls hcs hK hX hT hl
  obtain ⟨hx, hb, hr, hml, hown, hg, hlocks, hin⟩ := hcs
  have hown : s.vm.findClass RX1 = some m.cls := hown
  have hl : lv_has ls 3 [(0, .ref this)] := hl
  have hT0 := hT
  have n0 : (0 : Int32).toInt = 0 := by decide
  have n1 : (1 : Int32).toInt = 1 := by decide
  generalize hQ9 : tQ _ _ _ _ _ _ = Q9
  refine lv_iconst (v := 0) hx hb dX1_bitsOfDetails_0 (by decide) ?_
  refine lv_istore_n (lv' := [(1, .int 0), (0, .ref this)]) hx hb dX1_bitsOfDetails_1 rfl hl (by decide) rfl (fun ls hl => ?_)
  refine lv_iconst (v := 0) hx hb dX1_bitsOfDetails_2 (by decide) ?_
  refine lv_istore_n (lv' := [(2, .int 0), (1, .int 0), (0, .ref this)]) hx hb dX1_bitsOfDetails_3 rfl hl (by decide) rfl (fun ls hl => ?_)
  have loop4 : ∀ (n9 : Nat) (i : Int32) (z : Int32) (H : Heap) (locs : List Loc) (sg : Gh) (ls : Array Slot), TS κ fE σ0 sg s H locs → (0 ≤ i.toInt) → (i.toInt ≤ 46) → lv_has ls 3 [(2, .int i), (1, .int z), (0, .ref this)] → (46 - i.toInt) < n9 → tW p l e 2 41 κ s m #[.ref this] below meth c H locs Q9 (F0 m 4 ls []) := by
    intro n9
    induction n9 with
    | zero =>
      intro i z H locs sg ls hT q1 q2 hl hm9
      exfalso
      omega
    | succ n9 ih9 =>
      have ih4 := ih9
      clear ih9
      intro i z H locs s1 ls hT q1 q2 hl hm9
      refine lv_iload_n hx hb dX1_bitsOfDetails_4 rfl (lv_at hl 0 rfl) ?_
      refine lv_aload_n hx hb dX1_bitsOfDetails_5 rfl (lv_at hl 2 rfl) ?_
      obtain ⟨v2, ev2⟩ : ∃ zz9 : Int32, zI σ0 this 5 = zz9 := ⟨_, rfl⟩
      have qv2 : v2.toInt = (zI σ0 this 5).toInt := by rw [ev2]
      have b3 := (hT.P (hT.k t_this (by decide)) (by decide)).1
      rw [(hT.eI t_this (by decide) rfl ev2)] at b3
      have b3l := b3.1
      have b3h := b3.2
      refine va_get (D := κ.1) (ci := 1) (v := .int (zI s1 this 5)) (C := RX1) (T := TX1) (N := 13) hx hb hg inX1 hown hK (hT.o3 (hT.k t_this (by decide))).one 0 rfl rfl 5 (by decide) (hg _ k287) (fun _ h9 => h9) rfl dX1_bitsOfDetails_6 ?_
      rw [(hT.eI t_this (by decide) rfl ev2)]
      refine lv_icmp_ge (tgt := 35) hx hb dX1_bitsOfDetails_9 (by decide) (fun c9 => ?_) (fun c9 => ?_)
      · have c1 := gi_le c9
        refine lv_iload_n hx hb dX1_bitsOfDetails_35 rfl (lv_at hl 1 rfl) ?_
        subst hQ9
        exact t_i hx hb hr hlocks hT trivial dX1_bitsOfDetails_36
      · have c2 := gi_nle c9
        refine lv_iload_n hx hb dX1_bitsOfDetails_12 rfl (lv_at hl 1 rfl) ?_
        refine lv_iconst (v := 1) hx hb dX1_bitsOfDetails_13 (by decide) ?_
        refine lv_aload_n hx hb dX1_bitsOfDetails_14 rfl (lv_at hl 2 rfl) ?_
        obtain ⟨r4, er4⟩ : ∃ z, kR κ this 4 = z := ⟨_, rfl⟩
        have tr4 : zk σ0 r4 11 := by rw [← er4]; exact hT0.ref t_this (by decide) (by decide) (by decide)
        refine va_get (D := κ.1) (ci := 1) (v := .ref (kR κ this 4)) (C := RX1) (T := TX1) (N := 13) hx hb hg inX1 hown hK (hT.o3 (hT.k t_this (by decide))).one 0 rfl rfl 4 (by decide) (hg _ k285) (fun _ h9 => h9) rfl dX1_bitsOfDetails_15 ?_
        rw [er4]
        refine lv_iload_n hx hb dX1_bitsOfDetails_18 rfl (lv_at hl 0 rfl) ?_
        refine va_aldq hx hb hK (hT.o11 (hT.k tr4 (by decide))).one 0 5 rfl rfl (g_in (by omega) (by omega)) dX1_bitsOfDetails_19 ?_
        obtain ⟨r6, er6⟩ : ∃ z, kR κ r4 (ix i) = z := ⟨_, rfl⟩
        have tr6 : zk σ0 r6 2 := by rw [← er6]; exact hT0.ref tr4 (by decide) (zR11 (ix_lt (by omega) (by omega))) (by decide)
        refine tv (.ref r6) (by rw [← er6]; rfl) ?_
        obtain ⟨r7, er7⟩ : ∃ z, kR κ r6 9 = z := ⟨_, rfl⟩
        have tr7 : zk σ0 r7 1 := by rw [← er7]; exact hT0.ref tr6 (by decide) (by decide) (by decide)
        refine va_get (D := κ.1) (ci := 2) (v := .ref (kR κ r6 9)) (C := RX2) (T := TX2) (N := 10) hx hb hg inX2 hown hK (hT.o2 (hT.k tr6 (by decide))).one 0 rfl rfl 9 (by decide) (hg _ k252) (fun _ h9 => h9) rfl dX1_bitsOfDetails_20 ?_
        rw [er7]
        obtain ⟨h10, oh10, th10⟩ := hT.o1 (hT.k tr7 (by decide))
        have hTo := hT
        refine tVi (n := 0) (As := []) (rest := [.int 1, .int z]) hx hb hml hown hg hT hK hX (X4_bitsOfAmount l κ s1 r7  (hT.k tr7 (by decide)) ) (fun _ _ h => h) (mwV k509 k476 k477 k88 k478) ⟨rfl, by decide, by decide, by decide +kernel⟩ ⟨(Nat.le_of_ble_eq_true rfl), (Nat.le_of_ble_eq_true rfl)⟩ oh10 rfl rfl hl.1 rfl (Nat.le_of_ble_eq_true rfl) dX1_bitsOfDetails_23 zroom.rf (fun x8 s9 H locs hφ hEs9 hT => ?_)
        refine lv_iadd hx hb dX1_bitsOfDetails_26 ?_
        first | refine g_add (by omega) (by omega) (fun t11 ht11 => ?_) | refine lv_topi (fun t11 ht11 => ?_)
        refine lv_iadd hx hb dX1_bitsOfDetails_27 ?_
        first | refine g_add (by omega) (by omega) (fun t12 ht12 => ?_) | refine lv_topi (fun t12 ht12 => ?_)
        refine lv_istore_n (lv' := [(1, .int t12), (2, .int i), (0, .ref this)]) hx hb dX1_bitsOfDetails_28 rfl hl (by decide) rfl (fun ls hl => ?_)
        obtain ⟨t13, qt13⟩ : ∃ zz9 : Int32, i + Int32.ofInt 1 = zz9 := ⟨_, rfl⟩
        refine lv_iinc (v := t13) (lv' := [(2, .int t13), (1, .int t12), (0, .ref this)]) hx hb dX1_bitsOfDetails_29 hl (k := 1) rfl qt13 (by decide) rfl (fun ls hl => ?_)
        have ht13 : t13.toInt = i.toInt + 1 := by rw [← qt13]; exact v_addi rfl (show (Int32.ofInt 1).toInt = 1 from by decide) (by omega) (by omega)
        refine lv_goto (tgt := 4) hx hb dX1_bitsOfDetails_32 (by decide) ?_
        exact ih4 t13 t12 _ _ _ _ hT  (by omega) (by omega) hl (by omega)
  exact loop4 ((46 - (0 : Int32).toInt).toNat + 1) 0 0 _ _ _ _ hT  (by omega) (by omega) hl (by omega)
set_option maxHeartbeats 4000000 in
set_option maxRecDepth 100000 in
theorem X1_rankOf (l : Launch) (κ : Kt) (σ0 : Gh) (this : Nat) (x : Int32) (t_this : zk σ0 this 3) (h0 : 0 ≤ x.toInt) (h1 : x.toInt ≤ 45) : TC l yX1_rankOf cX1_rankOf 5 (some .int) 1 22 [.ref this, .int x] κ σ0 (tqi κ fE σ0 (fun (r : Int32) (τ : Gh) => True)) := by
  refine TC.of fE (by decide +kernel) (Nat.le_of_ble_eq_true rfl) ?_
  intro p e s m below meth c ls hcs hK hX hT hl
  obtain ⟨hx, hb, hr, hml, hown, hg, hlocks, hin⟩ := hcs
  have hown : s.vm.findClass RX1 = some m.cls := hown
  have hl : lv_has ls 5 [(0, .ref this), (1, .int x)] := hl
  have hT0 := hT
  have n0 : (0 : Int32).toInt = 0 := by decide
  have x_lo := Int32.le_toInt x
  have x_hi := Int32.toInt_lt x
  generalize hQ9 : tQ _ _ _ _ _ _ = Q9
  refine lv_iconst (v := 0) hx hb dX1_rankOf_0 (by decide) ?_
  refine lv_istore_n (lv' := [(2, .int 0), (0, .ref this), (1, .int x)]) hx hb dX1_rankOf_1 rfl hl (by decide) rfl (fun ls hl => ?_)
  refine lv_iconst (v := 0) hx hb dX1_rankOf_2 (by decide) ?_
  refine lv_istore_n (lv' := [(3, .int 0), (2, .int 0), (0, .ref this), (1, .int x)]) hx hb dX1_rankOf_3 rfl hl (by decide) rfl (fun ls hl => ?_)
  have loop4 : ∀ (n9 : Nat) (i : Int32) (z : Int32) (H : Heap) (locs : List Loc) (sg : Gh) (ls : Array Slot), TS κ fE σ0 sg s H locs → (0 ≤ i.toInt) → (i.toInt ≤ 46) → (0 ≤ z.toInt) → (z.toInt ≤ i.toInt) → lv_has ls 5 [(3, .int i), (2, .int z), (0, .ref this), (1, .int x)] → (46 - i.toInt) < n9 → tW p l e 1 22 κ s m #[.ref this, .int x] below meth c H locs Q9 (F0 m 4 ls []) := by
    intro n9
    induction n9 with
    | zero =>
      intro i z H locs sg ls hT q1 q2 q3 q4 hl hm9
      exfalso
      omega
    | succ n9 ih9 =>
      have ih4 := ih9
      clear ih9
      intro i z H locs s1 ls hT q1 q2 q3 q4 hl hm9
      refine lv_iload_n hx hb dX1_rankOf_4 rfl (lv_at hl 0 rfl) ?_
      refine lv_aload_n hx hb dX1_rankOf_5 rfl (lv_at hl 2 rfl) ?_
      obtain ⟨v2, ev2⟩ : ∃ zz9 : Int32, zI σ0 this 5 = zz9 := ⟨_, rfl⟩
      have qv2 : v2.toInt = (zI σ0 this 5).toInt := by rw [ev2]
      have b3 := (hT.P (hT.k t_this (by decide)) (by decide)).1
      rw [(hT.eI t_this (by decide) rfl ev2)] at b3
      have b3l := b3.1
      have b3h := b3.2
      refine va_get (D := κ.1) (ci := 1) (v := .int (zI s1 this 5)) (C := RX1) (T := TX1) (N := 13) hx hb hg inX1 hown hK (hT.o3 (hT.k t_this (by decide))).one 0 rfl rfl 5 (by decide) (hg _ k287) (fun _ h9 => h9) rfl dX1_rankOf_6 ?_
      rw [(hT.eI t_this (by decide) rfl ev2)]
      refine lv_icmp_ge (tgt := 59) hx hb dX1_rankOf_9 (by decide) (fun c9 => ?_) (fun c9 => ?_)
      · have c1 := gi_le c9
        refine lv_iload_n hx hb dX1_rankOf_59 rfl (lv_at hl 1 rfl) ?_
        subst hQ9
        exact t_i hx hb hr hlocks hT trivial dX1_rankOf_60
      · have c2 := gi_nle c9
        refine lv_aload_n hx hb dX1_rankOf_12 rfl (lv_at hl 2 rfl) ?_
        obtain ⟨r4, er4⟩ : ∃ z, kR κ this 4 = z := ⟨_, rfl⟩
        have tr4 : zk σ0 r4 11 := by rw [← er4]; exact hT0.ref t_this (by decide) (by decide) (by decide)
        refine va_get (D := κ.1) (ci := 1) (v := .ref (kR κ this 4)) (C := RX1) (T := TX1) (N := 13) hx hb hg inX1 hown hK (hT.o3 (hT.k t_this (by decide))).one 0 rfl rfl 4 (by decide) (hg _ k285) (fun _ h9 => h9) rfl dX1_rankOf_13 ?_
        rw [er4]
        refine lv_iload_n hx hb dX1_rankOf_16 rfl (lv_at hl 0 rfl) ?_
        refine va_aldq hx hb hK (hT.o11 (hT.k tr4 (by decide))).one 0 5 rfl rfl (g_in (by omega) (by omega)) dX1_rankOf_17 ?_
        obtain ⟨r6, er6⟩ : ∃ z, kR κ r4 (ix i) = z := ⟨_, rfl⟩
        have tr6 : zk σ0 r6 2 := by rw [← er6]; exact hT0.ref tr4 (by decide) (zR11 (ix_lt (by omega) (by omega))) (by decide)
        refine tv (.ref r6) (by rw [← er6]; rfl) ?_
        obtain ⟨r7, er7⟩ : ∃ z, kR κ r6 9 = z := ⟨_, rfl⟩
        have tr7 : zk σ0 r7 1 := by rw [← er7]; exact hT0.ref tr6 (by decide) (by decide) (by decide)
        refine va_get (D := κ.1) (ci := 2) (v := .ref (kR κ r6 9)) (C := RX2) (T := TX2) (N := 10) hx hb hg inX2 hown hK (hT.o2 (hT.k tr6 (by decide))).one 0 rfl rfl 9 (by decide) (hg _ k252) (fun _ h9 => h9) rfl dX1_rankOf_18 ?_
        rw [er7]
        refine lv_aload_n hx hb dX1_rankOf_21 rfl (lv_at hl 2 rfl) ?_
        refine va_get (D := κ.1) (ci := 1) (v := .ref (kR κ this 4)) (C := RX1) (T := TX1) (N := 13) hx hb hg inX1 hown hK (hT.o3 (hT.k t_this (by decide))).one 0 rfl rfl 4 (by decide) (hg _ k285) (fun _ h9 => h9) rfl dX1_rankOf_22 ?_
        rw [er4]
        refine lv_iload_n hx hb dX1_rankOf_25 rfl (lv_at hl 3 rfl) ?_
        refine va_aldq hx hb hK (hT.o11 (hT.k tr4 (by decide))).one 0 5 rfl rfl (g_in (by omega) (by omega)) dX1_rankOf_26 ?_
        obtain ⟨r9, er9⟩ : ∃ z, kR κ r4 (ix x) = z := ⟨_, rfl⟩
        have tr9 : zk σ0 r9 2 := by rw [← er9]; exact hT0.ref tr4 (by decide) (zR11 (ix_lt (by omega) (by omega))) (by decide)
        refine tv (.ref r9) (by rw [← er9]; rfl) ?_
        obtain ⟨r10, er10⟩ : ∃ z, kR κ r9 9 = z := ⟨_, rfl⟩
        have tr10 : zk σ0 r10 1 := by rw [← er10]; exact hT0.ref tr9 (by decide) (by decide) (by decide)
        refine va_get (D := κ.1) (ci := 2) (v := .ref (kR κ r9 9)) (C := RX2) (T := TX2) (N := 10) hx hb hg inX2 hown hK (hT.o2 (hT.k tr9 (by decide))).one 0 rfl rfl 9 (by decide) (hg _ k252) (fun _ h9 => h9) rfl dX1_rankOf_27 ?_
        rw [er10]
        obtain ⟨h13, oh13, th13⟩ := hT.o1 (hT.k tr7 (by decide))
        have hTo := hT
        refine tVi (n := 1) (As := [.ref r10]) (rest := []) hx hb hml hown hg hT hK hX (X4_compareAmount l κ s1 r7 r10  (hT.k tr7 (by decide)) (hT.k tr10 (by decide)) ) (fun _ _ h => h) (mwV k566 k567 k568 k88 k569) ⟨rfl, by decide, by decide, by decide +kernel⟩ ⟨(Nat.le_of_ble_eq_true rfl), (Nat.le_of_ble_eq_true rfl)⟩ oh13 rfl rfl hl.1 rfl (Nat.le_of_ble_eq_true rfl) dX1_rankOf_30 zroom.rf (fun x11 s12 H locs hφ hEs12 hT => ?_)
        refine lv_istore (lv' := [(4, .int x11), (3, .int i), (2, .int z), (0, .ref this), (1, .int x)]) hx hb dX1_rankOf_33 hl (by decide) rfl (fun ls hl => ?_)
        refine lv_iload hx hb dX1_rankOf_35 (lv_at hl 0 rfl) ?_
        refine lv_if_gt (tgt := 50) hx hb dX1_rankOf_37 (by decide) (fun c9 => ?_) (fun c9 => ?_)
        · have c3 := gi_lt c9
          obtain ⟨t14, qt14⟩ : ∃ zz9 : Int32, z + Int32.ofInt 1 = zz9 := ⟨_, rfl⟩
          refine lv_iinc (v := t14) (lv' := [(2, .int t14), (4, .int x11), (3, .int i), (0, .ref this), (1, .int x)]) hx hb dX1_rankOf_50 hl (k := 2) rfl qt14 (by decide) rfl (fun ls hl => ?_)
          have ht14 : t14.toInt = z.toInt + 1 := by rw [← qt14]; exact v_addi rfl (show (Int32.ofInt 1).toInt = 1 from by decide) (by omega) (by omega)
          obtain ⟨t15, qt15⟩ : ∃ zz9 : Int32, i + Int32.ofInt 1 = zz9 := ⟨_, rfl⟩
          refine lv_iinc (v := t15) (lv' := [(3, .int t15), (2, .int t14), (4, .int x11), (0, .ref this), (1, .int x)]) hx hb dX1_rankOf_53 hl (k := 2) rfl qt15 (by decide) rfl (fun ls hl => ?_)
          have ht15 : t15.toInt = i.toInt + 1 := by rw [← qt15]; exact v_addi rfl (show (Int32.ofInt 1).toInt = 1 from by decide) (by omega) (by omega)
          refine lv_goto (tgt := 4) hx hb dX1_rankOf_56 (by decide) ?_
          exact ih4 t15 t14 _ _ _ _ hT  (by omega) (by omega) (by omega) (by omega) (lv_sub hl [0, 1, 3, 4] rfl) (by omega)
        · have c4 := gi_nlt c9
          refine lv_iload hx hb dX1_rankOf_40 (lv_at hl 0 rfl) ?_
          refine lv_if_ne (tgt := 53) hx hb dX1_rankOf_42 (by decide) (fun c9 => ?_) (fun c9 => ?_)
          · have c5 := gi_ne c9
            obtain ⟨t16, qt16⟩ : ∃ zz9 : Int32, i + Int32.ofInt 1 = zz9 := ⟨_, rfl⟩
            refine lv_iinc (v := t16) (lv' := [(3, .int t16), (4, .int x11), (2, .int z), (0, .ref this), (1, .int x)]) hx hb dX1_rankOf_53 hl (k := 1) rfl qt16 (by decide) rfl (fun ls hl => ?_)
            have ht16 : t16.toInt = i.toInt + 1 := by rw [← qt16]; exact v_addi rfl (show (Int32.ofInt 1).toInt = 1 from by decide) (by omega) (by omega)
            refine lv_goto (tgt := 4) hx hb dX1_rankOf_56 (by decide) ?_
            exact ih4 t16 z _ _ _ _ hT  (by omega) (by omega) (by omega) (by omega) (lv_sub hl [0, 2, 3, 4] rfl) (by omega)
          · have c6 := gi_eq c9
            refine lv_iload_n hx hb dX1_rankOf_45 rfl (lv_at hl 1 rfl) ?_
            refine lv_iload_n hx hb dX1_rankOf_46 rfl (lv_at hl 4 rfl) ?_
            refine lv_icmp_ge (tgt := 53) hx hb dX1_rankOf_47 (by decide) (fun c9 => ?_) (fun c9 => ?_)
            · have c7 := gi_le c9
              obtain ⟨t17, qt17⟩ : ∃ zz9 : Int32, i + Int32.ofInt 1 = zz9 := ⟨_, rfl⟩
              refine lv_iinc (v := t17) (lv' := [(3, .int t17), (4, .int x11), (2, .int z), (0, .ref this), (1, .int x)]) hx hb dX1_rankOf_53 hl (k := 1) rfl qt17 (by decide) rfl (fun ls hl => ?_)
              have ht17 : t17.toInt = i.toInt + 1 := by rw [← qt17]; exact v_addi rfl (show (Int32.ofInt 1).toInt = 1 from by decide) (by omega) (by omega)
              refine lv_goto (tgt := 4) hx hb dX1_rankOf_56 (by decide) ?_
              exact ih4 t17 z _ _ _ _ hT  (by omega) (by omega) (by omega) (by omega) (lv_sub hl [0, 2, 3, 4] rfl) (by omega)
            · have c8 := gi_nle c9
              obtain ⟨t18, qt18⟩ : ∃ zz9 : Int32, z + Int32.ofInt 1 = zz9 := ⟨_, rfl⟩
              refine lv_iinc (v := t18) (lv' := [(2, .int t18), (4, .int x11), (3, .int i), (0, .ref this), (1, .int x)]) hx hb dX1_rankOf_50 hl (k := 2) rfl qt18 (by decide) rfl (fun ls hl => ?_)
              have ht18 : t18.toInt = z.toInt + 1 := by rw [← qt18]; exact v_addi rfl (show (Int32.ofInt 1).toInt = 1 from by decide) (by omega) (by omega)
              obtain ⟨t19, qt19⟩ : ∃ zz9 : Int32, i + Int32.ofInt 1 = zz9 := ⟨_, rfl⟩
              refine lv_iinc (v := t19) (lv' := [(3, .int t19), (2, .int t18), (4, .int x11), (0, .ref this), (1, .int x)]) hx hb dX1_rankOf_53 hl (k := 2) rfl qt19 (by decide) rfl (fun ls hl => ?_)
              have ht19 : t19.toInt = i.toInt + 1 := by rw [← qt19]; exact v_addi rfl (show (Int32.ofInt 1).toInt = 1 from by decide) (by omega) (by omega)
              refine lv_goto (tgt := 4) hx hb dX1_rankOf_56 (by decide) ?_
              exact ih4 t19 t18 _ _ _ _ hT  (by omega) (by omega) (by omega) (by omega) (lv_sub hl [0, 1, 3, 4] rfl) (by omega)
  exact loop4 ((46 - (0 : Int32).toInt).toNat + 1) 0 0 _ _ _ _ hT  (by omega) (by omega) (by omega) (by omega) hl (by omega)
set_option maxHeartbeats 4000000 in
set_option maxRecDepth 100000 in
theorem X1_stepOfRank (l : Launch) (κ : Kt) (σ0 : Gh) (this : Nat) (x : Int32) (t_this : zk σ0 this 3) : TC l yX1_stepOfRank cX1_stepOfRank 3 (some .int) 2 46 [.ref this, .int x] κ σ0 (tqi κ fE σ0 (fun (r : Int32) (τ : Gh) => (-1 ≤ r.toInt) ∧ (r.toInt ≤ 45))) := by
  refine TC.of fE (by decide +kernel) (Nat.le_of_ble_eq_true rfl) ?_
  intro p e s m below meth c ls hcs hK hX hT hl
  obtain ⟨hx, hb, hr, hml, hown, hg, hlocks, hin⟩ := hcs
  have hown : s.vm.findClass RX1 = some m.cls := hown
  have hl : lv_has ls 3 [(0, .ref this), (1, .int x)] := hl
  have hT0 := hT
  have nm1 : ((-1) : Int32).toInt = (-1) := by decide
  have n0 : (0 : Int32).toInt = 0 := by decide
  have x_lo := Int32.le_toInt x
  have x_hi := Int32.toInt_lt x
  generalize hQ9 : tQ _ _ _ _ _ _ = Q9
  refine lv_iconst (v := 0) hx hb dX1_stepOfRank_0 (by decide) ?_
  refine lv_istore_n (lv' := [(2, .int 0), (0, .ref this), (1, .int x)]) hx hb dX1_stepOfRank_1 rfl hl (by decide) rfl (fun ls hl => ?_)
  have loop2 : ∀ (n9 : Nat) (i : Int32) (H : Heap) (locs : List Loc) (sg : Gh) (ls : Array Slot), TS κ fE σ0 sg s H locs → (0 ≤ i.toInt) → (i.toInt ≤ 46) → lv_has ls 3 [(2, .int i), (0, .ref this), (1, .int x)] → (46 - i.toInt) < n9 → tW p l e 2 46 κ s m #[.ref this, .int x] below meth c H locs Q9 (F0 m 2 ls []) := by
    intro n9
    induction n9 with
    | zero =>
      intro i H locs sg ls hT q1 q2 hl hm9
      exfalso
      omega
    | succ n9 ih9 =>
      have ih2 := ih9
      clear ih9
      intro i H locs s1 ls hT q1 q2 hl hm9
      refine lv_iload_n hx hb dX1_stepOfRank_2 rfl (lv_at hl 0 rfl) ?_
      refine lv_aload_n hx hb dX1_stepOfRank_3 rfl (lv_at hl 1 rfl) ?_
      obtain ⟨v2, ev2⟩ : ∃ zz9 : Int32, zI σ0 this 5 = zz9 := ⟨_, rfl⟩
      have qv2 : v2.toInt = (zI σ0 this 5).toInt := by rw [ev2]
      have b3 := (hT.P (hT.k t_this (by decide)) (by decide)).1
      rw [(hT.eI t_this (by decide) rfl ev2)] at b3
      have b3l := b3.1
      have b3h := b3.2
      refine va_get (D := κ.1) (ci := 1) (v := .int (zI s1 this 5)) (C := RX1) (T := TX1) (N := 13) hx hb hg inX1 hown hK (hT.o3 (hT.k t_this (by decide))).one 0 rfl rfl 5 (by decide) (hg _ k287) (fun _ h9 => h9) rfl dX1_stepOfRank_4 ?_
      rw [(hT.eI t_this (by decide) rfl ev2)]
      refine lv_icmp_ge (tgt := 27) hx hb dX1_stepOfRank_7 (by decide) (fun c9 => ?_) (fun c9 => ?_)
      · have c1 := gi_le c9
        refine lv_iconst (v := (-1)) hx hb dX1_stepOfRank_27 (by decide) ?_
        subst hQ9
        exact t_i hx hb hr hlocks hT ⟨by omega, by omega⟩ dX1_stepOfRank_28
      · have c2 := gi_nle c9
        refine lv_aload_n hx hb dX1_stepOfRank_10 rfl (lv_at hl 1 rfl) ?_
        refine lv_iload_n hx hb dX1_stepOfRank_11 rfl (lv_at hl 0 rfl) ?_
        have hTo := hT
        refine tVi (n := 1) (As := [.int i]) (rest := []) hx hb hml hown hg hT hK hX (X1_rankOf l κ s1 this i  (hT.k t_this (by decide)) (by omega) (by omega)) (fun _ _ h => h) (mwV k938 k940 k29 k87 k941) ⟨rfl, by decide, by decide, by decide +kernel⟩ ⟨(Nat.le_of_ble_eq_true rfl), (Nat.le_of_ble_eq_true rfl)⟩ (hT.o3 (hT.k t_this (by decide))) rfl rfl hl.1 rfl (Nat.le_of_ble_eq_true rfl) dX1_stepOfRank_12 zroom.rf (fun x4 s5 H locs hφ hEs5 hT => ?_)
        refine lv_iload_n hx hb dX1_stepOfRank_15 rfl (lv_at hl 2 rfl) ?_
        refine lv_icmp_ne (tgt := 21) hx hb dX1_stepOfRank_16 (by decide) (fun c9 => ?_) (fun c9 => ?_)
        · have c3 := gi_ne c9
          obtain ⟨t6, qt6⟩ : ∃ zz9 : Int32, i + Int32.ofInt 1 = zz9 := ⟨_, rfl⟩
          refine lv_iinc (v := t6) (lv' := [(2, .int t6), (0, .ref this), (1, .int x)]) hx hb dX1_stepOfRank_21 hl (k := 0) rfl qt6 (by decide) rfl (fun ls hl => ?_)
          have ht6 : t6.toInt = i.toInt + 1 := by rw [← qt6]; exact v_addi rfl (show (Int32.ofInt 1).toInt = 1 from by decide) (by omega) (by omega)
          refine lv_goto (tgt := 2) hx hb dX1_stepOfRank_24 (by decide) ?_
          exact ih2 t6 _ _ _ _ hT  (by omega) (by omega) hl (by omega)
        · have c4 := gi_eq c9
          refine lv_iload_n hx hb dX1_stepOfRank_19 rfl (lv_at hl 0 rfl) ?_
          subst hQ9
          exact t_i hx hb hr hlocks hT ⟨by omega, by omega⟩ dX1_stepOfRank_20
  exact loop2 ((46 - (0 : Int32).toInt).toNat + 1) 0 _ _ _ _ hT  (by omega) (by omega) hl (by omega)
set_option maxHeartbeats 4000000 in
set_option maxRecDepth 100000 in
theorem X1_cutDetails (l : Launch) (κ : Kt) (σ0 : Gh) (this : Nat) (x : Int32) (so : Int32) (t_this : zk σ0 this 3) (b_so : isB so) : TC l yX1_cutDetails cX1_cutDetails 5 none 3 89 [.ref this, .int x, .int so] κ σ0 (tqv κ fW σ0 (fun (τ : Gh) => True)) := by
  refine TC.of fW (by decide +kernel) (Nat.le_of_ble_eq_true rfl) ?_
  intro p e s m below meth c ls hcs hK hX hT hl
  obtain ⟨hx, hb, hr, hml, hown, hg, hlocks, hin⟩ := hcs
  have hown : s.vm.findClass RX1 = some m.cls := hown
  have hl : lv_has ls 5 [(0, .ref this), (1, .int x), (2, .int so)] := hl
  have hT0 := hT
  have n0 : (0 : Int32).toInt = 0 := by decide
  have j0 : (0 : Int64).toInt = 0 := by decide
  have x_lo := Int32.le_toInt x
  have x_hi := Int32.toInt_lt x
  generalize hQ9 : tQ _ _ _ _ _ _ = Q9
  refine lv_iconst (v := 0) hx hb dX1_cutDetails_0 (by decide) ?_
  refine lv_istore_n (lv' := [(3, .int 0), (0, .ref this), (1, .int x), (2, .int so)]) hx hb dX1_cutDetails_1 rfl hl (by decide) rfl (fun ls hl => ?_)
  have loop2 : ∀ (n9 : Nat) (i : Int32) (H : Heap) (locs : List Loc) (sg : Gh) (ls : Array Slot), TS κ fW σ0 sg s H locs → (0 ≤ i.toInt) → (i.toInt ≤ 46) → lv_has ls 5 [(3, .int i), (0, .ref this), (1, .int x), (2, .int so)] → (46 - i.toInt) < n9 → tW p l e 3 89 κ s m #[.ref this, .int x, .int so] below meth c H locs Q9 (F0 m 2 ls []) := by
    intro n9
    induction n9 with
    | zero =>
      intro i H locs sg ls hT q1 q2 hl hm9
      exfalso
      omega
    | succ n9 ih9 =>
      have ih2 := ih9
      clear ih9
      intro i H locs s1 ls hT q1 q2 hl hm9
      refine lv_iload_n hx hb dX1_cutDetails_2 rfl (lv_at hl 0 rfl) ?_
      refine lv_aload_n hx hb dX1_cutDetails_3 rfl (lv_at hl 1 rfl) ?_
      obtain ⟨v2, ev2⟩ : ∃ zz9 : Int32, zI σ0 this 5 = zz9 := ⟨_, rfl⟩
      have qv2 : v2.toInt = (zI σ0 this 5).toInt := by rw [ev2]
      have b3 := (hT.P (hT.k t_this (by decide)) (by decide)).1
      rw [(hT.eI t_this (by decide) rfl ev2)] at b3
      have b3l := b3.1
      have b3h := b3.2
      refine va_get (D := κ.1) (ci := 1) (v := .int (zI s1 this 5)) (C := RX1) (T := TX1) (N := 13) hx hb hg inX1 hown hK (hT.o3 (hT.k t_this (by decide))).one 0 rfl rfl 5 (by decide) (hg _ k287) (fun _ h9 => h9) rfl dX1_cutDetails_4 ?_
      rw [(hT.eI t_this (by decide) rfl ev2)]
      refine lv_icmp_ge (tgt := 75) hx hb dX1_cutDetails_7 (by decide) (fun c9 => ?_) (fun c9 => ?_)
      · have c1 := gi_le c9
        subst hQ9
        exact t_v hx hb hr hlocks hT trivial dX1_cutDetails_75
      · have c2 := gi_nle c9
        refine lv_aload_n hx hb dX1_cutDetails_10 rfl (lv_at hl 1 rfl) ?_
        obtain ⟨r4, er4⟩ : ∃ z, kR κ this 4 = z := ⟨_, rfl⟩
        have tr4 : zk σ0 r4 11 := by rw [← er4]; exact hT0.ref t_this (by decide) (by decide) (by decide)
        refine va_get (D := κ.1) (ci := 1) (v := .ref (kR κ this 4)) (C := RX1) (T := TX1) (N := 13) hx hb hg inX1 hown hK (hT.o3 (hT.k t_this (by decide))).one 0 rfl rfl 4 (by decide) (hg _ k285) (fun _ h9 => h9) rfl dX1_cutDetails_11 ?_
        rw [er4]
        refine lv_iload_n hx hb dX1_cutDetails_14 rfl (lv_at hl 0 rfl) ?_
        refine va_aldq hx hb hK (hT.o11 (hT.k tr4 (by decide))).one 0 5 rfl rfl (g_in (by omega) (by omega)) dX1_cutDetails_15 ?_
        obtain ⟨r6, er6⟩ : ∃ z, kR κ r4 (ix i) = z := ⟨_, rfl⟩
        have tr6 : zk σ0 r6 2 := by rw [← er6]; exact hT0.ref tr4 (by decide) (zR11 (ix_lt (by omega) (by omega))) (by decide)
        refine tv (.ref r6) (by rw [← er6]; rfl) ?_
        obtain ⟨r7, er7⟩ : ∃ z, kR κ r6 9 = z := ⟨_, rfl⟩
        have tr7 : zk σ0 r7 1 := by rw [← er7]; exact hT0.ref tr6 (by decide) (by decide) (by decide)
        refine va_get (D := κ.1) (ci := 2) (v := .ref (kR κ r6 9)) (C := RX2) (T := TX2) (N := 10) hx hb hg inX2 hown hK (hT.o2 (hT.k tr6 (by decide))).one 0 rfl rfl 9 (by decide) (hg _ k252) (fun _ h9 => h9) rfl dX1_cutDetails_16 ?_
        rw [er7]
        refine lv_astore (lv' := [(4, .ref r7), (3, .int i), (0, .ref this), (1, .int x), (2, .int so)]) hx hb dX1_cutDetails_19 hl (by decide) rfl (fun ls hl => ?_)
        refine lv_aload hx hb dX1_cutDetails_21 (lv_at hl 0 rfl) ?_
        refine lv_iload_n hx hb dX1_cutDetails_23 rfl (lv_at hl 3 rfl) ?_
        refine lv_i2l hx hb dX1_cutDetails_24 rfl ?_
        refine g_i2l (fun t8 ht8 => ?_)
        obtain ⟨h11, oh11, th11⟩ := hT.o1 (hT.k tr7 (by decide))
        have hTo := hT
        refine tVi (n := 1) (As := [.long t8]) (rest := []) hx hb hml hown hg hT hK hX (X4_isAmountBelow l κ s1 r7 t8  (hT.k tr7 (by decide)) ) sub_fE_fW (mwV k1076 k1077 k1078 k88 k1079) ⟨rfl, by decide, by decide, by decide +kernel⟩ ⟨(Nat.le_of_ble_eq_true rfl), (Nat.le_of_ble_eq_true rfl)⟩ oh11 rfl rfl hl.1 rfl (Nat.le_of_ble_eq_true rfl) dX1_cutDetails_25 zroom.rf (fun x9 s10 H locs hφ hEs10 hT => ?_)
        have f12 := hφ
        refine lv_if_eq (tgt := 40) hx hb dX1_cutDetails_28 (by decide) (fun c9 => ?_) (fun c9 => ?_)
        · have c3 := gi_eq c9
          refine lv_iload_n hx hb dX1_cutDetails_40 rfl (lv_at hl 4 rfl) ?_
          refine lv_if_eq (tgt := 69) hx hb dX1_cutDetails_41 (by decide) (fun c9 => ?_) (fun c9 => ?_)
          · have c4 := gi_eq c9
            obtain ⟨t13, qt13⟩ : ∃ zz9 : Int32, i + Int32.ofInt 1 = zz9 := ⟨_, rfl⟩
            refine lv_iinc (v := t13) (lv' := [(3, .int t13), (4, .ref r7), (0, .ref this), (1, .int x), (2, .int so)]) hx hb dX1_cutDetails_69 hl (k := 1) rfl qt13 (by decide) rfl (fun ls hl => ?_)
            have ht13 : t13.toInt = i.toInt + 1 := by rw [← qt13]; exact v_addi rfl (show (Int32.ofInt 1).toInt = 1 from by decide) (by omega) (by omega)
            refine lv_goto (tgt := 2) hx hb dX1_cutDetails_72 (by decide) ?_
            exact ih2 t13 _ _ _ _ hT  (by omega) (by omega) (lv_sub hl [0, 2, 3, 4] rfl) (by omega)
          · have c5 := gi_ne c9
            refine lv_aload hx hb dX1_cutDetails_44 (lv_at hl 0 rfl) ?_
            refine lv_aload_n hx hb dX1_cutDetails_46 rfl (lv_at hl 2 rfl) ?_
            obtain ⟨r14, er14⟩ : ∃ z, kR κ this 10 = z := ⟨_, rfl⟩
            have tr14 : zk σ0 r14 1 := by rw [← er14]; exact hT0.ref t_this (by decide) (by decide) (by decide)
            refine va_get (D := κ.1) (ci := 1) (v := .ref (kR κ this 10)) (C := RX1) (T := TX1) (N := 13) hx hb hg inX1 hown hK (hT.o3 (hT.k t_this (by decide))).one 0 rfl rfl 10 (by decide) (hg _ k297) (fun _ h9 => h9) rfl dX1_cutDetails_47 ?_
            rw [er14]
            refine lv_aload hx hb dX1_cutDetails_50 (lv_at hl 0 rfl) ?_
            obtain ⟨h17, oh17, th17⟩ := hT.o1 (hT.k tr7 (by decide))
            have hTo := hT
            refine tVi (n := 0) (As := []) (rest := [.ref r14, .ref r7]) hx hb hml hown hg hT hK hX (X4_isBelowZero l κ s10 r7  (hT.k tr7 (by decide)) ) sub_fE_fW (mwV k1080 k1081 k1082 k88 k1083) ⟨rfl, by decide, by decide, by decide +kernel⟩ ⟨(Nat.le_of_ble_eq_true rfl), (Nat.le_of_ble_eq_true rfl)⟩ oh17 rfl rfl hl.1 rfl (Nat.le_of_ble_eq_true rfl) dX1_cutDetails_52 zroom.rf (fun x15 s16 H locs hφ hEs16 hT => ?_)
            have f18 := hφ
            refine lv_if_eq (tgt := 63) hx hb dX1_cutDetails_55 (by decide) (fun c9 => ?_) (fun c9 => ?_)
            · have c6 := gi_eq c9
              refine lv_iload_n hx hb dX1_cutDetails_63 rfl (lv_at hl 3 rfl) ?_
              refine lv_ineg hx hb dX1_cutDetails_64 ?_
              refine lv_topi (fun t19 ht19 => ?_)
              refine lv_i2l hx hb dX1_cutDetails_65 rfl ?_
              refine g_i2l (fun t20 ht20 => ?_)
              obtain ⟨h23, oh23, th23⟩ := hT.o1 (hT.k tr7 (by decide))
              have hTo := hT
              refine tVv (n := 2) (As := [.ref r14, .long t20]) (rest := []) hx hb hml hown hg hT hK hX (X4_add l κ s16 r7 r14 t20  (hT.k tr7 (by decide)) (hT.k tr14 (by decide)) ) (fun _ _ h => h) (mwV k340 k341 k342 k88 k343) ⟨rfl, by decide, by decide, by decide +kernel⟩ ⟨(Nat.le_of_ble_eq_true rfl), (Nat.le_of_ble_eq_true rfl)⟩ oh23 rfl rfl hl.1 rfl (Nat.le_of_ble_eq_true rfl) dX1_cutDetails_66 zroom.rf (fun s22 H locs hφ hEs22 hT => ?_)
              obtain ⟨t24, qt24⟩ : ∃ zz9 : Int32, i + Int32.ofInt 1 = zz9 := ⟨_, rfl⟩
              refine lv_iinc (v := t24) (lv' := [(3, .int t24), (4, .ref r7), (0, .ref this), (1, .int x), (2, .int so)]) hx hb dX1_cutDetails_69 hl (k := 1) rfl qt24 (by decide) rfl (fun ls hl => ?_)
              have ht24 : t24.toInt = i.toInt + 1 := by rw [← qt24]; exact v_addi rfl (show (Int32.ofInt 1).toInt = 1 from by decide) (by omega) (by omega)
              refine lv_goto (tgt := 2) hx hb dX1_cutDetails_72 (by decide) ?_
              exact ih2 t24 _ _ _ _ hT  (by omega) (by omega) (lv_sub hl [0, 2, 3, 4] rfl) (by omega)
            · have c7 := gi_ne c9
              refine lv_iload_n hx hb dX1_cutDetails_58 rfl (lv_at hl 3 rfl) ?_
              refine lv_i2l hx hb dX1_cutDetails_59 rfl ?_
              refine g_i2l (fun t25 ht25 => ?_)
              refine lv_goto (tgt := 66) hx hb dX1_cutDetails_60 (by decide) ?_
              obtain ⟨h28, oh28, th28⟩ := hT.o1 (hT.k tr7 (by decide))
              have hTo := hT
              refine tVv (n := 2) (As := [.ref r14, .long t25]) (rest := []) hx hb hml hown hg hT hK hX (X4_add l κ s16 r7 r14 t25  (hT.k tr7 (by decide)) (hT.k tr14 (by decide)) ) (fun _ _ h => h) (mwV k340 k341 k342 k88 k343) ⟨rfl, by decide, by decide, by decide +kernel⟩ ⟨(Nat.le_of_ble_eq_true rfl), (Nat.le_of_ble_eq_true rfl)⟩ oh28 rfl rfl hl.1 rfl (Nat.le_of_ble_eq_true rfl) dX1_cutDetails_66 zroom.rf (fun s27 H locs hφ hEs27 hT => ?_)
              obtain ⟨t29, qt29⟩ : ∃ zz9 : Int32, i + Int32.ofInt 1 = zz9 := ⟨_, rfl⟩
              refine lv_iinc (v := t29) (lv' := [(3, .int t29), (4, .ref r7), (0, .ref this), (1, .int x), (2, .int so)]) hx hb dX1_cutDetails_69 hl (k := 1) rfl qt29 (by decide) rfl (fun ls hl => ?_)
              have ht29 : t29.toInt = i.toInt + 1 := by rw [← qt29]; exact v_addi rfl (show (Int32.ofInt 1).toInt = 1 from by decide) (by omega) (by omega)
              refine lv_goto (tgt := 2) hx hb dX1_cutDetails_72 (by decide) ?_
              exact ih2 t29 _ _ _ _ hT  (by omega) (by omega) (lv_sub hl [0, 2, 3, 4] rfl) (by omega)
        · have c8 := gi_ne c9
          refine lv_aload hx hb dX1_cutDetails_31 (lv_at hl 0 rfl) ?_
          refine lv_lconst (v := 0) hx hb dX1_cutDetails_33 (by decide) ?_
          obtain ⟨h32, oh32, th32⟩ := hT.o1 (hT.k tr7 (by decide))
          have hTo := hT
          refine tVv (n := 1) (As := [.long 0]) (rest := []) hx hb hml hown hg hT hK hX (X4_become l κ s10 r7 0  (hT.k tr7 (by decide)) ) sub_fX_fW (mwV k274 k275 k276 k88 k277) ⟨rfl, by decide, by decide, by decide +kernel⟩ ⟨(Nat.le_of_ble_eq_true rfl), (Nat.le_of_ble_eq_true rfl)⟩ oh32 rfl rfl hl.1 rfl (Nat.le_of_ble_eq_true rfl) dX1_cutDetails_34 zroom.rf (fun s31 H locs hφ hEs31 hT => ?_)
          refine lv_goto (tgt := 69) hx hb dX1_cutDetails_37 (by decide) ?_
          obtain ⟨t33, qt33⟩ : ∃ zz9 : Int32, i + Int32.ofInt 1 = zz9 := ⟨_, rfl⟩
          refine lv_iinc (v := t33) (lv' := [(3, .int t33), (4, .ref r7), (0, .ref this), (1, .int x), (2, .int so)]) hx hb dX1_cutDetails_69 hl (k := 1) rfl qt33 (by decide) rfl (fun ls hl => ?_)
          have ht33 : t33.toInt = i.toInt + 1 := by rw [← qt33]; exact v_addi rfl (show (Int32.ofInt 1).toInt = 1 from by decide) (by omega) (by omega)
          refine lv_goto (tgt := 2) hx hb dX1_cutDetails_72 (by decide) ?_
          exact ih2 t33 _ _ _ _ hT  (by omega) (by omega) (lv_sub hl [0, 2, 3, 4] rfl) (by omega)
  exact loop2 ((46 - (0 : Int32).toInt).toNat + 1) 0 _ _ _ _ hT  (by omega) (by omega) hl (by omega)
set_option maxHeartbeats 4000000 in
set_option maxRecDepth 100000 in
theorem X1_quantizeDetails (l : Launch) (κ : Kt) (σ0 : Gh) (this : Nat) (x : Int32) (t_this : zk σ0 this 3) : TC l yX1_quantizeDetails cX1_quantizeDetails 10 (some .long) 3 89 [.ref this, .int x] κ σ0 (tql κ fW σ0 (fun (r : Int64) (τ : Gh) => True)) := by
  refine TC.of fW (by decide +kernel) (Nat.le_of_ble_eq_true rfl) ?_
  intro p e s m below meth c ls hcs hK hX hT hl
  obtain ⟨hx, hb, hr, hml, hown, hg, hlocks, hin⟩ := hcs
  have hown : s.vm.findClass RX1 = some m.cls := hown
  have hl : lv_has ls 10 [(0, .ref this), (1, .int x)] := hl
  have hT0 := hT
  have n0 : (0 : Int32).toInt = 0 := by decide
  have j0 : (0 : Int64).toInt = 0 := by decide
  have j2 : (2 : Int64).toInt = 2 := by decide
  have x_lo := Int32.le_toInt x
  have x_hi := Int32.toInt_lt x
  generalize hQ9 : tQ _ _ _ _ _ _ = Q9
  refine lv_lconst (v := 0) hx hb dX1_quantizeDetails_0 (by decide) ?_
  refine lv_lstore_n (lv' := [(2, .long 0), (0, .ref this), (1, .int x)]) hx hb dX1_quantizeDetails_1 rfl hl (by decide) rfl (fun ls hl => ?_)
  refine lv_iconst (v := 0) hx hb dX1_quantizeDetails_2 (by decide) ?_
  refine lv_istore (lv' := [(4, .int 0), (2, .long 0), (0, .ref this), (1, .int x)]) hx hb dX1_quantizeDetails_3 hl (by decide) rfl (fun ls hl => ?_)
  have loop5 : ∀ (n9 : Nat) (i : Int32) (z : Int64) (H : Heap) (locs : List Loc) (sg : Gh) (ls : Array Slot), TS κ fW σ0 sg s H locs → (0 ≤ i.toInt) → (i.toInt ≤ 46) → lv_has ls 10 [(4, .int i), (2, .long z), (0, .ref this), (1, .int x)] → (46 - i.toInt) < n9 → tW p l e 3 89 κ s m #[.ref this, .int x] below meth c H locs Q9 (F0 m 5 ls []) := by
    intro n9
    induction n9 with
    | zero =>
      intro i z H locs sg ls hT q1 q2 hl hm9
      exfalso
      omega
    | succ n9 ih9 =>
      have ih5 := ih9
      clear ih9
      intro i z H locs s1 ls hT q1 q2 hl hm9
      refine lv_iload hx hb dX1_quantizeDetails_5 (lv_at hl 0 rfl) ?_
      refine lv_aload_n hx hb dX1_quantizeDetails_7 rfl (lv_at hl 2 rfl) ?_
      obtain ⟨v2, ev2⟩ : ∃ zz9 : Int32, zI σ0 this 5 = zz9 := ⟨_, rfl⟩
      have qv2 : v2.toInt = (zI σ0 this 5).toInt := by rw [ev2]
      have b3 := (hT.P (hT.k t_this (by decide)) (by decide)).1
      rw [(hT.eI t_this (by decide) rfl ev2)] at b3
      have b3l := b3.1
      have b3h := b3.2
      refine va_get (D := κ.1) (ci := 1) (v := .int (zI s1 this 5)) (C := RX1) (T := TX1) (N := 13) hx hb hg inX1 hown hK (hT.o3 (hT.k t_this (by decide))).one 0 rfl rfl 5 (by decide) (hg _ k287) (fun _ h9 => h9) rfl dX1_quantizeDetails_8 ?_
      rw [(hT.eI t_this (by decide) rfl ev2)]
      refine lv_icmp_ge (tgt := 99) hx hb dX1_quantizeDetails_11 (by decide) (fun c9 => ?_) (fun c9 => ?_)
      · have c1 := gi_le c9
        refine lv_lload_n hx hb dX1_quantizeDetails_99 rfl (lv_at hl 1 rfl) ?_
        subst hQ9
        exact t_l hx hb hr hlocks hT trivial dX1_quantizeDetails_100
      · have c2 := gi_nle c9
        refine lv_aload_n hx hb dX1_quantizeDetails_14 rfl (lv_at hl 2 rfl) ?_
        obtain ⟨r4, er4⟩ : ∃ z, kR κ this 4 = z := ⟨_, rfl⟩
        have tr4 : zk σ0 r4 11 := by rw [← er4]; exact hT0.ref t_this (by decide) (by decide) (by decide)
        refine va_get (D := κ.1) (ci := 1) (v := .ref (kR κ this 4)) (C := RX1) (T := TX1) (N := 13) hx hb hg inX1 hown hK (hT.o3 (hT.k t_this (by decide))).one 0 rfl rfl 4 (by decide) (hg _ k285) (fun _ h9 => h9) rfl dX1_quantizeDetails_15 ?_
        rw [er4]
        refine lv_iload hx hb dX1_quantizeDetails_18 (lv_at hl 0 rfl) ?_
        refine va_aldq hx hb hK (hT.o11 (hT.k tr4 (by decide))).one 0 5 rfl rfl (g_in (by omega) (by omega)) dX1_quantizeDetails_20 ?_
        obtain ⟨r6, er6⟩ : ∃ z, kR κ r4 (ix i) = z := ⟨_, rfl⟩
        have tr6 : zk σ0 r6 2 := by rw [← er6]; exact hT0.ref tr4 (by decide) (zR11 (ix_lt (by omega) (by omega))) (by decide)
        refine tv (.ref r6) (by rw [← er6]; rfl) ?_
        obtain ⟨r7, er7⟩ : ∃ z, kR κ r6 9 = z := ⟨_, rfl⟩
        have tr7 : zk σ0 r7 1 := by rw [← er7]; exact hT0.ref tr6 (by decide) (by decide) (by decide)
        refine va_get (D := κ.1) (ci := 2) (v := .ref (kR κ r6 9)) (C := RX2) (T := TX2) (N := 10) hx hb hg inX2 hown hK (hT.o2 (hT.k tr6 (by decide))).one 0 rfl rfl 9 (by decide) (hg _ k252) (fun _ h9 => h9) rfl dX1_quantizeDetails_21 ?_
        rw [er7]
        refine lv_astore (lv' := [(5, .ref r7), (4, .int i), (2, .long z), (0, .ref this), (1, .int x)]) hx hb dX1_quantizeDetails_24 hl (by decide) rfl (fun ls hl => ?_)
        refine lv_aload hx hb dX1_quantizeDetails_26 (lv_at hl 0 rfl) ?_
        refine lv_iload_n hx hb dX1_quantizeDetails_28 rfl (lv_at hl 4 rfl) ?_
        refine lv_i2l hx hb dX1_quantizeDetails_29 rfl ?_
        refine g_i2l (fun t8 ht8 => ?_)
        obtain ⟨h11, oh11, th11⟩ := hT.o1 (hT.k tr7 (by decide))
        have hTo := hT
        refine tVl (n := 1) (As := [.long t8]) (rest := []) hx hb hml hown hg hT hK hX (X4_restOfAmount l κ s1 r7 t8  (hT.k tr7 (by decide)) ) sub_fE_fW (mwV k1095 k914 k915 k88 k916) ⟨rfl, by decide, by decide, by decide +kernel⟩ ⟨(Nat.le_of_ble_eq_true rfl), (Nat.le_of_ble_eq_true rfl)⟩ oh11 rfl rfl hl.1 rfl (Nat.le_of_ble_eq_true rfl) dX1_quantizeDetails_30 zroom.rf (fun x9 s10 H locs hφ hEs10 hT => ?_)
        refine lv_lstore (lv' := [(6, .long x9), (5, .ref r7), (4, .int i), (2, .long z), (0, .ref this), (1, .int x)]) hx hb dX1_quantizeDetails_33 hl (by decide) rfl (fun ls hl => ?_)
        refine lv_ldc2 hx hb hown (hg _ k1096) dX1_quantizeDetails_35 ?_
        refine lv_lload hx hb dX1_quantizeDetails_38 (lv_at hl 0 rfl) ?_
        refine lv_lmul hx hb dX1_quantizeDetails_40 ?_
        refine lv_topl (fun t12 ht12 => ?_)
        refine lv_iload_n hx hb dX1_quantizeDetails_41 rfl (lv_at hl 5 rfl) ?_
        refine lv_i2l hx hb dX1_quantizeDetails_42 rfl ?_
        refine g_i2l (fun t13 ht13 => ?_)
        refine W.lcmp hx hb dX1_quantizeDetails_43 ?_
        refine lv_if_le (tgt := 55) hx hb dX1_quantizeDetails_44 (by decide) (fun c9 => ?_) (fun c9 => ?_)
        · have c3 := gl_le c9
          refine lv_lload hx hb dX1_quantizeDetails_55 (lv_at hl 0 rfl) ?_
          refine lv_lneg hx hb dX1_quantizeDetails_57 ?_
          refine lv_topl (fun t14 ht14 => ?_)
          refine lv_lstore (lv' := [(8, .long t14), (6, .long x9), (5, .ref r7), (4, .int i), (2, .long z), (0, .ref this), (1, .int x)]) hx hb dX1_quantizeDetails_58 hl (by decide) rfl (fun ls hl => ?_)
          refine lv_aload hx hb dX1_quantizeDetails_60 (lv_at hl 2 rfl) ?_
          refine lv_aload_n hx hb dX1_quantizeDetails_62 rfl (lv_at hl 5 rfl) ?_
          obtain ⟨r15, er15⟩ : ∃ z, kR κ this 10 = z := ⟨_, rfl⟩
          have tr15 : zk σ0 r15 1 := by rw [← er15]; exact hT0.ref t_this (by decide) (by decide) (by decide)
          refine va_get (D := κ.1) (ci := 1) (v := .ref (kR κ this 10)) (C := RX1) (T := TX1) (N := 13) hx hb hg inX1 hown hK (hT.o3 (hT.k t_this (by decide))).one 0 rfl rfl 10 (by decide) (hg _ k297) (fun _ h9 => h9) rfl dX1_quantizeDetails_63 ?_
          rw [er15]
          refine lv_aload hx hb dX1_quantizeDetails_66 (lv_at hl 2 rfl) ?_
          obtain ⟨h18, oh18, th18⟩ := hT.o1 (hT.k tr7 (by decide))
          have hTo := hT
          refine tVi (n := 0) (As := []) (rest := [.ref r15, .ref r7]) hx hb hml hown hg hT hK hX (X4_isBelowZero l κ s10 r7  (hT.k tr7 (by decide)) ) sub_fE_fW (mwV k1080 k1081 k1082 k88 k1083) ⟨rfl, by decide, by decide, by decide +kernel⟩ ⟨(Nat.le_of_ble_eq_true rfl), (Nat.le_of_ble_eq_true rfl)⟩ oh18 rfl rfl hl.1 rfl (Nat.le_of_ble_eq_true rfl) dX1_quantizeDetails_68 zroom.rf (fun x16 s17 H locs hφ hEs17 hT => ?_)
          have f19 := hφ
          refine lv_if_eq (tgt := 80) hx hb dX1_quantizeDetails_71 (by decide) (fun c9 => ?_) (fun c9 => ?_)
          · have c4 := gi_eq c9
            refine lv_lload hx hb dX1_quantizeDetails_80 (lv_at hl 0 rfl) ?_
            obtain ⟨h22, oh22, th22⟩ := hT.o1 (hT.k tr7 (by decide))
            have hTo := hT
            refine tVv (n := 2) (As := [.ref r15, .long t14]) (rest := []) hx hb hml hown hg hT hK hX (X4_add l κ s17 r7 r15 t14  (hT.k tr7 (by decide)) (hT.k tr15 (by decide)) ) (fun _ _ h => h) (mwV k340 k341 k342 k88 k343) ⟨rfl, by decide, by decide, by decide +kernel⟩ ⟨(Nat.le_of_ble_eq_true rfl), (Nat.le_of_ble_eq_true rfl)⟩ oh22 rfl rfl hl.1 rfl (Nat.le_of_ble_eq_true rfl) dX1_quantizeDetails_82 zroom.rf (fun s21 H locs hφ hEs21 hT => ?_)
            refine lv_lload_n hx hb dX1_quantizeDetails_85 rfl (lv_at hl 4 rfl) ?_
            refine lv_lload hx hb dX1_quantizeDetails_86 (lv_at hl 0 rfl) ?_
            refine va_mabs_long hx hb (hml.trans hl.1.symm) hown (hg _ k1097) (hg _ k1098) (hg _ k90) (hg _ k1099) (Nat.le_of_ble_eq_true rfl) (Nat.le_of_ble_eq_true rfl) zroom.rf.2.2.1 zroom.rf.2.2.2 dX1_quantizeDetails_88 ?_
            refine lv_topl (fun t23 ht23 => ?_)
            refine lv_ladd hx hb dX1_quantizeDetails_91 ?_
            refine lv_topl (fun t24 ht24 => ?_)
            refine lv_lstore_n (lv' := [(2, .long t24), (8, .long t14), (6, .long x9), (5, .ref r7), (4, .int i), (0, .ref this), (1, .int x)]) hx hb dX1_quantizeDetails_92 rfl hl (by decide) rfl (fun ls hl => ?_)
            obtain ⟨t25, qt25⟩ : ∃ zz9 : Int32, i + Int32.ofInt 1 = zz9 := ⟨_, rfl⟩
            refine lv_iinc (v := t25) (lv' := [(4, .int t25), (2, .long t24), (8, .long t14), (6, .long x9), (5, .ref r7), (0, .ref this), (1, .int x)]) hx hb dX1_quantizeDetails_93 hl (k := 4) rfl qt25 (by decide) rfl (fun ls hl => ?_)
            have ht25 : t25.toInt = i.toInt + 1 := by rw [← qt25]; exact v_addi rfl (show (Int32.ofInt 1).toInt = 1 from by decide) (by omega) (by omega)
            refine lv_goto (tgt := 5) hx hb dX1_quantizeDetails_96 (by decide) ?_
            exact ih5 t25 t24 _ _ _ _ hT  (by omega) (by omega) (lv_sub hl [0, 1, 5, 6] rfl) (by omega)
          · have c5 := gi_ne c9
            refine lv_lload hx hb dX1_quantizeDetails_74 (lv_at hl 0 rfl) ?_
            refine lv_lneg hx hb dX1_quantizeDetails_76 ?_
            refine lv_topl (fun t26 ht26 => ?_)
            refine lv_goto (tgt := 82) hx hb dX1_quantizeDetails_77 (by decide) ?_
            obtain ⟨h29, oh29, th29⟩ := hT.o1 (hT.k tr7 (by decide))
            have hTo := hT
            refine tVv (n := 2) (As := [.ref r15, .long t26]) (rest := []) hx hb hml hown hg hT hK hX (X4_add l κ s17 r7 r15 t26  (hT.k tr7 (by decide)) (hT.k tr15 (by decide)) ) (fun _ _ h => h) (mwV k340 k341 k342 k88 k343) ⟨rfl, by decide, by decide, by decide +kernel⟩ ⟨(Nat.le_of_ble_eq_true rfl), (Nat.le_of_ble_eq_true rfl)⟩ oh29 rfl rfl hl.1 rfl (Nat.le_of_ble_eq_true rfl) dX1_quantizeDetails_82 zroom.rf (fun s28 H locs hφ hEs28 hT => ?_)
            refine lv_lload_n hx hb dX1_quantizeDetails_85 rfl (lv_at hl 4 rfl) ?_
            refine lv_lload hx hb dX1_quantizeDetails_86 (lv_at hl 0 rfl) ?_
            refine va_mabs_long hx hb (hml.trans hl.1.symm) hown (hg _ k1097) (hg _ k1098) (hg _ k90) (hg _ k1099) (Nat.le_of_ble_eq_true rfl) (Nat.le_of_ble_eq_true rfl) zroom.rf.2.2.1 zroom.rf.2.2.2 dX1_quantizeDetails_88 ?_
            refine lv_topl (fun t30 ht30 => ?_)
            refine lv_ladd hx hb dX1_quantizeDetails_91 ?_
            refine lv_topl (fun t31 ht31 => ?_)
            refine lv_lstore_n (lv' := [(2, .long t31), (8, .long t14), (6, .long x9), (5, .ref r7), (4, .int i), (0, .ref this), (1, .int x)]) hx hb dX1_quantizeDetails_92 rfl hl (by decide) rfl (fun ls hl => ?_)
            obtain ⟨t32, qt32⟩ : ∃ zz9 : Int32, i + Int32.ofInt 1 = zz9 := ⟨_, rfl⟩
            refine lv_iinc (v := t32) (lv' := [(4, .int t32), (2, .long t31), (8, .long t14), (6, .long x9), (5, .ref r7), (0, .ref this), (1, .int x)]) hx hb dX1_quantizeDetails_93 hl (k := 4) rfl qt32 (by decide) rfl (fun ls hl => ?_)
            have ht32 : t32.toInt = i.toInt + 1 := by rw [← qt32]; exact v_addi rfl (show (Int32.ofInt 1).toInt = 1 from by decide) (by omega) (by omega)
            refine lv_goto (tgt := 5) hx hb dX1_quantizeDetails_96 (by decide) ?_
            exact ih5 t32 t31 _ _ _ _ hT  (by omega) (by omega) (lv_sub hl [0, 1, 5, 6] rfl) (by omega)
        · have c6 := gl_nle c9
          refine lv_iload_n hx hb dX1_quantizeDetails_47 rfl (lv_at hl 5 rfl) ?_
          refine lv_i2l hx hb dX1_quantizeDetails_48 rfl ?_
          refine g_i2l (fun t33 ht33 => ?_)
          refine lv_lload hx hb dX1_quantizeDetails_49 (lv_at hl 0 rfl) ?_
          refine lv_lsub hx hb dX1_quantizeDetails_51 ?_
          refine lv_topl (fun t34 ht34 => ?_)
          refine lv_goto (tgt := 58) hx hb dX1_quantizeDetails_52 (by decide) ?_
          refine lv_lstore (lv' := [(8, .long t34), (6, .long x9), (5, .ref r7), (4, .int i), (2, .long z), (0, .ref this), (1, .int x)]) hx hb dX1_quantizeDetails_58 hl (by decide) rfl (fun ls hl => ?_)
          refine lv_aload hx hb dX1_quantizeDetails_60 (lv_at hl 2 rfl) ?_
          refine lv_aload_n hx hb dX1_quantizeDetails_62 rfl (lv_at hl 5 rfl) ?_
          obtain ⟨r35, er35⟩ : ∃ z, kR κ this 10 = z := ⟨_, rfl⟩
          have tr35 : zk σ0 r35 1 := by rw [← er35]; exact hT0.ref t_this (by decide) (by decide) (by decide)
          refine va_get (D := κ.1) (ci := 1) (v := .ref (kR κ this 10)) (C := RX1) (T := TX1) (N := 13) hx hb hg inX1 hown hK (hT.o3 (hT.k t_this (by decide))).one 0 rfl rfl 10 (by decide) (hg _ k297) (fun _ h9 => h9) rfl dX1_quantizeDetails_63 ?_
          rw [er35]
          refine lv_aload hx hb dX1_quantizeDetails_66 (lv_at hl 2 rfl) ?_
          obtain ⟨h38, oh38, th38⟩ := hT.o1 (hT.k tr7 (by decide))
          have hTo := hT
          refine tVi (n := 0) (As := []) (rest := [.ref r35, .ref r7]) hx hb hml hown hg hT hK hX (X4_isBelowZero l κ s10 r7  (hT.k tr7 (by decide)) ) sub_fE_fW (mwV k1080 k1081 k1082 k88 k1083) ⟨rfl, by decide, by decide, by decide +kernel⟩ ⟨(Nat.le_of_ble_eq_true rfl), (Nat.le_of_ble_eq_true rfl)⟩ oh38 rfl rfl hl.1 rfl (Nat.le_of_ble_eq_true rfl) dX1_quantizeDetails_68 zroom.rf (fun x36 s37 H locs hφ hEs37 hT => ?_)
          have f39 := hφ
          refine lv_if_eq (tgt := 80) hx hb dX1_quantizeDetails_71 (by decide) (fun c9 => ?_) (fun c9 => ?_)
          · have c7 := gi_eq c9
            refine lv_lload hx hb dX1_quantizeDetails_80 (lv_at hl 0 rfl) ?_
            obtain ⟨h42, oh42, th42⟩ := hT.o1 (hT.k tr7 (by decide))
            have hTo := hT
            refine tVv (n := 2) (As := [.ref r35, .long t34]) (rest := []) hx hb hml hown hg hT hK hX (X4_add l κ s37 r7 r35 t34  (hT.k tr7 (by decide)) (hT.k tr35 (by decide)) ) (fun _ _ h => h) (mwV k340 k341 k342 k88 k343) ⟨rfl, by decide, by decide, by decide +kernel⟩ ⟨(Nat.le_of_ble_eq_true rfl), (Nat.le_of_ble_eq_true rfl)⟩ oh42 rfl rfl hl.1 rfl (Nat.le_of_ble_eq_true rfl) dX1_quantizeDetails_82 zroom.rf (fun s41 H locs hφ hEs41 hT => ?_)
            refine lv_lload_n hx hb dX1_quantizeDetails_85 rfl (lv_at hl 4 rfl) ?_
            refine lv_lload hx hb dX1_quantizeDetails_86 (lv_at hl 0 rfl) ?_
            refine va_mabs_long hx hb (hml.trans hl.1.symm) hown (hg _ k1097) (hg _ k1098) (hg _ k90) (hg _ k1099) (Nat.le_of_ble_eq_true rfl) (Nat.le_of_ble_eq_true rfl) zroom.rf.2.2.1 zroom.rf.2.2.2 dX1_quantizeDetails_88 ?_
            refine lv_topl (fun t43 ht43 => ?_)
            refine lv_ladd hx hb dX1_quantizeDetails_91 ?_
            refine lv_topl (fun t44 ht44 => ?_)
            refine lv_lstore_n (lv' := [(2, .long t44), (8, .long t34), (6, .long x9), (5, .ref r7), (4, .int i), (0, .ref this), (1, .int x)]) hx hb dX1_quantizeDetails_92 rfl hl (by decide) rfl (fun ls hl => ?_)
            obtain ⟨t45, qt45⟩ : ∃ zz9 : Int32, i + Int32.ofInt 1 = zz9 := ⟨_, rfl⟩
            refine lv_iinc (v := t45) (lv' := [(4, .int t45), (2, .long t44), (8, .long t34), (6, .long x9), (5, .ref r7), (0, .ref this), (1, .int x)]) hx hb dX1_quantizeDetails_93 hl (k := 4) rfl qt45 (by decide) rfl (fun ls hl => ?_)
            have ht45 : t45.toInt = i.toInt + 1 := by rw [← qt45]; exact v_addi rfl (show (Int32.ofInt 1).toInt = 1 from by decide) (by omega) (by omega)
            refine lv_goto (tgt := 5) hx hb dX1_quantizeDetails_96 (by decide) ?_
            exact ih5 t45 t44 _ _ _ _ hT  (by omega) (by omega) (lv_sub hl [0, 1, 5, 6] rfl) (by omega)
          · have c8 := gi_ne c9
            refine lv_lload hx hb dX1_quantizeDetails_74 (lv_at hl 0 rfl) ?_
            refine lv_lneg hx hb dX1_quantizeDetails_76 ?_
            refine lv_topl (fun t46 ht46 => ?_)
            refine lv_goto (tgt := 82) hx hb dX1_quantizeDetails_77 (by decide) ?_
            obtain ⟨h49, oh49, th49⟩ := hT.o1 (hT.k tr7 (by decide))
            have hTo := hT
            refine tVv (n := 2) (As := [.ref r35, .long t46]) (rest := []) hx hb hml hown hg hT hK hX (X4_add l κ s37 r7 r35 t46  (hT.k tr7 (by decide)) (hT.k tr35 (by decide)) ) (fun _ _ h => h) (mwV k340 k341 k342 k88 k343) ⟨rfl, by decide, by decide, by decide +kernel⟩ ⟨(Nat.le_of_ble_eq_true rfl), (Nat.le_of_ble_eq_true rfl)⟩ oh49 rfl rfl hl.1 rfl (Nat.le_of_ble_eq_true rfl) dX1_quantizeDetails_82 zroom.rf (fun s48 H locs hφ hEs48 hT => ?_)
            refine lv_lload_n hx hb dX1_quantizeDetails_85 rfl (lv_at hl 4 rfl) ?_
            refine lv_lload hx hb dX1_quantizeDetails_86 (lv_at hl 0 rfl) ?_
            refine va_mabs_long hx hb (hml.trans hl.1.symm) hown (hg _ k1097) (hg _ k1098) (hg _ k90) (hg _ k1099) (Nat.le_of_ble_eq_true rfl) (Nat.le_of_ble_eq_true rfl) zroom.rf.2.2.1 zroom.rf.2.2.2 dX1_quantizeDetails_88 ?_
            refine lv_topl (fun t50 ht50 => ?_)
            refine lv_ladd hx hb dX1_quantizeDetails_91 ?_
            refine lv_topl (fun t51 ht51 => ?_)
            refine lv_lstore_n (lv' := [(2, .long t51), (8, .long t34), (6, .long x9), (5, .ref r7), (4, .int i), (0, .ref this), (1, .int x)]) hx hb dX1_quantizeDetails_92 rfl hl (by decide) rfl (fun ls hl => ?_)
            obtain ⟨t52, qt52⟩ : ∃ zz9 : Int32, i + Int32.ofInt 1 = zz9 := ⟨_, rfl⟩
            refine lv_iinc (v := t52) (lv' := [(4, .int t52), (2, .long t51), (8, .long t34), (6, .long x9), (5, .ref r7), (0, .ref this), (1, .int x)]) hx hb dX1_quantizeDetails_93 hl (k := 4) rfl qt52 (by decide) rfl (fun ls hl => ?_)
            have ht52 : t52.toInt = i.toInt + 1 := by rw [← qt52]; exact v_addi rfl (show (Int32.ofInt 1).toInt = 1 from by decide) (by omega) (by omega)
            refine lv_goto (tgt := 5) hx hb dX1_quantizeDetails_96 (by decide) ?_
            exact ih5 t52 t51 _ _ _ _ hT  (by omega) (by omega) (lv_sub hl [0, 1, 5, 6] rfl) (by omega)
  exact loop5 ((46 - (0 : Int32).toInt).toNat + 1) 0 0 _ _ _ _ hT  (by omega) (by omega) hl (by omega)
set_option maxHeartbeats 4000000 in
set_option maxRecDepth 100000 in
theorem X1_dropFromRank (l : Launch) (κ : Kt) (σ0 : Gh) (this : Nat) (x : Int32) (t_this : zk σ0 this 3) : TC l yX1_dropFromRank cX1_dropFromRank 6 (some (.object "LiftingSignal$Whole")) 3 84 [.ref this, .int x] κ σ0 (tqr κ fW σ0 (fun (r : Nat) (τ : Gh) => (zk σ0 r 1))) := by
  refine TC.of fW (by decide +kernel) (Nat.le_of_ble_eq_true rfl) ?_
  intro p e s m below meth c ls hcs hK hX hT hl
  obtain ⟨hx, hb, hr, hml, hown, hg, hlocks, hin⟩ := hcs
  have hown : s.vm.findClass RX1 = some m.cls := hown
  have hl : lv_has ls 6 [(0, .ref this), (1, .int x)] := hl
  have hT0 := hT
  have nm1 : ((-1) : Int32).toInt = (-1) := by decide
  have n0 : (0 : Int32).toInt = 0 := by decide
  have j0 : (0 : Int64).toInt = 0 := by decide
  have x_lo := Int32.le_toInt x
  have x_hi := Int32.toInt_lt x
  generalize hQ9 : tQ _ _ _ _ _ _ = Q9
  refine lv_aload_n hx hb dX1_dropFromRank_0 rfl (lv_at hl 0 rfl) ?_
  obtain ⟨r1, er1⟩ : ∃ z, kR κ this 12 = z := ⟨_, rfl⟩
  have tr1 : zk σ0 r1 1 := by rw [← er1]; exact hT0.ref t_this (by decide) (by decide) (by decide)
  refine va_get (D := κ.1) (ci := 1) (v := .ref (kR κ this 12)) (C := RX1) (T := TX1) (N := 13) hx hb hg inX1 hown hK (hT.o3 (hT.k t_this (by decide))).one 0 rfl rfl 12 (by decide) (hg _ k299) (fun _ h9 => h9) rfl dX1_dropFromRank_1 ?_
  rw [er1]
  refine lv_astore_n (lv' := [(2, .ref r1), (0, .ref this), (1, .int x)]) hx hb dX1_dropFromRank_4 rfl hl (by decide) rfl (fun ls hl => ?_)
  refine lv_aload_n hx hb dX1_dropFromRank_5 rfl (lv_at hl 0 rfl) ?_
  refine lv_lconst (v := 0) hx hb dX1_dropFromRank_6 (by decide) ?_
  obtain ⟨h4, oh4, th4⟩ := hT.o1 (hT.k tr1 (by decide))
  have hTo := hT
  refine tVv (n := 1) (As := [.long 0]) (rest := []) hx hb hml hown hg hT hK hX (X4_become l κ σ0 r1 0  (hT.k tr1 (by decide)) ) sub_fX_fW (mwV k274 k275 k276 k88 k277) ⟨rfl, by decide, by decide, by decide +kernel⟩ ⟨(Nat.le_of_ble_eq_true rfl), (Nat.le_of_ble_eq_true rfl)⟩ oh4 rfl rfl hl.1 rfl (Nat.le_of_ble_eq_true rfl) dX1_dropFromRank_7 zroom.rf (fun s3 H locs hφ hEs3 hT => ?_)
  refine lv_aload_n hx hb dX1_dropFromRank_10 rfl (lv_at hl 1 rfl) ?_
  refine lv_iload_n hx hb dX1_dropFromRank_11 rfl (lv_at hl 2 rfl) ?_
  have hTo := hT
  refine tVi (n := 1) (As := [.int x]) (rest := []) hx hb hml hown hg hT hK hX (X1_stepOfRank l κ s3 this x  (hT.k t_this (by decide)) ) sub_fE_fW (mwV k1111 k935 k936 k87 k937) ⟨rfl, by decide, by decide, by decide +kernel⟩ ⟨(Nat.le_of_ble_eq_true rfl), (Nat.le_of_ble_eq_true rfl)⟩ (hT.o3 (hT.k t_this (by decide))) rfl rfl hl.1 rfl (Nat.le_of_ble_eq_true rfl) dX1_dropFromRank_12 zroom.rf (fun x5 s6 H locs hφ hEs6 hT => ?_)
  obtain ⟨f7, f8⟩ := hφ
  refine lv_istore_n (lv' := [(3, .int x5), (2, .ref r1), (0, .ref this), (1, .int x)]) hx hb dX1_dropFromRank_15 rfl hl (by decide) rfl (fun ls hl => ?_)
  refine lv_iload_n hx hb dX1_dropFromRank_16 rfl (lv_at hl 0 rfl) ?_
  refine lv_iconst (v := (-1)) hx hb dX1_dropFromRank_17 (by decide) ?_
  refine lv_icmp_eq (tgt := 38) hx hb dX1_dropFromRank_18 (by decide) (fun c9 => ?_) (fun c9 => ?_)
  · have c1 := gi_eq c9
    refine lv_iconst (v := 0) hx hb dX1_dropFromRank_38 (by decide) ?_
    refine lv_istore (lv' := [(4, .int 0), (3, .int x5), (2, .ref r1), (0, .ref this), (1, .int x)]) hx hb dX1_dropFromRank_39 hl (by decide) rfl (fun ls hl => ?_)
    have loop41 : ∀ (n9 : Nat) (i : Int32) (H : Heap) (locs : List Loc) (sg : Gh) (ls : Array Slot), TS κ fW σ0 sg s H locs → (0 ≤ i.toInt) → (i.toInt ≤ 46) → lv_has ls 6 [(4, .int i), (3, .int x5), (2, .ref r1), (0, .ref this), (1, .int x)] → (46 - i.toInt) < n9 → tW p l e 3 84 κ s m #[.ref this, .int x] below meth c H locs Q9 (F0 m 41 ls []) := by
      intro n9
      induction n9 with
      | zero =>
        intro i H locs sg ls hT q1 q2 hl hm9
        exfalso
        omega
      | succ n9 ih9 =>
        have ih41 := ih9
        clear ih9
        intro i H locs s9 ls hT q1 q2 hl hm9
        refine lv_iload hx hb dX1_dropFromRank_41 (lv_at hl 0 rfl) ?_
        refine lv_aload_n hx hb dX1_dropFromRank_43 rfl (lv_at hl 3 rfl) ?_
        obtain ⟨v10, ev10⟩ : ∃ zz9 : Int32, zI σ0 this 5 = zz9 := ⟨_, rfl⟩
        have qv10 : v10.toInt = (zI σ0 this 5).toInt := by rw [ev10]
        have b11 := (hT.P (hT.k t_this (by decide)) (by decide)).1
        rw [(hT.eI t_this (by decide) rfl ev10)] at b11
        have b11l := b11.1
        have b11h := b11.2
        refine va_get (D := κ.1) (ci := 1) (v := .int (zI s9 this 5)) (C := RX1) (T := TX1) (N := 13) hx hb hg inX1 hown hK (hT.o3 (hT.k t_this (by decide))).one 0 rfl rfl 5 (by decide) (hg _ k287) (fun _ h9 => h9) rfl dX1_dropFromRank_44 ?_
        rw [(hT.eI t_this (by decide) rfl ev10)]
        refine lv_icmp_ge (tgt := 107) hx hb dX1_dropFromRank_47 (by decide) (fun c9 => ?_) (fun c9 => ?_)
        · have c2 := gi_le c9
          refine lv_aload_n hx hb dX1_dropFromRank_107 rfl (lv_at hl 2 rfl) ?_
          subst hQ9
          exact t_r rfl hx hb hr hlocks hT tr1 dX1_dropFromRank_108
        · have c3 := gi_nle c9
          refine lv_iload_n hx hb dX1_dropFromRank_50 rfl (lv_at hl 1 rfl) ?_
          refine lv_iconst (v := (-1)) hx hb dX1_dropFromRank_51 (by decide) ?_
          refine lv_icmp_eq (tgt := 107) hx hb dX1_dropFromRank_52 (by decide) (fun c9 => ?_) (fun c9 => ?_)
          · have c4 := gi_eq c9
            refine lv_aload_n hx hb dX1_dropFromRank_107 rfl (lv_at hl 2 rfl) ?_
            subst hQ9
            exact t_r rfl hx hb hr hlocks hT tr1 dX1_dropFromRank_108
          · have c5 := gi_ne c9
            refine lv_aload_n hx hb dX1_dropFromRank_55 rfl (lv_at hl 3 rfl) ?_
            obtain ⟨r12, er12⟩ : ∃ z, kR κ this 4 = z := ⟨_, rfl⟩
            have tr12 : zk σ0 r12 11 := by rw [← er12]; exact hT0.ref t_this (by decide) (by decide) (by decide)
            refine va_get (D := κ.1) (ci := 1) (v := .ref (kR κ this 4)) (C := RX1) (T := TX1) (N := 13) hx hb hg inX1 hown hK (hT.o3 (hT.k t_this (by decide))).one 0 rfl rfl 4 (by decide) (hg _ k285) (fun _ h9 => h9) rfl dX1_dropFromRank_56 ?_
            rw [er12]
            refine lv_iload hx hb dX1_dropFromRank_59 (lv_at hl 0 rfl) ?_
            refine va_aldq hx hb hK (hT.o11 (hT.k tr12 (by decide))).one 0 5 rfl rfl (g_in (by omega) (by omega)) dX1_dropFromRank_61 ?_
            obtain ⟨r14, er14⟩ : ∃ z, kR κ r12 (ix i) = z := ⟨_, rfl⟩
            have tr14 : zk σ0 r14 2 := by rw [← er14]; exact hT0.ref tr12 (by decide) (zR11 (ix_lt (by omega) (by omega))) (by decide)
            refine tv (.ref r14) (by rw [← er14]; rfl) ?_
            obtain ⟨r15, er15⟩ : ∃ z, kR κ r14 9 = z := ⟨_, rfl⟩
            have tr15 : zk σ0 r15 1 := by rw [← er15]; exact hT0.ref tr14 (by decide) (by decide) (by decide)
            refine va_get (D := κ.1) (ci := 2) (v := .ref (kR κ r14 9)) (C := RX2) (T := TX2) (N := 10) hx hb hg inX2 hown hK (hT.o2 (hT.k tr14 (by decide))).one 0 rfl rfl 9 (by decide) (hg _ k252) (fun _ h9 => h9) rfl dX1_dropFromRank_62 ?_
            rw [er15]
            refine lv_aload_n hx hb dX1_dropFromRank_65 rfl (lv_at hl 2 rfl) ?_
            obtain ⟨h18, oh18, th18⟩ := hT.o1 (hT.k tr15 (by decide))
            have hTo := hT
            refine tVi (n := 1) (As := [.ref r1]) (rest := []) hx hb hml hown hg hT hK hX (X4_compareAmount l κ s9 r15 r1  (hT.k tr15 (by decide)) (hT.k tr1 (by decide)) ) sub_fE_fW (mwV k566 k567 k568 k88 k569) ⟨rfl, by decide, by decide, by decide +kernel⟩ ⟨(Nat.le_of_ble_eq_true rfl), (Nat.le_of_ble_eq_true rfl)⟩ oh18 rfl rfl hl.1 rfl (Nat.le_of_ble_eq_true rfl) dX1_dropFromRank_66 zroom.rf (fun x16 s17 H locs hφ hEs17 hT => ?_)
            refine lv_istore (lv' := [(5, .int x16), (4, .int i), (3, .int x5), (2, .ref r1), (0, .ref this), (1, .int x)]) hx hb dX1_dropFromRank_69 hl (by decide) rfl (fun ls hl => ?_)
            refine lv_iload hx hb dX1_dropFromRank_71 (lv_at hl 0 rfl) ?_
            refine lv_if_lt (tgt := 87) hx hb dX1_dropFromRank_73 (by decide) (fun c9 => ?_) (fun c9 => ?_)
            · have c6 := gi_lt c9
              refine lv_aload_n hx hb dX1_dropFromRank_87 rfl (lv_at hl 4 rfl) ?_
              refine va_get (D := κ.1) (ci := 1) (v := .ref (kR κ this 4)) (C := RX1) (T := TX1) (N := 13) hx hb hg inX1 hown hK (hT.o3 (hT.k t_this (by decide))).one 0 rfl rfl 4 (by decide) (hg _ k285) (fun _ h9 => h9) rfl dX1_dropFromRank_88 ?_
              rw [er12]
              refine lv_iload hx hb dX1_dropFromRank_91 (lv_at hl 1 rfl) ?_
              refine va_aldq hx hb hK (hT.o11 (hT.k tr12 (by decide))).one 0 5 rfl rfl (g_in (by omega) (by omega)) dX1_dropFromRank_93 ?_
              obtain ⟨r20, er20⟩ : ∃ z, kR κ r12 (ix i) = z := ⟨_, rfl⟩
              have tr20 : zk σ0 r20 2 := by rw [← er20]; exact hT0.ref tr12 (by decide) (zR11 (ix_lt (by omega) (by omega))) (by decide)
              refine tv (.ref r20) (by rw [← er20]; rfl) ?_
              obtain ⟨r21, er21⟩ : ∃ z, kR κ r20 9 = z := ⟨_, rfl⟩
              have tr21 : zk σ0 r21 1 := by rw [← er21]; exact hT0.ref tr20 (by decide) (by decide) (by decide)
              refine va_get (D := κ.1) (ci := 2) (v := .ref (kR κ r20 9)) (C := RX2) (T := TX2) (N := 10) hx hb hg inX2 hown hK (hT.o2 (hT.k tr20 (by decide))).one 0 rfl rfl 9 (by decide) (hg _ k252) (fun _ h9 => h9) rfl dX1_dropFromRank_94 ?_
              rw [er21]
              refine lv_lconst (v := 0) hx hb dX1_dropFromRank_97 (by decide) ?_
              obtain ⟨h24, oh24, th24⟩ := hT.o1 (hT.k tr21 (by decide))
              have hTo := hT
              refine tVv (n := 1) (As := [.long 0]) (rest := []) hx hb hml hown hg hT hK hX (X4_become l κ s17 r21 0  (hT.k tr21 (by decide)) ) sub_fX_fW (mwV k274 k275 k276 k88 k277) ⟨rfl, by decide, by decide, by decide +kernel⟩ ⟨(Nat.le_of_ble_eq_true rfl), (Nat.le_of_ble_eq_true rfl)⟩ oh24 rfl rfl hl.1 rfl (Nat.le_of_ble_eq_true rfl) dX1_dropFromRank_98 zroom.rf (fun s23 H locs hφ hEs23 hT => ?_)
              obtain ⟨t25, qt25⟩ : ∃ zz9 : Int32, i + Int32.ofInt 1 = zz9 := ⟨_, rfl⟩
              refine lv_iinc (v := t25) (lv' := [(4, .int t25), (5, .int x16), (3, .int x5), (2, .ref r1), (0, .ref this), (1, .int x)]) hx hb dX1_dropFromRank_101 hl (k := 1) rfl qt25 (by decide) rfl (fun ls hl => ?_)
              have ht25 : t25.toInt = i.toInt + 1 := by rw [← qt25]; exact v_addi rfl (show (Int32.ofInt 1).toInt = 1 from by decide) (by omega) (by omega)
              refine lv_goto (tgt := 41) hx hb dX1_dropFromRank_104 (by decide) ?_
              exact ih41 t25 _ _ _ _ hT  (by omega) (by omega) (lv_sub hl [0, 2, 3, 4, 5] rfl) (by omega)
            · have c7 := gi_nlt c9
              refine lv_iload hx hb dX1_dropFromRank_76 (lv_at hl 0 rfl) ?_
              refine lv_if_ne (tgt := 101) hx hb dX1_dropFromRank_78 (by decide) (fun c9 => ?_) (fun c9 => ?_)
              · have c8 := gi_ne c9
                obtain ⟨t26, qt26⟩ : ∃ zz9 : Int32, i + Int32.ofInt 1 = zz9 := ⟨_, rfl⟩
                refine lv_iinc (v := t26) (lv' := [(4, .int t26), (5, .int x16), (3, .int x5), (2, .ref r1), (0, .ref this), (1, .int x)]) hx hb dX1_dropFromRank_101 hl (k := 1) rfl qt26 (by decide) rfl (fun ls hl => ?_)
                have ht26 : t26.toInt = i.toInt + 1 := by rw [← qt26]; exact v_addi rfl (show (Int32.ofInt 1).toInt = 1 from by decide) (by omega) (by omega)
                refine lv_goto (tgt := 41) hx hb dX1_dropFromRank_104 (by decide) ?_
                exact ih41 t26 _ _ _ _ hT  (by omega) (by omega) (lv_sub hl [0, 2, 3, 4, 5] rfl) (by omega)
              · have c9 := gi_eq c9
                refine lv_iload hx hb dX1_dropFromRank_81 (lv_at hl 1 rfl) ?_
                refine lv_iload_n hx hb dX1_dropFromRank_83 rfl (lv_at hl 2 rfl) ?_
                refine lv_icmp_lt (tgt := 101) hx hb dX1_dropFromRank_84 (by decide) (fun c9 => ?_) (fun c9 => ?_)
                · have c10 := gi_lt c9
                  obtain ⟨t27, qt27⟩ : ∃ zz9 : Int32, i + Int32.ofInt 1 = zz9 := ⟨_, rfl⟩
                  refine lv_iinc (v := t27) (lv' := [(4, .int t27), (5, .int x16), (3, .int x5), (2, .ref r1), (0, .ref this), (1, .int x)]) hx hb dX1_dropFromRank_101 hl (k := 1) rfl qt27 (by decide) rfl (fun ls hl => ?_)
                  have ht27 : t27.toInt = i.toInt + 1 := by rw [← qt27]; exact v_addi rfl (show (Int32.ofInt 1).toInt = 1 from by decide) (by omega) (by omega)
                  refine lv_goto (tgt := 41) hx hb dX1_dropFromRank_104 (by decide) ?_
                  exact ih41 t27 _ _ _ _ hT  (by omega) (by omega) (lv_sub hl [0, 2, 3, 4, 5] rfl) (by omega)
                · have c11 := gi_nlt c9
                  refine lv_aload_n hx hb dX1_dropFromRank_87 rfl (lv_at hl 4 rfl) ?_
                  refine va_get (D := κ.1) (ci := 1) (v := .ref (kR κ this 4)) (C := RX1) (T := TX1) (N := 13) hx hb hg inX1 hown hK (hT.o3 (hT.k t_this (by decide))).one 0 rfl rfl 4 (by decide) (hg _ k285) (fun _ h9 => h9) rfl dX1_dropFromRank_88 ?_
                  rw [er12]
                  refine lv_iload hx hb dX1_dropFromRank_91 (lv_at hl 1 rfl) ?_
                  refine va_aldq hx hb hK (hT.o11 (hT.k tr12 (by decide))).one 0 5 rfl rfl (g_in (by omega) (by omega)) dX1_dropFromRank_93 ?_
                  obtain ⟨r29, er29⟩ : ∃ z, kR κ r12 (ix i) = z := ⟨_, rfl⟩
                  have tr29 : zk σ0 r29 2 := by rw [← er29]; exact hT0.ref tr12 (by decide) (zR11 (ix_lt (by omega) (by omega))) (by decide)
                  refine tv (.ref r29) (by rw [← er29]; rfl) ?_
                  obtain ⟨r30, er30⟩ : ∃ z, kR κ r29 9 = z := ⟨_, rfl⟩
                  have tr30 : zk σ0 r30 1 := by rw [← er30]; exact hT0.ref tr29 (by decide) (by decide) (by decide)
                  refine va_get (D := κ.1) (ci := 2) (v := .ref (kR κ r29 9)) (C := RX2) (T := TX2) (N := 10) hx hb hg inX2 hown hK (hT.o2 (hT.k tr29 (by decide))).one 0 rfl rfl 9 (by decide) (hg _ k252) (fun _ h9 => h9) rfl dX1_dropFromRank_94 ?_
                  rw [er30]
                  refine lv_lconst (v := 0) hx hb dX1_dropFromRank_97 (by decide) ?_
                  obtain ⟨h33, oh33, th33⟩ := hT.o1 (hT.k tr30 (by decide))
                  have hTo := hT
                  refine tVv (n := 1) (As := [.long 0]) (rest := []) hx hb hml hown hg hT hK hX (X4_become l κ s17 r30 0  (hT.k tr30 (by decide)) ) sub_fX_fW (mwV k274 k275 k276 k88 k277) ⟨rfl, by decide, by decide, by decide +kernel⟩ ⟨(Nat.le_of_ble_eq_true rfl), (Nat.le_of_ble_eq_true rfl)⟩ oh33 rfl rfl hl.1 rfl (Nat.le_of_ble_eq_true rfl) dX1_dropFromRank_98 zroom.rf (fun s32 H locs hφ hEs32 hT => ?_)
                  obtain ⟨t34, qt34⟩ : ∃ zz9 : Int32, i + Int32.ofInt 1 = zz9 := ⟨_, rfl⟩
                  refine lv_iinc (v := t34) (lv' := [(4, .int t34), (5, .int x16), (3, .int x5), (2, .ref r1), (0, .ref this), (1, .int x)]) hx hb dX1_dropFromRank_101 hl (k := 1) rfl qt34 (by decide) rfl (fun ls hl => ?_)
                  have ht34 : t34.toInt = i.toInt + 1 := by rw [← qt34]; exact v_addi rfl (show (Int32.ofInt 1).toInt = 1 from by decide) (by omega) (by omega)
                  refine lv_goto (tgt := 41) hx hb dX1_dropFromRank_104 (by decide) ?_
                  exact ih41 t34 _ _ _ _ hT  (by omega) (by omega) (lv_sub hl [0, 2, 3, 4, 5] rfl) (by omega)
    exact loop41 ((46 - (0 : Int32).toInt).toNat + 1) 0 _ _ _ _ hT  (by omega) (by omega) hl (by omega)
  · have c12 := gi_ne c9
    refine lv_aload_n hx hb dX1_dropFromRank_21 rfl (lv_at hl 1 rfl) ?_
    refine lv_aload_n hx hb dX1_dropFromRank_22 rfl (lv_at hl 2 rfl) ?_
    obtain ⟨r35, er35⟩ : ∃ z, kR κ this 4 = z := ⟨_, rfl⟩
    have tr35 : zk σ0 r35 11 := by rw [← er35]; exact hT0.ref t_this (by decide) (by decide) (by decide)
    refine va_get (D := κ.1) (ci := 1) (v := .ref (kR κ this 4)) (C := RX1) (T := TX1) (N := 13) hx hb hg inX1 hown hK (hT.o3 (hT.k t_this (by decide))).one 0 rfl rfl 4 (by decide) (hg _ k285) (fun _ h9 => h9) rfl dX1_dropFromRank_23 ?_
    rw [er35]
    refine lv_iload_n hx hb dX1_dropFromRank_26 rfl (lv_at hl 0 rfl) ?_
    refine va_aldq hx hb hK (hT.o11 (hT.k tr35 (by decide))).one 0 5 rfl rfl (g_in (by omega) (by omega)) dX1_dropFromRank_27 ?_
    obtain ⟨r37, er37⟩ : ∃ z, kR κ r35 (ix x5) = z := ⟨_, rfl⟩
    have tr37 : zk σ0 r37 2 := by rw [← er37]; exact hT0.ref tr35 (by decide) (zR11 (ix_lt (by omega) (by omega))) (by decide)
    refine tv (.ref r37) (by rw [← er37]; rfl) ?_
    obtain ⟨r38, er38⟩ : ∃ z, kR κ r37 9 = z := ⟨_, rfl⟩
    have tr38 : zk σ0 r38 1 := by rw [← er38]; exact hT0.ref tr37 (by decide) (by decide) (by decide)
    refine va_get (D := κ.1) (ci := 2) (v := .ref (kR κ r37 9)) (C := RX2) (T := TX2) (N := 10) hx hb hg inX2 hown hK (hT.o2 (hT.k tr37 (by decide))).one 0 rfl rfl 9 (by decide) (hg _ k252) (fun _ h9 => h9) rfl dX1_dropFromRank_28 ?_
    rw [er38]
    obtain ⟨h41, oh41, th41⟩ := hT.o1 (hT.k tr1 (by decide))
    have hTo := hT
    refine tVv (n := 1) (As := [.ref r38]) (rest := []) hx hb hml hown hg hT hK hX (X4_copyFrom l κ s6 r1 r38  (hT.k tr1 (by decide)) (hT.k tr38 (by decide)) ) (fun _ _ h => h) (mwV k455 k456 k457 k88 k458) ⟨rfl, by decide, by decide, by decide +kernel⟩ ⟨(Nat.le_of_ble_eq_true rfl), (Nat.le_of_ble_eq_true rfl)⟩ oh41 rfl rfl hl.1 rfl (Nat.le_of_ble_eq_true rfl) dX1_dropFromRank_31 zroom.rf (fun s40 H locs hφ hEs40 hT => ?_)
    refine lv_aload_n hx hb dX1_dropFromRank_34 rfl (lv_at hl 1 rfl) ?_
    obtain ⟨h44, oh44, th44⟩ := hT.o1 (hT.k tr1 (by decide))
    have hTo := hT
    refine tVv (n := 0) (As := []) (rest := []) hx hb hml hown hg hT hK hX (X4_dropSign l κ s40 r1  (hT.k tr1 (by decide)) ) sub_fX_fW (mwV k1112 k1113 k1114 k88 k1115) ⟨rfl, by decide, by decide, by decide +kernel⟩ ⟨(Nat.le_of_ble_eq_true rfl), (Nat.le_of_ble_eq_true rfl)⟩ oh44 rfl rfl hl.1 rfl (Nat.le_of_ble_eq_true rfl) dX1_dropFromRank_35 zroom.rf (fun s43 H locs hφ hEs43 hT => ?_)
    refine lv_iconst (v := 0) hx hb dX1_dropFromRank_38 (by decide) ?_
    refine lv_istore (lv' := [(4, .int 0), (3, .int x5), (2, .ref r1), (0, .ref this), (1, .int x)]) hx hb dX1_dropFromRank_39 hl (by decide) rfl (fun ls hl => ?_)
    have loop41 : ∀ (n9 : Nat) (i : Int32) (H : Heap) (locs : List Loc) (sg : Gh) (ls : Array Slot), TS κ fW σ0 sg s H locs → (0 ≤ i.toInt) → (i.toInt ≤ 46) → lv_has ls 6 [(4, .int i), (3, .int x5), (2, .ref r1), (0, .ref this), (1, .int x)] → (46 - i.toInt) < n9 → tW p l e 3 84 κ s m #[.ref this, .int x] below meth c H locs Q9 (F0 m 41 ls []) := by
      intro n9
      induction n9 with
      | zero =>
        intro i H locs sg ls hT q1 q2 hl hm9
        exfalso
        omega
      | succ n9 ih9 =>
        have ih41 := ih9
        clear ih9
        intro i H locs s45 ls hT q1 q2 hl hm9
        refine lv_iload hx hb dX1_dropFromRank_41 (lv_at hl 0 rfl) ?_
        refine lv_aload_n hx hb dX1_dropFromRank_43 rfl (lv_at hl 3 rfl) ?_
        obtain ⟨v46, ev46⟩ : ∃ zz9 : Int32, zI σ0 this 5 = zz9 := ⟨_, rfl⟩
        have qv46 : v46.toInt = (zI σ0 this 5).toInt := by rw [ev46]
        have b47 := (hT.P (hT.k t_this (by decide)) (by decide)).1
        rw [(hT.eI t_this (by decide) rfl ev46)] at b47
        have b47l := b47.1
        have b47h := b47.2
        refine va_get (D := κ.1) (ci := 1) (v := .int (zI s45 this 5)) (C := RX1) (T := TX1) (N := 13) hx hb hg inX1 hown hK (hT.o3 (hT.k t_this (by decide))).one 0 rfl rfl 5 (by decide) (hg _ k287) (fun _ h9 => h9) rfl dX1_dropFromRank_44 ?_
        rw [(hT.eI t_this (by decide) rfl ev46)]
        refine lv_icmp_ge (tgt := 107) hx hb dX1_dropFromRank_47 (by decide) (fun c9 => ?_) (fun c9 => ?_)
        · have c13 := gi_le c9
          refine lv_aload_n hx hb dX1_dropFromRank_107 rfl (lv_at hl 2 rfl) ?_
          subst hQ9
          exact t_r rfl hx hb hr hlocks hT tr1 dX1_dropFromRank_108
        · have c14 := gi_nle c9
          refine lv_iload_n hx hb dX1_dropFromRank_50 rfl (lv_at hl 1 rfl) ?_
          refine lv_iconst (v := (-1)) hx hb dX1_dropFromRank_51 (by decide) ?_
          refine lv_icmp_eq (tgt := 107) hx hb dX1_dropFromRank_52 (by decide) (fun c9 => ?_) (fun c9 => ?_)
          · have c15 := gi_eq c9
            refine lv_aload_n hx hb dX1_dropFromRank_107 rfl (lv_at hl 2 rfl) ?_
            subst hQ9
            exact t_r rfl hx hb hr hlocks hT tr1 dX1_dropFromRank_108
          · have c16 := gi_ne c9
            refine lv_aload_n hx hb dX1_dropFromRank_55 rfl (lv_at hl 3 rfl) ?_
            refine va_get (D := κ.1) (ci := 1) (v := .ref (kR κ this 4)) (C := RX1) (T := TX1) (N := 13) hx hb hg inX1 hown hK (hT.o3 (hT.k t_this (by decide))).one 0 rfl rfl 4 (by decide) (hg _ k285) (fun _ h9 => h9) rfl dX1_dropFromRank_56 ?_
            rw [er35]
            refine lv_iload hx hb dX1_dropFromRank_59 (lv_at hl 0 rfl) ?_
            refine va_aldq hx hb hK (hT.o11 (hT.k tr35 (by decide))).one 0 5 rfl rfl (g_in (by omega) (by omega)) dX1_dropFromRank_61 ?_
            obtain ⟨r49, er49⟩ : ∃ z, kR κ r35 (ix i) = z := ⟨_, rfl⟩
            have tr49 : zk σ0 r49 2 := by rw [← er49]; exact hT0.ref tr35 (by decide) (zR11 (ix_lt (by omega) (by omega))) (by decide)
            refine tv (.ref r49) (by rw [← er49]; rfl) ?_
            obtain ⟨r50, er50⟩ : ∃ z, kR κ r49 9 = z := ⟨_, rfl⟩
            have tr50 : zk σ0 r50 1 := by rw [← er50]; exact hT0.ref tr49 (by decide) (by decide) (by decide)
            refine va_get (D := κ.1) (ci := 2) (v := .ref (kR κ r49 9)) (C := RX2) (T := TX2) (N := 10) hx hb hg inX2 hown hK (hT.o2 (hT.k tr49 (by decide))).one 0 rfl rfl 9 (by decide) (hg _ k252) (fun _ h9 => h9) rfl dX1_dropFromRank_62 ?_
            rw [er50]
            refine lv_aload_n hx hb dX1_dropFromRank_65 rfl (lv_at hl 2 rfl) ?_
            obtain ⟨h53, oh53, th53⟩ := hT.o1 (hT.k tr50 (by decide))
            have hTo := hT
            refine tVi (n := 1) (As := [.ref r1]) (rest := []) hx hb hml hown hg hT hK hX (X4_compareAmount l κ s45 r50 r1  (hT.k tr50 (by decide)) (hT.k tr1 (by decide)) ) sub_fE_fW (mwV k566 k567 k568 k88 k569) ⟨rfl, by decide, by decide, by decide +kernel⟩ ⟨(Nat.le_of_ble_eq_true rfl), (Nat.le_of_ble_eq_true rfl)⟩ oh53 rfl rfl hl.1 rfl (Nat.le_of_ble_eq_true rfl) dX1_dropFromRank_66 zroom.rf (fun x51 s52 H locs hφ hEs52 hT => ?_)
            refine lv_istore (lv' := [(5, .int x51), (4, .int i), (3, .int x5), (2, .ref r1), (0, .ref this), (1, .int x)]) hx hb dX1_dropFromRank_69 hl (by decide) rfl (fun ls hl => ?_)
            refine lv_iload hx hb dX1_dropFromRank_71 (lv_at hl 0 rfl) ?_
            refine lv_if_lt (tgt := 87) hx hb dX1_dropFromRank_73 (by decide) (fun c9 => ?_) (fun c9 => ?_)
            · have c17 := gi_lt c9
              refine lv_aload_n hx hb dX1_dropFromRank_87 rfl (lv_at hl 4 rfl) ?_
              refine va_get (D := κ.1) (ci := 1) (v := .ref (kR κ this 4)) (C := RX1) (T := TX1) (N := 13) hx hb hg inX1 hown hK (hT.o3 (hT.k t_this (by decide))).one 0 rfl rfl 4 (by decide) (hg _ k285) (fun _ h9 => h9) rfl dX1_dropFromRank_88 ?_
              rw [er35]
              refine lv_iload hx hb dX1_dropFromRank_91 (lv_at hl 1 rfl) ?_
              refine va_aldq hx hb hK (hT.o11 (hT.k tr35 (by decide))).one 0 5 rfl rfl (g_in (by omega) (by omega)) dX1_dropFromRank_93 ?_
              obtain ⟨r55, er55⟩ : ∃ z, kR κ r35 (ix i) = z := ⟨_, rfl⟩
              have tr55 : zk σ0 r55 2 := by rw [← er55]; exact hT0.ref tr35 (by decide) (zR11 (ix_lt (by omega) (by omega))) (by decide)
              refine tv (.ref r55) (by rw [← er55]; rfl) ?_
              obtain ⟨r56, er56⟩ : ∃ z, kR κ r55 9 = z := ⟨_, rfl⟩
              have tr56 : zk σ0 r56 1 := by rw [← er56]; exact hT0.ref tr55 (by decide) (by decide) (by decide)
              refine va_get (D := κ.1) (ci := 2) (v := .ref (kR κ r55 9)) (C := RX2) (T := TX2) (N := 10) hx hb hg inX2 hown hK (hT.o2 (hT.k tr55 (by decide))).one 0 rfl rfl 9 (by decide) (hg _ k252) (fun _ h9 => h9) rfl dX1_dropFromRank_94 ?_
              rw [er56]
              refine lv_lconst (v := 0) hx hb dX1_dropFromRank_97 (by decide) ?_
              obtain ⟨h59, oh59, th59⟩ := hT.o1 (hT.k tr56 (by decide))
              have hTo := hT
              refine tVv (n := 1) (As := [.long 0]) (rest := []) hx hb hml hown hg hT hK hX (X4_become l κ s52 r56 0  (hT.k tr56 (by decide)) ) sub_fX_fW (mwV k274 k275 k276 k88 k277) ⟨rfl, by decide, by decide, by decide +kernel⟩ ⟨(Nat.le_of_ble_eq_true rfl), (Nat.le_of_ble_eq_true rfl)⟩ oh59 rfl rfl hl.1 rfl (Nat.le_of_ble_eq_true rfl) dX1_dropFromRank_98 zroom.rf (fun s58 H locs hφ hEs58 hT => ?_)
              obtain ⟨t60, qt60⟩ : ∃ zz9 : Int32, i + Int32.ofInt 1 = zz9 := ⟨_, rfl⟩
              refine lv_iinc (v := t60) (lv' := [(4, .int t60), (5, .int x51), (3, .int x5), (2, .ref r1), (0, .ref this), (1, .int x)]) hx hb dX1_dropFromRank_101 hl (k := 1) rfl qt60 (by decide) rfl (fun ls hl => ?_)
              have ht60 : t60.toInt = i.toInt + 1 := by rw [← qt60]; exact v_addi rfl (show (Int32.ofInt 1).toInt = 1 from by decide) (by omega) (by omega)
              refine lv_goto (tgt := 41) hx hb dX1_dropFromRank_104 (by decide) ?_
              exact ih41 t60 _ _ _ _ hT  (by omega) (by omega) (lv_sub hl [0, 2, 3, 4, 5] rfl) (by omega)
            · have c18 := gi_nlt c9
              refine lv_iload hx hb dX1_dropFromRank_76 (lv_at hl 0 rfl) ?_
              refine lv_if_ne (tgt := 101) hx hb dX1_dropFromRank_78 (by decide) (fun c9 => ?_) (fun c9 => ?_)
              · have c19 := gi_ne c9
                obtain ⟨t61, qt61⟩ : ∃ zz9 : Int32, i + Int32.ofInt 1 = zz9 := ⟨_, rfl⟩
                refine lv_iinc (v := t61) (lv' := [(4, .int t61), (5, .int x51), (3, .int x5), (2, .ref r1), (0, .ref this), (1, .int x)]) hx hb dX1_dropFromRank_101 hl (k := 1) rfl qt61 (by decide) rfl (fun ls hl => ?_)
                have ht61 : t61.toInt = i.toInt + 1 := by rw [← qt61]; exact v_addi rfl (show (Int32.ofInt 1).toInt = 1 from by decide) (by omega) (by omega)
                refine lv_goto (tgt := 41) hx hb dX1_dropFromRank_104 (by decide) ?_
                exact ih41 t61 _ _ _ _ hT  (by omega) (by omega) (lv_sub hl [0, 2, 3, 4, 5] rfl) (by omega)
              · have c20 := gi_eq c9
                refine lv_iload hx hb dX1_dropFromRank_81 (lv_at hl 1 rfl) ?_
                refine lv_iload_n hx hb dX1_dropFromRank_83 rfl (lv_at hl 2 rfl) ?_
                refine lv_icmp_lt (tgt := 101) hx hb dX1_dropFromRank_84 (by decide) (fun c9 => ?_) (fun c9 => ?_)
                · have c21 := gi_lt c9
                  obtain ⟨t62, qt62⟩ : ∃ zz9 : Int32, i + Int32.ofInt 1 = zz9 := ⟨_, rfl⟩
                  refine lv_iinc (v := t62) (lv' := [(4, .int t62), (5, .int x51), (3, .int x5), (2, .ref r1), (0, .ref this), (1, .int x)]) hx hb dX1_dropFromRank_101 hl (k := 1) rfl qt62 (by decide) rfl (fun ls hl => ?_)
                  have ht62 : t62.toInt = i.toInt + 1 := by rw [← qt62]; exact v_addi rfl (show (Int32.ofInt 1).toInt = 1 from by decide) (by omega) (by omega)
                  refine lv_goto (tgt := 41) hx hb dX1_dropFromRank_104 (by decide) ?_
                  exact ih41 t62 _ _ _ _ hT  (by omega) (by omega) (lv_sub hl [0, 2, 3, 4, 5] rfl) (by omega)
                · have c22 := gi_nlt c9
                  refine lv_aload_n hx hb dX1_dropFromRank_87 rfl (lv_at hl 4 rfl) ?_
                  refine va_get (D := κ.1) (ci := 1) (v := .ref (kR κ this 4)) (C := RX1) (T := TX1) (N := 13) hx hb hg inX1 hown hK (hT.o3 (hT.k t_this (by decide))).one 0 rfl rfl 4 (by decide) (hg _ k285) (fun _ h9 => h9) rfl dX1_dropFromRank_88 ?_
                  rw [er35]
                  refine lv_iload hx hb dX1_dropFromRank_91 (lv_at hl 1 rfl) ?_
                  refine va_aldq hx hb hK (hT.o11 (hT.k tr35 (by decide))).one 0 5 rfl rfl (g_in (by omega) (by omega)) dX1_dropFromRank_93 ?_
                  obtain ⟨r64, er64⟩ : ∃ z, kR κ r35 (ix i) = z := ⟨_, rfl⟩
                  have tr64 : zk σ0 r64 2 := by rw [← er64]; exact hT0.ref tr35 (by decide) (zR11 (ix_lt (by omega) (by omega))) (by decide)
                  refine tv (.ref r64) (by rw [← er64]; rfl) ?_
                  obtain ⟨r65, er65⟩ : ∃ z, kR κ r64 9 = z := ⟨_, rfl⟩
                  have tr65 : zk σ0 r65 1 := by rw [← er65]; exact hT0.ref tr64 (by decide) (by decide) (by decide)
                  refine va_get (D := κ.1) (ci := 2) (v := .ref (kR κ r64 9)) (C := RX2) (T := TX2) (N := 10) hx hb hg inX2 hown hK (hT.o2 (hT.k tr64 (by decide))).one 0 rfl rfl 9 (by decide) (hg _ k252) (fun _ h9 => h9) rfl dX1_dropFromRank_94 ?_
                  rw [er65]
                  refine lv_lconst (v := 0) hx hb dX1_dropFromRank_97 (by decide) ?_
                  obtain ⟨h68, oh68, th68⟩ := hT.o1 (hT.k tr65 (by decide))
                  have hTo := hT
                  refine tVv (n := 1) (As := [.long 0]) (rest := []) hx hb hml hown hg hT hK hX (X4_become l κ s52 r65 0  (hT.k tr65 (by decide)) ) sub_fX_fW (mwV k274 k275 k276 k88 k277) ⟨rfl, by decide, by decide, by decide +kernel⟩ ⟨(Nat.le_of_ble_eq_true rfl), (Nat.le_of_ble_eq_true rfl)⟩ oh68 rfl rfl hl.1 rfl (Nat.le_of_ble_eq_true rfl) dX1_dropFromRank_98 zroom.rf (fun s67 H locs hφ hEs67 hT => ?_)
                  obtain ⟨t69, qt69⟩ : ∃ zz9 : Int32, i + Int32.ofInt 1 = zz9 := ⟨_, rfl⟩
                  refine lv_iinc (v := t69) (lv' := [(4, .int t69), (5, .int x51), (3, .int x5), (2, .ref r1), (0, .ref this), (1, .int x)]) hx hb dX1_dropFromRank_101 hl (k := 1) rfl qt69 (by decide) rfl (fun ls hl => ?_)
                  have ht69 : t69.toInt = i.toInt + 1 := by rw [← qt69]; exact v_addi rfl (show (Int32.ofInt 1).toInt = 1 from by decide) (by omega) (by omega)
                  refine lv_goto (tgt := 41) hx hb dX1_dropFromRank_104 (by decide) ?_
                  exact ih41 t69 _ _ _ _ hT  (by omega) (by omega) (lv_sub hl [0, 2, 3, 4, 5] rfl) (by omega)
    exact loop41 ((46 - (0 : Int32).toInt).toNat + 1) 0 _ _ _ _ hT  (by omega) (by omega) hl (by omega)
set_option maxHeartbeats 4000000 in
set_option maxRecDepth 100000 in
theorem X1_greatestAmountBelow (l : Launch) (κ : Kt) (σ0 : Gh) (this : Nat) (f : Int64) (t_this : zk σ0 this 3) : TC l yX1_greatestAmountBelow cX1_greatestAmountBelow 6 (some .long) 3 66 [.ref this, .long f] κ σ0 (tql κ fE σ0 (fun (r : Int64) (τ : Gh) => True)) := by
  refine TC.of fE (by decide +kernel) (Nat.le_of_ble_eq_true rfl) ?_
  intro p e s m below meth c ls hcs hK hX hT hl
  obtain ⟨hx, hb, hr, hml, hown, hg, hlocks, hin⟩ := hcs
  have hown : s.vm.findClass RX1 = some m.cls := hown
  have hl : lv_has ls 6 [(0, .ref this), (1, .long f)] := hl
  have hT0 := hT
  have n0 : (0 : Int32).toInt = 0 := by decide
  have jm1 : ((-1) : Int64).toInt = (-1) := by decide
  generalize hQ9 : tQ _ _ _ _ _ _ = Q9
  refine lv_ldc2 hx hb hown (hg _ k550) dX1_greatestAmountBelow_0 ?_
  refine lv_lstore_n (lv' := [(3, .long (-1)), (0, .ref this), (1, .long f)]) hx hb dX1_greatestAmountBelow_3 rfl hl (by decide) rfl (fun ls hl => ?_)
  refine lv_iconst (v := 0) hx hb dX1_greatestAmountBelow_4 (by decide) ?_
  refine lv_istore (lv' := [(5, .int 0), (3, .long (-1)), (0, .ref this), (1, .long f)]) hx hb dX1_greatestAmountBelow_5 hl (by decide) rfl (fun ls hl => ?_)
  have loop7 : ∀ (n9 : Nat) (i : Int32) (z : Int64) (H : Heap) (locs : List Loc) (sg : Gh) (ls : Array Slot), TS κ fE σ0 sg s H locs → (0 ≤ i.toInt) → (i.toInt ≤ 46) → lv_has ls 6 [(5, .int i), (3, .long z), (0, .ref this), (1, .long f)] → (46 - i.toInt) < n9 → tW p l e 3 66 κ s m #[.ref this, .long f] below meth c H locs Q9 (F0 m 7 ls []) := by
    intro n9
    induction n9 with
    | zero =>
      intro i z H locs sg ls hT q1 q2 hl hm9
      exfalso
      omega
    | succ n9 ih9 =>
      have ih7 := ih9
      clear ih9
      intro i z H locs s1 ls hT q1 q2 hl hm9
      refine lv_iload hx hb dX1_greatestAmountBelow_7 (lv_at hl 0 rfl) ?_
      refine lv_aload_n hx hb dX1_greatestAmountBelow_9 rfl (lv_at hl 2 rfl) ?_
      obtain ⟨v2, ev2⟩ : ∃ zz9 : Int32, zI σ0 this 5 = zz9 := ⟨_, rfl⟩
      have qv2 : v2.toInt = (zI σ0 this 5).toInt := by rw [ev2]
      have b3 := (hT.P (hT.k t_this (by decide)) (by decide)).1
      rw [(hT.eI t_this (by decide) rfl ev2)] at b3
      have b3l := b3.1
      have b3h := b3.2
      refine va_get (D := κ.1) (ci := 1) (v := .int (zI s1 this 5)) (C := RX1) (T := TX1) (N := 13) hx hb hg inX1 hown hK (hT.o3 (hT.k t_this (by decide))).one 0 rfl rfl 5 (by decide) (hg _ k287) (fun _ h9 => h9) rfl dX1_greatestAmountBelow_10 ?_
      rw [(hT.eI t_this (by decide) rfl ev2)]
      refine lv_icmp_ge (tgt := 60) hx hb dX1_greatestAmountBelow_13 (by decide) (fun c9 => ?_) (fun c9 => ?_)
      · have c1 := gi_le c9
        refine lv_lload_n hx hb dX1_greatestAmountBelow_60 rfl (lv_at hl 1 rfl) ?_
        subst hQ9
        exact t_l hx hb hr hlocks hT trivial dX1_greatestAmountBelow_61
      · have c2 := gi_nle c9
        refine lv_aload_n hx hb dX1_greatestAmountBelow_16 rfl (lv_at hl 2 rfl) ?_
        obtain ⟨r4, er4⟩ : ∃ z, kR κ this 4 = z := ⟨_, rfl⟩
        have tr4 : zk σ0 r4 11 := by rw [← er4]; exact hT0.ref t_this (by decide) (by decide) (by decide)
        refine va_get (D := κ.1) (ci := 1) (v := .ref (kR κ this 4)) (C := RX1) (T := TX1) (N := 13) hx hb hg inX1 hown hK (hT.o3 (hT.k t_this (by decide))).one 0 rfl rfl 4 (by decide) (hg _ k285) (fun _ h9 => h9) rfl dX1_greatestAmountBelow_17 ?_
        rw [er4]
        refine lv_iload hx hb dX1_greatestAmountBelow_20 (lv_at hl 0 rfl) ?_
        refine va_aldq hx hb hK (hT.o11 (hT.k tr4 (by decide))).one 0 5 rfl rfl (g_in (by omega) (by omega)) dX1_greatestAmountBelow_22 ?_
        obtain ⟨r6, er6⟩ : ∃ z, kR κ r4 (ix i) = z := ⟨_, rfl⟩
        have tr6 : zk σ0 r6 2 := by rw [← er6]; exact hT0.ref tr4 (by decide) (zR11 (ix_lt (by omega) (by omega))) (by decide)
        refine tv (.ref r6) (by rw [← er6]; rfl) ?_
        obtain ⟨r7, er7⟩ : ∃ z, kR κ r6 9 = z := ⟨_, rfl⟩
        have tr7 : zk σ0 r7 1 := by rw [← er7]; exact hT0.ref tr6 (by decide) (by decide) (by decide)
        refine va_get (D := κ.1) (ci := 2) (v := .ref (kR κ r6 9)) (C := RX2) (T := TX2) (N := 10) hx hb hg inX2 hown hK (hT.o2 (hT.k tr6 (by decide))).one 0 rfl rfl 9 (by decide) (hg _ k252) (fun _ h9 => h9) rfl dX1_greatestAmountBelow_23 ?_
        rw [er7]
        refine lv_lload_n hx hb dX1_greatestAmountBelow_26 rfl (lv_at hl 3 rfl) ?_
        obtain ⟨h10, oh10, th10⟩ := hT.o1 (hT.k tr7 (by decide))
        have hTo := hT
        refine tVi (n := 1) (As := [.long f]) (rest := []) hx hb hml hown hg hT hK hX (X4_isAmountBelow l κ s1 r7 f  (hT.k tr7 (by decide)) ) (fun _ _ h => h) (mwV k1076 k1077 k1078 k88 k1079) ⟨rfl, by decide, by decide, by decide +kernel⟩ ⟨(Nat.le_of_ble_eq_true rfl), (Nat.le_of_ble_eq_true rfl)⟩ oh10 rfl rfl hl.1 rfl (Nat.le_of_ble_eq_true rfl) dX1_greatestAmountBelow_27 zroom.rf (fun x8 s9 H locs hφ hEs9 hT => ?_)
        have f11 := hφ
        refine lv_if_eq (tgt := 54) hx hb dX1_greatestAmountBelow_30 (by decide) (fun c9 => ?_) (fun c9 => ?_)
        · have c3 := gi_eq c9
          obtain ⟨t12, qt12⟩ : ∃ zz9 : Int32, i + Int32.ofInt 1 = zz9 := ⟨_, rfl⟩
          refine lv_iinc (v := t12) (lv' := [(5, .int t12), (3, .long z), (0, .ref this), (1, .long f)]) hx hb dX1_greatestAmountBelow_54 hl (k := 0) rfl qt12 (by decide) rfl (fun ls hl => ?_)
          have ht12 : t12.toInt = i.toInt + 1 := by rw [← qt12]; exact v_addi rfl (show (Int32.ofInt 1).toInt = 1 from by decide) (by omega) (by omega)
          refine lv_goto (tgt := 7) hx hb dX1_greatestAmountBelow_57 (by decide) ?_
          exact ih7 t12 z _ _ _ _ hT  (by omega) (by omega) hl (by omega)
        · have c4 := gi_ne c9
          refine lv_lload_n hx hb dX1_greatestAmountBelow_33 rfl (lv_at hl 1 rfl) ?_
          refine lv_aload_n hx hb dX1_greatestAmountBelow_34 rfl (lv_at hl 2 rfl) ?_
          refine va_get (D := κ.1) (ci := 1) (v := .ref (kR κ this 4)) (C := RX1) (T := TX1) (N := 13) hx hb hg inX1 hown hK (hT.o3 (hT.k t_this (by decide))).one 0 rfl rfl 4 (by decide) (hg _ k285) (fun _ h9 => h9) rfl dX1_greatestAmountBelow_35 ?_
          rw [er4]
          refine lv_iload hx hb dX1_greatestAmountBelow_38 (lv_at hl 0 rfl) ?_
          refine va_aldq hx hb hK (hT.o11 (hT.k tr4 (by decide))).one 0 5 rfl rfl (g_in (by omega) (by omega)) dX1_greatestAmountBelow_40 ?_
          obtain ⟨r14, er14⟩ : ∃ z, kR κ r4 (ix i) = z := ⟨_, rfl⟩
          have tr14 : zk σ0 r14 2 := by rw [← er14]; exact hT0.ref tr4 (by decide) (zR11 (ix_lt (by omega) (by omega))) (by decide)
          refine tv (.ref r14) (by rw [← er14]; rfl) ?_
          obtain ⟨r15, er15⟩ : ∃ z, kR κ r14 9 = z := ⟨_, rfl⟩
          have tr15 : zk σ0 r15 1 := by rw [← er15]; exact hT0.ref tr14 (by decide) (by decide) (by decide)
          refine va_get (D := κ.1) (ci := 2) (v := .ref (kR κ r14 9)) (C := RX2) (T := TX2) (N := 10) hx hb hg inX2 hown hK (hT.o2 (hT.k tr14 (by decide))).one 0 rfl rfl 9 (by decide) (hg _ k252) (fun _ h9 => h9) rfl dX1_greatestAmountBelow_41 ?_
          rw [er15]
          obtain ⟨h18, oh18, th18⟩ := hT.o1 (hT.k tr15 (by decide))
          have hTo := hT
          refine tVl (n := 0) (As := []) (rest := [.long z]) hx hb hml hown hg hT hK hX (X4_toLong l κ s9 r15  (hT.k tr15 (by decide)) ) (fun _ _ h => h) (mwV k500 k436 k437 k88 k438) ⟨rfl, by decide, by decide, by decide +kernel⟩ ⟨(Nat.le_of_ble_eq_true rfl), (Nat.le_of_ble_eq_true rfl)⟩ oh18 rfl rfl hl.1 rfl (Nat.le_of_ble_eq_true rfl) dX1_greatestAmountBelow_44 zroom.rf (fun x16 s17 H locs hφ hEs17 hT => ?_)
          refine va_mabs_long hx hb (hml.trans hl.1.symm) hown (hg _ k1097) (hg _ k1098) (hg _ k90) (hg _ k1099) (Nat.le_of_ble_eq_true rfl) (Nat.le_of_ble_eq_true rfl) zroom.rf.2.2.1 zroom.rf.2.2.2 dX1_greatestAmountBelow_47 ?_
          refine lv_topl (fun t19 ht19 => ?_)
          refine va_mmax_long hx hb (hml.trans hl.1.symm) hown (hg _ k1173) (hg _ k921) (hg _ k90) (hg _ k922) (Nat.le_of_ble_eq_true rfl) (Nat.le_of_ble_eq_true rfl) zroom.rf.2.2.1 zroom.rf.2.2.2 dX1_greatestAmountBelow_50 ?_
          refine mmaxl_t (fun t20 ht20 => ?_)
          refine lv_lstore_n (lv' := [(3, .long t20), (5, .int i), (0, .ref this), (1, .long f)]) hx hb dX1_greatestAmountBelow_53 rfl hl (by decide) rfl (fun ls hl => ?_)
          obtain ⟨t21, qt21⟩ : ∃ zz9 : Int32, i + Int32.ofInt 1 = zz9 := ⟨_, rfl⟩
          refine lv_iinc (v := t21) (lv' := [(5, .int t21), (3, .long t20), (0, .ref this), (1, .long f)]) hx hb dX1_greatestAmountBelow_54 hl (k := 1) rfl qt21 (by decide) rfl (fun ls hl => ?_)
          have ht21 : t21.toInt = i.toInt + 1 := by rw [← qt21]; exact v_addi rfl (show (Int32.ofInt 1).toInt = 1 from by decide) (by omega) (by omega)
          refine lv_goto (tgt := 7) hx hb dX1_greatestAmountBelow_57 (by decide) ?_
          exact ih7 t21 t20 _ _ _ _ hT  (by omega) (by omega) hl (by omega)
  exact loop7 ((46 - (0 : Int32).toInt).toNat + 1) 0 (-1) _ _ _ _ hT  (by omega) (by omega) hl (by omega)
set_option maxHeartbeats 4000000 in
set_option maxRecDepth 100000 in
theorem X1_differenceInto (l : Launch) (κ : Kt) (σ0 : Gh) (this : Nat) (into : Nat) (i : Int32) (t_this : zk σ0 this 3) (t_into : zk σ0 into 1) (h0 : 0 ≤ i.toInt) (h1 : i.toInt ≤ 47) : TC l yX1_differenceInto cX1_differenceInto 3 none 3 89 [.ref this, .ref into, .int i] κ σ0 (tqv κ fW σ0 (fun (τ : Gh) => True)) := by
  refine TC.of fW (by decide +kernel) (Nat.le_of_ble_eq_true rfl) ?_
  intro p e s m below meth c ls hcs hK hX hT hl
  obtain ⟨hx, hb, hr, hml, hown, hg, hlocks, hin⟩ := hcs
  have hown : s.vm.findClass RX1 = some m.cls := hown
  have hl : lv_has ls 3 [(0, .ref this), (1, .ref into), (2, .int i)] := hl
  have hT0 := hT
  have i_lo := Int32.le_toInt i
  have i_hi := Int32.toInt_lt i
  generalize hQ9 : tQ _ _ _ _ _ _ = Q9
  refine lv_aload_n hx hb dX1_differenceInto_0 rfl (lv_at hl 1 rfl) ?_
  refine lv_aload_n hx hb dX1_differenceInto_1 rfl (lv_at hl 0 rfl) ?_
  obtain ⟨r1, er1⟩ : ∃ z, kR κ this 1 = z := ⟨_, rfl⟩
  have tr1 : zk σ0 r1 10 := by rw [← er1]; exact hT0.ref t_this (by decide) (by decide) (by decide)
  refine va_get (D := κ.1) (ci := 1) (v := .ref (kR κ this 1)) (C := RX1) (T := TX1) (N := 13) hx hb hg inX1 hown hK (hT.o3 (hT.k t_this (by decide))).one 0 rfl rfl 1 (by decide) (hg _ k279) (fun _ h9 => h9) rfl dX1_differenceInto_2 ?_
  rw [er1]
  refine lv_iload_n hx hb dX1_differenceInto_5 rfl (lv_at hl 2 rfl) ?_
  refine va_aldq hx hb hK (hT.o10 (hT.k tr1 (by decide))).one 0 4 rfl rfl (g_in (by omega) (by omega)) dX1_differenceInto_6 ?_
  obtain ⟨r3, er3⟩ : ∃ z, kR κ r1 (ix i) = z := ⟨_, rfl⟩
  have tr3 : zk σ0 r3 1 := by rw [← er3]; exact hT0.ref tr1 (by decide) (zR10 (ix_lt (by omega) (by omega))) (by decide)
  refine tv (.ref r3) (by rw [← er3]; rfl) ?_
  obtain ⟨h6, oh6, th6⟩ := hT.o1 (hT.k t_into (by decide))
  have hTo := hT
  refine tVv (n := 1) (As := [.ref r3]) (rest := []) hx hb hml hown hg hT hK hX (X4_copyFrom l κ σ0 into r3  (hT.k t_into (by decide)) (hT.k tr3 (by decide)) ) (fun _ _ h => h) (mwV k455 k456 k457 k88 k458) ⟨rfl, by decide, by decide, by decide +kernel⟩ ⟨(Nat.le_of_ble_eq_true rfl), (Nat.le_of_ble_eq_true rfl)⟩ oh6 rfl rfl hl.1 rfl (Nat.le_of_ble_eq_true rfl) dX1_differenceInto_7 zroom.rf (fun s5 H locs hφ hEs5 hT => ?_)
  refine lv_aload_n hx hb dX1_differenceInto_10 rfl (lv_at hl 1 rfl) ?_
  refine lv_aload_n hx hb dX1_differenceInto_11 rfl (lv_at hl 0 rfl) ?_
  obtain ⟨r7, er7⟩ : ∃ z, kR κ this 10 = z := ⟨_, rfl⟩
  have tr7 : zk σ0 r7 1 := by rw [← er7]; exact hT0.ref t_this (by decide) (by decide) (by decide)
  refine va_get (D := κ.1) (ci := 1) (v := .ref (kR κ this 10)) (C := RX1) (T := TX1) (N := 13) hx hb hg inX1 hown hK (hT.o3 (hT.k t_this (by decide))).one 0 rfl rfl 10 (by decide) (hg _ k297) (fun _ h9 => h9) rfl dX1_differenceInto_12 ?_
  rw [er7]
  refine lv_aload_n hx hb dX1_differenceInto_15 rfl (lv_at hl 0 rfl) ?_
  obtain ⟨r8, er8⟩ : ∃ z, kR κ this 0 = z := ⟨_, rfl⟩
  have tr8 : zk σ0 r8 4 := by rw [← er8]; exact hT0.ref t_this (by decide) (by decide) (by decide)
  refine va_get (D := κ.1) (ci := 1) (v := .ref (kR κ this 0)) (C := RX1) (T := TX1) (N := 13) hx hb hg inX1 hown hK (hT.o3 (hT.k t_this (by decide))).one 0 rfl rfl 0 (by decide) (hg _ k278) (fun _ h9 => h9) rfl dX1_differenceInto_16 ?_
  rw [er8]
  obtain ⟨r9, er9⟩ : ∃ z, kR κ r8 1 = z := ⟨_, rfl⟩
  have tr9 : zk σ0 r9 16 := by rw [← er9]; exact hT0.ref tr8 (by decide) (by decide) (by decide)
  refine va_get (D := κ.1) (ci := 0) (v := .ref (kR κ r8 1)) (C := RX0) (T := TX0) (N := 7) hx hb hg inX0 hown hK (hT.o4 (hT.k tr8 (by decide))).one 0 rfl rfl 1 (by decide) (hg _ k159) (fun _ h9 => h9) rfl dX1_differenceInto_19 ?_
  rw [er9]
  refine lv_iload_n hx hb dX1_differenceInto_22 rfl (lv_at hl 2 rfl) ?_
  refine va_iald hx hb hK (hT.o16 (hT.k tr9 (by decide))).one 0 0 rfl rfl (g_in (by omega) (by omega)) dX1_differenceInto_23 ?_
  refine lv_topi (fun t10 ht10 => ?_)
  refine lv_ineg hx hb dX1_differenceInto_24 ?_
  refine lv_topi (fun t11 ht11 => ?_)
  refine lv_i2l hx hb dX1_differenceInto_25 rfl ?_
  refine g_i2l (fun t12 ht12 => ?_)
  obtain ⟨h15, oh15, th15⟩ := hT.o1 (hT.k t_into (by decide))
  have hTo := hT
  refine tVv (n := 2) (As := [.ref r7, .long t12]) (rest := []) hx hb hml hown hg hT hK hX (X4_add l κ s5 into r7 t12  (hT.k t_into (by decide)) (hT.k tr7 (by decide)) ) (fun _ _ h => h) (mwV k340 k341 k342 k88 k343) ⟨rfl, by decide, by decide, by decide +kernel⟩ ⟨(Nat.le_of_ble_eq_true rfl), (Nat.le_of_ble_eq_true rfl)⟩ oh15 rfl rfl hl.1 rfl (Nat.le_of_ble_eq_true rfl) dX1_differenceInto_26 zroom.rf (fun s14 H locs hφ hEs14 hT => ?_)
  refine lv_aload_n hx hb dX1_differenceInto_29 rfl (lv_at hl 1 rfl) ?_
  obtain ⟨h18, oh18, th18⟩ := hT.o1 (hT.k t_into (by decide))
  have hTo := hT
  refine tVv (n := 0) (As := []) (rest := []) hx hb hml hown hg hT hK hX (X4_dropSign l κ s14 into  (hT.k t_into (by decide)) ) sub_fX_fW (mwV k1112 k1113 k1114 k88 k1115) ⟨rfl, by decide, by decide, by decide +kernel⟩ ⟨(Nat.le_of_ble_eq_true rfl), (Nat.le_of_ble_eq_true rfl)⟩ oh18 rfl rfl hl.1 rfl (Nat.le_of_ble_eq_true rfl) dX1_differenceInto_30 zroom.rf (fun s17 H locs hφ hEs17 hT => ?_)
  subst hQ9
  exact t_v hx hb hr hlocks hT trivial dX1_differenceInto_33
set_option maxHeartbeats 4000000 in
set_option maxRecDepth 100000 in
theorem X1_greatestDifference (l : Launch) (κ : Kt) (σ0 : Gh) (this : Nat) (t_this : zk σ0 this 3) : TC l yX1_greatestDifference cX1_greatestDifference 2 (some (.object "LiftingSignal$Whole")) 4 111 [.ref this] κ σ0 (tqr κ fW σ0 (fun (r : Nat) (τ : Gh) => (zk σ0 r 1))) := by
  refine TC.of fW (by decide +kernel) (Nat.le_of_ble_eq_true rfl) ?_
  intro p e s m below meth c ls hcs hK hX hT hl
  obtain ⟨hx, hb, hr, hml, hown, hg, hlocks, hin⟩ := hcs
  have hown : s.vm.findClass RX1 = some m.cls := hown
  have hl : lv_has ls 2 [(0, .ref this)] := hl
  have hT0 := hT
  have n0 : (0 : Int32).toInt = 0 := by decide
  have j0 : (0 : Int64).toInt = 0 := by decide
  generalize hQ9 : tQ _ _ _ _ _ _ = Q9
  obtain ⟨src, esrc⟩ : ∃ z, kR κ this 0 = z := ⟨_, rfl⟩
  have tsrc : zk σ0 src 4 := by rw [← esrc]; exact hT0.ref t_this (by decide) (by decide) (by decide)
  have bsrc := (hT0.P tsrc (by decide)).1
  have bsrcl := bsrc.1
  have bsrch := bsrc.2
  refine lv_aload_n hx hb dX1_greatestDifference_0 rfl (lv_at hl 0 rfl) ?_
  obtain ⟨r1, er1⟩ : ∃ z, kR κ this 12 = z := ⟨_, rfl⟩
  have tr1 : zk σ0 r1 1 := by rw [← er1]; exact hT0.ref t_this (by decide) (by decide) (by decide)
  refine va_get (D := κ.1) (ci := 1) (v := .ref (kR κ this 12)) (C := RX1) (T := TX1) (N := 13) hx hb hg inX1 hown hK (hT.o3 (hT.k t_this (by decide))).one 0 rfl rfl 12 (by decide) (hg _ k299) (fun _ h9 => h9) rfl dX1_greatestDifference_1 ?_
  rw [er1]
  refine lv_lconst (v := 0) hx hb dX1_greatestDifference_4 (by decide) ?_
  obtain ⟨h4, oh4, th4⟩ := hT.o1 (hT.k tr1 (by decide))
  have hTo := hT
  refine tVv (n := 1) (As := [.long 0]) (rest := []) hx hb hml hown hg hT hK hX (X4_become l κ σ0 r1 0  (hT.k tr1 (by decide)) ) sub_fX_fW (mwV k274 k275 k276 k88 k277) ⟨rfl, by decide, by decide, by decide +kernel⟩ ⟨(Nat.le_of_ble_eq_true rfl), (Nat.le_of_ble_eq_true rfl)⟩ oh4 rfl rfl hl.1 rfl (Nat.le_of_ble_eq_true rfl) dX1_greatestDifference_5 zroom.rf (fun s3 H locs hφ hEs3 hT => ?_)
  refine lv_iconst (v := 0) hx hb dX1_greatestDifference_8 (by decide) ?_
  refine lv_istore_n (lv' := [(1, .int 0), (0, .ref this)]) hx hb dX1_greatestDifference_9 rfl hl (by decide) rfl (fun ls hl => ?_)
  have loop10 : ∀ (n9 : Nat) (i : Int32) (H : Heap) (locs : List Loc) (sg : Gh) (ls : Array Slot), TS κ fW σ0 sg s H locs → (0 ≤ i.toInt) → (i.toInt ≤ (zI σ0 src 2).toInt) → lv_has ls 2 [(1, .int i), (0, .ref this)] → ((zI σ0 src 2).toInt - i.toInt) < n9 → tW p l e 4 111 κ s m #[.ref this] below meth c H locs Q9 (F0 m 10 ls []) := by
    intro n9
    induction n9 with
    | zero =>
      intro i H locs sg ls hT q1 q2 hl hm9
      exfalso
      omega
    | succ n9 ih9 =>
      have ih10 := ih9
      clear ih9
      intro i H locs s5 ls hT q1 q2 hl hm9
      refine lv_iload_n hx hb dX1_greatestDifference_10 rfl (lv_at hl 0 rfl) ?_
      refine lv_aload_n hx hb dX1_greatestDifference_11 rfl (lv_at hl 1 rfl) ?_
      refine va_get (D := κ.1) (ci := 1) (v := .ref (kR κ this 0)) (C := RX1) (T := TX1) (N := 13) hx hb hg inX1 hown hK (hT.o3 (hT.k t_this (by decide))).one 0 rfl rfl 0 (by decide) (hg _ k278) (fun _ h9 => h9) rfl dX1_greatestDifference_12 ?_
      rw [esrc]
      obtain ⟨v6, ev6⟩ : ∃ zz9 : Int32, zI σ0 src 2 = zz9 := ⟨_, rfl⟩
      have qv6 : v6.toInt = (zI σ0 src 2).toInt := by rw [ev6]
      have b7 := (hT.P (hT.k tsrc (by decide)) (by decide)).1
      rw [(hT.eI tsrc (by decide) rfl ev6)] at b7
      have b7l := b7.1
      have b7h := b7.2
      refine va_get (D := κ.1) (ci := 0) (v := .int (zI s5 src 2)) (C := RX0) (T := TX0) (N := 7) hx hb hg inX0 hown hK (hT.o4 (hT.k tsrc (by decide))).one 0 rfl rfl 2 (by decide) (hg _ k162) (fun _ h9 => h9) rfl dX1_greatestDifference_15 ?_
      rw [(hT.eI tsrc (by decide) rfl ev6)]
      refine lv_icmp_ge (tgt := 61) hx hb dX1_greatestDifference_18 (by decide) (fun c9 => ?_) (fun c9 => ?_)
      · have c1 := gi_le c9
        refine lv_aload_n hx hb dX1_greatestDifference_61 rfl (lv_at hl 1 rfl) ?_
        refine va_get (D := κ.1) (ci := 1) (v := .ref (kR κ this 12)) (C := RX1) (T := TX1) (N := 13) hx hb hg inX1 hown hK (hT.o3 (hT.k t_this (by decide))).one 0 rfl rfl 12 (by decide) (hg _ k299) (fun _ h9 => h9) rfl dX1_greatestDifference_62 ?_
        rw [er1]
        subst hQ9
        exact t_r rfl hx hb hr hlocks hT tr1 dX1_greatestDifference_65
      · have c2 := gi_nle c9
        refine lv_aload_n hx hb dX1_greatestDifference_21 rfl (lv_at hl 1 rfl) ?_
        refine lv_aload_n hx hb dX1_greatestDifference_22 rfl (lv_at hl 1 rfl) ?_
        obtain ⟨r8, er8⟩ : ∃ z, kR κ this 11 = z := ⟨_, rfl⟩
        have tr8 : zk σ0 r8 1 := by rw [← er8]; exact hT0.ref t_this (by decide) (by decide) (by decide)
        refine va_get (D := κ.1) (ci := 1) (v := .ref (kR κ this 11)) (C := RX1) (T := TX1) (N := 13) hx hb hg inX1 hown hK (hT.o3 (hT.k t_this (by decide))).one 0 rfl rfl 11 (by decide) (hg _ k298) (fun _ h9 => h9) rfl dX1_greatestDifference_23 ?_
        rw [er8]
        refine lv_iload_n hx hb dX1_greatestDifference_26 rfl (lv_at hl 0 rfl) ?_
        have hTo := hT
        refine tVv (n := 2) (As := [.ref r8, .int i]) (rest := []) hx hb hml hown hg hT hK hX (X1_differenceInto l κ s5 this r8 i  (hT.k t_this (by decide)) (hT.k tr8 (by decide)) (by omega) (by omega)) (fun _ _ h => h) (mwV k1137 k1139 k32 k87 k1140) ⟨rfl, by decide, by decide, by decide +kernel⟩ ⟨(Nat.le_of_ble_eq_true rfl), (Nat.le_of_ble_eq_true rfl)⟩ (hT.o3 (hT.k t_this (by decide))) rfl rfl hl.1 rfl (Nat.le_of_ble_eq_true rfl) dX1_greatestDifference_27 zroom.rf (fun s10 H locs hφ hEs10 hT => ?_)
        refine lv_aload_n hx hb dX1_greatestDifference_30 rfl (lv_at hl 1 rfl) ?_
        refine va_get (D := κ.1) (ci := 1) (v := .ref (kR κ this 11)) (C := RX1) (T := TX1) (N := 13) hx hb hg inX1 hown hK (hT.o3 (hT.k t_this (by decide))).one 0 rfl rfl 11 (by decide) (hg _ k298) (fun _ h9 => h9) rfl dX1_greatestDifference_31 ?_
        rw [er8]
        refine lv_aload_n hx hb dX1_greatestDifference_34 rfl (lv_at hl 1 rfl) ?_
        refine va_get (D := κ.1) (ci := 1) (v := .ref (kR κ this 12)) (C := RX1) (T := TX1) (N := 13) hx hb hg inX1 hown hK (hT.o3 (hT.k t_this (by decide))).one 0 rfl rfl 12 (by decide) (hg _ k299) (fun _ h9 => h9) rfl dX1_greatestDifference_35 ?_
        rw [er1]
        obtain ⟨h13, oh13, th13⟩ := hT.o1 (hT.k tr8 (by decide))
        have hTo := hT
        refine tVi (n := 1) (As := [.ref r1]) (rest := []) hx hb hml hown hg hT hK hX (X4_compareAmount l κ s10 r8 r1  (hT.k tr8 (by decide)) (hT.k tr1 (by decide)) ) sub_fE_fW (mwV k566 k567 k568 k88 k569) ⟨rfl, by decide, by decide, by decide +kernel⟩ ⟨(Nat.le_of_ble_eq_true rfl), (Nat.le_of_ble_eq_true rfl)⟩ oh13 rfl rfl hl.1 rfl (Nat.le_of_ble_eq_true rfl) dX1_greatestDifference_38 zroom.rf (fun x11 s12 H locs hφ hEs12 hT => ?_)
        refine lv_if_le (tgt := 55) hx hb dX1_greatestDifference_41 (by decide) (fun c9 => ?_) (fun c9 => ?_)
        · have c3 := gi_le c9
          obtain ⟨t14, qt14⟩ : ∃ zz9 : Int32, i + Int32.ofInt 1 = zz9 := ⟨_, rfl⟩
          refine lv_iinc (v := t14) (lv' := [(1, .int t14), (0, .ref this)]) hx hb dX1_greatestDifference_55 hl (k := 0) rfl qt14 (by decide) rfl (fun ls hl => ?_)
          have ht14 : t14.toInt = i.toInt + 1 := by rw [← qt14]; exact v_addi rfl (show (Int32.ofInt 1).toInt = 1 from by decide) (by omega) (by omega)
          refine lv_goto (tgt := 10) hx hb dX1_greatestDifference_58 (by decide) ?_
          exact ih10 t14 _ _ _ _ hT  (by omega) (by omega) hl (by omega)
        · have c4 := gi_nle c9
          refine lv_aload_n hx hb dX1_greatestDifference_44 rfl (lv_at hl 1 rfl) ?_
          refine va_get (D := κ.1) (ci := 1) (v := .ref (kR κ this 12)) (C := RX1) (T := TX1) (N := 13) hx hb hg inX1 hown hK (hT.o3 (hT.k t_this (by decide))).one 0 rfl rfl 12 (by decide) (hg _ k299) (fun _ h9 => h9) rfl dX1_greatestDifference_45 ?_
          rw [er1]
          refine lv_aload_n hx hb dX1_greatestDifference_48 rfl (lv_at hl 1 rfl) ?_
          refine va_get (D := κ.1) (ci := 1) (v := .ref (kR κ this 11)) (C := RX1) (T := TX1) (N := 13) hx hb hg inX1 hown hK (hT.o3 (hT.k t_this (by decide))).one 0 rfl rfl 11 (by decide) (hg _ k298) (fun _ h9 => h9) rfl dX1_greatestDifference_49 ?_
          rw [er8]
          obtain ⟨h17, oh17, th17⟩ := hT.o1 (hT.k tr1 (by decide))
          have hTo := hT
          refine tVv (n := 1) (As := [.ref r8]) (rest := []) hx hb hml hown hg hT hK hX (X4_copyFrom l κ s12 r1 r8  (hT.k tr1 (by decide)) (hT.k tr8 (by decide)) ) (fun _ _ h => h) (mwV k455 k456 k457 k88 k458) ⟨rfl, by decide, by decide, by decide +kernel⟩ ⟨(Nat.le_of_ble_eq_true rfl), (Nat.le_of_ble_eq_true rfl)⟩ oh17 rfl rfl hl.1 rfl (Nat.le_of_ble_eq_true rfl) dX1_greatestDifference_52 zroom.rf (fun s16 H locs hφ hEs16 hT => ?_)
          obtain ⟨t18, qt18⟩ : ∃ zz9 : Int32, i + Int32.ofInt 1 = zz9 := ⟨_, rfl⟩
          refine lv_iinc (v := t18) (lv' := [(1, .int t18), (0, .ref this)]) hx hb dX1_greatestDifference_55 hl (k := 0) rfl qt18 (by decide) rfl (fun ls hl => ?_)
          have ht18 : t18.toInt = i.toInt + 1 := by rw [← qt18]; exact v_addi rfl (show (Int32.ofInt 1).toInt = 1 from by decide) (by omega) (by omega)
          refine lv_goto (tgt := 10) hx hb dX1_greatestDifference_58 (by decide) ?_
          exact ih10 t18 _ _ _ _ hT  (by omega) (by omega) hl (by omega)
  exact loop10 (((zI σ0 src 2).toInt - (0 : Int32).toInt).toNat + 1) 0 _ _ _ _ hT  (by omega) (by omega) hl (by omega)
set_option maxHeartbeats 4000000 in
set_option maxRecDepth 100000 in
theorem X1_differenceSum (l : Launch) (κ : Kt) (σ0 : Gh) (this : Nat) (t_this : zk σ0 this 3) : TC l yX1_differenceSum cX1_differenceSum 2 (some (.object "LiftingSignal$Whole")) 4 111 [.ref this] κ σ0 (tqr κ fW σ0 (fun (r : Nat) (τ : Gh) => (zk σ0 r 1))) := by
  refine TC.of fW (by decide +kernel) (Nat.le_of_ble_eq_true rfl) ?_
  intro p e s m below meth c ls hcs hK hX hT hl
  obtain ⟨hx, hb, hr, hml, hown, hg, hlocks, hin⟩ := hcs
  have hown : s.vm.findClass RX1 = some m.cls := hown
  have hl : lv_has ls 2 [(0, .ref this)] := hl
  have hT0 := hT
  have n0 : (0 : Int32).toInt = 0 := by decide
  have j0 : (0 : Int64).toInt = 0 := by decide
  have j1 : (1 : Int64).toInt = 1 := by decide
  generalize hQ9 : tQ _ _ _ _ _ _ = Q9
  obtain ⟨src, esrc⟩ : ∃ z, kR κ this 0 = z := ⟨_, rfl⟩
  have tsrc : zk σ0 src 4 := by rw [← esrc]; exact hT0.ref t_this (by decide) (by decide) (by decide)
  have bsrc := (hT0.P tsrc (by decide)).1
  have bsrcl := bsrc.1
  have bsrch := bsrc.2
  refine lv_aload_n hx hb dX1_differenceSum_0 rfl (lv_at hl 0 rfl) ?_
  obtain ⟨r1, er1⟩ : ∃ z, kR κ this 12 = z := ⟨_, rfl⟩
  have tr1 : zk σ0 r1 1 := by rw [← er1]; exact hT0.ref t_this (by decide) (by decide) (by decide)
  refine va_get (D := κ.1) (ci := 1) (v := .ref (kR κ this 12)) (C := RX1) (T := TX1) (N := 13) hx hb hg inX1 hown hK (hT.o3 (hT.k t_this (by decide))).one 0 rfl rfl 12 (by decide) (hg _ k299) (fun _ h9 => h9) rfl dX1_differenceSum_1 ?_
  rw [er1]
  refine lv_lconst (v := 0) hx hb dX1_differenceSum_4 (by decide) ?_
  obtain ⟨h4, oh4, th4⟩ := hT.o1 (hT.k tr1 (by decide))
  have hTo := hT
  refine tVv (n := 1) (As := [.long 0]) (rest := []) hx hb hml hown hg hT hK hX (X4_become l κ σ0 r1 0  (hT.k tr1 (by decide)) ) sub_fX_fW (mwV k274 k275 k276 k88 k277) ⟨rfl, by decide, by decide, by decide +kernel⟩ ⟨(Nat.le_of_ble_eq_true rfl), (Nat.le_of_ble_eq_true rfl)⟩ oh4 rfl rfl hl.1 rfl (Nat.le_of_ble_eq_true rfl) dX1_differenceSum_5 zroom.rf (fun s3 H locs hφ hEs3 hT => ?_)
  refine lv_iconst (v := 0) hx hb dX1_differenceSum_8 (by decide) ?_
  refine lv_istore_n (lv' := [(1, .int 0), (0, .ref this)]) hx hb dX1_differenceSum_9 rfl hl (by decide) rfl (fun ls hl => ?_)
  have loop10 : ∀ (n9 : Nat) (i : Int32) (H : Heap) (locs : List Loc) (sg : Gh) (ls : Array Slot), TS κ fW σ0 sg s H locs → (0 ≤ i.toInt) → (i.toInt ≤ (zI σ0 src 2).toInt) → lv_has ls 2 [(1, .int i), (0, .ref this)] → ((zI σ0 src 2).toInt - i.toInt) < n9 → tW p l e 4 111 κ s m #[.ref this] below meth c H locs Q9 (F0 m 10 ls []) := by
    intro n9
    induction n9 with
    | zero =>
      intro i H locs sg ls hT q1 q2 hl hm9
      exfalso
      omega
    | succ n9 ih9 =>
      have ih10 := ih9
      clear ih9
      intro i H locs s5 ls hT q1 q2 hl hm9
      refine lv_iload_n hx hb dX1_differenceSum_10 rfl (lv_at hl 0 rfl) ?_
      refine lv_aload_n hx hb dX1_differenceSum_11 rfl (lv_at hl 1 rfl) ?_
      refine va_get (D := κ.1) (ci := 1) (v := .ref (kR κ this 0)) (C := RX1) (T := TX1) (N := 13) hx hb hg inX1 hown hK (hT.o3 (hT.k t_this (by decide))).one 0 rfl rfl 0 (by decide) (hg _ k278) (fun _ h9 => h9) rfl dX1_differenceSum_12 ?_
      rw [esrc]
      obtain ⟨v6, ev6⟩ : ∃ zz9 : Int32, zI σ0 src 2 = zz9 := ⟨_, rfl⟩
      have qv6 : v6.toInt = (zI σ0 src 2).toInt := by rw [ev6]
      have b7 := (hT.P (hT.k tsrc (by decide)) (by decide)).1
      rw [(hT.eI tsrc (by decide) rfl ev6)] at b7
      have b7l := b7.1
      have b7h := b7.2
      refine va_get (D := κ.1) (ci := 0) (v := .int (zI s5 src 2)) (C := RX0) (T := TX0) (N := 7) hx hb hg inX0 hown hK (hT.o4 (hT.k tsrc (by decide))).one 0 rfl rfl 2 (by decide) (hg _ k162) (fun _ h9 => h9) rfl dX1_differenceSum_15 ?_
      rw [(hT.eI tsrc (by decide) rfl ev6)]
      refine lv_icmp_ge (tgt := 48) hx hb dX1_differenceSum_18 (by decide) (fun c9 => ?_) (fun c9 => ?_)
      · have c1 := gi_le c9
        refine lv_aload_n hx hb dX1_differenceSum_48 rfl (lv_at hl 1 rfl) ?_
        refine va_get (D := κ.1) (ci := 1) (v := .ref (kR κ this 12)) (C := RX1) (T := TX1) (N := 13) hx hb hg inX1 hown hK (hT.o3 (hT.k t_this (by decide))).one 0 rfl rfl 12 (by decide) (hg _ k299) (fun _ h9 => h9) rfl dX1_differenceSum_49 ?_
        rw [er1]
        subst hQ9
        exact t_r rfl hx hb hr hlocks hT tr1 dX1_differenceSum_52
      · have c2 := gi_nle c9
        refine lv_aload_n hx hb dX1_differenceSum_21 rfl (lv_at hl 1 rfl) ?_
        refine lv_aload_n hx hb dX1_differenceSum_22 rfl (lv_at hl 1 rfl) ?_
        obtain ⟨r8, er8⟩ : ∃ z, kR κ this 11 = z := ⟨_, rfl⟩
        have tr8 : zk σ0 r8 1 := by rw [← er8]; exact hT0.ref t_this (by decide) (by decide) (by decide)
        refine va_get (D := κ.1) (ci := 1) (v := .ref (kR κ this 11)) (C := RX1) (T := TX1) (N := 13) hx hb hg inX1 hown hK (hT.o3 (hT.k t_this (by decide))).one 0 rfl rfl 11 (by decide) (hg _ k298) (fun _ h9 => h9) rfl dX1_differenceSum_23 ?_
        rw [er8]
        refine lv_iload_n hx hb dX1_differenceSum_26 rfl (lv_at hl 0 rfl) ?_
        have hTo := hT
        refine tVv (n := 2) (As := [.ref r8, .int i]) (rest := []) hx hb hml hown hg hT hK hX (X1_differenceInto l κ s5 this r8 i  (hT.k t_this (by decide)) (hT.k tr8 (by decide)) (by omega) (by omega)) (fun _ _ h => h) (mwV k1137 k1139 k32 k87 k1140) ⟨rfl, by decide, by decide, by decide +kernel⟩ ⟨(Nat.le_of_ble_eq_true rfl), (Nat.le_of_ble_eq_true rfl)⟩ (hT.o3 (hT.k t_this (by decide))) rfl rfl hl.1 rfl (Nat.le_of_ble_eq_true rfl) dX1_differenceSum_27 zroom.rf (fun s10 H locs hφ hEs10 hT => ?_)
        refine lv_aload_n hx hb dX1_differenceSum_30 rfl (lv_at hl 1 rfl) ?_
        refine va_get (D := κ.1) (ci := 1) (v := .ref (kR κ this 12)) (C := RX1) (T := TX1) (N := 13) hx hb hg inX1 hown hK (hT.o3 (hT.k t_this (by decide))).one 0 rfl rfl 12 (by decide) (hg _ k299) (fun _ h9 => h9) rfl dX1_differenceSum_31 ?_
        rw [er1]
        refine lv_aload_n hx hb dX1_differenceSum_34 rfl (lv_at hl 1 rfl) ?_
        refine va_get (D := κ.1) (ci := 1) (v := .ref (kR κ this 11)) (C := RX1) (T := TX1) (N := 13) hx hb hg inX1 hown hK (hT.o3 (hT.k t_this (by decide))).one 0 rfl rfl 11 (by decide) (hg _ k298) (fun _ h9 => h9) rfl dX1_differenceSum_35 ?_
        rw [er8]
        refine lv_lconst (v := 1) hx hb dX1_differenceSum_38 (by decide) ?_
        obtain ⟨h13, oh13, th13⟩ := hT.o1 (hT.k tr1 (by decide))
        have hTo := hT
        refine tVv (n := 2) (As := [.ref r8, .long 1]) (rest := []) hx hb hml hown hg hT hK hX (X4_add l κ s10 r1 r8 1  (hT.k tr1 (by decide)) (hT.k tr8 (by decide)) ) (fun _ _ h => h) (mwV k340 k341 k342 k88 k343) ⟨rfl, by decide, by decide, by decide +kernel⟩ ⟨(Nat.le_of_ble_eq_true rfl), (Nat.le_of_ble_eq_true rfl)⟩ oh13 rfl rfl hl.1 rfl (Nat.le_of_ble_eq_true rfl) dX1_differenceSum_39 zroom.rf (fun s12 H locs hφ hEs12 hT => ?_)
        obtain ⟨t14, qt14⟩ : ∃ zz9 : Int32, i + Int32.ofInt 1 = zz9 := ⟨_, rfl⟩
        refine lv_iinc (v := t14) (lv' := [(1, .int t14), (0, .ref this)]) hx hb dX1_differenceSum_42 hl (k := 0) rfl qt14 (by decide) rfl (fun ls hl => ?_)
        have ht14 : t14.toInt = i.toInt + 1 := by rw [← qt14]; exact v_addi rfl (show (Int32.ofInt 1).toInt = 1 from by decide) (by omega) (by omega)
        refine lv_goto (tgt := 10) hx hb dX1_differenceSum_45 (by decide) ?_
        exact ih10 t14 _ _ _ _ hT  (by omega) (by omega) hl (by omega)
  exact loop10 (((zI σ0 src 2).toInt - (0 : Int32).toInt).toNat + 1) 0 _ _ _ _ hT  (by omega) (by omega) hl (by omega)
set_option maxHeartbeats 4000000 in
set_option maxRecDepth 100000 in
theorem X1_differenceCount (l : Launch) (κ : Kt) (σ0 : Gh) (this : Nat) (t_this : zk σ0 this 3) : TC l yX1_differenceCount cX1_differenceCount 3 (some .int) 4 111 [.ref this] κ σ0 (tqi κ fW σ0 (fun (r : Int32) (τ : Gh) => True)) := by
  refine TC.of fW (by decide +kernel) (Nat.le_of_ble_eq_true rfl) ?_
  intro p e s m below meth c ls hcs hK hX hT hl
  obtain ⟨hx, hb, hr, hml, hown, hg, hlocks, hin⟩ := hcs
  have hown : s.vm.findClass RX1 = some m.cls := hown
  have hl : lv_has ls 3 [(0, .ref this)] := hl
  have hT0 := hT
  have n0 : (0 : Int32).toInt = 0 := by decide
  generalize hQ9 : tQ _ _ _ _ _ _ = Q9
  obtain ⟨src, esrc⟩ : ∃ z, kR κ this 0 = z := ⟨_, rfl⟩
  have tsrc : zk σ0 src 4 := by rw [← esrc]; exact hT0.ref t_this (by decide) (by decide) (by decide)
  have bsrc := (hT0.P tsrc (by decide)).1
  have bsrcl := bsrc.1
  have bsrch := bsrc.2
  refine lv_iconst (v := 0) hx hb dX1_differenceCount_0 (by decide) ?_
  refine lv_istore_n (lv' := [(1, .int 0), (0, .ref this)]) hx hb dX1_differenceCount_1 rfl hl (by decide) rfl (fun ls hl => ?_)
  refine lv_iconst (v := 0) hx hb dX1_differenceCount_2 (by decide) ?_
  refine lv_istore_n (lv' := [(2, .int 0), (1, .int 0), (0, .ref this)]) hx hb dX1_differenceCount_3 rfl hl (by decide) rfl (fun ls hl => ?_)
  have loop4 : ∀ (n9 : Nat) (i : Int32) (z : Int32) (H : Heap) (locs : List Loc) (sg : Gh) (ls : Array Slot), TS κ fW σ0 sg s H locs → (0 ≤ i.toInt) → (i.toInt ≤ (zI σ0 src 2).toInt) → (0 ≤ z.toInt) → (z.toInt ≤ i.toInt) → lv_has ls 3 [(2, .int i), (1, .int z), (0, .ref this)] → ((zI σ0 src 2).toInt - i.toInt) < n9 → tW p l e 4 111 κ s m #[.ref this] below meth c H locs Q9 (F0 m 4 ls []) := by
    intro n9
    induction n9 with
    | zero =>
      intro i z H locs sg ls hT q1 q2 q3 q4 hl hm9
      exfalso
      omega
    | succ n9 ih9 =>
      have ih4 := ih9
      clear ih9
      intro i z H locs s1 ls hT q1 q2 q3 q4 hl hm9
      refine lv_iload_n hx hb dX1_differenceCount_4 rfl (lv_at hl 0 rfl) ?_
      refine lv_aload_n hx hb dX1_differenceCount_5 rfl (lv_at hl 2 rfl) ?_
      refine va_get (D := κ.1) (ci := 1) (v := .ref (kR κ this 0)) (C := RX1) (T := TX1) (N := 13) hx hb hg inX1 hown hK (hT.o3 (hT.k t_this (by decide))).one 0 rfl rfl 0 (by decide) (hg _ k278) (fun _ h9 => h9) rfl dX1_differenceCount_6 ?_
      rw [esrc]
      obtain ⟨v2, ev2⟩ : ∃ zz9 : Int32, zI σ0 src 2 = zz9 := ⟨_, rfl⟩
      have qv2 : v2.toInt = (zI σ0 src 2).toInt := by rw [ev2]
      have b3 := (hT.P (hT.k tsrc (by decide)) (by decide)).1
      rw [(hT.eI tsrc (by decide) rfl ev2)] at b3
      have b3l := b3.1
      have b3h := b3.2
      refine va_get (D := κ.1) (ci := 0) (v := .int (zI s1 src 2)) (C := RX0) (T := TX0) (N := 7) hx hb hg inX0 hown hK (hT.o4 (hT.k tsrc (by decide))).one 0 rfl rfl 2 (by decide) (hg _ k162) (fun _ h9 => h9) rfl dX1_differenceCount_9 ?_
      rw [(hT.eI tsrc (by decide) rfl ev2)]
      refine lv_icmp_ge (tgt := 43) hx hb dX1_differenceCount_12 (by decide) (fun c9 => ?_) (fun c9 => ?_)
      · have c1 := gi_le c9
        refine lv_iload_n hx hb dX1_differenceCount_43 rfl (lv_at hl 1 rfl) ?_
        subst hQ9
        exact t_i hx hb hr hlocks hT trivial dX1_differenceCount_44
      · have c2 := gi_nle c9
        refine lv_aload_n hx hb dX1_differenceCount_15 rfl (lv_at hl 2 rfl) ?_
        refine lv_aload_n hx hb dX1_differenceCount_16 rfl (lv_at hl 2 rfl) ?_
        obtain ⟨r4, er4⟩ : ∃ z, kR κ this 11 = z := ⟨_, rfl⟩
        have tr4 : zk σ0 r4 1 := by rw [← er4]; exact hT0.ref t_this (by decide) (by decide) (by decide)
        refine va_get (D := κ.1) (ci := 1) (v := .ref (kR κ this 11)) (C := RX1) (T := TX1) (N := 13) hx hb hg inX1 hown hK (hT.o3 (hT.k t_this (by decide))).one 0 rfl rfl 11 (by decide) (hg _ k298) (fun _ h9 => h9) rfl dX1_differenceCount_17 ?_
        rw [er4]
        refine lv_iload_n hx hb dX1_differenceCount_20 rfl (lv_at hl 0 rfl) ?_
        have hTo := hT
        refine tVv (n := 2) (As := [.ref r4, .int i]) (rest := []) hx hb hml hown hg hT hK hX (X1_differenceInto l κ s1 this r4 i  (hT.k t_this (by decide)) (hT.k tr4 (by decide)) (by omega) (by omega)) (fun _ _ h => h) (mwV k1137 k1139 k32 k87 k1140) ⟨rfl, by decide, by decide, by decide +kernel⟩ ⟨(Nat.le_of_ble_eq_true rfl), (Nat.le_of_ble_eq_true rfl)⟩ (hT.o3 (hT.k t_this (by decide))) rfl rfl hl.1 rfl (Nat.le_of_ble_eq_true rfl) dX1_differenceCount_21 zroom.rf (fun s6 H locs hφ hEs6 hT => ?_)
        refine lv_aload_n hx hb dX1_differenceCount_24 rfl (lv_at hl 2 rfl) ?_
        refine va_get (D := κ.1) (ci := 1) (v := .ref (kR κ this 11)) (C := RX1) (T := TX1) (N := 13) hx hb hg inX1 hown hK (hT.o3 (hT.k t_this (by decide))).one 0 rfl rfl 11 (by decide) (hg _ k298) (fun _ h9 => h9) rfl dX1_differenceCount_25 ?_
        rw [er4]
        obtain ⟨h9, oh9, th9⟩ := hT.o1 (hT.k tr4 (by decide))
        have hTo := hT
        refine tVi (n := 0) (As := []) (rest := []) hx hb hml hown hg hT hK hX (X4_isZero l κ s6 r4  (hT.k tr4 (by decide)) ) sub_fE_fW (mwV k845 k846 k847 k88 k848) ⟨rfl, by decide, by decide, by decide +kernel⟩ ⟨(Nat.le_of_ble_eq_true rfl), (Nat.le_of_ble_eq_true rfl)⟩ oh9 rfl rfl hl.1 rfl (Nat.le_of_ble_eq_true rfl) dX1_differenceCount_28 zroom.rf (fun x7 s8 H locs hφ hEs8 hT => ?_)
        have f10 := hφ
        refine lv_if_ne (tgt := 37) hx hb dX1_differenceCount_31 (by decide) (fun c9 => ?_) (fun c9 => ?_)
        · have c3 := gi_ne c9
          obtain ⟨t11, qt11⟩ : ∃ zz9 : Int32, i + Int32.ofInt 1 = zz9 := ⟨_, rfl⟩
          refine lv_iinc (v := t11) (lv' := [(2, .int t11), (1, .int z), (0, .ref this)]) hx hb dX1_differenceCount_37 hl (k := 0) rfl qt11 (by decide) rfl (fun ls hl => ?_)
          have ht11 : t11.toInt = i.toInt + 1 := by rw [← qt11]; exact v_addi rfl (show (Int32.ofInt 1).toInt = 1 from by decide) (by omega) (by omega)
          refine lv_goto (tgt := 4) hx hb dX1_differenceCount_40 (by decide) ?_
          exact ih4 t11 z _ _ _ _ hT  (by omega) (by omega) (by omega) (by omega) hl (by omega)
        · have c4 := gi_eq c9
          obtain ⟨t12, qt12⟩ : ∃ zz9 : Int32, z + Int32.ofInt 1 = zz9 := ⟨_, rfl⟩
          refine lv_iinc (v := t12) (lv' := [(1, .int t12), (2, .int i), (0, .ref this)]) hx hb dX1_differenceCount_34 hl (k := 1) rfl qt12 (by decide) rfl (fun ls hl => ?_)
          have ht12 : t12.toInt = z.toInt + 1 := by rw [← qt12]; exact v_addi rfl (show (Int32.ofInt 1).toInt = 1 from by decide) (by omega) (by omega)
          obtain ⟨t13, qt13⟩ : ∃ zz9 : Int32, i + Int32.ofInt 1 = zz9 := ⟨_, rfl⟩
          refine lv_iinc (v := t13) (lv' := [(2, .int t13), (1, .int t12), (0, .ref this)]) hx hb dX1_differenceCount_37 hl (k := 1) rfl qt13 (by decide) rfl (fun ls hl => ?_)
          have ht13 : t13.toInt = i.toInt + 1 := by rw [← qt13]; exact v_addi rfl (show (Int32.ofInt 1).toInt = 1 from by decide) (by omega) (by omega)
          refine lv_goto (tgt := 4) hx hb dX1_differenceCount_40 (by decide) ?_
          exact ih4 t13 t12 _ _ _ _ hT  (by omega) (by omega) (by omega) (by omega) hl (by omega)
  exact loop4 (((zI σ0 src 2).toInt - (0 : Int32).toInt).toNat + 1) 0 0 _ _ _ _ hT  (by omega) (by omega) (by omega) (by omega) hl (by omega)

/-! Whole over any state: loops -/
theorem k5 : Cond.selects RX4 yX4_amountFrom yX4_amountFrom ∈ GW := gm 5 (by decide +kernel) (by decide +kernel)
theorem k6 : Cond.selects RX4 yX4_limbAt yX4_limbAt ∈ GW := gm 6 (by decide +kernel) (by decide +kernel)
theorem k88 : Cond.initialized RX4 ∈ GW := gm 88 (by decide +kernel) (by decide +kernel)
theorem k102 : Cond.initialized RJ6 ∈ GW := gm 102 (by decide +kernel) (by decide +kernel)
theorem k439 : Cond.methodLink RX4 73 yX4_amountFrom ∈ GW := gm 439 (by decide +kernel) (by decide +kernel)
theorem k441 : Cond.instanceMethod yX4_amountFrom ∈ GW := gm 441 (by decide +kernel) (by decide +kernel)
theorem k442 : Cond.code yX4_amountFrom cX4_amountFrom 6 (some .long) ∈ GW := gm 442 (by decide +kernel) (by decide +kernel)
theorem k443 : Cond.methodLink RX4 87 yX4_limbAt ∈ GW := gm 443 (by decide +kernel) (by decide +kernel)
theorem k445 : Cond.instanceMethod yX4_limbAt ∈ GW := gm 445 (by decide +kernel) (by decide +kernel)
theorem k446 : Cond.code yX4_limbAt cX4_limbAt 2 (some .long) ∈ GW := gm 446 (by decide +kernel) (by decide +kernel)
theorem k479 : Cond.methodLink RX4 68 yJ6_numberOfLeadingZeros_0f7a4 ∈ GW := gm 479 (by decide +kernel) (by decide +kernel)
theorem k480 : Cond.static yJ6_numberOfLeadingZeros_0f7a4 ∈ GW := gm 480 (by decide +kernel) (by decide +kernel)
theorem k481 : Cond.code yJ6_numberOfLeadingZeros_0f7a4 cJ6_numberOfLeadingZeros_0f7a4 2 (some .int) ∈ GW := gm 481 (by decide +kernel) (by decide +kernel)
theorem dX4_addAmount_0 : decode cX4_addAmount 0 = .ok (.lconst 0, 1) := by decide +kernel
theorem dX4_addAmount_1 : decode cX4_addAmount 1 = .ok (.lstore 5, 2) := by decide +kernel
theorem dX4_addAmount_3 : decode cX4_addAmount 3 = .ok (.iconst 0, 1) := by decide +kernel
theorem dX4_addAmount_4 : decode cX4_addAmount 4 = .ok (.istore 7, 2) := by decide +kernel
theorem dX4_addAmount_6 : decode cX4_addAmount 6 = .ok (.iload 7, 2) := by decide +kernel
theorem dX4_addAmount_8 : decode cX4_addAmount 8 = .ok (.iload 4, 2) := by decide +kernel
theorem dX4_addAmount_10 : decode cX4_addAmount 10 = .ok (.if_icmp .ge 92, 3) := by decide +kernel
theorem dX4_addAmount_13 : decode cX4_addAmount 13 = .ok (.iload 7, 2) := by decide +kernel
theorem dX4_addAmount_15 : decode cX4_addAmount 15 = .ok (.aload_n 0, 1) := by decide +kernel
theorem dX4_addAmount_16 : decode cX4_addAmount 16 = .ok (.getfield 13, 3) := by decide +kernel
theorem dX4_addAmount_19 : decode cX4_addAmount 19 = .ok (.if_icmp .ge 18, 3) := by decide +kernel
theorem dX4_addAmount_22 : decode cX4_addAmount 22 = .ok (.aload_n 0, 1) := by decide +kernel
theorem dX4_addAmount_23 : decode cX4_addAmount 23 = .ok (.getfield 7, 3) := by decide +kernel
theorem dX4_addAmount_26 : decode cX4_addAmount 26 = .ok (.iload 7, 2) := by decide +kernel
theorem dX4_addAmount_28 : decode cX4_addAmount 28 = .ok (.iaload, 1) := by decide +kernel
theorem dX4_addAmount_29 : decode cX4_addAmount 29 = .ok (.i2l, 1) := by decide +kernel
theorem dX4_addAmount_30 : decode cX4_addAmount 30 = .ok (.ldc2_w 66, 3) := by decide +kernel
theorem dX4_addAmount_33 : decode cX4_addAmount 33 = .ok (.land, 1) := by decide +kernel
theorem dX4_addAmount_34 : decode cX4_addAmount 34 = .ok (.goto 4, 3) := by decide +kernel
theorem dX4_addAmount_37 : decode cX4_addAmount 37 = .ok (.lconst 0, 1) := by decide +kernel
theorem dX4_addAmount_38 : decode cX4_addAmount 38 = .ok (.lstore 8, 2) := by decide +kernel
theorem dX4_addAmount_40 : decode cX4_addAmount 40 = .ok (.iload 7, 2) := by decide +kernel
theorem dX4_addAmount_42 : decode cX4_addAmount 42 = .ok (.aload_n 1, 1) := by decide +kernel
theorem dX4_addAmount_43 : decode cX4_addAmount 43 = .ok (.getfield 13, 3) := by decide +kernel
theorem dX4_addAmount_46 : decode cX4_addAmount 46 = .ok (.if_icmp .ge 18, 3) := by decide +kernel
theorem dX4_addAmount_49 : decode cX4_addAmount 49 = .ok (.aload_n 1, 1) := by decide +kernel
theorem dX4_addAmount_50 : decode cX4_addAmount 50 = .ok (.getfield 7, 3) := by decide +kernel
theorem dX4_addAmount_53 : decode cX4_addAmount 53 = .ok (.iload 7, 2) := by decide +kernel
theorem dX4_addAmount_55 : decode cX4_addAmount 55 = .ok (.iaload, 1) := by decide +kernel
theorem dX4_addAmount_56 : decode cX4_addAmount 56 = .ok (.i2l, 1) := by decide +kernel
theorem dX4_addAmount_57 : decode cX4_addAmount 57 = .ok (.ldc2_w 66, 3) := by decide +kernel
theorem dX4_addAmount_60 : decode cX4_addAmount 60 = .ok (.land, 1) := by decide +kernel
theorem dX4_addAmount_61 : decode cX4_addAmount 61 = .ok (.goto 4, 3) := by decide +kernel
theorem dX4_addAmount_64 : decode cX4_addAmount 64 = .ok (.lconst 0, 1) := by decide +kernel
theorem dX4_addAmount_65 : decode cX4_addAmount 65 = .ok (.lstore 10, 2) := by decide +kernel
theorem dX4_addAmount_67 : decode cX4_addAmount 67 = .ok (.lload 5, 2) := by decide +kernel
theorem dX4_addAmount_69 : decode cX4_addAmount 69 = .ok (.lload 8, 2) := by decide +kernel
theorem dX4_addAmount_71 : decode cX4_addAmount 71 = .ok (.lload 10, 2) := by decide +kernel
theorem dX4_addAmount_73 : decode cX4_addAmount 73 = .ok (.lload_n 2, 1) := by decide +kernel
theorem dX4_addAmount_74 : decode cX4_addAmount 74 = .ok (.lmul, 1) := by decide +kernel
theorem dX4_addAmount_75 : decode cX4_addAmount 75 = .ok (.ladd, 1) := by decide +kernel
theorem dX4_addAmount_76 : decode cX4_addAmount 76 = .ok (.ladd, 1) := by decide +kernel
theorem dX4_addAmount_77 : decode cX4_addAmount 77 = .ok (.lstore 5, 2) := by decide +kernel
theorem dX4_addAmount_79 : decode cX4_addAmount 79 = .ok (.aload_n 0, 1) := by decide +kernel
theorem dX4_addAmount_80 : decode cX4_addAmount 80 = .ok (.getfield 7, 3) := by decide +kernel
theorem dX4_addAmount_83 : decode cX4_addAmount 83 = .ok (.iload 7, 2) := by decide +kernel
theorem dX4_addAmount_85 : decode cX4_addAmount 85 = .ok (.lload 5, 2) := by decide +kernel
theorem dX4_addAmount_87 : decode cX4_addAmount 87 = .ok (.l2i, 1) := by decide +kernel
theorem dX4_addAmount_88 : decode cX4_addAmount 88 = .ok (.iastore, 1) := by decide +kernel
theorem dX4_addAmount_89 : decode cX4_addAmount 89 = .ok (.lload 5, 2) := by decide +kernel
theorem dX4_addAmount_91 : decode cX4_addAmount 91 = .ok (.bipush 32, 2) := by decide +kernel
theorem dX4_addAmount_93 : decode cX4_addAmount 93 = .ok (.lshr, 1) := by decide +kernel
theorem dX4_addAmount_94 : decode cX4_addAmount 94 = .ok (.lstore 5, 2) := by decide +kernel
theorem dX4_addAmount_96 : decode cX4_addAmount 96 = .ok (.iinc 7 1, 3) := by decide +kernel
theorem dX4_addAmount_99 : decode cX4_addAmount 99 = .ok (.goto (-93), 3) := by decide +kernel
theorem dX4_addAmount_102 : decode cX4_addAmount 102 = .ok (.aload_n 0, 1) := by decide +kernel
theorem dX4_addAmount_103 : decode cX4_addAmount 103 = .ok (.iload 4, 2) := by decide +kernel
theorem dX4_addAmount_105 : decode cX4_addAmount 105 = .ok (.putfield 13, 3) := by decide +kernel
theorem dX4_addAmount_108 : decode cX4_addAmount 108 = .ok (.lload 5, 2) := by decide +kernel
theorem dX4_addAmount_110 : decode cX4_addAmount 110 = .ok (.lreturn, 1) := by decide +kernel
theorem dX4_amountFrom_0 : decode cX4_amountFrom 0 = .ok (.iload_n 1, 1) := by decide +kernel
theorem dX4_amountFrom_1 : decode cX4_amountFrom 1 = .ok (.bipush 32, 2) := by decide +kernel
theorem dX4_amountFrom_3 : decode cX4_amountFrom 3 = .ok (.idiv, 1) := by decide +kernel
theorem dX4_amountFrom_4 : decode cX4_amountFrom 4 = .ok (.istore_n 2, 1) := by decide +kernel
theorem dX4_amountFrom_5 : decode cX4_amountFrom 5 = .ok (.iload_n 1, 1) := by decide +kernel
theorem dX4_amountFrom_6 : decode cX4_amountFrom 6 = .ok (.bipush 32, 2) := by decide +kernel
theorem dX4_amountFrom_8 : decode cX4_amountFrom 8 = .ok (.irem, 1) := by decide +kernel
theorem dX4_amountFrom_9 : decode cX4_amountFrom 9 = .ok (.istore_n 3, 1) := by decide +kernel
theorem dX4_amountFrom_10 : decode cX4_amountFrom 10 = .ok (.aload_n 0, 1) := by decide +kernel
theorem dX4_amountFrom_11 : decode cX4_amountFrom 11 = .ok (.iload_n 2, 1) := by decide +kernel
theorem dX4_amountFrom_12 : decode cX4_amountFrom 12 = .ok (.iconst 1, 1) := by decide +kernel
theorem dX4_amountFrom_13 : decode cX4_amountFrom 13 = .ok (.iadd, 1) := by decide +kernel
theorem dX4_amountFrom_14 : decode cX4_amountFrom 14 = .ok (.invokevirtual 87, 3) := by decide +kernel
theorem dX4_amountFrom_17 : decode cX4_amountFrom 17 = .ok (.bipush 32, 2) := by decide +kernel
theorem dX4_amountFrom_19 : decode cX4_amountFrom 19 = .ok (.lshl, 1) := by decide +kernel
theorem dX4_amountFrom_20 : decode cX4_amountFrom 20 = .ok (.aload_n 0, 1) := by decide +kernel
theorem dX4_amountFrom_21 : decode cX4_amountFrom 21 = .ok (.iload_n 2, 1) := by decide +kernel
theorem dX4_amountFrom_22 : decode cX4_amountFrom 22 = .ok (.invokevirtual 87, 3) := by decide +kernel
theorem dX4_amountFrom_25 : decode cX4_amountFrom 25 = .ok (.lor, 1) := by decide +kernel
theorem dX4_amountFrom_26 : decode cX4_amountFrom 26 = .ok (.lstore 4, 2) := by decide +kernel
theorem dX4_amountFrom_28 : decode cX4_amountFrom 28 = .ok (.iload_n 3, 1) := by decide +kernel
theorem dX4_amountFrom_29 : decode cX4_amountFrom 29 = .ok (.ifCond .ne 8, 3) := by decide +kernel
theorem dX4_amountFrom_32 : decode cX4_amountFrom 32 = .ok (.lload 4, 2) := by decide +kernel
theorem dX4_amountFrom_34 : decode cX4_amountFrom 34 = .ok (.goto 20, 3) := by decide +kernel
theorem dX4_amountFrom_37 : decode cX4_amountFrom 37 = .ok (.lload 4, 2) := by decide +kernel
theorem dX4_amountFrom_39 : decode cX4_amountFrom 39 = .ok (.iload_n 3, 1) := by decide +kernel
theorem dX4_amountFrom_40 : decode cX4_amountFrom 40 = .ok (.lushr, 1) := by decide +kernel
theorem dX4_amountFrom_41 : decode cX4_amountFrom 41 = .ok (.aload_n 0, 1) := by decide +kernel
theorem dX4_amountFrom_42 : decode cX4_amountFrom 42 = .ok (.iload_n 2, 1) := by decide +kernel
theorem dX4_amountFrom_43 : decode cX4_amountFrom 43 = .ok (.iconst 2, 1) := by decide +kernel
theorem dX4_amountFrom_44 : decode cX4_amountFrom 44 = .ok (.iadd, 1) := by decide +kernel
theorem dX4_amountFrom_45 : decode cX4_amountFrom 45 = .ok (.invokevirtual 87, 3) := by decide +kernel
theorem dX4_amountFrom_48 : decode cX4_amountFrom 48 = .ok (.bipush 64, 2) := by decide +kernel
theorem dX4_amountFrom_50 : decode cX4_amountFrom 50 = .ok (.iload_n 3, 1) := by decide +kernel
theorem dX4_amountFrom_51 : decode cX4_amountFrom 51 = .ok (.isub, 1) := by decide +kernel
theorem dX4_amountFrom_52 : decode cX4_amountFrom 52 = .ok (.lshl, 1) := by decide +kernel
theorem dX4_amountFrom_53 : decode cX4_amountFrom 53 = .ok (.lor, 1) := by decide +kernel
theorem dX4_amountFrom_54 : decode cX4_amountFrom 54 = .ok (.lreturn, 1) := by decide +kernel
theorem dX4_bitsOfAmount_0 : decode cX4_bitsOfAmount 0 = .ok (.aload_n 0, 1) := by decide +kernel
theorem dX4_bitsOfAmount_1 : decode cX4_bitsOfAmount 1 = .ok (.getfield 13, 3) := by decide +kernel
theorem dX4_bitsOfAmount_4 : decode cX4_bitsOfAmount 4 = .ok (.ifCond .ne 7, 3) := by decide +kernel
theorem dX4_bitsOfAmount_7 : decode cX4_bitsOfAmount 7 = .ok (.iconst 0, 1) := by decide +kernel
theorem dX4_bitsOfAmount_8 : decode cX4_bitsOfAmount 8 = .ok (.goto 25, 3) := by decide +kernel
theorem dX4_bitsOfAmount_11 : decode cX4_bitsOfAmount 11 = .ok (.aload_n 0, 1) := by decide +kernel
theorem dX4_bitsOfAmount_12 : decode cX4_bitsOfAmount 12 = .ok (.getfield 13, 3) := by decide +kernel
theorem dX4_bitsOfAmount_15 : decode cX4_bitsOfAmount 15 = .ok (.bipush 32, 2) := by decide +kernel
theorem dX4_bitsOfAmount_17 : decode cX4_bitsOfAmount 17 = .ok (.imul, 1) := by decide +kernel
theorem dX4_bitsOfAmount_18 : decode cX4_bitsOfAmount 18 = .ok (.aload_n 0, 1) := by decide +kernel
theorem dX4_bitsOfAmount_19 : decode cX4_bitsOfAmount 19 = .ok (.getfield 7, 3) := by decide +kernel
theorem dX4_bitsOfAmount_22 : decode cX4_bitsOfAmount 22 = .ok (.aload_n 0, 1) := by decide +kernel
theorem dX4_bitsOfAmount_23 : decode cX4_bitsOfAmount 23 = .ok (.getfield 13, 3) := by decide +kernel
theorem dX4_bitsOfAmount_26 : decode cX4_bitsOfAmount 26 = .ok (.iconst 1, 1) := by decide +kernel
theorem dX4_bitsOfAmount_27 : decode cX4_bitsOfAmount 27 = .ok (.isub, 1) := by decide +kernel
theorem dX4_bitsOfAmount_28 : decode cX4_bitsOfAmount 28 = .ok (.iaload, 1) := by decide +kernel
theorem dX4_bitsOfAmount_29 : decode cX4_bitsOfAmount 29 = .ok (.invokestatic 68, 3) := by decide +kernel
theorem dX4_bitsOfAmount_32 : decode cX4_bitsOfAmount 32 = .ok (.isub, 1) := by decide +kernel
theorem dX4_bitsOfAmount_33 : decode cX4_bitsOfAmount 33 = .ok (.ireturn, 1) := by decide +kernel
theorem dX4_compareAmount_0 : decode cX4_compareAmount 0 = .ok (.aload_n 0, 1) := by decide +kernel
theorem dX4_compareAmount_1 : decode cX4_compareAmount 1 = .ok (.getfield 13, 3) := by decide +kernel
theorem dX4_compareAmount_4 : decode cX4_compareAmount 4 = .ok (.aload_n 1, 1) := by decide +kernel
theorem dX4_compareAmount_5 : decode cX4_compareAmount 5 = .ok (.getfield 13, 3) := by decide +kernel
theorem dX4_compareAmount_8 : decode cX4_compareAmount 8 = .ok (.if_icmp .eq 20, 3) := by decide +kernel
theorem dX4_compareAmount_11 : decode cX4_compareAmount 11 = .ok (.aload_n 0, 1) := by decide +kernel
theorem dX4_compareAmount_12 : decode cX4_compareAmount 12 = .ok (.getfield 13, 3) := by decide +kernel
theorem dX4_compareAmount_15 : decode cX4_compareAmount 15 = .ok (.aload_n 1, 1) := by decide +kernel
theorem dX4_compareAmount_16 : decode cX4_compareAmount 16 = .ok (.getfield 13, 3) := by decide +kernel
theorem dX4_compareAmount_19 : decode cX4_compareAmount 19 = .ok (.if_icmp .ge 7, 3) := by decide +kernel
theorem dX4_compareAmount_22 : decode cX4_compareAmount 22 = .ok (.iconst (-1), 1) := by decide +kernel
theorem dX4_compareAmount_23 : decode cX4_compareAmount 23 = .ok (.goto 4, 3) := by decide +kernel
theorem dX4_compareAmount_26 : decode cX4_compareAmount 26 = .ok (.iconst 1, 1) := by decide +kernel
theorem dX4_compareAmount_27 : decode cX4_compareAmount 27 = .ok (.ireturn, 1) := by decide +kernel
theorem dX4_compareAmount_28 : decode cX4_compareAmount 28 = .ok (.aload_n 0, 1) := by decide +kernel
theorem dX4_compareAmount_29 : decode cX4_compareAmount 29 = .ok (.getfield 13, 3) := by decide +kernel
theorem dX4_compareAmount_32 : decode cX4_compareAmount 32 = .ok (.iconst 1, 1) := by decide +kernel
theorem dX4_compareAmount_33 : decode cX4_compareAmount 33 = .ok (.isub, 1) := by decide +kernel
theorem dX4_compareAmount_34 : decode cX4_compareAmount 34 = .ok (.istore_n 2, 1) := by decide +kernel
theorem dX4_compareAmount_35 : decode cX4_compareAmount 35 = .ok (.iload_n 2, 1) := by decide +kernel
theorem dX4_compareAmount_36 : decode cX4_compareAmount 36 = .ok (.ifCond .lt 56, 3) := by decide +kernel
theorem dX4_compareAmount_39 : decode cX4_compareAmount 39 = .ok (.aload_n 0, 1) := by decide +kernel
theorem dX4_compareAmount_40 : decode cX4_compareAmount 40 = .ok (.getfield 7, 3) := by decide +kernel
theorem dX4_compareAmount_43 : decode cX4_compareAmount 43 = .ok (.iload_n 2, 1) := by decide +kernel
theorem dX4_compareAmount_44 : decode cX4_compareAmount 44 = .ok (.iaload, 1) := by decide +kernel
theorem dX4_compareAmount_45 : decode cX4_compareAmount 45 = .ok (.aload_n 1, 1) := by decide +kernel
theorem dX4_compareAmount_46 : decode cX4_compareAmount 46 = .ok (.getfield 7, 3) := by decide +kernel
theorem dX4_compareAmount_49 : decode cX4_compareAmount 49 = .ok (.iload_n 2, 1) := by decide +kernel
theorem dX4_compareAmount_50 : decode cX4_compareAmount 50 = .ok (.iaload, 1) := by decide +kernel
theorem dX4_compareAmount_51 : decode cX4_compareAmount 51 = .ok (.if_icmp .eq 35, 3) := by decide +kernel
theorem dX4_compareAmount_54 : decode cX4_compareAmount 54 = .ok (.aload_n 0, 1) := by decide +kernel
theorem dX4_compareAmount_55 : decode cX4_compareAmount 55 = .ok (.getfield 7, 3) := by decide +kernel
theorem dX4_compareAmount_58 : decode cX4_compareAmount 58 = .ok (.iload_n 2, 1) := by decide +kernel
theorem dX4_compareAmount_59 : decode cX4_compareAmount 59 = .ok (.iaload, 1) := by decide +kernel
theorem dX4_compareAmount_60 : decode cX4_compareAmount 60 = .ok (.i2l, 1) := by decide +kernel
theorem dX4_compareAmount_61 : decode cX4_compareAmount 61 = .ok (.ldc2_w 66, 3) := by decide +kernel
theorem dX4_compareAmount_64 : decode cX4_compareAmount 64 = .ok (.land, 1) := by decide +kernel
theorem dX4_compareAmount_65 : decode cX4_compareAmount 65 = .ok (.aload_n 1, 1) := by decide +kernel
theorem dX4_compareAmount_66 : decode cX4_compareAmount 66 = .ok (.getfield 7, 3) := by decide +kernel
theorem dX4_compareAmount_69 : decode cX4_compareAmount 69 = .ok (.iload_n 2, 1) := by decide +kernel
theorem dX4_compareAmount_70 : decode cX4_compareAmount 70 = .ok (.iaload, 1) := by decide +kernel
theorem dX4_compareAmount_71 : decode cX4_compareAmount 71 = .ok (.i2l, 1) := by decide +kernel
theorem dX4_compareAmount_72 : decode cX4_compareAmount 72 = .ok (.ldc2_w 66, 3) := by decide +kernel
theorem dX4_compareAmount_75 : decode cX4_compareAmount 75 = .ok (.land, 1) := by decide +kernel
theorem dX4_compareAmount_76 : decode cX4_compareAmount 76 = .ok (.lcmp, 1) := by decide +kernel
theorem dX4_compareAmount_77 : decode cX4_compareAmount 77 = .ok (.ifCond .ge 7, 3) := by decide +kernel
theorem dX4_compareAmount_80 : decode cX4_compareAmount 80 = .ok (.iconst (-1), 1) := by decide +kernel
theorem dX4_compareAmount_81 : decode cX4_compareAmount 81 = .ok (.goto 4, 3) := by decide +kernel
theorem dX4_compareAmount_84 : decode cX4_compareAmount 84 = .ok (.iconst 1, 1) := by decide +kernel
theorem dX4_compareAmount_85 : decode cX4_compareAmount 85 = .ok (.ireturn, 1) := by decide +kernel
theorem dX4_compareAmount_86 : decode cX4_compareAmount 86 = .ok (.iinc 2 (-1), 3) := by decide +kernel
theorem dX4_compareAmount_89 : decode cX4_compareAmount 89 = .ok (.goto (-54), 3) := by decide +kernel
theorem dX4_compareAmount_92 : decode cX4_compareAmount 92 = .ok (.iconst 0, 1) := by decide +kernel
theorem dX4_compareAmount_93 : decode cX4_compareAmount 93 = .ok (.ireturn, 1) := by decide +kernel
theorem dX4_divide_0 : decode cX4_divide 0 = .ok (.lconst 0, 1) := by decide +kernel
theorem dX4_divide_1 : decode cX4_divide 1 = .ok (.lstore_n 3, 1) := by decide +kernel
theorem dX4_divide_2 : decode cX4_divide 2 = .ok (.aload_n 0, 1) := by decide +kernel
theorem dX4_divide_3 : decode cX4_divide 3 = .ok (.getfield 13, 3) := by decide +kernel
theorem dX4_divide_6 : decode cX4_divide 6 = .ok (.iconst 1, 1) := by decide +kernel
theorem dX4_divide_7 : decode cX4_divide 7 = .ok (.isub, 1) := by decide +kernel
theorem dX4_divide_8 : decode cX4_divide 8 = .ok (.istore 5, 2) := by decide +kernel
theorem dX4_divide_10 : decode cX4_divide 10 = .ok (.iload 5, 2) := by decide +kernel
theorem dX4_divide_12 : decode cX4_divide 12 = .ok (.ifCond .lt 48, 3) := by decide +kernel
theorem dX4_divide_15 : decode cX4_divide 15 = .ok (.lload_n 1, 1) := by decide +kernel
theorem dX4_divide_16 : decode cX4_divide 16 = .ok (.lconst 0, 1) := by decide +kernel
theorem dX4_divide_17 : decode cX4_divide 17 = .ok (.lcmp, 1) := by decide +kernel
theorem dX4_divide_18 : decode cX4_divide 18 = .ok (.ifCond .le 42, 3) := by decide +kernel
theorem dX4_divide_21 : decode cX4_divide 21 = .ok (.lload_n 3, 1) := by decide +kernel
theorem dX4_divide_22 : decode cX4_divide 22 = .ok (.bipush 32, 2) := by decide +kernel
theorem dX4_divide_24 : decode cX4_divide 24 = .ok (.lshl, 1) := by decide +kernel
theorem dX4_divide_25 : decode cX4_divide 25 = .ok (.aload_n 0, 1) := by decide +kernel
theorem dX4_divide_26 : decode cX4_divide 26 = .ok (.getfield 7, 3) := by decide +kernel
theorem dX4_divide_29 : decode cX4_divide 29 = .ok (.iload 5, 2) := by decide +kernel
theorem dX4_divide_31 : decode cX4_divide 31 = .ok (.iaload, 1) := by decide +kernel
theorem dX4_divide_32 : decode cX4_divide 32 = .ok (.i2l, 1) := by decide +kernel
theorem dX4_divide_33 : decode cX4_divide 33 = .ok (.ldc2_w 66, 3) := by decide +kernel
theorem dX4_divide_36 : decode cX4_divide 36 = .ok (.land, 1) := by decide +kernel
theorem dX4_divide_37 : decode cX4_divide 37 = .ok (.lor, 1) := by decide +kernel
theorem dX4_divide_38 : decode cX4_divide 38 = .ok (.lstore_n 3, 1) := by decide +kernel
theorem dX4_divide_39 : decode cX4_divide 39 = .ok (.aload_n 0, 1) := by decide +kernel
theorem dX4_divide_40 : decode cX4_divide 40 = .ok (.getfield 7, 3) := by decide +kernel
theorem dX4_divide_43 : decode cX4_divide 43 = .ok (.iload 5, 2) := by decide +kernel
theorem dX4_divide_45 : decode cX4_divide 45 = .ok (.lload_n 3, 1) := by decide +kernel
theorem dX4_divide_46 : decode cX4_divide 46 = .ok (.lload_n 1, 1) := by decide +kernel
theorem dX4_divide_47 : decode cX4_divide 47 = .ok (.ldiv, 1) := by decide +kernel
theorem dX4_divide_48 : decode cX4_divide 48 = .ok (.l2i, 1) := by decide +kernel
theorem dX4_divide_49 : decode cX4_divide 49 = .ok (.iastore, 1) := by decide +kernel
theorem dX4_divide_50 : decode cX4_divide 50 = .ok (.lload_n 3, 1) := by decide +kernel
theorem dX4_divide_51 : decode cX4_divide 51 = .ok (.lload_n 1, 1) := by decide +kernel
theorem dX4_divide_52 : decode cX4_divide 52 = .ok (.lrem, 1) := by decide +kernel
theorem dX4_divide_53 : decode cX4_divide 53 = .ok (.lstore_n 3, 1) := by decide +kernel
theorem dX4_divide_54 : decode cX4_divide 54 = .ok (.iinc 5 (-1), 3) := by decide +kernel
theorem dX4_divide_57 : decode cX4_divide 57 = .ok (.goto (-47), 3) := by decide +kernel
theorem dX4_divide_60 : decode cX4_divide 60 = .ok (.return_, 1) := by decide +kernel
theorem dX4_isAnyBitBelow_0 : decode cX4_isAnyBitBelow 0 = .ok (.iload_n 1, 1) := by decide +kernel
theorem dX4_isAnyBitBelow_1 : decode cX4_isAnyBitBelow 1 = .ok (.bipush 32, 2) := by decide +kernel
theorem dX4_isAnyBitBelow_3 : decode cX4_isAnyBitBelow 3 = .ok (.idiv, 1) := by decide +kernel
theorem dX4_isAnyBitBelow_4 : decode cX4_isAnyBitBelow 4 = .ok (.istore_n 2, 1) := by decide +kernel
theorem dX4_isAnyBitBelow_5 : decode cX4_isAnyBitBelow 5 = .ok (.iconst 0, 1) := by decide +kernel
theorem dX4_isAnyBitBelow_6 : decode cX4_isAnyBitBelow 6 = .ok (.istore_n 3, 1) := by decide +kernel
theorem dX4_isAnyBitBelow_7 : decode cX4_isAnyBitBelow 7 = .ok (.iload_n 3, 1) := by decide +kernel
theorem dX4_isAnyBitBelow_8 : decode cX4_isAnyBitBelow 8 = .ok (.iload_n 2, 1) := by decide +kernel
theorem dX4_isAnyBitBelow_9 : decode cX4_isAnyBitBelow 9 = .ok (.if_icmp .ge 21, 3) := by decide +kernel
theorem dX4_isAnyBitBelow_12 : decode cX4_isAnyBitBelow 12 = .ok (.aload_n 0, 1) := by decide +kernel
theorem dX4_isAnyBitBelow_13 : decode cX4_isAnyBitBelow 13 = .ok (.iload_n 3, 1) := by decide +kernel
theorem dX4_isAnyBitBelow_14 : decode cX4_isAnyBitBelow 14 = .ok (.invokevirtual 87, 3) := by decide +kernel
theorem dX4_isAnyBitBelow_17 : decode cX4_isAnyBitBelow 17 = .ok (.lconst 0, 1) := by decide +kernel
theorem dX4_isAnyBitBelow_18 : decode cX4_isAnyBitBelow 18 = .ok (.lcmp, 1) := by decide +kernel
theorem dX4_isAnyBitBelow_19 : decode cX4_isAnyBitBelow 19 = .ok (.ifCond .eq 5, 3) := by decide +kernel
theorem dX4_isAnyBitBelow_22 : decode cX4_isAnyBitBelow 22 = .ok (.iconst 1, 1) := by decide +kernel
theorem dX4_isAnyBitBelow_23 : decode cX4_isAnyBitBelow 23 = .ok (.ireturn, 1) := by decide +kernel
theorem dX4_isAnyBitBelow_24 : decode cX4_isAnyBitBelow 24 = .ok (.iinc 3 1, 3) := by decide +kernel
theorem dX4_isAnyBitBelow_27 : decode cX4_isAnyBitBelow 27 = .ok (.goto (-20), 3) := by decide +kernel
theorem dX4_isAnyBitBelow_30 : decode cX4_isAnyBitBelow 30 = .ok (.aload_n 0, 1) := by decide +kernel
theorem dX4_isAnyBitBelow_31 : decode cX4_isAnyBitBelow 31 = .ok (.iload_n 2, 1) := by decide +kernel
theorem dX4_isAnyBitBelow_32 : decode cX4_isAnyBitBelow 32 = .ok (.invokevirtual 87, 3) := by decide +kernel
theorem dX4_isAnyBitBelow_35 : decode cX4_isAnyBitBelow 35 = .ok (.lconst 1, 1) := by decide +kernel
theorem dX4_isAnyBitBelow_36 : decode cX4_isAnyBitBelow 36 = .ok (.iload_n 1, 1) := by decide +kernel
theorem dX4_isAnyBitBelow_37 : decode cX4_isAnyBitBelow 37 = .ok (.bipush 32, 2) := by decide +kernel
theorem dX4_isAnyBitBelow_39 : decode cX4_isAnyBitBelow 39 = .ok (.irem, 1) := by decide +kernel
theorem dX4_isAnyBitBelow_40 : decode cX4_isAnyBitBelow 40 = .ok (.lshl, 1) := by decide +kernel
theorem dX4_isAnyBitBelow_41 : decode cX4_isAnyBitBelow 41 = .ok (.lconst 1, 1) := by decide +kernel
theorem dX4_isAnyBitBelow_42 : decode cX4_isAnyBitBelow 42 = .ok (.lsub, 1) := by decide +kernel
theorem dX4_isAnyBitBelow_43 : decode cX4_isAnyBitBelow 43 = .ok (.land, 1) := by decide +kernel
theorem dX4_isAnyBitBelow_44 : decode cX4_isAnyBitBelow 44 = .ok (.lconst 0, 1) := by decide +kernel
theorem dX4_isAnyBitBelow_45 : decode cX4_isAnyBitBelow 45 = .ok (.lcmp, 1) := by decide +kernel
theorem dX4_isAnyBitBelow_46 : decode cX4_isAnyBitBelow 46 = .ok (.ifCond .eq 7, 3) := by decide +kernel
theorem dX4_isAnyBitBelow_49 : decode cX4_isAnyBitBelow 49 = .ok (.iconst 1, 1) := by decide +kernel
theorem dX4_isAnyBitBelow_50 : decode cX4_isAnyBitBelow 50 = .ok (.goto 4, 3) := by decide +kernel
theorem dX4_isAnyBitBelow_53 : decode cX4_isAnyBitBelow 53 = .ok (.iconst 0, 1) := by decide +kernel
theorem dX4_isAnyBitBelow_54 : decode cX4_isAnyBitBelow 54 = .ok (.ireturn, 1) := by decide +kernel
theorem dX4_multiply_0 : decode cX4_multiply 0 = .ok (.lload_n 3, 1) := by decide +kernel
theorem dX4_multiply_1 : decode cX4_multiply 1 = .ok (.lstore 6, 2) := by decide +kernel
theorem dX4_multiply_3 : decode cX4_multiply 3 = .ok (.iconst 0, 1) := by decide +kernel
theorem dX4_multiply_4 : decode cX4_multiply 4 = .ok (.istore 8, 2) := by decide +kernel
theorem dX4_multiply_6 : decode cX4_multiply 6 = .ok (.iload 8, 2) := by decide +kernel
theorem dX4_multiply_8 : decode cX4_multiply 8 = .ok (.iload 5, 2) := by decide +kernel
theorem dX4_multiply_10 : decode cX4_multiply 10 = .ok (.if_icmp .ge 58, 3) := by decide +kernel
theorem dX4_multiply_13 : decode cX4_multiply 13 = .ok (.lload 6, 2) := by decide +kernel
theorem dX4_multiply_15 : decode cX4_multiply 15 = .ok (.iload 8, 2) := by decide +kernel
theorem dX4_multiply_17 : decode cX4_multiply 17 = .ok (.aload_n 0, 1) := by decide +kernel
theorem dX4_multiply_18 : decode cX4_multiply 18 = .ok (.getfield 13, 3) := by decide +kernel
theorem dX4_multiply_21 : decode cX4_multiply 21 = .ok (.if_icmp .ge 20, 3) := by decide +kernel
theorem dX4_multiply_24 : decode cX4_multiply 24 = .ok (.aload_n 0, 1) := by decide +kernel
theorem dX4_multiply_25 : decode cX4_multiply 25 = .ok (.getfield 7, 3) := by decide +kernel
theorem dX4_multiply_28 : decode cX4_multiply 28 = .ok (.iload 8, 2) := by decide +kernel
theorem dX4_multiply_30 : decode cX4_multiply 30 = .ok (.iaload, 1) := by decide +kernel
theorem dX4_multiply_31 : decode cX4_multiply 31 = .ok (.i2l, 1) := by decide +kernel
theorem dX4_multiply_32 : decode cX4_multiply 32 = .ok (.ldc2_w 66, 3) := by decide +kernel
theorem dX4_multiply_35 : decode cX4_multiply 35 = .ok (.land, 1) := by decide +kernel
theorem dX4_multiply_36 : decode cX4_multiply 36 = .ok (.lload_n 1, 1) := by decide +kernel
theorem dX4_multiply_37 : decode cX4_multiply 37 = .ok (.lmul, 1) := by decide +kernel
theorem dX4_multiply_38 : decode cX4_multiply 38 = .ok (.goto 4, 3) := by decide +kernel
theorem dX4_multiply_41 : decode cX4_multiply 41 = .ok (.lconst 0, 1) := by decide +kernel
theorem dX4_multiply_42 : decode cX4_multiply 42 = .ok (.ladd, 1) := by decide +kernel
theorem dX4_multiply_43 : decode cX4_multiply 43 = .ok (.lstore 6, 2) := by decide +kernel
theorem dX4_multiply_45 : decode cX4_multiply 45 = .ok (.aload_n 0, 1) := by decide +kernel
theorem dX4_multiply_46 : decode cX4_multiply 46 = .ok (.getfield 7, 3) := by decide +kernel
theorem dX4_multiply_49 : decode cX4_multiply 49 = .ok (.iload 8, 2) := by decide +kernel
theorem dX4_multiply_51 : decode cX4_multiply 51 = .ok (.lload 6, 2) := by decide +kernel
theorem dX4_multiply_53 : decode cX4_multiply 53 = .ok (.l2i, 1) := by decide +kernel
theorem dX4_multiply_54 : decode cX4_multiply 54 = .ok (.iastore, 1) := by decide +kernel
theorem dX4_multiply_55 : decode cX4_multiply 55 = .ok (.lload 6, 2) := by decide +kernel
theorem dX4_multiply_57 : decode cX4_multiply 57 = .ok (.bipush 32, 2) := by decide +kernel
theorem dX4_multiply_59 : decode cX4_multiply 59 = .ok (.lushr, 1) := by decide +kernel
theorem dX4_multiply_60 : decode cX4_multiply 60 = .ok (.lstore 6, 2) := by decide +kernel
theorem dX4_multiply_62 : decode cX4_multiply 62 = .ok (.iinc 8 1, 3) := by decide +kernel
theorem dX4_multiply_65 : decode cX4_multiply 65 = .ok (.goto (-59), 3) := by decide +kernel
theorem dX4_multiply_68 : decode cX4_multiply 68 = .ok (.aload_n 0, 1) := by decide +kernel
theorem dX4_multiply_69 : decode cX4_multiply 69 = .ok (.iload 5, 2) := by decide +kernel
theorem dX4_multiply_71 : decode cX4_multiply 71 = .ok (.putfield 13, 3) := by decide +kernel
theorem dX4_multiply_74 : decode cX4_multiply 74 = .ok (.return_, 1) := by decide +kernel
theorem dX4_restOfAmount_0 : decode cX4_restOfAmount 0 = .ok (.lconst 0, 1) := by decide +kernel
theorem dX4_restOfAmount_1 : decode cX4_restOfAmount 1 = .ok (.lstore_n 3, 1) := by decide +kernel
theorem dX4_restOfAmount_2 : decode cX4_restOfAmount 2 = .ok (.aload_n 0, 1) := by decide +kernel
theorem dX4_restOfAmount_3 : decode cX4_restOfAmount 3 = .ok (.getfield 13, 3) := by decide +kernel
theorem dX4_restOfAmount_6 : decode cX4_restOfAmount 6 = .ok (.iconst 1, 1) := by decide +kernel
theorem dX4_restOfAmount_7 : decode cX4_restOfAmount 7 = .ok (.isub, 1) := by decide +kernel
theorem dX4_restOfAmount_8 : decode cX4_restOfAmount 8 = .ok (.istore 5, 2) := by decide +kernel
theorem dX4_restOfAmount_10 : decode cX4_restOfAmount 10 = .ok (.iload 5, 2) := by decide +kernel
theorem dX4_restOfAmount_12 : decode cX4_restOfAmount 12 = .ok (.ifCond .lt 35, 3) := by decide +kernel
theorem dX4_restOfAmount_15 : decode cX4_restOfAmount 15 = .ok (.lload_n 1, 1) := by decide +kernel
theorem dX4_restOfAmount_16 : decode cX4_restOfAmount 16 = .ok (.lconst 0, 1) := by decide +kernel
theorem dX4_restOfAmount_17 : decode cX4_restOfAmount 17 = .ok (.lcmp, 1) := by decide +kernel
theorem dX4_restOfAmount_18 : decode cX4_restOfAmount 18 = .ok (.ifCond .le 29, 3) := by decide +kernel
theorem dX4_restOfAmount_21 : decode cX4_restOfAmount 21 = .ok (.lload_n 3, 1) := by decide +kernel
theorem dX4_restOfAmount_22 : decode cX4_restOfAmount 22 = .ok (.bipush 32, 2) := by decide +kernel
theorem dX4_restOfAmount_24 : decode cX4_restOfAmount 24 = .ok (.lshl, 1) := by decide +kernel
theorem dX4_restOfAmount_25 : decode cX4_restOfAmount 25 = .ok (.aload_n 0, 1) := by decide +kernel
theorem dX4_restOfAmount_26 : decode cX4_restOfAmount 26 = .ok (.getfield 7, 3) := by decide +kernel
theorem dX4_restOfAmount_29 : decode cX4_restOfAmount 29 = .ok (.iload 5, 2) := by decide +kernel
theorem dX4_restOfAmount_31 : decode cX4_restOfAmount 31 = .ok (.iaload, 1) := by decide +kernel
theorem dX4_restOfAmount_32 : decode cX4_restOfAmount 32 = .ok (.i2l, 1) := by decide +kernel
theorem dX4_restOfAmount_33 : decode cX4_restOfAmount 33 = .ok (.ldc2_w 66, 3) := by decide +kernel
theorem dX4_restOfAmount_36 : decode cX4_restOfAmount 36 = .ok (.land, 1) := by decide +kernel
theorem dX4_restOfAmount_37 : decode cX4_restOfAmount 37 = .ok (.lor, 1) := by decide +kernel
theorem dX4_restOfAmount_38 : decode cX4_restOfAmount 38 = .ok (.lload_n 1, 1) := by decide +kernel
theorem dX4_restOfAmount_39 : decode cX4_restOfAmount 39 = .ok (.lrem, 1) := by decide +kernel
theorem dX4_restOfAmount_40 : decode cX4_restOfAmount 40 = .ok (.lstore_n 3, 1) := by decide +kernel
theorem dX4_restOfAmount_41 : decode cX4_restOfAmount 41 = .ok (.iinc 5 (-1), 3) := by decide +kernel
theorem dX4_restOfAmount_44 : decode cX4_restOfAmount 44 = .ok (.goto (-34), 3) := by decide +kernel
theorem dX4_restOfAmount_47 : decode cX4_restOfAmount 47 = .ok (.lload_n 3, 1) := by decide +kernel
theorem dX4_restOfAmount_48 : decode cX4_restOfAmount 48 = .ok (.lreturn, 1) := by decide +kernel
theorem dX4_toLong_0 : decode cX4_toLong 0 = .ok (.aload_n 0, 1) := by decide +kernel
theorem dX4_toLong_1 : decode cX4_toLong 1 = .ok (.getfield 17, 3) := by decide +kernel
theorem dX4_toLong_4 : decode cX4_toLong 4 = .ok (.ifCond .eq 12, 3) := by decide +kernel
theorem dX4_toLong_7 : decode cX4_toLong 7 = .ok (.aload_n 0, 1) := by decide +kernel
theorem dX4_toLong_8 : decode cX4_toLong 8 = .ok (.iconst 0, 1) := by decide +kernel
theorem dX4_toLong_9 : decode cX4_toLong 9 = .ok (.invokevirtual 73, 3) := by decide +kernel
theorem dX4_toLong_12 : decode cX4_toLong 12 = .ok (.lneg, 1) := by decide +kernel
theorem dX4_toLong_13 : decode cX4_toLong 13 = .ok (.goto 8, 3) := by decide +kernel
theorem dX4_toLong_16 : decode cX4_toLong 16 = .ok (.aload_n 0, 1) := by decide +kernel
theorem dX4_toLong_17 : decode cX4_toLong 17 = .ok (.iconst 0, 1) := by decide +kernel
theorem dX4_toLong_18 : decode cX4_toLong 18 = .ok (.invokevirtual 73, 3) := by decide +kernel
theorem dX4_toLong_21 : decode cX4_toLong 21 = .ok (.lreturn, 1) := by decide +kernel
theorem dX4_trim_0 : decode cX4_trim 0 = .ok (.aload_n 0, 1) := by decide +kernel
theorem dX4_trim_1 : decode cX4_trim 1 = .ok (.getfield 13, 3) := by decide +kernel
theorem dX4_trim_4 : decode cX4_trim 4 = .ok (.ifCond .le 30, 3) := by decide +kernel
theorem dX4_trim_7 : decode cX4_trim 7 = .ok (.aload_n 0, 1) := by decide +kernel
theorem dX4_trim_8 : decode cX4_trim 8 = .ok (.getfield 7, 3) := by decide +kernel
theorem dX4_trim_11 : decode cX4_trim 11 = .ok (.aload_n 0, 1) := by decide +kernel
theorem dX4_trim_12 : decode cX4_trim 12 = .ok (.getfield 13, 3) := by decide +kernel
theorem dX4_trim_15 : decode cX4_trim 15 = .ok (.iconst 1, 1) := by decide +kernel
theorem dX4_trim_16 : decode cX4_trim 16 = .ok (.isub, 1) := by decide +kernel
theorem dX4_trim_17 : decode cX4_trim 17 = .ok (.iaload, 1) := by decide +kernel
theorem dX4_trim_18 : decode cX4_trim 18 = .ok (.ifCond .ne 16, 3) := by decide +kernel
theorem dX4_trim_21 : decode cX4_trim 21 = .ok (.aload_n 0, 1) := by decide +kernel
theorem dX4_trim_22 : decode cX4_trim 22 = .ok (.dup, 1) := by decide +kernel
theorem dX4_trim_23 : decode cX4_trim 23 = .ok (.getfield 13, 3) := by decide +kernel
theorem dX4_trim_26 : decode cX4_trim 26 = .ok (.iconst 1, 1) := by decide +kernel
theorem dX4_trim_27 : decode cX4_trim 27 = .ok (.isub, 1) := by decide +kernel
theorem dX4_trim_28 : decode cX4_trim 28 = .ok (.putfield 13, 3) := by decide +kernel
theorem dX4_trim_31 : decode cX4_trim 31 = .ok (.goto (-31), 3) := by decide +kernel
theorem dX4_trim_34 : decode cX4_trim 34 = .ok (.aload_n 0, 1) := by decide +kernel
theorem dX4_trim_35 : decode cX4_trim 35 = .ok (.getfield 13, 3) := by decide +kernel
theorem dX4_trim_38 : decode cX4_trim 38 = .ok (.ifCond .ne 8, 3) := by decide +kernel
theorem dX4_trim_41 : decode cX4_trim 41 = .ok (.aload_n 0, 1) := by decide +kernel
theorem dX4_trim_42 : decode cX4_trim 42 = .ok (.iconst 0, 1) := by decide +kernel
theorem dX4_trim_43 : decode cX4_trim 43 = .ok (.putfield 17, 3) := by decide +kernel
theorem dX4_trim_46 : decode cX4_trim 46 = .ok (.return_, 1) := by decide +kernel
theorem dX4_turn_0 : decode cX4_turn 0 = .ok (.lconst 1, 1) := by decide +kernel
theorem dX4_turn_1 : decode cX4_turn 1 = .ok (.lstore_n 1, 1) := by decide +kernel
theorem dX4_turn_2 : decode cX4_turn 2 = .ok (.iconst 0, 1) := by decide +kernel
theorem dX4_turn_3 : decode cX4_turn 3 = .ok (.istore_n 3, 1) := by decide +kernel
theorem dX4_turn_4 : decode cX4_turn 4 = .ok (.iload_n 3, 1) := by decide +kernel
theorem dX4_turn_5 : decode cX4_turn 5 = .ok (.aload_n 0, 1) := by decide +kernel
theorem dX4_turn_6 : decode cX4_turn 6 = .ok (.getfield 13, 3) := by decide +kernel
theorem dX4_turn_9 : decode cX4_turn 9 = .ok (.if_icmp .ge 38, 3) := by decide +kernel
theorem dX4_turn_12 : decode cX4_turn 12 = .ok (.lload_n 1, 1) := by decide +kernel
theorem dX4_turn_13 : decode cX4_turn 13 = .ok (.aload_n 0, 1) := by decide +kernel
theorem dX4_turn_14 : decode cX4_turn 14 = .ok (.getfield 7, 3) := by decide +kernel
theorem dX4_turn_17 : decode cX4_turn 17 = .ok (.iload_n 3, 1) := by decide +kernel
theorem dX4_turn_18 : decode cX4_turn 18 = .ok (.iaload, 1) := by decide +kernel
theorem dX4_turn_19 : decode cX4_turn 19 = .ok (.iconst (-1), 1) := by decide +kernel
theorem dX4_turn_20 : decode cX4_turn 20 = .ok (.ixor, 1) := by decide +kernel
theorem dX4_turn_21 : decode cX4_turn 21 = .ok (.i2l, 1) := by decide +kernel
theorem dX4_turn_22 : decode cX4_turn 22 = .ok (.ldc2_w 66, 3) := by decide +kernel
theorem dX4_turn_25 : decode cX4_turn 25 = .ok (.land, 1) := by decide +kernel
theorem dX4_turn_26 : decode cX4_turn 26 = .ok (.ladd, 1) := by decide +kernel
theorem dX4_turn_27 : decode cX4_turn 27 = .ok (.lstore_n 1, 1) := by decide +kernel
theorem dX4_turn_28 : decode cX4_turn 28 = .ok (.aload_n 0, 1) := by decide +kernel
theorem dX4_turn_29 : decode cX4_turn 29 = .ok (.getfield 7, 3) := by decide +kernel
theorem dX4_turn_32 : decode cX4_turn 32 = .ok (.iload_n 3, 1) := by decide +kernel
theorem dX4_turn_33 : decode cX4_turn 33 = .ok (.lload_n 1, 1) := by decide +kernel
theorem dX4_turn_34 : decode cX4_turn 34 = .ok (.l2i, 1) := by decide +kernel
theorem dX4_turn_35 : decode cX4_turn 35 = .ok (.iastore, 1) := by decide +kernel
theorem dX4_turn_36 : decode cX4_turn 36 = .ok (.lload_n 1, 1) := by decide +kernel
theorem dX4_turn_37 : decode cX4_turn 37 = .ok (.bipush 32, 2) := by decide +kernel
theorem dX4_turn_39 : decode cX4_turn 39 = .ok (.lushr, 1) := by decide +kernel
theorem dX4_turn_40 : decode cX4_turn 40 = .ok (.lstore_n 1, 1) := by decide +kernel
theorem dX4_turn_41 : decode cX4_turn 41 = .ok (.iinc 3 1, 3) := by decide +kernel
theorem dX4_turn_44 : decode cX4_turn 44 = .ok (.goto (-40), 3) := by decide +kernel
theorem dX4_turn_47 : decode cX4_turn 47 = .ok (.aload_n 0, 1) := by decide +kernel
theorem dX4_turn_48 : decode cX4_turn 48 = .ok (.aload_n 0, 1) := by decide +kernel
theorem dX4_turn_49 : decode cX4_turn 49 = .ok (.getfield 17, 3) := by decide +kernel
theorem dX4_turn_52 : decode cX4_turn 52 = .ok (.ifCond .ne 7, 3) := by decide +kernel
theorem dX4_turn_55 : decode cX4_turn 55 = .ok (.iconst 1, 1) := by decide +kernel
theorem dX4_turn_56 : decode cX4_turn 56 = .ok (.goto 4, 3) := by decide +kernel
theorem dX4_turn_59 : decode cX4_turn 59 = .ok (.iconst 0, 1) := by decide +kernel
theorem dX4_turn_60 : decode cX4_turn 60 = .ok (.putfield 17, 3) := by decide +kernel
theorem dX4_turn_63 : decode cX4_turn 63 = .ok (.return_, 1) := by decide +kernel
set_option maxHeartbeats 4000000 in
set_option maxRecDepth 100000 in
theorem X4_trim (l : Launch) (κ : Kt) (σ0 : Gh) (this : Nat) (t_this : zk σ0 this 1) : TC l yX4_trim cX4_trim 1 none 0 0 [.ref this] κ σ0 (tqv κ fX σ0 (fun (τ : Gh) => True)) := by
  refine TC.of fX (by decide +kernel) (Nat.le_of_ble_eq_true rfl) ?_
  intro p e s m below meth c ls hcs hK hX hT hl
  obtain ⟨hx, hb, hr, hml, hown, hg, hlocks, hin⟩ := hcs
  have hown : s.vm.findClass RX4 = some m.cls := hown
  have hl : lv_has ls 1 [(0, .ref this)] := hl
  have hT0 := hT
  have n0 : (0 : Int32).toInt = 0 := by decide
  have n1 : (1 : Int32).toInt = 1 := by decide
  generalize hQ9 : tQ _ _ _ _ _ _ = Q9
  have loop0 : ∀ (n9 : Nat)  (u : Int32) (H : Heap) (locs : List Loc) (sg : Gh) (ls : Array Slot), TS κ fX σ0 sg s H locs → (zI sg this 1 = u) → (0 ≤ u.toInt) → lv_has ls 1 [(0, .ref this)] → (u.toInt) < n9 → tW p l e 0 0 κ s m #[.ref this] below meth c H locs Q9 (F0 m 0 ls []) := by
    intro n9
    induction n9 with
    | zero =>
      intro u H locs sg ls hT kthis_1 hu0 hl hm9
      exfalso
      omega
    | succ n9 ih9 =>
      have ih0 := ih9
      clear ih9
      intro u H locs s1 ls hT kthis_1 hu0 hl hm9
      have b2 := (hT.P (hT.k t_this (by decide)) (by decide)).2.1
      rw [kthis_1] at b2
      have b2l := b2.1
      have b2h := b2.2
      have bN3 := (hT.P (hT.k t_this (by decide)) (by decide)).1
      have hN4 : zN s1 this = zN σ0 this := hT.eN t_this (by decide) rfl rfl
      refine lv_aload_n hx hb dX4_trim_0 rfl (lv_at hl 0 rfl) ?_
      obtain ⟨h5, oh5, th5⟩ := hT.o1 (hT.k t_this (by decide))
      refine va_get (D := κ.1) (ci := 4) (v := .int (zI s1 this 1)) (C := RX4) (T := TX4) (N := 3) hx hb hg inX4 hown hK oh5.one 0 rfl rfl 1 (by decide) (hg _ k210) (fun _ h9 => h9) rfl dX4_trim_1 ?_
      rw [kthis_1]
      refine lv_if_le (tgt := 34) hx hb dX4_trim_4 (by decide) (fun c9 => ?_) (fun c9 => ?_)
      · have c1 := gi_le c9
        refine lv_aload_n hx hb dX4_trim_34 rfl (lv_at hl 0 rfl) ?_
        obtain ⟨h6, oh6, th6⟩ := hT.o1 (hT.k t_this (by decide))
        refine va_get (D := κ.1) (ci := 4) (v := .int (zI s1 this 1)) (C := RX4) (T := TX4) (N := 3) hx hb hg inX4 hown hK oh6.one 0 rfl rfl 1 (by decide) (hg _ k210) (fun _ h9 => h9) rfl dX4_trim_35 ?_
        rw [kthis_1]
        refine lv_if_ne (tgt := 46) hx hb dX4_trim_38 (by decide) (fun c9 => ?_) (fun c9 => ?_)
        · have c2 := gi_ne c9
          subst hQ9
          exact t_v hx hb hr hlocks hT trivial dX4_trim_46
        · have c3 := gi_eq c9
          refine lv_aload_n hx hb dX4_trim_41 rfl (lv_at hl 0 rfl) ?_
          refine lv_iconst (v := 0) hx hb dX4_trim_42 (by decide) ?_
          have hTo := hT
          refine pf1_2 hx hb hg hown hK hT (hT.k t_this (by decide)) rfl isB0 (hg _ k211) dX4_trim_43 (fun H locs s7 hus7 hT => ?_)
          have kthis_1 : zI s7 this 1 = u := (zput_o hus7 (Or.inr (by decide))).trans kthis_1
          have e8 : zI s7 this 2 = 0 := zput_at hus7
          subst hQ9
          exact t_v hx hb hr hlocks hT trivial dX4_trim_46
      · have c4 := gi_nle c9
        refine lv_aload_n hx hb dX4_trim_7 rfl (lv_at hl 0 rfl) ?_
        obtain ⟨h9, oh9, th9⟩ := hT.o1 (hT.k t_this (by decide))
        refine va_get (D := κ.1) (ci := 4) (v := .ref h9) (C := RX4) (T := TX4) (N := 3) hx hb hg inX4 hown hK oh9.one 0 rfl rfl 0 (by decide) (hg _ k209) (fun _ h9 => h9) rfl dX4_trim_8 ?_
        have bN10 := (hT.P (hT.k t_this (by decide)) (by decide)).1
        have hN11 : zN s1 this = zN σ0 this := hT.eN t_this (by decide) rfl rfl
        refine lv_aload_n hx hb dX4_trim_11 rfl (lv_at hl 0 rfl) ?_
        obtain ⟨h12, oh12, th12⟩ := hT.o1 (hT.k t_this (by decide))
        refine va_get (D := κ.1) (ci := 4) (v := .int (zI s1 this 1)) (C := RX4) (T := TX4) (N := 3) hx hb hg inX4 hown hK oh12.one 0 rfl rfl 1 (by decide) (hg _ k210) (fun _ h9 => h9) rfl dX4_trim_12 ?_
        rw [kthis_1]
        refine lv_iconst (v := 1) hx hb dX4_trim_15 (by decide) ?_
        refine lv_isub hx hb dX4_trim_16 ?_
        first | refine g_sub (by omega) (by omega) (fun t13 ht13 => ?_) | refine lv_topi (fun t13 ht13 => ?_)
        refine va_iald hx hb hK (hT.oL th9).one 0 0 rfl rfl (g_in (by omega) (by omega)) dX4_trim_17 ?_
        refine lv_topi (fun t14 ht14 => ?_)
        refine lv_if_ne (tgt := 34) hx hb dX4_trim_18 (by decide) (fun c9 => ?_) (fun c9 => ?_)
        · have c5 := gi_ne c9
          refine lv_aload_n hx hb dX4_trim_34 rfl (lv_at hl 0 rfl) ?_
          obtain ⟨h15, oh15, th15⟩ := hT.o1 (hT.k t_this (by decide))
          refine va_get (D := κ.1) (ci := 4) (v := .int (zI s1 this 1)) (C := RX4) (T := TX4) (N := 3) hx hb hg inX4 hown hK oh15.one 0 rfl rfl 1 (by decide) (hg _ k210) (fun _ h9 => h9) rfl dX4_trim_35 ?_
          rw [kthis_1]
          refine lv_if_ne (tgt := 46) hx hb dX4_trim_38 (by decide) (fun c9 => ?_) (fun c9 => ?_)
          · have c6 := gi_ne c9
            subst hQ9
            exact t_v hx hb hr hlocks hT trivial dX4_trim_46
          · have c7 := gi_eq c9
            refine lv_aload_n hx hb dX4_trim_41 rfl (lv_at hl 0 rfl) ?_
            refine lv_iconst (v := 0) hx hb dX4_trim_42 (by decide) ?_
            have hTo := hT
            refine pf1_2 hx hb hg hown hK hT (hT.k t_this (by decide)) rfl isB0 (hg _ k211) dX4_trim_43 (fun H locs s16 hus16 hT => ?_)
            have kthis_1 : zI s16 this 1 = u := (zput_o hus16 (Or.inr (by decide))).trans kthis_1
            have e17 : zI s16 this 2 = 0 := zput_at hus16
            subst hQ9
            exact t_v hx hb hr hlocks hT trivial dX4_trim_46
        · have c8 := gi_eq c9
          refine lv_aload_n hx hb dX4_trim_21 rfl (lv_at hl 0 rfl) ?_
          refine lv_dup hx hb dX4_trim_22 rfl ?_
          obtain ⟨h18, oh18, th18⟩ := hT.o1 (hT.k t_this (by decide))
          refine va_get (D := κ.1) (ci := 4) (v := .int (zI s1 this 1)) (C := RX4) (T := TX4) (N := 3) hx hb hg inX4 hown hK oh18.one 0 rfl rfl 1 (by decide) (hg _ k210) (fun _ h9 => h9) rfl dX4_trim_23 ?_
          rw [kthis_1]
          refine lv_iconst (v := 1) hx hb dX4_trim_26 (by decide) ?_
          refine lv_isub hx hb dX4_trim_27 ?_
          first | refine g_sub (by omega) (by omega) (fun t19 ht19 => ?_) | refine lv_topi (fun t19 ht19 => ?_)
          have bN20 := (hT.P (hT.k t_this (by decide)) (by decide)).1
          have hN21 : zN s1 this = zN σ0 this := hT.eN t_this (by decide) rfl rfl
          have hTo := hT
          refine pf1_1 hx hb hg hown hK hT (hT.k t_this (by decide)) rfl ⟨by omega, by omega⟩ (hg _ k210) dX4_trim_28 (fun H locs s22 hus22 hT => ?_)
          have e23 : zI s22 this 1 = t19 := zput_at hus22
          refine lv_goto (tgt := 0) hx hb dX4_trim_31 (by decide) ?_
          exact ih0 t19 _ _ _ _ hT e23 (by omega) hl (by omega)
  obtain ⟨v24, ev24⟩ : ∃ zz9 : Int32, zI σ0 this 1 = zz9 := ⟨_, rfl⟩
  have qv24 : v24.toInt = (zI σ0 this 1).toInt := by rw [ev24]
  have b25 := (hT.P (hT.k t_this (by decide)) (by decide)).2.1
  rw [ev24] at b25
  have b25l := b25.1
  have b25h := b25.2
  have bN26 := (hT.P (hT.k t_this (by decide)) (by decide)).1
  have hN27 : zN σ0 this = zN σ0 this := hT.eN t_this (by decide) rfl rfl
  exact loop0 ((v24.toInt).toNat + 1) v24 _ _ _ _ hT ev24 (by omega) hl (by omega)
set_option maxHeartbeats 4000000 in
set_option maxRecDepth 100000 in
theorem X4_compareAmount (l : Launch) (κ : Kt) (σ0 : Gh) (this : Nat) (o : Nat) (t_this : zk σ0 this 1) (t_o : zk σ0 o 1) : TC l yX4_compareAmount cX4_compareAmount 3 (some .int) 0 0 [.ref this, .ref o] κ σ0 (tqi κ fE σ0 (fun (r : Int32) (τ : Gh) => True)) := by
  refine TC.of fE (by decide +kernel) (Nat.le_of_ble_eq_true rfl) ?_
  intro p e s m below meth c ls hcs hK hX hT hl
  obtain ⟨hx, hb, hr, hml, hown, hg, hlocks, hin⟩ := hcs
  have hown : s.vm.findClass RX4 = some m.cls := hown
  have hl : lv_has ls 3 [(0, .ref this), (1, .ref o)] := hl
  have hT0 := hT
  have nm1 : ((-1) : Int32).toInt = (-1) := by decide
  have n0 : (0 : Int32).toInt = 0 := by decide
  have n1 : (1 : Int32).toInt = 1 := by decide
  have j4294967295 : (4294967295 : Int64).toInt = 4294967295 := by decide
  generalize hQ9 : tQ _ _ _ _ _ _ = Q9
  refine lv_aload_n hx hb dX4_compareAmount_0 rfl (lv_at hl 0 rfl) ?_
  obtain ⟨h1, oh1, th1⟩ := hT.o1 (hT.k t_this (by decide))
  obtain ⟨v2, ev2⟩ : ∃ zz9 : Int32, zI σ0 this 1 = zz9 := ⟨_, rfl⟩
  have qv2 : v2.toInt = (zI σ0 this 1).toInt := by rw [ev2]
  have b3 := (hT.P (hT.k t_this (by decide)) (by decide)).2.1
  rw [(hT.eI t_this (by decide) rfl ev2)] at b3
  have b3l := b3.1
  have b3h := b3.2
  have bN4 := (hT.P (hT.k t_this (by decide)) (by decide)).1
  have hN5 : zN σ0 this = zN σ0 this := hT.eN t_this (by decide) rfl rfl
  refine va_get (D := κ.1) (ci := 4) (v := .int (zI σ0 this 1)) (C := RX4) (T := TX4) (N := 3) hx hb hg inX4 hown hK oh1.one 0 rfl rfl 1 (by decide) (hg _ k210) (fun _ h9 => h9) rfl dX4_compareAmount_1 ?_
  rw [(hT.eI t_this (by decide) rfl ev2)]
  refine lv_aload_n hx hb dX4_compareAmount_4 rfl (lv_at hl 1 rfl) ?_
  obtain ⟨h6, oh6, th6⟩ := hT.o1 (hT.k t_o (by decide))
  obtain ⟨v7, ev7⟩ : ∃ zz9 : Int32, zI σ0 o 1 = zz9 := ⟨_, rfl⟩
  have qv7 : v7.toInt = (zI σ0 o 1).toInt := by rw [ev7]
  have b8 := (hT.P (hT.k t_o (by decide)) (by decide)).2.1
  rw [(hT.eI t_o (by decide) rfl ev7)] at b8
  have b8l := b8.1
  have b8h := b8.2
  have bN9 := (hT.P (hT.k t_o (by decide)) (by decide)).1
  have hN10 : zN σ0 o = zN σ0 o := hT.eN t_o (by decide) rfl rfl
  refine va_get (D := κ.1) (ci := 4) (v := .int (zI σ0 o 1)) (C := RX4) (T := TX4) (N := 3) hx hb hg inX4 hown hK oh6.one 0 rfl rfl 1 (by decide) (hg _ k210) (fun _ h9 => h9) rfl dX4_compareAmount_5 ?_
  rw [(hT.eI t_o (by decide) rfl ev7)]
  refine lv_icmp_eq (tgt := 28) hx hb dX4_compareAmount_8 (by decide) (fun c9 => ?_) (fun c9 => ?_)
  · have c1 := gi_eq c9
    refine lv_aload_n hx hb dX4_compareAmount_28 rfl (lv_at hl 0 rfl) ?_
    obtain ⟨h11, oh11, th11⟩ := hT.o1 (hT.k t_this (by decide))
    refine va_get (D := κ.1) (ci := 4) (v := .int (zI σ0 this 1)) (C := RX4) (T := TX4) (N := 3) hx hb hg inX4 hown hK oh11.one 0 rfl rfl 1 (by decide) (hg _ k210) (fun _ h9 => h9) rfl dX4_compareAmount_29 ?_
    rw [(hT.eI t_this (by decide) rfl ev2)]
    refine lv_iconst (v := 1) hx hb dX4_compareAmount_32 (by decide) ?_
    refine lv_isub hx hb dX4_compareAmount_33 ?_
    first | refine g_sub (by omega) (by omega) (fun t12 ht12 => ?_) | refine lv_topi (fun t12 ht12 => ?_)
    refine lv_istore_n (lv' := [(2, .int t12), (0, .ref this), (1, .ref o)]) hx hb dX4_compareAmount_34 rfl hl (by decide) rfl (fun ls hl => ?_)
    have loop35 : ∀ (n9 : Nat) (i : Int32) (H : Heap) (locs : List Loc) (sg : Gh) (ls : Array Slot), TS κ fE σ0 sg s H locs → (-1 ≤ i.toInt) → (i.toInt < zN σ0 this) → (i.toInt < zN σ0 o) → lv_has ls 3 [(2, .int i), (0, .ref this), (1, .ref o)] → (i.toInt + 1) < n9 → tW p l e 0 0 κ s m #[.ref this, .ref o] below meth c H locs Q9 (F0 m 35 ls []) := by
      intro n9
      induction n9 with
      | zero =>
        intro i H locs sg ls hT q1 q2 q3 hl hm9
        exfalso
        omega
      | succ n9 ih9 =>
        have ih35 := ih9
        clear ih9
        intro i H locs s13 ls hT q1 q2 q3 hl hm9
        refine lv_iload_n hx hb dX4_compareAmount_35 rfl (lv_at hl 0 rfl) ?_
        refine lv_if_lt (tgt := 92) hx hb dX4_compareAmount_36 (by decide) (fun c9 => ?_) (fun c9 => ?_)
        · have c2 := gi_lt c9
          refine lv_iconst (v := 0) hx hb dX4_compareAmount_92 (by decide) ?_
          subst hQ9
          exact t_i hx hb hr hlocks hT trivial dX4_compareAmount_93
        · have c3 := gi_nlt c9
          refine lv_aload_n hx hb dX4_compareAmount_39 rfl (lv_at hl 1 rfl) ?_
          obtain ⟨h14, oh14, th14⟩ := hT.o1 (hT.k t_this (by decide))
          refine va_get (D := κ.1) (ci := 4) (v := .ref h14) (C := RX4) (T := TX4) (N := 3) hx hb hg inX4 hown hK oh14.one 0 rfl rfl 0 (by decide) (hg _ k209) (fun _ h9 => h9) rfl dX4_compareAmount_40 ?_
          have bN15 := (hT.P (hT.k t_this (by decide)) (by decide)).1
          have hN16 : zN s13 this = zN σ0 this := hT.eN t_this (by decide) rfl rfl
          refine lv_iload_n hx hb dX4_compareAmount_43 rfl (lv_at hl 0 rfl) ?_
          refine va_iald hx hb hK (hT.oL th14).one 0 0 rfl rfl (g_in (by omega) (by omega)) dX4_compareAmount_44 ?_
          refine lv_topi (fun t17 ht17 => ?_)
          refine lv_aload_n hx hb dX4_compareAmount_45 rfl (lv_at hl 2 rfl) ?_
          obtain ⟨h18, oh18, th18⟩ := hT.o1 (hT.k t_o (by decide))
          refine va_get (D := κ.1) (ci := 4) (v := .ref h18) (C := RX4) (T := TX4) (N := 3) hx hb hg inX4 hown hK oh18.one 0 rfl rfl 0 (by decide) (hg _ k209) (fun _ h9 => h9) rfl dX4_compareAmount_46 ?_
          have bN19 := (hT.P (hT.k t_o (by decide)) (by decide)).1
          have hN20 : zN s13 o = zN σ0 o := hT.eN t_o (by decide) rfl rfl
          refine lv_iload_n hx hb dX4_compareAmount_49 rfl (lv_at hl 0 rfl) ?_
          refine va_iald hx hb hK (hT.oL th18).one 0 0 rfl rfl (g_in (by omega) (by omega)) dX4_compareAmount_50 ?_
          refine lv_topi (fun t21 ht21 => ?_)
          refine lv_icmp_eq (tgt := 86) hx hb dX4_compareAmount_51 (by decide) (fun c9 => ?_) (fun c9 => ?_)
          · have c4 := gi_eq c9
            obtain ⟨t22, qt22⟩ : ∃ zz9 : Int32, i + Int32.ofInt (-1) = zz9 := ⟨_, rfl⟩
            refine lv_iinc (v := t22) (lv' := [(2, .int t22), (0, .ref this), (1, .ref o)]) hx hb dX4_compareAmount_86 hl (k := 0) rfl qt22 (by decide) rfl (fun ls hl => ?_)
            have ht22 : t22.toInt = i.toInt + (-1) := by rw [← qt22]; exact v_addi rfl (show (Int32.ofInt (-1)).toInt = (-1) from by decide) (by omega) (by omega)
            refine lv_goto (tgt := 35) hx hb dX4_compareAmount_89 (by decide) ?_
            exact ih35 t22 _ _ _ _ hT  (by omega) (by omega) (by omega) hl (by omega)
          · have c5 := gi_ne c9
            refine lv_aload_n hx hb dX4_compareAmount_54 rfl (lv_at hl 1 rfl) ?_
            obtain ⟨h23, oh23, th23⟩ := hT.o1 (hT.k t_this (by decide))
            refine va_get (D := κ.1) (ci := 4) (v := .ref h23) (C := RX4) (T := TX4) (N := 3) hx hb hg inX4 hown hK oh23.one 0 rfl rfl 0 (by decide) (hg _ k209) (fun _ h9 => h9) rfl dX4_compareAmount_55 ?_
            have bN24 := (hT.P (hT.k t_this (by decide)) (by decide)).1
            have hN25 : zN s13 this = zN σ0 this := hT.eN t_this (by decide) rfl rfl
            refine lv_iload_n hx hb dX4_compareAmount_58 rfl (lv_at hl 0 rfl) ?_
            refine va_iald hx hb hK (hT.oL th23).one 0 0 rfl rfl (g_in (by omega) (by omega)) dX4_compareAmount_59 ?_
            refine lv_topi (fun t26 ht26 => ?_)
            refine lv_i2l hx hb dX4_compareAmount_60 rfl ?_
            refine g_i2l (fun t27 ht27 => ?_)
            refine lv_ldc2 hx hb hown (hg _ k348) dX4_compareAmount_61 ?_
            refine lv_land hx hb dX4_compareAmount_64 ?_
            refine lv_topl (fun t28 ht28 => ?_)
            refine lv_aload_n hx hb dX4_compareAmount_65 rfl (lv_at hl 2 rfl) ?_
            obtain ⟨h29, oh29, th29⟩ := hT.o1 (hT.k t_o (by decide))
            refine va_get (D := κ.1) (ci := 4) (v := .ref h29) (C := RX4) (T := TX4) (N := 3) hx hb hg inX4 hown hK oh29.one 0 rfl rfl 0 (by decide) (hg _ k209) (fun _ h9 => h9) rfl dX4_compareAmount_66 ?_
            have bN30 := (hT.P (hT.k t_o (by decide)) (by decide)).1
            have hN31 : zN s13 o = zN σ0 o := hT.eN t_o (by decide) rfl rfl
            refine lv_iload_n hx hb dX4_compareAmount_69 rfl (lv_at hl 0 rfl) ?_
            refine va_iald hx hb hK (hT.oL th29).one 0 0 rfl rfl (g_in (by omega) (by omega)) dX4_compareAmount_70 ?_
            refine lv_topi (fun t32 ht32 => ?_)
            refine lv_i2l hx hb dX4_compareAmount_71 rfl ?_
            refine g_i2l (fun t33 ht33 => ?_)
            refine lv_ldc2 hx hb hown (hg _ k348) dX4_compareAmount_72 ?_
            refine lv_land hx hb dX4_compareAmount_75 ?_
            refine lv_topl (fun t34 ht34 => ?_)
            refine W.lcmp hx hb dX4_compareAmount_76 ?_
            refine lv_if_ge (tgt := 84) hx hb dX4_compareAmount_77 (by decide) (fun c9 => ?_) (fun c9 => ?_)
            · have c6 := gl_ge c9
              refine lv_iconst (v := 1) hx hb dX4_compareAmount_84 (by decide) ?_
              subst hQ9
              exact t_i hx hb hr hlocks hT trivial dX4_compareAmount_85
            · have c7 := gl_nge c9
              refine lv_iconst (v := (-1)) hx hb dX4_compareAmount_80 (by decide) ?_
              refine lv_goto (tgt := 85) hx hb dX4_compareAmount_81 (by decide) ?_
              subst hQ9
              exact t_i hx hb hr hlocks hT trivial dX4_compareAmount_85
    exact loop35 ((t12.toInt + 1).toNat + 1) t12 _ _ _ _ hT  (by omega) (by omega) (by omega) hl (by omega)
  · have c8 := gi_ne c9
    refine lv_aload_n hx hb dX4_compareAmount_11 rfl (lv_at hl 0 rfl) ?_
    obtain ⟨h35, oh35, th35⟩ := hT.o1 (hT.k t_this (by decide))
    refine va_get (D := κ.1) (ci := 4) (v := .int (zI σ0 this 1)) (C := RX4) (T := TX4) (N := 3) hx hb hg inX4 hown hK oh35.one 0 rfl rfl 1 (by decide) (hg _ k210) (fun _ h9 => h9) rfl dX4_compareAmount_12 ?_
    rw [(hT.eI t_this (by decide) rfl ev2)]
    refine lv_aload_n hx hb dX4_compareAmount_15 rfl (lv_at hl 1 rfl) ?_
    obtain ⟨h36, oh36, th36⟩ := hT.o1 (hT.k t_o (by decide))
    refine va_get (D := κ.1) (ci := 4) (v := .int (zI σ0 o 1)) (C := RX4) (T := TX4) (N := 3) hx hb hg inX4 hown hK oh36.one 0 rfl rfl 1 (by decide) (hg _ k210) (fun _ h9 => h9) rfl dX4_compareAmount_16 ?_
    rw [(hT.eI t_o (by decide) rfl ev7)]
    refine lv_icmp_ge (tgt := 26) hx hb dX4_compareAmount_19 (by decide) (fun c9 => ?_) (fun c9 => ?_)
    · have c9 := gi_le c9
      refine lv_iconst (v := 1) hx hb dX4_compareAmount_26 (by decide) ?_
      subst hQ9
      exact t_i hx hb hr hlocks hT trivial dX4_compareAmount_27
    · have c10 := gi_nle c9
      refine lv_iconst (v := (-1)) hx hb dX4_compareAmount_22 (by decide) ?_
      refine lv_goto (tgt := 27) hx hb dX4_compareAmount_23 (by decide) ?_
      subst hQ9
      exact t_i hx hb hr hlocks hT trivial dX4_compareAmount_27
set_option maxHeartbeats 4000000 in
set_option maxRecDepth 100000 in
theorem X4_restOfAmount (l : Launch) (κ : Kt) (σ0 : Gh) (this : Nat) (f : Int64) (t_this : zk σ0 this 1) : TC l yX4_restOfAmount cX4_restOfAmount 6 (some .long) 0 0 [.ref this, .long f] κ σ0 (tql κ fE σ0 (fun (r : Int64) (τ : Gh) => True)) := by
  refine TC.of fE (by decide +kernel) (Nat.le_of_ble_eq_true rfl) ?_
  intro p e s m below meth c ls hcs hK hX hT hl
  obtain ⟨hx, hb, hr, hml, hown, hg, hlocks, hin⟩ := hcs
  have hown : s.vm.findClass RX4 = some m.cls := hown
  have hl : lv_has ls 6 [(0, .ref this), (1, .long f)] := hl
  have hT0 := hT
  have n0 : (0 : Int32).toInt = 0 := by decide
  have n1 : (1 : Int32).toInt = 1 := by decide
  have n32 : (32 : Int32).toInt = 32 := by decide
  have j0 : (0 : Int64).toInt = 0 := by decide
  have j4294967295 : (4294967295 : Int64).toInt = 4294967295 := by decide
  generalize hQ9 : tQ _ _ _ _ _ _ = Q9
  refine lv_lconst (v := 0) hx hb dX4_restOfAmount_0 (by decide) ?_
  refine lv_lstore_n (lv' := [(3, .long 0), (0, .ref this), (1, .long f)]) hx hb dX4_restOfAmount_1 rfl hl (by decide) rfl (fun ls hl => ?_)
  refine lv_aload_n hx hb dX4_restOfAmount_2 rfl (lv_at hl 1 rfl) ?_
  obtain ⟨h1, oh1, th1⟩ := hT.o1 (hT.k t_this (by decide))
  obtain ⟨v2, ev2⟩ : ∃ zz9 : Int32, zI σ0 this 1 = zz9 := ⟨_, rfl⟩
  have qv2 : v2.toInt = (zI σ0 this 1).toInt := by rw [ev2]
  have b3 := (hT.P (hT.k t_this (by decide)) (by decide)).2.1
  rw [(hT.eI t_this (by decide) rfl ev2)] at b3
  have b3l := b3.1
  have b3h := b3.2
  have bN4 := (hT.P (hT.k t_this (by decide)) (by decide)).1
  have hN5 : zN σ0 this = zN σ0 this := hT.eN t_this (by decide) rfl rfl
  refine va_get (D := κ.1) (ci := 4) (v := .int (zI σ0 this 1)) (C := RX4) (T := TX4) (N := 3) hx hb hg inX4 hown hK oh1.one 0 rfl rfl 1 (by decide) (hg _ k210) (fun _ h9 => h9) rfl dX4_restOfAmount_3 ?_
  rw [(hT.eI t_this (by decide) rfl ev2)]
  refine lv_iconst (v := 1) hx hb dX4_restOfAmount_6 (by decide) ?_
  refine lv_isub hx hb dX4_restOfAmount_7 ?_
  first | refine g_sub (by omega) (by omega) (fun t6 ht6 => ?_) | refine lv_topi (fun t6 ht6 => ?_)
  refine lv_istore (lv' := [(5, .int t6), (3, .long 0), (0, .ref this), (1, .long f)]) hx hb dX4_restOfAmount_8 hl (by decide) rfl (fun ls hl => ?_)
  have loop10 : ∀ (n9 : Nat) (rst : Int64) (i : Int32) (H : Heap) (locs : List Loc) (sg : Gh) (ls : Array Slot), TS κ fE σ0 sg s H locs → (-1 ≤ i.toInt) → (i.toInt < zN σ0 this) → lv_has ls 6 [(3, .long rst), (5, .int i), (0, .ref this), (1, .long f)] → (i.toInt + 1) < n9 → tW p l e 0 0 κ s m #[.ref this, .long f] below meth c H locs Q9 (F0 m 10 ls []) := by
    intro n9
    induction n9 with
    | zero =>
      intro rst i H locs sg ls hT q1 q2 hl hm9
      exfalso
      omega
    | succ n9 ih9 =>
      have ih10 := ih9
      clear ih9
      intro rst i H locs s7 ls hT q1 q2 hl hm9
      refine lv_iload hx hb dX4_restOfAmount_10 (lv_at hl 1 rfl) ?_
      refine lv_if_lt (tgt := 47) hx hb dX4_restOfAmount_12 (by decide) (fun c9 => ?_) (fun c9 => ?_)
      · have c1 := gi_lt c9
        refine lv_lload_n hx hb dX4_restOfAmount_47 rfl (lv_at hl 0 rfl) ?_
        subst hQ9
        exact t_l hx hb hr hlocks hT trivial dX4_restOfAmount_48
      · have c2 := gi_nlt c9
        refine lv_lload_n hx hb dX4_restOfAmount_15 rfl (lv_at hl 3 rfl) ?_
        refine lv_lconst (v := 0) hx hb dX4_restOfAmount_16 (by decide) ?_
        refine W.lcmp hx hb dX4_restOfAmount_17 ?_
        refine lv_if_le (tgt := 47) hx hb dX4_restOfAmount_18 (by decide) (fun c9 => ?_) (fun c9 => ?_)
        · have c3 := gl_le c9
          refine lv_lload_n hx hb dX4_restOfAmount_47 rfl (lv_at hl 0 rfl) ?_
          subst hQ9
          exact t_l hx hb hr hlocks hT trivial dX4_restOfAmount_48
        · have c4 := gl_nle c9
          refine lv_lload_n hx hb dX4_restOfAmount_21 rfl (lv_at hl 0 rfl) ?_
          refine lv_bipush (v := 32) hx hb dX4_restOfAmount_22 (by decide) ?_
          refine lv_lshl hx hb dX4_restOfAmount_24 rfl ?_
          refine lv_topl (fun t8 ht8 => ?_)
          refine lv_aload_n hx hb dX4_restOfAmount_25 rfl (lv_at hl 2 rfl) ?_
          obtain ⟨h9, oh9, th9⟩ := hT.o1 (hT.k t_this (by decide))
          refine va_get (D := κ.1) (ci := 4) (v := .ref h9) (C := RX4) (T := TX4) (N := 3) hx hb hg inX4 hown hK oh9.one 0 rfl rfl 0 (by decide) (hg _ k209) (fun _ h9 => h9) rfl dX4_restOfAmount_26 ?_
          have bN10 := (hT.P (hT.k t_this (by decide)) (by decide)).1
          have hN11 : zN s7 this = zN σ0 this := hT.eN t_this (by decide) rfl rfl
          refine lv_iload hx hb dX4_restOfAmount_29 (lv_at hl 1 rfl) ?_
          refine va_iald hx hb hK (hT.oL th9).one 0 0 rfl rfl (g_in (by omega) (by omega)) dX4_restOfAmount_31 ?_
          refine lv_topi (fun t12 ht12 => ?_)
          refine lv_i2l hx hb dX4_restOfAmount_32 rfl ?_
          refine g_i2l (fun t13 ht13 => ?_)
          refine lv_ldc2 hx hb hown (hg _ k348) dX4_restOfAmount_33 ?_
          refine lv_land hx hb dX4_restOfAmount_36 ?_
          refine lv_topl (fun t14 ht14 => ?_)
          refine lv_lor hx hb dX4_restOfAmount_37 ?_
          refine lv_topl (fun t15 ht15 => ?_)
          refine lv_lload_n hx hb dX4_restOfAmount_38 rfl (lv_at hl 3 rfl) ?_
          refine lv_lrem hx hb dX4_restOfAmount_39 (gl_nz (by omega)) ?_
          refine lv_topl (fun t16 ht16 => ?_)
          refine lv_lstore_n (lv' := [(3, .long t16), (5, .int i), (0, .ref this), (1, .long f)]) hx hb dX4_restOfAmount_40 rfl hl (by decide) rfl (fun ls hl => ?_)
          obtain ⟨t17, qt17⟩ : ∃ zz9 : Int32, i + Int32.ofInt (-1) = zz9 := ⟨_, rfl⟩
          refine lv_iinc (v := t17) (lv' := [(5, .int t17), (3, .long t16), (0, .ref this), (1, .long f)]) hx hb dX4_restOfAmount_41 hl (k := 1) rfl qt17 (by decide) rfl (fun ls hl => ?_)
          have ht17 : t17.toInt = i.toInt + (-1) := by rw [← qt17]; exact v_addi rfl (show (Int32.ofInt (-1)).toInt = (-1) from by decide) (by omega) (by omega)
          refine lv_goto (tgt := 10) hx hb dX4_restOfAmount_44 (by decide) ?_
          exact ih10 t16 t17 _ _ _ _ hT  (by omega) (by omega) (lv_sub hl [1, 0, 2, 3] rfl) (by omega)
  exact loop10 ((t6.toInt + 1).toNat + 1) 0 t6 _ _ _ _ hT  (by omega) (by omega) (lv_sub hl [1, 0, 2, 3] rfl) (by omega)
set_option maxHeartbeats 4000000 in
set_option maxRecDepth 100000 in
theorem X4_bitsOfAmount (l : Launch) (κ : Kt) (σ0 : Gh) (this : Nat) (t_this : zk σ0 this 1) : TC l yX4_bitsOfAmount cX4_bitsOfAmount 1 (some .int) 1 21 [.ref this] κ σ0 (tqi κ fE σ0 (fun (r : Int32) (τ : Gh) => True)) := by
  refine TC.of fE (by decide +kernel) (Nat.le_of_ble_eq_true rfl) ?_
  intro p e s m below meth c ls hcs hK hX hT hl
  obtain ⟨hx, hb, hr, hml, hown, hg, hlocks, hin⟩ := hcs
  have hown : s.vm.findClass RX4 = some m.cls := hown
  have hl : lv_has ls 1 [(0, .ref this)] := hl
  have hT0 := hT
  have n0 : (0 : Int32).toInt = 0 := by decide
  have n1 : (1 : Int32).toInt = 1 := by decide
  have n32 : (32 : Int32).toInt = 32 := by decide
  generalize hQ9 : tQ _ _ _ _ _ _ = Q9
  refine lv_aload_n hx hb dX4_bitsOfAmount_0 rfl (lv_at hl 0 rfl) ?_
  obtain ⟨h1, oh1, th1⟩ := hT.o1 (hT.k t_this (by decide))
  obtain ⟨v2, ev2⟩ : ∃ zz9 : Int32, zI σ0 this 1 = zz9 := ⟨_, rfl⟩
  have qv2 : v2.toInt = (zI σ0 this 1).toInt := by rw [ev2]
  have b3 := (hT.P (hT.k t_this (by decide)) (by decide)).2.1
  rw [(hT.eI t_this (by decide) rfl ev2)] at b3
  have b3l := b3.1
  have b3h := b3.2
  have bN4 := (hT.P (hT.k t_this (by decide)) (by decide)).1
  have hN5 : zN σ0 this = zN σ0 this := hT.eN t_this (by decide) rfl rfl
  refine va_get (D := κ.1) (ci := 4) (v := .int (zI σ0 this 1)) (C := RX4) (T := TX4) (N := 3) hx hb hg inX4 hown hK oh1.one 0 rfl rfl 1 (by decide) (hg _ k210) (fun _ h9 => h9) rfl dX4_bitsOfAmount_1 ?_
  rw [(hT.eI t_this (by decide) rfl ev2)]
  refine lv_if_ne (tgt := 11) hx hb dX4_bitsOfAmount_4 (by decide) (fun c9 => ?_) (fun c9 => ?_)
  · have c1 := gi_ne c9
    refine lv_aload_n hx hb dX4_bitsOfAmount_11 rfl (lv_at hl 0 rfl) ?_
    obtain ⟨h6, oh6, th6⟩ := hT.o1 (hT.k t_this (by decide))
    refine va_get (D := κ.1) (ci := 4) (v := .int (zI σ0 this 1)) (C := RX4) (T := TX4) (N := 3) hx hb hg inX4 hown hK oh6.one 0 rfl rfl 1 (by decide) (hg _ k210) (fun _ h9 => h9) rfl dX4_bitsOfAmount_12 ?_
    rw [(hT.eI t_this (by decide) rfl ev2)]
    refine lv_bipush (v := 32) hx hb dX4_bitsOfAmount_15 (by decide) ?_
    refine lv_imul hx hb dX4_bitsOfAmount_17 ?_
    first | (refine g_mul (by rw [n32]; omega) (by rw [n32]; omega) (fun t7 ht7 => ?_); rw [n32] at ht7) | refine lv_topi (fun t7 ht7 => ?_)
    refine lv_aload_n hx hb dX4_bitsOfAmount_18 rfl (lv_at hl 0 rfl) ?_
    obtain ⟨h8, oh8, th8⟩ := hT.o1 (hT.k t_this (by decide))
    refine va_get (D := κ.1) (ci := 4) (v := .ref h8) (C := RX4) (T := TX4) (N := 3) hx hb hg inX4 hown hK oh8.one 0 rfl rfl 0 (by decide) (hg _ k209) (fun _ h9 => h9) rfl dX4_bitsOfAmount_19 ?_
    have bN9 := (hT.P (hT.k t_this (by decide)) (by decide)).1
    have hN10 : zN σ0 this = zN σ0 this := hT.eN t_this (by decide) rfl rfl
    refine lv_aload_n hx hb dX4_bitsOfAmount_22 rfl (lv_at hl 0 rfl) ?_
    obtain ⟨h11, oh11, th11⟩ := hT.o1 (hT.k t_this (by decide))
    refine va_get (D := κ.1) (ci := 4) (v := .int (zI σ0 this 1)) (C := RX4) (T := TX4) (N := 3) hx hb hg inX4 hown hK oh11.one 0 rfl rfl 1 (by decide) (hg _ k210) (fun _ h9 => h9) rfl dX4_bitsOfAmount_23 ?_
    rw [(hT.eI t_this (by decide) rfl ev2)]
    refine lv_iconst (v := 1) hx hb dX4_bitsOfAmount_26 (by decide) ?_
    refine lv_isub hx hb dX4_bitsOfAmount_27 ?_
    first | refine g_sub (by omega) (by omega) (fun t12 ht12 => ?_) | refine lv_topi (fun t12 ht12 => ?_)
    refine va_iald hx hb hK (hT.oL th8).one 0 0 rfl rfl (g_in (by omega) (by omega)) dX4_bitsOfAmount_28 ?_
    refine lv_topi (fun t13 ht13 => ?_)
    have hTo := hT
    refine tTi (n := 1) (As := [.int t13]) (rest := [.int t7]) hx hb hml hown hg hT hK hX (J_nlz l κ σ0 t13   ) (fun _ _ h => h) (mwI k481) ⟨by decide, by decide, by decide +kernel⟩ ⟨(Nat.le_of_ble_eq_true rfl), (Nat.le_of_ble_eq_true rfl)⟩ k102 k479 k480 rfl hl.1 rfl (Nat.le_of_ble_eq_true rfl) dX4_bitsOfAmount_29 zroom.rf (fun x14 s15 H locs hφ hEs15 hT => ?_)
    refine lv_isub hx hb dX4_bitsOfAmount_32 ?_
    first | refine g_sub (by omega) (by omega) (fun t16 ht16 => ?_) | refine lv_topi (fun t16 ht16 => ?_)
    subst hQ9
    exact t_i hx hb hr hlocks hT trivial dX4_bitsOfAmount_33
  · have c2 := gi_eq c9
    refine lv_iconst (v := 0) hx hb dX4_bitsOfAmount_7 (by decide) ?_
    refine lv_goto (tgt := 33) hx hb dX4_bitsOfAmount_8 (by decide) ?_
    subst hQ9
    exact t_i hx hb hr hlocks hT trivial dX4_bitsOfAmount_33
set_option maxHeartbeats 4000000 in
set_option maxRecDepth 100000 in
theorem X4_amountFrom (l : Launch) (κ : Kt) (σ0 : Gh) (this : Nat) (i : Int32) (t_this : zk σ0 this 1) (h0 : 0 ≤ i.toInt) : TC l yX4_amountFrom cX4_amountFrom 6 (some .long) 1 21 [.ref this, .int i] κ σ0 (tql κ fE σ0 (fun (r : Int64) (τ : Gh) => True)) := by
  refine TC.of fE (by decide +kernel) (Nat.le_of_ble_eq_true rfl) ?_
  intro p e s m below meth c ls hcs hK hX hT hl
  obtain ⟨hx, hb, hr, hml, hown, hg, hlocks, hin⟩ := hcs
  have hown : s.vm.findClass RX4 = some m.cls := hown
  have hl : lv_has ls 6 [(0, .ref this), (1, .int i)] := hl
  have hT0 := hT
  have n0 : (0 : Int32).toInt = 0 := by decide
  have n1 : (1 : Int32).toInt = 1 := by decide
  have n2 : (2 : Int32).toInt = 2 := by decide
  have n32 : (32 : Int32).toInt = 32 := by decide
  have n64 : (64 : Int32).toInt = 64 := by decide
  have i_lo := Int32.le_toInt i
  have i_hi := Int32.toInt_lt i
  generalize hQ9 : tQ _ _ _ _ _ _ = Q9
  refine lv_iload_n hx hb dX4_amountFrom_0 rfl (lv_at hl 1 rfl) ?_
  refine lv_bipush (v := 32) hx hb dX4_amountFrom_1 (by decide) ?_
  refine lv_idiv hx hb dX4_amountFrom_3 (by decide) ?_
  first | refine g_div (k := 32) n32 (by decide) (by omega) (fun t1 ht1 => ?_) | refine lv_topi (fun t1 ht1 => ?_)
  refine lv_istore_n (lv' := [(2, .int t1), (0, .ref this), (1, .int i)]) hx hb dX4_amountFrom_4 rfl hl (by decide) rfl (fun ls hl => ?_)
  refine lv_iload_n hx hb dX4_amountFrom_5 rfl (lv_at hl 2 rfl) ?_
  refine lv_bipush (v := 32) hx hb dX4_amountFrom_6 (by decide) ?_
  refine lv_irem hx hb dX4_amountFrom_8 (by decide) ?_
  refine lv_topi (fun t2 ht2 => ?_)
  refine lv_istore_n (lv' := [(3, .int t2), (2, .int t1), (0, .ref this), (1, .int i)]) hx hb dX4_amountFrom_9 rfl hl (by decide) rfl (fun ls hl => ?_)
  refine lv_aload_n hx hb dX4_amountFrom_10 rfl (lv_at hl 2 rfl) ?_
  refine lv_iload_n hx hb dX4_amountFrom_11 rfl (lv_at hl 1 rfl) ?_
  refine lv_iconst (v := 1) hx hb dX4_amountFrom_12 (by decide) ?_
  refine lv_iadd hx hb dX4_amountFrom_13 ?_
  first | refine g_add (by omega) (by omega) (fun t3 ht3 => ?_) | refine lv_topi (fun t3 ht3 => ?_)
  obtain ⟨h6, oh6, th6⟩ := hT.o1 (hT.k t_this (by decide))
  have hTo := hT
  refine tVl (n := 1) (As := [.int t3]) (rest := []) hx hb hml hown hg hT hK hX (X4_limbAt l κ σ0 this t3  (hT.k t_this (by decide)) (by omega)) (fun _ _ h => h) (mwV k443 k445 k6 k88 k446) ⟨rfl, by decide, by decide, by decide +kernel⟩ ⟨(Nat.le_of_ble_eq_true rfl), (Nat.le_of_ble_eq_true rfl)⟩ oh6 rfl rfl hl.1 rfl (Nat.le_of_ble_eq_true rfl) dX4_amountFrom_14 zroom.rf (fun x4 s5 H locs hφ hEs5 hT => ?_)
  refine lv_bipush (v := 32) hx hb dX4_amountFrom_17 (by decide) ?_
  refine lv_lshl hx hb dX4_amountFrom_19 rfl ?_
  refine lv_topl (fun t7 ht7 => ?_)
  refine lv_aload_n hx hb dX4_amountFrom_20 rfl (lv_at hl 2 rfl) ?_
  refine lv_iload_n hx hb dX4_amountFrom_21 rfl (lv_at hl 1 rfl) ?_
  obtain ⟨h10, oh10, th10⟩ := hT.o1 (hT.k t_this (by decide))
  have hTo := hT
  refine tVl (n := 1) (As := [.int t1]) (rest := [.long t7]) hx hb hml hown hg hT hK hX (X4_limbAt l κ s5 this t1  (hT.k t_this (by decide)) (by omega)) (fun _ _ h => h) (mwV k443 k445 k6 k88 k446) ⟨rfl, by decide, by decide, by decide +kernel⟩ ⟨(Nat.le_of_ble_eq_true rfl), (Nat.le_of_ble_eq_true rfl)⟩ oh10 rfl rfl hl.1 rfl (Nat.le_of_ble_eq_true rfl) dX4_amountFrom_22 zroom.rf (fun x8 s9 H locs hφ hEs9 hT => ?_)
  refine lv_lor hx hb dX4_amountFrom_25 ?_
  refine lv_topl (fun t11 ht11 => ?_)
  refine lv_lstore (lv' := [(4, .long t11), (3, .int t2), (2, .int t1), (0, .ref this), (1, .int i)]) hx hb dX4_amountFrom_26 hl (by decide) rfl (fun ls hl => ?_)
  refine lv_iload_n hx hb dX4_amountFrom_28 rfl (lv_at hl 1 rfl) ?_
  refine lv_if_ne (tgt := 37) hx hb dX4_amountFrom_29 (by decide) (fun c9 => ?_) (fun c9 => ?_)
  · have c1 := gi_ne c9
    refine lv_lload hx hb dX4_amountFrom_37 (lv_at hl 0 rfl) ?_
    refine lv_iload_n hx hb dX4_amountFrom_39 rfl (lv_at hl 1 rfl) ?_
    refine lv_lushr hx hb dX4_amountFrom_40 rfl ?_
    refine lv_topl (fun t12 ht12 => ?_)
    refine lv_aload_n hx hb dX4_amountFrom_41 rfl (lv_at hl 3 rfl) ?_
    refine lv_iload_n hx hb dX4_amountFrom_42 rfl (lv_at hl 2 rfl) ?_
    refine lv_iconst (v := 2) hx hb dX4_amountFrom_43 (by decide) ?_
    refine lv_iadd hx hb dX4_amountFrom_44 ?_
    first | refine g_add (by omega) (by omega) (fun t13 ht13 => ?_) | refine lv_topi (fun t13 ht13 => ?_)
    obtain ⟨h16, oh16, th16⟩ := hT.o1 (hT.k t_this (by decide))
    have hTo := hT
    refine tVl (n := 1) (As := [.int t13]) (rest := [.long t12]) hx hb hml hown hg hT hK hX (X4_limbAt l κ s9 this t13  (hT.k t_this (by decide)) (by omega)) (fun _ _ h => h) (mwV k443 k445 k6 k88 k446) ⟨rfl, by decide, by decide, by decide +kernel⟩ ⟨(Nat.le_of_ble_eq_true rfl), (Nat.le_of_ble_eq_true rfl)⟩ oh16 rfl rfl hl.1 rfl (Nat.le_of_ble_eq_true rfl) dX4_amountFrom_45 zroom.rf (fun x14 s15 H locs hφ hEs15 hT => ?_)
    refine lv_bipush (v := 64) hx hb dX4_amountFrom_48 (by decide) ?_
    refine lv_iload_n hx hb dX4_amountFrom_50 rfl (lv_at hl 1 rfl) ?_
    refine lv_isub hx hb dX4_amountFrom_51 ?_
    first | refine g_sub (by omega) (by omega) (fun t17 ht17 => ?_) | refine lv_topi (fun t17 ht17 => ?_)
    refine lv_lshl hx hb dX4_amountFrom_52 rfl ?_
    refine lv_topl (fun t18 ht18 => ?_)
    refine lv_lor hx hb dX4_amountFrom_53 ?_
    refine lv_topl (fun t19 ht19 => ?_)
    subst hQ9
    exact t_l hx hb hr hlocks hT trivial dX4_amountFrom_54
  · have c2 := gi_eq c9
    refine lv_lload hx hb dX4_amountFrom_32 (lv_at hl 0 rfl) ?_
    refine lv_goto (tgt := 54) hx hb dX4_amountFrom_34 (by decide) ?_
    subst hQ9
    exact t_l hx hb hr hlocks hT trivial dX4_amountFrom_54
set_option maxHeartbeats 4000000 in
set_option maxRecDepth 100000 in
theorem X4_toLong (l : Launch) (κ : Kt) (σ0 : Gh) (this : Nat) (t_this : zk σ0 this 1) : TC l yX4_toLong cX4_toLong 1 (some .long) 2 46 [.ref this] κ σ0 (tql κ fE σ0 (fun (r : Int64) (τ : Gh) => True)) := by
  refine TC.of fE (by decide +kernel) (Nat.le_of_ble_eq_true rfl) ?_
  intro p e s m below meth c ls hcs hK hX hT hl
  obtain ⟨hx, hb, hr, hml, hown, hg, hlocks, hin⟩ := hcs
  have hown : s.vm.findClass RX4 = some m.cls := hown
  have hl : lv_has ls 1 [(0, .ref this)] := hl
  have hT0 := hT
  have n0 : (0 : Int32).toInt = 0 := by decide
  generalize hQ9 : tQ _ _ _ _ _ _ = Q9
  refine lv_aload_n hx hb dX4_toLong_0 rfl (lv_at hl 0 rfl) ?_
  obtain ⟨h1, oh1, th1⟩ := hT.o1 (hT.k t_this (by decide))
  obtain ⟨v2, ev2⟩ : ∃ zz9 : Int32, zI σ0 this 2 = zz9 := ⟨_, rfl⟩
  have qv2 : v2.toInt = (zI σ0 this 2).toInt := by rw [ev2]
  have b3 : isB v2 := by have q9 := (hT.P (hT.k t_this (by decide)) (by decide)).2.2; rw [(hT.eI t_this (by decide) rfl ev2)] at q9; exact q9
  refine va_get (D := κ.1) (ci := 4) (v := .int (zI σ0 this 2)) (C := RX4) (T := TX4) (N := 3) hx hb hg inX4 hown hK oh1.one 0 rfl rfl 2 (by decide) (hg _ k211) (fun _ h9 => h9) rfl dX4_toLong_1 ?_
  rw [(hT.eI t_this (by decide) rfl ev2)]
  refine lv_if_eq (tgt := 16) hx hb dX4_toLong_4 (by decide) (fun c9 => ?_) (fun c9 => ?_)
  · have c1 := gi_eq c9
    refine lv_aload_n hx hb dX4_toLong_16 rfl (lv_at hl 0 rfl) ?_
    refine lv_iconst (v := 0) hx hb dX4_toLong_17 (by decide) ?_
    obtain ⟨h6, oh6, th6⟩ := hT.o1 (hT.k t_this (by decide))
    have hTo := hT
    refine tVl (n := 1) (As := [.int 0]) (rest := []) hx hb hml hown hg hT hK hX (X4_amountFrom l κ σ0 this 0  (hT.k t_this (by decide)) (by omega)) (fun _ _ h => h) (mwV k439 k441 k5 k88 k442) ⟨rfl, by decide, by decide, by decide +kernel⟩ ⟨(Nat.le_of_ble_eq_true rfl), (Nat.le_of_ble_eq_true rfl)⟩ oh6 rfl rfl hl.1 rfl (Nat.le_of_ble_eq_true rfl) dX4_toLong_18 zroom.rf (fun x4 s5 H locs hφ hEs5 hT => ?_)
    subst hQ9
    exact t_l hx hb hr hlocks hT trivial dX4_toLong_21
  · have c2 := gi_ne c9
    refine lv_aload_n hx hb dX4_toLong_7 rfl (lv_at hl 0 rfl) ?_
    refine lv_iconst (v := 0) hx hb dX4_toLong_8 (by decide) ?_
    obtain ⟨h9, oh9, th9⟩ := hT.o1 (hT.k t_this (by decide))
    have hTo := hT
    refine tVl (n := 1) (As := [.int 0]) (rest := []) hx hb hml hown hg hT hK hX (X4_amountFrom l κ σ0 this 0  (hT.k t_this (by decide)) (by omega)) (fun _ _ h => h) (mwV k439 k441 k5 k88 k442) ⟨rfl, by decide, by decide, by decide +kernel⟩ ⟨(Nat.le_of_ble_eq_true rfl), (Nat.le_of_ble_eq_true rfl)⟩ oh9 rfl rfl hl.1 rfl (Nat.le_of_ble_eq_true rfl) dX4_toLong_9 zroom.rf (fun x7 s8 H locs hφ hEs8 hT => ?_)
    refine lv_lneg hx hb dX4_toLong_12 ?_
    refine lv_topl (fun t10 ht10 => ?_)
    refine lv_goto (tgt := 21) hx hb dX4_toLong_13 (by decide) ?_
    subst hQ9
    exact t_l hx hb hr hlocks hT trivial dX4_toLong_21
set_option maxHeartbeats 4000000 in
set_option maxRecDepth 100000 in
theorem X4_isAnyBitBelow (l : Launch) (κ : Kt) (σ0 : Gh) (this : Nat) (i : Int32) (t_this : zk σ0 this 1) (h0 : 0 ≤ i.toInt) : TC l yX4_isAnyBitBelow cX4_isAnyBitBelow 4 (some .boolean) 1 21 [.ref this, .int i] κ σ0 (tqi κ fE σ0 (fun (r : Int32) (τ : Gh) => (isB r))) := by
  refine TC.of fE (by decide +kernel) (Nat.le_of_ble_eq_true rfl) ?_
  intro p e s m below meth c ls hcs hK hX hT hl
  obtain ⟨hx, hb, hr, hml, hown, hg, hlocks, hin⟩ := hcs
  have hown : s.vm.findClass RX4 = some m.cls := hown
  have hl : lv_has ls 4 [(0, .ref this), (1, .int i)] := hl
  have hT0 := hT
  have n0 : (0 : Int32).toInt = 0 := by decide
  have n1 : (1 : Int32).toInt = 1 := by decide
  have n32 : (32 : Int32).toInt = 32 := by decide
  have j0 : (0 : Int64).toInt = 0 := by decide
  have j1 : (1 : Int64).toInt = 1 := by decide
  have i_lo := Int32.le_toInt i
  have i_hi := Int32.toInt_lt i
  generalize hQ9 : tQ _ _ _ _ _ _ = Q9
  refine lv_iload_n hx hb dX4_isAnyBitBelow_0 rfl (lv_at hl 1 rfl) ?_
  refine lv_bipush (v := 32) hx hb dX4_isAnyBitBelow_1 (by decide) ?_
  refine lv_idiv hx hb dX4_isAnyBitBelow_3 (by decide) ?_
  first | refine g_div (k := 32) n32 (by decide) (by omega) (fun t1 ht1 => ?_) | refine lv_topi (fun t1 ht1 => ?_)
  refine lv_istore_n (lv' := [(2, .int t1), (0, .ref this), (1, .int i)]) hx hb dX4_isAnyBitBelow_4 rfl hl (by decide) rfl (fun ls hl => ?_)
  refine lv_iconst (v := 0) hx hb dX4_isAnyBitBelow_5 (by decide) ?_
  refine lv_istore_n (lv' := [(3, .int 0), (2, .int t1), (0, .ref this), (1, .int i)]) hx hb dX4_isAnyBitBelow_6 rfl hl (by decide) rfl (fun ls hl => ?_)
  have loop7 : ∀ (n9 : Nat) (j : Int32) (H : Heap) (locs : List Loc) (sg : Gh) (ls : Array Slot), TS κ fE σ0 sg s H locs → (0 ≤ j.toInt) → (j.toInt ≤ i.toInt / 32) → lv_has ls 4 [(3, .int j), (2, .int t1), (0, .ref this), (1, .int i)] → (i.toInt / 32 - j.toInt) < n9 → tW p l e 1 21 κ s m #[.ref this, .int i] below meth c H locs Q9 (F0 m 7 ls []) := by
    intro n9
    induction n9 with
    | zero =>
      intro j H locs sg ls hT q1 q2 hl hm9
      exfalso
      omega
    | succ n9 ih9 =>
      have ih7 := ih9
      clear ih9
      intro j H locs s2 ls hT q1 q2 hl hm9
      refine lv_iload_n hx hb dX4_isAnyBitBelow_7 rfl (lv_at hl 0 rfl) ?_
      refine lv_iload_n hx hb dX4_isAnyBitBelow_8 rfl (lv_at hl 1 rfl) ?_
      refine lv_icmp_ge (tgt := 30) hx hb dX4_isAnyBitBelow_9 (by decide) (fun c9 => ?_) (fun c9 => ?_)
      · have c1 := gi_le c9
        refine lv_aload_n hx hb dX4_isAnyBitBelow_30 rfl (lv_at hl 2 rfl) ?_
        refine lv_iload_n hx hb dX4_isAnyBitBelow_31 rfl (lv_at hl 1 rfl) ?_
        obtain ⟨h5, oh5, th5⟩ := hT.o1 (hT.k t_this (by decide))
        have hTo := hT
        refine tVl (n := 1) (As := [.int t1]) (rest := []) hx hb hml hown hg hT hK hX (X4_limbAt l κ s2 this t1  (hT.k t_this (by decide)) (by omega)) (fun _ _ h => h) (mwV k443 k445 k6 k88 k446) ⟨rfl, by decide, by decide, by decide +kernel⟩ ⟨(Nat.le_of_ble_eq_true rfl), (Nat.le_of_ble_eq_true rfl)⟩ oh5 rfl rfl hl.1 rfl (Nat.le_of_ble_eq_true rfl) dX4_isAnyBitBelow_32 zroom.rf (fun x3 s4 H locs hφ hEs4 hT => ?_)
        refine lv_lconst (v := 1) hx hb dX4_isAnyBitBelow_35 (by decide) ?_
        refine lv_iload_n hx hb dX4_isAnyBitBelow_36 rfl (lv_at hl 3 rfl) ?_
        refine lv_bipush (v := 32) hx hb dX4_isAnyBitBelow_37 (by decide) ?_
        refine lv_irem hx hb dX4_isAnyBitBelow_39 (by decide) ?_
        refine lv_topi (fun t6 ht6 => ?_)
        refine lv_lshl hx hb dX4_isAnyBitBelow_40 rfl ?_
        refine lv_topl (fun t7 ht7 => ?_)
        refine lv_lconst (v := 1) hx hb dX4_isAnyBitBelow_41 (by decide) ?_
        refine lv_lsub hx hb dX4_isAnyBitBelow_42 ?_
        refine lv_topl (fun t8 ht8 => ?_)
        refine lv_land hx hb dX4_isAnyBitBelow_43 ?_
        refine lv_topl (fun t9 ht9 => ?_)
        refine lv_lconst (v := 0) hx hb dX4_isAnyBitBelow_44 (by decide) ?_
        refine W.lcmp hx hb dX4_isAnyBitBelow_45 ?_
        refine lv_if_eq (tgt := 53) hx hb dX4_isAnyBitBelow_46 (by decide) (fun c9 => ?_) (fun c9 => ?_)
        · have c2 := gl_eq c9
          refine lv_iconst (v := 0) hx hb dX4_isAnyBitBelow_53 (by decide) ?_
          subst hQ9
          exact t_z hx hb hr isB0 hlocks hT isB0 dX4_isAnyBitBelow_54
        · have c3 := gl_ne c9
          refine lv_iconst (v := 1) hx hb dX4_isAnyBitBelow_49 (by decide) ?_
          refine lv_goto (tgt := 54) hx hb dX4_isAnyBitBelow_50 (by decide) ?_
          subst hQ9
          exact t_z hx hb hr isB1 hlocks hT isB1 dX4_isAnyBitBelow_54
      · have c4 := gi_nle c9
        refine lv_aload_n hx hb dX4_isAnyBitBelow_12 rfl (lv_at hl 2 rfl) ?_
        refine lv_iload_n hx hb dX4_isAnyBitBelow_13 rfl (lv_at hl 0 rfl) ?_
        obtain ⟨h12, oh12, th12⟩ := hT.o1 (hT.k t_this (by decide))
        have hTo := hT
        refine tVl (n := 1) (As := [.int j]) (rest := []) hx hb hml hown hg hT hK hX (X4_limbAt l κ s2 this j  (hT.k t_this (by decide)) (by omega)) (fun _ _ h => h) (mwV k443 k445 k6 k88 k446) ⟨rfl, by decide, by decide, by decide +kernel⟩ ⟨(Nat.le_of_ble_eq_true rfl), (Nat.le_of_ble_eq_true rfl)⟩ oh12 rfl rfl hl.1 rfl (Nat.le_of_ble_eq_true rfl) dX4_isAnyBitBelow_14 zroom.rf (fun x10 s11 H locs hφ hEs11 hT => ?_)
        refine lv_lconst (v := 0) hx hb dX4_isAnyBitBelow_17 (by decide) ?_
        refine W.lcmp hx hb dX4_isAnyBitBelow_18 ?_
        refine lv_if_eq (tgt := 24) hx hb dX4_isAnyBitBelow_19 (by decide) (fun c9 => ?_) (fun c9 => ?_)
        · have c5 := gl_eq c9
          obtain ⟨t13, qt13⟩ : ∃ zz9 : Int32, j + Int32.ofInt 1 = zz9 := ⟨_, rfl⟩
          refine lv_iinc (v := t13) (lv' := [(3, .int t13), (2, .int t1), (0, .ref this), (1, .int i)]) hx hb dX4_isAnyBitBelow_24 hl (k := 0) rfl qt13 (by decide) rfl (fun ls hl => ?_)
          have ht13 : t13.toInt = j.toInt + 1 := by rw [← qt13]; exact v_addi rfl (show (Int32.ofInt 1).toInt = 1 from by decide) (by omega) (by omega)
          refine lv_goto (tgt := 7) hx hb dX4_isAnyBitBelow_27 (by decide) ?_
          exact ih7 t13 _ _ _ _ hT  (by omega) (by omega) hl (by omega)
        · have c6 := gl_ne c9
          refine lv_iconst (v := 1) hx hb dX4_isAnyBitBelow_22 (by decide) ?_
          subst hQ9
          exact t_z hx hb hr isB1 hlocks hT isB1 dX4_isAnyBitBelow_23
  exact loop7 ((i.toInt / 32 - (0 : Int32).toInt).toNat + 1) 0 _ _ _ _ hT  (by omega) (by omega) hl (by omega)
set_option maxHeartbeats 4000000 in
set_option maxRecDepth 100000 in
theorem X4_turn (l : Launch) (κ : Kt) (σ0 : Gh) (this : Nat) (t_this : zk σ0 this 1) : TC l yX4_turn cX4_turn 4 none 0 0 [.ref this] κ σ0 (tqv κ fX σ0 (fun (τ : Gh) => True)) := by
  refine TC.of fX (by decide +kernel) (Nat.le_of_ble_eq_true rfl) ?_
  intro p e s m below meth c ls hcs hK hX hT hl
  obtain ⟨hx, hb, hr, hml, hown, hg, hlocks, hin⟩ := hcs
  have hown : s.vm.findClass RX4 = some m.cls := hown
  have hl : lv_has ls 4 [(0, .ref this)] := hl
  have hT0 := hT
  have nm1 : ((-1) : Int32).toInt = (-1) := by decide
  have n0 : (0 : Int32).toInt = 0 := by decide
  have n1 : (1 : Int32).toInt = 1 := by decide
  have n32 : (32 : Int32).toInt = 32 := by decide
  have j1 : (1 : Int64).toInt = 1 := by decide
  have j4294967295 : (4294967295 : Int64).toInt = 4294967295 := by decide
  generalize hQ9 : tQ _ _ _ _ _ _ = Q9
  refine lv_lconst (v := 1) hx hb dX4_turn_0 (by decide) ?_
  refine lv_lstore_n (lv' := [(1, .long 1), (0, .ref this)]) hx hb dX4_turn_1 rfl hl (by decide) rfl (fun ls hl => ?_)
  refine lv_iconst (v := 0) hx hb dX4_turn_2 (by decide) ?_
  refine lv_istore_n (lv' := [(3, .int 0), (1, .long 1), (0, .ref this)]) hx hb dX4_turn_3 rfl hl (by decide) rfl (fun ls hl => ?_)
  obtain ⟨v1, ev1⟩ : ∃ zz9 : Int32, zI σ0 this 1 = zz9 := ⟨_, rfl⟩
  have qv1 : v1.toInt = (zI σ0 this 1).toInt := by rw [ev1]
  have b2 := (hT.P (hT.k t_this (by decide)) (by decide)).2.1
  rw [ev1] at b2
  have b2l := b2.1
  have b2h := b2.2
  have bN3 := (hT.P (hT.k t_this (by decide)) (by decide)).1
  have hN4 : zN σ0 this = zN σ0 this := hT.eN t_this (by decide) rfl rfl
  have loop4 : ∀ (n9 : Nat) (cy : Int64) (i : Int32) (H : Heap) (locs : List Loc) (sg : Gh) (ls : Array Slot), TS κ fX σ0 sg s H locs → (zI sg this 1 = v1) → (0 ≤ i.toInt) → (i.toInt ≤ v1.toInt) → lv_has ls 4 [(1, .long cy), (3, .int i), (0, .ref this)] → (v1.toInt - i.toInt) < n9 → tW p l e 0 0 κ s m #[.ref this] below meth c H locs Q9 (F0 m 4 ls []) := by
    intro n9
    induction n9 with
    | zero =>
      intro cy i H locs sg ls hT kthis_1 q1 q2 hl hm9
      exfalso
      omega
    | succ n9 ih9 =>
      have ih4 := ih9
      clear ih9
      intro cy i H locs s5 ls hT kthis_1 q1 q2 hl hm9
      refine lv_iload_n hx hb dX4_turn_4 rfl (lv_at hl 1 rfl) ?_
      refine lv_aload_n hx hb dX4_turn_5 rfl (lv_at hl 2 rfl) ?_
      obtain ⟨h6, oh6, th6⟩ := hT.o1 (hT.k t_this (by decide))
      refine va_get (D := κ.1) (ci := 4) (v := .int (zI s5 this 1)) (C := RX4) (T := TX4) (N := 3) hx hb hg inX4 hown hK oh6.one 0 rfl rfl 1 (by decide) (hg _ k210) (fun _ h9 => h9) rfl dX4_turn_6 ?_
      rw [kthis_1]
      refine lv_icmp_ge (tgt := 47) hx hb dX4_turn_9 (by decide) (fun c9 => ?_) (fun c9 => ?_)
      · have c1 := gi_le c9
        refine lv_aload_n hx hb dX4_turn_47 rfl (lv_at hl 2 rfl) ?_
        refine lv_aload_n hx hb dX4_turn_48 rfl (lv_at hl 2 rfl) ?_
        obtain ⟨h7, oh7, th7⟩ := hT.o1 (hT.k t_this (by decide))
        obtain ⟨v8, ev8⟩ : ∃ zz9 : Int32, zI s5 this 2 = zz9 := ⟨_, rfl⟩
        have qv8 : v8.toInt = (zI s5 this 2).toInt := by rw [ev8]
        have b9 : isB v8 := by have q9 := (hT.P (hT.k t_this (by decide)) (by decide)).2.2; rw [ev8] at q9; exact q9
        refine va_get (D := κ.1) (ci := 4) (v := .int (zI s5 this 2)) (C := RX4) (T := TX4) (N := 3) hx hb hg inX4 hown hK oh7.one 0 rfl rfl 2 (by decide) (hg _ k211) (fun _ h9 => h9) rfl dX4_turn_49 ?_
        rw [ev8]
        refine lv_if_ne (tgt := 59) hx hb dX4_turn_52 (by decide) (fun c9 => ?_) (fun c9 => ?_)
        · have c2 := gi_ne c9
          refine lv_iconst (v := 0) hx hb dX4_turn_59 (by decide) ?_
          have hTo := hT
          refine pf1_2 hx hb hg hown hK hT (hT.k t_this (by decide)) rfl isB0 (hg _ k211) dX4_turn_60 (fun H locs s10 hus10 hT => ?_)
          have kthis_1 : zI s10 this 1 = v1 := (zput_o hus10 (Or.inr (by decide))).trans kthis_1
          have e11 : zI s10 this 2 = 0 := zput_at hus10
          subst hQ9
          exact t_v hx hb hr hlocks hT trivial dX4_turn_63
        · have c3 := gi_eq c9
          refine lv_iconst (v := 1) hx hb dX4_turn_55 (by decide) ?_
          refine lv_goto (tgt := 60) hx hb dX4_turn_56 (by decide) ?_
          have hTo := hT
          refine pf1_2 hx hb hg hown hK hT (hT.k t_this (by decide)) rfl isB1 (hg _ k211) dX4_turn_60 (fun H locs s12 hus12 hT => ?_)
          have kthis_1 : zI s12 this 1 = v1 := (zput_o hus12 (Or.inr (by decide))).trans kthis_1
          have e13 : zI s12 this 2 = 1 := zput_at hus12
          subst hQ9
          exact t_v hx hb hr hlocks hT trivial dX4_turn_63
      · have c4 := gi_nle c9
        refine lv_lload_n hx hb dX4_turn_12 rfl (lv_at hl 0 rfl) ?_
        refine lv_aload_n hx hb dX4_turn_13 rfl (lv_at hl 2 rfl) ?_
        obtain ⟨h14, oh14, th14⟩ := hT.o1 (hT.k t_this (by decide))
        refine va_get (D := κ.1) (ci := 4) (v := .ref h14) (C := RX4) (T := TX4) (N := 3) hx hb hg inX4 hown hK oh14.one 0 rfl rfl 0 (by decide) (hg _ k209) (fun _ h9 => h9) rfl dX4_turn_14 ?_
        have bN15 := (hT.P (hT.k t_this (by decide)) (by decide)).1
        have hN16 : zN s5 this = zN σ0 this := hT.eN t_this (by decide) rfl rfl
        refine lv_iload_n hx hb dX4_turn_17 rfl (lv_at hl 1 rfl) ?_
        refine va_iald hx hb hK (hT.oL th14).one 0 0 rfl rfl (g_in (by omega) (by omega)) dX4_turn_18 ?_
        refine lv_topi (fun t17 ht17 => ?_)
        refine lv_iconst (v := (-1)) hx hb dX4_turn_19 (by decide) ?_
        refine lv_ixor hx hb dX4_turn_20 ?_
        refine lv_topi (fun t18 ht18 => ?_)
        refine lv_i2l hx hb dX4_turn_21 rfl ?_
        refine g_i2l (fun t19 ht19 => ?_)
        refine lv_ldc2 hx hb hown (hg _ k348) dX4_turn_22 ?_
        refine lv_land hx hb dX4_turn_25 ?_
        refine lv_topl (fun t20 ht20 => ?_)
        refine lv_ladd hx hb dX4_turn_26 ?_
        refine lv_topl (fun t21 ht21 => ?_)
        refine lv_lstore_n (lv' := [(1, .long t21), (3, .int i), (0, .ref this)]) hx hb dX4_turn_27 rfl hl (by decide) rfl (fun ls hl => ?_)
        refine lv_aload_n hx hb dX4_turn_28 rfl (lv_at hl 2 rfl) ?_
        obtain ⟨h22, oh22, th22⟩ := hT.o1 (hT.k t_this (by decide))
        refine va_get (D := κ.1) (ci := 4) (v := .ref h22) (C := RX4) (T := TX4) (N := 3) hx hb hg inX4 hown hK oh22.one 0 rfl rfl 0 (by decide) (hg _ k209) (fun _ h9 => h9) rfl dX4_turn_29 ?_
        have bN23 := (hT.P (hT.k t_this (by decide)) (by decide)).1
        have hN24 : zN s5 this = zN σ0 this := hT.eN t_this (by decide) rfl rfl
        refine lv_iload_n hx hb dX4_turn_32 rfl (lv_at hl 1 rfl) ?_
        refine lv_lload_n hx hb dX4_turn_33 rfl (lv_at hl 0 rfl) ?_
        refine lv_l2i hx hb dX4_turn_34 rfl ?_
        refine lv_topi (fun t25 ht25 => ?_)
        have hTo := hT
        refine tasti hx hb hK hT th22 ⟨by omega, by omega⟩ (fun _ _ _ => zS_big) (fun _ _ => zP_big) fL_fX (by omega) (by omega) dX4_turn_35 (fun H locs s26 hus26 hT => ?_)
        have kthis_1 : zI s26 this 1 = v1 := (zput_o hus26 (Or.inl ((hTo.k t_this (by decide)).ne th22 (by omega)))).trans kthis_1
        refine lv_lload_n hx hb dX4_turn_36 rfl (lv_at hl 0 rfl) ?_
        refine lv_bipush (v := 32) hx hb dX4_turn_37 (by decide) ?_
        refine lv_lushr hx hb dX4_turn_39 rfl ?_
        refine lv_topl (fun t27 ht27 => ?_)
        refine lv_lstore_n (lv' := [(1, .long t27), (3, .int i), (0, .ref this)]) hx hb dX4_turn_40 rfl hl (by decide) rfl (fun ls hl => ?_)
        obtain ⟨t28, qt28⟩ : ∃ zz9 : Int32, i + Int32.ofInt 1 = zz9 := ⟨_, rfl⟩
        refine lv_iinc (v := t28) (lv' := [(3, .int t28), (1, .long t27), (0, .ref this)]) hx hb dX4_turn_41 hl (k := 1) rfl qt28 (by decide) rfl (fun ls hl => ?_)
        have ht28 : t28.toInt = i.toInt + 1 := by rw [← qt28]; exact v_addi rfl (show (Int32.ofInt 1).toInt = 1 from by decide) (by omega) (by omega)
        refine lv_goto (tgt := 4) hx hb dX4_turn_44 (by decide) ?_
        exact ih4 t27 t28 _ _ _ _ hT kthis_1 (by omega) (by omega) (lv_sub hl [1, 0, 2] rfl) (by omega)
  exact loop4 ((v1.toInt - (0 : Int32).toInt).toNat + 1) 1 0 _ _ _ _ hT ev1 (by omega) (by omega) (lv_sub hl [1, 0, 2] rfl) (by omega)
set_option maxHeartbeats 4000000 in
set_option maxRecDepth 100000 in
theorem X4_multiply (l : Launch) (κ : Kt) (σ0 : Gh) (this : Nat) (f : Int64) (ad : Int64) (n : Int32) (t_this : zk σ0 this 1) (h0 : 0 ≤ n.toInt) (h1 : n.toInt ≤ zN σ0 this) : TC l yX4_multiply cX4_multiply 9 none 0 0 [.ref this, .long f, .long ad, .int n] κ σ0 (tqv κ fX σ0 (fun (τ : Gh) => True)) := by
  refine TC.of fX (by decide +kernel) (Nat.le_of_ble_eq_true rfl) ?_
  intro p e s m below meth c ls hcs hK hX hT hl
  obtain ⟨hx, hb, hr, hml, hown, hg, hlocks, hin⟩ := hcs
  have hown : s.vm.findClass RX4 = some m.cls := hown
  have hl : lv_has ls 9 [(0, .ref this), (1, .long f), (3, .long ad), (5, .int n)] := hl
  have hT0 := hT
  have n0 : (0 : Int32).toInt = 0 := by decide
  have n32 : (32 : Int32).toInt = 32 := by decide
  have j0 : (0 : Int64).toInt = 0 := by decide
  have j4294967295 : (4294967295 : Int64).toInt = 4294967295 := by decide
  have n_lo := Int32.le_toInt n
  have n_hi := Int32.toInt_lt n
  generalize hQ9 : tQ _ _ _ _ _ _ = Q9
  refine lv_lload_n hx hb dX4_multiply_0 rfl (lv_at hl 2 rfl) ?_
  refine lv_lstore (lv' := [(6, .long ad), (0, .ref this), (1, .long f), (3, .long ad), (5, .int n)]) hx hb dX4_multiply_1 hl (by decide) rfl (fun ls hl => ?_)
  refine lv_iconst (v := 0) hx hb dX4_multiply_3 (by decide) ?_
  refine lv_istore (lv' := [(8, .int 0), (6, .long ad), (0, .ref this), (1, .long f), (3, .long ad), (5, .int n)]) hx hb dX4_multiply_4 hl (by decide) rfl (fun ls hl => ?_)
  have loop6 : ∀ (n9 : Nat) (cy : Int64) (i : Int32) (H : Heap) (locs : List Loc) (sg : Gh) (ls : Array Slot), TS κ fX σ0 sg s H locs → (0 ≤ i.toInt) → (i.toInt ≤ n.toInt) → lv_has ls 9 [(6, .long cy), (8, .int i), (0, .ref this), (1, .long f), (3, .long ad), (5, .int n)] → (n.toInt - i.toInt) < n9 → tW p l e 0 0 κ s m #[.ref this, .long f, .long ad, .int n] below meth c H locs Q9 (F0 m 6 ls []) := by
    intro n9
    induction n9 with
    | zero =>
      intro cy i H locs sg ls hT q1 q2 hl hm9
      exfalso
      omega
    | succ n9 ih9 =>
      have ih6 := ih9
      clear ih9
      intro cy i H locs s1 ls hT q1 q2 hl hm9
      refine lv_iload hx hb dX4_multiply_6 (lv_at hl 1 rfl) ?_
      refine lv_iload hx hb dX4_multiply_8 (lv_at hl 5 rfl) ?_
      refine lv_icmp_ge (tgt := 68) hx hb dX4_multiply_10 (by decide) (fun c9 => ?_) (fun c9 => ?_)
      · have c1 := gi_le c9
        refine lv_aload_n hx hb dX4_multiply_68 rfl (lv_at hl 2 rfl) ?_
        refine lv_iload hx hb dX4_multiply_69 (lv_at hl 5 rfl) ?_
        have bN2 := (hT.P (hT.k t_this (by decide)) (by decide)).1
        have hN3 : zN s1 this = zN σ0 this := hT.eN t_this (by decide) rfl rfl
        have hTo := hT
        refine pf1_1 hx hb hg hown hK hT (hT.k t_this (by decide)) rfl ⟨by omega, by omega⟩ (hg _ k210) dX4_multiply_71 (fun H locs s4 hus4 hT => ?_)
        have e5 : zI s4 this 1 = n := zput_at hus4
        subst hQ9
        exact t_v hx hb hr hlocks hT trivial dX4_multiply_74
      · have c2 := gi_nle c9
        refine lv_lload hx hb dX4_multiply_13 (lv_at hl 0 rfl) ?_
        refine lv_iload hx hb dX4_multiply_15 (lv_at hl 1 rfl) ?_
        refine lv_aload_n hx hb dX4_multiply_17 rfl (lv_at hl 2 rfl) ?_
        obtain ⟨h6, oh6, th6⟩ := hT.o1 (hT.k t_this (by decide))
        obtain ⟨v7, ev7⟩ : ∃ zz9 : Int32, zI s1 this 1 = zz9 := ⟨_, rfl⟩
        have qv7 : v7.toInt = (zI s1 this 1).toInt := by rw [ev7]
        have b8 := (hT.P (hT.k t_this (by decide)) (by decide)).2.1
        rw [ev7] at b8
        have b8l := b8.1
        have b8h := b8.2
        have bN9 := (hT.P (hT.k t_this (by decide)) (by decide)).1
        have hN10 : zN s1 this = zN σ0 this := hT.eN t_this (by decide) rfl rfl
        refine va_get (D := κ.1) (ci := 4) (v := .int (zI s1 this 1)) (C := RX4) (T := TX4) (N := 3) hx hb hg inX4 hown hK oh6.one 0 rfl rfl 1 (by decide) (hg _ k210) (fun _ h9 => h9) rfl dX4_multiply_18 ?_
        rw [ev7]
        refine lv_icmp_ge (tgt := 41) hx hb dX4_multiply_21 (by decide) (fun c9 => ?_) (fun c9 => ?_)
        · have c3 := gi_le c9
          refine lv_lconst (v := 0) hx hb dX4_multiply_41 (by decide) ?_
          refine lv_ladd hx hb dX4_multiply_42 ?_
          refine lv_topl (fun t11 ht11 => ?_)
          refine lv_lstore (lv' := [(6, .long t11), (8, .int i), (0, .ref this), (1, .long f), (3, .long ad), (5, .int n)]) hx hb dX4_multiply_43 hl (by decide) rfl (fun ls hl => ?_)
          refine lv_aload_n hx hb dX4_multiply_45 rfl (lv_at hl 2 rfl) ?_
          obtain ⟨h12, oh12, th12⟩ := hT.o1 (hT.k t_this (by decide))
          refine va_get (D := κ.1) (ci := 4) (v := .ref h12) (C := RX4) (T := TX4) (N := 3) hx hb hg inX4 hown hK oh12.one 0 rfl rfl 0 (by decide) (hg _ k209) (fun _ h9 => h9) rfl dX4_multiply_46 ?_
          have bN13 := (hT.P (hT.k t_this (by decide)) (by decide)).1
          have hN14 : zN s1 this = zN σ0 this := hT.eN t_this (by decide) rfl rfl
          refine lv_iload hx hb dX4_multiply_49 (lv_at hl 1 rfl) ?_
          refine lv_lload hx hb dX4_multiply_51 (lv_at hl 0 rfl) ?_
          refine lv_l2i hx hb dX4_multiply_53 rfl ?_
          refine lv_topi (fun t15 ht15 => ?_)
          have hTo := hT
          refine tasti hx hb hK hT th12 ⟨by omega, by omega⟩ (fun _ _ _ => zS_big) (fun _ _ => zP_big) fL_fX (by omega) (by omega) dX4_multiply_54 (fun H locs s16 hus16 hT => ?_)
          have ev7 : zI s16 this 1 = v7 := (zput_o hus16 (Or.inl ((hTo.k t_this (by decide)).ne th12 (by omega)))).trans ev7
          refine lv_lload hx hb dX4_multiply_55 (lv_at hl 0 rfl) ?_
          refine lv_bipush (v := 32) hx hb dX4_multiply_57 (by decide) ?_
          refine lv_lushr hx hb dX4_multiply_59 rfl ?_
          refine lv_topl (fun t17 ht17 => ?_)
          refine lv_lstore (lv' := [(6, .long t17), (8, .int i), (0, .ref this), (1, .long f), (3, .long ad), (5, .int n)]) hx hb dX4_multiply_60 hl (by decide) rfl (fun ls hl => ?_)
          obtain ⟨t18, qt18⟩ : ∃ zz9 : Int32, i + Int32.ofInt 1 = zz9 := ⟨_, rfl⟩
          refine lv_iinc (v := t18) (lv' := [(8, .int t18), (6, .long t17), (0, .ref this), (1, .long f), (3, .long ad), (5, .int n)]) hx hb dX4_multiply_62 hl (k := 1) rfl qt18 (by decide) rfl (fun ls hl => ?_)
          have ht18 : t18.toInt = i.toInt + 1 := by rw [← qt18]; exact v_addi rfl (show (Int32.ofInt 1).toInt = 1 from by decide) (by omega) (by omega)
          refine lv_goto (tgt := 6) hx hb dX4_multiply_65 (by decide) ?_
          exact ih6 t17 t18 _ _ _ _ hT  (by omega) (by omega) (lv_sub hl [1, 0, 2, 3, 4, 5] rfl) (by omega)
        · have c4 := gi_nle c9
          refine lv_aload_n hx hb dX4_multiply_24 rfl (lv_at hl 2 rfl) ?_
          obtain ⟨h19, oh19, th19⟩ := hT.o1 (hT.k t_this (by decide))
          refine va_get (D := κ.1) (ci := 4) (v := .ref h19) (C := RX4) (T := TX4) (N := 3) hx hb hg inX4 hown hK oh19.one 0 rfl rfl 0 (by decide) (hg _ k209) (fun _ h9 => h9) rfl dX4_multiply_25 ?_
          have bN20 := (hT.P (hT.k t_this (by decide)) (by decide)).1
          have hN21 : zN s1 this = zN σ0 this := hT.eN t_this (by decide) rfl rfl
          refine lv_iload hx hb dX4_multiply_28 (lv_at hl 1 rfl) ?_
          refine va_iald hx hb hK (hT.oL th19).one 0 0 rfl rfl (g_in (by omega) (by omega)) dX4_multiply_30 ?_
          refine lv_topi (fun t22 ht22 => ?_)
          refine lv_i2l hx hb dX4_multiply_31 rfl ?_
          refine g_i2l (fun t23 ht23 => ?_)
          refine lv_ldc2 hx hb hown (hg _ k348) dX4_multiply_32 ?_
          refine lv_land hx hb dX4_multiply_35 ?_
          refine lv_topl (fun t24 ht24 => ?_)
          refine lv_lload_n hx hb dX4_multiply_36 rfl (lv_at hl 3 rfl) ?_
          refine lv_lmul hx hb dX4_multiply_37 ?_
          refine lv_topl (fun t25 ht25 => ?_)
          refine lv_goto (tgt := 42) hx hb dX4_multiply_38 (by decide) ?_
          refine lv_ladd hx hb dX4_multiply_42 ?_
          refine lv_topl (fun t26 ht26 => ?_)
          refine lv_lstore (lv' := [(6, .long t26), (8, .int i), (0, .ref this), (1, .long f), (3, .long ad), (5, .int n)]) hx hb dX4_multiply_43 hl (by decide) rfl (fun ls hl => ?_)
          refine lv_aload_n hx hb dX4_multiply_45 rfl (lv_at hl 2 rfl) ?_
          obtain ⟨h27, oh27, th27⟩ := hT.o1 (hT.k t_this (by decide))
          refine va_get (D := κ.1) (ci := 4) (v := .ref h27) (C := RX4) (T := TX4) (N := 3) hx hb hg inX4 hown hK oh27.one 0 rfl rfl 0 (by decide) (hg _ k209) (fun _ h9 => h9) rfl dX4_multiply_46 ?_
          have bN28 := (hT.P (hT.k t_this (by decide)) (by decide)).1
          have hN29 : zN s1 this = zN σ0 this := hT.eN t_this (by decide) rfl rfl
          refine lv_iload hx hb dX4_multiply_49 (lv_at hl 1 rfl) ?_
          refine lv_lload hx hb dX4_multiply_51 (lv_at hl 0 rfl) ?_
          refine lv_l2i hx hb dX4_multiply_53 rfl ?_
          refine lv_topi (fun t30 ht30 => ?_)
          have hTo := hT
          refine tasti hx hb hK hT th27 ⟨by omega, by omega⟩ (fun _ _ _ => zS_big) (fun _ _ => zP_big) fL_fX (by omega) (by omega) dX4_multiply_54 (fun H locs s31 hus31 hT => ?_)
          have ev7 : zI s31 this 1 = v7 := (zput_o hus31 (Or.inl ((hTo.k t_this (by decide)).ne th27 (by omega)))).trans ev7
          refine lv_lload hx hb dX4_multiply_55 (lv_at hl 0 rfl) ?_
          refine lv_bipush (v := 32) hx hb dX4_multiply_57 (by decide) ?_
          refine lv_lushr hx hb dX4_multiply_59 rfl ?_
          refine lv_topl (fun t32 ht32 => ?_)
          refine lv_lstore (lv' := [(6, .long t32), (8, .int i), (0, .ref this), (1, .long f), (3, .long ad), (5, .int n)]) hx hb dX4_multiply_60 hl (by decide) rfl (fun ls hl => ?_)
          obtain ⟨t33, qt33⟩ : ∃ zz9 : Int32, i + Int32.ofInt 1 = zz9 := ⟨_, rfl⟩
          refine lv_iinc (v := t33) (lv' := [(8, .int t33), (6, .long t32), (0, .ref this), (1, .long f), (3, .long ad), (5, .int n)]) hx hb dX4_multiply_62 hl (k := 1) rfl qt33 (by decide) rfl (fun ls hl => ?_)
          have ht33 : t33.toInt = i.toInt + 1 := by rw [← qt33]; exact v_addi rfl (show (Int32.ofInt 1).toInt = 1 from by decide) (by omega) (by omega)
          refine lv_goto (tgt := 6) hx hb dX4_multiply_65 (by decide) ?_
          exact ih6 t32 t33 _ _ _ _ hT  (by omega) (by omega) (lv_sub hl [1, 0, 2, 3, 4, 5] rfl) (by omega)
  exact loop6 ((n.toInt - (0 : Int32).toInt).toNat + 1) ad 0 _ _ _ _ hT  (by omega) (by omega) (lv_sub hl [1, 0, 2, 3, 4, 5] rfl) (by omega)
set_option maxHeartbeats 4000000 in
set_option maxRecDepth 100000 in
theorem X4_divide (l : Launch) (κ : Kt) (σ0 : Gh) (this : Nat) (f : Int64) (t_this : zk σ0 this 1) : TC l yX4_divide cX4_divide 6 none 0 0 [.ref this, .long f] κ σ0 (tqv κ fX σ0 (fun (τ : Gh) => True)) := by
  refine TC.of fX (by decide +kernel) (Nat.le_of_ble_eq_true rfl) ?_
  intro p e s m below meth c ls hcs hK hX hT hl
  obtain ⟨hx, hb, hr, hml, hown, hg, hlocks, hin⟩ := hcs
  have hown : s.vm.findClass RX4 = some m.cls := hown
  have hl : lv_has ls 6 [(0, .ref this), (1, .long f)] := hl
  have hT0 := hT
  have n0 : (0 : Int32).toInt = 0 := by decide
  have n1 : (1 : Int32).toInt = 1 := by decide
  have n32 : (32 : Int32).toInt = 32 := by decide
  have j0 : (0 : Int64).toInt = 0 := by decide
  have j4294967295 : (4294967295 : Int64).toInt = 4294967295 := by decide
  generalize hQ9 : tQ _ _ _ _ _ _ = Q9
  refine lv_lconst (v := 0) hx hb dX4_divide_0 (by decide) ?_
  refine lv_lstore_n (lv' := [(3, .long 0), (0, .ref this), (1, .long f)]) hx hb dX4_divide_1 rfl hl (by decide) rfl (fun ls hl => ?_)
  refine lv_aload_n hx hb dX4_divide_2 rfl (lv_at hl 1 rfl) ?_
  obtain ⟨h1, oh1, th1⟩ := hT.o1 (hT.k t_this (by decide))
  obtain ⟨v2, ev2⟩ : ∃ zz9 : Int32, zI σ0 this 1 = zz9 := ⟨_, rfl⟩
  have qv2 : v2.toInt = (zI σ0 this 1).toInt := by rw [ev2]
  have b3 := (hT.P (hT.k t_this (by decide)) (by decide)).2.1
  rw [ev2] at b3
  have b3l := b3.1
  have b3h := b3.2
  have bN4 := (hT.P (hT.k t_this (by decide)) (by decide)).1
  have hN5 : zN σ0 this = zN σ0 this := hT.eN t_this (by decide) rfl rfl
  refine va_get (D := κ.1) (ci := 4) (v := .int (zI σ0 this 1)) (C := RX4) (T := TX4) (N := 3) hx hb hg inX4 hown hK oh1.one 0 rfl rfl 1 (by decide) (hg _ k210) (fun _ h9 => h9) rfl dX4_divide_3 ?_
  rw [ev2]
  refine lv_iconst (v := 1) hx hb dX4_divide_6 (by decide) ?_
  refine lv_isub hx hb dX4_divide_7 ?_
  first | refine g_sub (by omega) (by omega) (fun t6 ht6 => ?_) | refine lv_topi (fun t6 ht6 => ?_)
  refine lv_istore (lv' := [(5, .int t6), (3, .long 0), (0, .ref this), (1, .long f)]) hx hb dX4_divide_8 hl (by decide) rfl (fun ls hl => ?_)
  have loop10 : ∀ (n9 : Nat) (rst : Int64) (i : Int32) (H : Heap) (locs : List Loc) (sg : Gh) (ls : Array Slot), TS κ fX σ0 sg s H locs → (-1 ≤ i.toInt) → (i.toInt < zN σ0 this) → lv_has ls 6 [(3, .long rst), (5, .int i), (0, .ref this), (1, .long f)] → (i.toInt + 1) < n9 → tW p l e 0 0 κ s m #[.ref this, .long f] below meth c H locs Q9 (F0 m 10 ls []) := by
    intro n9
    induction n9 with
    | zero =>
      intro rst i H locs sg ls hT q1 q2 hl hm9
      exfalso
      omega
    | succ n9 ih9 =>
      have ih10 := ih9
      clear ih9
      intro rst i H locs s7 ls hT q1 q2 hl hm9
      refine lv_iload hx hb dX4_divide_10 (lv_at hl 1 rfl) ?_
      refine lv_if_lt (tgt := 60) hx hb dX4_divide_12 (by decide) (fun c9 => ?_) (fun c9 => ?_)
      · have c1 := gi_lt c9
        subst hQ9
        exact t_v hx hb hr hlocks hT trivial dX4_divide_60
      · have c2 := gi_nlt c9
        refine lv_lload_n hx hb dX4_divide_15 rfl (lv_at hl 3 rfl) ?_
        refine lv_lconst (v := 0) hx hb dX4_divide_16 (by decide) ?_
        refine W.lcmp hx hb dX4_divide_17 ?_
        refine lv_if_le (tgt := 60) hx hb dX4_divide_18 (by decide) (fun c9 => ?_) (fun c9 => ?_)
        · have c3 := gl_le c9
          subst hQ9
          exact t_v hx hb hr hlocks hT trivial dX4_divide_60
        · have c4 := gl_nle c9
          refine lv_lload_n hx hb dX4_divide_21 rfl (lv_at hl 0 rfl) ?_
          refine lv_bipush (v := 32) hx hb dX4_divide_22 (by decide) ?_
          refine lv_lshl hx hb dX4_divide_24 rfl ?_
          refine lv_topl (fun t8 ht8 => ?_)
          refine lv_aload_n hx hb dX4_divide_25 rfl (lv_at hl 2 rfl) ?_
          obtain ⟨h9, oh9, th9⟩ := hT.o1 (hT.k t_this (by decide))
          refine va_get (D := κ.1) (ci := 4) (v := .ref h9) (C := RX4) (T := TX4) (N := 3) hx hb hg inX4 hown hK oh9.one 0 rfl rfl 0 (by decide) (hg _ k209) (fun _ h9 => h9) rfl dX4_divide_26 ?_
          have bN10 := (hT.P (hT.k t_this (by decide)) (by decide)).1
          have hN11 : zN s7 this = zN σ0 this := hT.eN t_this (by decide) rfl rfl
          refine lv_iload hx hb dX4_divide_29 (lv_at hl 1 rfl) ?_
          refine va_iald hx hb hK (hT.oL th9).one 0 0 rfl rfl (g_in (by omega) (by omega)) dX4_divide_31 ?_
          refine lv_topi (fun t12 ht12 => ?_)
          refine lv_i2l hx hb dX4_divide_32 rfl ?_
          refine g_i2l (fun t13 ht13 => ?_)
          refine lv_ldc2 hx hb hown (hg _ k348) dX4_divide_33 ?_
          refine lv_land hx hb dX4_divide_36 ?_
          refine lv_topl (fun t14 ht14 => ?_)
          refine lv_lor hx hb dX4_divide_37 ?_
          refine lv_topl (fun t15 ht15 => ?_)
          refine lv_lstore_n (lv' := [(3, .long t15), (5, .int i), (0, .ref this), (1, .long f)]) hx hb dX4_divide_38 rfl hl (by decide) rfl (fun ls hl => ?_)
          refine lv_aload_n hx hb dX4_divide_39 rfl (lv_at hl 2 rfl) ?_
          obtain ⟨h16, oh16, th16⟩ := hT.o1 (hT.k t_this (by decide))
          refine va_get (D := κ.1) (ci := 4) (v := .ref h16) (C := RX4) (T := TX4) (N := 3) hx hb hg inX4 hown hK oh16.one 0 rfl rfl 0 (by decide) (hg _ k209) (fun _ h9 => h9) rfl dX4_divide_40 ?_
          have bN17 := (hT.P (hT.k t_this (by decide)) (by decide)).1
          have hN18 : zN s7 this = zN σ0 this := hT.eN t_this (by decide) rfl rfl
          refine lv_iload hx hb dX4_divide_43 (lv_at hl 1 rfl) ?_
          refine lv_lload_n hx hb dX4_divide_45 rfl (lv_at hl 0 rfl) ?_
          refine lv_lload_n hx hb dX4_divide_46 rfl (lv_at hl 3 rfl) ?_
          refine lv_ldiv hx hb dX4_divide_47 (gl_nz (by omega)) ?_
          refine lv_topl (fun t19 ht19 => ?_)
          refine lv_l2i hx hb dX4_divide_48 rfl ?_
          refine lv_topi (fun t20 ht20 => ?_)
          have hTo := hT
          refine tasti hx hb hK hT th16 ⟨by omega, by omega⟩ (fun _ _ _ => zS_big) (fun _ _ => zP_big) fL_fX (by omega) (by omega) dX4_divide_49 (fun H locs s21 hus21 hT => ?_)
          refine lv_lload_n hx hb dX4_divide_50 rfl (lv_at hl 0 rfl) ?_
          refine lv_lload_n hx hb dX4_divide_51 rfl (lv_at hl 3 rfl) ?_
          refine lv_lrem hx hb dX4_divide_52 (gl_nz (by omega)) ?_
          refine lv_topl (fun t22 ht22 => ?_)
          refine lv_lstore_n (lv' := [(3, .long t22), (5, .int i), (0, .ref this), (1, .long f)]) hx hb dX4_divide_53 rfl hl (by decide) rfl (fun ls hl => ?_)
          obtain ⟨t23, qt23⟩ : ∃ zz9 : Int32, i + Int32.ofInt (-1) = zz9 := ⟨_, rfl⟩
          refine lv_iinc (v := t23) (lv' := [(5, .int t23), (3, .long t22), (0, .ref this), (1, .long f)]) hx hb dX4_divide_54 hl (k := 1) rfl qt23 (by decide) rfl (fun ls hl => ?_)
          have ht23 : t23.toInt = i.toInt + (-1) := by rw [← qt23]; exact v_addi rfl (show (Int32.ofInt (-1)).toInt = (-1) from by decide) (by omega) (by omega)
          refine lv_goto (tgt := 10) hx hb dX4_divide_57 (by decide) ?_
          exact ih10 t22 t23 _ _ _ _ hT  (by omega) (by omega) (lv_sub hl [1, 0, 2, 3] rfl) (by omega)
  exact loop10 ((t6.toInt + 1).toNat + 1) 0 t6 _ _ _ _ hT  (by omega) (by omega) (lv_sub hl [1, 0, 2, 3] rfl) (by omega)
set_option maxHeartbeats 4000000 in
set_option maxRecDepth 100000 in
theorem X4_addAmount (l : Launch) (κ : Kt) (σ0 : Gh) (this : Nat) (o : Nat) (f : Int64) (n : Int32) (t_this : zk σ0 this 1) (t_o : zk σ0 o 1) (h0 : 0 ≤ n.toInt) (h1 : n.toInt ≤ zN σ0 this) : TC l yX4_addAmount cX4_addAmount 12 (some .long) 0 0 [.ref this, .ref o, .long f, .int n] κ σ0 (tql κ fX σ0 (fun (r : Int64) (τ : Gh) => True)) := by
  refine TC.of fX (by decide +kernel) (Nat.le_of_ble_eq_true rfl) ?_
  intro p e s m below meth c ls hcs hK hX hT hl
  obtain ⟨hx, hb, hr, hml, hown, hg, hlocks, hin⟩ := hcs
  have hown : s.vm.findClass RX4 = some m.cls := hown
  have hl : lv_has ls 12 [(0, .ref this), (1, .ref o), (2, .long f), (4, .int n)] := hl
  have hT0 := hT
  have n0 : (0 : Int32).toInt = 0 := by decide
  have n32 : (32 : Int32).toInt = 32 := by decide
  have j0 : (0 : Int64).toInt = 0 := by decide
  have j4294967295 : (4294967295 : Int64).toInt = 4294967295 := by decide
  have n_lo := Int32.le_toInt n
  have n_hi := Int32.toInt_lt n
  generalize hQ9 : tQ _ _ _ _ _ _ = Q9
  refine lv_lconst (v := 0) hx hb dX4_addAmount_0 (by decide) ?_
  refine lv_lstore (lv' := [(5, .long 0), (0, .ref this), (1, .ref o), (2, .long f), (4, .int n)]) hx hb dX4_addAmount_1 hl (by decide) rfl (fun ls hl => ?_)
  refine lv_iconst (v := 0) hx hb dX4_addAmount_3 (by decide) ?_
  refine lv_istore (lv' := [(7, .int 0), (5, .long 0), (0, .ref this), (1, .ref o), (2, .long f), (4, .int n)]) hx hb dX4_addAmount_4 hl (by decide) rfl (fun ls hl => ?_)
  have loop6 : ∀ (n9 : Nat) (cy : Int64) (i : Int32) (H : Heap) (locs : List Loc) (sg : Gh) (ls : Array Slot), TS κ fX σ0 sg s H locs → (0 ≤ i.toInt) → (i.toInt ≤ n.toInt) → lv_has ls 12 [(5, .long cy), (7, .int i), (0, .ref this), (1, .ref o), (2, .long f), (4, .int n)] → (n.toInt - i.toInt) < n9 → tW p l e 0 0 κ s m #[.ref this, .ref o, .long f, .int n] below meth c H locs Q9 (F0 m 6 ls []) := by
    intro n9
    induction n9 with
    | zero =>
      intro cy i H locs sg ls hT q1 q2 hl hm9
      exfalso
      omega
    | succ n9 ih9 =>
      have ih6 := ih9
      clear ih9
      intro cy i H locs s1 ls hT q1 q2 hl hm9
      refine lv_iload hx hb dX4_addAmount_6 (lv_at hl 1 rfl) ?_
      refine lv_iload hx hb dX4_addAmount_8 (lv_at hl 5 rfl) ?_
      refine lv_icmp_ge (tgt := 102) hx hb dX4_addAmount_10 (by decide) (fun c9 => ?_) (fun c9 => ?_)
      · have c1 := gi_le c9
        refine lv_aload_n hx hb dX4_addAmount_102 rfl (lv_at hl 2 rfl) ?_
        refine lv_iload hx hb dX4_addAmount_103 (lv_at hl 5 rfl) ?_
        have bN2 := (hT.P (hT.k t_this (by decide)) (by decide)).1
        have hN3 : zN s1 this = zN σ0 this := hT.eN t_this (by decide) rfl rfl
        have hTo := hT
        refine pf1_1 hx hb hg hown hK hT (hT.k t_this (by decide)) rfl ⟨by omega, by omega⟩ (hg _ k210) dX4_addAmount_105 (fun H locs s4 hus4 hT => ?_)
        have e5 : zI s4 this 1 = n := zput_at hus4
        refine lv_lload hx hb dX4_addAmount_108 (lv_at hl 0 rfl) ?_
        subst hQ9
        exact t_l hx hb hr hlocks hT trivial dX4_addAmount_110
      · have c2 := gi_nle c9
        refine lv_iload hx hb dX4_addAmount_13 (lv_at hl 1 rfl) ?_
        refine lv_aload_n hx hb dX4_addAmount_15 rfl (lv_at hl 2 rfl) ?_
        obtain ⟨h6, oh6, th6⟩ := hT.o1 (hT.k t_this (by decide))
        obtain ⟨v7, ev7⟩ : ∃ zz9 : Int32, zI s1 this 1 = zz9 := ⟨_, rfl⟩
        have qv7 : v7.toInt = (zI s1 this 1).toInt := by rw [ev7]
        have b8 := (hT.P (hT.k t_this (by decide)) (by decide)).2.1
        rw [ev7] at b8
        have b8l := b8.1
        have b8h := b8.2
        have bN9 := (hT.P (hT.k t_this (by decide)) (by decide)).1
        have hN10 : zN s1 this = zN σ0 this := hT.eN t_this (by decide) rfl rfl
        refine va_get (D := κ.1) (ci := 4) (v := .int (zI s1 this 1)) (C := RX4) (T := TX4) (N := 3) hx hb hg inX4 hown hK oh6.one 0 rfl rfl 1 (by decide) (hg _ k210) (fun _ h9 => h9) rfl dX4_addAmount_16 ?_
        rw [ev7]
        refine lv_icmp_ge (tgt := 37) hx hb dX4_addAmount_19 (by decide) (fun c9 => ?_) (fun c9 => ?_)
        · have c3 := gi_le c9
          refine lv_lconst (v := 0) hx hb dX4_addAmount_37 (by decide) ?_
          refine lv_lstore (lv' := [(8, .long 0), (5, .long cy), (7, .int i), (0, .ref this), (1, .ref o), (2, .long f), (4, .int n)]) hx hb dX4_addAmount_38 hl (by decide) rfl (fun ls hl => ?_)
          refine lv_iload hx hb dX4_addAmount_40 (lv_at hl 2 rfl) ?_
          refine lv_aload_n hx hb dX4_addAmount_42 rfl (lv_at hl 4 rfl) ?_
          obtain ⟨h11, oh11, th11⟩ := hT.o1 (hT.k t_o (by decide))
          obtain ⟨v12, ev12⟩ : ∃ zz9 : Int32, zI s1 o 1 = zz9 := ⟨_, rfl⟩
          have qv12 : v12.toInt = (zI s1 o 1).toInt := by rw [ev12]
          have b13 := (hT.P (hT.k t_o (by decide)) (by decide)).2.1
          rw [ev12] at b13
          have b13l := b13.1
          have b13h := b13.2
          have bN14 := (hT.P (hT.k t_o (by decide)) (by decide)).1
          have hN15 : zN s1 o = zN σ0 o := hT.eN t_o (by decide) rfl rfl
          refine va_get (D := κ.1) (ci := 4) (v := .int (zI s1 o 1)) (C := RX4) (T := TX4) (N := 3) hx hb hg inX4 hown hK oh11.one 0 rfl rfl 1 (by decide) (hg _ k210) (fun _ h9 => h9) rfl dX4_addAmount_43 ?_
          rw [ev12]
          refine lv_icmp_ge (tgt := 64) hx hb dX4_addAmount_46 (by decide) (fun c9 => ?_) (fun c9 => ?_)
          · have c4 := gi_le c9
            refine lv_lconst (v := 0) hx hb dX4_addAmount_64 (by decide) ?_
            refine lv_lstore (lv' := [(10, .long 0), (8, .long 0), (5, .long cy), (7, .int i), (0, .ref this), (1, .ref o), (2, .long f), (4, .int n)]) hx hb dX4_addAmount_65 hl (by decide) rfl (fun ls hl => ?_)
            refine lv_lload hx hb dX4_addAmount_67 (lv_at hl 2 rfl) ?_
            refine lv_lload hx hb dX4_addAmount_69 (lv_at hl 1 rfl) ?_
            refine lv_lload hx hb dX4_addAmount_71 (lv_at hl 0 rfl) ?_
            refine lv_lload_n hx hb dX4_addAmount_73 rfl (lv_at hl 6 rfl) ?_
            refine lv_lmul hx hb dX4_addAmount_74 ?_
            refine lv_topl (fun t16 ht16 => ?_)
            refine lv_ladd hx hb dX4_addAmount_75 ?_
            refine lv_topl (fun t17 ht17 => ?_)
            refine lv_ladd hx hb dX4_addAmount_76 ?_
            refine lv_topl (fun t18 ht18 => ?_)
            refine lv_lstore (lv' := [(5, .long t18), (10, .long 0), (8, .long 0), (7, .int i), (0, .ref this), (1, .ref o), (2, .long f), (4, .int n)]) hx hb dX4_addAmount_77 hl (by decide) rfl (fun ls hl => ?_)
            refine lv_aload_n hx hb dX4_addAmount_79 rfl (lv_at hl 4 rfl) ?_
            obtain ⟨h19, oh19, th19⟩ := hT.o1 (hT.k t_this (by decide))
            refine va_get (D := κ.1) (ci := 4) (v := .ref h19) (C := RX4) (T := TX4) (N := 3) hx hb hg inX4 hown hK oh19.one 0 rfl rfl 0 (by decide) (hg _ k209) (fun _ h9 => h9) rfl dX4_addAmount_80 ?_
            have bN20 := (hT.P (hT.k t_this (by decide)) (by decide)).1
            have hN21 : zN s1 this = zN σ0 this := hT.eN t_this (by decide) rfl rfl
            refine lv_iload hx hb dX4_addAmount_83 (lv_at hl 3 rfl) ?_
            refine lv_lload hx hb dX4_addAmount_85 (lv_at hl 0 rfl) ?_
            refine lv_l2i hx hb dX4_addAmount_87 rfl ?_
            refine lv_topi (fun t22 ht22 => ?_)
            have hTo := hT
            refine tasti hx hb hK hT th19 ⟨by omega, by omega⟩ (fun _ _ _ => zS_big) (fun _ _ => zP_big) fL_fX (by omega) (by omega) dX4_addAmount_88 (fun H locs s23 hus23 hT => ?_)
            have ev7 : zI s23 this 1 = v7 := (zput_o hus23 (Or.inl ((hTo.k t_this (by decide)).ne th19 (by omega)))).trans ev7
            have ev12 : zI s23 o 1 = v12 := (zput_o hus23 (Or.inl ((hTo.k t_o (by decide)).ne th19 (by omega)))).trans ev12
            refine lv_lload hx hb dX4_addAmount_89 (lv_at hl 0 rfl) ?_
            refine lv_bipush (v := 32) hx hb dX4_addAmount_91 (by decide) ?_
            refine lv_lshr hx hb dX4_addAmount_93 rfl ?_
            refine lv_topl (fun t24 ht24 => ?_)
            refine lv_lstore (lv' := [(5, .long t24), (10, .long 0), (8, .long 0), (7, .int i), (0, .ref this), (1, .ref o), (2, .long f), (4, .int n)]) hx hb dX4_addAmount_94 hl (by decide) rfl (fun ls hl => ?_)
            obtain ⟨t25, qt25⟩ : ∃ zz9 : Int32, i + Int32.ofInt 1 = zz9 := ⟨_, rfl⟩
            refine lv_iinc (v := t25) (lv' := [(7, .int t25), (5, .long t24), (10, .long 0), (8, .long 0), (0, .ref this), (1, .ref o), (2, .long f), (4, .int n)]) hx hb dX4_addAmount_96 hl (k := 3) rfl qt25 (by decide) rfl (fun ls hl => ?_)
            have ht25 : t25.toInt = i.toInt + 1 := by rw [← qt25]; exact v_addi rfl (show (Int32.ofInt 1).toInt = 1 from by decide) (by omega) (by omega)
            refine lv_goto (tgt := 6) hx hb dX4_addAmount_99 (by decide) ?_
            exact ih6 t24 t25 _ _ _ _ hT  (by omega) (by omega) (lv_sub hl [1, 0, 4, 5, 6, 7] rfl) (by omega)
          · have c5 := gi_nle c9
            refine lv_aload_n hx hb dX4_addAmount_49 rfl (lv_at hl 4 rfl) ?_
            obtain ⟨h26, oh26, th26⟩ := hT.o1 (hT.k t_o (by decide))
            refine va_get (D := κ.1) (ci := 4) (v := .ref h26) (C := RX4) (T := TX4) (N := 3) hx hb hg inX4 hown hK oh26.one 0 rfl rfl 0 (by decide) (hg _ k209) (fun _ h9 => h9) rfl dX4_addAmount_50 ?_
            have bN27 := (hT.P (hT.k t_o (by decide)) (by decide)).1
            have hN28 : zN s1 o = zN σ0 o := hT.eN t_o (by decide) rfl rfl
            refine lv_iload hx hb dX4_addAmount_53 (lv_at hl 2 rfl) ?_
            refine va_iald hx hb hK (hT.oL th26).one 0 0 rfl rfl (g_in (by omega) (by omega)) dX4_addAmount_55 ?_
            refine lv_topi (fun t29 ht29 => ?_)
            refine lv_i2l hx hb dX4_addAmount_56 rfl ?_
            refine g_i2l (fun t30 ht30 => ?_)
            refine lv_ldc2 hx hb hown (hg _ k348) dX4_addAmount_57 ?_
            refine lv_land hx hb dX4_addAmount_60 ?_
            refine lv_topl (fun t31 ht31 => ?_)
            refine lv_goto (tgt := 65) hx hb dX4_addAmount_61 (by decide) ?_
            refine lv_lstore (lv' := [(10, .long t31), (8, .long 0), (5, .long cy), (7, .int i), (0, .ref this), (1, .ref o), (2, .long f), (4, .int n)]) hx hb dX4_addAmount_65 hl (by decide) rfl (fun ls hl => ?_)
            refine lv_lload hx hb dX4_addAmount_67 (lv_at hl 2 rfl) ?_
            refine lv_lload hx hb dX4_addAmount_69 (lv_at hl 1 rfl) ?_
            refine lv_lload hx hb dX4_addAmount_71 (lv_at hl 0 rfl) ?_
            refine lv_lload_n hx hb dX4_addAmount_73 rfl (lv_at hl 6 rfl) ?_
            refine lv_lmul hx hb dX4_addAmount_74 ?_
            refine lv_topl (fun t32 ht32 => ?_)
            refine lv_ladd hx hb dX4_addAmount_75 ?_
            refine lv_topl (fun t33 ht33 => ?_)
            refine lv_ladd hx hb dX4_addAmount_76 ?_
            refine lv_topl (fun t34 ht34 => ?_)
            refine lv_lstore (lv' := [(5, .long t34), (10, .long t31), (8, .long 0), (7, .int i), (0, .ref this), (1, .ref o), (2, .long f), (4, .int n)]) hx hb dX4_addAmount_77 hl (by decide) rfl (fun ls hl => ?_)
            refine lv_aload_n hx hb dX4_addAmount_79 rfl (lv_at hl 4 rfl) ?_
            obtain ⟨h35, oh35, th35⟩ := hT.o1 (hT.k t_this (by decide))
            refine va_get (D := κ.1) (ci := 4) (v := .ref h35) (C := RX4) (T := TX4) (N := 3) hx hb hg inX4 hown hK oh35.one 0 rfl rfl 0 (by decide) (hg _ k209) (fun _ h9 => h9) rfl dX4_addAmount_80 ?_
            have bN36 := (hT.P (hT.k t_this (by decide)) (by decide)).1
            have hN37 : zN s1 this = zN σ0 this := hT.eN t_this (by decide) rfl rfl
            refine lv_iload hx hb dX4_addAmount_83 (lv_at hl 3 rfl) ?_
            refine lv_lload hx hb dX4_addAmount_85 (lv_at hl 0 rfl) ?_
            refine lv_l2i hx hb dX4_addAmount_87 rfl ?_
            refine lv_topi (fun t38 ht38 => ?_)
            have hTo := hT
            refine tasti hx hb hK hT th35 ⟨by omega, by omega⟩ (fun _ _ _ => zS_big) (fun _ _ => zP_big) fL_fX (by omega) (by omega) dX4_addAmount_88 (fun H locs s39 hus39 hT => ?_)
            have ev7 : zI s39 this 1 = v7 := (zput_o hus39 (Or.inl ((hTo.k t_this (by decide)).ne th35 (by omega)))).trans ev7
            have ev12 : zI s39 o 1 = v12 := (zput_o hus39 (Or.inl ((hTo.k t_o (by decide)).ne th35 (by omega)))).trans ev12
            refine lv_lload hx hb dX4_addAmount_89 (lv_at hl 0 rfl) ?_
            refine lv_bipush (v := 32) hx hb dX4_addAmount_91 (by decide) ?_
            refine lv_lshr hx hb dX4_addAmount_93 rfl ?_
            refine lv_topl (fun t40 ht40 => ?_)
            refine lv_lstore (lv' := [(5, .long t40), (10, .long t31), (8, .long 0), (7, .int i), (0, .ref this), (1, .ref o), (2, .long f), (4, .int n)]) hx hb dX4_addAmount_94 hl (by decide) rfl (fun ls hl => ?_)
            obtain ⟨t41, qt41⟩ : ∃ zz9 : Int32, i + Int32.ofInt 1 = zz9 := ⟨_, rfl⟩
            refine lv_iinc (v := t41) (lv' := [(7, .int t41), (5, .long t40), (10, .long t31), (8, .long 0), (0, .ref this), (1, .ref o), (2, .long f), (4, .int n)]) hx hb dX4_addAmount_96 hl (k := 3) rfl qt41 (by decide) rfl (fun ls hl => ?_)
            have ht41 : t41.toInt = i.toInt + 1 := by rw [← qt41]; exact v_addi rfl (show (Int32.ofInt 1).toInt = 1 from by decide) (by omega) (by omega)
            refine lv_goto (tgt := 6) hx hb dX4_addAmount_99 (by decide) ?_
            exact ih6 t40 t41 _ _ _ _ hT  (by omega) (by omega) (lv_sub hl [1, 0, 4, 5, 6, 7] rfl) (by omega)
        · have c6 := gi_nle c9
          refine lv_aload_n hx hb dX4_addAmount_22 rfl (lv_at hl 2 rfl) ?_
          obtain ⟨h42, oh42, th42⟩ := hT.o1 (hT.k t_this (by decide))
          refine va_get (D := κ.1) (ci := 4) (v := .ref h42) (C := RX4) (T := TX4) (N := 3) hx hb hg inX4 hown hK oh42.one 0 rfl rfl 0 (by decide) (hg _ k209) (fun _ h9 => h9) rfl dX4_addAmount_23 ?_
          have bN43 := (hT.P (hT.k t_this (by decide)) (by decide)).1
          have hN44 : zN s1 this = zN σ0 this := hT.eN t_this (by decide) rfl rfl
          refine lv_iload hx hb dX4_addAmount_26 (lv_at hl 1 rfl) ?_
          refine va_iald hx hb hK (hT.oL th42).one 0 0 rfl rfl (g_in (by omega) (by omega)) dX4_addAmount_28 ?_
          refine lv_topi (fun t45 ht45 => ?_)
          refine lv_i2l hx hb dX4_addAmount_29 rfl ?_
          refine g_i2l (fun t46 ht46 => ?_)
          refine lv_ldc2 hx hb hown (hg _ k348) dX4_addAmount_30 ?_
          refine lv_land hx hb dX4_addAmount_33 ?_
          refine lv_topl (fun t47 ht47 => ?_)
          refine lv_goto (tgt := 38) hx hb dX4_addAmount_34 (by decide) ?_
          refine lv_lstore (lv' := [(8, .long t47), (5, .long cy), (7, .int i), (0, .ref this), (1, .ref o), (2, .long f), (4, .int n)]) hx hb dX4_addAmount_38 hl (by decide) rfl (fun ls hl => ?_)
          refine lv_iload hx hb dX4_addAmount_40 (lv_at hl 2 rfl) ?_
          refine lv_aload_n hx hb dX4_addAmount_42 rfl (lv_at hl 4 rfl) ?_
          obtain ⟨h48, oh48, th48⟩ := hT.o1 (hT.k t_o (by decide))
          obtain ⟨v49, ev49⟩ : ∃ zz9 : Int32, zI s1 o 1 = zz9 := ⟨_, rfl⟩
          have qv49 : v49.toInt = (zI s1 o 1).toInt := by rw [ev49]
          have b50 := (hT.P (hT.k t_o (by decide)) (by decide)).2.1
          rw [ev49] at b50
          have b50l := b50.1
          have b50h := b50.2
          have bN51 := (hT.P (hT.k t_o (by decide)) (by decide)).1
          have hN52 : zN s1 o = zN σ0 o := hT.eN t_o (by decide) rfl rfl
          refine va_get (D := κ.1) (ci := 4) (v := .int (zI s1 o 1)) (C := RX4) (T := TX4) (N := 3) hx hb hg inX4 hown hK oh48.one 0 rfl rfl 1 (by decide) (hg _ k210) (fun _ h9 => h9) rfl dX4_addAmount_43 ?_
          rw [ev49]
          refine lv_icmp_ge (tgt := 64) hx hb dX4_addAmount_46 (by decide) (fun c9 => ?_) (fun c9 => ?_)
          · have c7 := gi_le c9
            refine lv_lconst (v := 0) hx hb dX4_addAmount_64 (by decide) ?_
            refine lv_lstore (lv' := [(10, .long 0), (8, .long t47), (5, .long cy), (7, .int i), (0, .ref this), (1, .ref o), (2, .long f), (4, .int n)]) hx hb dX4_addAmount_65 hl (by decide) rfl (fun ls hl => ?_)
            refine lv_lload hx hb dX4_addAmount_67 (lv_at hl 2 rfl) ?_
            refine lv_lload hx hb dX4_addAmount_69 (lv_at hl 1 rfl) ?_
            refine lv_lload hx hb dX4_addAmount_71 (lv_at hl 0 rfl) ?_
            refine lv_lload_n hx hb dX4_addAmount_73 rfl (lv_at hl 6 rfl) ?_
            refine lv_lmul hx hb dX4_addAmount_74 ?_
            refine lv_topl (fun t53 ht53 => ?_)
            refine lv_ladd hx hb dX4_addAmount_75 ?_
            refine lv_topl (fun t54 ht54 => ?_)
            refine lv_ladd hx hb dX4_addAmount_76 ?_
            refine lv_topl (fun t55 ht55 => ?_)
            refine lv_lstore (lv' := [(5, .long t55), (10, .long 0), (8, .long t47), (7, .int i), (0, .ref this), (1, .ref o), (2, .long f), (4, .int n)]) hx hb dX4_addAmount_77 hl (by decide) rfl (fun ls hl => ?_)
            refine lv_aload_n hx hb dX4_addAmount_79 rfl (lv_at hl 4 rfl) ?_
            obtain ⟨h56, oh56, th56⟩ := hT.o1 (hT.k t_this (by decide))
            refine va_get (D := κ.1) (ci := 4) (v := .ref h56) (C := RX4) (T := TX4) (N := 3) hx hb hg inX4 hown hK oh56.one 0 rfl rfl 0 (by decide) (hg _ k209) (fun _ h9 => h9) rfl dX4_addAmount_80 ?_
            have bN57 := (hT.P (hT.k t_this (by decide)) (by decide)).1
            have hN58 : zN s1 this = zN σ0 this := hT.eN t_this (by decide) rfl rfl
            refine lv_iload hx hb dX4_addAmount_83 (lv_at hl 3 rfl) ?_
            refine lv_lload hx hb dX4_addAmount_85 (lv_at hl 0 rfl) ?_
            refine lv_l2i hx hb dX4_addAmount_87 rfl ?_
            refine lv_topi (fun t59 ht59 => ?_)
            have hTo := hT
            refine tasti hx hb hK hT th56 ⟨by omega, by omega⟩ (fun _ _ _ => zS_big) (fun _ _ => zP_big) fL_fX (by omega) (by omega) dX4_addAmount_88 (fun H locs s60 hus60 hT => ?_)
            have ev7 : zI s60 this 1 = v7 := (zput_o hus60 (Or.inl ((hTo.k t_this (by decide)).ne th56 (by omega)))).trans ev7
            have ev49 : zI s60 o 1 = v49 := (zput_o hus60 (Or.inl ((hTo.k t_o (by decide)).ne th56 (by omega)))).trans ev49
            refine lv_lload hx hb dX4_addAmount_89 (lv_at hl 0 rfl) ?_
            refine lv_bipush (v := 32) hx hb dX4_addAmount_91 (by decide) ?_
            refine lv_lshr hx hb dX4_addAmount_93 rfl ?_
            refine lv_topl (fun t61 ht61 => ?_)
            refine lv_lstore (lv' := [(5, .long t61), (10, .long 0), (8, .long t47), (7, .int i), (0, .ref this), (1, .ref o), (2, .long f), (4, .int n)]) hx hb dX4_addAmount_94 hl (by decide) rfl (fun ls hl => ?_)
            obtain ⟨t62, qt62⟩ : ∃ zz9 : Int32, i + Int32.ofInt 1 = zz9 := ⟨_, rfl⟩
            refine lv_iinc (v := t62) (lv' := [(7, .int t62), (5, .long t61), (10, .long 0), (8, .long t47), (0, .ref this), (1, .ref o), (2, .long f), (4, .int n)]) hx hb dX4_addAmount_96 hl (k := 3) rfl qt62 (by decide) rfl (fun ls hl => ?_)
            have ht62 : t62.toInt = i.toInt + 1 := by rw [← qt62]; exact v_addi rfl (show (Int32.ofInt 1).toInt = 1 from by decide) (by omega) (by omega)
            refine lv_goto (tgt := 6) hx hb dX4_addAmount_99 (by decide) ?_
            exact ih6 t61 t62 _ _ _ _ hT  (by omega) (by omega) (lv_sub hl [1, 0, 4, 5, 6, 7] rfl) (by omega)
          · have c8 := gi_nle c9
            refine lv_aload_n hx hb dX4_addAmount_49 rfl (lv_at hl 4 rfl) ?_
            obtain ⟨h63, oh63, th63⟩ := hT.o1 (hT.k t_o (by decide))
            refine va_get (D := κ.1) (ci := 4) (v := .ref h63) (C := RX4) (T := TX4) (N := 3) hx hb hg inX4 hown hK oh63.one 0 rfl rfl 0 (by decide) (hg _ k209) (fun _ h9 => h9) rfl dX4_addAmount_50 ?_
            have bN64 := (hT.P (hT.k t_o (by decide)) (by decide)).1
            have hN65 : zN s1 o = zN σ0 o := hT.eN t_o (by decide) rfl rfl
            refine lv_iload hx hb dX4_addAmount_53 (lv_at hl 2 rfl) ?_
            refine va_iald hx hb hK (hT.oL th63).one 0 0 rfl rfl (g_in (by omega) (by omega)) dX4_addAmount_55 ?_
            refine lv_topi (fun t66 ht66 => ?_)
            refine lv_i2l hx hb dX4_addAmount_56 rfl ?_
            refine g_i2l (fun t67 ht67 => ?_)
            refine lv_ldc2 hx hb hown (hg _ k348) dX4_addAmount_57 ?_
            refine lv_land hx hb dX4_addAmount_60 ?_
            refine lv_topl (fun t68 ht68 => ?_)
            refine lv_goto (tgt := 65) hx hb dX4_addAmount_61 (by decide) ?_
            refine lv_lstore (lv' := [(10, .long t68), (8, .long t47), (5, .long cy), (7, .int i), (0, .ref this), (1, .ref o), (2, .long f), (4, .int n)]) hx hb dX4_addAmount_65 hl (by decide) rfl (fun ls hl => ?_)
            refine lv_lload hx hb dX4_addAmount_67 (lv_at hl 2 rfl) ?_
            refine lv_lload hx hb dX4_addAmount_69 (lv_at hl 1 rfl) ?_
            refine lv_lload hx hb dX4_addAmount_71 (lv_at hl 0 rfl) ?_
            refine lv_lload_n hx hb dX4_addAmount_73 rfl (lv_at hl 6 rfl) ?_
            refine lv_lmul hx hb dX4_addAmount_74 ?_
            refine lv_topl (fun t69 ht69 => ?_)
            refine lv_ladd hx hb dX4_addAmount_75 ?_
            refine lv_topl (fun t70 ht70 => ?_)
            refine lv_ladd hx hb dX4_addAmount_76 ?_
            refine lv_topl (fun t71 ht71 => ?_)
            refine lv_lstore (lv' := [(5, .long t71), (10, .long t68), (8, .long t47), (7, .int i), (0, .ref this), (1, .ref o), (2, .long f), (4, .int n)]) hx hb dX4_addAmount_77 hl (by decide) rfl (fun ls hl => ?_)
            refine lv_aload_n hx hb dX4_addAmount_79 rfl (lv_at hl 4 rfl) ?_
            obtain ⟨h72, oh72, th72⟩ := hT.o1 (hT.k t_this (by decide))
            refine va_get (D := κ.1) (ci := 4) (v := .ref h72) (C := RX4) (T := TX4) (N := 3) hx hb hg inX4 hown hK oh72.one 0 rfl rfl 0 (by decide) (hg _ k209) (fun _ h9 => h9) rfl dX4_addAmount_80 ?_
            have bN73 := (hT.P (hT.k t_this (by decide)) (by decide)).1
            have hN74 : zN s1 this = zN σ0 this := hT.eN t_this (by decide) rfl rfl
            refine lv_iload hx hb dX4_addAmount_83 (lv_at hl 3 rfl) ?_
            refine lv_lload hx hb dX4_addAmount_85 (lv_at hl 0 rfl) ?_
            refine lv_l2i hx hb dX4_addAmount_87 rfl ?_
            refine lv_topi (fun t75 ht75 => ?_)
            have hTo := hT
            refine tasti hx hb hK hT th72 ⟨by omega, by omega⟩ (fun _ _ _ => zS_big) (fun _ _ => zP_big) fL_fX (by omega) (by omega) dX4_addAmount_88 (fun H locs s76 hus76 hT => ?_)
            have ev7 : zI s76 this 1 = v7 := (zput_o hus76 (Or.inl ((hTo.k t_this (by decide)).ne th72 (by omega)))).trans ev7
            have ev49 : zI s76 o 1 = v49 := (zput_o hus76 (Or.inl ((hTo.k t_o (by decide)).ne th72 (by omega)))).trans ev49
            refine lv_lload hx hb dX4_addAmount_89 (lv_at hl 0 rfl) ?_
            refine lv_bipush (v := 32) hx hb dX4_addAmount_91 (by decide) ?_
            refine lv_lshr hx hb dX4_addAmount_93 rfl ?_
            refine lv_topl (fun t77 ht77 => ?_)
            refine lv_lstore (lv' := [(5, .long t77), (10, .long t68), (8, .long t47), (7, .int i), (0, .ref this), (1, .ref o), (2, .long f), (4, .int n)]) hx hb dX4_addAmount_94 hl (by decide) rfl (fun ls hl => ?_)
            obtain ⟨t78, qt78⟩ : ∃ zz9 : Int32, i + Int32.ofInt 1 = zz9 := ⟨_, rfl⟩
            refine lv_iinc (v := t78) (lv' := [(7, .int t78), (5, .long t77), (10, .long t68), (8, .long t47), (0, .ref this), (1, .ref o), (2, .long f), (4, .int n)]) hx hb dX4_addAmount_96 hl (k := 3) rfl qt78 (by decide) rfl (fun ls hl => ?_)
            have ht78 : t78.toInt = i.toInt + 1 := by rw [← qt78]; exact v_addi rfl (show (Int32.ofInt 1).toInt = 1 from by decide) (by omega) (by omega)
            refine lv_goto (tgt := 6) hx hb dX4_addAmount_99 (by decide) ?_
            exact ih6 t77 t78 _ _ _ _ hT  (by omega) (by omega) (lv_sub hl [1, 0, 4, 5, 6, 7] rfl) (by omega)
  exact loop6 ((n.toInt - (0 : Int32).toInt).toNat + 1) 0 0 _ _ _ _ hT  (by omega) (by omega) (lv_sub hl [1, 0, 2, 3, 4, 5] rfl) (by omega)

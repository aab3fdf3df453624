/-! more words and decode rows -/
theorem k105 : Cond.classLink RL 8 RX5 ∈ GW := gm 105 (by decide +kernel) (by decide +kernel)
theorem k106 : Cond.instantiable RX5 10 ∈ GW := gm 106 (by decide +kernel) (by decide +kernel)
theorem k107 : Cond.methodLink RL 112 yX5_init ∈ GW := gm 107 (by decide +kernel) (by decide +kernel)
theorem k108 : Cond.instanceMethod yX5_init ∈ GW := gm 108 (by decide +kernel) (by decide +kernel)
theorem k109 : Cond.code yX5_init cX5_init 1 none ∈ GW := gm 109 (by decide +kernel) (by decide +kernel)
theorem k1020 : Cond.methodLink RX5 258 yX1_addNoise ∈ GW := gm 1020 (by decide +kernel) (by decide +kernel)
theorem k1021 : Cond.instanceMethod yX1_addNoise ∈ GW := gm 1021 (by decide +kernel) (by decide +kernel)
theorem k1022 : Cond.selects RX1 yX1_addNoise yX1_addNoise ∈ GW := gm 1022 (by decide +kernel) (by decide +kernel)
theorem k1023 : Cond.code yX1_addNoise cX1_addNoise 7 none ∈ GW := gm 1023 (by decide +kernel) (by decide +kernel)
theorem k1024 : Cond.constant RX1 115 1103515245 ∈ GW := gm 1024 (by decide +kernel) (by decide +kernel)
theorem k1204 : Cond.classLink RL 113 RX6 ∈ GW := gm 1204 (by decide +kernel) (by decide +kernel)
theorem k1205 : Cond.instantiable RX6 27 ∈ GW := gm 1205 (by decide +kernel) (by decide +kernel)
theorem k1206 : Cond.methodLink RL 115 yX6_init ∈ GW := gm 1206 (by decide +kernel) (by decide +kernel)
theorem k1207 : Cond.instanceMethod yX6_init ∈ GW := gm 1207 (by decide +kernel) (by decide +kernel)
theorem k1208 : Cond.code yX6_init cX6_init 1 none ∈ GW := gm 1208 (by decide +kernel) (by decide +kernel)
theorem dL_law_0 : decode cL_law 0 = .ok (.new 8, 3) := by decide +kernel
theorem dL_law_3 : decode cL_law 3 = .ok (.dup, 1) := by decide +kernel
theorem dL_law_4 : decode cL_law 4 = .ok (.invokespecial 112, 3) := by decide +kernel
theorem dL_law_7 : decode cL_law 7 = .ok (.astore_n 1, 1) := by decide +kernel
theorem dL_law_8 : decode cL_law 8 = .ok (.new 113, 3) := by decide +kernel
theorem dL_law_11 : decode cL_law 11 = .ok (.dup, 1) := by decide +kernel
theorem dL_law_12 : decode cL_law 12 = .ok (.invokespecial 115, 3) := by decide +kernel
theorem dL_law_15 : decode cL_law 15 = .ok (.astore_n 2, 1) := by decide +kernel
theorem dL_law_16 : decode cL_law 16 = .ok (.iconst 1, 1) := by decide +kernel
theorem dL_law_17 : decode cL_law 17 = .ok (.newarray .long, 2) := by decide +kernel
theorem dL_law_19 : decode cL_law 19 = .ok (.astore_n 3, 1) := by decide +kernel
theorem dL_law_20 : decode cL_law 20 = .ok (.iconst 0, 1) := by decide +kernel
theorem dL_law_21 : decode cL_law 21 = .ok (.istore 4, 2) := by decide +kernel
theorem dL_law_23 : decode cL_law 23 = .ok (.iload 4, 2) := by decide +kernel
theorem dL_law_25 : decode cL_law 25 = .ok (.aload_n 0, 1) := by decide +kernel
theorem dL_law_26 : decode cL_law 26 = .ok (.arraylength, 1) := by decide +kernel
theorem dL_law_27 : decode cL_law 27 = .ok (.bipush 6, 2) := by decide +kernel
theorem dL_law_29 : decode cL_law 29 = .ok (.isub, 1) := by decide +kernel
theorem dL_law_30 : decode cL_law 30 = .ok (.if_icmp .gt 2175, 3) := by decide +kernel
theorem dL_law_33 : decode cL_law 33 = .ok (.aload_n 0, 1) := by decide +kernel
theorem dL_law_34 : decode cL_law 34 = .ok (.iload 4, 2) := by decide +kernel
theorem dL_law_36 : decode cL_law 36 = .ok (.iaload, 1) := by decide +kernel
theorem dL_law_37 : decode cL_law 37 = .ok (.bipush 63, 2) := by decide +kernel
theorem dL_law_39 : decode cL_law 39 = .ok (.iand, 1) := by decide +kernel
theorem dL_law_40 : decode cL_law 40 = .ok (.tableswitch 2159 0 40 #[180, 253, 309, 353, 366, 379, 435, 502, 558, 642, 709, 764, 778, 792, 847, 888, 902, 915, 971, 1015, 1071, 1127, 1168, 1235, 1302, 1315, 1371, 1426, 1482, 1549, 1633, 1688, 1743, 1798, 1881, 1937, 2005, 2018, 2074, 2087, 2123], 180) := by decide +kernel
theorem dL_law_1328 : decode cL_law 1328 = .ok (.aload_n 3, 1) := by decide +kernel
theorem dL_law_1329 : decode cL_law 1329 = .ok (.iconst 0, 1) := by decide +kernel
theorem dL_law_1330 : decode cL_law 1330 = .ok (.laload, 1) := by decide +kernel
theorem dL_law_1331 : decode cL_law 1331 = .ok (.lload 6, 2) := by decide +kernel
theorem dL_law_1333 : decode cL_law 1333 = .ok (.lcmp, 1) := by decide +kernel
theorem dL_law_1334 : decode cL_law 1334 = .ok (.ifCond .eq 5, 3) := by decide +kernel
theorem dL_law_2199 : decode cL_law 2199 = .ok (.iinc 4 6, 3) := by decide +kernel
theorem dL_law_2202 : decode cL_law 2202 = .ok (.goto (-2179), 3) := by decide +kernel
theorem dL_law_2205 : decode cL_law 2205 = .ok (.iconst 1, 1) := by decide +kernel
theorem dL_law_2206 : decode cL_law 2206 = .ok (.ireturn, 1) := by decide +kernel
theorem dL_noise_8 : decode cL_noise 8 = .ok (.lastore, 1) := by decide +kernel
theorem dL_noise_9 : decode cL_noise 9 = .ok (.goto 11, 3) := by decide +kernel
theorem dL_noise_20 : decode cL_noise 20 = .ok (.iconst 0, 1) := by decide +kernel
theorem dL_noise_21 : decode cL_noise 21 = .ok (.ireturn, 1) := by decide +kernel
theorem dX1_addNoise_0 : decode cX1_addNoise 0 = .ok (.iconst 2, 1) := by decide +kernel
theorem dX1_addNoise_1 : decode cX1_addNoise 1 = .ok (.iload_n 2, 1) := by decide +kernel
theorem dX1_addNoise_2 : decode cX1_addNoise 2 = .ok (.imul, 1) := by decide +kernel
theorem dX1_addNoise_3 : decode cX1_addNoise 3 = .ok (.iconst 1, 1) := by decide +kernel
theorem dX1_addNoise_4 : decode cX1_addNoise 4 = .ok (.iadd, 1) := by decide +kernel
theorem dX1_addNoise_5 : decode cX1_addNoise 5 = .ok (.istore_n 3, 1) := by decide +kernel
theorem dX1_addNoise_6 : decode cX1_addNoise 6 = .ok (.iload_n 1, 1) := by decide +kernel
theorem dX1_addNoise_7 : decode cX1_addNoise 7 = .ok (.istore 4, 2) := by decide +kernel
theorem dX1_addNoise_9 : decode cX1_addNoise 9 = .ok (.iconst 0, 1) := by decide +kernel
theorem dX1_addNoise_10 : decode cX1_addNoise 10 = .ok (.istore 5, 2) := by decide +kernel
theorem dX1_addNoise_12 : decode cX1_addNoise 12 = .ok (.iload 5, 2) := by decide +kernel
theorem dX1_addNoise_14 : decode cX1_addNoise 14 = .ok (.aload_n 0, 1) := by decide +kernel
theorem dX1_addNoise_15 : decode cX1_addNoise 15 = .ok (.getfield 49, 3) := by decide +kernel
theorem dX1_addNoise_18 : decode cX1_addNoise 18 = .ok (.getfield 58, 3) := by decide +kernel
theorem dX1_addNoise_21 : decode cX1_addNoise 21 = .ok (.if_icmp .ge 74, 3) := by decide +kernel
theorem dX1_addNoise_24 : decode cX1_addNoise 24 = .ok (.iload_n 3, 1) := by decide +kernel
theorem dX1_addNoise_25 : decode cX1_addNoise 25 = .ok (.ifCond .le 70, 3) := by decide +kernel
theorem dX1_addNoise_28 : decode cX1_addNoise 28 = .ok (.iload 4, 2) := by decide +kernel
theorem dX1_addNoise_30 : decode cX1_addNoise 30 = .ok (.ldc 115, 2) := by decide +kernel
theorem dX1_addNoise_32 : decode cX1_addNoise 32 = .ok (.imul, 1) := by decide +kernel
theorem dX1_addNoise_33 : decode cX1_addNoise 33 = .ok (.sipush 12345, 3) := by decide +kernel
theorem dX1_addNoise_36 : decode cX1_addNoise 36 = .ok (.iadd, 1) := by decide +kernel
theorem dX1_addNoise_37 : decode cX1_addNoise 37 = .ok (.istore 4, 2) := by decide +kernel
theorem dX1_addNoise_39 : decode cX1_addNoise 39 = .ok (.iload 4, 2) := by decide +kernel
theorem dX1_addNoise_41 : decode cX1_addNoise 41 = .ok (.bipush 16, 2) := by decide +kernel
theorem dX1_addNoise_43 : decode cX1_addNoise 43 = .ok (.iushr, 1) := by decide +kernel
theorem dX1_addNoise_44 : decode cX1_addNoise 44 = .ok (.iload_n 3, 1) := by decide +kernel
theorem dX1_addNoise_45 : decode cX1_addNoise 45 = .ok (.irem, 1) := by decide +kernel
theorem dX1_addNoise_46 : decode cX1_addNoise 46 = .ok (.iload_n 2, 1) := by decide +kernel
theorem dX1_addNoise_47 : decode cX1_addNoise 47 = .ok (.isub, 1) := by decide +kernel
theorem dX1_addNoise_48 : decode cX1_addNoise 48 = .ok (.istore 6, 2) := by decide +kernel
theorem dX1_addNoise_50 : decode cX1_addNoise 50 = .ok (.aload_n 0, 1) := by decide +kernel
theorem dX1_addNoise_51 : decode cX1_addNoise 51 = .ok (.getfield 11, 3) := by decide +kernel
theorem dX1_addNoise_54 : decode cX1_addNoise 54 = .ok (.iload 5, 2) := by decide +kernel
theorem dX1_addNoise_56 : decode cX1_addNoise 56 = .ok (.aaload, 1) := by decide +kernel
theorem dX1_addNoise_57 : decode cX1_addNoise 57 = .ok (.aload_n 0, 1) := by decide +kernel
theorem dX1_addNoise_58 : decode cX1_addNoise 58 = .ok (.getfield 40, 3) := by decide +kernel
theorem dX1_addNoise_61 : decode cX1_addNoise 61 = .ok (.iload 6, 2) := by decide +kernel
theorem dX1_addNoise_63 : decode cX1_addNoise 63 = .ok (.i2l, 1) := by decide +kernel
theorem dX1_addNoise_64 : decode cX1_addNoise 64 = .ok (.invokevirtual 70, 3) := by decide +kernel
theorem dX1_addNoise_67 : decode cX1_addNoise 67 = .ok (.aload_n 0, 1) := by decide +kernel
theorem dX1_addNoise_68 : decode cX1_addNoise 68 = .ok (.getfield 36, 3) := by decide +kernel
theorem dX1_addNoise_71 : decode cX1_addNoise 71 = .ok (.aload_n 0, 1) := by decide +kernel
theorem dX1_addNoise_72 : decode cX1_addNoise 72 = .ok (.getfield 40, 3) := by decide +kernel
theorem dX1_addNoise_75 : decode cX1_addNoise 75 = .ok (.aload_n 0, 1) := by decide +kernel
theorem dX1_addNoise_76 : decode cX1_addNoise 76 = .ok (.getfield 17, 3) := by decide +kernel
theorem dX1_addNoise_79 : decode cX1_addNoise 79 = .ok (.iload 5, 2) := by decide +kernel
theorem dX1_addNoise_81 : decode cX1_addNoise 81 = .ok (.laload, 1) := by decide +kernel
theorem dX1_addNoise_82 : decode cX1_addNoise 82 = .ok (.iload 6, 2) := by decide +kernel
theorem dX1_addNoise_84 : decode cX1_addNoise 84 = .ok (.i2l, 1) := by decide +kernel
theorem dX1_addNoise_85 : decode cX1_addNoise 85 = .ok (.lmul, 1) := by decide +kernel
theorem dX1_addNoise_86 : decode cX1_addNoise 86 = .ok (.invokevirtual 70, 3) := by decide +kernel
theorem dX1_addNoise_89 : decode cX1_addNoise 89 = .ok (.iinc 5 1, 3) := by decide +kernel
theorem dX1_addNoise_92 : decode cX1_addNoise 92 = .ok (.goto (-80), 3) := by decide +kernel
theorem dX1_addNoise_95 : decode cX1_addNoise 95 = .ok (.return_, 1) := by decide +kernel
theorem dX4_become_7 : decode cX4_become 7 = .ok (.iconst 1, 1) := by decide +kernel
theorem dX4_become_8 : decode cX4_become 8 = .ok (.goto 4, 3) := by decide +kernel
theorem dX4_become_22 : decode cX4_become 22 = .ok (.lload_n 1, 1) := by decide +kernel
theorem dX4_become_23 : decode cX4_become 23 = .ok (.lneg, 1) := by decide +kernel
theorem dX4_become_24 : decode cX4_become 24 = .ok (.goto 4, 3) := by decide +kernel
theorem dX4_limbAt_8 : decode cX4_limbAt 8 = .ok (.aload_n 0, 1) := by decide +kernel
theorem dX4_limbAt_9 : decode cX4_limbAt 9 = .ok (.getfield 7, 3) := by decide +kernel
theorem dX4_limbAt_12 : decode cX4_limbAt 12 = .ok (.iload_n 1, 1) := by decide +kernel
theorem dX4_limbAt_13 : decode cX4_limbAt 13 = .ok (.iaload, 1) := by decide +kernel
theorem dX4_limbAt_14 : decode cX4_limbAt 14 = .ok (.i2l, 1) := by decide +kernel
theorem dX4_limbAt_15 : decode cX4_limbAt 15 = .ok (.ldc2_w 66, 3) := by decide +kernel
theorem dX4_limbAt_18 : decode cX4_limbAt 18 = .ok (.land, 1) := by decide +kernel
theorem dX4_limbAt_19 : decode cX4_limbAt 19 = .ok (.goto 4, 3) := by decide +kernel
theorem dX4_lowest_7 : decode cX4_lowest 7 = .ok (.aload_n 0, 1) := by decide +kernel
theorem dX4_lowest_8 : decode cX4_lowest 8 = .ok (.getfield 7, 3) := by decide +kernel
theorem dX4_lowest_11 : decode cX4_lowest 11 = .ok (.iconst 0, 1) := by decide +kernel
theorem dX4_lowest_12 : decode cX4_lowest 12 = .ok (.iaload, 1) := by decide +kernel
theorem dX4_lowest_13 : decode cX4_lowest 13 = .ok (.i2l, 1) := by decide +kernel
theorem dX4_lowest_14 : decode cX4_lowest 14 = .ok (.ldc2_w 66, 3) := by decide +kernel
theorem dX4_lowest_17 : decode cX4_lowest 17 = .ok (.land, 1) := by decide +kernel
theorem dX4_lowest_18 : decode cX4_lowest 18 = .ok (.lneg, 1) := by decide +kernel
theorem dX4_lowest_19 : decode cX4_lowest 19 = .ok (.goto 14, 3) := by decide +kernel
theorem dX4_toLong_7 : decode cX4_toLong 7 = .ok (.aload_n 0, 1) := by decide +kernel
theorem dX4_toLong_8 : decode cX4_toLong 8 = .ok (.iconst 0, 1) := by decide +kernel
theorem dX4_toLong_9 : decode cX4_toLong 9 = .ok (.invokevirtual 73, 3) := by decide +kernel
theorem dX4_toLong_12 : decode cX4_toLong 12 = .ok (.lneg, 1) := by decide +kernel
theorem dX4_toLong_13 : decode cX4_toLong 13 = .ok (.goto 8, 3) := by decide +kernel
theorem dX5_noise_8 : decode cX5_noise 8 = .ok (.aload_n 0, 1) := by decide +kernel
theorem dX5_noise_9 : decode cX5_noise 9 = .ok (.getfield 31, 3) := by decide +kernel
theorem dX5_noise_12 : decode cX5_noise 12 = .ok (.getfield 107, 3) := by decide +kernel
theorem dX5_noise_15 : decode cX5_noise 15 = .ok (.ifCond .le 11, 3) := by decide +kernel
theorem dX5_noise_26 : decode cX5_noise 26 = .ok (.aload_n 0, 1) := by decide +kernel
theorem dX5_noise_27 : decode cX5_noise 27 = .ok (.getfield 31, 3) := by decide +kernel
theorem dX5_noise_30 : decode cX5_noise 30 = .ok (.iload_n 1, 1) := by decide +kernel
theorem dX5_noise_31 : decode cX5_noise 31 = .ok (.iload_n 2, 1) := by decide +kernel
theorem dX5_noise_32 : decode cX5_noise 32 = .ok (.invokevirtual 258, 3) := by decide +kernel
theorem dX5_noise_35 : decode cX5_noise 35 = .ok (.aload_n 0, 1) := by decide +kernel
theorem dX5_noise_36 : decode cX5_noise 36 = .ok (.getfield 31, 3) := by decide +kernel
theorem dX5_noise_39 : decode cX5_noise 39 = .ok (.invokevirtual 228, 3) := by decide +kernel
theorem dX5_noise_42 : decode cX5_noise 42 = .ok (.invokevirtual 147, 3) := by decide +kernel
theorem dX5_noise_45 : decode cX5_noise 45 = .ok (.lreturn, 1) := by decide +kernel
theorem dX6_noise_13 : decode cX6_noise 13 = .ok (.iconst 0, 1) := by decide +kernel
theorem dX6_noise_14 : decode cX6_noise 14 = .ok (.goto 4, 3) := by decide +kernel
theorem dX6_noise_30 : decode cX6_noise 30 = .ok (.aload_n 0, 1) := by decide +kernel
theorem dX6_noise_31 : decode cX6_noise 31 = .ok (.invokevirtual 199, 3) := by decide +kernel
theorem dX6_noise_34 : decode cX6_noise 34 = .ok (.ifCond .le 14, 3) := by decide +kernel
theorem dX6_noise_48 : decode cX6_noise 48 = .ok (.iload_n 1, 1) := by decide +kernel
theorem dX6_noise_49 : decode cX6_noise 49 = .ok (.istore_n 3, 1) := by decide +kernel
theorem dX6_noise_50 : decode cX6_noise 50 = .ok (.lconst 0, 1) := by decide +kernel
theorem dX6_noise_51 : decode cX6_noise 51 = .ok (.lstore 4, 2) := by decide +kernel
theorem dX6_noise_53 : decode cX6_noise 53 = .ok (.iconst 0, 1) := by decide +kernel
theorem dX6_noise_54 : decode cX6_noise 54 = .ok (.istore 6, 2) := by decide +kernel
theorem dX6_noise_56 : decode cX6_noise 56 = .ok (.iload 6, 2) := by decide +kernel
theorem dX6_noise_58 : decode cX6_noise 58 = .ok (.aload_n 0, 1) := by decide +kernel
theorem dX6_noise_59 : decode cX6_noise 59 = .ok (.getfield 185, 3) := by decide +kernel
theorem dX6_noise_62 : decode cX6_noise 62 = .ok (.if_icmp .ge 58, 3) := by decide +kernel
theorem dX6_noise_65 : decode cX6_noise 65 = .ok (.iload_n 3, 1) := by decide +kernel
theorem dX6_noise_66 : decode cX6_noise 66 = .ok (.ldc_w 300, 3) := by decide +kernel
theorem dX6_noise_69 : decode cX6_noise 69 = .ok (.imul, 1) := by decide +kernel
theorem dX6_noise_70 : decode cX6_noise 70 = .ok (.sipush 12345, 3) := by decide +kernel
theorem dX6_noise_73 : decode cX6_noise 73 = .ok (.iadd, 1) := by decide +kernel
theorem dX6_noise_74 : decode cX6_noise 74 = .ok (.istore_n 3, 1) := by decide +kernel
theorem dX6_noise_75 : decode cX6_noise 75 = .ok (.aload_n 0, 1) := by decide +kernel
theorem dX6_noise_76 : decode cX6_noise 76 = .ok (.getfield 7, 3) := by decide +kernel
theorem dX6_noise_79 : decode cX6_noise 79 = .ok (.iconst 5, 1) := by decide +kernel
theorem dX6_noise_80 : decode cX6_noise 80 = .ok (.iload 6, 2) := by decide +kernel
theorem dX6_noise_82 : decode cX6_noise 82 = .ok (.iadd, 1) := by decide +kernel
theorem dX6_noise_83 : decode cX6_noise 83 = .ok (.dup2, 1) := by decide +kernel
theorem dX6_noise_84 : decode cX6_noise 84 = .ok (.laload, 1) := by decide +kernel
theorem dX6_noise_85 : decode cX6_noise 85 = .ok (.iload_n 3, 1) := by decide +kernel
theorem dX6_noise_86 : decode cX6_noise 86 = .ok (.bipush 16, 2) := by decide +kernel
theorem dX6_noise_88 : decode cX6_noise 88 = .ok (.iushr, 1) := by decide +kernel
theorem dX6_noise_89 : decode cX6_noise 89 = .ok (.iconst 2, 1) := by decide +kernel
theorem dX6_noise_90 : decode cX6_noise 90 = .ok (.iload_n 2, 1) := by decide +kernel
theorem dX6_noise_91 : decode cX6_noise 91 = .ok (.imul, 1) := by decide +kernel
theorem dX6_noise_92 : decode cX6_noise 92 = .ok (.iconst 1, 1) := by decide +kernel
theorem dX6_noise_93 : decode cX6_noise 93 = .ok (.iadd, 1) := by decide +kernel
theorem dX6_noise_94 : decode cX6_noise 94 = .ok (.irem, 1) := by decide +kernel
theorem dX6_noise_95 : decode cX6_noise 95 = .ok (.iload_n 2, 1) := by decide +kernel
theorem dX6_noise_96 : decode cX6_noise 96 = .ok (.isub, 1) := by decide +kernel
theorem dX6_noise_97 : decode cX6_noise 97 = .ok (.i2l, 1) := by decide +kernel
theorem dX6_noise_98 : decode cX6_noise 98 = .ok (.ladd, 1) := by decide +kernel
theorem dX6_noise_99 : decode cX6_noise 99 = .ok (.lastore, 1) := by decide +kernel
theorem dX6_noise_100 : decode cX6_noise 100 = .ok (.lload 4, 2) := by decide +kernel
theorem dX6_noise_102 : decode cX6_noise 102 = .ok (.aload_n 0, 1) := by decide +kernel
theorem dX6_noise_103 : decode cX6_noise 103 = .ok (.getfield 7, 3) := by decide +kernel
theorem dX6_noise_106 : decode cX6_noise 106 = .ok (.iconst 5, 1) := by decide +kernel
theorem dX6_noise_107 : decode cX6_noise 107 = .ok (.iload 6, 2) := by decide +kernel
theorem dX6_noise_109 : decode cX6_noise 109 = .ok (.iadd, 1) := by decide +kernel
theorem dX6_noise_110 : decode cX6_noise 110 = .ok (.laload, 1) := by decide +kernel
theorem dX6_noise_111 : decode cX6_noise 111 = .ok (.ladd, 1) := by decide +kernel
theorem dX6_noise_112 : decode cX6_noise 112 = .ok (.lstore 4, 2) := by decide +kernel
theorem dX6_noise_114 : decode cX6_noise 114 = .ok (.iinc 6 1, 3) := by decide +kernel
theorem dX6_noise_117 : decode cX6_noise 117 = .ok (.goto (-61), 3) := by decide +kernel
theorem dX6_noise_120 : decode cX6_noise 120 = .ok (.lload 4, 2) := by decide +kernel
theorem dX6_noise_122 : decode cX6_noise 122 = .ok (.lreturn, 1) := by decide +kernel

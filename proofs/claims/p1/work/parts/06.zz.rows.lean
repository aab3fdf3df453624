/-! more words and decode rows -/
theorem k105 : Cond.classLink RL 8 RX5 ∈ GW := gm 105 (by decide +kernel) (by decide +kernel)
theorem k106 : Cond.instantiable RX5 10 ∈ GW := gm 106 (by decide +kernel) (by decide +kernel)
theorem k107 : Cond.methodLink RL 112 yX5_init ∈ GW := gm 107 (by decide +kernel) (by decide +kernel)
theorem k108 : Cond.instanceMethod yX5_init ∈ GW := gm 108 (by decide +kernel) (by decide +kernel)
theorem k109 : Cond.code yX5_init cX5_init 1 none ∈ GW := gm 109 (by decide +kernel) (by decide +kernel)
theorem k1204 : Cond.classLink RL 113 RX6 ∈ GW := gm 1204 (by decide +kernel) (by decide +kernel)
theorem k1205 : Cond.instantiable RX6 27 ∈ GW := gm 1205 (by decide +kernel) (by decide +kernel)
theorem k1206 : Cond.methodLink RL 115 yX6_init ∈ GW := gm 1206 (by decide +kernel) (by decide +kernel)
theorem k1207 : Cond.instanceMethod yX6_init ∈ GW := gm 1207 (by decide +kernel) (by decide +kernel)
theorem k1208 : Cond.code yX6_init cX6_init 1 none ∈ GW := gm 1208 (by decide +kernel) (by decide +kernel)
theorem dL_law_0 : decode cL_law 0 = .ok (.new 8, 3) := by decide +kernel
theorem dL_law_3 : decode cL_law 3 = .ok (.dup, 1) := by decide +kernel
theorem dL_law_4 : decode cL_law 4 = .ok (.invokespecial 112, 3) := by decide +kernel
theorem dL_law_7 : decode cL_law 7 = .ok (.astore_n 1, 1) := by decide +kernel
theorem dL_law_8 : decode cL_law 8 = .ok (.new 113, 3) := by decide +kernel
theorem dL_law_11 : decode cL_law 11 = .ok (.dup, 1) := by decide +kernel
theorem dL_law_12 : decode cL_law 12 = .ok (.invokespecial 115, 3) := by decide +kernel
theorem dL_law_15 : decode cL_law 15 = .ok (.astore_n 2, 1) := by decide +kernel
theorem dL_law_16 : decode cL_law 16 = .ok (.iconst 1, 1) := by decide +kernel
theorem dL_law_17 : decode cL_law 17 = .ok (.newarray .long, 2) := by decide +kernel
theorem dL_law_19 : decode cL_law 19 = .ok (.astore_n 3, 1) := by decide +kernel
theorem dL_law_20 : decode cL_law 20 = .ok (.iconst 0, 1) := by decide +kernel
theorem dL_law_21 : decode cL_law 21 = .ok (.istore 4, 2) := by decide +kernel
theorem dL_law_23 : decode cL_law 23 = .ok (.iload 4, 2) := by decide +kernel
theorem dL_law_25 : decode cL_law 25 = .ok (.aload_n 0, 1) := by decide +kernel
theorem dL_law_26 : decode cL_law 26 = .ok (.arraylength, 1) := by decide +kernel
theorem dL_law_27 : decode cL_law 27 = .ok (.bipush 6, 2) := by decide +kernel
theorem dL_law_29 : decode cL_law 29 = .ok (.isub, 1) := by decide +kernel
theorem dL_law_30 : decode cL_law 30 = .ok (.if_icmp .gt 2175, 3) := by decide +kernel
theorem dL_law_33 : decode cL_law 33 = .ok (.aload_n 0, 1) := by decide +kernel
theorem dL_law_34 : decode cL_law 34 = .ok (.iload 4, 2) := by decide +kernel
theorem dL_law_36 : decode cL_law 36 = .ok (.iaload, 1) := by decide +kernel
theorem dL_law_37 : decode cL_law 37 = .ok (.bipush 63, 2) := by decide +kernel
theorem dL_law_39 : decode cL_law 39 = .ok (.iand, 1) := by decide +kernel
theorem dL_law_40 : decode cL_law 40 = .ok (.tableswitch 2159 0 40 #[180, 253, 309, 353, 366, 379, 435, 502, 558, 642, 709, 764, 778, 792, 847, 888, 902, 915, 971, 1015, 1071, 1127, 1168, 1235, 1302, 1315, 1371, 1426, 1482, 1549, 1633, 1688, 1743, 1798, 1881, 1937, 2005, 2018, 2074, 2087, 2123], 180) := by decide +kernel
theorem dL_law_2199 : decode cL_law 2199 = .ok (.iinc 4 6, 3) := by decide +kernel
theorem dL_law_2202 : decode cL_law 2202 = .ok (.goto (-2179), 3) := by decide +kernel
theorem dL_law_2205 : decode cL_law 2205 = .ok (.iconst 1, 1) := by decide +kernel
theorem dL_law_2206 : decode cL_law 2206 = .ok (.ireturn, 1) := by decide +kernel

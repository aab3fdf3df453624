/-! The reference over any state: reports of samples and steps -/
theorem sub_fE_gR : ∀ t k, gR t k = false → fE t k = false := by
  intro t k h
  simp [fE, gR] at h ⊢ <;> omega
theorem k51 : Cond.selects RX6 yX6_presents yX6_presents ∈ GW := gm 51 (by decide +kernel) (by decide +kernel)
theorem k53 : Cond.selects RX6 yX6_zeros yX6_zeros ∈ GW := gm 53 (by decide +kernel) (by decide +kernel)
theorem k54 : Cond.selects RX6 yX6_of yX6_of ∈ GW := gm 54 (by decide +kernel) (by decide +kernel)
theorem k55 : Cond.selects RX6 yX6_weights yX6_weights ∈ GW := gm 55 (by decide +kernel) (by decide +kernel)
theorem k58 : Cond.selects RX6 yX6_beside yX6_beside ∈ GW := gm 58 (by decide +kernel) (by decide +kernel)
theorem k59 : Cond.selects RX6 yX6_isStep yX6_isStep ∈ GW := gm 59 (by decide +kernel) (by decide +kernel)
theorem k1224 : Cond.fieldLink RX6 23 "LiftingSignalModel" "place" "[I" ∈ GW := gm 1224 (by decide +kernel) (by decide +kernel)
theorem k1225 : Cond.fieldLink RX6 27 "LiftingSignalModel" "first" "[I" ∈ GW := gm 1225 (by decide +kernel) (by decide +kernel)
theorem k1227 : Cond.fieldLink RX6 188 "LiftingSignalModel" "least" "I" ∈ GW := gm 1227 (by decide +kernel) (by decide +kernel)
theorem k1411 : Cond.constantLong RX6 212 8 ∈ GW := gm 1411 (by decide +kernel) (by decide +kernel)
theorem k1412 : Cond.methodLink RX6 214 yX6_presents ∈ GW := gm 1412 (by decide +kernel) (by decide +kernel)
theorem k1414 : Cond.instanceMethod yX6_presents ∈ GW := gm 1414 (by decide +kernel) (by decide +kernel)
theorem k1415 : Cond.code yX6_presents cX6_presents 1 (some .int) ∈ GW := gm 1415 (by decide +kernel) (by decide +kernel)
theorem k1420 : Cond.methodLink RX6 217 yX6_zeros ∈ GW := gm 1420 (by decide +kernel) (by decide +kernel)
theorem k1422 : Cond.instanceMethod yX6_zeros ∈ GW := gm 1422 (by decide +kernel) (by decide +kernel)
theorem k1423 : Cond.code yX6_zeros cX6_zeros 3 (some .int) ∈ GW := gm 1423 (by decide +kernel) (by decide +kernel)
theorem k1424 : Cond.methodLink RX6 208 yX6_of ∈ GW := gm 1424 (by decide +kernel) (by decide +kernel)
theorem k1426 : Cond.instanceMethod yX6_of ∈ GW := gm 1426 (by decide +kernel) (by decide +kernel)
theorem k1427 : Cond.code yX6_of cX6_of 3 (some .long) ∈ GW := gm 1427 (by decide +kernel) (by decide +kernel)
theorem k1428 : Cond.methodLink RX6 220 yX6_weights ∈ GW := gm 1428 (by decide +kernel) (by decide +kernel)
theorem k1430 : Cond.instanceMethod yX6_weights ∈ GW := gm 1430 (by decide +kernel) (by decide +kernel)
theorem k1431 : Cond.code yX6_weights cX6_weights 4 (some .long) ∈ GW := gm 1431 (by decide +kernel) (by decide +kernel)
theorem k1444 : Cond.constantLong RX6 223 5 ∈ GW := gm 1444 (by decide +kernel) (by decide +kernel)
theorem k1449 : Cond.methodLink RX6 225 yX6_beside ∈ GW := gm 1449 (by decide +kernel) (by decide +kernel)
theorem k1451 : Cond.instanceMethod yX6_beside ∈ GW := gm 1451 (by decide +kernel) (by decide +kernel)
theorem k1452 : Cond.code yX6_beside cX6_beside 4 (some .int) ∈ GW := gm 1452 (by decide +kernel) (by decide +kernel)
theorem k1461 : Cond.methodLink RX6 229 yX6_isStep ∈ GW := gm 1461 (by decide +kernel) (by decide +kernel)
theorem k1463 : Cond.instanceMethod yX6_isStep ∈ GW := gm 1463 (by decide +kernel) (by decide +kernel)
theorem k1464 : Cond.code yX6_isStep cX6_isStep 2 (some .boolean) ∈ GW := gm 1464 (by decide +kernel) (by decide +kernel)
theorem dX6_count_0 : decode cX6_count 0 = .ok (.aload_n 0, 1) := by decide +kernel
theorem dX6_count_1 : decode cX6_count 1 = .ok (.iload_n 1, 1) := by decide +kernel
theorem dX6_count_2 : decode cX6_count 2 = .ok (.i2l, 1) := by decide +kernel
theorem dX6_count_3 : decode cX6_count 3 = .ok (.lconst 0, 1) := by decide +kernel
theorem dX6_count_4 : decode cX6_count 4 = .ok (.ldc2_w 212, 3) := by decide +kernel
theorem dX6_count_7 : decode cX6_count 7 = .ok (.invokestatic 84, 3) := by decide +kernel
theorem dX6_count_10 : decode cX6_count 10 = .ok (.ifCond .eq 7, 3) := by decide +kernel
theorem dX6_count_13 : decode cX6_count 13 = .ok (.iconst 0, 1) := by decide +kernel
theorem dX6_count_14 : decode cX6_count 14 = .ok (.goto 4, 3) := by decide +kernel
theorem dX6_count_17 : decode cX6_count 17 = .ok (.iconst 1, 1) := by decide +kernel
theorem dX6_count_18 : decode cX6_count 18 = .ok (.putfield 64, 3) := by decide +kernel
theorem dX6_count_21 : decode cX6_count 21 = .ok (.aload_n 0, 1) := by decide +kernel
theorem dX6_count_22 : decode cX6_count 22 = .ok (.getfield 64, 3) := by decide +kernel
theorem dX6_count_25 : decode cX6_count 25 = .ok (.ifCond .le 5, 3) := by decide +kernel
theorem dX6_count_28 : decode cX6_count 28 = .ok (.iconst 0, 1) := by decide +kernel
theorem dX6_count_29 : decode cX6_count 29 = .ok (.ireturn, 1) := by decide +kernel
theorem dX6_count_30 : decode cX6_count 30 = .ok (.iload_n 1, 1) := by decide +kernel
theorem dX6_count_31 : decode cX6_count 31 = .ok (.tableswitch 94 0 7 #[45, 50, 55, 60, 65, 73, 81, 89], 45) := by decide +kernel
theorem dX6_count_76 : decode cX6_count 76 = .ok (.aload_n 0, 1) := by decide +kernel
theorem dX6_count_77 : decode cX6_count 77 = .ok (.getfield 185, 3) := by decide +kernel
theorem dX6_count_80 : decode cX6_count 80 = .ok (.ireturn, 1) := by decide +kernel
theorem dX6_count_81 : decode cX6_count 81 = .ok (.aload_n 0, 1) := by decide +kernel
theorem dX6_count_82 : decode cX6_count 82 = .ok (.invokevirtual 214, 3) := by decide +kernel
theorem dX6_count_85 : decode cX6_count 85 = .ok (.ireturn, 1) := by decide +kernel
theorem dX6_count_86 : decode cX6_count 86 = .ok (.aload_n 0, 1) := by decide +kernel
theorem dX6_count_87 : decode cX6_count 87 = .ok (.invokevirtual 199, 3) := by decide +kernel
theorem dX6_count_90 : decode cX6_count 90 = .ok (.ireturn, 1) := by decide +kernel
theorem dX6_count_91 : decode cX6_count 91 = .ok (.aload_n 0, 1) := by decide +kernel
theorem dX6_count_92 : decode cX6_count 92 = .ok (.invokevirtual 217, 3) := by decide +kernel
theorem dX6_count_95 : decode cX6_count 95 = .ok (.ireturn, 1) := by decide +kernel
theorem dX6_count_96 : decode cX6_count 96 = .ok (.aload_n 0, 1) := by decide +kernel
theorem dX6_count_97 : decode cX6_count 97 = .ok (.getfield 7, 3) := by decide +kernel
theorem dX6_count_100 : decode cX6_count 100 = .ok (.iconst 0, 1) := by decide +kernel
theorem dX6_count_101 : decode cX6_count 101 = .ok (.laload, 1) := by decide +kernel
theorem dX6_count_102 : decode cX6_count 102 = .ok (.l2i, 1) := by decide +kernel
theorem dX6_count_103 : decode cX6_count 103 = .ok (.ireturn, 1) := by decide +kernel
theorem dX6_count_104 : decode cX6_count 104 = .ok (.aload_n 0, 1) := by decide +kernel
theorem dX6_count_105 : decode cX6_count 105 = .ok (.getfield 7, 3) := by decide +kernel
theorem dX6_count_108 : decode cX6_count 108 = .ok (.iconst 1, 1) := by decide +kernel
theorem dX6_count_109 : decode cX6_count 109 = .ok (.laload, 1) := by decide +kernel
theorem dX6_count_110 : decode cX6_count 110 = .ok (.l2i, 1) := by decide +kernel
theorem dX6_count_111 : decode cX6_count 111 = .ok (.ireturn, 1) := by decide +kernel
theorem dX6_count_112 : decode cX6_count 112 = .ok (.aload_n 0, 1) := by decide +kernel
theorem dX6_count_113 : decode cX6_count 113 = .ok (.getfield 7, 3) := by decide +kernel
theorem dX6_count_116 : decode cX6_count 116 = .ok (.iconst 2, 1) := by decide +kernel
theorem dX6_count_117 : decode cX6_count 117 = .ok (.laload, 1) := by decide +kernel
theorem dX6_count_118 : decode cX6_count 118 = .ok (.l2i, 1) := by decide +kernel
theorem dX6_count_119 : decode cX6_count 119 = .ok (.ireturn, 1) := by decide +kernel
theorem dX6_count_120 : decode cX6_count 120 = .ok (.aload_n 0, 1) := by decide +kernel
theorem dX6_count_121 : decode cX6_count 121 = .ok (.getfield 188, 3) := by decide +kernel
theorem dX6_count_124 : decode cX6_count 124 = .ok (.ireturn, 1) := by decide +kernel
theorem dX6_count_125 : decode cX6_count 125 = .ok (.aload_n 0, 1) := by decide +kernel
theorem dX6_count_126 : decode cX6_count 126 = .ok (.invokevirtual 220, 3) := by decide +kernel
theorem dX6_count_129 : decode cX6_count 129 = .ok (.l2i, 1) := by decide +kernel
theorem dX6_count_130 : decode cX6_count 130 = .ok (.ireturn, 1) := by decide +kernel
theorem dX6_neighbour_0 : decode cX6_neighbour 0 = .ok (.aload_n 0, 1) := by decide +kernel
theorem dX6_neighbour_1 : decode cX6_neighbour 1 = .ok (.aload_n 0, 1) := by decide +kernel
theorem dX6_neighbour_2 : decode cX6_neighbour 2 = .ok (.iload_n 1, 1) := by decide +kernel
theorem dX6_neighbour_3 : decode cX6_neighbour 3 = .ok (.invokevirtual 205, 3) := by decide +kernel
theorem dX6_neighbour_6 : decode cX6_neighbour 6 = .ok (.ifCond .eq 7, 3) := by decide +kernel
theorem dX6_neighbour_9 : decode cX6_neighbour 9 = .ok (.iconst 0, 1) := by decide +kernel
theorem dX6_neighbour_10 : decode cX6_neighbour 10 = .ok (.goto 4, 3) := by decide +kernel
theorem dX6_neighbour_13 : decode cX6_neighbour 13 = .ok (.iconst 1, 1) := by decide +kernel
theorem dX6_neighbour_14 : decode cX6_neighbour 14 = .ok (.putfield 64, 3) := by decide +kernel
theorem dX6_neighbour_17 : decode cX6_neighbour 17 = .ok (.aload_n 0, 1) := by decide +kernel
theorem dX6_neighbour_18 : decode cX6_neighbour 18 = .ok (.getfield 64, 3) := by decide +kernel
theorem dX6_neighbour_21 : decode cX6_neighbour 21 = .ok (.ifCond .le 7, 3) := by decide +kernel
theorem dX6_neighbour_24 : decode cX6_neighbour 24 = .ok (.iconst 0, 1) := by decide +kernel
theorem dX6_neighbour_25 : decode cX6_neighbour 25 = .ok (.goto 17, 3) := by decide +kernel
theorem dX6_neighbour_28 : decode cX6_neighbour 28 = .ok (.aload_n 0, 1) := by decide +kernel
theorem dX6_neighbour_29 : decode cX6_neighbour 29 = .ok (.iload_n 1, 1) := by decide +kernel
theorem dX6_neighbour_30 : decode cX6_neighbour 30 = .ok (.iload_n 2, 1) := by decide +kernel
theorem dX6_neighbour_31 : decode cX6_neighbour 31 = .ok (.ifCond .eq 7, 3) := by decide +kernel
theorem dX6_neighbour_34 : decode cX6_neighbour 34 = .ok (.iconst 1, 1) := by decide +kernel
theorem dX6_neighbour_35 : decode cX6_neighbour 35 = .ok (.goto 4, 3) := by decide +kernel
theorem dX6_neighbour_38 : decode cX6_neighbour 38 = .ok (.iconst (-1), 1) := by decide +kernel
theorem dX6_neighbour_39 : decode cX6_neighbour 39 = .ok (.invokevirtual 225, 3) := by decide +kernel
theorem dX6_neighbour_42 : decode cX6_neighbour 42 = .ok (.ireturn, 1) := by decide +kernel
theorem dX6_present_0 : decode cX6_present 0 = .ok (.aload_n 0, 1) := by decide +kernel
theorem dX6_present_1 : decode cX6_present 1 = .ok (.iload_n 1, 1) := by decide +kernel
theorem dX6_present_2 : decode cX6_present 2 = .ok (.i2l, 1) := by decide +kernel
theorem dX6_present_3 : decode cX6_present 3 = .ok (.lconst 0, 1) := by decide +kernel
theorem dX6_present_4 : decode cX6_present 4 = .ok (.aload_n 0, 1) := by decide +kernel
theorem dX6_present_5 : decode cX6_present 5 = .ok (.invokevirtual 214, 3) := by decide +kernel
theorem dX6_present_8 : decode cX6_present 8 = .ok (.iconst 1, 1) := by decide +kernel
theorem dX6_present_9 : decode cX6_present 9 = .ok (.isub, 1) := by decide +kernel
theorem dX6_present_10 : decode cX6_present 10 = .ok (.i2l, 1) := by decide +kernel
theorem dX6_present_11 : decode cX6_present 11 = .ok (.invokestatic 84, 3) := by decide +kernel
theorem dX6_present_14 : decode cX6_present 14 = .ok (.ifCond .eq 7, 3) := by decide +kernel
theorem dX6_present_17 : decode cX6_present 17 = .ok (.iconst 0, 1) := by decide +kernel
theorem dX6_present_18 : decode cX6_present 18 = .ok (.goto 4, 3) := by decide +kernel
theorem dX6_present_21 : decode cX6_present 21 = .ok (.iconst 1, 1) := by decide +kernel
theorem dX6_present_22 : decode cX6_present 22 = .ok (.putfield 64, 3) := by decide +kernel
theorem dX6_present_25 : decode cX6_present 25 = .ok (.iconst 0, 1) := by decide +kernel
theorem dX6_present_26 : decode cX6_present 26 = .ok (.istore_n 2, 1) := by decide +kernel
theorem dX6_present_27 : decode cX6_present 27 = .ok (.iload_n 1, 1) := by decide +kernel
theorem dX6_present_28 : decode cX6_present 28 = .ok (.istore_n 3, 1) := by decide +kernel
theorem dX6_present_29 : decode cX6_present 29 = .ok (.aload_n 0, 1) := by decide +kernel
theorem dX6_present_30 : decode cX6_present 30 = .ok (.getfield 64, 3) := by decide +kernel
theorem dX6_present_33 : decode cX6_present 33 = .ok (.ifCond .ne 20, 3) := by decide +kernel
theorem dX6_present_36 : decode cX6_present 36 = .ok (.iload_n 3, 1) := by decide +kernel
theorem dX6_present_37 : decode cX6_present 37 = .ok (.ifCond .le 16, 3) := by decide +kernel
theorem dX6_present_40 : decode cX6_present 40 = .ok (.aload_n 0, 1) := by decide +kernel
theorem dX6_present_41 : decode cX6_present 41 = .ok (.iload_n 2, 1) := by decide +kernel
theorem dX6_present_42 : decode cX6_present 42 = .ok (.iconst 1, 1) := by decide +kernel
theorem dX6_present_43 : decode cX6_present 43 = .ok (.invokevirtual 225, 3) := by decide +kernel
theorem dX6_present_46 : decode cX6_present 46 = .ok (.istore_n 2, 1) := by decide +kernel
theorem dX6_present_47 : decode cX6_present 47 = .ok (.iinc 3 (-1), 3) := by decide +kernel
theorem dX6_present_50 : decode cX6_present 50 = .ok (.goto (-21), 3) := by decide +kernel
theorem dX6_present_53 : decode cX6_present 53 = .ok (.iload_n 2, 1) := by decide +kernel
theorem dX6_present_54 : decode cX6_present 54 = .ok (.ireturn, 1) := by decide +kernel
theorem dX6_sample_0 : decode cX6_sample 0 = .ok (.aload_n 0, 1) := by decide +kernel
theorem dX6_sample_1 : decode cX6_sample 1 = .ok (.aload_n 0, 1) := by decide +kernel
theorem dX6_sample_2 : decode cX6_sample 2 = .ok (.iload_n 1, 1) := by decide +kernel
theorem dX6_sample_3 : decode cX6_sample 3 = .ok (.invokevirtual 205, 3) := by decide +kernel
theorem dX6_sample_6 : decode cX6_sample 6 = .ok (.ifCond .ne 7, 3) := by decide +kernel
theorem dX6_sample_9 : decode cX6_sample 9 = .ok (.iconst 1, 1) := by decide +kernel
theorem dX6_sample_10 : decode cX6_sample 10 = .ok (.goto 20, 3) := by decide +kernel
theorem dX6_sample_13 : decode cX6_sample 13 = .ok (.iload_n 2, 1) := by decide +kernel
theorem dX6_sample_14 : decode cX6_sample 14 = .ok (.i2l, 1) := by decide +kernel
theorem dX6_sample_15 : decode cX6_sample 15 = .ok (.lconst 0, 1) := by decide +kernel
theorem dX6_sample_16 : decode cX6_sample 16 = .ok (.ldc2_w 223, 3) := by decide +kernel
theorem dX6_sample_19 : decode cX6_sample 19 = .ok (.invokestatic 84, 3) := by decide +kernel
theorem dX6_sample_22 : decode cX6_sample 22 = .ok (.ifCond .eq 7, 3) := by decide +kernel
theorem dX6_sample_25 : decode cX6_sample 25 = .ok (.iconst 0, 1) := by decide +kernel
theorem dX6_sample_26 : decode cX6_sample 26 = .ok (.goto 4, 3) := by decide +kernel
theorem dX6_sample_29 : decode cX6_sample 29 = .ok (.iconst 2, 1) := by decide +kernel
theorem dX6_sample_30 : decode cX6_sample 30 = .ok (.putfield 64, 3) := by decide +kernel
theorem dX6_sample_33 : decode cX6_sample 33 = .ok (.aload_n 0, 1) := by decide +kernel
theorem dX6_sample_34 : decode cX6_sample 34 = .ok (.getfield 64, 3) := by decide +kernel
theorem dX6_sample_37 : decode cX6_sample 37 = .ok (.ifCond .le 5, 3) := by decide +kernel
theorem dX6_sample_40 : decode cX6_sample 40 = .ok (.lconst 0, 1) := by decide +kernel
theorem dX6_sample_41 : decode cX6_sample 41 = .ok (.lreturn, 1) := by decide +kernel
theorem dX6_sample_42 : decode cX6_sample 42 = .ok (.iload_n 2, 1) := by decide +kernel
theorem dX6_sample_43 : decode cX6_sample 43 = .ok (.tableswitch 122 0 4 #[33, 41, 49, 63, 86], 33) := by decide +kernel
theorem dX6_sample_76 : decode cX6_sample 76 = .ok (.aload_n 0, 1) := by decide +kernel
theorem dX6_sample_77 : decode cX6_sample 77 = .ok (.getfield 23, 3) := by decide +kernel
theorem dX6_sample_80 : decode cX6_sample 80 = .ok (.iload_n 1, 1) := by decide +kernel
theorem dX6_sample_81 : decode cX6_sample 81 = .ok (.iaload, 1) := by decide +kernel
theorem dX6_sample_82 : decode cX6_sample 82 = .ok (.i2l, 1) := by decide +kernel
theorem dX6_sample_83 : decode cX6_sample 83 = .ok (.lreturn, 1) := by decide +kernel
theorem dX6_sample_84 : decode cX6_sample 84 = .ok (.aload_n 0, 1) := by decide +kernel
theorem dX6_sample_85 : decode cX6_sample 85 = .ok (.getfield 27, 3) := by decide +kernel
theorem dX6_sample_88 : decode cX6_sample 88 = .ok (.iload_n 1, 1) := by decide +kernel
theorem dX6_sample_89 : decode cX6_sample 89 = .ok (.iaload, 1) := by decide +kernel
theorem dX6_sample_90 : decode cX6_sample 90 = .ok (.i2l, 1) := by decide +kernel
theorem dX6_sample_91 : decode cX6_sample 91 = .ok (.lreturn, 1) := by decide +kernel
theorem dX6_sample_92 : decode cX6_sample 92 = .ok (.aload_n 0, 1) := by decide +kernel
theorem dX6_sample_93 : decode cX6_sample 93 = .ok (.iload_n 1, 1) := by decide +kernel
theorem dX6_sample_94 : decode cX6_sample 94 = .ok (.invokevirtual 202, 3) := by decide +kernel
theorem dX6_sample_97 : decode cX6_sample 97 = .ok (.ifCond .eq 7, 3) := by decide +kernel
theorem dX6_sample_100 : decode cX6_sample 100 = .ok (.lconst 1, 1) := by decide +kernel
theorem dX6_sample_101 : decode cX6_sample 101 = .ok (.goto 4, 3) := by decide +kernel
theorem dX6_sample_104 : decode cX6_sample 104 = .ok (.lconst 0, 1) := by decide +kernel
theorem dX6_sample_105 : decode cX6_sample 105 = .ok (.lreturn, 1) := by decide +kernel
theorem dX6_sample_106 : decode cX6_sample 106 = .ok (.aload_n 0, 1) := by decide +kernel
theorem dX6_sample_107 : decode cX6_sample 107 = .ok (.iload_n 1, 1) := by decide +kernel
theorem dX6_sample_108 : decode cX6_sample 108 = .ok (.invokevirtual 202, 3) := by decide +kernel
theorem dX6_sample_111 : decode cX6_sample 111 = .ok (.ifCond .eq 14, 3) := by decide +kernel
theorem dX6_sample_114 : decode cX6_sample 114 = .ok (.aload_n 0, 1) := by decide +kernel
theorem dX6_sample_115 : decode cX6_sample 115 = .ok (.getfield 7, 3) := by decide +kernel
theorem dX6_sample_118 : decode cX6_sample 118 = .ok (.iconst 5, 1) := by decide +kernel
theorem dX6_sample_119 : decode cX6_sample 119 = .ok (.iload_n 1, 1) := by decide +kernel
theorem dX6_sample_120 : decode cX6_sample 120 = .ok (.iadd, 1) := by decide +kernel
theorem dX6_sample_121 : decode cX6_sample 121 = .ok (.laload, 1) := by decide +kernel
theorem dX6_sample_122 : decode cX6_sample 122 = .ok (.goto 6, 3) := by decide +kernel
theorem dX6_sample_125 : decode cX6_sample 125 = .ok (.ldc2_w 197, 3) := by decide +kernel
theorem dX6_sample_128 : decode cX6_sample 128 = .ok (.lreturn, 1) := by decide +kernel
theorem dX6_sample_129 : decode cX6_sample 129 = .ok (.aload_n 0, 1) := by decide +kernel
theorem dX6_sample_130 : decode cX6_sample 130 = .ok (.iload_n 1, 1) := by decide +kernel
theorem dX6_sample_131 : decode cX6_sample 131 = .ok (.invokevirtual 202, 3) := by decide +kernel
theorem dX6_sample_134 : decode cX6_sample 134 = .ok (.ifCond .eq 15, 3) := by decide +kernel
theorem dX6_sample_137 : decode cX6_sample 137 = .ok (.aload_n 0, 1) := by decide +kernel
theorem dX6_sample_138 : decode cX6_sample 138 = .ok (.getfield 7, 3) := by decide +kernel
theorem dX6_sample_141 : decode cX6_sample 141 = .ok (.bipush 53, 2) := by decide +kernel
theorem dX6_sample_143 : decode cX6_sample 143 = .ok (.iload_n 1, 1) := by decide +kernel
theorem dX6_sample_144 : decode cX6_sample 144 = .ok (.iadd, 1) := by decide +kernel
theorem dX6_sample_145 : decode cX6_sample 145 = .ok (.laload, 1) := by decide +kernel
theorem dX6_sample_146 : decode cX6_sample 146 = .ok (.goto 18, 3) := by decide +kernel
theorem dX6_sample_149 : decode cX6_sample 149 = .ok (.aload_n 0, 1) := by decide +kernel
theorem dX6_sample_150 : decode cX6_sample 150 = .ok (.aload_n 0, 1) := by decide +kernel
theorem dX6_sample_151 : decode cX6_sample 151 = .ok (.getfield 7, 3) := by decide +kernel
theorem dX6_sample_154 : decode cX6_sample 154 = .ok (.bipush 101, 2) := by decide +kernel
theorem dX6_sample_156 : decode cX6_sample 156 = .ok (.iload_n 1, 1) := by decide +kernel
theorem dX6_sample_157 : decode cX6_sample 157 = .ok (.iadd, 1) := by decide +kernel
theorem dX6_sample_158 : decode cX6_sample 158 = .ok (.laload, 1) := by decide +kernel
theorem dX6_sample_159 : decode cX6_sample 159 = .ok (.l2i, 1) := by decide +kernel
theorem dX6_sample_160 : decode cX6_sample 160 = .ok (.iconst 4, 1) := by decide +kernel
theorem dX6_sample_161 : decode cX6_sample 161 = .ok (.invokevirtual 208, 3) := by decide +kernel
theorem dX6_sample_164 : decode cX6_sample 164 = .ok (.lreturn, 1) := by decide +kernel
theorem dX6_sample_165 : decode cX6_sample 165 = .ok (.aload_n 0, 1) := by decide +kernel
theorem dX6_sample_166 : decode cX6_sample 166 = .ok (.getfield 7, 3) := by decide +kernel
theorem dX6_sample_169 : decode cX6_sample 169 = .ok (.bipush 101, 2) := by decide +kernel
theorem dX6_sample_171 : decode cX6_sample 171 = .ok (.iload_n 1, 1) := by decide +kernel
theorem dX6_sample_172 : decode cX6_sample 172 = .ok (.iadd, 1) := by decide +kernel
theorem dX6_sample_173 : decode cX6_sample 173 = .ok (.laload, 1) := by decide +kernel
theorem dX6_sample_174 : decode cX6_sample 174 = .ok (.lreturn, 1) := by decide +kernel
theorem dX6_step_0 : decode cX6_step 0 = .ok (.aload_n 0, 1) := by decide +kernel
theorem dX6_step_1 : decode cX6_step 1 = .ok (.aload_n 0, 1) := by decide +kernel
theorem dX6_step_2 : decode cX6_step 2 = .ok (.iload_n 1, 1) := by decide +kernel
theorem dX6_step_3 : decode cX6_step 3 = .ok (.invokevirtual 229, 3) := by decide +kernel
theorem dX6_step_6 : decode cX6_step 6 = .ok (.ifCond .ne 7, 3) := by decide +kernel
theorem dX6_step_9 : decode cX6_step 9 = .ok (.iconst 1, 1) := by decide +kernel
theorem dX6_step_10 : decode cX6_step 10 = .ok (.goto 20, 3) := by decide +kernel
theorem dX6_step_13 : decode cX6_step 13 = .ok (.iload_n 2, 1) := by decide +kernel
theorem dX6_step_14 : decode cX6_step 14 = .ok (.i2l, 1) := by decide +kernel
theorem dX6_step_15 : decode cX6_step 15 = .ok (.lconst 0, 1) := by decide +kernel
theorem dX6_step_16 : decode cX6_step 16 = .ok (.ldc2_w 223, 3) := by decide +kernel
theorem dX6_step_19 : decode cX6_step 19 = .ok (.invokestatic 84, 3) := by decide +kernel
theorem dX6_step_22 : decode cX6_step 22 = .ok (.ifCond .eq 7, 3) := by decide +kernel
theorem dX6_step_25 : decode cX6_step 25 = .ok (.iconst 0, 1) := by decide +kernel
theorem dX6_step_26 : decode cX6_step 26 = .ok (.goto 4, 3) := by decide +kernel
theorem dX6_step_29 : decode cX6_step 29 = .ok (.iconst 2, 1) := by decide +kernel
theorem dX6_step_30 : decode cX6_step 30 = .ok (.putfield 64, 3) := by decide +kernel
theorem dX6_step_33 : decode cX6_step 33 = .ok (.aload_n 0, 1) := by decide +kernel
theorem dX6_step_34 : decode cX6_step 34 = .ok (.getfield 64, 3) := by decide +kernel
theorem dX6_step_37 : decode cX6_step 37 = .ok (.ifCond .le 7, 3) := by decide +kernel
theorem dX6_step_40 : decode cX6_step 40 = .ok (.lconst 0, 1) := by decide +kernel
theorem dX6_step_41 : decode cX6_step 41 = .ok (.goto 9, 3) := by decide +kernel
theorem dX6_step_44 : decode cX6_step 44 = .ok (.aload_n 0, 1) := by decide +kernel
theorem dX6_step_45 : decode cX6_step 45 = .ok (.iload_n 1, 1) := by decide +kernel
theorem dX6_step_46 : decode cX6_step 46 = .ok (.iload_n 2, 1) := by decide +kernel
theorem dX6_step_47 : decode cX6_step 47 = .ok (.invokevirtual 208, 3) := by decide +kernel
theorem dX6_step_50 : decode cX6_step 50 = .ok (.lreturn, 1) := by decide +kernel
theorem dX6_zeros_0 : decode cX6_zeros 0 = .ok (.iconst 0, 1) := by decide +kernel
theorem dX6_zeros_1 : decode cX6_zeros 1 = .ok (.istore_n 1, 1) := by decide +kernel
theorem dX6_zeros_2 : decode cX6_zeros 2 = .ok (.iconst 0, 1) := by decide +kernel
theorem dX6_zeros_3 : decode cX6_zeros 3 = .ok (.istore_n 2, 1) := by decide +kernel
theorem dX6_zeros_4 : decode cX6_zeros 4 = .ok (.iload_n 2, 1) := by decide +kernel
theorem dX6_zeros_5 : decode cX6_zeros 5 = .ok (.aload_n 0, 1) := by decide +kernel
theorem dX6_zeros_6 : decode cX6_zeros 6 = .ok (.invokevirtual 199, 3) := by decide +kernel
theorem dX6_zeros_9 : decode cX6_zeros 9 = .ok (.if_icmp .ge 28, 3) := by decide +kernel
theorem dX6_zeros_12 : decode cX6_zeros 12 = .ok (.iload_n 1, 1) := by decide +kernel
theorem dX6_zeros_13 : decode cX6_zeros 13 = .ok (.aload_n 0, 1) := by decide +kernel
theorem dX6_zeros_14 : decode cX6_zeros 14 = .ok (.iload_n 2, 1) := by decide +kernel
theorem dX6_zeros_15 : decode cX6_zeros 15 = .ok (.iconst 3, 1) := by decide +kernel
theorem dX6_zeros_16 : decode cX6_zeros 16 = .ok (.invokevirtual 208, 3) := by decide +kernel
theorem dX6_zeros_19 : decode cX6_zeros 19 = .ok (.lconst 0, 1) := by decide +kernel
theorem dX6_zeros_20 : decode cX6_zeros 20 = .ok (.lcmp, 1) := by decide +kernel
theorem dX6_zeros_21 : decode cX6_zeros 21 = .ok (.ifCond .ne 7, 3) := by decide +kernel
theorem dX6_zeros_24 : decode cX6_zeros 24 = .ok (.iconst 1, 1) := by decide +kernel
theorem dX6_zeros_25 : decode cX6_zeros 25 = .ok (.goto 4, 3) := by decide +kernel
theorem dX6_zeros_28 : decode cX6_zeros 28 = .ok (.iconst 0, 1) := by decide +kernel
theorem dX6_zeros_29 : decode cX6_zeros 29 = .ok (.iadd, 1) := by decide +kernel
theorem dX6_zeros_30 : decode cX6_zeros 30 = .ok (.istore_n 1, 1) := by decide +kernel
theorem dX6_zeros_31 : decode cX6_zeros 31 = .ok (.iinc 2 1, 3) := by decide +kernel
theorem dX6_zeros_34 : decode cX6_zeros 34 = .ok (.goto (-30), 3) := by decide +kernel
theorem dX6_zeros_37 : decode cX6_zeros 37 = .ok (.iload_n 1, 1) := by decide +kernel
theorem dX6_zeros_38 : decode cX6_zeros 38 = .ok (.ireturn, 1) := by decide +kernel
set_option maxHeartbeats 4000000 in
set_option maxRecDepth 100000 in
theorem X6_zeros (l : Launch) (κ : Kt) (σ0 : Gh) (this : Nat) (t_this : zk σ0 this 20) (h0 : RI κ σ0 this) : TC l yX6_zeros cX6_zeros 3 (some .int) 1 22 [.ref this] κ σ0 (tqi κ fE σ0 (fun (r : Int32) (τ : Gh) => True)) := by
  refine TC.of fE (by decide +kernel) (Nat.le_of_ble_eq_true rfl) ?_
  intro p e s m below meth c ls hcs hK hX hT hl
  obtain ⟨hx, hb, hr, hml, hown, hg, hlocks, hin⟩ := hcs
  have hown : s.vm.findClass RX6 = some m.cls := hown
  have hl : lv_has ls 3 [(0, .ref this)] := hl
  have hT0 := hT
  have n0 : (0 : Int32).toInt = 0 := by decide
  have n1 : (1 : Int32).toInt = 1 := by decide
  have n3 : (3 : Int32).toInt = 3 := by decide
  have j0 : (0 : Int64).toInt = 0 := by decide
  generalize hQ9 : tQ _ _ _ _ _ _ = Q9
  obtain ⟨rW, erW⟩ : ∃ z, kR κ this 1 = z := ⟨_, rfl⟩
  have trW : zk σ0 rW 21 := by rw [← erW]; exact h0.1.2.1
  obtain ⟨rP, erP⟩ : ∃ z, kR κ this 5 = z := ⟨_, rfl⟩
  have trP : zk σ0 rP 25 := by rw [← erP]; exact h0.1.2.2.2.2
  have hB0 := h0.b
  rw [erW] at hB0
  have hW := h0.2.1
  rw [erW] at hW
  have hP := h0.2.2.1
  rw [erP] at hP
  have hrN : (rN σ0 this : Int) = (zI σ0 this 7).toInt := by unfold rN; omega
  refine lv_iconst (v := 0) hx hb dX6_zeros_0 (by decide) ?_
  refine lv_istore_n (lv' := [(1, .int 0), (0, .ref this)]) hx hb dX6_zeros_1 rfl hl (by decide) rfl (fun ls hl => ?_)
  refine lv_iconst (v := 0) hx hb dX6_zeros_2 (by decide) ?_
  refine lv_istore_n (lv' := [(2, .int 0), (1, .int 0), (0, .ref this)]) hx hb dX6_zeros_3 rfl hl (by decide) rfl (fun ls hl => ?_)
  have loop4 : ∀ (n9 : Nat) (k : Int32) (z : Int32) (H : Heap) (locs : List Loc) (sg : Gh) (ls : Array Slot), TS κ fE σ0 sg s H locs → (0 ≤ k.toInt) → (k.toInt ≤ (zJ σ0 rW 4).toInt) → (0 ≤ z.toInt) → (z.toInt ≤ k.toInt) → lv_has ls 3 [(2, .int k), (1, .int z), (0, .ref this)] → ((zJ σ0 rW 4).toInt - k.toInt) < n9 → tW p l e 1 22 κ s m #[.ref this] below meth c H locs Q9 (F0 m 4 ls []) := by
    intro n9
    induction n9 with
    | zero =>
      intro k z H locs sg ls hT q1 q2 q3 q4 hl hm9
      exfalso
      omega
    | succ n9 ih9 =>
      have ih4 := ih9
      clear ih9
      intro k z H locs s1 ls hT q1 q2 q3 q4 hl hm9
      refine lv_iload_n hx hb dX6_zeros_4 rfl (lv_at hl 0 rfl) ?_
      refine lv_aload_n hx hb dX6_zeros_5 rfl (lv_at hl 2 rfl) ?_
      have K2 : zI s1 this 7 = zI σ0 this 7 := hT.eI t_this (by decide) rfl rfl
      have K2n : (zI s1 this 7).toInt = (zI σ0 this 7).toInt := by rw [K2]
      have J3 : zJ s1 rW = zJ σ0 rW := funext fun k => hT.eJ trW (by decide) rfl rfl
      have J3n : (zJ s1 (kR κ this 1) 4).toInt = (zJ σ0 rW 4).toInt := by rw [erW, J3]
      have P4 : zI s1 rP = zI σ0 rP := funext fun k => hT.eI trP (by decide) rfl rfl
      have R5 : RI κ s1 this := h0.ext hT.2.2.1 ⟨rfl, rfl, fun _ => rfl, fun _ => rfl, fun _ => rfl, fun _ => rfl⟩
      have hTo := hT
      refine tVi (n := 0) (As := []) (rest := [.int k]) hx hb hml hown hg hT hK hX (X6_steps l κ s1 this  (hT.k t_this (by decide)) R5) (fun _ _ h => h) (mwV k1416 k1418 k52 k92 k1419) ⟨rfl, by decide, by decide, by decide +kernel⟩ ⟨(Nat.le_of_ble_eq_true rfl), (Nat.le_of_ble_eq_true rfl)⟩ (hT.o20 (hT.k t_this (by decide))) rfl rfl hl.1 rfl (Nat.le_of_ble_eq_true rfl) dX6_zeros_6 zroom.rf (fun x6 s7 H locs hφ hEs7 hT => ?_)
      have f8 := hφ
      have K9 : zI s7 this 7 = zI σ0 this 7 := hT.eI t_this (by decide) rfl rfl
      have K9n : (zI s7 this 7).toInt = (zI σ0 this 7).toInt := by rw [K9]
      have J10 : zJ s7 rW = zJ σ0 rW := funext fun k => hT.eJ trW (by decide) rfl rfl
      have J10n : (zJ s7 (kR κ this 1) 4).toInt = (zJ σ0 rW 4).toInt := by rw [erW, J10]
      have P11 : zI s7 rP = zI σ0 rP := funext fun k => hT.eI trP (by decide) rfl rfl
      try simp only [erW, erP, ix_0, ix_1, ix_2, ix_3, ix_4, ix_5, ix_6, ix_7, ix_8, ix_9, K2, J3, P4, K9, J10, P11] at f8
      refine lv_icmp_ge (tgt := 37) hx hb dX6_zeros_9 (by decide) (fun c9 => ?_) (fun c9 => ?_)
      · have c1 := gi_le c9
        refine lv_iload_n hx hb dX6_zeros_37 rfl (lv_at hl 1 rfl) ?_
        subst hQ9
        exact t_i hx hb hr hlocks hT trivial dX6_zeros_38
      · have c2 := gi_nle c9
        refine lv_iload_n hx hb dX6_zeros_12 rfl (lv_at hl 1 rfl) ?_
        refine lv_aload_n hx hb dX6_zeros_13 rfl (lv_at hl 2 rfl) ?_
        refine lv_iload_n hx hb dX6_zeros_14 rfl (lv_at hl 0 rfl) ?_
        refine lv_iconst (v := 3) hx hb dX6_zeros_15 (by decide) ?_
        have hTo := hT
        refine tVl (n := 2) (As := [.int k, .int 3]) (rest := [.int z]) hx hb hml hown hg hT hK hX (X6_of l κ s7 this k 3  (hT.k t_this (by decide)) (by omega) (by omega) (by omega) (by omega)) (fun _ _ h => h) (mwV k1424 k1426 k54 k92 k1427) ⟨rfl, by decide, by decide, by decide +kernel⟩ ⟨(Nat.le_of_ble_eq_true rfl), (Nat.le_of_ble_eq_true rfl)⟩ (hT.o20 (hT.k t_this (by decide))) rfl rfl hl.1 rfl (Nat.le_of_ble_eq_true rfl) dX6_zeros_16 zroom.rf (fun x12 s13 H locs hφ hEs13 hT => ?_)
        have f14 := hφ
        have K15 : zI s13 this 7 = zI σ0 this 7 := hT.eI t_this (by decide) rfl rfl
        have K15n : (zI s13 this 7).toInt = (zI σ0 this 7).toInt := by rw [K15]
        have J16 : zJ s13 rW = zJ σ0 rW := funext fun k => hT.eJ trW (by decide) rfl rfl
        have J16n : (zJ s13 (kR κ this 1) 4).toInt = (zJ σ0 rW 4).toInt := by rw [erW, J16]
        have P17 : zI s13 rP = zI σ0 rP := funext fun k => hT.eI trP (by decide) rfl rfl
        try simp only [erW, erP, ix_0, ix_1, ix_2, ix_3, ix_4, ix_5, ix_6, ix_7, ix_8, ix_9, K9, J10, P11, K15, J16, P17] at f14
        refine lv_lconst (v := 0) hx hb dX6_zeros_19 (by decide) ?_
        refine W.lcmp hx hb dX6_zeros_20 ?_
        refine lv_if_ne (tgt := 28) hx hb dX6_zeros_21 (by decide) (fun c9 => ?_) (fun c9 => ?_)
        · have c3 := gl_ne c9
          refine lv_iconst (v := 0) hx hb dX6_zeros_28 (by decide) ?_
          refine lv_iadd hx hb dX6_zeros_29 ?_
          first | refine g_add (by omega) (by omega) (fun t18 ht18 => ?_) | refine lv_topi (fun t18 ht18 => ?_)
          refine lv_istore_n (lv' := [(1, .int t18), (2, .int k), (0, .ref this)]) hx hb dX6_zeros_30 rfl hl (by decide) rfl (fun ls hl => ?_)
          obtain ⟨t19, qt19⟩ : ∃ zz9 : Int32, k + Int32.ofInt 1 = zz9 := ⟨_, rfl⟩
          refine lv_iinc (v := t19) (lv' := [(2, .int t19), (1, .int t18), (0, .ref this)]) hx hb dX6_zeros_31 hl (k := 1) rfl qt19 (by decide) rfl (fun ls hl => ?_)
          have ht19 : t19.toInt = k.toInt + 1 := by rw [← qt19]; exact v_addi rfl (show (Int32.ofInt 1).toInt = 1 from by decide) (by omega) (by omega)
          refine lv_goto (tgt := 4) hx hb dX6_zeros_34 (by decide) ?_
          exact ih4 t19 t18 _ _ _ _ hT  (by omega) (by omega) (by omega) (by omega) hl (by omega)
        · have c4 := gl_eq c9
          refine lv_iconst (v := 1) hx hb dX6_zeros_24 (by decide) ?_
          refine lv_goto (tgt := 29) hx hb dX6_zeros_25 (by decide) ?_
          refine lv_iadd hx hb dX6_zeros_29 ?_
          first | refine g_add (by omega) (by omega) (fun t20 ht20 => ?_) | refine lv_topi (fun t20 ht20 => ?_)
          refine lv_istore_n (lv' := [(1, .int t20), (2, .int k), (0, .ref this)]) hx hb dX6_zeros_30 rfl hl (by decide) rfl (fun ls hl => ?_)
          obtain ⟨t21, qt21⟩ : ∃ zz9 : Int32, k + Int32.ofInt 1 = zz9 := ⟨_, rfl⟩
          refine lv_iinc (v := t21) (lv' := [(2, .int t21), (1, .int t20), (0, .ref this)]) hx hb dX6_zeros_31 hl (k := 1) rfl qt21 (by decide) rfl (fun ls hl => ?_)
          have ht21 : t21.toInt = k.toInt + 1 := by rw [← qt21]; exact v_addi rfl (show (Int32.ofInt 1).toInt = 1 from by decide) (by omega) (by omega)
          refine lv_goto (tgt := 4) hx hb dX6_zeros_34 (by decide) ?_
          exact ih4 t21 t20 _ _ _ _ hT  (by omega) (by omega) (by omega) (by omega) hl (by omega)
  exact loop4 (((zJ σ0 rW 4).toInt - (0 : Int32).toInt).toNat + 1) 0 0 _ _ _ _ hT  (by omega) (by omega) (by omega) (by omega) hl (by omega)
set_option maxHeartbeats 4000000 in
set_option maxRecDepth 100000 in
theorem X6_count (l : Launch) (κ : Kt) (σ0 : Gh) (this : Nat) (i : Int32) (t_this : zk σ0 this 20) (h0 : RI κ σ0 this) : TC l yX6_count cX6_count 2 (some .int) 2 44 [.ref this, .int i] κ σ0 (tqi κ gR σ0 (fun (r : Int32) (τ : Gh) => True)) := by
  refine TC.of gR (by decide +kernel) (Nat.le_of_ble_eq_true rfl) ?_
  intro p e s m below meth c ls hcs hK hX hT hl
  obtain ⟨hx, hb, hr, hml, hown, hg, hlocks, hin⟩ := hcs
  have hown : s.vm.findClass RX6 = some m.cls := hown
  have hl : lv_has ls 2 [(0, .ref this), (1, .int i)] := hl
  have hT0 := hT
  have n0 : (0 : Int32).toInt = 0 := by decide
  have n1 : (1 : Int32).toInt = 1 := by decide
  have n2 : (2 : Int32).toInt = 2 := by decide
  have n3 : (3 : Int32).toInt = 3 := by decide
  have n4 : (4 : Int32).toInt = 4 := by decide
  have n5 : (5 : Int32).toInt = 5 := by decide
  have n6 : (6 : Int32).toInt = 6 := by decide
  have n7 : (7 : Int32).toInt = 7 := by decide
  have j0 : (0 : Int64).toInt = 0 := by decide
  have j8 : (8 : Int64).toInt = 8 := by decide
  have i_lo := Int32.le_toInt i
  have i_hi := Int32.toInt_lt i
  generalize hQ9 : tQ _ _ _ _ _ _ = Q9
  obtain ⟨rW, erW⟩ : ∃ z, kR κ this 1 = z := ⟨_, rfl⟩
  have trW : zk σ0 rW 21 := by rw [← erW]; exact h0.1.2.1
  obtain ⟨rP, erP⟩ : ∃ z, kR κ this 5 = z := ⟨_, rfl⟩
  have trP : zk σ0 rP 25 := by rw [← erP]; exact h0.1.2.2.2.2
  have hB0 := h0.b
  rw [erW] at hB0
  have hW := h0.2.1
  rw [erW] at hW
  have hP := h0.2.2.1
  rw [erP] at hP
  have hrN : (rN σ0 this : Int) = (zI σ0 this 7).toInt := by unfold rN; omega
  refine lv_aload_n hx hb dX6_count_0 rfl (lv_at hl 0 rfl) ?_
  refine lv_iload_n hx hb dX6_count_1 rfl (lv_at hl 1 rfl) ?_
  refine lv_i2l hx hb dX6_count_2 rfl ?_
  refine g_i2l (fun t1 ht1 => ?_)
  refine lv_lconst (v := 0) hx hb dX6_count_3 (by decide) ?_
  refine lv_ldc2 hx hb hown (hg _ k1411) dX6_count_4 ?_
  have hTo := hT
  refine tSi (n := 3) (As := [.long t1, .long 0, .long 8]) (rest := [.ref this]) hx hb hml hown hg hT hK hX (X6_in l κ σ0 t1 0 8   ) sub_fE_gR (mwS k1317 k1318 k92 k1319) ⟨rfl, by decide, by decide, by decide +kernel⟩ ⟨(Nat.le_of_ble_eq_true rfl), (Nat.le_of_ble_eq_true rfl)⟩ rfl hl.1 rfl (Nat.le_of_ble_eq_true rfl) dX6_count_7 zroom.rf (fun x2 s3 H locs hφ hEs3 hT => ?_)
  obtain ⟨f4, f5⟩ := hφ
  have K6 : zI s3 this 7 = zI σ0 this 7 := hT.eI t_this (by decide) rfl rfl
  have K6n : (zI s3 this 7).toInt = (zI σ0 this 7).toInt := by rw [K6]
  have J7 : zJ s3 rW = zJ σ0 rW := funext fun k => hT.eJ trW (by decide) rfl rfl
  have J7n : (zJ s3 (kR κ this 1) 4).toInt = (zJ σ0 rW 4).toInt := by rw [erW, J7]
  have P8 : zI s3 rP = zI σ0 rP := funext fun k => hT.eI trP (by decide) rfl rfl
  try simp only [erW, erP, ix_0, ix_1, ix_2, ix_3, ix_4, ix_5, ix_6, ix_7, ix_8, ix_9, K6, J7, P8] at f4
  refine lv_if_eq (tgt := 17) hx hb dX6_count_10 (by decide) (fun c9 => ?_) (fun c9 => ?_)
  · have c1 := gi_eq c9
    refine lv_iconst (v := 1) hx hb dX6_count_17 (by decide) ?_
    have hTo := hT
    refine pf20_0 hx hb hg hown hK hT (hT.k t_this (by decide)) rfl (hg _ k1219) dX6_count_18 (fun H locs s9 hus9 hT => ?_)
    have e10 : zI s9 this 0 = 1 := zput_at hus9
    refine lv_aload_n hx hb dX6_count_21 rfl (lv_at hl 0 rfl) ?_
    refine va_get (D := κ.1) (ci := 6) (v := .int (zI s9 this 0)) (C := RX6) (T := TX6) (N := 27) hx hb hg inX6 hown hK (hT.o20 (hT.k t_this (by decide))).one 0 rfl rfl 0 (by decide) (hg _ k1219) (fun _ h9 => h9) rfl dX6_count_22 ?_
    rw [e10]
    refine lv_if_le (tgt := 30) hx hb dX6_count_25 (by decide) (fun c9 => absurd c9 (by decide)) (fun _ => ?_)
    refine lv_iconst (v := 0) hx hb dX6_count_28 (by decide) ?_
    subst hQ9
    exact t_i hx hb hr hlocks hT trivial dX6_count_29
  · have c2 := gi_ne c9
    refine lv_iconst (v := 0) hx hb dX6_count_13 (by decide) ?_
    refine lv_goto (tgt := 18) hx hb dX6_count_14 (by decide) ?_
    have hTo := hT
    refine pf20_0 hx hb hg hown hK hT (hT.k t_this (by decide)) rfl (hg _ k1219) dX6_count_18 (fun H locs s11 hus11 hT => ?_)
    have e12 : zI s11 this 0 = 0 := zput_at hus11
    refine lv_aload_n hx hb dX6_count_21 rfl (lv_at hl 0 rfl) ?_
    refine va_get (D := κ.1) (ci := 6) (v := .int (zI s11 this 0)) (C := RX6) (T := TX6) (N := 27) hx hb hg inX6 hown hK (hT.o20 (hT.k t_this (by decide))).one 0 rfl rfl 0 (by decide) (hg _ k1219) (fun _ h9 => h9) rfl dX6_count_22 ?_
    rw [e12]
    refine lv_if_le (tgt := 30) hx hb dX6_count_25 (by decide) (fun _ => ?_) (fun c9 => absurd (by decide) c9)
    refine lv_iload_n hx hb dX6_count_30 rfl (lv_at hl 1 rfl) ?_
    by_cases q13 : i = 0
    · have q13i := gi_eq q13
      refine lv_tableIn (off := 45) (tgt := 76) hx hb dX6_count_31 (by rw [q13]; decide) (by rw [q13]; decide) (by rw [q13]; decide) (by decide) ?_
      refine lv_aload_n hx hb dX6_count_76 rfl (lv_at hl 0 rfl) ?_
      obtain ⟨v14, ev14⟩ : ∃ zz9 : Int32, zI σ0 this 7 = zz9 := ⟨_, rfl⟩
      have qv14 : v14.toInt = (zI σ0 this 7).toInt := by rw [ev14]
      refine va_get (D := κ.1) (ci := 6) (v := .int (zI s11 this 7)) (C := RX6) (T := TX6) (N := 27) hx hb hg inX6 hown hK (hT.o20 (hT.k t_this (by decide))).one 0 rfl rfl 7 (by decide) (hg _ k1226) (fun _ h9 => h9) rfl dX6_count_77 ?_
      rw [(hT.eI t_this (by decide) rfl ev14)]
      subst hQ9
      exact t_i hx hb hr hlocks hT trivial dX6_count_80
    · have q13i := gi_ne q13
      by_cases q15 : i = 1
      · have q15i := gi_eq q15
        refine lv_tableIn (off := 50) (tgt := 81) hx hb dX6_count_31 (by rw [q15]; decide) (by rw [q15]; decide) (by rw [q15]; decide) (by decide) ?_
        refine lv_aload_n hx hb dX6_count_81 rfl (lv_at hl 0 rfl) ?_
        have K16 : zI s11 this 7 = zI σ0 this 7 := hT.eI t_this (by decide) rfl rfl
        have K16n : (zI s11 this 7).toInt = (zI σ0 this 7).toInt := by rw [K16]
        have J17 : zJ s11 rW = zJ σ0 rW := funext fun k => hT.eJ trW (by decide) rfl rfl
        have J17n : (zJ s11 (kR κ this 1) 4).toInt = (zJ σ0 rW 4).toInt := by rw [erW, J17]
        have P18 : zI s11 rP = zI σ0 rP := funext fun k => hT.eI trP (by decide) rfl rfl
        have R19 : RI κ s11 this := h0.ext hT.2.2.1 ⟨rfl, rfl, fun _ => rfl, fun _ => rfl, fun _ => rfl, fun _ => rfl⟩
        have hTo := hT
        refine tVi (n := 0) (As := []) (rest := []) hx hb hml hown hg hT hK hX (X6_presents l κ s11 this  (hT.k t_this (by decide)) R19) sub_fE_gR (mwV k1412 k1414 k51 k92 k1415) ⟨rfl, by decide, by decide, by decide +kernel⟩ ⟨(Nat.le_of_ble_eq_true rfl), (Nat.le_of_ble_eq_true rfl)⟩ (hT.o20 (hT.k t_this (by decide))) rfl rfl hl.1 rfl (Nat.le_of_ble_eq_true rfl) dX6_count_82 zroom.rf (fun x20 s21 H locs hφ hEs21 hT => ?_)
        have e12 : zI s21 this 0 = 0 := ((hTo.k t_this (by decide)).eI hEs21 (by decide) rfl).trans e12
        have f22 := hφ
        have K23 : zI s21 this 7 = zI σ0 this 7 := hT.eI t_this (by decide) rfl rfl
        have K23n : (zI s21 this 7).toInt = (zI σ0 this 7).toInt := by rw [K23]
        have J24 : zJ s21 rW = zJ σ0 rW := funext fun k => hT.eJ trW (by decide) rfl rfl
        have J24n : (zJ s21 (kR κ this 1) 4).toInt = (zJ σ0 rW 4).toInt := by rw [erW, J24]
        have P25 : zI s21 rP = zI σ0 rP := funext fun k => hT.eI trP (by decide) rfl rfl
        try simp only [erW, erP, ix_0, ix_1, ix_2, ix_3, ix_4, ix_5, ix_6, ix_7, ix_8, ix_9, K16, J17, P18, K23, J24, P25] at f22
        subst hQ9
        exact t_i hx hb hr hlocks hT trivial dX6_count_85
      · have q15i := gi_ne q15
        by_cases q26 : i = 2
        · have q26i := gi_eq q26
          refine lv_tableIn (off := 55) (tgt := 86) hx hb dX6_count_31 (by rw [q26]; decide) (by rw [q26]; decide) (by rw [q26]; decide) (by decide) ?_
          refine lv_aload_n hx hb dX6_count_86 rfl (lv_at hl 0 rfl) ?_
          have K27 : zI s11 this 7 = zI σ0 this 7 := hT.eI t_this (by decide) rfl rfl
          have K27n : (zI s11 this 7).toInt = (zI σ0 this 7).toInt := by rw [K27]
          have J28 : zJ s11 rW = zJ σ0 rW := funext fun k => hT.eJ trW (by decide) rfl rfl
          have J28n : (zJ s11 (kR κ this 1) 4).toInt = (zJ σ0 rW 4).toInt := by rw [erW, J28]
          have P29 : zI s11 rP = zI σ0 rP := funext fun k => hT.eI trP (by decide) rfl rfl
          have R30 : RI κ s11 this := h0.ext hT.2.2.1 ⟨rfl, rfl, fun _ => rfl, fun _ => rfl, fun _ => rfl, fun _ => rfl⟩
          have hTo := hT
          refine tVi (n := 0) (As := []) (rest := []) hx hb hml hown hg hT hK hX (X6_steps l κ s11 this  (hT.k t_this (by decide)) R30) sub_fE_gR (mwV k1416 k1418 k52 k92 k1419) ⟨rfl, by decide, by decide, by decide +kernel⟩ ⟨(Nat.le_of_ble_eq_true rfl), (Nat.le_of_ble_eq_true rfl)⟩ (hT.o20 (hT.k t_this (by decide))) rfl rfl hl.1 rfl (Nat.le_of_ble_eq_true rfl) dX6_count_87 zroom.rf (fun x31 s32 H locs hφ hEs32 hT => ?_)
          have e12 : zI s32 this 0 = 0 := ((hTo.k t_this (by decide)).eI hEs32 (by decide) rfl).trans e12
          have f33 := hφ
          have K34 : zI s32 this 7 = zI σ0 this 7 := hT.eI t_this (by decide) rfl rfl
          have K34n : (zI s32 this 7).toInt = (zI σ0 this 7).toInt := by rw [K34]
          have J35 : zJ s32 rW = zJ σ0 rW := funext fun k => hT.eJ trW (by decide) rfl rfl
          have J35n : (zJ s32 (kR κ this 1) 4).toInt = (zJ σ0 rW 4).toInt := by rw [erW, J35]
          have P36 : zI s32 rP = zI σ0 rP := funext fun k => hT.eI trP (by decide) rfl rfl
          try simp only [erW, erP, ix_0, ix_1, ix_2, ix_3, ix_4, ix_5, ix_6, ix_7, ix_8, ix_9, K27, J28, P29, K34, J35, P36] at f33
          subst hQ9
          exact t_i hx hb hr hlocks hT trivial dX6_count_90
        · have q26i := gi_ne q26
          by_cases q37 : i = 3
          · have q37i := gi_eq q37
            refine lv_tableIn (off := 60) (tgt := 91) hx hb dX6_count_31 (by rw [q37]; decide) (by rw [q37]; decide) (by rw [q37]; decide) (by decide) ?_
            refine lv_aload_n hx hb dX6_count_91 rfl (lv_at hl 0 rfl) ?_
            have K38 : zI s11 this 7 = zI σ0 this 7 := hT.eI t_this (by decide) rfl rfl
            have K38n : (zI s11 this 7).toInt = (zI σ0 this 7).toInt := by rw [K38]
            have J39 : zJ s11 rW = zJ σ0 rW := funext fun k => hT.eJ trW (by decide) rfl rfl
            have J39n : (zJ s11 (kR κ this 1) 4).toInt = (zJ σ0 rW 4).toInt := by rw [erW, J39]
            have P40 : zI s11 rP = zI σ0 rP := funext fun k => hT.eI trP (by decide) rfl rfl
            have R41 : RI κ s11 this := h0.ext hT.2.2.1 ⟨rfl, rfl, fun _ => rfl, fun _ => rfl, fun _ => rfl, fun _ => rfl⟩
            have hTo := hT
            refine tVi (n := 0) (As := []) (rest := []) hx hb hml hown hg hT hK hX (X6_zeros l κ s11 this  (hT.k t_this (by decide)) R41) sub_fE_gR (mwV k1420 k1422 k53 k92 k1423) ⟨rfl, by decide, by decide, by decide +kernel⟩ ⟨(Nat.le_of_ble_eq_true rfl), (Nat.le_of_ble_eq_true rfl)⟩ (hT.o20 (hT.k t_this (by decide))) rfl rfl hl.1 rfl (Nat.le_of_ble_eq_true rfl) dX6_count_92 zroom.rf (fun x42 s43 H locs hφ hEs43 hT => ?_)
            have e12 : zI s43 this 0 = 0 := ((hTo.k t_this (by decide)).eI hEs43 (by decide) rfl).trans e12
            subst hQ9
            exact t_i hx hb hr hlocks hT trivial dX6_count_95
          · have q37i := gi_ne q37
            by_cases q44 : i = 4
            · have q44i := gi_eq q44
              refine lv_tableIn (off := 65) (tgt := 96) hx hb dX6_count_31 (by rw [q44]; decide) (by rw [q44]; decide) (by rw [q44]; decide) (by decide) ?_
              refine lv_aload_n hx hb dX6_count_96 rfl (lv_at hl 0 rfl) ?_
              refine va_get (D := κ.1) (ci := 6) (v := .ref (kR κ this 1)) (C := RX6) (T := TX6) (N := 27) hx hb hg inX6 hown hK (hT.o20 (hT.k t_this (by decide))).one 0 rfl rfl 1 (by decide) (hg _ k1220) (fun _ h9 => h9) rfl dX6_count_97 ?_
              rw [erW]
              refine lv_iconst (v := 0) hx hb dX6_count_100 (by decide) ?_
              refine va_lald hx hb hK (hT.o21 (hT.k trW (by decide))).one 0 1 rfl rfl (g_in (by omega) (by omega)) dX6_count_101 ?_
              refine lv_topl (fun t45 ht45 => ?_)
              have K46 : zI s11 this 7 = zI σ0 this 7 := hT.eI t_this (by decide) rfl rfl
              have K46n : (zI s11 this 7).toInt = (zI σ0 this 7).toInt := by rw [K46]
              have J47 : zJ s11 rW = zJ σ0 rW := funext fun k => hT.eJ trW (by decide) rfl rfl
              have J47n : (zJ s11 (kR κ this 1) 4).toInt = (zJ σ0 rW 4).toInt := by rw [erW, J47]
              have P48 : zI s11 rP = zI σ0 rP := funext fun k => hT.eI trP (by decide) rfl rfl
              have xt45 : (zJ s11 rW 0).toInt = t45.toInt := by rw [ht45]; exact congrArg (fun q9 => (zJ s11 rW q9).toInt) (show 0 = ix 0 from by decide)
              try simp only [K46, J47, P48] at xt45
              refine lv_l2i hx hb dX6_count_102 rfl ?_
              first | refine g_l2i (by omega) (by omega) (fun t49 ht49 => ?_) | refine lv_topi (fun t49 ht49 => ?_)
              subst hQ9
              exact t_i hx hb hr hlocks hT trivial dX6_count_103
            · have q44i := gi_ne q44
              by_cases q50 : i = 5
              · have q50i := gi_eq q50
                refine lv_tableIn (off := 73) (tgt := 104) hx hb dX6_count_31 (by rw [q50]; decide) (by rw [q50]; decide) (by rw [q50]; decide) (by decide) ?_
                refine lv_aload_n hx hb dX6_count_104 rfl (lv_at hl 0 rfl) ?_
                refine va_get (D := κ.1) (ci := 6) (v := .ref (kR κ this 1)) (C := RX6) (T := TX6) (N := 27) hx hb hg inX6 hown hK (hT.o20 (hT.k t_this (by decide))).one 0 rfl rfl 1 (by decide) (hg _ k1220) (fun _ h9 => h9) rfl dX6_count_105 ?_
                rw [erW]
                refine lv_iconst (v := 1) hx hb dX6_count_108 (by decide) ?_
                refine va_lald hx hb hK (hT.o21 (hT.k trW (by decide))).one 0 1 rfl rfl (g_in (by omega) (by omega)) dX6_count_109 ?_
                refine lv_topl (fun t51 ht51 => ?_)
                have K52 : zI s11 this 7 = zI σ0 this 7 := hT.eI t_this (by decide) rfl rfl
                have K52n : (zI s11 this 7).toInt = (zI σ0 this 7).toInt := by rw [K52]
                have J53 : zJ s11 rW = zJ σ0 rW := funext fun k => hT.eJ trW (by decide) rfl rfl
                have J53n : (zJ s11 (kR κ this 1) 4).toInt = (zJ σ0 rW 4).toInt := by rw [erW, J53]
                have P54 : zI s11 rP = zI σ0 rP := funext fun k => hT.eI trP (by decide) rfl rfl
                have xt51 : (zJ s11 rW 1).toInt = t51.toInt := by rw [ht51]; exact congrArg (fun q9 => (zJ s11 rW q9).toInt) (show 1 = ix 1 from by decide)
                try simp only [K52, J53, P54] at xt51
                refine lv_l2i hx hb dX6_count_110 rfl ?_
                first | refine g_l2i (by omega) (by omega) (fun t55 ht55 => ?_) | refine lv_topi (fun t55 ht55 => ?_)
                subst hQ9
                exact t_i hx hb hr hlocks hT trivial dX6_count_111
              · have q50i := gi_ne q50
                by_cases q56 : i = 6
                · have q56i := gi_eq q56
                  refine lv_tableIn (off := 81) (tgt := 112) hx hb dX6_count_31 (by rw [q56]; decide) (by rw [q56]; decide) (by rw [q56]; decide) (by decide) ?_
                  refine lv_aload_n hx hb dX6_count_112 rfl (lv_at hl 0 rfl) ?_
                  refine va_get (D := κ.1) (ci := 6) (v := .ref (kR κ this 1)) (C := RX6) (T := TX6) (N := 27) hx hb hg inX6 hown hK (hT.o20 (hT.k t_this (by decide))).one 0 rfl rfl 1 (by decide) (hg _ k1220) (fun _ h9 => h9) rfl dX6_count_113 ?_
                  rw [erW]
                  refine lv_iconst (v := 2) hx hb dX6_count_116 (by decide) ?_
                  refine va_lald hx hb hK (hT.o21 (hT.k trW (by decide))).one 0 1 rfl rfl (g_in (by omega) (by omega)) dX6_count_117 ?_
                  refine lv_topl (fun t57 ht57 => ?_)
                  have K58 : zI s11 this 7 = zI σ0 this 7 := hT.eI t_this (by decide) rfl rfl
                  have K58n : (zI s11 this 7).toInt = (zI σ0 this 7).toInt := by rw [K58]
                  have J59 : zJ s11 rW = zJ σ0 rW := funext fun k => hT.eJ trW (by decide) rfl rfl
                  have J59n : (zJ s11 (kR κ this 1) 4).toInt = (zJ σ0 rW 4).toInt := by rw [erW, J59]
                  have P60 : zI s11 rP = zI σ0 rP := funext fun k => hT.eI trP (by decide) rfl rfl
                  have xt57 : (zJ s11 rW 2).toInt = t57.toInt := by rw [ht57]; exact congrArg (fun q9 => (zJ s11 rW q9).toInt) (show 2 = ix 2 from by decide)
                  try simp only [K58, J59, P60] at xt57
                  refine lv_l2i hx hb dX6_count_118 rfl ?_
                  first | refine g_l2i (by omega) (by omega) (fun t61 ht61 => ?_) | refine lv_topi (fun t61 ht61 => ?_)
                  subst hQ9
                  exact t_i hx hb hr hlocks hT trivial dX6_count_119
                · have q56i := gi_ne q56
                  by_cases q62 : i = 7
                  · have q62i := gi_eq q62
                    refine lv_tableIn (off := 89) (tgt := 120) hx hb dX6_count_31 (by rw [q62]; decide) (by rw [q62]; decide) (by rw [q62]; decide) (by decide) ?_
                    refine lv_aload_n hx hb dX6_count_120 rfl (lv_at hl 0 rfl) ?_
                    obtain ⟨v63, ev63⟩ : ∃ zz9 : Int32, zI σ0 this 8 = zz9 := ⟨_, rfl⟩
                    have qv63 : v63.toInt = (zI σ0 this 8).toInt := by rw [ev63]
                    refine va_get (D := κ.1) (ci := 6) (v := .int (zI s11 this 8)) (C := RX6) (T := TX6) (N := 27) hx hb hg inX6 hown hK (hT.o20 (hT.k t_this (by decide))).one 0 rfl rfl 8 (by decide) (hg _ k1227) (fun _ h9 => h9) rfl dX6_count_121 ?_
                    rw [(hT.eI t_this (by decide) rfl ev63)]
                    subst hQ9
                    exact t_i hx hb hr hlocks hT trivial dX6_count_124
                  · have q62i := gi_ne q62
                    refine lv_tableOut (tgt := 125) hx hb dX6_count_31 (by omega) (by decide) ?_
                    refine lv_aload_n hx hb dX6_count_125 rfl (lv_at hl 0 rfl) ?_
                    have K64 : zI s11 this 7 = zI σ0 this 7 := hT.eI t_this (by decide) rfl rfl
                    have K64n : (zI s11 this 7).toInt = (zI σ0 this 7).toInt := by rw [K64]
                    have J65 : zJ s11 rW = zJ σ0 rW := funext fun k => hT.eJ trW (by decide) rfl rfl
                    have J65n : (zJ s11 (kR κ this 1) 4).toInt = (zJ σ0 rW 4).toInt := by rw [erW, J65]
                    have P66 : zI s11 rP = zI σ0 rP := funext fun k => hT.eI trP (by decide) rfl rfl
                    have R67 : RI κ s11 this := h0.ext hT.2.2.1 ⟨rfl, rfl, fun _ => rfl, fun _ => rfl, fun _ => rfl, fun _ => rfl⟩
                    have hTo := hT
                    refine tVl (n := 0) (As := []) (rest := []) hx hb hml hown hg hT hK hX (X6_weights l κ s11 this  (hT.k t_this (by decide)) R67) sub_fE_gR (mwV k1428 k1430 k55 k92 k1431) ⟨rfl, by decide, by decide, by decide +kernel⟩ ⟨(Nat.le_of_ble_eq_true rfl), (Nat.le_of_ble_eq_true rfl)⟩ (hT.o20 (hT.k t_this (by decide))) rfl rfl hl.1 rfl (Nat.le_of_ble_eq_true rfl) dX6_count_126 zroom.rf (fun x68 s69 H locs hφ hEs69 hT => ?_)
                    have e12 : zI s69 this 0 = 0 := ((hTo.k t_this (by decide)).eI hEs69 (by decide) rfl).trans e12
                    obtain ⟨f70, f71⟩ := hφ
                    have K72 : zI s69 this 7 = zI σ0 this 7 := hT.eI t_this (by decide) rfl rfl
                    have K72n : (zI s69 this 7).toInt = (zI σ0 this 7).toInt := by rw [K72]
                    have J73 : zJ s69 rW = zJ σ0 rW := funext fun k => hT.eJ trW (by decide) rfl rfl
                    have J73n : (zJ s69 (kR κ this 1) 4).toInt = (zJ σ0 rW 4).toInt := by rw [erW, J73]
                    have P74 : zI s69 rP = zI σ0 rP := funext fun k => hT.eI trP (by decide) rfl rfl
                    try simp only [erW, erP, ix_0, ix_1, ix_2, ix_3, ix_4, ix_5, ix_6, ix_7, ix_8, ix_9, K64, J65, P66, K72, J73, P74] at f70
                    try simp only [erW, erP, ix_0, ix_1, ix_2, ix_3, ix_4, ix_5, ix_6, ix_7, ix_8, ix_9, K64, J65, P66, K72, J73, P74] at f71
                    refine lv_l2i hx hb dX6_count_129 rfl ?_
                    first | refine g_l2i (by omega) (by omega) (fun t75 ht75 => ?_) | refine lv_topi (fun t75 ht75 => ?_)
                    subst hQ9
                    exact t_i hx hb hr hlocks hT trivial dX6_count_130
set_option maxHeartbeats 4000000 in
set_option maxRecDepth 100000 in
theorem X6_sample (l : Launch) (κ : Kt) (σ0 : Gh) (this : Nat) (i : Int32) (x : Int32) (t_this : zk σ0 this 20) (h0 : RI κ σ0 this) : TC l yX6_sample cX6_sample 3 (some .long) 2 46 [.ref this, .int i, .int x] κ σ0 (tql κ gR σ0 (fun (r : Int64) (τ : Gh) => True)) := by
  refine TC.of gR (by decide +kernel) (Nat.le_of_ble_eq_true rfl) ?_
  intro p e s m below meth c ls hcs hK hX hT hl
  obtain ⟨hx, hb, hr, hml, hown, hg, hlocks, hin⟩ := hcs
  have hown : s.vm.findClass RX6 = some m.cls := hown
  have hl : lv_has ls 3 [(0, .ref this), (1, .int i), (2, .int x)] := hl
  have hT0 := hT
  have n0 : (0 : Int32).toInt = 0 := by decide
  have n1 : (1 : Int32).toInt = 1 := by decide
  have n2 : (2 : Int32).toInt = 2 := by decide
  have n3 : (3 : Int32).toInt = 3 := by decide
  have n4 : (4 : Int32).toInt = 4 := by decide
  have n5 : (5 : Int32).toInt = 5 := by decide
  have n53 : (53 : Int32).toInt = 53 := by decide
  have n101 : (101 : Int32).toInt = 101 := by decide
  have jm1 : ((-1) : Int64).toInt = (-1) := by decide
  have j0 : (0 : Int64).toInt = 0 := by decide
  have j1 : (1 : Int64).toInt = 1 := by decide
  have j5 : (5 : Int64).toInt = 5 := by decide
  have i_lo := Int32.le_toInt i
  have i_hi := Int32.toInt_lt i
  have x_lo := Int32.le_toInt x
  have x_hi := Int32.toInt_lt x
  generalize hQ9 : tQ _ _ _ _ _ _ = Q9
  obtain ⟨rW, erW⟩ : ∃ z, kR κ this 1 = z := ⟨_, rfl⟩
  have trW : zk σ0 rW 21 := by rw [← erW]; exact h0.1.2.1
  obtain ⟨rP, erP⟩ : ∃ z, kR κ this 5 = z := ⟨_, rfl⟩
  have trP : zk σ0 rP 25 := by rw [← erP]; exact h0.1.2.2.2.2
  have hB0 := h0.b
  rw [erW] at hB0
  have hW := h0.2.1
  rw [erW] at hW
  have hP := h0.2.2.1
  rw [erP] at hP
  have hrN : (rN σ0 this : Int) = (zI σ0 this 7).toInt := by unfold rN; omega
  refine lv_aload_n hx hb dX6_sample_0 rfl (lv_at hl 0 rfl) ?_
  refine lv_aload_n hx hb dX6_sample_1 rfl (lv_at hl 0 rfl) ?_
  refine lv_iload_n hx hb dX6_sample_2 rfl (lv_at hl 1 rfl) ?_
  have hTo := hT
  refine tVi (n := 1) (As := [.int i]) (rest := [.ref this]) hx hb hml hown hg hT hK hX (X6_isSample l κ σ0 this i  (hT.k t_this (by decide)) h0) sub_fE_gR (mwV k1440 k1442 k57 k92 k1443) ⟨rfl, by decide, by decide, by decide +kernel⟩ ⟨(Nat.le_of_ble_eq_true rfl), (Nat.le_of_ble_eq_true rfl)⟩ (hT.o20 (hT.k t_this (by decide))) rfl rfl hl.1 rfl (Nat.le_of_ble_eq_true rfl) dX6_sample_3 zroom.rf (fun x1 s2 H locs hφ hEs2 hT => ?_)
  obtain ⟨f3, f4⟩ := hφ
  have K5 : zI s2 this 7 = zI σ0 this 7 := hT.eI t_this (by decide) rfl rfl
  have K5n : (zI s2 this 7).toInt = (zI σ0 this 7).toInt := by rw [K5]
  have J6 : zJ s2 rW = zJ σ0 rW := funext fun k => hT.eJ trW (by decide) rfl rfl
  have J6n : (zJ s2 (kR κ this 1) 4).toInt = (zJ σ0 rW 4).toInt := by rw [erW, J6]
  have P7 : zI s2 rP = zI σ0 rP := funext fun k => hT.eI trP (by decide) rfl rfl
  try simp only [erW, erP, ix_0, ix_1, ix_2, ix_3, ix_4, ix_5, ix_6, ix_7, ix_8, ix_9, K5, J6, P7] at f3
  refine lv_if_ne (tgt := 13) hx hb dX6_sample_6 (by decide) (fun c9 => ?_) (fun c9 => ?_)
  · have c1 := gi_ne c9
    refine lv_iload_n hx hb dX6_sample_13 rfl (lv_at hl 2 rfl) ?_
    refine lv_i2l hx hb dX6_sample_14 rfl ?_
    refine g_i2l (fun t8 ht8 => ?_)
    refine lv_lconst (v := 0) hx hb dX6_sample_15 (by decide) ?_
    refine lv_ldc2 hx hb hown (hg _ k1444) dX6_sample_16 ?_
    have hTo := hT
    refine tSi (n := 3) (As := [.long t8, .long 0, .long 5]) (rest := [.ref this]) hx hb hml hown hg hT hK hX (X6_in l κ s2 t8 0 5   ) sub_fE_gR (mwS k1317 k1318 k92 k1319) ⟨rfl, by decide, by decide, by decide +kernel⟩ ⟨(Nat.le_of_ble_eq_true rfl), (Nat.le_of_ble_eq_true rfl)⟩ rfl hl.1 rfl (Nat.le_of_ble_eq_true rfl) dX6_sample_19 zroom.rf (fun x9 s10 H locs hφ hEs10 hT => ?_)
    obtain ⟨f11, f12⟩ := hφ
    have K13 : zI s10 this 7 = zI σ0 this 7 := hT.eI t_this (by decide) rfl rfl
    have K13n : (zI s10 this 7).toInt = (zI σ0 this 7).toInt := by rw [K13]
    have J14 : zJ s10 rW = zJ σ0 rW := funext fun k => hT.eJ trW (by decide) rfl rfl
    have J14n : (zJ s10 (kR κ this 1) 4).toInt = (zJ σ0 rW 4).toInt := by rw [erW, J14]
    have P15 : zI s10 rP = zI σ0 rP := funext fun k => hT.eI trP (by decide) rfl rfl
    try simp only [erW, erP, ix_0, ix_1, ix_2, ix_3, ix_4, ix_5, ix_6, ix_7, ix_8, ix_9, K5, J6, P7, K13, J14, P15] at f11
    refine lv_if_eq (tgt := 29) hx hb dX6_sample_22 (by decide) (fun c9 => ?_) (fun c9 => ?_)
    · have c2 := gi_eq c9
      refine lv_iconst (v := 2) hx hb dX6_sample_29 (by decide) ?_
      have hTo := hT
      refine pf20_0 hx hb hg hown hK hT (hT.k t_this (by decide)) rfl (hg _ k1219) dX6_sample_30 (fun H locs s16 hus16 hT => ?_)
      have e17 : zI s16 this 0 = 2 := zput_at hus16
      refine lv_aload_n hx hb dX6_sample_33 rfl (lv_at hl 0 rfl) ?_
      refine va_get (D := κ.1) (ci := 6) (v := .int (zI s16 this 0)) (C := RX6) (T := TX6) (N := 27) hx hb hg inX6 hown hK (hT.o20 (hT.k t_this (by decide))).one 0 rfl rfl 0 (by decide) (hg _ k1219) (fun _ h9 => h9) rfl dX6_sample_34 ?_
      rw [e17]
      refine lv_if_le (tgt := 42) hx hb dX6_sample_37 (by decide) (fun c9 => absurd c9 (by decide)) (fun _ => ?_)
      refine lv_lconst (v := 0) hx hb dX6_sample_40 (by decide) ?_
      subst hQ9
      exact t_l hx hb hr hlocks hT trivial dX6_sample_41
    · have c3 := gi_ne c9
      refine lv_iconst (v := 0) hx hb dX6_sample_25 (by decide) ?_
      refine lv_goto (tgt := 30) hx hb dX6_sample_26 (by decide) ?_
      have hTo := hT
      refine pf20_0 hx hb hg hown hK hT (hT.k t_this (by decide)) rfl (hg _ k1219) dX6_sample_30 (fun H locs s18 hus18 hT => ?_)
      have e19 : zI s18 this 0 = 0 := zput_at hus18
      refine lv_aload_n hx hb dX6_sample_33 rfl (lv_at hl 0 rfl) ?_
      refine va_get (D := κ.1) (ci := 6) (v := .int (zI s18 this 0)) (C := RX6) (T := TX6) (N := 27) hx hb hg inX6 hown hK (hT.o20 (hT.k t_this (by decide))).one 0 rfl rfl 0 (by decide) (hg _ k1219) (fun _ h9 => h9) rfl dX6_sample_34 ?_
      rw [e19]
      refine lv_if_le (tgt := 42) hx hb dX6_sample_37 (by decide) (fun _ => ?_) (fun c9 => absurd (by decide) c9)
      refine lv_iload_n hx hb dX6_sample_42 rfl (lv_at hl 2 rfl) ?_
      by_cases q20 : x = 0
      · have q20i := gi_eq q20
        refine lv_tableIn (off := 33) (tgt := 76) hx hb dX6_sample_43 (by rw [q20]; decide) (by rw [q20]; decide) (by rw [q20]; decide) (by decide) ?_
        refine lv_aload_n hx hb dX6_sample_76 rfl (lv_at hl 0 rfl) ?_
        refine va_get (D := κ.1) (ci := 6) (v := .ref (kR κ this 5)) (C := RX6) (T := TX6) (N := 27) hx hb hg inX6 hown hK (hT.o20 (hT.k t_this (by decide))).one 0 rfl rfl 5 (by decide) (hg _ k1224) (fun _ h9 => h9) rfl dX6_sample_77 ?_
        rw [erP]
        refine lv_iload_n hx hb dX6_sample_80 rfl (lv_at hl 1 rfl) ?_
        refine va_iald hx hb hK (hT.o25 (hT.k trP (by decide))).one 0 0 rfl rfl (g_in (by omega) (by omega)) dX6_sample_81 ?_
        refine lv_topi (fun t21 ht21 => ?_)
        have K22 : zI s18 this 7 = zI σ0 this 7 := hT.eI t_this (by decide) rfl rfl
        have K22n : (zI s18 this 7).toInt = (zI σ0 this 7).toInt := by rw [K22]
        have J23 : zJ s18 rW = zJ σ0 rW := funext fun k => hT.eJ trW (by decide) rfl rfl
        have J23n : (zJ s18 (kR κ this 1) 4).toInt = (zJ σ0 rW 4).toInt := by rw [erW, J23]
        have P24 : zI s18 rP = zI σ0 rP := funext fun k => hT.eI trP (by decide) rfl rfl
        have xt21 : (zI s18 rP (ix i)).toInt = t21.toInt := by rw [ht21]; exact congrArg (fun q9 => (zI s18 rP q9).toInt) (show ix i = ix i from rfl)
        try simp only [K22, J23, P24] at xt21
        refine lv_i2l hx hb dX6_sample_82 rfl ?_
        refine g_i2l (fun t25 ht25 => ?_)
        subst hQ9
        exact t_l hx hb hr hlocks hT trivial dX6_sample_83
      · have q20i := gi_ne q20
        by_cases q26 : x = 1
        · have q26i := gi_eq q26
          refine lv_tableIn (off := 41) (tgt := 84) hx hb dX6_sample_43 (by rw [q26]; decide) (by rw [q26]; decide) (by rw [q26]; decide) (by decide) ?_
          refine lv_aload_n hx hb dX6_sample_84 rfl (lv_at hl 0 rfl) ?_
          obtain ⟨r27, er27⟩ : ∃ z, kR κ this 6 = z := ⟨_, rfl⟩
          have tr27 : zk σ0 r27 26 := by rw [← er27]; exact hT0.ref t_this (by decide) (by decide) (by decide)
          refine va_get (D := κ.1) (ci := 6) (v := .ref (kR κ this 6)) (C := RX6) (T := TX6) (N := 27) hx hb hg inX6 hown hK (hT.o20 (hT.k t_this (by decide))).one 0 rfl rfl 6 (by decide) (hg _ k1225) (fun _ h9 => h9) rfl dX6_sample_85 ?_
          rw [er27]
          refine lv_iload_n hx hb dX6_sample_88 rfl (lv_at hl 1 rfl) ?_
          refine va_iald hx hb hK (hT.o26 (hT.k tr27 (by decide))).one 0 0 rfl rfl (g_in (by omega) (by omega)) dX6_sample_89 ?_
          refine lv_topi (fun t28 ht28 => ?_)
          refine lv_i2l hx hb dX6_sample_90 rfl ?_
          refine g_i2l (fun t29 ht29 => ?_)
          subst hQ9
          exact t_l hx hb hr hlocks hT trivial dX6_sample_91
        · have q26i := gi_ne q26
          by_cases q30 : x = 2
          · have q30i := gi_eq q30
            refine lv_tableIn (off := 49) (tgt := 92) hx hb dX6_sample_43 (by rw [q30]; decide) (by rw [q30]; decide) (by rw [q30]; decide) (by decide) ?_
            refine lv_aload_n hx hb dX6_sample_92 rfl (lv_at hl 0 rfl) ?_
            refine lv_iload_n hx hb dX6_sample_93 rfl (lv_at hl 1 rfl) ?_
            have K31 : zI s18 this 7 = zI σ0 this 7 := hT.eI t_this (by decide) rfl rfl
            have K31n : (zI s18 this 7).toInt = (zI σ0 this 7).toInt := by rw [K31]
            have J32 : zJ s18 rW = zJ σ0 rW := funext fun k => hT.eJ trW (by decide) rfl rfl
            have J32n : (zJ s18 (kR κ this 1) 4).toInt = (zJ σ0 rW 4).toInt := by rw [erW, J32]
            have P33 : zI s18 rP = zI σ0 rP := funext fun k => hT.eI trP (by decide) rfl rfl
            have R34 : RI κ s18 this := h0.ext hT.2.2.1 ⟨rfl, rfl, fun _ => rfl, fun _ => rfl, fun _ => rfl, fun _ => rfl⟩
            have hTo := hT
            refine tVi (n := 1) (As := [.int i]) (rest := []) hx hb hml hown hg hT hK hX (X6_isPresent l κ s18 this i  (hT.k t_this (by decide)) R34 (by omega) (by omega)) sub_fE_gR (mwV k1432 k1434 k56 k92 k1435) ⟨rfl, by decide, by decide, by decide +kernel⟩ ⟨(Nat.le_of_ble_eq_true rfl), (Nat.le_of_ble_eq_true rfl)⟩ (hT.o20 (hT.k t_this (by decide))) rfl rfl hl.1 rfl (Nat.le_of_ble_eq_true rfl) dX6_sample_94 zroom.rf (fun x35 s36 H locs hφ hEs36 hT => ?_)
            have e19 : zI s36 this 0 = 0 := ((hTo.k t_this (by decide)).eI hEs36 (by decide) rfl).trans e19
            obtain ⟨f37, f38⟩ := hφ
            have K39 : zI s36 this 7 = zI σ0 this 7 := hT.eI t_this (by decide) rfl rfl
            have K39n : (zI s36 this 7).toInt = (zI σ0 this 7).toInt := by rw [K39]
            have J40 : zJ s36 rW = zJ σ0 rW := funext fun k => hT.eJ trW (by decide) rfl rfl
            have J40n : (zJ s36 (kR κ this 1) 4).toInt = (zJ σ0 rW 4).toInt := by rw [erW, J40]
            have P41 : zI s36 rP = zI σ0 rP := funext fun k => hT.eI trP (by decide) rfl rfl
            try simp only [erW, erP, ix_0, ix_1, ix_2, ix_3, ix_4, ix_5, ix_6, ix_7, ix_8, ix_9, K31, J32, P33, K39, J40, P41] at f37
            refine lv_if_eq (tgt := 104) hx hb dX6_sample_97 (by decide) (fun c9 => ?_) (fun c9 => ?_)
            · have c4 := gi_eq c9
              refine lv_lconst (v := 0) hx hb dX6_sample_104 (by decide) ?_
              subst hQ9
              exact t_l hx hb hr hlocks hT trivial dX6_sample_105
            · have c5 := gi_ne c9
              refine lv_lconst (v := 1) hx hb dX6_sample_100 (by decide) ?_
              refine lv_goto (tgt := 105) hx hb dX6_sample_101 (by decide) ?_
              subst hQ9
              exact t_l hx hb hr hlocks hT trivial dX6_sample_105
          · have q30i := gi_ne q30
            by_cases q42 : x = 3
            · have q42i := gi_eq q42
              refine lv_tableIn (off := 63) (tgt := 106) hx hb dX6_sample_43 (by rw [q42]; decide) (by rw [q42]; decide) (by rw [q42]; decide) (by decide) ?_
              refine lv_aload_n hx hb dX6_sample_106 rfl (lv_at hl 0 rfl) ?_
              refine lv_iload_n hx hb dX6_sample_107 rfl (lv_at hl 1 rfl) ?_
              have K43 : zI s18 this 7 = zI σ0 this 7 := hT.eI t_this (by decide) rfl rfl
              have K43n : (zI s18 this 7).toInt = (zI σ0 this 7).toInt := by rw [K43]
              have J44 : zJ s18 rW = zJ σ0 rW := funext fun k => hT.eJ trW (by decide) rfl rfl
              have J44n : (zJ s18 (kR κ this 1) 4).toInt = (zJ σ0 rW 4).toInt := by rw [erW, J44]
              have P45 : zI s18 rP = zI σ0 rP := funext fun k => hT.eI trP (by decide) rfl rfl
              have R46 : RI κ s18 this := h0.ext hT.2.2.1 ⟨rfl, rfl, fun _ => rfl, fun _ => rfl, fun _ => rfl, fun _ => rfl⟩
              have hTo := hT
              refine tVi (n := 1) (As := [.int i]) (rest := []) hx hb hml hown hg hT hK hX (X6_isPresent l κ s18 this i  (hT.k t_this (by decide)) R46 (by omega) (by omega)) sub_fE_gR (mwV k1432 k1434 k56 k92 k1435) ⟨rfl, by decide, by decide, by decide +kernel⟩ ⟨(Nat.le_of_ble_eq_true rfl), (Nat.le_of_ble_eq_true rfl)⟩ (hT.o20 (hT.k t_this (by decide))) rfl rfl hl.1 rfl (Nat.le_of_ble_eq_true rfl) dX6_sample_108 zroom.rf (fun x47 s48 H locs hφ hEs48 hT => ?_)
              have e19 : zI s48 this 0 = 0 := ((hTo.k t_this (by decide)).eI hEs48 (by decide) rfl).trans e19
              obtain ⟨f49, f50⟩ := hφ
              have K51 : zI s48 this 7 = zI σ0 this 7 := hT.eI t_this (by decide) rfl rfl
              have K51n : (zI s48 this 7).toInt = (zI σ0 this 7).toInt := by rw [K51]
              have J52 : zJ s48 rW = zJ σ0 rW := funext fun k => hT.eJ trW (by decide) rfl rfl
              have J52n : (zJ s48 (kR κ this 1) 4).toInt = (zJ σ0 rW 4).toInt := by rw [erW, J52]
              have P53 : zI s48 rP = zI σ0 rP := funext fun k => hT.eI trP (by decide) rfl rfl
              try simp only [erW, erP, ix_0, ix_1, ix_2, ix_3, ix_4, ix_5, ix_6, ix_7, ix_8, ix_9, K43, J44, P45, K51, J52, P53] at f49
              refine lv_if_eq (tgt := 125) hx hb dX6_sample_111 (by decide) (fun c9 => ?_) (fun c9 => ?_)
              · have c6 := gi_eq c9
                refine lv_ldc2 hx hb hown (hg _ k1218) dX6_sample_125 ?_
                subst hQ9
                exact t_l hx hb hr hlocks hT trivial dX6_sample_128
              · have c7 := gi_ne c9
                refine lv_aload_n hx hb dX6_sample_114 rfl (lv_at hl 0 rfl) ?_
                refine va_get (D := κ.1) (ci := 6) (v := .ref (kR κ this 1)) (C := RX6) (T := TX6) (N := 27) hx hb hg inX6 hown hK (hT.o20 (hT.k t_this (by decide))).one 0 rfl rfl 1 (by decide) (hg _ k1220) (fun _ h9 => h9) rfl dX6_sample_115 ?_
                rw [erW]
                refine lv_iconst (v := 5) hx hb dX6_sample_118 (by decide) ?_
                refine lv_iload_n hx hb dX6_sample_119 rfl (lv_at hl 1 rfl) ?_
                refine lv_iadd hx hb dX6_sample_120 ?_
                first | refine g_add (by omega) (by omega) (fun t54 ht54 => ?_) | refine lv_topi (fun t54 ht54 => ?_)
                refine va_lald hx hb hK (hT.o21 (hT.k trW (by decide))).one 0 1 rfl rfl (g_in (by omega) (by omega)) dX6_sample_121 ?_
                refine lv_topl (fun t55 ht55 => ?_)
                refine lv_goto (tgt := 128) hx hb dX6_sample_122 (by decide) ?_
                subst hQ9
                exact t_l hx hb hr hlocks hT trivial dX6_sample_128
            · have q42i := gi_ne q42
              by_cases q56 : x = 4
              · have q56i := gi_eq q56
                refine lv_tableIn (off := 86) (tgt := 129) hx hb dX6_sample_43 (by rw [q56]; decide) (by rw [q56]; decide) (by rw [q56]; decide) (by decide) ?_
                refine lv_aload_n hx hb dX6_sample_129 rfl (lv_at hl 0 rfl) ?_
                refine lv_iload_n hx hb dX6_sample_130 rfl (lv_at hl 1 rfl) ?_
                have K57 : zI s18 this 7 = zI σ0 this 7 := hT.eI t_this (by decide) rfl rfl
                have K57n : (zI s18 this 7).toInt = (zI σ0 this 7).toInt := by rw [K57]
                have J58 : zJ s18 rW = zJ σ0 rW := funext fun k => hT.eJ trW (by decide) rfl rfl
                have J58n : (zJ s18 (kR κ this 1) 4).toInt = (zJ σ0 rW 4).toInt := by rw [erW, J58]
                have P59 : zI s18 rP = zI σ0 rP := funext fun k => hT.eI trP (by decide) rfl rfl
                have R60 : RI κ s18 this := h0.ext hT.2.2.1 ⟨rfl, rfl, fun _ => rfl, fun _ => rfl, fun _ => rfl, fun _ => rfl⟩
                have hTo := hT
                refine tVi (n := 1) (As := [.int i]) (rest := []) hx hb hml hown hg hT hK hX (X6_isPresent l κ s18 this i  (hT.k t_this (by decide)) R60 (by omega) (by omega)) sub_fE_gR (mwV k1432 k1434 k56 k92 k1435) ⟨rfl, by decide, by decide, by decide +kernel⟩ ⟨(Nat.le_of_ble_eq_true rfl), (Nat.le_of_ble_eq_true rfl)⟩ (hT.o20 (hT.k t_this (by decide))) rfl rfl hl.1 rfl (Nat.le_of_ble_eq_true rfl) dX6_sample_131 zroom.rf (fun x61 s62 H locs hφ hEs62 hT => ?_)
                have e19 : zI s62 this 0 = 0 := ((hTo.k t_this (by decide)).eI hEs62 (by decide) rfl).trans e19
                obtain ⟨f63, f64⟩ := hφ
                have K65 : zI s62 this 7 = zI σ0 this 7 := hT.eI t_this (by decide) rfl rfl
                have K65n : (zI s62 this 7).toInt = (zI σ0 this 7).toInt := by rw [K65]
                have J66 : zJ s62 rW = zJ σ0 rW := funext fun k => hT.eJ trW (by decide) rfl rfl
                have J66n : (zJ s62 (kR κ this 1) 4).toInt = (zJ σ0 rW 4).toInt := by rw [erW, J66]
                have P67 : zI s62 rP = zI σ0 rP := funext fun k => hT.eI trP (by decide) rfl rfl
                try simp only [erW, erP, ix_0, ix_1, ix_2, ix_3, ix_4, ix_5, ix_6, ix_7, ix_8, ix_9, K57, J58, P59, K65, J66, P67] at f63
                have z9 := hW.f.2.2.2.1 (ix i) (by unfold ix; omega)
                refine lv_if_eq (tgt := 149) hx hb dX6_sample_134 (by decide) (fun c9 => ?_) (fun c9 => ?_)
                · have c8 := gi_eq c9
                  refine lv_aload_n hx hb dX6_sample_149 rfl (lv_at hl 0 rfl) ?_
                  refine lv_aload_n hx hb dX6_sample_150 rfl (lv_at hl 0 rfl) ?_
                  refine va_get (D := κ.1) (ci := 6) (v := .ref (kR κ this 1)) (C := RX6) (T := TX6) (N := 27) hx hb hg inX6 hown hK (hT.o20 (hT.k t_this (by decide))).one 0 rfl rfl 1 (by decide) (hg _ k1220) (fun _ h9 => h9) rfl dX6_sample_151 ?_
                  rw [erW]
                  refine lv_bipush (v := 101) hx hb dX6_sample_154 (by decide) ?_
                  refine lv_iload_n hx hb dX6_sample_156 rfl (lv_at hl 1 rfl) ?_
                  refine lv_iadd hx hb dX6_sample_157 ?_
                  first | refine g_add (by omega) (by omega) (fun t68 ht68 => ?_) | refine lv_topi (fun t68 ht68 => ?_)
                  refine va_lald hx hb hK (hT.o21 (hT.k trW (by decide))).one 0 1 rfl rfl (g_in (by omega) (by omega)) dX6_sample_158 ?_
                  refine lv_topl (fun t69 ht69 => ?_)
                  have xt69 : rlf (zJ s62 rW) (ix i) = t69.toInt := by rw [ht69]; exact congrArg (fun q9 => (zJ s62 rW q9).toInt) (show 101 + ix i = ix t68 from by unfold ix; omega)
                  try simp only [K65, J66, P67] at xt69
                  refine lv_l2i hx hb dX6_sample_159 rfl ?_
                  first | refine g_l2i (by omega) (by omega) (fun t70 ht70 => ?_) | refine lv_topi (fun t70 ht70 => ?_)
                  refine lv_iconst (v := 4) hx hb dX6_sample_160 (by decide) ?_
                  have hTo := hT
                  refine tVl (n := 2) (As := [.int t70, .int 4]) (rest := []) hx hb hml hown hg hT hK hX (X6_of l κ s62 this t70 4  (hT.k t_this (by decide)) (by omega) (by omega) (by omega) (by omega)) sub_fE_gR (mwV k1424 k1426 k54 k92 k1427) ⟨rfl, by decide, by decide, by decide +kernel⟩ ⟨(Nat.le_of_ble_eq_true rfl), (Nat.le_of_ble_eq_true rfl)⟩ (hT.o20 (hT.k t_this (by decide))) rfl rfl hl.1 rfl (Nat.le_of_ble_eq_true rfl) dX6_sample_161 zroom.rf (fun x71 s72 H locs hφ hEs72 hT => ?_)
                  have e19 : zI s72 this 0 = 0 := ((hTo.k t_this (by decide)).eI hEs72 (by decide) rfl).trans e19
                  have f73 := hφ
                  have K74 : zI s72 this 7 = zI σ0 this 7 := hT.eI t_this (by decide) rfl rfl
                  have K74n : (zI s72 this 7).toInt = (zI σ0 this 7).toInt := by rw [K74]
                  have J75 : zJ s72 rW = zJ σ0 rW := funext fun k => hT.eJ trW (by decide) rfl rfl
                  have J75n : (zJ s72 (kR κ this 1) 4).toInt = (zJ σ0 rW 4).toInt := by rw [erW, J75]
                  have P76 : zI s72 rP = zI σ0 rP := funext fun k => hT.eI trP (by decide) rfl rfl
                  try simp only [erW, erP, ix_0, ix_1, ix_2, ix_3, ix_4, ix_5, ix_6, ix_7, ix_8, ix_9, K65, J66, P67, K74, J75, P76] at f73
                  subst hQ9
                  exact t_l hx hb hr hlocks hT trivial dX6_sample_164
                · have c9 := gi_ne c9
                  refine lv_aload_n hx hb dX6_sample_137 rfl (lv_at hl 0 rfl) ?_
                  refine va_get (D := κ.1) (ci := 6) (v := .ref (kR κ this 1)) (C := RX6) (T := TX6) (N := 27) hx hb hg inX6 hown hK (hT.o20 (hT.k t_this (by decide))).one 0 rfl rfl 1 (by decide) (hg _ k1220) (fun _ h9 => h9) rfl dX6_sample_138 ?_
                  rw [erW]
                  refine lv_bipush (v := 53) hx hb dX6_sample_141 (by decide) ?_
                  refine lv_iload_n hx hb dX6_sample_143 rfl (lv_at hl 1 rfl) ?_
                  refine lv_iadd hx hb dX6_sample_144 ?_
                  first | refine g_add (by omega) (by omega) (fun t77 ht77 => ?_) | refine lv_topi (fun t77 ht77 => ?_)
                  refine va_lald hx hb hK (hT.o21 (hT.k trW (by decide))).one 0 1 rfl rfl (g_in (by omega) (by omega)) dX6_sample_145 ?_
                  refine lv_topl (fun t78 ht78 => ?_)
                  refine lv_goto (tgt := 164) hx hb dX6_sample_146 (by decide) ?_
                  subst hQ9
                  exact t_l hx hb hr hlocks hT trivial dX6_sample_164
              · have q56i := gi_ne q56
                refine lv_tableOut (tgt := 165) hx hb dX6_sample_43 (by omega) (by decide) ?_
                refine lv_aload_n hx hb dX6_sample_165 rfl (lv_at hl 0 rfl) ?_
                refine va_get (D := κ.1) (ci := 6) (v := .ref (kR κ this 1)) (C := RX6) (T := TX6) (N := 27) hx hb hg inX6 hown hK (hT.o20 (hT.k t_this (by decide))).one 0 rfl rfl 1 (by decide) (hg _ k1220) (fun _ h9 => h9) rfl dX6_sample_166 ?_
                rw [erW]
                refine lv_bipush (v := 101) hx hb dX6_sample_169 (by decide) ?_
                refine lv_iload_n hx hb dX6_sample_171 rfl (lv_at hl 1 rfl) ?_
                refine lv_iadd hx hb dX6_sample_172 ?_
                first | refine g_add (by omega) (by omega) (fun t79 ht79 => ?_) | refine lv_topi (fun t79 ht79 => ?_)
                refine va_lald hx hb hK (hT.o21 (hT.k trW (by decide))).one 0 1 rfl rfl (g_in (by omega) (by omega)) dX6_sample_173 ?_
                refine lv_topl (fun t80 ht80 => ?_)
                have K81 : zI s18 this 7 = zI σ0 this 7 := hT.eI t_this (by decide) rfl rfl
                have K81n : (zI s18 this 7).toInt = (zI σ0 this 7).toInt := by rw [K81]
                have J82 : zJ s18 rW = zJ σ0 rW := funext fun k => hT.eJ trW (by decide) rfl rfl
                have J82n : (zJ s18 (kR κ this 1) 4).toInt = (zJ σ0 rW 4).toInt := by rw [erW, J82]
                have P83 : zI s18 rP = zI σ0 rP := funext fun k => hT.eI trP (by decide) rfl rfl
                subst hQ9
                exact t_l hx hb hr hlocks hT trivial dX6_sample_174
  · have c10 := gi_eq c9
    refine lv_iconst (v := 1) hx hb dX6_sample_9 (by decide) ?_
    refine lv_goto (tgt := 30) hx hb dX6_sample_10 (by decide) ?_
    have hTo := hT
    refine pf20_0 hx hb hg hown hK hT (hT.k t_this (by decide)) rfl (hg _ k1219) dX6_sample_30 (fun H locs s84 hus84 hT => ?_)
    have e85 : zI s84 this 0 = 1 := zput_at hus84
    refine lv_aload_n hx hb dX6_sample_33 rfl (lv_at hl 0 rfl) ?_
    refine va_get (D := κ.1) (ci := 6) (v := .int (zI s84 this 0)) (C := RX6) (T := TX6) (N := 27) hx hb hg inX6 hown hK (hT.o20 (hT.k t_this (by decide))).one 0 rfl rfl 0 (by decide) (hg _ k1219) (fun _ h9 => h9) rfl dX6_sample_34 ?_
    rw [e85]
    refine lv_if_le (tgt := 42) hx hb dX6_sample_37 (by decide) (fun c9 => absurd c9 (by decide)) (fun _ => ?_)
    refine lv_lconst (v := 0) hx hb dX6_sample_40 (by decide) ?_
    subst hQ9
    exact t_l hx hb hr hlocks hT trivial dX6_sample_41
set_option maxHeartbeats 4000000 in
set_option maxRecDepth 100000 in
theorem X6_present (l : Launch) (κ : Kt) (σ0 : Gh) (this : Nat) (i : Int32) (t_this : zk σ0 this 20) (h0 : RI κ σ0 this) : TC l yX6_present cX6_present 4 (some .int) 3 69 [.ref this, .int i] κ σ0 (tqi κ gR σ0 (fun (r : Int32) (τ : Gh) => True)) := by
  refine TC.of gR (by decide +kernel) (Nat.le_of_ble_eq_true rfl) ?_
  intro p e s m below meth c ls hcs hK hX hT hl
  obtain ⟨hx, hb, hr, hml, hown, hg, hlocks, hin⟩ := hcs
  have hown : s.vm.findClass RX6 = some m.cls := hown
  have hl : lv_has ls 4 [(0, .ref this), (1, .int i)] := hl
  have hT0 := hT
  have n0 : (0 : Int32).toInt = 0 := by decide
  have n1 : (1 : Int32).toInt = 1 := by decide
  have j0 : (0 : Int64).toInt = 0 := by decide
  have i_lo := Int32.le_toInt i
  have i_hi := Int32.toInt_lt i
  generalize hQ9 : tQ _ _ _ _ _ _ = Q9
  obtain ⟨rW, erW⟩ : ∃ z, kR κ this 1 = z := ⟨_, rfl⟩
  have trW : zk σ0 rW 21 := by rw [← erW]; exact h0.1.2.1
  obtain ⟨rP, erP⟩ : ∃ z, kR κ this 5 = z := ⟨_, rfl⟩
  have trP : zk σ0 rP 25 := by rw [← erP]; exact h0.1.2.2.2.2
  have hB0 := h0.b
  rw [erW] at hB0
  have hW := h0.2.1
  rw [erW] at hW
  have hP := h0.2.2.1
  rw [erP] at hP
  have hrN : (rN σ0 this : Int) = (zI σ0 this 7).toInt := by unfold rN; omega
  refine lv_aload_n hx hb dX6_present_0 rfl (lv_at hl 0 rfl) ?_
  refine lv_iload_n hx hb dX6_present_1 rfl (lv_at hl 1 rfl) ?_
  refine lv_i2l hx hb dX6_present_2 rfl ?_
  refine g_i2l (fun t1 ht1 => ?_)
  refine lv_lconst (v := 0) hx hb dX6_present_3 (by decide) ?_
  refine lv_aload_n hx hb dX6_present_4 rfl (lv_at hl 0 rfl) ?_
  have hTo := hT
  refine tVi (n := 0) (As := []) (rest := [.long 0, .long t1, .ref this]) hx hb hml hown hg hT hK hX (X6_presents l κ σ0 this  (hT.k t_this (by decide)) h0) sub_fE_gR (mwV k1412 k1414 k51 k92 k1415) ⟨rfl, by decide, by decide, by decide +kernel⟩ ⟨(Nat.le_of_ble_eq_true rfl), (Nat.le_of_ble_eq_true rfl)⟩ (hT.o20 (hT.k t_this (by decide))) rfl rfl hl.1 rfl (Nat.le_of_ble_eq_true rfl) dX6_present_5 zroom.rf (fun x2 s3 H locs hφ hEs3 hT => ?_)
  have f4 := hφ
  have K5 : zI s3 this 7 = zI σ0 this 7 := hT.eI t_this (by decide) rfl rfl
  have K5n : (zI s3 this 7).toInt = (zI σ0 this 7).toInt := by rw [K5]
  have J6 : zJ s3 rW = zJ σ0 rW := funext fun k => hT.eJ trW (by decide) rfl rfl
  have J6n : (zJ s3 (kR κ this 1) 4).toInt = (zJ σ0 rW 4).toInt := by rw [erW, J6]
  have P7 : zI s3 rP = zI σ0 rP := funext fun k => hT.eI trP (by decide) rfl rfl
  try simp only [erW, erP, ix_0, ix_1, ix_2, ix_3, ix_4, ix_5, ix_6, ix_7, ix_8, ix_9, K5, J6, P7] at f4
  refine lv_iconst (v := 1) hx hb dX6_present_8 (by decide) ?_
  refine lv_isub hx hb dX6_present_9 ?_
  first | refine g_sub (by omega) (by omega) (fun t8 ht8 => ?_) | refine lv_topi (fun t8 ht8 => ?_)
  refine lv_i2l hx hb dX6_present_10 rfl ?_
  refine g_i2l (fun t9 ht9 => ?_)
  have hTo := hT
  refine tSi (n := 3) (As := [.long t1, .long 0, .long t9]) (rest := [.ref this]) hx hb hml hown hg hT hK hX (X6_in l κ s3 t1 0 t9   ) sub_fE_gR (mwS k1317 k1318 k92 k1319) ⟨rfl, by decide, by decide, by decide +kernel⟩ ⟨(Nat.le_of_ble_eq_true rfl), (Nat.le_of_ble_eq_true rfl)⟩ rfl hl.1 rfl (Nat.le_of_ble_eq_true rfl) dX6_present_11 zroom.rf (fun x10 s11 H locs hφ hEs11 hT => ?_)
  obtain ⟨f12, f13⟩ := hφ
  have K14 : zI s11 this 7 = zI σ0 this 7 := hT.eI t_this (by decide) rfl rfl
  have K14n : (zI s11 this 7).toInt = (zI σ0 this 7).toInt := by rw [K14]
  have J15 : zJ s11 rW = zJ σ0 rW := funext fun k => hT.eJ trW (by decide) rfl rfl
  have J15n : (zJ s11 (kR κ this 1) 4).toInt = (zJ σ0 rW 4).toInt := by rw [erW, J15]
  have P16 : zI s11 rP = zI σ0 rP := funext fun k => hT.eI trP (by decide) rfl rfl
  try simp only [erW, erP, ix_0, ix_1, ix_2, ix_3, ix_4, ix_5, ix_6, ix_7, ix_8, ix_9, K5, J6, P7, K14, J15, P16] at f12
  refine lv_if_eq (tgt := 21) hx hb dX6_present_14 (by decide) (fun c9 => ?_) (fun c9 => ?_)
  · have c1 := gi_eq c9
    refine lv_iconst (v := 1) hx hb dX6_present_21 (by decide) ?_
    have hTo := hT
    refine pf20_0 hx hb hg hown hK hT (hT.k t_this (by decide)) rfl (hg _ k1219) dX6_present_22 (fun H locs s17 hus17 hT => ?_)
    have e18 : zI s17 this 0 = 1 := zput_at hus17
    refine lv_iconst (v := 0) hx hb dX6_present_25 (by decide) ?_
    refine lv_istore_n (lv' := [(2, .int 0), (0, .ref this), (1, .int i)]) hx hb dX6_present_26 rfl hl (by decide) rfl (fun ls hl => ?_)
    refine lv_iload_n hx hb dX6_present_27 rfl (lv_at hl 2 rfl) ?_
    refine lv_istore_n (lv' := [(3, .int i), (2, .int 0), (0, .ref this), (1, .int i)]) hx hb dX6_present_28 rfl hl (by decide) rfl (fun ls hl => ?_)
    have loop29 : ∀ (n9 : Nat) (k : Int32) (lf : Int32) (H : Heap) (locs : List Loc) (sg : Gh) (ls : Array Slot), TS κ gR σ0 sg s H locs → (-1 ≤ k.toInt) → (k.toInt ≤ 47) → (-2147483648 ≤ lf.toInt) → (lf.toInt ≤ 2147483647) → lv_has ls 4 [(2, .int k), (3, .int lf), (0, .ref this), (1, .int i)] → (lf.toInt + 2147483648) < n9 → tW p l e 3 69 κ s m #[.ref this, .int i] below meth c H locs Q9 (F0 m 29 ls []) := by
      intro n9
      induction n9 with
      | zero =>
        intro k lf H locs sg ls hT q1 q2 q3 q4 hl hm9
        exfalso
        omega
      | succ n9 ih9 =>
        have ih29 := ih9
        clear ih9
        intro k lf H locs s19 ls hT q1 q2 q3 q4 hl hm9
        refine lv_aload_n hx hb dX6_present_29 rfl (lv_at hl 2 rfl) ?_
        obtain ⟨v20, ev20⟩ : ∃ zz9 : Int32, zI s19 this 0 = zz9 := ⟨_, rfl⟩
        have qv20 : v20.toInt = (zI s19 this 0).toInt := by rw [ev20]
        refine va_get (D := κ.1) (ci := 6) (v := .int (zI s19 this 0)) (C := RX6) (T := TX6) (N := 27) hx hb hg inX6 hown hK (hT.o20 (hT.k t_this (by decide))).one 0 rfl rfl 0 (by decide) (hg _ k1219) (fun _ h9 => h9) rfl dX6_present_30 ?_
        rw [ev20]
        refine lv_if_ne (tgt := 53) hx hb dX6_present_33 (by decide) (fun c9 => ?_) (fun c9 => ?_)
        · have c2 := gi_ne c9
          refine lv_iload_n hx hb dX6_present_53 rfl (lv_at hl 0 rfl) ?_
          subst hQ9
          exact t_i hx hb hr hlocks hT trivial dX6_present_54
        · have c3 := gi_eq c9
          refine lv_iload_n hx hb dX6_present_36 rfl (lv_at hl 1 rfl) ?_
          refine lv_if_le (tgt := 53) hx hb dX6_present_37 (by decide) (fun c9 => ?_) (fun c9 => ?_)
          · have c4 := gi_le c9
            refine lv_iload_n hx hb dX6_present_53 rfl (lv_at hl 0 rfl) ?_
            subst hQ9
            exact t_i hx hb hr hlocks hT trivial dX6_present_54
          · have c5 := gi_nle c9
            refine lv_aload_n hx hb dX6_present_40 rfl (lv_at hl 2 rfl) ?_
            refine lv_iload_n hx hb dX6_present_41 rfl (lv_at hl 0 rfl) ?_
            refine lv_iconst (v := 1) hx hb dX6_present_42 (by decide) ?_
            have K21 : zI s19 this 7 = zI σ0 this 7 := hT.eI t_this (by decide) rfl rfl
            have K21n : (zI s19 this 7).toInt = (zI σ0 this 7).toInt := by rw [K21]
            have J22 : zJ s19 rW = zJ σ0 rW := funext fun k => hT.eJ trW (by decide) rfl rfl
            have J22n : (zJ s19 (kR κ this 1) 4).toInt = (zJ σ0 rW 4).toInt := by rw [erW, J22]
            have P23 : zI s19 rP = zI σ0 rP := funext fun k => hT.eI trP (by decide) rfl rfl
            have R24 : RI κ s19 this := h0.ext hT.2.2.1 ⟨rfl, rfl, fun _ => rfl, fun _ => rfl, fun _ => rfl, fun _ => rfl⟩
            have hTo := hT
            refine tVi (n := 2) (As := [.int k, .int 1]) (rest := []) hx hb hml hown hg hT hK hX (X6_besideR l κ s19 this k 1  (hT.k t_this (by decide)) R24 (by omega) (by omega) (by omega)) sub_fE_gR (mwV k1449 k1451 k58 k92 k1452) ⟨rfl, by decide, by decide, by decide +kernel⟩ ⟨(Nat.le_of_ble_eq_true rfl), (Nat.le_of_ble_eq_true rfl)⟩ (hT.o20 (hT.k t_this (by decide))) rfl rfl hl.1 rfl (Nat.le_of_ble_eq_true rfl) dX6_present_43 zroom.rf (fun x25 s26 H locs hφ hEs26 hT => ?_)
            have ev20 : zI s26 this 0 = v20 := ((hTo.k t_this (by decide)).eI hEs26 (by decide) rfl).trans ev20
            have f27 := hφ
            have K28 : zI s26 this 7 = zI σ0 this 7 := hT.eI t_this (by decide) rfl rfl
            have K28n : (zI s26 this 7).toInt = (zI σ0 this 7).toInt := by rw [K28]
            have J29 : zJ s26 rW = zJ σ0 rW := funext fun k => hT.eJ trW (by decide) rfl rfl
            have J29n : (zJ s26 (kR κ this 1) 4).toInt = (zJ σ0 rW 4).toInt := by rw [erW, J29]
            have P30 : zI s26 rP = zI σ0 rP := funext fun k => hT.eI trP (by decide) rfl rfl
            try simp only [erW, erP, ix_0, ix_1, ix_2, ix_3, ix_4, ix_5, ix_6, ix_7, ix_8, ix_9, K21, J22, P23, K28, J29, P30] at f27
            refine lv_istore_n (lv' := [(2, .int x25), (3, .int lf), (0, .ref this), (1, .int i)]) hx hb dX6_present_46 rfl hl (by decide) rfl (fun ls hl => ?_)
            obtain ⟨t31, qt31⟩ : ∃ zz9 : Int32, lf + Int32.ofInt (-1) = zz9 := ⟨_, rfl⟩
            refine lv_iinc (v := t31) (lv' := [(3, .int t31), (2, .int x25), (0, .ref this), (1, .int i)]) hx hb dX6_present_47 hl (k := 1) rfl qt31 (by decide) rfl (fun ls hl => ?_)
            have ht31 : t31.toInt = lf.toInt + (-1) := by rw [← qt31]; exact v_addi rfl (show (Int32.ofInt (-1)).toInt = (-1) from by decide) (by omega) (by omega)
            refine lv_goto (tgt := 29) hx hb dX6_present_50 (by decide) ?_
            exact ih29 x25 t31 _ _ _ _ hT  (by omega) (by omega) (by omega) (by omega) (lv_sub hl [1, 0, 2, 3] rfl) (by omega)
    exact loop29 ((i.toInt + 2147483648).toNat + 1) 0 i _ _ _ _ hT  (by omega) (by omega) (by omega) (by omega) (lv_sub hl [1, 0, 2, 3] rfl) (by omega)
  · have c6 := gi_ne c9
    refine lv_iconst (v := 0) hx hb dX6_present_17 (by decide) ?_
    refine lv_goto (tgt := 22) hx hb dX6_present_18 (by decide) ?_
    have hTo := hT
    refine pf20_0 hx hb hg hown hK hT (hT.k t_this (by decide)) rfl (hg _ k1219) dX6_present_22 (fun H locs s32 hus32 hT => ?_)
    have e33 : zI s32 this 0 = 0 := zput_at hus32
    refine lv_iconst (v := 0) hx hb dX6_present_25 (by decide) ?_
    refine lv_istore_n (lv' := [(2, .int 0), (0, .ref this), (1, .int i)]) hx hb dX6_present_26 rfl hl (by decide) rfl (fun ls hl => ?_)
    refine lv_iload_n hx hb dX6_present_27 rfl (lv_at hl 2 rfl) ?_
    refine lv_istore_n (lv' := [(3, .int i), (2, .int 0), (0, .ref this), (1, .int i)]) hx hb dX6_present_28 rfl hl (by decide) rfl (fun ls hl => ?_)
    have loop29 : ∀ (n9 : Nat) (k : Int32) (lf : Int32) (H : Heap) (locs : List Loc) (sg : Gh) (ls : Array Slot), TS κ gR σ0 sg s H locs → (-1 ≤ k.toInt) → (k.toInt ≤ 47) → (-2147483648 ≤ lf.toInt) → (lf.toInt ≤ 2147483647) → lv_has ls 4 [(2, .int k), (3, .int lf), (0, .ref this), (1, .int i)] → (lf.toInt + 2147483648) < n9 → tW p l e 3 69 κ s m #[.ref this, .int i] below meth c H locs Q9 (F0 m 29 ls []) := by
      intro n9
      induction n9 with
      | zero =>
        intro k lf H locs sg ls hT q1 q2 q3 q4 hl hm9
        exfalso
        omega
      | succ n9 ih9 =>
        have ih29 := ih9
        clear ih9
        intro k lf H locs s34 ls hT q1 q2 q3 q4 hl hm9
        refine lv_aload_n hx hb dX6_present_29 rfl (lv_at hl 2 rfl) ?_
        obtain ⟨v35, ev35⟩ : ∃ zz9 : Int32, zI s34 this 0 = zz9 := ⟨_, rfl⟩
        have qv35 : v35.toInt = (zI s34 this 0).toInt := by rw [ev35]
        refine va_get (D := κ.1) (ci := 6) (v := .int (zI s34 this 0)) (C := RX6) (T := TX6) (N := 27) hx hb hg inX6 hown hK (hT.o20 (hT.k t_this (by decide))).one 0 rfl rfl 0 (by decide) (hg _ k1219) (fun _ h9 => h9) rfl dX6_present_30 ?_
        rw [ev35]
        refine lv_if_ne (tgt := 53) hx hb dX6_present_33 (by decide) (fun c9 => ?_) (fun c9 => ?_)
        · have c7 := gi_ne c9
          refine lv_iload_n hx hb dX6_present_53 rfl (lv_at hl 0 rfl) ?_
          subst hQ9
          exact t_i hx hb hr hlocks hT trivial dX6_present_54
        · have c8 := gi_eq c9
          refine lv_iload_n hx hb dX6_present_36 rfl (lv_at hl 1 rfl) ?_
          refine lv_if_le (tgt := 53) hx hb dX6_present_37 (by decide) (fun c9 => ?_) (fun c9 => ?_)
          · have c9 := gi_le c9
            refine lv_iload_n hx hb dX6_present_53 rfl (lv_at hl 0 rfl) ?_
            subst hQ9
            exact t_i hx hb hr hlocks hT trivial dX6_present_54
          · have c10 := gi_nle c9
            refine lv_aload_n hx hb dX6_present_40 rfl (lv_at hl 2 rfl) ?_
            refine lv_iload_n hx hb dX6_present_41 rfl (lv_at hl 0 rfl) ?_
            refine lv_iconst (v := 1) hx hb dX6_present_42 (by decide) ?_
            have K36 : zI s34 this 7 = zI σ0 this 7 := hT.eI t_this (by decide) rfl rfl
            have K36n : (zI s34 this 7).toInt = (zI σ0 this 7).toInt := by rw [K36]
            have J37 : zJ s34 rW = zJ σ0 rW := funext fun k => hT.eJ trW (by decide) rfl rfl
            have J37n : (zJ s34 (kR κ this 1) 4).toInt = (zJ σ0 rW 4).toInt := by rw [erW, J37]
            have P38 : zI s34 rP = zI σ0 rP := funext fun k => hT.eI trP (by decide) rfl rfl
            have R39 : RI κ s34 this := h0.ext hT.2.2.1 ⟨rfl, rfl, fun _ => rfl, fun _ => rfl, fun _ => rfl, fun _ => rfl⟩
            have hTo := hT
            refine tVi (n := 2) (As := [.int k, .int 1]) (rest := []) hx hb hml hown hg hT hK hX (X6_besideR l κ s34 this k 1  (hT.k t_this (by decide)) R39 (by omega) (by omega) (by omega)) sub_fE_gR (mwV k1449 k1451 k58 k92 k1452) ⟨rfl, by decide, by decide, by decide +kernel⟩ ⟨(Nat.le_of_ble_eq_true rfl), (Nat.le_of_ble_eq_true rfl)⟩ (hT.o20 (hT.k t_this (by decide))) rfl rfl hl.1 rfl (Nat.le_of_ble_eq_true rfl) dX6_present_43 zroom.rf (fun x40 s41 H locs hφ hEs41 hT => ?_)
            have ev35 : zI s41 this 0 = v35 := ((hTo.k t_this (by decide)).eI hEs41 (by decide) rfl).trans ev35
            have f42 := hφ
            have K43 : zI s41 this 7 = zI σ0 this 7 := hT.eI t_this (by decide) rfl rfl
            have K43n : (zI s41 this 7).toInt = (zI σ0 this 7).toInt := by rw [K43]
            have J44 : zJ s41 rW = zJ σ0 rW := funext fun k => hT.eJ trW (by decide) rfl rfl
            have J44n : (zJ s41 (kR κ this 1) 4).toInt = (zJ σ0 rW 4).toInt := by rw [erW, J44]
            have P45 : zI s41 rP = zI σ0 rP := funext fun k => hT.eI trP (by decide) rfl rfl
            try simp only [erW, erP, ix_0, ix_1, ix_2, ix_3, ix_4, ix_5, ix_6, ix_7, ix_8, ix_9, K36, J37, P38, K43, J44, P45] at f42
            refine lv_istore_n (lv' := [(2, .int x40), (3, .int lf), (0, .ref this), (1, .int i)]) hx hb dX6_present_46 rfl hl (by decide) rfl (fun ls hl => ?_)
            obtain ⟨t46, qt46⟩ : ∃ zz9 : Int32, lf + Int32.ofInt (-1) = zz9 := ⟨_, rfl⟩
            refine lv_iinc (v := t46) (lv' := [(3, .int t46), (2, .int x40), (0, .ref this), (1, .int i)]) hx hb dX6_present_47 hl (k := 1) rfl qt46 (by decide) rfl (fun ls hl => ?_)
            have ht46 : t46.toInt = lf.toInt + (-1) := by rw [← qt46]; exact v_addi rfl (show (Int32.ofInt (-1)).toInt = (-1) from by decide) (by omega) (by omega)
            refine lv_goto (tgt := 29) hx hb dX6_present_50 (by decide) ?_
            exact ih29 x40 t46 _ _ _ _ hT  (by omega) (by omega) (by omega) (by omega) (lv_sub hl [1, 0, 2, 3] rfl) (by omega)
    exact loop29 ((i.toInt + 2147483648).toNat + 1) 0 i _ _ _ _ hT  (by omega) (by omega) (by omega) (by omega) (lv_sub hl [1, 0, 2, 3] rfl) (by omega)
set_option maxHeartbeats 4000000 in
set_option maxRecDepth 100000 in
theorem X6_neighbour (l : Launch) (κ : Kt) (σ0 : Gh) (this : Nat) (i : Int32) (ri : Int32) (t_this : zk σ0 this 20) (b_ri : isB ri) (h0 : RI κ σ0 this) : TC l yX6_neighbour cX6_neighbour 3 (some .int) 3 69 [.ref this, .int i, .int ri] κ σ0 (tqi κ gR σ0 (fun (r : Int32) (τ : Gh) => True)) := by
  refine TC.of gR (by decide +kernel) (Nat.le_of_ble_eq_true rfl) ?_
  intro p e s m below meth c ls hcs hK hX hT hl
  obtain ⟨hx, hb, hr, hml, hown, hg, hlocks, hin⟩ := hcs
  have hown : s.vm.findClass RX6 = some m.cls := hown
  have hl : lv_has ls 3 [(0, .ref this), (1, .int i), (2, .int ri)] := hl
  have hT0 := hT
  have nm1 : ((-1) : Int32).toInt = (-1) := by decide
  have n0 : (0 : Int32).toInt = 0 := by decide
  have n1 : (1 : Int32).toInt = 1 := by decide
  have i_lo := Int32.le_toInt i
  have i_hi := Int32.toInt_lt i
  generalize hQ9 : tQ _ _ _ _ _ _ = Q9
  obtain ⟨rW, erW⟩ : ∃ z, kR κ this 1 = z := ⟨_, rfl⟩
  have trW : zk σ0 rW 21 := by rw [← erW]; exact h0.1.2.1
  obtain ⟨rP, erP⟩ : ∃ z, kR κ this 5 = z := ⟨_, rfl⟩
  have trP : zk σ0 rP 25 := by rw [← erP]; exact h0.1.2.2.2.2
  have hB0 := h0.b
  rw [erW] at hB0
  have hW := h0.2.1
  rw [erW] at hW
  have hP := h0.2.2.1
  rw [erP] at hP
  have hrN : (rN σ0 this : Int) = (zI σ0 this 7).toInt := by unfold rN; omega
  refine lv_aload_n hx hb dX6_neighbour_0 rfl (lv_at hl 0 rfl) ?_
  refine lv_aload_n hx hb dX6_neighbour_1 rfl (lv_at hl 0 rfl) ?_
  refine lv_iload_n hx hb dX6_neighbour_2 rfl (lv_at hl 1 rfl) ?_
  have hTo := hT
  refine tVi (n := 1) (As := [.int i]) (rest := [.ref this]) hx hb hml hown hg hT hK hX (X6_isSample l κ σ0 this i  (hT.k t_this (by decide)) h0) sub_fE_gR (mwV k1440 k1442 k57 k92 k1443) ⟨rfl, by decide, by decide, by decide +kernel⟩ ⟨(Nat.le_of_ble_eq_true rfl), (Nat.le_of_ble_eq_true rfl)⟩ (hT.o20 (hT.k t_this (by decide))) rfl rfl hl.1 rfl (Nat.le_of_ble_eq_true rfl) dX6_neighbour_3 zroom.rf (fun x1 s2 H locs hφ hEs2 hT => ?_)
  obtain ⟨f3, f4⟩ := hφ
  have K5 : zI s2 this 7 = zI σ0 this 7 := hT.eI t_this (by decide) rfl rfl
  have K5n : (zI s2 this 7).toInt = (zI σ0 this 7).toInt := by rw [K5]
  have J6 : zJ s2 rW = zJ σ0 rW := funext fun k => hT.eJ trW (by decide) rfl rfl
  have J6n : (zJ s2 (kR κ this 1) 4).toInt = (zJ σ0 rW 4).toInt := by rw [erW, J6]
  have P7 : zI s2 rP = zI σ0 rP := funext fun k => hT.eI trP (by decide) rfl rfl
  try simp only [erW, erP, ix_0, ix_1, ix_2, ix_3, ix_4, ix_5, ix_6, ix_7, ix_8, ix_9, K5, J6, P7] at f3
  refine lv_if_eq (tgt := 13) hx hb dX6_neighbour_6 (by decide) (fun c9 => ?_) (fun c9 => ?_)
  · have c1 := gi_eq c9
    refine lv_iconst (v := 1) hx hb dX6_neighbour_13 (by decide) ?_
    have hTo := hT
    refine pf20_0 hx hb hg hown hK hT (hT.k t_this (by decide)) rfl (hg _ k1219) dX6_neighbour_14 (fun H locs s8 hus8 hT => ?_)
    have e9 : zI s8 this 0 = 1 := zput_at hus8
    refine lv_aload_n hx hb dX6_neighbour_17 rfl (lv_at hl 0 rfl) ?_
    refine va_get (D := κ.1) (ci := 6) (v := .int (zI s8 this 0)) (C := RX6) (T := TX6) (N := 27) hx hb hg inX6 hown hK (hT.o20 (hT.k t_this (by decide))).one 0 rfl rfl 0 (by decide) (hg _ k1219) (fun _ h9 => h9) rfl dX6_neighbour_18 ?_
    rw [e9]
    refine lv_if_le (tgt := 28) hx hb dX6_neighbour_21 (by decide) (fun c9 => absurd c9 (by decide)) (fun _ => ?_)
    refine lv_iconst (v := 0) hx hb dX6_neighbour_24 (by decide) ?_
    refine lv_goto (tgt := 42) hx hb dX6_neighbour_25 (by decide) ?_
    subst hQ9
    exact t_i hx hb hr hlocks hT trivial dX6_neighbour_42
  · have c2 := gi_ne c9
    refine lv_iconst (v := 0) hx hb dX6_neighbour_9 (by decide) ?_
    refine lv_goto (tgt := 14) hx hb dX6_neighbour_10 (by decide) ?_
    have hTo := hT
    refine pf20_0 hx hb hg hown hK hT (hT.k t_this (by decide)) rfl (hg _ k1219) dX6_neighbour_14 (fun H locs s10 hus10 hT => ?_)
    have e11 : zI s10 this 0 = 0 := zput_at hus10
    refine lv_aload_n hx hb dX6_neighbour_17 rfl (lv_at hl 0 rfl) ?_
    refine va_get (D := κ.1) (ci := 6) (v := .int (zI s10 this 0)) (C := RX6) (T := TX6) (N := 27) hx hb hg inX6 hown hK (hT.o20 (hT.k t_this (by decide))).one 0 rfl rfl 0 (by decide) (hg _ k1219) (fun _ h9 => h9) rfl dX6_neighbour_18 ?_
    rw [e11]
    refine lv_if_le (tgt := 28) hx hb dX6_neighbour_21 (by decide) (fun _ => ?_) (fun c9 => absurd (by decide) c9)
    refine lv_aload_n hx hb dX6_neighbour_28 rfl (lv_at hl 0 rfl) ?_
    refine lv_iload_n hx hb dX6_neighbour_29 rfl (lv_at hl 1 rfl) ?_
    refine lv_iload_n hx hb dX6_neighbour_30 rfl (lv_at hl 2 rfl) ?_
    refine lv_if_eq (tgt := 38) hx hb dX6_neighbour_31 (by decide) (fun c9 => ?_) (fun c9 => ?_)
    · have c3 := gi_eq c9
      refine lv_iconst (v := (-1)) hx hb dX6_neighbour_38 (by decide) ?_
      have K12 : zI s10 this 7 = zI σ0 this 7 := hT.eI t_this (by decide) rfl rfl
      have K12n : (zI s10 this 7).toInt = (zI σ0 this 7).toInt := by rw [K12]
      have J13 : zJ s10 rW = zJ σ0 rW := funext fun k => hT.eJ trW (by decide) rfl rfl
      have J13n : (zJ s10 (kR κ this 1) 4).toInt = (zJ σ0 rW 4).toInt := by rw [erW, J13]
      have P14 : zI s10 rP = zI σ0 rP := funext fun k => hT.eI trP (by decide) rfl rfl
      have R15 : RI κ s10 this := h0.ext hT.2.2.1 ⟨rfl, rfl, fun _ => rfl, fun _ => rfl, fun _ => rfl, fun _ => rfl⟩
      have hTo := hT
      refine tVi (n := 2) (As := [.int i, .int (-1)]) (rest := []) hx hb hml hown hg hT hK hX (X6_besideL l κ s10 this i (-1)  (hT.k t_this (by decide)) R15 (by omega) (by omega) (by omega)) sub_fE_gR (mwV k1449 k1451 k58 k92 k1452) ⟨rfl, by decide, by decide, by decide +kernel⟩ ⟨(Nat.le_of_ble_eq_true rfl), (Nat.le_of_ble_eq_true rfl)⟩ (hT.o20 (hT.k t_this (by decide))) rfl rfl hl.1 rfl (Nat.le_of_ble_eq_true rfl) dX6_neighbour_39 zroom.rf (fun x16 s17 H locs hφ hEs17 hT => ?_)
      have e11 : zI s17 this 0 = 0 := ((hTo.k t_this (by decide)).eI hEs17 (by decide) rfl).trans e11
      have f18 := hφ
      have K19 : zI s17 this 7 = zI σ0 this 7 := hT.eI t_this (by decide) rfl rfl
      have K19n : (zI s17 this 7).toInt = (zI σ0 this 7).toInt := by rw [K19]
      have J20 : zJ s17 rW = zJ σ0 rW := funext fun k => hT.eJ trW (by decide) rfl rfl
      have J20n : (zJ s17 (kR κ this 1) 4).toInt = (zJ σ0 rW 4).toInt := by rw [erW, J20]
      have P21 : zI s17 rP = zI σ0 rP := funext fun k => hT.eI trP (by decide) rfl rfl
      try simp only [erW, erP, ix_0, ix_1, ix_2, ix_3, ix_4, ix_5, ix_6, ix_7, ix_8, ix_9, K12, J13, P14, K19, J20, P21] at f18
      subst hQ9
      exact t_i hx hb hr hlocks hT trivial dX6_neighbour_42
    · have c4 := gi_ne c9
      refine lv_iconst (v := 1) hx hb dX6_neighbour_34 (by decide) ?_
      refine lv_goto (tgt := 39) hx hb dX6_neighbour_35 (by decide) ?_
      have K22 : zI s10 this 7 = zI σ0 this 7 := hT.eI t_this (by decide) rfl rfl
      have K22n : (zI s10 this 7).toInt = (zI σ0 this 7).toInt := by rw [K22]
      have J23 : zJ s10 rW = zJ σ0 rW := funext fun k => hT.eJ trW (by decide) rfl rfl
      have J23n : (zJ s10 (kR κ this 1) 4).toInt = (zJ σ0 rW 4).toInt := by rw [erW, J23]
      have P24 : zI s10 rP = zI σ0 rP := funext fun k => hT.eI trP (by decide) rfl rfl
      have R25 : RI κ s10 this := h0.ext hT.2.2.1 ⟨rfl, rfl, fun _ => rfl, fun _ => rfl, fun _ => rfl, fun _ => rfl⟩
      have hTo := hT
      refine tVi (n := 2) (As := [.int i, .int 1]) (rest := []) hx hb hml hown hg hT hK hX (X6_besideR l κ s10 this i 1  (hT.k t_this (by decide)) R25 (by omega) (by omega) (by omega)) sub_fE_gR (mwV k1449 k1451 k58 k92 k1452) ⟨rfl, by decide, by decide, by decide +kernel⟩ ⟨(Nat.le_of_ble_eq_true rfl), (Nat.le_of_ble_eq_true rfl)⟩ (hT.o20 (hT.k t_this (by decide))) rfl rfl hl.1 rfl (Nat.le_of_ble_eq_true rfl) dX6_neighbour_39 zroom.rf (fun x26 s27 H locs hφ hEs27 hT => ?_)
      have e11 : zI s27 this 0 = 0 := ((hTo.k t_this (by decide)).eI hEs27 (by decide) rfl).trans e11
      have f28 := hφ
      have K29 : zI s27 this 7 = zI σ0 this 7 := hT.eI t_this (by decide) rfl rfl
      have K29n : (zI s27 this 7).toInt = (zI σ0 this 7).toInt := by rw [K29]
      have J30 : zJ s27 rW = zJ σ0 rW := funext fun k => hT.eJ trW (by decide) rfl rfl
      have J30n : (zJ s27 (kR κ this 1) 4).toInt = (zJ σ0 rW 4).toInt := by rw [erW, J30]
      have P31 : zI s27 rP = zI σ0 rP := funext fun k => hT.eI trP (by decide) rfl rfl
      try simp only [erW, erP, ix_0, ix_1, ix_2, ix_3, ix_4, ix_5, ix_6, ix_7, ix_8, ix_9, K22, J23, P24, K29, J30, P31] at f28
      subst hQ9
      exact t_i hx hb hr hlocks hT trivial dX6_neighbour_42
set_option maxHeartbeats 4000000 in
set_option maxRecDepth 100000 in
theorem X6_step (l : Launch) (κ : Kt) (σ0 : Gh) (this : Nat) (i : Int32) (x : Int32) (t_this : zk σ0 this 20) (h0 : RI κ σ0 this) : TC l yX6_step cX6_step 3 (some .long) 2 46 [.ref this, .int i, .int x] κ σ0 (tql κ gR σ0 (fun (r : Int64) (τ : Gh) => True)) := by
  refine TC.of gR (by decide +kernel) (Nat.le_of_ble_eq_true rfl) ?_
  intro p e s m below meth c ls hcs hK hX hT hl
  obtain ⟨hx, hb, hr, hml, hown, hg, hlocks, hin⟩ := hcs
  have hown : s.vm.findClass RX6 = some m.cls := hown
  have hl : lv_has ls 3 [(0, .ref this), (1, .int i), (2, .int x)] := hl
  have hT0 := hT
  have n0 : (0 : Int32).toInt = 0 := by decide
  have n1 : (1 : Int32).toInt = 1 := by decide
  have n2 : (2 : Int32).toInt = 2 := by decide
  have j0 : (0 : Int64).toInt = 0 := by decide
  have j5 : (5 : Int64).toInt = 5 := by decide
  have i_lo := Int32.le_toInt i
  have i_hi := Int32.toInt_lt i
  have x_lo := Int32.le_toInt x
  have x_hi := Int32.toInt_lt x
  generalize hQ9 : tQ _ _ _ _ _ _ = Q9
  obtain ⟨rW, erW⟩ : ∃ z, kR κ this 1 = z := ⟨_, rfl⟩
  have trW : zk σ0 rW 21 := by rw [← erW]; exact h0.1.2.1
  obtain ⟨rP, erP⟩ : ∃ z, kR κ this 5 = z := ⟨_, rfl⟩
  have trP : zk σ0 rP 25 := by rw [← erP]; exact h0.1.2.2.2.2
  have hB0 := h0.b
  rw [erW] at hB0
  have hW := h0.2.1
  rw [erW] at hW
  have hP := h0.2.2.1
  rw [erP] at hP
  have hrN : (rN σ0 this : Int) = (zI σ0 this 7).toInt := by unfold rN; omega
  refine lv_aload_n hx hb dX6_step_0 rfl (lv_at hl 0 rfl) ?_
  refine lv_aload_n hx hb dX6_step_1 rfl (lv_at hl 0 rfl) ?_
  refine lv_iload_n hx hb dX6_step_2 rfl (lv_at hl 1 rfl) ?_
  have hTo := hT
  refine tVi (n := 1) (As := [.int i]) (rest := [.ref this]) hx hb hml hown hg hT hK hX (X6_isStep l κ σ0 this i  (hT.k t_this (by decide)) h0) sub_fE_gR (mwV k1461 k1463 k59 k92 k1464) ⟨rfl, by decide, by decide, by decide +kernel⟩ ⟨(Nat.le_of_ble_eq_true rfl), (Nat.le_of_ble_eq_true rfl)⟩ (hT.o20 (hT.k t_this (by decide))) rfl rfl hl.1 rfl (Nat.le_of_ble_eq_true rfl) dX6_step_3 zroom.rf (fun x1 s2 H locs hφ hEs2 hT => ?_)
  obtain ⟨f3, f4⟩ := hφ
  have K5 : zI s2 this 7 = zI σ0 this 7 := hT.eI t_this (by decide) rfl rfl
  have K5n : (zI s2 this 7).toInt = (zI σ0 this 7).toInt := by rw [K5]
  have J6 : zJ s2 rW = zJ σ0 rW := funext fun k => hT.eJ trW (by decide) rfl rfl
  have J6n : (zJ s2 (kR κ this 1) 4).toInt = (zJ σ0 rW 4).toInt := by rw [erW, J6]
  have P7 : zI s2 rP = zI σ0 rP := funext fun k => hT.eI trP (by decide) rfl rfl
  try simp only [erW, erP, ix_0, ix_1, ix_2, ix_3, ix_4, ix_5, ix_6, ix_7, ix_8, ix_9, K5, J6, P7] at f3
  refine lv_if_ne (tgt := 13) hx hb dX6_step_6 (by decide) (fun c9 => ?_) (fun c9 => ?_)
  · have c1 := gi_ne c9
    refine lv_iload_n hx hb dX6_step_13 rfl (lv_at hl 2 rfl) ?_
    refine lv_i2l hx hb dX6_step_14 rfl ?_
    refine g_i2l (fun t8 ht8 => ?_)
    refine lv_lconst (v := 0) hx hb dX6_step_15 (by decide) ?_
    refine lv_ldc2 hx hb hown (hg _ k1444) dX6_step_16 ?_
    have hTo := hT
    refine tSi (n := 3) (As := [.long t8, .long 0, .long 5]) (rest := [.ref this]) hx hb hml hown hg hT hK hX (X6_in l κ s2 t8 0 5   ) sub_fE_gR (mwS k1317 k1318 k92 k1319) ⟨rfl, by decide, by decide, by decide +kernel⟩ ⟨(Nat.le_of_ble_eq_true rfl), (Nat.le_of_ble_eq_true rfl)⟩ rfl hl.1 rfl (Nat.le_of_ble_eq_true rfl) dX6_step_19 zroom.rf (fun x9 s10 H locs hφ hEs10 hT => ?_)
    obtain ⟨f11, f12⟩ := hφ
    have K13 : zI s10 this 7 = zI σ0 this 7 := hT.eI t_this (by decide) rfl rfl
    have K13n : (zI s10 this 7).toInt = (zI σ0 this 7).toInt := by rw [K13]
    have J14 : zJ s10 rW = zJ σ0 rW := funext fun k => hT.eJ trW (by decide) rfl rfl
    have J14n : (zJ s10 (kR κ this 1) 4).toInt = (zJ σ0 rW 4).toInt := by rw [erW, J14]
    have P15 : zI s10 rP = zI σ0 rP := funext fun k => hT.eI trP (by decide) rfl rfl
    try simp only [erW, erP, ix_0, ix_1, ix_2, ix_3, ix_4, ix_5, ix_6, ix_7, ix_8, ix_9, K5, J6, P7, K13, J14, P15] at f11
    refine lv_if_eq (tgt := 29) hx hb dX6_step_22 (by decide) (fun c9 => ?_) (fun c9 => ?_)
    · have c2 := gi_eq c9
      refine lv_iconst (v := 2) hx hb dX6_step_29 (by decide) ?_
      have hTo := hT
      refine pf20_0 hx hb hg hown hK hT (hT.k t_this (by decide)) rfl (hg _ k1219) dX6_step_30 (fun H locs s16 hus16 hT => ?_)
      have e17 : zI s16 this 0 = 2 := zput_at hus16
      refine lv_aload_n hx hb dX6_step_33 rfl (lv_at hl 0 rfl) ?_
      refine va_get (D := κ.1) (ci := 6) (v := .int (zI s16 this 0)) (C := RX6) (T := TX6) (N := 27) hx hb hg inX6 hown hK (hT.o20 (hT.k t_this (by decide))).one 0 rfl rfl 0 (by decide) (hg _ k1219) (fun _ h9 => h9) rfl dX6_step_34 ?_
      rw [e17]
      refine lv_if_le (tgt := 44) hx hb dX6_step_37 (by decide) (fun c9 => absurd c9 (by decide)) (fun _ => ?_)
      refine lv_lconst (v := 0) hx hb dX6_step_40 (by decide) ?_
      refine lv_goto (tgt := 50) hx hb dX6_step_41 (by decide) ?_
      subst hQ9
      exact t_l hx hb hr hlocks hT trivial dX6_step_50
    · have c3 := gi_ne c9
      refine lv_iconst (v := 0) hx hb dX6_step_25 (by decide) ?_
      refine lv_goto (tgt := 30) hx hb dX6_step_26 (by decide) ?_
      have hTo := hT
      refine pf20_0 hx hb hg hown hK hT (hT.k t_this (by decide)) rfl (hg _ k1219) dX6_step_30 (fun H locs s18 hus18 hT => ?_)
      have e19 : zI s18 this 0 = 0 := zput_at hus18
      refine lv_aload_n hx hb dX6_step_33 rfl (lv_at hl 0 rfl) ?_
      refine va_get (D := κ.1) (ci := 6) (v := .int (zI s18 this 0)) (C := RX6) (T := TX6) (N := 27) hx hb hg inX6 hown hK (hT.o20 (hT.k t_this (by decide))).one 0 rfl rfl 0 (by decide) (hg _ k1219) (fun _ h9 => h9) rfl dX6_step_34 ?_
      rw [e19]
      refine lv_if_le (tgt := 44) hx hb dX6_step_37 (by decide) (fun _ => ?_) (fun c9 => absurd (by decide) c9)
      refine lv_aload_n hx hb dX6_step_44 rfl (lv_at hl 0 rfl) ?_
      refine lv_iload_n hx hb dX6_step_45 rfl (lv_at hl 1 rfl) ?_
      refine lv_iload_n hx hb dX6_step_46 rfl (lv_at hl 2 rfl) ?_
      have K20 : zI s18 this 7 = zI σ0 this 7 := hT.eI t_this (by decide) rfl rfl
      have K20n : (zI s18 this 7).toInt = (zI σ0 this 7).toInt := by rw [K20]
      have J21 : zJ s18 rW = zJ σ0 rW := funext fun k => hT.eJ trW (by decide) rfl rfl
      have J21n : (zJ s18 (kR κ this 1) 4).toInt = (zJ σ0 rW 4).toInt := by rw [erW, J21]
      have P22 : zI s18 rP = zI σ0 rP := funext fun k => hT.eI trP (by decide) rfl rfl
      have hTo := hT
      refine tVl (n := 2) (As := [.int i, .int x]) (rest := []) hx hb hml hown hg hT hK hX (X6_of l κ s18 this i x  (hT.k t_this (by decide)) (by omega) (by omega) (by omega) (by omega)) sub_fE_gR (mwV k1424 k1426 k54 k92 k1427) ⟨rfl, by decide, by decide, by decide +kernel⟩ ⟨(Nat.le_of_ble_eq_true rfl), (Nat.le_of_ble_eq_true rfl)⟩ (hT.o20 (hT.k t_this (by decide))) rfl rfl hl.1 rfl (Nat.le_of_ble_eq_true rfl) dX6_step_47 zroom.rf (fun x23 s24 H locs hφ hEs24 hT => ?_)
      have e19 : zI s24 this 0 = 0 := ((hTo.k t_this (by decide)).eI hEs24 (by decide) rfl).trans e19
      have f25 := hφ
      have K26 : zI s24 this 7 = zI σ0 this 7 := hT.eI t_this (by decide) rfl rfl
      have K26n : (zI s24 this 7).toInt = (zI σ0 this 7).toInt := by rw [K26]
      have J27 : zJ s24 rW = zJ σ0 rW := funext fun k => hT.eJ trW (by decide) rfl rfl
      have J27n : (zJ s24 (kR κ this 1) 4).toInt = (zJ σ0 rW 4).toInt := by rw [erW, J27]
      have P28 : zI s24 rP = zI σ0 rP := funext fun k => hT.eI trP (by decide) rfl rfl
      try simp only [erW, erP, ix_0, ix_1, ix_2, ix_3, ix_4, ix_5, ix_6, ix_7, ix_8, ix_9, K20, J21, P22, K26, J27, P28] at f25
      subst hQ9
      exact t_l hx hb hr hlocks hT trivial dX6_step_50
  · have c4 := gi_eq c9
    refine lv_iconst (v := 1) hx hb dX6_step_9 (by decide) ?_
    refine lv_goto (tgt := 30) hx hb dX6_step_10 (by decide) ?_
    have hTo := hT
    refine pf20_0 hx hb hg hown hK hT (hT.k t_this (by decide)) rfl (hg _ k1219) dX6_step_30 (fun H locs s29 hus29 hT => ?_)
    have e30 : zI s29 this 0 = 1 := zput_at hus29
    refine lv_aload_n hx hb dX6_step_33 rfl (lv_at hl 0 rfl) ?_
    refine va_get (D := κ.1) (ci := 6) (v := .int (zI s29 this 0)) (C := RX6) (T := TX6) (N := 27) hx hb hg inX6 hown hK (hT.o20 (hT.k t_this (by decide))).one 0 rfl rfl 0 (by decide) (hg _ k1219) (fun _ h9 => h9) rfl dX6_step_34 ?_
    rw [e30]
    refine lv_if_le (tgt := 44) hx hb dX6_step_37 (by decide) (fun c9 => absurd c9 (by decide)) (fun _ => ?_)
    refine lv_lconst (v := 0) hx hb dX6_step_40 (by decide) ?_
    refine lv_goto (tgt := 50) hx hb dX6_step_41 (by decide) ?_
    subst hQ9
    exact t_l hx hb hr hlocks hT trivial dX6_step_50

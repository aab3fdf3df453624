/-! The reference over any state: errors, thresholds -/
theorem sub_fE_gWb : ∀ t k, gWb t k = false → fE t k = false := by
  intro t k h
  simp [fE, gWb] at h ⊢ <;> omega
theorem sub_fE_gZb : ∀ t k, gZb t k = false → fE t k = false := by
  intro t k h
  simp [fE, gZb] at h ⊢ <;> omega
theorem sub_gA_gYb : ∀ t k, gYb t k = false → gA t k = false := by
  intro t k h
  simp [gA, gYb] at h ⊢ <;> omega
theorem sub_gA_gZb : ∀ t k, gZb t k = false → gA t k = false := by
  intro t k h
  simp [gA, gZb] at h ⊢ <;> omega
theorem sub_gR_gZb : ∀ t k, gZb t k = false → gR t k = false := by
  intro t k h
  simp [gR, gZb] at h ⊢ <;> omega
theorem sub_gW_gWb : ∀ t k, gWb t k = false → gW t k = false := by
  intro t k h
  simp [gW, gWb] at h ⊢ <;> omega
theorem sub_gW_gYb : ∀ t k, gYb t k = false → gW t k = false := by
  intro t k h
  simp [gW, gYb] at h ⊢ <;> omega
theorem sub_gWb_gYb : ∀ t k, gYb t k = false → gWb t k = false := by
  intro t k h
  simp [gWb, gYb] at h ⊢ <;> omega
theorem sub_gWb_gZb : ∀ t k, gZb t k = false → gWb t k = false := by
  intro t k h
  simp [gWb, gZb] at h ⊢ <;> omega
theorem sub_gYb_gZb : ∀ t k, gZb t k = false → gYb t k = false := by
  intro t k h
  simp [gYb, gZb] at h ⊢ <;> omega
theorem k35 : Cond.selects RX6 yX6_anew yX6_anew ∈ GW := gm 35 (by decide +kernel) (by decide +kernel)
theorem k76 : Cond.selects RX6 yX6_inverts yX6_inverts ∈ GW := gm 76 (by decide +kernel) (by decide +kernel)
theorem k78 : Cond.selects RX6 yX6_puts yX6_puts ∈ GW := gm 78 (by decide +kernel) (by decide +kernel)
theorem k79 : Cond.selects RX6 yX6_errorOf yX6_errorOf ∈ GW := gm 79 (by decide +kernel) (by decide +kernel)
theorem k80 : Cond.selects RX6 yX6_takesBack yX6_takesBack ∈ GW := gm 80 (by decide +kernel) (by decide +kernel)
theorem k81 : Cond.selects RX6 yX6_errorBy yX6_errorBy ∈ GW := gm 81 (by decide +kernel) (by decide +kernel)
theorem k1214 : Cond.methodLink RX6 191 yX6_anew ∈ GW := gm 1214 (by decide +kernel) (by decide +kernel)
theorem k1216 : Cond.instanceMethod yX6_anew ∈ GW := gm 1216 (by decide +kernel) (by decide +kernel)
theorem k1217 : Cond.code yX6_anew cX6_anew 4 none ∈ GW := gm 1217 (by decide +kernel) (by decide +kernel)
theorem k1616 : Cond.methodLink RX6 309 yX6_inverts ∈ GW := gm 1616 (by decide +kernel) (by decide +kernel)
theorem k1618 : Cond.instanceMethod yX6_inverts ∈ GW := gm 1618 (by decide +kernel) (by decide +kernel)
theorem k1619 : Cond.code yX6_inverts cX6_inverts 11 none ∈ GW := gm 1619 (by decide +kernel) (by decide +kernel)
theorem k1646 : Cond.methodLink RX6 323 yX6_puts ∈ GW := gm 1646 (by decide +kernel) (by decide +kernel)
theorem k1648 : Cond.instanceMethod yX6_puts ∈ GW := gm 1648 (by decide +kernel) (by decide +kernel)
theorem k1649 : Cond.code yX6_puts cX6_puts 2 none ∈ GW := gm 1649 (by decide +kernel) (by decide +kernel)
theorem k1650 : Cond.methodLink RX6 326 yX6_errorOf ∈ GW := gm 1650 (by decide +kernel) (by decide +kernel)
theorem k1652 : Cond.instanceMethod yX6_errorOf ∈ GW := gm 1652 (by decide +kernel) (by decide +kernel)
theorem k1653 : Cond.code yX6_errorOf cX6_errorOf 7 (some .long) ∈ GW := gm 1653 (by decide +kernel) (by decide +kernel)
theorem k1654 : Cond.methodLink RX6 320 yX6_takesBack ∈ GW := gm 1654 (by decide +kernel) (by decide +kernel)
theorem k1656 : Cond.instanceMethod yX6_takesBack ∈ GW := gm 1656 (by decide +kernel) (by decide +kernel)
theorem k1657 : Cond.code yX6_takesBack cX6_takesBack 2 none ∈ GW := gm 1657 (by decide +kernel) (by decide +kernel)
theorem k1662 : Cond.methodLink RX6 329 yX6_errorBy ∈ GW := gm 1662 (by decide +kernel) (by decide +kernel)
theorem k1664 : Cond.instanceMethod yX6_errorBy ∈ GW := gm 1664 (by decide +kernel) (by decide +kernel)
theorem k1665 : Cond.code yX6_errorBy cX6_errorBy 3 (some .long) ∈ GW := gm 1665 (by decide +kernel) (by decide +kernel)
theorem dX6_bestThreshold_0 : decode cX6_bestThreshold 0 = .ok (.aload_n 0, 1) := by decide +kernel
theorem dX6_bestThreshold_1 : decode cX6_bestThreshold 1 = .ok (.iload_n 1, 1) := by decide +kernel
theorem dX6_bestThreshold_2 : decode cX6_bestThreshold 2 = .ok (.i2l, 1) := by decide +kernel
theorem dX6_bestThreshold_3 : decode cX6_bestThreshold 3 = .ok (.lconst 0, 1) := by decide +kernel
theorem dX6_bestThreshold_4 : decode cX6_bestThreshold 4 = .ok (.ldc2_w 314, 3) := by decide +kernel
theorem dX6_bestThreshold_7 : decode cX6_bestThreshold 7 = .ok (.invokestatic 84, 3) := by decide +kernel
theorem dX6_bestThreshold_10 : decode cX6_bestThreshold 10 = .ok (.ifCond .eq 7, 3) := by decide +kernel
theorem dX6_bestThreshold_13 : decode cX6_bestThreshold 13 = .ok (.iconst 0, 1) := by decide +kernel
theorem dX6_bestThreshold_14 : decode cX6_bestThreshold 14 = .ok (.goto 4, 3) := by decide +kernel
theorem dX6_bestThreshold_17 : decode cX6_bestThreshold 17 = .ok (.iconst 1, 1) := by decide +kernel
theorem dX6_bestThreshold_18 : decode cX6_bestThreshold 18 = .ok (.putfield 64, 3) := by decide +kernel
theorem dX6_bestThreshold_21 : decode cX6_bestThreshold 21 = .ok (.aload_n 0, 1) := by decide +kernel
theorem dX6_bestThreshold_22 : decode cX6_bestThreshold 22 = .ok (.getfield 64, 3) := by decide +kernel
theorem dX6_bestThreshold_25 : decode cX6_bestThreshold 25 = .ok (.ifCond .le 5, 3) := by decide +kernel
theorem dX6_bestThreshold_28 : decode cX6_bestThreshold 28 = .ok (.iconst 0, 1) := by decide +kernel
theorem dX6_bestThreshold_29 : decode cX6_bestThreshold 29 = .ok (.ireturn, 1) := by decide +kernel
theorem dX6_bestThreshold_30 : decode cX6_bestThreshold 30 = .ok (.sipush 1000, 3) := by decide +kernel
theorem dX6_bestThreshold_33 : decode cX6_bestThreshold 33 = .ok (.istore_n 2, 1) := by decide +kernel
theorem dX6_bestThreshold_34 : decode cX6_bestThreshold 34 = .ok (.iload_n 2, 1) := by decide +kernel
theorem dX6_bestThreshold_35 : decode cX6_bestThreshold 35 = .ok (.ifCond .lt 21, 3) := by decide +kernel
theorem dX6_bestThreshold_38 : decode cX6_bestThreshold 38 = .ok (.aload_n 0, 1) := by decide +kernel
theorem dX6_bestThreshold_39 : decode cX6_bestThreshold 39 = .ok (.iload_n 2, 1) := by decide +kernel
theorem dX6_bestThreshold_40 : decode cX6_bestThreshold 40 = .ok (.iconst 0, 1) := by decide +kernel
theorem dX6_bestThreshold_41 : decode cX6_bestThreshold 41 = .ok (.invokevirtual 329, 3) := by decide +kernel
theorem dX6_bestThreshold_44 : decode cX6_bestThreshold 44 = .ok (.iload_n 1, 1) := by decide +kernel
theorem dX6_bestThreshold_45 : decode cX6_bestThreshold 45 = .ok (.i2l, 1) := by decide +kernel
theorem dX6_bestThreshold_46 : decode cX6_bestThreshold 46 = .ok (.lcmp, 1) := by decide +kernel
theorem dX6_bestThreshold_47 : decode cX6_bestThreshold 47 = .ok (.ifCond .le 9, 3) := by decide +kernel
theorem dX6_bestThreshold_50 : decode cX6_bestThreshold 50 = .ok (.iinc 2 (-1), 3) := by decide +kernel
theorem dX6_bestThreshold_53 : decode cX6_bestThreshold 53 = .ok (.goto (-19), 3) := by decide +kernel
theorem dX6_bestThreshold_56 : decode cX6_bestThreshold 56 = .ok (.iload_n 2, 1) := by decide +kernel
theorem dX6_bestThreshold_57 : decode cX6_bestThreshold 57 = .ok (.ifCond .ge 11, 3) := by decide +kernel
theorem dX6_bestThreshold_60 : decode cX6_bestThreshold 60 = .ok (.aload_n 0, 1) := by decide +kernel
theorem dX6_bestThreshold_61 : decode cX6_bestThreshold 61 = .ok (.iconst 2, 1) := by decide +kernel
theorem dX6_bestThreshold_62 : decode cX6_bestThreshold 62 = .ok (.invokevirtual 73, 3) := by decide +kernel
theorem dX6_bestThreshold_65 : decode cX6_bestThreshold 65 = .ok (.goto 4, 3) := by decide +kernel
theorem dX6_bestThreshold_68 : decode cX6_bestThreshold 68 = .ok (.iload_n 2, 1) := by decide +kernel
theorem dX6_bestThreshold_69 : decode cX6_bestThreshold 69 = .ok (.ireturn, 1) := by decide +kernel
theorem dX6_error_0 : decode cX6_error 0 = .ok (.aload_n 0, 1) := by decide +kernel
theorem dX6_error_1 : decode cX6_error 1 = .ok (.iload_n 1, 1) := by decide +kernel
theorem dX6_error_2 : decode cX6_error 2 = .ok (.i2l, 1) := by decide +kernel
theorem dX6_error_3 : decode cX6_error 3 = .ok (.lconst 0, 1) := by decide +kernel
theorem dX6_error_4 : decode cX6_error 4 = .ok (.ldc2_w 246, 3) := by decide +kernel
theorem dX6_error_7 : decode cX6_error 7 = .ok (.invokestatic 84, 3) := by decide +kernel
theorem dX6_error_10 : decode cX6_error 10 = .ok (.ifCond .eq 7, 3) := by decide +kernel
theorem dX6_error_13 : decode cX6_error 13 = .ok (.iconst 0, 1) := by decide +kernel
theorem dX6_error_14 : decode cX6_error 14 = .ok (.goto 4, 3) := by decide +kernel
theorem dX6_error_17 : decode cX6_error 17 = .ok (.iconst 1, 1) := by decide +kernel
theorem dX6_error_18 : decode cX6_error 18 = .ok (.putfield 64, 3) := by decide +kernel
theorem dX6_error_21 : decode cX6_error 21 = .ok (.aload_n 0, 1) := by decide +kernel
theorem dX6_error_22 : decode cX6_error 22 = .ok (.getfield 64, 3) := by decide +kernel
theorem dX6_error_25 : decode cX6_error 25 = .ok (.ifCond .le 5, 3) := by decide +kernel
theorem dX6_error_28 : decode cX6_error 28 = .ok (.lconst 0, 1) := by decide +kernel
theorem dX6_error_29 : decode cX6_error 29 = .ok (.lreturn, 1) := by decide +kernel
theorem dX6_error_30 : decode cX6_error 30 = .ok (.aload_n 0, 1) := by decide +kernel
theorem dX6_error_31 : decode cX6_error 31 = .ok (.invokevirtual 323, 3) := by decide +kernel
theorem dX6_error_34 : decode cX6_error 34 = .ok (.aload_n 0, 1) := by decide +kernel
theorem dX6_error_35 : decode cX6_error 35 = .ok (.iload_n 1, 1) := by decide +kernel
theorem dX6_error_36 : decode cX6_error 36 = .ok (.invokevirtual 326, 3) := by decide +kernel
theorem dX6_error_39 : decode cX6_error 39 = .ok (.lreturn, 1) := by decide +kernel
theorem dX6_errorBy_0 : decode cX6_errorBy 0 = .ok (.aload_n 0, 1) := by decide +kernel
theorem dX6_errorBy_1 : decode cX6_errorBy 1 = .ok (.invokevirtual 323, 3) := by decide +kernel
theorem dX6_errorBy_4 : decode cX6_errorBy 4 = .ok (.aload_n 0, 1) := by decide +kernel
theorem dX6_errorBy_5 : decode cX6_errorBy 5 = .ok (.iload_n 1, 1) := by decide +kernel
theorem dX6_errorBy_6 : decode cX6_errorBy 6 = .ok (.iload_n 2, 1) := by decide +kernel
theorem dX6_errorBy_7 : decode cX6_errorBy 7 = .ok (.invokevirtual 316, 3) := by decide +kernel
theorem dX6_errorBy_10 : decode cX6_errorBy 10 = .ok (.aload_n 0, 1) := by decide +kernel
theorem dX6_errorBy_11 : decode cX6_errorBy 11 = .ok (.iconst 0, 1) := by decide +kernel
theorem dX6_errorBy_12 : decode cX6_errorBy 12 = .ok (.invokevirtual 326, 3) := by decide +kernel
theorem dX6_errorBy_15 : decode cX6_errorBy 15 = .ok (.lreturn, 1) := by decide +kernel
theorem dX6_errorOf_0 : decode cX6_errorOf 0 = .ok (.aload_n 0, 1) := by decide +kernel
theorem dX6_errorOf_1 : decode cX6_errorOf 1 = .ok (.invokevirtual 199, 3) := by decide +kernel
theorem dX6_errorOf_4 : decode cX6_errorOf 4 = .ok (.ifCond .le 10, 3) := by decide +kernel
theorem dX6_errorOf_7 : decode cX6_errorOf 7 = .ok (.aload_n 0, 1) := by decide +kernel
theorem dX6_errorOf_8 : decode cX6_errorOf 8 = .ok (.invokevirtual 309, 3) := by decide +kernel
theorem dX6_errorOf_11 : decode cX6_errorOf 11 = .ok (.goto (-11), 3) := by decide +kernel
theorem dX6_errorOf_14 : decode cX6_errorOf 14 = .ok (.lconst 0, 1) := by decide +kernel
theorem dX6_errorOf_15 : decode cX6_errorOf 15 = .ok (.lstore_n 2, 1) := by decide +kernel
theorem dX6_errorOf_16 : decode cX6_errorOf 16 = .ok (.iconst 0, 1) := by decide +kernel
theorem dX6_errorOf_17 : decode cX6_errorOf 17 = .ok (.istore 4, 2) := by decide +kernel
theorem dX6_errorOf_19 : decode cX6_errorOf 19 = .ok (.iload 4, 2) := by decide +kernel
theorem dX6_errorOf_21 : decode cX6_errorOf 21 = .ok (.aload_n 0, 1) := by decide +kernel
theorem dX6_errorOf_22 : decode cX6_errorOf 22 = .ok (.getfield 185, 3) := by decide +kernel
theorem dX6_errorOf_25 : decode cX6_errorOf 25 = .ok (.if_icmp .ge 79, 3) := by decide +kernel
theorem dX6_errorOf_28 : decode cX6_errorOf 28 = .ok (.aload_n 0, 1) := by decide +kernel
theorem dX6_errorOf_29 : decode cX6_errorOf 29 = .ok (.getfield 7, 3) := by decide +kernel
theorem dX6_errorOf_32 : decode cX6_errorOf 32 = .ok (.iconst 5, 1) := by decide +kernel
theorem dX6_errorOf_33 : decode cX6_errorOf 33 = .ok (.iload 4, 2) := by decide +kernel
theorem dX6_errorOf_35 : decode cX6_errorOf 35 = .ok (.iadd, 1) := by decide +kernel
theorem dX6_errorOf_36 : decode cX6_errorOf 36 = .ok (.laload, 1) := by decide +kernel
theorem dX6_errorOf_37 : decode cX6_errorOf 37 = .ok (.aload_n 0, 1) := by decide +kernel
theorem dX6_errorOf_38 : decode cX6_errorOf 38 = .ok (.getfield 27, 3) := by decide +kernel
theorem dX6_errorOf_41 : decode cX6_errorOf 41 = .ok (.iload 4, 2) := by decide +kernel
theorem dX6_errorOf_43 : decode cX6_errorOf 43 = .ok (.iaload, 1) := by decide +kernel
theorem dX6_errorOf_44 : decode cX6_errorOf 44 = .ok (.i2l, 1) := by decide +kernel
theorem dX6_errorOf_45 : decode cX6_errorOf 45 = .ok (.lsub, 1) := by decide +kernel
theorem dX6_errorOf_46 : decode cX6_errorOf 46 = .ok (.invokestatic 239, 3) := by decide +kernel
theorem dX6_errorOf_49 : decode cX6_errorOf 49 = .ok (.lstore 5, 2) := by decide +kernel
theorem dX6_errorOf_51 : decode cX6_errorOf 51 = .ok (.iload_n 1, 1) := by decide +kernel
theorem dX6_errorOf_52 : decode cX6_errorOf 52 = .ok (.ifCond .ne 19, 3) := by decide +kernel
theorem dX6_errorOf_55 : decode cX6_errorOf 55 = .ok (.lload 5, 2) := by decide +kernel
theorem dX6_errorOf_57 : decode cX6_errorOf 57 = .ok (.lload_n 2, 1) := by decide +kernel
theorem dX6_errorOf_58 : decode cX6_errorOf 58 = .ok (.lcmp, 1) := by decide +kernel
theorem dX6_errorOf_59 : decode cX6_errorOf 59 = .ok (.ifCond .le 8, 3) := by decide +kernel
theorem dX6_errorOf_62 : decode cX6_errorOf 62 = .ok (.lload 5, 2) := by decide +kernel
theorem dX6_errorOf_64 : decode cX6_errorOf 64 = .ok (.goto 33, 3) := by decide +kernel
theorem dX6_errorOf_67 : decode cX6_errorOf 67 = .ok (.lload_n 2, 1) := by decide +kernel
theorem dX6_errorOf_68 : decode cX6_errorOf 68 = .ok (.goto 29, 3) := by decide +kernel
theorem dX6_errorOf_71 : decode cX6_errorOf 71 = .ok (.iload_n 1, 1) := by decide +kernel
theorem dX6_errorOf_72 : decode cX6_errorOf 72 = .ok (.iconst 1, 1) := by decide +kernel
theorem dX6_errorOf_73 : decode cX6_errorOf 73 = .ok (.if_icmp .ne 10, 3) := by decide +kernel
theorem dX6_errorOf_76 : decode cX6_errorOf 76 = .ok (.lload_n 2, 1) := by decide +kernel
theorem dX6_errorOf_77 : decode cX6_errorOf 77 = .ok (.lload 5, 2) := by decide +kernel
theorem dX6_errorOf_79 : decode cX6_errorOf 79 = .ok (.ladd, 1) := by decide +kernel
theorem dX6_errorOf_80 : decode cX6_errorOf 80 = .ok (.goto 17, 3) := by decide +kernel
theorem dX6_errorOf_83 : decode cX6_errorOf 83 = .ok (.lload 5, 2) := by decide +kernel
theorem dX6_errorOf_85 : decode cX6_errorOf 85 = .ok (.lconst 0, 1) := by decide +kernel
theorem dX6_errorOf_86 : decode cX6_errorOf 86 = .ok (.lcmp, 1) := by decide +kernel
theorem dX6_errorOf_87 : decode cX6_errorOf 87 = .ok (.ifCond .le 9, 3) := by decide +kernel
theorem dX6_errorOf_90 : decode cX6_errorOf 90 = .ok (.lload_n 2, 1) := by decide +kernel
theorem dX6_errorOf_91 : decode cX6_errorOf 91 = .ok (.lconst 1, 1) := by decide +kernel
theorem dX6_errorOf_92 : decode cX6_errorOf 92 = .ok (.ladd, 1) := by decide +kernel
theorem dX6_errorOf_93 : decode cX6_errorOf 93 = .ok (.goto 4, 3) := by decide +kernel
theorem dX6_errorOf_96 : decode cX6_errorOf 96 = .ok (.lload_n 2, 1) := by decide +kernel
theorem dX6_errorOf_97 : decode cX6_errorOf 97 = .ok (.lstore_n 2, 1) := by decide +kernel
theorem dX6_errorOf_98 : decode cX6_errorOf 98 = .ok (.iinc 4 1, 3) := by decide +kernel
theorem dX6_errorOf_101 : decode cX6_errorOf 101 = .ok (.goto (-82), 3) := by decide +kernel
theorem dX6_errorOf_104 : decode cX6_errorOf 104 = .ok (.aload_n 0, 1) := by decide +kernel
theorem dX6_errorOf_105 : decode cX6_errorOf 105 = .ok (.invokevirtual 320, 3) := by decide +kernel
theorem dX6_errorOf_108 : decode cX6_errorOf 108 = .ok (.lload_n 2, 1) := by decide +kernel
theorem dX6_errorOf_109 : decode cX6_errorOf 109 = .ok (.lreturn, 1) := by decide +kernel
theorem dX6_errorWith_0 : decode cX6_errorWith 0 = .ok (.aload_n 0, 1) := by decide +kernel
theorem dX6_errorWith_1 : decode cX6_errorWith 1 = .ok (.iload_n 1, 1) := by decide +kernel
theorem dX6_errorWith_2 : decode cX6_errorWith 2 = .ok (.i2l, 1) := by decide +kernel
theorem dX6_errorWith_3 : decode cX6_errorWith 3 = .ok (.lconst 0, 1) := by decide +kernel
theorem dX6_errorWith_4 : decode cX6_errorWith 4 = .ok (.ldc2_w 292, 3) := by decide +kernel
theorem dX6_errorWith_7 : decode cX6_errorWith 7 = .ok (.invokestatic 84, 3) := by decide +kernel
theorem dX6_errorWith_10 : decode cX6_errorWith 10 = .ok (.ifCond .eq 7, 3) := by decide +kernel
theorem dX6_errorWith_13 : decode cX6_errorWith 13 = .ok (.iconst 0, 1) := by decide +kernel
theorem dX6_errorWith_14 : decode cX6_errorWith 14 = .ok (.goto 4, 3) := by decide +kernel
theorem dX6_errorWith_17 : decode cX6_errorWith 17 = .ok (.iconst 1, 1) := by decide +kernel
theorem dX6_errorWith_18 : decode cX6_errorWith 18 = .ok (.putfield 64, 3) := by decide +kernel
theorem dX6_errorWith_21 : decode cX6_errorWith 21 = .ok (.aload_n 0, 1) := by decide +kernel
theorem dX6_errorWith_22 : decode cX6_errorWith 22 = .ok (.getfield 64, 3) := by decide +kernel
theorem dX6_errorWith_25 : decode cX6_errorWith 25 = .ok (.ifCond .le 7, 3) := by decide +kernel
theorem dX6_errorWith_28 : decode cX6_errorWith 28 = .ok (.lconst 0, 1) := by decide +kernel
theorem dX6_errorWith_29 : decode cX6_errorWith 29 = .ok (.goto 9, 3) := by decide +kernel
theorem dX6_errorWith_32 : decode cX6_errorWith 32 = .ok (.aload_n 0, 1) := by decide +kernel
theorem dX6_errorWith_33 : decode cX6_errorWith 33 = .ok (.iload_n 1, 1) := by decide +kernel
theorem dX6_errorWith_34 : decode cX6_errorWith 34 = .ok (.iload_n 2, 1) := by decide +kernel
theorem dX6_errorWith_35 : decode cX6_errorWith 35 = .ok (.invokevirtual 329, 3) := by decide +kernel
theorem dX6_errorWith_38 : decode cX6_errorWith 38 = .ok (.lreturn, 1) := by decide +kernel
theorem dX6_inverse_0 : decode cX6_inverse 0 = .ok (.aload_n 0, 1) := by decide +kernel
theorem dX6_inverse_1 : decode cX6_inverse 1 = .ok (.iload_n 1, 1) := by decide +kernel
theorem dX6_inverse_2 : decode cX6_inverse 2 = .ok (.i2l, 1) := by decide +kernel
theorem dX6_inverse_3 : decode cX6_inverse 3 = .ok (.lconst 1, 1) := by decide +kernel
theorem dX6_inverse_4 : decode cX6_inverse 4 = .ok (.ldc2_w 304, 3) := by decide +kernel
theorem dX6_inverse_7 : decode cX6_inverse 7 = .ok (.invokestatic 84, 3) := by decide +kernel
theorem dX6_inverse_10 : decode cX6_inverse 10 = .ok (.ifCond .eq 7, 3) := by decide +kernel
theorem dX6_inverse_13 : decode cX6_inverse 13 = .ok (.iconst 0, 1) := by decide +kernel
theorem dX6_inverse_14 : decode cX6_inverse 14 = .ok (.goto 4, 3) := by decide +kernel
theorem dX6_inverse_17 : decode cX6_inverse 17 = .ok (.iconst 1, 1) := by decide +kernel
theorem dX6_inverse_18 : decode cX6_inverse 18 = .ok (.putfield 64, 3) := by decide +kernel
theorem dX6_inverse_21 : decode cX6_inverse 21 = .ok (.aload_n 0, 1) := by decide +kernel
theorem dX6_inverse_22 : decode cX6_inverse 22 = .ok (.getfield 64, 3) := by decide +kernel
theorem dX6_inverse_25 : decode cX6_inverse 25 = .ok (.ifCond .le 5, 3) := by decide +kernel
theorem dX6_inverse_28 : decode cX6_inverse 28 = .ok (.iconst 0, 1) := by decide +kernel
theorem dX6_inverse_29 : decode cX6_inverse 29 = .ok (.ireturn, 1) := by decide +kernel
theorem dX6_inverse_30 : decode cX6_inverse 30 = .ok (.aload_n 0, 1) := by decide +kernel
theorem dX6_inverse_31 : decode cX6_inverse 31 = .ok (.invokevirtual 199, 3) := by decide +kernel
theorem dX6_inverse_34 : decode cX6_inverse 34 = .ok (.ifCond .ne 12, 3) := by decide +kernel
theorem dX6_inverse_37 : decode cX6_inverse 37 = .ok (.aload_n 0, 1) := by decide +kernel
theorem dX6_inverse_38 : decode cX6_inverse 38 = .ok (.iconst 2, 1) := by decide +kernel
theorem dX6_inverse_39 : decode cX6_inverse 39 = .ok (.iconst 2, 1) := by decide +kernel
theorem dX6_inverse_40 : decode cX6_inverse 40 = .ok (.iconst 0, 1) := by decide +kernel
theorem dX6_inverse_41 : decode cX6_inverse 41 = .ok (.iconst (-1), 1) := by decide +kernel
theorem dX6_inverse_42 : decode cX6_inverse 42 = .ok (.invokevirtual 294, 3) := by decide +kernel
theorem dX6_inverse_45 : decode cX6_inverse 45 = .ok (.ireturn, 1) := by decide +kernel
theorem dX6_inverse_46 : decode cX6_inverse 46 = .ok (.iconst 0, 1) := by decide +kernel
theorem dX6_inverse_47 : decode cX6_inverse 47 = .ok (.istore_n 2, 1) := by decide +kernel
theorem dX6_inverse_48 : decode cX6_inverse 48 = .ok (.iload_n 2, 1) := by decide +kernel
theorem dX6_inverse_49 : decode cX6_inverse 49 = .ok (.iload_n 1, 1) := by decide +kernel
theorem dX6_inverse_50 : decode cX6_inverse 50 = .ok (.if_icmp .ge 20, 3) := by decide +kernel
theorem dX6_inverse_53 : decode cX6_inverse 53 = .ok (.aload_n 0, 1) := by decide +kernel
theorem dX6_inverse_54 : decode cX6_inverse 54 = .ok (.invokevirtual 199, 3) := by decide +kernel
theorem dX6_inverse_57 : decode cX6_inverse 57 = .ok (.ifCond .le 13, 3) := by decide +kernel
theorem dX6_inverse_60 : decode cX6_inverse 60 = .ok (.aload_n 0, 1) := by decide +kernel
theorem dX6_inverse_61 : decode cX6_inverse 61 = .ok (.invokevirtual 309, 3) := by decide +kernel
theorem dX6_inverse_64 : decode cX6_inverse 64 = .ok (.iinc 2 1, 3) := by decide +kernel
theorem dX6_inverse_67 : decode cX6_inverse 67 = .ok (.goto (-19), 3) := by decide +kernel
theorem dX6_inverse_70 : decode cX6_inverse 70 = .ok (.iload_n 2, 1) := by decide +kernel
theorem dX6_inverse_71 : decode cX6_inverse 71 = .ok (.ireturn, 1) := by decide +kernel
theorem dX6_reset_0 : decode cX6_reset 0 = .ok (.aload_n 0, 1) := by decide +kernel
theorem dX6_reset_1 : decode cX6_reset 1 = .ok (.iconst 0, 1) := by decide +kernel
theorem dX6_reset_2 : decode cX6_reset 2 = .ok (.putfield 64, 3) := by decide +kernel
theorem dX6_reset_5 : decode cX6_reset 5 = .ok (.aload_n 0, 1) := by decide +kernel
theorem dX6_reset_6 : decode cX6_reset 6 = .ok (.invokevirtual 199, 3) := by decide +kernel
theorem dX6_reset_9 : decode cX6_reset 9 = .ok (.istore_n 1, 1) := by decide +kernel
theorem dX6_reset_10 : decode cX6_reset 10 = .ok (.aload_n 0, 1) := by decide +kernel
theorem dX6_reset_11 : decode cX6_reset 11 = .ok (.invokevirtual 191, 3) := by decide +kernel
theorem dX6_reset_14 : decode cX6_reset 14 = .ok (.iload_n 1, 1) := by decide +kernel
theorem dX6_reset_15 : decode cX6_reset 15 = .ok (.ireturn, 1) := by decide +kernel
set_option maxHeartbeats 4000000 in
set_option maxRecDepth 100000 in
theorem X6_reset (l : Launch) (κ : Kt) (σ0 : Gh) (this : Nat) (t_this : zk σ0 this 20) (h0 : RI κ σ0 this) : TC l yX6_reset cX6_reset 2 (some .int) 1 23 [.ref this] κ σ0 (tqi κ gX σ0 (fun (r : Int32) (τ : Gh) => (RI κ τ this))) := by
  refine TC.of gX (by decide +kernel) (Nat.le_of_ble_eq_true rfl) ?_
  intro p e s m below meth c ls hcs hK hX hT hl
  obtain ⟨hx, hb, hr, hml, hown, hg, hlocks, hin⟩ := hcs
  have hown : s.vm.findClass RX6 = some m.cls := hown
  have hl : lv_has ls 2 [(0, .ref this)] := hl
  have hT0 := hT
  have n0 : (0 : Int32).toInt = 0 := by decide
  generalize hQ9 : tQ _ _ _ _ _ _ = Q9
  obtain ⟨rW, erW⟩ : ∃ z, kR κ this 1 = z := ⟨_, rfl⟩
  have trW : zk σ0 rW 21 := by rw [← erW]; exact h0.1.2.1
  obtain ⟨rP, erP⟩ : ∃ z, kR κ this 5 = z := ⟨_, rfl⟩
  have trP : zk σ0 rP 25 := by rw [← erP]; exact h0.1.2.2.2.2
  have hB0 := h0.b
  rw [erW] at hB0
  have hW := h0.2.1
  rw [erW] at hW
  have hP := h0.2.2.1
  rw [erP] at hP
  have hrN : (rN σ0 this : Int) = (zI σ0 this 7).toInt := by unfold rN; omega
  refine lv_aload_n hx hb dX6_reset_0 rfl (lv_at hl 0 rfl) ?_
  refine lv_iconst (v := 0) hx hb dX6_reset_1 (by decide) ?_
  have hTo := hT
  refine pf20_0 hx hb hg hown hK hT (hT.k t_this (by decide)) rfl (hg _ k1219) dX6_reset_2 (fun H locs s1 hus1 hT => ?_)
  have R2 : RI κ s1 this := h0.put hus1 (hTo.k t_this (by decide)) (by decide)
  have B3 := R2.b
  rw [erW] at B3
  have K4 : zI s1 this 7 = zI σ0 this 7 := hT.eI t_this (by decide) rfl rfl
  have K4n : (zI s1 this 7).toInt = (zI σ0 this 7).toInt := by rw [K4]
  have P5 : zI s1 rP = zI σ0 rP := funext fun k => hT.eI trP (by decide) rfl rfl
  try simp only [K4, P5] at B3
  have e6 : zI s1 this 0 = 0 := zput_at hus1
  refine lv_aload_n hx hb dX6_reset_5 rfl (lv_at hl 0 rfl) ?_
  have hTo := hT
  refine tVi (n := 0) (As := []) (rest := []) hx hb hml hown hg hT hK hX (X6_steps l κ s1 this  (hT.k t_this (by decide)) R2) sub_fE_gX (mwV k1416 k1418 k52 k92 k1419) ⟨rfl, by decide, by decide, by decide +kernel⟩ ⟨(Nat.le_of_ble_eq_true rfl), (Nat.le_of_ble_eq_true rfl)⟩ (hT.o20 (hT.k t_this (by decide))) rfl rfl hl.1 rfl (Nat.le_of_ble_eq_true rfl) dX6_reset_6 zroom.rf (fun x7 s8 H locs hφ hEs8 hT => ?_)
  have e6 : zI s8 this 0 = 0 := ((hTo.k t_this (by decide)).eI hEs8 (by decide) rfl).trans e6
  have R9 : RI κ s8 this := R2.ext hEs8 ⟨rfl, rfl, fun _ => rfl, fun _ => rfl, fun _ => rfl, fun _ => rfl⟩
  have B10 := R9.b
  rw [erW] at B10
  have K11 : zI s8 this 7 = zI σ0 this 7 := hT.eI t_this (by decide) rfl rfl
  have K11n : (zI s8 this 7).toInt = (zI σ0 this 7).toInt := by rw [K11]
  have P12 : zI s8 rP = zI σ0 rP := funext fun k => hT.eI trP (by decide) rfl rfl
  try simp only [K11, P12] at B10
  have f13 := hφ
  try simp only [erW, erP, ix_0, ix_1, ix_2, ix_3, ix_4, ix_5, ix_6, ix_7, ix_8, ix_9, K4, P5, K11, P12] at f13
  refine lv_istore_n (lv' := [(1, .int x7), (0, .ref this)]) hx hb dX6_reset_9 rfl hl (by decide) rfl (fun ls hl => ?_)
  refine lv_aload_n hx hb dX6_reset_10 rfl (lv_at hl 1 rfl) ?_
  have hTo := hT
  refine tVv (n := 0) (As := []) (rest := []) hx hb hml hown hg hT hK hX (X6_anew l κ s8 this  (hT.k t_this (by decide)) R9.2.2.1 (by omega) (by omega)) sub_gW_gX (mwV k1214 k1216 k35 k92 k1217) ⟨rfl, by decide, by decide, by decide +kernel⟩ ⟨(Nat.le_of_ble_eq_true rfl), (Nat.le_of_ble_eq_true rfl)⟩ (hT.o20 (hT.k t_this (by decide))) rfl rfl hl.1 rfl (Nat.le_of_ble_eq_true rfl) dX6_reset_11 zroom.rf (fun s15 H locs hφ hEs15 hT => ?_)
  have e6 : zI s15 this 0 = 0 := ((hTo.k t_this (by decide)).eI hEs15 (by decide) rfl).trans e6
  have f17 := hφ
  have K18 : zI s15 this 7 = zI σ0 this 7 := hT.eI t_this (by decide) rfl rfl
  have K18n : (zI s15 this 7).toInt = (zI σ0 this 7).toInt := by rw [K18]
  have P19 : zI s15 rP = zI σ0 rP := funext fun k => hT.eI trP (by decide) rfl rfl
  try simp only [erW, erP, ix_0, ix_1, ix_2, ix_3, ix_4, ix_5, ix_6, ix_7, ix_8, ix_9, K11, P12, K18, P19] at f17
  have R20 : RI κ s15 this := R9.extw hEs15 ⟨rfl, rfl, fun _ => rfl, fun _ => rfl, fun _ => rfl⟩ (by first | exact f17 | (rw [erW]; exact f17))
  have B21 := R20.b
  rw [erW] at B21
  try simp only [K18, P19] at B21
  refine lv_iload_n hx hb dX6_reset_14 rfl (lv_at hl 0 rfl) ?_
  subst hQ9
  exact t_i hx hb hr hlocks hT R20 dX6_reset_15
set_option maxHeartbeats 4000000 in
set_option maxRecDepth 100000 in
theorem X6_inverse (l : Launch) (κ : Kt) (σ0 : Gh) (this : Nat) (mo : Int32) (t_this : zk σ0 this 20) (h0 : RI κ σ0 this) : TC l yX6_inverse cX6_inverse 3 (some .int) 3 80 [.ref this, .int mo] κ σ0 (tqi κ gX σ0 (fun (r : Int32) (τ : Gh) => (RI κ τ this))) := by
  refine TC.of gX (by decide +kernel) (Nat.le_of_ble_eq_true rfl) ?_
  intro p e s m below meth c ls hcs hK hX hT hl
  obtain ⟨hx, hb, hr, hml, hown, hg, hlocks, hin⟩ := hcs
  have hown : s.vm.findClass RX6 = some m.cls := hown
  have hl : lv_has ls 3 [(0, .ref this), (1, .int mo)] := hl
  have hT0 := hT
  have nm1 : ((-1) : Int32).toInt = (-1) := by decide
  have n0 : (0 : Int32).toInt = 0 := by decide
  have n1 : (1 : Int32).toInt = 1 := by decide
  have n2 : (2 : Int32).toInt = 2 := by decide
  have j1 : (1 : Int64).toInt = 1 := by decide
  have j46 : (46 : Int64).toInt = 46 := by decide
  have mo_lo := Int32.le_toInt mo
  have mo_hi := Int32.toInt_lt mo
  generalize hQ9 : tQ _ _ _ _ _ _ = Q9
  obtain ⟨rW, erW⟩ : ∃ z, kR κ this 1 = z := ⟨_, rfl⟩
  have trW : zk σ0 rW 21 := by rw [← erW]; exact h0.1.2.1
  obtain ⟨rP, erP⟩ : ∃ z, kR κ this 5 = z := ⟨_, rfl⟩
  have trP : zk σ0 rP 25 := by rw [← erP]; exact h0.1.2.2.2.2
  have hB0 := h0.b
  rw [erW] at hB0
  have hW := h0.2.1
  rw [erW] at hW
  have hP := h0.2.2.1
  rw [erP] at hP
  have hrN : (rN σ0 this : Int) = (zI σ0 this 7).toInt := by unfold rN; omega
  refine lv_aload_n hx hb dX6_inverse_0 rfl (lv_at hl 0 rfl) ?_
  refine lv_iload_n hx hb dX6_inverse_1 rfl (lv_at hl 1 rfl) ?_
  refine lv_i2l hx hb dX6_inverse_2 rfl ?_
  refine g_i2l (fun t1 ht1 => ?_)
  refine lv_lconst (v := 1) hx hb dX6_inverse_3 (by decide) ?_
  refine lv_ldc2 hx hb hown (hg _ k1587) dX6_inverse_4 ?_
  have hTo := hT
  refine tSi (n := 3) (As := [.long t1, .long 1, .long 46]) (rest := [.ref this]) hx hb hml hown hg hT hK hX (X6_in l κ σ0 t1 1 46   ) sub_fE_gX (mwS k1317 k1318 k92 k1319) ⟨rfl, by decide, by decide, by decide +kernel⟩ ⟨(Nat.le_of_ble_eq_true rfl), (Nat.le_of_ble_eq_true rfl)⟩ rfl hl.1 rfl (Nat.le_of_ble_eq_true rfl) dX6_inverse_7 zroom.rf (fun x2 s3 H locs hφ hEs3 hT => ?_)
  have R4 : RI κ s3 this := h0.ext hEs3 ⟨rfl, rfl, fun _ => rfl, fun _ => rfl, fun _ => rfl, fun _ => rfl⟩
  have B5 := R4.b
  rw [erW] at B5
  have K6 : zI s3 this 7 = zI σ0 this 7 := hT.eI t_this (by decide) rfl rfl
  have K6n : (zI s3 this 7).toInt = (zI σ0 this 7).toInt := by rw [K6]
  have P7 : zI s3 rP = zI σ0 rP := funext fun k => hT.eI trP (by decide) rfl rfl
  try simp only [K6, P7] at B5
  obtain ⟨f8, f9⟩ := hφ
  try simp only [erW, erP, ix_0, ix_1, ix_2, ix_3, ix_4, ix_5, ix_6, ix_7, ix_8, ix_9, K6, P7] at f8
  refine lv_if_eq (tgt := 17) hx hb dX6_inverse_10 (by decide) (fun c9 => ?_) (fun c9 => ?_)
  · have c1 := gi_eq c9
    refine lv_iconst (v := 1) hx hb dX6_inverse_17 (by decide) ?_
    have hTo := hT
    refine pf20_0 hx hb hg hown hK hT (hT.k t_this (by decide)) rfl (hg _ k1219) dX6_inverse_18 (fun H locs s10 hus10 hT => ?_)
    have R11 : RI κ s10 this := R4.put hus10 (hTo.k t_this (by decide)) (by decide)
    have B12 := R11.b
    rw [erW] at B12
    have K13 : zI s10 this 7 = zI σ0 this 7 := hT.eI t_this (by decide) rfl rfl
    have K13n : (zI s10 this 7).toInt = (zI σ0 this 7).toInt := by rw [K13]
    have P14 : zI s10 rP = zI σ0 rP := funext fun k => hT.eI trP (by decide) rfl rfl
    try simp only [K13, P14] at B12
    have e15 : zI s10 this 0 = 1 := zput_at hus10
    refine lv_aload_n hx hb dX6_inverse_21 rfl (lv_at hl 0 rfl) ?_
    refine va_get (D := κ.1) (ci := 6) (v := .int (zI s10 this 0)) (C := RX6) (T := TX6) (N := 27) hx hb hg inX6 hown hK (hT.o20 (hT.k t_this (by decide))).one 0 rfl rfl 0 (by decide) (hg _ k1219) (fun _ h9 => h9) rfl dX6_inverse_22 ?_
    rw [e15]
    refine lv_if_le (tgt := 30) hx hb dX6_inverse_25 (by decide) (fun c9 => absurd c9 (by decide)) (fun _ => ?_)
    refine lv_iconst (v := 0) hx hb dX6_inverse_28 (by decide) ?_
    subst hQ9
    exact t_i hx hb hr hlocks hT R11 dX6_inverse_29
  · have c2 := gi_ne c9
    refine lv_iconst (v := 0) hx hb dX6_inverse_13 (by decide) ?_
    refine lv_goto (tgt := 18) hx hb dX6_inverse_14 (by decide) ?_
    have hTo := hT
    refine pf20_0 hx hb hg hown hK hT (hT.k t_this (by decide)) rfl (hg _ k1219) dX6_inverse_18 (fun H locs s16 hus16 hT => ?_)
    have R17 : RI κ s16 this := R4.put hus16 (hTo.k t_this (by decide)) (by decide)
    have B18 := R17.b
    rw [erW] at B18
    have K19 : zI s16 this 7 = zI σ0 this 7 := hT.eI t_this (by decide) rfl rfl
    have K19n : (zI s16 this 7).toInt = (zI σ0 this 7).toInt := by rw [K19]
    have P20 : zI s16 rP = zI σ0 rP := funext fun k => hT.eI trP (by decide) rfl rfl
    try simp only [K19, P20] at B18
    have e21 : zI s16 this 0 = 0 := zput_at hus16
    refine lv_aload_n hx hb dX6_inverse_21 rfl (lv_at hl 0 rfl) ?_
    refine va_get (D := κ.1) (ci := 6) (v := .int (zI s16 this 0)) (C := RX6) (T := TX6) (N := 27) hx hb hg inX6 hown hK (hT.o20 (hT.k t_this (by decide))).one 0 rfl rfl 0 (by decide) (hg _ k1219) (fun _ h9 => h9) rfl dX6_inverse_22 ?_
    rw [e21]
    refine lv_if_le (tgt := 30) hx hb dX6_inverse_25 (by decide) (fun _ => ?_) (fun c9 => absurd (by decide) c9)
    refine lv_aload_n hx hb dX6_inverse_30 rfl (lv_at hl 0 rfl) ?_
    have hTo := hT
    refine tVi (n := 0) (As := []) (rest := []) hx hb hml hown hg hT hK hX (X6_steps l κ s16 this  (hT.k t_this (by decide)) R17) sub_fE_gX (mwV k1416 k1418 k52 k92 k1419) ⟨rfl, by decide, by decide, by decide +kernel⟩ ⟨(Nat.le_of_ble_eq_true rfl), (Nat.le_of_ble_eq_true rfl)⟩ (hT.o20 (hT.k t_this (by decide))) rfl rfl hl.1 rfl (Nat.le_of_ble_eq_true rfl) dX6_inverse_31 zroom.rf (fun x22 s23 H locs hφ hEs23 hT => ?_)
    have e21 : zI s23 this 0 = 0 := ((hTo.k t_this (by decide)).eI hEs23 (by decide) rfl).trans e21
    have R24 : RI κ s23 this := R17.ext hEs23 ⟨rfl, rfl, fun _ => rfl, fun _ => rfl, fun _ => rfl, fun _ => rfl⟩
    have B25 := R24.b
    rw [erW] at B25
    have K26 : zI s23 this 7 = zI σ0 this 7 := hT.eI t_this (by decide) rfl rfl
    have K26n : (zI s23 this 7).toInt = (zI σ0 this 7).toInt := by rw [K26]
    have P27 : zI s23 rP = zI σ0 rP := funext fun k => hT.eI trP (by decide) rfl rfl
    try simp only [K26, P27] at B25
    have f28 := hφ
    try simp only [erW, erP, ix_0, ix_1, ix_2, ix_3, ix_4, ix_5, ix_6, ix_7, ix_8, ix_9, K19, P20, K26, P27] at f28
    have EE29 : zJ s23 rW = zJ s16 rW := funext fun k => (hTo.k trW (by decide)).eJ hEs23 (by decide) rfl
    have EE29c := f28
    rw [← EE29] at EE29c
    refine lv_if_ne (tgt := 46) hx hb dX6_inverse_34 (by decide) (fun c9 => ?_) (fun c9 => ?_)
    · have c3 := gi_ne c9
      refine lv_iconst (v := 0) hx hb dX6_inverse_46 (by decide) ?_
      refine lv_istore_n (lv' := [(2, .int 0), (0, .ref this), (1, .int mo)]) hx hb dX6_inverse_47 rfl hl (by decide) rfl (fun ls hl => ?_)
      have loop48 : ∀ (n9 : Nat) (n1 : Int32) (H : Heap) (locs : List Loc) (sg : Gh) (ls : Array Slot), TS κ gX σ0 sg s H locs → (RI κ sg this) → (0 ≤ n1.toInt) → (n1.toInt ≤ mo.toInt) → lv_has ls 3 [(2, .int n1), (0, .ref this), (1, .int mo)] → (mo.toInt - n1.toInt) < n9 → tW p l e 3 80 κ s m #[.ref this, .int mo] below meth c H locs Q9 (F0 m 48 ls []) := by
        intro n9
        induction n9 with
        | zero =>
          intro n1 H locs sg ls hT RI0 q1 q2 hl hm9
          exfalso
          omega
        | succ n9 ih9 =>
          have ih48 := ih9
          clear ih9
          intro n1 H locs s30 ls hT RI0 q1 q2 hl hm9
          have B31 := RI0.b
          rw [erW] at B31
          have K32 : zI s30 this 7 = zI σ0 this 7 := hT.eI t_this (by decide) rfl rfl
          have K32n : (zI s30 this 7).toInt = (zI σ0 this 7).toInt := by rw [K32]
          have P33 : zI s30 rP = zI σ0 rP := funext fun k => hT.eI trP (by decide) rfl rfl
          try simp only [K32, P33] at B31
          refine lv_iload_n hx hb dX6_inverse_48 rfl (lv_at hl 0 rfl) ?_
          refine lv_iload_n hx hb dX6_inverse_49 rfl (lv_at hl 2 rfl) ?_
          refine lv_icmp_ge (tgt := 70) hx hb dX6_inverse_50 (by decide) (fun c9 => ?_) (fun c9 => ?_)
          · have c4 := gi_le c9
            refine lv_iload_n hx hb dX6_inverse_70 rfl (lv_at hl 0 rfl) ?_
            subst hQ9
            exact t_i hx hb hr hlocks hT RI0 dX6_inverse_71
          · have c5 := gi_nle c9
            refine lv_aload_n hx hb dX6_inverse_53 rfl (lv_at hl 1 rfl) ?_
            have hTo := hT
            refine tVi (n := 0) (As := []) (rest := []) hx hb hml hown hg hT hK hX (X6_steps l κ s30 this  (hT.k t_this (by decide)) RI0) sub_fE_gX (mwV k1416 k1418 k52 k92 k1419) ⟨rfl, by decide, by decide, by decide +kernel⟩ ⟨(Nat.le_of_ble_eq_true rfl), (Nat.le_of_ble_eq_true rfl)⟩ (hT.o20 (hT.k t_this (by decide))) rfl rfl hl.1 rfl (Nat.le_of_ble_eq_true rfl) dX6_inverse_54 zroom.rf (fun x34 s35 H locs hφ hEs35 hT => ?_)
            have R36 : RI κ s35 this := RI0.ext hEs35 ⟨rfl, rfl, fun _ => rfl, fun _ => rfl, fun _ => rfl, fun _ => rfl⟩
            have B37 := R36.b
            rw [erW] at B37
            have K38 : zI s35 this 7 = zI σ0 this 7 := hT.eI t_this (by decide) rfl rfl
            have K38n : (zI s35 this 7).toInt = (zI σ0 this 7).toInt := by rw [K38]
            have P39 : zI s35 rP = zI σ0 rP := funext fun k => hT.eI trP (by decide) rfl rfl
            try simp only [K38, P39] at B37
            have f40 := hφ
            try simp only [erW, erP, ix_0, ix_1, ix_2, ix_3, ix_4, ix_5, ix_6, ix_7, ix_8, ix_9, K32, P33, K38, P39] at f40
            have EE41 : zJ s35 rW = zJ s30 rW := funext fun k => (hTo.k trW (by decide)).eJ hEs35 (by decide) rfl
            have EE41c := f40
            rw [← EE41] at EE41c
            refine lv_if_le (tgt := 70) hx hb dX6_inverse_57 (by decide) (fun c9 => ?_) (fun c9 => ?_)
            · have c6 := gi_le c9
              refine lv_iload_n hx hb dX6_inverse_70 rfl (lv_at hl 0 rfl) ?_
              subst hQ9
              exact t_i hx hb hr hlocks hT R36 dX6_inverse_71
            · have c7 := gi_nle c9
              refine lv_aload_n hx hb dX6_inverse_60 rfl (lv_at hl 1 rfl) ?_
              have hTo := hT
              refine tVv (n := 0) (As := []) (rest := []) hx hb hml hown hg hT hK hX (X6_inverts l κ s35 this  (hT.k t_this (by decide)) R36 (by rw [erW]; omega)) sub_gW_gX (mwV k1616 k1618 k76 k92 k1619) ⟨rfl, by decide, by decide, by decide +kernel⟩ ⟨(Nat.le_of_ble_eq_true rfl), (Nat.le_of_ble_eq_true rfl)⟩ (hT.o20 (hT.k t_this (by decide))) rfl rfl hl.1 rfl (Nat.le_of_ble_eq_true rfl) dX6_inverse_61 zroom.rf (fun s43 H locs hφ hEs43 hT => ?_)
              obtain ⟨f45, f46⟩ := hφ
              have B47 := f45.b
              rw [erW] at B47
              have K48 : zI s43 this 7 = zI σ0 this 7 := hT.eI t_this (by decide) rfl rfl
              have K48n : (zI s43 this 7).toInt = (zI σ0 this 7).toInt := by rw [K48]
              have P49 : zI s43 rP = zI σ0 rP := funext fun k => hT.eI trP (by decide) rfl rfl
              try simp only [K48, P49] at B47
              try simp only [erW, erP, ix_0, ix_1, ix_2, ix_3, ix_4, ix_5, ix_6, ix_7, ix_8, ix_9, K38, P39, K48, P49] at f46
              obtain ⟨t50, qt50⟩ : ∃ zz9 : Int32, n1 + Int32.ofInt 1 = zz9 := ⟨_, rfl⟩
              refine lv_iinc (v := t50) (lv' := [(2, .int t50), (0, .ref this), (1, .int mo)]) hx hb dX6_inverse_64 hl (k := 0) rfl qt50 (by decide) rfl (fun ls hl => ?_)
              have ht50 : t50.toInt = n1.toInt + 1 := by rw [← qt50]; exact v_addi rfl (show (Int32.ofInt 1).toInt = 1 from by decide) (by omega) (by omega)
              refine lv_goto (tgt := 48) hx hb dX6_inverse_67 (by decide) ?_
              exact ih48 t50 _ _ _ _ hT  f45 (by omega) (by omega) hl (by omega)
      exact loop48 ((mo.toInt - (0 : Int32).toInt).toNat + 1) 0 _ _ _ _ hT  R24 (by omega) (by omega) hl (by omega)
    · have c8 := gi_eq c9
      refine lv_aload_n hx hb dX6_inverse_37 rfl (lv_at hl 0 rfl) ?_
      refine lv_iconst (v := 2) hx hb dX6_inverse_38 (by decide) ?_
      refine lv_iconst (v := 2) hx hb dX6_inverse_39 (by decide) ?_
      refine lv_iconst (v := 0) hx hb dX6_inverse_40 (by decide) ?_
      refine lv_iconst (v := (-1)) hx hb dX6_inverse_41 (by decide) ?_
      have hTo := hT
      refine tVi (n := 4) (As := [.int 2, .int 2, .int 0, .int (-1)]) (rest := []) hx hb hml hown hg hT hK hX (X6_stateFails l κ s23 this 2 2 0 (-1)  (hT.k t_this (by decide)) R24) sub_gR_gX (mwV k1569 k1571 k70 k92 k1572) ⟨rfl, by decide, by decide, by decide +kernel⟩ ⟨(Nat.le_of_ble_eq_true rfl), (Nat.le_of_ble_eq_true rfl)⟩ (hT.o20 (hT.k t_this (by decide))) rfl rfl hl.1 rfl (Nat.le_of_ble_eq_true rfl) dX6_inverse_42 zroom.rf (fun x51 s52 H locs hφ hEs52 hT => ?_)
      have R53 : RI κ s52 this := R24.ext hEs52 ⟨rfl, rfl, fun _ => rfl, fun _ => rfl, fun _ => rfl, fun _ => rfl⟩
      have B54 := R53.b
      rw [erW] at B54
      have K55 : zI s52 this 7 = zI σ0 this 7 := hT.eI t_this (by decide) rfl rfl
      have K55n : (zI s52 this 7).toInt = (zI σ0 this 7).toInt := by rw [K55]
      have P56 : zI s52 rP = zI σ0 rP := funext fun k => hT.eI trP (by decide) rfl rfl
      try simp only [K55, P56] at B54
      subst hQ9
      exact t_i hx hb hr hlocks hT R53 dX6_inverse_45
set_option maxHeartbeats 4000000 in
set_option maxRecDepth 100000 in
theorem X6_errorOf (l : Launch) (κ : Kt) (σ0 : Gh) (this : Nat) (wh : Int32) (t_this : zk σ0 this 20) (h0 : RI κ σ0 this) (h1 : WI (rN σ0 this) (zJ σ0 (kR κ this 2))) : TC l yX6_errorOf cX6_errorOf 7 (some .long) 3 80 [.ref this, .int wh] κ σ0 (tql κ gWb σ0 (fun (r : Int64) (τ : Gh) => (RI κ τ this) ∧ (∀ j : Nat, j < 3 → zJ τ (kR κ this 1) j = zJ σ0 (kR κ this 2) j))) := by
  refine TC.of gWb (by decide +kernel) (Nat.le_of_ble_eq_true rfl) ?_
  intro p e s m below meth c ls hcs hK hX hT hl
  obtain ⟨hx, hb, hr, hml, hown, hg, hlocks, hin⟩ := hcs
  have hown : s.vm.findClass RX6 = some m.cls := hown
  have hl : lv_has ls 7 [(0, .ref this), (1, .int wh)] := hl
  have hT0 := hT
  have n0 : (0 : Int32).toInt = 0 := by decide
  have n1 : (1 : Int32).toInt = 1 := by decide
  have n5 : (5 : Int32).toInt = 5 := by decide
  have j0 : (0 : Int64).toInt = 0 := by decide
  have j1 : (1 : Int64).toInt = 1 := by decide
  have wh_lo := Int32.le_toInt wh
  have wh_hi := Int32.toInt_lt wh
  generalize hQ9 : tQ _ _ _ _ _ _ = Q9
  obtain ⟨rW, erW⟩ : ∃ z, kR κ this 1 = z := ⟨_, rfl⟩
  have trW : zk σ0 rW 21 := by rw [← erW]; exact h0.1.2.1
  obtain ⟨rP, erP⟩ : ∃ z, kR κ this 5 = z := ⟨_, rfl⟩
  have trP : zk σ0 rP 25 := by rw [← erP]; exact h0.1.2.2.2.2
  have hB0 := h0.b
  rw [erW] at hB0
  have hW := h0.2.1
  rw [erW] at hW
  have hP := h0.2.2.1
  rw [erP] at hP
  have hrN : (rN σ0 this : Int) = (zI σ0 this 7).toInt := by unfold rN; omega
  try simp only [erW, erP] at h1
  obtain ⟨rA, erA⟩ : ∃ z, kR κ this 2 = z := ⟨_, rfl⟩
  have trA : zk σ0 rA 30 := by rw [← erA]; exact hT0.ref t_this (by decide) (by decide) (by decide)
  rw [erA] at h1
  have wv0_0 : zJ σ0 rW 0 = zJ σ0 rW 0 := rfl
  have wv1_0 : zJ σ0 rW 1 = zJ σ0 rW 1 := rfl
  have wv2_0 : zJ σ0 rW 2 = zJ σ0 rW 2 := rfl
  have loop0 : ∀ (n9 : Nat)  (H : Heap) (locs : List Loc) (sg : Gh) (ls : Array Slot), TS κ gWb σ0 sg s H locs → (RI κ sg this) → lv_has ls 7 [(0, .ref this), (1, .int wh)] → ((zJ sg rW 4).toInt) < n9 → tW p l e 3 80 κ s m #[.ref this, .int wh] below meth c H locs Q9 (F0 m 0 ls []) := by
    intro n9
    induction n9 with
    | zero =>
      intro  H locs sg ls hT RI0 hl hm9
      exfalso
      (have z9 := RI0.b; rw [erW] at z9; omega)
    | succ n9 ih9 =>
      have ih0 := ih9
      clear ih9
      intro  H locs s1 ls hT RI0 hl hm9
      have B2 := RI0.b
      rw [erW] at B2
      have K3 : zI s1 this 7 = zI σ0 this 7 := hT.eI t_this (by decide) rfl rfl
      have K3n : (zI s1 this 7).toInt = (zI σ0 this 7).toInt := by rw [K3]
      have P4 : zI s1 rP = zI σ0 rP := funext fun k => hT.eI trP (by decide) rfl rfl
      try simp only [K3, P4] at B2
      refine lv_aload_n hx hb dX6_errorOf_0 rfl (lv_at hl 0 rfl) ?_
      have hTo := hT
      refine tVi (n := 0) (As := []) (rest := []) hx hb hml hown hg hT hK hX (X6_steps l κ s1 this  (hT.k t_this (by decide)) RI0) sub_fE_gWb (mwV k1416 k1418 k52 k92 k1419) ⟨rfl, by decide, by decide, by decide +kernel⟩ ⟨(Nat.le_of_ble_eq_true rfl), (Nat.le_of_ble_eq_true rfl)⟩ (hT.o20 (hT.k t_this (by decide))) rfl rfl hl.1 rfl (Nat.le_of_ble_eq_true rfl) dX6_errorOf_1 zroom.rf (fun x5 s6 H locs hφ hEs6 hT => ?_)
      have R7 : RI κ s6 this := RI0.ext hEs6 ⟨rfl, rfl, fun _ => rfl, fun _ => rfl, fun _ => rfl, fun _ => rfl⟩
      have B8 := R7.b
      rw [erW] at B8
      have K9 : zI s6 this 7 = zI σ0 this 7 := hT.eI t_this (by decide) rfl rfl
      have K9n : (zI s6 this 7).toInt = (zI σ0 this 7).toInt := by rw [K9]
      have P10 : zI s6 rP = zI σ0 rP := funext fun k => hT.eI trP (by decide) rfl rfl
      try simp only [K9, P10] at B8
      have f11 := hφ
      try simp only [erW, erP, ix_0, ix_1, ix_2, ix_3, ix_4, ix_5, ix_6, ix_7, ix_8, ix_9, K3, P4, K9, P10] at f11
      have EE12 : zJ s6 rW = zJ s1 rW := funext fun k => (hTo.k trW (by decide)).eJ hEs6 (by decide) rfl
      have EE12c := f11
      rw [← EE12] at EE12c
      refine lv_if_le (tgt := 14) hx hb dX6_errorOf_4 (by decide) (fun c9 => ?_) (fun c9 => ?_)
      · have c1 := gi_le c9
        refine lv_lconst (v := 0) hx hb dX6_errorOf_14 (by decide) ?_
        refine lv_lstore_n (lv' := [(2, .long 0), (0, .ref this), (1, .int wh)]) hx hb dX6_errorOf_15 rfl hl (by decide) rfl (fun ls hl => ?_)
        refine lv_iconst (v := 0) hx hb dX6_errorOf_16 (by decide) ?_
        refine lv_istore (lv' := [(4, .int 0), (2, .long 0), (0, .ref this), (1, .int wh)]) hx hb dX6_errorOf_17 hl (by decide) rfl (fun ls hl => ?_)
        have loop19 : ∀ (n9 : Nat) (its : Int64) (k : Int32) (H : Heap) (locs : List Loc) (sg : Gh) (ls : Array Slot), TS κ gWb σ0 sg s H locs → (RI κ sg this) → (0 ≤ k.toInt) → (k.toInt ≤ (zI σ0 this 7).toInt) → lv_has ls 7 [(2, .long its), (4, .int k), (0, .ref this), (1, .int wh)] → ((zI σ0 this 7).toInt - k.toInt) < n9 → tW p l e 3 80 κ s m #[.ref this, .int wh] below meth c H locs Q9 (F0 m 19 ls []) := by
          intro n9
          induction n9 with
          | zero =>
            intro its k H locs sg ls hT RI0 q1 q2 hl hm9
            exfalso
            omega
          | succ n9 ih9 =>
            have ih19 := ih9
            clear ih9
            intro its k H locs s13 ls hT RI0 q1 q2 hl hm9
            have B14 := RI0.b
            rw [erW] at B14
            have K15 : zI s13 this 7 = zI σ0 this 7 := hT.eI t_this (by decide) rfl rfl
            have K15n : (zI s13 this 7).toInt = (zI σ0 this 7).toInt := by rw [K15]
            have P16 : zI s13 rP = zI σ0 rP := funext fun k => hT.eI trP (by decide) rfl rfl
            try simp only [K15, P16] at B14
            refine lv_iload hx hb dX6_errorOf_19 (lv_at hl 1 rfl) ?_
            refine lv_aload_n hx hb dX6_errorOf_21 rfl (lv_at hl 2 rfl) ?_
            obtain ⟨v17, ev17⟩ : ∃ zz9 : Int32, zI σ0 this 7 = zz9 := ⟨_, rfl⟩
            have qv17 : v17.toInt = (zI σ0 this 7).toInt := by rw [ev17]
            refine va_get (D := κ.1) (ci := 6) (v := .int (zI s13 this 7)) (C := RX6) (T := TX6) (N := 27) hx hb hg inX6 hown hK (hT.o20 (hT.k t_this (by decide))).one 0 rfl rfl 7 (by decide) (hg _ k1226) (fun _ h9 => h9) rfl dX6_errorOf_22 ?_
            rw [(hT.eI t_this (by decide) rfl ev17)]
            refine lv_icmp_ge (tgt := 104) hx hb dX6_errorOf_25 (by decide) (fun c9 => ?_) (fun c9 => ?_)
            · have c2 := gi_le c9
              refine lv_aload_n hx hb dX6_errorOf_104 rfl (lv_at hl 2 rfl) ?_
              have hTo := hT
              refine tVv (n := 0) (As := []) (rest := []) hx hb hml hown hg hT hK hX (X6_takesBack l κ s13 this  (hT.k t_this (by decide)) RI0) (fun _ _ h => h) (mwV k1654 k1656 k80 k92 k1657) ⟨rfl, by decide, by decide, by decide +kernel⟩ ⟨(Nat.le_of_ble_eq_true rfl), (Nat.le_of_ble_eq_true rfl)⟩ (hT.o20 (hT.k t_this (by decide))) rfl rfl hl.1 rfl (Nat.le_of_ble_eq_true rfl) dX6_errorOf_105 zroom.rf (fun s19 H locs hφ hEs19 hT => ?_)
              have f21 := hφ
              have K22 : zI s19 this 7 = zI σ0 this 7 := hT.eI t_this (by decide) rfl rfl
              have K22n : (zI s19 this 7).toInt = (zI σ0 this 7).toInt := by rw [K22]
              have P23 : zI s19 rP = zI σ0 rP := funext fun k => hT.eI trP (by decide) rfl rfl
              try simp only [erW, erP, ix_0, ix_1, ix_2, ix_3, ix_4, ix_5, ix_6, ix_7, ix_8, ix_9, K15, P16, K22, P23] at f21
              have wv24 : zJ s19 rW 0 = zJ σ0 rA 0 := by have z9 := f21 0 (by decide); (try rw [erW] at z9); (try rw [erA] at z9); exact z9.trans (hTo.eJ trA (by decide) rfl rfl)
              have wv25 : zJ s19 rW 1 = zJ σ0 rA 1 := by have z9 := f21 1 (by decide); (try rw [erW] at z9); (try rw [erA] at z9); exact z9.trans (hTo.eJ trA (by decide) rfl rfl)
              have wv26 : zJ s19 rW 2 = zJ σ0 rA 2 := by have z9 := f21 2 (by decide); (try rw [erW] at z9); (try rw [erA] at z9); exact z9.trans (hTo.eJ trA (by decide) rfl rfl)
              have z1 : rN s13 this = rN σ0 this := by unfold rN; rw [hTo.eI t_this (by decide) rfl rfl]
              have z2 : zJ s13 rA = zJ σ0 rA := funext fun k => hTo.eJ trA (by decide) rfl rfl
              rw [erA] at f21
              have R27 : RI κ s19 this := RI0.extw hEs19 ⟨rfl, rfl, fun _ => rfl, fun _ => rfl, fun _ => rfl⟩ (by rw [z1, erW]; exact h1.of609 (fun j hj => by rw [f21 j hj, z2]))
              have B28 := R27.b
              rw [erW] at B28
              try simp only [K22, P23] at B28
              refine lv_lload_n hx hb dX6_errorOf_108 rfl (lv_at hl 0 rfl) ?_
              subst hQ9
              exact t_l hx hb hr hlocks hT ⟨R27, (by rw [erW, erA]; exact (fun j hj => by rcases (show j = 0 ∨ j = 1 ∨ j = 2 by omega) with rfl | rfl | rfl <;> first | exact wv24 | exact wv25 | exact wv26))⟩ dX6_errorOf_109
            · have c3 := gi_nle c9
              refine lv_aload_n hx hb dX6_errorOf_28 rfl (lv_at hl 2 rfl) ?_
              refine va_get (D := κ.1) (ci := 6) (v := .ref (kR κ this 1)) (C := RX6) (T := TX6) (N := 27) hx hb hg inX6 hown hK (hT.o20 (hT.k t_this (by decide))).one 0 rfl rfl 1 (by decide) (hg _ k1220) (fun _ h9 => h9) rfl dX6_errorOf_29 ?_
              rw [erW]
              refine lv_iconst (v := 5) hx hb dX6_errorOf_32 (by decide) ?_
              refine lv_iload hx hb dX6_errorOf_33 (lv_at hl 1 rfl) ?_
              refine lv_iadd hx hb dX6_errorOf_35 ?_
              first | refine g_add (by omega) (by omega) (fun t29 ht29 => ?_) | refine lv_topi (fun t29 ht29 => ?_)
              refine va_lald hx hb hK (hT.o21 (hT.k trW (by decide))).one 0 1 rfl rfl (g_in (by omega) (by omega)) dX6_errorOf_36 ?_
              refine lv_topl (fun t30 ht30 => ?_)
              refine lv_aload_n hx hb dX6_errorOf_37 rfl (lv_at hl 2 rfl) ?_
              obtain ⟨r31, er31⟩ : ∃ z, kR κ this 6 = z := ⟨_, rfl⟩
              have tr31 : zk σ0 r31 26 := by rw [← er31]; exact hT0.ref t_this (by decide) (by decide) (by decide)
              refine va_get (D := κ.1) (ci := 6) (v := .ref (kR κ this 6)) (C := RX6) (T := TX6) (N := 27) hx hb hg inX6 hown hK (hT.o20 (hT.k t_this (by decide))).one 0 rfl rfl 6 (by decide) (hg _ k1225) (fun _ h9 => h9) rfl dX6_errorOf_38 ?_
              rw [er31]
              refine lv_iload hx hb dX6_errorOf_41 (lv_at hl 1 rfl) ?_
              refine va_iald hx hb hK (hT.o26 (hT.k tr31 (by decide))).one 0 0 rfl rfl (g_in (by omega) (by omega)) dX6_errorOf_43 ?_
              refine lv_topi (fun t32 ht32 => ?_)
              refine lv_i2l hx hb dX6_errorOf_44 rfl ?_
              refine g_i2l (fun t33 ht33 => ?_)
              refine lv_lsub hx hb dX6_errorOf_45 ?_
              refine lv_topl (fun t34 ht34 => ?_)
              have hTo := hT
              refine tSl (n := 1) (As := [.long t34]) (rest := []) hx hb hml hown hg hT hK hX (X6_amount l κ s13 t34   ) sub_fE_gWb (mwS k1488 k1489 k92 k1490) ⟨rfl, by decide, by decide, by decide +kernel⟩ ⟨(Nat.le_of_ble_eq_true rfl), (Nat.le_of_ble_eq_true rfl)⟩ rfl hl.1 rfl (Nat.le_of_ble_eq_true rfl) dX6_errorOf_46 zroom.rf (fun x35 s36 H locs hφ hEs36 hT => ?_)
              have R37 : RI κ s36 this := RI0.ext hEs36 ⟨rfl, rfl, fun _ => rfl, fun _ => rfl, fun _ => rfl, fun _ => rfl⟩
              have B38 := R37.b
              rw [erW] at B38
              have K39 : zI s36 this 7 = zI σ0 this 7 := hT.eI t_this (by decide) rfl rfl
              have K39n : (zI s36 this 7).toInt = (zI σ0 this 7).toInt := by rw [K39]
              have P40 : zI s36 rP = zI σ0 rP := funext fun k => hT.eI trP (by decide) rfl rfl
              try simp only [K39, P40] at B38
              have f41 := hφ
              try simp only [erW, erP, ix_0, ix_1, ix_2, ix_3, ix_4, ix_5, ix_6, ix_7, ix_8, ix_9, K15, P16, K39, P40] at f41
              refine lv_lstore (lv' := [(5, .long x35), (2, .long its), (4, .int k), (0, .ref this), (1, .int wh)]) hx hb dX6_errorOf_49 hl (by decide) rfl (fun ls hl => ?_)
              refine lv_iload_n hx hb dX6_errorOf_51 rfl (lv_at hl 4 rfl) ?_
              refine lv_if_ne (tgt := 71) hx hb dX6_errorOf_52 (by decide) (fun c9 => ?_) (fun c9 => ?_)
              · have c4 := gi_ne c9
                refine lv_iload_n hx hb dX6_errorOf_71 rfl (lv_at hl 4 rfl) ?_
                refine lv_iconst (v := 1) hx hb dX6_errorOf_72 (by decide) ?_
                refine lv_icmp_ne (tgt := 83) hx hb dX6_errorOf_73 (by decide) (fun c9 => ?_) (fun c9 => ?_)
                · have c5 := gi_ne c9
                  refine lv_lload hx hb dX6_errorOf_83 (lv_at hl 0 rfl) ?_
                  refine lv_lconst (v := 0) hx hb dX6_errorOf_85 (by decide) ?_
                  refine W.lcmp hx hb dX6_errorOf_86 ?_
                  refine lv_if_le (tgt := 96) hx hb dX6_errorOf_87 (by decide) (fun c9 => ?_) (fun c9 => ?_)
                  · have c6 := gl_le c9
                    refine lv_lload_n hx hb dX6_errorOf_96 rfl (lv_at hl 1 rfl) ?_
                    refine lv_lstore_n (lv' := [(2, .long its), (5, .long x35), (4, .int k), (0, .ref this), (1, .int wh)]) hx hb dX6_errorOf_97 rfl hl (by decide) rfl (fun ls hl => ?_)
                    obtain ⟨t42, qt42⟩ : ∃ zz9 : Int32, k + Int32.ofInt 1 = zz9 := ⟨_, rfl⟩
                    refine lv_iinc (v := t42) (lv' := [(4, .int t42), (2, .long its), (5, .long x35), (0, .ref this), (1, .int wh)]) hx hb dX6_errorOf_98 hl (k := 2) rfl qt42 (by decide) rfl (fun ls hl => ?_)
                    have ht42 : t42.toInt = k.toInt + 1 := by rw [← qt42]; exact v_addi rfl (show (Int32.ofInt 1).toInt = 1 from by decide) (by omega) (by omega)
                    refine lv_goto (tgt := 19) hx hb dX6_errorOf_101 (by decide) ?_
                    exact ih19 its t42 _ _ _ _ hT  R37 (by omega) (by omega) (lv_sub hl [1, 0, 3, 4] rfl) (by omega)
                  · have c7 := gl_nle c9
                    refine lv_lload_n hx hb dX6_errorOf_90 rfl (lv_at hl 1 rfl) ?_
                    refine lv_lconst (v := 1) hx hb dX6_errorOf_91 (by decide) ?_
                    refine lv_ladd hx hb dX6_errorOf_92 ?_
                    refine lv_topl (fun t43 ht43 => ?_)
                    refine lv_goto (tgt := 97) hx hb dX6_errorOf_93 (by decide) ?_
                    refine lv_lstore_n (lv' := [(2, .long t43), (5, .long x35), (4, .int k), (0, .ref this), (1, .int wh)]) hx hb dX6_errorOf_97 rfl hl (by decide) rfl (fun ls hl => ?_)
                    obtain ⟨t44, qt44⟩ : ∃ zz9 : Int32, k + Int32.ofInt 1 = zz9 := ⟨_, rfl⟩
                    refine lv_iinc (v := t44) (lv' := [(4, .int t44), (2, .long t43), (5, .long x35), (0, .ref this), (1, .int wh)]) hx hb dX6_errorOf_98 hl (k := 2) rfl qt44 (by decide) rfl (fun ls hl => ?_)
                    have ht44 : t44.toInt = k.toInt + 1 := by rw [← qt44]; exact v_addi rfl (show (Int32.ofInt 1).toInt = 1 from by decide) (by omega) (by omega)
                    refine lv_goto (tgt := 19) hx hb dX6_errorOf_101 (by decide) ?_
                    exact ih19 t43 t44 _ _ _ _ hT  R37 (by omega) (by omega) (lv_sub hl [1, 0, 3, 4] rfl) (by omega)
                · have c8 := gi_eq c9
                  refine lv_lload_n hx hb dX6_errorOf_76 rfl (lv_at hl 1 rfl) ?_
                  refine lv_lload hx hb dX6_errorOf_77 (lv_at hl 0 rfl) ?_
                  refine lv_ladd hx hb dX6_errorOf_79 ?_
                  refine lv_topl (fun t45 ht45 => ?_)
                  refine lv_goto (tgt := 97) hx hb dX6_errorOf_80 (by decide) ?_
                  refine lv_lstore_n (lv' := [(2, .long t45), (5, .long x35), (4, .int k), (0, .ref this), (1, .int wh)]) hx hb dX6_errorOf_97 rfl hl (by decide) rfl (fun ls hl => ?_)
                  obtain ⟨t46, qt46⟩ : ∃ zz9 : Int32, k + Int32.ofInt 1 = zz9 := ⟨_, rfl⟩
                  refine lv_iinc (v := t46) (lv' := [(4, .int t46), (2, .long t45), (5, .long x35), (0, .ref this), (1, .int wh)]) hx hb dX6_errorOf_98 hl (k := 2) rfl qt46 (by decide) rfl (fun ls hl => ?_)
                  have ht46 : t46.toInt = k.toInt + 1 := by rw [← qt46]; exact v_addi rfl (show (Int32.ofInt 1).toInt = 1 from by decide) (by omega) (by omega)
                  refine lv_goto (tgt := 19) hx hb dX6_errorOf_101 (by decide) ?_
                  exact ih19 t45 t46 _ _ _ _ hT  R37 (by omega) (by omega) (lv_sub hl [1, 0, 3, 4] rfl) (by omega)
              · have c9 := gi_eq c9
                refine lv_lload hx hb dX6_errorOf_55 (lv_at hl 0 rfl) ?_
                refine lv_lload_n hx hb dX6_errorOf_57 rfl (lv_at hl 1 rfl) ?_
                refine W.lcmp hx hb dX6_errorOf_58 ?_
                refine lv_if_le (tgt := 67) hx hb dX6_errorOf_59 (by decide) (fun c9 => ?_) (fun c9 => ?_)
                · have c10 := gl_le c9
                  refine lv_lload_n hx hb dX6_errorOf_67 rfl (lv_at hl 1 rfl) ?_
                  refine lv_goto (tgt := 97) hx hb dX6_errorOf_68 (by decide) ?_
                  refine lv_lstore_n (lv' := [(2, .long its), (5, .long x35), (4, .int k), (0, .ref this), (1, .int wh)]) hx hb dX6_errorOf_97 rfl hl (by decide) rfl (fun ls hl => ?_)
                  obtain ⟨t47, qt47⟩ : ∃ zz9 : Int32, k + Int32.ofInt 1 = zz9 := ⟨_, rfl⟩
                  refine lv_iinc (v := t47) (lv' := [(4, .int t47), (2, .long its), (5, .long x35), (0, .ref this), (1, .int wh)]) hx hb dX6_errorOf_98 hl (k := 2) rfl qt47 (by decide) rfl (fun ls hl => ?_)
                  have ht47 : t47.toInt = k.toInt + 1 := by rw [← qt47]; exact v_addi rfl (show (Int32.ofInt 1).toInt = 1 from by decide) (by omega) (by omega)
                  refine lv_goto (tgt := 19) hx hb dX6_errorOf_101 (by decide) ?_
                  exact ih19 its t47 _ _ _ _ hT  R37 (by omega) (by omega) (lv_sub hl [1, 0, 3, 4] rfl) (by omega)
                · have c11 := gl_nle c9
                  refine lv_lload hx hb dX6_errorOf_62 (lv_at hl 0 rfl) ?_
                  refine lv_goto (tgt := 97) hx hb dX6_errorOf_64 (by decide) ?_
                  refine lv_lstore_n (lv' := [(2, .long x35), (5, .long x35), (4, .int k), (0, .ref this), (1, .int wh)]) hx hb dX6_errorOf_97 rfl hl (by decide) rfl (fun ls hl => ?_)
                  obtain ⟨t48, qt48⟩ : ∃ zz9 : Int32, k + Int32.ofInt 1 = zz9 := ⟨_, rfl⟩
                  refine lv_iinc (v := t48) (lv' := [(4, .int t48), (2, .long x35), (5, .long x35), (0, .ref this), (1, .int wh)]) hx hb dX6_errorOf_98 hl (k := 2) rfl qt48 (by decide) rfl (fun ls hl => ?_)
                  have ht48 : t48.toInt = k.toInt + 1 := by rw [← qt48]; exact v_addi rfl (show (Int32.ofInt 1).toInt = 1 from by decide) (by omega) (by omega)
                  refine lv_goto (tgt := 19) hx hb dX6_errorOf_101 (by decide) ?_
                  exact ih19 x35 t48 _ _ _ _ hT  R37 (by omega) (by omega) (lv_sub hl [1, 0, 3, 4] rfl) (by omega)
        exact loop19 (((zI σ0 this 7).toInt - (0 : Int32).toInt).toNat + 1) 0 0 _ _ _ _ hT  R7 (by omega) (by omega) (lv_sub hl [1, 0, 2, 3] rfl) (by omega)
      · have c12 := gi_nle c9
        refine lv_aload_n hx hb dX6_errorOf_7 rfl (lv_at hl 0 rfl) ?_
        have hTo := hT
        refine tVv (n := 0) (As := []) (rest := []) hx hb hml hown hg hT hK hX (X6_inverts l κ s6 this  (hT.k t_this (by decide)) R7 (by rw [erW]; omega)) sub_gW_gWb (mwV k1616 k1618 k76 k92 k1619) ⟨rfl, by decide, by decide, by decide +kernel⟩ ⟨(Nat.le_of_ble_eq_true rfl), (Nat.le_of_ble_eq_true rfl)⟩ (hT.o20 (hT.k t_this (by decide))) rfl rfl hl.1 rfl (Nat.le_of_ble_eq_true rfl) dX6_errorOf_8 zroom.rf (fun s50 H locs hφ hEs50 hT => ?_)
        obtain ⟨f52, f53⟩ := hφ
        have B54 := f52.b
        rw [erW] at B54
        have K55 : zI s50 this 7 = zI σ0 this 7 := hT.eI t_this (by decide) rfl rfl
        have K55n : (zI s50 this 7).toInt = (zI σ0 this 7).toInt := by rw [K55]
        have P56 : zI s50 rP = zI σ0 rP := funext fun k => hT.eI trP (by decide) rfl rfl
        try simp only [K55, P56] at B54
        try simp only [erW, erP, ix_0, ix_1, ix_2, ix_3, ix_4, ix_5, ix_6, ix_7, ix_8, ix_9, K9, P10, K55, P56] at f53
        refine lv_goto (tgt := 0) hx hb dX6_errorOf_11 (by decide) ?_
        exact ih0  _ _ _ _ hT  f52 hl (by omega)
  exact loop0 (((zJ σ0 rW 4).toInt).toNat + 1)  _ _ _ _ hT  h0 hl (by omega)
set_option maxHeartbeats 4000000 in
set_option maxRecDepth 100000 in
theorem X6_error (l : Launch) (κ : Kt) (σ0 : Gh) (this : Nat) (wh : Int32) (t_this : zk σ0 this 20) (h0 : RI κ σ0 this) : TC l yX6_error cX6_error 2 (some .long) 4 106 [.ref this, .int wh] κ σ0 (tql κ gZb σ0 (fun (r : Int64) (τ : Gh) => (RI κ τ this) ∧ (∀ j : Nat, j < 3 → zJ τ (kR κ this 1) j = zJ σ0 (kR κ this 1) j))) := by
  refine TC.of gZb (by decide +kernel) (Nat.le_of_ble_eq_true rfl) ?_
  intro p e s m below meth c ls hcs hK hX hT hl
  obtain ⟨hx, hb, hr, hml, hown, hg, hlocks, hin⟩ := hcs
  have hown : s.vm.findClass RX6 = some m.cls := hown
  have hl : lv_has ls 2 [(0, .ref this), (1, .int wh)] := hl
  have hT0 := hT
  have n0 : (0 : Int32).toInt = 0 := by decide
  have n1 : (1 : Int32).toInt = 1 := by decide
  have j0 : (0 : Int64).toInt = 0 := by decide
  have j2 : (2 : Int64).toInt = 2 := by decide
  have wh_lo := Int32.le_toInt wh
  have wh_hi := Int32.toInt_lt wh
  generalize hQ9 : tQ _ _ _ _ _ _ = Q9
  obtain ⟨rW, erW⟩ : ∃ z, kR κ this 1 = z := ⟨_, rfl⟩
  have trW : zk σ0 rW 21 := by rw [← erW]; exact h0.1.2.1
  obtain ⟨rP, erP⟩ : ∃ z, kR κ this 5 = z := ⟨_, rfl⟩
  have trP : zk σ0 rP 25 := by rw [← erP]; exact h0.1.2.2.2.2
  have hB0 := h0.b
  rw [erW] at hB0
  have hW := h0.2.1
  rw [erW] at hW
  have hP := h0.2.2.1
  rw [erP] at hP
  have hrN : (rN σ0 this : Int) = (zI σ0 this 7).toInt := by unfold rN; omega
  obtain ⟨rA, erA⟩ : ∃ z, kR κ this 2 = z := ⟨_, rfl⟩
  have trA : zk σ0 rA 30 := by rw [← erA]; exact hT0.ref t_this (by decide) (by decide) (by decide)
  have wv0_0 : zJ σ0 rW 0 = zJ σ0 rW 0 := rfl
  have wv1_0 : zJ σ0 rW 1 = zJ σ0 rW 1 := rfl
  have wv2_0 : zJ σ0 rW 2 = zJ σ0 rW 2 := rfl
  refine lv_aload_n hx hb dX6_error_0 rfl (lv_at hl 0 rfl) ?_
  refine lv_iload_n hx hb dX6_error_1 rfl (lv_at hl 1 rfl) ?_
  refine lv_i2l hx hb dX6_error_2 rfl ?_
  refine g_i2l (fun t1 ht1 => ?_)
  refine lv_lconst (v := 0) hx hb dX6_error_3 (by decide) ?_
  refine lv_ldc2 hx hb hown (hg _ k1510) dX6_error_4 ?_
  have hTo := hT
  refine tSi (n := 3) (As := [.long t1, .long 0, .long 2]) (rest := [.ref this]) hx hb hml hown hg hT hK hX (X6_in l κ σ0 t1 0 2   ) sub_fE_gZb (mwS k1317 k1318 k92 k1319) ⟨rfl, by decide, by decide, by decide +kernel⟩ ⟨(Nat.le_of_ble_eq_true rfl), (Nat.le_of_ble_eq_true rfl)⟩ rfl hl.1 rfl (Nat.le_of_ble_eq_true rfl) dX6_error_7 zroom.rf (fun x2 s3 H locs hφ hEs3 hT => ?_)
  have R4 : RI κ s3 this := h0.ext hEs3 ⟨rfl, rfl, fun _ => rfl, fun _ => rfl, fun _ => rfl, fun _ => rfl⟩
  have B5 := R4.b
  rw [erW] at B5
  have K6 : zI s3 this 7 = zI σ0 this 7 := hT.eI t_this (by decide) rfl rfl
  have K6n : (zI s3 this 7).toInt = (zI σ0 this 7).toInt := by rw [K6]
  have P7 : zI s3 rP = zI σ0 rP := funext fun k => hT.eI trP (by decide) rfl rfl
  try simp only [K6, P7] at B5
  have wv8 : zJ s3 rW 0 = zJ σ0 rW 0 := ((hTo.k trW (by decide)).eJ hEs3 (by decide) rfl).trans wv0_0
  have wv9 : zJ s3 rW 1 = zJ σ0 rW 1 := ((hTo.k trW (by decide)).eJ hEs3 (by decide) rfl).trans wv1_0
  have wv10 : zJ s3 rW 2 = zJ σ0 rW 2 := ((hTo.k trW (by decide)).eJ hEs3 (by decide) rfl).trans wv2_0
  obtain ⟨f11, f12⟩ := hφ
  try simp only [erW, erP, ix_0, ix_1, ix_2, ix_3, ix_4, ix_5, ix_6, ix_7, ix_8, ix_9, K6, P7] at f11
  refine lv_if_eq (tgt := 17) hx hb dX6_error_10 (by decide) (fun c9 => ?_) (fun c9 => ?_)
  · have c1 := gi_eq c9
    refine lv_iconst (v := 1) hx hb dX6_error_17 (by decide) ?_
    have hTo := hT
    refine pf20_0 hx hb hg hown hK hT (hT.k t_this (by decide)) rfl (hg _ k1219) dX6_error_18 (fun H locs s13 hus13 hT => ?_)
    have R14 : RI κ s13 this := R4.put hus13 (hTo.k t_this (by decide)) (by decide)
    have B15 := R14.b
    rw [erW] at B15
    have K16 : zI s13 this 7 = zI σ0 this 7 := hT.eI t_this (by decide) rfl rfl
    have K16n : (zI s13 this 7).toInt = (zI σ0 this 7).toInt := by rw [K16]
    have P17 : zI s13 rP = zI σ0 rP := funext fun k => hT.eI trP (by decide) rfl rfl
    try simp only [K16, P17] at B15
    have wv18 : zJ s13 rW 0 = zJ σ0 rW 0 := (congrFun (zput_J (x := rW) hus13) 0).trans wv8
    have wv19 : zJ s13 rW 1 = zJ σ0 rW 1 := (congrFun (zput_J (x := rW) hus13) 1).trans wv9
    have wv20 : zJ s13 rW 2 = zJ σ0 rW 2 := (congrFun (zput_J (x := rW) hus13) 2).trans wv10
    have e21 : zI s13 this 0 = 1 := zput_at hus13
    refine lv_aload_n hx hb dX6_error_21 rfl (lv_at hl 0 rfl) ?_
    refine va_get (D := κ.1) (ci := 6) (v := .int (zI s13 this 0)) (C := RX6) (T := TX6) (N := 27) hx hb hg inX6 hown hK (hT.o20 (hT.k t_this (by decide))).one 0 rfl rfl 0 (by decide) (hg _ k1219) (fun _ h9 => h9) rfl dX6_error_22 ?_
    rw [e21]
    refine lv_if_le (tgt := 30) hx hb dX6_error_25 (by decide) (fun c9 => absurd c9 (by decide)) (fun _ => ?_)
    refine lv_lconst (v := 0) hx hb dX6_error_28 (by decide) ?_
    subst hQ9
    exact t_l hx hb hr hlocks hT ⟨R14, (by rw [erW]; exact (fun j hj => by rcases (show j = 0 ∨ j = 1 ∨ j = 2 by omega) with rfl | rfl | rfl <;> first | exact wv18 | exact wv19 | exact wv20))⟩ dX6_error_29
  · have c2 := gi_ne c9
    refine lv_iconst (v := 0) hx hb dX6_error_13 (by decide) ?_
    refine lv_goto (tgt := 18) hx hb dX6_error_14 (by decide) ?_
    have hTo := hT
    refine pf20_0 hx hb hg hown hK hT (hT.k t_this (by decide)) rfl (hg _ k1219) dX6_error_18 (fun H locs s22 hus22 hT => ?_)
    have R23 : RI κ s22 this := R4.put hus22 (hTo.k t_this (by decide)) (by decide)
    have B24 := R23.b
    rw [erW] at B24
    have K25 : zI s22 this 7 = zI σ0 this 7 := hT.eI t_this (by decide) rfl rfl
    have K25n : (zI s22 this 7).toInt = (zI σ0 this 7).toInt := by rw [K25]
    have P26 : zI s22 rP = zI σ0 rP := funext fun k => hT.eI trP (by decide) rfl rfl
    try simp only [K25, P26] at B24
    have wv27 : zJ s22 rW 0 = zJ σ0 rW 0 := (congrFun (zput_J (x := rW) hus22) 0).trans wv8
    have wv28 : zJ s22 rW 1 = zJ σ0 rW 1 := (congrFun (zput_J (x := rW) hus22) 1).trans wv9
    have wv29 : zJ s22 rW 2 = zJ σ0 rW 2 := (congrFun (zput_J (x := rW) hus22) 2).trans wv10
    have e30 : zI s22 this 0 = 0 := zput_at hus22
    refine lv_aload_n hx hb dX6_error_21 rfl (lv_at hl 0 rfl) ?_
    refine va_get (D := κ.1) (ci := 6) (v := .int (zI s22 this 0)) (C := RX6) (T := TX6) (N := 27) hx hb hg inX6 hown hK (hT.o20 (hT.k t_this (by decide))).one 0 rfl rfl 0 (by decide) (hg _ k1219) (fun _ h9 => h9) rfl dX6_error_22 ?_
    rw [e30]
    refine lv_if_le (tgt := 30) hx hb dX6_error_25 (by decide) (fun _ => ?_) (fun c9 => absurd (by decide) c9)
    refine lv_aload_n hx hb dX6_error_30 rfl (lv_at hl 0 rfl) ?_
    have hTo := hT
    refine tVv (n := 0) (As := []) (rest := []) hx hb hml hown hg hT hK hX (X6_puts l κ s22 this  (hT.k t_this (by decide)) R23) sub_gA_gZb (mwV k1646 k1648 k78 k92 k1649) ⟨rfl, by decide, by decide, by decide +kernel⟩ ⟨(Nat.le_of_ble_eq_true rfl), (Nat.le_of_ble_eq_true rfl)⟩ (hT.o20 (hT.k t_this (by decide))) rfl rfl hl.1 rfl (Nat.le_of_ble_eq_true rfl) dX6_error_31 zroom.rf (fun s32 H locs hφ hEs32 hT => ?_)
    have e30 : zI s32 this 0 = 0 := ((hTo.k t_this (by decide)).eI hEs32 (by decide) rfl).trans e30
    have R33 : RI κ s32 this := R23.ext hEs32 ⟨rfl, rfl, fun _ => rfl, fun _ => rfl, fun _ => rfl, fun _ => rfl⟩
    have B34 := R33.b
    rw [erW] at B34
    have K35 : zI s32 this 7 = zI σ0 this 7 := hT.eI t_this (by decide) rfl rfl
    have K35n : (zI s32 this 7).toInt = (zI σ0 this 7).toInt := by rw [K35]
    have P36 : zI s32 rP = zI σ0 rP := funext fun k => hT.eI trP (by decide) rfl rfl
    try simp only [K35, P36] at B34
    have wv37 : zJ s32 rW 0 = zJ σ0 rW 0 := ((hTo.k trW (by decide)).eJ hEs32 (by decide) rfl).trans wv27
    have wv38 : zJ s32 rW 1 = zJ σ0 rW 1 := ((hTo.k trW (by decide)).eJ hEs32 (by decide) rfl).trans wv28
    have wv39 : zJ s32 rW 2 = zJ σ0 rW 2 := ((hTo.k trW (by decide)).eJ hEs32 (by decide) rfl).trans wv29
    have f40 := hφ
    try simp only [erW, erP, ix_0, ix_1, ix_2, ix_3, ix_4, ix_5, ix_6, ix_7, ix_8, ix_9, K25, P26, K35, P36] at f40
    have wv41 : zJ s32 rA 0 = zJ σ0 rW 0 := by have z9 := f40 0 (by decide); (try rw [erW] at z9); (try rw [erA] at z9); exact z9.trans wv27
    have wv42 : zJ s32 rA 1 = zJ σ0 rW 1 := by have z9 := f40 1 (by decide); (try rw [erW] at z9); (try rw [erA] at z9); exact z9.trans wv28
    have wv43 : zJ s32 rA 2 = zJ σ0 rW 2 := by have z9 := f40 2 (by decide); (try rw [erW] at z9); (try rw [erA] at z9); exact z9.trans wv29
    have EE44 : zJ s32 rW = zJ s22 rW := funext fun k => (hTo.k trW (by decide)).eJ hEs32 (by decide) rfl
    rw [erA] at f40
    have A45 : WI (rN s32 this) (zJ s32 rA) := R33.2.1.of609 (fun j hj => by rw [erW, EE44]; exact f40 j hj)
    refine lv_aload_n hx hb dX6_error_34 rfl (lv_at hl 0 rfl) ?_
    refine lv_iload_n hx hb dX6_error_35 rfl (lv_at hl 1 rfl) ?_
    have hTo := hT
    refine tVl (n := 1) (As := [.int wh]) (rest := []) hx hb hml hown hg hT hK hX (X6_errorOf l κ s32 this wh  (hT.k t_this (by decide)) R33 (by rw [erA]; exact A45)) sub_gWb_gZb (mwV k1650 k1652 k79 k92 k1653) ⟨rfl, by decide, by decide, by decide +kernel⟩ ⟨(Nat.le_of_ble_eq_true rfl), (Nat.le_of_ble_eq_true rfl)⟩ (hT.o20 (hT.k t_this (by decide))) rfl rfl hl.1 rfl (Nat.le_of_ble_eq_true rfl) dX6_error_36 zroom.rf (fun x46 s47 H locs hφ hEs47 hT => ?_)
    have e30 : zI s47 this 0 = 0 := ((hTo.k t_this (by decide)).eI hEs47 (by decide) rfl).trans e30
    have A48 : WI (rN s47 this) (zJ s47 rA) := by rw [show zJ s47 rA = zJ s32 rA from funext fun k => (hTo.k trA (by decide)).eJ hEs47 (by decide) rfl, show rN s47 this = rN s32 this from by unfold rN; rw [(hTo.k t_this (by decide)).eI hEs47 (by decide) rfl]]; exact A45
    have wv50 : zJ s47 rA 0 = zJ σ0 rW 0 := ((hTo.k trA (by decide)).eJ hEs47 (by decide) rfl).trans wv41
    have wv51 : zJ s47 rA 1 = zJ σ0 rW 1 := ((hTo.k trA (by decide)).eJ hEs47 (by decide) rfl).trans wv42
    have wv52 : zJ s47 rA 2 = zJ σ0 rW 2 := ((hTo.k trA (by decide)).eJ hEs47 (by decide) rfl).trans wv43
    obtain ⟨f53, f54⟩ := hφ
    have B55 := f53.b
    rw [erW] at B55
    have K56 : zI s47 this 7 = zI σ0 this 7 := hT.eI t_this (by decide) rfl rfl
    have K56n : (zI s47 this 7).toInt = (zI σ0 this 7).toInt := by rw [K56]
    have P57 : zI s47 rP = zI σ0 rP := funext fun k => hT.eI trP (by decide) rfl rfl
    try simp only [K56, P57] at B55
    try simp only [erW, erP, ix_0, ix_1, ix_2, ix_3, ix_4, ix_5, ix_6, ix_7, ix_8, ix_9, K35, P36, K56, P57] at f54
    have wv58 : zJ s47 rW 0 = zJ σ0 rW 0 := by have z9 := f54 0 (by decide); (try rw [erW] at z9); (try rw [erA] at z9); exact z9.trans wv41
    have wv59 : zJ s47 rW 1 = zJ σ0 rW 1 := by have z9 := f54 1 (by decide); (try rw [erW] at z9); (try rw [erA] at z9); exact z9.trans wv42
    have wv60 : zJ s47 rW 2 = zJ σ0 rW 2 := by have z9 := f54 2 (by decide); (try rw [erW] at z9); (try rw [erA] at z9); exact z9.trans wv43
    subst hQ9
    exact t_l hx hb hr hlocks hT ⟨f53, (by rw [erW]; exact (fun j hj => by rcases (show j = 0 ∨ j = 1 ∨ j = 2 by omega) with rfl | rfl | rfl <;> first | exact wv58 | exact wv59 | exact wv60))⟩ dX6_error_39
set_option maxHeartbeats 4000000 in
set_option maxRecDepth 100000 in
theorem X6_errorBy (l : Launch) (κ : Kt) (σ0 : Gh) (this : Nat) (th : Int32) (so : Int32) (t_this : zk σ0 this 20) (b_so : isB so) (h0 : RI κ σ0 this) : TC l yX6_errorBy cX6_errorBy 3 (some .long) 4 106 [.ref this, .int th, .int so] κ σ0 (tql κ gYb σ0 (fun (r : Int64) (τ : Gh) => (RI κ τ this) ∧ (∀ j : Nat, j < 3 → zJ τ (kR κ this 1) j = zJ σ0 (kR κ this 1) j))) := by
  refine TC.of gYb (by decide +kernel) (Nat.le_of_ble_eq_true rfl) ?_
  intro p e s m below meth c ls hcs hK hX hT hl
  obtain ⟨hx, hb, hr, hml, hown, hg, hlocks, hin⟩ := hcs
  have hown : s.vm.findClass RX6 = some m.cls := hown
  have hl : lv_has ls 3 [(0, .ref this), (1, .int th), (2, .int so)] := hl
  have hT0 := hT
  have n0 : (0 : Int32).toInt = 0 := by decide
  have th_lo := Int32.le_toInt th
  have th_hi := Int32.toInt_lt th
  generalize hQ9 : tQ _ _ _ _ _ _ = Q9
  obtain ⟨rW, erW⟩ : ∃ z, kR κ this 1 = z := ⟨_, rfl⟩
  have trW : zk σ0 rW 21 := by rw [← erW]; exact h0.1.2.1
  obtain ⟨rP, erP⟩ : ∃ z, kR κ this 5 = z := ⟨_, rfl⟩
  have trP : zk σ0 rP 25 := by rw [← erP]; exact h0.1.2.2.2.2
  have hB0 := h0.b
  rw [erW] at hB0
  have hW := h0.2.1
  rw [erW] at hW
  have hP := h0.2.2.1
  rw [erP] at hP
  have hrN : (rN σ0 this : Int) = (zI σ0 this 7).toInt := by unfold rN; omega
  obtain ⟨rA, erA⟩ : ∃ z, kR κ this 2 = z := ⟨_, rfl⟩
  have trA : zk σ0 rA 30 := by rw [← erA]; exact hT0.ref t_this (by decide) (by decide) (by decide)
  have wv0_0 : zJ σ0 rW 0 = zJ σ0 rW 0 := rfl
  have wv1_0 : zJ σ0 rW 1 = zJ σ0 rW 1 := rfl
  have wv2_0 : zJ σ0 rW 2 = zJ σ0 rW 2 := rfl
  refine lv_aload_n hx hb dX6_errorBy_0 rfl (lv_at hl 0 rfl) ?_
  have hTo := hT
  refine tVv (n := 0) (As := []) (rest := []) hx hb hml hown hg hT hK hX (X6_puts l κ σ0 this  (hT.k t_this (by decide)) h0) sub_gA_gYb (mwV k1646 k1648 k78 k92 k1649) ⟨rfl, by decide, by decide, by decide +kernel⟩ ⟨(Nat.le_of_ble_eq_true rfl), (Nat.le_of_ble_eq_true rfl)⟩ (hT.o20 (hT.k t_this (by decide))) rfl rfl hl.1 rfl (Nat.le_of_ble_eq_true rfl) dX6_errorBy_1 zroom.rf (fun s2 H locs hφ hEs2 hT => ?_)
  have R3 : RI κ s2 this := h0.ext hEs2 ⟨rfl, rfl, fun _ => rfl, fun _ => rfl, fun _ => rfl, fun _ => rfl⟩
  have B4 := R3.b
  rw [erW] at B4
  have K5 : zI s2 this 7 = zI σ0 this 7 := hT.eI t_this (by decide) rfl rfl
  have K5n : (zI s2 this 7).toInt = (zI σ0 this 7).toInt := by rw [K5]
  have P6 : zI s2 rP = zI σ0 rP := funext fun k => hT.eI trP (by decide) rfl rfl
  try simp only [K5, P6] at B4
  have wv7 : zJ s2 rW 0 = zJ σ0 rW 0 := ((hTo.k trW (by decide)).eJ hEs2 (by decide) rfl).trans wv0_0
  have wv8 : zJ s2 rW 1 = zJ σ0 rW 1 := ((hTo.k trW (by decide)).eJ hEs2 (by decide) rfl).trans wv1_0
  have wv9 : zJ s2 rW 2 = zJ σ0 rW 2 := ((hTo.k trW (by decide)).eJ hEs2 (by decide) rfl).trans wv2_0
  have f10 := hφ
  try simp only [erW, erP, ix_0, ix_1, ix_2, ix_3, ix_4, ix_5, ix_6, ix_7, ix_8, ix_9, K5, P6] at f10
  have wv11 : zJ s2 rA 0 = zJ σ0 rW 0 := by have z9 := f10 0 (by decide); (try rw [erW] at z9); (try rw [erA] at z9); exact z9.trans wv0_0
  have wv12 : zJ s2 rA 1 = zJ σ0 rW 1 := by have z9 := f10 1 (by decide); (try rw [erW] at z9); (try rw [erA] at z9); exact z9.trans wv1_0
  have wv13 : zJ s2 rA 2 = zJ σ0 rW 2 := by have z9 := f10 2 (by decide); (try rw [erW] at z9); (try rw [erA] at z9); exact z9.trans wv2_0
  have EE14 : zJ s2 rW = zJ σ0 rW := funext fun k => (hTo.k trW (by decide)).eJ hEs2 (by decide) rfl
  rw [erA] at f10
  have A15 : WI (rN s2 this) (zJ s2 rA) := R3.2.1.of609 (fun j hj => by rw [erW, EE14]; exact f10 j hj)
  refine lv_aload_n hx hb dX6_errorBy_4 rfl (lv_at hl 0 rfl) ?_
  refine lv_iload_n hx hb dX6_errorBy_5 rfl (lv_at hl 1 rfl) ?_
  refine lv_iload_n hx hb dX6_errorBy_6 rfl (lv_at hl 2 rfl) ?_
  have hTo := hT
  refine tVv (n := 2) (As := [.int th, .int so]) (rest := []) hx hb hml hown hg hT hK hX (X6_cuts l κ s2 this th so  (hT.k t_this (by decide)) b_so R3) sub_gW_gYb (mwV k1630 k1632 k77 k92 k1633) ⟨rfl, by decide, by decide, by decide +kernel⟩ ⟨(Nat.le_of_ble_eq_true rfl), (Nat.le_of_ble_eq_true rfl)⟩ (hT.o20 (hT.k t_this (by decide))) rfl rfl hl.1 rfl (Nat.le_of_ble_eq_true rfl) dX6_errorBy_7 zroom.rf (fun s17 H locs hφ hEs17 hT => ?_)
  have A18 : WI (rN s17 this) (zJ s17 rA) := by rw [show zJ s17 rA = zJ s2 rA from funext fun k => (hTo.k trA (by decide)).eJ hEs17 (by decide) rfl, show rN s17 this = rN s2 this from by unfold rN; rw [(hTo.k t_this (by decide)).eI hEs17 (by decide) rfl]]; exact A15
  have wv20 : zJ s17 rW 0 = zJ σ0 rW 0 := ((hTo.k trW (by decide)).eJ hEs17 (by decide) (lt3_gW 0 (by decide))).trans wv7
  have wv21 : zJ s17 rW 1 = zJ σ0 rW 1 := ((hTo.k trW (by decide)).eJ hEs17 (by decide) (lt3_gW 1 (by decide))).trans wv8
  have wv22 : zJ s17 rW 2 = zJ σ0 rW 2 := ((hTo.k trW (by decide)).eJ hEs17 (by decide) (lt3_gW 2 (by decide))).trans wv9
  have wv23 : zJ s17 rA 0 = zJ σ0 rW 0 := ((hTo.k trA (by decide)).eJ hEs17 (by decide) rfl).trans wv11
  have wv24 : zJ s17 rA 1 = zJ σ0 rW 1 := ((hTo.k trA (by decide)).eJ hEs17 (by decide) rfl).trans wv12
  have wv25 : zJ s17 rA 2 = zJ σ0 rW 2 := ((hTo.k trA (by decide)).eJ hEs17 (by decide) rfl).trans wv13
  have f26 := hφ
  have B27 := f26.b
  rw [erW] at B27
  have K28 : zI s17 this 7 = zI σ0 this 7 := hT.eI t_this (by decide) rfl rfl
  have K28n : (zI s17 this 7).toInt = (zI σ0 this 7).toInt := by rw [K28]
  have P29 : zI s17 rP = zI σ0 rP := funext fun k => hT.eI trP (by decide) rfl rfl
  try simp only [K28, P29] at B27
  refine lv_aload_n hx hb dX6_errorBy_10 rfl (lv_at hl 0 rfl) ?_
  refine lv_iconst (v := 0) hx hb dX6_errorBy_11 (by decide) ?_
  have hTo := hT
  refine tVl (n := 1) (As := [.int 0]) (rest := []) hx hb hml hown hg hT hK hX (X6_errorOf l κ s17 this 0  (hT.k t_this (by decide)) f26 (by rw [erA]; exact A18)) sub_gWb_gYb (mwV k1650 k1652 k79 k92 k1653) ⟨rfl, by decide, by decide, by decide +kernel⟩ ⟨(Nat.le_of_ble_eq_true rfl), (Nat.le_of_ble_eq_true rfl)⟩ (hT.o20 (hT.k t_this (by decide))) rfl rfl hl.1 rfl (Nat.le_of_ble_eq_true rfl) dX6_errorBy_12 zroom.rf (fun x30 s31 H locs hφ hEs31 hT => ?_)
  have A32 : WI (rN s31 this) (zJ s31 rA) := by rw [show zJ s31 rA = zJ s17 rA from funext fun k => (hTo.k trA (by decide)).eJ hEs31 (by decide) rfl, show rN s31 this = rN s17 this from by unfold rN; rw [(hTo.k t_this (by decide)).eI hEs31 (by decide) rfl]]; exact A18
  have wv34 : zJ s31 rA 0 = zJ σ0 rW 0 := ((hTo.k trA (by decide)).eJ hEs31 (by decide) rfl).trans wv23
  have wv35 : zJ s31 rA 1 = zJ σ0 rW 1 := ((hTo.k trA (by decide)).eJ hEs31 (by decide) rfl).trans wv24
  have wv36 : zJ s31 rA 2 = zJ σ0 rW 2 := ((hTo.k trA (by decide)).eJ hEs31 (by decide) rfl).trans wv25
  obtain ⟨f37, f38⟩ := hφ
  have B39 := f37.b
  rw [erW] at B39
  have K40 : zI s31 this 7 = zI σ0 this 7 := hT.eI t_this (by decide) rfl rfl
  have K40n : (zI s31 this 7).toInt = (zI σ0 this 7).toInt := by rw [K40]
  have P41 : zI s31 rP = zI σ0 rP := funext fun k => hT.eI trP (by decide) rfl rfl
  try simp only [K40, P41] at B39
  try simp only [erW, erP, ix_0, ix_1, ix_2, ix_3, ix_4, ix_5, ix_6, ix_7, ix_8, ix_9, K28, P29, K40, P41] at f38
  have wv42 : zJ s31 rW 0 = zJ σ0 rW 0 := by have z9 := f38 0 (by decide); (try rw [erW] at z9); (try rw [erA] at z9); exact z9.trans wv23
  have wv43 : zJ s31 rW 1 = zJ σ0 rW 1 := by have z9 := f38 1 (by decide); (try rw [erW] at z9); (try rw [erA] at z9); exact z9.trans wv24
  have wv44 : zJ s31 rW 2 = zJ σ0 rW 2 := by have z9 := f38 2 (by decide); (try rw [erW] at z9); (try rw [erA] at z9); exact z9.trans wv25
  subst hQ9
  exact t_l hx hb hr hlocks hT ⟨f37, (by rw [erW]; exact (fun j hj => by rcases (show j = 0 ∨ j = 1 ∨ j = 2 by omega) with rfl | rfl | rfl <;> first | exact wv42 | exact wv43 | exact wv44))⟩ dX6_errorBy_15
set_option maxHeartbeats 4000000 in
set_option maxRecDepth 100000 in
theorem X6_errorWith (l : Launch) (κ : Kt) (σ0 : Gh) (this : Nat) (th : Int32) (so : Int32) (t_this : zk σ0 this 20) (b_so : isB so) (h0 : RI κ σ0 this) : TC l yX6_errorWith cX6_errorWith 3 (some .long) 5 128 [.ref this, .int th, .int so] κ σ0 (tql κ gZb σ0 (fun (r : Int64) (τ : Gh) => (RI κ τ this) ∧ (∀ j : Nat, j < 3 → zJ τ (kR κ this 1) j = zJ σ0 (kR κ this 1) j))) := by
  refine TC.of gZb (by decide +kernel) (Nat.le_of_ble_eq_true rfl) ?_
  intro p e s m below meth c ls hcs hK hX hT hl
  obtain ⟨hx, hb, hr, hml, hown, hg, hlocks, hin⟩ := hcs
  have hown : s.vm.findClass RX6 = some m.cls := hown
  have hl : lv_has ls 3 [(0, .ref this), (1, .int th), (2, .int so)] := hl
  have hT0 := hT
  have n0 : (0 : Int32).toInt = 0 := by decide
  have n1 : (1 : Int32).toInt = 1 := by decide
  have j0 : (0 : Int64).toInt = 0 := by decide
  have j9999 : (9999 : Int64).toInt = 9999 := by decide
  have th_lo := Int32.le_toInt th
  have th_hi := Int32.toInt_lt th
  generalize hQ9 : tQ _ _ _ _ _ _ = Q9
  obtain ⟨rW, erW⟩ : ∃ z, kR κ this 1 = z := ⟨_, rfl⟩
  have trW : zk σ0 rW 21 := by rw [← erW]; exact h0.1.2.1
  obtain ⟨rP, erP⟩ : ∃ z, kR κ this 5 = z := ⟨_, rfl⟩
  have trP : zk σ0 rP 25 := by rw [← erP]; exact h0.1.2.2.2.2
  have hB0 := h0.b
  rw [erW] at hB0
  have hW := h0.2.1
  rw [erW] at hW
  have hP := h0.2.2.1
  rw [erP] at hP
  have hrN : (rN σ0 this : Int) = (zI σ0 this 7).toInt := by unfold rN; omega
  have wv0_0 : zJ σ0 rW 0 = zJ σ0 rW 0 := rfl
  have wv1_0 : zJ σ0 rW 1 = zJ σ0 rW 1 := rfl
  have wv2_0 : zJ σ0 rW 2 = zJ σ0 rW 2 := rfl
  refine lv_aload_n hx hb dX6_errorWith_0 rfl (lv_at hl 0 rfl) ?_
  refine lv_iload_n hx hb dX6_errorWith_1 rfl (lv_at hl 1 rfl) ?_
  refine lv_i2l hx hb dX6_errorWith_2 rfl ?_
  refine g_i2l (fun t1 ht1 => ?_)
  refine lv_lconst (v := 0) hx hb dX6_errorWith_3 (by decide) ?_
  refine lv_ldc2 hx hb hown (hg _ k1568) dX6_errorWith_4 ?_
  have hTo := hT
  refine tSi (n := 3) (As := [.long t1, .long 0, .long 9999]) (rest := [.ref this]) hx hb hml hown hg hT hK hX (X6_in l κ σ0 t1 0 9999   ) sub_fE_gZb (mwS k1317 k1318 k92 k1319) ⟨rfl, by decide, by decide, by decide +kernel⟩ ⟨(Nat.le_of_ble_eq_true rfl), (Nat.le_of_ble_eq_true rfl)⟩ rfl hl.1 rfl (Nat.le_of_ble_eq_true rfl) dX6_errorWith_7 zroom.rf (fun x2 s3 H locs hφ hEs3 hT => ?_)
  have R4 : RI κ s3 this := h0.ext hEs3 ⟨rfl, rfl, fun _ => rfl, fun _ => rfl, fun _ => rfl, fun _ => rfl⟩
  have B5 := R4.b
  rw [erW] at B5
  have K6 : zI s3 this 7 = zI σ0 this 7 := hT.eI t_this (by decide) rfl rfl
  have K6n : (zI s3 this 7).toInt = (zI σ0 this 7).toInt := by rw [K6]
  have P7 : zI s3 rP = zI σ0 rP := funext fun k => hT.eI trP (by decide) rfl rfl
  try simp only [K6, P7] at B5
  have wv8 : zJ s3 rW 0 = zJ σ0 rW 0 := ((hTo.k trW (by decide)).eJ hEs3 (by decide) rfl).trans wv0_0
  have wv9 : zJ s3 rW 1 = zJ σ0 rW 1 := ((hTo.k trW (by decide)).eJ hEs3 (by decide) rfl).trans wv1_0
  have wv10 : zJ s3 rW 2 = zJ σ0 rW 2 := ((hTo.k trW (by decide)).eJ hEs3 (by decide) rfl).trans wv2_0
  obtain ⟨f11, f12⟩ := hφ
  try simp only [erW, erP, ix_0, ix_1, ix_2, ix_3, ix_4, ix_5, ix_6, ix_7, ix_8, ix_9, K6, P7] at f11
  refine lv_if_eq (tgt := 17) hx hb dX6_errorWith_10 (by decide) (fun c9 => ?_) (fun c9 => ?_)
  · have c1 := gi_eq c9
    refine lv_iconst (v := 1) hx hb dX6_errorWith_17 (by decide) ?_
    have hTo := hT
    refine pf20_0 hx hb hg hown hK hT (hT.k t_this (by decide)) rfl (hg _ k1219) dX6_errorWith_18 (fun H locs s13 hus13 hT => ?_)
    have R14 : RI κ s13 this := R4.put hus13 (hTo.k t_this (by decide)) (by decide)
    have B15 := R14.b
    rw [erW] at B15
    have K16 : zI s13 this 7 = zI σ0 this 7 := hT.eI t_this (by decide) rfl rfl
    have K16n : (zI s13 this 7).toInt = (zI σ0 this 7).toInt := by rw [K16]
    have P17 : zI s13 rP = zI σ0 rP := funext fun k => hT.eI trP (by decide) rfl rfl
    try simp only [K16, P17] at B15
    have wv18 : zJ s13 rW 0 = zJ σ0 rW 0 := (congrFun (zput_J (x := rW) hus13) 0).trans wv8
    have wv19 : zJ s13 rW 1 = zJ σ0 rW 1 := (congrFun (zput_J (x := rW) hus13) 1).trans wv9
    have wv20 : zJ s13 rW 2 = zJ σ0 rW 2 := (congrFun (zput_J (x := rW) hus13) 2).trans wv10
    have e21 : zI s13 this 0 = 1 := zput_at hus13
    refine lv_aload_n hx hb dX6_errorWith_21 rfl (lv_at hl 0 rfl) ?_
    refine va_get (D := κ.1) (ci := 6) (v := .int (zI s13 this 0)) (C := RX6) (T := TX6) (N := 27) hx hb hg inX6 hown hK (hT.o20 (hT.k t_this (by decide))).one 0 rfl rfl 0 (by decide) (hg _ k1219) (fun _ h9 => h9) rfl dX6_errorWith_22 ?_
    rw [e21]
    refine lv_if_le (tgt := 32) hx hb dX6_errorWith_25 (by decide) (fun c9 => absurd c9 (by decide)) (fun _ => ?_)
    refine lv_lconst (v := 0) hx hb dX6_errorWith_28 (by decide) ?_
    refine lv_goto (tgt := 38) hx hb dX6_errorWith_29 (by decide) ?_
    subst hQ9
    exact t_l hx hb hr hlocks hT ⟨R14, (by rw [erW]; exact (fun j hj => by rcases (show j = 0 ∨ j = 1 ∨ j = 2 by omega) with rfl | rfl | rfl <;> first | exact wv18 | exact wv19 | exact wv20))⟩ dX6_errorWith_38
  · have c2 := gi_ne c9
    refine lv_iconst (v := 0) hx hb dX6_errorWith_13 (by decide) ?_
    refine lv_goto (tgt := 18) hx hb dX6_errorWith_14 (by decide) ?_
    have hTo := hT
    refine pf20_0 hx hb hg hown hK hT (hT.k t_this (by decide)) rfl (hg _ k1219) dX6_errorWith_18 (fun H locs s22 hus22 hT => ?_)
    have R23 : RI κ s22 this := R4.put hus22 (hTo.k t_this (by decide)) (by decide)
    have B24 := R23.b
    rw [erW] at B24
    have K25 : zI s22 this 7 = zI σ0 this 7 := hT.eI t_this (by decide) rfl rfl
    have K25n : (zI s22 this 7).toInt = (zI σ0 this 7).toInt := by rw [K25]
    have P26 : zI s22 rP = zI σ0 rP := funext fun k => hT.eI trP (by decide) rfl rfl
    try simp only [K25, P26] at B24
    have wv27 : zJ s22 rW 0 = zJ σ0 rW 0 := (congrFun (zput_J (x := rW) hus22) 0).trans wv8
    have wv28 : zJ s22 rW 1 = zJ σ0 rW 1 := (congrFun (zput_J (x := rW) hus22) 1).trans wv9
    have wv29 : zJ s22 rW 2 = zJ σ0 rW 2 := (congrFun (zput_J (x := rW) hus22) 2).trans wv10
    have e30 : zI s22 this 0 = 0 := zput_at hus22
    refine lv_aload_n hx hb dX6_errorWith_21 rfl (lv_at hl 0 rfl) ?_
    refine va_get (D := κ.1) (ci := 6) (v := .int (zI s22 this 0)) (C := RX6) (T := TX6) (N := 27) hx hb hg inX6 hown hK (hT.o20 (hT.k t_this (by decide))).one 0 rfl rfl 0 (by decide) (hg _ k1219) (fun _ h9 => h9) rfl dX6_errorWith_22 ?_
    rw [e30]
    refine lv_if_le (tgt := 32) hx hb dX6_errorWith_25 (by decide) (fun _ => ?_) (fun c9 => absurd (by decide) c9)
    refine lv_aload_n hx hb dX6_errorWith_32 rfl (lv_at hl 0 rfl) ?_
    refine lv_iload_n hx hb dX6_errorWith_33 rfl (lv_at hl 1 rfl) ?_
    refine lv_iload_n hx hb dX6_errorWith_34 rfl (lv_at hl 2 rfl) ?_
    have hTo := hT
    refine tVl (n := 2) (As := [.int th, .int so]) (rest := []) hx hb hml hown hg hT hK hX (X6_errorBy l κ s22 this th so  (hT.k t_this (by decide)) b_so R23) sub_gYb_gZb (mwV k1662 k1664 k81 k92 k1665) ⟨rfl, by decide, by decide, by decide +kernel⟩ ⟨(Nat.le_of_ble_eq_true rfl), (Nat.le_of_ble_eq_true rfl)⟩ (hT.o20 (hT.k t_this (by decide))) rfl rfl hl.1 rfl (Nat.le_of_ble_eq_true rfl) dX6_errorWith_35 zroom.rf (fun x31 s32 H locs hφ hEs32 hT => ?_)
    have e30 : zI s32 this 0 = 0 := ((hTo.k t_this (by decide)).eI hEs32 (by decide) rfl).trans e30
    obtain ⟨f34, f35⟩ := hφ
    have B36 := f34.b
    rw [erW] at B36
    have K37 : zI s32 this 7 = zI σ0 this 7 := hT.eI t_this (by decide) rfl rfl
    have K37n : (zI s32 this 7).toInt = (zI σ0 this 7).toInt := by rw [K37]
    have P38 : zI s32 rP = zI σ0 rP := funext fun k => hT.eI trP (by decide) rfl rfl
    try simp only [K37, P38] at B36
    try simp only [erW, erP, ix_0, ix_1, ix_2, ix_3, ix_4, ix_5, ix_6, ix_7, ix_8, ix_9, K25, P26, K37, P38] at f35
    have wv39 : zJ s32 rW 0 = zJ σ0 rW 0 := by have z9 := f35 0 (by decide); (try rw [erW] at z9); (try rw [erA] at z9); exact z9.trans wv27
    have wv40 : zJ s32 rW 1 = zJ σ0 rW 1 := by have z9 := f35 1 (by decide); (try rw [erW] at z9); (try rw [erA] at z9); exact z9.trans wv28
    have wv41 : zJ s32 rW 2 = zJ σ0 rW 2 := by have z9 := f35 2 (by decide); (try rw [erW] at z9); (try rw [erA] at z9); exact z9.trans wv29
    subst hQ9
    exact t_l hx hb hr hlocks hT ⟨f34, (by rw [erW]; exact (fun j hj => by rcases (show j = 0 ∨ j = 1 ∨ j = 2 by omega) with rfl | rfl | rfl <;> first | exact wv39 | exact wv40 | exact wv41))⟩ dX6_errorWith_38
set_option maxHeartbeats 4000000 in
set_option maxRecDepth 100000 in
theorem X6_bestThreshold (l : Launch) (κ : Kt) (σ0 : Gh) (this : Nat) (er : Int32) (t_this : zk σ0 this 20) (h0 : RI κ σ0 this) : TC l yX6_bestThreshold cX6_bestThreshold 3 (some .int) 5 128 [.ref this, .int er] κ σ0 (tqi κ gZb σ0 (fun (r : Int32) (τ : Gh) => (RI κ τ this) ∧ (∀ j : Nat, j < 3 → zJ τ (kR κ this 1) j = zJ σ0 (kR κ this 1) j))) := by
  refine TC.of gZb (by decide +kernel) (Nat.le_of_ble_eq_true rfl) ?_
  intro p e s m below meth c ls hcs hK hX hT hl
  obtain ⟨hx, hb, hr, hml, hown, hg, hlocks, hin⟩ := hcs
  have hown : s.vm.findClass RX6 = some m.cls := hown
  have hl : lv_has ls 3 [(0, .ref this), (1, .int er)] := hl
  have hT0 := hT
  have n0 : (0 : Int32).toInt = 0 := by decide
  have n1 : (1 : Int32).toInt = 1 := by decide
  have n2 : (2 : Int32).toInt = 2 := by decide
  have n1000 : (1000 : Int32).toInt = 1000 := by decide
  have j0 : (0 : Int64).toInt = 0 := by decide
  have j99999 : (99999 : Int64).toInt = 99999 := by decide
  have er_lo := Int32.le_toInt er
  have er_hi := Int32.toInt_lt er
  generalize hQ9 : tQ _ _ _ _ _ _ = Q9
  obtain ⟨rW, erW⟩ : ∃ z, kR κ this 1 = z := ⟨_, rfl⟩
  have trW : zk σ0 rW 21 := by rw [← erW]; exact h0.1.2.1
  obtain ⟨rP, erP⟩ : ∃ z, kR κ this 5 = z := ⟨_, rfl⟩
  have trP : zk σ0 rP 25 := by rw [← erP]; exact h0.1.2.2.2.2
  have hB0 := h0.b
  rw [erW] at hB0
  have hW := h0.2.1
  rw [erW] at hW
  have hP := h0.2.2.1
  rw [erP] at hP
  have hrN : (rN σ0 this : Int) = (zI σ0 this 7).toInt := by unfold rN; omega
  have wv0_0 : zJ σ0 rW 0 = zJ σ0 rW 0 := rfl
  have wv1_0 : zJ σ0 rW 1 = zJ σ0 rW 1 := rfl
  have wv2_0 : zJ σ0 rW 2 = zJ σ0 rW 2 := rfl
  refine lv_aload_n hx hb dX6_bestThreshold_0 rfl (lv_at hl 0 rfl) ?_
  refine lv_iload_n hx hb dX6_bestThreshold_1 rfl (lv_at hl 1 rfl) ?_
  refine lv_i2l hx hb dX6_bestThreshold_2 rfl ?_
  refine g_i2l (fun t1 ht1 => ?_)
  refine lv_lconst (v := 0) hx hb dX6_bestThreshold_3 (by decide) ?_
  refine lv_ldc2 hx hb hown (hg _ k1625) dX6_bestThreshold_4 ?_
  have hTo := hT
  refine tSi (n := 3) (As := [.long t1, .long 0, .long 99999]) (rest := [.ref this]) hx hb hml hown hg hT hK hX (X6_in l κ σ0 t1 0 99999   ) sub_fE_gZb (mwS k1317 k1318 k92 k1319) ⟨rfl, by decide, by decide, by decide +kernel⟩ ⟨(Nat.le_of_ble_eq_true rfl), (Nat.le_of_ble_eq_true rfl)⟩ rfl hl.1 rfl (Nat.le_of_ble_eq_true rfl) dX6_bestThreshold_7 zroom.rf (fun x2 s3 H locs hφ hEs3 hT => ?_)
  have R4 : RI κ s3 this := h0.ext hEs3 ⟨rfl, rfl, fun _ => rfl, fun _ => rfl, fun _ => rfl, fun _ => rfl⟩
  have B5 := R4.b
  rw [erW] at B5
  have K6 : zI s3 this 7 = zI σ0 this 7 := hT.eI t_this (by decide) rfl rfl
  have K6n : (zI s3 this 7).toInt = (zI σ0 this 7).toInt := by rw [K6]
  have P7 : zI s3 rP = zI σ0 rP := funext fun k => hT.eI trP (by decide) rfl rfl
  try simp only [K6, P7] at B5
  have wv8 : zJ s3 rW 0 = zJ σ0 rW 0 := ((hTo.k trW (by decide)).eJ hEs3 (by decide) rfl).trans wv0_0
  have wv9 : zJ s3 rW 1 = zJ σ0 rW 1 := ((hTo.k trW (by decide)).eJ hEs3 (by decide) rfl).trans wv1_0
  have wv10 : zJ s3 rW 2 = zJ σ0 rW 2 := ((hTo.k trW (by decide)).eJ hEs3 (by decide) rfl).trans wv2_0
  obtain ⟨f11, f12⟩ := hφ
  try simp only [erW, erP, ix_0, ix_1, ix_2, ix_3, ix_4, ix_5, ix_6, ix_7, ix_8, ix_9, K6, P7] at f11
  refine lv_if_eq (tgt := 17) hx hb dX6_bestThreshold_10 (by decide) (fun c9 => ?_) (fun c9 => ?_)
  · have c1 := gi_eq c9
    refine lv_iconst (v := 1) hx hb dX6_bestThreshold_17 (by decide) ?_
    have hTo := hT
    refine pf20_0 hx hb hg hown hK hT (hT.k t_this (by decide)) rfl (hg _ k1219) dX6_bestThreshold_18 (fun H locs s13 hus13 hT => ?_)
    have R14 : RI κ s13 this := R4.put hus13 (hTo.k t_this (by decide)) (by decide)
    have B15 := R14.b
    rw [erW] at B15
    have K16 : zI s13 this 7 = zI σ0 this 7 := hT.eI t_this (by decide) rfl rfl
    have K16n : (zI s13 this 7).toInt = (zI σ0 this 7).toInt := by rw [K16]
    have P17 : zI s13 rP = zI σ0 rP := funext fun k => hT.eI trP (by decide) rfl rfl
    try simp only [K16, P17] at B15
    have wv18 : zJ s13 rW 0 = zJ σ0 rW 0 := (congrFun (zput_J (x := rW) hus13) 0).trans wv8
    have wv19 : zJ s13 rW 1 = zJ σ0 rW 1 := (congrFun (zput_J (x := rW) hus13) 1).trans wv9
    have wv20 : zJ s13 rW 2 = zJ σ0 rW 2 := (congrFun (zput_J (x := rW) hus13) 2).trans wv10
    have e21 : zI s13 this 0 = 1 := zput_at hus13
    refine lv_aload_n hx hb dX6_bestThreshold_21 rfl (lv_at hl 0 rfl) ?_
    refine va_get (D := κ.1) (ci := 6) (v := .int (zI s13 this 0)) (C := RX6) (T := TX6) (N := 27) hx hb hg inX6 hown hK (hT.o20 (hT.k t_this (by decide))).one 0 rfl rfl 0 (by decide) (hg _ k1219) (fun _ h9 => h9) rfl dX6_bestThreshold_22 ?_
    rw [e21]
    refine lv_if_le (tgt := 30) hx hb dX6_bestThreshold_25 (by decide) (fun c9 => absurd c9 (by decide)) (fun _ => ?_)
    refine lv_iconst (v := 0) hx hb dX6_bestThreshold_28 (by decide) ?_
    subst hQ9
    exact t_i hx hb hr hlocks hT ⟨R14, (by rw [erW]; exact (fun j hj => by rcases (show j = 0 ∨ j = 1 ∨ j = 2 by omega) with rfl | rfl | rfl <;> first | exact wv18 | exact wv19 | exact wv20))⟩ dX6_bestThreshold_29
  · have c2 := gi_ne c9
    refine lv_iconst (v := 0) hx hb dX6_bestThreshold_13 (by decide) ?_
    refine lv_goto (tgt := 18) hx hb dX6_bestThreshold_14 (by decide) ?_
    have hTo := hT
    refine pf20_0 hx hb hg hown hK hT (hT.k t_this (by decide)) rfl (hg _ k1219) dX6_bestThreshold_18 (fun H locs s22 hus22 hT => ?_)
    have R23 : RI κ s22 this := R4.put hus22 (hTo.k t_this (by decide)) (by decide)
    have B24 := R23.b
    rw [erW] at B24
    have K25 : zI s22 this 7 = zI σ0 this 7 := hT.eI t_this (by decide) rfl rfl
    have K25n : (zI s22 this 7).toInt = (zI σ0 this 7).toInt := by rw [K25]
    have P26 : zI s22 rP = zI σ0 rP := funext fun k => hT.eI trP (by decide) rfl rfl
    try simp only [K25, P26] at B24
    have wv27 : zJ s22 rW 0 = zJ σ0 rW 0 := (congrFun (zput_J (x := rW) hus22) 0).trans wv8
    have wv28 : zJ s22 rW 1 = zJ σ0 rW 1 := (congrFun (zput_J (x := rW) hus22) 1).trans wv9
    have wv29 : zJ s22 rW 2 = zJ σ0 rW 2 := (congrFun (zput_J (x := rW) hus22) 2).trans wv10
    have e30 : zI s22 this 0 = 0 := zput_at hus22
    refine lv_aload_n hx hb dX6_bestThreshold_21 rfl (lv_at hl 0 rfl) ?_
    refine va_get (D := κ.1) (ci := 6) (v := .int (zI s22 this 0)) (C := RX6) (T := TX6) (N := 27) hx hb hg inX6 hown hK (hT.o20 (hT.k t_this (by decide))).one 0 rfl rfl 0 (by decide) (hg _ k1219) (fun _ h9 => h9) rfl dX6_bestThreshold_22 ?_
    rw [e30]
    refine lv_if_le (tgt := 30) hx hb dX6_bestThreshold_25 (by decide) (fun _ => ?_) (fun c9 => absurd (by decide) c9)
    refine lv_sipush (v := 1000) hx hb dX6_bestThreshold_30 (by decide) ?_
    refine lv_istore_n (lv' := [(2, .int 1000), (0, .ref this), (1, .int er)]) hx hb dX6_bestThreshold_33 rfl hl (by decide) rfl (fun ls hl => ?_)
    have loop34 : ∀ (n9 : Nat) (tt : Int32) (H : Heap) (locs : List Loc) (sg : Gh) (ls : Array Slot), TS κ gZb σ0 sg s H locs → (RI κ sg this) → (-1 ≤ tt.toInt) → (tt.toInt ≤ 1000) → (zJ sg rW 0 = zJ σ0 rW 0) → (zJ sg rW 1 = zJ σ0 rW 1) → (zJ sg rW 2 = zJ σ0 rW 2) → lv_has ls 3 [(2, .int tt), (0, .ref this), (1, .int er)] → (tt.toInt + 1) < n9 → tW p l e 5 128 κ s m #[.ref this, .int er] below meth c H locs Q9 (F0 m 34 ls []) := by
      intro n9
      induction n9 with
      | zero =>
        intro tt H locs sg ls hT RI0 q1 q2 iw0 iw1 iw2 hl hm9
        exfalso
        omega
      | succ n9 ih9 =>
        have ih34 := ih9
        clear ih9
        intro tt H locs s31 ls hT RI0 q1 q2 iw0 iw1 iw2 hl hm9
        have B32 := RI0.b
        rw [erW] at B32
        have K33 : zI s31 this 7 = zI σ0 this 7 := hT.eI t_this (by decide) rfl rfl
        have K33n : (zI s31 this 7).toInt = (zI σ0 this 7).toInt := by rw [K33]
        have P34 : zI s31 rP = zI σ0 rP := funext fun k => hT.eI trP (by decide) rfl rfl
        try simp only [K33, P34] at B32
        refine lv_iload_n hx hb dX6_bestThreshold_34 rfl (lv_at hl 0 rfl) ?_
        refine lv_if_lt (tgt := 56) hx hb dX6_bestThreshold_35 (by decide) (fun c9 => ?_) (fun c9 => ?_)
        · have c3 := gi_lt c9
          refine lv_iload_n hx hb dX6_bestThreshold_56 rfl (lv_at hl 0 rfl) ?_
          refine lv_if_ge (tgt := 68) hx hb dX6_bestThreshold_57 (by decide) (fun c9 => ?_) (fun c9 => ?_)
          · have c4 := gi_le c9
            refine lv_iload_n hx hb dX6_bestThreshold_68 rfl (lv_at hl 0 rfl) ?_
            subst hQ9
            exact t_i hx hb hr hlocks hT ⟨RI0, (by rw [erW]; exact (fun j hj => by rcases (show j = 0 ∨ j = 1 ∨ j = 2 by omega) with rfl | rfl | rfl <;> first | exact iw0 | exact iw1 | exact iw2))⟩ dX6_bestThreshold_69
          · have c5 := gi_nle c9
            refine lv_aload_n hx hb dX6_bestThreshold_60 rfl (lv_at hl 1 rfl) ?_
            refine lv_iconst (v := 2) hx hb dX6_bestThreshold_61 (by decide) ?_
            have hTo := hT
            refine tVi (n := 1) (As := [.int 2]) (rest := []) hx hb hml hown hg hT hK hX (X6_fails l κ s31 this 2  (hT.k t_this (by decide)) RI0) sub_gR_gZb (mwV k1320 k1322 k37 k92 k1323) ⟨rfl, by decide, by decide, by decide +kernel⟩ ⟨(Nat.le_of_ble_eq_true rfl), (Nat.le_of_ble_eq_true rfl)⟩ (hT.o20 (hT.k t_this (by decide))) rfl rfl hl.1 rfl (Nat.le_of_ble_eq_true rfl) dX6_bestThreshold_62 zroom.rf (fun x35 s36 H locs hφ hEs36 hT => ?_)
            have R37 : RI κ s36 this := RI0.ext hEs36 ⟨rfl, rfl, fun _ => rfl, fun _ => rfl, fun _ => rfl, fun _ => rfl⟩
            have B38 := R37.b
            rw [erW] at B38
            have K39 : zI s36 this 7 = zI σ0 this 7 := hT.eI t_this (by decide) rfl rfl
            have K39n : (zI s36 this 7).toInt = (zI σ0 this 7).toInt := by rw [K39]
            have P40 : zI s36 rP = zI σ0 rP := funext fun k => hT.eI trP (by decide) rfl rfl
            try simp only [K39, P40] at B38
            have wv41 : zJ s36 rW 0 = zJ σ0 rW 0 := ((hTo.k trW (by decide)).eJ hEs36 (by decide) rfl).trans iw0
            have wv42 : zJ s36 rW 1 = zJ σ0 rW 1 := ((hTo.k trW (by decide)).eJ hEs36 (by decide) rfl).trans iw1
            have wv43 : zJ s36 rW 2 = zJ σ0 rW 2 := ((hTo.k trW (by decide)).eJ hEs36 (by decide) rfl).trans iw2
            have f44 := hφ
            try simp only [erW, erP, ix_0, ix_1, ix_2, ix_3, ix_4, ix_5, ix_6, ix_7, ix_8, ix_9, K33, P34, K39, P40] at f44
            refine lv_goto (tgt := 69) hx hb dX6_bestThreshold_65 (by decide) ?_
            subst hQ9
            exact t_i hx hb hr hlocks hT ⟨R37, (by rw [erW]; exact (fun j hj => by rcases (show j = 0 ∨ j = 1 ∨ j = 2 by omega) with rfl | rfl | rfl <;> first | exact wv41 | exact wv42 | exact wv43))⟩ dX6_bestThreshold_69
        · have c6 := gi_nlt c9
          refine lv_aload_n hx hb dX6_bestThreshold_38 rfl (lv_at hl 1 rfl) ?_
          refine lv_iload_n hx hb dX6_bestThreshold_39 rfl (lv_at hl 0 rfl) ?_
          refine lv_iconst (v := 0) hx hb dX6_bestThreshold_40 (by decide) ?_
          have hTo := hT
          refine tVl (n := 2) (As := [.int tt, .int 0]) (rest := []) hx hb hml hown hg hT hK hX (X6_errorBy l κ s31 this tt 0  (hT.k t_this (by decide)) isB0 RI0) sub_gYb_gZb (mwV k1662 k1664 k81 k92 k1665) ⟨rfl, by decide, by decide, by decide +kernel⟩ ⟨(Nat.le_of_ble_eq_true rfl), (Nat.le_of_ble_eq_true rfl)⟩ (hT.o20 (hT.k t_this (by decide))) rfl rfl hl.1 rfl (Nat.le_of_ble_eq_true rfl) dX6_bestThreshold_41 zroom.rf (fun x45 s46 H locs hφ hEs46 hT => ?_)
          obtain ⟨f48, f49⟩ := hφ
          have B50 := f48.b
          rw [erW] at B50
          have K51 : zI s46 this 7 = zI σ0 this 7 := hT.eI t_this (by decide) rfl rfl
          have K51n : (zI s46 this 7).toInt = (zI σ0 this 7).toInt := by rw [K51]
          have P52 : zI s46 rP = zI σ0 rP := funext fun k => hT.eI trP (by decide) rfl rfl
          try simp only [K51, P52] at B50
          try simp only [erW, erP, ix_0, ix_1, ix_2, ix_3, ix_4, ix_5, ix_6, ix_7, ix_8, ix_9, K33, P34, K51, P52] at f49
          have wv53 : zJ s46 rW 0 = zJ σ0 rW 0 := by have z9 := f49 0 (by decide); (try rw [erW] at z9); (try rw [erA] at z9); exact z9.trans iw0
          have wv54 : zJ s46 rW 1 = zJ σ0 rW 1 := by have z9 := f49 1 (by decide); (try rw [erW] at z9); (try rw [erA] at z9); exact z9.trans iw1
          have wv55 : zJ s46 rW 2 = zJ σ0 rW 2 := by have z9 := f49 2 (by decide); (try rw [erW] at z9); (try rw [erA] at z9); exact z9.trans iw2
          refine lv_iload_n hx hb dX6_bestThreshold_44 rfl (lv_at hl 2 rfl) ?_
          refine lv_i2l hx hb dX6_bestThreshold_45 rfl ?_
          refine g_i2l (fun t56 ht56 => ?_)
          refine W.lcmp hx hb dX6_bestThreshold_46 ?_
          refine lv_if_le (tgt := 56) hx hb dX6_bestThreshold_47 (by decide) (fun c9 => ?_) (fun c9 => ?_)
          · have c7 := gl_le c9
            refine lv_iload_n hx hb dX6_bestThreshold_56 rfl (lv_at hl 0 rfl) ?_
            refine lv_if_ge (tgt := 68) hx hb dX6_bestThreshold_57 (by decide) (fun c9 => ?_) (fun c9 => ?_)
            · have c8 := gi_le c9
              refine lv_iload_n hx hb dX6_bestThreshold_68 rfl (lv_at hl 0 rfl) ?_
              subst hQ9
              exact t_i hx hb hr hlocks hT ⟨f48, (by rw [erW]; exact (fun j hj => by rcases (show j = 0 ∨ j = 1 ∨ j = 2 by omega) with rfl | rfl | rfl <;> first | exact wv53 | exact wv54 | exact wv55))⟩ dX6_bestThreshold_69
            · have c9 := gi_nle c9
              refine lv_aload_n hx hb dX6_bestThreshold_60 rfl (lv_at hl 1 rfl) ?_
              refine lv_iconst (v := 2) hx hb dX6_bestThreshold_61 (by decide) ?_
              have hTo := hT
              refine tVi (n := 1) (As := [.int 2]) (rest := []) hx hb hml hown hg hT hK hX (X6_fails l κ s46 this 2  (hT.k t_this (by decide)) f48) sub_gR_gZb (mwV k1320 k1322 k37 k92 k1323) ⟨rfl, by decide, by decide, by decide +kernel⟩ ⟨(Nat.le_of_ble_eq_true rfl), (Nat.le_of_ble_eq_true rfl)⟩ (hT.o20 (hT.k t_this (by decide))) rfl rfl hl.1 rfl (Nat.le_of_ble_eq_true rfl) dX6_bestThreshold_62 zroom.rf (fun x57 s58 H locs hφ hEs58 hT => ?_)
              have R59 : RI κ s58 this := f48.ext hEs58 ⟨rfl, rfl, fun _ => rfl, fun _ => rfl, fun _ => rfl, fun _ => rfl⟩
              have B60 := R59.b
              rw [erW] at B60
              have K61 : zI s58 this 7 = zI σ0 this 7 := hT.eI t_this (by decide) rfl rfl
              have K61n : (zI s58 this 7).toInt = (zI σ0 this 7).toInt := by rw [K61]
              have P62 : zI s58 rP = zI σ0 rP := funext fun k => hT.eI trP (by decide) rfl rfl
              try simp only [K61, P62] at B60
              have wv63 : zJ s58 rW 0 = zJ σ0 rW 0 := ((hTo.k trW (by decide)).eJ hEs58 (by decide) rfl).trans wv53
              have wv64 : zJ s58 rW 1 = zJ σ0 rW 1 := ((hTo.k trW (by decide)).eJ hEs58 (by decide) rfl).trans wv54
              have wv65 : zJ s58 rW 2 = zJ σ0 rW 2 := ((hTo.k trW (by decide)).eJ hEs58 (by decide) rfl).trans wv55
              have f66 := hφ
              try simp only [erW, erP, ix_0, ix_1, ix_2, ix_3, ix_4, ix_5, ix_6, ix_7, ix_8, ix_9, K51, P52, K61, P62] at f66
              refine lv_goto (tgt := 69) hx hb dX6_bestThreshold_65 (by decide) ?_
              subst hQ9
              exact t_i hx hb hr hlocks hT ⟨R59, (by rw [erW]; exact (fun j hj => by rcases (show j = 0 ∨ j = 1 ∨ j = 2 by omega) with rfl | rfl | rfl <;> first | exact wv63 | exact wv64 | exact wv65))⟩ dX6_bestThreshold_69
          · have c10 := gl_nle c9
            obtain ⟨t67, qt67⟩ : ∃ zz9 : Int32, tt + Int32.ofInt (-1) = zz9 := ⟨_, rfl⟩
            refine lv_iinc (v := t67) (lv' := [(2, .int t67), (0, .ref this), (1, .int er)]) hx hb dX6_bestThreshold_50 hl (k := 0) rfl qt67 (by decide) rfl (fun ls hl => ?_)
            have ht67 : t67.toInt = tt.toInt + (-1) := by rw [← qt67]; exact v_addi rfl (show (Int32.ofInt (-1)).toInt = (-1) from by decide) (by omega) (by omega)
            refine lv_goto (tgt := 34) hx hb dX6_bestThreshold_53 (by decide) ?_
            exact ih34 t67 _ _ _ _ hT  f48 (by omega) (by omega) wv53 wv54 wv55 hl (by omega)
    exact loop34 (((1000 : Int32).toInt + 1).toNat + 1) 1000 _ _ _ _ hT  R23 (by omega) (by omega) wv27 wv28 wv29 hl (by omega)

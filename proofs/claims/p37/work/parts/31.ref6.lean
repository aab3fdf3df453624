/-! The reference over any state: what changes the row beside its skeleton -/
theorem sub_fE_gW : ∀ t k, gW t k = false → fE t k = false := by
  intro t k h
  simp [fE, gW] at h ⊢ <;> omega
theorem sub_fE_gX : ∀ t k, gX t k = false → fE t k = false := by
  intro t k h
  simp [fE, gX] at h ⊢ <;> omega
theorem sub_fE_gXs : ∀ t k, gXs t k = false → fE t k = false := by
  intro t k h
  simp [fE, gXs] at h ⊢ <;> omega
theorem sub_gW_gX : ∀ t k, gX t k = false → gW t k = false := by
  intro t k h
  simp [gW, gX] at h ⊢ <;> omega
theorem k69 : Cond.selects RX6 yX6_sets yX6_sets ∈ GW := gm 69 (by decide +kernel) (by decide +kernel)
theorem k74 : Cond.selects RX6 yX6_put yX6_put ∈ GW := gm 74 (by decide +kernel) (by decide +kernel)
theorem k77 : Cond.selects RX6 yX6_cuts yX6_cuts ∈ GW := gm 77 (by decide +kernel) (by decide +kernel)
theorem k1551 : Cond.methodLink RX6 286 yX6_sets ∈ GW := gm 1551 (by decide +kernel) (by decide +kernel)
theorem k1553 : Cond.instanceMethod yX6_sets ∈ GW := gm 1553 (by decide +kernel) (by decide +kernel)
theorem k1554 : Cond.code yX6_sets cX6_sets 5 (some .int) ∈ GW := gm 1554 (by decide +kernel) (by decide +kernel)
theorem k1568 : Cond.constantLong RX6 292 9999 ∈ GW := gm 1568 (by decide +kernel) (by decide +kernel)
theorem k1600 : Cond.methodLink RX6 269 yX6_put ∈ GW := gm 1600 (by decide +kernel) (by decide +kernel)
theorem k1602 : Cond.instanceMethod yX6_put ∈ GW := gm 1602 (by decide +kernel) (by decide +kernel)
theorem k1603 : Cond.code yX6_put cX6_put 5 none ∈ GW := gm 1603 (by decide +kernel) (by decide +kernel)
theorem k1624 : Cond.constantLong RX6 312 (-99999) ∈ GW := gm 1624 (by decide +kernel) (by decide +kernel)
theorem k1625 : Cond.constantLong RX6 314 99999 ∈ GW := gm 1625 (by decide +kernel) (by decide +kernel)
theorem k1630 : Cond.methodLink RX6 316 yX6_cuts ∈ GW := gm 1630 (by decide +kernel) (by decide +kernel)
theorem k1632 : Cond.instanceMethod yX6_cuts ∈ GW := gm 1632 (by decide +kernel) (by decide +kernel)
theorem k1633 : Cond.code yX6_cuts cX6_cuts 8 none ∈ GW := gm 1633 (by decide +kernel) (by decide +kernel)
theorem dX6_cuts_0 : decode cX6_cuts 0 = .ok (.iconst 0, 1) := by decide +kernel
theorem dX6_cuts_1 : decode cX6_cuts 1 = .ok (.istore_n 3, 1) := by decide +kernel
theorem dX6_cuts_2 : decode cX6_cuts 2 = .ok (.iload_n 3, 1) := by decide +kernel
theorem dX6_cuts_3 : decode cX6_cuts 3 = .ok (.aload_n 0, 1) := by decide +kernel
theorem dX6_cuts_4 : decode cX6_cuts 4 = .ok (.invokevirtual 199, 3) := by decide +kernel
theorem dX6_cuts_7 : decode cX6_cuts 7 = .ok (.if_icmp .ge 70, 3) := by decide +kernel
theorem dX6_cuts_10 : decode cX6_cuts 10 = .ok (.aload_n 0, 1) := by decide +kernel
theorem dX6_cuts_11 : decode cX6_cuts 11 = .ok (.iload_n 3, 1) := by decide +kernel
theorem dX6_cuts_12 : decode cX6_cuts 12 = .ok (.iconst 3, 1) := by decide +kernel
theorem dX6_cuts_13 : decode cX6_cuts 13 = .ok (.invokevirtual 208, 3) := by decide +kernel
theorem dX6_cuts_16 : decode cX6_cuts 16 = .ok (.lstore 4, 2) := by decide +kernel
theorem dX6_cuts_18 : decode cX6_cuts 18 = .ok (.iload_n 2, 1) := by decide +kernel
theorem dX6_cuts_19 : decode cX6_cuts 19 = .ok (.ifCond .eq 8, 3) := by decide +kernel
theorem dX6_cuts_22 : decode cX6_cuts 22 = .ok (.iload_n 1, 1) := by decide +kernel
theorem dX6_cuts_23 : decode cX6_cuts 23 = .ok (.i2l, 1) := by decide +kernel
theorem dX6_cuts_24 : decode cX6_cuts 24 = .ok (.goto 4, 3) := by decide +kernel
theorem dX6_cuts_27 : decode cX6_cuts 27 = .ok (.lconst 0, 1) := by decide +kernel
theorem dX6_cuts_28 : decode cX6_cuts 28 = .ok (.lstore 6, 2) := by decide +kernel
theorem dX6_cuts_30 : decode cX6_cuts 30 = .ok (.aload_n 0, 1) := by decide +kernel
theorem dX6_cuts_31 : decode cX6_cuts 31 = .ok (.iload_n 3, 1) := by decide +kernel
theorem dX6_cuts_32 : decode cX6_cuts 32 = .ok (.iconst 3, 1) := by decide +kernel
theorem dX6_cuts_33 : decode cX6_cuts 33 = .ok (.lload 4, 2) := by decide +kernel
theorem dX6_cuts_35 : decode cX6_cuts 35 = .ok (.invokestatic 239, 3) := by decide +kernel
theorem dX6_cuts_38 : decode cX6_cuts 38 = .ok (.iload_n 1, 1) := by decide +kernel
theorem dX6_cuts_39 : decode cX6_cuts 39 = .ok (.i2l, 1) := by decide +kernel
theorem dX6_cuts_40 : decode cX6_cuts 40 = .ok (.lcmp, 1) := by decide +kernel
theorem dX6_cuts_41 : decode cX6_cuts 41 = .ok (.ifCond .ge 7, 3) := by decide +kernel
theorem dX6_cuts_44 : decode cX6_cuts 44 = .ok (.lconst 0, 1) := by decide +kernel
theorem dX6_cuts_45 : decode cX6_cuts 45 = .ok (.goto 23, 3) := by decide +kernel
theorem dX6_cuts_48 : decode cX6_cuts 48 = .ok (.lload 4, 2) := by decide +kernel
theorem dX6_cuts_50 : decode cX6_cuts 50 = .ok (.lconst 0, 1) := by decide +kernel
theorem dX6_cuts_51 : decode cX6_cuts 51 = .ok (.lcmp, 1) := by decide +kernel
theorem dX6_cuts_52 : decode cX6_cuts 52 = .ok (.ifCond .ge 11, 3) := by decide +kernel
theorem dX6_cuts_55 : decode cX6_cuts 55 = .ok (.lload 4, 2) := by decide +kernel
theorem dX6_cuts_57 : decode cX6_cuts 57 = .ok (.lload 6, 2) := by decide +kernel
theorem dX6_cuts_59 : decode cX6_cuts 59 = .ok (.ladd, 1) := by decide +kernel
theorem dX6_cuts_60 : decode cX6_cuts 60 = .ok (.goto 8, 3) := by decide +kernel
theorem dX6_cuts_63 : decode cX6_cuts 63 = .ok (.lload 4, 2) := by decide +kernel
theorem dX6_cuts_65 : decode cX6_cuts 65 = .ok (.lload 6, 2) := by decide +kernel
theorem dX6_cuts_67 : decode cX6_cuts 67 = .ok (.lsub, 1) := by decide +kernel
theorem dX6_cuts_68 : decode cX6_cuts 68 = .ok (.invokevirtual 269, 3) := by decide +kernel
theorem dX6_cuts_71 : decode cX6_cuts 71 = .ok (.iinc 3 1, 3) := by decide +kernel
theorem dX6_cuts_74 : decode cX6_cuts 74 = .ok (.goto (-72), 3) := by decide +kernel
theorem dX6_cuts_77 : decode cX6_cuts 77 = .ok (.return_, 1) := by decide +kernel
theorem dX6_put_0 : decode cX6_put 0 = .ok (.aload_n 0, 1) := by decide +kernel
theorem dX6_put_1 : decode cX6_put 1 = .ok (.getfield 7, 3) := by decide +kernel
theorem dX6_put_4 : decode cX6_put 4 = .ok (.sipush 149, 3) := by decide +kernel
theorem dX6_put_7 : decode cX6_put 7 = .ok (.bipush 10, 2) := by decide +kernel
theorem dX6_put_9 : decode cX6_put 9 = .ok (.iload_n 1, 1) := by decide +kernel
theorem dX6_put_10 : decode cX6_put 10 = .ok (.imul, 1) := by decide +kernel
theorem dX6_put_11 : decode cX6_put 11 = .ok (.iadd, 1) := by decide +kernel
theorem dX6_put_12 : decode cX6_put 12 = .ok (.iload_n 2, 1) := by decide +kernel
theorem dX6_put_13 : decode cX6_put 13 = .ok (.iadd, 1) := by decide +kernel
theorem dX6_put_14 : decode cX6_put 14 = .ok (.lload_n 3, 1) := by decide +kernel
theorem dX6_put_15 : decode cX6_put 15 = .ok (.lastore, 1) := by decide +kernel
theorem dX6_put_16 : decode cX6_put 16 = .ok (.return_, 1) := by decide +kernel
theorem dX6_quantize_0 : decode cX6_quantize 0 = .ok (.aload_n 0, 1) := by decide +kernel
theorem dX6_quantize_1 : decode cX6_quantize 1 = .ok (.iload_n 1, 1) := by decide +kernel
theorem dX6_quantize_2 : decode cX6_quantize 2 = .ok (.i2l, 1) := by decide +kernel
theorem dX6_quantize_3 : decode cX6_quantize 3 = .ok (.lconst 1, 1) := by decide +kernel
theorem dX6_quantize_4 : decode cX6_quantize 4 = .ok (.ldc2_w 292, 3) := by decide +kernel
theorem dX6_quantize_7 : decode cX6_quantize 7 = .ok (.invokestatic 84, 3) := by decide +kernel
theorem dX6_quantize_10 : decode cX6_quantize 10 = .ok (.ifCond .eq 7, 3) := by decide +kernel
theorem dX6_quantize_13 : decode cX6_quantize 13 = .ok (.iconst 0, 1) := by decide +kernel
theorem dX6_quantize_14 : decode cX6_quantize 14 = .ok (.goto 4, 3) := by decide +kernel
theorem dX6_quantize_17 : decode cX6_quantize 17 = .ok (.iconst 1, 1) := by decide +kernel
theorem dX6_quantize_18 : decode cX6_quantize 18 = .ok (.putfield 64, 3) := by decide +kernel
theorem dX6_quantize_21 : decode cX6_quantize 21 = .ok (.lconst 0, 1) := by decide +kernel
theorem dX6_quantize_22 : decode cX6_quantize 22 = .ok (.lstore_n 2, 1) := by decide +kernel
theorem dX6_quantize_23 : decode cX6_quantize 23 = .ok (.iconst 0, 1) := by decide +kernel
theorem dX6_quantize_24 : decode cX6_quantize 24 = .ok (.istore 4, 2) := by decide +kernel
theorem dX6_quantize_26 : decode cX6_quantize 26 = .ok (.aload_n 0, 1) := by decide +kernel
theorem dX6_quantize_27 : decode cX6_quantize 27 = .ok (.getfield 64, 3) := by decide +kernel
theorem dX6_quantize_30 : decode cX6_quantize 30 = .ok (.ifCond .ne 104, 3) := by decide +kernel
theorem dX6_quantize_33 : decode cX6_quantize 33 = .ok (.iload 4, 2) := by decide +kernel
theorem dX6_quantize_35 : decode cX6_quantize 35 = .ok (.aload_n 0, 1) := by decide +kernel
theorem dX6_quantize_36 : decode cX6_quantize 36 = .ok (.invokevirtual 199, 3) := by decide +kernel
theorem dX6_quantize_39 : decode cX6_quantize 39 = .ok (.if_icmp .ge 95, 3) := by decide +kernel
theorem dX6_quantize_42 : decode cX6_quantize 42 = .ok (.aload_n 0, 1) := by decide +kernel
theorem dX6_quantize_43 : decode cX6_quantize 43 = .ok (.iload 4, 2) := by decide +kernel
theorem dX6_quantize_45 : decode cX6_quantize 45 = .ok (.iconst 3, 1) := by decide +kernel
theorem dX6_quantize_46 : decode cX6_quantize 46 = .ok (.invokevirtual 208, 3) := by decide +kernel
theorem dX6_quantize_49 : decode cX6_quantize 49 = .ok (.lstore 5, 2) := by decide +kernel
theorem dX6_quantize_51 : decode cX6_quantize 51 = .ok (.lload 5, 2) := by decide +kernel
theorem dX6_quantize_53 : decode cX6_quantize 53 = .ok (.invokestatic 239, 3) := by decide +kernel
theorem dX6_quantize_56 : decode cX6_quantize 56 = .ok (.lstore 7, 2) := by decide +kernel
theorem dX6_quantize_58 : decode cX6_quantize 58 = .ok (.lload 7, 2) := by decide +kernel
theorem dX6_quantize_60 : decode cX6_quantize 60 = .ok (.iload_n 1, 1) := by decide +kernel
theorem dX6_quantize_61 : decode cX6_quantize 61 = .ok (.i2l, 1) := by decide +kernel
theorem dX6_quantize_62 : decode cX6_quantize 62 = .ok (.lrem, 1) := by decide +kernel
theorem dX6_quantize_63 : decode cX6_quantize 63 = .ok (.lstore 9, 2) := by decide +kernel
theorem dX6_quantize_65 : decode cX6_quantize 65 = .ok (.ldc2_w 246, 3) := by decide +kernel
theorem dX6_quantize_68 : decode cX6_quantize 68 = .ok (.lload 9, 2) := by decide +kernel
theorem dX6_quantize_70 : decode cX6_quantize 70 = .ok (.lmul, 1) := by decide +kernel
theorem dX6_quantize_71 : decode cX6_quantize 71 = .ok (.iload_n 1, 1) := by decide +kernel
theorem dX6_quantize_72 : decode cX6_quantize 72 = .ok (.i2l, 1) := by decide +kernel
theorem dX6_quantize_73 : decode cX6_quantize 73 = .ok (.lcmp, 1) := by decide +kernel
theorem dX6_quantize_74 : decode cX6_quantize 74 = .ok (.ifCond .le 14, 3) := by decide +kernel
theorem dX6_quantize_77 : decode cX6_quantize 77 = .ok (.lload 7, 2) := by decide +kernel
theorem dX6_quantize_79 : decode cX6_quantize 79 = .ok (.lload 9, 2) := by decide +kernel
theorem dX6_quantize_81 : decode cX6_quantize 81 = .ok (.lsub, 1) := by decide +kernel
theorem dX6_quantize_82 : decode cX6_quantize 82 = .ok (.iload_n 1, 1) := by decide +kernel
theorem dX6_quantize_83 : decode cX6_quantize 83 = .ok (.i2l, 1) := by decide +kernel
theorem dX6_quantize_84 : decode cX6_quantize 84 = .ok (.ladd, 1) := by decide +kernel
theorem dX6_quantize_85 : decode cX6_quantize 85 = .ok (.goto 8, 3) := by decide +kernel
theorem dX6_quantize_88 : decode cX6_quantize 88 = .ok (.lload 7, 2) := by decide +kernel
theorem dX6_quantize_90 : decode cX6_quantize 90 = .ok (.lload 9, 2) := by decide +kernel
theorem dX6_quantize_92 : decode cX6_quantize 92 = .ok (.lsub, 1) := by decide +kernel
theorem dX6_quantize_93 : decode cX6_quantize 93 = .ok (.lstore 11, 2) := by decide +kernel
theorem dX6_quantize_95 : decode cX6_quantize 95 = .ok (.lload_n 2, 1) := by decide +kernel
theorem dX6_quantize_96 : decode cX6_quantize 96 = .ok (.lload 11, 2) := by decide +kernel
theorem dX6_quantize_98 : decode cX6_quantize 98 = .ok (.lload 7, 2) := by decide +kernel
theorem dX6_quantize_100 : decode cX6_quantize 100 = .ok (.lsub, 1) := by decide +kernel
theorem dX6_quantize_101 : decode cX6_quantize 101 = .ok (.invokestatic 239, 3) := by decide +kernel
theorem dX6_quantize_104 : decode cX6_quantize 104 = .ok (.ladd, 1) := by decide +kernel
theorem dX6_quantize_105 : decode cX6_quantize 105 = .ok (.lstore_n 2, 1) := by decide +kernel
theorem dX6_quantize_106 : decode cX6_quantize 106 = .ok (.aload_n 0, 1) := by decide +kernel
theorem dX6_quantize_107 : decode cX6_quantize 107 = .ok (.iload 4, 2) := by decide +kernel
theorem dX6_quantize_109 : decode cX6_quantize 109 = .ok (.iconst 3, 1) := by decide +kernel
theorem dX6_quantize_110 : decode cX6_quantize 110 = .ok (.lload 5, 2) := by decide +kernel
theorem dX6_quantize_112 : decode cX6_quantize 112 = .ok (.lconst 0, 1) := by decide +kernel
theorem dX6_quantize_113 : decode cX6_quantize 113 = .ok (.lcmp, 1) := by decide +kernel
theorem dX6_quantize_114 : decode cX6_quantize 114 = .ok (.ifCond .ge 9, 3) := by decide +kernel
theorem dX6_quantize_117 : decode cX6_quantize 117 = .ok (.lload 11, 2) := by decide +kernel
theorem dX6_quantize_119 : decode cX6_quantize 119 = .ok (.lneg, 1) := by decide +kernel
theorem dX6_quantize_120 : decode cX6_quantize 120 = .ok (.goto 5, 3) := by decide +kernel
theorem dX6_quantize_123 : decode cX6_quantize 123 = .ok (.lload 11, 2) := by decide +kernel
theorem dX6_quantize_125 : decode cX6_quantize 125 = .ok (.invokevirtual 269, 3) := by decide +kernel
theorem dX6_quantize_128 : decode cX6_quantize 128 = .ok (.iinc 4 1, 3) := by decide +kernel
theorem dX6_quantize_131 : decode cX6_quantize 131 = .ok (.goto (-105), 3) := by decide +kernel
theorem dX6_quantize_134 : decode cX6_quantize 134 = .ok (.lload_n 2, 1) := by decide +kernel
theorem dX6_quantize_135 : decode cX6_quantize 135 = .ok (.lreturn, 1) := by decide +kernel
theorem dX6_setDetail_0 : decode cX6_setDetail 0 = .ok (.aload_n 0, 1) := by decide +kernel
theorem dX6_setDetail_1 : decode cX6_setDetail 1 = .ok (.aload_n 0, 1) := by decide +kernel
theorem dX6_setDetail_2 : decode cX6_setDetail 2 = .ok (.iload_n 1, 1) := by decide +kernel
theorem dX6_setDetail_3 : decode cX6_setDetail 3 = .ok (.invokevirtual 229, 3) := by decide +kernel
theorem dX6_setDetail_6 : decode cX6_setDetail 6 = .ok (.ifCond .ne 7, 3) := by decide +kernel
theorem dX6_setDetail_9 : decode cX6_setDetail 9 = .ok (.iconst 1, 1) := by decide +kernel
theorem dX6_setDetail_10 : decode cX6_setDetail 10 = .ok (.goto 22, 3) := by decide +kernel
theorem dX6_setDetail_13 : decode cX6_setDetail 13 = .ok (.iload_n 2, 1) := by decide +kernel
theorem dX6_setDetail_14 : decode cX6_setDetail 14 = .ok (.i2l, 1) := by decide +kernel
theorem dX6_setDetail_15 : decode cX6_setDetail 15 = .ok (.ldc2_w 312, 3) := by decide +kernel
theorem dX6_setDetail_18 : decode cX6_setDetail 18 = .ok (.ldc2_w 314, 3) := by decide +kernel
theorem dX6_setDetail_21 : decode cX6_setDetail 21 = .ok (.invokestatic 84, 3) := by decide +kernel
theorem dX6_setDetail_24 : decode cX6_setDetail 24 = .ok (.ifCond .eq 7, 3) := by decide +kernel
theorem dX6_setDetail_27 : decode cX6_setDetail 27 = .ok (.iconst 0, 1) := by decide +kernel
theorem dX6_setDetail_28 : decode cX6_setDetail 28 = .ok (.goto 4, 3) := by decide +kernel
theorem dX6_setDetail_31 : decode cX6_setDetail 31 = .ok (.iconst 2, 1) := by decide +kernel
theorem dX6_setDetail_32 : decode cX6_setDetail 32 = .ok (.putfield 64, 3) := by decide +kernel
theorem dX6_setDetail_35 : decode cX6_setDetail 35 = .ok (.aload_n 0, 1) := by decide +kernel
theorem dX6_setDetail_36 : decode cX6_setDetail 36 = .ok (.getfield 64, 3) := by decide +kernel
theorem dX6_setDetail_39 : decode cX6_setDetail 39 = .ok (.ifCond .le 5, 3) := by decide +kernel
theorem dX6_setDetail_42 : decode cX6_setDetail 42 = .ok (.lconst 0, 1) := by decide +kernel
theorem dX6_setDetail_43 : decode cX6_setDetail 43 = .ok (.lreturn, 1) := by decide +kernel
theorem dX6_setDetail_44 : decode cX6_setDetail 44 = .ok (.aload_n 0, 1) := by decide +kernel
theorem dX6_setDetail_45 : decode cX6_setDetail 45 = .ok (.iload_n 1, 1) := by decide +kernel
theorem dX6_setDetail_46 : decode cX6_setDetail 46 = .ok (.iconst 3, 1) := by decide +kernel
theorem dX6_setDetail_47 : decode cX6_setDetail 47 = .ok (.invokevirtual 208, 3) := by decide +kernel
theorem dX6_setDetail_50 : decode cX6_setDetail 50 = .ok (.lstore_n 3, 1) := by decide +kernel
theorem dX6_setDetail_51 : decode cX6_setDetail 51 = .ok (.aload_n 0, 1) := by decide +kernel
theorem dX6_setDetail_52 : decode cX6_setDetail 52 = .ok (.iload_n 1, 1) := by decide +kernel
theorem dX6_setDetail_53 : decode cX6_setDetail 53 = .ok (.iconst 3, 1) := by decide +kernel
theorem dX6_setDetail_54 : decode cX6_setDetail 54 = .ok (.iload_n 2, 1) := by decide +kernel
theorem dX6_setDetail_55 : decode cX6_setDetail 55 = .ok (.i2l, 1) := by decide +kernel
theorem dX6_setDetail_56 : decode cX6_setDetail 56 = .ok (.invokevirtual 269, 3) := by decide +kernel
theorem dX6_setDetail_59 : decode cX6_setDetail 59 = .ok (.lload_n 3, 1) := by decide +kernel
theorem dX6_setDetail_60 : decode cX6_setDetail 60 = .ok (.lreturn, 1) := by decide +kernel
theorem dX6_setPredict_0 : decode cX6_setPredict 0 = .ok (.aload_n 0, 1) := by decide +kernel
theorem dX6_setPredict_1 : decode cX6_setPredict 1 = .ok (.iconst 1, 1) := by decide +kernel
theorem dX6_setPredict_2 : decode cX6_setPredict 2 = .ok (.iload_n 1, 1) := by decide +kernel
theorem dX6_setPredict_3 : decode cX6_setPredict 3 = .ok (.iconst 2, 1) := by decide +kernel
theorem dX6_setPredict_4 : decode cX6_setPredict 4 = .ok (.invokevirtual 286, 3) := by decide +kernel
theorem dX6_setPredict_7 : decode cX6_setPredict 7 = .ok (.ireturn, 1) := by decide +kernel
theorem dX6_setSplit_0 : decode cX6_setSplit 0 = .ok (.aload_n 0, 1) := by decide +kernel
theorem dX6_setSplit_1 : decode cX6_setSplit 1 = .ok (.iconst 0, 1) := by decide +kernel
theorem dX6_setSplit_2 : decode cX6_setSplit 2 = .ok (.iload_n 1, 1) := by decide +kernel
theorem dX6_setSplit_3 : decode cX6_setSplit 3 = .ok (.iconst 2, 1) := by decide +kernel
theorem dX6_setSplit_4 : decode cX6_setSplit 4 = .ok (.invokevirtual 286, 3) := by decide +kernel
theorem dX6_setSplit_7 : decode cX6_setSplit 7 = .ok (.ireturn, 1) := by decide +kernel
theorem dX6_setUpdate_0 : decode cX6_setUpdate 0 = .ok (.aload_n 0, 1) := by decide +kernel
theorem dX6_setUpdate_1 : decode cX6_setUpdate 1 = .ok (.iconst 2, 1) := by decide +kernel
theorem dX6_setUpdate_2 : decode cX6_setUpdate 2 = .ok (.iload_n 1, 1) := by decide +kernel
theorem dX6_setUpdate_3 : decode cX6_setUpdate 3 = .ok (.ifCond .eq 7, 3) := by decide +kernel
theorem dX6_setUpdate_6 : decode cX6_setUpdate 6 = .ok (.iconst 1, 1) := by decide +kernel
theorem dX6_setUpdate_7 : decode cX6_setUpdate 7 = .ok (.goto 4, 3) := by decide +kernel
theorem dX6_setUpdate_10 : decode cX6_setUpdate 10 = .ok (.iconst 0, 1) := by decide +kernel
theorem dX6_setUpdate_11 : decode cX6_setUpdate 11 = .ok (.iconst 1, 1) := by decide +kernel
theorem dX6_setUpdate_12 : decode cX6_setUpdate 12 = .ok (.invokevirtual 286, 3) := by decide +kernel
theorem dX6_setUpdate_15 : decode cX6_setUpdate 15 = .ok (.iconst 1, 1) := by decide +kernel
theorem dX6_setUpdate_16 : decode cX6_setUpdate 16 = .ok (.if_icmp .ne 7, 3) := by decide +kernel
theorem dX6_setUpdate_19 : decode cX6_setUpdate 19 = .ok (.iconst 1, 1) := by decide +kernel
theorem dX6_setUpdate_20 : decode cX6_setUpdate 20 = .ok (.goto 4, 3) := by decide +kernel
theorem dX6_setUpdate_23 : decode cX6_setUpdate 23 = .ok (.iconst 0, 1) := by decide +kernel
theorem dX6_setUpdate_24 : decode cX6_setUpdate 24 = .ok (.ireturn, 1) := by decide +kernel
theorem dX6_sets_0 : decode cX6_sets 0 = .ok (.aload_n 0, 1) := by decide +kernel
theorem dX6_sets_1 : decode cX6_sets 1 = .ok (.iload_n 2, 1) := by decide +kernel
theorem dX6_sets_2 : decode cX6_sets 2 = .ok (.i2l, 1) := by decide +kernel
theorem dX6_sets_3 : decode cX6_sets 3 = .ok (.lconst 0, 1) := by decide +kernel
theorem dX6_sets_4 : decode cX6_sets 4 = .ok (.iload_n 3, 1) := by decide +kernel
theorem dX6_sets_5 : decode cX6_sets 5 = .ok (.i2l, 1) := by decide +kernel
theorem dX6_sets_6 : decode cX6_sets 6 = .ok (.invokestatic 84, 3) := by decide +kernel
theorem dX6_sets_9 : decode cX6_sets 9 = .ok (.ifCond .eq 7, 3) := by decide +kernel
theorem dX6_sets_12 : decode cX6_sets 12 = .ok (.iconst 0, 1) := by decide +kernel
theorem dX6_sets_13 : decode cX6_sets 13 = .ok (.goto 4, 3) := by decide +kernel
theorem dX6_sets_16 : decode cX6_sets 16 = .ok (.iconst 1, 1) := by decide +kernel
theorem dX6_sets_17 : decode cX6_sets 17 = .ok (.putfield 64, 3) := by decide +kernel
theorem dX6_sets_20 : decode cX6_sets 20 = .ok (.aload_n 0, 1) := by decide +kernel
theorem dX6_sets_21 : decode cX6_sets 21 = .ok (.getfield 7, 3) := by decide +kernel
theorem dX6_sets_24 : decode cX6_sets 24 = .ok (.iload_n 1, 1) := by decide +kernel
theorem dX6_sets_25 : decode cX6_sets 25 = .ok (.laload, 1) := by decide +kernel
theorem dX6_sets_26 : decode cX6_sets 26 = .ok (.l2i, 1) := by decide +kernel
theorem dX6_sets_27 : decode cX6_sets 27 = .ok (.istore 4, 2) := by decide +kernel
theorem dX6_sets_29 : decode cX6_sets 29 = .ok (.aload_n 0, 1) := by decide +kernel
theorem dX6_sets_30 : decode cX6_sets 30 = .ok (.getfield 64, 3) := by decide +kernel
theorem dX6_sets_33 : decode cX6_sets 33 = .ok (.ifCond .ne 11, 3) := by decide +kernel
theorem dX6_sets_36 : decode cX6_sets 36 = .ok (.aload_n 0, 1) := by decide +kernel
theorem dX6_sets_37 : decode cX6_sets 37 = .ok (.getfield 7, 3) := by decide +kernel
theorem dX6_sets_40 : decode cX6_sets 40 = .ok (.iload_n 1, 1) := by decide +kernel
theorem dX6_sets_41 : decode cX6_sets 41 = .ok (.iload_n 2, 1) := by decide +kernel
theorem dX6_sets_42 : decode cX6_sets 42 = .ok (.i2l, 1) := by decide +kernel
theorem dX6_sets_43 : decode cX6_sets 43 = .ok (.lastore, 1) := by decide +kernel
theorem dX6_sets_44 : decode cX6_sets 44 = .ok (.iload 4, 2) := by decide +kernel
theorem dX6_sets_46 : decode cX6_sets 46 = .ok (.ireturn, 1) := by decide +kernel
theorem dX6_threshold_0 : decode cX6_threshold 0 = .ok (.aload_n 0, 1) := by decide +kernel
theorem dX6_threshold_1 : decode cX6_threshold 1 = .ok (.iload_n 1, 1) := by decide +kernel
theorem dX6_threshold_2 : decode cX6_threshold 2 = .ok (.i2l, 1) := by decide +kernel
theorem dX6_threshold_3 : decode cX6_threshold 3 = .ok (.lconst 0, 1) := by decide +kernel
theorem dX6_threshold_4 : decode cX6_threshold 4 = .ok (.ldc2_w 292, 3) := by decide +kernel
theorem dX6_threshold_7 : decode cX6_threshold 7 = .ok (.invokestatic 84, 3) := by decide +kernel
theorem dX6_threshold_10 : decode cX6_threshold 10 = .ok (.ifCond .eq 7, 3) := by decide +kernel
theorem dX6_threshold_13 : decode cX6_threshold 13 = .ok (.iconst 0, 1) := by decide +kernel
theorem dX6_threshold_14 : decode cX6_threshold 14 = .ok (.goto 4, 3) := by decide +kernel
theorem dX6_threshold_17 : decode cX6_threshold 17 = .ok (.iconst 1, 1) := by decide +kernel
theorem dX6_threshold_18 : decode cX6_threshold 18 = .ok (.putfield 64, 3) := by decide +kernel
theorem dX6_threshold_21 : decode cX6_threshold 21 = .ok (.aload_n 0, 1) := by decide +kernel
theorem dX6_threshold_22 : decode cX6_threshold 22 = .ok (.getfield 64, 3) := by decide +kernel
theorem dX6_threshold_25 : decode cX6_threshold 25 = .ok (.ifCond .le 5, 3) := by decide +kernel
theorem dX6_threshold_28 : decode cX6_threshold 28 = .ok (.iconst 0, 1) := by decide +kernel
theorem dX6_threshold_29 : decode cX6_threshold 29 = .ok (.ireturn, 1) := by decide +kernel
theorem dX6_threshold_30 : decode cX6_threshold 30 = .ok (.aload_n 0, 1) := by decide +kernel
theorem dX6_threshold_31 : decode cX6_threshold 31 = .ok (.iload_n 1, 1) := by decide +kernel
theorem dX6_threshold_32 : decode cX6_threshold 32 = .ok (.iload_n 2, 1) := by decide +kernel
theorem dX6_threshold_33 : decode cX6_threshold 33 = .ok (.invokevirtual 316, 3) := by decide +kernel
theorem dX6_threshold_36 : decode cX6_threshold 36 = .ok (.aload_n 0, 1) := by decide +kernel
theorem dX6_threshold_37 : decode cX6_threshold 37 = .ok (.invokevirtual 217, 3) := by decide +kernel
theorem dX6_threshold_40 : decode cX6_threshold 40 = .ok (.ireturn, 1) := by decide +kernel
set_option maxHeartbeats 4000000 in
set_option maxRecDepth 100000 in
theorem X6_put (l : Launch) (κ : Kt) (σ0 : Gh) (this : Nat) (i : Int32) (x : Int32) (v : Int64) (t_this : zk σ0 this 20) (h0 : 0 ≤ i.toInt) (h1 : i.toInt ≤ 45) (h2 : 0 ≤ x.toInt) (h3 : x.toInt ≤ 9) : TC l yX6_put cX6_put 5 none 0 0 [.ref this, .int i, .int x, .long v] κ σ0 (tqv κ gW σ0 (fun (τ : Gh) => (zJ τ (kR κ this 1) = vp_updL (zJ σ0 (kR κ this 1)) (149 + 10 * ix i + ix x) v))) := by
  refine TC.of gW (by decide +kernel) (Nat.le_of_ble_eq_true rfl) ?_
  intro p e s m below meth c ls hcs hK hX hT hl
  obtain ⟨hx, hb, hr, hml, hown, hg, hlocks, hin⟩ := hcs
  have hown : s.vm.findClass RX6 = some m.cls := hown
  have hl : lv_has ls 5 [(0, .ref this), (1, .int i), (2, .int x), (3, .long v)] := hl
  have hT0 := hT
  have n10 : (10 : Int32).toInt = 10 := by decide
  have n149 : (149 : Int32).toInt = 149 := by decide
  have i_lo := Int32.le_toInt i
  have i_hi := Int32.toInt_lt i
  have x_lo := Int32.le_toInt x
  have x_hi := Int32.toInt_lt x
  generalize hQ9 : tQ _ _ _ _ _ _ = Q9
  obtain ⟨rW, erW⟩ : ∃ z, kR κ this 1 = z := ⟨_, rfl⟩
  have trW : zk σ0 rW 21 := by rw [← erW]; exact hT0.ref t_this (by decide) (by decide) (by decide)
  obtain ⟨rP, erP⟩ : ∃ z, kR κ this 5 = z := ⟨_, rfl⟩
  have trP : zk σ0 rP 25 := by rw [← erP]; exact hT0.ref t_this (by decide) (by decide) (by decide)
  refine lv_aload_n hx hb dX6_put_0 rfl (lv_at hl 0 rfl) ?_
  refine va_get (D := κ.1) (ci := 6) (v := .ref (kR κ this 1)) (C := RX6) (T := TX6) (N := 27) hx hb hg inX6 hown hK (hT.o20 (hT.k t_this (by decide))).one 0 rfl rfl 1 (by decide) (hg _ k1220) (fun _ h9 => h9) rfl dX6_put_1 ?_
  rw [erW]
  refine lv_sipush (v := 149) hx hb dX6_put_4 (by decide) ?_
  refine lv_bipush (v := 10) hx hb dX6_put_7 (by decide) ?_
  refine lv_iload_n hx hb dX6_put_9 rfl (lv_at hl 1 rfl) ?_
  refine lv_imul hx hb dX6_put_10 ?_
  first | (refine g_mul (by rw [n10]; omega) (by rw [n10]; omega) (fun t1 ht1 => ?_); rw [n10] at ht1) | refine lv_topi (fun t1 ht1 => ?_)
  refine lv_iadd hx hb dX6_put_11 ?_
  first | refine g_add (by omega) (by omega) (fun t2 ht2 => ?_) | refine lv_topi (fun t2 ht2 => ?_)
  refine lv_iload_n hx hb dX6_put_12 rfl (lv_at hl 2 rfl) ?_
  refine lv_iadd hx hb dX6_put_13 ?_
  first | refine g_add (by omega) (by omega) (fun t3 ht3 => ?_) | refine lv_topi (fun t3 ht3 => ?_)
  refine lv_lload_n hx hb dX6_put_14 rfl (lv_at hl 3 rfl) ?_
  have hTo := hT
  refine tastlx (n := 609) hx hb hK hT (hT.k trW (by decide)) ⟨by decide, by decide⟩ (fun _ _ _ => rfl) (fun _ _ => trivial) (by omega) (by omega) (ge3_gW _ (by unfold ix; omega)) dX6_put_15 (fun H locs s4 hus4 hT => ?_)
  subst hQ9
  exact t_v hx hb hr hlocks hT (by rw [erW, zpul_Ja hus4]; congr 1; unfold ix; omega) dX6_put_16
set_option maxHeartbeats 4000000 in
set_option maxRecDepth 100000 in
theorem X6_cuts (l : Launch) (κ : Kt) (σ0 : Gh) (this : Nat) (th : Int32) (so : Int32) (t_this : zk σ0 this 20) (b_so : isB so) (h0 : RI κ σ0 this) : TC l yX6_cuts cX6_cuts 8 none 1 24 [.ref this, .int th, .int so] κ σ0 (tqv κ gW σ0 (fun (τ : Gh) => (RI κ τ this))) := by
  refine TC.of gW (by decide +kernel) (Nat.le_of_ble_eq_true rfl) ?_
  intro p e s m below meth c ls hcs hK hX hT hl
  obtain ⟨hx, hb, hr, hml, hown, hg, hlocks, hin⟩ := hcs
  have hown : s.vm.findClass RX6 = some m.cls := hown
  have hl : lv_has ls 8 [(0, .ref this), (1, .int th), (2, .int so)] := hl
  have hT0 := hT
  have n0 : (0 : Int32).toInt = 0 := by decide
  have n3 : (3 : Int32).toInt = 3 := by decide
  have j0 : (0 : Int64).toInt = 0 := by decide
  have th_lo := Int32.le_toInt th
  have th_hi := Int32.toInt_lt th
  generalize hQ9 : tQ _ _ _ _ _ _ = Q9
  obtain ⟨rW, erW⟩ : ∃ z, kR κ this 1 = z := ⟨_, rfl⟩
  have trW : zk σ0 rW 21 := by rw [← erW]; exact h0.1.2.1
  obtain ⟨rP, erP⟩ : ∃ z, kR κ this 5 = z := ⟨_, rfl⟩
  have trP : zk σ0 rP 25 := by rw [← erP]; exact h0.1.2.2.2.2
  have hB0 := h0.b
  rw [erW] at hB0
  have hW := h0.2.1
  rw [erW] at hW
  have hP := h0.2.2.1
  rw [erP] at hP
  have hrN : (rN σ0 this : Int) = (zI σ0 this 7).toInt := by unfold rN; omega
  refine lv_iconst (v := 0) hx hb dX6_cuts_0 (by decide) ?_
  refine lv_istore_n (lv' := [(3, .int 0), (0, .ref this), (1, .int th), (2, .int so)]) hx hb dX6_cuts_1 rfl hl (by decide) rfl (fun ls hl => ?_)
  have loop2 : ∀ (n9 : Nat) (k : Int32) (H : Heap) (locs : List Loc) (sg : Gh) (ls : Array Slot), TS κ gW σ0 sg s H locs → (RI κ sg this) → (0 ≤ k.toInt) → (k.toInt ≤ 46) → lv_has ls 8 [(3, .int k), (0, .ref this), (1, .int th), (2, .int so)] → (46 - k.toInt) < n9 → tW p l e 1 24 κ s m #[.ref this, .int th, .int so] below meth c H locs Q9 (F0 m 2 ls []) := by
    intro n9
    induction n9 with
    | zero =>
      intro k H locs sg ls hT RI0 q1 q2 hl hm9
      exfalso
      omega
    | succ n9 ih9 =>
      have ih2 := ih9
      clear ih9
      intro k H locs s1 ls hT RI0 q1 q2 hl hm9
      have B2 := RI0.b
      rw [erW] at B2
      have K3 : zI s1 this 7 = zI σ0 this 7 := hT.eI t_this (by decide) rfl rfl
      have K3n : (zI s1 this 7).toInt = (zI σ0 this 7).toInt := by rw [K3]
      have P4 : zI s1 rP = zI σ0 rP := funext fun k => hT.eI trP (by decide) rfl rfl
      try simp only [K3, P4] at B2
      refine lv_iload_n hx hb dX6_cuts_2 rfl (lv_at hl 0 rfl) ?_
      refine lv_aload_n hx hb dX6_cuts_3 rfl (lv_at hl 1 rfl) ?_
      have hTo := hT
      refine tVi (n := 0) (As := []) (rest := [.int k]) hx hb hml hown hg hT hK hX (X6_steps l κ s1 this  (hT.k t_this (by decide)) RI0) sub_fE_gW (mwV k1416 k1418 k52 k92 k1419) ⟨rfl, by decide, by decide, by decide +kernel⟩ ⟨(Nat.le_of_ble_eq_true rfl), (Nat.le_of_ble_eq_true rfl)⟩ (hT.o20 (hT.k t_this (by decide))) rfl rfl hl.1 rfl (Nat.le_of_ble_eq_true rfl) dX6_cuts_4 zroom.rf (fun x5 s6 H locs hφ hEs6 hT => ?_)
      have R7 : RI κ s6 this := RI0.ext hEs6 ⟨rfl, rfl, fun _ => rfl, fun _ => rfl, fun _ => rfl, fun _ => rfl⟩
      have B8 := R7.b
      rw [erW] at B8
      have K9 : zI s6 this 7 = zI σ0 this 7 := hT.eI t_this (by decide) rfl rfl
      have K9n : (zI s6 this 7).toInt = (zI σ0 this 7).toInt := by rw [K9]
      have P10 : zI s6 rP = zI σ0 rP := funext fun k => hT.eI trP (by decide) rfl rfl
      try simp only [K9, P10] at B8
      have f11 := hφ
      try simp only [erW, erP, ix_0, ix_1, ix_2, ix_3, ix_4, ix_5, ix_6, ix_7, ix_8, ix_9, K3, P4, K9, P10] at f11
      refine lv_icmp_ge (tgt := 77) hx hb dX6_cuts_7 (by decide) (fun c9 => ?_) (fun c9 => ?_)
      · have c1 := gi_le c9
        subst hQ9
        exact t_v hx hb hr hlocks hT R7 dX6_cuts_77
      · have c2 := gi_nle c9
        refine lv_aload_n hx hb dX6_cuts_10 rfl (lv_at hl 1 rfl) ?_
        refine lv_iload_n hx hb dX6_cuts_11 rfl (lv_at hl 0 rfl) ?_
        refine lv_iconst (v := 3) hx hb dX6_cuts_12 (by decide) ?_
        have hTo := hT
        refine tVl (n := 2) (As := [.int k, .int 3]) (rest := []) hx hb hml hown hg hT hK hX (X6_of l κ s6 this k 3  (hT.k t_this (by decide)) (by omega) (by omega) (by omega) (by omega)) sub_fE_gW (mwV k1424 k1426 k54 k92 k1427) ⟨rfl, by decide, by decide, by decide +kernel⟩ ⟨(Nat.le_of_ble_eq_true rfl), (Nat.le_of_ble_eq_true rfl)⟩ (hT.o20 (hT.k t_this (by decide))) rfl rfl hl.1 rfl (Nat.le_of_ble_eq_true rfl) dX6_cuts_13 zroom.rf (fun x12 s13 H locs hφ hEs13 hT => ?_)
        have R14 : RI κ s13 this := R7.ext hEs13 ⟨rfl, rfl, fun _ => rfl, fun _ => rfl, fun _ => rfl, fun _ => rfl⟩
        have B15 := R14.b
        rw [erW] at B15
        have K16 : zI s13 this 7 = zI σ0 this 7 := hT.eI t_this (by decide) rfl rfl
        have K16n : (zI s13 this 7).toInt = (zI σ0 this 7).toInt := by rw [K16]
        have P17 : zI s13 rP = zI σ0 rP := funext fun k => hT.eI trP (by decide) rfl rfl
        try simp only [K16, P17] at B15
        have f18 := hφ
        try simp only [erW, erP, ix_0, ix_1, ix_2, ix_3, ix_4, ix_5, ix_6, ix_7, ix_8, ix_9, K9, P10, K16, P17] at f18
        refine lv_lstore (lv' := [(4, .long x12), (3, .int k), (0, .ref this), (1, .int th), (2, .int so)]) hx hb dX6_cuts_16 hl (by decide) rfl (fun ls hl => ?_)
        refine lv_iload_n hx hb dX6_cuts_18 rfl (lv_at hl 4 rfl) ?_
        refine lv_if_eq (tgt := 27) hx hb dX6_cuts_19 (by decide) (fun c9 => ?_) (fun c9 => ?_)
        · have c3 := gi_eq c9
          refine lv_lconst (v := 0) hx hb dX6_cuts_27 (by decide) ?_
          refine lv_lstore (lv' := [(6, .long 0), (4, .long x12), (3, .int k), (0, .ref this), (1, .int th), (2, .int so)]) hx hb dX6_cuts_28 hl (by decide) rfl (fun ls hl => ?_)
          refine lv_aload_n hx hb dX6_cuts_30 rfl (lv_at hl 3 rfl) ?_
          refine lv_iload_n hx hb dX6_cuts_31 rfl (lv_at hl 2 rfl) ?_
          refine lv_iconst (v := 3) hx hb dX6_cuts_32 (by decide) ?_
          refine lv_lload hx hb dX6_cuts_33 (lv_at hl 1 rfl) ?_
          have hTo := hT
          refine tSl (n := 1) (As := [.long x12]) (rest := [.int 3, .int k, .ref this]) hx hb hml hown hg hT hK hX (X6_amount l κ s13 x12   ) sub_fE_gW (mwS k1488 k1489 k92 k1490) ⟨rfl, by decide, by decide, by decide +kernel⟩ ⟨(Nat.le_of_ble_eq_true rfl), (Nat.le_of_ble_eq_true rfl)⟩ rfl hl.1 rfl (Nat.le_of_ble_eq_true rfl) dX6_cuts_35 zroom.rf (fun x19 s20 H locs hφ hEs20 hT => ?_)
          have R21 : RI κ s20 this := R14.ext hEs20 ⟨rfl, rfl, fun _ => rfl, fun _ => rfl, fun _ => rfl, fun _ => rfl⟩
          have B22 := R21.b
          rw [erW] at B22
          have K23 : zI s20 this 7 = zI σ0 this 7 := hT.eI t_this (by decide) rfl rfl
          have K23n : (zI s20 this 7).toInt = (zI σ0 this 7).toInt := by rw [K23]
          have P24 : zI s20 rP = zI σ0 rP := funext fun k => hT.eI trP (by decide) rfl rfl
          try simp only [K23, P24] at B22
          have f25 := hφ
          try simp only [erW, erP, ix_0, ix_1, ix_2, ix_3, ix_4, ix_5, ix_6, ix_7, ix_8, ix_9, K16, P17, K23, P24] at f25
          refine lv_iload_n hx hb dX6_cuts_38 rfl (lv_at hl 4 rfl) ?_
          refine lv_i2l hx hb dX6_cuts_39 rfl ?_
          refine g_i2l (fun t26 ht26 => ?_)
          refine W.lcmp hx hb dX6_cuts_40 ?_
          refine lv_if_ge (tgt := 48) hx hb dX6_cuts_41 (by decide) (fun c9 => ?_) (fun c9 => ?_)
          · have c4 := gl_ge c9
            refine lv_lload hx hb dX6_cuts_48 (lv_at hl 1 rfl) ?_
            refine lv_lconst (v := 0) hx hb dX6_cuts_50 (by decide) ?_
            refine W.lcmp hx hb dX6_cuts_51 ?_
            refine lv_if_ge (tgt := 63) hx hb dX6_cuts_52 (by decide) (fun c9 => ?_) (fun c9 => ?_)
            · have c5 := gl_ge c9
              refine lv_lload hx hb dX6_cuts_63 (lv_at hl 1 rfl) ?_
              refine lv_lload hx hb dX6_cuts_65 (lv_at hl 0 rfl) ?_
              refine lv_lsub hx hb dX6_cuts_67 ?_
              refine lv_topl (fun t27 ht27 => ?_)
              have hTo := hT
              refine tVv (n := 3) (As := [.int k, .int 3, .long t27]) (rest := []) hx hb hml hown hg hT hK hX (X6_put l κ s20 this k 3 t27  (hT.k t_this (by decide)) (by omega) (by omega) (by omega) (by omega)) (fun _ _ h => h) (mwV k1600 k1602 k74 k92 k1603) ⟨rfl, by decide, by decide, by decide +kernel⟩ ⟨(Nat.le_of_ble_eq_true rfl), (Nat.le_of_ble_eq_true rfl)⟩ (hT.o20 (hT.k t_this (by decide))) rfl rfl hl.1 rfl (Nat.le_of_ble_eq_true rfl) dX6_cuts_68 zroom.rf (fun s29 H locs hφ hEs29 hT => ?_)
              have f31 := hφ
              have K32 : zI s29 this 7 = zI σ0 this 7 := hT.eI t_this (by decide) rfl rfl
              have K32n : (zI s29 this 7).toInt = (zI σ0 this 7).toInt := by rw [K32]
              have P33 : zI s29 rP = zI σ0 rP := funext fun k => hT.eI trP (by decide) rfl rfl
              try simp only [erW, erP, ix_0, ix_1, ix_2, ix_3, ix_4, ix_5, ix_6, ix_7, ix_8, ix_9, K23, P24, K32, P33] at f31
              have R34 : RI κ s29 this := R21.extw hEs29 ⟨rfl, rfl, fun _ => rfl, fun _ => rfl, fun _ => rfl⟩ (by rw [erW, f31]; have q9 := R21.2.1; rw [erW] at q9; exact q9.upd (nrel_s (i := ix k) (k := 3) rfl (by decide)))
              have B35 := R34.b
              rw [erW] at B35
              try simp only [K32, P33] at B35
              obtain ⟨t36, qt36⟩ : ∃ zz9 : Int32, k + Int32.ofInt 1 = zz9 := ⟨_, rfl⟩
              refine lv_iinc (v := t36) (lv' := [(3, .int t36), (6, .long 0), (4, .long x12), (0, .ref this), (1, .int th), (2, .int so)]) hx hb dX6_cuts_71 hl (k := 2) rfl qt36 (by decide) rfl (fun ls hl => ?_)
              have ht36 : t36.toInt = k.toInt + 1 := by rw [← qt36]; exact v_addi rfl (show (Int32.ofInt 1).toInt = 1 from by decide) (by omega) (by omega)
              refine lv_goto (tgt := 2) hx hb dX6_cuts_74 (by decide) ?_
              exact ih2 t36 _ _ _ _ hT  R34 (by omega) (by omega) (lv_sub hl [0, 3, 4, 5] rfl) (by omega)
            · have c6 := gl_nge c9
              refine lv_lload hx hb dX6_cuts_55 (lv_at hl 1 rfl) ?_
              refine lv_lload hx hb dX6_cuts_57 (lv_at hl 0 rfl) ?_
              refine lv_ladd hx hb dX6_cuts_59 ?_
              refine lv_topl (fun t37 ht37 => ?_)
              refine lv_goto (tgt := 68) hx hb dX6_cuts_60 (by decide) ?_
              have hTo := hT
              refine tVv (n := 3) (As := [.int k, .int 3, .long t37]) (rest := []) hx hb hml hown hg hT hK hX (X6_put l κ s20 this k 3 t37  (hT.k t_this (by decide)) (by omega) (by omega) (by omega) (by omega)) (fun _ _ h => h) (mwV k1600 k1602 k74 k92 k1603) ⟨rfl, by decide, by decide, by decide +kernel⟩ ⟨(Nat.le_of_ble_eq_true rfl), (Nat.le_of_ble_eq_true rfl)⟩ (hT.o20 (hT.k t_this (by decide))) rfl rfl hl.1 rfl (Nat.le_of_ble_eq_true rfl) dX6_cuts_68 zroom.rf (fun s39 H locs hφ hEs39 hT => ?_)
              have f41 := hφ
              have K42 : zI s39 this 7 = zI σ0 this 7 := hT.eI t_this (by decide) rfl rfl
              have K42n : (zI s39 this 7).toInt = (zI σ0 this 7).toInt := by rw [K42]
              have P43 : zI s39 rP = zI σ0 rP := funext fun k => hT.eI trP (by decide) rfl rfl
              try simp only [erW, erP, ix_0, ix_1, ix_2, ix_3, ix_4, ix_5, ix_6, ix_7, ix_8, ix_9, K23, P24, K42, P43] at f41
              have R44 : RI κ s39 this := R21.extw hEs39 ⟨rfl, rfl, fun _ => rfl, fun _ => rfl, fun _ => rfl⟩ (by rw [erW, f41]; have q9 := R21.2.1; rw [erW] at q9; exact q9.upd (nrel_s (i := ix k) (k := 3) rfl (by decide)))
              have B45 := R44.b
              rw [erW] at B45
              try simp only [K42, P43] at B45
              obtain ⟨t46, qt46⟩ : ∃ zz9 : Int32, k + Int32.ofInt 1 = zz9 := ⟨_, rfl⟩
              refine lv_iinc (v := t46) (lv' := [(3, .int t46), (6, .long 0), (4, .long x12), (0, .ref this), (1, .int th), (2, .int so)]) hx hb dX6_cuts_71 hl (k := 2) rfl qt46 (by decide) rfl (fun ls hl => ?_)
              have ht46 : t46.toInt = k.toInt + 1 := by rw [← qt46]; exact v_addi rfl (show (Int32.ofInt 1).toInt = 1 from by decide) (by omega) (by omega)
              refine lv_goto (tgt := 2) hx hb dX6_cuts_74 (by decide) ?_
              exact ih2 t46 _ _ _ _ hT  R44 (by omega) (by omega) (lv_sub hl [0, 3, 4, 5] rfl) (by omega)
          · have c7 := gl_nge c9
            refine lv_lconst (v := 0) hx hb dX6_cuts_44 (by decide) ?_
            refine lv_goto (tgt := 68) hx hb dX6_cuts_45 (by decide) ?_
            have hTo := hT
            refine tVv (n := 3) (As := [.int k, .int 3, .long 0]) (rest := []) hx hb hml hown hg hT hK hX (X6_put l κ s20 this k 3 0  (hT.k t_this (by decide)) (by omega) (by omega) (by omega) (by omega)) (fun _ _ h => h) (mwV k1600 k1602 k74 k92 k1603) ⟨rfl, by decide, by decide, by decide +kernel⟩ ⟨(Nat.le_of_ble_eq_true rfl), (Nat.le_of_ble_eq_true rfl)⟩ (hT.o20 (hT.k t_this (by decide))) rfl rfl hl.1 rfl (Nat.le_of_ble_eq_true rfl) dX6_cuts_68 zroom.rf (fun s48 H locs hφ hEs48 hT => ?_)
            have f50 := hφ
            have K51 : zI s48 this 7 = zI σ0 this 7 := hT.eI t_this (by decide) rfl rfl
            have K51n : (zI s48 this 7).toInt = (zI σ0 this 7).toInt := by rw [K51]
            have P52 : zI s48 rP = zI σ0 rP := funext fun k => hT.eI trP (by decide) rfl rfl
            try simp only [erW, erP, ix_0, ix_1, ix_2, ix_3, ix_4, ix_5, ix_6, ix_7, ix_8, ix_9, K23, P24, K51, P52] at f50
            have R53 : RI κ s48 this := R21.extw hEs48 ⟨rfl, rfl, fun _ => rfl, fun _ => rfl, fun _ => rfl⟩ (by rw [erW, f50]; have q9 := R21.2.1; rw [erW] at q9; exact q9.upd (nrel_s (i := ix k) (k := 3) rfl (by decide)))
            have B54 := R53.b
            rw [erW] at B54
            try simp only [K51, P52] at B54
            obtain ⟨t55, qt55⟩ : ∃ zz9 : Int32, k + Int32.ofInt 1 = zz9 := ⟨_, rfl⟩
            refine lv_iinc (v := t55) (lv' := [(3, .int t55), (6, .long 0), (4, .long x12), (0, .ref this), (1, .int th), (2, .int so)]) hx hb dX6_cuts_71 hl (k := 2) rfl qt55 (by decide) rfl (fun ls hl => ?_)
            have ht55 : t55.toInt = k.toInt + 1 := by rw [← qt55]; exact v_addi rfl (show (Int32.ofInt 1).toInt = 1 from by decide) (by omega) (by omega)
            refine lv_goto (tgt := 2) hx hb dX6_cuts_74 (by decide) ?_
            exact ih2 t55 _ _ _ _ hT  R53 (by omega) (by omega) (lv_sub hl [0, 3, 4, 5] rfl) (by omega)
        · have c8 := gi_ne c9
          refine lv_iload_n hx hb dX6_cuts_22 rfl (lv_at hl 3 rfl) ?_
          refine lv_i2l hx hb dX6_cuts_23 rfl ?_
          refine g_i2l (fun t56 ht56 => ?_)
          refine lv_goto (tgt := 28) hx hb dX6_cuts_24 (by decide) ?_
          refine lv_lstore (lv' := [(6, .long t56), (4, .long x12), (3, .int k), (0, .ref this), (1, .int th), (2, .int so)]) hx hb dX6_cuts_28 hl (by decide) rfl (fun ls hl => ?_)
          refine lv_aload_n hx hb dX6_cuts_30 rfl (lv_at hl 3 rfl) ?_
          refine lv_iload_n hx hb dX6_cuts_31 rfl (lv_at hl 2 rfl) ?_
          refine lv_iconst (v := 3) hx hb dX6_cuts_32 (by decide) ?_
          refine lv_lload hx hb dX6_cuts_33 (lv_at hl 1 rfl) ?_
          have hTo := hT
          refine tSl (n := 1) (As := [.long x12]) (rest := [.int 3, .int k, .ref this]) hx hb hml hown hg hT hK hX (X6_amount l κ s13 x12   ) sub_fE_gW (mwS k1488 k1489 k92 k1490) ⟨rfl, by decide, by decide, by decide +kernel⟩ ⟨(Nat.le_of_ble_eq_true rfl), (Nat.le_of_ble_eq_true rfl)⟩ rfl hl.1 rfl (Nat.le_of_ble_eq_true rfl) dX6_cuts_35 zroom.rf (fun x57 s58 H locs hφ hEs58 hT => ?_)
          have R59 : RI κ s58 this := R14.ext hEs58 ⟨rfl, rfl, fun _ => rfl, fun _ => rfl, fun _ => rfl, fun _ => rfl⟩
          have B60 := R59.b
          rw [erW] at B60
          have K61 : zI s58 this 7 = zI σ0 this 7 := hT.eI t_this (by decide) rfl rfl
          have K61n : (zI s58 this 7).toInt = (zI σ0 this 7).toInt := by rw [K61]
          have P62 : zI s58 rP = zI σ0 rP := funext fun k => hT.eI trP (by decide) rfl rfl
          try simp only [K61, P62] at B60
          have f63 := hφ
          try simp only [erW, erP, ix_0, ix_1, ix_2, ix_3, ix_4, ix_5, ix_6, ix_7, ix_8, ix_9, K16, P17, K61, P62] at f63
          refine lv_iload_n hx hb dX6_cuts_38 rfl (lv_at hl 4 rfl) ?_
          refine lv_i2l hx hb dX6_cuts_39 rfl ?_
          refine g_i2l (fun t64 ht64 => ?_)
          refine W.lcmp hx hb dX6_cuts_40 ?_
          refine lv_if_ge (tgt := 48) hx hb dX6_cuts_41 (by decide) (fun c9 => ?_) (fun c9 => ?_)
          · have c9 := gl_ge c9
            refine lv_lload hx hb dX6_cuts_48 (lv_at hl 1 rfl) ?_
            refine lv_lconst (v := 0) hx hb dX6_cuts_50 (by decide) ?_
            refine W.lcmp hx hb dX6_cuts_51 ?_
            refine lv_if_ge (tgt := 63) hx hb dX6_cuts_52 (by decide) (fun c9 => ?_) (fun c9 => ?_)
            · have c10 := gl_ge c9
              refine lv_lload hx hb dX6_cuts_63 (lv_at hl 1 rfl) ?_
              refine lv_lload hx hb dX6_cuts_65 (lv_at hl 0 rfl) ?_
              refine lv_lsub hx hb dX6_cuts_67 ?_
              refine lv_topl (fun t65 ht65 => ?_)
              have hTo := hT
              refine tVv (n := 3) (As := [.int k, .int 3, .long t65]) (rest := []) hx hb hml hown hg hT hK hX (X6_put l κ s58 this k 3 t65  (hT.k t_this (by decide)) (by omega) (by omega) (by omega) (by omega)) (fun _ _ h => h) (mwV k1600 k1602 k74 k92 k1603) ⟨rfl, by decide, by decide, by decide +kernel⟩ ⟨(Nat.le_of_ble_eq_true rfl), (Nat.le_of_ble_eq_true rfl)⟩ (hT.o20 (hT.k t_this (by decide))) rfl rfl hl.1 rfl (Nat.le_of_ble_eq_true rfl) dX6_cuts_68 zroom.rf (fun s67 H locs hφ hEs67 hT => ?_)
              have f69 := hφ
              have K70 : zI s67 this 7 = zI σ0 this 7 := hT.eI t_this (by decide) rfl rfl
              have K70n : (zI s67 this 7).toInt = (zI σ0 this 7).toInt := by rw [K70]
              have P71 : zI s67 rP = zI σ0 rP := funext fun k => hT.eI trP (by decide) rfl rfl
              try simp only [erW, erP, ix_0, ix_1, ix_2, ix_3, ix_4, ix_5, ix_6, ix_7, ix_8, ix_9, K61, P62, K70, P71] at f69
              have R72 : RI κ s67 this := R59.extw hEs67 ⟨rfl, rfl, fun _ => rfl, fun _ => rfl, fun _ => rfl⟩ (by rw [erW, f69]; have q9 := R59.2.1; rw [erW] at q9; exact q9.upd (nrel_s (i := ix k) (k := 3) rfl (by decide)))
              have B73 := R72.b
              rw [erW] at B73
              try simp only [K70, P71] at B73
              obtain ⟨t74, qt74⟩ : ∃ zz9 : Int32, k + Int32.ofInt 1 = zz9 := ⟨_, rfl⟩
              refine lv_iinc (v := t74) (lv' := [(3, .int t74), (6, .long t56), (4, .long x12), (0, .ref this), (1, .int th), (2, .int so)]) hx hb dX6_cuts_71 hl (k := 2) rfl qt74 (by decide) rfl (fun ls hl => ?_)
              have ht74 : t74.toInt = k.toInt + 1 := by rw [← qt74]; exact v_addi rfl (show (Int32.ofInt 1).toInt = 1 from by decide) (by omega) (by omega)
              refine lv_goto (tgt := 2) hx hb dX6_cuts_74 (by decide) ?_
              exact ih2 t74 _ _ _ _ hT  R72 (by omega) (by omega) (lv_sub hl [0, 3, 4, 5] rfl) (by omega)
            · have c11 := gl_nge c9
              refine lv_lload hx hb dX6_cuts_55 (lv_at hl 1 rfl) ?_
              refine lv_lload hx hb dX6_cuts_57 (lv_at hl 0 rfl) ?_
              refine lv_ladd hx hb dX6_cuts_59 ?_
              refine lv_topl (fun t75 ht75 => ?_)
              refine lv_goto (tgt := 68) hx hb dX6_cuts_60 (by decide) ?_
              have hTo := hT
              refine tVv (n := 3) (As := [.int k, .int 3, .long t75]) (rest := []) hx hb hml hown hg hT hK hX (X6_put l κ s58 this k 3 t75  (hT.k t_this (by decide)) (by omega) (by omega) (by omega) (by omega)) (fun _ _ h => h) (mwV k1600 k1602 k74 k92 k1603) ⟨rfl, by decide, by decide, by decide +kernel⟩ ⟨(Nat.le_of_ble_eq_true rfl), (Nat.le_of_ble_eq_true rfl)⟩ (hT.o20 (hT.k t_this (by decide))) rfl rfl hl.1 rfl (Nat.le_of_ble_eq_true rfl) dX6_cuts_68 zroom.rf (fun s77 H locs hφ hEs77 hT => ?_)
              have f79 := hφ
              have K80 : zI s77 this 7 = zI σ0 this 7 := hT.eI t_this (by decide) rfl rfl
              have K80n : (zI s77 this 7).toInt = (zI σ0 this 7).toInt := by rw [K80]
              have P81 : zI s77 rP = zI σ0 rP := funext fun k => hT.eI trP (by decide) rfl rfl
              try simp only [erW, erP, ix_0, ix_1, ix_2, ix_3, ix_4, ix_5, ix_6, ix_7, ix_8, ix_9, K61, P62, K80, P81] at f79
              have R82 : RI κ s77 this := R59.extw hEs77 ⟨rfl, rfl, fun _ => rfl, fun _ => rfl, fun _ => rfl⟩ (by rw [erW, f79]; have q9 := R59.2.1; rw [erW] at q9; exact q9.upd (nrel_s (i := ix k) (k := 3) rfl (by decide)))
              have B83 := R82.b
              rw [erW] at B83
              try simp only [K80, P81] at B83
              obtain ⟨t84, qt84⟩ : ∃ zz9 : Int32, k + Int32.ofInt 1 = zz9 := ⟨_, rfl⟩
              refine lv_iinc (v := t84) (lv' := [(3, .int t84), (6, .long t56), (4, .long x12), (0, .ref this), (1, .int th), (2, .int so)]) hx hb dX6_cuts_71 hl (k := 2) rfl qt84 (by decide) rfl (fun ls hl => ?_)
              have ht84 : t84.toInt = k.toInt + 1 := by rw [← qt84]; exact v_addi rfl (show (Int32.ofInt 1).toInt = 1 from by decide) (by omega) (by omega)
              refine lv_goto (tgt := 2) hx hb dX6_cuts_74 (by decide) ?_
              exact ih2 t84 _ _ _ _ hT  R82 (by omega) (by omega) (lv_sub hl [0, 3, 4, 5] rfl) (by omega)
          · have c12 := gl_nge c9
            refine lv_lconst (v := 0) hx hb dX6_cuts_44 (by decide) ?_
            refine lv_goto (tgt := 68) hx hb dX6_cuts_45 (by decide) ?_
            have hTo := hT
            refine tVv (n := 3) (As := [.int k, .int 3, .long 0]) (rest := []) hx hb hml hown hg hT hK hX (X6_put l κ s58 this k 3 0  (hT.k t_this (by decide)) (by omega) (by omega) (by omega) (by omega)) (fun _ _ h => h) (mwV k1600 k1602 k74 k92 k1603) ⟨rfl, by decide, by decide, by decide +kernel⟩ ⟨(Nat.le_of_ble_eq_true rfl), (Nat.le_of_ble_eq_true rfl)⟩ (hT.o20 (hT.k t_this (by decide))) rfl rfl hl.1 rfl (Nat.le_of_ble_eq_true rfl) dX6_cuts_68 zroom.rf (fun s86 H locs hφ hEs86 hT => ?_)
            have f88 := hφ
            have K89 : zI s86 this 7 = zI σ0 this 7 := hT.eI t_this (by decide) rfl rfl
            have K89n : (zI s86 this 7).toInt = (zI σ0 this 7).toInt := by rw [K89]
            have P90 : zI s86 rP = zI σ0 rP := funext fun k => hT.eI trP (by decide) rfl rfl
            try simp only [erW, erP, ix_0, ix_1, ix_2, ix_3, ix_4, ix_5, ix_6, ix_7, ix_8, ix_9, K61, P62, K89, P90] at f88
            have R91 : RI κ s86 this := R59.extw hEs86 ⟨rfl, rfl, fun _ => rfl, fun _ => rfl, fun _ => rfl⟩ (by rw [erW, f88]; have q9 := R59.2.1; rw [erW] at q9; exact q9.upd (nrel_s (i := ix k) (k := 3) rfl (by decide)))
            have B92 := R91.b
            rw [erW] at B92
            try simp only [K89, P90] at B92
            obtain ⟨t93, qt93⟩ : ∃ zz9 : Int32, k + Int32.ofInt 1 = zz9 := ⟨_, rfl⟩
            refine lv_iinc (v := t93) (lv' := [(3, .int t93), (6, .long t56), (4, .long x12), (0, .ref this), (1, .int th), (2, .int so)]) hx hb dX6_cuts_71 hl (k := 2) rfl qt93 (by decide) rfl (fun ls hl => ?_)
            have ht93 : t93.toInt = k.toInt + 1 := by rw [← qt93]; exact v_addi rfl (show (Int32.ofInt 1).toInt = 1 from by decide) (by omega) (by omega)
            refine lv_goto (tgt := 2) hx hb dX6_cuts_74 (by decide) ?_
            exact ih2 t93 _ _ _ _ hT  R91 (by omega) (by omega) (lv_sub hl [0, 3, 4, 5] rfl) (by omega)
  exact loop2 ((46 - (0 : Int32).toInt).toNat + 1) 0 _ _ _ _ hT  h0 (by omega) (by omega) hl (by omega)
set_option maxHeartbeats 4000000 in
set_option maxRecDepth 100000 in
theorem X6_setDetail (l : Launch) (κ : Kt) (σ0 : Gh) (this : Nat) (i : Int32) (de : Int32) (t_this : zk σ0 this 20) (h0 : RI κ σ0 this) : TC l yX6_setDetail cX6_setDetail 5 (some .long) 2 46 [.ref this, .int i, .int de] κ σ0 (tql κ gX σ0 (fun (r : Int64) (τ : Gh) => (RI κ τ this))) := by
  refine TC.of gX (by decide +kernel) (Nat.le_of_ble_eq_true rfl) ?_
  intro p e s m below meth c ls hcs hK hX hT hl
  obtain ⟨hx, hb, hr, hml, hown, hg, hlocks, hin⟩ := hcs
  have hown : s.vm.findClass RX6 = some m.cls := hown
  have hl : lv_has ls 5 [(0, .ref this), (1, .int i), (2, .int de)] := hl
  have hT0 := hT
  have n0 : (0 : Int32).toInt = 0 := by decide
  have n1 : (1 : Int32).toInt = 1 := by decide
  have n2 : (2 : Int32).toInt = 2 := by decide
  have n3 : (3 : Int32).toInt = 3 := by decide
  have jm99999 : ((-99999) : Int64).toInt = (-99999) := by decide
  have j0 : (0 : Int64).toInt = 0 := by decide
  have j99999 : (99999 : Int64).toInt = 99999 := by decide
  have i_lo := Int32.le_toInt i
  have i_hi := Int32.toInt_lt i
  have de_lo := Int32.le_toInt de
  have de_hi := Int32.toInt_lt de
  generalize hQ9 : tQ _ _ _ _ _ _ = Q9
  obtain ⟨rW, erW⟩ : ∃ z, kR κ this 1 = z := ⟨_, rfl⟩
  have trW : zk σ0 rW 21 := by rw [← erW]; exact h0.1.2.1
  obtain ⟨rP, erP⟩ : ∃ z, kR κ this 5 = z := ⟨_, rfl⟩
  have trP : zk σ0 rP 25 := by rw [← erP]; exact h0.1.2.2.2.2
  have hB0 := h0.b
  rw [erW] at hB0
  have hW := h0.2.1
  rw [erW] at hW
  have hP := h0.2.2.1
  rw [erP] at hP
  have hrN : (rN σ0 this : Int) = (zI σ0 this 7).toInt := by unfold rN; omega
  refine lv_aload_n hx hb dX6_setDetail_0 rfl (lv_at hl 0 rfl) ?_
  refine lv_aload_n hx hb dX6_setDetail_1 rfl (lv_at hl 0 rfl) ?_
  refine lv_iload_n hx hb dX6_setDetail_2 rfl (lv_at hl 1 rfl) ?_
  have hTo := hT
  refine tVi (n := 1) (As := [.int i]) (rest := [.ref this]) hx hb hml hown hg hT hK hX (X6_isStep l κ σ0 this i  (hT.k t_this (by decide)) h0) sub_fE_gX (mwV k1461 k1463 k59 k92 k1464) ⟨rfl, by decide, by decide, by decide +kernel⟩ ⟨(Nat.le_of_ble_eq_true rfl), (Nat.le_of_ble_eq_true rfl)⟩ (hT.o20 (hT.k t_this (by decide))) rfl rfl hl.1 rfl (Nat.le_of_ble_eq_true rfl) dX6_setDetail_3 zroom.rf (fun x1 s2 H locs hφ hEs2 hT => ?_)
  have R3 : RI κ s2 this := h0.ext hEs2 ⟨rfl, rfl, fun _ => rfl, fun _ => rfl, fun _ => rfl, fun _ => rfl⟩
  have B4 := R3.b
  rw [erW] at B4
  have K5 : zI s2 this 7 = zI σ0 this 7 := hT.eI t_this (by decide) rfl rfl
  have K5n : (zI s2 this 7).toInt = (zI σ0 this 7).toInt := by rw [K5]
  have P6 : zI s2 rP = zI σ0 rP := funext fun k => hT.eI trP (by decide) rfl rfl
  try simp only [K5, P6] at B4
  obtain ⟨f7, f8⟩ := hφ
  try simp only [erW, erP, ix_0, ix_1, ix_2, ix_3, ix_4, ix_5, ix_6, ix_7, ix_8, ix_9, K5, P6] at f7
  refine lv_if_ne (tgt := 13) hx hb dX6_setDetail_6 (by decide) (fun c9 => ?_) (fun c9 => ?_)
  · have c1 := gi_ne c9
    refine lv_iload_n hx hb dX6_setDetail_13 rfl (lv_at hl 2 rfl) ?_
    refine lv_i2l hx hb dX6_setDetail_14 rfl ?_
    refine g_i2l (fun t9 ht9 => ?_)
    refine lv_ldc2 hx hb hown (hg _ k1624) dX6_setDetail_15 ?_
    refine lv_ldc2 hx hb hown (hg _ k1625) dX6_setDetail_18 ?_
    have hTo := hT
    refine tSi (n := 3) (As := [.long t9, .long (-99999), .long 99999]) (rest := [.ref this]) hx hb hml hown hg hT hK hX (X6_in l κ s2 t9 (-99999) 99999   ) sub_fE_gX (mwS k1317 k1318 k92 k1319) ⟨rfl, by decide, by decide, by decide +kernel⟩ ⟨(Nat.le_of_ble_eq_true rfl), (Nat.le_of_ble_eq_true rfl)⟩ rfl hl.1 rfl (Nat.le_of_ble_eq_true rfl) dX6_setDetail_21 zroom.rf (fun x10 s11 H locs hφ hEs11 hT => ?_)
    have R12 : RI κ s11 this := R3.ext hEs11 ⟨rfl, rfl, fun _ => rfl, fun _ => rfl, fun _ => rfl, fun _ => rfl⟩
    have B13 := R12.b
    rw [erW] at B13
    have K14 : zI s11 this 7 = zI σ0 this 7 := hT.eI t_this (by decide) rfl rfl
    have K14n : (zI s11 this 7).toInt = (zI σ0 this 7).toInt := by rw [K14]
    have P15 : zI s11 rP = zI σ0 rP := funext fun k => hT.eI trP (by decide) rfl rfl
    try simp only [K14, P15] at B13
    obtain ⟨f16, f17⟩ := hφ
    try simp only [erW, erP, ix_0, ix_1, ix_2, ix_3, ix_4, ix_5, ix_6, ix_7, ix_8, ix_9, K5, P6, K14, P15] at f16
    refine lv_if_eq (tgt := 31) hx hb dX6_setDetail_24 (by decide) (fun c9 => ?_) (fun c9 => ?_)
    · have c2 := gi_eq c9
      refine lv_iconst (v := 2) hx hb dX6_setDetail_31 (by decide) ?_
      have hTo := hT
      refine pf20_0 hx hb hg hown hK hT (hT.k t_this (by decide)) rfl (hg _ k1219) dX6_setDetail_32 (fun H locs s18 hus18 hT => ?_)
      have R19 : RI κ s18 this := R12.put hus18 (hTo.k t_this (by decide)) (by decide)
      have B20 := R19.b
      rw [erW] at B20
      have K21 : zI s18 this 7 = zI σ0 this 7 := hT.eI t_this (by decide) rfl rfl
      have K21n : (zI s18 this 7).toInt = (zI σ0 this 7).toInt := by rw [K21]
      have P22 : zI s18 rP = zI σ0 rP := funext fun k => hT.eI trP (by decide) rfl rfl
      try simp only [K21, P22] at B20
      have e23 : zI s18 this 0 = 2 := zput_at hus18
      refine lv_aload_n hx hb dX6_setDetail_35 rfl (lv_at hl 0 rfl) ?_
      refine va_get (D := κ.1) (ci := 6) (v := .int (zI s18 this 0)) (C := RX6) (T := TX6) (N := 27) hx hb hg inX6 hown hK (hT.o20 (hT.k t_this (by decide))).one 0 rfl rfl 0 (by decide) (hg _ k1219) (fun _ h9 => h9) rfl dX6_setDetail_36 ?_
      rw [e23]
      refine lv_if_le (tgt := 44) hx hb dX6_setDetail_39 (by decide) (fun c9 => absurd c9 (by decide)) (fun _ => ?_)
      refine lv_lconst (v := 0) hx hb dX6_setDetail_42 (by decide) ?_
      subst hQ9
      exact t_l hx hb hr hlocks hT R19 dX6_setDetail_43
    · have c3 := gi_ne c9
      refine lv_iconst (v := 0) hx hb dX6_setDetail_27 (by decide) ?_
      refine lv_goto (tgt := 32) hx hb dX6_setDetail_28 (by decide) ?_
      have hTo := hT
      refine pf20_0 hx hb hg hown hK hT (hT.k t_this (by decide)) rfl (hg _ k1219) dX6_setDetail_32 (fun H locs s24 hus24 hT => ?_)
      have R25 : RI κ s24 this := R12.put hus24 (hTo.k t_this (by decide)) (by decide)
      have B26 := R25.b
      rw [erW] at B26
      have K27 : zI s24 this 7 = zI σ0 this 7 := hT.eI t_this (by decide) rfl rfl
      have K27n : (zI s24 this 7).toInt = (zI σ0 this 7).toInt := by rw [K27]
      have P28 : zI s24 rP = zI σ0 rP := funext fun k => hT.eI trP (by decide) rfl rfl
      try simp only [K27, P28] at B26
      have e29 : zI s24 this 0 = 0 := zput_at hus24
      refine lv_aload_n hx hb dX6_setDetail_35 rfl (lv_at hl 0 rfl) ?_
      refine va_get (D := κ.1) (ci := 6) (v := .int (zI s24 this 0)) (C := RX6) (T := TX6) (N := 27) hx hb hg inX6 hown hK (hT.o20 (hT.k t_this (by decide))).one 0 rfl rfl 0 (by decide) (hg _ k1219) (fun _ h9 => h9) rfl dX6_setDetail_36 ?_
      rw [e29]
      refine lv_if_le (tgt := 44) hx hb dX6_setDetail_39 (by decide) (fun _ => ?_) (fun c9 => absurd (by decide) c9)
      refine lv_aload_n hx hb dX6_setDetail_44 rfl (lv_at hl 0 rfl) ?_
      refine lv_iload_n hx hb dX6_setDetail_45 rfl (lv_at hl 1 rfl) ?_
      refine lv_iconst (v := 3) hx hb dX6_setDetail_46 (by decide) ?_
      have hTo := hT
      refine tVl (n := 2) (As := [.int i, .int 3]) (rest := []) hx hb hml hown hg hT hK hX (X6_of l κ s24 this i 3  (hT.k t_this (by decide)) (by omega) (by omega) (by omega) (by omega)) sub_fE_gX (mwV k1424 k1426 k54 k92 k1427) ⟨rfl, by decide, by decide, by decide +kernel⟩ ⟨(Nat.le_of_ble_eq_true rfl), (Nat.le_of_ble_eq_true rfl)⟩ (hT.o20 (hT.k t_this (by decide))) rfl rfl hl.1 rfl (Nat.le_of_ble_eq_true rfl) dX6_setDetail_47 zroom.rf (fun x30 s31 H locs hφ hEs31 hT => ?_)
      have e29 : zI s31 this 0 = 0 := ((hTo.k t_this (by decide)).eI hEs31 (by decide) rfl).trans e29
      have R32 : RI κ s31 this := R25.ext hEs31 ⟨rfl, rfl, fun _ => rfl, fun _ => rfl, fun _ => rfl, fun _ => rfl⟩
      have B33 := R32.b
      rw [erW] at B33
      have K34 : zI s31 this 7 = zI σ0 this 7 := hT.eI t_this (by decide) rfl rfl
      have K34n : (zI s31 this 7).toInt = (zI σ0 this 7).toInt := by rw [K34]
      have P35 : zI s31 rP = zI σ0 rP := funext fun k => hT.eI trP (by decide) rfl rfl
      try simp only [K34, P35] at B33
      have f36 := hφ
      try simp only [erW, erP, ix_0, ix_1, ix_2, ix_3, ix_4, ix_5, ix_6, ix_7, ix_8, ix_9, K27, P28, K34, P35] at f36
      refine lv_lstore_n (lv' := [(3, .long x30), (0, .ref this), (1, .int i), (2, .int de)]) hx hb dX6_setDetail_50 rfl hl (by decide) rfl (fun ls hl => ?_)
      refine lv_aload_n hx hb dX6_setDetail_51 rfl (lv_at hl 1 rfl) ?_
      refine lv_iload_n hx hb dX6_setDetail_52 rfl (lv_at hl 2 rfl) ?_
      refine lv_iconst (v := 3) hx hb dX6_setDetail_53 (by decide) ?_
      refine lv_iload_n hx hb dX6_setDetail_54 rfl (lv_at hl 3 rfl) ?_
      refine lv_i2l hx hb dX6_setDetail_55 rfl ?_
      refine g_i2l (fun t37 ht37 => ?_)
      have hTo := hT
      refine tVv (n := 3) (As := [.int i, .int 3, .long t37]) (rest := []) hx hb hml hown hg hT hK hX (X6_put l κ s31 this i 3 t37  (hT.k t_this (by decide)) (by omega) (by omega) (by omega) (by omega)) sub_gW_gX (mwV k1600 k1602 k74 k92 k1603) ⟨rfl, by decide, by decide, by decide +kernel⟩ ⟨(Nat.le_of_ble_eq_true rfl), (Nat.le_of_ble_eq_true rfl)⟩ (hT.o20 (hT.k t_this (by decide))) rfl rfl hl.1 rfl (Nat.le_of_ble_eq_true rfl) dX6_setDetail_56 zroom.rf (fun s39 H locs hφ hEs39 hT => ?_)
      have e29 : zI s39 this 0 = 0 := ((hTo.k t_this (by decide)).eI hEs39 (by decide) rfl).trans e29
      have f41 := hφ
      have K42 : zI s39 this 7 = zI σ0 this 7 := hT.eI t_this (by decide) rfl rfl
      have K42n : (zI s39 this 7).toInt = (zI σ0 this 7).toInt := by rw [K42]
      have P43 : zI s39 rP = zI σ0 rP := funext fun k => hT.eI trP (by decide) rfl rfl
      try simp only [erW, erP, ix_0, ix_1, ix_2, ix_3, ix_4, ix_5, ix_6, ix_7, ix_8, ix_9, K34, P35, K42, P43] at f41
      have R44 : RI κ s39 this := R32.extw hEs39 ⟨rfl, rfl, fun _ => rfl, fun _ => rfl, fun _ => rfl⟩ (by rw [erW, f41]; have q9 := R32.2.1; rw [erW] at q9; exact q9.upd (nrel_s (i := ix i) (k := 3) rfl (by decide)))
      have B45 := R44.b
      rw [erW] at B45
      try simp only [K42, P43] at B45
      refine lv_lload_n hx hb dX6_setDetail_59 rfl (lv_at hl 0 rfl) ?_
      subst hQ9
      exact t_l hx hb hr hlocks hT R44 dX6_setDetail_60
  · have c4 := gi_eq c9
    refine lv_iconst (v := 1) hx hb dX6_setDetail_9 (by decide) ?_
    refine lv_goto (tgt := 32) hx hb dX6_setDetail_10 (by decide) ?_
    have hTo := hT
    refine pf20_0 hx hb hg hown hK hT (hT.k t_this (by decide)) rfl (hg _ k1219) dX6_setDetail_32 (fun H locs s46 hus46 hT => ?_)
    have R47 : RI κ s46 this := R3.put hus46 (hTo.k t_this (by decide)) (by decide)
    have B48 := R47.b
    rw [erW] at B48
    have K49 : zI s46 this 7 = zI σ0 this 7 := hT.eI t_this (by decide) rfl rfl
    have K49n : (zI s46 this 7).toInt = (zI σ0 this 7).toInt := by rw [K49]
    have P50 : zI s46 rP = zI σ0 rP := funext fun k => hT.eI trP (by decide) rfl rfl
    try simp only [K49, P50] at B48
    have e51 : zI s46 this 0 = 1 := zput_at hus46
    refine lv_aload_n hx hb dX6_setDetail_35 rfl (lv_at hl 0 rfl) ?_
    refine va_get (D := κ.1) (ci := 6) (v := .int (zI s46 this 0)) (C := RX6) (T := TX6) (N := 27) hx hb hg inX6 hown hK (hT.o20 (hT.k t_this (by decide))).one 0 rfl rfl 0 (by decide) (hg _ k1219) (fun _ h9 => h9) rfl dX6_setDetail_36 ?_
    rw [e51]
    refine lv_if_le (tgt := 44) hx hb dX6_setDetail_39 (by decide) (fun c9 => absurd c9 (by decide)) (fun _ => ?_)
    refine lv_lconst (v := 0) hx hb dX6_setDetail_42 (by decide) ?_
    subst hQ9
    exact t_l hx hb hr hlocks hT R47 dX6_setDetail_43
set_option maxHeartbeats 4000000 in
set_option maxRecDepth 100000 in
theorem X6_threshold (l : Launch) (κ : Kt) (σ0 : Gh) (this : Nat) (th : Int32) (so : Int32) (t_this : zk σ0 this 20) (b_so : isB so) (h0 : RI κ σ0 this) : TC l yX6_threshold cX6_threshold 3 (some .int) 2 51 [.ref this, .int th, .int so] κ σ0 (tqi κ gX σ0 (fun (r : Int32) (τ : Gh) => (RI κ τ this))) := by
  refine TC.of gX (by decide +kernel) (Nat.le_of_ble_eq_true rfl) ?_
  intro p e s m below meth c ls hcs hK hX hT hl
  obtain ⟨hx, hb, hr, hml, hown, hg, hlocks, hin⟩ := hcs
  have hown : s.vm.findClass RX6 = some m.cls := hown
  have hl : lv_has ls 3 [(0, .ref this), (1, .int th), (2, .int so)] := hl
  have hT0 := hT
  have n0 : (0 : Int32).toInt = 0 := by decide
  have n1 : (1 : Int32).toInt = 1 := by decide
  have j0 : (0 : Int64).toInt = 0 := by decide
  have j9999 : (9999 : Int64).toInt = 9999 := by decide
  have th_lo := Int32.le_toInt th
  have th_hi := Int32.toInt_lt th
  generalize hQ9 : tQ _ _ _ _ _ _ = Q9
  obtain ⟨rW, erW⟩ : ∃ z, kR κ this 1 = z := ⟨_, rfl⟩
  have trW : zk σ0 rW 21 := by rw [← erW]; exact h0.1.2.1
  obtain ⟨rP, erP⟩ : ∃ z, kR κ this 5 = z := ⟨_, rfl⟩
  have trP : zk σ0 rP 25 := by rw [← erP]; exact h0.1.2.2.2.2
  have hB0 := h0.b
  rw [erW] at hB0
  have hW := h0.2.1
  rw [erW] at hW
  have hP := h0.2.2.1
  rw [erP] at hP
  have hrN : (rN σ0 this : Int) = (zI σ0 this 7).toInt := by unfold rN; omega
  refine lv_aload_n hx hb dX6_threshold_0 rfl (lv_at hl 0 rfl) ?_
  refine lv_iload_n hx hb dX6_threshold_1 rfl (lv_at hl 1 rfl) ?_
  refine lv_i2l hx hb dX6_threshold_2 rfl ?_
  refine g_i2l (fun t1 ht1 => ?_)
  refine lv_lconst (v := 0) hx hb dX6_threshold_3 (by decide) ?_
  refine lv_ldc2 hx hb hown (hg _ k1568) dX6_threshold_4 ?_
  have hTo := hT
  refine tSi (n := 3) (As := [.long t1, .long 0, .long 9999]) (rest := [.ref this]) hx hb hml hown hg hT hK hX (X6_in l κ σ0 t1 0 9999   ) sub_fE_gX (mwS k1317 k1318 k92 k1319) ⟨rfl, by decide, by decide, by decide +kernel⟩ ⟨(Nat.le_of_ble_eq_true rfl), (Nat.le_of_ble_eq_true rfl)⟩ rfl hl.1 rfl (Nat.le_of_ble_eq_true rfl) dX6_threshold_7 zroom.rf (fun x2 s3 H locs hφ hEs3 hT => ?_)
  have R4 : RI κ s3 this := h0.ext hEs3 ⟨rfl, rfl, fun _ => rfl, fun _ => rfl, fun _ => rfl, fun _ => rfl⟩
  have B5 := R4.b
  rw [erW] at B5
  have K6 : zI s3 this 7 = zI σ0 this 7 := hT.eI t_this (by decide) rfl rfl
  have K6n : (zI s3 this 7).toInt = (zI σ0 this 7).toInt := by rw [K6]
  have P7 : zI s3 rP = zI σ0 rP := funext fun k => hT.eI trP (by decide) rfl rfl
  try simp only [K6, P7] at B5
  obtain ⟨f8, f9⟩ := hφ
  try simp only [erW, erP, ix_0, ix_1, ix_2, ix_3, ix_4, ix_5, ix_6, ix_7, ix_8, ix_9, K6, P7] at f8
  refine lv_if_eq (tgt := 17) hx hb dX6_threshold_10 (by decide) (fun c9 => ?_) (fun c9 => ?_)
  · have c1 := gi_eq c9
    refine lv_iconst (v := 1) hx hb dX6_threshold_17 (by decide) ?_
    have hTo := hT
    refine pf20_0 hx hb hg hown hK hT (hT.k t_this (by decide)) rfl (hg _ k1219) dX6_threshold_18 (fun H locs s10 hus10 hT => ?_)
    have R11 : RI κ s10 this := R4.put hus10 (hTo.k t_this (by decide)) (by decide)
    have B12 := R11.b
    rw [erW] at B12
    have K13 : zI s10 this 7 = zI σ0 this 7 := hT.eI t_this (by decide) rfl rfl
    have K13n : (zI s10 this 7).toInt = (zI σ0 this 7).toInt := by rw [K13]
    have P14 : zI s10 rP = zI σ0 rP := funext fun k => hT.eI trP (by decide) rfl rfl
    try simp only [K13, P14] at B12
    have e15 : zI s10 this 0 = 1 := zput_at hus10
    refine lv_aload_n hx hb dX6_threshold_21 rfl (lv_at hl 0 rfl) ?_
    refine va_get (D := κ.1) (ci := 6) (v := .int (zI s10 this 0)) (C := RX6) (T := TX6) (N := 27) hx hb hg inX6 hown hK (hT.o20 (hT.k t_this (by decide))).one 0 rfl rfl 0 (by decide) (hg _ k1219) (fun _ h9 => h9) rfl dX6_threshold_22 ?_
    rw [e15]
    refine lv_if_le (tgt := 30) hx hb dX6_threshold_25 (by decide) (fun c9 => absurd c9 (by decide)) (fun _ => ?_)
    refine lv_iconst (v := 0) hx hb dX6_threshold_28 (by decide) ?_
    subst hQ9
    exact t_i hx hb hr hlocks hT R11 dX6_threshold_29
  · have c2 := gi_ne c9
    refine lv_iconst (v := 0) hx hb dX6_threshold_13 (by decide) ?_
    refine lv_goto (tgt := 18) hx hb dX6_threshold_14 (by decide) ?_
    have hTo := hT
    refine pf20_0 hx hb hg hown hK hT (hT.k t_this (by decide)) rfl (hg _ k1219) dX6_threshold_18 (fun H locs s16 hus16 hT => ?_)
    have R17 : RI κ s16 this := R4.put hus16 (hTo.k t_this (by decide)) (by decide)
    have B18 := R17.b
    rw [erW] at B18
    have K19 : zI s16 this 7 = zI σ0 this 7 := hT.eI t_this (by decide) rfl rfl
    have K19n : (zI s16 this 7).toInt = (zI σ0 this 7).toInt := by rw [K19]
    have P20 : zI s16 rP = zI σ0 rP := funext fun k => hT.eI trP (by decide) rfl rfl
    try simp only [K19, P20] at B18
    have e21 : zI s16 this 0 = 0 := zput_at hus16
    refine lv_aload_n hx hb dX6_threshold_21 rfl (lv_at hl 0 rfl) ?_
    refine va_get (D := κ.1) (ci := 6) (v := .int (zI s16 this 0)) (C := RX6) (T := TX6) (N := 27) hx hb hg inX6 hown hK (hT.o20 (hT.k t_this (by decide))).one 0 rfl rfl 0 (by decide) (hg _ k1219) (fun _ h9 => h9) rfl dX6_threshold_22 ?_
    rw [e21]
    refine lv_if_le (tgt := 30) hx hb dX6_threshold_25 (by decide) (fun _ => ?_) (fun c9 => absurd (by decide) c9)
    refine lv_aload_n hx hb dX6_threshold_30 rfl (lv_at hl 0 rfl) ?_
    refine lv_iload_n hx hb dX6_threshold_31 rfl (lv_at hl 1 rfl) ?_
    refine lv_iload_n hx hb dX6_threshold_32 rfl (lv_at hl 2 rfl) ?_
    have hTo := hT
    refine tVv (n := 2) (As := [.int th, .int so]) (rest := []) hx hb hml hown hg hT hK hX (X6_cuts l κ s16 this th so  (hT.k t_this (by decide)) b_so R17) sub_gW_gX (mwV k1630 k1632 k77 k92 k1633) ⟨rfl, by decide, by decide, by decide +kernel⟩ ⟨(Nat.le_of_ble_eq_true rfl), (Nat.le_of_ble_eq_true rfl)⟩ (hT.o20 (hT.k t_this (by decide))) rfl rfl hl.1 rfl (Nat.le_of_ble_eq_true rfl) dX6_threshold_33 zroom.rf (fun s23 H locs hφ hEs23 hT => ?_)
    have e21 : zI s23 this 0 = 0 := ((hTo.k t_this (by decide)).eI hEs23 (by decide) rfl).trans e21
    have f25 := hφ
    have B26 := f25.b
    rw [erW] at B26
    have K27 : zI s23 this 7 = zI σ0 this 7 := hT.eI t_this (by decide) rfl rfl
    have K27n : (zI s23 this 7).toInt = (zI σ0 this 7).toInt := by rw [K27]
    have P28 : zI s23 rP = zI σ0 rP := funext fun k => hT.eI trP (by decide) rfl rfl
    try simp only [K27, P28] at B26
    refine lv_aload_n hx hb dX6_threshold_36 rfl (lv_at hl 0 rfl) ?_
    have hTo := hT
    refine tVi (n := 0) (As := []) (rest := []) hx hb hml hown hg hT hK hX (X6_zeros l κ s23 this  (hT.k t_this (by decide)) f25) sub_fE_gX (mwV k1420 k1422 k53 k92 k1423) ⟨rfl, by decide, by decide, by decide +kernel⟩ ⟨(Nat.le_of_ble_eq_true rfl), (Nat.le_of_ble_eq_true rfl)⟩ (hT.o20 (hT.k t_this (by decide))) rfl rfl hl.1 rfl (Nat.le_of_ble_eq_true rfl) dX6_threshold_37 zroom.rf (fun x29 s30 H locs hφ hEs30 hT => ?_)
    have e21 : zI s30 this 0 = 0 := ((hTo.k t_this (by decide)).eI hEs30 (by decide) rfl).trans e21
    have R31 : RI κ s30 this := f25.ext hEs30 ⟨rfl, rfl, fun _ => rfl, fun _ => rfl, fun _ => rfl, fun _ => rfl⟩
    have B32 := R31.b
    rw [erW] at B32
    have K33 : zI s30 this 7 = zI σ0 this 7 := hT.eI t_this (by decide) rfl rfl
    have K33n : (zI s30 this 7).toInt = (zI σ0 this 7).toInt := by rw [K33]
    have P34 : zI s30 rP = zI σ0 rP := funext fun k => hT.eI trP (by decide) rfl rfl
    try simp only [K33, P34] at B32
    subst hQ9
    exact t_i hx hb hr hlocks hT R31 dX6_threshold_40
set_option maxHeartbeats 4000000 in
set_option maxRecDepth 100000 in
theorem X6_quantize (l : Launch) (κ : Kt) (σ0 : Gh) (this : Nat) (qu : Int32) (t_this : zk σ0 this 20) (h0 : RI κ σ0 this) : TC l yX6_quantize cX6_quantize 13 (some .long) 1 25 [.ref this, .int qu] κ σ0 (tql κ gX σ0 (fun (r : Int64) (τ : Gh) => (RI κ τ this))) := by
  refine TC.of gX (by decide +kernel) (Nat.le_of_ble_eq_true rfl) ?_
  intro p e s m below meth c ls hcs hK hX hT hl
  obtain ⟨hx, hb, hr, hml, hown, hg, hlocks, hin⟩ := hcs
  have hown : s.vm.findClass RX6 = some m.cls := hown
  have hl : lv_has ls 13 [(0, .ref this), (1, .int qu)] := hl
  have hT0 := hT
  have n0 : (0 : Int32).toInt = 0 := by decide
  have n1 : (1 : Int32).toInt = 1 := by decide
  have n3 : (3 : Int32).toInt = 3 := by decide
  have j0 : (0 : Int64).toInt = 0 := by decide
  have j1 : (1 : Int64).toInt = 1 := by decide
  have j2 : (2 : Int64).toInt = 2 := by decide
  have j9999 : (9999 : Int64).toInt = 9999 := by decide
  have qu_lo := Int32.le_toInt qu
  have qu_hi := Int32.toInt_lt qu
  generalize hQ9 : tQ _ _ _ _ _ _ = Q9
  obtain ⟨rW, erW⟩ : ∃ z, kR κ this 1 = z := ⟨_, rfl⟩
  have trW : zk σ0 rW 21 := by rw [← erW]; exact h0.1.2.1
  obtain ⟨rP, erP⟩ : ∃ z, kR κ this 5 = z := ⟨_, rfl⟩
  have trP : zk σ0 rP 25 := by rw [← erP]; exact h0.1.2.2.2.2
  have hB0 := h0.b
  rw [erW] at hB0
  have hW := h0.2.1
  rw [erW] at hW
  have hP := h0.2.2.1
  rw [erP] at hP
  have hrN : (rN σ0 this : Int) = (zI σ0 this 7).toInt := by unfold rN; omega
  refine lv_aload_n hx hb dX6_quantize_0 rfl (lv_at hl 0 rfl) ?_
  refine lv_iload_n hx hb dX6_quantize_1 rfl (lv_at hl 1 rfl) ?_
  refine lv_i2l hx hb dX6_quantize_2 rfl ?_
  refine g_i2l (fun t1 ht1 => ?_)
  refine lv_lconst (v := 1) hx hb dX6_quantize_3 (by decide) ?_
  refine lv_ldc2 hx hb hown (hg _ k1568) dX6_quantize_4 ?_
  have hTo := hT
  refine tSi (n := 3) (As := [.long t1, .long 1, .long 9999]) (rest := [.ref this]) hx hb hml hown hg hT hK hX (X6_in l κ σ0 t1 1 9999   ) sub_fE_gX (mwS k1317 k1318 k92 k1319) ⟨rfl, by decide, by decide, by decide +kernel⟩ ⟨(Nat.le_of_ble_eq_true rfl), (Nat.le_of_ble_eq_true rfl)⟩ rfl hl.1 rfl (Nat.le_of_ble_eq_true rfl) dX6_quantize_7 zroom.rf (fun x2 s3 H locs hφ hEs3 hT => ?_)
  have R4 : RI κ s3 this := h0.ext hEs3 ⟨rfl, rfl, fun _ => rfl, fun _ => rfl, fun _ => rfl, fun _ => rfl⟩
  have B5 := R4.b
  rw [erW] at B5
  have K6 : zI s3 this 7 = zI σ0 this 7 := hT.eI t_this (by decide) rfl rfl
  have K6n : (zI s3 this 7).toInt = (zI σ0 this 7).toInt := by rw [K6]
  have P7 : zI s3 rP = zI σ0 rP := funext fun k => hT.eI trP (by decide) rfl rfl
  try simp only [K6, P7] at B5
  obtain ⟨f8, f9⟩ := hφ
  try simp only [erW, erP, ix_0, ix_1, ix_2, ix_3, ix_4, ix_5, ix_6, ix_7, ix_8, ix_9, K6, P7] at f8
  refine lv_if_eq (tgt := 17) hx hb dX6_quantize_10 (by decide) (fun c9 => ?_) (fun c9 => ?_)
  · have c1 := gi_eq c9
    refine lv_iconst (v := 1) hx hb dX6_quantize_17 (by decide) ?_
    have hTo := hT
    refine pf20_0 hx hb hg hown hK hT (hT.k t_this (by decide)) rfl (hg _ k1219) dX6_quantize_18 (fun H locs s10 hus10 hT => ?_)
    have R11 : RI κ s10 this := R4.put hus10 (hTo.k t_this (by decide)) (by decide)
    have B12 := R11.b
    rw [erW] at B12
    have K13 : zI s10 this 7 = zI σ0 this 7 := hT.eI t_this (by decide) rfl rfl
    have K13n : (zI s10 this 7).toInt = (zI σ0 this 7).toInt := by rw [K13]
    have P14 : zI s10 rP = zI σ0 rP := funext fun k => hT.eI trP (by decide) rfl rfl
    try simp only [K13, P14] at B12
    have e15 : zI s10 this 0 = 1 := zput_at hus10
    refine lv_lconst (v := 0) hx hb dX6_quantize_21 (by decide) ?_
    refine lv_lstore_n (lv' := [(2, .long 0), (0, .ref this), (1, .int qu)]) hx hb dX6_quantize_22 rfl hl (by decide) rfl (fun ls hl => ?_)
    refine lv_iconst (v := 0) hx hb dX6_quantize_23 (by decide) ?_
    refine lv_istore (lv' := [(4, .int 0), (2, .long 0), (0, .ref this), (1, .int qu)]) hx hb dX6_quantize_24 hl (by decide) rfl (fun ls hl => ?_)
    have loop26 : ∀ (n9 : Nat) (k : Int32) (sm : Int64) (H : Heap) (locs : List Loc) (sg : Gh) (ls : Array Slot), TS κ gX σ0 sg s H locs → (zI sg this 0 = 1) → (RI κ sg this) → (0 ≤ k.toInt) → (k.toInt ≤ 46) → lv_has ls 13 [(4, .int k), (2, .long sm), (0, .ref this), (1, .int qu)] → (46 - k.toInt) < n9 → tW p l e 1 25 κ s m #[.ref this, .int qu] below meth c H locs Q9 (F0 m 26 ls []) := by
      intro n9
      induction n9 with
      | zero =>
        intro k sm H locs sg ls hT kthis_0 RI0 q1 q2 hl hm9
        exfalso
        omega
      | succ n9 ih9 =>
        have ih26 := ih9
        clear ih9
        intro k sm H locs s16 ls hT kthis_0 RI0 q1 q2 hl hm9
        have B17 := RI0.b
        rw [erW] at B17
        have K18 : zI s16 this 7 = zI σ0 this 7 := hT.eI t_this (by decide) rfl rfl
        have K18n : (zI s16 this 7).toInt = (zI σ0 this 7).toInt := by rw [K18]
        have P19 : zI s16 rP = zI σ0 rP := funext fun k => hT.eI trP (by decide) rfl rfl
        try simp only [K18, P19] at B17
        refine lv_aload_n hx hb dX6_quantize_26 rfl (lv_at hl 2 rfl) ?_
        refine va_get (D := κ.1) (ci := 6) (v := .int (zI s16 this 0)) (C := RX6) (T := TX6) (N := 27) hx hb hg inX6 hown hK (hT.o20 (hT.k t_this (by decide))).one 0 rfl rfl 0 (by decide) (hg _ k1219) (fun _ h9 => h9) rfl dX6_quantize_27 ?_
        rw [kthis_0]
        refine lv_if_ne (tgt := 134) hx hb dX6_quantize_30 (by decide) (fun _ => ?_) (fun c9 => absurd c9 (by decide))
        refine lv_lload_n hx hb dX6_quantize_134 rfl (lv_at hl 1 rfl) ?_
        subst hQ9
        exact t_l hx hb hr hlocks hT RI0 dX6_quantize_135
    exact loop26 ((46 - (0 : Int32).toInt).toNat + 1) 0 0 _ _ _ _ hT e15 R11 (by omega) (by omega) hl (by omega)
  · have c2 := gi_ne c9
    refine lv_iconst (v := 0) hx hb dX6_quantize_13 (by decide) ?_
    refine lv_goto (tgt := 18) hx hb dX6_quantize_14 (by decide) ?_
    have hTo := hT
    refine pf20_0 hx hb hg hown hK hT (hT.k t_this (by decide)) rfl (hg _ k1219) dX6_quantize_18 (fun H locs s20 hus20 hT => ?_)
    have R21 : RI κ s20 this := R4.put hus20 (hTo.k t_this (by decide)) (by decide)
    have B22 := R21.b
    rw [erW] at B22
    have K23 : zI s20 this 7 = zI σ0 this 7 := hT.eI t_this (by decide) rfl rfl
    have K23n : (zI s20 this 7).toInt = (zI σ0 this 7).toInt := by rw [K23]
    have P24 : zI s20 rP = zI σ0 rP := funext fun k => hT.eI trP (by decide) rfl rfl
    try simp only [K23, P24] at B22
    have e25 : zI s20 this 0 = 0 := zput_at hus20
    refine lv_lconst (v := 0) hx hb dX6_quantize_21 (by decide) ?_
    refine lv_lstore_n (lv' := [(2, .long 0), (0, .ref this), (1, .int qu)]) hx hb dX6_quantize_22 rfl hl (by decide) rfl (fun ls hl => ?_)
    refine lv_iconst (v := 0) hx hb dX6_quantize_23 (by decide) ?_
    refine lv_istore (lv' := [(4, .int 0), (2, .long 0), (0, .ref this), (1, .int qu)]) hx hb dX6_quantize_24 hl (by decide) rfl (fun ls hl => ?_)
    have loop26 : ∀ (n9 : Nat) (k : Int32) (sm : Int64) (H : Heap) (locs : List Loc) (sg : Gh) (ls : Array Slot), TS κ gX σ0 sg s H locs → (zI sg this 0 = 0) → (RI κ sg this) → (0 ≤ k.toInt) → (k.toInt ≤ 46) → lv_has ls 13 [(4, .int k), (2, .long sm), (0, .ref this), (1, .int qu)] → (46 - k.toInt) < n9 → tW p l e 1 25 κ s m #[.ref this, .int qu] below meth c H locs Q9 (F0 m 26 ls []) := by
      intro n9
      induction n9 with
      | zero =>
        intro k sm H locs sg ls hT kthis_0 RI0 q1 q2 hl hm9
        exfalso
        omega
      | succ n9 ih9 =>
        have ih26 := ih9
        clear ih9
        intro k sm H locs s26 ls hT kthis_0 RI0 q1 q2 hl hm9
        have B27 := RI0.b
        rw [erW] at B27
        have K28 : zI s26 this 7 = zI σ0 this 7 := hT.eI t_this (by decide) rfl rfl
        have K28n : (zI s26 this 7).toInt = (zI σ0 this 7).toInt := by rw [K28]
        have P29 : zI s26 rP = zI σ0 rP := funext fun k => hT.eI trP (by decide) rfl rfl
        try simp only [K28, P29] at B27
        refine lv_aload_n hx hb dX6_quantize_26 rfl (lv_at hl 2 rfl) ?_
        refine va_get (D := κ.1) (ci := 6) (v := .int (zI s26 this 0)) (C := RX6) (T := TX6) (N := 27) hx hb hg inX6 hown hK (hT.o20 (hT.k t_this (by decide))).one 0 rfl rfl 0 (by decide) (hg _ k1219) (fun _ h9 => h9) rfl dX6_quantize_27 ?_
        rw [kthis_0]
        refine lv_if_ne (tgt := 134) hx hb dX6_quantize_30 (by decide) (fun c9 => absurd (by decide) c9) (fun _ => ?_)
        refine lv_iload hx hb dX6_quantize_33 (lv_at hl 0 rfl) ?_
        refine lv_aload_n hx hb dX6_quantize_35 rfl (lv_at hl 2 rfl) ?_
        have hTo := hT
        refine tVi (n := 0) (As := []) (rest := [.int k]) hx hb hml hown hg hT hK hX (X6_steps l κ s26 this  (hT.k t_this (by decide)) RI0) sub_fE_gX (mwV k1416 k1418 k52 k92 k1419) ⟨rfl, by decide, by decide, by decide +kernel⟩ ⟨(Nat.le_of_ble_eq_true rfl), (Nat.le_of_ble_eq_true rfl)⟩ (hT.o20 (hT.k t_this (by decide))) rfl rfl hl.1 rfl (Nat.le_of_ble_eq_true rfl) dX6_quantize_36 zroom.rf (fun x30 s31 H locs hφ hEs31 hT => ?_)
        have kthis_0 : zI s31 this 0 = 0 := ((hTo.k t_this (by decide)).eI hEs31 (by decide) rfl).trans kthis_0
        have R32 : RI κ s31 this := RI0.ext hEs31 ⟨rfl, rfl, fun _ => rfl, fun _ => rfl, fun _ => rfl, fun _ => rfl⟩
        have B33 := R32.b
        rw [erW] at B33
        have K34 : zI s31 this 7 = zI σ0 this 7 := hT.eI t_this (by decide) rfl rfl
        have K34n : (zI s31 this 7).toInt = (zI σ0 this 7).toInt := by rw [K34]
        have P35 : zI s31 rP = zI σ0 rP := funext fun k => hT.eI trP (by decide) rfl rfl
        try simp only [K34, P35] at B33
        have f36 := hφ
        try simp only [erW, erP, ix_0, ix_1, ix_2, ix_3, ix_4, ix_5, ix_6, ix_7, ix_8, ix_9, K28, P29, K34, P35] at f36
        refine lv_icmp_ge (tgt := 134) hx hb dX6_quantize_39 (by decide) (fun c9 => ?_) (fun c9 => ?_)
        · have c3 := gi_le c9
          refine lv_lload_n hx hb dX6_quantize_134 rfl (lv_at hl 1 rfl) ?_
          subst hQ9
          exact t_l hx hb hr hlocks hT R32 dX6_quantize_135
        · have c4 := gi_nle c9
          refine lv_aload_n hx hb dX6_quantize_42 rfl (lv_at hl 2 rfl) ?_
          refine lv_iload hx hb dX6_quantize_43 (lv_at hl 0 rfl) ?_
          refine lv_iconst (v := 3) hx hb dX6_quantize_45 (by decide) ?_
          have hTo := hT
          refine tVl (n := 2) (As := [.int k, .int 3]) (rest := []) hx hb hml hown hg hT hK hX (X6_of l κ s31 this k 3  (hT.k t_this (by decide)) (by omega) (by omega) (by omega) (by omega)) sub_fE_gX (mwV k1424 k1426 k54 k92 k1427) ⟨rfl, by decide, by decide, by decide +kernel⟩ ⟨(Nat.le_of_ble_eq_true rfl), (Nat.le_of_ble_eq_true rfl)⟩ (hT.o20 (hT.k t_this (by decide))) rfl rfl hl.1 rfl (Nat.le_of_ble_eq_true rfl) dX6_quantize_46 zroom.rf (fun x37 s38 H locs hφ hEs38 hT => ?_)
          have kthis_0 : zI s38 this 0 = 0 := ((hTo.k t_this (by decide)).eI hEs38 (by decide) rfl).trans kthis_0
          have R39 : RI κ s38 this := R32.ext hEs38 ⟨rfl, rfl, fun _ => rfl, fun _ => rfl, fun _ => rfl, fun _ => rfl⟩
          have B40 := R39.b
          rw [erW] at B40
          have K41 : zI s38 this 7 = zI σ0 this 7 := hT.eI t_this (by decide) rfl rfl
          have K41n : (zI s38 this 7).toInt = (zI σ0 this 7).toInt := by rw [K41]
          have P42 : zI s38 rP = zI σ0 rP := funext fun k => hT.eI trP (by decide) rfl rfl
          try simp only [K41, P42] at B40
          have f43 := hφ
          try simp only [erW, erP, ix_0, ix_1, ix_2, ix_3, ix_4, ix_5, ix_6, ix_7, ix_8, ix_9, K34, P35, K41, P42] at f43
          refine lv_lstore (lv' := [(5, .long x37), (4, .int k), (2, .long sm), (0, .ref this), (1, .int qu)]) hx hb dX6_quantize_49 hl (by decide) rfl (fun ls hl => ?_)
          refine lv_lload hx hb dX6_quantize_51 (lv_at hl 0 rfl) ?_
          have hTo := hT
          refine tSl (n := 1) (As := [.long x37]) (rest := []) hx hb hml hown hg hT hK hX (X6_amount l κ s38 x37   ) sub_fE_gX (mwS k1488 k1489 k92 k1490) ⟨rfl, by decide, by decide, by decide +kernel⟩ ⟨(Nat.le_of_ble_eq_true rfl), (Nat.le_of_ble_eq_true rfl)⟩ rfl hl.1 rfl (Nat.le_of_ble_eq_true rfl) dX6_quantize_53 zroom.rf (fun x44 s45 H locs hφ hEs45 hT => ?_)
          have kthis_0 : zI s45 this 0 = 0 := ((hTo.k t_this (by decide)).eI hEs45 (by decide) rfl).trans kthis_0
          have R46 : RI κ s45 this := R39.ext hEs45 ⟨rfl, rfl, fun _ => rfl, fun _ => rfl, fun _ => rfl, fun _ => rfl⟩
          have B47 := R46.b
          rw [erW] at B47
          have K48 : zI s45 this 7 = zI σ0 this 7 := hT.eI t_this (by decide) rfl rfl
          have K48n : (zI s45 this 7).toInt = (zI σ0 this 7).toInt := by rw [K48]
          have P49 : zI s45 rP = zI σ0 rP := funext fun k => hT.eI trP (by decide) rfl rfl
          try simp only [K48, P49] at B47
          have f50 := hφ
          try simp only [erW, erP, ix_0, ix_1, ix_2, ix_3, ix_4, ix_5, ix_6, ix_7, ix_8, ix_9, K41, P42, K48, P49] at f50
          refine lv_lstore (lv' := [(7, .long x44), (5, .long x37), (4, .int k), (2, .long sm), (0, .ref this), (1, .int qu)]) hx hb dX6_quantize_56 hl (by decide) rfl (fun ls hl => ?_)
          refine lv_lload hx hb dX6_quantize_58 (lv_at hl 0 rfl) ?_
          refine lv_iload_n hx hb dX6_quantize_60 rfl (lv_at hl 5 rfl) ?_
          refine lv_i2l hx hb dX6_quantize_61 rfl ?_
          refine g_i2l (fun t51 ht51 => ?_)
          refine lv_lrem hx hb dX6_quantize_62 (gl_nz (by omega)) ?_
          refine lv_topl (fun t52 ht52 => ?_)
          refine lv_lstore (lv' := [(9, .long t52), (7, .long x44), (5, .long x37), (4, .int k), (2, .long sm), (0, .ref this), (1, .int qu)]) hx hb dX6_quantize_63 hl (by decide) rfl (fun ls hl => ?_)
          refine lv_ldc2 hx hb hown (hg _ k1510) dX6_quantize_65 ?_
          refine lv_lload hx hb dX6_quantize_68 (lv_at hl 0 rfl) ?_
          refine lv_lmul hx hb dX6_quantize_70 ?_
          refine lv_topl (fun t53 ht53 => ?_)
          refine lv_iload_n hx hb dX6_quantize_71 rfl (lv_at hl 6 rfl) ?_
          refine lv_i2l hx hb dX6_quantize_72 rfl ?_
          refine g_i2l (fun t54 ht54 => ?_)
          refine W.lcmp hx hb dX6_quantize_73 ?_
          refine lv_if_le (tgt := 88) hx hb dX6_quantize_74 (by decide) (fun c9 => ?_) (fun c9 => ?_)
          · have c5 := gl_le c9
            refine lv_lload hx hb dX6_quantize_88 (lv_at hl 1 rfl) ?_
            refine lv_lload hx hb dX6_quantize_90 (lv_at hl 0 rfl) ?_
            refine lv_lsub hx hb dX6_quantize_92 ?_
            refine lv_topl (fun t55 ht55 => ?_)
            refine lv_lstore (lv' := [(11, .long t55), (9, .long t52), (7, .long x44), (5, .long x37), (4, .int k), (2, .long sm), (0, .ref this), (1, .int qu)]) hx hb dX6_quantize_93 hl (by decide) rfl (fun ls hl => ?_)
            refine lv_lload_n hx hb dX6_quantize_95 rfl (lv_at hl 5 rfl) ?_
            refine lv_lload hx hb dX6_quantize_96 (lv_at hl 0 rfl) ?_
            refine lv_lload hx hb dX6_quantize_98 (lv_at hl 2 rfl) ?_
            refine lv_lsub hx hb dX6_quantize_100 ?_
            refine lv_topl (fun t56 ht56 => ?_)
            have hTo := hT
            refine tSl (n := 1) (As := [.long t56]) (rest := [.long sm]) hx hb hml hown hg hT hK hX (X6_amount l κ s45 t56   ) sub_fE_gX (mwS k1488 k1489 k92 k1490) ⟨rfl, by decide, by decide, by decide +kernel⟩ ⟨(Nat.le_of_ble_eq_true rfl), (Nat.le_of_ble_eq_true rfl)⟩ rfl hl.1 rfl (Nat.le_of_ble_eq_true rfl) dX6_quantize_101 zroom.rf (fun x57 s58 H locs hφ hEs58 hT => ?_)
            have kthis_0 : zI s58 this 0 = 0 := ((hTo.k t_this (by decide)).eI hEs58 (by decide) rfl).trans kthis_0
            have R59 : RI κ s58 this := R46.ext hEs58 ⟨rfl, rfl, fun _ => rfl, fun _ => rfl, fun _ => rfl, fun _ => rfl⟩
            have B60 := R59.b
            rw [erW] at B60
            have K61 : zI s58 this 7 = zI σ0 this 7 := hT.eI t_this (by decide) rfl rfl
            have K61n : (zI s58 this 7).toInt = (zI σ0 this 7).toInt := by rw [K61]
            have P62 : zI s58 rP = zI σ0 rP := funext fun k => hT.eI trP (by decide) rfl rfl
            try simp only [K61, P62] at B60
            have f63 := hφ
            try simp only [erW, erP, ix_0, ix_1, ix_2, ix_3, ix_4, ix_5, ix_6, ix_7, ix_8, ix_9, K48, P49, K61, P62] at f63
            refine lv_ladd hx hb dX6_quantize_104 ?_
            refine lv_topl (fun t64 ht64 => ?_)
            refine lv_lstore_n (lv' := [(2, .long t64), (11, .long t55), (9, .long t52), (7, .long x44), (5, .long x37), (4, .int k), (0, .ref this), (1, .int qu)]) hx hb dX6_quantize_105 rfl hl (by decide) rfl (fun ls hl => ?_)
            refine lv_aload_n hx hb dX6_quantize_106 rfl (lv_at hl 6 rfl) ?_
            refine lv_iload hx hb dX6_quantize_107 (lv_at hl 5 rfl) ?_
            refine lv_iconst (v := 3) hx hb dX6_quantize_109 (by decide) ?_
            refine lv_lload hx hb dX6_quantize_110 (lv_at hl 4 rfl) ?_
            refine lv_lconst (v := 0) hx hb dX6_quantize_112 (by decide) ?_
            refine W.lcmp hx hb dX6_quantize_113 ?_
            refine lv_if_ge (tgt := 123) hx hb dX6_quantize_114 (by decide) (fun c9 => ?_) (fun c9 => ?_)
            · have c6 := gl_ge c9
              refine lv_lload hx hb dX6_quantize_123 (lv_at hl 1 rfl) ?_
              have hTo := hT
              refine tVv (n := 3) (As := [.int k, .int 3, .long t55]) (rest := []) hx hb hml hown hg hT hK hX (X6_put l κ s58 this k 3 t55  (hT.k t_this (by decide)) (by omega) (by omega) (by omega) (by omega)) sub_gW_gX (mwV k1600 k1602 k74 k92 k1603) ⟨rfl, by decide, by decide, by decide +kernel⟩ ⟨(Nat.le_of_ble_eq_true rfl), (Nat.le_of_ble_eq_true rfl)⟩ (hT.o20 (hT.k t_this (by decide))) rfl rfl hl.1 rfl (Nat.le_of_ble_eq_true rfl) dX6_quantize_125 zroom.rf (fun s66 H locs hφ hEs66 hT => ?_)
              have kthis_0 : zI s66 this 0 = 0 := ((hTo.k t_this (by decide)).eI hEs66 (by decide) rfl).trans kthis_0
              have f68 := hφ
              have K69 : zI s66 this 7 = zI σ0 this 7 := hT.eI t_this (by decide) rfl rfl
              have K69n : (zI s66 this 7).toInt = (zI σ0 this 7).toInt := by rw [K69]
              have P70 : zI s66 rP = zI σ0 rP := funext fun k => hT.eI trP (by decide) rfl rfl
              try simp only [erW, erP, ix_0, ix_1, ix_2, ix_3, ix_4, ix_5, ix_6, ix_7, ix_8, ix_9, K61, P62, K69, P70] at f68
              have R71 : RI κ s66 this := R59.extw hEs66 ⟨rfl, rfl, fun _ => rfl, fun _ => rfl, fun _ => rfl⟩ (by rw [erW, f68]; have q9 := R59.2.1; rw [erW] at q9; exact q9.upd (nrel_s (i := ix k) (k := 3) rfl (by decide)))
              have B72 := R71.b
              rw [erW] at B72
              try simp only [K69, P70] at B72
              obtain ⟨t73, qt73⟩ : ∃ zz9 : Int32, k + Int32.ofInt 1 = zz9 := ⟨_, rfl⟩
              refine lv_iinc (v := t73) (lv' := [(4, .int t73), (2, .long t64), (11, .long t55), (9, .long t52), (7, .long x44), (5, .long x37), (0, .ref this), (1, .int qu)]) hx hb dX6_quantize_128 hl (k := 5) rfl qt73 (by decide) rfl (fun ls hl => ?_)
              have ht73 : t73.toInt = k.toInt + 1 := by rw [← qt73]; exact v_addi rfl (show (Int32.ofInt 1).toInt = 1 from by decide) (by omega) (by omega)
              refine lv_goto (tgt := 26) hx hb dX6_quantize_131 (by decide) ?_
              exact ih26 t73 t64 _ _ _ _ hT kthis_0 R71 (by omega) (by omega) (lv_sub hl [0, 1, 6, 7] rfl) (by omega)
            · have c7 := gl_nge c9
              refine lv_lload hx hb dX6_quantize_117 (lv_at hl 1 rfl) ?_
              refine lv_lneg hx hb dX6_quantize_119 ?_
              refine lv_topl (fun t74 ht74 => ?_)
              refine lv_goto (tgt := 125) hx hb dX6_quantize_120 (by decide) ?_
              have hTo := hT
              refine tVv (n := 3) (As := [.int k, .int 3, .long t74]) (rest := []) hx hb hml hown hg hT hK hX (X6_put l κ s58 this k 3 t74  (hT.k t_this (by decide)) (by omega) (by omega) (by omega) (by omega)) sub_gW_gX (mwV k1600 k1602 k74 k92 k1603) ⟨rfl, by decide, by decide, by decide +kernel⟩ ⟨(Nat.le_of_ble_eq_true rfl), (Nat.le_of_ble_eq_true rfl)⟩ (hT.o20 (hT.k t_this (by decide))) rfl rfl hl.1 rfl (Nat.le_of_ble_eq_true rfl) dX6_quantize_125 zroom.rf (fun s76 H locs hφ hEs76 hT => ?_)
              have kthis_0 : zI s76 this 0 = 0 := ((hTo.k t_this (by decide)).eI hEs76 (by decide) rfl).trans kthis_0
              have f78 := hφ
              have K79 : zI s76 this 7 = zI σ0 this 7 := hT.eI t_this (by decide) rfl rfl
              have K79n : (zI s76 this 7).toInt = (zI σ0 this 7).toInt := by rw [K79]
              have P80 : zI s76 rP = zI σ0 rP := funext fun k => hT.eI trP (by decide) rfl rfl
              try simp only [erW, erP, ix_0, ix_1, ix_2, ix_3, ix_4, ix_5, ix_6, ix_7, ix_8, ix_9, K61, P62, K79, P80] at f78
              have R81 : RI κ s76 this := R59.extw hEs76 ⟨rfl, rfl, fun _ => rfl, fun _ => rfl, fun _ => rfl⟩ (by rw [erW, f78]; have q9 := R59.2.1; rw [erW] at q9; exact q9.upd (nrel_s (i := ix k) (k := 3) rfl (by decide)))
              have B82 := R81.b
              rw [erW] at B82
              try simp only [K79, P80] at B82
              obtain ⟨t83, qt83⟩ : ∃ zz9 : Int32, k + Int32.ofInt 1 = zz9 := ⟨_, rfl⟩
              refine lv_iinc (v := t83) (lv' := [(4, .int t83), (2, .long t64), (11, .long t55), (9, .long t52), (7, .long x44), (5, .long x37), (0, .ref this), (1, .int qu)]) hx hb dX6_quantize_128 hl (k := 5) rfl qt83 (by decide) rfl (fun ls hl => ?_)
              have ht83 : t83.toInt = k.toInt + 1 := by rw [← qt83]; exact v_addi rfl (show (Int32.ofInt 1).toInt = 1 from by decide) (by omega) (by omega)
              refine lv_goto (tgt := 26) hx hb dX6_quantize_131 (by decide) ?_
              exact ih26 t83 t64 _ _ _ _ hT kthis_0 R81 (by omega) (by omega) (lv_sub hl [0, 1, 6, 7] rfl) (by omega)
          · have c8 := gl_nle c9
            refine lv_lload hx hb dX6_quantize_77 (lv_at hl 1 rfl) ?_
            refine lv_lload hx hb dX6_quantize_79 (lv_at hl 0 rfl) ?_
            refine lv_lsub hx hb dX6_quantize_81 ?_
            refine lv_topl (fun t84 ht84 => ?_)
            refine lv_iload_n hx hb dX6_quantize_82 rfl (lv_at hl 6 rfl) ?_
            refine lv_i2l hx hb dX6_quantize_83 rfl ?_
            refine g_i2l (fun t85 ht85 => ?_)
            refine lv_ladd hx hb dX6_quantize_84 ?_
            refine lv_topl (fun t86 ht86 => ?_)
            refine lv_goto (tgt := 93) hx hb dX6_quantize_85 (by decide) ?_
            refine lv_lstore (lv' := [(11, .long t86), (9, .long t52), (7, .long x44), (5, .long x37), (4, .int k), (2, .long sm), (0, .ref this), (1, .int qu)]) hx hb dX6_quantize_93 hl (by decide) rfl (fun ls hl => ?_)
            refine lv_lload_n hx hb dX6_quantize_95 rfl (lv_at hl 5 rfl) ?_
            refine lv_lload hx hb dX6_quantize_96 (lv_at hl 0 rfl) ?_
            refine lv_lload hx hb dX6_quantize_98 (lv_at hl 2 rfl) ?_
            refine lv_lsub hx hb dX6_quantize_100 ?_
            refine lv_topl (fun t87 ht87 => ?_)
            have hTo := hT
            refine tSl (n := 1) (As := [.long t87]) (rest := [.long sm]) hx hb hml hown hg hT hK hX (X6_amount l κ s45 t87   ) sub_fE_gX (mwS k1488 k1489 k92 k1490) ⟨rfl, by decide, by decide, by decide +kernel⟩ ⟨(Nat.le_of_ble_eq_true rfl), (Nat.le_of_ble_eq_true rfl)⟩ rfl hl.1 rfl (Nat.le_of_ble_eq_true rfl) dX6_quantize_101 zroom.rf (fun x88 s89 H locs hφ hEs89 hT => ?_)
            have kthis_0 : zI s89 this 0 = 0 := ((hTo.k t_this (by decide)).eI hEs89 (by decide) rfl).trans kthis_0
            have R90 : RI κ s89 this := R46.ext hEs89 ⟨rfl, rfl, fun _ => rfl, fun _ => rfl, fun _ => rfl, fun _ => rfl⟩
            have B91 := R90.b
            rw [erW] at B91
            have K92 : zI s89 this 7 = zI σ0 this 7 := hT.eI t_this (by decide) rfl rfl
            have K92n : (zI s89 this 7).toInt = (zI σ0 this 7).toInt := by rw [K92]
            have P93 : zI s89 rP = zI σ0 rP := funext fun k => hT.eI trP (by decide) rfl rfl
            try simp only [K92, P93] at B91
            have f94 := hφ
            try simp only [erW, erP, ix_0, ix_1, ix_2, ix_3, ix_4, ix_5, ix_6, ix_7, ix_8, ix_9, K48, P49, K92, P93] at f94
            refine lv_ladd hx hb dX6_quantize_104 ?_
            refine lv_topl (fun t95 ht95 => ?_)
            refine lv_lstore_n (lv' := [(2, .long t95), (11, .long t86), (9, .long t52), (7, .long x44), (5, .long x37), (4, .int k), (0, .ref this), (1, .int qu)]) hx hb dX6_quantize_105 rfl hl (by decide) rfl (fun ls hl => ?_)
            refine lv_aload_n hx hb dX6_quantize_106 rfl (lv_at hl 6 rfl) ?_
            refine lv_iload hx hb dX6_quantize_107 (lv_at hl 5 rfl) ?_
            refine lv_iconst (v := 3) hx hb dX6_quantize_109 (by decide) ?_
            refine lv_lload hx hb dX6_quantize_110 (lv_at hl 4 rfl) ?_
            refine lv_lconst (v := 0) hx hb dX6_quantize_112 (by decide) ?_
            refine W.lcmp hx hb dX6_quantize_113 ?_
            refine lv_if_ge (tgt := 123) hx hb dX6_quantize_114 (by decide) (fun c9 => ?_) (fun c9 => ?_)
            · have c9 := gl_ge c9
              refine lv_lload hx hb dX6_quantize_123 (lv_at hl 1 rfl) ?_
              have hTo := hT
              refine tVv (n := 3) (As := [.int k, .int 3, .long t86]) (rest := []) hx hb hml hown hg hT hK hX (X6_put l κ s89 this k 3 t86  (hT.k t_this (by decide)) (by omega) (by omega) (by omega) (by omega)) sub_gW_gX (mwV k1600 k1602 k74 k92 k1603) ⟨rfl, by decide, by decide, by decide +kernel⟩ ⟨(Nat.le_of_ble_eq_true rfl), (Nat.le_of_ble_eq_true rfl)⟩ (hT.o20 (hT.k t_this (by decide))) rfl rfl hl.1 rfl (Nat.le_of_ble_eq_true rfl) dX6_quantize_125 zroom.rf (fun s97 H locs hφ hEs97 hT => ?_)
              have kthis_0 : zI s97 this 0 = 0 := ((hTo.k t_this (by decide)).eI hEs97 (by decide) rfl).trans kthis_0
              have f99 := hφ
              have K100 : zI s97 this 7 = zI σ0 this 7 := hT.eI t_this (by decide) rfl rfl
              have K100n : (zI s97 this 7).toInt = (zI σ0 this 7).toInt := by rw [K100]
              have P101 : zI s97 rP = zI σ0 rP := funext fun k => hT.eI trP (by decide) rfl rfl
              try simp only [erW, erP, ix_0, ix_1, ix_2, ix_3, ix_4, ix_5, ix_6, ix_7, ix_8, ix_9, K92, P93, K100, P101] at f99
              have R102 : RI κ s97 this := R90.extw hEs97 ⟨rfl, rfl, fun _ => rfl, fun _ => rfl, fun _ => rfl⟩ (by rw [erW, f99]; have q9 := R90.2.1; rw [erW] at q9; exact q9.upd (nrel_s (i := ix k) (k := 3) rfl (by decide)))
              have B103 := R102.b
              rw [erW] at B103
              try simp only [K100, P101] at B103
              obtain ⟨t104, qt104⟩ : ∃ zz9 : Int32, k + Int32.ofInt 1 = zz9 := ⟨_, rfl⟩
              refine lv_iinc (v := t104) (lv' := [(4, .int t104), (2, .long t95), (11, .long t86), (9, .long t52), (7, .long x44), (5, .long x37), (0, .ref this), (1, .int qu)]) hx hb dX6_quantize_128 hl (k := 5) rfl qt104 (by decide) rfl (fun ls hl => ?_)
              have ht104 : t104.toInt = k.toInt + 1 := by rw [← qt104]; exact v_addi rfl (show (Int32.ofInt 1).toInt = 1 from by decide) (by omega) (by omega)
              refine lv_goto (tgt := 26) hx hb dX6_quantize_131 (by decide) ?_
              exact ih26 t104 t95 _ _ _ _ hT kthis_0 R102 (by omega) (by omega) (lv_sub hl [0, 1, 6, 7] rfl) (by omega)
            · have c10 := gl_nge c9
              refine lv_lload hx hb dX6_quantize_117 (lv_at hl 1 rfl) ?_
              refine lv_lneg hx hb dX6_quantize_119 ?_
              refine lv_topl (fun t105 ht105 => ?_)
              refine lv_goto (tgt := 125) hx hb dX6_quantize_120 (by decide) ?_
              have hTo := hT
              refine tVv (n := 3) (As := [.int k, .int 3, .long t105]) (rest := []) hx hb hml hown hg hT hK hX (X6_put l κ s89 this k 3 t105  (hT.k t_this (by decide)) (by omega) (by omega) (by omega) (by omega)) sub_gW_gX (mwV k1600 k1602 k74 k92 k1603) ⟨rfl, by decide, by decide, by decide +kernel⟩ ⟨(Nat.le_of_ble_eq_true rfl), (Nat.le_of_ble_eq_true rfl)⟩ (hT.o20 (hT.k t_this (by decide))) rfl rfl hl.1 rfl (Nat.le_of_ble_eq_true rfl) dX6_quantize_125 zroom.rf (fun s107 H locs hφ hEs107 hT => ?_)
              have kthis_0 : zI s107 this 0 = 0 := ((hTo.k t_this (by decide)).eI hEs107 (by decide) rfl).trans kthis_0
              have f109 := hφ
              have K110 : zI s107 this 7 = zI σ0 this 7 := hT.eI t_this (by decide) rfl rfl
              have K110n : (zI s107 this 7).toInt = (zI σ0 this 7).toInt := by rw [K110]
              have P111 : zI s107 rP = zI σ0 rP := funext fun k => hT.eI trP (by decide) rfl rfl
              try simp only [erW, erP, ix_0, ix_1, ix_2, ix_3, ix_4, ix_5, ix_6, ix_7, ix_8, ix_9, K92, P93, K110, P111] at f109
              have R112 : RI κ s107 this := R90.extw hEs107 ⟨rfl, rfl, fun _ => rfl, fun _ => rfl, fun _ => rfl⟩ (by rw [erW, f109]; have q9 := R90.2.1; rw [erW] at q9; exact q9.upd (nrel_s (i := ix k) (k := 3) rfl (by decide)))
              have B113 := R112.b
              rw [erW] at B113
              try simp only [K110, P111] at B113
              obtain ⟨t114, qt114⟩ : ∃ zz9 : Int32, k + Int32.ofInt 1 = zz9 := ⟨_, rfl⟩
              refine lv_iinc (v := t114) (lv' := [(4, .int t114), (2, .long t95), (11, .long t86), (9, .long t52), (7, .long x44), (5, .long x37), (0, .ref this), (1, .int qu)]) hx hb dX6_quantize_128 hl (k := 5) rfl qt114 (by decide) rfl (fun ls hl => ?_)
              have ht114 : t114.toInt = k.toInt + 1 := by rw [← qt114]; exact v_addi rfl (show (Int32.ofInt 1).toInt = 1 from by decide) (by omega) (by omega)
              refine lv_goto (tgt := 26) hx hb dX6_quantize_131 (by decide) ?_
              exact ih26 t114 t95 _ _ _ _ hT kthis_0 R112 (by omega) (by omega) (lv_sub hl [0, 1, 6, 7] rfl) (by omega)
    exact loop26 ((46 - (0 : Int32).toInt).toNat + 1) 0 0 _ _ _ _ hT e25 R21 (by omega) (by omega) hl (by omega)
set_option maxHeartbeats 4000000 in
set_option maxRecDepth 100000 in
theorem X6_sets (l : Launch) (κ : Kt) (σ0 : Gh) (this : Nat) (wh : Int32) (v : Int32) (hi : Int32) (t_this : zk σ0 this 20) (h0 : RI κ σ0 this) (h1 : 0 ≤ wh.toInt) (h2 : wh.toInt ≤ 2) (h3 : -2147483648 ≤ (zJ σ0 (kR κ this 1) (ix wh)).toInt) (h4 : (zJ σ0 (kR κ this 1) (ix wh)).toInt ≤ 2147483647) : TC l yX6_sets cX6_sets 5 (some .int) 1 25 [.ref this, .int wh, .int v, .int hi] κ σ0 (tqi κ gXs σ0 (fun (r : Int32) (τ : Gh) => (RI κ τ this) ∧ ((0 ≤ v.toInt ∧ v.toInt ≤ hi.toInt ∧ (zI τ this 0).toInt = 0 ∧ (zJ τ (kR κ this 1) (ix wh)).toInt = v.toInt) ∨ ((v.toInt < 0 ∨ hi.toInt < v.toInt) ∧ (zI τ this 0).toInt = 1 ∧ (zJ τ (kR κ this 1) (ix wh)) = (zJ σ0 (kR κ this 1) (ix wh)))) ∧ (∀ j : Nat, j ≠ ix wh → zJ τ (kR κ this 1) j = zJ σ0 (kR κ this 1) j) ∧ (r.toInt = (zJ σ0 (kR κ this 1) (ix wh)).toInt))) := by
  refine TC.of gXs (by decide +kernel) (Nat.le_of_ble_eq_true rfl) ?_
  intro p e s m below meth c ls hcs hK hX hT hl
  obtain ⟨hx, hb, hr, hml, hown, hg, hlocks, hin⟩ := hcs
  have hown : s.vm.findClass RX6 = some m.cls := hown
  have hl : lv_has ls 5 [(0, .ref this), (1, .int wh), (2, .int v), (3, .int hi)] := hl
  have hT0 := hT
  have n0 : (0 : Int32).toInt = 0 := by decide
  have n1 : (1 : Int32).toInt = 1 := by decide
  have j0 : (0 : Int64).toInt = 0 := by decide
  have wh_lo := Int32.le_toInt wh
  have wh_hi := Int32.toInt_lt wh
  have v_lo := Int32.le_toInt v
  have v_hi := Int32.toInt_lt v
  have hi_lo := Int32.le_toInt hi
  have hi_hi := Int32.toInt_lt hi
  generalize hQ9 : tQ _ _ _ _ _ _ = Q9
  obtain ⟨rW, erW⟩ : ∃ z, kR κ this 1 = z := ⟨_, rfl⟩
  have trW : zk σ0 rW 21 := by rw [← erW]; exact h0.1.2.1
  obtain ⟨rP, erP⟩ : ∃ z, kR κ this 5 = z := ⟨_, rfl⟩
  have trP : zk σ0 rP 25 := by rw [← erP]; exact h0.1.2.2.2.2
  have hB0 := h0.b
  rw [erW] at hB0
  have hW := h0.2.1
  rw [erW] at hW
  have hP := h0.2.2.1
  rw [erP] at hP
  have hrN : (rN σ0 this : Int) = (zI σ0 this 7).toInt := by unfold rN; omega
  try simp only [erW, erP] at h3
  try simp only [erW, erP] at h4
  refine lv_aload_n hx hb dX6_sets_0 rfl (lv_at hl 0 rfl) ?_
  refine lv_iload_n hx hb dX6_sets_1 rfl (lv_at hl 2 rfl) ?_
  refine lv_i2l hx hb dX6_sets_2 rfl ?_
  refine g_i2l (fun t1 ht1 => ?_)
  refine lv_lconst (v := 0) hx hb dX6_sets_3 (by decide) ?_
  refine lv_iload_n hx hb dX6_sets_4 rfl (lv_at hl 3 rfl) ?_
  refine lv_i2l hx hb dX6_sets_5 rfl ?_
  refine g_i2l (fun t2 ht2 => ?_)
  have hTo := hT
  refine tSi (n := 3) (As := [.long t1, .long 0, .long t2]) (rest := [.ref this]) hx hb hml hown hg hT hK hX (X6_in l κ σ0 t1 0 t2   ) sub_fE_gXs (mwS k1317 k1318 k92 k1319) ⟨rfl, by decide, by decide, by decide +kernel⟩ ⟨(Nat.le_of_ble_eq_true rfl), (Nat.le_of_ble_eq_true rfl)⟩ rfl hl.1 rfl (Nat.le_of_ble_eq_true rfl) dX6_sets_6 zroom.rf (fun x3 s4 H locs hφ hEs4 hT => ?_)
  have E5 : zJ s4 rW = zJ σ0 rW := funext fun k => (hTo.k trW (by decide)).eJ hEs4 (by decide) rfl
  have R6 : RI κ s4 this := h0.ext hEs4 ⟨rfl, rfl, fun _ => rfl, fun _ => rfl, fun _ => rfl, fun _ => rfl⟩
  have B7 := R6.b
  rw [erW] at B7
  have K8 : zI s4 this 7 = zI σ0 this 7 := hT.eI t_this (by decide) rfl rfl
  have K8n : (zI s4 this 7).toInt = (zI σ0 this 7).toInt := by rw [K8]
  have J9 : zJ s4 rW = zJ σ0 rW := by rw [E5]
  have P10 : zI s4 rP = zI σ0 rP := funext fun k => hT.eI trP (by decide) rfl rfl
  try simp only [K8, J9, P10] at B7
  obtain ⟨f11, f12⟩ := hφ
  try simp only [erW, erP, ix_0, ix_1, ix_2, ix_3, ix_4, ix_5, ix_6, ix_7, ix_8, ix_9, K8, J9, P10] at f11
  refine lv_if_eq (tgt := 16) hx hb dX6_sets_9 (by decide) (fun c9 => ?_) (fun c9 => ?_)
  · have c1 := gi_eq c9
    refine lv_iconst (v := 1) hx hb dX6_sets_16 (by decide) ?_
    have hTo := hT
    refine pf20_0 hx hb hg hown hK hT (hT.k t_this (by decide)) rfl (hg _ k1219) dX6_sets_17 (fun H locs s13 hus13 hT => ?_)
    have E14 : zJ s13 rW = zJ s4 rW := zput_J hus13
    have R15 : RI κ s13 this := R6.put hus13 (hTo.k t_this (by decide)) (by decide)
    have B16 := R15.b
    rw [erW] at B16
    have K17 : zI s13 this 7 = zI σ0 this 7 := hT.eI t_this (by decide) rfl rfl
    have K17n : (zI s13 this 7).toInt = (zI σ0 this 7).toInt := by rw [K17]
    have J18 : zJ s13 rW = zJ σ0 rW := by rw [E14, E5]
    have P19 : zI s13 rP = zI σ0 rP := funext fun k => hT.eI trP (by decide) rfl rfl
    try simp only [K17, J18, P19] at B16
    have e20 : zI s13 this 0 = 1 := zput_at hus13
    refine lv_aload_n hx hb dX6_sets_20 rfl (lv_at hl 0 rfl) ?_
    refine va_get (D := κ.1) (ci := 6) (v := .ref (kR κ this 1)) (C := RX6) (T := TX6) (N := 27) hx hb hg inX6 hown hK (hT.o20 (hT.k t_this (by decide))).one 0 rfl rfl 1 (by decide) (hg _ k1220) (fun _ h9 => h9) rfl dX6_sets_21 ?_
    rw [erW]
    refine lv_iload_n hx hb dX6_sets_24 rfl (lv_at hl 1 rfl) ?_
    refine va_lald hx hb hK (hT.o21 (hT.k trW (by decide))).one 0 1 rfl rfl (g_in (by omega) (by omega)) dX6_sets_25 ?_
    refine lv_topl (fun t21 ht21 => ?_)
    have xt21 : ((zJ s13 rW) (ix wh)).toInt = t21.toInt := by rw [ht21]; exact congrArg (fun q9 => (zJ s13 rW q9).toInt) (show ix wh = ix wh from rfl)
    have yt21 : t21.toInt = ((zJ σ0 rW) (ix wh)).toInt := by rw [← xt21]; show (zJ s13 rW (ix wh)).toInt = _; rw [E14, E5]; try rfl
    refine lv_l2i hx hb dX6_sets_26 rfl ?_
    first | refine g_l2i (by omega) (by omega) (fun t22 ht22 => ?_) | refine lv_topi (fun t22 ht22 => ?_)
    refine lv_istore (lv' := [(4, .int t22), (0, .ref this), (1, .int wh), (2, .int v), (3, .int hi)]) hx hb dX6_sets_27 hl (by decide) rfl (fun ls hl => ?_)
    refine lv_aload_n hx hb dX6_sets_29 rfl (lv_at hl 1 rfl) ?_
    refine va_get (D := κ.1) (ci := 6) (v := .int (zI s13 this 0)) (C := RX6) (T := TX6) (N := 27) hx hb hg inX6 hown hK (hT.o20 (hT.k t_this (by decide))).one 0 rfl rfl 0 (by decide) (hg _ k1219) (fun _ h9 => h9) rfl dX6_sets_30 ?_
    rw [e20]
    refine lv_if_ne (tgt := 44) hx hb dX6_sets_33 (by decide) (fun _ => ?_) (fun c9 => absurd c9 (by decide))
    refine lv_iload hx hb dX6_sets_44 (lv_at hl 0 rfl) ?_
    have hW9 : zJ s13 rW = zJ σ0 rW := by rw [E14, E5]
    subst hQ9
    exact t_i hx hb hr hlocks hT ⟨R15, Or.inr ⟨by omega, by rw [e20]; exact n1, by rw [erW, hW9]⟩, fun j _ => by rw [erW, hW9], by rw [erW]; omega⟩ dX6_sets_46
  · have c2 := gi_ne c9
    refine lv_iconst (v := 0) hx hb dX6_sets_12 (by decide) ?_
    refine lv_goto (tgt := 17) hx hb dX6_sets_13 (by decide) ?_
    have hTo := hT
    refine pf20_0 hx hb hg hown hK hT (hT.k t_this (by decide)) rfl (hg _ k1219) dX6_sets_17 (fun H locs s23 hus23 hT => ?_)
    have E24 : zJ s23 rW = zJ s4 rW := zput_J hus23
    have R25 : RI κ s23 this := R6.put hus23 (hTo.k t_this (by decide)) (by decide)
    have B26 := R25.b
    rw [erW] at B26
    have K27 : zI s23 this 7 = zI σ0 this 7 := hT.eI t_this (by decide) rfl rfl
    have K27n : (zI s23 this 7).toInt = (zI σ0 this 7).toInt := by rw [K27]
    have J28 : zJ s23 rW = zJ σ0 rW := by rw [E24, E5]
    have P29 : zI s23 rP = zI σ0 rP := funext fun k => hT.eI trP (by decide) rfl rfl
    try simp only [K27, J28, P29] at B26
    have e30 : zI s23 this 0 = 0 := zput_at hus23
    refine lv_aload_n hx hb dX6_sets_20 rfl (lv_at hl 0 rfl) ?_
    refine va_get (D := κ.1) (ci := 6) (v := .ref (kR κ this 1)) (C := RX6) (T := TX6) (N := 27) hx hb hg inX6 hown hK (hT.o20 (hT.k t_this (by decide))).one 0 rfl rfl 1 (by decide) (hg _ k1220) (fun _ h9 => h9) rfl dX6_sets_21 ?_
    rw [erW]
    refine lv_iload_n hx hb dX6_sets_24 rfl (lv_at hl 1 rfl) ?_
    refine va_lald hx hb hK (hT.o21 (hT.k trW (by decide))).one 0 1 rfl rfl (g_in (by omega) (by omega)) dX6_sets_25 ?_
    refine lv_topl (fun t31 ht31 => ?_)
    have xt31 : ((zJ s23 rW) (ix wh)).toInt = t31.toInt := by rw [ht31]; exact congrArg (fun q9 => (zJ s23 rW q9).toInt) (show ix wh = ix wh from rfl)
    have yt31 : t31.toInt = ((zJ σ0 rW) (ix wh)).toInt := by rw [← xt31]; show (zJ s23 rW (ix wh)).toInt = _; rw [E24, E5]; try rfl
    refine lv_l2i hx hb dX6_sets_26 rfl ?_
    first | refine g_l2i (by omega) (by omega) (fun t32 ht32 => ?_) | refine lv_topi (fun t32 ht32 => ?_)
    refine lv_istore (lv' := [(4, .int t32), (0, .ref this), (1, .int wh), (2, .int v), (3, .int hi)]) hx hb dX6_sets_27 hl (by decide) rfl (fun ls hl => ?_)
    refine lv_aload_n hx hb dX6_sets_29 rfl (lv_at hl 1 rfl) ?_
    refine va_get (D := κ.1) (ci := 6) (v := .int (zI s23 this 0)) (C := RX6) (T := TX6) (N := 27) hx hb hg inX6 hown hK (hT.o20 (hT.k t_this (by decide))).one 0 rfl rfl 0 (by decide) (hg _ k1219) (fun _ h9 => h9) rfl dX6_sets_30 ?_
    rw [e30]
    refine lv_if_ne (tgt := 44) hx hb dX6_sets_33 (by decide) (fun c9 => absurd (by decide) c9) (fun _ => ?_)
    refine lv_aload_n hx hb dX6_sets_36 rfl (lv_at hl 1 rfl) ?_
    refine va_get (D := κ.1) (ci := 6) (v := .ref (kR κ this 1)) (C := RX6) (T := TX6) (N := 27) hx hb hg inX6 hown hK (hT.o20 (hT.k t_this (by decide))).one 0 rfl rfl 1 (by decide) (hg _ k1220) (fun _ h9 => h9) rfl dX6_sets_37 ?_
    rw [erW]
    refine lv_iload_n hx hb dX6_sets_40 rfl (lv_at hl 2 rfl) ?_
    refine lv_iload_n hx hb dX6_sets_41 rfl (lv_at hl 3 rfl) ?_
    refine lv_i2l hx hb dX6_sets_42 rfl ?_
    refine g_i2l (fun t33 ht33 => ?_)
    have hTo := hT
    refine tastl (n := 609) hx hb hK hT (hT.k trW (by decide)) ⟨by decide, by decide⟩ (fun _ _ _ => rfl) (fun _ _ => trivial) (fun _ => rfl) (by omega) (by omega) dX6_sets_43 (fun H locs s34 hus34 hT => ?_)
    have e30 : zI s34 this 0 = 0 := by rw [zpul_I hus34]; exact e30
    have E35 : zJ s34 rW = vp_updL (zJ s23 rW) (ix wh) t33 := by rw [zpul_Ja hus34]
    have R36 : RI κ s34 this := R25.pulw hus34 erW (nrel (by unfold ix; omega))
    have B37 := R36.b
    rw [erW] at B37
    refine lv_iload hx hb dX6_sets_44 (lv_at hl 0 rfl) ?_
    have hW9 : zJ s34 rW = vp_updL (zJ σ0 rW) (ix wh) t33 := by rw [E35, E24, E5]
    subst hQ9
    exact t_i hx hb hr hlocks hT ⟨R36, Or.inl ⟨by omega, by omega, by rw [e30]; exact n0, by rw [erW, hW9, uh]; omega⟩, fun j hj => by rw [erW, hW9, un hj], by rw [erW]; omega⟩ dX6_sets_46
set_option maxHeartbeats 4000000 in
set_option maxRecDepth 100000 in
theorem X6_setSplit (l : Launch) (κ : Kt) (σ0 : Gh) (this : Nat) (i : Int32) (t_this : zk σ0 this 20) (h0 : RI κ σ0 this) (h1 : -2147483648 ≤ (zJ σ0 (kR κ this 1) 0).toInt) (h2 : (zJ σ0 (kR κ this 1) 0).toInt ≤ 2147483647) : TC l yX6_setSplit cX6_setSplit 2 (some .int) 2 49 [.ref this, .int i] κ σ0 (tqi κ gXs σ0 (fun (r : Int32) (τ : Gh) => (RI κ τ this) ∧ ((0 ≤ i.toInt ∧ i.toInt ≤ 2 ∧ (zI τ this 0).toInt = 0 ∧ (zJ τ (kR κ this 1) 0).toInt = i.toInt) ∨ ((i.toInt < 0 ∨ 2 < i.toInt) ∧ (zI τ this 0).toInt = 1 ∧ (zJ τ (kR κ this 1) 0) = (zJ σ0 (kR κ this 1) 0))) ∧ (∀ j : Nat, j ≠ 0 → zJ τ (kR κ this 1) j = zJ σ0 (kR κ this 1) j) ∧ (r.toInt = (zJ σ0 (kR κ this 1) 0).toInt))) := by
  refine TC.of gXs (by decide +kernel) (Nat.le_of_ble_eq_true rfl) ?_
  intro p e s m below meth c ls hcs hK hX hT hl
  obtain ⟨hx, hb, hr, hml, hown, hg, hlocks, hin⟩ := hcs
  have hown : s.vm.findClass RX6 = some m.cls := hown
  have hl : lv_has ls 2 [(0, .ref this), (1, .int i)] := hl
  have hT0 := hT
  have n0 : (0 : Int32).toInt = 0 := by decide
  have n2 : (2 : Int32).toInt = 2 := by decide
  have i_lo := Int32.le_toInt i
  have i_hi := Int32.toInt_lt i
  generalize hQ9 : tQ _ _ _ _ _ _ = Q9
  obtain ⟨rW, erW⟩ : ∃ z, kR κ this 1 = z := ⟨_, rfl⟩
  have trW : zk σ0 rW 21 := by rw [← erW]; exact h0.1.2.1
  obtain ⟨rP, erP⟩ : ∃ z, kR κ this 5 = z := ⟨_, rfl⟩
  have trP : zk σ0 rP 25 := by rw [← erP]; exact h0.1.2.2.2.2
  have hB0 := h0.b
  rw [erW] at hB0
  have hW := h0.2.1
  rw [erW] at hW
  have hP := h0.2.2.1
  rw [erP] at hP
  have hrN : (rN σ0 this : Int) = (zI σ0 this 7).toInt := by unfold rN; omega
  try simp only [erW, erP] at h1
  try simp only [erW, erP] at h2
  refine lv_aload_n hx hb dX6_setSplit_0 rfl (lv_at hl 0 rfl) ?_
  refine lv_iconst (v := 0) hx hb dX6_setSplit_1 (by decide) ?_
  refine lv_iload_n hx hb dX6_setSplit_2 rfl (lv_at hl 1 rfl) ?_
  refine lv_iconst (v := 2) hx hb dX6_setSplit_3 (by decide) ?_
  have hTo := hT
  refine tVi (n := 3) (As := [.int 0, .int i, .int 2]) (rest := []) hx hb hml hown hg hT hK hX (X6_sets l κ σ0 this 0 i 2  (hT.k t_this (by decide)) h0 (by omega) (by omega) (by rw [erW, ix_0]; omega) (by rw [erW, ix_0]; omega)) (fun _ _ h => h) (mwV k1551 k1553 k69 k92 k1554) ⟨rfl, by decide, by decide, by decide +kernel⟩ ⟨(Nat.le_of_ble_eq_true rfl), (Nat.le_of_ble_eq_true rfl)⟩ (hT.o20 (hT.k t_this (by decide))) rfl rfl hl.1 rfl (Nat.le_of_ble_eq_true rfl) dX6_setSplit_4 zroom.rf (fun x1 s2 H locs hφ hEs2 hT => ?_)
  obtain ⟨f4, f5, f6, f7⟩ := hφ
  have B8 := f4.b
  rw [erW] at B8
  have K9 : zI s2 this 7 = zI σ0 this 7 := hT.eI t_this (by decide) rfl rfl
  have K9n : (zI s2 this 7).toInt = (zI σ0 this 7).toInt := by rw [K9]
  have P10 : zI s2 rP = zI σ0 rP := funext fun k => hT.eI trP (by decide) rfl rfl
  try simp only [K9, P10] at B8
  try simp only [erW, erP, ix_0, ix_1, ix_2, ix_3, ix_4, ix_5, ix_6, ix_7, ix_8, ix_9, K9, P10] at f5
  try simp only [erW, erP, ix_0, ix_1, ix_2, ix_3, ix_4, ix_5, ix_6, ix_7, ix_8, ix_9, K9, P10] at f6
  try simp only [erW, erP, ix_0, ix_1, ix_2, ix_3, ix_4, ix_5, ix_6, ix_7, ix_8, ix_9, K9, P10] at f7
  subst hQ9
  exact t_i hx hb hr hlocks hT ⟨f4, by rw [erW]; exact f5, by rw [erW]; exact f6, by rw [erW]; omega⟩ dX6_setSplit_7
set_option maxHeartbeats 4000000 in
set_option maxRecDepth 100000 in
theorem X6_setPredict (l : Launch) (κ : Kt) (σ0 : Gh) (this : Nat) (i : Int32) (t_this : zk σ0 this 20) (h0 : RI κ σ0 this) (h1 : -2147483648 ≤ (zJ σ0 (kR κ this 1) 1).toInt) (h2 : (zJ σ0 (kR κ this 1) 1).toInt ≤ 2147483647) : TC l yX6_setPredict cX6_setPredict 2 (some .int) 2 49 [.ref this, .int i] κ σ0 (tqi κ gXs σ0 (fun (r : Int32) (τ : Gh) => (RI κ τ this) ∧ ((0 ≤ i.toInt ∧ i.toInt ≤ 2 ∧ (zI τ this 0).toInt = 0 ∧ (zJ τ (kR κ this 1) 1).toInt = i.toInt) ∨ ((i.toInt < 0 ∨ 2 < i.toInt) ∧ (zI τ this 0).toInt = 1 ∧ (zJ τ (kR κ this 1) 1) = (zJ σ0 (kR κ this 1) 1))) ∧ (∀ j : Nat, j ≠ 1 → zJ τ (kR κ this 1) j = zJ σ0 (kR κ this 1) j) ∧ (r.toInt = (zJ σ0 (kR κ this 1) 1).toInt))) := by
  refine TC.of gXs (by decide +kernel) (Nat.le_of_ble_eq_true rfl) ?_
  intro p e s m below meth c ls hcs hK hX hT hl
  obtain ⟨hx, hb, hr, hml, hown, hg, hlocks, hin⟩ := hcs
  have hown : s.vm.findClass RX6 = some m.cls := hown
  have hl : lv_has ls 2 [(0, .ref this), (1, .int i)] := hl
  have hT0 := hT
  have n1 : (1 : Int32).toInt = 1 := by decide
  have n2 : (2 : Int32).toInt = 2 := by decide
  have i_lo := Int32.le_toInt i
  have i_hi := Int32.toInt_lt i
  generalize hQ9 : tQ _ _ _ _ _ _ = Q9
  obtain ⟨rW, erW⟩ : ∃ z, kR κ this 1 = z := ⟨_, rfl⟩
  have trW : zk σ0 rW 21 := by rw [← erW]; exact h0.1.2.1
  obtain ⟨rP, erP⟩ : ∃ z, kR κ this 5 = z := ⟨_, rfl⟩
  have trP : zk σ0 rP 25 := by rw [← erP]; exact h0.1.2.2.2.2
  have hB0 := h0.b
  rw [erW] at hB0
  have hW := h0.2.1
  rw [erW] at hW
  have hP := h0.2.2.1
  rw [erP] at hP
  have hrN : (rN σ0 this : Int) = (zI σ0 this 7).toInt := by unfold rN; omega
  try simp only [erW, erP] at h1
  try simp only [erW, erP] at h2
  refine lv_aload_n hx hb dX6_setPredict_0 rfl (lv_at hl 0 rfl) ?_
  refine lv_iconst (v := 1) hx hb dX6_setPredict_1 (by decide) ?_
  refine lv_iload_n hx hb dX6_setPredict_2 rfl (lv_at hl 1 rfl) ?_
  refine lv_iconst (v := 2) hx hb dX6_setPredict_3 (by decide) ?_
  have hTo := hT
  refine tVi (n := 3) (As := [.int 1, .int i, .int 2]) (rest := []) hx hb hml hown hg hT hK hX (X6_sets l κ σ0 this 1 i 2  (hT.k t_this (by decide)) h0 (by omega) (by omega) (by rw [erW, ix_1]; omega) (by rw [erW, ix_1]; omega)) (fun _ _ h => h) (mwV k1551 k1553 k69 k92 k1554) ⟨rfl, by decide, by decide, by decide +kernel⟩ ⟨(Nat.le_of_ble_eq_true rfl), (Nat.le_of_ble_eq_true rfl)⟩ (hT.o20 (hT.k t_this (by decide))) rfl rfl hl.1 rfl (Nat.le_of_ble_eq_true rfl) dX6_setPredict_4 zroom.rf (fun x1 s2 H locs hφ hEs2 hT => ?_)
  obtain ⟨f4, f5, f6, f7⟩ := hφ
  have B8 := f4.b
  rw [erW] at B8
  have K9 : zI s2 this 7 = zI σ0 this 7 := hT.eI t_this (by decide) rfl rfl
  have K9n : (zI s2 this 7).toInt = (zI σ0 this 7).toInt := by rw [K9]
  have P10 : zI s2 rP = zI σ0 rP := funext fun k => hT.eI trP (by decide) rfl rfl
  try simp only [K9, P10] at B8
  try simp only [erW, erP, ix_0, ix_1, ix_2, ix_3, ix_4, ix_5, ix_6, ix_7, ix_8, ix_9, K9, P10] at f5
  try simp only [erW, erP, ix_0, ix_1, ix_2, ix_3, ix_4, ix_5, ix_6, ix_7, ix_8, ix_9, K9, P10] at f6
  try simp only [erW, erP, ix_0, ix_1, ix_2, ix_3, ix_4, ix_5, ix_6, ix_7, ix_8, ix_9, K9, P10] at f7
  subst hQ9
  exact t_i hx hb hr hlocks hT ⟨f4, by rw [erW]; exact f5, by rw [erW]; exact f6, by rw [erW]; omega⟩ dX6_setPredict_7
set_option maxHeartbeats 4000000 in
set_option maxRecDepth 100000 in
theorem X6_setUpdate (l : Launch) (κ : Kt) (σ0 : Gh) (this : Nat) (i : Int32) (t_this : zk σ0 this 20) (b_i : isB i) (h0 : RI κ σ0 this) (h1 : -2147483648 ≤ (zJ σ0 (kR κ this 1) 2).toInt) (h2 : (zJ σ0 (kR κ this 1) 2).toInt ≤ 2147483647) : TC l yX6_setUpdate cX6_setUpdate 2 (some .boolean) 2 49 [.ref this, .int i] κ σ0 (tqi κ gXs σ0 (fun (r : Int32) (τ : Gh) => (RI κ τ this) ∧ ((zI τ this 0).toInt = 0) ∧ ((zJ τ (kR κ this 1) 2).toInt = i.toInt) ∧ (∀ j : Nat, j ≠ 2 → zJ τ (kR κ this 1) j = zJ σ0 (kR κ this 1) j) ∧ ((r.toInt = 1 ∧ (zJ σ0 (kR κ this 1) 2).toInt = 1) ∨ (r.toInt = 0 ∧ (zJ σ0 (kR κ this 1) 2).toInt ≠ 1)) ∧ (isB r))) := by
  refine TC.of gXs (by decide +kernel) (Nat.le_of_ble_eq_true rfl) ?_
  intro p e s m below meth c ls hcs hK hX hT hl
  obtain ⟨hx, hb, hr, hml, hown, hg, hlocks, hin⟩ := hcs
  have hown : s.vm.findClass RX6 = some m.cls := hown
  have hl : lv_has ls 2 [(0, .ref this), (1, .int i)] := hl
  have hT0 := hT
  have n0 : (0 : Int32).toInt = 0 := by decide
  have n1 : (1 : Int32).toInt = 1 := by decide
  have n2 : (2 : Int32).toInt = 2 := by decide
  generalize hQ9 : tQ _ _ _ _ _ _ = Q9
  obtain ⟨rW, erW⟩ : ∃ z, kR κ this 1 = z := ⟨_, rfl⟩
  have trW : zk σ0 rW 21 := by rw [← erW]; exact h0.1.2.1
  obtain ⟨rP, erP⟩ : ∃ z, kR κ this 5 = z := ⟨_, rfl⟩
  have trP : zk σ0 rP 25 := by rw [← erP]; exact h0.1.2.2.2.2
  have hB0 := h0.b
  rw [erW] at hB0
  have hW := h0.2.1
  rw [erW] at hW
  have hP := h0.2.2.1
  rw [erP] at hP
  have hrN : (rN σ0 this : Int) = (zI σ0 this 7).toInt := by unfold rN; omega
  try simp only [erW, erP] at h1
  try simp only [erW, erP] at h2
  refine lv_aload_n hx hb dX6_setUpdate_0 rfl (lv_at hl 0 rfl) ?_
  refine lv_iconst (v := 2) hx hb dX6_setUpdate_1 (by decide) ?_
  refine lv_iload_n hx hb dX6_setUpdate_2 rfl (lv_at hl 1 rfl) ?_
  refine lv_if_eq (tgt := 10) hx hb dX6_setUpdate_3 (by decide) (fun c9 => ?_) (fun c9 => ?_)
  · have c1 := gi_eq c9
    refine lv_iconst (v := 0) hx hb dX6_setUpdate_10 (by decide) ?_
    refine lv_iconst (v := 1) hx hb dX6_setUpdate_11 (by decide) ?_
    have hTo := hT
    refine tVi (n := 3) (As := [.int 2, .int 0, .int 1]) (rest := []) hx hb hml hown hg hT hK hX (X6_sets l κ σ0 this 2 0 1  (hT.k t_this (by decide)) h0 (by omega) (by omega) (by rw [erW, ix_2]; omega) (by rw [erW, ix_2]; omega)) (fun _ _ h => h) (mwV k1551 k1553 k69 k92 k1554) ⟨rfl, by decide, by decide, by decide +kernel⟩ ⟨(Nat.le_of_ble_eq_true rfl), (Nat.le_of_ble_eq_true rfl)⟩ (hT.o20 (hT.k t_this (by decide))) rfl rfl hl.1 rfl (Nat.le_of_ble_eq_true rfl) dX6_setUpdate_12 zroom.rf (fun x1 s2 H locs hφ hEs2 hT => ?_)
    obtain ⟨f4, f5, f6, f7⟩ := hφ
    have B8 := f4.b
    rw [erW] at B8
    have K9 : zI s2 this 7 = zI σ0 this 7 := hT.eI t_this (by decide) rfl rfl
    have K9n : (zI s2 this 7).toInt = (zI σ0 this 7).toInt := by rw [K9]
    have P10 : zI s2 rP = zI σ0 rP := funext fun k => hT.eI trP (by decide) rfl rfl
    try simp only [K9, P10] at B8
    try simp only [erW, erP, ix_0, ix_1, ix_2, ix_3, ix_4, ix_5, ix_6, ix_7, ix_8, ix_9, K9, P10] at f5
    try simp only [erW, erP, ix_0, ix_1, ix_2, ix_3, ix_4, ix_5, ix_6, ix_7, ix_8, ix_9, K9, P10] at f6
    try simp only [erW, erP, ix_0, ix_1, ix_2, ix_3, ix_4, ix_5, ix_6, ix_7, ix_8, ix_9, K9, P10] at f7
    have hib : i.toInt = 0 ∨ i.toInt = 1 := b_i.elim (fun q9 => Or.inl (by rw [q9]; decide)) (fun q9 => Or.inr (by rw [q9]; decide))
    have sf9 := f5.elim (fun q9 => q9) (fun q9 => by exfalso; have z9 := q9.1; omega)
    refine lv_iconst (v := 1) hx hb dX6_setUpdate_15 (by decide) ?_
    refine lv_icmp_ne (tgt := 23) hx hb dX6_setUpdate_16 (by decide) (fun c9 => ?_) (fun c9 => ?_)
    · have c2 := gi_ne c9
      refine lv_iconst (v := 0) hx hb dX6_setUpdate_23 (by decide) ?_
      subst hQ9
      exact t_z hx hb hr isB0 hlocks hT ⟨f4, sf9.2.2.1, by rw [erW]; omega, by rw [erW]; exact f6, by rw [erW]; omega, isB0⟩ dX6_setUpdate_24
    · have c3 := gi_eq c9
      refine lv_iconst (v := 1) hx hb dX6_setUpdate_19 (by decide) ?_
      refine lv_goto (tgt := 24) hx hb dX6_setUpdate_20 (by decide) ?_
      subst hQ9
      exact t_z hx hb hr isB1 hlocks hT ⟨f4, sf9.2.2.1, by rw [erW]; omega, by rw [erW]; exact f6, by rw [erW]; omega, isB1⟩ dX6_setUpdate_24
  · have c4 := gi_ne c9
    refine lv_iconst (v := 1) hx hb dX6_setUpdate_6 (by decide) ?_
    refine lv_goto (tgt := 11) hx hb dX6_setUpdate_7 (by decide) ?_
    refine lv_iconst (v := 1) hx hb dX6_setUpdate_11 (by decide) ?_
    have hTo := hT
    refine tVi (n := 3) (As := [.int 2, .int 1, .int 1]) (rest := []) hx hb hml hown hg hT hK hX (X6_sets l κ σ0 this 2 1 1  (hT.k t_this (by decide)) h0 (by omega) (by omega) (by rw [erW, ix_2]; omega) (by rw [erW, ix_2]; omega)) (fun _ _ h => h) (mwV k1551 k1553 k69 k92 k1554) ⟨rfl, by decide, by decide, by decide +kernel⟩ ⟨(Nat.le_of_ble_eq_true rfl), (Nat.le_of_ble_eq_true rfl)⟩ (hT.o20 (hT.k t_this (by decide))) rfl rfl hl.1 rfl (Nat.le_of_ble_eq_true rfl) dX6_setUpdate_12 zroom.rf (fun x11 s12 H locs hφ hEs12 hT => ?_)
    obtain ⟨f14, f15, f16, f17⟩ := hφ
    have B18 := f14.b
    rw [erW] at B18
    have K19 : zI s12 this 7 = zI σ0 this 7 := hT.eI t_this (by decide) rfl rfl
    have K19n : (zI s12 this 7).toInt = (zI σ0 this 7).toInt := by rw [K19]
    have P20 : zI s12 rP = zI σ0 rP := funext fun k => hT.eI trP (by decide) rfl rfl
    try simp only [K19, P20] at B18
    try simp only [erW, erP, ix_0, ix_1, ix_2, ix_3, ix_4, ix_5, ix_6, ix_7, ix_8, ix_9, K19, P20] at f15
    try simp only [erW, erP, ix_0, ix_1, ix_2, ix_3, ix_4, ix_5, ix_6, ix_7, ix_8, ix_9, K19, P20] at f16
    try simp only [erW, erP, ix_0, ix_1, ix_2, ix_3, ix_4, ix_5, ix_6, ix_7, ix_8, ix_9, K19, P20] at f17
    have hib : i.toInt = 0 ∨ i.toInt = 1 := b_i.elim (fun q9 => Or.inl (by rw [q9]; decide)) (fun q9 => Or.inr (by rw [q9]; decide))
    have sf9 := f15.elim (fun q9 => q9) (fun q9 => by exfalso; have z9 := q9.1; omega)
    refine lv_iconst (v := 1) hx hb dX6_setUpdate_15 (by decide) ?_
    refine lv_icmp_ne (tgt := 23) hx hb dX6_setUpdate_16 (by decide) (fun c9 => ?_) (fun c9 => ?_)
    · have c5 := gi_ne c9
      refine lv_iconst (v := 0) hx hb dX6_setUpdate_23 (by decide) ?_
      subst hQ9
      exact t_z hx hb hr isB0 hlocks hT ⟨f14, sf9.2.2.1, by rw [erW]; omega, by rw [erW]; exact f16, by rw [erW]; omega, isB0⟩ dX6_setUpdate_24
    · have c6 := gi_eq c9
      refine lv_iconst (v := 1) hx hb dX6_setUpdate_19 (by decide) ?_
      refine lv_goto (tgt := 24) hx hb dX6_setUpdate_20 (by decide) ?_
      subst hQ9
      exact t_z hx hb hr isB1 hlocks hT ⟨f14, sf9.2.2.1, by rw [erW]; omega, by rw [erW]; exact f16, by rw [erW]; omega, isB1⟩ dX6_setUpdate_24

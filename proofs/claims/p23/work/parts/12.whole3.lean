/-! Whole over any state: what makes room -/
theorem sub_fE_fW : ∀ t k, fW t k = false → fE t k = false := by
  intro t k h
  simp [fE, fW] at h ⊢ <;> omega
theorem sub_fM_fW : ∀ t k, fW t k = false → fM t k = false := by
  intro t k h
  simp [fM, fW] at h ⊢ <;> omega
theorem sub_fX_fW : ∀ t k, fW t k = false → fX t k = false := by
  intro t k h
  simp [fX, fW] at h ⊢ <;> omega
theorem k0 : Cond.selects RX4 yX4_lowest yX4_lowest ∈ GW := gm 0 (by decide +kernel) (by decide +kernel)
theorem k1 : Cond.selects RX4 yX4_makeRoom yX4_makeRoom ∈ GW := gm 1 (by decide +kernel) (by decide +kernel)
theorem k2 : Cond.selects RX4 yX4_addAmount yX4_addAmount ∈ GW := gm 2 (by decide +kernel) (by decide +kernel)
theorem k3 : Cond.selects RX4 yX4_turn yX4_turn ∈ GW := gm 3 (by decide +kernel) (by decide +kernel)
theorem k4 : Cond.selects RX4 yX4_trim yX4_trim ∈ GW := gm 4 (by decide +kernel) (by decide +kernel)
theorem k12 : Cond.selects RX4 yX4_multiply yX4_multiply ∈ GW := gm 12 (by decide +kernel) (by decide +kernel)
theorem k13 : Cond.selects RX4 yX4_divide yX4_divide ∈ GW := gm 13 (by decide +kernel) (by decide +kernel)
theorem k90 : Cond.initialized RJ9 ∈ GW := gm 90 (by decide +kernel) (by decide +kernel)
theorem k91 : Cond.initialized RJ10 ∈ GW := gm 91 (by decide +kernel) (by decide +kernel)
theorem k193 : Cond.arrayClass .int ∈ GW := gm 193 (by decide +kernel) (by decide +kernel)
theorem k275 : Cond.instanceMethod yX4_become ∈ GW := gm 275 (by decide +kernel) (by decide +kernel)
theorem k276 : Cond.selects RX4 yX4_become yX4_become ∈ GW := gm 276 (by decide +kernel) (by decide +kernel)
theorem k277 : Cond.code yX4_become cX4_become 5 none ∈ GW := gm 277 (by decide +kernel) (by decide +kernel)
theorem k344 : Cond.methodLink RX4 31 yX4_lowest ∈ GW := gm 344 (by decide +kernel) (by decide +kernel)
theorem k346 : Cond.instanceMethod yX4_lowest ∈ GW := gm 346 (by decide +kernel) (by decide +kernel)
theorem k347 : Cond.code yX4_lowest cX4_lowest 1 (some .long) ∈ GW := gm 347 (by decide +kernel) (by decide +kernel)
theorem k349 : Cond.methodLink RX4 35 yX4_become ∈ GW := gm 349 (by decide +kernel) (by decide +kernel)
theorem k350 : Cond.methodLink RX4 39 yJ9_max_7cf53 ∈ GW := gm 350 (by decide +kernel) (by decide +kernel)
theorem k351 : Cond.static yJ9_max_7cf53 ∈ GW := gm 351 (by decide +kernel) (by decide +kernel)
theorem k352 : Cond.code yJ9_max_7cf53 cJ9_max_7cf53 2 (some .int) ∈ GW := gm 352 (by decide +kernel) (by decide +kernel)
theorem k353 : Cond.methodLink RX4 21 yX4_makeRoom ∈ GW := gm 353 (by decide +kernel) (by decide +kernel)
theorem k355 : Cond.instanceMethod yX4_makeRoom ∈ GW := gm 355 (by decide +kernel) (by decide +kernel)
theorem k356 : Cond.code yX4_makeRoom cX4_makeRoom 4 (some .int) ∈ GW := gm 356 (by decide +kernel) (by decide +kernel)
theorem k357 : Cond.methodLink RX4 90 yJ9_min_7cf53 ∈ GW := gm 357 (by decide +kernel) (by decide +kernel)
theorem k358 : Cond.static yJ9_min_7cf53 ∈ GW := gm 358 (by decide +kernel) (by decide +kernel)
theorem k359 : Cond.code yJ9_min_7cf53 cJ9_min_7cf53 2 (some .int) ∈ GW := gm 359 (by decide +kernel) (by decide +kernel)
theorem k360 : Cond.methodLink RX4 25 arraycopyName ∈ GW := gm 360 (by decide +kernel) (by decide +kernel)
theorem k361 : Cond.static arraycopyName ∈ GW := gm 361 (by decide +kernel) (by decide +kernel)
theorem k362 : Cond.native arraycopyName ∈ GW := gm 362 (by decide +kernel) (by decide +kernel)
theorem k363 : Cond.methodLink RX4 45 yX4_addAmount ∈ GW := gm 363 (by decide +kernel) (by decide +kernel)
theorem k365 : Cond.instanceMethod yX4_addAmount ∈ GW := gm 365 (by decide +kernel) (by decide +kernel)
theorem k366 : Cond.code yX4_addAmount cX4_addAmount 12 (some .long) ∈ GW := gm 366 (by decide +kernel) (by decide +kernel)
theorem k367 : Cond.methodLink RX4 49 yX4_turn ∈ GW := gm 367 (by decide +kernel) (by decide +kernel)
theorem k369 : Cond.instanceMethod yX4_turn ∈ GW := gm 369 (by decide +kernel) (by decide +kernel)
theorem k370 : Cond.code yX4_turn cX4_turn 4 none ∈ GW := gm 370 (by decide +kernel) (by decide +kernel)
theorem k371 : Cond.methodLink RX4 52 yX4_trim ∈ GW := gm 371 (by decide +kernel) (by decide +kernel)
theorem k373 : Cond.instanceMethod yX4_trim ∈ GW := gm 373 (by decide +kernel) (by decide +kernel)
theorem k374 : Cond.code yX4_trim cX4_trim 1 none ∈ GW := gm 374 (by decide +kernel) (by decide +kernel)
theorem k555 : Cond.methodLink RX4 55 yJ9_floorDiv_f86c9 ∈ GW := gm 555 (by decide +kernel) (by decide +kernel)
theorem k556 : Cond.static yJ9_floorDiv_f86c9 ∈ GW := gm 556 (by decide +kernel) (by decide +kernel)
theorem k557 : Cond.code yJ9_floorDiv_f86c9 cJ9_floorDiv_f86c9 6 (some .long) ∈ GW := gm 557 (by decide +kernel) (by decide +kernel)
theorem k558 : Cond.methodLink RX4 59 yX4_multiply ∈ GW := gm 558 (by decide +kernel) (by decide +kernel)
theorem k560 : Cond.instanceMethod yX4_multiply ∈ GW := gm 560 (by decide +kernel) (by decide +kernel)
theorem k561 : Cond.code yX4_multiply cX4_multiply 9 none ∈ GW := gm 561 (by decide +kernel) (by decide +kernel)
theorem k562 : Cond.methodLink RX4 63 yX4_divide ∈ GW := gm 562 (by decide +kernel) (by decide +kernel)
theorem k564 : Cond.instanceMethod yX4_divide ∈ GW := gm 564 (by decide +kernel) (by decide +kernel)
theorem k565 : Cond.code yX4_divide cX4_divide 6 none ∈ GW := gm 565 (by decide +kernel) (by decide +kernel)
theorem dX4_add_0 : decode cX4_add 0 = .ok (.aload_n 0, 1) := by decide +kernel
theorem dX4_add_1 : decode cX4_add 1 = .ok (.getfield 13, 3) := by decide +kernel
theorem dX4_add_4 : decode cX4_add 4 = .ok (.iconst 1, 1) := by decide +kernel
theorem dX4_add_5 : decode cX4_add 5 = .ok (.if_icmp .gt 27, 3) := by decide +kernel
theorem dX4_add_8 : decode cX4_add 8 = .ok (.aload_n 1, 1) := by decide +kernel
theorem dX4_add_9 : decode cX4_add 9 = .ok (.getfield 13, 3) := by decide +kernel
theorem dX4_add_12 : decode cX4_add 12 = .ok (.iconst 1, 1) := by decide +kernel
theorem dX4_add_13 : decode cX4_add 13 = .ok (.if_icmp .gt 19, 3) := by decide +kernel
theorem dX4_add_16 : decode cX4_add 16 = .ok (.aload_n 0, 1) := by decide +kernel
theorem dX4_add_17 : decode cX4_add 17 = .ok (.aload_n 0, 1) := by decide +kernel
theorem dX4_add_18 : decode cX4_add 18 = .ok (.invokevirtual 31, 3) := by decide +kernel
theorem dX4_add_21 : decode cX4_add 21 = .ok (.aload_n 1, 1) := by decide +kernel
theorem dX4_add_22 : decode cX4_add 22 = .ok (.invokevirtual 31, 3) := by decide +kernel
theorem dX4_add_25 : decode cX4_add 25 = .ok (.lload_n 2, 1) := by decide +kernel
theorem dX4_add_26 : decode cX4_add 26 = .ok (.lmul, 1) := by decide +kernel
theorem dX4_add_27 : decode cX4_add 27 = .ok (.ladd, 1) := by decide +kernel
theorem dX4_add_28 : decode cX4_add 28 = .ok (.invokevirtual 35, 3) := by decide +kernel
theorem dX4_add_31 : decode cX4_add 31 = .ok (.return_, 1) := by decide +kernel
theorem dX4_add_32 : decode cX4_add 32 = .ok (.aload_n 0, 1) := by decide +kernel
theorem dX4_add_33 : decode cX4_add 33 = .ok (.aload_n 0, 1) := by decide +kernel
theorem dX4_add_34 : decode cX4_add 34 = .ok (.getfield 13, 3) := by decide +kernel
theorem dX4_add_37 : decode cX4_add 37 = .ok (.aload_n 1, 1) := by decide +kernel
theorem dX4_add_38 : decode cX4_add 38 = .ok (.getfield 13, 3) := by decide +kernel
theorem dX4_add_41 : decode cX4_add 41 = .ok (.invokestatic 39, 3) := by decide +kernel
theorem dX4_add_44 : decode cX4_add 44 = .ok (.iconst 1, 1) := by decide +kernel
theorem dX4_add_45 : decode cX4_add 45 = .ok (.iadd, 1) := by decide +kernel
theorem dX4_add_46 : decode cX4_add 46 = .ok (.invokevirtual 21, 3) := by decide +kernel
theorem dX4_add_49 : decode cX4_add 49 = .ok (.istore 4, 2) := by decide +kernel
theorem dX4_add_51 : decode cX4_add 51 = .ok (.aload_n 0, 1) := by decide +kernel
theorem dX4_add_52 : decode cX4_add 52 = .ok (.aload_n 1, 1) := by decide +kernel
theorem dX4_add_53 : decode cX4_add 53 = .ok (.aload_n 0, 1) := by decide +kernel
theorem dX4_add_54 : decode cX4_add 54 = .ok (.getfield 17, 3) := by decide +kernel
theorem dX4_add_57 : decode cX4_add 57 = .ok (.aload_n 1, 1) := by decide +kernel
theorem dX4_add_58 : decode cX4_add 58 = .ok (.getfield 17, 3) := by decide +kernel
theorem dX4_add_61 : decode cX4_add 61 = .ok (.if_icmp .ne 7, 3) := by decide +kernel
theorem dX4_add_64 : decode cX4_add 64 = .ok (.lload_n 2, 1) := by decide +kernel
theorem dX4_add_65 : decode cX4_add 65 = .ok (.goto 5, 3) := by decide +kernel
theorem dX4_add_68 : decode cX4_add 68 = .ok (.lload_n 2, 1) := by decide +kernel
theorem dX4_add_69 : decode cX4_add 69 = .ok (.lneg, 1) := by decide +kernel
theorem dX4_add_70 : decode cX4_add 70 = .ok (.iload 4, 2) := by decide +kernel
theorem dX4_add_72 : decode cX4_add 72 = .ok (.invokevirtual 45, 3) := by decide +kernel
theorem dX4_add_75 : decode cX4_add 75 = .ok (.lstore 5, 2) := by decide +kernel
theorem dX4_add_77 : decode cX4_add 77 = .ok (.lload 5, 2) := by decide +kernel
theorem dX4_add_79 : decode cX4_add 79 = .ok (.lconst 0, 1) := by decide +kernel
theorem dX4_add_80 : decode cX4_add 80 = .ok (.lcmp, 1) := by decide +kernel
theorem dX4_add_81 : decode cX4_add 81 = .ok (.ifCond .ge 7, 3) := by decide +kernel
theorem dX4_add_84 : decode cX4_add 84 = .ok (.aload_n 0, 1) := by decide +kernel
theorem dX4_add_85 : decode cX4_add 85 = .ok (.invokevirtual 49, 3) := by decide +kernel
theorem dX4_add_88 : decode cX4_add 88 = .ok (.aload_n 0, 1) := by decide +kernel
theorem dX4_add_89 : decode cX4_add 89 = .ok (.invokevirtual 52, 3) := by decide +kernel
theorem dX4_add_92 : decode cX4_add 92 = .ok (.return_, 1) := by decide +kernel
theorem dX4_copyFrom_0 : decode cX4_copyFrom 0 = .ok (.aload_n 0, 1) := by decide +kernel
theorem dX4_copyFrom_1 : decode cX4_copyFrom 1 = .ok (.getfield 7, 3) := by decide +kernel
theorem dX4_copyFrom_4 : decode cX4_copyFrom 4 = .ok (.iconst 0, 1) := by decide +kernel
theorem dX4_copyFrom_5 : decode cX4_copyFrom 5 = .ok (.aload_n 1, 1) := by decide +kernel
theorem dX4_copyFrom_6 : decode cX4_copyFrom 6 = .ok (.getfield 7, 3) := by decide +kernel
theorem dX4_copyFrom_9 : decode cX4_copyFrom 9 = .ok (.iconst 0, 1) := by decide +kernel
theorem dX4_copyFrom_10 : decode cX4_copyFrom 10 = .ok (.iaload, 1) := by decide +kernel
theorem dX4_copyFrom_11 : decode cX4_copyFrom 11 = .ok (.iastore, 1) := by decide +kernel
theorem dX4_copyFrom_12 : decode cX4_copyFrom 12 = .ok (.aload_n 1, 1) := by decide +kernel
theorem dX4_copyFrom_13 : decode cX4_copyFrom 13 = .ok (.getfield 13, 3) := by decide +kernel
theorem dX4_copyFrom_16 : decode cX4_copyFrom 16 = .ok (.iconst 1, 1) := by decide +kernel
theorem dX4_copyFrom_17 : decode cX4_copyFrom 17 = .ok (.if_icmp .le 29, 3) := by decide +kernel
theorem dX4_copyFrom_20 : decode cX4_copyFrom 20 = .ok (.aload_n 0, 1) := by decide +kernel
theorem dX4_copyFrom_21 : decode cX4_copyFrom 21 = .ok (.aload_n 1, 1) := by decide +kernel
theorem dX4_copyFrom_22 : decode cX4_copyFrom 22 = .ok (.getfield 13, 3) := by decide +kernel
theorem dX4_copyFrom_25 : decode cX4_copyFrom 25 = .ok (.invokevirtual 21, 3) := by decide +kernel
theorem dX4_copyFrom_28 : decode cX4_copyFrom 28 = .ok (.pop, 1) := by decide +kernel
theorem dX4_copyFrom_29 : decode cX4_copyFrom 29 = .ok (.aload_n 1, 1) := by decide +kernel
theorem dX4_copyFrom_30 : decode cX4_copyFrom 30 = .ok (.getfield 7, 3) := by decide +kernel
theorem dX4_copyFrom_33 : decode cX4_copyFrom 33 = .ok (.iconst 0, 1) := by decide +kernel
theorem dX4_copyFrom_34 : decode cX4_copyFrom 34 = .ok (.aload_n 0, 1) := by decide +kernel
theorem dX4_copyFrom_35 : decode cX4_copyFrom 35 = .ok (.getfield 7, 3) := by decide +kernel
theorem dX4_copyFrom_38 : decode cX4_copyFrom 38 = .ok (.iconst 0, 1) := by decide +kernel
theorem dX4_copyFrom_39 : decode cX4_copyFrom 39 = .ok (.aload_n 1, 1) := by decide +kernel
theorem dX4_copyFrom_40 : decode cX4_copyFrom 40 = .ok (.getfield 13, 3) := by decide +kernel
theorem dX4_copyFrom_43 : decode cX4_copyFrom 43 = .ok (.invokestatic 25, 3) := by decide +kernel
theorem dX4_copyFrom_46 : decode cX4_copyFrom 46 = .ok (.aload_n 0, 1) := by decide +kernel
theorem dX4_copyFrom_47 : decode cX4_copyFrom 47 = .ok (.aload_n 1, 1) := by decide +kernel
theorem dX4_copyFrom_48 : decode cX4_copyFrom 48 = .ok (.getfield 13, 3) := by decide +kernel
theorem dX4_copyFrom_51 : decode cX4_copyFrom 51 = .ok (.putfield 13, 3) := by decide +kernel
theorem dX4_copyFrom_54 : decode cX4_copyFrom 54 = .ok (.aload_n 0, 1) := by decide +kernel
theorem dX4_copyFrom_55 : decode cX4_copyFrom 55 = .ok (.aload_n 1, 1) := by decide +kernel
theorem dX4_copyFrom_56 : decode cX4_copyFrom 56 = .ok (.getfield 17, 3) := by decide +kernel
theorem dX4_copyFrom_59 : decode cX4_copyFrom 59 = .ok (.putfield 17, 3) := by decide +kernel
theorem dX4_copyFrom_62 : decode cX4_copyFrom 62 = .ok (.return_, 1) := by decide +kernel
theorem dX4_makeRoom_0 : decode cX4_makeRoom 0 = .ok (.iload_n 1, 1) := by decide +kernel
theorem dX4_makeRoom_1 : decode cX4_makeRoom 1 = .ok (.sipush 1500, 3) := by decide +kernel
theorem dX4_makeRoom_4 : decode cX4_makeRoom 4 = .ok (.invokestatic 90, 3) := by decide +kernel
theorem dX4_makeRoom_7 : decode cX4_makeRoom 7 = .ok (.istore_n 2, 1) := by decide +kernel
theorem dX4_makeRoom_8 : decode cX4_makeRoom 8 = .ok (.iload_n 2, 1) := by decide +kernel
theorem dX4_makeRoom_9 : decode cX4_makeRoom 9 = .ok (.aload_n 0, 1) := by decide +kernel
theorem dX4_makeRoom_10 : decode cX4_makeRoom 10 = .ok (.getfield 7, 3) := by decide +kernel
theorem dX4_makeRoom_13 : decode cX4_makeRoom 13 = .ok (.arraylength, 1) := by decide +kernel
theorem dX4_makeRoom_14 : decode cX4_makeRoom 14 = .ok (.if_icmp .le 34, 3) := by decide +kernel
theorem dX4_makeRoom_17 : decode cX4_makeRoom 17 = .ok (.iconst 2, 1) := by decide +kernel
theorem dX4_makeRoom_18 : decode cX4_makeRoom 18 = .ok (.iload_n 2, 1) := by decide +kernel
theorem dX4_makeRoom_19 : decode cX4_makeRoom 19 = .ok (.imul, 1) := by decide +kernel
theorem dX4_makeRoom_20 : decode cX4_makeRoom 20 = .ok (.sipush 1500, 3) := by decide +kernel
theorem dX4_makeRoom_23 : decode cX4_makeRoom 23 = .ok (.invokestatic 90, 3) := by decide +kernel
theorem dX4_makeRoom_26 : decode cX4_makeRoom 26 = .ok (.newarray .int, 2) := by decide +kernel
theorem dX4_makeRoom_28 : decode cX4_makeRoom 28 = .ok (.astore_n 3, 1) := by decide +kernel
theorem dX4_makeRoom_29 : decode cX4_makeRoom 29 = .ok (.aload_n 0, 1) := by decide +kernel
theorem dX4_makeRoom_30 : decode cX4_makeRoom 30 = .ok (.getfield 7, 3) := by decide +kernel
theorem dX4_makeRoom_33 : decode cX4_makeRoom 33 = .ok (.iconst 0, 1) := by decide +kernel
theorem dX4_makeRoom_34 : decode cX4_makeRoom 34 = .ok (.aload_n 3, 1) := by decide +kernel
theorem dX4_makeRoom_35 : decode cX4_makeRoom 35 = .ok (.iconst 0, 1) := by decide +kernel
theorem dX4_makeRoom_36 : decode cX4_makeRoom 36 = .ok (.aload_n 0, 1) := by decide +kernel
theorem dX4_makeRoom_37 : decode cX4_makeRoom 37 = .ok (.getfield 13, 3) := by decide +kernel
theorem dX4_makeRoom_40 : decode cX4_makeRoom 40 = .ok (.invokestatic 25, 3) := by decide +kernel
theorem dX4_makeRoom_43 : decode cX4_makeRoom 43 = .ok (.aload_n 0, 1) := by decide +kernel
theorem dX4_makeRoom_44 : decode cX4_makeRoom 44 = .ok (.aload_n 3, 1) := by decide +kernel
theorem dX4_makeRoom_45 : decode cX4_makeRoom 45 = .ok (.putfield 7, 3) := by decide +kernel
theorem dX4_makeRoom_48 : decode cX4_makeRoom 48 = .ok (.iload_n 2, 1) := by decide +kernel
theorem dX4_makeRoom_49 : decode cX4_makeRoom 49 = .ok (.ireturn, 1) := by decide +kernel
theorem dX4_scale_0 : decode cX4_scale 0 = .ok (.lload_n 3, 1) := by decide +kernel
theorem dX4_scale_1 : decode cX4_scale 1 = .ok (.lconst 0, 1) := by decide +kernel
theorem dX4_scale_2 : decode cX4_scale 2 = .ok (.lcmp, 1) := by decide +kernel
theorem dX4_scale_3 : decode cX4_scale 3 = .ok (.ifCond .gt 4, 3) := by decide +kernel
theorem dX4_scale_6 : decode cX4_scale 6 = .ok (.return_, 1) := by decide +kernel
theorem dX4_scale_7 : decode cX4_scale 7 = .ok (.aload_n 0, 1) := by decide +kernel
theorem dX4_scale_8 : decode cX4_scale 8 = .ok (.getfield 13, 3) := by decide +kernel
theorem dX4_scale_11 : decode cX4_scale 11 = .ok (.iconst 1, 1) := by decide +kernel
theorem dX4_scale_12 : decode cX4_scale 12 = .ok (.if_icmp .gt 18, 3) := by decide +kernel
theorem dX4_scale_15 : decode cX4_scale 15 = .ok (.aload_n 0, 1) := by decide +kernel
theorem dX4_scale_16 : decode cX4_scale 16 = .ok (.aload_n 0, 1) := by decide +kernel
theorem dX4_scale_17 : decode cX4_scale 17 = .ok (.invokevirtual 31, 3) := by decide +kernel
theorem dX4_scale_20 : decode cX4_scale 20 = .ok (.lload_n 1, 1) := by decide +kernel
theorem dX4_scale_21 : decode cX4_scale 21 = .ok (.lmul, 1) := by decide +kernel
theorem dX4_scale_22 : decode cX4_scale 22 = .ok (.lload_n 3, 1) := by decide +kernel
theorem dX4_scale_23 : decode cX4_scale 23 = .ok (.invokestatic 55, 3) := by decide +kernel
theorem dX4_scale_26 : decode cX4_scale 26 = .ok (.invokevirtual 35, 3) := by decide +kernel
theorem dX4_scale_29 : decode cX4_scale 29 = .ok (.return_, 1) := by decide +kernel
theorem dX4_scale_30 : decode cX4_scale 30 = .ok (.aload_n 0, 1) := by decide +kernel
theorem dX4_scale_31 : decode cX4_scale 31 = .ok (.aload_n 0, 1) := by decide +kernel
theorem dX4_scale_32 : decode cX4_scale 32 = .ok (.getfield 13, 3) := by decide +kernel
theorem dX4_scale_35 : decode cX4_scale 35 = .ok (.iconst 1, 1) := by decide +kernel
theorem dX4_scale_36 : decode cX4_scale 36 = .ok (.iadd, 1) := by decide +kernel
theorem dX4_scale_37 : decode cX4_scale 37 = .ok (.invokevirtual 21, 3) := by decide +kernel
theorem dX4_scale_40 : decode cX4_scale 40 = .ok (.istore 5, 2) := by decide +kernel
theorem dX4_scale_42 : decode cX4_scale 42 = .ok (.aload_n 0, 1) := by decide +kernel
theorem dX4_scale_43 : decode cX4_scale 43 = .ok (.lload_n 1, 1) := by decide +kernel
theorem dX4_scale_44 : decode cX4_scale 44 = .ok (.aload_n 0, 1) := by decide +kernel
theorem dX4_scale_45 : decode cX4_scale 45 = .ok (.getfield 17, 3) := by decide +kernel
theorem dX4_scale_48 : decode cX4_scale 48 = .ok (.ifCond .eq 9, 3) := by decide +kernel
theorem dX4_scale_51 : decode cX4_scale 51 = .ok (.lload_n 3, 1) := by decide +kernel
theorem dX4_scale_52 : decode cX4_scale 52 = .ok (.lconst 1, 1) := by decide +kernel
theorem dX4_scale_53 : decode cX4_scale 53 = .ok (.lsub, 1) := by decide +kernel
theorem dX4_scale_54 : decode cX4_scale 54 = .ok (.goto 4, 3) := by decide +kernel
theorem dX4_scale_57 : decode cX4_scale 57 = .ok (.lconst 0, 1) := by decide +kernel
theorem dX4_scale_58 : decode cX4_scale 58 = .ok (.iload 5, 2) := by decide +kernel
theorem dX4_scale_60 : decode cX4_scale 60 = .ok (.invokevirtual 59, 3) := by decide +kernel
theorem dX4_scale_63 : decode cX4_scale 63 = .ok (.aload_n 0, 1) := by decide +kernel
theorem dX4_scale_64 : decode cX4_scale 64 = .ok (.lload_n 3, 1) := by decide +kernel
theorem dX4_scale_65 : decode cX4_scale 65 = .ok (.invokevirtual 63, 3) := by decide +kernel
theorem dX4_scale_68 : decode cX4_scale 68 = .ok (.aload_n 0, 1) := by decide +kernel
theorem dX4_scale_69 : decode cX4_scale 69 = .ok (.invokevirtual 52, 3) := by decide +kernel
theorem dX4_scale_72 : decode cX4_scale 72 = .ok (.return_, 1) := by decide +kernel
set_option maxHeartbeats 4000000 in
set_option maxRecDepth 100000 in
theorem X4_makeRoom (l : Launch) (κ : Kt) (σ0 : Gh) (this : Nat) (n : Int32) (t_this : zk σ0 this 1) (h0 : 0 ≤ n.toInt) (h1 : n.toInt ≤ 2000) : TC l yX4_makeRoom cX4_makeRoom 4 (some .int) 1 40 [.ref this, .int n] κ σ0 (tqi κ fM σ0 (fun (r : Int32) (τ : Gh) => (r.toInt ≤ 1500) ∧ (r.toInt ≤ n.toInt) ∧ (n.toInt ≤ r.toInt ∨ r.toInt = 1500) ∧ (r.toInt ≤ zN τ this) ∧ (0 ≤ r.toInt))) := by
  refine TC.of fM (by decide +kernel) (Nat.le_of_ble_eq_true rfl) ?_
  intro p e s m below meth c ls hcs hK hX hT hl
  obtain ⟨hx, hb, hr, hml, hown, hg, hlocks, hin⟩ := hcs
  have hown : s.vm.findClass RX4 = some m.cls := hown
  have hl : lv_has ls 4 [(0, .ref this), (1, .int n)] := hl
  have hT0 := hT
  have n0 : (0 : Int32).toInt = 0 := by decide
  have n2 : (2 : Int32).toInt = 2 := by decide
  have n1500 : (1500 : Int32).toInt = 1500 := by decide
  have n_lo := Int32.le_toInt n
  have n_hi := Int32.toInt_lt n
  generalize hQ9 : tQ _ _ _ _ _ _ = Q9
  refine lv_iload_n hx hb dX4_makeRoom_0 rfl (lv_at hl 1 rfl) ?_
  refine lv_sipush (v := 1500) hx hb dX4_makeRoom_1 (by decide) ?_
  refine va_mmin hx hb (hml.trans hl.1.symm) hown (hg _ k357) (hg _ k358) (hg _ k90) (hg _ k359) (Nat.le_of_ble_eq_true rfl) (Nat.le_of_ble_eq_true rfl) zroom.rf.2.2.1 zroom.rf.2.2.2 dX4_makeRoom_4 ?_
  refine mmin_t (fun t1 ht1 => ?_)
  refine lv_istore_n (lv' := [(2, .int t1), (0, .ref this), (1, .int n)]) hx hb dX4_makeRoom_7 rfl hl (by decide) rfl (fun ls hl => ?_)
  refine lv_iload_n hx hb dX4_makeRoom_8 rfl (lv_at hl 0 rfl) ?_
  refine lv_aload_n hx hb dX4_makeRoom_9 rfl (lv_at hl 1 rfl) ?_
  obtain ⟨h2, oh2, th2⟩ := hT.o1 (hT.k t_this (by decide))
  refine va_get (D := κ.1) (ci := 4) (v := .ref h2) (C := RX4) (T := TX4) (N := 3) hx hb hg inX4 hown hK oh2.one 0 rfl rfl 0 (by decide) (hg _ k209) (fun _ h9 => h9) rfl dX4_makeRoom_10 ?_
  have bN3 := (hT.P (hT.k t_this (by decide)) (by decide)).1
  have bt4 := ((hT.P (hT.k t_this (by decide)) (by decide)).1).2
  obtain ⟨t4, qt4, ht4⟩ : ∃ zz9 : Int32, Int32.ofNat (zN σ0 this) = zz9 ∧ zz9.toInt = zN σ0 this := ⟨_, rfl, nI_toInt (by omega)⟩
  refine va_alen (v := t4) hx hb hK (hT.oL th2).one 0 0 rfl rfl qt4 dX4_makeRoom_13 ?_
  refine lv_icmp_le (tgt := 48) hx hb dX4_makeRoom_14 (by decide) (fun c9 => ?_) (fun c9 => ?_)
  · have c1 := gi_le c9
    refine lv_iload_n hx hb dX4_makeRoom_48 rfl (lv_at hl 0 rfl) ?_
    subst hQ9
    exact t_i hx hb hr hlocks hT ⟨by omega, by omega, by omega, by omega, by omega⟩ dX4_makeRoom_49
  · have c2 := gi_nle c9
    refine lv_iconst (v := 2) hx hb dX4_makeRoom_17 (by decide) ?_
    refine lv_iload_n hx hb dX4_makeRoom_18 rfl (lv_at hl 0 rfl) ?_
    refine lv_imul hx hb dX4_makeRoom_19 ?_
    first | (refine g_mul (by rw [n2]; omega) (by rw [n2]; omega) (fun t5 ht5 => ?_); rw [n2] at ht5) | refine lv_topi (fun t5 ht5 => ?_)
    refine lv_sipush (v := 1500) hx hb dX4_makeRoom_20 (by decide) ?_
    refine va_mmin hx hb (hml.trans hl.1.symm) hown (hg _ k357) (hg _ k358) (hg _ k90) (hg _ k359) (Nat.le_of_ble_eq_true rfl) (Nat.le_of_ble_eq_true rfl) zroom.rf.2.2.1 zroom.rf.2.2.2 dX4_makeRoom_23 ?_
    refine mmin_t (fun t6 ht6 => ?_)
    obtain ⟨v7, ev7⟩ : ∃ zz9 : Int32, zI σ0 this 1 = zz9 := ⟨_, rfl⟩
    have qv7 : v7.toInt = (zI σ0 this 1).toInt := by rw [ev7]
    have b8 := (hT.P (hT.k t_this (by decide)) (by decide)).2.1
    rw [(hT.eI t_this (by decide) rfl ev7)] at b8
    have b8l := b8.1
    have b8h := b8.2
    have bN9 := (hT.P (hT.k t_this (by decide)) (by decide)).1
    have hcap := hT.cap t_this (n := ix t6) (by have : ix t6 = t6.toInt.toNat := rfl; omega) (by have : ix t6 = t6.toInt.toNat := rfl; omega) (by have : ix t6 = t6.toInt.toNat := rfl; omega)
    have hik : ix t6 = t6.toInt.toNat := rfl
    refine tnewi hx hb (hg _ k193) hK hT (by omega) (by omega) hcap.1 hcap.2 zroom.rf dX4_makeRoom_26 (fun q9 H s9 hu9 hq9 hT9 => ?_)
    have hq : zk s9 q9 (100 + ix t6) := znew_T hu9
    have t9 : zk s9 this 1 := znew_To hu9 (by rw [hq9]; exact Nat.ne_of_lt (hT.1.lt (by rw [show zT σ0 this = 1 from t_this]; decide))) t_this
    have n9 : zN s9 this = zN σ0 this := znew_N hu9
    refine lv_astore_n (lv' := [(3, .ref q9), (2, .int t1), (0, .ref this), (1, .int n)]) hx hb dX4_makeRoom_28 rfl hl (by decide) rfl (fun ls hl => ?_)
    refine lv_aload_n hx hb dX4_makeRoom_29 rfl (lv_at hl 2 rfl) ?_
    obtain ⟨h8, o8, th8⟩ := hT9.o1 t9
    refine va_get (D := κ.1) (ci := 4) (v := .ref h8) (C := RX4) (T := TX4) (N := 3) hx hb hg inX4 hown hK o8.one 0 rfl rfl 0 (by decide) (hg _ k209) (fun _ h9 => h9) rfl dX4_makeRoom_30 ?_
    refine lv_iconst (v := 0) hx hb dX4_makeRoom_33 (by decide) ?_
    refine lv_aload_n hx hb dX4_makeRoom_34 rfl (lv_at hl 0 rfl) ?_
    refine lv_iconst (v := 0) hx hb dX4_makeRoom_35 (by decide) ?_
    refine lv_aload_n hx hb dX4_makeRoom_36 rfl (lv_at hl 2 rfl) ?_
    refine va_get (D := κ.1) (ci := 4) (v := .int (zI s9 this 1)) (C := RX4) (T := TX4) (N := 3) hx hb hg inX4 hown hK o8.one 0 rfl rfl 1 (by decide) (hg _ k210) (fun _ h9 => h9) rfl dX4_makeRoom_37 ?_
    have hb9 : zB (zI s9 this 1) 0 (zN s9 this) := (hT9.P t9 (by decide)).2.1
    have hb9l := hb9.1
    have hb9h := hb9.2
    refine tcopyi (κ := kbump κ 1 (ix t6)) hx hb (hml.trans hl.1.symm) hown (hg _ k360) (hg _ k362) (hg _ k361) (hg _ k91) hK hT9 th8 (by omega) (fun _ _ _ => zS_big) hq ⟨by omega, by omega⟩ (fun _ _ _ => zS_big) (fun _ _ => zP_big) fL_fM (by omega) (by omega) (by omega) (by omega) (by omega) (Nat.le_of_ble_eq_true rfl) (Nat.le_of_ble_eq_true rfl) dX4_makeRoom_40 (fun H locs s8 hu8 hT8 => ?_)
    have t8 : zk s8 this 1 := by rw [hu8]; exact t9
    have hq8 : zk s8 q9 (100 + ix t6) := by rw [hu8]; exact hq
    have n8 : zN s8 this = zN s9 this := by rw [hu8]; rfl
    refine lv_aload_n hx hb dX4_makeRoom_43 rfl (lv_at hl 2 rfl) ?_
    refine lv_aload_n hx hb dX4_makeRoom_44 rfl (lv_at hl 0 rfl) ?_
    refine plimbs hx hb hg hown hK hT8 t8 rfl hq8 (by omega) (by omega) (by omega) (hg _ k209) dX4_makeRoom_45 (fun H locs s7 hu7 hT => ?_)
    have n7 : zN s7 this = ix t6 := zgrow_N hu7
    refine lv_iload_n hx hb dX4_makeRoom_48 rfl (lv_at hl 1 rfl) ?_
    subst hQ9
    exact t_i hx hb hr hlocks hT ⟨by omega, by omega, by omega, by omega, by omega⟩ dX4_makeRoom_49
set_option maxHeartbeats 4000000 in
set_option maxRecDepth 100000 in
theorem X4_add (l : Launch) (κ : Kt) (σ0 : Gh) (this : Nat) (o : Nat) (f : Int64) (t_this : zk σ0 this 1) (t_o : zk σ0 o 1) : TC l yX4_add cX4_add 7 none 2 63 [.ref this, .ref o, .long f] κ σ0 (tqv κ fW σ0 (fun (τ : Gh) => True)) := by
  refine TC.of fW (by decide +kernel) (Nat.le_of_ble_eq_true rfl) ?_
  intro p e s m below meth c ls hcs hK hX hT hl
  obtain ⟨hx, hb, hr, hml, hown, hg, hlocks, hin⟩ := hcs
  have hown : s.vm.findClass RX4 = some m.cls := hown
  have hl : lv_has ls 7 [(0, .ref this), (1, .ref o), (2, .long f)] := hl
  have hT0 := hT
  have n0 : (0 : Int32).toInt = 0 := by decide
  have n1 : (1 : Int32).toInt = 1 := by decide
  have j0 : (0 : Int64).toInt = 0 := by decide
  generalize hQ9 : tQ _ _ _ _ _ _ = Q9
  refine lv_aload_n hx hb dX4_add_0 rfl (lv_at hl 0 rfl) ?_
  obtain ⟨h1, oh1, th1⟩ := hT.o1 (hT.k t_this (by decide))
  obtain ⟨v2, ev2⟩ : ∃ zz9 : Int32, zI σ0 this 1 = zz9 := ⟨_, rfl⟩
  have qv2 : v2.toInt = (zI σ0 this 1).toInt := by rw [ev2]
  have b3 := (hT.P (hT.k t_this (by decide)) (by decide)).2.1
  rw [ev2] at b3
  have b3l := b3.1
  have b3h := b3.2
  have bN4 := (hT.P (hT.k t_this (by decide)) (by decide)).1
  refine va_get (D := κ.1) (ci := 4) (v := .int (zI σ0 this 1)) (C := RX4) (T := TX4) (N := 3) hx hb hg inX4 hown hK oh1.one 0 rfl rfl 1 (by decide) (hg _ k210) (fun _ h9 => h9) rfl dX4_add_1 ?_
  rw [ev2]
  refine lv_iconst (v := 1) hx hb dX4_add_4 (by decide) ?_
  refine lv_icmp_gt (tgt := 32) hx hb dX4_add_5 (by decide) (fun c9 => ?_) (fun c9 => ?_)
  · have c1 := gi_lt c9
    refine lv_aload_n hx hb dX4_add_32 rfl (lv_at hl 0 rfl) ?_
    refine lv_aload_n hx hb dX4_add_33 rfl (lv_at hl 0 rfl) ?_
    obtain ⟨h5, oh5, th5⟩ := hT.o1 (hT.k t_this (by decide))
    have b6 := (hT.P (hT.k t_this (by decide)) (by decide)).2.1
    rw [ev2] at b6
    have b6l := b6.1
    have b6h := b6.2
    have bN7 := (hT.P (hT.k t_this (by decide)) (by decide)).1
    refine va_get (D := κ.1) (ci := 4) (v := .int (zI σ0 this 1)) (C := RX4) (T := TX4) (N := 3) hx hb hg inX4 hown hK oh5.one 0 rfl rfl 1 (by decide) (hg _ k210) (fun _ h9 => h9) rfl dX4_add_34 ?_
    rw [ev2]
    refine lv_aload_n hx hb dX4_add_37 rfl (lv_at hl 1 rfl) ?_
    obtain ⟨h8, oh8, th8⟩ := hT.o1 (hT.k t_o (by decide))
    obtain ⟨v9, ev9⟩ : ∃ zz9 : Int32, zI σ0 o 1 = zz9 := ⟨_, rfl⟩
    have qv9 : v9.toInt = (zI σ0 o 1).toInt := by rw [ev9]
    have b10 := (hT.P (hT.k t_o (by decide)) (by decide)).2.1
    rw [ev9] at b10
    have b10l := b10.1
    have b10h := b10.2
    have bN11 := (hT.P (hT.k t_o (by decide)) (by decide)).1
    refine va_get (D := κ.1) (ci := 4) (v := .int (zI σ0 o 1)) (C := RX4) (T := TX4) (N := 3) hx hb hg inX4 hown hK oh8.one 0 rfl rfl 1 (by decide) (hg _ k210) (fun _ h9 => h9) rfl dX4_add_38 ?_
    rw [ev9]
    refine va_mmax hx hb (hml.trans hl.1.symm) hown (hg _ k350) (hg _ k351) (hg _ k90) (hg _ k352) (Nat.le_of_ble_eq_true rfl) (Nat.le_of_ble_eq_true rfl) zroom.rf.2.2.1 zroom.rf.2.2.2 dX4_add_41 ?_
    refine mmax_t (fun t12 ht12 => ?_)
    refine lv_iconst (v := 1) hx hb dX4_add_44 (by decide) ?_
    refine lv_iadd hx hb dX4_add_45 ?_
    first | refine g_add (by omega) (by omega) (fun t13 ht13 => ?_) | refine lv_topi (fun t13 ht13 => ?_)
    obtain ⟨h16, oh16, th16⟩ := hT.o1 (hT.k t_this (by decide))
    have hTo := hT
    refine tVi (n := 1) (As := [.int t13]) (rest := []) hx hb hml hown hg hT hK hX (X4_makeRoom l κ σ0 this t13  (hT.k t_this (by decide)) (by omega) (by omega)) sub_fM_fW (mwV k353 k355 k1 k88 k356) ⟨rfl, by decide, by decide, by decide +kernel⟩ ⟨(Nat.le_of_ble_eq_true rfl), (Nat.le_of_ble_eq_true rfl)⟩ oh16 rfl rfl hl.1 rfl (Nat.le_of_ble_eq_true rfl) dX4_add_46 zroom.rf (fun x14 s15 H locs hφ hEs15 hT => ?_)
    have ev2 : zI s15 this 1 = v2 := ((hTo.k t_this (by decide)).eI hEs15 (by decide) rfl).trans ev2
    have ev9 : zI s15 o 1 = v9 := ((hTo.k t_o (by decide)).eI hEs15 (by decide) rfl).trans ev9
    obtain ⟨f17, f18, f19, f20, f21⟩ := hφ
    refine lv_istore (lv' := [(4, .int x14), (0, .ref this), (1, .ref o), (2, .long f)]) hx hb dX4_add_49 hl (by decide) rfl (fun ls hl => ?_)
    refine lv_aload_n hx hb dX4_add_51 rfl (lv_at hl 1 rfl) ?_
    refine lv_aload_n hx hb dX4_add_52 rfl (lv_at hl 2 rfl) ?_
    refine lv_aload_n hx hb dX4_add_53 rfl (lv_at hl 1 rfl) ?_
    obtain ⟨h22, oh22, th22⟩ := hT.o1 (hT.k t_this (by decide))
    obtain ⟨v23, ev23⟩ : ∃ zz9 : Int32, zI s15 this 2 = zz9 := ⟨_, rfl⟩
    have qv23 : v23.toInt = (zI s15 this 2).toInt := by rw [ev23]
    have b24 : isB v23 := by have q9 := (hT.P (hT.k t_this (by decide)) (by decide)).2.2; rw [ev23] at q9; exact q9
    refine va_get (D := κ.1) (ci := 4) (v := .int (zI s15 this 2)) (C := RX4) (T := TX4) (N := 3) hx hb hg inX4 hown hK oh22.one 0 rfl rfl 2 (by decide) (hg _ k211) (fun _ h9 => h9) rfl dX4_add_54 ?_
    rw [ev23]
    refine lv_aload_n hx hb dX4_add_57 rfl (lv_at hl 2 rfl) ?_
    obtain ⟨h25, oh25, th25⟩ := hT.o1 (hT.k t_o (by decide))
    obtain ⟨v26, ev26⟩ : ∃ zz9 : Int32, zI s15 o 2 = zz9 := ⟨_, rfl⟩
    have qv26 : v26.toInt = (zI s15 o 2).toInt := by rw [ev26]
    have b27 : isB v26 := by have q9 := (hT.P (hT.k t_o (by decide)) (by decide)).2.2; rw [ev26] at q9; exact q9
    refine va_get (D := κ.1) (ci := 4) (v := .int (zI s15 o 2)) (C := RX4) (T := TX4) (N := 3) hx hb hg inX4 hown hK oh25.one 0 rfl rfl 2 (by decide) (hg _ k211) (fun _ h9 => h9) rfl dX4_add_58 ?_
    rw [ev26]
    refine lv_icmp_ne (tgt := 68) hx hb dX4_add_61 (by decide) (fun c9 => ?_) (fun c9 => ?_)
    · have c2 := gi_ne c9
      refine lv_lload_n hx hb dX4_add_68 rfl (lv_at hl 3 rfl) ?_
      refine lv_lneg hx hb dX4_add_69 ?_
      refine lv_topl (fun t28 ht28 => ?_)
      refine lv_iload hx hb dX4_add_70 (lv_at hl 0 rfl) ?_
      obtain ⟨h31, oh31, th31⟩ := hT.o1 (hT.k t_this (by decide))
      have hTo := hT
      refine tVl (n := 3) (As := [.ref o, .long t28, .int x14]) (rest := []) hx hb hml hown hg hT hK hX (X4_addAmount l κ s15 this o t28 x14  (hT.k t_this (by decide)) (hT.k t_o (by decide)) (by omega) (by omega)) sub_fX_fW (mwV k363 k365 k2 k88 k366) ⟨rfl, by decide, by decide, by decide +kernel⟩ ⟨(Nat.le_of_ble_eq_true rfl), (Nat.le_of_ble_eq_true rfl)⟩ oh31 rfl rfl hl.1 rfl (Nat.le_of_ble_eq_true rfl) dX4_add_72 zroom.rf (fun x29 s30 H locs hφ hEs30 hT => ?_)
      have hN32 : zN s30 this = zN s15 this := (hTo.k t_this (by decide)).eN hEs30 (by decide) rfl
      have hN33 : zN s30 o = zN s15 o := (hTo.k t_o (by decide)).eN hEs30 (by decide) rfl
      refine lv_lstore (lv' := [(5, .long x29), (4, .int x14), (0, .ref this), (1, .ref o), (2, .long f)]) hx hb dX4_add_75 hl (by decide) rfl (fun ls hl => ?_)
      refine lv_lload hx hb dX4_add_77 (lv_at hl 0 rfl) ?_
      refine lv_lconst (v := 0) hx hb dX4_add_79 (by decide) ?_
      refine W.lcmp hx hb dX4_add_80 ?_
      refine lv_if_ge (tgt := 88) hx hb dX4_add_81 (by decide) (fun c9 => ?_) (fun c9 => ?_)
      · have c3 := gl_ge c9
        refine lv_aload_n hx hb dX4_add_88 rfl (lv_at hl 2 rfl) ?_
        obtain ⟨h36, oh36, th36⟩ := hT.o1 (hT.k t_this (by decide))
        have hTo := hT
        refine tVv (n := 0) (As := []) (rest := []) hx hb hml hown hg hT hK hX (X4_trim l κ s30 this  (hT.k t_this (by decide)) ) sub_fX_fW (mwV k371 k373 k4 k88 k374) ⟨rfl, by decide, by decide, by decide +kernel⟩ ⟨(Nat.le_of_ble_eq_true rfl), (Nat.le_of_ble_eq_true rfl)⟩ oh36 rfl rfl hl.1 rfl (Nat.le_of_ble_eq_true rfl) dX4_add_89 zroom.rf (fun s35 H locs hφ hEs35 hT => ?_)
        have hN37 : zN s35 this = zN s30 this := (hTo.k t_this (by decide)).eN hEs35 (by decide) rfl
        have hN38 : zN s35 o = zN s30 o := (hTo.k t_o (by decide)).eN hEs35 (by decide) rfl
        subst hQ9
        exact t_v hx hb hr hlocks hT trivial dX4_add_92
      · have c4 := gl_nge c9
        refine lv_aload_n hx hb dX4_add_84 rfl (lv_at hl 2 rfl) ?_
        obtain ⟨h41, oh41, th41⟩ := hT.o1 (hT.k t_this (by decide))
        have hTo := hT
        refine tVv (n := 0) (As := []) (rest := []) hx hb hml hown hg hT hK hX (X4_turn l κ s30 this  (hT.k t_this (by decide)) ) sub_fX_fW (mwV k367 k369 k3 k88 k370) ⟨rfl, by decide, by decide, by decide +kernel⟩ ⟨(Nat.le_of_ble_eq_true rfl), (Nat.le_of_ble_eq_true rfl)⟩ oh41 rfl rfl hl.1 rfl (Nat.le_of_ble_eq_true rfl) dX4_add_85 zroom.rf (fun s40 H locs hφ hEs40 hT => ?_)
        have hN42 : zN s40 this = zN s30 this := (hTo.k t_this (by decide)).eN hEs40 (by decide) rfl
        have hN43 : zN s40 o = zN s30 o := (hTo.k t_o (by decide)).eN hEs40 (by decide) rfl
        refine lv_aload_n hx hb dX4_add_88 rfl (lv_at hl 2 rfl) ?_
        obtain ⟨h46, oh46, th46⟩ := hT.o1 (hT.k t_this (by decide))
        have hTo := hT
        refine tVv (n := 0) (As := []) (rest := []) hx hb hml hown hg hT hK hX (X4_trim l κ s40 this  (hT.k t_this (by decide)) ) sub_fX_fW (mwV k371 k373 k4 k88 k374) ⟨rfl, by decide, by decide, by decide +kernel⟩ ⟨(Nat.le_of_ble_eq_true rfl), (Nat.le_of_ble_eq_true rfl)⟩ oh46 rfl rfl hl.1 rfl (Nat.le_of_ble_eq_true rfl) dX4_add_89 zroom.rf (fun s45 H locs hφ hEs45 hT => ?_)
        have hN47 : zN s45 this = zN s40 this := (hTo.k t_this (by decide)).eN hEs45 (by decide) rfl
        have hN48 : zN s45 o = zN s40 o := (hTo.k t_o (by decide)).eN hEs45 (by decide) rfl
        subst hQ9
        exact t_v hx hb hr hlocks hT trivial dX4_add_92
    · have c5 := gi_eq c9
      refine lv_lload_n hx hb dX4_add_64 rfl (lv_at hl 3 rfl) ?_
      refine lv_goto (tgt := 70) hx hb dX4_add_65 (by decide) ?_
      refine lv_iload hx hb dX4_add_70 (lv_at hl 0 rfl) ?_
      obtain ⟨h51, oh51, th51⟩ := hT.o1 (hT.k t_this (by decide))
      have hTo := hT
      refine tVl (n := 3) (As := [.ref o, .long f, .int x14]) (rest := []) hx hb hml hown hg hT hK hX (X4_addAmount l κ s15 this o f x14  (hT.k t_this (by decide)) (hT.k t_o (by decide)) (by omega) (by omega)) sub_fX_fW (mwV k363 k365 k2 k88 k366) ⟨rfl, by decide, by decide, by decide +kernel⟩ ⟨(Nat.le_of_ble_eq_true rfl), (Nat.le_of_ble_eq_true rfl)⟩ oh51 rfl rfl hl.1 rfl (Nat.le_of_ble_eq_true rfl) dX4_add_72 zroom.rf (fun x49 s50 H locs hφ hEs50 hT => ?_)
      have hN52 : zN s50 this = zN s15 this := (hTo.k t_this (by decide)).eN hEs50 (by decide) rfl
      have hN53 : zN s50 o = zN s15 o := (hTo.k t_o (by decide)).eN hEs50 (by decide) rfl
      refine lv_lstore (lv' := [(5, .long x49), (4, .int x14), (0, .ref this), (1, .ref o), (2, .long f)]) hx hb dX4_add_75 hl (by decide) rfl (fun ls hl => ?_)
      refine lv_lload hx hb dX4_add_77 (lv_at hl 0 rfl) ?_
      refine lv_lconst (v := 0) hx hb dX4_add_79 (by decide) ?_
      refine W.lcmp hx hb dX4_add_80 ?_
      refine lv_if_ge (tgt := 88) hx hb dX4_add_81 (by decide) (fun c9 => ?_) (fun c9 => ?_)
      · have c6 := gl_ge c9
        refine lv_aload_n hx hb dX4_add_88 rfl (lv_at hl 2 rfl) ?_
        obtain ⟨h56, oh56, th56⟩ := hT.o1 (hT.k t_this (by decide))
        have hTo := hT
        refine tVv (n := 0) (As := []) (rest := []) hx hb hml hown hg hT hK hX (X4_trim l κ s50 this  (hT.k t_this (by decide)) ) sub_fX_fW (mwV k371 k373 k4 k88 k374) ⟨rfl, by decide, by decide, by decide +kernel⟩ ⟨(Nat.le_of_ble_eq_true rfl), (Nat.le_of_ble_eq_true rfl)⟩ oh56 rfl rfl hl.1 rfl (Nat.le_of_ble_eq_true rfl) dX4_add_89 zroom.rf (fun s55 H locs hφ hEs55 hT => ?_)
        have hN57 : zN s55 this = zN s50 this := (hTo.k t_this (by decide)).eN hEs55 (by decide) rfl
        have hN58 : zN s55 o = zN s50 o := (hTo.k t_o (by decide)).eN hEs55 (by decide) rfl
        subst hQ9
        exact t_v hx hb hr hlocks hT trivial dX4_add_92
      · have c7 := gl_nge c9
        refine lv_aload_n hx hb dX4_add_84 rfl (lv_at hl 2 rfl) ?_
        obtain ⟨h61, oh61, th61⟩ := hT.o1 (hT.k t_this (by decide))
        have hTo := hT
        refine tVv (n := 0) (As := []) (rest := []) hx hb hml hown hg hT hK hX (X4_turn l κ s50 this  (hT.k t_this (by decide)) ) sub_fX_fW (mwV k367 k369 k3 k88 k370) ⟨rfl, by decide, by decide, by decide +kernel⟩ ⟨(Nat.le_of_ble_eq_true rfl), (Nat.le_of_ble_eq_true rfl)⟩ oh61 rfl rfl hl.1 rfl (Nat.le_of_ble_eq_true rfl) dX4_add_85 zroom.rf (fun s60 H locs hφ hEs60 hT => ?_)
        have hN62 : zN s60 this = zN s50 this := (hTo.k t_this (by decide)).eN hEs60 (by decide) rfl
        have hN63 : zN s60 o = zN s50 o := (hTo.k t_o (by decide)).eN hEs60 (by decide) rfl
        refine lv_aload_n hx hb dX4_add_88 rfl (lv_at hl 2 rfl) ?_
        obtain ⟨h66, oh66, th66⟩ := hT.o1 (hT.k t_this (by decide))
        have hTo := hT
        refine tVv (n := 0) (As := []) (rest := []) hx hb hml hown hg hT hK hX (X4_trim l κ s60 this  (hT.k t_this (by decide)) ) sub_fX_fW (mwV k371 k373 k4 k88 k374) ⟨rfl, by decide, by decide, by decide +kernel⟩ ⟨(Nat.le_of_ble_eq_true rfl), (Nat.le_of_ble_eq_true rfl)⟩ oh66 rfl rfl hl.1 rfl (Nat.le_of_ble_eq_true rfl) dX4_add_89 zroom.rf (fun s65 H locs hφ hEs65 hT => ?_)
        have hN67 : zN s65 this = zN s60 this := (hTo.k t_this (by decide)).eN hEs65 (by decide) rfl
        have hN68 : zN s65 o = zN s60 o := (hTo.k t_o (by decide)).eN hEs65 (by decide) rfl
        subst hQ9
        exact t_v hx hb hr hlocks hT trivial dX4_add_92
  · have c8 := gi_nlt c9
    refine lv_aload_n hx hb dX4_add_8 rfl (lv_at hl 1 rfl) ?_
    obtain ⟨h69, oh69, th69⟩ := hT.o1 (hT.k t_o (by decide))
    obtain ⟨v70, ev70⟩ : ∃ zz9 : Int32, zI σ0 o 1 = zz9 := ⟨_, rfl⟩
    have qv70 : v70.toInt = (zI σ0 o 1).toInt := by rw [ev70]
    have b71 := (hT.P (hT.k t_o (by decide)) (by decide)).2.1
    rw [ev70] at b71
    have b71l := b71.1
    have b71h := b71.2
    have bN72 := (hT.P (hT.k t_o (by decide)) (by decide)).1
    refine va_get (D := κ.1) (ci := 4) (v := .int (zI σ0 o 1)) (C := RX4) (T := TX4) (N := 3) hx hb hg inX4 hown hK oh69.one 0 rfl rfl 1 (by decide) (hg _ k210) (fun _ h9 => h9) rfl dX4_add_9 ?_
    rw [ev70]
    refine lv_iconst (v := 1) hx hb dX4_add_12 (by decide) ?_
    refine lv_icmp_gt (tgt := 32) hx hb dX4_add_13 (by decide) (fun c9 => ?_) (fun c9 => ?_)
    · have c9 := gi_lt c9
      refine lv_aload_n hx hb dX4_add_32 rfl (lv_at hl 0 rfl) ?_
      refine lv_aload_n hx hb dX4_add_33 rfl (lv_at hl 0 rfl) ?_
      obtain ⟨h73, oh73, th73⟩ := hT.o1 (hT.k t_this (by decide))
      have b74 := (hT.P (hT.k t_this (by decide)) (by decide)).2.1
      rw [ev2] at b74
      have b74l := b74.1
      have b74h := b74.2
      have bN75 := (hT.P (hT.k t_this (by decide)) (by decide)).1
      refine va_get (D := κ.1) (ci := 4) (v := .int (zI σ0 this 1)) (C := RX4) (T := TX4) (N := 3) hx hb hg inX4 hown hK oh73.one 0 rfl rfl 1 (by decide) (hg _ k210) (fun _ h9 => h9) rfl dX4_add_34 ?_
      rw [ev2]
      refine lv_aload_n hx hb dX4_add_37 rfl (lv_at hl 1 rfl) ?_
      obtain ⟨h76, oh76, th76⟩ := hT.o1 (hT.k t_o (by decide))
      have b77 := (hT.P (hT.k t_o (by decide)) (by decide)).2.1
      rw [ev70] at b77
      have b77l := b77.1
      have b77h := b77.2
      have bN78 := (hT.P (hT.k t_o (by decide)) (by decide)).1
      refine va_get (D := κ.1) (ci := 4) (v := .int (zI σ0 o 1)) (C := RX4) (T := TX4) (N := 3) hx hb hg inX4 hown hK oh76.one 0 rfl rfl 1 (by decide) (hg _ k210) (fun _ h9 => h9) rfl dX4_add_38 ?_
      rw [ev70]
      refine va_mmax hx hb (hml.trans hl.1.symm) hown (hg _ k350) (hg _ k351) (hg _ k90) (hg _ k352) (Nat.le_of_ble_eq_true rfl) (Nat.le_of_ble_eq_true rfl) zroom.rf.2.2.1 zroom.rf.2.2.2 dX4_add_41 ?_
      refine mmax_t (fun t79 ht79 => ?_)
      refine lv_iconst (v := 1) hx hb dX4_add_44 (by decide) ?_
      refine lv_iadd hx hb dX4_add_45 ?_
      first | refine g_add (by omega) (by omega) (fun t80 ht80 => ?_) | refine lv_topi (fun t80 ht80 => ?_)
      obtain ⟨h83, oh83, th83⟩ := hT.o1 (hT.k t_this (by decide))
      have hTo := hT
      refine tVi (n := 1) (As := [.int t80]) (rest := []) hx hb hml hown hg hT hK hX (X4_makeRoom l κ σ0 this t80  (hT.k t_this (by decide)) (by omega) (by omega)) sub_fM_fW (mwV k353 k355 k1 k88 k356) ⟨rfl, by decide, by decide, by decide +kernel⟩ ⟨(Nat.le_of_ble_eq_true rfl), (Nat.le_of_ble_eq_true rfl)⟩ oh83 rfl rfl hl.1 rfl (Nat.le_of_ble_eq_true rfl) dX4_add_46 zroom.rf (fun x81 s82 H locs hφ hEs82 hT => ?_)
      have ev2 : zI s82 this 1 = v2 := ((hTo.k t_this (by decide)).eI hEs82 (by decide) rfl).trans ev2
      have ev70 : zI s82 o 1 = v70 := ((hTo.k t_o (by decide)).eI hEs82 (by decide) rfl).trans ev70
      obtain ⟨f84, f85, f86, f87, f88⟩ := hφ
      refine lv_istore (lv' := [(4, .int x81), (0, .ref this), (1, .ref o), (2, .long f)]) hx hb dX4_add_49 hl (by decide) rfl (fun ls hl => ?_)
      refine lv_aload_n hx hb dX4_add_51 rfl (lv_at hl 1 rfl) ?_
      refine lv_aload_n hx hb dX4_add_52 rfl (lv_at hl 2 rfl) ?_
      refine lv_aload_n hx hb dX4_add_53 rfl (lv_at hl 1 rfl) ?_
      obtain ⟨h89, oh89, th89⟩ := hT.o1 (hT.k t_this (by decide))
      obtain ⟨v90, ev90⟩ : ∃ zz9 : Int32, zI s82 this 2 = zz9 := ⟨_, rfl⟩
      have qv90 : v90.toInt = (zI s82 this 2).toInt := by rw [ev90]
      have b91 : isB v90 := by have q9 := (hT.P (hT.k t_this (by decide)) (by decide)).2.2; rw [ev90] at q9; exact q9
      refine va_get (D := κ.1) (ci := 4) (v := .int (zI s82 this 2)) (C := RX4) (T := TX4) (N := 3) hx hb hg inX4 hown hK oh89.one 0 rfl rfl 2 (by decide) (hg _ k211) (fun _ h9 => h9) rfl dX4_add_54 ?_
      rw [ev90]
      refine lv_aload_n hx hb dX4_add_57 rfl (lv_at hl 2 rfl) ?_
      obtain ⟨h92, oh92, th92⟩ := hT.o1 (hT.k t_o (by decide))
      obtain ⟨v93, ev93⟩ : ∃ zz9 : Int32, zI s82 o 2 = zz9 := ⟨_, rfl⟩
      have qv93 : v93.toInt = (zI s82 o 2).toInt := by rw [ev93]
      have b94 : isB v93 := by have q9 := (hT.P (hT.k t_o (by decide)) (by decide)).2.2; rw [ev93] at q9; exact q9
      refine va_get (D := κ.1) (ci := 4) (v := .int (zI s82 o 2)) (C := RX4) (T := TX4) (N := 3) hx hb hg inX4 hown hK oh92.one 0 rfl rfl 2 (by decide) (hg _ k211) (fun _ h9 => h9) rfl dX4_add_58 ?_
      rw [ev93]
      refine lv_icmp_ne (tgt := 68) hx hb dX4_add_61 (by decide) (fun c9 => ?_) (fun c9 => ?_)
      · have c10 := gi_ne c9
        refine lv_lload_n hx hb dX4_add_68 rfl (lv_at hl 3 rfl) ?_
        refine lv_lneg hx hb dX4_add_69 ?_
        refine lv_topl (fun t95 ht95 => ?_)
        refine lv_iload hx hb dX4_add_70 (lv_at hl 0 rfl) ?_
        obtain ⟨h98, oh98, th98⟩ := hT.o1 (hT.k t_this (by decide))
        have hTo := hT
        refine tVl (n := 3) (As := [.ref o, .long t95, .int x81]) (rest := []) hx hb hml hown hg hT hK hX (X4_addAmount l κ s82 this o t95 x81  (hT.k t_this (by decide)) (hT.k t_o (by decide)) (by omega) (by omega)) sub_fX_fW (mwV k363 k365 k2 k88 k366) ⟨rfl, by decide, by decide, by decide +kernel⟩ ⟨(Nat.le_of_ble_eq_true rfl), (Nat.le_of_ble_eq_true rfl)⟩ oh98 rfl rfl hl.1 rfl (Nat.le_of_ble_eq_true rfl) dX4_add_72 zroom.rf (fun x96 s97 H locs hφ hEs97 hT => ?_)
        have hN99 : zN s97 this = zN s82 this := (hTo.k t_this (by decide)).eN hEs97 (by decide) rfl
        have hN100 : zN s97 o = zN s82 o := (hTo.k t_o (by decide)).eN hEs97 (by decide) rfl
        refine lv_lstore (lv' := [(5, .long x96), (4, .int x81), (0, .ref this), (1, .ref o), (2, .long f)]) hx hb dX4_add_75 hl (by decide) rfl (fun ls hl => ?_)
        refine lv_lload hx hb dX4_add_77 (lv_at hl 0 rfl) ?_
        refine lv_lconst (v := 0) hx hb dX4_add_79 (by decide) ?_
        refine W.lcmp hx hb dX4_add_80 ?_
        refine lv_if_ge (tgt := 88) hx hb dX4_add_81 (by decide) (fun c9 => ?_) (fun c9 => ?_)
        · have c11 := gl_ge c9
          refine lv_aload_n hx hb dX4_add_88 rfl (lv_at hl 2 rfl) ?_
          obtain ⟨h103, oh103, th103⟩ := hT.o1 (hT.k t_this (by decide))
          have hTo := hT
          refine tVv (n := 0) (As := []) (rest := []) hx hb hml hown hg hT hK hX (X4_trim l κ s97 this  (hT.k t_this (by decide)) ) sub_fX_fW (mwV k371 k373 k4 k88 k374) ⟨rfl, by decide, by decide, by decide +kernel⟩ ⟨(Nat.le_of_ble_eq_true rfl), (Nat.le_of_ble_eq_true rfl)⟩ oh103 rfl rfl hl.1 rfl (Nat.le_of_ble_eq_true rfl) dX4_add_89 zroom.rf (fun s102 H locs hφ hEs102 hT => ?_)
          have hN104 : zN s102 this = zN s97 this := (hTo.k t_this (by decide)).eN hEs102 (by decide) rfl
          have hN105 : zN s102 o = zN s97 o := (hTo.k t_o (by decide)).eN hEs102 (by decide) rfl
          subst hQ9
          exact t_v hx hb hr hlocks hT trivial dX4_add_92
        · have c12 := gl_nge c9
          refine lv_aload_n hx hb dX4_add_84 rfl (lv_at hl 2 rfl) ?_
          obtain ⟨h108, oh108, th108⟩ := hT.o1 (hT.k t_this (by decide))
          have hTo := hT
          refine tVv (n := 0) (As := []) (rest := []) hx hb hml hown hg hT hK hX (X4_turn l κ s97 this  (hT.k t_this (by decide)) ) sub_fX_fW (mwV k367 k369 k3 k88 k370) ⟨rfl, by decide, by decide, by decide +kernel⟩ ⟨(Nat.le_of_ble_eq_true rfl), (Nat.le_of_ble_eq_true rfl)⟩ oh108 rfl rfl hl.1 rfl (Nat.le_of_ble_eq_true rfl) dX4_add_85 zroom.rf (fun s107 H locs hφ hEs107 hT => ?_)
          have hN109 : zN s107 this = zN s97 this := (hTo.k t_this (by decide)).eN hEs107 (by decide) rfl
          have hN110 : zN s107 o = zN s97 o := (hTo.k t_o (by decide)).eN hEs107 (by decide) rfl
          refine lv_aload_n hx hb dX4_add_88 rfl (lv_at hl 2 rfl) ?_
          obtain ⟨h113, oh113, th113⟩ := hT.o1 (hT.k t_this (by decide))
          have hTo := hT
          refine tVv (n := 0) (As := []) (rest := []) hx hb hml hown hg hT hK hX (X4_trim l κ s107 this  (hT.k t_this (by decide)) ) sub_fX_fW (mwV k371 k373 k4 k88 k374) ⟨rfl, by decide, by decide, by decide +kernel⟩ ⟨(Nat.le_of_ble_eq_true rfl), (Nat.le_of_ble_eq_true rfl)⟩ oh113 rfl rfl hl.1 rfl (Nat.le_of_ble_eq_true rfl) dX4_add_89 zroom.rf (fun s112 H locs hφ hEs112 hT => ?_)
          have hN114 : zN s112 this = zN s107 this := (hTo.k t_this (by decide)).eN hEs112 (by decide) rfl
          have hN115 : zN s112 o = zN s107 o := (hTo.k t_o (by decide)).eN hEs112 (by decide) rfl
          subst hQ9
          exact t_v hx hb hr hlocks hT trivial dX4_add_92
      · have c13 := gi_eq c9
        refine lv_lload_n hx hb dX4_add_64 rfl (lv_at hl 3 rfl) ?_
        refine lv_goto (tgt := 70) hx hb dX4_add_65 (by decide) ?_
        refine lv_iload hx hb dX4_add_70 (lv_at hl 0 rfl) ?_
        obtain ⟨h118, oh118, th118⟩ := hT.o1 (hT.k t_this (by decide))
        have hTo := hT
        refine tVl (n := 3) (As := [.ref o, .long f, .int x81]) (rest := []) hx hb hml hown hg hT hK hX (X4_addAmount l κ s82 this o f x81  (hT.k t_this (by decide)) (hT.k t_o (by decide)) (by omega) (by omega)) sub_fX_fW (mwV k363 k365 k2 k88 k366) ⟨rfl, by decide, by decide, by decide +kernel⟩ ⟨(Nat.le_of_ble_eq_true rfl), (Nat.le_of_ble_eq_true rfl)⟩ oh118 rfl rfl hl.1 rfl (Nat.le_of_ble_eq_true rfl) dX4_add_72 zroom.rf (fun x116 s117 H locs hφ hEs117 hT => ?_)
        have hN119 : zN s117 this = zN s82 this := (hTo.k t_this (by decide)).eN hEs117 (by decide) rfl
        have hN120 : zN s117 o = zN s82 o := (hTo.k t_o (by decide)).eN hEs117 (by decide) rfl
        refine lv_lstore (lv' := [(5, .long x116), (4, .int x81), (0, .ref this), (1, .ref o), (2, .long f)]) hx hb dX4_add_75 hl (by decide) rfl (fun ls hl => ?_)
        refine lv_lload hx hb dX4_add_77 (lv_at hl 0 rfl) ?_
        refine lv_lconst (v := 0) hx hb dX4_add_79 (by decide) ?_
        refine W.lcmp hx hb dX4_add_80 ?_
        refine lv_if_ge (tgt := 88) hx hb dX4_add_81 (by decide) (fun c9 => ?_) (fun c9 => ?_)
        · have c14 := gl_ge c9
          refine lv_aload_n hx hb dX4_add_88 rfl (lv_at hl 2 rfl) ?_
          obtain ⟨h123, oh123, th123⟩ := hT.o1 (hT.k t_this (by decide))
          have hTo := hT
          refine tVv (n := 0) (As := []) (rest := []) hx hb hml hown hg hT hK hX (X4_trim l κ s117 this  (hT.k t_this (by decide)) ) sub_fX_fW (mwV k371 k373 k4 k88 k374) ⟨rfl, by decide, by decide, by decide +kernel⟩ ⟨(Nat.le_of_ble_eq_true rfl), (Nat.le_of_ble_eq_true rfl)⟩ oh123 rfl rfl hl.1 rfl (Nat.le_of_ble_eq_true rfl) dX4_add_89 zroom.rf (fun s122 H locs hφ hEs122 hT => ?_)
          have hN124 : zN s122 this = zN s117 this := (hTo.k t_this (by decide)).eN hEs122 (by decide) rfl
          have hN125 : zN s122 o = zN s117 o := (hTo.k t_o (by decide)).eN hEs122 (by decide) rfl
          subst hQ9
          exact t_v hx hb hr hlocks hT trivial dX4_add_92
        · have c15 := gl_nge c9
          refine lv_aload_n hx hb dX4_add_84 rfl (lv_at hl 2 rfl) ?_
          obtain ⟨h128, oh128, th128⟩ := hT.o1 (hT.k t_this (by decide))
          have hTo := hT
          refine tVv (n := 0) (As := []) (rest := []) hx hb hml hown hg hT hK hX (X4_turn l κ s117 this  (hT.k t_this (by decide)) ) sub_fX_fW (mwV k367 k369 k3 k88 k370) ⟨rfl, by decide, by decide, by decide +kernel⟩ ⟨(Nat.le_of_ble_eq_true rfl), (Nat.le_of_ble_eq_true rfl)⟩ oh128 rfl rfl hl.1 rfl (Nat.le_of_ble_eq_true rfl) dX4_add_85 zroom.rf (fun s127 H locs hφ hEs127 hT => ?_)
          have hN129 : zN s127 this = zN s117 this := (hTo.k t_this (by decide)).eN hEs127 (by decide) rfl
          have hN130 : zN s127 o = zN s117 o := (hTo.k t_o (by decide)).eN hEs127 (by decide) rfl
          refine lv_aload_n hx hb dX4_add_88 rfl (lv_at hl 2 rfl) ?_
          obtain ⟨h133, oh133, th133⟩ := hT.o1 (hT.k t_this (by decide))
          have hTo := hT
          refine tVv (n := 0) (As := []) (rest := []) hx hb hml hown hg hT hK hX (X4_trim l κ s127 this  (hT.k t_this (by decide)) ) sub_fX_fW (mwV k371 k373 k4 k88 k374) ⟨rfl, by decide, by decide, by decide +kernel⟩ ⟨(Nat.le_of_ble_eq_true rfl), (Nat.le_of_ble_eq_true rfl)⟩ oh133 rfl rfl hl.1 rfl (Nat.le_of_ble_eq_true rfl) dX4_add_89 zroom.rf (fun s132 H locs hφ hEs132 hT => ?_)
          have hN134 : zN s132 this = zN s127 this := (hTo.k t_this (by decide)).eN hEs132 (by decide) rfl
          have hN135 : zN s132 o = zN s127 o := (hTo.k t_o (by decide)).eN hEs132 (by decide) rfl
          subst hQ9
          exact t_v hx hb hr hlocks hT trivial dX4_add_92
    · have c16 := gi_nlt c9
      refine lv_aload_n hx hb dX4_add_16 rfl (lv_at hl 0 rfl) ?_
      refine lv_aload_n hx hb dX4_add_17 rfl (lv_at hl 0 rfl) ?_
      obtain ⟨h138, oh138, th138⟩ := hT.o1 (hT.k t_this (by decide))
      have hTo := hT
      refine tVl (n := 0) (As := []) (rest := [.ref this]) hx hb hml hown hg hT hK hX (X4_lowest l κ σ0 this  (hT.k t_this (by decide)) ) sub_fE_fW (mwV k344 k346 k0 k88 k347) ⟨rfl, by decide, by decide, by decide +kernel⟩ ⟨(Nat.le_of_ble_eq_true rfl), (Nat.le_of_ble_eq_true rfl)⟩ oh138 rfl rfl hl.1 rfl (Nat.le_of_ble_eq_true rfl) dX4_add_18 zroom.rf (fun x136 s137 H locs hφ hEs137 hT => ?_)
      have ev2 : zI s137 this 1 = v2 := ((hTo.k t_this (by decide)).eI hEs137 (by decide) rfl).trans ev2
      have ev70 : zI s137 o 1 = v70 := ((hTo.k t_o (by decide)).eI hEs137 (by decide) rfl).trans ev70
      have hN139 : zN s137 this = zN σ0 this := (hTo.k t_this (by decide)).eN hEs137 (by decide) rfl
      have hN140 : zN s137 o = zN σ0 o := (hTo.k t_o (by decide)).eN hEs137 (by decide) rfl
      refine lv_aload_n hx hb dX4_add_21 rfl (lv_at hl 1 rfl) ?_
      obtain ⟨h143, oh143, th143⟩ := hT.o1 (hT.k t_o (by decide))
      have hTo := hT
      refine tVl (n := 0) (As := []) (rest := [.long x136, .ref this]) hx hb hml hown hg hT hK hX (X4_lowest l κ s137 o  (hT.k t_o (by decide)) ) sub_fE_fW (mwV k344 k346 k0 k88 k347) ⟨rfl, by decide, by decide, by decide +kernel⟩ ⟨(Nat.le_of_ble_eq_true rfl), (Nat.le_of_ble_eq_true rfl)⟩ oh143 rfl rfl hl.1 rfl (Nat.le_of_ble_eq_true rfl) dX4_add_22 zroom.rf (fun x141 s142 H locs hφ hEs142 hT => ?_)
      have ev2 : zI s142 this 1 = v2 := ((hTo.k t_this (by decide)).eI hEs142 (by decide) rfl).trans ev2
      have ev70 : zI s142 o 1 = v70 := ((hTo.k t_o (by decide)).eI hEs142 (by decide) rfl).trans ev70
      have hN144 : zN s142 this = zN s137 this := (hTo.k t_this (by decide)).eN hEs142 (by decide) rfl
      have hN145 : zN s142 o = zN s137 o := (hTo.k t_o (by decide)).eN hEs142 (by decide) rfl
      refine lv_lload_n hx hb dX4_add_25 rfl (lv_at hl 2 rfl) ?_
      refine lv_lmul hx hb dX4_add_26 ?_
      refine lv_topl (fun t146 ht146 => ?_)
      refine lv_ladd hx hb dX4_add_27 ?_
      refine lv_topl (fun t147 ht147 => ?_)
      obtain ⟨h150, oh150, th150⟩ := hT.o1 (hT.k t_this (by decide))
      have hTo := hT
      refine tVv (n := 1) (As := [.long t147]) (rest := []) hx hb hml hown hg hT hK hX (X4_become l κ s142 this t147  (hT.k t_this (by decide)) ) sub_fX_fW (mwV k349 k275 k276 k88 k277) ⟨rfl, by decide, by decide, by decide +kernel⟩ ⟨(Nat.le_of_ble_eq_true rfl), (Nat.le_of_ble_eq_true rfl)⟩ oh150 rfl rfl hl.1 rfl (Nat.le_of_ble_eq_true rfl) dX4_add_28 zroom.rf (fun s149 H locs hφ hEs149 hT => ?_)
      have hN151 : zN s149 this = zN s142 this := (hTo.k t_this (by decide)).eN hEs149 (by decide) rfl
      have hN152 : zN s149 o = zN s142 o := (hTo.k t_o (by decide)).eN hEs149 (by decide) rfl
      subst hQ9
      exact t_v hx hb hr hlocks hT trivial dX4_add_31
set_option maxHeartbeats 4000000 in
set_option maxRecDepth 100000 in
theorem X4_scale (l : Launch) (κ : Kt) (σ0 : Gh) (this : Nat) (x : Int64) (y : Int64) (t_this : zk σ0 this 1) : TC l yX4_scale cX4_scale 6 none 2 63 [.ref this, .long x, .long y] κ σ0 (tqv κ fW σ0 (fun (τ : Gh) => True)) := by
  refine TC.of fW (by decide +kernel) (Nat.le_of_ble_eq_true rfl) ?_
  intro p e s m below meth c ls hcs hK hX hT hl
  obtain ⟨hx, hb, hr, hml, hown, hg, hlocks, hin⟩ := hcs
  have hown : s.vm.findClass RX4 = some m.cls := hown
  have hl : lv_has ls 6 [(0, .ref this), (1, .long x), (3, .long y)] := hl
  have hT0 := hT
  have n0 : (0 : Int32).toInt = 0 := by decide
  have n1 : (1 : Int32).toInt = 1 := by decide
  have j0 : (0 : Int64).toInt = 0 := by decide
  have j1 : (1 : Int64).toInt = 1 := by decide
  generalize hQ9 : tQ _ _ _ _ _ _ = Q9
  refine lv_lload_n hx hb dX4_scale_0 rfl (lv_at hl 2 rfl) ?_
  refine lv_lconst (v := 0) hx hb dX4_scale_1 (by decide) ?_
  refine W.lcmp hx hb dX4_scale_2 ?_
  refine lv_if_gt (tgt := 7) hx hb dX4_scale_3 (by decide) (fun c9 => ?_) (fun c9 => ?_)
  · have c1 := gl_gt c9
    refine lv_aload_n hx hb dX4_scale_7 rfl (lv_at hl 0 rfl) ?_
    obtain ⟨h1, oh1, th1⟩ := hT.o1 (hT.k t_this (by decide))
    obtain ⟨v2, ev2⟩ : ∃ zz9 : Int32, zI σ0 this 1 = zz9 := ⟨_, rfl⟩
    have qv2 : v2.toInt = (zI σ0 this 1).toInt := by rw [ev2]
    have b3 := (hT.P (hT.k t_this (by decide)) (by decide)).2.1
    rw [ev2] at b3
    have b3l := b3.1
    have b3h := b3.2
    have bN4 := (hT.P (hT.k t_this (by decide)) (by decide)).1
    refine va_get (D := κ.1) (ci := 4) (v := .int (zI σ0 this 1)) (C := RX4) (T := TX4) (N := 3) hx hb hg inX4 hown hK oh1.one 0 rfl rfl 1 (by decide) (hg _ k210) (fun _ h9 => h9) rfl dX4_scale_8 ?_
    rw [ev2]
    refine lv_iconst (v := 1) hx hb dX4_scale_11 (by decide) ?_
    refine lv_icmp_gt (tgt := 30) hx hb dX4_scale_12 (by decide) (fun c9 => ?_) (fun c9 => ?_)
    · have c2 := gi_lt c9
      refine lv_aload_n hx hb dX4_scale_30 rfl (lv_at hl 0 rfl) ?_
      refine lv_aload_n hx hb dX4_scale_31 rfl (lv_at hl 0 rfl) ?_
      obtain ⟨h5, oh5, th5⟩ := hT.o1 (hT.k t_this (by decide))
      have b6 := (hT.P (hT.k t_this (by decide)) (by decide)).2.1
      rw [ev2] at b6
      have b6l := b6.1
      have b6h := b6.2
      have bN7 := (hT.P (hT.k t_this (by decide)) (by decide)).1
      refine va_get (D := κ.1) (ci := 4) (v := .int (zI σ0 this 1)) (C := RX4) (T := TX4) (N := 3) hx hb hg inX4 hown hK oh5.one 0 rfl rfl 1 (by decide) (hg _ k210) (fun _ h9 => h9) rfl dX4_scale_32 ?_
      rw [ev2]
      refine lv_iconst (v := 1) hx hb dX4_scale_35 (by decide) ?_
      refine lv_iadd hx hb dX4_scale_36 ?_
      first | refine g_add (by omega) (by omega) (fun t8 ht8 => ?_) | refine lv_topi (fun t8 ht8 => ?_)
      obtain ⟨h11, oh11, th11⟩ := hT.o1 (hT.k t_this (by decide))
      have hTo := hT
      refine tVi (n := 1) (As := [.int t8]) (rest := []) hx hb hml hown hg hT hK hX (X4_makeRoom l κ σ0 this t8  (hT.k t_this (by decide)) (by omega) (by omega)) sub_fM_fW (mwV k353 k355 k1 k88 k356) ⟨rfl, by decide, by decide, by decide +kernel⟩ ⟨(Nat.le_of_ble_eq_true rfl), (Nat.le_of_ble_eq_true rfl)⟩ oh11 rfl rfl hl.1 rfl (Nat.le_of_ble_eq_true rfl) dX4_scale_37 zroom.rf (fun x9 s10 H locs hφ hEs10 hT => ?_)
      have ev2 : zI s10 this 1 = v2 := ((hTo.k t_this (by decide)).eI hEs10 (by decide) rfl).trans ev2
      obtain ⟨f12, f13, f14, f15, f16⟩ := hφ
      refine lv_istore (lv' := [(5, .int x9), (0, .ref this), (1, .long x), (3, .long y)]) hx hb dX4_scale_40 hl (by decide) rfl (fun ls hl => ?_)
      refine lv_aload_n hx hb dX4_scale_42 rfl (lv_at hl 1 rfl) ?_
      refine lv_lload_n hx hb dX4_scale_43 rfl (lv_at hl 2 rfl) ?_
      refine lv_aload_n hx hb dX4_scale_44 rfl (lv_at hl 1 rfl) ?_
      obtain ⟨h17, oh17, th17⟩ := hT.o1 (hT.k t_this (by decide))
      obtain ⟨v18, ev18⟩ : ∃ zz9 : Int32, zI s10 this 2 = zz9 := ⟨_, rfl⟩
      have qv18 : v18.toInt = (zI s10 this 2).toInt := by rw [ev18]
      have b19 : isB v18 := by have q9 := (hT.P (hT.k t_this (by decide)) (by decide)).2.2; rw [ev18] at q9; exact q9
      refine va_get (D := κ.1) (ci := 4) (v := .int (zI s10 this 2)) (C := RX4) (T := TX4) (N := 3) hx hb hg inX4 hown hK oh17.one 0 rfl rfl 2 (by decide) (hg _ k211) (fun _ h9 => h9) rfl dX4_scale_45 ?_
      rw [ev18]
      refine lv_if_eq (tgt := 57) hx hb dX4_scale_48 (by decide) (fun c9 => ?_) (fun c9 => ?_)
      · have c3 := gi_eq c9
        refine lv_lconst (v := 0) hx hb dX4_scale_57 (by decide) ?_
        refine lv_iload hx hb dX4_scale_58 (lv_at hl 0 rfl) ?_
        obtain ⟨h22, oh22, th22⟩ := hT.o1 (hT.k t_this (by decide))
        have hTo := hT
        refine tVv (n := 3) (As := [.long x, .long 0, .int x9]) (rest := []) hx hb hml hown hg hT hK hX (X4_multiply l κ s10 this x 0 x9  (hT.k t_this (by decide)) (by omega) (by omega)) sub_fX_fW (mwV k558 k560 k12 k88 k561) ⟨rfl, by decide, by decide, by decide +kernel⟩ ⟨(Nat.le_of_ble_eq_true rfl), (Nat.le_of_ble_eq_true rfl)⟩ oh22 rfl rfl hl.1 rfl (Nat.le_of_ble_eq_true rfl) dX4_scale_60 zroom.rf (fun s21 H locs hφ hEs21 hT => ?_)
        have hN23 : zN s21 this = zN s10 this := (hTo.k t_this (by decide)).eN hEs21 (by decide) rfl
        refine lv_aload_n hx hb dX4_scale_63 rfl (lv_at hl 1 rfl) ?_
        refine lv_lload_n hx hb dX4_scale_64 rfl (lv_at hl 3 rfl) ?_
        obtain ⟨h26, oh26, th26⟩ := hT.o1 (hT.k t_this (by decide))
        have hTo := hT
        refine tVv (n := 1) (As := [.long y]) (rest := []) hx hb hml hown hg hT hK hX (X4_divide l κ s21 this y  (hT.k t_this (by decide)) ) sub_fX_fW (mwV k562 k564 k13 k88 k565) ⟨rfl, by decide, by decide, by decide +kernel⟩ ⟨(Nat.le_of_ble_eq_true rfl), (Nat.le_of_ble_eq_true rfl)⟩ oh26 rfl rfl hl.1 rfl (Nat.le_of_ble_eq_true rfl) dX4_scale_65 zroom.rf (fun s25 H locs hφ hEs25 hT => ?_)
        have hN27 : zN s25 this = zN s21 this := (hTo.k t_this (by decide)).eN hEs25 (by decide) rfl
        refine lv_aload_n hx hb dX4_scale_68 rfl (lv_at hl 1 rfl) ?_
        obtain ⟨h30, oh30, th30⟩ := hT.o1 (hT.k t_this (by decide))
        have hTo := hT
        refine tVv (n := 0) (As := []) (rest := []) hx hb hml hown hg hT hK hX (X4_trim l κ s25 this  (hT.k t_this (by decide)) ) sub_fX_fW (mwV k371 k373 k4 k88 k374) ⟨rfl, by decide, by decide, by decide +kernel⟩ ⟨(Nat.le_of_ble_eq_true rfl), (Nat.le_of_ble_eq_true rfl)⟩ oh30 rfl rfl hl.1 rfl (Nat.le_of_ble_eq_true rfl) dX4_scale_69 zroom.rf (fun s29 H locs hφ hEs29 hT => ?_)
        have hN31 : zN s29 this = zN s25 this := (hTo.k t_this (by decide)).eN hEs29 (by decide) rfl
        subst hQ9
        exact t_v hx hb hr hlocks hT trivial dX4_scale_72
      · have c4 := gi_ne c9
        refine lv_lload_n hx hb dX4_scale_51 rfl (lv_at hl 3 rfl) ?_
        refine lv_lconst (v := 1) hx hb dX4_scale_52 (by decide) ?_
        refine lv_lsub hx hb dX4_scale_53 ?_
        refine lv_topl (fun t32 ht32 => ?_)
        refine lv_goto (tgt := 58) hx hb dX4_scale_54 (by decide) ?_
        refine lv_iload hx hb dX4_scale_58 (lv_at hl 0 rfl) ?_
        obtain ⟨h35, oh35, th35⟩ := hT.o1 (hT.k t_this (by decide))
        have hTo := hT
        refine tVv (n := 3) (As := [.long x, .long t32, .int x9]) (rest := []) hx hb hml hown hg hT hK hX (X4_multiply l κ s10 this x t32 x9  (hT.k t_this (by decide)) (by omega) (by omega)) sub_fX_fW (mwV k558 k560 k12 k88 k561) ⟨rfl, by decide, by decide, by decide +kernel⟩ ⟨(Nat.le_of_ble_eq_true rfl), (Nat.le_of_ble_eq_true rfl)⟩ oh35 rfl rfl hl.1 rfl (Nat.le_of_ble_eq_true rfl) dX4_scale_60 zroom.rf (fun s34 H locs hφ hEs34 hT => ?_)
        have hN36 : zN s34 this = zN s10 this := (hTo.k t_this (by decide)).eN hEs34 (by decide) rfl
        refine lv_aload_n hx hb dX4_scale_63 rfl (lv_at hl 1 rfl) ?_
        refine lv_lload_n hx hb dX4_scale_64 rfl (lv_at hl 3 rfl) ?_
        obtain ⟨h39, oh39, th39⟩ := hT.o1 (hT.k t_this (by decide))
        have hTo := hT
        refine tVv (n := 1) (As := [.long y]) (rest := []) hx hb hml hown hg hT hK hX (X4_divide l κ s34 this y  (hT.k t_this (by decide)) ) sub_fX_fW (mwV k562 k564 k13 k88 k565) ⟨rfl, by decide, by decide, by decide +kernel⟩ ⟨(Nat.le_of_ble_eq_true rfl), (Nat.le_of_ble_eq_true rfl)⟩ oh39 rfl rfl hl.1 rfl (Nat.le_of_ble_eq_true rfl) dX4_scale_65 zroom.rf (fun s38 H locs hφ hEs38 hT => ?_)
        have hN40 : zN s38 this = zN s34 this := (hTo.k t_this (by decide)).eN hEs38 (by decide) rfl
        refine lv_aload_n hx hb dX4_scale_68 rfl (lv_at hl 1 rfl) ?_
        obtain ⟨h43, oh43, th43⟩ := hT.o1 (hT.k t_this (by decide))
        have hTo := hT
        refine tVv (n := 0) (As := []) (rest := []) hx hb hml hown hg hT hK hX (X4_trim l κ s38 this  (hT.k t_this (by decide)) ) sub_fX_fW (mwV k371 k373 k4 k88 k374) ⟨rfl, by decide, by decide, by decide +kernel⟩ ⟨(Nat.le_of_ble_eq_true rfl), (Nat.le_of_ble_eq_true rfl)⟩ oh43 rfl rfl hl.1 rfl (Nat.le_of_ble_eq_true rfl) dX4_scale_69 zroom.rf (fun s42 H locs hφ hEs42 hT => ?_)
        have hN44 : zN s42 this = zN s38 this := (hTo.k t_this (by decide)).eN hEs42 (by decide) rfl
        subst hQ9
        exact t_v hx hb hr hlocks hT trivial dX4_scale_72
    · have c5 := gi_nlt c9
      refine lv_aload_n hx hb dX4_scale_15 rfl (lv_at hl 0 rfl) ?_
      refine lv_aload_n hx hb dX4_scale_16 rfl (lv_at hl 0 rfl) ?_
      obtain ⟨h47, oh47, th47⟩ := hT.o1 (hT.k t_this (by decide))
      have hTo := hT
      refine tVl (n := 0) (As := []) (rest := [.ref this]) hx hb hml hown hg hT hK hX (X4_lowest l κ σ0 this  (hT.k t_this (by decide)) ) sub_fE_fW (mwV k344 k346 k0 k88 k347) ⟨rfl, by decide, by decide, by decide +kernel⟩ ⟨(Nat.le_of_ble_eq_true rfl), (Nat.le_of_ble_eq_true rfl)⟩ oh47 rfl rfl hl.1 rfl (Nat.le_of_ble_eq_true rfl) dX4_scale_17 zroom.rf (fun x45 s46 H locs hφ hEs46 hT => ?_)
      have ev2 : zI s46 this 1 = v2 := ((hTo.k t_this (by decide)).eI hEs46 (by decide) rfl).trans ev2
      have hN48 : zN s46 this = zN σ0 this := (hTo.k t_this (by decide)).eN hEs46 (by decide) rfl
      refine lv_lload_n hx hb dX4_scale_20 rfl (lv_at hl 1 rfl) ?_
      refine lv_lmul hx hb dX4_scale_21 ?_
      refine lv_topl (fun t49 ht49 => ?_)
      refine lv_lload_n hx hb dX4_scale_22 rfl (lv_at hl 2 rfl) ?_
      have hTo := hT
      refine tTl (n := 2) (As := [.long t49, .long y]) (rest := [.ref this]) hx hb hml hown hg hT hK hX (J_floorDiv l κ s46 t49 y   (by omega)) sub_fE_fW (mwI k557) ⟨by decide, by decide, by decide +kernel⟩ ⟨(Nat.le_of_ble_eq_true rfl), (Nat.le_of_ble_eq_true rfl)⟩ k90 k555 k556 rfl hl.1 rfl (Nat.le_of_ble_eq_true rfl) dX4_scale_23 zroom.rf (fun x50 s51 H locs hφ hEs51 hT => ?_)
      have ev2 : zI s51 this 1 = v2 := ((hTo.k t_this (by decide)).eI hEs51 (by decide) rfl).trans ev2
      have hN52 : zN s51 this = zN s46 this := (hTo.k t_this (by decide)).eN hEs51 (by decide) rfl
      obtain ⟨h55, oh55, th55⟩ := hT.o1 (hT.k t_this (by decide))
      have hTo := hT
      refine tVv (n := 1) (As := [.long x50]) (rest := []) hx hb hml hown hg hT hK hX (X4_become l κ s51 this x50  (hT.k t_this (by decide)) ) sub_fX_fW (mwV k349 k275 k276 k88 k277) ⟨rfl, by decide, by decide, by decide +kernel⟩ ⟨(Nat.le_of_ble_eq_true rfl), (Nat.le_of_ble_eq_true rfl)⟩ oh55 rfl rfl hl.1 rfl (Nat.le_of_ble_eq_true rfl) dX4_scale_26 zroom.rf (fun s54 H locs hφ hEs54 hT => ?_)
      have hN56 : zN s54 this = zN s51 this := (hTo.k t_this (by decide)).eN hEs54 (by decide) rfl
      subst hQ9
      exact t_v hx hb hr hlocks hT trivial dX4_scale_29
  · have c6 := gl_ngt c9
    subst hQ9
    exact t_v hx hb hr hlocks hT trivial dX4_scale_6
set_option maxHeartbeats 4000000 in
set_option maxRecDepth 100000 in
theorem X4_copyFrom (l : Launch) (κ : Kt) (σ0 : Gh) (this : Nat) (o : Nat) (t_this : zk σ0 this 1) (t_o : zk σ0 o 1) : TC l yX4_copyFrom cX4_copyFrom 2 none 2 63 [.ref this, .ref o] κ σ0 (tqv κ fW σ0 (fun (τ : Gh) => True)) := by
  refine TC.of fW (by decide +kernel) (Nat.le_of_ble_eq_true rfl) ?_
  intro p e s m below meth c ls hcs hK hX hT hl
  obtain ⟨hx, hb, hr, hml, hown, hg, hlocks, hin⟩ := hcs
  have hown : s.vm.findClass RX4 = some m.cls := hown
  have hl : lv_has ls 2 [(0, .ref this), (1, .ref o)] := hl
  have hT0 := hT
  have n0 : (0 : Int32).toInt = 0 := by decide
  have n1 : (1 : Int32).toInt = 1 := by decide
  generalize hQ9 : tQ _ _ _ _ _ _ = Q9
  refine lv_aload_n hx hb dX4_copyFrom_0 rfl (lv_at hl 0 rfl) ?_
  obtain ⟨h1, oh1, th1⟩ := hT.o1 (hT.k t_this (by decide))
  refine va_get (D := κ.1) (ci := 4) (v := .ref h1) (C := RX4) (T := TX4) (N := 3) hx hb hg inX4 hown hK oh1.one 0 rfl rfl 0 (by decide) (hg _ k209) (fun _ h9 => h9) rfl dX4_copyFrom_1 ?_
  have bN2 := (hT.P (hT.k t_this (by decide)) (by decide)).1
  refine lv_iconst (v := 0) hx hb dX4_copyFrom_4 (by decide) ?_
  refine lv_aload_n hx hb dX4_copyFrom_5 rfl (lv_at hl 1 rfl) ?_
  obtain ⟨h3, oh3, th3⟩ := hT.o1 (hT.k t_o (by decide))
  refine va_get (D := κ.1) (ci := 4) (v := .ref h3) (C := RX4) (T := TX4) (N := 3) hx hb hg inX4 hown hK oh3.one 0 rfl rfl 0 (by decide) (hg _ k209) (fun _ h9 => h9) rfl dX4_copyFrom_6 ?_
  have bN4 := (hT.P (hT.k t_o (by decide)) (by decide)).1
  refine lv_iconst (v := 0) hx hb dX4_copyFrom_9 (by decide) ?_
  refine va_iald hx hb hK (hT.oL th3).one 0 0 rfl rfl (g_in (by omega) (by omega)) dX4_copyFrom_10 ?_
  refine lv_topi (fun t5 ht5 => ?_)
  have hTo := hT
  refine tasti hx hb hK hT th1 ⟨by omega, by omega⟩ (fun _ _ _ => zS_big) (fun _ _ => zP_big) fL_fW (by omega) (by omega) dX4_copyFrom_11 (fun H locs s6 hus6 hT => ?_)
  have hN7 : zN s6 this = zN σ0 this := zput_N hus6
  have hN8 : zN s6 o = zN σ0 o := zput_N hus6
  refine lv_aload_n hx hb dX4_copyFrom_12 rfl (lv_at hl 1 rfl) ?_
  obtain ⟨h9, oh9, th9⟩ := hT.o1 (hT.k t_o (by decide))
  obtain ⟨v10, ev10⟩ : ∃ zz9 : Int32, zI s6 o 1 = zz9 := ⟨_, rfl⟩
  have qv10 : v10.toInt = (zI s6 o 1).toInt := by rw [ev10]
  have b11 := (hT.P (hT.k t_o (by decide)) (by decide)).2.1
  rw [ev10] at b11
  have b11l := b11.1
  have b11h := b11.2
  have bN12 := (hT.P (hT.k t_o (by decide)) (by decide)).1
  refine va_get (D := κ.1) (ci := 4) (v := .int (zI s6 o 1)) (C := RX4) (T := TX4) (N := 3) hx hb hg inX4 hown hK oh9.one 0 rfl rfl 1 (by decide) (hg _ k210) (fun _ h9 => h9) rfl dX4_copyFrom_13 ?_
  rw [ev10]
  refine lv_iconst (v := 1) hx hb dX4_copyFrom_16 (by decide) ?_
  refine lv_icmp_le (tgt := 46) hx hb dX4_copyFrom_17 (by decide) (fun c9 => ?_) (fun c9 => ?_)
  · have c1 := gi_le c9
    refine lv_aload_n hx hb dX4_copyFrom_46 rfl (lv_at hl 0 rfl) ?_
    refine lv_aload_n hx hb dX4_copyFrom_47 rfl (lv_at hl 1 rfl) ?_
    obtain ⟨h13, oh13, th13⟩ := hT.o1 (hT.k t_o (by decide))
    have b14 := (hT.P (hT.k t_o (by decide)) (by decide)).2.1
    rw [ev10] at b14
    have b14l := b14.1
    have b14h := b14.2
    have bN15 := (hT.P (hT.k t_o (by decide)) (by decide)).1
    refine va_get (D := κ.1) (ci := 4) (v := .int (zI s6 o 1)) (C := RX4) (T := TX4) (N := 3) hx hb hg inX4 hown hK oh13.one 0 rfl rfl 1 (by decide) (hg _ k210) (fun _ h9 => h9) rfl dX4_copyFrom_48 ?_
    rw [ev10]
    have bN16 := (hT.P (hT.k t_this (by decide)) (by decide)).1
    have hTo := hT
    refine pf1_1 hx hb hg hown hK hT (hT.k t_this (by decide)) rfl ⟨by omega, by omega⟩ (hg _ k210) dX4_copyFrom_51 (fun H locs s17 hus17 hT => ?_)
    have hN18 : zN s17 this = zN s6 this := zput_N hus17
    have hN19 : zN s17 o = zN s6 o := zput_N hus17
    have e20 : zI s17 this 1 = v10 := zput_at hus17
    refine lv_aload_n hx hb dX4_copyFrom_54 rfl (lv_at hl 0 rfl) ?_
    refine lv_aload_n hx hb dX4_copyFrom_55 rfl (lv_at hl 1 rfl) ?_
    obtain ⟨h21, oh21, th21⟩ := hT.o1 (hT.k t_o (by decide))
    obtain ⟨v22, ev22⟩ : ∃ zz9 : Int32, zI s17 o 2 = zz9 := ⟨_, rfl⟩
    have qv22 : v22.toInt = (zI s17 o 2).toInt := by rw [ev22]
    have b23 : isB v22 := by have q9 := (hT.P (hT.k t_o (by decide)) (by decide)).2.2; rw [ev22] at q9; exact q9
    refine va_get (D := κ.1) (ci := 4) (v := .int (zI s17 o 2)) (C := RX4) (T := TX4) (N := 3) hx hb hg inX4 hown hK oh21.one 0 rfl rfl 2 (by decide) (hg _ k211) (fun _ h9 => h9) rfl dX4_copyFrom_56 ?_
    rw [ev22]
    have hTo := hT
    refine pf1_2 hx hb hg hown hK hT (hT.k t_this (by decide)) rfl b23 (hg _ k211) dX4_copyFrom_59 (fun H locs s24 hus24 hT => ?_)
    have e20 : zI s24 this 1 = v10 := (zput_o hus24 (Or.inr (by decide))).trans e20
    have hN25 : zN s24 this = zN s17 this := zput_N hus24
    have hN26 : zN s24 o = zN s17 o := zput_N hus24
    have e27 : zI s24 this 2 = v22 := zput_at hus24
    subst hQ9
    exact t_v hx hb hr hlocks hT trivial dX4_copyFrom_62
  · have c2 := gi_nle c9
    refine lv_aload_n hx hb dX4_copyFrom_20 rfl (lv_at hl 0 rfl) ?_
    refine lv_aload_n hx hb dX4_copyFrom_21 rfl (lv_at hl 1 rfl) ?_
    obtain ⟨h28, oh28, th28⟩ := hT.o1 (hT.k t_o (by decide))
    have b29 := (hT.P (hT.k t_o (by decide)) (by decide)).2.1
    rw [ev10] at b29
    have b29l := b29.1
    have b29h := b29.2
    have bN30 := (hT.P (hT.k t_o (by decide)) (by decide)).1
    refine va_get (D := κ.1) (ci := 4) (v := .int (zI s6 o 1)) (C := RX4) (T := TX4) (N := 3) hx hb hg inX4 hown hK oh28.one 0 rfl rfl 1 (by decide) (hg _ k210) (fun _ h9 => h9) rfl dX4_copyFrom_22 ?_
    rw [ev10]
    obtain ⟨h33, oh33, th33⟩ := hT.o1 (hT.k t_this (by decide))
    have hTo := hT
    refine tVi (n := 1) (As := [.int v10]) (rest := []) hx hb hml hown hg hT hK hX (X4_makeRoom l κ s6 this v10  (hT.k t_this (by decide)) (by omega) (by omega)) sub_fM_fW (mwV k353 k355 k1 k88 k356) ⟨rfl, by decide, by decide, by decide +kernel⟩ ⟨(Nat.le_of_ble_eq_true rfl), (Nat.le_of_ble_eq_true rfl)⟩ oh33 rfl rfl hl.1 rfl (Nat.le_of_ble_eq_true rfl) dX4_copyFrom_25 zroom.rf (fun x31 s32 H locs hφ hEs32 hT => ?_)
    have ev10 : zI s32 o 1 = v10 := ((hTo.k t_o (by decide)).eI hEs32 (by decide) rfl).trans ev10
    obtain ⟨f34, f35, f36, f37, f38⟩ := hφ
    refine lv_pop hx hb dX4_copyFrom_28 rfl ?_
    refine lv_aload_n hx hb dX4_copyFrom_29 rfl (lv_at hl 1 rfl) ?_
    obtain ⟨h39, oh39, th39⟩ := hT.o1 (hT.k t_o (by decide))
    refine va_get (D := κ.1) (ci := 4) (v := .ref h39) (C := RX4) (T := TX4) (N := 3) hx hb hg inX4 hown hK oh39.one 0 rfl rfl 0 (by decide) (hg _ k209) (fun _ h9 => h9) rfl dX4_copyFrom_30 ?_
    have bN40 := (hT.P (hT.k t_o (by decide)) (by decide)).1
    refine lv_iconst (v := 0) hx hb dX4_copyFrom_33 (by decide) ?_
    refine lv_aload_n hx hb dX4_copyFrom_34 rfl (lv_at hl 0 rfl) ?_
    obtain ⟨h41, oh41, th41⟩ := hT.o1 (hT.k t_this (by decide))
    refine va_get (D := κ.1) (ci := 4) (v := .ref h41) (C := RX4) (T := TX4) (N := 3) hx hb hg inX4 hown hK oh41.one 0 rfl rfl 0 (by decide) (hg _ k209) (fun _ h9 => h9) rfl dX4_copyFrom_35 ?_
    have bN42 := (hT.P (hT.k t_this (by decide)) (by decide)).1
    refine lv_iconst (v := 0) hx hb dX4_copyFrom_38 (by decide) ?_
    refine lv_aload_n hx hb dX4_copyFrom_39 rfl (lv_at hl 1 rfl) ?_
    obtain ⟨h43, oh43, th43⟩ := hT.o1 (hT.k t_o (by decide))
    have b44 := (hT.P (hT.k t_o (by decide)) (by decide)).2.1
    rw [ev10] at b44
    have b44l := b44.1
    have b44h := b44.2
    have bN45 := (hT.P (hT.k t_o (by decide)) (by decide)).1
    refine va_get (D := κ.1) (ci := 4) (v := .int (zI s32 o 1)) (C := RX4) (T := TX4) (N := 3) hx hb hg inX4 hown hK oh43.one 0 rfl rfl 1 (by decide) (hg _ k210) (fun _ h9 => h9) rfl dX4_copyFrom_40 ?_
    rw [ev10]
    have hTo := hT
    refine tcopyi hx hb (hml.trans hl.1.symm) hown (hg _ k360) (hg _ k362) (hg _ k361) (hg _ k91) hK hT th39 (by omega) (fun _ _ _ => zS_big) th41 ⟨by omega, by omega⟩ (fun _ _ _ => zS_big) (fun _ _ => zP_big) fL_fW (by omega) (by omega) (by omega) (by omega) (by omega) (Nat.le_of_ble_eq_true rfl) (Nat.le_of_ble_eq_true rfl) dX4_copyFrom_43 (fun H locs s46 hus46 hT => ?_)
    have ev10 : zI s46 o 1 = v10 := (by rw [hus46, zset_In ((hTo.k t_o (by decide)).ne th41 (by omega))]; exact ev10)
    have hN47 : zN s46 this = zN s32 this := by rw [hus46]; rfl
    have hN48 : zN s46 o = zN s32 o := by rw [hus46]; rfl
    refine lv_aload_n hx hb dX4_copyFrom_46 rfl (lv_at hl 0 rfl) ?_
    refine lv_aload_n hx hb dX4_copyFrom_47 rfl (lv_at hl 1 rfl) ?_
    obtain ⟨h49, oh49, th49⟩ := hT.o1 (hT.k t_o (by decide))
    have b50 := (hT.P (hT.k t_o (by decide)) (by decide)).2.1
    rw [ev10] at b50
    have b50l := b50.1
    have b50h := b50.2
    have bN51 := (hT.P (hT.k t_o (by decide)) (by decide)).1
    refine va_get (D := κ.1) (ci := 4) (v := .int (zI s46 o 1)) (C := RX4) (T := TX4) (N := 3) hx hb hg inX4 hown hK oh49.one 0 rfl rfl 1 (by decide) (hg _ k210) (fun _ h9 => h9) rfl dX4_copyFrom_48 ?_
    rw [ev10]
    have bN52 := (hT.P (hT.k t_this (by decide)) (by decide)).1
    have hTo := hT
    refine pf1_1 hx hb hg hown hK hT (hT.k t_this (by decide)) rfl ⟨by omega, by omega⟩ (hg _ k210) dX4_copyFrom_51 (fun H locs s53 hus53 hT => ?_)
    have hN54 : zN s53 this = zN s46 this := zput_N hus53
    have hN55 : zN s53 o = zN s46 o := zput_N hus53
    have e56 : zI s53 this 1 = v10 := zput_at hus53
    refine lv_aload_n hx hb dX4_copyFrom_54 rfl (lv_at hl 0 rfl) ?_
    refine lv_aload_n hx hb dX4_copyFrom_55 rfl (lv_at hl 1 rfl) ?_
    obtain ⟨h57, oh57, th57⟩ := hT.o1 (hT.k t_o (by decide))
    obtain ⟨v58, ev58⟩ : ∃ zz9 : Int32, zI s53 o 2 = zz9 := ⟨_, rfl⟩
    have qv58 : v58.toInt = (zI s53 o 2).toInt := by rw [ev58]
    have b59 : isB v58 := by have q9 := (hT.P (hT.k t_o (by decide)) (by decide)).2.2; rw [ev58] at q9; exact q9
    refine va_get (D := κ.1) (ci := 4) (v := .int (zI s53 o 2)) (C := RX4) (T := TX4) (N := 3) hx hb hg inX4 hown hK oh57.one 0 rfl rfl 2 (by decide) (hg _ k211) (fun _ h9 => h9) rfl dX4_copyFrom_56 ?_
    rw [ev58]
    have hTo := hT
    refine pf1_2 hx hb hg hown hK hT (hT.k t_this (by decide)) rfl b59 (hg _ k211) dX4_copyFrom_59 (fun H locs s60 hus60 hT => ?_)
    have e56 : zI s60 this 1 = v10 := (zput_o hus60 (Or.inr (by decide))).trans e56
    have hN61 : zN s60 this = zN s53 this := zput_N hus60
    have hN62 : zN s60 o = zN s53 o := zput_N hus60
    have e63 : zI s60 this 2 = v58 := zput_at hus60
    subst hQ9
    exact t_v hx hb hr hlocks hT trivial dX4_copyFrom_62

/-! methods of the JDK over any state -/
theorem k482 : Cond.constant RJ6 264 65536 ∈ GW := gm 482 (by decide +kernel) (by decide +kernel)
theorem dJ6_numberOfLeadingZeros_0f7a4_0 : decode cJ6_numberOfLeadingZeros_0f7a4 0 = .ok (.iload_n 0, 1) := by decide +kernel
theorem dJ6_numberOfLeadingZeros_0f7a4_1 : decode cJ6_numberOfLeadingZeros_0f7a4 1 = .ok (.ifCond .gt 14, 3) := by decide +kernel
theorem dJ6_numberOfLeadingZeros_0f7a4_4 : decode cJ6_numberOfLeadingZeros_0f7a4 4 = .ok (.iload_n 0, 1) := by decide +kernel
theorem dJ6_numberOfLeadingZeros_0f7a4_5 : decode cJ6_numberOfLeadingZeros_0f7a4 5 = .ok (.ifCond .ne 8, 3) := by decide +kernel
theorem dJ6_numberOfLeadingZeros_0f7a4_8 : decode cJ6_numberOfLeadingZeros_0f7a4 8 = .ok (.bipush 32, 2) := by decide +kernel
theorem dJ6_numberOfLeadingZeros_0f7a4_10 : decode cJ6_numberOfLeadingZeros_0f7a4 10 = .ok (.goto 4, 3) := by decide +kernel
theorem dJ6_numberOfLeadingZeros_0f7a4_13 : decode cJ6_numberOfLeadingZeros_0f7a4 13 = .ok (.iconst 0, 1) := by decide +kernel
theorem dJ6_numberOfLeadingZeros_0f7a4_14 : decode cJ6_numberOfLeadingZeros_0f7a4 14 = .ok (.ireturn, 1) := by decide +kernel
theorem dJ6_numberOfLeadingZeros_0f7a4_15 : decode cJ6_numberOfLeadingZeros_0f7a4 15 = .ok (.bipush 31, 2) := by decide +kernel
theorem dJ6_numberOfLeadingZeros_0f7a4_17 : decode cJ6_numberOfLeadingZeros_0f7a4 17 = .ok (.istore_n 1, 1) := by decide +kernel
theorem dJ6_numberOfLeadingZeros_0f7a4_18 : decode cJ6_numberOfLeadingZeros_0f7a4 18 = .ok (.iload_n 0, 1) := by decide +kernel
theorem dJ6_numberOfLeadingZeros_0f7a4_19 : decode cJ6_numberOfLeadingZeros_0f7a4 19 = .ok (.ldc_w 264, 3) := by decide +kernel
theorem dJ6_numberOfLeadingZeros_0f7a4_22 : decode cJ6_numberOfLeadingZeros_0f7a4 22 = .ok (.if_icmp .lt 11, 3) := by decide +kernel
theorem dJ6_numberOfLeadingZeros_0f7a4_25 : decode cJ6_numberOfLeadingZeros_0f7a4 25 = .ok (.iinc 1 (-16), 3) := by decide +kernel
theorem dJ6_numberOfLeadingZeros_0f7a4_28 : decode cJ6_numberOfLeadingZeros_0f7a4 28 = .ok (.iload_n 0, 1) := by decide +kernel
theorem dJ6_numberOfLeadingZeros_0f7a4_29 : decode cJ6_numberOfLeadingZeros_0f7a4 29 = .ok (.bipush 16, 2) := by decide +kernel
theorem dJ6_numberOfLeadingZeros_0f7a4_31 : decode cJ6_numberOfLeadingZeros_0f7a4 31 = .ok (.iushr, 1) := by decide +kernel
theorem dJ6_numberOfLeadingZeros_0f7a4_32 : decode cJ6_numberOfLeadingZeros_0f7a4 32 = .ok (.istore_n 0, 1) := by decide +kernel
theorem dJ6_numberOfLeadingZeros_0f7a4_33 : decode cJ6_numberOfLeadingZeros_0f7a4 33 = .ok (.iload_n 0, 1) := by decide +kernel
theorem dJ6_numberOfLeadingZeros_0f7a4_34 : decode cJ6_numberOfLeadingZeros_0f7a4 34 = .ok (.sipush 256, 3) := by decide +kernel
theorem dJ6_numberOfLeadingZeros_0f7a4_37 : decode cJ6_numberOfLeadingZeros_0f7a4 37 = .ok (.if_icmp .lt 11, 3) := by decide +kernel
theorem dJ6_numberOfLeadingZeros_0f7a4_40 : decode cJ6_numberOfLeadingZeros_0f7a4 40 = .ok (.iinc 1 (-8), 3) := by decide +kernel
theorem dJ6_numberOfLeadingZeros_0f7a4_43 : decode cJ6_numberOfLeadingZeros_0f7a4 43 = .ok (.iload_n 0, 1) := by decide +kernel
theorem dJ6_numberOfLeadingZeros_0f7a4_44 : decode cJ6_numberOfLeadingZeros_0f7a4 44 = .ok (.bipush 8, 2) := by decide +kernel
theorem dJ6_numberOfLeadingZeros_0f7a4_46 : decode cJ6_numberOfLeadingZeros_0f7a4 46 = .ok (.iushr, 1) := by decide +kernel
theorem dJ6_numberOfLeadingZeros_0f7a4_47 : decode cJ6_numberOfLeadingZeros_0f7a4 47 = .ok (.istore_n 0, 1) := by decide +kernel
theorem dJ6_numberOfLeadingZeros_0f7a4_48 : decode cJ6_numberOfLeadingZeros_0f7a4 48 = .ok (.iload_n 0, 1) := by decide +kernel
theorem dJ6_numberOfLeadingZeros_0f7a4_49 : decode cJ6_numberOfLeadingZeros_0f7a4 49 = .ok (.bipush 16, 2) := by decide +kernel
theorem dJ6_numberOfLeadingZeros_0f7a4_51 : decode cJ6_numberOfLeadingZeros_0f7a4 51 = .ok (.if_icmp .lt 10, 3) := by decide +kernel
theorem dJ6_numberOfLeadingZeros_0f7a4_54 : decode cJ6_numberOfLeadingZeros_0f7a4 54 = .ok (.iinc 1 (-4), 3) := by decide +kernel
theorem dJ6_numberOfLeadingZeros_0f7a4_57 : decode cJ6_numberOfLeadingZeros_0f7a4 57 = .ok (.iload_n 0, 1) := by decide +kernel
theorem dJ6_numberOfLeadingZeros_0f7a4_58 : decode cJ6_numberOfLeadingZeros_0f7a4 58 = .ok (.iconst 4, 1) := by decide +kernel
theorem dJ6_numberOfLeadingZeros_0f7a4_59 : decode cJ6_numberOfLeadingZeros_0f7a4 59 = .ok (.iushr, 1) := by decide +kernel
theorem dJ6_numberOfLeadingZeros_0f7a4_60 : decode cJ6_numberOfLeadingZeros_0f7a4 60 = .ok (.istore_n 0, 1) := by decide +kernel
theorem dJ6_numberOfLeadingZeros_0f7a4_61 : decode cJ6_numberOfLeadingZeros_0f7a4 61 = .ok (.iload_n 0, 1) := by decide +kernel
theorem dJ6_numberOfLeadingZeros_0f7a4_62 : decode cJ6_numberOfLeadingZeros_0f7a4 62 = .ok (.iconst 4, 1) := by decide +kernel
theorem dJ6_numberOfLeadingZeros_0f7a4_63 : decode cJ6_numberOfLeadingZeros_0f7a4 63 = .ok (.if_icmp .lt 10, 3) := by decide +kernel
theorem dJ6_numberOfLeadingZeros_0f7a4_66 : decode cJ6_numberOfLeadingZeros_0f7a4 66 = .ok (.iinc 1 (-2), 3) := by decide +kernel
theorem dJ6_numberOfLeadingZeros_0f7a4_69 : decode cJ6_numberOfLeadingZeros_0f7a4 69 = .ok (.iload_n 0, 1) := by decide +kernel
theorem dJ6_numberOfLeadingZeros_0f7a4_70 : decode cJ6_numberOfLeadingZeros_0f7a4 70 = .ok (.iconst 2, 1) := by decide +kernel
theorem dJ6_numberOfLeadingZeros_0f7a4_71 : decode cJ6_numberOfLeadingZeros_0f7a4 71 = .ok (.iushr, 1) := by decide +kernel
theorem dJ6_numberOfLeadingZeros_0f7a4_72 : decode cJ6_numberOfLeadingZeros_0f7a4 72 = .ok (.istore_n 0, 1) := by decide +kernel
theorem dJ6_numberOfLeadingZeros_0f7a4_73 : decode cJ6_numberOfLeadingZeros_0f7a4 73 = .ok (.iload_n 1, 1) := by decide +kernel
theorem dJ6_numberOfLeadingZeros_0f7a4_74 : decode cJ6_numberOfLeadingZeros_0f7a4 74 = .ok (.iload_n 0, 1) := by decide +kernel
theorem dJ6_numberOfLeadingZeros_0f7a4_75 : decode cJ6_numberOfLeadingZeros_0f7a4 75 = .ok (.iconst 1, 1) := by decide +kernel
theorem dJ6_numberOfLeadingZeros_0f7a4_76 : decode cJ6_numberOfLeadingZeros_0f7a4 76 = .ok (.iushr, 1) := by decide +kernel
theorem dJ6_numberOfLeadingZeros_0f7a4_77 : decode cJ6_numberOfLeadingZeros_0f7a4 77 = .ok (.isub, 1) := by decide +kernel
theorem dJ6_numberOfLeadingZeros_0f7a4_78 : decode cJ6_numberOfLeadingZeros_0f7a4 78 = .ok (.ireturn, 1) := by decide +kernel
theorem dJ6_numberOfTrailingZeros_0f7a4_0 : decode cJ6_numberOfTrailingZeros_0f7a4 0 = .ok (.iload_n 0, 1) := by decide +kernel
theorem dJ6_numberOfTrailingZeros_0f7a4_1 : decode cJ6_numberOfTrailingZeros_0f7a4 1 = .ok (.iconst (-1), 1) := by decide +kernel
theorem dJ6_numberOfTrailingZeros_0f7a4_2 : decode cJ6_numberOfTrailingZeros_0f7a4 2 = .ok (.ixor, 1) := by decide +kernel
theorem dJ6_numberOfTrailingZeros_0f7a4_3 : decode cJ6_numberOfTrailingZeros_0f7a4 3 = .ok (.iload_n 0, 1) := by decide +kernel
theorem dJ6_numberOfTrailingZeros_0f7a4_4 : decode cJ6_numberOfTrailingZeros_0f7a4 4 = .ok (.iconst 1, 1) := by decide +kernel
theorem dJ6_numberOfTrailingZeros_0f7a4_5 : decode cJ6_numberOfTrailingZeros_0f7a4 5 = .ok (.isub, 1) := by decide +kernel
theorem dJ6_numberOfTrailingZeros_0f7a4_6 : decode cJ6_numberOfTrailingZeros_0f7a4 6 = .ok (.iand, 1) := by decide +kernel
theorem dJ6_numberOfTrailingZeros_0f7a4_7 : decode cJ6_numberOfTrailingZeros_0f7a4 7 = .ok (.istore_n 0, 1) := by decide +kernel
theorem dJ6_numberOfTrailingZeros_0f7a4_8 : decode cJ6_numberOfTrailingZeros_0f7a4 8 = .ok (.iload_n 0, 1) := by decide +kernel
theorem dJ6_numberOfTrailingZeros_0f7a4_9 : decode cJ6_numberOfTrailingZeros_0f7a4 9 = .ok (.ifCond .gt 8, 3) := by decide +kernel
theorem dJ6_numberOfTrailingZeros_0f7a4_12 : decode cJ6_numberOfTrailingZeros_0f7a4 12 = .ok (.iload_n 0, 1) := by decide +kernel
theorem dJ6_numberOfTrailingZeros_0f7a4_13 : decode cJ6_numberOfTrailingZeros_0f7a4 13 = .ok (.bipush 32, 2) := by decide +kernel
theorem dJ6_numberOfTrailingZeros_0f7a4_15 : decode cJ6_numberOfTrailingZeros_0f7a4 15 = .ok (.iand, 1) := by decide +kernel
theorem dJ6_numberOfTrailingZeros_0f7a4_16 : decode cJ6_numberOfTrailingZeros_0f7a4 16 = .ok (.ireturn, 1) := by decide +kernel
theorem dJ6_numberOfTrailingZeros_0f7a4_17 : decode cJ6_numberOfTrailingZeros_0f7a4 17 = .ok (.iconst 1, 1) := by decide +kernel
theorem dJ6_numberOfTrailingZeros_0f7a4_18 : decode cJ6_numberOfTrailingZeros_0f7a4 18 = .ok (.istore_n 1, 1) := by decide +kernel
theorem dJ6_numberOfTrailingZeros_0f7a4_19 : decode cJ6_numberOfTrailingZeros_0f7a4 19 = .ok (.iload_n 0, 1) := by decide +kernel
theorem dJ6_numberOfTrailingZeros_0f7a4_20 : decode cJ6_numberOfTrailingZeros_0f7a4 20 = .ok (.ldc_w 264, 3) := by decide +kernel
theorem dJ6_numberOfTrailingZeros_0f7a4_23 : decode cJ6_numberOfTrailingZeros_0f7a4 23 = .ok (.if_icmp .le 11, 3) := by decide +kernel
theorem dJ6_numberOfTrailingZeros_0f7a4_26 : decode cJ6_numberOfTrailingZeros_0f7a4 26 = .ok (.iinc 1 16, 3) := by decide +kernel
theorem dJ6_numberOfTrailingZeros_0f7a4_29 : decode cJ6_numberOfTrailingZeros_0f7a4 29 = .ok (.iload_n 0, 1) := by decide +kernel
theorem dJ6_numberOfTrailingZeros_0f7a4_30 : decode cJ6_numberOfTrailingZeros_0f7a4 30 = .ok (.bipush 16, 2) := by decide +kernel
theorem dJ6_numberOfTrailingZeros_0f7a4_32 : decode cJ6_numberOfTrailingZeros_0f7a4 32 = .ok (.iushr, 1) := by decide +kernel
theorem dJ6_numberOfTrailingZeros_0f7a4_33 : decode cJ6_numberOfTrailingZeros_0f7a4 33 = .ok (.istore_n 0, 1) := by decide +kernel
theorem dJ6_numberOfTrailingZeros_0f7a4_34 : decode cJ6_numberOfTrailingZeros_0f7a4 34 = .ok (.iload_n 0, 1) := by decide +kernel
theorem dJ6_numberOfTrailingZeros_0f7a4_35 : decode cJ6_numberOfTrailingZeros_0f7a4 35 = .ok (.sipush 256, 3) := by decide +kernel
theorem dJ6_numberOfTrailingZeros_0f7a4_38 : decode cJ6_numberOfTrailingZeros_0f7a4 38 = .ok (.if_icmp .le 11, 3) := by decide +kernel
theorem dJ6_numberOfTrailingZeros_0f7a4_41 : decode cJ6_numberOfTrailingZeros_0f7a4 41 = .ok (.iinc 1 8, 3) := by decide +kernel
theorem dJ6_numberOfTrailingZeros_0f7a4_44 : decode cJ6_numberOfTrailingZeros_0f7a4 44 = .ok (.iload_n 0, 1) := by decide +kernel
theorem dJ6_numberOfTrailingZeros_0f7a4_45 : decode cJ6_numberOfTrailingZeros_0f7a4 45 = .ok (.bipush 8, 2) := by decide +kernel
theorem dJ6_numberOfTrailingZeros_0f7a4_47 : decode cJ6_numberOfTrailingZeros_0f7a4 47 = .ok (.iushr, 1) := by decide +kernel
theorem dJ6_numberOfTrailingZeros_0f7a4_48 : decode cJ6_numberOfTrailingZeros_0f7a4 48 = .ok (.istore_n 0, 1) := by decide +kernel
theorem dJ6_numberOfTrailingZeros_0f7a4_49 : decode cJ6_numberOfTrailingZeros_0f7a4 49 = .ok (.iload_n 0, 1) := by decide +kernel
theorem dJ6_numberOfTrailingZeros_0f7a4_50 : decode cJ6_numberOfTrailingZeros_0f7a4 50 = .ok (.bipush 16, 2) := by decide +kernel
theorem dJ6_numberOfTrailingZeros_0f7a4_52 : decode cJ6_numberOfTrailingZeros_0f7a4 52 = .ok (.if_icmp .le 10, 3) := by decide +kernel
theorem dJ6_numberOfTrailingZeros_0f7a4_55 : decode cJ6_numberOfTrailingZeros_0f7a4 55 = .ok (.iinc 1 4, 3) := by decide +kernel
theorem dJ6_numberOfTrailingZeros_0f7a4_58 : decode cJ6_numberOfTrailingZeros_0f7a4 58 = .ok (.iload_n 0, 1) := by decide +kernel
theorem dJ6_numberOfTrailingZeros_0f7a4_59 : decode cJ6_numberOfTrailingZeros_0f7a4 59 = .ok (.iconst 4, 1) := by decide +kernel
theorem dJ6_numberOfTrailingZeros_0f7a4_60 : decode cJ6_numberOfTrailingZeros_0f7a4 60 = .ok (.iushr, 1) := by decide +kernel
theorem dJ6_numberOfTrailingZeros_0f7a4_61 : decode cJ6_numberOfTrailingZeros_0f7a4 61 = .ok (.istore_n 0, 1) := by decide +kernel
theorem dJ6_numberOfTrailingZeros_0f7a4_62 : decode cJ6_numberOfTrailingZeros_0f7a4 62 = .ok (.iload_n 0, 1) := by decide +kernel
theorem dJ6_numberOfTrailingZeros_0f7a4_63 : decode cJ6_numberOfTrailingZeros_0f7a4 63 = .ok (.iconst 4, 1) := by decide +kernel
theorem dJ6_numberOfTrailingZeros_0f7a4_64 : decode cJ6_numberOfTrailingZeros_0f7a4 64 = .ok (.if_icmp .le 10, 3) := by decide +kernel
theorem dJ6_numberOfTrailingZeros_0f7a4_67 : decode cJ6_numberOfTrailingZeros_0f7a4 67 = .ok (.iinc 1 2, 3) := by decide +kernel
theorem dJ6_numberOfTrailingZeros_0f7a4_70 : decode cJ6_numberOfTrailingZeros_0f7a4 70 = .ok (.iload_n 0, 1) := by decide +kernel
theorem dJ6_numberOfTrailingZeros_0f7a4_71 : decode cJ6_numberOfTrailingZeros_0f7a4 71 = .ok (.iconst 2, 1) := by decide +kernel
theorem dJ6_numberOfTrailingZeros_0f7a4_72 : decode cJ6_numberOfTrailingZeros_0f7a4 72 = .ok (.iushr, 1) := by decide +kernel
theorem dJ6_numberOfTrailingZeros_0f7a4_73 : decode cJ6_numberOfTrailingZeros_0f7a4 73 = .ok (.istore_n 0, 1) := by decide +kernel
theorem dJ6_numberOfTrailingZeros_0f7a4_74 : decode cJ6_numberOfTrailingZeros_0f7a4 74 = .ok (.iload_n 1, 1) := by decide +kernel
theorem dJ6_numberOfTrailingZeros_0f7a4_75 : decode cJ6_numberOfTrailingZeros_0f7a4 75 = .ok (.iload_n 0, 1) := by decide +kernel
theorem dJ6_numberOfTrailingZeros_0f7a4_76 : decode cJ6_numberOfTrailingZeros_0f7a4 76 = .ok (.iconst 1, 1) := by decide +kernel
theorem dJ6_numberOfTrailingZeros_0f7a4_77 : decode cJ6_numberOfTrailingZeros_0f7a4 77 = .ok (.iushr, 1) := by decide +kernel
theorem dJ6_numberOfTrailingZeros_0f7a4_78 : decode cJ6_numberOfTrailingZeros_0f7a4 78 = .ok (.iadd, 1) := by decide +kernel
theorem dJ6_numberOfTrailingZeros_0f7a4_79 : decode cJ6_numberOfTrailingZeros_0f7a4 79 = .ok (.ireturn, 1) := by decide +kernel
theorem dJ9_floorDiv_f86c9_0 : decode cJ9_floorDiv_f86c9 0 = .ok (.lload_n 0, 1) := by decide +kernel
theorem dJ9_floorDiv_f86c9_1 : decode cJ9_floorDiv_f86c9 1 = .ok (.lload_n 2, 1) := by decide +kernel
theorem dJ9_floorDiv_f86c9_2 : decode cJ9_floorDiv_f86c9 2 = .ok (.ldiv, 1) := by decide +kernel
theorem dJ9_floorDiv_f86c9_3 : decode cJ9_floorDiv_f86c9 3 = .ok (.lstore 4, 2) := by decide +kernel
theorem dJ9_floorDiv_f86c9_5 : decode cJ9_floorDiv_f86c9 5 = .ok (.lload_n 0, 1) := by decide +kernel
theorem dJ9_floorDiv_f86c9_6 : decode cJ9_floorDiv_f86c9 6 = .ok (.lload_n 2, 1) := by decide +kernel
theorem dJ9_floorDiv_f86c9_7 : decode cJ9_floorDiv_f86c9 7 = .ok (.lxor, 1) := by decide +kernel
theorem dJ9_floorDiv_f86c9_8 : decode cJ9_floorDiv_f86c9 8 = .ok (.lconst 0, 1) := by decide +kernel
theorem dJ9_floorDiv_f86c9_9 : decode cJ9_floorDiv_f86c9 9 = .ok (.lcmp, 1) := by decide +kernel
theorem dJ9_floorDiv_f86c9_10 : decode cJ9_floorDiv_f86c9 10 = .ok (.ifCond .ge 17, 3) := by decide +kernel
theorem dJ9_floorDiv_f86c9_13 : decode cJ9_floorDiv_f86c9 13 = .ok (.lload 4, 2) := by decide +kernel
theorem dJ9_floorDiv_f86c9_15 : decode cJ9_floorDiv_f86c9 15 = .ok (.lload_n 2, 1) := by decide +kernel
theorem dJ9_floorDiv_f86c9_16 : decode cJ9_floorDiv_f86c9 16 = .ok (.lmul, 1) := by decide +kernel
theorem dJ9_floorDiv_f86c9_17 : decode cJ9_floorDiv_f86c9 17 = .ok (.lload_n 0, 1) := by decide +kernel
theorem dJ9_floorDiv_f86c9_18 : decode cJ9_floorDiv_f86c9 18 = .ok (.lcmp, 1) := by decide +kernel
theorem dJ9_floorDiv_f86c9_19 : decode cJ9_floorDiv_f86c9 19 = .ok (.ifCond .eq 8, 3) := by decide +kernel
theorem dJ9_floorDiv_f86c9_22 : decode cJ9_floorDiv_f86c9 22 = .ok (.lload 4, 2) := by decide +kernel
theorem dJ9_floorDiv_f86c9_24 : decode cJ9_floorDiv_f86c9 24 = .ok (.lconst 1, 1) := by decide +kernel
theorem dJ9_floorDiv_f86c9_25 : decode cJ9_floorDiv_f86c9 25 = .ok (.lsub, 1) := by decide +kernel
theorem dJ9_floorDiv_f86c9_26 : decode cJ9_floorDiv_f86c9 26 = .ok (.lreturn, 1) := by decide +kernel
theorem dJ9_floorDiv_f86c9_27 : decode cJ9_floorDiv_f86c9 27 = .ok (.lload 4, 2) := by decide +kernel
theorem dJ9_floorDiv_f86c9_29 : decode cJ9_floorDiv_f86c9 29 = .ok (.lreturn, 1) := by decide +kernel
set_option maxHeartbeats 4000000 in
set_option maxRecDepth 100000 in
theorem J_nlz (l : Launch) (κ : Kt) (σ0 : Gh) (i : Int32) : TC l yJ6_numberOfLeadingZeros_0f7a4 cJ6_numberOfLeadingZeros_0f7a4 2 (some .int) 0 0 [.int i] κ σ0 (tqi κ fE σ0 (fun (r : Int32) (τ : Gh) => True)) := by
  refine TC.ofF fE (by decide +kernel) (Nat.le_of_ble_eq_true rfl) ?_
  intro p e s m below meth c ls hcs hK hX hT hl
  obtain ⟨hx, hb, hr, hml, hown, hg, hlocks, hin⟩ := hcs
  have hown : s.vm.findClass RJ6 = some m.cls := hown
  have hl : lv_has ls 2 [(0, .int i)] := hl
  have hT0 := hT
  have n0 : (0 : Int32).toInt = 0 := by decide
  have n1 : (1 : Int32).toInt = 1 := by decide
  have n2 : (2 : Int32).toInt = 2 := by decide
  have n4 : (4 : Int32).toInt = 4 := by decide
  have n8 : (8 : Int32).toInt = 8 := by decide
  have n16 : (16 : Int32).toInt = 16 := by decide
  have n31 : (31 : Int32).toInt = 31 := by decide
  have n32 : (32 : Int32).toInt = 32 := by decide
  have n256 : (256 : Int32).toInt = 256 := by decide
  have n65536 : (65536 : Int32).toInt = 65536 := by decide
  have i_lo := Int32.le_toInt i
  have i_hi := Int32.toInt_lt i
  generalize hQ9 : tQ _ _ _ _ _ _ = Q9
  refine lv_iload_n hx hb dJ6_numberOfLeadingZeros_0f7a4_0 rfl (lv_at hl 0 rfl) ?_
  refine lv_if_gt (tgt := 15) hx hb dJ6_numberOfLeadingZeros_0f7a4_1 (by decide) (fun c9 => ?_) (fun c9 => ?_)
  · have c1 := gi_lt c9
    refine lv_bipush (v := 31) hx hb dJ6_numberOfLeadingZeros_0f7a4_15 (by decide) ?_
    refine lv_istore_n (lv' := [(1, .int 31), (0, .int i)]) hx hb dJ6_numberOfLeadingZeros_0f7a4_17 rfl hl (by decide) rfl (fun ls hl => ?_)
    refine lv_iload_n hx hb dJ6_numberOfLeadingZeros_0f7a4_18 rfl (lv_at hl 1 rfl) ?_
    refine lv_ldcw hx hb hown (hg _ k482) dJ6_numberOfLeadingZeros_0f7a4_19 ?_
    refine lv_icmp_lt (tgt := 33) hx hb dJ6_numberOfLeadingZeros_0f7a4_22 (by decide) (fun c9 => ?_) (fun c9 => ?_)
    · have c2 := gi_lt c9
      refine lv_iload_n hx hb dJ6_numberOfLeadingZeros_0f7a4_33 rfl (lv_at hl 1 rfl) ?_
      refine lv_sipush (v := 256) hx hb dJ6_numberOfLeadingZeros_0f7a4_34 (by decide) ?_
      refine lv_icmp_lt (tgt := 48) hx hb dJ6_numberOfLeadingZeros_0f7a4_37 (by decide) (fun c9 => ?_) (fun c9 => ?_)
      · have c3 := gi_lt c9
        refine lv_iload_n hx hb dJ6_numberOfLeadingZeros_0f7a4_48 rfl (lv_at hl 1 rfl) ?_
        refine lv_bipush (v := 16) hx hb dJ6_numberOfLeadingZeros_0f7a4_49 (by decide) ?_
        refine lv_icmp_lt (tgt := 61) hx hb dJ6_numberOfLeadingZeros_0f7a4_51 (by decide) (fun c9 => ?_) (fun c9 => ?_)
        · have c4 := gi_lt c9
          refine lv_iload_n hx hb dJ6_numberOfLeadingZeros_0f7a4_61 rfl (lv_at hl 1 rfl) ?_
          refine lv_iconst (v := 4) hx hb dJ6_numberOfLeadingZeros_0f7a4_62 (by decide) ?_
          refine lv_icmp_lt (tgt := 73) hx hb dJ6_numberOfLeadingZeros_0f7a4_63 (by decide) (fun c9 => ?_) (fun c9 => ?_)
          · have c5 := gi_lt c9
            refine lv_iload_n hx hb dJ6_numberOfLeadingZeros_0f7a4_73 rfl (lv_at hl 0 rfl) ?_
            refine lv_iload_n hx hb dJ6_numberOfLeadingZeros_0f7a4_74 rfl (lv_at hl 1 rfl) ?_
            refine lv_iconst (v := 1) hx hb dJ6_numberOfLeadingZeros_0f7a4_75 (by decide) ?_
            refine lv_iushr hx hb dJ6_numberOfLeadingZeros_0f7a4_76 rfl ?_
            refine lv_topi (fun t1 ht1 => ?_)
            refine lv_isub hx hb dJ6_numberOfLeadingZeros_0f7a4_77 ?_
            first | refine g_sub (by omega) (by omega) (fun t2 ht2 => ?_) | refine lv_topi (fun t2 ht2 => ?_)
            subst hQ9
            exact t_i hx hb hr hlocks hT trivial dJ6_numberOfLeadingZeros_0f7a4_78
          · have c6 := gi_nlt c9
            obtain ⟨t3, qt3⟩ : ∃ zz9 : Int32, 31 + Int32.ofInt (-2) = zz9 := ⟨_, rfl⟩
            refine lv_iinc (v := t3) (lv' := [(1, .int t3), (0, .int i)]) hx hb dJ6_numberOfLeadingZeros_0f7a4_66 hl (k := 0) rfl qt3 (by decide) rfl (fun ls hl => ?_)
            have ht3 : t3.toInt = (31 : Int32).toInt + (-2) := by rw [← qt3]; exact v_addi rfl (show (Int32.ofInt (-2)).toInt = (-2) from by decide) (by omega) (by omega)
            refine lv_iload_n hx hb dJ6_numberOfLeadingZeros_0f7a4_69 rfl (lv_at hl 1 rfl) ?_
            refine lv_iconst (v := 2) hx hb dJ6_numberOfLeadingZeros_0f7a4_70 (by decide) ?_
            refine lv_iushr hx hb dJ6_numberOfLeadingZeros_0f7a4_71 rfl ?_
            refine lv_topi (fun t4 ht4 => ?_)
            refine lv_istore_n (lv' := [(0, .int t4), (1, .int t3)]) hx hb dJ6_numberOfLeadingZeros_0f7a4_72 rfl hl (by decide) rfl (fun ls hl => ?_)
            refine lv_iload_n hx hb dJ6_numberOfLeadingZeros_0f7a4_73 rfl (lv_at hl 1 rfl) ?_
            refine lv_iload_n hx hb dJ6_numberOfLeadingZeros_0f7a4_74 rfl (lv_at hl 0 rfl) ?_
            refine lv_iconst (v := 1) hx hb dJ6_numberOfLeadingZeros_0f7a4_75 (by decide) ?_
            refine lv_iushr hx hb dJ6_numberOfLeadingZeros_0f7a4_76 rfl ?_
            refine lv_topi (fun t5 ht5 => ?_)
            refine lv_isub hx hb dJ6_numberOfLeadingZeros_0f7a4_77 ?_
            first | refine g_sub (by omega) (by omega) (fun t6 ht6 => ?_) | refine lv_topi (fun t6 ht6 => ?_)
            subst hQ9
            exact t_i hx hb hr hlocks hT trivial dJ6_numberOfLeadingZeros_0f7a4_78
        · have c7 := gi_nlt c9
          obtain ⟨t7, qt7⟩ : ∃ zz9 : Int32, 31 + Int32.ofInt (-4) = zz9 := ⟨_, rfl⟩
          refine lv_iinc (v := t7) (lv' := [(1, .int t7), (0, .int i)]) hx hb dJ6_numberOfLeadingZeros_0f7a4_54 hl (k := 0) rfl qt7 (by decide) rfl (fun ls hl => ?_)
          have ht7 : t7.toInt = (31 : Int32).toInt + (-4) := by rw [← qt7]; exact v_addi rfl (show (Int32.ofInt (-4)).toInt = (-4) from by decide) (by omega) (by omega)
          refine lv_iload_n hx hb dJ6_numberOfLeadingZeros_0f7a4_57 rfl (lv_at hl 1 rfl) ?_
          refine lv_iconst (v := 4) hx hb dJ6_numberOfLeadingZeros_0f7a4_58 (by decide) ?_
          refine lv_iushr hx hb dJ6_numberOfLeadingZeros_0f7a4_59 rfl ?_
          refine lv_topi (fun t8 ht8 => ?_)
          refine lv_istore_n (lv' := [(0, .int t8), (1, .int t7)]) hx hb dJ6_numberOfLeadingZeros_0f7a4_60 rfl hl (by decide) rfl (fun ls hl => ?_)
          refine lv_iload_n hx hb dJ6_numberOfLeadingZeros_0f7a4_61 rfl (lv_at hl 0 rfl) ?_
          refine lv_iconst (v := 4) hx hb dJ6_numberOfLeadingZeros_0f7a4_62 (by decide) ?_
          refine lv_icmp_lt (tgt := 73) hx hb dJ6_numberOfLeadingZeros_0f7a4_63 (by decide) (fun c9 => ?_) (fun c9 => ?_)
          · have c8 := gi_lt c9
            refine lv_iload_n hx hb dJ6_numberOfLeadingZeros_0f7a4_73 rfl (lv_at hl 1 rfl) ?_
            refine lv_iload_n hx hb dJ6_numberOfLeadingZeros_0f7a4_74 rfl (lv_at hl 0 rfl) ?_
            refine lv_iconst (v := 1) hx hb dJ6_numberOfLeadingZeros_0f7a4_75 (by decide) ?_
            refine lv_iushr hx hb dJ6_numberOfLeadingZeros_0f7a4_76 rfl ?_
            refine lv_topi (fun t9 ht9 => ?_)
            refine lv_isub hx hb dJ6_numberOfLeadingZeros_0f7a4_77 ?_
            first | refine g_sub (by omega) (by omega) (fun t10 ht10 => ?_) | refine lv_topi (fun t10 ht10 => ?_)
            subst hQ9
            exact t_i hx hb hr hlocks hT trivial dJ6_numberOfLeadingZeros_0f7a4_78
          · have c9 := gi_nlt c9
            obtain ⟨t11, qt11⟩ : ∃ zz9 : Int32, t7 + Int32.ofInt (-2) = zz9 := ⟨_, rfl⟩
            refine lv_iinc (v := t11) (lv' := [(1, .int t11), (0, .int t8)]) hx hb dJ6_numberOfLeadingZeros_0f7a4_66 hl (k := 1) rfl qt11 (by decide) rfl (fun ls hl => ?_)
            have ht11 : t11.toInt = t7.toInt + (-2) := by rw [← qt11]; exact v_addi rfl (show (Int32.ofInt (-2)).toInt = (-2) from by decide) (by omega) (by omega)
            refine lv_iload_n hx hb dJ6_numberOfLeadingZeros_0f7a4_69 rfl (lv_at hl 1 rfl) ?_
            refine lv_iconst (v := 2) hx hb dJ6_numberOfLeadingZeros_0f7a4_70 (by decide) ?_
            refine lv_iushr hx hb dJ6_numberOfLeadingZeros_0f7a4_71 rfl ?_
            refine lv_topi (fun t12 ht12 => ?_)
            refine lv_istore_n (lv' := [(0, .int t12), (1, .int t11)]) hx hb dJ6_numberOfLeadingZeros_0f7a4_72 rfl hl (by decide) rfl (fun ls hl => ?_)
            refine lv_iload_n hx hb dJ6_numberOfLeadingZeros_0f7a4_73 rfl (lv_at hl 1 rfl) ?_
            refine lv_iload_n hx hb dJ6_numberOfLeadingZeros_0f7a4_74 rfl (lv_at hl 0 rfl) ?_
            refine lv_iconst (v := 1) hx hb dJ6_numberOfLeadingZeros_0f7a4_75 (by decide) ?_
            refine lv_iushr hx hb dJ6_numberOfLeadingZeros_0f7a4_76 rfl ?_
            refine lv_topi (fun t13 ht13 => ?_)
            refine lv_isub hx hb dJ6_numberOfLeadingZeros_0f7a4_77 ?_
            first | refine g_sub (by omega) (by omega) (fun t14 ht14 => ?_) | refine lv_topi (fun t14 ht14 => ?_)
            subst hQ9
            exact t_i hx hb hr hlocks hT trivial dJ6_numberOfLeadingZeros_0f7a4_78
      · have c10 := gi_nlt c9
        obtain ⟨t15, qt15⟩ : ∃ zz9 : Int32, 31 + Int32.ofInt (-8) = zz9 := ⟨_, rfl⟩
        refine lv_iinc (v := t15) (lv' := [(1, .int t15), (0, .int i)]) hx hb dJ6_numberOfLeadingZeros_0f7a4_40 hl (k := 0) rfl qt15 (by decide) rfl (fun ls hl => ?_)
        have ht15 : t15.toInt = (31 : Int32).toInt + (-8) := by rw [← qt15]; exact v_addi rfl (show (Int32.ofInt (-8)).toInt = (-8) from by decide) (by omega) (by omega)
        refine lv_iload_n hx hb dJ6_numberOfLeadingZeros_0f7a4_43 rfl (lv_at hl 1 rfl) ?_
        refine lv_bipush (v := 8) hx hb dJ6_numberOfLeadingZeros_0f7a4_44 (by decide) ?_
        refine lv_iushr hx hb dJ6_numberOfLeadingZeros_0f7a4_46 rfl ?_
        refine lv_topi (fun t16 ht16 => ?_)
        refine lv_istore_n (lv' := [(0, .int t16), (1, .int t15)]) hx hb dJ6_numberOfLeadingZeros_0f7a4_47 rfl hl (by decide) rfl (fun ls hl => ?_)
        refine lv_iload_n hx hb dJ6_numberOfLeadingZeros_0f7a4_48 rfl (lv_at hl 0 rfl) ?_
        refine lv_bipush (v := 16) hx hb dJ6_numberOfLeadingZeros_0f7a4_49 (by decide) ?_
        refine lv_icmp_lt (tgt := 61) hx hb dJ6_numberOfLeadingZeros_0f7a4_51 (by decide) (fun c9 => ?_) (fun c9 => ?_)
        · have c11 := gi_lt c9
          refine lv_iload_n hx hb dJ6_numberOfLeadingZeros_0f7a4_61 rfl (lv_at hl 0 rfl) ?_
          refine lv_iconst (v := 4) hx hb dJ6_numberOfLeadingZeros_0f7a4_62 (by decide) ?_
          refine lv_icmp_lt (tgt := 73) hx hb dJ6_numberOfLeadingZeros_0f7a4_63 (by decide) (fun c9 => ?_) (fun c9 => ?_)
          · have c12 := gi_lt c9
            refine lv_iload_n hx hb dJ6_numberOfLeadingZeros_0f7a4_73 rfl (lv_at hl 1 rfl) ?_
            refine lv_iload_n hx hb dJ6_numberOfLeadingZeros_0f7a4_74 rfl (lv_at hl 0 rfl) ?_
            refine lv_iconst (v := 1) hx hb dJ6_numberOfLeadingZeros_0f7a4_75 (by decide) ?_
            refine lv_iushr hx hb dJ6_numberOfLeadingZeros_0f7a4_76 rfl ?_
            refine lv_topi (fun t17 ht17 => ?_)
            refine lv_isub hx hb dJ6_numberOfLeadingZeros_0f7a4_77 ?_
            first | refine g_sub (by omega) (by omega) (fun t18 ht18 => ?_) | refine lv_topi (fun t18 ht18 => ?_)
            subst hQ9
            exact t_i hx hb hr hlocks hT trivial dJ6_numberOfLeadingZeros_0f7a4_78
          · have c13 := gi_nlt c9
            obtain ⟨t19, qt19⟩ : ∃ zz9 : Int32, t15 + Int32.ofInt (-2) = zz9 := ⟨_, rfl⟩
            refine lv_iinc (v := t19) (lv' := [(1, .int t19), (0, .int t16)]) hx hb dJ6_numberOfLeadingZeros_0f7a4_66 hl (k := 1) rfl qt19 (by decide) rfl (fun ls hl => ?_)
            have ht19 : t19.toInt = t15.toInt + (-2) := by rw [← qt19]; exact v_addi rfl (show (Int32.ofInt (-2)).toInt = (-2) from by decide) (by omega) (by omega)
            refine lv_iload_n hx hb dJ6_numberOfLeadingZeros_0f7a4_69 rfl (lv_at hl 1 rfl) ?_
            refine lv_iconst (v := 2) hx hb dJ6_numberOfLeadingZeros_0f7a4_70 (by decide) ?_
            refine lv_iushr hx hb dJ6_numberOfLeadingZeros_0f7a4_71 rfl ?_
            refine lv_topi (fun t20 ht20 => ?_)
            refine lv_istore_n (lv' := [(0, .int t20), (1, .int t19)]) hx hb dJ6_numberOfLeadingZeros_0f7a4_72 rfl hl (by decide) rfl (fun ls hl => ?_)
            refine lv_iload_n hx hb dJ6_numberOfLeadingZeros_0f7a4_73 rfl (lv_at hl 1 rfl) ?_
            refine lv_iload_n hx hb dJ6_numberOfLeadingZeros_0f7a4_74 rfl (lv_at hl 0 rfl) ?_
            refine lv_iconst (v := 1) hx hb dJ6_numberOfLeadingZeros_0f7a4_75 (by decide) ?_
            refine lv_iushr hx hb dJ6_numberOfLeadingZeros_0f7a4_76 rfl ?_
            refine lv_topi (fun t21 ht21 => ?_)
            refine lv_isub hx hb dJ6_numberOfLeadingZeros_0f7a4_77 ?_
            first | refine g_sub (by omega) (by omega) (fun t22 ht22 => ?_) | refine lv_topi (fun t22 ht22 => ?_)
            subst hQ9
            exact t_i hx hb hr hlocks hT trivial dJ6_numberOfLeadingZeros_0f7a4_78
        · have c14 := gi_nlt c9
          obtain ⟨t23, qt23⟩ : ∃ zz9 : Int32, t15 + Int32.ofInt (-4) = zz9 := ⟨_, rfl⟩
          refine lv_iinc (v := t23) (lv' := [(1, .int t23), (0, .int t16)]) hx hb dJ6_numberOfLeadingZeros_0f7a4_54 hl (k := 1) rfl qt23 (by decide) rfl (fun ls hl => ?_)
          have ht23 : t23.toInt = t15.toInt + (-4) := by rw [← qt23]; exact v_addi rfl (show (Int32.ofInt (-4)).toInt = (-4) from by decide) (by omega) (by omega)
          refine lv_iload_n hx hb dJ6_numberOfLeadingZeros_0f7a4_57 rfl (lv_at hl 1 rfl) ?_
          refine lv_iconst (v := 4) hx hb dJ6_numberOfLeadingZeros_0f7a4_58 (by decide) ?_
          refine lv_iushr hx hb dJ6_numberOfLeadingZeros_0f7a4_59 rfl ?_
          refine lv_topi (fun t24 ht24 => ?_)
          refine lv_istore_n (lv' := [(0, .int t24), (1, .int t23)]) hx hb dJ6_numberOfLeadingZeros_0f7a4_60 rfl hl (by decide) rfl (fun ls hl => ?_)
          refine lv_iload_n hx hb dJ6_numberOfLeadingZeros_0f7a4_61 rfl (lv_at hl 0 rfl) ?_
          refine lv_iconst (v := 4) hx hb dJ6_numberOfLeadingZeros_0f7a4_62 (by decide) ?_
          refine lv_icmp_lt (tgt := 73) hx hb dJ6_numberOfLeadingZeros_0f7a4_63 (by decide) (fun c9 => ?_) (fun c9 => ?_)
          · have c15 := gi_lt c9
            refine lv_iload_n hx hb dJ6_numberOfLeadingZeros_0f7a4_73 rfl (lv_at hl 1 rfl) ?_
            refine lv_iload_n hx hb dJ6_numberOfLeadingZeros_0f7a4_74 rfl (lv_at hl 0 rfl) ?_
            refine lv_iconst (v := 1) hx hb dJ6_numberOfLeadingZeros_0f7a4_75 (by decide) ?_
            refine lv_iushr hx hb dJ6_numberOfLeadingZeros_0f7a4_76 rfl ?_
            refine lv_topi (fun t25 ht25 => ?_)
            refine lv_isub hx hb dJ6_numberOfLeadingZeros_0f7a4_77 ?_
            first | refine g_sub (by omega) (by omega) (fun t26 ht26 => ?_) | refine lv_topi (fun t26 ht26 => ?_)
            subst hQ9
            exact t_i hx hb hr hlocks hT trivial dJ6_numberOfLeadingZeros_0f7a4_78
          · have c16 := gi_nlt c9
            obtain ⟨t27, qt27⟩ : ∃ zz9 : Int32, t23 + Int32.ofInt (-2) = zz9 := ⟨_, rfl⟩
            refine lv_iinc (v := t27) (lv' := [(1, .int t27), (0, .int t24)]) hx hb dJ6_numberOfLeadingZeros_0f7a4_66 hl (k := 1) rfl qt27 (by decide) rfl (fun ls hl => ?_)
            have ht27 : t27.toInt = t23.toInt + (-2) := by rw [← qt27]; exact v_addi rfl (show (Int32.ofInt (-2)).toInt = (-2) from by decide) (by omega) (by omega)
            refine lv_iload_n hx hb dJ6_numberOfLeadingZeros_0f7a4_69 rfl (lv_at hl 1 rfl) ?_
            refine lv_iconst (v := 2) hx hb dJ6_numberOfLeadingZeros_0f7a4_70 (by decide) ?_
            refine lv_iushr hx hb dJ6_numberOfLeadingZeros_0f7a4_71 rfl ?_
            refine lv_topi (fun t28 ht28 => ?_)
            refine lv_istore_n (lv' := [(0, .int t28), (1, .int t27)]) hx hb dJ6_numberOfLeadingZeros_0f7a4_72 rfl hl (by decide) rfl (fun ls hl => ?_)
            refine lv_iload_n hx hb dJ6_numberOfLeadingZeros_0f7a4_73 rfl (lv_at hl 1 rfl) ?_
            refine lv_iload_n hx hb dJ6_numberOfLeadingZeros_0f7a4_74 rfl (lv_at hl 0 rfl) ?_
            refine lv_iconst (v := 1) hx hb dJ6_numberOfLeadingZeros_0f7a4_75 (by decide) ?_
            refine lv_iushr hx hb dJ6_numberOfLeadingZeros_0f7a4_76 rfl ?_
            refine lv_topi (fun t29 ht29 => ?_)
            refine lv_isub hx hb dJ6_numberOfLeadingZeros_0f7a4_77 ?_
            first | refine g_sub (by omega) (by omega) (fun t30 ht30 => ?_) | refine lv_topi (fun t30 ht30 => ?_)
            subst hQ9
            exact t_i hx hb hr hlocks hT trivial dJ6_numberOfLeadingZeros_0f7a4_78
    · have c17 := gi_nlt c9
      obtain ⟨t31, qt31⟩ : ∃ zz9 : Int32, 31 + Int32.ofInt (-16) = zz9 := ⟨_, rfl⟩
      refine lv_iinc (v := t31) (lv' := [(1, .int t31), (0, .int i)]) hx hb dJ6_numberOfLeadingZeros_0f7a4_25 hl (k := 0) rfl qt31 (by decide) rfl (fun ls hl => ?_)
      have ht31 : t31.toInt = (31 : Int32).toInt + (-16) := by rw [← qt31]; exact v_addi rfl (show (Int32.ofInt (-16)).toInt = (-16) from by decide) (by omega) (by omega)
      refine lv_iload_n hx hb dJ6_numberOfLeadingZeros_0f7a4_28 rfl (lv_at hl 1 rfl) ?_
      refine lv_bipush (v := 16) hx hb dJ6_numberOfLeadingZeros_0f7a4_29 (by decide) ?_
      refine lv_iushr hx hb dJ6_numberOfLeadingZeros_0f7a4_31 rfl ?_
      refine lv_topi (fun t32 ht32 => ?_)
      refine lv_istore_n (lv' := [(0, .int t32), (1, .int t31)]) hx hb dJ6_numberOfLeadingZeros_0f7a4_32 rfl hl (by decide) rfl (fun ls hl => ?_)
      refine lv_iload_n hx hb dJ6_numberOfLeadingZeros_0f7a4_33 rfl (lv_at hl 0 rfl) ?_
      refine lv_sipush (v := 256) hx hb dJ6_numberOfLeadingZeros_0f7a4_34 (by decide) ?_
      refine lv_icmp_lt (tgt := 48) hx hb dJ6_numberOfLeadingZeros_0f7a4_37 (by decide) (fun c9 => ?_) (fun c9 => ?_)
      · have c18 := gi_lt c9
        refine lv_iload_n hx hb dJ6_numberOfLeadingZeros_0f7a4_48 rfl (lv_at hl 0 rfl) ?_
        refine lv_bipush (v := 16) hx hb dJ6_numberOfLeadingZeros_0f7a4_49 (by decide) ?_
        refine lv_icmp_lt (tgt := 61) hx hb dJ6_numberOfLeadingZeros_0f7a4_51 (by decide) (fun c9 => ?_) (fun c9 => ?_)
        · have c19 := gi_lt c9
          refine lv_iload_n hx hb dJ6_numberOfLeadingZeros_0f7a4_61 rfl (lv_at hl 0 rfl) ?_
          refine lv_iconst (v := 4) hx hb dJ6_numberOfLeadingZeros_0f7a4_62 (by decide) ?_
          refine lv_icmp_lt (tgt := 73) hx hb dJ6_numberOfLeadingZeros_0f7a4_63 (by decide) (fun c9 => ?_) (fun c9 => ?_)
          · have c20 := gi_lt c9
            refine lv_iload_n hx hb dJ6_numberOfLeadingZeros_0f7a4_73 rfl (lv_at hl 1 rfl) ?_
            refine lv_iload_n hx hb dJ6_numberOfLeadingZeros_0f7a4_74 rfl (lv_at hl 0 rfl) ?_
            refine lv_iconst (v := 1) hx hb dJ6_numberOfLeadingZeros_0f7a4_75 (by decide) ?_
            refine lv_iushr hx hb dJ6_numberOfLeadingZeros_0f7a4_76 rfl ?_
            refine lv_topi (fun t33 ht33 => ?_)
            refine lv_isub hx hb dJ6_numberOfLeadingZeros_0f7a4_77 ?_
            first | refine g_sub (by omega) (by omega) (fun t34 ht34 => ?_) | refine lv_topi (fun t34 ht34 => ?_)
            subst hQ9
            exact t_i hx hb hr hlocks hT trivial dJ6_numberOfLeadingZeros_0f7a4_78
          · have c21 := gi_nlt c9
            obtain ⟨t35, qt35⟩ : ∃ zz9 : Int32, t31 + Int32.ofInt (-2) = zz9 := ⟨_, rfl⟩
            refine lv_iinc (v := t35) (lv' := [(1, .int t35), (0, .int t32)]) hx hb dJ6_numberOfLeadingZeros_0f7a4_66 hl (k := 1) rfl qt35 (by decide) rfl (fun ls hl => ?_)
            have ht35 : t35.toInt = t31.toInt + (-2) := by rw [← qt35]; exact v_addi rfl (show (Int32.ofInt (-2)).toInt = (-2) from by decide) (by omega) (by omega)
            refine lv_iload_n hx hb dJ6_numberOfLeadingZeros_0f7a4_69 rfl (lv_at hl 1 rfl) ?_
            refine lv_iconst (v := 2) hx hb dJ6_numberOfLeadingZeros_0f7a4_70 (by decide) ?_
            refine lv_iushr hx hb dJ6_numberOfLeadingZeros_0f7a4_71 rfl ?_
            refine lv_topi (fun t36 ht36 => ?_)
            refine lv_istore_n (lv' := [(0, .int t36), (1, .int t35)]) hx hb dJ6_numberOfLeadingZeros_0f7a4_72 rfl hl (by decide) rfl (fun ls hl => ?_)
            refine lv_iload_n hx hb dJ6_numberOfLeadingZeros_0f7a4_73 rfl (lv_at hl 1 rfl) ?_
            refine lv_iload_n hx hb dJ6_numberOfLeadingZeros_0f7a4_74 rfl (lv_at hl 0 rfl) ?_
            refine lv_iconst (v := 1) hx hb dJ6_numberOfLeadingZeros_0f7a4_75 (by decide) ?_
            refine lv_iushr hx hb dJ6_numberOfLeadingZeros_0f7a4_76 rfl ?_
            refine lv_topi (fun t37 ht37 => ?_)
            refine lv_isub hx hb dJ6_numberOfLeadingZeros_0f7a4_77 ?_
            first | refine g_sub (by omega) (by omega) (fun t38 ht38 => ?_) | refine lv_topi (fun t38 ht38 => ?_)
            subst hQ9
            exact t_i hx hb hr hlocks hT trivial dJ6_numberOfLeadingZeros_0f7a4_78
        · have c22 := gi_nlt c9
          obtain ⟨t39, qt39⟩ : ∃ zz9 : Int32, t31 + Int32.ofInt (-4) = zz9 := ⟨_, rfl⟩
          refine lv_iinc (v := t39) (lv' := [(1, .int t39), (0, .int t32)]) hx hb dJ6_numberOfLeadingZeros_0f7a4_54 hl (k := 1) rfl qt39 (by decide) rfl (fun ls hl => ?_)
          have ht39 : t39.toInt = t31.toInt + (-4) := by rw [← qt39]; exact v_addi rfl (show (Int32.ofInt (-4)).toInt = (-4) from by decide) (by omega) (by omega)
          refine lv_iload_n hx hb dJ6_numberOfLeadingZeros_0f7a4_57 rfl (lv_at hl 1 rfl) ?_
          refine lv_iconst (v := 4) hx hb dJ6_numberOfLeadingZeros_0f7a4_58 (by decide) ?_
          refine lv_iushr hx hb dJ6_numberOfLeadingZeros_0f7a4_59 rfl ?_
          refine lv_topi (fun t40 ht40 => ?_)
          refine lv_istore_n (lv' := [(0, .int t40), (1, .int t39)]) hx hb dJ6_numberOfLeadingZeros_0f7a4_60 rfl hl (by decide) rfl (fun ls hl => ?_)
          refine lv_iload_n hx hb dJ6_numberOfLeadingZeros_0f7a4_61 rfl (lv_at hl 0 rfl) ?_
          refine lv_iconst (v := 4) hx hb dJ6_numberOfLeadingZeros_0f7a4_62 (by decide) ?_
          refine lv_icmp_lt (tgt := 73) hx hb dJ6_numberOfLeadingZeros_0f7a4_63 (by decide) (fun c9 => ?_) (fun c9 => ?_)
          · have c23 := gi_lt c9
            refine lv_iload_n hx hb dJ6_numberOfLeadingZeros_0f7a4_73 rfl (lv_at hl 1 rfl) ?_
            refine lv_iload_n hx hb dJ6_numberOfLeadingZeros_0f7a4_74 rfl (lv_at hl 0 rfl) ?_
            refine lv_iconst (v := 1) hx hb dJ6_numberOfLeadingZeros_0f7a4_75 (by decide) ?_
            refine lv_iushr hx hb dJ6_numberOfLeadingZeros_0f7a4_76 rfl ?_
            refine lv_topi (fun t41 ht41 => ?_)
            refine lv_isub hx hb dJ6_numberOfLeadingZeros_0f7a4_77 ?_
            first | refine g_sub (by omega) (by omega) (fun t42 ht42 => ?_) | refine lv_topi (fun t42 ht42 => ?_)
            subst hQ9
            exact t_i hx hb hr hlocks hT trivial dJ6_numberOfLeadingZeros_0f7a4_78
          · have c24 := gi_nlt c9
            obtain ⟨t43, qt43⟩ : ∃ zz9 : Int32, t39 + Int32.ofInt (-2) = zz9 := ⟨_, rfl⟩
            refine lv_iinc (v := t43) (lv' := [(1, .int t43), (0, .int t40)]) hx hb dJ6_numberOfLeadingZeros_0f7a4_66 hl (k := 1) rfl qt43 (by decide) rfl (fun ls hl => ?_)
            have ht43 : t43.toInt = t39.toInt + (-2) := by rw [← qt43]; exact v_addi rfl (show (Int32.ofInt (-2)).toInt = (-2) from by decide) (by omega) (by omega)
            refine lv_iload_n hx hb dJ6_numberOfLeadingZeros_0f7a4_69 rfl (lv_at hl 1 rfl) ?_
            refine lv_iconst (v := 2) hx hb dJ6_numberOfLeadingZeros_0f7a4_70 (by decide) ?_
            refine lv_iushr hx hb dJ6_numberOfLeadingZeros_0f7a4_71 rfl ?_
            refine lv_topi (fun t44 ht44 => ?_)
            refine lv_istore_n (lv' := [(0, .int t44), (1, .int t43)]) hx hb dJ6_numberOfLeadingZeros_0f7a4_72 rfl hl (by decide) rfl (fun ls hl => ?_)
            refine lv_iload_n hx hb dJ6_numberOfLeadingZeros_0f7a4_73 rfl (lv_at hl 1 rfl) ?_
            refine lv_iload_n hx hb dJ6_numberOfLeadingZeros_0f7a4_74 rfl (lv_at hl 0 rfl) ?_
            refine lv_iconst (v := 1) hx hb dJ6_numberOfLeadingZeros_0f7a4_75 (by decide) ?_
            refine lv_iushr hx hb dJ6_numberOfLeadingZeros_0f7a4_76 rfl ?_
            refine lv_topi (fun t45 ht45 => ?_)
            refine lv_isub hx hb dJ6_numberOfLeadingZeros_0f7a4_77 ?_
            first | refine g_sub (by omega) (by omega) (fun t46 ht46 => ?_) | refine lv_topi (fun t46 ht46 => ?_)
            subst hQ9
            exact t_i hx hb hr hlocks hT trivial dJ6_numberOfLeadingZeros_0f7a4_78
      · have c25 := gi_nlt c9
        obtain ⟨t47, qt47⟩ : ∃ zz9 : Int32, t31 + Int32.ofInt (-8) = zz9 := ⟨_, rfl⟩
        refine lv_iinc (v := t47) (lv' := [(1, .int t47), (0, .int t32)]) hx hb dJ6_numberOfLeadingZeros_0f7a4_40 hl (k := 1) rfl qt47 (by decide) rfl (fun ls hl => ?_)
        have ht47 : t47.toInt = t31.toInt + (-8) := by rw [← qt47]; exact v_addi rfl (show (Int32.ofInt (-8)).toInt = (-8) from by decide) (by omega) (by omega)
        refine lv_iload_n hx hb dJ6_numberOfLeadingZeros_0f7a4_43 rfl (lv_at hl 1 rfl) ?_
        refine lv_bipush (v := 8) hx hb dJ6_numberOfLeadingZeros_0f7a4_44 (by decide) ?_
        refine lv_iushr hx hb dJ6_numberOfLeadingZeros_0f7a4_46 rfl ?_
        refine lv_topi (fun t48 ht48 => ?_)
        refine lv_istore_n (lv' := [(0, .int t48), (1, .int t47)]) hx hb dJ6_numberOfLeadingZeros_0f7a4_47 rfl hl (by decide) rfl (fun ls hl => ?_)
        refine lv_iload_n hx hb dJ6_numberOfLeadingZeros_0f7a4_48 rfl (lv_at hl 0 rfl) ?_
        refine lv_bipush (v := 16) hx hb dJ6_numberOfLeadingZeros_0f7a4_49 (by decide) ?_
        refine lv_icmp_lt (tgt := 61) hx hb dJ6_numberOfLeadingZeros_0f7a4_51 (by decide) (fun c9 => ?_) (fun c9 => ?_)
        · have c26 := gi_lt c9
          refine lv_iload_n hx hb dJ6_numberOfLeadingZeros_0f7a4_61 rfl (lv_at hl 0 rfl) ?_
          refine lv_iconst (v := 4) hx hb dJ6_numberOfLeadingZeros_0f7a4_62 (by decide) ?_
          refine lv_icmp_lt (tgt := 73) hx hb dJ6_numberOfLeadingZeros_0f7a4_63 (by decide) (fun c9 => ?_) (fun c9 => ?_)
          · have c27 := gi_lt c9
            refine lv_iload_n hx hb dJ6_numberOfLeadingZeros_0f7a4_73 rfl (lv_at hl 1 rfl) ?_
            refine lv_iload_n hx hb dJ6_numberOfLeadingZeros_0f7a4_74 rfl (lv_at hl 0 rfl) ?_
            refine lv_iconst (v := 1) hx hb dJ6_numberOfLeadingZeros_0f7a4_75 (by decide) ?_
            refine lv_iushr hx hb dJ6_numberOfLeadingZeros_0f7a4_76 rfl ?_
            refine lv_topi (fun t49 ht49 => ?_)
            refine lv_isub hx hb dJ6_numberOfLeadingZeros_0f7a4_77 ?_
            first | refine g_sub (by omega) (by omega) (fun t50 ht50 => ?_) | refine lv_topi (fun t50 ht50 => ?_)
            subst hQ9
            exact t_i hx hb hr hlocks hT trivial dJ6_numberOfLeadingZeros_0f7a4_78
          · have c28 := gi_nlt c9
            obtain ⟨t51, qt51⟩ : ∃ zz9 : Int32, t47 + Int32.ofInt (-2) = zz9 := ⟨_, rfl⟩
            refine lv_iinc (v := t51) (lv' := [(1, .int t51), (0, .int t48)]) hx hb dJ6_numberOfLeadingZeros_0f7a4_66 hl (k := 1) rfl qt51 (by decide) rfl (fun ls hl => ?_)
            have ht51 : t51.toInt = t47.toInt + (-2) := by rw [← qt51]; exact v_addi rfl (show (Int32.ofInt (-2)).toInt = (-2) from by decide) (by omega) (by omega)
            refine lv_iload_n hx hb dJ6_numberOfLeadingZeros_0f7a4_69 rfl (lv_at hl 1 rfl) ?_
            refine lv_iconst (v := 2) hx hb dJ6_numberOfLeadingZeros_0f7a4_70 (by decide) ?_
            refine lv_iushr hx hb dJ6_numberOfLeadingZeros_0f7a4_71 rfl ?_
            refine lv_topi (fun t52 ht52 => ?_)
            refine lv_istore_n (lv' := [(0, .int t52), (1, .int t51)]) hx hb dJ6_numberOfLeadingZeros_0f7a4_72 rfl hl (by decide) rfl (fun ls hl => ?_)
            refine lv_iload_n hx hb dJ6_numberOfLeadingZeros_0f7a4_73 rfl (lv_at hl 1 rfl) ?_
            refine lv_iload_n hx hb dJ6_numberOfLeadingZeros_0f7a4_74 rfl (lv_at hl 0 rfl) ?_
            refine lv_iconst (v := 1) hx hb dJ6_numberOfLeadingZeros_0f7a4_75 (by decide) ?_
            refine lv_iushr hx hb dJ6_numberOfLeadingZeros_0f7a4_76 rfl ?_
            refine lv_topi (fun t53 ht53 => ?_)
            refine lv_isub hx hb dJ6_numberOfLeadingZeros_0f7a4_77 ?_
            first | refine g_sub (by omega) (by omega) (fun t54 ht54 => ?_) | refine lv_topi (fun t54 ht54 => ?_)
            subst hQ9
            exact t_i hx hb hr hlocks hT trivial dJ6_numberOfLeadingZeros_0f7a4_78
        · have c29 := gi_nlt c9
          obtain ⟨t55, qt55⟩ : ∃ zz9 : Int32, t47 + Int32.ofInt (-4) = zz9 := ⟨_, rfl⟩
          refine lv_iinc (v := t55) (lv' := [(1, .int t55), (0, .int t48)]) hx hb dJ6_numberOfLeadingZeros_0f7a4_54 hl (k := 1) rfl qt55 (by decide) rfl (fun ls hl => ?_)
          have ht55 : t55.toInt = t47.toInt + (-4) := by rw [← qt55]; exact v_addi rfl (show (Int32.ofInt (-4)).toInt = (-4) from by decide) (by omega) (by omega)
          refine lv_iload_n hx hb dJ6_numberOfLeadingZeros_0f7a4_57 rfl (lv_at hl 1 rfl) ?_
          refine lv_iconst (v := 4) hx hb dJ6_numberOfLeadingZeros_0f7a4_58 (by decide) ?_
          refine lv_iushr hx hb dJ6_numberOfLeadingZeros_0f7a4_59 rfl ?_
          refine lv_topi (fun t56 ht56 => ?_)
          refine lv_istore_n (lv' := [(0, .int t56), (1, .int t55)]) hx hb dJ6_numberOfLeadingZeros_0f7a4_60 rfl hl (by decide) rfl (fun ls hl => ?_)
          refine lv_iload_n hx hb dJ6_numberOfLeadingZeros_0f7a4_61 rfl (lv_at hl 0 rfl) ?_
          refine lv_iconst (v := 4) hx hb dJ6_numberOfLeadingZeros_0f7a4_62 (by decide) ?_
          refine lv_icmp_lt (tgt := 73) hx hb dJ6_numberOfLeadingZeros_0f7a4_63 (by decide) (fun c9 => ?_) (fun c9 => ?_)
          · have c30 := gi_lt c9
            refine lv_iload_n hx hb dJ6_numberOfLeadingZeros_0f7a4_73 rfl (lv_at hl 1 rfl) ?_
            refine lv_iload_n hx hb dJ6_numberOfLeadingZeros_0f7a4_74 rfl (lv_at hl 0 rfl) ?_
            refine lv_iconst (v := 1) hx hb dJ6_numberOfLeadingZeros_0f7a4_75 (by decide) ?_
            refine lv_iushr hx hb dJ6_numberOfLeadingZeros_0f7a4_76 rfl ?_
            refine lv_topi (fun t57 ht57 => ?_)
            refine lv_isub hx hb dJ6_numberOfLeadingZeros_0f7a4_77 ?_
            first | refine g_sub (by omega) (by omega) (fun t58 ht58 => ?_) | refine lv_topi (fun t58 ht58 => ?_)
            subst hQ9
            exact t_i hx hb hr hlocks hT trivial dJ6_numberOfLeadingZeros_0f7a4_78
          · have c31 := gi_nlt c9
            obtain ⟨t59, qt59⟩ : ∃ zz9 : Int32, t55 + Int32.ofInt (-2) = zz9 := ⟨_, rfl⟩
            refine lv_iinc (v := t59) (lv' := [(1, .int t59), (0, .int t56)]) hx hb dJ6_numberOfLeadingZeros_0f7a4_66 hl (k := 1) rfl qt59 (by decide) rfl (fun ls hl => ?_)
            have ht59 : t59.toInt = t55.toInt + (-2) := by rw [← qt59]; exact v_addi rfl (show (Int32.ofInt (-2)).toInt = (-2) from by decide) (by omega) (by omega)
            refine lv_iload_n hx hb dJ6_numberOfLeadingZeros_0f7a4_69 rfl (lv_at hl 1 rfl) ?_
            refine lv_iconst (v := 2) hx hb dJ6_numberOfLeadingZeros_0f7a4_70 (by decide) ?_
            refine lv_iushr hx hb dJ6_numberOfLeadingZeros_0f7a4_71 rfl ?_
            refine lv_topi (fun t60 ht60 => ?_)
            refine lv_istore_n (lv' := [(0, .int t60), (1, .int t59)]) hx hb dJ6_numberOfLeadingZeros_0f7a4_72 rfl hl (by decide) rfl (fun ls hl => ?_)
            refine lv_iload_n hx hb dJ6_numberOfLeadingZeros_0f7a4_73 rfl (lv_at hl 1 rfl) ?_
            refine lv_iload_n hx hb dJ6_numberOfLeadingZeros_0f7a4_74 rfl (lv_at hl 0 rfl) ?_
            refine lv_iconst (v := 1) hx hb dJ6_numberOfLeadingZeros_0f7a4_75 (by decide) ?_
            refine lv_iushr hx hb dJ6_numberOfLeadingZeros_0f7a4_76 rfl ?_
            refine lv_topi (fun t61 ht61 => ?_)
            refine lv_isub hx hb dJ6_numberOfLeadingZeros_0f7a4_77 ?_
            first | refine g_sub (by omega) (by omega) (fun t62 ht62 => ?_) | refine lv_topi (fun t62 ht62 => ?_)
            subst hQ9
            exact t_i hx hb hr hlocks hT trivial dJ6_numberOfLeadingZeros_0f7a4_78
  · have c32 := gi_nlt c9
    refine lv_iload_n hx hb dJ6_numberOfLeadingZeros_0f7a4_4 rfl (lv_at hl 0 rfl) ?_
    refine lv_if_ne (tgt := 13) hx hb dJ6_numberOfLeadingZeros_0f7a4_5 (by decide) (fun c9 => ?_) (fun c9 => ?_)
    · have c33 := gi_ne c9
      refine lv_iconst (v := 0) hx hb dJ6_numberOfLeadingZeros_0f7a4_13 (by decide) ?_
      subst hQ9
      exact t_i hx hb hr hlocks hT trivial dJ6_numberOfLeadingZeros_0f7a4_14
    · have c34 := gi_eq c9
      refine lv_bipush (v := 32) hx hb dJ6_numberOfLeadingZeros_0f7a4_8 (by decide) ?_
      refine lv_goto (tgt := 14) hx hb dJ6_numberOfLeadingZeros_0f7a4_10 (by decide) ?_
      subst hQ9
      exact t_i hx hb hr hlocks hT trivial dJ6_numberOfLeadingZeros_0f7a4_14
set_option maxHeartbeats 4000000 in
set_option maxRecDepth 100000 in
theorem J_ntz (l : Launch) (κ : Kt) (σ0 : Gh) (i : Int32) : TC l yJ6_numberOfTrailingZeros_0f7a4 cJ6_numberOfTrailingZeros_0f7a4 2 (some .int) 0 0 [.int i] κ σ0 (tqi κ fE σ0 (fun (r : Int32) (τ : Gh) => True)) := by
  refine TC.ofF fE (by decide +kernel) (Nat.le_of_ble_eq_true rfl) ?_
  intro p e s m below meth c ls hcs hK hX hT hl
  obtain ⟨hx, hb, hr, hml, hown, hg, hlocks, hin⟩ := hcs
  have hown : s.vm.findClass RJ6 = some m.cls := hown
  have hl : lv_has ls 2 [(0, .int i)] := hl
  have hT0 := hT
  have nm1 : ((-1) : Int32).toInt = (-1) := by decide
  have n0 : (0 : Int32).toInt = 0 := by decide
  have n1 : (1 : Int32).toInt = 1 := by decide
  have n2 : (2 : Int32).toInt = 2 := by decide
  have n4 : (4 : Int32).toInt = 4 := by decide
  have n8 : (8 : Int32).toInt = 8 := by decide
  have n16 : (16 : Int32).toInt = 16 := by decide
  have n32 : (32 : Int32).toInt = 32 := by decide
  have n256 : (256 : Int32).toInt = 256 := by decide
  have n65536 : (65536 : Int32).toInt = 65536 := by decide
  have i_lo := Int32.le_toInt i
  have i_hi := Int32.toInt_lt i
  generalize hQ9 : tQ _ _ _ _ _ _ = Q9
  refine lv_iload_n hx hb dJ6_numberOfTrailingZeros_0f7a4_0 rfl (lv_at hl 0 rfl) ?_
  refine lv_iconst (v := (-1)) hx hb dJ6_numberOfTrailingZeros_0f7a4_1 (by decide) ?_
  refine lv_ixor hx hb dJ6_numberOfTrailingZeros_0f7a4_2 ?_
  refine lv_topi (fun t1 ht1 => ?_)
  refine lv_iload_n hx hb dJ6_numberOfTrailingZeros_0f7a4_3 rfl (lv_at hl 0 rfl) ?_
  refine lv_iconst (v := 1) hx hb dJ6_numberOfTrailingZeros_0f7a4_4 (by decide) ?_
  refine lv_isub hx hb dJ6_numberOfTrailingZeros_0f7a4_5 ?_
  first | refine g_sub (by omega) (by omega) (fun t2 ht2 => ?_) | refine lv_topi (fun t2 ht2 => ?_)
  refine lv_iand hx hb dJ6_numberOfTrailingZeros_0f7a4_6 ?_
  refine lv_topi (fun t3 ht3 => ?_)
  refine lv_istore_n (lv' := [(0, .int t3)]) hx hb dJ6_numberOfTrailingZeros_0f7a4_7 rfl hl (by decide) rfl (fun ls hl => ?_)
  refine lv_iload_n hx hb dJ6_numberOfTrailingZeros_0f7a4_8 rfl (lv_at hl 0 rfl) ?_
  refine lv_if_gt (tgt := 17) hx hb dJ6_numberOfTrailingZeros_0f7a4_9 (by decide) (fun c9 => ?_) (fun c9 => ?_)
  · have c1 := gi_lt c9
    refine lv_iconst (v := 1) hx hb dJ6_numberOfTrailingZeros_0f7a4_17 (by decide) ?_
    refine lv_istore_n (lv' := [(1, .int 1), (0, .int t3)]) hx hb dJ6_numberOfTrailingZeros_0f7a4_18 rfl hl (by decide) rfl (fun ls hl => ?_)
    refine lv_iload_n hx hb dJ6_numberOfTrailingZeros_0f7a4_19 rfl (lv_at hl 1 rfl) ?_
    refine lv_ldcw hx hb hown (hg _ k482) dJ6_numberOfTrailingZeros_0f7a4_20 ?_
    refine lv_icmp_le (tgt := 34) hx hb dJ6_numberOfTrailingZeros_0f7a4_23 (by decide) (fun c9 => ?_) (fun c9 => ?_)
    · have c2 := gi_le c9
      refine lv_iload_n hx hb dJ6_numberOfTrailingZeros_0f7a4_34 rfl (lv_at hl 1 rfl) ?_
      refine lv_sipush (v := 256) hx hb dJ6_numberOfTrailingZeros_0f7a4_35 (by decide) ?_
      refine lv_icmp_le (tgt := 49) hx hb dJ6_numberOfTrailingZeros_0f7a4_38 (by decide) (fun c9 => ?_) (fun c9 => ?_)
      · have c3 := gi_le c9
        refine lv_iload_n hx hb dJ6_numberOfTrailingZeros_0f7a4_49 rfl (lv_at hl 1 rfl) ?_
        refine lv_bipush (v := 16) hx hb dJ6_numberOfTrailingZeros_0f7a4_50 (by decide) ?_
        refine lv_icmp_le (tgt := 62) hx hb dJ6_numberOfTrailingZeros_0f7a4_52 (by decide) (fun c9 => ?_) (fun c9 => ?_)
        · have c4 := gi_le c9
          refine lv_iload_n hx hb dJ6_numberOfTrailingZeros_0f7a4_62 rfl (lv_at hl 1 rfl) ?_
          refine lv_iconst (v := 4) hx hb dJ6_numberOfTrailingZeros_0f7a4_63 (by decide) ?_
          refine lv_icmp_le (tgt := 74) hx hb dJ6_numberOfTrailingZeros_0f7a4_64 (by decide) (fun c9 => ?_) (fun c9 => ?_)
          · have c5 := gi_le c9
            refine lv_iload_n hx hb dJ6_numberOfTrailingZeros_0f7a4_74 rfl (lv_at hl 0 rfl) ?_
            refine lv_iload_n hx hb dJ6_numberOfTrailingZeros_0f7a4_75 rfl (lv_at hl 1 rfl) ?_
            refine lv_iconst (v := 1) hx hb dJ6_numberOfTrailingZeros_0f7a4_76 (by decide) ?_
            refine lv_iushr hx hb dJ6_numberOfTrailingZeros_0f7a4_77 rfl ?_
            refine lv_topi (fun t4 ht4 => ?_)
            refine lv_iadd hx hb dJ6_numberOfTrailingZeros_0f7a4_78 ?_
            first | refine g_add (by omega) (by omega) (fun t5 ht5 => ?_) | refine lv_topi (fun t5 ht5 => ?_)
            subst hQ9
            exact t_i hx hb hr hlocks hT trivial dJ6_numberOfTrailingZeros_0f7a4_79
          · have c6 := gi_nle c9
            obtain ⟨t6, qt6⟩ : ∃ zz9 : Int32, 1 + Int32.ofInt 2 = zz9 := ⟨_, rfl⟩
            refine lv_iinc (v := t6) (lv' := [(1, .int t6), (0, .int t3)]) hx hb dJ6_numberOfTrailingZeros_0f7a4_67 hl (k := 0) rfl qt6 (by decide) rfl (fun ls hl => ?_)
            have ht6 : t6.toInt = (1 : Int32).toInt + 2 := by rw [← qt6]; exact v_addi rfl (show (Int32.ofInt 2).toInt = 2 from by decide) (by omega) (by omega)
            refine lv_iload_n hx hb dJ6_numberOfTrailingZeros_0f7a4_70 rfl (lv_at hl 1 rfl) ?_
            refine lv_iconst (v := 2) hx hb dJ6_numberOfTrailingZeros_0f7a4_71 (by decide) ?_
            refine lv_iushr hx hb dJ6_numberOfTrailingZeros_0f7a4_72 rfl ?_
            refine lv_topi (fun t7 ht7 => ?_)
            refine lv_istore_n (lv' := [(0, .int t7), (1, .int t6)]) hx hb dJ6_numberOfTrailingZeros_0f7a4_73 rfl hl (by decide) rfl (fun ls hl => ?_)
            refine lv_iload_n hx hb dJ6_numberOfTrailingZeros_0f7a4_74 rfl (lv_at hl 1 rfl) ?_
            refine lv_iload_n hx hb dJ6_numberOfTrailingZeros_0f7a4_75 rfl (lv_at hl 0 rfl) ?_
            refine lv_iconst (v := 1) hx hb dJ6_numberOfTrailingZeros_0f7a4_76 (by decide) ?_
            refine lv_iushr hx hb dJ6_numberOfTrailingZeros_0f7a4_77 rfl ?_
            refine lv_topi (fun t8 ht8 => ?_)
            refine lv_iadd hx hb dJ6_numberOfTrailingZeros_0f7a4_78 ?_
            first | refine g_add (by omega) (by omega) (fun t9 ht9 => ?_) | refine lv_topi (fun t9 ht9 => ?_)
            subst hQ9
            exact t_i hx hb hr hlocks hT trivial dJ6_numberOfTrailingZeros_0f7a4_79
        · have c7 := gi_nle c9
          obtain ⟨t10, qt10⟩ : ∃ zz9 : Int32, 1 + Int32.ofInt 4 = zz9 := ⟨_, rfl⟩
          refine lv_iinc (v := t10) (lv' := [(1, .int t10), (0, .int t3)]) hx hb dJ6_numberOfTrailingZeros_0f7a4_55 hl (k := 0) rfl qt10 (by decide) rfl (fun ls hl => ?_)
          have ht10 : t10.toInt = (1 : Int32).toInt + 4 := by rw [← qt10]; exact v_addi rfl (show (Int32.ofInt 4).toInt = 4 from by decide) (by omega) (by omega)
          refine lv_iload_n hx hb dJ6_numberOfTrailingZeros_0f7a4_58 rfl (lv_at hl 1 rfl) ?_
          refine lv_iconst (v := 4) hx hb dJ6_numberOfTrailingZeros_0f7a4_59 (by decide) ?_
          refine lv_iushr hx hb dJ6_numberOfTrailingZeros_0f7a4_60 rfl ?_
          refine lv_topi (fun t11 ht11 => ?_)
          refine lv_istore_n (lv' := [(0, .int t11), (1, .int t10)]) hx hb dJ6_numberOfTrailingZeros_0f7a4_61 rfl hl (by decide) rfl (fun ls hl => ?_)
          refine lv_iload_n hx hb dJ6_numberOfTrailingZeros_0f7a4_62 rfl (lv_at hl 0 rfl) ?_
          refine lv_iconst (v := 4) hx hb dJ6_numberOfTrailingZeros_0f7a4_63 (by decide) ?_
          refine lv_icmp_le (tgt := 74) hx hb dJ6_numberOfTrailingZeros_0f7a4_64 (by decide) (fun c9 => ?_) (fun c9 => ?_)
          · have c8 := gi_le c9
            refine lv_iload_n hx hb dJ6_numberOfTrailingZeros_0f7a4_74 rfl (lv_at hl 1 rfl) ?_
            refine lv_iload_n hx hb dJ6_numberOfTrailingZeros_0f7a4_75 rfl (lv_at hl 0 rfl) ?_
            refine lv_iconst (v := 1) hx hb dJ6_numberOfTrailingZeros_0f7a4_76 (by decide) ?_
            refine lv_iushr hx hb dJ6_numberOfTrailingZeros_0f7a4_77 rfl ?_
            refine lv_topi (fun t12 ht12 => ?_)
            refine lv_iadd hx hb dJ6_numberOfTrailingZeros_0f7a4_78 ?_
            first | refine g_add (by omega) (by omega) (fun t13 ht13 => ?_) | refine lv_topi (fun t13 ht13 => ?_)
            subst hQ9
            exact t_i hx hb hr hlocks hT trivial dJ6_numberOfTrailingZeros_0f7a4_79
          · have c9 := gi_nle c9
            obtain ⟨t14, qt14⟩ : ∃ zz9 : Int32, t10 + Int32.ofInt 2 = zz9 := ⟨_, rfl⟩
            refine lv_iinc (v := t14) (lv' := [(1, .int t14), (0, .int t11)]) hx hb dJ6_numberOfTrailingZeros_0f7a4_67 hl (k := 1) rfl qt14 (by decide) rfl (fun ls hl => ?_)
            have ht14 : t14.toInt = t10.toInt + 2 := by rw [← qt14]; exact v_addi rfl (show (Int32.ofInt 2).toInt = 2 from by decide) (by omega) (by omega)
            refine lv_iload_n hx hb dJ6_numberOfTrailingZeros_0f7a4_70 rfl (lv_at hl 1 rfl) ?_
            refine lv_iconst (v := 2) hx hb dJ6_numberOfTrailingZeros_0f7a4_71 (by decide) ?_
            refine lv_iushr hx hb dJ6_numberOfTrailingZeros_0f7a4_72 rfl ?_
            refine lv_topi (fun t15 ht15 => ?_)
            refine lv_istore_n (lv' := [(0, .int t15), (1, .int t14)]) hx hb dJ6_numberOfTrailingZeros_0f7a4_73 rfl hl (by decide) rfl (fun ls hl => ?_)
            refine lv_iload_n hx hb dJ6_numberOfTrailingZeros_0f7a4_74 rfl (lv_at hl 1 rfl) ?_
            refine lv_iload_n hx hb dJ6_numberOfTrailingZeros_0f7a4_75 rfl (lv_at hl 0 rfl) ?_
            refine lv_iconst (v := 1) hx hb dJ6_numberOfTrailingZeros_0f7a4_76 (by decide) ?_
            refine lv_iushr hx hb dJ6_numberOfTrailingZeros_0f7a4_77 rfl ?_
            refine lv_topi (fun t16 ht16 => ?_)
            refine lv_iadd hx hb dJ6_numberOfTrailingZeros_0f7a4_78 ?_
            first | refine g_add (by omega) (by omega) (fun t17 ht17 => ?_) | refine lv_topi (fun t17 ht17 => ?_)
            subst hQ9
            exact t_i hx hb hr hlocks hT trivial dJ6_numberOfTrailingZeros_0f7a4_79
      · have c10 := gi_nle c9
        obtain ⟨t18, qt18⟩ : ∃ zz9 : Int32, 1 + Int32.ofInt 8 = zz9 := ⟨_, rfl⟩
        refine lv_iinc (v := t18) (lv' := [(1, .int t18), (0, .int t3)]) hx hb dJ6_numberOfTrailingZeros_0f7a4_41 hl (k := 0) rfl qt18 (by decide) rfl (fun ls hl => ?_)
        have ht18 : t18.toInt = (1 : Int32).toInt + 8 := by rw [← qt18]; exact v_addi rfl (show (Int32.ofInt 8).toInt = 8 from by decide) (by omega) (by omega)
        refine lv_iload_n hx hb dJ6_numberOfTrailingZeros_0f7a4_44 rfl (lv_at hl 1 rfl) ?_
        refine lv_bipush (v := 8) hx hb dJ6_numberOfTrailingZeros_0f7a4_45 (by decide) ?_
        refine lv_iushr hx hb dJ6_numberOfTrailingZeros_0f7a4_47 rfl ?_
        refine lv_topi (fun t19 ht19 => ?_)
        refine lv_istore_n (lv' := [(0, .int t19), (1, .int t18)]) hx hb dJ6_numberOfTrailingZeros_0f7a4_48 rfl hl (by decide) rfl (fun ls hl => ?_)
        refine lv_iload_n hx hb dJ6_numberOfTrailingZeros_0f7a4_49 rfl (lv_at hl 0 rfl) ?_
        refine lv_bipush (v := 16) hx hb dJ6_numberOfTrailingZeros_0f7a4_50 (by decide) ?_
        refine lv_icmp_le (tgt := 62) hx hb dJ6_numberOfTrailingZeros_0f7a4_52 (by decide) (fun c9 => ?_) (fun c9 => ?_)
        · have c11 := gi_le c9
          refine lv_iload_n hx hb dJ6_numberOfTrailingZeros_0f7a4_62 rfl (lv_at hl 0 rfl) ?_
          refine lv_iconst (v := 4) hx hb dJ6_numberOfTrailingZeros_0f7a4_63 (by decide) ?_
          refine lv_icmp_le (tgt := 74) hx hb dJ6_numberOfTrailingZeros_0f7a4_64 (by decide) (fun c9 => ?_) (fun c9 => ?_)
          · have c12 := gi_le c9
            refine lv_iload_n hx hb dJ6_numberOfTrailingZeros_0f7a4_74 rfl (lv_at hl 1 rfl) ?_
            refine lv_iload_n hx hb dJ6_numberOfTrailingZeros_0f7a4_75 rfl (lv_at hl 0 rfl) ?_
            refine lv_iconst (v := 1) hx hb dJ6_numberOfTrailingZeros_0f7a4_76 (by decide) ?_
            refine lv_iushr hx hb dJ6_numberOfTrailingZeros_0f7a4_77 rfl ?_
            refine lv_topi (fun t20 ht20 => ?_)
            refine lv_iadd hx hb dJ6_numberOfTrailingZeros_0f7a4_78 ?_
            first | refine g_add (by omega) (by omega) (fun t21 ht21 => ?_) | refine lv_topi (fun t21 ht21 => ?_)
            subst hQ9
            exact t_i hx hb hr hlocks hT trivial dJ6_numberOfTrailingZeros_0f7a4_79
          · have c13 := gi_nle c9
            obtain ⟨t22, qt22⟩ : ∃ zz9 : Int32, t18 + Int32.ofInt 2 = zz9 := ⟨_, rfl⟩
            refine lv_iinc (v := t22) (lv' := [(1, .int t22), (0, .int t19)]) hx hb dJ6_numberOfTrailingZeros_0f7a4_67 hl (k := 1) rfl qt22 (by decide) rfl (fun ls hl => ?_)
            have ht22 : t22.toInt = t18.toInt + 2 := by rw [← qt22]; exact v_addi rfl (show (Int32.ofInt 2).toInt = 2 from by decide) (by omega) (by omega)
            refine lv_iload_n hx hb dJ6_numberOfTrailingZeros_0f7a4_70 rfl (lv_at hl 1 rfl) ?_
            refine lv_iconst (v := 2) hx hb dJ6_numberOfTrailingZeros_0f7a4_71 (by decide) ?_
            refine lv_iushr hx hb dJ6_numberOfTrailingZeros_0f7a4_72 rfl ?_
            refine lv_topi (fun t23 ht23 => ?_)
            refine lv_istore_n (lv' := [(0, .int t23), (1, .int t22)]) hx hb dJ6_numberOfTrailingZeros_0f7a4_73 rfl hl (by decide) rfl (fun ls hl => ?_)
            refine lv_iload_n hx hb dJ6_numberOfTrailingZeros_0f7a4_74 rfl (lv_at hl 1 rfl) ?_
            refine lv_iload_n hx hb dJ6_numberOfTrailingZeros_0f7a4_75 rfl (lv_at hl 0 rfl) ?_
            refine lv_iconst (v := 1) hx hb dJ6_numberOfTrailingZeros_0f7a4_76 (by decide) ?_
            refine lv_iushr hx hb dJ6_numberOfTrailingZeros_0f7a4_77 rfl ?_
            refine lv_topi (fun t24 ht24 => ?_)
            refine lv_iadd hx hb dJ6_numberOfTrailingZeros_0f7a4_78 ?_
            first | refine g_add (by omega) (by omega) (fun t25 ht25 => ?_) | refine lv_topi (fun t25 ht25 => ?_)
            subst hQ9
            exact t_i hx hb hr hlocks hT trivial dJ6_numberOfTrailingZeros_0f7a4_79
        · have c14 := gi_nle c9
          obtain ⟨t26, qt26⟩ : ∃ zz9 : Int32, t18 + Int32.ofInt 4 = zz9 := ⟨_, rfl⟩
          refine lv_iinc (v := t26) (lv' := [(1, .int t26), (0, .int t19)]) hx hb dJ6_numberOfTrailingZeros_0f7a4_55 hl (k := 1) rfl qt26 (by decide) rfl (fun ls hl => ?_)
          have ht26 : t26.toInt = t18.toInt + 4 := by rw [← qt26]; exact v_addi rfl (show (Int32.ofInt 4).toInt = 4 from by decide) (by omega) (by omega)
          refine lv_iload_n hx hb dJ6_numberOfTrailingZeros_0f7a4_58 rfl (lv_at hl 1 rfl) ?_
          refine lv_iconst (v := 4) hx hb dJ6_numberOfTrailingZeros_0f7a4_59 (by decide) ?_
          refine lv_iushr hx hb dJ6_numberOfTrailingZeros_0f7a4_60 rfl ?_
          refine lv_topi (fun t27 ht27 => ?_)
          refine lv_istore_n (lv' := [(0, .int t27), (1, .int t26)]) hx hb dJ6_numberOfTrailingZeros_0f7a4_61 rfl hl (by decide) rfl (fun ls hl => ?_)
          refine lv_iload_n hx hb dJ6_numberOfTrailingZeros_0f7a4_62 rfl (lv_at hl 0 rfl) ?_
          refine lv_iconst (v := 4) hx hb dJ6_numberOfTrailingZeros_0f7a4_63 (by decide) ?_
          refine lv_icmp_le (tgt := 74) hx hb dJ6_numberOfTrailingZeros_0f7a4_64 (by decide) (fun c9 => ?_) (fun c9 => ?_)
          · have c15 := gi_le c9
            refine lv_iload_n hx hb dJ6_numberOfTrailingZeros_0f7a4_74 rfl (lv_at hl 1 rfl) ?_
            refine lv_iload_n hx hb dJ6_numberOfTrailingZeros_0f7a4_75 rfl (lv_at hl 0 rfl) ?_
            refine lv_iconst (v := 1) hx hb dJ6_numberOfTrailingZeros_0f7a4_76 (by decide) ?_
            refine lv_iushr hx hb dJ6_numberOfTrailingZeros_0f7a4_77 rfl ?_
            refine lv_topi (fun t28 ht28 => ?_)
            refine lv_iadd hx hb dJ6_numberOfTrailingZeros_0f7a4_78 ?_
            first | refine g_add (by omega) (by omega) (fun t29 ht29 => ?_) | refine lv_topi (fun t29 ht29 => ?_)
            subst hQ9
            exact t_i hx hb hr hlocks hT trivial dJ6_numberOfTrailingZeros_0f7a4_79
          · have c16 := gi_nle c9
            obtain ⟨t30, qt30⟩ : ∃ zz9 : Int32, t26 + Int32.ofInt 2 = zz9 := ⟨_, rfl⟩
            refine lv_iinc (v := t30) (lv' := [(1, .int t30), (0, .int t27)]) hx hb dJ6_numberOfTrailingZeros_0f7a4_67 hl (k := 1) rfl qt30 (by decide) rfl (fun ls hl => ?_)
            have ht30 : t30.toInt = t26.toInt + 2 := by rw [← qt30]; exact v_addi rfl (show (Int32.ofInt 2).toInt = 2 from by decide) (by omega) (by omega)
            refine lv_iload_n hx hb dJ6_numberOfTrailingZeros_0f7a4_70 rfl (lv_at hl 1 rfl) ?_
            refine lv_iconst (v := 2) hx hb dJ6_numberOfTrailingZeros_0f7a4_71 (by decide) ?_
            refine lv_iushr hx hb dJ6_numberOfTrailingZeros_0f7a4_72 rfl ?_
            refine lv_topi (fun t31 ht31 => ?_)
            refine lv_istore_n (lv' := [(0, .int t31), (1, .int t30)]) hx hb dJ6_numberOfTrailingZeros_0f7a4_73 rfl hl (by decide) rfl (fun ls hl => ?_)
            refine lv_iload_n hx hb dJ6_numberOfTrailingZeros_0f7a4_74 rfl (lv_at hl 1 rfl) ?_
            refine lv_iload_n hx hb dJ6_numberOfTrailingZeros_0f7a4_75 rfl (lv_at hl 0 rfl) ?_
            refine lv_iconst (v := 1) hx hb dJ6_numberOfTrailingZeros_0f7a4_76 (by decide) ?_
            refine lv_iushr hx hb dJ6_numberOfTrailingZeros_0f7a4_77 rfl ?_
            refine lv_topi (fun t32 ht32 => ?_)
            refine lv_iadd hx hb dJ6_numberOfTrailingZeros_0f7a4_78 ?_
            first | refine g_add (by omega) (by omega) (fun t33 ht33 => ?_) | refine lv_topi (fun t33 ht33 => ?_)
            subst hQ9
            exact t_i hx hb hr hlocks hT trivial dJ6_numberOfTrailingZeros_0f7a4_79
    · have c17 := gi_nle c9
      obtain ⟨t34, qt34⟩ : ∃ zz9 : Int32, 1 + Int32.ofInt 16 = zz9 := ⟨_, rfl⟩
      refine lv_iinc (v := t34) (lv' := [(1, .int t34), (0, .int t3)]) hx hb dJ6_numberOfTrailingZeros_0f7a4_26 hl (k := 0) rfl qt34 (by decide) rfl (fun ls hl => ?_)
      have ht34 : t34.toInt = (1 : Int32).toInt + 16 := by rw [← qt34]; exact v_addi rfl (show (Int32.ofInt 16).toInt = 16 from by decide) (by omega) (by omega)
      refine lv_iload_n hx hb dJ6_numberOfTrailingZeros_0f7a4_29 rfl (lv_at hl 1 rfl) ?_
      refine lv_bipush (v := 16) hx hb dJ6_numberOfTrailingZeros_0f7a4_30 (by decide) ?_
      refine lv_iushr hx hb dJ6_numberOfTrailingZeros_0f7a4_32 rfl ?_
      refine lv_topi (fun t35 ht35 => ?_)
      refine lv_istore_n (lv' := [(0, .int t35), (1, .int t34)]) hx hb dJ6_numberOfTrailingZeros_0f7a4_33 rfl hl (by decide) rfl (fun ls hl => ?_)
      refine lv_iload_n hx hb dJ6_numberOfTrailingZeros_0f7a4_34 rfl (lv_at hl 0 rfl) ?_
      refine lv_sipush (v := 256) hx hb dJ6_numberOfTrailingZeros_0f7a4_35 (by decide) ?_
      refine lv_icmp_le (tgt := 49) hx hb dJ6_numberOfTrailingZeros_0f7a4_38 (by decide) (fun c9 => ?_) (fun c9 => ?_)
      · have c18 := gi_le c9
        refine lv_iload_n hx hb dJ6_numberOfTrailingZeros_0f7a4_49 rfl (lv_at hl 0 rfl) ?_
        refine lv_bipush (v := 16) hx hb dJ6_numberOfTrailingZeros_0f7a4_50 (by decide) ?_
        refine lv_icmp_le (tgt := 62) hx hb dJ6_numberOfTrailingZeros_0f7a4_52 (by decide) (fun c9 => ?_) (fun c9 => ?_)
        · have c19 := gi_le c9
          refine lv_iload_n hx hb dJ6_numberOfTrailingZeros_0f7a4_62 rfl (lv_at hl 0 rfl) ?_
          refine lv_iconst (v := 4) hx hb dJ6_numberOfTrailingZeros_0f7a4_63 (by decide) ?_
          refine lv_icmp_le (tgt := 74) hx hb dJ6_numberOfTrailingZeros_0f7a4_64 (by decide) (fun c9 => ?_) (fun c9 => ?_)
          · have c20 := gi_le c9
            refine lv_iload_n hx hb dJ6_numberOfTrailingZeros_0f7a4_74 rfl (lv_at hl 1 rfl) ?_
            refine lv_iload_n hx hb dJ6_numberOfTrailingZeros_0f7a4_75 rfl (lv_at hl 0 rfl) ?_
            refine lv_iconst (v := 1) hx hb dJ6_numberOfTrailingZeros_0f7a4_76 (by decide) ?_
            refine lv_iushr hx hb dJ6_numberOfTrailingZeros_0f7a4_77 rfl ?_
            refine lv_topi (fun t36 ht36 => ?_)
            refine lv_iadd hx hb dJ6_numberOfTrailingZeros_0f7a4_78 ?_
            first | refine g_add (by omega) (by omega) (fun t37 ht37 => ?_) | refine lv_topi (fun t37 ht37 => ?_)
            subst hQ9
            exact t_i hx hb hr hlocks hT trivial dJ6_numberOfTrailingZeros_0f7a4_79
          · have c21 := gi_nle c9
            obtain ⟨t38, qt38⟩ : ∃ zz9 : Int32, t34 + Int32.ofInt 2 = zz9 := ⟨_, rfl⟩
            refine lv_iinc (v := t38) (lv' := [(1, .int t38), (0, .int t35)]) hx hb dJ6_numberOfTrailingZeros_0f7a4_67 hl (k := 1) rfl qt38 (by decide) rfl (fun ls hl => ?_)
            have ht38 : t38.toInt = t34.toInt + 2 := by rw [← qt38]; exact v_addi rfl (show (Int32.ofInt 2).toInt = 2 from by decide) (by omega) (by omega)
            refine lv_iload_n hx hb dJ6_numberOfTrailingZeros_0f7a4_70 rfl (lv_at hl 1 rfl) ?_
            refine lv_iconst (v := 2) hx hb dJ6_numberOfTrailingZeros_0f7a4_71 (by decide) ?_
            refine lv_iushr hx hb dJ6_numberOfTrailingZeros_0f7a4_72 rfl ?_
            refine lv_topi (fun t39 ht39 => ?_)
            refine lv_istore_n (lv' := [(0, .int t39), (1, .int t38)]) hx hb dJ6_numberOfTrailingZeros_0f7a4_73 rfl hl (by decide) rfl (fun ls hl => ?_)
            refine lv_iload_n hx hb dJ6_numberOfTrailingZeros_0f7a4_74 rfl (lv_at hl 1 rfl) ?_
            refine lv_iload_n hx hb dJ6_numberOfTrailingZeros_0f7a4_75 rfl (lv_at hl 0 rfl) ?_
            refine lv_iconst (v := 1) hx hb dJ6_numberOfTrailingZeros_0f7a4_76 (by decide) ?_
            refine lv_iushr hx hb dJ6_numberOfTrailingZeros_0f7a4_77 rfl ?_
            refine lv_topi (fun t40 ht40 => ?_)
            refine lv_iadd hx hb dJ6_numberOfTrailingZeros_0f7a4_78 ?_
            first | refine g_add (by omega) (by omega) (fun t41 ht41 => ?_) | refine lv_topi (fun t41 ht41 => ?_)
            subst hQ9
            exact t_i hx hb hr hlocks hT trivial dJ6_numberOfTrailingZeros_0f7a4_79
        · have c22 := gi_nle c9
          obtain ⟨t42, qt42⟩ : ∃ zz9 : Int32, t34 + Int32.ofInt 4 = zz9 := ⟨_, rfl⟩
          refine lv_iinc (v := t42) (lv' := [(1, .int t42), (0, .int t35)]) hx hb dJ6_numberOfTrailingZeros_0f7a4_55 hl (k := 1) rfl qt42 (by decide) rfl (fun ls hl => ?_)
          have ht42 : t42.toInt = t34.toInt + 4 := by rw [← qt42]; exact v_addi rfl (show (Int32.ofInt 4).toInt = 4 from by decide) (by omega) (by omega)
          refine lv_iload_n hx hb dJ6_numberOfTrailingZeros_0f7a4_58 rfl (lv_at hl 1 rfl) ?_
          refine lv_iconst (v := 4) hx hb dJ6_numberOfTrailingZeros_0f7a4_59 (by decide) ?_
          refine lv_iushr hx hb dJ6_numberOfTrailingZeros_0f7a4_60 rfl ?_
          refine lv_topi (fun t43 ht43 => ?_)
          refine lv_istore_n (lv' := [(0, .int t43), (1, .int t42)]) hx hb dJ6_numberOfTrailingZeros_0f7a4_61 rfl hl (by decide) rfl (fun ls hl => ?_)
          refine lv_iload_n hx hb dJ6_numberOfTrailingZeros_0f7a4_62 rfl (lv_at hl 0 rfl) ?_
          refine lv_iconst (v := 4) hx hb dJ6_numberOfTrailingZeros_0f7a4_63 (by decide) ?_
          refine lv_icmp_le (tgt := 74) hx hb dJ6_numberOfTrailingZeros_0f7a4_64 (by decide) (fun c9 => ?_) (fun c9 => ?_)
          · have c23 := gi_le c9
            refine lv_iload_n hx hb dJ6_numberOfTrailingZeros_0f7a4_74 rfl (lv_at hl 1 rfl) ?_
            refine lv_iload_n hx hb dJ6_numberOfTrailingZeros_0f7a4_75 rfl (lv_at hl 0 rfl) ?_
            refine lv_iconst (v := 1) hx hb dJ6_numberOfTrailingZeros_0f7a4_76 (by decide) ?_
            refine lv_iushr hx hb dJ6_numberOfTrailingZeros_0f7a4_77 rfl ?_
            refine lv_topi (fun t44 ht44 => ?_)
            refine lv_iadd hx hb dJ6_numberOfTrailingZeros_0f7a4_78 ?_
            first | refine g_add (by omega) (by omega) (fun t45 ht45 => ?_) | refine lv_topi (fun t45 ht45 => ?_)
            subst hQ9
            exact t_i hx hb hr hlocks hT trivial dJ6_numberOfTrailingZeros_0f7a4_79
          · have c24 := gi_nle c9
            obtain ⟨t46, qt46⟩ : ∃ zz9 : Int32, t42 + Int32.ofInt 2 = zz9 := ⟨_, rfl⟩
            refine lv_iinc (v := t46) (lv' := [(1, .int t46), (0, .int t43)]) hx hb dJ6_numberOfTrailingZeros_0f7a4_67 hl (k := 1) rfl qt46 (by decide) rfl (fun ls hl => ?_)
            have ht46 : t46.toInt = t42.toInt + 2 := by rw [← qt46]; exact v_addi rfl (show (Int32.ofInt 2).toInt = 2 from by decide) (by omega) (by omega)
            refine lv_iload_n hx hb dJ6_numberOfTrailingZeros_0f7a4_70 rfl (lv_at hl 1 rfl) ?_
            refine lv_iconst (v := 2) hx hb dJ6_numberOfTrailingZeros_0f7a4_71 (by decide) ?_
            refine lv_iushr hx hb dJ6_numberOfTrailingZeros_0f7a4_72 rfl ?_
            refine lv_topi (fun t47 ht47 => ?_)
            refine lv_istore_n (lv' := [(0, .int t47), (1, .int t46)]) hx hb dJ6_numberOfTrailingZeros_0f7a4_73 rfl hl (by decide) rfl (fun ls hl => ?_)
            refine lv_iload_n hx hb dJ6_numberOfTrailingZeros_0f7a4_74 rfl (lv_at hl 1 rfl) ?_
            refine lv_iload_n hx hb dJ6_numberOfTrailingZeros_0f7a4_75 rfl (lv_at hl 0 rfl) ?_
            refine lv_iconst (v := 1) hx hb dJ6_numberOfTrailingZeros_0f7a4_76 (by decide) ?_
            refine lv_iushr hx hb dJ6_numberOfTrailingZeros_0f7a4_77 rfl ?_
            refine lv_topi (fun t48 ht48 => ?_)
            refine lv_iadd hx hb dJ6_numberOfTrailingZeros_0f7a4_78 ?_
            first | refine g_add (by omega) (by omega) (fun t49 ht49 => ?_) | refine lv_topi (fun t49 ht49 => ?_)
            subst hQ9
            exact t_i hx hb hr hlocks hT trivial dJ6_numberOfTrailingZeros_0f7a4_79
      · have c25 := gi_nle c9
        obtain ⟨t50, qt50⟩ : ∃ zz9 : Int32, t34 + Int32.ofInt 8 = zz9 := ⟨_, rfl⟩
        refine lv_iinc (v := t50) (lv' := [(1, .int t50), (0, .int t35)]) hx hb dJ6_numberOfTrailingZeros_0f7a4_41 hl (k := 1) rfl qt50 (by decide) rfl (fun ls hl => ?_)
        have ht50 : t50.toInt = t34.toInt + 8 := by rw [← qt50]; exact v_addi rfl (show (Int32.ofInt 8).toInt = 8 from by decide) (by omega) (by omega)
        refine lv_iload_n hx hb dJ6_numberOfTrailingZeros_0f7a4_44 rfl (lv_at hl 1 rfl) ?_
        refine lv_bipush (v := 8) hx hb dJ6_numberOfTrailingZeros_0f7a4_45 (by decide) ?_
        refine lv_iushr hx hb dJ6_numberOfTrailingZeros_0f7a4_47 rfl ?_
        refine lv_topi (fun t51 ht51 => ?_)
        refine lv_istore_n (lv' := [(0, .int t51), (1, .int t50)]) hx hb dJ6_numberOfTrailingZeros_0f7a4_48 rfl hl (by decide) rfl (fun ls hl => ?_)
        refine lv_iload_n hx hb dJ6_numberOfTrailingZeros_0f7a4_49 rfl (lv_at hl 0 rfl) ?_
        refine lv_bipush (v := 16) hx hb dJ6_numberOfTrailingZeros_0f7a4_50 (by decide) ?_
        refine lv_icmp_le (tgt := 62) hx hb dJ6_numberOfTrailingZeros_0f7a4_52 (by decide) (fun c9 => ?_) (fun c9 => ?_)
        · have c26 := gi_le c9
          refine lv_iload_n hx hb dJ6_numberOfTrailingZeros_0f7a4_62 rfl (lv_at hl 0 rfl) ?_
          refine lv_iconst (v := 4) hx hb dJ6_numberOfTrailingZeros_0f7a4_63 (by decide) ?_
          refine lv_icmp_le (tgt := 74) hx hb dJ6_numberOfTrailingZeros_0f7a4_64 (by decide) (fun c9 => ?_) (fun c9 => ?_)
          · have c27 := gi_le c9
            refine lv_iload_n hx hb dJ6_numberOfTrailingZeros_0f7a4_74 rfl (lv_at hl 1 rfl) ?_
            refine lv_iload_n hx hb dJ6_numberOfTrailingZeros_0f7a4_75 rfl (lv_at hl 0 rfl) ?_
            refine lv_iconst (v := 1) hx hb dJ6_numberOfTrailingZeros_0f7a4_76 (by decide) ?_
            refine lv_iushr hx hb dJ6_numberOfTrailingZeros_0f7a4_77 rfl ?_
            refine lv_topi (fun t52 ht52 => ?_)
            refine lv_iadd hx hb dJ6_numberOfTrailingZeros_0f7a4_78 ?_
            first | refine g_add (by omega) (by omega) (fun t53 ht53 => ?_) | refine lv_topi (fun t53 ht53 => ?_)
            subst hQ9
            exact t_i hx hb hr hlocks hT trivial dJ6_numberOfTrailingZeros_0f7a4_79
          · have c28 := gi_nle c9
            obtain ⟨t54, qt54⟩ : ∃ zz9 : Int32, t50 + Int32.ofInt 2 = zz9 := ⟨_, rfl⟩
            refine lv_iinc (v := t54) (lv' := [(1, .int t54), (0, .int t51)]) hx hb dJ6_numberOfTrailingZeros_0f7a4_67 hl (k := 1) rfl qt54 (by decide) rfl (fun ls hl => ?_)
            have ht54 : t54.toInt = t50.toInt + 2 := by rw [← qt54]; exact v_addi rfl (show (Int32.ofInt 2).toInt = 2 from by decide) (by omega) (by omega)
            refine lv_iload_n hx hb dJ6_numberOfTrailingZeros_0f7a4_70 rfl (lv_at hl 1 rfl) ?_
            refine lv_iconst (v := 2) hx hb dJ6_numberOfTrailingZeros_0f7a4_71 (by decide) ?_
            refine lv_iushr hx hb dJ6_numberOfTrailingZeros_0f7a4_72 rfl ?_
            refine lv_topi (fun t55 ht55 => ?_)
            refine lv_istore_n (lv' := [(0, .int t55), (1, .int t54)]) hx hb dJ6_numberOfTrailingZeros_0f7a4_73 rfl hl (by decide) rfl (fun ls hl => ?_)
            refine lv_iload_n hx hb dJ6_numberOfTrailingZeros_0f7a4_74 rfl (lv_at hl 1 rfl) ?_
            refine lv_iload_n hx hb dJ6_numberOfTrailingZeros_0f7a4_75 rfl (lv_at hl 0 rfl) ?_
            refine lv_iconst (v := 1) hx hb dJ6_numberOfTrailingZeros_0f7a4_76 (by decide) ?_
            refine lv_iushr hx hb dJ6_numberOfTrailingZeros_0f7a4_77 rfl ?_
            refine lv_topi (fun t56 ht56 => ?_)
            refine lv_iadd hx hb dJ6_numberOfTrailingZeros_0f7a4_78 ?_
            first | refine g_add (by omega) (by omega) (fun t57 ht57 => ?_) | refine lv_topi (fun t57 ht57 => ?_)
            subst hQ9
            exact t_i hx hb hr hlocks hT trivial dJ6_numberOfTrailingZeros_0f7a4_79
        · have c29 := gi_nle c9
          obtain ⟨t58, qt58⟩ : ∃ zz9 : Int32, t50 + Int32.ofInt 4 = zz9 := ⟨_, rfl⟩
          refine lv_iinc (v := t58) (lv' := [(1, .int t58), (0, .int t51)]) hx hb dJ6_numberOfTrailingZeros_0f7a4_55 hl (k := 1) rfl qt58 (by decide) rfl (fun ls hl => ?_)
          have ht58 : t58.toInt = t50.toInt + 4 := by rw [← qt58]; exact v_addi rfl (show (Int32.ofInt 4).toInt = 4 from by decide) (by omega) (by omega)
          refine lv_iload_n hx hb dJ6_numberOfTrailingZeros_0f7a4_58 rfl (lv_at hl 1 rfl) ?_
          refine lv_iconst (v := 4) hx hb dJ6_numberOfTrailingZeros_0f7a4_59 (by decide) ?_
          refine lv_iushr hx hb dJ6_numberOfTrailingZeros_0f7a4_60 rfl ?_
          refine lv_topi (fun t59 ht59 => ?_)
          refine lv_istore_n (lv' := [(0, .int t59), (1, .int t58)]) hx hb dJ6_numberOfTrailingZeros_0f7a4_61 rfl hl (by decide) rfl (fun ls hl => ?_)
          refine lv_iload_n hx hb dJ6_numberOfTrailingZeros_0f7a4_62 rfl (lv_at hl 0 rfl) ?_
          refine lv_iconst (v := 4) hx hb dJ6_numberOfTrailingZeros_0f7a4_63 (by decide) ?_
          refine lv_icmp_le (tgt := 74) hx hb dJ6_numberOfTrailingZeros_0f7a4_64 (by decide) (fun c9 => ?_) (fun c9 => ?_)
          · have c30 := gi_le c9
            refine lv_iload_n hx hb dJ6_numberOfTrailingZeros_0f7a4_74 rfl (lv_at hl 1 rfl) ?_
            refine lv_iload_n hx hb dJ6_numberOfTrailingZeros_0f7a4_75 rfl (lv_at hl 0 rfl) ?_
            refine lv_iconst (v := 1) hx hb dJ6_numberOfTrailingZeros_0f7a4_76 (by decide) ?_
            refine lv_iushr hx hb dJ6_numberOfTrailingZeros_0f7a4_77 rfl ?_
            refine lv_topi (fun t60 ht60 => ?_)
            refine lv_iadd hx hb dJ6_numberOfTrailingZeros_0f7a4_78 ?_
            first | refine g_add (by omega) (by omega) (fun t61 ht61 => ?_) | refine lv_topi (fun t61 ht61 => ?_)
            subst hQ9
            exact t_i hx hb hr hlocks hT trivial dJ6_numberOfTrailingZeros_0f7a4_79
          · have c31 := gi_nle c9
            obtain ⟨t62, qt62⟩ : ∃ zz9 : Int32, t58 + Int32.ofInt 2 = zz9 := ⟨_, rfl⟩
            refine lv_iinc (v := t62) (lv' := [(1, .int t62), (0, .int t59)]) hx hb dJ6_numberOfTrailingZeros_0f7a4_67 hl (k := 1) rfl qt62 (by decide) rfl (fun ls hl => ?_)
            have ht62 : t62.toInt = t58.toInt + 2 := by rw [← qt62]; exact v_addi rfl (show (Int32.ofInt 2).toInt = 2 from by decide) (by omega) (by omega)
            refine lv_iload_n hx hb dJ6_numberOfTrailingZeros_0f7a4_70 rfl (lv_at hl 1 rfl) ?_
            refine lv_iconst (v := 2) hx hb dJ6_numberOfTrailingZeros_0f7a4_71 (by decide) ?_
            refine lv_iushr hx hb dJ6_numberOfTrailingZeros_0f7a4_72 rfl ?_
            refine lv_topi (fun t63 ht63 => ?_)
            refine lv_istore_n (lv' := [(0, .int t63), (1, .int t62)]) hx hb dJ6_numberOfTrailingZeros_0f7a4_73 rfl hl (by decide) rfl (fun ls hl => ?_)
            refine lv_iload_n hx hb dJ6_numberOfTrailingZeros_0f7a4_74 rfl (lv_at hl 1 rfl) ?_
            refine lv_iload_n hx hb dJ6_numberOfTrailingZeros_0f7a4_75 rfl (lv_at hl 0 rfl) ?_
            refine lv_iconst (v := 1) hx hb dJ6_numberOfTrailingZeros_0f7a4_76 (by decide) ?_
            refine lv_iushr hx hb dJ6_numberOfTrailingZeros_0f7a4_77 rfl ?_
            refine lv_topi (fun t64 ht64 => ?_)
            refine lv_iadd hx hb dJ6_numberOfTrailingZeros_0f7a4_78 ?_
            first | refine g_add (by omega) (by omega) (fun t65 ht65 => ?_) | refine lv_topi (fun t65 ht65 => ?_)
            subst hQ9
            exact t_i hx hb hr hlocks hT trivial dJ6_numberOfTrailingZeros_0f7a4_79
  · have c32 := gi_nlt c9
    refine lv_iload_n hx hb dJ6_numberOfTrailingZeros_0f7a4_12 rfl (lv_at hl 0 rfl) ?_
    refine lv_bipush (v := 32) hx hb dJ6_numberOfTrailingZeros_0f7a4_13 (by decide) ?_
    refine lv_iand hx hb dJ6_numberOfTrailingZeros_0f7a4_15 ?_
    refine lv_topi (fun t66 ht66 => ?_)
    subst hQ9
    exact t_i hx hb hr hlocks hT trivial dJ6_numberOfTrailingZeros_0f7a4_16
set_option maxHeartbeats 4000000 in
set_option maxRecDepth 100000 in
theorem J_floorDiv (l : Launch) (κ : Kt) (σ0 : Gh) (x : Int64) (y : Int64) (h0 : 0 < y.toInt) : TC l yJ9_floorDiv_f86c9 cJ9_floorDiv_f86c9 6 (some .long) 0 0 [.long x, .long y] κ σ0 (tql κ fE σ0 (fun (r : Int64) (τ : Gh) => True)) := by
  refine TC.ofF fE (by decide +kernel) (Nat.le_of_ble_eq_true rfl) ?_
  intro p e s m below meth c ls hcs hK hX hT hl
  obtain ⟨hx, hb, hr, hml, hown, hg, hlocks, hin⟩ := hcs
  have hown : s.vm.findClass RJ9 = some m.cls := hown
  have hl : lv_has ls 6 [(0, .long x), (2, .long y)] := hl
  have hT0 := hT
  have n0 : (0 : Int32).toInt = 0 := by decide
  have j0 : (0 : Int64).toInt = 0 := by decide
  have j1 : (1 : Int64).toInt = 1 := by decide
  generalize hQ9 : tQ _ _ _ _ _ _ = Q9
  refine lv_lload_n hx hb dJ9_floorDiv_f86c9_0 rfl (lv_at hl 0 rfl) ?_
  refine lv_lload_n hx hb dJ9_floorDiv_f86c9_1 rfl (lv_at hl 1 rfl) ?_
  refine lv_ldiv hx hb dJ9_floorDiv_f86c9_2 (gl_nz (by omega)) ?_
  refine lv_topl (fun t1 ht1 => ?_)
  refine lv_lstore (lv' := [(4, .long t1), (0, .long x), (2, .long y)]) hx hb dJ9_floorDiv_f86c9_3 hl (by decide) rfl (fun ls hl => ?_)
  refine lv_lload_n hx hb dJ9_floorDiv_f86c9_5 rfl (lv_at hl 1 rfl) ?_
  refine lv_lload_n hx hb dJ9_floorDiv_f86c9_6 rfl (lv_at hl 2 rfl) ?_
  refine lv_lxor hx hb dJ9_floorDiv_f86c9_7 ?_
  refine lv_topl (fun t2 ht2 => ?_)
  refine lv_lconst (v := 0) hx hb dJ9_floorDiv_f86c9_8 (by decide) ?_
  refine W.lcmp hx hb dJ9_floorDiv_f86c9_9 ?_
  refine lv_if_ge (tgt := 27) hx hb dJ9_floorDiv_f86c9_10 (by decide) (fun c9 => ?_) (fun c9 => ?_)
  · have c1 := gl_ge c9
    refine lv_lload hx hb dJ9_floorDiv_f86c9_27 (lv_at hl 0 rfl) ?_
    subst hQ9
    exact t_l hx hb hr hlocks hT trivial dJ9_floorDiv_f86c9_29
  · have c2 := gl_nge c9
    refine lv_lload hx hb dJ9_floorDiv_f86c9_13 (lv_at hl 0 rfl) ?_
    refine lv_lload_n hx hb dJ9_floorDiv_f86c9_15 rfl (lv_at hl 2 rfl) ?_
    refine lv_lmul hx hb dJ9_floorDiv_f86c9_16 ?_
    refine lv_topl (fun t3 ht3 => ?_)
    refine lv_lload_n hx hb dJ9_floorDiv_f86c9_17 rfl (lv_at hl 1 rfl) ?_
    refine W.lcmp hx hb dJ9_floorDiv_f86c9_18 ?_
    refine lv_if_eq (tgt := 27) hx hb dJ9_floorDiv_f86c9_19 (by decide) (fun c9 => ?_) (fun c9 => ?_)
    · have c3 := gl_eq c9
      refine lv_lload hx hb dJ9_floorDiv_f86c9_27 (lv_at hl 0 rfl) ?_
      subst hQ9
      exact t_l hx hb hr hlocks hT trivial dJ9_floorDiv_f86c9_29
    · have c4 := gl_ne c9
      refine lv_lload hx hb dJ9_floorDiv_f86c9_22 (lv_at hl 0 rfl) ?_
      refine lv_lconst (v := 1) hx hb dJ9_floorDiv_f86c9_24 (by decide) ?_
      refine lv_lsub hx hb dJ9_floorDiv_f86c9_25 ?_
      refine lv_topl (fun t4 ht4 => ?_)
      subst hQ9
      exact t_l hx hb hr hlocks hT trivial dJ9_floorDiv_f86c9_26

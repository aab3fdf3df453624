/-! The reference over any state: noise, the largest kept -/
theorem sub_fE_gZ : ∀ t k, gZ t k = false → fE t k = false := by
  intro t k h
  simp [fE, gZ] at h ⊢ <;> omega
theorem sub_gW_gZ : ∀ t k, gZ t k = false → gW t k = false := by
  intro t k h
  simp [gW, gZ] at h ⊢ <;> omega
theorem k1577 : Cond.constantLong RX6 298 999 ∈ GW := gm 1577 (by decide +kernel) (by decide +kernel)
theorem k1578 : Cond.constant RX6 300 1103515245 ∈ GW := gm 1578 (by decide +kernel) (by decide +kernel)
theorem dX6_keepLargest_0 : decode cX6_keepLargest 0 = .ok (.aload_n 0, 1) := by decide +kernel
theorem dX6_keepLargest_1 : decode cX6_keepLargest 1 = .ok (.iload_n 1, 1) := by decide +kernel
theorem dX6_keepLargest_2 : decode cX6_keepLargest 2 = .ok (.i2l, 1) := by decide +kernel
theorem dX6_keepLargest_3 : decode cX6_keepLargest 3 = .ok (.lconst 0, 1) := by decide +kernel
theorem dX6_keepLargest_4 : decode cX6_keepLargest 4 = .ok (.ldc2_w 304, 3) := by decide +kernel
theorem dX6_keepLargest_7 : decode cX6_keepLargest 7 = .ok (.invokestatic 84, 3) := by decide +kernel
theorem dX6_keepLargest_10 : decode cX6_keepLargest 10 = .ok (.ifCond .eq 7, 3) := by decide +kernel
theorem dX6_keepLargest_13 : decode cX6_keepLargest 13 = .ok (.iconst 0, 1) := by decide +kernel
theorem dX6_keepLargest_14 : decode cX6_keepLargest 14 = .ok (.goto 4, 3) := by decide +kernel
theorem dX6_keepLargest_17 : decode cX6_keepLargest 17 = .ok (.iconst 1, 1) := by decide +kernel
theorem dX6_keepLargest_18 : decode cX6_keepLargest 18 = .ok (.putfield 64, 3) := by decide +kernel
theorem dX6_keepLargest_21 : decode cX6_keepLargest 21 = .ok (.aload_n 0, 1) := by decide +kernel
theorem dX6_keepLargest_22 : decode cX6_keepLargest 22 = .ok (.getfield 64, 3) := by decide +kernel
theorem dX6_keepLargest_25 : decode cX6_keepLargest 25 = .ok (.ifCond .le 5, 3) := by decide +kernel
theorem dX6_keepLargest_28 : decode cX6_keepLargest 28 = .ok (.lconst 0, 1) := by decide +kernel
theorem dX6_keepLargest_29 : decode cX6_keepLargest 29 = .ok (.lreturn, 1) := by decide +kernel
theorem dX6_keepLargest_30 : decode cX6_keepLargest 30 = .ok (.iconst 0, 1) := by decide +kernel
theorem dX6_keepLargest_31 : decode cX6_keepLargest 31 = .ok (.istore_n 2, 1) := by decide +kernel
theorem dX6_keepLargest_32 : decode cX6_keepLargest 32 = .ok (.iconst 0, 1) := by decide +kernel
theorem dX6_keepLargest_33 : decode cX6_keepLargest 33 = .ok (.istore_n 3, 1) := by decide +kernel
theorem dX6_keepLargest_34 : decode cX6_keepLargest 34 = .ok (.iload_n 3, 1) := by decide +kernel
theorem dX6_keepLargest_35 : decode cX6_keepLargest 35 = .ok (.aload_n 0, 1) := by decide +kernel
theorem dX6_keepLargest_36 : decode cX6_keepLargest 36 = .ok (.invokevirtual 199, 3) := by decide +kernel
theorem dX6_keepLargest_39 : decode cX6_keepLargest 39 = .ok (.if_icmp .ge 39, 3) := by decide +kernel
theorem dX6_keepLargest_42 : decode cX6_keepLargest 42 = .ok (.aload_n 0, 1) := by decide +kernel
theorem dX6_keepLargest_43 : decode cX6_keepLargest 43 = .ok (.getfield 13, 3) := by decide +kernel
theorem dX6_keepLargest_46 : decode cX6_keepLargest 46 = .ok (.iload_n 3, 1) := by decide +kernel
theorem dX6_keepLargest_47 : decode cX6_keepLargest 47 = .ok (.aload_n 0, 1) := by decide +kernel
theorem dX6_keepLargest_48 : decode cX6_keepLargest 48 = .ok (.iload_n 3, 1) := by decide +kernel
theorem dX6_keepLargest_49 : decode cX6_keepLargest 49 = .ok (.invokevirtual 251, 3) := by decide +kernel
theorem dX6_keepLargest_52 : decode cX6_keepLargest 52 = .ok (.iload_n 1, 1) := by decide +kernel
theorem dX6_keepLargest_53 : decode cX6_keepLargest 53 = .ok (.if_icmp .lt 7, 3) := by decide +kernel
theorem dX6_keepLargest_56 : decode cX6_keepLargest 56 = .ok (.lconst 1, 1) := by decide +kernel
theorem dX6_keepLargest_57 : decode cX6_keepLargest 57 = .ok (.goto 4, 3) := by decide +kernel
theorem dX6_keepLargest_60 : decode cX6_keepLargest 60 = .ok (.lconst 0, 1) := by decide +kernel
theorem dX6_keepLargest_61 : decode cX6_keepLargest 61 = .ok (.lastore, 1) := by decide +kernel
theorem dX6_keepLargest_62 : decode cX6_keepLargest 62 = .ok (.iload_n 2, 1) := by decide +kernel
theorem dX6_keepLargest_63 : decode cX6_keepLargest 63 = .ok (.aload_n 0, 1) := by decide +kernel
theorem dX6_keepLargest_64 : decode cX6_keepLargest 64 = .ok (.getfield 13, 3) := by decide +kernel
theorem dX6_keepLargest_67 : decode cX6_keepLargest 67 = .ok (.iload_n 3, 1) := by decide +kernel
theorem dX6_keepLargest_68 : decode cX6_keepLargest 68 = .ok (.laload, 1) := by decide +kernel
theorem dX6_keepLargest_69 : decode cX6_keepLargest 69 = .ok (.l2i, 1) := by decide +kernel
theorem dX6_keepLargest_70 : decode cX6_keepLargest 70 = .ok (.iadd, 1) := by decide +kernel
theorem dX6_keepLargest_71 : decode cX6_keepLargest 71 = .ok (.istore_n 2, 1) := by decide +kernel
theorem dX6_keepLargest_72 : decode cX6_keepLargest 72 = .ok (.iinc 3 1, 3) := by decide +kernel
theorem dX6_keepLargest_75 : decode cX6_keepLargest 75 = .ok (.goto (-41), 3) := by decide +kernel
theorem dX6_keepLargest_78 : decode cX6_keepLargest 78 = .ok (.lconst 0, 1) := by decide +kernel
theorem dX6_keepLargest_79 : decode cX6_keepLargest 79 = .ok (.lstore_n 3, 1) := by decide +kernel
theorem dX6_keepLargest_80 : decode cX6_keepLargest 80 = .ok (.iconst 0, 1) := by decide +kernel
theorem dX6_keepLargest_81 : decode cX6_keepLargest 81 = .ok (.istore 5, 2) := by decide +kernel
theorem dX6_keepLargest_83 : decode cX6_keepLargest 83 = .ok (.iload 5, 2) := by decide +kernel
theorem dX6_keepLargest_85 : decode cX6_keepLargest 85 = .ok (.aload_n 0, 1) := by decide +kernel
theorem dX6_keepLargest_86 : decode cX6_keepLargest 86 = .ok (.invokevirtual 199, 3) := by decide +kernel
theorem dX6_keepLargest_89 : decode cX6_keepLargest 89 = .ok (.if_icmp .ge 63, 3) := by decide +kernel
theorem dX6_keepLargest_92 : decode cX6_keepLargest 92 = .ok (.iload_n 2, 1) := by decide +kernel
theorem dX6_keepLargest_93 : decode cX6_keepLargest 93 = .ok (.ifCond .le 59, 3) := by decide +kernel
theorem dX6_keepLargest_96 : decode cX6_keepLargest 96 = .ok (.aload_n 0, 1) := by decide +kernel
theorem dX6_keepLargest_97 : decode cX6_keepLargest 97 = .ok (.getfield 13, 3) := by decide +kernel
theorem dX6_keepLargest_100 : decode cX6_keepLargest 100 = .ok (.iload 5, 2) := by decide +kernel
theorem dX6_keepLargest_102 : decode cX6_keepLargest 102 = .ok (.laload, 1) := by decide +kernel
theorem dX6_keepLargest_103 : decode cX6_keepLargest 103 = .ok (.lconst 1, 1) := by decide +kernel
theorem dX6_keepLargest_104 : decode cX6_keepLargest 104 = .ok (.lcmp, 1) := by decide +kernel
theorem dX6_keepLargest_105 : decode cX6_keepLargest 105 = .ok (.ifCond .ne 41, 3) := by decide +kernel
theorem dX6_keepLargest_108 : decode cX6_keepLargest 108 = .ok (.aload_n 0, 1) := by decide +kernel
theorem dX6_keepLargest_109 : decode cX6_keepLargest 109 = .ok (.iload 5, 2) := by decide +kernel
theorem dX6_keepLargest_111 : decode cX6_keepLargest 111 = .ok (.iconst 3, 1) := by decide +kernel
theorem dX6_keepLargest_112 : decode cX6_keepLargest 112 = .ok (.invokevirtual 208, 3) := by decide +kernel
theorem dX6_keepLargest_115 : decode cX6_keepLargest 115 = .ok (.invokestatic 239, 3) := by decide +kernel
theorem dX6_keepLargest_118 : decode cX6_keepLargest 118 = .ok (.lload_n 3, 1) := by decide +kernel
theorem dX6_keepLargest_119 : decode cX6_keepLargest 119 = .ok (.lcmp, 1) := by decide +kernel
theorem dX6_keepLargest_120 : decode cX6_keepLargest 120 = .ok (.ifCond .le 16, 3) := by decide +kernel
theorem dX6_keepLargest_123 : decode cX6_keepLargest 123 = .ok (.aload_n 0, 1) := by decide +kernel
theorem dX6_keepLargest_124 : decode cX6_keepLargest 124 = .ok (.iload 5, 2) := by decide +kernel
theorem dX6_keepLargest_126 : decode cX6_keepLargest 126 = .ok (.iconst 3, 1) := by decide +kernel
theorem dX6_keepLargest_127 : decode cX6_keepLargest 127 = .ok (.invokevirtual 208, 3) := by decide +kernel
theorem dX6_keepLargest_130 : decode cX6_keepLargest 130 = .ok (.invokestatic 239, 3) := by decide +kernel
theorem dX6_keepLargest_133 : decode cX6_keepLargest 133 = .ok (.goto 4, 3) := by decide +kernel
theorem dX6_keepLargest_136 : decode cX6_keepLargest 136 = .ok (.lload_n 3, 1) := by decide +kernel
theorem dX6_keepLargest_137 : decode cX6_keepLargest 137 = .ok (.lstore_n 3, 1) := by decide +kernel
theorem dX6_keepLargest_138 : decode cX6_keepLargest 138 = .ok (.aload_n 0, 1) := by decide +kernel
theorem dX6_keepLargest_139 : decode cX6_keepLargest 139 = .ok (.iload 5, 2) := by decide +kernel
theorem dX6_keepLargest_141 : decode cX6_keepLargest 141 = .ok (.iconst 3, 1) := by decide +kernel
theorem dX6_keepLargest_142 : decode cX6_keepLargest 142 = .ok (.lconst 0, 1) := by decide +kernel
theorem dX6_keepLargest_143 : decode cX6_keepLargest 143 = .ok (.invokevirtual 269, 3) := by decide +kernel
theorem dX6_keepLargest_146 : decode cX6_keepLargest 146 = .ok (.iinc 5 1, 3) := by decide +kernel
theorem dX6_keepLargest_149 : decode cX6_keepLargest 149 = .ok (.goto (-66), 3) := by decide +kernel
theorem dX6_keepLargest_152 : decode cX6_keepLargest 152 = .ok (.lload_n 3, 1) := by decide +kernel
theorem dX6_keepLargest_153 : decode cX6_keepLargest 153 = .ok (.lreturn, 1) := by decide +kernel
theorem dX6_noise_0 : decode cX6_noise 0 = .ok (.aload_n 0, 1) := by decide +kernel
theorem dX6_noise_1 : decode cX6_noise 1 = .ok (.iload_n 2, 1) := by decide +kernel
theorem dX6_noise_2 : decode cX6_noise 2 = .ok (.i2l, 1) := by decide +kernel
theorem dX6_noise_3 : decode cX6_noise 3 = .ok (.lconst 0, 1) := by decide +kernel
theorem dX6_noise_4 : decode cX6_noise 4 = .ok (.ldc2_w 298, 3) := by decide +kernel
theorem dX6_noise_7 : decode cX6_noise 7 = .ok (.invokestatic 84, 3) := by decide +kernel
theorem dX6_noise_10 : decode cX6_noise 10 = .ok (.ifCond .eq 7, 3) := by decide +kernel
theorem dX6_noise_13 : decode cX6_noise 13 = .ok (.iconst 0, 1) := by decide +kernel
theorem dX6_noise_14 : decode cX6_noise 14 = .ok (.goto 4, 3) := by decide +kernel
theorem dX6_noise_17 : decode cX6_noise 17 = .ok (.iconst 1, 1) := by decide +kernel
theorem dX6_noise_18 : decode cX6_noise 18 = .ok (.putfield 64, 3) := by decide +kernel
theorem dX6_noise_21 : decode cX6_noise 21 = .ok (.aload_n 0, 1) := by decide +kernel
theorem dX6_noise_22 : decode cX6_noise 22 = .ok (.getfield 64, 3) := by decide +kernel
theorem dX6_noise_25 : decode cX6_noise 25 = .ok (.ifCond .le 5, 3) := by decide +kernel
theorem dX6_noise_28 : decode cX6_noise 28 = .ok (.lconst 0, 1) := by decide +kernel
theorem dX6_noise_29 : decode cX6_noise 29 = .ok (.lreturn, 1) := by decide +kernel
theorem dX6_noise_30 : decode cX6_noise 30 = .ok (.aload_n 0, 1) := by decide +kernel
theorem dX6_noise_31 : decode cX6_noise 31 = .ok (.invokevirtual 199, 3) := by decide +kernel
theorem dX6_noise_34 : decode cX6_noise 34 = .ok (.ifCond .le 14, 3) := by decide +kernel
theorem dX6_noise_37 : decode cX6_noise 37 = .ok (.aload_n 0, 1) := by decide +kernel
theorem dX6_noise_38 : decode cX6_noise 38 = .ok (.iconst 2, 1) := by decide +kernel
theorem dX6_noise_39 : decode cX6_noise 39 = .ok (.bipush 7, 2) := by decide +kernel
theorem dX6_noise_41 : decode cX6_noise 41 = .ok (.iconst 0, 1) := by decide +kernel
theorem dX6_noise_42 : decode cX6_noise 42 = .ok (.iconst (-1), 1) := by decide +kernel
theorem dX6_noise_43 : decode cX6_noise 43 = .ok (.invokevirtual 294, 3) := by decide +kernel
theorem dX6_noise_46 : decode cX6_noise 46 = .ok (.i2l, 1) := by decide +kernel
theorem dX6_noise_47 : decode cX6_noise 47 = .ok (.lreturn, 1) := by decide +kernel
theorem dX6_noise_48 : decode cX6_noise 48 = .ok (.iload_n 1, 1) := by decide +kernel
theorem dX6_noise_49 : decode cX6_noise 49 = .ok (.istore_n 3, 1) := by decide +kernel
theorem dX6_noise_50 : decode cX6_noise 50 = .ok (.lconst 0, 1) := by decide +kernel
theorem dX6_noise_51 : decode cX6_noise 51 = .ok (.lstore 4, 2) := by decide +kernel
theorem dX6_noise_53 : decode cX6_noise 53 = .ok (.iconst 0, 1) := by decide +kernel
theorem dX6_noise_54 : decode cX6_noise 54 = .ok (.istore 6, 2) := by decide +kernel
theorem dX6_noise_56 : decode cX6_noise 56 = .ok (.iload 6, 2) := by decide +kernel
theorem dX6_noise_58 : decode cX6_noise 58 = .ok (.aload_n 0, 1) := by decide +kernel
theorem dX6_noise_59 : decode cX6_noise 59 = .ok (.getfield 185, 3) := by decide +kernel
theorem dX6_noise_62 : decode cX6_noise 62 = .ok (.if_icmp .ge 58, 3) := by decide +kernel
theorem dX6_noise_65 : decode cX6_noise 65 = .ok (.iload_n 3, 1) := by decide +kernel
theorem dX6_noise_66 : decode cX6_noise 66 = .ok (.ldc_w 300, 3) := by decide +kernel
theorem dX6_noise_69 : decode cX6_noise 69 = .ok (.imul, 1) := by decide +kernel
theorem dX6_noise_70 : decode cX6_noise 70 = .ok (.sipush 12345, 3) := by decide +kernel
theorem dX6_noise_73 : decode cX6_noise 73 = .ok (.iadd, 1) := by decide +kernel
theorem dX6_noise_74 : decode cX6_noise 74 = .ok (.istore_n 3, 1) := by decide +kernel
theorem dX6_noise_75 : decode cX6_noise 75 = .ok (.aload_n 0, 1) := by decide +kernel
theorem dX6_noise_76 : decode cX6_noise 76 = .ok (.getfield 7, 3) := by decide +kernel
theorem dX6_noise_79 : decode cX6_noise 79 = .ok (.iconst 5, 1) := by decide +kernel
theorem dX6_noise_80 : decode cX6_noise 80 = .ok (.iload 6, 2) := by decide +kernel
theorem dX6_noise_82 : decode cX6_noise 82 = .ok (.iadd, 1) := by decide +kernel
theorem dX6_noise_83 : decode cX6_noise 83 = .ok (.dup2, 1) := by decide +kernel
theorem dX6_noise_84 : decode cX6_noise 84 = .ok (.laload, 1) := by decide +kernel
theorem dX6_noise_85 : decode cX6_noise 85 = .ok (.iload_n 3, 1) := by decide +kernel
theorem dX6_noise_86 : decode cX6_noise 86 = .ok (.bipush 16, 2) := by decide +kernel
theorem dX6_noise_88 : decode cX6_noise 88 = .ok (.iushr, 1) := by decide +kernel
theorem dX6_noise_89 : decode cX6_noise 89 = .ok (.iconst 2, 1) := by decide +kernel
theorem dX6_noise_90 : decode cX6_noise 90 = .ok (.iload_n 2, 1) := by decide +kernel
theorem dX6_noise_91 : decode cX6_noise 91 = .ok (.imul, 1) := by decide +kernel
theorem dX6_noise_92 : decode cX6_noise 92 = .ok (.iconst 1, 1) := by decide +kernel
theorem dX6_noise_93 : decode cX6_noise 93 = .ok (.iadd, 1) := by decide +kernel
theorem dX6_noise_94 : decode cX6_noise 94 = .ok (.irem, 1) := by decide +kernel
theorem dX6_noise_95 : decode cX6_noise 95 = .ok (.iload_n 2, 1) := by decide +kernel
theorem dX6_noise_96 : decode cX6_noise 96 = .ok (.isub, 1) := by decide +kernel
theorem dX6_noise_97 : decode cX6_noise 97 = .ok (.i2l, 1) := by decide +kernel
theorem dX6_noise_98 : decode cX6_noise 98 = .ok (.ladd, 1) := by decide +kernel
theorem dX6_noise_99 : decode cX6_noise 99 = .ok (.lastore, 1) := by decide +kernel
theorem dX6_noise_100 : decode cX6_noise 100 = .ok (.lload 4, 2) := by decide +kernel
theorem dX6_noise_102 : decode cX6_noise 102 = .ok (.aload_n 0, 1) := by decide +kernel
theorem dX6_noise_103 : decode cX6_noise 103 = .ok (.getfield 7, 3) := by decide +kernel
theorem dX6_noise_106 : decode cX6_noise 106 = .ok (.iconst 5, 1) := by decide +kernel
theorem dX6_noise_107 : decode cX6_noise 107 = .ok (.iload 6, 2) := by decide +kernel
theorem dX6_noise_109 : decode cX6_noise 109 = .ok (.iadd, 1) := by decide +kernel
theorem dX6_noise_110 : decode cX6_noise 110 = .ok (.laload, 1) := by decide +kernel
theorem dX6_noise_111 : decode cX6_noise 111 = .ok (.ladd, 1) := by decide +kernel
theorem dX6_noise_112 : decode cX6_noise 112 = .ok (.lstore 4, 2) := by decide +kernel
theorem dX6_noise_114 : decode cX6_noise 114 = .ok (.iinc 6 1, 3) := by decide +kernel
theorem dX6_noise_117 : decode cX6_noise 117 = .ok (.goto (-61), 3) := by decide +kernel
theorem dX6_noise_120 : decode cX6_noise 120 = .ok (.lload 4, 2) := by decide +kernel
theorem dX6_noise_122 : decode cX6_noise 122 = .ok (.lreturn, 1) := by decide +kernel
set_option maxHeartbeats 4000000 in
set_option maxRecDepth 100000 in
theorem X6_noise (l : Launch) (κ : Kt) (σ0 : Gh) (this : Nat) (sd : Int32) (lv : Int32) (t_this : zk σ0 this 20) (h0 : RI κ σ0 this) : TC l yX6_noise cX6_noise 7 (some .long) 2 45 [.ref this, .int sd, .int lv] κ σ0 (tql κ gX σ0 (fun (r : Int64) (τ : Gh) => (RI κ τ this))) := by
  refine TC.of gX (by decide +kernel) (Nat.le_of_ble_eq_true rfl) ?_
  intro p e s m below meth c ls hcs hK hX hT hl
  obtain ⟨hx, hb, hr, hml, hown, hg, hlocks, hin⟩ := hcs
  have hown : s.vm.findClass RX6 = some m.cls := hown
  have hl : lv_has ls 7 [(0, .ref this), (1, .int sd), (2, .int lv)] := hl
  have hT0 := hT
  have nm1 : ((-1) : Int32).toInt = (-1) := by decide
  have n0 : (0 : Int32).toInt = 0 := by decide
  have n1 : (1 : Int32).toInt = 1 := by decide
  have n2 : (2 : Int32).toInt = 2 := by decide
  have n5 : (5 : Int32).toInt = 5 := by decide
  have n7 : (7 : Int32).toInt = 7 := by decide
  have n16 : (16 : Int32).toInt = 16 := by decide
  have n12345 : (12345 : Int32).toInt = 12345 := by decide
  have n1103515245 : (1103515245 : Int32).toInt = 1103515245 := by decide
  have j0 : (0 : Int64).toInt = 0 := by decide
  have j999 : (999 : Int64).toInt = 999 := by decide
  have sd_lo := Int32.le_toInt sd
  have sd_hi := Int32.toInt_lt sd
  have lv_lo := Int32.le_toInt lv
  have lv_hi := Int32.toInt_lt lv
  generalize hQ9 : tQ _ _ _ _ _ _ = Q9
  obtain ⟨rW, erW⟩ : ∃ z, kR κ this 1 = z := ⟨_, rfl⟩
  have trW : zk σ0 rW 21 := by rw [← erW]; exact h0.1.2.1
  obtain ⟨rP, erP⟩ : ∃ z, kR κ this 5 = z := ⟨_, rfl⟩
  have trP : zk σ0 rP 25 := by rw [← erP]; exact h0.1.2.2.2.2
  have hB0 := h0.b
  rw [erW] at hB0
  have hW := h0.2.1
  rw [erW] at hW
  have hP := h0.2.2.1
  rw [erP] at hP
  have hrN : (rN σ0 this : Int) = (zI σ0 this 7).toInt := by unfold rN; omega
  refine lv_aload_n hx hb dX6_noise_0 rfl (lv_at hl 0 rfl) ?_
  refine lv_iload_n hx hb dX6_noise_1 rfl (lv_at hl 2 rfl) ?_
  refine lv_i2l hx hb dX6_noise_2 rfl ?_
  refine g_i2l (fun t1 ht1 => ?_)
  refine lv_lconst (v := 0) hx hb dX6_noise_3 (by decide) ?_
  refine lv_ldc2 hx hb hown (hg _ k1577) dX6_noise_4 ?_
  have hTo := hT
  refine tSi (n := 3) (As := [.long t1, .long 0, .long 999]) (rest := [.ref this]) hx hb hml hown hg hT hK hX (X6_in l κ σ0 t1 0 999   ) sub_fE_gX (mwS k1317 k1318 k92 k1319) ⟨rfl, by decide, by decide, by decide +kernel⟩ ⟨(Nat.le_of_ble_eq_true rfl), (Nat.le_of_ble_eq_true rfl)⟩ rfl hl.1 rfl (Nat.le_of_ble_eq_true rfl) dX6_noise_7 zroom.rf (fun x2 s3 H locs hφ hEs3 hT => ?_)
  have R4 : RI κ s3 this := h0.ext hEs3 ⟨rfl, rfl, fun _ => rfl, fun _ => rfl, fun _ => rfl, fun _ => rfl⟩
  have B5 := R4.b
  rw [erW] at B5
  have K6 : zI s3 this 7 = zI σ0 this 7 := hT.eI t_this (by decide) rfl rfl
  have K6n : (zI s3 this 7).toInt = (zI σ0 this 7).toInt := by rw [K6]
  have P7 : zI s3 rP = zI σ0 rP := funext fun k => hT.eI trP (by decide) rfl rfl
  try simp only [K6, P7] at B5
  obtain ⟨f8, f9⟩ := hφ
  try simp only [erW, erP, ix_0, ix_1, ix_2, ix_3, ix_4, ix_5, ix_6, ix_7, ix_8, ix_9, K6, P7] at f8
  refine lv_if_eq (tgt := 17) hx hb dX6_noise_10 (by decide) (fun c9 => ?_) (fun c9 => ?_)
  · have c1 := gi_eq c9
    refine lv_iconst (v := 1) hx hb dX6_noise_17 (by decide) ?_
    have hTo := hT
    refine pf20_0 hx hb hg hown hK hT (hT.k t_this (by decide)) rfl (hg _ k1219) dX6_noise_18 (fun H locs s10 hus10 hT => ?_)
    have R11 : RI κ s10 this := R4.put hus10 (hTo.k t_this (by decide)) (by decide)
    have B12 := R11.b
    rw [erW] at B12
    have K13 : zI s10 this 7 = zI σ0 this 7 := hT.eI t_this (by decide) rfl rfl
    have K13n : (zI s10 this 7).toInt = (zI σ0 this 7).toInt := by rw [K13]
    have P14 : zI s10 rP = zI σ0 rP := funext fun k => hT.eI trP (by decide) rfl rfl
    try simp only [K13, P14] at B12
    have e15 : zI s10 this 0 = 1 := zput_at hus10
    refine lv_aload_n hx hb dX6_noise_21 rfl (lv_at hl 0 rfl) ?_
    refine va_get (D := κ.1) (ci := 6) (v := .int (zI s10 this 0)) (C := RX6) (T := TX6) (N := 27) hx hb hg inX6 hown hK (hT.o20 (hT.k t_this (by decide))).one 0 rfl rfl 0 (by decide) (hg _ k1219) (fun _ h9 => h9) rfl dX6_noise_22 ?_
    rw [e15]
    refine lv_if_le (tgt := 30) hx hb dX6_noise_25 (by decide) (fun c9 => absurd c9 (by decide)) (fun _ => ?_)
    refine lv_lconst (v := 0) hx hb dX6_noise_28 (by decide) ?_
    subst hQ9
    exact t_l hx hb hr hlocks hT R11 dX6_noise_29
  · have c2 := gi_ne c9
    refine lv_iconst (v := 0) hx hb dX6_noise_13 (by decide) ?_
    refine lv_goto (tgt := 18) hx hb dX6_noise_14 (by decide) ?_
    have hTo := hT
    refine pf20_0 hx hb hg hown hK hT (hT.k t_this (by decide)) rfl (hg _ k1219) dX6_noise_18 (fun H locs s16 hus16 hT => ?_)
    have R17 : RI κ s16 this := R4.put hus16 (hTo.k t_this (by decide)) (by decide)
    have B18 := R17.b
    rw [erW] at B18
    have K19 : zI s16 this 7 = zI σ0 this 7 := hT.eI t_this (by decide) rfl rfl
    have K19n : (zI s16 this 7).toInt = (zI σ0 this 7).toInt := by rw [K19]
    have P20 : zI s16 rP = zI σ0 rP := funext fun k => hT.eI trP (by decide) rfl rfl
    try simp only [K19, P20] at B18
    have e21 : zI s16 this 0 = 0 := zput_at hus16
    refine lv_aload_n hx hb dX6_noise_21 rfl (lv_at hl 0 rfl) ?_
    refine va_get (D := κ.1) (ci := 6) (v := .int (zI s16 this 0)) (C := RX6) (T := TX6) (N := 27) hx hb hg inX6 hown hK (hT.o20 (hT.k t_this (by decide))).one 0 rfl rfl 0 (by decide) (hg _ k1219) (fun _ h9 => h9) rfl dX6_noise_22 ?_
    rw [e21]
    refine lv_if_le (tgt := 30) hx hb dX6_noise_25 (by decide) (fun _ => ?_) (fun c9 => absurd (by decide) c9)
    refine lv_aload_n hx hb dX6_noise_30 rfl (lv_at hl 0 rfl) ?_
    have hTo := hT
    refine tVi (n := 0) (As := []) (rest := []) hx hb hml hown hg hT hK hX (X6_steps l κ s16 this  (hT.k t_this (by decide)) R17) sub_fE_gX (mwV k1416 k1418 k52 k92 k1419) ⟨rfl, by decide, by decide, by decide +kernel⟩ ⟨(Nat.le_of_ble_eq_true rfl), (Nat.le_of_ble_eq_true rfl)⟩ (hT.o20 (hT.k t_this (by decide))) rfl rfl hl.1 rfl (Nat.le_of_ble_eq_true rfl) dX6_noise_31 zroom.rf (fun x22 s23 H locs hφ hEs23 hT => ?_)
    have e21 : zI s23 this 0 = 0 := ((hTo.k t_this (by decide)).eI hEs23 (by decide) rfl).trans e21
    have R24 : RI κ s23 this := R17.ext hEs23 ⟨rfl, rfl, fun _ => rfl, fun _ => rfl, fun _ => rfl, fun _ => rfl⟩
    have B25 := R24.b
    rw [erW] at B25
    have K26 : zI s23 this 7 = zI σ0 this 7 := hT.eI t_this (by decide) rfl rfl
    have K26n : (zI s23 this 7).toInt = (zI σ0 this 7).toInt := by rw [K26]
    have P27 : zI s23 rP = zI σ0 rP := funext fun k => hT.eI trP (by decide) rfl rfl
    try simp only [K26, P27] at B25
    have f28 := hφ
    try simp only [erW, erP, ix_0, ix_1, ix_2, ix_3, ix_4, ix_5, ix_6, ix_7, ix_8, ix_9, K19, P20, K26, P27] at f28
    refine lv_if_le (tgt := 48) hx hb dX6_noise_34 (by decide) (fun c9 => ?_) (fun c9 => ?_)
    · have c3 := gi_le c9
      refine lv_iload_n hx hb dX6_noise_48 rfl (lv_at hl 1 rfl) ?_
      refine lv_istore_n (lv' := [(3, .int sd), (0, .ref this), (1, .int sd), (2, .int lv)]) hx hb dX6_noise_49 rfl hl (by decide) rfl (fun ls hl => ?_)
      refine lv_lconst (v := 0) hx hb dX6_noise_50 (by decide) ?_
      refine lv_lstore (lv' := [(4, .long 0), (3, .int sd), (0, .ref this), (1, .int sd), (2, .int lv)]) hx hb dX6_noise_51 hl (by decide) rfl (fun ls hl => ?_)
      refine lv_iconst (v := 0) hx hb dX6_noise_53 (by decide) ?_
      refine lv_istore (lv' := [(6, .int 0), (4, .long 0), (3, .int sd), (0, .ref this), (1, .int sd), (2, .int lv)]) hx hb dX6_noise_54 hl (by decide) rfl (fun ls hl => ?_)
      have loop56 : ∀ (n9 : Nat) (x1 : Int32) (sm : Int64) (k : Int32) (H : Heap) (locs : List Loc) (sg : Gh) (ls : Array Slot), TS κ gX σ0 sg s H locs → (RI κ sg this) → (0 ≤ k.toInt) → (k.toInt ≤ 48) → lv_has ls 7 [(3, .int x1), (4, .long sm), (6, .int k), (0, .ref this), (1, .int sd), (2, .int lv)] → (48 - k.toInt) < n9 → tW p l e 2 45 κ s m #[.ref this, .int sd, .int lv] below meth c H locs Q9 (F0 m 56 ls []) := by
        intro n9
        induction n9 with
        | zero =>
          intro x1 sm k H locs sg ls hT RI0 q1 q2 hl hm9
          exfalso
          omega
        | succ n9 ih9 =>
          have ih56 := ih9
          clear ih9
          intro x1 sm k H locs s29 ls hT RI0 q1 q2 hl hm9
          have B30 := RI0.b
          rw [erW] at B30
          have K31 : zI s29 this 7 = zI σ0 this 7 := hT.eI t_this (by decide) rfl rfl
          have K31n : (zI s29 this 7).toInt = (zI σ0 this 7).toInt := by rw [K31]
          have P32 : zI s29 rP = zI σ0 rP := funext fun k => hT.eI trP (by decide) rfl rfl
          try simp only [K31, P32] at B30
          refine lv_iload hx hb dX6_noise_56 (lv_at hl 2 rfl) ?_
          refine lv_aload_n hx hb dX6_noise_58 rfl (lv_at hl 3 rfl) ?_
          obtain ⟨v33, ev33⟩ : ∃ zz9 : Int32, zI σ0 this 7 = zz9 := ⟨_, rfl⟩
          have qv33 : v33.toInt = (zI σ0 this 7).toInt := by rw [ev33]
          refine va_get (D := κ.1) (ci := 6) (v := .int (zI s29 this 7)) (C := RX6) (T := TX6) (N := 27) hx hb hg inX6 hown hK (hT.o20 (hT.k t_this (by decide))).one 0 rfl rfl 7 (by decide) (hg _ k1226) (fun _ h9 => h9) rfl dX6_noise_59 ?_
          rw [(hT.eI t_this (by decide) rfl ev33)]
          refine lv_icmp_ge (tgt := 120) hx hb dX6_noise_62 (by decide) (fun c9 => ?_) (fun c9 => ?_)
          · have c4 := gi_le c9
            refine lv_lload hx hb dX6_noise_120 (lv_at hl 1 rfl) ?_
            subst hQ9
            exact t_l hx hb hr hlocks hT RI0 dX6_noise_122
          · have c5 := gi_nle c9
            refine lv_iload_n hx hb dX6_noise_65 rfl (lv_at hl 0 rfl) ?_
            refine lv_ldcw hx hb hown (hg _ k1578) dX6_noise_66 ?_
            refine lv_imul hx hb dX6_noise_69 ?_
            first | (refine g_mul (by rw [n1103515245]; omega) (by rw [n1103515245]; omega) (fun t34 ht34 => ?_); rw [n1103515245] at ht34) | refine lv_topi (fun t34 ht34 => ?_)
            refine lv_sipush (v := 12345) hx hb dX6_noise_70 (by decide) ?_
            refine lv_iadd hx hb dX6_noise_73 ?_
            first | refine g_add (by omega) (by omega) (fun t35 ht35 => ?_) | refine lv_topi (fun t35 ht35 => ?_)
            refine lv_istore_n (lv' := [(3, .int t35), (4, .long sm), (6, .int k), (0, .ref this), (1, .int sd), (2, .int lv)]) hx hb dX6_noise_74 rfl hl (by decide) rfl (fun ls hl => ?_)
            refine lv_aload_n hx hb dX6_noise_75 rfl (lv_at hl 3 rfl) ?_
            refine va_get (D := κ.1) (ci := 6) (v := .ref (kR κ this 1)) (C := RX6) (T := TX6) (N := 27) hx hb hg inX6 hown hK (hT.o20 (hT.k t_this (by decide))).one 0 rfl rfl 1 (by decide) (hg _ k1220) (fun _ h9 => h9) rfl dX6_noise_76 ?_
            rw [erW]
            refine lv_iconst (v := 5) hx hb dX6_noise_79 (by decide) ?_
            refine lv_iload hx hb dX6_noise_80 (lv_at hl 2 rfl) ?_
            refine lv_iadd hx hb dX6_noise_82 ?_
            first | refine g_add (by omega) (by omega) (fun t36 ht36 => ?_) | refine lv_topi (fun t36 ht36 => ?_)
            refine lv_dup2_11 hx hb dX6_noise_83 rfl rfl ?_
            refine va_lald hx hb hK (hT.o21 (hT.k trW (by decide))).one 0 1 rfl rfl (g_in (by omega) (by omega)) dX6_noise_84 ?_
            refine lv_topl (fun t37 ht37 => ?_)
            refine lv_iload_n hx hb dX6_noise_85 rfl (lv_at hl 0 rfl) ?_
            refine lv_bipush (v := 16) hx hb dX6_noise_86 (by decide) ?_
            refine lv_iushr hx hb dX6_noise_88 rfl ?_
            refine lv_topi (fun t38 ht38 => ?_)
            refine lv_iconst (v := 2) hx hb dX6_noise_89 (by decide) ?_
            refine lv_iload_n hx hb dX6_noise_90 rfl (lv_at hl 5 rfl) ?_
            refine lv_imul hx hb dX6_noise_91 ?_
            first | (refine g_mul (by rw [n2]; omega) (by rw [n2]; omega) (fun t39 ht39 => ?_); rw [n2] at ht39) | refine lv_topi (fun t39 ht39 => ?_)
            refine lv_iconst (v := 1) hx hb dX6_noise_92 (by decide) ?_
            refine lv_iadd hx hb dX6_noise_93 ?_
            first | refine g_add (by omega) (by omega) (fun t40 ht40 => ?_) | refine lv_topi (fun t40 ht40 => ?_)
            refine lv_irem hx hb dX6_noise_94 (gi_nz (by omega)) ?_
            refine lv_topi (fun t41 ht41 => ?_)
            refine lv_iload_n hx hb dX6_noise_95 rfl (lv_at hl 5 rfl) ?_
            refine lv_isub hx hb dX6_noise_96 ?_
            first | refine g_sub (by omega) (by omega) (fun t42 ht42 => ?_) | refine lv_topi (fun t42 ht42 => ?_)
            refine lv_i2l hx hb dX6_noise_97 rfl ?_
            refine g_i2l (fun t43 ht43 => ?_)
            refine lv_ladd hx hb dX6_noise_98 ?_
            refine lv_topl (fun t44 ht44 => ?_)
            have hTo := hT
            refine tastlx (n := 609) hx hb hK hT (hT.k trW (by decide)) ⟨by decide, by decide⟩ (fun _ _ _ => rfl) (fun _ _ => trivial) (by omega) (by omega) (ge3_gX _ (by unfold ix; omega)) dX6_noise_99 (fun H locs s45 hus45 hT => ?_)
            have R46 : RI κ s45 this := RI0.pulw hus45 erW (nrel (by unfold ix; omega))
            have B47 := R46.b
            rw [erW] at B47
            have K48 : zI s45 this 7 = zI σ0 this 7 := hT.eI t_this (by decide) rfl rfl
            have K48n : (zI s45 this 7).toInt = (zI σ0 this 7).toInt := by rw [K48]
            have P49 : zI s45 rP = zI σ0 rP := funext fun k => hT.eI trP (by decide) rfl rfl
            try simp only [K48, P49] at B47
            refine lv_lload hx hb dX6_noise_100 (lv_at hl 1 rfl) ?_
            refine lv_aload_n hx hb dX6_noise_102 rfl (lv_at hl 3 rfl) ?_
            refine va_get (D := κ.1) (ci := 6) (v := .ref (kR κ this 1)) (C := RX6) (T := TX6) (N := 27) hx hb hg inX6 hown hK (hT.o20 (hT.k t_this (by decide))).one 0 rfl rfl 1 (by decide) (hg _ k1220) (fun _ h9 => h9) rfl dX6_noise_103 ?_
            rw [erW]
            refine lv_iconst (v := 5) hx hb dX6_noise_106 (by decide) ?_
            refine lv_iload hx hb dX6_noise_107 (lv_at hl 2 rfl) ?_
            refine lv_iadd hx hb dX6_noise_109 ?_
            first | refine g_add (by omega) (by omega) (fun t50 ht50 => ?_) | refine lv_topi (fun t50 ht50 => ?_)
            refine va_lald hx hb hK (hT.o21 (hT.k trW (by decide))).one 0 1 rfl rfl (g_in (by omega) (by omega)) dX6_noise_110 ?_
            refine lv_topl (fun t51 ht51 => ?_)
            refine lv_ladd hx hb dX6_noise_111 ?_
            refine lv_topl (fun t52 ht52 => ?_)
            refine lv_lstore (lv' := [(4, .long t52), (3, .int t35), (6, .int k), (0, .ref this), (1, .int sd), (2, .int lv)]) hx hb dX6_noise_112 hl (by decide) rfl (fun ls hl => ?_)
            obtain ⟨t53, qt53⟩ : ∃ zz9 : Int32, k + Int32.ofInt 1 = zz9 := ⟨_, rfl⟩
            refine lv_iinc (v := t53) (lv' := [(6, .int t53), (4, .long t52), (3, .int t35), (0, .ref this), (1, .int sd), (2, .int lv)]) hx hb dX6_noise_114 hl (k := 2) rfl qt53 (by decide) rfl (fun ls hl => ?_)
            have ht53 : t53.toInt = k.toInt + 1 := by rw [← qt53]; exact v_addi rfl (show (Int32.ofInt 1).toInt = 1 from by decide) (by omega) (by omega)
            refine lv_goto (tgt := 56) hx hb dX6_noise_117 (by decide) ?_
            exact ih56 t35 t52 t53 _ _ _ _ hT  R46 (by omega) (by omega) (lv_sub hl [2, 1, 0, 3, 4, 5] rfl) (by omega)
      exact loop56 ((48 - (0 : Int32).toInt).toNat + 1) sd 0 0 _ _ _ _ hT  R24 (by omega) (by omega) (lv_sub hl [2, 1, 0, 3, 4, 5] rfl) (by omega)
    · have c6 := gi_nle c9
      refine lv_aload_n hx hb dX6_noise_37 rfl (lv_at hl 0 rfl) ?_
      refine lv_iconst (v := 2) hx hb dX6_noise_38 (by decide) ?_
      refine lv_bipush (v := 7) hx hb dX6_noise_39 (by decide) ?_
      refine lv_iconst (v := 0) hx hb dX6_noise_41 (by decide) ?_
      refine lv_iconst (v := (-1)) hx hb dX6_noise_42 (by decide) ?_
      have hTo := hT
      refine tVi (n := 4) (As := [.int 2, .int 7, .int 0, .int (-1)]) (rest := []) hx hb hml hown hg hT hK hX (X6_stateFails l κ s23 this 2 7 0 (-1)  (hT.k t_this (by decide)) R24) sub_gR_gX (mwV k1569 k1571 k70 k92 k1572) ⟨rfl, by decide, by decide, by decide +kernel⟩ ⟨(Nat.le_of_ble_eq_true rfl), (Nat.le_of_ble_eq_true rfl)⟩ (hT.o20 (hT.k t_this (by decide))) rfl rfl hl.1 rfl (Nat.le_of_ble_eq_true rfl) dX6_noise_43 zroom.rf (fun x54 s55 H locs hφ hEs55 hT => ?_)
      have R56 : RI κ s55 this := R24.ext hEs55 ⟨rfl, rfl, fun _ => rfl, fun _ => rfl, fun _ => rfl, fun _ => rfl⟩
      have B57 := R56.b
      rw [erW] at B57
      have K58 : zI s55 this 7 = zI σ0 this 7 := hT.eI t_this (by decide) rfl rfl
      have K58n : (zI s55 this 7).toInt = (zI σ0 this 7).toInt := by rw [K58]
      have P59 : zI s55 rP = zI σ0 rP := funext fun k => hT.eI trP (by decide) rfl rfl
      try simp only [K58, P59] at B57
      refine lv_i2l hx hb dX6_noise_46 rfl ?_
      refine g_i2l (fun t60 ht60 => ?_)
      subst hQ9
      exact t_l hx hb hr hlocks hT R56 dX6_noise_47
set_option maxHeartbeats 4000000 in
set_option maxRecDepth 100000 in
theorem X6_keepLargest (l : Launch) (κ : Kt) (σ0 : Gh) (this : Nat) (nu : Int32) (t_this : zk σ0 this 20) (h0 : RI κ σ0 this) : TC l yX6_keepLargest cX6_keepLargest 6 (some .long) 2 49 [.ref this, .int nu] κ σ0 (tql κ gZ σ0 (fun (r : Int64) (τ : Gh) => (RI κ τ this))) := by
  refine TC.of gZ (by decide +kernel) (Nat.le_of_ble_eq_true rfl) ?_
  intro p e s m below meth c ls hcs hK hX hT hl
  obtain ⟨hx, hb, hr, hml, hown, hg, hlocks, hin⟩ := hcs
  have hown : s.vm.findClass RX6 = some m.cls := hown
  have hl : lv_has ls 6 [(0, .ref this), (1, .int nu)] := hl
  have hT0 := hT
  have n0 : (0 : Int32).toInt = 0 := by decide
  have n1 : (1 : Int32).toInt = 1 := by decide
  have n3 : (3 : Int32).toInt = 3 := by decide
  have j0 : (0 : Int64).toInt = 0 := by decide
  have j1 : (1 : Int64).toInt = 1 := by decide
  have j46 : (46 : Int64).toInt = 46 := by decide
  have nu_lo := Int32.le_toInt nu
  have nu_hi := Int32.toInt_lt nu
  generalize hQ9 : tQ _ _ _ _ _ _ = Q9
  obtain ⟨rW, erW⟩ : ∃ z, kR κ this 1 = z := ⟨_, rfl⟩
  have trW : zk σ0 rW 21 := by rw [← erW]; exact h0.1.2.1
  obtain ⟨rP, erP⟩ : ∃ z, kR κ this 5 = z := ⟨_, rfl⟩
  have trP : zk σ0 rP 25 := by rw [← erP]; exact h0.1.2.2.2.2
  have hB0 := h0.b
  rw [erW] at hB0
  have hW := h0.2.1
  rw [erW] at hW
  have hP := h0.2.2.1
  rw [erP] at hP
  have hrN : (rN σ0 this : Int) = (zI σ0 this 7).toInt := by unfold rN; omega
  refine lv_aload_n hx hb dX6_keepLargest_0 rfl (lv_at hl 0 rfl) ?_
  refine lv_iload_n hx hb dX6_keepLargest_1 rfl (lv_at hl 1 rfl) ?_
  refine lv_i2l hx hb dX6_keepLargest_2 rfl ?_
  refine g_i2l (fun t1 ht1 => ?_)
  refine lv_lconst (v := 0) hx hb dX6_keepLargest_3 (by decide) ?_
  refine lv_ldc2 hx hb hown (hg _ k1587) dX6_keepLargest_4 ?_
  have hTo := hT
  refine tSi (n := 3) (As := [.long t1, .long 0, .long 46]) (rest := [.ref this]) hx hb hml hown hg hT hK hX (X6_in l κ σ0 t1 0 46   ) sub_fE_gZ (mwS k1317 k1318 k92 k1319) ⟨rfl, by decide, by decide, by decide +kernel⟩ ⟨(Nat.le_of_ble_eq_true rfl), (Nat.le_of_ble_eq_true rfl)⟩ rfl hl.1 rfl (Nat.le_of_ble_eq_true rfl) dX6_keepLargest_7 zroom.rf (fun x2 s3 H locs hφ hEs3 hT => ?_)
  have R4 : RI κ s3 this := h0.ext hEs3 ⟨rfl, rfl, fun _ => rfl, fun _ => rfl, fun _ => rfl, fun _ => rfl⟩
  have B5 := R4.b
  rw [erW] at B5
  have K6 : zI s3 this 7 = zI σ0 this 7 := hT.eI t_this (by decide) rfl rfl
  have K6n : (zI s3 this 7).toInt = (zI σ0 this 7).toInt := by rw [K6]
  have P7 : zI s3 rP = zI σ0 rP := funext fun k => hT.eI trP (by decide) rfl rfl
  try simp only [K6, P7] at B5
  obtain ⟨f8, f9⟩ := hφ
  try simp only [erW, erP, ix_0, ix_1, ix_2, ix_3, ix_4, ix_5, ix_6, ix_7, ix_8, ix_9, K6, P7] at f8
  refine lv_if_eq (tgt := 17) hx hb dX6_keepLargest_10 (by decide) (fun c9 => ?_) (fun c9 => ?_)
  · have c1 := gi_eq c9
    refine lv_iconst (v := 1) hx hb dX6_keepLargest_17 (by decide) ?_
    have hTo := hT
    refine pf20_0 hx hb hg hown hK hT (hT.k t_this (by decide)) rfl (hg _ k1219) dX6_keepLargest_18 (fun H locs s10 hus10 hT => ?_)
    have R11 : RI κ s10 this := R4.put hus10 (hTo.k t_this (by decide)) (by decide)
    have B12 := R11.b
    rw [erW] at B12
    have K13 : zI s10 this 7 = zI σ0 this 7 := hT.eI t_this (by decide) rfl rfl
    have K13n : (zI s10 this 7).toInt = (zI σ0 this 7).toInt := by rw [K13]
    have P14 : zI s10 rP = zI σ0 rP := funext fun k => hT.eI trP (by decide) rfl rfl
    try simp only [K13, P14] at B12
    have e15 : zI s10 this 0 = 1 := zput_at hus10
    refine lv_aload_n hx hb dX6_keepLargest_21 rfl (lv_at hl 0 rfl) ?_
    refine va_get (D := κ.1) (ci := 6) (v := .int (zI s10 this 0)) (C := RX6) (T := TX6) (N := 27) hx hb hg inX6 hown hK (hT.o20 (hT.k t_this (by decide))).one 0 rfl rfl 0 (by decide) (hg _ k1219) (fun _ h9 => h9) rfl dX6_keepLargest_22 ?_
    rw [e15]
    refine lv_if_le (tgt := 30) hx hb dX6_keepLargest_25 (by decide) (fun c9 => absurd c9 (by decide)) (fun _ => ?_)
    refine lv_lconst (v := 0) hx hb dX6_keepLargest_28 (by decide) ?_
    subst hQ9
    exact t_l hx hb hr hlocks hT R11 dX6_keepLargest_29
  · have c2 := gi_ne c9
    refine lv_iconst (v := 0) hx hb dX6_keepLargest_13 (by decide) ?_
    refine lv_goto (tgt := 18) hx hb dX6_keepLargest_14 (by decide) ?_
    have hTo := hT
    refine pf20_0 hx hb hg hown hK hT (hT.k t_this (by decide)) rfl (hg _ k1219) dX6_keepLargest_18 (fun H locs s16 hus16 hT => ?_)
    have R17 : RI κ s16 this := R4.put hus16 (hTo.k t_this (by decide)) (by decide)
    have B18 := R17.b
    rw [erW] at B18
    have K19 : zI s16 this 7 = zI σ0 this 7 := hT.eI t_this (by decide) rfl rfl
    have K19n : (zI s16 this 7).toInt = (zI σ0 this 7).toInt := by rw [K19]
    have P20 : zI s16 rP = zI σ0 rP := funext fun k => hT.eI trP (by decide) rfl rfl
    try simp only [K19, P20] at B18
    have e21 : zI s16 this 0 = 0 := zput_at hus16
    refine lv_aload_n hx hb dX6_keepLargest_21 rfl (lv_at hl 0 rfl) ?_
    refine va_get (D := κ.1) (ci := 6) (v := .int (zI s16 this 0)) (C := RX6) (T := TX6) (N := 27) hx hb hg inX6 hown hK (hT.o20 (hT.k t_this (by decide))).one 0 rfl rfl 0 (by decide) (hg _ k1219) (fun _ h9 => h9) rfl dX6_keepLargest_22 ?_
    rw [e21]
    refine lv_if_le (tgt := 30) hx hb dX6_keepLargest_25 (by decide) (fun _ => ?_) (fun c9 => absurd (by decide) c9)
    refine lv_iconst (v := 0) hx hb dX6_keepLargest_30 (by decide) ?_
    refine lv_istore_n (lv' := [(2, .int 0), (0, .ref this), (1, .int nu)]) hx hb dX6_keepLargest_31 rfl hl (by decide) rfl (fun ls hl => ?_)
    refine lv_iconst (v := 0) hx hb dX6_keepLargest_32 (by decide) ?_
    refine lv_istore_n (lv' := [(3, .int 0), (2, .int 0), (0, .ref this), (1, .int nu)]) hx hb dX6_keepLargest_33 rfl hl (by decide) rfl (fun ls hl => ?_)
    have loop34 : ∀ (n9 : Nat) (k : Int32) (ot : Int32) (H : Heap) (locs : List Loc) (sg : Gh) (ls : Array Slot), TS κ gZ σ0 sg s H locs → (RI κ sg this) → (0 ≤ k.toInt) → (k.toInt ≤ 46) → lv_has ls 6 [(3, .int k), (2, .int ot), (0, .ref this), (1, .int nu)] → (46 - k.toInt) < n9 → tW p l e 2 49 κ s m #[.ref this, .int nu] below meth c H locs Q9 (F0 m 34 ls []) := by
      intro n9
      induction n9 with
      | zero =>
        intro k ot H locs sg ls hT RI0 q1 q2 hl hm9
        exfalso
        omega
      | succ n9 ih9 =>
        have ih34 := ih9
        clear ih9
        intro k ot H locs s22 ls hT RI0 q1 q2 hl hm9
        have B23 := RI0.b
        rw [erW] at B23
        have K24 : zI s22 this 7 = zI σ0 this 7 := hT.eI t_this (by decide) rfl rfl
        have K24n : (zI s22 this 7).toInt = (zI σ0 this 7).toInt := by rw [K24]
        have P25 : zI s22 rP = zI σ0 rP := funext fun k => hT.eI trP (by decide) rfl rfl
        try simp only [K24, P25] at B23
        refine lv_iload_n hx hb dX6_keepLargest_34 rfl (lv_at hl 0 rfl) ?_
        refine lv_aload_n hx hb dX6_keepLargest_35 rfl (lv_at hl 2 rfl) ?_
        have hTo := hT
        refine tVi (n := 0) (As := []) (rest := [.int k]) hx hb hml hown hg hT hK hX (X6_steps l κ s22 this  (hT.k t_this (by decide)) RI0) sub_fE_gZ (mwV k1416 k1418 k52 k92 k1419) ⟨rfl, by decide, by decide, by decide +kernel⟩ ⟨(Nat.le_of_ble_eq_true rfl), (Nat.le_of_ble_eq_true rfl)⟩ (hT.o20 (hT.k t_this (by decide))) rfl rfl hl.1 rfl (Nat.le_of_ble_eq_true rfl) dX6_keepLargest_36 zroom.rf (fun x26 s27 H locs hφ hEs27 hT => ?_)
        have R28 : RI κ s27 this := RI0.ext hEs27 ⟨rfl, rfl, fun _ => rfl, fun _ => rfl, fun _ => rfl, fun _ => rfl⟩
        have B29 := R28.b
        rw [erW] at B29
        have K30 : zI s27 this 7 = zI σ0 this 7 := hT.eI t_this (by decide) rfl rfl
        have K30n : (zI s27 this 7).toInt = (zI σ0 this 7).toInt := by rw [K30]
        have P31 : zI s27 rP = zI σ0 rP := funext fun k => hT.eI trP (by decide) rfl rfl
        try simp only [K30, P31] at B29
        have f32 := hφ
        try simp only [erW, erP, ix_0, ix_1, ix_2, ix_3, ix_4, ix_5, ix_6, ix_7, ix_8, ix_9, K24, P25, K30, P31] at f32
        have EE33 : zJ s27 rW = zJ s22 rW := funext fun k => (hTo.k trW (by decide)).eJ hEs27 (by decide) rfl
        rw [← EE33] at f32
        refine lv_icmp_ge (tgt := 78) hx hb dX6_keepLargest_39 (by decide) (fun c9 => ?_) (fun c9 => ?_)
        · have c3 := gi_le c9
          refine lv_lconst (v := 0) hx hb dX6_keepLargest_78 (by decide) ?_
          refine lv_lstore_n (lv' := [(3, .long 0), (2, .int ot), (0, .ref this), (1, .int nu)]) hx hb dX6_keepLargest_79 rfl hl (by decide) rfl (fun ls hl => ?_)
          refine lv_iconst (v := 0) hx hb dX6_keepLargest_80 (by decide) ?_
          refine lv_istore (lv' := [(5, .int 0), (3, .long 0), (2, .int ot), (0, .ref this), (1, .int nu)]) hx hb dX6_keepLargest_81 hl (by decide) rfl (fun ls hl => ?_)
          have loop83 : ∀ (n9 : Nat) (k : Int32) (mo : Int64) (H : Heap) (locs : List Loc) (sg : Gh) (ls : Array Slot), TS κ gZ σ0 sg s H locs → (RI κ sg this) → (0 ≤ k.toInt) → (k.toInt ≤ 46) → lv_has ls 6 [(5, .int k), (3, .long mo), (2, .int ot), (0, .ref this), (1, .int nu)] → (46 - k.toInt) < n9 → tW p l e 2 49 κ s m #[.ref this, .int nu] below meth c H locs Q9 (F0 m 83 ls []) := by
            intro n9
            induction n9 with
            | zero =>
              intro k mo H locs sg ls hT RI0 q1 q2 hl hm9
              exfalso
              omega
            | succ n9 ih9 =>
              have ih83 := ih9
              clear ih9
              intro k mo H locs s34 ls hT RI0 q1 q2 hl hm9
              have B35 := RI0.b
              rw [erW] at B35
              have K36 : zI s34 this 7 = zI σ0 this 7 := hT.eI t_this (by decide) rfl rfl
              have K36n : (zI s34 this 7).toInt = (zI σ0 this 7).toInt := by rw [K36]
              have P37 : zI s34 rP = zI σ0 rP := funext fun k => hT.eI trP (by decide) rfl rfl
              try simp only [K36, P37] at B35
              refine lv_iload hx hb dX6_keepLargest_83 (lv_at hl 0 rfl) ?_
              refine lv_aload_n hx hb dX6_keepLargest_85 rfl (lv_at hl 3 rfl) ?_
              have hTo := hT
              refine tVi (n := 0) (As := []) (rest := [.int k]) hx hb hml hown hg hT hK hX (X6_steps l κ s34 this  (hT.k t_this (by decide)) RI0) sub_fE_gZ (mwV k1416 k1418 k52 k92 k1419) ⟨rfl, by decide, by decide, by decide +kernel⟩ ⟨(Nat.le_of_ble_eq_true rfl), (Nat.le_of_ble_eq_true rfl)⟩ (hT.o20 (hT.k t_this (by decide))) rfl rfl hl.1 rfl (Nat.le_of_ble_eq_true rfl) dX6_keepLargest_86 zroom.rf (fun x38 s39 H locs hφ hEs39 hT => ?_)
              have R40 : RI κ s39 this := RI0.ext hEs39 ⟨rfl, rfl, fun _ => rfl, fun _ => rfl, fun _ => rfl, fun _ => rfl⟩
              have B41 := R40.b
              rw [erW] at B41
              have K42 : zI s39 this 7 = zI σ0 this 7 := hT.eI t_this (by decide) rfl rfl
              have K42n : (zI s39 this 7).toInt = (zI σ0 this 7).toInt := by rw [K42]
              have P43 : zI s39 rP = zI σ0 rP := funext fun k => hT.eI trP (by decide) rfl rfl
              try simp only [K42, P43] at B41
              have f44 := hφ
              try simp only [erW, erP, ix_0, ix_1, ix_2, ix_3, ix_4, ix_5, ix_6, ix_7, ix_8, ix_9, K36, P37, K42, P43] at f44
              refine lv_icmp_ge (tgt := 152) hx hb dX6_keepLargest_89 (by decide) (fun c9 => ?_) (fun c9 => ?_)
              · have c4 := gi_le c9
                refine lv_lload_n hx hb dX6_keepLargest_152 rfl (lv_at hl 1 rfl) ?_
                subst hQ9
                exact t_l hx hb hr hlocks hT R40 dX6_keepLargest_153
              · have c5 := gi_nle c9
                refine lv_iload_n hx hb dX6_keepLargest_92 rfl (lv_at hl 2 rfl) ?_
                refine lv_if_le (tgt := 152) hx hb dX6_keepLargest_93 (by decide) (fun c9 => ?_) (fun c9 => ?_)
                · have c6 := gi_le c9
                  refine lv_lload_n hx hb dX6_keepLargest_152 rfl (lv_at hl 1 rfl) ?_
                  subst hQ9
                  exact t_l hx hb hr hlocks hT R40 dX6_keepLargest_153
                · have c7 := gi_nle c9
                  refine lv_aload_n hx hb dX6_keepLargest_96 rfl (lv_at hl 3 rfl) ?_
                  obtain ⟨r45, er45⟩ : ∃ z, kR κ this 2 = z := ⟨_, rfl⟩
                  have tr45 : zk σ0 r45 30 := by rw [← er45]; exact hT0.ref t_this (by decide) (by decide) (by decide)
                  refine va_get (D := κ.1) (ci := 6) (v := .ref (kR κ this 2)) (C := RX6) (T := TX6) (N := 27) hx hb hg inX6 hown hK (hT.o20 (hT.k t_this (by decide))).one 0 rfl rfl 2 (by decide) (hg _ k1221) (fun _ h9 => h9) rfl dX6_keepLargest_97 ?_
                  rw [er45]
                  refine lv_iload hx hb dX6_keepLargest_100 (lv_at hl 0 rfl) ?_
                  refine va_lald hx hb hK (hT.o30 (hT.k tr45 (by decide))).one 0 1 rfl rfl (g_in (by omega) (by omega)) dX6_keepLargest_102 ?_
                  refine lv_topl (fun t46 ht46 => ?_)
                  refine lv_lconst (v := 1) hx hb dX6_keepLargest_103 (by decide) ?_
                  refine W.lcmp hx hb dX6_keepLargest_104 ?_
                  refine lv_if_ne (tgt := 146) hx hb dX6_keepLargest_105 (by decide) (fun c9 => ?_) (fun c9 => ?_)
                  · have c8 := gl_ne c9
                    obtain ⟨t47, qt47⟩ : ∃ zz9 : Int32, k + Int32.ofInt 1 = zz9 := ⟨_, rfl⟩
                    refine lv_iinc (v := t47) (lv' := [(5, .int t47), (3, .long mo), (2, .int ot), (0, .ref this), (1, .int nu)]) hx hb dX6_keepLargest_146 hl (k := 0) rfl qt47 (by decide) rfl (fun ls hl => ?_)
                    have ht47 : t47.toInt = k.toInt + 1 := by rw [← qt47]; exact v_addi rfl (show (Int32.ofInt 1).toInt = 1 from by decide) (by omega) (by omega)
                    refine lv_goto (tgt := 83) hx hb dX6_keepLargest_149 (by decide) ?_
                    exact ih83 t47 mo _ _ _ _ hT  R40 (by omega) (by omega) hl (by omega)
                  · have c9 := gl_eq c9
                    refine lv_aload_n hx hb dX6_keepLargest_108 rfl (lv_at hl 3 rfl) ?_
                    refine lv_iload hx hb dX6_keepLargest_109 (lv_at hl 0 rfl) ?_
                    refine lv_iconst (v := 3) hx hb dX6_keepLargest_111 (by decide) ?_
                    have hTo := hT
                    refine tVl (n := 2) (As := [.int k, .int 3]) (rest := []) hx hb hml hown hg hT hK hX (X6_of l κ s39 this k 3  (hT.k t_this (by decide)) (by omega) (by omega) (by omega) (by omega)) sub_fE_gZ (mwV k1424 k1426 k54 k92 k1427) ⟨rfl, by decide, by decide, by decide +kernel⟩ ⟨(Nat.le_of_ble_eq_true rfl), (Nat.le_of_ble_eq_true rfl)⟩ (hT.o20 (hT.k t_this (by decide))) rfl rfl hl.1 rfl (Nat.le_of_ble_eq_true rfl) dX6_keepLargest_112 zroom.rf (fun x48 s49 H locs hφ hEs49 hT => ?_)
                    have R50 : RI κ s49 this := R40.ext hEs49 ⟨rfl, rfl, fun _ => rfl, fun _ => rfl, fun _ => rfl, fun _ => rfl⟩
                    have B51 := R50.b
                    rw [erW] at B51
                    have K52 : zI s49 this 7 = zI σ0 this 7 := hT.eI t_this (by decide) rfl rfl
                    have K52n : (zI s49 this 7).toInt = (zI σ0 this 7).toInt := by rw [K52]
                    have P53 : zI s49 rP = zI σ0 rP := funext fun k => hT.eI trP (by decide) rfl rfl
                    try simp only [K52, P53] at B51
                    have f54 := hφ
                    try simp only [erW, erP, ix_0, ix_1, ix_2, ix_3, ix_4, ix_5, ix_6, ix_7, ix_8, ix_9, K42, P43, K52, P53] at f54
                    have hTo := hT
                    refine tSl (n := 1) (As := [.long x48]) (rest := []) hx hb hml hown hg hT hK hX (X6_amount l κ s49 x48   ) sub_fE_gZ (mwS k1488 k1489 k92 k1490) ⟨rfl, by decide, by decide, by decide +kernel⟩ ⟨(Nat.le_of_ble_eq_true rfl), (Nat.le_of_ble_eq_true rfl)⟩ rfl hl.1 rfl (Nat.le_of_ble_eq_true rfl) dX6_keepLargest_115 zroom.rf (fun x55 s56 H locs hφ hEs56 hT => ?_)
                    have R57 : RI κ s56 this := R50.ext hEs56 ⟨rfl, rfl, fun _ => rfl, fun _ => rfl, fun _ => rfl, fun _ => rfl⟩
                    have B58 := R57.b
                    rw [erW] at B58
                    have K59 : zI s56 this 7 = zI σ0 this 7 := hT.eI t_this (by decide) rfl rfl
                    have K59n : (zI s56 this 7).toInt = (zI σ0 this 7).toInt := by rw [K59]
                    have P60 : zI s56 rP = zI σ0 rP := funext fun k => hT.eI trP (by decide) rfl rfl
                    try simp only [K59, P60] at B58
                    have f61 := hφ
                    try simp only [erW, erP, ix_0, ix_1, ix_2, ix_3, ix_4, ix_5, ix_6, ix_7, ix_8, ix_9, K52, P53, K59, P60] at f61
                    refine lv_lload_n hx hb dX6_keepLargest_118 rfl (lv_at hl 1 rfl) ?_
                    refine W.lcmp hx hb dX6_keepLargest_119 ?_
                    refine lv_if_le (tgt := 136) hx hb dX6_keepLargest_120 (by decide) (fun c9 => ?_) (fun c9 => ?_)
                    · have c10 := gl_le c9
                      refine lv_lload_n hx hb dX6_keepLargest_136 rfl (lv_at hl 1 rfl) ?_
                      refine lv_lstore_n (lv' := [(3, .long mo), (5, .int k), (2, .int ot), (0, .ref this), (1, .int nu)]) hx hb dX6_keepLargest_137 rfl hl (by decide) rfl (fun ls hl => ?_)
                      refine lv_aload_n hx hb dX6_keepLargest_138 rfl (lv_at hl 3 rfl) ?_
                      refine lv_iload hx hb dX6_keepLargest_139 (lv_at hl 1 rfl) ?_
                      refine lv_iconst (v := 3) hx hb dX6_keepLargest_141 (by decide) ?_
                      refine lv_lconst (v := 0) hx hb dX6_keepLargest_142 (by decide) ?_
                      have hTo := hT
                      refine tVv (n := 3) (As := [.int k, .int 3, .long 0]) (rest := []) hx hb hml hown hg hT hK hX (X6_put l κ s56 this k 3 0  (hT.k t_this (by decide)) (by omega) (by omega) (by omega) (by omega)) sub_gW_gZ (mwV k1600 k1602 k74 k92 k1603) ⟨rfl, by decide, by decide, by decide +kernel⟩ ⟨(Nat.le_of_ble_eq_true rfl), (Nat.le_of_ble_eq_true rfl)⟩ (hT.o20 (hT.k t_this (by decide))) rfl rfl hl.1 rfl (Nat.le_of_ble_eq_true rfl) dX6_keepLargest_143 zroom.rf (fun s63 H locs hφ hEs63 hT => ?_)
                      have f65 := hφ
                      have K66 : zI s63 this 7 = zI σ0 this 7 := hT.eI t_this (by decide) rfl rfl
                      have K66n : (zI s63 this 7).toInt = (zI σ0 this 7).toInt := by rw [K66]
                      have P67 : zI s63 rP = zI σ0 rP := funext fun k => hT.eI trP (by decide) rfl rfl
                      try simp only [erW, erP, ix_0, ix_1, ix_2, ix_3, ix_4, ix_5, ix_6, ix_7, ix_8, ix_9, K59, P60, K66, P67] at f65
                      have R68 : RI κ s63 this := R57.extw hEs63 ⟨rfl, rfl, fun _ => rfl, fun _ => rfl, fun _ => rfl⟩ (by rw [erW, f65]; have q9 := R57.2.1; rw [erW] at q9; exact q9.upd (nrel_s (i := ix k) (k := 3) rfl (by decide)))
                      have B69 := R68.b
                      rw [erW] at B69
                      try simp only [K66, P67] at B69
                      obtain ⟨t70, qt70⟩ : ∃ zz9 : Int32, k + Int32.ofInt 1 = zz9 := ⟨_, rfl⟩
                      refine lv_iinc (v := t70) (lv' := [(5, .int t70), (3, .long mo), (2, .int ot), (0, .ref this), (1, .int nu)]) hx hb dX6_keepLargest_146 hl (k := 1) rfl qt70 (by decide) rfl (fun ls hl => ?_)
                      have ht70 : t70.toInt = k.toInt + 1 := by rw [← qt70]; exact v_addi rfl (show (Int32.ofInt 1).toInt = 1 from by decide) (by omega) (by omega)
                      refine lv_goto (tgt := 83) hx hb dX6_keepLargest_149 (by decide) ?_
                      exact ih83 t70 mo _ _ _ _ hT  R68 (by omega) (by omega) hl (by omega)
                    · have c11 := gl_nle c9
                      refine lv_aload_n hx hb dX6_keepLargest_123 rfl (lv_at hl 3 rfl) ?_
                      refine lv_iload hx hb dX6_keepLargest_124 (lv_at hl 0 rfl) ?_
                      refine lv_iconst (v := 3) hx hb dX6_keepLargest_126 (by decide) ?_
                      have hTo := hT
                      refine tVl (n := 2) (As := [.int k, .int 3]) (rest := []) hx hb hml hown hg hT hK hX (X6_of l κ s56 this k 3  (hT.k t_this (by decide)) (by omega) (by omega) (by omega) (by omega)) sub_fE_gZ (mwV k1424 k1426 k54 k92 k1427) ⟨rfl, by decide, by decide, by decide +kernel⟩ ⟨(Nat.le_of_ble_eq_true rfl), (Nat.le_of_ble_eq_true rfl)⟩ (hT.o20 (hT.k t_this (by decide))) rfl rfl hl.1 rfl (Nat.le_of_ble_eq_true rfl) dX6_keepLargest_127 zroom.rf (fun x71 s72 H locs hφ hEs72 hT => ?_)
                      have R73 : RI κ s72 this := R57.ext hEs72 ⟨rfl, rfl, fun _ => rfl, fun _ => rfl, fun _ => rfl, fun _ => rfl⟩
                      have B74 := R73.b
                      rw [erW] at B74
                      have K75 : zI s72 this 7 = zI σ0 this 7 := hT.eI t_this (by decide) rfl rfl
                      have K75n : (zI s72 this 7).toInt = (zI σ0 this 7).toInt := by rw [K75]
                      have P76 : zI s72 rP = zI σ0 rP := funext fun k => hT.eI trP (by decide) rfl rfl
                      try simp only [K75, P76] at B74
                      have f77 := hφ
                      try simp only [erW, erP, ix_0, ix_1, ix_2, ix_3, ix_4, ix_5, ix_6, ix_7, ix_8, ix_9, K59, P60, K75, P76] at f77
                      have hTo := hT
                      refine tSl (n := 1) (As := [.long x71]) (rest := []) hx hb hml hown hg hT hK hX (X6_amount l κ s72 x71   ) sub_fE_gZ (mwS k1488 k1489 k92 k1490) ⟨rfl, by decide, by decide, by decide +kernel⟩ ⟨(Nat.le_of_ble_eq_true rfl), (Nat.le_of_ble_eq_true rfl)⟩ rfl hl.1 rfl (Nat.le_of_ble_eq_true rfl) dX6_keepLargest_130 zroom.rf (fun x78 s79 H locs hφ hEs79 hT => ?_)
                      have R80 : RI κ s79 this := R73.ext hEs79 ⟨rfl, rfl, fun _ => rfl, fun _ => rfl, fun _ => rfl, fun _ => rfl⟩
                      have B81 := R80.b
                      rw [erW] at B81
                      have K82 : zI s79 this 7 = zI σ0 this 7 := hT.eI t_this (by decide) rfl rfl
                      have K82n : (zI s79 this 7).toInt = (zI σ0 this 7).toInt := by rw [K82]
                      have P83 : zI s79 rP = zI σ0 rP := funext fun k => hT.eI trP (by decide) rfl rfl
                      try simp only [K82, P83] at B81
                      have f84 := hφ
                      try simp only [erW, erP, ix_0, ix_1, ix_2, ix_3, ix_4, ix_5, ix_6, ix_7, ix_8, ix_9, K75, P76, K82, P83] at f84
                      refine lv_goto (tgt := 137) hx hb dX6_keepLargest_133 (by decide) ?_
                      refine lv_lstore_n (lv' := [(3, .long x78), (5, .int k), (2, .int ot), (0, .ref this), (1, .int nu)]) hx hb dX6_keepLargest_137 rfl hl (by decide) rfl (fun ls hl => ?_)
                      refine lv_aload_n hx hb dX6_keepLargest_138 rfl (lv_at hl 3 rfl) ?_
                      refine lv_iload hx hb dX6_keepLargest_139 (lv_at hl 1 rfl) ?_
                      refine lv_iconst (v := 3) hx hb dX6_keepLargest_141 (by decide) ?_
                      refine lv_lconst (v := 0) hx hb dX6_keepLargest_142 (by decide) ?_
                      have hTo := hT
                      refine tVv (n := 3) (As := [.int k, .int 3, .long 0]) (rest := []) hx hb hml hown hg hT hK hX (X6_put l κ s79 this k 3 0  (hT.k t_this (by decide)) (by omega) (by omega) (by omega) (by omega)) sub_gW_gZ (mwV k1600 k1602 k74 k92 k1603) ⟨rfl, by decide, by decide, by decide +kernel⟩ ⟨(Nat.le_of_ble_eq_true rfl), (Nat.le_of_ble_eq_true rfl)⟩ (hT.o20 (hT.k t_this (by decide))) rfl rfl hl.1 rfl (Nat.le_of_ble_eq_true rfl) dX6_keepLargest_143 zroom.rf (fun s86 H locs hφ hEs86 hT => ?_)
                      have f88 := hφ
                      have K89 : zI s86 this 7 = zI σ0 this 7 := hT.eI t_this (by decide) rfl rfl
                      have K89n : (zI s86 this 7).toInt = (zI σ0 this 7).toInt := by rw [K89]
                      have P90 : zI s86 rP = zI σ0 rP := funext fun k => hT.eI trP (by decide) rfl rfl
                      try simp only [erW, erP, ix_0, ix_1, ix_2, ix_3, ix_4, ix_5, ix_6, ix_7, ix_8, ix_9, K82, P83, K89, P90] at f88
                      have R91 : RI κ s86 this := R80.extw hEs86 ⟨rfl, rfl, fun _ => rfl, fun _ => rfl, fun _ => rfl⟩ (by rw [erW, f88]; have q9 := R80.2.1; rw [erW] at q9; exact q9.upd (nrel_s (i := ix k) (k := 3) rfl (by decide)))
                      have B92 := R91.b
                      rw [erW] at B92
                      try simp only [K89, P90] at B92
                      obtain ⟨t93, qt93⟩ : ∃ zz9 : Int32, k + Int32.ofInt 1 = zz9 := ⟨_, rfl⟩
                      refine lv_iinc (v := t93) (lv' := [(5, .int t93), (3, .long x78), (2, .int ot), (0, .ref this), (1, .int nu)]) hx hb dX6_keepLargest_146 hl (k := 1) rfl qt93 (by decide) rfl (fun ls hl => ?_)
                      have ht93 : t93.toInt = k.toInt + 1 := by rw [← qt93]; exact v_addi rfl (show (Int32.ofInt 1).toInt = 1 from by decide) (by omega) (by omega)
                      refine lv_goto (tgt := 83) hx hb dX6_keepLargest_149 (by decide) ?_
                      exact ih83 t93 x78 _ _ _ _ hT  R91 (by omega) (by omega) hl (by omega)
          exact loop83 ((46 - (0 : Int32).toInt).toNat + 1) 0 0 _ _ _ _ hT  R28 (by omega) (by omega) hl (by omega)
        · have c12 := gi_nle c9
          refine lv_aload_n hx hb dX6_keepLargest_42 rfl (lv_at hl 2 rfl) ?_
          obtain ⟨r94, er94⟩ : ∃ z, kR κ this 2 = z := ⟨_, rfl⟩
          have tr94 : zk σ0 r94 30 := by rw [← er94]; exact hT0.ref t_this (by decide) (by decide) (by decide)
          refine va_get (D := κ.1) (ci := 6) (v := .ref (kR κ this 2)) (C := RX6) (T := TX6) (N := 27) hx hb hg inX6 hown hK (hT.o20 (hT.k t_this (by decide))).one 0 rfl rfl 2 (by decide) (hg _ k1221) (fun _ h9 => h9) rfl dX6_keepLargest_43 ?_
          rw [er94]
          refine lv_iload_n hx hb dX6_keepLargest_46 rfl (lv_at hl 0 rfl) ?_
          refine lv_aload_n hx hb dX6_keepLargest_47 rfl (lv_at hl 2 rfl) ?_
          refine lv_iload_n hx hb dX6_keepLargest_48 rfl (lv_at hl 0 rfl) ?_
          have hTo := hT
          refine tVi (n := 1) (As := [.int k]) (rest := [.int k, .ref r94]) hx hb hml hown hg hT hK hX (X6_ahead l κ s27 this k  (hT.k t_this (by decide)) R28 (by omega) (by rw [erW]; omega)) sub_fE_gZ (mwV k1515 k1517 k62 k92 k1518) ⟨rfl, by decide, by decide, by decide +kernel⟩ ⟨(Nat.le_of_ble_eq_true rfl), (Nat.le_of_ble_eq_true rfl)⟩ (hT.o20 (hT.k t_this (by decide))) rfl rfl hl.1 rfl (Nat.le_of_ble_eq_true rfl) dX6_keepLargest_49 zroom.rf (fun x95 s96 H locs hφ hEs96 hT => ?_)
          have R97 : RI κ s96 this := R28.ext hEs96 ⟨rfl, rfl, fun _ => rfl, fun _ => rfl, fun _ => rfl, fun _ => rfl⟩
          have B98 := R97.b
          rw [erW] at B98
          have K99 : zI s96 this 7 = zI σ0 this 7 := hT.eI t_this (by decide) rfl rfl
          have K99n : (zI s96 this 7).toInt = (zI σ0 this 7).toInt := by rw [K99]
          have P100 : zI s96 rP = zI σ0 rP := funext fun k => hT.eI trP (by decide) rfl rfl
          try simp only [K99, P100] at B98
          have f101 := hφ
          try simp only [erW, erP, ix_0, ix_1, ix_2, ix_3, ix_4, ix_5, ix_6, ix_7, ix_8, ix_9, K30, P31, K99, P100] at f101
          refine lv_iload_n hx hb dX6_keepLargest_52 rfl (lv_at hl 3 rfl) ?_
          refine lv_icmp_lt (tgt := 60) hx hb dX6_keepLargest_53 (by decide) (fun c9 => ?_) (fun c9 => ?_)
          · have c13 := gi_lt c9
            refine lv_lconst (v := 0) hx hb dX6_keepLargest_60 (by decide) ?_
            have hTo := hT
            refine tastl (n := 609) hx hb hK hT (hT.k tr94 (by decide)) ⟨by decide, by decide⟩ (fun _ _ _ => rfl) (fun _ _ => trivial) (fun _ => rfl) (by omega) (by omega) dX6_keepLargest_61 (fun H locs s102 hus102 hT => ?_)
            have R103 : RI κ s102 this := R97.pul hus102 (hTo.k tr94 (by decide)) (by decide)
            have B104 := R103.b
            rw [erW] at B104
            have K105 : zI s102 this 7 = zI σ0 this 7 := hT.eI t_this (by decide) rfl rfl
            have K105n : (zI s102 this 7).toInt = (zI σ0 this 7).toInt := by rw [K105]
            have P106 : zI s102 rP = zI σ0 rP := funext fun k => hT.eI trP (by decide) rfl rfl
            try simp only [K105, P106] at B104
            refine lv_iload_n hx hb dX6_keepLargest_62 rfl (lv_at hl 1 rfl) ?_
            refine lv_aload_n hx hb dX6_keepLargest_63 rfl (lv_at hl 2 rfl) ?_
            refine va_get (D := κ.1) (ci := 6) (v := .ref (kR κ this 2)) (C := RX6) (T := TX6) (N := 27) hx hb hg inX6 hown hK (hT.o20 (hT.k t_this (by decide))).one 0 rfl rfl 2 (by decide) (hg _ k1221) (fun _ h9 => h9) rfl dX6_keepLargest_64 ?_
            rw [er94]
            refine lv_iload_n hx hb dX6_keepLargest_67 rfl (lv_at hl 0 rfl) ?_
            refine va_lald hx hb hK (hT.o30 (hT.k tr94 (by decide))).one 0 1 rfl rfl (g_in (by omega) (by omega)) dX6_keepLargest_68 ?_
            refine lv_topl (fun t107 ht107 => ?_)
            refine lv_l2i hx hb dX6_keepLargest_69 rfl ?_
            first | refine g_l2i (by omega) (by omega) (fun t108 ht108 => ?_) | refine lv_topi (fun t108 ht108 => ?_)
            refine lv_iadd hx hb dX6_keepLargest_70 ?_
            refine lv_topi (fun t109 ht109 => ?_)
            refine lv_istore_n (lv' := [(2, .int t109), (3, .int k), (0, .ref this), (1, .int nu)]) hx hb dX6_keepLargest_71 rfl hl (by decide) rfl (fun ls hl => ?_)
            obtain ⟨t110, qt110⟩ : ∃ zz9 : Int32, k + Int32.ofInt 1 = zz9 := ⟨_, rfl⟩
            refine lv_iinc (v := t110) (lv' := [(3, .int t110), (2, .int t109), (0, .ref this), (1, .int nu)]) hx hb dX6_keepLargest_72 hl (k := 1) rfl qt110 (by decide) rfl (fun ls hl => ?_)
            have ht110 : t110.toInt = k.toInt + 1 := by rw [← qt110]; exact v_addi rfl (show (Int32.ofInt 1).toInt = 1 from by decide) (by omega) (by omega)
            refine lv_goto (tgt := 34) hx hb dX6_keepLargest_75 (by decide) ?_
            exact ih34 t110 t109 _ _ _ _ hT  R103 (by omega) (by omega) hl (by omega)
          · have c14 := gi_nlt c9
            refine lv_lconst (v := 1) hx hb dX6_keepLargest_56 (by decide) ?_
            refine lv_goto (tgt := 61) hx hb dX6_keepLargest_57 (by decide) ?_
            have hTo := hT
            refine tastl (n := 609) hx hb hK hT (hT.k tr94 (by decide)) ⟨by decide, by decide⟩ (fun _ _ _ => rfl) (fun _ _ => trivial) (fun _ => rfl) (by omega) (by omega) dX6_keepLargest_61 (fun H locs s111 hus111 hT => ?_)
            have R112 : RI κ s111 this := R97.pul hus111 (hTo.k tr94 (by decide)) (by decide)
            have B113 := R112.b
            rw [erW] at B113
            have K114 : zI s111 this 7 = zI σ0 this 7 := hT.eI t_this (by decide) rfl rfl
            have K114n : (zI s111 this 7).toInt = (zI σ0 this 7).toInt := by rw [K114]
            have P115 : zI s111 rP = zI σ0 rP := funext fun k => hT.eI trP (by decide) rfl rfl
            try simp only [K114, P115] at B113
            refine lv_iload_n hx hb dX6_keepLargest_62 rfl (lv_at hl 1 rfl) ?_
            refine lv_aload_n hx hb dX6_keepLargest_63 rfl (lv_at hl 2 rfl) ?_
            refine va_get (D := κ.1) (ci := 6) (v := .ref (kR κ this 2)) (C := RX6) (T := TX6) (N := 27) hx hb hg inX6 hown hK (hT.o20 (hT.k t_this (by decide))).one 0 rfl rfl 2 (by decide) (hg _ k1221) (fun _ h9 => h9) rfl dX6_keepLargest_64 ?_
            rw [er94]
            refine lv_iload_n hx hb dX6_keepLargest_67 rfl (lv_at hl 0 rfl) ?_
            refine va_lald hx hb hK (hT.o30 (hT.k tr94 (by decide))).one 0 1 rfl rfl (g_in (by omega) (by omega)) dX6_keepLargest_68 ?_
            refine lv_topl (fun t116 ht116 => ?_)
            refine lv_l2i hx hb dX6_keepLargest_69 rfl ?_
            first | refine g_l2i (by omega) (by omega) (fun t117 ht117 => ?_) | refine lv_topi (fun t117 ht117 => ?_)
            refine lv_iadd hx hb dX6_keepLargest_70 ?_
            refine lv_topi (fun t118 ht118 => ?_)
            refine lv_istore_n (lv' := [(2, .int t118), (3, .int k), (0, .ref this), (1, .int nu)]) hx hb dX6_keepLargest_71 rfl hl (by decide) rfl (fun ls hl => ?_)
            obtain ⟨t119, qt119⟩ : ∃ zz9 : Int32, k + Int32.ofInt 1 = zz9 := ⟨_, rfl⟩
            refine lv_iinc (v := t119) (lv' := [(3, .int t119), (2, .int t118), (0, .ref this), (1, .int nu)]) hx hb dX6_keepLargest_72 hl (k := 1) rfl qt119 (by decide) rfl (fun ls hl => ?_)
            have ht119 : t119.toInt = k.toInt + 1 := by rw [← qt119]; exact v_addi rfl (show (Int32.ofInt 1).toInt = 1 from by decide) (by omega) (by omega)
            refine lv_goto (tgt := 34) hx hb dX6_keepLargest_75 (by decide) ?_
            exact ih34 t119 t118 _ _ _ _ hT  R112 (by omega) (by omega) hl (by omega)
    exact loop34 ((46 - (0 : Int32).toInt).toNat + 1) 0 0 _ _ _ _ hT  R17 (by omega) (by omega) hl (by omega)

/-! The reference over any state: settings -/
theorem sub_gBe_gS1 : ∀ t k, gS1 t k = false → gBe t k = false := by
  intro t k h
  simp [gBe, gS1] at h ⊢ <;> omega
theorem sub_gH_gS1 : ∀ t k, gS1 t k = false → gH t k = false := by
  intro t k h
  simp [gH, gS1] at h ⊢ <;> omega
theorem sub_gHB_gS1 : ∀ t k, gS1 t k = false → gHB t k = false := by
  intro t k h
  simp [gHB, gS1] at h ⊢ <;> omega
theorem sub_gN_gS1 : ∀ t k, gS1 t k = false → gN t k = false := by
  intro t k h
  simp [gN, gS1] at h ⊢ <;> omega
theorem k44 : Cond.selects RX6 yX6_begins yX6_begins ∈ GW := gm 44 (by decide +kernel) (by decide +kernel)
theorem k46 : Cond.selects RX6 yX6_choice yX6_choice ∈ GW := gm 46 (by decide +kernel) (by decide +kernel)
theorem k48 : Cond.selects RX6 yX6_number yX6_number ∈ GW := gm 48 (by decide +kernel) (by decide +kernel)
theorem k49 : Cond.selects RX6 yX6_ends yX6_ends ∈ GW := gm 49 (by decide +kernel) (by decide +kernel)
theorem k1238 : Cond.fieldLink RX6 49 "LiftingSignalModel" "newLeast" "I" ∈ GW := gm 1238 (by decide +kernel) (by decide +kernel)
theorem k1239 : Cond.fieldLink RX6 52 "LiftingSignalModel" "newSplit" "I" ∈ GW := gm 1239 (by decide +kernel) (by decide +kernel)
theorem k1240 : Cond.fieldLink RX6 55 "LiftingSignalModel" "newPredict" "I" ∈ GW := gm 1240 (by decide +kernel) (by decide +kernel)
theorem k1241 : Cond.fieldLink RX6 58 "LiftingSignalModel" "newUpdate" "I" ∈ GW := gm 1241 (by decide +kernel) (by decide +kernel)
theorem k1336 : Cond.constantLong RX6 138 10421318 ∈ GW := gm 1336 (by decide +kernel) (by decide +kernel)
theorem k1357 : Cond.methodLink RX6 140 yX6_begins ∈ GW := gm 1357 (by decide +kernel) (by decide +kernel)
theorem k1359 : Cond.instanceMethod yX6_begins ∈ GW := gm 1359 (by decide +kernel) (by decide +kernel)
theorem k1360 : Cond.code yX6_begins cX6_begins 2 (some .boolean) ∈ GW := gm 1360 (by decide +kernel) (by decide +kernel)
theorem k1365 : Cond.constantLong RX6 144 385682 ∈ GW := gm 1365 (by decide +kernel) (by decide +kernel)
theorem k1366 : Cond.constantLong RX6 146 70704498 ∈ GW := gm 1366 (by decide +kernel) (by decide +kernel)
theorem k1367 : Cond.constantLong RX6 148 60447477 ∈ GW := gm 1367 (by decide +kernel) (by decide +kernel)
theorem k1368 : Cond.methodLink RX6 150 yX6_choice ∈ GW := gm 1368 (by decide +kernel) (by decide +kernel)
theorem k1370 : Cond.instanceMethod yX6_choice ∈ GW := gm 1370 (by decide +kernel) (by decide +kernel)
theorem k1371 : Cond.code yX6_choice cX6_choice 9 (some .int) ∈ GW := gm 1371 (by decide +kernel) (by decide +kernel)
theorem k1376 : Cond.constantLong RX6 154 6459750749 ∈ GW := gm 1376 (by decide +kernel) (by decide +kernel)
theorem k1377 : Cond.constantLong RX6 156 240023 ∈ GW := gm 1377 (by decide +kernel) (by decide +kernel)
theorem k1378 : Cond.constantLong RX6 158 279252 ∈ GW := gm 1378 (by decide +kernel) (by decide +kernel)
theorem k1379 : Cond.constantLong RX6 160 177249105 ∈ GW := gm 1379 (by decide +kernel) (by decide +kernel)
theorem k1380 : Cond.constantLong RX6 162 309910109 ∈ GW := gm 1380 (by decide +kernel) (by decide +kernel)
theorem k1381 : Cond.constantLong RX6 164 286880 ∈ GW := gm 1381 (by decide +kernel) (by decide +kernel)
theorem k1382 : Cond.constantLong RX6 166 220309 ∈ GW := gm 1382 (by decide +kernel) (by decide +kernel)
theorem k1383 : Cond.constantLong RX6 168 6476969 ∈ GW := gm 1383 (by decide +kernel) (by decide +kernel)
theorem k1384 : Cond.methodLink RX6 170 yX6_number ∈ GW := gm 1384 (by decide +kernel) (by decide +kernel)
theorem k1386 : Cond.instanceMethod yX6_number ∈ GW := gm 1386 (by decide +kernel) (by decide +kernel)
theorem k1387 : Cond.code yX6_number cX6_number 5 none ∈ GW := gm 1387 (by decide +kernel) (by decide +kernel)
theorem k1390 : Cond.methodLink RX6 173 yX6_ends ∈ GW := gm 1390 (by decide +kernel) (by decide +kernel)
theorem k1392 : Cond.instanceMethod yX6_ends ∈ GW := gm 1392 (by decide +kernel) (by decide +kernel)
theorem k1393 : Cond.code yX6_ends cX6_ends 1 none ∈ GW := gm 1393 (by decide +kernel) (by decide +kernel)
theorem dX6_setting_0 : decode cX6_setting 0 = .ok (.aload_n 0, 1) := by decide +kernel
theorem dX6_setting_1 : decode cX6_setting 1 = .ok (.ldc2_w 138, 3) := by decide +kernel
theorem dX6_setting_4 : decode cX6_setting 4 = .ok (.invokevirtual 117, 3) := by decide +kernel
theorem dX6_setting_7 : decode cX6_setting 7 = .ok (.ifCond .eq 31, 3) := by decide +kernel
theorem dX6_setting_10 : decode cX6_setting 10 = .ok (.aload_n 0, 1) := by decide +kernel
theorem dX6_setting_11 : decode cX6_setting 11 = .ok (.iconst 0, 1) := by decide +kernel
theorem dX6_setting_12 : decode cX6_setting 12 = .ok (.invokevirtual 140, 3) := by decide +kernel
theorem dX6_setting_15 : decode cX6_setting 15 = .ok (.ifCond .eq 135, 3) := by decide +kernel
theorem dX6_setting_18 : decode cX6_setting 18 = .ok (.aload_n 0, 1) := by decide +kernel
theorem dX6_setting_19 : decode cX6_setting 19 = .ok (.aload_n 0, 1) := by decide +kernel
theorem dX6_setting_20 : decode cX6_setting 20 = .ok (.ldc2_w 144, 3) := by decide +kernel
theorem dX6_setting_23 : decode cX6_setting 23 = .ok (.ldc2_w 146, 3) := by decide +kernel
theorem dX6_setting_26 : decode cX6_setting 26 = .ok (.ldc2_w 148, 3) := by decide +kernel
theorem dX6_setting_29 : decode cX6_setting 29 = .ok (.invokevirtual 150, 3) := by decide +kernel
theorem dX6_setting_32 : decode cX6_setting 32 = .ok (.putfield 52, 3) := by decide +kernel
theorem dX6_setting_35 : decode cX6_setting 35 = .ok (.goto 115, 3) := by decide +kernel
theorem dX6_setting_38 : decode cX6_setting 38 = .ok (.aload_n 0, 1) := by decide +kernel
theorem dX6_setting_39 : decode cX6_setting 39 = .ok (.ldc2_w 154, 3) := by decide +kernel
theorem dX6_setting_42 : decode cX6_setting 42 = .ok (.invokevirtual 117, 3) := by decide +kernel
theorem dX6_setting_45 : decode cX6_setting 45 = .ok (.ifCond .eq 31, 3) := by decide +kernel
theorem dX6_setting_48 : decode cX6_setting 48 = .ok (.aload_n 0, 1) := by decide +kernel
theorem dX6_setting_49 : decode cX6_setting 49 = .ok (.iconst 1, 1) := by decide +kernel
theorem dX6_setting_50 : decode cX6_setting 50 = .ok (.invokevirtual 140, 3) := by decide +kernel
theorem dX6_setting_53 : decode cX6_setting 53 = .ok (.ifCond .eq 97, 3) := by decide +kernel
theorem dX6_setting_56 : decode cX6_setting 56 = .ok (.aload_n 0, 1) := by decide +kernel
theorem dX6_setting_57 : decode cX6_setting 57 = .ok (.aload_n 0, 1) := by decide +kernel
theorem dX6_setting_58 : decode cX6_setting 58 = .ok (.ldc2_w 156, 3) := by decide +kernel
theorem dX6_setting_61 : decode cX6_setting 61 = .ok (.ldc2_w 158, 3) := by decide +kernel
theorem dX6_setting_64 : decode cX6_setting 64 = .ok (.ldc2_w 160, 3) := by decide +kernel
theorem dX6_setting_67 : decode cX6_setting 67 = .ok (.invokevirtual 150, 3) := by decide +kernel
theorem dX6_setting_70 : decode cX6_setting 70 = .ok (.putfield 55, 3) := by decide +kernel
theorem dX6_setting_73 : decode cX6_setting 73 = .ok (.goto 77, 3) := by decide +kernel
theorem dX6_setting_76 : decode cX6_setting 76 = .ok (.aload_n 0, 1) := by decide +kernel
theorem dX6_setting_77 : decode cX6_setting 77 = .ok (.ldc2_w 162, 3) := by decide +kernel
theorem dX6_setting_80 : decode cX6_setting 80 = .ok (.invokevirtual 117, 3) := by decide +kernel
theorem dX6_setting_83 : decode cX6_setting 83 = .ok (.ifCond .eq 29, 3) := by decide +kernel
theorem dX6_setting_86 : decode cX6_setting 86 = .ok (.aload_n 0, 1) := by decide +kernel
theorem dX6_setting_87 : decode cX6_setting 87 = .ok (.iconst 2, 1) := by decide +kernel
theorem dX6_setting_88 : decode cX6_setting 88 = .ok (.invokevirtual 140, 3) := by decide +kernel
theorem dX6_setting_91 : decode cX6_setting 91 = .ok (.ifCond .eq 59, 3) := by decide +kernel
theorem dX6_setting_94 : decode cX6_setting 94 = .ok (.aload_n 0, 1) := by decide +kernel
theorem dX6_setting_95 : decode cX6_setting 95 = .ok (.aload_n 0, 1) := by decide +kernel
theorem dX6_setting_96 : decode cX6_setting 96 = .ok (.ldc2_w 164, 3) := by decide +kernel
theorem dX6_setting_99 : decode cX6_setting 99 = .ok (.ldc2_w 166, 3) := by decide +kernel
theorem dX6_setting_102 : decode cX6_setting 102 = .ok (.lconst 0, 1) := by decide +kernel
theorem dX6_setting_103 : decode cX6_setting 103 = .ok (.invokevirtual 150, 3) := by decide +kernel
theorem dX6_setting_106 : decode cX6_setting 106 = .ok (.putfield 58, 3) := by decide +kernel
theorem dX6_setting_109 : decode cX6_setting 109 = .ok (.goto 41, 3) := by decide +kernel
theorem dX6_setting_112 : decode cX6_setting 112 = .ok (.aload_n 0, 1) := by decide +kernel
theorem dX6_setting_113 : decode cX6_setting 113 = .ok (.ldc2_w 168, 3) := by decide +kernel
theorem dX6_setting_116 : decode cX6_setting 116 = .ok (.invokevirtual 117, 3) := by decide +kernel
theorem dX6_setting_119 : decode cX6_setting 119 = .ok (.ifCond .eq 29, 3) := by decide +kernel
theorem dX6_setting_122 : decode cX6_setting 122 = .ok (.aload_n 0, 1) := by decide +kernel
theorem dX6_setting_123 : decode cX6_setting 123 = .ok (.iconst 3, 1) := by decide +kernel
theorem dX6_setting_124 : decode cX6_setting 124 = .ok (.invokevirtual 140, 3) := by decide +kernel
theorem dX6_setting_127 : decode cX6_setting 127 = .ok (.ifCond .eq 23, 3) := by decide +kernel
theorem dX6_setting_130 : decode cX6_setting 130 = .ok (.aload_n 0, 1) := by decide +kernel
theorem dX6_setting_131 : decode cX6_setting 131 = .ok (.iconst 2, 1) := by decide +kernel
theorem dX6_setting_132 : decode cX6_setting 132 = .ok (.bipush 48, 2) := by decide +kernel
theorem dX6_setting_134 : decode cX6_setting 134 = .ok (.invokevirtual 170, 3) := by decide +kernel
theorem dX6_setting_137 : decode cX6_setting 137 = .ok (.aload_n 0, 1) := by decide +kernel
theorem dX6_setting_138 : decode cX6_setting 138 = .ok (.aload_n 0, 1) := by decide +kernel
theorem dX6_setting_139 : decode cX6_setting 139 = .ok (.getfield 121, 3) := by decide +kernel
theorem dX6_setting_142 : decode cX6_setting 142 = .ok (.putfield 49, 3) := by decide +kernel
theorem dX6_setting_145 : decode cX6_setting 145 = .ok (.goto 5, 3) := by decide +kernel
theorem dX6_setting_148 : decode cX6_setting 148 = .ok (.iconst 0, 1) := by decide +kernel
theorem dX6_setting_149 : decode cX6_setting 149 = .ok (.ireturn, 1) := by decide +kernel
theorem dX6_setting_150 : decode cX6_setting 150 = .ok (.aload_n 0, 1) := by decide +kernel
theorem dX6_setting_151 : decode cX6_setting 151 = .ok (.invokevirtual 173, 3) := by decide +kernel
theorem dX6_setting_154 : decode cX6_setting 154 = .ok (.iconst 1, 1) := by decide +kernel
theorem dX6_setting_155 : decode cX6_setting 155 = .ok (.ireturn, 1) := by decide +kernel
set_option maxHeartbeats 40000000 in
set_option maxRecDepth 100000 in
theorem X6_setting (l : Launch) (κ : Kt) (σ0 : Gh) (this : Nat) (t_this : zk σ0 this 20) (h0 : 0 ≤ (zI σ0 this 13).toInt) (h1 : (zI σ0 this 13).toInt ≤ 700) (h2 : 0 ≤ (zI σ0 this 14).toInt) (h3 : (zI σ0 this 14).toInt ≤ 702) (h4 : (zI σ0 this 14).toInt ≤ (zI σ0 this 13).toInt) : TC l yX6_setting cX6_setting 1 (some .boolean) 6 143 [.ref this] κ σ0 (tqi κ gS1 σ0 (fun (r : Int32) (τ : Gh) => ((zI σ0 this 14).toInt ≤ (zI τ this 14).toInt) ∧ ((zI τ this 14).toInt ≤ (zI σ0 this 13).toInt + 1) ∧ ((zI τ this 17).toInt = 1 ∨ (zI τ this 14).toInt ≤ (zI σ0 this 13).toInt) ∧ (r.toInt = 0 ∨ (zI σ0 this 14).toInt < (zI τ this 14).toInt) ∧ (isB r))) := by
  refine TC.of gS1 (by decide +kernel) (Nat.le_of_ble_eq_true rfl) ?_
  intro p e s m below meth c ls hcs hK hX hT hl
  obtain ⟨hx, hb, hr, hml, hown, hg, hlocks, hin⟩ := hcs
  have hown : s.vm.findClass RX6 = some m.cls := hown
  have hl : lv_has ls 1 [(0, .ref this)] := hl
  have hT0 := hT
  have n0 : (0 : Int32).toInt = 0 := by decide
  have n1 : (1 : Int32).toInt = 1 := by decide
  have n2 : (2 : Int32).toInt = 2 := by decide
  have n3 : (3 : Int32).toInt = 3 := by decide
  have n48 : (48 : Int32).toInt = 48 := by decide
  have j0 : (0 : Int64).toInt = 0 := by decide
  have j220309 : (220309 : Int64).toInt = 220309 := by decide
  have j240023 : (240023 : Int64).toInt = 240023 := by decide
  have j279252 : (279252 : Int64).toInt = 279252 := by decide
  have j286880 : (286880 : Int64).toInt = 286880 := by decide
  have j385682 : (385682 : Int64).toInt = 385682 := by decide
  have j6476969 : (6476969 : Int64).toInt = 6476969 := by decide
  have j10421318 : (10421318 : Int64).toInt = 10421318 := by decide
  have j60447477 : (60447477 : Int64).toInt = 60447477 := by decide
  have j70704498 : (70704498 : Int64).toInt = 70704498 := by decide
  have j177249105 : (177249105 : Int64).toInt = 177249105 := by decide
  have j309910109 : (309910109 : Int64).toInt = 309910109 := by decide
  have j6459750749 : (6459750749 : Int64).toInt = 6459750749 := by decide
  generalize hQ9 : tQ _ _ _ _ _ _ = Q9
  obtain ⟨v1, ev1⟩ : ∃ zz9 : Int32, zI σ0 this 13 = zz9 := ⟨_, rfl⟩
  have qv1 : v1.toInt = (zI σ0 this 13).toInt := by rw [ev1]
  obtain ⟨v2, ev2⟩ : ∃ zz9 : Int32, zI σ0 this 14 = zz9 := ⟨_, rfl⟩
  have qv2 : v2.toInt = (zI σ0 this 14).toInt := by rw [ev2]
  obtain ⟨v3, ev3⟩ : ∃ zz9 : Int32, zI σ0 this 17 = zz9 := ⟨_, rfl⟩
  have qv3 : v3.toInt = (zI σ0 this 17).toInt := by rw [ev3]
  have b4 : isB v3 := by have q9 : isB (zI σ0 this 17) := hT.P (hT.k t_this (by decide)) (by decide); rw [ev3] at q9; exact q9
  have b4t := isB_t b4
  refine lv_aload_n hx hb dX6_setting_0 rfl (lv_at hl 0 rfl) ?_
  refine lv_ldc2 hx hb hown (hg _ k1336) dX6_setting_1 ?_
  have qq5 : (zI σ0 this 13).toInt = v1.toInt := by rw [(hT.eI t_this (by decide) rfl ev1)]
  have qq6 : (zI σ0 this 14).toInt = v2.toInt := by rw [ev2]
  have qq7 : (zI σ0 this 17).toInt = v3.toInt := by rw [ev3]
  have hTo := hT
  refine tVi (n := 1) (As := [.long 10421318]) (rest := []) hx hb hml hown hg hT hK hX (X6_isWord l κ σ0 this 10421318  (hT.k t_this (by decide)) (by omega) (by omega) (by omega) (by omega)) sub_gH_gS1 (mwV k1337 k1339 k40 k92 k1340) ⟨rfl, by decide, by decide, by decide +kernel⟩ ⟨(Nat.le_of_ble_eq_true rfl), (Nat.le_of_ble_eq_true rfl)⟩ (hT.o20 (hT.k t_this (by decide))) rfl rfl hl.1 rfl (Nat.le_of_ble_eq_true rfl) dX6_setting_4 zroom.rf (fun x8 s9 H locs hφ hEs9 hT => ?_)
  have ev3 : zI s9 this 17 = v3 := ((hTo.k t_this (by decide)).eI hEs9 (by decide) rfl).trans ev3
  obtain ⟨f10, f11, f12, f13⟩ := hφ
  have G14 : (zI s9 this 14).toInt ≤ (zI σ0 this 13).toInt := by omega
  clear f11 f12
  obtain ⟨v15, ev15⟩ : ∃ zz9 : Int32, zI s9 this 14 = zz9 := ⟨_, rfl⟩
  have qv15 : v15.toInt = (zI s9 this 14).toInt := by rw [ev15]
  refine lv_if_eq (tgt := 38) hx hb dX6_setting_7 (by decide) (fun c9 => ?_) (fun c9 => ?_)
  · have c1 := gi_eq c9
    refine lv_aload_n hx hb dX6_setting_38 rfl (lv_at hl 0 rfl) ?_
    refine lv_ldc2 hx hb hown (hg _ k1376) dX6_setting_39 ?_
    have qq16 : (zI s9 this 13).toInt = v1.toInt := by rw [(hT.eI t_this (by decide) rfl ev1)]
    have qq17 : (zI s9 this 14).toInt = v15.toInt := by rw [ev15]
    have qq18 : (zI s9 this 17).toInt = v3.toInt := by rw [ev3]
    have hTo := hT
    refine tVi (n := 1) (As := [.long 6459750749]) (rest := []) hx hb hml hown hg hT hK hX (X6_isWord l κ s9 this 6459750749  (hT.k t_this (by decide)) (by omega) (by omega) (by omega) (by omega)) sub_gH_gS1 (mwV k1337 k1339 k40 k92 k1340) ⟨rfl, by decide, by decide, by decide +kernel⟩ ⟨(Nat.le_of_ble_eq_true rfl), (Nat.le_of_ble_eq_true rfl)⟩ (hT.o20 (hT.k t_this (by decide))) rfl rfl hl.1 rfl (Nat.le_of_ble_eq_true rfl) dX6_setting_42 zroom.rf (fun x19 s20 H locs hφ hEs20 hT => ?_)
    have ev3 : zI s20 this 17 = v3 := ((hTo.k t_this (by decide)).eI hEs20 (by decide) rfl).trans ev3
    obtain ⟨f21, f22, f23, f24⟩ := hφ
    have G25 : (zI s20 this 14).toInt ≤ (zI σ0 this 13).toInt := by omega
    clear f22 f23
    obtain ⟨v26, ev26⟩ : ∃ zz9 : Int32, zI s20 this 14 = zz9 := ⟨_, rfl⟩
    have qv26 : v26.toInt = (zI s20 this 14).toInt := by rw [ev26]
    refine lv_if_eq (tgt := 76) hx hb dX6_setting_45 (by decide) (fun c9 => ?_) (fun c9 => ?_)
    · have c2 := gi_eq c9
      refine lv_aload_n hx hb dX6_setting_76 rfl (lv_at hl 0 rfl) ?_
      refine lv_ldc2 hx hb hown (hg _ k1380) dX6_setting_77 ?_
      have qq27 : (zI s20 this 13).toInt = v1.toInt := by rw [(hT.eI t_this (by decide) rfl ev1)]
      have qq28 : (zI s20 this 14).toInt = v26.toInt := by rw [ev26]
      have qq29 : (zI s20 this 17).toInt = v3.toInt := by rw [ev3]
      have hTo := hT
      refine tVi (n := 1) (As := [.long 309910109]) (rest := []) hx hb hml hown hg hT hK hX (X6_isWord l κ s20 this 309910109  (hT.k t_this (by decide)) (by omega) (by omega) (by omega) (by omega)) sub_gH_gS1 (mwV k1337 k1339 k40 k92 k1340) ⟨rfl, by decide, by decide, by decide +kernel⟩ ⟨(Nat.le_of_ble_eq_true rfl), (Nat.le_of_ble_eq_true rfl)⟩ (hT.o20 (hT.k t_this (by decide))) rfl rfl hl.1 rfl (Nat.le_of_ble_eq_true rfl) dX6_setting_80 zroom.rf (fun x30 s31 H locs hφ hEs31 hT => ?_)
      have ev3 : zI s31 this 17 = v3 := ((hTo.k t_this (by decide)).eI hEs31 (by decide) rfl).trans ev3
      obtain ⟨f32, f33, f34, f35⟩ := hφ
      have G36 : (zI s31 this 14).toInt ≤ (zI σ0 this 13).toInt := by omega
      clear f33 f34
      obtain ⟨v37, ev37⟩ : ∃ zz9 : Int32, zI s31 this 14 = zz9 := ⟨_, rfl⟩
      have qv37 : v37.toInt = (zI s31 this 14).toInt := by rw [ev37]
      refine lv_if_eq (tgt := 112) hx hb dX6_setting_83 (by decide) (fun c9 => ?_) (fun c9 => ?_)
      · have c3 := gi_eq c9
        refine lv_aload_n hx hb dX6_setting_112 rfl (lv_at hl 0 rfl) ?_
        refine lv_ldc2 hx hb hown (hg _ k1383) dX6_setting_113 ?_
        have qq38 : (zI s31 this 13).toInt = v1.toInt := by rw [(hT.eI t_this (by decide) rfl ev1)]
        have qq39 : (zI s31 this 14).toInt = v37.toInt := by rw [ev37]
        have qq40 : (zI s31 this 17).toInt = v3.toInt := by rw [ev3]
        have hTo := hT
        refine tVi (n := 1) (As := [.long 6476969]) (rest := []) hx hb hml hown hg hT hK hX (X6_isWord l κ s31 this 6476969  (hT.k t_this (by decide)) (by omega) (by omega) (by omega) (by omega)) sub_gH_gS1 (mwV k1337 k1339 k40 k92 k1340) ⟨rfl, by decide, by decide, by decide +kernel⟩ ⟨(Nat.le_of_ble_eq_true rfl), (Nat.le_of_ble_eq_true rfl)⟩ (hT.o20 (hT.k t_this (by decide))) rfl rfl hl.1 rfl (Nat.le_of_ble_eq_true rfl) dX6_setting_116 zroom.rf (fun x41 s42 H locs hφ hEs42 hT => ?_)
        have ev3 : zI s42 this 17 = v3 := ((hTo.k t_this (by decide)).eI hEs42 (by decide) rfl).trans ev3
        obtain ⟨f43, f44, f45, f46⟩ := hφ
        have G47 : (zI s42 this 14).toInt ≤ (zI σ0 this 13).toInt := by omega
        clear f44 f45
        obtain ⟨v48, ev48⟩ : ∃ zz9 : Int32, zI s42 this 14 = zz9 := ⟨_, rfl⟩
        have qv48 : v48.toInt = (zI s42 this 14).toInt := by rw [ev48]
        refine lv_if_eq (tgt := 148) hx hb dX6_setting_119 (by decide) (fun c9 => ?_) (fun c9 => ?_)
        · have c4 := gi_eq c9
          refine lv_iconst (v := 0) hx hb dX6_setting_148 (by decide) ?_
          have zz49 : (zI s42 this 14).toInt = v48.toInt := by rw [ev48]
          have zz50 : (zI s42 this 17).toInt = v3.toInt := by rw [ev3]
          subst hQ9
          exact t_z hx hb hr isB0 hlocks hT ⟨by omega, by omega, by omega, by omega, isB0⟩ dX6_setting_149
        · have c5 := gi_ne c9
          refine lv_aload_n hx hb dX6_setting_122 rfl (lv_at hl 0 rfl) ?_
          refine lv_iconst (v := 3) hx hb dX6_setting_123 (by decide) ?_
          have qq51 : (zI s42 this 13).toInt = v1.toInt := by rw [(hT.eI t_this (by decide) rfl ev1)]
          have qq52 : (zI s42 this 14).toInt = v48.toInt := by rw [ev48]
          have qq53 : (zI s42 this 17).toInt = v3.toInt := by rw [ev3]
          have hTo := hT
          refine tVi (n := 1) (As := [.int 3]) (rest := []) hx hb hml hown hg hT hK hX (X6_begins l κ s42 this 3  (hT.k t_this (by decide)) (by omega) (by omega) (by omega) (by omega)) sub_gBe_gS1 (mwV k1357 k1359 k44 k92 k1360) ⟨rfl, by decide, by decide, by decide +kernel⟩ ⟨(Nat.le_of_ble_eq_true rfl), (Nat.le_of_ble_eq_true rfl)⟩ (hT.o20 (hT.k t_this (by decide))) rfl rfl hl.1 rfl (Nat.le_of_ble_eq_true rfl) dX6_setting_124 zroom.rf (fun x54 s55 H locs hφ hEs55 hT => ?_)
          obtain ⟨f56, f57, f58, f59⟩ := hφ
          have G60 : (zI s55 this 14).toInt ≤ (zI σ0 this 13).toInt := by omega
          clear f57 f58
          obtain ⟨v61, ev61⟩ : ∃ zz9 : Int32, zI s55 this 14 = zz9 := ⟨_, rfl⟩
          have qv61 : v61.toInt = (zI s55 this 14).toInt := by rw [ev61]
          obtain ⟨v62, ev62⟩ : ∃ zz9 : Int32, zI s55 this 17 = zz9 := ⟨_, rfl⟩
          have qv62 : v62.toInt = (zI s55 this 17).toInt := by rw [ev62]
          have b63 : isB v62 := by have q9 : isB (zI s55 this 17) := hT.P (hT.k t_this (by decide)) (by decide); rw [ev62] at q9; exact q9
          have b63t := isB_t b63
          refine lv_if_eq (tgt := 150) hx hb dX6_setting_127 (by decide) (fun c9 => ?_) (fun c9 => ?_)
          · have c6 := gi_eq c9
            refine lv_aload_n hx hb dX6_setting_150 rfl (lv_at hl 0 rfl) ?_
            have qq64 : (zI s55 this 13).toInt = v1.toInt := by rw [(hT.eI t_this (by decide) rfl ev1)]
            have qq65 : (zI s55 this 14).toInt = v61.toInt := by rw [ev61]
            have qq66 : (zI s55 this 17).toInt = v62.toInt := by rw [ev62]
            have hTo := hT
            refine tVv (n := 0) (As := []) (rest := []) hx hb hml hown hg hT hK hX (X6_ends l κ s55 this  (hT.k t_this (by decide)) (by omega) (by omega) (by omega) (by omega)) sub_gHB_gS1 (mwV k1390 k1392 k49 k92 k1393) ⟨rfl, by decide, by decide, by decide +kernel⟩ ⟨(Nat.le_of_ble_eq_true rfl), (Nat.le_of_ble_eq_true rfl)⟩ (hT.o20 (hT.k t_this (by decide))) rfl rfl hl.1 rfl (Nat.le_of_ble_eq_true rfl) dX6_setting_151 zroom.rf (fun s68 H locs hφ hEs68 hT => ?_)
            obtain ⟨f69, f70, f71⟩ := hφ
            obtain ⟨v72, ev72⟩ : ∃ zz9 : Int32, zI s68 this 14 = zz9 := ⟨_, rfl⟩
            have qv72 : v72.toInt = (zI s68 this 14).toInt := by rw [ev72]
            obtain ⟨v73, ev73⟩ : ∃ zz9 : Int32, zI s68 this 17 = zz9 := ⟨_, rfl⟩
            have qv73 : v73.toInt = (zI s68 this 17).toInt := by rw [ev73]
            have b74 : isB v73 := by have q9 : isB (zI s68 this 17) := hT.P (hT.k t_this (by decide)) (by decide); rw [ev73] at q9; exact q9
            have b74t := isB_t b74
            refine lv_iconst (v := 1) hx hb dX6_setting_154 (by decide) ?_
            have zz75 : (zI s68 this 14).toInt = v72.toInt := by rw [ev72]
            have zz76 : (zI s68 this 17).toInt = v73.toInt := by rw [ev73]
            subst hQ9
            exact t_z hx hb hr isB1 hlocks hT ⟨by omega, by omega, by omega, by omega, isB1⟩ dX6_setting_155
          · have c7 := gi_ne c9
            refine lv_aload_n hx hb dX6_setting_130 rfl (lv_at hl 0 rfl) ?_
            refine lv_iconst (v := 2) hx hb dX6_setting_131 (by decide) ?_
            refine lv_bipush (v := 48) hx hb dX6_setting_132 (by decide) ?_
            have qq77 : (zI s55 this 13).toInt = v1.toInt := by rw [(hT.eI t_this (by decide) rfl ev1)]
            have qq78 : (zI s55 this 14).toInt = v61.toInt := by rw [ev61]
            have qq79 : (zI s55 this 17).toInt = v62.toInt := by rw [ev62]
            obtain ⟨v80, ev80⟩ : ∃ zz9 : Int32, zI s55 this 24 = zz9 := ⟨_, rfl⟩
            have qv80 : v80.toInt = (zI s55 this 24).toInt := by rw [ev80]
            have qq81 : (zI s55 this 24).toInt = v80.toInt := by rw [ev80]
            have hTo := hT
            refine tVv (n := 2) (As := [.int 2, .int 48]) (rest := []) hx hb hml hown hg hT hK hX (X6_number l κ s55 this 2 48  (hT.k t_this (by decide)) (by omega) (by omega) (by omega) (by omega)) sub_gN_gS1 (mwV k1384 k1386 k48 k92 k1387) ⟨rfl, by decide, by decide, by decide +kernel⟩ ⟨(Nat.le_of_ble_eq_true rfl), (Nat.le_of_ble_eq_true rfl)⟩ (hT.o20 (hT.k t_this (by decide))) rfl rfl hl.1 rfl (Nat.le_of_ble_eq_true rfl) dX6_setting_134 zroom.rf (fun s83 H locs hφ hEs83 hT => ?_)
            obtain ⟨f84, f85, f86⟩ := hφ
            have G87 : (zI s83 this 14).toInt ≤ (zI σ0 this 13).toInt := by omega
            clear f85 f86
            obtain ⟨v88, ev88⟩ : ∃ zz9 : Int32, zI s83 this 14 = zz9 := ⟨_, rfl⟩
            have qv88 : v88.toInt = (zI s83 this 14).toInt := by rw [ev88]
            obtain ⟨v89, ev89⟩ : ∃ zz9 : Int32, zI s83 this 17 = zz9 := ⟨_, rfl⟩
            have qv89 : v89.toInt = (zI s83 this 17).toInt := by rw [ev89]
            have b90 : isB v89 := by have q9 : isB (zI s83 this 17) := hT.P (hT.k t_this (by decide)) (by decide); rw [ev89] at q9; exact q9
            have b90t := isB_t b90
            obtain ⟨v91, ev91⟩ : ∃ zz9 : Int32, zI s83 this 24 = zz9 := ⟨_, rfl⟩
            have qv91 : v91.toInt = (zI s83 this 24).toInt := by rw [ev91]
            refine lv_aload_n hx hb dX6_setting_137 rfl (lv_at hl 0 rfl) ?_
            refine lv_aload_n hx hb dX6_setting_138 rfl (lv_at hl 0 rfl) ?_
            refine va_get (D := κ.1) (ci := 6) (v := .int (zI s83 this 24)) (C := RX6) (T := TX6) (N := 27) hx hb hg inX6 hown hK (hT.o20 (hT.k t_this (by decide))).one 0 rfl rfl 24 (by decide) (hg _ k1243) (fun _ h9 => h9) rfl dX6_setting_139 ?_
            rw [ev91]
            have hTo := hT
            refine pf20_19 hx hb hg hown hK hT (hT.k t_this (by decide)) rfl (hg _ k1238) dX6_setting_142 (fun H locs s92 hus92 hT => ?_)
            have ev88 : zI s92 this 14 = v88 := (zput_o hus92 (Or.inr (by decide))).trans ev88
            have ev89 : zI s92 this 17 = v89 := (zput_o hus92 (Or.inr (by decide))).trans ev89
            have ev91 : zI s92 this 24 = v91 := (zput_o hus92 (Or.inr (by decide))).trans ev91
            have e93 : zI s92 this 19 = v91 := zput_at hus92
            refine lv_goto (tgt := 150) hx hb dX6_setting_145 (by decide) ?_
            refine lv_aload_n hx hb dX6_setting_150 rfl (lv_at hl 0 rfl) ?_
            have qq94 : (zI s92 this 13).toInt = v1.toInt := by rw [(hT.eI t_this (by decide) rfl ev1)]
            have qq95 : (zI s92 this 14).toInt = v88.toInt := by rw [ev88]
            have qq96 : (zI s92 this 17).toInt = v89.toInt := by rw [ev89]
            have hTo := hT
            refine tVv (n := 0) (As := []) (rest := []) hx hb hml hown hg hT hK hX (X6_ends l κ s92 this  (hT.k t_this (by decide)) (by omega) (by omega) (by omega) (by omega)) sub_gHB_gS1 (mwV k1390 k1392 k49 k92 k1393) ⟨rfl, by decide, by decide, by decide +kernel⟩ ⟨(Nat.le_of_ble_eq_true rfl), (Nat.le_of_ble_eq_true rfl)⟩ (hT.o20 (hT.k t_this (by decide))) rfl rfl hl.1 rfl (Nat.le_of_ble_eq_true rfl) dX6_setting_151 zroom.rf (fun s98 H locs hφ hEs98 hT => ?_)
            have ev91 : zI s98 this 24 = v91 := ((hTo.k t_this (by decide)).eI hEs98 (by decide) rfl).trans ev91
            have e93 : zI s98 this 19 = v91 := ((hTo.k t_this (by decide)).eI hEs98 (by decide) rfl).trans e93
            obtain ⟨f99, f100, f101⟩ := hφ
            obtain ⟨v102, ev102⟩ : ∃ zz9 : Int32, zI s98 this 14 = zz9 := ⟨_, rfl⟩
            have qv102 : v102.toInt = (zI s98 this 14).toInt := by rw [ev102]
            obtain ⟨v103, ev103⟩ : ∃ zz9 : Int32, zI s98 this 17 = zz9 := ⟨_, rfl⟩
            have qv103 : v103.toInt = (zI s98 this 17).toInt := by rw [ev103]
            have b104 : isB v103 := by have q9 : isB (zI s98 this 17) := hT.P (hT.k t_this (by decide)) (by decide); rw [ev103] at q9; exact q9
            have b104t := isB_t b104
            refine lv_iconst (v := 1) hx hb dX6_setting_154 (by decide) ?_
            have zz105 : (zI s98 this 14).toInt = v102.toInt := by rw [ev102]
            have zz106 : (zI s98 this 17).toInt = v103.toInt := by rw [ev103]
            subst hQ9
            exact t_z hx hb hr isB1 hlocks hT ⟨by omega, by omega, by omega, by omega, isB1⟩ dX6_setting_155
      · have c8 := gi_ne c9
        refine lv_aload_n hx hb dX6_setting_86 rfl (lv_at hl 0 rfl) ?_
        refine lv_iconst (v := 2) hx hb dX6_setting_87 (by decide) ?_
        have qq107 : (zI s31 this 13).toInt = v1.toInt := by rw [(hT.eI t_this (by decide) rfl ev1)]
        have qq108 : (zI s31 this 14).toInt = v37.toInt := by rw [ev37]
        have qq109 : (zI s31 this 17).toInt = v3.toInt := by rw [ev3]
        have hTo := hT
        refine tVi (n := 1) (As := [.int 2]) (rest := []) hx hb hml hown hg hT hK hX (X6_begins l κ s31 this 2  (hT.k t_this (by decide)) (by omega) (by omega) (by omega) (by omega)) sub_gBe_gS1 (mwV k1357 k1359 k44 k92 k1360) ⟨rfl, by decide, by decide, by decide +kernel⟩ ⟨(Nat.le_of_ble_eq_true rfl), (Nat.le_of_ble_eq_true rfl)⟩ (hT.o20 (hT.k t_this (by decide))) rfl rfl hl.1 rfl (Nat.le_of_ble_eq_true rfl) dX6_setting_88 zroom.rf (fun x110 s111 H locs hφ hEs111 hT => ?_)
        obtain ⟨f112, f113, f114, f115⟩ := hφ
        have G116 : (zI s111 this 14).toInt ≤ (zI σ0 this 13).toInt := by omega
        clear f113 f114
        obtain ⟨v117, ev117⟩ : ∃ zz9 : Int32, zI s111 this 14 = zz9 := ⟨_, rfl⟩
        have qv117 : v117.toInt = (zI s111 this 14).toInt := by rw [ev117]
        obtain ⟨v118, ev118⟩ : ∃ zz9 : Int32, zI s111 this 17 = zz9 := ⟨_, rfl⟩
        have qv118 : v118.toInt = (zI s111 this 17).toInt := by rw [ev118]
        have b119 : isB v118 := by have q9 : isB (zI s111 this 17) := hT.P (hT.k t_this (by decide)) (by decide); rw [ev118] at q9; exact q9
        have b119t := isB_t b119
        refine lv_if_eq (tgt := 150) hx hb dX6_setting_91 (by decide) (fun c9 => ?_) (fun c9 => ?_)
        · have c9 := gi_eq c9
          refine lv_aload_n hx hb dX6_setting_150 rfl (lv_at hl 0 rfl) ?_
          have qq120 : (zI s111 this 13).toInt = v1.toInt := by rw [(hT.eI t_this (by decide) rfl ev1)]
          have qq121 : (zI s111 this 14).toInt = v117.toInt := by rw [ev117]
          have qq122 : (zI s111 this 17).toInt = v118.toInt := by rw [ev118]
          have hTo := hT
          refine tVv (n := 0) (As := []) (rest := []) hx hb hml hown hg hT hK hX (X6_ends l κ s111 this  (hT.k t_this (by decide)) (by omega) (by omega) (by omega) (by omega)) sub_gHB_gS1 (mwV k1390 k1392 k49 k92 k1393) ⟨rfl, by decide, by decide, by decide +kernel⟩ ⟨(Nat.le_of_ble_eq_true rfl), (Nat.le_of_ble_eq_true rfl)⟩ (hT.o20 (hT.k t_this (by decide))) rfl rfl hl.1 rfl (Nat.le_of_ble_eq_true rfl) dX6_setting_151 zroom.rf (fun s124 H locs hφ hEs124 hT => ?_)
          obtain ⟨f125, f126, f127⟩ := hφ
          obtain ⟨v128, ev128⟩ : ∃ zz9 : Int32, zI s124 this 14 = zz9 := ⟨_, rfl⟩
          have qv128 : v128.toInt = (zI s124 this 14).toInt := by rw [ev128]
          obtain ⟨v129, ev129⟩ : ∃ zz9 : Int32, zI s124 this 17 = zz9 := ⟨_, rfl⟩
          have qv129 : v129.toInt = (zI s124 this 17).toInt := by rw [ev129]
          have b130 : isB v129 := by have q9 : isB (zI s124 this 17) := hT.P (hT.k t_this (by decide)) (by decide); rw [ev129] at q9; exact q9
          have b130t := isB_t b130
          refine lv_iconst (v := 1) hx hb dX6_setting_154 (by decide) ?_
          have zz131 : (zI s124 this 14).toInt = v128.toInt := by rw [ev128]
          have zz132 : (zI s124 this 17).toInt = v129.toInt := by rw [ev129]
          subst hQ9
          exact t_z hx hb hr isB1 hlocks hT ⟨by omega, by omega, by omega, by omega, isB1⟩ dX6_setting_155
        · have c10 := gi_ne c9
          refine lv_aload_n hx hb dX6_setting_94 rfl (lv_at hl 0 rfl) ?_
          refine lv_aload_n hx hb dX6_setting_95 rfl (lv_at hl 0 rfl) ?_
          refine lv_ldc2 hx hb hown (hg _ k1381) dX6_setting_96 ?_
          refine lv_ldc2 hx hb hown (hg _ k1382) dX6_setting_99 ?_
          refine lv_lconst (v := 0) hx hb dX6_setting_102 (by decide) ?_
          have qq133 : (zI s111 this 13).toInt = v1.toInt := by rw [(hT.eI t_this (by decide) rfl ev1)]
          have qq134 : (zI s111 this 14).toInt = v117.toInt := by rw [ev117]
          have qq135 : (zI s111 this 17).toInt = v118.toInt := by rw [ev118]
          have hTo := hT
          refine tVi (n := 3) (As := [.long 286880, .long 220309, .long 0]) (rest := [.ref this]) hx hb hml hown hg hT hK hX (X6_choice l κ s111 this 286880 220309 0  (hT.k t_this (by decide)) (by omega) (by omega) (by omega) (by omega)) sub_gHB_gS1 (mwV k1368 k1370 k46 k92 k1371) ⟨rfl, by decide, by decide, by decide +kernel⟩ ⟨(Nat.le_of_ble_eq_true rfl), (Nat.le_of_ble_eq_true rfl)⟩ (hT.o20 (hT.k t_this (by decide))) rfl rfl hl.1 rfl (Nat.le_of_ble_eq_true rfl) dX6_setting_103 zroom.rf (fun x136 s137 H locs hφ hEs137 hT => ?_)
          obtain ⟨f138, f139, f140⟩ := hφ
          have G141 : (zI s137 this 14).toInt ≤ (zI σ0 this 13).toInt := by omega
          clear f139 f140
          obtain ⟨v142, ev142⟩ : ∃ zz9 : Int32, zI s137 this 14 = zz9 := ⟨_, rfl⟩
          have qv142 : v142.toInt = (zI s137 this 14).toInt := by rw [ev142]
          obtain ⟨v143, ev143⟩ : ∃ zz9 : Int32, zI s137 this 17 = zz9 := ⟨_, rfl⟩
          have qv143 : v143.toInt = (zI s137 this 17).toInt := by rw [ev143]
          have b144 : isB v143 := by have q9 : isB (zI s137 this 17) := hT.P (hT.k t_this (by decide)) (by decide); rw [ev143] at q9; exact q9
          have b144t := isB_t b144
          have hTo := hT
          refine pf20_22 hx hb hg hown hK hT (hT.k t_this (by decide)) rfl (hg _ k1241) dX6_setting_106 (fun H locs s145 hus145 hT => ?_)
          have ev142 : zI s145 this 14 = v142 := (zput_o hus145 (Or.inr (by decide))).trans ev142
          have ev143 : zI s145 this 17 = v143 := (zput_o hus145 (Or.inr (by decide))).trans ev143
          have e146 : zI s145 this 22 = x136 := zput_at hus145
          refine lv_goto (tgt := 150) hx hb dX6_setting_109 (by decide) ?_
          refine lv_aload_n hx hb dX6_setting_150 rfl (lv_at hl 0 rfl) ?_
          have qq147 : (zI s145 this 13).toInt = v1.toInt := by rw [(hT.eI t_this (by decide) rfl ev1)]
          have qq148 : (zI s145 this 14).toInt = v142.toInt := by rw [ev142]
          have qq149 : (zI s145 this 17).toInt = v143.toInt := by rw [ev143]
          have hTo := hT
          refine tVv (n := 0) (As := []) (rest := []) hx hb hml hown hg hT hK hX (X6_ends l κ s145 this  (hT.k t_this (by decide)) (by omega) (by omega) (by omega) (by omega)) sub_gHB_gS1 (mwV k1390 k1392 k49 k92 k1393) ⟨rfl, by decide, by decide, by decide +kernel⟩ ⟨(Nat.le_of_ble_eq_true rfl), (Nat.le_of_ble_eq_true rfl)⟩ (hT.o20 (hT.k t_this (by decide))) rfl rfl hl.1 rfl (Nat.le_of_ble_eq_true rfl) dX6_setting_151 zroom.rf (fun s151 H locs hφ hEs151 hT => ?_)
          have e146 : zI s151 this 22 = x136 := ((hTo.k t_this (by decide)).eI hEs151 (by decide) rfl).trans e146
          obtain ⟨f152, f153, f154⟩ := hφ
          obtain ⟨v155, ev155⟩ : ∃ zz9 : Int32, zI s151 this 14 = zz9 := ⟨_, rfl⟩
          have qv155 : v155.toInt = (zI s151 this 14).toInt := by rw [ev155]
          obtain ⟨v156, ev156⟩ : ∃ zz9 : Int32, zI s151 this 17 = zz9 := ⟨_, rfl⟩
          have qv156 : v156.toInt = (zI s151 this 17).toInt := by rw [ev156]
          have b157 : isB v156 := by have q9 : isB (zI s151 this 17) := hT.P (hT.k t_this (by decide)) (by decide); rw [ev156] at q9; exact q9
          have b157t := isB_t b157
          refine lv_iconst (v := 1) hx hb dX6_setting_154 (by decide) ?_
          have zz158 : (zI s151 this 14).toInt = v155.toInt := by rw [ev155]
          have zz159 : (zI s151 this 17).toInt = v156.toInt := by rw [ev156]
          subst hQ9
          exact t_z hx hb hr isB1 hlocks hT ⟨by omega, by omega, by omega, by omega, isB1⟩ dX6_setting_155
    · have c11 := gi_ne c9
      refine lv_aload_n hx hb dX6_setting_48 rfl (lv_at hl 0 rfl) ?_
      refine lv_iconst (v := 1) hx hb dX6_setting_49 (by decide) ?_
      have qq160 : (zI s20 this 13).toInt = v1.toInt := by rw [(hT.eI t_this (by decide) rfl ev1)]
      have qq161 : (zI s20 this 14).toInt = v26.toInt := by rw [ev26]
      have qq162 : (zI s20 this 17).toInt = v3.toInt := by rw [ev3]
      have hTo := hT
      refine tVi (n := 1) (As := [.int 1]) (rest := []) hx hb hml hown hg hT hK hX (X6_begins l κ s20 this 1  (hT.k t_this (by decide)) (by omega) (by omega) (by omega) (by omega)) sub_gBe_gS1 (mwV k1357 k1359 k44 k92 k1360) ⟨rfl, by decide, by decide, by decide +kernel⟩ ⟨(Nat.le_of_ble_eq_true rfl), (Nat.le_of_ble_eq_true rfl)⟩ (hT.o20 (hT.k t_this (by decide))) rfl rfl hl.1 rfl (Nat.le_of_ble_eq_true rfl) dX6_setting_50 zroom.rf (fun x163 s164 H locs hφ hEs164 hT => ?_)
      obtain ⟨f165, f166, f167, f168⟩ := hφ
      have G169 : (zI s164 this 14).toInt ≤ (zI σ0 this 13).toInt := by omega
      clear f166 f167
      obtain ⟨v170, ev170⟩ : ∃ zz9 : Int32, zI s164 this 14 = zz9 := ⟨_, rfl⟩
      have qv170 : v170.toInt = (zI s164 this 14).toInt := by rw [ev170]
      obtain ⟨v171, ev171⟩ : ∃ zz9 : Int32, zI s164 this 17 = zz9 := ⟨_, rfl⟩
      have qv171 : v171.toInt = (zI s164 this 17).toInt := by rw [ev171]
      have b172 : isB v171 := by have q9 : isB (zI s164 this 17) := hT.P (hT.k t_this (by decide)) (by decide); rw [ev171] at q9; exact q9
      have b172t := isB_t b172
      refine lv_if_eq (tgt := 150) hx hb dX6_setting_53 (by decide) (fun c9 => ?_) (fun c9 => ?_)
      · have c12 := gi_eq c9
        refine lv_aload_n hx hb dX6_setting_150 rfl (lv_at hl 0 rfl) ?_
        have qq173 : (zI s164 this 13).toInt = v1.toInt := by rw [(hT.eI t_this (by decide) rfl ev1)]
        have qq174 : (zI s164 this 14).toInt = v170.toInt := by rw [ev170]
        have qq175 : (zI s164 this 17).toInt = v171.toInt := by rw [ev171]
        have hTo := hT
        refine tVv (n := 0) (As := []) (rest := []) hx hb hml hown hg hT hK hX (X6_ends l κ s164 this  (hT.k t_this (by decide)) (by omega) (by omega) (by omega) (by omega)) sub_gHB_gS1 (mwV k1390 k1392 k49 k92 k1393) ⟨rfl, by decide, by decide, by decide +kernel⟩ ⟨(Nat.le_of_ble_eq_true rfl), (Nat.le_of_ble_eq_true rfl)⟩ (hT.o20 (hT.k t_this (by decide))) rfl rfl hl.1 rfl (Nat.le_of_ble_eq_true rfl) dX6_setting_151 zroom.rf (fun s177 H locs hφ hEs177 hT => ?_)
        obtain ⟨f178, f179, f180⟩ := hφ
        obtain ⟨v181, ev181⟩ : ∃ zz9 : Int32, zI s177 this 14 = zz9 := ⟨_, rfl⟩
        have qv181 : v181.toInt = (zI s177 this 14).toInt := by rw [ev181]
        obtain ⟨v182, ev182⟩ : ∃ zz9 : Int32, zI s177 this 17 = zz9 := ⟨_, rfl⟩
        have qv182 : v182.toInt = (zI s177 this 17).toInt := by rw [ev182]
        have b183 : isB v182 := by have q9 : isB (zI s177 this 17) := hT.P (hT.k t_this (by decide)) (by decide); rw [ev182] at q9; exact q9
        have b183t := isB_t b183
        refine lv_iconst (v := 1) hx hb dX6_setting_154 (by decide) ?_
        have zz184 : (zI s177 this 14).toInt = v181.toInt := by rw [ev181]
        have zz185 : (zI s177 this 17).toInt = v182.toInt := by rw [ev182]
        subst hQ9
        exact t_z hx hb hr isB1 hlocks hT ⟨by omega, by omega, by omega, by omega, isB1⟩ dX6_setting_155
      · have c13 := gi_ne c9
        refine lv_aload_n hx hb dX6_setting_56 rfl (lv_at hl 0 rfl) ?_
        refine lv_aload_n hx hb dX6_setting_57 rfl (lv_at hl 0 rfl) ?_
        refine lv_ldc2 hx hb hown (hg _ k1377) dX6_setting_58 ?_
        refine lv_ldc2 hx hb hown (hg _ k1378) dX6_setting_61 ?_
        refine lv_ldc2 hx hb hown (hg _ k1379) dX6_setting_64 ?_
        have qq186 : (zI s164 this 13).toInt = v1.toInt := by rw [(hT.eI t_this (by decide) rfl ev1)]
        have qq187 : (zI s164 this 14).toInt = v170.toInt := by rw [ev170]
        have qq188 : (zI s164 this 17).toInt = v171.toInt := by rw [ev171]
        have hTo := hT
        refine tVi (n := 3) (As := [.long 240023, .long 279252, .long 177249105]) (rest := [.ref this]) hx hb hml hown hg hT hK hX (X6_choice l κ s164 this 240023 279252 177249105  (hT.k t_this (by decide)) (by omega) (by omega) (by omega) (by omega)) sub_gHB_gS1 (mwV k1368 k1370 k46 k92 k1371) ⟨rfl, by decide, by decide, by decide +kernel⟩ ⟨(Nat.le_of_ble_eq_true rfl), (Nat.le_of_ble_eq_true rfl)⟩ (hT.o20 (hT.k t_this (by decide))) rfl rfl hl.1 rfl (Nat.le_of_ble_eq_true rfl) dX6_setting_67 zroom.rf (fun x189 s190 H locs hφ hEs190 hT => ?_)
        obtain ⟨f191, f192, f193⟩ := hφ
        have G194 : (zI s190 this 14).toInt ≤ (zI σ0 this 13).toInt := by omega
        clear f192 f193
        obtain ⟨v195, ev195⟩ : ∃ zz9 : Int32, zI s190 this 14 = zz9 := ⟨_, rfl⟩
        have qv195 : v195.toInt = (zI s190 this 14).toInt := by rw [ev195]
        obtain ⟨v196, ev196⟩ : ∃ zz9 : Int32, zI s190 this 17 = zz9 := ⟨_, rfl⟩
        have qv196 : v196.toInt = (zI s190 this 17).toInt := by rw [ev196]
        have b197 : isB v196 := by have q9 : isB (zI s190 this 17) := hT.P (hT.k t_this (by decide)) (by decide); rw [ev196] at q9; exact q9
        have b197t := isB_t b197
        have hTo := hT
        refine pf20_21 hx hb hg hown hK hT (hT.k t_this (by decide)) rfl (hg _ k1240) dX6_setting_70 (fun H locs s198 hus198 hT => ?_)
        have ev195 : zI s198 this 14 = v195 := (zput_o hus198 (Or.inr (by decide))).trans ev195
        have ev196 : zI s198 this 17 = v196 := (zput_o hus198 (Or.inr (by decide))).trans ev196
        have e199 : zI s198 this 21 = x189 := zput_at hus198
        refine lv_goto (tgt := 150) hx hb dX6_setting_73 (by decide) ?_
        refine lv_aload_n hx hb dX6_setting_150 rfl (lv_at hl 0 rfl) ?_
        have qq200 : (zI s198 this 13).toInt = v1.toInt := by rw [(hT.eI t_this (by decide) rfl ev1)]
        have qq201 : (zI s198 this 14).toInt = v195.toInt := by rw [ev195]
        have qq202 : (zI s198 this 17).toInt = v196.toInt := by rw [ev196]
        have hTo := hT
        refine tVv (n := 0) (As := []) (rest := []) hx hb hml hown hg hT hK hX (X6_ends l κ s198 this  (hT.k t_this (by decide)) (by omega) (by omega) (by omega) (by omega)) sub_gHB_gS1 (mwV k1390 k1392 k49 k92 k1393) ⟨rfl, by decide, by decide, by decide +kernel⟩ ⟨(Nat.le_of_ble_eq_true rfl), (Nat.le_of_ble_eq_true rfl)⟩ (hT.o20 (hT.k t_this (by decide))) rfl rfl hl.1 rfl (Nat.le_of_ble_eq_true rfl) dX6_setting_151 zroom.rf (fun s204 H locs hφ hEs204 hT => ?_)
        have e199 : zI s204 this 21 = x189 := ((hTo.k t_this (by decide)).eI hEs204 (by decide) rfl).trans e199
        obtain ⟨f205, f206, f207⟩ := hφ
        obtain ⟨v208, ev208⟩ : ∃ zz9 : Int32, zI s204 this 14 = zz9 := ⟨_, rfl⟩
        have qv208 : v208.toInt = (zI s204 this 14).toInt := by rw [ev208]
        obtain ⟨v209, ev209⟩ : ∃ zz9 : Int32, zI s204 this 17 = zz9 := ⟨_, rfl⟩
        have qv209 : v209.toInt = (zI s204 this 17).toInt := by rw [ev209]
        have b210 : isB v209 := by have q9 : isB (zI s204 this 17) := hT.P (hT.k t_this (by decide)) (by decide); rw [ev209] at q9; exact q9
        have b210t := isB_t b210
        refine lv_iconst (v := 1) hx hb dX6_setting_154 (by decide) ?_
        have zz211 : (zI s204 this 14).toInt = v208.toInt := by rw [ev208]
        have zz212 : (zI s204 this 17).toInt = v209.toInt := by rw [ev209]
        subst hQ9
        exact t_z hx hb hr isB1 hlocks hT ⟨by omega, by omega, by omega, by omega, isB1⟩ dX6_setting_155
  · have c14 := gi_ne c9
    refine lv_aload_n hx hb dX6_setting_10 rfl (lv_at hl 0 rfl) ?_
    refine lv_iconst (v := 0) hx hb dX6_setting_11 (by decide) ?_
    have qq213 : (zI s9 this 13).toInt = v1.toInt := by rw [(hT.eI t_this (by decide) rfl ev1)]
    have qq214 : (zI s9 this 14).toInt = v15.toInt := by rw [ev15]
    have qq215 : (zI s9 this 17).toInt = v3.toInt := by rw [ev3]
    have hTo := hT
    refine tVi (n := 1) (As := [.int 0]) (rest := []) hx hb hml hown hg hT hK hX (X6_begins l κ s9 this 0  (hT.k t_this (by decide)) (by omega) (by omega) (by omega) (by omega)) sub_gBe_gS1 (mwV k1357 k1359 k44 k92 k1360) ⟨rfl, by decide, by decide, by decide +kernel⟩ ⟨(Nat.le_of_ble_eq_true rfl), (Nat.le_of_ble_eq_true rfl)⟩ (hT.o20 (hT.k t_this (by decide))) rfl rfl hl.1 rfl (Nat.le_of_ble_eq_true rfl) dX6_setting_12 zroom.rf (fun x216 s217 H locs hφ hEs217 hT => ?_)
    obtain ⟨f218, f219, f220, f221⟩ := hφ
    have G222 : (zI s217 this 14).toInt ≤ (zI σ0 this 13).toInt := by omega
    clear f219 f220
    obtain ⟨v223, ev223⟩ : ∃ zz9 : Int32, zI s217 this 14 = zz9 := ⟨_, rfl⟩
    have qv223 : v223.toInt = (zI s217 this 14).toInt := by rw [ev223]
    obtain ⟨v224, ev224⟩ : ∃ zz9 : Int32, zI s217 this 17 = zz9 := ⟨_, rfl⟩
    have qv224 : v224.toInt = (zI s217 this 17).toInt := by rw [ev224]
    have b225 : isB v224 := by have q9 : isB (zI s217 this 17) := hT.P (hT.k t_this (by decide)) (by decide); rw [ev224] at q9; exact q9
    have b225t := isB_t b225
    refine lv_if_eq (tgt := 150) hx hb dX6_setting_15 (by decide) (fun c9 => ?_) (fun c9 => ?_)
    · have c15 := gi_eq c9
      refine lv_aload_n hx hb dX6_setting_150 rfl (lv_at hl 0 rfl) ?_
      have qq226 : (zI s217 this 13).toInt = v1.toInt := by rw [(hT.eI t_this (by decide) rfl ev1)]
      have qq227 : (zI s217 this 14).toInt = v223.toInt := by rw [ev223]
      have qq228 : (zI s217 this 17).toInt = v224.toInt := by rw [ev224]
      have hTo := hT
      refine tVv (n := 0) (As := []) (rest := []) hx hb hml hown hg hT hK hX (X6_ends l κ s217 this  (hT.k t_this (by decide)) (by omega) (by omega) (by omega) (by omega)) sub_gHB_gS1 (mwV k1390 k1392 k49 k92 k1393) ⟨rfl, by decide, by decide, by decide +kernel⟩ ⟨(Nat.le_of_ble_eq_true rfl), (Nat.le_of_ble_eq_true rfl)⟩ (hT.o20 (hT.k t_this (by decide))) rfl rfl hl.1 rfl (Nat.le_of_ble_eq_true rfl) dX6_setting_151 zroom.rf (fun s230 H locs hφ hEs230 hT => ?_)
      obtain ⟨f231, f232, f233⟩ := hφ
      obtain ⟨v234, ev234⟩ : ∃ zz9 : Int32, zI s230 this 14 = zz9 := ⟨_, rfl⟩
      have qv234 : v234.toInt = (zI s230 this 14).toInt := by rw [ev234]
      obtain ⟨v235, ev235⟩ : ∃ zz9 : Int32, zI s230 this 17 = zz9 := ⟨_, rfl⟩
      have qv235 : v235.toInt = (zI s230 this 17).toInt := by rw [ev235]
      have b236 : isB v235 := by have q9 : isB (zI s230 this 17) := hT.P (hT.k t_this (by decide)) (by decide); rw [ev235] at q9; exact q9
      have b236t := isB_t b236
      refine lv_iconst (v := 1) hx hb dX6_setting_154 (by decide) ?_
      have zz237 : (zI s230 this 14).toInt = v234.toInt := by rw [ev234]
      have zz238 : (zI s230 this 17).toInt = v235.toInt := by rw [ev235]
      subst hQ9
      exact t_z hx hb hr isB1 hlocks hT ⟨by omega, by omega, by omega, by omega, isB1⟩ dX6_setting_155
    · have c16 := gi_ne c9
      refine lv_aload_n hx hb dX6_setting_18 rfl (lv_at hl 0 rfl) ?_
      refine lv_aload_n hx hb dX6_setting_19 rfl (lv_at hl 0 rfl) ?_
      refine lv_ldc2 hx hb hown (hg _ k1365) dX6_setting_20 ?_
      refine lv_ldc2 hx hb hown (hg _ k1366) dX6_setting_23 ?_
      refine lv_ldc2 hx hb hown (hg _ k1367) dX6_setting_26 ?_
      have qq239 : (zI s217 this 13).toInt = v1.toInt := by rw [(hT.eI t_this (by decide) rfl ev1)]
      have qq240 : (zI s217 this 14).toInt = v223.toInt := by rw [ev223]
      have qq241 : (zI s217 this 17).toInt = v224.toInt := by rw [ev224]
      have hTo := hT
      refine tVi (n := 3) (As := [.long 385682, .long 70704498, .long 60447477]) (rest := [.ref this]) hx hb hml hown hg hT hK hX (X6_choice l κ s217 this 385682 70704498 60447477  (hT.k t_this (by decide)) (by omega) (by omega) (by omega) (by omega)) sub_gHB_gS1 (mwV k1368 k1370 k46 k92 k1371) ⟨rfl, by decide, by decide, by decide +kernel⟩ ⟨(Nat.le_of_ble_eq_true rfl), (Nat.le_of_ble_eq_true rfl)⟩ (hT.o20 (hT.k t_this (by decide))) rfl rfl hl.1 rfl (Nat.le_of_ble_eq_true rfl) dX6_setting_29 zroom.rf (fun x242 s243 H locs hφ hEs243 hT => ?_)
      obtain ⟨f244, f245, f246⟩ := hφ
      have G247 : (zI s243 this 14).toInt ≤ (zI σ0 this 13).toInt := by omega
      clear f245 f246
      obtain ⟨v248, ev248⟩ : ∃ zz9 : Int32, zI s243 this 14 = zz9 := ⟨_, rfl⟩
      have qv248 : v248.toInt = (zI s243 this 14).toInt := by rw [ev248]
      obtain ⟨v249, ev249⟩ : ∃ zz9 : Int32, zI s243 this 17 = zz9 := ⟨_, rfl⟩
      have qv249 : v249.toInt = (zI s243 this 17).toInt := by rw [ev249]
      have b250 : isB v249 := by have q9 : isB (zI s243 this 17) := hT.P (hT.k t_this (by decide)) (by decide); rw [ev249] at q9; exact q9
      have b250t := isB_t b250
      have hTo := hT
      refine pf20_20 hx hb hg hown hK hT (hT.k t_this (by decide)) rfl (hg _ k1239) dX6_setting_32 (fun H locs s251 hus251 hT => ?_)
      have ev248 : zI s251 this 14 = v248 := (zput_o hus251 (Or.inr (by decide))).trans ev248
      have ev249 : zI s251 this 17 = v249 := (zput_o hus251 (Or.inr (by decide))).trans ev249
      have e252 : zI s251 this 20 = x242 := zput_at hus251
      refine lv_goto (tgt := 150) hx hb dX6_setting_35 (by decide) ?_
      refine lv_aload_n hx hb dX6_setting_150 rfl (lv_at hl 0 rfl) ?_
      have qq253 : (zI s251 this 13).toInt = v1.toInt := by rw [(hT.eI t_this (by decide) rfl ev1)]
      have qq254 : (zI s251 this 14).toInt = v248.toInt := by rw [ev248]
      have qq255 : (zI s251 this 17).toInt = v249.toInt := by rw [ev249]
      have hTo := hT
      refine tVv (n := 0) (As := []) (rest := []) hx hb hml hown hg hT hK hX (X6_ends l κ s251 this  (hT.k t_this (by decide)) (by omega) (by omega) (by omega) (by omega)) sub_gHB_gS1 (mwV k1390 k1392 k49 k92 k1393) ⟨rfl, by decide, by decide, by decide +kernel⟩ ⟨(Nat.le_of_ble_eq_true rfl), (Nat.le_of_ble_eq_true rfl)⟩ (hT.o20 (hT.k t_this (by decide))) rfl rfl hl.1 rfl (Nat.le_of_ble_eq_true rfl) dX6_setting_151 zroom.rf (fun s257 H locs hφ hEs257 hT => ?_)
      have e252 : zI s257 this 20 = x242 := ((hTo.k t_this (by decide)).eI hEs257 (by decide) rfl).trans e252
      obtain ⟨f258, f259, f260⟩ := hφ
      obtain ⟨v261, ev261⟩ : ∃ zz9 : Int32, zI s257 this 14 = zz9 := ⟨_, rfl⟩
      have qv261 : v261.toInt = (zI s257 this 14).toInt := by rw [ev261]
      obtain ⟨v262, ev262⟩ : ∃ zz9 : Int32, zI s257 this 17 = zz9 := ⟨_, rfl⟩
      have qv262 : v262.toInt = (zI s257 this 17).toInt := by rw [ev262]
      have b263 : isB v262 := by have q9 : isB (zI s257 this 17) := hT.P (hT.k t_this (by decide)) (by decide); rw [ev262] at q9; exact q9
      have b263t := isB_t b263
      refine lv_iconst (v := 1) hx hb dX6_setting_154 (by decide) ?_
      have zz264 : (zI s257 this 14).toInt = v261.toInt := by rw [ev261]
      have zz265 : (zI s257 this 17).toInt = v262.toInt := by rw [ev262]
      subst hQ9
      exact t_z hx hb hr isB1 hlocks hT ⟨by omega, by omega, by omega, by omega, isB1⟩ dX6_setting_155

/-! The reference over any state: settings -/
theorem sub_gBe_gS1 : ∀ t k, gS1 t k = false → gBe t k = false := by
  intro t k h
  simp [gBe, gS1] at h ⊢ <;> omega
theorem sub_gH_gS1 : ∀ t k, gS1 t k = false → gH t k = false := by
  intro t k h
  simp [gH, gS1] at h ⊢ <;> omega
theorem sub_gHB_gS1 : ∀ t k, gS1 t k = false → gHB t k = false := by
  intro t k h
  simp [gHB, gS1] at h ⊢ <;> omega
theorem sub_gN_gS1 : ∀ t k, gS1 t k = false → gN t k = false := by
  intro t k h
  simp [gN, gS1] at h ⊢ <;> omega
theorem k44 : Cond.selects RX6 yX6_begins yX6_begins ∈ GW := gm 44 (by decide +kernel) (by decide +kernel)
theorem k46 : Cond.selects RX6 yX6_choice yX6_choice ∈ GW := gm 46 (by decide +kernel) (by decide +kernel)
theorem k48 : Cond.selects RX6 yX6_number yX6_number ∈ GW := gm 48 (by decide +kernel) (by decide +kernel)
theorem k49 : Cond.selects RX6 yX6_ends yX6_ends ∈ GW := gm 49 (by decide +kernel) (by decide +kernel)
theorem k1238 : Cond.fieldLink RX6 49 "LiftingSignalModel" "newLeast" "I" ∈ GW := gm 1238 (by decide +kernel) (by decide +kernel)
theorem k1239 : Cond.fieldLink RX6 52 "LiftingSignalModel" "newSplit" "I" ∈ GW := gm 1239 (by decide +kernel) (by decide +kernel)
theorem k1240 : Cond.fieldLink RX6 55 "LiftingSignalModel" "newPredict" "I" ∈ GW := gm 1240 (by decide +kernel) (by decide +kernel)
theorem k1241 : Cond.fieldLink RX6 58 "LiftingSignalModel" "newUpdate" "I" ∈ GW := gm 1241 (by decide +kernel) (by decide +kernel)
theorem k1332 : Cond.constantLong RX6 138 10421318 ∈ GW := gm 1332 (by decide +kernel) (by decide +kernel)
theorem k1353 : Cond.methodLink RX6 140 yX6_begins ∈ GW := gm 1353 (by decide +kernel) (by decide +kernel)
theorem k1355 : Cond.instanceMethod yX6_begins ∈ GW := gm 1355 (by decide +kernel) (by decide +kernel)
theorem k1356 : Cond.code yX6_begins cX6_begins 2 (some .boolean) ∈ GW := gm 1356 (by decide +kernel) (by decide +kernel)
theorem k1361 : Cond.constantLong RX6 144 385682 ∈ GW := gm 1361 (by decide +kernel) (by decide +kernel)
theorem k1362 : Cond.constantLong RX6 146 70704498 ∈ GW := gm 1362 (by decide +kernel) (by decide +kernel)
theorem k1363 : Cond.constantLong RX6 148 60447477 ∈ GW := gm 1363 (by decide +kernel) (by decide +kernel)
theorem k1364 : Cond.methodLink RX6 150 yX6_choice ∈ GW := gm 1364 (by decide +kernel) (by decide +kernel)
theorem k1366 : Cond.instanceMethod yX6_choice ∈ GW := gm 1366 (by decide +kernel) (by decide +kernel)
theorem k1367 : Cond.code yX6_choice cX6_choice 9 (some .int) ∈ GW := gm 1367 (by decide +kernel) (by decide +kernel)
theorem k1372 : Cond.constantLong RX6 154 6459750749 ∈ GW := gm 1372 (by decide +kernel) (by decide +kernel)
theorem k1373 : Cond.constantLong RX6 156 240023 ∈ GW := gm 1373 (by decide +kernel) (by decide +kernel)
theorem k1374 : Cond.constantLong RX6 158 279252 ∈ GW := gm 1374 (by decide +kernel) (by decide +kernel)
theorem k1375 : Cond.constantLong RX6 160 177249105 ∈ GW := gm 1375 (by decide +kernel) (by decide +kernel)
theorem k1376 : Cond.constantLong RX6 162 309910109 ∈ GW := gm 1376 (by decide +kernel) (by decide +kernel)
theorem k1377 : Cond.constantLong RX6 164 286880 ∈ GW := gm 1377 (by decide +kernel) (by decide +kernel)
theorem k1378 : Cond.constantLong RX6 166 220309 ∈ GW := gm 1378 (by decide +kernel) (by decide +kernel)
theorem k1379 : Cond.constantLong RX6 168 6476969 ∈ GW := gm 1379 (by decide +kernel) (by decide +kernel)
theorem k1380 : Cond.methodLink RX6 170 yX6_number ∈ GW := gm 1380 (by decide +kernel) (by decide +kernel)
theorem k1382 : Cond.instanceMethod yX6_number ∈ GW := gm 1382 (by decide +kernel) (by decide +kernel)
theorem k1383 : Cond.code yX6_number cX6_number 5 none ∈ GW := gm 1383 (by decide +kernel) (by decide +kernel)
theorem k1386 : Cond.methodLink RX6 173 yX6_ends ∈ GW := gm 1386 (by decide +kernel) (by decide +kernel)
theorem k1388 : Cond.instanceMethod yX6_ends ∈ GW := gm 1388 (by decide +kernel) (by decide +kernel)
theorem k1389 : Cond.code yX6_ends cX6_ends 1 none ∈ GW := gm 1389 (by decide +kernel) (by decide +kernel)
theorem dX6_setting_0 : decode cX6_setting 0 = .ok (.aload_n 0, 1) := by decide +kernel
theorem dX6_setting_1 : decode cX6_setting 1 = .ok (.ldc2_w 138, 3) := by decide +kernel
theorem dX6_setting_4 : decode cX6_setting 4 = .ok (.invokevirtual 117, 3) := by decide +kernel
theorem dX6_setting_7 : decode cX6_setting 7 = .ok (.ifCond .eq 31, 3) := by decide +kernel
theorem dX6_setting_10 : decode cX6_setting 10 = .ok (.aload_n 0, 1) := by decide +kernel
theorem dX6_setting_11 : decode cX6_setting 11 = .ok (.iconst 0, 1) := by decide +kernel
theorem dX6_setting_12 : decode cX6_setting 12 = .ok (.invokevirtual 140, 3) := by decide +kernel
theorem dX6_setting_15 : decode cX6_setting 15 = .ok (.ifCond .eq 135, 3) := by decide +kernel
theorem dX6_setting_18 : decode cX6_setting 18 = .ok (.aload_n 0, 1) := by decide +kernel
theorem dX6_setting_19 : decode cX6_setting 19 = .ok (.aload_n 0, 1) := by decide +kernel
theorem dX6_setting_20 : decode cX6_setting 20 = .ok (.ldc2_w 144, 3) := by decide +kernel
theorem dX6_setting_23 : decode cX6_setting 23 = .ok (.ldc2_w 146, 3) := by decide +kernel
theorem dX6_setting_26 : decode cX6_setting 26 = .ok (.ldc2_w 148, 3) := by decide +kernel
theorem dX6_setting_29 : decode cX6_setting 29 = .ok (.invokevirtual 150, 3) := by decide +kernel
theorem dX6_setting_32 : decode cX6_setting 32 = .ok (.putfield 52, 3) := by decide +kernel
theorem dX6_setting_35 : decode cX6_setting 35 = .ok (.goto 115, 3) := by decide +kernel
theorem dX6_setting_38 : decode cX6_setting 38 = .ok (.aload_n 0, 1) := by decide +kernel
theorem dX6_setting_39 : decode cX6_setting 39 = .ok (.ldc2_w 154, 3) := by decide +kernel
theorem dX6_setting_42 : decode cX6_setting 42 = .ok (.invokevirtual 117, 3) := by decide +kernel
theorem dX6_setting_45 : decode cX6_setting 45 = .ok (.ifCond .eq 31, 3) := by decide +kernel
theorem dX6_setting_48 : decode cX6_setting 48 = .ok (.aload_n 0, 1) := by decide +kernel
theorem dX6_setting_49 : decode cX6_setting 49 = .ok (.iconst 1, 1) := by decide +kernel
theorem dX6_setting_50 : decode cX6_setting 50 = .ok (.invokevirtual 140, 3) := by decide +kernel
theorem dX6_setting_53 : decode cX6_setting 53 = .ok (.ifCond .eq 97, 3) := by decide +kernel
theorem dX6_setting_56 : decode cX6_setting 56 = .ok (.aload_n 0, 1) := by decide +kernel
theorem dX6_setting_57 : decode cX6_setting 57 = .ok (.aload_n 0, 1) := by decide +kernel
theorem dX6_setting_58 : decode cX6_setting 58 = .ok (.ldc2_w 156, 3) := by decide +kernel
theorem dX6_setting_61 : decode cX6_setting 61 = .ok (.ldc2_w 158, 3) := by decide +kernel
theorem dX6_setting_64 : decode cX6_setting 64 = .ok (.ldc2_w 160, 3) := by decide +kernel
theorem dX6_setting_67 : decode cX6_setting 67 = .ok (.invokevirtual 150, 3) := by decide +kernel
theorem dX6_setting_70 : decode cX6_setting 70 = .ok (.putfield 55, 3) := by decide +kernel
theorem dX6_setting_73 : decode cX6_setting 73 = .ok (.goto 77, 3) := by decide +kernel
theorem dX6_setting_76 : decode cX6_setting 76 = .ok (.aload_n 0, 1) := by decide +kernel
theorem dX6_setting_77 : decode cX6_setting 77 = .ok (.ldc2_w 162, 3) := by decide +kernel
theorem dX6_setting_80 : decode cX6_setting 80 = .ok (.invokevirtual 117, 3) := by decide +kernel
theorem dX6_setting_83 : decode cX6_setting 83 = .ok (.ifCond .eq 29, 3) := by decide +kernel
theorem dX6_setting_86 : decode cX6_setting 86 = .ok (.aload_n 0, 1) := by decide +kernel
theorem dX6_setting_87 : decode cX6_setting 87 = .ok (.iconst 2, 1) := by decide +kernel
theorem dX6_setting_88 : decode cX6_setting 88 = .ok (.invokevirtual 140, 3) := by decide +kernel
theorem dX6_setting_91 : decode cX6_setting 91 = .ok (.ifCond .eq 59, 3) := by decide +kernel
theorem dX6_setting_94 : decode cX6_setting 94 = .ok (.aload_n 0, 1) := by decide +kernel
theorem dX6_setting_95 : decode cX6_setting 95 = .ok (.aload_n 0, 1) := by decide +kernel
theorem dX6_setting_96 : decode cX6_setting 96 = .ok (.ldc2_w 164, 3) := by decide +kernel
theorem dX6_setting_99 : decode cX6_setting 99 = .ok (.ldc2_w 166, 3) := by decide +kernel
theorem dX6_setting_102 : decode cX6_setting 102 = .ok (.lconst 0, 1) := by decide +kernel
theorem dX6_setting_103 : decode cX6_setting 103 = .ok (.invokevirtual 150, 3) := by decide +kernel
theorem dX6_setting_106 : decode cX6_setting 106 = .ok (.putfield 58, 3) := by decide +kernel
theorem dX6_setting_109 : decode cX6_setting 109 = .ok (.goto 41, 3) := by decide +kernel
theorem dX6_setting_112 : decode cX6_setting 112 = .ok (.aload_n 0, 1) := by decide +kernel
theorem dX6_setting_113 : decode cX6_setting 113 = .ok (.ldc2_w 168, 3) := by decide +kernel
theorem dX6_setting_116 : decode cX6_setting 116 = .ok (.invokevirtual 117, 3) := by decide +kernel
theorem dX6_setting_119 : decode cX6_setting 119 = .ok (.ifCond .eq 29, 3) := by decide +kernel
theorem dX6_setting_122 : decode cX6_setting 122 = .ok (.aload_n 0, 1) := by decide +kernel
theorem dX6_setting_123 : decode cX6_setting 123 = .ok (.iconst 3, 1) := by decide +kernel
theorem dX6_setting_124 : decode cX6_setting 124 = .ok (.invokevirtual 140, 3) := by decide +kernel
theorem dX6_setting_127 : decode cX6_setting 127 = .ok (.ifCond .eq 23, 3) := by decide +kernel
theorem dX6_setting_130 : decode cX6_setting 130 = .ok (.aload_n 0, 1) := by decide +kernel
theorem dX6_setting_131 : decode cX6_setting 131 = .ok (.iconst 2, 1) := by decide +kernel
theorem dX6_setting_132 : decode cX6_setting 132 = .ok (.bipush 48, 2) := by decide +kernel
theorem dX6_setting_134 : decode cX6_setting 134 = .ok (.invokevirtual 170, 3) := by decide +kernel
theorem dX6_setting_137 : decode cX6_setting 137 = .ok (.aload_n 0, 1) := by decide +kernel
theorem dX6_setting_138 : decode cX6_setting 138 = .ok (.aload_n 0, 1) := by decide +kernel
theorem dX6_setting_139 : decode cX6_setting 139 = .ok (.getfield 121, 3) := by decide +kernel
theorem dX6_setting_142 : decode cX6_setting 142 = .ok (.putfield 49, 3) := by decide +kernel
theorem dX6_setting_145 : decode cX6_setting 145 = .ok (.goto 5, 3) := by decide +kernel
theorem dX6_setting_148 : decode cX6_setting 148 = .ok (.iconst 0, 1) := by decide +kernel
theorem dX6_setting_149 : decode cX6_setting 149 = .ok (.ireturn, 1) := by decide +kernel
theorem dX6_setting_150 : decode cX6_setting 150 = .ok (.aload_n 0, 1) := by decide +kernel
theorem dX6_setting_151 : decode cX6_setting 151 = .ok (.invokevirtual 173, 3) := by decide +kernel
theorem dX6_setting_154 : decode cX6_setting 154 = .ok (.iconst 1, 1) := by decide +kernel
theorem dX6_setting_155 : decode cX6_setting 155 = .ok (.ireturn, 1) := by decide +kernel
set_option maxHeartbeats 4000000 in
set_option maxRecDepth 100000 in
theorem X6_setting (l : Launch) (κ : Kt) (σ0 : Gh) (this : Nat) (t_this : zk σ0 this 20) (h0 : 0 ≤ (zI σ0 this 13).toInt) (h1 : (zI σ0 this 13).toInt ≤ 700) (h2 : 0 ≤ (zI σ0 this 14).toInt) (h3 : (zI σ0 this 14).toInt ≤ 702) (h4 : (zI σ0 this 14).toInt ≤ (zI σ0 this 13).toInt) : TC l yX6_setting cX6_setting 1 (some .boolean) 6 143 [.ref this] κ σ0 (tqi κ gS1 σ0 (fun (r : Int32) (τ : Gh) => ((zI σ0 this 14).toInt ≤ (zI τ this 14).toInt) ∧ ((zI τ this 14).toInt ≤ (zI σ0 this 13).toInt + 1) ∧ ((zI τ this 17).toInt = 1 ∨ (zI τ this 14).toInt ≤ (zI σ0 this 13).toInt) ∧ (r.toInt = 0 ∨ (zI σ0 this 14).toInt < (zI τ this 14).toInt) ∧ (isB r))) := by
  refine TC.of gS1 (by decide +kernel) (Nat.le_of_ble_eq_true rfl) ?_
  intro p e s m below meth c ls hcs hK hX hT hl
  obtain ⟨hx, hb, hr, hml, hown, hg, hlocks, hin⟩ := hcs
  have hown : s.vm.findClass RX6 = some m.cls := hown
  have hl : lv_has ls 1 [(0, .ref this)] := hl
  have hT0 := hT
  have n0 : (0 : Int32).toInt = 0 := by decide
  have n1 : (1 : Int32).toInt = 1 := by decide
  have n2 : (2 : Int32).toInt = 2 := by decide
  have n3 : (3 : Int32).toInt = 3 := by decide
  have n48 : (48 : Int32).toInt = 48 := by decide
  have j0 : (0 : Int64).toInt = 0 := by decide
  have j220309 : (220309 : Int64).toInt = 220309 := by decide
  have j240023 : (240023 : Int64).toInt = 240023 := by decide
  have j279252 : (279252 : Int64).toInt = 279252 := by decide
  have j286880 : (286880 : Int64).toInt = 286880 := by decide
  have j385682 : (385682 : Int64).toInt = 385682 := by decide
  have j6476969 : (6476969 : Int64).toInt = 6476969 := by decide
  have j10421318 : (10421318 : Int64).toInt = 10421318 := by decide
  have j60447477 : (60447477 : Int64).toInt = 60447477 := by decide
  have j70704498 : (70704498 : Int64).toInt = 70704498 := by decide
  have j177249105 : (177249105 : Int64).toInt = 177249105 := by decide
  have j309910109 : (309910109 : Int64).toInt = 309910109 := by decide
  have j6459750749 : (6459750749 : Int64).toInt = 6459750749 := by decide
  generalize hQ9 : tQ _ _ _ _ _ _ = Q9
  obtain ⟨v1, ev1⟩ : ∃ zz9 : Int32, zI σ0 this 13 = zz9 := ⟨_, rfl⟩
  have qv1 : v1.toInt = (zI σ0 this 13).toInt := by rw [ev1]
  obtain ⟨v2, ev2⟩ : ∃ zz9 : Int32, zI σ0 this 14 = zz9 := ⟨_, rfl⟩
  have qv2 : v2.toInt = (zI σ0 this 14).toInt := by rw [ev2]
  obtain ⟨v3, ev3⟩ : ∃ zz9 : Int32, zI σ0 this 17 = zz9 := ⟨_, rfl⟩
  have qv3 : v3.toInt = (zI σ0 this 17).toInt := by rw [ev3]
  have b4 : isB v3 := by have q9 : isB (zI σ0 this 17) := hT.P (hT.k t_this (by decide)) (by decide); rw [ev3] at q9; exact q9
  have b4t := isB_t b4
  refine lv_aload_n hx hb dX6_setting_0 rfl (lv_at hl 0 rfl) ?_
  refine lv_ldc2 hx hb hown (hg _ k1332) dX6_setting_1 ?_
  have qq5 : (zI σ0 this 13).toInt = v1.toInt := by rw [(hT.eI t_this (by decide) rfl ev1)]
  have qq6 : (zI σ0 this 14).toInt = v2.toInt := by rw [ev2]
  have qq7 : (zI σ0 this 17).toInt = v3.toInt := by rw [ev3]
  have hTo := hT
  refine tVi (n := 1) (As := [.long 10421318]) (rest := []) hx hb hml hown hg hT hK hX (X6_isWord l κ σ0 this 10421318  (hT.k t_this (by decide)) (by omega) (by omega) (by omega) (by omega)) sub_gH_gS1 (mwV k1333 k1335 k40 k92 k1336) ⟨rfl, by decide, by decide, by decide +kernel⟩ ⟨(Nat.le_of_ble_eq_true rfl), (Nat.le_of_ble_eq_true rfl)⟩ (hT.o20 (hT.k t_this (by decide))) rfl rfl hl.1 rfl (Nat.le_of_ble_eq_true rfl) dX6_setting_4 zroom.rf (fun x8 s9 H locs hφ hEs9 hT => ?_)
  have ev3 : zI s9 this 17 = v3 := ((hTo.k t_this (by decide)).eI hEs9 (by decide) rfl).trans ev3
  obtain ⟨f10, f11, f12, f13⟩ := hφ
  obtain ⟨v14, ev14⟩ : ∃ zz9 : Int32, zI s9 this 14 = zz9 := ⟨_, rfl⟩
  have qv14 : v14.toInt = (zI s9 this 14).toInt := by rw [ev14]
  refine lv_if_eq (tgt := 38) hx hb dX6_setting_7 (by decide) (fun c9 => ?_) (fun c9 => ?_)
  · have c1 := gi_eq c9
    refine lv_aload_n hx hb dX6_setting_38 rfl (lv_at hl 0 rfl) ?_
    refine lv_ldc2 hx hb hown (hg _ k1372) dX6_setting_39 ?_
    have qq15 : (zI s9 this 13).toInt = v1.toInt := by rw [(hT.eI t_this (by decide) rfl ev1)]
    have qq16 : (zI s9 this 14).toInt = v14.toInt := by rw [ev14]
    have qq17 : (zI s9 this 17).toInt = v3.toInt := by rw [ev3]
    have hTo := hT
    refine tVi (n := 1) (As := [.long 6459750749]) (rest := []) hx hb hml hown hg hT hK hX (X6_isWord l κ s9 this 6459750749  (hT.k t_this (by decide)) (by omega) (by omega) (by omega) (by omega)) sub_gH_gS1 (mwV k1333 k1335 k40 k92 k1336) ⟨rfl, by decide, by decide, by decide +kernel⟩ ⟨(Nat.le_of_ble_eq_true rfl), (Nat.le_of_ble_eq_true rfl)⟩ (hT.o20 (hT.k t_this (by decide))) rfl rfl hl.1 rfl (Nat.le_of_ble_eq_true rfl) dX6_setting_42 zroom.rf (fun x18 s19 H locs hφ hEs19 hT => ?_)
    have ev3 : zI s19 this 17 = v3 := ((hTo.k t_this (by decide)).eI hEs19 (by decide) rfl).trans ev3
    obtain ⟨f20, f21, f22, f23⟩ := hφ
    obtain ⟨v24, ev24⟩ : ∃ zz9 : Int32, zI s19 this 14 = zz9 := ⟨_, rfl⟩
    have qv24 : v24.toInt = (zI s19 this 14).toInt := by rw [ev24]
    refine lv_if_eq (tgt := 76) hx hb dX6_setting_45 (by decide) (fun c9 => ?_) (fun c9 => ?_)
    · have c2 := gi_eq c9
      refine lv_aload_n hx hb dX6_setting_76 rfl (lv_at hl 0 rfl) ?_
      refine lv_ldc2 hx hb hown (hg _ k1376) dX6_setting_77 ?_
      have qq25 : (zI s19 this 13).toInt = v1.toInt := by rw [(hT.eI t_this (by decide) rfl ev1)]
      have qq26 : (zI s19 this 14).toInt = v24.toInt := by rw [ev24]
      have qq27 : (zI s19 this 17).toInt = v3.toInt := by rw [ev3]
      have hTo := hT
      refine tVi (n := 1) (As := [.long 309910109]) (rest := []) hx hb hml hown hg hT hK hX (X6_isWord l κ s19 this 309910109  (hT.k t_this (by decide)) (by omega) (by omega) (by omega) (by omega)) sub_gH_gS1 (mwV k1333 k1335 k40 k92 k1336) ⟨rfl, by decide, by decide, by decide +kernel⟩ ⟨(Nat.le_of_ble_eq_true rfl), (Nat.le_of_ble_eq_true rfl)⟩ (hT.o20 (hT.k t_this (by decide))) rfl rfl hl.1 rfl (Nat.le_of_ble_eq_true rfl) dX6_setting_80 zroom.rf (fun x28 s29 H locs hφ hEs29 hT => ?_)
      have ev3 : zI s29 this 17 = v3 := ((hTo.k t_this (by decide)).eI hEs29 (by decide) rfl).trans ev3
      obtain ⟨f30, f31, f32, f33⟩ := hφ
      obtain ⟨v34, ev34⟩ : ∃ zz9 : Int32, zI s29 this 14 = zz9 := ⟨_, rfl⟩
      have qv34 : v34.toInt = (zI s29 this 14).toInt := by rw [ev34]
      refine lv_if_eq (tgt := 112) hx hb dX6_setting_83 (by decide) (fun c9 => ?_) (fun c9 => ?_)
      · have c3 := gi_eq c9
        refine lv_aload_n hx hb dX6_setting_112 rfl (lv_at hl 0 rfl) ?_
        refine lv_ldc2 hx hb hown (hg _ k1379) dX6_setting_113 ?_
        have qq35 : (zI s29 this 13).toInt = v1.toInt := by rw [(hT.eI t_this (by decide) rfl ev1)]
        have qq36 : (zI s29 this 14).toInt = v34.toInt := by rw [ev34]
        have qq37 : (zI s29 this 17).toInt = v3.toInt := by rw [ev3]
        have hTo := hT
        refine tVi (n := 1) (As := [.long 6476969]) (rest := []) hx hb hml hown hg hT hK hX (X6_isWord l κ s29 this 6476969  (hT.k t_this (by decide)) (by omega) (by omega) (by omega) (by omega)) sub_gH_gS1 (mwV k1333 k1335 k40 k92 k1336) ⟨rfl, by decide, by decide, by decide +kernel⟩ ⟨(Nat.le_of_ble_eq_true rfl), (Nat.le_of_ble_eq_true rfl)⟩ (hT.o20 (hT.k t_this (by decide))) rfl rfl hl.1 rfl (Nat.le_of_ble_eq_true rfl) dX6_setting_116 zroom.rf (fun x38 s39 H locs hφ hEs39 hT => ?_)
        have ev3 : zI s39 this 17 = v3 := ((hTo.k t_this (by decide)).eI hEs39 (by decide) rfl).trans ev3
        obtain ⟨f40, f41, f42, f43⟩ := hφ
        obtain ⟨v44, ev44⟩ : ∃ zz9 : Int32, zI s39 this 14 = zz9 := ⟨_, rfl⟩
        have qv44 : v44.toInt = (zI s39 this 14).toInt := by rw [ev44]
        refine lv_if_eq (tgt := 148) hx hb dX6_setting_119 (by decide) (fun c9 => ?_) (fun c9 => ?_)
        · have c4 := gi_eq c9
          refine lv_iconst (v := 0) hx hb dX6_setting_148 (by decide) ?_
          have zz45 : (zI s39 this 14).toInt = v44.toInt := by rw [ev44]
          have zz46 : (zI s39 this 17).toInt = v3.toInt := by rw [ev3]
          subst hQ9
          exact t_z hx hb hr isB0 hlocks hT ⟨by omega, by omega, by omega, by omega, isB0⟩ dX6_setting_149
        · have c5 := gi_ne c9
          refine lv_aload_n hx hb dX6_setting_122 rfl (lv_at hl 0 rfl) ?_
          refine lv_iconst (v := 3) hx hb dX6_setting_123 (by decide) ?_
          have qq47 : (zI s39 this 13).toInt = v1.toInt := by rw [(hT.eI t_this (by decide) rfl ev1)]
          have qq48 : (zI s39 this 14).toInt = v44.toInt := by rw [ev44]
          have qq49 : (zI s39 this 17).toInt = v3.toInt := by rw [ev3]
          have hTo := hT
          refine tVi (n := 1) (As := [.int 3]) (rest := []) hx hb hml hown hg hT hK hX (X6_begins l κ s39 this 3  (hT.k t_this (by decide)) (by omega) (by omega) (by omega) (by omega)) sub_gBe_gS1 (mwV k1353 k1355 k44 k92 k1356) ⟨rfl, by decide, by decide, by decide +kernel⟩ ⟨(Nat.le_of_ble_eq_true rfl), (Nat.le_of_ble_eq_true rfl)⟩ (hT.o20 (hT.k t_this (by decide))) rfl rfl hl.1 rfl (Nat.le_of_ble_eq_true rfl) dX6_setting_124 zroom.rf (fun x50 s51 H locs hφ hEs51 hT => ?_)
          obtain ⟨f52, f53, f54, f55⟩ := hφ
          obtain ⟨v56, ev56⟩ : ∃ zz9 : Int32, zI s51 this 14 = zz9 := ⟨_, rfl⟩
          have qv56 : v56.toInt = (zI s51 this 14).toInt := by rw [ev56]
          obtain ⟨v57, ev57⟩ : ∃ zz9 : Int32, zI s51 this 17 = zz9 := ⟨_, rfl⟩
          have qv57 : v57.toInt = (zI s51 this 17).toInt := by rw [ev57]
          have b58 : isB v57 := by have q9 : isB (zI s51 this 17) := hT.P (hT.k t_this (by decide)) (by decide); rw [ev57] at q9; exact q9
          have b58t := isB_t b58
          refine lv_if_eq (tgt := 150) hx hb dX6_setting_127 (by decide) (fun c9 => ?_) (fun c9 => ?_)
          · have c6 := gi_eq c9
            refine lv_aload_n hx hb dX6_setting_150 rfl (lv_at hl 0 rfl) ?_
            have qq59 : (zI s51 this 13).toInt = v1.toInt := by rw [(hT.eI t_this (by decide) rfl ev1)]
            have qq60 : (zI s51 this 14).toInt = v56.toInt := by rw [ev56]
            have qq61 : (zI s51 this 17).toInt = v57.toInt := by rw [ev57]
            have hTo := hT
            refine tVv (n := 0) (As := []) (rest := []) hx hb hml hown hg hT hK hX (X6_ends l κ s51 this  (hT.k t_this (by decide)) (by omega) (by omega) (by omega) (by omega)) sub_gHB_gS1 (mwV k1386 k1388 k49 k92 k1389) ⟨rfl, by decide, by decide, by decide +kernel⟩ ⟨(Nat.le_of_ble_eq_true rfl), (Nat.le_of_ble_eq_true rfl)⟩ (hT.o20 (hT.k t_this (by decide))) rfl rfl hl.1 rfl (Nat.le_of_ble_eq_true rfl) dX6_setting_151 zroom.rf (fun s63 H locs hφ hEs63 hT => ?_)
            obtain ⟨f64, f65, f66⟩ := hφ
            obtain ⟨v67, ev67⟩ : ∃ zz9 : Int32, zI s63 this 14 = zz9 := ⟨_, rfl⟩
            have qv67 : v67.toInt = (zI s63 this 14).toInt := by rw [ev67]
            obtain ⟨v68, ev68⟩ : ∃ zz9 : Int32, zI s63 this 17 = zz9 := ⟨_, rfl⟩
            have qv68 : v68.toInt = (zI s63 this 17).toInt := by rw [ev68]
            have b69 : isB v68 := by have q9 : isB (zI s63 this 17) := hT.P (hT.k t_this (by decide)) (by decide); rw [ev68] at q9; exact q9
            have b69t := isB_t b69
            refine lv_iconst (v := 1) hx hb dX6_setting_154 (by decide) ?_
            have zz70 : (zI s63 this 14).toInt = v67.toInt := by rw [ev67]
            have zz71 : (zI s63 this 17).toInt = v68.toInt := by rw [ev68]
            subst hQ9
            exact t_z hx hb hr isB1 hlocks hT ⟨by omega, by omega, by omega, by omega, isB1⟩ dX6_setting_155
          · have c7 := gi_ne c9
            refine lv_aload_n hx hb dX6_setting_130 rfl (lv_at hl 0 rfl) ?_
            refine lv_iconst (v := 2) hx hb dX6_setting_131 (by decide) ?_
            refine lv_bipush (v := 48) hx hb dX6_setting_132 (by decide) ?_
            have qq72 : (zI s51 this 13).toInt = v1.toInt := by rw [(hT.eI t_this (by decide) rfl ev1)]
            have qq73 : (zI s51 this 14).toInt = v56.toInt := by rw [ev56]
            have qq74 : (zI s51 this 17).toInt = v57.toInt := by rw [ev57]
            obtain ⟨v75, ev75⟩ : ∃ zz9 : Int32, zI s51 this 24 = zz9 := ⟨_, rfl⟩
            have qv75 : v75.toInt = (zI s51 this 24).toInt := by rw [ev75]
            have qq76 : (zI s51 this 24).toInt = v75.toInt := by rw [ev75]
            have hTo := hT
            refine tVv (n := 2) (As := [.int 2, .int 48]) (rest := []) hx hb hml hown hg hT hK hX (X6_number l κ s51 this 2 48  (hT.k t_this (by decide)) (by omega) (by omega) (by omega) (by omega)) sub_gN_gS1 (mwV k1380 k1382 k48 k92 k1383) ⟨rfl, by decide, by decide, by decide +kernel⟩ ⟨(Nat.le_of_ble_eq_true rfl), (Nat.le_of_ble_eq_true rfl)⟩ (hT.o20 (hT.k t_this (by decide))) rfl rfl hl.1 rfl (Nat.le_of_ble_eq_true rfl) dX6_setting_134 zroom.rf (fun s78 H locs hφ hEs78 hT => ?_)
            obtain ⟨f79, f80, f81⟩ := hφ
            obtain ⟨v82, ev82⟩ : ∃ zz9 : Int32, zI s78 this 14 = zz9 := ⟨_, rfl⟩
            have qv82 : v82.toInt = (zI s78 this 14).toInt := by rw [ev82]
            obtain ⟨v83, ev83⟩ : ∃ zz9 : Int32, zI s78 this 17 = zz9 := ⟨_, rfl⟩
            have qv83 : v83.toInt = (zI s78 this 17).toInt := by rw [ev83]
            have b84 : isB v83 := by have q9 : isB (zI s78 this 17) := hT.P (hT.k t_this (by decide)) (by decide); rw [ev83] at q9; exact q9
            have b84t := isB_t b84
            obtain ⟨v85, ev85⟩ : ∃ zz9 : Int32, zI s78 this 24 = zz9 := ⟨_, rfl⟩
            have qv85 : v85.toInt = (zI s78 this 24).toInt := by rw [ev85]
            refine lv_aload_n hx hb dX6_setting_137 rfl (lv_at hl 0 rfl) ?_
            refine lv_aload_n hx hb dX6_setting_138 rfl (lv_at hl 0 rfl) ?_
            refine va_get (D := κ.1) (ci := 6) (v := .int (zI s78 this 24)) (C := RX6) (T := TX6) (N := 27) hx hb hg inX6 hown hK (hT.o20 (hT.k t_this (by decide))).one 0 rfl rfl 24 (by decide) (hg _ k1243) (fun _ h9 => h9) rfl dX6_setting_139 ?_
            rw [ev85]
            have hTo := hT
            refine pf20_19 hx hb hg hown hK hT (hT.k t_this (by decide)) rfl (hg _ k1238) dX6_setting_142 (fun H locs s86 hus86 hT => ?_)
            have ev82 : zI s86 this 14 = v82 := (zput_o hus86 (Or.inr (by decide))).trans ev82
            have ev83 : zI s86 this 17 = v83 := (zput_o hus86 (Or.inr (by decide))).trans ev83
            have ev85 : zI s86 this 24 = v85 := (zput_o hus86 (Or.inr (by decide))).trans ev85
            have e87 : zI s86 this 19 = v85 := zput_at hus86
            refine lv_goto (tgt := 150) hx hb dX6_setting_145 (by decide) ?_
            refine lv_aload_n hx hb dX6_setting_150 rfl (lv_at hl 0 rfl) ?_
            have qq88 : (zI s86 this 13).toInt = v1.toInt := by rw [(hT.eI t_this (by decide) rfl ev1)]
            have qq89 : (zI s86 this 14).toInt = v82.toInt := by rw [ev82]
            have qq90 : (zI s86 this 17).toInt = v83.toInt := by rw [ev83]
            have hTo := hT
            refine tVv (n := 0) (As := []) (rest := []) hx hb hml hown hg hT hK hX (X6_ends l κ s86 this  (hT.k t_this (by decide)) (by omega) (by omega) (by omega) (by omega)) sub_gHB_gS1 (mwV k1386 k1388 k49 k92 k1389) ⟨rfl, by decide, by decide, by decide +kernel⟩ ⟨(Nat.le_of_ble_eq_true rfl), (Nat.le_of_ble_eq_true rfl)⟩ (hT.o20 (hT.k t_this (by decide))) rfl rfl hl.1 rfl (Nat.le_of_ble_eq_true rfl) dX6_setting_151 zroom.rf (fun s92 H locs hφ hEs92 hT => ?_)
            have ev85 : zI s92 this 24 = v85 := ((hTo.k t_this (by decide)).eI hEs92 (by decide) rfl).trans ev85
            have e87 : zI s92 this 19 = v85 := ((hTo.k t_this (by decide)).eI hEs92 (by decide) rfl).trans e87
            obtain ⟨f93, f94, f95⟩ := hφ
            obtain ⟨v96, ev96⟩ : ∃ zz9 : Int32, zI s92 this 14 = zz9 := ⟨_, rfl⟩
            have qv96 : v96.toInt = (zI s92 this 14).toInt := by rw [ev96]
            obtain ⟨v97, ev97⟩ : ∃ zz9 : Int32, zI s92 this 17 = zz9 := ⟨_, rfl⟩
            have qv97 : v97.toInt = (zI s92 this 17).toInt := by rw [ev97]
            have b98 : isB v97 := by have q9 : isB (zI s92 this 17) := hT.P (hT.k t_this (by decide)) (by decide); rw [ev97] at q9; exact q9
            have b98t := isB_t b98
            refine lv_iconst (v := 1) hx hb dX6_setting_154 (by decide) ?_
            have zz99 : (zI s92 this 14).toInt = v96.toInt := by rw [ev96]
            have zz100 : (zI s92 this 17).toInt = v97.toInt := by rw [ev97]
            subst hQ9
            exact t_z hx hb hr isB1 hlocks hT ⟨by omega, by omega, by omega, by omega, isB1⟩ dX6_setting_155
      · have c8 := gi_ne c9
        refine lv_aload_n hx hb dX6_setting_86 rfl (lv_at hl 0 rfl) ?_
        refine lv_iconst (v := 2) hx hb dX6_setting_87 (by decide) ?_
        have qq101 : (zI s29 this 13).toInt = v1.toInt := by rw [(hT.eI t_this (by decide) rfl ev1)]
        have qq102 : (zI s29 this 14).toInt = v34.toInt := by rw [ev34]
        have qq103 : (zI s29 this 17).toInt = v3.toInt := by rw [ev3]
        have hTo := hT
        refine tVi (n := 1) (As := [.int 2]) (rest := []) hx hb hml hown hg hT hK hX (X6_begins l κ s29 this 2  (hT.k t_this (by decide)) (by omega) (by omega) (by omega) (by omega)) sub_gBe_gS1 (mwV k1353 k1355 k44 k92 k1356) ⟨rfl, by decide, by decide, by decide +kernel⟩ ⟨(Nat.le_of_ble_eq_true rfl), (Nat.le_of_ble_eq_true rfl)⟩ (hT.o20 (hT.k t_this (by decide))) rfl rfl hl.1 rfl (Nat.le_of_ble_eq_true rfl) dX6_setting_88 zroom.rf (fun x104 s105 H locs hφ hEs105 hT => ?_)
        obtain ⟨f106, f107, f108, f109⟩ := hφ
        obtain ⟨v110, ev110⟩ : ∃ zz9 : Int32, zI s105 this 14 = zz9 := ⟨_, rfl⟩
        have qv110 : v110.toInt = (zI s105 this 14).toInt := by rw [ev110]
        obtain ⟨v111, ev111⟩ : ∃ zz9 : Int32, zI s105 this 17 = zz9 := ⟨_, rfl⟩
        have qv111 : v111.toInt = (zI s105 this 17).toInt := by rw [ev111]
        have b112 : isB v111 := by have q9 : isB (zI s105 this 17) := hT.P (hT.k t_this (by decide)) (by decide); rw [ev111] at q9; exact q9
        have b112t := isB_t b112
        refine lv_if_eq (tgt := 150) hx hb dX6_setting_91 (by decide) (fun c9 => ?_) (fun c9 => ?_)
        · have c9 := gi_eq c9
          refine lv_aload_n hx hb dX6_setting_150 rfl (lv_at hl 0 rfl) ?_
          have qq113 : (zI s105 this 13).toInt = v1.toInt := by rw [(hT.eI t_this (by decide) rfl ev1)]
          have qq114 : (zI s105 this 14).toInt = v110.toInt := by rw [ev110]
          have qq115 : (zI s105 this 17).toInt = v111.toInt := by rw [ev111]
          have hTo := hT
          refine tVv (n := 0) (As := []) (rest := []) hx hb hml hown hg hT hK hX (X6_ends l κ s105 this  (hT.k t_this (by decide)) (by omega) (by omega) (by omega) (by omega)) sub_gHB_gS1 (mwV k1386 k1388 k49 k92 k1389) ⟨rfl, by decide, by decide, by decide +kernel⟩ ⟨(Nat.le_of_ble_eq_true rfl), (Nat.le_of_ble_eq_true rfl)⟩ (hT.o20 (hT.k t_this (by decide))) rfl rfl hl.1 rfl (Nat.le_of_ble_eq_true rfl) dX6_setting_151 zroom.rf (fun s117 H locs hφ hEs117 hT => ?_)
          obtain ⟨f118, f119, f120⟩ := hφ
          obtain ⟨v121, ev121⟩ : ∃ zz9 : Int32, zI s117 this 14 = zz9 := ⟨_, rfl⟩
          have qv121 : v121.toInt = (zI s117 this 14).toInt := by rw [ev121]
          obtain ⟨v122, ev122⟩ : ∃ zz9 : Int32, zI s117 this 17 = zz9 := ⟨_, rfl⟩
          have qv122 : v122.toInt = (zI s117 this 17).toInt := by rw [ev122]
          have b123 : isB v122 := by have q9 : isB (zI s117 this 17) := hT.P (hT.k t_this (by decide)) (by decide); rw [ev122] at q9; exact q9
          have b123t := isB_t b123
          refine lv_iconst (v := 1) hx hb dX6_setting_154 (by decide) ?_
          have zz124 : (zI s117 this 14).toInt = v121.toInt := by rw [ev121]
          have zz125 : (zI s117 this 17).toInt = v122.toInt := by rw [ev122]
          subst hQ9
          exact t_z hx hb hr isB1 hlocks hT ⟨by omega, by omega, by omega, by omega, isB1⟩ dX6_setting_155
        · have c10 := gi_ne c9
          refine lv_aload_n hx hb dX6_setting_94 rfl (lv_at hl 0 rfl) ?_
          refine lv_aload_n hx hb dX6_setting_95 rfl (lv_at hl 0 rfl) ?_
          refine lv_ldc2 hx hb hown (hg _ k1377) dX6_setting_96 ?_
          refine lv_ldc2 hx hb hown (hg _ k1378) dX6_setting_99 ?_
          refine lv_lconst (v := 0) hx hb dX6_setting_102 (by decide) ?_
          have qq126 : (zI s105 this 13).toInt = v1.toInt := by rw [(hT.eI t_this (by decide) rfl ev1)]
          have qq127 : (zI s105 this 14).toInt = v110.toInt := by rw [ev110]
          have qq128 : (zI s105 this 17).toInt = v111.toInt := by rw [ev111]
          have hTo := hT
          refine tVi (n := 3) (As := [.long 286880, .long 220309, .long 0]) (rest := [.ref this]) hx hb hml hown hg hT hK hX (X6_choice l κ s105 this 286880 220309 0  (hT.k t_this (by decide)) (by omega) (by omega) (by omega) (by omega)) sub_gHB_gS1 (mwV k1364 k1366 k46 k92 k1367) ⟨rfl, by decide, by decide, by decide +kernel⟩ ⟨(Nat.le_of_ble_eq_true rfl), (Nat.le_of_ble_eq_true rfl)⟩ (hT.o20 (hT.k t_this (by decide))) rfl rfl hl.1 rfl (Nat.le_of_ble_eq_true rfl) dX6_setting_103 zroom.rf (fun x129 s130 H locs hφ hEs130 hT => ?_)
          obtain ⟨f131, f132, f133⟩ := hφ
          obtain ⟨v134, ev134⟩ : ∃ zz9 : Int32, zI s130 this 14 = zz9 := ⟨_, rfl⟩
          have qv134 : v134.toInt = (zI s130 this 14).toInt := by rw [ev134]
          obtain ⟨v135, ev135⟩ : ∃ zz9 : Int32, zI s130 this 17 = zz9 := ⟨_, rfl⟩
          have qv135 : v135.toInt = (zI s130 this 17).toInt := by rw [ev135]
          have b136 : isB v135 := by have q9 : isB (zI s130 this 17) := hT.P (hT.k t_this (by decide)) (by decide); rw [ev135] at q9; exact q9
          have b136t := isB_t b136
          have hTo := hT
          refine pf20_22 hx hb hg hown hK hT (hT.k t_this (by decide)) rfl (hg _ k1241) dX6_setting_106 (fun H locs s137 hus137 hT => ?_)
          have ev134 : zI s137 this 14 = v134 := (zput_o hus137 (Or.inr (by decide))).trans ev134
          have ev135 : zI s137 this 17 = v135 := (zput_o hus137 (Or.inr (by decide))).trans ev135
          have e138 : zI s137 this 22 = x129 := zput_at hus137
          refine lv_goto (tgt := 150) hx hb dX6_setting_109 (by decide) ?_
          refine lv_aload_n hx hb dX6_setting_150 rfl (lv_at hl 0 rfl) ?_
          have qq139 : (zI s137 this 13).toInt = v1.toInt := by rw [(hT.eI t_this (by decide) rfl ev1)]
          have qq140 : (zI s137 this 14).toInt = v134.toInt := by rw [ev134]
          have qq141 : (zI s137 this 17).toInt = v135.toInt := by rw [ev135]
          have hTo := hT
          refine tVv (n := 0) (As := []) (rest := []) hx hb hml hown hg hT hK hX (X6_ends l κ s137 this  (hT.k t_this (by decide)) (by omega) (by omega) (by omega) (by omega)) sub_gHB_gS1 (mwV k1386 k1388 k49 k92 k1389) ⟨rfl, by decide, by decide, by decide +kernel⟩ ⟨(Nat.le_of_ble_eq_true rfl), (Nat.le_of_ble_eq_true rfl)⟩ (hT.o20 (hT.k t_this (by decide))) rfl rfl hl.1 rfl (Nat.le_of_ble_eq_true rfl) dX6_setting_151 zroom.rf (fun s143 H locs hφ hEs143 hT => ?_)
          have e138 : zI s143 this 22 = x129 := ((hTo.k t_this (by decide)).eI hEs143 (by decide) rfl).trans e138
          obtain ⟨f144, f145, f146⟩ := hφ
          obtain ⟨v147, ev147⟩ : ∃ zz9 : Int32, zI s143 this 14 = zz9 := ⟨_, rfl⟩
          have qv147 : v147.toInt = (zI s143 this 14).toInt := by rw [ev147]
          obtain ⟨v148, ev148⟩ : ∃ zz9 : Int32, zI s143 this 17 = zz9 := ⟨_, rfl⟩
          have qv148 : v148.toInt = (zI s143 this 17).toInt := by rw [ev148]
          have b149 : isB v148 := by have q9 : isB (zI s143 this 17) := hT.P (hT.k t_this (by decide)) (by decide); rw [ev148] at q9; exact q9
          have b149t := isB_t b149
          refine lv_iconst (v := 1) hx hb dX6_setting_154 (by decide) ?_
          have zz150 : (zI s143 this 14).toInt = v147.toInt := by rw [ev147]
          have zz151 : (zI s143 this 17).toInt = v148.toInt := by rw [ev148]
          subst hQ9
          exact t_z hx hb hr isB1 hlocks hT ⟨by omega, by omega, by omega, by omega, isB1⟩ dX6_setting_155
    · have c11 := gi_ne c9
      refine lv_aload_n hx hb dX6_setting_48 rfl (lv_at hl 0 rfl) ?_
      refine lv_iconst (v := 1) hx hb dX6_setting_49 (by decide) ?_
      have qq152 : (zI s19 this 13).toInt = v1.toInt := by rw [(hT.eI t_this (by decide) rfl ev1)]
      have qq153 : (zI s19 this 14).toInt = v24.toInt := by rw [ev24]
      have qq154 : (zI s19 this 17).toInt = v3.toInt := by rw [ev3]
      have hTo := hT
      refine tVi (n := 1) (As := [.int 1]) (rest := []) hx hb hml hown hg hT hK hX (X6_begins l κ s19 this 1  (hT.k t_this (by decide)) (by omega) (by omega) (by omega) (by omega)) sub_gBe_gS1 (mwV k1353 k1355 k44 k92 k1356) ⟨rfl, by decide, by decide, by decide +kernel⟩ ⟨(Nat.le_of_ble_eq_true rfl), (Nat.le_of_ble_eq_true rfl)⟩ (hT.o20 (hT.k t_this (by decide))) rfl rfl hl.1 rfl (Nat.le_of_ble_eq_true rfl) dX6_setting_50 zroom.rf (fun x155 s156 H locs hφ hEs156 hT => ?_)
      obtain ⟨f157, f158, f159, f160⟩ := hφ
      obtain ⟨v161, ev161⟩ : ∃ zz9 : Int32, zI s156 this 14 = zz9 := ⟨_, rfl⟩
      have qv161 : v161.toInt = (zI s156 this 14).toInt := by rw [ev161]
      obtain ⟨v162, ev162⟩ : ∃ zz9 : Int32, zI s156 this 17 = zz9 := ⟨_, rfl⟩
      have qv162 : v162.toInt = (zI s156 this 17).toInt := by rw [ev162]
      have b163 : isB v162 := by have q9 : isB (zI s156 this 17) := hT.P (hT.k t_this (by decide)) (by decide); rw [ev162] at q9; exact q9
      have b163t := isB_t b163
      refine lv_if_eq (tgt := 150) hx hb dX6_setting_53 (by decide) (fun c9 => ?_) (fun c9 => ?_)
      · have c12 := gi_eq c9
        refine lv_aload_n hx hb dX6_setting_150 rfl (lv_at hl 0 rfl) ?_
        have qq164 : (zI s156 this 13).toInt = v1.toInt := by rw [(hT.eI t_this (by decide) rfl ev1)]
        have qq165 : (zI s156 this 14).toInt = v161.toInt := by rw [ev161]
        have qq166 : (zI s156 this 17).toInt = v162.toInt := by rw [ev162]
        have hTo := hT
        refine tVv (n := 0) (As := []) (rest := []) hx hb hml hown hg hT hK hX (X6_ends l κ s156 this  (hT.k t_this (by decide)) (by omega) (by omega) (by omega) (by omega)) sub_gHB_gS1 (mwV k1386 k1388 k49 k92 k1389) ⟨rfl, by decide, by decide, by decide +kernel⟩ ⟨(Nat.le_of_ble_eq_true rfl), (Nat.le_of_ble_eq_true rfl)⟩ (hT.o20 (hT.k t_this (by decide))) rfl rfl hl.1 rfl (Nat.le_of_ble_eq_true rfl) dX6_setting_151 zroom.rf (fun s168 H locs hφ hEs168 hT => ?_)
        obtain ⟨f169, f170, f171⟩ := hφ
        obtain ⟨v172, ev172⟩ : ∃ zz9 : Int32, zI s168 this 14 = zz9 := ⟨_, rfl⟩
        have qv172 : v172.toInt = (zI s168 this 14).toInt := by rw [ev172]
        obtain ⟨v173, ev173⟩ : ∃ zz9 : Int32, zI s168 this 17 = zz9 := ⟨_, rfl⟩
        have qv173 : v173.toInt = (zI s168 this 17).toInt := by rw [ev173]
        have b174 : isB v173 := by have q9 : isB (zI s168 this 17) := hT.P (hT.k t_this (by decide)) (by decide); rw [ev173] at q9; exact q9
        have b174t := isB_t b174
        refine lv_iconst (v := 1) hx hb dX6_setting_154 (by decide) ?_
        have zz175 : (zI s168 this 14).toInt = v172.toInt := by rw [ev172]
        have zz176 : (zI s168 this 17).toInt = v173.toInt := by rw [ev173]
        subst hQ9
        exact t_z hx hb hr isB1 hlocks hT ⟨by omega, by omega, by omega, by omega, isB1⟩ dX6_setting_155
      · have c13 := gi_ne c9
        refine lv_aload_n hx hb dX6_setting_56 rfl (lv_at hl 0 rfl) ?_
        refine lv_aload_n hx hb dX6_setting_57 rfl (lv_at hl 0 rfl) ?_
        refine lv_ldc2 hx hb hown (hg _ k1373) dX6_setting_58 ?_
        refine lv_ldc2 hx hb hown (hg _ k1374) dX6_setting_61 ?_
        refine lv_ldc2 hx hb hown (hg _ k1375) dX6_setting_64 ?_
        have qq177 : (zI s156 this 13).toInt = v1.toInt := by rw [(hT.eI t_this (by decide) rfl ev1)]
        have qq178 : (zI s156 this 14).toInt = v161.toInt := by rw [ev161]
        have qq179 : (zI s156 this 17).toInt = v162.toInt := by rw [ev162]
        have hTo := hT
        refine tVi (n := 3) (As := [.long 240023, .long 279252, .long 177249105]) (rest := [.ref this]) hx hb hml hown hg hT hK hX (X6_choice l κ s156 this 240023 279252 177249105  (hT.k t_this (by decide)) (by omega) (by omega) (by omega) (by omega)) sub_gHB_gS1 (mwV k1364 k1366 k46 k92 k1367) ⟨rfl, by decide, by decide, by decide +kernel⟩ ⟨(Nat.le_of_ble_eq_true rfl), (Nat.le_of_ble_eq_true rfl)⟩ (hT.o20 (hT.k t_this (by decide))) rfl rfl hl.1 rfl (Nat.le_of_ble_eq_true rfl) dX6_setting_67 zroom.rf (fun x180 s181 H locs hφ hEs181 hT => ?_)
        obtain ⟨f182, f183, f184⟩ := hφ
        obtain ⟨v185, ev185⟩ : ∃ zz9 : Int32, zI s181 this 14 = zz9 := ⟨_, rfl⟩
        have qv185 : v185.toInt = (zI s181 this 14).toInt := by rw [ev185]
        obtain ⟨v186, ev186⟩ : ∃ zz9 : Int32, zI s181 this 17 = zz9 := ⟨_, rfl⟩
        have qv186 : v186.toInt = (zI s181 this 17).toInt := by rw [ev186]
        have b187 : isB v186 := by have q9 : isB (zI s181 this 17) := hT.P (hT.k t_this (by decide)) (by decide); rw [ev186] at q9; exact q9
        have b187t := isB_t b187
        have hTo := hT
        refine pf20_21 hx hb hg hown hK hT (hT.k t_this (by decide)) rfl (hg _ k1240) dX6_setting_70 (fun H locs s188 hus188 hT => ?_)
        have ev185 : zI s188 this 14 = v185 := (zput_o hus188 (Or.inr (by decide))).trans ev185
        have ev186 : zI s188 this 17 = v186 := (zput_o hus188 (Or.inr (by decide))).trans ev186
        have e189 : zI s188 this 21 = x180 := zput_at hus188
        refine lv_goto (tgt := 150) hx hb dX6_setting_73 (by decide) ?_
        refine lv_aload_n hx hb dX6_setting_150 rfl (lv_at hl 0 rfl) ?_
        have qq190 : (zI s188 this 13).toInt = v1.toInt := by rw [(hT.eI t_this (by decide) rfl ev1)]
        have qq191 : (zI s188 this 14).toInt = v185.toInt := by rw [ev185]
        have qq192 : (zI s188 this 17).toInt = v186.toInt := by rw [ev186]
        have hTo := hT
        refine tVv (n := 0) (As := []) (rest := []) hx hb hml hown hg hT hK hX (X6_ends l κ s188 this  (hT.k t_this (by decide)) (by omega) (by omega) (by omega) (by omega)) sub_gHB_gS1 (mwV k1386 k1388 k49 k92 k1389) ⟨rfl, by decide, by decide, by decide +kernel⟩ ⟨(Nat.le_of_ble_eq_true rfl), (Nat.le_of_ble_eq_true rfl)⟩ (hT.o20 (hT.k t_this (by decide))) rfl rfl hl.1 rfl (Nat.le_of_ble_eq_true rfl) dX6_setting_151 zroom.rf (fun s194 H locs hφ hEs194 hT => ?_)
        have e189 : zI s194 this 21 = x180 := ((hTo.k t_this (by decide)).eI hEs194 (by decide) rfl).trans e189
        obtain ⟨f195, f196, f197⟩ := hφ
        obtain ⟨v198, ev198⟩ : ∃ zz9 : Int32, zI s194 this 14 = zz9 := ⟨_, rfl⟩
        have qv198 : v198.toInt = (zI s194 this 14).toInt := by rw [ev198]
        obtain ⟨v199, ev199⟩ : ∃ zz9 : Int32, zI s194 this 17 = zz9 := ⟨_, rfl⟩
        have qv199 : v199.toInt = (zI s194 this 17).toInt := by rw [ev199]
        have b200 : isB v199 := by have q9 : isB (zI s194 this 17) := hT.P (hT.k t_this (by decide)) (by decide); rw [ev199] at q9; exact q9
        have b200t := isB_t b200
        refine lv_iconst (v := 1) hx hb dX6_setting_154 (by decide) ?_
        have zz201 : (zI s194 this 14).toInt = v198.toInt := by rw [ev198]
        have zz202 : (zI s194 this 17).toInt = v199.toInt := by rw [ev199]
        subst hQ9
        exact t_z hx hb hr isB1 hlocks hT ⟨by omega, by omega, by omega, by omega, isB1⟩ dX6_setting_155
  · have c14 := gi_ne c9
    refine lv_aload_n hx hb dX6_setting_10 rfl (lv_at hl 0 rfl) ?_
    refine lv_iconst (v := 0) hx hb dX6_setting_11 (by decide) ?_
    have qq203 : (zI s9 this 13).toInt = v1.toInt := by rw [(hT.eI t_this (by decide) rfl ev1)]
    have qq204 : (zI s9 this 14).toInt = v14.toInt := by rw [ev14]
    have qq205 : (zI s9 this 17).toInt = v3.toInt := by rw [ev3]
    have hTo := hT
    refine tVi (n := 1) (As := [.int 0]) (rest := []) hx hb hml hown hg hT hK hX (X6_begins l κ s9 this 0  (hT.k t_this (by decide)) (by omega) (by omega) (by omega) (by omega)) sub_gBe_gS1 (mwV k1353 k1355 k44 k92 k1356) ⟨rfl, by decide, by decide, by decide +kernel⟩ ⟨(Nat.le_of_ble_eq_true rfl), (Nat.le_of_ble_eq_true rfl)⟩ (hT.o20 (hT.k t_this (by decide))) rfl rfl hl.1 rfl (Nat.le_of_ble_eq_true rfl) dX6_setting_12 zroom.rf (fun x206 s207 H locs hφ hEs207 hT => ?_)
    obtain ⟨f208, f209, f210, f211⟩ := hφ
    obtain ⟨v212, ev212⟩ : ∃ zz9 : Int32, zI s207 this 14 = zz9 := ⟨_, rfl⟩
    have qv212 : v212.toInt = (zI s207 this 14).toInt := by rw [ev212]
    obtain ⟨v213, ev213⟩ : ∃ zz9 : Int32, zI s207 this 17 = zz9 := ⟨_, rfl⟩
    have qv213 : v213.toInt = (zI s207 this 17).toInt := by rw [ev213]
    have b214 : isB v213 := by have q9 : isB (zI s207 this 17) := hT.P (hT.k t_this (by decide)) (by decide); rw [ev213] at q9; exact q9
    have b214t := isB_t b214
    refine lv_if_eq (tgt := 150) hx hb dX6_setting_15 (by decide) (fun c9 => ?_) (fun c9 => ?_)
    · have c15 := gi_eq c9
      refine lv_aload_n hx hb dX6_setting_150 rfl (lv_at hl 0 rfl) ?_
      have qq215 : (zI s207 this 13).toInt = v1.toInt := by rw [(hT.eI t_this (by decide) rfl ev1)]
      have qq216 : (zI s207 this 14).toInt = v212.toInt := by rw [ev212]
      have qq217 : (zI s207 this 17).toInt = v213.toInt := by rw [ev213]
      have hTo := hT
      refine tVv (n := 0) (As := []) (rest := []) hx hb hml hown hg hT hK hX (X6_ends l κ s207 this  (hT.k t_this (by decide)) (by omega) (by omega) (by omega) (by omega)) sub_gHB_gS1 (mwV k1386 k1388 k49 k92 k1389) ⟨rfl, by decide, by decide, by decide +kernel⟩ ⟨(Nat.le_of_ble_eq_true rfl), (Nat.le_of_ble_eq_true rfl)⟩ (hT.o20 (hT.k t_this (by decide))) rfl rfl hl.1 rfl (Nat.le_of_ble_eq_true rfl) dX6_setting_151 zroom.rf (fun s219 H locs hφ hEs219 hT => ?_)
      obtain ⟨f220, f221, f222⟩ := hφ
      obtain ⟨v223, ev223⟩ : ∃ zz9 : Int32, zI s219 this 14 = zz9 := ⟨_, rfl⟩
      have qv223 : v223.toInt = (zI s219 this 14).toInt := by rw [ev223]
      obtain ⟨v224, ev224⟩ : ∃ zz9 : Int32, zI s219 this 17 = zz9 := ⟨_, rfl⟩
      have qv224 : v224.toInt = (zI s219 this 17).toInt := by rw [ev224]
      have b225 : isB v224 := by have q9 : isB (zI s219 this 17) := hT.P (hT.k t_this (by decide)) (by decide); rw [ev224] at q9; exact q9
      have b225t := isB_t b225
      refine lv_iconst (v := 1) hx hb dX6_setting_154 (by decide) ?_
      have zz226 : (zI s219 this 14).toInt = v223.toInt := by rw [ev223]
      have zz227 : (zI s219 this 17).toInt = v224.toInt := by rw [ev224]
      subst hQ9
      exact t_z hx hb hr isB1 hlocks hT ⟨by omega, by omega, by omega, by omega, isB1⟩ dX6_setting_155
    · have c16 := gi_ne c9
      refine lv_aload_n hx hb dX6_setting_18 rfl (lv_at hl 0 rfl) ?_
      refine lv_aload_n hx hb dX6_setting_19 rfl (lv_at hl 0 rfl) ?_
      refine lv_ldc2 hx hb hown (hg _ k1361) dX6_setting_20 ?_
      refine lv_ldc2 hx hb hown (hg _ k1362) dX6_setting_23 ?_
      refine lv_ldc2 hx hb hown (hg _ k1363) dX6_setting_26 ?_
      have qq228 : (zI s207 this 13).toInt = v1.toInt := by rw [(hT.eI t_this (by decide) rfl ev1)]
      have qq229 : (zI s207 this 14).toInt = v212.toInt := by rw [ev212]
      have qq230 : (zI s207 this 17).toInt = v213.toInt := by rw [ev213]
      have hTo := hT
      refine tVi (n := 3) (As := [.long 385682, .long 70704498, .long 60447477]) (rest := [.ref this]) hx hb hml hown hg hT hK hX (X6_choice l κ s207 this 385682 70704498 60447477  (hT.k t_this (by decide)) (by omega) (by omega) (by omega) (by omega)) sub_gHB_gS1 (mwV k1364 k1366 k46 k92 k1367) ⟨rfl, by decide, by decide, by decide +kernel⟩ ⟨(Nat.le_of_ble_eq_true rfl), (Nat.le_of_ble_eq_true rfl)⟩ (hT.o20 (hT.k t_this (by decide))) rfl rfl hl.1 rfl (Nat.le_of_ble_eq_true rfl) dX6_setting_29 zroom.rf (fun x231 s232 H locs hφ hEs232 hT => ?_)
      obtain ⟨f233, f234, f235⟩ := hφ
      obtain ⟨v236, ev236⟩ : ∃ zz9 : Int32, zI s232 this 14 = zz9 := ⟨_, rfl⟩
      have qv236 : v236.toInt = (zI s232 this 14).toInt := by rw [ev236]
      obtain ⟨v237, ev237⟩ : ∃ zz9 : Int32, zI s232 this 17 = zz9 := ⟨_, rfl⟩
      have qv237 : v237.toInt = (zI s232 this 17).toInt := by rw [ev237]
      have b238 : isB v237 := by have q9 : isB (zI s232 this 17) := hT.P (hT.k t_this (by decide)) (by decide); rw [ev237] at q9; exact q9
      have b238t := isB_t b238
      have hTo := hT
      refine pf20_20 hx hb hg hown hK hT (hT.k t_this (by decide)) rfl (hg _ k1239) dX6_setting_32 (fun H locs s239 hus239 hT => ?_)
      have ev236 : zI s239 this 14 = v236 := (zput_o hus239 (Or.inr (by decide))).trans ev236
      have ev237 : zI s239 this 17 = v237 := (zput_o hus239 (Or.inr (by decide))).trans ev237
      have e240 : zI s239 this 20 = x231 := zput_at hus239
      refine lv_goto (tgt := 150) hx hb dX6_setting_35 (by decide) ?_
      refine lv_aload_n hx hb dX6_setting_150 rfl (lv_at hl 0 rfl) ?_
      have qq241 : (zI s239 this 13).toInt = v1.toInt := by rw [(hT.eI t_this (by decide) rfl ev1)]
      have qq242 : (zI s239 this 14).toInt = v236.toInt := by rw [ev236]
      have qq243 : (zI s239 this 17).toInt = v237.toInt := by rw [ev237]
      have hTo := hT
      refine tVv (n := 0) (As := []) (rest := []) hx hb hml hown hg hT hK hX (X6_ends l κ s239 this  (hT.k t_this (by decide)) (by omega) (by omega) (by omega) (by omega)) sub_gHB_gS1 (mwV k1386 k1388 k49 k92 k1389) ⟨rfl, by decide, by decide, by decide +kernel⟩ ⟨(Nat.le_of_ble_eq_true rfl), (Nat.le_of_ble_eq_true rfl)⟩ (hT.o20 (hT.k t_this (by decide))) rfl rfl hl.1 rfl (Nat.le_of_ble_eq_true rfl) dX6_setting_151 zroom.rf (fun s245 H locs hφ hEs245 hT => ?_)
      have e240 : zI s245 this 20 = x231 := ((hTo.k t_this (by decide)).eI hEs245 (by decide) rfl).trans e240
      obtain ⟨f246, f247, f248⟩ := hφ
      obtain ⟨v249, ev249⟩ : ∃ zz9 : Int32, zI s245 this 14 = zz9 := ⟨_, rfl⟩
      have qv249 : v249.toInt = (zI s245 this 14).toInt := by rw [ev249]
      obtain ⟨v250, ev250⟩ : ∃ zz9 : Int32, zI s245 this 17 = zz9 := ⟨_, rfl⟩
      have qv250 : v250.toInt = (zI s245 this 17).toInt := by rw [ev250]
      have b251 : isB v250 := by have q9 : isB (zI s245 this 17) := hT.P (hT.k t_this (by decide)) (by decide); rw [ev250] at q9; exact q9
      have b251t := isB_t b251
      refine lv_iconst (v := 1) hx hb dX6_setting_154 (by decide) ?_
      have zz252 : (zI s245 this 14).toInt = v249.toInt := by rw [ev249]
      have zz253 : (zI s245 this 17).toInt = v250.toInt := by rw [ev250]
      subst hQ9
      exact t_z hx hb hr isB1 hlocks hT ⟨by omega, by omega, by omega, by omega, isB1⟩ dX6_setting_155

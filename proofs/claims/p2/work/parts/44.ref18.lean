/-! The reference over any state: samples -/
theorem sub_fE_gS2 : ∀ t k, gS2 t k = false → fE t k = false := by
  intro t k h
  simp [fE, gS2] at h ⊢ <;> omega
theorem sub_gB_gS2 : ∀ t k, gS2 t k = false → gB t k = false := by
  intro t k h
  simp [gB, gS2] at h ⊢ <;> omega
theorem sub_gH_gS2 : ∀ t k, gS2 t k = false → gH t k = false := by
  intro t k h
  simp [gH, gS2] at h ⊢ <;> omega
theorem sub_gHB_gS2 : ∀ t k, gS2 t k = false → gHB t k = false := by
  intro t k h
  simp [gHB, gS2] at h ⊢ <;> omega
theorem sub_gN_gS2 : ∀ t k, gS2 t k = false → gN t k = false := by
  intro t k h
  simp [gN, gS2] at h ⊢ <;> omega
theorem k1237 : Cond.fieldLink RX6 46 "LiftingSignalModel" "newSamples" "I" ∈ GW := gm 1237 (by decide +kernel) (by decide +kernel)
theorem k1244 : Cond.fieldLink RX6 40 "LiftingSignalModel" "newPlace" "[I" ∈ GW := gm 1244 (by decide +kernel) (by decide +kernel)
theorem k1245 : Cond.fieldLink RX6 43 "LiftingSignalModel" "newValue" "[I" ∈ GW := gm 1245 (by decide +kernel) (by decide +kernel)
theorem dX6_sampleTold_0 : decode cX6_sampleTold 0 = .ok (.aload_n 0, 1) := by decide +kernel
theorem dX6_sampleTold_1 : decode cX6_sampleTold 1 = .ok (.getfield 46, 3) := by decide +kernel
theorem dX6_sampleTold_4 : decode cX6_sampleTold 4 = .ok (.bipush 48, 2) := by decide +kernel
theorem dX6_sampleTold_6 : decode cX6_sampleTold 6 = .ok (.if_icmp .ne 13, 3) := by decide +kernel
theorem dX6_sampleTold_9 : decode cX6_sampleTold 9 = .ok (.aload_n 0, 1) := by decide +kernel
theorem dX6_sampleTold_10 : decode cX6_sampleTold 10 = .ok (.iconst 4, 1) := by decide +kernel
theorem dX6_sampleTold_11 : decode cX6_sampleTold 11 = .ok (.aload_n 0, 1) := by decide +kernel
theorem dX6_sampleTold_12 : decode cX6_sampleTold 12 = .ok (.getfield 88, 3) := by decide +kernel
theorem dX6_sampleTold_15 : decode cX6_sampleTold 15 = .ok (.invokevirtual 128, 3) := by decide +kernel
theorem dX6_sampleTold_18 : decode cX6_sampleTold 18 = .ok (.return_, 1) := by decide +kernel
theorem dX6_sampleTold_19 : decode cX6_sampleTold 19 = .ok (.aload_n 0, 1) := by decide +kernel
theorem dX6_sampleTold_20 : decode cX6_sampleTold 20 = .ok (.aload_n 0, 1) := by decide +kernel
theorem dX6_sampleTold_21 : decode cX6_sampleTold 21 = .ok (.invokevirtual 106, 3) := by decide +kernel
theorem dX6_sampleTold_24 : decode cX6_sampleTold 24 = .ok (.putfield 88, 3) := by decide +kernel
theorem dX6_sampleTold_27 : decode cX6_sampleTold 27 = .ok (.aload_n 0, 1) := by decide +kernel
theorem dX6_sampleTold_28 : decode cX6_sampleTold 28 = .ok (.aload_n 0, 1) := by decide +kernel
theorem dX6_sampleTold_29 : decode cX6_sampleTold 29 = .ok (.getfield 46, 3) := by decide +kernel
theorem dX6_sampleTold_32 : decode cX6_sampleTold 32 = .ok (.ifCond .ne 7, 3) := by decide +kernel
theorem dX6_sampleTold_35 : decode cX6_sampleTold 35 = .ok (.iconst 0, 1) := by decide +kernel
theorem dX6_sampleTold_36 : decode cX6_sampleTold 36 = .ok (.goto 16, 3) := by decide +kernel
theorem dX6_sampleTold_39 : decode cX6_sampleTold 39 = .ok (.aload_n 0, 1) := by decide +kernel
theorem dX6_sampleTold_40 : decode cX6_sampleTold 40 = .ok (.getfield 40, 3) := by decide +kernel
theorem dX6_sampleTold_43 : decode cX6_sampleTold 43 = .ok (.aload_n 0, 1) := by decide +kernel
theorem dX6_sampleTold_44 : decode cX6_sampleTold 44 = .ok (.getfield 46, 3) := by decide +kernel
theorem dX6_sampleTold_47 : decode cX6_sampleTold 47 = .ok (.iconst 1, 1) := by decide +kernel
theorem dX6_sampleTold_48 : decode cX6_sampleTold 48 = .ok (.isub, 1) := by decide +kernel
theorem dX6_sampleTold_49 : decode cX6_sampleTold 49 = .ok (.iaload, 1) := by decide +kernel
theorem dX6_sampleTold_50 : decode cX6_sampleTold 50 = .ok (.iconst 1, 1) := by decide +kernel
theorem dX6_sampleTold_51 : decode cX6_sampleTold 51 = .ok (.iadd, 1) := by decide +kernel
theorem dX6_sampleTold_52 : decode cX6_sampleTold 52 = .ok (.sipush 9999, 3) := by decide +kernel
theorem dX6_sampleTold_55 : decode cX6_sampleTold 55 = .ok (.invokevirtual 170, 3) := by decide +kernel
theorem dX6_sampleTold_58 : decode cX6_sampleTold 58 = .ok (.aload_n 0, 1) := by decide +kernel
theorem dX6_sampleTold_59 : decode cX6_sampleTold 59 = .ok (.getfield 40, 3) := by decide +kernel
theorem dX6_sampleTold_62 : decode cX6_sampleTold 62 = .ok (.aload_n 0, 1) := by decide +kernel
theorem dX6_sampleTold_63 : decode cX6_sampleTold 63 = .ok (.getfield 46, 3) := by decide +kernel
theorem dX6_sampleTold_66 : decode cX6_sampleTold 66 = .ok (.aload_n 0, 1) := by decide +kernel
theorem dX6_sampleTold_67 : decode cX6_sampleTold 67 = .ok (.getfield 121, 3) := by decide +kernel
theorem dX6_sampleTold_70 : decode cX6_sampleTold 70 = .ok (.iastore, 1) := by decide +kernel
theorem dX6_sampleTold_71 : decode cX6_sampleTold 71 = .ok (.aload_n 0, 1) := by decide +kernel
theorem dX6_sampleTold_72 : decode cX6_sampleTold 72 = .ok (.getfield 91, 3) := by decide +kernel
theorem dX6_sampleTold_75 : decode cX6_sampleTold 75 = .ok (.ifCond .ne 16, 3) := by decide +kernel
theorem dX6_sampleTold_78 : decode cX6_sampleTold 78 = .ok (.aload_n 0, 1) := by decide +kernel
theorem dX6_sampleTold_79 : decode cX6_sampleTold 79 = .ok (.invokevirtual 102, 3) := by decide +kernel
theorem dX6_sampleTold_82 : decode cX6_sampleTold 82 = .ok (.bipush 45, 2) := by decide +kernel
theorem dX6_sampleTold_84 : decode cX6_sampleTold 84 = .ok (.if_icmp .ne 7, 3) := by decide +kernel
theorem dX6_sampleTold_87 : decode cX6_sampleTold 87 = .ok (.iconst 1, 1) := by decide +kernel
theorem dX6_sampleTold_88 : decode cX6_sampleTold 88 = .ok (.goto 4, 3) := by decide +kernel
theorem dX6_sampleTold_91 : decode cX6_sampleTold 91 = .ok (.iconst 0, 1) := by decide +kernel
theorem dX6_sampleTold_92 : decode cX6_sampleTold 92 = .ok (.istore_n 1, 1) := by decide +kernel
theorem dX6_sampleTold_93 : decode cX6_sampleTold 93 = .ok (.aload_n 0, 1) := by decide +kernel
theorem dX6_sampleTold_94 : decode cX6_sampleTold 94 = .ok (.dup, 1) := by decide +kernel
theorem dX6_sampleTold_95 : decode cX6_sampleTold 95 = .ok (.getfield 88, 3) := by decide +kernel
theorem dX6_sampleTold_98 : decode cX6_sampleTold 98 = .ok (.iload_n 1, 1) := by decide +kernel
theorem dX6_sampleTold_99 : decode cX6_sampleTold 99 = .ok (.ifCond .eq 7, 3) := by decide +kernel
theorem dX6_sampleTold_102 : decode cX6_sampleTold 102 = .ok (.iconst 1, 1) := by decide +kernel
theorem dX6_sampleTold_103 : decode cX6_sampleTold 103 = .ok (.goto 4, 3) := by decide +kernel
theorem dX6_sampleTold_106 : decode cX6_sampleTold 106 = .ok (.iconst 0, 1) := by decide +kernel
theorem dX6_sampleTold_107 : decode cX6_sampleTold 107 = .ok (.iadd, 1) := by decide +kernel
theorem dX6_sampleTold_108 : decode cX6_sampleTold 108 = .ok (.putfield 88, 3) := by decide +kernel
theorem dX6_sampleTold_111 : decode cX6_sampleTold 111 = .ok (.aload_n 0, 1) := by decide +kernel
theorem dX6_sampleTold_112 : decode cX6_sampleTold 112 = .ok (.iconst 0, 1) := by decide +kernel
theorem dX6_sampleTold_113 : decode cX6_sampleTold 113 = .ok (.sipush 9999, 3) := by decide +kernel
theorem dX6_sampleTold_116 : decode cX6_sampleTold 116 = .ok (.invokevirtual 170, 3) := by decide +kernel
theorem dX6_sampleTold_119 : decode cX6_sampleTold 119 = .ok (.aload_n 0, 1) := by decide +kernel
theorem dX6_sampleTold_120 : decode cX6_sampleTold 120 = .ok (.getfield 43, 3) := by decide +kernel
theorem dX6_sampleTold_123 : decode cX6_sampleTold 123 = .ok (.aload_n 0, 1) := by decide +kernel
theorem dX6_sampleTold_124 : decode cX6_sampleTold 124 = .ok (.getfield 46, 3) := by decide +kernel
theorem dX6_sampleTold_127 : decode cX6_sampleTold 127 = .ok (.iload_n 1, 1) := by decide +kernel
theorem dX6_sampleTold_128 : decode cX6_sampleTold 128 = .ok (.ifCond .eq 11, 3) := by decide +kernel
theorem dX6_sampleTold_131 : decode cX6_sampleTold 131 = .ok (.aload_n 0, 1) := by decide +kernel
theorem dX6_sampleTold_132 : decode cX6_sampleTold 132 = .ok (.getfield 121, 3) := by decide +kernel
theorem dX6_sampleTold_135 : decode cX6_sampleTold 135 = .ok (.ineg, 1) := by decide +kernel
theorem dX6_sampleTold_136 : decode cX6_sampleTold 136 = .ok (.goto 7, 3) := by decide +kernel
theorem dX6_sampleTold_139 : decode cX6_sampleTold 139 = .ok (.aload_n 0, 1) := by decide +kernel
theorem dX6_sampleTold_140 : decode cX6_sampleTold 140 = .ok (.getfield 121, 3) := by decide +kernel
theorem dX6_sampleTold_143 : decode cX6_sampleTold 143 = .ok (.iastore, 1) := by decide +kernel
theorem dX6_sampleTold_144 : decode cX6_sampleTold 144 = .ok (.aload_n 0, 1) := by decide +kernel
theorem dX6_sampleTold_145 : decode cX6_sampleTold 145 = .ok (.invokevirtual 173, 3) := by decide +kernel
theorem dX6_sampleTold_148 : decode cX6_sampleTold 148 = .ok (.aload_n 0, 1) := by decide +kernel
theorem dX6_sampleTold_149 : decode cX6_sampleTold 149 = .ok (.dup, 1) := by decide +kernel
theorem dX6_sampleTold_150 : decode cX6_sampleTold 150 = .ok (.getfield 46, 3) := by decide +kernel
theorem dX6_sampleTold_153 : decode cX6_sampleTold 153 = .ok (.iconst 1, 1) := by decide +kernel
theorem dX6_sampleTold_154 : decode cX6_sampleTold 154 = .ok (.iadd, 1) := by decide +kernel
theorem dX6_sampleTold_155 : decode cX6_sampleTold 155 = .ok (.putfield 46, 3) := by decide +kernel
theorem dX6_sampleTold_158 : decode cX6_sampleTold 158 = .ok (.return_, 1) := by decide +kernel
set_option maxHeartbeats 4000000 in
set_option maxRecDepth 100000 in
theorem X6_sampleTold (l : Launch) (κ : Kt) (σ0 : Gh) (this : Nat) (t_this : zk σ0 this 20) (h0 : 0 ≤ (zI σ0 this 13).toInt) (h1 : (zI σ0 this 13).toInt ≤ 700) (h2 : 0 ≤ (zI σ0 this 14).toInt) (h3 : (zI σ0 this 14).toInt ≤ 702) (h4 : (zI σ0 this 14).toInt ≤ (zI σ0 this 13).toInt) (h5 : 0 ≤ (zI σ0 this 18).toInt) (h6 : (zI σ0 this 18).toInt ≤ 48) (h7 : PL (zI σ0 this 18).toInt.toNat (zI σ0 (kR κ this 25))) : TC l yX6_sampleTold cX6_sampleTold 2 none 2 49 [.ref this] κ σ0 (tqv κ gS2 σ0 (fun (τ : Gh) => ((zI τ this 17).toInt = 1 ∨ (zI σ0 this 14).toInt < (zI τ this 14).toInt) ∧ ((zI σ0 this 14).toInt ≤ (zI τ this 14).toInt) ∧ ((zI τ this 14).toInt ≤ (zI σ0 this 13).toInt + 1) ∧ ((zI τ this 17).toInt = 1 ∨ (zI τ this 14).toInt ≤ (zI σ0 this 13).toInt) ∧ (0 ≤ (zI τ this 18).toInt) ∧ ((zI τ this 18).toInt ≤ 48) ∧ ((zI τ this 17).toInt = 1 ∨ PL (zI τ this 18).toInt.toNat (zI τ (kR κ this 25))))) := by
  refine TC.of gS2 (by decide +kernel) (Nat.le_of_ble_eq_true rfl) ?_
  intro p e s m below meth c ls hcs hK hX hT hl
  obtain ⟨hx, hb, hr, hml, hown, hg, hlocks, hin⟩ := hcs
  have hown : s.vm.findClass RX6 = some m.cls := hown
  have hl : lv_has ls 2 [(0, .ref this)] := hl
  have hT0 := hT
  have n0 : (0 : Int32).toInt = 0 := by decide
  have n1 : (1 : Int32).toInt = 1 := by decide
  have n4 : (4 : Int32).toInt = 4 := by decide
  have n45 : (45 : Int32).toInt = 45 := by decide
  have n48 : (48 : Int32).toInt = 48 := by decide
  have n9999 : (9999 : Int32).toInt = 9999 := by decide
  generalize hQ9 : tQ _ _ _ _ _ _ = Q9
  obtain ⟨rQ, erQ⟩ : ∃ z, kR κ this 25 = z := ⟨_, rfl⟩
  have trQ : zk σ0 rQ 27 := by rw [← erQ]; exact hT0.ref t_this (by decide) (by decide) (by decide)
  rw [erQ] at h7
  have q0 : zI σ0 rQ = zI σ0 rQ := rfl
  obtain ⟨v1, ev1⟩ : ∃ zz9 : Int32, zI σ0 this 13 = zz9 := ⟨_, rfl⟩
  have qv1 : v1.toInt = (zI σ0 this 13).toInt := by rw [ev1]
  obtain ⟨v2, ev2⟩ : ∃ zz9 : Int32, zI σ0 this 14 = zz9 := ⟨_, rfl⟩
  have qv2 : v2.toInt = (zI σ0 this 14).toInt := by rw [ev2]
  obtain ⟨v3, ev3⟩ : ∃ zz9 : Int32, zI σ0 this 17 = zz9 := ⟨_, rfl⟩
  have qv3 : v3.toInt = (zI σ0 this 17).toInt := by rw [ev3]
  have b4 : isB v3 := by have q9 : isB (zI σ0 this 17) := hT.P (hT.k t_this (by decide)) (by decide); rw [ev3] at q9; exact q9
  have b4t := isB_t b4
  obtain ⟨v5, ev5⟩ : ∃ zz9 : Int32, zI σ0 this 18 = zz9 := ⟨_, rfl⟩
  have qv5 : v5.toInt = (zI σ0 this 18).toInt := by rw [ev5]
  refine lv_aload_n hx hb dX6_sampleTold_0 rfl (lv_at hl 0 rfl) ?_
  refine va_get (D := κ.1) (ci := 6) (v := .int (zI σ0 this 18)) (C := RX6) (T := TX6) (N := 27) hx hb hg inX6 hown hK (hT.o20 (hT.k t_this (by decide))).one 0 rfl rfl 18 (by decide) (hg _ k1237) (fun _ h9 => h9) rfl dX6_sampleTold_1 ?_
  rw [ev5]
  refine lv_bipush (v := 48) hx hb dX6_sampleTold_4 (by decide) ?_
  refine lv_icmp_ne (tgt := 19) hx hb dX6_sampleTold_6 (by decide) (fun c9 => ?_) (fun c9 => ?_)
  · have c1 := gi_ne c9
    refine lv_aload_n hx hb dX6_sampleTold_19 rfl (lv_at hl 0 rfl) ?_
    refine lv_aload_n hx hb dX6_sampleTold_20 rfl (lv_at hl 0 rfl) ?_
    have qq6 : (zI σ0 this 13).toInt = v1.toInt := by rw [(hT.eI t_this (by decide) rfl ev1)]
    have qq7 : (zI σ0 this 14).toInt = v2.toInt := by rw [ev2]
    have qq8 : (zI σ0 this 17).toInt = v3.toInt := by rw [ev3]
    have hTo := hT
    refine tVi (n := 0) (As := []) (rest := [.ref this]) hx hb hml hown hg hT hK hX (X6_wordEnd l κ σ0 this  (hT.k t_this (by decide)) (by omega) (by omega) (by omega) (by omega)) sub_fE_gS2 (mwV k1345 k1347 k43 k92 k1348) ⟨rfl, by decide, by decide, by decide +kernel⟩ ⟨(Nat.le_of_ble_eq_true rfl), (Nat.le_of_ble_eq_true rfl)⟩ (hT.o20 (hT.k t_this (by decide))) rfl rfl hl.1 rfl (Nat.le_of_ble_eq_true rfl) dX6_sampleTold_21 zroom.rf (fun x9 s10 H locs hφ hEs10 hT => ?_)
    have ev2 : zI s10 this 14 = v2 := ((hTo.k t_this (by decide)).eI hEs10 (by decide) rfl).trans ev2
    have ev3 : zI s10 this 17 = v3 := ((hTo.k t_this (by decide)).eI hEs10 (by decide) rfl).trans ev3
    have ev5 : zI s10 this 18 = v5 := ((hTo.k t_this (by decide)).eI hEs10 (by decide) rfl).trans ev5
    have Y11 : zI s10 rQ = zI σ0 rQ := by rw [show zI s10 rQ = zI σ0 rQ from funext fun k => (hTo.k trQ (by decide)).eI hEs10 (by decide) rfl]; exact q0
    obtain ⟨f12, f13⟩ := hφ
    have hTo := hT
    refine pf20_14 hx hb hg hown hK hT (hT.k t_this (by decide)) rfl (hg _ k1233) dX6_sampleTold_24 (fun H locs s14 hus14 hT => ?_)
    have ev3 : zI s14 this 17 = v3 := (zput_o hus14 (Or.inr (by decide))).trans ev3
    have ev5 : zI s14 this 18 = v5 := (zput_o hus14 (Or.inr (by decide))).trans ev5
    have Y15 : zI s14 rQ = zI σ0 rQ := by rw [show zI s14 rQ = zI s10 rQ from zput_Io hus14 ((hTo.k trQ (by decide)).ne (hTo.k t_this (by decide)) (by decide))]; exact Y11
    have e16 : zI s14 this 14 = x9 := zput_at hus14
    refine lv_aload_n hx hb dX6_sampleTold_27 rfl (lv_at hl 0 rfl) ?_
    refine lv_aload_n hx hb dX6_sampleTold_28 rfl (lv_at hl 0 rfl) ?_
    refine va_get (D := κ.1) (ci := 6) (v := .int (zI s14 this 18)) (C := RX6) (T := TX6) (N := 27) hx hb hg inX6 hown hK (hT.o20 (hT.k t_this (by decide))).one 0 rfl rfl 18 (by decide) (hg _ k1237) (fun _ h9 => h9) rfl dX6_sampleTold_29 ?_
    rw [ev5]
    refine lv_if_ne (tgt := 39) hx hb dX6_sampleTold_32 (by decide) (fun c9 => ?_) (fun c9 => ?_)
    · have c2 := gi_ne c9
      refine lv_aload_n hx hb dX6_sampleTold_39 rfl (lv_at hl 0 rfl) ?_
      refine va_get (D := κ.1) (ci := 6) (v := .ref (kR κ this 25)) (C := RX6) (T := TX6) (N := 27) hx hb hg inX6 hown hK (hT.o20 (hT.k t_this (by decide))).one 0 rfl rfl 25 (by decide) (hg _ k1244) (fun _ h9 => h9) rfl dX6_sampleTold_40 ?_
      rw [erQ]
      refine lv_aload_n hx hb dX6_sampleTold_43 rfl (lv_at hl 0 rfl) ?_
      refine va_get (D := κ.1) (ci := 6) (v := .int (zI s14 this 18)) (C := RX6) (T := TX6) (N := 27) hx hb hg inX6 hown hK (hT.o20 (hT.k t_this (by decide))).one 0 rfl rfl 18 (by decide) (hg _ k1237) (fun _ h9 => h9) rfl dX6_sampleTold_44 ?_
      rw [ev5]
      refine lv_iconst (v := 1) hx hb dX6_sampleTold_47 (by decide) ?_
      refine lv_isub hx hb dX6_sampleTold_48 ?_
      first | refine g_sub (by omega) (by omega) (fun t17 ht17 => ?_) | refine lv_topi (fun t17 ht17 => ?_)
      refine va_iald hx hb hK (hT.o27 (hT.k trQ (by decide))).one 0 0 rfl rfl (g_in (by omega) (by omega)) dX6_sampleTold_49 ?_
      refine lv_topi (fun t18 ht18 => ?_)
      have xl : t18.toInt = (zI σ0 rQ ((zI σ0 this 18).toInt.toNat - 1)).toInt := by rw [ht18, Y15]; exact congrArg (fun q9 => (zI σ0 rQ q9).toInt) (show ix t17 = (zI σ0 this 18).toInt.toNat - 1 from by unfold ix; omega)
      have xb := (h7 ((zI σ0 this 18).toInt.toNat - 1) (by omega)).1
      refine lv_iconst (v := 1) hx hb dX6_sampleTold_50 (by decide) ?_
      refine lv_iadd hx hb dX6_sampleTold_51 ?_
      first | refine g_add (by omega) (by omega) (fun t19 ht19 => ?_) | refine lv_topi (fun t19 ht19 => ?_)
      refine lv_sipush (v := 9999) hx hb dX6_sampleTold_52 (by decide) ?_
      have qq20 : (zI s14 this 13).toInt = v1.toInt := by rw [(hT.eI t_this (by decide) rfl ev1)]
      have qq21 : (zI s14 this 14).toInt = x9.toInt := by rw [e16]
      have qq22 : (zI s14 this 17).toInt = v3.toInt := by rw [ev3]
      obtain ⟨v23, ev23⟩ : ∃ zz9 : Int32, zI s14 this 24 = zz9 := ⟨_, rfl⟩
      have qv23 : v23.toInt = (zI s14 this 24).toInt := by rw [ev23]
      have qq24 : (zI s14 this 24).toInt = v23.toInt := by rw [ev23]
      have hTo := hT
      refine tVv (n := 2) (As := [.int t19, .int 9999]) (rest := []) hx hb hml hown hg hT hK hX (X6_number l κ s14 this t19 9999  (hT.k t_this (by decide)) (by omega) (by omega) (by omega) (by omega)) sub_gN_gS2 (mwV k1380 k1382 k48 k92 k1383) ⟨rfl, by decide, by decide, by decide +kernel⟩ ⟨(Nat.le_of_ble_eq_true rfl), (Nat.le_of_ble_eq_true rfl)⟩ (hT.o20 (hT.k t_this (by decide))) rfl rfl hl.1 rfl (Nat.le_of_ble_eq_true rfl) dX6_sampleTold_55 zroom.rf (fun s26 H locs hφ hEs26 hT => ?_)
      have ev5 : zI s26 this 18 = v5 := ((hTo.k t_this (by decide)).eI hEs26 (by decide) rfl).trans ev5
      have Y27 : zI s26 rQ = zI σ0 rQ := by rw [show zI s26 rQ = zI s14 rQ from funext fun k => (hTo.k trQ (by decide)).eI hEs26 (by decide) rfl]; exact Y15
      obtain ⟨f28, f29, f30⟩ := hφ
      obtain ⟨v31, ev31⟩ : ∃ zz9 : Int32, zI s26 this 14 = zz9 := ⟨_, rfl⟩
      have qv31 : v31.toInt = (zI s26 this 14).toInt := by rw [ev31]
      obtain ⟨v32, ev32⟩ : ∃ zz9 : Int32, zI s26 this 17 = zz9 := ⟨_, rfl⟩
      have qv32 : v32.toInt = (zI s26 this 17).toInt := by rw [ev32]
      have b33 : isB v32 := by have q9 : isB (zI s26 this 17) := hT.P (hT.k t_this (by decide)) (by decide); rw [ev32] at q9; exact q9
      have b33t := isB_t b33
      obtain ⟨v34, ev34⟩ : ∃ zz9 : Int32, zI s26 this 24 = zz9 := ⟨_, rfl⟩
      have qv34 : v34.toInt = (zI s26 this 24).toInt := by rw [ev34]
      refine lv_aload_n hx hb dX6_sampleTold_58 rfl (lv_at hl 0 rfl) ?_
      refine va_get (D := κ.1) (ci := 6) (v := .ref (kR κ this 25)) (C := RX6) (T := TX6) (N := 27) hx hb hg inX6 hown hK (hT.o20 (hT.k t_this (by decide))).one 0 rfl rfl 25 (by decide) (hg _ k1244) (fun _ h9 => h9) rfl dX6_sampleTold_59 ?_
      rw [erQ]
      refine lv_aload_n hx hb dX6_sampleTold_62 rfl (lv_at hl 0 rfl) ?_
      refine va_get (D := κ.1) (ci := 6) (v := .int (zI s26 this 18)) (C := RX6) (T := TX6) (N := 27) hx hb hg inX6 hown hK (hT.o20 (hT.k t_this (by decide))).one 0 rfl rfl 18 (by decide) (hg _ k1237) (fun _ h9 => h9) rfl dX6_sampleTold_63 ?_
      rw [ev5]
      refine lv_aload_n hx hb dX6_sampleTold_66 rfl (lv_at hl 0 rfl) ?_
      refine va_get (D := κ.1) (ci := 6) (v := .int (zI s26 this 24)) (C := RX6) (T := TX6) (N := 27) hx hb hg inX6 hown hK (hT.o20 (hT.k t_this (by decide))).one 0 rfl rfl 24 (by decide) (hg _ k1243) (fun _ h9 => h9) rfl dX6_sampleTold_67 ?_
      rw [ev34]
      have hTo := hT
      refine tasti (n := 48) hx hb hK hT (hT.k trQ (by decide)) ⟨by decide, by decide⟩ (fun _ _ _ => rfl) (fun _ _ => trivial) (fun _ => rfl) (by omega) (by omega) dX6_sampleTold_70 (fun H locs s35 hus35 hT => ?_)
      have ev5 : zI s35 this 18 = v5 := (zput_o hus35 (Or.inl ((hTo.k t_this (by decide)).ne (hTo.k trQ (by decide)) (by decide)))).trans ev5
      have ev31 : zI s35 this 14 = v31 := (zput_o hus35 (Or.inl ((hTo.k t_this (by decide)).ne (hTo.k trQ (by decide)) (by decide)))).trans ev31
      have ev32 : zI s35 this 17 = v32 := (zput_o hus35 (Or.inl ((hTo.k t_this (by decide)).ne (hTo.k trQ (by decide)) (by decide)))).trans ev32
      have ev34 : zI s35 this 24 = v34 := (zput_o hus35 (Or.inl ((hTo.k t_this (by decide)).ne (hTo.k trQ (by decide)) (by decide)))).trans ev34
      have Y36 : (t19.toInt ≤ v34.toInt ∧ v34.toInt ≤ 9999) → PL (ix v5 + 1) (zI s35 rQ) := fun q9 => PL.snoc (σ := s26) (by have z9 := h7; rw [show (zI σ0 this 18).toInt.toNat = ix v5 from by unfold ix; omega] at z9; rw [Y27]; exact z9) hus35 ⟨by omega, q9.2⟩ (Or.inr (by rw [Y27, show ix v5 - 1 = (zI σ0 this 18).toInt.toNat - 1 from by unfold ix; omega]; omega))
      refine lv_aload_n hx hb dX6_sampleTold_71 rfl (lv_at hl 0 rfl) ?_
      refine va_get (D := κ.1) (ci := 6) (v := .int (zI s35 this 17)) (C := RX6) (T := TX6) (N := 27) hx hb hg inX6 hown hK (hT.o20 (hT.k t_this (by decide))).one 0 rfl rfl 17 (by decide) (hg _ k1236) (fun _ h9 => h9) rfl dX6_sampleTold_72 ?_
      rw [ev32]
      refine lv_if_ne (tgt := 91) hx hb dX6_sampleTold_75 (by decide) (fun c9 => ?_) (fun c9 => ?_)
      · have c3 := gi_ne c9
        refine lv_iconst (v := 0) hx hb dX6_sampleTold_91 (by decide) ?_
        refine lv_istore_n (lv' := [(1, .int 0), (0, .ref this)]) hx hb dX6_sampleTold_92 rfl hl (by decide) rfl (fun ls hl => ?_)
        refine lv_aload_n hx hb dX6_sampleTold_93 rfl (lv_at hl 1 rfl) ?_
        refine lv_dup hx hb dX6_sampleTold_94 rfl ?_
        refine va_get (D := κ.1) (ci := 6) (v := .int (zI s35 this 14)) (C := RX6) (T := TX6) (N := 27) hx hb hg inX6 hown hK (hT.o20 (hT.k t_this (by decide))).one 0 rfl rfl 14 (by decide) (hg _ k1233) (fun _ h9 => h9) rfl dX6_sampleTold_95 ?_
        rw [ev31]
        refine lv_iload_n hx hb dX6_sampleTold_98 rfl (lv_at hl 0 rfl) ?_
        refine lv_if_eq (tgt := 106) hx hb dX6_sampleTold_99 (by decide) (fun _ => ?_) (fun c9 => absurd (by decide) c9)
        refine lv_iconst (v := 0) hx hb dX6_sampleTold_106 (by decide) ?_
        refine lv_iadd hx hb dX6_sampleTold_107 ?_
        first | refine g_add (by omega) (by omega) (fun t37 ht37 => ?_) | refine lv_topi (fun t37 ht37 => ?_)
        have hTo := hT
        refine pf20_14 hx hb hg hown hK hT (hT.k t_this (by decide)) rfl (hg _ k1233) dX6_sampleTold_108 (fun H locs s38 hus38 hT => ?_)
        have ev5 : zI s38 this 18 = v5 := (zput_o hus38 (Or.inr (by decide))).trans ev5
        have ev32 : zI s38 this 17 = v32 := (zput_o hus38 (Or.inr (by decide))).trans ev32
        have ev34 : zI s38 this 24 = v34 := (zput_o hus38 (Or.inr (by decide))).trans ev34
        have Y39 : (t19.toInt ≤ v34.toInt ∧ v34.toInt ≤ 9999) → PL (ix v5 + 1) (zI s38 rQ) := by rw [show zI s38 rQ = zI s35 rQ from zput_Io hus38 ((hTo.k trQ (by decide)).ne (hTo.k t_this (by decide)) (by decide))]; exact Y36
        have e40 : zI s38 this 14 = t37 := zput_at hus38
        refine lv_aload_n hx hb dX6_sampleTold_111 rfl (lv_at hl 1 rfl) ?_
        refine lv_iconst (v := 0) hx hb dX6_sampleTold_112 (by decide) ?_
        refine lv_sipush (v := 9999) hx hb dX6_sampleTold_113 (by decide) ?_
        have qq41 : (zI s38 this 13).toInt = v1.toInt := by rw [(hT.eI t_this (by decide) rfl ev1)]
        have qq42 : (zI s38 this 14).toInt = t37.toInt := by rw [e40]
        have qq43 : (zI s38 this 17).toInt = v32.toInt := by rw [ev32]
        have qq44 : (zI s38 this 24).toInt = v34.toInt := by rw [ev34]
        have hTo := hT
        refine tVv (n := 2) (As := [.int 0, .int 9999]) (rest := []) hx hb hml hown hg hT hK hX (X6_number l κ s38 this 0 9999  (hT.k t_this (by decide)) (by omega) (by omega) (by omega) (by omega)) sub_gN_gS2 (mwV k1380 k1382 k48 k92 k1383) ⟨rfl, by decide, by decide, by decide +kernel⟩ ⟨(Nat.le_of_ble_eq_true rfl), (Nat.le_of_ble_eq_true rfl)⟩ (hT.o20 (hT.k t_this (by decide))) rfl rfl hl.1 rfl (Nat.le_of_ble_eq_true rfl) dX6_sampleTold_116 zroom.rf (fun s46 H locs hφ hEs46 hT => ?_)
        have ev5 : zI s46 this 18 = v5 := ((hTo.k t_this (by decide)).eI hEs46 (by decide) rfl).trans ev5
        have Y47 : (t19.toInt ≤ v34.toInt ∧ v34.toInt ≤ 9999) → PL (ix v5 + 1) (zI s46 rQ) := by rw [show zI s46 rQ = zI s38 rQ from funext fun k => (hTo.k trQ (by decide)).eI hEs46 (by decide) rfl]; exact Y39
        obtain ⟨f48, f49, f50⟩ := hφ
        obtain ⟨v51, ev51⟩ : ∃ zz9 : Int32, zI s46 this 14 = zz9 := ⟨_, rfl⟩
        have qv51 : v51.toInt = (zI s46 this 14).toInt := by rw [ev51]
        obtain ⟨v52, ev52⟩ : ∃ zz9 : Int32, zI s46 this 17 = zz9 := ⟨_, rfl⟩
        have qv52 : v52.toInt = (zI s46 this 17).toInt := by rw [ev52]
        have b53 : isB v52 := by have q9 : isB (zI s46 this 17) := hT.P (hT.k t_this (by decide)) (by decide); rw [ev52] at q9; exact q9
        have b53t := isB_t b53
        obtain ⟨v54, ev54⟩ : ∃ zz9 : Int32, zI s46 this 24 = zz9 := ⟨_, rfl⟩
        have qv54 : v54.toInt = (zI s46 this 24).toInt := by rw [ev54]
        refine lv_aload_n hx hb dX6_sampleTold_119 rfl (lv_at hl 1 rfl) ?_
        obtain ⟨r55, er55⟩ : ∃ z, kR κ this 26 = z := ⟨_, rfl⟩
        have tr55 : zk σ0 r55 28 := by rw [← er55]; exact hT0.ref t_this (by decide) (by decide) (by decide)
        refine va_get (D := κ.1) (ci := 6) (v := .ref (kR κ this 26)) (C := RX6) (T := TX6) (N := 27) hx hb hg inX6 hown hK (hT.o20 (hT.k t_this (by decide))).one 0 rfl rfl 26 (by decide) (hg _ k1245) (fun _ h9 => h9) rfl dX6_sampleTold_120 ?_
        rw [er55]
        refine lv_aload_n hx hb dX6_sampleTold_123 rfl (lv_at hl 1 rfl) ?_
        refine va_get (D := κ.1) (ci := 6) (v := .int (zI s46 this 18)) (C := RX6) (T := TX6) (N := 27) hx hb hg inX6 hown hK (hT.o20 (hT.k t_this (by decide))).one 0 rfl rfl 18 (by decide) (hg _ k1237) (fun _ h9 => h9) rfl dX6_sampleTold_124 ?_
        rw [ev5]
        refine lv_iload_n hx hb dX6_sampleTold_127 rfl (lv_at hl 0 rfl) ?_
        refine lv_if_eq (tgt := 139) hx hb dX6_sampleTold_128 (by decide) (fun _ => ?_) (fun c9 => absurd (by decide) c9)
        refine lv_aload_n hx hb dX6_sampleTold_139 rfl (lv_at hl 1 rfl) ?_
        refine va_get (D := κ.1) (ci := 6) (v := .int (zI s46 this 24)) (C := RX6) (T := TX6) (N := 27) hx hb hg inX6 hown hK (hT.o20 (hT.k t_this (by decide))).one 0 rfl rfl 24 (by decide) (hg _ k1243) (fun _ h9 => h9) rfl dX6_sampleTold_140 ?_
        rw [ev54]
        have hTo := hT
        refine tasti (n := 48) hx hb hK hT (hT.k tr55 (by decide)) ⟨by decide, by decide⟩ (fun _ _ _ => rfl) (fun _ _ => trivial) (fun _ => rfl) (by omega) (by omega) dX6_sampleTold_143 (fun H locs s56 hus56 hT => ?_)
        have ev5 : zI s56 this 18 = v5 := (zput_o hus56 (Or.inl ((hTo.k t_this (by decide)).ne (hTo.k tr55 (by decide)) (by decide)))).trans ev5
        have ev51 : zI s56 this 14 = v51 := (zput_o hus56 (Or.inl ((hTo.k t_this (by decide)).ne (hTo.k tr55 (by decide)) (by decide)))).trans ev51
        have ev52 : zI s56 this 17 = v52 := (zput_o hus56 (Or.inl ((hTo.k t_this (by decide)).ne (hTo.k tr55 (by decide)) (by decide)))).trans ev52
        have ev54 : zI s56 this 24 = v54 := (zput_o hus56 (Or.inl ((hTo.k t_this (by decide)).ne (hTo.k tr55 (by decide)) (by decide)))).trans ev54
        have Y57 : (t19.toInt ≤ v34.toInt ∧ v34.toInt ≤ 9999) → PL (ix v5 + 1) (zI s56 rQ) := by rw [show zI s56 rQ = zI s46 rQ from zput_Io hus56 ((hTo.k trQ (by decide)).ne (hTo.k tr55 (by decide)) (by decide))]; exact Y47
        refine lv_aload_n hx hb dX6_sampleTold_144 rfl (lv_at hl 1 rfl) ?_
        have qq58 : (zI s56 this 13).toInt = v1.toInt := by rw [(hT.eI t_this (by decide) rfl ev1)]
        have qq59 : (zI s56 this 14).toInt = v51.toInt := by rw [ev51]
        have qq60 : (zI s56 this 17).toInt = v52.toInt := by rw [ev52]
        have hTo := hT
        refine tVv (n := 0) (As := []) (rest := []) hx hb hml hown hg hT hK hX (X6_ends l κ s56 this  (hT.k t_this (by decide)) (by omega) (by omega) (by omega) (by omega)) sub_gHB_gS2 (mwV k1386 k1388 k49 k92 k1389) ⟨rfl, by decide, by decide, by decide +kernel⟩ ⟨(Nat.le_of_ble_eq_true rfl), (Nat.le_of_ble_eq_true rfl)⟩ (hT.o20 (hT.k t_this (by decide))) rfl rfl hl.1 rfl (Nat.le_of_ble_eq_true rfl) dX6_sampleTold_145 zroom.rf (fun s62 H locs hφ hEs62 hT => ?_)
        have ev5 : zI s62 this 18 = v5 := ((hTo.k t_this (by decide)).eI hEs62 (by decide) rfl).trans ev5
        have ev54 : zI s62 this 24 = v54 := ((hTo.k t_this (by decide)).eI hEs62 (by decide) rfl).trans ev54
        have Y63 : (t19.toInt ≤ v34.toInt ∧ v34.toInt ≤ 9999) → PL (ix v5 + 1) (zI s62 rQ) := by rw [show zI s62 rQ = zI s56 rQ from funext fun k => (hTo.k trQ (by decide)).eI hEs62 (by decide) rfl]; exact Y57
        obtain ⟨f64, f65, f66⟩ := hφ
        obtain ⟨v67, ev67⟩ : ∃ zz9 : Int32, zI s62 this 14 = zz9 := ⟨_, rfl⟩
        have qv67 : v67.toInt = (zI s62 this 14).toInt := by rw [ev67]
        obtain ⟨v68, ev68⟩ : ∃ zz9 : Int32, zI s62 this 17 = zz9 := ⟨_, rfl⟩
        have qv68 : v68.toInt = (zI s62 this 17).toInt := by rw [ev68]
        have b69 : isB v68 := by have q9 : isB (zI s62 this 17) := hT.P (hT.k t_this (by decide)) (by decide); rw [ev68] at q9; exact q9
        have b69t := isB_t b69
        refine lv_aload_n hx hb dX6_sampleTold_148 rfl (lv_at hl 1 rfl) ?_
        refine lv_dup hx hb dX6_sampleTold_149 rfl ?_
        refine va_get (D := κ.1) (ci := 6) (v := .int (zI s62 this 18)) (C := RX6) (T := TX6) (N := 27) hx hb hg inX6 hown hK (hT.o20 (hT.k t_this (by decide))).one 0 rfl rfl 18 (by decide) (hg _ k1237) (fun _ h9 => h9) rfl dX6_sampleTold_150 ?_
        rw [ev5]
        refine lv_iconst (v := 1) hx hb dX6_sampleTold_153 (by decide) ?_
        refine lv_iadd hx hb dX6_sampleTold_154 ?_
        first | refine g_add (by omega) (by omega) (fun t70 ht70 => ?_) | refine lv_topi (fun t70 ht70 => ?_)
        have hTo := hT
        refine pf20_18 hx hb hg hown hK hT (hT.k t_this (by decide)) rfl (hg _ k1237) dX6_sampleTold_155 (fun H locs s71 hus71 hT => ?_)
        have ev54 : zI s71 this 24 = v54 := (zput_o hus71 (Or.inr (by decide))).trans ev54
        have ev67 : zI s71 this 14 = v67 := (zput_o hus71 (Or.inr (by decide))).trans ev67
        have ev68 : zI s71 this 17 = v68 := (zput_o hus71 (Or.inr (by decide))).trans ev68
        have Y72 : (t19.toInt ≤ v34.toInt ∧ v34.toInt ≤ 9999) → PL (ix v5 + 1) (zI s71 rQ) := by rw [show zI s71 rQ = zI s62 rQ from zput_Io hus71 ((hTo.k trQ (by decide)).ne (hTo.k t_this (by decide)) (by decide))]; exact Y63
        have e73 : zI s71 this 18 = t70 := zput_at hus71
        have zz74 : (zI s71 this 14).toInt = v67.toInt := by rw [ev67]
        have zz75 : (zI s71 this 17).toInt = v68.toInt := by rw [ev68]
        have zz76 : (zI s71 this 18).toInt = t70.toInt := by rw [e73]
        subst hQ9
        exact t_v hx hb hr hlocks hT ⟨by omega, by omega, by omega, by omega, by omega, by omega, (Classical.em ((zI s71 this 17).toInt = 1)).elim Or.inl (fun q8 => Or.inr (by rw [erQ, show (zI s71 this 18).toInt.toNat = ix v5 + 1 from by unfold ix; omega]; exact Y72 ⟨by omega, by omega⟩))⟩ dX6_sampleTold_158
      · have c4 := gi_eq c9
        refine lv_aload_n hx hb dX6_sampleTold_78 rfl (lv_at hl 0 rfl) ?_
        have qq77 : (zI s35 this 13).toInt = v1.toInt := by rw [(hT.eI t_this (by decide) rfl ev1)]
        have qq78 : (zI s35 this 14).toInt = v31.toInt := by rw [ev31]
        have qq79 : (zI s35 this 17).toInt = v32.toInt := by rw [ev32]
        have hTo := hT
        refine tVi (n := 0) (As := []) (rest := []) hx hb hml hown hg hT hK hX (X6_here l κ s35 this  (hT.k t_this (by decide)) (by omega) (by omega) (by omega) (by omega)) sub_gH_gS2 (mwV k1341 k1343 k42 k92 k1344) ⟨rfl, by decide, by decide, by decide +kernel⟩ ⟨(Nat.le_of_ble_eq_true rfl), (Nat.le_of_ble_eq_true rfl)⟩ (hT.o20 (hT.k t_this (by decide))) rfl rfl hl.1 rfl (Nat.le_of_ble_eq_true rfl) dX6_sampleTold_79 zroom.rf (fun x80 s81 H locs hφ hEs81 hT => ?_)
        have ev5 : zI s81 this 18 = v5 := ((hTo.k t_this (by decide)).eI hEs81 (by decide) rfl).trans ev5
        have ev32 : zI s81 this 17 = v32 := ((hTo.k t_this (by decide)).eI hEs81 (by decide) rfl).trans ev32
        have ev34 : zI s81 this 24 = v34 := ((hTo.k t_this (by decide)).eI hEs81 (by decide) rfl).trans ev34
        have Y82 : (t19.toInt ≤ v34.toInt ∧ v34.toInt ≤ 9999) → PL (ix v5 + 1) (zI s81 rQ) := by rw [show zI s81 rQ = zI s35 rQ from funext fun k => (hTo.k trQ (by decide)).eI hEs81 (by decide) rfl]; exact Y36
        obtain ⟨f83, f84, f85⟩ := hφ
        obtain ⟨v86, ev86⟩ : ∃ zz9 : Int32, zI s81 this 14 = zz9 := ⟨_, rfl⟩
        have qv86 : v86.toInt = (zI s81 this 14).toInt := by rw [ev86]
        refine lv_bipush (v := 45) hx hb dX6_sampleTold_82 (by decide) ?_
        refine lv_icmp_ne (tgt := 91) hx hb dX6_sampleTold_84 (by decide) (fun c9 => ?_) (fun c9 => ?_)
        · have c5 := gi_ne c9
          refine lv_iconst (v := 0) hx hb dX6_sampleTold_91 (by decide) ?_
          refine lv_istore_n (lv' := [(1, .int 0), (0, .ref this)]) hx hb dX6_sampleTold_92 rfl hl (by decide) rfl (fun ls hl => ?_)
          refine lv_aload_n hx hb dX6_sampleTold_93 rfl (lv_at hl 1 rfl) ?_
          refine lv_dup hx hb dX6_sampleTold_94 rfl ?_
          refine va_get (D := κ.1) (ci := 6) (v := .int (zI s81 this 14)) (C := RX6) (T := TX6) (N := 27) hx hb hg inX6 hown hK (hT.o20 (hT.k t_this (by decide))).one 0 rfl rfl 14 (by decide) (hg _ k1233) (fun _ h9 => h9) rfl dX6_sampleTold_95 ?_
          rw [ev86]
          refine lv_iload_n hx hb dX6_sampleTold_98 rfl (lv_at hl 0 rfl) ?_
          refine lv_if_eq (tgt := 106) hx hb dX6_sampleTold_99 (by decide) (fun _ => ?_) (fun c9 => absurd (by decide) c9)
          refine lv_iconst (v := 0) hx hb dX6_sampleTold_106 (by decide) ?_
          refine lv_iadd hx hb dX6_sampleTold_107 ?_
          first | refine g_add (by omega) (by omega) (fun t87 ht87 => ?_) | refine lv_topi (fun t87 ht87 => ?_)
          have hTo := hT
          refine pf20_14 hx hb hg hown hK hT (hT.k t_this (by decide)) rfl (hg _ k1233) dX6_sampleTold_108 (fun H locs s88 hus88 hT => ?_)
          have ev5 : zI s88 this 18 = v5 := (zput_o hus88 (Or.inr (by decide))).trans ev5
          have ev32 : zI s88 this 17 = v32 := (zput_o hus88 (Or.inr (by decide))).trans ev32
          have ev34 : zI s88 this 24 = v34 := (zput_o hus88 (Or.inr (by decide))).trans ev34
          have Y89 : (t19.toInt ≤ v34.toInt ∧ v34.toInt ≤ 9999) → PL (ix v5 + 1) (zI s88 rQ) := by rw [show zI s88 rQ = zI s81 rQ from zput_Io hus88 ((hTo.k trQ (by decide)).ne (hTo.k t_this (by decide)) (by decide))]; exact Y82
          have e90 : zI s88 this 14 = t87 := zput_at hus88
          refine lv_aload_n hx hb dX6_sampleTold_111 rfl (lv_at hl 1 rfl) ?_
          refine lv_iconst (v := 0) hx hb dX6_sampleTold_112 (by decide) ?_
          refine lv_sipush (v := 9999) hx hb dX6_sampleTold_113 (by decide) ?_
          have qq91 : (zI s88 this 13).toInt = v1.toInt := by rw [(hT.eI t_this (by decide) rfl ev1)]
          have qq92 : (zI s88 this 14).toInt = t87.toInt := by rw [e90]
          have qq93 : (zI s88 this 17).toInt = v32.toInt := by rw [ev32]
          have qq94 : (zI s88 this 24).toInt = v34.toInt := by rw [ev34]
          have hTo := hT
          refine tVv (n := 2) (As := [.int 0, .int 9999]) (rest := []) hx hb hml hown hg hT hK hX (X6_number l κ s88 this 0 9999  (hT.k t_this (by decide)) (by omega) (by omega) (by omega) (by omega)) sub_gN_gS2 (mwV k1380 k1382 k48 k92 k1383) ⟨rfl, by decide, by decide, by decide +kernel⟩ ⟨(Nat.le_of_ble_eq_true rfl), (Nat.le_of_ble_eq_true rfl)⟩ (hT.o20 (hT.k t_this (by decide))) rfl rfl hl.1 rfl (Nat.le_of_ble_eq_true rfl) dX6_sampleTold_116 zroom.rf (fun s96 H locs hφ hEs96 hT => ?_)
          have ev5 : zI s96 this 18 = v5 := ((hTo.k t_this (by decide)).eI hEs96 (by decide) rfl).trans ev5
          have Y97 : (t19.toInt ≤ v34.toInt ∧ v34.toInt ≤ 9999) → PL (ix v5 + 1) (zI s96 rQ) := by rw [show zI s96 rQ = zI s88 rQ from funext fun k => (hTo.k trQ (by decide)).eI hEs96 (by decide) rfl]; exact Y89
          obtain ⟨f98, f99, f100⟩ := hφ
          obtain ⟨v101, ev101⟩ : ∃ zz9 : Int32, zI s96 this 14 = zz9 := ⟨_, rfl⟩
          have qv101 : v101.toInt = (zI s96 this 14).toInt := by rw [ev101]
          obtain ⟨v102, ev102⟩ : ∃ zz9 : Int32, zI s96 this 17 = zz9 := ⟨_, rfl⟩
          have qv102 : v102.toInt = (zI s96 this 17).toInt := by rw [ev102]
          have b103 : isB v102 := by have q9 : isB (zI s96 this 17) := hT.P (hT.k t_this (by decide)) (by decide); rw [ev102] at q9; exact q9
          have b103t := isB_t b103
          obtain ⟨v104, ev104⟩ : ∃ zz9 : Int32, zI s96 this 24 = zz9 := ⟨_, rfl⟩
          have qv104 : v104.toInt = (zI s96 this 24).toInt := by rw [ev104]
          refine lv_aload_n hx hb dX6_sampleTold_119 rfl (lv_at hl 1 rfl) ?_
          obtain ⟨r105, er105⟩ : ∃ z, kR κ this 26 = z := ⟨_, rfl⟩
          have tr105 : zk σ0 r105 28 := by rw [← er105]; exact hT0.ref t_this (by decide) (by decide) (by decide)
          refine va_get (D := κ.1) (ci := 6) (v := .ref (kR κ this 26)) (C := RX6) (T := TX6) (N := 27) hx hb hg inX6 hown hK (hT.o20 (hT.k t_this (by decide))).one 0 rfl rfl 26 (by decide) (hg _ k1245) (fun _ h9 => h9) rfl dX6_sampleTold_120 ?_
          rw [er105]
          refine lv_aload_n hx hb dX6_sampleTold_123 rfl (lv_at hl 1 rfl) ?_
          refine va_get (D := κ.1) (ci := 6) (v := .int (zI s96 this 18)) (C := RX6) (T := TX6) (N := 27) hx hb hg inX6 hown hK (hT.o20 (hT.k t_this (by decide))).one 0 rfl rfl 18 (by decide) (hg _ k1237) (fun _ h9 => h9) rfl dX6_sampleTold_124 ?_
          rw [ev5]
          refine lv_iload_n hx hb dX6_sampleTold_127 rfl (lv_at hl 0 rfl) ?_
          refine lv_if_eq (tgt := 139) hx hb dX6_sampleTold_128 (by decide) (fun _ => ?_) (fun c9 => absurd (by decide) c9)
          refine lv_aload_n hx hb dX6_sampleTold_139 rfl (lv_at hl 1 rfl) ?_
          refine va_get (D := κ.1) (ci := 6) (v := .int (zI s96 this 24)) (C := RX6) (T := TX6) (N := 27) hx hb hg inX6 hown hK (hT.o20 (hT.k t_this (by decide))).one 0 rfl rfl 24 (by decide) (hg _ k1243) (fun _ h9 => h9) rfl dX6_sampleTold_140 ?_
          rw [ev104]
          have hTo := hT
          refine tasti (n := 48) hx hb hK hT (hT.k tr105 (by decide)) ⟨by decide, by decide⟩ (fun _ _ _ => rfl) (fun _ _ => trivial) (fun _ => rfl) (by omega) (by omega) dX6_sampleTold_143 (fun H locs s106 hus106 hT => ?_)
          have ev5 : zI s106 this 18 = v5 := (zput_o hus106 (Or.inl ((hTo.k t_this (by decide)).ne (hTo.k tr105 (by decide)) (by decide)))).trans ev5
          have ev101 : zI s106 this 14 = v101 := (zput_o hus106 (Or.inl ((hTo.k t_this (by decide)).ne (hTo.k tr105 (by decide)) (by decide)))).trans ev101
          have ev102 : zI s106 this 17 = v102 := (zput_o hus106 (Or.inl ((hTo.k t_this (by decide)).ne (hTo.k tr105 (by decide)) (by decide)))).trans ev102
          have ev104 : zI s106 this 24 = v104 := (zput_o hus106 (Or.inl ((hTo.k t_this (by decide)).ne (hTo.k tr105 (by decide)) (by decide)))).trans ev104
          have Y107 : (t19.toInt ≤ v34.toInt ∧ v34.toInt ≤ 9999) → PL (ix v5 + 1) (zI s106 rQ) := by rw [show zI s106 rQ = zI s96 rQ from zput_Io hus106 ((hTo.k trQ (by decide)).ne (hTo.k tr105 (by decide)) (by decide))]; exact Y97
          refine lv_aload_n hx hb dX6_sampleTold_144 rfl (lv_at hl 1 rfl) ?_
          have qq108 : (zI s106 this 13).toInt = v1.toInt := by rw [(hT.eI t_this (by decide) rfl ev1)]
          have qq109 : (zI s106 this 14).toInt = v101.toInt := by rw [ev101]
          have qq110 : (zI s106 this 17).toInt = v102.toInt := by rw [ev102]
          have hTo := hT
          refine tVv (n := 0) (As := []) (rest := []) hx hb hml hown hg hT hK hX (X6_ends l κ s106 this  (hT.k t_this (by decide)) (by omega) (by omega) (by omega) (by omega)) sub_gHB_gS2 (mwV k1386 k1388 k49 k92 k1389) ⟨rfl, by decide, by decide, by decide +kernel⟩ ⟨(Nat.le_of_ble_eq_true rfl), (Nat.le_of_ble_eq_true rfl)⟩ (hT.o20 (hT.k t_this (by decide))) rfl rfl hl.1 rfl (Nat.le_of_ble_eq_true rfl) dX6_sampleTold_145 zroom.rf (fun s112 H locs hφ hEs112 hT => ?_)
          have ev5 : zI s112 this 18 = v5 := ((hTo.k t_this (by decide)).eI hEs112 (by decide) rfl).trans ev5
          have ev104 : zI s112 this 24 = v104 := ((hTo.k t_this (by decide)).eI hEs112 (by decide) rfl).trans ev104
          have Y113 : (t19.toInt ≤ v34.toInt ∧ v34.toInt ≤ 9999) → PL (ix v5 + 1) (zI s112 rQ) := by rw [show zI s112 rQ = zI s106 rQ from funext fun k => (hTo.k trQ (by decide)).eI hEs112 (by decide) rfl]; exact Y107
          obtain ⟨f114, f115, f116⟩ := hφ
          obtain ⟨v117, ev117⟩ : ∃ zz9 : Int32, zI s112 this 14 = zz9 := ⟨_, rfl⟩
          have qv117 : v117.toInt = (zI s112 this 14).toInt := by rw [ev117]
          obtain ⟨v118, ev118⟩ : ∃ zz9 : Int32, zI s112 this 17 = zz9 := ⟨_, rfl⟩
          have qv118 : v118.toInt = (zI s112 this 17).toInt := by rw [ev118]
          have b119 : isB v118 := by have q9 : isB (zI s112 this 17) := hT.P (hT.k t_this (by decide)) (by decide); rw [ev118] at q9; exact q9
          have b119t := isB_t b119
          refine lv_aload_n hx hb dX6_sampleTold_148 rfl (lv_at hl 1 rfl) ?_
          refine lv_dup hx hb dX6_sampleTold_149 rfl ?_
          refine va_get (D := κ.1) (ci := 6) (v := .int (zI s112 this 18)) (C := RX6) (T := TX6) (N := 27) hx hb hg inX6 hown hK (hT.o20 (hT.k t_this (by decide))).one 0 rfl rfl 18 (by decide) (hg _ k1237) (fun _ h9 => h9) rfl dX6_sampleTold_150 ?_
          rw [ev5]
          refine lv_iconst (v := 1) hx hb dX6_sampleTold_153 (by decide) ?_
          refine lv_iadd hx hb dX6_sampleTold_154 ?_
          first | refine g_add (by omega) (by omega) (fun t120 ht120 => ?_) | refine lv_topi (fun t120 ht120 => ?_)
          have hTo := hT
          refine pf20_18 hx hb hg hown hK hT (hT.k t_this (by decide)) rfl (hg _ k1237) dX6_sampleTold_155 (fun H locs s121 hus121 hT => ?_)
          have ev104 : zI s121 this 24 = v104 := (zput_o hus121 (Or.inr (by decide))).trans ev104
          have ev117 : zI s121 this 14 = v117 := (zput_o hus121 (Or.inr (by decide))).trans ev117
          have ev118 : zI s121 this 17 = v118 := (zput_o hus121 (Or.inr (by decide))).trans ev118
          have Y122 : (t19.toInt ≤ v34.toInt ∧ v34.toInt ≤ 9999) → PL (ix v5 + 1) (zI s121 rQ) := by rw [show zI s121 rQ = zI s112 rQ from zput_Io hus121 ((hTo.k trQ (by decide)).ne (hTo.k t_this (by decide)) (by decide))]; exact Y113
          have e123 : zI s121 this 18 = t120 := zput_at hus121
          have zz124 : (zI s121 this 14).toInt = v117.toInt := by rw [ev117]
          have zz125 : (zI s121 this 17).toInt = v118.toInt := by rw [ev118]
          have zz126 : (zI s121 this 18).toInt = t120.toInt := by rw [e123]
          subst hQ9
          exact t_v hx hb hr hlocks hT ⟨by omega, by omega, by omega, by omega, by omega, by omega, (Classical.em ((zI s121 this 17).toInt = 1)).elim Or.inl (fun q8 => Or.inr (by rw [erQ, show (zI s121 this 18).toInt.toNat = ix v5 + 1 from by unfold ix; omega]; exact Y122 ⟨by omega, by omega⟩))⟩ dX6_sampleTold_158
        · have c6 := gi_eq c9
          refine lv_iconst (v := 1) hx hb dX6_sampleTold_87 (by decide) ?_
          refine lv_goto (tgt := 92) hx hb dX6_sampleTold_88 (by decide) ?_
          refine lv_istore_n (lv' := [(1, .int 1), (0, .ref this)]) hx hb dX6_sampleTold_92 rfl hl (by decide) rfl (fun ls hl => ?_)
          refine lv_aload_n hx hb dX6_sampleTold_93 rfl (lv_at hl 1 rfl) ?_
          refine lv_dup hx hb dX6_sampleTold_94 rfl ?_
          refine va_get (D := κ.1) (ci := 6) (v := .int (zI s81 this 14)) (C := RX6) (T := TX6) (N := 27) hx hb hg inX6 hown hK (hT.o20 (hT.k t_this (by decide))).one 0 rfl rfl 14 (by decide) (hg _ k1233) (fun _ h9 => h9) rfl dX6_sampleTold_95 ?_
          rw [ev86]
          refine lv_iload_n hx hb dX6_sampleTold_98 rfl (lv_at hl 0 rfl) ?_
          refine lv_if_eq (tgt := 106) hx hb dX6_sampleTold_99 (by decide) (fun c9 => absurd c9 (by decide)) (fun _ => ?_)
          refine lv_iconst (v := 1) hx hb dX6_sampleTold_102 (by decide) ?_
          refine lv_goto (tgt := 107) hx hb dX6_sampleTold_103 (by decide) ?_
          refine lv_iadd hx hb dX6_sampleTold_107 ?_
          first | refine g_add (by omega) (by omega) (fun t127 ht127 => ?_) | refine lv_topi (fun t127 ht127 => ?_)
          have hTo := hT
          refine pf20_14 hx hb hg hown hK hT (hT.k t_this (by decide)) rfl (hg _ k1233) dX6_sampleTold_108 (fun H locs s128 hus128 hT => ?_)
          have ev5 : zI s128 this 18 = v5 := (zput_o hus128 (Or.inr (by decide))).trans ev5
          have ev32 : zI s128 this 17 = v32 := (zput_o hus128 (Or.inr (by decide))).trans ev32
          have ev34 : zI s128 this 24 = v34 := (zput_o hus128 (Or.inr (by decide))).trans ev34
          have Y129 : (t19.toInt ≤ v34.toInt ∧ v34.toInt ≤ 9999) → PL (ix v5 + 1) (zI s128 rQ) := by rw [show zI s128 rQ = zI s81 rQ from zput_Io hus128 ((hTo.k trQ (by decide)).ne (hTo.k t_this (by decide)) (by decide))]; exact Y82
          have e130 : zI s128 this 14 = t127 := zput_at hus128
          refine lv_aload_n hx hb dX6_sampleTold_111 rfl (lv_at hl 1 rfl) ?_
          refine lv_iconst (v := 0) hx hb dX6_sampleTold_112 (by decide) ?_
          refine lv_sipush (v := 9999) hx hb dX6_sampleTold_113 (by decide) ?_
          have qq131 : (zI s128 this 13).toInt = v1.toInt := by rw [(hT.eI t_this (by decide) rfl ev1)]
          have qq132 : (zI s128 this 14).toInt = t127.toInt := by rw [e130]
          have qq133 : (zI s128 this 17).toInt = v32.toInt := by rw [ev32]
          have qq134 : (zI s128 this 24).toInt = v34.toInt := by rw [ev34]
          have hTo := hT
          refine tVv (n := 2) (As := [.int 0, .int 9999]) (rest := []) hx hb hml hown hg hT hK hX (X6_number l κ s128 this 0 9999  (hT.k t_this (by decide)) (by omega) (by omega) (by omega) (by omega)) sub_gN_gS2 (mwV k1380 k1382 k48 k92 k1383) ⟨rfl, by decide, by decide, by decide +kernel⟩ ⟨(Nat.le_of_ble_eq_true rfl), (Nat.le_of_ble_eq_true rfl)⟩ (hT.o20 (hT.k t_this (by decide))) rfl rfl hl.1 rfl (Nat.le_of_ble_eq_true rfl) dX6_sampleTold_116 zroom.rf (fun s136 H locs hφ hEs136 hT => ?_)
          have ev5 : zI s136 this 18 = v5 := ((hTo.k t_this (by decide)).eI hEs136 (by decide) rfl).trans ev5
          have Y137 : (t19.toInt ≤ v34.toInt ∧ v34.toInt ≤ 9999) → PL (ix v5 + 1) (zI s136 rQ) := by rw [show zI s136 rQ = zI s128 rQ from funext fun k => (hTo.k trQ (by decide)).eI hEs136 (by decide) rfl]; exact Y129
          obtain ⟨f138, f139, f140⟩ := hφ
          obtain ⟨v141, ev141⟩ : ∃ zz9 : Int32, zI s136 this 14 = zz9 := ⟨_, rfl⟩
          have qv141 : v141.toInt = (zI s136 this 14).toInt := by rw [ev141]
          obtain ⟨v142, ev142⟩ : ∃ zz9 : Int32, zI s136 this 17 = zz9 := ⟨_, rfl⟩
          have qv142 : v142.toInt = (zI s136 this 17).toInt := by rw [ev142]
          have b143 : isB v142 := by have q9 : isB (zI s136 this 17) := hT.P (hT.k t_this (by decide)) (by decide); rw [ev142] at q9; exact q9
          have b143t := isB_t b143
          obtain ⟨v144, ev144⟩ : ∃ zz9 : Int32, zI s136 this 24 = zz9 := ⟨_, rfl⟩
          have qv144 : v144.toInt = (zI s136 this 24).toInt := by rw [ev144]
          refine lv_aload_n hx hb dX6_sampleTold_119 rfl (lv_at hl 1 rfl) ?_
          obtain ⟨r145, er145⟩ : ∃ z, kR κ this 26 = z := ⟨_, rfl⟩
          have tr145 : zk σ0 r145 28 := by rw [← er145]; exact hT0.ref t_this (by decide) (by decide) (by decide)
          refine va_get (D := κ.1) (ci := 6) (v := .ref (kR κ this 26)) (C := RX6) (T := TX6) (N := 27) hx hb hg inX6 hown hK (hT.o20 (hT.k t_this (by decide))).one 0 rfl rfl 26 (by decide) (hg _ k1245) (fun _ h9 => h9) rfl dX6_sampleTold_120 ?_
          rw [er145]
          refine lv_aload_n hx hb dX6_sampleTold_123 rfl (lv_at hl 1 rfl) ?_
          refine va_get (D := κ.1) (ci := 6) (v := .int (zI s136 this 18)) (C := RX6) (T := TX6) (N := 27) hx hb hg inX6 hown hK (hT.o20 (hT.k t_this (by decide))).one 0 rfl rfl 18 (by decide) (hg _ k1237) (fun _ h9 => h9) rfl dX6_sampleTold_124 ?_
          rw [ev5]
          refine lv_iload_n hx hb dX6_sampleTold_127 rfl (lv_at hl 0 rfl) ?_
          refine lv_if_eq (tgt := 139) hx hb dX6_sampleTold_128 (by decide) (fun c9 => absurd c9 (by decide)) (fun _ => ?_)
          refine lv_aload_n hx hb dX6_sampleTold_131 rfl (lv_at hl 1 rfl) ?_
          refine va_get (D := κ.1) (ci := 6) (v := .int (zI s136 this 24)) (C := RX6) (T := TX6) (N := 27) hx hb hg inX6 hown hK (hT.o20 (hT.k t_this (by decide))).one 0 rfl rfl 24 (by decide) (hg _ k1243) (fun _ h9 => h9) rfl dX6_sampleTold_132 ?_
          rw [ev144]
          refine lv_ineg hx hb dX6_sampleTold_135 ?_
          refine lv_topi (fun t146 ht146 => ?_)
          refine lv_goto (tgt := 143) hx hb dX6_sampleTold_136 (by decide) ?_
          have hTo := hT
          refine tasti (n := 48) hx hb hK hT (hT.k tr145 (by decide)) ⟨by decide, by decide⟩ (fun _ _ _ => rfl) (fun _ _ => trivial) (fun _ => rfl) (by omega) (by omega) dX6_sampleTold_143 (fun H locs s147 hus147 hT => ?_)
          have ev5 : zI s147 this 18 = v5 := (zput_o hus147 (Or.inl ((hTo.k t_this (by decide)).ne (hTo.k tr145 (by decide)) (by decide)))).trans ev5
          have ev141 : zI s147 this 14 = v141 := (zput_o hus147 (Or.inl ((hTo.k t_this (by decide)).ne (hTo.k tr145 (by decide)) (by decide)))).trans ev141
          have ev142 : zI s147 this 17 = v142 := (zput_o hus147 (Or.inl ((hTo.k t_this (by decide)).ne (hTo.k tr145 (by decide)) (by decide)))).trans ev142
          have ev144 : zI s147 this 24 = v144 := (zput_o hus147 (Or.inl ((hTo.k t_this (by decide)).ne (hTo.k tr145 (by decide)) (by decide)))).trans ev144
          have Y148 : (t19.toInt ≤ v34.toInt ∧ v34.toInt ≤ 9999) → PL (ix v5 + 1) (zI s147 rQ) := by rw [show zI s147 rQ = zI s136 rQ from zput_Io hus147 ((hTo.k trQ (by decide)).ne (hTo.k tr145 (by decide)) (by decide))]; exact Y137
          refine lv_aload_n hx hb dX6_sampleTold_144 rfl (lv_at hl 1 rfl) ?_
          have qq149 : (zI s147 this 13).toInt = v1.toInt := by rw [(hT.eI t_this (by decide) rfl ev1)]
          have qq150 : (zI s147 this 14).toInt = v141.toInt := by rw [ev141]
          have qq151 : (zI s147 this 17).toInt = v142.toInt := by rw [ev142]
          have hTo := hT
          refine tVv (n := 0) (As := []) (rest := []) hx hb hml hown hg hT hK hX (X6_ends l κ s147 this  (hT.k t_this (by decide)) (by omega) (by omega) (by omega) (by omega)) sub_gHB_gS2 (mwV k1386 k1388 k49 k92 k1389) ⟨rfl, by decide, by decide, by decide +kernel⟩ ⟨(Nat.le_of_ble_eq_true rfl), (Nat.le_of_ble_eq_true rfl)⟩ (hT.o20 (hT.k t_this (by decide))) rfl rfl hl.1 rfl (Nat.le_of_ble_eq_true rfl) dX6_sampleTold_145 zroom.rf (fun s153 H locs hφ hEs153 hT => ?_)
          have ev5 : zI s153 this 18 = v5 := ((hTo.k t_this (by decide)).eI hEs153 (by decide) rfl).trans ev5
          have ev144 : zI s153 this 24 = v144 := ((hTo.k t_this (by decide)).eI hEs153 (by decide) rfl).trans ev144
          have Y154 : (t19.toInt ≤ v34.toInt ∧ v34.toInt ≤ 9999) → PL (ix v5 + 1) (zI s153 rQ) := by rw [show zI s153 rQ = zI s147 rQ from funext fun k => (hTo.k trQ (by decide)).eI hEs153 (by decide) rfl]; exact Y148
          obtain ⟨f155, f156, f157⟩ := hφ
          obtain ⟨v158, ev158⟩ : ∃ zz9 : Int32, zI s153 this 14 = zz9 := ⟨_, rfl⟩
          have qv158 : v158.toInt = (zI s153 this 14).toInt := by rw [ev158]
          obtain ⟨v159, ev159⟩ : ∃ zz9 : Int32, zI s153 this 17 = zz9 := ⟨_, rfl⟩
          have qv159 : v159.toInt = (zI s153 this 17).toInt := by rw [ev159]
          have b160 : isB v159 := by have q9 : isB (zI s153 this 17) := hT.P (hT.k t_this (by decide)) (by decide); rw [ev159] at q9; exact q9
          have b160t := isB_t b160
          refine lv_aload_n hx hb dX6_sampleTold_148 rfl (lv_at hl 1 rfl) ?_
          refine lv_dup hx hb dX6_sampleTold_149 rfl ?_
          refine va_get (D := κ.1) (ci := 6) (v := .int (zI s153 this 18)) (C := RX6) (T := TX6) (N := 27) hx hb hg inX6 hown hK (hT.o20 (hT.k t_this (by decide))).one 0 rfl rfl 18 (by decide) (hg _ k1237) (fun _ h9 => h9) rfl dX6_sampleTold_150 ?_
          rw [ev5]
          refine lv_iconst (v := 1) hx hb dX6_sampleTold_153 (by decide) ?_
          refine lv_iadd hx hb dX6_sampleTold_154 ?_
          first | refine g_add (by omega) (by omega) (fun t161 ht161 => ?_) | refine lv_topi (fun t161 ht161 => ?_)
          have hTo := hT
          refine pf20_18 hx hb hg hown hK hT (hT.k t_this (by decide)) rfl (hg _ k1237) dX6_sampleTold_155 (fun H locs s162 hus162 hT => ?_)
          have ev144 : zI s162 this 24 = v144 := (zput_o hus162 (Or.inr (by decide))).trans ev144
          have ev158 : zI s162 this 14 = v158 := (zput_o hus162 (Or.inr (by decide))).trans ev158
          have ev159 : zI s162 this 17 = v159 := (zput_o hus162 (Or.inr (by decide))).trans ev159
          have Y163 : (t19.toInt ≤ v34.toInt ∧ v34.toInt ≤ 9999) → PL (ix v5 + 1) (zI s162 rQ) := by rw [show zI s162 rQ = zI s153 rQ from zput_Io hus162 ((hTo.k trQ (by decide)).ne (hTo.k t_this (by decide)) (by decide))]; exact Y154
          have e164 : zI s162 this 18 = t161 := zput_at hus162
          have zz165 : (zI s162 this 14).toInt = v158.toInt := by rw [ev158]
          have zz166 : (zI s162 this 17).toInt = v159.toInt := by rw [ev159]
          have zz167 : (zI s162 this 18).toInt = t161.toInt := by rw [e164]
          subst hQ9
          exact t_v hx hb hr hlocks hT ⟨by omega, by omega, by omega, by omega, by omega, by omega, (Classical.em ((zI s162 this 17).toInt = 1)).elim Or.inl (fun q8 => Or.inr (by rw [erQ, show (zI s162 this 18).toInt.toNat = ix v5 + 1 from by unfold ix; omega]; exact Y163 ⟨by omega, by omega⟩))⟩ dX6_sampleTold_158
    · have c7 := gi_eq c9
      refine lv_iconst (v := 0) hx hb dX6_sampleTold_35 (by decide) ?_
      refine lv_goto (tgt := 52) hx hb dX6_sampleTold_36 (by decide) ?_
      refine lv_sipush (v := 9999) hx hb dX6_sampleTold_52 (by decide) ?_
      have qq168 : (zI s14 this 13).toInt = v1.toInt := by rw [(hT.eI t_this (by decide) rfl ev1)]
      have qq169 : (zI s14 this 14).toInt = x9.toInt := by rw [e16]
      have qq170 : (zI s14 this 17).toInt = v3.toInt := by rw [ev3]
      obtain ⟨v171, ev171⟩ : ∃ zz9 : Int32, zI s14 this 24 = zz9 := ⟨_, rfl⟩
      have qv171 : v171.toInt = (zI s14 this 24).toInt := by rw [ev171]
      have qq172 : (zI s14 this 24).toInt = v171.toInt := by rw [ev171]
      have hTo := hT
      refine tVv (n := 2) (As := [.int 0, .int 9999]) (rest := []) hx hb hml hown hg hT hK hX (X6_number l κ s14 this 0 9999  (hT.k t_this (by decide)) (by omega) (by omega) (by omega) (by omega)) sub_gN_gS2 (mwV k1380 k1382 k48 k92 k1383) ⟨rfl, by decide, by decide, by decide +kernel⟩ ⟨(Nat.le_of_ble_eq_true rfl), (Nat.le_of_ble_eq_true rfl)⟩ (hT.o20 (hT.k t_this (by decide))) rfl rfl hl.1 rfl (Nat.le_of_ble_eq_true rfl) dX6_sampleTold_55 zroom.rf (fun s174 H locs hφ hEs174 hT => ?_)
      have ev5 : zI s174 this 18 = v5 := ((hTo.k t_this (by decide)).eI hEs174 (by decide) rfl).trans ev5
      have Y175 : zI s174 rQ = zI σ0 rQ := by rw [show zI s174 rQ = zI s14 rQ from funext fun k => (hTo.k trQ (by decide)).eI hEs174 (by decide) rfl]; exact Y15
      obtain ⟨f176, f177, f178⟩ := hφ
      obtain ⟨v179, ev179⟩ : ∃ zz9 : Int32, zI s174 this 14 = zz9 := ⟨_, rfl⟩
      have qv179 : v179.toInt = (zI s174 this 14).toInt := by rw [ev179]
      obtain ⟨v180, ev180⟩ : ∃ zz9 : Int32, zI s174 this 17 = zz9 := ⟨_, rfl⟩
      have qv180 : v180.toInt = (zI s174 this 17).toInt := by rw [ev180]
      have b181 : isB v180 := by have q9 : isB (zI s174 this 17) := hT.P (hT.k t_this (by decide)) (by decide); rw [ev180] at q9; exact q9
      have b181t := isB_t b181
      obtain ⟨v182, ev182⟩ : ∃ zz9 : Int32, zI s174 this 24 = zz9 := ⟨_, rfl⟩
      have qv182 : v182.toInt = (zI s174 this 24).toInt := by rw [ev182]
      refine lv_aload_n hx hb dX6_sampleTold_58 rfl (lv_at hl 0 rfl) ?_
      refine va_get (D := κ.1) (ci := 6) (v := .ref (kR κ this 25)) (C := RX6) (T := TX6) (N := 27) hx hb hg inX6 hown hK (hT.o20 (hT.k t_this (by decide))).one 0 rfl rfl 25 (by decide) (hg _ k1244) (fun _ h9 => h9) rfl dX6_sampleTold_59 ?_
      rw [erQ]
      refine lv_aload_n hx hb dX6_sampleTold_62 rfl (lv_at hl 0 rfl) ?_
      refine va_get (D := κ.1) (ci := 6) (v := .int (zI s174 this 18)) (C := RX6) (T := TX6) (N := 27) hx hb hg inX6 hown hK (hT.o20 (hT.k t_this (by decide))).one 0 rfl rfl 18 (by decide) (hg _ k1237) (fun _ h9 => h9) rfl dX6_sampleTold_63 ?_
      rw [ev5]
      refine lv_aload_n hx hb dX6_sampleTold_66 rfl (lv_at hl 0 rfl) ?_
      refine va_get (D := κ.1) (ci := 6) (v := .int (zI s174 this 24)) (C := RX6) (T := TX6) (N := 27) hx hb hg inX6 hown hK (hT.o20 (hT.k t_this (by decide))).one 0 rfl rfl 24 (by decide) (hg _ k1243) (fun _ h9 => h9) rfl dX6_sampleTold_67 ?_
      rw [ev182]
      have hTo := hT
      refine tasti (n := 48) hx hb hK hT (hT.k trQ (by decide)) ⟨by decide, by decide⟩ (fun _ _ _ => rfl) (fun _ _ => trivial) (fun _ => rfl) (by omega) (by omega) dX6_sampleTold_70 (fun H locs s183 hus183 hT => ?_)
      have ev5 : zI s183 this 18 = v5 := (zput_o hus183 (Or.inl ((hTo.k t_this (by decide)).ne (hTo.k trQ (by decide)) (by decide)))).trans ev5
      have ev179 : zI s183 this 14 = v179 := (zput_o hus183 (Or.inl ((hTo.k t_this (by decide)).ne (hTo.k trQ (by decide)) (by decide)))).trans ev179
      have ev180 : zI s183 this 17 = v180 := (zput_o hus183 (Or.inl ((hTo.k t_this (by decide)).ne (hTo.k trQ (by decide)) (by decide)))).trans ev180
      have ev182 : zI s183 this 24 = v182 := (zput_o hus183 (Or.inl ((hTo.k t_this (by decide)).ne (hTo.k trQ (by decide)) (by decide)))).trans ev182
      have Y184 : ((0 : Int32).toInt ≤ v182.toInt ∧ v182.toInt ≤ 9999) → PL (ix v5 + 1) (zI s183 rQ) := fun q9 => PL.snoc (σ := s174) (by have z9 := h7; rw [show (zI σ0 this 18).toInt.toNat = ix v5 from by unfold ix; omega] at z9; rw [Y175]; exact z9) hus183 ⟨by omega, q9.2⟩ (Or.inl (by unfold ix; omega))
      refine lv_aload_n hx hb dX6_sampleTold_71 rfl (lv_at hl 0 rfl) ?_
      refine va_get (D := κ.1) (ci := 6) (v := .int (zI s183 this 17)) (C := RX6) (T := TX6) (N := 27) hx hb hg inX6 hown hK (hT.o20 (hT.k t_this (by decide))).one 0 rfl rfl 17 (by decide) (hg _ k1236) (fun _ h9 => h9) rfl dX6_sampleTold_72 ?_
      rw [ev180]
      refine lv_if_ne (tgt := 91) hx hb dX6_sampleTold_75 (by decide) (fun c9 => ?_) (fun c9 => ?_)
      · have c8 := gi_ne c9
        refine lv_iconst (v := 0) hx hb dX6_sampleTold_91 (by decide) ?_
        refine lv_istore_n (lv' := [(1, .int 0), (0, .ref this)]) hx hb dX6_sampleTold_92 rfl hl (by decide) rfl (fun ls hl => ?_)
        refine lv_aload_n hx hb dX6_sampleTold_93 rfl (lv_at hl 1 rfl) ?_
        refine lv_dup hx hb dX6_sampleTold_94 rfl ?_
        refine va_get (D := κ.1) (ci := 6) (v := .int (zI s183 this 14)) (C := RX6) (T := TX6) (N := 27) hx hb hg inX6 hown hK (hT.o20 (hT.k t_this (by decide))).one 0 rfl rfl 14 (by decide) (hg _ k1233) (fun _ h9 => h9) rfl dX6_sampleTold_95 ?_
        rw [ev179]
        refine lv_iload_n hx hb dX6_sampleTold_98 rfl (lv_at hl 0 rfl) ?_
        refine lv_if_eq (tgt := 106) hx hb dX6_sampleTold_99 (by decide) (fun _ => ?_) (fun c9 => absurd (by decide) c9)
        refine lv_iconst (v := 0) hx hb dX6_sampleTold_106 (by decide) ?_
        refine lv_iadd hx hb dX6_sampleTold_107 ?_
        first | refine g_add (by omega) (by omega) (fun t185 ht185 => ?_) | refine lv_topi (fun t185 ht185 => ?_)
        have hTo := hT
        refine pf20_14 hx hb hg hown hK hT (hT.k t_this (by decide)) rfl (hg _ k1233) dX6_sampleTold_108 (fun H locs s186 hus186 hT => ?_)
        have ev5 : zI s186 this 18 = v5 := (zput_o hus186 (Or.inr (by decide))).trans ev5
        have ev180 : zI s186 this 17 = v180 := (zput_o hus186 (Or.inr (by decide))).trans ev180
        have ev182 : zI s186 this 24 = v182 := (zput_o hus186 (Or.inr (by decide))).trans ev182
        have Y187 : ((0 : Int32).toInt ≤ v182.toInt ∧ v182.toInt ≤ 9999) → PL (ix v5 + 1) (zI s186 rQ) := by rw [show zI s186 rQ = zI s183 rQ from zput_Io hus186 ((hTo.k trQ (by decide)).ne (hTo.k t_this (by decide)) (by decide))]; exact Y184
        have e188 : zI s186 this 14 = t185 := zput_at hus186
        refine lv_aload_n hx hb dX6_sampleTold_111 rfl (lv_at hl 1 rfl) ?_
        refine lv_iconst (v := 0) hx hb dX6_sampleTold_112 (by decide) ?_
        refine lv_sipush (v := 9999) hx hb dX6_sampleTold_113 (by decide) ?_
        have qq189 : (zI s186 this 13).toInt = v1.toInt := by rw [(hT.eI t_this (by decide) rfl ev1)]
        have qq190 : (zI s186 this 14).toInt = t185.toInt := by rw [e188]
        have qq191 : (zI s186 this 17).toInt = v180.toInt := by rw [ev180]
        have qq192 : (zI s186 this 24).toInt = v182.toInt := by rw [ev182]
        have hTo := hT
        refine tVv (n := 2) (As := [.int 0, .int 9999]) (rest := []) hx hb hml hown hg hT hK hX (X6_number l κ s186 this 0 9999  (hT.k t_this (by decide)) (by omega) (by omega) (by omega) (by omega)) sub_gN_gS2 (mwV k1380 k1382 k48 k92 k1383) ⟨rfl, by decide, by decide, by decide +kernel⟩ ⟨(Nat.le_of_ble_eq_true rfl), (Nat.le_of_ble_eq_true rfl)⟩ (hT.o20 (hT.k t_this (by decide))) rfl rfl hl.1 rfl (Nat.le_of_ble_eq_true rfl) dX6_sampleTold_116 zroom.rf (fun s194 H locs hφ hEs194 hT => ?_)
        have ev5 : zI s194 this 18 = v5 := ((hTo.k t_this (by decide)).eI hEs194 (by decide) rfl).trans ev5
        have Y195 : ((0 : Int32).toInt ≤ v182.toInt ∧ v182.toInt ≤ 9999) → PL (ix v5 + 1) (zI s194 rQ) := by rw [show zI s194 rQ = zI s186 rQ from funext fun k => (hTo.k trQ (by decide)).eI hEs194 (by decide) rfl]; exact Y187
        obtain ⟨f196, f197, f198⟩ := hφ
        obtain ⟨v199, ev199⟩ : ∃ zz9 : Int32, zI s194 this 14 = zz9 := ⟨_, rfl⟩
        have qv199 : v199.toInt = (zI s194 this 14).toInt := by rw [ev199]
        obtain ⟨v200, ev200⟩ : ∃ zz9 : Int32, zI s194 this 17 = zz9 := ⟨_, rfl⟩
        have qv200 : v200.toInt = (zI s194 this 17).toInt := by rw [ev200]
        have b201 : isB v200 := by have q9 : isB (zI s194 this 17) := hT.P (hT.k t_this (by decide)) (by decide); rw [ev200] at q9; exact q9
        have b201t := isB_t b201
        obtain ⟨v202, ev202⟩ : ∃ zz9 : Int32, zI s194 this 24 = zz9 := ⟨_, rfl⟩
        have qv202 : v202.toInt = (zI s194 this 24).toInt := by rw [ev202]
        refine lv_aload_n hx hb dX6_sampleTold_119 rfl (lv_at hl 1 rfl) ?_
        obtain ⟨r203, er203⟩ : ∃ z, kR κ this 26 = z := ⟨_, rfl⟩
        have tr203 : zk σ0 r203 28 := by rw [← er203]; exact hT0.ref t_this (by decide) (by decide) (by decide)
        refine va_get (D := κ.1) (ci := 6) (v := .ref (kR κ this 26)) (C := RX6) (T := TX6) (N := 27) hx hb hg inX6 hown hK (hT.o20 (hT.k t_this (by decide))).one 0 rfl rfl 26 (by decide) (hg _ k1245) (fun _ h9 => h9) rfl dX6_sampleTold_120 ?_
        rw [er203]
        refine lv_aload_n hx hb dX6_sampleTold_123 rfl (lv_at hl 1 rfl) ?_
        refine va_get (D := κ.1) (ci := 6) (v := .int (zI s194 this 18)) (C := RX6) (T := TX6) (N := 27) hx hb hg inX6 hown hK (hT.o20 (hT.k t_this (by decide))).one 0 rfl rfl 18 (by decide) (hg _ k1237) (fun _ h9 => h9) rfl dX6_sampleTold_124 ?_
        rw [ev5]
        refine lv_iload_n hx hb dX6_sampleTold_127 rfl (lv_at hl 0 rfl) ?_
        refine lv_if_eq (tgt := 139) hx hb dX6_sampleTold_128 (by decide) (fun _ => ?_) (fun c9 => absurd (by decide) c9)
        refine lv_aload_n hx hb dX6_sampleTold_139 rfl (lv_at hl 1 rfl) ?_
        refine va_get (D := κ.1) (ci := 6) (v := .int (zI s194 this 24)) (C := RX6) (T := TX6) (N := 27) hx hb hg inX6 hown hK (hT.o20 (hT.k t_this (by decide))).one 0 rfl rfl 24 (by decide) (hg _ k1243) (fun _ h9 => h9) rfl dX6_sampleTold_140 ?_
        rw [ev202]
        have hTo := hT
        refine tasti (n := 48) hx hb hK hT (hT.k tr203 (by decide)) ⟨by decide, by decide⟩ (fun _ _ _ => rfl) (fun _ _ => trivial) (fun _ => rfl) (by omega) (by omega) dX6_sampleTold_143 (fun H locs s204 hus204 hT => ?_)
        have ev5 : zI s204 this 18 = v5 := (zput_o hus204 (Or.inl ((hTo.k t_this (by decide)).ne (hTo.k tr203 (by decide)) (by decide)))).trans ev5
        have ev199 : zI s204 this 14 = v199 := (zput_o hus204 (Or.inl ((hTo.k t_this (by decide)).ne (hTo.k tr203 (by decide)) (by decide)))).trans ev199
        have ev200 : zI s204 this 17 = v200 := (zput_o hus204 (Or.inl ((hTo.k t_this (by decide)).ne (hTo.k tr203 (by decide)) (by decide)))).trans ev200
        have ev202 : zI s204 this 24 = v202 := (zput_o hus204 (Or.inl ((hTo.k t_this (by decide)).ne (hTo.k tr203 (by decide)) (by decide)))).trans ev202
        have Y205 : ((0 : Int32).toInt ≤ v182.toInt ∧ v182.toInt ≤ 9999) → PL (ix v5 + 1) (zI s204 rQ) := by rw [show zI s204 rQ = zI s194 rQ from zput_Io hus204 ((hTo.k trQ (by decide)).ne (hTo.k tr203 (by decide)) (by decide))]; exact Y195
        refine lv_aload_n hx hb dX6_sampleTold_144 rfl (lv_at hl 1 rfl) ?_
        have qq206 : (zI s204 this 13).toInt = v1.toInt := by rw [(hT.eI t_this (by decide) rfl ev1)]
        have qq207 : (zI s204 this 14).toInt = v199.toInt := by rw [ev199]
        have qq208 : (zI s204 this 17).toInt = v200.toInt := by rw [ev200]
        have hTo := hT
        refine tVv (n := 0) (As := []) (rest := []) hx hb hml hown hg hT hK hX (X6_ends l κ s204 this  (hT.k t_this (by decide)) (by omega) (by omega) (by omega) (by omega)) sub_gHB_gS2 (mwV k1386 k1388 k49 k92 k1389) ⟨rfl, by decide, by decide, by decide +kernel⟩ ⟨(Nat.le_of_ble_eq_true rfl), (Nat.le_of_ble_eq_true rfl)⟩ (hT.o20 (hT.k t_this (by decide))) rfl rfl hl.1 rfl (Nat.le_of_ble_eq_true rfl) dX6_sampleTold_145 zroom.rf (fun s210 H locs hφ hEs210 hT => ?_)
        have ev5 : zI s210 this 18 = v5 := ((hTo.k t_this (by decide)).eI hEs210 (by decide) rfl).trans ev5
        have ev202 : zI s210 this 24 = v202 := ((hTo.k t_this (by decide)).eI hEs210 (by decide) rfl).trans ev202
        have Y211 : ((0 : Int32).toInt ≤ v182.toInt ∧ v182.toInt ≤ 9999) → PL (ix v5 + 1) (zI s210 rQ) := by rw [show zI s210 rQ = zI s204 rQ from funext fun k => (hTo.k trQ (by decide)).eI hEs210 (by decide) rfl]; exact Y205
        obtain ⟨f212, f213, f214⟩ := hφ
        obtain ⟨v215, ev215⟩ : ∃ zz9 : Int32, zI s210 this 14 = zz9 := ⟨_, rfl⟩
        have qv215 : v215.toInt = (zI s210 this 14).toInt := by rw [ev215]
        obtain ⟨v216, ev216⟩ : ∃ zz9 : Int32, zI s210 this 17 = zz9 := ⟨_, rfl⟩
        have qv216 : v216.toInt = (zI s210 this 17).toInt := by rw [ev216]
        have b217 : isB v216 := by have q9 : isB (zI s210 this 17) := hT.P (hT.k t_this (by decide)) (by decide); rw [ev216] at q9; exact q9
        have b217t := isB_t b217
        refine lv_aload_n hx hb dX6_sampleTold_148 rfl (lv_at hl 1 rfl) ?_
        refine lv_dup hx hb dX6_sampleTold_149 rfl ?_
        refine va_get (D := κ.1) (ci := 6) (v := .int (zI s210 this 18)) (C := RX6) (T := TX6) (N := 27) hx hb hg inX6 hown hK (hT.o20 (hT.k t_this (by decide))).one 0 rfl rfl 18 (by decide) (hg _ k1237) (fun _ h9 => h9) rfl dX6_sampleTold_150 ?_
        rw [ev5]
        refine lv_iconst (v := 1) hx hb dX6_sampleTold_153 (by decide) ?_
        refine lv_iadd hx hb dX6_sampleTold_154 ?_
        first | refine g_add (by omega) (by omega) (fun t218 ht218 => ?_) | refine lv_topi (fun t218 ht218 => ?_)
        have hTo := hT
        refine pf20_18 hx hb hg hown hK hT (hT.k t_this (by decide)) rfl (hg _ k1237) dX6_sampleTold_155 (fun H locs s219 hus219 hT => ?_)
        have ev202 : zI s219 this 24 = v202 := (zput_o hus219 (Or.inr (by decide))).trans ev202
        have ev215 : zI s219 this 14 = v215 := (zput_o hus219 (Or.inr (by decide))).trans ev215
        have ev216 : zI s219 this 17 = v216 := (zput_o hus219 (Or.inr (by decide))).trans ev216
        have Y220 : ((0 : Int32).toInt ≤ v182.toInt ∧ v182.toInt ≤ 9999) → PL (ix v5 + 1) (zI s219 rQ) := by rw [show zI s219 rQ = zI s210 rQ from zput_Io hus219 ((hTo.k trQ (by decide)).ne (hTo.k t_this (by decide)) (by decide))]; exact Y211
        have e221 : zI s219 this 18 = t218 := zput_at hus219
        have zz222 : (zI s219 this 14).toInt = v215.toInt := by rw [ev215]
        have zz223 : (zI s219 this 17).toInt = v216.toInt := by rw [ev216]
        have zz224 : (zI s219 this 18).toInt = t218.toInt := by rw [e221]
        subst hQ9
        exact t_v hx hb hr hlocks hT ⟨by omega, by omega, by omega, by omega, by omega, by omega, (Classical.em ((zI s219 this 17).toInt = 1)).elim Or.inl (fun q8 => Or.inr (by rw [erQ, show (zI s219 this 18).toInt.toNat = ix v5 + 1 from by unfold ix; omega]; exact Y220 ⟨by omega, by omega⟩))⟩ dX6_sampleTold_158
      · have c9 := gi_eq c9
        refine lv_aload_n hx hb dX6_sampleTold_78 rfl (lv_at hl 0 rfl) ?_
        have qq225 : (zI s183 this 13).toInt = v1.toInt := by rw [(hT.eI t_this (by decide) rfl ev1)]
        have qq226 : (zI s183 this 14).toInt = v179.toInt := by rw [ev179]
        have qq227 : (zI s183 this 17).toInt = v180.toInt := by rw [ev180]
        have hTo := hT
        refine tVi (n := 0) (As := []) (rest := []) hx hb hml hown hg hT hK hX (X6_here l κ s183 this  (hT.k t_this (by decide)) (by omega) (by omega) (by omega) (by omega)) sub_gH_gS2 (mwV k1341 k1343 k42 k92 k1344) ⟨rfl, by decide, by decide, by decide +kernel⟩ ⟨(Nat.le_of_ble_eq_true rfl), (Nat.le_of_ble_eq_true rfl)⟩ (hT.o20 (hT.k t_this (by decide))) rfl rfl hl.1 rfl (Nat.le_of_ble_eq_true rfl) dX6_sampleTold_79 zroom.rf (fun x228 s229 H locs hφ hEs229 hT => ?_)
        have ev5 : zI s229 this 18 = v5 := ((hTo.k t_this (by decide)).eI hEs229 (by decide) rfl).trans ev5
        have ev180 : zI s229 this 17 = v180 := ((hTo.k t_this (by decide)).eI hEs229 (by decide) rfl).trans ev180
        have ev182 : zI s229 this 24 = v182 := ((hTo.k t_this (by decide)).eI hEs229 (by decide) rfl).trans ev182
        have Y230 : ((0 : Int32).toInt ≤ v182.toInt ∧ v182.toInt ≤ 9999) → PL (ix v5 + 1) (zI s229 rQ) := by rw [show zI s229 rQ = zI s183 rQ from funext fun k => (hTo.k trQ (by decide)).eI hEs229 (by decide) rfl]; exact Y184
        obtain ⟨f231, f232, f233⟩ := hφ
        obtain ⟨v234, ev234⟩ : ∃ zz9 : Int32, zI s229 this 14 = zz9 := ⟨_, rfl⟩
        have qv234 : v234.toInt = (zI s229 this 14).toInt := by rw [ev234]
        refine lv_bipush (v := 45) hx hb dX6_sampleTold_82 (by decide) ?_
        refine lv_icmp_ne (tgt := 91) hx hb dX6_sampleTold_84 (by decide) (fun c9 => ?_) (fun c9 => ?_)
        · have c10 := gi_ne c9
          refine lv_iconst (v := 0) hx hb dX6_sampleTold_91 (by decide) ?_
          refine lv_istore_n (lv' := [(1, .int 0), (0, .ref this)]) hx hb dX6_sampleTold_92 rfl hl (by decide) rfl (fun ls hl => ?_)
          refine lv_aload_n hx hb dX6_sampleTold_93 rfl (lv_at hl 1 rfl) ?_
          refine lv_dup hx hb dX6_sampleTold_94 rfl ?_
          refine va_get (D := κ.1) (ci := 6) (v := .int (zI s229 this 14)) (C := RX6) (T := TX6) (N := 27) hx hb hg inX6 hown hK (hT.o20 (hT.k t_this (by decide))).one 0 rfl rfl 14 (by decide) (hg _ k1233) (fun _ h9 => h9) rfl dX6_sampleTold_95 ?_
          rw [ev234]
          refine lv_iload_n hx hb dX6_sampleTold_98 rfl (lv_at hl 0 rfl) ?_
          refine lv_if_eq (tgt := 106) hx hb dX6_sampleTold_99 (by decide) (fun _ => ?_) (fun c9 => absurd (by decide) c9)
          refine lv_iconst (v := 0) hx hb dX6_sampleTold_106 (by decide) ?_
          refine lv_iadd hx hb dX6_sampleTold_107 ?_
          first | refine g_add (by omega) (by omega) (fun t235 ht235 => ?_) | refine lv_topi (fun t235 ht235 => ?_)
          have hTo := hT
          refine pf20_14 hx hb hg hown hK hT (hT.k t_this (by decide)) rfl (hg _ k1233) dX6_sampleTold_108 (fun H locs s236 hus236 hT => ?_)
          have ev5 : zI s236 this 18 = v5 := (zput_o hus236 (Or.inr (by decide))).trans ev5
          have ev180 : zI s236 this 17 = v180 := (zput_o hus236 (Or.inr (by decide))).trans ev180
          have ev182 : zI s236 this 24 = v182 := (zput_o hus236 (Or.inr (by decide))).trans ev182
          have Y237 : ((0 : Int32).toInt ≤ v182.toInt ∧ v182.toInt ≤ 9999) → PL (ix v5 + 1) (zI s236 rQ) := by rw [show zI s236 rQ = zI s229 rQ from zput_Io hus236 ((hTo.k trQ (by decide)).ne (hTo.k t_this (by decide)) (by decide))]; exact Y230
          have e238 : zI s236 this 14 = t235 := zput_at hus236
          refine lv_aload_n hx hb dX6_sampleTold_111 rfl (lv_at hl 1 rfl) ?_
          refine lv_iconst (v := 0) hx hb dX6_sampleTold_112 (by decide) ?_
          refine lv_sipush (v := 9999) hx hb dX6_sampleTold_113 (by decide) ?_
          have qq239 : (zI s236 this 13).toInt = v1.toInt := by rw [(hT.eI t_this (by decide) rfl ev1)]
          have qq240 : (zI s236 this 14).toInt = t235.toInt := by rw [e238]
          have qq241 : (zI s236 this 17).toInt = v180.toInt := by rw [ev180]
          have qq242 : (zI s236 this 24).toInt = v182.toInt := by rw [ev182]
          have hTo := hT
          refine tVv (n := 2) (As := [.int 0, .int 9999]) (rest := []) hx hb hml hown hg hT hK hX (X6_number l κ s236 this 0 9999  (hT.k t_this (by decide)) (by omega) (by omega) (by omega) (by omega)) sub_gN_gS2 (mwV k1380 k1382 k48 k92 k1383) ⟨rfl, by decide, by decide, by decide +kernel⟩ ⟨(Nat.le_of_ble_eq_true rfl), (Nat.le_of_ble_eq_true rfl)⟩ (hT.o20 (hT.k t_this (by decide))) rfl rfl hl.1 rfl (Nat.le_of_ble_eq_true rfl) dX6_sampleTold_116 zroom.rf (fun s244 H locs hφ hEs244 hT => ?_)
          have ev5 : zI s244 this 18 = v5 := ((hTo.k t_this (by decide)).eI hEs244 (by decide) rfl).trans ev5
          have Y245 : ((0 : Int32).toInt ≤ v182.toInt ∧ v182.toInt ≤ 9999) → PL (ix v5 + 1) (zI s244 rQ) := by rw [show zI s244 rQ = zI s236 rQ from funext fun k => (hTo.k trQ (by decide)).eI hEs244 (by decide) rfl]; exact Y237
          obtain ⟨f246, f247, f248⟩ := hφ
          obtain ⟨v249, ev249⟩ : ∃ zz9 : Int32, zI s244 this 14 = zz9 := ⟨_, rfl⟩
          have qv249 : v249.toInt = (zI s244 this 14).toInt := by rw [ev249]
          obtain ⟨v250, ev250⟩ : ∃ zz9 : Int32, zI s244 this 17 = zz9 := ⟨_, rfl⟩
          have qv250 : v250.toInt = (zI s244 this 17).toInt := by rw [ev250]
          have b251 : isB v250 := by have q9 : isB (zI s244 this 17) := hT.P (hT.k t_this (by decide)) (by decide); rw [ev250] at q9; exact q9
          have b251t := isB_t b251
          obtain ⟨v252, ev252⟩ : ∃ zz9 : Int32, zI s244 this 24 = zz9 := ⟨_, rfl⟩
          have qv252 : v252.toInt = (zI s244 this 24).toInt := by rw [ev252]
          refine lv_aload_n hx hb dX6_sampleTold_119 rfl (lv_at hl 1 rfl) ?_
          obtain ⟨r253, er253⟩ : ∃ z, kR κ this 26 = z := ⟨_, rfl⟩
          have tr253 : zk σ0 r253 28 := by rw [← er253]; exact hT0.ref t_this (by decide) (by decide) (by decide)
          refine va_get (D := κ.1) (ci := 6) (v := .ref (kR κ this 26)) (C := RX6) (T := TX6) (N := 27) hx hb hg inX6 hown hK (hT.o20 (hT.k t_this (by decide))).one 0 rfl rfl 26 (by decide) (hg _ k1245) (fun _ h9 => h9) rfl dX6_sampleTold_120 ?_
          rw [er253]
          refine lv_aload_n hx hb dX6_sampleTold_123 rfl (lv_at hl 1 rfl) ?_
          refine va_get (D := κ.1) (ci := 6) (v := .int (zI s244 this 18)) (C := RX6) (T := TX6) (N := 27) hx hb hg inX6 hown hK (hT.o20 (hT.k t_this (by decide))).one 0 rfl rfl 18 (by decide) (hg _ k1237) (fun _ h9 => h9) rfl dX6_sampleTold_124 ?_
          rw [ev5]
          refine lv_iload_n hx hb dX6_sampleTold_127 rfl (lv_at hl 0 rfl) ?_
          refine lv_if_eq (tgt := 139) hx hb dX6_sampleTold_128 (by decide) (fun _ => ?_) (fun c9 => absurd (by decide) c9)
          refine lv_aload_n hx hb dX6_sampleTold_139 rfl (lv_at hl 1 rfl) ?_
          refine va_get (D := κ.1) (ci := 6) (v := .int (zI s244 this 24)) (C := RX6) (T := TX6) (N := 27) hx hb hg inX6 hown hK (hT.o20 (hT.k t_this (by decide))).one 0 rfl rfl 24 (by decide) (hg _ k1243) (fun _ h9 => h9) rfl dX6_sampleTold_140 ?_
          rw [ev252]
          have hTo := hT
          refine tasti (n := 48) hx hb hK hT (hT.k tr253 (by decide)) ⟨by decide, by decide⟩ (fun _ _ _ => rfl) (fun _ _ => trivial) (fun _ => rfl) (by omega) (by omega) dX6_sampleTold_143 (fun H locs s254 hus254 hT => ?_)
          have ev5 : zI s254 this 18 = v5 := (zput_o hus254 (Or.inl ((hTo.k t_this (by decide)).ne (hTo.k tr253 (by decide)) (by decide)))).trans ev5
          have ev249 : zI s254 this 14 = v249 := (zput_o hus254 (Or.inl ((hTo.k t_this (by decide)).ne (hTo.k tr253 (by decide)) (by decide)))).trans ev249
          have ev250 : zI s254 this 17 = v250 := (zput_o hus254 (Or.inl ((hTo.k t_this (by decide)).ne (hTo.k tr253 (by decide)) (by decide)))).trans ev250
          have ev252 : zI s254 this 24 = v252 := (zput_o hus254 (Or.inl ((hTo.k t_this (by decide)).ne (hTo.k tr253 (by decide)) (by decide)))).trans ev252
          have Y255 : ((0 : Int32).toInt ≤ v182.toInt ∧ v182.toInt ≤ 9999) → PL (ix v5 + 1) (zI s254 rQ) := by rw [show zI s254 rQ = zI s244 rQ from zput_Io hus254 ((hTo.k trQ (by decide)).ne (hTo.k tr253 (by decide)) (by decide))]; exact Y245
          refine lv_aload_n hx hb dX6_sampleTold_144 rfl (lv_at hl 1 rfl) ?_
          have qq256 : (zI s254 this 13).toInt = v1.toInt := by rw [(hT.eI t_this (by decide) rfl ev1)]
          have qq257 : (zI s254 this 14).toInt = v249.toInt := by rw [ev249]
          have qq258 : (zI s254 this 17).toInt = v250.toInt := by rw [ev250]
          have hTo := hT
          refine tVv (n := 0) (As := []) (rest := []) hx hb hml hown hg hT hK hX (X6_ends l κ s254 this  (hT.k t_this (by decide)) (by omega) (by omega) (by omega) (by omega)) sub_gHB_gS2 (mwV k1386 k1388 k49 k92 k1389) ⟨rfl, by decide, by decide, by decide +kernel⟩ ⟨(Nat.le_of_ble_eq_true rfl), (Nat.le_of_ble_eq_true rfl)⟩ (hT.o20 (hT.k t_this (by decide))) rfl rfl hl.1 rfl (Nat.le_of_ble_eq_true rfl) dX6_sampleTold_145 zroom.rf (fun s260 H locs hφ hEs260 hT => ?_)
          have ev5 : zI s260 this 18 = v5 := ((hTo.k t_this (by decide)).eI hEs260 (by decide) rfl).trans ev5
          have ev252 : zI s260 this 24 = v252 := ((hTo.k t_this (by decide)).eI hEs260 (by decide) rfl).trans ev252
          have Y261 : ((0 : Int32).toInt ≤ v182.toInt ∧ v182.toInt ≤ 9999) → PL (ix v5 + 1) (zI s260 rQ) := by rw [show zI s260 rQ = zI s254 rQ from funext fun k => (hTo.k trQ (by decide)).eI hEs260 (by decide) rfl]; exact Y255
          obtain ⟨f262, f263, f264⟩ := hφ
          obtain ⟨v265, ev265⟩ : ∃ zz9 : Int32, zI s260 this 14 = zz9 := ⟨_, rfl⟩
          have qv265 : v265.toInt = (zI s260 this 14).toInt := by rw [ev265]
          obtain ⟨v266, ev266⟩ : ∃ zz9 : Int32, zI s260 this 17 = zz9 := ⟨_, rfl⟩
          have qv266 : v266.toInt = (zI s260 this 17).toInt := by rw [ev266]
          have b267 : isB v266 := by have q9 : isB (zI s260 this 17) := hT.P (hT.k t_this (by decide)) (by decide); rw [ev266] at q9; exact q9
          have b267t := isB_t b267
          refine lv_aload_n hx hb dX6_sampleTold_148 rfl (lv_at hl 1 rfl) ?_
          refine lv_dup hx hb dX6_sampleTold_149 rfl ?_
          refine va_get (D := κ.1) (ci := 6) (v := .int (zI s260 this 18)) (C := RX6) (T := TX6) (N := 27) hx hb hg inX6 hown hK (hT.o20 (hT.k t_this (by decide))).one 0 rfl rfl 18 (by decide) (hg _ k1237) (fun _ h9 => h9) rfl dX6_sampleTold_150 ?_
          rw [ev5]
          refine lv_iconst (v := 1) hx hb dX6_sampleTold_153 (by decide) ?_
          refine lv_iadd hx hb dX6_sampleTold_154 ?_
          first | refine g_add (by omega) (by omega) (fun t268 ht268 => ?_) | refine lv_topi (fun t268 ht268 => ?_)
          have hTo := hT
          refine pf20_18 hx hb hg hown hK hT (hT.k t_this (by decide)) rfl (hg _ k1237) dX6_sampleTold_155 (fun H locs s269 hus269 hT => ?_)
          have ev252 : zI s269 this 24 = v252 := (zput_o hus269 (Or.inr (by decide))).trans ev252
          have ev265 : zI s269 this 14 = v265 := (zput_o hus269 (Or.inr (by decide))).trans ev265
          have ev266 : zI s269 this 17 = v266 := (zput_o hus269 (Or.inr (by decide))).trans ev266
          have Y270 : ((0 : Int32).toInt ≤ v182.toInt ∧ v182.toInt ≤ 9999) → PL (ix v5 + 1) (zI s269 rQ) := by rw [show zI s269 rQ = zI s260 rQ from zput_Io hus269 ((hTo.k trQ (by decide)).ne (hTo.k t_this (by decide)) (by decide))]; exact Y261
          have e271 : zI s269 this 18 = t268 := zput_at hus269
          have zz272 : (zI s269 this 14).toInt = v265.toInt := by rw [ev265]
          have zz273 : (zI s269 this 17).toInt = v266.toInt := by rw [ev266]
          have zz274 : (zI s269 this 18).toInt = t268.toInt := by rw [e271]
          subst hQ9
          exact t_v hx hb hr hlocks hT ⟨by omega, by omega, by omega, by omega, by omega, by omega, (Classical.em ((zI s269 this 17).toInt = 1)).elim Or.inl (fun q8 => Or.inr (by rw [erQ, show (zI s269 this 18).toInt.toNat = ix v5 + 1 from by unfold ix; omega]; exact Y270 ⟨by omega, by omega⟩))⟩ dX6_sampleTold_158
        · have c11 := gi_eq c9
          refine lv_iconst (v := 1) hx hb dX6_sampleTold_87 (by decide) ?_
          refine lv_goto (tgt := 92) hx hb dX6_sampleTold_88 (by decide) ?_
          refine lv_istore_n (lv' := [(1, .int 1), (0, .ref this)]) hx hb dX6_sampleTold_92 rfl hl (by decide) rfl (fun ls hl => ?_)
          refine lv_aload_n hx hb dX6_sampleTold_93 rfl (lv_at hl 1 rfl) ?_
          refine lv_dup hx hb dX6_sampleTold_94 rfl ?_
          refine va_get (D := κ.1) (ci := 6) (v := .int (zI s229 this 14)) (C := RX6) (T := TX6) (N := 27) hx hb hg inX6 hown hK (hT.o20 (hT.k t_this (by decide))).one 0 rfl rfl 14 (by decide) (hg _ k1233) (fun _ h9 => h9) rfl dX6_sampleTold_95 ?_
          rw [ev234]
          refine lv_iload_n hx hb dX6_sampleTold_98 rfl (lv_at hl 0 rfl) ?_
          refine lv_if_eq (tgt := 106) hx hb dX6_sampleTold_99 (by decide) (fun c9 => absurd c9 (by decide)) (fun _ => ?_)
          refine lv_iconst (v := 1) hx hb dX6_sampleTold_102 (by decide) ?_
          refine lv_goto (tgt := 107) hx hb dX6_sampleTold_103 (by decide) ?_
          refine lv_iadd hx hb dX6_sampleTold_107 ?_
          first | refine g_add (by omega) (by omega) (fun t275 ht275 => ?_) | refine lv_topi (fun t275 ht275 => ?_)
          have hTo := hT
          refine pf20_14 hx hb hg hown hK hT (hT.k t_this (by decide)) rfl (hg _ k1233) dX6_sampleTold_108 (fun H locs s276 hus276 hT => ?_)
          have ev5 : zI s276 this 18 = v5 := (zput_o hus276 (Or.inr (by decide))).trans ev5
          have ev180 : zI s276 this 17 = v180 := (zput_o hus276 (Or.inr (by decide))).trans ev180
          have ev182 : zI s276 this 24 = v182 := (zput_o hus276 (Or.inr (by decide))).trans ev182
          have Y277 : ((0 : Int32).toInt ≤ v182.toInt ∧ v182.toInt ≤ 9999) → PL (ix v5 + 1) (zI s276 rQ) := by rw [show zI s276 rQ = zI s229 rQ from zput_Io hus276 ((hTo.k trQ (by decide)).ne (hTo.k t_this (by decide)) (by decide))]; exact Y230
          have e278 : zI s276 this 14 = t275 := zput_at hus276
          refine lv_aload_n hx hb dX6_sampleTold_111 rfl (lv_at hl 1 rfl) ?_
          refine lv_iconst (v := 0) hx hb dX6_sampleTold_112 (by decide) ?_
          refine lv_sipush (v := 9999) hx hb dX6_sampleTold_113 (by decide) ?_
          have qq279 : (zI s276 this 13).toInt = v1.toInt := by rw [(hT.eI t_this (by decide) rfl ev1)]
          have qq280 : (zI s276 this 14).toInt = t275.toInt := by rw [e278]
          have qq281 : (zI s276 this 17).toInt = v180.toInt := by rw [ev180]
          have qq282 : (zI s276 this 24).toInt = v182.toInt := by rw [ev182]
          have hTo := hT
          refine tVv (n := 2) (As := [.int 0, .int 9999]) (rest := []) hx hb hml hown hg hT hK hX (X6_number l κ s276 this 0 9999  (hT.k t_this (by decide)) (by omega) (by omega) (by omega) (by omega)) sub_gN_gS2 (mwV k1380 k1382 k48 k92 k1383) ⟨rfl, by decide, by decide, by decide +kernel⟩ ⟨(Nat.le_of_ble_eq_true rfl), (Nat.le_of_ble_eq_true rfl)⟩ (hT.o20 (hT.k t_this (by decide))) rfl rfl hl.1 rfl (Nat.le_of_ble_eq_true rfl) dX6_sampleTold_116 zroom.rf (fun s284 H locs hφ hEs284 hT => ?_)
          have ev5 : zI s284 this 18 = v5 := ((hTo.k t_this (by decide)).eI hEs284 (by decide) rfl).trans ev5
          have Y285 : ((0 : Int32).toInt ≤ v182.toInt ∧ v182.toInt ≤ 9999) → PL (ix v5 + 1) (zI s284 rQ) := by rw [show zI s284 rQ = zI s276 rQ from funext fun k => (hTo.k trQ (by decide)).eI hEs284 (by decide) rfl]; exact Y277
          obtain ⟨f286, f287, f288⟩ := hφ
          obtain ⟨v289, ev289⟩ : ∃ zz9 : Int32, zI s284 this 14 = zz9 := ⟨_, rfl⟩
          have qv289 : v289.toInt = (zI s284 this 14).toInt := by rw [ev289]
          obtain ⟨v290, ev290⟩ : ∃ zz9 : Int32, zI s284 this 17 = zz9 := ⟨_, rfl⟩
          have qv290 : v290.toInt = (zI s284 this 17).toInt := by rw [ev290]
          have b291 : isB v290 := by have q9 : isB (zI s284 this 17) := hT.P (hT.k t_this (by decide)) (by decide); rw [ev290] at q9; exact q9
          have b291t := isB_t b291
          obtain ⟨v292, ev292⟩ : ∃ zz9 : Int32, zI s284 this 24 = zz9 := ⟨_, rfl⟩
          have qv292 : v292.toInt = (zI s284 this 24).toInt := by rw [ev292]
          refine lv_aload_n hx hb dX6_sampleTold_119 rfl (lv_at hl 1 rfl) ?_
          obtain ⟨r293, er293⟩ : ∃ z, kR κ this 26 = z := ⟨_, rfl⟩
          have tr293 : zk σ0 r293 28 := by rw [← er293]; exact hT0.ref t_this (by decide) (by decide) (by decide)
          refine va_get (D := κ.1) (ci := 6) (v := .ref (kR κ this 26)) (C := RX6) (T := TX6) (N := 27) hx hb hg inX6 hown hK (hT.o20 (hT.k t_this (by decide))).one 0 rfl rfl 26 (by decide) (hg _ k1245) (fun _ h9 => h9) rfl dX6_sampleTold_120 ?_
          rw [er293]
          refine lv_aload_n hx hb dX6_sampleTold_123 rfl (lv_at hl 1 rfl) ?_
          refine va_get (D := κ.1) (ci := 6) (v := .int (zI s284 this 18)) (C := RX6) (T := TX6) (N := 27) hx hb hg inX6 hown hK (hT.o20 (hT.k t_this (by decide))).one 0 rfl rfl 18 (by decide) (hg _ k1237) (fun _ h9 => h9) rfl dX6_sampleTold_124 ?_
          rw [ev5]
          refine lv_iload_n hx hb dX6_sampleTold_127 rfl (lv_at hl 0 rfl) ?_
          refine lv_if_eq (tgt := 139) hx hb dX6_sampleTold_128 (by decide) (fun c9 => absurd c9 (by decide)) (fun _ => ?_)
          refine lv_aload_n hx hb dX6_sampleTold_131 rfl (lv_at hl 1 rfl) ?_
          refine va_get (D := κ.1) (ci := 6) (v := .int (zI s284 this 24)) (C := RX6) (T := TX6) (N := 27) hx hb hg inX6 hown hK (hT.o20 (hT.k t_this (by decide))).one 0 rfl rfl 24 (by decide) (hg _ k1243) (fun _ h9 => h9) rfl dX6_sampleTold_132 ?_
          rw [ev292]
          refine lv_ineg hx hb dX6_sampleTold_135 ?_
          refine lv_topi (fun t294 ht294 => ?_)
          refine lv_goto (tgt := 143) hx hb dX6_sampleTold_136 (by decide) ?_
          have hTo := hT
          refine tasti (n := 48) hx hb hK hT (hT.k tr293 (by decide)) ⟨by decide, by decide⟩ (fun _ _ _ => rfl) (fun _ _ => trivial) (fun _ => rfl) (by omega) (by omega) dX6_sampleTold_143 (fun H locs s295 hus295 hT => ?_)
          have ev5 : zI s295 this 18 = v5 := (zput_o hus295 (Or.inl ((hTo.k t_this (by decide)).ne (hTo.k tr293 (by decide)) (by decide)))).trans ev5
          have ev289 : zI s295 this 14 = v289 := (zput_o hus295 (Or.inl ((hTo.k t_this (by decide)).ne (hTo.k tr293 (by decide)) (by decide)))).trans ev289
          have ev290 : zI s295 this 17 = v290 := (zput_o hus295 (Or.inl ((hTo.k t_this (by decide)).ne (hTo.k tr293 (by decide)) (by decide)))).trans ev290
          have ev292 : zI s295 this 24 = v292 := (zput_o hus295 (Or.inl ((hTo.k t_this (by decide)).ne (hTo.k tr293 (by decide)) (by decide)))).trans ev292
          have Y296 : ((0 : Int32).toInt ≤ v182.toInt ∧ v182.toInt ≤ 9999) → PL (ix v5 + 1) (zI s295 rQ) := by rw [show zI s295 rQ = zI s284 rQ from zput_Io hus295 ((hTo.k trQ (by decide)).ne (hTo.k tr293 (by decide)) (by decide))]; exact Y285
          refine lv_aload_n hx hb dX6_sampleTold_144 rfl (lv_at hl 1 rfl) ?_
          have qq297 : (zI s295 this 13).toInt = v1.toInt := by rw [(hT.eI t_this (by decide) rfl ev1)]
          have qq298 : (zI s295 this 14).toInt = v289.toInt := by rw [ev289]
          have qq299 : (zI s295 this 17).toInt = v290.toInt := by rw [ev290]
          have hTo := hT
          refine tVv (n := 0) (As := []) (rest := []) hx hb hml hown hg hT hK hX (X6_ends l κ s295 this  (hT.k t_this (by decide)) (by omega) (by omega) (by omega) (by omega)) sub_gHB_gS2 (mwV k1386 k1388 k49 k92 k1389) ⟨rfl, by decide, by decide, by decide +kernel⟩ ⟨(Nat.le_of_ble_eq_true rfl), (Nat.le_of_ble_eq_true rfl)⟩ (hT.o20 (hT.k t_this (by decide))) rfl rfl hl.1 rfl (Nat.le_of_ble_eq_true rfl) dX6_sampleTold_145 zroom.rf (fun s301 H locs hφ hEs301 hT => ?_)
          have ev5 : zI s301 this 18 = v5 := ((hTo.k t_this (by decide)).eI hEs301 (by decide) rfl).trans ev5
          have ev292 : zI s301 this 24 = v292 := ((hTo.k t_this (by decide)).eI hEs301 (by decide) rfl).trans ev292
          have Y302 : ((0 : Int32).toInt ≤ v182.toInt ∧ v182.toInt ≤ 9999) → PL (ix v5 + 1) (zI s301 rQ) := by rw [show zI s301 rQ = zI s295 rQ from funext fun k => (hTo.k trQ (by decide)).eI hEs301 (by decide) rfl]; exact Y296
          obtain ⟨f303, f304, f305⟩ := hφ
          obtain ⟨v306, ev306⟩ : ∃ zz9 : Int32, zI s301 this 14 = zz9 := ⟨_, rfl⟩
          have qv306 : v306.toInt = (zI s301 this 14).toInt := by rw [ev306]
          obtain ⟨v307, ev307⟩ : ∃ zz9 : Int32, zI s301 this 17 = zz9 := ⟨_, rfl⟩
          have qv307 : v307.toInt = (zI s301 this 17).toInt := by rw [ev307]
          have b308 : isB v307 := by have q9 : isB (zI s301 this 17) := hT.P (hT.k t_this (by decide)) (by decide); rw [ev307] at q9; exact q9
          have b308t := isB_t b308
          refine lv_aload_n hx hb dX6_sampleTold_148 rfl (lv_at hl 1 rfl) ?_
          refine lv_dup hx hb dX6_sampleTold_149 rfl ?_
          refine va_get (D := κ.1) (ci := 6) (v := .int (zI s301 this 18)) (C := RX6) (T := TX6) (N := 27) hx hb hg inX6 hown hK (hT.o20 (hT.k t_this (by decide))).one 0 rfl rfl 18 (by decide) (hg _ k1237) (fun _ h9 => h9) rfl dX6_sampleTold_150 ?_
          rw [ev5]
          refine lv_iconst (v := 1) hx hb dX6_sampleTold_153 (by decide) ?_
          refine lv_iadd hx hb dX6_sampleTold_154 ?_
          first | refine g_add (by omega) (by omega) (fun t309 ht309 => ?_) | refine lv_topi (fun t309 ht309 => ?_)
          have hTo := hT
          refine pf20_18 hx hb hg hown hK hT (hT.k t_this (by decide)) rfl (hg _ k1237) dX6_sampleTold_155 (fun H locs s310 hus310 hT => ?_)
          have ev292 : zI s310 this 24 = v292 := (zput_o hus310 (Or.inr (by decide))).trans ev292
          have ev306 : zI s310 this 14 = v306 := (zput_o hus310 (Or.inr (by decide))).trans ev306
          have ev307 : zI s310 this 17 = v307 := (zput_o hus310 (Or.inr (by decide))).trans ev307
          have Y311 : ((0 : Int32).toInt ≤ v182.toInt ∧ v182.toInt ≤ 9999) → PL (ix v5 + 1) (zI s310 rQ) := by rw [show zI s310 rQ = zI s301 rQ from zput_Io hus310 ((hTo.k trQ (by decide)).ne (hTo.k t_this (by decide)) (by decide))]; exact Y302
          have e312 : zI s310 this 18 = t309 := zput_at hus310
          have zz313 : (zI s310 this 14).toInt = v306.toInt := by rw [ev306]
          have zz314 : (zI s310 this 17).toInt = v307.toInt := by rw [ev307]
          have zz315 : (zI s310 this 18).toInt = t309.toInt := by rw [e312]
          subst hQ9
          exact t_v hx hb hr hlocks hT ⟨by omega, by omega, by omega, by omega, by omega, by omega, (Classical.em ((zI s310 this 17).toInt = 1)).elim Or.inl (fun q8 => Or.inr (by rw [erQ, show (zI s310 this 18).toInt.toNat = ix v5 + 1 from by unfold ix; omega]; exact Y311 ⟨by omega, by omega⟩))⟩ dX6_sampleTold_158
  · have c12 := gi_eq c9
    refine lv_aload_n hx hb dX6_sampleTold_9 rfl (lv_at hl 0 rfl) ?_
    refine lv_iconst (v := 4) hx hb dX6_sampleTold_10 (by decide) ?_
    refine lv_aload_n hx hb dX6_sampleTold_11 rfl (lv_at hl 0 rfl) ?_
    refine va_get (D := κ.1) (ci := 6) (v := .int (zI σ0 this 14)) (C := RX6) (T := TX6) (N := 27) hx hb hg inX6 hown hK (hT.o20 (hT.k t_this (by decide))).one 0 rfl rfl 14 (by decide) (hg _ k1233) (fun _ h9 => h9) rfl dX6_sampleTold_12 ?_
    rw [ev2]
    have qq316 : (zI σ0 this 17).toInt = v3.toInt := by rw [ev3]
    have hTo := hT
    refine tVv (n := 2) (As := [.int 4, .int v2]) (rest := []) hx hb hml hown hg hT hK hX (X6_wrong l κ σ0 this 4 v2  (hT.k t_this (by decide)) ) sub_gB_gS2 (mwV k1357 k1359 k45 k92 k1360) ⟨rfl, by decide, by decide, by decide +kernel⟩ ⟨(Nat.le_of_ble_eq_true rfl), (Nat.le_of_ble_eq_true rfl)⟩ (hT.o20 (hT.k t_this (by decide))) rfl rfl hl.1 rfl (Nat.le_of_ble_eq_true rfl) dX6_sampleTold_15 zroom.rf (fun s318 H locs hφ hEs318 hT => ?_)
    have ev2 : zI s318 this 14 = v2 := ((hTo.k t_this (by decide)).eI hEs318 (by decide) rfl).trans ev2
    have ev5 : zI s318 this 18 = v5 := ((hTo.k t_this (by decide)).eI hEs318 (by decide) rfl).trans ev5
    have Y319 : zI s318 rQ = zI σ0 rQ := by rw [show zI s318 rQ = zI σ0 rQ from funext fun k => (hTo.k trQ (by decide)).eI hEs318 (by decide) rfl]; exact q0
    have f320 := hφ
    obtain ⟨v321, ev321⟩ : ∃ zz9 : Int32, zI s318 this 17 = zz9 := ⟨_, rfl⟩
    have qv321 : v321.toInt = (zI s318 this 17).toInt := by rw [ev321]
    have b322 : isB v321 := by have q9 : isB (zI s318 this 17) := hT.P (hT.k t_this (by decide)) (by decide); rw [ev321] at q9; exact q9
    have b322t := isB_t b322
    have zz323 : (zI s318 this 14).toInt = v2.toInt := by rw [ev2]
    have zz324 : (zI s318 this 17).toInt = v321.toInt := by rw [ev321]
    have zz325 : (zI s318 this 18).toInt = v5.toInt := by rw [ev5]
    subst hQ9
    exact t_v hx hb hr hlocks hT ⟨by omega, by omega, by omega, by omega, by omega, by omega, (Or.inl (by omega))⟩ dX6_sampleTold_18

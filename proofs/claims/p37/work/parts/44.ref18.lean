/-! The reference over any state: samples -/
theorem sub_fE_gS2 : ∀ t k, gS2 t k = false → fE t k = false := by
  intro t k h
  simp [fE, gS2] at h ⊢ <;> omega
theorem sub_gB_gS2 : ∀ t k, gS2 t k = false → gB t k = false := by
  intro t k h
  simp [gB, gS2] at h ⊢ <;> omega
theorem sub_gH_gS2 : ∀ t k, gS2 t k = false → gH t k = false := by
  intro t k h
  simp [gH, gS2] at h ⊢ <;> omega
theorem sub_gHB_gS2 : ∀ t k, gS2 t k = false → gHB t k = false := by
  intro t k h
  simp [gHB, gS2] at h ⊢ <;> omega
theorem sub_gN_gS2 : ∀ t k, gS2 t k = false → gN t k = false := by
  intro t k h
  simp [gN, gS2] at h ⊢ <;> omega
theorem k1237 : Cond.fieldLink RX6 46 "LiftingSignalModel" "newSamples" "I" ∈ GW := gm 1237 (by decide +kernel) (by decide +kernel)
theorem k1244 : Cond.fieldLink RX6 40 "LiftingSignalModel" "newPlace" "[I" ∈ GW := gm 1244 (by decide +kernel) (by decide +kernel)
theorem k1245 : Cond.fieldLink RX6 43 "LiftingSignalModel" "newValue" "[I" ∈ GW := gm 1245 (by decide +kernel) (by decide +kernel)
theorem dX6_sampleTold_0 : decode cX6_sampleTold 0 = .ok (.aload_n 0, 1) := by decide +kernel
theorem dX6_sampleTold_1 : decode cX6_sampleTold 1 = .ok (.getfield 46, 3) := by decide +kernel
theorem dX6_sampleTold_4 : decode cX6_sampleTold 4 = .ok (.bipush 48, 2) := by decide +kernel
theorem dX6_sampleTold_6 : decode cX6_sampleTold 6 = .ok (.if_icmp .ne 13, 3) := by decide +kernel
theorem dX6_sampleTold_9 : decode cX6_sampleTold 9 = .ok (.aload_n 0, 1) := by decide +kernel
theorem dX6_sampleTold_10 : decode cX6_sampleTold 10 = .ok (.iconst 4, 1) := by decide +kernel
theorem dX6_sampleTold_11 : decode cX6_sampleTold 11 = .ok (.aload_n 0, 1) := by decide +kernel
theorem dX6_sampleTold_12 : decode cX6_sampleTold 12 = .ok (.getfield 88, 3) := by decide +kernel
theorem dX6_sampleTold_15 : decode cX6_sampleTold 15 = .ok (.invokevirtual 128, 3) := by decide +kernel
theorem dX6_sampleTold_18 : decode cX6_sampleTold 18 = .ok (.return_, 1) := by decide +kernel
theorem dX6_sampleTold_19 : decode cX6_sampleTold 19 = .ok (.aload_n 0, 1) := by decide +kernel
theorem dX6_sampleTold_20 : decode cX6_sampleTold 20 = .ok (.aload_n 0, 1) := by decide +kernel
theorem dX6_sampleTold_21 : decode cX6_sampleTold 21 = .ok (.invokevirtual 106, 3) := by decide +kernel
theorem dX6_sampleTold_24 : decode cX6_sampleTold 24 = .ok (.putfield 88, 3) := by decide +kernel
theorem dX6_sampleTold_27 : decode cX6_sampleTold 27 = .ok (.aload_n 0, 1) := by decide +kernel
theorem dX6_sampleTold_28 : decode cX6_sampleTold 28 = .ok (.aload_n 0, 1) := by decide +kernel
theorem dX6_sampleTold_29 : decode cX6_sampleTold 29 = .ok (.getfield 46, 3) := by decide +kernel
theorem dX6_sampleTold_32 : decode cX6_sampleTold 32 = .ok (.ifCond .ne 7, 3) := by decide +kernel
theorem dX6_sampleTold_35 : decode cX6_sampleTold 35 = .ok (.iconst 0, 1) := by decide +kernel
theorem dX6_sampleTold_36 : decode cX6_sampleTold 36 = .ok (.goto 16, 3) := by decide +kernel
theorem dX6_sampleTold_39 : decode cX6_sampleTold 39 = .ok (.aload_n 0, 1) := by decide +kernel
theorem dX6_sampleTold_40 : decode cX6_sampleTold 40 = .ok (.getfield 40, 3) := by decide +kernel
theorem dX6_sampleTold_43 : decode cX6_sampleTold 43 = .ok (.aload_n 0, 1) := by decide +kernel
theorem dX6_sampleTold_44 : decode cX6_sampleTold 44 = .ok (.getfield 46, 3) := by decide +kernel
theorem dX6_sampleTold_47 : decode cX6_sampleTold 47 = .ok (.iconst 1, 1) := by decide +kernel
theorem dX6_sampleTold_48 : decode cX6_sampleTold 48 = .ok (.isub, 1) := by decide +kernel
theorem dX6_sampleTold_49 : decode cX6_sampleTold 49 = .ok (.iaload, 1) := by decide +kernel
theorem dX6_sampleTold_50 : decode cX6_sampleTold 50 = .ok (.iconst 1, 1) := by decide +kernel
theorem dX6_sampleTold_51 : decode cX6_sampleTold 51 = .ok (.iadd, 1) := by decide +kernel
theorem dX6_sampleTold_52 : decode cX6_sampleTold 52 = .ok (.sipush 9999, 3) := by decide +kernel
theorem dX6_sampleTold_55 : decode cX6_sampleTold 55 = .ok (.invokevirtual 170, 3) := by decide +kernel
theorem dX6_sampleTold_58 : decode cX6_sampleTold 58 = .ok (.aload_n 0, 1) := by decide +kernel
theorem dX6_sampleTold_59 : decode cX6_sampleTold 59 = .ok (.getfield 40, 3) := by decide +kernel
theorem dX6_sampleTold_62 : decode cX6_sampleTold 62 = .ok (.aload_n 0, 1) := by decide +kernel
theorem dX6_sampleTold_63 : decode cX6_sampleTold 63 = .ok (.getfield 46, 3) := by decide +kernel
theorem dX6_sampleTold_66 : decode cX6_sampleTold 66 = .ok (.aload_n 0, 1) := by decide +kernel
theorem dX6_sampleTold_67 : decode cX6_sampleTold 67 = .ok (.getfield 121, 3) := by decide +kernel
theorem dX6_sampleTold_70 : decode cX6_sampleTold 70 = .ok (.iastore, 1) := by decide +kernel
theorem dX6_sampleTold_71 : decode cX6_sampleTold 71 = .ok (.aload_n 0, 1) := by decide +kernel
theorem dX6_sampleTold_72 : decode cX6_sampleTold 72 = .ok (.getfield 91, 3) := by decide +kernel
theorem dX6_sampleTold_75 : decode cX6_sampleTold 75 = .ok (.ifCond .ne 16, 3) := by decide +kernel
theorem dX6_sampleTold_78 : decode cX6_sampleTold 78 = .ok (.aload_n 0, 1) := by decide +kernel
theorem dX6_sampleTold_79 : decode cX6_sampleTold 79 = .ok (.invokevirtual 102, 3) := by decide +kernel
theorem dX6_sampleTold_82 : decode cX6_sampleTold 82 = .ok (.bipush 45, 2) := by decide +kernel
theorem dX6_sampleTold_84 : decode cX6_sampleTold 84 = .ok (.if_icmp .ne 7, 3) := by decide +kernel
theorem dX6_sampleTold_87 : decode cX6_sampleTold 87 = .ok (.iconst 1, 1) := by decide +kernel
theorem dX6_sampleTold_88 : decode cX6_sampleTold 88 = .ok (.goto 4, 3) := by decide +kernel
theorem dX6_sampleTold_91 : decode cX6_sampleTold 91 = .ok (.iconst 0, 1) := by decide +kernel
theorem dX6_sampleTold_92 : decode cX6_sampleTold 92 = .ok (.istore_n 1, 1) := by decide +kernel
theorem dX6_sampleTold_93 : decode cX6_sampleTold 93 = .ok (.aload_n 0, 1) := by decide +kernel
theorem dX6_sampleTold_94 : decode cX6_sampleTold 94 = .ok (.dup, 1) := by decide +kernel
theorem dX6_sampleTold_95 : decode cX6_sampleTold 95 = .ok (.getfield 88, 3) := by decide +kernel
theorem dX6_sampleTold_98 : decode cX6_sampleTold 98 = .ok (.iload_n 1, 1) := by decide +kernel
theorem dX6_sampleTold_99 : decode cX6_sampleTold 99 = .ok (.ifCond .eq 7, 3) := by decide +kernel
theorem dX6_sampleTold_102 : decode cX6_sampleTold 102 = .ok (.iconst 1, 1) := by decide +kernel
theorem dX6_sampleTold_103 : decode cX6_sampleTold 103 = .ok (.goto 4, 3) := by decide +kernel
theorem dX6_sampleTold_106 : decode cX6_sampleTold 106 = .ok (.iconst 0, 1) := by decide +kernel
theorem dX6_sampleTold_107 : decode cX6_sampleTold 107 = .ok (.iadd, 1) := by decide +kernel
theorem dX6_sampleTold_108 : decode cX6_sampleTold 108 = .ok (.putfield 88, 3) := by decide +kernel
theorem dX6_sampleTold_111 : decode cX6_sampleTold 111 = .ok (.aload_n 0, 1) := by decide +kernel
theorem dX6_sampleTold_112 : decode cX6_sampleTold 112 = .ok (.iconst 0, 1) := by decide +kernel
theorem dX6_sampleTold_113 : decode cX6_sampleTold 113 = .ok (.sipush 9999, 3) := by decide +kernel
theorem dX6_sampleTold_116 : decode cX6_sampleTold 116 = .ok (.invokevirtual 170, 3) := by decide +kernel
theorem dX6_sampleTold_119 : decode cX6_sampleTold 119 = .ok (.aload_n 0, 1) := by decide +kernel
theorem dX6_sampleTold_120 : decode cX6_sampleTold 120 = .ok (.getfield 43, 3) := by decide +kernel
theorem dX6_sampleTold_123 : decode cX6_sampleTold 123 = .ok (.aload_n 0, 1) := by decide +kernel
theorem dX6_sampleTold_124 : decode cX6_sampleTold 124 = .ok (.getfield 46, 3) := by decide +kernel
theorem dX6_sampleTold_127 : decode cX6_sampleTold 127 = .ok (.iload_n 1, 1) := by decide +kernel
theorem dX6_sampleTold_128 : decode cX6_sampleTold 128 = .ok (.ifCond .eq 11, 3) := by decide +kernel
theorem dX6_sampleTold_131 : decode cX6_sampleTold 131 = .ok (.aload_n 0, 1) := by decide +kernel
theorem dX6_sampleTold_132 : decode cX6_sampleTold 132 = .ok (.getfield 121, 3) := by decide +kernel
theorem dX6_sampleTold_135 : decode cX6_sampleTold 135 = .ok (.ineg, 1) := by decide +kernel
theorem dX6_sampleTold_136 : decode cX6_sampleTold 136 = .ok (.goto 7, 3) := by decide +kernel
theorem dX6_sampleTold_139 : decode cX6_sampleTold 139 = .ok (.aload_n 0, 1) := by decide +kernel
theorem dX6_sampleTold_140 : decode cX6_sampleTold 140 = .ok (.getfield 121, 3) := by decide +kernel
theorem dX6_sampleTold_143 : decode cX6_sampleTold 143 = .ok (.iastore, 1) := by decide +kernel
theorem dX6_sampleTold_144 : decode cX6_sampleTold 144 = .ok (.aload_n 0, 1) := by decide +kernel
theorem dX6_sampleTold_145 : decode cX6_sampleTold 145 = .ok (.invokevirtual 173, 3) := by decide +kernel
theorem dX6_sampleTold_148 : decode cX6_sampleTold 148 = .ok (.aload_n 0, 1) := by decide +kernel
theorem dX6_sampleTold_149 : decode cX6_sampleTold 149 = .ok (.dup, 1) := by decide +kernel
theorem dX6_sampleTold_150 : decode cX6_sampleTold 150 = .ok (.getfield 46, 3) := by decide +kernel
theorem dX6_sampleTold_153 : decode cX6_sampleTold 153 = .ok (.iconst 1, 1) := by decide +kernel
theorem dX6_sampleTold_154 : decode cX6_sampleTold 154 = .ok (.iadd, 1) := by decide +kernel
theorem dX6_sampleTold_155 : decode cX6_sampleTold 155 = .ok (.putfield 46, 3) := by decide +kernel
theorem dX6_sampleTold_158 : decode cX6_sampleTold 158 = .ok (.return_, 1) := by decide +kernel
set_option maxHeartbeats 40000000 in
set_option maxRecDepth 100000 in
theorem X6_sampleTold (l : Launch) (κ : Kt) (σ0 : Gh) (this : Nat) (t_this : zk σ0 this 20) (h0 : 0 ≤ (zI σ0 this 13).toInt) (h1 : (zI σ0 this 13).toInt ≤ 700) (h2 : 0 ≤ (zI σ0 this 14).toInt) (h3 : (zI σ0 this 14).toInt ≤ 702) (h4 : (zI σ0 this 14).toInt ≤ (zI σ0 this 13).toInt) (h5 : 0 ≤ (zI σ0 this 18).toInt) (h6 : (zI σ0 this 18).toInt ≤ 48) (h7 : PL (zI σ0 this 18).toInt.toNat (zI σ0 (kR κ this 25))) : TC l yX6_sampleTold cX6_sampleTold 2 none 2 49 [.ref this] κ σ0 (tqv κ gS2 σ0 (fun (τ : Gh) => ((zI τ this 17).toInt = 1 ∨ (zI σ0 this 14).toInt < (zI τ this 14).toInt) ∧ ((zI σ0 this 14).toInt ≤ (zI τ this 14).toInt) ∧ ((zI τ this 14).toInt ≤ (zI σ0 this 13).toInt + 1) ∧ ((zI τ this 17).toInt = 1 ∨ (zI τ this 14).toInt ≤ (zI σ0 this 13).toInt) ∧ (0 ≤ (zI τ this 18).toInt) ∧ ((zI τ this 18).toInt ≤ 48) ∧ ((zI τ this 17).toInt = 1 ∨ PL (zI τ this 18).toInt.toNat (zI τ (kR κ this 25))))) := by
  refine TC.of gS2 (by decide +kernel) (Nat.le_of_ble_eq_true rfl) ?_
  intro p e s m below meth c ls hcs hK hX hT hl
  obtain ⟨hx, hb, hr, hml, hown, hg, hlocks, hin⟩ := hcs
  have hown : s.vm.findClass RX6 = some m.cls := hown
  have hl : lv_has ls 2 [(0, .ref this)] := hl
  have hT0 := hT
  have n0 : (0 : Int32).toInt = 0 := by decide
  have n1 : (1 : Int32).toInt = 1 := by decide
  have n4 : (4 : Int32).toInt = 4 := by decide
  have n45 : (45 : Int32).toInt = 45 := by decide
  have n48 : (48 : Int32).toInt = 48 := by decide
  have n9999 : (9999 : Int32).toInt = 9999 := by decide
  generalize hQ9 : tQ _ _ _ _ _ _ = Q9
  obtain ⟨rQ, erQ⟩ : ∃ z, kR κ this 25 = z := ⟨_, rfl⟩
  have trQ : zk σ0 rQ 27 := by rw [← erQ]; exact hT0.ref t_this (by decide) (by decide) (by decide)
  rw [erQ] at h7
  have q0 : zI σ0 rQ = zI σ0 rQ := rfl
  obtain ⟨v1, ev1⟩ : ∃ zz9 : Int32, zI σ0 this 13 = zz9 := ⟨_, rfl⟩
  have qv1 : v1.toInt = (zI σ0 this 13).toInt := by rw [ev1]
  obtain ⟨v2, ev2⟩ : ∃ zz9 : Int32, zI σ0 this 14 = zz9 := ⟨_, rfl⟩
  have qv2 : v2.toInt = (zI σ0 this 14).toInt := by rw [ev2]
  obtain ⟨v3, ev3⟩ : ∃ zz9 : Int32, zI σ0 this 17 = zz9 := ⟨_, rfl⟩
  have qv3 : v3.toInt = (zI σ0 this 17).toInt := by rw [ev3]
  have b4 : isB v3 := by have q9 : isB (zI σ0 this 17) := hT.P (hT.k t_this (by decide)) (by decide); rw [ev3] at q9; exact q9
  have b4t := isB_t b4
  obtain ⟨v5, ev5⟩ : ∃ zz9 : Int32, zI σ0 this 18 = zz9 := ⟨_, rfl⟩
  have qv5 : v5.toInt = (zI σ0 this 18).toInt := by rw [ev5]
  refine lv_aload_n hx hb dX6_sampleTold_0 rfl (lv_at hl 0 rfl) ?_
  refine va_get (D := κ.1) (ci := 6) (v := .int (zI σ0 this 18)) (C := RX6) (T := TX6) (N := 27) hx hb hg inX6 hown hK (hT.o20 (hT.k t_this (by decide))).one 0 rfl rfl 18 (by decide) (hg _ k1237) (fun _ h9 => h9) rfl dX6_sampleTold_1 ?_
  rw [ev5]
  refine lv_bipush (v := 48) hx hb dX6_sampleTold_4 (by decide) ?_
  refine lv_icmp_ne (tgt := 19) hx hb dX6_sampleTold_6 (by decide) (fun c9 => ?_) (fun c9 => ?_)
  · have c1 := gi_ne c9
    have loop58 : ∀ (n9 : Nat)  (u : Int32) (bb : Int32) (vv : Int32) (H : Heap) (locs : List Loc) (sg : Gh) (ls : Array Slot), TS κ gS2 σ0 sg s H locs → (zI sg this 18 = v5) → (zI sg this 14 = u) → (zI sg this 17 = bb) → (zI sg this 24 = vv) → ((zI σ0 this 14).toInt ≤ u.toInt) → (u.toInt ≤ (zI σ0 this 13).toInt) → (bb.toInt = 1 ∨ (0 ≤ vv.toInt ∧ vv.toInt ≤ 9999 ∧ ((zI σ0 this 18).toInt = 0 ∨ (zI σ0 rQ ((zI σ0 this 18).toInt.toNat - 1)).toInt < vv.toInt))) → (zI sg rQ = zI σ0 rQ) → lv_has ls 2 [(0, .ref this)] → ((0 : Int)) < n9 → tW p l e 2 49 κ s m #[.ref this] below meth c H locs Q9 (F0 m 58 ls []) := by
      intro n9
      induction n9 with
      | zero =>
        intro u bb vv H locs sg ls hT kthis_18 kthis_14 kthis_17 kthis_24 p1 p2 p3 q1 hl hm9
        exfalso
        omega
      | succ n9 ih9 =>
        have ih58 := ih9
        clear ih9
        intro u bb vv H locs s6 ls hT kthis_18 kthis_14 kthis_17 kthis_24 p1 p2 p3 q1 hl hm9
        have b7 : isB (zI s6 this 17) := hT.P (hT.k t_this (by decide)) (by decide)
        rw [kthis_17] at b7
        have b7t := isB_t b7
        refine lv_aload_n hx hb dX6_sampleTold_58 rfl (lv_at hl 0 rfl) ?_
        refine va_get (D := κ.1) (ci := 6) (v := .ref (kR κ this 25)) (C := RX6) (T := TX6) (N := 27) hx hb hg inX6 hown hK (hT.o20 (hT.k t_this (by decide))).one 0 rfl rfl 25 (by decide) (hg _ k1244) (fun _ h9 => h9) rfl dX6_sampleTold_59 ?_
        rw [erQ]
        refine lv_aload_n hx hb dX6_sampleTold_62 rfl (lv_at hl 0 rfl) ?_
        refine va_get (D := κ.1) (ci := 6) (v := .int (zI s6 this 18)) (C := RX6) (T := TX6) (N := 27) hx hb hg inX6 hown hK (hT.o20 (hT.k t_this (by decide))).one 0 rfl rfl 18 (by decide) (hg _ k1237) (fun _ h9 => h9) rfl dX6_sampleTold_63 ?_
        rw [kthis_18]
        refine lv_aload_n hx hb dX6_sampleTold_66 rfl (lv_at hl 0 rfl) ?_
        refine va_get (D := κ.1) (ci := 6) (v := .int (zI s6 this 24)) (C := RX6) (T := TX6) (N := 27) hx hb hg inX6 hown hK (hT.o20 (hT.k t_this (by decide))).one 0 rfl rfl 24 (by decide) (hg _ k1243) (fun _ h9 => h9) rfl dX6_sampleTold_67 ?_
        rw [kthis_24]
        have hTo := hT
        refine tasti (n := 48) hx hb hK hT (hT.k trQ (by decide)) ⟨by decide, by decide⟩ (fun _ _ _ => rfl) (fun _ _ => trivial) (fun _ => rfl) (by omega) (by omega) dX6_sampleTold_70 (fun H locs s8 hus8 hT => ?_)
        have kthis_18 : zI s8 this 18 = v5 := (zput_o hus8 (Or.inl ((hTo.k t_this (by decide)).ne (hTo.k trQ (by decide)) (by decide)))).trans kthis_18
        have kthis_14 : zI s8 this 14 = u := (zput_o hus8 (Or.inl ((hTo.k t_this (by decide)).ne (hTo.k trQ (by decide)) (by decide)))).trans kthis_14
        have kthis_17 : zI s8 this 17 = bb := (zput_o hus8 (Or.inl ((hTo.k t_this (by decide)).ne (hTo.k trQ (by decide)) (by decide)))).trans kthis_17
        have kthis_24 : zI s8 this 24 = vv := (zput_o hus8 (Or.inl ((hTo.k t_this (by decide)).ne (hTo.k trQ (by decide)) (by decide)))).trans kthis_24
        have Y9 : bb.toInt ≠ 1 → PL (ix v5 + 1) (zI s8 rQ) := fun q9 => PL.snoc (σ := s6) (by have z9 := h7; rw [show (zI σ0 this 18).toInt.toNat = ix v5 from by unfold ix; omega] at z9; rw [q1]; exact z9) hus8 ⟨by omega, by omega⟩ (by rw [q1, show ix v5 - 1 = (zI σ0 this 18).toInt.toNat - 1 from by unfold ix; omega, show ix v5 = (zI σ0 this 18).toInt.toNat from by unfold ix; omega]; omega)
        clear p3
        refine lv_aload_n hx hb dX6_sampleTold_71 rfl (lv_at hl 0 rfl) ?_
        refine va_get (D := κ.1) (ci := 6) (v := .int (zI s8 this 17)) (C := RX6) (T := TX6) (N := 27) hx hb hg inX6 hown hK (hT.o20 (hT.k t_this (by decide))).one 0 rfl rfl 17 (by decide) (hg _ k1236) (fun _ h9 => h9) rfl dX6_sampleTold_72 ?_
        rw [kthis_17]
        refine lv_if_ne (tgt := 91) hx hb dX6_sampleTold_75 (by decide) (fun c9 => ?_) (fun c9 => ?_)
        · have c2 := gi_ne c9
          refine lv_iconst (v := 0) hx hb dX6_sampleTold_91 (by decide) ?_
          refine lv_istore_n (lv' := [(1, .int 0), (0, .ref this)]) hx hb dX6_sampleTold_92 rfl hl (by decide) rfl (fun ls hl => ?_)
          refine lv_aload_n hx hb dX6_sampleTold_93 rfl (lv_at hl 1 rfl) ?_
          refine lv_dup hx hb dX6_sampleTold_94 rfl ?_
          refine va_get (D := κ.1) (ci := 6) (v := .int (zI s8 this 14)) (C := RX6) (T := TX6) (N := 27) hx hb hg inX6 hown hK (hT.o20 (hT.k t_this (by decide))).one 0 rfl rfl 14 (by decide) (hg _ k1233) (fun _ h9 => h9) rfl dX6_sampleTold_95 ?_
          rw [kthis_14]
          refine lv_iload_n hx hb dX6_sampleTold_98 rfl (lv_at hl 0 rfl) ?_
          refine lv_if_eq (tgt := 106) hx hb dX6_sampleTold_99 (by decide) (fun _ => ?_) (fun c9 => absurd (by decide) c9)
          refine lv_iconst (v := 0) hx hb dX6_sampleTold_106 (by decide) ?_
          refine lv_iadd hx hb dX6_sampleTold_107 ?_
          first | refine g_add (by omega) (by omega) (fun t10 ht10 => ?_) | refine lv_topi (fun t10 ht10 => ?_)
          have hTo := hT
          refine pf20_14 hx hb hg hown hK hT (hT.k t_this (by decide)) rfl (hg _ k1233) dX6_sampleTold_108 (fun H locs s11 hus11 hT => ?_)
          have kthis_18 : zI s11 this 18 = v5 := (zput_o hus11 (Or.inr (by decide))).trans kthis_18
          have kthis_17 : zI s11 this 17 = bb := (zput_o hus11 (Or.inr (by decide))).trans kthis_17
          have kthis_24 : zI s11 this 24 = vv := (zput_o hus11 (Or.inr (by decide))).trans kthis_24
          have Y12 : bb.toInt ≠ 1 → PL (ix v5 + 1) (zI s11 rQ) := by first | (rw [show zI s11 rQ = zI s8 rQ from zput_Io hus11 ((hTo.k trQ (by decide)).ne (hTo.k t_this (by decide)) (by decide))]; exact Y9) | rw [show zI s11 rQ = zI s8 rQ from zput_Io hus11 ((hTo.k trQ (by decide)).ne (hTo.k t_this (by decide)) (by decide))]
          have e13 : zI s11 this 14 = t10 := zput_at hus11
          refine lv_aload_n hx hb dX6_sampleTold_111 rfl (lv_at hl 1 rfl) ?_
          refine lv_iconst (v := 0) hx hb dX6_sampleTold_112 (by decide) ?_
          refine lv_sipush (v := 9999) hx hb dX6_sampleTold_113 (by decide) ?_
          have qq14 : (zI s11 this 13).toInt = v1.toInt := by rw [(hT.eI t_this (by decide) rfl ev1)]
          have qq15 : (zI s11 this 14).toInt = t10.toInt := by rw [e13]
          have qq16 : (zI s11 this 17).toInt = bb.toInt := by rw [kthis_17]
          have qq17 : (zI s11 this 24).toInt = vv.toInt := by rw [kthis_24]
          have hTo := hT
          refine tVv (n := 2) (As := [.int 0, .int 9999]) (rest := []) hx hb hml hown hg hT hK hX (X6_number l κ s11 this 0 9999  (hT.k t_this (by decide)) (by omega) (by omega) (by omega) (by omega)) sub_gN_gS2 (mwV k1384 k1386 k48 k92 k1387) ⟨rfl, by decide, by decide, by decide +kernel⟩ ⟨(Nat.le_of_ble_eq_true rfl), (Nat.le_of_ble_eq_true rfl)⟩ (hT.o20 (hT.k t_this (by decide))) rfl rfl hl.1 rfl (Nat.le_of_ble_eq_true rfl) dX6_sampleTold_116 zroom.rf (fun s19 H locs hφ hEs19 hT => ?_)
          have kthis_18 : zI s19 this 18 = v5 := ((hTo.k t_this (by decide)).eI hEs19 (by decide) rfl).trans kthis_18
          have Y20 : bb.toInt ≠ 1 → PL (ix v5 + 1) (zI s19 rQ) := by first | (rw [show zI s19 rQ = zI s11 rQ from funext fun k => (hTo.k trQ (by decide)).eI hEs19 (by decide) rfl]; exact Y12) | rw [show zI s19 rQ = zI s11 rQ from funext fun k => (hTo.k trQ (by decide)).eI hEs19 (by decide) rfl]
          obtain ⟨f21, f22, f23⟩ := hφ
          have G24 : (zI s19 this 14).toInt ≤ (zI σ0 this 13).toInt := by omega
          have G25 : (zI s19 this 17).toInt = 1 ∨ (zI s11 this 17).toInt = 0 := by omega
          clear f22 f23
          obtain ⟨v26, ev26⟩ : ∃ zz9 : Int32, zI s19 this 14 = zz9 := ⟨_, rfl⟩
          have qv26 : v26.toInt = (zI s19 this 14).toInt := by rw [ev26]
          obtain ⟨v27, ev27⟩ : ∃ zz9 : Int32, zI s19 this 17 = zz9 := ⟨_, rfl⟩
          have qv27 : v27.toInt = (zI s19 this 17).toInt := by rw [ev27]
          have b28 : isB v27 := by have q9 : isB (zI s19 this 17) := hT.P (hT.k t_this (by decide)) (by decide); rw [ev27] at q9; exact q9
          have b28t := isB_t b28
          obtain ⟨v29, ev29⟩ : ∃ zz9 : Int32, zI s19 this 24 = zz9 := ⟨_, rfl⟩
          have qv29 : v29.toInt = (zI s19 this 24).toInt := by rw [ev29]
          refine lv_aload_n hx hb dX6_sampleTold_119 rfl (lv_at hl 1 rfl) ?_
          obtain ⟨r30, er30⟩ : ∃ z, kR κ this 26 = z := ⟨_, rfl⟩
          have tr30 : zk σ0 r30 28 := by rw [← er30]; exact hT0.ref t_this (by decide) (by decide) (by decide)
          refine va_get (D := κ.1) (ci := 6) (v := .ref (kR κ this 26)) (C := RX6) (T := TX6) (N := 27) hx hb hg inX6 hown hK (hT.o20 (hT.k t_this (by decide))).one 0 rfl rfl 26 (by decide) (hg _ k1245) (fun _ h9 => h9) rfl dX6_sampleTold_120 ?_
          rw [er30]
          refine lv_aload_n hx hb dX6_sampleTold_123 rfl (lv_at hl 1 rfl) ?_
          refine va_get (D := κ.1) (ci := 6) (v := .int (zI s19 this 18)) (C := RX6) (T := TX6) (N := 27) hx hb hg inX6 hown hK (hT.o20 (hT.k t_this (by decide))).one 0 rfl rfl 18 (by decide) (hg _ k1237) (fun _ h9 => h9) rfl dX6_sampleTold_124 ?_
          rw [kthis_18]
          refine lv_iload_n hx hb dX6_sampleTold_127 rfl (lv_at hl 0 rfl) ?_
          refine lv_if_eq (tgt := 139) hx hb dX6_sampleTold_128 (by decide) (fun _ => ?_) (fun c9 => absurd (by decide) c9)
          refine lv_aload_n hx hb dX6_sampleTold_139 rfl (lv_at hl 1 rfl) ?_
          refine va_get (D := κ.1) (ci := 6) (v := .int (zI s19 this 24)) (C := RX6) (T := TX6) (N := 27) hx hb hg inX6 hown hK (hT.o20 (hT.k t_this (by decide))).one 0 rfl rfl 24 (by decide) (hg _ k1243) (fun _ h9 => h9) rfl dX6_sampleTold_140 ?_
          rw [ev29]
          have hTo := hT
          refine tasti (n := 48) hx hb hK hT (hT.k tr30 (by decide)) ⟨by decide, by decide⟩ (fun _ _ _ => rfl) (fun _ _ => trivial) (fun _ => rfl) (by omega) (by omega) dX6_sampleTold_143 (fun H locs s31 hus31 hT => ?_)
          have kthis_18 : zI s31 this 18 = v5 := (zput_o hus31 (Or.inl ((hTo.k t_this (by decide)).ne (hTo.k tr30 (by decide)) (by decide)))).trans kthis_18
          have ev26 : zI s31 this 14 = v26 := (zput_o hus31 (Or.inl ((hTo.k t_this (by decide)).ne (hTo.k tr30 (by decide)) (by decide)))).trans ev26
          have ev27 : zI s31 this 17 = v27 := (zput_o hus31 (Or.inl ((hTo.k t_this (by decide)).ne (hTo.k tr30 (by decide)) (by decide)))).trans ev27
          have ev29 : zI s31 this 24 = v29 := (zput_o hus31 (Or.inl ((hTo.k t_this (by decide)).ne (hTo.k tr30 (by decide)) (by decide)))).trans ev29
          have Y32 : bb.toInt ≠ 1 → PL (ix v5 + 1) (zI s31 rQ) := by first | (rw [show zI s31 rQ = zI s19 rQ from zput_Io hus31 ((hTo.k trQ (by decide)).ne (hTo.k tr30 (by decide)) (by decide))]; exact Y20) | rw [show zI s31 rQ = zI s19 rQ from zput_Io hus31 ((hTo.k trQ (by decide)).ne (hTo.k tr30 (by decide)) (by decide))]
          refine lv_aload_n hx hb dX6_sampleTold_144 rfl (lv_at hl 1 rfl) ?_
          have qq33 : (zI s31 this 13).toInt = v1.toInt := by rw [(hT.eI t_this (by decide) rfl ev1)]
          have qq34 : (zI s31 this 14).toInt = v26.toInt := by rw [ev26]
          have qq35 : (zI s31 this 17).toInt = v27.toInt := by rw [ev27]
          have hTo := hT
          refine tVv (n := 0) (As := []) (rest := []) hx hb hml hown hg hT hK hX (X6_ends l κ s31 this  (hT.k t_this (by decide)) (by omega) (by omega) (by omega) (by omega)) sub_gHB_gS2 (mwV k1390 k1392 k49 k92 k1393) ⟨rfl, by decide, by decide, by decide +kernel⟩ ⟨(Nat.le_of_ble_eq_true rfl), (Nat.le_of_ble_eq_true rfl)⟩ (hT.o20 (hT.k t_this (by decide))) rfl rfl hl.1 rfl (Nat.le_of_ble_eq_true rfl) dX6_sampleTold_145 zroom.rf (fun s37 H locs hφ hEs37 hT => ?_)
          have kthis_18 : zI s37 this 18 = v5 := ((hTo.k t_this (by decide)).eI hEs37 (by decide) rfl).trans kthis_18
          have ev29 : zI s37 this 24 = v29 := ((hTo.k t_this (by decide)).eI hEs37 (by decide) rfl).trans ev29
          have Y38 : bb.toInt ≠ 1 → PL (ix v5 + 1) (zI s37 rQ) := by first | (rw [show zI s37 rQ = zI s31 rQ from funext fun k => (hTo.k trQ (by decide)).eI hEs37 (by decide) rfl]; exact Y32) | rw [show zI s37 rQ = zI s31 rQ from funext fun k => (hTo.k trQ (by decide)).eI hEs37 (by decide) rfl]
          obtain ⟨f39, f40, f41⟩ := hφ
          obtain ⟨v42, ev42⟩ : ∃ zz9 : Int32, zI s37 this 14 = zz9 := ⟨_, rfl⟩
          have qv42 : v42.toInt = (zI s37 this 14).toInt := by rw [ev42]
          obtain ⟨v43, ev43⟩ : ∃ zz9 : Int32, zI s37 this 17 = zz9 := ⟨_, rfl⟩
          have qv43 : v43.toInt = (zI s37 this 17).toInt := by rw [ev43]
          have b44 : isB v43 := by have q9 : isB (zI s37 this 17) := hT.P (hT.k t_this (by decide)) (by decide); rw [ev43] at q9; exact q9
          have b44t := isB_t b44
          refine lv_aload_n hx hb dX6_sampleTold_148 rfl (lv_at hl 1 rfl) ?_
          refine lv_dup hx hb dX6_sampleTold_149 rfl ?_
          refine va_get (D := κ.1) (ci := 6) (v := .int (zI s37 this 18)) (C := RX6) (T := TX6) (N := 27) hx hb hg inX6 hown hK (hT.o20 (hT.k t_this (by decide))).one 0 rfl rfl 18 (by decide) (hg _ k1237) (fun _ h9 => h9) rfl dX6_sampleTold_150 ?_
          rw [kthis_18]
          refine lv_iconst (v := 1) hx hb dX6_sampleTold_153 (by decide) ?_
          refine lv_iadd hx hb dX6_sampleTold_154 ?_
          first | refine g_add (by omega) (by omega) (fun t45 ht45 => ?_) | refine lv_topi (fun t45 ht45 => ?_)
          have hTo := hT
          refine pf20_18 hx hb hg hown hK hT (hT.k t_this (by decide)) rfl (hg _ k1237) dX6_sampleTold_155 (fun H locs s46 hus46 hT => ?_)
          have ev29 : zI s46 this 24 = v29 := (zput_o hus46 (Or.inr (by decide))).trans ev29
          have ev42 : zI s46 this 14 = v42 := (zput_o hus46 (Or.inr (by decide))).trans ev42
          have ev43 : zI s46 this 17 = v43 := (zput_o hus46 (Or.inr (by decide))).trans ev43
          have Y47 : bb.toInt ≠ 1 → PL (ix v5 + 1) (zI s46 rQ) := by first | (rw [show zI s46 rQ = zI s37 rQ from zput_Io hus46 ((hTo.k trQ (by decide)).ne (hTo.k t_this (by decide)) (by decide))]; exact Y38) | rw [show zI s46 rQ = zI s37 rQ from zput_Io hus46 ((hTo.k trQ (by decide)).ne (hTo.k t_this (by decide)) (by decide))]
          have e48 : zI s46 this 18 = t45 := zput_at hus46
          have zz49 : (zI s46 this 14).toInt = v42.toInt := by rw [ev42]
          have zz50 : (zI s46 this 17).toInt = v43.toInt := by rw [ev43]
          have zz51 : (zI s46 this 18).toInt = t45.toInt := by rw [e48]
          subst hQ9
          exact t_v hx hb hr hlocks hT ⟨by omega, by omega, by omega, by omega, by omega, by omega, (Classical.em ((zI s46 this 17).toInt = 1)).elim Or.inl (fun q8 => Or.inr (by rw [erQ, show (zI s46 this 18).toInt.toNat = ix v5 + 1 from by unfold ix; omega]; exact Y47 (by omega)))⟩ dX6_sampleTold_158
        · have c3 := gi_eq c9
          refine lv_aload_n hx hb dX6_sampleTold_78 rfl (lv_at hl 0 rfl) ?_
          have qq52 : (zI s8 this 13).toInt = v1.toInt := by rw [(hT.eI t_this (by decide) rfl ev1)]
          have qq53 : (zI s8 this 14).toInt = u.toInt := by rw [kthis_14]
          have qq54 : (zI s8 this 17).toInt = bb.toInt := by rw [kthis_17]
          have hTo := hT
          refine tVi (n := 0) (As := []) (rest := []) hx hb hml hown hg hT hK hX (X6_here l κ s8 this  (hT.k t_this (by decide)) (by omega) (by omega) (by omega) (by omega)) sub_gH_gS2 (mwV k1345 k1347 k42 k92 k1348) ⟨rfl, by decide, by decide, by decide +kernel⟩ ⟨(Nat.le_of_ble_eq_true rfl), (Nat.le_of_ble_eq_true rfl)⟩ (hT.o20 (hT.k t_this (by decide))) rfl rfl hl.1 rfl (Nat.le_of_ble_eq_true rfl) dX6_sampleTold_79 zroom.rf (fun x55 s56 H locs hφ hEs56 hT => ?_)
          have kthis_18 : zI s56 this 18 = v5 := ((hTo.k t_this (by decide)).eI hEs56 (by decide) rfl).trans kthis_18
          have kthis_17 : zI s56 this 17 = bb := ((hTo.k t_this (by decide)).eI hEs56 (by decide) rfl).trans kthis_17
          have kthis_24 : zI s56 this 24 = vv := ((hTo.k t_this (by decide)).eI hEs56 (by decide) rfl).trans kthis_24
          have Y57 : bb.toInt ≠ 1 → PL (ix v5 + 1) (zI s56 rQ) := by first | (rw [show zI s56 rQ = zI s8 rQ from funext fun k => (hTo.k trQ (by decide)).eI hEs56 (by decide) rfl]; exact Y9) | rw [show zI s56 rQ = zI s8 rQ from funext fun k => (hTo.k trQ (by decide)).eI hEs56 (by decide) rfl]
          obtain ⟨f58, f59, f60⟩ := hφ
          have G61 : (zI s56 this 14).toInt ≤ (zI σ0 this 13).toInt := by omega
          clear f59
          obtain ⟨v62, ev62⟩ : ∃ zz9 : Int32, zI s56 this 14 = zz9 := ⟨_, rfl⟩
          have qv62 : v62.toInt = (zI s56 this 14).toInt := by rw [ev62]
          refine lv_bipush (v := 45) hx hb dX6_sampleTold_82 (by decide) ?_
          refine lv_icmp_ne (tgt := 91) hx hb dX6_sampleTold_84 (by decide) (fun c9 => ?_) (fun c9 => ?_)
          · have c4 := gi_ne c9
            refine lv_iconst (v := 0) hx hb dX6_sampleTold_91 (by decide) ?_
            refine lv_istore_n (lv' := [(1, .int 0), (0, .ref this)]) hx hb dX6_sampleTold_92 rfl hl (by decide) rfl (fun ls hl => ?_)
            refine lv_aload_n hx hb dX6_sampleTold_93 rfl (lv_at hl 1 rfl) ?_
            refine lv_dup hx hb dX6_sampleTold_94 rfl ?_
            refine va_get (D := κ.1) (ci := 6) (v := .int (zI s56 this 14)) (C := RX6) (T := TX6) (N := 27) hx hb hg inX6 hown hK (hT.o20 (hT.k t_this (by decide))).one 0 rfl rfl 14 (by decide) (hg _ k1233) (fun _ h9 => h9) rfl dX6_sampleTold_95 ?_
            rw [ev62]
            refine lv_iload_n hx hb dX6_sampleTold_98 rfl (lv_at hl 0 rfl) ?_
            refine lv_if_eq (tgt := 106) hx hb dX6_sampleTold_99 (by decide) (fun _ => ?_) (fun c9 => absurd (by decide) c9)
            refine lv_iconst (v := 0) hx hb dX6_sampleTold_106 (by decide) ?_
            refine lv_iadd hx hb dX6_sampleTold_107 ?_
            first | refine g_add (by omega) (by omega) (fun t63 ht63 => ?_) | refine lv_topi (fun t63 ht63 => ?_)
            have hTo := hT
            refine pf20_14 hx hb hg hown hK hT (hT.k t_this (by decide)) rfl (hg _ k1233) dX6_sampleTold_108 (fun H locs s64 hus64 hT => ?_)
            have kthis_18 : zI s64 this 18 = v5 := (zput_o hus64 (Or.inr (by decide))).trans kthis_18
            have kthis_17 : zI s64 this 17 = bb := (zput_o hus64 (Or.inr (by decide))).trans kthis_17
            have kthis_24 : zI s64 this 24 = vv := (zput_o hus64 (Or.inr (by decide))).trans kthis_24
            have Y65 : bb.toInt ≠ 1 → PL (ix v5 + 1) (zI s64 rQ) := by first | (rw [show zI s64 rQ = zI s56 rQ from zput_Io hus64 ((hTo.k trQ (by decide)).ne (hTo.k t_this (by decide)) (by decide))]; exact Y57) | rw [show zI s64 rQ = zI s56 rQ from zput_Io hus64 ((hTo.k trQ (by decide)).ne (hTo.k t_this (by decide)) (by decide))]
            have e66 : zI s64 this 14 = t63 := zput_at hus64
            refine lv_aload_n hx hb dX6_sampleTold_111 rfl (lv_at hl 1 rfl) ?_
            refine lv_iconst (v := 0) hx hb dX6_sampleTold_112 (by decide) ?_
            refine lv_sipush (v := 9999) hx hb dX6_sampleTold_113 (by decide) ?_
            have qq67 : (zI s64 this 13).toInt = v1.toInt := by rw [(hT.eI t_this (by decide) rfl ev1)]
            have qq68 : (zI s64 this 14).toInt = t63.toInt := by rw [e66]
            have qq69 : (zI s64 this 17).toInt = bb.toInt := by rw [kthis_17]
            have qq70 : (zI s64 this 24).toInt = vv.toInt := by rw [kthis_24]
            have hTo := hT
            refine tVv (n := 2) (As := [.int 0, .int 9999]) (rest := []) hx hb hml hown hg hT hK hX (X6_number l κ s64 this 0 9999  (hT.k t_this (by decide)) (by omega) (by omega) (by omega) (by omega)) sub_gN_gS2 (mwV k1384 k1386 k48 k92 k1387) ⟨rfl, by decide, by decide, by decide +kernel⟩ ⟨(Nat.le_of_ble_eq_true rfl), (Nat.le_of_ble_eq_true rfl)⟩ (hT.o20 (hT.k t_this (by decide))) rfl rfl hl.1 rfl (Nat.le_of_ble_eq_true rfl) dX6_sampleTold_116 zroom.rf (fun s72 H locs hφ hEs72 hT => ?_)
            have kthis_18 : zI s72 this 18 = v5 := ((hTo.k t_this (by decide)).eI hEs72 (by decide) rfl).trans kthis_18
            have Y73 : bb.toInt ≠ 1 → PL (ix v5 + 1) (zI s72 rQ) := by first | (rw [show zI s72 rQ = zI s64 rQ from funext fun k => (hTo.k trQ (by decide)).eI hEs72 (by decide) rfl]; exact Y65) | rw [show zI s72 rQ = zI s64 rQ from funext fun k => (hTo.k trQ (by decide)).eI hEs72 (by decide) rfl]
            obtain ⟨f74, f75, f76⟩ := hφ
            have G77 : (zI s72 this 14).toInt ≤ (zI σ0 this 13).toInt := by omega
            have G78 : (zI s72 this 17).toInt = 1 ∨ (zI s64 this 17).toInt = 0 := by omega
            clear f75 f76
            obtain ⟨v79, ev79⟩ : ∃ zz9 : Int32, zI s72 this 14 = zz9 := ⟨_, rfl⟩
            have qv79 : v79.toInt = (zI s72 this 14).toInt := by rw [ev79]
            obtain ⟨v80, ev80⟩ : ∃ zz9 : Int32, zI s72 this 17 = zz9 := ⟨_, rfl⟩
            have qv80 : v80.toInt = (zI s72 this 17).toInt := by rw [ev80]
            have b81 : isB v80 := by have q9 : isB (zI s72 this 17) := hT.P (hT.k t_this (by decide)) (by decide); rw [ev80] at q9; exact q9
            have b81t := isB_t b81
            obtain ⟨v82, ev82⟩ : ∃ zz9 : Int32, zI s72 this 24 = zz9 := ⟨_, rfl⟩
            have qv82 : v82.toInt = (zI s72 this 24).toInt := by rw [ev82]
            refine lv_aload_n hx hb dX6_sampleTold_119 rfl (lv_at hl 1 rfl) ?_
            obtain ⟨r83, er83⟩ : ∃ z, kR κ this 26 = z := ⟨_, rfl⟩
            have tr83 : zk σ0 r83 28 := by rw [← er83]; exact hT0.ref t_this (by decide) (by decide) (by decide)
            refine va_get (D := κ.1) (ci := 6) (v := .ref (kR κ this 26)) (C := RX6) (T := TX6) (N := 27) hx hb hg inX6 hown hK (hT.o20 (hT.k t_this (by decide))).one 0 rfl rfl 26 (by decide) (hg _ k1245) (fun _ h9 => h9) rfl dX6_sampleTold_120 ?_
            rw [er83]
            refine lv_aload_n hx hb dX6_sampleTold_123 rfl (lv_at hl 1 rfl) ?_
            refine va_get (D := κ.1) (ci := 6) (v := .int (zI s72 this 18)) (C := RX6) (T := TX6) (N := 27) hx hb hg inX6 hown hK (hT.o20 (hT.k t_this (by decide))).one 0 rfl rfl 18 (by decide) (hg _ k1237) (fun _ h9 => h9) rfl dX6_sampleTold_124 ?_
            rw [kthis_18]
            refine lv_iload_n hx hb dX6_sampleTold_127 rfl (lv_at hl 0 rfl) ?_
            refine lv_if_eq (tgt := 139) hx hb dX6_sampleTold_128 (by decide) (fun _ => ?_) (fun c9 => absurd (by decide) c9)
            refine lv_aload_n hx hb dX6_sampleTold_139 rfl (lv_at hl 1 rfl) ?_
            refine va_get (D := κ.1) (ci := 6) (v := .int (zI s72 this 24)) (C := RX6) (T := TX6) (N := 27) hx hb hg inX6 hown hK (hT.o20 (hT.k t_this (by decide))).one 0 rfl rfl 24 (by decide) (hg _ k1243) (fun _ h9 => h9) rfl dX6_sampleTold_140 ?_
            rw [ev82]
            have hTo := hT
            refine tasti (n := 48) hx hb hK hT (hT.k tr83 (by decide)) ⟨by decide, by decide⟩ (fun _ _ _ => rfl) (fun _ _ => trivial) (fun _ => rfl) (by omega) (by omega) dX6_sampleTold_143 (fun H locs s84 hus84 hT => ?_)
            have kthis_18 : zI s84 this 18 = v5 := (zput_o hus84 (Or.inl ((hTo.k t_this (by decide)).ne (hTo.k tr83 (by decide)) (by decide)))).trans kthis_18
            have ev79 : zI s84 this 14 = v79 := (zput_o hus84 (Or.inl ((hTo.k t_this (by decide)).ne (hTo.k tr83 (by decide)) (by decide)))).trans ev79
            have ev80 : zI s84 this 17 = v80 := (zput_o hus84 (Or.inl ((hTo.k t_this (by decide)).ne (hTo.k tr83 (by decide)) (by decide)))).trans ev80
            have ev82 : zI s84 this 24 = v82 := (zput_o hus84 (Or.inl ((hTo.k t_this (by decide)).ne (hTo.k tr83 (by decide)) (by decide)))).trans ev82
            have Y85 : bb.toInt ≠ 1 → PL (ix v5 + 1) (zI s84 rQ) := by first | (rw [show zI s84 rQ = zI s72 rQ from zput_Io hus84 ((hTo.k trQ (by decide)).ne (hTo.k tr83 (by decide)) (by decide))]; exact Y73) | rw [show zI s84 rQ = zI s72 rQ from zput_Io hus84 ((hTo.k trQ (by decide)).ne (hTo.k tr83 (by decide)) (by decide))]
            refine lv_aload_n hx hb dX6_sampleTold_144 rfl (lv_at hl 1 rfl) ?_
            have qq86 : (zI s84 this 13).toInt = v1.toInt := by rw [(hT.eI t_this (by decide) rfl ev1)]
            have qq87 : (zI s84 this 14).toInt = v79.toInt := by rw [ev79]
            have qq88 : (zI s84 this 17).toInt = v80.toInt := by rw [ev80]
            have hTo := hT
            refine tVv (n := 0) (As := []) (rest := []) hx hb hml hown hg hT hK hX (X6_ends l κ s84 this  (hT.k t_this (by decide)) (by omega) (by omega) (by omega) (by omega)) sub_gHB_gS2 (mwV k1390 k1392 k49 k92 k1393) ⟨rfl, by decide, by decide, by decide +kernel⟩ ⟨(Nat.le_of_ble_eq_true rfl), (Nat.le_of_ble_eq_true rfl)⟩ (hT.o20 (hT.k t_this (by decide))) rfl rfl hl.1 rfl (Nat.le_of_ble_eq_true rfl) dX6_sampleTold_145 zroom.rf (fun s90 H locs hφ hEs90 hT => ?_)
            have kthis_18 : zI s90 this 18 = v5 := ((hTo.k t_this (by decide)).eI hEs90 (by decide) rfl).trans kthis_18
            have ev82 : zI s90 this 24 = v82 := ((hTo.k t_this (by decide)).eI hEs90 (by decide) rfl).trans ev82
            have Y91 : bb.toInt ≠ 1 → PL (ix v5 + 1) (zI s90 rQ) := by first | (rw [show zI s90 rQ = zI s84 rQ from funext fun k => (hTo.k trQ (by decide)).eI hEs90 (by decide) rfl]; exact Y85) | rw [show zI s90 rQ = zI s84 rQ from funext fun k => (hTo.k trQ (by decide)).eI hEs90 (by decide) rfl]
            obtain ⟨f92, f93, f94⟩ := hφ
            obtain ⟨v95, ev95⟩ : ∃ zz9 : Int32, zI s90 this 14 = zz9 := ⟨_, rfl⟩
            have qv95 : v95.toInt = (zI s90 this 14).toInt := by rw [ev95]
            obtain ⟨v96, ev96⟩ : ∃ zz9 : Int32, zI s90 this 17 = zz9 := ⟨_, rfl⟩
            have qv96 : v96.toInt = (zI s90 this 17).toInt := by rw [ev96]
            have b97 : isB v96 := by have q9 : isB (zI s90 this 17) := hT.P (hT.k t_this (by decide)) (by decide); rw [ev96] at q9; exact q9
            have b97t := isB_t b97
            refine lv_aload_n hx hb dX6_sampleTold_148 rfl (lv_at hl 1 rfl) ?_
            refine lv_dup hx hb dX6_sampleTold_149 rfl ?_
            refine va_get (D := κ.1) (ci := 6) (v := .int (zI s90 this 18)) (C := RX6) (T := TX6) (N := 27) hx hb hg inX6 hown hK (hT.o20 (hT.k t_this (by decide))).one 0 rfl rfl 18 (by decide) (hg _ k1237) (fun _ h9 => h9) rfl dX6_sampleTold_150 ?_
            rw [kthis_18]
            refine lv_iconst (v := 1) hx hb dX6_sampleTold_153 (by decide) ?_
            refine lv_iadd hx hb dX6_sampleTold_154 ?_
            first | refine g_add (by omega) (by omega) (fun t98 ht98 => ?_) | refine lv_topi (fun t98 ht98 => ?_)
            have hTo := hT
            refine pf20_18 hx hb hg hown hK hT (hT.k t_this (by decide)) rfl (hg _ k1237) dX6_sampleTold_155 (fun H locs s99 hus99 hT => ?_)
            have ev82 : zI s99 this 24 = v82 := (zput_o hus99 (Or.inr (by decide))).trans ev82
            have ev95 : zI s99 this 14 = v95 := (zput_o hus99 (Or.inr (by decide))).trans ev95
            have ev96 : zI s99 this 17 = v96 := (zput_o hus99 (Or.inr (by decide))).trans ev96
            have Y100 : bb.toInt ≠ 1 → PL (ix v5 + 1) (zI s99 rQ) := by first | (rw [show zI s99 rQ = zI s90 rQ from zput_Io hus99 ((hTo.k trQ (by decide)).ne (hTo.k t_this (by decide)) (by decide))]; exact Y91) | rw [show zI s99 rQ = zI s90 rQ from zput_Io hus99 ((hTo.k trQ (by decide)).ne (hTo.k t_this (by decide)) (by decide))]
            have e101 : zI s99 this 18 = t98 := zput_at hus99
            have zz102 : (zI s99 this 14).toInt = v95.toInt := by rw [ev95]
            have zz103 : (zI s99 this 17).toInt = v96.toInt := by rw [ev96]
            have zz104 : (zI s99 this 18).toInt = t98.toInt := by rw [e101]
            subst hQ9
            exact t_v hx hb hr hlocks hT ⟨by omega, by omega, by omega, by omega, by omega, by omega, (Classical.em ((zI s99 this 17).toInt = 1)).elim Or.inl (fun q8 => Or.inr (by rw [erQ, show (zI s99 this 18).toInt.toNat = ix v5 + 1 from by unfold ix; omega]; exact Y100 (by omega)))⟩ dX6_sampleTold_158
          · have c5 := gi_eq c9
            have G105 : (zI s56 this 14).toInt < (zI σ0 this 13).toInt := by omega
            refine lv_iconst (v := 1) hx hb dX6_sampleTold_87 (by decide) ?_
            refine lv_goto (tgt := 92) hx hb dX6_sampleTold_88 (by decide) ?_
            refine lv_istore_n (lv' := [(1, .int 1), (0, .ref this)]) hx hb dX6_sampleTold_92 rfl hl (by decide) rfl (fun ls hl => ?_)
            refine lv_aload_n hx hb dX6_sampleTold_93 rfl (lv_at hl 1 rfl) ?_
            refine lv_dup hx hb dX6_sampleTold_94 rfl ?_
            refine va_get (D := κ.1) (ci := 6) (v := .int (zI s56 this 14)) (C := RX6) (T := TX6) (N := 27) hx hb hg inX6 hown hK (hT.o20 (hT.k t_this (by decide))).one 0 rfl rfl 14 (by decide) (hg _ k1233) (fun _ h9 => h9) rfl dX6_sampleTold_95 ?_
            rw [ev62]
            refine lv_iload_n hx hb dX6_sampleTold_98 rfl (lv_at hl 0 rfl) ?_
            refine lv_if_eq (tgt := 106) hx hb dX6_sampleTold_99 (by decide) (fun c9 => absurd c9 (by decide)) (fun _ => ?_)
            refine lv_iconst (v := 1) hx hb dX6_sampleTold_102 (by decide) ?_
            refine lv_goto (tgt := 107) hx hb dX6_sampleTold_103 (by decide) ?_
            refine lv_iadd hx hb dX6_sampleTold_107 ?_
            first | refine g_add (by omega) (by omega) (fun t106 ht106 => ?_) | refine lv_topi (fun t106 ht106 => ?_)
            have hTo := hT
            refine pf20_14 hx hb hg hown hK hT (hT.k t_this (by decide)) rfl (hg _ k1233) dX6_sampleTold_108 (fun H locs s107 hus107 hT => ?_)
            have kthis_18 : zI s107 this 18 = v5 := (zput_o hus107 (Or.inr (by decide))).trans kthis_18
            have kthis_17 : zI s107 this 17 = bb := (zput_o hus107 (Or.inr (by decide))).trans kthis_17
            have kthis_24 : zI s107 this 24 = vv := (zput_o hus107 (Or.inr (by decide))).trans kthis_24
            have Y108 : bb.toInt ≠ 1 → PL (ix v5 + 1) (zI s107 rQ) := by first | (rw [show zI s107 rQ = zI s56 rQ from zput_Io hus107 ((hTo.k trQ (by decide)).ne (hTo.k t_this (by decide)) (by decide))]; exact Y57) | rw [show zI s107 rQ = zI s56 rQ from zput_Io hus107 ((hTo.k trQ (by decide)).ne (hTo.k t_this (by decide)) (by decide))]
            have e109 : zI s107 this 14 = t106 := zput_at hus107
            refine lv_aload_n hx hb dX6_sampleTold_111 rfl (lv_at hl 1 rfl) ?_
            refine lv_iconst (v := 0) hx hb dX6_sampleTold_112 (by decide) ?_
            refine lv_sipush (v := 9999) hx hb dX6_sampleTold_113 (by decide) ?_
            have qq110 : (zI s107 this 13).toInt = v1.toInt := by rw [(hT.eI t_this (by decide) rfl ev1)]
            have qq111 : (zI s107 this 14).toInt = t106.toInt := by rw [e109]
            have qq112 : (zI s107 this 17).toInt = bb.toInt := by rw [kthis_17]
            have qq113 : (zI s107 this 24).toInt = vv.toInt := by rw [kthis_24]
            have hTo := hT
            refine tVv (n := 2) (As := [.int 0, .int 9999]) (rest := []) hx hb hml hown hg hT hK hX (X6_number l κ s107 this 0 9999  (hT.k t_this (by decide)) (by omega) (by omega) (by omega) (by omega)) sub_gN_gS2 (mwV k1384 k1386 k48 k92 k1387) ⟨rfl, by decide, by decide, by decide +kernel⟩ ⟨(Nat.le_of_ble_eq_true rfl), (Nat.le_of_ble_eq_true rfl)⟩ (hT.o20 (hT.k t_this (by decide))) rfl rfl hl.1 rfl (Nat.le_of_ble_eq_true rfl) dX6_sampleTold_116 zroom.rf (fun s115 H locs hφ hEs115 hT => ?_)
            have kthis_18 : zI s115 this 18 = v5 := ((hTo.k t_this (by decide)).eI hEs115 (by decide) rfl).trans kthis_18
            have Y116 : bb.toInt ≠ 1 → PL (ix v5 + 1) (zI s115 rQ) := by first | (rw [show zI s115 rQ = zI s107 rQ from funext fun k => (hTo.k trQ (by decide)).eI hEs115 (by decide) rfl]; exact Y108) | rw [show zI s115 rQ = zI s107 rQ from funext fun k => (hTo.k trQ (by decide)).eI hEs115 (by decide) rfl]
            obtain ⟨f117, f118, f119⟩ := hφ
            have G120 : (zI s115 this 14).toInt ≤ (zI σ0 this 13).toInt := by omega
            have G121 : (zI s115 this 17).toInt = 1 ∨ (zI s107 this 17).toInt = 0 := by omega
            clear f118 f119
            obtain ⟨v122, ev122⟩ : ∃ zz9 : Int32, zI s115 this 14 = zz9 := ⟨_, rfl⟩
            have qv122 : v122.toInt = (zI s115 this 14).toInt := by rw [ev122]
            obtain ⟨v123, ev123⟩ : ∃ zz9 : Int32, zI s115 this 17 = zz9 := ⟨_, rfl⟩
            have qv123 : v123.toInt = (zI s115 this 17).toInt := by rw [ev123]
            have b124 : isB v123 := by have q9 : isB (zI s115 this 17) := hT.P (hT.k t_this (by decide)) (by decide); rw [ev123] at q9; exact q9
            have b124t := isB_t b124
            obtain ⟨v125, ev125⟩ : ∃ zz9 : Int32, zI s115 this 24 = zz9 := ⟨_, rfl⟩
            have qv125 : v125.toInt = (zI s115 this 24).toInt := by rw [ev125]
            refine lv_aload_n hx hb dX6_sampleTold_119 rfl (lv_at hl 1 rfl) ?_
            obtain ⟨r126, er126⟩ : ∃ z, kR κ this 26 = z := ⟨_, rfl⟩
            have tr126 : zk σ0 r126 28 := by rw [← er126]; exact hT0.ref t_this (by decide) (by decide) (by decide)
            refine va_get (D := κ.1) (ci := 6) (v := .ref (kR κ this 26)) (C := RX6) (T := TX6) (N := 27) hx hb hg inX6 hown hK (hT.o20 (hT.k t_this (by decide))).one 0 rfl rfl 26 (by decide) (hg _ k1245) (fun _ h9 => h9) rfl dX6_sampleTold_120 ?_
            rw [er126]
            refine lv_aload_n hx hb dX6_sampleTold_123 rfl (lv_at hl 1 rfl) ?_
            refine va_get (D := κ.1) (ci := 6) (v := .int (zI s115 this 18)) (C := RX6) (T := TX6) (N := 27) hx hb hg inX6 hown hK (hT.o20 (hT.k t_this (by decide))).one 0 rfl rfl 18 (by decide) (hg _ k1237) (fun _ h9 => h9) rfl dX6_sampleTold_124 ?_
            rw [kthis_18]
            refine lv_iload_n hx hb dX6_sampleTold_127 rfl (lv_at hl 0 rfl) ?_
            refine lv_if_eq (tgt := 139) hx hb dX6_sampleTold_128 (by decide) (fun c9 => absurd c9 (by decide)) (fun _ => ?_)
            refine lv_aload_n hx hb dX6_sampleTold_131 rfl (lv_at hl 1 rfl) ?_
            refine va_get (D := κ.1) (ci := 6) (v := .int (zI s115 this 24)) (C := RX6) (T := TX6) (N := 27) hx hb hg inX6 hown hK (hT.o20 (hT.k t_this (by decide))).one 0 rfl rfl 24 (by decide) (hg _ k1243) (fun _ h9 => h9) rfl dX6_sampleTold_132 ?_
            rw [ev125]
            refine lv_ineg hx hb dX6_sampleTold_135 ?_
            refine lv_topi (fun t127 ht127 => ?_)
            refine lv_goto (tgt := 143) hx hb dX6_sampleTold_136 (by decide) ?_
            have hTo := hT
            refine tasti (n := 48) hx hb hK hT (hT.k tr126 (by decide)) ⟨by decide, by decide⟩ (fun _ _ _ => rfl) (fun _ _ => trivial) (fun _ => rfl) (by omega) (by omega) dX6_sampleTold_143 (fun H locs s128 hus128 hT => ?_)
            have kthis_18 : zI s128 this 18 = v5 := (zput_o hus128 (Or.inl ((hTo.k t_this (by decide)).ne (hTo.k tr126 (by decide)) (by decide)))).trans kthis_18
            have ev122 : zI s128 this 14 = v122 := (zput_o hus128 (Or.inl ((hTo.k t_this (by decide)).ne (hTo.k tr126 (by decide)) (by decide)))).trans ev122
            have ev123 : zI s128 this 17 = v123 := (zput_o hus128 (Or.inl ((hTo.k t_this (by decide)).ne (hTo.k tr126 (by decide)) (by decide)))).trans ev123
            have ev125 : zI s128 this 24 = v125 := (zput_o hus128 (Or.inl ((hTo.k t_this (by decide)).ne (hTo.k tr126 (by decide)) (by decide)))).trans ev125
            have Y129 : bb.toInt ≠ 1 → PL (ix v5 + 1) (zI s128 rQ) := by first | (rw [show zI s128 rQ = zI s115 rQ from zput_Io hus128 ((hTo.k trQ (by decide)).ne (hTo.k tr126 (by decide)) (by decide))]; exact Y116) | rw [show zI s128 rQ = zI s115 rQ from zput_Io hus128 ((hTo.k trQ (by decide)).ne (hTo.k tr126 (by decide)) (by decide))]
            refine lv_aload_n hx hb dX6_sampleTold_144 rfl (lv_at hl 1 rfl) ?_
            have qq130 : (zI s128 this 13).toInt = v1.toInt := by rw [(hT.eI t_this (by decide) rfl ev1)]
            have qq131 : (zI s128 this 14).toInt = v122.toInt := by rw [ev122]
            have qq132 : (zI s128 this 17).toInt = v123.toInt := by rw [ev123]
            have hTo := hT
            refine tVv (n := 0) (As := []) (rest := []) hx hb hml hown hg hT hK hX (X6_ends l κ s128 this  (hT.k t_this (by decide)) (by omega) (by omega) (by omega) (by omega)) sub_gHB_gS2 (mwV k1390 k1392 k49 k92 k1393) ⟨rfl, by decide, by decide, by decide +kernel⟩ ⟨(Nat.le_of_ble_eq_true rfl), (Nat.le_of_ble_eq_true rfl)⟩ (hT.o20 (hT.k t_this (by decide))) rfl rfl hl.1 rfl (Nat.le_of_ble_eq_true rfl) dX6_sampleTold_145 zroom.rf (fun s134 H locs hφ hEs134 hT => ?_)
            have kthis_18 : zI s134 this 18 = v5 := ((hTo.k t_this (by decide)).eI hEs134 (by decide) rfl).trans kthis_18
            have ev125 : zI s134 this 24 = v125 := ((hTo.k t_this (by decide)).eI hEs134 (by decide) rfl).trans ev125
            have Y135 : bb.toInt ≠ 1 → PL (ix v5 + 1) (zI s134 rQ) := by first | (rw [show zI s134 rQ = zI s128 rQ from funext fun k => (hTo.k trQ (by decide)).eI hEs134 (by decide) rfl]; exact Y129) | rw [show zI s134 rQ = zI s128 rQ from funext fun k => (hTo.k trQ (by decide)).eI hEs134 (by decide) rfl]
            obtain ⟨f136, f137, f138⟩ := hφ
            obtain ⟨v139, ev139⟩ : ∃ zz9 : Int32, zI s134 this 14 = zz9 := ⟨_, rfl⟩
            have qv139 : v139.toInt = (zI s134 this 14).toInt := by rw [ev139]
            obtain ⟨v140, ev140⟩ : ∃ zz9 : Int32, zI s134 this 17 = zz9 := ⟨_, rfl⟩
            have qv140 : v140.toInt = (zI s134 this 17).toInt := by rw [ev140]
            have b141 : isB v140 := by have q9 : isB (zI s134 this 17) := hT.P (hT.k t_this (by decide)) (by decide); rw [ev140] at q9; exact q9
            have b141t := isB_t b141
            refine lv_aload_n hx hb dX6_sampleTold_148 rfl (lv_at hl 1 rfl) ?_
            refine lv_dup hx hb dX6_sampleTold_149 rfl ?_
            refine va_get (D := κ.1) (ci := 6) (v := .int (zI s134 this 18)) (C := RX6) (T := TX6) (N := 27) hx hb hg inX6 hown hK (hT.o20 (hT.k t_this (by decide))).one 0 rfl rfl 18 (by decide) (hg _ k1237) (fun _ h9 => h9) rfl dX6_sampleTold_150 ?_
            rw [kthis_18]
            refine lv_iconst (v := 1) hx hb dX6_sampleTold_153 (by decide) ?_
            refine lv_iadd hx hb dX6_sampleTold_154 ?_
            first | refine g_add (by omega) (by omega) (fun t142 ht142 => ?_) | refine lv_topi (fun t142 ht142 => ?_)
            have hTo := hT
            refine pf20_18 hx hb hg hown hK hT (hT.k t_this (by decide)) rfl (hg _ k1237) dX6_sampleTold_155 (fun H locs s143 hus143 hT => ?_)
            have ev125 : zI s143 this 24 = v125 := (zput_o hus143 (Or.inr (by decide))).trans ev125
            have ev139 : zI s143 this 14 = v139 := (zput_o hus143 (Or.inr (by decide))).trans ev139
            have ev140 : zI s143 this 17 = v140 := (zput_o hus143 (Or.inr (by decide))).trans ev140
            have Y144 : bb.toInt ≠ 1 → PL (ix v5 + 1) (zI s143 rQ) := by first | (rw [show zI s143 rQ = zI s134 rQ from zput_Io hus143 ((hTo.k trQ (by decide)).ne (hTo.k t_this (by decide)) (by decide))]; exact Y135) | rw [show zI s143 rQ = zI s134 rQ from zput_Io hus143 ((hTo.k trQ (by decide)).ne (hTo.k t_this (by decide)) (by decide))]
            have e145 : zI s143 this 18 = t142 := zput_at hus143
            have zz146 : (zI s143 this 14).toInt = v139.toInt := by rw [ev139]
            have zz147 : (zI s143 this 17).toInt = v140.toInt := by rw [ev140]
            have zz148 : (zI s143 this 18).toInt = t142.toInt := by rw [e145]
            subst hQ9
            exact t_v hx hb hr hlocks hT ⟨by omega, by omega, by omega, by omega, by omega, by omega, (Classical.em ((zI s143 this 17).toInt = 1)).elim Or.inl (fun q8 => Or.inr (by rw [erQ, show (zI s143 this 18).toInt.toNat = ix v5 + 1 from by unfold ix; omega]; exact Y144 (by omega)))⟩ dX6_sampleTold_158
    refine lv_aload_n hx hb dX6_sampleTold_19 rfl (lv_at hl 0 rfl) ?_
    refine lv_aload_n hx hb dX6_sampleTold_20 rfl (lv_at hl 0 rfl) ?_
    have qq149 : (zI σ0 this 13).toInt = v1.toInt := by rw [(hT.eI t_this (by decide) rfl ev1)]
    have qq150 : (zI σ0 this 14).toInt = v2.toInt := by rw [ev2]
    have qq151 : (zI σ0 this 17).toInt = v3.toInt := by rw [ev3]
    have hTo := hT
    refine tVi (n := 0) (As := []) (rest := [.ref this]) hx hb hml hown hg hT hK hX (X6_wordEnd l κ σ0 this  (hT.k t_this (by decide)) (by omega) (by omega) (by omega) (by omega)) sub_fE_gS2 (mwV k1349 k1351 k43 k92 k1352) ⟨rfl, by decide, by decide, by decide +kernel⟩ ⟨(Nat.le_of_ble_eq_true rfl), (Nat.le_of_ble_eq_true rfl)⟩ (hT.o20 (hT.k t_this (by decide))) rfl rfl hl.1 rfl (Nat.le_of_ble_eq_true rfl) dX6_sampleTold_21 zroom.rf (fun x152 s153 H locs hφ hEs153 hT => ?_)
    have ev2 : zI s153 this 14 = v2 := ((hTo.k t_this (by decide)).eI hEs153 (by decide) rfl).trans ev2
    have ev3 : zI s153 this 17 = v3 := ((hTo.k t_this (by decide)).eI hEs153 (by decide) rfl).trans ev3
    have ev5 : zI s153 this 18 = v5 := ((hTo.k t_this (by decide)).eI hEs153 (by decide) rfl).trans ev5
    have Y154 : zI s153 rQ = zI σ0 rQ := by first | (rw [show zI s153 rQ = zI σ0 rQ from funext fun k => (hTo.k trQ (by decide)).eI hEs153 (by decide) rfl]; exact q0) | rw [show zI s153 rQ = zI σ0 rQ from funext fun k => (hTo.k trQ (by decide)).eI hEs153 (by decide) rfl]
    obtain ⟨f155, f156⟩ := hφ
    have hTo := hT
    refine pf20_14 hx hb hg hown hK hT (hT.k t_this (by decide)) rfl (hg _ k1233) dX6_sampleTold_24 (fun H locs s157 hus157 hT => ?_)
    have ev3 : zI s157 this 17 = v3 := (zput_o hus157 (Or.inr (by decide))).trans ev3
    have ev5 : zI s157 this 18 = v5 := (zput_o hus157 (Or.inr (by decide))).trans ev5
    have Y158 : zI s157 rQ = zI σ0 rQ := by first | (rw [show zI s157 rQ = zI s153 rQ from zput_Io hus157 ((hTo.k trQ (by decide)).ne (hTo.k t_this (by decide)) (by decide))]; exact Y154) | rw [show zI s157 rQ = zI s153 rQ from zput_Io hus157 ((hTo.k trQ (by decide)).ne (hTo.k t_this (by decide)) (by decide))]
    have e159 : zI s157 this 14 = x152 := zput_at hus157
    refine lv_aload_n hx hb dX6_sampleTold_27 rfl (lv_at hl 0 rfl) ?_
    refine lv_aload_n hx hb dX6_sampleTold_28 rfl (lv_at hl 0 rfl) ?_
    refine va_get (D := κ.1) (ci := 6) (v := .int (zI s157 this 18)) (C := RX6) (T := TX6) (N := 27) hx hb hg inX6 hown hK (hT.o20 (hT.k t_this (by decide))).one 0 rfl rfl 18 (by decide) (hg _ k1237) (fun _ h9 => h9) rfl dX6_sampleTold_29 ?_
    rw [ev5]
    refine lv_if_ne (tgt := 39) hx hb dX6_sampleTold_32 (by decide) (fun c9 => ?_) (fun c9 => ?_)
    · have c6 := gi_ne c9
      refine lv_aload_n hx hb dX6_sampleTold_39 rfl (lv_at hl 0 rfl) ?_
      refine va_get (D := κ.1) (ci := 6) (v := .ref (kR κ this 25)) (C := RX6) (T := TX6) (N := 27) hx hb hg inX6 hown hK (hT.o20 (hT.k t_this (by decide))).one 0 rfl rfl 25 (by decide) (hg _ k1244) (fun _ h9 => h9) rfl dX6_sampleTold_40 ?_
      rw [erQ]
      refine lv_aload_n hx hb dX6_sampleTold_43 rfl (lv_at hl 0 rfl) ?_
      refine va_get (D := κ.1) (ci := 6) (v := .int (zI s157 this 18)) (C := RX6) (T := TX6) (N := 27) hx hb hg inX6 hown hK (hT.o20 (hT.k t_this (by decide))).one 0 rfl rfl 18 (by decide) (hg _ k1237) (fun _ h9 => h9) rfl dX6_sampleTold_44 ?_
      rw [ev5]
      refine lv_iconst (v := 1) hx hb dX6_sampleTold_47 (by decide) ?_
      refine lv_isub hx hb dX6_sampleTold_48 ?_
      first | refine g_sub (by omega) (by omega) (fun t160 ht160 => ?_) | refine lv_topi (fun t160 ht160 => ?_)
      refine va_iald hx hb hK (hT.o27 (hT.k trQ (by decide))).one 0 0 rfl rfl (g_in (by omega) (by omega)) dX6_sampleTold_49 ?_
      refine lv_topi (fun t161 ht161 => ?_)
      have xl : t161.toInt = (zI σ0 rQ ((zI σ0 this 18).toInt.toNat - 1)).toInt := by rw [ht161, Y158]; exact congrArg (fun q9 => (zI σ0 rQ q9).toInt) (show ix t160 = (zI σ0 this 18).toInt.toNat - 1 from by unfold ix; omega)
      have xb := (h7 ((zI σ0 this 18).toInt.toNat - 1) (by omega)).1
      refine lv_iconst (v := 1) hx hb dX6_sampleTold_50 (by decide) ?_
      refine lv_iadd hx hb dX6_sampleTold_51 ?_
      first | refine g_add (by omega) (by omega) (fun t162 ht162 => ?_) | refine lv_topi (fun t162 ht162 => ?_)
      refine lv_sipush (v := 9999) hx hb dX6_sampleTold_52 (by decide) ?_
      have qq163 : (zI s157 this 13).toInt = v1.toInt := by rw [(hT.eI t_this (by decide) rfl ev1)]
      have qq164 : (zI s157 this 14).toInt = x152.toInt := by rw [e159]
      have qq165 : (zI s157 this 17).toInt = v3.toInt := by rw [ev3]
      obtain ⟨v166, ev166⟩ : ∃ zz9 : Int32, zI s157 this 24 = zz9 := ⟨_, rfl⟩
      have qv166 : v166.toInt = (zI s157 this 24).toInt := by rw [ev166]
      have qq167 : (zI s157 this 24).toInt = v166.toInt := by rw [ev166]
      have hTo := hT
      refine tVv (n := 2) (As := [.int t162, .int 9999]) (rest := []) hx hb hml hown hg hT hK hX (X6_number l κ s157 this t162 9999  (hT.k t_this (by decide)) (by omega) (by omega) (by omega) (by omega)) sub_gN_gS2 (mwV k1384 k1386 k48 k92 k1387) ⟨rfl, by decide, by decide, by decide +kernel⟩ ⟨(Nat.le_of_ble_eq_true rfl), (Nat.le_of_ble_eq_true rfl)⟩ (hT.o20 (hT.k t_this (by decide))) rfl rfl hl.1 rfl (Nat.le_of_ble_eq_true rfl) dX6_sampleTold_55 zroom.rf (fun s169 H locs hφ hEs169 hT => ?_)
      have ev5 : zI s169 this 18 = v5 := ((hTo.k t_this (by decide)).eI hEs169 (by decide) rfl).trans ev5
      have Y170 : zI s169 rQ = zI σ0 rQ := by first | (rw [show zI s169 rQ = zI s157 rQ from funext fun k => (hTo.k trQ (by decide)).eI hEs169 (by decide) rfl]; exact Y158) | rw [show zI s169 rQ = zI s157 rQ from funext fun k => (hTo.k trQ (by decide)).eI hEs169 (by decide) rfl]
      obtain ⟨f171, f172, f173⟩ := hφ
      have G174 : (zI s169 this 14).toInt ≤ (zI σ0 this 13).toInt := by omega
      clear f172
      obtain ⟨v175, ev175⟩ : ∃ zz9 : Int32, zI s169 this 14 = zz9 := ⟨_, rfl⟩
      have qv175 : v175.toInt = (zI s169 this 14).toInt := by rw [ev175]
      obtain ⟨v176, ev176⟩ : ∃ zz9 : Int32, zI s169 this 17 = zz9 := ⟨_, rfl⟩
      have qv176 : v176.toInt = (zI s169 this 17).toInt := by rw [ev176]
      have b177 : isB v176 := by have q9 : isB (zI s169 this 17) := hT.P (hT.k t_this (by decide)) (by decide); rw [ev176] at q9; exact q9
      have b177t := isB_t b177
      obtain ⟨v178, ev178⟩ : ∃ zz9 : Int32, zI s169 this 24 = zz9 := ⟨_, rfl⟩
      have qv178 : v178.toInt = (zI s169 this 24).toInt := by rw [ev178]
      exact loop58 (((0 : Int)).toNat + 1) v175 v176 v178 _ _ _ _ hT ev5 ev175 ev176 ev178 (by omega) (by omega) (by omega) Y170 hl (by omega)
    · have c7 := gi_eq c9
      refine lv_iconst (v := 0) hx hb dX6_sampleTold_35 (by decide) ?_
      refine lv_goto (tgt := 52) hx hb dX6_sampleTold_36 (by decide) ?_
      refine lv_sipush (v := 9999) hx hb dX6_sampleTold_52 (by decide) ?_
      have qq179 : (zI s157 this 13).toInt = v1.toInt := by rw [(hT.eI t_this (by decide) rfl ev1)]
      have qq180 : (zI s157 this 14).toInt = x152.toInt := by rw [e159]
      have qq181 : (zI s157 this 17).toInt = v3.toInt := by rw [ev3]
      obtain ⟨v182, ev182⟩ : ∃ zz9 : Int32, zI s157 this 24 = zz9 := ⟨_, rfl⟩
      have qv182 : v182.toInt = (zI s157 this 24).toInt := by rw [ev182]
      have qq183 : (zI s157 this 24).toInt = v182.toInt := by rw [ev182]
      have hTo := hT
      refine tVv (n := 2) (As := [.int 0, .int 9999]) (rest := []) hx hb hml hown hg hT hK hX (X6_number l κ s157 this 0 9999  (hT.k t_this (by decide)) (by omega) (by omega) (by omega) (by omega)) sub_gN_gS2 (mwV k1384 k1386 k48 k92 k1387) ⟨rfl, by decide, by decide, by decide +kernel⟩ ⟨(Nat.le_of_ble_eq_true rfl), (Nat.le_of_ble_eq_true rfl)⟩ (hT.o20 (hT.k t_this (by decide))) rfl rfl hl.1 rfl (Nat.le_of_ble_eq_true rfl) dX6_sampleTold_55 zroom.rf (fun s185 H locs hφ hEs185 hT => ?_)
      have ev5 : zI s185 this 18 = v5 := ((hTo.k t_this (by decide)).eI hEs185 (by decide) rfl).trans ev5
      have Y186 : zI s185 rQ = zI σ0 rQ := by first | (rw [show zI s185 rQ = zI s157 rQ from funext fun k => (hTo.k trQ (by decide)).eI hEs185 (by decide) rfl]; exact Y158) | rw [show zI s185 rQ = zI s157 rQ from funext fun k => (hTo.k trQ (by decide)).eI hEs185 (by decide) rfl]
      obtain ⟨f187, f188, f189⟩ := hφ
      have G190 : (zI s185 this 14).toInt ≤ (zI σ0 this 13).toInt := by omega
      clear f188
      obtain ⟨v191, ev191⟩ : ∃ zz9 : Int32, zI s185 this 14 = zz9 := ⟨_, rfl⟩
      have qv191 : v191.toInt = (zI s185 this 14).toInt := by rw [ev191]
      obtain ⟨v192, ev192⟩ : ∃ zz9 : Int32, zI s185 this 17 = zz9 := ⟨_, rfl⟩
      have qv192 : v192.toInt = (zI s185 this 17).toInt := by rw [ev192]
      have b193 : isB v192 := by have q9 : isB (zI s185 this 17) := hT.P (hT.k t_this (by decide)) (by decide); rw [ev192] at q9; exact q9
      have b193t := isB_t b193
      obtain ⟨v194, ev194⟩ : ∃ zz9 : Int32, zI s185 this 24 = zz9 := ⟨_, rfl⟩
      have qv194 : v194.toInt = (zI s185 this 24).toInt := by rw [ev194]
      exact loop58 (((0 : Int)).toNat + 1) v191 v192 v194 _ _ _ _ hT ev5 ev191 ev192 ev194 (by omega) (by omega) (by omega) Y186 hl (by omega)
  · have c8 := gi_eq c9
    refine lv_aload_n hx hb dX6_sampleTold_9 rfl (lv_at hl 0 rfl) ?_
    refine lv_iconst (v := 4) hx hb dX6_sampleTold_10 (by decide) ?_
    refine lv_aload_n hx hb dX6_sampleTold_11 rfl (lv_at hl 0 rfl) ?_
    refine va_get (D := κ.1) (ci := 6) (v := .int (zI σ0 this 14)) (C := RX6) (T := TX6) (N := 27) hx hb hg inX6 hown hK (hT.o20 (hT.k t_this (by decide))).one 0 rfl rfl 14 (by decide) (hg _ k1233) (fun _ h9 => h9) rfl dX6_sampleTold_12 ?_
    rw [ev2]
    have qq195 : (zI σ0 this 17).toInt = v3.toInt := by rw [ev3]
    have hTo := hT
    refine tVv (n := 2) (As := [.int 4, .int v2]) (rest := []) hx hb hml hown hg hT hK hX (X6_wrong l κ σ0 this 4 v2  (hT.k t_this (by decide)) ) sub_gB_gS2 (mwV k1361 k1363 k45 k92 k1364) ⟨rfl, by decide, by decide, by decide +kernel⟩ ⟨(Nat.le_of_ble_eq_true rfl), (Nat.le_of_ble_eq_true rfl)⟩ (hT.o20 (hT.k t_this (by decide))) rfl rfl hl.1 rfl (Nat.le_of_ble_eq_true rfl) dX6_sampleTold_15 zroom.rf (fun s197 H locs hφ hEs197 hT => ?_)
    have ev2 : zI s197 this 14 = v2 := ((hTo.k t_this (by decide)).eI hEs197 (by decide) rfl).trans ev2
    have ev5 : zI s197 this 18 = v5 := ((hTo.k t_this (by decide)).eI hEs197 (by decide) rfl).trans ev5
    have Y198 : zI s197 rQ = zI σ0 rQ := by first | (rw [show zI s197 rQ = zI σ0 rQ from funext fun k => (hTo.k trQ (by decide)).eI hEs197 (by decide) rfl]; exact q0) | rw [show zI s197 rQ = zI σ0 rQ from funext fun k => (hTo.k trQ (by decide)).eI hEs197 (by decide) rfl]
    have f199 := hφ
    obtain ⟨v200, ev200⟩ : ∃ zz9 : Int32, zI s197 this 17 = zz9 := ⟨_, rfl⟩
    have qv200 : v200.toInt = (zI s197 this 17).toInt := by rw [ev200]
    have b201 : isB v200 := by have q9 : isB (zI s197 this 17) := hT.P (hT.k t_this (by decide)) (by decide); rw [ev200] at q9; exact q9
    have b201t := isB_t b201
    have zz202 : (zI s197 this 14).toInt = v2.toInt := by rw [ev2]
    have zz203 : (zI s197 this 17).toInt = v200.toInt := by rw [ev200]
    have zz204 : (zI s197 this 18).toInt = v5.toInt := by rw [ev5]
    subst hQ9
    exact t_v hx hb hr hlocks hT ⟨by omega, by omega, by omega, by omega, by omega, by omega, (Or.inl (by omega))⟩ dX6_sampleTold_18

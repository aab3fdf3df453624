/-! The reference over any state: load -/
theorem sub_gR_gLd : ∀ t k, gLd t k = false → gR t k = false := by
  intro t k h
  simp [gR, gLd] at h ⊢ <;> omega
theorem sub_gS3_gLd : ∀ t k, gLd t k = false → gS3 t k = false := by
  intro t k h
  simp [gS3, gLd] at h ⊢ <;> omega
theorem sub_gTT_gLd : ∀ t k, gLd t k = false → gTT t k = false := by
  intro t k h
  simp [gTT, gLd] at h ⊢ <;> omega
theorem sub_gW_gTT : ∀ t k, gTT t k = false → gW t k = false := by
  intro t k h
  simp [gW, gTT] at h ⊢ <;> omega
theorem k34 : Cond.selects RX6 yX6_takesText yX6_takesText ∈ GW := gm 34 (by decide +kernel) (by decide +kernel)
theorem k38 : Cond.selects RX6 yX6_reads yX6_reads ∈ GW := gm 38 (by decide +kernel) (by decide +kernel)
theorem k1210 : Cond.methodLink RX6 61 yX6_takesText ∈ GW := gm 1210 (by decide +kernel) (by decide +kernel)
theorem k1212 : Cond.instanceMethod yX6_takesText ∈ GW := gm 1212 (by decide +kernel) (by decide +kernel)
theorem k1213 : Cond.code yX6_takesText cX6_takesText 2 none ∈ GW := gm 1213 (by decide +kernel) (by decide +kernel)
theorem k1223 : Cond.fieldLink RX6 19 "LiftingSignalModel" "areKept" "[Z" ∈ GW := gm 1223 (by decide +kernel) (by decide +kernel)
theorem k1328 : Cond.methodLink RX6 194 yX6_reads ∈ GW := gm 1328 (by decide +kernel) (by decide +kernel)
theorem k1330 : Cond.instanceMethod yX6_reads ∈ GW := gm 1330 (by decide +kernel) (by decide +kernel)
theorem k1331 : Cond.code yX6_reads cX6_reads 3 none ∈ GW := gm 1331 (by decide +kernel) (by decide +kernel)
theorem dX6_load_0 : decode cX6_load 0 = .ok (.aload_n 0, 1) := by decide +kernel
theorem dX6_load_1 : decode cX6_load 1 = .ok (.iconst 0, 1) := by decide +kernel
theorem dX6_load_2 : decode cX6_load 2 = .ok (.putfield 64, 3) := by decide +kernel
theorem dX6_load_5 : decode cX6_load 5 = .ok (.aload_n 0, 1) := by decide +kernel
theorem dX6_load_6 : decode cX6_load 6 = .ok (.iconst 0, 1) := by decide +kernel
theorem dX6_load_7 : decode cX6_load 7 = .ok (.putfield 95, 3) := by decide +kernel
theorem dX6_load_10 : decode cX6_load 10 = .ok (.aload_n 0, 1) := by decide +kernel
theorem dX6_load_11 : decode cX6_load 11 = .ok (.iconst (-1), 1) := by decide +kernel
theorem dX6_load_12 : decode cX6_load 12 = .ok (.putfield 37, 3) := by decide +kernel
theorem dX6_load_15 : decode cX6_load 15 = .ok (.aload_n 0, 1) := by decide +kernel
theorem dX6_load_16 : decode cX6_load 16 = .ok (.iconst 0, 1) := by decide +kernel
theorem dX6_load_17 : decode cX6_load 17 = .ok (.putfield 46, 3) := by decide +kernel
theorem dX6_load_20 : decode cX6_load 20 = .ok (.aload_n 0, 1) := by decide +kernel
theorem dX6_load_21 : decode cX6_load 21 = .ok (.iconst 2, 1) := by decide +kernel
theorem dX6_load_22 : decode cX6_load 22 = .ok (.putfield 49, 3) := by decide +kernel
theorem dX6_load_25 : decode cX6_load 25 = .ok (.aload_n 0, 1) := by decide +kernel
theorem dX6_load_26 : decode cX6_load 26 = .ok (.iconst 0, 1) := by decide +kernel
theorem dX6_load_27 : decode cX6_load 27 = .ok (.putfield 52, 3) := by decide +kernel
theorem dX6_load_30 : decode cX6_load 30 = .ok (.aload_n 0, 1) := by decide +kernel
theorem dX6_load_31 : decode cX6_load 31 = .ok (.iconst 2, 1) := by decide +kernel
theorem dX6_load_32 : decode cX6_load 32 = .ok (.putfield 55, 3) := by decide +kernel
theorem dX6_load_35 : decode cX6_load 35 = .ok (.aload_n 0, 1) := by decide +kernel
theorem dX6_load_36 : decode cX6_load 36 = .ok (.iconst 1, 1) := by decide +kernel
theorem dX6_load_37 : decode cX6_load 37 = .ok (.putfield 58, 3) := by decide +kernel
theorem dX6_load_40 : decode cX6_load 40 = .ok (.aload_n 0, 1) := by decide +kernel
theorem dX6_load_41 : decode cX6_load 41 = .ok (.iconst 0, 1) := by decide +kernel
theorem dX6_load_42 : decode cX6_load 42 = .ok (.putfield 135, 3) := by decide +kernel
theorem dX6_load_45 : decode cX6_load 45 = .ok (.aload_n 0, 1) := by decide +kernel
theorem dX6_load_46 : decode cX6_load 46 = .ok (.iconst 0, 1) := by decide +kernel
theorem dX6_load_47 : decode cX6_load 47 = .ok (.putfield 88, 3) := by decide +kernel
theorem dX6_load_50 : decode cX6_load 50 = .ok (.aload_n 0, 1) := by decide +kernel
theorem dX6_load_51 : decode cX6_load 51 = .ok (.iconst 0, 1) := by decide +kernel
theorem dX6_load_52 : decode cX6_load 52 = .ok (.putfield 91, 3) := by decide +kernel
theorem dX6_load_55 : decode cX6_load 55 = .ok (.aload_n 0, 1) := by decide +kernel
theorem dX6_load_56 : decode cX6_load 56 = .ok (.invokevirtual 194, 3) := by decide +kernel
theorem dX6_load_59 : decode cX6_load 59 = .ok (.aload_n 0, 1) := by decide +kernel
theorem dX6_load_60 : decode cX6_load 60 = .ok (.iconst 0, 1) := by decide +kernel
theorem dX6_load_61 : decode cX6_load 61 = .ok (.putfield 77, 3) := by decide +kernel
theorem dX6_load_64 : decode cX6_load 64 = .ok (.aload_n 0, 1) := by decide +kernel
theorem dX6_load_65 : decode cX6_load 65 = .ok (.getfield 91, 3) := by decide +kernel
theorem dX6_load_68 : decode cX6_load 68 = .ok (.ifCond .eq 9, 3) := by decide +kernel
theorem dX6_load_71 : decode cX6_load 71 = .ok (.aload_n 0, 1) := by decide +kernel
theorem dX6_load_72 : decode cX6_load 72 = .ok (.iconst 1, 1) := by decide +kernel
theorem dX6_load_73 : decode cX6_load 73 = .ok (.invokevirtual 73, 3) := by decide +kernel
theorem dX6_load_76 : decode cX6_load 76 = .ok (.ireturn, 1) := by decide +kernel
theorem dX6_load_77 : decode cX6_load 77 = .ok (.aload_n 0, 1) := by decide +kernel
theorem dX6_load_78 : decode cX6_load 78 = .ok (.invokevirtual 61, 3) := by decide +kernel
theorem dX6_load_81 : decode cX6_load 81 = .ok (.aload_n 0, 1) := by decide +kernel
theorem dX6_load_82 : decode cX6_load 82 = .ok (.getfield 185, 3) := by decide +kernel
theorem dX6_load_85 : decode cX6_load 85 = .ok (.ireturn, 1) := by decide +kernel
theorem dX6_takesText_0 : decode cX6_takesText 0 = .ok (.aload_n 0, 1) := by decide +kernel
theorem dX6_takesText_1 : decode cX6_takesText 1 = .ok (.aload_n 0, 1) := by decide +kernel
theorem dX6_takesText_2 : decode cX6_takesText 2 = .ok (.getfield 46, 3) := by decide +kernel
theorem dX6_takesText_5 : decode cX6_takesText 5 = .ok (.putfield 185, 3) := by decide +kernel
theorem dX6_takesText_8 : decode cX6_takesText 8 = .ok (.aload_n 0, 1) := by decide +kernel
theorem dX6_takesText_9 : decode cX6_takesText 9 = .ok (.aload_n 0, 1) := by decide +kernel
theorem dX6_takesText_10 : decode cX6_takesText 10 = .ok (.getfield 49, 3) := by decide +kernel
theorem dX6_takesText_13 : decode cX6_takesText 13 = .ok (.putfield 188, 3) := by decide +kernel
theorem dX6_takesText_16 : decode cX6_takesText 16 = .ok (.iconst 0, 1) := by decide +kernel
theorem dX6_takesText_17 : decode cX6_takesText 17 = .ok (.istore_n 1, 1) := by decide +kernel
theorem dX6_takesText_18 : decode cX6_takesText 18 = .ok (.iload_n 1, 1) := by decide +kernel
theorem dX6_takesText_19 : decode cX6_takesText 19 = .ok (.aload_n 0, 1) := by decide +kernel
theorem dX6_takesText_20 : decode cX6_takesText 20 = .ok (.getfield 185, 3) := by decide +kernel
theorem dX6_takesText_23 : decode cX6_takesText 23 = .ok (.if_icmp .ge 33, 3) := by decide +kernel
theorem dX6_takesText_26 : decode cX6_takesText 26 = .ok (.aload_n 0, 1) := by decide +kernel
theorem dX6_takesText_27 : decode cX6_takesText 27 = .ok (.getfield 23, 3) := by decide +kernel
theorem dX6_takesText_30 : decode cX6_takesText 30 = .ok (.iload_n 1, 1) := by decide +kernel
theorem dX6_takesText_31 : decode cX6_takesText 31 = .ok (.aload_n 0, 1) := by decide +kernel
theorem dX6_takesText_32 : decode cX6_takesText 32 = .ok (.getfield 40, 3) := by decide +kernel
theorem dX6_takesText_35 : decode cX6_takesText 35 = .ok (.iload_n 1, 1) := by decide +kernel
theorem dX6_takesText_36 : decode cX6_takesText 36 = .ok (.iaload, 1) := by decide +kernel
theorem dX6_takesText_37 : decode cX6_takesText 37 = .ok (.iastore, 1) := by decide +kernel
theorem dX6_takesText_38 : decode cX6_takesText 38 = .ok (.aload_n 0, 1) := by decide +kernel
theorem dX6_takesText_39 : decode cX6_takesText 39 = .ok (.getfield 27, 3) := by decide +kernel
theorem dX6_takesText_42 : decode cX6_takesText 42 = .ok (.iload_n 1, 1) := by decide +kernel
theorem dX6_takesText_43 : decode cX6_takesText 43 = .ok (.aload_n 0, 1) := by decide +kernel
theorem dX6_takesText_44 : decode cX6_takesText 44 = .ok (.getfield 43, 3) := by decide +kernel
theorem dX6_takesText_47 : decode cX6_takesText 47 = .ok (.iload_n 1, 1) := by decide +kernel
theorem dX6_takesText_48 : decode cX6_takesText 48 = .ok (.iaload, 1) := by decide +kernel
theorem dX6_takesText_49 : decode cX6_takesText 49 = .ok (.iastore, 1) := by decide +kernel
theorem dX6_takesText_50 : decode cX6_takesText 50 = .ok (.iinc 1 1, 3) := by decide +kernel
theorem dX6_takesText_53 : decode cX6_takesText 53 = .ok (.goto (-35), 3) := by decide +kernel
theorem dX6_takesText_56 : decode cX6_takesText 56 = .ok (.aload_n 0, 1) := by decide +kernel
theorem dX6_takesText_57 : decode cX6_takesText 57 = .ok (.getfield 7, 3) := by decide +kernel
theorem dX6_takesText_60 : decode cX6_takesText 60 = .ok (.iconst 0, 1) := by decide +kernel
theorem dX6_takesText_61 : decode cX6_takesText 61 = .ok (.aload_n 0, 1) := by decide +kernel
theorem dX6_takesText_62 : decode cX6_takesText 62 = .ok (.getfield 52, 3) := by decide +kernel
theorem dX6_takesText_65 : decode cX6_takesText 65 = .ok (.i2l, 1) := by decide +kernel
theorem dX6_takesText_66 : decode cX6_takesText 66 = .ok (.lastore, 1) := by decide +kernel
theorem dX6_takesText_67 : decode cX6_takesText 67 = .ok (.aload_n 0, 1) := by decide +kernel
theorem dX6_takesText_68 : decode cX6_takesText 68 = .ok (.getfield 7, 3) := by decide +kernel
theorem dX6_takesText_71 : decode cX6_takesText 71 = .ok (.iconst 1, 1) := by decide +kernel
theorem dX6_takesText_72 : decode cX6_takesText 72 = .ok (.aload_n 0, 1) := by decide +kernel
theorem dX6_takesText_73 : decode cX6_takesText 73 = .ok (.getfield 55, 3) := by decide +kernel
theorem dX6_takesText_76 : decode cX6_takesText 76 = .ok (.i2l, 1) := by decide +kernel
theorem dX6_takesText_77 : decode cX6_takesText 77 = .ok (.lastore, 1) := by decide +kernel
theorem dX6_takesText_78 : decode cX6_takesText 78 = .ok (.aload_n 0, 1) := by decide +kernel
theorem dX6_takesText_79 : decode cX6_takesText 79 = .ok (.getfield 7, 3) := by decide +kernel
theorem dX6_takesText_82 : decode cX6_takesText 82 = .ok (.iconst 2, 1) := by decide +kernel
theorem dX6_takesText_83 : decode cX6_takesText 83 = .ok (.aload_n 0, 1) := by decide +kernel
theorem dX6_takesText_84 : decode cX6_takesText 84 = .ok (.getfield 58, 3) := by decide +kernel
theorem dX6_takesText_87 : decode cX6_takesText 87 = .ok (.i2l, 1) := by decide +kernel
theorem dX6_takesText_88 : decode cX6_takesText 88 = .ok (.lastore, 1) := by decide +kernel
theorem dX6_takesText_89 : decode cX6_takesText 89 = .ok (.aload_n 0, 1) := by decide +kernel
theorem dX6_takesText_90 : decode cX6_takesText 90 = .ok (.invokevirtual 191, 3) := by decide +kernel
theorem dX6_takesText_93 : decode cX6_takesText 93 = .ok (.aload_n 0, 1) := by decide +kernel
theorem dX6_takesText_94 : decode cX6_takesText 94 = .ok (.getfield 19, 3) := by decide +kernel
theorem dX6_takesText_97 : decode cX6_takesText 97 = .ok (.iconst 0, 1) := by decide +kernel
theorem dX6_takesText_98 : decode cX6_takesText 98 = .ok (.iconst 0, 1) := by decide +kernel
theorem dX6_takesText_99 : decode cX6_takesText 99 = .ok (.bastore, 1) := by decide +kernel
theorem dX6_takesText_100 : decode cX6_takesText 100 = .ok (.aload_n 0, 1) := by decide +kernel
theorem dX6_takesText_101 : decode cX6_takesText 101 = .ok (.getfield 19, 3) := by decide +kernel
theorem dX6_takesText_104 : decode cX6_takesText 104 = .ok (.iconst 1, 1) := by decide +kernel
theorem dX6_takesText_105 : decode cX6_takesText 105 = .ok (.iconst 0, 1) := by decide +kernel
theorem dX6_takesText_106 : decode cX6_takesText 106 = .ok (.bastore, 1) := by decide +kernel
theorem dX6_takesText_107 : decode cX6_takesText 107 = .ok (.return_, 1) := by decide +kernel
set_option maxHeartbeats 4000000 in
set_option maxRecDepth 100000 in
theorem X6_takesText (l : Launch) (κ : Kt) (σ0 : Gh) (this : Nat) (t_this : zk σ0 this 20) (h0 : 0 ≤ (zI σ0 this 13).toInt) (h1 : (zI σ0 this 13).toInt ≤ 700) (h2 : 2 ≤ (zI σ0 this 18).toInt) (h3 : (zI σ0 this 18).toInt ≤ 48) (h4 : PL (zI σ0 this 18).toInt.toNat (zI σ0 (kR κ this 25))) : TC l yX6_takesText cX6_takesText 2 none 1 23 [.ref this] κ σ0 (tqv κ gTT σ0 (fun (τ : Gh) => (RI κ τ this))) := by
  refine TC.of gTT (by decide +kernel) (Nat.le_of_ble_eq_true rfl) ?_
  intro p e s m below meth c ls hcs hK hX hT hl
  obtain ⟨hx, hb, hr, hml, hown, hg, hlocks, hin⟩ := hcs
  have hown : s.vm.findClass RX6 = some m.cls := hown
  have hl : lv_has ls 2 [(0, .ref this)] := hl
  have hT0 := hT
  have n0 : (0 : Int32).toInt = 0 := by decide
  have n1 : (1 : Int32).toInt = 1 := by decide
  have n2 : (2 : Int32).toInt = 2 := by decide
  generalize hQ9 : tQ _ _ _ _ _ _ = Q9
  obtain ⟨rW, erW⟩ : ∃ z, kR κ this 1 = z := ⟨_, rfl⟩
  have trW : zk σ0 rW 21 := by rw [← erW]; exact hT0.ref t_this (by decide) (by decide) (by decide)
  obtain ⟨rP, erP⟩ : ∃ z, kR κ this 5 = z := ⟨_, rfl⟩
  have trP : zk σ0 rP 25 := by rw [← erP]; exact hT0.ref t_this (by decide) (by decide) (by decide)
  obtain ⟨rQ, erQ⟩ : ∃ z, kR κ this 25 = z := ⟨_, rfl⟩
  have trQ : zk σ0 rQ 27 := by rw [← erQ]; exact hT0.ref t_this (by decide) (by decide) (by decide)
  rw [erQ] at h4
  obtain ⟨v1, ev1⟩ : ∃ zz9 : Int32, zI σ0 this 18 = zz9 := ⟨_, rfl⟩
  have qv1 : v1.toInt = (zI σ0 this 18).toInt := by rw [ev1]
  refine lv_aload_n hx hb dX6_takesText_0 rfl (lv_at hl 0 rfl) ?_
  refine lv_aload_n hx hb dX6_takesText_1 rfl (lv_at hl 0 rfl) ?_
  refine va_get (D := κ.1) (ci := 6) (v := .int (zI σ0 this 18)) (C := RX6) (T := TX6) (N := 27) hx hb hg inX6 hown hK (hT.o20 (hT.k t_this (by decide))).one 0 rfl rfl 18 (by decide) (hg _ k1237) (fun _ h9 => h9) rfl dX6_takesText_2 ?_
  rw [(hT.eI t_this (by decide) rfl ev1)]
  have hTo := hT
  refine pf20_7 hx hb hg hown hK hT (hT.k t_this (by decide)) rfl (hg _ k1226) dX6_takesText_5 (fun H locs s2 hus2 hT => ?_)
  have e3 : zI s2 this 7 = v1 := zput_at hus2
  refine lv_aload_n hx hb dX6_takesText_8 rfl (lv_at hl 0 rfl) ?_
  refine lv_aload_n hx hb dX6_takesText_9 rfl (lv_at hl 0 rfl) ?_
  obtain ⟨v4, ev4⟩ : ∃ zz9 : Int32, zI σ0 this 19 = zz9 := ⟨_, rfl⟩
  have qv4 : v4.toInt = (zI σ0 this 19).toInt := by rw [ev4]
  refine va_get (D := κ.1) (ci := 6) (v := .int (zI s2 this 19)) (C := RX6) (T := TX6) (N := 27) hx hb hg inX6 hown hK (hT.o20 (hT.k t_this (by decide))).one 0 rfl rfl 19 (by decide) (hg _ k1238) (fun _ h9 => h9) rfl dX6_takesText_10 ?_
  rw [(hT.eI t_this (by decide) rfl ev4)]
  have hTo := hT
  refine pf20_8 hx hb hg hown hK hT (hT.k t_this (by decide)) rfl (hg _ k1227) dX6_takesText_13 (fun H locs s5 hus5 hT => ?_)
  have e3 : zI s5 this 7 = v1 := (zput_o hus5 (Or.inr (by decide))).trans e3
  have e6 : zI s5 this 8 = v4 := zput_at hus5
  refine lv_iconst (v := 0) hx hb dX6_takesText_16 (by decide) ?_
  refine lv_istore_n (lv' := [(1, .int 0), (0, .ref this)]) hx hb dX6_takesText_17 rfl hl (by decide) rfl (fun ls hl => ?_)
  have loop18 : ∀ (n9 : Nat) (k : Int32) (H : Heap) (locs : List Loc) (sg : Gh) (ls : Array Slot), TS κ gTT σ0 sg s H locs → (zI sg this 7 = v1) → (0 ≤ k.toInt) → (k.toInt ≤ (v1 : Int32).toInt) → (∀ j : Nat, j < ix k → zI sg rP j = zI σ0 rQ j) → lv_has ls 2 [(1, .int k), (0, .ref this)] → (48 - k.toInt) < n9 → tW p l e 1 23 κ s m #[.ref this] below meth c H locs Q9 (F0 m 18 ls []) := by
    intro n9
    induction n9 with
    | zero =>
      intro k H locs sg ls hT kthis_7 q1 q2 q3 hl hm9
      exfalso
      omega
    | succ n9 ih9 =>
      have ih18 := ih9
      clear ih9
      intro k H locs s7 ls hT kthis_7 q1 q2 q3 hl hm9
      refine lv_iload_n hx hb dX6_takesText_18 rfl (lv_at hl 0 rfl) ?_
      refine lv_aload_n hx hb dX6_takesText_19 rfl (lv_at hl 1 rfl) ?_
      refine va_get (D := κ.1) (ci := 6) (v := .int (zI s7 this 7)) (C := RX6) (T := TX6) (N := 27) hx hb hg inX6 hown hK (hT.o20 (hT.k t_this (by decide))).one 0 rfl rfl 7 (by decide) (hg _ k1226) (fun _ h9 => h9) rfl dX6_takesText_20 ?_
      rw [kthis_7]
      refine lv_icmp_ge (tgt := 56) hx hb dX6_takesText_23 (by decide) (fun c9 => ?_) (fun c9 => ?_)
      · have c1 := gi_le c9
        refine lv_aload_n hx hb dX6_takesText_56 rfl (lv_at hl 1 rfl) ?_
        refine va_get (D := κ.1) (ci := 6) (v := .ref (kR κ this 1)) (C := RX6) (T := TX6) (N := 27) hx hb hg inX6 hown hK (hT.o20 (hT.k t_this (by decide))).one 0 rfl rfl 1 (by decide) (hg _ k1220) (fun _ h9 => h9) rfl dX6_takesText_57 ?_
        rw [erW]
        refine lv_iconst (v := 0) hx hb dX6_takesText_60 (by decide) ?_
        refine lv_aload_n hx hb dX6_takesText_61 rfl (lv_at hl 1 rfl) ?_
        obtain ⟨v8, ev8⟩ : ∃ zz9 : Int32, zI σ0 this 20 = zz9 := ⟨_, rfl⟩
        have qv8 : v8.toInt = (zI σ0 this 20).toInt := by rw [ev8]
        refine va_get (D := κ.1) (ci := 6) (v := .int (zI s7 this 20)) (C := RX6) (T := TX6) (N := 27) hx hb hg inX6 hown hK (hT.o20 (hT.k t_this (by decide))).one 0 rfl rfl 20 (by decide) (hg _ k1239) (fun _ h9 => h9) rfl dX6_takesText_62 ?_
        rw [(hT.eI t_this (by decide) rfl ev8)]
        refine lv_i2l hx hb dX6_takesText_65 rfl ?_
        refine g_i2l (fun t9 ht9 => ?_)
        have hTo := hT
        refine tastl (n := 609) hx hb hK hT (hT.k trW (by decide)) ⟨by decide, by decide⟩ (fun _ _ _ => rfl) (fun _ _ => trivial) (fun _ => rfl) (by omega) (by omega) dX6_takesText_66 (fun H locs s10 hus10 hT => ?_)
        have kthis_7 : zI s10 this 7 = v1 := by rw [zpul_I hus10]; exact kthis_7
        have Y11 : ∀ j : Nat, j < ix k → zI s10 rP j = zI σ0 rQ j := by first | (rw [show zI s10 rP = zI s7 rP from (zpul_I hus10)]; exact q3) | rw [show zI s10 rP = zI s7 rP from (zpul_I hus10)]
        refine lv_aload_n hx hb dX6_takesText_67 rfl (lv_at hl 1 rfl) ?_
        refine va_get (D := κ.1) (ci := 6) (v := .ref (kR κ this 1)) (C := RX6) (T := TX6) (N := 27) hx hb hg inX6 hown hK (hT.o20 (hT.k t_this (by decide))).one 0 rfl rfl 1 (by decide) (hg _ k1220) (fun _ h9 => h9) rfl dX6_takesText_68 ?_
        rw [erW]
        refine lv_iconst (v := 1) hx hb dX6_takesText_71 (by decide) ?_
        refine lv_aload_n hx hb dX6_takesText_72 rfl (lv_at hl 1 rfl) ?_
        obtain ⟨v12, ev12⟩ : ∃ zz9 : Int32, zI σ0 this 21 = zz9 := ⟨_, rfl⟩
        have qv12 : v12.toInt = (zI σ0 this 21).toInt := by rw [ev12]
        refine va_get (D := κ.1) (ci := 6) (v := .int (zI s10 this 21)) (C := RX6) (T := TX6) (N := 27) hx hb hg inX6 hown hK (hT.o20 (hT.k t_this (by decide))).one 0 rfl rfl 21 (by decide) (hg _ k1240) (fun _ h9 => h9) rfl dX6_takesText_73 ?_
        rw [(hT.eI t_this (by decide) rfl ev12)]
        refine lv_i2l hx hb dX6_takesText_76 rfl ?_
        refine g_i2l (fun t13 ht13 => ?_)
        have hTo := hT
        refine tastl (n := 609) hx hb hK hT (hT.k trW (by decide)) ⟨by decide, by decide⟩ (fun _ _ _ => rfl) (fun _ _ => trivial) (fun _ => rfl) (by omega) (by omega) dX6_takesText_77 (fun H locs s14 hus14 hT => ?_)
        have kthis_7 : zI s14 this 7 = v1 := by rw [zpul_I hus14]; exact kthis_7
        have Y15 : ∀ j : Nat, j < ix k → zI s14 rP j = zI σ0 rQ j := by first | (rw [show zI s14 rP = zI s10 rP from (zpul_I hus14)]; exact Y11) | rw [show zI s14 rP = zI s10 rP from (zpul_I hus14)]
        refine lv_aload_n hx hb dX6_takesText_78 rfl (lv_at hl 1 rfl) ?_
        refine va_get (D := κ.1) (ci := 6) (v := .ref (kR κ this 1)) (C := RX6) (T := TX6) (N := 27) hx hb hg inX6 hown hK (hT.o20 (hT.k t_this (by decide))).one 0 rfl rfl 1 (by decide) (hg _ k1220) (fun _ h9 => h9) rfl dX6_takesText_79 ?_
        rw [erW]
        refine lv_iconst (v := 2) hx hb dX6_takesText_82 (by decide) ?_
        refine lv_aload_n hx hb dX6_takesText_83 rfl (lv_at hl 1 rfl) ?_
        obtain ⟨v16, ev16⟩ : ∃ zz9 : Int32, zI σ0 this 22 = zz9 := ⟨_, rfl⟩
        have qv16 : v16.toInt = (zI σ0 this 22).toInt := by rw [ev16]
        refine va_get (D := κ.1) (ci := 6) (v := .int (zI s14 this 22)) (C := RX6) (T := TX6) (N := 27) hx hb hg inX6 hown hK (hT.o20 (hT.k t_this (by decide))).one 0 rfl rfl 22 (by decide) (hg _ k1241) (fun _ h9 => h9) rfl dX6_takesText_84 ?_
        rw [(hT.eI t_this (by decide) rfl ev16)]
        refine lv_i2l hx hb dX6_takesText_87 rfl ?_
        refine g_i2l (fun t17 ht17 => ?_)
        have hTo := hT
        refine tastl (n := 609) hx hb hK hT (hT.k trW (by decide)) ⟨by decide, by decide⟩ (fun _ _ _ => rfl) (fun _ _ => trivial) (fun _ => rfl) (by omega) (by omega) dX6_takesText_88 (fun H locs s18 hus18 hT => ?_)
        have kthis_7 : zI s18 this 7 = v1 := by rw [zpul_I hus18]; exact kthis_7
        have Y19 : ∀ j : Nat, j < ix k → zI s18 rP j = zI σ0 rQ j := by first | (rw [show zI s18 rP = zI s14 rP from (zpul_I hus18)]; exact Y15) | rw [show zI s18 rP = zI s14 rP from (zpul_I hus18)]
        refine lv_aload_n hx hb dX6_takesText_89 rfl (lv_at hl 1 rfl) ?_
        have e7a : zI s18 this 7 = v1 := kthis_7
        have hTo := hT
        refine tVv (n := 0) (As := []) (rest := []) hx hb hml hown hg hT hK hX (X6_anew l κ s18 this  (hT.k t_this (by decide)) (by rw [erP, show rN s18 this = (zI σ0 this 18).toInt.toNat from by unfold rN; rw [(show zI s18 this 7 = v1 from kthis_7), ev1]]; exact h4.congr (fun j hj => Y19 j (by rw [ev1] at hj; unfold ix; omega))) (by rw [(show zI s18 this 7 = v1 from kthis_7)]; omega) (by rw [(show zI s18 this 7 = v1 from kthis_7)]; omega)) sub_gW_gTT (mwV k1214 k1216 k35 k92 k1217) ⟨rfl, by decide, by decide, by decide +kernel⟩ ⟨(Nat.le_of_ble_eq_true rfl), (Nat.le_of_ble_eq_true rfl)⟩ (hT.o20 (hT.k t_this (by decide))) rfl rfl hl.1 rfl (Nat.le_of_ble_eq_true rfl) dX6_takesText_90 zroom.rf (fun s21 H locs hφ hEs21 hT => ?_)
        have kthis_7 : zI s21 this 7 = v1 := ((hTo.k t_this (by decide)).eI hEs21 (by decide) rfl).trans kthis_7
        have Y22 : ∀ j : Nat, j < ix k → zI s21 rP j = zI σ0 rQ j := by first | (rw [show zI s21 rP = zI s18 rP from funext fun k => (hTo.k trP (by decide)).eI hEs21 (by decide) rfl]; exact Y19) | rw [show zI s21 rP = zI s18 rP from funext fun k => (hTo.k trP (by decide)).eI hEs21 (by decide) rfl]
        have f23 := hφ
        try simp only [erW, erP, ix_0, ix_1, ix_2, ix_3, ix_4, ix_5, ix_6, ix_7, ix_8, ix_9] at f23
        refine lv_aload_n hx hb dX6_takesText_93 rfl (lv_at hl 1 rfl) ?_
        obtain ⟨r24, er24⟩ : ∃ z, kR κ this 4 = z := ⟨_, rfl⟩
        have tr24 : zk σ0 r24 29 := by rw [← er24]; exact hT0.ref t_this (by decide) (by decide) (by decide)
        refine va_get (D := κ.1) (ci := 6) (v := .ref (kR κ this 4)) (C := RX6) (T := TX6) (N := 27) hx hb hg inX6 hown hK (hT.o20 (hT.k t_this (by decide))).one 0 rfl rfl 4 (by decide) (hg _ k1223) (fun _ h9 => h9) rfl dX6_takesText_94 ?_
        rw [er24]
        refine lv_iconst (v := 0) hx hb dX6_takesText_97 (by decide) ?_
        refine lv_iconst (v := 0) hx hb dX6_takesText_98 (by decide) ?_
        have hTo := hT
        refine tastz (n := 2) hx hb hK hT (hT.k tr24 (by decide)) ⟨by decide, by decide⟩ (fun _ _ _ => rfl) (fun _ _ => trivial) (fun _ => rfl) (by omega) (by omega) dX6_takesText_99 (fun H locs s25 hus25 hT => ?_)
        have kthis_7 : zI s25 this 7 = v1 := (zput_o hus25 (Or.inl ((hTo.k t_this (by decide)).ne (hTo.k tr24 (by decide)) (by decide)))).trans kthis_7
        have Y26 : ∀ j : Nat, j < ix k → zI s25 rP j = zI σ0 rQ j := by first | (rw [show zI s25 rP = zI s21 rP from zput_Io hus25 ((hTo.k trP (by decide)).ne (hTo.k tr24 (by decide)) (by decide))]; exact Y22) | rw [show zI s25 rP = zI s21 rP from zput_Io hus25 ((hTo.k trP (by decide)).ne (hTo.k tr24 (by decide)) (by decide))]
        refine lv_aload_n hx hb dX6_takesText_100 rfl (lv_at hl 1 rfl) ?_
        refine va_get (D := κ.1) (ci := 6) (v := .ref (kR κ this 4)) (C := RX6) (T := TX6) (N := 27) hx hb hg inX6 hown hK (hT.o20 (hT.k t_this (by decide))).one 0 rfl rfl 4 (by decide) (hg _ k1223) (fun _ h9 => h9) rfl dX6_takesText_101 ?_
        rw [er24]
        refine lv_iconst (v := 1) hx hb dX6_takesText_104 (by decide) ?_
        refine lv_iconst (v := 0) hx hb dX6_takesText_105 (by decide) ?_
        have hTo := hT
        refine tastz (n := 2) hx hb hK hT (hT.k tr24 (by decide)) ⟨by decide, by decide⟩ (fun _ _ _ => rfl) (fun _ _ => trivial) (fun _ => rfl) (by omega) (by omega) dX6_takesText_106 (fun H locs s27 hus27 hT => ?_)
        have kthis_7 : zI s27 this 7 = v1 := (zput_o hus27 (Or.inl ((hTo.k t_this (by decide)).ne (hTo.k tr24 (by decide)) (by decide)))).trans kthis_7
        have Y28 : ∀ j : Nat, j < ix k → zI s27 rP j = zI σ0 rQ j := by first | (rw [show zI s27 rP = zI s25 rP from zput_Io hus27 ((hTo.k trP (by decide)).ne (hTo.k tr24 (by decide)) (by decide))]; exact Y26) | rw [show zI s27 rP = zI s25 rP from zput_Io hus27 ((hTo.k trP (by decide)).ne (hTo.k tr24 (by decide)) (by decide))]
        have z0 : zI s25 r24 (ix 0) = 0 := zput_at hus25
        have z1 : zI s27 r24 (ix 1) = 0 := zput_at hus27
        have z2 : zI s27 r24 (ix 0) = 0 := (zput_o hus27 (Or.inr (by decide))).trans z0
        rw [ix_0] at z2
        rw [ix_1] at z1
        have z3 : WI (rN s27 this) (zJ s27 rW) := by have z9 := f23; rw [← (show rN s27 this = rN s18 this from by unfold rN; rw [(show zI s27 this 7 = v1 from kthis_7), e7a]), ← zput_J (x := rW) hus25, ← zput_J (x := rW) hus27] at z9; exact z9
        subst hQ9
        exact t_v hx hb hr hlocks hT (RI.fresh0 ⟨hT.k t_this (by decide), by rw [erW]; exact hT.k trW (by decide), hT0.ref3 hT t_this, hT0.ref4 hT t_this, by rw [erP]; exact hT.k trP (by decide)⟩ (by rw [erW]; exact z3) (by rw [erP, show rN s27 this = (zI σ0 this 18).toInt.toNat from by unfold rN; rw [(show zI s27 this 7 = v1 from kthis_7), ev1]]; exact h4.congr (fun j hj => Y28 j (by rw [ev1] at hj; unfold ix; omega))) (by rw [er24]; exact ⟨z2, z1⟩) (by rw [hT.eI t_this (by decide) rfl rfl]; exact ⟨h0, h1⟩)) dX6_takesText_107
      · have c2 := gi_nle c9
        refine lv_aload_n hx hb dX6_takesText_26 rfl (lv_at hl 1 rfl) ?_
        refine va_get (D := κ.1) (ci := 6) (v := .ref (kR κ this 5)) (C := RX6) (T := TX6) (N := 27) hx hb hg inX6 hown hK (hT.o20 (hT.k t_this (by decide))).one 0 rfl rfl 5 (by decide) (hg _ k1224) (fun _ h9 => h9) rfl dX6_takesText_27 ?_
        rw [erP]
        refine lv_iload_n hx hb dX6_takesText_30 rfl (lv_at hl 0 rfl) ?_
        refine lv_aload_n hx hb dX6_takesText_31 rfl (lv_at hl 1 rfl) ?_
        refine va_get (D := κ.1) (ci := 6) (v := .ref (kR κ this 25)) (C := RX6) (T := TX6) (N := 27) hx hb hg inX6 hown hK (hT.o20 (hT.k t_this (by decide))).one 0 rfl rfl 25 (by decide) (hg _ k1244) (fun _ h9 => h9) rfl dX6_takesText_32 ?_
        rw [erQ]
        refine lv_iload_n hx hb dX6_takesText_35 rfl (lv_at hl 0 rfl) ?_
        refine va_iald hx hb hK (hT.o27 (hT.k trQ (by decide))).one 0 0 rfl rfl (g_in (by omega) (by omega)) dX6_takesText_36 ?_
        refine lv_topi (fun t29 ht29 => ?_)
        have hTo := hT
        refine tasti (n := 48) hx hb hK hT (hT.k trP (by decide)) ⟨by decide, by decide⟩ (fun _ _ _ => rfl) (fun _ _ => trivial) (fun _ => rfl) (by omega) (by omega) dX6_takesText_37 (fun H locs s30 hus30 hT => ?_)
        have kthis_7 : zI s30 this 7 = v1 := (zput_o hus30 (Or.inl ((hTo.k t_this (by decide)).ne (hTo.k trP (by decide)) (by decide)))).trans kthis_7
        have Y31 : ∀ j : Nat, j < ix k + 1 → zI s30 rP j = zI σ0 rQ j := fun j hj => (Classical.em (j = ix k)).elim (fun e9 => by rw [e9, zput_at hus30, ht29]; exact hTo.eI trQ (by decide) rfl rfl) (fun e9 => (zput_o hus30 (Or.inr e9)).trans (q3 j (by omega)))
        refine lv_aload_n hx hb dX6_takesText_38 rfl (lv_at hl 1 rfl) ?_
        obtain ⟨r32, er32⟩ : ∃ z, kR κ this 6 = z := ⟨_, rfl⟩
        have tr32 : zk σ0 r32 26 := by rw [← er32]; exact hT0.ref t_this (by decide) (by decide) (by decide)
        refine va_get (D := κ.1) (ci := 6) (v := .ref (kR κ this 6)) (C := RX6) (T := TX6) (N := 27) hx hb hg inX6 hown hK (hT.o20 (hT.k t_this (by decide))).one 0 rfl rfl 6 (by decide) (hg _ k1225) (fun _ h9 => h9) rfl dX6_takesText_39 ?_
        rw [er32]
        refine lv_iload_n hx hb dX6_takesText_42 rfl (lv_at hl 0 rfl) ?_
        refine lv_aload_n hx hb dX6_takesText_43 rfl (lv_at hl 1 rfl) ?_
        obtain ⟨r33, er33⟩ : ∃ z, kR κ this 26 = z := ⟨_, rfl⟩
        have tr33 : zk σ0 r33 28 := by rw [← er33]; exact hT0.ref t_this (by decide) (by decide) (by decide)
        refine va_get (D := κ.1) (ci := 6) (v := .ref (kR κ this 26)) (C := RX6) (T := TX6) (N := 27) hx hb hg inX6 hown hK (hT.o20 (hT.k t_this (by decide))).one 0 rfl rfl 26 (by decide) (hg _ k1245) (fun _ h9 => h9) rfl dX6_takesText_44 ?_
        rw [er33]
        refine lv_iload_n hx hb dX6_takesText_47 rfl (lv_at hl 0 rfl) ?_
        refine va_iald hx hb hK (hT.o28 (hT.k tr33 (by decide))).one 0 0 rfl rfl (g_in (by omega) (by omega)) dX6_takesText_48 ?_
        refine lv_topi (fun t34 ht34 => ?_)
        have hTo := hT
        refine tasti (n := 48) hx hb hK hT (hT.k tr32 (by decide)) ⟨by decide, by decide⟩ (fun _ _ _ => rfl) (fun _ _ => trivial) (fun _ => rfl) (by omega) (by omega) dX6_takesText_49 (fun H locs s35 hus35 hT => ?_)
        have kthis_7 : zI s35 this 7 = v1 := (zput_o hus35 (Or.inl ((hTo.k t_this (by decide)).ne (hTo.k tr32 (by decide)) (by decide)))).trans kthis_7
        have Y36 : ∀ j : Nat, j < ix k + 1 → zI s35 rP j = zI σ0 rQ j := by first | (rw [show zI s35 rP = zI s30 rP from zput_Io hus35 ((hTo.k trP (by decide)).ne (hTo.k tr32 (by decide)) (by decide))]; exact Y31) | rw [show zI s35 rP = zI s30 rP from zput_Io hus35 ((hTo.k trP (by decide)).ne (hTo.k tr32 (by decide)) (by decide))]
        obtain ⟨t37, qt37⟩ : ∃ zz9 : Int32, k + Int32.ofInt 1 = zz9 := ⟨_, rfl⟩
        refine lv_iinc (v := t37) (lv' := [(1, .int t37), (0, .ref this)]) hx hb dX6_takesText_50 hl (k := 0) rfl qt37 (by decide) rfl (fun ls hl => ?_)
        have ht37 : t37.toInt = k.toInt + 1 := by rw [← qt37]; exact v_addi rfl (show (Int32.ofInt 1).toInt = 1 from by decide) (by omega) (by omega)
        refine lv_goto (tgt := 18) hx hb dX6_takesText_53 (by decide) ?_
        exact ih18 t37 _ _ _ _ hT kthis_7 (by omega) (by omega) (by rw [show ix t37 = ix k + 1 from by unfold ix; omega]; exact Y36) hl (by omega)
  exact loop18 ((48 - (0 : Int32).toInt).toNat + 1) 0 _ _ _ _ hT e3 (by omega) (by omega) (fun j hj => by rw [ix_0] at hj; omega) hl (by omega)
set_option maxHeartbeats 4000000 in
set_option maxRecDepth 100000 in
theorem X6_load (l : Launch) (κ : Kt) (σ0 : Gh) (this : Nat) (t_this : zk σ0 this 20) (h0 : RI κ σ0 this) : TC l yX6_load cX6_load 1 (some .int) 8 185 [.ref this] κ σ0 (tqi κ gLd σ0 (fun (r : Int32) (τ : Gh) => (RI κ τ this) ∧ ((zI τ this 13).toInt = 0))) := by
  refine TC.of gLd (by decide +kernel) (Nat.le_of_ble_eq_true rfl) ?_
  intro p e s m below meth c ls hcs hK hX hT hl
  obtain ⟨hx, hb, hr, hml, hown, hg, hlocks, hin⟩ := hcs
  have hown : s.vm.findClass RX6 = some m.cls := hown
  have hl : lv_has ls 1 [(0, .ref this)] := hl
  have hT0 := hT
  have nm1 : ((-1) : Int32).toInt = (-1) := by decide
  have n0 : (0 : Int32).toInt = 0 := by decide
  have n1 : (1 : Int32).toInt = 1 := by decide
  have n2 : (2 : Int32).toInt = 2 := by decide
  generalize hQ9 : tQ _ _ _ _ _ _ = Q9
  obtain ⟨rW, erW⟩ : ∃ z, kR κ this 1 = z := ⟨_, rfl⟩
  have trW : zk σ0 rW 21 := by rw [← erW]; exact h0.1.2.1
  obtain ⟨rP, erP⟩ : ∃ z, kR κ this 5 = z := ⟨_, rfl⟩
  have trP : zk σ0 rP 25 := by rw [← erP]; exact h0.1.2.2.2.2
  have hB0 := h0.b
  rw [erW] at hB0
  have hW := h0.2.1
  rw [erW] at hW
  have hP := h0.2.2.1
  rw [erP] at hP
  have hrN : (rN σ0 this : Int) = (zI σ0 this 7).toInt := by unfold rN; omega
  obtain ⟨rQ, erQ⟩ : ∃ z, kR κ this 25 = z := ⟨_, rfl⟩
  have trQ : zk σ0 rQ 27 := by rw [← erQ]; exact hT0.ref t_this (by decide) (by decide) (by decide)
  refine lv_aload_n hx hb dX6_load_0 rfl (lv_at hl 0 rfl) ?_
  refine lv_iconst (v := 0) hx hb dX6_load_1 (by decide) ?_
  have hTo := hT
  refine pf20_0 hx hb hg hown hK hT (hT.k t_this (by decide)) rfl (hg _ k1219) dX6_load_2 (fun H locs s1 hus1 hT => ?_)
  have R2 : RI κ s1 this := h0.put hus1 (hTo.k t_this (by decide)) (by decide)
  have B3 := R2.b
  rw [erW] at B3
  have e4 : zI s1 this 0 = 0 := zput_at hus1
  refine lv_aload_n hx hb dX6_load_5 rfl (lv_at hl 0 rfl) ?_
  refine lv_iconst (v := 0) hx hb dX6_load_6 (by decide) ?_
  have hTo := hT
  refine pf20_15 hx hb hg hown hK hT (hT.k t_this (by decide)) rfl (hg _ k1234) dX6_load_7 (fun H locs s5 hus5 hT => ?_)
  have e4 : zI s5 this 0 = 0 := (zput_o hus5 (Or.inr (by decide))).trans e4
  have R6 : RI κ s5 this := R2.put hus5 (hTo.k t_this (by decide)) (by decide)
  have B7 := R6.b
  rw [erW] at B7
  have e8 : zI s5 this 15 = 0 := zput_at hus5
  refine lv_aload_n hx hb dX6_load_10 rfl (lv_at hl 0 rfl) ?_
  refine lv_iconst (v := (-1)) hx hb dX6_load_11 (by decide) ?_
  have hTo := hT
  refine pf20_16 hx hb hg hown hK hT (hT.k t_this (by decide)) rfl (hg _ k1235) dX6_load_12 (fun H locs s9 hus9 hT => ?_)
  have e4 : zI s9 this 0 = 0 := (zput_o hus9 (Or.inr (by decide))).trans e4
  have e8 : zI s9 this 15 = 0 := (zput_o hus9 (Or.inr (by decide))).trans e8
  have R10 : RI κ s9 this := R6.put hus9 (hTo.k t_this (by decide)) (by decide)
  have B11 := R10.b
  rw [erW] at B11
  have e12 : zI s9 this 16 = (-1) := zput_at hus9
  refine lv_aload_n hx hb dX6_load_15 rfl (lv_at hl 0 rfl) ?_
  refine lv_iconst (v := 0) hx hb dX6_load_16 (by decide) ?_
  have hTo := hT
  refine pf20_18 hx hb hg hown hK hT (hT.k t_this (by decide)) rfl (hg _ k1237) dX6_load_17 (fun H locs s13 hus13 hT => ?_)
  have e4 : zI s13 this 0 = 0 := (zput_o hus13 (Or.inr (by decide))).trans e4
  have e8 : zI s13 this 15 = 0 := (zput_o hus13 (Or.inr (by decide))).trans e8
  have e12 : zI s13 this 16 = (-1) := (zput_o hus13 (Or.inr (by decide))).trans e12
  have R14 : RI κ s13 this := R10.put hus13 (hTo.k t_this (by decide)) (by decide)
  have B15 := R14.b
  rw [erW] at B15
  have e16 : zI s13 this 18 = 0 := zput_at hus13
  refine lv_aload_n hx hb dX6_load_20 rfl (lv_at hl 0 rfl) ?_
  refine lv_iconst (v := 2) hx hb dX6_load_21 (by decide) ?_
  have hTo := hT
  refine pf20_19 hx hb hg hown hK hT (hT.k t_this (by decide)) rfl (hg _ k1238) dX6_load_22 (fun H locs s17 hus17 hT => ?_)
  have e4 : zI s17 this 0 = 0 := (zput_o hus17 (Or.inr (by decide))).trans e4
  have e8 : zI s17 this 15 = 0 := (zput_o hus17 (Or.inr (by decide))).trans e8
  have e12 : zI s17 this 16 = (-1) := (zput_o hus17 (Or.inr (by decide))).trans e12
  have e16 : zI s17 this 18 = 0 := (zput_o hus17 (Or.inr (by decide))).trans e16
  have R18 : RI κ s17 this := R14.put hus17 (hTo.k t_this (by decide)) (by decide)
  have B19 := R18.b
  rw [erW] at B19
  have e20 : zI s17 this 19 = 2 := zput_at hus17
  refine lv_aload_n hx hb dX6_load_25 rfl (lv_at hl 0 rfl) ?_
  refine lv_iconst (v := 0) hx hb dX6_load_26 (by decide) ?_
  have hTo := hT
  refine pf20_20 hx hb hg hown hK hT (hT.k t_this (by decide)) rfl (hg _ k1239) dX6_load_27 (fun H locs s21 hus21 hT => ?_)
  have e4 : zI s21 this 0 = 0 := (zput_o hus21 (Or.inr (by decide))).trans e4
  have e8 : zI s21 this 15 = 0 := (zput_o hus21 (Or.inr (by decide))).trans e8
  have e12 : zI s21 this 16 = (-1) := (zput_o hus21 (Or.inr (by decide))).trans e12
  have e16 : zI s21 this 18 = 0 := (zput_o hus21 (Or.inr (by decide))).trans e16
  have e20 : zI s21 this 19 = 2 := (zput_o hus21 (Or.inr (by decide))).trans e20
  have R22 : RI κ s21 this := R18.put hus21 (hTo.k t_this (by decide)) (by decide)
  have B23 := R22.b
  rw [erW] at B23
  have e24 : zI s21 this 20 = 0 := zput_at hus21
  refine lv_aload_n hx hb dX6_load_30 rfl (lv_at hl 0 rfl) ?_
  refine lv_iconst (v := 2) hx hb dX6_load_31 (by decide) ?_
  have hTo := hT
  refine pf20_21 hx hb hg hown hK hT (hT.k t_this (by decide)) rfl (hg _ k1240) dX6_load_32 (fun H locs s25 hus25 hT => ?_)
  have e4 : zI s25 this 0 = 0 := (zput_o hus25 (Or.inr (by decide))).trans e4
  have e8 : zI s25 this 15 = 0 := (zput_o hus25 (Or.inr (by decide))).trans e8
  have e12 : zI s25 this 16 = (-1) := (zput_o hus25 (Or.inr (by decide))).trans e12
  have e16 : zI s25 this 18 = 0 := (zput_o hus25 (Or.inr (by decide))).trans e16
  have e20 : zI s25 this 19 = 2 := (zput_o hus25 (Or.inr (by decide))).trans e20
  have e24 : zI s25 this 20 = 0 := (zput_o hus25 (Or.inr (by decide))).trans e24
  have R26 : RI κ s25 this := R22.put hus25 (hTo.k t_this (by decide)) (by decide)
  have B27 := R26.b
  rw [erW] at B27
  have e28 : zI s25 this 21 = 2 := zput_at hus25
  refine lv_aload_n hx hb dX6_load_35 rfl (lv_at hl 0 rfl) ?_
  refine lv_iconst (v := 1) hx hb dX6_load_36 (by decide) ?_
  have hTo := hT
  refine pf20_22 hx hb hg hown hK hT (hT.k t_this (by decide)) rfl (hg _ k1241) dX6_load_37 (fun H locs s29 hus29 hT => ?_)
  have e4 : zI s29 this 0 = 0 := (zput_o hus29 (Or.inr (by decide))).trans e4
  have e8 : zI s29 this 15 = 0 := (zput_o hus29 (Or.inr (by decide))).trans e8
  have e12 : zI s29 this 16 = (-1) := (zput_o hus29 (Or.inr (by decide))).trans e12
  have e16 : zI s29 this 18 = 0 := (zput_o hus29 (Or.inr (by decide))).trans e16
  have e20 : zI s29 this 19 = 2 := (zput_o hus29 (Or.inr (by decide))).trans e20
  have e24 : zI s29 this 20 = 0 := (zput_o hus29 (Or.inr (by decide))).trans e24
  have e28 : zI s29 this 21 = 2 := (zput_o hus29 (Or.inr (by decide))).trans e28
  have R30 : RI κ s29 this := R26.put hus29 (hTo.k t_this (by decide)) (by decide)
  have B31 := R30.b
  rw [erW] at B31
  have e32 : zI s29 this 22 = 1 := zput_at hus29
  refine lv_aload_n hx hb dX6_load_40 rfl (lv_at hl 0 rfl) ?_
  refine lv_iconst (v := 0) hx hb dX6_load_41 (by decide) ?_
  have hTo := hT
  refine pf20_23 hx hb hg hown hK hT (hT.k t_this (by decide)) rfl (hg _ k1242) dX6_load_42 (fun H locs s33 hus33 hT => ?_)
  have e4 : zI s33 this 0 = 0 := (zput_o hus33 (Or.inr (by decide))).trans e4
  have e8 : zI s33 this 15 = 0 := (zput_o hus33 (Or.inr (by decide))).trans e8
  have e12 : zI s33 this 16 = (-1) := (zput_o hus33 (Or.inr (by decide))).trans e12
  have e16 : zI s33 this 18 = 0 := (zput_o hus33 (Or.inr (by decide))).trans e16
  have e20 : zI s33 this 19 = 2 := (zput_o hus33 (Or.inr (by decide))).trans e20
  have e24 : zI s33 this 20 = 0 := (zput_o hus33 (Or.inr (by decide))).trans e24
  have e28 : zI s33 this 21 = 2 := (zput_o hus33 (Or.inr (by decide))).trans e28
  have e32 : zI s33 this 22 = 1 := (zput_o hus33 (Or.inr (by decide))).trans e32
  have R34 : RI κ s33 this := R30.put hus33 (hTo.k t_this (by decide)) (by decide)
  have B35 := R34.b
  rw [erW] at B35
  have e36 : zI s33 this 23 = 0 := zput_at hus33
  refine lv_aload_n hx hb dX6_load_45 rfl (lv_at hl 0 rfl) ?_
  refine lv_iconst (v := 0) hx hb dX6_load_46 (by decide) ?_
  have hTo := hT
  refine pf20_14 hx hb hg hown hK hT (hT.k t_this (by decide)) rfl (hg _ k1233) dX6_load_47 (fun H locs s37 hus37 hT => ?_)
  have e4 : zI s37 this 0 = 0 := (zput_o hus37 (Or.inr (by decide))).trans e4
  have e8 : zI s37 this 15 = 0 := (zput_o hus37 (Or.inr (by decide))).trans e8
  have e12 : zI s37 this 16 = (-1) := (zput_o hus37 (Or.inr (by decide))).trans e12
  have e16 : zI s37 this 18 = 0 := (zput_o hus37 (Or.inr (by decide))).trans e16
  have e20 : zI s37 this 19 = 2 := (zput_o hus37 (Or.inr (by decide))).trans e20
  have e24 : zI s37 this 20 = 0 := (zput_o hus37 (Or.inr (by decide))).trans e24
  have e28 : zI s37 this 21 = 2 := (zput_o hus37 (Or.inr (by decide))).trans e28
  have e32 : zI s37 this 22 = 1 := (zput_o hus37 (Or.inr (by decide))).trans e32
  have e36 : zI s37 this 23 = 0 := (zput_o hus37 (Or.inr (by decide))).trans e36
  have R38 : RI κ s37 this := R34.put hus37 (hTo.k t_this (by decide)) (by decide)
  have B39 := R38.b
  rw [erW] at B39
  have e40 : zI s37 this 14 = 0 := zput_at hus37
  refine lv_aload_n hx hb dX6_load_50 rfl (lv_at hl 0 rfl) ?_
  refine lv_iconst (v := 0) hx hb dX6_load_51 (by decide) ?_
  have hTo := hT
  refine pf20_17 hx hb hg hown hK hT (hT.k t_this (by decide)) rfl isB0 (hg _ k1236) dX6_load_52 (fun H locs s41 hus41 hT => ?_)
  have e4 : zI s41 this 0 = 0 := (zput_o hus41 (Or.inr (by decide))).trans e4
  have e8 : zI s41 this 15 = 0 := (zput_o hus41 (Or.inr (by decide))).trans e8
  have e12 : zI s41 this 16 = (-1) := (zput_o hus41 (Or.inr (by decide))).trans e12
  have e16 : zI s41 this 18 = 0 := (zput_o hus41 (Or.inr (by decide))).trans e16
  have e20 : zI s41 this 19 = 2 := (zput_o hus41 (Or.inr (by decide))).trans e20
  have e24 : zI s41 this 20 = 0 := (zput_o hus41 (Or.inr (by decide))).trans e24
  have e28 : zI s41 this 21 = 2 := (zput_o hus41 (Or.inr (by decide))).trans e28
  have e32 : zI s41 this 22 = 1 := (zput_o hus41 (Or.inr (by decide))).trans e32
  have e36 : zI s41 this 23 = 0 := (zput_o hus41 (Or.inr (by decide))).trans e36
  have e40 : zI s41 this 14 = 0 := (zput_o hus41 (Or.inr (by decide))).trans e40
  have R42 : RI κ s41 this := R38.put hus41 (hTo.k t_this (by decide)) (by decide)
  have B43 := R42.b
  rw [erW] at B43
  have e44 : zI s41 this 17 = 0 := zput_at hus41
  refine lv_aload_n hx hb dX6_load_55 rfl (lv_at hl 0 rfl) ?_
  obtain ⟨v45, ev45⟩ : ∃ zz9 : Int32, zI s41 this 13 = zz9 := ⟨_, rfl⟩
  have qv45 : v45.toInt = (zI s41 this 13).toInt := by rw [ev45]
  have qq46 : (zI s41 this 13).toInt = v45.toInt := by rw [ev45]
  have qq47 : (zI s41 this 14).toInt = (0 : Int32).toInt := by rw [e40]
  have qq48 : (zI s41 this 17).toInt = (0 : Int32).toInt := by rw [e44]
  have qq49 : (zI s41 this 18).toInt = (0 : Int32).toInt := by rw [e16]
  have hTo := hT
  refine tVv (n := 0) (As := []) (rest := []) hx hb hml hown hg hT hK hX (X6_reads l κ s41 this  (hT.k t_this (by decide)) (by omega) (by omega) (by omega) (by omega) (by omega) (by omega) (by omega)) sub_gS3_gLd (mwV k1328 k1330 k38 k92 k1331) ⟨rfl, by decide, by decide, by decide +kernel⟩ ⟨(Nat.le_of_ble_eq_true rfl), (Nat.le_of_ble_eq_true rfl)⟩ (hT.o20 (hT.k t_this (by decide))) rfl rfl hl.1 rfl (Nat.le_of_ble_eq_true rfl) dX6_load_56 zroom.rf (fun s51 H locs hφ hEs51 hT => ?_)
  have e4 : zI s51 this 0 = 0 := ((hTo.k t_this (by decide)).eI hEs51 (by decide) rfl).trans e4
  have ev45 : zI s51 this 13 = v45 := ((hTo.k t_this (by decide)).eI hEs51 (by decide) rfl).trans ev45
  have R52 : RI κ s51 this := R42.ext hEs51 ⟨rfl, rfl, fun _ => rfl, fun _ => rfl, fun _ => rfl, fun _ => rfl⟩
  have B53 := R52.b
  rw [erW] at B53
  obtain ⟨f54, f55⟩ := hφ
  try simp only [erW, erP, ix_0, ix_1, ix_2, ix_3, ix_4, ix_5, ix_6, ix_7, ix_8, ix_9] at f54
  try simp only [erW, erP, ix_0, ix_1, ix_2, ix_3, ix_4, ix_5, ix_6, ix_7, ix_8, ix_9] at f55
  obtain ⟨v56, ev56⟩ : ∃ zz9 : Int32, zI s51 this 14 = zz9 := ⟨_, rfl⟩
  have qv56 : v56.toInt = (zI s51 this 14).toInt := by rw [ev56]
  obtain ⟨v57, ev57⟩ : ∃ zz9 : Int32, zI s51 this 17 = zz9 := ⟨_, rfl⟩
  have qv57 : v57.toInt = (zI s51 this 17).toInt := by rw [ev57]
  have b58 : isB v57 := by have q9 : isB (zI s51 this 17) := hT.P (hT.k t_this (by decide)) (by decide); rw [ev57] at q9; exact q9
  have b58t := isB_t b58
  obtain ⟨v59, ev59⟩ : ∃ zz9 : Int32, zI s51 this 18 = zz9 := ⟨_, rfl⟩
  have qv59 : v59.toInt = (zI s51 this 18).toInt := by rw [ev59]
  refine lv_aload_n hx hb dX6_load_59 rfl (lv_at hl 0 rfl) ?_
  refine lv_iconst (v := 0) hx hb dX6_load_60 (by decide) ?_
  have hTo := hT
  refine pf20_13 hx hb hg hown hK hT (hT.k t_this (by decide)) rfl (hg _ k1232) dX6_load_61 (fun H locs s60 hus60 hT => ?_)
  have e4 : zI s60 this 0 = 0 := (zput_o hus60 (Or.inr (by decide))).trans e4
  have ev56 : zI s60 this 14 = v56 := (zput_o hus60 (Or.inr (by decide))).trans ev56
  have ev57 : zI s60 this 17 = v57 := (zput_o hus60 (Or.inr (by decide))).trans ev57
  have ev59 : zI s60 this 18 = v59 := (zput_o hus60 (Or.inr (by decide))).trans ev59
  have R61 : RI κ s60 this := R52.putL hus60 ⟨by omega, by omega⟩
  have B62 := R61.b
  rw [erW] at B62
  have e63 : zI s60 this 13 = 0 := zput_at hus60
  refine lv_aload_n hx hb dX6_load_64 rfl (lv_at hl 0 rfl) ?_
  refine va_get (D := κ.1) (ci := 6) (v := .int (zI s60 this 17)) (C := RX6) (T := TX6) (N := 27) hx hb hg inX6 hown hK (hT.o20 (hT.k t_this (by decide))).one 0 rfl rfl 17 (by decide) (hg _ k1236) (fun _ h9 => h9) rfl dX6_load_65 ?_
  rw [ev57]
  refine lv_if_eq (tgt := 77) hx hb dX6_load_68 (by decide) (fun c9 => ?_) (fun c9 => ?_)
  · have c1 := gi_eq c9
    refine lv_aload_n hx hb dX6_load_77 rfl (lv_at hl 0 rfl) ?_
    have qq64 : (zI s60 this 18).toInt = v59.toInt := by rw [ev59]
    have hTo := hT
    refine tVv (n := 0) (As := []) (rest := []) hx hb hml hown hg hT hK hX (X6_takesText l κ s60 this  (hT.k t_this (by decide)) (by omega) (by omega) (by omega) (by omega) (by rw [erQ, zput_o hus60 (Or.inr (by decide)), zput_Io (x := rQ) hus60 ((hTo.k trQ (by decide)).ne (hTo.k t_this (by decide)) (by decide))]; have z9 := f55; rw [erQ] at z9; exact z9.resolve_left (by omega))) sub_gTT_gLd (mwV k1210 k1212 k34 k92 k1213) ⟨rfl, by decide, by decide, by decide +kernel⟩ ⟨(Nat.le_of_ble_eq_true rfl), (Nat.le_of_ble_eq_true rfl)⟩ (hT.o20 (hT.k t_this (by decide))) rfl rfl hl.1 rfl (Nat.le_of_ble_eq_true rfl) dX6_load_78 zroom.rf (fun s66 H locs hφ hEs66 hT => ?_)
    have e4 : zI s66 this 0 = 0 := ((hTo.k t_this (by decide)).eI hEs66 (by decide) rfl).trans e4
    have ev56 : zI s66 this 14 = v56 := ((hTo.k t_this (by decide)).eI hEs66 (by decide) rfl).trans ev56
    have ev57 : zI s66 this 17 = v57 := ((hTo.k t_this (by decide)).eI hEs66 (by decide) rfl).trans ev57
    have ev59 : zI s66 this 18 = v59 := ((hTo.k t_this (by decide)).eI hEs66 (by decide) rfl).trans ev59
    have e63 : zI s66 this 13 = 0 := ((hTo.k t_this (by decide)).eI hEs66 (by decide) rfl).trans e63
    have f68 := hφ
    have B69 := f68.b
    rw [erW] at B69
    refine lv_aload_n hx hb dX6_load_81 rfl (lv_at hl 0 rfl) ?_
    obtain ⟨v70, ev70⟩ : ∃ zz9 : Int32, zI s66 this 7 = zz9 := ⟨_, rfl⟩
    have qv70 : v70.toInt = (zI s66 this 7).toInt := by rw [ev70]
    refine va_get (D := κ.1) (ci := 6) (v := .int (zI s66 this 7)) (C := RX6) (T := TX6) (N := 27) hx hb hg inX6 hown hK (hT.o20 (hT.k t_this (by decide))).one 0 rfl rfl 7 (by decide) (hg _ k1226) (fun _ h9 => h9) rfl dX6_load_82 ?_
    rw [ev70]
    have zz71 : (zI s66 this 13).toInt = (0 : Int32).toInt := by rw [e63]
    subst hQ9
    exact t_i hx hb hr hlocks hT ⟨f68, by omega⟩ dX6_load_85
  · have c2 := gi_ne c9
    refine lv_aload_n hx hb dX6_load_71 rfl (lv_at hl 0 rfl) ?_
    refine lv_iconst (v := 1) hx hb dX6_load_72 (by decide) ?_
    have hTo := hT
    refine tVi (n := 1) (As := [.int 1]) (rest := []) hx hb hml hown hg hT hK hX (X6_fails l κ s60 this 1  (hT.k t_this (by decide)) R61) sub_gR_gLd (mwV k1320 k1322 k37 k92 k1323) ⟨rfl, by decide, by decide, by decide +kernel⟩ ⟨(Nat.le_of_ble_eq_true rfl), (Nat.le_of_ble_eq_true rfl)⟩ (hT.o20 (hT.k t_this (by decide))) rfl rfl hl.1 rfl (Nat.le_of_ble_eq_true rfl) dX6_load_73 zroom.rf (fun x72 s73 H locs hφ hEs73 hT => ?_)
    have ev56 : zI s73 this 14 = v56 := ((hTo.k t_this (by decide)).eI hEs73 (by decide) rfl).trans ev56
    have ev57 : zI s73 this 17 = v57 := ((hTo.k t_this (by decide)).eI hEs73 (by decide) rfl).trans ev57
    have ev59 : zI s73 this 18 = v59 := ((hTo.k t_this (by decide)).eI hEs73 (by decide) rfl).trans ev59
    have e63 : zI s73 this 13 = 0 := ((hTo.k t_this (by decide)).eI hEs73 (by decide) rfl).trans e63
    have R74 : RI κ s73 this := R61.ext hEs73 ⟨rfl, rfl, fun _ => rfl, fun _ => rfl, fun _ => rfl, fun _ => rfl⟩
    have B75 := R74.b
    rw [erW] at B75
    have f76 := hφ
    try simp only [erW, erP, ix_0, ix_1, ix_2, ix_3, ix_4, ix_5, ix_6, ix_7, ix_8, ix_9] at f76
    have zz77 : (zI s73 this 13).toInt = (0 : Int32).toInt := by rw [e63]
    subst hQ9
    exact t_i hx hb hr hlocks hT ⟨R74, by omega⟩ dX6_load_76

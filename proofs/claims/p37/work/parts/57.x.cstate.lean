/-! State: settings copied -/
set_option maxHeartbeats 4000000 in
set_option maxRecDepth 100000 in
theorem X1t_copyFrom (l : Launch) (κ : Kt) (σ0 : Gh) (this : Nat) (o : Nat) (t_this : zk σ0 this 3) (t_o : zk σ0 o 3) : TC l yX1_copyFrom cX1_copyFrom 3 none 4 105 [.ref this, .ref o] κ σ0 (tqv κ fCp σ0 (fun (τ : Gh) => (zI τ this 7 = zI σ0 o 7) ∧ (zI τ this 8 = zI σ0 o 8) ∧ (zI τ this 9 = zI σ0 o 9) ∧ (∀ a : Nat, a ≠ this → zk σ0 a 3 → zI τ a 7 = zI σ0 a 7 ∧ zI τ a 8 = zI σ0 a 8 ∧ zI τ a 9 = zI σ0 a 9))) := by
  refine TC.of fCp (by decide +kernel) (Nat.le_of_ble_eq_true rfl) ?_
  intro p e s m below meth c ls hcs hK hX hT hl
  obtain ⟨hx, hb, hr, hml, hown, hg, hlocks, hin⟩ := hcs
  have hown : s.vm.findClass RX1 = some m.cls := hown
  have hl : lv_has ls 3 [(0, .ref this), (1, .ref o)] := hl
  have hT0 := hT
  have n0 : (0 : Int32).toInt = 0 := by decide
  have n48 : (48 : Int32).toInt = 48 := by decide
  generalize hQ9 : tQ _ _ _ _ _ _ = Q9
  obtain ⟨src, esrc⟩ : ∃ z, kR κ this 0 = z := ⟨_, rfl⟩
  have tsrc : zk σ0 src 4 := by rw [← esrc]; exact hT0.ref t_this (by decide) (by decide) (by decide)
  have bsrc := (hT0.P tsrc (by decide)).1
  have bsrcl := bsrc.1
  have bsrch := bsrc.2
  obtain ⟨v1, ev1⟩ : ∃ zz9 : Int32, zI σ0 o 7 = zz9 := ⟨_, rfl⟩
  have qv1 : v1.toInt = (zI σ0 o 7).toInt := by rw [ev1]
  have zo7 : zI σ0 o 7 = v1 := ev1
  obtain ⟨v2, ev2⟩ : ∃ zz9 : Int32, zI σ0 o 8 = zz9 := ⟨_, rfl⟩
  have qv2 : v2.toInt = (zI σ0 o 8).toInt := by rw [ev2]
  have zo8 : zI σ0 o 8 = v2 := ev2
  obtain ⟨v3, ev3⟩ : ∃ zz9 : Int32, zI σ0 o 9 = zz9 := ⟨_, rfl⟩
  have qv3 : v3.toInt = (zI σ0 o 9).toInt := by rw [ev3]
  have b4 : isB v3 := by have q9 := (hT.P (hT.k t_o (by decide)) (by decide)).2; rw [ev3] at q9; exact q9
  have zo9 : zI σ0 o 9 = v3 := ev3
  refine lv_iconst (v := 0) hx hb dX1_copyFrom_0 (by decide) ?_
  refine lv_istore_n (lv' := [(2, .int 0), (0, .ref this), (1, .ref o)]) hx hb dX1_copyFrom_1 rfl hl (by decide) rfl (fun ls hl => ?_)
  have loop2 : ∀ (n9 : Nat) (i : Int32) (H : Heap) (locs : List Loc) (sg : Gh) (ls : Array Slot), TS κ fCp σ0 sg s H locs → (zI sg o 7 = v1) → (zI sg o 8 = v2) → (zI sg o 9 = v3) → (0 ≤ i.toInt) → (i.toInt ≤ (zI σ0 src 2).toInt) → (∀ a : Nat, a ≠ this → zk σ0 a 3 → zI sg a 7 = zI σ0 a 7 ∧ zI sg a 8 = zI σ0 a 8 ∧ zI sg a 9 = zI σ0 a 9) → lv_has ls 3 [(2, .int i), (0, .ref this), (1, .ref o)] → ((zI σ0 src 2).toInt - i.toInt) < n9 → tW p l e 4 105 κ s m #[.ref this, .ref o] below meth c H locs Q9 (F0 m 2 ls []) := by
    intro n9
    induction n9 with
    | zero =>
      intro i H locs sg ls hT ko_7 ko_8 ko_9 q1 q2 FR hl hm9
      exfalso
      omega
    | succ n9 ih9 =>
      have ih2 := ih9
      clear ih9
      intro i H locs s5 ls hT ko_7 ko_8 ko_9 q1 q2 FR hl hm9
      refine lv_iload_n hx hb dX1_copyFrom_2 rfl (lv_at hl 0 rfl) ?_
      refine lv_aload_n hx hb dX1_copyFrom_3 rfl (lv_at hl 1 rfl) ?_
      refine va_get (D := κ.1) (ci := 1) (v := .ref (kR κ this 0)) (C := RX1) (T := TX1) (N := 13) hx hb hg inX1 hown hK (hT.o3 (hT.k t_this (by decide))).one 0 rfl rfl 0 (by decide) (hg _ k278) (fun _ h9 => h9) rfl dX1_copyFrom_4 ?_
      rw [esrc]
      obtain ⟨v6, ev6⟩ : ∃ zz9 : Int32, zI σ0 src 2 = zz9 := ⟨_, rfl⟩
      have qv6 : v6.toInt = (zI σ0 src 2).toInt := by rw [ev6]
      have b7 := (hT.P (hT.k tsrc (by decide)) (by decide)).1
      rw [(hT.eI tsrc (by decide) rfl ev6)] at b7
      have b7l := b7.1
      have b7h := b7.2
      refine va_get (D := κ.1) (ci := 0) (v := .int (zI s5 src 2)) (C := RX0) (T := TX0) (N := 7) hx hb hg inX0 hown hK (hT.o4 (hT.k tsrc (by decide))).one 0 rfl rfl 2 (by decide) (hg _ k162) (fun _ h9 => h9) rfl dX1_copyFrom_7 ?_
      rw [(hT.eI tsrc (by decide) rfl ev6)]
      refine lv_icmp_ge (tgt := 34) hx hb dX1_copyFrom_10 (by decide) (fun c9 => ?_) (fun c9 => ?_)
      · have c1 := gi_le c9
        refine lv_aload_n hx hb dX1_copyFrom_34 rfl (lv_at hl 2 rfl) ?_
        obtain ⟨r8, er8⟩ : ∃ z, kR κ o 2 = z := ⟨_, rfl⟩
        have tr8 : zk σ0 r8 9 := by rw [← er8]; exact hT0.ref t_o (by decide) (by decide) (by decide)
        refine va_get (D := κ.1) (ci := 1) (v := .ref (kR κ o 2)) (C := RX1) (T := TX1) (N := 13) hx hb hg inX1 hown hK (hT.o3 (hT.k t_o (by decide))).one 0 rfl rfl 2 (by decide) (hg _ k281) (fun _ h9 => h9) rfl dX1_copyFrom_35 ?_
        rw [er8]
        refine lv_iconst (v := 0) hx hb dX1_copyFrom_38 (by decide) ?_
        refine lv_aload_n hx hb dX1_copyFrom_39 rfl (lv_at hl 1 rfl) ?_
        obtain ⟨r9, er9⟩ : ∃ z, kR κ this 2 = z := ⟨_, rfl⟩
        have tr9 : zk σ0 r9 9 := by rw [← er9]; exact hT0.ref t_this (by decide) (by decide) (by decide)
        refine va_get (D := κ.1) (ci := 1) (v := .ref (kR κ this 2)) (C := RX1) (T := TX1) (N := 13) hx hb hg inX1 hown hK (hT.o3 (hT.k t_this (by decide))).one 0 rfl rfl 2 (by decide) (hg _ k281) (fun _ h9 => h9) rfl dX1_copyFrom_40 ?_
        rw [er9]
        refine lv_iconst (v := 0) hx hb dX1_copyFrom_43 (by decide) ?_
        refine lv_bipush (v := 48) hx hb dX1_copyFrom_44 (by decide) ?_
        have hTo := hT
        refine tcopyl (n0 := 48) (n1 := 48) hx hb (hml.trans hl.1.symm) hown (hg _ k1127) (hg _ k362) (hg _ k361) (hg _ k91) hK hT (hT.k tr8 (by decide)) (by decide) (fun _ _ _ => rfl) (hT.k tr9 (by decide)) ⟨by decide, by decide⟩ (fun _ _ _ => rfl) (fun _ _ => trivial) (fun _ => rfl) (by omega) (by omega) (by omega) (by omega) (by omega) (Nat.le_of_ble_eq_true rfl) (Nat.le_of_ble_eq_true rfl) dX1_copyFrom_46 (fun H locs s10 hus10 hT => ?_)
        have ko_7 : zI s10 o 7 = v1 := (by rw [hus10]; exact (congrFun zset_Iid _).trans ko_7)
        have ko_8 : zI s10 o 8 = v2 := (by rw [hus10]; exact (congrFun zset_Iid _).trans ko_8)
        have ko_9 : zI s10 o 9 = v3 := (by rw [hus10]; exact (congrFun zset_Iid _).trans ko_9)
        have fr11 : ∀ a : Nat, a ≠ this → zk σ0 a 3 → zI s10 a 7 = zI σ0 a 7 ∧ zI s10 a 8 = zI σ0 a 8 ∧ zI s10 a 9 = zI σ0 a 9 := fun a ha hk => ⟨((by rw [hus10]; exact congrFun zset_Iid _ : zI s10 a 7 = zI s5 a 7)).trans (FR a ha hk).1, ((by rw [hus10]; exact congrFun zset_Iid _ : zI s10 a 8 = zI s5 a 8)).trans (FR a ha hk).2.1, ((by rw [hus10]; exact congrFun zset_Iid _ : zI s10 a 9 = zI s5 a 9)).trans (FR a ha hk).2.2⟩
        refine lv_aload_n hx hb dX1_copyFrom_49 rfl (lv_at hl 2 rfl) ?_
        obtain ⟨r12, er12⟩ : ∃ z, kR κ o 3 = z := ⟨_, rfl⟩
        have tr12 : zk σ0 r12 15 := by rw [← er12]; exact hT0.ref t_o (by decide) (by decide) (by decide)
        refine va_get (D := κ.1) (ci := 1) (v := .ref (kR κ o 3)) (C := RX1) (T := TX1) (N := 13) hx hb hg inX1 hown hK (hT.o3 (hT.k t_o (by decide))).one 0 rfl rfl 3 (by decide) (hg _ k283) (fun _ h9 => h9) rfl dX1_copyFrom_50 ?_
        rw [er12]
        refine lv_iconst (v := 0) hx hb dX1_copyFrom_53 (by decide) ?_
        refine lv_aload_n hx hb dX1_copyFrom_54 rfl (lv_at hl 1 rfl) ?_
        obtain ⟨r13, er13⟩ : ∃ z, kR κ this 3 = z := ⟨_, rfl⟩
        have tr13 : zk σ0 r13 15 := by rw [← er13]; exact hT0.ref t_this (by decide) (by decide) (by decide)
        refine va_get (D := κ.1) (ci := 1) (v := .ref (kR κ this 3)) (C := RX1) (T := TX1) (N := 13) hx hb hg inX1 hown hK (hT.o3 (hT.k t_this (by decide))).one 0 rfl rfl 3 (by decide) (hg _ k283) (fun _ h9 => h9) rfl dX1_copyFrom_55 ?_
        rw [er13]
        refine lv_iconst (v := 0) hx hb dX1_copyFrom_58 (by decide) ?_
        refine lv_bipush (v := 48) hx hb dX1_copyFrom_59 (by decide) ?_
        have hTo := hT
        refine tcopyi (n0 := 48) (n1 := 48) hx hb (hml.trans hl.1.symm) hown (hg _ k1127) (hg _ k362) (hg _ k361) (hg _ k91) hK hT (hT.k tr12 (by decide)) (by decide) (fun _ _ _ => rfl) (hT.k tr13 (by decide)) ⟨by decide, by decide⟩ (fun _ _ _ => rfl) (fun _ _ => trivial) (fun _ => rfl) (by omega) (by omega) (by omega) (by omega) (by omega) (Nat.le_of_ble_eq_true rfl) (Nat.le_of_ble_eq_true rfl) dX1_copyFrom_61 (fun H locs s14 hus14 hT => ?_)
        have ko_7 : zI s14 o 7 = v1 := (by rw [hus14, zset_In ((hTo.k t_o (by decide)).ne (hTo.k tr13 (by decide)) (by decide))]; exact ko_7)
        have ko_8 : zI s14 o 8 = v2 := (by rw [hus14, zset_In ((hTo.k t_o (by decide)).ne (hTo.k tr13 (by decide)) (by decide))]; exact ko_8)
        have ko_9 : zI s14 o 9 = v3 := (by rw [hus14, zset_In ((hTo.k t_o (by decide)).ne (hTo.k tr13 (by decide)) (by decide))]; exact ko_9)
        have fr15 : ∀ a : Nat, a ≠ this → zk σ0 a 3 → zI s14 a 7 = zI σ0 a 7 ∧ zI s14 a 8 = zI σ0 a 8 ∧ zI s14 a 9 = zI σ0 a 9 := fun a ha hk => ⟨((by rw [hus14, zset_In ((hTo.k hk (by decide)).ne (hTo.k tr13 (by decide)) (by decide))] : zI s14 a 7 = zI s10 a 7)).trans (fr11 a ha hk).1, ((by rw [hus14, zset_In ((hTo.k hk (by decide)).ne (hTo.k tr13 (by decide)) (by decide))] : zI s14 a 8 = zI s10 a 8)).trans (fr11 a ha hk).2.1, ((by rw [hus14, zset_In ((hTo.k hk (by decide)).ne (hTo.k tr13 (by decide)) (by decide))] : zI s14 a 9 = zI s10 a 9)).trans (fr11 a ha hk).2.2⟩
        refine lv_iconst (v := 0) hx hb dX1_copyFrom_64 (by decide) ?_
        refine lv_istore_n (lv' := [(2, .int 0), (0, .ref this), (1, .ref o)]) hx hb dX1_copyFrom_65 rfl hl (by decide) rfl (fun ls hl => ?_)
        have loop66 : ∀ (n9 : Nat) (i : Int32) (H : Heap) (locs : List Loc) (sg : Gh) (ls : Array Slot), TS κ fCp σ0 sg s H locs → (zI sg o 7 = v1) → (zI sg o 8 = v2) → (zI sg o 9 = v3) → (0 ≤ i.toInt) → (i.toInt ≤ 46) → (∀ a : Nat, a ≠ this → zk σ0 a 3 → zI sg a 7 = zI σ0 a 7 ∧ zI sg a 8 = zI σ0 a 8 ∧ zI sg a 9 = zI σ0 a 9) → lv_has ls 3 [(2, .int i), (0, .ref this), (1, .ref o)] → (46 - i.toInt) < n9 → tW p l e 4 105 κ s m #[.ref this, .ref o] below meth c H locs Q9 (F0 m 66 ls []) := by
          intro n9
          induction n9 with
          | zero =>
            intro i H locs sg ls hT ko_7 ko_8 ko_9 q1 q2 FR hl hm9
            exfalso
            omega
          | succ n9 ih9 =>
            have ih66 := ih9
            clear ih9
            intro i H locs s16 ls hT ko_7 ko_8 ko_9 q1 q2 FR hl hm9
            refine lv_iload_n hx hb dX1_copyFrom_66 rfl (lv_at hl 0 rfl) ?_
            refine lv_aload_n hx hb dX1_copyFrom_67 rfl (lv_at hl 2 rfl) ?_
            obtain ⟨v17, ev17⟩ : ∃ zz9 : Int32, zI s16 o 5 = zz9 := ⟨_, rfl⟩
            have qv17 : v17.toInt = (zI s16 o 5).toInt := by rw [ev17]
            have b18 := (hT.P (hT.k t_o (by decide)) (by decide)).1
            rw [ev17] at b18
            have b18l := b18.1
            have b18h := b18.2
            refine va_get (D := κ.1) (ci := 1) (v := .int (zI s16 o 5)) (C := RX1) (T := TX1) (N := 13) hx hb hg inX1 hown hK (hT.o3 (hT.k t_o (by decide))).one 0 rfl rfl 5 (by decide) (hg _ k287) (fun _ h9 => h9) rfl dX1_copyFrom_68 ?_
            rw [ev17]
            refine lv_icmp_ge (tgt := 95) hx hb dX1_copyFrom_71 (by decide) (fun c9 => ?_) (fun c9 => ?_)
            · have c2 := gi_le c9
              refine lv_aload_n hx hb dX1_copyFrom_95 rfl (lv_at hl 1 rfl) ?_
              refine lv_aload_n hx hb dX1_copyFrom_96 rfl (lv_at hl 2 rfl) ?_
              refine va_get (D := κ.1) (ci := 1) (v := .int (zI s16 o 5)) (C := RX1) (T := TX1) (N := 13) hx hb hg inX1 hown hK (hT.o3 (hT.k t_o (by decide))).one 0 rfl rfl 5 (by decide) (hg _ k287) (fun _ h9 => h9) rfl dX1_copyFrom_97 ?_
              rw [ev17]
              have hTo := hT
              refine pf3_5 hx hb hg hown hK hT (hT.k t_this (by decide)) rfl ⟨by omega, by omega⟩ (hg _ k287) dX1_copyFrom_100 (fun H locs s19 hus19 hT => ?_)
              have ko_7 : zI s19 o 7 = v1 := (zput_o hus19 (Or.inr (by decide))).trans ko_7
              have ko_8 : zI s19 o 8 = v2 := (zput_o hus19 (Or.inr (by decide))).trans ko_8
              have ko_9 : zI s19 o 9 = v3 := (zput_o hus19 (Or.inr (by decide))).trans ko_9
              have fr20 : ∀ a : Nat, a ≠ this → zk σ0 a 3 → zI s19 a 7 = zI σ0 a 7 ∧ zI s19 a 8 = zI σ0 a 8 ∧ zI s19 a 9 = zI σ0 a 9 := fun a ha hk => ⟨(zput_o hus19 (Or.inr (by decide))).trans (FR a ha hk).1, (zput_o hus19 (Or.inr (by decide))).trans (FR a ha hk).2.1, (zput_o hus19 (Or.inr (by decide))).trans (FR a ha hk).2.2⟩
              have e21 : zI s19 this 5 = v17 := zput_at hus19
              refine lv_aload_n hx hb dX1_copyFrom_103 rfl (lv_at hl 1 rfl) ?_
              obtain ⟨r22, er22⟩ : ∃ z, kR κ this 6 = z := ⟨_, rfl⟩
              have tr22 : zk σ0 r22 1 := by rw [← er22]; exact hT0.ref t_this (by decide) (by decide) (by decide)
              refine va_get (D := κ.1) (ci := 1) (v := .ref (kR κ this 6)) (C := RX1) (T := TX1) (N := 13) hx hb hg inX1 hown hK (hT.o3 (hT.k t_this (by decide))).one 0 rfl rfl 6 (by decide) (hg _ k289) (fun _ h9 => h9) rfl dX1_copyFrom_104 ?_
              rw [er22]
              refine lv_aload_n hx hb dX1_copyFrom_107 rfl (lv_at hl 2 rfl) ?_
              obtain ⟨r23, er23⟩ : ∃ z, kR κ o 6 = z := ⟨_, rfl⟩
              have tr23 : zk σ0 r23 1 := by rw [← er23]; exact hT0.ref t_o (by decide) (by decide) (by decide)
              refine va_get (D := κ.1) (ci := 1) (v := .ref (kR κ o 6)) (C := RX1) (T := TX1) (N := 13) hx hb hg inX1 hown hK (hT.o3 (hT.k t_o (by decide))).one 0 rfl rfl 6 (by decide) (hg _ k289) (fun _ h9 => h9) rfl dX1_copyFrom_108 ?_
              rw [er23]
              obtain ⟨h26, oh26, th26⟩ := hT.o1 (hT.k tr22 (by decide))
              have hTo := hT
              refine tVv (n := 1) (As := [.ref r23]) (rest := []) hx hb hml hown hg hT hK hX (X4_copyFrom l κ s19 r22 r23  (hT.k tr22 (by decide)) (hT.k tr23 (by decide)) ) sub_fW_fCp (mwV k455 k456 k457 k88 k458) ⟨rfl, by decide, by decide, by decide +kernel⟩ ⟨(Nat.le_of_ble_eq_true rfl), (Nat.le_of_ble_eq_true rfl)⟩ oh26 rfl rfl hl.1 rfl (Nat.le_of_ble_eq_true rfl) dX1_copyFrom_111 zroom.rf (fun s25 H locs hφ hEs25 hT => ?_)
              have ko_7 : zI s25 o 7 = v1 := ((hTo.k t_o (by decide)).eI hEs25 (by decide) rfl).trans ko_7
              have ko_8 : zI s25 o 8 = v2 := ((hTo.k t_o (by decide)).eI hEs25 (by decide) rfl).trans ko_8
              have ko_9 : zI s25 o 9 = v3 := ((hTo.k t_o (by decide)).eI hEs25 (by decide) rfl).trans ko_9
              have e21 : zI s25 this 5 = v17 := ((hTo.k t_this (by decide)).eI hEs25 (by decide) rfl).trans e21
              have fr27 : ∀ a : Nat, a ≠ this → zk σ0 a 3 → zI s25 a 7 = zI σ0 a 7 ∧ zI s25 a 8 = zI σ0 a 8 ∧ zI s25 a 9 = zI σ0 a 9 := fun a ha hk => ⟨((hTo.k hk (by decide)).eI hEs25 (by decide) rfl).trans (fr20 a ha hk).1, ((hTo.k hk (by decide)).eI hEs25 (by decide) rfl).trans (fr20 a ha hk).2.1, ((hTo.k hk (by decide)).eI hEs25 (by decide) rfl).trans (fr20 a ha hk).2.2⟩
              refine lv_aload_n hx hb dX1_copyFrom_114 rfl (lv_at hl 1 rfl) ?_
              refine lv_aload_n hx hb dX1_copyFrom_115 rfl (lv_at hl 2 rfl) ?_
              refine va_get (D := κ.1) (ci := 1) (v := .int (zI s25 o 7)) (C := RX1) (T := TX1) (N := 13) hx hb hg inX1 hown hK (hT.o3 (hT.k t_o (by decide))).one 0 rfl rfl 7 (by decide) (hg _ k291) (fun _ h9 => h9) rfl dX1_copyFrom_116 ?_
              rw [ko_7]
              have hTo := hT
              refine pf3_7 hx hb hg hown hK hT (hT.k t_this (by decide)) rfl (hg _ k291) dX1_copyFrom_119 (fun H locs s28 hus28 hT => ?_)
              have ko_8 : zI s28 o 8 = v2 := (zput_o hus28 (Or.inr (by decide))).trans ko_8
              have ko_9 : zI s28 o 9 = v3 := (zput_o hus28 (Or.inr (by decide))).trans ko_9
              have e21 : zI s28 this 5 = v17 := (zput_o hus28 (Or.inr (by decide))).trans e21
              have fr29 : ∀ a : Nat, a ≠ this → zk σ0 a 3 → zI s28 a 7 = zI σ0 a 7 ∧ zI s28 a 8 = zI σ0 a 8 ∧ zI s28 a 9 = zI σ0 a 9 := fun a ha hk => ⟨(zput_o hus28 (Or.inl ha)).trans (fr27 a ha hk).1, (zput_o hus28 (Or.inl ha)).trans (fr27 a ha hk).2.1, (zput_o hus28 (Or.inl ha)).trans (fr27 a ha hk).2.2⟩
              have e30 : zI s28 this 7 = v1 := zput_at hus28
              refine lv_aload_n hx hb dX1_copyFrom_122 rfl (lv_at hl 1 rfl) ?_
              refine lv_aload_n hx hb dX1_copyFrom_123 rfl (lv_at hl 2 rfl) ?_
              refine va_get (D := κ.1) (ci := 1) (v := .int (zI s28 o 8)) (C := RX1) (T := TX1) (N := 13) hx hb hg inX1 hown hK (hT.o3 (hT.k t_o (by decide))).one 0 rfl rfl 8 (by decide) (hg _ k293) (fun _ h9 => h9) rfl dX1_copyFrom_124 ?_
              rw [ko_8]
              have hTo := hT
              refine pf3_8 hx hb hg hown hK hT (hT.k t_this (by decide)) rfl (hg _ k293) dX1_copyFrom_127 (fun H locs s31 hus31 hT => ?_)
              have ko_9 : zI s31 o 9 = v3 := (zput_o hus31 (Or.inr (by decide))).trans ko_9
              have e21 : zI s31 this 5 = v17 := (zput_o hus31 (Or.inr (by decide))).trans e21
              have e30 : zI s31 this 7 = v1 := (zput_o hus31 (Or.inr (by decide))).trans e30
              have fr32 : ∀ a : Nat, a ≠ this → zk σ0 a 3 → zI s31 a 7 = zI σ0 a 7 ∧ zI s31 a 8 = zI σ0 a 8 ∧ zI s31 a 9 = zI σ0 a 9 := fun a ha hk => ⟨(zput_o hus31 (Or.inl ha)).trans (fr29 a ha hk).1, (zput_o hus31 (Or.inl ha)).trans (fr29 a ha hk).2.1, (zput_o hus31 (Or.inl ha)).trans (fr29 a ha hk).2.2⟩
              have e33 : zI s31 this 8 = v2 := zput_at hus31
              refine lv_aload_n hx hb dX1_copyFrom_130 rfl (lv_at hl 1 rfl) ?_
              refine lv_aload_n hx hb dX1_copyFrom_131 rfl (lv_at hl 2 rfl) ?_
              refine va_get (D := κ.1) (ci := 1) (v := .int (zI s31 o 9)) (C := RX1) (T := TX1) (N := 13) hx hb hg inX1 hown hK (hT.o3 (hT.k t_o (by decide))).one 0 rfl rfl 9 (by decide) (hg _ k295) (fun _ h9 => h9) rfl dX1_copyFrom_132 ?_
              rw [ko_9]
              have hTo := hT
              refine pf3_9 hx hb hg hown hK hT (hT.k t_this (by decide)) rfl b4 (hg _ k295) dX1_copyFrom_135 (fun H locs s34 hus34 hT => ?_)
              have e21 : zI s34 this 5 = v17 := (zput_o hus34 (Or.inr (by decide))).trans e21
              have e30 : zI s34 this 7 = v1 := (zput_o hus34 (Or.inr (by decide))).trans e30
              have e33 : zI s34 this 8 = v2 := (zput_o hus34 (Or.inr (by decide))).trans e33
              have fr35 : ∀ a : Nat, a ≠ this → zk σ0 a 3 → zI s34 a 7 = zI σ0 a 7 ∧ zI s34 a 8 = zI σ0 a 8 ∧ zI s34 a 9 = zI σ0 a 9 := fun a ha hk => ⟨(zput_o hus34 (Or.inl ha)).trans (fr32 a ha hk).1, (zput_o hus34 (Or.inl ha)).trans (fr32 a ha hk).2.1, (zput_o hus34 (Or.inl ha)).trans (fr32 a ha hk).2.2⟩
              have e36 : zI s34 this 9 = v3 := zput_at hus34
              subst hQ9
              exact t_v hx hb hr hlocks hT ⟨(show zI s34 this 7 = v1 from e30).trans zo7.symm, (show zI s34 this 8 = v2 from e33).trans zo8.symm, (show zI s34 this 9 = v3 from e36).trans zo9.symm, fr35⟩ dX1_copyFrom_138
            · have c3 := gi_nle c9
              refine lv_aload_n hx hb dX1_copyFrom_74 rfl (lv_at hl 1 rfl) ?_
              obtain ⟨r37, er37⟩ : ∃ z, kR κ this 4 = z := ⟨_, rfl⟩
              have tr37 : zk σ0 r37 11 := by rw [← er37]; exact hT0.ref t_this (by decide) (by decide) (by decide)
              refine va_get (D := κ.1) (ci := 1) (v := .ref (kR κ this 4)) (C := RX1) (T := TX1) (N := 13) hx hb hg inX1 hown hK (hT.o3 (hT.k t_this (by decide))).one 0 rfl rfl 4 (by decide) (hg _ k285) (fun _ h9 => h9) rfl dX1_copyFrom_75 ?_
              rw [er37]
              refine lv_iload_n hx hb dX1_copyFrom_78 rfl (lv_at hl 0 rfl) ?_
              refine va_aldq hx hb hK (hT.o11 (hT.k tr37 (by decide))).one 0 5 rfl rfl (g_in (by omega) (by omega)) dX1_copyFrom_79 ?_
              obtain ⟨r39, er39⟩ : ∃ z, kR κ r37 (ix i) = z := ⟨_, rfl⟩
              have tr39 : zk σ0 r39 2 := by rw [← er39]; exact hT0.ref tr37 (by decide) (zR11 (ix_lt (by omega) (by omega))) (by decide)
              refine tv (.ref r39) (by rw [← er39]; rfl) ?_
              refine lv_aload_n hx hb dX1_copyFrom_80 rfl (lv_at hl 2 rfl) ?_
              obtain ⟨r40, er40⟩ : ∃ z, kR κ o 4 = z := ⟨_, rfl⟩
              have tr40 : zk σ0 r40 11 := by rw [← er40]; exact hT0.ref t_o (by decide) (by decide) (by decide)
              refine va_get (D := κ.1) (ci := 1) (v := .ref (kR κ o 4)) (C := RX1) (T := TX1) (N := 13) hx hb hg inX1 hown hK (hT.o3 (hT.k t_o (by decide))).one 0 rfl rfl 4 (by decide) (hg _ k285) (fun _ h9 => h9) rfl dX1_copyFrom_81 ?_
              rw [er40]
              refine lv_iload_n hx hb dX1_copyFrom_84 rfl (lv_at hl 0 rfl) ?_
              refine va_aldq hx hb hK (hT.o11 (hT.k tr40 (by decide))).one 0 5 rfl rfl (g_in (by omega) (by omega)) dX1_copyFrom_85 ?_
              obtain ⟨r42, er42⟩ : ∃ z, kR κ r40 (ix i) = z := ⟨_, rfl⟩
              have tr42 : zk σ0 r42 2 := by rw [← er42]; exact hT0.ref tr40 (by decide) (zR11 (ix_lt (by omega) (by omega))) (by decide)
              refine tv (.ref r42) (by rw [← er42]; rfl) ?_
              have hTo := hT
              refine tVv (n := 1) (As := [.ref r42]) (rest := []) hx hb hml hown hg hT hK hX (X2_copyFrom l κ s16 r39 r42  (hT.k tr39 (by decide)) (hT.k tr42 (by decide)) ) sub_fSp_fCp (mwV k1128 k1129 k1130 k89 k1131) ⟨rfl, by decide, by decide, by decide +kernel⟩ ⟨(Nat.le_of_ble_eq_true rfl), (Nat.le_of_ble_eq_true rfl)⟩ (hT.o2 (hT.k tr39 (by decide))) rfl rfl hl.1 rfl (Nat.le_of_ble_eq_true rfl) dX1_copyFrom_86 zroom.rf (fun s44 H locs hφ hEs44 hT => ?_)
              have ko_7 : zI s44 o 7 = v1 := ((hTo.k t_o (by decide)).eI hEs44 (by decide) rfl).trans ko_7
              have ko_8 : zI s44 o 8 = v2 := ((hTo.k t_o (by decide)).eI hEs44 (by decide) rfl).trans ko_8
              have ko_9 : zI s44 o 9 = v3 := ((hTo.k t_o (by decide)).eI hEs44 (by decide) rfl).trans ko_9
              have ev17 : zI s44 o 5 = v17 := ((hTo.k t_o (by decide)).eI hEs44 (by decide) rfl).trans ev17
              have fr45 : ∀ a : Nat, a ≠ this → zk σ0 a 3 → zI s44 a 7 = zI σ0 a 7 ∧ zI s44 a 8 = zI σ0 a 8 ∧ zI s44 a 9 = zI σ0 a 9 := fun a ha hk => ⟨((hTo.k hk (by decide)).eI hEs44 (by decide) rfl).trans (FR a ha hk).1, ((hTo.k hk (by decide)).eI hEs44 (by decide) rfl).trans (FR a ha hk).2.1, ((hTo.k hk (by decide)).eI hEs44 (by decide) rfl).trans (FR a ha hk).2.2⟩
              obtain ⟨t46, qt46⟩ : ∃ zz9 : Int32, i + Int32.ofInt 1 = zz9 := ⟨_, rfl⟩
              refine lv_iinc (v := t46) (lv' := [(2, .int t46), (0, .ref this), (1, .ref o)]) hx hb dX1_copyFrom_89 hl (k := 0) rfl qt46 (by decide) rfl (fun ls hl => ?_)
              have ht46 : t46.toInt = i.toInt + 1 := by rw [← qt46]; exact v_addi rfl (show (Int32.ofInt 1).toInt = 1 from by decide) (by omega) (by omega)
              refine lv_goto (tgt := 66) hx hb dX1_copyFrom_92 (by decide) ?_
              exact ih66 t46 _ _ _ _ hT ko_7 ko_8 ko_9 (by omega) (by omega) fr45 hl (by omega)
        exact loop66 ((46 - (0 : Int32).toInt).toNat + 1) 0 _ _ _ _ hT ko_7 ko_8 ko_9 (by omega) (by omega) fr15 hl (by omega)
      · have c4 := gi_nle c9
        refine lv_aload_n hx hb dX1_copyFrom_13 rfl (lv_at hl 1 rfl) ?_
        obtain ⟨r47, er47⟩ : ∃ z, kR κ this 1 = z := ⟨_, rfl⟩
        have tr47 : zk σ0 r47 10 := by rw [← er47]; exact hT0.ref t_this (by decide) (by decide) (by decide)
        refine va_get (D := κ.1) (ci := 1) (v := .ref (kR κ this 1)) (C := RX1) (T := TX1) (N := 13) hx hb hg inX1 hown hK (hT.o3 (hT.k t_this (by decide))).one 0 rfl rfl 1 (by decide) (hg _ k279) (fun _ h9 => h9) rfl dX1_copyFrom_14 ?_
        rw [er47]
        refine lv_iload_n hx hb dX1_copyFrom_17 rfl (lv_at hl 0 rfl) ?_
        refine va_aldq hx hb hK (hT.o10 (hT.k tr47 (by decide))).one 0 4 rfl rfl (g_in (by omega) (by omega)) dX1_copyFrom_18 ?_
        obtain ⟨r49, er49⟩ : ∃ z, kR κ r47 (ix i) = z := ⟨_, rfl⟩
        have tr49 : zk σ0 r49 1 := by rw [← er49]; exact hT0.ref tr47 (by decide) (zR10 (ix_lt (by omega) (by omega))) (by decide)
        refine tv (.ref r49) (by rw [← er49]; rfl) ?_
        refine lv_aload_n hx hb dX1_copyFrom_19 rfl (lv_at hl 2 rfl) ?_
        obtain ⟨r50, er50⟩ : ∃ z, kR κ o 1 = z := ⟨_, rfl⟩
        have tr50 : zk σ0 r50 10 := by rw [← er50]; exact hT0.ref t_o (by decide) (by decide) (by decide)
        refine va_get (D := κ.1) (ci := 1) (v := .ref (kR κ o 1)) (C := RX1) (T := TX1) (N := 13) hx hb hg inX1 hown hK (hT.o3 (hT.k t_o (by decide))).one 0 rfl rfl 1 (by decide) (hg _ k279) (fun _ h9 => h9) rfl dX1_copyFrom_20 ?_
        rw [er50]
        refine lv_iload_n hx hb dX1_copyFrom_23 rfl (lv_at hl 0 rfl) ?_
        refine va_aldq hx hb hK (hT.o10 (hT.k tr50 (by decide))).one 0 4 rfl rfl (g_in (by omega) (by omega)) dX1_copyFrom_24 ?_
        obtain ⟨r52, er52⟩ : ∃ z, kR κ r50 (ix i) = z := ⟨_, rfl⟩
        have tr52 : zk σ0 r52 1 := by rw [← er52]; exact hT0.ref tr50 (by decide) (zR10 (ix_lt (by omega) (by omega))) (by decide)
        refine tv (.ref r52) (by rw [← er52]; rfl) ?_
        obtain ⟨h55, oh55, th55⟩ := hT.o1 (hT.k tr49 (by decide))
        have hTo := hT
        refine tVv (n := 1) (As := [.ref r52]) (rest := []) hx hb hml hown hg hT hK hX (X4_copyFrom l κ s5 r49 r52  (hT.k tr49 (by decide)) (hT.k tr52 (by decide)) ) sub_fW_fCp (mwV k455 k456 k457 k88 k458) ⟨rfl, by decide, by decide, by decide +kernel⟩ ⟨(Nat.le_of_ble_eq_true rfl), (Nat.le_of_ble_eq_true rfl)⟩ oh55 rfl rfl hl.1 rfl (Nat.le_of_ble_eq_true rfl) dX1_copyFrom_25 zroom.rf (fun s54 H locs hφ hEs54 hT => ?_)
        have ko_7 : zI s54 o 7 = v1 := ((hTo.k t_o (by decide)).eI hEs54 (by decide) rfl).trans ko_7
        have ko_8 : zI s54 o 8 = v2 := ((hTo.k t_o (by decide)).eI hEs54 (by decide) rfl).trans ko_8
        have ko_9 : zI s54 o 9 = v3 := ((hTo.k t_o (by decide)).eI hEs54 (by decide) rfl).trans ko_9
        have fr56 : ∀ a : Nat, a ≠ this → zk σ0 a 3 → zI s54 a 7 = zI σ0 a 7 ∧ zI s54 a 8 = zI σ0 a 8 ∧ zI s54 a 9 = zI σ0 a 9 := fun a ha hk => ⟨((hTo.k hk (by decide)).eI hEs54 (by decide) rfl).trans (FR a ha hk).1, ((hTo.k hk (by decide)).eI hEs54 (by decide) rfl).trans (FR a ha hk).2.1, ((hTo.k hk (by decide)).eI hEs54 (by decide) rfl).trans (FR a ha hk).2.2⟩
        obtain ⟨t57, qt57⟩ : ∃ zz9 : Int32, i + Int32.ofInt 1 = zz9 := ⟨_, rfl⟩
        refine lv_iinc (v := t57) (lv' := [(2, .int t57), (0, .ref this), (1, .ref o)]) hx hb dX1_copyFrom_28 hl (k := 0) rfl qt57 (by decide) rfl (fun ls hl => ?_)
        have ht57 : t57.toInt = i.toInt + 1 := by rw [← qt57]; exact v_addi rfl (show (Int32.ofInt 1).toInt = 1 from by decide) (by omega) (by omega)
        refine lv_goto (tgt := 2) hx hb dX1_copyFrom_31 (by decide) ?_
        exact ih2 t57 _ _ _ _ hT ko_7 ko_8 ko_9 (by omega) (by omega) fr56 hl (by omega)
  exact loop2 (((zI σ0 src 2).toInt - (0 : Int32).toInt).toNat + 1) 0 _ _ _ _ hT ev1 ev2 ev3 (by omega) (by omega) (fun a _ _ => ⟨rfl, rfl, rfl⟩) hl (by omega)
set_option maxHeartbeats 4000000 in
set_option maxRecDepth 100000 in
theorem X1t_takeSettings (l : Launch) (κ : Kt) (σ0 : Gh) (this : Nat) (t_this : zk σ0 this 3) : TC l yX1_takeSettings cX1_takeSettings 1 none 0 0 [.ref this] κ σ0 (tqv κ fSet σ0 (fun (τ : Gh) => (zI τ this 7 = zI σ0 (kR κ this 0) 3) ∧ (zI τ this 8 = zI σ0 (kR κ this 0) 4) ∧ (zI τ this 9 = zI σ0 (kR κ this 0) 5) ∧ (∀ a : Nat, a ≠ this → zk σ0 a 3 → zI τ a 7 = zI σ0 a 7 ∧ zI τ a 8 = zI σ0 a 8 ∧ zI τ a 9 = zI σ0 a 9))) := by
  refine TC.of fSet (by decide +kernel) (Nat.le_of_ble_eq_true rfl) ?_
  intro p e s m below meth c ls hcs hK hX hT hl
  obtain ⟨hx, hb, hr, hml, hown, hg, hlocks, hin⟩ := hcs
  have hown : s.vm.findClass RX1 = some m.cls := hown
  have hl : lv_has ls 1 [(0, .ref this)] := hl
  have hT0 := hT
  generalize hQ9 : tQ _ _ _ _ _ _ = Q9
  obtain ⟨src, esrc⟩ : ∃ z, kR κ this 0 = z := ⟨_, rfl⟩
  have tsrc : zk σ0 src 4 := by rw [← esrc]; exact hT0.ref t_this (by decide) (by decide) (by decide)
  have bsrc := (hT0.P tsrc (by decide)).1
  have bsrcl := bsrc.1
  have bsrch := bsrc.2
  obtain ⟨v1, ev1⟩ : ∃ zz9 : Int32, zI σ0 src 3 = zz9 := ⟨_, rfl⟩
  have qv1 : v1.toInt = (zI σ0 src 3).toInt := by rw [ev1]
  obtain ⟨v2, ev2⟩ : ∃ zz9 : Int32, zI σ0 src 4 = zz9 := ⟨_, rfl⟩
  have qv2 : v2.toInt = (zI σ0 src 4).toInt := by rw [ev2]
  obtain ⟨v3, ev3⟩ : ∃ zz9 : Int32, zI σ0 src 5 = zz9 := ⟨_, rfl⟩
  have qv3 : v3.toInt = (zI σ0 src 5).toInt := by rw [ev3]
  have b4 : isB v3 := by have q9 := (hT.P (hT.k tsrc (by decide)) (by decide)).2; rw [(hT.eI tsrc (by decide) rfl ev3)] at q9; exact q9
  refine lv_aload_n hx hb dX1_takeSettings_0 rfl (lv_at hl 0 rfl) ?_
  refine lv_aload_n hx hb dX1_takeSettings_1 rfl (lv_at hl 0 rfl) ?_
  refine va_get (D := κ.1) (ci := 1) (v := .ref (kR κ this 0)) (C := RX1) (T := TX1) (N := 13) hx hb hg inX1 hown hK (hT.o3 (hT.k t_this (by decide))).one 0 rfl rfl 0 (by decide) (hg _ k278) (fun _ h9 => h9) rfl dX1_takeSettings_2 ?_
  rw [esrc]
  refine va_get (D := κ.1) (ci := 0) (v := .int (zI σ0 src 3)) (C := RX0) (T := TX0) (N := 7) hx hb hg inX0 hown hK (hT.o4 (hT.k tsrc (by decide))).one 0 rfl rfl 3 (by decide) (hg _ k166) (fun _ h9 => h9) rfl dX1_takeSettings_5 ?_
  rw [(hT.eI tsrc (by decide) rfl ev1)]
  have hTo := hT
  refine pf3_7 hx hb hg hown hK hT (hT.k t_this (by decide)) rfl (hg _ k291) dX1_takeSettings_8 (fun H locs s5 hus5 hT => ?_)
  have fr6 : ∀ a : Nat, a ≠ this → zk σ0 a 3 → zI s5 a 7 = zI σ0 a 7 ∧ zI s5 a 8 = zI σ0 a 8 ∧ zI s5 a 9 = zI σ0 a 9 := fun a ha hk => ⟨(zput_o hus5 (Or.inl ha)).trans ((show ∀ a : Nat, a ≠ this → zk σ0 a 3 → zI σ0 a 7 = zI σ0 a 7 ∧ zI σ0 a 8 = zI σ0 a 8 ∧ zI σ0 a 9 = zI σ0 a 9 from fun _ _ _ => ⟨rfl, rfl, rfl⟩) a ha hk).1, (zput_o hus5 (Or.inl ha)).trans ((show ∀ a : Nat, a ≠ this → zk σ0 a 3 → zI σ0 a 7 = zI σ0 a 7 ∧ zI σ0 a 8 = zI σ0 a 8 ∧ zI σ0 a 9 = zI σ0 a 9 from fun _ _ _ => ⟨rfl, rfl, rfl⟩) a ha hk).2.1, (zput_o hus5 (Or.inl ha)).trans ((show ∀ a : Nat, a ≠ this → zk σ0 a 3 → zI σ0 a 7 = zI σ0 a 7 ∧ zI σ0 a 8 = zI σ0 a 8 ∧ zI σ0 a 9 = zI σ0 a 9 from fun _ _ _ => ⟨rfl, rfl, rfl⟩) a ha hk).2.2⟩
  have e7 : zI s5 this 7 = v1 := zput_at hus5
  refine lv_aload_n hx hb dX1_takeSettings_11 rfl (lv_at hl 0 rfl) ?_
  refine lv_aload_n hx hb dX1_takeSettings_12 rfl (lv_at hl 0 rfl) ?_
  refine va_get (D := κ.1) (ci := 1) (v := .ref (kR κ this 0)) (C := RX1) (T := TX1) (N := 13) hx hb hg inX1 hown hK (hT.o3 (hT.k t_this (by decide))).one 0 rfl rfl 0 (by decide) (hg _ k278) (fun _ h9 => h9) rfl dX1_takeSettings_13 ?_
  rw [esrc]
  refine va_get (D := κ.1) (ci := 0) (v := .int (zI s5 src 4)) (C := RX0) (T := TX0) (N := 7) hx hb hg inX0 hown hK (hT.o4 (hT.k tsrc (by decide))).one 0 rfl rfl 4 (by decide) (hg _ k169) (fun _ h9 => h9) rfl dX1_takeSettings_16 ?_
  rw [(hT.eI tsrc (by decide) rfl ev2)]
  have hTo := hT
  refine pf3_8 hx hb hg hown hK hT (hT.k t_this (by decide)) rfl (hg _ k293) dX1_takeSettings_19 (fun H locs s8 hus8 hT => ?_)
  have e7 : zI s8 this 7 = v1 := (zput_o hus8 (Or.inr (by decide))).trans e7
  have fr9 : ∀ a : Nat, a ≠ this → zk σ0 a 3 → zI s8 a 7 = zI σ0 a 7 ∧ zI s8 a 8 = zI σ0 a 8 ∧ zI s8 a 9 = zI σ0 a 9 := fun a ha hk => ⟨(zput_o hus8 (Or.inl ha)).trans (fr6 a ha hk).1, (zput_o hus8 (Or.inl ha)).trans (fr6 a ha hk).2.1, (zput_o hus8 (Or.inl ha)).trans (fr6 a ha hk).2.2⟩
  have e10 : zI s8 this 8 = v2 := zput_at hus8
  refine lv_aload_n hx hb dX1_takeSettings_22 rfl (lv_at hl 0 rfl) ?_
  refine lv_aload_n hx hb dX1_takeSettings_23 rfl (lv_at hl 0 rfl) ?_
  refine va_get (D := κ.1) (ci := 1) (v := .ref (kR κ this 0)) (C := RX1) (T := TX1) (N := 13) hx hb hg inX1 hown hK (hT.o3 (hT.k t_this (by decide))).one 0 rfl rfl 0 (by decide) (hg _ k278) (fun _ h9 => h9) rfl dX1_takeSettings_24 ?_
  rw [esrc]
  refine va_get (D := κ.1) (ci := 0) (v := .int (zI s8 src 5)) (C := RX0) (T := TX0) (N := 7) hx hb hg inX0 hown hK (hT.o4 (hT.k tsrc (by decide))).one 0 rfl rfl 5 (by decide) (hg _ k172) (fun _ h9 => h9) rfl dX1_takeSettings_27 ?_
  rw [(hT.eI tsrc (by decide) rfl ev3)]
  have hTo := hT
  refine pf3_9 hx hb hg hown hK hT (hT.k t_this (by decide)) rfl b4 (hg _ k295) dX1_takeSettings_30 (fun H locs s11 hus11 hT => ?_)
  have e7 : zI s11 this 7 = v1 := (zput_o hus11 (Or.inr (by decide))).trans e7
  have e10 : zI s11 this 8 = v2 := (zput_o hus11 (Or.inr (by decide))).trans e10
  have fr12 : ∀ a : Nat, a ≠ this → zk σ0 a 3 → zI s11 a 7 = zI σ0 a 7 ∧ zI s11 a 8 = zI σ0 a 8 ∧ zI s11 a 9 = zI σ0 a 9 := fun a ha hk => ⟨(zput_o hus11 (Or.inl ha)).trans (fr9 a ha hk).1, (zput_o hus11 (Or.inl ha)).trans (fr9 a ha hk).2.1, (zput_o hus11 (Or.inl ha)).trans (fr9 a ha hk).2.2⟩
  have e13 : zI s11 this 9 = v3 := zput_at hus11
  subst hQ9
  exact t_v hx hb hr hlocks hT ⟨by rw [show kR κ this 0 = src from esrc]; exact (show zI s11 this 7 = v1 from e7).trans ev1.symm, by rw [show kR κ this 0 = src from esrc]; exact (show zI s11 this 8 = v2 from e10).trans ev2.symm, by rw [show kR κ this 0 = src from esrc]; exact (show zI s11 this 9 = v3 from e13).trans ev3.symm, fr12⟩ dX1_takeSettings_33

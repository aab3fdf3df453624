/-! The reference over any state: slots -/
theorem sub_fE_gS : ∀ t k, gS t k = false → fE t k = false := by
  intro t k h
  simp [fE, gS] at h ⊢ <;> omega
theorem k1222 : Cond.fieldLink RX6 16 "LiftingSignalModel" "slots" "[J" ∈ GW := gm 1222 (by decide +kernel) (by decide +kernel)
theorem dX6_restore_0 : decode cX6_restore 0 = .ok (.aload_n 0, 1) := by decide +kernel
theorem dX6_restore_1 : decode cX6_restore 1 = .ok (.iload_n 1, 1) := by decide +kernel
theorem dX6_restore_2 : decode cX6_restore 2 = .ok (.i2l, 1) := by decide +kernel
theorem dX6_restore_3 : decode cX6_restore 3 = .ok (.lconst 0, 1) := by decide +kernel
theorem dX6_restore_4 : decode cX6_restore 4 = .ok (.lconst 1, 1) := by decide +kernel
theorem dX6_restore_5 : decode cX6_restore 5 = .ok (.invokestatic 84, 3) := by decide +kernel
theorem dX6_restore_8 : decode cX6_restore 8 = .ok (.ifCond .ne 7, 3) := by decide +kernel
theorem dX6_restore_11 : decode cX6_restore 11 = .ok (.iconst 1, 1) := by decide +kernel
theorem dX6_restore_12 : decode cX6_restore 12 = .ok (.goto 17, 3) := by decide +kernel
theorem dX6_restore_15 : decode cX6_restore 15 = .ok (.aload_n 0, 1) := by decide +kernel
theorem dX6_restore_16 : decode cX6_restore 16 = .ok (.getfield 19, 3) := by decide +kernel
theorem dX6_restore_19 : decode cX6_restore 19 = .ok (.iload_n 1, 1) := by decide +kernel
theorem dX6_restore_20 : decode cX6_restore 20 = .ok (.baload, 1) := by decide +kernel
theorem dX6_restore_21 : decode cX6_restore 21 = .ok (.ifCond .eq 7, 3) := by decide +kernel
theorem dX6_restore_24 : decode cX6_restore 24 = .ok (.iconst 0, 1) := by decide +kernel
theorem dX6_restore_25 : decode cX6_restore 25 = .ok (.goto 4, 3) := by decide +kernel
theorem dX6_restore_28 : decode cX6_restore 28 = .ok (.iconst 2, 1) := by decide +kernel
theorem dX6_restore_29 : decode cX6_restore 29 = .ok (.putfield 64, 3) := by decide +kernel
theorem dX6_restore_32 : decode cX6_restore 32 = .ok (.iconst 0, 1) := by decide +kernel
theorem dX6_restore_33 : decode cX6_restore 33 = .ok (.istore_n 2, 1) := by decide +kernel
theorem dX6_restore_34 : decode cX6_restore 34 = .ok (.aload_n 0, 1) := by decide +kernel
theorem dX6_restore_35 : decode cX6_restore 35 = .ok (.getfield 64, 3) := by decide +kernel
theorem dX6_restore_38 : decode cX6_restore 38 = .ok (.ifCond .ne 34, 3) := by decide +kernel
theorem dX6_restore_41 : decode cX6_restore 41 = .ok (.iload_n 2, 1) := by decide +kernel
theorem dX6_restore_42 : decode cX6_restore 42 = .ok (.sipush 609, 3) := by decide +kernel
theorem dX6_restore_45 : decode cX6_restore 45 = .ok (.if_icmp .ge 27, 3) := by decide +kernel
theorem dX6_restore_48 : decode cX6_restore 48 = .ok (.aload_n 0, 1) := by decide +kernel
theorem dX6_restore_49 : decode cX6_restore 49 = .ok (.getfield 7, 3) := by decide +kernel
theorem dX6_restore_52 : decode cX6_restore 52 = .ok (.iload_n 2, 1) := by decide +kernel
theorem dX6_restore_53 : decode cX6_restore 53 = .ok (.aload_n 0, 1) := by decide +kernel
theorem dX6_restore_54 : decode cX6_restore 54 = .ok (.getfield 16, 3) := by decide +kernel
theorem dX6_restore_57 : decode cX6_restore 57 = .ok (.sipush 609, 3) := by decide +kernel
theorem dX6_restore_60 : decode cX6_restore 60 = .ok (.iload_n 1, 1) := by decide +kernel
theorem dX6_restore_61 : decode cX6_restore 61 = .ok (.imul, 1) := by decide +kernel
theorem dX6_restore_62 : decode cX6_restore 62 = .ok (.iload_n 2, 1) := by decide +kernel
theorem dX6_restore_63 : decode cX6_restore 63 = .ok (.iadd, 1) := by decide +kernel
theorem dX6_restore_64 : decode cX6_restore 64 = .ok (.laload, 1) := by decide +kernel
theorem dX6_restore_65 : decode cX6_restore 65 = .ok (.lastore, 1) := by decide +kernel
theorem dX6_restore_66 : decode cX6_restore 66 = .ok (.iinc 2 1, 3) := by decide +kernel
theorem dX6_restore_69 : decode cX6_restore 69 = .ok (.goto (-35), 3) := by decide +kernel
theorem dX6_restore_72 : decode cX6_restore 72 = .ok (.return_, 1) := by decide +kernel
theorem dX6_save_0 : decode cX6_save 0 = .ok (.aload_n 0, 1) := by decide +kernel
theorem dX6_save_1 : decode cX6_save 1 = .ok (.iload_n 1, 1) := by decide +kernel
theorem dX6_save_2 : decode cX6_save 2 = .ok (.i2l, 1) := by decide +kernel
theorem dX6_save_3 : decode cX6_save 3 = .ok (.lconst 0, 1) := by decide +kernel
theorem dX6_save_4 : decode cX6_save 4 = .ok (.lconst 1, 1) := by decide +kernel
theorem dX6_save_5 : decode cX6_save 5 = .ok (.invokestatic 84, 3) := by decide +kernel
theorem dX6_save_8 : decode cX6_save 8 = .ok (.ifCond .eq 7, 3) := by decide +kernel
theorem dX6_save_11 : decode cX6_save 11 = .ok (.iconst 0, 1) := by decide +kernel
theorem dX6_save_12 : decode cX6_save 12 = .ok (.goto 4, 3) := by decide +kernel
theorem dX6_save_15 : decode cX6_save 15 = .ok (.iconst 1, 1) := by decide +kernel
theorem dX6_save_16 : decode cX6_save 16 = .ok (.putfield 64, 3) := by decide +kernel
theorem dX6_save_19 : decode cX6_save 19 = .ok (.iconst 0, 1) := by decide +kernel
theorem dX6_save_20 : decode cX6_save 20 = .ok (.istore_n 2, 1) := by decide +kernel
theorem dX6_save_21 : decode cX6_save 21 = .ok (.aload_n 0, 1) := by decide +kernel
theorem dX6_save_22 : decode cX6_save 22 = .ok (.getfield 64, 3) := by decide +kernel
theorem dX6_save_25 : decode cX6_save 25 = .ok (.ifCond .ne 34, 3) := by decide +kernel
theorem dX6_save_28 : decode cX6_save 28 = .ok (.iload_n 2, 1) := by decide +kernel
theorem dX6_save_29 : decode cX6_save 29 = .ok (.sipush 609, 3) := by decide +kernel
theorem dX6_save_32 : decode cX6_save 32 = .ok (.if_icmp .ge 27, 3) := by decide +kernel
theorem dX6_save_35 : decode cX6_save 35 = .ok (.aload_n 0, 1) := by decide +kernel
theorem dX6_save_36 : decode cX6_save 36 = .ok (.getfield 16, 3) := by decide +kernel
theorem dX6_save_39 : decode cX6_save 39 = .ok (.sipush 609, 3) := by decide +kernel
theorem dX6_save_42 : decode cX6_save 42 = .ok (.iload_n 1, 1) := by decide +kernel
theorem dX6_save_43 : decode cX6_save 43 = .ok (.imul, 1) := by decide +kernel
theorem dX6_save_44 : decode cX6_save 44 = .ok (.iload_n 2, 1) := by decide +kernel
theorem dX6_save_45 : decode cX6_save 45 = .ok (.iadd, 1) := by decide +kernel
theorem dX6_save_46 : decode cX6_save 46 = .ok (.aload_n 0, 1) := by decide +kernel
theorem dX6_save_47 : decode cX6_save 47 = .ok (.getfield 7, 3) := by decide +kernel
theorem dX6_save_50 : decode cX6_save 50 = .ok (.iload_n 2, 1) := by decide +kernel
theorem dX6_save_51 : decode cX6_save 51 = .ok (.laload, 1) := by decide +kernel
theorem dX6_save_52 : decode cX6_save 52 = .ok (.lastore, 1) := by decide +kernel
theorem dX6_save_53 : decode cX6_save 53 = .ok (.iinc 2 1, 3) := by decide +kernel
theorem dX6_save_56 : decode cX6_save 56 = .ok (.goto (-35), 3) := by decide +kernel
theorem dX6_save_59 : decode cX6_save 59 = .ok (.aload_n 0, 1) := by decide +kernel
theorem dX6_save_60 : decode cX6_save 60 = .ok (.getfield 64, 3) := by decide +kernel
theorem dX6_save_63 : decode cX6_save 63 = .ok (.ifCond .ne 10, 3) := by decide +kernel
theorem dX6_save_66 : decode cX6_save 66 = .ok (.aload_n 0, 1) := by decide +kernel
theorem dX6_save_67 : decode cX6_save 67 = .ok (.getfield 19, 3) := by decide +kernel
theorem dX6_save_70 : decode cX6_save 70 = .ok (.iload_n 1, 1) := by decide +kernel
theorem dX6_save_71 : decode cX6_save 71 = .ok (.iconst 1, 1) := by decide +kernel
theorem dX6_save_72 : decode cX6_save 72 = .ok (.bastore, 1) := by decide +kernel
theorem dX6_save_73 : decode cX6_save 73 = .ok (.return_, 1) := by decide +kernel
set_option maxHeartbeats 4000000 in
set_option maxRecDepth 100000 in
theorem X6_save (l : Launch) (κ : Kt) (σ0 : Gh) (this : Nat) (sl : Int32) (t_this : zk σ0 this 20) (h0 : RI κ σ0 this) : TC l yX6_save cX6_save 3 none 1 25 [.ref this, .int sl] κ σ0 (tqv κ gS σ0 (fun (τ : Gh) => (RI κ τ this))) := by
  refine TC.of gS (by decide +kernel) (Nat.le_of_ble_eq_true rfl) ?_
  intro p e s m below meth c ls hcs hK hX hT hl
  obtain ⟨hx, hb, hr, hml, hown, hg, hlocks, hin⟩ := hcs
  have hown : s.vm.findClass RX6 = some m.cls := hown
  have hl : lv_has ls 3 [(0, .ref this), (1, .int sl)] := hl
  have hT0 := hT
  have n0 : (0 : Int32).toInt = 0 := by decide
  have n1 : (1 : Int32).toInt = 1 := by decide
  have n609 : (609 : Int32).toInt = 609 := by decide
  have j0 : (0 : Int64).toInt = 0 := by decide
  have j1 : (1 : Int64).toInt = 1 := by decide
  have sl_lo := Int32.le_toInt sl
  have sl_hi := Int32.toInt_lt sl
  generalize hQ9 : tQ _ _ _ _ _ _ = Q9
  obtain ⟨rW, erW⟩ : ∃ z, kR κ this 1 = z := ⟨_, rfl⟩
  have trW : zk σ0 rW 21 := by rw [← erW]; exact h0.1.2.1
  obtain ⟨rP, erP⟩ : ∃ z, kR κ this 5 = z := ⟨_, rfl⟩
  have trP : zk σ0 rP 25 := by rw [← erP]; exact h0.1.2.2.2.2
  have hB0 := h0.b
  rw [erW] at hB0
  have hW := h0.2.1
  rw [erW] at hW
  have hP := h0.2.2.1
  rw [erP] at hP
  have hrN : (rN σ0 this : Int) = (zI σ0 this 7).toInt := by unfold rN; omega
  obtain ⟨rS, erS⟩ : ∃ z, kR κ this 3 = z := ⟨_, rfl⟩
  have trS : zk σ0 rS 22 := by rw [← erS]; exact hT0.ref t_this (by decide) (by decide) (by decide)
  obtain ⟨rK, erK⟩ : ∃ z, kR κ this 4 = z := ⟨_, rfl⟩
  have trK : zk σ0 rK 29 := by rw [← erK]; exact hT0.ref t_this (by decide) (by decide) (by decide)
  refine lv_aload_n hx hb dX6_save_0 rfl (lv_at hl 0 rfl) ?_
  refine lv_iload_n hx hb dX6_save_1 rfl (lv_at hl 1 rfl) ?_
  refine lv_i2l hx hb dX6_save_2 rfl ?_
  refine g_i2l (fun t1 ht1 => ?_)
  refine lv_lconst (v := 0) hx hb dX6_save_3 (by decide) ?_
  refine lv_lconst (v := 1) hx hb dX6_save_4 (by decide) ?_
  have hTo := hT
  refine tSi (n := 3) (As := [.long t1, .long 0, .long 1]) (rest := [.ref this]) hx hb hml hown hg hT hK hX (X6_in l κ σ0 t1 0 1   ) sub_fE_gS (mwS k1317 k1318 k92 k1319) ⟨rfl, by decide, by decide, by decide +kernel⟩ ⟨(Nat.le_of_ble_eq_true rfl), (Nat.le_of_ble_eq_true rfl)⟩ rfl hl.1 rfl (Nat.le_of_ble_eq_true rfl) dX6_save_5 zroom.rf (fun x2 s3 H locs hφ hEs3 hT => ?_)
  have R4 : RI κ s3 this := h0.ext hEs3 ⟨rfl, rfl, fun _ => rfl, fun _ => rfl, fun _ => rfl, fun _ => rfl⟩
  have B5 := R4.b
  rw [erW] at B5
  have K6 : zI s3 this 7 = zI σ0 this 7 := hT.eI t_this (by decide) rfl rfl
  have K6n : (zI s3 this 7).toInt = (zI σ0 this 7).toInt := by rw [K6]
  have J7 : zJ s3 rW = zJ σ0 rW := funext fun k => hT.eJ trW (by decide) rfl rfl
  have J7n : (zJ s3 (kR κ this 1) 4).toInt = (zJ σ0 rW 4).toInt := by rw [erW, J7]
  have P8 : zI s3 rP = zI σ0 rP := funext fun k => hT.eI trP (by decide) rfl rfl
  try simp only [K6, J7, P8] at B5
  obtain ⟨f9, f10⟩ := hφ
  try simp only [erW, erP, ix_0, ix_1, ix_2, ix_3, ix_4, ix_5, ix_6, ix_7, ix_8, ix_9, K6, J7, P8] at f9
  refine lv_if_eq (tgt := 15) hx hb dX6_save_8 (by decide) (fun c9 => ?_) (fun c9 => ?_)
  · have c1 := gi_eq c9
    refine lv_iconst (v := 1) hx hb dX6_save_15 (by decide) ?_
    have jrS : zJ s3 rS = zJ σ0 rS := funext fun k => trS.eJ hEs3 (by decide) rfl
    have jrK : zI s3 rK = zI σ0 rK := funext fun k => trK.eI hEs3 (by decide) rfl
    have hTo := hT
    refine pf20_0 hx hb hg hown hK hT (hT.k t_this (by decide)) rfl (hg _ k1219) dX6_save_16 (fun H locs s11 hus11 hT => ?_)
    have R12 : RI κ s11 this := R4.put hus11 (hTo.k t_this (by decide)) (by decide)
    have B13 := R12.b
    rw [erW] at B13
    have K14 : zI s11 this 7 = zI σ0 this 7 := hT.eI t_this (by decide) rfl rfl
    have K14n : (zI s11 this 7).toInt = (zI σ0 this 7).toInt := by rw [K14]
    have J15 : zJ s11 rW = zJ σ0 rW := funext fun k => hT.eJ trW (by decide) rfl rfl
    have J15n : (zJ s11 (kR κ this 1) 4).toInt = (zJ σ0 rW 4).toInt := by rw [erW, J15]
    have P16 : zI s11 rP = zI σ0 rP := funext fun k => hT.eI trP (by decide) rfl rfl
    try simp only [K14, J15, P16] at B13
    have e17 : zI s11 this 0 = 1 := zput_at hus11
    refine lv_iconst (v := 0) hx hb dX6_save_19 (by decide) ?_
    refine lv_istore_n (lv' := [(2, .int 0), (0, .ref this), (1, .int sl)]) hx hb dX6_save_20 rfl hl (by decide) rfl (fun ls hl => ?_)
    have loop21 : ∀ (n9 : Nat) (k : Int32) (H : Heap) (locs : List Loc) (sg : Gh) (ls : Array Slot), TS κ gS σ0 sg s H locs → (zI sg this 0 = 1) → (0 ≤ k.toInt) → (k.toInt ≤ 609) → ((1 : Int32).toInt ≠ 0 ∨ (0 ≤ sl.toInt ∧ sl.toInt ≤ 1)) → (∀ j : Nat, j < ix k → zJ sg rS (609 * ix sl + j) = zJ σ0 rW j) → (∀ x : Nat, (x < 609 * ix sl ∨ 609 * ix sl + 609 ≤ x) → zJ sg rS x = zJ σ0 rS x) → ((1 : Int32).toInt ≠ 0 → zJ sg rS = zJ σ0 rS) → (zI sg rK = zI σ0 rK) → lv_has ls 3 [(2, .int k), (0, .ref this), (1, .int sl)] → (609 - k.toInt) < n9 → tW p l e 1 25 κ s m #[.ref this, .int sl] below meth c H locs Q9 (F0 m 21 ls []) := by
      intro n9
      induction n9 with
      | zero =>
        intro k H locs sg ls hT kthis_0 q1 q2 q0 q3 q4 q6 q7 hl hm9
        exfalso
        omega
      | succ n9 ih9 =>
        have ih21 := ih9
        clear ih9
        intro k H locs s18 ls hT kthis_0 q1 q2 q0 q3 q4 q6 q7 hl hm9
        have i_k : (ix k : Int) = k.toInt := by unfold ix; omega
        refine lv_aload_n hx hb dX6_save_21 rfl (lv_at hl 1 rfl) ?_
        refine va_get (D := κ.1) (ci := 6) (v := .int (zI s18 this 0)) (C := RX6) (T := TX6) (N := 27) hx hb hg inX6 hown hK (hT.o20 (hT.k t_this (by decide))).one 0 rfl rfl 0 (by decide) (hg _ k1219) (fun _ h9 => h9) rfl dX6_save_22 ?_
        rw [kthis_0]
        refine lv_if_ne (tgt := 59) hx hb dX6_save_25 (by decide) (fun _ => ?_) (fun c9 => absurd c9 (by decide))
        refine lv_aload_n hx hb dX6_save_59 rfl (lv_at hl 1 rfl) ?_
        refine va_get (D := κ.1) (ci := 6) (v := .int (zI s18 this 0)) (C := RX6) (T := TX6) (N := 27) hx hb hg inX6 hown hK (hT.o20 (hT.k t_this (by decide))).one 0 rfl rfl 0 (by decide) (hg _ k1219) (fun _ h9 => h9) rfl dX6_save_60 ?_
        rw [kthis_0]
        refine lv_if_ne (tgt := 73) hx hb dX6_save_63 (by decide) (fun _ => ?_) (fun c9 => absurd c9 (by decide))
        subst hQ9
        exact t_v hx hb hr hlocks hT (h0.slots hT.2.2.1 ⟨rfl, rfl, fun _ => rfl, fun _ => rfl⟩ (fun i hi hz => by rw [erK, q7, ← erK] at hz; have z9 := h0.2.2.2.2 i hi hz; rw [erS] at z9 ⊢; rw [q6 (by omega)]; exact z9)) dX6_save_73
    exact loop21 ((609 - (0 : Int32).toInt).toNat + 1) 0 _ _ _ _ hT e17 (by omega) (by omega) (by omega) (fun j hj => by rw [ix_0] at hj; omega) (fun x hx => congrFun ((zput_J (x := rS) hus11).trans jrS) x) (fun _ => ((zput_J (x := rS) hus11).trans jrS)) ((zput_Io hus11 ((hTo.k trK (by decide)).ne (hTo.k t_this (by decide)) (by decide))).trans jrK) hl (by omega)
  · have c2 := gi_ne c9
    refine lv_iconst (v := 0) hx hb dX6_save_11 (by decide) ?_
    refine lv_goto (tgt := 16) hx hb dX6_save_12 (by decide) ?_
    have jrS : zJ s3 rS = zJ σ0 rS := funext fun k => trS.eJ hEs3 (by decide) rfl
    have jrK : zI s3 rK = zI σ0 rK := funext fun k => trK.eI hEs3 (by decide) rfl
    have hTo := hT
    refine pf20_0 hx hb hg hown hK hT (hT.k t_this (by decide)) rfl (hg _ k1219) dX6_save_16 (fun H locs s19 hus19 hT => ?_)
    have R20 : RI κ s19 this := R4.put hus19 (hTo.k t_this (by decide)) (by decide)
    have B21 := R20.b
    rw [erW] at B21
    have K22 : zI s19 this 7 = zI σ0 this 7 := hT.eI t_this (by decide) rfl rfl
    have K22n : (zI s19 this 7).toInt = (zI σ0 this 7).toInt := by rw [K22]
    have J23 : zJ s19 rW = zJ σ0 rW := funext fun k => hT.eJ trW (by decide) rfl rfl
    have J23n : (zJ s19 (kR κ this 1) 4).toInt = (zJ σ0 rW 4).toInt := by rw [erW, J23]
    have P24 : zI s19 rP = zI σ0 rP := funext fun k => hT.eI trP (by decide) rfl rfl
    try simp only [K22, J23, P24] at B21
    have e25 : zI s19 this 0 = 0 := zput_at hus19
    refine lv_iconst (v := 0) hx hb dX6_save_19 (by decide) ?_
    refine lv_istore_n (lv' := [(2, .int 0), (0, .ref this), (1, .int sl)]) hx hb dX6_save_20 rfl hl (by decide) rfl (fun ls hl => ?_)
    have loop21 : ∀ (n9 : Nat) (k : Int32) (H : Heap) (locs : List Loc) (sg : Gh) (ls : Array Slot), TS κ gS σ0 sg s H locs → (zI sg this 0 = 0) → (0 ≤ k.toInt) → (k.toInt ≤ 609) → ((0 : Int32).toInt ≠ 0 ∨ (0 ≤ sl.toInt ∧ sl.toInt ≤ 1)) → (∀ j : Nat, j < ix k → zJ sg rS (609 * ix sl + j) = zJ σ0 rW j) → (∀ x : Nat, (x < 609 * ix sl ∨ 609 * ix sl + 609 ≤ x) → zJ sg rS x = zJ σ0 rS x) → ((0 : Int32).toInt ≠ 0 → zJ sg rS = zJ σ0 rS) → (zI sg rK = zI σ0 rK) → lv_has ls 3 [(2, .int k), (0, .ref this), (1, .int sl)] → (609 - k.toInt) < n9 → tW p l e 1 25 κ s m #[.ref this, .int sl] below meth c H locs Q9 (F0 m 21 ls []) := by
      intro n9
      induction n9 with
      | zero =>
        intro k H locs sg ls hT kthis_0 q1 q2 q0 q3 q4 q6 q7 hl hm9
        exfalso
        omega
      | succ n9 ih9 =>
        have ih21 := ih9
        clear ih9
        intro k H locs s26 ls hT kthis_0 q1 q2 q0 q3 q4 q6 q7 hl hm9
        have i_k : (ix k : Int) = k.toInt := by unfold ix; omega
        refine lv_aload_n hx hb dX6_save_21 rfl (lv_at hl 1 rfl) ?_
        refine va_get (D := κ.1) (ci := 6) (v := .int (zI s26 this 0)) (C := RX6) (T := TX6) (N := 27) hx hb hg inX6 hown hK (hT.o20 (hT.k t_this (by decide))).one 0 rfl rfl 0 (by decide) (hg _ k1219) (fun _ h9 => h9) rfl dX6_save_22 ?_
        rw [kthis_0]
        refine lv_if_ne (tgt := 59) hx hb dX6_save_25 (by decide) (fun c9 => absurd (by decide) c9) (fun _ => ?_)
        refine lv_iload_n hx hb dX6_save_28 rfl (lv_at hl 0 rfl) ?_
        refine lv_sipush (v := 609) hx hb dX6_save_29 (by decide) ?_
        refine lv_icmp_ge (tgt := 59) hx hb dX6_save_32 (by decide) (fun c9 => ?_) (fun c9 => ?_)
        · have c3 := gi_le c9
          refine lv_aload_n hx hb dX6_save_59 rfl (lv_at hl 1 rfl) ?_
          refine va_get (D := κ.1) (ci := 6) (v := .int (zI s26 this 0)) (C := RX6) (T := TX6) (N := 27) hx hb hg inX6 hown hK (hT.o20 (hT.k t_this (by decide))).one 0 rfl rfl 0 (by decide) (hg _ k1219) (fun _ h9 => h9) rfl dX6_save_60 ?_
          rw [kthis_0]
          refine lv_if_ne (tgt := 73) hx hb dX6_save_63 (by decide) (fun c9 => absurd (by decide) c9) (fun _ => ?_)
          refine lv_aload_n hx hb dX6_save_66 rfl (lv_at hl 1 rfl) ?_
          refine va_get (D := κ.1) (ci := 6) (v := .ref (kR κ this 4)) (C := RX6) (T := TX6) (N := 27) hx hb hg inX6 hown hK (hT.o20 (hT.k t_this (by decide))).one 0 rfl rfl 4 (by decide) (hg _ k1223) (fun _ h9 => h9) rfl dX6_save_67 ?_
          rw [erK]
          refine lv_iload_n hx hb dX6_save_70 rfl (lv_at hl 2 rfl) ?_
          refine lv_iconst (v := 1) hx hb dX6_save_71 (by decide) ?_
          have hTo := hT
          refine tastz (n := 2) hx hb hK hT (hT.k trK (by decide)) ⟨by decide, by decide⟩ (fun _ _ _ => rfl) (fun _ _ => trivial) (fun _ => rfl) (by omega) (by omega) dX6_save_72 (fun H locs s27 hus27 hT => ?_)
          have kthis_0 : zI s27 this 0 = 0 := (zput_o hus27 (Or.inl ((hTo.k t_this (by decide)).ne (hTo.k trK (by decide)) (by decide)))).trans kthis_0
          subst hQ9
          exact t_v hx hb hr hlocks hT (h0.slots hT.2.2.1 ⟨rfl, rfl, fun _ => rfl, fun _ => rfl⟩ (fun i hi hz => (Classical.em (i = ix sl)).elim (fun e9 => by rw [erS, e9]; exact hW.of609 (fun j hj => by show zJ s27 rS (609 * ix sl + j) = zJ σ0 rW j; rw [zput_J hus27]; exact q3 j (by unfold ix at *; omega))) (fun e9 => by rw [erK, zput_o hus27 (Or.inr e9), q7, ← erK] at hz; have z9 := h0.2.2.2.2 i hi hz; rw [erS] at z9 ⊢; exact z9.congr (fun j hj => by show zJ s27 rS (609 * i + j) = zJ σ0 rS (609 * i + j); rw [zput_J hus27]; exact q4 _ (by unfold rel at hj; omega))))) dX6_save_73
        · have c4 := gi_nle c9
          refine lv_aload_n hx hb dX6_save_35 rfl (lv_at hl 1 rfl) ?_
          refine va_get (D := κ.1) (ci := 6) (v := .ref (kR κ this 3)) (C := RX6) (T := TX6) (N := 27) hx hb hg inX6 hown hK (hT.o20 (hT.k t_this (by decide))).one 0 rfl rfl 3 (by decide) (hg _ k1222) (fun _ h9 => h9) rfl dX6_save_36 ?_
          rw [erS]
          refine lv_sipush (v := 609) hx hb dX6_save_39 (by decide) ?_
          refine lv_iload_n hx hb dX6_save_42 rfl (lv_at hl 2 rfl) ?_
          refine lv_imul hx hb dX6_save_43 ?_
          first | (refine g_mul (by rw [n609]; omega) (by rw [n609]; omega) (fun t28 ht28 => ?_); rw [n609] at ht28) | refine lv_topi (fun t28 ht28 => ?_)
          refine lv_iload_n hx hb dX6_save_44 rfl (lv_at hl 0 rfl) ?_
          refine lv_iadd hx hb dX6_save_45 ?_
          first | refine g_add (by omega) (by omega) (fun t29 ht29 => ?_) | refine lv_topi (fun t29 ht29 => ?_)
          refine lv_aload_n hx hb dX6_save_46 rfl (lv_at hl 1 rfl) ?_
          refine va_get (D := κ.1) (ci := 6) (v := .ref (kR κ this 1)) (C := RX6) (T := TX6) (N := 27) hx hb hg inX6 hown hK (hT.o20 (hT.k t_this (by decide))).one 0 rfl rfl 1 (by decide) (hg _ k1220) (fun _ h9 => h9) rfl dX6_save_47 ?_
          rw [erW]
          refine lv_iload_n hx hb dX6_save_50 rfl (lv_at hl 0 rfl) ?_
          refine va_lald hx hb hK (hT.o21 (hT.k trW (by decide))).one 0 1 rfl rfl (g_in (by omega) (by omega)) dX6_save_51 ?_
          refine lv_topl (fun t30 ht30 => ?_)
          have K31 : zI s26 this 7 = zI σ0 this 7 := hT.eI t_this (by decide) rfl rfl
          have K31n : (zI s26 this 7).toInt = (zI σ0 this 7).toInt := by rw [K31]
          have J32 : zJ s26 rW = zJ σ0 rW := funext fun k => hT.eJ trW (by decide) rfl rfl
          have J32n : (zJ s26 (kR κ this 1) 4).toInt = (zJ σ0 rW 4).toInt := by rw [erW, J32]
          have P33 : zI s26 rP = zI σ0 rP := funext fun k => hT.eI trP (by decide) rfl rfl
          have hTo := hT
          refine tastl (n := 1218) hx hb hK hT (hT.k trS (by decide)) ⟨by decide, by decide⟩ (fun _ _ _ => rfl) (fun _ _ => trivial) (fun _ => rfl) (by omega) (by omega) dX6_save_52 (fun H locs s34 hus34 hT => ?_)
          have kthis_0 : zI s34 this 0 = 0 := by rw [zpul_I hus34]; exact kthis_0
          obtain ⟨t35, qt35⟩ : ∃ zz9 : Int32, k + Int32.ofInt 1 = zz9 := ⟨_, rfl⟩
          refine lv_iinc (v := t35) (lv' := [(2, .int t35), (0, .ref this), (1, .int sl)]) hx hb dX6_save_53 hl (k := 0) rfl qt35 (by decide) rfl (fun ls hl => ?_)
          have ht35 : t35.toInt = k.toInt + 1 := by rw [← qt35]; exact v_addi rfl (show (Int32.ofInt 1).toInt = 1 from by decide) (by omega) (by omega)
          refine lv_goto (tgt := 21) hx hb dX6_save_56 (by decide) ?_
          exact ih21 t35 _ _ _ _ hT kthis_0 (by omega) (by omega) (by omega) (fun j hj => by rw [zpul_Ja hus34, (show ix t29 = 609 * ix sl + ix k from by unfold ix; omega)]; rw [(show ix t35 = ix k + 1 from by unfold ix; omega)] at hj; exact (Classical.em (j = ix k)).elim (fun e9 => by rw [e9, uh, ht30]; exact hTo.eJ trW (by decide) rfl rfl) (fun e9 => by rw [un (show 609 * ix sl + j ≠ 609 * ix sl + ix k from by omega)]; exact q3 j (by omega))) (fun x hx => by rw [zpul_Ja hus34, (show ix t29 = 609 * ix sl + ix k from by unfold ix; omega), un (show x ≠ 609 * ix sl + ix k from by unfold ix at *; omega)]; exact q4 x hx) (fun q9 => by omega) (by rw [zpul_I hus34]; exact q7) hl (by omega)
    exact loop21 ((609 - (0 : Int32).toInt).toNat + 1) 0 _ _ _ _ hT e25 (by omega) (by omega) (by omega) (fun j hj => by rw [ix_0] at hj; omega) (fun x hx => congrFun ((zput_J (x := rS) hus19).trans jrS) x) (fun _ => ((zput_J (x := rS) hus19).trans jrS)) ((zput_Io hus19 ((hTo.k trK (by decide)).ne (hTo.k t_this (by decide)) (by decide))).trans jrK) hl (by omega)
set_option maxHeartbeats 4000000 in
set_option maxRecDepth 100000 in
theorem X6_restore (l : Launch) (κ : Kt) (σ0 : Gh) (this : Nat) (sl : Int32) (t_this : zk σ0 this 20) (h0 : RI κ σ0 this) : TC l yX6_restore cX6_restore 3 none 1 25 [.ref this, .int sl] κ σ0 (tqv κ gXs σ0 (fun (τ : Gh) => (RI κ τ this))) := by
  refine TC.of gXs (by decide +kernel) (Nat.le_of_ble_eq_true rfl) ?_
  intro p e s m below meth c ls hcs hK hX hT hl
  obtain ⟨hx, hb, hr, hml, hown, hg, hlocks, hin⟩ := hcs
  have hown : s.vm.findClass RX6 = some m.cls := hown
  have hl : lv_has ls 3 [(0, .ref this), (1, .int sl)] := hl
  have hT0 := hT
  have n0 : (0 : Int32).toInt = 0 := by decide
  have n1 : (1 : Int32).toInt = 1 := by decide
  have n2 : (2 : Int32).toInt = 2 := by decide
  have n609 : (609 : Int32).toInt = 609 := by decide
  have j0 : (0 : Int64).toInt = 0 := by decide
  have j1 : (1 : Int64).toInt = 1 := by decide
  have sl_lo := Int32.le_toInt sl
  have sl_hi := Int32.toInt_lt sl
  generalize hQ9 : tQ _ _ _ _ _ _ = Q9
  obtain ⟨rW, erW⟩ : ∃ z, kR κ this 1 = z := ⟨_, rfl⟩
  have trW : zk σ0 rW 21 := by rw [← erW]; exact h0.1.2.1
  obtain ⟨rP, erP⟩ : ∃ z, kR κ this 5 = z := ⟨_, rfl⟩
  have trP : zk σ0 rP 25 := by rw [← erP]; exact h0.1.2.2.2.2
  have hB0 := h0.b
  rw [erW] at hB0
  have hW := h0.2.1
  rw [erW] at hW
  have hP := h0.2.2.1
  rw [erP] at hP
  have hrN : (rN σ0 this : Int) = (zI σ0 this 7).toInt := by unfold rN; omega
  obtain ⟨rS, erS⟩ : ∃ z, kR κ this 3 = z := ⟨_, rfl⟩
  have trS : zk σ0 rS 22 := by rw [← erS]; exact hT0.ref t_this (by decide) (by decide) (by decide)
  obtain ⟨rK, erK⟩ : ∃ z, kR κ this 4 = z := ⟨_, rfl⟩
  have trK : zk σ0 rK 29 := by rw [← erK]; exact hT0.ref t_this (by decide) (by decide) (by decide)
  refine lv_aload_n hx hb dX6_restore_0 rfl (lv_at hl 0 rfl) ?_
  refine lv_iload_n hx hb dX6_restore_1 rfl (lv_at hl 1 rfl) ?_
  refine lv_i2l hx hb dX6_restore_2 rfl ?_
  refine g_i2l (fun t1 ht1 => ?_)
  refine lv_lconst (v := 0) hx hb dX6_restore_3 (by decide) ?_
  refine lv_lconst (v := 1) hx hb dX6_restore_4 (by decide) ?_
  have hTo := hT
  refine tSi (n := 3) (As := [.long t1, .long 0, .long 1]) (rest := [.ref this]) hx hb hml hown hg hT hK hX (X6_in l κ σ0 t1 0 1   ) sub_fE_gXs (mwS k1317 k1318 k92 k1319) ⟨rfl, by decide, by decide, by decide +kernel⟩ ⟨(Nat.le_of_ble_eq_true rfl), (Nat.le_of_ble_eq_true rfl)⟩ rfl hl.1 rfl (Nat.le_of_ble_eq_true rfl) dX6_restore_5 zroom.rf (fun x2 s3 H locs hφ hEs3 hT => ?_)
  have R4 : RI κ s3 this := h0.ext hEs3 ⟨rfl, rfl, fun _ => rfl, fun _ => rfl, fun _ => rfl, fun _ => rfl⟩
  have B5 := R4.b
  rw [erW] at B5
  have K6 : zI s3 this 7 = zI σ0 this 7 := hT.eI t_this (by decide) rfl rfl
  have K6n : (zI s3 this 7).toInt = (zI σ0 this 7).toInt := by rw [K6]
  have P7 : zI s3 rP = zI σ0 rP := funext fun k => hT.eI trP (by decide) rfl rfl
  try simp only [K6, P7] at B5
  obtain ⟨f8, f9⟩ := hφ
  try simp only [erW, erP, ix_0, ix_1, ix_2, ix_3, ix_4, ix_5, ix_6, ix_7, ix_8, ix_9, K6, P7] at f8
  refine lv_if_ne (tgt := 15) hx hb dX6_restore_8 (by decide) (fun c9 => ?_) (fun c9 => ?_)
  · have c1 := gi_ne c9
    refine lv_aload_n hx hb dX6_restore_15 rfl (lv_at hl 0 rfl) ?_
    refine va_get (D := κ.1) (ci := 6) (v := .ref (kR κ this 4)) (C := RX6) (T := TX6) (N := 27) hx hb hg inX6 hown hK (hT.o20 (hT.k t_this (by decide))).one 0 rfl rfl 4 (by decide) (hg _ k1223) (fun _ h9 => h9) rfl dX6_restore_16 ?_
    rw [erK]
    refine lv_iload_n hx hb dX6_restore_19 rfl (lv_at hl 1 rfl) ?_
    refine va_zald hx hb hK (hT.o29 (hT.k trK (by decide))).one 0 3 rfl rfl (g_in (by omega) (by omega)) dX6_restore_20 ?_
    refine lv_topi (fun t10 ht10 => ?_)
    refine lv_if_eq (tgt := 28) hx hb dX6_restore_21 (by decide) (fun c9 => ?_) (fun c9 => ?_)
    · have c2 := gi_eq c9
      refine lv_iconst (v := 2) hx hb dX6_restore_28 (by decide) ?_
      have jrW : zJ s3 rW = zJ σ0 rW := funext fun k => trW.eJ hEs3 (by decide) rfl
      have hTo := hT
      refine pf20_0 hx hb hg hown hK hT (hT.k t_this (by decide)) rfl (hg _ k1219) dX6_restore_29 (fun H locs s11 hus11 hT => ?_)
      have R12 : RI κ s11 this := R4.put hus11 (hTo.k t_this (by decide)) (by decide)
      have B13 := R12.b
      rw [erW] at B13
      have K14 : zI s11 this 7 = zI σ0 this 7 := hT.eI t_this (by decide) rfl rfl
      have K14n : (zI s11 this 7).toInt = (zI σ0 this 7).toInt := by rw [K14]
      have P15 : zI s11 rP = zI σ0 rP := funext fun k => hT.eI trP (by decide) rfl rfl
      try simp only [K14, P15] at B13
      have e16 : zI s11 this 0 = 2 := zput_at hus11
      refine lv_iconst (v := 0) hx hb dX6_restore_32 (by decide) ?_
      refine lv_istore_n (lv' := [(2, .int 0), (0, .ref this), (1, .int sl)]) hx hb dX6_restore_33 rfl hl (by decide) rfl (fun ls hl => ?_)
      have loop34 : ∀ (n9 : Nat) (k : Int32) (H : Heap) (locs : List Loc) (sg : Gh) (ls : Array Slot), TS κ gXs σ0 sg s H locs → (zI sg this 0 = 2) → (0 ≤ k.toInt) → (k.toInt ≤ 609) → ((2 : Int32).toInt ≠ 0 ∨ (0 ≤ sl.toInt ∧ sl.toInt ≤ 1)) → ((2 : Int32).toInt ≠ 0 ∨ zI σ0 rK (ix sl) ≠ 0) → (∀ j : Nat, j < ix k → zJ sg rW j = zJ σ0 rS (609 * ix sl + j)) → ((2 : Int32).toInt ≠ 0 → zJ sg rW = zJ σ0 rW) → lv_has ls 3 [(2, .int k), (0, .ref this), (1, .int sl)] → (609 - k.toInt) < n9 → tW p l e 1 25 κ s m #[.ref this, .int sl] below meth c H locs Q9 (F0 m 34 ls []) := by
        intro n9
        induction n9 with
        | zero =>
          intro k H locs sg ls hT kthis_0 q1 q2 q0 q8 q3 q6 hl hm9
          exfalso
          omega
        | succ n9 ih9 =>
          have ih34 := ih9
          clear ih9
          intro k H locs s17 ls hT kthis_0 q1 q2 q0 q8 q3 q6 hl hm9
          have i_k : (ix k : Int) = k.toInt := by unfold ix; omega
          refine lv_aload_n hx hb dX6_restore_34 rfl (lv_at hl 1 rfl) ?_
          refine va_get (D := κ.1) (ci := 6) (v := .int (zI s17 this 0)) (C := RX6) (T := TX6) (N := 27) hx hb hg inX6 hown hK (hT.o20 (hT.k t_this (by decide))).one 0 rfl rfl 0 (by decide) (hg _ k1219) (fun _ h9 => h9) rfl dX6_restore_35 ?_
          rw [kthis_0]
          refine lv_if_ne (tgt := 72) hx hb dX6_restore_38 (by decide) (fun _ => ?_) (fun c9 => absurd c9 (by decide))
          subst hQ9
          exact t_v hx hb hr hlocks hT (h0.extw hT.2.2.1 ⟨rfl, rfl, fun _ => rfl, fun _ => rfl, fun _ => rfl⟩ (by rw [erW, q6 (by omega)]; exact hW)) dX6_restore_72
      exact loop34 ((609 - (0 : Int32).toInt).toNat + 1) 0 _ _ _ _ hT e16 (by omega) (by omega) (by omega) (Or.inl (by omega)) (fun j hj => by rw [ix_0] at hj; omega) (fun _ => ((zput_J (x := rW) hus11).trans jrW)) hl (by omega)
    · have c3 := gi_ne c9
      have z8 : zI σ0 rK (ix sl) ≠ 0 := fun z9 => by
        have y8 : t10 = 0 := by rw [ht10, show zI s3 rK = zI σ0 rK from funext fun k => hT.eI trK (by decide) rfl rfl]; exact z9
        have y7 : t10.toInt = 0 := by rw [y8]; decide
        omega
      refine lv_iconst (v := 0) hx hb dX6_restore_24 (by decide) ?_
      refine lv_goto (tgt := 29) hx hb dX6_restore_25 (by decide) ?_
      have jrW : zJ s3 rW = zJ σ0 rW := funext fun k => trW.eJ hEs3 (by decide) rfl
      have hTo := hT
      refine pf20_0 hx hb hg hown hK hT (hT.k t_this (by decide)) rfl (hg _ k1219) dX6_restore_29 (fun H locs s18 hus18 hT => ?_)
      have R19 : RI κ s18 this := R4.put hus18 (hTo.k t_this (by decide)) (by decide)
      have B20 := R19.b
      rw [erW] at B20
      have K21 : zI s18 this 7 = zI σ0 this 7 := hT.eI t_this (by decide) rfl rfl
      have K21n : (zI s18 this 7).toInt = (zI σ0 this 7).toInt := by rw [K21]
      have P22 : zI s18 rP = zI σ0 rP := funext fun k => hT.eI trP (by decide) rfl rfl
      try simp only [K21, P22] at B20
      have e23 : zI s18 this 0 = 0 := zput_at hus18
      refine lv_iconst (v := 0) hx hb dX6_restore_32 (by decide) ?_
      refine lv_istore_n (lv' := [(2, .int 0), (0, .ref this), (1, .int sl)]) hx hb dX6_restore_33 rfl hl (by decide) rfl (fun ls hl => ?_)
      have loop34 : ∀ (n9 : Nat) (k : Int32) (H : Heap) (locs : List Loc) (sg : Gh) (ls : Array Slot), TS κ gXs σ0 sg s H locs → (zI sg this 0 = 0) → (0 ≤ k.toInt) → (k.toInt ≤ 609) → ((0 : Int32).toInt ≠ 0 ∨ (0 ≤ sl.toInt ∧ sl.toInt ≤ 1)) → ((0 : Int32).toInt ≠ 0 ∨ zI σ0 rK (ix sl) ≠ 0) → (∀ j : Nat, j < ix k → zJ sg rW j = zJ σ0 rS (609 * ix sl + j)) → ((0 : Int32).toInt ≠ 0 → zJ sg rW = zJ σ0 rW) → lv_has ls 3 [(2, .int k), (0, .ref this), (1, .int sl)] → (609 - k.toInt) < n9 → tW p l e 1 25 κ s m #[.ref this, .int sl] below meth c H locs Q9 (F0 m 34 ls []) := by
        intro n9
        induction n9 with
        | zero =>
          intro k H locs sg ls hT kthis_0 q1 q2 q0 q8 q3 q6 hl hm9
          exfalso
          omega
        | succ n9 ih9 =>
          have ih34 := ih9
          clear ih9
          intro k H locs s24 ls hT kthis_0 q1 q2 q0 q8 q3 q6 hl hm9
          have i_k : (ix k : Int) = k.toInt := by unfold ix; omega
          refine lv_aload_n hx hb dX6_restore_34 rfl (lv_at hl 1 rfl) ?_
          refine va_get (D := κ.1) (ci := 6) (v := .int (zI s24 this 0)) (C := RX6) (T := TX6) (N := 27) hx hb hg inX6 hown hK (hT.o20 (hT.k t_this (by decide))).one 0 rfl rfl 0 (by decide) (hg _ k1219) (fun _ h9 => h9) rfl dX6_restore_35 ?_
          rw [kthis_0]
          refine lv_if_ne (tgt := 72) hx hb dX6_restore_38 (by decide) (fun c9 => absurd (by decide) c9) (fun _ => ?_)
          refine lv_iload_n hx hb dX6_restore_41 rfl (lv_at hl 0 rfl) ?_
          refine lv_sipush (v := 609) hx hb dX6_restore_42 (by decide) ?_
          refine lv_icmp_ge (tgt := 72) hx hb dX6_restore_45 (by decide) (fun c9 => ?_) (fun c9 => ?_)
          · have c4 := gi_le c9
            subst hQ9
            exact t_v hx hb hr hlocks hT (h0.extw hT.2.2.1 ⟨rfl, rfl, fun _ => rfl, fun _ => rfl, fun _ => rfl⟩ (by rw [erW]; have z9 := h0.2.2.2.2 (ix sl) (by unfold ix; omega) (by rw [erK]; exact q8.resolve_left (by omega)); rw [erS] at z9; exact z9.of609 (fun j hj => q3 j (by unfold ix at *; omega)))) dX6_restore_72
          · have c5 := gi_nle c9
            refine lv_aload_n hx hb dX6_restore_48 rfl (lv_at hl 1 rfl) ?_
            refine va_get (D := κ.1) (ci := 6) (v := .ref (kR κ this 1)) (C := RX6) (T := TX6) (N := 27) hx hb hg inX6 hown hK (hT.o20 (hT.k t_this (by decide))).one 0 rfl rfl 1 (by decide) (hg _ k1220) (fun _ h9 => h9) rfl dX6_restore_49 ?_
            rw [erW]
            refine lv_iload_n hx hb dX6_restore_52 rfl (lv_at hl 0 rfl) ?_
            refine lv_aload_n hx hb dX6_restore_53 rfl (lv_at hl 1 rfl) ?_
            refine va_get (D := κ.1) (ci := 6) (v := .ref (kR κ this 3)) (C := RX6) (T := TX6) (N := 27) hx hb hg inX6 hown hK (hT.o20 (hT.k t_this (by decide))).one 0 rfl rfl 3 (by decide) (hg _ k1222) (fun _ h9 => h9) rfl dX6_restore_54 ?_
            rw [erS]
            refine lv_sipush (v := 609) hx hb dX6_restore_57 (by decide) ?_
            refine lv_iload_n hx hb dX6_restore_60 rfl (lv_at hl 2 rfl) ?_
            refine lv_imul hx hb dX6_restore_61 ?_
            first | (refine g_mul (by rw [n609]; omega) (by rw [n609]; omega) (fun t25 ht25 => ?_); rw [n609] at ht25) | refine lv_topi (fun t25 ht25 => ?_)
            refine lv_iload_n hx hb dX6_restore_62 rfl (lv_at hl 0 rfl) ?_
            refine lv_iadd hx hb dX6_restore_63 ?_
            first | refine g_add (by omega) (by omega) (fun t26 ht26 => ?_) | refine lv_topi (fun t26 ht26 => ?_)
            refine va_lald hx hb hK (hT.o22 (hT.k trS (by decide))).one 0 1 rfl rfl (g_in (by omega) (by omega)) dX6_restore_64 ?_
            refine lv_topl (fun t27 ht27 => ?_)
            have hTo := hT
            refine tastl (n := 609) hx hb hK hT (hT.k trW (by decide)) ⟨by decide, by decide⟩ (fun _ _ _ => rfl) (fun _ _ => trivial) (fun _ => rfl) (by omega) (by omega) dX6_restore_65 (fun H locs s28 hus28 hT => ?_)
            have kthis_0 : zI s28 this 0 = 0 := by rw [zpul_I hus28]; exact kthis_0
            obtain ⟨t29, qt29⟩ : ∃ zz9 : Int32, k + Int32.ofInt 1 = zz9 := ⟨_, rfl⟩
            refine lv_iinc (v := t29) (lv' := [(2, .int t29), (0, .ref this), (1, .int sl)]) hx hb dX6_restore_66 hl (k := 0) rfl qt29 (by decide) rfl (fun ls hl => ?_)
            have ht29 : t29.toInt = k.toInt + 1 := by rw [← qt29]; exact v_addi rfl (show (Int32.ofInt 1).toInt = 1 from by decide) (by omega) (by omega)
            refine lv_goto (tgt := 34) hx hb dX6_restore_69 (by decide) ?_
            exact ih34 t29 _ _ _ _ hT kthis_0 (by omega) (by omega) (by omega) q8 (fun j hj => by rw [zpul_Ja hus28]; rw [(show ix t29 = ix k + 1 from by unfold ix; omega)] at hj; exact (Classical.em (j = ix k)).elim (fun e9 => by rw [e9, uh, ht27]; exact Eq.trans (hTo.eJ (k := ix t26) trS (by decide) rfl rfl) (congrArg (zJ σ0 rS) (show ix t26 = 609 * ix sl + ix k from by unfold ix; omega))) (fun e9 => by rw [un e9]; exact q3 j (by omega))) (fun q9 => by omega) hl (by omega)
      exact loop34 ((609 - (0 : Int32).toInt).toNat + 1) 0 _ _ _ _ hT e23 (by omega) (by omega) (by omega) (Or.inr z8) (fun j hj => by rw [ix_0] at hj; omega) (fun _ => ((zput_J (x := rW) hus18).trans jrW)) hl (by omega)
  · have c6 := gi_eq c9
    refine lv_iconst (v := 1) hx hb dX6_restore_11 (by decide) ?_
    refine lv_goto (tgt := 29) hx hb dX6_restore_12 (by decide) ?_
    have jrW : zJ s3 rW = zJ σ0 rW := funext fun k => trW.eJ hEs3 (by decide) rfl
    have hTo := hT
    refine pf20_0 hx hb hg hown hK hT (hT.k t_this (by decide)) rfl (hg _ k1219) dX6_restore_29 (fun H locs s30 hus30 hT => ?_)
    have R31 : RI κ s30 this := R4.put hus30 (hTo.k t_this (by decide)) (by decide)
    have B32 := R31.b
    rw [erW] at B32
    have K33 : zI s30 this 7 = zI σ0 this 7 := hT.eI t_this (by decide) rfl rfl
    have K33n : (zI s30 this 7).toInt = (zI σ0 this 7).toInt := by rw [K33]
    have P34 : zI s30 rP = zI σ0 rP := funext fun k => hT.eI trP (by decide) rfl rfl
    try simp only [K33, P34] at B32
    have e35 : zI s30 this 0 = 1 := zput_at hus30
    refine lv_iconst (v := 0) hx hb dX6_restore_32 (by decide) ?_
    refine lv_istore_n (lv' := [(2, .int 0), (0, .ref this), (1, .int sl)]) hx hb dX6_restore_33 rfl hl (by decide) rfl (fun ls hl => ?_)
    have loop34 : ∀ (n9 : Nat) (k : Int32) (H : Heap) (locs : List Loc) (sg : Gh) (ls : Array Slot), TS κ gXs σ0 sg s H locs → (zI sg this 0 = 1) → (0 ≤ k.toInt) → (k.toInt ≤ 609) → ((1 : Int32).toInt ≠ 0 ∨ (0 ≤ sl.toInt ∧ sl.toInt ≤ 1)) → ((1 : Int32).toInt ≠ 0 ∨ zI σ0 rK (ix sl) ≠ 0) → (∀ j : Nat, j < ix k → zJ sg rW j = zJ σ0 rS (609 * ix sl + j)) → ((1 : Int32).toInt ≠ 0 → zJ sg rW = zJ σ0 rW) → lv_has ls 3 [(2, .int k), (0, .ref this), (1, .int sl)] → (609 - k.toInt) < n9 → tW p l e 1 25 κ s m #[.ref this, .int sl] below meth c H locs Q9 (F0 m 34 ls []) := by
      intro n9
      induction n9 with
      | zero =>
        intro k H locs sg ls hT kthis_0 q1 q2 q0 q8 q3 q6 hl hm9
        exfalso
        omega
      | succ n9 ih9 =>
        have ih34 := ih9
        clear ih9
        intro k H locs s36 ls hT kthis_0 q1 q2 q0 q8 q3 q6 hl hm9
        have i_k : (ix k : Int) = k.toInt := by unfold ix; omega
        refine lv_aload_n hx hb dX6_restore_34 rfl (lv_at hl 1 rfl) ?_
        refine va_get (D := κ.1) (ci := 6) (v := .int (zI s36 this 0)) (C := RX6) (T := TX6) (N := 27) hx hb hg inX6 hown hK (hT.o20 (hT.k t_this (by decide))).one 0 rfl rfl 0 (by decide) (hg _ k1219) (fun _ h9 => h9) rfl dX6_restore_35 ?_
        rw [kthis_0]
        refine lv_if_ne (tgt := 72) hx hb dX6_restore_38 (by decide) (fun _ => ?_) (fun c9 => absurd c9 (by decide))
        subst hQ9
        exact t_v hx hb hr hlocks hT (h0.extw hT.2.2.1 ⟨rfl, rfl, fun _ => rfl, fun _ => rfl, fun _ => rfl⟩ (by rw [erW, q6 (by omega)]; exact hW)) dX6_restore_72
    exact loop34 ((609 - (0 : Int32).toInt).toNat + 1) 0 _ _ _ _ hT e35 (by omega) (by omega) (by omega) (Or.inl (by omega)) (fun j hj => by rw [ix_0] at hj; omega) (fun _ => ((zput_J (x := rW) hus30).trans jrW)) hl (by omega)

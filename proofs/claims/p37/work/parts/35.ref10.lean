/-! The reference over any state: lift, aside taken back -/
theorem dX6_lift_0 : decode cX6_lift 0 = .ok (.aload_n 0, 1) := by decide +kernel
theorem dX6_lift_1 : decode cX6_lift 1 = .ok (.aload_n 0, 1) := by decide +kernel
theorem dX6_lift_2 : decode cX6_lift 2 = .ok (.iload_n 1, 1) := by decide +kernel
theorem dX6_lift_3 : decode cX6_lift 3 = .ok (.invokevirtual 205, 3) := by decide +kernel
theorem dX6_lift_6 : decode cX6_lift 6 = .ok (.ifCond .eq 7, 3) := by decide +kernel
theorem dX6_lift_9 : decode cX6_lift 9 = .ok (.iconst 0, 1) := by decide +kernel
theorem dX6_lift_10 : decode cX6_lift 10 = .ok (.goto 4, 3) := by decide +kernel
theorem dX6_lift_13 : decode cX6_lift 13 = .ok (.iconst 1, 1) := by decide +kernel
theorem dX6_lift_14 : decode cX6_lift 14 = .ok (.putfield 64, 3) := by decide +kernel
theorem dX6_lift_17 : decode cX6_lift 17 = .ok (.aload_n 0, 1) := by decide +kernel
theorem dX6_lift_18 : decode cX6_lift 18 = .ok (.getfield 64, 3) := by decide +kernel
theorem dX6_lift_21 : decode cX6_lift 21 = .ok (.ifCond .le 5, 3) := by decide +kernel
theorem dX6_lift_24 : decode cX6_lift 24 = .ok (.lconst 0, 1) := by decide +kernel
theorem dX6_lift_25 : decode cX6_lift 25 = .ok (.lreturn, 1) := by decide +kernel
theorem dX6_lift_26 : decode cX6_lift 26 = .ok (.aload_n 0, 1) := by decide +kernel
theorem dX6_lift_27 : decode cX6_lift 27 = .ok (.iload_n 1, 1) := by decide +kernel
theorem dX6_lift_28 : decode cX6_lift 28 = .ok (.invokevirtual 277, 3) := by decide +kernel
theorem dX6_lift_31 : decode cX6_lift 31 = .ok (.ifCond .ne 25, 3) := by decide +kernel
theorem dX6_lift_34 : decode cX6_lift 34 = .ok (.aload_n 0, 1) := by decide +kernel
theorem dX6_lift_35 : decode cX6_lift 35 = .ok (.iconst 2, 1) := by decide +kernel
theorem dX6_lift_36 : decode cX6_lift 36 = .ok (.iconst 3, 1) := by decide +kernel
theorem dX6_lift_37 : decode cX6_lift 37 = .ok (.aload_n 0, 1) := by decide +kernel
theorem dX6_lift_38 : decode cX6_lift 38 = .ok (.iload_n 1, 1) := by decide +kernel
theorem dX6_lift_39 : decode cX6_lift 39 = .ok (.invokevirtual 202, 3) := by decide +kernel
theorem dX6_lift_42 : decode cX6_lift 42 = .ok (.ifCond .eq 7, 3) := by decide +kernel
theorem dX6_lift_45 : decode cX6_lift 45 = .ok (.iconst 5, 1) := by decide +kernel
theorem dX6_lift_46 : decode cX6_lift 46 = .ok (.goto 4, 3) := by decide +kernel
theorem dX6_lift_49 : decode cX6_lift 49 = .ok (.iconst 4, 1) := by decide +kernel
theorem dX6_lift_50 : decode cX6_lift 50 = .ok (.iload_n 1, 1) := by decide +kernel
theorem dX6_lift_51 : decode cX6_lift 51 = .ok (.invokevirtual 294, 3) := by decide +kernel
theorem dX6_lift_54 : decode cX6_lift 54 = .ok (.i2l, 1) := by decide +kernel
theorem dX6_lift_55 : decode cX6_lift 55 = .ok (.lreturn, 1) := by decide +kernel
theorem dX6_lift_56 : decode cX6_lift 56 = .ok (.aload_n 0, 1) := by decide +kernel
theorem dX6_lift_57 : decode cX6_lift 57 = .ok (.iload_n 1, 1) := by decide +kernel
theorem dX6_lift_58 : decode cX6_lift 58 = .ok (.invokevirtual 301, 3) := by decide +kernel
theorem dX6_lift_61 : decode cX6_lift 61 = .ok (.aload_n 0, 1) := by decide +kernel
theorem dX6_lift_62 : decode cX6_lift 62 = .ok (.aload_n 0, 1) := by decide +kernel
theorem dX6_lift_63 : decode cX6_lift 63 = .ok (.invokevirtual 199, 3) := by decide +kernel
theorem dX6_lift_66 : decode cX6_lift 66 = .ok (.iconst 1, 1) := by decide +kernel
theorem dX6_lift_67 : decode cX6_lift 67 = .ok (.isub, 1) := by decide +kernel
theorem dX6_lift_68 : decode cX6_lift 68 = .ok (.iconst 3, 1) := by decide +kernel
theorem dX6_lift_69 : decode cX6_lift 69 = .ok (.invokevirtual 208, 3) := by decide +kernel
theorem dX6_lift_72 : decode cX6_lift 72 = .ok (.lreturn, 1) := by decide +kernel
theorem dX6_takesBack_0 : decode cX6_takesBack 0 = .ok (.iconst 0, 1) := by decide +kernel
theorem dX6_takesBack_1 : decode cX6_takesBack 1 = .ok (.istore_n 1, 1) := by decide +kernel
theorem dX6_takesBack_2 : decode cX6_takesBack 2 = .ok (.iload_n 1, 1) := by decide +kernel
theorem dX6_takesBack_3 : decode cX6_takesBack 3 = .ok (.sipush 609, 3) := by decide +kernel
theorem dX6_takesBack_6 : decode cX6_takesBack 6 = .ok (.if_icmp .ge 21, 3) := by decide +kernel
theorem dX6_takesBack_9 : decode cX6_takesBack 9 = .ok (.aload_n 0, 1) := by decide +kernel
theorem dX6_takesBack_10 : decode cX6_takesBack 10 = .ok (.getfield 7, 3) := by decide +kernel
theorem dX6_takesBack_13 : decode cX6_takesBack 13 = .ok (.iload_n 1, 1) := by decide +kernel
theorem dX6_takesBack_14 : decode cX6_takesBack 14 = .ok (.aload_n 0, 1) := by decide +kernel
theorem dX6_takesBack_15 : decode cX6_takesBack 15 = .ok (.getfield 13, 3) := by decide +kernel
theorem dX6_takesBack_18 : decode cX6_takesBack 18 = .ok (.iload_n 1, 1) := by decide +kernel
theorem dX6_takesBack_19 : decode cX6_takesBack 19 = .ok (.laload, 1) := by decide +kernel
theorem dX6_takesBack_20 : decode cX6_takesBack 20 = .ok (.lastore, 1) := by decide +kernel
theorem dX6_takesBack_21 : decode cX6_takesBack 21 = .ok (.iinc 1 1, 3) := by decide +kernel
theorem dX6_takesBack_24 : decode cX6_takesBack 24 = .ok (.goto (-22), 3) := by decide +kernel
theorem dX6_takesBack_27 : decode cX6_takesBack 27 = .ok (.return_, 1) := by decide +kernel
set_option maxHeartbeats 4000000 in
set_option maxRecDepth 100000 in
theorem X6_takesBack (l : Launch) (κ : Kt) (σ0 : Gh) (this : Nat) (t_this : zk σ0 this 20) (h0 : RI κ σ0 this) : TC l yX6_takesBack cX6_takesBack 2 none 0 0 [.ref this] κ σ0 (tqv κ gWb σ0 (fun (τ : Gh) => (∀ j : Nat, (j : Int) < 609 → zJ τ (kR κ this 1) j = zJ σ0 (kR κ this 2) j))) := by
  refine TC.of gWb (by decide +kernel) (Nat.le_of_ble_eq_true rfl) ?_
  intro p e s m below meth c ls hcs hK hX hT hl
  obtain ⟨hx, hb, hr, hml, hown, hg, hlocks, hin⟩ := hcs
  have hown : s.vm.findClass RX6 = some m.cls := hown
  have hl : lv_has ls 2 [(0, .ref this)] := hl
  have hT0 := hT
  have n0 : (0 : Int32).toInt = 0 := by decide
  have n609 : (609 : Int32).toInt = 609 := by decide
  generalize hQ9 : tQ _ _ _ _ _ _ = Q9
  obtain ⟨rW, erW⟩ : ∃ z, kR κ this 1 = z := ⟨_, rfl⟩
  have trW : zk σ0 rW 21 := by rw [← erW]; exact h0.1.2.1
  obtain ⟨rP, erP⟩ : ∃ z, kR κ this 5 = z := ⟨_, rfl⟩
  have trP : zk σ0 rP 25 := by rw [← erP]; exact h0.1.2.2.2.2
  have hB0 := h0.b
  rw [erW] at hB0
  have hW := h0.2.1
  rw [erW] at hW
  have hP := h0.2.2.1
  rw [erP] at hP
  have hrN : (rN σ0 this : Int) = (zI σ0 this 7).toInt := by unfold rN; omega
  obtain ⟨rA, erA⟩ : ∃ z, kR κ this 2 = z := ⟨_, rfl⟩
  have trA : zk σ0 rA 30 := by rw [← erA]; exact hT0.ref t_this (by decide) (by decide) (by decide)
  refine lv_iconst (v := 0) hx hb dX6_takesBack_0 (by decide) ?_
  refine lv_istore_n (lv' := [(1, .int 0), (0, .ref this)]) hx hb dX6_takesBack_1 rfl hl (by decide) rfl (fun ls hl => ?_)
  have loop2 : ∀ (n9 : Nat) (k : Int32) (H : Heap) (locs : List Loc) (sg : Gh) (ls : Array Slot), TS κ gWb σ0 sg s H locs → (0 ≤ k.toInt) → (k.toInt ≤ 609) → (∀ j : Nat, (j : Int) < k.toInt → zJ sg rW j = zJ σ0 rA j) → lv_has ls 2 [(1, .int k), (0, .ref this)] → (609 - k.toInt) < n9 → tW p l e 0 0 κ s m #[.ref this] below meth c H locs Q9 (F0 m 2 ls []) := by
    intro n9
    induction n9 with
    | zero =>
      intro k H locs sg ls hT q1 q2 q3 hl hm9
      exfalso
      omega
    | succ n9 ih9 =>
      have ih2 := ih9
      clear ih9
      intro k H locs s1 ls hT q1 q2 q3 hl hm9
      refine lv_iload_n hx hb dX6_takesBack_2 rfl (lv_at hl 0 rfl) ?_
      refine lv_sipush (v := 609) hx hb dX6_takesBack_3 (by decide) ?_
      refine lv_icmp_ge (tgt := 27) hx hb dX6_takesBack_6 (by decide) (fun c9 => ?_) (fun c9 => ?_)
      · have c1 := gi_le c9
        subst hQ9
        exact t_v hx hb hr hlocks hT (fun j hj => by rw [erA, erW]; exact q3 j (by omega)) dX6_takesBack_27
      · have c2 := gi_nle c9
        refine lv_aload_n hx hb dX6_takesBack_9 rfl (lv_at hl 1 rfl) ?_
        refine va_get (D := κ.1) (ci := 6) (v := .ref (kR κ this 1)) (C := RX6) (T := TX6) (N := 27) hx hb hg inX6 hown hK (hT.o20 (hT.k t_this (by decide))).one 0 rfl rfl 1 (by decide) (hg _ k1220) (fun _ h9 => h9) rfl dX6_takesBack_10 ?_
        rw [erW]
        refine lv_iload_n hx hb dX6_takesBack_13 rfl (lv_at hl 0 rfl) ?_
        refine lv_aload_n hx hb dX6_takesBack_14 rfl (lv_at hl 1 rfl) ?_
        refine va_get (D := κ.1) (ci := 6) (v := .ref (kR κ this 2)) (C := RX6) (T := TX6) (N := 27) hx hb hg inX6 hown hK (hT.o20 (hT.k t_this (by decide))).one 0 rfl rfl 2 (by decide) (hg _ k1221) (fun _ h9 => h9) rfl dX6_takesBack_15 ?_
        rw [erA]
        refine lv_iload_n hx hb dX6_takesBack_18 rfl (lv_at hl 0 rfl) ?_
        refine va_lald hx hb hK (hT.o30 (hT.k trA (by decide))).one 0 1 rfl rfl (g_in (by omega) (by omega)) dX6_takesBack_19 ?_
        refine lv_topl (fun t2 ht2 => ?_)
        have hTo := hT
        refine tastl (n := 609) hx hb hK hT (hT.k trW (by decide)) ⟨by decide, by decide⟩ (fun _ _ _ => rfl) (fun _ _ => trivial) (fun _ => rfl) (by omega) (by omega) dX6_takesBack_20 (fun H locs s3 hus3 hT => ?_)
        obtain ⟨t4, qt4⟩ : ∃ zz9 : Int32, k + Int32.ofInt 1 = zz9 := ⟨_, rfl⟩
        refine lv_iinc (v := t4) (lv' := [(1, .int t4), (0, .ref this)]) hx hb dX6_takesBack_21 hl (k := 0) rfl qt4 (by decide) rfl (fun ls hl => ?_)
        have ht4 : t4.toInt = k.toInt + 1 := by rw [← qt4]; exact v_addi rfl (show (Int32.ofInt 1).toInt = 1 from by decide) (by omega) (by omega)
        refine lv_goto (tgt := 2) hx hb dX6_takesBack_24 (by decide) ?_
        exact ih2 t4 _ _ _ _ hT  (by omega) (by omega) (fun j hj => by rw [zpul_Ja hus3]; unfold vp_updL; exact (Classical.em (j = ix k)).elim (fun e9 => by rw [if_pos e9, e9, ht2]; exact (hTo.eJ trA (by decide) rfl rfl : _ = zJ σ0 rA (ix k))) (fun e9 => by rw [if_neg e9]; exact q3 j (by unfold ix at e9; omega))) hl (by omega)
  exact loop2 ((609 - (0 : Int32).toInt).toNat + 1) 0 _ _ _ _ hT  (by omega) (by omega) (fun j hj => by omega) hl (by omega)
set_option maxHeartbeats 4000000 in
set_option maxRecDepth 100000 in
theorem X6_lift (l : Launch) (κ : Kt) (σ0 : Gh) (this : Nat) (i : Int32) (t_this : zk σ0 this 20) (h0 : RI κ σ0 this) : TC l yX6_lift cX6_lift 2 (some .long) 5 123 [.ref this, .int i] κ σ0 (tql κ gX σ0 (fun (r : Int64) (τ : Gh) => (RI κ τ this))) := by
  refine TC.of gX (by decide +kernel) (Nat.le_of_ble_eq_true rfl) ?_
  intro p e s m below meth c ls hcs hK hX hT hl
  obtain ⟨hx, hb, hr, hml, hown, hg, hlocks, hin⟩ := hcs
  have hown : s.vm.findClass RX6 = some m.cls := hown
  have hl : lv_has ls 2 [(0, .ref this), (1, .int i)] := hl
  have hT0 := hT
  have n0 : (0 : Int32).toInt = 0 := by decide
  have n1 : (1 : Int32).toInt = 1 := by decide
  have n2 : (2 : Int32).toInt = 2 := by decide
  have n3 : (3 : Int32).toInt = 3 := by decide
  have n4 : (4 : Int32).toInt = 4 := by decide
  have n5 : (5 : Int32).toInt = 5 := by decide
  have j0 : (0 : Int64).toInt = 0 := by decide
  have i_lo := Int32.le_toInt i
  have i_hi := Int32.toInt_lt i
  generalize hQ9 : tQ _ _ _ _ _ _ = Q9
  obtain ⟨rW, erW⟩ : ∃ z, kR κ this 1 = z := ⟨_, rfl⟩
  have trW : zk σ0 rW 21 := by rw [← erW]; exact h0.1.2.1
  obtain ⟨rP, erP⟩ : ∃ z, kR κ this 5 = z := ⟨_, rfl⟩
  have trP : zk σ0 rP 25 := by rw [← erP]; exact h0.1.2.2.2.2
  have hB0 := h0.b
  rw [erW] at hB0
  have hW := h0.2.1
  rw [erW] at hW
  have hP := h0.2.2.1
  rw [erP] at hP
  have hrN : (rN σ0 this : Int) = (zI σ0 this 7).toInt := by unfold rN; omega
  refine lv_aload_n hx hb dX6_lift_0 rfl (lv_at hl 0 rfl) ?_
  refine lv_aload_n hx hb dX6_lift_1 rfl (lv_at hl 0 rfl) ?_
  refine lv_iload_n hx hb dX6_lift_2 rfl (lv_at hl 1 rfl) ?_
  have hTo := hT
  refine tVi (n := 1) (As := [.int i]) (rest := [.ref this]) hx hb hml hown hg hT hK hX (X6_isSample l κ σ0 this i  (hT.k t_this (by decide)) h0) sub_fE_gX (mwV k1440 k1442 k57 k92 k1443) ⟨rfl, by decide, by decide, by decide +kernel⟩ ⟨(Nat.le_of_ble_eq_true rfl), (Nat.le_of_ble_eq_true rfl)⟩ (hT.o20 (hT.k t_this (by decide))) rfl rfl hl.1 rfl (Nat.le_of_ble_eq_true rfl) dX6_lift_3 zroom.rf (fun x1 s2 H locs hφ hEs2 hT => ?_)
  have E3 : zJ s2 rW = zJ σ0 rW := funext fun k => (hTo.k trW (by decide)).eJ hEs2 (by decide) rfl
  have R4 : RI κ s2 this := h0.ext hEs2 ⟨rfl, rfl, fun _ => rfl, fun _ => rfl, fun _ => rfl, fun _ => rfl⟩
  have B5 := R4.b
  rw [erW] at B5
  have K6 : zI s2 this 7 = zI σ0 this 7 := hT.eI t_this (by decide) rfl rfl
  have K6n : (zI s2 this 7).toInt = (zI σ0 this 7).toInt := by rw [K6]
  have J7 : zJ s2 rW = zJ σ0 rW := by rw [E3]
  have P8 : zI s2 rP = zI σ0 rP := funext fun k => hT.eI trP (by decide) rfl rfl
  try simp only [K6, J7, P8] at B5
  obtain ⟨f9, f10⟩ := hφ
  try simp only [erW, erP, ix_0, ix_1, ix_2, ix_3, ix_4, ix_5, ix_6, ix_7, ix_8, ix_9, K6, J7, P8] at f9
  refine lv_if_eq (tgt := 13) hx hb dX6_lift_6 (by decide) (fun c9 => ?_) (fun c9 => ?_)
  · have c1 := gi_eq c9
    refine lv_iconst (v := 1) hx hb dX6_lift_13 (by decide) ?_
    have hTo := hT
    refine pf20_0 hx hb hg hown hK hT (hT.k t_this (by decide)) rfl (hg _ k1219) dX6_lift_14 (fun H locs s11 hus11 hT => ?_)
    have E12 : zJ s11 rW = zJ s2 rW := zput_J hus11
    have R13 : RI κ s11 this := R4.put hus11 (hTo.k t_this (by decide)) (by decide)
    have B14 := R13.b
    rw [erW] at B14
    have K15 : zI s11 this 7 = zI σ0 this 7 := hT.eI t_this (by decide) rfl rfl
    have K15n : (zI s11 this 7).toInt = (zI σ0 this 7).toInt := by rw [K15]
    have J16 : zJ s11 rW = zJ σ0 rW := by rw [E12, E3]
    have P17 : zI s11 rP = zI σ0 rP := funext fun k => hT.eI trP (by decide) rfl rfl
    try simp only [K15, J16, P17] at B14
    have e18 : zI s11 this 0 = 1 := zput_at hus11
    refine lv_aload_n hx hb dX6_lift_17 rfl (lv_at hl 0 rfl) ?_
    refine va_get (D := κ.1) (ci := 6) (v := .int (zI s11 this 0)) (C := RX6) (T := TX6) (N := 27) hx hb hg inX6 hown hK (hT.o20 (hT.k t_this (by decide))).one 0 rfl rfl 0 (by decide) (hg _ k1219) (fun _ h9 => h9) rfl dX6_lift_18 ?_
    rw [e18]
    refine lv_if_le (tgt := 26) hx hb dX6_lift_21 (by decide) (fun c9 => absurd c9 (by decide)) (fun _ => ?_)
    refine lv_lconst (v := 0) hx hb dX6_lift_24 (by decide) ?_
    subst hQ9
    exact t_l hx hb hr hlocks hT R13 dX6_lift_25
  · have c2 := gi_ne c9
    refine lv_iconst (v := 0) hx hb dX6_lift_9 (by decide) ?_
    refine lv_goto (tgt := 14) hx hb dX6_lift_10 (by decide) ?_
    have hTo := hT
    refine pf20_0 hx hb hg hown hK hT (hT.k t_this (by decide)) rfl (hg _ k1219) dX6_lift_14 (fun H locs s19 hus19 hT => ?_)
    have E20 : zJ s19 rW = zJ s2 rW := zput_J hus19
    have R21 : RI κ s19 this := R4.put hus19 (hTo.k t_this (by decide)) (by decide)
    have B22 := R21.b
    rw [erW] at B22
    have K23 : zI s19 this 7 = zI σ0 this 7 := hT.eI t_this (by decide) rfl rfl
    have K23n : (zI s19 this 7).toInt = (zI σ0 this 7).toInt := by rw [K23]
    have J24 : zJ s19 rW = zJ σ0 rW := by rw [E20, E3]
    have P25 : zI s19 rP = zI σ0 rP := funext fun k => hT.eI trP (by decide) rfl rfl
    try simp only [K23, J24, P25] at B22
    have e26 : zI s19 this 0 = 0 := zput_at hus19
    refine lv_aload_n hx hb dX6_lift_17 rfl (lv_at hl 0 rfl) ?_
    refine va_get (D := κ.1) (ci := 6) (v := .int (zI s19 this 0)) (C := RX6) (T := TX6) (N := 27) hx hb hg inX6 hown hK (hT.o20 (hT.k t_this (by decide))).one 0 rfl rfl 0 (by decide) (hg _ k1219) (fun _ h9 => h9) rfl dX6_lift_18 ?_
    rw [e26]
    refine lv_if_le (tgt := 26) hx hb dX6_lift_21 (by decide) (fun _ => ?_) (fun c9 => absurd (by decide) c9)
    refine lv_aload_n hx hb dX6_lift_26 rfl (lv_at hl 0 rfl) ?_
    refine lv_iload_n hx hb dX6_lift_27 rfl (lv_at hl 1 rfl) ?_
    have hTo := hT
    refine tVi (n := 1) (As := [.int i]) (rest := []) hx hb hml hown hg hT hK hX (X6_isInner l κ s19 this i  (hT.k t_this (by decide)) R21) sub_fE_gX (mwV k1527 k1529 k64 k92 k1530) ⟨rfl, by decide, by decide, by decide +kernel⟩ ⟨(Nat.le_of_ble_eq_true rfl), (Nat.le_of_ble_eq_true rfl)⟩ (hT.o20 (hT.k t_this (by decide))) rfl rfl hl.1 rfl (Nat.le_of_ble_eq_true rfl) dX6_lift_28 zroom.rf (fun x27 s28 H locs hφ hEs28 hT => ?_)
    have e26 : zI s28 this 0 = 0 := ((hTo.k t_this (by decide)).eI hEs28 (by decide) rfl).trans e26
    have E29 : zJ s28 rW = zJ s19 rW := funext fun k => (hTo.k trW (by decide)).eJ hEs28 (by decide) rfl
    have R30 : RI κ s28 this := R21.ext hEs28 ⟨rfl, rfl, fun _ => rfl, fun _ => rfl, fun _ => rfl, fun _ => rfl⟩
    have B31 := R30.b
    rw [erW] at B31
    have K32 : zI s28 this 7 = zI σ0 this 7 := hT.eI t_this (by decide) rfl rfl
    have K32n : (zI s28 this 7).toInt = (zI σ0 this 7).toInt := by rw [K32]
    have J33 : zJ s28 rW = zJ σ0 rW := by rw [E29, E20, E3]
    have P34 : zI s28 rP = zI σ0 rP := funext fun k => hT.eI trP (by decide) rfl rfl
    try simp only [K32, J33, P34] at B31
    obtain ⟨f35, f36⟩ := hφ
    try simp only [erW, erP, ix_0, ix_1, ix_2, ix_3, ix_4, ix_5, ix_6, ix_7, ix_8, ix_9, K23, J24, P25, K32, J33, P34] at f35
    refine lv_if_ne (tgt := 56) hx hb dX6_lift_31 (by decide) (fun c9 => ?_) (fun c9 => ?_)
    · have c3 := gi_ne c9
      refine lv_aload_n hx hb dX6_lift_56 rfl (lv_at hl 0 rfl) ?_
      refine lv_iload_n hx hb dX6_lift_57 rfl (lv_at hl 1 rfl) ?_
      have hTo := hT
      refine tVv (n := 1) (As := [.int i]) (rest := []) hx hb hml hown hg hT hK hX (X6_lifts l κ s28 this i  (hT.k t_this (by decide)) R30 (by omega) (by omega) (by rw [erW, J33]; omega)) sub_gW_gX (mwV k1592 k1594 k72 k92 k1595) ⟨rfl, by decide, by decide, by decide +kernel⟩ ⟨(Nat.le_of_ble_eq_true rfl), (Nat.le_of_ble_eq_true rfl)⟩ (hT.o20 (hT.k t_this (by decide))) rfl rfl hl.1 rfl (Nat.le_of_ble_eq_true rfl) dX6_lift_58 zroom.rf (fun s38 H locs hφ hEs38 hT => ?_)
      have e26 : zI s38 this 0 = 0 := ((hTo.k t_this (by decide)).eI hEs38 (by decide) rfl).trans e26
      obtain ⟨f41, f42⟩ := hφ
      have B43 := f41.b
      rw [erW] at B43
      try simp only [erW, erP, ix_0, ix_1, ix_2, ix_3, ix_4, ix_5, ix_6, ix_7, ix_8, ix_9, K32, J33, P34] at f42
      refine lv_aload_n hx hb dX6_lift_61 rfl (lv_at hl 0 rfl) ?_
      refine lv_aload_n hx hb dX6_lift_62 rfl (lv_at hl 0 rfl) ?_
      have hTo := hT
      refine tVi (n := 0) (As := []) (rest := [.ref this]) hx hb hml hown hg hT hK hX (X6_steps l κ s38 this  (hT.k t_this (by decide)) f41) sub_fE_gX (mwV k1416 k1418 k52 k92 k1419) ⟨rfl, by decide, by decide, by decide +kernel⟩ ⟨(Nat.le_of_ble_eq_true rfl), (Nat.le_of_ble_eq_true rfl)⟩ (hT.o20 (hT.k t_this (by decide))) rfl rfl hl.1 rfl (Nat.le_of_ble_eq_true rfl) dX6_lift_63 zroom.rf (fun x44 s45 H locs hφ hEs45 hT => ?_)
      have e26 : zI s45 this 0 = 0 := ((hTo.k t_this (by decide)).eI hEs45 (by decide) rfl).trans e26
      have E46 : zJ s45 rW = zJ s38 rW := funext fun k => (hTo.k trW (by decide)).eJ hEs45 (by decide) rfl
      have R47 : RI κ s45 this := f41.ext hEs45 ⟨rfl, rfl, fun _ => rfl, fun _ => rfl, fun _ => rfl, fun _ => rfl⟩
      have B48 := R47.b
      rw [erW] at B48
      have f49 := hφ
      try simp only [erW, erP, ix_0, ix_1, ix_2, ix_3, ix_4, ix_5, ix_6, ix_7, ix_8, ix_9] at f49
      refine lv_iconst (v := 1) hx hb dX6_lift_66 (by decide) ?_
      refine lv_isub hx hb dX6_lift_67 ?_
      first | refine g_sub (by omega) (by omega) (fun t50 ht50 => ?_) | refine lv_topi (fun t50 ht50 => ?_)
      refine lv_iconst (v := 3) hx hb dX6_lift_68 (by decide) ?_
      have hTo := hT
      refine tVl (n := 2) (As := [.int t50, .int 3]) (rest := []) hx hb hml hown hg hT hK hX (X6_of l κ s45 this t50 3  (hT.k t_this (by decide)) (by omega) (by omega) (by omega) (by omega)) sub_fE_gX (mwV k1424 k1426 k54 k92 k1427) ⟨rfl, by decide, by decide, by decide +kernel⟩ ⟨(Nat.le_of_ble_eq_true rfl), (Nat.le_of_ble_eq_true rfl)⟩ (hT.o20 (hT.k t_this (by decide))) rfl rfl hl.1 rfl (Nat.le_of_ble_eq_true rfl) dX6_lift_69 zroom.rf (fun x51 s52 H locs hφ hEs52 hT => ?_)
      have e26 : zI s52 this 0 = 0 := ((hTo.k t_this (by decide)).eI hEs52 (by decide) rfl).trans e26
      have E53 : zJ s52 rW = zJ s45 rW := funext fun k => (hTo.k trW (by decide)).eJ hEs52 (by decide) rfl
      have R54 : RI κ s52 this := R47.ext hEs52 ⟨rfl, rfl, fun _ => rfl, fun _ => rfl, fun _ => rfl, fun _ => rfl⟩
      have B55 := R54.b
      rw [erW] at B55
      have f56 := hφ
      try simp only [erW, erP, ix_0, ix_1, ix_2, ix_3, ix_4, ix_5, ix_6, ix_7, ix_8, ix_9] at f56
      subst hQ9
      exact t_l hx hb hr hlocks hT R54 dX6_lift_72
    · have c4 := gi_eq c9
      refine lv_aload_n hx hb dX6_lift_34 rfl (lv_at hl 0 rfl) ?_
      refine lv_iconst (v := 2) hx hb dX6_lift_35 (by decide) ?_
      refine lv_iconst (v := 3) hx hb dX6_lift_36 (by decide) ?_
      refine lv_aload_n hx hb dX6_lift_37 rfl (lv_at hl 0 rfl) ?_
      refine lv_iload_n hx hb dX6_lift_38 rfl (lv_at hl 1 rfl) ?_
      have hTo := hT
      refine tVi (n := 1) (As := [.int i]) (rest := [.int 3, .int 2, .ref this]) hx hb hml hown hg hT hK hX (X6_isPresent l κ s28 this i  (hT.k t_this (by decide)) R30 (by omega) (by omega)) sub_fE_gX (mwV k1432 k1434 k56 k92 k1435) ⟨rfl, by decide, by decide, by decide +kernel⟩ ⟨(Nat.le_of_ble_eq_true rfl), (Nat.le_of_ble_eq_true rfl)⟩ (hT.o20 (hT.k t_this (by decide))) rfl rfl hl.1 rfl (Nat.le_of_ble_eq_true rfl) dX6_lift_39 zroom.rf (fun x57 s58 H locs hφ hEs58 hT => ?_)
      have e26 : zI s58 this 0 = 0 := ((hTo.k t_this (by decide)).eI hEs58 (by decide) rfl).trans e26
      have E59 : zJ s58 rW = zJ s28 rW := funext fun k => (hTo.k trW (by decide)).eJ hEs58 (by decide) rfl
      have R60 : RI κ s58 this := R30.ext hEs58 ⟨rfl, rfl, fun _ => rfl, fun _ => rfl, fun _ => rfl, fun _ => rfl⟩
      have B61 := R60.b
      rw [erW] at B61
      have K62 : zI s58 this 7 = zI σ0 this 7 := hT.eI t_this (by decide) rfl rfl
      have K62n : (zI s58 this 7).toInt = (zI σ0 this 7).toInt := by rw [K62]
      have J63 : zJ s58 rW = zJ σ0 rW := by rw [E59, E29, E20, E3]
      have P64 : zI s58 rP = zI σ0 rP := funext fun k => hT.eI trP (by decide) rfl rfl
      try simp only [K62, J63, P64] at B61
      obtain ⟨f65, f66⟩ := hφ
      try simp only [erW, erP, ix_0, ix_1, ix_2, ix_3, ix_4, ix_5, ix_6, ix_7, ix_8, ix_9, K32, J33, P34, K62, J63, P64] at f65
      refine lv_if_eq (tgt := 49) hx hb dX6_lift_42 (by decide) (fun c9 => ?_) (fun c9 => ?_)
      · have c5 := gi_eq c9
        refine lv_iconst (v := 4) hx hb dX6_lift_49 (by decide) ?_
        refine lv_iload_n hx hb dX6_lift_50 rfl (lv_at hl 1 rfl) ?_
        have hTo := hT
        refine tVi (n := 4) (As := [.int 2, .int 3, .int 4, .int i]) (rest := []) hx hb hml hown hg hT hK hX (X6_stateFails l κ s58 this 2 3 4 i  (hT.k t_this (by decide)) R60) sub_gR_gX (mwV k1569 k1571 k70 k92 k1572) ⟨rfl, by decide, by decide, by decide +kernel⟩ ⟨(Nat.le_of_ble_eq_true rfl), (Nat.le_of_ble_eq_true rfl)⟩ (hT.o20 (hT.k t_this (by decide))) rfl rfl hl.1 rfl (Nat.le_of_ble_eq_true rfl) dX6_lift_51 zroom.rf (fun x67 s68 H locs hφ hEs68 hT => ?_)
        have E69 : zJ s68 rW = zJ s58 rW := funext fun k => (hTo.k trW (by decide)).eJ hEs68 (by decide) rfl
        have R70 : RI κ s68 this := R60.ext hEs68 ⟨rfl, rfl, fun _ => rfl, fun _ => rfl, fun _ => rfl, fun _ => rfl⟩
        have B71 := R70.b
        rw [erW] at B71
        have K72 : zI s68 this 7 = zI σ0 this 7 := hT.eI t_this (by decide) rfl rfl
        have K72n : (zI s68 this 7).toInt = (zI σ0 this 7).toInt := by rw [K72]
        have J73 : zJ s68 rW = zJ σ0 rW := by rw [E69, E59, E29, E20, E3]
        have P74 : zI s68 rP = zI σ0 rP := funext fun k => hT.eI trP (by decide) rfl rfl
        try simp only [K72, J73, P74] at B71
        refine lv_i2l hx hb dX6_lift_54 rfl ?_
        refine g_i2l (fun t75 ht75 => ?_)
        subst hQ9
        exact t_l hx hb hr hlocks hT R70 dX6_lift_55
      · have c6 := gi_ne c9
        refine lv_iconst (v := 5) hx hb dX6_lift_45 (by decide) ?_
        refine lv_goto (tgt := 50) hx hb dX6_lift_46 (by decide) ?_
        refine lv_iload_n hx hb dX6_lift_50 rfl (lv_at hl 1 rfl) ?_
        have hTo := hT
        refine tVi (n := 4) (As := [.int 2, .int 3, .int 5, .int i]) (rest := []) hx hb hml hown hg hT hK hX (X6_stateFails l κ s58 this 2 3 5 i  (hT.k t_this (by decide)) R60) sub_gR_gX (mwV k1569 k1571 k70 k92 k1572) ⟨rfl, by decide, by decide, by decide +kernel⟩ ⟨(Nat.le_of_ble_eq_true rfl), (Nat.le_of_ble_eq_true rfl)⟩ (hT.o20 (hT.k t_this (by decide))) rfl rfl hl.1 rfl (Nat.le_of_ble_eq_true rfl) dX6_lift_51 zroom.rf (fun x76 s77 H locs hφ hEs77 hT => ?_)
        have E78 : zJ s77 rW = zJ s58 rW := funext fun k => (hTo.k trW (by decide)).eJ hEs77 (by decide) rfl
        have R79 : RI κ s77 this := R60.ext hEs77 ⟨rfl, rfl, fun _ => rfl, fun _ => rfl, fun _ => rfl, fun _ => rfl⟩
        have B80 := R79.b
        rw [erW] at B80
        have K81 : zI s77 this 7 = zI σ0 this 7 := hT.eI t_this (by decide) rfl rfl
        have K81n : (zI s77 this 7).toInt = (zI σ0 this 7).toInt := by rw [K81]
        have J82 : zJ s77 rW = zJ σ0 rW := by rw [E78, E59, E29, E20, E3]
        have P83 : zI s77 rP = zI σ0 rP := funext fun k => hT.eI trP (by decide) rfl rfl
        try simp only [K81, J82, P83] at B80
        refine lv_i2l hx hb dX6_lift_54 rfl ?_
        refine g_i2l (fun t84 ht84 => ?_)
        subst hQ9
        exact t_l hx hb hr hlocks hT R79 dX6_lift_55

/-! The reference over any state: forward -/
theorem sub_gR_gX : ∀ t k, gX t k = false → gR t k = false := by
  intro t k h
  simp [gR, gX] at h ⊢ <;> omega
theorem k70 : Cond.selects RX6 yX6_stateFails yX6_stateFails ∈ GW := gm 70 (by decide +kernel) (by decide +kernel)
theorem k71 : Cond.selects RX6 yX6_goesOn yX6_goesOn ∈ GW := gm 71 (by decide +kernel) (by decide +kernel)
theorem k72 : Cond.selects RX6 yX6_lifts yX6_lifts ∈ GW := gm 72 (by decide +kernel) (by decide +kernel)
theorem k1569 : Cond.methodLink RX6 294 yX6_stateFails ∈ GW := gm 1569 (by decide +kernel) (by decide +kernel)
theorem k1571 : Cond.instanceMethod yX6_stateFails ∈ GW := gm 1571 (by decide +kernel) (by decide +kernel)
theorem k1572 : Cond.code yX6_stateFails cX6_stateFails 5 (some .int) ∈ GW := gm 1572 (by decide +kernel) (by decide +kernel)
theorem k1587 : Cond.constantLong RX6 304 46 ∈ GW := gm 1587 (by decide +kernel) (by decide +kernel)
theorem k1588 : Cond.methodLink RX6 306 yX6_goesOn ∈ GW := gm 1588 (by decide +kernel) (by decide +kernel)
theorem k1590 : Cond.instanceMethod yX6_goesOn ∈ GW := gm 1590 (by decide +kernel) (by decide +kernel)
theorem k1591 : Cond.code yX6_goesOn cX6_goesOn 4 (some .int) ∈ GW := gm 1591 (by decide +kernel) (by decide +kernel)
theorem k1592 : Cond.methodLink RX6 301 yX6_lifts ∈ GW := gm 1592 (by decide +kernel) (by decide +kernel)
theorem k1594 : Cond.instanceMethod yX6_lifts ∈ GW := gm 1594 (by decide +kernel) (by decide +kernel)
theorem k1595 : Cond.code yX6_lifts cX6_lifts 14 none ∈ GW := gm 1595 (by decide +kernel) (by decide +kernel)
theorem dX6_forward_0 : decode cX6_forward 0 = .ok (.aload_n 0, 1) := by decide +kernel
theorem dX6_forward_1 : decode cX6_forward 1 = .ok (.iload_n 1, 1) := by decide +kernel
theorem dX6_forward_2 : decode cX6_forward 2 = .ok (.i2l, 1) := by decide +kernel
theorem dX6_forward_3 : decode cX6_forward 3 = .ok (.lconst 1, 1) := by decide +kernel
theorem dX6_forward_4 : decode cX6_forward 4 = .ok (.ldc2_w 304, 3) := by decide +kernel
theorem dX6_forward_7 : decode cX6_forward 7 = .ok (.invokestatic 84, 3) := by decide +kernel
theorem dX6_forward_10 : decode cX6_forward 10 = .ok (.ifCond .eq 7, 3) := by decide +kernel
theorem dX6_forward_13 : decode cX6_forward 13 = .ok (.iconst 0, 1) := by decide +kernel
theorem dX6_forward_14 : decode cX6_forward 14 = .ok (.goto 4, 3) := by decide +kernel
theorem dX6_forward_17 : decode cX6_forward 17 = .ok (.iconst 1, 1) := by decide +kernel
theorem dX6_forward_18 : decode cX6_forward 18 = .ok (.putfield 64, 3) := by decide +kernel
theorem dX6_forward_21 : decode cX6_forward 21 = .ok (.aload_n 0, 1) := by decide +kernel
theorem dX6_forward_22 : decode cX6_forward 22 = .ok (.getfield 64, 3) := by decide +kernel
theorem dX6_forward_25 : decode cX6_forward 25 = .ok (.ifCond .le 5, 3) := by decide +kernel
theorem dX6_forward_28 : decode cX6_forward 28 = .ok (.iconst 0, 1) := by decide +kernel
theorem dX6_forward_29 : decode cX6_forward 29 = .ok (.ireturn, 1) := by decide +kernel
theorem dX6_forward_30 : decode cX6_forward 30 = .ok (.aload_n 0, 1) := by decide +kernel
theorem dX6_forward_31 : decode cX6_forward 31 = .ok (.invokevirtual 283, 3) := by decide +kernel
theorem dX6_forward_34 : decode cX6_forward 34 = .ok (.iconst (-1), 1) := by decide +kernel
theorem dX6_forward_35 : decode cX6_forward 35 = .ok (.if_icmp .ne 14, 3) := by decide +kernel
theorem dX6_forward_38 : decode cX6_forward 38 = .ok (.aload_n 0, 1) := by decide +kernel
theorem dX6_forward_39 : decode cX6_forward 39 = .ok (.iconst 2, 1) := by decide +kernel
theorem dX6_forward_40 : decode cX6_forward 40 = .ok (.iconst 1, 1) := by decide +kernel
theorem dX6_forward_41 : decode cX6_forward 41 = .ok (.iconst 0, 1) := by decide +kernel
theorem dX6_forward_42 : decode cX6_forward 42 = .ok (.iconst (-1), 1) := by decide +kernel
theorem dX6_forward_43 : decode cX6_forward 43 = .ok (.invokevirtual 294, 3) := by decide +kernel
theorem dX6_forward_46 : decode cX6_forward 46 = .ok (.goto 8, 3) := by decide +kernel
theorem dX6_forward_49 : decode cX6_forward 49 = .ok (.aload_n 0, 1) := by decide +kernel
theorem dX6_forward_50 : decode cX6_forward 50 = .ok (.iload_n 1, 1) := by decide +kernel
theorem dX6_forward_51 : decode cX6_forward 51 = .ok (.invokevirtual 306, 3) := by decide +kernel
theorem dX6_forward_54 : decode cX6_forward 54 = .ok (.ireturn, 1) := by decide +kernel
theorem dX6_goesOn_0 : decode cX6_goesOn 0 = .ok (.iconst 0, 1) := by decide +kernel
theorem dX6_goesOn_1 : decode cX6_goesOn 1 = .ok (.istore_n 2, 1) := by decide +kernel
theorem dX6_goesOn_2 : decode cX6_goesOn 2 = .ok (.aload_n 0, 1) := by decide +kernel
theorem dX6_goesOn_3 : decode cX6_goesOn 3 = .ok (.invokevirtual 283, 3) := by decide +kernel
theorem dX6_goesOn_6 : decode cX6_goesOn 6 = .ok (.istore_n 3, 1) := by decide +kernel
theorem dX6_goesOn_7 : decode cX6_goesOn 7 = .ok (.iload_n 2, 1) := by decide +kernel
theorem dX6_goesOn_8 : decode cX6_goesOn 8 = .ok (.iload_n 1, 1) := by decide +kernel
theorem dX6_goesOn_9 : decode cX6_goesOn 9 = .ok (.if_icmp .ge 24, 3) := by decide +kernel
theorem dX6_goesOn_12 : decode cX6_goesOn 12 = .ok (.iload_n 3, 1) := by decide +kernel
theorem dX6_goesOn_13 : decode cX6_goesOn 13 = .ok (.iconst (-1), 1) := by decide +kernel
theorem dX6_goesOn_14 : decode cX6_goesOn 14 = .ok (.if_icmp .eq 19, 3) := by decide +kernel
theorem dX6_goesOn_17 : decode cX6_goesOn 17 = .ok (.aload_n 0, 1) := by decide +kernel
theorem dX6_goesOn_18 : decode cX6_goesOn 18 = .ok (.iload_n 3, 1) := by decide +kernel
theorem dX6_goesOn_19 : decode cX6_goesOn 19 = .ok (.invokevirtual 301, 3) := by decide +kernel
theorem dX6_goesOn_22 : decode cX6_goesOn 22 = .ok (.iinc 2 1, 3) := by decide +kernel
theorem dX6_goesOn_25 : decode cX6_goesOn 25 = .ok (.aload_n 0, 1) := by decide +kernel
theorem dX6_goesOn_26 : decode cX6_goesOn 26 = .ok (.invokevirtual 283, 3) := by decide +kernel
theorem dX6_goesOn_29 : decode cX6_goesOn 29 = .ok (.istore_n 3, 1) := by decide +kernel
theorem dX6_goesOn_30 : decode cX6_goesOn 30 = .ok (.goto (-23), 3) := by decide +kernel
theorem dX6_goesOn_33 : decode cX6_goesOn 33 = .ok (.iload_n 2, 1) := by decide +kernel
theorem dX6_goesOn_34 : decode cX6_goesOn 34 = .ok (.ireturn, 1) := by decide +kernel
set_option maxHeartbeats 4000000 in
set_option maxRecDepth 100000 in
theorem X6_goesOn (l : Launch) (κ : Kt) (σ0 : Gh) (this : Nat) (mo : Int32) (t_this : zk σ0 this 20) (h0 : RI κ σ0 this) (h1 : 0 ≤ mo.toInt) : TC l yX6_goesOn cX6_goesOn 4 (some .int) 6 136 [.ref this, .int mo] κ σ0 (tqi κ gW σ0 (fun (r : Int32) (τ : Gh) => (RI κ τ this))) := by
  refine TC.of gW (by decide +kernel) (Nat.le_of_ble_eq_true rfl) ?_
  intro p e s m below meth c ls hcs hK hX hT hl
  obtain ⟨hx, hb, hr, hml, hown, hg, hlocks, hin⟩ := hcs
  have hown : s.vm.findClass RX6 = some m.cls := hown
  have hl : lv_has ls 4 [(0, .ref this), (1, .int mo)] := hl
  have hT0 := hT
  have nm1 : ((-1) : Int32).toInt = (-1) := by decide
  have n0 : (0 : Int32).toInt = 0 := by decide
  have mo_lo := Int32.le_toInt mo
  have mo_hi := Int32.toInt_lt mo
  generalize hQ9 : tQ _ _ _ _ _ _ = Q9
  obtain ⟨rW, erW⟩ : ∃ z, kR κ this 1 = z := ⟨_, rfl⟩
  have trW : zk σ0 rW 21 := by rw [← erW]; exact h0.1.2.1
  obtain ⟨rP, erP⟩ : ∃ z, kR κ this 5 = z := ⟨_, rfl⟩
  have trP : zk σ0 rP 25 := by rw [← erP]; exact h0.1.2.2.2.2
  have hB0 := h0.b
  rw [erW] at hB0
  have hW := h0.2.1
  rw [erW] at hW
  have hP := h0.2.2.1
  rw [erP] at hP
  have hrN : (rN σ0 this : Int) = (zI σ0 this 7).toInt := by unfold rN; omega
  refine lv_iconst (v := 0) hx hb dX6_goesOn_0 (by decide) ?_
  refine lv_istore_n (lv' := [(2, .int 0), (0, .ref this), (1, .int mo)]) hx hb dX6_goesOn_1 rfl hl (by decide) rfl (fun ls hl => ?_)
  refine lv_aload_n hx hb dX6_goesOn_2 rfl (lv_at hl 1 rfl) ?_
  have hTo := hT
  refine tVi (n := 0) (As := []) (rest := []) hx hb hml hown hg hT hK hX (X6_nextOne l κ σ0 this  (hT.k t_this (by decide)) h0) sub_fE_gW (mwV k1523 k1525 k63 k92 k1526) ⟨rfl, by decide, by decide, by decide +kernel⟩ ⟨(Nat.le_of_ble_eq_true rfl), (Nat.le_of_ble_eq_true rfl)⟩ (hT.o20 (hT.k t_this (by decide))) rfl rfl hl.1 rfl (Nat.le_of_ble_eq_true rfl) dX6_goesOn_3 zroom.rf (fun x1 s2 H locs hφ hEs2 hT => ?_)
  have R3 : RI κ s2 this := h0.ext hEs2 ⟨rfl, rfl, fun _ => rfl, fun _ => rfl, fun _ => rfl, fun _ => rfl⟩
  have B4 := R3.b
  rw [erW] at B4
  have K5 : zI s2 this 7 = zI σ0 this 7 := hT.eI t_this (by decide) rfl rfl
  have K5n : (zI s2 this 7).toInt = (zI σ0 this 7).toInt := by rw [K5]
  have P6 : zI s2 rP = zI σ0 rP := funext fun k => hT.eI trP (by decide) rfl rfl
  try simp only [K5, P6] at B4
  have f7 := hφ
  try simp only [erW, erP, ix_0, ix_1, ix_2, ix_3, ix_4, ix_5, ix_6, ix_7, ix_8, ix_9, K5, P6] at f7
  have EE8 : zJ s2 rW = zJ σ0 rW := funext fun k => (hTo.k trW (by decide)).eJ hEs2 (by decide) rfl
  rw [← EE8] at f7
  refine lv_istore_n (lv' := [(3, .int x1), (2, .int 0), (0, .ref this), (1, .int mo)]) hx hb dX6_goesOn_6 rfl hl (by decide) rfl (fun ls hl => ?_)
  have loop7 : ∀ (n9 : Nat) (n1 : Int32) (k1 : Int32) (H : Heap) (locs : List Loc) (sg : Gh) (ls : Array Slot), TS κ gW σ0 sg s H locs → (RI κ sg this) → (0 ≤ n1.toInt) → (n1.toInt ≤ mo.toInt) → (k1.toInt = -1 ∨ (0 < k1.toInt ∧ k1.toInt < (zI σ0 this 7).toInt - 1 ∧ rlf (zJ sg rW) (ix k1) = -1)) → lv_has ls 4 [(2, .int n1), (3, .int k1), (0, .ref this), (1, .int mo)] → (mo.toInt - n1.toInt) < n9 → tW p l e 6 136 κ s m #[.ref this, .int mo] below meth c H locs Q9 (F0 m 7 ls []) := by
    intro n9
    induction n9 with
    | zero =>
      intro n1 k1 H locs sg ls hT RI0 q1 q2 q3 hl hm9
      exfalso
      omega
    | succ n9 ih9 =>
      have ih7 := ih9
      clear ih9
      intro n1 k1 H locs s9 ls hT RI0 q1 q2 q3 hl hm9
      have B10 := RI0.b
      rw [erW] at B10
      have K11 : zI s9 this 7 = zI σ0 this 7 := hT.eI t_this (by decide) rfl rfl
      have K11n : (zI s9 this 7).toInt = (zI σ0 this 7).toInt := by rw [K11]
      have P12 : zI s9 rP = zI σ0 rP := funext fun k => hT.eI trP (by decide) rfl rfl
      try simp only [K11, P12] at B10
      refine lv_iload_n hx hb dX6_goesOn_7 rfl (lv_at hl 0 rfl) ?_
      refine lv_iload_n hx hb dX6_goesOn_8 rfl (lv_at hl 3 rfl) ?_
      refine lv_icmp_ge (tgt := 33) hx hb dX6_goesOn_9 (by decide) (fun c9 => ?_) (fun c9 => ?_)
      · have c1 := gi_le c9
        refine lv_iload_n hx hb dX6_goesOn_33 rfl (lv_at hl 0 rfl) ?_
        subst hQ9
        exact t_i hx hb hr hlocks hT RI0 dX6_goesOn_34
      · have c2 := gi_nle c9
        refine lv_iload_n hx hb dX6_goesOn_12 rfl (lv_at hl 1 rfl) ?_
        refine lv_iconst (v := (-1)) hx hb dX6_goesOn_13 (by decide) ?_
        refine lv_icmp_eq (tgt := 33) hx hb dX6_goesOn_14 (by decide) (fun c9 => ?_) (fun c9 => ?_)
        · have c3 := gi_eq c9
          refine lv_iload_n hx hb dX6_goesOn_33 rfl (lv_at hl 0 rfl) ?_
          subst hQ9
          exact t_i hx hb hr hlocks hT RI0 dX6_goesOn_34
        · have c4 := gi_ne c9
          refine lv_aload_n hx hb dX6_goesOn_17 rfl (lv_at hl 2 rfl) ?_
          refine lv_iload_n hx hb dX6_goesOn_18 rfl (lv_at hl 1 rfl) ?_
          have hTo := hT
          refine tVv (n := 1) (As := [.int k1]) (rest := []) hx hb hml hown hg hT hK hX (X6_lifts l κ s9 this k1  (hT.k t_this (by decide)) RI0 (by omega) (by omega) (by rw [erW]; omega)) (fun _ _ h => h) (mwV k1592 k1594 k72 k92 k1595) ⟨rfl, by decide, by decide, by decide +kernel⟩ ⟨(Nat.le_of_ble_eq_true rfl), (Nat.le_of_ble_eq_true rfl)⟩ (hT.o20 (hT.k t_this (by decide))) rfl rfl hl.1 rfl (Nat.le_of_ble_eq_true rfl) dX6_goesOn_19 zroom.rf (fun s14 H locs hφ hEs14 hT => ?_)
          obtain ⟨f16, f17⟩ := hφ
          have B18 := f16.b
          rw [erW] at B18
          have K19 : zI s14 this 7 = zI σ0 this 7 := hT.eI t_this (by decide) rfl rfl
          have K19n : (zI s14 this 7).toInt = (zI σ0 this 7).toInt := by rw [K19]
          have P20 : zI s14 rP = zI σ0 rP := funext fun k => hT.eI trP (by decide) rfl rfl
          try simp only [K19, P20] at B18
          try simp only [erW, erP, ix_0, ix_1, ix_2, ix_3, ix_4, ix_5, ix_6, ix_7, ix_8, ix_9, K11, P12, K19, P20] at f17
          obtain ⟨t21, qt21⟩ : ∃ zz9 : Int32, n1 + Int32.ofInt 1 = zz9 := ⟨_, rfl⟩
          refine lv_iinc (v := t21) (lv' := [(2, .int t21), (3, .int k1), (0, .ref this), (1, .int mo)]) hx hb dX6_goesOn_22 hl (k := 0) rfl qt21 (by decide) rfl (fun ls hl => ?_)
          have ht21 : t21.toInt = n1.toInt + 1 := by rw [← qt21]; exact v_addi rfl (show (Int32.ofInt 1).toInt = 1 from by decide) (by omega) (by omega)
          refine lv_aload_n hx hb dX6_goesOn_25 rfl (lv_at hl 2 rfl) ?_
          have hTo := hT
          refine tVi (n := 0) (As := []) (rest := []) hx hb hml hown hg hT hK hX (X6_nextOne l κ s14 this  (hT.k t_this (by decide)) f16) sub_fE_gW (mwV k1523 k1525 k63 k92 k1526) ⟨rfl, by decide, by decide, by decide +kernel⟩ ⟨(Nat.le_of_ble_eq_true rfl), (Nat.le_of_ble_eq_true rfl)⟩ (hT.o20 (hT.k t_this (by decide))) rfl rfl hl.1 rfl (Nat.le_of_ble_eq_true rfl) dX6_goesOn_26 zroom.rf (fun x22 s23 H locs hφ hEs23 hT => ?_)
          have R24 : RI κ s23 this := f16.ext hEs23 ⟨rfl, rfl, fun _ => rfl, fun _ => rfl, fun _ => rfl, fun _ => rfl⟩
          have B25 := R24.b
          rw [erW] at B25
          have K26 : zI s23 this 7 = zI σ0 this 7 := hT.eI t_this (by decide) rfl rfl
          have K26n : (zI s23 this 7).toInt = (zI σ0 this 7).toInt := by rw [K26]
          have P27 : zI s23 rP = zI σ0 rP := funext fun k => hT.eI trP (by decide) rfl rfl
          try simp only [K26, P27] at B25
          have f28 := hφ
          try simp only [erW, erP, ix_0, ix_1, ix_2, ix_3, ix_4, ix_5, ix_6, ix_7, ix_8, ix_9, K19, P20, K26, P27] at f28
          have EE29 : zJ s23 rW = zJ s14 rW := funext fun k => (hTo.k trW (by decide)).eJ hEs23 (by decide) rfl
          rw [← EE29] at f28
          refine lv_istore_n (lv' := [(3, .int x22), (2, .int t21), (0, .ref this), (1, .int mo)]) hx hb dX6_goesOn_29 rfl hl (by decide) rfl (fun ls hl => ?_)
          refine lv_goto (tgt := 7) hx hb dX6_goesOn_30 (by decide) ?_
          exact ih7 t21 x22 _ _ _ _ hT  R24 (by omega) (by omega) (by omega) (lv_sub hl [1, 0, 2, 3] rfl) (by omega)
  exact loop7 ((mo.toInt - (0 : Int32).toInt).toNat + 1) 0 x1 _ _ _ _ hT  R3 (by omega) (by omega) (by omega) (lv_sub hl [1, 0, 2, 3] rfl) (by omega)
set_option maxHeartbeats 4000000 in
set_option maxRecDepth 100000 in
theorem X6_forward (l : Launch) (κ : Kt) (σ0 : Gh) (this : Nat) (mo : Int32) (t_this : zk σ0 this 20) (h0 : RI κ σ0 this) : TC l yX6_forward cX6_forward 2 (some .int) 7 159 [.ref this, .int mo] κ σ0 (tqi κ gX σ0 (fun (r : Int32) (τ : Gh) => (RI κ τ this))) := by
  refine TC.of gX (by decide +kernel) (Nat.le_of_ble_eq_true rfl) ?_
  intro p e s m below meth c ls hcs hK hX hT hl
  obtain ⟨hx, hb, hr, hml, hown, hg, hlocks, hin⟩ := hcs
  have hown : s.vm.findClass RX6 = some m.cls := hown
  have hl : lv_has ls 2 [(0, .ref this), (1, .int mo)] := hl
  have hT0 := hT
  have nm1 : ((-1) : Int32).toInt = (-1) := by decide
  have n0 : (0 : Int32).toInt = 0 := by decide
  have n1 : (1 : Int32).toInt = 1 := by decide
  have n2 : (2 : Int32).toInt = 2 := by decide
  have j1 : (1 : Int64).toInt = 1 := by decide
  have j46 : (46 : Int64).toInt = 46 := by decide
  have mo_lo := Int32.le_toInt mo
  have mo_hi := Int32.toInt_lt mo
  generalize hQ9 : tQ _ _ _ _ _ _ = Q9
  obtain ⟨rW, erW⟩ : ∃ z, kR κ this 1 = z := ⟨_, rfl⟩
  have trW : zk σ0 rW 21 := by rw [← erW]; exact h0.1.2.1
  obtain ⟨rP, erP⟩ : ∃ z, kR κ this 5 = z := ⟨_, rfl⟩
  have trP : zk σ0 rP 25 := by rw [← erP]; exact h0.1.2.2.2.2
  have hB0 := h0.b
  rw [erW] at hB0
  have hW := h0.2.1
  rw [erW] at hW
  have hP := h0.2.2.1
  rw [erP] at hP
  have hrN : (rN σ0 this : Int) = (zI σ0 this 7).toInt := by unfold rN; omega
  refine lv_aload_n hx hb dX6_forward_0 rfl (lv_at hl 0 rfl) ?_
  refine lv_iload_n hx hb dX6_forward_1 rfl (lv_at hl 1 rfl) ?_
  refine lv_i2l hx hb dX6_forward_2 rfl ?_
  refine g_i2l (fun t1 ht1 => ?_)
  refine lv_lconst (v := 1) hx hb dX6_forward_3 (by decide) ?_
  refine lv_ldc2 hx hb hown (hg _ k1587) dX6_forward_4 ?_
  have hTo := hT
  refine tSi (n := 3) (As := [.long t1, .long 1, .long 46]) (rest := [.ref this]) hx hb hml hown hg hT hK hX (X6_in l κ σ0 t1 1 46   ) sub_fE_gX (mwS k1317 k1318 k92 k1319) ⟨rfl, by decide, by decide, by decide +kernel⟩ ⟨(Nat.le_of_ble_eq_true rfl), (Nat.le_of_ble_eq_true rfl)⟩ rfl hl.1 rfl (Nat.le_of_ble_eq_true rfl) dX6_forward_7 zroom.rf (fun x2 s3 H locs hφ hEs3 hT => ?_)
  have R4 : RI κ s3 this := h0.ext hEs3 ⟨rfl, rfl, fun _ => rfl, fun _ => rfl, fun _ => rfl, fun _ => rfl⟩
  have B5 := R4.b
  rw [erW] at B5
  have K6 : zI s3 this 7 = zI σ0 this 7 := hT.eI t_this (by decide) rfl rfl
  have K6n : (zI s3 this 7).toInt = (zI σ0 this 7).toInt := by rw [K6]
  have P7 : zI s3 rP = zI σ0 rP := funext fun k => hT.eI trP (by decide) rfl rfl
  try simp only [K6, P7] at B5
  obtain ⟨f8, f9⟩ := hφ
  try simp only [erW, erP, ix_0, ix_1, ix_2, ix_3, ix_4, ix_5, ix_6, ix_7, ix_8, ix_9, K6, P7] at f8
  refine lv_if_eq (tgt := 17) hx hb dX6_forward_10 (by decide) (fun c9 => ?_) (fun c9 => ?_)
  · have c1 := gi_eq c9
    refine lv_iconst (v := 1) hx hb dX6_forward_17 (by decide) ?_
    have hTo := hT
    refine pf20_0 hx hb hg hown hK hT (hT.k t_this (by decide)) rfl (hg _ k1219) dX6_forward_18 (fun H locs s10 hus10 hT => ?_)
    have R11 : RI κ s10 this := R4.put hus10 (hTo.k t_this (by decide)) (by decide)
    have B12 := R11.b
    rw [erW] at B12
    have K13 : zI s10 this 7 = zI σ0 this 7 := hT.eI t_this (by decide) rfl rfl
    have K13n : (zI s10 this 7).toInt = (zI σ0 this 7).toInt := by rw [K13]
    have P14 : zI s10 rP = zI σ0 rP := funext fun k => hT.eI trP (by decide) rfl rfl
    try simp only [K13, P14] at B12
    have e15 : zI s10 this 0 = 1 := zput_at hus10
    refine lv_aload_n hx hb dX6_forward_21 rfl (lv_at hl 0 rfl) ?_
    refine va_get (D := κ.1) (ci := 6) (v := .int (zI s10 this 0)) (C := RX6) (T := TX6) (N := 27) hx hb hg inX6 hown hK (hT.o20 (hT.k t_this (by decide))).one 0 rfl rfl 0 (by decide) (hg _ k1219) (fun _ h9 => h9) rfl dX6_forward_22 ?_
    rw [e15]
    refine lv_if_le (tgt := 30) hx hb dX6_forward_25 (by decide) (fun c9 => absurd c9 (by decide)) (fun _ => ?_)
    refine lv_iconst (v := 0) hx hb dX6_forward_28 (by decide) ?_
    subst hQ9
    exact t_i hx hb hr hlocks hT R11 dX6_forward_29
  · have c2 := gi_ne c9
    refine lv_iconst (v := 0) hx hb dX6_forward_13 (by decide) ?_
    refine lv_goto (tgt := 18) hx hb dX6_forward_14 (by decide) ?_
    have hTo := hT
    refine pf20_0 hx hb hg hown hK hT (hT.k t_this (by decide)) rfl (hg _ k1219) dX6_forward_18 (fun H locs s16 hus16 hT => ?_)
    have R17 : RI κ s16 this := R4.put hus16 (hTo.k t_this (by decide)) (by decide)
    have B18 := R17.b
    rw [erW] at B18
    have K19 : zI s16 this 7 = zI σ0 this 7 := hT.eI t_this (by decide) rfl rfl
    have K19n : (zI s16 this 7).toInt = (zI σ0 this 7).toInt := by rw [K19]
    have P20 : zI s16 rP = zI σ0 rP := funext fun k => hT.eI trP (by decide) rfl rfl
    try simp only [K19, P20] at B18
    have e21 : zI s16 this 0 = 0 := zput_at hus16
    refine lv_aload_n hx hb dX6_forward_21 rfl (lv_at hl 0 rfl) ?_
    refine va_get (D := κ.1) (ci := 6) (v := .int (zI s16 this 0)) (C := RX6) (T := TX6) (N := 27) hx hb hg inX6 hown hK (hT.o20 (hT.k t_this (by decide))).one 0 rfl rfl 0 (by decide) (hg _ k1219) (fun _ h9 => h9) rfl dX6_forward_22 ?_
    rw [e21]
    refine lv_if_le (tgt := 30) hx hb dX6_forward_25 (by decide) (fun _ => ?_) (fun c9 => absurd (by decide) c9)
    refine lv_aload_n hx hb dX6_forward_30 rfl (lv_at hl 0 rfl) ?_
    have hTo := hT
    refine tVi (n := 0) (As := []) (rest := []) hx hb hml hown hg hT hK hX (X6_nextOne l κ s16 this  (hT.k t_this (by decide)) R17) sub_fE_gX (mwV k1523 k1525 k63 k92 k1526) ⟨rfl, by decide, by decide, by decide +kernel⟩ ⟨(Nat.le_of_ble_eq_true rfl), (Nat.le_of_ble_eq_true rfl)⟩ (hT.o20 (hT.k t_this (by decide))) rfl rfl hl.1 rfl (Nat.le_of_ble_eq_true rfl) dX6_forward_31 zroom.rf (fun x22 s23 H locs hφ hEs23 hT => ?_)
    have e21 : zI s23 this 0 = 0 := ((hTo.k t_this (by decide)).eI hEs23 (by decide) rfl).trans e21
    have R24 : RI κ s23 this := R17.ext hEs23 ⟨rfl, rfl, fun _ => rfl, fun _ => rfl, fun _ => rfl, fun _ => rfl⟩
    have B25 := R24.b
    rw [erW] at B25
    have K26 : zI s23 this 7 = zI σ0 this 7 := hT.eI t_this (by decide) rfl rfl
    have K26n : (zI s23 this 7).toInt = (zI σ0 this 7).toInt := by rw [K26]
    have P27 : zI s23 rP = zI σ0 rP := funext fun k => hT.eI trP (by decide) rfl rfl
    try simp only [K26, P27] at B25
    have f28 := hφ
    try simp only [erW, erP, ix_0, ix_1, ix_2, ix_3, ix_4, ix_5, ix_6, ix_7, ix_8, ix_9, K19, P20, K26, P27] at f28
    refine lv_iconst (v := (-1)) hx hb dX6_forward_34 (by decide) ?_
    refine lv_icmp_ne (tgt := 49) hx hb dX6_forward_35 (by decide) (fun c9 => ?_) (fun c9 => ?_)
    · have c3 := gi_ne c9
      refine lv_aload_n hx hb dX6_forward_49 rfl (lv_at hl 0 rfl) ?_
      refine lv_iload_n hx hb dX6_forward_50 rfl (lv_at hl 1 rfl) ?_
      have hTo := hT
      refine tVi (n := 1) (As := [.int mo]) (rest := []) hx hb hml hown hg hT hK hX (X6_goesOn l κ s23 this mo  (hT.k t_this (by decide)) R24 (by omega)) sub_gW_gX (mwV k1588 k1590 k71 k92 k1591) ⟨rfl, by decide, by decide, by decide +kernel⟩ ⟨(Nat.le_of_ble_eq_true rfl), (Nat.le_of_ble_eq_true rfl)⟩ (hT.o20 (hT.k t_this (by decide))) rfl rfl hl.1 rfl (Nat.le_of_ble_eq_true rfl) dX6_forward_51 zroom.rf (fun x29 s30 H locs hφ hEs30 hT => ?_)
      have e21 : zI s30 this 0 = 0 := ((hTo.k t_this (by decide)).eI hEs30 (by decide) rfl).trans e21
      have f32 := hφ
      have B33 := f32.b
      rw [erW] at B33
      have K34 : zI s30 this 7 = zI σ0 this 7 := hT.eI t_this (by decide) rfl rfl
      have K34n : (zI s30 this 7).toInt = (zI σ0 this 7).toInt := by rw [K34]
      have P35 : zI s30 rP = zI σ0 rP := funext fun k => hT.eI trP (by decide) rfl rfl
      try simp only [K34, P35] at B33
      subst hQ9
      exact t_i hx hb hr hlocks hT f32 dX6_forward_54
    · have c4 := gi_eq c9
      refine lv_aload_n hx hb dX6_forward_38 rfl (lv_at hl 0 rfl) ?_
      refine lv_iconst (v := 2) hx hb dX6_forward_39 (by decide) ?_
      refine lv_iconst (v := 1) hx hb dX6_forward_40 (by decide) ?_
      refine lv_iconst (v := 0) hx hb dX6_forward_41 (by decide) ?_
      refine lv_iconst (v := (-1)) hx hb dX6_forward_42 (by decide) ?_
      have hTo := hT
      refine tVi (n := 4) (As := [.int 2, .int 1, .int 0, .int (-1)]) (rest := []) hx hb hml hown hg hT hK hX (X6_stateFails l κ s23 this 2 1 0 (-1)  (hT.k t_this (by decide)) R24) sub_gR_gX (mwV k1569 k1571 k70 k92 k1572) ⟨rfl, by decide, by decide, by decide +kernel⟩ ⟨(Nat.le_of_ble_eq_true rfl), (Nat.le_of_ble_eq_true rfl)⟩ (hT.o20 (hT.k t_this (by decide))) rfl rfl hl.1 rfl (Nat.le_of_ble_eq_true rfl) dX6_forward_43 zroom.rf (fun x36 s37 H locs hφ hEs37 hT => ?_)
      have R38 : RI κ s37 this := R24.ext hEs37 ⟨rfl, rfl, fun _ => rfl, fun _ => rfl, fun _ => rfl, fun _ => rfl⟩
      have B39 := R38.b
      rw [erW] at B39
      have K40 : zI s37 this 7 = zI σ0 this 7 := hT.eI t_this (by decide) rfl rfl
      have K40n : (zI s37 this 7).toInt = (zI σ0 this 7).toInt := by rw [K40]
      have P41 : zI s37 rP = zI σ0 rP := funext fun k => hT.eI trP (by decide) rfl rfl
      try simp only [K40, P41] at B39
      refine lv_goto (tgt := 54) hx hb dX6_forward_46 (by decide) ?_
      subst hQ9
      exact t_i hx hb hr hlocks hT R38 dX6_forward_54
